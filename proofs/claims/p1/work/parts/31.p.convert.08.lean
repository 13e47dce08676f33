set_option maxRecDepth 100000 in
set_option maxHeartbeats 4000000 in
theorem c_DR_written_2 (l : Launch) (D : va_G) (g : Nat → ClassId) (ws : va_W) (kO0 kA2 kA3 kA4 kA5 kA10 qO0 qA1 qA2 qA3 qA4 qA5 qA6 qA7 qA8 qA9 qA10 : Nat) (x1 : Int32) (hO0 : ws[kO0]? = (some (qO0, .inr (14, [.int 0, .ref qA1, .int 0, .ref qA2, .ref qA3, .ref qA4, .ref qA5, .ref qA6, .int 0, .long 0, .int 0, .int 0, .ref qA7, .int 0, .ref qA8, .int 0, .ref qA9, .int 0, .ref qA10, .int 0, .int 0])) : Option (Nat × va_E))) (hA2 : ws[kA2]? = (some (qA2, .inl (g 0, 10000, .inl (fun _ => 0))) : Option (Nat × va_E))) (hA3 : ws[kA3]? = (some (qA3, .inl (g 0, 10, .inl (upd (upd (upd (upd (upd (upd (upd (upd (upd (upd (fun _ => 0) 0 1) 1 1) 2 1) 3 1) 4 1) 5 1) 6 1) 7 1) 8 1) 9 1))) : Option (Nat × va_E))) (hA4 : ws[kA4]? = (some (qA4, .inl (g 3, 10, .inl (fun _ => 0))) : Option (Nat × va_E))) (hA5 : ws[kA5]? = (some (qA5, .inl (g 0, 10, .inl (fun _ => 0))) : Option (Nat × va_E))) (hA10 : ws[kA10]? = (some (qA10, .inl (g 0, 12200, .inl (fun _ => 0))) : Option (Nat × va_E))) (n_A2_A10 : kA2 ≠ kA10) (n_A3_A10 : kA3 ≠ kA10) (n_A4_A10 : kA4 ≠ kA10) (n_A5_A10 : kA5 ≠ kA10) (x1lo : 0 ≤ x1) (x1hi : x1 ≤ 9) : q_mI l y_DR_written prog_15_method_53_code 7 (.int) 3 0 0 D g [.ref qO0, .int x1, .int 0] ws (fun r u => 1 = r ∧ q_un ws u [kO0, kA10] ∧ u[kO0]? = (some (qO0, .inr (14, [.int 0, .ref qA1, .int 0, .ref qA2, .ref qA3, .ref qA4, .ref qA5, .ref qA6, .int 0, .long 0, .int 0, .int 0, .ref qA7, .int 0, .ref qA8, .int 0, .ref qA9, .int 0, .ref qA10, .int 1, .int 0])) : Option (Nat × va_E)) ∧ u[kA10]? = (some (qA10, .inl (g 0, 12200, .inl (upd (fun _ => 0) 0 48))) : Option (Nat × va_E))) := by
  intro sz
  refine q_into (by decide) (Nat.le_of_ble_eq_true rfl) ?_
  intro p e s m below meth c ls hsz C0 V hl
  have hx := C0.1
  have hb := C0.2.1
  have hl : lv_has ls 7 [(0, .ref qO0), (1, .int x1), (2, .int 0)] := hl
  have n_A10_O0 := q_df hA10 hO0
  have n_A2_O0 := q_df hA2 hO0
  have n_A3_O0 := q_df hA3 hO0
  have n_A4_O0 := q_df hA4 hO0
  have n_A5_O0 := q_df hA5 hO0
  have hF : q_un ws ws [kO0, kA10] := q_u0
  refine lv_aload_n hx hb d_15_53_0 rfl (lv_at hl 0 rfl) ?_
  refine lv_iload_n hx hb d_15_53_1 rfl (lv_at hl 1 rfl) ?_
  refine q_goi V (q_runS (As := [.int x1]) (rest := [.ref qO0]) (d := 1) (mc := 0) (ms := 0) C0 V rfl LS_DR_113 (c_DR_no l D g ws x1 x1lo x1hi _) rfl hl.1 rfl (Nat.le_of_ble_eq_true rfl) ⟨by decide, by decide⟩ ⟨Nat.le_of_ble_eq_true rfl, Nat.le_of_ble_eq_true rfl⟩ d_15_53_2) (fun v3 u2 H locs hp1 V => ?_)
  obtain ⟨rfl, rfl⟩ := hp1
  refine lv_if_ne (tgt := 17) hx hb d_15_53_5 (by decide) (fun c5 => absurd (by decide) c5) (fun c5 => ?_)
  refine lv_iload_n hx hb d_15_53_8 rfl (lv_at hl 2 rfl) ?_
  refine lv_if_lt (tgt := 17) hx hb d_15_53_9 (by decide) (fun c6 => absurd c6 (by decide)) (fun c6 => ?_)
  refine lv_iload_n hx hb d_15_53_12 rfl (lv_at hl 2 rfl) ?_
  refine lv_iconst (v := 2) hx hb d_15_53_13 (by decide) ?_
  refine lv_icmp_le (tgt := 21) hx hb d_15_53_14 (by decide) (fun c7 => ?_) (fun c7 => absurd (by decide) c7)
  refine lv_iconst (v := 0) hx hb d_15_53_21 (by decide) ?_
  refine q_put (ci := 14) (j := 0) (v := .int 0) (ty := .int) C0 V i_DR o_DR n_DR rfl rfl hO0 (by decide) w_1996 rfl rfl rfl rfl (Nat.le_of_ble_eq_true rfl) d_15_53_22 (fun H locs w8 hu9 hO0 V => ?_)
  replace hO0 : w8[kO0]? = (some (qO0, .inr (14, [.int 0, .ref qA1, .int 0, .ref qA2, .ref qA3, .ref qA4, .ref qA5, .ref qA6, .int 0, .long 0, .int 0, .int 0, .ref qA7, .int 0, .ref qA8, .int 0, .ref qA9, .int 0, .ref qA10, .int 0, .int 0])) : Option (Nat × va_E)) := hO0
  replace hF := q_us hF hu9 (.head _)
  refine lv_aload_n hx hb d_15_53_25 rfl (lv_at hl 0 rfl) ?_
  refine q_get (ci := 14) (j := 0) (v := .int 0) C0 V i_DR rfl rfl hO0 (by decide) w_1996 rfl d_15_53_26 ?_
  refine lv_if_le (tgt := 34) hx hb d_15_53_29 (by decide) (fun c10 => ?_) (fun c10 => absurd (by decide) c10)
  refine lv_aload_n hx hb d_15_53_34 rfl (lv_at hl 0 rfl) ?_
  refine lv_iconst (v := 0) hx hb d_15_53_35 (by decide) ?_
  refine q_put (ci := 14) (j := 19) (v := .int 0) (ty := .int) C0 V i_DR o_DR n_DR rfl rfl hO0 (by decide) w_2023 rfl rfl rfl rfl (Nat.le_of_ble_eq_true rfl) d_15_53_36 (fun H locs w11 hu12 hO0 V => ?_)
  replace hO0 : w11[kO0]? = (some (qO0, .inr (14, [.int 0, .ref qA1, .int 0, .ref qA2, .ref qA3, .ref qA4, .ref qA5, .ref qA6, .int 0, .long 0, .int 0, .int 0, .ref qA7, .int 0, .ref qA8, .int 0, .ref qA9, .int 0, .ref qA10, .int 0, .int 0])) : Option (Nat × va_E)) := hO0
  replace hF := q_us hF hu12 (.head _)
  refine lv_aload_n hx hb d_15_53_39 rfl (lv_at hl 0 rfl) ?_
  refine q_get (ci := 14) (j := 5) (v := .ref qA4) C0 V i_DR rfl rfl hO0 (by decide) w_2006 rfl d_15_53_40 ?_
  refine lv_iload_n hx hb d_15_53_43 rfl (lv_at hl 1 rfl) ?_
  replace hA4 := (hu12 _ n_A4_O0).trans ((hu9 _ n_A4_O0).trans (hA4))
  refine q_zald C0 V hA4 (q_ix (x := x1.toInt) rfl (by have t1 : 0 ≤ x1.toInt := q_leI x1lo; have t2 : x1.toInt ≤ 9 := q_leI x1hi; omega) (by have t1 : 0 ≤ x1.toInt := q_leI x1lo; have t2 : x1.toInt ≤ 9 := q_leI x1hi; omega)) d_15_53_44 ?_
  refine q_ti (v := 0) (by first | rfl | decide | simp [upd, vp_updL, sb_cl0]) ?_
  refine lv_if_eq (tgt := 54) hx hb d_15_53_45 (by decide) (fun c13 => ?_) (fun c13 => absurd (by decide) c13)
  refine lv_aload_n hx hb d_15_53_54 rfl (lv_at hl 0 rfl) ?_
  refine q_get (ci := 14) (j := 4) (v := .ref qA3) C0 V i_DR rfl rfl hO0 (by decide) w_2004 rfl d_15_53_55 ?_
  refine lv_iload_n hx hb d_15_53_58 rfl (lv_at hl 1 rfl) ?_
  replace hA3 := (hu12 _ n_A3_O0).trans ((hu9 _ n_A3_O0).trans (hA3))
  refine q_iald C0 V hA3 (q_ix (x := x1.toInt) rfl (by have t1 : 0 ≤ x1.toInt := q_leI x1lo; have t2 : x1.toInt ≤ 9 := q_leI x1hi; omega) (by have t1 : 0 ≤ x1.toInt := q_leI x1lo; have t2 : x1.toInt ≤ 9 := q_leI x1hi; omega)) d_15_53_59 ?_
  refine q_ti (v := 1) (by have hj := q_clI (x := x1.toInt) rfl (by have t1 : 0 ≤ x1.toInt := q_leI x1lo; have t2 : x1.toInt ≤ 9 := q_leI x1hi; omega); have hk : x1.toNatClampNeg < 10 ∧ 0 ≤ x1.toNatClampNeg := (by have t1 : 0 ≤ x1.toInt := q_leI x1lo; have t2 : x1.toInt ≤ 9 := q_leI x1hi; omega); clear hj; generalize x1.toNatClampNeg = j at hk ⊢; rcases (show j = 0 ∨ j = 1 ∨ j = 2 ∨ j = 3 ∨ j = 4 ∨ j = 5 ∨ j = 6 ∨ j = 7 ∨ j = 8 ∨ j = 9 by omega) with rfl | rfl | rfl | rfl | rfl | rfl | rfl | rfl | rfl | rfl <;> rfl) ?_
  refine lv_istore_n (lv' := [(3, .int 1), (0, .ref qO0), (1, .int x1), (2, .int 0)]) hx hb d_15_53_60 rfl hl (by decide) rfl (fun ls hl => ?_)
  refine lv_aload_n hx hb d_15_53_61 rfl (lv_at hl 1 rfl) ?_
  refine q_get (ci := 14) (j := 6) (v := .ref qA5) C0 V i_DR rfl rfl hO0 (by decide) w_2008 rfl d_15_53_62 ?_
  refine lv_iload_n hx hb d_15_53_65 rfl (lv_at hl 2 rfl) ?_
  replace hA5 := (hu12 _ n_A5_O0).trans ((hu9 _ n_A5_O0).trans (hA5))
  refine q_iald C0 V hA5 (q_ix (x := x1.toInt) rfl (by have t1 : 0 ≤ x1.toInt := q_leI x1lo; have t2 : x1.toInt ≤ 9 := q_leI x1hi; omega) (by have t1 : 0 ≤ x1.toInt := q_leI x1lo; have t2 : x1.toInt ≤ 9 := q_leI x1hi; omega)) d_15_53_66 ?_
  refine q_ti (v := 0) (by first | rfl | decide | simp [upd, vp_updL, sb_cl0]) ?_
  refine lv_istore (lv' := [(4, .int 0), (3, .int 1), (0, .ref qO0), (1, .int x1), (2, .int 0)]) hx hb d_15_53_67 hl (by decide) rfl (fun ls hl => ?_)
  refine lv_iload_n hx hb d_15_53_69 rfl (lv_at hl 1 rfl) ?_
  refine lv_iconst (v := 1) hx hb d_15_53_70 (by decide) ?_
  refine lv_isub hx hb d_15_53_71 ?_
  refine q_ti (v := 0) (by decide) ?_
  refine lv_iload hx hb d_15_53_72 (lv_at hl 0 rfl) ?_
  refine lv_isub hx hb d_15_53_74 ?_
  refine q_ti (v := 0) (by decide) ?_
  refine lv_istore (lv' := [(5, .int 0), (4, .int 0), (3, .int 1), (0, .ref qO0), (1, .int x1), (2, .int 0)]) hx hb d_15_53_75 hl (by decide) rfl (fun ls hl => ?_)
  refine lv_iload_n hx hb d_15_53_77 rfl (lv_at hl 5 rfl) ?_
  refine lv_iconst (v := 1) hx hb d_15_53_78 (by decide) ?_
  refine lv_icmp_ne (tgt := 113) hx hb d_15_53_79 (by decide) (fun c14 => ?_) (fun c14 => absurd c14 (by decide))
  refine lv_iload hx hb d_15_53_113 (lv_at hl 1 rfl) ?_
  refine lv_if_lt (tgt := 170) hx hb d_15_53_115 (by decide) (fun c15 => absurd c15 (by decide)) (fun c15 => ?_)
  refine lv_iload_n hx hb d_15_53_118 rfl (lv_at hl 5 rfl) ?_
  refine lv_iconst (v := 1) hx hb d_15_53_119 (by decide) ?_
  refine lv_icmp_eq (tgt := 130) hx hb d_15_53_120 (by decide) (fun c16 => absurd c16 (by decide)) (fun c16 => ?_)
  refine lv_iload hx hb d_15_53_123 (lv_at hl 0 rfl) ?_
  refine lv_bipush (v := (-6)) hx hb d_15_53_125 (by decide) ?_
  refine lv_icmp_lt (tgt := 170) hx hb d_15_53_127 (by decide) (fun c17 => absurd c17 (by decide)) (fun c17 => ?_)
  refine lv_aload_n hx hb d_15_53_130 rfl (lv_at hl 3 rfl) ?_
  refine lv_iload_n hx hb d_15_53_131 rfl (lv_at hl 4 rfl) ?_
  refine lv_iload_n hx hb d_15_53_132 rfl (lv_at hl 2 rfl) ?_
  refine lv_iload hx hb d_15_53_133 (lv_at hl 1 rfl) ?_
  refine lv_isub hx hb d_15_53_135 ?_
  refine q_ti (v := 1) (by decide) ?_
  refine lv_iconst (v := 1) hx hb d_15_53_136 (by decide) ?_
  refine lv_icmp_ge (tgt := 149) hx hb d_15_53_137 (by decide) (fun c18 => ?_) (fun c18 => absurd (by decide) c18)
  refine lv_iconst (v := 0) hx hb d_15_53_149 (by decide) ?_
  refine lv_iload_n hx hb d_15_53_150 rfl (lv_at hl 2 rfl) ?_
  refine lv_iload hx hb d_15_53_151 (lv_at hl 1 rfl) ?_
  refine lv_if_ne (tgt := 160) hx hb d_15_53_153 (by decide) (fun c19 => absurd (by decide) c19) (fun c19 => ?_)
  refine lv_iconst (v := (-1)) hx hb d_15_53_156 (by decide) ?_
  refine lv_goto (tgt := 164) hx hb d_15_53_157 (by decide) ?_
  replace hA2 := (hu12 _ n_A2_O0).trans ((hu9 _ n_A2_O0).trans (hA2))
  replace hA10 := (hu12 _ n_A10_O0).trans ((hu9 _ n_A10_O0).trans (hA10))
  refine q_gov V (q_runV (As := [.int x1, .int 0, .int 1, .int (-1)]) (rest := []) (d := 2) (mc := 0) (ms := 0) (ci := 14) C0 V rfl LV_DR_192 (c_DR_figures l D g w11 kO0 kA2 kA3 kA10 qO0 qA1 qA2 qA3 qA4 qA5 qA6 qA7 qA8 qA9 qA10 x1 hO0 hA2 hA3 hA10 n_A2_A10 n_A3_A10 x1lo x1hi _) rfl rfl hO0 rfl hl.1 rfl (Nat.le_of_ble_eq_true rfl) ⟨by decide, by decide⟩ ⟨Nat.le_of_ble_eq_true rfl, Nat.le_of_ble_eq_true rfl⟩ d_15_53_164) (fun u21 H locs hp20 V => ?_)
  obtain ⟨hg22, hO0, hA10⟩ := hp20
  replace hF := q_uc hF hg22 (q_sc (.head _) (q_sc (.tail _ (.head _)) (fun _ h => absurd h List.not_mem_nil)))
  refine lv_goto (tgt := 289) hx hb d_15_53_167 (by decide) ?_
  refine lv_aload_n hx hb d_15_53_289 rfl (lv_at hl 3 rfl) ?_
  refine q_get (ci := 14) (j := 19) (v := .int 1) C0 V i_DR rfl rfl hO0 (by decide) w_2023 rfl d_15_53_290 ?_
  exact q_reti C0 V (⟨rfl, hF, hO0, hA10⟩) d_15_53_293
set_option maxRecDepth 100000 in
set_option maxHeartbeats 4000000 in
theorem c_NM_load_6 (l : Launch) (D : va_G) (g : Nat → ClassId) (ws : va_W) ( qA0 qA1 : Nat) (hA0 : ws[144]? = (some (qA0, .inl (g 0, 12200, .inl (upd (fun _ => 0) 0 48))) : Option (Nat × va_E))) (hA1 : ws[154]? = (some (qA1, .inl (g 0, 4100, .inl (fun _ => 0))) : Option (Nat × va_E))) : q_mI l y_NM_load prog_14_method_7_code 4 (.int) 1 0 0 D g [.ref qA0, .int 1, .ref qA1] ws (fun r u => 1 = r ∧ q_un ws u [154] ∧ u[154]? = (some (qA1, .inl (g 0, 4100, .inl (upd (fun _ => 0) 0 48))) : Option (Nat × va_E))) := by
  intro sz
  refine q_into (by decide) (Nat.le_of_ble_eq_true rfl) ?_
  intro p e s m below meth c ls hsz C0 V hl
  have hx := C0.1
  have hb := C0.2.1
  have hl : lv_has ls 4 [(0, .ref qA0), (1, .int 1), (2, .ref qA1)] := hl
  have hF : q_un ws ws [154] := q_u0
  refine lv_iconst (v := 0) hx hb d_14_7_0 (by decide) ?_
  refine lv_istore_n (lv' := [(3, .int 0), (0, .ref qA0), (1, .int 1), (2, .ref qA1)]) hx hb d_14_7_1 rfl hl (by decide) rfl (fun ls hl => ?_)
  refine lv_iload_n hx hb d_14_7_2 rfl (lv_at hl 0 rfl) ?_
  refine lv_iload_n hx hb d_14_7_3 rfl (lv_at hl 2 rfl) ?_
  refine lv_icmp_ge (tgt := 19) hx hb d_14_7_4 (by decide) (fun c1 => absurd c1 (by decide)) (fun c1 => ?_)
  refine lv_aload_n hx hb d_14_7_7 rfl (lv_at hl 3 rfl) ?_
  refine lv_iload_n hx hb d_14_7_8 rfl (lv_at hl 0 rfl) ?_
  refine lv_aload_n hx hb d_14_7_9 rfl (lv_at hl 1 rfl) ?_
  refine lv_iload_n hx hb d_14_7_10 rfl (lv_at hl 0 rfl) ?_
  refine q_iald C0 V hA0 (by unfold vp_in; decide) d_14_7_11 ?_
  refine q_ti (v := 48) (by first | rfl | decide | simp [upd, vp_updL, sb_cl0]) ?_
  refine q_iast C0 V hA1 (by unfold vp_in; decide) d_14_7_12 (fun H locs w2 hu3 hA1 V => ?_)
  replace hA1 : w2[154]? = (some (qA1, .inl (g 0, 4100, .inl (upd (fun _ => 0) 0 48))) : Option (Nat × va_E)) := hA1
  replace hF := q_us hF hu3 (.head _)
  refine lv_iinc (v := 1) (lv' := [(3, .int 1), (0, .ref qA0), (1, .int 1), (2, .ref qA1)]) hx hb d_14_7_13 hl (k := 0) rfl (by decide) (by decide) rfl (fun ls hl => ?_)
  refine lv_goto (tgt := 2) hx hb d_14_7_16 (by decide) ?_
  refine lv_iload_n hx hb d_14_7_2 rfl (lv_at hl 0 rfl) ?_
  refine lv_iload_n hx hb d_14_7_3 rfl (lv_at hl 2 rfl) ?_
  refine lv_icmp_ge (tgt := 19) hx hb d_14_7_4 (by decide) (fun c4 => ?_) (fun c4 => absurd (by decide) c4)
  refine lv_iload_n hx hb d_14_7_19 rfl (lv_at hl 2 rfl) ?_
  exact q_reti C0 V (⟨rfl, hF, hA1⟩) d_14_7_20
theorem d_18_15_0 : decode prog_18_method_15_code 0 = .ok (.aload_n 0, 1) := by decide +kernel
theorem d_18_15_1 : decode prog_18_method_15_code 1 = .ok (.getfield 28, 3) := by decide +kernel
theorem w_2144 : (Cond.fieldLink "NumberHouseModel$TextRows" (28 : Nat) "NumberHouseModel$TextRows" "place" "I") ∈ q_tbl := q_of 2144 (by decide +kernel) (by decide +kernel)
theorem d_18_15_4 : decode prog_18_method_15_code 4 = .ok (.aload_n 0, 1) := by decide +kernel
theorem d_18_15_5 : decode prog_18_method_15_code 5 = .ok (.getfield 25, 3) := by decide +kernel
theorem w_2141 : (Cond.fieldLink "NumberHouseModel$TextRows" (25 : Nat) "NumberHouseModel$TextRows" "length" "I") ∈ q_tbl := q_of 2141 (by decide +kernel) (by decide +kernel)
theorem d_18_15_8 : decode prog_18_method_15_code 8 = .ok (.if_icmp .ge 30, 3) := by decide +kernel
theorem d_18_15_11 : decode prog_18_method_15_code 11 = .ok (.aload_n 0, 1) := by decide +kernel
theorem d_18_15_12 : decode prog_18_method_15_code 12 = .ok (.getfield 7, 3) := by decide +kernel
theorem d_18_15_15 : decode prog_18_method_15_code 15 = .ok (.aload_n 0, 1) := by decide +kernel
theorem d_18_15_16 : decode prog_18_method_15_code 16 = .ok (.getfield 28, 3) := by decide +kernel
theorem d_18_15_19 : decode prog_18_method_15_code 19 = .ok (.iaload, 1) := by decide +kernel
theorem d_18_15_20 : decode prog_18_method_15_code 20 = .ok (.bipush 32, 2) := by decide +kernel
theorem d_18_15_22 : decode prog_18_method_15_code 22 = .ok (.if_icmp .gt 16, 3) := by decide +kernel
theorem d_18_15_38 : decode prog_18_method_15_code 38 = .ok (.return_, 1) := by decide +kernel
def y_TR_blanks : MethodName := ⟨"NumberHouseModel$TextRows", "blanks", "()V"⟩
set_option maxRecDepth 100000 in
set_option maxHeartbeats 4000000 in
theorem c_TR_blanks (l : Launch) (D : va_G) (g : Nat → ClassId) (ws : va_W) (kO0 kA1 qO0 qA1 qA2 qA3 : Nat) (hO0 : ws[kO0]? = (some (qO0, .inr (16, [.int 0, .ref qA1, .int 1, .int 0, .int 0, .int 0, .ref qA2, .int 0, .int 0, .long 0, .ref qA3, .int 0, .int 0, .long 0, .long 0, .int 0, .int 0])) : Option (Nat × va_E))) (hA1 : ws[kA1]? = (some (qA1, .inl (g 0, 4100, .inl (upd (fun _ => 0) 0 48))) : Option (Nat × va_E))) : q_mV l y_TR_blanks prog_18_method_15_code 1 1 0 0 D g [.ref qO0] ws (fun u => ws = u) := by
  intro sz
  refine q_into (by decide) (Nat.le_of_ble_eq_true rfl) ?_
  intro p e s m below meth c ls hsz C0 V hl
  have hx := C0.1
  have hb := C0.2.1
  have hl : lv_has ls 1 [(0, .ref qO0)] := hl
  refine lv_aload_n hx hb d_18_15_0 rfl (lv_at hl 0 rfl) ?_
  refine q_get (ci := 16) (j := 4) (v := .int 0) C0 V i_TR rfl rfl hO0 (by decide) w_2144 rfl d_18_15_1 ?_
  refine lv_aload_n hx hb d_18_15_4 rfl (lv_at hl 0 rfl) ?_
  refine q_get (ci := 16) (j := 2) (v := .int 1) C0 V i_TR rfl rfl hO0 (by decide) w_2141 rfl d_18_15_5 ?_
  refine lv_icmp_ge (tgt := 38) hx hb d_18_15_8 (by decide) (fun c1 => absurd c1 (by decide)) (fun c1 => ?_)
  refine lv_aload_n hx hb d_18_15_11 rfl (lv_at hl 0 rfl) ?_
  refine q_get (ci := 16) (j := 1) (v := .ref qA1) C0 V i_TR rfl rfl hO0 (by decide) w_2139 rfl d_18_15_12 ?_
  refine lv_aload_n hx hb d_18_15_15 rfl (lv_at hl 0 rfl) ?_
  refine q_get (ci := 16) (j := 4) (v := .int 0) C0 V i_TR rfl rfl hO0 (by decide) w_2144 rfl d_18_15_16 ?_
  refine q_iald C0 V hA1 (by unfold vp_in; decide) d_18_15_19 ?_
  refine q_ti (v := 48) (by first | rfl | decide | simp [upd, vp_updL, sb_cl0]) ?_
  refine lv_bipush (v := 32) hx hb d_18_15_20 (by decide) ?_
  refine lv_icmp_gt (tgt := 38) hx hb d_18_15_22 (by decide) (fun c2 => ?_) (fun c2 => absurd (by decide) c2)
  exact q_retv C0 V (rfl) d_18_15_38
theorem d_18_7_0 : decode prog_18_method_7_code 0 = .ok (.aload_n 0, 1) := by decide +kernel
theorem d_18_7_1 : decode prog_18_method_7_code 1 = .ok (.getfield 28, 3) := by decide +kernel
theorem d_18_7_4 : decode prog_18_method_7_code 4 = .ok (.aload_n 0, 1) := by decide +kernel
theorem d_18_7_5 : decode prog_18_method_7_code 5 = .ok (.getfield 25, 3) := by decide +kernel
theorem d_18_7_8 : decode prog_18_method_7_code 8 = .ok (.if_icmp .ge 15, 3) := by decide +kernel
theorem d_18_7_11 : decode prog_18_method_7_code 11 = .ok (.aload_n 0, 1) := by decide +kernel
theorem d_18_7_12 : decode prog_18_method_7_code 12 = .ok (.getfield 7, 3) := by decide +kernel
theorem d_18_7_15 : decode prog_18_method_7_code 15 = .ok (.aload_n 0, 1) := by decide +kernel
theorem d_18_7_16 : decode prog_18_method_7_code 16 = .ok (.getfield 28, 3) := by decide +kernel
theorem d_18_7_19 : decode prog_18_method_7_code 19 = .ok (.iaload, 1) := by decide +kernel
theorem d_18_7_20 : decode prog_18_method_7_code 20 = .ok (.goto 4, 3) := by decide +kernel
theorem d_18_7_24 : decode prog_18_method_7_code 24 = .ok (.ireturn, 1) := by decide +kernel
def y_TR_here : MethodName := ⟨"NumberHouseModel$TextRows", "here", "()I"⟩
set_option maxRecDepth 100000 in
set_option maxHeartbeats 4000000 in
theorem c_TR_here (l : Launch) (D : va_G) (g : Nat → ClassId) (ws : va_W) (kO0 kA1 qO0 qA1 qA2 qA3 : Nat) (hO0 : ws[kO0]? = (some (qO0, .inr (16, [.int 0, .ref qA1, .int 1, .int 0, .int 0, .int 0, .ref qA2, .int 0, .int 0, .long 0, .ref qA3, .int 0, .int 0, .long 0, .long 0, .int 0, .int 0])) : Option (Nat × va_E))) (hA1 : ws[kA1]? = (some (qA1, .inl (g 0, 4100, .inl (upd (fun _ => 0) 0 48))) : Option (Nat × va_E))) : q_mI l y_TR_here prog_18_method_7_code 1 (.int) 1 0 0 D g [.ref qO0] ws (fun r u => 48 = r ∧ ws = u) := by
  intro sz
  refine q_into (by decide) (Nat.le_of_ble_eq_true rfl) ?_
  intro p e s m below meth c ls hsz C0 V hl
  have hx := C0.1
  have hb := C0.2.1
  have hl : lv_has ls 1 [(0, .ref qO0)] := hl
  refine lv_aload_n hx hb d_18_7_0 rfl (lv_at hl 0 rfl) ?_
  refine q_get (ci := 16) (j := 4) (v := .int 0) C0 V i_TR rfl rfl hO0 (by decide) w_2144 rfl d_18_7_1 ?_
  refine lv_aload_n hx hb d_18_7_4 rfl (lv_at hl 0 rfl) ?_
  refine q_get (ci := 16) (j := 2) (v := .int 1) C0 V i_TR rfl rfl hO0 (by decide) w_2141 rfl d_18_7_5 ?_
  refine lv_icmp_ge (tgt := 23) hx hb d_18_7_8 (by decide) (fun c1 => absurd c1 (by decide)) (fun c1 => ?_)
  refine lv_aload_n hx hb d_18_7_11 rfl (lv_at hl 0 rfl) ?_
  refine q_get (ci := 16) (j := 1) (v := .ref qA1) C0 V i_TR rfl rfl hO0 (by decide) w_2139 rfl d_18_7_12 ?_
  refine lv_aload_n hx hb d_18_7_15 rfl (lv_at hl 0 rfl) ?_
  refine q_get (ci := 16) (j := 4) (v := .int 0) C0 V i_TR rfl rfl hO0 (by decide) w_2144 rfl d_18_7_16 ?_
  refine q_iald C0 V hA1 (by unfold vp_in; decide) d_18_7_19 ?_
  refine q_ti (v := 48) (by first | rfl | decide | simp [upd, vp_updL, sb_cl0]) ?_
  refine lv_goto (tgt := 24) hx hb d_18_7_20 (by decide) ?_
  exact q_reti C0 V (⟨rfl, rfl⟩) d_18_7_24
set_option maxRecDepth 100000 in
set_option maxHeartbeats 4000000 in
theorem c_TR_here_2 (l : Launch) (D : va_G) (g : Nat → ClassId) (ws : va_W) (kO0 kA1 qO0 qA1 qA2 qA3 : Nat) (hO0 : ws[kO0]? = (some (qO0, .inr (16, [.int 0, .ref qA1, .int 1, .int 0, .int 0, .int 0, .ref qA2, .int 0, .int (-1), .long 0, .ref qA3, .int 0, .int 0, .long 0, .long 0, .int 0, .int 0])) : Option (Nat × va_E))) (hA1 : ws[kA1]? = (some (qA1, .inl (g 0, 4100, .inl (upd (fun _ => 0) 0 48))) : Option (Nat × va_E))) : q_mI l y_TR_here prog_18_method_7_code 1 (.int) 1 0 0 D g [.ref qO0] ws (fun r u => 48 = r ∧ ws = u) := by
  intro sz
  refine q_into (by decide) (Nat.le_of_ble_eq_true rfl) ?_
  intro p e s m below meth c ls hsz C0 V hl
  have hx := C0.1
  have hb := C0.2.1
  have hl : lv_has ls 1 [(0, .ref qO0)] := hl
  refine lv_aload_n hx hb d_18_7_0 rfl (lv_at hl 0 rfl) ?_
  refine q_get (ci := 16) (j := 4) (v := .int 0) C0 V i_TR rfl rfl hO0 (by decide) w_2144 rfl d_18_7_1 ?_
  refine lv_aload_n hx hb d_18_7_4 rfl (lv_at hl 0 rfl) ?_
  refine q_get (ci := 16) (j := 2) (v := .int 1) C0 V i_TR rfl rfl hO0 (by decide) w_2141 rfl d_18_7_5 ?_
  refine lv_icmp_ge (tgt := 23) hx hb d_18_7_8 (by decide) (fun c1 => absurd c1 (by decide)) (fun c1 => ?_)
  refine lv_aload_n hx hb d_18_7_11 rfl (lv_at hl 0 rfl) ?_
  refine q_get (ci := 16) (j := 1) (v := .ref qA1) C0 V i_TR rfl rfl hO0 (by decide) w_2139 rfl d_18_7_12 ?_
  refine lv_aload_n hx hb d_18_7_15 rfl (lv_at hl 0 rfl) ?_
  refine q_get (ci := 16) (j := 4) (v := .int 0) C0 V i_TR rfl rfl hO0 (by decide) w_2144 rfl d_18_7_16 ?_
  refine q_iald C0 V hA1 (by unfold vp_in; decide) d_18_7_19 ?_
  refine q_ti (v := 48) (by first | rfl | decide | simp [upd, vp_updL, sb_cl0]) ?_
  refine lv_goto (tgt := 24) hx hb d_18_7_20 (by decide) ?_
  exact q_reti C0 V (⟨rfl, rfl⟩) d_18_7_24
theorem d_18_8_0 : decode prog_18_method_8_code 0 = .ok (.iload_n 0, 1) := by decide +kernel
theorem d_18_8_1 : decode prog_18_method_8_code 1 = .ok (.bipush 48, 2) := by decide +kernel
theorem d_18_8_3 : decode prog_18_method_8_code 3 = .ok (.if_icmp .lt 13, 3) := by decide +kernel
theorem d_18_8_6 : decode prog_18_method_8_code 6 = .ok (.iload_n 0, 1) := by decide +kernel
theorem d_18_8_7 : decode prog_18_method_8_code 7 = .ok (.bipush 57, 2) := by decide +kernel
theorem d_18_8_9 : decode prog_18_method_8_code 9 = .ok (.if_icmp .gt 7, 3) := by decide +kernel
theorem d_18_8_12 : decode prog_18_method_8_code 12 = .ok (.iconst 1, 1) := by decide +kernel
theorem d_18_8_13 : decode prog_18_method_8_code 13 = .ok (.goto 4, 3) := by decide +kernel
theorem d_18_8_17 : decode prog_18_method_8_code 17 = .ok (.ireturn, 1) := by decide +kernel
def y_TR_isDigit : MethodName := ⟨"NumberHouseModel$TextRows", "isDigit", "(I)Z"⟩
set_option maxRecDepth 100000 in
set_option maxHeartbeats 4000000 in
theorem c_TR_isDigit (l : Launch) (D : va_G) (g : Nat → ClassId) (ws : va_W) : q_mI l y_TR_isDigit prog_18_method_8_code 1 (.boolean) 1 0 0 D g [.int 48] ws (fun r u => 1 = r ∧ ws = u) := by
  intro sz
  refine q_into (by decide) (Nat.le_of_ble_eq_true rfl) ?_
  intro p e s m below meth c ls hsz C0 V hl
  have hx := C0.1
  have hb := C0.2.1
  have hl : lv_has ls 1 [(0, .int 48)] := hl
  refine lv_iload_n hx hb d_18_8_0 rfl (lv_at hl 0 rfl) ?_
  refine lv_bipush (v := 48) hx hb d_18_8_1 (by decide) ?_
  refine lv_icmp_lt (tgt := 16) hx hb d_18_8_3 (by decide) (fun c1 => absurd c1 (by decide)) (fun c1 => ?_)
  refine lv_iload_n hx hb d_18_8_6 rfl (lv_at hl 0 rfl) ?_
  refine lv_bipush (v := 57) hx hb d_18_8_7 (by decide) ?_
  refine lv_icmp_gt (tgt := 16) hx hb d_18_8_9 (by decide) (fun c2 => absurd c2 (by decide)) (fun c2 => ?_)
  refine lv_iconst (v := 1) hx hb d_18_8_12 (by decide) ?_
  refine lv_goto (tgt := 17) hx hb d_18_8_13 (by decide) ?_
  exact q_retz C0 V (rfl) (⟨rfl, rfl⟩) d_18_8_17
theorem d_18_7_23 : decode prog_18_method_7_code 23 = .ok (.iconst 0, 1) := by decide +kernel
set_option maxRecDepth 100000 in
set_option maxHeartbeats 4000000 in
theorem c_TR_here_3 (l : Launch) (D : va_G) (g : Nat → ClassId) (ws : va_W) (kO0 qO0 qA1 qA2 qA3 : Nat) (hO0 : ws[kO0]? = (some (qO0, .inr (16, [.int 0, .ref qA1, .int 1, .int 0, .int 1, .int 0, .ref qA2, .int 1, .int (-1), .long 0, .ref qA3, .int 0, .int 0, .long 0, .long 0, .int 0, .int 0])) : Option (Nat × va_E))) : q_mI l y_TR_here prog_18_method_7_code 1 (.int) 1 0 0 D g [.ref qO0] ws (fun r u => 0 = r ∧ ws = u) := by
  intro sz
  refine q_into (by decide) (Nat.le_of_ble_eq_true rfl) ?_
  intro p e s m below meth c ls hsz C0 V hl
  have hx := C0.1
  have hb := C0.2.1
  have hl : lv_has ls 1 [(0, .ref qO0)] := hl
  refine lv_aload_n hx hb d_18_7_0 rfl (lv_at hl 0 rfl) ?_
  refine q_get (ci := 16) (j := 4) (v := .int 1) C0 V i_TR rfl rfl hO0 (by decide) w_2144 rfl d_18_7_1 ?_
  refine lv_aload_n hx hb d_18_7_4 rfl (lv_at hl 0 rfl) ?_
  refine q_get (ci := 16) (j := 2) (v := .int 1) C0 V i_TR rfl rfl hO0 (by decide) w_2141 rfl d_18_7_5 ?_
  refine lv_icmp_ge (tgt := 23) hx hb d_18_7_8 (by decide) (fun c1 => ?_) (fun c1 => absurd (by decide) c1)
  refine lv_iconst (v := 0) hx hb d_18_7_23 (by decide) ?_
  exact q_reti C0 V (⟨rfl, rfl⟩) d_18_7_24
theorem d_18_8_16 : decode prog_18_method_8_code 16 = .ok (.iconst 0, 1) := by decide +kernel
set_option maxRecDepth 100000 in
set_option maxHeartbeats 4000000 in
theorem c_TR_isDigit_2 (l : Launch) (D : va_G) (g : Nat → ClassId) (ws : va_W) : q_mI l y_TR_isDigit prog_18_method_8_code 1 (.boolean) 1 0 0 D g [.int 0] ws (fun r u => 0 = r ∧ ws = u) := by
  intro sz
  refine q_into (by decide) (Nat.le_of_ble_eq_true rfl) ?_
  intro p e s m below meth c ls hsz C0 V hl
  have hx := C0.1
  have hb := C0.2.1
  have hl : lv_has ls 1 [(0, .int 0)] := hl
  refine lv_iload_n hx hb d_18_8_0 rfl (lv_at hl 0 rfl) ?_
  refine lv_bipush (v := 48) hx hb d_18_8_1 (by decide) ?_
  refine lv_icmp_lt (tgt := 16) hx hb d_18_8_3 (by decide) (fun c1 => ?_) (fun c1 => absurd (by decide) c1)
  refine lv_iconst (v := 0) hx hb d_18_8_16 (by decide) ?_
  exact q_retz C0 V (rfl) (⟨rfl, rfl⟩) d_18_8_17
theorem d_18_12_0 : decode prog_18_method_12_code 0 = .ok (.aload_n 0, 1) := by decide +kernel
theorem d_18_12_1 : decode prog_18_method_12_code 1 = .ok (.iconst 0, 1) := by decide +kernel
theorem d_18_12_2 : decode prog_18_method_12_code 2 = .ok (.putfield 39, 3) := by decide +kernel
theorem w_2147 : (Cond.fieldLink "NumberHouseModel$TextRows" (39 : Nat) "NumberHouseModel$TextRows" "many" "I") ∈ q_tbl := q_of 2147 (by decide +kernel) (by decide +kernel)
theorem d_18_12_5 : decode prog_18_method_12_code 5 = .ok (.aload_n 0, 1) := by decide +kernel
theorem d_18_12_6 : decode prog_18_method_12_code 6 = .ok (.iconst (-1), 1) := by decide +kernel
theorem d_18_12_7 : decode prog_18_method_12_code 7 = .ok (.putfield 42, 3) := by decide +kernel
theorem w_2148 : (Cond.fieldLink "NumberHouseModel$TextRows" (42 : Nat) "NumberHouseModel$TextRows" "point" "I") ∈ q_tbl := q_of 2148 (by decide +kernel) (by decide +kernel)
theorem d_18_12_10 : decode prog_18_method_12_code 10 = .ok (.iload_n 1, 1) := by decide +kernel
theorem d_18_12_11 : decode prog_18_method_12_code 11 = .ok (.ifCond .eq 13, 3) := by decide +kernel
theorem d_18_12_24 : decode prog_18_method_12_code 24 = .ok (.aload_n 0, 1) := by decide +kernel
theorem d_18_12_25 : decode prog_18_method_12_code 25 = .ok (.invokevirtual 35, 3) := by decide +kernel
theorem w_2434 : (Cond.code ({ cls := "NumberHouseModel$TextRows", name := "here", desc := "()I" } : MethodName) prog_18_method_7_code (1 : Nat) (some .int)) ∈ q_tbl := q_of 2434 (by decide +kernel) (by decide +kernel)
theorem w_2431 : (Cond.methodLink "NumberHouseModel$TextRows" (35 : Nat) ({ cls := "NumberHouseModel$TextRows", name := "here", desc := "()I" } : MethodName)) ∈ q_tbl := q_of 2431 (by decide +kernel) (by decide +kernel)
theorem w_2433 : (Cond.instanceMethod ({ cls := "NumberHouseModel$TextRows", name := "here", desc := "()I" } : MethodName)) ∈ q_tbl := q_of 2433 (by decide +kernel) (by decide +kernel)
theorem ws_67 : Cond.selects "NumberHouseModel$TextRows" (⟨"NumberHouseModel$TextRows", "here", "()I"⟩ : MethodName) (⟨"NumberHouseModel$TextRows", "here", "()I"⟩ : MethodName) ∈ q_tbl := q_ofs 67 (by decide +kernel) (by decide +kernel)
theorem LV_TR_35 : q_LV "NumberHouseModel$TextRows" 35 y_TR_here prog_18_method_7_code 1 (some .int) 0 := ⟨w_2434, w_18, w_2431, w_2433, ws_67, ⟨by decide, by decide, by decide +kernel⟩⟩
theorem d_18_12_28 : decode prog_18_method_12_code 28 = .ok (.invokestatic 31, 3) := by decide +kernel
theorem w_2455 : (Cond.code ({ cls := "NumberHouseModel$TextRows", name := "isDigit", desc := "(I)Z" } : MethodName) prog_18_method_8_code (1 : Nat) (some .boolean)) ∈ q_tbl := q_of 2455 (by decide +kernel) (by decide +kernel)
theorem w_2453 : (Cond.methodLink "NumberHouseModel$TextRows" (31 : Nat) ({ cls := "NumberHouseModel$TextRows", name := "isDigit", desc := "(I)Z" } : MethodName)) ∈ q_tbl := q_of 2453 (by decide +kernel) (by decide +kernel)
theorem w_2454 : (Cond.static ({ cls := "NumberHouseModel$TextRows", name := "isDigit", desc := "(I)Z" } : MethodName)) ∈ q_tbl := q_of 2454 (by decide +kernel) (by decide +kernel)
theorem LS_TR_31 : q_LS "NumberHouseModel$TextRows" 31 y_TR_isDigit prog_18_method_8_code 1 (some .boolean) 1 := ⟨w_2455, w_18, w_2453, w_2454, ⟨by decide, by decide, by decide +kernel⟩⟩
theorem d_18_12_31 : decode prog_18_method_12_code 31 = .ok (.ifCond .eq 13, 3) := by decide +kernel
theorem d_18_12_34 : decode prog_18_method_12_code 34 = .ok (.aload_n 0, 1) := by decide +kernel
theorem d_18_12_35 : decode prog_18_method_12_code 35 = .ok (.invokevirtual 35, 3) := by decide +kernel
theorem d_18_12_38 : decode prog_18_method_12_code 38 = .ok (.bipush 48, 2) := by decide +kernel
theorem d_18_12_40 : decode prog_18_method_12_code 40 = .ok (.isub, 1) := by decide +kernel
theorem d_18_12_41 : decode prog_18_method_12_code 41 = .ok (.goto 4, 3) := by decide +kernel
theorem d_18_12_45 : decode prog_18_method_12_code 45 = .ok (.istore_n 2, 1) := by decide +kernel
theorem d_18_12_46 : decode prog_18_method_12_code 46 = .ok (.iload_n 2, 1) := by decide +kernel
theorem d_18_12_47 : decode prog_18_method_12_code 47 = .ok (.ifCond .lt 26, 3) := by decide +kernel
theorem d_18_12_50 : decode prog_18_method_12_code 50 = .ok (.aload_n 0, 1) := by decide +kernel
theorem d_18_12_51 : decode prog_18_method_12_code 51 = .ok (.getfield 13, 3) := by decide +kernel
theorem d_18_12_54 : decode prog_18_method_12_code 54 = .ok (.aload_n 0, 1) := by decide +kernel
theorem d_18_12_55 : decode prog_18_method_12_code 55 = .ok (.getfield 39, 3) := by decide +kernel
theorem d_18_12_58 : decode prog_18_method_12_code 58 = .ok (.iload_n 2, 1) := by decide +kernel
theorem d_18_12_59 : decode prog_18_method_12_code 59 = .ok (.iastore, 1) := by decide +kernel
theorem d_18_12_60 : decode prog_18_method_12_code 60 = .ok (.aload_n 0, 1) := by decide +kernel
theorem d_18_12_61 : decode prog_18_method_12_code 61 = .ok (.dup, 1) := by decide +kernel
theorem d_18_12_62 : decode prog_18_method_12_code 62 = .ok (.getfield 39, 3) := by decide +kernel
theorem d_18_12_65 : decode prog_18_method_12_code 65 = .ok (.iconst 1, 1) := by decide +kernel
theorem d_18_12_66 : decode prog_18_method_12_code 66 = .ok (.iadd, 1) := by decide +kernel
theorem d_18_12_67 : decode prog_18_method_12_code 67 = .ok (.putfield 39, 3) := by decide +kernel
theorem d_18_12_70 : decode prog_18_method_12_code 70 = .ok (.goto 65, 3) := by decide +kernel
theorem d_18_12_135 : decode prog_18_method_12_code 135 = .ok (.aload_n 0, 1) := by decide +kernel
theorem d_18_12_136 : decode prog_18_method_12_code 136 = .ok (.dup, 1) := by decide +kernel
theorem d_18_12_137 : decode prog_18_method_12_code 137 = .ok (.getfield 28, 3) := by decide +kernel
theorem d_18_12_140 : decode prog_18_method_12_code 140 = .ok (.iconst 1, 1) := by decide +kernel
theorem d_18_12_141 : decode prog_18_method_12_code 141 = .ok (.iadd, 1) := by decide +kernel
theorem d_18_12_142 : decode prog_18_method_12_code 142 = .ok (.putfield 28, 3) := by decide +kernel
theorem d_18_12_145 : decode prog_18_method_12_code 145 = .ok (.goto (-135), 3) := by decide +kernel
theorem d_18_12_44 : decode prog_18_method_12_code 44 = .ok (.iconst (-1), 1) := by decide +kernel
theorem d_18_12_73 : decode prog_18_method_12_code 73 = .ok (.aload_n 0, 1) := by decide +kernel
theorem d_18_12_74 : decode prog_18_method_12_code 74 = .ok (.invokevirtual 35, 3) := by decide +kernel
theorem d_18_12_77 : decode prog_18_method_12_code 77 = .ok (.bipush 46, 2) := by decide +kernel
theorem d_18_12_79 : decode prog_18_method_12_code 79 = .ok (.if_icmp .ne 21, 3) := by decide +kernel
theorem d_18_12_100 : decode prog_18_method_12_code 100 = .ok (.aload_n 0, 1) := by decide +kernel
theorem d_18_12_101 : decode prog_18_method_12_code 101 = .ok (.aload_n 0, 1) := by decide +kernel
theorem d_18_12_102 : decode prog_18_method_12_code 102 = .ok (.getfield 42, 3) := by decide +kernel
theorem d_18_12_105 : decode prog_18_method_12_code 105 = .ok (.ifCond .ge 10, 3) := by decide +kernel
theorem d_18_12_108 : decode prog_18_method_12_code 108 = .ok (.aload_n 0, 1) := by decide +kernel
theorem d_18_12_109 : decode prog_18_method_12_code 109 = .ok (.getfield 39, 3) := by decide +kernel
theorem d_18_12_112 : decode prog_18_method_12_code 112 = .ok (.goto 7, 3) := by decide +kernel
theorem d_18_12_119 : decode prog_18_method_12_code 119 = .ok (.putfield 42, 3) := by decide +kernel
theorem d_18_12_122 : decode prog_18_method_12_code 122 = .ok (.aload_n 0, 1) := by decide +kernel
theorem d_18_12_123 : decode prog_18_method_12_code 123 = .ok (.getfield 39, 3) := by decide +kernel
theorem d_18_12_126 : decode prog_18_method_12_code 126 = .ok (.ifCond .le 7, 3) := by decide +kernel
theorem d_18_12_129 : decode prog_18_method_12_code 129 = .ok (.iconst 1, 1) := by decide +kernel
theorem d_18_12_130 : decode prog_18_method_12_code 130 = .ok (.goto 4, 3) := by decide +kernel
theorem d_18_12_134 : decode prog_18_method_12_code 134 = .ok (.ireturn, 1) := by decide +kernel
def y_TR_digits : MethodName := ⟨"NumberHouseModel$TextRows", "digits", "(Z)Z"⟩
set_option maxRecDepth 100000 in
set_option maxHeartbeats 4000000 in
theorem c_TR_digits (l : Launch) (D : va_G) (g : Nat → ClassId) (ws : va_W) (kO0 kA1 kA2 qO0 qA1 qA2 qA3 : Nat) (hO0 : ws[kO0]? = (some (qO0, .inr (16, [.int 0, .ref qA1, .int 1, .int 0, .int 0, .int 0, .ref qA2, .int 0, .int 0, .long 0, .ref qA3, .int 0, .int 0, .long 0, .long 0, .int 0, .int 0])) : Option (Nat × va_E))) (hA1 : ws[kA1]? = (some (qA1, .inl (g 0, 4100, .inl (upd (fun _ => 0) 0 48))) : Option (Nat × va_E))) (hA2 : ws[kA2]? = (some (qA2, .inl (g 0, 4100, .inl (fun _ => 0))) : Option (Nat × va_E))) (n_A1_A2 : kA1 ≠ kA2) : q_mI l y_TR_digits prog_18_method_12_code 3 (.boolean) 2 0 0 D g [.ref qO0, .int 0] ws (fun r u => 1 = r ∧ q_un ws u [kO0, kA2] ∧ u[kO0]? = (some (qO0, .inr (16, [.int 0, .ref qA1, .int 1, .int 0, .int 1, .int 0, .ref qA2, .int 1, .int 1, .long 0, .ref qA3, .int 0, .int 0, .long 0, .long 0, .int 0, .int 0])) : Option (Nat × va_E)) ∧ u[kA2]? = (some (qA2, .inl (g 0, 4100, .inl (fun _ => 0))) : Option (Nat × va_E))) := by
  intro sz
  refine q_into (by decide) (Nat.le_of_ble_eq_true rfl) ?_
  intro p e s m below meth c ls hsz C0 V hl
  have hx := C0.1
  have hb := C0.2.1
  have hl : lv_has ls 3 [(0, .ref qO0), (1, .int 0)] := hl
  have n_A1_O0 := q_df hA1 hO0
  have n_A2_O0 := q_df hA2 hO0
  have n_O0_A2 := Ne.symm (q_df hA2 hO0)
  have hF : q_un ws ws [kO0, kA2] := q_u0
  refine lv_aload_n hx hb d_18_12_0 rfl (lv_at hl 0 rfl) ?_
  refine lv_iconst (v := 0) hx hb d_18_12_1 (by decide) ?_
  refine q_put (ci := 16) (j := 7) (v := .int 0) (ty := .int) C0 V i_TR o_TR n_TR rfl rfl hO0 (by decide) w_2147 rfl rfl rfl rfl (Nat.le_of_ble_eq_true rfl) d_18_12_2 (fun H locs w1 hu2 hO0 V => ?_)
  replace hO0 : w1[kO0]? = (some (qO0, .inr (16, [.int 0, .ref qA1, .int 1, .int 0, .int 0, .int 0, .ref qA2, .int 0, .int 0, .long 0, .ref qA3, .int 0, .int 0, .long 0, .long 0, .int 0, .int 0])) : Option (Nat × va_E)) := hO0
  replace hF := q_us hF hu2 (.head _)
  refine lv_aload_n hx hb d_18_12_5 rfl (lv_at hl 0 rfl) ?_
  refine lv_iconst (v := (-1)) hx hb d_18_12_6 (by decide) ?_
  refine q_put (ci := 16) (j := 8) (v := .int (-1)) (ty := .int) C0 V i_TR o_TR n_TR rfl rfl hO0 (by decide) w_2148 rfl rfl rfl rfl (Nat.le_of_ble_eq_true rfl) d_18_12_7 (fun H locs w3 hu4 hO0 V => ?_)
  replace hO0 : w3[kO0]? = (some (qO0, .inr (16, [.int 0, .ref qA1, .int 1, .int 0, .int 0, .int 0, .ref qA2, .int 0, .int (-1), .long 0, .ref qA3, .int 0, .int 0, .long 0, .long 0, .int 0, .int 0])) : Option (Nat × va_E)) := hO0
  replace hF := q_us hF hu4 (.head _)
  refine lv_iload_n hx hb d_18_12_10 rfl (lv_at hl 1 rfl) ?_
  refine lv_if_eq (tgt := 24) hx hb d_18_12_11 (by decide) (fun c5 => ?_) (fun c5 => absurd (by decide) c5)
  refine lv_aload_n hx hb d_18_12_24 rfl (lv_at hl 0 rfl) ?_
  replace hA1 := (hu4 _ n_A1_O0).trans ((hu2 _ n_A1_O0).trans (hA1))
  refine q_goi V (q_runV (As := []) (rest := []) (d := 1) (mc := 0) (ms := 0) (ci := 16) C0 V rfl LV_TR_35 (c_TR_here_2 l D g w3 kO0 kA1 qO0 qA1 qA2 qA3 hO0 hA1 _) rfl rfl hO0 rfl hl.1 rfl (Nat.le_of_ble_eq_true rfl) ⟨by decide, by decide⟩ ⟨Nat.le_of_ble_eq_true rfl, Nat.le_of_ble_eq_true rfl⟩ d_18_12_25) (fun v8 u7 H locs hp6 V => ?_)
  obtain ⟨rfl, rfl⟩ := hp6
  refine q_goi V (q_runS (As := [.int 48]) (rest := []) (d := 1) (mc := 0) (ms := 0) C0 V rfl LS_TR_31 (c_TR_isDigit l D g w3 _) rfl hl.1 rfl (Nat.le_of_ble_eq_true rfl) ⟨by decide, by decide⟩ ⟨Nat.le_of_ble_eq_true rfl, Nat.le_of_ble_eq_true rfl⟩ d_18_12_28) (fun v12 u11 H locs hp10 V => ?_)
  obtain ⟨rfl, rfl⟩ := hp10
  refine lv_if_eq (tgt := 44) hx hb d_18_12_31 (by decide) (fun c14 => absurd c14 (by decide)) (fun c14 => ?_)
  refine lv_aload_n hx hb d_18_12_34 rfl (lv_at hl 0 rfl) ?_
  refine q_goi V (q_runV (As := []) (rest := []) (d := 1) (mc := 0) (ms := 0) (ci := 16) C0 V rfl LV_TR_35 (c_TR_here_2 l D g w3 kO0 kA1 qO0 qA1 qA2 qA3 hO0 hA1 _) rfl rfl hO0 rfl hl.1 rfl (Nat.le_of_ble_eq_true rfl) ⟨by decide, by decide⟩ ⟨Nat.le_of_ble_eq_true rfl, Nat.le_of_ble_eq_true rfl⟩ d_18_12_35) (fun v17 u16 H locs hp15 V => ?_)
  obtain ⟨rfl, rfl⟩ := hp15
  refine lv_bipush (v := 48) hx hb d_18_12_38 (by decide) ?_
  refine lv_isub hx hb d_18_12_40 ?_
  refine q_ti (v := 0) (by decide) ?_
  refine lv_goto (tgt := 45) hx hb d_18_12_41 (by decide) ?_
  refine lv_istore_n (lv' := [(2, .int 0), (0, .ref qO0), (1, .int 0)]) hx hb d_18_12_45 rfl hl (by decide) rfl (fun ls hl => ?_)
  refine lv_iload_n hx hb d_18_12_46 rfl (lv_at hl 0 rfl) ?_
  refine lv_if_lt (tgt := 73) hx hb d_18_12_47 (by decide) (fun c19 => absurd c19 (by decide)) (fun c19 => ?_)
  refine lv_aload_n hx hb d_18_12_50 rfl (lv_at hl 1 rfl) ?_
  refine q_get (ci := 16) (j := 6) (v := .ref qA2) C0 V i_TR rfl rfl hO0 (by decide) w_2146 rfl d_18_12_51 ?_
  refine lv_aload_n hx hb d_18_12_54 rfl (lv_at hl 1 rfl) ?_
  refine q_get (ci := 16) (j := 7) (v := .int 0) C0 V i_TR rfl rfl hO0 (by decide) w_2147 rfl d_18_12_55 ?_
  refine lv_iload_n hx hb d_18_12_58 rfl (lv_at hl 0 rfl) ?_
  replace hA2 := (hu4 _ n_A2_O0).trans ((hu2 _ n_A2_O0).trans (hA2))
  refine q_iast C0 V hA2 (by unfold vp_in; decide) d_18_12_59 (fun H locs w20 hu21 hA2 V => ?_)
  replace hA2 := q_re (y := (qA2, .inl (g 0, 4100, .inl (fun _ => 0)))) hA2 (q_eI q_upd0)
  replace hA2 : w20[kA2]? = (some (qA2, .inl (g 0, 4100, .inl (fun _ => 0))) : Option (Nat × va_E)) := hA2
  replace hF := q_us hF hu21 (.tail _ (.head _))
  refine lv_aload_n hx hb d_18_12_60 rfl (lv_at hl 1 rfl) ?_
  refine lv_dup hx hb d_18_12_61 rfl ?_
  replace hO0 := (hu21 _ n_O0_A2).trans (hO0)
  refine q_get (ci := 16) (j := 7) (v := .int 0) C0 V i_TR rfl rfl hO0 (by decide) w_2147 rfl d_18_12_62 ?_
  refine lv_iconst (v := 1) hx hb d_18_12_65 (by decide) ?_
  refine lv_iadd hx hb d_18_12_66 ?_
  refine q_ti (v := 1) (by decide) ?_
  refine q_put (ci := 16) (j := 7) (v := .int 1) (ty := .int) C0 V i_TR o_TR n_TR rfl rfl hO0 (by decide) w_2147 rfl rfl rfl rfl (Nat.le_of_ble_eq_true rfl) d_18_12_67 (fun H locs w22 hu23 hO0 V => ?_)
  replace hO0 : w22[kO0]? = (some (qO0, .inr (16, [.int 0, .ref qA1, .int 1, .int 0, .int 0, .int 0, .ref qA2, .int 1, .int (-1), .long 0, .ref qA3, .int 0, .int 0, .long 0, .long 0, .int 0, .int 0])) : Option (Nat × va_E)) := hO0
  replace hF := q_us hF hu23 (.head _)
  refine lv_goto (tgt := 135) hx hb d_18_12_70 (by decide) ?_
  refine lv_aload_n hx hb d_18_12_135 rfl (lv_at hl 1 rfl) ?_
  refine lv_dup hx hb d_18_12_136 rfl ?_
  refine q_get (ci := 16) (j := 4) (v := .int 0) C0 V i_TR rfl rfl hO0 (by decide) w_2144 rfl d_18_12_137 ?_
  refine lv_iconst (v := 1) hx hb d_18_12_140 (by decide) ?_
  refine lv_iadd hx hb d_18_12_141 ?_
  refine q_ti (v := 1) (by decide) ?_
  refine q_put (ci := 16) (j := 4) (v := .int 1) (ty := .int) C0 V i_TR o_TR n_TR rfl rfl hO0 (by decide) w_2144 rfl rfl rfl rfl (Nat.le_of_ble_eq_true rfl) d_18_12_142 (fun H locs w24 hu25 hO0 V => ?_)
  replace hO0 : w24[kO0]? = (some (qO0, .inr (16, [.int 0, .ref qA1, .int 1, .int 0, .int 1, .int 0, .ref qA2, .int 1, .int (-1), .long 0, .ref qA3, .int 0, .int 0, .long 0, .long 0, .int 0, .int 0])) : Option (Nat × va_E)) := hO0
  replace hF := q_us hF hu25 (.head _)
  refine lv_goto (tgt := 10) hx hb d_18_12_145 (by decide) ?_
  refine lv_iload_n hx hb d_18_12_10 rfl (lv_at hl 2 rfl) ?_
  refine lv_if_eq (tgt := 24) hx hb d_18_12_11 (by decide) (fun c26 => ?_) (fun c26 => absurd (by decide) c26)
  refine lv_aload_n hx hb d_18_12_24 rfl (lv_at hl 1 rfl) ?_
  refine q_goi V (q_runV (As := []) (rest := []) (d := 1) (mc := 0) (ms := 0) (ci := 16) C0 V rfl LV_TR_35 (c_TR_here_3 l D g w24 kO0 qO0 qA1 qA2 qA3 hO0 _) rfl rfl hO0 rfl hl.1 rfl (Nat.le_of_ble_eq_true rfl) ⟨by decide, by decide⟩ ⟨Nat.le_of_ble_eq_true rfl, Nat.le_of_ble_eq_true rfl⟩ d_18_12_25) (fun v29 u28 H locs hp27 V => ?_)
  obtain ⟨rfl, rfl⟩ := hp27
  refine q_goi V (q_runS (As := [.int 0]) (rest := []) (d := 1) (mc := 0) (ms := 0) C0 V rfl LS_TR_31 (c_TR_isDigit_2 l D g w24 _) rfl hl.1 rfl (Nat.le_of_ble_eq_true rfl) ⟨by decide, by decide⟩ ⟨Nat.le_of_ble_eq_true rfl, Nat.le_of_ble_eq_true rfl⟩ d_18_12_28) (fun v33 u32 H locs hp31 V => ?_)
  obtain ⟨rfl, rfl⟩ := hp31
  refine lv_if_eq (tgt := 44) hx hb d_18_12_31 (by decide) (fun c35 => ?_) (fun c35 => absurd (by decide) c35)
  refine lv_iconst (v := (-1)) hx hb d_18_12_44 (by decide) ?_
  refine lv_istore_n (lv' := [(2, .int (-1)), (0, .ref qO0), (1, .int 0)]) hx hb d_18_12_45 rfl hl (by decide) rfl (fun ls hl => ?_)
  refine lv_iload_n hx hb d_18_12_46 rfl (lv_at hl 0 rfl) ?_
  refine lv_if_lt (tgt := 73) hx hb d_18_12_47 (by decide) (fun c36 => ?_) (fun c36 => absurd (by decide) c36)
  refine lv_aload_n hx hb d_18_12_73 rfl (lv_at hl 1 rfl) ?_
  refine q_goi V (q_runV (As := []) (rest := []) (d := 1) (mc := 0) (ms := 0) (ci := 16) C0 V rfl LV_TR_35 (c_TR_here_3 l D g w24 kO0 qO0 qA1 qA2 qA3 hO0 _) rfl rfl hO0 rfl hl.1 rfl (Nat.le_of_ble_eq_true rfl) ⟨by decide, by decide⟩ ⟨Nat.le_of_ble_eq_true rfl, Nat.le_of_ble_eq_true rfl⟩ d_18_12_74) (fun v39 u38 H locs hp37 V => ?_)
  obtain ⟨rfl, rfl⟩ := hp37
  refine lv_bipush (v := 46) hx hb d_18_12_77 (by decide) ?_
  refine lv_icmp_ne (tgt := 100) hx hb d_18_12_79 (by decide) (fun c41 => ?_) (fun c41 => absurd c41 (by decide))
  refine lv_aload_n hx hb d_18_12_100 rfl (lv_at hl 1 rfl) ?_
  refine lv_aload_n hx hb d_18_12_101 rfl (lv_at hl 1 rfl) ?_
  refine q_get (ci := 16) (j := 8) (v := .int (-1)) C0 V i_TR rfl rfl hO0 (by decide) w_2148 rfl d_18_12_102 ?_
  refine lv_if_ge (tgt := 115) hx hb d_18_12_105 (by decide) (fun c42 => absurd c42 (by decide)) (fun c42 => ?_)
  refine lv_aload_n hx hb d_18_12_108 rfl (lv_at hl 1 rfl) ?_
  refine q_get (ci := 16) (j := 7) (v := .int 1) C0 V i_TR rfl rfl hO0 (by decide) w_2147 rfl d_18_12_109 ?_
  refine lv_goto (tgt := 119) hx hb d_18_12_112 (by decide) ?_
  refine q_put (ci := 16) (j := 8) (v := .int 1) (ty := .int) C0 V i_TR o_TR n_TR rfl rfl hO0 (by decide) w_2148 rfl rfl rfl rfl (Nat.le_of_ble_eq_true rfl) d_18_12_119 (fun H locs w43 hu44 hO0 V => ?_)
  replace hO0 : w43[kO0]? = (some (qO0, .inr (16, [.int 0, .ref qA1, .int 1, .int 0, .int 1, .int 0, .ref qA2, .int 1, .int 1, .long 0, .ref qA3, .int 0, .int 0, .long 0, .long 0, .int 0, .int 0])) : Option (Nat × va_E)) := hO0
  replace hF := q_us hF hu44 (.head _)
  refine lv_aload_n hx hb d_18_12_122 rfl (lv_at hl 1 rfl) ?_
  refine q_get (ci := 16) (j := 7) (v := .int 1) C0 V i_TR rfl rfl hO0 (by decide) w_2147 rfl d_18_12_123 ?_
  refine lv_if_le (tgt := 133) hx hb d_18_12_126 (by decide) (fun c45 => absurd c45 (by decide)) (fun c45 => ?_)
  refine lv_iconst (v := 1) hx hb d_18_12_129 (by decide) ?_
  refine lv_goto (tgt := 134) hx hb d_18_12_130 (by decide) ?_
  replace hA2 := (hu44 _ n_A2_O0).trans ((hu25 _ n_A2_O0).trans ((hu23 _ n_A2_O0).trans (hA2)))
  exact q_retz C0 V (rfl) (⟨rfl, hF, hO0, hA2⟩) d_18_12_134
set_option maxRecDepth 100000 in
set_option maxHeartbeats 4000000 in
theorem c_TR_here_4 (l : Launch) (D : va_G) (g : Nat → ClassId) (ws : va_W) (kO0 qO0 qA1 qA2 qA3 : Nat) (hO0 : ws[kO0]? = (some (qO0, .inr (16, [.int 0, .ref qA1, .int 1, .int 0, .int 1, .int 0, .ref qA2, .int 1, .int 1, .long 0, .ref qA3, .int 0, .int 0, .long 0, .long 0, .int 0, .int 0])) : Option (Nat × va_E))) : q_mI l y_TR_here prog_18_method_7_code 1 (.int) 1 0 0 D g [.ref qO0] ws (fun r u => 0 = r ∧ ws = u) := by
  intro sz
  refine q_into (by decide) (Nat.le_of_ble_eq_true rfl) ?_
  intro p e s m below meth c ls hsz C0 V hl
  have hx := C0.1
  have hb := C0.2.1
  have hl : lv_has ls 1 [(0, .ref qO0)] := hl
  refine lv_aload_n hx hb d_18_7_0 rfl (lv_at hl 0 rfl) ?_
  refine q_get (ci := 16) (j := 4) (v := .int 1) C0 V i_TR rfl rfl hO0 (by decide) w_2144 rfl d_18_7_1 ?_
  refine lv_aload_n hx hb d_18_7_4 rfl (lv_at hl 0 rfl) ?_
  refine q_get (ci := 16) (j := 2) (v := .int 1) C0 V i_TR rfl rfl hO0 (by decide) w_2141 rfl d_18_7_5 ?_
  refine lv_icmp_ge (tgt := 23) hx hb d_18_7_8 (by decide) (fun c1 => ?_) (fun c1 => absurd (by decide) c1)
  refine lv_iconst (v := 0) hx hb d_18_7_23 (by decide) ?_
  exact q_reti C0 V (⟨rfl, rfl⟩) d_18_7_24
theorem d_18_10_0 : decode prog_18_method_10_code 0 = .ok (.aload_n 0, 1) := by decide +kernel
theorem d_18_10_1 : decode prog_18_method_10_code 1 = .ok (.invokevirtual 35, 3) := by decide +kernel
theorem d_18_10_4 : decode prog_18_method_10_code 4 = .ok (.iload_n 1, 1) := by decide +kernel
theorem d_18_10_5 : decode prog_18_method_10_code 5 = .ok (.if_icmp .eq 11, 3) := by decide +kernel
theorem d_18_10_8 : decode prog_18_method_10_code 8 = .ok (.aload_n 0, 1) := by decide +kernel
theorem d_18_10_9 : decode prog_18_method_10_code 9 = .ok (.invokevirtual 35, 3) := by decide +kernel
theorem d_18_10_12 : decode prog_18_method_10_code 12 = .ok (.iload_n 2, 1) := by decide +kernel
theorem d_18_10_13 : decode prog_18_method_10_code 13 = .ok (.if_icmp .ne 7, 3) := by decide +kernel
theorem d_18_10_20 : decode prog_18_method_10_code 20 = .ok (.iconst 0, 1) := by decide +kernel
theorem d_18_10_21 : decode prog_18_method_10_code 21 = .ok (.ireturn, 1) := by decide +kernel
def y_TR_isAt : MethodName := ⟨"NumberHouseModel$TextRows", "isAt", "(II)Z"⟩
set_option maxRecDepth 100000 in
set_option maxHeartbeats 4000000 in
theorem c_TR_isAt (l : Launch) (D : va_G) (g : Nat → ClassId) (ws : va_W) (kO0 qO0 qA1 qA2 qA3 : Nat) (hO0 : ws[kO0]? = (some (qO0, .inr (16, [.int 0, .ref qA1, .int 1, .int 0, .int 1, .int 0, .ref qA2, .int 1, .int 1, .long 0, .ref qA3, .int 0, .int 0, .long 0, .long 0, .int 0, .int 0])) : Option (Nat × va_E))) : q_mI l y_TR_isAt prog_18_method_10_code 3 (.boolean) 2 0 0 D g [.ref qO0, .int 101, .int 69] ws (fun r u => 0 = r ∧ ws = u) := by
  intro sz
  refine q_into (by decide) (Nat.le_of_ble_eq_true rfl) ?_
  intro p e s m below meth c ls hsz C0 V hl
  have hx := C0.1
  have hb := C0.2.1
  have hl : lv_has ls 3 [(0, .ref qO0), (1, .int 101), (2, .int 69)] := hl
  refine lv_aload_n hx hb d_18_10_0 rfl (lv_at hl 0 rfl) ?_
  refine q_goi V (q_runV (As := []) (rest := []) (d := 1) (mc := 0) (ms := 0) (ci := 16) C0 V rfl LV_TR_35 (c_TR_here_4 l D g ws kO0 qO0 qA1 qA2 qA3 hO0 _) rfl rfl hO0 rfl hl.1 rfl (Nat.le_of_ble_eq_true rfl) ⟨by decide, by decide⟩ ⟨Nat.le_of_ble_eq_true rfl, Nat.le_of_ble_eq_true rfl⟩ d_18_10_1) (fun v3 u2 H locs hp1 V => ?_)
  obtain ⟨rfl, rfl⟩ := hp1
  refine lv_iload_n hx hb d_18_10_4 rfl (lv_at hl 1 rfl) ?_
  refine lv_icmp_eq (tgt := 16) hx hb d_18_10_5 (by decide) (fun c5 => absurd c5 (by decide)) (fun c5 => ?_)
  refine lv_aload_n hx hb d_18_10_8 rfl (lv_at hl 0 rfl) ?_
  refine q_goi V (q_runV (As := []) (rest := []) (d := 1) (mc := 0) (ms := 0) (ci := 16) C0 V rfl LV_TR_35 (c_TR_here_4 l D g ws kO0 qO0 qA1 qA2 qA3 hO0 _) rfl rfl hO0 rfl hl.1 rfl (Nat.le_of_ble_eq_true rfl) ⟨by decide, by decide⟩ ⟨Nat.le_of_ble_eq_true rfl, Nat.le_of_ble_eq_true rfl⟩ d_18_10_9) (fun v8 u7 H locs hp6 V => ?_)
  obtain ⟨rfl, rfl⟩ := hp6
  refine lv_iload_n hx hb d_18_10_12 rfl (lv_at hl 2 rfl) ?_
  refine lv_icmp_ne (tgt := 20) hx hb d_18_10_13 (by decide) (fun c10 => ?_) (fun c10 => absurd c10 (by decide))
  refine lv_iconst (v := 0) hx hb d_18_10_20 (by decide) ?_
  exact q_retz C0 V (rfl) (⟨rfl, rfl⟩) d_18_10_21
set_option maxRecDepth 100000 in
set_option maxHeartbeats 4000000 in
theorem c_TR_isAt_2 (l : Launch) (D : va_G) (g : Nat → ClassId) (ws : va_W) (kO0 qO0 qA1 qA2 qA3 : Nat) (hO0 : ws[kO0]? = (some (qO0, .inr (16, [.int 0, .ref qA1, .int 1, .int 0, .int 1, .int 0, .ref qA2, .int 1, .int 1, .long 0, .ref qA3, .int 0, .int 0, .long 0, .long 0, .int 0, .int 0])) : Option (Nat × va_E))) : q_mI l y_TR_isAt prog_18_method_10_code 3 (.boolean) 2 0 0 D g [.ref qO0, .int 100, .int 68] ws (fun r u => 0 = r ∧ ws = u) := by
  intro sz
  refine q_into (by decide) (Nat.le_of_ble_eq_true rfl) ?_
  intro p e s m below meth c ls hsz C0 V hl
  have hx := C0.1
  have hb := C0.2.1
  have hl : lv_has ls 3 [(0, .ref qO0), (1, .int 100), (2, .int 68)] := hl
  refine lv_aload_n hx hb d_18_10_0 rfl (lv_at hl 0 rfl) ?_
  refine q_goi V (q_runV (As := []) (rest := []) (d := 1) (mc := 0) (ms := 0) (ci := 16) C0 V rfl LV_TR_35 (c_TR_here_4 l D g ws kO0 qO0 qA1 qA2 qA3 hO0 _) rfl rfl hO0 rfl hl.1 rfl (Nat.le_of_ble_eq_true rfl) ⟨by decide, by decide⟩ ⟨Nat.le_of_ble_eq_true rfl, Nat.le_of_ble_eq_true rfl⟩ d_18_10_1) (fun v3 u2 H locs hp1 V => ?_)
  obtain ⟨rfl, rfl⟩ := hp1
  refine lv_iload_n hx hb d_18_10_4 rfl (lv_at hl 1 rfl) ?_
  refine lv_icmp_eq (tgt := 16) hx hb d_18_10_5 (by decide) (fun c5 => absurd c5 (by decide)) (fun c5 => ?_)
  refine lv_aload_n hx hb d_18_10_8 rfl (lv_at hl 0 rfl) ?_
  refine q_goi V (q_runV (As := []) (rest := []) (d := 1) (mc := 0) (ms := 0) (ci := 16) C0 V rfl LV_TR_35 (c_TR_here_4 l D g ws kO0 qO0 qA1 qA2 qA3 hO0 _) rfl rfl hO0 rfl hl.1 rfl (Nat.le_of_ble_eq_true rfl) ⟨by decide, by decide⟩ ⟨Nat.le_of_ble_eq_true rfl, Nat.le_of_ble_eq_true rfl⟩ d_18_10_9) (fun v8 u7 H locs hp6 V => ?_)
  obtain ⟨rfl, rfl⟩ := hp6
  refine lv_iload_n hx hb d_18_10_12 rfl (lv_at hl 2 rfl) ?_
  refine lv_icmp_ne (tgt := 20) hx hb d_18_10_13 (by decide) (fun c10 => ?_) (fun c10 => absurd c10 (by decide))
  refine lv_iconst (v := 0) hx hb d_18_10_20 (by decide) ?_
  exact q_retz C0 V (rfl) (⟨rfl, rfl⟩) d_18_10_21
set_option maxRecDepth 100000 in
set_option maxHeartbeats 4000000 in
theorem c_TR_isAt_3 (l : Launch) (D : va_G) (g : Nat → ClassId) (ws : va_W) (kO0 qO0 qA1 qA2 qA3 : Nat) (hO0 : ws[kO0]? = (some (qO0, .inr (16, [.int 0, .ref qA1, .int 1, .int 0, .int 1, .int 0, .ref qA2, .int 1, .int 1, .long 0, .ref qA3, .int 0, .int 0, .long 0, .long 0, .int 0, .int 0])) : Option (Nat × va_E))) : q_mI l y_TR_isAt prog_18_method_10_code 3 (.boolean) 2 0 0 D g [.ref qO0, .int 102, .int 70] ws (fun r u => 0 = r ∧ ws = u) := by
  intro sz
  refine q_into (by decide) (Nat.le_of_ble_eq_true rfl) ?_
  intro p e s m below meth c ls hsz C0 V hl
  have hx := C0.1
  have hb := C0.2.1
  have hl : lv_has ls 3 [(0, .ref qO0), (1, .int 102), (2, .int 70)] := hl
  refine lv_aload_n hx hb d_18_10_0 rfl (lv_at hl 0 rfl) ?_
  refine q_goi V (q_runV (As := []) (rest := []) (d := 1) (mc := 0) (ms := 0) (ci := 16) C0 V rfl LV_TR_35 (c_TR_here_4 l D g ws kO0 qO0 qA1 qA2 qA3 hO0 _) rfl rfl hO0 rfl hl.1 rfl (Nat.le_of_ble_eq_true rfl) ⟨by decide, by decide⟩ ⟨Nat.le_of_ble_eq_true rfl, Nat.le_of_ble_eq_true rfl⟩ d_18_10_1) (fun v3 u2 H locs hp1 V => ?_)
  obtain ⟨rfl, rfl⟩ := hp1
  refine lv_iload_n hx hb d_18_10_4 rfl (lv_at hl 1 rfl) ?_
  refine lv_icmp_eq (tgt := 16) hx hb d_18_10_5 (by decide) (fun c5 => absurd c5 (by decide)) (fun c5 => ?_)
  refine lv_aload_n hx hb d_18_10_8 rfl (lv_at hl 0 rfl) ?_
  refine q_goi V (q_runV (As := []) (rest := []) (d := 1) (mc := 0) (ms := 0) (ci := 16) C0 V rfl LV_TR_35 (c_TR_here_4 l D g ws kO0 qO0 qA1 qA2 qA3 hO0 _) rfl rfl hO0 rfl hl.1 rfl (Nat.le_of_ble_eq_true rfl) ⟨by decide, by decide⟩ ⟨Nat.le_of_ble_eq_true rfl, Nat.le_of_ble_eq_true rfl⟩ d_18_10_9) (fun v8 u7 H locs hp6 V => ?_)
  obtain ⟨rfl, rfl⟩ := hp6
  refine lv_iload_n hx hb d_18_10_12 rfl (lv_at hl 2 rfl) ?_
  refine lv_icmp_ne (tgt := 20) hx hb d_18_10_13 (by decide) (fun c10 => ?_) (fun c10 => absurd c10 (by decide))
  refine lv_iconst (v := 0) hx hb d_18_10_20 (by decide) ?_
  exact q_retz C0 V (rfl) (⟨rfl, rfl⟩) d_18_10_21
theorem d_18_14_0 : decode prog_18_method_14_code 0 = .ok (.aload_n 0, 1) := by decide +kernel
theorem d_18_14_1 : decode prog_18_method_14_code 1 = .ok (.lconst 0, 1) := by decide +kernel
theorem d_18_14_2 : decode prog_18_method_14_code 2 = .ok (.putfield 49, 3) := by decide +kernel
theorem w_2149 : (Cond.fieldLink "NumberHouseModel$TextRows" (49 : Nat) "NumberHouseModel$TextRows" "exponent" "J") ∈ q_tbl := q_of 2149 (by decide +kernel) (by decide +kernel)
theorem d_18_14_5 : decode prog_18_method_14_code 5 = .ok (.aload_n 0, 1) := by decide +kernel
theorem d_18_14_6 : decode prog_18_method_14_code 6 = .ok (.invokevirtual 35, 3) := by decide +kernel
theorem d_18_14_9 : decode prog_18_method_14_code 9 = .ok (.bipush 48, 2) := by decide +kernel
theorem d_18_14_11 : decode prog_18_method_14_code 11 = .ok (.if_icmp .ne 103, 3) := by decide +kernel
theorem d_18_14_14 : decode prog_18_method_14_code 14 = .ok (.aload_n 0, 1) := by decide +kernel
theorem d_18_14_15 : decode prog_18_method_14_code 15 = .ok (.getfield 28, 3) := by decide +kernel
theorem d_18_14_18 : decode prog_18_method_14_code 18 = .ok (.iconst 1, 1) := by decide +kernel
theorem d_18_14_19 : decode prog_18_method_14_code 19 = .ok (.iadd, 1) := by decide +kernel
theorem d_18_14_20 : decode prog_18_method_14_code 20 = .ok (.aload_n 0, 1) := by decide +kernel
theorem d_18_14_21 : decode prog_18_method_14_code 21 = .ok (.getfield 25, 3) := by decide +kernel
theorem d_18_14_24 : decode prog_18_method_14_code 24 = .ok (.if_icmp .ge 90, 3) := by decide +kernel
theorem d_18_14_114 : decode prog_18_method_14_code 114 = .ok (.aload_n 0, 1) := by decide +kernel
theorem d_18_14_115 : decode prog_18_method_14_code 115 = .ok (.iconst 0, 1) := by decide +kernel
theorem d_18_14_116 : decode prog_18_method_14_code 116 = .ok (.putfield 59, 3) := by decide +kernel
theorem w_2143 : (Cond.fieldLink "NumberHouseModel$TextRows" (59 : Nat) "NumberHouseModel$TextRows" "kind" "I") ∈ q_tbl := q_of 2143 (by decide +kernel) (by decide +kernel)
theorem d_18_14_119 : decode prog_18_method_14_code 119 = .ok (.aload_n 0, 1) := by decide +kernel
theorem d_18_14_120 : decode prog_18_method_14_code 120 = .ok (.iconst 0, 1) := by decide +kernel
theorem d_18_14_121 : decode prog_18_method_14_code 121 = .ok (.invokevirtual 62, 3) := by decide +kernel
theorem w_2449 : (Cond.code ({ cls := "NumberHouseModel$TextRows", name := "digits", desc := "(Z)Z" } : MethodName) prog_18_method_12_code (3 : Nat) (some .boolean)) ∈ q_tbl := q_of 2449 (by decide +kernel) (by decide +kernel)
theorem w_2446 : (Cond.methodLink "NumberHouseModel$TextRows" (62 : Nat) ({ cls := "NumberHouseModel$TextRows", name := "digits", desc := "(Z)Z" } : MethodName)) ∈ q_tbl := q_of 2446 (by decide +kernel) (by decide +kernel)
theorem w_2448 : (Cond.instanceMethod ({ cls := "NumberHouseModel$TextRows", name := "digits", desc := "(Z)Z" } : MethodName)) ∈ q_tbl := q_of 2448 (by decide +kernel) (by decide +kernel)
theorem ws_70 : Cond.selects "NumberHouseModel$TextRows" (⟨"NumberHouseModel$TextRows", "digits", "(Z)Z"⟩ : MethodName) (⟨"NumberHouseModel$TextRows", "digits", "(Z)Z"⟩ : MethodName) ∈ q_tbl := q_ofs 70 (by decide +kernel) (by decide +kernel)
theorem LV_TR_62 : q_LV "NumberHouseModel$TextRows" 62 y_TR_digits prog_18_method_12_code 3 (some .boolean) 1 := ⟨w_2449, w_18, w_2446, w_2448, ws_70, ⟨by decide, by decide, by decide +kernel⟩⟩
theorem d_18_14_124 : decode prog_18_method_14_code 124 = .ok (.ifCond .ne 5, 3) := by decide +kernel
theorem d_18_14_129 : decode prog_18_method_14_code 129 = .ok (.aload_n 0, 1) := by decide +kernel
theorem d_18_14_130 : decode prog_18_method_14_code 130 = .ok (.bipush 101, 2) := by decide +kernel
theorem d_18_14_132 : decode prog_18_method_14_code 132 = .ok (.bipush 69, 2) := by decide +kernel
theorem d_18_14_134 : decode prog_18_method_14_code 134 = .ok (.invokevirtual 66, 3) := by decide +kernel
theorem w_2459 : (Cond.code ({ cls := "NumberHouseModel$TextRows", name := "isAt", desc := "(II)Z" } : MethodName) prog_18_method_10_code (3 : Nat) (some .boolean)) ∈ q_tbl := q_of 2459 (by decide +kernel) (by decide +kernel)
theorem w_2456 : (Cond.methodLink "NumberHouseModel$TextRows" (66 : Nat) ({ cls := "NumberHouseModel$TextRows", name := "isAt", desc := "(II)Z" } : MethodName)) ∈ q_tbl := q_of 2456 (by decide +kernel) (by decide +kernel)
theorem w_2458 : (Cond.instanceMethod ({ cls := "NumberHouseModel$TextRows", name := "isAt", desc := "(II)Z" } : MethodName)) ∈ q_tbl := q_of 2458 (by decide +kernel) (by decide +kernel)
theorem ws_71 : Cond.selects "NumberHouseModel$TextRows" (⟨"NumberHouseModel$TextRows", "isAt", "(II)Z"⟩ : MethodName) (⟨"NumberHouseModel$TextRows", "isAt", "(II)Z"⟩ : MethodName) ∈ q_tbl := q_ofs 71 (by decide +kernel) (by decide +kernel)
theorem LV_TR_66 : q_LV "NumberHouseModel$TextRows" 66 y_TR_isAt prog_18_method_10_code 3 (some .boolean) 2 := ⟨w_2459, w_18, w_2456, w_2458, ws_71, ⟨by decide, by decide, by decide +kernel⟩⟩
theorem d_18_14_137 : decode prog_18_method_14_code 137 = .ok (.ifCond .eq 22, 3) := by decide +kernel
theorem d_18_14_159 : decode prog_18_method_14_code 159 = .ok (.aload_n 0, 1) := by decide +kernel
theorem d_18_14_160 : decode prog_18_method_14_code 160 = .ok (.bipush 100, 2) := by decide +kernel
theorem d_18_14_162 : decode prog_18_method_14_code 162 = .ok (.bipush 68, 2) := by decide +kernel
theorem d_18_14_164 : decode prog_18_method_14_code 164 = .ok (.invokevirtual 66, 3) := by decide +kernel
theorem d_18_14_167 : decode prog_18_method_14_code 167 = .ok (.ifCond .ne 14, 3) := by decide +kernel
theorem d_18_14_170 : decode prog_18_method_14_code 170 = .ok (.aload_n 0, 1) := by decide +kernel
theorem d_18_14_171 : decode prog_18_method_14_code 171 = .ok (.bipush 102, 2) := by decide +kernel
theorem d_18_14_173 : decode prog_18_method_14_code 173 = .ok (.bipush 70, 2) := by decide +kernel
theorem d_18_14_175 : decode prog_18_method_14_code 175 = .ok (.invokevirtual 66, 3) := by decide +kernel
theorem d_18_14_178 : decode prog_18_method_14_code 178 = .ok (.ifCond .eq 13, 3) := by decide +kernel
theorem d_18_14_191 : decode prog_18_method_14_code 191 = .ok (.iconst 1, 1) := by decide +kernel
theorem d_18_14_192 : decode prog_18_method_14_code 192 = .ok (.ireturn, 1) := by decide +kernel
def y_TR_number : MethodName := ⟨"NumberHouseModel$TextRows", "number", "()Z"⟩
set_option maxRecDepth 100000 in
set_option maxHeartbeats 4000000 in
theorem c_TR_number (l : Launch) (D : va_G) (g : Nat → ClassId) (ws : va_W) (kO0 kA1 kA2 qO0 qA1 qA2 qA3 : Nat) (hO0 : ws[kO0]? = (some (qO0, .inr (16, [.int 0, .ref qA1, .int 1, .int 0, .int 0, .int 0, .ref qA2, .int 0, .int 0, .long 0, .ref qA3, .int 0, .int 0, .long 0, .long 0, .int 0, .int 0])) : Option (Nat × va_E))) (hA1 : ws[kA1]? = (some (qA1, .inl (g 0, 4100, .inl (upd (fun _ => 0) 0 48))) : Option (Nat × va_E))) (hA2 : ws[kA2]? = (some (qA2, .inl (g 0, 4100, .inl (fun _ => 0))) : Option (Nat × va_E))) (n_A1_A2 : kA1 ≠ kA2) : q_mI l y_TR_number prog_18_method_14_code 1 (.boolean) 3 0 0 D g [.ref qO0] ws (fun r u => 1 = r ∧ q_un ws u [kO0, kA2] ∧ u[kO0]? = (some (qO0, .inr (16, [.int 0, .ref qA1, .int 1, .int 0, .int 1, .int 0, .ref qA2, .int 1, .int 1, .long 0, .ref qA3, .int 0, .int 0, .long 0, .long 0, .int 0, .int 0])) : Option (Nat × va_E)) ∧ u[kA2]? = (some (qA2, .inl (g 0, 4100, .inl (fun _ => 0))) : Option (Nat × va_E))) := by
  intro sz
  refine q_into (by decide) (Nat.le_of_ble_eq_true rfl) ?_
  intro p e s m below meth c ls hsz C0 V hl
  have hx := C0.1
  have hb := C0.2.1
  have hl : lv_has ls 1 [(0, .ref qO0)] := hl
  have n_A1_O0 := q_df hA1 hO0
  have n_A2_O0 := q_df hA2 hO0
  have hF : q_un ws ws [kO0, kA2] := q_u0
  refine lv_aload_n hx hb d_18_14_0 rfl (lv_at hl 0 rfl) ?_
  refine lv_lconst (v := 0) hx hb d_18_14_1 (by decide) ?_
  refine q_put (ci := 16) (j := 9) (v := .long 0) (ty := .long) C0 V i_TR o_TR n_TR rfl rfl hO0 (by decide) w_2149 rfl rfl rfl rfl (Nat.le_of_ble_eq_true rfl) d_18_14_2 (fun H locs w1 hu2 hO0 V => ?_)
  replace hO0 : w1[kO0]? = (some (qO0, .inr (16, [.int 0, .ref qA1, .int 1, .int 0, .int 0, .int 0, .ref qA2, .int 0, .int 0, .long 0, .ref qA3, .int 0, .int 0, .long 0, .long 0, .int 0, .int 0])) : Option (Nat × va_E)) := hO0
  replace hF := q_us hF hu2 (.head _)
  refine lv_aload_n hx hb d_18_14_5 rfl (lv_at hl 0 rfl) ?_
  replace hA1 := (hu2 _ n_A1_O0).trans (hA1)
  refine q_goi V (q_runV (As := []) (rest := []) (d := 1) (mc := 0) (ms := 0) (ci := 16) C0 V rfl LV_TR_35 (c_TR_here l D g w1 kO0 kA1 qO0 qA1 qA2 qA3 hO0 hA1 _) rfl rfl hO0 rfl hl.1 rfl (Nat.le_of_ble_eq_true rfl) ⟨by decide, by decide⟩ ⟨Nat.le_of_ble_eq_true rfl, Nat.le_of_ble_eq_true rfl⟩ d_18_14_6) (fun v5 u4 H locs hp3 V => ?_)
  obtain ⟨rfl, rfl⟩ := hp3
  refine lv_bipush (v := 48) hx hb d_18_14_9 (by decide) ?_
  refine lv_icmp_ne (tgt := 114) hx hb d_18_14_11 (by decide) (fun c7 => absurd (by decide) c7) (fun c7 => ?_)
  refine lv_aload_n hx hb d_18_14_14 rfl (lv_at hl 0 rfl) ?_
  refine q_get (ci := 16) (j := 4) (v := .int 0) C0 V i_TR rfl rfl hO0 (by decide) w_2144 rfl d_18_14_15 ?_
  refine lv_iconst (v := 1) hx hb d_18_14_18 (by decide) ?_
  refine lv_iadd hx hb d_18_14_19 ?_
  refine q_ti (v := 1) (by decide) ?_
  refine lv_aload_n hx hb d_18_14_20 rfl (lv_at hl 0 rfl) ?_
  refine q_get (ci := 16) (j := 2) (v := .int 1) C0 V i_TR rfl rfl hO0 (by decide) w_2141 rfl d_18_14_21 ?_
  refine lv_icmp_ge (tgt := 114) hx hb d_18_14_24 (by decide) (fun c8 => ?_) (fun c8 => absurd (by decide) c8)
  refine lv_aload_n hx hb d_18_14_114 rfl (lv_at hl 0 rfl) ?_
  refine lv_iconst (v := 0) hx hb d_18_14_115 (by decide) ?_
  refine q_put (ci := 16) (j := 3) (v := .int 0) (ty := .int) C0 V i_TR o_TR n_TR rfl rfl hO0 (by decide) w_2143 rfl rfl rfl rfl (Nat.le_of_ble_eq_true rfl) d_18_14_116 (fun H locs w9 hu10 hO0 V => ?_)
  replace hO0 : w9[kO0]? = (some (qO0, .inr (16, [.int 0, .ref qA1, .int 1, .int 0, .int 0, .int 0, .ref qA2, .int 0, .int 0, .long 0, .ref qA3, .int 0, .int 0, .long 0, .long 0, .int 0, .int 0])) : Option (Nat × va_E)) := hO0
  replace hF := q_us hF hu10 (.head _)
  refine lv_aload_n hx hb d_18_14_119 rfl (lv_at hl 0 rfl) ?_
  refine lv_iconst (v := 0) hx hb d_18_14_120 (by decide) ?_
  replace hA1 := (hu10 _ n_A1_O0).trans (hA1)
  replace hA2 := (hu10 _ n_A2_O0).trans ((hu2 _ n_A2_O0).trans (hA2))
  refine q_goi V (q_runV (As := [.int 0]) (rest := []) (d := 2) (mc := 0) (ms := 0) (ci := 16) C0 V rfl LV_TR_62 (c_TR_digits l D g w9 kO0 kA1 kA2 qO0 qA1 qA2 qA3 hO0 hA1 hA2 n_A1_A2 _) rfl rfl hO0 rfl hl.1 rfl (Nat.le_of_ble_eq_true rfl) ⟨by decide, by decide⟩ ⟨Nat.le_of_ble_eq_true rfl, Nat.le_of_ble_eq_true rfl⟩ d_18_14_121) (fun v13 u12 H locs hp11 V => ?_)
  obtain ⟨rfl, hg14, hO0, hA2⟩ := hp11
  replace hF := q_uc hF hg14 (q_sc (.head _) (q_sc (.tail _ (.head _)) (fun _ h => absurd h List.not_mem_nil)))
  refine lv_if_ne (tgt := 129) hx hb d_18_14_124 (by decide) (fun c15 => ?_) (fun c15 => absurd c15 (by decide))
  refine lv_aload_n hx hb d_18_14_129 rfl (lv_at hl 0 rfl) ?_
  refine lv_bipush (v := 101) hx hb d_18_14_130 (by decide) ?_
  refine lv_bipush (v := 69) hx hb d_18_14_132 (by decide) ?_
  refine q_goi V (q_runV (As := [.int 101, .int 69]) (rest := []) (d := 2) (mc := 0) (ms := 0) (ci := 16) C0 V rfl LV_TR_66 (c_TR_isAt l D g u12 kO0 qO0 qA1 qA2 qA3 hO0 _) rfl rfl hO0 rfl hl.1 rfl (Nat.le_of_ble_eq_true rfl) ⟨by decide, by decide⟩ ⟨Nat.le_of_ble_eq_true rfl, Nat.le_of_ble_eq_true rfl⟩ d_18_14_134) (fun v18 u17 H locs hp16 V => ?_)
  obtain ⟨rfl, rfl⟩ := hp16
  refine lv_if_eq (tgt := 159) hx hb d_18_14_137 (by decide) (fun c20 => ?_) (fun c20 => absurd (by decide) c20)
  refine lv_aload_n hx hb d_18_14_159 rfl (lv_at hl 0 rfl) ?_
  refine lv_bipush (v := 100) hx hb d_18_14_160 (by decide) ?_
  refine lv_bipush (v := 68) hx hb d_18_14_162 (by decide) ?_
  refine q_goi V (q_runV (As := [.int 100, .int 68]) (rest := []) (d := 2) (mc := 0) (ms := 0) (ci := 16) C0 V rfl LV_TR_66 (c_TR_isAt_2 l D g u12 kO0 qO0 qA1 qA2 qA3 hO0 _) rfl rfl hO0 rfl hl.1 rfl (Nat.le_of_ble_eq_true rfl) ⟨by decide, by decide⟩ ⟨Nat.le_of_ble_eq_true rfl, Nat.le_of_ble_eq_true rfl⟩ d_18_14_164) (fun v23 u22 H locs hp21 V => ?_)
  obtain ⟨rfl, rfl⟩ := hp21
  refine lv_if_ne (tgt := 181) hx hb d_18_14_167 (by decide) (fun c25 => absurd (by decide) c25) (fun c25 => ?_)
  refine lv_aload_n hx hb d_18_14_170 rfl (lv_at hl 0 rfl) ?_
  refine lv_bipush (v := 102) hx hb d_18_14_171 (by decide) ?_
  refine lv_bipush (v := 70) hx hb d_18_14_173 (by decide) ?_
  refine q_goi V (q_runV (As := [.int 102, .int 70]) (rest := []) (d := 2) (mc := 0) (ms := 0) (ci := 16) C0 V rfl LV_TR_66 (c_TR_isAt_3 l D g u12 kO0 qO0 qA1 qA2 qA3 hO0 _) rfl rfl hO0 rfl hl.1 rfl (Nat.le_of_ble_eq_true rfl) ⟨by decide, by decide⟩ ⟨Nat.le_of_ble_eq_true rfl, Nat.le_of_ble_eq_true rfl⟩ d_18_14_175) (fun v28 u27 H locs hp26 V => ?_)
  obtain ⟨rfl, rfl⟩ := hp26
  refine lv_if_eq (tgt := 191) hx hb d_18_14_178 (by decide) (fun c30 => ?_) (fun c30 => absurd (by decide) c30)
  refine lv_iconst (v := 1) hx hb d_18_14_191 (by decide) ?_
  exact q_retz C0 V (rfl) (⟨rfl, hF, hO0, hA2⟩) d_18_14_192
set_option maxRecDepth 100000 in
set_option maxHeartbeats 4000000 in
theorem c_TR_blanks_2 (l : Launch) (D : va_G) (g : Nat → ClassId) (ws : va_W) (kO0 qO0 qA1 qA2 qA3 : Nat) (hO0 : ws[kO0]? = (some (qO0, .inr (16, [.int 0, .ref qA1, .int 1, .int 0, .int 1, .int 0, .ref qA2, .int 1, .int 1, .long 0, .ref qA3, .int 0, .int 0, .long 0, .long 0, .int 0, .int 0])) : Option (Nat × va_E))) : q_mV l y_TR_blanks prog_18_method_15_code 1 1 0 0 D g [.ref qO0] ws (fun u => ws = u) := by
  intro sz
  refine q_into (by decide) (Nat.le_of_ble_eq_true rfl) ?_
  intro p e s m below meth c ls hsz C0 V hl
  have hx := C0.1
  have hb := C0.2.1
  have hl : lv_has ls 1 [(0, .ref qO0)] := hl
  refine lv_aload_n hx hb d_18_15_0 rfl (lv_at hl 0 rfl) ?_
  refine q_get (ci := 16) (j := 4) (v := .int 1) C0 V i_TR rfl rfl hO0 (by decide) w_2144 rfl d_18_15_1 ?_
  refine lv_aload_n hx hb d_18_15_4 rfl (lv_at hl 0 rfl) ?_
  refine q_get (ci := 16) (j := 2) (v := .int 1) C0 V i_TR rfl rfl hO0 (by decide) w_2141 rfl d_18_15_5 ?_
  refine lv_icmp_ge (tgt := 38) hx hb d_18_15_8 (by decide) (fun c1 => ?_) (fun c1 => absurd (by decide) c1)
  exact q_retv C0 V (rfl) d_18_15_38
theorem d_18_16_0 : decode prog_18_method_16_code 0 = .ok (.aload_n 0, 1) := by decide +kernel
theorem d_18_16_1 : decode prog_18_method_16_code 1 = .ok (.iconst 0, 1) := by decide +kernel
theorem d_18_16_2 : decode prog_18_method_16_code 2 = .ok (.putfield 28, 3) := by decide +kernel
theorem d_18_16_5 : decode prog_18_method_16_code 5 = .ok (.aload_n 0, 1) := by decide +kernel
theorem d_18_16_6 : decode prog_18_method_16_code 6 = .ok (.invokevirtual 74, 3) := by decide +kernel
theorem w_2430 : (Cond.code ({ cls := "NumberHouseModel$TextRows", name := "blanks", desc := "()V" } : MethodName) prog_18_method_15_code (1 : Nat) (none : Option ClassFile.FieldType)) ∈ q_tbl := q_of 2430 (by decide +kernel) (by decide +kernel)
theorem w_2427 : (Cond.methodLink "NumberHouseModel$TextRows" (74 : Nat) ({ cls := "NumberHouseModel$TextRows", name := "blanks", desc := "()V" } : MethodName)) ∈ q_tbl := q_of 2427 (by decide +kernel) (by decide +kernel)
theorem w_2429 : (Cond.instanceMethod ({ cls := "NumberHouseModel$TextRows", name := "blanks", desc := "()V" } : MethodName)) ∈ q_tbl := q_of 2429 (by decide +kernel) (by decide +kernel)
theorem ws_66 : Cond.selects "NumberHouseModel$TextRows" (⟨"NumberHouseModel$TextRows", "blanks", "()V"⟩ : MethodName) (⟨"NumberHouseModel$TextRows", "blanks", "()V"⟩ : MethodName) ∈ q_tbl := q_ofs 66 (by decide +kernel) (by decide +kernel)
theorem LV_TR_74 : q_LV "NumberHouseModel$TextRows" 74 y_TR_blanks prog_18_method_15_code 1 none 0 := ⟨w_2430, w_18, w_2427, w_2429, ws_66, ⟨by decide, by decide, by decide +kernel⟩⟩
theorem d_18_16_9 : decode prog_18_method_16_code 9 = .ok (.aload_n 0, 1) := by decide +kernel
theorem d_18_16_10 : decode prog_18_method_16_code 10 = .ok (.aload_n 0, 1) := by decide +kernel
theorem d_18_16_11 : decode prog_18_method_16_code 11 = .ok (.invokevirtual 35, 3) := by decide +kernel
theorem d_18_16_14 : decode prog_18_method_16_code 14 = .ok (.bipush 45, 2) := by decide +kernel
theorem d_18_16_16 : decode prog_18_method_16_code 16 = .ok (.if_icmp .ne 7, 3) := by decide +kernel
theorem d_18_16_23 : decode prog_18_method_16_code 23 = .ok (.iconst 0, 1) := by decide +kernel
theorem d_18_16_24 : decode prog_18_method_16_code 24 = .ok (.putfield 77, 3) := by decide +kernel
theorem w_2145 : (Cond.fieldLink "NumberHouseModel$TextRows" (77 : Nat) "NumberHouseModel$TextRows" "below" "Z") ∈ q_tbl := q_of 2145 (by decide +kernel) (by decide +kernel)
theorem d_18_16_27 : decode prog_18_method_16_code 27 = .ok (.aload_n 0, 1) := by decide +kernel
theorem d_18_16_28 : decode prog_18_method_16_code 28 = .ok (.getfield 77, 3) := by decide +kernel
theorem d_18_16_31 : decode prog_18_method_16_code 31 = .ok (.ifCond .ne 12, 3) := by decide +kernel
theorem d_18_16_34 : decode prog_18_method_16_code 34 = .ok (.aload_n 0, 1) := by decide +kernel
theorem d_18_16_35 : decode prog_18_method_16_code 35 = .ok (.invokevirtual 35, 3) := by decide +kernel
theorem d_18_16_38 : decode prog_18_method_16_code 38 = .ok (.bipush 43, 2) := by decide +kernel
theorem d_18_16_40 : decode prog_18_method_16_code 40 = .ok (.if_icmp .ne 13, 3) := by decide +kernel
theorem d_18_16_53 : decode prog_18_method_16_code 53 = .ok (.aload_n 0, 1) := by decide +kernel
theorem d_18_16_54 : decode prog_18_method_16_code 54 = .ok (.invokevirtual 35, 3) := by decide +kernel
theorem d_18_16_57 : decode prog_18_method_16_code 57 = .ok (.bipush 78, 2) := by decide +kernel
theorem d_18_16_59 : decode prog_18_method_16_code 59 = .ok (.if_icmp .ne 19, 3) := by decide +kernel
theorem d_18_16_78 : decode prog_18_method_16_code 78 = .ok (.aload_n 0, 1) := by decide +kernel
theorem d_18_16_79 : decode prog_18_method_16_code 79 = .ok (.invokevirtual 35, 3) := by decide +kernel
theorem d_18_16_82 : decode prog_18_method_16_code 82 = .ok (.bipush 73, 2) := by decide +kernel
theorem d_18_16_84 : decode prog_18_method_16_code 84 = .ok (.if_icmp .ne 19, 3) := by decide +kernel
theorem d_18_16_103 : decode prog_18_method_16_code 103 = .ok (.aload_n 0, 1) := by decide +kernel
theorem d_18_16_104 : decode prog_18_method_16_code 104 = .ok (.invokevirtual 89, 3) := by decide +kernel
theorem w_2445 : (Cond.code ({ cls := "NumberHouseModel$TextRows", name := "number", desc := "()Z" } : MethodName) prog_18_method_14_code (1 : Nat) (some .boolean)) ∈ q_tbl := q_of 2445 (by decide +kernel) (by decide +kernel)
theorem w_2442 : (Cond.methodLink "NumberHouseModel$TextRows" (89 : Nat) ({ cls := "NumberHouseModel$TextRows", name := "number", desc := "()Z" } : MethodName)) ∈ q_tbl := q_of 2442 (by decide +kernel) (by decide +kernel)
theorem w_2444 : (Cond.instanceMethod ({ cls := "NumberHouseModel$TextRows", name := "number", desc := "()Z" } : MethodName)) ∈ q_tbl := q_of 2444 (by decide +kernel) (by decide +kernel)
theorem ws_69 : Cond.selects "NumberHouseModel$TextRows" (⟨"NumberHouseModel$TextRows", "number", "()Z"⟩ : MethodName) (⟨"NumberHouseModel$TextRows", "number", "()Z"⟩ : MethodName) ∈ q_tbl := q_ofs 69 (by decide +kernel) (by decide +kernel)
theorem LV_TR_89 : q_LV "NumberHouseModel$TextRows" 89 y_TR_number prog_18_method_14_code 1 (some .boolean) 0 := ⟨w_2445, w_18, w_2442, w_2444, ws_69, ⟨by decide, by decide, by decide +kernel⟩⟩
theorem d_18_16_107 : decode prog_18_method_16_code 107 = .ok (.istore_n 1, 1) := by decide +kernel
theorem d_18_16_108 : decode prog_18_method_16_code 108 = .ok (.iload_n 1, 1) := by decide +kernel
theorem d_18_16_109 : decode prog_18_method_16_code 109 = .ok (.ifCond .eq 7, 3) := by decide +kernel
theorem d_18_16_112 : decode prog_18_method_16_code 112 = .ok (.aload_n 0, 1) := by decide +kernel
theorem d_18_16_113 : decode prog_18_method_16_code 113 = .ok (.invokevirtual 74, 3) := by decide +kernel
theorem d_18_16_116 : decode prog_18_method_16_code 116 = .ok (.iload_n 1, 1) := by decide +kernel
theorem d_18_16_117 : decode prog_18_method_16_code 117 = .ok (.ifCond .eq 18, 3) := by decide +kernel
theorem d_18_16_120 : decode prog_18_method_16_code 120 = .ok (.aload_n 0, 1) := by decide +kernel
theorem d_18_16_121 : decode prog_18_method_16_code 121 = .ok (.getfield 28, 3) := by decide +kernel
theorem d_18_16_124 : decode prog_18_method_16_code 124 = .ok (.aload_n 0, 1) := by decide +kernel
theorem d_18_16_125 : decode prog_18_method_16_code 125 = .ok (.getfield 25, 3) := by decide +kernel
theorem d_18_16_128 : decode prog_18_method_16_code 128 = .ok (.if_icmp .ne 7, 3) := by decide +kernel
theorem d_18_16_131 : decode prog_18_method_16_code 131 = .ok (.iconst 1, 1) := by decide +kernel
theorem d_18_16_132 : decode prog_18_method_16_code 132 = .ok (.goto 4, 3) := by decide +kernel
theorem d_18_16_136 : decode prog_18_method_16_code 136 = .ok (.ireturn, 1) := by decide +kernel
def y_TR_scan : MethodName := ⟨"NumberHouseModel$TextRows", "scan", "()Z"⟩
