/-! the reference on a fresh object: print -/
set_option maxRecDepth 100000 in
set_option maxHeartbeats 4000000 in
theorem c_WR_shrink_2 (l : Launch) (D : va_G) (g : Nat → ClassId) (ws : va_W) (kA0 qA0 : Nat) (x1 : Int32) (hA0 : ws[kA0]? = (some (qA0, .inl (g 0, 264, .inl (fun _ => 0))) : Option (Nat × va_E))) (x1lo : 2 ≤ x1) (x1hi : x1 ≤ 36) : q_mI l y_WR_shrink prog_19_method_12_code 5 (.int) 2 0 0 D g [.ref qA0, .int x1] ws (fun r u => 0 = r ∧ ws = u) := by
  intro sz
  refine q_into (by decide) (Nat.le_of_ble_eq_true rfl) ?_
  intro p e s m below meth c ls hsz C0 V hl
  have hx := C0.1
  have hb := C0.2.1
  have hl : lv_has ls 5 [(0, .ref qA0), (1, .int x1)] := hl
  refine lv_lconst (v := 0) hx hb d_19_12_0 (by decide) ?_
  refine lv_lstore_n (lv' := [(2, .long 0), (0, .ref qA0), (1, .int x1)]) hx hb d_19_12_1 rfl hl (by decide) rfl (fun ls hl => ?_)
  refine lv_aload_n hx hb d_19_12_2 rfl (lv_at hl 1 rfl) ?_
  refine q_goi V (q_runS (As := [.ref qA0]) (rest := []) (d := 1) (mc := 0) (ms := 0) C0 V rfl LS_WR_59 (c_WR_size l D g ws kA0 qA0 hA0 _) rfl hl.1 rfl (Nat.le_of_ble_eq_true rfl) ⟨by decide, by decide⟩ ⟨Nat.le_of_ble_eq_true rfl, Nat.le_of_ble_eq_true rfl⟩ d_19_12_3) (fun v3 u2 H locs hp1 V => ?_)
  obtain ⟨rfl, rfl⟩ := hp1
  refine lv_iconst (v := 1) hx hb d_19_12_6 (by decide) ?_
  refine lv_isub hx hb d_19_12_7 ?_
  refine q_ti (v := (-1)) (by decide) ?_
  refine lv_istore (lv' := [(4, .int (-1)), (2, .long 0), (0, .ref qA0), (1, .int x1)]) hx hb d_19_12_8 hl (by decide) rfl (fun ls hl => ?_)
  refine lv_iload hx hb d_19_12_10 (lv_at hl 0 rfl) ?_
  refine lv_if_lt (tgt := 46) hx hb d_19_12_12 (by decide) (fun c5 => ?_) (fun c5 => absurd (by decide) c5)
  refine lv_lload_n hx hb d_19_12_46 rfl (lv_at hl 1 rfl) ?_
  refine lv_l2i hx hb d_19_12_47 rfl ?_
  refine q_ti (v := 0) (by decide) ?_
  exact q_reti C0 V (⟨rfl, rfl⟩) d_19_12_48
set_option maxRecDepth 100000 in
set_option maxHeartbeats 4000000 in
theorem c_WR_written_2 (l : Launch) (D : va_G) (g : Nat → ClassId) (ws : va_W) (kO0 kA2 kA3 kA9 kA14 qO0 qA1 qA2 qA3 qA4 qA5 qA6 qA7 qA8 qA9 qA10 qA11 qA12 qA13 qA14 : Nat) (x1 : Int32) (x2 : Int32) (hO0 : ws[kO0]? = (some (qO0, .inr (13, [.int 0, .int 0, .ref qA1, .int 0, .ref qA2, .ref qA3, .ref qA4, .int 0, .ref qA5, .ref qA6, .ref qA7, .ref qA8, .ref qA9, .ref qA10, .ref qA11, .ref qA12, .int 0, .int 0, .ref qA13, .ref qA14, .int 0])) : Option (Nat × va_E))) (hA2 : ws[kA2]? = (some (qA2, .inl (g 0, 1408, .inl (fun _ => 0))) : Option (Nat × va_E))) (hA3 : ws[kA3]? = (some (qA3, .inl (g 3, 11, .inl (fun _ => 0))) : Option (Nat × va_E))) (hA9 : ws[kA9]? = (some (qA9, .inl (g 0, 264, .inl (fun _ => 0))) : Option (Nat × va_E))) (hA14 : ws[kA14]? = (some (qA14, .inl (g 0, 2100, .inl (fun _ => 0))) : Option (Nat × va_E))) (n_A14_A9 : kA14 ≠ kA9) (n_A2_A14 : kA2 ≠ kA14) (n_A2_A9 : kA2 ≠ kA9) (n_A3_A14 : kA3 ≠ kA14) (n_A3_A9 : kA3 ≠ kA9) (x1lo : 0 ≤ x1) (x1hi : x1 ≤ 9) (x2lo : 2 ≤ x2) (x2hi : x2 ≤ 36) : q_mI l y_WR_written prog_19_method_42_code 6 (.int) 3 0 0 D g [.ref qO0, .int x1, .int x2] ws (fun r u => 1 = r ∧ q_un ws u [kO0, kA9, kA14] ∧ u[kO0]? = (some (qO0, .inr (13, [.int 0, .int 0, .ref qA1, .int 0, .ref qA2, .ref qA3, .ref qA4, .int 0, .ref qA5, .ref qA6, .ref qA7, .ref qA8, .ref qA9, .ref qA10, .ref qA11, .ref qA12, .int 0, .int 0, .ref qA13, .ref qA14, .int 1])) : Option (Nat × va_E)) ∧ u[kA9]? = (some (qA9, .inl (g 0, 264, .inl (fun _ => 0))) : Option (Nat × va_E)) ∧ u[kA14]? = (some (qA14, .inl (g 0, 2100, .inl (upd (fun _ => 0) 0 48))) : Option (Nat × va_E))) := by
  intro sz
  refine q_into (by decide) (Nat.le_of_ble_eq_true rfl) ?_
  intro p e s m below meth c ls hsz C0 V hl
  have hx := C0.1
  have hb := C0.2.1
  have hl : lv_has ls 6 [(0, .ref qO0), (1, .int x1), (2, .int x2)] := hl
  have n_A14_O0 := q_df hA14 hO0
  have n_A2_O0 := q_df hA2 hO0
  have n_A3_O0 := q_df hA3 hO0
  have n_A9_A14 := Ne.symm n_A14_A9
  have n_A9_O0 := q_df hA9 hO0
  have n_O0_A14 := Ne.symm (q_df hA14 hO0)
  have n_O0_A9 := Ne.symm (q_df hA9 hO0)
  have hF : q_un ws ws [kO0, kA9, kA14] := q_u0
  refine lv_aload_n hx hb d_19_42_0 rfl (lv_at hl 0 rfl) ?_
  refine lv_iload_n hx hb d_19_42_1 rfl (lv_at hl 1 rfl) ?_
  refine q_goi V (q_runS (As := [.int x1]) (rest := [.ref qO0]) (d := 1) (mc := 0) (ms := 0) C0 V rfl LS_WR_91 (c_WR_no l D g ws x1 x1lo x1hi _) rfl hl.1 rfl (Nat.le_of_ble_eq_true rfl) ⟨by decide, by decide⟩ ⟨Nat.le_of_ble_eq_true rfl, Nat.le_of_ble_eq_true rfl⟩ d_19_42_2) (fun v3 u2 H locs hp1 V => ?_)
  obtain ⟨rfl, rfl⟩ := hp1
  refine lv_if_ne (tgt := 19) hx hb d_19_42_5 (by decide) (fun c5 => absurd (by decide) c5) (fun c5 => ?_)
  refine lv_iload_n hx hb d_19_42_8 rfl (lv_at hl 2 rfl) ?_
  refine lv_iconst (v := 2) hx hb d_19_42_9 (by decide) ?_
  refine lv_icmp_lt (tgt := 19) hx hb d_19_42_10 (by decide) (fun c6 => absurd c6 (Int32.not_lt.mpr x2lo)) (fun c6 => ?_)
  refine lv_iload_n hx hb d_19_42_13 rfl (lv_at hl 2 rfl) ?_
  refine lv_bipush (v := 36) hx hb d_19_42_14 (by decide) ?_
  refine lv_icmp_le (tgt := 23) hx hb d_19_42_16 (by decide) (fun c7 => ?_) (fun c7 => absurd x2hi c7)
  refine lv_iconst (v := 0) hx hb d_19_42_23 (by decide) ?_
  refine q_put (ci := 13) (j := 0) (v := .int 0) (ty := .int) C0 V i_WR o_WR n_WR rfl rfl hO0 (by decide) w_1921 rfl rfl rfl rfl (Nat.le_of_ble_eq_true rfl) d_19_42_24 (fun H locs w8 hu9 hO0 V => ?_)
  replace hO0 : w8[kO0]? = (some (qO0, .inr (13, [.int 0, .int 0, .ref qA1, .int 0, .ref qA2, .ref qA3, .ref qA4, .int 0, .ref qA5, .ref qA6, .ref qA7, .ref qA8, .ref qA9, .ref qA10, .ref qA11, .ref qA12, .int 0, .int 0, .ref qA13, .ref qA14, .int 0])) : Option (Nat × va_E)) := hO0
  replace hF := q_us hF hu9 (.head _)
  refine lv_aload_n hx hb d_19_42_27 rfl (lv_at hl 0 rfl) ?_
  refine q_get (ci := 13) (j := 0) (v := .int 0) C0 V i_WR rfl rfl hO0 (by decide) w_1921 rfl d_19_42_28 ?_
  refine lv_if_le (tgt := 36) hx hb d_19_42_31 (by decide) (fun c10 => ?_) (fun c10 => absurd (by decide) c10)
  refine lv_aload_n hx hb d_19_42_36 rfl (lv_at hl 0 rfl) ?_
  refine lv_iload_n hx hb d_19_42_37 rfl (lv_at hl 1 rfl) ?_
  refine lv_aload_n hx hb d_19_42_38 rfl (lv_at hl 0 rfl) ?_
  refine q_get (ci := 13) (j := 12) (v := .ref qA9) C0 V i_WR rfl rfl hO0 (by decide) w_1936 rfl d_19_42_39 ?_
  replace hA9 := (hu9 _ n_A9_O0).trans (hA9)
  replace hA2 := (hu9 _ n_A2_O0).trans (hA2)
  refine q_gov V (q_runV (As := [.int x1, .ref qA9]) (rest := []) (d := 1) (mc := 0) (ms := 0) (ci := 13) C0 V rfl LV_WR_107 (c_WR_take l D g w8 kO0 kA9 kA2 qO0 qA9 qA1 qA2 qA3 qA4 qA5 qA6 qA7 qA8 qA10 qA11 qA12 qA13 qA14 x1 hO0 hA9 hA2 n_A2_A9 x1lo x1hi _) rfl rfl hO0 rfl hl.1 rfl (Nat.le_of_ble_eq_true rfl) ⟨by decide, by decide⟩ ⟨Nat.le_of_ble_eq_true rfl, Nat.le_of_ble_eq_true rfl⟩ d_19_42_42) (fun u12 H locs hp11 V => ?_)
  obtain ⟨hg13, hA9⟩ := hp11
  replace hF := q_uc hF hg13 (q_sc (.tail _ (.head _)) (fun _ h => absurd h List.not_mem_nil))
  refine lv_aload_n hx hb d_19_42_45 rfl (lv_at hl 0 rfl) ?_
  refine lv_iconst (v := 0) hx hb d_19_42_46 (by decide) ?_
  replace hO0 := (hg13 _ (q_nc n_O0_A9 List.not_mem_nil)).trans (hO0)
  refine q_put (ci := 13) (j := 20) (v := .int 0) (ty := .int) C0 V i_WR o_WR n_WR rfl rfl hO0 (by decide) w_1945 rfl rfl rfl rfl (Nat.le_of_ble_eq_true rfl) d_19_42_47 (fun H locs w14 hu15 hO0 V => ?_)
  replace hO0 : w14[kO0]? = (some (qO0, .inr (13, [.int 0, .int 0, .ref qA1, .int 0, .ref qA2, .ref qA3, .ref qA4, .int 0, .ref qA5, .ref qA6, .ref qA7, .ref qA8, .ref qA9, .ref qA10, .ref qA11, .ref qA12, .int 0, .int 0, .ref qA13, .ref qA14, .int 0])) : Option (Nat × va_E)) := hO0
  replace hF := q_us hF hu15 (.head _)
  refine lv_aload_n hx hb d_19_42_50 rfl (lv_at hl 0 rfl) ?_
  refine q_get (ci := 13) (j := 12) (v := .ref qA9) C0 V i_WR rfl rfl hO0 (by decide) w_1936 rfl d_19_42_51 ?_
  replace hA9 := (hu15 _ n_A9_O0).trans (hA9)
  refine q_goi V (q_runS (As := [.ref qA9]) (rest := []) (d := 1) (mc := 0) (ms := 0) C0 V rfl LS_WR_59 (c_WR_size l D g w14 kA9 qA9 hA9 _) rfl hl.1 rfl (Nat.le_of_ble_eq_true rfl) ⟨by decide, by decide⟩ ⟨Nat.le_of_ble_eq_true rfl, Nat.le_of_ble_eq_true rfl⟩ d_19_42_54) (fun v18 u17 H locs hp16 V => ?_)
  obtain ⟨rfl, rfl⟩ := hp16
  refine lv_if_gt (tgt := 67) hx hb d_19_42_57 (by decide) (fun c20 => absurd c20 (by decide)) (fun c20 => ?_)
  refine lv_aload_n hx hb d_19_42_60 rfl (lv_at hl 0 rfl) ?_
  refine q_get (ci := 13) (j := 20) (v := .int 0) C0 V i_WR rfl rfl hO0 (by decide) w_1945 rfl d_19_42_61 ?_
  refine lv_if_ne (tgt := 118) hx hb d_19_42_64 (by decide) (fun c21 => absurd (by decide) c21) (fun c21 => ?_)
  refine lv_aload_n hx hb d_19_42_67 rfl (lv_at hl 0 rfl) ?_
  refine q_get (ci := 13) (j := 12) (v := .ref qA9) C0 V i_WR rfl rfl hO0 (by decide) w_1936 rfl d_19_42_68 ?_
  refine lv_iload_n hx hb d_19_42_71 rfl (lv_at hl 2 rfl) ?_
  refine q_goi V (q_runS (As := [.ref qA9, .int x2]) (rest := []) (d := 2) (mc := 0) (ms := 0) C0 V rfl LS_WR_158 (c_WR_shrink_2 l D g w14 kA9 qA9 x2 hA9 x2lo x2hi _) rfl hl.1 rfl (Nat.le_of_ble_eq_true rfl) ⟨by decide, by decide⟩ ⟨Nat.le_of_ble_eq_true rfl, Nat.le_of_ble_eq_true rfl⟩ d_19_42_72) (fun v24 u23 H locs hp22 V => ?_)
  obtain ⟨rfl, rfl⟩ := hp22
  refine lv_istore_n (lv' := [(3, .int 0), (0, .ref qO0), (1, .int x1), (2, .int x2)]) hx hb d_19_42_75 rfl hl (by decide) rfl (fun ls hl => ?_)
  refine lv_aload_n hx hb d_19_42_76 rfl (lv_at hl 1 rfl) ?_
  refine q_get (ci := 13) (j := 19) (v := .ref qA14) C0 V i_WR rfl rfl hO0 (by decide) w_1943 rfl d_19_42_77 ?_
  refine lv_aload_n hx hb d_19_42_80 rfl (lv_at hl 1 rfl) ?_
  refine q_get (ci := 13) (j := 20) (v := .int 0) C0 V i_WR rfl rfl hO0 (by decide) w_1945 rfl d_19_42_81 ?_
  refine lv_iload_n hx hb d_19_42_84 rfl (lv_at hl 0 rfl) ?_
  refine lv_bipush (v := 10) hx hb d_19_42_85 (by decide) ?_
  refine lv_icmp_ge (tgt := 97) hx hb d_19_42_87 (by decide) (fun c26 => absurd c26 (by decide)) (fun c26 => ?_)
  refine lv_bipush (v := 48) hx hb d_19_42_90 (by decide) ?_
  refine lv_iload_n hx hb d_19_42_92 rfl (lv_at hl 0 rfl) ?_
  refine lv_iadd hx hb d_19_42_93 ?_
  refine q_ti (v := 48) (by decide) ?_
  refine lv_goto (tgt := 104) hx hb d_19_42_94 (by decide) ?_
  replace hA14 := (hu15 _ n_A14_O0).trans ((hg13 _ (q_nc n_A14_A9 List.not_mem_nil)).trans ((hu9 _ n_A14_O0).trans (hA14)))
  refine q_iast C0 V hA14 (by unfold vp_in; decide) d_19_42_104 (fun H locs w27 hu28 hA14 V => ?_)
  replace hA14 : w27[kA14]? = (some (qA14, .inl (g 0, 2100, .inl (upd (fun _ => 0) 0 48))) : Option (Nat × va_E)) := hA14
  replace hF := q_us hF hu28 (.tail _ (.tail _ (.head _)))
  refine lv_aload_n hx hb d_19_42_105 rfl (lv_at hl 1 rfl) ?_
  refine lv_dup hx hb d_19_42_106 rfl ?_
  replace hO0 := (hu28 _ n_O0_A14).trans (hO0)
  refine q_get (ci := 13) (j := 20) (v := .int 0) C0 V i_WR rfl rfl hO0 (by decide) w_1945 rfl d_19_42_107 ?_
  refine lv_iconst (v := 1) hx hb d_19_42_110 (by decide) ?_
  refine lv_iadd hx hb d_19_42_111 ?_
  refine q_ti (v := 1) (by decide) ?_
  refine q_put (ci := 13) (j := 20) (v := .int 1) (ty := .int) C0 V i_WR o_WR n_WR rfl rfl hO0 (by decide) w_1945 rfl rfl rfl rfl (Nat.le_of_ble_eq_true rfl) d_19_42_112 (fun H locs w29 hu30 hO0 V => ?_)
  replace hO0 : w29[kO0]? = (some (qO0, .inr (13, [.int 0, .int 0, .ref qA1, .int 0, .ref qA2, .ref qA3, .ref qA4, .int 0, .ref qA5, .ref qA6, .ref qA7, .ref qA8, .ref qA9, .ref qA10, .ref qA11, .ref qA12, .int 0, .int 0, .ref qA13, .ref qA14, .int 1])) : Option (Nat × va_E)) := hO0
  replace hF := q_us hF hu30 (.head _)
  refine lv_goto (tgt := 50) hx hb d_19_42_115 (by decide) ?_
  refine lv_aload_n hx hb d_19_42_50 rfl (lv_at hl 1 rfl) ?_
  refine q_get (ci := 13) (j := 12) (v := .ref qA9) C0 V i_WR rfl rfl hO0 (by decide) w_1936 rfl d_19_42_51 ?_
  replace hA9 := (hu30 _ n_A9_O0).trans ((hu28 _ n_A9_A14).trans (hA9))
  refine q_goi V (q_runS (As := [.ref qA9]) (rest := []) (d := 1) (mc := 0) (ms := 0) C0 V rfl LS_WR_59 (c_WR_size l D g w29 kA9 qA9 hA9 _) rfl hl.1 rfl (Nat.le_of_ble_eq_true rfl) ⟨by decide, by decide⟩ ⟨Nat.le_of_ble_eq_true rfl, Nat.le_of_ble_eq_true rfl⟩ d_19_42_54) (fun v33 u32 H locs hp31 V => ?_)
  obtain ⟨rfl, rfl⟩ := hp31
  refine lv_if_gt (tgt := 67) hx hb d_19_42_57 (by decide) (fun c35 => absurd c35 (by decide)) (fun c35 => ?_)
  refine lv_aload_n hx hb d_19_42_60 rfl (lv_at hl 1 rfl) ?_
  refine q_get (ci := 13) (j := 20) (v := .int 1) C0 V i_WR rfl rfl hO0 (by decide) w_1945 rfl d_19_42_61 ?_
  refine lv_if_ne (tgt := 118) hx hb d_19_42_64 (by decide) (fun c36 => ?_) (fun c36 => absurd c36 (by decide))
  refine lv_aload_n hx hb d_19_42_118 rfl (lv_at hl 1 rfl) ?_
  refine q_get (ci := 13) (j := 5) (v := .ref qA3) C0 V i_WR rfl rfl hO0 (by decide) w_1929 rfl d_19_42_119 ?_
  refine lv_iload_n hx hb d_19_42_122 rfl (lv_at hl 2 rfl) ?_
  replace hA3 := (hu30 _ n_A3_O0).trans ((hu28 _ n_A3_A14).trans ((hu15 _ n_A3_O0).trans ((hg13 _ (q_nc n_A3_A9 List.not_mem_nil)).trans ((hu9 _ n_A3_O0).trans (hA3)))))
  refine q_zald C0 V hA3 (q_ix (x := x1.toInt) rfl (by have t1 : 0 ≤ x1.toInt := q_leI x1lo; have t2 : x1.toInt ≤ 9 := q_leI x1hi; omega) (by have t1 : 0 ≤ x1.toInt := q_leI x1lo; have t2 : x1.toInt ≤ 9 := q_leI x1hi; omega)) d_19_42_123 ?_
  refine q_ti (v := 0) (by first | rfl | decide | simp [upd, vp_updL, sb_cl0]) ?_
  refine lv_if_eq (tgt := 148) hx hb d_19_42_124 (by decide) (fun c37 => ?_) (fun c37 => absurd (by decide) c37)
  refine lv_iconst (v := 0) hx hb d_19_42_148 (by decide) ?_
  refine lv_istore_n (lv' := [(3, .int 0), (0, .ref qO0), (1, .int x1), (2, .int x2)]) hx hb d_19_42_149 rfl hl (by decide) rfl (fun ls hl => ?_)
  refine lv_aload_n hx hb d_19_42_150 rfl (lv_at hl 1 rfl) ?_
  refine q_get (ci := 13) (j := 20) (v := .int 1) C0 V i_WR rfl rfl hO0 (by decide) w_1945 rfl d_19_42_151 ?_
  refine lv_iconst (v := 1) hx hb d_19_42_154 (by decide) ?_
  refine lv_isub hx hb d_19_42_155 ?_
  refine q_ti (v := 0) (by decide) ?_
  refine lv_istore (lv' := [(4, .int 0), (3, .int 0), (0, .ref qO0), (1, .int x1), (2, .int x2)]) hx hb d_19_42_156 hl (by decide) rfl (fun ls hl => ?_)
  refine lv_iload_n hx hb d_19_42_158 rfl (lv_at hl 1 rfl) ?_
  refine lv_iload hx hb d_19_42_159 (lv_at hl 0 rfl) ?_
  refine lv_icmp_ge (tgt := 203) hx hb d_19_42_161 (by decide) (fun c38 => ?_) (fun c38 => absurd (by decide) c38)
  refine lv_aload_n hx hb d_19_42_203 rfl (lv_at hl 2 rfl) ?_
  refine q_get (ci := 13) (j := 20) (v := .int 1) C0 V i_WR rfl rfl hO0 (by decide) w_1945 rfl d_19_42_204 ?_
  replace hA14 := (hu30 _ n_A14_O0).trans (hA14)
  exact q_reti C0 V (⟨rfl, hF, hO0, hA9, hA14⟩) d_19_42_207
theorem d_14_5_7 : decode prog_14_method_5_code 7 = .ok (.aload_n 0, 1) := by decide +kernel
theorem d_14_5_8 : decode prog_14_method_5_code 8 = .ok (.getfield 13, 3) := by decide +kernel
theorem d_14_5_11 : decode prog_14_method_5_code 11 = .ok (.iload_n 3, 1) := by decide +kernel
theorem d_14_5_12 : decode prog_14_method_5_code 12 = .ok (.aload_n 1, 1) := by decide +kernel
theorem d_14_5_13 : decode prog_14_method_5_code 13 = .ok (.iload_n 3, 1) := by decide +kernel
theorem d_14_5_14 : decode prog_14_method_5_code 14 = .ok (.iaload, 1) := by decide +kernel
theorem d_14_5_15 : decode prog_14_method_5_code 15 = .ok (.iastore, 1) := by decide +kernel
theorem d_14_5_16 : decode prog_14_method_5_code 16 = .ok (.iinc 3 1, 3) := by decide +kernel
theorem d_14_5_19 : decode prog_14_method_5_code 19 = .ok (.goto (-17), 3) := by decide +kernel
set_option maxRecDepth 100000 in
set_option maxHeartbeats 4000000 in
theorem c_NM_show_2 (l : Launch) (D : va_G) (g : Nat → ClassId) (ws : va_W) ( qO0 qA1 qA2 qA3 qO4 qO5 qO6 qO7 qO8 qA9 qA10 : Nat) (hO0 : ws[116]? = (some (qO0, .inr (12, [.int 0, .ref qA2, .int 0, .ref qA3, .int 0, .ref qO4, .ref qO5, .ref qO6, .ref qO7, .ref qO8, .ref qA9, .ref qA10])) : Option (Nat × va_E))) (hA1 : ws[133]? = (some (qA1, .inl (g 0, 2100, .inl (upd (fun _ => 0) 0 48))) : Option (Nat × va_E))) (hA3 : ws[118]? = (some (qA3, .inl (g 0, 12200, .inl (fun _ => 0))) : Option (Nat × va_E))) : q_mI l y_NM_show prog_14_method_5_code 4 (.int) 1 0 0 D g [.ref qO0, .ref qA1, .int 1] ws (fun r u => 1 = r ∧ q_un ws u [116, 118] ∧ u[116]? = (some (qO0, .inr (12, [.int 0, .ref qA2, .int 0, .ref qA3, .int 1, .ref qO4, .ref qO5, .ref qO6, .ref qO7, .ref qO8, .ref qA9, .ref qA10])) : Option (Nat × va_E)) ∧ u[118]? = (some (qA3, .inl (g 0, 12200, .inl (upd (fun _ => 0) 0 48))) : Option (Nat × va_E))) := by
  intro sz
  refine q_into (by decide) (Nat.le_of_ble_eq_true rfl) ?_
  intro p e s m below meth c ls hsz C0 V hl
  have hx := C0.1
  have hb := C0.2.1
  have hl : lv_has ls 4 [(0, .ref qO0), (1, .ref qA1), (2, .int 1)] := hl
  have hF : q_un ws ws [116, 118] := q_u0
  refine lv_iconst (v := 0) hx hb d_14_5_0 (by decide) ?_
  refine lv_istore_n (lv' := [(3, .int 0), (0, .ref qO0), (1, .ref qA1), (2, .int 1)]) hx hb d_14_5_1 rfl hl (by decide) rfl (fun ls hl => ?_)
  refine lv_iload_n hx hb d_14_5_2 rfl (lv_at hl 0 rfl) ?_
  refine lv_iload_n hx hb d_14_5_3 rfl (lv_at hl 3 rfl) ?_
  refine lv_icmp_ge (tgt := 22) hx hb d_14_5_4 (by decide) (fun c1 => absurd c1 (by decide)) (fun c1 => ?_)
  refine lv_aload_n hx hb d_14_5_7 rfl (lv_at hl 1 rfl) ?_
  refine q_get (ci := 12) (j := 3) (v := .ref qA3) C0 V i_NM rfl rfl hO0 (by decide) w_2301 rfl d_14_5_8 ?_
  refine lv_iload_n hx hb d_14_5_11 rfl (lv_at hl 0 rfl) ?_
  refine lv_aload_n hx hb d_14_5_12 rfl (lv_at hl 2 rfl) ?_
  refine lv_iload_n hx hb d_14_5_13 rfl (lv_at hl 0 rfl) ?_
  refine q_iald C0 V hA1 (by unfold vp_in; decide) d_14_5_14 ?_
  refine q_ti (v := 48) (by first | rfl | decide | simp [upd, vp_updL, sb_cl0]) ?_
  refine q_iast C0 V hA3 (by unfold vp_in; decide) d_14_5_15 (fun H locs w2 hu3 hA3 V => ?_)
  replace hA3 : w2[118]? = (some (qA3, .inl (g 0, 12200, .inl (upd (fun _ => 0) 0 48))) : Option (Nat × va_E)) := hA3
  replace hF := q_us hF hu3 (.tail _ (.head _))
  refine lv_iinc (v := 1) (lv' := [(3, .int 1), (0, .ref qO0), (1, .ref qA1), (2, .int 1)]) hx hb d_14_5_16 hl (k := 0) rfl (by decide) (by decide) rfl (fun ls hl => ?_)
  refine lv_goto (tgt := 2) hx hb d_14_5_19 (by decide) ?_
  refine lv_iload_n hx hb d_14_5_2 rfl (lv_at hl 0 rfl) ?_
  refine lv_iload_n hx hb d_14_5_3 rfl (lv_at hl 3 rfl) ?_
  refine lv_icmp_ge (tgt := 22) hx hb d_14_5_4 (by decide) (fun c4 => ?_) (fun c4 => absurd (by decide) c4)
  refine lv_aload_n hx hb d_14_5_22 rfl (lv_at hl 1 rfl) ?_
  refine lv_iload_n hx hb d_14_5_23 rfl (lv_at hl 3 rfl) ?_
  replace hO0 := (hu3 _ (q_pd 116 118 rfl)).trans (hO0)
  refine q_put (ci := 12) (j := 4) (v := .int 1) (ty := .int) C0 V i_NM o_NM n_NM rfl rfl hO0 (by decide) w_2302 rfl rfl rfl rfl (Nat.le_of_ble_eq_true rfl) d_14_5_24 (fun H locs w5 hu6 hO0 V => ?_)
  replace hO0 : w5[116]? = (some (qO0, .inr (12, [.int 0, .ref qA2, .int 0, .ref qA3, .int 1, .ref qO4, .ref qO5, .ref qO6, .ref qO7, .ref qO8, .ref qA9, .ref qA10])) : Option (Nat × va_E)) := hO0
  replace hF := q_us hF hu6 (.head _)
  refine lv_iload_n hx hb d_14_5_27 rfl (lv_at hl 3 rfl) ?_
  replace hA3 := (hu6 _ (q_pd 118 116 rfl)).trans (hA3)
  exact q_reti C0 V (⟨rfl, hF, hO0, hA3⟩) d_14_5_28
set_option maxRecDepth 100000 in
set_option maxHeartbeats 4000000 in
theorem c_DR_written_3 (l : Launch) (D : va_G) (g : Nat → ClassId) (ws : va_W) (kO0 kA2 kA3 kA4 kA5 kA10 qO0 qA1 qA2 qA3 qA4 qA5 qA6 qA7 qA8 qA9 qA10 : Nat) (x1 : Int32) (x2 : Int32) (hO0 : ws[kO0]? = (some (qO0, .inr (14, [.int 0, .ref qA1, .int 0, .ref qA2, .ref qA3, .ref qA4, .ref qA5, .ref qA6, .int 0, .long 0, .int 0, .int 0, .ref qA7, .int 0, .ref qA8, .int 0, .ref qA9, .int 0, .ref qA10, .int 0, .int 0])) : Option (Nat × va_E))) (hA2 : ws[kA2]? = (some (qA2, .inl (g 0, 10000, .inl (fun _ => 0))) : Option (Nat × va_E))) (hA3 : ws[kA3]? = (some (qA3, .inl (g 0, 10, .inl (upd (upd (upd (upd (upd (upd (upd (upd (upd (upd (fun _ => 0) 0 1) 1 1) 2 1) 3 1) 4 1) 5 1) 6 1) 7 1) 8 1) 9 1))) : Option (Nat × va_E))) (hA4 : ws[kA4]? = (some (qA4, .inl (g 3, 10, .inl (fun _ => 0))) : Option (Nat × va_E))) (hA5 : ws[kA5]? = (some (qA5, .inl (g 0, 10, .inl (fun _ => 0))) : Option (Nat × va_E))) (hA10 : ws[kA10]? = (some (qA10, .inl (g 0, 12200, .inl (fun _ => 0))) : Option (Nat × va_E))) (n_A2_A10 : kA2 ≠ kA10) (n_A3_A10 : kA3 ≠ kA10) (n_A4_A10 : kA4 ≠ kA10) (n_A5_A10 : kA5 ≠ kA10) (x1lo : 0 ≤ x1) (x1hi : x1 ≤ 9) (x2lo : 0 ≤ x2) (x2hi : x2 ≤ 2) : q_mI l y_DR_written prog_15_method_53_code 7 (.int) 3 0 0 D g [.ref qO0, .int x1, .int x2] ws (fun r u => 1 = r ∧ q_un ws u [kO0, kA10] ∧ u[kO0]? = (some (qO0, .inr (14, [.int 0, .ref qA1, .int 0, .ref qA2, .ref qA3, .ref qA4, .ref qA5, .ref qA6, .int 0, .long 0, .int 0, .int 0, .ref qA7, .int 0, .ref qA8, .int 0, .ref qA9, .int 0, .ref qA10, .int 1, .int 0])) : Option (Nat × va_E)) ∧ u[kA10]? = (some (qA10, .inl (g 0, 12200, .inl (upd (fun _ => 0) 0 48))) : Option (Nat × va_E))) := by
  intro sz
  refine q_into (by decide) (Nat.le_of_ble_eq_true rfl) ?_
  intro p e s m below meth c ls hsz C0 V hl
  have hx := C0.1
  have hb := C0.2.1
  have hl : lv_has ls 7 [(0, .ref qO0), (1, .int x1), (2, .int x2)] := hl
  have n_A10_O0 := q_df hA10 hO0
  have n_A2_O0 := q_df hA2 hO0
  have n_A3_O0 := q_df hA3 hO0
  have n_A4_O0 := q_df hA4 hO0
  have n_A5_O0 := q_df hA5 hO0
  have hF : q_un ws ws [kO0, kA10] := q_u0
  refine lv_aload_n hx hb d_15_53_0 rfl (lv_at hl 0 rfl) ?_
  refine lv_iload_n hx hb d_15_53_1 rfl (lv_at hl 1 rfl) ?_
  refine q_goi V (q_runS (As := [.int x1]) (rest := [.ref qO0]) (d := 1) (mc := 0) (ms := 0) C0 V rfl LS_DR_113 (c_DR_no l D g ws x1 x1lo x1hi _) rfl hl.1 rfl (Nat.le_of_ble_eq_true rfl) ⟨by decide, by decide⟩ ⟨Nat.le_of_ble_eq_true rfl, Nat.le_of_ble_eq_true rfl⟩ d_15_53_2) (fun v3 u2 H locs hp1 V => ?_)
  obtain ⟨rfl, rfl⟩ := hp1
  refine lv_if_ne (tgt := 17) hx hb d_15_53_5 (by decide) (fun c5 => absurd (by decide) c5) (fun c5 => ?_)
  refine lv_iload_n hx hb d_15_53_8 rfl (lv_at hl 2 rfl) ?_
  refine lv_if_lt (tgt := 17) hx hb d_15_53_9 (by decide) (fun c6 => absurd c6 (Int32.not_lt.mpr x2lo)) (fun c6 => ?_)
  refine lv_iload_n hx hb d_15_53_12 rfl (lv_at hl 2 rfl) ?_
  refine lv_iconst (v := 2) hx hb d_15_53_13 (by decide) ?_
  refine lv_icmp_le (tgt := 21) hx hb d_15_53_14 (by decide) (fun c7 => ?_) (fun c7 => absurd x2hi c7)
  refine lv_iconst (v := 0) hx hb d_15_53_21 (by decide) ?_
  refine q_put (ci := 14) (j := 0) (v := .int 0) (ty := .int) C0 V i_DR o_DR n_DR rfl rfl hO0 (by decide) w_1996 rfl rfl rfl rfl (Nat.le_of_ble_eq_true rfl) d_15_53_22 (fun H locs w8 hu9 hO0 V => ?_)
  replace hO0 : w8[kO0]? = (some (qO0, .inr (14, [.int 0, .ref qA1, .int 0, .ref qA2, .ref qA3, .ref qA4, .ref qA5, .ref qA6, .int 0, .long 0, .int 0, .int 0, .ref qA7, .int 0, .ref qA8, .int 0, .ref qA9, .int 0, .ref qA10, .int 0, .int 0])) : Option (Nat × va_E)) := hO0
  replace hF := q_us hF hu9 (.head _)
  refine lv_aload_n hx hb d_15_53_25 rfl (lv_at hl 0 rfl) ?_
  refine q_get (ci := 14) (j := 0) (v := .int 0) C0 V i_DR rfl rfl hO0 (by decide) w_1996 rfl d_15_53_26 ?_
  refine lv_if_le (tgt := 34) hx hb d_15_53_29 (by decide) (fun c10 => ?_) (fun c10 => absurd (by decide) c10)
  refine lv_aload_n hx hb d_15_53_34 rfl (lv_at hl 0 rfl) ?_
  refine lv_iconst (v := 0) hx hb d_15_53_35 (by decide) ?_
  refine q_put (ci := 14) (j := 19) (v := .int 0) (ty := .int) C0 V i_DR o_DR n_DR rfl rfl hO0 (by decide) w_2023 rfl rfl rfl rfl (Nat.le_of_ble_eq_true rfl) d_15_53_36 (fun H locs w11 hu12 hO0 V => ?_)
  replace hO0 : w11[kO0]? = (some (qO0, .inr (14, [.int 0, .ref qA1, .int 0, .ref qA2, .ref qA3, .ref qA4, .ref qA5, .ref qA6, .int 0, .long 0, .int 0, .int 0, .ref qA7, .int 0, .ref qA8, .int 0, .ref qA9, .int 0, .ref qA10, .int 0, .int 0])) : Option (Nat × va_E)) := hO0
  replace hF := q_us hF hu12 (.head _)
  refine lv_aload_n hx hb d_15_53_39 rfl (lv_at hl 0 rfl) ?_
  refine q_get (ci := 14) (j := 5) (v := .ref qA4) C0 V i_DR rfl rfl hO0 (by decide) w_2006 rfl d_15_53_40 ?_
  refine lv_iload_n hx hb d_15_53_43 rfl (lv_at hl 1 rfl) ?_
  replace hA4 := (hu12 _ n_A4_O0).trans ((hu9 _ n_A4_O0).trans (hA4))
  refine q_zald C0 V hA4 (q_ix (x := x1.toInt) rfl (by have t1 : 0 ≤ x1.toInt := q_leI x1lo; have t2 : x1.toInt ≤ 9 := q_leI x1hi; omega) (by have t1 : 0 ≤ x1.toInt := q_leI x1lo; have t2 : x1.toInt ≤ 9 := q_leI x1hi; omega)) d_15_53_44 ?_
  refine q_ti (v := 0) (by first | rfl | decide | simp [upd, vp_updL, sb_cl0]) ?_
  refine lv_if_eq (tgt := 54) hx hb d_15_53_45 (by decide) (fun c13 => ?_) (fun c13 => absurd (by decide) c13)
  refine lv_aload_n hx hb d_15_53_54 rfl (lv_at hl 0 rfl) ?_
  refine q_get (ci := 14) (j := 4) (v := .ref qA3) C0 V i_DR rfl rfl hO0 (by decide) w_2004 rfl d_15_53_55 ?_
  refine lv_iload_n hx hb d_15_53_58 rfl (lv_at hl 1 rfl) ?_
  replace hA3 := (hu12 _ n_A3_O0).trans ((hu9 _ n_A3_O0).trans (hA3))
  refine q_iald C0 V hA3 (q_ix (x := x1.toInt) rfl (by have t1 : 0 ≤ x1.toInt := q_leI x1lo; have t2 : x1.toInt ≤ 9 := q_leI x1hi; omega) (by have t1 : 0 ≤ x1.toInt := q_leI x1lo; have t2 : x1.toInt ≤ 9 := q_leI x1hi; omega)) d_15_53_59 ?_
  refine q_ti (v := 1) (by have hj := q_clI (x := x1.toInt) rfl (by have t1 : 0 ≤ x1.toInt := q_leI x1lo; have t2 : x1.toInt ≤ 9 := q_leI x1hi; omega); have hk : x1.toNatClampNeg < 10 ∧ 0 ≤ x1.toNatClampNeg := (by have t1 : 0 ≤ x1.toInt := q_leI x1lo; have t2 : x1.toInt ≤ 9 := q_leI x1hi; omega); clear hj; generalize x1.toNatClampNeg = j at hk ⊢; rcases (show j = 0 ∨ j = 1 ∨ j = 2 ∨ j = 3 ∨ j = 4 ∨ j = 5 ∨ j = 6 ∨ j = 7 ∨ j = 8 ∨ j = 9 by omega) with rfl | rfl | rfl | rfl | rfl | rfl | rfl | rfl | rfl | rfl <;> rfl) ?_
  refine lv_istore_n (lv' := [(3, .int 1), (0, .ref qO0), (1, .int x1), (2, .int x2)]) hx hb d_15_53_60 rfl hl (by decide) rfl (fun ls hl => ?_)
  refine lv_aload_n hx hb d_15_53_61 rfl (lv_at hl 1 rfl) ?_
  refine q_get (ci := 14) (j := 6) (v := .ref qA5) C0 V i_DR rfl rfl hO0 (by decide) w_2008 rfl d_15_53_62 ?_
  refine lv_iload_n hx hb d_15_53_65 rfl (lv_at hl 2 rfl) ?_
  replace hA5 := (hu12 _ n_A5_O0).trans ((hu9 _ n_A5_O0).trans (hA5))
  refine q_iald C0 V hA5 (q_ix (x := x1.toInt) rfl (by have t1 : 0 ≤ x1.toInt := q_leI x1lo; have t2 : x1.toInt ≤ 9 := q_leI x1hi; omega) (by have t1 : 0 ≤ x1.toInt := q_leI x1lo; have t2 : x1.toInt ≤ 9 := q_leI x1hi; omega)) d_15_53_66 ?_
  refine q_ti (v := 0) (by first | rfl | decide | simp [upd, vp_updL, sb_cl0]) ?_
  refine lv_istore (lv' := [(4, .int 0), (3, .int 1), (0, .ref qO0), (1, .int x1), (2, .int x2)]) hx hb d_15_53_67 hl (by decide) rfl (fun ls hl => ?_)
  refine lv_iload_n hx hb d_15_53_69 rfl (lv_at hl 1 rfl) ?_
  refine lv_iconst (v := 1) hx hb d_15_53_70 (by decide) ?_
  refine lv_isub hx hb d_15_53_71 ?_
  refine q_ti (v := 0) (by decide) ?_
  refine lv_iload hx hb d_15_53_72 (lv_at hl 0 rfl) ?_
  refine lv_isub hx hb d_15_53_74 ?_
  refine q_ti (v := 0) (by decide) ?_
  refine lv_istore (lv' := [(5, .int 0), (4, .int 0), (3, .int 1), (0, .ref qO0), (1, .int x1), (2, .int x2)]) hx hb d_15_53_75 hl (by decide) rfl (fun ls hl => ?_)
  refine lv_iload_n hx hb d_15_53_77 rfl (lv_at hl 5 rfl) ?_
  refine lv_iconst (v := 1) hx hb d_15_53_78 (by decide) ?_
  refine lv_icmp_ne (tgt := 113) hx hb d_15_53_79 (by decide) (fun c14 => ?_) (fun c14 => ?_)
  ·
    refine lv_iload hx hb d_15_53_113 (lv_at hl 1 rfl) ?_
    refine lv_if_lt (tgt := 170) hx hb d_15_53_115 (by decide) (fun c15 => absurd c15 (by decide)) (fun c15 => ?_)
    refine lv_iload_n hx hb d_15_53_118 rfl (lv_at hl 5 rfl) ?_
    refine lv_iconst (v := 1) hx hb d_15_53_119 (by decide) ?_
    refine lv_icmp_eq (tgt := 130) hx hb d_15_53_120 (by decide) (fun c16 => absurd c16 c14) (fun c16 => ?_)
    refine lv_iload hx hb d_15_53_123 (lv_at hl 0 rfl) ?_
    refine lv_bipush (v := (-6)) hx hb d_15_53_125 (by decide) ?_
    refine lv_icmp_lt (tgt := 170) hx hb d_15_53_127 (by decide) (fun c17 => absurd c17 (by decide)) (fun c17 => ?_)
    refine lv_aload_n hx hb d_15_53_130 rfl (lv_at hl 3 rfl) ?_
    refine lv_iload_n hx hb d_15_53_131 rfl (lv_at hl 4 rfl) ?_
    refine lv_iload_n hx hb d_15_53_132 rfl (lv_at hl 2 rfl) ?_
    refine lv_iload hx hb d_15_53_133 (lv_at hl 1 rfl) ?_
    refine lv_isub hx hb d_15_53_135 ?_
    refine q_ti (v := 1) (by decide) ?_
    refine lv_iconst (v := 1) hx hb d_15_53_136 (by decide) ?_
    refine lv_icmp_ge (tgt := 149) hx hb d_15_53_137 (by decide) (fun c18 => ?_) (fun c18 => absurd (by decide) c18)
    refine lv_iconst (v := 0) hx hb d_15_53_149 (by decide) ?_
    refine lv_iload_n hx hb d_15_53_150 rfl (lv_at hl 2 rfl) ?_
    refine lv_iload hx hb d_15_53_151 (lv_at hl 1 rfl) ?_
    refine lv_if_ne (tgt := 160) hx hb d_15_53_153 (by decide) (fun c19 => absurd (by decide) c19) (fun c19 => ?_)
    refine lv_iconst (v := (-1)) hx hb d_15_53_156 (by decide) ?_
    refine lv_goto (tgt := 164) hx hb d_15_53_157 (by decide) ?_
    replace hA2 := (hu12 _ n_A2_O0).trans ((hu9 _ n_A2_O0).trans (hA2))
    replace hA10 := (hu12 _ n_A10_O0).trans ((hu9 _ n_A10_O0).trans (hA10))
    refine q_gov V (q_runV (As := [.int x1, .int 0, .int 1, .int (-1)]) (rest := []) (d := 2) (mc := 0) (ms := 0) (ci := 14) C0 V rfl LV_DR_192 (c_DR_figures l D g w11 kO0 kA2 kA3 kA10 qO0 qA1 qA2 qA3 qA4 qA5 qA6 qA7 qA8 qA9 qA10 x1 hO0 hA2 hA3 hA10 n_A2_A10 n_A3_A10 x1lo x1hi _) rfl rfl hO0 rfl hl.1 rfl (Nat.le_of_ble_eq_true rfl) ⟨by decide, by decide⟩ ⟨Nat.le_of_ble_eq_true rfl, Nat.le_of_ble_eq_true rfl⟩ d_15_53_164) (fun u21 H locs hp20 V => ?_)
    obtain ⟨hg22, hO0, hA10⟩ := hp20
    replace hF := q_uc hF hg22 (q_sc (.head _) (q_sc (.tail _ (.head _)) (fun _ h => absurd h List.not_mem_nil)))
    refine lv_goto (tgt := 289) hx hb d_15_53_167 (by decide) ?_
    refine lv_aload_n hx hb d_15_53_289 rfl (lv_at hl 3 rfl) ?_
    refine q_get (ci := 14) (j := 19) (v := .int 1) C0 V i_DR rfl rfl hO0 (by decide) w_2023 rfl d_15_53_290 ?_
    exact q_reti C0 V (⟨rfl, hF, hO0, hA10⟩) d_15_53_293
  ·
    refine lv_iload hx hb d_15_53_82 (lv_at hl 1 rfl) ?_
    refine lv_if_gt (tgt := 113) hx hb d_15_53_84 (by decide) (fun c23 => absurd c23 (by decide)) (fun c23 => ?_)
    refine lv_aload_n hx hb d_15_53_87 rfl (lv_at hl 3 rfl) ?_
    refine lv_iload_n hx hb d_15_53_88 rfl (lv_at hl 4 rfl) ?_
    refine lv_iconst (v := 0) hx hb d_15_53_89 (by decide) ?_
    refine lv_aload_n hx hb d_15_53_90 rfl (lv_at hl 3 rfl) ?_
    refine lv_iload_n hx hb d_15_53_91 rfl (lv_at hl 4 rfl) ?_
    replace hA2 := (hu12 _ n_A2_O0).trans ((hu9 _ n_A2_O0).trans (hA2))
    refine q_goi V (q_runV (As := [.int x1]) (rest := [.int 0, .int x1, .ref qO0]) (d := 1) (mc := 0) (ms := 0) (ci := 14) C0 V rfl LV_DR_120 (c_DR_isZero l D g w11 kO0 kA2 qO0 qA1 qA2 qA3 qA4 qA5 qA6 qA7 qA8 qA9 qA10 x1 hO0 hA2 x1lo x1hi _) rfl rfl hO0 rfl hl.1 rfl (Nat.le_of_ble_eq_true rfl) ⟨by decide, by decide⟩ ⟨Nat.le_of_ble_eq_true rfl, Nat.le_of_ble_eq_true rfl⟩ d_15_53_92) (fun v26 u25 H locs hp24 V => ?_)
    obtain ⟨rfl, rfl⟩ := hp24
    refine lv_if_eq (tgt := 102) hx hb d_15_53_95 (by decide) (fun c28 => absurd c28 (by decide)) (fun c28 => ?_)
    refine lv_iconst (v := 1) hx hb d_15_53_98 (by decide) ?_
    refine lv_goto (tgt := 106) hx hb d_15_53_99 (by decide) ?_
    refine lv_iconst (v := (-1)) hx hb d_15_53_106 (by decide) ?_
    replace hA10 := (hu12 _ n_A10_O0).trans ((hu9 _ n_A10_O0).trans (hA10))
    refine q_gov V (q_runV (As := [.int x1, .int 0, .int 1, .int (-1)]) (rest := []) (d := 2) (mc := 0) (ms := 0) (ci := 14) C0 V rfl LV_DR_192 (c_DR_figures l D g w11 kO0 kA2 kA3 kA10 qO0 qA1 qA2 qA3 qA4 qA5 qA6 qA7 qA8 qA9 qA10 x1 hO0 hA2 hA3 hA10 n_A2_A10 n_A3_A10 x1lo x1hi _) rfl rfl hO0 rfl hl.1 rfl (Nat.le_of_ble_eq_true rfl) ⟨by decide, by decide⟩ ⟨Nat.le_of_ble_eq_true rfl, Nat.le_of_ble_eq_true rfl⟩ d_15_53_107) (fun u30 H locs hp29 V => ?_)
    obtain ⟨hg31, hO0, hA10⟩ := hp29
    replace hF := q_uc hF hg31 (q_sc (.head _) (q_sc (.tail _ (.head _)) (fun _ h => absurd h List.not_mem_nil)))
    refine lv_goto (tgt := 289) hx hb d_15_53_110 (by decide) ?_
    refine lv_aload_n hx hb d_15_53_289 rfl (lv_at hl 3 rfl) ?_
    refine q_get (ci := 14) (j := 19) (v := .int 1) C0 V i_DR rfl rfl hO0 (by decide) w_2023 rfl d_15_53_290 ?_
    exact q_reti C0 V (⟨rfl, hF, hO0, hA10⟩) d_15_53_293
set_option maxRecDepth 100000 in
set_option maxHeartbeats 4000000 in
theorem c_NM_show_3 (l : Launch) (D : va_G) (g : Nat → ClassId) (ws : va_W) ( qO0 qA1 qA2 qA3 qO4 qO5 qO6 qO7 qO8 qA9 qA10 : Nat) (hO0 : ws[116]? = (some (qO0, .inr (12, [.int 0, .ref qA2, .int 0, .ref qA3, .int 0, .ref qO4, .ref qO5, .ref qO6, .ref qO7, .ref qO8, .ref qA9, .ref qA10])) : Option (Nat × va_E))) (hA1 : ws[144]? = (some (qA1, .inl (g 0, 12200, .inl (upd (fun _ => 0) 0 48))) : Option (Nat × va_E))) (hA3 : ws[118]? = (some (qA3, .inl (g 0, 12200, .inl (fun _ => 0))) : Option (Nat × va_E))) : q_mI l y_NM_show prog_14_method_5_code 4 (.int) 1 0 0 D g [.ref qO0, .ref qA1, .int 1] ws (fun r u => 1 = r ∧ q_un ws u [116, 118] ∧ u[116]? = (some (qO0, .inr (12, [.int 0, .ref qA2, .int 0, .ref qA3, .int 1, .ref qO4, .ref qO5, .ref qO6, .ref qO7, .ref qO8, .ref qA9, .ref qA10])) : Option (Nat × va_E)) ∧ u[118]? = (some (qA3, .inl (g 0, 12200, .inl (upd (fun _ => 0) 0 48))) : Option (Nat × va_E))) := by
  intro sz
  refine q_into (by decide) (Nat.le_of_ble_eq_true rfl) ?_
  intro p e s m below meth c ls hsz C0 V hl
  have hx := C0.1
  have hb := C0.2.1
  have hl : lv_has ls 4 [(0, .ref qO0), (1, .ref qA1), (2, .int 1)] := hl
  have hF : q_un ws ws [116, 118] := q_u0
  refine lv_iconst (v := 0) hx hb d_14_5_0 (by decide) ?_
  refine lv_istore_n (lv' := [(3, .int 0), (0, .ref qO0), (1, .ref qA1), (2, .int 1)]) hx hb d_14_5_1 rfl hl (by decide) rfl (fun ls hl => ?_)
  refine lv_iload_n hx hb d_14_5_2 rfl (lv_at hl 0 rfl) ?_
  refine lv_iload_n hx hb d_14_5_3 rfl (lv_at hl 3 rfl) ?_
  refine lv_icmp_ge (tgt := 22) hx hb d_14_5_4 (by decide) (fun c1 => absurd c1 (by decide)) (fun c1 => ?_)
  refine lv_aload_n hx hb d_14_5_7 rfl (lv_at hl 1 rfl) ?_
  refine q_get (ci := 12) (j := 3) (v := .ref qA3) C0 V i_NM rfl rfl hO0 (by decide) w_2301 rfl d_14_5_8 ?_
  refine lv_iload_n hx hb d_14_5_11 rfl (lv_at hl 0 rfl) ?_
  refine lv_aload_n hx hb d_14_5_12 rfl (lv_at hl 2 rfl) ?_
  refine lv_iload_n hx hb d_14_5_13 rfl (lv_at hl 0 rfl) ?_
  refine q_iald C0 V hA1 (by unfold vp_in; decide) d_14_5_14 ?_
  refine q_ti (v := 48) (by first | rfl | decide | simp [upd, vp_updL, sb_cl0]) ?_
  refine q_iast C0 V hA3 (by unfold vp_in; decide) d_14_5_15 (fun H locs w2 hu3 hA3 V => ?_)
  replace hA3 : w2[118]? = (some (qA3, .inl (g 0, 12200, .inl (upd (fun _ => 0) 0 48))) : Option (Nat × va_E)) := hA3
  replace hF := q_us hF hu3 (.tail _ (.head _))
  refine lv_iinc (v := 1) (lv' := [(3, .int 1), (0, .ref qO0), (1, .ref qA1), (2, .int 1)]) hx hb d_14_5_16 hl (k := 0) rfl (by decide) (by decide) rfl (fun ls hl => ?_)
  refine lv_goto (tgt := 2) hx hb d_14_5_19 (by decide) ?_
  refine lv_iload_n hx hb d_14_5_2 rfl (lv_at hl 0 rfl) ?_
  refine lv_iload_n hx hb d_14_5_3 rfl (lv_at hl 3 rfl) ?_
  refine lv_icmp_ge (tgt := 22) hx hb d_14_5_4 (by decide) (fun c4 => ?_) (fun c4 => absurd (by decide) c4)
  refine lv_aload_n hx hb d_14_5_22 rfl (lv_at hl 1 rfl) ?_
  refine lv_iload_n hx hb d_14_5_23 rfl (lv_at hl 3 rfl) ?_
  replace hO0 := (hu3 _ (q_pd 116 118 rfl)).trans (hO0)
  refine q_put (ci := 12) (j := 4) (v := .int 1) (ty := .int) C0 V i_NM o_NM n_NM rfl rfl hO0 (by decide) w_2302 rfl rfl rfl rfl (Nat.le_of_ble_eq_true rfl) d_14_5_24 (fun H locs w5 hu6 hO0 V => ?_)
  replace hO0 : w5[116]? = (some (qO0, .inr (12, [.int 0, .ref qA2, .int 0, .ref qA3, .int 1, .ref qO4, .ref qO5, .ref qO6, .ref qO7, .ref qO8, .ref qA9, .ref qA10])) : Option (Nat × va_E)) := hO0
  replace hF := q_us hF hu6 (.head _)
  refine lv_iload_n hx hb d_14_5_27 rfl (lv_at hl 3 rfl) ?_
  replace hA3 := (hu6 _ (q_pd 118 116 rfl)).trans (hA3)
  exact q_reti C0 V (⟨rfl, hF, hO0, hA3⟩) d_14_5_28
set_option maxRecDepth 100000 in
set_option maxHeartbeats 4000000 in
theorem c_FR_add_7 (l : Launch) (D : va_G) (g : Nat → ClassId) (ws : va_W) (kO0 kA7 qO0 qA1 qA2 qA3 qA4 qA5 qA6 qA7 : Nat) (hO0 : ws[kO0]? = (some (qO0, .inr (15, [.int 0, .ref qA1, .ref qA2, .ref qA3, .ref qA4, .ref qA5, .ref qA6, .ref qA7, .int 1, .int 0, .int 0, .long 0, .int 52, .int 2047, .long 0, .int (-1074), .long 0, .int 0])) : Option (Nat × va_E))) (hA7 : ws[kA7]? = (some (qA7, .inl (g 0, 1600, .inl (upd (fun _ => 0) 0 48))) : Option (Nat × va_E))) : q_mV l y_FR_add prog_17_method_16_code 2 1 0 0 D g [.ref qO0, .int 120] ws (fun u => q_un ws u [kO0, kA7] ∧ u[kO0]? = (some (qO0, .inr (15, [.int 0, .ref qA1, .ref qA2, .ref qA3, .ref qA4, .ref qA5, .ref qA6, .ref qA7, .int 2, .int 0, .int 0, .long 0, .int 52, .int 2047, .long 0, .int (-1074), .long 0, .int 0])) : Option (Nat × va_E)) ∧ u[kA7]? = (some (qA7, .inl (g 0, 1600, .inl (upd (upd (fun _ => 0) 0 48) 1 120))) : Option (Nat × va_E))) := by
  intro sz
  refine q_into (by decide) (Nat.le_of_ble_eq_true rfl) ?_
  intro p e s m below meth c ls hsz C0 V hl
  have hx := C0.1
  have hb := C0.2.1
  have hl : lv_has ls 2 [(0, .ref qO0), (1, .int 120)] := hl
  have n_A7_O0 := q_df hA7 hO0
  have n_O0_A7 := Ne.symm (q_df hA7 hO0)
  have hF : q_un ws ws [kO0, kA7] := q_u0
  refine lv_aload_n hx hb d_17_16_0 rfl (lv_at hl 0 rfl) ?_
  refine q_get (ci := 15) (j := 7) (v := .ref qA7) C0 V i_FR rfl rfl hO0 (by decide) w_2082 rfl d_17_16_1 ?_
  refine lv_aload_n hx hb d_17_16_4 rfl (lv_at hl 0 rfl) ?_
  refine q_get (ci := 15) (j := 8) (v := .int 1) C0 V i_FR rfl rfl hO0 (by decide) w_2084 rfl d_17_16_5 ?_
  refine lv_iload_n hx hb d_17_16_8 rfl (lv_at hl 1 rfl) ?_
  refine q_iast C0 V hA7 (by unfold vp_in; decide) d_17_16_9 (fun H locs w1 hu2 hA7 V => ?_)
  replace hA7 : w1[kA7]? = (some (qA7, .inl (g 0, 1600, .inl (upd (upd (fun _ => 0) 0 48) 1 120))) : Option (Nat × va_E)) := hA7
  replace hF := q_us hF hu2 (.tail _ (.head _))
  refine lv_aload_n hx hb d_17_16_10 rfl (lv_at hl 0 rfl) ?_
  refine lv_dup hx hb d_17_16_11 rfl ?_
  replace hO0 := (hu2 _ n_O0_A7).trans (hO0)
  refine q_get (ci := 15) (j := 8) (v := .int 1) C0 V i_FR rfl rfl hO0 (by decide) w_2084 rfl d_17_16_12 ?_
  refine lv_iconst (v := 1) hx hb d_17_16_15 (by decide) ?_
  refine lv_iadd hx hb d_17_16_16 ?_
  refine q_ti (v := 2) (by decide) ?_
  refine q_put (ci := 15) (j := 8) (v := .int 2) (ty := .int) C0 V i_FR o_FR n_FR rfl rfl hO0 (by decide) w_2084 rfl rfl rfl rfl (Nat.le_of_ble_eq_true rfl) d_17_16_17 (fun H locs w3 hu4 hO0 V => ?_)
  replace hO0 : w3[kO0]? = (some (qO0, .inr (15, [.int 0, .ref qA1, .ref qA2, .ref qA3, .ref qA4, .ref qA5, .ref qA6, .ref qA7, .int 2, .int 0, .int 0, .long 0, .int 52, .int 2047, .long 0, .int (-1074), .long 0, .int 0])) : Option (Nat × va_E)) := hO0
  replace hF := q_us hF hu4 (.head _)
  replace hA7 := (hu4 _ n_A7_O0).trans (hA7)
  exact q_retv C0 V (⟨hF, hO0, hA7⟩) d_17_16_20
set_option maxRecDepth 100000 in
set_option maxHeartbeats 4000000 in
theorem c_FR_add_8 (l : Launch) (D : va_G) (g : Nat → ClassId) (ws : va_W) (kO0 kA7 qO0 qA1 qA2 qA3 qA4 qA5 qA6 qA7 : Nat) (y1 : Int32) (f2 : Nat → Int32) (hO0 : ws[kO0]? = (some (qO0, .inr (15, [.int 0, .ref qA1, .ref qA2, .ref qA3, .ref qA4, .ref qA5, .ref qA6, .ref qA7, .int y1, .int 0, .int 0, .long 0, .int 52, .int 2047, .long 0, .int (-1074), .long 0, .int 0])) : Option (Nat × va_E))) (hA7 : ws[kA7]? = (some (qA7, .inl (g 0, 1600, .inl f2)) : Option (Nat × va_E))) (y1lo : 3 ≤ y1) (y1hi : y1 ≤ 3) : q_mV l y_FR_add prog_17_method_16_code 2 1 0 0 D g [.ref qO0, .int 46] ws (fun u => q_un ws u [kO0, kA7] ∧ u[kO0]? = (some (qO0, .inr (15, [.int 0, .ref qA1, .ref qA2, .ref qA3, .ref qA4, .ref qA5, .ref qA6, .ref qA7, .int 4, .int 0, .int 0, .long 0, .int 52, .int 2047, .long 0, .int (-1074), .long 0, .int 0])) : Option (Nat × va_E)) ∧ u[kA7]? = (some (qA7, .inl (g 0, 1600, .inl (upd f2 3 46))) : Option (Nat × va_E))) := by
  intro sz
  refine q_into (by decide) (Nat.le_of_ble_eq_true rfl) ?_
  intro p e s m below meth c ls hsz C0 V hl
  have hx := C0.1
  have hb := C0.2.1
  have hl : lv_has ls 2 [(0, .ref qO0), (1, .int 46)] := hl
  have n_A7_O0 := q_df hA7 hO0
  have n_O0_A7 := Ne.symm (q_df hA7 hO0)
  have hF : q_un ws ws [kO0, kA7] := q_u0
  refine lv_aload_n hx hb d_17_16_0 rfl (lv_at hl 0 rfl) ?_
  refine q_get (ci := 15) (j := 7) (v := .ref qA7) C0 V i_FR rfl rfl hO0 (by decide) w_2082 rfl d_17_16_1 ?_
  refine lv_aload_n hx hb d_17_16_4 rfl (lv_at hl 0 rfl) ?_
  refine q_get (ci := 15) (j := 8) (v := .int y1) C0 V i_FR rfl rfl hO0 (by decide) w_2084 rfl d_17_16_5 ?_
  refine q_ti (v := 3) (q_Ieq (x := y1.toInt) (y := 3) rfl (by decide) (by have t1 : 3 ≤ y1.toInt := q_leI y1lo; have t2 : y1.toInt ≤ 3 := q_leI y1hi; omega)) ?_
  refine lv_iload_n hx hb d_17_16_8 rfl (lv_at hl 1 rfl) ?_
  refine q_iast C0 V hA7 (by unfold vp_in; decide) d_17_16_9 (fun H locs w1 hu2 hA7 V => ?_)
  replace hA7 : w1[kA7]? = (some (qA7, .inl (g 0, 1600, .inl (upd f2 3 46))) : Option (Nat × va_E)) := hA7
  replace hF := q_us hF hu2 (.tail _ (.head _))
  refine lv_aload_n hx hb d_17_16_10 rfl (lv_at hl 0 rfl) ?_
  refine lv_dup hx hb d_17_16_11 rfl ?_
  replace hO0 := (hu2 _ n_O0_A7).trans (hO0)
  refine q_get (ci := 15) (j := 8) (v := .int y1) C0 V i_FR rfl rfl hO0 (by decide) w_2084 rfl d_17_16_12 ?_
  refine q_ti (v := 3) (q_Ieq (x := y1.toInt) (y := 3) rfl (by decide) (by have t1 : 3 ≤ y1.toInt := q_leI y1lo; have t2 : y1.toInt ≤ 3 := q_leI y1hi; omega)) ?_
  refine lv_iconst (v := 1) hx hb d_17_16_15 (by decide) ?_
  refine lv_iadd hx hb d_17_16_16 ?_
  refine q_ti (v := 4) (by decide) ?_
  refine q_put (ci := 15) (j := 8) (v := .int 4) (ty := .int) C0 V i_FR o_FR n_FR rfl rfl hO0 (by decide) w_2084 rfl rfl rfl rfl (Nat.le_of_ble_eq_true rfl) d_17_16_17 (fun H locs w3 hu4 hO0 V => ?_)
  replace hO0 : w3[kO0]? = (some (qO0, .inr (15, [.int 0, .ref qA1, .ref qA2, .ref qA3, .ref qA4, .ref qA5, .ref qA6, .ref qA7, .int 4, .int 0, .int 0, .long 0, .int 52, .int 2047, .long 0, .int (-1074), .long 0, .int 0])) : Option (Nat × va_E)) := hO0
  replace hF := q_us hF hu4 (.head _)
  replace hA7 := (hu4 _ n_A7_O0).trans (hA7)
  exact q_retv C0 V (⟨hF, hO0, hA7⟩) d_17_16_20
theorem d_17_24_0 : decode prog_17_method_24_code 0 = .ok (.aload_n 0, 1) := by decide +kernel
theorem d_17_24_1 : decode prog_17_method_24_code 1 = .ok (.lload_n 1, 1) := by decide +kernel
theorem d_17_24_2 : decode prog_17_method_24_code 2 = .ok (.ldc2_w 105, 3) := by decide +kernel
theorem w_2639 : (Cond.constantLong "NumberHouseModel$FloatRows" (105 : Nat) (10 : Int64)) ∈ q_tbl := q_of 2639 (by decide +kernel) (by decide +kernel)
theorem d_17_24_5 : decode prog_17_method_24_code 5 = .ok (.lcmp, 1) := by decide +kernel
theorem d_17_24_6 : decode prog_17_method_24_code 6 = .ok (.ifCond .ge 11, 3) := by decide +kernel
theorem d_17_24_9 : decode prog_17_method_24_code 9 = .ok (.ldc2_w 152, 3) := by decide +kernel
theorem w_3055 : (Cond.constantLong "NumberHouseModel$FloatRows" (152 : Nat) (48 : Int64)) ∈ q_tbl := q_of 3055 (by decide +kernel) (by decide +kernel)
theorem d_17_24_12 : decode prog_17_method_24_code 12 = .ok (.lload_n 1, 1) := by decide +kernel
theorem d_17_24_13 : decode prog_17_method_24_code 13 = .ok (.ladd, 1) := by decide +kernel
theorem d_17_24_14 : decode prog_17_method_24_code 14 = .ok (.goto 12, 3) := by decide +kernel
theorem d_17_24_26 : decode prog_17_method_24_code 26 = .ok (.l2i, 1) := by decide +kernel
theorem d_17_24_27 : decode prog_17_method_24_code 27 = .ok (.invokevirtual 110, 3) := by decide +kernel
theorem d_17_24_30 : decode prog_17_method_24_code 30 = .ok (.return_, 1) := by decide +kernel
def y_FR_hexadecimalFigure : MethodName := ⟨"NumberHouseModel$FloatRows", "hexadecimalFigure", "(J)V"⟩
set_option maxRecDepth 100000 in
set_option maxHeartbeats 4000000 in
theorem c_FR_hexadecimalFigure (l : Launch) (D : va_G) (g : Nat → ClassId) (ws : va_W) (kO0 kA7 qO0 qA1 qA2 qA3 qA4 qA5 qA6 qA7 : Nat) (f1 : Nat → Int32) (hO0 : ws[kO0]? = (some (qO0, .inr (15, [.int 0, .ref qA1, .ref qA2, .ref qA3, .ref qA4, .ref qA5, .ref qA6, .ref qA7, .int 4, .int 0, .int 0, .long 0, .int 52, .int 2047, .long 0, .int (-1074), .long 0, .int 0])) : Option (Nat × va_E))) (hA7 : ws[kA7]? = (some (qA7, .inl (g 0, 1600, .inl (upd f1 3 46))) : Option (Nat × va_E))) : q_mV l y_FR_hexadecimalFigure prog_17_method_24_code 3 2 0 0 D g [.ref qO0, .long 0] ws (fun u => q_un ws u [kO0, kA7] ∧ u[kO0]? = (some (qO0, .inr (15, [.int 0, .ref qA1, .ref qA2, .ref qA3, .ref qA4, .ref qA5, .ref qA6, .ref qA7, .int (4 + 1), .int 0, .int 0, .long 0, .int 52, .int 2047, .long 0, .int (-1074), .long 0, .int 0])) : Option (Nat × va_E)) ∧ u[kA7]? = (some (qA7, .inl (g 0, 1600, .inl (upd (upd f1 3 46) (4 : Int32).toNatClampNeg 48))) : Option (Nat × va_E))) := by
  intro sz
  refine q_into (by decide) (Nat.le_of_ble_eq_true rfl) ?_
  intro p e s m below meth c ls hsz C0 V hl
  have hx := C0.1
  have hb := C0.2.1
  have hl : lv_has ls 3 [(0, .ref qO0), (1, .long 0)] := hl
  have hF : q_un ws ws [kO0, kA7] := q_u0
  refine lv_aload_n hx hb d_17_24_0 rfl (lv_at hl 0 rfl) ?_
  refine lv_lload_n hx hb d_17_24_1 rfl (lv_at hl 1 rfl) ?_
  refine q_ldc2 C0 rfl w_2639 d_17_24_2 ?_
  refine W.lcmp hx hb d_17_24_5 ?_
  refine q_ti (v := (-1)) (by decide) ?_
  refine lv_if_ge (tgt := 17) hx hb d_17_24_6 (by decide) (fun c1 => absurd c1 (by decide)) (fun c1 => ?_)
  refine q_ldc2 C0 rfl w_3055 d_17_24_9 ?_
  refine lv_lload_n hx hb d_17_24_12 rfl (lv_at hl 1 rfl) ?_
  refine lv_ladd hx hb d_17_24_13 ?_
  refine q_tl (v := 48) (by decide) ?_
  refine lv_goto (tgt := 26) hx hb d_17_24_14 (by decide) ?_
  refine lv_l2i hx hb d_17_24_26 rfl ?_
  refine q_ti (v := 48) (by decide) ?_
  refine q_gov V (q_runV (As := [.int 48]) (rest := []) (d := 1) (mc := 0) (ms := 0) (ci := 15) C0 V rfl LV_FR_110 (c_FR_add_3 l D g ws kO0 kA7 qO0 qA1 qA2 qA3 qA4 qA5 qA6 qA7 4 (upd f1 3 46) hO0 hA7 (q_Ile (x := 2) (y := 4) (by decide) (by decide) (by omega)) (q_Ile (x := 4) (y := 1076) (by decide) (by decide) (by omega)) _) rfl rfl hO0 rfl hl.1 rfl (Nat.le_of_ble_eq_true rfl) ⟨by decide, by decide⟩ ⟨Nat.le_of_ble_eq_true rfl, Nat.le_of_ble_eq_true rfl⟩ d_17_24_27) (fun u3 H locs hp2 V => ?_)
  obtain ⟨hg4, hO0, hA7⟩ := hp2
  replace hF := q_uc hF hg4 (q_sc (.head _) (q_sc (.tail _ (.head _)) (fun _ h => absurd h List.not_mem_nil)))
  exact q_retv C0 V (⟨hF, hO0, hA7⟩) d_17_24_30
set_option maxRecDepth 100000 in
set_option maxHeartbeats 4000000 in
theorem c_FR_add_9 (l : Launch) (D : va_G) (g : Nat → ClassId) (ws : va_W) (kO0 kA7 qO0 qA1 qA2 qA3 qA4 qA5 qA6 qA7 : Nat) (y1 : Int32) (f2 : Nat → Int32) (hO0 : ws[kO0]? = (some (qO0, .inr (15, [.int 0, .ref qA1, .ref qA2, .ref qA3, .ref qA4, .ref qA5, .ref qA6, .ref qA7, .int y1, .int 0, .int 0, .long 0, .int 52, .int 2047, .long 0, .int (-1074), .long 0, .int 0])) : Option (Nat × va_E))) (hA7 : ws[kA7]? = (some (qA7, .inl (g 0, 1600, .inl f2)) : Option (Nat × va_E))) (y1lo : 5 ≤ y1) (y1hi : y1 ≤ 5) : q_mV l y_FR_add prog_17_method_16_code 2 1 0 0 D g [.ref qO0, .int 112] ws (fun u => q_un ws u [kO0, kA7] ∧ u[kO0]? = (some (qO0, .inr (15, [.int 0, .ref qA1, .ref qA2, .ref qA3, .ref qA4, .ref qA5, .ref qA6, .ref qA7, .int 6, .int 0, .int 0, .long 0, .int 52, .int 2047, .long 0, .int (-1074), .long 0, .int 0])) : Option (Nat × va_E)) ∧ u[kA7]? = (some (qA7, .inl (g 0, 1600, .inl (upd f2 5 112))) : Option (Nat × va_E))) := by
  intro sz
  refine q_into (by decide) (Nat.le_of_ble_eq_true rfl) ?_
  intro p e s m below meth c ls hsz C0 V hl
  have hx := C0.1
  have hb := C0.2.1
  have hl : lv_has ls 2 [(0, .ref qO0), (1, .int 112)] := hl
  have n_A7_O0 := q_df hA7 hO0
  have n_O0_A7 := Ne.symm (q_df hA7 hO0)
  have hF : q_un ws ws [kO0, kA7] := q_u0
  refine lv_aload_n hx hb d_17_16_0 rfl (lv_at hl 0 rfl) ?_
  refine q_get (ci := 15) (j := 7) (v := .ref qA7) C0 V i_FR rfl rfl hO0 (by decide) w_2082 rfl d_17_16_1 ?_
  refine lv_aload_n hx hb d_17_16_4 rfl (lv_at hl 0 rfl) ?_
  refine q_get (ci := 15) (j := 8) (v := .int y1) C0 V i_FR rfl rfl hO0 (by decide) w_2084 rfl d_17_16_5 ?_
  refine q_ti (v := 5) (q_Ieq (x := y1.toInt) (y := 5) rfl (by decide) (by have t1 : 5 ≤ y1.toInt := q_leI y1lo; have t2 : y1.toInt ≤ 5 := q_leI y1hi; omega)) ?_
  refine lv_iload_n hx hb d_17_16_8 rfl (lv_at hl 1 rfl) ?_
  refine q_iast C0 V hA7 (by unfold vp_in; decide) d_17_16_9 (fun H locs w1 hu2 hA7 V => ?_)
  replace hA7 : w1[kA7]? = (some (qA7, .inl (g 0, 1600, .inl (upd f2 5 112))) : Option (Nat × va_E)) := hA7
  replace hF := q_us hF hu2 (.tail _ (.head _))
  refine lv_aload_n hx hb d_17_16_10 rfl (lv_at hl 0 rfl) ?_
  refine lv_dup hx hb d_17_16_11 rfl ?_
  replace hO0 := (hu2 _ n_O0_A7).trans (hO0)
  refine q_get (ci := 15) (j := 8) (v := .int y1) C0 V i_FR rfl rfl hO0 (by decide) w_2084 rfl d_17_16_12 ?_
  refine q_ti (v := 5) (q_Ieq (x := y1.toInt) (y := 5) rfl (by decide) (by have t1 : 5 ≤ y1.toInt := q_leI y1lo; have t2 : y1.toInt ≤ 5 := q_leI y1hi; omega)) ?_
  refine lv_iconst (v := 1) hx hb d_17_16_15 (by decide) ?_
  refine lv_iadd hx hb d_17_16_16 ?_
  refine q_ti (v := 6) (by decide) ?_
  refine q_put (ci := 15) (j := 8) (v := .int 6) (ty := .int) C0 V i_FR o_FR n_FR rfl rfl hO0 (by decide) w_2084 rfl rfl rfl rfl (Nat.le_of_ble_eq_true rfl) d_17_16_17 (fun H locs w3 hu4 hO0 V => ?_)
  replace hO0 : w3[kO0]? = (some (qO0, .inr (15, [.int 0, .ref qA1, .ref qA2, .ref qA3, .ref qA4, .ref qA5, .ref qA6, .ref qA7, .int 6, .int 0, .int 0, .long 0, .int 52, .int 2047, .long 0, .int (-1074), .long 0, .int 0])) : Option (Nat × va_E)) := hO0
  replace hF := q_us hF hu4 (.head _)
  replace hA7 := (hu4 _ n_A7_O0).trans (hA7)
  exact q_retv C0 V (⟨hF, hO0, hA7⟩) d_17_16_20
theorem d_17_19_0 : decode prog_17_method_19_code 0 = .ok (.iconst 1, 1) := by decide +kernel
theorem d_17_19_1 : decode prog_17_method_19_code 1 = .ok (.istore_n 2, 1) := by decide +kernel
theorem d_17_19_2 : decode prog_17_method_19_code 2 = .ok (.iload_n 1, 1) := by decide +kernel
theorem d_17_19_3 : decode prog_17_method_19_code 3 = .ok (.iload_n 2, 1) := by decide +kernel
theorem d_17_19_4 : decode prog_17_method_19_code 4 = .ok (.idiv, 1) := by decide +kernel
theorem d_17_19_5 : decode prog_17_method_19_code 5 = .ok (.bipush 9, 2) := by decide +kernel
theorem d_17_19_7 : decode prog_17_method_19_code 7 = .ok (.if_icmp .le 11, 3) := by decide +kernel
theorem d_17_19_18 : decode prog_17_method_19_code 18 = .ok (.iload_n 2, 1) := by decide +kernel
theorem d_17_19_19 : decode prog_17_method_19_code 19 = .ok (.ifCond .le 24, 3) := by decide +kernel
theorem d_17_19_22 : decode prog_17_method_19_code 22 = .ok (.aload_n 0, 1) := by decide +kernel
theorem d_17_19_23 : decode prog_17_method_19_code 23 = .ok (.bipush 48, 2) := by decide +kernel
theorem d_17_19_25 : decode prog_17_method_19_code 25 = .ok (.iload_n 1, 1) := by decide +kernel
theorem d_17_19_26 : decode prog_17_method_19_code 26 = .ok (.iload_n 2, 1) := by decide +kernel
theorem d_17_19_27 : decode prog_17_method_19_code 27 = .ok (.idiv, 1) := by decide +kernel
theorem d_17_19_28 : decode prog_17_method_19_code 28 = .ok (.bipush 10, 2) := by decide +kernel
theorem d_17_19_30 : decode prog_17_method_19_code 30 = .ok (.irem, 1) := by decide +kernel
theorem d_17_19_31 : decode prog_17_method_19_code 31 = .ok (.iadd, 1) := by decide +kernel
theorem d_17_19_32 : decode prog_17_method_19_code 32 = .ok (.invokevirtual 110, 3) := by decide +kernel
theorem d_17_19_35 : decode prog_17_method_19_code 35 = .ok (.iload_n 2, 1) := by decide +kernel
theorem d_17_19_36 : decode prog_17_method_19_code 36 = .ok (.bipush 10, 2) := by decide +kernel
theorem d_17_19_38 : decode prog_17_method_19_code 38 = .ok (.idiv, 1) := by decide +kernel
theorem d_17_19_39 : decode prog_17_method_19_code 39 = .ok (.istore_n 2, 1) := by decide +kernel
theorem d_17_19_40 : decode prog_17_method_19_code 40 = .ok (.goto (-22), 3) := by decide +kernel
theorem d_17_19_43 : decode prog_17_method_19_code 43 = .ok (.return_, 1) := by decide +kernel
def y_FR_number : MethodName := ⟨"NumberHouseModel$FloatRows", "number", "(I)V"⟩
set_option maxRecDepth 100000 in
set_option maxHeartbeats 4000000 in
theorem c_FR_number (l : Launch) (D : va_G) (g : Nat → ClassId) (ws : va_W) (kO0 kA7 qO0 qA1 qA2 qA3 qA4 qA5 qA6 qA7 : Nat) (f1 : Nat → Int32) (hO0 : ws[kO0]? = (some (qO0, .inr (15, [.int 0, .ref qA1, .ref qA2, .ref qA3, .ref qA4, .ref qA5, .ref qA6, .ref qA7, .int 6, .int 0, .int 0, .long 0, .int 52, .int 2047, .long 0, .int (-1074), .long 0, .int 0])) : Option (Nat × va_E))) (hA7 : ws[kA7]? = (some (qA7, .inl (g 0, 1600, .inl (upd f1 5 112))) : Option (Nat × va_E))) : q_mV l y_FR_number prog_17_method_19_code 3 2 0 0 D g [.ref qO0, .int 0] ws (fun u => q_un ws u [kO0, kA7] ∧ u[kO0]? = (some (qO0, .inr (15, [.int 0, .ref qA1, .ref qA2, .ref qA3, .ref qA4, .ref qA5, .ref qA6, .ref qA7, .int (6 + 1), .int 0, .int 0, .long 0, .int 52, .int 2047, .long 0, .int (-1074), .long 0, .int 0])) : Option (Nat × va_E)) ∧ u[kA7]? = (some (qA7, .inl (g 0, 1600, .inl (upd (upd f1 5 112) (6 : Int32).toNatClampNeg 48))) : Option (Nat × va_E))) := by
  intro sz
  refine q_into (by decide) (Nat.le_of_ble_eq_true rfl) ?_
  intro p e s m below meth c ls hsz C0 V hl
  have hx := C0.1
  have hb := C0.2.1
  have hl : lv_has ls 3 [(0, .ref qO0), (1, .int 0)] := hl
  have hF : q_un ws ws [kO0, kA7] := q_u0
  refine lv_iconst (v := 1) hx hb d_17_19_0 (by decide) ?_
  refine lv_istore_n (lv' := [(2, .int 1), (0, .ref qO0), (1, .int 0)]) hx hb d_17_19_1 rfl hl (by decide) rfl (fun ls hl => ?_)
  refine lv_iload_n hx hb d_17_19_2 rfl (lv_at hl 2 rfl) ?_
  refine lv_iload_n hx hb d_17_19_3 rfl (lv_at hl 0 rfl) ?_
  refine lv_idiv hx hb d_17_19_4 (by decide) ?_
  refine q_ti (v := 0) (by decide) ?_
  refine lv_bipush (v := 9) hx hb d_17_19_5 (by decide) ?_
  refine lv_icmp_le (tgt := 18) hx hb d_17_19_7 (by decide) (fun c1 => ?_) (fun c1 => absurd (by decide) c1)
  refine lv_iload_n hx hb d_17_19_18 rfl (lv_at hl 0 rfl) ?_
  refine lv_if_le (tgt := 43) hx hb d_17_19_19 (by decide) (fun c2 => absurd c2 (by decide)) (fun c2 => ?_)
  refine lv_aload_n hx hb d_17_19_22 rfl (lv_at hl 1 rfl) ?_
  refine lv_bipush (v := 48) hx hb d_17_19_23 (by decide) ?_
  refine lv_iload_n hx hb d_17_19_25 rfl (lv_at hl 2 rfl) ?_
  refine lv_iload_n hx hb d_17_19_26 rfl (lv_at hl 0 rfl) ?_
  refine lv_idiv hx hb d_17_19_27 (by decide) ?_
  refine q_ti (v := 0) (by decide) ?_
  refine lv_bipush (v := 10) hx hb d_17_19_28 (by decide) ?_
  refine lv_irem hx hb d_17_19_30 (by decide) ?_
  refine q_ti (v := 0) (by decide) ?_
  refine lv_iadd hx hb d_17_19_31 ?_
  refine q_ti (v := 48) (by decide) ?_
  refine q_gov V (q_runV (As := [.int 48]) (rest := []) (d := 1) (mc := 0) (ms := 0) (ci := 15) C0 V rfl LV_FR_110 (c_FR_add_3 l D g ws kO0 kA7 qO0 qA1 qA2 qA3 qA4 qA5 qA6 qA7 6 (upd f1 5 112) hO0 hA7 (q_Ile (x := 2) (y := 6) (by decide) (by decide) (by omega)) (q_Ile (x := 6) (y := 1076) (by decide) (by decide) (by omega)) _) rfl rfl hO0 rfl hl.1 rfl (Nat.le_of_ble_eq_true rfl) ⟨by decide, by decide⟩ ⟨Nat.le_of_ble_eq_true rfl, Nat.le_of_ble_eq_true rfl⟩ d_17_19_32) (fun u4 H locs hp3 V => ?_)
  obtain ⟨hg5, hO0, hA7⟩ := hp3
  replace hF := q_uc hF hg5 (q_sc (.head _) (q_sc (.tail _ (.head _)) (fun _ h => absurd h List.not_mem_nil)))
  refine lv_iload_n hx hb d_17_19_35 rfl (lv_at hl 0 rfl) ?_
  refine lv_bipush (v := 10) hx hb d_17_19_36 (by decide) ?_
  refine lv_idiv hx hb d_17_19_38 (by decide) ?_
  refine q_ti (v := 0) (by decide) ?_
  refine lv_istore_n (lv' := [(2, .int 0), (0, .ref qO0), (1, .int 0)]) hx hb d_17_19_39 rfl hl (by decide) rfl (fun ls hl => ?_)
  refine lv_goto (tgt := 18) hx hb d_17_19_40 (by decide) ?_
  refine lv_iload_n hx hb d_17_19_18 rfl (lv_at hl 0 rfl) ?_
  refine lv_if_le (tgt := 43) hx hb d_17_19_19 (by decide) (fun c6 => ?_) (fun c6 => absurd (by decide) c6)
  exact q_retv C0 V (⟨hF, hO0, hA7⟩) d_17_19_43
theorem d_17_25_0 : decode prog_17_method_25_code 0 = .ok (.aload_n 0, 1) := by decide +kernel
theorem d_17_25_1 : decode prog_17_method_25_code 1 = .ok (.lload_n 1, 1) := by decide +kernel
theorem d_17_25_2 : decode prog_17_method_25_code 2 = .ok (.iload_n 3, 1) := by decide +kernel
theorem d_17_25_3 : decode prog_17_method_25_code 3 = .ok (.invokestatic 122, 3) := by decide +kernel
theorem d_17_25_6 : decode prog_17_method_25_code 6 = .ok (.ifCond .eq 7, 3) := by decide +kernel
theorem d_17_25_13 : decode prog_17_method_25_code 13 = .ok (.iconst 0, 1) := by decide +kernel
theorem d_17_25_14 : decode prog_17_method_25_code 14 = .ok (.putfield 31, 3) := by decide +kernel
theorem d_17_25_17 : decode prog_17_method_25_code 17 = .ok (.aload_n 0, 1) := by decide +kernel
theorem d_17_25_18 : decode prog_17_method_25_code 18 = .ok (.getfield 31, 3) := by decide +kernel
theorem d_17_25_21 : decode prog_17_method_25_code 21 = .ok (.ifCond .le 5, 3) := by decide +kernel
theorem d_17_25_26 : decode prog_17_method_25_code 26 = .ok (.aload_n 0, 1) := by decide +kernel
theorem d_17_25_27 : decode prog_17_method_25_code 27 = .ok (.lload_n 1, 1) := by decide +kernel
theorem d_17_25_28 : decode prog_17_method_25_code 28 = .ok (.iload_n 3, 1) := by decide +kernel
theorem d_17_25_29 : decode prog_17_method_25_code 29 = .ok (.invokevirtual 126, 3) := by decide +kernel
theorem d_17_25_32 : decode prog_17_method_25_code 32 = .ok (.aload_n 0, 1) := by decide +kernel
theorem d_17_25_33 : decode prog_17_method_25_code 33 = .ok (.invokevirtual 130, 3) := by decide +kernel
theorem d_17_25_36 : decode prog_17_method_25_code 36 = .ok (.ifCond .ne 12, 3) := by decide +kernel
theorem d_17_25_48 : decode prog_17_method_25_code 48 = .ok (.aload_n 0, 1) := by decide +kernel
theorem d_17_25_49 : decode prog_17_method_25_code 49 = .ok (.invokevirtual 113, 3) := by decide +kernel
theorem d_17_25_52 : decode prog_17_method_25_code 52 = .ok (.aload_n 0, 1) := by decide +kernel
theorem d_17_25_53 : decode prog_17_method_25_code 53 = .ok (.bipush 48, 2) := by decide +kernel
theorem d_17_25_55 : decode prog_17_method_25_code 55 = .ok (.invokevirtual 110, 3) := by decide +kernel
theorem d_17_25_58 : decode prog_17_method_25_code 58 = .ok (.aload_n 0, 1) := by decide +kernel
theorem d_17_25_59 : decode prog_17_method_25_code 59 = .ok (.bipush 120, 2) := by decide +kernel
theorem d_17_25_61 : decode prog_17_method_25_code 61 = .ok (.invokevirtual 110, 3) := by decide +kernel
theorem d_17_25_64 : decode prog_17_method_25_code 64 = .ok (.aload_n 0, 1) := by decide +kernel
theorem d_17_25_65 : decode prog_17_method_25_code 65 = .ok (.aload_n 0, 1) := by decide +kernel
theorem d_17_25_66 : decode prog_17_method_25_code 66 = .ok (.getfield 45, 3) := by decide +kernel
theorem d_17_25_69 : decode prog_17_method_25_code 69 = .ok (.ifCond .le 8, 3) := by decide +kernel
theorem d_17_25_77 : decode prog_17_method_25_code 77 = .ok (.bipush 48, 2) := by decide +kernel
theorem d_17_25_79 : decode prog_17_method_25_code 79 = .ok (.invokevirtual 110, 3) := by decide +kernel
theorem d_17_25_82 : decode prog_17_method_25_code 82 = .ok (.aload_n 0, 1) := by decide +kernel
theorem d_17_25_83 : decode prog_17_method_25_code 83 = .ok (.bipush 46, 2) := by decide +kernel
theorem d_17_25_85 : decode prog_17_method_25_code 85 = .ok (.invokevirtual 110, 3) := by decide +kernel
theorem d_17_25_88 : decode prog_17_method_25_code 88 = .ok (.iload_n 3, 1) := by decide +kernel
theorem d_17_25_89 : decode prog_17_method_25_code 89 = .ok (.ifCond .eq 14, 3) := by decide +kernel
theorem d_17_25_103 : decode prog_17_method_25_code 103 = .ok (.aload_n 0, 1) := by decide +kernel
theorem d_17_25_104 : decode prog_17_method_25_code 104 = .ok (.getfield 48, 3) := by decide +kernel
theorem d_17_25_107 : decode prog_17_method_25_code 107 = .ok (.lstore 4, 2) := by decide +kernel
theorem d_17_25_109 : decode prog_17_method_25_code 109 = .ok (.iload_n 3, 1) := by decide +kernel
theorem d_17_25_110 : decode prog_17_method_25_code 110 = .ok (.ifCond .eq 8, 3) := by decide +kernel
theorem d_17_25_118 : decode prog_17_method_25_code 118 = .ok (.bipush 48, 2) := by decide +kernel
theorem d_17_25_120 : decode prog_17_method_25_code 120 = .ok (.istore 6, 2) := by decide +kernel
theorem d_17_25_122 : decode prog_17_method_25_code 122 = .ok (.aload_n 0, 1) := by decide +kernel
theorem d_17_25_123 : decode prog_17_method_25_code 123 = .ok (.lload 4, 2) := by decide +kernel
theorem d_17_25_125 : decode prog_17_method_25_code 125 = .ok (.iload 6, 2) := by decide +kernel
theorem d_17_25_127 : decode prog_17_method_25_code 127 = .ok (.lshr, 1) := by decide +kernel
theorem d_17_25_128 : decode prog_17_method_25_code 128 = .ok (.ldc2_w 156, 3) := by decide +kernel
theorem w_3050 : (Cond.constantLong "NumberHouseModel$FloatRows" (156 : Nat) (15 : Int64)) ∈ q_tbl := q_of 3050 (by decide +kernel) (by decide +kernel)
theorem d_17_25_131 : decode prog_17_method_25_code 131 = .ok (.land, 1) := by decide +kernel
theorem d_17_25_132 : decode prog_17_method_25_code 132 = .ok (.invokevirtual 158, 3) := by decide +kernel
theorem w_3054 : (Cond.code ({ cls := "NumberHouseModel$FloatRows", name := "hexadecimalFigure", desc := "(J)V" } : MethodName) prog_17_method_24_code (3 : Nat) (none : Option ClassFile.FieldType)) ∈ q_tbl := q_of 3054 (by decide +kernel) (by decide +kernel)
theorem w_3051 : (Cond.methodLink "NumberHouseModel$FloatRows" (158 : Nat) ({ cls := "NumberHouseModel$FloatRows", name := "hexadecimalFigure", desc := "(J)V" } : MethodName)) ∈ q_tbl := q_of 3051 (by decide +kernel) (by decide +kernel)
theorem w_3053 : (Cond.instanceMethod ({ cls := "NumberHouseModel$FloatRows", name := "hexadecimalFigure", desc := "(J)V" } : MethodName)) ∈ q_tbl := q_of 3053 (by decide +kernel) (by decide +kernel)
theorem ws_147 : Cond.selects "NumberHouseModel$FloatRows" (⟨"NumberHouseModel$FloatRows", "hexadecimalFigure", "(J)V"⟩ : MethodName) (⟨"NumberHouseModel$FloatRows", "hexadecimalFigure", "(J)V"⟩ : MethodName) ∈ q_tbl := q_ofs 147 (by decide +kernel) (by decide +kernel)
theorem LV_FR_158 : q_LV "NumberHouseModel$FloatRows" 158 y_FR_hexadecimalFigure prog_17_method_24_code 3 none 1 := ⟨w_3054, w_17, w_3051, w_3053, ws_147, ⟨by decide, by decide, by decide +kernel⟩⟩
theorem d_17_25_135 : decode prog_17_method_25_code 135 = .ok (.lload 4, 2) := by decide +kernel
theorem d_17_25_137 : decode prog_17_method_25_code 137 = .ok (.lconst 1, 1) := by decide +kernel
theorem d_17_25_138 : decode prog_17_method_25_code 138 = .ok (.iload 6, 2) := by decide +kernel
theorem d_17_25_140 : decode prog_17_method_25_code 140 = .ok (.lshl, 1) := by decide +kernel
theorem d_17_25_141 : decode prog_17_method_25_code 141 = .ok (.lconst 1, 1) := by decide +kernel
theorem d_17_25_142 : decode prog_17_method_25_code 142 = .ok (.lsub, 1) := by decide +kernel
theorem d_17_25_143 : decode prog_17_method_25_code 143 = .ok (.land, 1) := by decide +kernel
theorem d_17_25_144 : decode prog_17_method_25_code 144 = .ok (.lconst 0, 1) := by decide +kernel
theorem d_17_25_145 : decode prog_17_method_25_code 145 = .ok (.lcmp, 1) := by decide +kernel
theorem d_17_25_146 : decode prog_17_method_25_code 146 = .ok (.ifCond .eq 25, 3) := by decide +kernel
theorem d_17_25_171 : decode prog_17_method_25_code 171 = .ok (.aload_n 0, 1) := by decide +kernel
theorem d_17_25_172 : decode prog_17_method_25_code 172 = .ok (.bipush 112, 2) := by decide +kernel
theorem d_17_25_174 : decode prog_17_method_25_code 174 = .ok (.invokevirtual 110, 3) := by decide +kernel
theorem d_17_25_177 : decode prog_17_method_25_code 177 = .ok (.aload_n 0, 1) := by decide +kernel
theorem d_17_25_178 : decode prog_17_method_25_code 178 = .ok (.getfield 52, 3) := by decide +kernel
theorem d_17_25_181 : decode prog_17_method_25_code 181 = .ok (.lconst 0, 1) := by decide +kernel
theorem d_17_25_182 : decode prog_17_method_25_code 182 = .ok (.lcmp, 1) := by decide +kernel
theorem d_17_25_183 : decode prog_17_method_25_code 183 = .ok (.ifCond .ne 7, 3) := by decide +kernel
theorem d_17_25_186 : decode prog_17_method_25_code 186 = .ok (.iconst 0, 1) := by decide +kernel
theorem d_17_25_187 : decode prog_17_method_25_code 187 = .ok (.goto 12, 3) := by decide +kernel
theorem d_17_25_199 : decode prog_17_method_25_code 199 = .ok (.istore 7, 2) := by decide +kernel
theorem d_17_25_201 : decode prog_17_method_25_code 201 = .ok (.iload 7, 2) := by decide +kernel
theorem d_17_25_203 : decode prog_17_method_25_code 203 = .ok (.ifCond .ge 9, 3) := by decide +kernel
theorem d_17_25_212 : decode prog_17_method_25_code 212 = .ok (.aload_n 0, 1) := by decide +kernel
theorem d_17_25_213 : decode prog_17_method_25_code 213 = .ok (.iload 7, 2) := by decide +kernel
theorem d_17_25_215 : decode prog_17_method_25_code 215 = .ok (.ifCond .ge 9, 3) := by decide +kernel
theorem d_17_25_224 : decode prog_17_method_25_code 224 = .ok (.iload 7, 2) := by decide +kernel
theorem d_17_25_226 : decode prog_17_method_25_code 226 = .ok (.invokevirtual 149, 3) := by decide +kernel
theorem w_3045 : (Cond.code ({ cls := "NumberHouseModel$FloatRows", name := "number", desc := "(I)V" } : MethodName) prog_17_method_19_code (3 : Nat) (none : Option ClassFile.FieldType)) ∈ q_tbl := q_of 3045 (by decide +kernel) (by decide +kernel)
theorem w_3042 : (Cond.methodLink "NumberHouseModel$FloatRows" (149 : Nat) ({ cls := "NumberHouseModel$FloatRows", name := "number", desc := "(I)V" } : MethodName)) ∈ q_tbl := q_of 3042 (by decide +kernel) (by decide +kernel)
theorem w_3044 : (Cond.instanceMethod ({ cls := "NumberHouseModel$FloatRows", name := "number", desc := "(I)V" } : MethodName)) ∈ q_tbl := q_of 3044 (by decide +kernel) (by decide +kernel)
theorem ws_146 : Cond.selects "NumberHouseModel$FloatRows" (⟨"NumberHouseModel$FloatRows", "number", "(I)V"⟩ : MethodName) (⟨"NumberHouseModel$FloatRows", "number", "(I)V"⟩ : MethodName) ∈ q_tbl := q_ofs 146 (by decide +kernel) (by decide +kernel)
theorem LV_FR_149 : q_LV "NumberHouseModel$FloatRows" 149 y_FR_number prog_17_method_19_code 3 none 1 := ⟨w_3045, w_17, w_3042, w_3044, ws_146, ⟨by decide, by decide, by decide +kernel⟩⟩
theorem d_17_25_229 : decode prog_17_method_25_code 229 = .ok (.aload_n 0, 1) := by decide +kernel
theorem d_17_25_230 : decode prog_17_method_25_code 230 = .ok (.getfield 107, 3) := by decide +kernel
theorem d_17_25_233 : decode prog_17_method_25_code 233 = .ok (.ireturn, 1) := by decide +kernel
def y_FR_hexadecimal : MethodName := ⟨"NumberHouseModel$FloatRows", "hexadecimal", "(JZ)I"⟩
set_option maxRecDepth 100000 in
set_option maxHeartbeats 4000000 in
theorem c_FR_hexadecimal (l : Launch) (D : va_G) (g : Nat → ClassId) (ws : va_W) (kO0 kA7 qO0 qA1 qA2 qA3 qA4 qA5 qA6 qA7 : Nat) (hO0 : ws[kO0]? = (some (qO0, .inr (15, [.int 0, .ref qA1, .ref qA2, .ref qA3, .ref qA4, .ref qA5, .ref qA6, .ref qA7, .int 0, .int 0, .int 0, .long 0, .int 0, .int 0, .long 0, .int 0, .long 0, .int 0])) : Option (Nat × va_E))) (hA7 : ws[kA7]? = (some (qA7, .inl (g 0, 1600, .inl (fun _ => 0))) : Option (Nat × va_E))) : q_mI l y_FR_hexadecimal prog_17_method_25_code 8 (.int) 3 0 0 D g [.ref qO0, .long 0, .int 0] ws (fun r u => 6 + 1 = r ∧ q_un ws u [kO0, kA7] ∧ u[kO0]? = (some (qO0, .inr (15, [.int 0, .ref qA1, .ref qA2, .ref qA3, .ref qA4, .ref qA5, .ref qA6, .ref qA7, .int (6 + 1), .int 0, .int 0, .long 0, .int 52, .int 2047, .long 0, .int (-1074), .long 0, .int 0])) : Option (Nat × va_E)) ∧ u[kA7]? = (some (qA7, .inl (g 0, 1600, .inl (upd (upd (upd (upd (upd (upd (upd (fun _ => 0) 0 48) 1 120) (2 : Int32).toNatClampNeg 48) 3 46) (4 : Int32).toNatClampNeg 48) 5 112) (6 : Int32).toNatClampNeg 48))) : Option (Nat × va_E))) := by
  intro sz
  refine q_into (by decide) (Nat.le_of_ble_eq_true rfl) ?_
  intro p e s m below meth c ls hsz C0 V hl
  have hx := C0.1
  have hb := C0.2.1
  have hl : lv_has ls 8 [(0, .ref qO0), (1, .long 0), (3, .int 0)] := hl
  have n_A7_O0 := q_df hA7 hO0
  have hF : q_un ws ws [kO0, kA7] := q_u0
  refine lv_aload_n hx hb d_17_25_0 rfl (lv_at hl 0 rfl) ?_
  refine lv_lload_n hx hb d_17_25_1 rfl (lv_at hl 1 rfl) ?_
  refine lv_iload_n hx hb d_17_25_2 rfl (lv_at hl 2 rfl) ?_
  refine q_goi V (q_runS (As := [.long 0, .int 0]) (rest := [.ref qO0]) (d := 1) (mc := 0) (ms := 0) C0 V rfl LS_FR_122 (c_FR_isWrong l D g ws _) rfl hl.1 rfl (Nat.le_of_ble_eq_true rfl) ⟨by decide, by decide⟩ ⟨Nat.le_of_ble_eq_true rfl, Nat.le_of_ble_eq_true rfl⟩ d_17_25_3) (fun v3 u2 H locs hp1 V => ?_)
  obtain ⟨rfl, rfl⟩ := hp1
  refine lv_if_eq (tgt := 13) hx hb d_17_25_6 (by decide) (fun c5 => ?_) (fun c5 => absurd (by decide) c5)
  refine lv_iconst (v := 0) hx hb d_17_25_13 (by decide) ?_
  refine q_put (ci := 15) (j := 0) (v := .int 0) (ty := .int) C0 V i_FR o_FR n_FR rfl rfl hO0 (by decide) w_2074 rfl rfl rfl rfl (Nat.le_of_ble_eq_true rfl) d_17_25_14 (fun H locs w6 hu7 hO0 V => ?_)
  replace hO0 : w6[kO0]? = (some (qO0, .inr (15, [.int 0, .ref qA1, .ref qA2, .ref qA3, .ref qA4, .ref qA5, .ref qA6, .ref qA7, .int 0, .int 0, .int 0, .long 0, .int 0, .int 0, .long 0, .int 0, .long 0, .int 0])) : Option (Nat × va_E)) := hO0
  replace hF := q_us hF hu7 (.head _)
  refine lv_aload_n hx hb d_17_25_17 rfl (lv_at hl 0 rfl) ?_
  refine q_get (ci := 15) (j := 0) (v := .int 0) C0 V i_FR rfl rfl hO0 (by decide) w_2074 rfl d_17_25_18 ?_
  refine lv_if_le (tgt := 26) hx hb d_17_25_21 (by decide) (fun c8 => ?_) (fun c8 => absurd (by decide) c8)
  refine lv_aload_n hx hb d_17_25_26 rfl (lv_at hl 0 rfl) ?_
  refine lv_lload_n hx hb d_17_25_27 rfl (lv_at hl 1 rfl) ?_
  refine lv_iload_n hx hb d_17_25_28 rfl (lv_at hl 2 rfl) ?_
  refine q_gov V (q_runV (As := [.long 0, .int 0]) (rest := []) (d := 1) (mc := 0) (ms := 0) (ci := 15) C0 V rfl LV_FR_126 (c_FR_open l D g w6 kO0 qO0 qA1 qA2 qA3 qA4 qA5 qA6 qA7 hO0 _) rfl rfl hO0 rfl hl.1 rfl (Nat.le_of_ble_eq_true rfl) ⟨by decide, by decide⟩ ⟨Nat.le_of_ble_eq_true rfl, Nat.le_of_ble_eq_true rfl⟩ d_17_25_29) (fun u10 H locs hp9 V => ?_)
  obtain ⟨hg11, hO0⟩ := hp9
  replace hF := q_uc hF hg11 (q_sc (.head _) (fun _ h => absurd h List.not_mem_nil))
  refine lv_aload_n hx hb d_17_25_32 rfl (lv_at hl 0 rfl) ?_
  refine q_goi V (q_runV (As := []) (rest := []) (d := 1) (mc := 0) (ms := 0) (ci := 15) C0 V rfl LV_FR_130 (c_FR_isFinite l D g u10 kO0 qO0 qA1 qA2 qA3 qA4 qA5 qA6 qA7 hO0 _) rfl rfl hO0 rfl hl.1 rfl (Nat.le_of_ble_eq_true rfl) ⟨by decide, by decide⟩ ⟨Nat.le_of_ble_eq_true rfl, Nat.le_of_ble_eq_true rfl⟩ d_17_25_33) (fun v14 u13 H locs hp12 V => ?_)
  obtain ⟨rfl, rfl⟩ := hp12
  refine lv_if_ne (tgt := 48) hx hb d_17_25_36 (by decide) (fun c16 => ?_) (fun c16 => absurd c16 (by decide))
  refine lv_aload_n hx hb d_17_25_48 rfl (lv_at hl 0 rfl) ?_
  refine q_gov V (q_runV (As := []) (rest := []) (d := 1) (mc := 0) (ms := 0) (ci := 15) C0 V rfl LV_FR_113 (c_FR_begin l D g u10 kO0 qO0 qA1 qA2 qA3 qA4 qA5 qA6 qA7 hO0 _) rfl rfl hO0 rfl hl.1 rfl (Nat.le_of_ble_eq_true rfl) ⟨by decide, by decide⟩ ⟨Nat.le_of_ble_eq_true rfl, Nat.le_of_ble_eq_true rfl⟩ d_17_25_49) (fun u18 H locs hp17 V => ?_)
  obtain ⟨hg19, hO0⟩ := hp17
  replace hF := q_uc hF hg19 (q_sc (.head _) (fun _ h => absurd h List.not_mem_nil))
  refine lv_aload_n hx hb d_17_25_52 rfl (lv_at hl 0 rfl) ?_
  refine lv_bipush (v := 48) hx hb d_17_25_53 (by decide) ?_
  replace hA7 := (hg19 _ (q_nc n_A7_O0 List.not_mem_nil)).trans ((hg11 _ (q_nc n_A7_O0 List.not_mem_nil)).trans ((hu7 _ n_A7_O0).trans (hA7)))
  refine q_gov V (q_runV (As := [.int 48]) (rest := []) (d := 1) (mc := 0) (ms := 0) (ci := 15) C0 V rfl LV_FR_110 (c_FR_add l D g u18 kO0 kA7 qO0 qA1 qA2 qA3 qA4 qA5 qA6 qA7 hO0 hA7 _) rfl rfl hO0 rfl hl.1 rfl (Nat.le_of_ble_eq_true rfl) ⟨by decide, by decide⟩ ⟨Nat.le_of_ble_eq_true rfl, Nat.le_of_ble_eq_true rfl⟩ d_17_25_55) (fun u21 H locs hp20 V => ?_)
  obtain ⟨hg22, hO0, hA7⟩ := hp20
  replace hF := q_uc hF hg22 (q_sc (.head _) (q_sc (.tail _ (.head _)) (fun _ h => absurd h List.not_mem_nil)))
  refine lv_aload_n hx hb d_17_25_58 rfl (lv_at hl 0 rfl) ?_
  refine lv_bipush (v := 120) hx hb d_17_25_59 (by decide) ?_
  refine q_gov V (q_runV (As := [.int 120]) (rest := []) (d := 1) (mc := 0) (ms := 0) (ci := 15) C0 V rfl LV_FR_110 (c_FR_add_7 l D g u21 kO0 kA7 qO0 qA1 qA2 qA3 qA4 qA5 qA6 qA7 hO0 hA7 _) rfl rfl hO0 rfl hl.1 rfl (Nat.le_of_ble_eq_true rfl) ⟨by decide, by decide⟩ ⟨Nat.le_of_ble_eq_true rfl, Nat.le_of_ble_eq_true rfl⟩ d_17_25_61) (fun u24 H locs hp23 V => ?_)
  obtain ⟨hg25, hO0, hA7⟩ := hp23
  replace hF := q_uc hF hg25 (q_sc (.head _) (q_sc (.tail _ (.head _)) (fun _ h => absurd h List.not_mem_nil)))
  refine lv_aload_n hx hb d_17_25_64 rfl (lv_at hl 0 rfl) ?_
  refine lv_aload_n hx hb d_17_25_65 rfl (lv_at hl 0 rfl) ?_
  refine q_get (ci := 15) (j := 10) (v := .int 0) C0 V i_FR rfl rfl hO0 (by decide) w_2086 rfl d_17_25_66 ?_
  refine lv_if_le (tgt := 77) hx hb d_17_25_69 (by decide) (fun c26 => ?_) (fun c26 => absurd (by decide) c26)
  refine lv_bipush (v := 48) hx hb d_17_25_77 (by decide) ?_
  refine q_gov V (q_runV (As := [.int 48]) (rest := []) (d := 1) (mc := 0) (ms := 0) (ci := 15) C0 V rfl LV_FR_110 (c_FR_add_3 l D g u24 kO0 kA7 qO0 qA1 qA2 qA3 qA4 qA5 qA6 qA7 2 (upd (upd (fun _ => 0) 0 48) 1 120) hO0 hA7 (q_Ile (x := 2) (y := 2) (by decide) (by decide) (by omega)) (q_Ile (x := 2) (y := 1076) (by decide) (by decide) (by omega)) _) rfl rfl hO0 rfl hl.1 rfl (Nat.le_of_ble_eq_true rfl) ⟨by decide, by decide⟩ ⟨Nat.le_of_ble_eq_true rfl, Nat.le_of_ble_eq_true rfl⟩ d_17_25_79) (fun u28 H locs hp27 V => ?_)
  obtain ⟨hg29, hO0, hA7⟩ := hp27
  replace hF := q_uc hF hg29 (q_sc (.head _) (q_sc (.tail _ (.head _)) (fun _ h => absurd h List.not_mem_nil)))
  refine lv_aload_n hx hb d_17_25_82 rfl (lv_at hl 0 rfl) ?_
  refine lv_bipush (v := 46) hx hb d_17_25_83 (by decide) ?_
  refine q_gov V (q_runV (As := [.int 46]) (rest := []) (d := 1) (mc := 0) (ms := 0) (ci := 15) C0 V rfl LV_FR_110 (c_FR_add_8 l D g u28 kO0 kA7 qO0 qA1 qA2 qA3 qA4 qA5 qA6 qA7 (2 + 1) (upd (upd (upd (fun _ => 0) 0 48) 1 120) (2 : Int32).toNatClampNeg 48) hO0 hA7 (q_Ile (x := 3) (y := (2 + 1)) (by decide) (q_addI (x := 2) (y := 1) (by decide) (by decide) (by omega) (by omega)) (by omega)) (q_Ile (x := (2 + 1)) (y := 3) (q_addI (x := 2) (y := 1) (by decide) (by decide) (by omega) (by omega)) (by decide) (by omega)) _) rfl rfl hO0 rfl hl.1 rfl (Nat.le_of_ble_eq_true rfl) ⟨by decide, by decide⟩ ⟨Nat.le_of_ble_eq_true rfl, Nat.le_of_ble_eq_true rfl⟩ d_17_25_85) (fun u31 H locs hp30 V => ?_)
  obtain ⟨hg32, hO0, hA7⟩ := hp30
  replace hF := q_uc hF hg32 (q_sc (.head _) (q_sc (.tail _ (.head _)) (fun _ h => absurd h List.not_mem_nil)))
  refine lv_iload_n hx hb d_17_25_88 rfl (lv_at hl 2 rfl) ?_
  refine lv_if_eq (tgt := 103) hx hb d_17_25_89 (by decide) (fun c33 => ?_) (fun c33 => absurd (by decide) c33)
  refine lv_aload_n hx hb d_17_25_103 rfl (lv_at hl 0 rfl) ?_
  refine q_get (ci := 15) (j := 11) (v := .long 0) C0 V i_FR rfl rfl hO0 (by decide) w_2087 rfl d_17_25_104 ?_
  refine lv_lstore (lv' := [(4, .long 0), (0, .ref qO0), (1, .long 0), (3, .int 0)]) hx hb d_17_25_107 hl (by decide) rfl (fun ls hl => ?_)
  refine lv_iload_n hx hb d_17_25_109 rfl (lv_at hl 3 rfl) ?_
  refine lv_if_eq (tgt := 118) hx hb d_17_25_110 (by decide) (fun c34 => ?_) (fun c34 => absurd (by decide) c34)
  refine lv_bipush (v := 48) hx hb d_17_25_118 (by decide) ?_
  refine lv_istore (lv' := [(6, .int 48), (4, .long 0), (0, .ref qO0), (1, .long 0), (3, .int 0)]) hx hb d_17_25_120 hl (by decide) rfl (fun ls hl => ?_)
  refine lv_aload_n hx hb d_17_25_122 rfl (lv_at hl 2 rfl) ?_
  refine lv_lload hx hb d_17_25_123 (lv_at hl 1 rfl) ?_
  refine lv_iload hx hb d_17_25_125 (lv_at hl 0 rfl) ?_
  refine lv_lshr hx hb d_17_25_127 rfl ?_
  refine q_tl (v := 0) (by decide) ?_
  refine q_ldc2 C0 rfl w_3050 d_17_25_128 ?_
  refine lv_land hx hb d_17_25_131 ?_
  refine q_tl (v := 0) (by decide) ?_
  refine q_gov V (q_runV (As := [.long 0]) (rest := []) (d := 2) (mc := 0) (ms := 0) (ci := 15) C0 V rfl LV_FR_158 (c_FR_hexadecimalFigure l D g u31 kO0 kA7 qO0 qA1 qA2 qA3 qA4 qA5 qA6 qA7 (upd (upd (upd (fun _ => 0) 0 48) 1 120) (2 : Int32).toNatClampNeg 48) hO0 hA7 _) rfl rfl hO0 rfl hl.1 rfl (Nat.le_of_ble_eq_true rfl) ⟨by decide, by decide⟩ ⟨Nat.le_of_ble_eq_true rfl, Nat.le_of_ble_eq_true rfl⟩ d_17_25_132) (fun u36 H locs hp35 V => ?_)
  obtain ⟨hg37, hO0, hA7⟩ := hp35
  replace hF := q_uc hF hg37 (q_sc (.head _) (q_sc (.tail _ (.head _)) (fun _ h => absurd h List.not_mem_nil)))
  refine lv_lload hx hb d_17_25_135 (lv_at hl 1 rfl) ?_
  refine lv_lconst (v := 1) hx hb d_17_25_137 (by decide) ?_
  refine lv_iload hx hb d_17_25_138 (lv_at hl 0 rfl) ?_
  refine lv_lshl hx hb d_17_25_140 rfl ?_
  refine q_tl (v := 281474976710656) (by decide) ?_
  refine lv_lconst (v := 1) hx hb d_17_25_141 (by decide) ?_
  refine lv_lsub hx hb d_17_25_142 ?_
  refine q_tl (v := 281474976710655) (by decide) ?_
  refine lv_land hx hb d_17_25_143 ?_
  refine q_tl (v := 0) (by decide) ?_
  refine lv_lconst (v := 0) hx hb d_17_25_144 (by decide) ?_
  refine W.lcmp hx hb d_17_25_145 ?_
  refine q_ti (v := 0) (by decide) ?_
  refine lv_if_eq (tgt := 171) hx hb d_17_25_146 (by decide) (fun c38 => ?_) (fun c38 => absurd (by decide) c38)
  refine lv_aload_n hx hb d_17_25_171 rfl (lv_at hl 2 rfl) ?_
  refine lv_bipush (v := 112) hx hb d_17_25_172 (by decide) ?_
  refine q_gov V (q_runV (As := [.int 112]) (rest := []) (d := 1) (mc := 0) (ms := 0) (ci := 15) C0 V rfl LV_FR_110 (c_FR_add_9 l D g u36 kO0 kA7 qO0 qA1 qA2 qA3 qA4 qA5 qA6 qA7 (4 + 1) (upd (upd (upd (upd (upd (fun _ => 0) 0 48) 1 120) (2 : Int32).toNatClampNeg 48) 3 46) (4 : Int32).toNatClampNeg 48) hO0 hA7 (q_Ile (x := 5) (y := (4 + 1)) (by decide) (q_addI (x := 4) (y := 1) (by decide) (by decide) (by omega) (by omega)) (by omega)) (q_Ile (x := (4 + 1)) (y := 5) (q_addI (x := 4) (y := 1) (by decide) (by decide) (by omega) (by omega)) (by decide) (by omega)) _) rfl rfl hO0 rfl hl.1 rfl (Nat.le_of_ble_eq_true rfl) ⟨by decide, by decide⟩ ⟨Nat.le_of_ble_eq_true rfl, Nat.le_of_ble_eq_true rfl⟩ d_17_25_174) (fun u40 H locs hp39 V => ?_)
  obtain ⟨hg41, hO0, hA7⟩ := hp39
  replace hF := q_uc hF hg41 (q_sc (.head _) (q_sc (.tail _ (.head _)) (fun _ h => absurd h List.not_mem_nil)))
  refine lv_aload_n hx hb d_17_25_177 rfl (lv_at hl 2 rfl) ?_
  refine q_get (ci := 15) (j := 14) (v := .long 0) C0 V i_FR rfl rfl hO0 (by decide) w_2090 rfl d_17_25_178 ?_
  refine lv_lconst (v := 0) hx hb d_17_25_181 (by decide) ?_
  refine W.lcmp hx hb d_17_25_182 ?_
  refine q_ti (v := 0) (by decide) ?_
  refine lv_if_ne (tgt := 190) hx hb d_17_25_183 (by decide) (fun c42 => absurd (by decide) c42) (fun c42 => ?_)
  refine lv_iconst (v := 0) hx hb d_17_25_186 (by decide) ?_
  refine lv_goto (tgt := 199) hx hb d_17_25_187 (by decide) ?_
  refine lv_istore (lv' := [(7, .int 0), (6, .int 48), (4, .long 0), (0, .ref qO0), (1, .long 0), (3, .int 0)]) hx hb d_17_25_199 hl (by decide) rfl (fun ls hl => ?_)
  refine lv_iload hx hb d_17_25_201 (lv_at hl 0 rfl) ?_
  refine lv_if_ge (tgt := 212) hx hb d_17_25_203 (by decide) (fun c43 => ?_) (fun c43 => absurd (by decide) c43)
  refine lv_aload_n hx hb d_17_25_212 rfl (lv_at hl 3 rfl) ?_
  refine lv_iload hx hb d_17_25_213 (lv_at hl 0 rfl) ?_
  refine lv_if_ge (tgt := 224) hx hb d_17_25_215 (by decide) (fun c44 => ?_) (fun c44 => absurd (by decide) c44)
  refine lv_iload hx hb d_17_25_224 (lv_at hl 0 rfl) ?_
  refine q_gov V (q_runV (As := [.int 0]) (rest := []) (d := 2) (mc := 0) (ms := 0) (ci := 15) C0 V rfl LV_FR_149 (c_FR_number l D g u40 kO0 kA7 qO0 qA1 qA2 qA3 qA4 qA5 qA6 qA7 (upd (upd (upd (upd (upd (fun _ => 0) 0 48) 1 120) (2 : Int32).toNatClampNeg 48) 3 46) (4 : Int32).toNatClampNeg 48) hO0 hA7 _) rfl rfl hO0 rfl hl.1 rfl (Nat.le_of_ble_eq_true rfl) ⟨by decide, by decide⟩ ⟨Nat.le_of_ble_eq_true rfl, Nat.le_of_ble_eq_true rfl⟩ d_17_25_226) (fun u46 H locs hp45 V => ?_)
  obtain ⟨hg47, hO0, hA7⟩ := hp45
  replace hF := q_uc hF hg47 (q_sc (.head _) (q_sc (.tail _ (.head _)) (fun _ h => absurd h List.not_mem_nil)))
  refine lv_aload_n hx hb d_17_25_229 rfl (lv_at hl 3 rfl) ?_
  refine q_get (ci := 15) (j := 8) (v := .int (6 + 1)) C0 V i_FR rfl rfl hO0 (by decide) w_2084 rfl d_17_25_230 ?_
  exact q_reti C0 V (⟨rfl, hF, hO0, hA7⟩) d_17_25_233
