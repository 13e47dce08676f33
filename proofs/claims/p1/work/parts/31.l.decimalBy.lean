/-! the reference on a fresh object: decimalBy -/
theorem d_15_45_0 : decode prog_15_method_45_code 0 = .ok (.aload_n 0, 1) := by decide +kernel
theorem d_15_45_1 : decode prog_15_method_45_code 1 = .ok (.iload_n 1, 1) := by decide +kernel
theorem d_15_45_2 : decode prog_15_method_45_code 2 = .ok (.invokestatic 113, 3) := by decide +kernel
theorem d_15_45_5 : decode prog_15_method_45_code 5 = .ok (.ifCond .ne 10, 3) := by decide +kernel
theorem d_15_45_8 : decode prog_15_method_45_code 8 = .ok (.iload_n 2, 1) := by decide +kernel
theorem d_15_45_9 : decode prog_15_method_45_code 9 = .ok (.invokestatic 113, 3) := by decide +kernel
theorem d_15_45_12 : decode prog_15_method_45_code 12 = .ok (.ifCond .eq 7, 3) := by decide +kernel
theorem d_15_45_19 : decode prog_15_method_45_code 19 = .ok (.iconst 0, 1) := by decide +kernel
theorem d_15_45_20 : decode prog_15_method_45_code 20 = .ok (.putfield 41, 3) := by decide +kernel
theorem d_15_45_23 : decode prog_15_method_45_code 23 = .ok (.aload_n 0, 1) := by decide +kernel
theorem d_15_45_24 : decode prog_15_method_45_code 24 = .ok (.getfield 41, 3) := by decide +kernel
theorem d_15_45_27 : decode prog_15_method_45_code 27 = .ok (.ifCond .le 4, 3) := by decide +kernel
theorem d_15_45_31 : decode prog_15_method_45_code 31 = .ok (.aload_n 0, 1) := by decide +kernel
theorem d_15_45_32 : decode prog_15_method_45_code 32 = .ok (.iconst 2, 1) := by decide +kernel
theorem d_15_45_33 : decode prog_15_method_45_code 33 = .ok (.putfield 66, 3) := by decide +kernel
theorem d_15_45_36 : decode prog_15_method_45_code 36 = .ok (.aload_n 0, 1) := by decide +kernel
theorem d_15_45_37 : decode prog_15_method_45_code 37 = .ok (.iload_n 1, 1) := by decide +kernel
theorem d_15_45_38 : decode prog_15_method_45_code 38 = .ok (.invokevirtual 132, 3) := by decide +kernel
theorem d_15_45_41 : decode prog_15_method_45_code 41 = .ok (.aload_n 0, 1) := by decide +kernel
theorem d_15_45_42 : decode prog_15_method_45_code 42 = .ok (.getfield 26, 3) := by decide +kernel
theorem d_15_45_45 : decode prog_15_method_45_code 45 = .ok (.iconst 0, 1) := by decide +kernel
theorem d_15_45_46 : decode prog_15_method_45_code 46 = .ok (.iaload, 1) := by decide +kernel
theorem d_15_45_47 : decode prog_15_method_45_code 47 = .ok (.ifCond .ne 11, 3) := by decide +kernel
theorem d_15_45_50 : decode prog_15_method_45_code 50 = .ok (.aload_n 0, 1) := by decide +kernel
theorem d_15_45_51 : decode prog_15_method_45_code 51 = .ok (.lconst 0, 1) := by decide +kernel
theorem d_15_45_52 : decode prog_15_method_45_code 52 = .ok (.putfield 48, 3) := by decide +kernel
theorem d_15_45_55 : decode prog_15_method_45_code 55 = .ok (.goto 29, 3) := by decide +kernel
theorem d_15_45_84 : decode prog_15_method_45_code 84 = .ok (.aload_n 0, 1) := by decide +kernel
theorem d_15_45_85 : decode prog_15_method_45_code 85 = .ok (.iload_n 2, 1) := by decide +kernel
theorem d_15_45_86 : decode prog_15_method_45_code 86 = .ok (.invokevirtual 89, 3) := by decide +kernel
theorem d_15_45_89 : decode prog_15_method_45_code 89 = .ok (.return_, 1) := by decide +kernel
def y_DR_strip : MethodName := ⟨"NumberHouseModel$DecimalRows", "strip", "(II)V"⟩
set_option maxRecDepth 100000 in
set_option maxHeartbeats 4000000 in
theorem c_DR_strip (l : Launch) (D : va_G) (g : Nat → ClassId) (ws : va_W) (kO0 kA2 kA3 kA4 kA5 kA6 qO0 qA1 qA2 qA3 qA4 qA5 qA6 qA7 qA8 qA9 qA10 : Nat) (x1 : Int32) (x2 : Int32) (hO0 : ws[kO0]? = (some (qO0, .inr (14, [.int 0, .ref qA1, .int 0, .ref qA2, .ref qA3, .ref qA4, .ref qA5, .ref qA6, .int 0, .long 0, .int 0, .int 0, .ref qA7, .int 0, .ref qA8, .int 0, .ref qA9, .int 0, .ref qA10, .int 0, .int 0])) : Option (Nat × va_E))) (hA2 : ws[kA2]? = (some (qA2, .inl (g 0, 10000, .inl (fun _ => 0))) : Option (Nat × va_E))) (hA3 : ws[kA3]? = (some (qA3, .inl (g 0, 10, .inl (upd (upd (upd (upd (upd (upd (upd (upd (upd (upd (fun _ => 0) 0 1) 1 1) 2 1) 3 1) 4 1) 5 1) 6 1) 7 1) 8 1) 9 1))) : Option (Nat × va_E))) (hA4 : ws[kA4]? = (some (qA4, .inl (g 3, 10, .inl (fun _ => 0))) : Option (Nat × va_E))) (hA5 : ws[kA5]? = (some (qA5, .inl (g 0, 10, .inl (fun _ => 0))) : Option (Nat × va_E))) (hA6 : ws[kA6]? = (some (qA6, .inl (g 0, 4400, .inl (fun _ => 0))) : Option (Nat × va_E))) (n_A2_A3 : kA2 ≠ kA3) (n_A2_A4 : kA2 ≠ kA4) (n_A2_A5 : kA2 ≠ kA5) (n_A2_A6 : kA2 ≠ kA6) (n_A3_A4 : kA3 ≠ kA4) (n_A3_A5 : kA3 ≠ kA5) (n_A3_A6 : kA3 ≠ kA6) (n_A4_A5 : kA4 ≠ kA5) (n_A4_A6 : kA4 ≠ kA6) (n_A5_A6 : kA5 ≠ kA6) (x1lo : 0 ≤ x1) (x1hi : x1 ≤ 9) (x2lo : 0 ≤ x2) (x2hi : x2 ≤ 9) : q_mV l y_DR_strip prog_15_method_45_code 4 3 0 0 D g [.ref qO0, .int x1, .int x2] ws (fun u => q_un ws u [kO0, kA2, kA3, kA4, kA5, kA6] ∧ u[kO0]? = (some (qO0, .inr (14, [.int 0, .ref qA1, .int 0, .ref qA2, .ref qA3, .ref qA4, .ref qA5, .ref qA6, .int 1, .long 0, .int 0, .int 0, .ref qA7, .int 0, .ref qA8, .int 0, .ref qA9, .int 0, .ref qA10, .int 0, .int 2])) : Option (Nat × va_E)) ∧ u[kA2]? = (some (qA2, .inl (g 0, 10000, .inl (fun _ => 0))) : Option (Nat × va_E)) ∧ u[kA3]? = (some (qA3, .inl (g 0, 10, .inl (upd (upd (upd (upd (upd (upd (upd (upd (upd (upd (upd (fun _ => 0) 0 1) 1 1) 2 1) 3 1) 4 1) 5 1) 6 1) 7 1) 8 1) 9 1) x2.toNatClampNeg 1))) : Option (Nat × va_E)) ∧ u[kA4]? = (some (qA4, .inl (g 3, 10, .inl (fun _ => 0))) : Option (Nat × va_E)) ∧ u[kA5]? = (some (qA5, .inl (g 0, 10, .inl (fun _ => 0))) : Option (Nat × va_E)) ∧ u[kA6]? = (some (qA6, .inl (g 0, 4400, .inl (fun _ => 0))) : Option (Nat × va_E))) := by
  intro sz
  refine q_into (by decide) (Nat.le_of_ble_eq_true rfl) ?_
  intro p e s m below meth c ls hsz C0 V hl
  have hx := C0.1
  have hb := C0.2.1
  have hl : lv_has ls 4 [(0, .ref qO0), (1, .int x1), (2, .int x2)] := hl
  have n_A2_O0 := q_df hA2 hO0
  have n_A3_O0 := q_df hA3 hO0
  have n_A4_O0 := q_df hA4 hO0
  have n_A5_O0 := q_df hA5 hO0
  have n_A6_O0 := q_df hA6 hO0
  have hF : q_un ws ws [kO0, kA2, kA3, kA4, kA5, kA6] := q_u0
  refine lv_aload_n hx hb d_15_45_0 rfl (lv_at hl 0 rfl) ?_
  refine lv_iload_n hx hb d_15_45_1 rfl (lv_at hl 1 rfl) ?_
  refine q_goi V (q_runS (As := [.int x1]) (rest := [.ref qO0]) (d := 1) (mc := 0) (ms := 0) C0 V rfl LS_DR_113 (c_DR_no l D g ws x1 x1lo x1hi _) rfl hl.1 rfl (Nat.le_of_ble_eq_true rfl) ⟨by decide, by decide⟩ ⟨Nat.le_of_ble_eq_true rfl, Nat.le_of_ble_eq_true rfl⟩ d_15_45_2) (fun v3 u2 H locs hp1 V => ?_)
  obtain ⟨rfl, rfl⟩ := hp1
  refine lv_if_ne (tgt := 15) hx hb d_15_45_5 (by decide) (fun c5 => absurd (by decide) c5) (fun c5 => ?_)
  refine lv_iload_n hx hb d_15_45_8 rfl (lv_at hl 2 rfl) ?_
  refine q_goi V (q_runS (As := [.int x2]) (rest := [.ref qO0]) (d := 1) (mc := 0) (ms := 0) C0 V rfl LS_DR_113 (c_DR_no l D g ws x2 x2lo x2hi _) rfl hl.1 rfl (Nat.le_of_ble_eq_true rfl) ⟨by decide, by decide⟩ ⟨Nat.le_of_ble_eq_true rfl, Nat.le_of_ble_eq_true rfl⟩ d_15_45_9) (fun v8 u7 H locs hp6 V => ?_)
  obtain ⟨rfl, rfl⟩ := hp6
  refine lv_if_eq (tgt := 19) hx hb d_15_45_12 (by decide) (fun c10 => ?_) (fun c10 => absurd (by decide) c10)
  refine lv_iconst (v := 0) hx hb d_15_45_19 (by decide) ?_
  refine q_put (ci := 14) (j := 0) (v := .int 0) (ty := .int) C0 V i_DR o_DR n_DR rfl rfl hO0 (by decide) w_1996 rfl rfl rfl rfl (Nat.le_of_ble_eq_true rfl) d_15_45_20 (fun H locs w11 hu12 hO0 V => ?_)
  replace hO0 : w11[kO0]? = (some (qO0, .inr (14, [.int 0, .ref qA1, .int 0, .ref qA2, .ref qA3, .ref qA4, .ref qA5, .ref qA6, .int 0, .long 0, .int 0, .int 0, .ref qA7, .int 0, .ref qA8, .int 0, .ref qA9, .int 0, .ref qA10, .int 0, .int 0])) : Option (Nat × va_E)) := hO0
  replace hF := q_us hF hu12 (.head _)
  refine lv_aload_n hx hb d_15_45_23 rfl (lv_at hl 0 rfl) ?_
  refine q_get (ci := 14) (j := 0) (v := .int 0) C0 V i_DR rfl rfl hO0 (by decide) w_1996 rfl d_15_45_24 ?_
  refine lv_if_le (tgt := 31) hx hb d_15_45_27 (by decide) (fun c13 => ?_) (fun c13 => absurd (by decide) c13)
  refine lv_aload_n hx hb d_15_45_31 rfl (lv_at hl 0 rfl) ?_
  refine lv_iconst (v := 2) hx hb d_15_45_32 (by decide) ?_
  refine q_put (ci := 14) (j := 20) (v := .int 2) (ty := .int) C0 V i_DR o_DR n_DR rfl rfl hO0 (by decide) w_2024 rfl rfl rfl rfl (Nat.le_of_ble_eq_true rfl) d_15_45_33 (fun H locs w14 hu15 hO0 V => ?_)
  replace hO0 : w14[kO0]? = (some (qO0, .inr (14, [.int 0, .ref qA1, .int 0, .ref qA2, .ref qA3, .ref qA4, .ref qA5, .ref qA6, .int 0, .long 0, .int 0, .int 0, .ref qA7, .int 0, .ref qA8, .int 0, .ref qA9, .int 0, .ref qA10, .int 0, .int 2])) : Option (Nat × va_E)) := hO0
  replace hF := q_us hF hu15 (.head _)
  refine lv_aload_n hx hb d_15_45_36 rfl (lv_at hl 0 rfl) ?_
  refine lv_iload_n hx hb d_15_45_37 rfl (lv_at hl 1 rfl) ?_
  replace hA2 := (hu15 _ n_A2_O0).trans ((hu12 _ n_A2_O0).trans (hA2))
  replace hA3 := (hu15 _ n_A3_O0).trans ((hu12 _ n_A3_O0).trans (hA3))
  replace hA4 := (hu15 _ n_A4_O0).trans ((hu12 _ n_A4_O0).trans (hA4))
  replace hA5 := (hu15 _ n_A5_O0).trans ((hu12 _ n_A5_O0).trans (hA5))
  replace hA6 := (hu15 _ n_A6_O0).trans ((hu12 _ n_A6_O0).trans (hA6))
  refine q_gov V (q_runV (As := [.int x1]) (rest := []) (d := 1) (mc := 0) (ms := 0) (ci := 14) C0 V rfl LV_DR_132 (c_DR_load l D g w14 kO0 kA2 kA3 kA4 kA5 kA6 qO0 qA1 qA2 qA3 qA4 qA5 qA6 qA7 qA8 qA9 qA10 x1 hO0 hA2 hA3 hA4 hA5 hA6 n_A2_A6 n_A3_A6 n_A4_A6 n_A5_A6 x1lo x1hi _) rfl rfl hO0 rfl hl.1 rfl (Nat.le_of_ble_eq_true rfl) ⟨by decide, by decide⟩ ⟨Nat.le_of_ble_eq_true rfl, Nat.le_of_ble_eq_true rfl⟩ d_15_45_38) (fun u17 H locs hp16 V => ?_)
  obtain ⟨hg18, hO0, hA6⟩ := hp16
  replace hF := q_uc hF hg18 (q_sc (.head _) (q_sc (List.mem_of_getElem? (i := 5) rfl) (fun _ h => absurd h List.not_mem_nil)))
  refine lv_aload_n hx hb d_15_45_41 rfl (lv_at hl 0 rfl) ?_
  refine q_get (ci := 14) (j := 7) (v := .ref qA6) C0 V i_DR rfl rfl hO0 (by decide) w_2010 rfl d_15_45_42 ?_
  refine lv_iconst (v := 0) hx hb d_15_45_45 (by decide) ?_
  refine q_iald C0 V hA6 (by unfold vp_in; decide) d_15_45_46 ?_
  refine q_ti (v := 0) (by first | rfl | decide | simp [upd, vp_updL, sb_cl0]) ?_
  refine lv_if_ne (tgt := 58) hx hb d_15_45_47 (by decide) (fun c19 => absurd (by decide) c19) (fun c19 => ?_)
  refine lv_aload_n hx hb d_15_45_50 rfl (lv_at hl 0 rfl) ?_
  refine lv_lconst (v := 0) hx hb d_15_45_51 (by decide) ?_
  refine q_put (ci := 14) (j := 9) (v := .long 0) (ty := .long) C0 V i_DR o_DR n_DR rfl rfl hO0 (by decide) w_2012 rfl rfl rfl rfl (Nat.le_of_ble_eq_true rfl) d_15_45_52 (fun H locs w20 hu21 hO0 V => ?_)
  replace hO0 : w20[kO0]? = (some (qO0, .inr (14, [.int 0, .ref qA1, .int 0, .ref qA2, .ref qA3, .ref qA4, .ref qA5, .ref qA6, .int 1, .long 0, .int 0, .int 0, .ref qA7, .int 0, .ref qA8, .int 0, .ref qA9, .int 0, .ref qA10, .int 0, .int 2])) : Option (Nat × va_E)) := hO0
  replace hF := q_us hF hu21 (.head _)
  refine lv_goto (tgt := 84) hx hb d_15_45_55 (by decide) ?_
  refine lv_aload_n hx hb d_15_45_84 rfl (lv_at hl 0 rfl) ?_
  refine lv_iload_n hx hb d_15_45_85 rfl (lv_at hl 2 rfl) ?_
  replace hA2 := (hu21 _ n_A2_O0).trans ((hg18 _ (q_nc n_A2_O0 (q_nc n_A2_A6 List.not_mem_nil))).trans (hA2))
  replace hA3 := (hu21 _ n_A3_O0).trans ((hg18 _ (q_nc n_A3_O0 (q_nc n_A3_A6 List.not_mem_nil))).trans (hA3))
  replace hA4 := (hu21 _ n_A4_O0).trans ((hg18 _ (q_nc n_A4_O0 (q_nc n_A4_A6 List.not_mem_nil))).trans (hA4))
  replace hA5 := (hu21 _ n_A5_O0).trans ((hg18 _ (q_nc n_A5_O0 (q_nc n_A5_A6 List.not_mem_nil))).trans (hA5))
  replace hA6 := (hu21 _ n_A6_O0).trans (hA6)
  refine q_gov V (q_runV (As := [.int x2]) (rest := []) (d := 2) (mc := 0) (ms := 0) (ci := 14) C0 V rfl LV_DR_89 (c_DR_store l D g w20 kO0 kA2 kA3 kA4 kA5 kA6 qO0 qA1 qA2 qA3 qA4 qA5 qA6 qA7 qA8 qA9 qA10 x2 hO0 hA2 hA3 hA4 hA5 hA6 n_A2_A3 n_A2_A4 n_A2_A5 n_A2_A6 n_A3_A4 n_A3_A5 n_A3_A6 n_A4_A5 n_A4_A6 n_A5_A6 x2lo x2hi _) rfl rfl hO0 rfl hl.1 rfl (Nat.le_of_ble_eq_true rfl) ⟨by decide, by decide⟩ ⟨Nat.le_of_ble_eq_true rfl, Nat.le_of_ble_eq_true rfl⟩ d_15_45_86) (fun u23 H locs hp22 V => ?_)
  obtain ⟨hg24, hO0, hA2, hA3, hA4, hA5, hA6⟩ := hp22
  replace hF := q_uc hF hg24 (q_sc (.head _) (q_sc (.tail _ (.head _)) (q_sc (.tail _ (.tail _ (.head _))) (q_sc (List.mem_of_getElem? (i := 3) rfl) (q_sc (List.mem_of_getElem? (i := 4) rfl) (q_sc (List.mem_of_getElem? (i := 5) rfl) (fun _ h => absurd h List.not_mem_nil)))))))
  exact q_retv C0 V (⟨hF, hO0, hA2, hA3, hA4, hA5, hA6⟩) d_15_45_89
set_option maxRecDepth 100000 in
set_option maxHeartbeats 4000000 in
theorem c_DR_trim_3 (l : Launch) (D : va_G) (g : Nat → ClassId) (ws : va_W) (kO0 kA6 qO0 qA1 qA2 qA3 qA4 qA5 qA6 qA7 qA8 qA9 qA10 : Nat) (y1 : Int64) (hO0 : ws[kO0]? = (some (qO0, .inr (14, [.int 0, .ref qA1, .int 0, .ref qA2, .ref qA3, .ref qA4, .ref qA5, .ref qA6, .int 1, .long y1, .int 0, .int 0, .ref qA7, .int 0, .ref qA8, .int 0, .ref qA9, .int 0, .ref qA10, .int 0, .int 2])) : Option (Nat × va_E))) (hA6 : ws[kA6]? = (some (qA6, .inl (g 0, 4400, .inl (fun _ => 0))) : Option (Nat × va_E))) : q_mV l y_DR_trim prog_15_method_7_code 3 1 0 0 D g [.ref qO0] ws (fun u => q_un ws u [kO0, kA6] ∧ u[kO0]? = (some (qO0, .inr (14, [.int 0, .ref qA1, .int 0, .ref qA2, .ref qA3, .ref qA4, .ref qA5, .ref qA6, .int 1, .long y1, .int 0, .int 0, .ref qA7, .int 0, .ref qA8, .int 0, .ref qA9, .int 0, .ref qA10, .int 0, .int 2])) : Option (Nat × va_E)) ∧ u[kA6]? = (some (qA6, .inl (g 0, 4400, .inl (fun _ => 0))) : Option (Nat × va_E))) := by
  intro sz
  refine q_into (by decide) (Nat.le_of_ble_eq_true rfl) ?_
  intro p e s m below meth c ls hsz C0 V hl
  have hx := C0.1
  have hb := C0.2.1
  have hl : lv_has ls 3 [(0, .ref qO0)] := hl
  have n_A6_O0 := q_df hA6 hO0
  have n_O0_A6 := Ne.symm (q_df hA6 hO0)
  have hF : q_un ws ws [kO0, kA6] := q_u0
  refine lv_iconst (v := 0) hx hb d_15_7_0 (by decide) ?_
  refine lv_istore_n (lv' := [(1, .int 0), (0, .ref qO0)]) hx hb d_15_7_1 rfl hl (by decide) rfl (fun ls hl => ?_)
  refine lv_iload_n hx hb d_15_7_2 rfl (lv_at hl 0 rfl) ?_
  refine lv_iconst (v := 1) hx hb d_15_7_3 (by decide) ?_
  refine lv_iadd hx hb d_15_7_4 ?_
  refine q_ti (v := 1) (by decide) ?_
  refine lv_aload_n hx hb d_15_7_5 rfl (lv_at hl 1 rfl) ?_
  refine q_get (ci := 14) (j := 8) (v := .int 1) C0 V i_DR rfl rfl hO0 (by decide) w_2011 rfl d_15_7_6 ?_
  refine lv_icmp_ge (tgt := 27) hx hb d_15_7_9 (by decide) (fun c1 => ?_) (fun c1 => absurd (by decide) c1)
  refine lv_iconst (v := 0) hx hb d_15_7_27 (by decide) ?_
  refine lv_istore_n (lv' := [(2, .int 0), (1, .int 0), (0, .ref qO0)]) hx hb d_15_7_28 rfl hl (by decide) rfl (fun ls hl => ?_)
  refine lv_iload_n hx hb d_15_7_29 rfl (lv_at hl 0 rfl) ?_
  refine lv_iload_n hx hb d_15_7_30 rfl (lv_at hl 1 rfl) ?_
  refine lv_iadd hx hb d_15_7_31 ?_
  refine q_ti (v := 0) (by decide) ?_
  refine lv_aload_n hx hb d_15_7_32 rfl (lv_at hl 2 rfl) ?_
  refine q_get (ci := 14) (j := 8) (v := .int 1) C0 V i_DR rfl rfl hO0 (by decide) w_2011 rfl d_15_7_33 ?_
  refine lv_icmp_ge (tgt := 59) hx hb d_15_7_36 (by decide) (fun c2 => absurd c2 (by decide)) (fun c2 => ?_)
  refine lv_aload_n hx hb d_15_7_39 rfl (lv_at hl 2 rfl) ?_
  refine q_get (ci := 14) (j := 7) (v := .ref qA6) C0 V i_DR rfl rfl hO0 (by decide) w_2010 rfl d_15_7_40 ?_
  refine lv_iload_n hx hb d_15_7_43 rfl (lv_at hl 0 rfl) ?_
  refine lv_aload_n hx hb d_15_7_44 rfl (lv_at hl 2 rfl) ?_
  refine q_get (ci := 14) (j := 7) (v := .ref qA6) C0 V i_DR rfl rfl hO0 (by decide) w_2010 rfl d_15_7_45 ?_
  refine lv_iload_n hx hb d_15_7_48 rfl (lv_at hl 0 rfl) ?_
  refine lv_iload_n hx hb d_15_7_49 rfl (lv_at hl 1 rfl) ?_
  refine lv_iadd hx hb d_15_7_50 ?_
  refine q_ti (v := 0) (by decide) ?_
  refine q_iald C0 V hA6 (by unfold vp_in; decide) d_15_7_51 ?_
  refine q_ti (v := 0) (by first | rfl | decide | simp [upd, vp_updL, sb_cl0]) ?_
  refine q_iast C0 V hA6 (by unfold vp_in; decide) d_15_7_52 (fun H locs w3 hu4 hA6 V => ?_)
  replace hA6 := q_re (y := (qA6, .inl (g 0, 4400, .inl (fun _ => 0)))) hA6 (q_eI q_upd0)
  replace hA6 : w3[kA6]? = (some (qA6, .inl (g 0, 4400, .inl (fun _ => 0))) : Option (Nat × va_E)) := hA6
  replace hF := q_us hF hu4 (.tail _ (.head _))
  refine lv_iinc (v := 1) (lv' := [(2, .int 1), (1, .int 0), (0, .ref qO0)]) hx hb d_15_7_53 hl (k := 0) rfl (by decide) (by decide) rfl (fun ls hl => ?_)
  refine lv_goto (tgt := 29) hx hb d_15_7_56 (by decide) ?_
  refine lv_iload_n hx hb d_15_7_29 rfl (lv_at hl 0 rfl) ?_
  refine lv_iload_n hx hb d_15_7_30 rfl (lv_at hl 1 rfl) ?_
  refine lv_iadd hx hb d_15_7_31 ?_
  refine q_ti (v := 1) (by decide) ?_
  refine lv_aload_n hx hb d_15_7_32 rfl (lv_at hl 2 rfl) ?_
  replace hO0 := (hu4 _ n_O0_A6).trans (hO0)
  refine q_get (ci := 14) (j := 8) (v := .int 1) C0 V i_DR rfl rfl hO0 (by decide) w_2011 rfl d_15_7_33 ?_
  refine lv_icmp_ge (tgt := 59) hx hb d_15_7_36 (by decide) (fun c5 => ?_) (fun c5 => absurd (by decide) c5)
  refine lv_aload_n hx hb d_15_7_59 rfl (lv_at hl 2 rfl) ?_
  refine q_get (ci := 14) (j := 8) (v := .int 1) C0 V i_DR rfl rfl hO0 (by decide) w_2011 rfl d_15_7_60 ?_
  refine lv_if_ne (tgt := 81) hx hb d_15_7_63 (by decide) (fun c6 => ?_) (fun c6 => absurd c6 (by decide))
  refine lv_aload_n hx hb d_15_7_81 rfl (lv_at hl 2 rfl) ?_
  refine lv_aload_n hx hb d_15_7_82 rfl (lv_at hl 2 rfl) ?_
  refine q_get (ci := 14) (j := 8) (v := .int 1) C0 V i_DR rfl rfl hO0 (by decide) w_2011 rfl d_15_7_83 ?_
  refine lv_iload_n hx hb d_15_7_86 rfl (lv_at hl 1 rfl) ?_
  refine lv_isub hx hb d_15_7_87 ?_
  refine q_ti (v := 1) (by decide) ?_
  refine q_put (ci := 14) (j := 8) (v := .int 1) (ty := .int) C0 V i_DR o_DR n_DR rfl rfl hO0 (by decide) w_2011 rfl rfl rfl rfl (Nat.le_of_ble_eq_true rfl) d_15_7_88 (fun H locs w7 hu8 hO0 V => ?_)
  replace hO0 : w7[kO0]? = (some (qO0, .inr (14, [.int 0, .ref qA1, .int 0, .ref qA2, .ref qA3, .ref qA4, .ref qA5, .ref qA6, .int 1, .long y1, .int 0, .int 0, .ref qA7, .int 0, .ref qA8, .int 0, .ref qA9, .int 0, .ref qA10, .int 0, .int 2])) : Option (Nat × va_E)) := hO0
  replace hF := q_us hF hu8 (.head _)
  refine lv_aload_n hx hb d_15_7_91 rfl (lv_at hl 2 rfl) ?_
  refine lv_aload_n hx hb d_15_7_92 rfl (lv_at hl 2 rfl) ?_
  refine q_get (ci := 14) (j := 11) (v := .int 0) C0 V i_DR rfl rfl hO0 (by decide) w_2014 rfl d_15_7_93 ?_
  refine lv_if_eq (tgt := 112) hx hb d_15_7_96 (by decide) (fun c9 => ?_) (fun c9 => absurd (by decide) c9)
  refine lv_iconst (v := 0) hx hb d_15_7_112 (by decide) ?_
  refine q_put (ci := 14) (j := 11) (v := .int 0) (ty := .boolean) C0 V i_DR o_DR n_DR rfl rfl hO0 (by decide) w_2014 rfl rfl rfl rfl (Nat.le_of_ble_eq_true rfl) d_15_7_113 (fun H locs w10 hu11 hO0 V => ?_)
  replace hO0 : w10[kO0]? = (some (qO0, .inr (14, [.int 0, .ref qA1, .int 0, .ref qA2, .ref qA3, .ref qA4, .ref qA5, .ref qA6, .int 1, .long y1, .int 0, .int 0, .ref qA7, .int 0, .ref qA8, .int 0, .ref qA9, .int 0, .ref qA10, .int 0, .int 2])) : Option (Nat × va_E)) := hO0
  replace hF := q_us hF hu11 (.head _)
  replace hA6 := (hu11 _ n_A6_O0).trans ((hu8 _ n_A6_O0).trans (hA6))
  exact q_retv C0 V (⟨hF, hO0, hA6⟩) d_15_7_116
theorem d_15_8_36 : decode prog_15_method_8_code 36 = .ok (.aload_n 0, 1) := by decide +kernel
theorem d_15_8_37 : decode prog_15_method_8_code 37 = .ok (.aload_n 0, 1) := by decide +kernel
theorem d_15_8_38 : decode prog_15_method_8_code 38 = .ok (.getfield 66, 3) := by decide +kernel
theorem d_15_8_41 : decode prog_15_method_8_code 41 = .ok (.putfield 41, 3) := by decide +kernel
theorem d_15_8_44 : decode prog_15_method_8_code 44 = .ok (.return_, 1) := by decide +kernel
set_option maxRecDepth 100000 in
set_option maxHeartbeats 4000000 in
theorem c_DR_store_3 (l : Launch) (D : va_G) (g : Nat → ClassId) (ws : va_W) (kO0 kA2 kA3 kA4 kA5 kA6 qO0 qA1 qA2 qA3 qA4 qA5 qA6 qA7 qA8 qA9 qA10 : Nat) (x1 : Int32) (y2 : Int64) (hO0 : ws[kO0]? = (some (qO0, .inr (14, [.int 0, .ref qA1, .int 0, .ref qA2, .ref qA3, .ref qA4, .ref qA5, .ref qA6, .int 1, .long y2, .int 0, .int 0, .ref qA7, .int 0, .ref qA8, .int 0, .ref qA9, .int 0, .ref qA10, .int 0, .int 2])) : Option (Nat × va_E))) (hA2 : ws[kA2]? = (some (qA2, .inl (g 0, 10000, .inl (fun _ => 0))) : Option (Nat × va_E))) (hA3 : ws[kA3]? = (some (qA3, .inl (g 0, 10, .inl (upd (upd (upd (upd (upd (upd (upd (upd (upd (upd (fun _ => 0) 0 1) 1 1) 2 1) 3 1) 4 1) 5 1) 6 1) 7 1) 8 1) 9 1))) : Option (Nat × va_E))) (hA4 : ws[kA4]? = (some (qA4, .inl (g 3, 10, .inl (fun _ => 0))) : Option (Nat × va_E))) (hA5 : ws[kA5]? = (some (qA5, .inl (g 0, 10, .inl (fun _ => 0))) : Option (Nat × va_E))) (hA6 : ws[kA6]? = (some (qA6, .inl (g 0, 4400, .inl (fun _ => 0))) : Option (Nat × va_E))) (n_A2_A3 : kA2 ≠ kA3) (n_A2_A4 : kA2 ≠ kA4) (n_A2_A5 : kA2 ≠ kA5) (n_A2_A6 : kA2 ≠ kA6) (n_A3_A4 : kA3 ≠ kA4) (n_A3_A5 : kA3 ≠ kA5) (n_A3_A6 : kA3 ≠ kA6) (n_A4_A5 : kA4 ≠ kA5) (n_A4_A6 : kA4 ≠ kA6) (n_A5_A6 : kA5 ≠ kA6) (x1lo : 0 ≤ x1) (x1hi : x1 ≤ 9) : q_mV l y_DR_store prog_15_method_8_code 3 2 0 0 D g [.ref qO0, .int x1] ws (fun u => ((lg_cmp y2 (-10000)) < 0 ∧ q_un ws u [kO0, kA2, kA3, kA4, kA5, kA6] ∧ u[kO0]? = (some (qO0, .inr (14, [.int 2, .ref qA1, .int 0, .ref qA2, .ref qA3, .ref qA4, .ref qA5, .ref qA6, .int 1, .long y2, .int 0, .int 0, .ref qA7, .int 0, .ref qA8, .int 0, .ref qA9, .int 0, .ref qA10, .int 0, .int 2])) : Option (Nat × va_E)) ∧ u[kA2]? = (some (qA2, .inl (g 0, 10000, .inl (fun _ => 0))) : Option (Nat × va_E)) ∧ u[kA3]? = (some (qA3, .inl (g 0, 10, .inl (upd (upd (upd (upd (upd (upd (upd (upd (upd (upd (fun _ => 0) 0 1) 1 1) 2 1) 3 1) 4 1) 5 1) 6 1) 7 1) 8 1) 9 1))) : Option (Nat × va_E)) ∧ u[kA4]? = (some (qA4, .inl (g 3, 10, .inl (fun _ => 0))) : Option (Nat × va_E)) ∧ u[kA5]? = (some (qA5, .inl (g 0, 10, .inl (fun _ => 0))) : Option (Nat × va_E)) ∧ u[kA6]? = (some (qA6, .inl (g 0, 4400, .inl (fun _ => 0))) : Option (Nat × va_E))) ∨ (¬ (lg_cmp y2 (-10000)) < 0 ∧ (lg_cmp y2 10000) ≤ 0 ∧ q_un ws u [kO0, kA2, kA3, kA4, kA5, kA6] ∧ u[kO0]? = (some (qO0, .inr (14, [.int 0, .ref qA1, .int 0, .ref qA2, .ref qA3, .ref qA4, .ref qA5, .ref qA6, .int 1, .long y2, .int 0, .int 0, .ref qA7, .int 0, .ref qA8, .int 0, .ref qA9, .int 0, .ref qA10, .int 0, .int 2])) : Option (Nat × va_E)) ∧ u[kA2]? = (some (qA2, .inl (g 0, 10000, .inl (fun _ => 0))) : Option (Nat × va_E)) ∧ u[kA3]? = (some (qA3, .inl (g 0, 10, .inl (upd (upd (upd (upd (upd (upd (upd (upd (upd (upd (upd (fun _ => 0) 0 1) 1 1) 2 1) 3 1) 4 1) 5 1) 6 1) 7 1) 8 1) 9 1) x1.toNatClampNeg 1))) : Option (Nat × va_E)) ∧ u[kA4]? = (some (qA4, .inl (g 3, 10, .inl (fun _ => 0))) : Option (Nat × va_E)) ∧ u[kA5]? = (some (qA5, .inl (g 0, 10, .inl (upd (fun _ => 0) x1.toNatClampNeg y2.toInt32))) : Option (Nat × va_E)) ∧ u[kA6]? = (some (qA6, .inl (g 0, 4400, .inl (fun _ => 0))) : Option (Nat × va_E))) ∨ (¬ (lg_cmp y2 (-10000)) < 0 ∧ ¬ (lg_cmp y2 10000) ≤ 0 ∧ q_un ws u [kO0, kA2, kA3, kA4, kA5, kA6] ∧ u[kO0]? = (some (qO0, .inr (14, [.int 2, .ref qA1, .int 0, .ref qA2, .ref qA3, .ref qA4, .ref qA5, .ref qA6, .int 1, .long y2, .int 0, .int 0, .ref qA7, .int 0, .ref qA8, .int 0, .ref qA9, .int 0, .ref qA10, .int 0, .int 2])) : Option (Nat × va_E)) ∧ u[kA2]? = (some (qA2, .inl (g 0, 10000, .inl (fun _ => 0))) : Option (Nat × va_E)) ∧ u[kA3]? = (some (qA3, .inl (g 0, 10, .inl (upd (upd (upd (upd (upd (upd (upd (upd (upd (upd (fun _ => 0) 0 1) 1 1) 2 1) 3 1) 4 1) 5 1) 6 1) 7 1) 8 1) 9 1))) : Option (Nat × va_E)) ∧ u[kA4]? = (some (qA4, .inl (g 3, 10, .inl (fun _ => 0))) : Option (Nat × va_E)) ∧ u[kA5]? = (some (qA5, .inl (g 0, 10, .inl (fun _ => 0))) : Option (Nat × va_E)) ∧ u[kA6]? = (some (qA6, .inl (g 0, 4400, .inl (fun _ => 0))) : Option (Nat × va_E)))) := by
  intro sz
  refine q_into (by decide) (Nat.le_of_ble_eq_true rfl) ?_
  intro p e s m below meth c ls hsz C0 V hl
  have hx := C0.1
  have hb := C0.2.1
  have hl : lv_has ls 3 [(0, .ref qO0), (1, .int x1)] := hl
  have n_A2_O0 := q_df hA2 hO0
  have n_A3_A2 := Ne.symm n_A2_A3
  have n_A3_O0 := q_df hA3 hO0
  have n_A4_A2 := Ne.symm n_A2_A4
  have n_A4_A3 := Ne.symm n_A3_A4
  have n_A4_O0 := q_df hA4 hO0
  have n_A5_A2 := Ne.symm n_A2_A5
  have n_A5_A3 := Ne.symm n_A3_A5
  have n_A5_A4 := Ne.symm n_A4_A5
  have n_A5_O0 := q_df hA5 hO0
  have n_A6_A2 := Ne.symm n_A2_A6
  have n_A6_A3 := Ne.symm n_A3_A6
  have n_A6_A4 := Ne.symm n_A4_A6
  have n_A6_A5 := Ne.symm n_A5_A6
  have n_A6_O0 := q_df hA6 hO0
  have n_O0_A2 := Ne.symm (q_df hA2 hO0)
  have n_O0_A3 := Ne.symm (q_df hA3 hO0)
  have n_O0_A4 := Ne.symm (q_df hA4 hO0)
  have n_O0_A5 := Ne.symm (q_df hA5 hO0)
  have hF : q_un ws ws [kO0, kA2, kA3, kA4, kA5, kA6] := q_u0
  refine lv_aload_n hx hb d_15_8_0 rfl (lv_at hl 0 rfl) ?_
  refine q_gov V (q_runV (As := []) (rest := []) (d := 1) (mc := 0) (ms := 0) (ci := 14) C0 V rfl LV_DR_59 (c_DR_trim_3 l D g ws kO0 kA6 qO0 qA1 qA2 qA3 qA4 qA5 qA6 qA7 qA8 qA9 qA10 y2 hO0 hA6 _) rfl rfl hO0 rfl hl.1 rfl (Nat.le_of_ble_eq_true rfl) ⟨by decide, by decide⟩ ⟨Nat.le_of_ble_eq_true rfl, Nat.le_of_ble_eq_true rfl⟩ d_15_8_1) (fun u2 H locs hp1 V => ?_)
  obtain ⟨hg3, hO0, hA6⟩ := hp1
  replace hF := q_uc hF hg3 (q_sc (.head _) (q_sc (List.mem_of_getElem? (i := 5) rfl) (fun _ h => absurd h List.not_mem_nil)))
  refine lv_aload_n hx hb d_15_8_4 rfl (lv_at hl 0 rfl) ?_
  refine q_get (ci := 14) (j := 8) (v := .int 1) C0 V i_DR rfl rfl hO0 (by decide) w_2011 rfl d_15_8_5 ?_
  refine lv_sipush (v := 1000) hx hb d_15_8_8 (by decide) ?_
  refine lv_icmp_gt (tgt := 36) hx hb d_15_8_11 (by decide) (fun c4 => absurd c4 (by decide)) (fun c4 => ?_)
  refine lv_aload_n hx hb d_15_8_14 rfl (lv_at hl 0 rfl) ?_
  refine q_get (ci := 14) (j := 9) (v := .long y2) C0 V i_DR rfl rfl hO0 (by decide) w_2012 rfl d_15_8_15 ?_
  refine q_ldc2 C0 rfl w_2417 d_15_8_18 ?_
  refine W.lcmp hx hb d_15_8_21 ?_
  refine lv_if_lt (tgt := 36) hx hb d_15_8_22 (by decide) (fun c5 => ?_) (fun c5 => ?_)
  ·
    refine lv_aload_n hx hb d_15_8_36 rfl (lv_at hl 0 rfl) ?_
    refine lv_aload_n hx hb d_15_8_37 rfl (lv_at hl 0 rfl) ?_
    refine q_get (ci := 14) (j := 20) (v := .int 2) C0 V i_DR rfl rfl hO0 (by decide) w_2024 rfl d_15_8_38 ?_
    refine q_put (ci := 14) (j := 0) (v := .int 2) (ty := .int) C0 V i_DR o_DR n_DR rfl rfl hO0 (by decide) w_1996 rfl rfl rfl rfl (Nat.le_of_ble_eq_true rfl) d_15_8_41 (fun H locs w6 hu7 hO0 V => ?_)
    replace hO0 : w6[kO0]? = (some (qO0, .inr (14, [.int 2, .ref qA1, .int 0, .ref qA2, .ref qA3, .ref qA4, .ref qA5, .ref qA6, .int 1, .long y2, .int 0, .int 0, .ref qA7, .int 0, .ref qA8, .int 0, .ref qA9, .int 0, .ref qA10, .int 0, .int 2])) : Option (Nat × va_E)) := hO0
    replace hF := q_us hF hu7 (.head _)
    replace hA2 := (hu7 _ n_A2_O0).trans ((hg3 _ (q_nc n_A2_O0 (q_nc n_A2_A6 List.not_mem_nil))).trans (hA2))
    replace hA3 := (hu7 _ n_A3_O0).trans ((hg3 _ (q_nc n_A3_O0 (q_nc n_A3_A6 List.not_mem_nil))).trans (hA3))
    replace hA4 := (hu7 _ n_A4_O0).trans ((hg3 _ (q_nc n_A4_O0 (q_nc n_A4_A6 List.not_mem_nil))).trans (hA4))
    replace hA5 := (hu7 _ n_A5_O0).trans ((hg3 _ (q_nc n_A5_O0 (q_nc n_A5_A6 List.not_mem_nil))).trans (hA5))
    replace hA6 := (hu7 _ n_A6_O0).trans (hA6)
    exact q_retv C0 V (Or.inl ⟨c5, hF, hO0, hA2, hA3, hA4, hA5, hA6⟩) d_15_8_44
  ·
    refine lv_aload_n hx hb d_15_8_25 rfl (lv_at hl 0 rfl) ?_
    refine q_get (ci := 14) (j := 9) (v := .long y2) C0 V i_DR rfl rfl hO0 (by decide) w_2012 rfl d_15_8_26 ?_
    refine q_ldc2 C0 rfl w_2418 d_15_8_29 ?_
    refine W.lcmp hx hb d_15_8_32 ?_
    refine lv_if_le (tgt := 45) hx hb d_15_8_33 (by decide) (fun c8 => ?_) (fun c8 => ?_)
    ·
      refine lv_iconst (v := 0) hx hb d_15_8_45 (by decide) ?_
      refine lv_istore_n (lv' := [(2, .int 0), (0, .ref qO0), (1, .int x1)]) hx hb d_15_8_46 rfl hl (by decide) rfl (fun ls hl => ?_)
      refine lv_iload_n hx hb d_15_8_47 rfl (lv_at hl 0 rfl) ?_
      refine lv_aload_n hx hb d_15_8_48 rfl (lv_at hl 1 rfl) ?_
      refine q_get (ci := 14) (j := 8) (v := .int 1) C0 V i_DR rfl rfl hO0 (by decide) w_2011 rfl d_15_8_49 ?_
      refine lv_icmp_ge (tgt := 79) hx hb d_15_8_52 (by decide) (fun c9 => absurd c9 (by decide)) (fun c9 => ?_)
      refine lv_aload_n hx hb d_15_8_55 rfl (lv_at hl 1 rfl) ?_
      refine q_get (ci := 14) (j := 3) (v := .ref qA2) C0 V i_DR rfl rfl hO0 (by decide) w_2002 rfl d_15_8_56 ?_
      refine lv_sipush (v := 1000) hx hb d_15_8_59 (by decide) ?_
      refine lv_iload_n hx hb d_15_8_62 rfl (lv_at hl 2 rfl) ?_
      refine lv_imul hx hb d_15_8_63 ?_
      refine lv_iload_n hx hb d_15_8_64 rfl (lv_at hl 0 rfl) ?_
      refine lv_iadd hx hb d_15_8_65 ?_
      refine q_ti (v := 1000 * x1) (by simp) ?_
      refine lv_aload_n hx hb d_15_8_66 rfl (lv_at hl 1 rfl) ?_
      refine q_get (ci := 14) (j := 7) (v := .ref qA6) C0 V i_DR rfl rfl hO0 (by decide) w_2010 rfl d_15_8_67 ?_
      refine lv_iload_n hx hb d_15_8_70 rfl (lv_at hl 0 rfl) ?_
      refine q_iald C0 V hA6 (by unfold vp_in; decide) d_15_8_71 ?_
      refine q_ti (v := 0) (by first | rfl | decide | simp [upd, vp_updL, sb_cl0]) ?_
      replace hA2 := (hg3 _ (q_nc n_A2_O0 (q_nc n_A2_A6 List.not_mem_nil))).trans (hA2)
      refine q_iast C0 V hA2 (q_ix (x := (1000 * x1.toInt)) (q_mulI (x := 1000) (y := x1.toInt) (by decide) rfl (by have t1 : 0 ≤ x1.toInt := q_leI x1lo; have t2 : x1.toInt ≤ 9 := q_leI x1hi; omega) (by have t1 : 0 ≤ x1.toInt := q_leI x1lo; have t2 : x1.toInt ≤ 9 := q_leI x1hi; omega)) (by have t1 : 0 ≤ x1.toInt := q_leI x1lo; have t2 : x1.toInt ≤ 9 := q_leI x1hi; omega) (by have t1 : 0 ≤ x1.toInt := q_leI x1lo; have t2 : x1.toInt ≤ 9 := q_leI x1hi; omega)) d_15_8_72 (fun H locs w10 hu11 hA2 V => ?_)
      replace hA2 := q_re (y := (qA2, .inl (g 0, 10000, .inl (fun _ => 0)))) hA2 (q_eI q_upd0)
      replace hA2 : w10[kA2]? = (some (qA2, .inl (g 0, 10000, .inl (fun _ => 0))) : Option (Nat × va_E)) := hA2
      replace hF := q_us hF hu11 (.tail _ (.head _))
      refine lv_iinc (v := 1) (lv' := [(2, .int 1), (0, .ref qO0), (1, .int x1)]) hx hb d_15_8_73 hl (k := 0) rfl (by decide) (by decide) rfl (fun ls hl => ?_)
      refine lv_goto (tgt := 47) hx hb d_15_8_76 (by decide) ?_
      refine lv_iload_n hx hb d_15_8_47 rfl (lv_at hl 0 rfl) ?_
      refine lv_aload_n hx hb d_15_8_48 rfl (lv_at hl 1 rfl) ?_
      replace hO0 := (hu11 _ n_O0_A2).trans (hO0)
      refine q_get (ci := 14) (j := 8) (v := .int 1) C0 V i_DR rfl rfl hO0 (by decide) w_2011 rfl d_15_8_49 ?_
      refine lv_icmp_ge (tgt := 79) hx hb d_15_8_52 (by decide) (fun c12 => ?_) (fun c12 => absurd (by decide) c12)
      refine lv_aload_n hx hb d_15_8_79 rfl (lv_at hl 1 rfl) ?_
      refine q_get (ci := 14) (j := 4) (v := .ref qA3) C0 V i_DR rfl rfl hO0 (by decide) w_2004 rfl d_15_8_80 ?_
      refine lv_iload_n hx hb d_15_8_83 rfl (lv_at hl 2 rfl) ?_
      refine lv_aload_n hx hb d_15_8_84 rfl (lv_at hl 1 rfl) ?_
      refine q_get (ci := 14) (j := 8) (v := .int 1) C0 V i_DR rfl rfl hO0 (by decide) w_2011 rfl d_15_8_85 ?_
      replace hA3 := (hu11 _ n_A3_A2).trans ((hg3 _ (q_nc n_A3_O0 (q_nc n_A3_A6 List.not_mem_nil))).trans (hA3))
      refine q_iast C0 V hA3 (q_ix (x := x1.toInt) rfl (by have t1 : 0 ≤ x1.toInt := q_leI x1lo; have t2 : x1.toInt ≤ 9 := q_leI x1hi; omega) (by have t1 : 0 ≤ x1.toInt := q_leI x1lo; have t2 : x1.toInt ≤ 9 := q_leI x1hi; omega)) d_15_8_88 (fun H locs w13 hu14 hA3 V => ?_)
      replace hA3 : w13[kA3]? = (some (qA3, .inl (g 0, 10, .inl (upd (upd (upd (upd (upd (upd (upd (upd (upd (upd (upd (fun _ => 0) 0 1) 1 1) 2 1) 3 1) 4 1) 5 1) 6 1) 7 1) 8 1) 9 1) x1.toNatClampNeg 1))) : Option (Nat × va_E)) := hA3
      replace hF := q_us hF hu14 (.tail _ (.tail _ (.head _)))
      refine lv_aload_n hx hb d_15_8_89 rfl (lv_at hl 1 rfl) ?_
      replace hO0 := (hu14 _ n_O0_A3).trans (hO0)
      refine q_get (ci := 14) (j := 5) (v := .ref qA4) C0 V i_DR rfl rfl hO0 (by decide) w_2006 rfl d_15_8_90 ?_
      refine lv_iload_n hx hb d_15_8_93 rfl (lv_at hl 2 rfl) ?_
      refine lv_aload_n hx hb d_15_8_94 rfl (lv_at hl 1 rfl) ?_
      refine q_get (ci := 14) (j := 11) (v := .int 0) C0 V i_DR rfl rfl hO0 (by decide) w_2014 rfl d_15_8_95 ?_
      replace hA4 := (hu14 _ n_A4_A3).trans ((hu11 _ n_A4_A2).trans ((hg3 _ (q_nc n_A4_O0 (q_nc n_A4_A6 List.not_mem_nil))).trans (hA4)))
      refine q_zast C0 V hA4 (q_ix (x := x1.toInt) rfl (by have t1 : 0 ≤ x1.toInt := q_leI x1lo; have t2 : x1.toInt ≤ 9 := q_leI x1hi; omega) (by have t1 : 0 ≤ x1.toInt := q_leI x1lo; have t2 : x1.toInt ≤ 9 := q_leI x1hi; omega)) d_15_8_98 (fun H locs w15 hu16 hA4 V => ?_)
      replace hA4 := q_re (y := (qA4, .inl (g 3, 10, .inl (fun _ => 0)))) hA4 (q_eI q_upd0)
      replace hA4 : w15[kA4]? = (some (qA4, .inl (g 3, 10, .inl (fun _ => 0))) : Option (Nat × va_E)) := hA4
      replace hF := q_us hF hu16 (List.mem_of_getElem? (i := 3) rfl)
      refine lv_aload_n hx hb d_15_8_99 rfl (lv_at hl 1 rfl) ?_
      replace hO0 := (hu16 _ n_O0_A4).trans (hO0)
      refine q_get (ci := 14) (j := 6) (v := .ref qA5) C0 V i_DR rfl rfl hO0 (by decide) w_2008 rfl d_15_8_100 ?_
      refine lv_iload_n hx hb d_15_8_103 rfl (lv_at hl 2 rfl) ?_
      refine lv_aload_n hx hb d_15_8_104 rfl (lv_at hl 1 rfl) ?_
      refine q_get (ci := 14) (j := 9) (v := .long y2) C0 V i_DR rfl rfl hO0 (by decide) w_2012 rfl d_15_8_105 ?_
      refine lv_l2i hx hb d_15_8_108 rfl ?_
      replace hA5 := (hu16 _ n_A5_A4).trans ((hu14 _ n_A5_A3).trans ((hu11 _ n_A5_A2).trans ((hg3 _ (q_nc n_A5_O0 (q_nc n_A5_A6 List.not_mem_nil))).trans (hA5))))
      refine q_iast C0 V hA5 (q_ix (x := x1.toInt) rfl (by have t1 : 0 ≤ x1.toInt := q_leI x1lo; have t2 : x1.toInt ≤ 9 := q_leI x1hi; omega) (by have t1 : 0 ≤ x1.toInt := q_leI x1lo; have t2 : x1.toInt ≤ 9 := q_leI x1hi; omega)) d_15_8_109 (fun H locs w17 hu18 hA5 V => ?_)
      replace hA5 : w17[kA5]? = (some (qA5, .inl (g 0, 10, .inl (upd (fun _ => 0) x1.toNatClampNeg y2.toInt32))) : Option (Nat × va_E)) := hA5
      replace hF := q_us hF hu18 (List.mem_of_getElem? (i := 4) rfl)
      replace hO0 := (hu18 _ n_O0_A5).trans (hO0)
      replace hA2 := (hu18 _ n_A2_A5).trans ((hu16 _ n_A2_A4).trans ((hu14 _ n_A2_A3).trans (hA2)))
      replace hA3 := (hu18 _ n_A3_A5).trans ((hu16 _ n_A3_A4).trans (hA3))
      replace hA4 := (hu18 _ n_A4_A5).trans (hA4)
      replace hA6 := (hu18 _ n_A6_A5).trans ((hu16 _ n_A6_A4).trans ((hu14 _ n_A6_A3).trans ((hu11 _ n_A6_A2).trans (hA6))))
      exact q_retv C0 V (Or.inr (Or.inl ⟨c5, c8, hF, hO0, hA2, hA3, hA4, hA5, hA6⟩)) d_15_8_110
    ·
      refine lv_aload_n hx hb d_15_8_36 rfl (lv_at hl 0 rfl) ?_
      refine lv_aload_n hx hb d_15_8_37 rfl (lv_at hl 0 rfl) ?_
      refine q_get (ci := 14) (j := 20) (v := .int 2) C0 V i_DR rfl rfl hO0 (by decide) w_2024 rfl d_15_8_38 ?_
      refine q_put (ci := 14) (j := 0) (v := .int 2) (ty := .int) C0 V i_DR o_DR n_DR rfl rfl hO0 (by decide) w_1996 rfl rfl rfl rfl (Nat.le_of_ble_eq_true rfl) d_15_8_41 (fun H locs w19 hu20 hO0 V => ?_)
      replace hO0 : w19[kO0]? = (some (qO0, .inr (14, [.int 2, .ref qA1, .int 0, .ref qA2, .ref qA3, .ref qA4, .ref qA5, .ref qA6, .int 1, .long y2, .int 0, .int 0, .ref qA7, .int 0, .ref qA8, .int 0, .ref qA9, .int 0, .ref qA10, .int 0, .int 2])) : Option (Nat × va_E)) := hO0
      replace hF := q_us hF hu20 (.head _)
      replace hA2 := (hu20 _ n_A2_O0).trans ((hg3 _ (q_nc n_A2_O0 (q_nc n_A2_A6 List.not_mem_nil))).trans (hA2))
      replace hA3 := (hu20 _ n_A3_O0).trans ((hg3 _ (q_nc n_A3_O0 (q_nc n_A3_A6 List.not_mem_nil))).trans (hA3))
      replace hA4 := (hu20 _ n_A4_O0).trans ((hg3 _ (q_nc n_A4_O0 (q_nc n_A4_A6 List.not_mem_nil))).trans (hA4))
      replace hA5 := (hu20 _ n_A5_O0).trans ((hg3 _ (q_nc n_A5_O0 (q_nc n_A5_A6 List.not_mem_nil))).trans (hA5))
      replace hA6 := (hu20 _ n_A6_O0).trans (hA6)
      exact q_retv C0 V (Or.inr (Or.inr (⟨c5, c8, hF, hO0, hA2, hA3, hA4, hA5, hA6⟩))) d_15_8_44
theorem d_15_46_0 : decode prog_15_method_46_code 0 = .ok (.aload_n 0, 1) := by decide +kernel
theorem d_15_46_1 : decode prog_15_method_46_code 1 = .ok (.iload_n 1, 1) := by decide +kernel
theorem d_15_46_2 : decode prog_15_method_46_code 2 = .ok (.invokestatic 113, 3) := by decide +kernel
theorem d_15_46_5 : decode prog_15_method_46_code 5 = .ok (.ifCond .ne 10, 3) := by decide +kernel
theorem d_15_46_8 : decode prog_15_method_46_code 8 = .ok (.iload_n 2, 1) := by decide +kernel
theorem d_15_46_9 : decode prog_15_method_46_code 9 = .ok (.invokestatic 113, 3) := by decide +kernel
theorem d_15_46_12 : decode prog_15_method_46_code 12 = .ok (.ifCond .eq 7, 3) := by decide +kernel
theorem d_15_46_19 : decode prog_15_method_46_code 19 = .ok (.iconst 0, 1) := by decide +kernel
theorem d_15_46_20 : decode prog_15_method_46_code 20 = .ok (.putfield 41, 3) := by decide +kernel
theorem d_15_46_23 : decode prog_15_method_46_code 23 = .ok (.aload_n 0, 1) := by decide +kernel
theorem d_15_46_24 : decode prog_15_method_46_code 24 = .ok (.getfield 41, 3) := by decide +kernel
theorem d_15_46_27 : decode prog_15_method_46_code 27 = .ok (.ifCond .ne 29, 3) := by decide +kernel
theorem d_15_46_30 : decode prog_15_method_46_code 30 = .ok (.aload_n 0, 1) := by decide +kernel
theorem d_15_46_31 : decode prog_15_method_46_code 31 = .ok (.iconst 2, 1) := by decide +kernel
theorem d_15_46_32 : decode prog_15_method_46_code 32 = .ok (.putfield 66, 3) := by decide +kernel
theorem d_15_46_35 : decode prog_15_method_46_code 35 = .ok (.aload_n 0, 1) := by decide +kernel
theorem d_15_46_36 : decode prog_15_method_46_code 36 = .ok (.iload_n 1, 1) := by decide +kernel
theorem d_15_46_37 : decode prog_15_method_46_code 37 = .ok (.invokevirtual 132, 3) := by decide +kernel
theorem d_15_46_40 : decode prog_15_method_46_code 40 = .ok (.aload_n 0, 1) := by decide +kernel
theorem d_15_46_41 : decode prog_15_method_46_code 41 = .ok (.aload_n 0, 1) := by decide +kernel
theorem d_15_46_42 : decode prog_15_method_46_code 42 = .ok (.getfield 48, 3) := by decide +kernel
theorem d_15_46_45 : decode prog_15_method_46_code 45 = .ok (.iload_n 3, 1) := by decide +kernel
theorem d_15_46_46 : decode prog_15_method_46_code 46 = .ok (.i2l, 1) := by decide +kernel
theorem d_15_46_47 : decode prog_15_method_46_code 47 = .ok (.lsub, 1) := by decide +kernel
theorem d_15_46_48 : decode prog_15_method_46_code 48 = .ok (.putfield 48, 3) := by decide +kernel
theorem d_15_46_51 : decode prog_15_method_46_code 51 = .ok (.aload_n 0, 1) := by decide +kernel
theorem d_15_46_52 : decode prog_15_method_46_code 52 = .ok (.iload_n 2, 1) := by decide +kernel
theorem d_15_46_53 : decode prog_15_method_46_code 53 = .ok (.invokevirtual 89, 3) := by decide +kernel
theorem d_15_46_56 : decode prog_15_method_46_code 56 = .ok (.return_, 1) := by decide +kernel
def y_DR_shift : MethodName := ⟨"NumberHouseModel$DecimalRows", "shift", "(III)V"⟩
set_option maxRecDepth 100000 in
set_option maxHeartbeats 4000000 in
theorem c_DR_shift (l : Launch) (D : va_G) (g : Nat → ClassId) (ws : va_W) (kO0 kA2 kA3 kA4 kA5 kA6 qO0 qA1 qA2 qA3 qA4 qA5 qA6 qA7 qA8 qA9 qA10 : Nat) (x1 : Int32) (x2 : Int32) (x3 : Int32) (hO0 : ws[kO0]? = (some (qO0, .inr (14, [.int 0, .ref qA1, .int 0, .ref qA2, .ref qA3, .ref qA4, .ref qA5, .ref qA6, .int 0, .long 0, .int 0, .int 0, .ref qA7, .int 0, .ref qA8, .int 0, .ref qA9, .int 0, .ref qA10, .int 0, .int 0])) : Option (Nat × va_E))) (hA2 : ws[kA2]? = (some (qA2, .inl (g 0, 10000, .inl (fun _ => 0))) : Option (Nat × va_E))) (hA3 : ws[kA3]? = (some (qA3, .inl (g 0, 10, .inl (upd (upd (upd (upd (upd (upd (upd (upd (upd (upd (fun _ => 0) 0 1) 1 1) 2 1) 3 1) 4 1) 5 1) 6 1) 7 1) 8 1) 9 1))) : Option (Nat × va_E))) (hA4 : ws[kA4]? = (some (qA4, .inl (g 3, 10, .inl (fun _ => 0))) : Option (Nat × va_E))) (hA5 : ws[kA5]? = (some (qA5, .inl (g 0, 10, .inl (fun _ => 0))) : Option (Nat × va_E))) (hA6 : ws[kA6]? = (some (qA6, .inl (g 0, 4400, .inl (fun _ => 0))) : Option (Nat × va_E))) (n_A2_A3 : kA2 ≠ kA3) (n_A2_A4 : kA2 ≠ kA4) (n_A2_A5 : kA2 ≠ kA5) (n_A2_A6 : kA2 ≠ kA6) (n_A3_A4 : kA3 ≠ kA4) (n_A3_A5 : kA3 ≠ kA5) (n_A3_A6 : kA3 ≠ kA6) (n_A4_A5 : kA4 ≠ kA5) (n_A4_A6 : kA4 ≠ kA6) (n_A5_A6 : kA5 ≠ kA6) (x1lo : 0 ≤ x1) (x1hi : x1 ≤ 9) (x2lo : 0 ≤ x2) (x2hi : x2 ≤ 9) : q_mV l y_DR_shift prog_15_method_46_code 4 3 0 0 D g [.ref qO0, .int x1, .int x2, .int x3] ws (fun u => ((lg_cmp (0 - x3.toInt64) (-10000)) < 0 ∧ q_un ws u [kO0, kA2, kA3, kA4, kA5, kA6] ∧ u[kO0]? = (some (qO0, .inr (14, [.int 2, .ref qA1, .int 0, .ref qA2, .ref qA3, .ref qA4, .ref qA5, .ref qA6, .int 1, .long (0 - x3.toInt64), .int 0, .int 0, .ref qA7, .int 0, .ref qA8, .int 0, .ref qA9, .int 0, .ref qA10, .int 0, .int 2])) : Option (Nat × va_E)) ∧ u[kA2]? = (some (qA2, .inl (g 0, 10000, .inl (fun _ => 0))) : Option (Nat × va_E)) ∧ u[kA3]? = (some (qA3, .inl (g 0, 10, .inl (upd (upd (upd (upd (upd (upd (upd (upd (upd (upd (fun _ => 0) 0 1) 1 1) 2 1) 3 1) 4 1) 5 1) 6 1) 7 1) 8 1) 9 1))) : Option (Nat × va_E)) ∧ u[kA4]? = (some (qA4, .inl (g 3, 10, .inl (fun _ => 0))) : Option (Nat × va_E)) ∧ u[kA5]? = (some (qA5, .inl (g 0, 10, .inl (fun _ => 0))) : Option (Nat × va_E)) ∧ u[kA6]? = (some (qA6, .inl (g 0, 4400, .inl (fun _ => 0))) : Option (Nat × va_E))) ∨ (¬ (lg_cmp (0 - x3.toInt64) (-10000)) < 0 ∧ (lg_cmp (0 - x3.toInt64) 10000) ≤ 0 ∧ q_un ws u [kO0, kA2, kA3, kA4, kA5, kA6] ∧ u[kO0]? = (some (qO0, .inr (14, [.int 0, .ref qA1, .int 0, .ref qA2, .ref qA3, .ref qA4, .ref qA5, .ref qA6, .int 1, .long (0 - x3.toInt64), .int 0, .int 0, .ref qA7, .int 0, .ref qA8, .int 0, .ref qA9, .int 0, .ref qA10, .int 0, .int 2])) : Option (Nat × va_E)) ∧ u[kA2]? = (some (qA2, .inl (g 0, 10000, .inl (fun _ => 0))) : Option (Nat × va_E)) ∧ u[kA3]? = (some (qA3, .inl (g 0, 10, .inl (upd (upd (upd (upd (upd (upd (upd (upd (upd (upd (upd (fun _ => 0) 0 1) 1 1) 2 1) 3 1) 4 1) 5 1) 6 1) 7 1) 8 1) 9 1) x2.toNatClampNeg 1))) : Option (Nat × va_E)) ∧ u[kA4]? = (some (qA4, .inl (g 3, 10, .inl (fun _ => 0))) : Option (Nat × va_E)) ∧ u[kA5]? = (some (qA5, .inl (g 0, 10, .inl (upd (fun _ => 0) x2.toNatClampNeg (0 - x3.toInt64).toInt32))) : Option (Nat × va_E)) ∧ u[kA6]? = (some (qA6, .inl (g 0, 4400, .inl (fun _ => 0))) : Option (Nat × va_E))) ∨ (¬ (lg_cmp (0 - x3.toInt64) (-10000)) < 0 ∧ ¬ (lg_cmp (0 - x3.toInt64) 10000) ≤ 0 ∧ q_un ws u [kO0, kA2, kA3, kA4, kA5, kA6] ∧ u[kO0]? = (some (qO0, .inr (14, [.int 2, .ref qA1, .int 0, .ref qA2, .ref qA3, .ref qA4, .ref qA5, .ref qA6, .int 1, .long (0 - x3.toInt64), .int 0, .int 0, .ref qA7, .int 0, .ref qA8, .int 0, .ref qA9, .int 0, .ref qA10, .int 0, .int 2])) : Option (Nat × va_E)) ∧ u[kA2]? = (some (qA2, .inl (g 0, 10000, .inl (fun _ => 0))) : Option (Nat × va_E)) ∧ u[kA3]? = (some (qA3, .inl (g 0, 10, .inl (upd (upd (upd (upd (upd (upd (upd (upd (upd (upd (fun _ => 0) 0 1) 1 1) 2 1) 3 1) 4 1) 5 1) 6 1) 7 1) 8 1) 9 1))) : Option (Nat × va_E)) ∧ u[kA4]? = (some (qA4, .inl (g 3, 10, .inl (fun _ => 0))) : Option (Nat × va_E)) ∧ u[kA5]? = (some (qA5, .inl (g 0, 10, .inl (fun _ => 0))) : Option (Nat × va_E)) ∧ u[kA6]? = (some (qA6, .inl (g 0, 4400, .inl (fun _ => 0))) : Option (Nat × va_E)))) := by
  intro sz
  refine q_into (by decide) (Nat.le_of_ble_eq_true rfl) ?_
  intro p e s m below meth c ls hsz C0 V hl
  have hx := C0.1
  have hb := C0.2.1
  have hl : lv_has ls 4 [(0, .ref qO0), (1, .int x1), (2, .int x2), (3, .int x3)] := hl
  have n_A2_O0 := q_df hA2 hO0
  have n_A3_O0 := q_df hA3 hO0
  have n_A4_O0 := q_df hA4 hO0
  have n_A5_O0 := q_df hA5 hO0
  have n_A6_O0 := q_df hA6 hO0
  have hF : q_un ws ws [kO0, kA2, kA3, kA4, kA5, kA6] := q_u0
  refine lv_aload_n hx hb d_15_46_0 rfl (lv_at hl 0 rfl) ?_
  refine lv_iload_n hx hb d_15_46_1 rfl (lv_at hl 1 rfl) ?_
  refine q_goi V (q_runS (As := [.int x1]) (rest := [.ref qO0]) (d := 1) (mc := 0) (ms := 0) C0 V rfl LS_DR_113 (c_DR_no l D g ws x1 x1lo x1hi _) rfl hl.1 rfl (Nat.le_of_ble_eq_true rfl) ⟨by decide, by decide⟩ ⟨Nat.le_of_ble_eq_true rfl, Nat.le_of_ble_eq_true rfl⟩ d_15_46_2) (fun v3 u2 H locs hp1 V => ?_)
  obtain ⟨rfl, rfl⟩ := hp1
  refine lv_if_ne (tgt := 15) hx hb d_15_46_5 (by decide) (fun c5 => absurd (by decide) c5) (fun c5 => ?_)
  refine lv_iload_n hx hb d_15_46_8 rfl (lv_at hl 2 rfl) ?_
  refine q_goi V (q_runS (As := [.int x2]) (rest := [.ref qO0]) (d := 1) (mc := 0) (ms := 0) C0 V rfl LS_DR_113 (c_DR_no l D g ws x2 x2lo x2hi _) rfl hl.1 rfl (Nat.le_of_ble_eq_true rfl) ⟨by decide, by decide⟩ ⟨Nat.le_of_ble_eq_true rfl, Nat.le_of_ble_eq_true rfl⟩ d_15_46_9) (fun v8 u7 H locs hp6 V => ?_)
  obtain ⟨rfl, rfl⟩ := hp6
  refine lv_if_eq (tgt := 19) hx hb d_15_46_12 (by decide) (fun c10 => ?_) (fun c10 => absurd (by decide) c10)
  refine lv_iconst (v := 0) hx hb d_15_46_19 (by decide) ?_
  refine q_put (ci := 14) (j := 0) (v := .int 0) (ty := .int) C0 V i_DR o_DR n_DR rfl rfl hO0 (by decide) w_1996 rfl rfl rfl rfl (Nat.le_of_ble_eq_true rfl) d_15_46_20 (fun H locs w11 hu12 hO0 V => ?_)
  replace hO0 : w11[kO0]? = (some (qO0, .inr (14, [.int 0, .ref qA1, .int 0, .ref qA2, .ref qA3, .ref qA4, .ref qA5, .ref qA6, .int 0, .long 0, .int 0, .int 0, .ref qA7, .int 0, .ref qA8, .int 0, .ref qA9, .int 0, .ref qA10, .int 0, .int 0])) : Option (Nat × va_E)) := hO0
  replace hF := q_us hF hu12 (.head _)
  refine lv_aload_n hx hb d_15_46_23 rfl (lv_at hl 0 rfl) ?_
  refine q_get (ci := 14) (j := 0) (v := .int 0) C0 V i_DR rfl rfl hO0 (by decide) w_1996 rfl d_15_46_24 ?_
  refine lv_if_ne (tgt := 56) hx hb d_15_46_27 (by decide) (fun c13 => absurd (by decide) c13) (fun c13 => ?_)
  refine lv_aload_n hx hb d_15_46_30 rfl (lv_at hl 0 rfl) ?_
  refine lv_iconst (v := 2) hx hb d_15_46_31 (by decide) ?_
  refine q_put (ci := 14) (j := 20) (v := .int 2) (ty := .int) C0 V i_DR o_DR n_DR rfl rfl hO0 (by decide) w_2024 rfl rfl rfl rfl (Nat.le_of_ble_eq_true rfl) d_15_46_32 (fun H locs w14 hu15 hO0 V => ?_)
  replace hO0 : w14[kO0]? = (some (qO0, .inr (14, [.int 0, .ref qA1, .int 0, .ref qA2, .ref qA3, .ref qA4, .ref qA5, .ref qA6, .int 0, .long 0, .int 0, .int 0, .ref qA7, .int 0, .ref qA8, .int 0, .ref qA9, .int 0, .ref qA10, .int 0, .int 2])) : Option (Nat × va_E)) := hO0
  replace hF := q_us hF hu15 (.head _)
  refine lv_aload_n hx hb d_15_46_35 rfl (lv_at hl 0 rfl) ?_
  refine lv_iload_n hx hb d_15_46_36 rfl (lv_at hl 1 rfl) ?_
  replace hA2 := (hu15 _ n_A2_O0).trans ((hu12 _ n_A2_O0).trans (hA2))
  replace hA3 := (hu15 _ n_A3_O0).trans ((hu12 _ n_A3_O0).trans (hA3))
  replace hA4 := (hu15 _ n_A4_O0).trans ((hu12 _ n_A4_O0).trans (hA4))
  replace hA5 := (hu15 _ n_A5_O0).trans ((hu12 _ n_A5_O0).trans (hA5))
  replace hA6 := (hu15 _ n_A6_O0).trans ((hu12 _ n_A6_O0).trans (hA6))
  refine q_gov V (q_runV (As := [.int x1]) (rest := []) (d := 1) (mc := 0) (ms := 0) (ci := 14) C0 V rfl LV_DR_132 (c_DR_load l D g w14 kO0 kA2 kA3 kA4 kA5 kA6 qO0 qA1 qA2 qA3 qA4 qA5 qA6 qA7 qA8 qA9 qA10 x1 hO0 hA2 hA3 hA4 hA5 hA6 n_A2_A6 n_A3_A6 n_A4_A6 n_A5_A6 x1lo x1hi _) rfl rfl hO0 rfl hl.1 rfl (Nat.le_of_ble_eq_true rfl) ⟨by decide, by decide⟩ ⟨Nat.le_of_ble_eq_true rfl, Nat.le_of_ble_eq_true rfl⟩ d_15_46_37) (fun u17 H locs hp16 V => ?_)
  obtain ⟨hg18, hO0, hA6⟩ := hp16
  replace hF := q_uc hF hg18 (q_sc (.head _) (q_sc (List.mem_of_getElem? (i := 5) rfl) (fun _ h => absurd h List.not_mem_nil)))
  refine lv_aload_n hx hb d_15_46_40 rfl (lv_at hl 0 rfl) ?_
  refine lv_aload_n hx hb d_15_46_41 rfl (lv_at hl 0 rfl) ?_
  refine q_get (ci := 14) (j := 9) (v := .long 0) C0 V i_DR rfl rfl hO0 (by decide) w_2012 rfl d_15_46_42 ?_
  refine lv_iload_n hx hb d_15_46_45 rfl (lv_at hl 3 rfl) ?_
  refine lv_i2l hx hb d_15_46_46 rfl ?_
  refine lv_lsub hx hb d_15_46_47 ?_
  refine q_put (ci := 14) (j := 9) (v := .long (0 - x3.toInt64)) (ty := .long) C0 V i_DR o_DR n_DR rfl rfl hO0 (by decide) w_2012 rfl rfl rfl rfl (Nat.le_of_ble_eq_true rfl) d_15_46_48 (fun H locs w19 hu20 hO0 V => ?_)
  replace hO0 : w19[kO0]? = (some (qO0, .inr (14, [.int 0, .ref qA1, .int 0, .ref qA2, .ref qA3, .ref qA4, .ref qA5, .ref qA6, .int 1, .long (0 - x3.toInt64), .int 0, .int 0, .ref qA7, .int 0, .ref qA8, .int 0, .ref qA9, .int 0, .ref qA10, .int 0, .int 2])) : Option (Nat × va_E)) := hO0
  replace hF := q_us hF hu20 (.head _)
  refine lv_aload_n hx hb d_15_46_51 rfl (lv_at hl 0 rfl) ?_
  refine lv_iload_n hx hb d_15_46_52 rfl (lv_at hl 2 rfl) ?_
  replace hA2 := (hu20 _ n_A2_O0).trans ((hg18 _ (q_nc n_A2_O0 (q_nc n_A2_A6 List.not_mem_nil))).trans (hA2))
  replace hA3 := (hu20 _ n_A3_O0).trans ((hg18 _ (q_nc n_A3_O0 (q_nc n_A3_A6 List.not_mem_nil))).trans (hA3))
  replace hA4 := (hu20 _ n_A4_O0).trans ((hg18 _ (q_nc n_A4_O0 (q_nc n_A4_A6 List.not_mem_nil))).trans (hA4))
  replace hA5 := (hu20 _ n_A5_O0).trans ((hg18 _ (q_nc n_A5_O0 (q_nc n_A5_A6 List.not_mem_nil))).trans (hA5))
  replace hA6 := (hu20 _ n_A6_O0).trans (hA6)
  refine q_gov V (q_runV (As := [.int x2]) (rest := []) (d := 2) (mc := 0) (ms := 0) (ci := 14) C0 V rfl LV_DR_89 (c_DR_store_3 l D g w19 kO0 kA2 kA3 kA4 kA5 kA6 qO0 qA1 qA2 qA3 qA4 qA5 qA6 qA7 qA8 qA9 qA10 x2 (0 - x3.toInt64) hO0 hA2 hA3 hA4 hA5 hA6 n_A2_A3 n_A2_A4 n_A2_A5 n_A2_A6 n_A3_A4 n_A3_A5 n_A3_A6 n_A4_A5 n_A4_A6 n_A5_A6 x2lo x2hi _) rfl rfl hO0 rfl hl.1 rfl (Nat.le_of_ble_eq_true rfl) ⟨by decide, by decide⟩ ⟨Nat.le_of_ble_eq_true rfl, Nat.le_of_ble_eq_true rfl⟩ d_15_46_53) (fun u22 H locs hp21 V => ?_)
  rcases hp21 with ⟨c23, hg24, hO0, hA2, hA3, hA4, hA5, hA6⟩ | ⟨c25, c26, hg27, hO0, hA2, hA3, hA4, hA5, hA6⟩ | ⟨c28, c29, hg30, hO0, hA2, hA3, hA4, hA5, hA6⟩
  ·
    replace hF := q_uc hF hg24 (q_sc (.head _) (q_sc (.tail _ (.head _)) (q_sc (.tail _ (.tail _ (.head _))) (q_sc (List.mem_of_getElem? (i := 3) rfl) (q_sc (List.mem_of_getElem? (i := 4) rfl) (q_sc (List.mem_of_getElem? (i := 5) rfl) (fun _ h => absurd h List.not_mem_nil)))))))
    exact q_retv C0 V (Or.inl ⟨c23, hF, hO0, hA2, hA3, hA4, hA5, hA6⟩) d_15_46_56
  ·
    replace hF := q_uc hF hg27 (q_sc (.head _) (q_sc (.tail _ (.head _)) (q_sc (.tail _ (.tail _ (.head _))) (q_sc (List.mem_of_getElem? (i := 3) rfl) (q_sc (List.mem_of_getElem? (i := 4) rfl) (q_sc (List.mem_of_getElem? (i := 5) rfl) (fun _ h => absurd h List.not_mem_nil)))))))
    exact q_retv C0 V (Or.inr (Or.inl ⟨c25, c26, hF, hO0, hA2, hA3, hA4, hA5, hA6⟩)) d_15_46_56
  ·
    replace hF := q_uc hF hg30 (q_sc (.head _) (q_sc (.tail _ (.head _)) (q_sc (.tail _ (.tail _ (.head _))) (q_sc (List.mem_of_getElem? (i := 3) rfl) (q_sc (List.mem_of_getElem? (i := 4) rfl) (q_sc (List.mem_of_getElem? (i := 5) rfl) (fun _ h => absurd h List.not_mem_nil)))))))
    exact q_retv C0 V (Or.inr (Or.inr (⟨c28, c29, hF, hO0, hA2, hA3, hA4, hA5, hA6⟩))) d_15_46_56
set_option maxRecDepth 100000 in
set_option maxHeartbeats 4000000 in
theorem c_DR_trim_4 (l : Launch) (D : va_G) (g : Nat → ClassId) (ws : va_W) (kO0 kA6 qO0 qA1 qA2 qA3 qA4 qA5 qA6 qA7 qA8 qA9 qA10 : Nat) (hO0 : ws[kO0]? = (some (qO0, .inr (14, [.int 0, .ref qA1, .int 0, .ref qA2, .ref qA3, .ref qA4, .ref qA5, .ref qA6, .int 1, .long 0, .int 0, .int 0, .ref qA7, .int 0, .ref qA8, .int 0, .ref qA9, .int 0, .ref qA10, .int 0, .int 2])) : Option (Nat × va_E))) (hA6 : ws[kA6]? = (some (qA6, .inl (g 0, 4400, .inl (upd (fun _ => 0) 0 1))) : Option (Nat × va_E))) : q_mV l y_DR_trim prog_15_method_7_code 3 1 0 0 D g [.ref qO0] ws (fun u => q_un ws u [kO0, kA6] ∧ u[kO0]? = (some (qO0, .inr (14, [.int 0, .ref qA1, .int 0, .ref qA2, .ref qA3, .ref qA4, .ref qA5, .ref qA6, .int 1, .long 0, .int 0, .int 0, .ref qA7, .int 0, .ref qA8, .int 0, .ref qA9, .int 0, .ref qA10, .int 0, .int 2])) : Option (Nat × va_E)) ∧ u[kA6]? = (some (qA6, .inl (g 0, 4400, .inl (upd (fun _ => 0) 0 1))) : Option (Nat × va_E))) := by
  intro sz
  refine q_into (by decide) (Nat.le_of_ble_eq_true rfl) ?_
  intro p e s m below meth c ls hsz C0 V hl
  have hx := C0.1
  have hb := C0.2.1
  have hl : lv_has ls 3 [(0, .ref qO0)] := hl
  have n_A6_O0 := q_df hA6 hO0
  have n_O0_A6 := Ne.symm (q_df hA6 hO0)
  have hF : q_un ws ws [kO0, kA6] := q_u0
  refine lv_iconst (v := 0) hx hb d_15_7_0 (by decide) ?_
  refine lv_istore_n (lv' := [(1, .int 0), (0, .ref qO0)]) hx hb d_15_7_1 rfl hl (by decide) rfl (fun ls hl => ?_)
  refine lv_iload_n hx hb d_15_7_2 rfl (lv_at hl 0 rfl) ?_
  refine lv_iconst (v := 1) hx hb d_15_7_3 (by decide) ?_
  refine lv_iadd hx hb d_15_7_4 ?_
  refine q_ti (v := 1) (by decide) ?_
  refine lv_aload_n hx hb d_15_7_5 rfl (lv_at hl 1 rfl) ?_
  refine q_get (ci := 14) (j := 8) (v := .int 1) C0 V i_DR rfl rfl hO0 (by decide) w_2011 rfl d_15_7_6 ?_
  refine lv_icmp_ge (tgt := 27) hx hb d_15_7_9 (by decide) (fun c1 => ?_) (fun c1 => absurd (by decide) c1)
  refine lv_iconst (v := 0) hx hb d_15_7_27 (by decide) ?_
  refine lv_istore_n (lv' := [(2, .int 0), (1, .int 0), (0, .ref qO0)]) hx hb d_15_7_28 rfl hl (by decide) rfl (fun ls hl => ?_)
  refine lv_iload_n hx hb d_15_7_29 rfl (lv_at hl 0 rfl) ?_
  refine lv_iload_n hx hb d_15_7_30 rfl (lv_at hl 1 rfl) ?_
  refine lv_iadd hx hb d_15_7_31 ?_
  refine q_ti (v := 0) (by decide) ?_
  refine lv_aload_n hx hb d_15_7_32 rfl (lv_at hl 2 rfl) ?_
  refine q_get (ci := 14) (j := 8) (v := .int 1) C0 V i_DR rfl rfl hO0 (by decide) w_2011 rfl d_15_7_33 ?_
  refine lv_icmp_ge (tgt := 59) hx hb d_15_7_36 (by decide) (fun c2 => absurd c2 (by decide)) (fun c2 => ?_)
  refine lv_aload_n hx hb d_15_7_39 rfl (lv_at hl 2 rfl) ?_
  refine q_get (ci := 14) (j := 7) (v := .ref qA6) C0 V i_DR rfl rfl hO0 (by decide) w_2010 rfl d_15_7_40 ?_
  refine lv_iload_n hx hb d_15_7_43 rfl (lv_at hl 0 rfl) ?_
  refine lv_aload_n hx hb d_15_7_44 rfl (lv_at hl 2 rfl) ?_
  refine q_get (ci := 14) (j := 7) (v := .ref qA6) C0 V i_DR rfl rfl hO0 (by decide) w_2010 rfl d_15_7_45 ?_
  refine lv_iload_n hx hb d_15_7_48 rfl (lv_at hl 0 rfl) ?_
  refine lv_iload_n hx hb d_15_7_49 rfl (lv_at hl 1 rfl) ?_
  refine lv_iadd hx hb d_15_7_50 ?_
  refine q_ti (v := 0) (by decide) ?_
  refine q_iald C0 V hA6 (by unfold vp_in; decide) d_15_7_51 ?_
  refine q_ti (v := 1) (by first | rfl | decide | simp [upd, vp_updL, sb_cl0]) ?_
  refine q_iast C0 V hA6 (by unfold vp_in; decide) d_15_7_52 (fun H locs w3 hu4 hA6 V => ?_)
  replace hA6 : w3[kA6]? = (some (qA6, .inl (g 0, 4400, .inl (upd (upd (fun _ => 0) 0 1) 0 1))) : Option (Nat × va_E)) := hA6
  replace hA6 := q_re (y := (qA6, .inl (g 0, 4400, .inl (upd (fun _ => 0) 0 1)))) hA6 (q_eI (by funext k; simp only [upd]; (repeat' split) <;> first | rfl | omega))
  replace hA6 : w3[kA6]? = (some (qA6, .inl (g 0, 4400, .inl (upd (fun _ => 0) 0 1))) : Option (Nat × va_E)) := hA6
  replace hF := q_us hF hu4 (.tail _ (.head _))
  refine lv_iinc (v := 1) (lv' := [(2, .int 1), (1, .int 0), (0, .ref qO0)]) hx hb d_15_7_53 hl (k := 0) rfl (by decide) (by decide) rfl (fun ls hl => ?_)
  refine lv_goto (tgt := 29) hx hb d_15_7_56 (by decide) ?_
  refine lv_iload_n hx hb d_15_7_29 rfl (lv_at hl 0 rfl) ?_
  refine lv_iload_n hx hb d_15_7_30 rfl (lv_at hl 1 rfl) ?_
  refine lv_iadd hx hb d_15_7_31 ?_
  refine q_ti (v := 1) (by decide) ?_
  refine lv_aload_n hx hb d_15_7_32 rfl (lv_at hl 2 rfl) ?_
  replace hO0 := (hu4 _ n_O0_A6).trans (hO0)
  refine q_get (ci := 14) (j := 8) (v := .int 1) C0 V i_DR rfl rfl hO0 (by decide) w_2011 rfl d_15_7_33 ?_
  refine lv_icmp_ge (tgt := 59) hx hb d_15_7_36 (by decide) (fun c5 => ?_) (fun c5 => absurd (by decide) c5)
  refine lv_aload_n hx hb d_15_7_59 rfl (lv_at hl 2 rfl) ?_
  refine q_get (ci := 14) (j := 8) (v := .int 1) C0 V i_DR rfl rfl hO0 (by decide) w_2011 rfl d_15_7_60 ?_
  refine lv_if_ne (tgt := 81) hx hb d_15_7_63 (by decide) (fun c6 => ?_) (fun c6 => absurd c6 (by decide))
  refine lv_aload_n hx hb d_15_7_81 rfl (lv_at hl 2 rfl) ?_
  refine lv_aload_n hx hb d_15_7_82 rfl (lv_at hl 2 rfl) ?_
  refine q_get (ci := 14) (j := 8) (v := .int 1) C0 V i_DR rfl rfl hO0 (by decide) w_2011 rfl d_15_7_83 ?_
  refine lv_iload_n hx hb d_15_7_86 rfl (lv_at hl 1 rfl) ?_
  refine lv_isub hx hb d_15_7_87 ?_
  refine q_ti (v := 1) (by decide) ?_
  refine q_put (ci := 14) (j := 8) (v := .int 1) (ty := .int) C0 V i_DR o_DR n_DR rfl rfl hO0 (by decide) w_2011 rfl rfl rfl rfl (Nat.le_of_ble_eq_true rfl) d_15_7_88 (fun H locs w7 hu8 hO0 V => ?_)
  replace hO0 : w7[kO0]? = (some (qO0, .inr (14, [.int 0, .ref qA1, .int 0, .ref qA2, .ref qA3, .ref qA4, .ref qA5, .ref qA6, .int 1, .long 0, .int 0, .int 0, .ref qA7, .int 0, .ref qA8, .int 0, .ref qA9, .int 0, .ref qA10, .int 0, .int 2])) : Option (Nat × va_E)) := hO0
  replace hF := q_us hF hu8 (.head _)
  refine lv_aload_n hx hb d_15_7_91 rfl (lv_at hl 2 rfl) ?_
  refine lv_aload_n hx hb d_15_7_92 rfl (lv_at hl 2 rfl) ?_
  refine q_get (ci := 14) (j := 11) (v := .int 0) C0 V i_DR rfl rfl hO0 (by decide) w_2014 rfl d_15_7_93 ?_
  refine lv_if_eq (tgt := 112) hx hb d_15_7_96 (by decide) (fun c9 => ?_) (fun c9 => absurd (by decide) c9)
  refine lv_iconst (v := 0) hx hb d_15_7_112 (by decide) ?_
  refine q_put (ci := 14) (j := 11) (v := .int 0) (ty := .boolean) C0 V i_DR o_DR n_DR rfl rfl hO0 (by decide) w_2014 rfl rfl rfl rfl (Nat.le_of_ble_eq_true rfl) d_15_7_113 (fun H locs w10 hu11 hO0 V => ?_)
  replace hO0 : w10[kO0]? = (some (qO0, .inr (14, [.int 0, .ref qA1, .int 0, .ref qA2, .ref qA3, .ref qA4, .ref qA5, .ref qA6, .int 1, .long 0, .int 0, .int 0, .ref qA7, .int 0, .ref qA8, .int 0, .ref qA9, .int 0, .ref qA10, .int 0, .int 2])) : Option (Nat × va_E)) := hO0
  replace hF := q_us hF hu11 (.head _)
  replace hA6 := (hu11 _ n_A6_O0).trans ((hu8 _ n_A6_O0).trans (hA6))
  exact q_retv C0 V (⟨hF, hO0, hA6⟩) d_15_7_116
set_option maxRecDepth 100000 in
set_option maxHeartbeats 4000000 in
theorem c_DR_store_4 (l : Launch) (D : va_G) (g : Nat → ClassId) (ws : va_W) (kO0 kA2 kA3 kA4 kA5 kA6 qO0 qA1 qA2 qA3 qA4 qA5 qA6 qA7 qA8 qA9 qA10 : Nat) (x1 : Int32) (hO0 : ws[kO0]? = (some (qO0, .inr (14, [.int 0, .ref qA1, .int 0, .ref qA2, .ref qA3, .ref qA4, .ref qA5, .ref qA6, .int 1, .long 0, .int 0, .int 0, .ref qA7, .int 0, .ref qA8, .int 0, .ref qA9, .int 0, .ref qA10, .int 0, .int 2])) : Option (Nat × va_E))) (hA2 : ws[kA2]? = (some (qA2, .inl (g 0, 10000, .inl (fun _ => 0))) : Option (Nat × va_E))) (hA3 : ws[kA3]? = (some (qA3, .inl (g 0, 10, .inl (upd (upd (upd (upd (upd (upd (upd (upd (upd (upd (fun _ => 0) 0 1) 1 1) 2 1) 3 1) 4 1) 5 1) 6 1) 7 1) 8 1) 9 1))) : Option (Nat × va_E))) (hA4 : ws[kA4]? = (some (qA4, .inl (g 3, 10, .inl (fun _ => 0))) : Option (Nat × va_E))) (hA5 : ws[kA5]? = (some (qA5, .inl (g 0, 10, .inl (fun _ => 0))) : Option (Nat × va_E))) (hA6 : ws[kA6]? = (some (qA6, .inl (g 0, 4400, .inl (upd (fun _ => 0) 0 1))) : Option (Nat × va_E))) (n_A2_A3 : kA2 ≠ kA3) (n_A2_A4 : kA2 ≠ kA4) (n_A2_A5 : kA2 ≠ kA5) (n_A2_A6 : kA2 ≠ kA6) (n_A3_A4 : kA3 ≠ kA4) (n_A3_A5 : kA3 ≠ kA5) (n_A3_A6 : kA3 ≠ kA6) (n_A4_A5 : kA4 ≠ kA5) (n_A4_A6 : kA4 ≠ kA6) (n_A5_A6 : kA5 ≠ kA6) (x1lo : 0 ≤ x1) (x1hi : x1 ≤ 9) : q_mV l y_DR_store prog_15_method_8_code 3 2 0 0 D g [.ref qO0, .int x1] ws (fun u => q_un ws u [kO0, kA2, kA3, kA4, kA5, kA6] ∧ u[kO0]? = (some (qO0, .inr (14, [.int 0, .ref qA1, .int 0, .ref qA2, .ref qA3, .ref qA4, .ref qA5, .ref qA6, .int 1, .long 0, .int 0, .int 0, .ref qA7, .int 0, .ref qA8, .int 0, .ref qA9, .int 0, .ref qA10, .int 0, .int 2])) : Option (Nat × va_E)) ∧ u[kA2]? = (some (qA2, .inl (g 0, 10000, .inl (upd (fun _ => 0) ((1000 * x1).toNatClampNeg) 1))) : Option (Nat × va_E)) ∧ u[kA3]? = (some (qA3, .inl (g 0, 10, .inl (upd (upd (upd (upd (upd (upd (upd (upd (upd (upd (upd (fun _ => 0) 0 1) 1 1) 2 1) 3 1) 4 1) 5 1) 6 1) 7 1) 8 1) 9 1) x1.toNatClampNeg 1))) : Option (Nat × va_E)) ∧ u[kA4]? = (some (qA4, .inl (g 3, 10, .inl (fun _ => 0))) : Option (Nat × va_E)) ∧ u[kA5]? = (some (qA5, .inl (g 0, 10, .inl (fun _ => 0))) : Option (Nat × va_E)) ∧ u[kA6]? = (some (qA6, .inl (g 0, 4400, .inl (upd (fun _ => 0) 0 1))) : Option (Nat × va_E))) := by
  intro sz
  refine q_into (by decide) (Nat.le_of_ble_eq_true rfl) ?_
  intro p e s m below meth c ls hsz C0 V hl
  have hx := C0.1
  have hb := C0.2.1
  have hl : lv_has ls 3 [(0, .ref qO0), (1, .int x1)] := hl
  have n_A2_O0 := q_df hA2 hO0
  have n_A3_A2 := Ne.symm n_A2_A3
  have n_A3_O0 := q_df hA3 hO0
  have n_A4_A2 := Ne.symm n_A2_A4
  have n_A4_A3 := Ne.symm n_A3_A4
  have n_A4_O0 := q_df hA4 hO0
  have n_A5_A2 := Ne.symm n_A2_A5
  have n_A5_A3 := Ne.symm n_A3_A5
  have n_A5_A4 := Ne.symm n_A4_A5
  have n_A5_O0 := q_df hA5 hO0
  have n_A6_A2 := Ne.symm n_A2_A6
  have n_A6_A3 := Ne.symm n_A3_A6
  have n_A6_A4 := Ne.symm n_A4_A6
  have n_A6_A5 := Ne.symm n_A5_A6
  have n_O0_A2 := Ne.symm (q_df hA2 hO0)
  have n_O0_A3 := Ne.symm (q_df hA3 hO0)
  have n_O0_A4 := Ne.symm (q_df hA4 hO0)
  have n_O0_A5 := Ne.symm (q_df hA5 hO0)
  have hF : q_un ws ws [kO0, kA2, kA3, kA4, kA5, kA6] := q_u0
  refine lv_aload_n hx hb d_15_8_0 rfl (lv_at hl 0 rfl) ?_
  refine q_gov V (q_runV (As := []) (rest := []) (d := 1) (mc := 0) (ms := 0) (ci := 14) C0 V rfl LV_DR_59 (c_DR_trim_4 l D g ws kO0 kA6 qO0 qA1 qA2 qA3 qA4 qA5 qA6 qA7 qA8 qA9 qA10 hO0 hA6 _) rfl rfl hO0 rfl hl.1 rfl (Nat.le_of_ble_eq_true rfl) ⟨by decide, by decide⟩ ⟨Nat.le_of_ble_eq_true rfl, Nat.le_of_ble_eq_true rfl⟩ d_15_8_1) (fun u2 H locs hp1 V => ?_)
  obtain ⟨hg3, hO0, hA6⟩ := hp1
  replace hF := q_uc hF hg3 (q_sc (.head _) (q_sc (List.mem_of_getElem? (i := 5) rfl) (fun _ h => absurd h List.not_mem_nil)))
  refine lv_aload_n hx hb d_15_8_4 rfl (lv_at hl 0 rfl) ?_
  refine q_get (ci := 14) (j := 8) (v := .int 1) C0 V i_DR rfl rfl hO0 (by decide) w_2011 rfl d_15_8_5 ?_
  refine lv_sipush (v := 1000) hx hb d_15_8_8 (by decide) ?_
  refine lv_icmp_gt (tgt := 36) hx hb d_15_8_11 (by decide) (fun c4 => absurd c4 (by decide)) (fun c4 => ?_)
  refine lv_aload_n hx hb d_15_8_14 rfl (lv_at hl 0 rfl) ?_
  refine q_get (ci := 14) (j := 9) (v := .long 0) C0 V i_DR rfl rfl hO0 (by decide) w_2012 rfl d_15_8_15 ?_
  refine q_ldc2 C0 rfl w_2417 d_15_8_18 ?_
  refine W.lcmp hx hb d_15_8_21 ?_
  refine q_ti (v := 1) (by decide) ?_
  refine lv_if_lt (tgt := 36) hx hb d_15_8_22 (by decide) (fun c5 => absurd c5 (by decide)) (fun c5 => ?_)
  refine lv_aload_n hx hb d_15_8_25 rfl (lv_at hl 0 rfl) ?_
  refine q_get (ci := 14) (j := 9) (v := .long 0) C0 V i_DR rfl rfl hO0 (by decide) w_2012 rfl d_15_8_26 ?_
  refine q_ldc2 C0 rfl w_2418 d_15_8_29 ?_
  refine W.lcmp hx hb d_15_8_32 ?_
  refine q_ti (v := (-1)) (by decide) ?_
  refine lv_if_le (tgt := 45) hx hb d_15_8_33 (by decide) (fun c6 => ?_) (fun c6 => absurd (by decide) c6)
  refine lv_iconst (v := 0) hx hb d_15_8_45 (by decide) ?_
  refine lv_istore_n (lv' := [(2, .int 0), (0, .ref qO0), (1, .int x1)]) hx hb d_15_8_46 rfl hl (by decide) rfl (fun ls hl => ?_)
  refine lv_iload_n hx hb d_15_8_47 rfl (lv_at hl 0 rfl) ?_
  refine lv_aload_n hx hb d_15_8_48 rfl (lv_at hl 1 rfl) ?_
  refine q_get (ci := 14) (j := 8) (v := .int 1) C0 V i_DR rfl rfl hO0 (by decide) w_2011 rfl d_15_8_49 ?_
  refine lv_icmp_ge (tgt := 79) hx hb d_15_8_52 (by decide) (fun c7 => absurd c7 (by decide)) (fun c7 => ?_)
  refine lv_aload_n hx hb d_15_8_55 rfl (lv_at hl 1 rfl) ?_
  refine q_get (ci := 14) (j := 3) (v := .ref qA2) C0 V i_DR rfl rfl hO0 (by decide) w_2002 rfl d_15_8_56 ?_
  refine lv_sipush (v := 1000) hx hb d_15_8_59 (by decide) ?_
  refine lv_iload_n hx hb d_15_8_62 rfl (lv_at hl 2 rfl) ?_
  refine lv_imul hx hb d_15_8_63 ?_
  refine lv_iload_n hx hb d_15_8_64 rfl (lv_at hl 0 rfl) ?_
  refine lv_iadd hx hb d_15_8_65 ?_
  refine q_ti (v := 1000 * x1) (by simp) ?_
  refine lv_aload_n hx hb d_15_8_66 rfl (lv_at hl 1 rfl) ?_
  refine q_get (ci := 14) (j := 7) (v := .ref qA6) C0 V i_DR rfl rfl hO0 (by decide) w_2010 rfl d_15_8_67 ?_
  refine lv_iload_n hx hb d_15_8_70 rfl (lv_at hl 0 rfl) ?_
  refine q_iald C0 V hA6 (by unfold vp_in; decide) d_15_8_71 ?_
  refine q_ti (v := 1) (by first | rfl | decide | simp [upd, vp_updL, sb_cl0]) ?_
  replace hA2 := (hg3 _ (q_nc n_A2_O0 (q_nc n_A2_A6 List.not_mem_nil))).trans (hA2)
  refine q_iast C0 V hA2 (q_ix (x := (1000 * x1.toInt)) (q_mulI (x := 1000) (y := x1.toInt) (by decide) rfl (by have t1 : 0 ≤ x1.toInt := q_leI x1lo; have t2 : x1.toInt ≤ 9 := q_leI x1hi; omega) (by have t1 : 0 ≤ x1.toInt := q_leI x1lo; have t2 : x1.toInt ≤ 9 := q_leI x1hi; omega)) (by have t1 : 0 ≤ x1.toInt := q_leI x1lo; have t2 : x1.toInt ≤ 9 := q_leI x1hi; omega) (by have t1 : 0 ≤ x1.toInt := q_leI x1lo; have t2 : x1.toInt ≤ 9 := q_leI x1hi; omega)) d_15_8_72 (fun H locs w8 hu9 hA2 V => ?_)
  replace hA2 : w8[kA2]? = (some (qA2, .inl (g 0, 10000, .inl (upd (fun _ => 0) ((1000 * x1).toNatClampNeg) 1))) : Option (Nat × va_E)) := hA2
  replace hF := q_us hF hu9 (.tail _ (.head _))
  refine lv_iinc (v := 1) (lv' := [(2, .int 1), (0, .ref qO0), (1, .int x1)]) hx hb d_15_8_73 hl (k := 0) rfl (by decide) (by decide) rfl (fun ls hl => ?_)
  refine lv_goto (tgt := 47) hx hb d_15_8_76 (by decide) ?_
  refine lv_iload_n hx hb d_15_8_47 rfl (lv_at hl 0 rfl) ?_
  refine lv_aload_n hx hb d_15_8_48 rfl (lv_at hl 1 rfl) ?_
  replace hO0 := (hu9 _ n_O0_A2).trans (hO0)
  refine q_get (ci := 14) (j := 8) (v := .int 1) C0 V i_DR rfl rfl hO0 (by decide) w_2011 rfl d_15_8_49 ?_
  refine lv_icmp_ge (tgt := 79) hx hb d_15_8_52 (by decide) (fun c10 => ?_) (fun c10 => absurd (by decide) c10)
  refine lv_aload_n hx hb d_15_8_79 rfl (lv_at hl 1 rfl) ?_
  refine q_get (ci := 14) (j := 4) (v := .ref qA3) C0 V i_DR rfl rfl hO0 (by decide) w_2004 rfl d_15_8_80 ?_
  refine lv_iload_n hx hb d_15_8_83 rfl (lv_at hl 2 rfl) ?_
  refine lv_aload_n hx hb d_15_8_84 rfl (lv_at hl 1 rfl) ?_
  refine q_get (ci := 14) (j := 8) (v := .int 1) C0 V i_DR rfl rfl hO0 (by decide) w_2011 rfl d_15_8_85 ?_
  replace hA3 := (hu9 _ n_A3_A2).trans ((hg3 _ (q_nc n_A3_O0 (q_nc n_A3_A6 List.not_mem_nil))).trans (hA3))
  refine q_iast C0 V hA3 (q_ix (x := x1.toInt) rfl (by have t1 : 0 ≤ x1.toInt := q_leI x1lo; have t2 : x1.toInt ≤ 9 := q_leI x1hi; omega) (by have t1 : 0 ≤ x1.toInt := q_leI x1lo; have t2 : x1.toInt ≤ 9 := q_leI x1hi; omega)) d_15_8_88 (fun H locs w11 hu12 hA3 V => ?_)
  replace hA3 : w11[kA3]? = (some (qA3, .inl (g 0, 10, .inl (upd (upd (upd (upd (upd (upd (upd (upd (upd (upd (upd (fun _ => 0) 0 1) 1 1) 2 1) 3 1) 4 1) 5 1) 6 1) 7 1) 8 1) 9 1) x1.toNatClampNeg 1))) : Option (Nat × va_E)) := hA3
  replace hF := q_us hF hu12 (.tail _ (.tail _ (.head _)))
  refine lv_aload_n hx hb d_15_8_89 rfl (lv_at hl 1 rfl) ?_
  replace hO0 := (hu12 _ n_O0_A3).trans (hO0)
  refine q_get (ci := 14) (j := 5) (v := .ref qA4) C0 V i_DR rfl rfl hO0 (by decide) w_2006 rfl d_15_8_90 ?_
  refine lv_iload_n hx hb d_15_8_93 rfl (lv_at hl 2 rfl) ?_
  refine lv_aload_n hx hb d_15_8_94 rfl (lv_at hl 1 rfl) ?_
  refine q_get (ci := 14) (j := 11) (v := .int 0) C0 V i_DR rfl rfl hO0 (by decide) w_2014 rfl d_15_8_95 ?_
  replace hA4 := (hu12 _ n_A4_A3).trans ((hu9 _ n_A4_A2).trans ((hg3 _ (q_nc n_A4_O0 (q_nc n_A4_A6 List.not_mem_nil))).trans (hA4)))
  refine q_zast C0 V hA4 (q_ix (x := x1.toInt) rfl (by have t1 : 0 ≤ x1.toInt := q_leI x1lo; have t2 : x1.toInt ≤ 9 := q_leI x1hi; omega) (by have t1 : 0 ≤ x1.toInt := q_leI x1lo; have t2 : x1.toInt ≤ 9 := q_leI x1hi; omega)) d_15_8_98 (fun H locs w13 hu14 hA4 V => ?_)
  replace hA4 := q_re (y := (qA4, .inl (g 3, 10, .inl (fun _ => 0)))) hA4 (q_eI q_upd0)
  replace hA4 : w13[kA4]? = (some (qA4, .inl (g 3, 10, .inl (fun _ => 0))) : Option (Nat × va_E)) := hA4
  replace hF := q_us hF hu14 (List.mem_of_getElem? (i := 3) rfl)
  refine lv_aload_n hx hb d_15_8_99 rfl (lv_at hl 1 rfl) ?_
  replace hO0 := (hu14 _ n_O0_A4).trans (hO0)
  refine q_get (ci := 14) (j := 6) (v := .ref qA5) C0 V i_DR rfl rfl hO0 (by decide) w_2008 rfl d_15_8_100 ?_
  refine lv_iload_n hx hb d_15_8_103 rfl (lv_at hl 2 rfl) ?_
  refine lv_aload_n hx hb d_15_8_104 rfl (lv_at hl 1 rfl) ?_
  refine q_get (ci := 14) (j := 9) (v := .long 0) C0 V i_DR rfl rfl hO0 (by decide) w_2012 rfl d_15_8_105 ?_
  refine lv_l2i hx hb d_15_8_108 rfl ?_
  refine q_ti (v := 0) (by decide) ?_
  replace hA5 := (hu14 _ n_A5_A4).trans ((hu12 _ n_A5_A3).trans ((hu9 _ n_A5_A2).trans ((hg3 _ (q_nc n_A5_O0 (q_nc n_A5_A6 List.not_mem_nil))).trans (hA5))))
  refine q_iast C0 V hA5 (q_ix (x := x1.toInt) rfl (by have t1 : 0 ≤ x1.toInt := q_leI x1lo; have t2 : x1.toInt ≤ 9 := q_leI x1hi; omega) (by have t1 : 0 ≤ x1.toInt := q_leI x1lo; have t2 : x1.toInt ≤ 9 := q_leI x1hi; omega)) d_15_8_109 (fun H locs w15 hu16 hA5 V => ?_)
  replace hA5 := q_re (y := (qA5, .inl (g 0, 10, .inl (fun _ => 0)))) hA5 (q_eI q_upd0)
  replace hA5 : w15[kA5]? = (some (qA5, .inl (g 0, 10, .inl (fun _ => 0))) : Option (Nat × va_E)) := hA5
  replace hF := q_us hF hu16 (List.mem_of_getElem? (i := 4) rfl)
  replace hO0 := (hu16 _ n_O0_A5).trans (hO0)
  replace hA2 := (hu16 _ n_A2_A5).trans ((hu14 _ n_A2_A4).trans ((hu12 _ n_A2_A3).trans (hA2)))
  replace hA3 := (hu16 _ n_A3_A5).trans ((hu14 _ n_A3_A4).trans (hA3))
  replace hA4 := (hu16 _ n_A4_A5).trans (hA4)
  replace hA6 := (hu16 _ n_A6_A5).trans ((hu14 _ n_A6_A4).trans ((hu12 _ n_A6_A3).trans ((hu9 _ n_A6_A2).trans (hA6))))
  exact q_retv C0 V (⟨hF, hO0, hA2, hA3, hA4, hA5, hA6⟩) d_15_8_110
set_option maxRecDepth 100000 in
set_option maxHeartbeats 4000000 in
theorem c_DR_times_2 (l : Launch) (D : va_G) (g : Nat → ClassId) (ws : va_W) (kO0 kA2 kA3 kA4 kA5 kA6 kA7 qO0 qA1 qA2 qA3 qA4 qA5 qA6 qA7 qA8 qA9 qA10 : Nat) (x1 : Int32) (hO0 : ws[kO0]? = (some (qO0, .inr (14, [.int 0, .ref qA1, .int 0, .ref qA2, .ref qA3, .ref qA4, .ref qA5, .ref qA6, .int 1, .long 0, .int 0, .int 0, .ref qA7, .int 0, .ref qA8, .int 0, .ref qA9, .int 0, .ref qA10, .int 0, .int 2])) : Option (Nat × va_E))) (hA2 : ws[kA2]? = (some (qA2, .inl (g 0, 10000, .inl (fun _ => 0))) : Option (Nat × va_E))) (hA3 : ws[kA3]? = (some (qA3, .inl (g 0, 10, .inl (upd (upd (upd (upd (upd (upd (upd (upd (upd (upd (fun _ => 0) 0 1) 1 1) 2 1) 3 1) 4 1) 5 1) 6 1) 7 1) 8 1) 9 1))) : Option (Nat × va_E))) (hA4 : ws[kA4]? = (some (qA4, .inl (g 3, 10, .inl (fun _ => 0))) : Option (Nat × va_E))) (hA5 : ws[kA5]? = (some (qA5, .inl (g 0, 10, .inl (fun _ => 0))) : Option (Nat × va_E))) (hA6 : ws[kA6]? = (some (qA6, .inl (g 0, 4400, .inl (upd (fun _ => 0) 0 1))) : Option (Nat × va_E))) (hA7 : ws[kA7]? = (some (qA7, .inl (g 0, 4400, .inl (fun _ => 0))) : Option (Nat × va_E))) (n_A2_A6 : kA2 ≠ kA6) (n_A2_A7 : kA2 ≠ kA7) (n_A3_A6 : kA3 ≠ kA6) (n_A3_A7 : kA3 ≠ kA7) (n_A4_A6 : kA4 ≠ kA6) (n_A4_A7 : kA4 ≠ kA7) (n_A5_A6 : kA5 ≠ kA6) (n_A5_A7 : kA5 ≠ kA7) (n_A6_A7 : kA6 ≠ kA7) (x1lo : 0 ≤ x1) (x1hi : x1 ≤ 9) : q_mI l y_DR_times prog_15_method_27_code 7 (.boolean) 2 0 0 D g [.ref qO0, .int x1] ws (fun r u => 1 = r ∧ q_un ws u [kO0, kA6, kA7] ∧ u[kO0]? = (some (qO0, .inr (14, [.int 0, .ref qA1, .int 0, .ref qA2, .ref qA3, .ref qA4, .ref qA5, .ref qA6, .int 1, .long 0, .int 0, .int 0, .ref qA7, .int 0, .ref qA8, .int 0, .ref qA9, .int 0, .ref qA10, .int 0, .int 2])) : Option (Nat × va_E)) ∧ u[kA6]? = (some (qA6, .inl (g 0, 4400, .inl (fun _ => 0))) : Option (Nat × va_E)) ∧ u[kA7]? = (some (qA7, .inl (g 0, 4400, .inl (fun _ => 0))) : Option (Nat × va_E))) := by
  intro sz
  refine q_into (by decide) (Nat.le_of_ble_eq_true rfl) ?_
  intro p e s m below meth c ls hsz C0 V hl
  have hx := C0.1
  have hb := C0.2.1
  have hl : lv_has ls 7 [(0, .ref qO0), (1, .int x1)] := hl
  have n_A2_O0 := q_df hA2 hO0
  have n_A3_O0 := q_df hA3 hO0
  have n_A4_O0 := q_df hA4 hO0
  have n_A5_O0 := q_df hA5 hO0
  have n_A6_O0 := q_df hA6 hO0
  have n_A7_A6 := Ne.symm n_A6_A7
  have n_A7_O0 := q_df hA7 hO0
  have n_O0_A6 := Ne.symm (q_df hA6 hO0)
  have n_O0_A7 := Ne.symm (q_df hA7 hO0)
  have hF : q_un ws ws [kO0, kA6, kA7] := q_u0
  refine lv_aload_n hx hb d_15_27_0 rfl (lv_at hl 0 rfl) ?_
  refine q_get (ci := 14) (j := 8) (v := .int 1) C0 V i_DR rfl rfl hO0 (by decide) w_2011 rfl d_15_27_1 ?_
  refine lv_aload_n hx hb d_15_27_4 rfl (lv_at hl 0 rfl) ?_
  refine q_get (ci := 14) (j := 4) (v := .ref qA3) C0 V i_DR rfl rfl hO0 (by decide) w_2004 rfl d_15_27_5 ?_
  refine lv_iload_n hx hb d_15_27_8 rfl (lv_at hl 1 rfl) ?_
  refine q_iald C0 V hA3 (q_ix (x := x1.toInt) rfl (by have t1 : 0 ≤ x1.toInt := q_leI x1lo; have t2 : x1.toInt ≤ 9 := q_leI x1hi; omega) (by have t1 : 0 ≤ x1.toInt := q_leI x1lo; have t2 : x1.toInt ≤ 9 := q_leI x1hi; omega)) d_15_27_9 ?_
  refine q_ti (v := 1) (by have hj := q_clI (x := x1.toInt) rfl (by have t1 : 0 ≤ x1.toInt := q_leI x1lo; have t2 : x1.toInt ≤ 9 := q_leI x1hi; omega); have hk : x1.toNatClampNeg < 10 ∧ 0 ≤ x1.toNatClampNeg := (by have t1 : 0 ≤ x1.toInt := q_leI x1lo; have t2 : x1.toInt ≤ 9 := q_leI x1hi; omega); clear hj; generalize x1.toNatClampNeg = j at hk ⊢; rcases (show j = 0 ∨ j = 1 ∨ j = 2 ∨ j = 3 ∨ j = 4 ∨ j = 5 ∨ j = 6 ∨ j = 7 ∨ j = 8 ∨ j = 9 by omega) with rfl | rfl | rfl | rfl | rfl | rfl | rfl | rfl | rfl | rfl <;> rfl) ?_
  refine lv_iadd hx hb d_15_27_10 ?_
  refine q_ti (v := 2) (by decide) ?_
  refine lv_istore_n (lv' := [(2, .int 2), (0, .ref qO0), (1, .int x1)]) hx hb d_15_27_11 rfl hl (by decide) rfl (fun ls hl => ?_)
  refine lv_iconst (v := 0) hx hb d_15_27_12 (by decide) ?_
  refine lv_istore_n (lv' := [(3, .int 0), (2, .int 2), (0, .ref qO0), (1, .int x1)]) hx hb d_15_27_13 rfl hl (by decide) rfl (fun ls hl => ?_)
  refine lv_iload_n hx hb d_15_27_14 rfl (lv_at hl 0 rfl) ?_
  refine lv_iload_n hx hb d_15_27_15 rfl (lv_at hl 1 rfl) ?_
  refine lv_icmp_ge (tgt := 32) hx hb d_15_27_16 (by decide) (fun c1 => absurd c1 (by decide)) (fun c1 => ?_)
  refine lv_aload_n hx hb d_15_27_19 rfl (lv_at hl 2 rfl) ?_
  refine q_get (ci := 14) (j := 12) (v := .ref qA7) C0 V i_DR rfl rfl hO0 (by decide) w_2015 rfl d_15_27_20 ?_
  refine lv_iload_n hx hb d_15_27_23 rfl (lv_at hl 0 rfl) ?_
  refine lv_iconst (v := 0) hx hb d_15_27_24 (by decide) ?_
  refine q_iast C0 V hA7 (by unfold vp_in; decide) d_15_27_25 (fun H locs w2 hu3 hA7 V => ?_)
  replace hA7 := q_re (y := (qA7, .inl (g 0, 4400, .inl (fun _ => 0)))) hA7 (q_eI q_upd0)
  replace hA7 : w2[kA7]? = (some (qA7, .inl (g 0, 4400, .inl (fun _ => 0))) : Option (Nat × va_E)) := hA7
  replace hF := q_us hF hu3 (.tail _ (.tail _ (.head _)))
  refine lv_iinc (v := 1) (lv' := [(3, .int 1), (2, .int 2), (0, .ref qO0), (1, .int x1)]) hx hb d_15_27_26 hl (k := 0) rfl (by decide) (by decide) rfl (fun ls hl => ?_)
  refine lv_goto (tgt := 14) hx hb d_15_27_29 (by decide) ?_
  refine lv_iload_n hx hb d_15_27_14 rfl (lv_at hl 0 rfl) ?_
  refine lv_iload_n hx hb d_15_27_15 rfl (lv_at hl 1 rfl) ?_
  refine lv_icmp_ge (tgt := 32) hx hb d_15_27_16 (by decide) (fun c4 => absurd c4 (by decide)) (fun c4 => ?_)
  refine lv_aload_n hx hb d_15_27_19 rfl (lv_at hl 2 rfl) ?_
  replace hO0 := (hu3 _ n_O0_A7).trans (hO0)
  refine q_get (ci := 14) (j := 12) (v := .ref qA7) C0 V i_DR rfl rfl hO0 (by decide) w_2015 rfl d_15_27_20 ?_
  refine lv_iload_n hx hb d_15_27_23 rfl (lv_at hl 0 rfl) ?_
  refine lv_iconst (v := 0) hx hb d_15_27_24 (by decide) ?_
  refine q_iast C0 V hA7 (by unfold vp_in; decide) d_15_27_25 (fun H locs w5 hu6 hA7 V => ?_)
  replace hA7 := q_re (y := (qA7, .inl (g 0, 4400, .inl (fun _ => 0)))) hA7 (q_eI q_upd0)
  replace hA7 : w5[kA7]? = (some (qA7, .inl (g 0, 4400, .inl (fun _ => 0))) : Option (Nat × va_E)) := hA7
  replace hF := q_us hF hu6 (.tail _ (.tail _ (.head _)))
  refine lv_iinc (v := 2) (lv' := [(3, .int 2), (2, .int 2), (0, .ref qO0), (1, .int x1)]) hx hb d_15_27_26 hl (k := 0) rfl (by decide) (by decide) rfl (fun ls hl => ?_)
  refine lv_goto (tgt := 14) hx hb d_15_27_29 (by decide) ?_
  refine lv_iload_n hx hb d_15_27_14 rfl (lv_at hl 0 rfl) ?_
  refine lv_iload_n hx hb d_15_27_15 rfl (lv_at hl 1 rfl) ?_
  refine lv_icmp_ge (tgt := 32) hx hb d_15_27_16 (by decide) (fun c7 => ?_) (fun c7 => absurd (by decide) c7)
  refine lv_aload_n hx hb d_15_27_32 rfl (lv_at hl 2 rfl) ?_
  replace hO0 := (hu6 _ n_O0_A7).trans (hO0)
  refine q_get (ci := 14) (j := 8) (v := .int 1) C0 V i_DR rfl rfl hO0 (by decide) w_2011 rfl d_15_27_33 ?_
  refine lv_iconst (v := 1) hx hb d_15_27_36 (by decide) ?_
  refine lv_isub hx hb d_15_27_37 ?_
  refine q_ti (v := 0) (by decide) ?_
  refine lv_istore_n (lv' := [(3, .int 0), (2, .int 2), (0, .ref qO0), (1, .int x1)]) hx hb d_15_27_38 rfl hl (by decide) rfl (fun ls hl => ?_)
  refine lv_iload_n hx hb d_15_27_39 rfl (lv_at hl 0 rfl) ?_
  refine lv_if_lt (tgt := 148) hx hb d_15_27_40 (by decide) (fun c8 => absurd c8 (by decide)) (fun c8 => ?_)
  refine lv_iconst (v := 0) hx hb d_15_27_43 (by decide) ?_
  refine lv_istore (lv' := [(4, .int 0), (3, .int 0), (2, .int 2), (0, .ref qO0), (1, .int x1)]) hx hb d_15_27_44 hl (by decide) rfl (fun ls hl => ?_)
  refine lv_aload_n hx hb d_15_27_46 rfl (lv_at hl 3 rfl) ?_
  refine q_get (ci := 14) (j := 4) (v := .ref qA3) C0 V i_DR rfl rfl hO0 (by decide) w_2004 rfl d_15_27_47 ?_
  refine lv_iload_n hx hb d_15_27_50 rfl (lv_at hl 4 rfl) ?_
  replace hA3 := (hu6 _ n_A3_A7).trans ((hu3 _ n_A3_A7).trans (hA3))
  refine q_iald C0 V hA3 (q_ix (x := x1.toInt) rfl (by have t1 : 0 ≤ x1.toInt := q_leI x1lo; have t2 : x1.toInt ≤ 9 := q_leI x1hi; omega) (by have t1 : 0 ≤ x1.toInt := q_leI x1lo; have t2 : x1.toInt ≤ 9 := q_leI x1hi; omega)) d_15_27_51 ?_
  refine q_ti (v := 1) (by have hj := q_clI (x := x1.toInt) rfl (by have t1 : 0 ≤ x1.toInt := q_leI x1lo; have t2 : x1.toInt ≤ 9 := q_leI x1hi; omega); have hk : x1.toNatClampNeg < 10 ∧ 0 ≤ x1.toNatClampNeg := (by have t1 : 0 ≤ x1.toInt := q_leI x1lo; have t2 : x1.toInt ≤ 9 := q_leI x1hi; omega); clear hj; generalize x1.toNatClampNeg = j at hk ⊢; rcases (show j = 0 ∨ j = 1 ∨ j = 2 ∨ j = 3 ∨ j = 4 ∨ j = 5 ∨ j = 6 ∨ j = 7 ∨ j = 8 ∨ j = 9 by omega) with rfl | rfl | rfl | rfl | rfl | rfl | rfl | rfl | rfl | rfl <;> rfl) ?_
  refine lv_iconst (v := 1) hx hb d_15_27_52 (by decide) ?_
  refine lv_isub hx hb d_15_27_53 ?_
  refine q_ti (v := 0) (by decide) ?_
  refine lv_istore (lv' := [(5, .int 0), (4, .int 0), (3, .int 0), (2, .int 2), (0, .ref qO0), (1, .int x1)]) hx hb d_15_27_54 hl (by decide) rfl (fun ls hl => ?_)
  refine lv_iload hx hb d_15_27_56 (lv_at hl 0 rfl) ?_
  refine lv_if_lt (tgt := 127) hx hb d_15_27_58 (by decide) (fun c9 => absurd c9 (by decide)) (fun c9 => ?_)
  refine lv_aload_n hx hb d_15_27_61 rfl (lv_at hl 4 rfl) ?_
  refine q_get (ci := 14) (j := 12) (v := .ref qA7) C0 V i_DR rfl rfl hO0 (by decide) w_2015 rfl d_15_27_62 ?_
  refine lv_iload_n hx hb d_15_27_65 rfl (lv_at hl 2 rfl) ?_
  refine lv_iload hx hb d_15_27_66 (lv_at hl 0 rfl) ?_
  refine lv_iadd hx hb d_15_27_68 ?_
  refine q_ti (v := 0) (by decide) ?_
  refine lv_iconst (v := 1) hx hb d_15_27_69 (by decide) ?_
  refine lv_iadd hx hb d_15_27_70 ?_
  refine q_ti (v := 1) (by decide) ?_
  refine q_iald C0 V hA7 (by unfold vp_in; decide) d_15_27_71 ?_
  refine q_ti (v := 0) (by first | rfl | decide | simp [upd, vp_updL, sb_cl0]) ?_
  refine lv_aload_n hx hb d_15_27_72 rfl (lv_at hl 4 rfl) ?_
  refine q_get (ci := 14) (j := 7) (v := .ref qA6) C0 V i_DR rfl rfl hO0 (by decide) w_2010 rfl d_15_27_73 ?_
  refine lv_iload_n hx hb d_15_27_76 rfl (lv_at hl 2 rfl) ?_
  replace hA6 := (hu6 _ n_A6_A7).trans ((hu3 _ n_A6_A7).trans (hA6))
  refine q_iald C0 V hA6 (by unfold vp_in; decide) d_15_27_77 ?_
  refine q_ti (v := 1) (by first | rfl | decide | simp [upd, vp_updL, sb_cl0]) ?_
  refine lv_aload_n hx hb d_15_27_78 rfl (lv_at hl 4 rfl) ?_
  refine q_get (ci := 14) (j := 3) (v := .ref qA2) C0 V i_DR rfl rfl hO0 (by decide) w_2002 rfl d_15_27_79 ?_
  refine lv_sipush (v := 1000) hx hb d_15_27_82 (by decide) ?_
  refine lv_iload_n hx hb d_15_27_85 rfl (lv_at hl 5 rfl) ?_
  refine lv_imul hx hb d_15_27_86 ?_
  refine lv_iload hx hb d_15_27_87 (lv_at hl 0 rfl) ?_
  refine lv_iadd hx hb d_15_27_89 ?_
  refine q_ti (v := 1000 * x1) (by simp) ?_
  replace hA2 := (hu6 _ n_A2_A7).trans ((hu3 _ n_A2_A7).trans (hA2))
  refine q_iald C0 V hA2 (q_ix (x := (1000 * x1.toInt)) (q_mulI (x := 1000) (y := x1.toInt) (by decide) rfl (by have t1 : 0 ≤ x1.toInt := q_leI x1lo; have t2 : x1.toInt ≤ 9 := q_leI x1hi; omega) (by have t1 : 0 ≤ x1.toInt := q_leI x1lo; have t2 : x1.toInt ≤ 9 := q_leI x1hi; omega)) (by have t1 : 0 ≤ x1.toInt := q_leI x1lo; have t2 : x1.toInt ≤ 9 := q_leI x1hi; omega) (by have t1 : 0 ≤ x1.toInt := q_leI x1lo; have t2 : x1.toInt ≤ 9 := q_leI x1hi; omega)) d_15_27_90 ?_
  refine q_ti (v := 0) (by first | rfl | decide | simp [upd, vp_updL, sb_cl0]) ?_
  refine lv_imul hx hb d_15_27_91 ?_
  refine q_ti (v := 0) (by decide) ?_
  refine lv_iadd hx hb d_15_27_92 ?_
  refine q_ti (v := 0) (by decide) ?_
  refine lv_iload hx hb d_15_27_93 (lv_at hl 1 rfl) ?_
  refine lv_iadd hx hb d_15_27_95 ?_
  refine q_ti (v := 0) (by decide) ?_
  refine lv_istore (lv' := [(6, .int 0), (5, .int 0), (4, .int 0), (3, .int 0), (2, .int 2), (0, .ref qO0), (1, .int x1)]) hx hb d_15_27_96 hl (by decide) rfl (fun ls hl => ?_)
  refine lv_aload_n hx hb d_15_27_98 rfl (lv_at hl 5 rfl) ?_
  refine q_get (ci := 14) (j := 12) (v := .ref qA7) C0 V i_DR rfl rfl hO0 (by decide) w_2015 rfl d_15_27_99 ?_
  refine lv_iload_n hx hb d_15_27_102 rfl (lv_at hl 3 rfl) ?_
  refine lv_iload hx hb d_15_27_103 (lv_at hl 1 rfl) ?_
  refine lv_iadd hx hb d_15_27_105 ?_
  refine q_ti (v := 0) (by decide) ?_
  refine lv_iconst (v := 1) hx hb d_15_27_106 (by decide) ?_
  refine lv_iadd hx hb d_15_27_107 ?_
  refine q_ti (v := 1) (by decide) ?_
  refine lv_iload hx hb d_15_27_108 (lv_at hl 0 rfl) ?_
  refine lv_bipush (v := 10) hx hb d_15_27_110 (by decide) ?_
  refine lv_irem hx hb d_15_27_112 (by decide) ?_
  refine q_ti (v := 0) (by decide) ?_
  refine q_iast C0 V hA7 (by unfold vp_in; decide) d_15_27_113 (fun H locs w10 hu11 hA7 V => ?_)
  replace hA7 := q_re (y := (qA7, .inl (g 0, 4400, .inl (fun _ => 0)))) hA7 (q_eI q_upd0)
  replace hA7 : w10[kA7]? = (some (qA7, .inl (g 0, 4400, .inl (fun _ => 0))) : Option (Nat × va_E)) := hA7
  replace hF := q_us hF hu11 (.tail _ (.tail _ (.head _)))
  refine lv_iload hx hb d_15_27_114 (lv_at hl 0 rfl) ?_
  refine lv_bipush (v := 10) hx hb d_15_27_116 (by decide) ?_
  refine lv_idiv hx hb d_15_27_118 (by decide) ?_
  refine q_ti (v := 0) (by decide) ?_
  refine lv_istore (lv' := [(4, .int 0), (6, .int 0), (5, .int 0), (3, .int 0), (2, .int 2), (0, .ref qO0), (1, .int x1)]) hx hb d_15_27_119 hl (by decide) rfl (fun ls hl => ?_)
  refine lv_iinc (v := (-1)) (lv' := [(5, .int (-1)), (4, .int 0), (6, .int 0), (3, .int 0), (2, .int 2), (0, .ref qO0), (1, .int x1)]) hx hb d_15_27_121 hl (k := 2) rfl (by decide) (by decide) rfl (fun ls hl => ?_)
  refine lv_goto (tgt := 56) hx hb d_15_27_124 (by decide) ?_
  refine lv_iload hx hb d_15_27_56 (lv_at hl 0 rfl) ?_
  refine lv_if_lt (tgt := 127) hx hb d_15_27_58 (by decide) (fun c12 => ?_) (fun c12 => absurd (by decide) c12)
  refine lv_aload_n hx hb d_15_27_127 rfl (lv_at hl 5 rfl) ?_
  replace hO0 := (hu11 _ n_O0_A7).trans (hO0)
  refine q_get (ci := 14) (j := 12) (v := .ref qA7) C0 V i_DR rfl rfl hO0 (by decide) w_2015 rfl d_15_27_128 ?_
  refine lv_iload_n hx hb d_15_27_131 rfl (lv_at hl 3 rfl) ?_
  refine lv_aload_n hx hb d_15_27_132 rfl (lv_at hl 5 rfl) ?_
  refine q_get (ci := 14) (j := 12) (v := .ref qA7) C0 V i_DR rfl rfl hO0 (by decide) w_2015 rfl d_15_27_133 ?_
  refine lv_iload_n hx hb d_15_27_136 rfl (lv_at hl 3 rfl) ?_
  refine q_iald C0 V hA7 (by unfold vp_in; decide) d_15_27_137 ?_
  refine q_ti (v := 0) (by first | rfl | decide | simp [upd, vp_updL, sb_cl0]) ?_
  refine lv_iload hx hb d_15_27_138 (lv_at hl 1 rfl) ?_
  refine lv_iadd hx hb d_15_27_140 ?_
  refine q_ti (v := 0) (by decide) ?_
  refine q_iast C0 V hA7 (by unfold vp_in; decide) d_15_27_141 (fun H locs w13 hu14 hA7 V => ?_)
  replace hA7 := q_re (y := (qA7, .inl (g 0, 4400, .inl (fun _ => 0)))) hA7 (q_eI q_upd0)
  replace hA7 : w13[kA7]? = (some (qA7, .inl (g 0, 4400, .inl (fun _ => 0))) : Option (Nat × va_E)) := hA7
  replace hF := q_us hF hu14 (.tail _ (.tail _ (.head _)))
  refine lv_iinc (v := (-1)) (lv' := [(3, .int (-1)), (5, .int (-1)), (4, .int 0), (6, .int 0), (2, .int 2), (0, .ref qO0), (1, .int x1)]) hx hb d_15_27_142 hl (k := 3) rfl (by decide) (by decide) rfl (fun ls hl => ?_)
  refine lv_goto (tgt := 39) hx hb d_15_27_145 (by decide) ?_
  refine lv_iload_n hx hb d_15_27_39 rfl (lv_at hl 0 rfl) ?_
  refine lv_if_lt (tgt := 148) hx hb d_15_27_40 (by decide) (fun c15 => ?_) (fun c15 => absurd (by decide) c15)
  refine lv_aload_n hx hb d_15_27_148 rfl (lv_at hl 5 rfl) ?_
  refine lv_iload_n hx hb d_15_27_149 rfl (lv_at hl 4 rfl) ?_
  replace hO0 := (hu14 _ n_O0_A7).trans (hO0)
  refine q_put (ci := 14) (j := 8) (v := .int 2) (ty := .int) C0 V i_DR o_DR n_DR rfl rfl hO0 (by decide) w_2011 rfl rfl rfl rfl (Nat.le_of_ble_eq_true rfl) d_15_27_150 (fun H locs w16 hu17 hO0 V => ?_)
  replace hO0 : w16[kO0]? = (some (qO0, .inr (14, [.int 0, .ref qA1, .int 0, .ref qA2, .ref qA3, .ref qA4, .ref qA5, .ref qA6, .int 2, .long 0, .int 0, .int 0, .ref qA7, .int 0, .ref qA8, .int 0, .ref qA9, .int 0, .ref qA10, .int 0, .int 2])) : Option (Nat × va_E)) := hO0
  replace hF := q_us hF hu17 (.head _)
  refine lv_iconst (v := 0) hx hb d_15_27_153 (by decide) ?_
  refine lv_istore_n (lv' := [(3, .int 0), (5, .int (-1)), (4, .int 0), (6, .int 0), (2, .int 2), (0, .ref qO0), (1, .int x1)]) hx hb d_15_27_154 rfl hl (by decide) rfl (fun ls hl => ?_)
  refine lv_iload_n hx hb d_15_27_155 rfl (lv_at hl 0 rfl) ?_
  refine lv_iload_n hx hb d_15_27_156 rfl (lv_at hl 4 rfl) ?_
  refine lv_icmp_ge (tgt := 178) hx hb d_15_27_157 (by decide) (fun c18 => absurd c18 (by decide)) (fun c18 => ?_)
  refine lv_aload_n hx hb d_15_27_160 rfl (lv_at hl 5 rfl) ?_
  refine q_get (ci := 14) (j := 7) (v := .ref qA6) C0 V i_DR rfl rfl hO0 (by decide) w_2010 rfl d_15_27_161 ?_
  refine lv_iload_n hx hb d_15_27_164 rfl (lv_at hl 0 rfl) ?_
  refine lv_aload_n hx hb d_15_27_165 rfl (lv_at hl 5 rfl) ?_
  refine q_get (ci := 14) (j := 12) (v := .ref qA7) C0 V i_DR rfl rfl hO0 (by decide) w_2015 rfl d_15_27_166 ?_
  refine lv_iload_n hx hb d_15_27_169 rfl (lv_at hl 0 rfl) ?_
  replace hA7 := (hu17 _ n_A7_O0).trans (hA7)
  refine q_iald C0 V hA7 (by unfold vp_in; decide) d_15_27_170 ?_
  refine q_ti (v := 0) (by first | rfl | decide | simp [upd, vp_updL, sb_cl0]) ?_
  replace hA6 := (hu17 _ n_A6_O0).trans ((hu14 _ n_A6_A7).trans ((hu11 _ n_A6_A7).trans (hA6)))
  refine q_iast C0 V hA6 (by unfold vp_in; decide) d_15_27_171 (fun H locs w19 hu20 hA6 V => ?_)
  replace hA6 : w19[kA6]? = (some (qA6, .inl (g 0, 4400, .inl (upd (upd (fun _ => 0) 0 1) 0 0))) : Option (Nat × va_E)) := hA6
  replace hA6 := q_re (y := (qA6, .inl (g 0, 4400, .inl (fun _ => 0)))) hA6 (q_eI (by funext k; simp only [upd]; (repeat' split) <;> first | rfl | omega))
  replace hA6 : w19[kA6]? = (some (qA6, .inl (g 0, 4400, .inl (fun _ => 0))) : Option (Nat × va_E)) := hA6
  replace hF := q_us hF hu20 (.tail _ (.head _))
  refine lv_iinc (v := 1) (lv' := [(3, .int 1), (5, .int (-1)), (4, .int 0), (6, .int 0), (2, .int 2), (0, .ref qO0), (1, .int x1)]) hx hb d_15_27_172 hl (k := 0) rfl (by decide) (by decide) rfl (fun ls hl => ?_)
  refine lv_goto (tgt := 155) hx hb d_15_27_175 (by decide) ?_
  refine lv_iload_n hx hb d_15_27_155 rfl (lv_at hl 0 rfl) ?_
  refine lv_iload_n hx hb d_15_27_156 rfl (lv_at hl 4 rfl) ?_
  refine lv_icmp_ge (tgt := 178) hx hb d_15_27_157 (by decide) (fun c21 => absurd c21 (by decide)) (fun c21 => ?_)
  refine lv_aload_n hx hb d_15_27_160 rfl (lv_at hl 5 rfl) ?_
  replace hO0 := (hu20 _ n_O0_A6).trans (hO0)
  refine q_get (ci := 14) (j := 7) (v := .ref qA6) C0 V i_DR rfl rfl hO0 (by decide) w_2010 rfl d_15_27_161 ?_
  refine lv_iload_n hx hb d_15_27_164 rfl (lv_at hl 0 rfl) ?_
  refine lv_aload_n hx hb d_15_27_165 rfl (lv_at hl 5 rfl) ?_
  refine q_get (ci := 14) (j := 12) (v := .ref qA7) C0 V i_DR rfl rfl hO0 (by decide) w_2015 rfl d_15_27_166 ?_
  refine lv_iload_n hx hb d_15_27_169 rfl (lv_at hl 0 rfl) ?_
  replace hA7 := (hu20 _ n_A7_A6).trans (hA7)
  refine q_iald C0 V hA7 (by unfold vp_in; decide) d_15_27_170 ?_
  refine q_ti (v := 0) (by first | rfl | decide | simp [upd, vp_updL, sb_cl0]) ?_
  refine q_iast C0 V hA6 (by unfold vp_in; decide) d_15_27_171 (fun H locs w22 hu23 hA6 V => ?_)
  replace hA6 := q_re (y := (qA6, .inl (g 0, 4400, .inl (fun _ => 0)))) hA6 (q_eI q_upd0)
  replace hA6 : w22[kA6]? = (some (qA6, .inl (g 0, 4400, .inl (fun _ => 0))) : Option (Nat × va_E)) := hA6
  replace hF := q_us hF hu23 (.tail _ (.head _))
  refine lv_iinc (v := 2) (lv' := [(3, .int 2), (5, .int (-1)), (4, .int 0), (6, .int 0), (2, .int 2), (0, .ref qO0), (1, .int x1)]) hx hb d_15_27_172 hl (k := 0) rfl (by decide) (by decide) rfl (fun ls hl => ?_)
  refine lv_goto (tgt := 155) hx hb d_15_27_175 (by decide) ?_
  refine lv_iload_n hx hb d_15_27_155 rfl (lv_at hl 0 rfl) ?_
  refine lv_iload_n hx hb d_15_27_156 rfl (lv_at hl 4 rfl) ?_
  refine lv_icmp_ge (tgt := 178) hx hb d_15_27_157 (by decide) (fun c24 => ?_) (fun c24 => absurd (by decide) c24)
  refine lv_aload_n hx hb d_15_27_178 rfl (lv_at hl 5 rfl) ?_
  replace hO0 := (hu23 _ n_O0_A6).trans (hO0)
  refine q_get (ci := 14) (j := 11) (v := .int 0) C0 V i_DR rfl rfl hO0 (by decide) w_2014 rfl d_15_27_179 ?_
  refine lv_istore_n (lv' := [(3, .int 0), (5, .int (-1)), (4, .int 0), (6, .int 0), (2, .int 2), (0, .ref qO0), (1, .int x1)]) hx hb d_15_27_182 rfl hl (by decide) rfl (fun ls hl => ?_)
  refine lv_aload_n hx hb d_15_27_183 rfl (lv_at hl 5 rfl) ?_
  refine lv_iload_n hx hb d_15_27_184 rfl (lv_at hl 0 rfl) ?_
  refine lv_aload_n hx hb d_15_27_185 rfl (lv_at hl 5 rfl) ?_
  refine q_get (ci := 14) (j := 5) (v := .ref qA4) C0 V i_DR rfl rfl hO0 (by decide) w_2006 rfl d_15_27_186 ?_
  refine lv_iload_n hx hb d_15_27_189 rfl (lv_at hl 6 rfl) ?_
  replace hA4 := (hu23 _ n_A4_A6).trans ((hu20 _ n_A4_A6).trans ((hu17 _ n_A4_O0).trans ((hu14 _ n_A4_A7).trans ((hu11 _ n_A4_A7).trans ((hu6 _ n_A4_A7).trans ((hu3 _ n_A4_A7).trans (hA4)))))))
  refine q_zald C0 V hA4 (q_ix (x := x1.toInt) rfl (by have t1 : 0 ≤ x1.toInt := q_leI x1lo; have t2 : x1.toInt ≤ 9 := q_leI x1hi; omega) (by have t1 : 0 ≤ x1.toInt := q_leI x1lo; have t2 : x1.toInt ≤ 9 := q_leI x1hi; omega)) d_15_27_190 ?_
  refine q_ti (v := 0) (by first | rfl | decide | simp [upd, vp_updL, sb_cl0]) ?_
  refine lv_icmp_eq (tgt := 198) hx hb d_15_27_191 (by decide) (fun c25 => ?_) (fun c25 => absurd (by decide) c25)
  refine lv_iconst (v := 0) hx hb d_15_27_198 (by decide) ?_
  refine q_put (ci := 14) (j := 11) (v := .int 0) (ty := .boolean) C0 V i_DR o_DR n_DR rfl rfl hO0 (by decide) w_2014 rfl rfl rfl rfl (Nat.le_of_ble_eq_true rfl) d_15_27_199 (fun H locs w26 hu27 hO0 V => ?_)
  replace hO0 : w26[kO0]? = (some (qO0, .inr (14, [.int 0, .ref qA1, .int 0, .ref qA2, .ref qA3, .ref qA4, .ref qA5, .ref qA6, .int 2, .long 0, .int 0, .int 0, .ref qA7, .int 0, .ref qA8, .int 0, .ref qA9, .int 0, .ref qA10, .int 0, .int 2])) : Option (Nat × va_E)) := hO0
  replace hF := q_us hF hu27 (.head _)
  refine lv_aload_n hx hb d_15_27_202 rfl (lv_at hl 5 rfl) ?_
  refine lv_aload_n hx hb d_15_27_203 rfl (lv_at hl 5 rfl) ?_
  refine q_get (ci := 14) (j := 9) (v := .long 0) C0 V i_DR rfl rfl hO0 (by decide) w_2012 rfl d_15_27_204 ?_
  refine lv_aload_n hx hb d_15_27_207 rfl (lv_at hl 5 rfl) ?_
  refine q_get (ci := 14) (j := 6) (v := .ref qA5) C0 V i_DR rfl rfl hO0 (by decide) w_2008 rfl d_15_27_208 ?_
  refine lv_iload_n hx hb d_15_27_211 rfl (lv_at hl 6 rfl) ?_
  replace hA5 := (hu27 _ n_A5_O0).trans ((hu23 _ n_A5_A6).trans ((hu20 _ n_A5_A6).trans ((hu17 _ n_A5_O0).trans ((hu14 _ n_A5_A7).trans ((hu11 _ n_A5_A7).trans ((hu6 _ n_A5_A7).trans ((hu3 _ n_A5_A7).trans (hA5))))))))
  refine q_iald C0 V hA5 (q_ix (x := x1.toInt) rfl (by have t1 : 0 ≤ x1.toInt := q_leI x1lo; have t2 : x1.toInt ≤ 9 := q_leI x1hi; omega) (by have t1 : 0 ≤ x1.toInt := q_leI x1lo; have t2 : x1.toInt ≤ 9 := q_leI x1hi; omega)) d_15_27_212 ?_
  refine q_ti (v := 0) (by first | rfl | decide | simp [upd, vp_updL, sb_cl0]) ?_
  refine lv_i2l hx hb d_15_27_213 rfl ?_
  refine q_tl (v := 0) (by decide) ?_
  refine lv_ladd hx hb d_15_27_214 ?_
  refine q_tl (v := 0) (by decide) ?_
  refine q_put (ci := 14) (j := 9) (v := .long 0) (ty := .long) C0 V i_DR o_DR n_DR rfl rfl hO0 (by decide) w_2012 rfl rfl rfl rfl (Nat.le_of_ble_eq_true rfl) d_15_27_215 (fun H locs w28 hu29 hO0 V => ?_)
  replace hO0 : w28[kO0]? = (some (qO0, .inr (14, [.int 0, .ref qA1, .int 0, .ref qA2, .ref qA3, .ref qA4, .ref qA5, .ref qA6, .int 2, .long 0, .int 0, .int 0, .ref qA7, .int 0, .ref qA8, .int 0, .ref qA9, .int 0, .ref qA10, .int 0, .int 2])) : Option (Nat × va_E)) := hO0
  replace hF := q_us hF hu29 (.head _)
  refine lv_aload_n hx hb d_15_27_218 rfl (lv_at hl 5 rfl) ?_
  replace hA6 := (hu29 _ n_A6_O0).trans ((hu27 _ n_A6_O0).trans (hA6))
  refine q_gov V (q_runV (As := []) (rest := []) (d := 1) (mc := 0) (ms := 0) (ci := 14) C0 V rfl LV_DR_59 (c_DR_trim l D g w28 kO0 kA6 qO0 qA1 qA2 qA3 qA4 qA5 qA6 qA7 qA8 qA9 qA10 hO0 hA6 _) rfl rfl hO0 rfl hl.1 rfl (Nat.le_of_ble_eq_true rfl) ⟨by decide, by decide⟩ ⟨Nat.le_of_ble_eq_true rfl, Nat.le_of_ble_eq_true rfl⟩ d_15_27_219) (fun u31 H locs hp30 V => ?_)
  obtain ⟨hg32, hO0, hA6⟩ := hp30
  replace hF := q_uc hF hg32 (q_sc (.head _) (q_sc (.tail _ (.head _)) (fun _ h => absurd h List.not_mem_nil)))
  refine lv_aload_n hx hb d_15_27_222 rfl (lv_at hl 5 rfl) ?_
  refine q_get (ci := 14) (j := 8) (v := .int 1) C0 V i_DR rfl rfl hO0 (by decide) w_2011 rfl d_15_27_223 ?_
  refine lv_sipush (v := 1000) hx hb d_15_27_226 (by decide) ?_
  refine lv_icmp_gt (tgt := 236) hx hb d_15_27_229 (by decide) (fun c33 => absurd c33 (by decide)) (fun c33 => ?_)
  refine lv_iconst (v := 1) hx hb d_15_27_232 (by decide) ?_
  refine lv_goto (tgt := 237) hx hb d_15_27_233 (by decide) ?_
  replace hA7 := (hg32 _ (q_nc n_A7_O0 (q_nc n_A7_A6 List.not_mem_nil))).trans ((hu29 _ n_A7_O0).trans ((hu27 _ n_A7_O0).trans ((hu23 _ n_A7_A6).trans (hA7))))
  exact q_retz C0 V (rfl) (⟨rfl, hF, hO0, hA6, hA7⟩) d_15_27_237
theorem d_15_29_0 : decode prog_15_method_29_code 0 = .ok (.aload_n 0, 1) := by decide +kernel
theorem d_15_29_1 : decode prog_15_method_29_code 1 = .ok (.iload_n 1, 1) := by decide +kernel
theorem d_15_29_2 : decode prog_15_method_29_code 2 = .ok (.invokestatic 113, 3) := by decide +kernel
theorem d_15_29_5 : decode prog_15_method_29_code 5 = .ok (.ifCond .ne 21, 3) := by decide +kernel
theorem d_15_29_8 : decode prog_15_method_29_code 8 = .ok (.iload_n 3, 1) := by decide +kernel
theorem d_15_29_9 : decode prog_15_method_29_code 9 = .ok (.invokestatic 113, 3) := by decide +kernel
theorem d_15_29_12 : decode prog_15_method_29_code 12 = .ok (.ifCond .ne 14, 3) := by decide +kernel
theorem d_15_29_15 : decode prog_15_method_29_code 15 = .ok (.iload_n 2, 1) := by decide +kernel
theorem d_15_29_16 : decode prog_15_method_29_code 16 = .ok (.ifCond .lt 10, 3) := by decide +kernel
theorem d_15_29_26 : decode prog_15_method_29_code 26 = .ok (.iconst 1, 1) := by decide +kernel
theorem d_15_29_27 : decode prog_15_method_29_code 27 = .ok (.goto 4, 3) := by decide +kernel
theorem d_15_29_31 : decode prog_15_method_29_code 31 = .ok (.putfield 41, 3) := by decide +kernel
theorem d_15_29_34 : decode prog_15_method_29_code 34 = .ok (.aload_n 0, 1) := by decide +kernel
theorem d_15_29_35 : decode prog_15_method_29_code 35 = .ok (.getfield 41, 3) := by decide +kernel
theorem d_15_29_38 : decode prog_15_method_29_code 38 = .ok (.ifCond .le 4, 3) := by decide +kernel
theorem d_15_29_41 : decode prog_15_method_29_code 41 = .ok (.return_, 1) := by decide +kernel
theorem d_15_29_19 : decode prog_15_method_29_code 19 = .ok (.iload_n 2, 1) := by decide +kernel
theorem d_15_29_20 : decode prog_15_method_29_code 20 = .ok (.sipush 999, 3) := by decide +kernel
theorem d_15_29_23 : decode prog_15_method_29_code 23 = .ok (.if_icmp .le 7, 3) := by decide +kernel
theorem d_15_29_30 : decode prog_15_method_29_code 30 = .ok (.iconst 0, 1) := by decide +kernel
theorem d_15_29_42 : decode prog_15_method_29_code 42 = .ok (.aload_n 0, 1) := by decide +kernel
theorem d_15_29_43 : decode prog_15_method_29_code 43 = .ok (.iconst 2, 1) := by decide +kernel
theorem d_15_29_44 : decode prog_15_method_29_code 44 = .ok (.putfield 66, 3) := by decide +kernel
theorem d_15_29_47 : decode prog_15_method_29_code 47 = .ok (.aload_n 0, 1) := by decide +kernel
theorem d_15_29_48 : decode prog_15_method_29_code 48 = .ok (.iconst 1, 1) := by decide +kernel
theorem d_15_29_49 : decode prog_15_method_29_code 49 = .ok (.putfield 45, 3) := by decide +kernel
theorem d_15_29_52 : decode prog_15_method_29_code 52 = .ok (.aload_n 0, 1) := by decide +kernel
theorem d_15_29_53 : decode prog_15_method_29_code 53 = .ok (.getfield 26, 3) := by decide +kernel
theorem d_15_29_56 : decode prog_15_method_29_code 56 = .ok (.iconst 0, 1) := by decide +kernel
theorem d_15_29_57 : decode prog_15_method_29_code 57 = .ok (.iconst 1, 1) := by decide +kernel
theorem d_15_29_58 : decode prog_15_method_29_code 58 = .ok (.iastore, 1) := by decide +kernel
theorem d_15_29_59 : decode prog_15_method_29_code 59 = .ok (.aload_n 0, 1) := by decide +kernel
theorem d_15_29_60 : decode prog_15_method_29_code 60 = .ok (.lconst 0, 1) := by decide +kernel
theorem d_15_29_61 : decode prog_15_method_29_code 61 = .ok (.putfield 48, 3) := by decide +kernel
theorem d_15_29_64 : decode prog_15_method_29_code 64 = .ok (.aload_n 0, 1) := by decide +kernel
theorem d_15_29_65 : decode prog_15_method_29_code 65 = .ok (.iconst 0, 1) := by decide +kernel
theorem d_15_29_66 : decode prog_15_method_29_code 66 = .ok (.putfield 52, 3) := by decide +kernel
theorem d_15_29_69 : decode prog_15_method_29_code 69 = .ok (.aload_n 0, 1) := by decide +kernel
theorem d_15_29_70 : decode prog_15_method_29_code 70 = .ok (.iconst 0, 1) := by decide +kernel
theorem d_15_29_71 : decode prog_15_method_29_code 71 = .ok (.putfield 56, 3) := by decide +kernel
theorem d_15_29_74 : decode prog_15_method_29_code 74 = .ok (.iconst 0, 1) := by decide +kernel
theorem d_15_29_75 : decode prog_15_method_29_code 75 = .ok (.istore 4, 2) := by decide +kernel
theorem d_15_29_77 : decode prog_15_method_29_code 77 = .ok (.iload 4, 2) := by decide +kernel
theorem d_15_29_79 : decode prog_15_method_29_code 79 = .ok (.iload_n 2, 1) := by decide +kernel
theorem d_15_29_80 : decode prog_15_method_29_code 80 = .ok (.if_icmp .ge 23, 3) := by decide +kernel
theorem d_15_29_103 : decode prog_15_method_29_code 103 = .ok (.aload_n 0, 1) := by decide +kernel
theorem d_15_29_104 : decode prog_15_method_29_code 104 = .ok (.iload_n 3, 1) := by decide +kernel
theorem d_15_29_105 : decode prog_15_method_29_code 105 = .ok (.invokevirtual 89, 3) := by decide +kernel
theorem d_15_29_108 : decode prog_15_method_29_code 108 = .ok (.return_, 1) := by decide +kernel
theorem d_15_29_83 : decode prog_15_method_29_code 83 = .ok (.aload_n 0, 1) := by decide +kernel
theorem d_15_29_84 : decode prog_15_method_29_code 84 = .ok (.iload_n 1, 1) := by decide +kernel
theorem d_15_29_85 : decode prog_15_method_29_code 85 = .ok (.invokevirtual 135, 3) := by decide +kernel
theorem d_15_29_88 : decode prog_15_method_29_code 88 = .ok (.ifCond .ne 9, 3) := by decide +kernel
theorem d_15_29_97 : decode prog_15_method_29_code 97 = .ok (.iinc 4 1, 3) := by decide +kernel
theorem d_15_29_100 : decode prog_15_method_29_code 100 = .ok (.goto (-23), 3) := by decide +kernel
def y_DR_power : MethodName := ⟨"NumberHouseModel$DecimalRows", "power", "(III)V"⟩
set_option maxRecDepth 100000 in
set_option maxHeartbeats 4000000 in
theorem c_DR_power (l : Launch) (D : va_G) (g : Nat → ClassId) (ws : va_W) (kO0 kA2 kA3 kA4 kA5 kA6 kA7 qO0 qA1 qA2 qA3 qA4 qA5 qA6 qA7 qA8 qA9 qA10 : Nat) (x1 : Int32) (x2 : Int32) (x3 : Int32) (hO0 : ws[kO0]? = (some (qO0, .inr (14, [.int 0, .ref qA1, .int 0, .ref qA2, .ref qA3, .ref qA4, .ref qA5, .ref qA6, .int 0, .long 0, .int 0, .int 0, .ref qA7, .int 0, .ref qA8, .int 0, .ref qA9, .int 0, .ref qA10, .int 0, .int 0])) : Option (Nat × va_E))) (hA2 : ws[kA2]? = (some (qA2, .inl (g 0, 10000, .inl (fun _ => 0))) : Option (Nat × va_E))) (hA3 : ws[kA3]? = (some (qA3, .inl (g 0, 10, .inl (upd (upd (upd (upd (upd (upd (upd (upd (upd (upd (fun _ => 0) 0 1) 1 1) 2 1) 3 1) 4 1) 5 1) 6 1) 7 1) 8 1) 9 1))) : Option (Nat × va_E))) (hA4 : ws[kA4]? = (some (qA4, .inl (g 3, 10, .inl (fun _ => 0))) : Option (Nat × va_E))) (hA5 : ws[kA5]? = (some (qA5, .inl (g 0, 10, .inl (fun _ => 0))) : Option (Nat × va_E))) (hA6 : ws[kA6]? = (some (qA6, .inl (g 0, 4400, .inl (fun _ => 0))) : Option (Nat × va_E))) (hA7 : ws[kA7]? = (some (qA7, .inl (g 0, 4400, .inl (fun _ => 0))) : Option (Nat × va_E))) (n_A2_A3 : kA2 ≠ kA3) (n_A2_A4 : kA2 ≠ kA4) (n_A2_A5 : kA2 ≠ kA5) (n_A2_A6 : kA2 ≠ kA6) (n_A2_A7 : kA2 ≠ kA7) (n_A3_A4 : kA3 ≠ kA4) (n_A3_A5 : kA3 ≠ kA5) (n_A3_A6 : kA3 ≠ kA6) (n_A3_A7 : kA3 ≠ kA7) (n_A4_A5 : kA4 ≠ kA5) (n_A4_A6 : kA4 ≠ kA6) (n_A4_A7 : kA4 ≠ kA7) (n_A5_A6 : kA5 ≠ kA6) (n_A5_A7 : kA5 ≠ kA7) (n_A6_A7 : kA6 ≠ kA7) (x1lo : 0 ≤ x1) (x1hi : x1 ≤ 9) (x3lo : 0 ≤ x3) (x3hi : x3 ≤ 9) : q_mV l y_DR_power prog_15_method_29_code 5 3 0 0 D g [.ref qO0, .int x1, .int x2, .int x3] ws (fun u => (x2 < 0 ∧ q_un ws u [kO0, kA2, kA3, kA4, kA5, kA6, kA7] ∧ u[kO0]? = (some (qO0, .inr (14, [.int 1, .ref qA1, .int 0, .ref qA2, .ref qA3, .ref qA4, .ref qA5, .ref qA6, .int 0, .long 0, .int 0, .int 0, .ref qA7, .int 0, .ref qA8, .int 0, .ref qA9, .int 0, .ref qA10, .int 0, .int 0])) : Option (Nat × va_E)) ∧ u[kA2]? = (some (qA2, .inl (g 0, 10000, .inl (fun _ => 0))) : Option (Nat × va_E)) ∧ u[kA3]? = (some (qA3, .inl (g 0, 10, .inl (upd (upd (upd (upd (upd (upd (upd (upd (upd (upd (fun _ => 0) 0 1) 1 1) 2 1) 3 1) 4 1) 5 1) 6 1) 7 1) 8 1) 9 1))) : Option (Nat × va_E)) ∧ u[kA4]? = (some (qA4, .inl (g 3, 10, .inl (fun _ => 0))) : Option (Nat × va_E)) ∧ u[kA5]? = (some (qA5, .inl (g 0, 10, .inl (fun _ => 0))) : Option (Nat × va_E)) ∧ u[kA6]? = (some (qA6, .inl (g 0, 4400, .inl (fun _ => 0))) : Option (Nat × va_E)) ∧ u[kA7]? = (some (qA7, .inl (g 0, 4400, .inl (fun _ => 0))) : Option (Nat × va_E))) ∨ (¬ x2 < 0 ∧ x2 ≤ 999 ∧ x2 ≤ 0 ∧ q_un ws u [kO0, kA2, kA3, kA4, kA5, kA6, kA7] ∧ u[kO0]? = (some (qO0, .inr (14, [.int 0, .ref qA1, .int 0, .ref qA2, .ref qA3, .ref qA4, .ref qA5, .ref qA6, .int 1, .long 0, .int 0, .int 0, .ref qA7, .int 0, .ref qA8, .int 0, .ref qA9, .int 0, .ref qA10, .int 0, .int 2])) : Option (Nat × va_E)) ∧ u[kA2]? = (some (qA2, .inl (g 0, 10000, .inl (upd (fun _ => 0) ((1000 * x3).toNatClampNeg) 1))) : Option (Nat × va_E)) ∧ u[kA3]? = (some (qA3, .inl (g 0, 10, .inl (upd (upd (upd (upd (upd (upd (upd (upd (upd (upd (upd (fun _ => 0) 0 1) 1 1) 2 1) 3 1) 4 1) 5 1) 6 1) 7 1) 8 1) 9 1) x3.toNatClampNeg 1))) : Option (Nat × va_E)) ∧ u[kA4]? = (some (qA4, .inl (g 3, 10, .inl (fun _ => 0))) : Option (Nat × va_E)) ∧ u[kA5]? = (some (qA5, .inl (g 0, 10, .inl (fun _ => 0))) : Option (Nat × va_E)) ∧ u[kA6]? = (some (qA6, .inl (g 0, 4400, .inl (upd (fun _ => 0) 0 1))) : Option (Nat × va_E)) ∧ u[kA7]? = (some (qA7, .inl (g 0, 4400, .inl (fun _ => 0))) : Option (Nat × va_E))) ∨ (¬ x2 < 0 ∧ x2 ≤ 999 ∧ ¬ x2 ≤ 0 ∧ q_un ws u [kO0, kA2, kA3, kA4, kA5, kA6, kA7] ∧ u[kO0]? = (some (qO0, .inr (14, [.int 0, .ref qA1, .int 0, .ref qA2, .ref qA3, .ref qA4, .ref qA5, .ref qA6, .int 1, .long 0, .int 0, .int 0, .ref qA7, .int 0, .ref qA8, .int 0, .ref qA9, .int 0, .ref qA10, .int 0, .int 2])) : Option (Nat × va_E)) ∧ u[kA2]? = (some (qA2, .inl (g 0, 10000, .inl (fun _ => 0))) : Option (Nat × va_E)) ∧ u[kA3]? = (some (qA3, .inl (g 0, 10, .inl (upd (upd (upd (upd (upd (upd (upd (upd (upd (upd (upd (fun _ => 0) 0 1) 1 1) 2 1) 3 1) 4 1) 5 1) 6 1) 7 1) 8 1) 9 1) x3.toNatClampNeg 1))) : Option (Nat × va_E)) ∧ u[kA4]? = (some (qA4, .inl (g 3, 10, .inl (fun _ => 0))) : Option (Nat × va_E)) ∧ u[kA5]? = (some (qA5, .inl (g 0, 10, .inl (fun _ => 0))) : Option (Nat × va_E)) ∧ u[kA6]? = (some (qA6, .inl (g 0, 4400, .inl (fun _ => 0))) : Option (Nat × va_E)) ∧ u[kA7]? = (some (qA7, .inl (g 0, 4400, .inl (fun _ => 0))) : Option (Nat × va_E))) ∨ (¬ x2 < 0 ∧ ¬ x2 ≤ 999 ∧ q_un ws u [kO0, kA2, kA3, kA4, kA5, kA6, kA7] ∧ u[kO0]? = (some (qO0, .inr (14, [.int 1, .ref qA1, .int 0, .ref qA2, .ref qA3, .ref qA4, .ref qA5, .ref qA6, .int 0, .long 0, .int 0, .int 0, .ref qA7, .int 0, .ref qA8, .int 0, .ref qA9, .int 0, .ref qA10, .int 0, .int 0])) : Option (Nat × va_E)) ∧ u[kA2]? = (some (qA2, .inl (g 0, 10000, .inl (fun _ => 0))) : Option (Nat × va_E)) ∧ u[kA3]? = (some (qA3, .inl (g 0, 10, .inl (upd (upd (upd (upd (upd (upd (upd (upd (upd (upd (fun _ => 0) 0 1) 1 1) 2 1) 3 1) 4 1) 5 1) 6 1) 7 1) 8 1) 9 1))) : Option (Nat × va_E)) ∧ u[kA4]? = (some (qA4, .inl (g 3, 10, .inl (fun _ => 0))) : Option (Nat × va_E)) ∧ u[kA5]? = (some (qA5, .inl (g 0, 10, .inl (fun _ => 0))) : Option (Nat × va_E)) ∧ u[kA6]? = (some (qA6, .inl (g 0, 4400, .inl (fun _ => 0))) : Option (Nat × va_E)) ∧ u[kA7]? = (some (qA7, .inl (g 0, 4400, .inl (fun _ => 0))) : Option (Nat × va_E)))) := by
  intro sz
  refine q_into (by decide) (Nat.le_of_ble_eq_true rfl) ?_
  intro p e s m below meth c ls hsz C0 V hl
  have hx := C0.1
  have hb := C0.2.1
  have hl : lv_has ls 5 [(0, .ref qO0), (1, .int x1), (2, .int x2), (3, .int x3)] := hl
  have n_A2_O0 := q_df hA2 hO0
  have n_A3_O0 := q_df hA3 hO0
  have n_A4_O0 := q_df hA4 hO0
  have n_A5_O0 := q_df hA5 hO0
  have n_A6_O0 := q_df hA6 hO0
  have n_A7_A2 := Ne.symm n_A2_A7
  have n_A7_A3 := Ne.symm n_A3_A7
  have n_A7_A4 := Ne.symm n_A4_A7
  have n_A7_A5 := Ne.symm n_A5_A7
  have n_A7_A6 := Ne.symm n_A6_A7
  have n_A7_O0 := q_df hA7 hO0
  have n_O0_A6 := Ne.symm (q_df hA6 hO0)
  have hF : q_un ws ws [kO0, kA2, kA3, kA4, kA5, kA6, kA7] := q_u0
  refine lv_aload_n hx hb d_15_29_0 rfl (lv_at hl 0 rfl) ?_
  refine lv_iload_n hx hb d_15_29_1 rfl (lv_at hl 1 rfl) ?_
  refine q_goi V (q_runS (As := [.int x1]) (rest := [.ref qO0]) (d := 1) (mc := 0) (ms := 0) C0 V rfl LS_DR_113 (c_DR_no l D g ws x1 x1lo x1hi _) rfl hl.1 rfl (Nat.le_of_ble_eq_true rfl) ⟨by decide, by decide⟩ ⟨Nat.le_of_ble_eq_true rfl, Nat.le_of_ble_eq_true rfl⟩ d_15_29_2) (fun v3 u2 H locs hp1 V => ?_)
  obtain ⟨rfl, rfl⟩ := hp1
  refine lv_if_ne (tgt := 26) hx hb d_15_29_5 (by decide) (fun c5 => absurd (by decide) c5) (fun c5 => ?_)
  refine lv_iload_n hx hb d_15_29_8 rfl (lv_at hl 3 rfl) ?_
  refine q_goi V (q_runS (As := [.int x3]) (rest := [.ref qO0]) (d := 1) (mc := 0) (ms := 0) C0 V rfl LS_DR_113 (c_DR_no l D g ws x3 x3lo x3hi _) rfl hl.1 rfl (Nat.le_of_ble_eq_true rfl) ⟨by decide, by decide⟩ ⟨Nat.le_of_ble_eq_true rfl, Nat.le_of_ble_eq_true rfl⟩ d_15_29_9) (fun v8 u7 H locs hp6 V => ?_)
  obtain ⟨rfl, rfl⟩ := hp6
  refine lv_if_ne (tgt := 26) hx hb d_15_29_12 (by decide) (fun c10 => absurd (by decide) c10) (fun c10 => ?_)
  refine lv_iload_n hx hb d_15_29_15 rfl (lv_at hl 2 rfl) ?_
  refine lv_if_lt (tgt := 26) hx hb d_15_29_16 (by decide) (fun c11 => ?_) (fun c11 => ?_)
  ·
    refine lv_iconst (v := 1) hx hb d_15_29_26 (by decide) ?_
    refine lv_goto (tgt := 31) hx hb d_15_29_27 (by decide) ?_
    refine q_put (ci := 14) (j := 0) (v := .int 1) (ty := .int) C0 V i_DR o_DR n_DR rfl rfl hO0 (by decide) w_1996 rfl rfl rfl rfl (Nat.le_of_ble_eq_true rfl) d_15_29_31 (fun H locs w12 hu13 hO0 V => ?_)
    replace hO0 : w12[kO0]? = (some (qO0, .inr (14, [.int 1, .ref qA1, .int 0, .ref qA2, .ref qA3, .ref qA4, .ref qA5, .ref qA6, .int 0, .long 0, .int 0, .int 0, .ref qA7, .int 0, .ref qA8, .int 0, .ref qA9, .int 0, .ref qA10, .int 0, .int 0])) : Option (Nat × va_E)) := hO0
    replace hF := q_us hF hu13 (.head _)
    refine lv_aload_n hx hb d_15_29_34 rfl (lv_at hl 0 rfl) ?_
    refine q_get (ci := 14) (j := 0) (v := .int 1) C0 V i_DR rfl rfl hO0 (by decide) w_1996 rfl d_15_29_35 ?_
    refine lv_if_le (tgt := 42) hx hb d_15_29_38 (by decide) (fun c14 => absurd c14 (by decide)) (fun c14 => ?_)
    replace hA2 := (hu13 _ n_A2_O0).trans (hA2)
    replace hA3 := (hu13 _ n_A3_O0).trans (hA3)
    replace hA4 := (hu13 _ n_A4_O0).trans (hA4)
    replace hA5 := (hu13 _ n_A5_O0).trans (hA5)
    replace hA6 := (hu13 _ n_A6_O0).trans (hA6)
    replace hA7 := (hu13 _ n_A7_O0).trans (hA7)
    exact q_retv C0 V (Or.inl ⟨c11, hF, hO0, hA2, hA3, hA4, hA5, hA6, hA7⟩) d_15_29_41
  ·
    refine lv_iload_n hx hb d_15_29_19 rfl (lv_at hl 2 rfl) ?_
    refine lv_sipush (v := 999) hx hb d_15_29_20 (by decide) ?_
    refine lv_icmp_le (tgt := 30) hx hb d_15_29_23 (by decide) (fun c15 => ?_) (fun c15 => ?_)
    ·
      refine lv_iconst (v := 0) hx hb d_15_29_30 (by decide) ?_
      refine q_put (ci := 14) (j := 0) (v := .int 0) (ty := .int) C0 V i_DR o_DR n_DR rfl rfl hO0 (by decide) w_1996 rfl rfl rfl rfl (Nat.le_of_ble_eq_true rfl) d_15_29_31 (fun H locs w16 hu17 hO0 V => ?_)
      replace hO0 : w16[kO0]? = (some (qO0, .inr (14, [.int 0, .ref qA1, .int 0, .ref qA2, .ref qA3, .ref qA4, .ref qA5, .ref qA6, .int 0, .long 0, .int 0, .int 0, .ref qA7, .int 0, .ref qA8, .int 0, .ref qA9, .int 0, .ref qA10, .int 0, .int 0])) : Option (Nat × va_E)) := hO0
      replace hF := q_us hF hu17 (.head _)
      refine lv_aload_n hx hb d_15_29_34 rfl (lv_at hl 0 rfl) ?_
      refine q_get (ci := 14) (j := 0) (v := .int 0) C0 V i_DR rfl rfl hO0 (by decide) w_1996 rfl d_15_29_35 ?_
      refine lv_if_le (tgt := 42) hx hb d_15_29_38 (by decide) (fun c18 => ?_) (fun c18 => absurd (by decide) c18)
      refine lv_aload_n hx hb d_15_29_42 rfl (lv_at hl 0 rfl) ?_
      refine lv_iconst (v := 2) hx hb d_15_29_43 (by decide) ?_
      refine q_put (ci := 14) (j := 20) (v := .int 2) (ty := .int) C0 V i_DR o_DR n_DR rfl rfl hO0 (by decide) w_2024 rfl rfl rfl rfl (Nat.le_of_ble_eq_true rfl) d_15_29_44 (fun H locs w19 hu20 hO0 V => ?_)
      replace hO0 : w19[kO0]? = (some (qO0, .inr (14, [.int 0, .ref qA1, .int 0, .ref qA2, .ref qA3, .ref qA4, .ref qA5, .ref qA6, .int 0, .long 0, .int 0, .int 0, .ref qA7, .int 0, .ref qA8, .int 0, .ref qA9, .int 0, .ref qA10, .int 0, .int 2])) : Option (Nat × va_E)) := hO0
      replace hF := q_us hF hu20 (.head _)
      refine lv_aload_n hx hb d_15_29_47 rfl (lv_at hl 0 rfl) ?_
      refine lv_iconst (v := 1) hx hb d_15_29_48 (by decide) ?_
      refine q_put (ci := 14) (j := 8) (v := .int 1) (ty := .int) C0 V i_DR o_DR n_DR rfl rfl hO0 (by decide) w_2011 rfl rfl rfl rfl (Nat.le_of_ble_eq_true rfl) d_15_29_49 (fun H locs w21 hu22 hO0 V => ?_)
      replace hO0 : w21[kO0]? = (some (qO0, .inr (14, [.int 0, .ref qA1, .int 0, .ref qA2, .ref qA3, .ref qA4, .ref qA5, .ref qA6, .int 1, .long 0, .int 0, .int 0, .ref qA7, .int 0, .ref qA8, .int 0, .ref qA9, .int 0, .ref qA10, .int 0, .int 2])) : Option (Nat × va_E)) := hO0
      replace hF := q_us hF hu22 (.head _)
      refine lv_aload_n hx hb d_15_29_52 rfl (lv_at hl 0 rfl) ?_
      refine q_get (ci := 14) (j := 7) (v := .ref qA6) C0 V i_DR rfl rfl hO0 (by decide) w_2010 rfl d_15_29_53 ?_
      refine lv_iconst (v := 0) hx hb d_15_29_56 (by decide) ?_
      refine lv_iconst (v := 1) hx hb d_15_29_57 (by decide) ?_
      replace hA6 := (hu22 _ n_A6_O0).trans ((hu20 _ n_A6_O0).trans ((hu17 _ n_A6_O0).trans (hA6)))
      refine q_iast C0 V hA6 (by unfold vp_in; decide) d_15_29_58 (fun H locs w23 hu24 hA6 V => ?_)
      replace hA6 : w23[kA6]? = (some (qA6, .inl (g 0, 4400, .inl (upd (fun _ => 0) 0 1))) : Option (Nat × va_E)) := hA6
      replace hF := q_us hF hu24 (List.mem_of_getElem? (i := 5) rfl)
      refine lv_aload_n hx hb d_15_29_59 rfl (lv_at hl 0 rfl) ?_
      refine lv_lconst (v := 0) hx hb d_15_29_60 (by decide) ?_
      replace hO0 := (hu24 _ n_O0_A6).trans (hO0)
      refine q_put (ci := 14) (j := 9) (v := .long 0) (ty := .long) C0 V i_DR o_DR n_DR rfl rfl hO0 (by decide) w_2012 rfl rfl rfl rfl (Nat.le_of_ble_eq_true rfl) d_15_29_61 (fun H locs w25 hu26 hO0 V => ?_)
      replace hO0 : w25[kO0]? = (some (qO0, .inr (14, [.int 0, .ref qA1, .int 0, .ref qA2, .ref qA3, .ref qA4, .ref qA5, .ref qA6, .int 1, .long 0, .int 0, .int 0, .ref qA7, .int 0, .ref qA8, .int 0, .ref qA9, .int 0, .ref qA10, .int 0, .int 2])) : Option (Nat × va_E)) := hO0
      replace hF := q_us hF hu26 (.head _)
      refine lv_aload_n hx hb d_15_29_64 rfl (lv_at hl 0 rfl) ?_
      refine lv_iconst (v := 0) hx hb d_15_29_65 (by decide) ?_
      refine q_put (ci := 14) (j := 10) (v := .int 0) (ty := .boolean) C0 V i_DR o_DR n_DR rfl rfl hO0 (by decide) w_2013 rfl rfl rfl rfl (Nat.le_of_ble_eq_true rfl) d_15_29_66 (fun H locs w27 hu28 hO0 V => ?_)
      replace hO0 : w27[kO0]? = (some (qO0, .inr (14, [.int 0, .ref qA1, .int 0, .ref qA2, .ref qA3, .ref qA4, .ref qA5, .ref qA6, .int 1, .long 0, .int 0, .int 0, .ref qA7, .int 0, .ref qA8, .int 0, .ref qA9, .int 0, .ref qA10, .int 0, .int 2])) : Option (Nat × va_E)) := hO0
      replace hF := q_us hF hu28 (.head _)
      refine lv_aload_n hx hb d_15_29_69 rfl (lv_at hl 0 rfl) ?_
      refine lv_iconst (v := 0) hx hb d_15_29_70 (by decide) ?_
      refine q_put (ci := 14) (j := 11) (v := .int 0) (ty := .boolean) C0 V i_DR o_DR n_DR rfl rfl hO0 (by decide) w_2014 rfl rfl rfl rfl (Nat.le_of_ble_eq_true rfl) d_15_29_71 (fun H locs w29 hu30 hO0 V => ?_)
      replace hO0 : w29[kO0]? = (some (qO0, .inr (14, [.int 0, .ref qA1, .int 0, .ref qA2, .ref qA3, .ref qA4, .ref qA5, .ref qA6, .int 1, .long 0, .int 0, .int 0, .ref qA7, .int 0, .ref qA8, .int 0, .ref qA9, .int 0, .ref qA10, .int 0, .int 2])) : Option (Nat × va_E)) := hO0
      replace hF := q_us hF hu30 (.head _)
      refine lv_iconst (v := 0) hx hb d_15_29_74 (by decide) ?_
      refine lv_istore (lv' := [(4, .int 0), (0, .ref qO0), (1, .int x1), (2, .int x2), (3, .int x3)]) hx hb d_15_29_75 hl (by decide) rfl (fun ls hl => ?_)
      refine lv_iload hx hb d_15_29_77 (lv_at hl 0 rfl) ?_
      refine lv_iload_n hx hb d_15_29_79 rfl (lv_at hl 3 rfl) ?_
      refine lv_icmp_ge (tgt := 103) hx hb d_15_29_80 (by decide) (fun c31 => ?_) (fun c31 => ?_)
      ·
        refine lv_aload_n hx hb d_15_29_103 rfl (lv_at hl 1 rfl) ?_
        refine lv_iload_n hx hb d_15_29_104 rfl (lv_at hl 4 rfl) ?_
        replace hA2 := (hu30 _ n_A2_O0).trans ((hu28 _ n_A2_O0).trans ((hu26 _ n_A2_O0).trans ((hu24 _ n_A2_A6).trans ((hu22 _ n_A2_O0).trans ((hu20 _ n_A2_O0).trans ((hu17 _ n_A2_O0).trans (hA2)))))))
        replace hA3 := (hu30 _ n_A3_O0).trans ((hu28 _ n_A3_O0).trans ((hu26 _ n_A3_O0).trans ((hu24 _ n_A3_A6).trans ((hu22 _ n_A3_O0).trans ((hu20 _ n_A3_O0).trans ((hu17 _ n_A3_O0).trans (hA3)))))))
        replace hA4 := (hu30 _ n_A4_O0).trans ((hu28 _ n_A4_O0).trans ((hu26 _ n_A4_O0).trans ((hu24 _ n_A4_A6).trans ((hu22 _ n_A4_O0).trans ((hu20 _ n_A4_O0).trans ((hu17 _ n_A4_O0).trans (hA4)))))))
        replace hA5 := (hu30 _ n_A5_O0).trans ((hu28 _ n_A5_O0).trans ((hu26 _ n_A5_O0).trans ((hu24 _ n_A5_A6).trans ((hu22 _ n_A5_O0).trans ((hu20 _ n_A5_O0).trans ((hu17 _ n_A5_O0).trans (hA5)))))))
        replace hA6 := (hu30 _ n_A6_O0).trans ((hu28 _ n_A6_O0).trans ((hu26 _ n_A6_O0).trans (hA6)))
        refine q_gov V (q_runV (As := [.int x3]) (rest := []) (d := 2) (mc := 0) (ms := 0) (ci := 14) C0 V rfl LV_DR_89 (c_DR_store_4 l D g w29 kO0 kA2 kA3 kA4 kA5 kA6 qO0 qA1 qA2 qA3 qA4 qA5 qA6 qA7 qA8 qA9 qA10 x3 hO0 hA2 hA3 hA4 hA5 hA6 n_A2_A3 n_A2_A4 n_A2_A5 n_A2_A6 n_A3_A4 n_A3_A5 n_A3_A6 n_A4_A5 n_A4_A6 n_A5_A6 x3lo x3hi _) rfl rfl hO0 rfl hl.1 rfl (Nat.le_of_ble_eq_true rfl) ⟨by decide, by decide⟩ ⟨Nat.le_of_ble_eq_true rfl, Nat.le_of_ble_eq_true rfl⟩ d_15_29_105) (fun u33 H locs hp32 V => ?_)
        obtain ⟨hg34, hO0, hA2, hA3, hA4, hA5, hA6⟩ := hp32
        replace hF := q_uc hF hg34 (q_sc (.head _) (q_sc (.tail _ (.head _)) (q_sc (.tail _ (.tail _ (.head _))) (q_sc (List.mem_of_getElem? (i := 3) rfl) (q_sc (List.mem_of_getElem? (i := 4) rfl) (q_sc (List.mem_of_getElem? (i := 5) rfl) (fun _ h => absurd h List.not_mem_nil)))))))
        replace hA7 := (hg34 _ (q_nc n_A7_O0 (q_nc n_A7_A2 (q_nc n_A7_A3 (q_nc n_A7_A4 (q_nc n_A7_A5 (q_nc n_A7_A6 List.not_mem_nil))))))).trans ((hu30 _ n_A7_O0).trans ((hu28 _ n_A7_O0).trans ((hu26 _ n_A7_O0).trans ((hu24 _ n_A7_A6).trans ((hu22 _ n_A7_O0).trans ((hu20 _ n_A7_O0).trans ((hu17 _ n_A7_O0).trans (hA7))))))))
        exact q_retv C0 V (Or.inr (Or.inl ⟨c11, c15, c31, hF, hO0, hA2, hA3, hA4, hA5, hA6, hA7⟩)) d_15_29_108
      ·
        refine lv_aload_n hx hb d_15_29_83 rfl (lv_at hl 1 rfl) ?_
        refine lv_iload_n hx hb d_15_29_84 rfl (lv_at hl 2 rfl) ?_
        replace hA2 := (hu30 _ n_A2_O0).trans ((hu28 _ n_A2_O0).trans ((hu26 _ n_A2_O0).trans ((hu24 _ n_A2_A6).trans ((hu22 _ n_A2_O0).trans ((hu20 _ n_A2_O0).trans ((hu17 _ n_A2_O0).trans (hA2)))))))
        replace hA3 := (hu30 _ n_A3_O0).trans ((hu28 _ n_A3_O0).trans ((hu26 _ n_A3_O0).trans ((hu24 _ n_A3_A6).trans ((hu22 _ n_A3_O0).trans ((hu20 _ n_A3_O0).trans ((hu17 _ n_A3_O0).trans (hA3)))))))
        replace hA4 := (hu30 _ n_A4_O0).trans ((hu28 _ n_A4_O0).trans ((hu26 _ n_A4_O0).trans ((hu24 _ n_A4_A6).trans ((hu22 _ n_A4_O0).trans ((hu20 _ n_A4_O0).trans ((hu17 _ n_A4_O0).trans (hA4)))))))
        replace hA5 := (hu30 _ n_A5_O0).trans ((hu28 _ n_A5_O0).trans ((hu26 _ n_A5_O0).trans ((hu24 _ n_A5_A6).trans ((hu22 _ n_A5_O0).trans ((hu20 _ n_A5_O0).trans ((hu17 _ n_A5_O0).trans (hA5)))))))
        replace hA6 := (hu30 _ n_A6_O0).trans ((hu28 _ n_A6_O0).trans ((hu26 _ n_A6_O0).trans (hA6)))
        replace hA7 := (hu30 _ n_A7_O0).trans ((hu28 _ n_A7_O0).trans ((hu26 _ n_A7_O0).trans ((hu24 _ n_A7_A6).trans ((hu22 _ n_A7_O0).trans ((hu20 _ n_A7_O0).trans ((hu17 _ n_A7_O0).trans (hA7)))))))
        refine q_goi V (q_runV (As := [.int x1]) (rest := []) (d := 2) (mc := 0) (ms := 0) (ci := 14) C0 V rfl LV_DR_135 (c_DR_times_2 l D g w29 kO0 kA2 kA3 kA4 kA5 kA6 kA7 qO0 qA1 qA2 qA3 qA4 qA5 qA6 qA7 qA8 qA9 qA10 x1 hO0 hA2 hA3 hA4 hA5 hA6 hA7 n_A2_A6 n_A2_A7 n_A3_A6 n_A3_A7 n_A4_A6 n_A4_A7 n_A5_A6 n_A5_A7 n_A6_A7 x1lo x1hi _) rfl rfl hO0 rfl hl.1 rfl (Nat.le_of_ble_eq_true rfl) ⟨by decide, by decide⟩ ⟨Nat.le_of_ble_eq_true rfl, Nat.le_of_ble_eq_true rfl⟩ d_15_29_85) (fun v37 u36 H locs hp35 V => ?_)
        obtain ⟨rfl, hg38, hO0, hA6, hA7⟩ := hp35
        replace hF := q_uc hF hg38 (q_sc (.head _) (q_sc (List.mem_of_getElem? (i := 5) rfl) (q_sc (List.mem_of_getElem? (i := 6) rfl) (fun _ h => absurd h List.not_mem_nil))))
        refine lv_if_ne (tgt := 97) hx hb d_15_29_88 (by decide) (fun c39 => ?_) (fun c39 => absurd c39 (by decide))
        refine lv_iinc (v := 1) (lv' := [(4, .int 1), (0, .ref qO0), (1, .int x1), (2, .int x2), (3, .int x3)]) hx hb d_15_29_97 hl (k := 0) rfl (by decide) (by decide) rfl (fun ls hl => ?_)
        refine lv_goto (tgt := 77) hx hb d_15_29_100 (by decide) ?_
        replace hA2 := (hg38 _ (q_nc n_A2_O0 (q_nc n_A2_A6 (q_nc n_A2_A7 List.not_mem_nil)))).trans (hA2)
        replace hA3 := (hg38 _ (q_nc n_A3_O0 (q_nc n_A3_A6 (q_nc n_A3_A7 List.not_mem_nil)))).trans (hA3)
        replace hA4 := (hg38 _ (q_nc n_A4_O0 (q_nc n_A4_A6 (q_nc n_A4_A7 List.not_mem_nil)))).trans (hA4)
        replace hA5 := (hg38 _ (q_nc n_A5_O0 (q_nc n_A5_A6 (q_nc n_A5_A7 List.not_mem_nil)))).trans (hA5)
        refine q_loop (X := Int32) (fun z H locs ls w41 => (1 ≤ z.toInt ∧ (z.toInt ≤ x2.toInt ∨ z.toInt = 1)) ∧ q_Wd D g (va_A ws sz) s w41 H locs ∧ lv_has ls 5 [(4, .int z), (0, .ref qO0), (1, .int x1), (2, .int x2), (3, .int x3)] ∧ q_un ws w41 [kO0, kA2, kA3, kA4, kA5, kA6, kA7] ∧ w41[kO0]? = (some (qO0, .inr (14, [.int 0, .ref qA1, .int 0, .ref qA2, .ref qA3, .ref qA4, .ref qA5, .ref qA6, .int 1, .long 0, .int 0, .int 0, .ref qA7, .int 0, .ref qA8, .int 0, .ref qA9, .int 0, .ref qA10, .int 0, .int 2])) : Option (Nat × va_E)) ∧ w41[kA2]? = (some (qA2, .inl (g 0, 10000, .inl (fun _ => 0))) : Option (Nat × va_E)) ∧ w41[kA3]? = (some (qA3, .inl (g 0, 10, .inl (upd (upd (upd (upd (upd (upd (upd (upd (upd (upd (fun _ => 0) 0 1) 1 1) 2 1) 3 1) 4 1) 5 1) 6 1) 7 1) 8 1) 9 1))) : Option (Nat × va_E)) ∧ w41[kA4]? = (some (qA4, .inl (g 3, 10, .inl (fun _ => 0))) : Option (Nat × va_E)) ∧ w41[kA5]? = (some (qA5, .inl (g 0, 10, .inl (fun _ => 0))) : Option (Nat × va_E)) ∧ w41[kA6]? = (some (qA6, .inl (g 0, 4400, .inl (fun _ => 0))) : Option (Nat × va_E)) ∧ w41[kA7]? = (some (qA7, .inl (g 0, 4400, .inl (fun _ => 0))) : Option (Nat × va_E))) (fun z => (x2.toInt - z.toInt).toNat) ?_ ((1 : Int32)) _ _ _ u36 ⟨⟨by decide, Or.inr (by decide)⟩, V, hl, hF, hO0, hA2, hA3, hA4, hA5, hA6, hA7⟩
        rintro lx40 H locs ls w41 ⟨i42, V, hl, hF, hO0, hA2, hA3, hA4, hA5, hA6, hA7⟩ ih43
        replace i42 : 1 ≤ lx40.toInt ∧ (lx40.toInt ≤ x2.toInt ∨ lx40.toInt = 1) := i42
        replace hl : lv_has ls 5 [(4, .int lx40), (0, .ref qO0), (1, .int x1), (2, .int x2), (3, .int x3)] := hl
        replace hO0 : w41[kO0]? = (some (qO0, .inr (14, [.int 0, .ref qA1, .int 0, .ref qA2, .ref qA3, .ref qA4, .ref qA5, .ref qA6, .int 1, .long 0, .int 0, .int 0, .ref qA7, .int 0, .ref qA8, .int 0, .ref qA9, .int 0, .ref qA10, .int 0, .int 2])) : Option (Nat × va_E)) := hO0
        replace hA2 : w41[kA2]? = (some (qA2, .inl (g 0, 10000, .inl (fun _ => 0))) : Option (Nat × va_E)) := hA2
        replace hA3 : w41[kA3]? = (some (qA3, .inl (g 0, 10, .inl (upd (upd (upd (upd (upd (upd (upd (upd (upd (upd (fun _ => 0) 0 1) 1 1) 2 1) 3 1) 4 1) 5 1) 6 1) 7 1) 8 1) 9 1))) : Option (Nat × va_E)) := hA3
        replace hA4 : w41[kA4]? = (some (qA4, .inl (g 3, 10, .inl (fun _ => 0))) : Option (Nat × va_E)) := hA4
        replace hA5 : w41[kA5]? = (some (qA5, .inl (g 0, 10, .inl (fun _ => 0))) : Option (Nat × va_E)) := hA5
        replace hA6 : w41[kA6]? = (some (qA6, .inl (g 0, 4400, .inl (fun _ => 0))) : Option (Nat × va_E)) := hA6
        replace hA7 : w41[kA7]? = (some (qA7, .inl (g 0, 4400, .inl (fun _ => 0))) : Option (Nat × va_E)) := hA7
        refine lv_iload hx hb d_15_29_77 (lv_at hl 0 rfl) ?_
        refine lv_iload_n hx hb d_15_29_79 rfl (lv_at hl 3 rfl) ?_
        refine lv_icmp_ge (tgt := 103) hx hb d_15_29_80 (by decide) (fun c44 => ?_) (fun c44 => ?_)
        ·
          refine lv_aload_n hx hb d_15_29_103 rfl (lv_at hl 1 rfl) ?_
          refine lv_iload_n hx hb d_15_29_104 rfl (lv_at hl 4 rfl) ?_
          refine q_gov V (q_runV (As := [.int x3]) (rest := []) (d := 2) (mc := 0) (ms := 0) (ci := 14) C0 V rfl LV_DR_89 (c_DR_store l D g w41 kO0 kA2 kA3 kA4 kA5 kA6 qO0 qA1 qA2 qA3 qA4 qA5 qA6 qA7 qA8 qA9 qA10 x3 hO0 hA2 hA3 hA4 hA5 hA6 n_A2_A3 n_A2_A4 n_A2_A5 n_A2_A6 n_A3_A4 n_A3_A5 n_A3_A6 n_A4_A5 n_A4_A6 n_A5_A6 x3lo x3hi _) rfl rfl hO0 rfl hl.1 rfl (Nat.le_of_ble_eq_true rfl) ⟨by decide, by decide⟩ ⟨Nat.le_of_ble_eq_true rfl, Nat.le_of_ble_eq_true rfl⟩ d_15_29_105) (fun u46 H locs hp45 V => ?_)
          obtain ⟨hg47, hO0, hA2, hA3, hA4, hA5, hA6⟩ := hp45
          replace hF := q_uc hF hg47 (q_sc (.head _) (q_sc (.tail _ (.head _)) (q_sc (.tail _ (.tail _ (.head _))) (q_sc (List.mem_of_getElem? (i := 3) rfl) (q_sc (List.mem_of_getElem? (i := 4) rfl) (q_sc (List.mem_of_getElem? (i := 5) rfl) (fun _ h => absurd h List.not_mem_nil)))))))
          replace hA7 := (hg47 _ (q_nc n_A7_O0 (q_nc n_A7_A2 (q_nc n_A7_A3 (q_nc n_A7_A4 (q_nc n_A7_A5 (q_nc n_A7_A6 List.not_mem_nil))))))).trans (hA7)
          exact q_retv C0 V (Or.inr (Or.inr (Or.inl ⟨c11, c15, c31, hF, hO0, hA2, hA3, hA4, hA5, hA6, hA7⟩))) d_15_29_108
        ·
          refine lv_aload_n hx hb d_15_29_83 rfl (lv_at hl 1 rfl) ?_
          refine lv_iload_n hx hb d_15_29_84 rfl (lv_at hl 2 rfl) ?_
          refine q_goi V (q_runV (As := [.int x1]) (rest := []) (d := 2) (mc := 0) (ms := 0) (ci := 14) C0 V rfl LV_DR_135 (c_DR_times l D g w41 kO0 kA2 kA3 kA4 kA5 kA6 kA7 qO0 qA1 qA2 qA3 qA4 qA5 qA6 qA7 qA8 qA9 qA10 x1 hO0 hA2 hA3 hA4 hA5 hA6 hA7 n_A2_A6 n_A2_A7 n_A3_A6 n_A3_A7 n_A4_A6 n_A4_A7 n_A5_A6 n_A5_A7 n_A6_A7 x1lo x1hi _) rfl rfl hO0 rfl hl.1 rfl (Nat.le_of_ble_eq_true rfl) ⟨by decide, by decide⟩ ⟨Nat.le_of_ble_eq_true rfl, Nat.le_of_ble_eq_true rfl⟩ d_15_29_85) (fun v50 u49 H locs hp48 V => ?_)
          obtain ⟨rfl, hg51, hO0, hA6, hA7⟩ := hp48
          replace hF := q_uc hF hg51 (q_sc (.head _) (q_sc (List.mem_of_getElem? (i := 5) rfl) (q_sc (List.mem_of_getElem? (i := 6) rfl) (fun _ h => absurd h List.not_mem_nil))))
          refine lv_if_ne (tgt := 97) hx hb d_15_29_88 (by decide) (fun c52 => ?_) (fun c52 => absurd c52 (by decide))
          refine lv_iinc (v := lx40 + 1) (lv' := [(4, .int (lx40 + 1)), (0, .ref qO0), (1, .int x1), (2, .int x2), (3, .int x3)]) hx hb d_15_29_97 hl (k := 0) rfl (rfl) (by decide) rfl (fun ls hl => ?_)
          refine lv_goto (tgt := 77) hx hb d_15_29_100 (by decide) ?_
          replace hA2 := (hg51 _ (q_nc n_A2_O0 (q_nc n_A2_A6 (q_nc n_A2_A7 List.not_mem_nil)))).trans (hA2)
          replace hA3 := (hg51 _ (q_nc n_A3_O0 (q_nc n_A3_A6 (q_nc n_A3_A7 List.not_mem_nil)))).trans (hA3)
          replace hA4 := (hg51 _ (q_nc n_A4_O0 (q_nc n_A4_A6 (q_nc n_A4_A7 List.not_mem_nil)))).trans (hA4)
          replace hA5 := (hg51 _ (q_nc n_A5_O0 (q_nc n_A5_A6 (q_nc n_A5_A7 List.not_mem_nil)))).trans (hA5)
          exact ih43 ((lx40 + 1 : Int32)) _ _ _ _ (show (x2.toInt - (lx40 + 1).toInt).toNat < (x2.toInt - lx40.toInt).toNat from by have t1 : 0 ≤ x2.toInt := q_nltI c11; have t2 : x2.toInt ≤ 999 := q_leI c15; have t3 : 0 < x2.toInt := q_nleI c31; have t4 : lx40.toInt < x2.toInt := q_nleI c44; have e : (lx40 + 1).toInt = (lx40.toInt + 1) := (q_addI (x := lx40.toInt) (y := 1) rfl (by decide) (by have t1 : 0 ≤ x2.toInt := q_nltI c11; have t2 : x2.toInt ≤ 999 := q_leI c15; have t3 : 0 < x2.toInt := q_nleI c31; have t4 : lx40.toInt < x2.toInt := q_nleI c44; omega) (by have t1 : 0 ≤ x2.toInt := q_nltI c11; have t2 : x2.toInt ≤ 999 := q_leI c15; have t3 : 0 < x2.toInt := q_nleI c31; have t4 : lx40.toInt < x2.toInt := q_nleI c44; omega)); omega) ⟨(show 1 ≤ (lx40 + 1).toInt ∧ ((lx40 + 1).toInt ≤ x2.toInt ∨ (lx40 + 1).toInt = 1) from by have t1 : 0 ≤ x2.toInt := q_nltI c11; have t2 : x2.toInt ≤ 999 := q_leI c15; have t3 : 0 < x2.toInt := q_nleI c31; have t4 : lx40.toInt < x2.toInt := q_nleI c44; have e : (lx40 + 1).toInt = (lx40.toInt + 1) := (q_addI (x := lx40.toInt) (y := 1) rfl (by decide) (by have t1 : 0 ≤ x2.toInt := q_nltI c11; have t2 : x2.toInt ≤ 999 := q_leI c15; have t3 : 0 < x2.toInt := q_nleI c31; have t4 : lx40.toInt < x2.toInt := q_nleI c44; omega) (by have t1 : 0 ≤ x2.toInt := q_nltI c11; have t2 : x2.toInt ≤ 999 := q_leI c15; have t3 : 0 < x2.toInt := q_nleI c31; have t4 : lx40.toInt < x2.toInt := q_nleI c44; omega)); omega), V, q_lw hl (q_lw1 0 rfl (q_lw1 1 rfl (q_lw1 2 rfl (q_lw1 3 rfl (q_lw1 4 rfl q_lw0))))), hF, hO0, hA2, hA3, hA4, hA5, hA6, hA7⟩
    ·
      refine lv_iconst (v := 1) hx hb d_15_29_26 (by decide) ?_
      refine lv_goto (tgt := 31) hx hb d_15_29_27 (by decide) ?_
      refine q_put (ci := 14) (j := 0) (v := .int 1) (ty := .int) C0 V i_DR o_DR n_DR rfl rfl hO0 (by decide) w_1996 rfl rfl rfl rfl (Nat.le_of_ble_eq_true rfl) d_15_29_31 (fun H locs w53 hu54 hO0 V => ?_)
      replace hO0 : w53[kO0]? = (some (qO0, .inr (14, [.int 1, .ref qA1, .int 0, .ref qA2, .ref qA3, .ref qA4, .ref qA5, .ref qA6, .int 0, .long 0, .int 0, .int 0, .ref qA7, .int 0, .ref qA8, .int 0, .ref qA9, .int 0, .ref qA10, .int 0, .int 0])) : Option (Nat × va_E)) := hO0
      replace hF := q_us hF hu54 (.head _)
      refine lv_aload_n hx hb d_15_29_34 rfl (lv_at hl 0 rfl) ?_
      refine q_get (ci := 14) (j := 0) (v := .int 1) C0 V i_DR rfl rfl hO0 (by decide) w_1996 rfl d_15_29_35 ?_
      refine lv_if_le (tgt := 42) hx hb d_15_29_38 (by decide) (fun c55 => absurd c55 (by decide)) (fun c55 => ?_)
      replace hA2 := (hu54 _ n_A2_O0).trans (hA2)
      replace hA3 := (hu54 _ n_A3_O0).trans (hA3)
      replace hA4 := (hu54 _ n_A4_O0).trans (hA4)
      replace hA5 := (hu54 _ n_A5_O0).trans (hA5)
      replace hA6 := (hu54 _ n_A6_O0).trans (hA6)
      replace hA7 := (hu54 _ n_A7_O0).trans (hA7)
      exact q_retv C0 V (Or.inr (Or.inr (Or.inr (⟨c11, c15, hF, hO0, hA2, hA3, hA4, hA5, hA6, hA7⟩)))) d_15_29_41
theorem d_14_24_0 : decode prog_14_method_24_code 0 = .ok (.aload_n 0, 1) := by decide +kernel
theorem d_14_24_1 : decode prog_14_method_24_code 1 = .ok (.iload_n 1, 1) := by decide +kernel
theorem d_14_24_2 : decode prog_14_method_24_code 2 = .ok (.ifCond .lt 23, 3) := by decide +kernel
theorem d_14_24_25 : decode prog_14_method_24_code 25 = .ok (.iconst 1, 1) := by decide +kernel
theorem d_14_24_26 : decode prog_14_method_24_code 26 = .ok (.goto 4, 3) := by decide +kernel
theorem d_14_24_30 : decode prog_14_method_24_code 30 = .ok (.putfield 58, 3) := by decide +kernel
theorem d_14_24_33 : decode prog_14_method_24_code 33 = .ok (.aload_n 0, 1) := by decide +kernel
theorem d_14_24_34 : decode prog_14_method_24_code 34 = .ok (.getfield 58, 3) := by decide +kernel
theorem d_14_24_37 : decode prog_14_method_24_code 37 = .ok (.ifCond .le 4, 3) := by decide +kernel
theorem d_14_24_40 : decode prog_14_method_24_code 40 = .ok (.return_, 1) := by decide +kernel
theorem d_14_24_5 : decode prog_14_method_24_code 5 = .ok (.iload_n 1, 1) := by decide +kernel
theorem d_14_24_6 : decode prog_14_method_24_code 6 = .ok (.iconst 2, 1) := by decide +kernel
theorem d_14_24_7 : decode prog_14_method_24_code 7 = .ok (.if_icmp .gt 18, 3) := by decide +kernel
theorem d_14_24_10 : decode prog_14_method_24_code 10 = .ok (.iload_n 2, 1) := by decide +kernel
theorem d_14_24_11 : decode prog_14_method_24_code 11 = .ok (.invokestatic 70, 3) := by decide +kernel
theorem d_14_24_14 : decode prog_14_method_24_code 14 = .ok (.ifCond .ne 11, 3) := by decide +kernel
theorem d_14_24_17 : decode prog_14_method_24_code 17 = .ok (.iload 4, 2) := by decide +kernel
theorem d_14_24_19 : decode prog_14_method_24_code 19 = .ok (.invokestatic 70, 3) := by decide +kernel
theorem d_14_24_22 : decode prog_14_method_24_code 22 = .ok (.ifCond .eq 7, 3) := by decide +kernel
theorem d_14_24_29 : decode prog_14_method_24_code 29 = .ok (.iconst 0, 1) := by decide +kernel
theorem d_14_24_41 : decode prog_14_method_24_code 41 = .ok (.iload_n 1, 1) := by decide +kernel
theorem d_14_24_42 : decode prog_14_method_24_code 42 = .ok (.ifCond .ne 17, 3) := by decide +kernel
theorem d_14_24_59 : decode prog_14_method_24_code 59 = .ok (.iload_n 1, 1) := by decide +kernel
theorem d_14_24_60 : decode prog_14_method_24_code 60 = .ok (.iconst 1, 1) := by decide +kernel
theorem d_14_24_61 : decode prog_14_method_24_code 61 = .ok (.if_icmp .ne 17, 3) := by decide +kernel
theorem d_14_24_78 : decode prog_14_method_24_code 78 = .ok (.aload_n 0, 1) := by decide +kernel
theorem d_14_24_79 : decode prog_14_method_24_code 79 = .ok (.getfield 26, 3) := by decide +kernel
theorem d_14_24_82 : decode prog_14_method_24_code 82 = .ok (.iload_n 2, 1) := by decide +kernel
theorem d_14_24_83 : decode prog_14_method_24_code 83 = .ok (.iload 4, 2) := by decide +kernel
theorem d_14_24_85 : decode prog_14_method_24_code 85 = .ok (.invokevirtual 210, 3) := by decide +kernel
theorem w_2859 : (Cond.code ({ cls := "NumberHouseModel$DecimalRows", name := "strip", desc := "(II)V" } : MethodName) prog_15_method_45_code (4 : Nat) (none : Option ClassFile.FieldType)) ∈ q_tbl := q_of 2859 (by decide +kernel) (by decide +kernel)
theorem w_2856 : (Cond.methodLink "NumberHouseModel" (210 : Nat) ({ cls := "NumberHouseModel$DecimalRows", name := "strip", desc := "(II)V" } : MethodName)) ∈ q_tbl := q_of 2856 (by decide +kernel) (by decide +kernel)
theorem w_2857 : (Cond.instanceMethod ({ cls := "NumberHouseModel$DecimalRows", name := "strip", desc := "(II)V" } : MethodName)) ∈ q_tbl := q_of 2857 (by decide +kernel) (by decide +kernel)
theorem w_2858 : (Cond.selects "NumberHouseModel$DecimalRows" ({ cls := "NumberHouseModel$DecimalRows", name := "strip", desc := "(II)V" } : MethodName) ({ cls := "NumberHouseModel$DecimalRows", name := "strip", desc := "(II)V" } : MethodName)) ∈ q_tbl := q_of 2858 (by decide +kernel) (by decide +kernel)
theorem LV_NM_210 : q_LV "NumberHouseModel" 210 y_DR_strip prog_15_method_45_code 4 none 2 := ⟨w_2859, w_16, w_2856, w_2857, w_2858, ⟨by decide, by decide, by decide +kernel⟩⟩
theorem d_14_24_88 : decode prog_14_method_24_code 88 = .ok (.aload_n 0, 1) := by decide +kernel
theorem d_14_24_89 : decode prog_14_method_24_code 89 = .ok (.aload_n 0, 1) := by decide +kernel
theorem d_14_24_90 : decode prog_14_method_24_code 90 = .ok (.getfield 26, 3) := by decide +kernel
theorem d_14_24_93 : decode prog_14_method_24_code 93 = .ok (.getfield 105, 3) := by decide +kernel
theorem d_14_24_96 : decode prog_14_method_24_code 96 = .ok (.putfield 58, 3) := by decide +kernel
theorem d_14_24_99 : decode prog_14_method_24_code 99 = .ok (.return_, 1) := by decide +kernel
theorem d_14_24_64 : decode prog_14_method_24_code 64 = .ok (.aload_n 0, 1) := by decide +kernel
theorem d_14_24_65 : decode prog_14_method_24_code 65 = .ok (.getfield 26, 3) := by decide +kernel
theorem d_14_24_68 : decode prog_14_method_24_code 68 = .ok (.iload_n 2, 1) := by decide +kernel
theorem d_14_24_69 : decode prog_14_method_24_code 69 = .ok (.iload 4, 2) := by decide +kernel
theorem d_14_24_71 : decode prog_14_method_24_code 71 = .ok (.iload_n 3, 1) := by decide +kernel
theorem d_14_24_72 : decode prog_14_method_24_code 72 = .ok (.invokevirtual 209, 3) := by decide +kernel
theorem w_2855 : (Cond.code ({ cls := "NumberHouseModel$DecimalRows", name := "shift", desc := "(III)V" } : MethodName) prog_15_method_46_code (4 : Nat) (none : Option ClassFile.FieldType)) ∈ q_tbl := q_of 2855 (by decide +kernel) (by decide +kernel)
theorem w_2852 : (Cond.methodLink "NumberHouseModel" (209 : Nat) ({ cls := "NumberHouseModel$DecimalRows", name := "shift", desc := "(III)V" } : MethodName)) ∈ q_tbl := q_of 2852 (by decide +kernel) (by decide +kernel)
theorem w_2853 : (Cond.instanceMethod ({ cls := "NumberHouseModel$DecimalRows", name := "shift", desc := "(III)V" } : MethodName)) ∈ q_tbl := q_of 2853 (by decide +kernel) (by decide +kernel)
theorem w_2854 : (Cond.selects "NumberHouseModel$DecimalRows" ({ cls := "NumberHouseModel$DecimalRows", name := "shift", desc := "(III)V" } : MethodName) ({ cls := "NumberHouseModel$DecimalRows", name := "shift", desc := "(III)V" } : MethodName)) ∈ q_tbl := q_of 2854 (by decide +kernel) (by decide +kernel)
theorem LV_NM_209 : q_LV "NumberHouseModel" 209 y_DR_shift prog_15_method_46_code 4 none 3 := ⟨w_2855, w_16, w_2852, w_2853, w_2854, ⟨by decide, by decide, by decide +kernel⟩⟩
theorem d_14_24_75 : decode prog_14_method_24_code 75 = .ok (.goto 13, 3) := by decide +kernel
theorem d_14_24_45 : decode prog_14_method_24_code 45 = .ok (.aload_n 0, 1) := by decide +kernel
theorem d_14_24_46 : decode prog_14_method_24_code 46 = .ok (.getfield 26, 3) := by decide +kernel
theorem d_14_24_49 : decode prog_14_method_24_code 49 = .ok (.iload_n 2, 1) := by decide +kernel
theorem d_14_24_50 : decode prog_14_method_24_code 50 = .ok (.iload_n 3, 1) := by decide +kernel
theorem d_14_24_51 : decode prog_14_method_24_code 51 = .ok (.iload 4, 2) := by decide +kernel
theorem d_14_24_53 : decode prog_14_method_24_code 53 = .ok (.invokevirtual 208, 3) := by decide +kernel
theorem w_2851 : (Cond.code ({ cls := "NumberHouseModel$DecimalRows", name := "power", desc := "(III)V" } : MethodName) prog_15_method_29_code (5 : Nat) (none : Option ClassFile.FieldType)) ∈ q_tbl := q_of 2851 (by decide +kernel) (by decide +kernel)
theorem w_2848 : (Cond.methodLink "NumberHouseModel" (208 : Nat) ({ cls := "NumberHouseModel$DecimalRows", name := "power", desc := "(III)V" } : MethodName)) ∈ q_tbl := q_of 2848 (by decide +kernel) (by decide +kernel)
theorem w_2849 : (Cond.instanceMethod ({ cls := "NumberHouseModel$DecimalRows", name := "power", desc := "(III)V" } : MethodName)) ∈ q_tbl := q_of 2849 (by decide +kernel) (by decide +kernel)
theorem w_2850 : (Cond.selects "NumberHouseModel$DecimalRows" ({ cls := "NumberHouseModel$DecimalRows", name := "power", desc := "(III)V" } : MethodName) ({ cls := "NumberHouseModel$DecimalRows", name := "power", desc := "(III)V" } : MethodName)) ∈ q_tbl := q_of 2850 (by decide +kernel) (by decide +kernel)
theorem LV_NM_208 : q_LV "NumberHouseModel" 208 y_DR_power prog_15_method_29_code 5 none 3 := ⟨w_2851, w_16, w_2848, w_2849, w_2850, ⟨by decide, by decide, by decide +kernel⟩⟩
theorem d_14_24_56 : decode prog_14_method_24_code 56 = .ok (.goto 32, 3) := by decide +kernel
def y_NM_decimalBy : MethodName := ⟨"NumberHouseModel", "decimalBy", "(IIII)V"⟩
set_option maxRecDepth 100000 in
set_option maxHeartbeats 4000000 in
/-- decimalBy on a fresh object -/
theorem c_NM_decimalBy (l : Launch) (D : va_G) (g : Nat → ClassId) (ws : va_W) ( qO0 qA1 qA2 qO3 qO4 qO5 qO6 qO7 qA8 qA9 qA24 qA25 qA26 qA27 qA28 qA29 qA30 qA31 qA32 qA33 : Nat) (x1 : Int32) (x2 : Int32) (x3 : Int32) (x4 : Int32) (hO0 : ws[116]? = (some (qO0, .inr (12, [.int 0, .ref qA1, .int 0, .ref qA2, .int 0, .ref qO3, .ref qO4, .ref qO5, .ref qO6, .ref qO7, .ref qA8, .ref qA9])) : Option (Nat × va_E))) (hO4 : ws[134]? = (some (qO4, .inr (14, [.int 0, .ref qA24, .int 0, .ref qA25, .ref qA26, .ref qA27, .ref qA28, .ref qA29, .int 0, .long 0, .int 0, .int 0, .ref qA30, .int 0, .ref qA31, .int 0, .ref qA32, .int 0, .ref qA33, .int 0, .int 0])) : Option (Nat × va_E))) (hA25 : ws[136]? = (some (qA25, .inl (g 0, 10000, .inl (fun _ => 0))) : Option (Nat × va_E))) (hA26 : ws[137]? = (some (qA26, .inl (g 0, 10, .inl (upd (upd (upd (upd (upd (upd (upd (upd (upd (upd (fun _ => 0) 0 1) 1 1) 2 1) 3 1) 4 1) 5 1) 6 1) 7 1) 8 1) 9 1))) : Option (Nat × va_E))) (hA27 : ws[138]? = (some (qA27, .inl (g 3, 10, .inl (fun _ => 0))) : Option (Nat × va_E))) (hA28 : ws[139]? = (some (qA28, .inl (g 0, 10, .inl (fun _ => 0))) : Option (Nat × va_E))) (hA29 : ws[140]? = (some (qA29, .inl (g 0, 4400, .inl (fun _ => 0))) : Option (Nat × va_E))) (hA30 : ws[141]? = (some (qA30, .inl (g 0, 4400, .inl (fun _ => 0))) : Option (Nat × va_E))) : q_mV l y_NM_decimalBy prog_14_method_24_code 5 4 0 0 D g [.ref qO0, .int x1, .int x2, .int x3, .int x4] ws (fun u => ∃ (t0 z2 z4 : Int32), u[116]? = (some (qO0, .inr (12, [.int t0, .ref qA1, .int z2, .ref qA2, .int z4, .ref qO3, .ref qO4, .ref qO5, .ref qO6, .ref qO7, .ref qA8, .ref qA9])) : Option (Nat × va_E)) ∧ ((t0.toInt = 0 ∧ ((0 ≤ x1.toInt ∧ x1.toInt ≤ 2) ∧ (0 ≤ x2.toInt ∧ x2.toInt ≤ 9) ∧ (0 ≤ x4.toInt ∧ x4.toInt ≤ 9) ∧ (x1.toInt = 0 → (0 ≤ x3.toInt ∧ x3.toInt ≤ 999))) ∧ ¬ ((x1.toInt = 1 ∧ ¬ (-10000 ≤ x3.toInt ∧ x3.toInt ≤ 10000)))) ∨ (t0.toInt = 1 ∧ ¬ ((0 ≤ x1.toInt ∧ x1.toInt ≤ 2) ∧ (0 ≤ x2.toInt ∧ x2.toInt ≤ 9) ∧ (0 ≤ x4.toInt ∧ x4.toInt ≤ 9) ∧ (x1.toInt = 0 → (0 ≤ x3.toInt ∧ x3.toInt ≤ 999)))) ∨ (t0.toInt = 2 ∧ ((0 ≤ x1.toInt ∧ x1.toInt ≤ 2) ∧ (0 ≤ x2.toInt ∧ x2.toInt ≤ 9) ∧ (0 ≤ x4.toInt ∧ x4.toInt ≤ 9) ∧ (x1.toInt = 0 → (0 ≤ x3.toInt ∧ x3.toInt ≤ 999))) ∧ (x1.toInt = 1 ∧ ¬ (-10000 ≤ x3.toInt ∧ x3.toInt ≤ 10000)))) ∧ q_ge 169 ws u) := by
  intro sz
  refine q_into (by decide) (Nat.le_of_ble_eq_true rfl) ?_
  intro p e s m below meth c ls hsz C0 V hl
  have hx := C0.1
  have hb := C0.2.1
  have hl : lv_has ls 5 [(0, .ref qO0), (1, .int x1), (2, .int x2), (3, .int x3), (4, .int x4)] := hl
  have hF : q_ge 169 ws ws := q_g0
  refine lv_aload_n hx hb d_14_24_0 rfl (lv_at hl 0 rfl) ?_
  refine lv_iload_n hx hb d_14_24_1 rfl (lv_at hl 1 rfl) ?_
  refine lv_if_lt (tgt := 25) hx hb d_14_24_2 (by decide) (fun c1 => ?_) (fun c1 => ?_)
  ·
    refine lv_iconst (v := 1) hx hb d_14_24_25 (by decide) ?_
    refine lv_goto (tgt := 30) hx hb d_14_24_26 (by decide) ?_
    refine q_put (ci := 12) (j := 0) (v := .int 1) (ty := .int) C0 V i_NM o_NM n_NM rfl rfl hO0 (by decide) w_2298 rfl rfl rfl rfl (Nat.le_of_ble_eq_true rfl) d_14_24_30 (fun H locs w2 hu3 hO0 V => ?_)
    replace hO0 : w2[116]? = (some (qO0, .inr (12, [.int 1, .ref qA1, .int 0, .ref qA2, .int 0, .ref qO3, .ref qO4, .ref qO5, .ref qO6, .ref qO7, .ref qA8, .ref qA9])) : Option (Nat × va_E)) := hO0
    replace hF := q_gs hF hu3 (Nat.le_of_ble_eq_true rfl)
    refine lv_aload_n hx hb d_14_24_33 rfl (lv_at hl 0 rfl) ?_
    refine q_get (ci := 12) (j := 0) (v := .int 1) C0 V i_NM rfl rfl hO0 (by decide) w_2298 rfl d_14_24_34 ?_
    refine lv_if_le (tgt := 41) hx hb d_14_24_37 (by decide) (fun c4 => absurd c4 (by decide)) (fun c4 => ?_)
    exact q_retv C0 V (⟨1, 0, 0, hO0, (show ((1 : Int32).toInt = 0 ∧ ((0 ≤ x1.toInt ∧ x1.toInt ≤ 2) ∧ (0 ≤ x2.toInt ∧ x2.toInt ≤ 9) ∧ (0 ≤ x4.toInt ∧ x4.toInt ≤ 9) ∧ (x1.toInt = 0 → (0 ≤ x3.toInt ∧ x3.toInt ≤ 999))) ∧ ¬ ((x1.toInt = 1 ∧ ¬ (-10000 ≤ x3.toInt ∧ x3.toInt ≤ 10000)))) ∨ ((1 : Int32).toInt = 1 ∧ ¬ ((0 ≤ x1.toInt ∧ x1.toInt ≤ 2) ∧ (0 ≤ x2.toInt ∧ x2.toInt ≤ 9) ∧ (0 ≤ x4.toInt ∧ x4.toInt ≤ 9) ∧ (x1.toInt = 0 → (0 ≤ x3.toInt ∧ x3.toInt ≤ 999)))) ∨ ((1 : Int32).toInt = 2 ∧ ((0 ≤ x1.toInt ∧ x1.toInt ≤ 2) ∧ (0 ≤ x2.toInt ∧ x2.toInt ≤ 9) ∧ (0 ≤ x4.toInt ∧ x4.toInt ≤ 9) ∧ (x1.toInt = 0 → (0 ≤ x3.toInt ∧ x3.toInt ≤ 999))) ∧ (x1.toInt = 1 ∧ ¬ (-10000 ≤ x3.toInt ∧ x3.toInt ≤ 10000))) from by have t1 : x1.toInt < 0 := q_ltI c1; have e0 : (1 : Int32).toInt = 1 := (by decide); omega), hF⟩) d_14_24_40
  ·
    refine lv_iload_n hx hb d_14_24_5 rfl (lv_at hl 1 rfl) ?_
    refine lv_iconst (v := 2) hx hb d_14_24_6 (by decide) ?_
    refine lv_icmp_gt (tgt := 25) hx hb d_14_24_7 (by decide) (fun c5 => ?_) (fun c5 => ?_)
    ·
      refine lv_iconst (v := 1) hx hb d_14_24_25 (by decide) ?_
      refine lv_goto (tgt := 30) hx hb d_14_24_26 (by decide) ?_
      refine q_put (ci := 12) (j := 0) (v := .int 1) (ty := .int) C0 V i_NM o_NM n_NM rfl rfl hO0 (by decide) w_2298 rfl rfl rfl rfl (Nat.le_of_ble_eq_true rfl) d_14_24_30 (fun H locs w6 hu7 hO0 V => ?_)
      replace hO0 : w6[116]? = (some (qO0, .inr (12, [.int 1, .ref qA1, .int 0, .ref qA2, .int 0, .ref qO3, .ref qO4, .ref qO5, .ref qO6, .ref qO7, .ref qA8, .ref qA9])) : Option (Nat × va_E)) := hO0
      replace hF := q_gs hF hu7 (Nat.le_of_ble_eq_true rfl)
      refine lv_aload_n hx hb d_14_24_33 rfl (lv_at hl 0 rfl) ?_
      refine q_get (ci := 12) (j := 0) (v := .int 1) C0 V i_NM rfl rfl hO0 (by decide) w_2298 rfl d_14_24_34 ?_
      refine lv_if_le (tgt := 41) hx hb d_14_24_37 (by decide) (fun c8 => absurd c8 (by decide)) (fun c8 => ?_)
      exact q_retv C0 V (⟨1, 0, 0, hO0, (show ((1 : Int32).toInt = 0 ∧ ((0 ≤ x1.toInt ∧ x1.toInt ≤ 2) ∧ (0 ≤ x2.toInt ∧ x2.toInt ≤ 9) ∧ (0 ≤ x4.toInt ∧ x4.toInt ≤ 9) ∧ (x1.toInt = 0 → (0 ≤ x3.toInt ∧ x3.toInt ≤ 999))) ∧ ¬ ((x1.toInt = 1 ∧ ¬ (-10000 ≤ x3.toInt ∧ x3.toInt ≤ 10000)))) ∨ ((1 : Int32).toInt = 1 ∧ ¬ ((0 ≤ x1.toInt ∧ x1.toInt ≤ 2) ∧ (0 ≤ x2.toInt ∧ x2.toInt ≤ 9) ∧ (0 ≤ x4.toInt ∧ x4.toInt ≤ 9) ∧ (x1.toInt = 0 → (0 ≤ x3.toInt ∧ x3.toInt ≤ 999)))) ∨ ((1 : Int32).toInt = 2 ∧ ((0 ≤ x1.toInt ∧ x1.toInt ≤ 2) ∧ (0 ≤ x2.toInt ∧ x2.toInt ≤ 9) ∧ (0 ≤ x4.toInt ∧ x4.toInt ≤ 9) ∧ (x1.toInt = 0 → (0 ≤ x3.toInt ∧ x3.toInt ≤ 999))) ∧ (x1.toInt = 1 ∧ ¬ (-10000 ≤ x3.toInt ∧ x3.toInt ≤ 10000))) from by have t1 : 0 ≤ x1.toInt := q_nltI c1; have t2 : 2 < x1.toInt := q_ltI c5; have e0 : (1 : Int32).toInt = 1 := (by decide); omega), hF⟩) d_14_24_40
    ·
      refine lv_iload_n hx hb d_14_24_10 rfl (lv_at hl 2 rfl) ?_
      refine q_goi V (q_runS (As := [.int x2]) (rest := [.ref qO0]) (d := 1) (mc := 0) (ms := 0) C0 V rfl LS_NM_70 (c_NM_no_IZ l D g ws x2 _) rfl hl.1 rfl (Nat.le_of_ble_eq_true rfl) ⟨by decide, by decide⟩ ⟨Nat.le_of_ble_eq_true rfl, Nat.le_of_ble_eq_true rfl⟩ d_14_24_11) (fun v11 u10 H locs hp9 V => ?_)
      rcases hp9 with ⟨c12, rfl, rfl⟩ | ⟨c14, c15, rfl, rfl⟩ | ⟨c17, c18, rfl, rfl⟩
      ·
        refine lv_if_ne (tgt := 25) hx hb d_14_24_14 (by decide) (fun c20 => ?_) (fun c20 => absurd c20 (by decide))
        refine lv_iconst (v := 1) hx hb d_14_24_25 (by decide) ?_
        refine lv_goto (tgt := 30) hx hb d_14_24_26 (by decide) ?_
        refine q_put (ci := 12) (j := 0) (v := .int 1) (ty := .int) C0 V i_NM o_NM n_NM rfl rfl hO0 (by decide) w_2298 rfl rfl rfl rfl (Nat.le_of_ble_eq_true rfl) d_14_24_30 (fun H locs w21 hu22 hO0 V => ?_)
        replace hO0 : w21[116]? = (some (qO0, .inr (12, [.int 1, .ref qA1, .int 0, .ref qA2, .int 0, .ref qO3, .ref qO4, .ref qO5, .ref qO6, .ref qO7, .ref qA8, .ref qA9])) : Option (Nat × va_E)) := hO0
        replace hF := q_gs hF hu22 (Nat.le_of_ble_eq_true rfl)
        refine lv_aload_n hx hb d_14_24_33 rfl (lv_at hl 0 rfl) ?_
        refine q_get (ci := 12) (j := 0) (v := .int 1) C0 V i_NM rfl rfl hO0 (by decide) w_2298 rfl d_14_24_34 ?_
        refine lv_if_le (tgt := 41) hx hb d_14_24_37 (by decide) (fun c23 => absurd c23 (by decide)) (fun c23 => ?_)
        exact q_retv C0 V (⟨1, 0, 0, hO0, (show ((1 : Int32).toInt = 0 ∧ ((0 ≤ x1.toInt ∧ x1.toInt ≤ 2) ∧ (0 ≤ x2.toInt ∧ x2.toInt ≤ 9) ∧ (0 ≤ x4.toInt ∧ x4.toInt ≤ 9) ∧ (x1.toInt = 0 → (0 ≤ x3.toInt ∧ x3.toInt ≤ 999))) ∧ ¬ ((x1.toInt = 1 ∧ ¬ (-10000 ≤ x3.toInt ∧ x3.toInt ≤ 10000)))) ∨ ((1 : Int32).toInt = 1 ∧ ¬ ((0 ≤ x1.toInt ∧ x1.toInt ≤ 2) ∧ (0 ≤ x2.toInt ∧ x2.toInt ≤ 9) ∧ (0 ≤ x4.toInt ∧ x4.toInt ≤ 9) ∧ (x1.toInt = 0 → (0 ≤ x3.toInt ∧ x3.toInt ≤ 999)))) ∨ ((1 : Int32).toInt = 2 ∧ ((0 ≤ x1.toInt ∧ x1.toInt ≤ 2) ∧ (0 ≤ x2.toInt ∧ x2.toInt ≤ 9) ∧ (0 ≤ x4.toInt ∧ x4.toInt ≤ 9) ∧ (x1.toInt = 0 → (0 ≤ x3.toInt ∧ x3.toInt ≤ 999))) ∧ (x1.toInt = 1 ∧ ¬ (-10000 ≤ x3.toInt ∧ x3.toInt ≤ 10000))) from by have t1 : 0 ≤ x1.toInt := q_nltI c1; have t2 : x1.toInt ≤ 2 := q_nltI c5; have t3 : x2.toInt < 0 := q_ltI c12; have e0 : (1 : Int32).toInt = 1 := (by decide); omega), hF⟩) d_14_24_40
      ·
        refine lv_if_ne (tgt := 25) hx hb d_14_24_14 (by decide) (fun c24 => absurd (by decide) c24) (fun c24 => ?_)
        refine lv_iload hx hb d_14_24_17 (lv_at hl 4 rfl) ?_
        refine q_goi V (q_runS (As := [.int x4]) (rest := [.ref qO0]) (d := 1) (mc := 0) (ms := 0) C0 V rfl LS_NM_70 (c_NM_no_IZ l D g ws x4 _) rfl hl.1 rfl (Nat.le_of_ble_eq_true rfl) ⟨by decide, by decide⟩ ⟨Nat.le_of_ble_eq_true rfl, Nat.le_of_ble_eq_true rfl⟩ d_14_24_19) (fun v27 u26 H locs hp25 V => ?_)
        rcases hp25 with ⟨c28, rfl, rfl⟩ | ⟨c30, c31, rfl, rfl⟩ | ⟨c33, c34, rfl, rfl⟩
        ·
          refine lv_if_eq (tgt := 29) hx hb d_14_24_22 (by decide) (fun c36 => absurd c36 (by decide)) (fun c36 => ?_)
          refine lv_iconst (v := 1) hx hb d_14_24_25 (by decide) ?_
          refine lv_goto (tgt := 30) hx hb d_14_24_26 (by decide) ?_
          refine q_put (ci := 12) (j := 0) (v := .int 1) (ty := .int) C0 V i_NM o_NM n_NM rfl rfl hO0 (by decide) w_2298 rfl rfl rfl rfl (Nat.le_of_ble_eq_true rfl) d_14_24_30 (fun H locs w37 hu38 hO0 V => ?_)
          replace hO0 : w37[116]? = (some (qO0, .inr (12, [.int 1, .ref qA1, .int 0, .ref qA2, .int 0, .ref qO3, .ref qO4, .ref qO5, .ref qO6, .ref qO7, .ref qA8, .ref qA9])) : Option (Nat × va_E)) := hO0
          replace hF := q_gs hF hu38 (Nat.le_of_ble_eq_true rfl)
          refine lv_aload_n hx hb d_14_24_33 rfl (lv_at hl 0 rfl) ?_
          refine q_get (ci := 12) (j := 0) (v := .int 1) C0 V i_NM rfl rfl hO0 (by decide) w_2298 rfl d_14_24_34 ?_
          refine lv_if_le (tgt := 41) hx hb d_14_24_37 (by decide) (fun c39 => absurd c39 (by decide)) (fun c39 => ?_)
          exact q_retv C0 V (⟨1, 0, 0, hO0, (show ((1 : Int32).toInt = 0 ∧ ((0 ≤ x1.toInt ∧ x1.toInt ≤ 2) ∧ (0 ≤ x2.toInt ∧ x2.toInt ≤ 9) ∧ (0 ≤ x4.toInt ∧ x4.toInt ≤ 9) ∧ (x1.toInt = 0 → (0 ≤ x3.toInt ∧ x3.toInt ≤ 999))) ∧ ¬ ((x1.toInt = 1 ∧ ¬ (-10000 ≤ x3.toInt ∧ x3.toInt ≤ 10000)))) ∨ ((1 : Int32).toInt = 1 ∧ ¬ ((0 ≤ x1.toInt ∧ x1.toInt ≤ 2) ∧ (0 ≤ x2.toInt ∧ x2.toInt ≤ 9) ∧ (0 ≤ x4.toInt ∧ x4.toInt ≤ 9) ∧ (x1.toInt = 0 → (0 ≤ x3.toInt ∧ x3.toInt ≤ 999)))) ∨ ((1 : Int32).toInt = 2 ∧ ((0 ≤ x1.toInt ∧ x1.toInt ≤ 2) ∧ (0 ≤ x2.toInt ∧ x2.toInt ≤ 9) ∧ (0 ≤ x4.toInt ∧ x4.toInt ≤ 9) ∧ (x1.toInt = 0 → (0 ≤ x3.toInt ∧ x3.toInt ≤ 999))) ∧ (x1.toInt = 1 ∧ ¬ (-10000 ≤ x3.toInt ∧ x3.toInt ≤ 10000))) from by have t1 : 0 ≤ x1.toInt := q_nltI c1; have t2 : x1.toInt ≤ 2 := q_nltI c5; have t3 : 0 ≤ x2.toInt := q_nltI c14; have t4 : x2.toInt ≤ 9 := q_leI c15; have t5 : x4.toInt < 0 := q_ltI c28; have e0 : (1 : Int32).toInt = 1 := (by decide); omega), hF⟩) d_14_24_40
        ·
          refine lv_if_eq (tgt := 29) hx hb d_14_24_22 (by decide) (fun c40 => ?_) (fun c40 => absurd (by decide) c40)
          refine lv_iconst (v := 0) hx hb d_14_24_29 (by decide) ?_
          refine q_put (ci := 12) (j := 0) (v := .int 0) (ty := .int) C0 V i_NM o_NM n_NM rfl rfl hO0 (by decide) w_2298 rfl rfl rfl rfl (Nat.le_of_ble_eq_true rfl) d_14_24_30 (fun H locs w41 hu42 hO0 V => ?_)
          replace hO0 : w41[116]? = (some (qO0, .inr (12, [.int 0, .ref qA1, .int 0, .ref qA2, .int 0, .ref qO3, .ref qO4, .ref qO5, .ref qO6, .ref qO7, .ref qA8, .ref qA9])) : Option (Nat × va_E)) := hO0
          replace hF := q_gs hF hu42 (Nat.le_of_ble_eq_true rfl)
          refine lv_aload_n hx hb d_14_24_33 rfl (lv_at hl 0 rfl) ?_
          refine q_get (ci := 12) (j := 0) (v := .int 0) C0 V i_NM rfl rfl hO0 (by decide) w_2298 rfl d_14_24_34 ?_
          refine lv_if_le (tgt := 41) hx hb d_14_24_37 (by decide) (fun c43 => ?_) (fun c43 => absurd (by decide) c43)
          refine lv_iload_n hx hb d_14_24_41 rfl (lv_at hl 1 rfl) ?_
          refine lv_if_ne (tgt := 59) hx hb d_14_24_42 (by decide) (fun c44 => ?_) (fun c44 => ?_)
          ·
            refine lv_iload_n hx hb d_14_24_59 rfl (lv_at hl 1 rfl) ?_
            refine lv_iconst (v := 1) hx hb d_14_24_60 (by decide) ?_
            refine lv_icmp_ne (tgt := 78) hx hb d_14_24_61 (by decide) (fun c45 => ?_) (fun c45 => ?_)
            ·
              refine lv_aload_n hx hb d_14_24_78 rfl (lv_at hl 0 rfl) ?_
              refine q_get (ci := 12) (j := 6) (v := .ref qO4) C0 V i_NM rfl rfl hO0 (by decide) w_2304 rfl d_14_24_79 ?_
              refine lv_iload_n hx hb d_14_24_82 rfl (lv_at hl 2 rfl) ?_
              refine lv_iload hx hb d_14_24_83 (lv_at hl 4 rfl) ?_
              replace hO4 := (hu42 _ (q_pd 134 116 rfl)).trans (hO4)
              replace hA25 := (hu42 _ (q_pd 136 116 rfl)).trans (hA25)
              replace hA26 := (hu42 _ (q_pd 137 116 rfl)).trans (hA26)
              replace hA27 := (hu42 _ (q_pd 138 116 rfl)).trans (hA27)
              replace hA28 := (hu42 _ (q_pd 139 116 rfl)).trans (hA28)
              replace hA29 := (hu42 _ (q_pd 140 116 rfl)).trans (hA29)
              refine q_gov V (q_runV (As := [.int x2, .int x4]) (rest := []) (d := 3) (mc := 0) (ms := 0) (ci := 14) C0 V rfl LV_NM_210 (c_DR_strip l D g w41 134 136 137 138 139 140 qO4 qA24 qA25 qA26 qA27 qA28 qA29 qA30 qA31 qA32 qA33 x2 x4 hO4 hA25 hA26 hA27 hA28 hA29 (q_pd 136 137 rfl) (q_pd 136 138 rfl) (q_pd 136 139 rfl) (q_pd 136 140 rfl) (q_pd 137 138 rfl) (q_pd 137 139 rfl) (q_pd 137 140 rfl) (q_pd 138 139 rfl) (q_pd 138 140 rfl) (q_pd 139 140 rfl) (q_Ile (x := 0) (y := x2.toInt) (by decide) rfl (by have t1 : 0 ≤ x2.toInt := q_nltI c14; have t2 : x2.toInt ≤ 9 := q_leI c15; omega)) c15 (q_Ile (x := 0) (y := x4.toInt) (by decide) rfl (by have t1 : 0 ≤ x4.toInt := q_nltI c30; have t2 : x4.toInt ≤ 9 := q_leI c31; omega)) c31 _) rfl rfl hO4 rfl hl.1 rfl (Nat.le_of_ble_eq_true rfl) ⟨by decide, by decide⟩ ⟨Nat.le_of_ble_eq_true rfl, Nat.le_of_ble_eq_true rfl⟩ d_14_24_85) (fun u47 H locs hp46 V => ?_)
              obtain ⟨hg48, hO4, hA25, hA26, hA27, hA28, hA29⟩ := hp46
              replace hF := q_gc hF hg48 (q_al (Nat.le_of_ble_eq_true rfl) (q_al (Nat.le_of_ble_eq_true rfl) (q_al (Nat.le_of_ble_eq_true rfl) (q_al (Nat.le_of_ble_eq_true rfl) (q_al (Nat.le_of_ble_eq_true rfl) (q_al (Nat.le_of_ble_eq_true rfl) (fun _ h => absurd h List.not_mem_nil)))))))
              refine lv_aload_n hx hb d_14_24_88 rfl (lv_at hl 0 rfl) ?_
              refine lv_aload_n hx hb d_14_24_89 rfl (lv_at hl 0 rfl) ?_
              replace hO0 := (hg48 _ (q_nc (q_pd 116 134 rfl) (q_nc (q_pd 116 136 rfl) (q_nc (q_pd 116 137 rfl) (q_nc (q_pd 116 138 rfl) (q_nc (q_pd 116 139 rfl) (q_nc (q_pd 116 140 rfl) List.not_mem_nil))))))).trans (hO0)
              refine q_get (ci := 12) (j := 6) (v := .ref qO4) C0 V i_NM rfl rfl hO0 (by decide) w_2304 rfl d_14_24_90 ?_
              refine q_getN (ci := 14) (j := 0) (v := .int 0) C0 V i_DR rfl rfl hO4 (by decide) wo_1997 rfl d_14_24_93 ?_
              refine q_put (ci := 12) (j := 0) (v := .int 0) (ty := .int) C0 V i_NM o_NM n_NM rfl rfl hO0 (by decide) w_2298 rfl rfl rfl rfl (Nat.le_of_ble_eq_true rfl) d_14_24_96 (fun H locs w49 hu50 hO0 V => ?_)
              replace hO0 : w49[116]? = (some (qO0, .inr (12, [.int 0, .ref qA1, .int 0, .ref qA2, .int 0, .ref qO3, .ref qO4, .ref qO5, .ref qO6, .ref qO7, .ref qA8, .ref qA9])) : Option (Nat × va_E)) := hO0
              replace hF := q_gs hF hu50 (Nat.le_of_ble_eq_true rfl)
              exact q_retv C0 V (⟨0, 0, 0, hO0, (show ((0 : Int32).toInt = 0 ∧ ((0 ≤ x1.toInt ∧ x1.toInt ≤ 2) ∧ (0 ≤ x2.toInt ∧ x2.toInt ≤ 9) ∧ (0 ≤ x4.toInt ∧ x4.toInt ≤ 9) ∧ (x1.toInt = 0 → (0 ≤ x3.toInt ∧ x3.toInt ≤ 999))) ∧ ¬ ((x1.toInt = 1 ∧ ¬ (-10000 ≤ x3.toInt ∧ x3.toInt ≤ 10000)))) ∨ ((0 : Int32).toInt = 1 ∧ ¬ ((0 ≤ x1.toInt ∧ x1.toInt ≤ 2) ∧ (0 ≤ x2.toInt ∧ x2.toInt ≤ 9) ∧ (0 ≤ x4.toInt ∧ x4.toInt ≤ 9) ∧ (x1.toInt = 0 → (0 ≤ x3.toInt ∧ x3.toInt ≤ 999)))) ∨ ((0 : Int32).toInt = 2 ∧ ((0 ≤ x1.toInt ∧ x1.toInt ≤ 2) ∧ (0 ≤ x2.toInt ∧ x2.toInt ≤ 9) ∧ (0 ≤ x4.toInt ∧ x4.toInt ≤ 9) ∧ (x1.toInt = 0 → (0 ≤ x3.toInt ∧ x3.toInt ≤ 999))) ∧ (x1.toInt = 1 ∧ ¬ (-10000 ≤ x3.toInt ∧ x3.toInt ≤ 10000))) from by have t1 : 0 ≤ x1.toInt := q_nltI c1; have t2 : x1.toInt ≤ 2 := q_nltI c5; have t3 : 0 ≤ x2.toInt := q_nltI c14; have t4 : x2.toInt ≤ 9 := q_leI c15; have t5 : 0 ≤ x4.toInt := q_nltI c30; have t6 : x4.toInt ≤ 9 := q_leI c31; have t7 : x1.toInt ≠ 0 := q_neI c44; have t8 : x1.toInt ≠ 1 := q_neI c45; have e0 : (0 : Int32).toInt = 0 := (by decide); omega), hF⟩) d_14_24_99
            ·
              refine lv_aload_n hx hb d_14_24_64 rfl (lv_at hl 0 rfl) ?_
              refine q_get (ci := 12) (j := 6) (v := .ref qO4) C0 V i_NM rfl rfl hO0 (by decide) w_2304 rfl d_14_24_65 ?_
              refine lv_iload_n hx hb d_14_24_68 rfl (lv_at hl 2 rfl) ?_
              refine lv_iload hx hb d_14_24_69 (lv_at hl 4 rfl) ?_
              refine lv_iload_n hx hb d_14_24_71 rfl (lv_at hl 3 rfl) ?_
              replace hO4 := (hu42 _ (q_pd 134 116 rfl)).trans (hO4)
              replace hA25 := (hu42 _ (q_pd 136 116 rfl)).trans (hA25)
              replace hA26 := (hu42 _ (q_pd 137 116 rfl)).trans (hA26)
              replace hA27 := (hu42 _ (q_pd 138 116 rfl)).trans (hA27)
              replace hA28 := (hu42 _ (q_pd 139 116 rfl)).trans (hA28)
              replace hA29 := (hu42 _ (q_pd 140 116 rfl)).trans (hA29)
              refine q_gov V (q_runV (As := [.int x2, .int x4, .int x3]) (rest := []) (d := 3) (mc := 0) (ms := 0) (ci := 14) C0 V rfl LV_NM_209 (c_DR_shift l D g w41 134 136 137 138 139 140 qO4 qA24 qA25 qA26 qA27 qA28 qA29 qA30 qA31 qA32 qA33 x2 x4 x3 hO4 hA25 hA26 hA27 hA28 hA29 (q_pd 136 137 rfl) (q_pd 136 138 rfl) (q_pd 136 139 rfl) (q_pd 136 140 rfl) (q_pd 137 138 rfl) (q_pd 137 139 rfl) (q_pd 137 140 rfl) (q_pd 138 139 rfl) (q_pd 138 140 rfl) (q_pd 139 140 rfl) (q_Ile (x := 0) (y := x2.toInt) (by decide) rfl (by have t1 : 0 ≤ x2.toInt := q_nltI c14; have t2 : x2.toInt ≤ 9 := q_leI c15; omega)) c15 (q_Ile (x := 0) (y := x4.toInt) (by decide) rfl (by have t1 : 0 ≤ x4.toInt := q_nltI c30; have t2 : x4.toInt ≤ 9 := q_leI c31; omega)) c31 _) rfl rfl hO4 rfl hl.1 rfl (Nat.le_of_ble_eq_true rfl) ⟨by decide, by decide⟩ ⟨Nat.le_of_ble_eq_true rfl, Nat.le_of_ble_eq_true rfl⟩ d_14_24_72) (fun u52 H locs hp51 V => ?_)
              rcases hp51 with ⟨c53, hg54, hO4, hA25, hA26, hA27, hA28, hA29⟩ | ⟨c55, c56, hg57, hO4, hA25, hA26, hA27, hA28, hA29⟩ | ⟨c58, c59, hg60, hO4, hA25, hA26, hA27, hA28, hA29⟩
              ·
                replace hF := q_gc hF hg54 (q_al (Nat.le_of_ble_eq_true rfl) (q_al (Nat.le_of_ble_eq_true rfl) (q_al (Nat.le_of_ble_eq_true rfl) (q_al (Nat.le_of_ble_eq_true rfl) (q_al (Nat.le_of_ble_eq_true rfl) (q_al (Nat.le_of_ble_eq_true rfl) (fun _ h => absurd h List.not_mem_nil)))))))
                refine lv_goto (tgt := 88) hx hb d_14_24_75 (by decide) ?_
                refine lv_aload_n hx hb d_14_24_88 rfl (lv_at hl 0 rfl) ?_
                refine lv_aload_n hx hb d_14_24_89 rfl (lv_at hl 0 rfl) ?_
                replace hO0 := (hg54 _ (q_nc (q_pd 116 134 rfl) (q_nc (q_pd 116 136 rfl) (q_nc (q_pd 116 137 rfl) (q_nc (q_pd 116 138 rfl) (q_nc (q_pd 116 139 rfl) (q_nc (q_pd 116 140 rfl) List.not_mem_nil))))))).trans (hO0)
                refine q_get (ci := 12) (j := 6) (v := .ref qO4) C0 V i_NM rfl rfl hO0 (by decide) w_2304 rfl d_14_24_90 ?_
                refine q_getN (ci := 14) (j := 0) (v := .int 2) C0 V i_DR rfl rfl hO4 (by decide) wo_1997 rfl d_14_24_93 ?_
                refine q_put (ci := 12) (j := 0) (v := .int 2) (ty := .int) C0 V i_NM o_NM n_NM rfl rfl hO0 (by decide) w_2298 rfl rfl rfl rfl (Nat.le_of_ble_eq_true rfl) d_14_24_96 (fun H locs w61 hu62 hO0 V => ?_)
                replace hO0 : w61[116]? = (some (qO0, .inr (12, [.int 2, .ref qA1, .int 0, .ref qA2, .int 0, .ref qO3, .ref qO4, .ref qO5, .ref qO6, .ref qO7, .ref qA8, .ref qA9])) : Option (Nat × va_E)) := hO0
                replace hF := q_gs hF hu62 (Nat.le_of_ble_eq_true rfl)
                exact q_retv C0 V (⟨2, 0, 0, hO0, (show ((2 : Int32).toInt = 0 ∧ ((0 ≤ x1.toInt ∧ x1.toInt ≤ 2) ∧ (0 ≤ x2.toInt ∧ x2.toInt ≤ 9) ∧ (0 ≤ x4.toInt ∧ x4.toInt ≤ 9) ∧ (x1.toInt = 0 → (0 ≤ x3.toInt ∧ x3.toInt ≤ 999))) ∧ ¬ ((x1.toInt = 1 ∧ ¬ (-10000 ≤ x3.toInt ∧ x3.toInt ≤ 10000)))) ∨ ((2 : Int32).toInt = 1 ∧ ¬ ((0 ≤ x1.toInt ∧ x1.toInt ≤ 2) ∧ (0 ≤ x2.toInt ∧ x2.toInt ≤ 9) ∧ (0 ≤ x4.toInt ∧ x4.toInt ≤ 9) ∧ (x1.toInt = 0 → (0 ≤ x3.toInt ∧ x3.toInt ≤ 999)))) ∨ ((2 : Int32).toInt = 2 ∧ ((0 ≤ x1.toInt ∧ x1.toInt ≤ 2) ∧ (0 ≤ x2.toInt ∧ x2.toInt ≤ 9) ∧ (0 ≤ x4.toInt ∧ x4.toInt ≤ 9) ∧ (x1.toInt = 0 → (0 ≤ x3.toInt ∧ x3.toInt ≤ 999))) ∧ (x1.toInt = 1 ∧ ¬ (-10000 ≤ x3.toInt ∧ x3.toInt ≤ 10000))) from by have t1 : 0 ≤ x1.toInt := q_nltI c1; have t2 : x1.toInt ≤ 2 := q_nltI c5; have t3 : 0 ≤ x2.toInt := q_nltI c14; have t4 : x2.toInt ≤ 9 := q_leI c15; have t5 : 0 ≤ x4.toInt := q_nltI c30; have t6 : x4.toInt ≤ 9 := q_leI c31; have t7 : x1.toInt ≠ 0 := q_neI c44; have t8 : x1.toInt = 1 := q_eqI c45; have ea9 : ((0 - x3.toInt64) : Int64).toInt = (0 - x3.toInt) := (q_subL (x := 0) (y := x3.toInt) (by decide) (q_i2l (x := x3.toInt) rfl) (by have y0l := q_lo32 (x := x3); have y0h := q_hi32 (x := x3); have b0l := q_lo32 (x := x3); have b0h := q_hi32 (x := x3); omega) (by have y0l := q_lo32 (x := x3); have y0h := q_hi32 (x := x3); have b0l := q_lo32 (x := x3); have b0h := q_hi32 (x := x3); omega)); have eb9 : ((-10000) : Int64).toInt = (-10000) := (by decide); have ec9 := q_k1 c53; have e0 : (2 : Int32).toInt = 2 := (by decide); omega), hF⟩) d_14_24_99
              ·
                replace hF := q_gc hF hg57 (q_al (Nat.le_of_ble_eq_true rfl) (q_al (Nat.le_of_ble_eq_true rfl) (q_al (Nat.le_of_ble_eq_true rfl) (q_al (Nat.le_of_ble_eq_true rfl) (q_al (Nat.le_of_ble_eq_true rfl) (q_al (Nat.le_of_ble_eq_true rfl) (fun _ h => absurd h List.not_mem_nil)))))))
                refine lv_goto (tgt := 88) hx hb d_14_24_75 (by decide) ?_
                refine lv_aload_n hx hb d_14_24_88 rfl (lv_at hl 0 rfl) ?_
                refine lv_aload_n hx hb d_14_24_89 rfl (lv_at hl 0 rfl) ?_
                replace hO0 := (hg57 _ (q_nc (q_pd 116 134 rfl) (q_nc (q_pd 116 136 rfl) (q_nc (q_pd 116 137 rfl) (q_nc (q_pd 116 138 rfl) (q_nc (q_pd 116 139 rfl) (q_nc (q_pd 116 140 rfl) List.not_mem_nil))))))).trans (hO0)
                refine q_get (ci := 12) (j := 6) (v := .ref qO4) C0 V i_NM rfl rfl hO0 (by decide) w_2304 rfl d_14_24_90 ?_
                refine q_getN (ci := 14) (j := 0) (v := .int 0) C0 V i_DR rfl rfl hO4 (by decide) wo_1997 rfl d_14_24_93 ?_
                refine q_put (ci := 12) (j := 0) (v := .int 0) (ty := .int) C0 V i_NM o_NM n_NM rfl rfl hO0 (by decide) w_2298 rfl rfl rfl rfl (Nat.le_of_ble_eq_true rfl) d_14_24_96 (fun H locs w63 hu64 hO0 V => ?_)
                replace hO0 : w63[116]? = (some (qO0, .inr (12, [.int 0, .ref qA1, .int 0, .ref qA2, .int 0, .ref qO3, .ref qO4, .ref qO5, .ref qO6, .ref qO7, .ref qA8, .ref qA9])) : Option (Nat × va_E)) := hO0
                replace hF := q_gs hF hu64 (Nat.le_of_ble_eq_true rfl)
                exact q_retv C0 V (⟨0, 0, 0, hO0, (show ((0 : Int32).toInt = 0 ∧ ((0 ≤ x1.toInt ∧ x1.toInt ≤ 2) ∧ (0 ≤ x2.toInt ∧ x2.toInt ≤ 9) ∧ (0 ≤ x4.toInt ∧ x4.toInt ≤ 9) ∧ (x1.toInt = 0 → (0 ≤ x3.toInt ∧ x3.toInt ≤ 999))) ∧ ¬ ((x1.toInt = 1 ∧ ¬ (-10000 ≤ x3.toInt ∧ x3.toInt ≤ 10000)))) ∨ ((0 : Int32).toInt = 1 ∧ ¬ ((0 ≤ x1.toInt ∧ x1.toInt ≤ 2) ∧ (0 ≤ x2.toInt ∧ x2.toInt ≤ 9) ∧ (0 ≤ x4.toInt ∧ x4.toInt ≤ 9) ∧ (x1.toInt = 0 → (0 ≤ x3.toInt ∧ x3.toInt ≤ 999)))) ∨ ((0 : Int32).toInt = 2 ∧ ((0 ≤ x1.toInt ∧ x1.toInt ≤ 2) ∧ (0 ≤ x2.toInt ∧ x2.toInt ≤ 9) ∧ (0 ≤ x4.toInt ∧ x4.toInt ≤ 9) ∧ (x1.toInt = 0 → (0 ≤ x3.toInt ∧ x3.toInt ≤ 999))) ∧ (x1.toInt = 1 ∧ ¬ (-10000 ≤ x3.toInt ∧ x3.toInt ≤ 10000))) from by have t1 : 0 ≤ x1.toInt := q_nltI c1; have t2 : x1.toInt ≤ 2 := q_nltI c5; have t3 : 0 ≤ x2.toInt := q_nltI c14; have t4 : x2.toInt ≤ 9 := q_leI c15; have t5 : 0 ≤ x4.toInt := q_nltI c30; have t6 : x4.toInt ≤ 9 := q_leI c31; have t7 : x1.toInt ≠ 0 := q_neI c44; have t8 : x1.toInt = 1 := q_eqI c45; have ea9 : ((0 - x3.toInt64) : Int64).toInt = (0 - x3.toInt) := (q_subL (x := 0) (y := x3.toInt) (by decide) (q_i2l (x := x3.toInt) rfl) (by have y0l := q_lo32 (x := x3); have y0h := q_hi32 (x := x3); have b0l := q_lo32 (x := x3); have b0h := q_hi32 (x := x3); omega) (by have y0l := q_lo32 (x := x3); have y0h := q_hi32 (x := x3); have b0l := q_lo32 (x := x3); have b0h := q_hi32 (x := x3); omega)); have eb9 : ((-10000) : Int64).toInt = (-10000) := (by decide); have ec9 := q_k2 c55; have ea10 : ((0 - x3.toInt64) : Int64).toInt = (0 - x3.toInt) := (q_subL (x := 0) (y := x3.toInt) (by decide) (q_i2l (x := x3.toInt) rfl) (by have y0l := q_lo32 (x := x3); have y0h := q_hi32 (x := x3); have b0l := q_lo32 (x := x3); have b0h := q_hi32 (x := x3); omega) (by have y0l := q_lo32 (x := x3); have y0h := q_hi32 (x := x3); have b0l := q_lo32 (x := x3); have b0h := q_hi32 (x := x3); omega)); have eb10 : (10000 : Int64).toInt = 10000 := (by decide); have ec10 := q_k5 c56; have e0 : (0 : Int32).toInt = 0 := (by decide); omega), hF⟩) d_14_24_99
              ·
                replace hF := q_gc hF hg60 (q_al (Nat.le_of_ble_eq_true rfl) (q_al (Nat.le_of_ble_eq_true rfl) (q_al (Nat.le_of_ble_eq_true rfl) (q_al (Nat.le_of_ble_eq_true rfl) (q_al (Nat.le_of_ble_eq_true rfl) (q_al (Nat.le_of_ble_eq_true rfl) (fun _ h => absurd h List.not_mem_nil)))))))
                refine lv_goto (tgt := 88) hx hb d_14_24_75 (by decide) ?_
                refine lv_aload_n hx hb d_14_24_88 rfl (lv_at hl 0 rfl) ?_
                refine lv_aload_n hx hb d_14_24_89 rfl (lv_at hl 0 rfl) ?_
                replace hO0 := (hg60 _ (q_nc (q_pd 116 134 rfl) (q_nc (q_pd 116 136 rfl) (q_nc (q_pd 116 137 rfl) (q_nc (q_pd 116 138 rfl) (q_nc (q_pd 116 139 rfl) (q_nc (q_pd 116 140 rfl) List.not_mem_nil))))))).trans (hO0)
                refine q_get (ci := 12) (j := 6) (v := .ref qO4) C0 V i_NM rfl rfl hO0 (by decide) w_2304 rfl d_14_24_90 ?_
                refine q_getN (ci := 14) (j := 0) (v := .int 2) C0 V i_DR rfl rfl hO4 (by decide) wo_1997 rfl d_14_24_93 ?_
                refine q_put (ci := 12) (j := 0) (v := .int 2) (ty := .int) C0 V i_NM o_NM n_NM rfl rfl hO0 (by decide) w_2298 rfl rfl rfl rfl (Nat.le_of_ble_eq_true rfl) d_14_24_96 (fun H locs w65 hu66 hO0 V => ?_)
                replace hO0 : w65[116]? = (some (qO0, .inr (12, [.int 2, .ref qA1, .int 0, .ref qA2, .int 0, .ref qO3, .ref qO4, .ref qO5, .ref qO6, .ref qO7, .ref qA8, .ref qA9])) : Option (Nat × va_E)) := hO0
                replace hF := q_gs hF hu66 (Nat.le_of_ble_eq_true rfl)
                exact q_retv C0 V (⟨2, 0, 0, hO0, (show ((2 : Int32).toInt = 0 ∧ ((0 ≤ x1.toInt ∧ x1.toInt ≤ 2) ∧ (0 ≤ x2.toInt ∧ x2.toInt ≤ 9) ∧ (0 ≤ x4.toInt ∧ x4.toInt ≤ 9) ∧ (x1.toInt = 0 → (0 ≤ x3.toInt ∧ x3.toInt ≤ 999))) ∧ ¬ ((x1.toInt = 1 ∧ ¬ (-10000 ≤ x3.toInt ∧ x3.toInt ≤ 10000)))) ∨ ((2 : Int32).toInt = 1 ∧ ¬ ((0 ≤ x1.toInt ∧ x1.toInt ≤ 2) ∧ (0 ≤ x2.toInt ∧ x2.toInt ≤ 9) ∧ (0 ≤ x4.toInt ∧ x4.toInt ≤ 9) ∧ (x1.toInt = 0 → (0 ≤ x3.toInt ∧ x3.toInt ≤ 999)))) ∨ ((2 : Int32).toInt = 2 ∧ ((0 ≤ x1.toInt ∧ x1.toInt ≤ 2) ∧ (0 ≤ x2.toInt ∧ x2.toInt ≤ 9) ∧ (0 ≤ x4.toInt ∧ x4.toInt ≤ 9) ∧ (x1.toInt = 0 → (0 ≤ x3.toInt ∧ x3.toInt ≤ 999))) ∧ (x1.toInt = 1 ∧ ¬ (-10000 ≤ x3.toInt ∧ x3.toInt ≤ 10000))) from by have t1 : 0 ≤ x1.toInt := q_nltI c1; have t2 : x1.toInt ≤ 2 := q_nltI c5; have t3 : 0 ≤ x2.toInt := q_nltI c14; have t4 : x2.toInt ≤ 9 := q_leI c15; have t5 : 0 ≤ x4.toInt := q_nltI c30; have t6 : x4.toInt ≤ 9 := q_leI c31; have t7 : x1.toInt ≠ 0 := q_neI c44; have t8 : x1.toInt = 1 := q_eqI c45; have ea9 : ((0 - x3.toInt64) : Int64).toInt = (0 - x3.toInt) := (q_subL (x := 0) (y := x3.toInt) (by decide) (q_i2l (x := x3.toInt) rfl) (by have y0l := q_lo32 (x := x3); have y0h := q_hi32 (x := x3); have b0l := q_lo32 (x := x3); have b0h := q_hi32 (x := x3); omega) (by have y0l := q_lo32 (x := x3); have y0h := q_hi32 (x := x3); have b0l := q_lo32 (x := x3); have b0h := q_hi32 (x := x3); omega)); have eb9 : ((-10000) : Int64).toInt = (-10000) := (by decide); have ec9 := q_k2 c58; have ea10 : ((0 - x3.toInt64) : Int64).toInt = (0 - x3.toInt) := (q_subL (x := 0) (y := x3.toInt) (by decide) (q_i2l (x := x3.toInt) rfl) (by have y0l := q_lo32 (x := x3); have y0h := q_hi32 (x := x3); have b0l := q_lo32 (x := x3); have b0h := q_hi32 (x := x3); omega) (by have y0l := q_lo32 (x := x3); have y0h := q_hi32 (x := x3); have b0l := q_lo32 (x := x3); have b0h := q_hi32 (x := x3); omega)); have eb10 : (10000 : Int64).toInt = 10000 := (by decide); have ec10 := q_k6 c59; have e0 : (2 : Int32).toInt = 2 := (by decide); omega), hF⟩) d_14_24_99
          ·
            refine lv_aload_n hx hb d_14_24_45 rfl (lv_at hl 0 rfl) ?_
            refine q_get (ci := 12) (j := 6) (v := .ref qO4) C0 V i_NM rfl rfl hO0 (by decide) w_2304 rfl d_14_24_46 ?_
            refine lv_iload_n hx hb d_14_24_49 rfl (lv_at hl 2 rfl) ?_
            refine lv_iload_n hx hb d_14_24_50 rfl (lv_at hl 3 rfl) ?_
            refine lv_iload hx hb d_14_24_51 (lv_at hl 4 rfl) ?_
            replace hO4 := (hu42 _ (q_pd 134 116 rfl)).trans (hO4)
            replace hA25 := (hu42 _ (q_pd 136 116 rfl)).trans (hA25)
            replace hA26 := (hu42 _ (q_pd 137 116 rfl)).trans (hA26)
            replace hA27 := (hu42 _ (q_pd 138 116 rfl)).trans (hA27)
            replace hA28 := (hu42 _ (q_pd 139 116 rfl)).trans (hA28)
            replace hA29 := (hu42 _ (q_pd 140 116 rfl)).trans (hA29)
            replace hA30 := (hu42 _ (q_pd 141 116 rfl)).trans (hA30)
            refine q_gov V (q_runV (As := [.int x2, .int x3, .int x4]) (rest := []) (d := 3) (mc := 0) (ms := 0) (ci := 14) C0 V rfl LV_NM_208 (c_DR_power l D g w41 134 136 137 138 139 140 141 qO4 qA24 qA25 qA26 qA27 qA28 qA29 qA30 qA31 qA32 qA33 x2 x3 x4 hO4 hA25 hA26 hA27 hA28 hA29 hA30 (q_pd 136 137 rfl) (q_pd 136 138 rfl) (q_pd 136 139 rfl) (q_pd 136 140 rfl) (q_pd 136 141 rfl) (q_pd 137 138 rfl) (q_pd 137 139 rfl) (q_pd 137 140 rfl) (q_pd 137 141 rfl) (q_pd 138 139 rfl) (q_pd 138 140 rfl) (q_pd 138 141 rfl) (q_pd 139 140 rfl) (q_pd 139 141 rfl) (q_pd 140 141 rfl) (q_Ile (x := 0) (y := x2.toInt) (by decide) rfl (by have t1 : 0 ≤ x2.toInt := q_nltI c14; have t2 : x2.toInt ≤ 9 := q_leI c15; omega)) c15 (q_Ile (x := 0) (y := x4.toInt) (by decide) rfl (by have t1 : 0 ≤ x4.toInt := q_nltI c30; have t2 : x4.toInt ≤ 9 := q_leI c31; omega)) c31 _) rfl rfl hO4 rfl hl.1 rfl (Nat.le_of_ble_eq_true rfl) ⟨by decide, by decide⟩ ⟨Nat.le_of_ble_eq_true rfl, Nat.le_of_ble_eq_true rfl⟩ d_14_24_53) (fun u68 H locs hp67 V => ?_)
            rcases hp67 with ⟨c69, hg70, hO4, hA25, hA26, hA27, hA28, hA29, hA30⟩ | ⟨c71, c72, c73, hg74, hO4, hA25, hA26, hA27, hA28, hA29, hA30⟩ | ⟨c75, c76, c77, hg78, hO4, hA25, hA26, hA27, hA28, hA29, hA30⟩ | ⟨c79, c80, hg81, hO4, hA25, hA26, hA27, hA28, hA29, hA30⟩
            ·
              replace hF := q_gc hF hg70 (q_al (Nat.le_of_ble_eq_true rfl) (q_al (Nat.le_of_ble_eq_true rfl) (q_al (Nat.le_of_ble_eq_true rfl) (q_al (Nat.le_of_ble_eq_true rfl) (q_al (Nat.le_of_ble_eq_true rfl) (q_al (Nat.le_of_ble_eq_true rfl) (q_al (Nat.le_of_ble_eq_true rfl) (fun _ h => absurd h List.not_mem_nil))))))))
              refine lv_goto (tgt := 88) hx hb d_14_24_56 (by decide) ?_
              refine lv_aload_n hx hb d_14_24_88 rfl (lv_at hl 0 rfl) ?_
              refine lv_aload_n hx hb d_14_24_89 rfl (lv_at hl 0 rfl) ?_
              replace hO0 := (hg70 _ (q_nc (q_pd 116 134 rfl) (q_nc (q_pd 116 136 rfl) (q_nc (q_pd 116 137 rfl) (q_nc (q_pd 116 138 rfl) (q_nc (q_pd 116 139 rfl) (q_nc (q_pd 116 140 rfl) (q_nc (q_pd 116 141 rfl) List.not_mem_nil)))))))).trans (hO0)
              refine q_get (ci := 12) (j := 6) (v := .ref qO4) C0 V i_NM rfl rfl hO0 (by decide) w_2304 rfl d_14_24_90 ?_
              refine q_getN (ci := 14) (j := 0) (v := .int 1) C0 V i_DR rfl rfl hO4 (by decide) wo_1997 rfl d_14_24_93 ?_
              refine q_put (ci := 12) (j := 0) (v := .int 1) (ty := .int) C0 V i_NM o_NM n_NM rfl rfl hO0 (by decide) w_2298 rfl rfl rfl rfl (Nat.le_of_ble_eq_true rfl) d_14_24_96 (fun H locs w82 hu83 hO0 V => ?_)
              replace hO0 : w82[116]? = (some (qO0, .inr (12, [.int 1, .ref qA1, .int 0, .ref qA2, .int 0, .ref qO3, .ref qO4, .ref qO5, .ref qO6, .ref qO7, .ref qA8, .ref qA9])) : Option (Nat × va_E)) := hO0
              replace hF := q_gs hF hu83 (Nat.le_of_ble_eq_true rfl)
              exact q_retv C0 V (⟨1, 0, 0, hO0, (show ((1 : Int32).toInt = 0 ∧ ((0 ≤ x1.toInt ∧ x1.toInt ≤ 2) ∧ (0 ≤ x2.toInt ∧ x2.toInt ≤ 9) ∧ (0 ≤ x4.toInt ∧ x4.toInt ≤ 9) ∧ (x1.toInt = 0 → (0 ≤ x3.toInt ∧ x3.toInt ≤ 999))) ∧ ¬ ((x1.toInt = 1 ∧ ¬ (-10000 ≤ x3.toInt ∧ x3.toInt ≤ 10000)))) ∨ ((1 : Int32).toInt = 1 ∧ ¬ ((0 ≤ x1.toInt ∧ x1.toInt ≤ 2) ∧ (0 ≤ x2.toInt ∧ x2.toInt ≤ 9) ∧ (0 ≤ x4.toInt ∧ x4.toInt ≤ 9) ∧ (x1.toInt = 0 → (0 ≤ x3.toInt ∧ x3.toInt ≤ 999)))) ∨ ((1 : Int32).toInt = 2 ∧ ((0 ≤ x1.toInt ∧ x1.toInt ≤ 2) ∧ (0 ≤ x2.toInt ∧ x2.toInt ≤ 9) ∧ (0 ≤ x4.toInt ∧ x4.toInt ≤ 9) ∧ (x1.toInt = 0 → (0 ≤ x3.toInt ∧ x3.toInt ≤ 999))) ∧ (x1.toInt = 1 ∧ ¬ (-10000 ≤ x3.toInt ∧ x3.toInt ≤ 10000))) from by have t1 : 0 ≤ x1.toInt := q_nltI c1; have t2 : x1.toInt ≤ 2 := q_nltI c5; have t3 : 0 ≤ x2.toInt := q_nltI c14; have t4 : x2.toInt ≤ 9 := q_leI c15; have t5 : 0 ≤ x4.toInt := q_nltI c30; have t6 : x4.toInt ≤ 9 := q_leI c31; have t7 : x1.toInt = 0 := q_eqI c44; have t8 : x3.toInt < 0 := q_ltI c69; have e0 : (1 : Int32).toInt = 1 := (by decide); omega), hF⟩) d_14_24_99
            ·
              replace hF := q_gc hF hg74 (q_al (Nat.le_of_ble_eq_true rfl) (q_al (Nat.le_of_ble_eq_true rfl) (q_al (Nat.le_of_ble_eq_true rfl) (q_al (Nat.le_of_ble_eq_true rfl) (q_al (Nat.le_of_ble_eq_true rfl) (q_al (Nat.le_of_ble_eq_true rfl) (q_al (Nat.le_of_ble_eq_true rfl) (fun _ h => absurd h List.not_mem_nil))))))))
              refine lv_goto (tgt := 88) hx hb d_14_24_56 (by decide) ?_
              refine lv_aload_n hx hb d_14_24_88 rfl (lv_at hl 0 rfl) ?_
              refine lv_aload_n hx hb d_14_24_89 rfl (lv_at hl 0 rfl) ?_
              replace hO0 := (hg74 _ (q_nc (q_pd 116 134 rfl) (q_nc (q_pd 116 136 rfl) (q_nc (q_pd 116 137 rfl) (q_nc (q_pd 116 138 rfl) (q_nc (q_pd 116 139 rfl) (q_nc (q_pd 116 140 rfl) (q_nc (q_pd 116 141 rfl) List.not_mem_nil)))))))).trans (hO0)
              refine q_get (ci := 12) (j := 6) (v := .ref qO4) C0 V i_NM rfl rfl hO0 (by decide) w_2304 rfl d_14_24_90 ?_
              refine q_getN (ci := 14) (j := 0) (v := .int 0) C0 V i_DR rfl rfl hO4 (by decide) wo_1997 rfl d_14_24_93 ?_
              refine q_put (ci := 12) (j := 0) (v := .int 0) (ty := .int) C0 V i_NM o_NM n_NM rfl rfl hO0 (by decide) w_2298 rfl rfl rfl rfl (Nat.le_of_ble_eq_true rfl) d_14_24_96 (fun H locs w84 hu85 hO0 V => ?_)
              replace hO0 : w84[116]? = (some (qO0, .inr (12, [.int 0, .ref qA1, .int 0, .ref qA2, .int 0, .ref qO3, .ref qO4, .ref qO5, .ref qO6, .ref qO7, .ref qA8, .ref qA9])) : Option (Nat × va_E)) := hO0
              replace hF := q_gs hF hu85 (Nat.le_of_ble_eq_true rfl)
              exact q_retv C0 V (⟨0, 0, 0, hO0, (show ((0 : Int32).toInt = 0 ∧ ((0 ≤ x1.toInt ∧ x1.toInt ≤ 2) ∧ (0 ≤ x2.toInt ∧ x2.toInt ≤ 9) ∧ (0 ≤ x4.toInt ∧ x4.toInt ≤ 9) ∧ (x1.toInt = 0 → (0 ≤ x3.toInt ∧ x3.toInt ≤ 999))) ∧ ¬ ((x1.toInt = 1 ∧ ¬ (-10000 ≤ x3.toInt ∧ x3.toInt ≤ 10000)))) ∨ ((0 : Int32).toInt = 1 ∧ ¬ ((0 ≤ x1.toInt ∧ x1.toInt ≤ 2) ∧ (0 ≤ x2.toInt ∧ x2.toInt ≤ 9) ∧ (0 ≤ x4.toInt ∧ x4.toInt ≤ 9) ∧ (x1.toInt = 0 → (0 ≤ x3.toInt ∧ x3.toInt ≤ 999)))) ∨ ((0 : Int32).toInt = 2 ∧ ((0 ≤ x1.toInt ∧ x1.toInt ≤ 2) ∧ (0 ≤ x2.toInt ∧ x2.toInt ≤ 9) ∧ (0 ≤ x4.toInt ∧ x4.toInt ≤ 9) ∧ (x1.toInt = 0 → (0 ≤ x3.toInt ∧ x3.toInt ≤ 999))) ∧ (x1.toInt = 1 ∧ ¬ (-10000 ≤ x3.toInt ∧ x3.toInt ≤ 10000))) from by have t1 : 0 ≤ x1.toInt := q_nltI c1; have t2 : x1.toInt ≤ 2 := q_nltI c5; have t3 : 0 ≤ x2.toInt := q_nltI c14; have t4 : x2.toInt ≤ 9 := q_leI c15; have t5 : 0 ≤ x4.toInt := q_nltI c30; have t6 : x4.toInt ≤ 9 := q_leI c31; have t7 : x1.toInt = 0 := q_eqI c44; have t8 : 0 ≤ x3.toInt := q_nltI c71; have t9 : x3.toInt ≤ 999 := q_leI c72; have t10 : x3.toInt ≤ 0 := q_leI c73; have e0 : (0 : Int32).toInt = 0 := (by decide); omega), hF⟩) d_14_24_99
            ·
              replace hF := q_gc hF hg78 (q_al (Nat.le_of_ble_eq_true rfl) (q_al (Nat.le_of_ble_eq_true rfl) (q_al (Nat.le_of_ble_eq_true rfl) (q_al (Nat.le_of_ble_eq_true rfl) (q_al (Nat.le_of_ble_eq_true rfl) (q_al (Nat.le_of_ble_eq_true rfl) (q_al (Nat.le_of_ble_eq_true rfl) (fun _ h => absurd h List.not_mem_nil))))))))
              refine lv_goto (tgt := 88) hx hb d_14_24_56 (by decide) ?_
              refine lv_aload_n hx hb d_14_24_88 rfl (lv_at hl 0 rfl) ?_
              refine lv_aload_n hx hb d_14_24_89 rfl (lv_at hl 0 rfl) ?_
              replace hO0 := (hg78 _ (q_nc (q_pd 116 134 rfl) (q_nc (q_pd 116 136 rfl) (q_nc (q_pd 116 137 rfl) (q_nc (q_pd 116 138 rfl) (q_nc (q_pd 116 139 rfl) (q_nc (q_pd 116 140 rfl) (q_nc (q_pd 116 141 rfl) List.not_mem_nil)))))))).trans (hO0)
              refine q_get (ci := 12) (j := 6) (v := .ref qO4) C0 V i_NM rfl rfl hO0 (by decide) w_2304 rfl d_14_24_90 ?_
              refine q_getN (ci := 14) (j := 0) (v := .int 0) C0 V i_DR rfl rfl hO4 (by decide) wo_1997 rfl d_14_24_93 ?_
              refine q_put (ci := 12) (j := 0) (v := .int 0) (ty := .int) C0 V i_NM o_NM n_NM rfl rfl hO0 (by decide) w_2298 rfl rfl rfl rfl (Nat.le_of_ble_eq_true rfl) d_14_24_96 (fun H locs w86 hu87 hO0 V => ?_)
              replace hO0 : w86[116]? = (some (qO0, .inr (12, [.int 0, .ref qA1, .int 0, .ref qA2, .int 0, .ref qO3, .ref qO4, .ref qO5, .ref qO6, .ref qO7, .ref qA8, .ref qA9])) : Option (Nat × va_E)) := hO0
              replace hF := q_gs hF hu87 (Nat.le_of_ble_eq_true rfl)
              exact q_retv C0 V (⟨0, 0, 0, hO0, (show ((0 : Int32).toInt = 0 ∧ ((0 ≤ x1.toInt ∧ x1.toInt ≤ 2) ∧ (0 ≤ x2.toInt ∧ x2.toInt ≤ 9) ∧ (0 ≤ x4.toInt ∧ x4.toInt ≤ 9) ∧ (x1.toInt = 0 → (0 ≤ x3.toInt ∧ x3.toInt ≤ 999))) ∧ ¬ ((x1.toInt = 1 ∧ ¬ (-10000 ≤ x3.toInt ∧ x3.toInt ≤ 10000)))) ∨ ((0 : Int32).toInt = 1 ∧ ¬ ((0 ≤ x1.toInt ∧ x1.toInt ≤ 2) ∧ (0 ≤ x2.toInt ∧ x2.toInt ≤ 9) ∧ (0 ≤ x4.toInt ∧ x4.toInt ≤ 9) ∧ (x1.toInt = 0 → (0 ≤ x3.toInt ∧ x3.toInt ≤ 999)))) ∨ ((0 : Int32).toInt = 2 ∧ ((0 ≤ x1.toInt ∧ x1.toInt ≤ 2) ∧ (0 ≤ x2.toInt ∧ x2.toInt ≤ 9) ∧ (0 ≤ x4.toInt ∧ x4.toInt ≤ 9) ∧ (x1.toInt = 0 → (0 ≤ x3.toInt ∧ x3.toInt ≤ 999))) ∧ (x1.toInt = 1 ∧ ¬ (-10000 ≤ x3.toInt ∧ x3.toInt ≤ 10000))) from by have t1 : 0 ≤ x1.toInt := q_nltI c1; have t2 : x1.toInt ≤ 2 := q_nltI c5; have t3 : 0 ≤ x2.toInt := q_nltI c14; have t4 : x2.toInt ≤ 9 := q_leI c15; have t5 : 0 ≤ x4.toInt := q_nltI c30; have t6 : x4.toInt ≤ 9 := q_leI c31; have t7 : x1.toInt = 0 := q_eqI c44; have t8 : 0 ≤ x3.toInt := q_nltI c75; have t9 : x3.toInt ≤ 999 := q_leI c76; have t10 : 0 < x3.toInt := q_nleI c77; have e0 : (0 : Int32).toInt = 0 := (by decide); omega), hF⟩) d_14_24_99
            ·
              replace hF := q_gc hF hg81 (q_al (Nat.le_of_ble_eq_true rfl) (q_al (Nat.le_of_ble_eq_true rfl) (q_al (Nat.le_of_ble_eq_true rfl) (q_al (Nat.le_of_ble_eq_true rfl) (q_al (Nat.le_of_ble_eq_true rfl) (q_al (Nat.le_of_ble_eq_true rfl) (q_al (Nat.le_of_ble_eq_true rfl) (fun _ h => absurd h List.not_mem_nil))))))))
              refine lv_goto (tgt := 88) hx hb d_14_24_56 (by decide) ?_
              refine lv_aload_n hx hb d_14_24_88 rfl (lv_at hl 0 rfl) ?_
              refine lv_aload_n hx hb d_14_24_89 rfl (lv_at hl 0 rfl) ?_
              replace hO0 := (hg81 _ (q_nc (q_pd 116 134 rfl) (q_nc (q_pd 116 136 rfl) (q_nc (q_pd 116 137 rfl) (q_nc (q_pd 116 138 rfl) (q_nc (q_pd 116 139 rfl) (q_nc (q_pd 116 140 rfl) (q_nc (q_pd 116 141 rfl) List.not_mem_nil)))))))).trans (hO0)
              refine q_get (ci := 12) (j := 6) (v := .ref qO4) C0 V i_NM rfl rfl hO0 (by decide) w_2304 rfl d_14_24_90 ?_
              refine q_getN (ci := 14) (j := 0) (v := .int 1) C0 V i_DR rfl rfl hO4 (by decide) wo_1997 rfl d_14_24_93 ?_
              refine q_put (ci := 12) (j := 0) (v := .int 1) (ty := .int) C0 V i_NM o_NM n_NM rfl rfl hO0 (by decide) w_2298 rfl rfl rfl rfl (Nat.le_of_ble_eq_true rfl) d_14_24_96 (fun H locs w88 hu89 hO0 V => ?_)
              replace hO0 : w88[116]? = (some (qO0, .inr (12, [.int 1, .ref qA1, .int 0, .ref qA2, .int 0, .ref qO3, .ref qO4, .ref qO5, .ref qO6, .ref qO7, .ref qA8, .ref qA9])) : Option (Nat × va_E)) := hO0
              replace hF := q_gs hF hu89 (Nat.le_of_ble_eq_true rfl)
              exact q_retv C0 V (⟨1, 0, 0, hO0, (show ((1 : Int32).toInt = 0 ∧ ((0 ≤ x1.toInt ∧ x1.toInt ≤ 2) ∧ (0 ≤ x2.toInt ∧ x2.toInt ≤ 9) ∧ (0 ≤ x4.toInt ∧ x4.toInt ≤ 9) ∧ (x1.toInt = 0 → (0 ≤ x3.toInt ∧ x3.toInt ≤ 999))) ∧ ¬ ((x1.toInt = 1 ∧ ¬ (-10000 ≤ x3.toInt ∧ x3.toInt ≤ 10000)))) ∨ ((1 : Int32).toInt = 1 ∧ ¬ ((0 ≤ x1.toInt ∧ x1.toInt ≤ 2) ∧ (0 ≤ x2.toInt ∧ x2.toInt ≤ 9) ∧ (0 ≤ x4.toInt ∧ x4.toInt ≤ 9) ∧ (x1.toInt = 0 → (0 ≤ x3.toInt ∧ x3.toInt ≤ 999)))) ∨ ((1 : Int32).toInt = 2 ∧ ((0 ≤ x1.toInt ∧ x1.toInt ≤ 2) ∧ (0 ≤ x2.toInt ∧ x2.toInt ≤ 9) ∧ (0 ≤ x4.toInt ∧ x4.toInt ≤ 9) ∧ (x1.toInt = 0 → (0 ≤ x3.toInt ∧ x3.toInt ≤ 999))) ∧ (x1.toInt = 1 ∧ ¬ (-10000 ≤ x3.toInt ∧ x3.toInt ≤ 10000))) from by have t1 : 0 ≤ x1.toInt := q_nltI c1; have t2 : x1.toInt ≤ 2 := q_nltI c5; have t3 : 0 ≤ x2.toInt := q_nltI c14; have t4 : x2.toInt ≤ 9 := q_leI c15; have t5 : 0 ≤ x4.toInt := q_nltI c30; have t6 : x4.toInt ≤ 9 := q_leI c31; have t7 : x1.toInt = 0 := q_eqI c44; have t8 : 0 ≤ x3.toInt := q_nltI c79; have t9 : 999 < x3.toInt := q_nleI c80; have e0 : (1 : Int32).toInt = 1 := (by decide); omega), hF⟩) d_14_24_99
        ·
          refine lv_if_eq (tgt := 29) hx hb d_14_24_22 (by decide) (fun c90 => absurd c90 (by decide)) (fun c90 => ?_)
          refine lv_iconst (v := 1) hx hb d_14_24_25 (by decide) ?_
          refine lv_goto (tgt := 30) hx hb d_14_24_26 (by decide) ?_
          refine q_put (ci := 12) (j := 0) (v := .int 1) (ty := .int) C0 V i_NM o_NM n_NM rfl rfl hO0 (by decide) w_2298 rfl rfl rfl rfl (Nat.le_of_ble_eq_true rfl) d_14_24_30 (fun H locs w91 hu92 hO0 V => ?_)
          replace hO0 : w91[116]? = (some (qO0, .inr (12, [.int 1, .ref qA1, .int 0, .ref qA2, .int 0, .ref qO3, .ref qO4, .ref qO5, .ref qO6, .ref qO7, .ref qA8, .ref qA9])) : Option (Nat × va_E)) := hO0
          replace hF := q_gs hF hu92 (Nat.le_of_ble_eq_true rfl)
          refine lv_aload_n hx hb d_14_24_33 rfl (lv_at hl 0 rfl) ?_
          refine q_get (ci := 12) (j := 0) (v := .int 1) C0 V i_NM rfl rfl hO0 (by decide) w_2298 rfl d_14_24_34 ?_
          refine lv_if_le (tgt := 41) hx hb d_14_24_37 (by decide) (fun c93 => absurd c93 (by decide)) (fun c93 => ?_)
          exact q_retv C0 V (⟨1, 0, 0, hO0, (show ((1 : Int32).toInt = 0 ∧ ((0 ≤ x1.toInt ∧ x1.toInt ≤ 2) ∧ (0 ≤ x2.toInt ∧ x2.toInt ≤ 9) ∧ (0 ≤ x4.toInt ∧ x4.toInt ≤ 9) ∧ (x1.toInt = 0 → (0 ≤ x3.toInt ∧ x3.toInt ≤ 999))) ∧ ¬ ((x1.toInt = 1 ∧ ¬ (-10000 ≤ x3.toInt ∧ x3.toInt ≤ 10000)))) ∨ ((1 : Int32).toInt = 1 ∧ ¬ ((0 ≤ x1.toInt ∧ x1.toInt ≤ 2) ∧ (0 ≤ x2.toInt ∧ x2.toInt ≤ 9) ∧ (0 ≤ x4.toInt ∧ x4.toInt ≤ 9) ∧ (x1.toInt = 0 → (0 ≤ x3.toInt ∧ x3.toInt ≤ 999)))) ∨ ((1 : Int32).toInt = 2 ∧ ((0 ≤ x1.toInt ∧ x1.toInt ≤ 2) ∧ (0 ≤ x2.toInt ∧ x2.toInt ≤ 9) ∧ (0 ≤ x4.toInt ∧ x4.toInt ≤ 9) ∧ (x1.toInt = 0 → (0 ≤ x3.toInt ∧ x3.toInt ≤ 999))) ∧ (x1.toInt = 1 ∧ ¬ (-10000 ≤ x3.toInt ∧ x3.toInt ≤ 10000))) from by have t1 : 0 ≤ x1.toInt := q_nltI c1; have t2 : x1.toInt ≤ 2 := q_nltI c5; have t3 : 0 ≤ x2.toInt := q_nltI c14; have t4 : x2.toInt ≤ 9 := q_leI c15; have t5 : 0 ≤ x4.toInt := q_nltI c33; have t6 : 9 < x4.toInt := q_nleI c34; have e0 : (1 : Int32).toInt = 1 := (by decide); omega), hF⟩) d_14_24_40
      ·
        refine lv_if_ne (tgt := 25) hx hb d_14_24_14 (by decide) (fun c94 => ?_) (fun c94 => absurd c94 (by decide))
        refine lv_iconst (v := 1) hx hb d_14_24_25 (by decide) ?_
        refine lv_goto (tgt := 30) hx hb d_14_24_26 (by decide) ?_
        refine q_put (ci := 12) (j := 0) (v := .int 1) (ty := .int) C0 V i_NM o_NM n_NM rfl rfl hO0 (by decide) w_2298 rfl rfl rfl rfl (Nat.le_of_ble_eq_true rfl) d_14_24_30 (fun H locs w95 hu96 hO0 V => ?_)
        replace hO0 : w95[116]? = (some (qO0, .inr (12, [.int 1, .ref qA1, .int 0, .ref qA2, .int 0, .ref qO3, .ref qO4, .ref qO5, .ref qO6, .ref qO7, .ref qA8, .ref qA9])) : Option (Nat × va_E)) := hO0
        replace hF := q_gs hF hu96 (Nat.le_of_ble_eq_true rfl)
        refine lv_aload_n hx hb d_14_24_33 rfl (lv_at hl 0 rfl) ?_
        refine q_get (ci := 12) (j := 0) (v := .int 1) C0 V i_NM rfl rfl hO0 (by decide) w_2298 rfl d_14_24_34 ?_
        refine lv_if_le (tgt := 41) hx hb d_14_24_37 (by decide) (fun c97 => absurd c97 (by decide)) (fun c97 => ?_)
        exact q_retv C0 V (⟨1, 0, 0, hO0, (show ((1 : Int32).toInt = 0 ∧ ((0 ≤ x1.toInt ∧ x1.toInt ≤ 2) ∧ (0 ≤ x2.toInt ∧ x2.toInt ≤ 9) ∧ (0 ≤ x4.toInt ∧ x4.toInt ≤ 9) ∧ (x1.toInt = 0 → (0 ≤ x3.toInt ∧ x3.toInt ≤ 999))) ∧ ¬ ((x1.toInt = 1 ∧ ¬ (-10000 ≤ x3.toInt ∧ x3.toInt ≤ 10000)))) ∨ ((1 : Int32).toInt = 1 ∧ ¬ ((0 ≤ x1.toInt ∧ x1.toInt ≤ 2) ∧ (0 ≤ x2.toInt ∧ x2.toInt ≤ 9) ∧ (0 ≤ x4.toInt ∧ x4.toInt ≤ 9) ∧ (x1.toInt = 0 → (0 ≤ x3.toInt ∧ x3.toInt ≤ 999)))) ∨ ((1 : Int32).toInt = 2 ∧ ((0 ≤ x1.toInt ∧ x1.toInt ≤ 2) ∧ (0 ≤ x2.toInt ∧ x2.toInt ≤ 9) ∧ (0 ≤ x4.toInt ∧ x4.toInt ≤ 9) ∧ (x1.toInt = 0 → (0 ≤ x3.toInt ∧ x3.toInt ≤ 999))) ∧ (x1.toInt = 1 ∧ ¬ (-10000 ≤ x3.toInt ∧ x3.toInt ≤ 10000))) from by have t1 : 0 ≤ x1.toInt := q_nltI c1; have t2 : x1.toInt ≤ 2 := q_nltI c5; have t3 : 0 ≤ x2.toInt := q_nltI c17; have t4 : 9 < x2.toInt := q_nleI c18; have e0 : (1 : Int32).toInt = 1 := (by decide); omega), hF⟩) d_14_24_40
