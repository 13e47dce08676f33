/-! the reference on a fresh object: decimal -/
theorem d_15_39_0 : decode prog_15_method_39_code 0 = .ok (.aload_n 0, 1) := by decide +kernel
theorem d_15_39_1 : decode prog_15_method_39_code 1 = .ok (.iload_n 1, 1) := by decide +kernel
theorem d_15_39_2 : decode prog_15_method_39_code 2 = .ok (.invokestatic 113, 3) := by decide +kernel
theorem d_15_39_5 : decode prog_15_method_39_code 5 = .ok (.ifCond .ne 17, 3) := by decide +kernel
theorem d_15_39_8 : decode prog_15_method_39_code 8 = .ok (.iload_n 2, 1) := by decide +kernel
theorem d_15_39_9 : decode prog_15_method_39_code 9 = .ok (.invokestatic 113, 3) := by decide +kernel
theorem d_15_39_12 : decode prog_15_method_39_code 12 = .ok (.ifCond .ne 10, 3) := by decide +kernel
theorem d_15_39_15 : decode prog_15_method_39_code 15 = .ok (.iload_n 3, 1) := by decide +kernel
theorem d_15_39_16 : decode prog_15_method_39_code 16 = .ok (.invokestatic 113, 3) := by decide +kernel
theorem d_15_39_19 : decode prog_15_method_39_code 19 = .ok (.ifCond .eq 7, 3) := by decide +kernel
theorem d_15_39_26 : decode prog_15_method_39_code 26 = .ok (.aload_n 0, 1) := by decide +kernel
theorem d_15_39_27 : decode prog_15_method_39_code 27 = .ok (.iload_n 2, 1) := by decide +kernel
theorem d_15_39_28 : decode prog_15_method_39_code 28 = .ok (.invokevirtual 120, 3) := by decide +kernel
theorem d_15_39_31 : decode prog_15_method_39_code 31 = .ok (.ifCond .eq 7, 3) := by decide +kernel
theorem d_15_39_34 : decode prog_15_method_39_code 34 = .ok (.iconst 2, 1) := by decide +kernel
theorem d_15_39_35 : decode prog_15_method_39_code 35 = .ok (.goto 4, 3) := by decide +kernel
theorem d_15_39_39 : decode prog_15_method_39_code 39 = .ok (.putfield 41, 3) := by decide +kernel
theorem d_15_39_42 : decode prog_15_method_39_code 42 = .ok (.aload_n 0, 1) := by decide +kernel
theorem d_15_39_43 : decode prog_15_method_39_code 43 = .ok (.getfield 41, 3) := by decide +kernel
theorem d_15_39_46 : decode prog_15_method_39_code 46 = .ok (.ifCond .le 4, 3) := by decide +kernel
theorem d_15_39_49 : decode prog_15_method_39_code 49 = .ok (.return_, 1) := by decide +kernel
def y_DR_remainder : MethodName := ⟨"NumberHouseModel$DecimalRows", "remainder", "(III)V"⟩
set_option maxRecDepth 100000 in
set_option maxHeartbeats 4000000 in
theorem c_DR_remainder (l : Launch) (D : va_G) (g : Nat → ClassId) (ws : va_W) (kO0 kA2 qO0 qA1 qA2 qA3 qA4 qA5 qA6 qA7 qA8 qA9 qA10 : Nat) (x1 : Int32) (x2 : Int32) (x3 : Int32) (hO0 : ws[kO0]? = (some (qO0, .inr (14, [.int 0, .ref qA1, .int 0, .ref qA2, .ref qA3, .ref qA4, .ref qA5, .ref qA6, .int 0, .long 0, .int 0, .int 0, .ref qA7, .int 0, .ref qA8, .int 0, .ref qA9, .int 0, .ref qA10, .int 0, .int 0])) : Option (Nat × va_E))) (hA2 : ws[kA2]? = (some (qA2, .inl (g 0, 10000, .inl (fun _ => 0))) : Option (Nat × va_E))) (x1lo : 0 ≤ x1) (x1hi : x1 ≤ 9) (x2lo : 0 ≤ x2) (x2hi : x2 ≤ 9) (x3lo : 0 ≤ x3) (x3hi : x3 ≤ 9) : q_mV l y_DR_remainder prog_15_method_39_code 14 2 0 0 D g [.ref qO0, .int x1, .int x2, .int x3] ws (fun u => q_un ws u [kO0] ∧ u[kO0]? = (some (qO0, .inr (14, [.int 2, .ref qA1, .int 0, .ref qA2, .ref qA3, .ref qA4, .ref qA5, .ref qA6, .int 0, .long 0, .int 0, .int 0, .ref qA7, .int 0, .ref qA8, .int 0, .ref qA9, .int 0, .ref qA10, .int 0, .int 0])) : Option (Nat × va_E))) := by
  intro sz
  refine q_into (by decide) (Nat.le_of_ble_eq_true rfl) ?_
  intro p e s m below meth c ls hsz C0 V hl
  have hx := C0.1
  have hb := C0.2.1
  have hl : lv_has ls 14 [(0, .ref qO0), (1, .int x1), (2, .int x2), (3, .int x3)] := hl
  have n_A2_O0 := q_df hA2 hO0
  have hF : q_un ws ws [kO0] := q_u0
  refine lv_aload_n hx hb d_15_39_0 rfl (lv_at hl 0 rfl) ?_
  refine lv_iload_n hx hb d_15_39_1 rfl (lv_at hl 1 rfl) ?_
  refine q_goi V (q_runS (As := [.int x1]) (rest := [.ref qO0]) (d := 1) (mc := 0) (ms := 0) C0 V rfl LS_DR_113 (c_DR_no l D g ws x1 x1lo x1hi _) rfl hl.1 rfl (Nat.le_of_ble_eq_true rfl) ⟨by decide, by decide⟩ ⟨Nat.le_of_ble_eq_true rfl, Nat.le_of_ble_eq_true rfl⟩ d_15_39_2) (fun v3 u2 H locs hp1 V => ?_)
  obtain ⟨rfl, rfl⟩ := hp1
  refine lv_if_ne (tgt := 22) hx hb d_15_39_5 (by decide) (fun c5 => absurd (by decide) c5) (fun c5 => ?_)
  refine lv_iload_n hx hb d_15_39_8 rfl (lv_at hl 2 rfl) ?_
  refine q_goi V (q_runS (As := [.int x2]) (rest := [.ref qO0]) (d := 1) (mc := 0) (ms := 0) C0 V rfl LS_DR_113 (c_DR_no l D g ws x2 x2lo x2hi _) rfl hl.1 rfl (Nat.le_of_ble_eq_true rfl) ⟨by decide, by decide⟩ ⟨Nat.le_of_ble_eq_true rfl, Nat.le_of_ble_eq_true rfl⟩ d_15_39_9) (fun v8 u7 H locs hp6 V => ?_)
  obtain ⟨rfl, rfl⟩ := hp6
  refine lv_if_ne (tgt := 22) hx hb d_15_39_12 (by decide) (fun c10 => absurd (by decide) c10) (fun c10 => ?_)
  refine lv_iload_n hx hb d_15_39_15 rfl (lv_at hl 3 rfl) ?_
  refine q_goi V (q_runS (As := [.int x3]) (rest := [.ref qO0]) (d := 1) (mc := 0) (ms := 0) C0 V rfl LS_DR_113 (c_DR_no l D g ws x3 x3lo x3hi _) rfl hl.1 rfl (Nat.le_of_ble_eq_true rfl) ⟨by decide, by decide⟩ ⟨Nat.le_of_ble_eq_true rfl, Nat.le_of_ble_eq_true rfl⟩ d_15_39_16) (fun v13 u12 H locs hp11 V => ?_)
  obtain ⟨rfl, rfl⟩ := hp11
  refine lv_if_eq (tgt := 26) hx hb d_15_39_19 (by decide) (fun c15 => ?_) (fun c15 => absurd (by decide) c15)
  refine lv_aload_n hx hb d_15_39_26 rfl (lv_at hl 0 rfl) ?_
  refine lv_iload_n hx hb d_15_39_27 rfl (lv_at hl 2 rfl) ?_
  refine q_goi V (q_runV (As := [.int x2]) (rest := [.ref qO0]) (d := 1) (mc := 0) (ms := 0) (ci := 14) C0 V rfl LV_DR_120 (c_DR_isZero l D g ws kO0 kA2 qO0 qA1 qA2 qA3 qA4 qA5 qA6 qA7 qA8 qA9 qA10 x2 hO0 hA2 x2lo x2hi _) rfl rfl hO0 rfl hl.1 rfl (Nat.le_of_ble_eq_true rfl) ⟨by decide, by decide⟩ ⟨Nat.le_of_ble_eq_true rfl, Nat.le_of_ble_eq_true rfl⟩ d_15_39_28) (fun v18 u17 H locs hp16 V => ?_)
  obtain ⟨rfl, rfl⟩ := hp16
  refine lv_if_eq (tgt := 38) hx hb d_15_39_31 (by decide) (fun c20 => absurd c20 (by decide)) (fun c20 => ?_)
  refine lv_iconst (v := 2) hx hb d_15_39_34 (by decide) ?_
  refine lv_goto (tgt := 39) hx hb d_15_39_35 (by decide) ?_
  refine q_put (ci := 14) (j := 0) (v := .int 2) (ty := .int) C0 V i_DR o_DR n_DR rfl rfl hO0 (by decide) w_1996 rfl rfl rfl rfl (Nat.le_of_ble_eq_true rfl) d_15_39_39 (fun H locs w21 hu22 hO0 V => ?_)
  replace hO0 : w21[kO0]? = (some (qO0, .inr (14, [.int 2, .ref qA1, .int 0, .ref qA2, .ref qA3, .ref qA4, .ref qA5, .ref qA6, .int 0, .long 0, .int 0, .int 0, .ref qA7, .int 0, .ref qA8, .int 0, .ref qA9, .int 0, .ref qA10, .int 0, .int 0])) : Option (Nat × va_E)) := hO0
  replace hF := q_us hF hu22 (.head _)
  refine lv_aload_n hx hb d_15_39_42 rfl (lv_at hl 0 rfl) ?_
  refine q_get (ci := 14) (j := 0) (v := .int 2) C0 V i_DR rfl rfl hO0 (by decide) w_1996 rfl d_15_39_43 ?_
  refine lv_if_le (tgt := 50) hx hb d_15_39_46 (by decide) (fun c23 => absurd c23 (by decide)) (fun c23 => ?_)
  exact q_retv C0 V (⟨hF, hO0⟩) d_15_39_49
theorem d_15_6_0 : decode prog_15_method_6_code 0 = .ok (.aload_n 0, 1) := by decide +kernel
theorem d_15_6_1 : decode prog_15_method_6_code 1 = .ok (.aload_n 0, 1) := by decide +kernel
theorem d_15_6_2 : decode prog_15_method_6_code 2 = .ok (.getfield 16, 3) := by decide +kernel
theorem d_15_6_5 : decode prog_15_method_6_code 5 = .ok (.iload_n 1, 1) := by decide +kernel
theorem d_15_6_6 : decode prog_15_method_6_code 6 = .ok (.iaload, 1) := by decide +kernel
theorem d_15_6_7 : decode prog_15_method_6_code 7 = .ok (.putfield 45, 3) := by decide +kernel
theorem w_2011 : (Cond.fieldLink "NumberHouseModel$DecimalRows" (45 : Nat) "NumberHouseModel$DecimalRows" "size" "I") ∈ q_tbl := q_of 2011 (by decide +kernel) (by decide +kernel)
theorem d_15_6_10 : decode prog_15_method_6_code 10 = .ok (.iconst 0, 1) := by decide +kernel
theorem d_15_6_11 : decode prog_15_method_6_code 11 = .ok (.istore_n 2, 1) := by decide +kernel
theorem d_15_6_12 : decode prog_15_method_6_code 12 = .ok (.iload_n 2, 1) := by decide +kernel
theorem d_15_6_13 : decode prog_15_method_6_code 13 = .ok (.aload_n 0, 1) := by decide +kernel
theorem d_15_6_14 : decode prog_15_method_6_code 14 = .ok (.getfield 45, 3) := by decide +kernel
theorem d_15_6_17 : decode prog_15_method_6_code 17 = .ok (.if_icmp .ge 27, 3) := by decide +kernel
theorem d_15_6_20 : decode prog_15_method_6_code 20 = .ok (.aload_n 0, 1) := by decide +kernel
theorem d_15_6_21 : decode prog_15_method_6_code 21 = .ok (.getfield 26, 3) := by decide +kernel
theorem d_15_6_24 : decode prog_15_method_6_code 24 = .ok (.iload_n 2, 1) := by decide +kernel
theorem d_15_6_25 : decode prog_15_method_6_code 25 = .ok (.aload_n 0, 1) := by decide +kernel
theorem d_15_6_26 : decode prog_15_method_6_code 26 = .ok (.getfield 13, 3) := by decide +kernel
theorem d_15_6_29 : decode prog_15_method_6_code 29 = .ok (.sipush 1000, 3) := by decide +kernel
theorem d_15_6_32 : decode prog_15_method_6_code 32 = .ok (.iload_n 1, 1) := by decide +kernel
theorem d_15_6_33 : decode prog_15_method_6_code 33 = .ok (.imul, 1) := by decide +kernel
theorem d_15_6_34 : decode prog_15_method_6_code 34 = .ok (.iload_n 2, 1) := by decide +kernel
theorem d_15_6_35 : decode prog_15_method_6_code 35 = .ok (.iadd, 1) := by decide +kernel
theorem d_15_6_36 : decode prog_15_method_6_code 36 = .ok (.iaload, 1) := by decide +kernel
theorem d_15_6_37 : decode prog_15_method_6_code 37 = .ok (.iastore, 1) := by decide +kernel
theorem d_15_6_38 : decode prog_15_method_6_code 38 = .ok (.iinc 2 1, 3) := by decide +kernel
theorem d_15_6_41 : decode prog_15_method_6_code 41 = .ok (.goto (-29), 3) := by decide +kernel
theorem d_15_6_44 : decode prog_15_method_6_code 44 = .ok (.aload_n 0, 1) := by decide +kernel
theorem d_15_6_45 : decode prog_15_method_6_code 45 = .ok (.aload_n 0, 1) := by decide +kernel
theorem d_15_6_46 : decode prog_15_method_6_code 46 = .ok (.getfield 23, 3) := by decide +kernel
theorem d_15_6_49 : decode prog_15_method_6_code 49 = .ok (.iload_n 1, 1) := by decide +kernel
theorem d_15_6_50 : decode prog_15_method_6_code 50 = .ok (.iaload, 1) := by decide +kernel
theorem d_15_6_51 : decode prog_15_method_6_code 51 = .ok (.i2l, 1) := by decide +kernel
theorem d_15_6_52 : decode prog_15_method_6_code 52 = .ok (.putfield 48, 3) := by decide +kernel
theorem w_2012 : (Cond.fieldLink "NumberHouseModel$DecimalRows" (48 : Nat) "NumberHouseModel$DecimalRows" "scale" "J") ∈ q_tbl := q_of 2012 (by decide +kernel) (by decide +kernel)
theorem d_15_6_55 : decode prog_15_method_6_code 55 = .ok (.aload_n 0, 1) := by decide +kernel
theorem d_15_6_56 : decode prog_15_method_6_code 56 = .ok (.iconst 0, 1) := by decide +kernel
theorem d_15_6_57 : decode prog_15_method_6_code 57 = .ok (.putfield 52, 3) := by decide +kernel
theorem w_2013 : (Cond.fieldLink "NumberHouseModel$DecimalRows" (52 : Nat) "NumberHouseModel$DecimalRows" "more" "Z") ∈ q_tbl := q_of 2013 (by decide +kernel) (by decide +kernel)
theorem d_15_6_60 : decode prog_15_method_6_code 60 = .ok (.aload_n 0, 1) := by decide +kernel
theorem d_15_6_61 : decode prog_15_method_6_code 61 = .ok (.aload_n 0, 1) := by decide +kernel
theorem d_15_6_62 : decode prog_15_method_6_code 62 = .ok (.getfield 19, 3) := by decide +kernel
theorem d_15_6_65 : decode prog_15_method_6_code 65 = .ok (.iload_n 1, 1) := by decide +kernel
theorem d_15_6_66 : decode prog_15_method_6_code 66 = .ok (.baload, 1) := by decide +kernel
theorem d_15_6_67 : decode prog_15_method_6_code 67 = .ok (.putfield 56, 3) := by decide +kernel
theorem w_2014 : (Cond.fieldLink "NumberHouseModel$DecimalRows" (56 : Nat) "NumberHouseModel$DecimalRows" "below" "Z") ∈ q_tbl := q_of 2014 (by decide +kernel) (by decide +kernel)
theorem d_15_6_70 : decode prog_15_method_6_code 70 = .ok (.return_, 1) := by decide +kernel
def y_DR_load : MethodName := ⟨"NumberHouseModel$DecimalRows", "load", "(I)V"⟩
set_option maxRecDepth 100000 in
set_option maxHeartbeats 4000000 in
theorem c_DR_load (l : Launch) (D : va_G) (g : Nat → ClassId) (ws : va_W) (kO0 kA2 kA3 kA4 kA5 kA6 qO0 qA1 qA2 qA3 qA4 qA5 qA6 qA7 qA8 qA9 qA10 : Nat) (x1 : Int32) (hO0 : ws[kO0]? = (some (qO0, .inr (14, [.int 0, .ref qA1, .int 0, .ref qA2, .ref qA3, .ref qA4, .ref qA5, .ref qA6, .int 0, .long 0, .int 0, .int 0, .ref qA7, .int 0, .ref qA8, .int 0, .ref qA9, .int 0, .ref qA10, .int 0, .int 2])) : Option (Nat × va_E))) (hA2 : ws[kA2]? = (some (qA2, .inl (g 0, 10000, .inl (fun _ => 0))) : Option (Nat × va_E))) (hA3 : ws[kA3]? = (some (qA3, .inl (g 0, 10, .inl (upd (upd (upd (upd (upd (upd (upd (upd (upd (upd (fun _ => 0) 0 1) 1 1) 2 1) 3 1) 4 1) 5 1) 6 1) 7 1) 8 1) 9 1))) : Option (Nat × va_E))) (hA4 : ws[kA4]? = (some (qA4, .inl (g 3, 10, .inl (fun _ => 0))) : Option (Nat × va_E))) (hA5 : ws[kA5]? = (some (qA5, .inl (g 0, 10, .inl (fun _ => 0))) : Option (Nat × va_E))) (hA6 : ws[kA6]? = (some (qA6, .inl (g 0, 4400, .inl (fun _ => 0))) : Option (Nat × va_E))) (n_A2_A6 : kA2 ≠ kA6) (n_A3_A6 : kA3 ≠ kA6) (n_A4_A6 : kA4 ≠ kA6) (n_A5_A6 : kA5 ≠ kA6) (x1lo : 0 ≤ x1) (x1hi : x1 ≤ 9) : q_mV l y_DR_load prog_15_method_6_code 3 1 0 0 D g [.ref qO0, .int x1] ws (fun u => q_un ws u [kO0, kA6] ∧ u[kO0]? = (some (qO0, .inr (14, [.int 0, .ref qA1, .int 0, .ref qA2, .ref qA3, .ref qA4, .ref qA5, .ref qA6, .int 1, .long 0, .int 0, .int 0, .ref qA7, .int 0, .ref qA8, .int 0, .ref qA9, .int 0, .ref qA10, .int 0, .int 2])) : Option (Nat × va_E)) ∧ u[kA6]? = (some (qA6, .inl (g 0, 4400, .inl (fun _ => 0))) : Option (Nat × va_E))) := by
  intro sz
  refine q_into (by decide) (Nat.le_of_ble_eq_true rfl) ?_
  intro p e s m below meth c ls hsz C0 V hl
  have hx := C0.1
  have hb := C0.2.1
  have hl : lv_has ls 3 [(0, .ref qO0), (1, .int x1)] := hl
  have n_A2_O0 := q_df hA2 hO0
  have n_A3_O0 := q_df hA3 hO0
  have n_A4_O0 := q_df hA4 hO0
  have n_A5_O0 := q_df hA5 hO0
  have n_A6_O0 := q_df hA6 hO0
  have n_O0_A6 := Ne.symm (q_df hA6 hO0)
  have hF : q_un ws ws [kO0, kA6] := q_u0
  refine lv_aload_n hx hb d_15_6_0 rfl (lv_at hl 0 rfl) ?_
  refine lv_aload_n hx hb d_15_6_1 rfl (lv_at hl 0 rfl) ?_
  refine q_get (ci := 14) (j := 4) (v := .ref qA3) C0 V i_DR rfl rfl hO0 (by decide) w_2004 rfl d_15_6_2 ?_
  refine lv_iload_n hx hb d_15_6_5 rfl (lv_at hl 1 rfl) ?_
  refine q_iald C0 V hA3 (q_ix (x := x1.toInt) rfl (by have t1 : 0 ≤ x1.toInt := q_leI x1lo; have t2 : x1.toInt ≤ 9 := q_leI x1hi; omega) (by have t1 : 0 ≤ x1.toInt := q_leI x1lo; have t2 : x1.toInt ≤ 9 := q_leI x1hi; omega)) d_15_6_6 ?_
  refine q_ti (v := 1) (by have hj := q_clI (x := x1.toInt) rfl (by have t1 : 0 ≤ x1.toInt := q_leI x1lo; have t2 : x1.toInt ≤ 9 := q_leI x1hi; omega); have hk : x1.toNatClampNeg < 10 ∧ 0 ≤ x1.toNatClampNeg := (by have t1 : 0 ≤ x1.toInt := q_leI x1lo; have t2 : x1.toInt ≤ 9 := q_leI x1hi; omega); clear hj; generalize x1.toNatClampNeg = j at hk ⊢; rcases (show j = 0 ∨ j = 1 ∨ j = 2 ∨ j = 3 ∨ j = 4 ∨ j = 5 ∨ j = 6 ∨ j = 7 ∨ j = 8 ∨ j = 9 by omega) with rfl | rfl | rfl | rfl | rfl | rfl | rfl | rfl | rfl | rfl <;> rfl) ?_
  refine q_put (ci := 14) (j := 8) (v := .int 1) (ty := .int) C0 V i_DR o_DR n_DR rfl rfl hO0 (by decide) w_2011 rfl rfl rfl rfl (Nat.le_of_ble_eq_true rfl) d_15_6_7 (fun H locs w1 hu2 hO0 V => ?_)
  replace hO0 : w1[kO0]? = (some (qO0, .inr (14, [.int 0, .ref qA1, .int 0, .ref qA2, .ref qA3, .ref qA4, .ref qA5, .ref qA6, .int 1, .long 0, .int 0, .int 0, .ref qA7, .int 0, .ref qA8, .int 0, .ref qA9, .int 0, .ref qA10, .int 0, .int 2])) : Option (Nat × va_E)) := hO0
  replace hF := q_us hF hu2 (.head _)
  refine lv_iconst (v := 0) hx hb d_15_6_10 (by decide) ?_
  refine lv_istore_n (lv' := [(2, .int 0), (0, .ref qO0), (1, .int x1)]) hx hb d_15_6_11 rfl hl (by decide) rfl (fun ls hl => ?_)
  refine lv_iload_n hx hb d_15_6_12 rfl (lv_at hl 0 rfl) ?_
  refine lv_aload_n hx hb d_15_6_13 rfl (lv_at hl 1 rfl) ?_
  refine q_get (ci := 14) (j := 8) (v := .int 1) C0 V i_DR rfl rfl hO0 (by decide) w_2011 rfl d_15_6_14 ?_
  refine lv_icmp_ge (tgt := 44) hx hb d_15_6_17 (by decide) (fun c3 => absurd c3 (by decide)) (fun c3 => ?_)
  refine lv_aload_n hx hb d_15_6_20 rfl (lv_at hl 1 rfl) ?_
  refine q_get (ci := 14) (j := 7) (v := .ref qA6) C0 V i_DR rfl rfl hO0 (by decide) w_2010 rfl d_15_6_21 ?_
  refine lv_iload_n hx hb d_15_6_24 rfl (lv_at hl 0 rfl) ?_
  refine lv_aload_n hx hb d_15_6_25 rfl (lv_at hl 1 rfl) ?_
  refine q_get (ci := 14) (j := 3) (v := .ref qA2) C0 V i_DR rfl rfl hO0 (by decide) w_2002 rfl d_15_6_26 ?_
  refine lv_sipush (v := 1000) hx hb d_15_6_29 (by decide) ?_
  refine lv_iload_n hx hb d_15_6_32 rfl (lv_at hl 2 rfl) ?_
  refine lv_imul hx hb d_15_6_33 ?_
  refine lv_iload_n hx hb d_15_6_34 rfl (lv_at hl 0 rfl) ?_
  refine lv_iadd hx hb d_15_6_35 ?_
  refine q_ti (v := 1000 * x1) (by simp) ?_
  replace hA2 := (hu2 _ n_A2_O0).trans (hA2)
  refine q_iald C0 V hA2 (q_ix (x := (1000 * x1.toInt)) (q_mulI (x := 1000) (y := x1.toInt) (by decide) rfl (by have t1 : 0 ≤ x1.toInt := q_leI x1lo; have t2 : x1.toInt ≤ 9 := q_leI x1hi; omega) (by have t1 : 0 ≤ x1.toInt := q_leI x1lo; have t2 : x1.toInt ≤ 9 := q_leI x1hi; omega)) (by have t1 : 0 ≤ x1.toInt := q_leI x1lo; have t2 : x1.toInt ≤ 9 := q_leI x1hi; omega) (by have t1 : 0 ≤ x1.toInt := q_leI x1lo; have t2 : x1.toInt ≤ 9 := q_leI x1hi; omega)) d_15_6_36 ?_
  refine q_ti (v := 0) (by first | rfl | decide | simp [upd, vp_updL, sb_cl0]) ?_
  replace hA6 := (hu2 _ n_A6_O0).trans (hA6)
  refine q_iast C0 V hA6 (by unfold vp_in; decide) d_15_6_37 (fun H locs w4 hu5 hA6 V => ?_)
  replace hA6 := q_re (y := (qA6, .inl (g 0, 4400, .inl (fun _ => 0)))) hA6 (q_eI q_upd0)
  replace hA6 : w4[kA6]? = (some (qA6, .inl (g 0, 4400, .inl (fun _ => 0))) : Option (Nat × va_E)) := hA6
  replace hF := q_us hF hu5 (.tail _ (.head _))
  refine lv_iinc (v := 1) (lv' := [(2, .int 1), (0, .ref qO0), (1, .int x1)]) hx hb d_15_6_38 hl (k := 0) rfl (by decide) (by decide) rfl (fun ls hl => ?_)
  refine lv_goto (tgt := 12) hx hb d_15_6_41 (by decide) ?_
  refine lv_iload_n hx hb d_15_6_12 rfl (lv_at hl 0 rfl) ?_
  refine lv_aload_n hx hb d_15_6_13 rfl (lv_at hl 1 rfl) ?_
  replace hO0 := (hu5 _ n_O0_A6).trans (hO0)
  refine q_get (ci := 14) (j := 8) (v := .int 1) C0 V i_DR rfl rfl hO0 (by decide) w_2011 rfl d_15_6_14 ?_
  refine lv_icmp_ge (tgt := 44) hx hb d_15_6_17 (by decide) (fun c6 => ?_) (fun c6 => absurd (by decide) c6)
  refine lv_aload_n hx hb d_15_6_44 rfl (lv_at hl 1 rfl) ?_
  refine lv_aload_n hx hb d_15_6_45 rfl (lv_at hl 1 rfl) ?_
  refine q_get (ci := 14) (j := 6) (v := .ref qA5) C0 V i_DR rfl rfl hO0 (by decide) w_2008 rfl d_15_6_46 ?_
  refine lv_iload_n hx hb d_15_6_49 rfl (lv_at hl 2 rfl) ?_
  replace hA5 := (hu5 _ n_A5_A6).trans ((hu2 _ n_A5_O0).trans (hA5))
  refine q_iald C0 V hA5 (q_ix (x := x1.toInt) rfl (by have t1 : 0 ≤ x1.toInt := q_leI x1lo; have t2 : x1.toInt ≤ 9 := q_leI x1hi; omega) (by have t1 : 0 ≤ x1.toInt := q_leI x1lo; have t2 : x1.toInt ≤ 9 := q_leI x1hi; omega)) d_15_6_50 ?_
  refine q_ti (v := 0) (by first | rfl | decide | simp [upd, vp_updL, sb_cl0]) ?_
  refine lv_i2l hx hb d_15_6_51 rfl ?_
  refine q_tl (v := 0) (by decide) ?_
  refine q_put (ci := 14) (j := 9) (v := .long 0) (ty := .long) C0 V i_DR o_DR n_DR rfl rfl hO0 (by decide) w_2012 rfl rfl rfl rfl (Nat.le_of_ble_eq_true rfl) d_15_6_52 (fun H locs w7 hu8 hO0 V => ?_)
  replace hO0 : w7[kO0]? = (some (qO0, .inr (14, [.int 0, .ref qA1, .int 0, .ref qA2, .ref qA3, .ref qA4, .ref qA5, .ref qA6, .int 1, .long 0, .int 0, .int 0, .ref qA7, .int 0, .ref qA8, .int 0, .ref qA9, .int 0, .ref qA10, .int 0, .int 2])) : Option (Nat × va_E)) := hO0
  replace hF := q_us hF hu8 (.head _)
  refine lv_aload_n hx hb d_15_6_55 rfl (lv_at hl 1 rfl) ?_
  refine lv_iconst (v := 0) hx hb d_15_6_56 (by decide) ?_
  refine q_put (ci := 14) (j := 10) (v := .int 0) (ty := .boolean) C0 V i_DR o_DR n_DR rfl rfl hO0 (by decide) w_2013 rfl rfl rfl rfl (Nat.le_of_ble_eq_true rfl) d_15_6_57 (fun H locs w9 hu10 hO0 V => ?_)
  replace hO0 : w9[kO0]? = (some (qO0, .inr (14, [.int 0, .ref qA1, .int 0, .ref qA2, .ref qA3, .ref qA4, .ref qA5, .ref qA6, .int 1, .long 0, .int 0, .int 0, .ref qA7, .int 0, .ref qA8, .int 0, .ref qA9, .int 0, .ref qA10, .int 0, .int 2])) : Option (Nat × va_E)) := hO0
  replace hF := q_us hF hu10 (.head _)
  refine lv_aload_n hx hb d_15_6_60 rfl (lv_at hl 1 rfl) ?_
  refine lv_aload_n hx hb d_15_6_61 rfl (lv_at hl 1 rfl) ?_
  refine q_get (ci := 14) (j := 5) (v := .ref qA4) C0 V i_DR rfl rfl hO0 (by decide) w_2006 rfl d_15_6_62 ?_
  refine lv_iload_n hx hb d_15_6_65 rfl (lv_at hl 2 rfl) ?_
  replace hA4 := (hu10 _ n_A4_O0).trans ((hu8 _ n_A4_O0).trans ((hu5 _ n_A4_A6).trans ((hu2 _ n_A4_O0).trans (hA4))))
  refine q_zald C0 V hA4 (q_ix (x := x1.toInt) rfl (by have t1 : 0 ≤ x1.toInt := q_leI x1lo; have t2 : x1.toInt ≤ 9 := q_leI x1hi; omega) (by have t1 : 0 ≤ x1.toInt := q_leI x1lo; have t2 : x1.toInt ≤ 9 := q_leI x1hi; omega)) d_15_6_66 ?_
  refine q_ti (v := 0) (by first | rfl | decide | simp [upd, vp_updL, sb_cl0]) ?_
  refine q_put (ci := 14) (j := 11) (v := .int 0) (ty := .boolean) C0 V i_DR o_DR n_DR rfl rfl hO0 (by decide) w_2014 rfl rfl rfl rfl (Nat.le_of_ble_eq_true rfl) d_15_6_67 (fun H locs w11 hu12 hO0 V => ?_)
  replace hO0 : w11[kO0]? = (some (qO0, .inr (14, [.int 0, .ref qA1, .int 0, .ref qA2, .ref qA3, .ref qA4, .ref qA5, .ref qA6, .int 1, .long 0, .int 0, .int 0, .ref qA7, .int 0, .ref qA8, .int 0, .ref qA9, .int 0, .ref qA10, .int 0, .int 2])) : Option (Nat × va_E)) := hO0
  replace hF := q_us hF hu12 (.head _)
  replace hA6 := (hu12 _ n_A6_O0).trans ((hu10 _ n_A6_O0).trans ((hu8 _ n_A6_O0).trans (hA6)))
  exact q_retv C0 V (⟨hF, hO0, hA6⟩) d_15_6_70
theorem d_15_7_0 : decode prog_15_method_7_code 0 = .ok (.iconst 0, 1) := by decide +kernel
theorem d_15_7_1 : decode prog_15_method_7_code 1 = .ok (.istore_n 1, 1) := by decide +kernel
theorem d_15_7_2 : decode prog_15_method_7_code 2 = .ok (.iload_n 1, 1) := by decide +kernel
theorem d_15_7_3 : decode prog_15_method_7_code 3 = .ok (.iconst 1, 1) := by decide +kernel
theorem d_15_7_4 : decode prog_15_method_7_code 4 = .ok (.iadd, 1) := by decide +kernel
theorem d_15_7_5 : decode prog_15_method_7_code 5 = .ok (.aload_n 0, 1) := by decide +kernel
theorem d_15_7_6 : decode prog_15_method_7_code 6 = .ok (.getfield 45, 3) := by decide +kernel
theorem d_15_7_9 : decode prog_15_method_7_code 9 = .ok (.if_icmp .ge 18, 3) := by decide +kernel
theorem d_15_7_12 : decode prog_15_method_7_code 12 = .ok (.aload_n 0, 1) := by decide +kernel
theorem d_15_7_13 : decode prog_15_method_7_code 13 = .ok (.getfield 26, 3) := by decide +kernel
theorem d_15_7_16 : decode prog_15_method_7_code 16 = .ok (.iload_n 1, 1) := by decide +kernel
theorem d_15_7_17 : decode prog_15_method_7_code 17 = .ok (.iaload, 1) := by decide +kernel
theorem d_15_7_18 : decode prog_15_method_7_code 18 = .ok (.ifCond .ne 9, 3) := by decide +kernel
theorem d_15_7_21 : decode prog_15_method_7_code 21 = .ok (.iinc 1 1, 3) := by decide +kernel
theorem d_15_7_24 : decode prog_15_method_7_code 24 = .ok (.goto (-22), 3) := by decide +kernel
theorem d_15_7_27 : decode prog_15_method_7_code 27 = .ok (.iconst 0, 1) := by decide +kernel
theorem d_15_7_28 : decode prog_15_method_7_code 28 = .ok (.istore_n 2, 1) := by decide +kernel
theorem d_15_7_29 : decode prog_15_method_7_code 29 = .ok (.iload_n 2, 1) := by decide +kernel
theorem d_15_7_30 : decode prog_15_method_7_code 30 = .ok (.iload_n 1, 1) := by decide +kernel
theorem d_15_7_31 : decode prog_15_method_7_code 31 = .ok (.iadd, 1) := by decide +kernel
theorem d_15_7_32 : decode prog_15_method_7_code 32 = .ok (.aload_n 0, 1) := by decide +kernel
theorem d_15_7_33 : decode prog_15_method_7_code 33 = .ok (.getfield 45, 3) := by decide +kernel
theorem d_15_7_36 : decode prog_15_method_7_code 36 = .ok (.if_icmp .ge 23, 3) := by decide +kernel
theorem d_15_7_39 : decode prog_15_method_7_code 39 = .ok (.aload_n 0, 1) := by decide +kernel
theorem d_15_7_40 : decode prog_15_method_7_code 40 = .ok (.getfield 26, 3) := by decide +kernel
theorem d_15_7_43 : decode prog_15_method_7_code 43 = .ok (.iload_n 2, 1) := by decide +kernel
theorem d_15_7_44 : decode prog_15_method_7_code 44 = .ok (.aload_n 0, 1) := by decide +kernel
theorem d_15_7_45 : decode prog_15_method_7_code 45 = .ok (.getfield 26, 3) := by decide +kernel
theorem d_15_7_48 : decode prog_15_method_7_code 48 = .ok (.iload_n 2, 1) := by decide +kernel
theorem d_15_7_49 : decode prog_15_method_7_code 49 = .ok (.iload_n 1, 1) := by decide +kernel
theorem d_15_7_50 : decode prog_15_method_7_code 50 = .ok (.iadd, 1) := by decide +kernel
theorem d_15_7_51 : decode prog_15_method_7_code 51 = .ok (.iaload, 1) := by decide +kernel
theorem d_15_7_52 : decode prog_15_method_7_code 52 = .ok (.iastore, 1) := by decide +kernel
theorem d_15_7_53 : decode prog_15_method_7_code 53 = .ok (.iinc 2 1, 3) := by decide +kernel
theorem d_15_7_56 : decode prog_15_method_7_code 56 = .ok (.goto (-27), 3) := by decide +kernel
theorem d_15_7_59 : decode prog_15_method_7_code 59 = .ok (.aload_n 0, 1) := by decide +kernel
theorem d_15_7_60 : decode prog_15_method_7_code 60 = .ok (.getfield 45, 3) := by decide +kernel
theorem d_15_7_63 : decode prog_15_method_7_code 63 = .ok (.ifCond .ne 18, 3) := by decide +kernel
theorem d_15_7_81 : decode prog_15_method_7_code 81 = .ok (.aload_n 0, 1) := by decide +kernel
theorem d_15_7_82 : decode prog_15_method_7_code 82 = .ok (.aload_n 0, 1) := by decide +kernel
theorem d_15_7_83 : decode prog_15_method_7_code 83 = .ok (.getfield 45, 3) := by decide +kernel
theorem d_15_7_86 : decode prog_15_method_7_code 86 = .ok (.iload_n 1, 1) := by decide +kernel
theorem d_15_7_87 : decode prog_15_method_7_code 87 = .ok (.isub, 1) := by decide +kernel
theorem d_15_7_88 : decode prog_15_method_7_code 88 = .ok (.putfield 45, 3) := by decide +kernel
theorem d_15_7_91 : decode prog_15_method_7_code 91 = .ok (.aload_n 0, 1) := by decide +kernel
theorem d_15_7_92 : decode prog_15_method_7_code 92 = .ok (.aload_n 0, 1) := by decide +kernel
theorem d_15_7_93 : decode prog_15_method_7_code 93 = .ok (.getfield 56, 3) := by decide +kernel
theorem d_15_7_96 : decode prog_15_method_7_code 96 = .ok (.ifCond .eq 16, 3) := by decide +kernel
theorem d_15_7_112 : decode prog_15_method_7_code 112 = .ok (.iconst 0, 1) := by decide +kernel
theorem d_15_7_113 : decode prog_15_method_7_code 113 = .ok (.putfield 56, 3) := by decide +kernel
theorem d_15_7_116 : decode prog_15_method_7_code 116 = .ok (.return_, 1) := by decide +kernel
def y_DR_trim : MethodName := ⟨"NumberHouseModel$DecimalRows", "trim", "()V"⟩
set_option maxRecDepth 100000 in
set_option maxHeartbeats 4000000 in
theorem c_DR_trim (l : Launch) (D : va_G) (g : Nat → ClassId) (ws : va_W) (kO0 kA6 qO0 qA1 qA2 qA3 qA4 qA5 qA6 qA7 qA8 qA9 qA10 : Nat) (hO0 : ws[kO0]? = (some (qO0, .inr (14, [.int 0, .ref qA1, .int 0, .ref qA2, .ref qA3, .ref qA4, .ref qA5, .ref qA6, .int 2, .long 0, .int 0, .int 0, .ref qA7, .int 0, .ref qA8, .int 0, .ref qA9, .int 0, .ref qA10, .int 0, .int 2])) : Option (Nat × va_E))) (hA6 : ws[kA6]? = (some (qA6, .inl (g 0, 4400, .inl (fun _ => 0))) : Option (Nat × va_E))) : q_mV l y_DR_trim prog_15_method_7_code 3 1 0 0 D g [.ref qO0] ws (fun u => q_un ws u [kO0, kA6] ∧ u[kO0]? = (some (qO0, .inr (14, [.int 0, .ref qA1, .int 0, .ref qA2, .ref qA3, .ref qA4, .ref qA5, .ref qA6, .int 1, .long 0, .int 0, .int 0, .ref qA7, .int 0, .ref qA8, .int 0, .ref qA9, .int 0, .ref qA10, .int 0, .int 2])) : Option (Nat × va_E)) ∧ u[kA6]? = (some (qA6, .inl (g 0, 4400, .inl (fun _ => 0))) : Option (Nat × va_E))) := by
  intro sz
  refine q_into (by decide) (Nat.le_of_ble_eq_true rfl) ?_
  intro p e s m below meth c ls hsz C0 V hl
  have hx := C0.1
  have hb := C0.2.1
  have hl : lv_has ls 3 [(0, .ref qO0)] := hl
  have n_A6_O0 := q_df hA6 hO0
  have n_O0_A6 := Ne.symm (q_df hA6 hO0)
  have hF : q_un ws ws [kO0, kA6] := q_u0
  refine lv_iconst (v := 0) hx hb d_15_7_0 (by decide) ?_
  refine lv_istore_n (lv' := [(1, .int 0), (0, .ref qO0)]) hx hb d_15_7_1 rfl hl (by decide) rfl (fun ls hl => ?_)
  refine lv_iload_n hx hb d_15_7_2 rfl (lv_at hl 0 rfl) ?_
  refine lv_iconst (v := 1) hx hb d_15_7_3 (by decide) ?_
  refine lv_iadd hx hb d_15_7_4 ?_
  refine q_ti (v := 1) (by decide) ?_
  refine lv_aload_n hx hb d_15_7_5 rfl (lv_at hl 1 rfl) ?_
  refine q_get (ci := 14) (j := 8) (v := .int 2) C0 V i_DR rfl rfl hO0 (by decide) w_2011 rfl d_15_7_6 ?_
  refine lv_icmp_ge (tgt := 27) hx hb d_15_7_9 (by decide) (fun c1 => absurd c1 (by decide)) (fun c1 => ?_)
  refine lv_aload_n hx hb d_15_7_12 rfl (lv_at hl 1 rfl) ?_
  refine q_get (ci := 14) (j := 7) (v := .ref qA6) C0 V i_DR rfl rfl hO0 (by decide) w_2010 rfl d_15_7_13 ?_
  refine lv_iload_n hx hb d_15_7_16 rfl (lv_at hl 0 rfl) ?_
  refine q_iald C0 V hA6 (by unfold vp_in; decide) d_15_7_17 ?_
  refine q_ti (v := 0) (by first | rfl | decide | simp [upd, vp_updL, sb_cl0]) ?_
  refine lv_if_ne (tgt := 27) hx hb d_15_7_18 (by decide) (fun c2 => absurd (by decide) c2) (fun c2 => ?_)
  refine lv_iinc (v := 1) (lv' := [(1, .int 1), (0, .ref qO0)]) hx hb d_15_7_21 hl (k := 0) rfl (by decide) (by decide) rfl (fun ls hl => ?_)
  refine lv_goto (tgt := 2) hx hb d_15_7_24 (by decide) ?_
  refine lv_iload_n hx hb d_15_7_2 rfl (lv_at hl 0 rfl) ?_
  refine lv_iconst (v := 1) hx hb d_15_7_3 (by decide) ?_
  refine lv_iadd hx hb d_15_7_4 ?_
  refine q_ti (v := 2) (by decide) ?_
  refine lv_aload_n hx hb d_15_7_5 rfl (lv_at hl 1 rfl) ?_
  refine q_get (ci := 14) (j := 8) (v := .int 2) C0 V i_DR rfl rfl hO0 (by decide) w_2011 rfl d_15_7_6 ?_
  refine lv_icmp_ge (tgt := 27) hx hb d_15_7_9 (by decide) (fun c3 => ?_) (fun c3 => absurd (by decide) c3)
  refine lv_iconst (v := 0) hx hb d_15_7_27 (by decide) ?_
  refine lv_istore_n (lv' := [(2, .int 0), (1, .int 1), (0, .ref qO0)]) hx hb d_15_7_28 rfl hl (by decide) rfl (fun ls hl => ?_)
  refine lv_iload_n hx hb d_15_7_29 rfl (lv_at hl 0 rfl) ?_
  refine lv_iload_n hx hb d_15_7_30 rfl (lv_at hl 1 rfl) ?_
  refine lv_iadd hx hb d_15_7_31 ?_
  refine q_ti (v := 1) (by decide) ?_
  refine lv_aload_n hx hb d_15_7_32 rfl (lv_at hl 2 rfl) ?_
  refine q_get (ci := 14) (j := 8) (v := .int 2) C0 V i_DR rfl rfl hO0 (by decide) w_2011 rfl d_15_7_33 ?_
  refine lv_icmp_ge (tgt := 59) hx hb d_15_7_36 (by decide) (fun c4 => absurd c4 (by decide)) (fun c4 => ?_)
  refine lv_aload_n hx hb d_15_7_39 rfl (lv_at hl 2 rfl) ?_
  refine q_get (ci := 14) (j := 7) (v := .ref qA6) C0 V i_DR rfl rfl hO0 (by decide) w_2010 rfl d_15_7_40 ?_
  refine lv_iload_n hx hb d_15_7_43 rfl (lv_at hl 0 rfl) ?_
  refine lv_aload_n hx hb d_15_7_44 rfl (lv_at hl 2 rfl) ?_
  refine q_get (ci := 14) (j := 7) (v := .ref qA6) C0 V i_DR rfl rfl hO0 (by decide) w_2010 rfl d_15_7_45 ?_
  refine lv_iload_n hx hb d_15_7_48 rfl (lv_at hl 0 rfl) ?_
  refine lv_iload_n hx hb d_15_7_49 rfl (lv_at hl 1 rfl) ?_
  refine lv_iadd hx hb d_15_7_50 ?_
  refine q_ti (v := 1) (by decide) ?_
  refine q_iald C0 V hA6 (by unfold vp_in; decide) d_15_7_51 ?_
  refine q_ti (v := 0) (by first | rfl | decide | simp [upd, vp_updL, sb_cl0]) ?_
  refine q_iast C0 V hA6 (by unfold vp_in; decide) d_15_7_52 (fun H locs w5 hu6 hA6 V => ?_)
  replace hA6 := q_re (y := (qA6, .inl (g 0, 4400, .inl (fun _ => 0)))) hA6 (q_eI q_upd0)
  replace hA6 : w5[kA6]? = (some (qA6, .inl (g 0, 4400, .inl (fun _ => 0))) : Option (Nat × va_E)) := hA6
  replace hF := q_us hF hu6 (.tail _ (.head _))
  refine lv_iinc (v := 1) (lv' := [(2, .int 1), (1, .int 1), (0, .ref qO0)]) hx hb d_15_7_53 hl (k := 0) rfl (by decide) (by decide) rfl (fun ls hl => ?_)
  refine lv_goto (tgt := 29) hx hb d_15_7_56 (by decide) ?_
  refine lv_iload_n hx hb d_15_7_29 rfl (lv_at hl 0 rfl) ?_
  refine lv_iload_n hx hb d_15_7_30 rfl (lv_at hl 1 rfl) ?_
  refine lv_iadd hx hb d_15_7_31 ?_
  refine q_ti (v := 2) (by decide) ?_
  refine lv_aload_n hx hb d_15_7_32 rfl (lv_at hl 2 rfl) ?_
  replace hO0 := (hu6 _ n_O0_A6).trans (hO0)
  refine q_get (ci := 14) (j := 8) (v := .int 2) C0 V i_DR rfl rfl hO0 (by decide) w_2011 rfl d_15_7_33 ?_
  refine lv_icmp_ge (tgt := 59) hx hb d_15_7_36 (by decide) (fun c7 => ?_) (fun c7 => absurd (by decide) c7)
  refine lv_aload_n hx hb d_15_7_59 rfl (lv_at hl 2 rfl) ?_
  refine q_get (ci := 14) (j := 8) (v := .int 2) C0 V i_DR rfl rfl hO0 (by decide) w_2011 rfl d_15_7_60 ?_
  refine lv_if_ne (tgt := 81) hx hb d_15_7_63 (by decide) (fun c8 => ?_) (fun c8 => absurd c8 (by decide))
  refine lv_aload_n hx hb d_15_7_81 rfl (lv_at hl 2 rfl) ?_
  refine lv_aload_n hx hb d_15_7_82 rfl (lv_at hl 2 rfl) ?_
  refine q_get (ci := 14) (j := 8) (v := .int 2) C0 V i_DR rfl rfl hO0 (by decide) w_2011 rfl d_15_7_83 ?_
  refine lv_iload_n hx hb d_15_7_86 rfl (lv_at hl 1 rfl) ?_
  refine lv_isub hx hb d_15_7_87 ?_
  refine q_ti (v := 1) (by decide) ?_
  refine q_put (ci := 14) (j := 8) (v := .int 1) (ty := .int) C0 V i_DR o_DR n_DR rfl rfl hO0 (by decide) w_2011 rfl rfl rfl rfl (Nat.le_of_ble_eq_true rfl) d_15_7_88 (fun H locs w9 hu10 hO0 V => ?_)
  replace hO0 : w9[kO0]? = (some (qO0, .inr (14, [.int 0, .ref qA1, .int 0, .ref qA2, .ref qA3, .ref qA4, .ref qA5, .ref qA6, .int 1, .long 0, .int 0, .int 0, .ref qA7, .int 0, .ref qA8, .int 0, .ref qA9, .int 0, .ref qA10, .int 0, .int 2])) : Option (Nat × va_E)) := hO0
  replace hF := q_us hF hu10 (.head _)
  refine lv_aload_n hx hb d_15_7_91 rfl (lv_at hl 2 rfl) ?_
  refine lv_aload_n hx hb d_15_7_92 rfl (lv_at hl 2 rfl) ?_
  refine q_get (ci := 14) (j := 11) (v := .int 0) C0 V i_DR rfl rfl hO0 (by decide) w_2014 rfl d_15_7_93 ?_
  refine lv_if_eq (tgt := 112) hx hb d_15_7_96 (by decide) (fun c11 => ?_) (fun c11 => absurd (by decide) c11)
  refine lv_iconst (v := 0) hx hb d_15_7_112 (by decide) ?_
  refine q_put (ci := 14) (j := 11) (v := .int 0) (ty := .boolean) C0 V i_DR o_DR n_DR rfl rfl hO0 (by decide) w_2014 rfl rfl rfl rfl (Nat.le_of_ble_eq_true rfl) d_15_7_113 (fun H locs w12 hu13 hO0 V => ?_)
  replace hO0 : w12[kO0]? = (some (qO0, .inr (14, [.int 0, .ref qA1, .int 0, .ref qA2, .ref qA3, .ref qA4, .ref qA5, .ref qA6, .int 1, .long 0, .int 0, .int 0, .ref qA7, .int 0, .ref qA8, .int 0, .ref qA9, .int 0, .ref qA10, .int 0, .int 2])) : Option (Nat × va_E)) := hO0
  replace hF := q_us hF hu13 (.head _)
  replace hA6 := (hu13 _ n_A6_O0).trans ((hu10 _ n_A6_O0).trans (hA6))
  exact q_retv C0 V (⟨hF, hO0, hA6⟩) d_15_7_116
theorem d_15_27_0 : decode prog_15_method_27_code 0 = .ok (.aload_n 0, 1) := by decide +kernel
theorem d_15_27_1 : decode prog_15_method_27_code 1 = .ok (.getfield 45, 3) := by decide +kernel
theorem d_15_27_4 : decode prog_15_method_27_code 4 = .ok (.aload_n 0, 1) := by decide +kernel
theorem d_15_27_5 : decode prog_15_method_27_code 5 = .ok (.getfield 16, 3) := by decide +kernel
theorem d_15_27_8 : decode prog_15_method_27_code 8 = .ok (.iload_n 1, 1) := by decide +kernel
theorem d_15_27_9 : decode prog_15_method_27_code 9 = .ok (.iaload, 1) := by decide +kernel
theorem d_15_27_10 : decode prog_15_method_27_code 10 = .ok (.iadd, 1) := by decide +kernel
theorem d_15_27_11 : decode prog_15_method_27_code 11 = .ok (.istore_n 2, 1) := by decide +kernel
theorem d_15_27_12 : decode prog_15_method_27_code 12 = .ok (.iconst 0, 1) := by decide +kernel
theorem d_15_27_13 : decode prog_15_method_27_code 13 = .ok (.istore_n 3, 1) := by decide +kernel
theorem d_15_27_14 : decode prog_15_method_27_code 14 = .ok (.iload_n 3, 1) := by decide +kernel
theorem d_15_27_15 : decode prog_15_method_27_code 15 = .ok (.iload_n 2, 1) := by decide +kernel
theorem d_15_27_16 : decode prog_15_method_27_code 16 = .ok (.if_icmp .ge 16, 3) := by decide +kernel
theorem d_15_27_19 : decode prog_15_method_27_code 19 = .ok (.aload_n 0, 1) := by decide +kernel
theorem d_15_27_20 : decode prog_15_method_27_code 20 = .ok (.getfield 29, 3) := by decide +kernel
theorem d_15_27_23 : decode prog_15_method_27_code 23 = .ok (.iload_n 3, 1) := by decide +kernel
theorem d_15_27_24 : decode prog_15_method_27_code 24 = .ok (.iconst 0, 1) := by decide +kernel
theorem d_15_27_25 : decode prog_15_method_27_code 25 = .ok (.iastore, 1) := by decide +kernel
theorem d_15_27_26 : decode prog_15_method_27_code 26 = .ok (.iinc 3 1, 3) := by decide +kernel
theorem d_15_27_29 : decode prog_15_method_27_code 29 = .ok (.goto (-15), 3) := by decide +kernel
theorem d_15_27_32 : decode prog_15_method_27_code 32 = .ok (.aload_n 0, 1) := by decide +kernel
theorem d_15_27_33 : decode prog_15_method_27_code 33 = .ok (.getfield 45, 3) := by decide +kernel
theorem d_15_27_36 : decode prog_15_method_27_code 36 = .ok (.iconst 1, 1) := by decide +kernel
theorem d_15_27_37 : decode prog_15_method_27_code 37 = .ok (.isub, 1) := by decide +kernel
theorem d_15_27_38 : decode prog_15_method_27_code 38 = .ok (.istore_n 3, 1) := by decide +kernel
theorem d_15_27_39 : decode prog_15_method_27_code 39 = .ok (.iload_n 3, 1) := by decide +kernel
theorem d_15_27_40 : decode prog_15_method_27_code 40 = .ok (.ifCond .lt 108, 3) := by decide +kernel
theorem d_15_27_43 : decode prog_15_method_27_code 43 = .ok (.iconst 0, 1) := by decide +kernel
theorem d_15_27_44 : decode prog_15_method_27_code 44 = .ok (.istore 4, 2) := by decide +kernel
theorem d_15_27_46 : decode prog_15_method_27_code 46 = .ok (.aload_n 0, 1) := by decide +kernel
theorem d_15_27_47 : decode prog_15_method_27_code 47 = .ok (.getfield 16, 3) := by decide +kernel
theorem d_15_27_50 : decode prog_15_method_27_code 50 = .ok (.iload_n 1, 1) := by decide +kernel
theorem d_15_27_51 : decode prog_15_method_27_code 51 = .ok (.iaload, 1) := by decide +kernel
theorem d_15_27_52 : decode prog_15_method_27_code 52 = .ok (.iconst 1, 1) := by decide +kernel
theorem d_15_27_53 : decode prog_15_method_27_code 53 = .ok (.isub, 1) := by decide +kernel
theorem d_15_27_54 : decode prog_15_method_27_code 54 = .ok (.istore 5, 2) := by decide +kernel
theorem d_15_27_56 : decode prog_15_method_27_code 56 = .ok (.iload 5, 2) := by decide +kernel
theorem d_15_27_58 : decode prog_15_method_27_code 58 = .ok (.ifCond .lt 69, 3) := by decide +kernel
theorem d_15_27_61 : decode prog_15_method_27_code 61 = .ok (.aload_n 0, 1) := by decide +kernel
theorem d_15_27_62 : decode prog_15_method_27_code 62 = .ok (.getfield 29, 3) := by decide +kernel
theorem d_15_27_65 : decode prog_15_method_27_code 65 = .ok (.iload_n 3, 1) := by decide +kernel
theorem d_15_27_66 : decode prog_15_method_27_code 66 = .ok (.iload 5, 2) := by decide +kernel
theorem d_15_27_68 : decode prog_15_method_27_code 68 = .ok (.iadd, 1) := by decide +kernel
theorem d_15_27_69 : decode prog_15_method_27_code 69 = .ok (.iconst 1, 1) := by decide +kernel
theorem d_15_27_70 : decode prog_15_method_27_code 70 = .ok (.iadd, 1) := by decide +kernel
theorem d_15_27_71 : decode prog_15_method_27_code 71 = .ok (.iaload, 1) := by decide +kernel
theorem d_15_27_72 : decode prog_15_method_27_code 72 = .ok (.aload_n 0, 1) := by decide +kernel
theorem d_15_27_73 : decode prog_15_method_27_code 73 = .ok (.getfield 26, 3) := by decide +kernel
theorem d_15_27_76 : decode prog_15_method_27_code 76 = .ok (.iload_n 3, 1) := by decide +kernel
theorem d_15_27_77 : decode prog_15_method_27_code 77 = .ok (.iaload, 1) := by decide +kernel
theorem d_15_27_78 : decode prog_15_method_27_code 78 = .ok (.aload_n 0, 1) := by decide +kernel
theorem d_15_27_79 : decode prog_15_method_27_code 79 = .ok (.getfield 13, 3) := by decide +kernel
theorem d_15_27_82 : decode prog_15_method_27_code 82 = .ok (.sipush 1000, 3) := by decide +kernel
theorem d_15_27_85 : decode prog_15_method_27_code 85 = .ok (.iload_n 1, 1) := by decide +kernel
theorem d_15_27_86 : decode prog_15_method_27_code 86 = .ok (.imul, 1) := by decide +kernel
theorem d_15_27_87 : decode prog_15_method_27_code 87 = .ok (.iload 5, 2) := by decide +kernel
theorem d_15_27_89 : decode prog_15_method_27_code 89 = .ok (.iadd, 1) := by decide +kernel
theorem d_15_27_90 : decode prog_15_method_27_code 90 = .ok (.iaload, 1) := by decide +kernel
theorem d_15_27_91 : decode prog_15_method_27_code 91 = .ok (.imul, 1) := by decide +kernel
theorem d_15_27_92 : decode prog_15_method_27_code 92 = .ok (.iadd, 1) := by decide +kernel
theorem d_15_27_93 : decode prog_15_method_27_code 93 = .ok (.iload 4, 2) := by decide +kernel
theorem d_15_27_95 : decode prog_15_method_27_code 95 = .ok (.iadd, 1) := by decide +kernel
theorem d_15_27_96 : decode prog_15_method_27_code 96 = .ok (.istore 6, 2) := by decide +kernel
theorem d_15_27_98 : decode prog_15_method_27_code 98 = .ok (.aload_n 0, 1) := by decide +kernel
theorem d_15_27_99 : decode prog_15_method_27_code 99 = .ok (.getfield 29, 3) := by decide +kernel
theorem d_15_27_102 : decode prog_15_method_27_code 102 = .ok (.iload_n 3, 1) := by decide +kernel
theorem d_15_27_103 : decode prog_15_method_27_code 103 = .ok (.iload 5, 2) := by decide +kernel
theorem d_15_27_105 : decode prog_15_method_27_code 105 = .ok (.iadd, 1) := by decide +kernel
theorem d_15_27_106 : decode prog_15_method_27_code 106 = .ok (.iconst 1, 1) := by decide +kernel
theorem d_15_27_107 : decode prog_15_method_27_code 107 = .ok (.iadd, 1) := by decide +kernel
theorem d_15_27_108 : decode prog_15_method_27_code 108 = .ok (.iload 6, 2) := by decide +kernel
theorem d_15_27_110 : decode prog_15_method_27_code 110 = .ok (.bipush 10, 2) := by decide +kernel
theorem d_15_27_112 : decode prog_15_method_27_code 112 = .ok (.irem, 1) := by decide +kernel
theorem d_15_27_113 : decode prog_15_method_27_code 113 = .ok (.iastore, 1) := by decide +kernel
theorem d_15_27_114 : decode prog_15_method_27_code 114 = .ok (.iload 6, 2) := by decide +kernel
theorem d_15_27_116 : decode prog_15_method_27_code 116 = .ok (.bipush 10, 2) := by decide +kernel
theorem d_15_27_118 : decode prog_15_method_27_code 118 = .ok (.idiv, 1) := by decide +kernel
theorem d_15_27_119 : decode prog_15_method_27_code 119 = .ok (.istore 4, 2) := by decide +kernel
theorem d_15_27_121 : decode prog_15_method_27_code 121 = .ok (.iinc 5 (-1), 3) := by decide +kernel
theorem d_15_27_124 : decode prog_15_method_27_code 124 = .ok (.goto (-68), 3) := by decide +kernel
theorem d_15_27_127 : decode prog_15_method_27_code 127 = .ok (.aload_n 0, 1) := by decide +kernel
theorem d_15_27_128 : decode prog_15_method_27_code 128 = .ok (.getfield 29, 3) := by decide +kernel
theorem d_15_27_131 : decode prog_15_method_27_code 131 = .ok (.iload_n 3, 1) := by decide +kernel
theorem d_15_27_132 : decode prog_15_method_27_code 132 = .ok (.aload_n 0, 1) := by decide +kernel
theorem d_15_27_133 : decode prog_15_method_27_code 133 = .ok (.getfield 29, 3) := by decide +kernel
theorem d_15_27_136 : decode prog_15_method_27_code 136 = .ok (.iload_n 3, 1) := by decide +kernel
theorem d_15_27_137 : decode prog_15_method_27_code 137 = .ok (.iaload, 1) := by decide +kernel
theorem d_15_27_138 : decode prog_15_method_27_code 138 = .ok (.iload 4, 2) := by decide +kernel
theorem d_15_27_140 : decode prog_15_method_27_code 140 = .ok (.iadd, 1) := by decide +kernel
theorem d_15_27_141 : decode prog_15_method_27_code 141 = .ok (.iastore, 1) := by decide +kernel
theorem d_15_27_142 : decode prog_15_method_27_code 142 = .ok (.iinc 3 (-1), 3) := by decide +kernel
theorem d_15_27_145 : decode prog_15_method_27_code 145 = .ok (.goto (-106), 3) := by decide +kernel
theorem d_15_27_148 : decode prog_15_method_27_code 148 = .ok (.aload_n 0, 1) := by decide +kernel
theorem d_15_27_149 : decode prog_15_method_27_code 149 = .ok (.iload_n 2, 1) := by decide +kernel
theorem d_15_27_150 : decode prog_15_method_27_code 150 = .ok (.putfield 45, 3) := by decide +kernel
theorem d_15_27_153 : decode prog_15_method_27_code 153 = .ok (.iconst 0, 1) := by decide +kernel
theorem d_15_27_154 : decode prog_15_method_27_code 154 = .ok (.istore_n 3, 1) := by decide +kernel
theorem d_15_27_155 : decode prog_15_method_27_code 155 = .ok (.iload_n 3, 1) := by decide +kernel
theorem d_15_27_156 : decode prog_15_method_27_code 156 = .ok (.iload_n 2, 1) := by decide +kernel
theorem d_15_27_157 : decode prog_15_method_27_code 157 = .ok (.if_icmp .ge 21, 3) := by decide +kernel
theorem d_15_27_160 : decode prog_15_method_27_code 160 = .ok (.aload_n 0, 1) := by decide +kernel
theorem d_15_27_161 : decode prog_15_method_27_code 161 = .ok (.getfield 26, 3) := by decide +kernel
theorem d_15_27_164 : decode prog_15_method_27_code 164 = .ok (.iload_n 3, 1) := by decide +kernel
theorem d_15_27_165 : decode prog_15_method_27_code 165 = .ok (.aload_n 0, 1) := by decide +kernel
theorem d_15_27_166 : decode prog_15_method_27_code 166 = .ok (.getfield 29, 3) := by decide +kernel
theorem d_15_27_169 : decode prog_15_method_27_code 169 = .ok (.iload_n 3, 1) := by decide +kernel
theorem d_15_27_170 : decode prog_15_method_27_code 170 = .ok (.iaload, 1) := by decide +kernel
theorem d_15_27_171 : decode prog_15_method_27_code 171 = .ok (.iastore, 1) := by decide +kernel
theorem d_15_27_172 : decode prog_15_method_27_code 172 = .ok (.iinc 3 1, 3) := by decide +kernel
theorem d_15_27_175 : decode prog_15_method_27_code 175 = .ok (.goto (-20), 3) := by decide +kernel
theorem d_15_27_178 : decode prog_15_method_27_code 178 = .ok (.aload_n 0, 1) := by decide +kernel
theorem d_15_27_179 : decode prog_15_method_27_code 179 = .ok (.getfield 56, 3) := by decide +kernel
theorem d_15_27_182 : decode prog_15_method_27_code 182 = .ok (.istore_n 3, 1) := by decide +kernel
theorem d_15_27_183 : decode prog_15_method_27_code 183 = .ok (.aload_n 0, 1) := by decide +kernel
theorem d_15_27_184 : decode prog_15_method_27_code 184 = .ok (.iload_n 3, 1) := by decide +kernel
theorem d_15_27_185 : decode prog_15_method_27_code 185 = .ok (.aload_n 0, 1) := by decide +kernel
theorem d_15_27_186 : decode prog_15_method_27_code 186 = .ok (.getfield 19, 3) := by decide +kernel
theorem d_15_27_189 : decode prog_15_method_27_code 189 = .ok (.iload_n 1, 1) := by decide +kernel
theorem d_15_27_190 : decode prog_15_method_27_code 190 = .ok (.baload, 1) := by decide +kernel
theorem d_15_27_191 : decode prog_15_method_27_code 191 = .ok (.if_icmp .eq 7, 3) := by decide +kernel
theorem d_15_27_198 : decode prog_15_method_27_code 198 = .ok (.iconst 0, 1) := by decide +kernel
theorem d_15_27_199 : decode prog_15_method_27_code 199 = .ok (.putfield 56, 3) := by decide +kernel
theorem d_15_27_202 : decode prog_15_method_27_code 202 = .ok (.aload_n 0, 1) := by decide +kernel
theorem d_15_27_203 : decode prog_15_method_27_code 203 = .ok (.aload_n 0, 1) := by decide +kernel
theorem d_15_27_204 : decode prog_15_method_27_code 204 = .ok (.getfield 48, 3) := by decide +kernel
theorem d_15_27_207 : decode prog_15_method_27_code 207 = .ok (.aload_n 0, 1) := by decide +kernel
theorem d_15_27_208 : decode prog_15_method_27_code 208 = .ok (.getfield 23, 3) := by decide +kernel
theorem d_15_27_211 : decode prog_15_method_27_code 211 = .ok (.iload_n 1, 1) := by decide +kernel
theorem d_15_27_212 : decode prog_15_method_27_code 212 = .ok (.iaload, 1) := by decide +kernel
theorem d_15_27_213 : decode prog_15_method_27_code 213 = .ok (.i2l, 1) := by decide +kernel
theorem d_15_27_214 : decode prog_15_method_27_code 214 = .ok (.ladd, 1) := by decide +kernel
theorem d_15_27_215 : decode prog_15_method_27_code 215 = .ok (.putfield 48, 3) := by decide +kernel
theorem d_15_27_218 : decode prog_15_method_27_code 218 = .ok (.aload_n 0, 1) := by decide +kernel
theorem d_15_27_219 : decode prog_15_method_27_code 219 = .ok (.invokevirtual 59, 3) := by decide +kernel
theorem w_2416 : (Cond.code ({ cls := "NumberHouseModel$DecimalRows", name := "trim", desc := "()V" } : MethodName) prog_15_method_7_code (3 : Nat) (none : Option ClassFile.FieldType)) ∈ q_tbl := q_of 2416 (by decide +kernel) (by decide +kernel)
theorem w_2413 : (Cond.methodLink "NumberHouseModel$DecimalRows" (59 : Nat) ({ cls := "NumberHouseModel$DecimalRows", name := "trim", desc := "()V" } : MethodName)) ∈ q_tbl := q_of 2413 (by decide +kernel) (by decide +kernel)
theorem w_2415 : (Cond.instanceMethod ({ cls := "NumberHouseModel$DecimalRows", name := "trim", desc := "()V" } : MethodName)) ∈ q_tbl := q_of 2415 (by decide +kernel) (by decide +kernel)
theorem ws_64 : Cond.selects "NumberHouseModel$DecimalRows" (⟨"NumberHouseModel$DecimalRows", "trim", "()V"⟩ : MethodName) (⟨"NumberHouseModel$DecimalRows", "trim", "()V"⟩ : MethodName) ∈ q_tbl := q_ofs 64 (by decide +kernel) (by decide +kernel)
theorem LV_DR_59 : q_LV "NumberHouseModel$DecimalRows" 59 y_DR_trim prog_15_method_7_code 3 none 0 := ⟨w_2416, w_16, w_2413, w_2415, ws_64, ⟨by decide, by decide, by decide +kernel⟩⟩
theorem d_15_27_222 : decode prog_15_method_27_code 222 = .ok (.aload_n 0, 1) := by decide +kernel
theorem d_15_27_223 : decode prog_15_method_27_code 223 = .ok (.getfield 45, 3) := by decide +kernel
theorem d_15_27_226 : decode prog_15_method_27_code 226 = .ok (.sipush 1000, 3) := by decide +kernel
theorem d_15_27_229 : decode prog_15_method_27_code 229 = .ok (.if_icmp .gt 7, 3) := by decide +kernel
theorem d_15_27_232 : decode prog_15_method_27_code 232 = .ok (.iconst 1, 1) := by decide +kernel
theorem d_15_27_233 : decode prog_15_method_27_code 233 = .ok (.goto 4, 3) := by decide +kernel
theorem d_15_27_237 : decode prog_15_method_27_code 237 = .ok (.ireturn, 1) := by decide +kernel
def y_DR_times : MethodName := ⟨"NumberHouseModel$DecimalRows", "times", "(I)Z"⟩
set_option maxRecDepth 100000 in
set_option maxHeartbeats 4000000 in
theorem c_DR_times (l : Launch) (D : va_G) (g : Nat → ClassId) (ws : va_W) (kO0 kA2 kA3 kA4 kA5 kA6 kA7 qO0 qA1 qA2 qA3 qA4 qA5 qA6 qA7 qA8 qA9 qA10 : Nat) (x1 : Int32) (hO0 : ws[kO0]? = (some (qO0, .inr (14, [.int 0, .ref qA1, .int 0, .ref qA2, .ref qA3, .ref qA4, .ref qA5, .ref qA6, .int 1, .long 0, .int 0, .int 0, .ref qA7, .int 0, .ref qA8, .int 0, .ref qA9, .int 0, .ref qA10, .int 0, .int 2])) : Option (Nat × va_E))) (hA2 : ws[kA2]? = (some (qA2, .inl (g 0, 10000, .inl (fun _ => 0))) : Option (Nat × va_E))) (hA3 : ws[kA3]? = (some (qA3, .inl (g 0, 10, .inl (upd (upd (upd (upd (upd (upd (upd (upd (upd (upd (fun _ => 0) 0 1) 1 1) 2 1) 3 1) 4 1) 5 1) 6 1) 7 1) 8 1) 9 1))) : Option (Nat × va_E))) (hA4 : ws[kA4]? = (some (qA4, .inl (g 3, 10, .inl (fun _ => 0))) : Option (Nat × va_E))) (hA5 : ws[kA5]? = (some (qA5, .inl (g 0, 10, .inl (fun _ => 0))) : Option (Nat × va_E))) (hA6 : ws[kA6]? = (some (qA6, .inl (g 0, 4400, .inl (fun _ => 0))) : Option (Nat × va_E))) (hA7 : ws[kA7]? = (some (qA7, .inl (g 0, 4400, .inl (fun _ => 0))) : Option (Nat × va_E))) (n_A2_A6 : kA2 ≠ kA6) (n_A2_A7 : kA2 ≠ kA7) (n_A3_A6 : kA3 ≠ kA6) (n_A3_A7 : kA3 ≠ kA7) (n_A4_A6 : kA4 ≠ kA6) (n_A4_A7 : kA4 ≠ kA7) (n_A5_A6 : kA5 ≠ kA6) (n_A5_A7 : kA5 ≠ kA7) (n_A6_A7 : kA6 ≠ kA7) (x1lo : 0 ≤ x1) (x1hi : x1 ≤ 9) : q_mI l y_DR_times prog_15_method_27_code 7 (.boolean) 2 0 0 D g [.ref qO0, .int x1] ws (fun r u => 1 = r ∧ q_un ws u [kO0, kA6, kA7] ∧ u[kO0]? = (some (qO0, .inr (14, [.int 0, .ref qA1, .int 0, .ref qA2, .ref qA3, .ref qA4, .ref qA5, .ref qA6, .int 1, .long 0, .int 0, .int 0, .ref qA7, .int 0, .ref qA8, .int 0, .ref qA9, .int 0, .ref qA10, .int 0, .int 2])) : Option (Nat × va_E)) ∧ u[kA6]? = (some (qA6, .inl (g 0, 4400, .inl (fun _ => 0))) : Option (Nat × va_E)) ∧ u[kA7]? = (some (qA7, .inl (g 0, 4400, .inl (fun _ => 0))) : Option (Nat × va_E))) := by
  intro sz
  refine q_into (by decide) (Nat.le_of_ble_eq_true rfl) ?_
  intro p e s m below meth c ls hsz C0 V hl
  have hx := C0.1
  have hb := C0.2.1
  have hl : lv_has ls 7 [(0, .ref qO0), (1, .int x1)] := hl
  have n_A2_O0 := q_df hA2 hO0
  have n_A3_O0 := q_df hA3 hO0
  have n_A4_O0 := q_df hA4 hO0
  have n_A5_O0 := q_df hA5 hO0
  have n_A6_O0 := q_df hA6 hO0
  have n_A7_A6 := Ne.symm n_A6_A7
  have n_A7_O0 := q_df hA7 hO0
  have n_O0_A6 := Ne.symm (q_df hA6 hO0)
  have n_O0_A7 := Ne.symm (q_df hA7 hO0)
  have hF : q_un ws ws [kO0, kA6, kA7] := q_u0
  refine lv_aload_n hx hb d_15_27_0 rfl (lv_at hl 0 rfl) ?_
  refine q_get (ci := 14) (j := 8) (v := .int 1) C0 V i_DR rfl rfl hO0 (by decide) w_2011 rfl d_15_27_1 ?_
  refine lv_aload_n hx hb d_15_27_4 rfl (lv_at hl 0 rfl) ?_
  refine q_get (ci := 14) (j := 4) (v := .ref qA3) C0 V i_DR rfl rfl hO0 (by decide) w_2004 rfl d_15_27_5 ?_
  refine lv_iload_n hx hb d_15_27_8 rfl (lv_at hl 1 rfl) ?_
  refine q_iald C0 V hA3 (q_ix (x := x1.toInt) rfl (by have t1 : 0 ≤ x1.toInt := q_leI x1lo; have t2 : x1.toInt ≤ 9 := q_leI x1hi; omega) (by have t1 : 0 ≤ x1.toInt := q_leI x1lo; have t2 : x1.toInt ≤ 9 := q_leI x1hi; omega)) d_15_27_9 ?_
  refine q_ti (v := 1) (by have hj := q_clI (x := x1.toInt) rfl (by have t1 : 0 ≤ x1.toInt := q_leI x1lo; have t2 : x1.toInt ≤ 9 := q_leI x1hi; omega); have hk : x1.toNatClampNeg < 10 ∧ 0 ≤ x1.toNatClampNeg := (by have t1 : 0 ≤ x1.toInt := q_leI x1lo; have t2 : x1.toInt ≤ 9 := q_leI x1hi; omega); clear hj; generalize x1.toNatClampNeg = j at hk ⊢; rcases (show j = 0 ∨ j = 1 ∨ j = 2 ∨ j = 3 ∨ j = 4 ∨ j = 5 ∨ j = 6 ∨ j = 7 ∨ j = 8 ∨ j = 9 by omega) with rfl | rfl | rfl | rfl | rfl | rfl | rfl | rfl | rfl | rfl <;> rfl) ?_
  refine lv_iadd hx hb d_15_27_10 ?_
  refine q_ti (v := 2) (by decide) ?_
  refine lv_istore_n (lv' := [(2, .int 2), (0, .ref qO0), (1, .int x1)]) hx hb d_15_27_11 rfl hl (by decide) rfl (fun ls hl => ?_)
  refine lv_iconst (v := 0) hx hb d_15_27_12 (by decide) ?_
  refine lv_istore_n (lv' := [(3, .int 0), (2, .int 2), (0, .ref qO0), (1, .int x1)]) hx hb d_15_27_13 rfl hl (by decide) rfl (fun ls hl => ?_)
  refine lv_iload_n hx hb d_15_27_14 rfl (lv_at hl 0 rfl) ?_
  refine lv_iload_n hx hb d_15_27_15 rfl (lv_at hl 1 rfl) ?_
  refine lv_icmp_ge (tgt := 32) hx hb d_15_27_16 (by decide) (fun c1 => absurd c1 (by decide)) (fun c1 => ?_)
  refine lv_aload_n hx hb d_15_27_19 rfl (lv_at hl 2 rfl) ?_
  refine q_get (ci := 14) (j := 12) (v := .ref qA7) C0 V i_DR rfl rfl hO0 (by decide) w_2015 rfl d_15_27_20 ?_
  refine lv_iload_n hx hb d_15_27_23 rfl (lv_at hl 0 rfl) ?_
  refine lv_iconst (v := 0) hx hb d_15_27_24 (by decide) ?_
  refine q_iast C0 V hA7 (by unfold vp_in; decide) d_15_27_25 (fun H locs w2 hu3 hA7 V => ?_)
  replace hA7 := q_re (y := (qA7, .inl (g 0, 4400, .inl (fun _ => 0)))) hA7 (q_eI q_upd0)
  replace hA7 : w2[kA7]? = (some (qA7, .inl (g 0, 4400, .inl (fun _ => 0))) : Option (Nat × va_E)) := hA7
  replace hF := q_us hF hu3 (.tail _ (.tail _ (.head _)))
  refine lv_iinc (v := 1) (lv' := [(3, .int 1), (2, .int 2), (0, .ref qO0), (1, .int x1)]) hx hb d_15_27_26 hl (k := 0) rfl (by decide) (by decide) rfl (fun ls hl => ?_)
  refine lv_goto (tgt := 14) hx hb d_15_27_29 (by decide) ?_
  refine lv_iload_n hx hb d_15_27_14 rfl (lv_at hl 0 rfl) ?_
  refine lv_iload_n hx hb d_15_27_15 rfl (lv_at hl 1 rfl) ?_
  refine lv_icmp_ge (tgt := 32) hx hb d_15_27_16 (by decide) (fun c4 => absurd c4 (by decide)) (fun c4 => ?_)
  refine lv_aload_n hx hb d_15_27_19 rfl (lv_at hl 2 rfl) ?_
  replace hO0 := (hu3 _ n_O0_A7).trans (hO0)
  refine q_get (ci := 14) (j := 12) (v := .ref qA7) C0 V i_DR rfl rfl hO0 (by decide) w_2015 rfl d_15_27_20 ?_
  refine lv_iload_n hx hb d_15_27_23 rfl (lv_at hl 0 rfl) ?_
  refine lv_iconst (v := 0) hx hb d_15_27_24 (by decide) ?_
  refine q_iast C0 V hA7 (by unfold vp_in; decide) d_15_27_25 (fun H locs w5 hu6 hA7 V => ?_)
  replace hA7 := q_re (y := (qA7, .inl (g 0, 4400, .inl (fun _ => 0)))) hA7 (q_eI q_upd0)
  replace hA7 : w5[kA7]? = (some (qA7, .inl (g 0, 4400, .inl (fun _ => 0))) : Option (Nat × va_E)) := hA7
  replace hF := q_us hF hu6 (.tail _ (.tail _ (.head _)))
  refine lv_iinc (v := 2) (lv' := [(3, .int 2), (2, .int 2), (0, .ref qO0), (1, .int x1)]) hx hb d_15_27_26 hl (k := 0) rfl (by decide) (by decide) rfl (fun ls hl => ?_)
  refine lv_goto (tgt := 14) hx hb d_15_27_29 (by decide) ?_
  refine lv_iload_n hx hb d_15_27_14 rfl (lv_at hl 0 rfl) ?_
  refine lv_iload_n hx hb d_15_27_15 rfl (lv_at hl 1 rfl) ?_
  refine lv_icmp_ge (tgt := 32) hx hb d_15_27_16 (by decide) (fun c7 => ?_) (fun c7 => absurd (by decide) c7)
  refine lv_aload_n hx hb d_15_27_32 rfl (lv_at hl 2 rfl) ?_
  replace hO0 := (hu6 _ n_O0_A7).trans (hO0)
  refine q_get (ci := 14) (j := 8) (v := .int 1) C0 V i_DR rfl rfl hO0 (by decide) w_2011 rfl d_15_27_33 ?_
  refine lv_iconst (v := 1) hx hb d_15_27_36 (by decide) ?_
  refine lv_isub hx hb d_15_27_37 ?_
  refine q_ti (v := 0) (by decide) ?_
  refine lv_istore_n (lv' := [(3, .int 0), (2, .int 2), (0, .ref qO0), (1, .int x1)]) hx hb d_15_27_38 rfl hl (by decide) rfl (fun ls hl => ?_)
  refine lv_iload_n hx hb d_15_27_39 rfl (lv_at hl 0 rfl) ?_
  refine lv_if_lt (tgt := 148) hx hb d_15_27_40 (by decide) (fun c8 => absurd c8 (by decide)) (fun c8 => ?_)
  refine lv_iconst (v := 0) hx hb d_15_27_43 (by decide) ?_
  refine lv_istore (lv' := [(4, .int 0), (3, .int 0), (2, .int 2), (0, .ref qO0), (1, .int x1)]) hx hb d_15_27_44 hl (by decide) rfl (fun ls hl => ?_)
  refine lv_aload_n hx hb d_15_27_46 rfl (lv_at hl 3 rfl) ?_
  refine q_get (ci := 14) (j := 4) (v := .ref qA3) C0 V i_DR rfl rfl hO0 (by decide) w_2004 rfl d_15_27_47 ?_
  refine lv_iload_n hx hb d_15_27_50 rfl (lv_at hl 4 rfl) ?_
  replace hA3 := (hu6 _ n_A3_A7).trans ((hu3 _ n_A3_A7).trans (hA3))
  refine q_iald C0 V hA3 (q_ix (x := x1.toInt) rfl (by have t1 : 0 ≤ x1.toInt := q_leI x1lo; have t2 : x1.toInt ≤ 9 := q_leI x1hi; omega) (by have t1 : 0 ≤ x1.toInt := q_leI x1lo; have t2 : x1.toInt ≤ 9 := q_leI x1hi; omega)) d_15_27_51 ?_
  refine q_ti (v := 1) (by have hj := q_clI (x := x1.toInt) rfl (by have t1 : 0 ≤ x1.toInt := q_leI x1lo; have t2 : x1.toInt ≤ 9 := q_leI x1hi; omega); have hk : x1.toNatClampNeg < 10 ∧ 0 ≤ x1.toNatClampNeg := (by have t1 : 0 ≤ x1.toInt := q_leI x1lo; have t2 : x1.toInt ≤ 9 := q_leI x1hi; omega); clear hj; generalize x1.toNatClampNeg = j at hk ⊢; rcases (show j = 0 ∨ j = 1 ∨ j = 2 ∨ j = 3 ∨ j = 4 ∨ j = 5 ∨ j = 6 ∨ j = 7 ∨ j = 8 ∨ j = 9 by omega) with rfl | rfl | rfl | rfl | rfl | rfl | rfl | rfl | rfl | rfl <;> rfl) ?_
  refine lv_iconst (v := 1) hx hb d_15_27_52 (by decide) ?_
  refine lv_isub hx hb d_15_27_53 ?_
  refine q_ti (v := 0) (by decide) ?_
  refine lv_istore (lv' := [(5, .int 0), (4, .int 0), (3, .int 0), (2, .int 2), (0, .ref qO0), (1, .int x1)]) hx hb d_15_27_54 hl (by decide) rfl (fun ls hl => ?_)
  refine lv_iload hx hb d_15_27_56 (lv_at hl 0 rfl) ?_
  refine lv_if_lt (tgt := 127) hx hb d_15_27_58 (by decide) (fun c9 => absurd c9 (by decide)) (fun c9 => ?_)
  refine lv_aload_n hx hb d_15_27_61 rfl (lv_at hl 4 rfl) ?_
  refine q_get (ci := 14) (j := 12) (v := .ref qA7) C0 V i_DR rfl rfl hO0 (by decide) w_2015 rfl d_15_27_62 ?_
  refine lv_iload_n hx hb d_15_27_65 rfl (lv_at hl 2 rfl) ?_
  refine lv_iload hx hb d_15_27_66 (lv_at hl 0 rfl) ?_
  refine lv_iadd hx hb d_15_27_68 ?_
  refine q_ti (v := 0) (by decide) ?_
  refine lv_iconst (v := 1) hx hb d_15_27_69 (by decide) ?_
  refine lv_iadd hx hb d_15_27_70 ?_
  refine q_ti (v := 1) (by decide) ?_
  refine q_iald C0 V hA7 (by unfold vp_in; decide) d_15_27_71 ?_
  refine q_ti (v := 0) (by first | rfl | decide | simp [upd, vp_updL, sb_cl0]) ?_
  refine lv_aload_n hx hb d_15_27_72 rfl (lv_at hl 4 rfl) ?_
  refine q_get (ci := 14) (j := 7) (v := .ref qA6) C0 V i_DR rfl rfl hO0 (by decide) w_2010 rfl d_15_27_73 ?_
  refine lv_iload_n hx hb d_15_27_76 rfl (lv_at hl 2 rfl) ?_
  replace hA6 := (hu6 _ n_A6_A7).trans ((hu3 _ n_A6_A7).trans (hA6))
  refine q_iald C0 V hA6 (by unfold vp_in; decide) d_15_27_77 ?_
  refine q_ti (v := 0) (by first | rfl | decide | simp [upd, vp_updL, sb_cl0]) ?_
  refine lv_aload_n hx hb d_15_27_78 rfl (lv_at hl 4 rfl) ?_
  refine q_get (ci := 14) (j := 3) (v := .ref qA2) C0 V i_DR rfl rfl hO0 (by decide) w_2002 rfl d_15_27_79 ?_
  refine lv_sipush (v := 1000) hx hb d_15_27_82 (by decide) ?_
  refine lv_iload_n hx hb d_15_27_85 rfl (lv_at hl 5 rfl) ?_
  refine lv_imul hx hb d_15_27_86 ?_
  refine lv_iload hx hb d_15_27_87 (lv_at hl 0 rfl) ?_
  refine lv_iadd hx hb d_15_27_89 ?_
  refine q_ti (v := 1000 * x1) (by simp) ?_
  replace hA2 := (hu6 _ n_A2_A7).trans ((hu3 _ n_A2_A7).trans (hA2))
  refine q_iald C0 V hA2 (q_ix (x := (1000 * x1.toInt)) (q_mulI (x := 1000) (y := x1.toInt) (by decide) rfl (by have t1 : 0 ≤ x1.toInt := q_leI x1lo; have t2 : x1.toInt ≤ 9 := q_leI x1hi; omega) (by have t1 : 0 ≤ x1.toInt := q_leI x1lo; have t2 : x1.toInt ≤ 9 := q_leI x1hi; omega)) (by have t1 : 0 ≤ x1.toInt := q_leI x1lo; have t2 : x1.toInt ≤ 9 := q_leI x1hi; omega) (by have t1 : 0 ≤ x1.toInt := q_leI x1lo; have t2 : x1.toInt ≤ 9 := q_leI x1hi; omega)) d_15_27_90 ?_
  refine q_ti (v := 0) (by first | rfl | decide | simp [upd, vp_updL, sb_cl0]) ?_
  refine lv_imul hx hb d_15_27_91 ?_
  refine q_ti (v := 0) (by decide) ?_
  refine lv_iadd hx hb d_15_27_92 ?_
  refine q_ti (v := 0) (by decide) ?_
  refine lv_iload hx hb d_15_27_93 (lv_at hl 1 rfl) ?_
  refine lv_iadd hx hb d_15_27_95 ?_
  refine q_ti (v := 0) (by decide) ?_
  refine lv_istore (lv' := [(6, .int 0), (5, .int 0), (4, .int 0), (3, .int 0), (2, .int 2), (0, .ref qO0), (1, .int x1)]) hx hb d_15_27_96 hl (by decide) rfl (fun ls hl => ?_)
  refine lv_aload_n hx hb d_15_27_98 rfl (lv_at hl 5 rfl) ?_
  refine q_get (ci := 14) (j := 12) (v := .ref qA7) C0 V i_DR rfl rfl hO0 (by decide) w_2015 rfl d_15_27_99 ?_
  refine lv_iload_n hx hb d_15_27_102 rfl (lv_at hl 3 rfl) ?_
  refine lv_iload hx hb d_15_27_103 (lv_at hl 1 rfl) ?_
  refine lv_iadd hx hb d_15_27_105 ?_
  refine q_ti (v := 0) (by decide) ?_
  refine lv_iconst (v := 1) hx hb d_15_27_106 (by decide) ?_
  refine lv_iadd hx hb d_15_27_107 ?_
  refine q_ti (v := 1) (by decide) ?_
  refine lv_iload hx hb d_15_27_108 (lv_at hl 0 rfl) ?_
  refine lv_bipush (v := 10) hx hb d_15_27_110 (by decide) ?_
  refine lv_irem hx hb d_15_27_112 (by decide) ?_
  refine q_ti (v := 0) (by decide) ?_
  refine q_iast C0 V hA7 (by unfold vp_in; decide) d_15_27_113 (fun H locs w10 hu11 hA7 V => ?_)
  replace hA7 := q_re (y := (qA7, .inl (g 0, 4400, .inl (fun _ => 0)))) hA7 (q_eI q_upd0)
  replace hA7 : w10[kA7]? = (some (qA7, .inl (g 0, 4400, .inl (fun _ => 0))) : Option (Nat × va_E)) := hA7
  replace hF := q_us hF hu11 (.tail _ (.tail _ (.head _)))
  refine lv_iload hx hb d_15_27_114 (lv_at hl 0 rfl) ?_
  refine lv_bipush (v := 10) hx hb d_15_27_116 (by decide) ?_
  refine lv_idiv hx hb d_15_27_118 (by decide) ?_
  refine q_ti (v := 0) (by decide) ?_
  refine lv_istore (lv' := [(4, .int 0), (6, .int 0), (5, .int 0), (3, .int 0), (2, .int 2), (0, .ref qO0), (1, .int x1)]) hx hb d_15_27_119 hl (by decide) rfl (fun ls hl => ?_)
  refine lv_iinc (v := (-1)) (lv' := [(5, .int (-1)), (4, .int 0), (6, .int 0), (3, .int 0), (2, .int 2), (0, .ref qO0), (1, .int x1)]) hx hb d_15_27_121 hl (k := 2) rfl (by decide) (by decide) rfl (fun ls hl => ?_)
  refine lv_goto (tgt := 56) hx hb d_15_27_124 (by decide) ?_
  refine lv_iload hx hb d_15_27_56 (lv_at hl 0 rfl) ?_
  refine lv_if_lt (tgt := 127) hx hb d_15_27_58 (by decide) (fun c12 => ?_) (fun c12 => absurd (by decide) c12)
  refine lv_aload_n hx hb d_15_27_127 rfl (lv_at hl 5 rfl) ?_
  replace hO0 := (hu11 _ n_O0_A7).trans (hO0)
  refine q_get (ci := 14) (j := 12) (v := .ref qA7) C0 V i_DR rfl rfl hO0 (by decide) w_2015 rfl d_15_27_128 ?_
  refine lv_iload_n hx hb d_15_27_131 rfl (lv_at hl 3 rfl) ?_
  refine lv_aload_n hx hb d_15_27_132 rfl (lv_at hl 5 rfl) ?_
  refine q_get (ci := 14) (j := 12) (v := .ref qA7) C0 V i_DR rfl rfl hO0 (by decide) w_2015 rfl d_15_27_133 ?_
  refine lv_iload_n hx hb d_15_27_136 rfl (lv_at hl 3 rfl) ?_
  refine q_iald C0 V hA7 (by unfold vp_in; decide) d_15_27_137 ?_
  refine q_ti (v := 0) (by first | rfl | decide | simp [upd, vp_updL, sb_cl0]) ?_
  refine lv_iload hx hb d_15_27_138 (lv_at hl 1 rfl) ?_
  refine lv_iadd hx hb d_15_27_140 ?_
  refine q_ti (v := 0) (by decide) ?_
  refine q_iast C0 V hA7 (by unfold vp_in; decide) d_15_27_141 (fun H locs w13 hu14 hA7 V => ?_)
  replace hA7 := q_re (y := (qA7, .inl (g 0, 4400, .inl (fun _ => 0)))) hA7 (q_eI q_upd0)
  replace hA7 : w13[kA7]? = (some (qA7, .inl (g 0, 4400, .inl (fun _ => 0))) : Option (Nat × va_E)) := hA7
  replace hF := q_us hF hu14 (.tail _ (.tail _ (.head _)))
  refine lv_iinc (v := (-1)) (lv' := [(3, .int (-1)), (5, .int (-1)), (4, .int 0), (6, .int 0), (2, .int 2), (0, .ref qO0), (1, .int x1)]) hx hb d_15_27_142 hl (k := 3) rfl (by decide) (by decide) rfl (fun ls hl => ?_)
  refine lv_goto (tgt := 39) hx hb d_15_27_145 (by decide) ?_
  refine lv_iload_n hx hb d_15_27_39 rfl (lv_at hl 0 rfl) ?_
  refine lv_if_lt (tgt := 148) hx hb d_15_27_40 (by decide) (fun c15 => ?_) (fun c15 => absurd (by decide) c15)
  refine lv_aload_n hx hb d_15_27_148 rfl (lv_at hl 5 rfl) ?_
  refine lv_iload_n hx hb d_15_27_149 rfl (lv_at hl 4 rfl) ?_
  replace hO0 := (hu14 _ n_O0_A7).trans (hO0)
  refine q_put (ci := 14) (j := 8) (v := .int 2) (ty := .int) C0 V i_DR o_DR n_DR rfl rfl hO0 (by decide) w_2011 rfl rfl rfl rfl (Nat.le_of_ble_eq_true rfl) d_15_27_150 (fun H locs w16 hu17 hO0 V => ?_)
  replace hO0 : w16[kO0]? = (some (qO0, .inr (14, [.int 0, .ref qA1, .int 0, .ref qA2, .ref qA3, .ref qA4, .ref qA5, .ref qA6, .int 2, .long 0, .int 0, .int 0, .ref qA7, .int 0, .ref qA8, .int 0, .ref qA9, .int 0, .ref qA10, .int 0, .int 2])) : Option (Nat × va_E)) := hO0
  replace hF := q_us hF hu17 (.head _)
  refine lv_iconst (v := 0) hx hb d_15_27_153 (by decide) ?_
  refine lv_istore_n (lv' := [(3, .int 0), (5, .int (-1)), (4, .int 0), (6, .int 0), (2, .int 2), (0, .ref qO0), (1, .int x1)]) hx hb d_15_27_154 rfl hl (by decide) rfl (fun ls hl => ?_)
  refine lv_iload_n hx hb d_15_27_155 rfl (lv_at hl 0 rfl) ?_
  refine lv_iload_n hx hb d_15_27_156 rfl (lv_at hl 4 rfl) ?_
  refine lv_icmp_ge (tgt := 178) hx hb d_15_27_157 (by decide) (fun c18 => absurd c18 (by decide)) (fun c18 => ?_)
  refine lv_aload_n hx hb d_15_27_160 rfl (lv_at hl 5 rfl) ?_
  refine q_get (ci := 14) (j := 7) (v := .ref qA6) C0 V i_DR rfl rfl hO0 (by decide) w_2010 rfl d_15_27_161 ?_
  refine lv_iload_n hx hb d_15_27_164 rfl (lv_at hl 0 rfl) ?_
  refine lv_aload_n hx hb d_15_27_165 rfl (lv_at hl 5 rfl) ?_
  refine q_get (ci := 14) (j := 12) (v := .ref qA7) C0 V i_DR rfl rfl hO0 (by decide) w_2015 rfl d_15_27_166 ?_
  refine lv_iload_n hx hb d_15_27_169 rfl (lv_at hl 0 rfl) ?_
  replace hA7 := (hu17 _ n_A7_O0).trans (hA7)
  refine q_iald C0 V hA7 (by unfold vp_in; decide) d_15_27_170 ?_
  refine q_ti (v := 0) (by first | rfl | decide | simp [upd, vp_updL, sb_cl0]) ?_
  replace hA6 := (hu17 _ n_A6_O0).trans ((hu14 _ n_A6_A7).trans ((hu11 _ n_A6_A7).trans (hA6)))
  refine q_iast C0 V hA6 (by unfold vp_in; decide) d_15_27_171 (fun H locs w19 hu20 hA6 V => ?_)
  replace hA6 := q_re (y := (qA6, .inl (g 0, 4400, .inl (fun _ => 0)))) hA6 (q_eI q_upd0)
  replace hA6 : w19[kA6]? = (some (qA6, .inl (g 0, 4400, .inl (fun _ => 0))) : Option (Nat × va_E)) := hA6
  replace hF := q_us hF hu20 (.tail _ (.head _))
  refine lv_iinc (v := 1) (lv' := [(3, .int 1), (5, .int (-1)), (4, .int 0), (6, .int 0), (2, .int 2), (0, .ref qO0), (1, .int x1)]) hx hb d_15_27_172 hl (k := 0) rfl (by decide) (by decide) rfl (fun ls hl => ?_)
  refine lv_goto (tgt := 155) hx hb d_15_27_175 (by decide) ?_
  refine lv_iload_n hx hb d_15_27_155 rfl (lv_at hl 0 rfl) ?_
  refine lv_iload_n hx hb d_15_27_156 rfl (lv_at hl 4 rfl) ?_
  refine lv_icmp_ge (tgt := 178) hx hb d_15_27_157 (by decide) (fun c21 => absurd c21 (by decide)) (fun c21 => ?_)
  refine lv_aload_n hx hb d_15_27_160 rfl (lv_at hl 5 rfl) ?_
  replace hO0 := (hu20 _ n_O0_A6).trans (hO0)
  refine q_get (ci := 14) (j := 7) (v := .ref qA6) C0 V i_DR rfl rfl hO0 (by decide) w_2010 rfl d_15_27_161 ?_
  refine lv_iload_n hx hb d_15_27_164 rfl (lv_at hl 0 rfl) ?_
  refine lv_aload_n hx hb d_15_27_165 rfl (lv_at hl 5 rfl) ?_
  refine q_get (ci := 14) (j := 12) (v := .ref qA7) C0 V i_DR rfl rfl hO0 (by decide) w_2015 rfl d_15_27_166 ?_
  refine lv_iload_n hx hb d_15_27_169 rfl (lv_at hl 0 rfl) ?_
  replace hA7 := (hu20 _ n_A7_A6).trans (hA7)
  refine q_iald C0 V hA7 (by unfold vp_in; decide) d_15_27_170 ?_
  refine q_ti (v := 0) (by first | rfl | decide | simp [upd, vp_updL, sb_cl0]) ?_
  refine q_iast C0 V hA6 (by unfold vp_in; decide) d_15_27_171 (fun H locs w22 hu23 hA6 V => ?_)
  replace hA6 := q_re (y := (qA6, .inl (g 0, 4400, .inl (fun _ => 0)))) hA6 (q_eI q_upd0)
  replace hA6 : w22[kA6]? = (some (qA6, .inl (g 0, 4400, .inl (fun _ => 0))) : Option (Nat × va_E)) := hA6
  replace hF := q_us hF hu23 (.tail _ (.head _))
  refine lv_iinc (v := 2) (lv' := [(3, .int 2), (5, .int (-1)), (4, .int 0), (6, .int 0), (2, .int 2), (0, .ref qO0), (1, .int x1)]) hx hb d_15_27_172 hl (k := 0) rfl (by decide) (by decide) rfl (fun ls hl => ?_)
  refine lv_goto (tgt := 155) hx hb d_15_27_175 (by decide) ?_
  refine lv_iload_n hx hb d_15_27_155 rfl (lv_at hl 0 rfl) ?_
  refine lv_iload_n hx hb d_15_27_156 rfl (lv_at hl 4 rfl) ?_
  refine lv_icmp_ge (tgt := 178) hx hb d_15_27_157 (by decide) (fun c24 => ?_) (fun c24 => absurd (by decide) c24)
  refine lv_aload_n hx hb d_15_27_178 rfl (lv_at hl 5 rfl) ?_
  replace hO0 := (hu23 _ n_O0_A6).trans (hO0)
  refine q_get (ci := 14) (j := 11) (v := .int 0) C0 V i_DR rfl rfl hO0 (by decide) w_2014 rfl d_15_27_179 ?_
  refine lv_istore_n (lv' := [(3, .int 0), (5, .int (-1)), (4, .int 0), (6, .int 0), (2, .int 2), (0, .ref qO0), (1, .int x1)]) hx hb d_15_27_182 rfl hl (by decide) rfl (fun ls hl => ?_)
  refine lv_aload_n hx hb d_15_27_183 rfl (lv_at hl 5 rfl) ?_
  refine lv_iload_n hx hb d_15_27_184 rfl (lv_at hl 0 rfl) ?_
  refine lv_aload_n hx hb d_15_27_185 rfl (lv_at hl 5 rfl) ?_
  refine q_get (ci := 14) (j := 5) (v := .ref qA4) C0 V i_DR rfl rfl hO0 (by decide) w_2006 rfl d_15_27_186 ?_
  refine lv_iload_n hx hb d_15_27_189 rfl (lv_at hl 6 rfl) ?_
  replace hA4 := (hu23 _ n_A4_A6).trans ((hu20 _ n_A4_A6).trans ((hu17 _ n_A4_O0).trans ((hu14 _ n_A4_A7).trans ((hu11 _ n_A4_A7).trans ((hu6 _ n_A4_A7).trans ((hu3 _ n_A4_A7).trans (hA4)))))))
  refine q_zald C0 V hA4 (q_ix (x := x1.toInt) rfl (by have t1 : 0 ≤ x1.toInt := q_leI x1lo; have t2 : x1.toInt ≤ 9 := q_leI x1hi; omega) (by have t1 : 0 ≤ x1.toInt := q_leI x1lo; have t2 : x1.toInt ≤ 9 := q_leI x1hi; omega)) d_15_27_190 ?_
  refine q_ti (v := 0) (by first | rfl | decide | simp [upd, vp_updL, sb_cl0]) ?_
  refine lv_icmp_eq (tgt := 198) hx hb d_15_27_191 (by decide) (fun c25 => ?_) (fun c25 => absurd (by decide) c25)
  refine lv_iconst (v := 0) hx hb d_15_27_198 (by decide) ?_
  refine q_put (ci := 14) (j := 11) (v := .int 0) (ty := .boolean) C0 V i_DR o_DR n_DR rfl rfl hO0 (by decide) w_2014 rfl rfl rfl rfl (Nat.le_of_ble_eq_true rfl) d_15_27_199 (fun H locs w26 hu27 hO0 V => ?_)
  replace hO0 : w26[kO0]? = (some (qO0, .inr (14, [.int 0, .ref qA1, .int 0, .ref qA2, .ref qA3, .ref qA4, .ref qA5, .ref qA6, .int 2, .long 0, .int 0, .int 0, .ref qA7, .int 0, .ref qA8, .int 0, .ref qA9, .int 0, .ref qA10, .int 0, .int 2])) : Option (Nat × va_E)) := hO0
  replace hF := q_us hF hu27 (.head _)
  refine lv_aload_n hx hb d_15_27_202 rfl (lv_at hl 5 rfl) ?_
  refine lv_aload_n hx hb d_15_27_203 rfl (lv_at hl 5 rfl) ?_
  refine q_get (ci := 14) (j := 9) (v := .long 0) C0 V i_DR rfl rfl hO0 (by decide) w_2012 rfl d_15_27_204 ?_
  refine lv_aload_n hx hb d_15_27_207 rfl (lv_at hl 5 rfl) ?_
  refine q_get (ci := 14) (j := 6) (v := .ref qA5) C0 V i_DR rfl rfl hO0 (by decide) w_2008 rfl d_15_27_208 ?_
  refine lv_iload_n hx hb d_15_27_211 rfl (lv_at hl 6 rfl) ?_
  replace hA5 := (hu27 _ n_A5_O0).trans ((hu23 _ n_A5_A6).trans ((hu20 _ n_A5_A6).trans ((hu17 _ n_A5_O0).trans ((hu14 _ n_A5_A7).trans ((hu11 _ n_A5_A7).trans ((hu6 _ n_A5_A7).trans ((hu3 _ n_A5_A7).trans (hA5))))))))
  refine q_iald C0 V hA5 (q_ix (x := x1.toInt) rfl (by have t1 : 0 ≤ x1.toInt := q_leI x1lo; have t2 : x1.toInt ≤ 9 := q_leI x1hi; omega) (by have t1 : 0 ≤ x1.toInt := q_leI x1lo; have t2 : x1.toInt ≤ 9 := q_leI x1hi; omega)) d_15_27_212 ?_
  refine q_ti (v := 0) (by first | rfl | decide | simp [upd, vp_updL, sb_cl0]) ?_
  refine lv_i2l hx hb d_15_27_213 rfl ?_
  refine q_tl (v := 0) (by decide) ?_
  refine lv_ladd hx hb d_15_27_214 ?_
  refine q_tl (v := 0) (by decide) ?_
  refine q_put (ci := 14) (j := 9) (v := .long 0) (ty := .long) C0 V i_DR o_DR n_DR rfl rfl hO0 (by decide) w_2012 rfl rfl rfl rfl (Nat.le_of_ble_eq_true rfl) d_15_27_215 (fun H locs w28 hu29 hO0 V => ?_)
  replace hO0 : w28[kO0]? = (some (qO0, .inr (14, [.int 0, .ref qA1, .int 0, .ref qA2, .ref qA3, .ref qA4, .ref qA5, .ref qA6, .int 2, .long 0, .int 0, .int 0, .ref qA7, .int 0, .ref qA8, .int 0, .ref qA9, .int 0, .ref qA10, .int 0, .int 2])) : Option (Nat × va_E)) := hO0
  replace hF := q_us hF hu29 (.head _)
  refine lv_aload_n hx hb d_15_27_218 rfl (lv_at hl 5 rfl) ?_
  replace hA6 := (hu29 _ n_A6_O0).trans ((hu27 _ n_A6_O0).trans (hA6))
  refine q_gov V (q_runV (As := []) (rest := []) (d := 1) (mc := 0) (ms := 0) (ci := 14) C0 V rfl LV_DR_59 (c_DR_trim l D g w28 kO0 kA6 qO0 qA1 qA2 qA3 qA4 qA5 qA6 qA7 qA8 qA9 qA10 hO0 hA6 _) rfl rfl hO0 rfl hl.1 rfl (Nat.le_of_ble_eq_true rfl) ⟨by decide, by decide⟩ ⟨Nat.le_of_ble_eq_true rfl, Nat.le_of_ble_eq_true rfl⟩ d_15_27_219) (fun u31 H locs hp30 V => ?_)
  obtain ⟨hg32, hO0, hA6⟩ := hp30
  replace hF := q_uc hF hg32 (q_sc (.head _) (q_sc (.tail _ (.head _)) (fun _ h => absurd h List.not_mem_nil)))
  refine lv_aload_n hx hb d_15_27_222 rfl (lv_at hl 5 rfl) ?_
  refine q_get (ci := 14) (j := 8) (v := .int 1) C0 V i_DR rfl rfl hO0 (by decide) w_2011 rfl d_15_27_223 ?_
  refine lv_sipush (v := 1000) hx hb d_15_27_226 (by decide) ?_
  refine lv_icmp_gt (tgt := 236) hx hb d_15_27_229 (by decide) (fun c33 => absurd c33 (by decide)) (fun c33 => ?_)
  refine lv_iconst (v := 1) hx hb d_15_27_232 (by decide) ?_
  refine lv_goto (tgt := 237) hx hb d_15_27_233 (by decide) ?_
  replace hA7 := (hg32 _ (q_nc n_A7_O0 (q_nc n_A7_A6 List.not_mem_nil))).trans ((hu29 _ n_A7_O0).trans ((hu27 _ n_A7_O0).trans ((hu23 _ n_A7_A6).trans (hA7))))
  exact q_retz C0 V (rfl) (⟨rfl, hF, hO0, hA6, hA7⟩) d_15_27_237
set_option maxRecDepth 100000 in
set_option maxHeartbeats 4000000 in
theorem c_DR_trim_2 (l : Launch) (D : va_G) (g : Nat → ClassId) (ws : va_W) (kO0 kA6 qO0 qA1 qA2 qA3 qA4 qA5 qA6 qA7 qA8 qA9 qA10 : Nat) (hO0 : ws[kO0]? = (some (qO0, .inr (14, [.int 0, .ref qA1, .int 0, .ref qA2, .ref qA3, .ref qA4, .ref qA5, .ref qA6, .int 1, .long 0, .int 0, .int 0, .ref qA7, .int 0, .ref qA8, .int 0, .ref qA9, .int 0, .ref qA10, .int 0, .int 2])) : Option (Nat × va_E))) (hA6 : ws[kA6]? = (some (qA6, .inl (g 0, 4400, .inl (fun _ => 0))) : Option (Nat × va_E))) : q_mV l y_DR_trim prog_15_method_7_code 3 1 0 0 D g [.ref qO0] ws (fun u => q_un ws u [kO0, kA6] ∧ u[kO0]? = (some (qO0, .inr (14, [.int 0, .ref qA1, .int 0, .ref qA2, .ref qA3, .ref qA4, .ref qA5, .ref qA6, .int 1, .long 0, .int 0, .int 0, .ref qA7, .int 0, .ref qA8, .int 0, .ref qA9, .int 0, .ref qA10, .int 0, .int 2])) : Option (Nat × va_E)) ∧ u[kA6]? = (some (qA6, .inl (g 0, 4400, .inl (fun _ => 0))) : Option (Nat × va_E))) := by
  intro sz
  refine q_into (by decide) (Nat.le_of_ble_eq_true rfl) ?_
  intro p e s m below meth c ls hsz C0 V hl
  have hx := C0.1
  have hb := C0.2.1
  have hl : lv_has ls 3 [(0, .ref qO0)] := hl
  have n_A6_O0 := q_df hA6 hO0
  have n_O0_A6 := Ne.symm (q_df hA6 hO0)
  have hF : q_un ws ws [kO0, kA6] := q_u0
  refine lv_iconst (v := 0) hx hb d_15_7_0 (by decide) ?_
  refine lv_istore_n (lv' := [(1, .int 0), (0, .ref qO0)]) hx hb d_15_7_1 rfl hl (by decide) rfl (fun ls hl => ?_)
  refine lv_iload_n hx hb d_15_7_2 rfl (lv_at hl 0 rfl) ?_
  refine lv_iconst (v := 1) hx hb d_15_7_3 (by decide) ?_
  refine lv_iadd hx hb d_15_7_4 ?_
  refine q_ti (v := 1) (by decide) ?_
  refine lv_aload_n hx hb d_15_7_5 rfl (lv_at hl 1 rfl) ?_
  refine q_get (ci := 14) (j := 8) (v := .int 1) C0 V i_DR rfl rfl hO0 (by decide) w_2011 rfl d_15_7_6 ?_
  refine lv_icmp_ge (tgt := 27) hx hb d_15_7_9 (by decide) (fun c1 => ?_) (fun c1 => absurd (by decide) c1)
  refine lv_iconst (v := 0) hx hb d_15_7_27 (by decide) ?_
  refine lv_istore_n (lv' := [(2, .int 0), (1, .int 0), (0, .ref qO0)]) hx hb d_15_7_28 rfl hl (by decide) rfl (fun ls hl => ?_)
  refine lv_iload_n hx hb d_15_7_29 rfl (lv_at hl 0 rfl) ?_
  refine lv_iload_n hx hb d_15_7_30 rfl (lv_at hl 1 rfl) ?_
  refine lv_iadd hx hb d_15_7_31 ?_
  refine q_ti (v := 0) (by decide) ?_
  refine lv_aload_n hx hb d_15_7_32 rfl (lv_at hl 2 rfl) ?_
  refine q_get (ci := 14) (j := 8) (v := .int 1) C0 V i_DR rfl rfl hO0 (by decide) w_2011 rfl d_15_7_33 ?_
  refine lv_icmp_ge (tgt := 59) hx hb d_15_7_36 (by decide) (fun c2 => absurd c2 (by decide)) (fun c2 => ?_)
  refine lv_aload_n hx hb d_15_7_39 rfl (lv_at hl 2 rfl) ?_
  refine q_get (ci := 14) (j := 7) (v := .ref qA6) C0 V i_DR rfl rfl hO0 (by decide) w_2010 rfl d_15_7_40 ?_
  refine lv_iload_n hx hb d_15_7_43 rfl (lv_at hl 0 rfl) ?_
  refine lv_aload_n hx hb d_15_7_44 rfl (lv_at hl 2 rfl) ?_
  refine q_get (ci := 14) (j := 7) (v := .ref qA6) C0 V i_DR rfl rfl hO0 (by decide) w_2010 rfl d_15_7_45 ?_
  refine lv_iload_n hx hb d_15_7_48 rfl (lv_at hl 0 rfl) ?_
  refine lv_iload_n hx hb d_15_7_49 rfl (lv_at hl 1 rfl) ?_
  refine lv_iadd hx hb d_15_7_50 ?_
  refine q_ti (v := 0) (by decide) ?_
  refine q_iald C0 V hA6 (by unfold vp_in; decide) d_15_7_51 ?_
  refine q_ti (v := 0) (by first | rfl | decide | simp [upd, vp_updL, sb_cl0]) ?_
  refine q_iast C0 V hA6 (by unfold vp_in; decide) d_15_7_52 (fun H locs w3 hu4 hA6 V => ?_)
  replace hA6 := q_re (y := (qA6, .inl (g 0, 4400, .inl (fun _ => 0)))) hA6 (q_eI q_upd0)
  replace hA6 : w3[kA6]? = (some (qA6, .inl (g 0, 4400, .inl (fun _ => 0))) : Option (Nat × va_E)) := hA6
  replace hF := q_us hF hu4 (.tail _ (.head _))
  refine lv_iinc (v := 1) (lv' := [(2, .int 1), (1, .int 0), (0, .ref qO0)]) hx hb d_15_7_53 hl (k := 0) rfl (by decide) (by decide) rfl (fun ls hl => ?_)
  refine lv_goto (tgt := 29) hx hb d_15_7_56 (by decide) ?_
  refine lv_iload_n hx hb d_15_7_29 rfl (lv_at hl 0 rfl) ?_
  refine lv_iload_n hx hb d_15_7_30 rfl (lv_at hl 1 rfl) ?_
  refine lv_iadd hx hb d_15_7_31 ?_
  refine q_ti (v := 1) (by decide) ?_
  refine lv_aload_n hx hb d_15_7_32 rfl (lv_at hl 2 rfl) ?_
  replace hO0 := (hu4 _ n_O0_A6).trans (hO0)
  refine q_get (ci := 14) (j := 8) (v := .int 1) C0 V i_DR rfl rfl hO0 (by decide) w_2011 rfl d_15_7_33 ?_
  refine lv_icmp_ge (tgt := 59) hx hb d_15_7_36 (by decide) (fun c5 => ?_) (fun c5 => absurd (by decide) c5)
  refine lv_aload_n hx hb d_15_7_59 rfl (lv_at hl 2 rfl) ?_
  refine q_get (ci := 14) (j := 8) (v := .int 1) C0 V i_DR rfl rfl hO0 (by decide) w_2011 rfl d_15_7_60 ?_
  refine lv_if_ne (tgt := 81) hx hb d_15_7_63 (by decide) (fun c6 => ?_) (fun c6 => absurd c6 (by decide))
  refine lv_aload_n hx hb d_15_7_81 rfl (lv_at hl 2 rfl) ?_
  refine lv_aload_n hx hb d_15_7_82 rfl (lv_at hl 2 rfl) ?_
  refine q_get (ci := 14) (j := 8) (v := .int 1) C0 V i_DR rfl rfl hO0 (by decide) w_2011 rfl d_15_7_83 ?_
  refine lv_iload_n hx hb d_15_7_86 rfl (lv_at hl 1 rfl) ?_
  refine lv_isub hx hb d_15_7_87 ?_
  refine q_ti (v := 1) (by decide) ?_
  refine q_put (ci := 14) (j := 8) (v := .int 1) (ty := .int) C0 V i_DR o_DR n_DR rfl rfl hO0 (by decide) w_2011 rfl rfl rfl rfl (Nat.le_of_ble_eq_true rfl) d_15_7_88 (fun H locs w7 hu8 hO0 V => ?_)
  replace hO0 : w7[kO0]? = (some (qO0, .inr (14, [.int 0, .ref qA1, .int 0, .ref qA2, .ref qA3, .ref qA4, .ref qA5, .ref qA6, .int 1, .long 0, .int 0, .int 0, .ref qA7, .int 0, .ref qA8, .int 0, .ref qA9, .int 0, .ref qA10, .int 0, .int 2])) : Option (Nat × va_E)) := hO0
  replace hF := q_us hF hu8 (.head _)
  refine lv_aload_n hx hb d_15_7_91 rfl (lv_at hl 2 rfl) ?_
  refine lv_aload_n hx hb d_15_7_92 rfl (lv_at hl 2 rfl) ?_
  refine q_get (ci := 14) (j := 11) (v := .int 0) C0 V i_DR rfl rfl hO0 (by decide) w_2014 rfl d_15_7_93 ?_
  refine lv_if_eq (tgt := 112) hx hb d_15_7_96 (by decide) (fun c9 => ?_) (fun c9 => absurd (by decide) c9)
  refine lv_iconst (v := 0) hx hb d_15_7_112 (by decide) ?_
  refine q_put (ci := 14) (j := 11) (v := .int 0) (ty := .boolean) C0 V i_DR o_DR n_DR rfl rfl hO0 (by decide) w_2014 rfl rfl rfl rfl (Nat.le_of_ble_eq_true rfl) d_15_7_113 (fun H locs w10 hu11 hO0 V => ?_)
  replace hO0 : w10[kO0]? = (some (qO0, .inr (14, [.int 0, .ref qA1, .int 0, .ref qA2, .ref qA3, .ref qA4, .ref qA5, .ref qA6, .int 1, .long 0, .int 0, .int 0, .ref qA7, .int 0, .ref qA8, .int 0, .ref qA9, .int 0, .ref qA10, .int 0, .int 2])) : Option (Nat × va_E)) := hO0
  replace hF := q_us hF hu11 (.head _)
  replace hA6 := (hu11 _ n_A6_O0).trans ((hu8 _ n_A6_O0).trans (hA6))
  exact q_retv C0 V (⟨hF, hO0, hA6⟩) d_15_7_116
theorem d_15_8_0 : decode prog_15_method_8_code 0 = .ok (.aload_n 0, 1) := by decide +kernel
theorem d_15_8_1 : decode prog_15_method_8_code 1 = .ok (.invokevirtual 59, 3) := by decide +kernel
theorem d_15_8_4 : decode prog_15_method_8_code 4 = .ok (.aload_n 0, 1) := by decide +kernel
theorem d_15_8_5 : decode prog_15_method_8_code 5 = .ok (.getfield 45, 3) := by decide +kernel
theorem d_15_8_8 : decode prog_15_method_8_code 8 = .ok (.sipush 1000, 3) := by decide +kernel
theorem d_15_8_11 : decode prog_15_method_8_code 11 = .ok (.if_icmp .gt 25, 3) := by decide +kernel
theorem d_15_8_14 : decode prog_15_method_8_code 14 = .ok (.aload_n 0, 1) := by decide +kernel
theorem d_15_8_15 : decode prog_15_method_8_code 15 = .ok (.getfield 48, 3) := by decide +kernel
theorem d_15_8_18 : decode prog_15_method_8_code 18 = .ok (.ldc2_w 62, 3) := by decide +kernel
theorem w_2417 : (Cond.constantLong "NumberHouseModel$DecimalRows" (62 : Nat) (-10000 : Int64)) ∈ q_tbl := q_of 2417 (by decide +kernel) (by decide +kernel)
theorem d_15_8_21 : decode prog_15_method_8_code 21 = .ok (.lcmp, 1) := by decide +kernel
theorem d_15_8_22 : decode prog_15_method_8_code 22 = .ok (.ifCond .lt 14, 3) := by decide +kernel
theorem d_15_8_25 : decode prog_15_method_8_code 25 = .ok (.aload_n 0, 1) := by decide +kernel
theorem d_15_8_26 : decode prog_15_method_8_code 26 = .ok (.getfield 48, 3) := by decide +kernel
theorem d_15_8_29 : decode prog_15_method_8_code 29 = .ok (.ldc2_w 64, 3) := by decide +kernel
theorem w_2418 : (Cond.constantLong "NumberHouseModel$DecimalRows" (64 : Nat) (10000 : Int64)) ∈ q_tbl := q_of 2418 (by decide +kernel) (by decide +kernel)
theorem d_15_8_32 : decode prog_15_method_8_code 32 = .ok (.lcmp, 1) := by decide +kernel
theorem d_15_8_33 : decode prog_15_method_8_code 33 = .ok (.ifCond .le 12, 3) := by decide +kernel
theorem d_15_8_45 : decode prog_15_method_8_code 45 = .ok (.iconst 0, 1) := by decide +kernel
theorem d_15_8_46 : decode prog_15_method_8_code 46 = .ok (.istore_n 2, 1) := by decide +kernel
theorem d_15_8_47 : decode prog_15_method_8_code 47 = .ok (.iload_n 2, 1) := by decide +kernel
theorem d_15_8_48 : decode prog_15_method_8_code 48 = .ok (.aload_n 0, 1) := by decide +kernel
theorem d_15_8_49 : decode prog_15_method_8_code 49 = .ok (.getfield 45, 3) := by decide +kernel
theorem d_15_8_52 : decode prog_15_method_8_code 52 = .ok (.if_icmp .ge 27, 3) := by decide +kernel
theorem d_15_8_55 : decode prog_15_method_8_code 55 = .ok (.aload_n 0, 1) := by decide +kernel
theorem d_15_8_56 : decode prog_15_method_8_code 56 = .ok (.getfield 13, 3) := by decide +kernel
theorem d_15_8_59 : decode prog_15_method_8_code 59 = .ok (.sipush 1000, 3) := by decide +kernel
theorem d_15_8_62 : decode prog_15_method_8_code 62 = .ok (.iload_n 1, 1) := by decide +kernel
theorem d_15_8_63 : decode prog_15_method_8_code 63 = .ok (.imul, 1) := by decide +kernel
theorem d_15_8_64 : decode prog_15_method_8_code 64 = .ok (.iload_n 2, 1) := by decide +kernel
theorem d_15_8_65 : decode prog_15_method_8_code 65 = .ok (.iadd, 1) := by decide +kernel
theorem d_15_8_66 : decode prog_15_method_8_code 66 = .ok (.aload_n 0, 1) := by decide +kernel
theorem d_15_8_67 : decode prog_15_method_8_code 67 = .ok (.getfield 26, 3) := by decide +kernel
theorem d_15_8_70 : decode prog_15_method_8_code 70 = .ok (.iload_n 2, 1) := by decide +kernel
theorem d_15_8_71 : decode prog_15_method_8_code 71 = .ok (.iaload, 1) := by decide +kernel
theorem d_15_8_72 : decode prog_15_method_8_code 72 = .ok (.iastore, 1) := by decide +kernel
theorem d_15_8_73 : decode prog_15_method_8_code 73 = .ok (.iinc 2 1, 3) := by decide +kernel
theorem d_15_8_76 : decode prog_15_method_8_code 76 = .ok (.goto (-29), 3) := by decide +kernel
theorem d_15_8_79 : decode prog_15_method_8_code 79 = .ok (.aload_n 0, 1) := by decide +kernel
theorem d_15_8_80 : decode prog_15_method_8_code 80 = .ok (.getfield 16, 3) := by decide +kernel
theorem d_15_8_83 : decode prog_15_method_8_code 83 = .ok (.iload_n 1, 1) := by decide +kernel
theorem d_15_8_84 : decode prog_15_method_8_code 84 = .ok (.aload_n 0, 1) := by decide +kernel
theorem d_15_8_85 : decode prog_15_method_8_code 85 = .ok (.getfield 45, 3) := by decide +kernel
theorem d_15_8_88 : decode prog_15_method_8_code 88 = .ok (.iastore, 1) := by decide +kernel
theorem d_15_8_89 : decode prog_15_method_8_code 89 = .ok (.aload_n 0, 1) := by decide +kernel
theorem d_15_8_90 : decode prog_15_method_8_code 90 = .ok (.getfield 19, 3) := by decide +kernel
theorem d_15_8_93 : decode prog_15_method_8_code 93 = .ok (.iload_n 1, 1) := by decide +kernel
theorem d_15_8_94 : decode prog_15_method_8_code 94 = .ok (.aload_n 0, 1) := by decide +kernel
theorem d_15_8_95 : decode prog_15_method_8_code 95 = .ok (.getfield 56, 3) := by decide +kernel
theorem d_15_8_98 : decode prog_15_method_8_code 98 = .ok (.bastore, 1) := by decide +kernel
theorem d_15_8_99 : decode prog_15_method_8_code 99 = .ok (.aload_n 0, 1) := by decide +kernel
theorem d_15_8_100 : decode prog_15_method_8_code 100 = .ok (.getfield 23, 3) := by decide +kernel
theorem d_15_8_103 : decode prog_15_method_8_code 103 = .ok (.iload_n 1, 1) := by decide +kernel
theorem d_15_8_104 : decode prog_15_method_8_code 104 = .ok (.aload_n 0, 1) := by decide +kernel
theorem d_15_8_105 : decode prog_15_method_8_code 105 = .ok (.getfield 48, 3) := by decide +kernel
theorem d_15_8_108 : decode prog_15_method_8_code 108 = .ok (.l2i, 1) := by decide +kernel
theorem d_15_8_109 : decode prog_15_method_8_code 109 = .ok (.iastore, 1) := by decide +kernel
theorem d_15_8_110 : decode prog_15_method_8_code 110 = .ok (.return_, 1) := by decide +kernel
def y_DR_store : MethodName := ⟨"NumberHouseModel$DecimalRows", "store", "(I)V"⟩
set_option maxRecDepth 100000 in
set_option maxHeartbeats 4000000 in
theorem c_DR_store (l : Launch) (D : va_G) (g : Nat → ClassId) (ws : va_W) (kO0 kA2 kA3 kA4 kA5 kA6 qO0 qA1 qA2 qA3 qA4 qA5 qA6 qA7 qA8 qA9 qA10 : Nat) (x1 : Int32) (hO0 : ws[kO0]? = (some (qO0, .inr (14, [.int 0, .ref qA1, .int 0, .ref qA2, .ref qA3, .ref qA4, .ref qA5, .ref qA6, .int 1, .long 0, .int 0, .int 0, .ref qA7, .int 0, .ref qA8, .int 0, .ref qA9, .int 0, .ref qA10, .int 0, .int 2])) : Option (Nat × va_E))) (hA2 : ws[kA2]? = (some (qA2, .inl (g 0, 10000, .inl (fun _ => 0))) : Option (Nat × va_E))) (hA3 : ws[kA3]? = (some (qA3, .inl (g 0, 10, .inl (upd (upd (upd (upd (upd (upd (upd (upd (upd (upd (fun _ => 0) 0 1) 1 1) 2 1) 3 1) 4 1) 5 1) 6 1) 7 1) 8 1) 9 1))) : Option (Nat × va_E))) (hA4 : ws[kA4]? = (some (qA4, .inl (g 3, 10, .inl (fun _ => 0))) : Option (Nat × va_E))) (hA5 : ws[kA5]? = (some (qA5, .inl (g 0, 10, .inl (fun _ => 0))) : Option (Nat × va_E))) (hA6 : ws[kA6]? = (some (qA6, .inl (g 0, 4400, .inl (fun _ => 0))) : Option (Nat × va_E))) (n_A2_A3 : kA2 ≠ kA3) (n_A2_A4 : kA2 ≠ kA4) (n_A2_A5 : kA2 ≠ kA5) (n_A2_A6 : kA2 ≠ kA6) (n_A3_A4 : kA3 ≠ kA4) (n_A3_A5 : kA3 ≠ kA5) (n_A3_A6 : kA3 ≠ kA6) (n_A4_A5 : kA4 ≠ kA5) (n_A4_A6 : kA4 ≠ kA6) (n_A5_A6 : kA5 ≠ kA6) (x1lo : 0 ≤ x1) (x1hi : x1 ≤ 9) : q_mV l y_DR_store prog_15_method_8_code 3 2 0 0 D g [.ref qO0, .int x1] ws (fun u => q_un ws u [kO0, kA2, kA3, kA4, kA5, kA6] ∧ u[kO0]? = (some (qO0, .inr (14, [.int 0, .ref qA1, .int 0, .ref qA2, .ref qA3, .ref qA4, .ref qA5, .ref qA6, .int 1, .long 0, .int 0, .int 0, .ref qA7, .int 0, .ref qA8, .int 0, .ref qA9, .int 0, .ref qA10, .int 0, .int 2])) : Option (Nat × va_E)) ∧ u[kA2]? = (some (qA2, .inl (g 0, 10000, .inl (fun _ => 0))) : Option (Nat × va_E)) ∧ u[kA3]? = (some (qA3, .inl (g 0, 10, .inl (upd (upd (upd (upd (upd (upd (upd (upd (upd (upd (upd (fun _ => 0) 0 1) 1 1) 2 1) 3 1) 4 1) 5 1) 6 1) 7 1) 8 1) 9 1) x1.toNatClampNeg 1))) : Option (Nat × va_E)) ∧ u[kA4]? = (some (qA4, .inl (g 3, 10, .inl (fun _ => 0))) : Option (Nat × va_E)) ∧ u[kA5]? = (some (qA5, .inl (g 0, 10, .inl (fun _ => 0))) : Option (Nat × va_E)) ∧ u[kA6]? = (some (qA6, .inl (g 0, 4400, .inl (fun _ => 0))) : Option (Nat × va_E))) := by
  intro sz
  refine q_into (by decide) (Nat.le_of_ble_eq_true rfl) ?_
  intro p e s m below meth c ls hsz C0 V hl
  have hx := C0.1
  have hb := C0.2.1
  have hl : lv_has ls 3 [(0, .ref qO0), (1, .int x1)] := hl
  have n_A2_O0 := q_df hA2 hO0
  have n_A3_A2 := Ne.symm n_A2_A3
  have n_A3_O0 := q_df hA3 hO0
  have n_A4_A2 := Ne.symm n_A2_A4
  have n_A4_A3 := Ne.symm n_A3_A4
  have n_A4_O0 := q_df hA4 hO0
  have n_A5_A2 := Ne.symm n_A2_A5
  have n_A5_A3 := Ne.symm n_A3_A5
  have n_A5_A4 := Ne.symm n_A4_A5
  have n_A5_O0 := q_df hA5 hO0
  have n_A6_A2 := Ne.symm n_A2_A6
  have n_A6_A3 := Ne.symm n_A3_A6
  have n_A6_A4 := Ne.symm n_A4_A6
  have n_A6_A5 := Ne.symm n_A5_A6
  have n_O0_A2 := Ne.symm (q_df hA2 hO0)
  have n_O0_A3 := Ne.symm (q_df hA3 hO0)
  have n_O0_A4 := Ne.symm (q_df hA4 hO0)
  have n_O0_A5 := Ne.symm (q_df hA5 hO0)
  have hF : q_un ws ws [kO0, kA2, kA3, kA4, kA5, kA6] := q_u0
  refine lv_aload_n hx hb d_15_8_0 rfl (lv_at hl 0 rfl) ?_
  refine q_gov V (q_runV (As := []) (rest := []) (d := 1) (mc := 0) (ms := 0) (ci := 14) C0 V rfl LV_DR_59 (c_DR_trim_2 l D g ws kO0 kA6 qO0 qA1 qA2 qA3 qA4 qA5 qA6 qA7 qA8 qA9 qA10 hO0 hA6 _) rfl rfl hO0 rfl hl.1 rfl (Nat.le_of_ble_eq_true rfl) ⟨by decide, by decide⟩ ⟨Nat.le_of_ble_eq_true rfl, Nat.le_of_ble_eq_true rfl⟩ d_15_8_1) (fun u2 H locs hp1 V => ?_)
  obtain ⟨hg3, hO0, hA6⟩ := hp1
  replace hF := q_uc hF hg3 (q_sc (.head _) (q_sc (List.mem_of_getElem? (i := 5) rfl) (fun _ h => absurd h List.not_mem_nil)))
  refine lv_aload_n hx hb d_15_8_4 rfl (lv_at hl 0 rfl) ?_
  refine q_get (ci := 14) (j := 8) (v := .int 1) C0 V i_DR rfl rfl hO0 (by decide) w_2011 rfl d_15_8_5 ?_
  refine lv_sipush (v := 1000) hx hb d_15_8_8 (by decide) ?_
  refine lv_icmp_gt (tgt := 36) hx hb d_15_8_11 (by decide) (fun c4 => absurd c4 (by decide)) (fun c4 => ?_)
  refine lv_aload_n hx hb d_15_8_14 rfl (lv_at hl 0 rfl) ?_
  refine q_get (ci := 14) (j := 9) (v := .long 0) C0 V i_DR rfl rfl hO0 (by decide) w_2012 rfl d_15_8_15 ?_
  refine q_ldc2 C0 rfl w_2417 d_15_8_18 ?_
  refine W.lcmp hx hb d_15_8_21 ?_
  refine q_ti (v := 1) (by decide) ?_
  refine lv_if_lt (tgt := 36) hx hb d_15_8_22 (by decide) (fun c5 => absurd c5 (by decide)) (fun c5 => ?_)
  refine lv_aload_n hx hb d_15_8_25 rfl (lv_at hl 0 rfl) ?_
  refine q_get (ci := 14) (j := 9) (v := .long 0) C0 V i_DR rfl rfl hO0 (by decide) w_2012 rfl d_15_8_26 ?_
  refine q_ldc2 C0 rfl w_2418 d_15_8_29 ?_
  refine W.lcmp hx hb d_15_8_32 ?_
  refine q_ti (v := (-1)) (by decide) ?_
  refine lv_if_le (tgt := 45) hx hb d_15_8_33 (by decide) (fun c6 => ?_) (fun c6 => absurd (by decide) c6)
  refine lv_iconst (v := 0) hx hb d_15_8_45 (by decide) ?_
  refine lv_istore_n (lv' := [(2, .int 0), (0, .ref qO0), (1, .int x1)]) hx hb d_15_8_46 rfl hl (by decide) rfl (fun ls hl => ?_)
  refine lv_iload_n hx hb d_15_8_47 rfl (lv_at hl 0 rfl) ?_
  refine lv_aload_n hx hb d_15_8_48 rfl (lv_at hl 1 rfl) ?_
  refine q_get (ci := 14) (j := 8) (v := .int 1) C0 V i_DR rfl rfl hO0 (by decide) w_2011 rfl d_15_8_49 ?_
  refine lv_icmp_ge (tgt := 79) hx hb d_15_8_52 (by decide) (fun c7 => absurd c7 (by decide)) (fun c7 => ?_)
  refine lv_aload_n hx hb d_15_8_55 rfl (lv_at hl 1 rfl) ?_
  refine q_get (ci := 14) (j := 3) (v := .ref qA2) C0 V i_DR rfl rfl hO0 (by decide) w_2002 rfl d_15_8_56 ?_
  refine lv_sipush (v := 1000) hx hb d_15_8_59 (by decide) ?_
  refine lv_iload_n hx hb d_15_8_62 rfl (lv_at hl 2 rfl) ?_
  refine lv_imul hx hb d_15_8_63 ?_
  refine lv_iload_n hx hb d_15_8_64 rfl (lv_at hl 0 rfl) ?_
  refine lv_iadd hx hb d_15_8_65 ?_
  refine q_ti (v := 1000 * x1) (by simp) ?_
  refine lv_aload_n hx hb d_15_8_66 rfl (lv_at hl 1 rfl) ?_
  refine q_get (ci := 14) (j := 7) (v := .ref qA6) C0 V i_DR rfl rfl hO0 (by decide) w_2010 rfl d_15_8_67 ?_
  refine lv_iload_n hx hb d_15_8_70 rfl (lv_at hl 0 rfl) ?_
  refine q_iald C0 V hA6 (by unfold vp_in; decide) d_15_8_71 ?_
  refine q_ti (v := 0) (by first | rfl | decide | simp [upd, vp_updL, sb_cl0]) ?_
  replace hA2 := (hg3 _ (q_nc n_A2_O0 (q_nc n_A2_A6 List.not_mem_nil))).trans (hA2)
  refine q_iast C0 V hA2 (q_ix (x := (1000 * x1.toInt)) (q_mulI (x := 1000) (y := x1.toInt) (by decide) rfl (by have t1 : 0 ≤ x1.toInt := q_leI x1lo; have t2 : x1.toInt ≤ 9 := q_leI x1hi; omega) (by have t1 : 0 ≤ x1.toInt := q_leI x1lo; have t2 : x1.toInt ≤ 9 := q_leI x1hi; omega)) (by have t1 : 0 ≤ x1.toInt := q_leI x1lo; have t2 : x1.toInt ≤ 9 := q_leI x1hi; omega) (by have t1 : 0 ≤ x1.toInt := q_leI x1lo; have t2 : x1.toInt ≤ 9 := q_leI x1hi; omega)) d_15_8_72 (fun H locs w8 hu9 hA2 V => ?_)
  replace hA2 := q_re (y := (qA2, .inl (g 0, 10000, .inl (fun _ => 0)))) hA2 (q_eI q_upd0)
  replace hA2 : w8[kA2]? = (some (qA2, .inl (g 0, 10000, .inl (fun _ => 0))) : Option (Nat × va_E)) := hA2
  replace hF := q_us hF hu9 (.tail _ (.head _))
  refine lv_iinc (v := 1) (lv' := [(2, .int 1), (0, .ref qO0), (1, .int x1)]) hx hb d_15_8_73 hl (k := 0) rfl (by decide) (by decide) rfl (fun ls hl => ?_)
  refine lv_goto (tgt := 47) hx hb d_15_8_76 (by decide) ?_
  refine lv_iload_n hx hb d_15_8_47 rfl (lv_at hl 0 rfl) ?_
  refine lv_aload_n hx hb d_15_8_48 rfl (lv_at hl 1 rfl) ?_
  replace hO0 := (hu9 _ n_O0_A2).trans (hO0)
  refine q_get (ci := 14) (j := 8) (v := .int 1) C0 V i_DR rfl rfl hO0 (by decide) w_2011 rfl d_15_8_49 ?_
  refine lv_icmp_ge (tgt := 79) hx hb d_15_8_52 (by decide) (fun c10 => ?_) (fun c10 => absurd (by decide) c10)
  refine lv_aload_n hx hb d_15_8_79 rfl (lv_at hl 1 rfl) ?_
  refine q_get (ci := 14) (j := 4) (v := .ref qA3) C0 V i_DR rfl rfl hO0 (by decide) w_2004 rfl d_15_8_80 ?_
  refine lv_iload_n hx hb d_15_8_83 rfl (lv_at hl 2 rfl) ?_
  refine lv_aload_n hx hb d_15_8_84 rfl (lv_at hl 1 rfl) ?_
  refine q_get (ci := 14) (j := 8) (v := .int 1) C0 V i_DR rfl rfl hO0 (by decide) w_2011 rfl d_15_8_85 ?_
  replace hA3 := (hu9 _ n_A3_A2).trans ((hg3 _ (q_nc n_A3_O0 (q_nc n_A3_A6 List.not_mem_nil))).trans (hA3))
  refine q_iast C0 V hA3 (q_ix (x := x1.toInt) rfl (by have t1 : 0 ≤ x1.toInt := q_leI x1lo; have t2 : x1.toInt ≤ 9 := q_leI x1hi; omega) (by have t1 : 0 ≤ x1.toInt := q_leI x1lo; have t2 : x1.toInt ≤ 9 := q_leI x1hi; omega)) d_15_8_88 (fun H locs w11 hu12 hA3 V => ?_)
  replace hA3 : w11[kA3]? = (some (qA3, .inl (g 0, 10, .inl (upd (upd (upd (upd (upd (upd (upd (upd (upd (upd (upd (fun _ => 0) 0 1) 1 1) 2 1) 3 1) 4 1) 5 1) 6 1) 7 1) 8 1) 9 1) x1.toNatClampNeg 1))) : Option (Nat × va_E)) := hA3
  replace hF := q_us hF hu12 (.tail _ (.tail _ (.head _)))
  refine lv_aload_n hx hb d_15_8_89 rfl (lv_at hl 1 rfl) ?_
  replace hO0 := (hu12 _ n_O0_A3).trans (hO0)
  refine q_get (ci := 14) (j := 5) (v := .ref qA4) C0 V i_DR rfl rfl hO0 (by decide) w_2006 rfl d_15_8_90 ?_
  refine lv_iload_n hx hb d_15_8_93 rfl (lv_at hl 2 rfl) ?_
  refine lv_aload_n hx hb d_15_8_94 rfl (lv_at hl 1 rfl) ?_
  refine q_get (ci := 14) (j := 11) (v := .int 0) C0 V i_DR rfl rfl hO0 (by decide) w_2014 rfl d_15_8_95 ?_
  replace hA4 := (hu12 _ n_A4_A3).trans ((hu9 _ n_A4_A2).trans ((hg3 _ (q_nc n_A4_O0 (q_nc n_A4_A6 List.not_mem_nil))).trans (hA4)))
  refine q_zast C0 V hA4 (q_ix (x := x1.toInt) rfl (by have t1 : 0 ≤ x1.toInt := q_leI x1lo; have t2 : x1.toInt ≤ 9 := q_leI x1hi; omega) (by have t1 : 0 ≤ x1.toInt := q_leI x1lo; have t2 : x1.toInt ≤ 9 := q_leI x1hi; omega)) d_15_8_98 (fun H locs w13 hu14 hA4 V => ?_)
  replace hA4 := q_re (y := (qA4, .inl (g 3, 10, .inl (fun _ => 0)))) hA4 (q_eI q_upd0)
  replace hA4 : w13[kA4]? = (some (qA4, .inl (g 3, 10, .inl (fun _ => 0))) : Option (Nat × va_E)) := hA4
  replace hF := q_us hF hu14 (List.mem_of_getElem? (i := 3) rfl)
  refine lv_aload_n hx hb d_15_8_99 rfl (lv_at hl 1 rfl) ?_
  replace hO0 := (hu14 _ n_O0_A4).trans (hO0)
  refine q_get (ci := 14) (j := 6) (v := .ref qA5) C0 V i_DR rfl rfl hO0 (by decide) w_2008 rfl d_15_8_100 ?_
  refine lv_iload_n hx hb d_15_8_103 rfl (lv_at hl 2 rfl) ?_
  refine lv_aload_n hx hb d_15_8_104 rfl (lv_at hl 1 rfl) ?_
  refine q_get (ci := 14) (j := 9) (v := .long 0) C0 V i_DR rfl rfl hO0 (by decide) w_2012 rfl d_15_8_105 ?_
  refine lv_l2i hx hb d_15_8_108 rfl ?_
  refine q_ti (v := 0) (by decide) ?_
  replace hA5 := (hu14 _ n_A5_A4).trans ((hu12 _ n_A5_A3).trans ((hu9 _ n_A5_A2).trans ((hg3 _ (q_nc n_A5_O0 (q_nc n_A5_A6 List.not_mem_nil))).trans (hA5))))
  refine q_iast C0 V hA5 (q_ix (x := x1.toInt) rfl (by have t1 : 0 ≤ x1.toInt := q_leI x1lo; have t2 : x1.toInt ≤ 9 := q_leI x1hi; omega) (by have t1 : 0 ≤ x1.toInt := q_leI x1lo; have t2 : x1.toInt ≤ 9 := q_leI x1hi; omega)) d_15_8_109 (fun H locs w15 hu16 hA5 V => ?_)
  replace hA5 := q_re (y := (qA5, .inl (g 0, 10, .inl (fun _ => 0)))) hA5 (q_eI q_upd0)
  replace hA5 : w15[kA5]? = (some (qA5, .inl (g 0, 10, .inl (fun _ => 0))) : Option (Nat × va_E)) := hA5
  replace hF := q_us hF hu16 (List.mem_of_getElem? (i := 4) rfl)
  replace hO0 := (hu16 _ n_O0_A5).trans (hO0)
  replace hA2 := (hu16 _ n_A2_A5).trans ((hu14 _ n_A2_A4).trans ((hu12 _ n_A2_A3).trans (hA2)))
  replace hA3 := (hu16 _ n_A3_A5).trans ((hu14 _ n_A3_A4).trans (hA3))
  replace hA4 := (hu16 _ n_A4_A5).trans (hA4)
  replace hA6 := (hu16 _ n_A6_A5).trans ((hu14 _ n_A6_A4).trans ((hu12 _ n_A6_A3).trans ((hu9 _ n_A6_A2).trans (hA6))))
  exact q_retv C0 V (⟨hF, hO0, hA2, hA3, hA4, hA5, hA6⟩) d_15_8_110
theorem d_15_28_0 : decode prog_15_method_28_code 0 = .ok (.aload_n 0, 1) := by decide +kernel
theorem d_15_28_1 : decode prog_15_method_28_code 1 = .ok (.iload_n 1, 1) := by decide +kernel
theorem d_15_28_2 : decode prog_15_method_28_code 2 = .ok (.invokestatic 113, 3) := by decide +kernel
theorem d_15_28_5 : decode prog_15_method_28_code 5 = .ok (.ifCond .ne 17, 3) := by decide +kernel
theorem d_15_28_8 : decode prog_15_method_28_code 8 = .ok (.iload_n 2, 1) := by decide +kernel
theorem d_15_28_9 : decode prog_15_method_28_code 9 = .ok (.invokestatic 113, 3) := by decide +kernel
theorem d_15_28_12 : decode prog_15_method_28_code 12 = .ok (.ifCond .ne 10, 3) := by decide +kernel
theorem d_15_28_15 : decode prog_15_method_28_code 15 = .ok (.iload_n 3, 1) := by decide +kernel
theorem d_15_28_16 : decode prog_15_method_28_code 16 = .ok (.invokestatic 113, 3) := by decide +kernel
theorem d_15_28_19 : decode prog_15_method_28_code 19 = .ok (.ifCond .eq 7, 3) := by decide +kernel
theorem d_15_28_26 : decode prog_15_method_28_code 26 = .ok (.iconst 0, 1) := by decide +kernel
theorem d_15_28_27 : decode prog_15_method_28_code 27 = .ok (.putfield 41, 3) := by decide +kernel
theorem d_15_28_30 : decode prog_15_method_28_code 30 = .ok (.aload_n 0, 1) := by decide +kernel
theorem d_15_28_31 : decode prog_15_method_28_code 31 = .ok (.getfield 41, 3) := by decide +kernel
theorem d_15_28_34 : decode prog_15_method_28_code 34 = .ok (.ifCond .le 4, 3) := by decide +kernel
theorem d_15_28_38 : decode prog_15_method_28_code 38 = .ok (.aload_n 0, 1) := by decide +kernel
theorem d_15_28_39 : decode prog_15_method_28_code 39 = .ok (.iconst 2, 1) := by decide +kernel
theorem d_15_28_40 : decode prog_15_method_28_code 40 = .ok (.putfield 66, 3) := by decide +kernel
theorem w_2024 : (Cond.fieldLink "NumberHouseModel$DecimalRows" (66 : Nat) "NumberHouseModel$DecimalRows" "fault" "I") ∈ q_tbl := q_of 2024 (by decide +kernel) (by decide +kernel)
theorem d_15_28_43 : decode prog_15_method_28_code 43 = .ok (.aload_n 0, 1) := by decide +kernel
theorem d_15_28_44 : decode prog_15_method_28_code 44 = .ok (.iload_n 1, 1) := by decide +kernel
theorem d_15_28_45 : decode prog_15_method_28_code 45 = .ok (.invokevirtual 132, 3) := by decide +kernel
theorem w_2793 : (Cond.code ({ cls := "NumberHouseModel$DecimalRows", name := "load", desc := "(I)V" } : MethodName) prog_15_method_6_code (3 : Nat) (none : Option ClassFile.FieldType)) ∈ q_tbl := q_of 2793 (by decide +kernel) (by decide +kernel)
theorem w_2790 : (Cond.methodLink "NumberHouseModel$DecimalRows" (132 : Nat) ({ cls := "NumberHouseModel$DecimalRows", name := "load", desc := "(I)V" } : MethodName)) ∈ q_tbl := q_of 2790 (by decide +kernel) (by decide +kernel)
theorem w_2792 : (Cond.instanceMethod ({ cls := "NumberHouseModel$DecimalRows", name := "load", desc := "(I)V" } : MethodName)) ∈ q_tbl := q_of 2792 (by decide +kernel) (by decide +kernel)
theorem ws_111 : Cond.selects "NumberHouseModel$DecimalRows" (⟨"NumberHouseModel$DecimalRows", "load", "(I)V"⟩ : MethodName) (⟨"NumberHouseModel$DecimalRows", "load", "(I)V"⟩ : MethodName) ∈ q_tbl := q_ofs 111 (by decide +kernel) (by decide +kernel)
theorem LV_DR_132 : q_LV "NumberHouseModel$DecimalRows" 132 y_DR_load prog_15_method_6_code 3 none 1 := ⟨w_2793, w_16, w_2790, w_2792, ws_111, ⟨by decide, by decide, by decide +kernel⟩⟩
theorem d_15_28_48 : decode prog_15_method_28_code 48 = .ok (.aload_n 0, 1) := by decide +kernel
theorem d_15_28_49 : decode prog_15_method_28_code 49 = .ok (.iload_n 2, 1) := by decide +kernel
theorem d_15_28_50 : decode prog_15_method_28_code 50 = .ok (.invokevirtual 135, 3) := by decide +kernel
theorem w_2797 : (Cond.code ({ cls := "NumberHouseModel$DecimalRows", name := "times", desc := "(I)Z" } : MethodName) prog_15_method_27_code (7 : Nat) (some .boolean)) ∈ q_tbl := q_of 2797 (by decide +kernel) (by decide +kernel)
theorem w_2794 : (Cond.methodLink "NumberHouseModel$DecimalRows" (135 : Nat) ({ cls := "NumberHouseModel$DecimalRows", name := "times", desc := "(I)Z" } : MethodName)) ∈ q_tbl := q_of 2794 (by decide +kernel) (by decide +kernel)
theorem w_2796 : (Cond.instanceMethod ({ cls := "NumberHouseModel$DecimalRows", name := "times", desc := "(I)Z" } : MethodName)) ∈ q_tbl := q_of 2796 (by decide +kernel) (by decide +kernel)
theorem ws_112 : Cond.selects "NumberHouseModel$DecimalRows" (⟨"NumberHouseModel$DecimalRows", "times", "(I)Z"⟩ : MethodName) (⟨"NumberHouseModel$DecimalRows", "times", "(I)Z"⟩ : MethodName) ∈ q_tbl := q_ofs 112 (by decide +kernel) (by decide +kernel)
theorem LV_DR_135 : q_LV "NumberHouseModel$DecimalRows" 135 y_DR_times prog_15_method_27_code 7 (some .boolean) 1 := ⟨w_2797, w_16, w_2794, w_2796, ws_112, ⟨by decide, by decide, by decide +kernel⟩⟩
theorem d_15_28_53 : decode prog_15_method_28_code 53 = .ok (.ifCond .eq 11, 3) := by decide +kernel
theorem d_15_28_56 : decode prog_15_method_28_code 56 = .ok (.aload_n 0, 1) := by decide +kernel
theorem d_15_28_57 : decode prog_15_method_28_code 57 = .ok (.iload_n 3, 1) := by decide +kernel
theorem d_15_28_58 : decode prog_15_method_28_code 58 = .ok (.invokevirtual 89, 3) := by decide +kernel
theorem w_2412 : (Cond.code ({ cls := "NumberHouseModel$DecimalRows", name := "store", desc := "(I)V" } : MethodName) prog_15_method_8_code (3 : Nat) (none : Option ClassFile.FieldType)) ∈ q_tbl := q_of 2412 (by decide +kernel) (by decide +kernel)
theorem w_2409 : (Cond.methodLink "NumberHouseModel$DecimalRows" (89 : Nat) ({ cls := "NumberHouseModel$DecimalRows", name := "store", desc := "(I)V" } : MethodName)) ∈ q_tbl := q_of 2409 (by decide +kernel) (by decide +kernel)
theorem w_2411 : (Cond.instanceMethod ({ cls := "NumberHouseModel$DecimalRows", name := "store", desc := "(I)V" } : MethodName)) ∈ q_tbl := q_of 2411 (by decide +kernel) (by decide +kernel)
theorem ws_63 : Cond.selects "NumberHouseModel$DecimalRows" (⟨"NumberHouseModel$DecimalRows", "store", "(I)V"⟩ : MethodName) (⟨"NumberHouseModel$DecimalRows", "store", "(I)V"⟩ : MethodName) ∈ q_tbl := q_ofs 63 (by decide +kernel) (by decide +kernel)
theorem LV_DR_89 : q_LV "NumberHouseModel$DecimalRows" 89 y_DR_store prog_15_method_8_code 3 none 1 := ⟨w_2412, w_16, w_2409, w_2411, ws_63, ⟨by decide, by decide, by decide +kernel⟩⟩
theorem d_15_28_61 : decode prog_15_method_28_code 61 = .ok (.goto 8, 3) := by decide +kernel
theorem d_15_28_69 : decode prog_15_method_28_code 69 = .ok (.return_, 1) := by decide +kernel
def y_DR_multiply : MethodName := ⟨"NumberHouseModel$DecimalRows", "multiply", "(III)V"⟩
set_option maxRecDepth 100000 in
set_option maxHeartbeats 4000000 in
theorem c_DR_multiply (l : Launch) (D : va_G) (g : Nat → ClassId) (ws : va_W) (kO0 kA2 kA3 kA4 kA5 kA6 kA7 qO0 qA1 qA2 qA3 qA4 qA5 qA6 qA7 qA8 qA9 qA10 : Nat) (x1 : Int32) (x2 : Int32) (x3 : Int32) (hO0 : ws[kO0]? = (some (qO0, .inr (14, [.int 0, .ref qA1, .int 0, .ref qA2, .ref qA3, .ref qA4, .ref qA5, .ref qA6, .int 0, .long 0, .int 0, .int 0, .ref qA7, .int 0, .ref qA8, .int 0, .ref qA9, .int 0, .ref qA10, .int 0, .int 0])) : Option (Nat × va_E))) (hA2 : ws[kA2]? = (some (qA2, .inl (g 0, 10000, .inl (fun _ => 0))) : Option (Nat × va_E))) (hA3 : ws[kA3]? = (some (qA3, .inl (g 0, 10, .inl (upd (upd (upd (upd (upd (upd (upd (upd (upd (upd (fun _ => 0) 0 1) 1 1) 2 1) 3 1) 4 1) 5 1) 6 1) 7 1) 8 1) 9 1))) : Option (Nat × va_E))) (hA4 : ws[kA4]? = (some (qA4, .inl (g 3, 10, .inl (fun _ => 0))) : Option (Nat × va_E))) (hA5 : ws[kA5]? = (some (qA5, .inl (g 0, 10, .inl (fun _ => 0))) : Option (Nat × va_E))) (hA6 : ws[kA6]? = (some (qA6, .inl (g 0, 4400, .inl (fun _ => 0))) : Option (Nat × va_E))) (hA7 : ws[kA7]? = (some (qA7, .inl (g 0, 4400, .inl (fun _ => 0))) : Option (Nat × va_E))) (n_A2_A3 : kA2 ≠ kA3) (n_A2_A4 : kA2 ≠ kA4) (n_A2_A5 : kA2 ≠ kA5) (n_A2_A6 : kA2 ≠ kA6) (n_A2_A7 : kA2 ≠ kA7) (n_A3_A4 : kA3 ≠ kA4) (n_A3_A5 : kA3 ≠ kA5) (n_A3_A6 : kA3 ≠ kA6) (n_A3_A7 : kA3 ≠ kA7) (n_A4_A5 : kA4 ≠ kA5) (n_A4_A6 : kA4 ≠ kA6) (n_A4_A7 : kA4 ≠ kA7) (n_A5_A6 : kA5 ≠ kA6) (n_A5_A7 : kA5 ≠ kA7) (n_A6_A7 : kA6 ≠ kA7) (x1lo : 0 ≤ x1) (x1hi : x1 ≤ 9) (x2lo : 0 ≤ x2) (x2hi : x2 ≤ 9) (x3lo : 0 ≤ x3) (x3hi : x3 ≤ 9) : q_mV l y_DR_multiply prog_15_method_28_code 4 3 0 0 D g [.ref qO0, .int x1, .int x2, .int x3] ws (fun u => q_un ws u [kO0, kA2, kA3, kA4, kA5, kA6, kA7] ∧ u[kO0]? = (some (qO0, .inr (14, [.int 0, .ref qA1, .int 0, .ref qA2, .ref qA3, .ref qA4, .ref qA5, .ref qA6, .int 1, .long 0, .int 0, .int 0, .ref qA7, .int 0, .ref qA8, .int 0, .ref qA9, .int 0, .ref qA10, .int 0, .int 2])) : Option (Nat × va_E)) ∧ u[kA2]? = (some (qA2, .inl (g 0, 10000, .inl (fun _ => 0))) : Option (Nat × va_E)) ∧ u[kA3]? = (some (qA3, .inl (g 0, 10, .inl (upd (upd (upd (upd (upd (upd (upd (upd (upd (upd (upd (fun _ => 0) 0 1) 1 1) 2 1) 3 1) 4 1) 5 1) 6 1) 7 1) 8 1) 9 1) x3.toNatClampNeg 1))) : Option (Nat × va_E)) ∧ u[kA4]? = (some (qA4, .inl (g 3, 10, .inl (fun _ => 0))) : Option (Nat × va_E)) ∧ u[kA5]? = (some (qA5, .inl (g 0, 10, .inl (fun _ => 0))) : Option (Nat × va_E)) ∧ u[kA6]? = (some (qA6, .inl (g 0, 4400, .inl (fun _ => 0))) : Option (Nat × va_E)) ∧ u[kA7]? = (some (qA7, .inl (g 0, 4400, .inl (fun _ => 0))) : Option (Nat × va_E))) := by
  intro sz
  refine q_into (by decide) (Nat.le_of_ble_eq_true rfl) ?_
  intro p e s m below meth c ls hsz C0 V hl
  have hx := C0.1
  have hb := C0.2.1
  have hl : lv_has ls 4 [(0, .ref qO0), (1, .int x1), (2, .int x2), (3, .int x3)] := hl
  have n_A2_O0 := q_df hA2 hO0
  have n_A3_O0 := q_df hA3 hO0
  have n_A4_O0 := q_df hA4 hO0
  have n_A5_O0 := q_df hA5 hO0
  have n_A6_O0 := q_df hA6 hO0
  have n_A7_A2 := Ne.symm n_A2_A7
  have n_A7_A3 := Ne.symm n_A3_A7
  have n_A7_A4 := Ne.symm n_A4_A7
  have n_A7_A5 := Ne.symm n_A5_A7
  have n_A7_A6 := Ne.symm n_A6_A7
  have n_A7_O0 := q_df hA7 hO0
  have hF : q_un ws ws [kO0, kA2, kA3, kA4, kA5, kA6, kA7] := q_u0
  refine lv_aload_n hx hb d_15_28_0 rfl (lv_at hl 0 rfl) ?_
  refine lv_iload_n hx hb d_15_28_1 rfl (lv_at hl 1 rfl) ?_
  refine q_goi V (q_runS (As := [.int x1]) (rest := [.ref qO0]) (d := 1) (mc := 0) (ms := 0) C0 V rfl LS_DR_113 (c_DR_no l D g ws x1 x1lo x1hi _) rfl hl.1 rfl (Nat.le_of_ble_eq_true rfl) ⟨by decide, by decide⟩ ⟨Nat.le_of_ble_eq_true rfl, Nat.le_of_ble_eq_true rfl⟩ d_15_28_2) (fun v3 u2 H locs hp1 V => ?_)
  obtain ⟨rfl, rfl⟩ := hp1
  refine lv_if_ne (tgt := 22) hx hb d_15_28_5 (by decide) (fun c5 => absurd (by decide) c5) (fun c5 => ?_)
  refine lv_iload_n hx hb d_15_28_8 rfl (lv_at hl 2 rfl) ?_
  refine q_goi V (q_runS (As := [.int x2]) (rest := [.ref qO0]) (d := 1) (mc := 0) (ms := 0) C0 V rfl LS_DR_113 (c_DR_no l D g ws x2 x2lo x2hi _) rfl hl.1 rfl (Nat.le_of_ble_eq_true rfl) ⟨by decide, by decide⟩ ⟨Nat.le_of_ble_eq_true rfl, Nat.le_of_ble_eq_true rfl⟩ d_15_28_9) (fun v8 u7 H locs hp6 V => ?_)
  obtain ⟨rfl, rfl⟩ := hp6
  refine lv_if_ne (tgt := 22) hx hb d_15_28_12 (by decide) (fun c10 => absurd (by decide) c10) (fun c10 => ?_)
  refine lv_iload_n hx hb d_15_28_15 rfl (lv_at hl 3 rfl) ?_
  refine q_goi V (q_runS (As := [.int x3]) (rest := [.ref qO0]) (d := 1) (mc := 0) (ms := 0) C0 V rfl LS_DR_113 (c_DR_no l D g ws x3 x3lo x3hi _) rfl hl.1 rfl (Nat.le_of_ble_eq_true rfl) ⟨by decide, by decide⟩ ⟨Nat.le_of_ble_eq_true rfl, Nat.le_of_ble_eq_true rfl⟩ d_15_28_16) (fun v13 u12 H locs hp11 V => ?_)
  obtain ⟨rfl, rfl⟩ := hp11
  refine lv_if_eq (tgt := 26) hx hb d_15_28_19 (by decide) (fun c15 => ?_) (fun c15 => absurd (by decide) c15)
  refine lv_iconst (v := 0) hx hb d_15_28_26 (by decide) ?_
  refine q_put (ci := 14) (j := 0) (v := .int 0) (ty := .int) C0 V i_DR o_DR n_DR rfl rfl hO0 (by decide) w_1996 rfl rfl rfl rfl (Nat.le_of_ble_eq_true rfl) d_15_28_27 (fun H locs w16 hu17 hO0 V => ?_)
  replace hO0 : w16[kO0]? = (some (qO0, .inr (14, [.int 0, .ref qA1, .int 0, .ref qA2, .ref qA3, .ref qA4, .ref qA5, .ref qA6, .int 0, .long 0, .int 0, .int 0, .ref qA7, .int 0, .ref qA8, .int 0, .ref qA9, .int 0, .ref qA10, .int 0, .int 0])) : Option (Nat × va_E)) := hO0
  replace hF := q_us hF hu17 (.head _)
  refine lv_aload_n hx hb d_15_28_30 rfl (lv_at hl 0 rfl) ?_
  refine q_get (ci := 14) (j := 0) (v := .int 0) C0 V i_DR rfl rfl hO0 (by decide) w_1996 rfl d_15_28_31 ?_
  refine lv_if_le (tgt := 38) hx hb d_15_28_34 (by decide) (fun c18 => ?_) (fun c18 => absurd (by decide) c18)
  refine lv_aload_n hx hb d_15_28_38 rfl (lv_at hl 0 rfl) ?_
  refine lv_iconst (v := 2) hx hb d_15_28_39 (by decide) ?_
  refine q_put (ci := 14) (j := 20) (v := .int 2) (ty := .int) C0 V i_DR o_DR n_DR rfl rfl hO0 (by decide) w_2024 rfl rfl rfl rfl (Nat.le_of_ble_eq_true rfl) d_15_28_40 (fun H locs w19 hu20 hO0 V => ?_)
  replace hO0 : w19[kO0]? = (some (qO0, .inr (14, [.int 0, .ref qA1, .int 0, .ref qA2, .ref qA3, .ref qA4, .ref qA5, .ref qA6, .int 0, .long 0, .int 0, .int 0, .ref qA7, .int 0, .ref qA8, .int 0, .ref qA9, .int 0, .ref qA10, .int 0, .int 2])) : Option (Nat × va_E)) := hO0
  replace hF := q_us hF hu20 (.head _)
  refine lv_aload_n hx hb d_15_28_43 rfl (lv_at hl 0 rfl) ?_
  refine lv_iload_n hx hb d_15_28_44 rfl (lv_at hl 1 rfl) ?_
  replace hA2 := (hu20 _ n_A2_O0).trans ((hu17 _ n_A2_O0).trans (hA2))
  replace hA3 := (hu20 _ n_A3_O0).trans ((hu17 _ n_A3_O0).trans (hA3))
  replace hA4 := (hu20 _ n_A4_O0).trans ((hu17 _ n_A4_O0).trans (hA4))
  replace hA5 := (hu20 _ n_A5_O0).trans ((hu17 _ n_A5_O0).trans (hA5))
  replace hA6 := (hu20 _ n_A6_O0).trans ((hu17 _ n_A6_O0).trans (hA6))
  refine q_gov V (q_runV (As := [.int x1]) (rest := []) (d := 1) (mc := 0) (ms := 0) (ci := 14) C0 V rfl LV_DR_132 (c_DR_load l D g w19 kO0 kA2 kA3 kA4 kA5 kA6 qO0 qA1 qA2 qA3 qA4 qA5 qA6 qA7 qA8 qA9 qA10 x1 hO0 hA2 hA3 hA4 hA5 hA6 n_A2_A6 n_A3_A6 n_A4_A6 n_A5_A6 x1lo x1hi _) rfl rfl hO0 rfl hl.1 rfl (Nat.le_of_ble_eq_true rfl) ⟨by decide, by decide⟩ ⟨Nat.le_of_ble_eq_true rfl, Nat.le_of_ble_eq_true rfl⟩ d_15_28_45) (fun u22 H locs hp21 V => ?_)
  obtain ⟨hg23, hO0, hA6⟩ := hp21
  replace hF := q_uc hF hg23 (q_sc (.head _) (q_sc (List.mem_of_getElem? (i := 5) rfl) (fun _ h => absurd h List.not_mem_nil)))
  refine lv_aload_n hx hb d_15_28_48 rfl (lv_at hl 0 rfl) ?_
  refine lv_iload_n hx hb d_15_28_49 rfl (lv_at hl 2 rfl) ?_
  replace hA2 := (hg23 _ (q_nc n_A2_O0 (q_nc n_A2_A6 List.not_mem_nil))).trans (hA2)
  replace hA3 := (hg23 _ (q_nc n_A3_O0 (q_nc n_A3_A6 List.not_mem_nil))).trans (hA3)
  replace hA4 := (hg23 _ (q_nc n_A4_O0 (q_nc n_A4_A6 List.not_mem_nil))).trans (hA4)
  replace hA5 := (hg23 _ (q_nc n_A5_O0 (q_nc n_A5_A6 List.not_mem_nil))).trans (hA5)
  replace hA7 := (hg23 _ (q_nc n_A7_O0 (q_nc n_A7_A6 List.not_mem_nil))).trans ((hu20 _ n_A7_O0).trans ((hu17 _ n_A7_O0).trans (hA7)))
  refine q_goi V (q_runV (As := [.int x2]) (rest := []) (d := 2) (mc := 0) (ms := 0) (ci := 14) C0 V rfl LV_DR_135 (c_DR_times l D g u22 kO0 kA2 kA3 kA4 kA5 kA6 kA7 qO0 qA1 qA2 qA3 qA4 qA5 qA6 qA7 qA8 qA9 qA10 x2 hO0 hA2 hA3 hA4 hA5 hA6 hA7 n_A2_A6 n_A2_A7 n_A3_A6 n_A3_A7 n_A4_A6 n_A4_A7 n_A5_A6 n_A5_A7 n_A6_A7 x2lo x2hi _) rfl rfl hO0 rfl hl.1 rfl (Nat.le_of_ble_eq_true rfl) ⟨by decide, by decide⟩ ⟨Nat.le_of_ble_eq_true rfl, Nat.le_of_ble_eq_true rfl⟩ d_15_28_50) (fun v26 u25 H locs hp24 V => ?_)
  obtain ⟨rfl, hg27, hO0, hA6, hA7⟩ := hp24
  replace hF := q_uc hF hg27 (q_sc (.head _) (q_sc (List.mem_of_getElem? (i := 5) rfl) (q_sc (List.mem_of_getElem? (i := 6) rfl) (fun _ h => absurd h List.not_mem_nil))))
  refine lv_if_eq (tgt := 64) hx hb d_15_28_53 (by decide) (fun c28 => absurd c28 (by decide)) (fun c28 => ?_)
  refine lv_aload_n hx hb d_15_28_56 rfl (lv_at hl 0 rfl) ?_
  refine lv_iload_n hx hb d_15_28_57 rfl (lv_at hl 3 rfl) ?_
  replace hA2 := (hg27 _ (q_nc n_A2_O0 (q_nc n_A2_A6 (q_nc n_A2_A7 List.not_mem_nil)))).trans (hA2)
  replace hA3 := (hg27 _ (q_nc n_A3_O0 (q_nc n_A3_A6 (q_nc n_A3_A7 List.not_mem_nil)))).trans (hA3)
  replace hA4 := (hg27 _ (q_nc n_A4_O0 (q_nc n_A4_A6 (q_nc n_A4_A7 List.not_mem_nil)))).trans (hA4)
  replace hA5 := (hg27 _ (q_nc n_A5_O0 (q_nc n_A5_A6 (q_nc n_A5_A7 List.not_mem_nil)))).trans (hA5)
  refine q_gov V (q_runV (As := [.int x3]) (rest := []) (d := 2) (mc := 0) (ms := 0) (ci := 14) C0 V rfl LV_DR_89 (c_DR_store l D g u25 kO0 kA2 kA3 kA4 kA5 kA6 qO0 qA1 qA2 qA3 qA4 qA5 qA6 qA7 qA8 qA9 qA10 x3 hO0 hA2 hA3 hA4 hA5 hA6 n_A2_A3 n_A2_A4 n_A2_A5 n_A2_A6 n_A3_A4 n_A3_A5 n_A3_A6 n_A4_A5 n_A4_A6 n_A5_A6 x3lo x3hi _) rfl rfl hO0 rfl hl.1 rfl (Nat.le_of_ble_eq_true rfl) ⟨by decide, by decide⟩ ⟨Nat.le_of_ble_eq_true rfl, Nat.le_of_ble_eq_true rfl⟩ d_15_28_58) (fun u30 H locs hp29 V => ?_)
  obtain ⟨hg31, hO0, hA2, hA3, hA4, hA5, hA6⟩ := hp29
  replace hF := q_uc hF hg31 (q_sc (.head _) (q_sc (.tail _ (.head _)) (q_sc (.tail _ (.tail _ (.head _))) (q_sc (List.mem_of_getElem? (i := 3) rfl) (q_sc (List.mem_of_getElem? (i := 4) rfl) (q_sc (List.mem_of_getElem? (i := 5) rfl) (fun _ h => absurd h List.not_mem_nil)))))))
  refine lv_goto (tgt := 69) hx hb d_15_28_61 (by decide) ?_
  replace hA7 := (hg31 _ (q_nc n_A7_O0 (q_nc n_A7_A2 (q_nc n_A7_A3 (q_nc n_A7_A4 (q_nc n_A7_A5 (q_nc n_A7_A6 List.not_mem_nil))))))).trans (hA7)
  exact q_retv C0 V (⟨hF, hO0, hA2, hA3, hA4, hA5, hA6, hA7⟩) d_15_28_69
set_option maxRecDepth 100000 in
set_option maxHeartbeats 4000000 in
theorem c_DR_isZero_2 (l : Launch) (D : va_G) (g : Nat → ClassId) (ws : va_W) (kO0 kA2 qO0 qA1 qA2 qA3 qA4 qA5 qA6 qA7 qA8 qA9 qA10 : Nat) (x1 : Int32) (hO0 : ws[kO0]? = (some (qO0, .inr (14, [.int 0, .ref qA1, .int 0, .ref qA2, .ref qA3, .ref qA4, .ref qA5, .ref qA6, .int 0, .long 0, .int 0, .int 0, .ref qA7, .int 0, .ref qA8, .int 0, .ref qA9, .int 0, .ref qA10, .int 0, .int 2])) : Option (Nat × va_E))) (hA2 : ws[kA2]? = (some (qA2, .inl (g 0, 10000, .inl (fun _ => 0))) : Option (Nat × va_E))) (x1lo : 0 ≤ x1) (x1hi : x1 ≤ 9) : q_mI l y_DR_isZero prog_15_method_5_code 2 (.boolean) 1 0 0 D g [.ref qO0, .int x1] ws (fun r u => 1 = r ∧ ws = u) := by
  intro sz
  refine q_into (by decide) (Nat.le_of_ble_eq_true rfl) ?_
  intro p e s m below meth c ls hsz C0 V hl
  have hx := C0.1
  have hb := C0.2.1
  have hl : lv_has ls 2 [(0, .ref qO0), (1, .int x1)] := hl
  refine lv_aload_n hx hb d_15_5_0 rfl (lv_at hl 0 rfl) ?_
  refine q_get (ci := 14) (j := 3) (v := .ref qA2) C0 V i_DR rfl rfl hO0 (by decide) w_2002 rfl d_15_5_1 ?_
  refine lv_sipush (v := 1000) hx hb d_15_5_4 (by decide) ?_
  refine lv_iload_n hx hb d_15_5_7 rfl (lv_at hl 1 rfl) ?_
  refine lv_imul hx hb d_15_5_8 ?_
  refine q_iald C0 V hA2 (q_ix (x := (1000 * x1.toInt)) (q_mulI (x := 1000) (y := x1.toInt) (by decide) rfl (by have t1 : 0 ≤ x1.toInt := q_leI x1lo; have t2 : x1.toInt ≤ 9 := q_leI x1hi; omega) (by have t1 : 0 ≤ x1.toInt := q_leI x1lo; have t2 : x1.toInt ≤ 9 := q_leI x1hi; omega)) (by have t1 : 0 ≤ x1.toInt := q_leI x1lo; have t2 : x1.toInt ≤ 9 := q_leI x1hi; omega) (by have t1 : 0 ≤ x1.toInt := q_leI x1lo; have t2 : x1.toInt ≤ 9 := q_leI x1hi; omega)) d_15_5_9 ?_
  refine q_ti (v := 0) (by first | rfl | decide | simp [upd, vp_updL, sb_cl0]) ?_
  refine lv_if_ne (tgt := 17) hx hb d_15_5_10 (by decide) (fun c1 => absurd (by decide) c1) (fun c1 => ?_)
  refine lv_iconst (v := 1) hx hb d_15_5_13 (by decide) ?_
  refine lv_goto (tgt := 18) hx hb d_15_5_14 (by decide) ?_
  exact q_retz C0 V (rfl) (⟨rfl, rfl⟩) d_15_5_18
theorem d_15_25_0 : decode prog_15_method_25_code 0 = .ok (.aload_n 0, 1) := by decide +kernel
theorem d_15_25_1 : decode prog_15_method_25_code 1 = .ok (.getfield 16, 3) := by decide +kernel
theorem d_15_25_4 : decode prog_15_method_25_code 4 = .ok (.iload_n 1, 1) := by decide +kernel
theorem d_15_25_5 : decode prog_15_method_25_code 5 = .ok (.iaload, 1) := by decide +kernel
theorem d_15_25_6 : decode prog_15_method_25_code 6 = .ok (.i2l, 1) := by decide +kernel
theorem d_15_25_7 : decode prog_15_method_25_code 7 = .ok (.lconst 1, 1) := by decide +kernel
theorem d_15_25_8 : decode prog_15_method_25_code 8 = .ok (.lsub, 1) := by decide +kernel
theorem d_15_25_9 : decode prog_15_method_25_code 9 = .ok (.iload 4, 2) := by decide +kernel
theorem d_15_25_11 : decode prog_15_method_25_code 11 = .ok (.i2l, 1) := by decide +kernel
theorem d_15_25_12 : decode prog_15_method_25_code 12 = .ok (.lsub, 1) := by decide +kernel
theorem d_15_25_13 : decode prog_15_method_25_code 13 = .ok (.lload_n 2, 1) := by decide +kernel
theorem d_15_25_14 : decode prog_15_method_25_code 14 = .ok (.aload_n 0, 1) := by decide +kernel
theorem d_15_25_15 : decode prog_15_method_25_code 15 = .ok (.getfield 23, 3) := by decide +kernel
theorem d_15_25_18 : decode prog_15_method_25_code 18 = .ok (.iload_n 1, 1) := by decide +kernel
theorem d_15_25_19 : decode prog_15_method_25_code 19 = .ok (.iaload, 1) := by decide +kernel
theorem d_15_25_20 : decode prog_15_method_25_code 20 = .ok (.i2l, 1) := by decide +kernel
theorem d_15_25_21 : decode prog_15_method_25_code 21 = .ok (.lsub, 1) := by decide +kernel
theorem d_15_25_22 : decode prog_15_method_25_code 22 = .ok (.ladd, 1) := by decide +kernel
theorem d_15_25_23 : decode prog_15_method_25_code 23 = .ok (.lstore 5, 2) := by decide +kernel
theorem d_15_25_25 : decode prog_15_method_25_code 25 = .ok (.lload 5, 2) := by decide +kernel
theorem d_15_25_27 : decode prog_15_method_25_code 27 = .ok (.lconst 0, 1) := by decide +kernel
theorem d_15_25_28 : decode prog_15_method_25_code 28 = .ok (.lcmp, 1) := by decide +kernel
theorem d_15_25_29 : decode prog_15_method_25_code 29 = .ok (.ifCond .lt 16, 3) := by decide +kernel
theorem d_15_25_32 : decode prog_15_method_25_code 32 = .ok (.lload 5, 2) := by decide +kernel
theorem d_15_25_34 : decode prog_15_method_25_code 34 = .ok (.aload_n 0, 1) := by decide +kernel
theorem d_15_25_35 : decode prog_15_method_25_code 35 = .ok (.getfield 16, 3) := by decide +kernel
theorem d_15_25_38 : decode prog_15_method_25_code 38 = .ok (.iload_n 1, 1) := by decide +kernel
theorem d_15_25_39 : decode prog_15_method_25_code 39 = .ok (.iaload, 1) := by decide +kernel
theorem d_15_25_40 : decode prog_15_method_25_code 40 = .ok (.i2l, 1) := by decide +kernel
theorem d_15_25_41 : decode prog_15_method_25_code 41 = .ok (.lcmp, 1) := by decide +kernel
theorem d_15_25_42 : decode prog_15_method_25_code 42 = .ok (.ifCond .lt 7, 3) := by decide +kernel
theorem d_15_25_49 : decode prog_15_method_25_code 49 = .ok (.aload_n 0, 1) := by decide +kernel
theorem d_15_25_50 : decode prog_15_method_25_code 50 = .ok (.getfield 13, 3) := by decide +kernel
theorem d_15_25_53 : decode prog_15_method_25_code 53 = .ok (.sipush 1000, 3) := by decide +kernel
theorem d_15_25_56 : decode prog_15_method_25_code 56 = .ok (.iload_n 1, 1) := by decide +kernel
theorem d_15_25_57 : decode prog_15_method_25_code 57 = .ok (.imul, 1) := by decide +kernel
theorem d_15_25_58 : decode prog_15_method_25_code 58 = .ok (.lload 5, 2) := by decide +kernel
theorem d_15_25_60 : decode prog_15_method_25_code 60 = .ok (.l2i, 1) := by decide +kernel
theorem d_15_25_61 : decode prog_15_method_25_code 61 = .ok (.iadd, 1) := by decide +kernel
theorem d_15_25_62 : decode prog_15_method_25_code 62 = .ok (.iaload, 1) := by decide +kernel
theorem d_15_25_63 : decode prog_15_method_25_code 63 = .ok (.ireturn, 1) := by decide +kernel
def y_DR_figure : MethodName := ⟨"NumberHouseModel$DecimalRows", "figure", "(IJI)I"⟩
set_option maxRecDepth 100000 in
set_option maxHeartbeats 4000000 in
theorem c_DR_figure (l : Launch) (D : va_G) (g : Nat → ClassId) (ws : va_W) (kO0 kA2 kA3 kA5 qO0 qA1 qA2 qA3 qA4 qA5 qA6 qA7 qA8 qA9 qA10 : Nat) (x1 : Int32) (hO0 : ws[kO0]? = (some (qO0, .inr (14, [.int 0, .ref qA1, .int 0, .ref qA2, .ref qA3, .ref qA4, .ref qA5, .ref qA6, .int 0, .long 0, .int 0, .int 0, .ref qA7, .int 0, .ref qA8, .int 0, .ref qA9, .int 0, .ref qA10, .int 0, .int 2])) : Option (Nat × va_E))) (hA2 : ws[kA2]? = (some (qA2, .inl (g 0, 10000, .inl (fun _ => 0))) : Option (Nat × va_E))) (hA3 : ws[kA3]? = (some (qA3, .inl (g 0, 10, .inl (upd (upd (upd (upd (upd (upd (upd (upd (upd (upd (fun _ => 0) 0 1) 1 1) 2 1) 3 1) 4 1) 5 1) 6 1) 7 1) 8 1) 9 1))) : Option (Nat × va_E))) (hA5 : ws[kA5]? = (some (qA5, .inl (g 0, 10, .inl (fun _ => 0))) : Option (Nat × va_E))) (x1lo : 0 ≤ x1) (x1hi : x1 ≤ 9) : q_mI l y_DR_figure prog_15_method_25_code 7 (.int) 1 0 0 D g [.ref qO0, .int x1, .long 0, .int 0] ws (fun r u => 0 = r ∧ ws = u) := by
  intro sz
  refine q_into (by decide) (Nat.le_of_ble_eq_true rfl) ?_
  intro p e s m below meth c ls hsz C0 V hl
  have hx := C0.1
  have hb := C0.2.1
  have hl : lv_has ls 7 [(0, .ref qO0), (1, .int x1), (2, .long 0), (4, .int 0)] := hl
  refine lv_aload_n hx hb d_15_25_0 rfl (lv_at hl 0 rfl) ?_
  refine q_get (ci := 14) (j := 4) (v := .ref qA3) C0 V i_DR rfl rfl hO0 (by decide) w_2004 rfl d_15_25_1 ?_
  refine lv_iload_n hx hb d_15_25_4 rfl (lv_at hl 1 rfl) ?_
  refine q_iald C0 V hA3 (q_ix (x := x1.toInt) rfl (by have t1 : 0 ≤ x1.toInt := q_leI x1lo; have t2 : x1.toInt ≤ 9 := q_leI x1hi; omega) (by have t1 : 0 ≤ x1.toInt := q_leI x1lo; have t2 : x1.toInt ≤ 9 := q_leI x1hi; omega)) d_15_25_5 ?_
  refine q_ti (v := 1) (by have hj := q_clI (x := x1.toInt) rfl (by have t1 : 0 ≤ x1.toInt := q_leI x1lo; have t2 : x1.toInt ≤ 9 := q_leI x1hi; omega); have hk : x1.toNatClampNeg < 10 ∧ 0 ≤ x1.toNatClampNeg := (by have t1 : 0 ≤ x1.toInt := q_leI x1lo; have t2 : x1.toInt ≤ 9 := q_leI x1hi; omega); clear hj; generalize x1.toNatClampNeg = j at hk ⊢; rcases (show j = 0 ∨ j = 1 ∨ j = 2 ∨ j = 3 ∨ j = 4 ∨ j = 5 ∨ j = 6 ∨ j = 7 ∨ j = 8 ∨ j = 9 by omega) with rfl | rfl | rfl | rfl | rfl | rfl | rfl | rfl | rfl | rfl <;> rfl) ?_
  refine lv_i2l hx hb d_15_25_6 rfl ?_
  refine q_tl (v := 1) (by decide) ?_
  refine lv_lconst (v := 1) hx hb d_15_25_7 (by decide) ?_
  refine lv_lsub hx hb d_15_25_8 ?_
  refine q_tl (v := 0) (by decide) ?_
  refine lv_iload hx hb d_15_25_9 (lv_at hl 3 rfl) ?_
  refine lv_i2l hx hb d_15_25_11 rfl ?_
  refine q_tl (v := 0) (by decide) ?_
  refine lv_lsub hx hb d_15_25_12 ?_
  refine q_tl (v := 0) (by decide) ?_
  refine lv_lload_n hx hb d_15_25_13 rfl (lv_at hl 2 rfl) ?_
  refine lv_aload_n hx hb d_15_25_14 rfl (lv_at hl 0 rfl) ?_
  refine q_get (ci := 14) (j := 6) (v := .ref qA5) C0 V i_DR rfl rfl hO0 (by decide) w_2008 rfl d_15_25_15 ?_
  refine lv_iload_n hx hb d_15_25_18 rfl (lv_at hl 1 rfl) ?_
  refine q_iald C0 V hA5 (q_ix (x := x1.toInt) rfl (by have t1 : 0 ≤ x1.toInt := q_leI x1lo; have t2 : x1.toInt ≤ 9 := q_leI x1hi; omega) (by have t1 : 0 ≤ x1.toInt := q_leI x1lo; have t2 : x1.toInt ≤ 9 := q_leI x1hi; omega)) d_15_25_19 ?_
  refine q_ti (v := 0) (by first | rfl | decide | simp [upd, vp_updL, sb_cl0]) ?_
  refine lv_i2l hx hb d_15_25_20 rfl ?_
  refine q_tl (v := 0) (by decide) ?_
  refine lv_lsub hx hb d_15_25_21 ?_
  refine q_tl (v := 0) (by decide) ?_
  refine lv_ladd hx hb d_15_25_22 ?_
  refine q_tl (v := 0) (by decide) ?_
  refine lv_lstore (lv' := [(5, .long 0), (0, .ref qO0), (1, .int x1), (2, .long 0), (4, .int 0)]) hx hb d_15_25_23 hl (by decide) rfl (fun ls hl => ?_)
  refine lv_lload hx hb d_15_25_25 (lv_at hl 0 rfl) ?_
  refine lv_lconst (v := 0) hx hb d_15_25_27 (by decide) ?_
  refine W.lcmp hx hb d_15_25_28 ?_
  refine q_ti (v := 0) (by decide) ?_
  refine lv_if_lt (tgt := 45) hx hb d_15_25_29 (by decide) (fun c1 => absurd c1 (by decide)) (fun c1 => ?_)
  refine lv_lload hx hb d_15_25_32 (lv_at hl 0 rfl) ?_
  refine lv_aload_n hx hb d_15_25_34 rfl (lv_at hl 1 rfl) ?_
  refine q_get (ci := 14) (j := 4) (v := .ref qA3) C0 V i_DR rfl rfl hO0 (by decide) w_2004 rfl d_15_25_35 ?_
  refine lv_iload_n hx hb d_15_25_38 rfl (lv_at hl 2 rfl) ?_
  refine q_iald C0 V hA3 (q_ix (x := x1.toInt) rfl (by have t1 : 0 ≤ x1.toInt := q_leI x1lo; have t2 : x1.toInt ≤ 9 := q_leI x1hi; omega) (by have t1 : 0 ≤ x1.toInt := q_leI x1lo; have t2 : x1.toInt ≤ 9 := q_leI x1hi; omega)) d_15_25_39 ?_
  refine q_ti (v := 1) (by have hj := q_clI (x := x1.toInt) rfl (by have t1 : 0 ≤ x1.toInt := q_leI x1lo; have t2 : x1.toInt ≤ 9 := q_leI x1hi; omega); have hk : x1.toNatClampNeg < 10 ∧ 0 ≤ x1.toNatClampNeg := (by have t1 : 0 ≤ x1.toInt := q_leI x1lo; have t2 : x1.toInt ≤ 9 := q_leI x1hi; omega); clear hj; generalize x1.toNatClampNeg = j at hk ⊢; rcases (show j = 0 ∨ j = 1 ∨ j = 2 ∨ j = 3 ∨ j = 4 ∨ j = 5 ∨ j = 6 ∨ j = 7 ∨ j = 8 ∨ j = 9 by omega) with rfl | rfl | rfl | rfl | rfl | rfl | rfl | rfl | rfl | rfl <;> rfl) ?_
  refine lv_i2l hx hb d_15_25_40 rfl ?_
  refine q_tl (v := 1) (by decide) ?_
  refine W.lcmp hx hb d_15_25_41 ?_
  refine q_ti (v := (-1)) (by decide) ?_
  refine lv_if_lt (tgt := 49) hx hb d_15_25_42 (by decide) (fun c2 => ?_) (fun c2 => absurd (by decide) c2)
  refine lv_aload_n hx hb d_15_25_49 rfl (lv_at hl 1 rfl) ?_
  refine q_get (ci := 14) (j := 3) (v := .ref qA2) C0 V i_DR rfl rfl hO0 (by decide) w_2002 rfl d_15_25_50 ?_
  refine lv_sipush (v := 1000) hx hb d_15_25_53 (by decide) ?_
  refine lv_iload_n hx hb d_15_25_56 rfl (lv_at hl 2 rfl) ?_
  refine lv_imul hx hb d_15_25_57 ?_
  refine lv_lload hx hb d_15_25_58 (lv_at hl 0 rfl) ?_
  refine lv_l2i hx hb d_15_25_60 rfl ?_
  refine q_ti (v := 0) (by decide) ?_
  refine lv_iadd hx hb d_15_25_61 ?_
  refine q_ti (v := 1000 * x1) (by simp) ?_
  refine q_iald C0 V hA2 (q_ix (x := (1000 * x1.toInt)) (q_mulI (x := 1000) (y := x1.toInt) (by decide) rfl (by have t1 : 0 ≤ x1.toInt := q_leI x1lo; have t2 : x1.toInt ≤ 9 := q_leI x1hi; omega) (by have t1 : 0 ≤ x1.toInt := q_leI x1lo; have t2 : x1.toInt ≤ 9 := q_leI x1hi; omega)) (by have t1 : 0 ≤ x1.toInt := q_leI x1lo; have t2 : x1.toInt ≤ 9 := q_leI x1hi; omega) (by have t1 : 0 ≤ x1.toInt := q_leI x1lo; have t2 : x1.toInt ≤ 9 := q_leI x1hi; omega)) d_15_25_62 ?_
  refine q_ti (v := 0) (by first | rfl | decide | simp [upd, vp_updL, sb_cl0]) ?_
  exact q_reti C0 V (⟨rfl, rfl⟩) d_15_25_63
theorem d_15_25_45 : decode prog_15_method_25_code 45 = .ok (.iconst 0, 1) := by decide +kernel
theorem d_15_25_46 : decode prog_15_method_25_code 46 = .ok (.goto 17, 3) := by decide +kernel
set_option maxRecDepth 100000 in
set_option maxHeartbeats 4000000 in
theorem c_DR_figure_2 (l : Launch) (D : va_G) (g : Nat → ClassId) (ws : va_W) (kO0 kA3 kA5 qO0 qA1 qA2 qA3 qA4 qA5 qA6 qA7 qA8 qA9 qA10 : Nat) (x1 : Int32) (hO0 : ws[kO0]? = (some (qO0, .inr (14, [.int 0, .ref qA1, .int 0, .ref qA2, .ref qA3, .ref qA4, .ref qA5, .ref qA6, .int 0, .long 0, .int 0, .int 0, .ref qA7, .int 0, .ref qA8, .int 0, .ref qA9, .int 0, .ref qA10, .int 0, .int 2])) : Option (Nat × va_E))) (hA3 : ws[kA3]? = (some (qA3, .inl (g 0, 10, .inl (upd (upd (upd (upd (upd (upd (upd (upd (upd (upd (fun _ => 0) 0 1) 1 1) 2 1) 3 1) 4 1) 5 1) 6 1) 7 1) 8 1) 9 1))) : Option (Nat × va_E))) (hA5 : ws[kA5]? = (some (qA5, .inl (g 0, 10, .inl (fun _ => 0))) : Option (Nat × va_E))) (x1lo : 0 ≤ x1) (x1hi : x1 ≤ 9) : q_mI l y_DR_figure prog_15_method_25_code 7 (.int) 1 0 0 D g [.ref qO0, .int x1, .long 0, .int 1] ws (fun r u => 0 = r ∧ ws = u) := by
  intro sz
  refine q_into (by decide) (Nat.le_of_ble_eq_true rfl) ?_
  intro p e s m below meth c ls hsz C0 V hl
  have hx := C0.1
  have hb := C0.2.1
  have hl : lv_has ls 7 [(0, .ref qO0), (1, .int x1), (2, .long 0), (4, .int 1)] := hl
  refine lv_aload_n hx hb d_15_25_0 rfl (lv_at hl 0 rfl) ?_
  refine q_get (ci := 14) (j := 4) (v := .ref qA3) C0 V i_DR rfl rfl hO0 (by decide) w_2004 rfl d_15_25_1 ?_
  refine lv_iload_n hx hb d_15_25_4 rfl (lv_at hl 1 rfl) ?_
  refine q_iald C0 V hA3 (q_ix (x := x1.toInt) rfl (by have t1 : 0 ≤ x1.toInt := q_leI x1lo; have t2 : x1.toInt ≤ 9 := q_leI x1hi; omega) (by have t1 : 0 ≤ x1.toInt := q_leI x1lo; have t2 : x1.toInt ≤ 9 := q_leI x1hi; omega)) d_15_25_5 ?_
  refine q_ti (v := 1) (by have hj := q_clI (x := x1.toInt) rfl (by have t1 : 0 ≤ x1.toInt := q_leI x1lo; have t2 : x1.toInt ≤ 9 := q_leI x1hi; omega); have hk : x1.toNatClampNeg < 10 ∧ 0 ≤ x1.toNatClampNeg := (by have t1 : 0 ≤ x1.toInt := q_leI x1lo; have t2 : x1.toInt ≤ 9 := q_leI x1hi; omega); clear hj; generalize x1.toNatClampNeg = j at hk ⊢; rcases (show j = 0 ∨ j = 1 ∨ j = 2 ∨ j = 3 ∨ j = 4 ∨ j = 5 ∨ j = 6 ∨ j = 7 ∨ j = 8 ∨ j = 9 by omega) with rfl | rfl | rfl | rfl | rfl | rfl | rfl | rfl | rfl | rfl <;> rfl) ?_
  refine lv_i2l hx hb d_15_25_6 rfl ?_
  refine q_tl (v := 1) (by decide) ?_
  refine lv_lconst (v := 1) hx hb d_15_25_7 (by decide) ?_
  refine lv_lsub hx hb d_15_25_8 ?_
  refine q_tl (v := 0) (by decide) ?_
  refine lv_iload hx hb d_15_25_9 (lv_at hl 3 rfl) ?_
  refine lv_i2l hx hb d_15_25_11 rfl ?_
  refine q_tl (v := 1) (by decide) ?_
  refine lv_lsub hx hb d_15_25_12 ?_
  refine q_tl (v := (-1)) (by decide) ?_
  refine lv_lload_n hx hb d_15_25_13 rfl (lv_at hl 2 rfl) ?_
  refine lv_aload_n hx hb d_15_25_14 rfl (lv_at hl 0 rfl) ?_
  refine q_get (ci := 14) (j := 6) (v := .ref qA5) C0 V i_DR rfl rfl hO0 (by decide) w_2008 rfl d_15_25_15 ?_
  refine lv_iload_n hx hb d_15_25_18 rfl (lv_at hl 1 rfl) ?_
  refine q_iald C0 V hA5 (q_ix (x := x1.toInt) rfl (by have t1 : 0 ≤ x1.toInt := q_leI x1lo; have t2 : x1.toInt ≤ 9 := q_leI x1hi; omega) (by have t1 : 0 ≤ x1.toInt := q_leI x1lo; have t2 : x1.toInt ≤ 9 := q_leI x1hi; omega)) d_15_25_19 ?_
  refine q_ti (v := 0) (by first | rfl | decide | simp [upd, vp_updL, sb_cl0]) ?_
  refine lv_i2l hx hb d_15_25_20 rfl ?_
  refine q_tl (v := 0) (by decide) ?_
  refine lv_lsub hx hb d_15_25_21 ?_
  refine q_tl (v := 0) (by decide) ?_
  refine lv_ladd hx hb d_15_25_22 ?_
  refine q_tl (v := (-1)) (by decide) ?_
  refine lv_lstore (lv' := [(5, .long (-1)), (0, .ref qO0), (1, .int x1), (2, .long 0), (4, .int 1)]) hx hb d_15_25_23 hl (by decide) rfl (fun ls hl => ?_)
  refine lv_lload hx hb d_15_25_25 (lv_at hl 0 rfl) ?_
  refine lv_lconst (v := 0) hx hb d_15_25_27 (by decide) ?_
  refine W.lcmp hx hb d_15_25_28 ?_
  refine q_ti (v := (-1)) (by decide) ?_
  refine lv_if_lt (tgt := 45) hx hb d_15_25_29 (by decide) (fun c1 => ?_) (fun c1 => absurd (by decide) c1)
  refine lv_iconst (v := 0) hx hb d_15_25_45 (by decide) ?_
  refine lv_goto (tgt := 63) hx hb d_15_25_46 (by decide) ?_
  exact q_reti C0 V (⟨rfl, rfl⟩) d_15_25_63
set_option maxRecDepth 100000 in
set_option maxHeartbeats 4000000 in
theorem c_DR_isZero_3 (l : Launch) (D : va_G) (g : Nat → ClassId) (ws : va_W) (kO0 kA2 qO0 qA1 qA2 qA3 qA4 qA5 qA6 qA7 qA8 qA9 qA10 : Nat) (x1 : Int32) (hO0 : ws[kO0]? = (some (qO0, .inr (14, [.int 0, .ref qA1, .int 0, .ref qA2, .ref qA3, .ref qA4, .ref qA5, .ref qA6, .int 2, .long 0, .int 0, .int 0, .ref qA7, .int 0, .ref qA8, .int 0, .ref qA9, .int 0, .ref qA10, .int 0, .int 2])) : Option (Nat × va_E))) (hA2 : ws[kA2]? = (some (qA2, .inl (g 0, 10000, .inl (fun _ => 0))) : Option (Nat × va_E))) (x1lo : 0 ≤ x1) (x1hi : x1 ≤ 9) : q_mI l y_DR_isZero prog_15_method_5_code 2 (.boolean) 1 0 0 D g [.ref qO0, .int x1] ws (fun r u => 1 = r ∧ ws = u) := by
  intro sz
  refine q_into (by decide) (Nat.le_of_ble_eq_true rfl) ?_
  intro p e s m below meth c ls hsz C0 V hl
  have hx := C0.1
  have hb := C0.2.1
  have hl : lv_has ls 2 [(0, .ref qO0), (1, .int x1)] := hl
  refine lv_aload_n hx hb d_15_5_0 rfl (lv_at hl 0 rfl) ?_
  refine q_get (ci := 14) (j := 3) (v := .ref qA2) C0 V i_DR rfl rfl hO0 (by decide) w_2002 rfl d_15_5_1 ?_
  refine lv_sipush (v := 1000) hx hb d_15_5_4 (by decide) ?_
  refine lv_iload_n hx hb d_15_5_7 rfl (lv_at hl 1 rfl) ?_
  refine lv_imul hx hb d_15_5_8 ?_
  refine q_iald C0 V hA2 (q_ix (x := (1000 * x1.toInt)) (q_mulI (x := 1000) (y := x1.toInt) (by decide) rfl (by have t1 : 0 ≤ x1.toInt := q_leI x1lo; have t2 : x1.toInt ≤ 9 := q_leI x1hi; omega) (by have t1 : 0 ≤ x1.toInt := q_leI x1lo; have t2 : x1.toInt ≤ 9 := q_leI x1hi; omega)) (by have t1 : 0 ≤ x1.toInt := q_leI x1lo; have t2 : x1.toInt ≤ 9 := q_leI x1hi; omega) (by have t1 : 0 ≤ x1.toInt := q_leI x1lo; have t2 : x1.toInt ≤ 9 := q_leI x1hi; omega)) d_15_5_9 ?_
  refine q_ti (v := 0) (by first | rfl | decide | simp [upd, vp_updL, sb_cl0]) ?_
  refine lv_if_ne (tgt := 17) hx hb d_15_5_10 (by decide) (fun c1 => absurd (by decide) c1) (fun c1 => ?_)
  refine lv_iconst (v := 1) hx hb d_15_5_13 (by decide) ?_
  refine lv_goto (tgt := 18) hx hb d_15_5_14 (by decide) ?_
  exact q_retz C0 V (rfl) (⟨rfl, rfl⟩) d_15_5_18
set_option maxRecDepth 100000 in
set_option maxHeartbeats 4000000 in
theorem c_DR_store_2 (l : Launch) (D : va_G) (g : Nat → ClassId) (ws : va_W) (kO0 kA2 kA3 kA4 kA5 kA6 qO0 qA1 qA2 qA3 qA4 qA5 qA6 qA7 qA8 qA9 qA10 : Nat) (x1 : Int32) (hO0 : ws[kO0]? = (some (qO0, .inr (14, [.int 0, .ref qA1, .int 0, .ref qA2, .ref qA3, .ref qA4, .ref qA5, .ref qA6, .int 2, .long 0, .int 0, .int 0, .ref qA7, .int 0, .ref qA8, .int 0, .ref qA9, .int 0, .ref qA10, .int 0, .int 2])) : Option (Nat × va_E))) (hA2 : ws[kA2]? = (some (qA2, .inl (g 0, 10000, .inl (fun _ => 0))) : Option (Nat × va_E))) (hA3 : ws[kA3]? = (some (qA3, .inl (g 0, 10, .inl (upd (upd (upd (upd (upd (upd (upd (upd (upd (upd (fun _ => 0) 0 1) 1 1) 2 1) 3 1) 4 1) 5 1) 6 1) 7 1) 8 1) 9 1))) : Option (Nat × va_E))) (hA4 : ws[kA4]? = (some (qA4, .inl (g 3, 10, .inl (fun _ => 0))) : Option (Nat × va_E))) (hA5 : ws[kA5]? = (some (qA5, .inl (g 0, 10, .inl (fun _ => 0))) : Option (Nat × va_E))) (hA6 : ws[kA6]? = (some (qA6, .inl (g 0, 4400, .inl (fun _ => 0))) : Option (Nat × va_E))) (n_A2_A3 : kA2 ≠ kA3) (n_A2_A4 : kA2 ≠ kA4) (n_A2_A5 : kA2 ≠ kA5) (n_A2_A6 : kA2 ≠ kA6) (n_A3_A4 : kA3 ≠ kA4) (n_A3_A5 : kA3 ≠ kA5) (n_A3_A6 : kA3 ≠ kA6) (n_A4_A5 : kA4 ≠ kA5) (n_A4_A6 : kA4 ≠ kA6) (n_A5_A6 : kA5 ≠ kA6) (x1lo : 0 ≤ x1) (x1hi : x1 ≤ 9) : q_mV l y_DR_store prog_15_method_8_code 3 2 0 0 D g [.ref qO0, .int x1] ws (fun u => q_un ws u [kO0, kA2, kA3, kA4, kA5, kA6] ∧ u[kO0]? = (some (qO0, .inr (14, [.int 0, .ref qA1, .int 0, .ref qA2, .ref qA3, .ref qA4, .ref qA5, .ref qA6, .int 1, .long 0, .int 0, .int 0, .ref qA7, .int 0, .ref qA8, .int 0, .ref qA9, .int 0, .ref qA10, .int 0, .int 2])) : Option (Nat × va_E)) ∧ u[kA2]? = (some (qA2, .inl (g 0, 10000, .inl (fun _ => 0))) : Option (Nat × va_E)) ∧ u[kA3]? = (some (qA3, .inl (g 0, 10, .inl (upd (upd (upd (upd (upd (upd (upd (upd (upd (upd (upd (fun _ => 0) 0 1) 1 1) 2 1) 3 1) 4 1) 5 1) 6 1) 7 1) 8 1) 9 1) x1.toNatClampNeg 1))) : Option (Nat × va_E)) ∧ u[kA4]? = (some (qA4, .inl (g 3, 10, .inl (fun _ => 0))) : Option (Nat × va_E)) ∧ u[kA5]? = (some (qA5, .inl (g 0, 10, .inl (fun _ => 0))) : Option (Nat × va_E)) ∧ u[kA6]? = (some (qA6, .inl (g 0, 4400, .inl (fun _ => 0))) : Option (Nat × va_E))) := by
  intro sz
  refine q_into (by decide) (Nat.le_of_ble_eq_true rfl) ?_
  intro p e s m below meth c ls hsz C0 V hl
  have hx := C0.1
  have hb := C0.2.1
  have hl : lv_has ls 3 [(0, .ref qO0), (1, .int x1)] := hl
  have n_A2_O0 := q_df hA2 hO0
  have n_A3_A2 := Ne.symm n_A2_A3
  have n_A3_O0 := q_df hA3 hO0
  have n_A4_A2 := Ne.symm n_A2_A4
  have n_A4_A3 := Ne.symm n_A3_A4
  have n_A4_O0 := q_df hA4 hO0
  have n_A5_A2 := Ne.symm n_A2_A5
  have n_A5_A3 := Ne.symm n_A3_A5
  have n_A5_A4 := Ne.symm n_A4_A5
  have n_A5_O0 := q_df hA5 hO0
  have n_A6_A2 := Ne.symm n_A2_A6
  have n_A6_A3 := Ne.symm n_A3_A6
  have n_A6_A4 := Ne.symm n_A4_A6
  have n_A6_A5 := Ne.symm n_A5_A6
  have n_O0_A2 := Ne.symm (q_df hA2 hO0)
  have n_O0_A3 := Ne.symm (q_df hA3 hO0)
  have n_O0_A4 := Ne.symm (q_df hA4 hO0)
  have n_O0_A5 := Ne.symm (q_df hA5 hO0)
  have hF : q_un ws ws [kO0, kA2, kA3, kA4, kA5, kA6] := q_u0
  refine lv_aload_n hx hb d_15_8_0 rfl (lv_at hl 0 rfl) ?_
  refine q_gov V (q_runV (As := []) (rest := []) (d := 1) (mc := 0) (ms := 0) (ci := 14) C0 V rfl LV_DR_59 (c_DR_trim l D g ws kO0 kA6 qO0 qA1 qA2 qA3 qA4 qA5 qA6 qA7 qA8 qA9 qA10 hO0 hA6 _) rfl rfl hO0 rfl hl.1 rfl (Nat.le_of_ble_eq_true rfl) ⟨by decide, by decide⟩ ⟨Nat.le_of_ble_eq_true rfl, Nat.le_of_ble_eq_true rfl⟩ d_15_8_1) (fun u2 H locs hp1 V => ?_)
  obtain ⟨hg3, hO0, hA6⟩ := hp1
  replace hF := q_uc hF hg3 (q_sc (.head _) (q_sc (List.mem_of_getElem? (i := 5) rfl) (fun _ h => absurd h List.not_mem_nil)))
  refine lv_aload_n hx hb d_15_8_4 rfl (lv_at hl 0 rfl) ?_
  refine q_get (ci := 14) (j := 8) (v := .int 1) C0 V i_DR rfl rfl hO0 (by decide) w_2011 rfl d_15_8_5 ?_
  refine lv_sipush (v := 1000) hx hb d_15_8_8 (by decide) ?_
  refine lv_icmp_gt (tgt := 36) hx hb d_15_8_11 (by decide) (fun c4 => absurd c4 (by decide)) (fun c4 => ?_)
  refine lv_aload_n hx hb d_15_8_14 rfl (lv_at hl 0 rfl) ?_
  refine q_get (ci := 14) (j := 9) (v := .long 0) C0 V i_DR rfl rfl hO0 (by decide) w_2012 rfl d_15_8_15 ?_
  refine q_ldc2 C0 rfl w_2417 d_15_8_18 ?_
  refine W.lcmp hx hb d_15_8_21 ?_
  refine q_ti (v := 1) (by decide) ?_
  refine lv_if_lt (tgt := 36) hx hb d_15_8_22 (by decide) (fun c5 => absurd c5 (by decide)) (fun c5 => ?_)
  refine lv_aload_n hx hb d_15_8_25 rfl (lv_at hl 0 rfl) ?_
  refine q_get (ci := 14) (j := 9) (v := .long 0) C0 V i_DR rfl rfl hO0 (by decide) w_2012 rfl d_15_8_26 ?_
  refine q_ldc2 C0 rfl w_2418 d_15_8_29 ?_
  refine W.lcmp hx hb d_15_8_32 ?_
  refine q_ti (v := (-1)) (by decide) ?_
  refine lv_if_le (tgt := 45) hx hb d_15_8_33 (by decide) (fun c6 => ?_) (fun c6 => absurd (by decide) c6)
  refine lv_iconst (v := 0) hx hb d_15_8_45 (by decide) ?_
  refine lv_istore_n (lv' := [(2, .int 0), (0, .ref qO0), (1, .int x1)]) hx hb d_15_8_46 rfl hl (by decide) rfl (fun ls hl => ?_)
  refine lv_iload_n hx hb d_15_8_47 rfl (lv_at hl 0 rfl) ?_
  refine lv_aload_n hx hb d_15_8_48 rfl (lv_at hl 1 rfl) ?_
  refine q_get (ci := 14) (j := 8) (v := .int 1) C0 V i_DR rfl rfl hO0 (by decide) w_2011 rfl d_15_8_49 ?_
  refine lv_icmp_ge (tgt := 79) hx hb d_15_8_52 (by decide) (fun c7 => absurd c7 (by decide)) (fun c7 => ?_)
  refine lv_aload_n hx hb d_15_8_55 rfl (lv_at hl 1 rfl) ?_
  refine q_get (ci := 14) (j := 3) (v := .ref qA2) C0 V i_DR rfl rfl hO0 (by decide) w_2002 rfl d_15_8_56 ?_
  refine lv_sipush (v := 1000) hx hb d_15_8_59 (by decide) ?_
  refine lv_iload_n hx hb d_15_8_62 rfl (lv_at hl 2 rfl) ?_
  refine lv_imul hx hb d_15_8_63 ?_
  refine lv_iload_n hx hb d_15_8_64 rfl (lv_at hl 0 rfl) ?_
  refine lv_iadd hx hb d_15_8_65 ?_
  refine q_ti (v := 1000 * x1) (by simp) ?_
  refine lv_aload_n hx hb d_15_8_66 rfl (lv_at hl 1 rfl) ?_
  refine q_get (ci := 14) (j := 7) (v := .ref qA6) C0 V i_DR rfl rfl hO0 (by decide) w_2010 rfl d_15_8_67 ?_
  refine lv_iload_n hx hb d_15_8_70 rfl (lv_at hl 0 rfl) ?_
  refine q_iald C0 V hA6 (by unfold vp_in; decide) d_15_8_71 ?_
  refine q_ti (v := 0) (by first | rfl | decide | simp [upd, vp_updL, sb_cl0]) ?_
  replace hA2 := (hg3 _ (q_nc n_A2_O0 (q_nc n_A2_A6 List.not_mem_nil))).trans (hA2)
  refine q_iast C0 V hA2 (q_ix (x := (1000 * x1.toInt)) (q_mulI (x := 1000) (y := x1.toInt) (by decide) rfl (by have t1 : 0 ≤ x1.toInt := q_leI x1lo; have t2 : x1.toInt ≤ 9 := q_leI x1hi; omega) (by have t1 : 0 ≤ x1.toInt := q_leI x1lo; have t2 : x1.toInt ≤ 9 := q_leI x1hi; omega)) (by have t1 : 0 ≤ x1.toInt := q_leI x1lo; have t2 : x1.toInt ≤ 9 := q_leI x1hi; omega) (by have t1 : 0 ≤ x1.toInt := q_leI x1lo; have t2 : x1.toInt ≤ 9 := q_leI x1hi; omega)) d_15_8_72 (fun H locs w8 hu9 hA2 V => ?_)
  replace hA2 := q_re (y := (qA2, .inl (g 0, 10000, .inl (fun _ => 0)))) hA2 (q_eI q_upd0)
  replace hA2 : w8[kA2]? = (some (qA2, .inl (g 0, 10000, .inl (fun _ => 0))) : Option (Nat × va_E)) := hA2
  replace hF := q_us hF hu9 (.tail _ (.head _))
  refine lv_iinc (v := 1) (lv' := [(2, .int 1), (0, .ref qO0), (1, .int x1)]) hx hb d_15_8_73 hl (k := 0) rfl (by decide) (by decide) rfl (fun ls hl => ?_)
  refine lv_goto (tgt := 47) hx hb d_15_8_76 (by decide) ?_
  refine lv_iload_n hx hb d_15_8_47 rfl (lv_at hl 0 rfl) ?_
  refine lv_aload_n hx hb d_15_8_48 rfl (lv_at hl 1 rfl) ?_
  replace hO0 := (hu9 _ n_O0_A2).trans (hO0)
  refine q_get (ci := 14) (j := 8) (v := .int 1) C0 V i_DR rfl rfl hO0 (by decide) w_2011 rfl d_15_8_49 ?_
  refine lv_icmp_ge (tgt := 79) hx hb d_15_8_52 (by decide) (fun c10 => ?_) (fun c10 => absurd (by decide) c10)
  refine lv_aload_n hx hb d_15_8_79 rfl (lv_at hl 1 rfl) ?_
  refine q_get (ci := 14) (j := 4) (v := .ref qA3) C0 V i_DR rfl rfl hO0 (by decide) w_2004 rfl d_15_8_80 ?_
  refine lv_iload_n hx hb d_15_8_83 rfl (lv_at hl 2 rfl) ?_
  refine lv_aload_n hx hb d_15_8_84 rfl (lv_at hl 1 rfl) ?_
  refine q_get (ci := 14) (j := 8) (v := .int 1) C0 V i_DR rfl rfl hO0 (by decide) w_2011 rfl d_15_8_85 ?_
  replace hA3 := (hu9 _ n_A3_A2).trans ((hg3 _ (q_nc n_A3_O0 (q_nc n_A3_A6 List.not_mem_nil))).trans (hA3))
  refine q_iast C0 V hA3 (q_ix (x := x1.toInt) rfl (by have t1 : 0 ≤ x1.toInt := q_leI x1lo; have t2 : x1.toInt ≤ 9 := q_leI x1hi; omega) (by have t1 : 0 ≤ x1.toInt := q_leI x1lo; have t2 : x1.toInt ≤ 9 := q_leI x1hi; omega)) d_15_8_88 (fun H locs w11 hu12 hA3 V => ?_)
  replace hA3 : w11[kA3]? = (some (qA3, .inl (g 0, 10, .inl (upd (upd (upd (upd (upd (upd (upd (upd (upd (upd (upd (fun _ => 0) 0 1) 1 1) 2 1) 3 1) 4 1) 5 1) 6 1) 7 1) 8 1) 9 1) x1.toNatClampNeg 1))) : Option (Nat × va_E)) := hA3
  replace hF := q_us hF hu12 (.tail _ (.tail _ (.head _)))
  refine lv_aload_n hx hb d_15_8_89 rfl (lv_at hl 1 rfl) ?_
  replace hO0 := (hu12 _ n_O0_A3).trans (hO0)
  refine q_get (ci := 14) (j := 5) (v := .ref qA4) C0 V i_DR rfl rfl hO0 (by decide) w_2006 rfl d_15_8_90 ?_
  refine lv_iload_n hx hb d_15_8_93 rfl (lv_at hl 2 rfl) ?_
  refine lv_aload_n hx hb d_15_8_94 rfl (lv_at hl 1 rfl) ?_
  refine q_get (ci := 14) (j := 11) (v := .int 0) C0 V i_DR rfl rfl hO0 (by decide) w_2014 rfl d_15_8_95 ?_
  replace hA4 := (hu12 _ n_A4_A3).trans ((hu9 _ n_A4_A2).trans ((hg3 _ (q_nc n_A4_O0 (q_nc n_A4_A6 List.not_mem_nil))).trans (hA4)))
  refine q_zast C0 V hA4 (q_ix (x := x1.toInt) rfl (by have t1 : 0 ≤ x1.toInt := q_leI x1lo; have t2 : x1.toInt ≤ 9 := q_leI x1hi; omega) (by have t1 : 0 ≤ x1.toInt := q_leI x1lo; have t2 : x1.toInt ≤ 9 := q_leI x1hi; omega)) d_15_8_98 (fun H locs w13 hu14 hA4 V => ?_)
  replace hA4 := q_re (y := (qA4, .inl (g 3, 10, .inl (fun _ => 0)))) hA4 (q_eI q_upd0)
  replace hA4 : w13[kA4]? = (some (qA4, .inl (g 3, 10, .inl (fun _ => 0))) : Option (Nat × va_E)) := hA4
  replace hF := q_us hF hu14 (List.mem_of_getElem? (i := 3) rfl)
  refine lv_aload_n hx hb d_15_8_99 rfl (lv_at hl 1 rfl) ?_
  replace hO0 := (hu14 _ n_O0_A4).trans (hO0)
  refine q_get (ci := 14) (j := 6) (v := .ref qA5) C0 V i_DR rfl rfl hO0 (by decide) w_2008 rfl d_15_8_100 ?_
  refine lv_iload_n hx hb d_15_8_103 rfl (lv_at hl 2 rfl) ?_
  refine lv_aload_n hx hb d_15_8_104 rfl (lv_at hl 1 rfl) ?_
  refine q_get (ci := 14) (j := 9) (v := .long 0) C0 V i_DR rfl rfl hO0 (by decide) w_2012 rfl d_15_8_105 ?_
  refine lv_l2i hx hb d_15_8_108 rfl ?_
  refine q_ti (v := 0) (by decide) ?_
  replace hA5 := (hu14 _ n_A5_A4).trans ((hu12 _ n_A5_A3).trans ((hu9 _ n_A5_A2).trans ((hg3 _ (q_nc n_A5_O0 (q_nc n_A5_A6 List.not_mem_nil))).trans (hA5))))
  refine q_iast C0 V hA5 (q_ix (x := x1.toInt) rfl (by have t1 : 0 ≤ x1.toInt := q_leI x1lo; have t2 : x1.toInt ≤ 9 := q_leI x1hi; omega) (by have t1 : 0 ≤ x1.toInt := q_leI x1lo; have t2 : x1.toInt ≤ 9 := q_leI x1hi; omega)) d_15_8_109 (fun H locs w15 hu16 hA5 V => ?_)
  replace hA5 := q_re (y := (qA5, .inl (g 0, 10, .inl (fun _ => 0)))) hA5 (q_eI q_upd0)
  replace hA5 : w15[kA5]? = (some (qA5, .inl (g 0, 10, .inl (fun _ => 0))) : Option (Nat × va_E)) := hA5
  replace hF := q_us hF hu16 (List.mem_of_getElem? (i := 4) rfl)
  replace hO0 := (hu16 _ n_O0_A5).trans (hO0)
  replace hA2 := (hu16 _ n_A2_A5).trans ((hu14 _ n_A2_A4).trans ((hu12 _ n_A2_A3).trans (hA2)))
  replace hA3 := (hu16 _ n_A3_A5).trans ((hu14 _ n_A3_A4).trans (hA3))
  replace hA4 := (hu16 _ n_A4_A5).trans (hA4)
  replace hA6 := (hu16 _ n_A6_A5).trans ((hu14 _ n_A6_A4).trans ((hu12 _ n_A6_A3).trans ((hu9 _ n_A6_A2).trans (hA6))))
  exact q_retv C0 V (⟨hF, hO0, hA2, hA3, hA4, hA5, hA6⟩) d_15_8_110
theorem d_15_26_0 : decode prog_15_method_26_code 0 = .ok (.aload_n 0, 1) := by decide +kernel
theorem d_15_26_1 : decode prog_15_method_26_code 1 = .ok (.iload_n 1, 1) := by decide +kernel
theorem d_15_26_2 : decode prog_15_method_26_code 2 = .ok (.invokestatic 113, 3) := by decide +kernel
theorem d_15_26_5 : decode prog_15_method_26_code 5 = .ok (.ifCond .ne 17, 3) := by decide +kernel
theorem d_15_26_8 : decode prog_15_method_26_code 8 = .ok (.iload_n 2, 1) := by decide +kernel
theorem d_15_26_9 : decode prog_15_method_26_code 9 = .ok (.invokestatic 113, 3) := by decide +kernel
theorem d_15_26_12 : decode prog_15_method_26_code 12 = .ok (.ifCond .ne 10, 3) := by decide +kernel
theorem d_15_26_15 : decode prog_15_method_26_code 15 = .ok (.iload_n 3, 1) := by decide +kernel
theorem d_15_26_16 : decode prog_15_method_26_code 16 = .ok (.invokestatic 113, 3) := by decide +kernel
theorem d_15_26_19 : decode prog_15_method_26_code 19 = .ok (.ifCond .eq 7, 3) := by decide +kernel
theorem d_15_26_26 : decode prog_15_method_26_code 26 = .ok (.iconst 0, 1) := by decide +kernel
theorem d_15_26_27 : decode prog_15_method_26_code 27 = .ok (.putfield 41, 3) := by decide +kernel
theorem d_15_26_30 : decode prog_15_method_26_code 30 = .ok (.aload_n 0, 1) := by decide +kernel
theorem d_15_26_31 : decode prog_15_method_26_code 31 = .ok (.getfield 41, 3) := by decide +kernel
theorem d_15_26_34 : decode prog_15_method_26_code 34 = .ok (.ifCond .le 4, 3) := by decide +kernel
theorem d_15_26_38 : decode prog_15_method_26_code 38 = .ok (.aload_n 0, 1) := by decide +kernel
theorem d_15_26_39 : decode prog_15_method_26_code 39 = .ok (.iconst 2, 1) := by decide +kernel
theorem d_15_26_40 : decode prog_15_method_26_code 40 = .ok (.putfield 66, 3) := by decide +kernel
theorem d_15_26_43 : decode prog_15_method_26_code 43 = .ok (.aload_n 0, 1) := by decide +kernel
theorem d_15_26_44 : decode prog_15_method_26_code 44 = .ok (.getfield 23, 3) := by decide +kernel
theorem d_15_26_47 : decode prog_15_method_26_code 47 = .ok (.iload_n 1, 1) := by decide +kernel
theorem d_15_26_48 : decode prog_15_method_26_code 48 = .ok (.iaload, 1) := by decide +kernel
theorem d_15_26_49 : decode prog_15_method_26_code 49 = .ok (.aload_n 0, 1) := by decide +kernel
theorem d_15_26_50 : decode prog_15_method_26_code 50 = .ok (.getfield 23, 3) := by decide +kernel
theorem d_15_26_53 : decode prog_15_method_26_code 53 = .ok (.iload_n 2, 1) := by decide +kernel
theorem d_15_26_54 : decode prog_15_method_26_code 54 = .ok (.iaload, 1) := by decide +kernel
theorem d_15_26_55 : decode prog_15_method_26_code 55 = .ok (.if_icmp .le 13, 3) := by decide +kernel
theorem d_15_26_68 : decode prog_15_method_26_code 68 = .ok (.aload_n 0, 1) := by decide +kernel
theorem d_15_26_69 : decode prog_15_method_26_code 69 = .ok (.getfield 23, 3) := by decide +kernel
theorem d_15_26_72 : decode prog_15_method_26_code 72 = .ok (.iload_n 2, 1) := by decide +kernel
theorem d_15_26_73 : decode prog_15_method_26_code 73 = .ok (.iaload, 1) := by decide +kernel
theorem d_15_26_74 : decode prog_15_method_26_code 74 = .ok (.i2l, 1) := by decide +kernel
theorem d_15_26_75 : decode prog_15_method_26_code 75 = .ok (.lstore 5, 2) := by decide +kernel
theorem d_15_26_77 : decode prog_15_method_26_code 77 = .ok (.aload_n 0, 1) := by decide +kernel
theorem d_15_26_78 : decode prog_15_method_26_code 78 = .ok (.iload_n 1, 1) := by decide +kernel
theorem d_15_26_79 : decode prog_15_method_26_code 79 = .ok (.invokevirtual 120, 3) := by decide +kernel
theorem d_15_26_82 : decode prog_15_method_26_code 82 = .ok (.ifCond .eq 7, 3) := by decide +kernel
theorem d_15_26_85 : decode prog_15_method_26_code 85 = .ok (.lconst 1, 1) := by decide +kernel
theorem d_15_26_86 : decode prog_15_method_26_code 86 = .ok (.goto 21, 3) := by decide +kernel
theorem d_15_26_107 : decode prog_15_method_26_code 107 = .ok (.lstore 7, 2) := by decide +kernel
theorem d_15_26_109 : decode prog_15_method_26_code 109 = .ok (.aload_n 0, 1) := by decide +kernel
theorem d_15_26_110 : decode prog_15_method_26_code 110 = .ok (.iload_n 2, 1) := by decide +kernel
theorem d_15_26_111 : decode prog_15_method_26_code 111 = .ok (.invokevirtual 120, 3) := by decide +kernel
theorem d_15_26_114 : decode prog_15_method_26_code 114 = .ok (.ifCond .eq 7, 3) := by decide +kernel
theorem d_15_26_117 : decode prog_15_method_26_code 117 = .ok (.lconst 1, 1) := by decide +kernel
theorem d_15_26_118 : decode prog_15_method_26_code 118 = .ok (.goto 21, 3) := by decide +kernel
theorem d_15_26_139 : decode prog_15_method_26_code 139 = .ok (.lstore 9, 2) := by decide +kernel
theorem d_15_26_141 : decode prog_15_method_26_code 141 = .ok (.lload 7, 2) := by decide +kernel
theorem d_15_26_143 : decode prog_15_method_26_code 143 = .ok (.ldc2_w 126, 3) := by decide +kernel
theorem w_2781 : (Cond.constantLong "NumberHouseModel$DecimalRows" (126 : Nat) (1001 : Int64)) ∈ q_tbl := q_of 2781 (by decide +kernel) (by decide +kernel)
theorem d_15_26_146 : decode prog_15_method_26_code 146 = .ok (.lcmp, 1) := by decide +kernel
theorem d_15_26_147 : decode prog_15_method_26_code 147 = .ok (.ifCond .gt 12, 3) := by decide +kernel
theorem d_15_26_150 : decode prog_15_method_26_code 150 = .ok (.lload 9, 2) := by decide +kernel
theorem d_15_26_152 : decode prog_15_method_26_code 152 = .ok (.ldc2_w 126, 3) := by decide +kernel
theorem d_15_26_155 : decode prog_15_method_26_code 155 = .ok (.lcmp, 1) := by decide +kernel
theorem d_15_26_156 : decode prog_15_method_26_code 156 = .ok (.ifCond .le 9, 3) := by decide +kernel
theorem d_15_26_165 : decode prog_15_method_26_code 165 = .ok (.aload_n 0, 1) := by decide +kernel
theorem d_15_26_166 : decode prog_15_method_26_code 166 = .ok (.iload_n 2, 1) := by decide +kernel
theorem d_15_26_167 : decode prog_15_method_26_code 167 = .ok (.invokevirtual 120, 3) := by decide +kernel
theorem d_15_26_170 : decode prog_15_method_26_code 170 = .ok (.ifCond .ne 18, 3) := by decide +kernel
theorem d_15_26_188 : decode prog_15_method_26_code 188 = .ok (.iconst 0, 1) := by decide +kernel
theorem d_15_26_189 : decode prog_15_method_26_code 189 = .ok (.istore 11, 2) := by decide +kernel
theorem d_15_26_191 : decode prog_15_method_26_code 191 = .ok (.aload_n 0, 1) := by decide +kernel
theorem d_15_26_192 : decode prog_15_method_26_code 192 = .ok (.iload_n 1, 1) := by decide +kernel
theorem d_15_26_193 : decode prog_15_method_26_code 193 = .ok (.invokevirtual 120, 3) := by decide +kernel
theorem d_15_26_196 : decode prog_15_method_26_code 196 = .ok (.ifCond .ne 22, 3) := by decide +kernel
theorem d_15_26_218 : decode prog_15_method_26_code 218 = .ok (.iconst 1, 1) := by decide +kernel
theorem d_15_26_219 : decode prog_15_method_26_code 219 = .ok (.goto 4, 3) := by decide +kernel
theorem d_15_26_223 : decode prog_15_method_26_code 223 = .ok (.istore 12, 2) := by decide +kernel
theorem d_15_26_225 : decode prog_15_method_26_code 225 = .ok (.iload 12, 2) := by decide +kernel
theorem d_15_26_227 : decode prog_15_method_26_code 227 = .ok (.ifCond .ne 16, 3) := by decide +kernel
theorem d_15_26_243 : decode prog_15_method_26_code 243 = .ok (.iconst 0, 1) := by decide +kernel
theorem d_15_26_244 : decode prog_15_method_26_code 244 = .ok (.istore 13, 2) := by decide +kernel
theorem d_15_26_246 : decode prog_15_method_26_code 246 = .ok (.iload 13, 2) := by decide +kernel
theorem d_15_26_248 : decode prog_15_method_26_code 248 = .ok (.ifCond .eq 7, 3) := by decide +kernel
theorem d_15_26_255 : decode prog_15_method_26_code 255 = .ok (.iload_n 1, 1) := by decide +kernel
theorem d_15_26_256 : decode prog_15_method_26_code 256 = .ok (.istore 14, 2) := by decide +kernel
theorem d_15_26_258 : decode prog_15_method_26_code 258 = .ok (.iload 13, 2) := by decide +kernel
theorem d_15_26_260 : decode prog_15_method_26_code 260 = .ok (.ifCond .eq 7, 3) := by decide +kernel
theorem d_15_26_267 : decode prog_15_method_26_code 267 = .ok (.iload_n 2, 1) := by decide +kernel
theorem d_15_26_268 : decode prog_15_method_26_code 268 = .ok (.istore 15, 2) := by decide +kernel
theorem d_15_26_270 : decode prog_15_method_26_code 270 = .ok (.lload 7, 2) := by decide +kernel
theorem d_15_26_272 : decode prog_15_method_26_code 272 = .ok (.lload 9, 2) := by decide +kernel
theorem d_15_26_274 : decode prog_15_method_26_code 274 = .ok (.lcmp, 1) := by decide +kernel
theorem d_15_26_275 : decode prog_15_method_26_code 275 = .ok (.ifCond .le 8, 3) := by decide +kernel
theorem d_15_26_283 : decode prog_15_method_26_code 283 = .ok (.lload 9, 2) := by decide +kernel
theorem d_15_26_285 : decode prog_15_method_26_code 285 = .ok (.l2i, 1) := by decide +kernel
theorem d_15_26_286 : decode prog_15_method_26_code 286 = .ok (.iconst 1, 1) := by decide +kernel
theorem d_15_26_287 : decode prog_15_method_26_code 287 = .ok (.iadd, 1) := by decide +kernel
theorem d_15_26_288 : decode prog_15_method_26_code 288 = .ok (.istore 16, 2) := by decide +kernel
theorem d_15_26_290 : decode prog_15_method_26_code 290 = .ok (.iconst 0, 1) := by decide +kernel
theorem d_15_26_291 : decode prog_15_method_26_code 291 = .ok (.istore 17, 2) := by decide +kernel
theorem d_15_26_293 : decode prog_15_method_26_code 293 = .ok (.iconst 0, 1) := by decide +kernel
theorem d_15_26_294 : decode prog_15_method_26_code 294 = .ok (.istore 18, 2) := by decide +kernel
theorem d_15_26_296 : decode prog_15_method_26_code 296 = .ok (.iload 18, 2) := by decide +kernel
theorem d_15_26_298 : decode prog_15_method_26_code 298 = .ok (.iload 16, 2) := by decide +kernel
theorem d_15_26_300 : decode prog_15_method_26_code 300 = .ok (.if_icmp .ge 90, 3) := by decide +kernel
theorem d_15_26_303 : decode prog_15_method_26_code 303 = .ok (.aload_n 0, 1) := by decide +kernel
theorem d_15_26_304 : decode prog_15_method_26_code 304 = .ok (.iload 14, 2) := by decide +kernel
theorem d_15_26_306 : decode prog_15_method_26_code 306 = .ok (.lload 5, 2) := by decide +kernel
theorem d_15_26_308 : decode prog_15_method_26_code 308 = .ok (.iload 18, 2) := by decide +kernel
theorem d_15_26_310 : decode prog_15_method_26_code 310 = .ok (.invokevirtual 128, 3) := by decide +kernel
theorem w_2785 : (Cond.code ({ cls := "NumberHouseModel$DecimalRows", name := "figure", desc := "(IJI)I" } : MethodName) prog_15_method_25_code (7 : Nat) (some .int)) ∈ q_tbl := q_of 2785 (by decide +kernel) (by decide +kernel)
theorem w_2782 : (Cond.methodLink "NumberHouseModel$DecimalRows" (128 : Nat) ({ cls := "NumberHouseModel$DecimalRows", name := "figure", desc := "(IJI)I" } : MethodName)) ∈ q_tbl := q_of 2782 (by decide +kernel) (by decide +kernel)
theorem w_2784 : (Cond.instanceMethod ({ cls := "NumberHouseModel$DecimalRows", name := "figure", desc := "(IJI)I" } : MethodName)) ∈ q_tbl := q_of 2784 (by decide +kernel) (by decide +kernel)
theorem ws_110 : Cond.selects "NumberHouseModel$DecimalRows" (⟨"NumberHouseModel$DecimalRows", "figure", "(IJI)I"⟩ : MethodName) (⟨"NumberHouseModel$DecimalRows", "figure", "(IJI)I"⟩ : MethodName) ∈ q_tbl := q_ofs 110 (by decide +kernel) (by decide +kernel)
theorem LV_DR_128 : q_LV "NumberHouseModel$DecimalRows" 128 y_DR_figure prog_15_method_25_code 7 (some .int) 3 := ⟨w_2785, w_16, w_2782, w_2784, ws_110, ⟨by decide, by decide, by decide +kernel⟩⟩
theorem d_15_26_313 : decode prog_15_method_26_code 313 = .ok (.iload 12, 2) := by decide +kernel
theorem d_15_26_315 : decode prog_15_method_26_code 315 = .ok (.ifCond .eq 16, 3) := by decide +kernel
theorem d_15_26_318 : decode prog_15_method_26_code 318 = .ok (.aload_n 0, 1) := by decide +kernel
theorem d_15_26_319 : decode prog_15_method_26_code 319 = .ok (.iload 15, 2) := by decide +kernel
theorem d_15_26_321 : decode prog_15_method_26_code 321 = .ok (.lload 5, 2) := by decide +kernel
theorem d_15_26_323 : decode prog_15_method_26_code 323 = .ok (.iload 18, 2) := by decide +kernel
theorem d_15_26_325 : decode prog_15_method_26_code 325 = .ok (.invokevirtual 128, 3) := by decide +kernel
theorem d_15_26_328 : decode prog_15_method_26_code 328 = .ok (.goto 14, 3) := by decide +kernel
theorem d_15_26_342 : decode prog_15_method_26_code 342 = .ok (.iadd, 1) := by decide +kernel
theorem d_15_26_343 : decode prog_15_method_26_code 343 = .ok (.iload 17, 2) := by decide +kernel
theorem d_15_26_345 : decode prog_15_method_26_code 345 = .ok (.iadd, 1) := by decide +kernel
theorem d_15_26_346 : decode prog_15_method_26_code 346 = .ok (.istore 19, 2) := by decide +kernel
theorem d_15_26_348 : decode prog_15_method_26_code 348 = .ok (.aload_n 0, 1) := by decide +kernel
theorem d_15_26_349 : decode prog_15_method_26_code 349 = .ok (.getfield 26, 3) := by decide +kernel
theorem d_15_26_352 : decode prog_15_method_26_code 352 = .ok (.iload 16, 2) := by decide +kernel
theorem d_15_26_354 : decode prog_15_method_26_code 354 = .ok (.iconst 1, 1) := by decide +kernel
theorem d_15_26_355 : decode prog_15_method_26_code 355 = .ok (.isub, 1) := by decide +kernel
theorem d_15_26_356 : decode prog_15_method_26_code 356 = .ok (.iload 18, 2) := by decide +kernel
theorem d_15_26_358 : decode prog_15_method_26_code 358 = .ok (.isub, 1) := by decide +kernel
theorem d_15_26_359 : decode prog_15_method_26_code 359 = .ok (.iload 19, 2) := by decide +kernel
theorem d_15_26_361 : decode prog_15_method_26_code 361 = .ok (.bipush 10, 2) := by decide +kernel
theorem d_15_26_363 : decode prog_15_method_26_code 363 = .ok (.iadd, 1) := by decide +kernel
theorem d_15_26_364 : decode prog_15_method_26_code 364 = .ok (.bipush 10, 2) := by decide +kernel
theorem d_15_26_366 : decode prog_15_method_26_code 366 = .ok (.irem, 1) := by decide +kernel
theorem d_15_26_367 : decode prog_15_method_26_code 367 = .ok (.iastore, 1) := by decide +kernel
theorem d_15_26_368 : decode prog_15_method_26_code 368 = .ok (.iload 19, 2) := by decide +kernel
theorem d_15_26_370 : decode prog_15_method_26_code 370 = .ok (.ifCond .ge 7, 3) := by decide +kernel
theorem d_15_26_377 : decode prog_15_method_26_code 377 = .ok (.iload 19, 2) := by decide +kernel
theorem d_15_26_379 : decode prog_15_method_26_code 379 = .ok (.bipush 10, 2) := by decide +kernel
theorem d_15_26_381 : decode prog_15_method_26_code 381 = .ok (.idiv, 1) := by decide +kernel
theorem d_15_26_382 : decode prog_15_method_26_code 382 = .ok (.istore 17, 2) := by decide +kernel
theorem d_15_26_384 : decode prog_15_method_26_code 384 = .ok (.iinc 18 1, 3) := by decide +kernel
theorem d_15_26_387 : decode prog_15_method_26_code 387 = .ok (.goto (-91), 3) := by decide +kernel
theorem d_15_26_390 : decode prog_15_method_26_code 390 = .ok (.aload_n 0, 1) := by decide +kernel
theorem d_15_26_391 : decode prog_15_method_26_code 391 = .ok (.iload 16, 2) := by decide +kernel
theorem d_15_26_393 : decode prog_15_method_26_code 393 = .ok (.putfield 45, 3) := by decide +kernel
theorem d_15_26_396 : decode prog_15_method_26_code 396 = .ok (.aload_n 0, 1) := by decide +kernel
theorem d_15_26_397 : decode prog_15_method_26_code 397 = .ok (.lload 5, 2) := by decide +kernel
theorem d_15_26_399 : decode prog_15_method_26_code 399 = .ok (.putfield 48, 3) := by decide +kernel
theorem d_15_26_402 : decode prog_15_method_26_code 402 = .ok (.aload_n 0, 1) := by decide +kernel
theorem d_15_26_403 : decode prog_15_method_26_code 403 = .ok (.iconst 0, 1) := by decide +kernel
theorem d_15_26_404 : decode prog_15_method_26_code 404 = .ok (.putfield 52, 3) := by decide +kernel
theorem d_15_26_407 : decode prog_15_method_26_code 407 = .ok (.aload_n 0, 1) := by decide +kernel
theorem d_15_26_408 : decode prog_15_method_26_code 408 = .ok (.aload_n 0, 1) := by decide +kernel
theorem d_15_26_409 : decode prog_15_method_26_code 409 = .ok (.iload_n 1, 1) := by decide +kernel
theorem d_15_26_410 : decode prog_15_method_26_code 410 = .ok (.invokevirtual 120, 3) := by decide +kernel
theorem d_15_26_413 : decode prog_15_method_26_code 413 = .ok (.ifCond .eq 8, 3) := by decide +kernel
theorem d_15_26_416 : decode prog_15_method_26_code 416 = .ok (.iload 11, 2) := by decide +kernel
theorem d_15_26_418 : decode prog_15_method_26_code 418 = .ok (.goto 36, 3) := by decide +kernel
theorem d_15_26_454 : decode prog_15_method_26_code 454 = .ok (.putfield 56, 3) := by decide +kernel
theorem d_15_26_457 : decode prog_15_method_26_code 457 = .ok (.aload_n 0, 1) := by decide +kernel
theorem d_15_26_458 : decode prog_15_method_26_code 458 = .ok (.iload_n 3, 1) := by decide +kernel
theorem d_15_26_459 : decode prog_15_method_26_code 459 = .ok (.invokevirtual 89, 3) := by decide +kernel
theorem d_15_26_462 : decode prog_15_method_26_code 462 = .ok (.return_, 1) := by decide +kernel
def y_DR_add : MethodName := ⟨"NumberHouseModel$DecimalRows", "add", "(IIIZ)V"⟩
set_option maxRecDepth 100000 in
set_option maxHeartbeats 4000000 in
theorem c_DR_add (l : Launch) (D : va_G) (g : Nat → ClassId) (ws : va_W) (kO0 kA2 kA3 kA4 kA5 kA6 qO0 qA1 qA2 qA3 qA4 qA5 qA6 qA7 qA8 qA9 qA10 : Nat) (x1 : Int32) (x2 : Int32) (x3 : Int32) (hO0 : ws[kO0]? = (some (qO0, .inr (14, [.int 0, .ref qA1, .int 0, .ref qA2, .ref qA3, .ref qA4, .ref qA5, .ref qA6, .int 0, .long 0, .int 0, .int 0, .ref qA7, .int 0, .ref qA8, .int 0, .ref qA9, .int 0, .ref qA10, .int 0, .int 0])) : Option (Nat × va_E))) (hA2 : ws[kA2]? = (some (qA2, .inl (g 0, 10000, .inl (fun _ => 0))) : Option (Nat × va_E))) (hA3 : ws[kA3]? = (some (qA3, .inl (g 0, 10, .inl (upd (upd (upd (upd (upd (upd (upd (upd (upd (upd (fun _ => 0) 0 1) 1 1) 2 1) 3 1) 4 1) 5 1) 6 1) 7 1) 8 1) 9 1))) : Option (Nat × va_E))) (hA4 : ws[kA4]? = (some (qA4, .inl (g 3, 10, .inl (fun _ => 0))) : Option (Nat × va_E))) (hA5 : ws[kA5]? = (some (qA5, .inl (g 0, 10, .inl (fun _ => 0))) : Option (Nat × va_E))) (hA6 : ws[kA6]? = (some (qA6, .inl (g 0, 4400, .inl (fun _ => 0))) : Option (Nat × va_E))) (n_A2_A3 : kA2 ≠ kA3) (n_A2_A4 : kA2 ≠ kA4) (n_A2_A5 : kA2 ≠ kA5) (n_A2_A6 : kA2 ≠ kA6) (n_A3_A4 : kA3 ≠ kA4) (n_A3_A5 : kA3 ≠ kA5) (n_A3_A6 : kA3 ≠ kA6) (n_A4_A5 : kA4 ≠ kA5) (n_A4_A6 : kA4 ≠ kA6) (n_A5_A6 : kA5 ≠ kA6) (x1lo : 0 ≤ x1) (x1hi : x1 ≤ 9) (x2lo : 0 ≤ x2) (x2hi : x2 ≤ 9) (x3lo : 0 ≤ x3) (x3hi : x3 ≤ 9) : q_mV l y_DR_add prog_15_method_26_code 20 3 0 0 D g [.ref qO0, .int x1, .int x2, .int x3, .int 0] ws (fun u => q_un ws u [kO0, kA2, kA3, kA4, kA5, kA6] ∧ u[kO0]? = (some (qO0, .inr (14, [.int 0, .ref qA1, .int 0, .ref qA2, .ref qA3, .ref qA4, .ref qA5, .ref qA6, .int 1, .long 0, .int 0, .int 0, .ref qA7, .int 0, .ref qA8, .int 0, .ref qA9, .int 0, .ref qA10, .int 0, .int 2])) : Option (Nat × va_E)) ∧ u[kA2]? = (some (qA2, .inl (g 0, 10000, .inl (fun _ => 0))) : Option (Nat × va_E)) ∧ u[kA3]? = (some (qA3, .inl (g 0, 10, .inl (upd (upd (upd (upd (upd (upd (upd (upd (upd (upd (upd (fun _ => 0) 0 1) 1 1) 2 1) 3 1) 4 1) 5 1) 6 1) 7 1) 8 1) 9 1) x3.toNatClampNeg 1))) : Option (Nat × va_E)) ∧ u[kA4]? = (some (qA4, .inl (g 3, 10, .inl (fun _ => 0))) : Option (Nat × va_E)) ∧ u[kA5]? = (some (qA5, .inl (g 0, 10, .inl (fun _ => 0))) : Option (Nat × va_E)) ∧ u[kA6]? = (some (qA6, .inl (g 0, 4400, .inl (fun _ => 0))) : Option (Nat × va_E))) := by
  intro sz
  refine q_into (by decide) (Nat.le_of_ble_eq_true rfl) ?_
  intro p e s m below meth c ls hsz C0 V hl
  have hx := C0.1
  have hb := C0.2.1
  have hl : lv_has ls 20 [(0, .ref qO0), (1, .int x1), (2, .int x2), (3, .int x3), (4, .int 0)] := hl
  have n_A2_O0 := q_df hA2 hO0
  have n_A3_O0 := q_df hA3 hO0
  have n_A4_O0 := q_df hA4 hO0
  have n_A5_O0 := q_df hA5 hO0
  have n_A6_O0 := q_df hA6 hO0
  have n_O0_A6 := Ne.symm (q_df hA6 hO0)
  have hF : q_un ws ws [kO0, kA2, kA3, kA4, kA5, kA6] := q_u0
  refine lv_aload_n hx hb d_15_26_0 rfl (lv_at hl 0 rfl) ?_
  refine lv_iload_n hx hb d_15_26_1 rfl (lv_at hl 1 rfl) ?_
  refine q_goi V (q_runS (As := [.int x1]) (rest := [.ref qO0]) (d := 1) (mc := 0) (ms := 0) C0 V rfl LS_DR_113 (c_DR_no l D g ws x1 x1lo x1hi _) rfl hl.1 rfl (Nat.le_of_ble_eq_true rfl) ⟨by decide, by decide⟩ ⟨Nat.le_of_ble_eq_true rfl, Nat.le_of_ble_eq_true rfl⟩ d_15_26_2) (fun v3 u2 H locs hp1 V => ?_)
  obtain ⟨rfl, rfl⟩ := hp1
  refine lv_if_ne (tgt := 22) hx hb d_15_26_5 (by decide) (fun c5 => absurd (by decide) c5) (fun c5 => ?_)
  refine lv_iload_n hx hb d_15_26_8 rfl (lv_at hl 2 rfl) ?_
  refine q_goi V (q_runS (As := [.int x2]) (rest := [.ref qO0]) (d := 1) (mc := 0) (ms := 0) C0 V rfl LS_DR_113 (c_DR_no l D g ws x2 x2lo x2hi _) rfl hl.1 rfl (Nat.le_of_ble_eq_true rfl) ⟨by decide, by decide⟩ ⟨Nat.le_of_ble_eq_true rfl, Nat.le_of_ble_eq_true rfl⟩ d_15_26_9) (fun v8 u7 H locs hp6 V => ?_)
  obtain ⟨rfl, rfl⟩ := hp6
  refine lv_if_ne (tgt := 22) hx hb d_15_26_12 (by decide) (fun c10 => absurd (by decide) c10) (fun c10 => ?_)
  refine lv_iload_n hx hb d_15_26_15 rfl (lv_at hl 3 rfl) ?_
  refine q_goi V (q_runS (As := [.int x3]) (rest := [.ref qO0]) (d := 1) (mc := 0) (ms := 0) C0 V rfl LS_DR_113 (c_DR_no l D g ws x3 x3lo x3hi _) rfl hl.1 rfl (Nat.le_of_ble_eq_true rfl) ⟨by decide, by decide⟩ ⟨Nat.le_of_ble_eq_true rfl, Nat.le_of_ble_eq_true rfl⟩ d_15_26_16) (fun v13 u12 H locs hp11 V => ?_)
  obtain ⟨rfl, rfl⟩ := hp11
  refine lv_if_eq (tgt := 26) hx hb d_15_26_19 (by decide) (fun c15 => ?_) (fun c15 => absurd (by decide) c15)
  refine lv_iconst (v := 0) hx hb d_15_26_26 (by decide) ?_
  refine q_put (ci := 14) (j := 0) (v := .int 0) (ty := .int) C0 V i_DR o_DR n_DR rfl rfl hO0 (by decide) w_1996 rfl rfl rfl rfl (Nat.le_of_ble_eq_true rfl) d_15_26_27 (fun H locs w16 hu17 hO0 V => ?_)
  replace hO0 : w16[kO0]? = (some (qO0, .inr (14, [.int 0, .ref qA1, .int 0, .ref qA2, .ref qA3, .ref qA4, .ref qA5, .ref qA6, .int 0, .long 0, .int 0, .int 0, .ref qA7, .int 0, .ref qA8, .int 0, .ref qA9, .int 0, .ref qA10, .int 0, .int 0])) : Option (Nat × va_E)) := hO0
  replace hF := q_us hF hu17 (.head _)
  refine lv_aload_n hx hb d_15_26_30 rfl (lv_at hl 0 rfl) ?_
  refine q_get (ci := 14) (j := 0) (v := .int 0) C0 V i_DR rfl rfl hO0 (by decide) w_1996 rfl d_15_26_31 ?_
  refine lv_if_le (tgt := 38) hx hb d_15_26_34 (by decide) (fun c18 => ?_) (fun c18 => absurd (by decide) c18)
  refine lv_aload_n hx hb d_15_26_38 rfl (lv_at hl 0 rfl) ?_
  refine lv_iconst (v := 2) hx hb d_15_26_39 (by decide) ?_
  refine q_put (ci := 14) (j := 20) (v := .int 2) (ty := .int) C0 V i_DR o_DR n_DR rfl rfl hO0 (by decide) w_2024 rfl rfl rfl rfl (Nat.le_of_ble_eq_true rfl) d_15_26_40 (fun H locs w19 hu20 hO0 V => ?_)
  replace hO0 : w19[kO0]? = (some (qO0, .inr (14, [.int 0, .ref qA1, .int 0, .ref qA2, .ref qA3, .ref qA4, .ref qA5, .ref qA6, .int 0, .long 0, .int 0, .int 0, .ref qA7, .int 0, .ref qA8, .int 0, .ref qA9, .int 0, .ref qA10, .int 0, .int 2])) : Option (Nat × va_E)) := hO0
  replace hF := q_us hF hu20 (.head _)
  refine lv_aload_n hx hb d_15_26_43 rfl (lv_at hl 0 rfl) ?_
  refine q_get (ci := 14) (j := 6) (v := .ref qA5) C0 V i_DR rfl rfl hO0 (by decide) w_2008 rfl d_15_26_44 ?_
  refine lv_iload_n hx hb d_15_26_47 rfl (lv_at hl 1 rfl) ?_
  replace hA5 := (hu20 _ n_A5_O0).trans ((hu17 _ n_A5_O0).trans (hA5))
  refine q_iald C0 V hA5 (q_ix (x := x1.toInt) rfl (by have t1 : 0 ≤ x1.toInt := q_leI x1lo; have t2 : x1.toInt ≤ 9 := q_leI x1hi; omega) (by have t1 : 0 ≤ x1.toInt := q_leI x1lo; have t2 : x1.toInt ≤ 9 := q_leI x1hi; omega)) d_15_26_48 ?_
  refine q_ti (v := 0) (by first | rfl | decide | simp [upd, vp_updL, sb_cl0]) ?_
  refine lv_aload_n hx hb d_15_26_49 rfl (lv_at hl 0 rfl) ?_
  refine q_get (ci := 14) (j := 6) (v := .ref qA5) C0 V i_DR rfl rfl hO0 (by decide) w_2008 rfl d_15_26_50 ?_
  refine lv_iload_n hx hb d_15_26_53 rfl (lv_at hl 2 rfl) ?_
  refine q_iald C0 V hA5 (q_ix (x := x2.toInt) rfl (by have t1 : 0 ≤ x2.toInt := q_leI x2lo; have t2 : x2.toInt ≤ 9 := q_leI x2hi; omega) (by have t1 : 0 ≤ x2.toInt := q_leI x2lo; have t2 : x2.toInt ≤ 9 := q_leI x2hi; omega)) d_15_26_54 ?_
  refine q_ti (v := 0) (by first | rfl | decide | simp [upd, vp_updL, sb_cl0]) ?_
  refine lv_icmp_le (tgt := 68) hx hb d_15_26_55 (by decide) (fun c21 => ?_) (fun c21 => absurd (by decide) c21)
  refine lv_aload_n hx hb d_15_26_68 rfl (lv_at hl 0 rfl) ?_
  refine q_get (ci := 14) (j := 6) (v := .ref qA5) C0 V i_DR rfl rfl hO0 (by decide) w_2008 rfl d_15_26_69 ?_
  refine lv_iload_n hx hb d_15_26_72 rfl (lv_at hl 2 rfl) ?_
  refine q_iald C0 V hA5 (q_ix (x := x2.toInt) rfl (by have t1 : 0 ≤ x2.toInt := q_leI x2lo; have t2 : x2.toInt ≤ 9 := q_leI x2hi; omega) (by have t1 : 0 ≤ x2.toInt := q_leI x2lo; have t2 : x2.toInt ≤ 9 := q_leI x2hi; omega)) d_15_26_73 ?_
  refine q_ti (v := 0) (by first | rfl | decide | simp [upd, vp_updL, sb_cl0]) ?_
  refine lv_i2l hx hb d_15_26_74 rfl ?_
  refine q_tl (v := 0) (by decide) ?_
  refine lv_lstore (lv' := [(5, .long 0), (0, .ref qO0), (1, .int x1), (2, .int x2), (3, .int x3), (4, .int 0)]) hx hb d_15_26_75 hl (by decide) rfl (fun ls hl => ?_)
  refine lv_aload_n hx hb d_15_26_77 rfl (lv_at hl 1 rfl) ?_
  refine lv_iload_n hx hb d_15_26_78 rfl (lv_at hl 2 rfl) ?_
  replace hA2 := (hu20 _ n_A2_O0).trans ((hu17 _ n_A2_O0).trans (hA2))
  refine q_goi V (q_runV (As := [.int x1]) (rest := []) (d := 1) (mc := 0) (ms := 0) (ci := 14) C0 V rfl LV_DR_120 (c_DR_isZero_2 l D g w19 kO0 kA2 qO0 qA1 qA2 qA3 qA4 qA5 qA6 qA7 qA8 qA9 qA10 x1 hO0 hA2 x1lo x1hi _) rfl rfl hO0 rfl hl.1 rfl (Nat.le_of_ble_eq_true rfl) ⟨by decide, by decide⟩ ⟨Nat.le_of_ble_eq_true rfl, Nat.le_of_ble_eq_true rfl⟩ d_15_26_79) (fun v24 u23 H locs hp22 V => ?_)
  obtain ⟨rfl, rfl⟩ := hp22
  refine lv_if_eq (tgt := 89) hx hb d_15_26_82 (by decide) (fun c26 => absurd c26 (by decide)) (fun c26 => ?_)
  refine lv_lconst (v := 1) hx hb d_15_26_85 (by decide) ?_
  refine lv_goto (tgt := 107) hx hb d_15_26_86 (by decide) ?_
  refine lv_lstore (lv' := [(7, .long 1), (5, .long 0), (0, .ref qO0), (1, .int x1), (2, .int x2), (3, .int x3), (4, .int 0)]) hx hb d_15_26_107 hl (by decide) rfl (fun ls hl => ?_)
  refine lv_aload_n hx hb d_15_26_109 rfl (lv_at hl 2 rfl) ?_
  refine lv_iload_n hx hb d_15_26_110 rfl (lv_at hl 4 rfl) ?_
  refine q_goi V (q_runV (As := [.int x2]) (rest := []) (d := 1) (mc := 0) (ms := 0) (ci := 14) C0 V rfl LV_DR_120 (c_DR_isZero_2 l D g w19 kO0 kA2 qO0 qA1 qA2 qA3 qA4 qA5 qA6 qA7 qA8 qA9 qA10 x2 hO0 hA2 x2lo x2hi _) rfl rfl hO0 rfl hl.1 rfl (Nat.le_of_ble_eq_true rfl) ⟨by decide, by decide⟩ ⟨Nat.le_of_ble_eq_true rfl, Nat.le_of_ble_eq_true rfl⟩ d_15_26_111) (fun v29 u28 H locs hp27 V => ?_)
  obtain ⟨rfl, rfl⟩ := hp27
  refine lv_if_eq (tgt := 121) hx hb d_15_26_114 (by decide) (fun c31 => absurd c31 (by decide)) (fun c31 => ?_)
  refine lv_lconst (v := 1) hx hb d_15_26_117 (by decide) ?_
  refine lv_goto (tgt := 139) hx hb d_15_26_118 (by decide) ?_
  refine lv_lstore (lv' := [(9, .long 1), (7, .long 1), (5, .long 0), (0, .ref qO0), (1, .int x1), (2, .int x2), (3, .int x3), (4, .int 0)]) hx hb d_15_26_139 hl (by decide) rfl (fun ls hl => ?_)
  refine lv_lload hx hb d_15_26_141 (lv_at hl 1 rfl) ?_
  refine q_ldc2 C0 rfl w_2781 d_15_26_143 ?_
  refine W.lcmp hx hb d_15_26_146 ?_
  refine q_ti (v := (-1)) (by decide) ?_
  refine lv_if_gt (tgt := 159) hx hb d_15_26_147 (by decide) (fun c32 => absurd c32 (by decide)) (fun c32 => ?_)
  refine lv_lload hx hb d_15_26_150 (lv_at hl 0 rfl) ?_
  refine q_ldc2 C0 rfl w_2781 d_15_26_152 ?_
  refine W.lcmp hx hb d_15_26_155 ?_
  refine q_ti (v := (-1)) (by decide) ?_
  refine lv_if_le (tgt := 165) hx hb d_15_26_156 (by decide) (fun c33 => ?_) (fun c33 => absurd (by decide) c33)
  refine lv_aload_n hx hb d_15_26_165 rfl (lv_at hl 3 rfl) ?_
  refine lv_iload_n hx hb d_15_26_166 rfl (lv_at hl 5 rfl) ?_
  refine q_goi V (q_runV (As := [.int x2]) (rest := []) (d := 1) (mc := 0) (ms := 0) (ci := 14) C0 V rfl LV_DR_120 (c_DR_isZero_2 l D g w19 kO0 kA2 qO0 qA1 qA2 qA3 qA4 qA5 qA6 qA7 qA8 qA9 qA10 x2 hO0 hA2 x2lo x2hi _) rfl rfl hO0 rfl hl.1 rfl (Nat.le_of_ble_eq_true rfl) ⟨by decide, by decide⟩ ⟨Nat.le_of_ble_eq_true rfl, Nat.le_of_ble_eq_true rfl⟩ d_15_26_167) (fun v36 u35 H locs hp34 V => ?_)
  obtain ⟨rfl, rfl⟩ := hp34
  refine lv_if_ne (tgt := 188) hx hb d_15_26_170 (by decide) (fun c38 => ?_) (fun c38 => absurd c38 (by decide))
  refine lv_iconst (v := 0) hx hb d_15_26_188 (by decide) ?_
  refine lv_istore (lv' := [(11, .int 0), (9, .long 1), (7, .long 1), (5, .long 0), (0, .ref qO0), (1, .int x1), (2, .int x2), (3, .int x3), (4, .int 0)]) hx hb d_15_26_189 hl (by decide) rfl (fun ls hl => ?_)
  refine lv_aload_n hx hb d_15_26_191 rfl (lv_at hl 4 rfl) ?_
  refine lv_iload_n hx hb d_15_26_192 rfl (lv_at hl 5 rfl) ?_
  refine q_goi V (q_runV (As := [.int x1]) (rest := []) (d := 1) (mc := 0) (ms := 0) (ci := 14) C0 V rfl LV_DR_120 (c_DR_isZero_2 l D g w19 kO0 kA2 qO0 qA1 qA2 qA3 qA4 qA5 qA6 qA7 qA8 qA9 qA10 x1 hO0 hA2 x1lo x1hi _) rfl rfl hO0 rfl hl.1 rfl (Nat.le_of_ble_eq_true rfl) ⟨by decide, by decide⟩ ⟨Nat.le_of_ble_eq_true rfl, Nat.le_of_ble_eq_true rfl⟩ d_15_26_193) (fun v41 u40 H locs hp39 V => ?_)
  obtain ⟨rfl, rfl⟩ := hp39
  refine lv_if_ne (tgt := 218) hx hb d_15_26_196 (by decide) (fun c43 => ?_) (fun c43 => absurd c43 (by decide))
  refine lv_iconst (v := 1) hx hb d_15_26_218 (by decide) ?_
  refine lv_goto (tgt := 223) hx hb d_15_26_219 (by decide) ?_
  refine lv_istore (lv' := [(12, .int 1), (11, .int 0), (9, .long 1), (7, .long 1), (5, .long 0), (0, .ref qO0), (1, .int x1), (2, .int x2), (3, .int x3), (4, .int 0)]) hx hb d_15_26_223 hl (by decide) rfl (fun ls hl => ?_)
  refine lv_iload hx hb d_15_26_225 (lv_at hl 0 rfl) ?_
  refine lv_if_ne (tgt := 243) hx hb d_15_26_227 (by decide) (fun c44 => ?_) (fun c44 => absurd c44 (by decide))
  refine lv_iconst (v := 0) hx hb d_15_26_243 (by decide) ?_
  refine lv_istore (lv' := [(13, .int 0), (12, .int 1), (11, .int 0), (9, .long 1), (7, .long 1), (5, .long 0), (0, .ref qO0), (1, .int x1), (2, .int x2), (3, .int x3), (4, .int 0)]) hx hb d_15_26_244 hl (by decide) rfl (fun ls hl => ?_)
  refine lv_iload hx hb d_15_26_246 (lv_at hl 0 rfl) ?_
  refine lv_if_eq (tgt := 255) hx hb d_15_26_248 (by decide) (fun c45 => ?_) (fun c45 => absurd (by decide) c45)
  refine lv_iload_n hx hb d_15_26_255 rfl (lv_at hl 7 rfl) ?_
  refine lv_istore (lv' := [(14, .int x1), (13, .int 0), (12, .int 1), (11, .int 0), (9, .long 1), (7, .long 1), (5, .long 0), (0, .ref qO0), (1, .int x1), (2, .int x2), (3, .int x3), (4, .int 0)]) hx hb d_15_26_256 hl (by decide) rfl (fun ls hl => ?_)
  refine lv_iload hx hb d_15_26_258 (lv_at hl 1 rfl) ?_
  refine lv_if_eq (tgt := 267) hx hb d_15_26_260 (by decide) (fun c46 => ?_) (fun c46 => absurd (by decide) c46)
  refine lv_iload_n hx hb d_15_26_267 rfl (lv_at hl 9 rfl) ?_
  refine lv_istore (lv' := [(15, .int x2), (14, .int x1), (13, .int 0), (12, .int 1), (11, .int 0), (9, .long 1), (7, .long 1), (5, .long 0), (0, .ref qO0), (1, .int x1), (2, .int x2), (3, .int x3), (4, .int 0)]) hx hb d_15_26_268 hl (by decide) rfl (fun ls hl => ?_)
  refine lv_lload hx hb d_15_26_270 (lv_at hl 6 rfl) ?_
  refine lv_lload hx hb d_15_26_272 (lv_at hl 5 rfl) ?_
  refine W.lcmp hx hb d_15_26_274 ?_
  refine q_ti (v := 0) (by decide) ?_
  refine lv_if_le (tgt := 283) hx hb d_15_26_275 (by decide) (fun c47 => ?_) (fun c47 => absurd (by decide) c47)
  refine lv_lload hx hb d_15_26_283 (lv_at hl 5 rfl) ?_
  refine lv_l2i hx hb d_15_26_285 rfl ?_
  refine q_ti (v := 1) (by decide) ?_
  refine lv_iconst (v := 1) hx hb d_15_26_286 (by decide) ?_
  refine lv_iadd hx hb d_15_26_287 ?_
  refine q_ti (v := 2) (by decide) ?_
  refine lv_istore (lv' := [(16, .int 2), (15, .int x2), (14, .int x1), (13, .int 0), (12, .int 1), (11, .int 0), (9, .long 1), (7, .long 1), (5, .long 0), (0, .ref qO0), (1, .int x1), (2, .int x2), (3, .int x3), (4, .int 0)]) hx hb d_15_26_288 hl (by decide) rfl (fun ls hl => ?_)
  refine lv_iconst (v := 0) hx hb d_15_26_290 (by decide) ?_
  refine lv_istore (lv' := [(17, .int 0), (16, .int 2), (15, .int x2), (14, .int x1), (13, .int 0), (12, .int 1), (11, .int 0), (9, .long 1), (7, .long 1), (5, .long 0), (0, .ref qO0), (1, .int x1), (2, .int x2), (3, .int x3), (4, .int 0)]) hx hb d_15_26_291 hl (by decide) rfl (fun ls hl => ?_)
  refine lv_iconst (v := 0) hx hb d_15_26_293 (by decide) ?_
  refine lv_istore (lv' := [(18, .int 0), (17, .int 0), (16, .int 2), (15, .int x2), (14, .int x1), (13, .int 0), (12, .int 1), (11, .int 0), (9, .long 1), (7, .long 1), (5, .long 0), (0, .ref qO0), (1, .int x1), (2, .int x2), (3, .int x3), (4, .int 0)]) hx hb d_15_26_294 hl (by decide) rfl (fun ls hl => ?_)
  refine lv_iload hx hb d_15_26_296 (lv_at hl 0 rfl) ?_
  refine lv_iload hx hb d_15_26_298 (lv_at hl 2 rfl) ?_
  refine lv_icmp_ge (tgt := 390) hx hb d_15_26_300 (by decide) (fun c48 => absurd c48 (by decide)) (fun c48 => ?_)
  refine lv_aload_n hx hb d_15_26_303 rfl (lv_at hl 11 rfl) ?_
  refine lv_iload hx hb d_15_26_304 (lv_at hl 4 rfl) ?_
  refine lv_lload hx hb d_15_26_306 (lv_at hl 10 rfl) ?_
  refine lv_iload hx hb d_15_26_308 (lv_at hl 0 rfl) ?_
  replace hA3 := (hu20 _ n_A3_O0).trans ((hu17 _ n_A3_O0).trans (hA3))
  refine q_goi V (q_runV (As := [.int x1, .long 0, .int 0]) (rest := []) (d := 1) (mc := 0) (ms := 0) (ci := 14) C0 V rfl LV_DR_128 (c_DR_figure l D g w19 kO0 kA2 kA3 kA5 qO0 qA1 qA2 qA3 qA4 qA5 qA6 qA7 qA8 qA9 qA10 x1 hO0 hA2 hA3 hA5 x1lo x1hi _) rfl rfl hO0 rfl hl.1 rfl (Nat.le_of_ble_eq_true rfl) ⟨by decide, by decide⟩ ⟨Nat.le_of_ble_eq_true rfl, Nat.le_of_ble_eq_true rfl⟩ d_15_26_310) (fun v51 u50 H locs hp49 V => ?_)
  obtain ⟨rfl, rfl⟩ := hp49
  refine lv_iload hx hb d_15_26_313 (lv_at hl 6 rfl) ?_
  refine lv_if_eq (tgt := 331) hx hb d_15_26_315 (by decide) (fun c53 => absurd c53 (by decide)) (fun c53 => ?_)
  refine lv_aload_n hx hb d_15_26_318 rfl (lv_at hl 11 rfl) ?_
  refine lv_iload hx hb d_15_26_319 (lv_at hl 3 rfl) ?_
  refine lv_lload hx hb d_15_26_321 (lv_at hl 10 rfl) ?_
  refine lv_iload hx hb d_15_26_323 (lv_at hl 0 rfl) ?_
  refine q_goi V (q_runV (As := [.int x2, .long 0, .int 0]) (rest := [.int 0]) (d := 1) (mc := 0) (ms := 0) (ci := 14) C0 V rfl LV_DR_128 (c_DR_figure l D g w19 kO0 kA2 kA3 kA5 qO0 qA1 qA2 qA3 qA4 qA5 qA6 qA7 qA8 qA9 qA10 x2 hO0 hA2 hA3 hA5 x2lo x2hi _) rfl rfl hO0 rfl hl.1 rfl (Nat.le_of_ble_eq_true rfl) ⟨by decide, by decide⟩ ⟨Nat.le_of_ble_eq_true rfl, Nat.le_of_ble_eq_true rfl⟩ d_15_26_325) (fun v56 u55 H locs hp54 V => ?_)
  obtain ⟨rfl, rfl⟩ := hp54
  refine lv_goto (tgt := 342) hx hb d_15_26_328 (by decide) ?_
  refine lv_iadd hx hb d_15_26_342 ?_
  refine q_ti (v := 0) (by decide) ?_
  refine lv_iload hx hb d_15_26_343 (lv_at hl 1 rfl) ?_
  refine lv_iadd hx hb d_15_26_345 ?_
  refine q_ti (v := 0) (by decide) ?_
  refine lv_istore (lv' := [(19, .int 0), (18, .int 0), (17, .int 0), (16, .int 2), (15, .int x2), (14, .int x1), (13, .int 0), (12, .int 1), (11, .int 0), (9, .long 1), (7, .long 1), (5, .long 0), (0, .ref qO0), (1, .int x1), (2, .int x2), (3, .int x3), (4, .int 0)]) hx hb d_15_26_346 hl (by decide) rfl (fun ls hl => ?_)
  refine lv_aload_n hx hb d_15_26_348 rfl (lv_at hl 12 rfl) ?_
  refine q_get (ci := 14) (j := 7) (v := .ref qA6) C0 V i_DR rfl rfl hO0 (by decide) w_2010 rfl d_15_26_349 ?_
  refine lv_iload hx hb d_15_26_352 (lv_at hl 3 rfl) ?_
  refine lv_iconst (v := 1) hx hb d_15_26_354 (by decide) ?_
  refine lv_isub hx hb d_15_26_355 ?_
  refine q_ti (v := 1) (by decide) ?_
  refine lv_iload hx hb d_15_26_356 (lv_at hl 1 rfl) ?_
  refine lv_isub hx hb d_15_26_358 ?_
  refine q_ti (v := 1) (by decide) ?_
  refine lv_iload hx hb d_15_26_359 (lv_at hl 0 rfl) ?_
  refine lv_bipush (v := 10) hx hb d_15_26_361 (by decide) ?_
  refine lv_iadd hx hb d_15_26_363 ?_
  refine q_ti (v := 10) (by decide) ?_
  refine lv_bipush (v := 10) hx hb d_15_26_364 (by decide) ?_
  refine lv_irem hx hb d_15_26_366 (by decide) ?_
  refine q_ti (v := 0) (by decide) ?_
  replace hA6 := (hu20 _ n_A6_O0).trans ((hu17 _ n_A6_O0).trans (hA6))
  refine q_iast C0 V hA6 (by unfold vp_in; decide) d_15_26_367 (fun H locs w58 hu59 hA6 V => ?_)
  replace hA6 := q_re (y := (qA6, .inl (g 0, 4400, .inl (fun _ => 0)))) hA6 (q_eI q_upd0)
  replace hA6 : w58[kA6]? = (some (qA6, .inl (g 0, 4400, .inl (fun _ => 0))) : Option (Nat × va_E)) := hA6
  replace hF := q_us hF hu59 (List.mem_of_getElem? (i := 5) rfl)
  refine lv_iload hx hb d_15_26_368 (lv_at hl 0 rfl) ?_
  refine lv_if_ge (tgt := 377) hx hb d_15_26_370 (by decide) (fun c60 => ?_) (fun c60 => absurd (by decide) c60)
  refine lv_iload hx hb d_15_26_377 (lv_at hl 0 rfl) ?_
  refine lv_bipush (v := 10) hx hb d_15_26_379 (by decide) ?_
  refine lv_idiv hx hb d_15_26_381 (by decide) ?_
  refine q_ti (v := 0) (by decide) ?_
  refine lv_istore (lv' := [(17, .int 0), (19, .int 0), (18, .int 0), (16, .int 2), (15, .int x2), (14, .int x1), (13, .int 0), (12, .int 1), (11, .int 0), (9, .long 1), (7, .long 1), (5, .long 0), (0, .ref qO0), (1, .int x1), (2, .int x2), (3, .int x3), (4, .int 0)]) hx hb d_15_26_382 hl (by decide) rfl (fun ls hl => ?_)
  refine lv_iinc (v := 1) (lv' := [(18, .int 1), (17, .int 0), (19, .int 0), (16, .int 2), (15, .int x2), (14, .int x1), (13, .int 0), (12, .int 1), (11, .int 0), (9, .long 1), (7, .long 1), (5, .long 0), (0, .ref qO0), (1, .int x1), (2, .int x2), (3, .int x3), (4, .int 0)]) hx hb d_15_26_384 hl (k := 2) rfl (by decide) (by decide) rfl (fun ls hl => ?_)
  refine lv_goto (tgt := 296) hx hb d_15_26_387 (by decide) ?_
  refine lv_iload hx hb d_15_26_296 (lv_at hl 0 rfl) ?_
  refine lv_iload hx hb d_15_26_298 (lv_at hl 3 rfl) ?_
  refine lv_icmp_ge (tgt := 390) hx hb d_15_26_300 (by decide) (fun c61 => absurd c61 (by decide)) (fun c61 => ?_)
  refine lv_aload_n hx hb d_15_26_303 rfl (lv_at hl 12 rfl) ?_
  refine lv_iload hx hb d_15_26_304 (lv_at hl 5 rfl) ?_
  refine lv_lload hx hb d_15_26_306 (lv_at hl 11 rfl) ?_
  refine lv_iload hx hb d_15_26_308 (lv_at hl 0 rfl) ?_
  replace hO0 := (hu59 _ n_O0_A6).trans (hO0)
  replace hA3 := (hu59 _ n_A3_A6).trans (hA3)
  replace hA5 := (hu59 _ n_A5_A6).trans (hA5)
  refine q_goi V (q_runV (As := [.int x1, .long 0, .int 1]) (rest := []) (d := 1) (mc := 0) (ms := 0) (ci := 14) C0 V rfl LV_DR_128 (c_DR_figure_2 l D g w58 kO0 kA3 kA5 qO0 qA1 qA2 qA3 qA4 qA5 qA6 qA7 qA8 qA9 qA10 x1 hO0 hA3 hA5 x1lo x1hi _) rfl rfl hO0 rfl hl.1 rfl (Nat.le_of_ble_eq_true rfl) ⟨by decide, by decide⟩ ⟨Nat.le_of_ble_eq_true rfl, Nat.le_of_ble_eq_true rfl⟩ d_15_26_310) (fun v64 u63 H locs hp62 V => ?_)
  obtain ⟨rfl, rfl⟩ := hp62
  refine lv_iload hx hb d_15_26_313 (lv_at hl 7 rfl) ?_
  refine lv_if_eq (tgt := 331) hx hb d_15_26_315 (by decide) (fun c66 => absurd c66 (by decide)) (fun c66 => ?_)
  refine lv_aload_n hx hb d_15_26_318 rfl (lv_at hl 12 rfl) ?_
  refine lv_iload hx hb d_15_26_319 (lv_at hl 4 rfl) ?_
  refine lv_lload hx hb d_15_26_321 (lv_at hl 11 rfl) ?_
  refine lv_iload hx hb d_15_26_323 (lv_at hl 0 rfl) ?_
  refine q_goi V (q_runV (As := [.int x2, .long 0, .int 1]) (rest := [.int 0]) (d := 1) (mc := 0) (ms := 0) (ci := 14) C0 V rfl LV_DR_128 (c_DR_figure_2 l D g w58 kO0 kA3 kA5 qO0 qA1 qA2 qA3 qA4 qA5 qA6 qA7 qA8 qA9 qA10 x2 hO0 hA3 hA5 x2lo x2hi _) rfl rfl hO0 rfl hl.1 rfl (Nat.le_of_ble_eq_true rfl) ⟨by decide, by decide⟩ ⟨Nat.le_of_ble_eq_true rfl, Nat.le_of_ble_eq_true rfl⟩ d_15_26_325) (fun v69 u68 H locs hp67 V => ?_)
  obtain ⟨rfl, rfl⟩ := hp67
  refine lv_goto (tgt := 342) hx hb d_15_26_328 (by decide) ?_
  refine lv_iadd hx hb d_15_26_342 ?_
  refine q_ti (v := 0) (by decide) ?_
  refine lv_iload hx hb d_15_26_343 (lv_at hl 1 rfl) ?_
  refine lv_iadd hx hb d_15_26_345 ?_
  refine q_ti (v := 0) (by decide) ?_
  refine lv_istore (lv' := [(19, .int 0), (18, .int 1), (17, .int 0), (16, .int 2), (15, .int x2), (14, .int x1), (13, .int 0), (12, .int 1), (11, .int 0), (9, .long 1), (7, .long 1), (5, .long 0), (0, .ref qO0), (1, .int x1), (2, .int x2), (3, .int x3), (4, .int 0)]) hx hb d_15_26_346 hl (by decide) rfl (fun ls hl => ?_)
  refine lv_aload_n hx hb d_15_26_348 rfl (lv_at hl 12 rfl) ?_
  refine q_get (ci := 14) (j := 7) (v := .ref qA6) C0 V i_DR rfl rfl hO0 (by decide) w_2010 rfl d_15_26_349 ?_
  refine lv_iload hx hb d_15_26_352 (lv_at hl 3 rfl) ?_
  refine lv_iconst (v := 1) hx hb d_15_26_354 (by decide) ?_
  refine lv_isub hx hb d_15_26_355 ?_
  refine q_ti (v := 1) (by decide) ?_
  refine lv_iload hx hb d_15_26_356 (lv_at hl 1 rfl) ?_
  refine lv_isub hx hb d_15_26_358 ?_
  refine q_ti (v := 0) (by decide) ?_
  refine lv_iload hx hb d_15_26_359 (lv_at hl 0 rfl) ?_
  refine lv_bipush (v := 10) hx hb d_15_26_361 (by decide) ?_
  refine lv_iadd hx hb d_15_26_363 ?_
  refine q_ti (v := 10) (by decide) ?_
  refine lv_bipush (v := 10) hx hb d_15_26_364 (by decide) ?_
  refine lv_irem hx hb d_15_26_366 (by decide) ?_
  refine q_ti (v := 0) (by decide) ?_
  refine q_iast C0 V hA6 (by unfold vp_in; decide) d_15_26_367 (fun H locs w71 hu72 hA6 V => ?_)
  replace hA6 := q_re (y := (qA6, .inl (g 0, 4400, .inl (fun _ => 0)))) hA6 (q_eI q_upd0)
  replace hA6 : w71[kA6]? = (some (qA6, .inl (g 0, 4400, .inl (fun _ => 0))) : Option (Nat × va_E)) := hA6
  replace hF := q_us hF hu72 (List.mem_of_getElem? (i := 5) rfl)
  refine lv_iload hx hb d_15_26_368 (lv_at hl 0 rfl) ?_
  refine lv_if_ge (tgt := 377) hx hb d_15_26_370 (by decide) (fun c73 => ?_) (fun c73 => absurd (by decide) c73)
  refine lv_iload hx hb d_15_26_377 (lv_at hl 0 rfl) ?_
  refine lv_bipush (v := 10) hx hb d_15_26_379 (by decide) ?_
  refine lv_idiv hx hb d_15_26_381 (by decide) ?_
  refine q_ti (v := 0) (by decide) ?_
  refine lv_istore (lv' := [(17, .int 0), (19, .int 0), (18, .int 1), (16, .int 2), (15, .int x2), (14, .int x1), (13, .int 0), (12, .int 1), (11, .int 0), (9, .long 1), (7, .long 1), (5, .long 0), (0, .ref qO0), (1, .int x1), (2, .int x2), (3, .int x3), (4, .int 0)]) hx hb d_15_26_382 hl (by decide) rfl (fun ls hl => ?_)
  refine lv_iinc (v := 2) (lv' := [(18, .int 2), (17, .int 0), (19, .int 0), (16, .int 2), (15, .int x2), (14, .int x1), (13, .int 0), (12, .int 1), (11, .int 0), (9, .long 1), (7, .long 1), (5, .long 0), (0, .ref qO0), (1, .int x1), (2, .int x2), (3, .int x3), (4, .int 0)]) hx hb d_15_26_384 hl (k := 2) rfl (by decide) (by decide) rfl (fun ls hl => ?_)
  refine lv_goto (tgt := 296) hx hb d_15_26_387 (by decide) ?_
  refine lv_iload hx hb d_15_26_296 (lv_at hl 0 rfl) ?_
  refine lv_iload hx hb d_15_26_298 (lv_at hl 3 rfl) ?_
  refine lv_icmp_ge (tgt := 390) hx hb d_15_26_300 (by decide) (fun c74 => ?_) (fun c74 => absurd (by decide) c74)
  refine lv_aload_n hx hb d_15_26_390 rfl (lv_at hl 12 rfl) ?_
  refine lv_iload hx hb d_15_26_391 (lv_at hl 3 rfl) ?_
  replace hO0 := (hu72 _ n_O0_A6).trans (hO0)
  refine q_put (ci := 14) (j := 8) (v := .int 2) (ty := .int) C0 V i_DR o_DR n_DR rfl rfl hO0 (by decide) w_2011 rfl rfl rfl rfl (Nat.le_of_ble_eq_true rfl) d_15_26_393 (fun H locs w75 hu76 hO0 V => ?_)
  replace hO0 : w75[kO0]? = (some (qO0, .inr (14, [.int 0, .ref qA1, .int 0, .ref qA2, .ref qA3, .ref qA4, .ref qA5, .ref qA6, .int 2, .long 0, .int 0, .int 0, .ref qA7, .int 0, .ref qA8, .int 0, .ref qA9, .int 0, .ref qA10, .int 0, .int 2])) : Option (Nat × va_E)) := hO0
  replace hF := q_us hF hu76 (.head _)
  refine lv_aload_n hx hb d_15_26_396 rfl (lv_at hl 12 rfl) ?_
  refine lv_lload hx hb d_15_26_397 (lv_at hl 11 rfl) ?_
  refine q_put (ci := 14) (j := 9) (v := .long 0) (ty := .long) C0 V i_DR o_DR n_DR rfl rfl hO0 (by decide) w_2012 rfl rfl rfl rfl (Nat.le_of_ble_eq_true rfl) d_15_26_399 (fun H locs w77 hu78 hO0 V => ?_)
  replace hO0 : w77[kO0]? = (some (qO0, .inr (14, [.int 0, .ref qA1, .int 0, .ref qA2, .ref qA3, .ref qA4, .ref qA5, .ref qA6, .int 2, .long 0, .int 0, .int 0, .ref qA7, .int 0, .ref qA8, .int 0, .ref qA9, .int 0, .ref qA10, .int 0, .int 2])) : Option (Nat × va_E)) := hO0
  replace hF := q_us hF hu78 (.head _)
  refine lv_aload_n hx hb d_15_26_402 rfl (lv_at hl 12 rfl) ?_
  refine lv_iconst (v := 0) hx hb d_15_26_403 (by decide) ?_
  refine q_put (ci := 14) (j := 10) (v := .int 0) (ty := .boolean) C0 V i_DR o_DR n_DR rfl rfl hO0 (by decide) w_2013 rfl rfl rfl rfl (Nat.le_of_ble_eq_true rfl) d_15_26_404 (fun H locs w79 hu80 hO0 V => ?_)
  replace hO0 : w79[kO0]? = (some (qO0, .inr (14, [.int 0, .ref qA1, .int 0, .ref qA2, .ref qA3, .ref qA4, .ref qA5, .ref qA6, .int 2, .long 0, .int 0, .int 0, .ref qA7, .int 0, .ref qA8, .int 0, .ref qA9, .int 0, .ref qA10, .int 0, .int 2])) : Option (Nat × va_E)) := hO0
  replace hF := q_us hF hu80 (.head _)
  refine lv_aload_n hx hb d_15_26_407 rfl (lv_at hl 12 rfl) ?_
  refine lv_aload_n hx hb d_15_26_408 rfl (lv_at hl 12 rfl) ?_
  refine lv_iload_n hx hb d_15_26_409 rfl (lv_at hl 13 rfl) ?_
  replace hA2 := (hu80 _ n_A2_O0).trans ((hu78 _ n_A2_O0).trans ((hu76 _ n_A2_O0).trans ((hu72 _ n_A2_A6).trans ((hu59 _ n_A2_A6).trans (hA2)))))
  refine q_goi V (q_runV (As := [.int x1]) (rest := [.ref qO0]) (d := 1) (mc := 0) (ms := 0) (ci := 14) C0 V rfl LV_DR_120 (c_DR_isZero_3 l D g w79 kO0 kA2 qO0 qA1 qA2 qA3 qA4 qA5 qA6 qA7 qA8 qA9 qA10 x1 hO0 hA2 x1lo x1hi _) rfl rfl hO0 rfl hl.1 rfl (Nat.le_of_ble_eq_true rfl) ⟨by decide, by decide⟩ ⟨Nat.le_of_ble_eq_true rfl, Nat.le_of_ble_eq_true rfl⟩ d_15_26_410) (fun v83 u82 H locs hp81 V => ?_)
  obtain ⟨rfl, rfl⟩ := hp81
  refine lv_if_eq (tgt := 421) hx hb d_15_26_413 (by decide) (fun c85 => absurd c85 (by decide)) (fun c85 => ?_)
  refine lv_iload hx hb d_15_26_416 (lv_at hl 8 rfl) ?_
  refine lv_goto (tgt := 454) hx hb d_15_26_418 (by decide) ?_
  refine q_put (ci := 14) (j := 11) (v := .int 0) (ty := .boolean) C0 V i_DR o_DR n_DR rfl rfl hO0 (by decide) w_2014 rfl rfl rfl rfl (Nat.le_of_ble_eq_true rfl) d_15_26_454 (fun H locs w86 hu87 hO0 V => ?_)
  replace hO0 : w86[kO0]? = (some (qO0, .inr (14, [.int 0, .ref qA1, .int 0, .ref qA2, .ref qA3, .ref qA4, .ref qA5, .ref qA6, .int 2, .long 0, .int 0, .int 0, .ref qA7, .int 0, .ref qA8, .int 0, .ref qA9, .int 0, .ref qA10, .int 0, .int 2])) : Option (Nat × va_E)) := hO0
  replace hF := q_us hF hu87 (.head _)
  refine lv_aload_n hx hb d_15_26_457 rfl (lv_at hl 12 rfl) ?_
  refine lv_iload_n hx hb d_15_26_458 rfl (lv_at hl 15 rfl) ?_
  replace hA2 := (hu87 _ n_A2_O0).trans (hA2)
  replace hA3 := (hu87 _ n_A3_O0).trans ((hu80 _ n_A3_O0).trans ((hu78 _ n_A3_O0).trans ((hu76 _ n_A3_O0).trans ((hu72 _ n_A3_A6).trans (hA3)))))
  replace hA4 := (hu87 _ n_A4_O0).trans ((hu80 _ n_A4_O0).trans ((hu78 _ n_A4_O0).trans ((hu76 _ n_A4_O0).trans ((hu72 _ n_A4_A6).trans ((hu59 _ n_A4_A6).trans ((hu20 _ n_A4_O0).trans ((hu17 _ n_A4_O0).trans (hA4))))))))
  replace hA5 := (hu87 _ n_A5_O0).trans ((hu80 _ n_A5_O0).trans ((hu78 _ n_A5_O0).trans ((hu76 _ n_A5_O0).trans ((hu72 _ n_A5_A6).trans (hA5)))))
  replace hA6 := (hu87 _ n_A6_O0).trans ((hu80 _ n_A6_O0).trans ((hu78 _ n_A6_O0).trans ((hu76 _ n_A6_O0).trans (hA6))))
  refine q_gov V (q_runV (As := [.int x3]) (rest := []) (d := 2) (mc := 0) (ms := 0) (ci := 14) C0 V rfl LV_DR_89 (c_DR_store_2 l D g w86 kO0 kA2 kA3 kA4 kA5 kA6 qO0 qA1 qA2 qA3 qA4 qA5 qA6 qA7 qA8 qA9 qA10 x3 hO0 hA2 hA3 hA4 hA5 hA6 n_A2_A3 n_A2_A4 n_A2_A5 n_A2_A6 n_A3_A4 n_A3_A5 n_A3_A6 n_A4_A5 n_A4_A6 n_A5_A6 x3lo x3hi _) rfl rfl hO0 rfl hl.1 rfl (Nat.le_of_ble_eq_true rfl) ⟨by decide, by decide⟩ ⟨Nat.le_of_ble_eq_true rfl, Nat.le_of_ble_eq_true rfl⟩ d_15_26_459) (fun u89 H locs hp88 V => ?_)
  obtain ⟨hg90, hO0, hA2, hA3, hA4, hA5, hA6⟩ := hp88
  replace hF := q_uc hF hg90 (q_sc (.head _) (q_sc (.tail _ (.head _)) (q_sc (.tail _ (.tail _ (.head _))) (q_sc (List.mem_of_getElem? (i := 3) rfl) (q_sc (List.mem_of_getElem? (i := 4) rfl) (q_sc (List.mem_of_getElem? (i := 5) rfl) (fun _ h => absurd h List.not_mem_nil)))))))
  exact q_retv C0 V (⟨hF, hO0, hA2, hA3, hA4, hA5, hA6⟩) d_15_26_462
set_option maxRecDepth 100000 in
set_option maxHeartbeats 4000000 in
theorem c_DR_add_2 (l : Launch) (D : va_G) (g : Nat → ClassId) (ws : va_W) (kO0 kA2 kA3 kA4 kA5 kA6 qO0 qA1 qA2 qA3 qA4 qA5 qA6 qA7 qA8 qA9 qA10 : Nat) (x1 : Int32) (x2 : Int32) (x3 : Int32) (hO0 : ws[kO0]? = (some (qO0, .inr (14, [.int 0, .ref qA1, .int 0, .ref qA2, .ref qA3, .ref qA4, .ref qA5, .ref qA6, .int 0, .long 0, .int 0, .int 0, .ref qA7, .int 0, .ref qA8, .int 0, .ref qA9, .int 0, .ref qA10, .int 0, .int 0])) : Option (Nat × va_E))) (hA2 : ws[kA2]? = (some (qA2, .inl (g 0, 10000, .inl (fun _ => 0))) : Option (Nat × va_E))) (hA3 : ws[kA3]? = (some (qA3, .inl (g 0, 10, .inl (upd (upd (upd (upd (upd (upd (upd (upd (upd (upd (fun _ => 0) 0 1) 1 1) 2 1) 3 1) 4 1) 5 1) 6 1) 7 1) 8 1) 9 1))) : Option (Nat × va_E))) (hA4 : ws[kA4]? = (some (qA4, .inl (g 3, 10, .inl (fun _ => 0))) : Option (Nat × va_E))) (hA5 : ws[kA5]? = (some (qA5, .inl (g 0, 10, .inl (fun _ => 0))) : Option (Nat × va_E))) (hA6 : ws[kA6]? = (some (qA6, .inl (g 0, 4400, .inl (fun _ => 0))) : Option (Nat × va_E))) (n_A2_A3 : kA2 ≠ kA3) (n_A2_A4 : kA2 ≠ kA4) (n_A2_A5 : kA2 ≠ kA5) (n_A2_A6 : kA2 ≠ kA6) (n_A3_A4 : kA3 ≠ kA4) (n_A3_A5 : kA3 ≠ kA5) (n_A3_A6 : kA3 ≠ kA6) (n_A4_A5 : kA4 ≠ kA5) (n_A4_A6 : kA4 ≠ kA6) (n_A5_A6 : kA5 ≠ kA6) (x1lo : 0 ≤ x1) (x1hi : x1 ≤ 9) (x2lo : 0 ≤ x2) (x2hi : x2 ≤ 9) (x3lo : 0 ≤ x3) (x3hi : x3 ≤ 9) : q_mV l y_DR_add prog_15_method_26_code 20 3 0 0 D g [.ref qO0, .int x1, .int x2, .int x3, .int 1] ws (fun u => q_un ws u [kO0, kA2, kA3, kA4, kA5, kA6] ∧ u[kO0]? = (some (qO0, .inr (14, [.int 0, .ref qA1, .int 0, .ref qA2, .ref qA3, .ref qA4, .ref qA5, .ref qA6, .int 1, .long 0, .int 0, .int 0, .ref qA7, .int 0, .ref qA8, .int 0, .ref qA9, .int 0, .ref qA10, .int 0, .int 2])) : Option (Nat × va_E)) ∧ u[kA2]? = (some (qA2, .inl (g 0, 10000, .inl (fun _ => 0))) : Option (Nat × va_E)) ∧ u[kA3]? = (some (qA3, .inl (g 0, 10, .inl (upd (upd (upd (upd (upd (upd (upd (upd (upd (upd (upd (fun _ => 0) 0 1) 1 1) 2 1) 3 1) 4 1) 5 1) 6 1) 7 1) 8 1) 9 1) x3.toNatClampNeg 1))) : Option (Nat × va_E)) ∧ u[kA4]? = (some (qA4, .inl (g 3, 10, .inl (fun _ => 0))) : Option (Nat × va_E)) ∧ u[kA5]? = (some (qA5, .inl (g 0, 10, .inl (fun _ => 0))) : Option (Nat × va_E)) ∧ u[kA6]? = (some (qA6, .inl (g 0, 4400, .inl (fun _ => 0))) : Option (Nat × va_E))) := by
  intro sz
  refine q_into (by decide) (Nat.le_of_ble_eq_true rfl) ?_
  intro p e s m below meth c ls hsz C0 V hl
  have hx := C0.1
  have hb := C0.2.1
  have hl : lv_has ls 20 [(0, .ref qO0), (1, .int x1), (2, .int x2), (3, .int x3), (4, .int 1)] := hl
  have n_A2_O0 := q_df hA2 hO0
  have n_A3_O0 := q_df hA3 hO0
  have n_A4_O0 := q_df hA4 hO0
  have n_A5_O0 := q_df hA5 hO0
  have n_A6_O0 := q_df hA6 hO0
  have n_O0_A6 := Ne.symm (q_df hA6 hO0)
  have hF : q_un ws ws [kO0, kA2, kA3, kA4, kA5, kA6] := q_u0
  refine lv_aload_n hx hb d_15_26_0 rfl (lv_at hl 0 rfl) ?_
  refine lv_iload_n hx hb d_15_26_1 rfl (lv_at hl 1 rfl) ?_
  refine q_goi V (q_runS (As := [.int x1]) (rest := [.ref qO0]) (d := 1) (mc := 0) (ms := 0) C0 V rfl LS_DR_113 (c_DR_no l D g ws x1 x1lo x1hi _) rfl hl.1 rfl (Nat.le_of_ble_eq_true rfl) ⟨by decide, by decide⟩ ⟨Nat.le_of_ble_eq_true rfl, Nat.le_of_ble_eq_true rfl⟩ d_15_26_2) (fun v3 u2 H locs hp1 V => ?_)
  obtain ⟨rfl, rfl⟩ := hp1
  refine lv_if_ne (tgt := 22) hx hb d_15_26_5 (by decide) (fun c5 => absurd (by decide) c5) (fun c5 => ?_)
  refine lv_iload_n hx hb d_15_26_8 rfl (lv_at hl 2 rfl) ?_
  refine q_goi V (q_runS (As := [.int x2]) (rest := [.ref qO0]) (d := 1) (mc := 0) (ms := 0) C0 V rfl LS_DR_113 (c_DR_no l D g ws x2 x2lo x2hi _) rfl hl.1 rfl (Nat.le_of_ble_eq_true rfl) ⟨by decide, by decide⟩ ⟨Nat.le_of_ble_eq_true rfl, Nat.le_of_ble_eq_true rfl⟩ d_15_26_9) (fun v8 u7 H locs hp6 V => ?_)
  obtain ⟨rfl, rfl⟩ := hp6
  refine lv_if_ne (tgt := 22) hx hb d_15_26_12 (by decide) (fun c10 => absurd (by decide) c10) (fun c10 => ?_)
  refine lv_iload_n hx hb d_15_26_15 rfl (lv_at hl 3 rfl) ?_
  refine q_goi V (q_runS (As := [.int x3]) (rest := [.ref qO0]) (d := 1) (mc := 0) (ms := 0) C0 V rfl LS_DR_113 (c_DR_no l D g ws x3 x3lo x3hi _) rfl hl.1 rfl (Nat.le_of_ble_eq_true rfl) ⟨by decide, by decide⟩ ⟨Nat.le_of_ble_eq_true rfl, Nat.le_of_ble_eq_true rfl⟩ d_15_26_16) (fun v13 u12 H locs hp11 V => ?_)
  obtain ⟨rfl, rfl⟩ := hp11
  refine lv_if_eq (tgt := 26) hx hb d_15_26_19 (by decide) (fun c15 => ?_) (fun c15 => absurd (by decide) c15)
  refine lv_iconst (v := 0) hx hb d_15_26_26 (by decide) ?_
  refine q_put (ci := 14) (j := 0) (v := .int 0) (ty := .int) C0 V i_DR o_DR n_DR rfl rfl hO0 (by decide) w_1996 rfl rfl rfl rfl (Nat.le_of_ble_eq_true rfl) d_15_26_27 (fun H locs w16 hu17 hO0 V => ?_)
  replace hO0 : w16[kO0]? = (some (qO0, .inr (14, [.int 0, .ref qA1, .int 0, .ref qA2, .ref qA3, .ref qA4, .ref qA5, .ref qA6, .int 0, .long 0, .int 0, .int 0, .ref qA7, .int 0, .ref qA8, .int 0, .ref qA9, .int 0, .ref qA10, .int 0, .int 0])) : Option (Nat × va_E)) := hO0
  replace hF := q_us hF hu17 (.head _)
  refine lv_aload_n hx hb d_15_26_30 rfl (lv_at hl 0 rfl) ?_
  refine q_get (ci := 14) (j := 0) (v := .int 0) C0 V i_DR rfl rfl hO0 (by decide) w_1996 rfl d_15_26_31 ?_
  refine lv_if_le (tgt := 38) hx hb d_15_26_34 (by decide) (fun c18 => ?_) (fun c18 => absurd (by decide) c18)
  refine lv_aload_n hx hb d_15_26_38 rfl (lv_at hl 0 rfl) ?_
  refine lv_iconst (v := 2) hx hb d_15_26_39 (by decide) ?_
  refine q_put (ci := 14) (j := 20) (v := .int 2) (ty := .int) C0 V i_DR o_DR n_DR rfl rfl hO0 (by decide) w_2024 rfl rfl rfl rfl (Nat.le_of_ble_eq_true rfl) d_15_26_40 (fun H locs w19 hu20 hO0 V => ?_)
  replace hO0 : w19[kO0]? = (some (qO0, .inr (14, [.int 0, .ref qA1, .int 0, .ref qA2, .ref qA3, .ref qA4, .ref qA5, .ref qA6, .int 0, .long 0, .int 0, .int 0, .ref qA7, .int 0, .ref qA8, .int 0, .ref qA9, .int 0, .ref qA10, .int 0, .int 2])) : Option (Nat × va_E)) := hO0
  replace hF := q_us hF hu20 (.head _)
  refine lv_aload_n hx hb d_15_26_43 rfl (lv_at hl 0 rfl) ?_
  refine q_get (ci := 14) (j := 6) (v := .ref qA5) C0 V i_DR rfl rfl hO0 (by decide) w_2008 rfl d_15_26_44 ?_
  refine lv_iload_n hx hb d_15_26_47 rfl (lv_at hl 1 rfl) ?_
  replace hA5 := (hu20 _ n_A5_O0).trans ((hu17 _ n_A5_O0).trans (hA5))
  refine q_iald C0 V hA5 (q_ix (x := x1.toInt) rfl (by have t1 : 0 ≤ x1.toInt := q_leI x1lo; have t2 : x1.toInt ≤ 9 := q_leI x1hi; omega) (by have t1 : 0 ≤ x1.toInt := q_leI x1lo; have t2 : x1.toInt ≤ 9 := q_leI x1hi; omega)) d_15_26_48 ?_
  refine q_ti (v := 0) (by first | rfl | decide | simp [upd, vp_updL, sb_cl0]) ?_
  refine lv_aload_n hx hb d_15_26_49 rfl (lv_at hl 0 rfl) ?_
  refine q_get (ci := 14) (j := 6) (v := .ref qA5) C0 V i_DR rfl rfl hO0 (by decide) w_2008 rfl d_15_26_50 ?_
  refine lv_iload_n hx hb d_15_26_53 rfl (lv_at hl 2 rfl) ?_
  refine q_iald C0 V hA5 (q_ix (x := x2.toInt) rfl (by have t1 : 0 ≤ x2.toInt := q_leI x2lo; have t2 : x2.toInt ≤ 9 := q_leI x2hi; omega) (by have t1 : 0 ≤ x2.toInt := q_leI x2lo; have t2 : x2.toInt ≤ 9 := q_leI x2hi; omega)) d_15_26_54 ?_
  refine q_ti (v := 0) (by first | rfl | decide | simp [upd, vp_updL, sb_cl0]) ?_
  refine lv_icmp_le (tgt := 68) hx hb d_15_26_55 (by decide) (fun c21 => ?_) (fun c21 => absurd (by decide) c21)
  refine lv_aload_n hx hb d_15_26_68 rfl (lv_at hl 0 rfl) ?_
  refine q_get (ci := 14) (j := 6) (v := .ref qA5) C0 V i_DR rfl rfl hO0 (by decide) w_2008 rfl d_15_26_69 ?_
  refine lv_iload_n hx hb d_15_26_72 rfl (lv_at hl 2 rfl) ?_
  refine q_iald C0 V hA5 (q_ix (x := x2.toInt) rfl (by have t1 : 0 ≤ x2.toInt := q_leI x2lo; have t2 : x2.toInt ≤ 9 := q_leI x2hi; omega) (by have t1 : 0 ≤ x2.toInt := q_leI x2lo; have t2 : x2.toInt ≤ 9 := q_leI x2hi; omega)) d_15_26_73 ?_
  refine q_ti (v := 0) (by first | rfl | decide | simp [upd, vp_updL, sb_cl0]) ?_
  refine lv_i2l hx hb d_15_26_74 rfl ?_
  refine q_tl (v := 0) (by decide) ?_
  refine lv_lstore (lv' := [(5, .long 0), (0, .ref qO0), (1, .int x1), (2, .int x2), (3, .int x3), (4, .int 1)]) hx hb d_15_26_75 hl (by decide) rfl (fun ls hl => ?_)
  refine lv_aload_n hx hb d_15_26_77 rfl (lv_at hl 1 rfl) ?_
  refine lv_iload_n hx hb d_15_26_78 rfl (lv_at hl 2 rfl) ?_
  replace hA2 := (hu20 _ n_A2_O0).trans ((hu17 _ n_A2_O0).trans (hA2))
  refine q_goi V (q_runV (As := [.int x1]) (rest := []) (d := 1) (mc := 0) (ms := 0) (ci := 14) C0 V rfl LV_DR_120 (c_DR_isZero_2 l D g w19 kO0 kA2 qO0 qA1 qA2 qA3 qA4 qA5 qA6 qA7 qA8 qA9 qA10 x1 hO0 hA2 x1lo x1hi _) rfl rfl hO0 rfl hl.1 rfl (Nat.le_of_ble_eq_true rfl) ⟨by decide, by decide⟩ ⟨Nat.le_of_ble_eq_true rfl, Nat.le_of_ble_eq_true rfl⟩ d_15_26_79) (fun v24 u23 H locs hp22 V => ?_)
  obtain ⟨rfl, rfl⟩ := hp22
  refine lv_if_eq (tgt := 89) hx hb d_15_26_82 (by decide) (fun c26 => absurd c26 (by decide)) (fun c26 => ?_)
  refine lv_lconst (v := 1) hx hb d_15_26_85 (by decide) ?_
  refine lv_goto (tgt := 107) hx hb d_15_26_86 (by decide) ?_
  refine lv_lstore (lv' := [(7, .long 1), (5, .long 0), (0, .ref qO0), (1, .int x1), (2, .int x2), (3, .int x3), (4, .int 1)]) hx hb d_15_26_107 hl (by decide) rfl (fun ls hl => ?_)
  refine lv_aload_n hx hb d_15_26_109 rfl (lv_at hl 2 rfl) ?_
  refine lv_iload_n hx hb d_15_26_110 rfl (lv_at hl 4 rfl) ?_
  refine q_goi V (q_runV (As := [.int x2]) (rest := []) (d := 1) (mc := 0) (ms := 0) (ci := 14) C0 V rfl LV_DR_120 (c_DR_isZero_2 l D g w19 kO0 kA2 qO0 qA1 qA2 qA3 qA4 qA5 qA6 qA7 qA8 qA9 qA10 x2 hO0 hA2 x2lo x2hi _) rfl rfl hO0 rfl hl.1 rfl (Nat.le_of_ble_eq_true rfl) ⟨by decide, by decide⟩ ⟨Nat.le_of_ble_eq_true rfl, Nat.le_of_ble_eq_true rfl⟩ d_15_26_111) (fun v29 u28 H locs hp27 V => ?_)
  obtain ⟨rfl, rfl⟩ := hp27
  refine lv_if_eq (tgt := 121) hx hb d_15_26_114 (by decide) (fun c31 => absurd c31 (by decide)) (fun c31 => ?_)
  refine lv_lconst (v := 1) hx hb d_15_26_117 (by decide) ?_
  refine lv_goto (tgt := 139) hx hb d_15_26_118 (by decide) ?_
  refine lv_lstore (lv' := [(9, .long 1), (7, .long 1), (5, .long 0), (0, .ref qO0), (1, .int x1), (2, .int x2), (3, .int x3), (4, .int 1)]) hx hb d_15_26_139 hl (by decide) rfl (fun ls hl => ?_)
  refine lv_lload hx hb d_15_26_141 (lv_at hl 1 rfl) ?_
  refine q_ldc2 C0 rfl w_2781 d_15_26_143 ?_
  refine W.lcmp hx hb d_15_26_146 ?_
  refine q_ti (v := (-1)) (by decide) ?_
  refine lv_if_gt (tgt := 159) hx hb d_15_26_147 (by decide) (fun c32 => absurd c32 (by decide)) (fun c32 => ?_)
  refine lv_lload hx hb d_15_26_150 (lv_at hl 0 rfl) ?_
  refine q_ldc2 C0 rfl w_2781 d_15_26_152 ?_
  refine W.lcmp hx hb d_15_26_155 ?_
  refine q_ti (v := (-1)) (by decide) ?_
  refine lv_if_le (tgt := 165) hx hb d_15_26_156 (by decide) (fun c33 => ?_) (fun c33 => absurd (by decide) c33)
  refine lv_aload_n hx hb d_15_26_165 rfl (lv_at hl 3 rfl) ?_
  refine lv_iload_n hx hb d_15_26_166 rfl (lv_at hl 5 rfl) ?_
  refine q_goi V (q_runV (As := [.int x2]) (rest := []) (d := 1) (mc := 0) (ms := 0) (ci := 14) C0 V rfl LV_DR_120 (c_DR_isZero_2 l D g w19 kO0 kA2 qO0 qA1 qA2 qA3 qA4 qA5 qA6 qA7 qA8 qA9 qA10 x2 hO0 hA2 x2lo x2hi _) rfl rfl hO0 rfl hl.1 rfl (Nat.le_of_ble_eq_true rfl) ⟨by decide, by decide⟩ ⟨Nat.le_of_ble_eq_true rfl, Nat.le_of_ble_eq_true rfl⟩ d_15_26_167) (fun v36 u35 H locs hp34 V => ?_)
  obtain ⟨rfl, rfl⟩ := hp34
  refine lv_if_ne (tgt := 188) hx hb d_15_26_170 (by decide) (fun c38 => ?_) (fun c38 => absurd c38 (by decide))
  refine lv_iconst (v := 0) hx hb d_15_26_188 (by decide) ?_
  refine lv_istore (lv' := [(11, .int 0), (9, .long 1), (7, .long 1), (5, .long 0), (0, .ref qO0), (1, .int x1), (2, .int x2), (3, .int x3), (4, .int 1)]) hx hb d_15_26_189 hl (by decide) rfl (fun ls hl => ?_)
  refine lv_aload_n hx hb d_15_26_191 rfl (lv_at hl 4 rfl) ?_
  refine lv_iload_n hx hb d_15_26_192 rfl (lv_at hl 5 rfl) ?_
  refine q_goi V (q_runV (As := [.int x1]) (rest := []) (d := 1) (mc := 0) (ms := 0) (ci := 14) C0 V rfl LV_DR_120 (c_DR_isZero_2 l D g w19 kO0 kA2 qO0 qA1 qA2 qA3 qA4 qA5 qA6 qA7 qA8 qA9 qA10 x1 hO0 hA2 x1lo x1hi _) rfl rfl hO0 rfl hl.1 rfl (Nat.le_of_ble_eq_true rfl) ⟨by decide, by decide⟩ ⟨Nat.le_of_ble_eq_true rfl, Nat.le_of_ble_eq_true rfl⟩ d_15_26_193) (fun v41 u40 H locs hp39 V => ?_)
  obtain ⟨rfl, rfl⟩ := hp39
  refine lv_if_ne (tgt := 218) hx hb d_15_26_196 (by decide) (fun c43 => ?_) (fun c43 => absurd c43 (by decide))
  refine lv_iconst (v := 1) hx hb d_15_26_218 (by decide) ?_
  refine lv_goto (tgt := 223) hx hb d_15_26_219 (by decide) ?_
  refine lv_istore (lv' := [(12, .int 1), (11, .int 0), (9, .long 1), (7, .long 1), (5, .long 0), (0, .ref qO0), (1, .int x1), (2, .int x2), (3, .int x3), (4, .int 1)]) hx hb d_15_26_223 hl (by decide) rfl (fun ls hl => ?_)
  refine lv_iload hx hb d_15_26_225 (lv_at hl 0 rfl) ?_
  refine lv_if_ne (tgt := 243) hx hb d_15_26_227 (by decide) (fun c44 => ?_) (fun c44 => absurd c44 (by decide))
  refine lv_iconst (v := 0) hx hb d_15_26_243 (by decide) ?_
  refine lv_istore (lv' := [(13, .int 0), (12, .int 1), (11, .int 0), (9, .long 1), (7, .long 1), (5, .long 0), (0, .ref qO0), (1, .int x1), (2, .int x2), (3, .int x3), (4, .int 1)]) hx hb d_15_26_244 hl (by decide) rfl (fun ls hl => ?_)
  refine lv_iload hx hb d_15_26_246 (lv_at hl 0 rfl) ?_
  refine lv_if_eq (tgt := 255) hx hb d_15_26_248 (by decide) (fun c45 => ?_) (fun c45 => absurd (by decide) c45)
  refine lv_iload_n hx hb d_15_26_255 rfl (lv_at hl 7 rfl) ?_
  refine lv_istore (lv' := [(14, .int x1), (13, .int 0), (12, .int 1), (11, .int 0), (9, .long 1), (7, .long 1), (5, .long 0), (0, .ref qO0), (1, .int x1), (2, .int x2), (3, .int x3), (4, .int 1)]) hx hb d_15_26_256 hl (by decide) rfl (fun ls hl => ?_)
  refine lv_iload hx hb d_15_26_258 (lv_at hl 1 rfl) ?_
  refine lv_if_eq (tgt := 267) hx hb d_15_26_260 (by decide) (fun c46 => ?_) (fun c46 => absurd (by decide) c46)
  refine lv_iload_n hx hb d_15_26_267 rfl (lv_at hl 9 rfl) ?_
  refine lv_istore (lv' := [(15, .int x2), (14, .int x1), (13, .int 0), (12, .int 1), (11, .int 0), (9, .long 1), (7, .long 1), (5, .long 0), (0, .ref qO0), (1, .int x1), (2, .int x2), (3, .int x3), (4, .int 1)]) hx hb d_15_26_268 hl (by decide) rfl (fun ls hl => ?_)
  refine lv_lload hx hb d_15_26_270 (lv_at hl 6 rfl) ?_
  refine lv_lload hx hb d_15_26_272 (lv_at hl 5 rfl) ?_
  refine W.lcmp hx hb d_15_26_274 ?_
  refine q_ti (v := 0) (by decide) ?_
  refine lv_if_le (tgt := 283) hx hb d_15_26_275 (by decide) (fun c47 => ?_) (fun c47 => absurd (by decide) c47)
  refine lv_lload hx hb d_15_26_283 (lv_at hl 5 rfl) ?_
  refine lv_l2i hx hb d_15_26_285 rfl ?_
  refine q_ti (v := 1) (by decide) ?_
  refine lv_iconst (v := 1) hx hb d_15_26_286 (by decide) ?_
  refine lv_iadd hx hb d_15_26_287 ?_
  refine q_ti (v := 2) (by decide) ?_
  refine lv_istore (lv' := [(16, .int 2), (15, .int x2), (14, .int x1), (13, .int 0), (12, .int 1), (11, .int 0), (9, .long 1), (7, .long 1), (5, .long 0), (0, .ref qO0), (1, .int x1), (2, .int x2), (3, .int x3), (4, .int 1)]) hx hb d_15_26_288 hl (by decide) rfl (fun ls hl => ?_)
  refine lv_iconst (v := 0) hx hb d_15_26_290 (by decide) ?_
  refine lv_istore (lv' := [(17, .int 0), (16, .int 2), (15, .int x2), (14, .int x1), (13, .int 0), (12, .int 1), (11, .int 0), (9, .long 1), (7, .long 1), (5, .long 0), (0, .ref qO0), (1, .int x1), (2, .int x2), (3, .int x3), (4, .int 1)]) hx hb d_15_26_291 hl (by decide) rfl (fun ls hl => ?_)
  refine lv_iconst (v := 0) hx hb d_15_26_293 (by decide) ?_
  refine lv_istore (lv' := [(18, .int 0), (17, .int 0), (16, .int 2), (15, .int x2), (14, .int x1), (13, .int 0), (12, .int 1), (11, .int 0), (9, .long 1), (7, .long 1), (5, .long 0), (0, .ref qO0), (1, .int x1), (2, .int x2), (3, .int x3), (4, .int 1)]) hx hb d_15_26_294 hl (by decide) rfl (fun ls hl => ?_)
  refine lv_iload hx hb d_15_26_296 (lv_at hl 0 rfl) ?_
  refine lv_iload hx hb d_15_26_298 (lv_at hl 2 rfl) ?_
  refine lv_icmp_ge (tgt := 390) hx hb d_15_26_300 (by decide) (fun c48 => absurd c48 (by decide)) (fun c48 => ?_)
  refine lv_aload_n hx hb d_15_26_303 rfl (lv_at hl 11 rfl) ?_
  refine lv_iload hx hb d_15_26_304 (lv_at hl 4 rfl) ?_
  refine lv_lload hx hb d_15_26_306 (lv_at hl 10 rfl) ?_
  refine lv_iload hx hb d_15_26_308 (lv_at hl 0 rfl) ?_
  replace hA3 := (hu20 _ n_A3_O0).trans ((hu17 _ n_A3_O0).trans (hA3))
  refine q_goi V (q_runV (As := [.int x1, .long 0, .int 0]) (rest := []) (d := 1) (mc := 0) (ms := 0) (ci := 14) C0 V rfl LV_DR_128 (c_DR_figure l D g w19 kO0 kA2 kA3 kA5 qO0 qA1 qA2 qA3 qA4 qA5 qA6 qA7 qA8 qA9 qA10 x1 hO0 hA2 hA3 hA5 x1lo x1hi _) rfl rfl hO0 rfl hl.1 rfl (Nat.le_of_ble_eq_true rfl) ⟨by decide, by decide⟩ ⟨Nat.le_of_ble_eq_true rfl, Nat.le_of_ble_eq_true rfl⟩ d_15_26_310) (fun v51 u50 H locs hp49 V => ?_)
  obtain ⟨rfl, rfl⟩ := hp49
  refine lv_iload hx hb d_15_26_313 (lv_at hl 6 rfl) ?_
  refine lv_if_eq (tgt := 331) hx hb d_15_26_315 (by decide) (fun c53 => absurd c53 (by decide)) (fun c53 => ?_)
  refine lv_aload_n hx hb d_15_26_318 rfl (lv_at hl 11 rfl) ?_
  refine lv_iload hx hb d_15_26_319 (lv_at hl 3 rfl) ?_
  refine lv_lload hx hb d_15_26_321 (lv_at hl 10 rfl) ?_
  refine lv_iload hx hb d_15_26_323 (lv_at hl 0 rfl) ?_
  refine q_goi V (q_runV (As := [.int x2, .long 0, .int 0]) (rest := [.int 0]) (d := 1) (mc := 0) (ms := 0) (ci := 14) C0 V rfl LV_DR_128 (c_DR_figure l D g w19 kO0 kA2 kA3 kA5 qO0 qA1 qA2 qA3 qA4 qA5 qA6 qA7 qA8 qA9 qA10 x2 hO0 hA2 hA3 hA5 x2lo x2hi _) rfl rfl hO0 rfl hl.1 rfl (Nat.le_of_ble_eq_true rfl) ⟨by decide, by decide⟩ ⟨Nat.le_of_ble_eq_true rfl, Nat.le_of_ble_eq_true rfl⟩ d_15_26_325) (fun v56 u55 H locs hp54 V => ?_)
  obtain ⟨rfl, rfl⟩ := hp54
  refine lv_goto (tgt := 342) hx hb d_15_26_328 (by decide) ?_
  refine lv_iadd hx hb d_15_26_342 ?_
  refine q_ti (v := 0) (by decide) ?_
  refine lv_iload hx hb d_15_26_343 (lv_at hl 1 rfl) ?_
  refine lv_iadd hx hb d_15_26_345 ?_
  refine q_ti (v := 0) (by decide) ?_
  refine lv_istore (lv' := [(19, .int 0), (18, .int 0), (17, .int 0), (16, .int 2), (15, .int x2), (14, .int x1), (13, .int 0), (12, .int 1), (11, .int 0), (9, .long 1), (7, .long 1), (5, .long 0), (0, .ref qO0), (1, .int x1), (2, .int x2), (3, .int x3), (4, .int 1)]) hx hb d_15_26_346 hl (by decide) rfl (fun ls hl => ?_)
  refine lv_aload_n hx hb d_15_26_348 rfl (lv_at hl 12 rfl) ?_
  refine q_get (ci := 14) (j := 7) (v := .ref qA6) C0 V i_DR rfl rfl hO0 (by decide) w_2010 rfl d_15_26_349 ?_
  refine lv_iload hx hb d_15_26_352 (lv_at hl 3 rfl) ?_
  refine lv_iconst (v := 1) hx hb d_15_26_354 (by decide) ?_
  refine lv_isub hx hb d_15_26_355 ?_
  refine q_ti (v := 1) (by decide) ?_
  refine lv_iload hx hb d_15_26_356 (lv_at hl 1 rfl) ?_
  refine lv_isub hx hb d_15_26_358 ?_
  refine q_ti (v := 1) (by decide) ?_
  refine lv_iload hx hb d_15_26_359 (lv_at hl 0 rfl) ?_
  refine lv_bipush (v := 10) hx hb d_15_26_361 (by decide) ?_
  refine lv_iadd hx hb d_15_26_363 ?_
  refine q_ti (v := 10) (by decide) ?_
  refine lv_bipush (v := 10) hx hb d_15_26_364 (by decide) ?_
  refine lv_irem hx hb d_15_26_366 (by decide) ?_
  refine q_ti (v := 0) (by decide) ?_
  replace hA6 := (hu20 _ n_A6_O0).trans ((hu17 _ n_A6_O0).trans (hA6))
  refine q_iast C0 V hA6 (by unfold vp_in; decide) d_15_26_367 (fun H locs w58 hu59 hA6 V => ?_)
  replace hA6 := q_re (y := (qA6, .inl (g 0, 4400, .inl (fun _ => 0)))) hA6 (q_eI q_upd0)
  replace hA6 : w58[kA6]? = (some (qA6, .inl (g 0, 4400, .inl (fun _ => 0))) : Option (Nat × va_E)) := hA6
  replace hF := q_us hF hu59 (List.mem_of_getElem? (i := 5) rfl)
  refine lv_iload hx hb d_15_26_368 (lv_at hl 0 rfl) ?_
  refine lv_if_ge (tgt := 377) hx hb d_15_26_370 (by decide) (fun c60 => ?_) (fun c60 => absurd (by decide) c60)
  refine lv_iload hx hb d_15_26_377 (lv_at hl 0 rfl) ?_
  refine lv_bipush (v := 10) hx hb d_15_26_379 (by decide) ?_
  refine lv_idiv hx hb d_15_26_381 (by decide) ?_
  refine q_ti (v := 0) (by decide) ?_
  refine lv_istore (lv' := [(17, .int 0), (19, .int 0), (18, .int 0), (16, .int 2), (15, .int x2), (14, .int x1), (13, .int 0), (12, .int 1), (11, .int 0), (9, .long 1), (7, .long 1), (5, .long 0), (0, .ref qO0), (1, .int x1), (2, .int x2), (3, .int x3), (4, .int 1)]) hx hb d_15_26_382 hl (by decide) rfl (fun ls hl => ?_)
  refine lv_iinc (v := 1) (lv' := [(18, .int 1), (17, .int 0), (19, .int 0), (16, .int 2), (15, .int x2), (14, .int x1), (13, .int 0), (12, .int 1), (11, .int 0), (9, .long 1), (7, .long 1), (5, .long 0), (0, .ref qO0), (1, .int x1), (2, .int x2), (3, .int x3), (4, .int 1)]) hx hb d_15_26_384 hl (k := 2) rfl (by decide) (by decide) rfl (fun ls hl => ?_)
  refine lv_goto (tgt := 296) hx hb d_15_26_387 (by decide) ?_
  refine lv_iload hx hb d_15_26_296 (lv_at hl 0 rfl) ?_
  refine lv_iload hx hb d_15_26_298 (lv_at hl 3 rfl) ?_
  refine lv_icmp_ge (tgt := 390) hx hb d_15_26_300 (by decide) (fun c61 => absurd c61 (by decide)) (fun c61 => ?_)
  refine lv_aload_n hx hb d_15_26_303 rfl (lv_at hl 12 rfl) ?_
  refine lv_iload hx hb d_15_26_304 (lv_at hl 5 rfl) ?_
  refine lv_lload hx hb d_15_26_306 (lv_at hl 11 rfl) ?_
  refine lv_iload hx hb d_15_26_308 (lv_at hl 0 rfl) ?_
  replace hO0 := (hu59 _ n_O0_A6).trans (hO0)
  replace hA3 := (hu59 _ n_A3_A6).trans (hA3)
  replace hA5 := (hu59 _ n_A5_A6).trans (hA5)
  refine q_goi V (q_runV (As := [.int x1, .long 0, .int 1]) (rest := []) (d := 1) (mc := 0) (ms := 0) (ci := 14) C0 V rfl LV_DR_128 (c_DR_figure_2 l D g w58 kO0 kA3 kA5 qO0 qA1 qA2 qA3 qA4 qA5 qA6 qA7 qA8 qA9 qA10 x1 hO0 hA3 hA5 x1lo x1hi _) rfl rfl hO0 rfl hl.1 rfl (Nat.le_of_ble_eq_true rfl) ⟨by decide, by decide⟩ ⟨Nat.le_of_ble_eq_true rfl, Nat.le_of_ble_eq_true rfl⟩ d_15_26_310) (fun v64 u63 H locs hp62 V => ?_)
  obtain ⟨rfl, rfl⟩ := hp62
  refine lv_iload hx hb d_15_26_313 (lv_at hl 7 rfl) ?_
  refine lv_if_eq (tgt := 331) hx hb d_15_26_315 (by decide) (fun c66 => absurd c66 (by decide)) (fun c66 => ?_)
  refine lv_aload_n hx hb d_15_26_318 rfl (lv_at hl 12 rfl) ?_
  refine lv_iload hx hb d_15_26_319 (lv_at hl 4 rfl) ?_
  refine lv_lload hx hb d_15_26_321 (lv_at hl 11 rfl) ?_
  refine lv_iload hx hb d_15_26_323 (lv_at hl 0 rfl) ?_
  refine q_goi V (q_runV (As := [.int x2, .long 0, .int 1]) (rest := [.int 0]) (d := 1) (mc := 0) (ms := 0) (ci := 14) C0 V rfl LV_DR_128 (c_DR_figure_2 l D g w58 kO0 kA3 kA5 qO0 qA1 qA2 qA3 qA4 qA5 qA6 qA7 qA8 qA9 qA10 x2 hO0 hA3 hA5 x2lo x2hi _) rfl rfl hO0 rfl hl.1 rfl (Nat.le_of_ble_eq_true rfl) ⟨by decide, by decide⟩ ⟨Nat.le_of_ble_eq_true rfl, Nat.le_of_ble_eq_true rfl⟩ d_15_26_325) (fun v69 u68 H locs hp67 V => ?_)
  obtain ⟨rfl, rfl⟩ := hp67
  refine lv_goto (tgt := 342) hx hb d_15_26_328 (by decide) ?_
  refine lv_iadd hx hb d_15_26_342 ?_
  refine q_ti (v := 0) (by decide) ?_
  refine lv_iload hx hb d_15_26_343 (lv_at hl 1 rfl) ?_
  refine lv_iadd hx hb d_15_26_345 ?_
  refine q_ti (v := 0) (by decide) ?_
  refine lv_istore (lv' := [(19, .int 0), (18, .int 1), (17, .int 0), (16, .int 2), (15, .int x2), (14, .int x1), (13, .int 0), (12, .int 1), (11, .int 0), (9, .long 1), (7, .long 1), (5, .long 0), (0, .ref qO0), (1, .int x1), (2, .int x2), (3, .int x3), (4, .int 1)]) hx hb d_15_26_346 hl (by decide) rfl (fun ls hl => ?_)
  refine lv_aload_n hx hb d_15_26_348 rfl (lv_at hl 12 rfl) ?_
  refine q_get (ci := 14) (j := 7) (v := .ref qA6) C0 V i_DR rfl rfl hO0 (by decide) w_2010 rfl d_15_26_349 ?_
  refine lv_iload hx hb d_15_26_352 (lv_at hl 3 rfl) ?_
  refine lv_iconst (v := 1) hx hb d_15_26_354 (by decide) ?_
  refine lv_isub hx hb d_15_26_355 ?_
  refine q_ti (v := 1) (by decide) ?_
  refine lv_iload hx hb d_15_26_356 (lv_at hl 1 rfl) ?_
  refine lv_isub hx hb d_15_26_358 ?_
  refine q_ti (v := 0) (by decide) ?_
  refine lv_iload hx hb d_15_26_359 (lv_at hl 0 rfl) ?_
  refine lv_bipush (v := 10) hx hb d_15_26_361 (by decide) ?_
  refine lv_iadd hx hb d_15_26_363 ?_
  refine q_ti (v := 10) (by decide) ?_
  refine lv_bipush (v := 10) hx hb d_15_26_364 (by decide) ?_
  refine lv_irem hx hb d_15_26_366 (by decide) ?_
  refine q_ti (v := 0) (by decide) ?_
  refine q_iast C0 V hA6 (by unfold vp_in; decide) d_15_26_367 (fun H locs w71 hu72 hA6 V => ?_)
  replace hA6 := q_re (y := (qA6, .inl (g 0, 4400, .inl (fun _ => 0)))) hA6 (q_eI q_upd0)
  replace hA6 : w71[kA6]? = (some (qA6, .inl (g 0, 4400, .inl (fun _ => 0))) : Option (Nat × va_E)) := hA6
  replace hF := q_us hF hu72 (List.mem_of_getElem? (i := 5) rfl)
  refine lv_iload hx hb d_15_26_368 (lv_at hl 0 rfl) ?_
  refine lv_if_ge (tgt := 377) hx hb d_15_26_370 (by decide) (fun c73 => ?_) (fun c73 => absurd (by decide) c73)
  refine lv_iload hx hb d_15_26_377 (lv_at hl 0 rfl) ?_
  refine lv_bipush (v := 10) hx hb d_15_26_379 (by decide) ?_
  refine lv_idiv hx hb d_15_26_381 (by decide) ?_
  refine q_ti (v := 0) (by decide) ?_
  refine lv_istore (lv' := [(17, .int 0), (19, .int 0), (18, .int 1), (16, .int 2), (15, .int x2), (14, .int x1), (13, .int 0), (12, .int 1), (11, .int 0), (9, .long 1), (7, .long 1), (5, .long 0), (0, .ref qO0), (1, .int x1), (2, .int x2), (3, .int x3), (4, .int 1)]) hx hb d_15_26_382 hl (by decide) rfl (fun ls hl => ?_)
  refine lv_iinc (v := 2) (lv' := [(18, .int 2), (17, .int 0), (19, .int 0), (16, .int 2), (15, .int x2), (14, .int x1), (13, .int 0), (12, .int 1), (11, .int 0), (9, .long 1), (7, .long 1), (5, .long 0), (0, .ref qO0), (1, .int x1), (2, .int x2), (3, .int x3), (4, .int 1)]) hx hb d_15_26_384 hl (k := 2) rfl (by decide) (by decide) rfl (fun ls hl => ?_)
  refine lv_goto (tgt := 296) hx hb d_15_26_387 (by decide) ?_
  refine lv_iload hx hb d_15_26_296 (lv_at hl 0 rfl) ?_
  refine lv_iload hx hb d_15_26_298 (lv_at hl 3 rfl) ?_
  refine lv_icmp_ge (tgt := 390) hx hb d_15_26_300 (by decide) (fun c74 => ?_) (fun c74 => absurd (by decide) c74)
  refine lv_aload_n hx hb d_15_26_390 rfl (lv_at hl 12 rfl) ?_
  refine lv_iload hx hb d_15_26_391 (lv_at hl 3 rfl) ?_
  replace hO0 := (hu72 _ n_O0_A6).trans (hO0)
  refine q_put (ci := 14) (j := 8) (v := .int 2) (ty := .int) C0 V i_DR o_DR n_DR rfl rfl hO0 (by decide) w_2011 rfl rfl rfl rfl (Nat.le_of_ble_eq_true rfl) d_15_26_393 (fun H locs w75 hu76 hO0 V => ?_)
  replace hO0 : w75[kO0]? = (some (qO0, .inr (14, [.int 0, .ref qA1, .int 0, .ref qA2, .ref qA3, .ref qA4, .ref qA5, .ref qA6, .int 2, .long 0, .int 0, .int 0, .ref qA7, .int 0, .ref qA8, .int 0, .ref qA9, .int 0, .ref qA10, .int 0, .int 2])) : Option (Nat × va_E)) := hO0
  replace hF := q_us hF hu76 (.head _)
  refine lv_aload_n hx hb d_15_26_396 rfl (lv_at hl 12 rfl) ?_
  refine lv_lload hx hb d_15_26_397 (lv_at hl 11 rfl) ?_
  refine q_put (ci := 14) (j := 9) (v := .long 0) (ty := .long) C0 V i_DR o_DR n_DR rfl rfl hO0 (by decide) w_2012 rfl rfl rfl rfl (Nat.le_of_ble_eq_true rfl) d_15_26_399 (fun H locs w77 hu78 hO0 V => ?_)
  replace hO0 : w77[kO0]? = (some (qO0, .inr (14, [.int 0, .ref qA1, .int 0, .ref qA2, .ref qA3, .ref qA4, .ref qA5, .ref qA6, .int 2, .long 0, .int 0, .int 0, .ref qA7, .int 0, .ref qA8, .int 0, .ref qA9, .int 0, .ref qA10, .int 0, .int 2])) : Option (Nat × va_E)) := hO0
  replace hF := q_us hF hu78 (.head _)
  refine lv_aload_n hx hb d_15_26_402 rfl (lv_at hl 12 rfl) ?_
  refine lv_iconst (v := 0) hx hb d_15_26_403 (by decide) ?_
  refine q_put (ci := 14) (j := 10) (v := .int 0) (ty := .boolean) C0 V i_DR o_DR n_DR rfl rfl hO0 (by decide) w_2013 rfl rfl rfl rfl (Nat.le_of_ble_eq_true rfl) d_15_26_404 (fun H locs w79 hu80 hO0 V => ?_)
  replace hO0 : w79[kO0]? = (some (qO0, .inr (14, [.int 0, .ref qA1, .int 0, .ref qA2, .ref qA3, .ref qA4, .ref qA5, .ref qA6, .int 2, .long 0, .int 0, .int 0, .ref qA7, .int 0, .ref qA8, .int 0, .ref qA9, .int 0, .ref qA10, .int 0, .int 2])) : Option (Nat × va_E)) := hO0
  replace hF := q_us hF hu80 (.head _)
  refine lv_aload_n hx hb d_15_26_407 rfl (lv_at hl 12 rfl) ?_
  refine lv_aload_n hx hb d_15_26_408 rfl (lv_at hl 12 rfl) ?_
  refine lv_iload_n hx hb d_15_26_409 rfl (lv_at hl 13 rfl) ?_
  replace hA2 := (hu80 _ n_A2_O0).trans ((hu78 _ n_A2_O0).trans ((hu76 _ n_A2_O0).trans ((hu72 _ n_A2_A6).trans ((hu59 _ n_A2_A6).trans (hA2)))))
  refine q_goi V (q_runV (As := [.int x1]) (rest := [.ref qO0]) (d := 1) (mc := 0) (ms := 0) (ci := 14) C0 V rfl LV_DR_120 (c_DR_isZero_3 l D g w79 kO0 kA2 qO0 qA1 qA2 qA3 qA4 qA5 qA6 qA7 qA8 qA9 qA10 x1 hO0 hA2 x1lo x1hi _) rfl rfl hO0 rfl hl.1 rfl (Nat.le_of_ble_eq_true rfl) ⟨by decide, by decide⟩ ⟨Nat.le_of_ble_eq_true rfl, Nat.le_of_ble_eq_true rfl⟩ d_15_26_410) (fun v83 u82 H locs hp81 V => ?_)
  obtain ⟨rfl, rfl⟩ := hp81
  refine lv_if_eq (tgt := 421) hx hb d_15_26_413 (by decide) (fun c85 => absurd c85 (by decide)) (fun c85 => ?_)
  refine lv_iload hx hb d_15_26_416 (lv_at hl 8 rfl) ?_
  refine lv_goto (tgt := 454) hx hb d_15_26_418 (by decide) ?_
  refine q_put (ci := 14) (j := 11) (v := .int 0) (ty := .boolean) C0 V i_DR o_DR n_DR rfl rfl hO0 (by decide) w_2014 rfl rfl rfl rfl (Nat.le_of_ble_eq_true rfl) d_15_26_454 (fun H locs w86 hu87 hO0 V => ?_)
  replace hO0 : w86[kO0]? = (some (qO0, .inr (14, [.int 0, .ref qA1, .int 0, .ref qA2, .ref qA3, .ref qA4, .ref qA5, .ref qA6, .int 2, .long 0, .int 0, .int 0, .ref qA7, .int 0, .ref qA8, .int 0, .ref qA9, .int 0, .ref qA10, .int 0, .int 2])) : Option (Nat × va_E)) := hO0
  replace hF := q_us hF hu87 (.head _)
  refine lv_aload_n hx hb d_15_26_457 rfl (lv_at hl 12 rfl) ?_
  refine lv_iload_n hx hb d_15_26_458 rfl (lv_at hl 15 rfl) ?_
  replace hA2 := (hu87 _ n_A2_O0).trans (hA2)
  replace hA3 := (hu87 _ n_A3_O0).trans ((hu80 _ n_A3_O0).trans ((hu78 _ n_A3_O0).trans ((hu76 _ n_A3_O0).trans ((hu72 _ n_A3_A6).trans (hA3)))))
  replace hA4 := (hu87 _ n_A4_O0).trans ((hu80 _ n_A4_O0).trans ((hu78 _ n_A4_O0).trans ((hu76 _ n_A4_O0).trans ((hu72 _ n_A4_A6).trans ((hu59 _ n_A4_A6).trans ((hu20 _ n_A4_O0).trans ((hu17 _ n_A4_O0).trans (hA4))))))))
  replace hA5 := (hu87 _ n_A5_O0).trans ((hu80 _ n_A5_O0).trans ((hu78 _ n_A5_O0).trans ((hu76 _ n_A5_O0).trans ((hu72 _ n_A5_A6).trans (hA5)))))
  replace hA6 := (hu87 _ n_A6_O0).trans ((hu80 _ n_A6_O0).trans ((hu78 _ n_A6_O0).trans ((hu76 _ n_A6_O0).trans (hA6))))
  refine q_gov V (q_runV (As := [.int x3]) (rest := []) (d := 2) (mc := 0) (ms := 0) (ci := 14) C0 V rfl LV_DR_89 (c_DR_store_2 l D g w86 kO0 kA2 kA3 kA4 kA5 kA6 qO0 qA1 qA2 qA3 qA4 qA5 qA6 qA7 qA8 qA9 qA10 x3 hO0 hA2 hA3 hA4 hA5 hA6 n_A2_A3 n_A2_A4 n_A2_A5 n_A2_A6 n_A3_A4 n_A3_A5 n_A3_A6 n_A4_A5 n_A4_A6 n_A5_A6 x3lo x3hi _) rfl rfl hO0 rfl hl.1 rfl (Nat.le_of_ble_eq_true rfl) ⟨by decide, by decide⟩ ⟨Nat.le_of_ble_eq_true rfl, Nat.le_of_ble_eq_true rfl⟩ d_15_26_459) (fun u89 H locs hp88 V => ?_)
  obtain ⟨hg90, hO0, hA2, hA3, hA4, hA5, hA6⟩ := hp88
  replace hF := q_uc hF hg90 (q_sc (.head _) (q_sc (.tail _ (.head _)) (q_sc (.tail _ (.tail _ (.head _))) (q_sc (List.mem_of_getElem? (i := 3) rfl) (q_sc (List.mem_of_getElem? (i := 4) rfl) (q_sc (List.mem_of_getElem? (i := 5) rfl) (fun _ h => absurd h List.not_mem_nil)))))))
  exact q_retv C0 V (⟨hF, hO0, hA2, hA3, hA4, hA5, hA6⟩) d_15_26_462
theorem d_14_23_0 : decode prog_14_method_23_code 0 = .ok (.aload_n 0, 1) := by decide +kernel
theorem d_14_23_1 : decode prog_14_method_23_code 1 = .ok (.iload_n 1, 1) := by decide +kernel
theorem d_14_23_2 : decode prog_14_method_23_code 2 = .ok (.ifCond .lt 30, 3) := by decide +kernel
theorem d_14_23_32 : decode prog_14_method_23_code 32 = .ok (.iconst 1, 1) := by decide +kernel
theorem d_14_23_33 : decode prog_14_method_23_code 33 = .ok (.goto 4, 3) := by decide +kernel
theorem d_14_23_37 : decode prog_14_method_23_code 37 = .ok (.putfield 58, 3) := by decide +kernel
theorem d_14_23_40 : decode prog_14_method_23_code 40 = .ok (.aload_n 0, 1) := by decide +kernel
theorem d_14_23_41 : decode prog_14_method_23_code 41 = .ok (.getfield 58, 3) := by decide +kernel
theorem d_14_23_44 : decode prog_14_method_23_code 44 = .ok (.ifCond .le 4, 3) := by decide +kernel
theorem d_14_23_47 : decode prog_14_method_23_code 47 = .ok (.return_, 1) := by decide +kernel
theorem d_14_23_5 : decode prog_14_method_23_code 5 = .ok (.iload_n 1, 1) := by decide +kernel
theorem d_14_23_6 : decode prog_14_method_23_code 6 = .ok (.iconst 3, 1) := by decide +kernel
theorem d_14_23_7 : decode prog_14_method_23_code 7 = .ok (.if_icmp .gt 25, 3) := by decide +kernel
theorem d_14_23_10 : decode prog_14_method_23_code 10 = .ok (.iload_n 2, 1) := by decide +kernel
theorem d_14_23_11 : decode prog_14_method_23_code 11 = .ok (.invokestatic 70, 3) := by decide +kernel
theorem d_14_23_14 : decode prog_14_method_23_code 14 = .ok (.ifCond .ne 18, 3) := by decide +kernel
theorem d_14_23_17 : decode prog_14_method_23_code 17 = .ok (.iload_n 3, 1) := by decide +kernel
theorem d_14_23_18 : decode prog_14_method_23_code 18 = .ok (.invokestatic 70, 3) := by decide +kernel
theorem d_14_23_21 : decode prog_14_method_23_code 21 = .ok (.ifCond .ne 11, 3) := by decide +kernel
theorem d_14_23_24 : decode prog_14_method_23_code 24 = .ok (.iload 4, 2) := by decide +kernel
theorem d_14_23_26 : decode prog_14_method_23_code 26 = .ok (.invokestatic 70, 3) := by decide +kernel
theorem d_14_23_29 : decode prog_14_method_23_code 29 = .ok (.ifCond .eq 7, 3) := by decide +kernel
theorem d_14_23_36 : decode prog_14_method_23_code 36 = .ok (.iconst 0, 1) := by decide +kernel
theorem d_14_23_48 : decode prog_14_method_23_code 48 = .ok (.iload_n 1, 1) := by decide +kernel
theorem d_14_23_49 : decode prog_14_method_23_code 49 = .ok (.iconst 2, 1) := by decide +kernel
theorem d_14_23_50 : decode prog_14_method_23_code 50 = .ok (.if_icmp .ge 27, 3) := by decide +kernel
theorem d_14_23_77 : decode prog_14_method_23_code 77 = .ok (.iload_n 1, 1) := by decide +kernel
theorem d_14_23_78 : decode prog_14_method_23_code 78 = .ok (.iconst 2, 1) := by decide +kernel
theorem d_14_23_79 : decode prog_14_method_23_code 79 = .ok (.if_icmp .ne 17, 3) := by decide +kernel
theorem d_14_23_96 : decode prog_14_method_23_code 96 = .ok (.aload_n 0, 1) := by decide +kernel
theorem d_14_23_97 : decode prog_14_method_23_code 97 = .ok (.getfield 26, 3) := by decide +kernel
theorem d_14_23_100 : decode prog_14_method_23_code 100 = .ok (.iload_n 2, 1) := by decide +kernel
theorem d_14_23_101 : decode prog_14_method_23_code 101 = .ok (.iload_n 3, 1) := by decide +kernel
theorem d_14_23_102 : decode prog_14_method_23_code 102 = .ok (.iload 4, 2) := by decide +kernel
theorem d_14_23_104 : decode prog_14_method_23_code 104 = .ok (.invokevirtual 205, 3) := by decide +kernel
theorem w_2801 : (Cond.code ({ cls := "NumberHouseModel$DecimalRows", name := "remainder", desc := "(III)V" } : MethodName) prog_15_method_39_code (14 : Nat) (none : Option ClassFile.FieldType)) ∈ q_tbl := q_of 2801 (by decide +kernel) (by decide +kernel)
theorem w_2798 : (Cond.methodLink "NumberHouseModel" (205 : Nat) ({ cls := "NumberHouseModel$DecimalRows", name := "remainder", desc := "(III)V" } : MethodName)) ∈ q_tbl := q_of 2798 (by decide +kernel) (by decide +kernel)
theorem w_2799 : (Cond.instanceMethod ({ cls := "NumberHouseModel$DecimalRows", name := "remainder", desc := "(III)V" } : MethodName)) ∈ q_tbl := q_of 2799 (by decide +kernel) (by decide +kernel)
theorem w_2800 : (Cond.selects "NumberHouseModel$DecimalRows" ({ cls := "NumberHouseModel$DecimalRows", name := "remainder", desc := "(III)V" } : MethodName) ({ cls := "NumberHouseModel$DecimalRows", name := "remainder", desc := "(III)V" } : MethodName)) ∈ q_tbl := q_of 2800 (by decide +kernel) (by decide +kernel)
theorem LV_NM_205 : q_LV "NumberHouseModel" 205 y_DR_remainder prog_15_method_39_code 14 none 3 := ⟨w_2801, w_16, w_2798, w_2799, w_2800, ⟨by decide, by decide, by decide +kernel⟩⟩
theorem d_14_23_107 : decode prog_14_method_23_code 107 = .ok (.aload_n 0, 1) := by decide +kernel
theorem d_14_23_108 : decode prog_14_method_23_code 108 = .ok (.aload_n 0, 1) := by decide +kernel
theorem d_14_23_109 : decode prog_14_method_23_code 109 = .ok (.getfield 26, 3) := by decide +kernel
theorem d_14_23_112 : decode prog_14_method_23_code 112 = .ok (.getfield 105, 3) := by decide +kernel
theorem d_14_23_115 : decode prog_14_method_23_code 115 = .ok (.putfield 58, 3) := by decide +kernel
theorem d_14_23_118 : decode prog_14_method_23_code 118 = .ok (.return_, 1) := by decide +kernel
theorem d_14_23_82 : decode prog_14_method_23_code 82 = .ok (.aload_n 0, 1) := by decide +kernel
theorem d_14_23_83 : decode prog_14_method_23_code 83 = .ok (.getfield 26, 3) := by decide +kernel
theorem d_14_23_86 : decode prog_14_method_23_code 86 = .ok (.iload_n 2, 1) := by decide +kernel
theorem d_14_23_87 : decode prog_14_method_23_code 87 = .ok (.iload_n 3, 1) := by decide +kernel
theorem d_14_23_88 : decode prog_14_method_23_code 88 = .ok (.iload 4, 2) := by decide +kernel
theorem d_14_23_90 : decode prog_14_method_23_code 90 = .ok (.invokevirtual 204, 3) := by decide +kernel
theorem w_2789 : (Cond.code ({ cls := "NumberHouseModel$DecimalRows", name := "multiply", desc := "(III)V" } : MethodName) prog_15_method_28_code (4 : Nat) (none : Option ClassFile.FieldType)) ∈ q_tbl := q_of 2789 (by decide +kernel) (by decide +kernel)
theorem w_2786 : (Cond.methodLink "NumberHouseModel" (204 : Nat) ({ cls := "NumberHouseModel$DecimalRows", name := "multiply", desc := "(III)V" } : MethodName)) ∈ q_tbl := q_of 2786 (by decide +kernel) (by decide +kernel)
theorem w_2787 : (Cond.instanceMethod ({ cls := "NumberHouseModel$DecimalRows", name := "multiply", desc := "(III)V" } : MethodName)) ∈ q_tbl := q_of 2787 (by decide +kernel) (by decide +kernel)
theorem w_2788 : (Cond.selects "NumberHouseModel$DecimalRows" ({ cls := "NumberHouseModel$DecimalRows", name := "multiply", desc := "(III)V" } : MethodName) ({ cls := "NumberHouseModel$DecimalRows", name := "multiply", desc := "(III)V" } : MethodName)) ∈ q_tbl := q_of 2788 (by decide +kernel) (by decide +kernel)
theorem LV_NM_204 : q_LV "NumberHouseModel" 204 y_DR_multiply prog_15_method_28_code 4 none 3 := ⟨w_2789, w_16, w_2786, w_2787, w_2788, ⟨by decide, by decide, by decide +kernel⟩⟩
theorem d_14_23_93 : decode prog_14_method_23_code 93 = .ok (.goto 14, 3) := by decide +kernel
theorem d_14_23_53 : decode prog_14_method_23_code 53 = .ok (.aload_n 0, 1) := by decide +kernel
theorem d_14_23_54 : decode prog_14_method_23_code 54 = .ok (.getfield 26, 3) := by decide +kernel
theorem d_14_23_57 : decode prog_14_method_23_code 57 = .ok (.iload_n 2, 1) := by decide +kernel
theorem d_14_23_58 : decode prog_14_method_23_code 58 = .ok (.iload_n 3, 1) := by decide +kernel
theorem d_14_23_59 : decode prog_14_method_23_code 59 = .ok (.iload 4, 2) := by decide +kernel
theorem d_14_23_61 : decode prog_14_method_23_code 61 = .ok (.iload_n 1, 1) := by decide +kernel
theorem d_14_23_62 : decode prog_14_method_23_code 62 = .ok (.iconst 1, 1) := by decide +kernel
theorem d_14_23_63 : decode prog_14_method_23_code 63 = .ok (.if_icmp .ne 7, 3) := by decide +kernel
theorem d_14_23_70 : decode prog_14_method_23_code 70 = .ok (.iconst 0, 1) := by decide +kernel
theorem d_14_23_71 : decode prog_14_method_23_code 71 = .ok (.invokevirtual 203, 3) := by decide +kernel
theorem w_2780 : (Cond.code ({ cls := "NumberHouseModel$DecimalRows", name := "add", desc := "(IIIZ)V" } : MethodName) prog_15_method_26_code (20 : Nat) (none : Option ClassFile.FieldType)) ∈ q_tbl := q_of 2780 (by decide +kernel) (by decide +kernel)
theorem w_2777 : (Cond.methodLink "NumberHouseModel" (203 : Nat) ({ cls := "NumberHouseModel$DecimalRows", name := "add", desc := "(IIIZ)V" } : MethodName)) ∈ q_tbl := q_of 2777 (by decide +kernel) (by decide +kernel)
theorem w_2778 : (Cond.instanceMethod ({ cls := "NumberHouseModel$DecimalRows", name := "add", desc := "(IIIZ)V" } : MethodName)) ∈ q_tbl := q_of 2778 (by decide +kernel) (by decide +kernel)
theorem w_2779 : (Cond.selects "NumberHouseModel$DecimalRows" ({ cls := "NumberHouseModel$DecimalRows", name := "add", desc := "(IIIZ)V" } : MethodName) ({ cls := "NumberHouseModel$DecimalRows", name := "add", desc := "(IIIZ)V" } : MethodName)) ∈ q_tbl := q_of 2779 (by decide +kernel) (by decide +kernel)
theorem LV_NM_203 : q_LV "NumberHouseModel" 203 y_DR_add prog_15_method_26_code 20 none 4 := ⟨w_2780, w_16, w_2777, w_2778, w_2779, ⟨by decide, by decide, by decide +kernel⟩⟩
theorem d_14_23_74 : decode prog_14_method_23_code 74 = .ok (.goto 33, 3) := by decide +kernel
theorem d_14_23_66 : decode prog_14_method_23_code 66 = .ok (.iconst 1, 1) := by decide +kernel
theorem d_14_23_67 : decode prog_14_method_23_code 67 = .ok (.goto 4, 3) := by decide +kernel
def y_NM_decimal : MethodName := ⟨"NumberHouseModel", "decimal", "(IIII)V"⟩
set_option maxRecDepth 100000 in
set_option maxHeartbeats 4000000 in
/-- decimal on a fresh object -/
theorem c_NM_decimal (l : Launch) (D : va_G) (g : Nat → ClassId) (ws : va_W) ( qO0 qA1 qA2 qO3 qO4 qO5 qO6 qO7 qA8 qA9 qA24 qA25 qA26 qA27 qA28 qA29 qA30 qA31 qA32 qA33 : Nat) (x1 : Int32) (x2 : Int32) (x3 : Int32) (x4 : Int32) (hO0 : ws[116]? = (some (qO0, .inr (12, [.int 0, .ref qA1, .int 0, .ref qA2, .int 0, .ref qO3, .ref qO4, .ref qO5, .ref qO6, .ref qO7, .ref qA8, .ref qA9])) : Option (Nat × va_E))) (hO4 : ws[134]? = (some (qO4, .inr (14, [.int 0, .ref qA24, .int 0, .ref qA25, .ref qA26, .ref qA27, .ref qA28, .ref qA29, .int 0, .long 0, .int 0, .int 0, .ref qA30, .int 0, .ref qA31, .int 0, .ref qA32, .int 0, .ref qA33, .int 0, .int 0])) : Option (Nat × va_E))) (hA25 : ws[136]? = (some (qA25, .inl (g 0, 10000, .inl (fun _ => 0))) : Option (Nat × va_E))) (hA26 : ws[137]? = (some (qA26, .inl (g 0, 10, .inl (upd (upd (upd (upd (upd (upd (upd (upd (upd (upd (fun _ => 0) 0 1) 1 1) 2 1) 3 1) 4 1) 5 1) 6 1) 7 1) 8 1) 9 1))) : Option (Nat × va_E))) (hA27 : ws[138]? = (some (qA27, .inl (g 3, 10, .inl (fun _ => 0))) : Option (Nat × va_E))) (hA28 : ws[139]? = (some (qA28, .inl (g 0, 10, .inl (fun _ => 0))) : Option (Nat × va_E))) (hA29 : ws[140]? = (some (qA29, .inl (g 0, 4400, .inl (fun _ => 0))) : Option (Nat × va_E))) (hA30 : ws[141]? = (some (qA30, .inl (g 0, 4400, .inl (fun _ => 0))) : Option (Nat × va_E))) : q_mV l y_NM_decimal prog_14_method_23_code 5 4 0 0 D g [.ref qO0, .int x1, .int x2, .int x3, .int x4] ws (fun u => ∃ (t0 z2 z4 : Int32), u[116]? = (some (qO0, .inr (12, [.int t0, .ref qA1, .int z2, .ref qA2, .int z4, .ref qO3, .ref qO4, .ref qO5, .ref qO6, .ref qO7, .ref qA8, .ref qA9])) : Option (Nat × va_E)) ∧ ((t0.toInt = 0 ∧ ((0 ≤ x1.toInt ∧ x1.toInt ≤ 3) ∧ (0 ≤ x2.toInt ∧ x2.toInt ≤ 9) ∧ (0 ≤ x3.toInt ∧ x3.toInt ≤ 9) ∧ (0 ≤ x4.toInt ∧ x4.toInt ≤ 9)) ∧ ¬ (x1.toInt = 3)) ∨ (t0.toInt = 1 ∧ ¬ ((0 ≤ x1.toInt ∧ x1.toInt ≤ 3) ∧ (0 ≤ x2.toInt ∧ x2.toInt ≤ 9) ∧ (0 ≤ x3.toInt ∧ x3.toInt ≤ 9) ∧ (0 ≤ x4.toInt ∧ x4.toInt ≤ 9))) ∨ (t0.toInt = 2 ∧ ((0 ≤ x1.toInt ∧ x1.toInt ≤ 3) ∧ (0 ≤ x2.toInt ∧ x2.toInt ≤ 9) ∧ (0 ≤ x3.toInt ∧ x3.toInt ≤ 9) ∧ (0 ≤ x4.toInt ∧ x4.toInt ≤ 9)) ∧ x1.toInt = 3)) ∧ q_ge 169 ws u) := by
  intro sz
  refine q_into (by decide) (Nat.le_of_ble_eq_true rfl) ?_
  intro p e s m below meth c ls hsz C0 V hl
  have hx := C0.1
  have hb := C0.2.1
  have hl : lv_has ls 5 [(0, .ref qO0), (1, .int x1), (2, .int x2), (3, .int x3), (4, .int x4)] := hl
  have hF : q_ge 169 ws ws := q_g0
  refine lv_aload_n hx hb d_14_23_0 rfl (lv_at hl 0 rfl) ?_
  refine lv_iload_n hx hb d_14_23_1 rfl (lv_at hl 1 rfl) ?_
  refine lv_if_lt (tgt := 32) hx hb d_14_23_2 (by decide) (fun c1 => ?_) (fun c1 => ?_)
  ·
    refine lv_iconst (v := 1) hx hb d_14_23_32 (by decide) ?_
    refine lv_goto (tgt := 37) hx hb d_14_23_33 (by decide) ?_
    refine q_put (ci := 12) (j := 0) (v := .int 1) (ty := .int) C0 V i_NM o_NM n_NM rfl rfl hO0 (by decide) w_2298 rfl rfl rfl rfl (Nat.le_of_ble_eq_true rfl) d_14_23_37 (fun H locs w2 hu3 hO0 V => ?_)
    replace hO0 : w2[116]? = (some (qO0, .inr (12, [.int 1, .ref qA1, .int 0, .ref qA2, .int 0, .ref qO3, .ref qO4, .ref qO5, .ref qO6, .ref qO7, .ref qA8, .ref qA9])) : Option (Nat × va_E)) := hO0
    replace hF := q_gs hF hu3 (Nat.le_of_ble_eq_true rfl)
    refine lv_aload_n hx hb d_14_23_40 rfl (lv_at hl 0 rfl) ?_
    refine q_get (ci := 12) (j := 0) (v := .int 1) C0 V i_NM rfl rfl hO0 (by decide) w_2298 rfl d_14_23_41 ?_
    refine lv_if_le (tgt := 48) hx hb d_14_23_44 (by decide) (fun c4 => absurd c4 (by decide)) (fun c4 => ?_)
    exact q_retv C0 V (⟨1, 0, 0, hO0, (show ((1 : Int32).toInt = 0 ∧ ((0 ≤ x1.toInt ∧ x1.toInt ≤ 3) ∧ (0 ≤ x2.toInt ∧ x2.toInt ≤ 9) ∧ (0 ≤ x3.toInt ∧ x3.toInt ≤ 9) ∧ (0 ≤ x4.toInt ∧ x4.toInt ≤ 9)) ∧ ¬ (x1.toInt = 3)) ∨ ((1 : Int32).toInt = 1 ∧ ¬ ((0 ≤ x1.toInt ∧ x1.toInt ≤ 3) ∧ (0 ≤ x2.toInt ∧ x2.toInt ≤ 9) ∧ (0 ≤ x3.toInt ∧ x3.toInt ≤ 9) ∧ (0 ≤ x4.toInt ∧ x4.toInt ≤ 9))) ∨ ((1 : Int32).toInt = 2 ∧ ((0 ≤ x1.toInt ∧ x1.toInt ≤ 3) ∧ (0 ≤ x2.toInt ∧ x2.toInt ≤ 9) ∧ (0 ≤ x3.toInt ∧ x3.toInt ≤ 9) ∧ (0 ≤ x4.toInt ∧ x4.toInt ≤ 9)) ∧ x1.toInt = 3) from by have t1 : x1.toInt < 0 := q_ltI c1; have e0 : (1 : Int32).toInt = 1 := (by decide); omega), hF⟩) d_14_23_47
  ·
    refine lv_iload_n hx hb d_14_23_5 rfl (lv_at hl 1 rfl) ?_
    refine lv_iconst (v := 3) hx hb d_14_23_6 (by decide) ?_
    refine lv_icmp_gt (tgt := 32) hx hb d_14_23_7 (by decide) (fun c5 => ?_) (fun c5 => ?_)
    ·
      refine lv_iconst (v := 1) hx hb d_14_23_32 (by decide) ?_
      refine lv_goto (tgt := 37) hx hb d_14_23_33 (by decide) ?_
      refine q_put (ci := 12) (j := 0) (v := .int 1) (ty := .int) C0 V i_NM o_NM n_NM rfl rfl hO0 (by decide) w_2298 rfl rfl rfl rfl (Nat.le_of_ble_eq_true rfl) d_14_23_37 (fun H locs w6 hu7 hO0 V => ?_)
      replace hO0 : w6[116]? = (some (qO0, .inr (12, [.int 1, .ref qA1, .int 0, .ref qA2, .int 0, .ref qO3, .ref qO4, .ref qO5, .ref qO6, .ref qO7, .ref qA8, .ref qA9])) : Option (Nat × va_E)) := hO0
      replace hF := q_gs hF hu7 (Nat.le_of_ble_eq_true rfl)
      refine lv_aload_n hx hb d_14_23_40 rfl (lv_at hl 0 rfl) ?_
      refine q_get (ci := 12) (j := 0) (v := .int 1) C0 V i_NM rfl rfl hO0 (by decide) w_2298 rfl d_14_23_41 ?_
      refine lv_if_le (tgt := 48) hx hb d_14_23_44 (by decide) (fun c8 => absurd c8 (by decide)) (fun c8 => ?_)
      exact q_retv C0 V (⟨1, 0, 0, hO0, (show ((1 : Int32).toInt = 0 ∧ ((0 ≤ x1.toInt ∧ x1.toInt ≤ 3) ∧ (0 ≤ x2.toInt ∧ x2.toInt ≤ 9) ∧ (0 ≤ x3.toInt ∧ x3.toInt ≤ 9) ∧ (0 ≤ x4.toInt ∧ x4.toInt ≤ 9)) ∧ ¬ (x1.toInt = 3)) ∨ ((1 : Int32).toInt = 1 ∧ ¬ ((0 ≤ x1.toInt ∧ x1.toInt ≤ 3) ∧ (0 ≤ x2.toInt ∧ x2.toInt ≤ 9) ∧ (0 ≤ x3.toInt ∧ x3.toInt ≤ 9) ∧ (0 ≤ x4.toInt ∧ x4.toInt ≤ 9))) ∨ ((1 : Int32).toInt = 2 ∧ ((0 ≤ x1.toInt ∧ x1.toInt ≤ 3) ∧ (0 ≤ x2.toInt ∧ x2.toInt ≤ 9) ∧ (0 ≤ x3.toInt ∧ x3.toInt ≤ 9) ∧ (0 ≤ x4.toInt ∧ x4.toInt ≤ 9)) ∧ x1.toInt = 3) from by have t1 : 0 ≤ x1.toInt := q_nltI c1; have t2 : 3 < x1.toInt := q_ltI c5; have e0 : (1 : Int32).toInt = 1 := (by decide); omega), hF⟩) d_14_23_47
    ·
      refine lv_iload_n hx hb d_14_23_10 rfl (lv_at hl 2 rfl) ?_
      refine q_goi V (q_runS (As := [.int x2]) (rest := [.ref qO0]) (d := 1) (mc := 0) (ms := 0) C0 V rfl LS_NM_70 (c_NM_no_IZ l D g ws x2 _) rfl hl.1 rfl (Nat.le_of_ble_eq_true rfl) ⟨by decide, by decide⟩ ⟨Nat.le_of_ble_eq_true rfl, Nat.le_of_ble_eq_true rfl⟩ d_14_23_11) (fun v11 u10 H locs hp9 V => ?_)
      rcases hp9 with ⟨c12, rfl, rfl⟩ | ⟨c14, c15, rfl, rfl⟩ | ⟨c17, c18, rfl, rfl⟩
      ·
        refine lv_if_ne (tgt := 32) hx hb d_14_23_14 (by decide) (fun c20 => ?_) (fun c20 => absurd c20 (by decide))
        refine lv_iconst (v := 1) hx hb d_14_23_32 (by decide) ?_
        refine lv_goto (tgt := 37) hx hb d_14_23_33 (by decide) ?_
        refine q_put (ci := 12) (j := 0) (v := .int 1) (ty := .int) C0 V i_NM o_NM n_NM rfl rfl hO0 (by decide) w_2298 rfl rfl rfl rfl (Nat.le_of_ble_eq_true rfl) d_14_23_37 (fun H locs w21 hu22 hO0 V => ?_)
        replace hO0 : w21[116]? = (some (qO0, .inr (12, [.int 1, .ref qA1, .int 0, .ref qA2, .int 0, .ref qO3, .ref qO4, .ref qO5, .ref qO6, .ref qO7, .ref qA8, .ref qA9])) : Option (Nat × va_E)) := hO0
        replace hF := q_gs hF hu22 (Nat.le_of_ble_eq_true rfl)
        refine lv_aload_n hx hb d_14_23_40 rfl (lv_at hl 0 rfl) ?_
        refine q_get (ci := 12) (j := 0) (v := .int 1) C0 V i_NM rfl rfl hO0 (by decide) w_2298 rfl d_14_23_41 ?_
        refine lv_if_le (tgt := 48) hx hb d_14_23_44 (by decide) (fun c23 => absurd c23 (by decide)) (fun c23 => ?_)
        exact q_retv C0 V (⟨1, 0, 0, hO0, (show ((1 : Int32).toInt = 0 ∧ ((0 ≤ x1.toInt ∧ x1.toInt ≤ 3) ∧ (0 ≤ x2.toInt ∧ x2.toInt ≤ 9) ∧ (0 ≤ x3.toInt ∧ x3.toInt ≤ 9) ∧ (0 ≤ x4.toInt ∧ x4.toInt ≤ 9)) ∧ ¬ (x1.toInt = 3)) ∨ ((1 : Int32).toInt = 1 ∧ ¬ ((0 ≤ x1.toInt ∧ x1.toInt ≤ 3) ∧ (0 ≤ x2.toInt ∧ x2.toInt ≤ 9) ∧ (0 ≤ x3.toInt ∧ x3.toInt ≤ 9) ∧ (0 ≤ x4.toInt ∧ x4.toInt ≤ 9))) ∨ ((1 : Int32).toInt = 2 ∧ ((0 ≤ x1.toInt ∧ x1.toInt ≤ 3) ∧ (0 ≤ x2.toInt ∧ x2.toInt ≤ 9) ∧ (0 ≤ x3.toInt ∧ x3.toInt ≤ 9) ∧ (0 ≤ x4.toInt ∧ x4.toInt ≤ 9)) ∧ x1.toInt = 3) from by have t1 : 0 ≤ x1.toInt := q_nltI c1; have t2 : x1.toInt ≤ 3 := q_nltI c5; have t3 : x2.toInt < 0 := q_ltI c12; have e0 : (1 : Int32).toInt = 1 := (by decide); omega), hF⟩) d_14_23_47
      ·
        refine lv_if_ne (tgt := 32) hx hb d_14_23_14 (by decide) (fun c24 => absurd (by decide) c24) (fun c24 => ?_)
        refine lv_iload_n hx hb d_14_23_17 rfl (lv_at hl 3 rfl) ?_
        refine q_goi V (q_runS (As := [.int x3]) (rest := [.ref qO0]) (d := 1) (mc := 0) (ms := 0) C0 V rfl LS_NM_70 (c_NM_no_IZ l D g ws x3 _) rfl hl.1 rfl (Nat.le_of_ble_eq_true rfl) ⟨by decide, by decide⟩ ⟨Nat.le_of_ble_eq_true rfl, Nat.le_of_ble_eq_true rfl⟩ d_14_23_18) (fun v27 u26 H locs hp25 V => ?_)
        rcases hp25 with ⟨c28, rfl, rfl⟩ | ⟨c30, c31, rfl, rfl⟩ | ⟨c33, c34, rfl, rfl⟩
        ·
          refine lv_if_ne (tgt := 32) hx hb d_14_23_21 (by decide) (fun c36 => ?_) (fun c36 => absurd c36 (by decide))
          refine lv_iconst (v := 1) hx hb d_14_23_32 (by decide) ?_
          refine lv_goto (tgt := 37) hx hb d_14_23_33 (by decide) ?_
          refine q_put (ci := 12) (j := 0) (v := .int 1) (ty := .int) C0 V i_NM o_NM n_NM rfl rfl hO0 (by decide) w_2298 rfl rfl rfl rfl (Nat.le_of_ble_eq_true rfl) d_14_23_37 (fun H locs w37 hu38 hO0 V => ?_)
          replace hO0 : w37[116]? = (some (qO0, .inr (12, [.int 1, .ref qA1, .int 0, .ref qA2, .int 0, .ref qO3, .ref qO4, .ref qO5, .ref qO6, .ref qO7, .ref qA8, .ref qA9])) : Option (Nat × va_E)) := hO0
          replace hF := q_gs hF hu38 (Nat.le_of_ble_eq_true rfl)
          refine lv_aload_n hx hb d_14_23_40 rfl (lv_at hl 0 rfl) ?_
          refine q_get (ci := 12) (j := 0) (v := .int 1) C0 V i_NM rfl rfl hO0 (by decide) w_2298 rfl d_14_23_41 ?_
          refine lv_if_le (tgt := 48) hx hb d_14_23_44 (by decide) (fun c39 => absurd c39 (by decide)) (fun c39 => ?_)
          exact q_retv C0 V (⟨1, 0, 0, hO0, (show ((1 : Int32).toInt = 0 ∧ ((0 ≤ x1.toInt ∧ x1.toInt ≤ 3) ∧ (0 ≤ x2.toInt ∧ x2.toInt ≤ 9) ∧ (0 ≤ x3.toInt ∧ x3.toInt ≤ 9) ∧ (0 ≤ x4.toInt ∧ x4.toInt ≤ 9)) ∧ ¬ (x1.toInt = 3)) ∨ ((1 : Int32).toInt = 1 ∧ ¬ ((0 ≤ x1.toInt ∧ x1.toInt ≤ 3) ∧ (0 ≤ x2.toInt ∧ x2.toInt ≤ 9) ∧ (0 ≤ x3.toInt ∧ x3.toInt ≤ 9) ∧ (0 ≤ x4.toInt ∧ x4.toInt ≤ 9))) ∨ ((1 : Int32).toInt = 2 ∧ ((0 ≤ x1.toInt ∧ x1.toInt ≤ 3) ∧ (0 ≤ x2.toInt ∧ x2.toInt ≤ 9) ∧ (0 ≤ x3.toInt ∧ x3.toInt ≤ 9) ∧ (0 ≤ x4.toInt ∧ x4.toInt ≤ 9)) ∧ x1.toInt = 3) from by have t1 : 0 ≤ x1.toInt := q_nltI c1; have t2 : x1.toInt ≤ 3 := q_nltI c5; have t3 : 0 ≤ x2.toInt := q_nltI c14; have t4 : x2.toInt ≤ 9 := q_leI c15; have t5 : x3.toInt < 0 := q_ltI c28; have e0 : (1 : Int32).toInt = 1 := (by decide); omega), hF⟩) d_14_23_47
        ·
          refine lv_if_ne (tgt := 32) hx hb d_14_23_21 (by decide) (fun c40 => absurd (by decide) c40) (fun c40 => ?_)
          refine lv_iload hx hb d_14_23_24 (lv_at hl 4 rfl) ?_
          refine q_goi V (q_runS (As := [.int x4]) (rest := [.ref qO0]) (d := 1) (mc := 0) (ms := 0) C0 V rfl LS_NM_70 (c_NM_no_IZ l D g ws x4 _) rfl hl.1 rfl (Nat.le_of_ble_eq_true rfl) ⟨by decide, by decide⟩ ⟨Nat.le_of_ble_eq_true rfl, Nat.le_of_ble_eq_true rfl⟩ d_14_23_26) (fun v43 u42 H locs hp41 V => ?_)
          rcases hp41 with ⟨c44, rfl, rfl⟩ | ⟨c46, c47, rfl, rfl⟩ | ⟨c49, c50, rfl, rfl⟩
          ·
            refine lv_if_eq (tgt := 36) hx hb d_14_23_29 (by decide) (fun c52 => absurd c52 (by decide)) (fun c52 => ?_)
            refine lv_iconst (v := 1) hx hb d_14_23_32 (by decide) ?_
            refine lv_goto (tgt := 37) hx hb d_14_23_33 (by decide) ?_
            refine q_put (ci := 12) (j := 0) (v := .int 1) (ty := .int) C0 V i_NM o_NM n_NM rfl rfl hO0 (by decide) w_2298 rfl rfl rfl rfl (Nat.le_of_ble_eq_true rfl) d_14_23_37 (fun H locs w53 hu54 hO0 V => ?_)
            replace hO0 : w53[116]? = (some (qO0, .inr (12, [.int 1, .ref qA1, .int 0, .ref qA2, .int 0, .ref qO3, .ref qO4, .ref qO5, .ref qO6, .ref qO7, .ref qA8, .ref qA9])) : Option (Nat × va_E)) := hO0
            replace hF := q_gs hF hu54 (Nat.le_of_ble_eq_true rfl)
            refine lv_aload_n hx hb d_14_23_40 rfl (lv_at hl 0 rfl) ?_
            refine q_get (ci := 12) (j := 0) (v := .int 1) C0 V i_NM rfl rfl hO0 (by decide) w_2298 rfl d_14_23_41 ?_
            refine lv_if_le (tgt := 48) hx hb d_14_23_44 (by decide) (fun c55 => absurd c55 (by decide)) (fun c55 => ?_)
            exact q_retv C0 V (⟨1, 0, 0, hO0, (show ((1 : Int32).toInt = 0 ∧ ((0 ≤ x1.toInt ∧ x1.toInt ≤ 3) ∧ (0 ≤ x2.toInt ∧ x2.toInt ≤ 9) ∧ (0 ≤ x3.toInt ∧ x3.toInt ≤ 9) ∧ (0 ≤ x4.toInt ∧ x4.toInt ≤ 9)) ∧ ¬ (x1.toInt = 3)) ∨ ((1 : Int32).toInt = 1 ∧ ¬ ((0 ≤ x1.toInt ∧ x1.toInt ≤ 3) ∧ (0 ≤ x2.toInt ∧ x2.toInt ≤ 9) ∧ (0 ≤ x3.toInt ∧ x3.toInt ≤ 9) ∧ (0 ≤ x4.toInt ∧ x4.toInt ≤ 9))) ∨ ((1 : Int32).toInt = 2 ∧ ((0 ≤ x1.toInt ∧ x1.toInt ≤ 3) ∧ (0 ≤ x2.toInt ∧ x2.toInt ≤ 9) ∧ (0 ≤ x3.toInt ∧ x3.toInt ≤ 9) ∧ (0 ≤ x4.toInt ∧ x4.toInt ≤ 9)) ∧ x1.toInt = 3) from by have t1 : 0 ≤ x1.toInt := q_nltI c1; have t2 : x1.toInt ≤ 3 := q_nltI c5; have t3 : 0 ≤ x2.toInt := q_nltI c14; have t4 : x2.toInt ≤ 9 := q_leI c15; have t5 : 0 ≤ x3.toInt := q_nltI c30; have t6 : x3.toInt ≤ 9 := q_leI c31; have t7 : x4.toInt < 0 := q_ltI c44; have e0 : (1 : Int32).toInt = 1 := (by decide); omega), hF⟩) d_14_23_47
          ·
            refine lv_if_eq (tgt := 36) hx hb d_14_23_29 (by decide) (fun c56 => ?_) (fun c56 => absurd (by decide) c56)
            refine lv_iconst (v := 0) hx hb d_14_23_36 (by decide) ?_
            refine q_put (ci := 12) (j := 0) (v := .int 0) (ty := .int) C0 V i_NM o_NM n_NM rfl rfl hO0 (by decide) w_2298 rfl rfl rfl rfl (Nat.le_of_ble_eq_true rfl) d_14_23_37 (fun H locs w57 hu58 hO0 V => ?_)
            replace hO0 : w57[116]? = (some (qO0, .inr (12, [.int 0, .ref qA1, .int 0, .ref qA2, .int 0, .ref qO3, .ref qO4, .ref qO5, .ref qO6, .ref qO7, .ref qA8, .ref qA9])) : Option (Nat × va_E)) := hO0
            replace hF := q_gs hF hu58 (Nat.le_of_ble_eq_true rfl)
            refine lv_aload_n hx hb d_14_23_40 rfl (lv_at hl 0 rfl) ?_
            refine q_get (ci := 12) (j := 0) (v := .int 0) C0 V i_NM rfl rfl hO0 (by decide) w_2298 rfl d_14_23_41 ?_
            refine lv_if_le (tgt := 48) hx hb d_14_23_44 (by decide) (fun c59 => ?_) (fun c59 => absurd (by decide) c59)
            refine lv_iload_n hx hb d_14_23_48 rfl (lv_at hl 1 rfl) ?_
            refine lv_iconst (v := 2) hx hb d_14_23_49 (by decide) ?_
            refine lv_icmp_ge (tgt := 77) hx hb d_14_23_50 (by decide) (fun c60 => ?_) (fun c60 => ?_)
            ·
              refine lv_iload_n hx hb d_14_23_77 rfl (lv_at hl 1 rfl) ?_
              refine lv_iconst (v := 2) hx hb d_14_23_78 (by decide) ?_
              refine lv_icmp_ne (tgt := 96) hx hb d_14_23_79 (by decide) (fun c61 => ?_) (fun c61 => ?_)
              ·
                refine lv_aload_n hx hb d_14_23_96 rfl (lv_at hl 0 rfl) ?_
                refine q_get (ci := 12) (j := 6) (v := .ref qO4) C0 V i_NM rfl rfl hO0 (by decide) w_2304 rfl d_14_23_97 ?_
                refine lv_iload_n hx hb d_14_23_100 rfl (lv_at hl 2 rfl) ?_
                refine lv_iload_n hx hb d_14_23_101 rfl (lv_at hl 3 rfl) ?_
                refine lv_iload hx hb d_14_23_102 (lv_at hl 4 rfl) ?_
                replace hO4 := (hu58 _ (q_pd 134 116 rfl)).trans (hO4)
                replace hA25 := (hu58 _ (q_pd 136 116 rfl)).trans (hA25)
                refine q_gov V (q_runV (As := [.int x2, .int x3, .int x4]) (rest := []) (d := 2) (mc := 0) (ms := 0) (ci := 14) C0 V rfl LV_NM_205 (c_DR_remainder l D g w57 134 136 qO4 qA24 qA25 qA26 qA27 qA28 qA29 qA30 qA31 qA32 qA33 x2 x3 x4 hO4 hA25 (q_Ile (x := 0) (y := x2.toInt) (by decide) rfl (by have t1 : 0 ≤ x2.toInt := q_nltI c14; have t2 : x2.toInt ≤ 9 := q_leI c15; omega)) c15 (q_Ile (x := 0) (y := x3.toInt) (by decide) rfl (by have t1 : 0 ≤ x3.toInt := q_nltI c30; have t2 : x3.toInt ≤ 9 := q_leI c31; omega)) c31 (q_Ile (x := 0) (y := x4.toInt) (by decide) rfl (by have t1 : 0 ≤ x4.toInt := q_nltI c46; have t2 : x4.toInt ≤ 9 := q_leI c47; omega)) c47 _) rfl rfl hO4 rfl hl.1 rfl (Nat.le_of_ble_eq_true rfl) ⟨by decide, by decide⟩ ⟨Nat.le_of_ble_eq_true rfl, Nat.le_of_ble_eq_true rfl⟩ d_14_23_104) (fun u63 H locs hp62 V => ?_)
                obtain ⟨hg64, hO4⟩ := hp62
                replace hF := q_gc hF hg64 (q_al (Nat.le_of_ble_eq_true rfl) (fun _ h => absurd h List.not_mem_nil))
                refine lv_aload_n hx hb d_14_23_107 rfl (lv_at hl 0 rfl) ?_
                refine lv_aload_n hx hb d_14_23_108 rfl (lv_at hl 0 rfl) ?_
                replace hO0 := (hg64 _ (q_nc (q_pd 116 134 rfl) List.not_mem_nil)).trans (hO0)
                refine q_get (ci := 12) (j := 6) (v := .ref qO4) C0 V i_NM rfl rfl hO0 (by decide) w_2304 rfl d_14_23_109 ?_
                refine q_getN (ci := 14) (j := 0) (v := .int 2) C0 V i_DR rfl rfl hO4 (by decide) wo_1997 rfl d_14_23_112 ?_
                refine q_put (ci := 12) (j := 0) (v := .int 2) (ty := .int) C0 V i_NM o_NM n_NM rfl rfl hO0 (by decide) w_2298 rfl rfl rfl rfl (Nat.le_of_ble_eq_true rfl) d_14_23_115 (fun H locs w65 hu66 hO0 V => ?_)
                replace hO0 : w65[116]? = (some (qO0, .inr (12, [.int 2, .ref qA1, .int 0, .ref qA2, .int 0, .ref qO3, .ref qO4, .ref qO5, .ref qO6, .ref qO7, .ref qA8, .ref qA9])) : Option (Nat × va_E)) := hO0
                replace hF := q_gs hF hu66 (Nat.le_of_ble_eq_true rfl)
                exact q_retv C0 V (⟨2, 0, 0, hO0, (show ((2 : Int32).toInt = 0 ∧ ((0 ≤ x1.toInt ∧ x1.toInt ≤ 3) ∧ (0 ≤ x2.toInt ∧ x2.toInt ≤ 9) ∧ (0 ≤ x3.toInt ∧ x3.toInt ≤ 9) ∧ (0 ≤ x4.toInt ∧ x4.toInt ≤ 9)) ∧ ¬ (x1.toInt = 3)) ∨ ((2 : Int32).toInt = 1 ∧ ¬ ((0 ≤ x1.toInt ∧ x1.toInt ≤ 3) ∧ (0 ≤ x2.toInt ∧ x2.toInt ≤ 9) ∧ (0 ≤ x3.toInt ∧ x3.toInt ≤ 9) ∧ (0 ≤ x4.toInt ∧ x4.toInt ≤ 9))) ∨ ((2 : Int32).toInt = 2 ∧ ((0 ≤ x1.toInt ∧ x1.toInt ≤ 3) ∧ (0 ≤ x2.toInt ∧ x2.toInt ≤ 9) ∧ (0 ≤ x3.toInt ∧ x3.toInt ≤ 9) ∧ (0 ≤ x4.toInt ∧ x4.toInt ≤ 9)) ∧ x1.toInt = 3) from by have t1 : 0 ≤ x1.toInt := q_nltI c1; have t2 : x1.toInt ≤ 3 := q_nltI c5; have t3 : 0 ≤ x2.toInt := q_nltI c14; have t4 : x2.toInt ≤ 9 := q_leI c15; have t5 : 0 ≤ x3.toInt := q_nltI c30; have t6 : x3.toInt ≤ 9 := q_leI c31; have t7 : 0 ≤ x4.toInt := q_nltI c46; have t8 : x4.toInt ≤ 9 := q_leI c47; have t9 : 2 ≤ x1.toInt := q_leI c60; have t10 : x1.toInt ≠ 2 := q_neI c61; have e0 : (2 : Int32).toInt = 2 := (by decide); omega), hF⟩) d_14_23_118
              ·
                refine lv_aload_n hx hb d_14_23_82 rfl (lv_at hl 0 rfl) ?_
                refine q_get (ci := 12) (j := 6) (v := .ref qO4) C0 V i_NM rfl rfl hO0 (by decide) w_2304 rfl d_14_23_83 ?_
                refine lv_iload_n hx hb d_14_23_86 rfl (lv_at hl 2 rfl) ?_
                refine lv_iload_n hx hb d_14_23_87 rfl (lv_at hl 3 rfl) ?_
                refine lv_iload hx hb d_14_23_88 (lv_at hl 4 rfl) ?_
                replace hO4 := (hu58 _ (q_pd 134 116 rfl)).trans (hO4)
                replace hA25 := (hu58 _ (q_pd 136 116 rfl)).trans (hA25)
                replace hA26 := (hu58 _ (q_pd 137 116 rfl)).trans (hA26)
                replace hA27 := (hu58 _ (q_pd 138 116 rfl)).trans (hA27)
                replace hA28 := (hu58 _ (q_pd 139 116 rfl)).trans (hA28)
                replace hA29 := (hu58 _ (q_pd 140 116 rfl)).trans (hA29)
                replace hA30 := (hu58 _ (q_pd 141 116 rfl)).trans (hA30)
                refine q_gov V (q_runV (As := [.int x2, .int x3, .int x4]) (rest := []) (d := 3) (mc := 0) (ms := 0) (ci := 14) C0 V rfl LV_NM_204 (c_DR_multiply l D g w57 134 136 137 138 139 140 141 qO4 qA24 qA25 qA26 qA27 qA28 qA29 qA30 qA31 qA32 qA33 x2 x3 x4 hO4 hA25 hA26 hA27 hA28 hA29 hA30 (q_pd 136 137 rfl) (q_pd 136 138 rfl) (q_pd 136 139 rfl) (q_pd 136 140 rfl) (q_pd 136 141 rfl) (q_pd 137 138 rfl) (q_pd 137 139 rfl) (q_pd 137 140 rfl) (q_pd 137 141 rfl) (q_pd 138 139 rfl) (q_pd 138 140 rfl) (q_pd 138 141 rfl) (q_pd 139 140 rfl) (q_pd 139 141 rfl) (q_pd 140 141 rfl) (q_Ile (x := 0) (y := x2.toInt) (by decide) rfl (by have t1 : 0 ≤ x2.toInt := q_nltI c14; have t2 : x2.toInt ≤ 9 := q_leI c15; omega)) c15 (q_Ile (x := 0) (y := x3.toInt) (by decide) rfl (by have t1 : 0 ≤ x3.toInt := q_nltI c30; have t2 : x3.toInt ≤ 9 := q_leI c31; omega)) c31 (q_Ile (x := 0) (y := x4.toInt) (by decide) rfl (by have t1 : 0 ≤ x4.toInt := q_nltI c46; have t2 : x4.toInt ≤ 9 := q_leI c47; omega)) c47 _) rfl rfl hO4 rfl hl.1 rfl (Nat.le_of_ble_eq_true rfl) ⟨by decide, by decide⟩ ⟨Nat.le_of_ble_eq_true rfl, Nat.le_of_ble_eq_true rfl⟩ d_14_23_90) (fun u68 H locs hp67 V => ?_)
                obtain ⟨hg69, hO4, hA25, hA26, hA27, hA28, hA29, hA30⟩ := hp67
                replace hF := q_gc hF hg69 (q_al (Nat.le_of_ble_eq_true rfl) (q_al (Nat.le_of_ble_eq_true rfl) (q_al (Nat.le_of_ble_eq_true rfl) (q_al (Nat.le_of_ble_eq_true rfl) (q_al (Nat.le_of_ble_eq_true rfl) (q_al (Nat.le_of_ble_eq_true rfl) (q_al (Nat.le_of_ble_eq_true rfl) (fun _ h => absurd h List.not_mem_nil))))))))
                refine lv_goto (tgt := 107) hx hb d_14_23_93 (by decide) ?_
                refine lv_aload_n hx hb d_14_23_107 rfl (lv_at hl 0 rfl) ?_
                refine lv_aload_n hx hb d_14_23_108 rfl (lv_at hl 0 rfl) ?_
                replace hO0 := (hg69 _ (q_nc (q_pd 116 134 rfl) (q_nc (q_pd 116 136 rfl) (q_nc (q_pd 116 137 rfl) (q_nc (q_pd 116 138 rfl) (q_nc (q_pd 116 139 rfl) (q_nc (q_pd 116 140 rfl) (q_nc (q_pd 116 141 rfl) List.not_mem_nil)))))))).trans (hO0)
                refine q_get (ci := 12) (j := 6) (v := .ref qO4) C0 V i_NM rfl rfl hO0 (by decide) w_2304 rfl d_14_23_109 ?_
                refine q_getN (ci := 14) (j := 0) (v := .int 0) C0 V i_DR rfl rfl hO4 (by decide) wo_1997 rfl d_14_23_112 ?_
                refine q_put (ci := 12) (j := 0) (v := .int 0) (ty := .int) C0 V i_NM o_NM n_NM rfl rfl hO0 (by decide) w_2298 rfl rfl rfl rfl (Nat.le_of_ble_eq_true rfl) d_14_23_115 (fun H locs w70 hu71 hO0 V => ?_)
                replace hO0 : w70[116]? = (some (qO0, .inr (12, [.int 0, .ref qA1, .int 0, .ref qA2, .int 0, .ref qO3, .ref qO4, .ref qO5, .ref qO6, .ref qO7, .ref qA8, .ref qA9])) : Option (Nat × va_E)) := hO0
                replace hF := q_gs hF hu71 (Nat.le_of_ble_eq_true rfl)
                exact q_retv C0 V (⟨0, 0, 0, hO0, (show ((0 : Int32).toInt = 0 ∧ ((0 ≤ x1.toInt ∧ x1.toInt ≤ 3) ∧ (0 ≤ x2.toInt ∧ x2.toInt ≤ 9) ∧ (0 ≤ x3.toInt ∧ x3.toInt ≤ 9) ∧ (0 ≤ x4.toInt ∧ x4.toInt ≤ 9)) ∧ ¬ (x1.toInt = 3)) ∨ ((0 : Int32).toInt = 1 ∧ ¬ ((0 ≤ x1.toInt ∧ x1.toInt ≤ 3) ∧ (0 ≤ x2.toInt ∧ x2.toInt ≤ 9) ∧ (0 ≤ x3.toInt ∧ x3.toInt ≤ 9) ∧ (0 ≤ x4.toInt ∧ x4.toInt ≤ 9))) ∨ ((0 : Int32).toInt = 2 ∧ ((0 ≤ x1.toInt ∧ x1.toInt ≤ 3) ∧ (0 ≤ x2.toInt ∧ x2.toInt ≤ 9) ∧ (0 ≤ x3.toInt ∧ x3.toInt ≤ 9) ∧ (0 ≤ x4.toInt ∧ x4.toInt ≤ 9)) ∧ x1.toInt = 3) from by have t1 : 0 ≤ x1.toInt := q_nltI c1; have t2 : x1.toInt ≤ 3 := q_nltI c5; have t3 : 0 ≤ x2.toInt := q_nltI c14; have t4 : x2.toInt ≤ 9 := q_leI c15; have t5 : 0 ≤ x3.toInt := q_nltI c30; have t6 : x3.toInt ≤ 9 := q_leI c31; have t7 : 0 ≤ x4.toInt := q_nltI c46; have t8 : x4.toInt ≤ 9 := q_leI c47; have t9 : 2 ≤ x1.toInt := q_leI c60; have t10 : x1.toInt = 2 := q_eqI c61; have e0 : (0 : Int32).toInt = 0 := (by decide); omega), hF⟩) d_14_23_118
            ·
              refine lv_aload_n hx hb d_14_23_53 rfl (lv_at hl 0 rfl) ?_
              refine q_get (ci := 12) (j := 6) (v := .ref qO4) C0 V i_NM rfl rfl hO0 (by decide) w_2304 rfl d_14_23_54 ?_
              refine lv_iload_n hx hb d_14_23_57 rfl (lv_at hl 2 rfl) ?_
              refine lv_iload_n hx hb d_14_23_58 rfl (lv_at hl 3 rfl) ?_
              refine lv_iload hx hb d_14_23_59 (lv_at hl 4 rfl) ?_
              refine lv_iload_n hx hb d_14_23_61 rfl (lv_at hl 1 rfl) ?_
              refine lv_iconst (v := 1) hx hb d_14_23_62 (by decide) ?_
              refine lv_icmp_ne (tgt := 70) hx hb d_14_23_63 (by decide) (fun c72 => ?_) (fun c72 => ?_)
              ·
                refine lv_iconst (v := 0) hx hb d_14_23_70 (by decide) ?_
                replace hO4 := (hu58 _ (q_pd 134 116 rfl)).trans (hO4)
                replace hA25 := (hu58 _ (q_pd 136 116 rfl)).trans (hA25)
                replace hA26 := (hu58 _ (q_pd 137 116 rfl)).trans (hA26)
                replace hA27 := (hu58 _ (q_pd 138 116 rfl)).trans (hA27)
                replace hA28 := (hu58 _ (q_pd 139 116 rfl)).trans (hA28)
                replace hA29 := (hu58 _ (q_pd 140 116 rfl)).trans (hA29)
                refine q_gov V (q_runV (As := [.int x2, .int x3, .int x4, .int 0]) (rest := []) (d := 3) (mc := 0) (ms := 0) (ci := 14) C0 V rfl LV_NM_203 (c_DR_add l D g w57 134 136 137 138 139 140 qO4 qA24 qA25 qA26 qA27 qA28 qA29 qA30 qA31 qA32 qA33 x2 x3 x4 hO4 hA25 hA26 hA27 hA28 hA29 (q_pd 136 137 rfl) (q_pd 136 138 rfl) (q_pd 136 139 rfl) (q_pd 136 140 rfl) (q_pd 137 138 rfl) (q_pd 137 139 rfl) (q_pd 137 140 rfl) (q_pd 138 139 rfl) (q_pd 138 140 rfl) (q_pd 139 140 rfl) (q_Ile (x := 0) (y := x2.toInt) (by decide) rfl (by have t1 : 0 ≤ x2.toInt := q_nltI c14; have t2 : x2.toInt ≤ 9 := q_leI c15; omega)) c15 (q_Ile (x := 0) (y := x3.toInt) (by decide) rfl (by have t1 : 0 ≤ x3.toInt := q_nltI c30; have t2 : x3.toInt ≤ 9 := q_leI c31; omega)) c31 (q_Ile (x := 0) (y := x4.toInt) (by decide) rfl (by have t1 : 0 ≤ x4.toInt := q_nltI c46; have t2 : x4.toInt ≤ 9 := q_leI c47; omega)) c47 _) rfl rfl hO4 rfl hl.1 rfl (Nat.le_of_ble_eq_true rfl) ⟨by decide, by decide⟩ ⟨Nat.le_of_ble_eq_true rfl, Nat.le_of_ble_eq_true rfl⟩ d_14_23_71) (fun u74 H locs hp73 V => ?_)
                obtain ⟨hg75, hO4, hA25, hA26, hA27, hA28, hA29⟩ := hp73
                replace hF := q_gc hF hg75 (q_al (Nat.le_of_ble_eq_true rfl) (q_al (Nat.le_of_ble_eq_true rfl) (q_al (Nat.le_of_ble_eq_true rfl) (q_al (Nat.le_of_ble_eq_true rfl) (q_al (Nat.le_of_ble_eq_true rfl) (q_al (Nat.le_of_ble_eq_true rfl) (fun _ h => absurd h List.not_mem_nil)))))))
                refine lv_goto (tgt := 107) hx hb d_14_23_74 (by decide) ?_
                refine lv_aload_n hx hb d_14_23_107 rfl (lv_at hl 0 rfl) ?_
                refine lv_aload_n hx hb d_14_23_108 rfl (lv_at hl 0 rfl) ?_
                replace hO0 := (hg75 _ (q_nc (q_pd 116 134 rfl) (q_nc (q_pd 116 136 rfl) (q_nc (q_pd 116 137 rfl) (q_nc (q_pd 116 138 rfl) (q_nc (q_pd 116 139 rfl) (q_nc (q_pd 116 140 rfl) List.not_mem_nil))))))).trans (hO0)
                refine q_get (ci := 12) (j := 6) (v := .ref qO4) C0 V i_NM rfl rfl hO0 (by decide) w_2304 rfl d_14_23_109 ?_
                refine q_getN (ci := 14) (j := 0) (v := .int 0) C0 V i_DR rfl rfl hO4 (by decide) wo_1997 rfl d_14_23_112 ?_
                refine q_put (ci := 12) (j := 0) (v := .int 0) (ty := .int) C0 V i_NM o_NM n_NM rfl rfl hO0 (by decide) w_2298 rfl rfl rfl rfl (Nat.le_of_ble_eq_true rfl) d_14_23_115 (fun H locs w76 hu77 hO0 V => ?_)
                replace hO0 : w76[116]? = (some (qO0, .inr (12, [.int 0, .ref qA1, .int 0, .ref qA2, .int 0, .ref qO3, .ref qO4, .ref qO5, .ref qO6, .ref qO7, .ref qA8, .ref qA9])) : Option (Nat × va_E)) := hO0
                replace hF := q_gs hF hu77 (Nat.le_of_ble_eq_true rfl)
                exact q_retv C0 V (⟨0, 0, 0, hO0, (show ((0 : Int32).toInt = 0 ∧ ((0 ≤ x1.toInt ∧ x1.toInt ≤ 3) ∧ (0 ≤ x2.toInt ∧ x2.toInt ≤ 9) ∧ (0 ≤ x3.toInt ∧ x3.toInt ≤ 9) ∧ (0 ≤ x4.toInt ∧ x4.toInt ≤ 9)) ∧ ¬ (x1.toInt = 3)) ∨ ((0 : Int32).toInt = 1 ∧ ¬ ((0 ≤ x1.toInt ∧ x1.toInt ≤ 3) ∧ (0 ≤ x2.toInt ∧ x2.toInt ≤ 9) ∧ (0 ≤ x3.toInt ∧ x3.toInt ≤ 9) ∧ (0 ≤ x4.toInt ∧ x4.toInt ≤ 9))) ∨ ((0 : Int32).toInt = 2 ∧ ((0 ≤ x1.toInt ∧ x1.toInt ≤ 3) ∧ (0 ≤ x2.toInt ∧ x2.toInt ≤ 9) ∧ (0 ≤ x3.toInt ∧ x3.toInt ≤ 9) ∧ (0 ≤ x4.toInt ∧ x4.toInt ≤ 9)) ∧ x1.toInt = 3) from by have t1 : 0 ≤ x1.toInt := q_nltI c1; have t2 : x1.toInt ≤ 3 := q_nltI c5; have t3 : 0 ≤ x2.toInt := q_nltI c14; have t4 : x2.toInt ≤ 9 := q_leI c15; have t5 : 0 ≤ x3.toInt := q_nltI c30; have t6 : x3.toInt ≤ 9 := q_leI c31; have t7 : 0 ≤ x4.toInt := q_nltI c46; have t8 : x4.toInt ≤ 9 := q_leI c47; have t9 : x1.toInt < 2 := q_nleI c60; have t10 : x1.toInt ≠ 1 := q_neI c72; have e0 : (0 : Int32).toInt = 0 := (by decide); omega), hF⟩) d_14_23_118
              ·
                refine lv_iconst (v := 1) hx hb d_14_23_66 (by decide) ?_
                refine lv_goto (tgt := 71) hx hb d_14_23_67 (by decide) ?_
                replace hO4 := (hu58 _ (q_pd 134 116 rfl)).trans (hO4)
                replace hA25 := (hu58 _ (q_pd 136 116 rfl)).trans (hA25)
                replace hA26 := (hu58 _ (q_pd 137 116 rfl)).trans (hA26)
                replace hA27 := (hu58 _ (q_pd 138 116 rfl)).trans (hA27)
                replace hA28 := (hu58 _ (q_pd 139 116 rfl)).trans (hA28)
                replace hA29 := (hu58 _ (q_pd 140 116 rfl)).trans (hA29)
                refine q_gov V (q_runV (As := [.int x2, .int x3, .int x4, .int 1]) (rest := []) (d := 3) (mc := 0) (ms := 0) (ci := 14) C0 V rfl LV_NM_203 (c_DR_add_2 l D g w57 134 136 137 138 139 140 qO4 qA24 qA25 qA26 qA27 qA28 qA29 qA30 qA31 qA32 qA33 x2 x3 x4 hO4 hA25 hA26 hA27 hA28 hA29 (q_pd 136 137 rfl) (q_pd 136 138 rfl) (q_pd 136 139 rfl) (q_pd 136 140 rfl) (q_pd 137 138 rfl) (q_pd 137 139 rfl) (q_pd 137 140 rfl) (q_pd 138 139 rfl) (q_pd 138 140 rfl) (q_pd 139 140 rfl) (q_Ile (x := 0) (y := x2.toInt) (by decide) rfl (by have t1 : 0 ≤ x2.toInt := q_nltI c14; have t2 : x2.toInt ≤ 9 := q_leI c15; omega)) c15 (q_Ile (x := 0) (y := x3.toInt) (by decide) rfl (by have t1 : 0 ≤ x3.toInt := q_nltI c30; have t2 : x3.toInt ≤ 9 := q_leI c31; omega)) c31 (q_Ile (x := 0) (y := x4.toInt) (by decide) rfl (by have t1 : 0 ≤ x4.toInt := q_nltI c46; have t2 : x4.toInt ≤ 9 := q_leI c47; omega)) c47 _) rfl rfl hO4 rfl hl.1 rfl (Nat.le_of_ble_eq_true rfl) ⟨by decide, by decide⟩ ⟨Nat.le_of_ble_eq_true rfl, Nat.le_of_ble_eq_true rfl⟩ d_14_23_71) (fun u79 H locs hp78 V => ?_)
                obtain ⟨hg80, hO4, hA25, hA26, hA27, hA28, hA29⟩ := hp78
                replace hF := q_gc hF hg80 (q_al (Nat.le_of_ble_eq_true rfl) (q_al (Nat.le_of_ble_eq_true rfl) (q_al (Nat.le_of_ble_eq_true rfl) (q_al (Nat.le_of_ble_eq_true rfl) (q_al (Nat.le_of_ble_eq_true rfl) (q_al (Nat.le_of_ble_eq_true rfl) (fun _ h => absurd h List.not_mem_nil)))))))
                refine lv_goto (tgt := 107) hx hb d_14_23_74 (by decide) ?_
                refine lv_aload_n hx hb d_14_23_107 rfl (lv_at hl 0 rfl) ?_
                refine lv_aload_n hx hb d_14_23_108 rfl (lv_at hl 0 rfl) ?_
                replace hO0 := (hg80 _ (q_nc (q_pd 116 134 rfl) (q_nc (q_pd 116 136 rfl) (q_nc (q_pd 116 137 rfl) (q_nc (q_pd 116 138 rfl) (q_nc (q_pd 116 139 rfl) (q_nc (q_pd 116 140 rfl) List.not_mem_nil))))))).trans (hO0)
                refine q_get (ci := 12) (j := 6) (v := .ref qO4) C0 V i_NM rfl rfl hO0 (by decide) w_2304 rfl d_14_23_109 ?_
                refine q_getN (ci := 14) (j := 0) (v := .int 0) C0 V i_DR rfl rfl hO4 (by decide) wo_1997 rfl d_14_23_112 ?_
                refine q_put (ci := 12) (j := 0) (v := .int 0) (ty := .int) C0 V i_NM o_NM n_NM rfl rfl hO0 (by decide) w_2298 rfl rfl rfl rfl (Nat.le_of_ble_eq_true rfl) d_14_23_115 (fun H locs w81 hu82 hO0 V => ?_)
                replace hO0 : w81[116]? = (some (qO0, .inr (12, [.int 0, .ref qA1, .int 0, .ref qA2, .int 0, .ref qO3, .ref qO4, .ref qO5, .ref qO6, .ref qO7, .ref qA8, .ref qA9])) : Option (Nat × va_E)) := hO0
                replace hF := q_gs hF hu82 (Nat.le_of_ble_eq_true rfl)
                exact q_retv C0 V (⟨0, 0, 0, hO0, (show ((0 : Int32).toInt = 0 ∧ ((0 ≤ x1.toInt ∧ x1.toInt ≤ 3) ∧ (0 ≤ x2.toInt ∧ x2.toInt ≤ 9) ∧ (0 ≤ x3.toInt ∧ x3.toInt ≤ 9) ∧ (0 ≤ x4.toInt ∧ x4.toInt ≤ 9)) ∧ ¬ (x1.toInt = 3)) ∨ ((0 : Int32).toInt = 1 ∧ ¬ ((0 ≤ x1.toInt ∧ x1.toInt ≤ 3) ∧ (0 ≤ x2.toInt ∧ x2.toInt ≤ 9) ∧ (0 ≤ x3.toInt ∧ x3.toInt ≤ 9) ∧ (0 ≤ x4.toInt ∧ x4.toInt ≤ 9))) ∨ ((0 : Int32).toInt = 2 ∧ ((0 ≤ x1.toInt ∧ x1.toInt ≤ 3) ∧ (0 ≤ x2.toInt ∧ x2.toInt ≤ 9) ∧ (0 ≤ x3.toInt ∧ x3.toInt ≤ 9) ∧ (0 ≤ x4.toInt ∧ x4.toInt ≤ 9)) ∧ x1.toInt = 3) from by have t1 : 0 ≤ x1.toInt := q_nltI c1; have t2 : x1.toInt ≤ 3 := q_nltI c5; have t3 : 0 ≤ x2.toInt := q_nltI c14; have t4 : x2.toInt ≤ 9 := q_leI c15; have t5 : 0 ≤ x3.toInt := q_nltI c30; have t6 : x3.toInt ≤ 9 := q_leI c31; have t7 : 0 ≤ x4.toInt := q_nltI c46; have t8 : x4.toInt ≤ 9 := q_leI c47; have t9 : x1.toInt < 2 := q_nleI c60; have t10 : x1.toInt = 1 := q_eqI c72; have e0 : (0 : Int32).toInt = 0 := (by decide); omega), hF⟩) d_14_23_118
          ·
            refine lv_if_eq (tgt := 36) hx hb d_14_23_29 (by decide) (fun c83 => absurd c83 (by decide)) (fun c83 => ?_)
            refine lv_iconst (v := 1) hx hb d_14_23_32 (by decide) ?_
            refine lv_goto (tgt := 37) hx hb d_14_23_33 (by decide) ?_
            refine q_put (ci := 12) (j := 0) (v := .int 1) (ty := .int) C0 V i_NM o_NM n_NM rfl rfl hO0 (by decide) w_2298 rfl rfl rfl rfl (Nat.le_of_ble_eq_true rfl) d_14_23_37 (fun H locs w84 hu85 hO0 V => ?_)
            replace hO0 : w84[116]? = (some (qO0, .inr (12, [.int 1, .ref qA1, .int 0, .ref qA2, .int 0, .ref qO3, .ref qO4, .ref qO5, .ref qO6, .ref qO7, .ref qA8, .ref qA9])) : Option (Nat × va_E)) := hO0
            replace hF := q_gs hF hu85 (Nat.le_of_ble_eq_true rfl)
            refine lv_aload_n hx hb d_14_23_40 rfl (lv_at hl 0 rfl) ?_
            refine q_get (ci := 12) (j := 0) (v := .int 1) C0 V i_NM rfl rfl hO0 (by decide) w_2298 rfl d_14_23_41 ?_
            refine lv_if_le (tgt := 48) hx hb d_14_23_44 (by decide) (fun c86 => absurd c86 (by decide)) (fun c86 => ?_)
            exact q_retv C0 V (⟨1, 0, 0, hO0, (show ((1 : Int32).toInt = 0 ∧ ((0 ≤ x1.toInt ∧ x1.toInt ≤ 3) ∧ (0 ≤ x2.toInt ∧ x2.toInt ≤ 9) ∧ (0 ≤ x3.toInt ∧ x3.toInt ≤ 9) ∧ (0 ≤ x4.toInt ∧ x4.toInt ≤ 9)) ∧ ¬ (x1.toInt = 3)) ∨ ((1 : Int32).toInt = 1 ∧ ¬ ((0 ≤ x1.toInt ∧ x1.toInt ≤ 3) ∧ (0 ≤ x2.toInt ∧ x2.toInt ≤ 9) ∧ (0 ≤ x3.toInt ∧ x3.toInt ≤ 9) ∧ (0 ≤ x4.toInt ∧ x4.toInt ≤ 9))) ∨ ((1 : Int32).toInt = 2 ∧ ((0 ≤ x1.toInt ∧ x1.toInt ≤ 3) ∧ (0 ≤ x2.toInt ∧ x2.toInt ≤ 9) ∧ (0 ≤ x3.toInt ∧ x3.toInt ≤ 9) ∧ (0 ≤ x4.toInt ∧ x4.toInt ≤ 9)) ∧ x1.toInt = 3) from by have t1 : 0 ≤ x1.toInt := q_nltI c1; have t2 : x1.toInt ≤ 3 := q_nltI c5; have t3 : 0 ≤ x2.toInt := q_nltI c14; have t4 : x2.toInt ≤ 9 := q_leI c15; have t5 : 0 ≤ x3.toInt := q_nltI c30; have t6 : x3.toInt ≤ 9 := q_leI c31; have t7 : 0 ≤ x4.toInt := q_nltI c49; have t8 : 9 < x4.toInt := q_nleI c50; have e0 : (1 : Int32).toInt = 1 := (by decide); omega), hF⟩) d_14_23_47
        ·
          refine lv_if_ne (tgt := 32) hx hb d_14_23_21 (by decide) (fun c87 => ?_) (fun c87 => absurd c87 (by decide))
          refine lv_iconst (v := 1) hx hb d_14_23_32 (by decide) ?_
          refine lv_goto (tgt := 37) hx hb d_14_23_33 (by decide) ?_
          refine q_put (ci := 12) (j := 0) (v := .int 1) (ty := .int) C0 V i_NM o_NM n_NM rfl rfl hO0 (by decide) w_2298 rfl rfl rfl rfl (Nat.le_of_ble_eq_true rfl) d_14_23_37 (fun H locs w88 hu89 hO0 V => ?_)
          replace hO0 : w88[116]? = (some (qO0, .inr (12, [.int 1, .ref qA1, .int 0, .ref qA2, .int 0, .ref qO3, .ref qO4, .ref qO5, .ref qO6, .ref qO7, .ref qA8, .ref qA9])) : Option (Nat × va_E)) := hO0
          replace hF := q_gs hF hu89 (Nat.le_of_ble_eq_true rfl)
          refine lv_aload_n hx hb d_14_23_40 rfl (lv_at hl 0 rfl) ?_
          refine q_get (ci := 12) (j := 0) (v := .int 1) C0 V i_NM rfl rfl hO0 (by decide) w_2298 rfl d_14_23_41 ?_
          refine lv_if_le (tgt := 48) hx hb d_14_23_44 (by decide) (fun c90 => absurd c90 (by decide)) (fun c90 => ?_)
          exact q_retv C0 V (⟨1, 0, 0, hO0, (show ((1 : Int32).toInt = 0 ∧ ((0 ≤ x1.toInt ∧ x1.toInt ≤ 3) ∧ (0 ≤ x2.toInt ∧ x2.toInt ≤ 9) ∧ (0 ≤ x3.toInt ∧ x3.toInt ≤ 9) ∧ (0 ≤ x4.toInt ∧ x4.toInt ≤ 9)) ∧ ¬ (x1.toInt = 3)) ∨ ((1 : Int32).toInt = 1 ∧ ¬ ((0 ≤ x1.toInt ∧ x1.toInt ≤ 3) ∧ (0 ≤ x2.toInt ∧ x2.toInt ≤ 9) ∧ (0 ≤ x3.toInt ∧ x3.toInt ≤ 9) ∧ (0 ≤ x4.toInt ∧ x4.toInt ≤ 9))) ∨ ((1 : Int32).toInt = 2 ∧ ((0 ≤ x1.toInt ∧ x1.toInt ≤ 3) ∧ (0 ≤ x2.toInt ∧ x2.toInt ≤ 9) ∧ (0 ≤ x3.toInt ∧ x3.toInt ≤ 9) ∧ (0 ≤ x4.toInt ∧ x4.toInt ≤ 9)) ∧ x1.toInt = 3) from by have t1 : 0 ≤ x1.toInt := q_nltI c1; have t2 : x1.toInt ≤ 3 := q_nltI c5; have t3 : 0 ≤ x2.toInt := q_nltI c14; have t4 : x2.toInt ≤ 9 := q_leI c15; have t5 : 0 ≤ x3.toInt := q_nltI c33; have t6 : 9 < x3.toInt := q_nleI c34; have e0 : (1 : Int32).toInt = 1 := (by decide); omega), hF⟩) d_14_23_47
      ·
        refine lv_if_ne (tgt := 32) hx hb d_14_23_14 (by decide) (fun c91 => ?_) (fun c91 => absurd c91 (by decide))
        refine lv_iconst (v := 1) hx hb d_14_23_32 (by decide) ?_
        refine lv_goto (tgt := 37) hx hb d_14_23_33 (by decide) ?_
        refine q_put (ci := 12) (j := 0) (v := .int 1) (ty := .int) C0 V i_NM o_NM n_NM rfl rfl hO0 (by decide) w_2298 rfl rfl rfl rfl (Nat.le_of_ble_eq_true rfl) d_14_23_37 (fun H locs w92 hu93 hO0 V => ?_)
        replace hO0 : w92[116]? = (some (qO0, .inr (12, [.int 1, .ref qA1, .int 0, .ref qA2, .int 0, .ref qO3, .ref qO4, .ref qO5, .ref qO6, .ref qO7, .ref qA8, .ref qA9])) : Option (Nat × va_E)) := hO0
        replace hF := q_gs hF hu93 (Nat.le_of_ble_eq_true rfl)
        refine lv_aload_n hx hb d_14_23_40 rfl (lv_at hl 0 rfl) ?_
        refine q_get (ci := 12) (j := 0) (v := .int 1) C0 V i_NM rfl rfl hO0 (by decide) w_2298 rfl d_14_23_41 ?_
        refine lv_if_le (tgt := 48) hx hb d_14_23_44 (by decide) (fun c94 => absurd c94 (by decide)) (fun c94 => ?_)
        exact q_retv C0 V (⟨1, 0, 0, hO0, (show ((1 : Int32).toInt = 0 ∧ ((0 ≤ x1.toInt ∧ x1.toInt ≤ 3) ∧ (0 ≤ x2.toInt ∧ x2.toInt ≤ 9) ∧ (0 ≤ x3.toInt ∧ x3.toInt ≤ 9) ∧ (0 ≤ x4.toInt ∧ x4.toInt ≤ 9)) ∧ ¬ (x1.toInt = 3)) ∨ ((1 : Int32).toInt = 1 ∧ ¬ ((0 ≤ x1.toInt ∧ x1.toInt ≤ 3) ∧ (0 ≤ x2.toInt ∧ x2.toInt ≤ 9) ∧ (0 ≤ x3.toInt ∧ x3.toInt ≤ 9) ∧ (0 ≤ x4.toInt ∧ x4.toInt ≤ 9))) ∨ ((1 : Int32).toInt = 2 ∧ ((0 ≤ x1.toInt ∧ x1.toInt ≤ 3) ∧ (0 ≤ x2.toInt ∧ x2.toInt ≤ 9) ∧ (0 ≤ x3.toInt ∧ x3.toInt ≤ 9) ∧ (0 ≤ x4.toInt ∧ x4.toInt ≤ 9)) ∧ x1.toInt = 3) from by have t1 : 0 ≤ x1.toInt := q_nltI c1; have t2 : x1.toInt ≤ 3 := q_nltI c5; have t3 : 0 ≤ x2.toInt := q_nltI c17; have t4 : 9 < x2.toInt := q_nleI c18; have e0 : (1 : Int32).toInt = 1 := (by decide); omega), hF⟩) d_14_23_47
