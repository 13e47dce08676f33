set_option maxRecDepth 100000 in
set_option maxHeartbeats 4000000 in
theorem c_FR_cut (l : Launch) (D : va_G) (g : Nat → ClassId) (ws : va_W) (kO0 kA3 kA6 qO0 qA1 qA2 qA3 qA4 qA5 qA6 qA7 : Nat) (hO0 : ws[kO0]? = (some (qO0, .inr (15, [.int 0, .ref qA1, .ref qA2, .ref qA3, .ref qA4, .ref qA5, .ref qA6, .ref qA7, .int 0, .int 0, .int 0, .long 0, .int 52, .int 2047, .long 0, .int (-1074), .long 0, .int 0])) : Option (Nat × va_E))) (hA3 : ws[kA3]? = (some (qA3, .inl (g 0, 1404, .inl (fun _ => 0))) : Option (Nat × va_E))) (hA6 : ws[kA6]? = (some (qA6, .inl (g 0, 1404, .inl (fun _ => 0))) : Option (Nat × va_E))) (n_A3_A6 : kA3 ≠ kA6) : q_mV l y_FR_cut prog_17_method_11_code 5 1 0 0 D g [.ref qO0, .int 6, .int 0] ws (fun u => q_un ws u [kA6] ∧ u[kA6]? = (some (qA6, .inl (g 0, 1404, .inl (fun _ => 0))) : Option (Nat × va_E))) := by
  intro sz
  refine q_into (by decide) (Nat.le_of_ble_eq_true rfl) ?_
  intro p e s m below meth c ls hsz C0 V hl
  have hx := C0.1
  have hb := C0.2.1
  have hl : lv_has ls 5 [(0, .ref qO0), (1, .int 6), (2, .int 0)] := hl
  have n_O0_A6 := Ne.symm (q_df hA6 hO0)
  have hF : q_un ws ws [kA6] := q_u0
  refine lv_iconst (v := 0) hx hb d_17_11_0 (by decide) ?_
  refine lv_istore_n (lv' := [(3, .int 0), (0, .ref qO0), (1, .int 6), (2, .int 0)]) hx hb d_17_11_1 rfl hl (by decide) rfl (fun ls hl => ?_)
  refine q_loop (X := Int32) (fun z H locs ls w2 => (0 ≤ z.toInt ∧ (z.toInt ≤ 1404 ∨ z.toInt = 0)) ∧ q_Wd D g (va_A ws sz) s w2 H locs ∧ lv_has ls 5 [(3, .int z), (0, .ref qO0), (1, .int 6), (2, .int 0)] ∧ q_un ws w2 [kA6] ∧ w2[kO0]? = (some (qO0, .inr (15, [.int 0, .ref qA1, .ref qA2, .ref qA3, .ref qA4, .ref qA5, .ref qA6, .ref qA7, .int 0, .int 0, .int 0, .long 0, .int 52, .int 2047, .long 0, .int (-1074), .long 0, .int 0])) : Option (Nat × va_E)) ∧ w2[kA3]? = (some (qA3, .inl (g 0, 1404, .inl (fun _ => 0))) : Option (Nat × va_E)) ∧ w2[kA6]? = (some (qA6, .inl (g 0, 1404, .inl (fun _ => 0))) : Option (Nat × va_E))) (fun z => (1404 - z.toInt).toNat) ?_ ((0 : Int32)) _ _ _ ws ⟨⟨by decide, Or.inr (by decide)⟩, V, hl, hF, hO0, hA3, hA6⟩
  rintro lx1 H locs ls w2 ⟨i3, V, hl, hF, hO0, hA3, hA6⟩ ih4
  replace i3 : 0 ≤ lx1.toInt ∧ (lx1.toInt ≤ 1404 ∨ lx1.toInt = 0) := i3
  replace hl : lv_has ls 5 [(3, .int lx1), (0, .ref qO0), (1, .int 6), (2, .int 0)] := hl
  replace hO0 : w2[kO0]? = (some (qO0, .inr (15, [.int 0, .ref qA1, .ref qA2, .ref qA3, .ref qA4, .ref qA5, .ref qA6, .ref qA7, .int 0, .int 0, .int 0, .long 0, .int 52, .int 2047, .long 0, .int (-1074), .long 0, .int 0])) : Option (Nat × va_E)) := hO0
  replace hA3 : w2[kA3]? = (some (qA3, .inl (g 0, 1404, .inl (fun _ => 0))) : Option (Nat × va_E)) := hA3
  replace hA6 : w2[kA6]? = (some (qA6, .inl (g 0, 1404, .inl (fun _ => 0))) : Option (Nat × va_E)) := hA6
  refine lv_iload_n hx hb d_17_11_2 rfl (lv_at hl 0 rfl) ?_
  refine lv_sipush (v := 1404) hx hb d_17_11_3 (by decide) ?_
  refine lv_icmp_ge (tgt := 36) hx hb d_17_11_6 (by decide) (fun c5 => ?_) (fun c5 => ?_)
  ·
    refine lv_iload_n hx hb d_17_11_36 rfl (lv_at hl 2 rfl) ?_
    refine lv_istore_n (lv' := [(3, .int 6), (0, .ref qO0), (1, .int 6), (2, .int 0)]) hx hb d_17_11_37 rfl hl (by decide) rfl (fun ls hl => ?_)
    refine lv_iload_n hx hb d_17_11_38 rfl (lv_at hl 3 rfl) ?_
    refine lv_istore (lv' := [(4, .int 0), (3, .int 6), (0, .ref qO0), (1, .int 6), (2, .int 0)]) hx hb d_17_11_39 hl (by decide) rfl (fun ls hl => ?_)
    refine lv_iload hx hb d_17_11_41 (lv_at hl 0 rfl) ?_
    refine lv_if_eq (tgt := 97) hx hb d_17_11_43 (by decide) (fun c6 => ?_) (fun c6 => absurd (by decide) c6)
    exact q_retv C0 V (⟨hF, hA6⟩) d_17_11_97
  ·
    refine lv_aload_n hx hb d_17_11_9 rfl (lv_at hl 1 rfl) ?_
    refine q_get (ci := 15) (j := 6) (v := .ref qA6) C0 V i_FR rfl rfl hO0 (by decide) w_2081 rfl d_17_11_10 ?_
    refine lv_iload_n hx hb d_17_11_13 rfl (lv_at hl 0 rfl) ?_
    refine lv_iload_n hx hb d_17_11_14 rfl (lv_at hl 0 rfl) ?_
    refine lv_iload_n hx hb d_17_11_15 rfl (lv_at hl 2 rfl) ?_
    refine lv_icmp_ge (tgt := 23) hx hb d_17_11_16 (by decide) (fun c7 => ?_) (fun c7 => ?_)
    ·
      refine lv_aload_n hx hb d_17_11_23 rfl (lv_at hl 1 rfl) ?_
      refine q_get (ci := 15) (j := 3) (v := .ref qA3) C0 V i_FR rfl rfl hO0 (by decide) w_2078 rfl d_17_11_24 ?_
      refine lv_iload_n hx hb d_17_11_27 rfl (lv_at hl 0 rfl) ?_
      refine q_iald C0 V hA3 (q_ix (x := lx1.toInt) rfl (by have t1 : lx1.toInt < 1404 := q_nleI c5; have t2 : 6 ≤ lx1.toInt := q_leI c7; omega) (by have t1 : lx1.toInt < 1404 := q_nleI c5; have t2 : 6 ≤ lx1.toInt := q_leI c7; omega)) d_17_11_28 ?_
      refine q_ti (v := 0) (by first | rfl | decide | simp [upd, vp_updL, sb_cl0]) ?_
      refine q_iast C0 V hA6 (q_ix (x := lx1.toInt) rfl (by have t1 : lx1.toInt < 1404 := q_nleI c5; have t2 : 6 ≤ lx1.toInt := q_leI c7; omega) (by have t1 : lx1.toInt < 1404 := q_nleI c5; have t2 : 6 ≤ lx1.toInt := q_leI c7; omega)) d_17_11_29 (fun H locs w8 hu9 hA6 V => ?_)
      replace hA6 := q_re (y := (qA6, .inl (g 0, 1404, .inl (fun _ => 0)))) hA6 (q_eI q_upd0)
      replace hA6 : w8[kA6]? = (some (qA6, .inl (g 0, 1404, .inl (fun _ => 0))) : Option (Nat × va_E)) := hA6
      replace hF := q_us hF hu9 (.head _)
      refine lv_iinc (v := lx1 + 1) (lv' := [(3, .int (lx1 + 1)), (0, .ref qO0), (1, .int 6), (2, .int 0)]) hx hb d_17_11_30 hl (k := 0) rfl (rfl) (by decide) rfl (fun ls hl => ?_)
      refine lv_goto (tgt := 2) hx hb d_17_11_33 (by decide) ?_
      replace hO0 := (hu9 _ n_O0_A6).trans (hO0)
      replace hA3 := (hu9 _ n_A3_A6).trans (hA3)
      exact ih4 ((lx1 + 1 : Int32)) _ _ _ _ (show (1404 - (lx1 + 1).toInt).toNat < (1404 - lx1.toInt).toNat from by have t1 : lx1.toInt < 1404 := q_nleI c5; have t2 : 6 ≤ lx1.toInt := q_leI c7; have e : (lx1 + 1).toInt = (lx1.toInt + 1) := (q_addI (x := lx1.toInt) (y := 1) rfl (by decide) (by have t1 : lx1.toInt < 1404 := q_nleI c5; have t2 : 6 ≤ lx1.toInt := q_leI c7; omega) (by have t1 : lx1.toInt < 1404 := q_nleI c5; have t2 : 6 ≤ lx1.toInt := q_leI c7; omega)); omega) ⟨(show 0 ≤ (lx1 + 1).toInt ∧ ((lx1 + 1).toInt ≤ 1404 ∨ (lx1 + 1).toInt = 0) from by have t1 : lx1.toInt < 1404 := q_nleI c5; have t2 : 6 ≤ lx1.toInt := q_leI c7; have e : (lx1 + 1).toInt = (lx1.toInt + 1) := (q_addI (x := lx1.toInt) (y := 1) rfl (by decide) (by have t1 : lx1.toInt < 1404 := q_nleI c5; have t2 : 6 ≤ lx1.toInt := q_leI c7; omega) (by have t1 : lx1.toInt < 1404 := q_nleI c5; have t2 : 6 ≤ lx1.toInt := q_leI c7; omega)); omega), V, q_lw hl (q_lw1 0 rfl (q_lw1 1 rfl (q_lw1 2 rfl (q_lw1 3 rfl q_lw0)))), hF, hO0, hA3, hA6⟩
    ·
      refine lv_iconst (v := 0) hx hb d_17_11_19 (by decide) ?_
      refine lv_goto (tgt := 29) hx hb d_17_11_20 (by decide) ?_
      refine q_iast C0 V hA6 (q_ix (x := lx1.toInt) rfl (by have t1 : lx1.toInt < 1404 := q_nleI c5; have t2 : lx1.toInt < 6 := q_nleI c7; omega) (by have t1 : lx1.toInt < 1404 := q_nleI c5; have t2 : lx1.toInt < 6 := q_nleI c7; omega)) d_17_11_29 (fun H locs w10 hu11 hA6 V => ?_)
      replace hA6 := q_re (y := (qA6, .inl (g 0, 1404, .inl (fun _ => 0)))) hA6 (q_eI q_upd0)
      replace hA6 : w10[kA6]? = (some (qA6, .inl (g 0, 1404, .inl (fun _ => 0))) : Option (Nat × va_E)) := hA6
      replace hF := q_us hF hu11 (.head _)
      refine lv_iinc (v := lx1 + 1) (lv' := [(3, .int (lx1 + 1)), (0, .ref qO0), (1, .int 6), (2, .int 0)]) hx hb d_17_11_30 hl (k := 0) rfl (rfl) (by decide) rfl (fun ls hl => ?_)
      refine lv_goto (tgt := 2) hx hb d_17_11_33 (by decide) ?_
      replace hO0 := (hu11 _ n_O0_A6).trans (hO0)
      replace hA3 := (hu11 _ n_A3_A6).trans (hA3)
      exact ih4 ((lx1 + 1 : Int32)) _ _ _ _ (show (1404 - (lx1 + 1).toInt).toNat < (1404 - lx1.toInt).toNat from by have t1 : lx1.toInt < 1404 := q_nleI c5; have t2 : lx1.toInt < 6 := q_nleI c7; have e : (lx1 + 1).toInt = (lx1.toInt + 1) := (q_addI (x := lx1.toInt) (y := 1) rfl (by decide) (by have t1 : lx1.toInt < 1404 := q_nleI c5; have t2 : lx1.toInt < 6 := q_nleI c7; omega) (by have t1 : lx1.toInt < 1404 := q_nleI c5; have t2 : lx1.toInt < 6 := q_nleI c7; omega)); omega) ⟨(show 0 ≤ (lx1 + 1).toInt ∧ ((lx1 + 1).toInt ≤ 1404 ∨ (lx1 + 1).toInt = 0) from by have t1 : lx1.toInt < 1404 := q_nleI c5; have t2 : lx1.toInt < 6 := q_nleI c7; have e : (lx1 + 1).toInt = (lx1.toInt + 1) := (q_addI (x := lx1.toInt) (y := 1) rfl (by decide) (by have t1 : lx1.toInt < 1404 := q_nleI c5; have t2 : lx1.toInt < 6 := q_nleI c7; omega) (by have t1 : lx1.toInt < 1404 := q_nleI c5; have t2 : lx1.toInt < 6 := q_nleI c7; omega)); omega), V, q_lw hl (q_lw1 0 rfl (q_lw1 1 rfl (q_lw1 2 rfl (q_lw1 3 rfl q_lw0)))), hF, hO0, hA3, hA6⟩
theorem d_17_17_0 : decode prog_17_method_17_code 0 = .ok (.aload_n 0, 1) := by decide +kernel
theorem d_17_17_1 : decode prog_17_method_17_code 1 = .ok (.iconst 0, 1) := by decide +kernel
theorem d_17_17_2 : decode prog_17_method_17_code 2 = .ok (.putfield 107, 3) := by decide +kernel
theorem w_2084 : (Cond.fieldLink "NumberHouseModel$FloatRows" (107 : Nat) "NumberHouseModel$FloatRows" "length" "I") ∈ q_tbl := q_of 2084 (by decide +kernel) (by decide +kernel)
theorem d_17_17_5 : decode prog_17_method_17_code 5 = .ok (.aload_n 0, 1) := by decide +kernel
theorem d_17_17_6 : decode prog_17_method_17_code 6 = .ok (.getfield 41, 3) := by decide +kernel
theorem d_17_17_9 : decode prog_17_method_17_code 9 = .ok (.ifCond .eq 9, 3) := by decide +kernel
theorem d_17_17_18 : decode prog_17_method_17_code 18 = .ok (.return_, 1) := by decide +kernel
def y_FR_begin : MethodName := ⟨"NumberHouseModel$FloatRows", "begin", "()V"⟩
set_option maxRecDepth 100000 in
set_option maxHeartbeats 4000000 in
theorem c_FR_begin (l : Launch) (D : va_G) (g : Nat → ClassId) (ws : va_W) (kO0 qO0 qA1 qA2 qA3 qA4 qA5 qA6 qA7 : Nat) (hO0 : ws[kO0]? = (some (qO0, .inr (15, [.int 0, .ref qA1, .ref qA2, .ref qA3, .ref qA4, .ref qA5, .ref qA6, .ref qA7, .int 0, .int 0, .int 0, .long 0, .int 52, .int 2047, .long 0, .int (-1074), .long 0, .int 0])) : Option (Nat × va_E))) : q_mV l y_FR_begin prog_17_method_17_code 1 1 0 0 D g [.ref qO0] ws (fun u => q_un ws u [kO0] ∧ u[kO0]? = (some (qO0, .inr (15, [.int 0, .ref qA1, .ref qA2, .ref qA3, .ref qA4, .ref qA5, .ref qA6, .ref qA7, .int 0, .int 0, .int 0, .long 0, .int 52, .int 2047, .long 0, .int (-1074), .long 0, .int 0])) : Option (Nat × va_E))) := by
  intro sz
  refine q_into (by decide) (Nat.le_of_ble_eq_true rfl) ?_
  intro p e s m below meth c ls hsz C0 V hl
  have hx := C0.1
  have hb := C0.2.1
  have hl : lv_has ls 1 [(0, .ref qO0)] := hl
  have hF : q_un ws ws [kO0] := q_u0
  refine lv_aload_n hx hb d_17_17_0 rfl (lv_at hl 0 rfl) ?_
  refine lv_iconst (v := 0) hx hb d_17_17_1 (by decide) ?_
  refine q_put (ci := 15) (j := 8) (v := .int 0) (ty := .int) C0 V i_FR o_FR n_FR rfl rfl hO0 (by decide) w_2084 rfl rfl rfl rfl (Nat.le_of_ble_eq_true rfl) d_17_17_2 (fun H locs w1 hu2 hO0 V => ?_)
  replace hO0 : w1[kO0]? = (some (qO0, .inr (15, [.int 0, .ref qA1, .ref qA2, .ref qA3, .ref qA4, .ref qA5, .ref qA6, .ref qA7, .int 0, .int 0, .int 0, .long 0, .int 52, .int 2047, .long 0, .int (-1074), .long 0, .int 0])) : Option (Nat × va_E)) := hO0
  replace hF := q_us hF hu2 (.head _)
  refine lv_aload_n hx hb d_17_17_5 rfl (lv_at hl 0 rfl) ?_
  refine q_get (ci := 15) (j := 9) (v := .int 0) C0 V i_FR rfl rfl hO0 (by decide) w_2085 rfl d_17_17_6 ?_
  refine lv_if_eq (tgt := 18) hx hb d_17_17_9 (by decide) (fun c3 => ?_) (fun c3 => absurd (by decide) c3)
  exact q_retv C0 V (⟨hF, hO0⟩) d_17_17_18
theorem d_17_27_0 : decode prog_17_method_27_code 0 = .ok (.iload_n 1, 1) := by decide +kernel
theorem d_17_27_1 : decode prog_17_method_27_code 1 = .ok (.sipush 1080, 3) := by decide +kernel
theorem d_17_27_4 : decode prog_17_method_27_code 4 = .ok (.iadd, 1) := by decide +kernel
theorem d_17_27_5 : decode prog_17_method_27_code 5 = .ok (.istore_n 2, 1) := by decide +kernel
theorem d_17_27_6 : decode prog_17_method_27_code 6 = .ok (.iload_n 2, 1) := by decide +kernel
theorem d_17_27_7 : decode prog_17_method_27_code 7 = .ok (.ifCond .lt 10, 3) := by decide +kernel
theorem d_17_27_10 : decode prog_17_method_27_code 10 = .ok (.iload_n 2, 1) := by decide +kernel
theorem d_17_27_11 : decode prog_17_method_27_code 11 = .ok (.sipush 1404, 3) := by decide +kernel
theorem d_17_27_14 : decode prog_17_method_27_code 14 = .ok (.if_icmp .lt 7, 3) := by decide +kernel
theorem d_17_27_21 : decode prog_17_method_27_code 21 = .ok (.aload_n 0, 1) := by decide +kernel
theorem d_17_27_22 : decode prog_17_method_27_code 22 = .ok (.getfield 25, 3) := by decide +kernel
theorem d_17_27_25 : decode prog_17_method_27_code 25 = .ok (.iload_n 2, 1) := by decide +kernel
theorem d_17_27_26 : decode prog_17_method_27_code 26 = .ok (.iaload, 1) := by decide +kernel
theorem d_17_27_27 : decode prog_17_method_27_code 27 = .ok (.ireturn, 1) := by decide +kernel
def y_FR_figureAt : MethodName := ⟨"NumberHouseModel$FloatRows", "figureAt", "(I)I"⟩
set_option maxRecDepth 100000 in
set_option maxHeartbeats 4000000 in
theorem c_FR_figureAt (l : Launch) (D : va_G) (g : Nat → ClassId) (ws : va_W) (kO0 kA6 qO0 qA1 qA2 qA3 qA4 qA5 qA6 qA7 : Nat) (hO0 : ws[kO0]? = (some (qO0, .inr (15, [.int 0, .ref qA1, .ref qA2, .ref qA3, .ref qA4, .ref qA5, .ref qA6, .ref qA7, .int 0, .int 0, .int 0, .long 0, .int 52, .int 2047, .long 0, .int (-1074), .long 0, .int 0])) : Option (Nat × va_E))) (hA6 : ws[kA6]? = (some (qA6, .inl (g 0, 1404, .inl (fun _ => 0))) : Option (Nat × va_E))) : q_mI l y_FR_figureAt prog_17_method_27_code 3 (.int) 1 0 0 D g [.ref qO0, .int 0] ws (fun r u => 0 = r ∧ ws = u) := by
  intro sz
  refine q_into (by decide) (Nat.le_of_ble_eq_true rfl) ?_
  intro p e s m below meth c ls hsz C0 V hl
  have hx := C0.1
  have hb := C0.2.1
  have hl : lv_has ls 3 [(0, .ref qO0), (1, .int 0)] := hl
  refine lv_iload_n hx hb d_17_27_0 rfl (lv_at hl 1 rfl) ?_
  refine lv_sipush (v := 1080) hx hb d_17_27_1 (by decide) ?_
  refine lv_iadd hx hb d_17_27_4 ?_
  refine q_ti (v := 1080) (by decide) ?_
  refine lv_istore_n (lv' := [(2, .int 1080), (0, .ref qO0), (1, .int 0)]) hx hb d_17_27_5 rfl hl (by decide) rfl (fun ls hl => ?_)
  refine lv_iload_n hx hb d_17_27_6 rfl (lv_at hl 0 rfl) ?_
  refine lv_if_lt (tgt := 17) hx hb d_17_27_7 (by decide) (fun c1 => absurd c1 (by decide)) (fun c1 => ?_)
  refine lv_iload_n hx hb d_17_27_10 rfl (lv_at hl 0 rfl) ?_
  refine lv_sipush (v := 1404) hx hb d_17_27_11 (by decide) ?_
  refine lv_icmp_lt (tgt := 21) hx hb d_17_27_14 (by decide) (fun c2 => ?_) (fun c2 => absurd (by decide) c2)
  refine lv_aload_n hx hb d_17_27_21 rfl (lv_at hl 1 rfl) ?_
  refine q_get (ci := 15) (j := 6) (v := .ref qA6) C0 V i_FR rfl rfl hO0 (by decide) w_2081 rfl d_17_27_22 ?_
  refine lv_iload_n hx hb d_17_27_25 rfl (lv_at hl 0 rfl) ?_
  refine q_iald C0 V hA6 (by unfold vp_in; decide) d_17_27_26 ?_
  refine q_ti (v := 0) (by first | rfl | decide | simp [upd, vp_updL, sb_cl0]) ?_
  exact q_reti C0 V (⟨rfl, rfl⟩) d_17_27_27
theorem d_17_16_0 : decode prog_17_method_16_code 0 = .ok (.aload_n 0, 1) := by decide +kernel
theorem d_17_16_1 : decode prog_17_method_16_code 1 = .ok (.getfield 28, 3) := by decide +kernel
theorem d_17_16_4 : decode prog_17_method_16_code 4 = .ok (.aload_n 0, 1) := by decide +kernel
theorem d_17_16_5 : decode prog_17_method_16_code 5 = .ok (.getfield 107, 3) := by decide +kernel
theorem d_17_16_8 : decode prog_17_method_16_code 8 = .ok (.iload_n 1, 1) := by decide +kernel
theorem d_17_16_9 : decode prog_17_method_16_code 9 = .ok (.iastore, 1) := by decide +kernel
theorem d_17_16_10 : decode prog_17_method_16_code 10 = .ok (.aload_n 0, 1) := by decide +kernel
theorem d_17_16_11 : decode prog_17_method_16_code 11 = .ok (.dup, 1) := by decide +kernel
theorem d_17_16_12 : decode prog_17_method_16_code 12 = .ok (.getfield 107, 3) := by decide +kernel
theorem d_17_16_15 : decode prog_17_method_16_code 15 = .ok (.iconst 1, 1) := by decide +kernel
theorem d_17_16_16 : decode prog_17_method_16_code 16 = .ok (.iadd, 1) := by decide +kernel
theorem d_17_16_17 : decode prog_17_method_16_code 17 = .ok (.putfield 107, 3) := by decide +kernel
theorem d_17_16_20 : decode prog_17_method_16_code 20 = .ok (.return_, 1) := by decide +kernel
def y_FR_add : MethodName := ⟨"NumberHouseModel$FloatRows", "add", "(I)V"⟩
set_option maxRecDepth 100000 in
set_option maxHeartbeats 4000000 in
theorem c_FR_add (l : Launch) (D : va_G) (g : Nat → ClassId) (ws : va_W) (kO0 kA7 qO0 qA1 qA2 qA3 qA4 qA5 qA6 qA7 : Nat) (hO0 : ws[kO0]? = (some (qO0, .inr (15, [.int 0, .ref qA1, .ref qA2, .ref qA3, .ref qA4, .ref qA5, .ref qA6, .ref qA7, .int 0, .int 0, .int 0, .long 0, .int 52, .int 2047, .long 0, .int (-1074), .long 0, .int 0])) : Option (Nat × va_E))) (hA7 : ws[kA7]? = (some (qA7, .inl (g 0, 1600, .inl (fun _ => 0))) : Option (Nat × va_E))) : q_mV l y_FR_add prog_17_method_16_code 2 1 0 0 D g [.ref qO0, .int 48] ws (fun u => q_un ws u [kO0, kA7] ∧ u[kO0]? = (some (qO0, .inr (15, [.int 0, .ref qA1, .ref qA2, .ref qA3, .ref qA4, .ref qA5, .ref qA6, .ref qA7, .int 1, .int 0, .int 0, .long 0, .int 52, .int 2047, .long 0, .int (-1074), .long 0, .int 0])) : Option (Nat × va_E)) ∧ u[kA7]? = (some (qA7, .inl (g 0, 1600, .inl (upd (fun _ => 0) 0 48))) : Option (Nat × va_E))) := by
  intro sz
  refine q_into (by decide) (Nat.le_of_ble_eq_true rfl) ?_
  intro p e s m below meth c ls hsz C0 V hl
  have hx := C0.1
  have hb := C0.2.1
  have hl : lv_has ls 2 [(0, .ref qO0), (1, .int 48)] := hl
  have n_A7_O0 := q_df hA7 hO0
  have n_O0_A7 := Ne.symm (q_df hA7 hO0)
  have hF : q_un ws ws [kO0, kA7] := q_u0
  refine lv_aload_n hx hb d_17_16_0 rfl (lv_at hl 0 rfl) ?_
  refine q_get (ci := 15) (j := 7) (v := .ref qA7) C0 V i_FR rfl rfl hO0 (by decide) w_2082 rfl d_17_16_1 ?_
  refine lv_aload_n hx hb d_17_16_4 rfl (lv_at hl 0 rfl) ?_
  refine q_get (ci := 15) (j := 8) (v := .int 0) C0 V i_FR rfl rfl hO0 (by decide) w_2084 rfl d_17_16_5 ?_
  refine lv_iload_n hx hb d_17_16_8 rfl (lv_at hl 1 rfl) ?_
  refine q_iast C0 V hA7 (by unfold vp_in; decide) d_17_16_9 (fun H locs w1 hu2 hA7 V => ?_)
  replace hA7 : w1[kA7]? = (some (qA7, .inl (g 0, 1600, .inl (upd (fun _ => 0) 0 48))) : Option (Nat × va_E)) := hA7
  replace hF := q_us hF hu2 (.tail _ (.head _))
  refine lv_aload_n hx hb d_17_16_10 rfl (lv_at hl 0 rfl) ?_
  refine lv_dup hx hb d_17_16_11 rfl ?_
  replace hO0 := (hu2 _ n_O0_A7).trans (hO0)
  refine q_get (ci := 15) (j := 8) (v := .int 0) C0 V i_FR rfl rfl hO0 (by decide) w_2084 rfl d_17_16_12 ?_
  refine lv_iconst (v := 1) hx hb d_17_16_15 (by decide) ?_
  refine lv_iadd hx hb d_17_16_16 ?_
  refine q_ti (v := 1) (by decide) ?_
  refine q_put (ci := 15) (j := 8) (v := .int 1) (ty := .int) C0 V i_FR o_FR n_FR rfl rfl hO0 (by decide) w_2084 rfl rfl rfl rfl (Nat.le_of_ble_eq_true rfl) d_17_16_17 (fun H locs w3 hu4 hO0 V => ?_)
  replace hO0 : w3[kO0]? = (some (qO0, .inr (15, [.int 0, .ref qA1, .ref qA2, .ref qA3, .ref qA4, .ref qA5, .ref qA6, .ref qA7, .int 1, .int 0, .int 0, .long 0, .int 52, .int 2047, .long 0, .int (-1074), .long 0, .int 0])) : Option (Nat × va_E)) := hO0
  replace hF := q_us hF hu4 (.head _)
  replace hA7 := (hu4 _ n_A7_O0).trans (hA7)
  exact q_retv C0 V (⟨hF, hO0, hA7⟩) d_17_16_20
set_option maxRecDepth 100000 in
set_option maxHeartbeats 4000000 in
theorem c_FR_add_2 (l : Launch) (D : va_G) (g : Nat → ClassId) (ws : va_W) (kO0 kA7 qO0 qA1 qA2 qA3 qA4 qA5 qA6 qA7 : Nat) (hO0 : ws[kO0]? = (some (qO0, .inr (15, [.int 0, .ref qA1, .ref qA2, .ref qA3, .ref qA4, .ref qA5, .ref qA6, .ref qA7, .int 1, .int 0, .int 0, .long 0, .int 52, .int 2047, .long 0, .int (-1074), .long 0, .int 0])) : Option (Nat × va_E))) (hA7 : ws[kA7]? = (some (qA7, .inl (g 0, 1600, .inl (upd (fun _ => 0) 0 48))) : Option (Nat × va_E))) : q_mV l y_FR_add prog_17_method_16_code 2 1 0 0 D g [.ref qO0, .int 46] ws (fun u => q_un ws u [kO0, kA7] ∧ u[kO0]? = (some (qO0, .inr (15, [.int 0, .ref qA1, .ref qA2, .ref qA3, .ref qA4, .ref qA5, .ref qA6, .ref qA7, .int 2, .int 0, .int 0, .long 0, .int 52, .int 2047, .long 0, .int (-1074), .long 0, .int 0])) : Option (Nat × va_E)) ∧ u[kA7]? = (some (qA7, .inl (g 0, 1600, .inl (upd (upd (fun _ => 0) 0 48) 1 46))) : Option (Nat × va_E))) := by
  intro sz
  refine q_into (by decide) (Nat.le_of_ble_eq_true rfl) ?_
  intro p e s m below meth c ls hsz C0 V hl
  have hx := C0.1
  have hb := C0.2.1
  have hl : lv_has ls 2 [(0, .ref qO0), (1, .int 46)] := hl
  have n_A7_O0 := q_df hA7 hO0
  have n_O0_A7 := Ne.symm (q_df hA7 hO0)
  have hF : q_un ws ws [kO0, kA7] := q_u0
  refine lv_aload_n hx hb d_17_16_0 rfl (lv_at hl 0 rfl) ?_
  refine q_get (ci := 15) (j := 7) (v := .ref qA7) C0 V i_FR rfl rfl hO0 (by decide) w_2082 rfl d_17_16_1 ?_
  refine lv_aload_n hx hb d_17_16_4 rfl (lv_at hl 0 rfl) ?_
  refine q_get (ci := 15) (j := 8) (v := .int 1) C0 V i_FR rfl rfl hO0 (by decide) w_2084 rfl d_17_16_5 ?_
  refine lv_iload_n hx hb d_17_16_8 rfl (lv_at hl 1 rfl) ?_
  refine q_iast C0 V hA7 (by unfold vp_in; decide) d_17_16_9 (fun H locs w1 hu2 hA7 V => ?_)
  replace hA7 : w1[kA7]? = (some (qA7, .inl (g 0, 1600, .inl (upd (upd (fun _ => 0) 0 48) 1 46))) : Option (Nat × va_E)) := hA7
  replace hF := q_us hF hu2 (.tail _ (.head _))
  refine lv_aload_n hx hb d_17_16_10 rfl (lv_at hl 0 rfl) ?_
  refine lv_dup hx hb d_17_16_11 rfl ?_
  replace hO0 := (hu2 _ n_O0_A7).trans (hO0)
  refine q_get (ci := 15) (j := 8) (v := .int 1) C0 V i_FR rfl rfl hO0 (by decide) w_2084 rfl d_17_16_12 ?_
  refine lv_iconst (v := 1) hx hb d_17_16_15 (by decide) ?_
  refine lv_iadd hx hb d_17_16_16 ?_
  refine q_ti (v := 2) (by decide) ?_
  refine q_put (ci := 15) (j := 8) (v := .int 2) (ty := .int) C0 V i_FR o_FR n_FR rfl rfl hO0 (by decide) w_2084 rfl rfl rfl rfl (Nat.le_of_ble_eq_true rfl) d_17_16_17 (fun H locs w3 hu4 hO0 V => ?_)
  replace hO0 : w3[kO0]? = (some (qO0, .inr (15, [.int 0, .ref qA1, .ref qA2, .ref qA3, .ref qA4, .ref qA5, .ref qA6, .ref qA7, .int 2, .int 0, .int 0, .long 0, .int 52, .int 2047, .long 0, .int (-1074), .long 0, .int 0])) : Option (Nat × va_E)) := hO0
  replace hF := q_us hF hu4 (.head _)
  replace hA7 := (hu4 _ n_A7_O0).trans (hA7)
  exact q_retv C0 V (⟨hF, hO0, hA7⟩) d_17_16_20
set_option maxRecDepth 100000 in
set_option maxHeartbeats 4000000 in
theorem c_FR_figureAt_2 (l : Launch) (D : va_G) (g : Nat → ClassId) (ws : va_W) (kO0 kA6 qO0 qA1 qA2 qA3 qA4 qA5 qA6 qA7 : Nat) (x1 : Int32) (y2 : Int32) (hO0 : ws[kO0]? = (some (qO0, .inr (15, [.int 0, .ref qA1, .ref qA2, .ref qA3, .ref qA4, .ref qA5, .ref qA6, .ref qA7, .int y2, .int 0, .int 0, .long 0, .int 52, .int 2047, .long 0, .int (-1074), .long 0, .int 0])) : Option (Nat × va_E))) (hA6 : ws[kA6]? = (some (qA6, .inl (g 0, 1404, .inl (fun _ => 0))) : Option (Nat × va_E))) (x1lo : (-1074) ≤ x1) (x1hi : x1 ≤ (-1)) (y2lo : 2 ≤ y2) (y2hi : y2 ≤ 1076) : q_mI l y_FR_figureAt prog_17_method_27_code 3 (.int) 1 0 0 D g [.ref qO0, .int x1] ws (fun r u => 0 = r ∧ ws = u) := by
  intro sz
  refine q_into (by decide) (Nat.le_of_ble_eq_true rfl) ?_
  intro p e s m below meth c ls hsz C0 V hl
  have hx := C0.1
  have hb := C0.2.1
  have hl : lv_has ls 3 [(0, .ref qO0), (1, .int x1)] := hl
  refine lv_iload_n hx hb d_17_27_0 rfl (lv_at hl 1 rfl) ?_
  refine lv_sipush (v := 1080) hx hb d_17_27_1 (by decide) ?_
  refine lv_iadd hx hb d_17_27_4 ?_
  refine lv_istore_n (lv' := [(2, .int (x1 + 1080)), (0, .ref qO0), (1, .int x1)]) hx hb d_17_27_5 rfl hl (by decide) rfl (fun ls hl => ?_)
  refine lv_iload_n hx hb d_17_27_6 rfl (lv_at hl 0 rfl) ?_
  refine lv_if_lt (tgt := 17) hx hb d_17_27_7 (by decide) (fun c1 => absurd c1 (Int32.not_lt.mpr (q_Ile (x := 0) (y := (x1.toInt + 1080)) (by decide) (q_addI (x := x1.toInt) (y := 1080) rfl (by decide) (by have t1 : (-1074) ≤ x1.toInt := q_leI x1lo; have t2 : x1.toInt ≤ (-1) := q_leI x1hi; omega) (by have t1 : (-1074) ≤ x1.toInt := q_leI x1lo; have t2 : x1.toInt ≤ (-1) := q_leI x1hi; omega)) (by have t1 : (-1074) ≤ x1.toInt := q_leI x1lo; have t2 : x1.toInt ≤ (-1) := q_leI x1hi; omega)))) (fun c1 => ?_)
  refine lv_iload_n hx hb d_17_27_10 rfl (lv_at hl 0 rfl) ?_
  refine lv_sipush (v := 1404) hx hb d_17_27_11 (by decide) ?_
  refine lv_icmp_lt (tgt := 21) hx hb d_17_27_14 (by decide) (fun c2 => ?_) (fun c2 => absurd (q_Ilt (x := (x1.toInt + 1080)) (y := 1404) (q_addI (x := x1.toInt) (y := 1080) rfl (by decide) (by have t1 : (-1074) ≤ x1.toInt := q_leI x1lo; have t2 : x1.toInt ≤ (-1) := q_leI x1hi; omega) (by have t1 : (-1074) ≤ x1.toInt := q_leI x1lo; have t2 : x1.toInt ≤ (-1) := q_leI x1hi; omega)) (by decide) (by have t1 : (-1074) ≤ x1.toInt := q_leI x1lo; have t2 : x1.toInt ≤ (-1) := q_leI x1hi; omega)) c2)
  refine lv_aload_n hx hb d_17_27_21 rfl (lv_at hl 1 rfl) ?_
  refine q_get (ci := 15) (j := 6) (v := .ref qA6) C0 V i_FR rfl rfl hO0 (by decide) w_2081 rfl d_17_27_22 ?_
  refine lv_iload_n hx hb d_17_27_25 rfl (lv_at hl 0 rfl) ?_
  refine q_iald C0 V hA6 (q_ix (x := (x1.toInt + 1080)) (q_addI (x := x1.toInt) (y := 1080) rfl (by decide) (by have t1 : (-1074) ≤ x1.toInt := q_leI x1lo; have t2 : x1.toInt ≤ (-1) := q_leI x1hi; omega) (by have t1 : (-1074) ≤ x1.toInt := q_leI x1lo; have t2 : x1.toInt ≤ (-1) := q_leI x1hi; omega)) (by have t1 : (-1074) ≤ x1.toInt := q_leI x1lo; have t2 : x1.toInt ≤ (-1) := q_leI x1hi; omega) (by have t1 : (-1074) ≤ x1.toInt := q_leI x1lo; have t2 : x1.toInt ≤ (-1) := q_leI x1hi; omega)) d_17_27_26 ?_
  refine q_ti (v := 0) (by first | rfl | decide | simp [upd, vp_updL, sb_cl0]) ?_
  exact q_reti C0 V (⟨rfl, rfl⟩) d_17_27_27
set_option maxRecDepth 100000 in
set_option maxHeartbeats 4000000 in
theorem c_FR_add_3 (l : Launch) (D : va_G) (g : Nat → ClassId) (ws : va_W) (kO0 kA7 qO0 qA1 qA2 qA3 qA4 qA5 qA6 qA7 : Nat) (y1 : Int32) (f3 : Nat → Int32) (hO0 : ws[kO0]? = (some (qO0, .inr (15, [.int 0, .ref qA1, .ref qA2, .ref qA3, .ref qA4, .ref qA5, .ref qA6, .ref qA7, .int y1, .int 0, .int 0, .long 0, .int 52, .int 2047, .long 0, .int (-1074), .long 0, .int 0])) : Option (Nat × va_E))) (hA7 : ws[kA7]? = (some (qA7, .inl (g 0, 1600, .inl f3)) : Option (Nat × va_E))) (y1lo : 2 ≤ y1) (y1hi : y1 ≤ 1076) : q_mV l y_FR_add prog_17_method_16_code 2 1 0 0 D g [.ref qO0, .int 48] ws (fun u => q_un ws u [kO0, kA7] ∧ u[kO0]? = (some (qO0, .inr (15, [.int 0, .ref qA1, .ref qA2, .ref qA3, .ref qA4, .ref qA5, .ref qA6, .ref qA7, .int (y1 + 1), .int 0, .int 0, .long 0, .int 52, .int 2047, .long 0, .int (-1074), .long 0, .int 0])) : Option (Nat × va_E)) ∧ u[kA7]? = (some (qA7, .inl (g 0, 1600, .inl (upd f3 y1.toNatClampNeg 48))) : Option (Nat × va_E))) := by
  intro sz
  refine q_into (by decide) (Nat.le_of_ble_eq_true rfl) ?_
  intro p e s m below meth c ls hsz C0 V hl
  have hx := C0.1
  have hb := C0.2.1
  have hl : lv_has ls 2 [(0, .ref qO0), (1, .int 48)] := hl
  have n_A7_O0 := q_df hA7 hO0
  have n_O0_A7 := Ne.symm (q_df hA7 hO0)
  have hF : q_un ws ws [kO0, kA7] := q_u0
  refine lv_aload_n hx hb d_17_16_0 rfl (lv_at hl 0 rfl) ?_
  refine q_get (ci := 15) (j := 7) (v := .ref qA7) C0 V i_FR rfl rfl hO0 (by decide) w_2082 rfl d_17_16_1 ?_
  refine lv_aload_n hx hb d_17_16_4 rfl (lv_at hl 0 rfl) ?_
  refine q_get (ci := 15) (j := 8) (v := .int y1) C0 V i_FR rfl rfl hO0 (by decide) w_2084 rfl d_17_16_5 ?_
  refine lv_iload_n hx hb d_17_16_8 rfl (lv_at hl 1 rfl) ?_
  refine q_iast C0 V hA7 (q_ix (x := y1.toInt) rfl (by have t1 : 2 ≤ y1.toInt := q_leI y1lo; have t2 : y1.toInt ≤ 1076 := q_leI y1hi; omega) (by have t1 : 2 ≤ y1.toInt := q_leI y1lo; have t2 : y1.toInt ≤ 1076 := q_leI y1hi; omega)) d_17_16_9 (fun H locs w1 hu2 hA7 V => ?_)
  replace hA7 : w1[kA7]? = (some (qA7, .inl (g 0, 1600, .inl (upd f3 y1.toNatClampNeg 48))) : Option (Nat × va_E)) := hA7
  replace hF := q_us hF hu2 (.tail _ (.head _))
  refine lv_aload_n hx hb d_17_16_10 rfl (lv_at hl 0 rfl) ?_
  refine lv_dup hx hb d_17_16_11 rfl ?_
  replace hO0 := (hu2 _ n_O0_A7).trans (hO0)
  refine q_get (ci := 15) (j := 8) (v := .int y1) C0 V i_FR rfl rfl hO0 (by decide) w_2084 rfl d_17_16_12 ?_
  refine lv_iconst (v := 1) hx hb d_17_16_15 (by decide) ?_
  refine lv_iadd hx hb d_17_16_16 ?_
  refine q_put (ci := 15) (j := 8) (v := .int (y1 + 1)) (ty := .int) C0 V i_FR o_FR n_FR rfl rfl hO0 (by decide) w_2084 rfl rfl rfl rfl (Nat.le_of_ble_eq_true rfl) d_17_16_17 (fun H locs w3 hu4 hO0 V => ?_)
  replace hO0 : w3[kO0]? = (some (qO0, .inr (15, [.int 0, .ref qA1, .ref qA2, .ref qA3, .ref qA4, .ref qA5, .ref qA6, .ref qA7, .int (y1 + 1), .int 0, .int 0, .long 0, .int 52, .int 2047, .long 0, .int (-1074), .long 0, .int 0])) : Option (Nat × va_E)) := hO0
  replace hF := q_us hF hu4 (.head _)
  replace hA7 := (hu4 _ n_A7_O0).trans (hA7)
  exact q_retv C0 V (⟨hF, hO0, hA7⟩) d_17_16_20
theorem d_17_29_0 : decode prog_17_method_29_code 0 = .ok (.aload_n 0, 1) := by decide +kernel
theorem d_17_29_1 : decode prog_17_method_29_code 1 = .ok (.lload_n 1, 1) := by decide +kernel
theorem d_17_29_2 : decode prog_17_method_29_code 2 = .ok (.iload_n 3, 1) := by decide +kernel
theorem d_17_29_3 : decode prog_17_method_29_code 3 = .ok (.ifCond .eq 15, 3) := by decide +kernel
theorem d_17_29_18 : decode prog_17_method_29_code 18 = .ok (.iconst 0, 1) := by decide +kernel
theorem d_17_29_19 : decode prog_17_method_29_code 19 = .ok (.invokevirtual 126, 3) := by decide +kernel
theorem d_17_29_22 : decode prog_17_method_29_code 22 = .ok (.aload_n 0, 1) := by decide +kernel
theorem d_17_29_23 : decode prog_17_method_29_code 23 = .ok (.lload_n 1, 1) := by decide +kernel
theorem d_17_29_24 : decode prog_17_method_29_code 24 = .ok (.iload_n 3, 1) := by decide +kernel
theorem d_17_29_25 : decode prog_17_method_29_code 25 = .ok (.invokestatic 122, 3) := by decide +kernel
theorem d_17_29_28 : decode prog_17_method_29_code 28 = .ok (.ifCond .ne 27, 3) := by decide +kernel
theorem d_17_29_31 : decode prog_17_method_29_code 31 = .ok (.iload 4, 2) := by decide +kernel
theorem d_17_29_33 : decode prog_17_method_29_code 33 = .ok (.ifCond .lt 22, 3) := by decide +kernel
theorem d_17_29_36 : decode prog_17_method_29_code 36 = .ok (.iload 4, 2) := by decide +kernel
theorem d_17_29_38 : decode prog_17_method_29_code 38 = .ok (.sipush 1100, 3) := by decide +kernel
theorem d_17_29_41 : decode prog_17_method_29_code 41 = .ok (.if_icmp .gt 14, 3) := by decide +kernel
theorem d_17_29_44 : decode prog_17_method_29_code 44 = .ok (.iload 5, 2) := by decide +kernel
theorem d_17_29_46 : decode prog_17_method_29_code 46 = .ok (.ifCond .lt 9, 3) := by decide +kernel
theorem d_17_29_49 : decode prog_17_method_29_code 49 = .ok (.iload 5, 2) := by decide +kernel
theorem d_17_29_51 : decode prog_17_method_29_code 51 = .ok (.iconst 3, 1) := by decide +kernel
theorem d_17_29_52 : decode prog_17_method_29_code 52 = .ok (.if_icmp .le 7, 3) := by decide +kernel
theorem d_17_29_59 : decode prog_17_method_29_code 59 = .ok (.aload_n 0, 1) := by decide +kernel
theorem d_17_29_60 : decode prog_17_method_29_code 60 = .ok (.invokevirtual 130, 3) := by decide +kernel
theorem d_17_29_63 : decode prog_17_method_29_code 63 = .ok (.ifCond .ne 7, 3) := by decide +kernel
theorem d_17_29_70 : decode prog_17_method_29_code 70 = .ok (.iconst 0, 1) := by decide +kernel
theorem d_17_29_71 : decode prog_17_method_29_code 71 = .ok (.putfield 31, 3) := by decide +kernel
theorem d_17_29_74 : decode prog_17_method_29_code 74 = .ok (.aload_n 0, 1) := by decide +kernel
theorem d_17_29_75 : decode prog_17_method_29_code 75 = .ok (.getfield 31, 3) := by decide +kernel
theorem d_17_29_78 : decode prog_17_method_29_code 78 = .ok (.ifCond .le 5, 3) := by decide +kernel
theorem d_17_29_83 : decode prog_17_method_29_code 83 = .ok (.aload_n 0, 1) := by decide +kernel
theorem d_17_29_84 : decode prog_17_method_29_code 84 = .ok (.invokevirtual 162, 3) := by decide +kernel
theorem w_2990 : (Cond.code ({ cls := "NumberHouseModel$FloatRows", name := "setValue", desc := "()V" } : MethodName) prog_17_method_28_code (1 : Nat) (none : Option ClassFile.FieldType)) ∈ q_tbl := q_of 2990 (by decide +kernel) (by decide +kernel)
theorem w_2987 : (Cond.methodLink "NumberHouseModel$FloatRows" (162 : Nat) ({ cls := "NumberHouseModel$FloatRows", name := "setValue", desc := "()V" } : MethodName)) ∈ q_tbl := q_of 2987 (by decide +kernel) (by decide +kernel)
theorem w_2989 : (Cond.instanceMethod ({ cls := "NumberHouseModel$FloatRows", name := "setValue", desc := "()V" } : MethodName)) ∈ q_tbl := q_of 2989 (by decide +kernel) (by decide +kernel)
theorem ws_135 : Cond.selects "NumberHouseModel$FloatRows" (⟨"NumberHouseModel$FloatRows", "setValue", "()V"⟩ : MethodName) (⟨"NumberHouseModel$FloatRows", "setValue", "()V"⟩ : MethodName) ∈ q_tbl := q_ofs 135 (by decide +kernel) (by decide +kernel)
theorem LV_FR_162 : q_LV "NumberHouseModel$FloatRows" 162 y_FR_setValue prog_17_method_28_code 1 none 0 := ⟨w_2990, w_17, w_2987, w_2989, ws_135, ⟨by decide, by decide, by decide +kernel⟩⟩
theorem d_17_29_87 : decode prog_17_method_29_code 87 = .ok (.iload 4, 2) := by decide +kernel
theorem d_17_29_89 : decode prog_17_method_29_code 89 = .ok (.sipush 1080, 3) := by decide +kernel
theorem d_17_29_92 : decode prog_17_method_29_code 92 = .ok (.if_icmp .le 7, 3) := by decide +kernel
theorem d_17_29_99 : decode prog_17_method_29_code 99 = .ok (.sipush 1080, 3) := by decide +kernel
theorem d_17_29_102 : decode prog_17_method_29_code 102 = .ok (.iload 4, 2) := by decide +kernel
theorem d_17_29_104 : decode prog_17_method_29_code 104 = .ok (.isub, 1) := by decide +kernel
theorem d_17_29_105 : decode prog_17_method_29_code 105 = .ok (.istore 6, 2) := by decide +kernel
theorem d_17_29_107 : decode prog_17_method_29_code 107 = .ok (.aload_n 0, 1) := by decide +kernel
theorem d_17_29_108 : decode prog_17_method_29_code 108 = .ok (.iload 6, 2) := by decide +kernel
theorem d_17_29_110 : decode prog_17_method_29_code 110 = .ok (.aload_n 0, 1) := by decide +kernel
theorem d_17_29_111 : decode prog_17_method_29_code 111 = .ok (.iload 6, 2) := by decide +kernel
theorem d_17_29_113 : decode prog_17_method_29_code 113 = .ok (.iload 5, 2) := by decide +kernel
theorem d_17_29_115 : decode prog_17_method_29_code 115 = .ok (.invokevirtual 165, 3) := by decide +kernel
theorem w_2994 : (Cond.code ({ cls := "NumberHouseModel$FloatRows", name := "isMore", desc := "(II)Z" } : MethodName) prog_17_method_26_code (5 : Nat) (some .boolean)) ∈ q_tbl := q_of 2994 (by decide +kernel) (by decide +kernel)
theorem w_2991 : (Cond.methodLink "NumberHouseModel$FloatRows" (165 : Nat) ({ cls := "NumberHouseModel$FloatRows", name := "isMore", desc := "(II)Z" } : MethodName)) ∈ q_tbl := q_of 2991 (by decide +kernel) (by decide +kernel)
theorem w_2993 : (Cond.instanceMethod ({ cls := "NumberHouseModel$FloatRows", name := "isMore", desc := "(II)Z" } : MethodName)) ∈ q_tbl := q_of 2993 (by decide +kernel) (by decide +kernel)
theorem ws_136 : Cond.selects "NumberHouseModel$FloatRows" (⟨"NumberHouseModel$FloatRows", "isMore", "(II)Z"⟩ : MethodName) (⟨"NumberHouseModel$FloatRows", "isMore", "(II)Z"⟩ : MethodName) ∈ q_tbl := q_ofs 136 (by decide +kernel) (by decide +kernel)
theorem LV_FR_165 : q_LV "NumberHouseModel$FloatRows" 165 y_FR_isMore prog_17_method_26_code 5 (some .boolean) 2 := ⟨w_2994, w_17, w_2991, w_2993, ws_136, ⟨by decide, by decide, by decide +kernel⟩⟩
theorem d_17_29_118 : decode prog_17_method_29_code 118 = .ok (.invokevirtual 81, 3) := by decide +kernel
theorem w_2627 : (Cond.code ({ cls := "NumberHouseModel$FloatRows", name := "cut", desc := "(IZ)V" } : MethodName) prog_17_method_11_code (5 : Nat) (none : Option ClassFile.FieldType)) ∈ q_tbl := q_of 2627 (by decide +kernel) (by decide +kernel)
theorem w_2624 : (Cond.methodLink "NumberHouseModel$FloatRows" (81 : Nat) ({ cls := "NumberHouseModel$FloatRows", name := "cut", desc := "(IZ)V" } : MethodName)) ∈ q_tbl := q_of 2624 (by decide +kernel) (by decide +kernel)
theorem w_2626 : (Cond.instanceMethod ({ cls := "NumberHouseModel$FloatRows", name := "cut", desc := "(IZ)V" } : MethodName)) ∈ q_tbl := q_of 2626 (by decide +kernel) (by decide +kernel)
theorem ws_97 : Cond.selects "NumberHouseModel$FloatRows" (⟨"NumberHouseModel$FloatRows", "cut", "(IZ)V"⟩ : MethodName) (⟨"NumberHouseModel$FloatRows", "cut", "(IZ)V"⟩ : MethodName) ∈ q_tbl := q_ofs 97 (by decide +kernel) (by decide +kernel)
theorem LV_FR_81 : q_LV "NumberHouseModel$FloatRows" 81 y_FR_cut prog_17_method_11_code 5 none 2 := ⟨w_2627, w_17, w_2624, w_2626, ws_97, ⟨by decide, by decide, by decide +kernel⟩⟩
theorem d_17_29_121 : decode prog_17_method_29_code 121 = .ok (.aload_n 0, 1) := by decide +kernel
theorem d_17_29_122 : decode prog_17_method_29_code 122 = .ok (.invokevirtual 113, 3) := by decide +kernel
theorem w_2998 : (Cond.code ({ cls := "NumberHouseModel$FloatRows", name := "begin", desc := "()V" } : MethodName) prog_17_method_17_code (1 : Nat) (none : Option ClassFile.FieldType)) ∈ q_tbl := q_of 2998 (by decide +kernel) (by decide +kernel)
theorem w_2995 : (Cond.methodLink "NumberHouseModel$FloatRows" (113 : Nat) ({ cls := "NumberHouseModel$FloatRows", name := "begin", desc := "()V" } : MethodName)) ∈ q_tbl := q_of 2995 (by decide +kernel) (by decide +kernel)
theorem w_2997 : (Cond.instanceMethod ({ cls := "NumberHouseModel$FloatRows", name := "begin", desc := "()V" } : MethodName)) ∈ q_tbl := q_of 2997 (by decide +kernel) (by decide +kernel)
theorem ws_137 : Cond.selects "NumberHouseModel$FloatRows" (⟨"NumberHouseModel$FloatRows", "begin", "()V"⟩ : MethodName) (⟨"NumberHouseModel$FloatRows", "begin", "()V"⟩ : MethodName) ∈ q_tbl := q_ofs 137 (by decide +kernel) (by decide +kernel)
theorem LV_FR_113 : q_LV "NumberHouseModel$FloatRows" 113 y_FR_begin prog_17_method_17_code 1 none 0 := ⟨w_2998, w_17, w_2995, w_2997, ws_137, ⟨by decide, by decide, by decide +kernel⟩⟩
theorem d_17_29_125 : decode prog_17_method_29_code 125 = .ok (.sipush 1403, 3) := by decide +kernel
theorem d_17_29_128 : decode prog_17_method_29_code 128 = .ok (.istore 7, 2) := by decide +kernel
theorem d_17_29_130 : decode prog_17_method_29_code 130 = .ok (.iload 7, 2) := by decide +kernel
theorem d_17_29_132 : decode prog_17_method_29_code 132 = .ok (.sipush 1080, 3) := by decide +kernel
theorem d_17_29_135 : decode prog_17_method_29_code 135 = .ok (.if_icmp .le 19, 3) := by decide +kernel
theorem d_17_29_154 : decode prog_17_method_29_code 154 = .ok (.iload 7, 2) := by decide +kernel
theorem d_17_29_156 : decode prog_17_method_29_code 156 = .ok (.sipush 1080, 3) := by decide +kernel
theorem d_17_29_159 : decode prog_17_method_29_code 159 = .ok (.isub, 1) := by decide +kernel
theorem d_17_29_160 : decode prog_17_method_29_code 160 = .ok (.istore 8, 2) := by decide +kernel
theorem d_17_29_162 : decode prog_17_method_29_code 162 = .ok (.iload 8, 2) := by decide +kernel
theorem d_17_29_164 : decode prog_17_method_29_code 164 = .ok (.ifCond .lt 22, 3) := by decide +kernel
theorem d_17_29_167 : decode prog_17_method_29_code 167 = .ok (.aload_n 0, 1) := by decide +kernel
theorem d_17_29_168 : decode prog_17_method_29_code 168 = .ok (.bipush 48, 2) := by decide +kernel
theorem d_17_29_170 : decode prog_17_method_29_code 170 = .ok (.aload_n 0, 1) := by decide +kernel
theorem d_17_29_171 : decode prog_17_method_29_code 171 = .ok (.iload 8, 2) := by decide +kernel
theorem d_17_29_173 : decode prog_17_method_29_code 173 = .ok (.invokevirtual 169, 3) := by decide +kernel
theorem w_3006 : (Cond.code ({ cls := "NumberHouseModel$FloatRows", name := "figureAt", desc := "(I)I" } : MethodName) prog_17_method_27_code (3 : Nat) (some .int)) ∈ q_tbl := q_of 3006 (by decide +kernel) (by decide +kernel)
theorem w_3003 : (Cond.methodLink "NumberHouseModel$FloatRows" (169 : Nat) ({ cls := "NumberHouseModel$FloatRows", name := "figureAt", desc := "(I)I" } : MethodName)) ∈ q_tbl := q_of 3003 (by decide +kernel) (by decide +kernel)
theorem w_3005 : (Cond.instanceMethod ({ cls := "NumberHouseModel$FloatRows", name := "figureAt", desc := "(I)I" } : MethodName)) ∈ q_tbl := q_of 3005 (by decide +kernel) (by decide +kernel)
theorem ws_139 : Cond.selects "NumberHouseModel$FloatRows" (⟨"NumberHouseModel$FloatRows", "figureAt", "(I)I"⟩ : MethodName) (⟨"NumberHouseModel$FloatRows", "figureAt", "(I)I"⟩ : MethodName) ∈ q_tbl := q_ofs 139 (by decide +kernel) (by decide +kernel)
theorem LV_FR_169 : q_LV "NumberHouseModel$FloatRows" 169 y_FR_figureAt prog_17_method_27_code 3 (some .int) 1 := ⟨w_3006, w_17, w_3003, w_3005, ws_139, ⟨by decide, by decide, by decide +kernel⟩⟩
theorem d_17_29_176 : decode prog_17_method_29_code 176 = .ok (.iadd, 1) := by decide +kernel
theorem d_17_29_177 : decode prog_17_method_29_code 177 = .ok (.invokevirtual 110, 3) := by decide +kernel
theorem w_3002 : (Cond.code ({ cls := "NumberHouseModel$FloatRows", name := "add", desc := "(I)V" } : MethodName) prog_17_method_16_code (2 : Nat) (none : Option ClassFile.FieldType)) ∈ q_tbl := q_of 3002 (by decide +kernel) (by decide +kernel)
theorem w_2999 : (Cond.methodLink "NumberHouseModel$FloatRows" (110 : Nat) ({ cls := "NumberHouseModel$FloatRows", name := "add", desc := "(I)V" } : MethodName)) ∈ q_tbl := q_of 2999 (by decide +kernel) (by decide +kernel)
theorem w_3001 : (Cond.instanceMethod ({ cls := "NumberHouseModel$FloatRows", name := "add", desc := "(I)V" } : MethodName)) ∈ q_tbl := q_of 3001 (by decide +kernel) (by decide +kernel)
theorem ws_138 : Cond.selects "NumberHouseModel$FloatRows" (⟨"NumberHouseModel$FloatRows", "add", "(I)V"⟩ : MethodName) (⟨"NumberHouseModel$FloatRows", "add", "(I)V"⟩ : MethodName) ∈ q_tbl := q_ofs 138 (by decide +kernel) (by decide +kernel)
theorem LV_FR_110 : q_LV "NumberHouseModel$FloatRows" 110 y_FR_add prog_17_method_16_code 2 none 1 := ⟨w_3002, w_17, w_2999, w_3001, ws_138, ⟨by decide, by decide, by decide +kernel⟩⟩
theorem d_17_29_180 : decode prog_17_method_29_code 180 = .ok (.iinc 8 (-1), 3) := by decide +kernel
theorem d_17_29_183 : decode prog_17_method_29_code 183 = .ok (.goto (-21), 3) := by decide +kernel
theorem d_17_29_186 : decode prog_17_method_29_code 186 = .ok (.iload 4, 2) := by decide +kernel
theorem d_17_29_188 : decode prog_17_method_29_code 188 = .ok (.ifCond .le 9, 3) := by decide +kernel
theorem d_17_29_191 : decode prog_17_method_29_code 191 = .ok (.aload_n 0, 1) := by decide +kernel
theorem d_17_29_192 : decode prog_17_method_29_code 192 = .ok (.bipush 46, 2) := by decide +kernel
theorem d_17_29_194 : decode prog_17_method_29_code 194 = .ok (.invokevirtual 110, 3) := by decide +kernel
theorem d_17_29_197 : decode prog_17_method_29_code 197 = .ok (.iconst (-1), 1) := by decide +kernel
theorem d_17_29_198 : decode prog_17_method_29_code 198 = .ok (.istore 8, 2) := by decide +kernel
theorem d_17_29_200 : decode prog_17_method_29_code 200 = .ok (.iload 8, 2) := by decide +kernel
theorem d_17_29_202 : decode prog_17_method_29_code 202 = .ok (.iload 4, 2) := by decide +kernel
theorem d_17_29_204 : decode prog_17_method_29_code 204 = .ok (.ineg, 1) := by decide +kernel
theorem d_17_29_205 : decode prog_17_method_29_code 205 = .ok (.if_icmp .lt 22, 3) := by decide +kernel
theorem d_17_29_227 : decode prog_17_method_29_code 227 = .ok (.aload_n 0, 1) := by decide +kernel
theorem d_17_29_228 : decode prog_17_method_29_code 228 = .ok (.getfield 107, 3) := by decide +kernel
theorem d_17_29_231 : decode prog_17_method_29_code 231 = .ok (.ireturn, 1) := by decide +kernel
theorem d_17_29_208 : decode prog_17_method_29_code 208 = .ok (.aload_n 0, 1) := by decide +kernel
theorem d_17_29_209 : decode prog_17_method_29_code 209 = .ok (.bipush 48, 2) := by decide +kernel
theorem d_17_29_211 : decode prog_17_method_29_code 211 = .ok (.aload_n 0, 1) := by decide +kernel
theorem d_17_29_212 : decode prog_17_method_29_code 212 = .ok (.iload 8, 2) := by decide +kernel
theorem d_17_29_214 : decode prog_17_method_29_code 214 = .ok (.invokevirtual 169, 3) := by decide +kernel
theorem d_17_29_217 : decode prog_17_method_29_code 217 = .ok (.iadd, 1) := by decide +kernel
theorem d_17_29_218 : decode prog_17_method_29_code 218 = .ok (.invokevirtual 110, 3) := by decide +kernel
theorem d_17_29_221 : decode prog_17_method_29_code 221 = .ok (.iinc 8 (-1), 3) := by decide +kernel
theorem d_17_29_224 : decode prog_17_method_29_code 224 = .ok (.goto (-24), 3) := by decide +kernel
theorem d_17_29_138 : decode prog_17_method_29_code 138 = .ok (.aload_n 0, 1) := by decide +kernel
theorem d_17_29_139 : decode prog_17_method_29_code 139 = .ok (.getfield 25, 3) := by decide +kernel
theorem d_17_29_142 : decode prog_17_method_29_code 142 = .ok (.iload 7, 2) := by decide +kernel
theorem d_17_29_144 : decode prog_17_method_29_code 144 = .ok (.iaload, 1) := by decide +kernel
theorem d_17_29_145 : decode prog_17_method_29_code 145 = .ok (.ifCond .ne 9, 3) := by decide +kernel
theorem d_17_29_148 : decode prog_17_method_29_code 148 = .ok (.iinc 7 (-1), 3) := by decide +kernel
theorem d_17_29_151 : decode prog_17_method_29_code 151 = .ok (.goto (-21), 3) := by decide +kernel
def y_FR_fixed : MethodName := ⟨"NumberHouseModel$FloatRows", "fixed", "(JZII)I"⟩
set_option maxRecDepth 100000 in
set_option maxHeartbeats 4000000 in
theorem c_FR_fixed (l : Launch) (D : va_G) (g : Nat → ClassId) (ws : va_W) (kO0 kA1 kA2 kA3 kA6 kA7 qO0 qA1 qA2 qA3 qA4 qA5 qA6 qA7 : Nat) (hO0 : ws[kO0]? = (some (qO0, .inr (15, [.int 0, .ref qA1, .ref qA2, .ref qA3, .ref qA4, .ref qA5, .ref qA6, .ref qA7, .int 0, .int 0, .int 0, .long 0, .int 0, .int 0, .long 0, .int 0, .long 0, .int 0])) : Option (Nat × va_E))) (hA1 : ws[kA1]? = (some (qA1, .inl (g 0, 156, .inl (fun _ => 0))) : Option (Nat × va_E))) (hA2 : ws[kA2]? = (some (qA2, .inl (g 0, 156, .inl (fun _ => 0))) : Option (Nat × va_E))) (hA3 : ws[kA3]? = (some (qA3, .inl (g 0, 1404, .inl (fun _ => 0))) : Option (Nat × va_E))) (hA6 : ws[kA6]? = (some (qA6, .inl (g 0, 1404, .inl (fun _ => 0))) : Option (Nat × va_E))) (hA7 : ws[kA7]? = (some (qA7, .inl (g 0, 1600, .inl (fun _ => 0))) : Option (Nat × va_E))) (n_A1_A2 : kA1 ≠ kA2) (n_A1_A3 : kA1 ≠ kA3) (n_A1_A6 : kA1 ≠ kA6) (n_A1_A7 : kA1 ≠ kA7) (n_A2_A6 : kA2 ≠ kA6) (n_A2_A7 : kA2 ≠ kA7) (n_A3_A2 : kA3 ≠ kA2) (n_A3_A6 : kA3 ≠ kA6) (n_A3_A7 : kA3 ≠ kA7) (n_A6_A7 : kA6 ≠ kA7) : q_mI l y_FR_fixed prog_17_method_29_code 9 (.int) 3 0 0 D g [.ref qO0, .long 0, .int 0, .int 1074, .int 0] ws (fun r u => ∃ (ex0 : Nat → Int32), 1076 = r ∧ q_un ws u [kO0, kA1, kA2, kA3, kA6, kA7] ∧ u[kO0]? = (some (qO0, .inr (15, [.int 0, .ref qA1, .ref qA2, .ref qA3, .ref qA4, .ref qA5, .ref qA6, .ref qA7, .int 1076, .int 0, .int 0, .long 0, .int 52, .int 2047, .long 0, .int (-1074), .long 0, .int 0])) : Option (Nat × va_E)) ∧ u[kA1]? = (some (qA1, .inl (g 0, 156, .inl ex0)) : Option (Nat × va_E)) ∧ u[kA2]? = (some (qA2, .inl (g 0, 156, .inl (fun _ => 0))) : Option (Nat × va_E)) ∧ u[kA3]? = (some (qA3, .inl (g 0, 1404, .inl (fun _ => 0))) : Option (Nat × va_E)) ∧ u[kA6]? = (some (qA6, .inl (g 0, 1404, .inl (fun _ => 0))) : Option (Nat × va_E)) ∧ u[kA7]? = (some (qA7, .inl (g 0, 1600, .inl (q_fil (upd (upd (fun _ => 0) 0 48) 1 46) 2 48 1076))) : Option (Nat × va_E))) := by
  intro sz
  refine q_into (by decide) (Nat.le_of_ble_eq_true rfl) ?_
  intro p e s m below meth c ls hsz C0 V hl
  have hx := C0.1
  have hb := C0.2.1
  have hl : lv_has ls 9 [(0, .ref qO0), (1, .long 0), (3, .int 0), (4, .int 1074), (5, .int 0)] := hl
  have n_A1_O0 := q_df hA1 hO0
  have n_A2_O0 := q_df hA2 hO0
  have n_A3_O0 := q_df hA3 hO0
  have n_A6_A1 := Ne.symm n_A1_A6
  have n_A6_A2 := Ne.symm n_A2_A6
  have n_A6_A3 := Ne.symm n_A3_A6
  have n_A6_O0 := q_df hA6 hO0
  have n_A7_A1 := Ne.symm n_A1_A7
  have n_A7_A2 := Ne.symm n_A2_A7
  have n_A7_A3 := Ne.symm n_A3_A7
  have n_A7_A6 := Ne.symm n_A6_A7
  have n_A7_O0 := q_df hA7 hO0
  have n_O0_A1 := Ne.symm (q_df hA1 hO0)
  have n_O0_A2 := Ne.symm (q_df hA2 hO0)
  have n_O0_A3 := Ne.symm (q_df hA3 hO0)
  have n_O0_A6 := Ne.symm (q_df hA6 hO0)
  have hF : q_un ws ws [kO0, kA1, kA2, kA3, kA6, kA7] := q_u0
  refine lv_aload_n hx hb d_17_29_0 rfl (lv_at hl 0 rfl) ?_
  refine lv_lload_n hx hb d_17_29_1 rfl (lv_at hl 1 rfl) ?_
  refine lv_iload_n hx hb d_17_29_2 rfl (lv_at hl 2 rfl) ?_
  refine lv_if_eq (tgt := 18) hx hb d_17_29_3 (by decide) (fun c1 => ?_) (fun c1 => absurd (by decide) c1)
  refine lv_iconst (v := 0) hx hb d_17_29_18 (by decide) ?_
  refine q_gov V (q_runV (As := [.long 0, .int 0]) (rest := []) (d := 1) (mc := 0) (ms := 0) (ci := 15) C0 V rfl LV_FR_126 (c_FR_open l D g ws kO0 qO0 qA1 qA2 qA3 qA4 qA5 qA6 qA7 hO0 _) rfl rfl hO0 rfl hl.1 rfl (Nat.le_of_ble_eq_true rfl) ⟨by decide, by decide⟩ ⟨Nat.le_of_ble_eq_true rfl, Nat.le_of_ble_eq_true rfl⟩ d_17_29_19) (fun u3 H locs hp2 V => ?_)
  obtain ⟨hg4, hO0⟩ := hp2
  replace hF := q_uc hF hg4 (q_sc (.head _) (fun _ h => absurd h List.not_mem_nil))
  refine lv_aload_n hx hb d_17_29_22 rfl (lv_at hl 0 rfl) ?_
  refine lv_lload_n hx hb d_17_29_23 rfl (lv_at hl 1 rfl) ?_
  refine lv_iload_n hx hb d_17_29_24 rfl (lv_at hl 2 rfl) ?_
  refine q_goi V (q_runS (As := [.long 0, .int 0]) (rest := [.ref qO0]) (d := 1) (mc := 0) (ms := 0) C0 V rfl LS_FR_122 (c_FR_isWrong l D g u3 _) rfl hl.1 rfl (Nat.le_of_ble_eq_true rfl) ⟨by decide, by decide⟩ ⟨Nat.le_of_ble_eq_true rfl, Nat.le_of_ble_eq_true rfl⟩ d_17_29_25) (fun v7 u6 H locs hp5 V => ?_)
  obtain ⟨rfl, rfl⟩ := hp5
  refine lv_if_ne (tgt := 55) hx hb d_17_29_28 (by decide) (fun c9 => absurd (by decide) c9) (fun c9 => ?_)
  refine lv_iload hx hb d_17_29_31 (lv_at hl 3 rfl) ?_
  refine lv_if_lt (tgt := 55) hx hb d_17_29_33 (by decide) (fun c10 => absurd c10 (by decide)) (fun c10 => ?_)
  refine lv_iload hx hb d_17_29_36 (lv_at hl 3 rfl) ?_
  refine lv_sipush (v := 1100) hx hb d_17_29_38 (by decide) ?_
  refine lv_icmp_gt (tgt := 55) hx hb d_17_29_41 (by decide) (fun c11 => absurd c11 (by decide)) (fun c11 => ?_)
  refine lv_iload hx hb d_17_29_44 (lv_at hl 4 rfl) ?_
  refine lv_if_lt (tgt := 55) hx hb d_17_29_46 (by decide) (fun c12 => absurd c12 (by decide)) (fun c12 => ?_)
  refine lv_iload hx hb d_17_29_49 (lv_at hl 4 rfl) ?_
  refine lv_iconst (v := 3) hx hb d_17_29_51 (by decide) ?_
  refine lv_icmp_le (tgt := 59) hx hb d_17_29_52 (by decide) (fun c13 => ?_) (fun c13 => absurd (by decide) c13)
  refine lv_aload_n hx hb d_17_29_59 rfl (lv_at hl 0 rfl) ?_
  refine q_goi V (q_runV (As := []) (rest := [.ref qO0]) (d := 1) (mc := 0) (ms := 0) (ci := 15) C0 V rfl LV_FR_130 (c_FR_isFinite l D g u3 kO0 qO0 qA1 qA2 qA3 qA4 qA5 qA6 qA7 hO0 _) rfl rfl hO0 rfl hl.1 rfl (Nat.le_of_ble_eq_true rfl) ⟨by decide, by decide⟩ ⟨Nat.le_of_ble_eq_true rfl, Nat.le_of_ble_eq_true rfl⟩ d_17_29_60) (fun v16 u15 H locs hp14 V => ?_)
  obtain ⟨rfl, rfl⟩ := hp14
  refine lv_if_ne (tgt := 70) hx hb d_17_29_63 (by decide) (fun c18 => ?_) (fun c18 => absurd c18 (by decide))
  refine lv_iconst (v := 0) hx hb d_17_29_70 (by decide) ?_
  refine q_put (ci := 15) (j := 0) (v := .int 0) (ty := .int) C0 V i_FR o_FR n_FR rfl rfl hO0 (by decide) w_2074 rfl rfl rfl rfl (Nat.le_of_ble_eq_true rfl) d_17_29_71 (fun H locs w19 hu20 hO0 V => ?_)
  replace hO0 : w19[kO0]? = (some (qO0, .inr (15, [.int 0, .ref qA1, .ref qA2, .ref qA3, .ref qA4, .ref qA5, .ref qA6, .ref qA7, .int 0, .int 0, .int 0, .long 0, .int 52, .int 2047, .long 0, .int (-1074), .long 0, .int 0])) : Option (Nat × va_E)) := hO0
  replace hF := q_us hF hu20 (.head _)
  refine lv_aload_n hx hb d_17_29_74 rfl (lv_at hl 0 rfl) ?_
  refine q_get (ci := 15) (j := 0) (v := .int 0) C0 V i_FR rfl rfl hO0 (by decide) w_2074 rfl d_17_29_75 ?_
  refine lv_if_le (tgt := 83) hx hb d_17_29_78 (by decide) (fun c21 => ?_) (fun c21 => absurd (by decide) c21)
  refine lv_aload_n hx hb d_17_29_83 rfl (lv_at hl 0 rfl) ?_
  replace hA1 := (hu20 _ n_A1_O0).trans ((hg4 _ (q_nc n_A1_O0 List.not_mem_nil)).trans (hA1))
  replace hA2 := (hu20 _ n_A2_O0).trans ((hg4 _ (q_nc n_A2_O0 List.not_mem_nil)).trans (hA2))
  replace hA3 := (hu20 _ n_A3_O0).trans ((hg4 _ (q_nc n_A3_O0 List.not_mem_nil)).trans (hA3))
  refine q_gov V (q_runV (As := []) (rest := []) (d := 2) (mc := 0) (ms := 0) (ci := 15) C0 V rfl LV_FR_162 (c_FR_setValue l D g w19 kO0 kA1 kA2 kA3 qO0 qA1 qA2 qA3 qA4 qA5 qA6 qA7 hO0 hA1 hA2 hA3 n_A1_A2 n_A1_A3 n_A3_A2 _) rfl rfl hO0 rfl hl.1 rfl (Nat.le_of_ble_eq_true rfl) ⟨by decide, by decide⟩ ⟨Nat.le_of_ble_eq_true rfl, Nat.le_of_ble_eq_true rfl⟩ d_17_29_84) (fun u23 H locs hp22 V => ?_)
  obtain ⟨y24, hg25, hA1, hA2, hA3⟩ := hp22
  replace hF := q_uc hF hg25 (q_sc (.tail _ (.head _)) (q_sc (.tail _ (.tail _ (.head _))) (q_sc (List.mem_of_getElem? (i := 3) rfl) (fun _ h => absurd h List.not_mem_nil))))
  refine lv_iload hx hb d_17_29_87 (lv_at hl 3 rfl) ?_
  refine lv_sipush (v := 1080) hx hb d_17_29_89 (by decide) ?_
  refine lv_icmp_le (tgt := 99) hx hb d_17_29_92 (by decide) (fun c26 => ?_) (fun c26 => absurd (by decide) c26)
  refine lv_sipush (v := 1080) hx hb d_17_29_99 (by decide) ?_
  refine lv_iload hx hb d_17_29_102 (lv_at hl 3 rfl) ?_
  refine lv_isub hx hb d_17_29_104 ?_
  refine q_ti (v := 6) (by decide) ?_
  refine lv_istore (lv' := [(6, .int 6), (0, .ref qO0), (1, .long 0), (3, .int 0), (4, .int 1074), (5, .int 0)]) hx hb d_17_29_105 hl (by decide) rfl (fun ls hl => ?_)
  refine lv_aload_n hx hb d_17_29_107 rfl (lv_at hl 1 rfl) ?_
  refine lv_iload hx hb d_17_29_108 (lv_at hl 0 rfl) ?_
  refine lv_aload_n hx hb d_17_29_110 rfl (lv_at hl 1 rfl) ?_
  refine lv_iload hx hb d_17_29_111 (lv_at hl 0 rfl) ?_
  refine lv_iload hx hb d_17_29_113 (lv_at hl 5 rfl) ?_
  replace hO0 := (hg25 _ (q_nc n_O0_A1 (q_nc n_O0_A2 (q_nc n_O0_A3 List.not_mem_nil)))).trans (hO0)
  refine q_goi V (q_runV (As := [.int 6, .int 0]) (rest := [.int 6, .ref qO0]) (d := 1) (mc := 0) (ms := 0) (ci := 15) C0 V rfl LV_FR_165 (c_FR_isMore l D g u23 kO0 kA3 qO0 qA1 qA2 qA3 qA4 qA5 qA6 qA7 hO0 hA3 _) rfl rfl hO0 rfl hl.1 rfl (Nat.le_of_ble_eq_true rfl) ⟨by decide, by decide⟩ ⟨Nat.le_of_ble_eq_true rfl, Nat.le_of_ble_eq_true rfl⟩ d_17_29_115) (fun v29 u28 H locs hp27 V => ?_)
  obtain ⟨rfl, rfl⟩ := hp27
  replace hA6 := (hg25 _ (q_nc n_A6_A1 (q_nc n_A6_A2 (q_nc n_A6_A3 List.not_mem_nil)))).trans ((hu20 _ n_A6_O0).trans ((hg4 _ (q_nc n_A6_O0 List.not_mem_nil)).trans (hA6)))
  refine q_gov V (q_runV (As := [.int 6, .int 0]) (rest := []) (d := 1) (mc := 0) (ms := 0) (ci := 15) C0 V rfl LV_FR_81 (c_FR_cut l D g u23 kO0 kA3 kA6 qO0 qA1 qA2 qA3 qA4 qA5 qA6 qA7 hO0 hA3 hA6 n_A3_A6 _) rfl rfl hO0 rfl hl.1 rfl (Nat.le_of_ble_eq_true rfl) ⟨by decide, by decide⟩ ⟨Nat.le_of_ble_eq_true rfl, Nat.le_of_ble_eq_true rfl⟩ d_17_29_118) (fun u32 H locs hp31 V => ?_)
  obtain ⟨hg33, hA6⟩ := hp31
  replace hF := q_uc hF hg33 (q_sc (List.mem_of_getElem? (i := 4) rfl) (fun _ h => absurd h List.not_mem_nil))
  refine lv_aload_n hx hb d_17_29_121 rfl (lv_at hl 1 rfl) ?_
  replace hO0 := (hg33 _ (q_nc n_O0_A6 List.not_mem_nil)).trans (hO0)
  refine q_gov V (q_runV (As := []) (rest := []) (d := 1) (mc := 0) (ms := 0) (ci := 15) C0 V rfl LV_FR_113 (c_FR_begin l D g u32 kO0 qO0 qA1 qA2 qA3 qA4 qA5 qA6 qA7 hO0 _) rfl rfl hO0 rfl hl.1 rfl (Nat.le_of_ble_eq_true rfl) ⟨by decide, by decide⟩ ⟨Nat.le_of_ble_eq_true rfl, Nat.le_of_ble_eq_true rfl⟩ d_17_29_122) (fun u35 H locs hp34 V => ?_)
  obtain ⟨hg36, hO0⟩ := hp34
  replace hF := q_uc hF hg36 (q_sc (.head _) (fun _ h => absurd h List.not_mem_nil))
  refine lv_sipush (v := 1403) hx hb d_17_29_125 (by decide) ?_
  refine lv_istore (lv' := [(7, .int 1403), (6, .int 6), (0, .ref qO0), (1, .long 0), (3, .int 0), (4, .int 1074), (5, .int 0)]) hx hb d_17_29_128 hl (by decide) rfl (fun ls hl => ?_)
  replace hA1 := (hg36 _ (q_nc n_A1_O0 List.not_mem_nil)).trans ((hg33 _ (q_nc n_A1_A6 List.not_mem_nil)).trans (hA1))
  replace hA2 := (hg36 _ (q_nc n_A2_O0 List.not_mem_nil)).trans ((hg33 _ (q_nc n_A2_A6 List.not_mem_nil)).trans (hA2))
  replace hA3 := (hg36 _ (q_nc n_A3_O0 List.not_mem_nil)).trans ((hg33 _ (q_nc n_A3_A6 List.not_mem_nil)).trans (hA3))
  replace hA6 := (hg36 _ (q_nc n_A6_O0 List.not_mem_nil)).trans (hA6)
  replace hA7 := (hg36 _ (q_nc n_A7_O0 List.not_mem_nil)).trans ((hg33 _ (q_nc n_A7_A6 List.not_mem_nil)).trans ((hg25 _ (q_nc n_A7_A1 (q_nc n_A7_A2 (q_nc n_A7_A3 List.not_mem_nil)))).trans ((hu20 _ n_A7_O0).trans ((hg4 _ (q_nc n_A7_O0 List.not_mem_nil)).trans (hA7)))))
  refine q_loop (X := Int32) (fun z H locs ls w38 => (1080 ≤ z.toInt ∧ z.toInt ≤ 1403) ∧ q_Wd D g (va_A ws sz) s w38 H locs ∧ lv_has ls 9 [(7, .int z), (6, .int 6), (0, .ref qO0), (1, .long 0), (3, .int 0), (4, .int 1074), (5, .int 0)] ∧ q_un ws w38 [kO0, kA1, kA2, kA3, kA6, kA7] ∧ w38[kO0]? = (some (qO0, .inr (15, [.int 0, .ref qA1, .ref qA2, .ref qA3, .ref qA4, .ref qA5, .ref qA6, .ref qA7, .int 0, .int 0, .int 0, .long 0, .int 52, .int 2047, .long 0, .int (-1074), .long 0, .int 0])) : Option (Nat × va_E)) ∧ w38[kA1]? = (some (qA1, .inl (g 0, 156, .inl y24)) : Option (Nat × va_E)) ∧ w38[kA2]? = (some (qA2, .inl (g 0, 156, .inl (fun _ => 0))) : Option (Nat × va_E)) ∧ w38[kA3]? = (some (qA3, .inl (g 0, 1404, .inl (fun _ => 0))) : Option (Nat × va_E)) ∧ w38[kA6]? = (some (qA6, .inl (g 0, 1404, .inl (fun _ => 0))) : Option (Nat × va_E)) ∧ w38[kA7]? = (some (qA7, .inl (g 0, 1600, .inl (fun _ => 0))) : Option (Nat × va_E))) (fun z => (z.toInt - 1080).toNat) ?_ ((1403 : Int32)) _ _ _ u35 ⟨⟨by decide, by decide⟩, V, hl, hF, hO0, hA1, hA2, hA3, hA6, hA7⟩
  rintro lx37 H locs ls w38 ⟨i39, V, hl, hF, hO0, hA1, hA2, hA3, hA6, hA7⟩ ih40
  replace i39 : 1080 ≤ lx37.toInt ∧ lx37.toInt ≤ 1403 := i39
  replace hl : lv_has ls 9 [(7, .int lx37), (6, .int 6), (0, .ref qO0), (1, .long 0), (3, .int 0), (4, .int 1074), (5, .int 0)] := hl
  replace hO0 : w38[kO0]? = (some (qO0, .inr (15, [.int 0, .ref qA1, .ref qA2, .ref qA3, .ref qA4, .ref qA5, .ref qA6, .ref qA7, .int 0, .int 0, .int 0, .long 0, .int 52, .int 2047, .long 0, .int (-1074), .long 0, .int 0])) : Option (Nat × va_E)) := hO0
  replace hA1 : w38[kA1]? = (some (qA1, .inl (g 0, 156, .inl y24)) : Option (Nat × va_E)) := hA1
  replace hA2 : w38[kA2]? = (some (qA2, .inl (g 0, 156, .inl (fun _ => 0))) : Option (Nat × va_E)) := hA2
  replace hA3 : w38[kA3]? = (some (qA3, .inl (g 0, 1404, .inl (fun _ => 0))) : Option (Nat × va_E)) := hA3
  replace hA6 : w38[kA6]? = (some (qA6, .inl (g 0, 1404, .inl (fun _ => 0))) : Option (Nat × va_E)) := hA6
  replace hA7 : w38[kA7]? = (some (qA7, .inl (g 0, 1600, .inl (fun _ => 0))) : Option (Nat × va_E)) := hA7
  refine lv_iload hx hb d_17_29_130 (lv_at hl 0 rfl) ?_
  refine lv_sipush (v := 1080) hx hb d_17_29_132 (by decide) ?_
  refine lv_icmp_le (tgt := 154) hx hb d_17_29_135 (by decide) (fun c41 => ?_) (fun c41 => ?_)
  ·
    refine lv_iload hx hb d_17_29_154 (lv_at hl 0 rfl) ?_
    refine q_ti (v := 1080) (q_Ieq (x := lx37.toInt) (y := 1080) rfl (by decide) (by have t1 : lx37.toInt ≤ 1080 := q_leI c41; omega)) ?_
    refine lv_sipush (v := 1080) hx hb d_17_29_156 (by decide) ?_
    refine lv_isub hx hb d_17_29_159 ?_
    refine q_ti (v := 0) (by decide) ?_
    refine lv_istore (lv' := [(8, .int 0), (7, .int lx37), (6, .int 6), (0, .ref qO0), (1, .long 0), (3, .int 0), (4, .int 1074), (5, .int 0)]) hx hb d_17_29_160 hl (by decide) rfl (fun ls hl => ?_)
    refine lv_iload hx hb d_17_29_162 (lv_at hl 0 rfl) ?_
    refine lv_if_lt (tgt := 186) hx hb d_17_29_164 (by decide) (fun c42 => absurd c42 (by decide)) (fun c42 => ?_)
    refine lv_aload_n hx hb d_17_29_167 rfl (lv_at hl 3 rfl) ?_
    refine lv_bipush (v := 48) hx hb d_17_29_168 (by decide) ?_
    refine lv_aload_n hx hb d_17_29_170 rfl (lv_at hl 3 rfl) ?_
    refine lv_iload hx hb d_17_29_171 (lv_at hl 0 rfl) ?_
    refine q_goi V (q_runV (As := [.int 0]) (rest := [.int 48, .ref qO0]) (d := 1) (mc := 0) (ms := 0) (ci := 15) C0 V rfl LV_FR_169 (c_FR_figureAt l D g w38 kO0 kA6 qO0 qA1 qA2 qA3 qA4 qA5 qA6 qA7 hO0 hA6 _) rfl rfl hO0 rfl hl.1 rfl (Nat.le_of_ble_eq_true rfl) ⟨by decide, by decide⟩ ⟨Nat.le_of_ble_eq_true rfl, Nat.le_of_ble_eq_true rfl⟩ d_17_29_173) (fun v45 u44 H locs hp43 V => ?_)
    obtain ⟨rfl, rfl⟩ := hp43
    refine lv_iadd hx hb d_17_29_176 ?_
    refine q_ti (v := 48) (by decide) ?_
    refine q_gov V (q_runV (As := [.int 48]) (rest := []) (d := 1) (mc := 0) (ms := 0) (ci := 15) C0 V rfl LV_FR_110 (c_FR_add l D g w38 kO0 kA7 qO0 qA1 qA2 qA3 qA4 qA5 qA6 qA7 hO0 hA7 _) rfl rfl hO0 rfl hl.1 rfl (Nat.le_of_ble_eq_true rfl) ⟨by decide, by decide⟩ ⟨Nat.le_of_ble_eq_true rfl, Nat.le_of_ble_eq_true rfl⟩ d_17_29_177) (fun u48 H locs hp47 V => ?_)
    obtain ⟨hg49, hO0, hA7⟩ := hp47
    replace hF := q_uc hF hg49 (q_sc (.head _) (q_sc (List.mem_of_getElem? (i := 5) rfl) (fun _ h => absurd h List.not_mem_nil)))
    refine lv_iinc (v := (-1)) (lv' := [(8, .int (-1)), (7, .int lx37), (6, .int 6), (0, .ref qO0), (1, .long 0), (3, .int 0), (4, .int 1074), (5, .int 0)]) hx hb d_17_29_180 hl (k := 0) rfl (by decide) (by decide) rfl (fun ls hl => ?_)
    refine lv_goto (tgt := 162) hx hb d_17_29_183 (by decide) ?_
    refine lv_iload hx hb d_17_29_162 (lv_at hl 0 rfl) ?_
    refine lv_if_lt (tgt := 186) hx hb d_17_29_164 (by decide) (fun c50 => ?_) (fun c50 => absurd (by decide) c50)
    refine lv_iload hx hb d_17_29_186 (lv_at hl 6 rfl) ?_
    refine lv_if_le (tgt := 197) hx hb d_17_29_188 (by decide) (fun c51 => absurd c51 (by decide)) (fun c51 => ?_)
    refine lv_aload_n hx hb d_17_29_191 rfl (lv_at hl 3 rfl) ?_
    refine lv_bipush (v := 46) hx hb d_17_29_192 (by decide) ?_
    refine q_gov V (q_runV (As := [.int 46]) (rest := []) (d := 1) (mc := 0) (ms := 0) (ci := 15) C0 V rfl LV_FR_110 (c_FR_add_2 l D g u48 kO0 kA7 qO0 qA1 qA2 qA3 qA4 qA5 qA6 qA7 hO0 hA7 _) rfl rfl hO0 rfl hl.1 rfl (Nat.le_of_ble_eq_true rfl) ⟨by decide, by decide⟩ ⟨Nat.le_of_ble_eq_true rfl, Nat.le_of_ble_eq_true rfl⟩ d_17_29_194) (fun u53 H locs hp52 V => ?_)
    obtain ⟨hg54, hO0, hA7⟩ := hp52
    replace hF := q_uc hF hg54 (q_sc (.head _) (q_sc (List.mem_of_getElem? (i := 5) rfl) (fun _ h => absurd h List.not_mem_nil)))
    refine lv_iconst (v := (-1)) hx hb d_17_29_197 (by decide) ?_
    refine lv_istore (lv' := [(8, .int (-1)), (7, .int lx37), (6, .int 6), (0, .ref qO0), (1, .long 0), (3, .int 0), (4, .int 1074), (5, .int 0)]) hx hb d_17_29_198 hl (by decide) rfl (fun ls hl => ?_)
    replace hA1 := (hg54 _ (q_nc n_A1_O0 (q_nc n_A1_A7 List.not_mem_nil))).trans ((hg49 _ (q_nc n_A1_O0 (q_nc n_A1_A7 List.not_mem_nil))).trans (hA1))
    replace hA2 := (hg54 _ (q_nc n_A2_O0 (q_nc n_A2_A7 List.not_mem_nil))).trans ((hg49 _ (q_nc n_A2_O0 (q_nc n_A2_A7 List.not_mem_nil))).trans (hA2))
    replace hA3 := (hg54 _ (q_nc n_A3_O0 (q_nc n_A3_A7 List.not_mem_nil))).trans ((hg49 _ (q_nc n_A3_O0 (q_nc n_A3_A7 List.not_mem_nil))).trans (hA3))
    replace hA6 := (hg54 _ (q_nc n_A6_O0 (q_nc n_A6_A7 List.not_mem_nil))).trans ((hg49 _ (q_nc n_A6_O0 (q_nc n_A6_A7 List.not_mem_nil))).trans (hA6))
    refine q_loop (X := Int32 × Int32) (fun z H locs ls w57 => ((-1075) ≤ z.1.toInt ∧ z.1.toInt ≤ -1) ∧ (z.2.toInt = 2 + 1 * ((-1) - z.1.toInt)) ∧ q_Wd D g (va_A ws sz) s w57 H locs ∧ lv_has ls 9 [(8, .int z.1), (7, .int lx37), (6, .int 6), (0, .ref qO0), (1, .long 0), (3, .int 0), (4, .int 1074), (5, .int 0)] ∧ q_un ws w57 [kO0, kA1, kA2, kA3, kA6, kA7] ∧ w57[kO0]? = (some (qO0, .inr (15, [.int 0, .ref qA1, .ref qA2, .ref qA3, .ref qA4, .ref qA5, .ref qA6, .ref qA7, .int z.2, .int 0, .int 0, .long 0, .int 52, .int 2047, .long 0, .int (-1074), .long 0, .int 0])) : Option (Nat × va_E)) ∧ w57[kA1]? = (some (qA1, .inl (g 0, 156, .inl y24)) : Option (Nat × va_E)) ∧ w57[kA2]? = (some (qA2, .inl (g 0, 156, .inl (fun _ => 0))) : Option (Nat × va_E)) ∧ w57[kA3]? = (some (qA3, .inl (g 0, 1404, .inl (fun _ => 0))) : Option (Nat × va_E)) ∧ w57[kA6]? = (some (qA6, .inl (g 0, 1404, .inl (fun _ => 0))) : Option (Nat × va_E)) ∧ w57[kA7]? = (some (qA7, .inl (g 0, 1600, .inl (q_fil (upd (upd (fun _ => 0) 0 48) 1 46) 2 48 z.2))) : Option (Nat × va_E))) (fun z => (z.1.toInt - (-1075)).toNat) ?_ (((-1) : Int32), (2 : Int32)) _ _ _ u53 ⟨⟨(by dsimp only; decide), (by dsimp only; decide)⟩, (show (2 : Int32).toInt = 2 + 1 * ((-1) - ((-1) : Int32).toInt) from by have t1 : lx37.toInt ≤ 1080 := q_leI c41; have e1 : (2 : Int32).toInt = 2 := (by decide); have e2 : (((-1) : Int32)).toInt = (-1) := (by decide); omega), V, hl, hF, hO0, hA1, hA2, hA3, hA6, q_re hA7 (q_eI q_fl0)⟩
    rintro ⟨lx55, lx56⟩ H locs ls w57 ⟨i58, i59, V, hl, hF, hO0, hA1, hA2, hA3, hA6, hA7⟩ ih60
    replace i58 : (-1075) ≤ lx55.toInt ∧ lx55.toInt ≤ -1 := i58
    replace i59 : lx56.toInt = 2 + 1 * ((-1) - lx55.toInt) := i59
    replace hl : lv_has ls 9 [(8, .int lx55), (7, .int lx37), (6, .int 6), (0, .ref qO0), (1, .long 0), (3, .int 0), (4, .int 1074), (5, .int 0)] := hl
    replace hO0 : w57[kO0]? = (some (qO0, .inr (15, [.int 0, .ref qA1, .ref qA2, .ref qA3, .ref qA4, .ref qA5, .ref qA6, .ref qA7, .int lx56, .int 0, .int 0, .long 0, .int 52, .int 2047, .long 0, .int (-1074), .long 0, .int 0])) : Option (Nat × va_E)) := hO0
    replace hA1 : w57[kA1]? = (some (qA1, .inl (g 0, 156, .inl y24)) : Option (Nat × va_E)) := hA1
    replace hA2 : w57[kA2]? = (some (qA2, .inl (g 0, 156, .inl (fun _ => 0))) : Option (Nat × va_E)) := hA2
    replace hA3 : w57[kA3]? = (some (qA3, .inl (g 0, 1404, .inl (fun _ => 0))) : Option (Nat × va_E)) := hA3
    replace hA6 : w57[kA6]? = (some (qA6, .inl (g 0, 1404, .inl (fun _ => 0))) : Option (Nat × va_E)) := hA6
    replace hA7 : w57[kA7]? = (some (qA7, .inl (g 0, 1600, .inl (q_fil (upd (upd (fun _ => 0) 0 48) 1 46) 2 48 lx56))) : Option (Nat × va_E)) := hA7
    refine lv_iload hx hb d_17_29_200 (lv_at hl 0 rfl) ?_
    refine lv_iload hx hb d_17_29_202 (lv_at hl 6 rfl) ?_
    refine lv_ineg hx hb d_17_29_204 ?_
    refine q_ti (v := (-1074)) (by decide) ?_
    refine lv_icmp_lt (tgt := 227) hx hb d_17_29_205 (by decide) (fun c61 => ?_) (fun c61 => ?_)
    ·
      have hzz : lx56 = 1076 := q_Ieq (x := lx56.toInt) (y := 1076) rfl (by decide) (by have t1 : lx37.toInt ≤ 1080 := q_leI c41; have t2 : lx55.toInt < (-1074) := q_ltI c61; omega)
      subst hzz
      refine lv_aload_n hx hb d_17_29_227 rfl (lv_at hl 3 rfl) ?_
      refine q_get (ci := 15) (j := 8) (v := .int 1076) C0 V i_FR rfl rfl hO0 (by decide) w_2084 rfl d_17_29_228 ?_
      exact q_reti C0 V (⟨y24, rfl, hF, hO0, hA1, hA2, hA3, hA6, hA7⟩) d_17_29_231
    ·
      refine lv_aload_n hx hb d_17_29_208 rfl (lv_at hl 3 rfl) ?_
      refine lv_bipush (v := 48) hx hb d_17_29_209 (by decide) ?_
      refine lv_aload_n hx hb d_17_29_211 rfl (lv_at hl 3 rfl) ?_
      refine lv_iload hx hb d_17_29_212 (lv_at hl 0 rfl) ?_
      refine q_goi V (q_runV (As := [.int lx55]) (rest := [.int 48, .ref qO0]) (d := 1) (mc := 0) (ms := 0) (ci := 15) C0 V rfl LV_FR_169 (c_FR_figureAt_2 l D g w57 kO0 kA6 qO0 qA1 qA2 qA3 qA4 qA5 qA6 qA7 lx55 lx56 hO0 hA6 (q_Ile (x := (-1074)) (y := lx55.toInt) (by decide) rfl (by have t1 : (-1074) ≤ lx55.toInt := q_nltI c61; omega)) (q_Ile (x := lx55.toInt) (y := (-1)) rfl (by decide) (by have t1 : (-1074) ≤ lx55.toInt := q_nltI c61; omega)) (q_Ile (x := 2) (y := lx56.toInt) (by decide) rfl (by have t1 : (-1074) ≤ lx55.toInt := q_nltI c61; omega)) (q_Ile (x := lx56.toInt) (y := 1076) rfl (by decide) (by have t1 : (-1074) ≤ lx55.toInt := q_nltI c61; omega)) _) rfl rfl hO0 rfl hl.1 rfl (Nat.le_of_ble_eq_true rfl) ⟨by decide, by decide⟩ ⟨Nat.le_of_ble_eq_true rfl, Nat.le_of_ble_eq_true rfl⟩ d_17_29_214) (fun v64 u63 H locs hp62 V => ?_)
      obtain ⟨rfl, rfl⟩ := hp62
      refine lv_iadd hx hb d_17_29_217 ?_
      refine q_ti (v := 48) (by decide) ?_
      refine q_gov V (q_runV (As := [.int 48]) (rest := []) (d := 1) (mc := 0) (ms := 0) (ci := 15) C0 V rfl LV_FR_110 (c_FR_add_3 l D g w57 kO0 kA7 qO0 qA1 qA2 qA3 qA4 qA5 qA6 qA7 lx56 (q_fil (upd (upd (fun _ => 0) 0 48) 1 46) 2 48 lx56) hO0 hA7 (q_Ile (x := 2) (y := lx56.toInt) (by decide) rfl (by have t1 : (-1074) ≤ lx55.toInt := q_nltI c61; omega)) (q_Ile (x := lx56.toInt) (y := 1076) rfl (by decide) (by have t1 : (-1074) ≤ lx55.toInt := q_nltI c61; omega)) _) rfl rfl hO0 rfl hl.1 rfl (Nat.le_of_ble_eq_true rfl) ⟨by decide, by decide⟩ ⟨Nat.le_of_ble_eq_true rfl, Nat.le_of_ble_eq_true rfl⟩ d_17_29_218) (fun u67 H locs hp66 V => ?_)
      obtain ⟨hg68, hO0, hA7⟩ := hp66
      replace hF := q_uc hF hg68 (q_sc (.head _) (q_sc (List.mem_of_getElem? (i := 5) rfl) (fun _ h => absurd h List.not_mem_nil)))
      refine lv_iinc (v := lx55 + (-1)) (lv' := [(8, .int (lx55 + (-1))), (7, .int lx37), (6, .int 6), (0, .ref qO0), (1, .long 0), (3, .int 0), (4, .int 1074), (5, .int 0)]) hx hb d_17_29_221 hl (k := 0) rfl (rfl) (by decide) rfl (fun ls hl => ?_)
      refine lv_goto (tgt := 200) hx hb d_17_29_224 (by decide) ?_
      replace hA7 : u67[kA7]? = (some (qA7, .inl (g 0, 1600, .inl (q_fil (upd (upd (fun _ => 0) 0 48) 1 46) 2 48 (lx56 + 1)))) : Option (Nat × va_E)) := q_re hA7 (q_eI (q_fls (x := lx56) (y := lx56 + 1) (by have t1 : (-1074) ≤ lx55.toInt := q_nltI c61; omega) (show (lx56 + 1).toInt = lx56.toInt + 1 from (q_addI (x := lx56.toInt) (y := 1) rfl (by decide) (by have t1 : (-1074) ≤ lx55.toInt := q_nltI c61; omega) (by have t1 : (-1074) ≤ lx55.toInt := q_nltI c61; omega)))))
      replace hA1 := (hg68 _ (q_nc n_A1_O0 (q_nc n_A1_A7 List.not_mem_nil))).trans (hA1)
      replace hA2 := (hg68 _ (q_nc n_A2_O0 (q_nc n_A2_A7 List.not_mem_nil))).trans (hA2)
      replace hA3 := (hg68 _ (q_nc n_A3_O0 (q_nc n_A3_A7 List.not_mem_nil))).trans (hA3)
      replace hA6 := (hg68 _ (q_nc n_A6_O0 (q_nc n_A6_A7 List.not_mem_nil))).trans (hA6)
      exact ih60 ((lx55 + (-1) : Int32), (lx56 + 1 : Int32)) _ _ _ _ (show ((lx55 + (-1)).toInt - (-1075)).toNat < (lx55.toInt - (-1075)).toNat from by have t1 : (-1074) ≤ lx55.toInt := q_nltI c61; have e : (lx55 + (-1)).toInt = (lx55.toInt + (-1)) := (q_addI (x := lx55.toInt) (y := (-1)) rfl (by decide) (by have t1 : (-1074) ≤ lx55.toInt := q_nltI c61; omega) (by have t1 : (-1074) ≤ lx55.toInt := q_nltI c61; omega)); omega) ⟨(show (-1075) ≤ (lx55 + (-1)).toInt ∧ (lx55 + (-1)).toInt ≤ -1 from by have t1 : (-1074) ≤ lx55.toInt := q_nltI c61; have e : (lx55 + (-1)).toInt = (lx55.toInt + (-1)) := (q_addI (x := lx55.toInt) (y := (-1)) rfl (by decide) (by have t1 : (-1074) ≤ lx55.toInt := q_nltI c61; omega) (by have t1 : (-1074) ≤ lx55.toInt := q_nltI c61; omega)); omega), (show (lx56 + 1 : Int32).toInt = 2 + 1 * ((-1) - (lx55 + (-1) : Int32).toInt) from by have t1 : lx37.toInt ≤ 1080 := q_leI c41; have t2 : (-1074) ≤ lx55.toInt := q_nltI c61; have e0 : (lx55 + (-1) : Int32).toInt = (lx55.toInt + (-1)) := (q_addI (x := lx55.toInt) (y := (-1)) rfl (by decide) (by have t1 : (-1074) ≤ lx55.toInt := q_nltI c61; omega) (by have t1 : (-1074) ≤ lx55.toInt := q_nltI c61; omega)); have e1 : (lx56 + 1 : Int32).toInt = (lx56.toInt + 1) := (q_addI (x := lx56.toInt) (y := 1) rfl (by decide) (by have t1 : (-1074) ≤ lx55.toInt := q_nltI c61; omega) (by have t1 : (-1074) ≤ lx55.toInt := q_nltI c61; omega)); omega), V, q_lw hl (q_lw1 0 rfl (q_lw1 1 rfl (q_lw1 2 rfl (q_lw1 3 rfl (q_lw1 4 rfl (q_lw1 5 rfl (q_lw1 6 rfl (q_lw1 7 rfl q_lw0)))))))), hF, hO0, hA1, hA2, hA3, hA6, hA7⟩
  ·
    refine lv_aload_n hx hb d_17_29_138 rfl (lv_at hl 2 rfl) ?_
    refine q_get (ci := 15) (j := 6) (v := .ref qA6) C0 V i_FR rfl rfl hO0 (by decide) w_2081 rfl d_17_29_139 ?_
    refine lv_iload hx hb d_17_29_142 (lv_at hl 0 rfl) ?_
    refine q_iald C0 V hA6 (q_ix (x := lx37.toInt) rfl (by have t1 : 1080 < lx37.toInt := q_nleI c41; omega) (by have t1 : 1080 < lx37.toInt := q_nleI c41; omega)) d_17_29_144 ?_
    refine q_ti (v := 0) (by first | rfl | decide | simp [upd, vp_updL, sb_cl0]) ?_
    refine lv_if_ne (tgt := 154) hx hb d_17_29_145 (by decide) (fun c69 => absurd (by decide) c69) (fun c69 => ?_)
    refine lv_iinc (v := lx37 + (-1)) (lv' := [(7, .int (lx37 + (-1))), (6, .int 6), (0, .ref qO0), (1, .long 0), (3, .int 0), (4, .int 1074), (5, .int 0)]) hx hb d_17_29_148 hl (k := 0) rfl (rfl) (by decide) rfl (fun ls hl => ?_)
    refine lv_goto (tgt := 130) hx hb d_17_29_151 (by decide) ?_
    exact ih40 ((lx37 + (-1) : Int32)) _ _ _ _ (show ((lx37 + (-1)).toInt - 1080).toNat < (lx37.toInt - 1080).toNat from by have t1 : 1080 < lx37.toInt := q_nleI c41; have e : (lx37 + (-1)).toInt = (lx37.toInt + (-1)) := (q_addI (x := lx37.toInt) (y := (-1)) rfl (by decide) (by have t1 : 1080 < lx37.toInt := q_nleI c41; omega) (by have t1 : 1080 < lx37.toInt := q_nleI c41; omega)); omega) ⟨(show 1080 ≤ (lx37 + (-1)).toInt ∧ (lx37 + (-1)).toInt ≤ 1403 from by have t1 : 1080 < lx37.toInt := q_nleI c41; have e : (lx37 + (-1)).toInt = (lx37.toInt + (-1)) := (q_addI (x := lx37.toInt) (y := (-1)) rfl (by decide) (by have t1 : 1080 < lx37.toInt := q_nleI c41; omega) (by have t1 : 1080 < lx37.toInt := q_nleI c41; omega)); omega), V, q_lw hl (q_lw1 0 rfl (q_lw1 1 rfl (q_lw1 2 rfl (q_lw1 3 rfl (q_lw1 4 rfl (q_lw1 5 rfl (q_lw1 6 rfl q_lw0))))))), hF, hO0, hA1, hA2, hA3, hA6, hA7⟩
theorem d_14_7_7 : decode prog_14_method_7_code 7 = .ok (.aload_n 2, 1) := by decide +kernel
theorem d_14_7_8 : decode prog_14_method_7_code 8 = .ok (.iload_n 3, 1) := by decide +kernel
theorem d_14_7_9 : decode prog_14_method_7_code 9 = .ok (.aload_n 0, 1) := by decide +kernel
theorem d_14_7_10 : decode prog_14_method_7_code 10 = .ok (.iload_n 3, 1) := by decide +kernel
theorem d_14_7_11 : decode prog_14_method_7_code 11 = .ok (.iaload, 1) := by decide +kernel
theorem d_14_7_12 : decode prog_14_method_7_code 12 = .ok (.iastore, 1) := by decide +kernel
theorem d_14_7_13 : decode prog_14_method_7_code 13 = .ok (.iinc 3 1, 3) := by decide +kernel
theorem d_14_7_16 : decode prog_14_method_7_code 16 = .ok (.goto (-14), 3) := by decide +kernel
set_option maxRecDepth 100000 in
set_option maxHeartbeats 4000000 in
theorem c_NM_load_2 (l : Launch) (D : va_G) (g : Nat → ClassId) (ws : va_W) ( qA0 qA1 : Nat) (hA0 : ws[152]? = (some (qA0, .inl (g 0, 1600, .inl (q_fil (upd (upd (fun _ => 0) 0 48) 1 46) 2 48 1076))) : Option (Nat × va_E))) (hA1 : ws[135]? = (some (qA1, .inl (g 0, 4100, .inl (fun _ => 0))) : Option (Nat × va_E))) : q_mI l y_NM_load prog_14_method_7_code 4 (.int) 1 0 0 D g [.ref qA0, .int 1076, .ref qA1] ws (fun r u => 1076 = r ∧ q_un ws u [135] ∧ u[135]? = (some (qA1, .inl (g 0, 4100, .inl (q_fil (upd (upd (fun _ => 0) 0 48) 1 46) 2 48 1076))) : Option (Nat × va_E))) := by
  intro sz
  refine q_into (by decide) (Nat.le_of_ble_eq_true rfl) ?_
  intro p e s m below meth c ls hsz C0 V hl
  have hx := C0.1
  have hb := C0.2.1
  have hl : lv_has ls 4 [(0, .ref qA0), (1, .int 1076), (2, .ref qA1)] := hl
  have hF : q_un ws ws [135] := q_u0
  refine lv_iconst (v := 0) hx hb d_14_7_0 (by decide) ?_
  refine lv_istore_n (lv' := [(3, .int 0), (0, .ref qA0), (1, .int 1076), (2, .ref qA1)]) hx hb d_14_7_1 rfl hl (by decide) rfl (fun ls hl => ?_)
  refine q_loop (X := Int32) (fun z H locs ls w2 => (0 ≤ z.toInt ∧ (z.toInt ≤ 1076 ∨ z.toInt = 0)) ∧ q_Wd D g (va_A ws sz) s w2 H locs ∧ lv_has ls 4 [(3, .int z), (0, .ref qA0), (1, .int 1076), (2, .ref qA1)] ∧ q_un ws w2 [135] ∧ w2[152]? = (some (qA0, .inl (g 0, 1600, .inl (q_fil (upd (upd (fun _ => 0) 0 48) 1 46) 2 48 1076))) : Option (Nat × va_E)) ∧ w2[135]? = (some (qA1, .inl (g 0, 4100, .inl (q_mix (q_fil (upd (upd (fun _ => 0) 0 48) 1 46) 2 48 1076) (fun _ => 0) z))) : Option (Nat × va_E))) (fun z => (1076 - z.toInt).toNat) ?_ ((0 : Int32)) _ _ _ ws ⟨⟨by decide, Or.inr (by decide)⟩, V, hl, hF, hA0, q_re hA1 (q_eI q_mx0)⟩
  rintro lx1 H locs ls w2 ⟨i3, V, hl, hF, hA0, hA1⟩ ih4
  replace i3 : 0 ≤ lx1.toInt ∧ (lx1.toInt ≤ 1076 ∨ lx1.toInt = 0) := i3
  replace hl : lv_has ls 4 [(3, .int lx1), (0, .ref qA0), (1, .int 1076), (2, .ref qA1)] := hl
  replace hA0 : w2[152]? = (some (qA0, .inl (g 0, 1600, .inl (q_fil (upd (upd (fun _ => 0) 0 48) 1 46) 2 48 1076))) : Option (Nat × va_E)) := hA0
  replace hA1 : w2[135]? = (some (qA1, .inl (g 0, 4100, .inl (q_mix (q_fil (upd (upd (fun _ => 0) 0 48) 1 46) 2 48 1076) (fun _ => 0) lx1))) : Option (Nat × va_E)) := hA1
  refine lv_iload_n hx hb d_14_7_2 rfl (lv_at hl 0 rfl) ?_
  refine lv_iload_n hx hb d_14_7_3 rfl (lv_at hl 2 rfl) ?_
  refine lv_icmp_ge (tgt := 19) hx hb d_14_7_4 (by decide) (fun c5 => ?_) (fun c5 => ?_)
  ·
    replace hA1 : w2[135]? = (some (qA1, .inl (g 0, 4100, .inl (q_fil (upd (upd (fun _ => 0) 0 48) 1 46) 2 48 1076))) : Option (Nat × va_E)) := q_re hA1 (q_eI (q_mxe (n := 1076) (by have t1 : 1076 ≤ lx1.toInt := q_leI c5; omega) (by intro j hj; have e9 : (1076 : Int32).toNatClampNeg = 1076 := rfl; unfold q_fil; simp only [upd]; (repeat' split) <;> first | rfl | omega)))
    refine lv_iload_n hx hb d_14_7_19 rfl (lv_at hl 2 rfl) ?_
    exact q_reti C0 V (⟨rfl, hF, hA1⟩) d_14_7_20
  ·
    refine lv_aload_n hx hb d_14_7_7 rfl (lv_at hl 3 rfl) ?_
    refine lv_iload_n hx hb d_14_7_8 rfl (lv_at hl 0 rfl) ?_
    refine lv_aload_n hx hb d_14_7_9 rfl (lv_at hl 1 rfl) ?_
    refine lv_iload_n hx hb d_14_7_10 rfl (lv_at hl 0 rfl) ?_
    refine q_iald C0 V hA0 (q_ix (x := lx1.toInt) rfl (by have t1 : lx1.toInt < 1076 := q_nleI c5; omega) (by have t1 : lx1.toInt < 1076 := q_nleI c5; omega)) d_14_7_11 ?_
    refine q_iast C0 V hA1 (q_ix (x := lx1.toInt) rfl (by have t1 : lx1.toInt < 1076 := q_nleI c5; omega) (by have t1 : lx1.toInt < 1076 := q_nleI c5; omega)) d_14_7_12 (fun H locs w6 hu7 hA1 V => ?_)
    replace hA1 : w6[135]? = (some (qA1, .inl (g 0, 4100, .inl (upd (q_mix (q_fil (upd (upd (fun _ => 0) 0 48) 1 46) 2 48 1076) (fun _ => 0) lx1) lx1.toNatClampNeg ((q_fil (upd (upd (fun _ => 0) 0 48) 1 46) 2 48 1076) lx1.toNatClampNeg)))) : Option (Nat × va_E)) := hA1
    replace hF := q_us hF hu7 (.head _)
    refine lv_iinc (v := lx1 + 1) (lv' := [(3, .int (lx1 + 1)), (0, .ref qA0), (1, .int 1076), (2, .ref qA1)]) hx hb d_14_7_13 hl (k := 0) rfl (rfl) (by decide) rfl (fun ls hl => ?_)
    refine lv_goto (tgt := 2) hx hb d_14_7_16 (by decide) ?_
    replace hA1 : w6[135]? = (some (qA1, .inl (g 0, 4100, .inl (q_mix (q_fil (upd (upd (fun _ => 0) 0 48) 1 46) 2 48 1076) (fun _ => 0) (lx1 + 1)))) : Option (Nat × va_E)) := q_re hA1 (q_eI (q_mxs (x := lx1) (y := lx1 + 1) rfl (by have t1 : lx1.toInt < 1076 := q_nleI c5; omega) (show (lx1 + 1).toInt = lx1.toInt + 1 from (q_addI (x := lx1.toInt) (y := 1) rfl (by decide) (by have t1 : lx1.toInt < 1076 := q_nleI c5; omega) (by have t1 : lx1.toInt < 1076 := q_nleI c5; omega)))))
    replace hA0 := (hu7 _ (q_pd 152 135 rfl)).trans (hA0)
    exact ih4 ((lx1 + 1 : Int32)) _ _ _ _ (show (1076 - (lx1 + 1).toInt).toNat < (1076 - lx1.toInt).toNat from by have t1 : lx1.toInt < 1076 := q_nleI c5; have e : (lx1 + 1).toInt = (lx1.toInt + 1) := (q_addI (x := lx1.toInt) (y := 1) rfl (by decide) (by have t1 : lx1.toInt < 1076 := q_nleI c5; omega) (by have t1 : lx1.toInt < 1076 := q_nleI c5; omega)); omega) ⟨(show 0 ≤ (lx1 + 1).toInt ∧ ((lx1 + 1).toInt ≤ 1076 ∨ (lx1 + 1).toInt = 0) from by have t1 : lx1.toInt < 1076 := q_nleI c5; have e : (lx1 + 1).toInt = (lx1.toInt + 1) := (q_addI (x := lx1.toInt) (y := 1) rfl (by decide) (by have t1 : lx1.toInt < 1076 := q_nleI c5; omega) (by have t1 : lx1.toInt < 1076 := q_nleI c5; omega)); omega), V, q_lw hl (q_lw1 0 rfl (q_lw1 1 rfl (q_lw1 2 rfl (q_lw1 3 rfl q_lw0)))), hF, hA0, hA1⟩
theorem d_14_28_0 : decode prog_14_method_28_code 0 = .ok (.aload_n 0, 1) := by decide +kernel
theorem d_14_28_1 : decode prog_14_method_28_code 1 = .ok (.getfield 33, 3) := by decide +kernel
theorem d_14_28_4 : decode prog_14_method_28_code 4 = .ok (.lload_n 2, 1) := by decide +kernel
theorem d_14_28_5 : decode prog_14_method_28_code 5 = .ok (.iload_n 1, 1) := by decide +kernel
theorem d_14_28_6 : decode prog_14_method_28_code 6 = .ok (.iconst 3, 1) := by decide +kernel
theorem d_14_28_7 : decode prog_14_method_28_code 7 = .ok (.if_icmp .ne 7, 3) := by decide +kernel
theorem d_14_28_14 : decode prog_14_method_28_code 14 = .ok (.iconst 0, 1) := by decide +kernel
theorem d_14_28_15 : decode prog_14_method_28_code 15 = .ok (.iload 4, 2) := by decide +kernel
theorem d_14_28_17 : decode prog_14_method_28_code 17 = .ok (.iconst 0, 1) := by decide +kernel
theorem d_14_28_18 : decode prog_14_method_28_code 18 = .ok (.invokevirtual 227, 3) := by decide +kernel
theorem w_2986 : (Cond.code ({ cls := "NumberHouseModel$FloatRows", name := "fixed", desc := "(JZII)I" } : MethodName) prog_17_method_29_code (9 : Nat) (some .int)) ∈ q_tbl := q_of 2986 (by decide +kernel) (by decide +kernel)
theorem w_2983 : (Cond.methodLink "NumberHouseModel" (227 : Nat) ({ cls := "NumberHouseModel$FloatRows", name := "fixed", desc := "(JZII)I" } : MethodName)) ∈ q_tbl := q_of 2983 (by decide +kernel) (by decide +kernel)
theorem w_2984 : (Cond.instanceMethod ({ cls := "NumberHouseModel$FloatRows", name := "fixed", desc := "(JZII)I" } : MethodName)) ∈ q_tbl := q_of 2984 (by decide +kernel) (by decide +kernel)
theorem w_2985 : (Cond.selects "NumberHouseModel$FloatRows" ({ cls := "NumberHouseModel$FloatRows", name := "fixed", desc := "(JZII)I" } : MethodName) ({ cls := "NumberHouseModel$FloatRows", name := "fixed", desc := "(JZII)I" } : MethodName)) ∈ q_tbl := q_of 2985 (by decide +kernel) (by decide +kernel)
theorem LV_NM_227 : q_LV "NumberHouseModel" 227 y_FR_fixed prog_17_method_29_code 9 (some .int) 4 := ⟨w_2986, w_17, w_2983, w_2984, w_2985, ⟨by decide, by decide, by decide +kernel⟩⟩
theorem d_14_28_21 : decode prog_14_method_28_code 21 = .ok (.istore 6, 2) := by decide +kernel
theorem d_14_28_23 : decode prog_14_method_28_code 23 = .ok (.aload_n 0, 1) := by decide +kernel
theorem d_14_28_24 : decode prog_14_method_28_code 24 = .ok (.getfield 33, 3) := by decide +kernel
theorem d_14_28_27 : decode prog_14_method_28_code 27 = .ok (.getfield 231, 3) := by decide +kernel
theorem wo_2083 : (Cond.fieldLinkNest "NumberHouseModel" (231 : Nat) "NumberHouseModel$FloatRows" "paper" "[I" "NumberHouseModel") ∈ q_odd := q_oo 2083 (by decide +kernel) (by decide +kernel)
theorem d_14_28_30 : decode prog_14_method_28_code 30 = .ok (.iload 6, 2) := by decide +kernel
theorem d_14_28_32 : decode prog_14_method_28_code 32 = .ok (.aload 5, 2) := by decide +kernel
theorem d_14_28_34 : decode prog_14_method_28_code 34 = .ok (.invokestatic 90, 3) := by decide +kernel
theorem d_14_28_37 : decode prog_14_method_28_code 37 = .ok (.ireturn, 1) := by decide +kernel
def y_NM_exact : MethodName := ⟨"NumberHouseModel", "exact", "(IJI[I)I"⟩
set_option maxRecDepth 100000 in
set_option maxHeartbeats 4000000 in
theorem c_NM_exact (l : Launch) (D : va_G) (g : Nat → ClassId) (ws : va_W) ( qO0 qA1 qA2 qA3 qO4 qO5 qO6 qO7 qO8 qA9 qA10 qA34 qA35 qA36 qA37 qA38 qA39 qA40 : Nat) (hO0 : ws[116]? = (some (qO0, .inr (12, [.int 0, .ref qA2, .int 0, .ref qA3, .int 0, .ref qO4, .ref qO5, .ref qO6, .ref qO7, .ref qO8, .ref qA9, .ref qA10])) : Option (Nat × va_E))) (hA1 : ws[135]? = (some (qA1, .inl (g 0, 4100, .inl (fun _ => 0))) : Option (Nat × va_E))) (hO6 : ws[145]? = (some (qO6, .inr (15, [.int 0, .ref qA34, .ref qA35, .ref qA36, .ref qA37, .ref qA38, .ref qA39, .ref qA40, .int 0, .int 0, .int 0, .long 0, .int 0, .int 0, .long 0, .int 0, .long 0, .int 0])) : Option (Nat × va_E))) (hA34 : ws[146]? = (some (qA34, .inl (g 0, 156, .inl (fun _ => 0))) : Option (Nat × va_E))) (hA35 : ws[147]? = (some (qA35, .inl (g 0, 156, .inl (fun _ => 0))) : Option (Nat × va_E))) (hA36 : ws[148]? = (some (qA36, .inl (g 0, 1404, .inl (fun _ => 0))) : Option (Nat × va_E))) (hA39 : ws[151]? = (some (qA39, .inl (g 0, 1404, .inl (fun _ => 0))) : Option (Nat × va_E))) (hA40 : ws[152]? = (some (qA40, .inl (g 0, 1600, .inl (fun _ => 0))) : Option (Nat × va_E))) : q_mI l y_NM_exact prog_14_method_28_code 7 (.int) 4 0 0 D g [.ref qO0, .int 1, .long 0, .int 1074, .ref qA1] ws (fun r u => ∃ (ex0 : Nat → Int32), 1076 = r ∧ q_un ws u [135, 145, 146, 147, 148, 151, 152] ∧ u[135]? = (some (qA1, .inl (g 0, 4100, .inl (q_fil (upd (upd (fun _ => 0) 0 48) 1 46) 2 48 1076))) : Option (Nat × va_E)) ∧ u[145]? = (some (qO6, .inr (15, [.int 0, .ref qA34, .ref qA35, .ref qA36, .ref qA37, .ref qA38, .ref qA39, .ref qA40, .int 1076, .int 0, .int 0, .long 0, .int 52, .int 2047, .long 0, .int (-1074), .long 0, .int 0])) : Option (Nat × va_E)) ∧ u[146]? = (some (qA34, .inl (g 0, 156, .inl ex0)) : Option (Nat × va_E)) ∧ u[147]? = (some (qA35, .inl (g 0, 156, .inl (fun _ => 0))) : Option (Nat × va_E)) ∧ u[148]? = (some (qA36, .inl (g 0, 1404, .inl (fun _ => 0))) : Option (Nat × va_E)) ∧ u[151]? = (some (qA39, .inl (g 0, 1404, .inl (fun _ => 0))) : Option (Nat × va_E)) ∧ u[152]? = (some (qA40, .inl (g 0, 1600, .inl (q_fil (upd (upd (fun _ => 0) 0 48) 1 46) 2 48 1076))) : Option (Nat × va_E))) := by
  intro sz
  refine q_into (by decide) (Nat.le_of_ble_eq_true rfl) ?_
  intro p e s m below meth c ls hsz C0 V hl
  have hx := C0.1
  have hb := C0.2.1
  have hl : lv_has ls 7 [(0, .ref qO0), (1, .int 1), (2, .long 0), (4, .int 1074), (5, .ref qA1)] := hl
  have hF : q_un ws ws [135, 145, 146, 147, 148, 151, 152] := q_u0
  refine lv_aload_n hx hb d_14_28_0 rfl (lv_at hl 0 rfl) ?_
  refine q_get (ci := 12) (j := 7) (v := .ref qO6) C0 V i_NM rfl rfl hO0 (by decide) w_2305 rfl d_14_28_1 ?_
  refine lv_lload_n hx hb d_14_28_4 rfl (lv_at hl 2 rfl) ?_
  refine lv_iload_n hx hb d_14_28_5 rfl (lv_at hl 1 rfl) ?_
  refine lv_iconst (v := 3) hx hb d_14_28_6 (by decide) ?_
  refine lv_icmp_ne (tgt := 14) hx hb d_14_28_7 (by decide) (fun c1 => ?_) (fun c1 => absurd c1 (by decide))
  refine lv_iconst (v := 0) hx hb d_14_28_14 (by decide) ?_
  refine lv_iload hx hb d_14_28_15 (lv_at hl 3 rfl) ?_
  refine lv_iconst (v := 0) hx hb d_14_28_17 (by decide) ?_
  refine q_goi V (q_runV (As := [.long 0, .int 0, .int 1074, .int 0]) (rest := []) (d := 3) (mc := 0) (ms := 0) (ci := 15) C0 V rfl LV_NM_227 (c_FR_fixed l D g ws 145 146 147 148 151 152 qO6 qA34 qA35 qA36 qA37 qA38 qA39 qA40 hO6 hA34 hA35 hA36 hA39 hA40 (q_pd 146 147 rfl) (q_pd 146 148 rfl) (q_pd 146 151 rfl) (q_pd 146 152 rfl) (q_pd 147 151 rfl) (q_pd 147 152 rfl) (q_pd 148 147 rfl) (q_pd 148 151 rfl) (q_pd 148 152 rfl) (q_pd 151 152 rfl) _) rfl rfl hO6 rfl hl.1 rfl (Nat.le_of_ble_eq_true rfl) ⟨by decide, by decide⟩ ⟨Nat.le_of_ble_eq_true rfl, Nat.le_of_ble_eq_true rfl⟩ d_14_28_18) (fun v4 u3 H locs hp2 V => ?_)
  obtain ⟨y5, rfl, hg6, hO6, hA34, hA35, hA36, hA39, hA40⟩ := hp2
  replace hF := q_uc hF hg6 (q_sc (.tail _ (.head _)) (q_sc (.tail _ (.tail _ (.head _))) (q_sc (List.mem_of_getElem? (i := 3) rfl) (q_sc (List.mem_of_getElem? (i := 4) rfl) (q_sc (List.mem_of_getElem? (i := 5) rfl) (q_sc (List.mem_of_getElem? (i := 6) rfl) (fun _ h => absurd h List.not_mem_nil)))))))
  refine lv_istore (lv' := [(6, .int 1076), (0, .ref qO0), (1, .int 1), (2, .long 0), (4, .int 1074), (5, .ref qA1)]) hx hb d_14_28_21 hl (by decide) rfl (fun ls hl => ?_)
  refine lv_aload_n hx hb d_14_28_23 rfl (lv_at hl 1 rfl) ?_
  replace hO0 := (hg6 _ (q_nc (q_pd 116 145 rfl) (q_nc (q_pd 116 146 rfl) (q_nc (q_pd 116 147 rfl) (q_nc (q_pd 116 148 rfl) (q_nc (q_pd 116 151 rfl) (q_nc (q_pd 116 152 rfl) List.not_mem_nil))))))).trans (hO0)
  refine q_get (ci := 12) (j := 7) (v := .ref qO6) C0 V i_NM rfl rfl hO0 (by decide) w_2305 rfl d_14_28_24 ?_
  refine q_getN (ci := 15) (j := 7) (v := .ref qA40) C0 V i_FR rfl rfl hO6 (by decide) wo_2083 rfl d_14_28_27 ?_
  refine lv_iload hx hb d_14_28_30 (lv_at hl 0 rfl) ?_
  refine lv_aload hx hb d_14_28_32 (lv_at hl 5 rfl) ?_
  replace hA1 := (hg6 _ (q_nc (q_pd 135 145 rfl) (q_nc (q_pd 135 146 rfl) (q_nc (q_pd 135 147 rfl) (q_nc (q_pd 135 148 rfl) (q_nc (q_pd 135 151 rfl) (q_nc (q_pd 135 152 rfl) List.not_mem_nil))))))).trans (hA1)
  refine q_goi V (q_runS (As := [.ref qA40, .int 1076, .ref qA1]) (rest := []) (d := 1) (mc := 0) (ms := 0) C0 V rfl LS_NM_90 (c_NM_load_2 l D g u3 qA40 qA1 hA40 hA1 _) rfl hl.1 rfl (Nat.le_of_ble_eq_true rfl) ⟨by decide, by decide⟩ ⟨Nat.le_of_ble_eq_true rfl, Nat.le_of_ble_eq_true rfl⟩ d_14_28_34) (fun v9 u8 H locs hp7 V => ?_)
  obtain ⟨rfl, hg10, hA1⟩ := hp7
  replace hF := q_uc hF hg10 (q_sc (.head _) (fun _ h => absurd h List.not_mem_nil))
  replace hO6 := (hg10 _ (q_nc (q_pd 145 135 rfl) List.not_mem_nil)).trans (hO6)
  replace hA34 := (hg10 _ (q_nc (q_pd 146 135 rfl) List.not_mem_nil)).trans (hA34)
  replace hA35 := (hg10 _ (q_nc (q_pd 147 135 rfl) List.not_mem_nil)).trans (hA35)
  replace hA36 := (hg10 _ (q_nc (q_pd 148 135 rfl) List.not_mem_nil)).trans (hA36)
  replace hA39 := (hg10 _ (q_nc (q_pd 151 135 rfl) List.not_mem_nil)).trans (hA39)
  replace hA40 := (hg10 _ (q_nc (q_pd 152 135 rfl) List.not_mem_nil)).trans (hA40)
  exact q_reti C0 V (⟨y5, rfl, hF, hA1, hO6, hA34, hA35, hA36, hA39, hA40⟩) d_14_28_37
theorem d_15_18_0 : decode prog_15_method_18_code 0 = .ok (.iload_n 1, 1) := by decide +kernel
theorem d_15_18_1 : decode prog_15_method_18_code 1 = .ok (.aload_n 0, 1) := by decide +kernel
theorem d_15_18_2 : decode prog_15_method_18_code 2 = .ok (.getfield 99, 3) := by decide +kernel
theorem w_2001 : (Cond.fieldLink "NumberHouseModel$DecimalRows" (99 : Nat) "NumberHouseModel$DecimalRows" "length" "I") ∈ q_tbl := q_of 2001 (by decide +kernel) (by decide +kernel)
theorem d_15_18_5 : decode prog_15_method_18_code 5 = .ok (.if_icmp .ge 12, 3) := by decide +kernel
theorem d_15_18_8 : decode prog_15_method_18_code 8 = .ok (.aload_n 0, 1) := by decide +kernel
theorem d_15_18_9 : decode prog_15_method_18_code 9 = .ok (.getfield 7, 3) := by decide +kernel
theorem d_15_18_12 : decode prog_15_method_18_code 12 = .ok (.iload_n 1, 1) := by decide +kernel
theorem d_15_18_13 : decode prog_15_method_18_code 13 = .ok (.iaload, 1) := by decide +kernel
theorem d_15_18_14 : decode prog_15_method_18_code 14 = .ok (.goto 4, 3) := by decide +kernel
theorem d_15_18_18 : decode prog_15_method_18_code 18 = .ok (.ireturn, 1) := by decide +kernel
def y_DR_at : MethodName := ⟨"NumberHouseModel$DecimalRows", "at", "(I)I"⟩
