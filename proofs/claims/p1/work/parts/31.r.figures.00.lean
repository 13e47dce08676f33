/-! the reference on a fresh object: figures -/
set_option maxRecDepth 100000 in
set_option maxHeartbeats 4000000 in
theorem c_FR_isMore_5 (l : Launch) (D : va_G) (g : Nat → ClassId) (ws : va_W) (kO0 kA3 qO0 qA1 qA2 qA3 qA4 qA5 qA6 qA7 : Nat) (x1 : Int32) (x2 : Int32) (hO0 : ws[kO0]? = (some (qO0, .inr (15, [.int 0, .ref qA1, .ref qA2, .ref qA3, .ref qA4, .ref qA5, .ref qA6, .ref qA7, .int 0, .int 0, .int 0, .long 0, .int 52, .int 2047, .long 0, .int (-1074), .long 0, .int 0])) : Option (Nat × va_E))) (hA3 : ws[kA3]? = (some (qA3, .inl (g 0, 1404, .inl (fun _ => 0))) : Option (Nat × va_E))) (x1lo : 0 ≤ x1) (x1hi : x1 ≤ 1080) (x2lo : 0 ≤ x2) (x2hi : x2 ≤ 3) : q_mI l y_FR_isMore prog_17_method_26_code 5 (.boolean) 1 0 0 D g [.ref qO0, .int x1, .int x2] ws (fun r u => 0 = r ∧ ws = u) := by
  intro sz
  refine q_into (by decide) (Nat.le_of_ble_eq_true rfl) ?_
  intro p e s m below meth c ls hsz C0 V hl
  have hx := C0.1
  have hb := C0.2.1
  have hl : lv_has ls 5 [(0, .ref qO0), (1, .int x1), (2, .int x2)] := hl
  refine lv_iconst (v := 0) hx hb d_17_26_0 (by decide) ?_
  refine lv_istore_n (lv' := [(3, .int 0), (0, .ref qO0), (1, .int x1), (2, .int x2)]) hx hb d_17_26_1 rfl hl (by decide) rfl (fun ls hl => ?_)
  refine lv_iconst (v := 0) hx hb d_17_26_2 (by decide) ?_
  refine lv_istore (lv' := [(4, .int 0), (3, .int 0), (0, .ref qO0), (1, .int x1), (2, .int x2)]) hx hb d_17_26_3 hl (by decide) rfl (fun ls hl => ?_)
  refine q_loop (X := Int32) (fun z H locs ls _ => (0 ≤ z.toInt ∧ (z.toInt ≤ x1.toInt ∨ z.toInt = 0)) ∧ q_Wd D g (va_A ws sz) s ws H locs ∧ lv_has ls 5 [(4, .int z), (3, .int 0), (0, .ref qO0), (1, .int x1), (2, .int x2)]) (fun z => (x1.toInt - z.toInt).toNat) ?_ ((0 : Int32)) _ _ _ ws ⟨⟨by decide, Or.inr (by decide)⟩, V, hl⟩
  rintro lx1 H locs ls _ ⟨i3, V, hl⟩ ih4
  replace i3 : 0 ≤ lx1.toInt ∧ (lx1.toInt ≤ x1.toInt ∨ lx1.toInt = 0) := i3
  replace hl : lv_has ls 5 [(4, .int lx1), (3, .int 0), (0, .ref qO0), (1, .int x1), (2, .int x2)] := hl
  refine lv_iload hx hb d_17_26_5 (lv_at hl 0 rfl) ?_
  refine lv_iload_n hx hb d_17_26_7 rfl (lv_at hl 3 rfl) ?_
  refine lv_icmp_ge (tgt := 37) hx hb d_17_26_8 (by decide) (fun c5 => ?_) (fun c5 => ?_)
  ·
    refine lv_iload_n hx hb d_17_26_37 rfl (lv_at hl 1 rfl) ?_
    refine lv_if_eq (tgt := 45) hx hb d_17_26_38 (by decide) (fun c6 => ?_) (fun c6 => absurd (by decide) c6)
    refine lv_iconst (v := 0) hx hb d_17_26_45 (by decide) ?_
    exact q_retz C0 V (rfl) (⟨rfl, rfl⟩) d_17_26_46
  ·
    refine lv_iload_n hx hb d_17_26_11 rfl (lv_at hl 1 rfl) ?_
    refine lv_if_ne (tgt := 25) hx hb d_17_26_12 (by decide) (fun c7 => absurd (by decide) c7) (fun c7 => ?_)
    refine lv_aload_n hx hb d_17_26_15 rfl (lv_at hl 2 rfl) ?_
    refine q_get (ci := 15) (j := 3) (v := .ref qA3) C0 V i_FR rfl rfl hO0 (by decide) w_2078 rfl d_17_26_16 ?_
    refine lv_iload hx hb d_17_26_19 (lv_at hl 0 rfl) ?_
    refine q_iald C0 V hA3 (q_ix (x := lx1.toInt) rfl (by have t1 : 0 ≤ x1.toInt := q_leI x1lo; have t2 : x1.toInt ≤ 1080 := q_leI x1hi; have t3 : lx1.toInt < x1.toInt := q_nleI c5; omega) (by have t1 : 0 ≤ x1.toInt := q_leI x1lo; have t2 : x1.toInt ≤ 1080 := q_leI x1hi; have t3 : lx1.toInt < x1.toInt := q_nleI c5; omega)) d_17_26_21 ?_
    refine q_ti (v := 0) (by first | rfl | decide | simp [upd, vp_updL, sb_cl0]) ?_
    refine lv_if_eq (tgt := 29) hx hb d_17_26_22 (by decide) (fun c8 => ?_) (fun c8 => absurd (by decide) c8)
    refine lv_iconst (v := 0) hx hb d_17_26_29 (by decide) ?_
    refine lv_istore_n (lv' := [(3, .int 0), (4, .int lx1), (0, .ref qO0), (1, .int x1), (2, .int x2)]) hx hb d_17_26_30 rfl hl (by decide) rfl (fun ls hl => ?_)
    refine lv_iinc (v := lx1 + 1) (lv' := [(4, .int (lx1 + 1)), (3, .int 0), (0, .ref qO0), (1, .int x1), (2, .int x2)]) hx hb d_17_26_31 hl (k := 1) rfl (rfl) (by decide) rfl (fun ls hl => ?_)
    refine lv_goto (tgt := 5) hx hb d_17_26_34 (by decide) ?_
    exact ih4 ((lx1 + 1 : Int32)) _ _ _ ws (show (x1.toInt - (lx1 + 1).toInt).toNat < (x1.toInt - lx1.toInt).toNat from by have t1 : 0 ≤ x1.toInt := q_leI x1lo; have t2 : x1.toInt ≤ 1080 := q_leI x1hi; have t3 : lx1.toInt < x1.toInt := q_nleI c5; have e : (lx1 + 1).toInt = (lx1.toInt + 1) := (q_addI (x := lx1.toInt) (y := 1) rfl (by decide) (by have t1 : 0 ≤ x1.toInt := q_leI x1lo; have t2 : x1.toInt ≤ 1080 := q_leI x1hi; have t3 : lx1.toInt < x1.toInt := q_nleI c5; omega) (by have t1 : 0 ≤ x1.toInt := q_leI x1lo; have t2 : x1.toInt ≤ 1080 := q_leI x1hi; have t3 : lx1.toInt < x1.toInt := q_nleI c5; omega)); omega) ⟨(show 0 ≤ (lx1 + 1).toInt ∧ ((lx1 + 1).toInt ≤ x1.toInt ∨ (lx1 + 1).toInt = 0) from by have t1 : 0 ≤ x1.toInt := q_leI x1lo; have t2 : x1.toInt ≤ 1080 := q_leI x1hi; have t3 : lx1.toInt < x1.toInt := q_nleI c5; have e : (lx1 + 1).toInt = (lx1.toInt + 1) := (q_addI (x := lx1.toInt) (y := 1) rfl (by decide) (by have t1 : 0 ≤ x1.toInt := q_leI x1lo; have t2 : x1.toInt ≤ 1080 := q_leI x1hi; have t3 : lx1.toInt < x1.toInt := q_nleI c5; omega) (by have t1 : 0 ≤ x1.toInt := q_leI x1lo; have t2 : x1.toInt ≤ 1080 := q_leI x1hi; have t3 : lx1.toInt < x1.toInt := q_nleI c5; omega)); omega), V, q_lw hl (q_lw1 0 rfl (q_lw1 1 rfl (q_lw1 2 rfl (q_lw1 3 rfl (q_lw1 4 rfl q_lw0)))))⟩
set_option maxRecDepth 100000 in
set_option maxHeartbeats 4000000 in
theorem c_FR_cut_5 (l : Launch) (D : va_G) (g : Nat → ClassId) (ws : va_W) (kO0 kA3 kA6 qO0 qA1 qA2 qA3 qA4 qA5 qA6 qA7 : Nat) (x1 : Int32) (hO0 : ws[kO0]? = (some (qO0, .inr (15, [.int 0, .ref qA1, .ref qA2, .ref qA3, .ref qA4, .ref qA5, .ref qA6, .ref qA7, .int 0, .int 0, .int 0, .long 0, .int 52, .int 2047, .long 0, .int (-1074), .long 0, .int 0])) : Option (Nat × va_E))) (hA3 : ws[kA3]? = (some (qA3, .inl (g 0, 1404, .inl (fun _ => 0))) : Option (Nat × va_E))) (hA6 : ws[kA6]? = (some (qA6, .inl (g 0, 1404, .inl (fun _ => 0))) : Option (Nat × va_E))) (n_A3_A6 : kA3 ≠ kA6) (x1lo : 0 ≤ x1) (x1hi : x1 ≤ 1080) : q_mV l y_FR_cut prog_17_method_11_code 5 1 0 0 D g [.ref qO0, .int x1, .int 0] ws (fun u => q_un ws u [kA6] ∧ u[kA6]? = (some (qA6, .inl (g 0, 1404, .inl (fun _ => 0))) : Option (Nat × va_E))) := by
  intro sz
  refine q_into (by decide) (Nat.le_of_ble_eq_true rfl) ?_
  intro p e s m below meth c ls hsz C0 V hl
  have hx := C0.1
  have hb := C0.2.1
  have hl : lv_has ls 5 [(0, .ref qO0), (1, .int x1), (2, .int 0)] := hl
  have n_O0_A6 := Ne.symm (q_df hA6 hO0)
  have hF : q_un ws ws [kA6] := q_u0
  refine lv_iconst (v := 0) hx hb d_17_11_0 (by decide) ?_
  refine lv_istore_n (lv' := [(3, .int 0), (0, .ref qO0), (1, .int x1), (2, .int 0)]) hx hb d_17_11_1 rfl hl (by decide) rfl (fun ls hl => ?_)
  refine q_loop (X := Int32) (fun z H locs ls w2 => (0 ≤ z.toInt ∧ (z.toInt ≤ 1404 ∨ z.toInt = 0)) ∧ q_Wd D g (va_A ws sz) s w2 H locs ∧ lv_has ls 5 [(3, .int z), (0, .ref qO0), (1, .int x1), (2, .int 0)] ∧ q_un ws w2 [kA6] ∧ w2[kO0]? = (some (qO0, .inr (15, [.int 0, .ref qA1, .ref qA2, .ref qA3, .ref qA4, .ref qA5, .ref qA6, .ref qA7, .int 0, .int 0, .int 0, .long 0, .int 52, .int 2047, .long 0, .int (-1074), .long 0, .int 0])) : Option (Nat × va_E)) ∧ w2[kA3]? = (some (qA3, .inl (g 0, 1404, .inl (fun _ => 0))) : Option (Nat × va_E)) ∧ w2[kA6]? = (some (qA6, .inl (g 0, 1404, .inl (fun _ => 0))) : Option (Nat × va_E))) (fun z => (1404 - z.toInt).toNat) ?_ ((0 : Int32)) _ _ _ ws ⟨⟨by decide, Or.inr (by decide)⟩, V, hl, hF, hO0, hA3, hA6⟩
  rintro lx1 H locs ls w2 ⟨i3, V, hl, hF, hO0, hA3, hA6⟩ ih4
  replace i3 : 0 ≤ lx1.toInt ∧ (lx1.toInt ≤ 1404 ∨ lx1.toInt = 0) := i3
  replace hl : lv_has ls 5 [(3, .int lx1), (0, .ref qO0), (1, .int x1), (2, .int 0)] := hl
  replace hO0 : w2[kO0]? = (some (qO0, .inr (15, [.int 0, .ref qA1, .ref qA2, .ref qA3, .ref qA4, .ref qA5, .ref qA6, .ref qA7, .int 0, .int 0, .int 0, .long 0, .int 52, .int 2047, .long 0, .int (-1074), .long 0, .int 0])) : Option (Nat × va_E)) := hO0
  replace hA3 : w2[kA3]? = (some (qA3, .inl (g 0, 1404, .inl (fun _ => 0))) : Option (Nat × va_E)) := hA3
  replace hA6 : w2[kA6]? = (some (qA6, .inl (g 0, 1404, .inl (fun _ => 0))) : Option (Nat × va_E)) := hA6
  refine lv_iload_n hx hb d_17_11_2 rfl (lv_at hl 0 rfl) ?_
  refine lv_sipush (v := 1404) hx hb d_17_11_3 (by decide) ?_
  refine lv_icmp_ge (tgt := 36) hx hb d_17_11_6 (by decide) (fun c5 => ?_) (fun c5 => ?_)
  ·
    refine lv_iload_n hx hb d_17_11_36 rfl (lv_at hl 2 rfl) ?_
    refine lv_istore_n (lv' := [(3, .int x1), (0, .ref qO0), (1, .int x1), (2, .int 0)]) hx hb d_17_11_37 rfl hl (by decide) rfl (fun ls hl => ?_)
    refine lv_iload_n hx hb d_17_11_38 rfl (lv_at hl 3 rfl) ?_
    refine lv_istore (lv' := [(4, .int 0), (3, .int x1), (0, .ref qO0), (1, .int x1), (2, .int 0)]) hx hb d_17_11_39 hl (by decide) rfl (fun ls hl => ?_)
    refine lv_iload hx hb d_17_11_41 (lv_at hl 0 rfl) ?_
    refine lv_if_eq (tgt := 97) hx hb d_17_11_43 (by decide) (fun c6 => ?_) (fun c6 => absurd (by decide) c6)
    exact q_retv C0 V (⟨hF, hA6⟩) d_17_11_97
  ·
    refine lv_aload_n hx hb d_17_11_9 rfl (lv_at hl 1 rfl) ?_
    refine q_get (ci := 15) (j := 6) (v := .ref qA6) C0 V i_FR rfl rfl hO0 (by decide) w_2081 rfl d_17_11_10 ?_
    refine lv_iload_n hx hb d_17_11_13 rfl (lv_at hl 0 rfl) ?_
    refine lv_iload_n hx hb d_17_11_14 rfl (lv_at hl 0 rfl) ?_
    refine lv_iload_n hx hb d_17_11_15 rfl (lv_at hl 2 rfl) ?_
    refine lv_icmp_ge (tgt := 23) hx hb d_17_11_16 (by decide) (fun c7 => ?_) (fun c7 => ?_)
    ·
      refine lv_aload_n hx hb d_17_11_23 rfl (lv_at hl 1 rfl) ?_
      refine q_get (ci := 15) (j := 3) (v := .ref qA3) C0 V i_FR rfl rfl hO0 (by decide) w_2078 rfl d_17_11_24 ?_
      refine lv_iload_n hx hb d_17_11_27 rfl (lv_at hl 0 rfl) ?_
      refine q_iald C0 V hA3 (q_ix (x := lx1.toInt) rfl (by have t1 : lx1.toInt < 1404 := q_nleI c5; have t2 : x1.toInt ≤ lx1.toInt := q_leI c7; omega) (by have t1 : lx1.toInt < 1404 := q_nleI c5; have t2 : x1.toInt ≤ lx1.toInt := q_leI c7; omega)) d_17_11_28 ?_
      refine q_ti (v := 0) (by first | rfl | decide | simp [upd, vp_updL, sb_cl0]) ?_
      refine q_iast C0 V hA6 (q_ix (x := lx1.toInt) rfl (by have t1 : lx1.toInt < 1404 := q_nleI c5; have t2 : x1.toInt ≤ lx1.toInt := q_leI c7; omega) (by have t1 : lx1.toInt < 1404 := q_nleI c5; have t2 : x1.toInt ≤ lx1.toInt := q_leI c7; omega)) d_17_11_29 (fun H locs w8 hu9 hA6 V => ?_)
      replace hA6 := q_re (y := (qA6, .inl (g 0, 1404, .inl (fun _ => 0)))) hA6 (q_eI q_upd0)
      replace hA6 : w8[kA6]? = (some (qA6, .inl (g 0, 1404, .inl (fun _ => 0))) : Option (Nat × va_E)) := hA6
      replace hF := q_us hF hu9 (.head _)
      refine lv_iinc (v := lx1 + 1) (lv' := [(3, .int (lx1 + 1)), (0, .ref qO0), (1, .int x1), (2, .int 0)]) hx hb d_17_11_30 hl (k := 0) rfl (rfl) (by decide) rfl (fun ls hl => ?_)
      refine lv_goto (tgt := 2) hx hb d_17_11_33 (by decide) ?_
      replace hO0 := (hu9 _ n_O0_A6).trans (hO0)
      replace hA3 := (hu9 _ n_A3_A6).trans (hA3)
      exact ih4 ((lx1 + 1 : Int32)) _ _ _ _ (show (1404 - (lx1 + 1).toInt).toNat < (1404 - lx1.toInt).toNat from by have t1 : lx1.toInt < 1404 := q_nleI c5; have t2 : x1.toInt ≤ lx1.toInt := q_leI c7; have e : (lx1 + 1).toInt = (lx1.toInt + 1) := (q_addI (x := lx1.toInt) (y := 1) rfl (by decide) (by have t1 : lx1.toInt < 1404 := q_nleI c5; have t2 : x1.toInt ≤ lx1.toInt := q_leI c7; omega) (by have t1 : lx1.toInt < 1404 := q_nleI c5; have t2 : x1.toInt ≤ lx1.toInt := q_leI c7; omega)); omega) ⟨(show 0 ≤ (lx1 + 1).toInt ∧ ((lx1 + 1).toInt ≤ 1404 ∨ (lx1 + 1).toInt = 0) from by have t1 : lx1.toInt < 1404 := q_nleI c5; have t2 : x1.toInt ≤ lx1.toInt := q_leI c7; have e : (lx1 + 1).toInt = (lx1.toInt + 1) := (q_addI (x := lx1.toInt) (y := 1) rfl (by decide) (by have t1 : lx1.toInt < 1404 := q_nleI c5; have t2 : x1.toInt ≤ lx1.toInt := q_leI c7; omega) (by have t1 : lx1.toInt < 1404 := q_nleI c5; have t2 : x1.toInt ≤ lx1.toInt := q_leI c7; omega)); omega), V, q_lw hl (q_lw1 0 rfl (q_lw1 1 rfl (q_lw1 2 rfl (q_lw1 3 rfl q_lw0)))), hF, hO0, hA3, hA6⟩
    ·
      refine lv_iconst (v := 0) hx hb d_17_11_19 (by decide) ?_
      refine lv_goto (tgt := 29) hx hb d_17_11_20 (by decide) ?_
      refine q_iast C0 V hA6 (q_ix (x := lx1.toInt) rfl (by have t1 : 0 ≤ x1.toInt := q_leI x1lo; have t2 : x1.toInt ≤ 1080 := q_leI x1hi; have t3 : lx1.toInt < 1404 := q_nleI c5; have t4 : lx1.toInt < x1.toInt := q_nleI c7; omega) (by have t1 : 0 ≤ x1.toInt := q_leI x1lo; have t2 : x1.toInt ≤ 1080 := q_leI x1hi; have t3 : lx1.toInt < 1404 := q_nleI c5; have t4 : lx1.toInt < x1.toInt := q_nleI c7; omega)) d_17_11_29 (fun H locs w10 hu11 hA6 V => ?_)
      replace hA6 := q_re (y := (qA6, .inl (g 0, 1404, .inl (fun _ => 0)))) hA6 (q_eI q_upd0)
      replace hA6 : w10[kA6]? = (some (qA6, .inl (g 0, 1404, .inl (fun _ => 0))) : Option (Nat × va_E)) := hA6
      replace hF := q_us hF hu11 (.head _)
      refine lv_iinc (v := lx1 + 1) (lv' := [(3, .int (lx1 + 1)), (0, .ref qO0), (1, .int x1), (2, .int 0)]) hx hb d_17_11_30 hl (k := 0) rfl (rfl) (by decide) rfl (fun ls hl => ?_)
      refine lv_goto (tgt := 2) hx hb d_17_11_33 (by decide) ?_
      replace hO0 := (hu11 _ n_O0_A6).trans (hO0)
      replace hA3 := (hu11 _ n_A3_A6).trans (hA3)
      exact ih4 ((lx1 + 1 : Int32)) _ _ _ _ (show (1404 - (lx1 + 1).toInt).toNat < (1404 - lx1.toInt).toNat from by have t1 : 0 ≤ x1.toInt := q_leI x1lo; have t2 : x1.toInt ≤ 1080 := q_leI x1hi; have t3 : lx1.toInt < 1404 := q_nleI c5; have t4 : lx1.toInt < x1.toInt := q_nleI c7; have e : (lx1 + 1).toInt = (lx1.toInt + 1) := (q_addI (x := lx1.toInt) (y := 1) rfl (by decide) (by have t1 : 0 ≤ x1.toInt := q_leI x1lo; have t2 : x1.toInt ≤ 1080 := q_leI x1hi; have t3 : lx1.toInt < 1404 := q_nleI c5; have t4 : lx1.toInt < x1.toInt := q_nleI c7; omega) (by have t1 : 0 ≤ x1.toInt := q_leI x1lo; have t2 : x1.toInt ≤ 1080 := q_leI x1hi; have t3 : lx1.toInt < 1404 := q_nleI c5; have t4 : lx1.toInt < x1.toInt := q_nleI c7; omega)); omega) ⟨(show 0 ≤ (lx1 + 1).toInt ∧ ((lx1 + 1).toInt ≤ 1404 ∨ (lx1 + 1).toInt = 0) from by have t1 : 0 ≤ x1.toInt := q_leI x1lo; have t2 : x1.toInt ≤ 1080 := q_leI x1hi; have t3 : lx1.toInt < 1404 := q_nleI c5; have t4 : lx1.toInt < x1.toInt := q_nleI c7; have e : (lx1 + 1).toInt = (lx1.toInt + 1) := (q_addI (x := lx1.toInt) (y := 1) rfl (by decide) (by have t1 : 0 ≤ x1.toInt := q_leI x1lo; have t2 : x1.toInt ≤ 1080 := q_leI x1hi; have t3 : lx1.toInt < 1404 := q_nleI c5; have t4 : lx1.toInt < x1.toInt := q_nleI c7; omega) (by have t1 : 0 ≤ x1.toInt := q_leI x1lo; have t2 : x1.toInt ≤ 1080 := q_leI x1hi; have t3 : lx1.toInt < 1404 := q_nleI c5; have t4 : lx1.toInt < x1.toInt := q_nleI c7; omega)); omega), V, q_lw hl (q_lw1 0 rfl (q_lw1 1 rfl (q_lw1 2 rfl (q_lw1 3 rfl q_lw0)))), hF, hO0, hA3, hA6⟩
theorem d_17_27_17 : decode prog_17_method_27_code 17 = .ok (.iconst 0, 1) := by decide +kernel
theorem d_17_27_18 : decode prog_17_method_27_code 18 = .ok (.goto 9, 3) := by decide +kernel
set_option maxRecDepth 100000 in
set_option maxHeartbeats 4000000 in
theorem c_FR_figureAt_5 (l : Launch) (D : va_G) (g : Nat → ClassId) (ws : va_W) (kO0 kA6 qO0 qA1 qA2 qA3 qA4 qA5 qA6 qA7 : Nat) (x1 : Int32) (hO0 : ws[kO0]? = (some (qO0, .inr (15, [.int 0, .ref qA1, .ref qA2, .ref qA3, .ref qA4, .ref qA5, .ref qA6, .ref qA7, .int 2, .int 0, .int 0, .long 0, .int 52, .int 2047, .long 0, .int (-1074), .long 0, .int 0])) : Option (Nat × va_E))) (hA6 : ws[kA6]? = (some (qA6, .inl (g 0, 1404, .inl (fun _ => 0))) : Option (Nat × va_E))) (x1lo : (-1081) ≤ x1) (x1hi : x1 ≤ (-1)) : q_mI l y_FR_figureAt prog_17_method_27_code 3 (.int) 1 0 0 D g [.ref qO0, .int x1] ws (fun r u => 0 = r ∧ ws = u) := by
  intro sz
  refine q_into (by decide) (Nat.le_of_ble_eq_true rfl) ?_
  intro p e s m below meth c ls hsz C0 V hl
  have hx := C0.1
  have hb := C0.2.1
  have hl : lv_has ls 3 [(0, .ref qO0), (1, .int x1)] := hl
  refine lv_iload_n hx hb d_17_27_0 rfl (lv_at hl 1 rfl) ?_
  refine lv_sipush (v := 1080) hx hb d_17_27_1 (by decide) ?_
  refine lv_iadd hx hb d_17_27_4 ?_
  refine lv_istore_n (lv' := [(2, .int (x1 + 1080)), (0, .ref qO0), (1, .int x1)]) hx hb d_17_27_5 rfl hl (by decide) rfl (fun ls hl => ?_)
  refine lv_iload_n hx hb d_17_27_6 rfl (lv_at hl 0 rfl) ?_
  refine lv_if_lt (tgt := 17) hx hb d_17_27_7 (by decide) (fun c1 => ?_) (fun c1 => ?_)
  ·
    refine lv_iconst (v := 0) hx hb d_17_27_17 (by decide) ?_
    refine lv_goto (tgt := 27) hx hb d_17_27_18 (by decide) ?_
    exact q_reti C0 V (⟨rfl, rfl⟩) d_17_27_27
  ·
    refine lv_iload_n hx hb d_17_27_10 rfl (lv_at hl 0 rfl) ?_
    refine lv_sipush (v := 1404) hx hb d_17_27_11 (by decide) ?_
    refine lv_icmp_lt (tgt := 21) hx hb d_17_27_14 (by decide) (fun c2 => ?_) (fun c2 => absurd (q_Ilt (x := (x1.toInt + 1080)) (y := 1404) (q_addI (x := x1.toInt) (y := 1080) rfl (by decide) (by have t1 : (-1081) ≤ x1.toInt := q_leI x1lo; have t2 : x1.toInt ≤ (-1) := q_leI x1hi; have t3 : 0 ≤ (x1.toInt + 1080) := by { have e1 : ((x1 + 1080) : Int32).toInt = (x1.toInt + 1080) := (q_addI (x := x1.toInt) (y := 1080) rfl (by decide) (by have t1 : (-1081) ≤ x1.toInt := q_leI x1lo; have t2 : x1.toInt ≤ (-1) := q_leI x1hi; omega) (by have t1 : (-1081) ≤ x1.toInt := q_leI x1lo; have t2 : x1.toInt ≤ (-1) := q_leI x1hi; omega)); have e2 : (0 : Int32).toInt = 0 := (by decide); have e3 := q_nltI c1; omega }; omega) (by have t1 : (-1081) ≤ x1.toInt := q_leI x1lo; have t2 : x1.toInt ≤ (-1) := q_leI x1hi; have t3 : 0 ≤ (x1.toInt + 1080) := by { have e1 : ((x1 + 1080) : Int32).toInt = (x1.toInt + 1080) := (q_addI (x := x1.toInt) (y := 1080) rfl (by decide) (by have t1 : (-1081) ≤ x1.toInt := q_leI x1lo; have t2 : x1.toInt ≤ (-1) := q_leI x1hi; omega) (by have t1 : (-1081) ≤ x1.toInt := q_leI x1lo; have t2 : x1.toInt ≤ (-1) := q_leI x1hi; omega)); have e2 : (0 : Int32).toInt = 0 := (by decide); have e3 := q_nltI c1; omega }; omega)) (by decide) (by have t1 : (-1081) ≤ x1.toInt := q_leI x1lo; have t2 : x1.toInt ≤ (-1) := q_leI x1hi; have t3 : 0 ≤ (x1.toInt + 1080) := by { have e1 : ((x1 + 1080) : Int32).toInt = (x1.toInt + 1080) := (q_addI (x := x1.toInt) (y := 1080) rfl (by decide) (by have t1 : (-1081) ≤ x1.toInt := q_leI x1lo; have t2 : x1.toInt ≤ (-1) := q_leI x1hi; omega) (by have t1 : (-1081) ≤ x1.toInt := q_leI x1lo; have t2 : x1.toInt ≤ (-1) := q_leI x1hi; omega)); have e2 : (0 : Int32).toInt = 0 := (by decide); have e3 := q_nltI c1; omega }; omega)) c2)
    refine lv_aload_n hx hb d_17_27_21 rfl (lv_at hl 1 rfl) ?_
    refine q_get (ci := 15) (j := 6) (v := .ref qA6) C0 V i_FR rfl rfl hO0 (by decide) w_2081 rfl d_17_27_22 ?_
    refine lv_iload_n hx hb d_17_27_25 rfl (lv_at hl 0 rfl) ?_
    refine q_iald C0 V hA6 (q_ix (x := (x1.toInt + 1080)) (q_addI (x := x1.toInt) (y := 1080) rfl (by decide) (by have t1 : (-1081) ≤ x1.toInt := q_leI x1lo; have t2 : x1.toInt ≤ (-1) := q_leI x1hi; have t3 : 0 ≤ (x1.toInt + 1080) := by { have e1 : ((x1 + 1080) : Int32).toInt = (x1.toInt + 1080) := (q_addI (x := x1.toInt) (y := 1080) rfl (by decide) (by have t1 : (-1081) ≤ x1.toInt := q_leI x1lo; have t2 : x1.toInt ≤ (-1) := q_leI x1hi; omega) (by have t1 : (-1081) ≤ x1.toInt := q_leI x1lo; have t2 : x1.toInt ≤ (-1) := q_leI x1hi; omega)); have e2 : (0 : Int32).toInt = 0 := (by decide); have e3 := q_nltI c1; omega }; omega) (by have t1 : (-1081) ≤ x1.toInt := q_leI x1lo; have t2 : x1.toInt ≤ (-1) := q_leI x1hi; have t3 : 0 ≤ (x1.toInt + 1080) := by { have e1 : ((x1 + 1080) : Int32).toInt = (x1.toInt + 1080) := (q_addI (x := x1.toInt) (y := 1080) rfl (by decide) (by have t1 : (-1081) ≤ x1.toInt := q_leI x1lo; have t2 : x1.toInt ≤ (-1) := q_leI x1hi; omega) (by have t1 : (-1081) ≤ x1.toInt := q_leI x1lo; have t2 : x1.toInt ≤ (-1) := q_leI x1hi; omega)); have e2 : (0 : Int32).toInt = 0 := (by decide); have e3 := q_nltI c1; omega }; omega)) (by have t1 : (-1081) ≤ x1.toInt := q_leI x1lo; have t2 : x1.toInt ≤ (-1) := q_leI x1hi; have t3 : 0 ≤ (x1.toInt + 1080) := by { have e1 : ((x1 + 1080) : Int32).toInt = (x1.toInt + 1080) := (q_addI (x := x1.toInt) (y := 1080) rfl (by decide) (by have t1 : (-1081) ≤ x1.toInt := q_leI x1lo; have t2 : x1.toInt ≤ (-1) := q_leI x1hi; omega) (by have t1 : (-1081) ≤ x1.toInt := q_leI x1lo; have t2 : x1.toInt ≤ (-1) := q_leI x1hi; omega)); have e2 : (0 : Int32).toInt = 0 := (by decide); have e3 := q_nltI c1; omega }; omega) (by have t1 : (-1081) ≤ x1.toInt := q_leI x1lo; have t2 : x1.toInt ≤ (-1) := q_leI x1hi; have t3 : 0 ≤ (x1.toInt + 1080) := by { have e1 : ((x1 + 1080) : Int32).toInt = (x1.toInt + 1080) := (q_addI (x := x1.toInt) (y := 1080) rfl (by decide) (by have t1 : (-1081) ≤ x1.toInt := q_leI x1lo; have t2 : x1.toInt ≤ (-1) := q_leI x1hi; omega) (by have t1 : (-1081) ≤ x1.toInt := q_leI x1lo; have t2 : x1.toInt ≤ (-1) := q_leI x1hi; omega)); have e2 : (0 : Int32).toInt = 0 := (by decide); have e3 := q_nltI c1; omega }; omega)) d_17_27_26 ?_
    refine q_ti (v := 0) (by first | rfl | decide | simp [upd, vp_updL, sb_cl0]) ?_
    exact q_reti C0 V (⟨rfl, rfl⟩) d_17_27_27
set_option maxRecDepth 100000 in
set_option maxHeartbeats 4000000 in
theorem c_FR_figureAt_6 (l : Launch) (D : va_G) (g : Nat → ClassId) (ws : va_W) (kO0 kA6 qO0 qA1 qA2 qA3 qA4 qA5 qA6 qA7 : Nat) (x1 : Int32) (y2 : Int32) (hO0 : ws[kO0]? = (some (qO0, .inr (15, [.int 0, .ref qA1, .ref qA2, .ref qA3, .ref qA4, .ref qA5, .ref qA6, .ref qA7, .int y2, .int 0, .int 0, .long 0, .int 52, .int 2047, .long 0, .int (-1074), .long 0, .int 0])) : Option (Nat × va_E))) (hA6 : ws[kA6]? = (some (qA6, .inl (g 0, 1404, .inl (fun _ => 0))) : Option (Nat × va_E))) (x1lo : (-1081) ≤ x1) (x1hi : x1 ≤ (-1)) (y2lo : 2 ≤ y2) (y2hi : y2 ≤ 1082) : q_mI l y_FR_figureAt prog_17_method_27_code 3 (.int) 1 0 0 D g [.ref qO0, .int x1] ws (fun r u => 0 = r ∧ ws = u) := by
  intro sz
  refine q_into (by decide) (Nat.le_of_ble_eq_true rfl) ?_
  intro p e s m below meth c ls hsz C0 V hl
  have hx := C0.1
  have hb := C0.2.1
  have hl : lv_has ls 3 [(0, .ref qO0), (1, .int x1)] := hl
  refine lv_iload_n hx hb d_17_27_0 rfl (lv_at hl 1 rfl) ?_
  refine lv_sipush (v := 1080) hx hb d_17_27_1 (by decide) ?_
  refine lv_iadd hx hb d_17_27_4 ?_
  refine lv_istore_n (lv' := [(2, .int (x1 + 1080)), (0, .ref qO0), (1, .int x1)]) hx hb d_17_27_5 rfl hl (by decide) rfl (fun ls hl => ?_)
  refine lv_iload_n hx hb d_17_27_6 rfl (lv_at hl 0 rfl) ?_
  refine lv_if_lt (tgt := 17) hx hb d_17_27_7 (by decide) (fun c1 => ?_) (fun c1 => ?_)
  ·
    refine lv_iconst (v := 0) hx hb d_17_27_17 (by decide) ?_
    refine lv_goto (tgt := 27) hx hb d_17_27_18 (by decide) ?_
    exact q_reti C0 V (⟨rfl, rfl⟩) d_17_27_27
  ·
    refine lv_iload_n hx hb d_17_27_10 rfl (lv_at hl 0 rfl) ?_
    refine lv_sipush (v := 1404) hx hb d_17_27_11 (by decide) ?_
    refine lv_icmp_lt (tgt := 21) hx hb d_17_27_14 (by decide) (fun c2 => ?_) (fun c2 => absurd (q_Ilt (x := (x1.toInt + 1080)) (y := 1404) (q_addI (x := x1.toInt) (y := 1080) rfl (by decide) (by have t1 : (-1081) ≤ x1.toInt := q_leI x1lo; have t2 : x1.toInt ≤ (-1) := q_leI x1hi; have t3 : 0 ≤ (x1.toInt + 1080) := by { have e1 : ((x1 + 1080) : Int32).toInt = (x1.toInt + 1080) := (q_addI (x := x1.toInt) (y := 1080) rfl (by decide) (by have t1 : (-1081) ≤ x1.toInt := q_leI x1lo; have t2 : x1.toInt ≤ (-1) := q_leI x1hi; omega) (by have t1 : (-1081) ≤ x1.toInt := q_leI x1lo; have t2 : x1.toInt ≤ (-1) := q_leI x1hi; omega)); have e2 : (0 : Int32).toInt = 0 := (by decide); have e3 := q_nltI c1; omega }; omega) (by have t1 : (-1081) ≤ x1.toInt := q_leI x1lo; have t2 : x1.toInt ≤ (-1) := q_leI x1hi; have t3 : 0 ≤ (x1.toInt + 1080) := by { have e1 : ((x1 + 1080) : Int32).toInt = (x1.toInt + 1080) := (q_addI (x := x1.toInt) (y := 1080) rfl (by decide) (by have t1 : (-1081) ≤ x1.toInt := q_leI x1lo; have t2 : x1.toInt ≤ (-1) := q_leI x1hi; omega) (by have t1 : (-1081) ≤ x1.toInt := q_leI x1lo; have t2 : x1.toInt ≤ (-1) := q_leI x1hi; omega)); have e2 : (0 : Int32).toInt = 0 := (by decide); have e3 := q_nltI c1; omega }; omega)) (by decide) (by have t1 : (-1081) ≤ x1.toInt := q_leI x1lo; have t2 : x1.toInt ≤ (-1) := q_leI x1hi; have t3 : 0 ≤ (x1.toInt + 1080) := by { have e1 : ((x1 + 1080) : Int32).toInt = (x1.toInt + 1080) := (q_addI (x := x1.toInt) (y := 1080) rfl (by decide) (by have t1 : (-1081) ≤ x1.toInt := q_leI x1lo; have t2 : x1.toInt ≤ (-1) := q_leI x1hi; omega) (by have t1 : (-1081) ≤ x1.toInt := q_leI x1lo; have t2 : x1.toInt ≤ (-1) := q_leI x1hi; omega)); have e2 : (0 : Int32).toInt = 0 := (by decide); have e3 := q_nltI c1; omega }; omega)) c2)
    refine lv_aload_n hx hb d_17_27_21 rfl (lv_at hl 1 rfl) ?_
    refine q_get (ci := 15) (j := 6) (v := .ref qA6) C0 V i_FR rfl rfl hO0 (by decide) w_2081 rfl d_17_27_22 ?_
    refine lv_iload_n hx hb d_17_27_25 rfl (lv_at hl 0 rfl) ?_
    refine q_iald C0 V hA6 (q_ix (x := (x1.toInt + 1080)) (q_addI (x := x1.toInt) (y := 1080) rfl (by decide) (by have t1 : (-1081) ≤ x1.toInt := q_leI x1lo; have t2 : x1.toInt ≤ (-1) := q_leI x1hi; have t3 : 0 ≤ (x1.toInt + 1080) := by { have e1 : ((x1 + 1080) : Int32).toInt = (x1.toInt + 1080) := (q_addI (x := x1.toInt) (y := 1080) rfl (by decide) (by have t1 : (-1081) ≤ x1.toInt := q_leI x1lo; have t2 : x1.toInt ≤ (-1) := q_leI x1hi; omega) (by have t1 : (-1081) ≤ x1.toInt := q_leI x1lo; have t2 : x1.toInt ≤ (-1) := q_leI x1hi; omega)); have e2 : (0 : Int32).toInt = 0 := (by decide); have e3 := q_nltI c1; omega }; omega) (by have t1 : (-1081) ≤ x1.toInt := q_leI x1lo; have t2 : x1.toInt ≤ (-1) := q_leI x1hi; have t3 : 0 ≤ (x1.toInt + 1080) := by { have e1 : ((x1 + 1080) : Int32).toInt = (x1.toInt + 1080) := (q_addI (x := x1.toInt) (y := 1080) rfl (by decide) (by have t1 : (-1081) ≤ x1.toInt := q_leI x1lo; have t2 : x1.toInt ≤ (-1) := q_leI x1hi; omega) (by have t1 : (-1081) ≤ x1.toInt := q_leI x1lo; have t2 : x1.toInt ≤ (-1) := q_leI x1hi; omega)); have e2 : (0 : Int32).toInt = 0 := (by decide); have e3 := q_nltI c1; omega }; omega)) (by have t1 : (-1081) ≤ x1.toInt := q_leI x1lo; have t2 : x1.toInt ≤ (-1) := q_leI x1hi; have t3 : 0 ≤ (x1.toInt + 1080) := by { have e1 : ((x1 + 1080) : Int32).toInt = (x1.toInt + 1080) := (q_addI (x := x1.toInt) (y := 1080) rfl (by decide) (by have t1 : (-1081) ≤ x1.toInt := q_leI x1lo; have t2 : x1.toInt ≤ (-1) := q_leI x1hi; omega) (by have t1 : (-1081) ≤ x1.toInt := q_leI x1lo; have t2 : x1.toInt ≤ (-1) := q_leI x1hi; omega)); have e2 : (0 : Int32).toInt = 0 := (by decide); have e3 := q_nltI c1; omega }; omega) (by have t1 : (-1081) ≤ x1.toInt := q_leI x1lo; have t2 : x1.toInt ≤ (-1) := q_leI x1hi; have t3 : 0 ≤ (x1.toInt + 1080) := by { have e1 : ((x1 + 1080) : Int32).toInt = (x1.toInt + 1080) := (q_addI (x := x1.toInt) (y := 1080) rfl (by decide) (by have t1 : (-1081) ≤ x1.toInt := q_leI x1lo; have t2 : x1.toInt ≤ (-1) := q_leI x1hi; omega) (by have t1 : (-1081) ≤ x1.toInt := q_leI x1lo; have t2 : x1.toInt ≤ (-1) := q_leI x1hi; omega)); have e2 : (0 : Int32).toInt = 0 := (by decide); have e3 := q_nltI c1; omega }; omega)) d_17_27_26 ?_
    refine q_ti (v := 0) (by first | rfl | decide | simp [upd, vp_updL, sb_cl0]) ?_
    exact q_reti C0 V (⟨rfl, rfl⟩) d_17_27_27
set_option maxRecDepth 100000 in
set_option maxHeartbeats 4000000 in
theorem c_FR_add_13 (l : Launch) (D : va_G) (g : Nat → ClassId) (ws : va_W) (kO0 kA7 qO0 qA1 qA2 qA3 qA4 qA5 qA6 qA7 : Nat) (y1 : Int32) (hO0 : ws[kO0]? = (some (qO0, .inr (15, [.int 0, .ref qA1, .ref qA2, .ref qA3, .ref qA4, .ref qA5, .ref qA6, .ref qA7, .int y1, .int 0, .int 0, .long 0, .int 52, .int 2047, .long 0, .int (-1074), .long 0, .int 0])) : Option (Nat × va_E))) (hA7 : ws[kA7]? = (some (qA7, .inl (g 0, 1600, .inl (upd (upd (fun _ => 0) 0 48) 1 46))) : Option (Nat × va_E))) (y1lo : 2 ≤ y1) (y1hi : y1 ≤ 1082) : q_mV l y_FR_add prog_17_method_16_code 2 1 0 0 D g [.ref qO0, .int 48] ws (fun u => q_un ws u [kO0, kA7] ∧ u[kO0]? = (some (qO0, .inr (15, [.int 0, .ref qA1, .ref qA2, .ref qA3, .ref qA4, .ref qA5, .ref qA6, .ref qA7, .int (y1 + 1), .int 0, .int 0, .long 0, .int 52, .int 2047, .long 0, .int (-1074), .long 0, .int 0])) : Option (Nat × va_E)) ∧ u[kA7]? = (some (qA7, .inl (g 0, 1600, .inl (upd (upd (upd (fun _ => 0) 0 48) 1 46) y1.toNatClampNeg 48))) : Option (Nat × va_E))) := by
  intro sz
  refine q_into (by decide) (Nat.le_of_ble_eq_true rfl) ?_
  intro p e s m below meth c ls hsz C0 V hl
  have hx := C0.1
  have hb := C0.2.1
  have hl : lv_has ls 2 [(0, .ref qO0), (1, .int 48)] := hl
  have n_A7_O0 := q_df hA7 hO0
  have n_O0_A7 := Ne.symm (q_df hA7 hO0)
  have hF : q_un ws ws [kO0, kA7] := q_u0
  refine lv_aload_n hx hb d_17_16_0 rfl (lv_at hl 0 rfl) ?_
  refine q_get (ci := 15) (j := 7) (v := .ref qA7) C0 V i_FR rfl rfl hO0 (by decide) w_2082 rfl d_17_16_1 ?_
  refine lv_aload_n hx hb d_17_16_4 rfl (lv_at hl 0 rfl) ?_
  refine q_get (ci := 15) (j := 8) (v := .int y1) C0 V i_FR rfl rfl hO0 (by decide) w_2084 rfl d_17_16_5 ?_
  refine lv_iload_n hx hb d_17_16_8 rfl (lv_at hl 1 rfl) ?_
  refine q_iast C0 V hA7 (q_ix (x := y1.toInt) rfl (by have t1 : 2 ≤ y1.toInt := q_leI y1lo; have t2 : y1.toInt ≤ 1082 := q_leI y1hi; omega) (by have t1 : 2 ≤ y1.toInt := q_leI y1lo; have t2 : y1.toInt ≤ 1082 := q_leI y1hi; omega)) d_17_16_9 (fun H locs w1 hu2 hA7 V => ?_)
  replace hA7 : w1[kA7]? = (some (qA7, .inl (g 0, 1600, .inl (upd (upd (upd (fun _ => 0) 0 48) 1 46) y1.toNatClampNeg 48))) : Option (Nat × va_E)) := hA7
  replace hF := q_us hF hu2 (.tail _ (.head _))
  refine lv_aload_n hx hb d_17_16_10 rfl (lv_at hl 0 rfl) ?_
  refine lv_dup hx hb d_17_16_11 rfl ?_
  replace hO0 := (hu2 _ n_O0_A7).trans (hO0)
  refine q_get (ci := 15) (j := 8) (v := .int y1) C0 V i_FR rfl rfl hO0 (by decide) w_2084 rfl d_17_16_12 ?_
  refine lv_iconst (v := 1) hx hb d_17_16_15 (by decide) ?_
  refine lv_iadd hx hb d_17_16_16 ?_
  refine q_put (ci := 15) (j := 8) (v := .int (y1 + 1)) (ty := .int) C0 V i_FR o_FR n_FR rfl rfl hO0 (by decide) w_2084 rfl rfl rfl rfl (Nat.le_of_ble_eq_true rfl) d_17_16_17 (fun H locs w3 hu4 hO0 V => ?_)
  replace hO0 : w3[kO0]? = (some (qO0, .inr (15, [.int 0, .ref qA1, .ref qA2, .ref qA3, .ref qA4, .ref qA5, .ref qA6, .ref qA7, .int (y1 + 1), .int 0, .int 0, .long 0, .int 52, .int 2047, .long 0, .int (-1074), .long 0, .int 0])) : Option (Nat × va_E)) := hO0
  replace hF := q_us hF hu4 (.head _)
  replace hA7 := (hu4 _ n_A7_O0).trans (hA7)
  exact q_retv C0 V (⟨hF, hO0, hA7⟩) d_17_16_20
set_option maxRecDepth 100000 in
set_option maxHeartbeats 4000000 in
theorem c_FR_add_14 (l : Launch) (D : va_G) (g : Nat → ClassId) (ws : va_W) (kO0 kA7 qO0 qA1 qA2 qA3 qA4 qA5 qA6 qA7 : Nat) (y1 : Int32) (f3 : Nat → Int32) (hO0 : ws[kO0]? = (some (qO0, .inr (15, [.int 0, .ref qA1, .ref qA2, .ref qA3, .ref qA4, .ref qA5, .ref qA6, .ref qA7, .int y1, .int 0, .int 0, .long 0, .int 52, .int 2047, .long 0, .int (-1074), .long 0, .int 0])) : Option (Nat × va_E))) (hA7 : ws[kA7]? = (some (qA7, .inl (g 0, 1600, .inl f3)) : Option (Nat × va_E))) (y1lo : 2 ≤ y1) (y1hi : y1 ≤ 1082) : q_mV l y_FR_add prog_17_method_16_code 2 1 0 0 D g [.ref qO0, .int 48] ws (fun u => q_un ws u [kO0, kA7] ∧ u[kO0]? = (some (qO0, .inr (15, [.int 0, .ref qA1, .ref qA2, .ref qA3, .ref qA4, .ref qA5, .ref qA6, .ref qA7, .int (y1 + 1), .int 0, .int 0, .long 0, .int 52, .int 2047, .long 0, .int (-1074), .long 0, .int 0])) : Option (Nat × va_E)) ∧ u[kA7]? = (some (qA7, .inl (g 0, 1600, .inl (upd f3 y1.toNatClampNeg 48))) : Option (Nat × va_E))) := by
  intro sz
  refine q_into (by decide) (Nat.le_of_ble_eq_true rfl) ?_
  intro p e s m below meth c ls hsz C0 V hl
  have hx := C0.1
  have hb := C0.2.1
  have hl : lv_has ls 2 [(0, .ref qO0), (1, .int 48)] := hl
  have n_A7_O0 := q_df hA7 hO0
  have n_O0_A7 := Ne.symm (q_df hA7 hO0)
  have hF : q_un ws ws [kO0, kA7] := q_u0
  refine lv_aload_n hx hb d_17_16_0 rfl (lv_at hl 0 rfl) ?_
  refine q_get (ci := 15) (j := 7) (v := .ref qA7) C0 V i_FR rfl rfl hO0 (by decide) w_2082 rfl d_17_16_1 ?_
  refine lv_aload_n hx hb d_17_16_4 rfl (lv_at hl 0 rfl) ?_
  refine q_get (ci := 15) (j := 8) (v := .int y1) C0 V i_FR rfl rfl hO0 (by decide) w_2084 rfl d_17_16_5 ?_
  refine lv_iload_n hx hb d_17_16_8 rfl (lv_at hl 1 rfl) ?_
  refine q_iast C0 V hA7 (q_ix (x := y1.toInt) rfl (by have t1 : 2 ≤ y1.toInt := q_leI y1lo; have t2 : y1.toInt ≤ 1082 := q_leI y1hi; omega) (by have t1 : 2 ≤ y1.toInt := q_leI y1lo; have t2 : y1.toInt ≤ 1082 := q_leI y1hi; omega)) d_17_16_9 (fun H locs w1 hu2 hA7 V => ?_)
  replace hA7 : w1[kA7]? = (some (qA7, .inl (g 0, 1600, .inl (upd f3 y1.toNatClampNeg 48))) : Option (Nat × va_E)) := hA7
  replace hF := q_us hF hu2 (.tail _ (.head _))
  refine lv_aload_n hx hb d_17_16_10 rfl (lv_at hl 0 rfl) ?_
  refine lv_dup hx hb d_17_16_11 rfl ?_
  replace hO0 := (hu2 _ n_O0_A7).trans (hO0)
  refine q_get (ci := 15) (j := 8) (v := .int y1) C0 V i_FR rfl rfl hO0 (by decide) w_2084 rfl d_17_16_12 ?_
  refine lv_iconst (v := 1) hx hb d_17_16_15 (by decide) ?_
  refine lv_iadd hx hb d_17_16_16 ?_
  refine q_put (ci := 15) (j := 8) (v := .int (y1 + 1)) (ty := .int) C0 V i_FR o_FR n_FR rfl rfl hO0 (by decide) w_2084 rfl rfl rfl rfl (Nat.le_of_ble_eq_true rfl) d_17_16_17 (fun H locs w3 hu4 hO0 V => ?_)
  replace hO0 : w3[kO0]? = (some (qO0, .inr (15, [.int 0, .ref qA1, .ref qA2, .ref qA3, .ref qA4, .ref qA5, .ref qA6, .ref qA7, .int (y1 + 1), .int 0, .int 0, .long 0, .int 52, .int 2047, .long 0, .int (-1074), .long 0, .int 0])) : Option (Nat × va_E)) := hO0
  replace hF := q_us hF hu4 (.head _)
  replace hA7 := (hu4 _ n_A7_O0).trans (hA7)
  exact q_retv C0 V (⟨hF, hO0, hA7⟩) d_17_16_20
set_option maxRecDepth 100000 in
set_option maxHeartbeats 4000000 in
theorem c_FR_figureAt_7 (l : Launch) (D : va_G) (g : Nat → ClassId) (ws : va_W) (kO0 kA6 qO0 qA1 qA2 qA3 qA4 qA5 qA6 qA7 : Nat) (x1 : Int32) (y2 : Int32) (hO0 : ws[kO0]? = (some (qO0, .inr (15, [.int 0, .ref qA1, .ref qA2, .ref qA3, .ref qA4, .ref qA5, .ref qA6, .ref qA7, .int y2, .int 0, .int 0, .long 0, .int 52, .int 2047, .long 0, .int (-1074), .long 0, .int 0])) : Option (Nat × va_E))) (hA6 : ws[kA6]? = (some (qA6, .inl (g 0, 1404, .inl (fun _ => 0))) : Option (Nat × va_E))) (x1lo : (-1101) ≤ x1) (x1hi : x1 ≤ (-1)) (y2lo : 2 ≤ y2) (y2hi : y2 ≤ 1102) : q_mI l y_FR_figureAt prog_17_method_27_code 3 (.int) 1 0 0 D g [.ref qO0, .int x1] ws (fun r u => 0 = r ∧ ws = u) := by
  intro sz
  refine q_into (by decide) (Nat.le_of_ble_eq_true rfl) ?_
  intro p e s m below meth c ls hsz C0 V hl
  have hx := C0.1
  have hb := C0.2.1
  have hl : lv_has ls 3 [(0, .ref qO0), (1, .int x1)] := hl
  refine lv_iload_n hx hb d_17_27_0 rfl (lv_at hl 1 rfl) ?_
  refine lv_sipush (v := 1080) hx hb d_17_27_1 (by decide) ?_
  refine lv_iadd hx hb d_17_27_4 ?_
  refine lv_istore_n (lv' := [(2, .int (x1 + 1080)), (0, .ref qO0), (1, .int x1)]) hx hb d_17_27_5 rfl hl (by decide) rfl (fun ls hl => ?_)
  refine lv_iload_n hx hb d_17_27_6 rfl (lv_at hl 0 rfl) ?_
  refine lv_if_lt (tgt := 17) hx hb d_17_27_7 (by decide) (fun c1 => ?_) (fun c1 => ?_)
  ·
    refine lv_iconst (v := 0) hx hb d_17_27_17 (by decide) ?_
    refine lv_goto (tgt := 27) hx hb d_17_27_18 (by decide) ?_
    exact q_reti C0 V (⟨rfl, rfl⟩) d_17_27_27
  ·
    refine lv_iload_n hx hb d_17_27_10 rfl (lv_at hl 0 rfl) ?_
    refine lv_sipush (v := 1404) hx hb d_17_27_11 (by decide) ?_
    refine lv_icmp_lt (tgt := 21) hx hb d_17_27_14 (by decide) (fun c2 => ?_) (fun c2 => absurd (q_Ilt (x := (x1.toInt + 1080)) (y := 1404) (q_addI (x := x1.toInt) (y := 1080) rfl (by decide) (by have t1 : (-1101) ≤ x1.toInt := q_leI x1lo; have t2 : x1.toInt ≤ (-1) := q_leI x1hi; have t3 : 0 ≤ (x1.toInt + 1080) := by { have e1 : ((x1 + 1080) : Int32).toInt = (x1.toInt + 1080) := (q_addI (x := x1.toInt) (y := 1080) rfl (by decide) (by have t1 : (-1101) ≤ x1.toInt := q_leI x1lo; have t2 : x1.toInt ≤ (-1) := q_leI x1hi; omega) (by have t1 : (-1101) ≤ x1.toInt := q_leI x1lo; have t2 : x1.toInt ≤ (-1) := q_leI x1hi; omega)); have e2 : (0 : Int32).toInt = 0 := (by decide); have e3 := q_nltI c1; omega }; omega) (by have t1 : (-1101) ≤ x1.toInt := q_leI x1lo; have t2 : x1.toInt ≤ (-1) := q_leI x1hi; have t3 : 0 ≤ (x1.toInt + 1080) := by { have e1 : ((x1 + 1080) : Int32).toInt = (x1.toInt + 1080) := (q_addI (x := x1.toInt) (y := 1080) rfl (by decide) (by have t1 : (-1101) ≤ x1.toInt := q_leI x1lo; have t2 : x1.toInt ≤ (-1) := q_leI x1hi; omega) (by have t1 : (-1101) ≤ x1.toInt := q_leI x1lo; have t2 : x1.toInt ≤ (-1) := q_leI x1hi; omega)); have e2 : (0 : Int32).toInt = 0 := (by decide); have e3 := q_nltI c1; omega }; omega)) (by decide) (by have t1 : (-1101) ≤ x1.toInt := q_leI x1lo; have t2 : x1.toInt ≤ (-1) := q_leI x1hi; have t3 : 0 ≤ (x1.toInt + 1080) := by { have e1 : ((x1 + 1080) : Int32).toInt = (x1.toInt + 1080) := (q_addI (x := x1.toInt) (y := 1080) rfl (by decide) (by have t1 : (-1101) ≤ x1.toInt := q_leI x1lo; have t2 : x1.toInt ≤ (-1) := q_leI x1hi; omega) (by have t1 : (-1101) ≤ x1.toInt := q_leI x1lo; have t2 : x1.toInt ≤ (-1) := q_leI x1hi; omega)); have e2 : (0 : Int32).toInt = 0 := (by decide); have e3 := q_nltI c1; omega }; omega)) c2)
    refine lv_aload_n hx hb d_17_27_21 rfl (lv_at hl 1 rfl) ?_
    refine q_get (ci := 15) (j := 6) (v := .ref qA6) C0 V i_FR rfl rfl hO0 (by decide) w_2081 rfl d_17_27_22 ?_
    refine lv_iload_n hx hb d_17_27_25 rfl (lv_at hl 0 rfl) ?_
    refine q_iald C0 V hA6 (q_ix (x := (x1.toInt + 1080)) (q_addI (x := x1.toInt) (y := 1080) rfl (by decide) (by have t1 : (-1101) ≤ x1.toInt := q_leI x1lo; have t2 : x1.toInt ≤ (-1) := q_leI x1hi; have t3 : 0 ≤ (x1.toInt + 1080) := by { have e1 : ((x1 + 1080) : Int32).toInt = (x1.toInt + 1080) := (q_addI (x := x1.toInt) (y := 1080) rfl (by decide) (by have t1 : (-1101) ≤ x1.toInt := q_leI x1lo; have t2 : x1.toInt ≤ (-1) := q_leI x1hi; omega) (by have t1 : (-1101) ≤ x1.toInt := q_leI x1lo; have t2 : x1.toInt ≤ (-1) := q_leI x1hi; omega)); have e2 : (0 : Int32).toInt = 0 := (by decide); have e3 := q_nltI c1; omega }; omega) (by have t1 : (-1101) ≤ x1.toInt := q_leI x1lo; have t2 : x1.toInt ≤ (-1) := q_leI x1hi; have t3 : 0 ≤ (x1.toInt + 1080) := by { have e1 : ((x1 + 1080) : Int32).toInt = (x1.toInt + 1080) := (q_addI (x := x1.toInt) (y := 1080) rfl (by decide) (by have t1 : (-1101) ≤ x1.toInt := q_leI x1lo; have t2 : x1.toInt ≤ (-1) := q_leI x1hi; omega) (by have t1 : (-1101) ≤ x1.toInt := q_leI x1lo; have t2 : x1.toInt ≤ (-1) := q_leI x1hi; omega)); have e2 : (0 : Int32).toInt = 0 := (by decide); have e3 := q_nltI c1; omega }; omega)) (by have t1 : (-1101) ≤ x1.toInt := q_leI x1lo; have t2 : x1.toInt ≤ (-1) := q_leI x1hi; have t3 : 0 ≤ (x1.toInt + 1080) := by { have e1 : ((x1 + 1080) : Int32).toInt = (x1.toInt + 1080) := (q_addI (x := x1.toInt) (y := 1080) rfl (by decide) (by have t1 : (-1101) ≤ x1.toInt := q_leI x1lo; have t2 : x1.toInt ≤ (-1) := q_leI x1hi; omega) (by have t1 : (-1101) ≤ x1.toInt := q_leI x1lo; have t2 : x1.toInt ≤ (-1) := q_leI x1hi; omega)); have e2 : (0 : Int32).toInt = 0 := (by decide); have e3 := q_nltI c1; omega }; omega) (by have t1 : (-1101) ≤ x1.toInt := q_leI x1lo; have t2 : x1.toInt ≤ (-1) := q_leI x1hi; have t3 : 0 ≤ (x1.toInt + 1080) := by { have e1 : ((x1 + 1080) : Int32).toInt = (x1.toInt + 1080) := (q_addI (x := x1.toInt) (y := 1080) rfl (by decide) (by have t1 : (-1101) ≤ x1.toInt := q_leI x1lo; have t2 : x1.toInt ≤ (-1) := q_leI x1hi; omega) (by have t1 : (-1101) ≤ x1.toInt := q_leI x1lo; have t2 : x1.toInt ≤ (-1) := q_leI x1hi; omega)); have e2 : (0 : Int32).toInt = 0 := (by decide); have e3 := q_nltI c1; omega }; omega)) d_17_27_26 ?_
    refine q_ti (v := 0) (by first | rfl | decide | simp [upd, vp_updL, sb_cl0]) ?_
    exact q_reti C0 V (⟨rfl, rfl⟩) d_17_27_27
set_option maxRecDepth 100000 in
set_option maxHeartbeats 4000000 in
theorem c_FR_add_15 (l : Launch) (D : va_G) (g : Nat → ClassId) (ws : va_W) (kO0 kA7 qO0 qA1 qA2 qA3 qA4 qA5 qA6 qA7 : Nat) (y1 : Int32) (f3 : Nat → Int32) (hO0 : ws[kO0]? = (some (qO0, .inr (15, [.int 0, .ref qA1, .ref qA2, .ref qA3, .ref qA4, .ref qA5, .ref qA6, .ref qA7, .int y1, .int 0, .int 0, .long 0, .int 52, .int 2047, .long 0, .int (-1074), .long 0, .int 0])) : Option (Nat × va_E))) (hA7 : ws[kA7]? = (some (qA7, .inl (g 0, 1600, .inl f3)) : Option (Nat × va_E))) (y1lo : 2 ≤ y1) (y1hi : y1 ≤ 1102) : q_mV l y_FR_add prog_17_method_16_code 2 1 0 0 D g [.ref qO0, .int 48] ws (fun u => q_un ws u [kO0, kA7] ∧ u[kO0]? = (some (qO0, .inr (15, [.int 0, .ref qA1, .ref qA2, .ref qA3, .ref qA4, .ref qA5, .ref qA6, .ref qA7, .int (y1 + 1), .int 0, .int 0, .long 0, .int 52, .int 2047, .long 0, .int (-1074), .long 0, .int 0])) : Option (Nat × va_E)) ∧ u[kA7]? = (some (qA7, .inl (g 0, 1600, .inl (upd f3 y1.toNatClampNeg 48))) : Option (Nat × va_E))) := by
  intro sz
  refine q_into (by decide) (Nat.le_of_ble_eq_true rfl) ?_
  intro p e s m below meth c ls hsz C0 V hl
  have hx := C0.1
  have hb := C0.2.1
  have hl : lv_has ls 2 [(0, .ref qO0), (1, .int 48)] := hl
  have n_A7_O0 := q_df hA7 hO0
  have n_O0_A7 := Ne.symm (q_df hA7 hO0)
  have hF : q_un ws ws [kO0, kA7] := q_u0
  refine lv_aload_n hx hb d_17_16_0 rfl (lv_at hl 0 rfl) ?_
  refine q_get (ci := 15) (j := 7) (v := .ref qA7) C0 V i_FR rfl rfl hO0 (by decide) w_2082 rfl d_17_16_1 ?_
  refine lv_aload_n hx hb d_17_16_4 rfl (lv_at hl 0 rfl) ?_
  refine q_get (ci := 15) (j := 8) (v := .int y1) C0 V i_FR rfl rfl hO0 (by decide) w_2084 rfl d_17_16_5 ?_
  refine lv_iload_n hx hb d_17_16_8 rfl (lv_at hl 1 rfl) ?_
  refine q_iast C0 V hA7 (q_ix (x := y1.toInt) rfl (by have t1 : 2 ≤ y1.toInt := q_leI y1lo; have t2 : y1.toInt ≤ 1102 := q_leI y1hi; omega) (by have t1 : 2 ≤ y1.toInt := q_leI y1lo; have t2 : y1.toInt ≤ 1102 := q_leI y1hi; omega)) d_17_16_9 (fun H locs w1 hu2 hA7 V => ?_)
  replace hA7 : w1[kA7]? = (some (qA7, .inl (g 0, 1600, .inl (upd f3 y1.toNatClampNeg 48))) : Option (Nat × va_E)) := hA7
  replace hF := q_us hF hu2 (.tail _ (.head _))
  refine lv_aload_n hx hb d_17_16_10 rfl (lv_at hl 0 rfl) ?_
  refine lv_dup hx hb d_17_16_11 rfl ?_
  replace hO0 := (hu2 _ n_O0_A7).trans (hO0)
  refine q_get (ci := 15) (j := 8) (v := .int y1) C0 V i_FR rfl rfl hO0 (by decide) w_2084 rfl d_17_16_12 ?_
  refine lv_iconst (v := 1) hx hb d_17_16_15 (by decide) ?_
  refine lv_iadd hx hb d_17_16_16 ?_
  refine q_put (ci := 15) (j := 8) (v := .int (y1 + 1)) (ty := .int) C0 V i_FR o_FR n_FR rfl rfl hO0 (by decide) w_2084 rfl rfl rfl rfl (Nat.le_of_ble_eq_true rfl) d_17_16_17 (fun H locs w3 hu4 hO0 V => ?_)
  replace hO0 : w3[kO0]? = (some (qO0, .inr (15, [.int 0, .ref qA1, .ref qA2, .ref qA3, .ref qA4, .ref qA5, .ref qA6, .ref qA7, .int (y1 + 1), .int 0, .int 0, .long 0, .int 52, .int 2047, .long 0, .int (-1074), .long 0, .int 0])) : Option (Nat × va_E)) := hO0
  replace hF := q_us hF hu4 (.head _)
  replace hA7 := (hu4 _ n_A7_O0).trans (hA7)
  exact q_retv C0 V (⟨hF, hO0, hA7⟩) d_17_16_20
theorem d_17_29_55 : decode prog_17_method_29_code 55 = .ok (.iconst 1, 1) := by decide +kernel
theorem d_17_29_56 : decode prog_17_method_29_code 56 = .ok (.goto 15, 3) := by decide +kernel
theorem d_17_29_81 : decode prog_17_method_29_code 81 = .ok (.iconst 0, 1) := by decide +kernel
theorem d_17_29_82 : decode prog_17_method_29_code 82 = .ok (.ireturn, 1) := by decide +kernel
theorem d_17_29_95 : decode prog_17_method_29_code 95 = .ok (.iconst 0, 1) := by decide +kernel
theorem d_17_29_96 : decode prog_17_method_29_code 96 = .ok (.goto 9, 3) := by decide +kernel
set_option maxRecDepth 100000 in
set_option maxHeartbeats 4000000 in
theorem c_FR_fixed_5 (l : Launch) (D : va_G) (g : Nat → ClassId) (ws : va_W) (kO0 kA1 kA2 kA3 kA6 kA7 qO0 qA1 qA2 qA3 qA4 qA5 qA6 qA7 : Nat) (x1 : Int32) (x2 : Int32) (hO0 : ws[kO0]? = (some (qO0, .inr (15, [.int 0, .ref qA1, .ref qA2, .ref qA3, .ref qA4, .ref qA5, .ref qA6, .ref qA7, .int 0, .int 0, .int 0, .long 0, .int 0, .int 0, .long 0, .int 0, .long 0, .int 0])) : Option (Nat × va_E))) (hA1 : ws[kA1]? = (some (qA1, .inl (g 0, 156, .inl (fun _ => 0))) : Option (Nat × va_E))) (hA2 : ws[kA2]? = (some (qA2, .inl (g 0, 156, .inl (fun _ => 0))) : Option (Nat × va_E))) (hA3 : ws[kA3]? = (some (qA3, .inl (g 0, 1404, .inl (fun _ => 0))) : Option (Nat × va_E))) (hA6 : ws[kA6]? = (some (qA6, .inl (g 0, 1404, .inl (fun _ => 0))) : Option (Nat × va_E))) (hA7 : ws[kA7]? = (some (qA7, .inl (g 0, 1600, .inl (fun _ => 0))) : Option (Nat × va_E))) (n_A1_A2 : kA1 ≠ kA2) (n_A1_A3 : kA1 ≠ kA3) (n_A1_A6 : kA1 ≠ kA6) (n_A1_A7 : kA1 ≠ kA7) (n_A2_A6 : kA2 ≠ kA6) (n_A2_A7 : kA2 ≠ kA7) (n_A3_A2 : kA3 ≠ kA2) (n_A3_A6 : kA3 ≠ kA6) (n_A3_A7 : kA3 ≠ kA7) (n_A6_A7 : kA6 ≠ kA7) : q_mI l y_FR_fixed prog_17_method_29_code 9 (.int) 3 0 0 D g [.ref qO0, .long 0, .int 0, .int x1, .int x2] ws (fun r u => (x1 < 0 ∧ 0 = r ∧ q_un ws u [kO0, kA1, kA2, kA3, kA6, kA7] ∧ u[kO0]? = (some (qO0, .inr (15, [.int 1, .ref qA1, .ref qA2, .ref qA3, .ref qA4, .ref qA5, .ref qA6, .ref qA7, .int 0, .int 0, .int 0, .long 0, .int 52, .int 2047, .long 0, .int (-1074), .long 0, .int 0])) : Option (Nat × va_E)) ∧ u[kA1]? = (some (qA1, .inl (g 0, 156, .inl (fun _ => 0))) : Option (Nat × va_E)) ∧ u[kA2]? = (some (qA2, .inl (g 0, 156, .inl (fun _ => 0))) : Option (Nat × va_E)) ∧ u[kA3]? = (some (qA3, .inl (g 0, 1404, .inl (fun _ => 0))) : Option (Nat × va_E)) ∧ u[kA6]? = (some (qA6, .inl (g 0, 1404, .inl (fun _ => 0))) : Option (Nat × va_E)) ∧ u[kA7]? = (some (qA7, .inl (g 0, 1600, .inl (fun _ => 0))) : Option (Nat × va_E))) ∨ (¬ x1 < 0 ∧ 1100 < x1 ∧ 0 = r ∧ q_un ws u [kO0, kA1, kA2, kA3, kA6, kA7] ∧ u[kO0]? = (some (qO0, .inr (15, [.int 1, .ref qA1, .ref qA2, .ref qA3, .ref qA4, .ref qA5, .ref qA6, .ref qA7, .int 0, .int 0, .int 0, .long 0, .int 52, .int 2047, .long 0, .int (-1074), .long 0, .int 0])) : Option (Nat × va_E)) ∧ u[kA1]? = (some (qA1, .inl (g 0, 156, .inl (fun _ => 0))) : Option (Nat × va_E)) ∧ u[kA2]? = (some (qA2, .inl (g 0, 156, .inl (fun _ => 0))) : Option (Nat × va_E)) ∧ u[kA3]? = (some (qA3, .inl (g 0, 1404, .inl (fun _ => 0))) : Option (Nat × va_E)) ∧ u[kA6]? = (some (qA6, .inl (g 0, 1404, .inl (fun _ => 0))) : Option (Nat × va_E)) ∧ u[kA7]? = (some (qA7, .inl (g 0, 1600, .inl (fun _ => 0))) : Option (Nat × va_E))) ∨ (¬ x1 < 0 ∧ ¬ 1100 < x1 ∧ x2 < 0 ∧ 0 = r ∧ q_un ws u [kO0, kA1, kA2, kA3, kA6, kA7] ∧ u[kO0]? = (some (qO0, .inr (15, [.int 1, .ref qA1, .ref qA2, .ref qA3, .ref qA4, .ref qA5, .ref qA6, .ref qA7, .int 0, .int 0, .int 0, .long 0, .int 52, .int 2047, .long 0, .int (-1074), .long 0, .int 0])) : Option (Nat × va_E)) ∧ u[kA1]? = (some (qA1, .inl (g 0, 156, .inl (fun _ => 0))) : Option (Nat × va_E)) ∧ u[kA2]? = (some (qA2, .inl (g 0, 156, .inl (fun _ => 0))) : Option (Nat × va_E)) ∧ u[kA3]? = (some (qA3, .inl (g 0, 1404, .inl (fun _ => 0))) : Option (Nat × va_E)) ∧ u[kA6]? = (some (qA6, .inl (g 0, 1404, .inl (fun _ => 0))) : Option (Nat × va_E)) ∧ u[kA7]? = (some (qA7, .inl (g 0, 1600, .inl (fun _ => 0))) : Option (Nat × va_E))) ∨ (∃ (ex0 : Nat → Int32), ¬ x1 < 0 ∧ ¬ 1100 < x1 ∧ ¬ x2 < 0 ∧ x2 ≤ 3 ∧ x1 ≤ 1080 ∧ x1 ≤ 0 ∧ 1 = r ∧ q_un ws u [kO0, kA1, kA2, kA3, kA6, kA7] ∧ u[kO0]? = (some (qO0, .inr (15, [.int 0, .ref qA1, .ref qA2, .ref qA3, .ref qA4, .ref qA5, .ref qA6, .ref qA7, .int 1, .int 0, .int 0, .long 0, .int 52, .int 2047, .long 0, .int (-1074), .long 0, .int 0])) : Option (Nat × va_E)) ∧ u[kA1]? = (some (qA1, .inl (g 0, 156, .inl ex0)) : Option (Nat × va_E)) ∧ u[kA2]? = (some (qA2, .inl (g 0, 156, .inl (fun _ => 0))) : Option (Nat × va_E)) ∧ u[kA3]? = (some (qA3, .inl (g 0, 1404, .inl (fun _ => 0))) : Option (Nat × va_E)) ∧ u[kA6]? = (some (qA6, .inl (g 0, 1404, .inl (fun _ => 0))) : Option (Nat × va_E)) ∧ u[kA7]? = (some (qA7, .inl (g 0, 1600, .inl (upd (fun _ => 0) 0 48))) : Option (Nat × va_E))) ∨ (∃ (ex0 : Int32) (ex1 : Nat → Int32) (ex2 : Nat → Int32), ¬ x1 < 0 ∧ ¬ 1100 < x1 ∧ ¬ x2 < 0 ∧ x2 ≤ 3 ∧ x1 ≤ 1080 ∧ ¬ x1 ≤ 0 ∧ (((-1) < (-x1.toInt) ∧ ex0.toInt = 2) ∨ ((-x1.toInt) ≤ (-1) ∧ ex0.toInt = 2 + 1 * ((-1) - (-x1.toInt) + 1))) ∧ 2 ≤ ex0 ∧ ex0 ≤ 1082 ∧ ex0 = r ∧ q_un ws u [kO0, kA1, kA2, kA3, kA6, kA7] ∧ u[kO0]? = (some (qO0, .inr (15, [.int 0, .ref qA1, .ref qA2, .ref qA3, .ref qA4, .ref qA5, .ref qA6, .ref qA7, .int ex0, .int 0, .int 0, .long 0, .int 52, .int 2047, .long 0, .int (-1074), .long 0, .int 0])) : Option (Nat × va_E)) ∧ u[kA1]? = (some (qA1, .inl (g 0, 156, .inl ex1)) : Option (Nat × va_E)) ∧ u[kA2]? = (some (qA2, .inl (g 0, 156, .inl (fun _ => 0))) : Option (Nat × va_E)) ∧ u[kA3]? = (some (qA3, .inl (g 0, 1404, .inl (fun _ => 0))) : Option (Nat × va_E)) ∧ u[kA6]? = (some (qA6, .inl (g 0, 1404, .inl (fun _ => 0))) : Option (Nat × va_E)) ∧ u[kA7]? = (some (qA7, .inl (g 0, 1600, .inl ex2)) : Option (Nat × va_E))) ∨ (∃ (ex0 : Int32) (ex1 : Nat → Int32) (ex2 : Nat → Int32), ¬ x1 < 0 ∧ ¬ 1100 < x1 ∧ ¬ x2 < 0 ∧ x2 ≤ 3 ∧ ¬ x1 ≤ 1080 ∧ (((-1) < (-x1.toInt) ∧ ex0.toInt = 2) ∨ ((-x1.toInt) ≤ (-1) ∧ ex0.toInt = 2 + 1 * ((-1) - (-x1.toInt) + 1))) ∧ 2 ≤ ex0 ∧ ex0 ≤ 1102 ∧ ex0 = r ∧ q_un ws u [kO0, kA1, kA2, kA3, kA6, kA7] ∧ u[kO0]? = (some (qO0, .inr (15, [.int 0, .ref qA1, .ref qA2, .ref qA3, .ref qA4, .ref qA5, .ref qA6, .ref qA7, .int ex0, .int 0, .int 0, .long 0, .int 52, .int 2047, .long 0, .int (-1074), .long 0, .int 0])) : Option (Nat × va_E)) ∧ u[kA1]? = (some (qA1, .inl (g 0, 156, .inl ex1)) : Option (Nat × va_E)) ∧ u[kA2]? = (some (qA2, .inl (g 0, 156, .inl (fun _ => 0))) : Option (Nat × va_E)) ∧ u[kA3]? = (some (qA3, .inl (g 0, 1404, .inl (fun _ => 0))) : Option (Nat × va_E)) ∧ u[kA6]? = (some (qA6, .inl (g 0, 1404, .inl (fun _ => 0))) : Option (Nat × va_E)) ∧ u[kA7]? = (some (qA7, .inl (g 0, 1600, .inl ex2)) : Option (Nat × va_E))) ∨ (¬ x1 < 0 ∧ ¬ 1100 < x1 ∧ ¬ x2 < 0 ∧ ¬ x2 ≤ 3 ∧ 0 = r ∧ q_un ws u [kO0, kA1, kA2, kA3, kA6, kA7] ∧ u[kO0]? = (some (qO0, .inr (15, [.int 1, .ref qA1, .ref qA2, .ref qA3, .ref qA4, .ref qA5, .ref qA6, .ref qA7, .int 0, .int 0, .int 0, .long 0, .int 52, .int 2047, .long 0, .int (-1074), .long 0, .int 0])) : Option (Nat × va_E)) ∧ u[kA1]? = (some (qA1, .inl (g 0, 156, .inl (fun _ => 0))) : Option (Nat × va_E)) ∧ u[kA2]? = (some (qA2, .inl (g 0, 156, .inl (fun _ => 0))) : Option (Nat × va_E)) ∧ u[kA3]? = (some (qA3, .inl (g 0, 1404, .inl (fun _ => 0))) : Option (Nat × va_E)) ∧ u[kA6]? = (some (qA6, .inl (g 0, 1404, .inl (fun _ => 0))) : Option (Nat × va_E)) ∧ u[kA7]? = (some (qA7, .inl (g 0, 1600, .inl (fun _ => 0))) : Option (Nat × va_E)))) := by
  intro sz
  refine q_into (by decide) (Nat.le_of_ble_eq_true rfl) ?_
  intro p e s m below meth c ls hsz C0 V hl
  have hx := C0.1
  have hb := C0.2.1
  have hl : lv_has ls 9 [(0, .ref qO0), (1, .long 0), (3, .int 0), (4, .int x1), (5, .int x2)] := hl
  have n_A1_O0 := q_df hA1 hO0
  have n_A2_O0 := q_df hA2 hO0
  have n_A3_O0 := q_df hA3 hO0
  have n_A6_A1 := Ne.symm n_A1_A6
  have n_A6_A2 := Ne.symm n_A2_A6
  have n_A6_A3 := Ne.symm n_A3_A6
  have n_A6_O0 := q_df hA6 hO0
  have n_A7_A1 := Ne.symm n_A1_A7
  have n_A7_A2 := Ne.symm n_A2_A7
  have n_A7_A3 := Ne.symm n_A3_A7
  have n_A7_A6 := Ne.symm n_A6_A7
  have n_A7_O0 := q_df hA7 hO0
  have n_O0_A1 := Ne.symm (q_df hA1 hO0)
  have n_O0_A2 := Ne.symm (q_df hA2 hO0)
  have n_O0_A3 := Ne.symm (q_df hA3 hO0)
  have n_O0_A6 := Ne.symm (q_df hA6 hO0)
  have hF : q_un ws ws [kO0, kA1, kA2, kA3, kA6, kA7] := q_u0
  refine lv_aload_n hx hb d_17_29_0 rfl (lv_at hl 0 rfl) ?_
  refine lv_lload_n hx hb d_17_29_1 rfl (lv_at hl 1 rfl) ?_
  refine lv_iload_n hx hb d_17_29_2 rfl (lv_at hl 2 rfl) ?_
  refine lv_if_eq (tgt := 18) hx hb d_17_29_3 (by decide) (fun c1 => ?_) (fun c1 => absurd (by decide) c1)
  refine lv_iconst (v := 0) hx hb d_17_29_18 (by decide) ?_
  refine q_gov V (q_runV (As := [.long 0, .int 0]) (rest := []) (d := 1) (mc := 0) (ms := 0) (ci := 15) C0 V rfl LV_FR_126 (c_FR_open l D g ws kO0 qO0 qA1 qA2 qA3 qA4 qA5 qA6 qA7 hO0 _) rfl rfl hO0 rfl hl.1 rfl (Nat.le_of_ble_eq_true rfl) ⟨by decide, by decide⟩ ⟨Nat.le_of_ble_eq_true rfl, Nat.le_of_ble_eq_true rfl⟩ d_17_29_19) (fun u3 H locs hp2 V => ?_)
  obtain ⟨hg4, hO0⟩ := hp2
  replace hF := q_uc hF hg4 (q_sc (.head _) (fun _ h => absurd h List.not_mem_nil))
  refine lv_aload_n hx hb d_17_29_22 rfl (lv_at hl 0 rfl) ?_
  refine lv_lload_n hx hb d_17_29_23 rfl (lv_at hl 1 rfl) ?_
  refine lv_iload_n hx hb d_17_29_24 rfl (lv_at hl 2 rfl) ?_
  refine q_goi V (q_runS (As := [.long 0, .int 0]) (rest := [.ref qO0]) (d := 1) (mc := 0) (ms := 0) C0 V rfl LS_FR_122 (c_FR_isWrong l D g u3 _) rfl hl.1 rfl (Nat.le_of_ble_eq_true rfl) ⟨by decide, by decide⟩ ⟨Nat.le_of_ble_eq_true rfl, Nat.le_of_ble_eq_true rfl⟩ d_17_29_25) (fun v7 u6 H locs hp5 V => ?_)
  obtain ⟨rfl, rfl⟩ := hp5
  refine lv_if_ne (tgt := 55) hx hb d_17_29_28 (by decide) (fun c9 => absurd (by decide) c9) (fun c9 => ?_)
  refine lv_iload hx hb d_17_29_31 (lv_at hl 3 rfl) ?_
  refine lv_if_lt (tgt := 55) hx hb d_17_29_33 (by decide) (fun c10 => ?_) (fun c10 => ?_)
  ·
    refine lv_iconst (v := 1) hx hb d_17_29_55 (by decide) ?_
    refine lv_goto (tgt := 71) hx hb d_17_29_56 (by decide) ?_
    refine q_put (ci := 15) (j := 0) (v := .int 1) (ty := .int) C0 V i_FR o_FR n_FR rfl rfl hO0 (by decide) w_2074 rfl rfl rfl rfl (Nat.le_of_ble_eq_true rfl) d_17_29_71 (fun H locs w11 hu12 hO0 V => ?_)
    replace hO0 : w11[kO0]? = (some (qO0, .inr (15, [.int 1, .ref qA1, .ref qA2, .ref qA3, .ref qA4, .ref qA5, .ref qA6, .ref qA7, .int 0, .int 0, .int 0, .long 0, .int 52, .int 2047, .long 0, .int (-1074), .long 0, .int 0])) : Option (Nat × va_E)) := hO0
    replace hF := q_us hF hu12 (.head _)
    refine lv_aload_n hx hb d_17_29_74 rfl (lv_at hl 0 rfl) ?_
    refine q_get (ci := 15) (j := 0) (v := .int 1) C0 V i_FR rfl rfl hO0 (by decide) w_2074 rfl d_17_29_75 ?_
    refine lv_if_le (tgt := 83) hx hb d_17_29_78 (by decide) (fun c13 => absurd c13 (by decide)) (fun c13 => ?_)
    refine lv_iconst (v := 0) hx hb d_17_29_81 (by decide) ?_
    replace hA1 := (hu12 _ n_A1_O0).trans ((hg4 _ (q_nc n_A1_O0 List.not_mem_nil)).trans (hA1))
    replace hA2 := (hu12 _ n_A2_O0).trans ((hg4 _ (q_nc n_A2_O0 List.not_mem_nil)).trans (hA2))
    replace hA3 := (hu12 _ n_A3_O0).trans ((hg4 _ (q_nc n_A3_O0 List.not_mem_nil)).trans (hA3))
    replace hA6 := (hu12 _ n_A6_O0).trans ((hg4 _ (q_nc n_A6_O0 List.not_mem_nil)).trans (hA6))
    replace hA7 := (hu12 _ n_A7_O0).trans ((hg4 _ (q_nc n_A7_O0 List.not_mem_nil)).trans (hA7))
    exact q_reti C0 V (Or.inl ⟨c10, rfl, hF, hO0, hA1, hA2, hA3, hA6, hA7⟩) d_17_29_82
  ·
    refine lv_iload hx hb d_17_29_36 (lv_at hl 3 rfl) ?_
    refine lv_sipush (v := 1100) hx hb d_17_29_38 (by decide) ?_
    refine lv_icmp_gt (tgt := 55) hx hb d_17_29_41 (by decide) (fun c14 => ?_) (fun c14 => ?_)
    ·
      refine lv_iconst (v := 1) hx hb d_17_29_55 (by decide) ?_
      refine lv_goto (tgt := 71) hx hb d_17_29_56 (by decide) ?_
      refine q_put (ci := 15) (j := 0) (v := .int 1) (ty := .int) C0 V i_FR o_FR n_FR rfl rfl hO0 (by decide) w_2074 rfl rfl rfl rfl (Nat.le_of_ble_eq_true rfl) d_17_29_71 (fun H locs w15 hu16 hO0 V => ?_)
      replace hO0 : w15[kO0]? = (some (qO0, .inr (15, [.int 1, .ref qA1, .ref qA2, .ref qA3, .ref qA4, .ref qA5, .ref qA6, .ref qA7, .int 0, .int 0, .int 0, .long 0, .int 52, .int 2047, .long 0, .int (-1074), .long 0, .int 0])) : Option (Nat × va_E)) := hO0
      replace hF := q_us hF hu16 (.head _)
      refine lv_aload_n hx hb d_17_29_74 rfl (lv_at hl 0 rfl) ?_
      refine q_get (ci := 15) (j := 0) (v := .int 1) C0 V i_FR rfl rfl hO0 (by decide) w_2074 rfl d_17_29_75 ?_
      refine lv_if_le (tgt := 83) hx hb d_17_29_78 (by decide) (fun c17 => absurd c17 (by decide)) (fun c17 => ?_)
      refine lv_iconst (v := 0) hx hb d_17_29_81 (by decide) ?_
      replace hA1 := (hu16 _ n_A1_O0).trans ((hg4 _ (q_nc n_A1_O0 List.not_mem_nil)).trans (hA1))
      replace hA2 := (hu16 _ n_A2_O0).trans ((hg4 _ (q_nc n_A2_O0 List.not_mem_nil)).trans (hA2))
      replace hA3 := (hu16 _ n_A3_O0).trans ((hg4 _ (q_nc n_A3_O0 List.not_mem_nil)).trans (hA3))
      replace hA6 := (hu16 _ n_A6_O0).trans ((hg4 _ (q_nc n_A6_O0 List.not_mem_nil)).trans (hA6))
      replace hA7 := (hu16 _ n_A7_O0).trans ((hg4 _ (q_nc n_A7_O0 List.not_mem_nil)).trans (hA7))
      exact q_reti C0 V (Or.inr (Or.inl ⟨c10, c14, rfl, hF, hO0, hA1, hA2, hA3, hA6, hA7⟩)) d_17_29_82
    ·
      refine lv_iload hx hb d_17_29_44 (lv_at hl 4 rfl) ?_
      refine lv_if_lt (tgt := 55) hx hb d_17_29_46 (by decide) (fun c18 => ?_) (fun c18 => ?_)
      ·
        refine lv_iconst (v := 1) hx hb d_17_29_55 (by decide) ?_
        refine lv_goto (tgt := 71) hx hb d_17_29_56 (by decide) ?_
        refine q_put (ci := 15) (j := 0) (v := .int 1) (ty := .int) C0 V i_FR o_FR n_FR rfl rfl hO0 (by decide) w_2074 rfl rfl rfl rfl (Nat.le_of_ble_eq_true rfl) d_17_29_71 (fun H locs w19 hu20 hO0 V => ?_)
        replace hO0 : w19[kO0]? = (some (qO0, .inr (15, [.int 1, .ref qA1, .ref qA2, .ref qA3, .ref qA4, .ref qA5, .ref qA6, .ref qA7, .int 0, .int 0, .int 0, .long 0, .int 52, .int 2047, .long 0, .int (-1074), .long 0, .int 0])) : Option (Nat × va_E)) := hO0
        replace hF := q_us hF hu20 (.head _)
        refine lv_aload_n hx hb d_17_29_74 rfl (lv_at hl 0 rfl) ?_
        refine q_get (ci := 15) (j := 0) (v := .int 1) C0 V i_FR rfl rfl hO0 (by decide) w_2074 rfl d_17_29_75 ?_
        refine lv_if_le (tgt := 83) hx hb d_17_29_78 (by decide) (fun c21 => absurd c21 (by decide)) (fun c21 => ?_)
        refine lv_iconst (v := 0) hx hb d_17_29_81 (by decide) ?_
        replace hA1 := (hu20 _ n_A1_O0).trans ((hg4 _ (q_nc n_A1_O0 List.not_mem_nil)).trans (hA1))
        replace hA2 := (hu20 _ n_A2_O0).trans ((hg4 _ (q_nc n_A2_O0 List.not_mem_nil)).trans (hA2))
        replace hA3 := (hu20 _ n_A3_O0).trans ((hg4 _ (q_nc n_A3_O0 List.not_mem_nil)).trans (hA3))
        replace hA6 := (hu20 _ n_A6_O0).trans ((hg4 _ (q_nc n_A6_O0 List.not_mem_nil)).trans (hA6))
        replace hA7 := (hu20 _ n_A7_O0).trans ((hg4 _ (q_nc n_A7_O0 List.not_mem_nil)).trans (hA7))
        exact q_reti C0 V (Or.inr (Or.inr (Or.inl ⟨c10, c14, c18, rfl, hF, hO0, hA1, hA2, hA3, hA6, hA7⟩))) d_17_29_82
      ·
        refine lv_iload hx hb d_17_29_49 (lv_at hl 4 rfl) ?_
        refine lv_iconst (v := 3) hx hb d_17_29_51 (by decide) ?_
        refine lv_icmp_le (tgt := 59) hx hb d_17_29_52 (by decide) (fun c22 => ?_) (fun c22 => ?_)
        ·
          refine lv_aload_n hx hb d_17_29_59 rfl (lv_at hl 0 rfl) ?_
          refine q_goi V (q_runV (As := []) (rest := [.ref qO0]) (d := 1) (mc := 0) (ms := 0) (ci := 15) C0 V rfl LV_FR_130 (c_FR_isFinite l D g u3 kO0 qO0 qA1 qA2 qA3 qA4 qA5 qA6 qA7 hO0 _) rfl rfl hO0 rfl hl.1 rfl (Nat.le_of_ble_eq_true rfl) ⟨by decide, by decide⟩ ⟨Nat.le_of_ble_eq_true rfl, Nat.le_of_ble_eq_true rfl⟩ d_17_29_60) (fun v25 u24 H locs hp23 V => ?_)
          obtain ⟨rfl, rfl⟩ := hp23
          refine lv_if_ne (tgt := 70) hx hb d_17_29_63 (by decide) (fun c27 => ?_) (fun c27 => absurd c27 (by decide))
          refine lv_iconst (v := 0) hx hb d_17_29_70 (by decide) ?_
          refine q_put (ci := 15) (j := 0) (v := .int 0) (ty := .int) C0 V i_FR o_FR n_FR rfl rfl hO0 (by decide) w_2074 rfl rfl rfl rfl (Nat.le_of_ble_eq_true rfl) d_17_29_71 (fun H locs w28 hu29 hO0 V => ?_)
          replace hO0 : w28[kO0]? = (some (qO0, .inr (15, [.int 0, .ref qA1, .ref qA2, .ref qA3, .ref qA4, .ref qA5, .ref qA6, .ref qA7, .int 0, .int 0, .int 0, .long 0, .int 52, .int 2047, .long 0, .int (-1074), .long 0, .int 0])) : Option (Nat × va_E)) := hO0
          replace hF := q_us hF hu29 (.head _)
          refine lv_aload_n hx hb d_17_29_74 rfl (lv_at hl 0 rfl) ?_
          refine q_get (ci := 15) (j := 0) (v := .int 0) C0 V i_FR rfl rfl hO0 (by decide) w_2074 rfl d_17_29_75 ?_
          refine lv_if_le (tgt := 83) hx hb d_17_29_78 (by decide) (fun c30 => ?_) (fun c30 => absurd (by decide) c30)
          refine lv_aload_n hx hb d_17_29_83 rfl (lv_at hl 0 rfl) ?_
          replace hA1 := (hu29 _ n_A1_O0).trans ((hg4 _ (q_nc n_A1_O0 List.not_mem_nil)).trans (hA1))
          replace hA2 := (hu29 _ n_A2_O0).trans ((hg4 _ (q_nc n_A2_O0 List.not_mem_nil)).trans (hA2))
          replace hA3 := (hu29 _ n_A3_O0).trans ((hg4 _ (q_nc n_A3_O0 List.not_mem_nil)).trans (hA3))
          refine q_gov V (q_runV (As := []) (rest := []) (d := 2) (mc := 0) (ms := 0) (ci := 15) C0 V rfl LV_FR_162 (c_FR_setValue l D g w28 kO0 kA1 kA2 kA3 qO0 qA1 qA2 qA3 qA4 qA5 qA6 qA7 hO0 hA1 hA2 hA3 n_A1_A2 n_A1_A3 n_A3_A2 _) rfl rfl hO0 rfl hl.1 rfl (Nat.le_of_ble_eq_true rfl) ⟨by decide, by decide⟩ ⟨Nat.le_of_ble_eq_true rfl, Nat.le_of_ble_eq_true rfl⟩ d_17_29_84) (fun u32 H locs hp31 V => ?_)
          obtain ⟨y33, hg34, hA1, hA2, hA3⟩ := hp31
          replace hF := q_uc hF hg34 (q_sc (.tail _ (.head _)) (q_sc (.tail _ (.tail _ (.head _))) (q_sc (List.mem_of_getElem? (i := 3) rfl) (fun _ h => absurd h List.not_mem_nil))))
          refine lv_iload hx hb d_17_29_87 (lv_at hl 3 rfl) ?_
          refine lv_sipush (v := 1080) hx hb d_17_29_89 (by decide) ?_
          refine lv_icmp_le (tgt := 99) hx hb d_17_29_92 (by decide) (fun c35 => ?_) (fun c35 => ?_)
          ·
            refine lv_sipush (v := 1080) hx hb d_17_29_99 (by decide) ?_
            refine lv_iload hx hb d_17_29_102 (lv_at hl 3 rfl) ?_
            refine lv_isub hx hb d_17_29_104 ?_
            refine lv_istore (lv' := [(6, .int (1080 - x1)), (0, .ref qO0), (1, .long 0), (3, .int 0), (4, .int x1), (5, .int x2)]) hx hb d_17_29_105 hl (by decide) rfl (fun ls hl => ?_)
            refine lv_aload_n hx hb d_17_29_107 rfl (lv_at hl 1 rfl) ?_
            refine lv_iload hx hb d_17_29_108 (lv_at hl 0 rfl) ?_
            refine lv_aload_n hx hb d_17_29_110 rfl (lv_at hl 1 rfl) ?_
            refine lv_iload hx hb d_17_29_111 (lv_at hl 0 rfl) ?_
            refine lv_iload hx hb d_17_29_113 (lv_at hl 5 rfl) ?_
            replace hO0 := (hg34 _ (q_nc n_O0_A1 (q_nc n_O0_A2 (q_nc n_O0_A3 List.not_mem_nil)))).trans (hO0)
            refine q_goi V (q_runV (As := [.int (1080 - x1), .int x2]) (rest := [.int (1080 - x1), .ref qO0]) (d := 1) (mc := 0) (ms := 0) (ci := 15) C0 V rfl LV_FR_165 (c_FR_isMore_5 l D g u32 kO0 kA3 qO0 qA1 qA2 qA3 qA4 qA5 qA6 qA7 (1080 - x1) x2 hO0 hA3 (q_Ile (x := 0) (y := (1080 - x1.toInt)) (by decide) (q_subI (x := 1080) (y := x1.toInt) (by decide) rfl (by have t1 : 0 ≤ x1.toInt := q_nltI c10; have t2 : x1.toInt ≤ 1100 := q_nltI c14; have t3 : x1.toInt ≤ 1080 := q_leI c35; omega) (by have t1 : 0 ≤ x1.toInt := q_nltI c10; have t2 : x1.toInt ≤ 1100 := q_nltI c14; have t3 : x1.toInt ≤ 1080 := q_leI c35; omega)) (by have t1 : 0 ≤ x1.toInt := q_nltI c10; have t2 : x1.toInt ≤ 1100 := q_nltI c14; have t3 : x1.toInt ≤ 1080 := q_leI c35; omega)) (q_Ile (x := (1080 - x1.toInt)) (y := 1080) (q_subI (x := 1080) (y := x1.toInt) (by decide) rfl (by have t1 : 0 ≤ x1.toInt := q_nltI c10; have t2 : x1.toInt ≤ 1100 := q_nltI c14; have t3 : x1.toInt ≤ 1080 := q_leI c35; omega) (by have t1 : 0 ≤ x1.toInt := q_nltI c10; have t2 : x1.toInt ≤ 1100 := q_nltI c14; have t3 : x1.toInt ≤ 1080 := q_leI c35; omega)) (by decide) (by have t1 : 0 ≤ x1.toInt := q_nltI c10; have t2 : x1.toInt ≤ 1100 := q_nltI c14; have t3 : x1.toInt ≤ 1080 := q_leI c35; omega)) (q_Ile (x := 0) (y := x2.toInt) (by decide) rfl (by have t1 : 0 ≤ x2.toInt := q_nltI c18; have t2 : x2.toInt ≤ 3 := q_leI c22; omega)) c22 _) rfl rfl hO0 rfl hl.1 rfl (Nat.le_of_ble_eq_true rfl) ⟨by decide, by decide⟩ ⟨Nat.le_of_ble_eq_true rfl, Nat.le_of_ble_eq_true rfl⟩ d_17_29_115) (fun v38 u37 H locs hp36 V => ?_)
            obtain ⟨rfl, rfl⟩ := hp36
            replace hA6 := (hg34 _ (q_nc n_A6_A1 (q_nc n_A6_A2 (q_nc n_A6_A3 List.not_mem_nil)))).trans ((hu29 _ n_A6_O0).trans ((hg4 _ (q_nc n_A6_O0 List.not_mem_nil)).trans (hA6)))
            refine q_gov V (q_runV (As := [.int (1080 - x1), .int 0]) (rest := []) (d := 1) (mc := 0) (ms := 0) (ci := 15) C0 V rfl LV_FR_81 (c_FR_cut_5 l D g u32 kO0 kA3 kA6 qO0 qA1 qA2 qA3 qA4 qA5 qA6 qA7 (1080 - x1) hO0 hA3 hA6 n_A3_A6 (q_Ile (x := 0) (y := (1080 - x1.toInt)) (by decide) (q_subI (x := 1080) (y := x1.toInt) (by decide) rfl (by have t1 : 0 ≤ x1.toInt := q_nltI c10; have t2 : x1.toInt ≤ 1100 := q_nltI c14; have t3 : x1.toInt ≤ 1080 := q_leI c35; omega) (by have t1 : 0 ≤ x1.toInt := q_nltI c10; have t2 : x1.toInt ≤ 1100 := q_nltI c14; have t3 : x1.toInt ≤ 1080 := q_leI c35; omega)) (by have t1 : 0 ≤ x1.toInt := q_nltI c10; have t2 : x1.toInt ≤ 1100 := q_nltI c14; have t3 : x1.toInt ≤ 1080 := q_leI c35; omega)) (q_Ile (x := (1080 - x1.toInt)) (y := 1080) (q_subI (x := 1080) (y := x1.toInt) (by decide) rfl (by have t1 : 0 ≤ x1.toInt := q_nltI c10; have t2 : x1.toInt ≤ 1100 := q_nltI c14; have t3 : x1.toInt ≤ 1080 := q_leI c35; omega) (by have t1 : 0 ≤ x1.toInt := q_nltI c10; have t2 : x1.toInt ≤ 1100 := q_nltI c14; have t3 : x1.toInt ≤ 1080 := q_leI c35; omega)) (by decide) (by have t1 : 0 ≤ x1.toInt := q_nltI c10; have t2 : x1.toInt ≤ 1100 := q_nltI c14; have t3 : x1.toInt ≤ 1080 := q_leI c35; omega)) _) rfl rfl hO0 rfl hl.1 rfl (Nat.le_of_ble_eq_true rfl) ⟨by decide, by decide⟩ ⟨Nat.le_of_ble_eq_true rfl, Nat.le_of_ble_eq_true rfl⟩ d_17_29_118) (fun u41 H locs hp40 V => ?_)
            obtain ⟨hg42, hA6⟩ := hp40
            replace hF := q_uc hF hg42 (q_sc (List.mem_of_getElem? (i := 4) rfl) (fun _ h => absurd h List.not_mem_nil))
            refine lv_aload_n hx hb d_17_29_121 rfl (lv_at hl 1 rfl) ?_
            replace hO0 := (hg42 _ (q_nc n_O0_A6 List.not_mem_nil)).trans (hO0)
            refine q_gov V (q_runV (As := []) (rest := []) (d := 1) (mc := 0) (ms := 0) (ci := 15) C0 V rfl LV_FR_113 (c_FR_begin l D g u41 kO0 qO0 qA1 qA2 qA3 qA4 qA5 qA6 qA7 hO0 _) rfl rfl hO0 rfl hl.1 rfl (Nat.le_of_ble_eq_true rfl) ⟨by decide, by decide⟩ ⟨Nat.le_of_ble_eq_true rfl, Nat.le_of_ble_eq_true rfl⟩ d_17_29_122) (fun u44 H locs hp43 V => ?_)
            obtain ⟨hg45, hO0⟩ := hp43
            replace hF := q_uc hF hg45 (q_sc (.head _) (fun _ h => absurd h List.not_mem_nil))
            refine lv_sipush (v := 1403) hx hb d_17_29_125 (by decide) ?_
            refine lv_istore (lv' := [(7, .int 1403), (6, .int (1080 - x1)), (0, .ref qO0), (1, .long 0), (3, .int 0), (4, .int x1), (5, .int x2)]) hx hb d_17_29_128 hl (by decide) rfl (fun ls hl => ?_)
            replace hA1 := (hg45 _ (q_nc n_A1_O0 List.not_mem_nil)).trans ((hg42 _ (q_nc n_A1_A6 List.not_mem_nil)).trans (hA1))
            replace hA2 := (hg45 _ (q_nc n_A2_O0 List.not_mem_nil)).trans ((hg42 _ (q_nc n_A2_A6 List.not_mem_nil)).trans (hA2))
            replace hA3 := (hg45 _ (q_nc n_A3_O0 List.not_mem_nil)).trans ((hg42 _ (q_nc n_A3_A6 List.not_mem_nil)).trans (hA3))
            replace hA6 := (hg45 _ (q_nc n_A6_O0 List.not_mem_nil)).trans (hA6)
            replace hA7 := (hg45 _ (q_nc n_A7_O0 List.not_mem_nil)).trans ((hg42 _ (q_nc n_A7_A6 List.not_mem_nil)).trans ((hg34 _ (q_nc n_A7_A1 (q_nc n_A7_A2 (q_nc n_A7_A3 List.not_mem_nil)))).trans ((hu29 _ n_A7_O0).trans ((hg4 _ (q_nc n_A7_O0 List.not_mem_nil)).trans (hA7)))))
            refine q_loop (X := Int32) (fun z H locs ls w47 => (1080 ≤ z.toInt ∧ z.toInt ≤ 1403) ∧ q_Wd D g (va_A ws sz) s w47 H locs ∧ lv_has ls 9 [(7, .int z), (6, .int (1080 - x1)), (0, .ref qO0), (1, .long 0), (3, .int 0), (4, .int x1), (5, .int x2)] ∧ q_un ws w47 [kO0, kA1, kA2, kA3, kA6, kA7] ∧ w47[kO0]? = (some (qO0, .inr (15, [.int 0, .ref qA1, .ref qA2, .ref qA3, .ref qA4, .ref qA5, .ref qA6, .ref qA7, .int 0, .int 0, .int 0, .long 0, .int 52, .int 2047, .long 0, .int (-1074), .long 0, .int 0])) : Option (Nat × va_E)) ∧ w47[kA1]? = (some (qA1, .inl (g 0, 156, .inl y33)) : Option (Nat × va_E)) ∧ w47[kA2]? = (some (qA2, .inl (g 0, 156, .inl (fun _ => 0))) : Option (Nat × va_E)) ∧ w47[kA3]? = (some (qA3, .inl (g 0, 1404, .inl (fun _ => 0))) : Option (Nat × va_E)) ∧ w47[kA6]? = (some (qA6, .inl (g 0, 1404, .inl (fun _ => 0))) : Option (Nat × va_E)) ∧ w47[kA7]? = (some (qA7, .inl (g 0, 1600, .inl (fun _ => 0))) : Option (Nat × va_E))) (fun z => (z.toInt - 1080).toNat) ?_ ((1403 : Int32)) _ _ _ u44 ⟨⟨by decide, by decide⟩, V, hl, hF, hO0, hA1, hA2, hA3, hA6, hA7⟩
            rintro lx46 H locs ls w47 ⟨i48, V, hl, hF, hO0, hA1, hA2, hA3, hA6, hA7⟩ ih49
            replace i48 : 1080 ≤ lx46.toInt ∧ lx46.toInt ≤ 1403 := i48
            replace hl : lv_has ls 9 [(7, .int lx46), (6, .int (1080 - x1)), (0, .ref qO0), (1, .long 0), (3, .int 0), (4, .int x1), (5, .int x2)] := hl
            replace hO0 : w47[kO0]? = (some (qO0, .inr (15, [.int 0, .ref qA1, .ref qA2, .ref qA3, .ref qA4, .ref qA5, .ref qA6, .ref qA7, .int 0, .int 0, .int 0, .long 0, .int 52, .int 2047, .long 0, .int (-1074), .long 0, .int 0])) : Option (Nat × va_E)) := hO0
            replace hA1 : w47[kA1]? = (some (qA1, .inl (g 0, 156, .inl y33)) : Option (Nat × va_E)) := hA1
            replace hA2 : w47[kA2]? = (some (qA2, .inl (g 0, 156, .inl (fun _ => 0))) : Option (Nat × va_E)) := hA2
            replace hA3 : w47[kA3]? = (some (qA3, .inl (g 0, 1404, .inl (fun _ => 0))) : Option (Nat × va_E)) := hA3
            replace hA6 : w47[kA6]? = (some (qA6, .inl (g 0, 1404, .inl (fun _ => 0))) : Option (Nat × va_E)) := hA6
            replace hA7 : w47[kA7]? = (some (qA7, .inl (g 0, 1600, .inl (fun _ => 0))) : Option (Nat × va_E)) := hA7
            refine lv_iload hx hb d_17_29_130 (lv_at hl 0 rfl) ?_
            refine lv_sipush (v := 1080) hx hb d_17_29_132 (by decide) ?_
            refine lv_icmp_le (tgt := 154) hx hb d_17_29_135 (by decide) (fun c50 => ?_) (fun c50 => ?_)
            ·
              refine lv_iload hx hb d_17_29_154 (lv_at hl 0 rfl) ?_
              refine q_ti (v := 1080) (q_Ieq (x := lx46.toInt) (y := 1080) rfl (by decide) (by have t1 : lx46.toInt ≤ 1080 := q_leI c50; omega)) ?_
              refine lv_sipush (v := 1080) hx hb d_17_29_156 (by decide) ?_
              refine lv_isub hx hb d_17_29_159 ?_
              refine q_ti (v := 0) (by decide) ?_
              refine lv_istore (lv' := [(8, .int 0), (7, .int lx46), (6, .int (1080 - x1)), (0, .ref qO0), (1, .long 0), (3, .int 0), (4, .int x1), (5, .int x2)]) hx hb d_17_29_160 hl (by decide) rfl (fun ls hl => ?_)
              refine lv_iload hx hb d_17_29_162 (lv_at hl 0 rfl) ?_
              refine lv_if_lt (tgt := 186) hx hb d_17_29_164 (by decide) (fun c51 => absurd c51 (by decide)) (fun c51 => ?_)
              refine lv_aload_n hx hb d_17_29_167 rfl (lv_at hl 3 rfl) ?_
              refine lv_bipush (v := 48) hx hb d_17_29_168 (by decide) ?_
              refine lv_aload_n hx hb d_17_29_170 rfl (lv_at hl 3 rfl) ?_
              refine lv_iload hx hb d_17_29_171 (lv_at hl 0 rfl) ?_
              refine q_goi V (q_runV (As := [.int 0]) (rest := [.int 48, .ref qO0]) (d := 1) (mc := 0) (ms := 0) (ci := 15) C0 V rfl LV_FR_169 (c_FR_figureAt l D g w47 kO0 kA6 qO0 qA1 qA2 qA3 qA4 qA5 qA6 qA7 hO0 hA6 _) rfl rfl hO0 rfl hl.1 rfl (Nat.le_of_ble_eq_true rfl) ⟨by decide, by decide⟩ ⟨Nat.le_of_ble_eq_true rfl, Nat.le_of_ble_eq_true rfl⟩ d_17_29_173) (fun v54 u53 H locs hp52 V => ?_)
              obtain ⟨rfl, rfl⟩ := hp52
              refine lv_iadd hx hb d_17_29_176 ?_
              refine q_ti (v := 48) (by decide) ?_
              refine q_gov V (q_runV (As := [.int 48]) (rest := []) (d := 1) (mc := 0) (ms := 0) (ci := 15) C0 V rfl LV_FR_110 (c_FR_add l D g w47 kO0 kA7 qO0 qA1 qA2 qA3 qA4 qA5 qA6 qA7 hO0 hA7 _) rfl rfl hO0 rfl hl.1 rfl (Nat.le_of_ble_eq_true rfl) ⟨by decide, by decide⟩ ⟨Nat.le_of_ble_eq_true rfl, Nat.le_of_ble_eq_true rfl⟩ d_17_29_177) (fun u57 H locs hp56 V => ?_)
              obtain ⟨hg58, hO0, hA7⟩ := hp56
              replace hF := q_uc hF hg58 (q_sc (.head _) (q_sc (List.mem_of_getElem? (i := 5) rfl) (fun _ h => absurd h List.not_mem_nil)))
              refine lv_iinc (v := (-1)) (lv' := [(8, .int (-1)), (7, .int lx46), (6, .int (1080 - x1)), (0, .ref qO0), (1, .long 0), (3, .int 0), (4, .int x1), (5, .int x2)]) hx hb d_17_29_180 hl (k := 0) rfl (by decide) (by decide) rfl (fun ls hl => ?_)
              refine lv_goto (tgt := 162) hx hb d_17_29_183 (by decide) ?_
              refine lv_iload hx hb d_17_29_162 (lv_at hl 0 rfl) ?_
              refine lv_if_lt (tgt := 186) hx hb d_17_29_164 (by decide) (fun c59 => ?_) (fun c59 => absurd (by decide) c59)
              refine lv_iload hx hb d_17_29_186 (lv_at hl 6 rfl) ?_
              refine lv_if_le (tgt := 197) hx hb d_17_29_188 (by decide) (fun c60 => ?_) (fun c60 => ?_)
              ·
                refine lv_iconst (v := (-1)) hx hb d_17_29_197 (by decide) ?_
                refine lv_istore (lv' := [(8, .int (-1)), (7, .int lx46), (6, .int (1080 - x1)), (0, .ref qO0), (1, .long 0), (3, .int 0), (4, .int x1), (5, .int x2)]) hx hb d_17_29_198 hl (by decide) rfl (fun ls hl => ?_)
                refine lv_iload hx hb d_17_29_200 (lv_at hl 0 rfl) ?_
                refine lv_iload hx hb d_17_29_202 (lv_at hl 6 rfl) ?_
                refine q_ti (v := 0) (q_Ieq (x := x1.toInt) (y := 0) rfl (by decide) (by have t1 : 0 ≤ x1.toInt := q_nltI c10; have t2 : x1.toInt ≤ 1100 := q_nltI c14; have t3 : x1.toInt ≤ 1080 := q_leI c35; have t4 : x1.toInt ≤ 0 := q_leI c60; omega)) ?_
                refine lv_ineg hx hb d_17_29_204 ?_
                refine q_ti (v := 0) (by decide) ?_
                refine lv_icmp_lt (tgt := 227) hx hb d_17_29_205 (by decide) (fun c61 => ?_) (fun c61 => absurd (by decide) c61)
                refine lv_aload_n hx hb d_17_29_227 rfl (lv_at hl 3 rfl) ?_
                refine q_get (ci := 15) (j := 8) (v := .int 1) C0 V i_FR rfl rfl hO0 (by decide) w_2084 rfl d_17_29_228 ?_
                replace hA1 := (hg58 _ (q_nc n_A1_O0 (q_nc n_A1_A7 List.not_mem_nil))).trans (hA1)
                replace hA2 := (hg58 _ (q_nc n_A2_O0 (q_nc n_A2_A7 List.not_mem_nil))).trans (hA2)
                replace hA3 := (hg58 _ (q_nc n_A3_O0 (q_nc n_A3_A7 List.not_mem_nil))).trans (hA3)
                replace hA6 := (hg58 _ (q_nc n_A6_O0 (q_nc n_A6_A7 List.not_mem_nil))).trans (hA6)
                exact q_reti C0 V (Or.inr (Or.inr (Or.inr (Or.inl ⟨y33, c10, c14, c18, c22, c35, c60, rfl, hF, hO0, hA1, hA2, hA3, hA6, hA7⟩)))) d_17_29_231
              ·
                refine lv_aload_n hx hb d_17_29_191 rfl (lv_at hl 3 rfl) ?_
                refine lv_bipush (v := 46) hx hb d_17_29_192 (by decide) ?_
                refine q_gov V (q_runV (As := [.int 46]) (rest := []) (d := 1) (mc := 0) (ms := 0) (ci := 15) C0 V rfl LV_FR_110 (c_FR_add_2 l D g u57 kO0 kA7 qO0 qA1 qA2 qA3 qA4 qA5 qA6 qA7 hO0 hA7 _) rfl rfl hO0 rfl hl.1 rfl (Nat.le_of_ble_eq_true rfl) ⟨by decide, by decide⟩ ⟨Nat.le_of_ble_eq_true rfl, Nat.le_of_ble_eq_true rfl⟩ d_17_29_194) (fun u63 H locs hp62 V => ?_)
                obtain ⟨hg64, hO0, hA7⟩ := hp62
                replace hF := q_uc hF hg64 (q_sc (.head _) (q_sc (List.mem_of_getElem? (i := 5) rfl) (fun _ h => absurd h List.not_mem_nil)))
                refine lv_iconst (v := (-1)) hx hb d_17_29_197 (by decide) ?_
                refine lv_istore (lv' := [(8, .int (-1)), (7, .int lx46), (6, .int (1080 - x1)), (0, .ref qO0), (1, .long 0), (3, .int 0), (4, .int x1), (5, .int x2)]) hx hb d_17_29_198 hl (by decide) rfl (fun ls hl => ?_)
                replace hA1 := (hg64 _ (q_nc n_A1_O0 (q_nc n_A1_A7 List.not_mem_nil))).trans ((hg58 _ (q_nc n_A1_O0 (q_nc n_A1_A7 List.not_mem_nil))).trans (hA1))
                replace hA2 := (hg64 _ (q_nc n_A2_O0 (q_nc n_A2_A7 List.not_mem_nil))).trans ((hg58 _ (q_nc n_A2_O0 (q_nc n_A2_A7 List.not_mem_nil))).trans (hA2))
                replace hA3 := (hg64 _ (q_nc n_A3_O0 (q_nc n_A3_A7 List.not_mem_nil))).trans ((hg58 _ (q_nc n_A3_O0 (q_nc n_A3_A7 List.not_mem_nil))).trans (hA3))
                replace hA6 := (hg64 _ (q_nc n_A6_O0 (q_nc n_A6_A7 List.not_mem_nil))).trans ((hg58 _ (q_nc n_A6_O0 (q_nc n_A6_A7 List.not_mem_nil))).trans (hA6))
                refine q_loop (X := Int32 × Int32 × (Nat → Int32)) (fun z H locs ls w68 => (z.1.toInt ≤ (-1) ∧ ((-x1.toInt) - 1 ≤ z.1.toInt ∨ z.1.toInt = (-1))) ∧ (z.2.1.toInt = 2 + 1 * ((-1) - z.1.toInt)) ∧ q_Wd D g (va_A ws sz) s w68 H locs ∧ lv_has ls 9 [(8, .int z.1), (7, .int lx46), (6, .int (1080 - x1)), (0, .ref qO0), (1, .long 0), (3, .int 0), (4, .int x1), (5, .int x2)] ∧ q_un ws w68 [kO0, kA1, kA2, kA3, kA6, kA7] ∧ w68[kO0]? = (some (qO0, .inr (15, [.int 0, .ref qA1, .ref qA2, .ref qA3, .ref qA4, .ref qA5, .ref qA6, .ref qA7, .int z.2.1, .int 0, .int 0, .long 0, .int 52, .int 2047, .long 0, .int (-1074), .long 0, .int 0])) : Option (Nat × va_E)) ∧ w68[kA1]? = (some (qA1, .inl (g 0, 156, .inl y33)) : Option (Nat × va_E)) ∧ w68[kA2]? = (some (qA2, .inl (g 0, 156, .inl (fun _ => 0))) : Option (Nat × va_E)) ∧ w68[kA3]? = (some (qA3, .inl (g 0, 1404, .inl (fun _ => 0))) : Option (Nat × va_E)) ∧ w68[kA6]? = (some (qA6, .inl (g 0, 1404, .inl (fun _ => 0))) : Option (Nat × va_E)) ∧ w68[kA7]? = (some (qA7, .inl (g 0, 1600, .inl z.2.2)) : Option (Nat × va_E))) (fun z => (z.1.toInt - (-x1.toInt) + 1).toNat) ?_ (((-1) : Int32), (2 : Int32), (upd (upd (fun _ => 0) 0 48) 1 46 : (Nat → Int32))) _ _ _ u63 ⟨⟨(by dsimp only; decide), Or.inr (by dsimp only; decide)⟩, (show (2 : Int32).toInt = 2 + 1 * ((-1) - ((-1) : Int32).toInt) from by have t1 : 0 ≤ x1.toInt := q_nltI c10; have t2 : x1.toInt ≤ 1100 := q_nltI c14; have t3 : 0 ≤ x2.toInt := q_nltI c18; have t4 : x2.toInt ≤ 3 := q_leI c22; have t5 : x1.toInt ≤ 1080 := q_leI c35; have t6 : lx46.toInt ≤ 1080 := q_leI c50; have t7 : 0 < x1.toInt := q_nleI c60; have e1 : (2 : Int32).toInt = 2 := (by decide); have e2 : (((-1) : Int32)).toInt = (-1) := (by decide); omega), V, hl, hF, hO0, hA1, hA2, hA3, hA6, hA7⟩
                rintro ⟨lx65, lx66, lx67⟩ H locs ls w68 ⟨i69, i70, V, hl, hF, hO0, hA1, hA2, hA3, hA6, hA7⟩ ih71
                replace i69 : lx65.toInt ≤ (-1) ∧ ((-x1.toInt) - 1 ≤ lx65.toInt ∨ lx65.toInt = (-1)) := i69
                replace i70 : lx66.toInt = 2 + 1 * ((-1) - lx65.toInt) := i70
                replace hl : lv_has ls 9 [(8, .int lx65), (7, .int lx46), (6, .int (1080 - x1)), (0, .ref qO0), (1, .long 0), (3, .int 0), (4, .int x1), (5, .int x2)] := hl
                replace hO0 : w68[kO0]? = (some (qO0, .inr (15, [.int 0, .ref qA1, .ref qA2, .ref qA3, .ref qA4, .ref qA5, .ref qA6, .ref qA7, .int lx66, .int 0, .int 0, .long 0, .int 52, .int 2047, .long 0, .int (-1074), .long 0, .int 0])) : Option (Nat × va_E)) := hO0
                replace hA1 : w68[kA1]? = (some (qA1, .inl (g 0, 156, .inl y33)) : Option (Nat × va_E)) := hA1
                replace hA2 : w68[kA2]? = (some (qA2, .inl (g 0, 156, .inl (fun _ => 0))) : Option (Nat × va_E)) := hA2
                replace hA3 : w68[kA3]? = (some (qA3, .inl (g 0, 1404, .inl (fun _ => 0))) : Option (Nat × va_E)) := hA3
                replace hA6 : w68[kA6]? = (some (qA6, .inl (g 0, 1404, .inl (fun _ => 0))) : Option (Nat × va_E)) := hA6
                replace hA7 : w68[kA7]? = (some (qA7, .inl (g 0, 1600, .inl lx67)) : Option (Nat × va_E)) := hA7
                refine lv_iload hx hb d_17_29_200 (lv_at hl 0 rfl) ?_
                refine lv_iload hx hb d_17_29_202 (lv_at hl 6 rfl) ?_
                refine lv_ineg hx hb d_17_29_204 ?_
                refine lv_icmp_lt (tgt := 227) hx hb d_17_29_205 (by decide) (fun c72 => ?_) (fun c72 => ?_)
                ·
                  refine lv_aload_n hx hb d_17_29_227 rfl (lv_at hl 3 rfl) ?_
                  refine q_get (ci := 15) (j := 8) (v := .int lx66) C0 V i_FR rfl rfl hO0 (by decide) w_2084 rfl d_17_29_228 ?_
                  exact q_reti C0 V (Or.inr (Or.inr (Or.inr (Or.inr (Or.inl ⟨lx66, y33, lx67, c10, c14, c18, c22, c35, c60, (show (((-1) < (-x1.toInt) ∧ lx66.toInt = 2) ∨ ((-x1.toInt) ≤ (-1) ∧ lx66.toInt = 2 + 1 * ((-1) - (-x1.toInt) + 1))) from by have t1 : 0 ≤ x1.toInt := q_nltI c10; have t2 : x1.toInt ≤ 1100 := q_nltI c14; have t3 : 0 ≤ x2.toInt := q_nltI c18; have t4 : x2.toInt ≤ 3 := q_leI c22; have t5 : x1.toInt ≤ 1080 := q_leI c35; have t6 : lx46.toInt ≤ 1080 := q_leI c50; have t7 : 0 < x1.toInt := q_nleI c60; have t8 : lx65.toInt < (-x1.toInt) := by { have e1 : (lx65 : Int32).toInt = lx65.toInt := rfl; have e2 : ((-x1) : Int32).toInt = (-x1.toInt) := (q_negI (x := x1.toInt) rfl (by have t1 : 0 ≤ x1.toInt := q_nltI c10; have t2 : x1.toInt ≤ 1100 := q_nltI c14; have t3 : x1.toInt ≤ 1080 := q_leI c35; have t4 : 0 < x1.toInt := q_nleI c60; omega)); have e3 := q_ltI c72; omega }; have eb : (-x1 : Int32).toInt = (-x1.toInt) := (q_negI (x := x1.toInt) rfl (by have t1 : 0 ≤ x1.toInt := q_nltI c10; have t2 : x1.toInt ≤ 1100 := q_nltI c14; have t3 : x1.toInt ≤ 1080 := q_leI c35; have t4 : 0 < x1.toInt := q_nleI c60; have t5 : lx65.toInt < (-x1.toInt) := by { have e1 : (lx65 : Int32).toInt = lx65.toInt := rfl; have e2 : ((-x1) : Int32).toInt = (-x1.toInt) := (q_negI (x := x1.toInt) rfl (by have t1 : 0 ≤ x1.toInt := q_nltI c10; have t2 : x1.toInt ≤ 1100 := q_nltI c14; have t3 : x1.toInt ≤ 1080 := q_leI c35; have t4 : 0 < x1.toInt := q_nleI c60; omega)); have e3 := q_ltI c72; omega }; omega)); omega), (q_Ile (x := 2) (y := lx66.toInt) (by decide) rfl (by have t1 : 0 ≤ x1.toInt := q_nltI c10; have t2 : x1.toInt ≤ 1100 := q_nltI c14; have t3 : x1.toInt ≤ 1080 := q_leI c35; have t4 : 0 < x1.toInt := q_nleI c60; have t5 : lx65.toInt < (-x1.toInt) := by { have e1 : (lx65 : Int32).toInt = lx65.toInt := rfl; have e2 : ((-x1) : Int32).toInt = (-x1.toInt) := (q_negI (x := x1.toInt) rfl (by have t1 : 0 ≤ x1.toInt := q_nltI c10; have t2 : x1.toInt ≤ 1100 := q_nltI c14; have t3 : x1.toInt ≤ 1080 := q_leI c35; have t4 : 0 < x1.toInt := q_nleI c60; omega)); have e3 := q_ltI c72; omega }; omega)), (q_Ile (x := lx66.toInt) (y := 1082) rfl (by decide) (by have t1 : 0 ≤ x1.toInt := q_nltI c10; have t2 : x1.toInt ≤ 1100 := q_nltI c14; have t3 : x1.toInt ≤ 1080 := q_leI c35; have t4 : 0 < x1.toInt := q_nleI c60; have t5 : lx65.toInt < (-x1.toInt) := by { have e1 : (lx65 : Int32).toInt = lx65.toInt := rfl; have e2 : ((-x1) : Int32).toInt = (-x1.toInt) := (q_negI (x := x1.toInt) rfl (by have t1 : 0 ≤ x1.toInt := q_nltI c10; have t2 : x1.toInt ≤ 1100 := q_nltI c14; have t3 : x1.toInt ≤ 1080 := q_leI c35; have t4 : 0 < x1.toInt := q_nleI c60; omega)); have e3 := q_ltI c72; omega }; omega)), rfl, hF, hO0, hA1, hA2, hA3, hA6, hA7⟩))))) d_17_29_231
                ·
                  refine lv_aload_n hx hb d_17_29_208 rfl (lv_at hl 3 rfl) ?_
                  refine lv_bipush (v := 48) hx hb d_17_29_209 (by decide) ?_
                  refine lv_aload_n hx hb d_17_29_211 rfl (lv_at hl 3 rfl) ?_
                  refine lv_iload hx hb d_17_29_212 (lv_at hl 0 rfl) ?_
                  refine q_goi V (q_runV (As := [.int lx65]) (rest := [.int 48, .ref qO0]) (d := 1) (mc := 0) (ms := 0) (ci := 15) C0 V rfl LV_FR_169 (c_FR_figureAt_6 l D g w68 kO0 kA6 qO0 qA1 qA2 qA3 qA4 qA5 qA6 qA7 lx65 lx66 hO0 hA6 (q_Ile (x := (-1081)) (y := lx65.toInt) (by decide) rfl (by have t1 : 0 ≤ x1.toInt := q_nltI c10; have t2 : x1.toInt ≤ 1100 := q_nltI c14; have t3 : x1.toInt ≤ 1080 := q_leI c35; have t4 : 0 < x1.toInt := q_nleI c60; have t5 : (-x1.toInt) ≤ lx65.toInt := by { have e1 : (lx65 : Int32).toInt = lx65.toInt := rfl; have e2 : ((-x1) : Int32).toInt = (-x1.toInt) := (q_negI (x := x1.toInt) rfl (by have t1 : 0 ≤ x1.toInt := q_nltI c10; have t2 : x1.toInt ≤ 1100 := q_nltI c14; have t3 : x1.toInt ≤ 1080 := q_leI c35; have t4 : 0 < x1.toInt := q_nleI c60; omega)); have e3 := q_nltI c72; omega }; omega)) (q_Ile (x := lx65.toInt) (y := (-1)) rfl (by decide) (by have t1 : 0 ≤ x1.toInt := q_nltI c10; have t2 : x1.toInt ≤ 1100 := q_nltI c14; have t3 : x1.toInt ≤ 1080 := q_leI c35; have t4 : 0 < x1.toInt := q_nleI c60; have t5 : (-x1.toInt) ≤ lx65.toInt := by { have e1 : (lx65 : Int32).toInt = lx65.toInt := rfl; have e2 : ((-x1) : Int32).toInt = (-x1.toInt) := (q_negI (x := x1.toInt) rfl (by have t1 : 0 ≤ x1.toInt := q_nltI c10; have t2 : x1.toInt ≤ 1100 := q_nltI c14; have t3 : x1.toInt ≤ 1080 := q_leI c35; have t4 : 0 < x1.toInt := q_nleI c60; omega)); have e3 := q_nltI c72; omega }; omega)) (q_Ile (x := 2) (y := lx66.toInt) (by decide) rfl (by have t1 : 0 ≤ x1.toInt := q_nltI c10; have t2 : x1.toInt ≤ 1100 := q_nltI c14; have t3 : x1.toInt ≤ 1080 := q_leI c35; have t4 : 0 < x1.toInt := q_nleI c60; have t5 : (-x1.toInt) ≤ lx65.toInt := by { have e1 : (lx65 : Int32).toInt = lx65.toInt := rfl; have e2 : ((-x1) : Int32).toInt = (-x1.toInt) := (q_negI (x := x1.toInt) rfl (by have t1 : 0 ≤ x1.toInt := q_nltI c10; have t2 : x1.toInt ≤ 1100 := q_nltI c14; have t3 : x1.toInt ≤ 1080 := q_leI c35; have t4 : 0 < x1.toInt := q_nleI c60; omega)); have e3 := q_nltI c72; omega }; omega)) (q_Ile (x := lx66.toInt) (y := 1082) rfl (by decide) (by have t1 : 0 ≤ x1.toInt := q_nltI c10; have t2 : x1.toInt ≤ 1100 := q_nltI c14; have t3 : x1.toInt ≤ 1080 := q_leI c35; have t4 : 0 < x1.toInt := q_nleI c60; have t5 : (-x1.toInt) ≤ lx65.toInt := by { have e1 : (lx65 : Int32).toInt = lx65.toInt := rfl; have e2 : ((-x1) : Int32).toInt = (-x1.toInt) := (q_negI (x := x1.toInt) rfl (by have t1 : 0 ≤ x1.toInt := q_nltI c10; have t2 : x1.toInt ≤ 1100 := q_nltI c14; have t3 : x1.toInt ≤ 1080 := q_leI c35; have t4 : 0 < x1.toInt := q_nleI c60; omega)); have e3 := q_nltI c72; omega }; omega)) _) rfl rfl hO0 rfl hl.1 rfl (Nat.le_of_ble_eq_true rfl) ⟨by decide, by decide⟩ ⟨Nat.le_of_ble_eq_true rfl, Nat.le_of_ble_eq_true rfl⟩ d_17_29_214) (fun v75 u74 H locs hp73 V => ?_)
                  obtain ⟨rfl, rfl⟩ := hp73
                  refine lv_iadd hx hb d_17_29_217 ?_
                  refine q_ti (v := 48) (by decide) ?_
                  refine q_gov V (q_runV (As := [.int 48]) (rest := []) (d := 1) (mc := 0) (ms := 0) (ci := 15) C0 V rfl LV_FR_110 (c_FR_add_14 l D g w68 kO0 kA7 qO0 qA1 qA2 qA3 qA4 qA5 qA6 qA7 lx66 lx67 hO0 hA7 (q_Ile (x := 2) (y := lx66.toInt) (by decide) rfl (by have t1 : 0 ≤ x1.toInt := q_nltI c10; have t2 : x1.toInt ≤ 1100 := q_nltI c14; have t3 : x1.toInt ≤ 1080 := q_leI c35; have t4 : 0 < x1.toInt := q_nleI c60; have t5 : (-x1.toInt) ≤ lx65.toInt := by { have e1 : (lx65 : Int32).toInt = lx65.toInt := rfl; have e2 : ((-x1) : Int32).toInt = (-x1.toInt) := (q_negI (x := x1.toInt) rfl (by have t1 : 0 ≤ x1.toInt := q_nltI c10; have t2 : x1.toInt ≤ 1100 := q_nltI c14; have t3 : x1.toInt ≤ 1080 := q_leI c35; have t4 : 0 < x1.toInt := q_nleI c60; omega)); have e3 := q_nltI c72; omega }; omega)) (q_Ile (x := lx66.toInt) (y := 1082) rfl (by decide) (by have t1 : 0 ≤ x1.toInt := q_nltI c10; have t2 : x1.toInt ≤ 1100 := q_nltI c14; have t3 : x1.toInt ≤ 1080 := q_leI c35; have t4 : 0 < x1.toInt := q_nleI c60; have t5 : (-x1.toInt) ≤ lx65.toInt := by { have e1 : (lx65 : Int32).toInt = lx65.toInt := rfl; have e2 : ((-x1) : Int32).toInt = (-x1.toInt) := (q_negI (x := x1.toInt) rfl (by have t1 : 0 ≤ x1.toInt := q_nltI c10; have t2 : x1.toInt ≤ 1100 := q_nltI c14; have t3 : x1.toInt ≤ 1080 := q_leI c35; have t4 : 0 < x1.toInt := q_nleI c60; omega)); have e3 := q_nltI c72; omega }; omega)) _) rfl rfl hO0 rfl hl.1 rfl (Nat.le_of_ble_eq_true rfl) ⟨by decide, by decide⟩ ⟨Nat.le_of_ble_eq_true rfl, Nat.le_of_ble_eq_true rfl⟩ d_17_29_218) (fun u78 H locs hp77 V => ?_)
                  obtain ⟨hg79, hO0, hA7⟩ := hp77
                  replace hF := q_uc hF hg79 (q_sc (.head _) (q_sc (List.mem_of_getElem? (i := 5) rfl) (fun _ h => absurd h List.not_mem_nil)))
                  refine lv_iinc (v := lx65 + (-1)) (lv' := [(8, .int (lx65 + (-1))), (7, .int lx46), (6, .int (1080 - x1)), (0, .ref qO0), (1, .long 0), (3, .int 0), (4, .int x1), (5, .int x2)]) hx hb d_17_29_221 hl (k := 0) rfl (rfl) (by decide) rfl (fun ls hl => ?_)
                  refine lv_goto (tgt := 200) hx hb d_17_29_224 (by decide) ?_
                  replace hA1 := (hg79 _ (q_nc n_A1_O0 (q_nc n_A1_A7 List.not_mem_nil))).trans (hA1)
                  replace hA2 := (hg79 _ (q_nc n_A2_O0 (q_nc n_A2_A7 List.not_mem_nil))).trans (hA2)
                  replace hA3 := (hg79 _ (q_nc n_A3_O0 (q_nc n_A3_A7 List.not_mem_nil))).trans (hA3)
                  replace hA6 := (hg79 _ (q_nc n_A6_O0 (q_nc n_A6_A7 List.not_mem_nil))).trans (hA6)
                  exact ih71 ((lx65 + (-1) : Int32), (lx66 + 1 : Int32), (upd lx67 lx66.toNatClampNeg 48 : Nat → Int32)) _ _ _ _ (show ((lx65 + (-1)).toInt - (-x1.toInt) + 1).toNat < (lx65.toInt - (-x1.toInt) + 1).toNat from by have t1 : 0 ≤ x1.toInt := q_nltI c10; have t2 : x1.toInt ≤ 1100 := q_nltI c14; have t3 : x1.toInt ≤ 1080 := q_leI c35; have t4 : 0 < x1.toInt := q_nleI c60; have t5 : (-x1.toInt) ≤ lx65.toInt := by { have e1 : (lx65 : Int32).toInt = lx65.toInt := rfl; have e2 : ((-x1) : Int32).toInt = (-x1.toInt) := (q_negI (x := x1.toInt) rfl (by have t1 : 0 ≤ x1.toInt := q_nltI c10; have t2 : x1.toInt ≤ 1100 := q_nltI c14; have t3 : x1.toInt ≤ 1080 := q_leI c35; have t4 : 0 < x1.toInt := q_nleI c60; omega)); have e3 := q_nltI c72; omega }; have e : (lx65 + (-1)).toInt = (lx65.toInt + (-1)) := (q_addI (x := lx65.toInt) (y := (-1)) rfl (by decide) (by have t1 : 0 ≤ x1.toInt := q_nltI c10; have t2 : x1.toInt ≤ 1100 := q_nltI c14; have t3 : x1.toInt ≤ 1080 := q_leI c35; have t4 : 0 < x1.toInt := q_nleI c60; have t5 : (-x1.toInt) ≤ lx65.toInt := by { have e1 : (lx65 : Int32).toInt = lx65.toInt := rfl; have e2 : ((-x1) : Int32).toInt = (-x1.toInt) := (q_negI (x := x1.toInt) rfl (by have t1 : 0 ≤ x1.toInt := q_nltI c10; have t2 : x1.toInt ≤ 1100 := q_nltI c14; have t3 : x1.toInt ≤ 1080 := q_leI c35; have t4 : 0 < x1.toInt := q_nleI c60; omega)); have e3 := q_nltI c72; omega }; omega) (by have t1 : 0 ≤ x1.toInt := q_nltI c10; have t2 : x1.toInt ≤ 1100 := q_nltI c14; have t3 : x1.toInt ≤ 1080 := q_leI c35; have t4 : 0 < x1.toInt := q_nleI c60; have t5 : (-x1.toInt) ≤ lx65.toInt := by { have e1 : (lx65 : Int32).toInt = lx65.toInt := rfl; have e2 : ((-x1) : Int32).toInt = (-x1.toInt) := (q_negI (x := x1.toInt) rfl (by have t1 : 0 ≤ x1.toInt := q_nltI c10; have t2 : x1.toInt ≤ 1100 := q_nltI c14; have t3 : x1.toInt ≤ 1080 := q_leI c35; have t4 : 0 < x1.toInt := q_nleI c60; omega)); have e3 := q_nltI c72; omega }; omega)); omega) ⟨(show (lx65 + (-1)).toInt ≤ (-1) ∧ ((-x1.toInt) - 1 ≤ (lx65 + (-1)).toInt ∨ (lx65 + (-1)).toInt = (-1)) from by have t1 : 0 ≤ x1.toInt := q_nltI c10; have t2 : x1.toInt ≤ 1100 := q_nltI c14; have t3 : x1.toInt ≤ 1080 := q_leI c35; have t4 : 0 < x1.toInt := q_nleI c60; have t5 : (-x1.toInt) ≤ lx65.toInt := by { have e1 : (lx65 : Int32).toInt = lx65.toInt := rfl; have e2 : ((-x1) : Int32).toInt = (-x1.toInt) := (q_negI (x := x1.toInt) rfl (by have t1 : 0 ≤ x1.toInt := q_nltI c10; have t2 : x1.toInt ≤ 1100 := q_nltI c14; have t3 : x1.toInt ≤ 1080 := q_leI c35; have t4 : 0 < x1.toInt := q_nleI c60; omega)); have e3 := q_nltI c72; omega }; have e : (lx65 + (-1)).toInt = (lx65.toInt + (-1)) := (q_addI (x := lx65.toInt) (y := (-1)) rfl (by decide) (by have t1 : 0 ≤ x1.toInt := q_nltI c10; have t2 : x1.toInt ≤ 1100 := q_nltI c14; have t3 : x1.toInt ≤ 1080 := q_leI c35; have t4 : 0 < x1.toInt := q_nleI c60; have t5 : (-x1.toInt) ≤ lx65.toInt := by { have e1 : (lx65 : Int32).toInt = lx65.toInt := rfl; have e2 : ((-x1) : Int32).toInt = (-x1.toInt) := (q_negI (x := x1.toInt) rfl (by have t1 : 0 ≤ x1.toInt := q_nltI c10; have t2 : x1.toInt ≤ 1100 := q_nltI c14; have t3 : x1.toInt ≤ 1080 := q_leI c35; have t4 : 0 < x1.toInt := q_nleI c60; omega)); have e3 := q_nltI c72; omega }; omega) (by have t1 : 0 ≤ x1.toInt := q_nltI c10; have t2 : x1.toInt ≤ 1100 := q_nltI c14; have t3 : x1.toInt ≤ 1080 := q_leI c35; have t4 : 0 < x1.toInt := q_nleI c60; have t5 : (-x1.toInt) ≤ lx65.toInt := by { have e1 : (lx65 : Int32).toInt = lx65.toInt := rfl; have e2 : ((-x1) : Int32).toInt = (-x1.toInt) := (q_negI (x := x1.toInt) rfl (by have t1 : 0 ≤ x1.toInt := q_nltI c10; have t2 : x1.toInt ≤ 1100 := q_nltI c14; have t3 : x1.toInt ≤ 1080 := q_leI c35; have t4 : 0 < x1.toInt := q_nleI c60; omega)); have e3 := q_nltI c72; omega }; omega)); omega), (show (lx66 + 1 : Int32).toInt = 2 + 1 * ((-1) - (lx65 + (-1) : Int32).toInt) from by have t1 : 0 ≤ x1.toInt := q_nltI c10; have t2 : x1.toInt ≤ 1100 := q_nltI c14; have t3 : 0 ≤ x2.toInt := q_nltI c18; have t4 : x2.toInt ≤ 3 := q_leI c22; have t5 : x1.toInt ≤ 1080 := q_leI c35; have t6 : lx46.toInt ≤ 1080 := q_leI c50; have t7 : 0 < x1.toInt := q_nleI c60; have t8 : (-x1.toInt) ≤ lx65.toInt := by { have e1 : (lx65 : Int32).toInt = lx65.toInt := rfl; have e2 : ((-x1) : Int32).toInt = (-x1.toInt) := (q_negI (x := x1.toInt) rfl (by have t1 : 0 ≤ x1.toInt := q_nltI c10; have t2 : x1.toInt ≤ 1100 := q_nltI c14; have t3 : x1.toInt ≤ 1080 := q_leI c35; have t4 : 0 < x1.toInt := q_nleI c60; omega)); have e3 := q_nltI c72; omega }; have e0 : (lx65 + (-1) : Int32).toInt = (lx65.toInt + (-1)) := (q_addI (x := lx65.toInt) (y := (-1)) rfl (by decide) (by have t1 : 0 ≤ x1.toInt := q_nltI c10; have t2 : x1.toInt ≤ 1100 := q_nltI c14; have t3 : x1.toInt ≤ 1080 := q_leI c35; have t4 : 0 < x1.toInt := q_nleI c60; have t5 : (-x1.toInt) ≤ lx65.toInt := by { have e1 : (lx65 : Int32).toInt = lx65.toInt := rfl; have e2 : ((-x1) : Int32).toInt = (-x1.toInt) := (q_negI (x := x1.toInt) rfl (by have t1 : 0 ≤ x1.toInt := q_nltI c10; have t2 : x1.toInt ≤ 1100 := q_nltI c14; have t3 : x1.toInt ≤ 1080 := q_leI c35; have t4 : 0 < x1.toInt := q_nleI c60; omega)); have e3 := q_nltI c72; omega }; omega) (by have t1 : 0 ≤ x1.toInt := q_nltI c10; have t2 : x1.toInt ≤ 1100 := q_nltI c14; have t3 : x1.toInt ≤ 1080 := q_leI c35; have t4 : 0 < x1.toInt := q_nleI c60; have t5 : (-x1.toInt) ≤ lx65.toInt := by { have e1 : (lx65 : Int32).toInt = lx65.toInt := rfl; have e2 : ((-x1) : Int32).toInt = (-x1.toInt) := (q_negI (x := x1.toInt) rfl (by have t1 : 0 ≤ x1.toInt := q_nltI c10; have t2 : x1.toInt ≤ 1100 := q_nltI c14; have t3 : x1.toInt ≤ 1080 := q_leI c35; have t4 : 0 < x1.toInt := q_nleI c60; omega)); have e3 := q_nltI c72; omega }; omega)); have e1 : (lx66 + 1 : Int32).toInt = (lx66.toInt + 1) := (q_addI (x := lx66.toInt) (y := 1) rfl (by decide) (by have t1 : 0 ≤ x1.toInt := q_nltI c10; have t2 : x1.toInt ≤ 1100 := q_nltI c14; have t3 : x1.toInt ≤ 1080 := q_leI c35; have t4 : 0 < x1.toInt := q_nleI c60; have t5 : (-x1.toInt) ≤ lx65.toInt := by { have e1 : (lx65 : Int32).toInt = lx65.toInt := rfl; have e2 : ((-x1) : Int32).toInt = (-x1.toInt) := (q_negI (x := x1.toInt) rfl (by have t1 : 0 ≤ x1.toInt := q_nltI c10; have t2 : x1.toInt ≤ 1100 := q_nltI c14; have t3 : x1.toInt ≤ 1080 := q_leI c35; have t4 : 0 < x1.toInt := q_nleI c60; omega)); have e3 := q_nltI c72; omega }; omega) (by have t1 : 0 ≤ x1.toInt := q_nltI c10; have t2 : x1.toInt ≤ 1100 := q_nltI c14; have t3 : x1.toInt ≤ 1080 := q_leI c35; have t4 : 0 < x1.toInt := q_nleI c60; have t5 : (-x1.toInt) ≤ lx65.toInt := by { have e1 : (lx65 : Int32).toInt = lx65.toInt := rfl; have e2 : ((-x1) : Int32).toInt = (-x1.toInt) := (q_negI (x := x1.toInt) rfl (by have t1 : 0 ≤ x1.toInt := q_nltI c10; have t2 : x1.toInt ≤ 1100 := q_nltI c14; have t3 : x1.toInt ≤ 1080 := q_leI c35; have t4 : 0 < x1.toInt := q_nleI c60; omega)); have e3 := q_nltI c72; omega }; omega)); omega), V, q_lw hl (q_lw1 0 rfl (q_lw1 1 rfl (q_lw1 2 rfl (q_lw1 3 rfl (q_lw1 4 rfl (q_lw1 5 rfl (q_lw1 6 rfl (q_lw1 7 rfl q_lw0)))))))), hF, hO0, hA1, hA2, hA3, hA6, hA7⟩
            ·
              refine lv_aload_n hx hb d_17_29_138 rfl (lv_at hl 2 rfl) ?_
              refine q_get (ci := 15) (j := 6) (v := .ref qA6) C0 V i_FR rfl rfl hO0 (by decide) w_2081 rfl d_17_29_139 ?_
              refine lv_iload hx hb d_17_29_142 (lv_at hl 0 rfl) ?_
              refine q_iald C0 V hA6 (q_ix (x := lx46.toInt) rfl (by have t1 : 1080 < lx46.toInt := q_nleI c50; omega) (by have t1 : 1080 < lx46.toInt := q_nleI c50; omega)) d_17_29_144 ?_
              refine q_ti (v := 0) (by first | rfl | decide | simp [upd, vp_updL, sb_cl0]) ?_
              refine lv_if_ne (tgt := 154) hx hb d_17_29_145 (by decide) (fun c80 => absurd (by decide) c80) (fun c80 => ?_)
              refine lv_iinc (v := lx46 + (-1)) (lv' := [(7, .int (lx46 + (-1))), (6, .int (1080 - x1)), (0, .ref qO0), (1, .long 0), (3, .int 0), (4, .int x1), (5, .int x2)]) hx hb d_17_29_148 hl (k := 0) rfl (rfl) (by decide) rfl (fun ls hl => ?_)
              refine lv_goto (tgt := 130) hx hb d_17_29_151 (by decide) ?_
              exact ih49 ((lx46 + (-1) : Int32)) _ _ _ _ (show ((lx46 + (-1)).toInt - 1080).toNat < (lx46.toInt - 1080).toNat from by have t1 : 1080 < lx46.toInt := q_nleI c50; have e : (lx46 + (-1)).toInt = (lx46.toInt + (-1)) := (q_addI (x := lx46.toInt) (y := (-1)) rfl (by decide) (by have t1 : 1080 < lx46.toInt := q_nleI c50; omega) (by have t1 : 1080 < lx46.toInt := q_nleI c50; omega)); omega) ⟨(show 1080 ≤ (lx46 + (-1)).toInt ∧ (lx46 + (-1)).toInt ≤ 1403 from by have t1 : 1080 < lx46.toInt := q_nleI c50; have e : (lx46 + (-1)).toInt = (lx46.toInt + (-1)) := (q_addI (x := lx46.toInt) (y := (-1)) rfl (by decide) (by have t1 : 1080 < lx46.toInt := q_nleI c50; omega) (by have t1 : 1080 < lx46.toInt := q_nleI c50; omega)); omega), V, q_lw hl (q_lw1 0 rfl (q_lw1 1 rfl (q_lw1 2 rfl (q_lw1 3 rfl (q_lw1 4 rfl (q_lw1 5 rfl (q_lw1 6 rfl q_lw0))))))), hF, hO0, hA1, hA2, hA3, hA6, hA7⟩
          ·
            refine lv_iconst (v := 0) hx hb d_17_29_95 (by decide) ?_
            refine lv_goto (tgt := 105) hx hb d_17_29_96 (by decide) ?_
            refine lv_istore (lv' := [(6, .int 0), (0, .ref qO0), (1, .long 0), (3, .int 0), (4, .int x1), (5, .int x2)]) hx hb d_17_29_105 hl (by decide) rfl (fun ls hl => ?_)
            refine lv_aload_n hx hb d_17_29_107 rfl (lv_at hl 1 rfl) ?_
            refine lv_iload hx hb d_17_29_108 (lv_at hl 0 rfl) ?_
            refine lv_aload_n hx hb d_17_29_110 rfl (lv_at hl 1 rfl) ?_
            refine lv_iload hx hb d_17_29_111 (lv_at hl 0 rfl) ?_
            refine lv_iload hx hb d_17_29_113 (lv_at hl 5 rfl) ?_
            replace hO0 := (hg34 _ (q_nc n_O0_A1 (q_nc n_O0_A2 (q_nc n_O0_A3 List.not_mem_nil)))).trans (hO0)
            refine q_goi V (q_runV (As := [.int 0, .int x2]) (rest := [.int 0, .ref qO0]) (d := 1) (mc := 0) (ms := 0) (ci := 15) C0 V rfl LV_FR_165 (c_FR_isMore_5 l D g u32 kO0 kA3 qO0 qA1 qA2 qA3 qA4 qA5 qA6 qA7 0 x2 hO0 hA3 (q_Ile (x := 0) (y := 0) (by decide) (by decide) (by omega)) (q_Ile (x := 0) (y := 1080) (by decide) (by decide) (by omega)) (q_Ile (x := 0) (y := x2.toInt) (by decide) rfl (by have t1 : 0 ≤ x2.toInt := q_nltI c18; have t2 : x2.toInt ≤ 3 := q_leI c22; omega)) c22 _) rfl rfl hO0 rfl hl.1 rfl (Nat.le_of_ble_eq_true rfl) ⟨by decide, by decide⟩ ⟨Nat.le_of_ble_eq_true rfl, Nat.le_of_ble_eq_true rfl⟩ d_17_29_115) (fun v83 u82 H locs hp81 V => ?_)
            obtain ⟨rfl, rfl⟩ := hp81
            replace hA6 := (hg34 _ (q_nc n_A6_A1 (q_nc n_A6_A2 (q_nc n_A6_A3 List.not_mem_nil)))).trans ((hu29 _ n_A6_O0).trans ((hg4 _ (q_nc n_A6_O0 List.not_mem_nil)).trans (hA6)))
            refine q_gov V (q_runV (As := [.int 0, .int 0]) (rest := []) (d := 1) (mc := 0) (ms := 0) (ci := 15) C0 V rfl LV_FR_81 (c_FR_cut_5 l D g u32 kO0 kA3 kA6 qO0 qA1 qA2 qA3 qA4 qA5 qA6 qA7 0 hO0 hA3 hA6 n_A3_A6 (q_Ile (x := 0) (y := 0) (by decide) (by decide) (by omega)) (q_Ile (x := 0) (y := 1080) (by decide) (by decide) (by omega)) _) rfl rfl hO0 rfl hl.1 rfl (Nat.le_of_ble_eq_true rfl) ⟨by decide, by decide⟩ ⟨Nat.le_of_ble_eq_true rfl, Nat.le_of_ble_eq_true rfl⟩ d_17_29_118) (fun u86 H locs hp85 V => ?_)
            obtain ⟨hg87, hA6⟩ := hp85
            replace hF := q_uc hF hg87 (q_sc (List.mem_of_getElem? (i := 4) rfl) (fun _ h => absurd h List.not_mem_nil))
            refine lv_aload_n hx hb d_17_29_121 rfl (lv_at hl 1 rfl) ?_
            replace hO0 := (hg87 _ (q_nc n_O0_A6 List.not_mem_nil)).trans (hO0)
            refine q_gov V (q_runV (As := []) (rest := []) (d := 1) (mc := 0) (ms := 0) (ci := 15) C0 V rfl LV_FR_113 (c_FR_begin l D g u86 kO0 qO0 qA1 qA2 qA3 qA4 qA5 qA6 qA7 hO0 _) rfl rfl hO0 rfl hl.1 rfl (Nat.le_of_ble_eq_true rfl) ⟨by decide, by decide⟩ ⟨Nat.le_of_ble_eq_true rfl, Nat.le_of_ble_eq_true rfl⟩ d_17_29_122) (fun u89 H locs hp88 V => ?_)
            obtain ⟨hg90, hO0⟩ := hp88
            replace hF := q_uc hF hg90 (q_sc (.head _) (fun _ h => absurd h List.not_mem_nil))
            refine lv_sipush (v := 1403) hx hb d_17_29_125 (by decide) ?_
            refine lv_istore (lv' := [(7, .int 1403), (6, .int 0), (0, .ref qO0), (1, .long 0), (3, .int 0), (4, .int x1), (5, .int x2)]) hx hb d_17_29_128 hl (by decide) rfl (fun ls hl => ?_)
            replace hA1 := (hg90 _ (q_nc n_A1_O0 List.not_mem_nil)).trans ((hg87 _ (q_nc n_A1_A6 List.not_mem_nil)).trans (hA1))
            replace hA2 := (hg90 _ (q_nc n_A2_O0 List.not_mem_nil)).trans ((hg87 _ (q_nc n_A2_A6 List.not_mem_nil)).trans (hA2))
            replace hA3 := (hg90 _ (q_nc n_A3_O0 List.not_mem_nil)).trans ((hg87 _ (q_nc n_A3_A6 List.not_mem_nil)).trans (hA3))
            replace hA6 := (hg90 _ (q_nc n_A6_O0 List.not_mem_nil)).trans (hA6)
            replace hA7 := (hg90 _ (q_nc n_A7_O0 List.not_mem_nil)).trans ((hg87 _ (q_nc n_A7_A6 List.not_mem_nil)).trans ((hg34 _ (q_nc n_A7_A1 (q_nc n_A7_A2 (q_nc n_A7_A3 List.not_mem_nil)))).trans ((hu29 _ n_A7_O0).trans ((hg4 _ (q_nc n_A7_O0 List.not_mem_nil)).trans (hA7)))))
            refine q_loop (X := Int32) (fun z H locs ls w92 => (1080 ≤ z.toInt ∧ z.toInt ≤ 1403) ∧ q_Wd D g (va_A ws sz) s w92 H locs ∧ lv_has ls 9 [(7, .int z), (6, .int 0), (0, .ref qO0), (1, .long 0), (3, .int 0), (4, .int x1), (5, .int x2)] ∧ q_un ws w92 [kO0, kA1, kA2, kA3, kA6, kA7] ∧ w92[kO0]? = (some (qO0, .inr (15, [.int 0, .ref qA1, .ref qA2, .ref qA3, .ref qA4, .ref qA5, .ref qA6, .ref qA7, .int 0, .int 0, .int 0, .long 0, .int 52, .int 2047, .long 0, .int (-1074), .long 0, .int 0])) : Option (Nat × va_E)) ∧ w92[kA1]? = (some (qA1, .inl (g 0, 156, .inl y33)) : Option (Nat × va_E)) ∧ w92[kA2]? = (some (qA2, .inl (g 0, 156, .inl (fun _ => 0))) : Option (Nat × va_E)) ∧ w92[kA3]? = (some (qA3, .inl (g 0, 1404, .inl (fun _ => 0))) : Option (Nat × va_E)) ∧ w92[kA6]? = (some (qA6, .inl (g 0, 1404, .inl (fun _ => 0))) : Option (Nat × va_E)) ∧ w92[kA7]? = (some (qA7, .inl (g 0, 1600, .inl (fun _ => 0))) : Option (Nat × va_E))) (fun z => (z.toInt - 1080).toNat) ?_ ((1403 : Int32)) _ _ _ u89 ⟨⟨by decide, by decide⟩, V, hl, hF, hO0, hA1, hA2, hA3, hA6, hA7⟩
            rintro lx91 H locs ls w92 ⟨i93, V, hl, hF, hO0, hA1, hA2, hA3, hA6, hA7⟩ ih94
            replace i93 : 1080 ≤ lx91.toInt ∧ lx91.toInt ≤ 1403 := i93
            replace hl : lv_has ls 9 [(7, .int lx91), (6, .int 0), (0, .ref qO0), (1, .long 0), (3, .int 0), (4, .int x1), (5, .int x2)] := hl
            replace hO0 : w92[kO0]? = (some (qO0, .inr (15, [.int 0, .ref qA1, .ref qA2, .ref qA3, .ref qA4, .ref qA5, .ref qA6, .ref qA7, .int 0, .int 0, .int 0, .long 0, .int 52, .int 2047, .long 0, .int (-1074), .long 0, .int 0])) : Option (Nat × va_E)) := hO0
            replace hA1 : w92[kA1]? = (some (qA1, .inl (g 0, 156, .inl y33)) : Option (Nat × va_E)) := hA1
            replace hA2 : w92[kA2]? = (some (qA2, .inl (g 0, 156, .inl (fun _ => 0))) : Option (Nat × va_E)) := hA2
            replace hA3 : w92[kA3]? = (some (qA3, .inl (g 0, 1404, .inl (fun _ => 0))) : Option (Nat × va_E)) := hA3
            replace hA6 : w92[kA6]? = (some (qA6, .inl (g 0, 1404, .inl (fun _ => 0))) : Option (Nat × va_E)) := hA6
            replace hA7 : w92[kA7]? = (some (qA7, .inl (g 0, 1600, .inl (fun _ => 0))) : Option (Nat × va_E)) := hA7
            refine lv_iload hx hb d_17_29_130 (lv_at hl 0 rfl) ?_
            refine lv_sipush (v := 1080) hx hb d_17_29_132 (by decide) ?_
            refine lv_icmp_le (tgt := 154) hx hb d_17_29_135 (by decide) (fun c95 => ?_) (fun c95 => ?_)
            ·
              refine lv_iload hx hb d_17_29_154 (lv_at hl 0 rfl) ?_
              refine q_ti (v := 1080) (q_Ieq (x := lx91.toInt) (y := 1080) rfl (by decide) (by have t1 : lx91.toInt ≤ 1080 := q_leI c95; omega)) ?_
              refine lv_sipush (v := 1080) hx hb d_17_29_156 (by decide) ?_
              refine lv_isub hx hb d_17_29_159 ?_
              refine q_ti (v := 0) (by decide) ?_
              refine lv_istore (lv' := [(8, .int 0), (7, .int lx91), (6, .int 0), (0, .ref qO0), (1, .long 0), (3, .int 0), (4, .int x1), (5, .int x2)]) hx hb d_17_29_160 hl (by decide) rfl (fun ls hl => ?_)
              refine lv_iload hx hb d_17_29_162 (lv_at hl 0 rfl) ?_
              refine lv_if_lt (tgt := 186) hx hb d_17_29_164 (by decide) (fun c96 => absurd c96 (by decide)) (fun c96 => ?_)
              refine lv_aload_n hx hb d_17_29_167 rfl (lv_at hl 3 rfl) ?_
              refine lv_bipush (v := 48) hx hb d_17_29_168 (by decide) ?_
              refine lv_aload_n hx hb d_17_29_170 rfl (lv_at hl 3 rfl) ?_
              refine lv_iload hx hb d_17_29_171 (lv_at hl 0 rfl) ?_
              refine q_goi V (q_runV (As := [.int 0]) (rest := [.int 48, .ref qO0]) (d := 1) (mc := 0) (ms := 0) (ci := 15) C0 V rfl LV_FR_169 (c_FR_figureAt l D g w92 kO0 kA6 qO0 qA1 qA2 qA3 qA4 qA5 qA6 qA7 hO0 hA6 _) rfl rfl hO0 rfl hl.1 rfl (Nat.le_of_ble_eq_true rfl) ⟨by decide, by decide⟩ ⟨Nat.le_of_ble_eq_true rfl, Nat.le_of_ble_eq_true rfl⟩ d_17_29_173) (fun v99 u98 H locs hp97 V => ?_)
              obtain ⟨rfl, rfl⟩ := hp97
              refine lv_iadd hx hb d_17_29_176 ?_
              refine q_ti (v := 48) (by decide) ?_
              refine q_gov V (q_runV (As := [.int 48]) (rest := []) (d := 1) (mc := 0) (ms := 0) (ci := 15) C0 V rfl LV_FR_110 (c_FR_add l D g w92 kO0 kA7 qO0 qA1 qA2 qA3 qA4 qA5 qA6 qA7 hO0 hA7 _) rfl rfl hO0 rfl hl.1 rfl (Nat.le_of_ble_eq_true rfl) ⟨by decide, by decide⟩ ⟨Nat.le_of_ble_eq_true rfl, Nat.le_of_ble_eq_true rfl⟩ d_17_29_177) (fun u102 H locs hp101 V => ?_)
              obtain ⟨hg103, hO0, hA7⟩ := hp101
              replace hF := q_uc hF hg103 (q_sc (.head _) (q_sc (List.mem_of_getElem? (i := 5) rfl) (fun _ h => absurd h List.not_mem_nil)))
              refine lv_iinc (v := (-1)) (lv' := [(8, .int (-1)), (7, .int lx91), (6, .int 0), (0, .ref qO0), (1, .long 0), (3, .int 0), (4, .int x1), (5, .int x2)]) hx hb d_17_29_180 hl (k := 0) rfl (by decide) (by decide) rfl (fun ls hl => ?_)
              refine lv_goto (tgt := 162) hx hb d_17_29_183 (by decide) ?_
              refine lv_iload hx hb d_17_29_162 (lv_at hl 0 rfl) ?_
              refine lv_if_lt (tgt := 186) hx hb d_17_29_164 (by decide) (fun c104 => ?_) (fun c104 => absurd (by decide) c104)
              refine lv_iload hx hb d_17_29_186 (lv_at hl 6 rfl) ?_
              refine lv_if_le (tgt := 197) hx hb d_17_29_188 (by decide) (fun c105 => absurd c105 (Int32.not_le.mpr (q_Ilt (x := 0) (y := x1.toInt) (by decide) rfl (by have t1 : 0 ≤ x1.toInt := q_nltI c10; have t2 : x1.toInt ≤ 1100 := q_nltI c14; have t3 : 1080 < x1.toInt := q_nleI c35; omega)))) (fun c105 => ?_)
              refine lv_aload_n hx hb d_17_29_191 rfl (lv_at hl 3 rfl) ?_
              refine lv_bipush (v := 46) hx hb d_17_29_192 (by decide) ?_
              refine q_gov V (q_runV (As := [.int 46]) (rest := []) (d := 1) (mc := 0) (ms := 0) (ci := 15) C0 V rfl LV_FR_110 (c_FR_add_2 l D g u102 kO0 kA7 qO0 qA1 qA2 qA3 qA4 qA5 qA6 qA7 hO0 hA7 _) rfl rfl hO0 rfl hl.1 rfl (Nat.le_of_ble_eq_true rfl) ⟨by decide, by decide⟩ ⟨Nat.le_of_ble_eq_true rfl, Nat.le_of_ble_eq_true rfl⟩ d_17_29_194) (fun u107 H locs hp106 V => ?_)
              obtain ⟨hg108, hO0, hA7⟩ := hp106
              replace hF := q_uc hF hg108 (q_sc (.head _) (q_sc (List.mem_of_getElem? (i := 5) rfl) (fun _ h => absurd h List.not_mem_nil)))
              refine lv_iconst (v := (-1)) hx hb d_17_29_197 (by decide) ?_
              refine lv_istore (lv' := [(8, .int (-1)), (7, .int lx91), (6, .int 0), (0, .ref qO0), (1, .long 0), (3, .int 0), (4, .int x1), (5, .int x2)]) hx hb d_17_29_198 hl (by decide) rfl (fun ls hl => ?_)
              replace hA1 := (hg108 _ (q_nc n_A1_O0 (q_nc n_A1_A7 List.not_mem_nil))).trans ((hg103 _ (q_nc n_A1_O0 (q_nc n_A1_A7 List.not_mem_nil))).trans (hA1))
              replace hA2 := (hg108 _ (q_nc n_A2_O0 (q_nc n_A2_A7 List.not_mem_nil))).trans ((hg103 _ (q_nc n_A2_O0 (q_nc n_A2_A7 List.not_mem_nil))).trans (hA2))
              replace hA3 := (hg108 _ (q_nc n_A3_O0 (q_nc n_A3_A7 List.not_mem_nil))).trans ((hg103 _ (q_nc n_A3_O0 (q_nc n_A3_A7 List.not_mem_nil))).trans (hA3))
              replace hA6 := (hg108 _ (q_nc n_A6_O0 (q_nc n_A6_A7 List.not_mem_nil))).trans ((hg103 _ (q_nc n_A6_O0 (q_nc n_A6_A7 List.not_mem_nil))).trans (hA6))
              refine q_loop (X := Int32 × Int32 × (Nat → Int32)) (fun z H locs ls w112 => (z.1.toInt ≤ (-1) ∧ ((-x1.toInt) - 1 ≤ z.1.toInt ∨ z.1.toInt = (-1))) ∧ (z.2.1.toInt = 2 + 1 * ((-1) - z.1.toInt)) ∧ q_Wd D g (va_A ws sz) s w112 H locs ∧ lv_has ls 9 [(8, .int z.1), (7, .int lx91), (6, .int 0), (0, .ref qO0), (1, .long 0), (3, .int 0), (4, .int x1), (5, .int x2)] ∧ q_un ws w112 [kO0, kA1, kA2, kA3, kA6, kA7] ∧ w112[kO0]? = (some (qO0, .inr (15, [.int 0, .ref qA1, .ref qA2, .ref qA3, .ref qA4, .ref qA5, .ref qA6, .ref qA7, .int z.2.1, .int 0, .int 0, .long 0, .int 52, .int 2047, .long 0, .int (-1074), .long 0, .int 0])) : Option (Nat × va_E)) ∧ w112[kA1]? = (some (qA1, .inl (g 0, 156, .inl y33)) : Option (Nat × va_E)) ∧ w112[kA2]? = (some (qA2, .inl (g 0, 156, .inl (fun _ => 0))) : Option (Nat × va_E)) ∧ w112[kA3]? = (some (qA3, .inl (g 0, 1404, .inl (fun _ => 0))) : Option (Nat × va_E)) ∧ w112[kA6]? = (some (qA6, .inl (g 0, 1404, .inl (fun _ => 0))) : Option (Nat × va_E)) ∧ w112[kA7]? = (some (qA7, .inl (g 0, 1600, .inl z.2.2)) : Option (Nat × va_E))) (fun z => (z.1.toInt - (-x1.toInt) + 1).toNat) ?_ (((-1) : Int32), (2 : Int32), (upd (upd (fun _ => 0) 0 48) 1 46 : (Nat → Int32))) _ _ _ u107 ⟨⟨(by dsimp only; decide), Or.inr (by dsimp only; decide)⟩, (show (2 : Int32).toInt = 2 + 1 * ((-1) - ((-1) : Int32).toInt) from by have t1 : 0 ≤ x1.toInt := q_nltI c10; have t2 : x1.toInt ≤ 1100 := q_nltI c14; have t3 : 0 ≤ x2.toInt := q_nltI c18; have t4 : x2.toInt ≤ 3 := q_leI c22; have t5 : 1080 < x1.toInt := q_nleI c35; have t6 : lx91.toInt ≤ 1080 := q_leI c95; have e1 : (2 : Int32).toInt = 2 := (by decide); have e2 : (((-1) : Int32)).toInt = (-1) := (by decide); omega), V, hl, hF, hO0, hA1, hA2, hA3, hA6, hA7⟩
              rintro ⟨lx109, lx110, lx111⟩ H locs ls w112 ⟨i113, i114, V, hl, hF, hO0, hA1, hA2, hA3, hA6, hA7⟩ ih115
              replace i113 : lx109.toInt ≤ (-1) ∧ ((-x1.toInt) - 1 ≤ lx109.toInt ∨ lx109.toInt = (-1)) := i113
              replace i114 : lx110.toInt = 2 + 1 * ((-1) - lx109.toInt) := i114
              replace hl : lv_has ls 9 [(8, .int lx109), (7, .int lx91), (6, .int 0), (0, .ref qO0), (1, .long 0), (3, .int 0), (4, .int x1), (5, .int x2)] := hl
              replace hO0 : w112[kO0]? = (some (qO0, .inr (15, [.int 0, .ref qA1, .ref qA2, .ref qA3, .ref qA4, .ref qA5, .ref qA6, .ref qA7, .int lx110, .int 0, .int 0, .long 0, .int 52, .int 2047, .long 0, .int (-1074), .long 0, .int 0])) : Option (Nat × va_E)) := hO0
              replace hA1 : w112[kA1]? = (some (qA1, .inl (g 0, 156, .inl y33)) : Option (Nat × va_E)) := hA1
              replace hA2 : w112[kA2]? = (some (qA2, .inl (g 0, 156, .inl (fun _ => 0))) : Option (Nat × va_E)) := hA2
              replace hA3 : w112[kA3]? = (some (qA3, .inl (g 0, 1404, .inl (fun _ => 0))) : Option (Nat × va_E)) := hA3
              replace hA6 : w112[kA6]? = (some (qA6, .inl (g 0, 1404, .inl (fun _ => 0))) : Option (Nat × va_E)) := hA6
              replace hA7 : w112[kA7]? = (some (qA7, .inl (g 0, 1600, .inl lx111)) : Option (Nat × va_E)) := hA7
              refine lv_iload hx hb d_17_29_200 (lv_at hl 0 rfl) ?_
              refine lv_iload hx hb d_17_29_202 (lv_at hl 6 rfl) ?_
              refine lv_ineg hx hb d_17_29_204 ?_
              refine lv_icmp_lt (tgt := 227) hx hb d_17_29_205 (by decide) (fun c116 => ?_) (fun c116 => ?_)
              ·
                refine lv_aload_n hx hb d_17_29_227 rfl (lv_at hl 3 rfl) ?_
                refine q_get (ci := 15) (j := 8) (v := .int lx110) C0 V i_FR rfl rfl hO0 (by decide) w_2084 rfl d_17_29_228 ?_
                exact q_reti C0 V (Or.inr (Or.inr (Or.inr (Or.inr (Or.inr (Or.inl ⟨lx110, y33, lx111, c10, c14, c18, c22, c35, (show (((-1) < (-x1.toInt) ∧ lx110.toInt = 2) ∨ ((-x1.toInt) ≤ (-1) ∧ lx110.toInt = 2 + 1 * ((-1) - (-x1.toInt) + 1))) from by have t1 : 0 ≤ x1.toInt := q_nltI c10; have t2 : x1.toInt ≤ 1100 := q_nltI c14; have t3 : 0 ≤ x2.toInt := q_nltI c18; have t4 : x2.toInt ≤ 3 := q_leI c22; have t5 : 1080 < x1.toInt := q_nleI c35; have t6 : lx91.toInt ≤ 1080 := q_leI c95; have t7 : lx109.toInt < (-x1.toInt) := by { have e1 : (lx109 : Int32).toInt = lx109.toInt := rfl; have e2 : ((-x1) : Int32).toInt = (-x1.toInt) := (q_negI (x := x1.toInt) rfl (by have t1 : 0 ≤ x1.toInt := q_nltI c10; have t2 : x1.toInt ≤ 1100 := q_nltI c14; have t3 : 1080 < x1.toInt := q_nleI c35; omega)); have e3 := q_ltI c116; omega }; have eb : (-x1 : Int32).toInt = (-x1.toInt) := (q_negI (x := x1.toInt) rfl (by have t1 : 0 ≤ x1.toInt := q_nltI c10; have t2 : x1.toInt ≤ 1100 := q_nltI c14; have t3 : 1080 < x1.toInt := q_nleI c35; have t4 : lx109.toInt < (-x1.toInt) := by { have e1 : (lx109 : Int32).toInt = lx109.toInt := rfl; have e2 : ((-x1) : Int32).toInt = (-x1.toInt) := (q_negI (x := x1.toInt) rfl (by have t1 : 0 ≤ x1.toInt := q_nltI c10; have t2 : x1.toInt ≤ 1100 := q_nltI c14; have t3 : 1080 < x1.toInt := q_nleI c35; omega)); have e3 := q_ltI c116; omega }; omega)); omega), (q_Ile (x := 2) (y := lx110.toInt) (by decide) rfl (by have t1 : 0 ≤ x1.toInt := q_nltI c10; have t2 : x1.toInt ≤ 1100 := q_nltI c14; have t3 : 1080 < x1.toInt := q_nleI c35; have t4 : lx109.toInt < (-x1.toInt) := by { have e1 : (lx109 : Int32).toInt = lx109.toInt := rfl; have e2 : ((-x1) : Int32).toInt = (-x1.toInt) := (q_negI (x := x1.toInt) rfl (by have t1 : 0 ≤ x1.toInt := q_nltI c10; have t2 : x1.toInt ≤ 1100 := q_nltI c14; have t3 : 1080 < x1.toInt := q_nleI c35; omega)); have e3 := q_ltI c116; omega }; omega)), (q_Ile (x := lx110.toInt) (y := 1102) rfl (by decide) (by have t1 : 0 ≤ x1.toInt := q_nltI c10; have t2 : x1.toInt ≤ 1100 := q_nltI c14; have t3 : 1080 < x1.toInt := q_nleI c35; have t4 : lx109.toInt < (-x1.toInt) := by { have e1 : (lx109 : Int32).toInt = lx109.toInt := rfl; have e2 : ((-x1) : Int32).toInt = (-x1.toInt) := (q_negI (x := x1.toInt) rfl (by have t1 : 0 ≤ x1.toInt := q_nltI c10; have t2 : x1.toInt ≤ 1100 := q_nltI c14; have t3 : 1080 < x1.toInt := q_nleI c35; omega)); have e3 := q_ltI c116; omega }; omega)), rfl, hF, hO0, hA1, hA2, hA3, hA6, hA7⟩)))))) d_17_29_231
              ·
                refine lv_aload_n hx hb d_17_29_208 rfl (lv_at hl 3 rfl) ?_
                refine lv_bipush (v := 48) hx hb d_17_29_209 (by decide) ?_
                refine lv_aload_n hx hb d_17_29_211 rfl (lv_at hl 3 rfl) ?_
                refine lv_iload hx hb d_17_29_212 (lv_at hl 0 rfl) ?_
                refine q_goi V (q_runV (As := [.int lx109]) (rest := [.int 48, .ref qO0]) (d := 1) (mc := 0) (ms := 0) (ci := 15) C0 V rfl LV_FR_169 (c_FR_figureAt_7 l D g w112 kO0 kA6 qO0 qA1 qA2 qA3 qA4 qA5 qA6 qA7 lx109 lx110 hO0 hA6 (q_Ile (x := (-1101)) (y := lx109.toInt) (by decide) rfl (by have t1 : 0 ≤ x1.toInt := q_nltI c10; have t2 : x1.toInt ≤ 1100 := q_nltI c14; have t3 : 1080 < x1.toInt := q_nleI c35; have t4 : (-x1.toInt) ≤ lx109.toInt := by { have e1 : (lx109 : Int32).toInt = lx109.toInt := rfl; have e2 : ((-x1) : Int32).toInt = (-x1.toInt) := (q_negI (x := x1.toInt) rfl (by have t1 : 0 ≤ x1.toInt := q_nltI c10; have t2 : x1.toInt ≤ 1100 := q_nltI c14; have t3 : 1080 < x1.toInt := q_nleI c35; omega)); have e3 := q_nltI c116; omega }; omega)) (q_Ile (x := lx109.toInt) (y := (-1)) rfl (by decide) (by have t1 : 0 ≤ x1.toInt := q_nltI c10; have t2 : x1.toInt ≤ 1100 := q_nltI c14; have t3 : 1080 < x1.toInt := q_nleI c35; have t4 : (-x1.toInt) ≤ lx109.toInt := by { have e1 : (lx109 : Int32).toInt = lx109.toInt := rfl; have e2 : ((-x1) : Int32).toInt = (-x1.toInt) := (q_negI (x := x1.toInt) rfl (by have t1 : 0 ≤ x1.toInt := q_nltI c10; have t2 : x1.toInt ≤ 1100 := q_nltI c14; have t3 : 1080 < x1.toInt := q_nleI c35; omega)); have e3 := q_nltI c116; omega }; omega)) (q_Ile (x := 2) (y := lx110.toInt) (by decide) rfl (by have t1 : 0 ≤ x1.toInt := q_nltI c10; have t2 : x1.toInt ≤ 1100 := q_nltI c14; have t3 : 1080 < x1.toInt := q_nleI c35; have t4 : (-x1.toInt) ≤ lx109.toInt := by { have e1 : (lx109 : Int32).toInt = lx109.toInt := rfl; have e2 : ((-x1) : Int32).toInt = (-x1.toInt) := (q_negI (x := x1.toInt) rfl (by have t1 : 0 ≤ x1.toInt := q_nltI c10; have t2 : x1.toInt ≤ 1100 := q_nltI c14; have t3 : 1080 < x1.toInt := q_nleI c35; omega)); have e3 := q_nltI c116; omega }; omega)) (q_Ile (x := lx110.toInt) (y := 1102) rfl (by decide) (by have t1 : 0 ≤ x1.toInt := q_nltI c10; have t2 : x1.toInt ≤ 1100 := q_nltI c14; have t3 : 1080 < x1.toInt := q_nleI c35; have t4 : (-x1.toInt) ≤ lx109.toInt := by { have e1 : (lx109 : Int32).toInt = lx109.toInt := rfl; have e2 : ((-x1) : Int32).toInt = (-x1.toInt) := (q_negI (x := x1.toInt) rfl (by have t1 : 0 ≤ x1.toInt := q_nltI c10; have t2 : x1.toInt ≤ 1100 := q_nltI c14; have t3 : 1080 < x1.toInt := q_nleI c35; omega)); have e3 := q_nltI c116; omega }; omega)) _) rfl rfl hO0 rfl hl.1 rfl (Nat.le_of_ble_eq_true rfl) ⟨by decide, by decide⟩ ⟨Nat.le_of_ble_eq_true rfl, Nat.le_of_ble_eq_true rfl⟩ d_17_29_214) (fun v119 u118 H locs hp117 V => ?_)
                obtain ⟨rfl, rfl⟩ := hp117
                refine lv_iadd hx hb d_17_29_217 ?_
                refine q_ti (v := 48) (by decide) ?_
                refine q_gov V (q_runV (As := [.int 48]) (rest := []) (d := 1) (mc := 0) (ms := 0) (ci := 15) C0 V rfl LV_FR_110 (c_FR_add_15 l D g w112 kO0 kA7 qO0 qA1 qA2 qA3 qA4 qA5 qA6 qA7 lx110 lx111 hO0 hA7 (q_Ile (x := 2) (y := lx110.toInt) (by decide) rfl (by have t1 : 0 ≤ x1.toInt := q_nltI c10; have t2 : x1.toInt ≤ 1100 := q_nltI c14; have t3 : 1080 < x1.toInt := q_nleI c35; have t4 : (-x1.toInt) ≤ lx109.toInt := by { have e1 : (lx109 : Int32).toInt = lx109.toInt := rfl; have e2 : ((-x1) : Int32).toInt = (-x1.toInt) := (q_negI (x := x1.toInt) rfl (by have t1 : 0 ≤ x1.toInt := q_nltI c10; have t2 : x1.toInt ≤ 1100 := q_nltI c14; have t3 : 1080 < x1.toInt := q_nleI c35; omega)); have e3 := q_nltI c116; omega }; omega)) (q_Ile (x := lx110.toInt) (y := 1102) rfl (by decide) (by have t1 : 0 ≤ x1.toInt := q_nltI c10; have t2 : x1.toInt ≤ 1100 := q_nltI c14; have t3 : 1080 < x1.toInt := q_nleI c35; have t4 : (-x1.toInt) ≤ lx109.toInt := by { have e1 : (lx109 : Int32).toInt = lx109.toInt := rfl; have e2 : ((-x1) : Int32).toInt = (-x1.toInt) := (q_negI (x := x1.toInt) rfl (by have t1 : 0 ≤ x1.toInt := q_nltI c10; have t2 : x1.toInt ≤ 1100 := q_nltI c14; have t3 : 1080 < x1.toInt := q_nleI c35; omega)); have e3 := q_nltI c116; omega }; omega)) _) rfl rfl hO0 rfl hl.1 rfl (Nat.le_of_ble_eq_true rfl) ⟨by decide, by decide⟩ ⟨Nat.le_of_ble_eq_true rfl, Nat.le_of_ble_eq_true rfl⟩ d_17_29_218) (fun u122 H locs hp121 V => ?_)
                obtain ⟨hg123, hO0, hA7⟩ := hp121
                replace hF := q_uc hF hg123 (q_sc (.head _) (q_sc (List.mem_of_getElem? (i := 5) rfl) (fun _ h => absurd h List.not_mem_nil)))
                refine lv_iinc (v := lx109 + (-1)) (lv' := [(8, .int (lx109 + (-1))), (7, .int lx91), (6, .int 0), (0, .ref qO0), (1, .long 0), (3, .int 0), (4, .int x1), (5, .int x2)]) hx hb d_17_29_221 hl (k := 0) rfl (rfl) (by decide) rfl (fun ls hl => ?_)
                refine lv_goto (tgt := 200) hx hb d_17_29_224 (by decide) ?_
                replace hA1 := (hg123 _ (q_nc n_A1_O0 (q_nc n_A1_A7 List.not_mem_nil))).trans (hA1)
                replace hA2 := (hg123 _ (q_nc n_A2_O0 (q_nc n_A2_A7 List.not_mem_nil))).trans (hA2)
                replace hA3 := (hg123 _ (q_nc n_A3_O0 (q_nc n_A3_A7 List.not_mem_nil))).trans (hA3)
                replace hA6 := (hg123 _ (q_nc n_A6_O0 (q_nc n_A6_A7 List.not_mem_nil))).trans (hA6)
                exact ih115 ((lx109 + (-1) : Int32), (lx110 + 1 : Int32), (upd lx111 lx110.toNatClampNeg 48 : Nat → Int32)) _ _ _ _ (show ((lx109 + (-1)).toInt - (-x1.toInt) + 1).toNat < (lx109.toInt - (-x1.toInt) + 1).toNat from by have t1 : 0 ≤ x1.toInt := q_nltI c10; have t2 : x1.toInt ≤ 1100 := q_nltI c14; have t3 : 1080 < x1.toInt := q_nleI c35; have t4 : (-x1.toInt) ≤ lx109.toInt := by { have e1 : (lx109 : Int32).toInt = lx109.toInt := rfl; have e2 : ((-x1) : Int32).toInt = (-x1.toInt) := (q_negI (x := x1.toInt) rfl (by have t1 : 0 ≤ x1.toInt := q_nltI c10; have t2 : x1.toInt ≤ 1100 := q_nltI c14; have t3 : 1080 < x1.toInt := q_nleI c35; omega)); have e3 := q_nltI c116; omega }; have e : (lx109 + (-1)).toInt = (lx109.toInt + (-1)) := (q_addI (x := lx109.toInt) (y := (-1)) rfl (by decide) (by have t1 : 0 ≤ x1.toInt := q_nltI c10; have t2 : x1.toInt ≤ 1100 := q_nltI c14; have t3 : 1080 < x1.toInt := q_nleI c35; have t4 : (-x1.toInt) ≤ lx109.toInt := by { have e1 : (lx109 : Int32).toInt = lx109.toInt := rfl; have e2 : ((-x1) : Int32).toInt = (-x1.toInt) := (q_negI (x := x1.toInt) rfl (by have t1 : 0 ≤ x1.toInt := q_nltI c10; have t2 : x1.toInt ≤ 1100 := q_nltI c14; have t3 : 1080 < x1.toInt := q_nleI c35; omega)); have e3 := q_nltI c116; omega }; omega) (by have t1 : 0 ≤ x1.toInt := q_nltI c10; have t2 : x1.toInt ≤ 1100 := q_nltI c14; have t3 : 1080 < x1.toInt := q_nleI c35; have t4 : (-x1.toInt) ≤ lx109.toInt := by { have e1 : (lx109 : Int32).toInt = lx109.toInt := rfl; have e2 : ((-x1) : Int32).toInt = (-x1.toInt) := (q_negI (x := x1.toInt) rfl (by have t1 : 0 ≤ x1.toInt := q_nltI c10; have t2 : x1.toInt ≤ 1100 := q_nltI c14; have t3 : 1080 < x1.toInt := q_nleI c35; omega)); have e3 := q_nltI c116; omega }; omega)); omega) ⟨(show (lx109 + (-1)).toInt ≤ (-1) ∧ ((-x1.toInt) - 1 ≤ (lx109 + (-1)).toInt ∨ (lx109 + (-1)).toInt = (-1)) from by have t1 : 0 ≤ x1.toInt := q_nltI c10; have t2 : x1.toInt ≤ 1100 := q_nltI c14; have t3 : 1080 < x1.toInt := q_nleI c35; have t4 : (-x1.toInt) ≤ lx109.toInt := by { have e1 : (lx109 : Int32).toInt = lx109.toInt := rfl; have e2 : ((-x1) : Int32).toInt = (-x1.toInt) := (q_negI (x := x1.toInt) rfl (by have t1 : 0 ≤ x1.toInt := q_nltI c10; have t2 : x1.toInt ≤ 1100 := q_nltI c14; have t3 : 1080 < x1.toInt := q_nleI c35; omega)); have e3 := q_nltI c116; omega }; have e : (lx109 + (-1)).toInt = (lx109.toInt + (-1)) := (q_addI (x := lx109.toInt) (y := (-1)) rfl (by decide) (by have t1 : 0 ≤ x1.toInt := q_nltI c10; have t2 : x1.toInt ≤ 1100 := q_nltI c14; have t3 : 1080 < x1.toInt := q_nleI c35; have t4 : (-x1.toInt) ≤ lx109.toInt := by { have e1 : (lx109 : Int32).toInt = lx109.toInt := rfl; have e2 : ((-x1) : Int32).toInt = (-x1.toInt) := (q_negI (x := x1.toInt) rfl (by have t1 : 0 ≤ x1.toInt := q_nltI c10; have t2 : x1.toInt ≤ 1100 := q_nltI c14; have t3 : 1080 < x1.toInt := q_nleI c35; omega)); have e3 := q_nltI c116; omega }; omega) (by have t1 : 0 ≤ x1.toInt := q_nltI c10; have t2 : x1.toInt ≤ 1100 := q_nltI c14; have t3 : 1080 < x1.toInt := q_nleI c35; have t4 : (-x1.toInt) ≤ lx109.toInt := by { have e1 : (lx109 : Int32).toInt = lx109.toInt := rfl; have e2 : ((-x1) : Int32).toInt = (-x1.toInt) := (q_negI (x := x1.toInt) rfl (by have t1 : 0 ≤ x1.toInt := q_nltI c10; have t2 : x1.toInt ≤ 1100 := q_nltI c14; have t3 : 1080 < x1.toInt := q_nleI c35; omega)); have e3 := q_nltI c116; omega }; omega)); omega), (show (lx110 + 1 : Int32).toInt = 2 + 1 * ((-1) - (lx109 + (-1) : Int32).toInt) from by have t1 : 0 ≤ x1.toInt := q_nltI c10; have t2 : x1.toInt ≤ 1100 := q_nltI c14; have t3 : 0 ≤ x2.toInt := q_nltI c18; have t4 : x2.toInt ≤ 3 := q_leI c22; have t5 : 1080 < x1.toInt := q_nleI c35; have t6 : lx91.toInt ≤ 1080 := q_leI c95; have t7 : (-x1.toInt) ≤ lx109.toInt := by { have e1 : (lx109 : Int32).toInt = lx109.toInt := rfl; have e2 : ((-x1) : Int32).toInt = (-x1.toInt) := (q_negI (x := x1.toInt) rfl (by have t1 : 0 ≤ x1.toInt := q_nltI c10; have t2 : x1.toInt ≤ 1100 := q_nltI c14; have t3 : 1080 < x1.toInt := q_nleI c35; omega)); have e3 := q_nltI c116; omega }; have e0 : (lx109 + (-1) : Int32).toInt = (lx109.toInt + (-1)) := (q_addI (x := lx109.toInt) (y := (-1)) rfl (by decide) (by have t1 : 0 ≤ x1.toInt := q_nltI c10; have t2 : x1.toInt ≤ 1100 := q_nltI c14; have t3 : 1080 < x1.toInt := q_nleI c35; have t4 : (-x1.toInt) ≤ lx109.toInt := by { have e1 : (lx109 : Int32).toInt = lx109.toInt := rfl; have e2 : ((-x1) : Int32).toInt = (-x1.toInt) := (q_negI (x := x1.toInt) rfl (by have t1 : 0 ≤ x1.toInt := q_nltI c10; have t2 : x1.toInt ≤ 1100 := q_nltI c14; have t3 : 1080 < x1.toInt := q_nleI c35; omega)); have e3 := q_nltI c116; omega }; omega) (by have t1 : 0 ≤ x1.toInt := q_nltI c10; have t2 : x1.toInt ≤ 1100 := q_nltI c14; have t3 : 1080 < x1.toInt := q_nleI c35; have t4 : (-x1.toInt) ≤ lx109.toInt := by { have e1 : (lx109 : Int32).toInt = lx109.toInt := rfl; have e2 : ((-x1) : Int32).toInt = (-x1.toInt) := (q_negI (x := x1.toInt) rfl (by have t1 : 0 ≤ x1.toInt := q_nltI c10; have t2 : x1.toInt ≤ 1100 := q_nltI c14; have t3 : 1080 < x1.toInt := q_nleI c35; omega)); have e3 := q_nltI c116; omega }; omega)); have e1 : (lx110 + 1 : Int32).toInt = (lx110.toInt + 1) := (q_addI (x := lx110.toInt) (y := 1) rfl (by decide) (by have t1 : 0 ≤ x1.toInt := q_nltI c10; have t2 : x1.toInt ≤ 1100 := q_nltI c14; have t3 : 1080 < x1.toInt := q_nleI c35; have t4 : (-x1.toInt) ≤ lx109.toInt := by { have e1 : (lx109 : Int32).toInt = lx109.toInt := rfl; have e2 : ((-x1) : Int32).toInt = (-x1.toInt) := (q_negI (x := x1.toInt) rfl (by have t1 : 0 ≤ x1.toInt := q_nltI c10; have t2 : x1.toInt ≤ 1100 := q_nltI c14; have t3 : 1080 < x1.toInt := q_nleI c35; omega)); have e3 := q_nltI c116; omega }; omega) (by have t1 : 0 ≤ x1.toInt := q_nltI c10; have t2 : x1.toInt ≤ 1100 := q_nltI c14; have t3 : 1080 < x1.toInt := q_nleI c35; have t4 : (-x1.toInt) ≤ lx109.toInt := by { have e1 : (lx109 : Int32).toInt = lx109.toInt := rfl; have e2 : ((-x1) : Int32).toInt = (-x1.toInt) := (q_negI (x := x1.toInt) rfl (by have t1 : 0 ≤ x1.toInt := q_nltI c10; have t2 : x1.toInt ≤ 1100 := q_nltI c14; have t3 : 1080 < x1.toInt := q_nleI c35; omega)); have e3 := q_nltI c116; omega }; omega)); omega), V, q_lw hl (q_lw1 0 rfl (q_lw1 1 rfl (q_lw1 2 rfl (q_lw1 3 rfl (q_lw1 4 rfl (q_lw1 5 rfl (q_lw1 6 rfl (q_lw1 7 rfl q_lw0)))))))), hF, hO0, hA1, hA2, hA3, hA6, hA7⟩
            ·
              refine lv_aload_n hx hb d_17_29_138 rfl (lv_at hl 2 rfl) ?_
              refine q_get (ci := 15) (j := 6) (v := .ref qA6) C0 V i_FR rfl rfl hO0 (by decide) w_2081 rfl d_17_29_139 ?_
              refine lv_iload hx hb d_17_29_142 (lv_at hl 0 rfl) ?_
              refine q_iald C0 V hA6 (q_ix (x := lx91.toInt) rfl (by have t1 : 1080 < lx91.toInt := q_nleI c95; omega) (by have t1 : 1080 < lx91.toInt := q_nleI c95; omega)) d_17_29_144 ?_
              refine q_ti (v := 0) (by first | rfl | decide | simp [upd, vp_updL, sb_cl0]) ?_
              refine lv_if_ne (tgt := 154) hx hb d_17_29_145 (by decide) (fun c124 => absurd (by decide) c124) (fun c124 => ?_)
              refine lv_iinc (v := lx91 + (-1)) (lv' := [(7, .int (lx91 + (-1))), (6, .int 0), (0, .ref qO0), (1, .long 0), (3, .int 0), (4, .int x1), (5, .int x2)]) hx hb d_17_29_148 hl (k := 0) rfl (rfl) (by decide) rfl (fun ls hl => ?_)
              refine lv_goto (tgt := 130) hx hb d_17_29_151 (by decide) ?_
              exact ih94 ((lx91 + (-1) : Int32)) _ _ _ _ (show ((lx91 + (-1)).toInt - 1080).toNat < (lx91.toInt - 1080).toNat from by have t1 : 1080 < lx91.toInt := q_nleI c95; have e : (lx91 + (-1)).toInt = (lx91.toInt + (-1)) := (q_addI (x := lx91.toInt) (y := (-1)) rfl (by decide) (by have t1 : 1080 < lx91.toInt := q_nleI c95; omega) (by have t1 : 1080 < lx91.toInt := q_nleI c95; omega)); omega) ⟨(show 1080 ≤ (lx91 + (-1)).toInt ∧ (lx91 + (-1)).toInt ≤ 1403 from by have t1 : 1080 < lx91.toInt := q_nleI c95; have e : (lx91 + (-1)).toInt = (lx91.toInt + (-1)) := (q_addI (x := lx91.toInt) (y := (-1)) rfl (by decide) (by have t1 : 1080 < lx91.toInt := q_nleI c95; omega) (by have t1 : 1080 < lx91.toInt := q_nleI c95; omega)); omega), V, q_lw hl (q_lw1 0 rfl (q_lw1 1 rfl (q_lw1 2 rfl (q_lw1 3 rfl (q_lw1 4 rfl (q_lw1 5 rfl (q_lw1 6 rfl q_lw0))))))), hF, hO0, hA1, hA2, hA3, hA6, hA7⟩
        ·
          refine lv_iconst (v := 1) hx hb d_17_29_55 (by decide) ?_
          refine lv_goto (tgt := 71) hx hb d_17_29_56 (by decide) ?_
          refine q_put (ci := 15) (j := 0) (v := .int 1) (ty := .int) C0 V i_FR o_FR n_FR rfl rfl hO0 (by decide) w_2074 rfl rfl rfl rfl (Nat.le_of_ble_eq_true rfl) d_17_29_71 (fun H locs w125 hu126 hO0 V => ?_)
          replace hO0 : w125[kO0]? = (some (qO0, .inr (15, [.int 1, .ref qA1, .ref qA2, .ref qA3, .ref qA4, .ref qA5, .ref qA6, .ref qA7, .int 0, .int 0, .int 0, .long 0, .int 52, .int 2047, .long 0, .int (-1074), .long 0, .int 0])) : Option (Nat × va_E)) := hO0
          replace hF := q_us hF hu126 (.head _)
          refine lv_aload_n hx hb d_17_29_74 rfl (lv_at hl 0 rfl) ?_
          refine q_get (ci := 15) (j := 0) (v := .int 1) C0 V i_FR rfl rfl hO0 (by decide) w_2074 rfl d_17_29_75 ?_
          refine lv_if_le (tgt := 83) hx hb d_17_29_78 (by decide) (fun c127 => absurd c127 (by decide)) (fun c127 => ?_)
          refine lv_iconst (v := 0) hx hb d_17_29_81 (by decide) ?_
          replace hA1 := (hu126 _ n_A1_O0).trans ((hg4 _ (q_nc n_A1_O0 List.not_mem_nil)).trans (hA1))
          replace hA2 := (hu126 _ n_A2_O0).trans ((hg4 _ (q_nc n_A2_O0 List.not_mem_nil)).trans (hA2))
          replace hA3 := (hu126 _ n_A3_O0).trans ((hg4 _ (q_nc n_A3_O0 List.not_mem_nil)).trans (hA3))
          replace hA6 := (hu126 _ n_A6_O0).trans ((hg4 _ (q_nc n_A6_O0 List.not_mem_nil)).trans (hA6))
          replace hA7 := (hu126 _ n_A7_O0).trans ((hg4 _ (q_nc n_A7_O0 List.not_mem_nil)).trans (hA7))
          exact q_reti C0 V (Or.inr (Or.inr (Or.inr (Or.inr (Or.inr (Or.inr (⟨c10, c14, c18, c22, rfl, hF, hO0, hA1, hA2, hA3, hA6, hA7⟩))))))) d_17_29_82
