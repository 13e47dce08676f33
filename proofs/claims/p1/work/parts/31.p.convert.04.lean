set_option maxRecDepth 100000 in
set_option maxHeartbeats 4000000 in
theorem c_NM_bitsOf_3 (l : Launch) (D : va_G) (g : Nat → ClassId) (ws : va_W) ( qO0 qA1 qA2 qO3 qO4 qO5 qO6 qO7 qA8 qA9 : Nat) (x1 : Int32) (hO0 : ws[116]? = (some (qO0, .inr (12, [.int 0, .ref qA1, .int 0, .ref qA2, .int 0, .ref qO3, .ref qO4, .ref qO5, .ref qO6, .ref qO7, .ref qA8, .ref qA9])) : Option (Nat × va_E))) (hA8 : ws[167]? = (some (qA8, .inl (g 1, 20, .inr (.inl (fun _ => 0)))) : Option (Nat × va_E))) (x1lo : 0 ≤ x1) (x1hi : x1 ≤ 9) : q_mL l y_NM_bitsOf prog_14_method_11_code 3 1 0 0 D g [.ref qO0, .int 0, .int x1] ws (fun r u => 0 = r ∧ ws = u) := by
  intro sz
  refine q_into (by decide) (Nat.le_of_ble_eq_true rfl) ?_
  intro p e s m below meth c ls hsz C0 V hl
  have hx := C0.1
  have hb := C0.2.1
  have hl : lv_has ls 3 [(0, .ref qO0), (1, .int 0), (2, .int x1)] := hl
  refine lv_aload_n hx hb d_14_11_0 rfl (lv_at hl 0 rfl) ?_
  refine q_get (ci := 12) (j := 10) (v := .ref qA8) C0 V i_NM rfl rfl hO0 (by decide) w_2308 rfl d_14_11_1 ?_
  refine lv_iload_n hx hb d_14_11_4 rfl (lv_at hl 1 rfl) ?_
  refine lv_iconst (v := 3) hx hb d_14_11_5 (by decide) ?_
  refine lv_icmp_ne (tgt := 16) hx hb d_14_11_6 (by decide) (fun c1 => ?_) (fun c1 => absurd c1 (by decide))
  refine lv_iload_n hx hb d_14_11_16 rfl (lv_at hl 2 rfl) ?_
  refine q_lald C0 V hA8 (q_ix (x := x1.toInt) rfl (by have t1 : 0 ≤ x1.toInt := q_leI x1lo; have t2 : x1.toInt ≤ 9 := q_leI x1hi; omega) (by have t1 : 0 ≤ x1.toInt := q_leI x1lo; have t2 : x1.toInt ≤ 9 := q_leI x1hi; omega)) d_14_11_17 ?_
  refine q_tl (v := 0) (by first | rfl | decide | simp [upd, vp_updL, sb_cl0]) ?_
  exact q_retl C0 V (⟨rfl, rfl⟩) d_14_11_18
set_option maxRecDepth 100000 in
set_option maxHeartbeats 4000000 in
theorem c_FR_isMore_2 (l : Launch) (D : va_G) (g : Nat → ClassId) (ws : va_W) (kO0 kA3 qO0 qA1 qA2 qA3 qA4 qA5 qA6 qA7 : Nat) (hO0 : ws[kO0]? = (some (qO0, .inr (15, [.int 0, .ref qA1, .ref qA2, .ref qA3, .ref qA4, .ref qA5, .ref qA6, .ref qA7, .int 0, .int 0, .int 0, .long 0, .int 52, .int 2047, .long 0, .int (-1074), .long 0, .int 0])) : Option (Nat × va_E))) (hA3 : ws[kA3]? = (some (qA3, .inl (g 0, 1404, .inl (fun _ => 0))) : Option (Nat × va_E))) : q_mI l y_FR_isMore prog_17_method_26_code 5 (.boolean) 1 0 0 D g [.ref qO0, .int 1080, .int 0] ws (fun r u => 0 = r ∧ ws = u) := by
  intro sz
  refine q_into (by decide) (Nat.le_of_ble_eq_true rfl) ?_
  intro p e s m below meth c ls hsz C0 V hl
  have hx := C0.1
  have hb := C0.2.1
  have hl : lv_has ls 5 [(0, .ref qO0), (1, .int 1080), (2, .int 0)] := hl
  refine lv_iconst (v := 0) hx hb d_17_26_0 (by decide) ?_
  refine lv_istore_n (lv' := [(3, .int 0), (0, .ref qO0), (1, .int 1080), (2, .int 0)]) hx hb d_17_26_1 rfl hl (by decide) rfl (fun ls hl => ?_)
  refine lv_iconst (v := 0) hx hb d_17_26_2 (by decide) ?_
  refine lv_istore (lv' := [(4, .int 0), (3, .int 0), (0, .ref qO0), (1, .int 1080), (2, .int 0)]) hx hb d_17_26_3 hl (by decide) rfl (fun ls hl => ?_)
  refine q_loop (X := Int32) (fun z H locs ls _ => (0 ≤ z.toInt ∧ (z.toInt ≤ 1080 ∨ z.toInt = 0)) ∧ q_Wd D g (va_A ws sz) s ws H locs ∧ lv_has ls 5 [(4, .int z), (3, .int 0), (0, .ref qO0), (1, .int 1080), (2, .int 0)]) (fun z => (1080 - z.toInt).toNat) ?_ ((0 : Int32)) _ _ _ ws ⟨⟨by decide, Or.inr (by decide)⟩, V, hl⟩
  rintro lx1 H locs ls _ ⟨i3, V, hl⟩ ih4
  replace i3 : 0 ≤ lx1.toInt ∧ (lx1.toInt ≤ 1080 ∨ lx1.toInt = 0) := i3
  replace hl : lv_has ls 5 [(4, .int lx1), (3, .int 0), (0, .ref qO0), (1, .int 1080), (2, .int 0)] := hl
  refine lv_iload hx hb d_17_26_5 (lv_at hl 0 rfl) ?_
  refine lv_iload_n hx hb d_17_26_7 rfl (lv_at hl 3 rfl) ?_
  refine lv_icmp_ge (tgt := 37) hx hb d_17_26_8 (by decide) (fun c5 => ?_) (fun c5 => ?_)
  ·
    refine lv_iload_n hx hb d_17_26_37 rfl (lv_at hl 1 rfl) ?_
    refine lv_if_eq (tgt := 45) hx hb d_17_26_38 (by decide) (fun c6 => ?_) (fun c6 => absurd (by decide) c6)
    refine lv_iconst (v := 0) hx hb d_17_26_45 (by decide) ?_
    exact q_retz C0 V (rfl) (⟨rfl, rfl⟩) d_17_26_46
  ·
    refine lv_iload_n hx hb d_17_26_11 rfl (lv_at hl 1 rfl) ?_
    refine lv_if_ne (tgt := 25) hx hb d_17_26_12 (by decide) (fun c7 => absurd (by decide) c7) (fun c7 => ?_)
    refine lv_aload_n hx hb d_17_26_15 rfl (lv_at hl 2 rfl) ?_
    refine q_get (ci := 15) (j := 3) (v := .ref qA3) C0 V i_FR rfl rfl hO0 (by decide) w_2078 rfl d_17_26_16 ?_
    refine lv_iload hx hb d_17_26_19 (lv_at hl 0 rfl) ?_
    refine q_iald C0 V hA3 (q_ix (x := lx1.toInt) rfl (by have t1 : lx1.toInt < 1080 := q_nleI c5; omega) (by have t1 : lx1.toInt < 1080 := q_nleI c5; omega)) d_17_26_21 ?_
    refine q_ti (v := 0) (by first | rfl | decide | simp [upd, vp_updL, sb_cl0]) ?_
    refine lv_if_eq (tgt := 29) hx hb d_17_26_22 (by decide) (fun c8 => ?_) (fun c8 => absurd (by decide) c8)
    refine lv_iconst (v := 0) hx hb d_17_26_29 (by decide) ?_
    refine lv_istore_n (lv' := [(3, .int 0), (4, .int lx1), (0, .ref qO0), (1, .int 1080), (2, .int 0)]) hx hb d_17_26_30 rfl hl (by decide) rfl (fun ls hl => ?_)
    refine lv_iinc (v := lx1 + 1) (lv' := [(4, .int (lx1 + 1)), (3, .int 0), (0, .ref qO0), (1, .int 1080), (2, .int 0)]) hx hb d_17_26_31 hl (k := 1) rfl (rfl) (by decide) rfl (fun ls hl => ?_)
    refine lv_goto (tgt := 5) hx hb d_17_26_34 (by decide) ?_
    exact ih4 ((lx1 + 1 : Int32)) _ _ _ ws (show (1080 - (lx1 + 1).toInt).toNat < (1080 - lx1.toInt).toNat from by have t1 : lx1.toInt < 1080 := q_nleI c5; have e : (lx1 + 1).toInt = (lx1.toInt + 1) := (q_addI (x := lx1.toInt) (y := 1) rfl (by decide) (by have t1 : lx1.toInt < 1080 := q_nleI c5; omega) (by have t1 : lx1.toInt < 1080 := q_nleI c5; omega)); omega) ⟨(show 0 ≤ (lx1 + 1).toInt ∧ ((lx1 + 1).toInt ≤ 1080 ∨ (lx1 + 1).toInt = 0) from by have t1 : lx1.toInt < 1080 := q_nleI c5; have e : (lx1 + 1).toInt = (lx1.toInt + 1) := (q_addI (x := lx1.toInt) (y := 1) rfl (by decide) (by have t1 : lx1.toInt < 1080 := q_nleI c5; omega) (by have t1 : lx1.toInt < 1080 := q_nleI c5; omega)); omega), V, q_lw hl (q_lw1 0 rfl (q_lw1 1 rfl (q_lw1 2 rfl (q_lw1 3 rfl (q_lw1 4 rfl q_lw0)))))⟩
set_option maxRecDepth 100000 in
set_option maxHeartbeats 4000000 in
theorem c_FR_cut_2 (l : Launch) (D : va_G) (g : Nat → ClassId) (ws : va_W) (kO0 kA3 kA6 qO0 qA1 qA2 qA3 qA4 qA5 qA6 qA7 : Nat) (hO0 : ws[kO0]? = (some (qO0, .inr (15, [.int 0, .ref qA1, .ref qA2, .ref qA3, .ref qA4, .ref qA5, .ref qA6, .ref qA7, .int 0, .int 0, .int 0, .long 0, .int 52, .int 2047, .long 0, .int (-1074), .long 0, .int 0])) : Option (Nat × va_E))) (hA3 : ws[kA3]? = (some (qA3, .inl (g 0, 1404, .inl (fun _ => 0))) : Option (Nat × va_E))) (hA6 : ws[kA6]? = (some (qA6, .inl (g 0, 1404, .inl (fun _ => 0))) : Option (Nat × va_E))) (n_A3_A6 : kA3 ≠ kA6) : q_mV l y_FR_cut prog_17_method_11_code 5 1 0 0 D g [.ref qO0, .int 1080, .int 0] ws (fun u => q_un ws u [kA6] ∧ u[kA6]? = (some (qA6, .inl (g 0, 1404, .inl (fun _ => 0))) : Option (Nat × va_E))) := by
  intro sz
  refine q_into (by decide) (Nat.le_of_ble_eq_true rfl) ?_
  intro p e s m below meth c ls hsz C0 V hl
  have hx := C0.1
  have hb := C0.2.1
  have hl : lv_has ls 5 [(0, .ref qO0), (1, .int 1080), (2, .int 0)] := hl
  have n_O0_A6 := Ne.symm (q_df hA6 hO0)
  have hF : q_un ws ws [kA6] := q_u0
  refine lv_iconst (v := 0) hx hb d_17_11_0 (by decide) ?_
  refine lv_istore_n (lv' := [(3, .int 0), (0, .ref qO0), (1, .int 1080), (2, .int 0)]) hx hb d_17_11_1 rfl hl (by decide) rfl (fun ls hl => ?_)
  refine q_loop (X := Int32) (fun z H locs ls w2 => (0 ≤ z.toInt ∧ (z.toInt ≤ 1404 ∨ z.toInt = 0)) ∧ q_Wd D g (va_A ws sz) s w2 H locs ∧ lv_has ls 5 [(3, .int z), (0, .ref qO0), (1, .int 1080), (2, .int 0)] ∧ q_un ws w2 [kA6] ∧ w2[kO0]? = (some (qO0, .inr (15, [.int 0, .ref qA1, .ref qA2, .ref qA3, .ref qA4, .ref qA5, .ref qA6, .ref qA7, .int 0, .int 0, .int 0, .long 0, .int 52, .int 2047, .long 0, .int (-1074), .long 0, .int 0])) : Option (Nat × va_E)) ∧ w2[kA3]? = (some (qA3, .inl (g 0, 1404, .inl (fun _ => 0))) : Option (Nat × va_E)) ∧ w2[kA6]? = (some (qA6, .inl (g 0, 1404, .inl (fun _ => 0))) : Option (Nat × va_E))) (fun z => (1404 - z.toInt).toNat) ?_ ((0 : Int32)) _ _ _ ws ⟨⟨by decide, Or.inr (by decide)⟩, V, hl, hF, hO0, hA3, hA6⟩
  rintro lx1 H locs ls w2 ⟨i3, V, hl, hF, hO0, hA3, hA6⟩ ih4
  replace i3 : 0 ≤ lx1.toInt ∧ (lx1.toInt ≤ 1404 ∨ lx1.toInt = 0) := i3
  replace hl : lv_has ls 5 [(3, .int lx1), (0, .ref qO0), (1, .int 1080), (2, .int 0)] := hl
  replace hO0 : w2[kO0]? = (some (qO0, .inr (15, [.int 0, .ref qA1, .ref qA2, .ref qA3, .ref qA4, .ref qA5, .ref qA6, .ref qA7, .int 0, .int 0, .int 0, .long 0, .int 52, .int 2047, .long 0, .int (-1074), .long 0, .int 0])) : Option (Nat × va_E)) := hO0
  replace hA3 : w2[kA3]? = (some (qA3, .inl (g 0, 1404, .inl (fun _ => 0))) : Option (Nat × va_E)) := hA3
  replace hA6 : w2[kA6]? = (some (qA6, .inl (g 0, 1404, .inl (fun _ => 0))) : Option (Nat × va_E)) := hA6
  refine lv_iload_n hx hb d_17_11_2 rfl (lv_at hl 0 rfl) ?_
  refine lv_sipush (v := 1404) hx hb d_17_11_3 (by decide) ?_
  refine lv_icmp_ge (tgt := 36) hx hb d_17_11_6 (by decide) (fun c5 => ?_) (fun c5 => ?_)
  ·
    refine lv_iload_n hx hb d_17_11_36 rfl (lv_at hl 2 rfl) ?_
    refine lv_istore_n (lv' := [(3, .int 1080), (0, .ref qO0), (1, .int 1080), (2, .int 0)]) hx hb d_17_11_37 rfl hl (by decide) rfl (fun ls hl => ?_)
    refine lv_iload_n hx hb d_17_11_38 rfl (lv_at hl 3 rfl) ?_
    refine lv_istore (lv' := [(4, .int 0), (3, .int 1080), (0, .ref qO0), (1, .int 1080), (2, .int 0)]) hx hb d_17_11_39 hl (by decide) rfl (fun ls hl => ?_)
    refine lv_iload hx hb d_17_11_41 (lv_at hl 0 rfl) ?_
    refine lv_if_eq (tgt := 97) hx hb d_17_11_43 (by decide) (fun c6 => ?_) (fun c6 => absurd (by decide) c6)
    exact q_retv C0 V (⟨hF, hA6⟩) d_17_11_97
  ·
    refine lv_aload_n hx hb d_17_11_9 rfl (lv_at hl 1 rfl) ?_
    refine q_get (ci := 15) (j := 6) (v := .ref qA6) C0 V i_FR rfl rfl hO0 (by decide) w_2081 rfl d_17_11_10 ?_
    refine lv_iload_n hx hb d_17_11_13 rfl (lv_at hl 0 rfl) ?_
    refine lv_iload_n hx hb d_17_11_14 rfl (lv_at hl 0 rfl) ?_
    refine lv_iload_n hx hb d_17_11_15 rfl (lv_at hl 2 rfl) ?_
    refine lv_icmp_ge (tgt := 23) hx hb d_17_11_16 (by decide) (fun c7 => ?_) (fun c7 => ?_)
    ·
      refine lv_aload_n hx hb d_17_11_23 rfl (lv_at hl 1 rfl) ?_
      refine q_get (ci := 15) (j := 3) (v := .ref qA3) C0 V i_FR rfl rfl hO0 (by decide) w_2078 rfl d_17_11_24 ?_
      refine lv_iload_n hx hb d_17_11_27 rfl (lv_at hl 0 rfl) ?_
      refine q_iald C0 V hA3 (q_ix (x := lx1.toInt) rfl (by have t1 : lx1.toInt < 1404 := q_nleI c5; have t2 : 1080 ≤ lx1.toInt := q_leI c7; omega) (by have t1 : lx1.toInt < 1404 := q_nleI c5; have t2 : 1080 ≤ lx1.toInt := q_leI c7; omega)) d_17_11_28 ?_
      refine q_ti (v := 0) (by first | rfl | decide | simp [upd, vp_updL, sb_cl0]) ?_
      refine q_iast C0 V hA6 (q_ix (x := lx1.toInt) rfl (by have t1 : lx1.toInt < 1404 := q_nleI c5; have t2 : 1080 ≤ lx1.toInt := q_leI c7; omega) (by have t1 : lx1.toInt < 1404 := q_nleI c5; have t2 : 1080 ≤ lx1.toInt := q_leI c7; omega)) d_17_11_29 (fun H locs w8 hu9 hA6 V => ?_)
      replace hA6 := q_re (y := (qA6, .inl (g 0, 1404, .inl (fun _ => 0)))) hA6 (q_eI q_upd0)
      replace hA6 : w8[kA6]? = (some (qA6, .inl (g 0, 1404, .inl (fun _ => 0))) : Option (Nat × va_E)) := hA6
      replace hF := q_us hF hu9 (.head _)
      refine lv_iinc (v := lx1 + 1) (lv' := [(3, .int (lx1 + 1)), (0, .ref qO0), (1, .int 1080), (2, .int 0)]) hx hb d_17_11_30 hl (k := 0) rfl (rfl) (by decide) rfl (fun ls hl => ?_)
      refine lv_goto (tgt := 2) hx hb d_17_11_33 (by decide) ?_
      replace hO0 := (hu9 _ n_O0_A6).trans (hO0)
      replace hA3 := (hu9 _ n_A3_A6).trans (hA3)
      exact ih4 ((lx1 + 1 : Int32)) _ _ _ _ (show (1404 - (lx1 + 1).toInt).toNat < (1404 - lx1.toInt).toNat from by have t1 : lx1.toInt < 1404 := q_nleI c5; have t2 : 1080 ≤ lx1.toInt := q_leI c7; have e : (lx1 + 1).toInt = (lx1.toInt + 1) := (q_addI (x := lx1.toInt) (y := 1) rfl (by decide) (by have t1 : lx1.toInt < 1404 := q_nleI c5; have t2 : 1080 ≤ lx1.toInt := q_leI c7; omega) (by have t1 : lx1.toInt < 1404 := q_nleI c5; have t2 : 1080 ≤ lx1.toInt := q_leI c7; omega)); omega) ⟨(show 0 ≤ (lx1 + 1).toInt ∧ ((lx1 + 1).toInt ≤ 1404 ∨ (lx1 + 1).toInt = 0) from by have t1 : lx1.toInt < 1404 := q_nleI c5; have t2 : 1080 ≤ lx1.toInt := q_leI c7; have e : (lx1 + 1).toInt = (lx1.toInt + 1) := (q_addI (x := lx1.toInt) (y := 1) rfl (by decide) (by have t1 : lx1.toInt < 1404 := q_nleI c5; have t2 : 1080 ≤ lx1.toInt := q_leI c7; omega) (by have t1 : lx1.toInt < 1404 := q_nleI c5; have t2 : 1080 ≤ lx1.toInt := q_leI c7; omega)); omega), V, q_lw hl (q_lw1 0 rfl (q_lw1 1 rfl (q_lw1 2 rfl (q_lw1 3 rfl q_lw0)))), hF, hO0, hA3, hA6⟩
    ·
      refine lv_iconst (v := 0) hx hb d_17_11_19 (by decide) ?_
      refine lv_goto (tgt := 29) hx hb d_17_11_20 (by decide) ?_
      refine q_iast C0 V hA6 (q_ix (x := lx1.toInt) rfl (by have t1 : lx1.toInt < 1404 := q_nleI c5; have t2 : lx1.toInt < 1080 := q_nleI c7; omega) (by have t1 : lx1.toInt < 1404 := q_nleI c5; have t2 : lx1.toInt < 1080 := q_nleI c7; omega)) d_17_11_29 (fun H locs w10 hu11 hA6 V => ?_)
      replace hA6 := q_re (y := (qA6, .inl (g 0, 1404, .inl (fun _ => 0)))) hA6 (q_eI q_upd0)
      replace hA6 : w10[kA6]? = (some (qA6, .inl (g 0, 1404, .inl (fun _ => 0))) : Option (Nat × va_E)) := hA6
      replace hF := q_us hF hu11 (.head _)
      refine lv_iinc (v := lx1 + 1) (lv' := [(3, .int (lx1 + 1)), (0, .ref qO0), (1, .int 1080), (2, .int 0)]) hx hb d_17_11_30 hl (k := 0) rfl (rfl) (by decide) rfl (fun ls hl => ?_)
      refine lv_goto (tgt := 2) hx hb d_17_11_33 (by decide) ?_
      replace hO0 := (hu11 _ n_O0_A6).trans (hO0)
      replace hA3 := (hu11 _ n_A3_A6).trans (hA3)
      exact ih4 ((lx1 + 1 : Int32)) _ _ _ _ (show (1404 - (lx1 + 1).toInt).toNat < (1404 - lx1.toInt).toNat from by have t1 : lx1.toInt < 1404 := q_nleI c5; have t2 : lx1.toInt < 1080 := q_nleI c7; have e : (lx1 + 1).toInt = (lx1.toInt + 1) := (q_addI (x := lx1.toInt) (y := 1) rfl (by decide) (by have t1 : lx1.toInt < 1404 := q_nleI c5; have t2 : lx1.toInt < 1080 := q_nleI c7; omega) (by have t1 : lx1.toInt < 1404 := q_nleI c5; have t2 : lx1.toInt < 1080 := q_nleI c7; omega)); omega) ⟨(show 0 ≤ (lx1 + 1).toInt ∧ ((lx1 + 1).toInt ≤ 1404 ∨ (lx1 + 1).toInt = 0) from by have t1 : lx1.toInt < 1404 := q_nleI c5; have t2 : lx1.toInt < 1080 := q_nleI c7; have e : (lx1 + 1).toInt = (lx1.toInt + 1) := (q_addI (x := lx1.toInt) (y := 1) rfl (by decide) (by have t1 : lx1.toInt < 1404 := q_nleI c5; have t2 : lx1.toInt < 1080 := q_nleI c7; omega) (by have t1 : lx1.toInt < 1404 := q_nleI c5; have t2 : lx1.toInt < 1080 := q_nleI c7; omega)); omega), V, q_lw hl (q_lw1 0 rfl (q_lw1 1 rfl (q_lw1 2 rfl (q_lw1 3 rfl q_lw0)))), hF, hO0, hA3, hA6⟩
set_option maxRecDepth 100000 in
set_option maxHeartbeats 4000000 in
theorem c_FR_fixed_2 (l : Launch) (D : va_G) (g : Nat → ClassId) (ws : va_W) (kO0 kA1 kA2 kA3 kA6 kA7 qO0 qA1 qA2 qA3 qA4 qA5 qA6 qA7 : Nat) (hO0 : ws[kO0]? = (some (qO0, .inr (15, [.int 0, .ref qA1, .ref qA2, .ref qA3, .ref qA4, .ref qA5, .ref qA6, .ref qA7, .int 0, .int 0, .int 0, .long 0, .int 0, .int 0, .long 0, .int 0, .long 0, .int 0])) : Option (Nat × va_E))) (hA1 : ws[kA1]? = (some (qA1, .inl (g 0, 156, .inl (fun _ => 0))) : Option (Nat × va_E))) (hA2 : ws[kA2]? = (some (qA2, .inl (g 0, 156, .inl (fun _ => 0))) : Option (Nat × va_E))) (hA3 : ws[kA3]? = (some (qA3, .inl (g 0, 1404, .inl (fun _ => 0))) : Option (Nat × va_E))) (hA6 : ws[kA6]? = (some (qA6, .inl (g 0, 1404, .inl (fun _ => 0))) : Option (Nat × va_E))) (hA7 : ws[kA7]? = (some (qA7, .inl (g 0, 1600, .inl (fun _ => 0))) : Option (Nat × va_E))) (n_A1_A2 : kA1 ≠ kA2) (n_A1_A3 : kA1 ≠ kA3) (n_A1_A6 : kA1 ≠ kA6) (n_A1_A7 : kA1 ≠ kA7) (n_A2_A6 : kA2 ≠ kA6) (n_A2_A7 : kA2 ≠ kA7) (n_A3_A2 : kA3 ≠ kA2) (n_A3_A6 : kA3 ≠ kA6) (n_A3_A7 : kA3 ≠ kA7) (n_A6_A7 : kA6 ≠ kA7) : q_mI l y_FR_fixed prog_17_method_29_code 9 (.int) 3 0 0 D g [.ref qO0, .long 0, .int 0, .int 0, .int 0] ws (fun r u => ∃ (ex0 : Nat → Int32), 1 = r ∧ q_un ws u [kO0, kA1, kA2, kA3, kA6, kA7] ∧ u[kO0]? = (some (qO0, .inr (15, [.int 0, .ref qA1, .ref qA2, .ref qA3, .ref qA4, .ref qA5, .ref qA6, .ref qA7, .int 1, .int 0, .int 0, .long 0, .int 52, .int 2047, .long 0, .int (-1074), .long 0, .int 0])) : Option (Nat × va_E)) ∧ u[kA1]? = (some (qA1, .inl (g 0, 156, .inl ex0)) : Option (Nat × va_E)) ∧ u[kA2]? = (some (qA2, .inl (g 0, 156, .inl (fun _ => 0))) : Option (Nat × va_E)) ∧ u[kA3]? = (some (qA3, .inl (g 0, 1404, .inl (fun _ => 0))) : Option (Nat × va_E)) ∧ u[kA6]? = (some (qA6, .inl (g 0, 1404, .inl (fun _ => 0))) : Option (Nat × va_E)) ∧ u[kA7]? = (some (qA7, .inl (g 0, 1600, .inl (upd (fun _ => 0) 0 48))) : Option (Nat × va_E))) := by
  intro sz
  refine q_into (by decide) (Nat.le_of_ble_eq_true rfl) ?_
  intro p e s m below meth c ls hsz C0 V hl
  have hx := C0.1
  have hb := C0.2.1
  have hl : lv_has ls 9 [(0, .ref qO0), (1, .long 0), (3, .int 0), (4, .int 0), (5, .int 0)] := hl
  have n_A1_O0 := q_df hA1 hO0
  have n_A2_O0 := q_df hA2 hO0
  have n_A3_O0 := q_df hA3 hO0
  have n_A6_A1 := Ne.symm n_A1_A6
  have n_A6_A2 := Ne.symm n_A2_A6
  have n_A6_A3 := Ne.symm n_A3_A6
  have n_A6_O0 := q_df hA6 hO0
  have n_A7_A1 := Ne.symm n_A1_A7
  have n_A7_A2 := Ne.symm n_A2_A7
  have n_A7_A3 := Ne.symm n_A3_A7
  have n_A7_A6 := Ne.symm n_A6_A7
  have n_A7_O0 := q_df hA7 hO0
  have n_O0_A1 := Ne.symm (q_df hA1 hO0)
  have n_O0_A2 := Ne.symm (q_df hA2 hO0)
  have n_O0_A3 := Ne.symm (q_df hA3 hO0)
  have n_O0_A6 := Ne.symm (q_df hA6 hO0)
  have hF : q_un ws ws [kO0, kA1, kA2, kA3, kA6, kA7] := q_u0
  refine lv_aload_n hx hb d_17_29_0 rfl (lv_at hl 0 rfl) ?_
  refine lv_lload_n hx hb d_17_29_1 rfl (lv_at hl 1 rfl) ?_
  refine lv_iload_n hx hb d_17_29_2 rfl (lv_at hl 2 rfl) ?_
  refine lv_if_eq (tgt := 18) hx hb d_17_29_3 (by decide) (fun c1 => ?_) (fun c1 => absurd (by decide) c1)
  refine lv_iconst (v := 0) hx hb d_17_29_18 (by decide) ?_
  refine q_gov V (q_runV (As := [.long 0, .int 0]) (rest := []) (d := 1) (mc := 0) (ms := 0) (ci := 15) C0 V rfl LV_FR_126 (c_FR_open l D g ws kO0 qO0 qA1 qA2 qA3 qA4 qA5 qA6 qA7 hO0 _) rfl rfl hO0 rfl hl.1 rfl (Nat.le_of_ble_eq_true rfl) ⟨by decide, by decide⟩ ⟨Nat.le_of_ble_eq_true rfl, Nat.le_of_ble_eq_true rfl⟩ d_17_29_19) (fun u3 H locs hp2 V => ?_)
  obtain ⟨hg4, hO0⟩ := hp2
  replace hF := q_uc hF hg4 (q_sc (.head _) (fun _ h => absurd h List.not_mem_nil))
  refine lv_aload_n hx hb d_17_29_22 rfl (lv_at hl 0 rfl) ?_
  refine lv_lload_n hx hb d_17_29_23 rfl (lv_at hl 1 rfl) ?_
  refine lv_iload_n hx hb d_17_29_24 rfl (lv_at hl 2 rfl) ?_
  refine q_goi V (q_runS (As := [.long 0, .int 0]) (rest := [.ref qO0]) (d := 1) (mc := 0) (ms := 0) C0 V rfl LS_FR_122 (c_FR_isWrong l D g u3 _) rfl hl.1 rfl (Nat.le_of_ble_eq_true rfl) ⟨by decide, by decide⟩ ⟨Nat.le_of_ble_eq_true rfl, Nat.le_of_ble_eq_true rfl⟩ d_17_29_25) (fun v7 u6 H locs hp5 V => ?_)
  obtain ⟨rfl, rfl⟩ := hp5
  refine lv_if_ne (tgt := 55) hx hb d_17_29_28 (by decide) (fun c9 => absurd (by decide) c9) (fun c9 => ?_)
  refine lv_iload hx hb d_17_29_31 (lv_at hl 3 rfl) ?_
  refine lv_if_lt (tgt := 55) hx hb d_17_29_33 (by decide) (fun c10 => absurd c10 (by decide)) (fun c10 => ?_)
  refine lv_iload hx hb d_17_29_36 (lv_at hl 3 rfl) ?_
  refine lv_sipush (v := 1100) hx hb d_17_29_38 (by decide) ?_
  refine lv_icmp_gt (tgt := 55) hx hb d_17_29_41 (by decide) (fun c11 => absurd c11 (by decide)) (fun c11 => ?_)
  refine lv_iload hx hb d_17_29_44 (lv_at hl 4 rfl) ?_
  refine lv_if_lt (tgt := 55) hx hb d_17_29_46 (by decide) (fun c12 => absurd c12 (by decide)) (fun c12 => ?_)
  refine lv_iload hx hb d_17_29_49 (lv_at hl 4 rfl) ?_
  refine lv_iconst (v := 3) hx hb d_17_29_51 (by decide) ?_
  refine lv_icmp_le (tgt := 59) hx hb d_17_29_52 (by decide) (fun c13 => ?_) (fun c13 => absurd (by decide) c13)
  refine lv_aload_n hx hb d_17_29_59 rfl (lv_at hl 0 rfl) ?_
  refine q_goi V (q_runV (As := []) (rest := [.ref qO0]) (d := 1) (mc := 0) (ms := 0) (ci := 15) C0 V rfl LV_FR_130 (c_FR_isFinite l D g u3 kO0 qO0 qA1 qA2 qA3 qA4 qA5 qA6 qA7 hO0 _) rfl rfl hO0 rfl hl.1 rfl (Nat.le_of_ble_eq_true rfl) ⟨by decide, by decide⟩ ⟨Nat.le_of_ble_eq_true rfl, Nat.le_of_ble_eq_true rfl⟩ d_17_29_60) (fun v16 u15 H locs hp14 V => ?_)
  obtain ⟨rfl, rfl⟩ := hp14
  refine lv_if_ne (tgt := 70) hx hb d_17_29_63 (by decide) (fun c18 => ?_) (fun c18 => absurd c18 (by decide))
  refine lv_iconst (v := 0) hx hb d_17_29_70 (by decide) ?_
  refine q_put (ci := 15) (j := 0) (v := .int 0) (ty := .int) C0 V i_FR o_FR n_FR rfl rfl hO0 (by decide) w_2074 rfl rfl rfl rfl (Nat.le_of_ble_eq_true rfl) d_17_29_71 (fun H locs w19 hu20 hO0 V => ?_)
  replace hO0 : w19[kO0]? = (some (qO0, .inr (15, [.int 0, .ref qA1, .ref qA2, .ref qA3, .ref qA4, .ref qA5, .ref qA6, .ref qA7, .int 0, .int 0, .int 0, .long 0, .int 52, .int 2047, .long 0, .int (-1074), .long 0, .int 0])) : Option (Nat × va_E)) := hO0
  replace hF := q_us hF hu20 (.head _)
  refine lv_aload_n hx hb d_17_29_74 rfl (lv_at hl 0 rfl) ?_
  refine q_get (ci := 15) (j := 0) (v := .int 0) C0 V i_FR rfl rfl hO0 (by decide) w_2074 rfl d_17_29_75 ?_
  refine lv_if_le (tgt := 83) hx hb d_17_29_78 (by decide) (fun c21 => ?_) (fun c21 => absurd (by decide) c21)
  refine lv_aload_n hx hb d_17_29_83 rfl (lv_at hl 0 rfl) ?_
  replace hA1 := (hu20 _ n_A1_O0).trans ((hg4 _ (q_nc n_A1_O0 List.not_mem_nil)).trans (hA1))
  replace hA2 := (hu20 _ n_A2_O0).trans ((hg4 _ (q_nc n_A2_O0 List.not_mem_nil)).trans (hA2))
  replace hA3 := (hu20 _ n_A3_O0).trans ((hg4 _ (q_nc n_A3_O0 List.not_mem_nil)).trans (hA3))
  refine q_gov V (q_runV (As := []) (rest := []) (d := 2) (mc := 0) (ms := 0) (ci := 15) C0 V rfl LV_FR_162 (c_FR_setValue l D g w19 kO0 kA1 kA2 kA3 qO0 qA1 qA2 qA3 qA4 qA5 qA6 qA7 hO0 hA1 hA2 hA3 n_A1_A2 n_A1_A3 n_A3_A2 _) rfl rfl hO0 rfl hl.1 rfl (Nat.le_of_ble_eq_true rfl) ⟨by decide, by decide⟩ ⟨Nat.le_of_ble_eq_true rfl, Nat.le_of_ble_eq_true rfl⟩ d_17_29_84) (fun u23 H locs hp22 V => ?_)
  obtain ⟨y24, hg25, hA1, hA2, hA3⟩ := hp22
  replace hF := q_uc hF hg25 (q_sc (.tail _ (.head _)) (q_sc (.tail _ (.tail _ (.head _))) (q_sc (List.mem_of_getElem? (i := 3) rfl) (fun _ h => absurd h List.not_mem_nil))))
  refine lv_iload hx hb d_17_29_87 (lv_at hl 3 rfl) ?_
  refine lv_sipush (v := 1080) hx hb d_17_29_89 (by decide) ?_
  refine lv_icmp_le (tgt := 99) hx hb d_17_29_92 (by decide) (fun c26 => ?_) (fun c26 => absurd (by decide) c26)
  refine lv_sipush (v := 1080) hx hb d_17_29_99 (by decide) ?_
  refine lv_iload hx hb d_17_29_102 (lv_at hl 3 rfl) ?_
  refine lv_isub hx hb d_17_29_104 ?_
  refine q_ti (v := 1080) (by decide) ?_
  refine lv_istore (lv' := [(6, .int 1080), (0, .ref qO0), (1, .long 0), (3, .int 0), (4, .int 0), (5, .int 0)]) hx hb d_17_29_105 hl (by decide) rfl (fun ls hl => ?_)
  refine lv_aload_n hx hb d_17_29_107 rfl (lv_at hl 1 rfl) ?_
  refine lv_iload hx hb d_17_29_108 (lv_at hl 0 rfl) ?_
  refine lv_aload_n hx hb d_17_29_110 rfl (lv_at hl 1 rfl) ?_
  refine lv_iload hx hb d_17_29_111 (lv_at hl 0 rfl) ?_
  refine lv_iload hx hb d_17_29_113 (lv_at hl 5 rfl) ?_
  replace hO0 := (hg25 _ (q_nc n_O0_A1 (q_nc n_O0_A2 (q_nc n_O0_A3 List.not_mem_nil)))).trans (hO0)
  refine q_goi V (q_runV (As := [.int 1080, .int 0]) (rest := [.int 1080, .ref qO0]) (d := 1) (mc := 0) (ms := 0) (ci := 15) C0 V rfl LV_FR_165 (c_FR_isMore_2 l D g u23 kO0 kA3 qO0 qA1 qA2 qA3 qA4 qA5 qA6 qA7 hO0 hA3 _) rfl rfl hO0 rfl hl.1 rfl (Nat.le_of_ble_eq_true rfl) ⟨by decide, by decide⟩ ⟨Nat.le_of_ble_eq_true rfl, Nat.le_of_ble_eq_true rfl⟩ d_17_29_115) (fun v29 u28 H locs hp27 V => ?_)
  obtain ⟨rfl, rfl⟩ := hp27
  replace hA6 := (hg25 _ (q_nc n_A6_A1 (q_nc n_A6_A2 (q_nc n_A6_A3 List.not_mem_nil)))).trans ((hu20 _ n_A6_O0).trans ((hg4 _ (q_nc n_A6_O0 List.not_mem_nil)).trans (hA6)))
  refine q_gov V (q_runV (As := [.int 1080, .int 0]) (rest := []) (d := 1) (mc := 0) (ms := 0) (ci := 15) C0 V rfl LV_FR_81 (c_FR_cut_2 l D g u23 kO0 kA3 kA6 qO0 qA1 qA2 qA3 qA4 qA5 qA6 qA7 hO0 hA3 hA6 n_A3_A6 _) rfl rfl hO0 rfl hl.1 rfl (Nat.le_of_ble_eq_true rfl) ⟨by decide, by decide⟩ ⟨Nat.le_of_ble_eq_true rfl, Nat.le_of_ble_eq_true rfl⟩ d_17_29_118) (fun u32 H locs hp31 V => ?_)
  obtain ⟨hg33, hA6⟩ := hp31
  replace hF := q_uc hF hg33 (q_sc (List.mem_of_getElem? (i := 4) rfl) (fun _ h => absurd h List.not_mem_nil))
  refine lv_aload_n hx hb d_17_29_121 rfl (lv_at hl 1 rfl) ?_
  replace hO0 := (hg33 _ (q_nc n_O0_A6 List.not_mem_nil)).trans (hO0)
  refine q_gov V (q_runV (As := []) (rest := []) (d := 1) (mc := 0) (ms := 0) (ci := 15) C0 V rfl LV_FR_113 (c_FR_begin l D g u32 kO0 qO0 qA1 qA2 qA3 qA4 qA5 qA6 qA7 hO0 _) rfl rfl hO0 rfl hl.1 rfl (Nat.le_of_ble_eq_true rfl) ⟨by decide, by decide⟩ ⟨Nat.le_of_ble_eq_true rfl, Nat.le_of_ble_eq_true rfl⟩ d_17_29_122) (fun u35 H locs hp34 V => ?_)
  obtain ⟨hg36, hO0⟩ := hp34
  replace hF := q_uc hF hg36 (q_sc (.head _) (fun _ h => absurd h List.not_mem_nil))
  refine lv_sipush (v := 1403) hx hb d_17_29_125 (by decide) ?_
  refine lv_istore (lv' := [(7, .int 1403), (6, .int 1080), (0, .ref qO0), (1, .long 0), (3, .int 0), (4, .int 0), (5, .int 0)]) hx hb d_17_29_128 hl (by decide) rfl (fun ls hl => ?_)
  replace hA1 := (hg36 _ (q_nc n_A1_O0 List.not_mem_nil)).trans ((hg33 _ (q_nc n_A1_A6 List.not_mem_nil)).trans (hA1))
  replace hA2 := (hg36 _ (q_nc n_A2_O0 List.not_mem_nil)).trans ((hg33 _ (q_nc n_A2_A6 List.not_mem_nil)).trans (hA2))
  replace hA3 := (hg36 _ (q_nc n_A3_O0 List.not_mem_nil)).trans ((hg33 _ (q_nc n_A3_A6 List.not_mem_nil)).trans (hA3))
  replace hA6 := (hg36 _ (q_nc n_A6_O0 List.not_mem_nil)).trans (hA6)
  replace hA7 := (hg36 _ (q_nc n_A7_O0 List.not_mem_nil)).trans ((hg33 _ (q_nc n_A7_A6 List.not_mem_nil)).trans ((hg25 _ (q_nc n_A7_A1 (q_nc n_A7_A2 (q_nc n_A7_A3 List.not_mem_nil)))).trans ((hu20 _ n_A7_O0).trans ((hg4 _ (q_nc n_A7_O0 List.not_mem_nil)).trans (hA7)))))
  refine q_loop (X := Int32) (fun z H locs ls w38 => (1080 ≤ z.toInt ∧ z.toInt ≤ 1403) ∧ q_Wd D g (va_A ws sz) s w38 H locs ∧ lv_has ls 9 [(7, .int z), (6, .int 1080), (0, .ref qO0), (1, .long 0), (3, .int 0), (4, .int 0), (5, .int 0)] ∧ q_un ws w38 [kO0, kA1, kA2, kA3, kA6, kA7] ∧ w38[kO0]? = (some (qO0, .inr (15, [.int 0, .ref qA1, .ref qA2, .ref qA3, .ref qA4, .ref qA5, .ref qA6, .ref qA7, .int 0, .int 0, .int 0, .long 0, .int 52, .int 2047, .long 0, .int (-1074), .long 0, .int 0])) : Option (Nat × va_E)) ∧ w38[kA1]? = (some (qA1, .inl (g 0, 156, .inl y24)) : Option (Nat × va_E)) ∧ w38[kA2]? = (some (qA2, .inl (g 0, 156, .inl (fun _ => 0))) : Option (Nat × va_E)) ∧ w38[kA3]? = (some (qA3, .inl (g 0, 1404, .inl (fun _ => 0))) : Option (Nat × va_E)) ∧ w38[kA6]? = (some (qA6, .inl (g 0, 1404, .inl (fun _ => 0))) : Option (Nat × va_E)) ∧ w38[kA7]? = (some (qA7, .inl (g 0, 1600, .inl (fun _ => 0))) : Option (Nat × va_E))) (fun z => (z.toInt - 1080).toNat) ?_ ((1403 : Int32)) _ _ _ u35 ⟨⟨by decide, by decide⟩, V, hl, hF, hO0, hA1, hA2, hA3, hA6, hA7⟩
  rintro lx37 H locs ls w38 ⟨i39, V, hl, hF, hO0, hA1, hA2, hA3, hA6, hA7⟩ ih40
  replace i39 : 1080 ≤ lx37.toInt ∧ lx37.toInt ≤ 1403 := i39
  replace hl : lv_has ls 9 [(7, .int lx37), (6, .int 1080), (0, .ref qO0), (1, .long 0), (3, .int 0), (4, .int 0), (5, .int 0)] := hl
  replace hO0 : w38[kO0]? = (some (qO0, .inr (15, [.int 0, .ref qA1, .ref qA2, .ref qA3, .ref qA4, .ref qA5, .ref qA6, .ref qA7, .int 0, .int 0, .int 0, .long 0, .int 52, .int 2047, .long 0, .int (-1074), .long 0, .int 0])) : Option (Nat × va_E)) := hO0
  replace hA1 : w38[kA1]? = (some (qA1, .inl (g 0, 156, .inl y24)) : Option (Nat × va_E)) := hA1
  replace hA2 : w38[kA2]? = (some (qA2, .inl (g 0, 156, .inl (fun _ => 0))) : Option (Nat × va_E)) := hA2
  replace hA3 : w38[kA3]? = (some (qA3, .inl (g 0, 1404, .inl (fun _ => 0))) : Option (Nat × va_E)) := hA3
  replace hA6 : w38[kA6]? = (some (qA6, .inl (g 0, 1404, .inl (fun _ => 0))) : Option (Nat × va_E)) := hA6
  replace hA7 : w38[kA7]? = (some (qA7, .inl (g 0, 1600, .inl (fun _ => 0))) : Option (Nat × va_E)) := hA7
  refine lv_iload hx hb d_17_29_130 (lv_at hl 0 rfl) ?_
  refine lv_sipush (v := 1080) hx hb d_17_29_132 (by decide) ?_
  refine lv_icmp_le (tgt := 154) hx hb d_17_29_135 (by decide) (fun c41 => ?_) (fun c41 => ?_)
  ·
    refine lv_iload hx hb d_17_29_154 (lv_at hl 0 rfl) ?_
    refine q_ti (v := 1080) (q_Ieq (x := lx37.toInt) (y := 1080) rfl (by decide) (by have t1 : lx37.toInt ≤ 1080 := q_leI c41; omega)) ?_
    refine lv_sipush (v := 1080) hx hb d_17_29_156 (by decide) ?_
    refine lv_isub hx hb d_17_29_159 ?_
    refine q_ti (v := 0) (by decide) ?_
    refine lv_istore (lv' := [(8, .int 0), (7, .int lx37), (6, .int 1080), (0, .ref qO0), (1, .long 0), (3, .int 0), (4, .int 0), (5, .int 0)]) hx hb d_17_29_160 hl (by decide) rfl (fun ls hl => ?_)
    refine lv_iload hx hb d_17_29_162 (lv_at hl 0 rfl) ?_
    refine lv_if_lt (tgt := 186) hx hb d_17_29_164 (by decide) (fun c42 => absurd c42 (by decide)) (fun c42 => ?_)
    refine lv_aload_n hx hb d_17_29_167 rfl (lv_at hl 3 rfl) ?_
    refine lv_bipush (v := 48) hx hb d_17_29_168 (by decide) ?_
    refine lv_aload_n hx hb d_17_29_170 rfl (lv_at hl 3 rfl) ?_
    refine lv_iload hx hb d_17_29_171 (lv_at hl 0 rfl) ?_
    refine q_goi V (q_runV (As := [.int 0]) (rest := [.int 48, .ref qO0]) (d := 1) (mc := 0) (ms := 0) (ci := 15) C0 V rfl LV_FR_169 (c_FR_figureAt l D g w38 kO0 kA6 qO0 qA1 qA2 qA3 qA4 qA5 qA6 qA7 hO0 hA6 _) rfl rfl hO0 rfl hl.1 rfl (Nat.le_of_ble_eq_true rfl) ⟨by decide, by decide⟩ ⟨Nat.le_of_ble_eq_true rfl, Nat.le_of_ble_eq_true rfl⟩ d_17_29_173) (fun v45 u44 H locs hp43 V => ?_)
    obtain ⟨rfl, rfl⟩ := hp43
    refine lv_iadd hx hb d_17_29_176 ?_
    refine q_ti (v := 48) (by decide) ?_
    refine q_gov V (q_runV (As := [.int 48]) (rest := []) (d := 1) (mc := 0) (ms := 0) (ci := 15) C0 V rfl LV_FR_110 (c_FR_add l D g w38 kO0 kA7 qO0 qA1 qA2 qA3 qA4 qA5 qA6 qA7 hO0 hA7 _) rfl rfl hO0 rfl hl.1 rfl (Nat.le_of_ble_eq_true rfl) ⟨by decide, by decide⟩ ⟨Nat.le_of_ble_eq_true rfl, Nat.le_of_ble_eq_true rfl⟩ d_17_29_177) (fun u48 H locs hp47 V => ?_)
    obtain ⟨hg49, hO0, hA7⟩ := hp47
    replace hF := q_uc hF hg49 (q_sc (.head _) (q_sc (List.mem_of_getElem? (i := 5) rfl) (fun _ h => absurd h List.not_mem_nil)))
    refine lv_iinc (v := (-1)) (lv' := [(8, .int (-1)), (7, .int lx37), (6, .int 1080), (0, .ref qO0), (1, .long 0), (3, .int 0), (4, .int 0), (5, .int 0)]) hx hb d_17_29_180 hl (k := 0) rfl (by decide) (by decide) rfl (fun ls hl => ?_)
    refine lv_goto (tgt := 162) hx hb d_17_29_183 (by decide) ?_
    refine lv_iload hx hb d_17_29_162 (lv_at hl 0 rfl) ?_
    refine lv_if_lt (tgt := 186) hx hb d_17_29_164 (by decide) (fun c50 => ?_) (fun c50 => absurd (by decide) c50)
    refine lv_iload hx hb d_17_29_186 (lv_at hl 6 rfl) ?_
    refine lv_if_le (tgt := 197) hx hb d_17_29_188 (by decide) (fun c51 => ?_) (fun c51 => absurd (by decide) c51)
    refine lv_iconst (v := (-1)) hx hb d_17_29_197 (by decide) ?_
    refine lv_istore (lv' := [(8, .int (-1)), (7, .int lx37), (6, .int 1080), (0, .ref qO0), (1, .long 0), (3, .int 0), (4, .int 0), (5, .int 0)]) hx hb d_17_29_198 hl (by decide) rfl (fun ls hl => ?_)
    refine lv_iload hx hb d_17_29_200 (lv_at hl 0 rfl) ?_
    refine lv_iload hx hb d_17_29_202 (lv_at hl 6 rfl) ?_
    refine lv_ineg hx hb d_17_29_204 ?_
    refine q_ti (v := 0) (by decide) ?_
    refine lv_icmp_lt (tgt := 227) hx hb d_17_29_205 (by decide) (fun c52 => ?_) (fun c52 => absurd (by decide) c52)
    refine lv_aload_n hx hb d_17_29_227 rfl (lv_at hl 3 rfl) ?_
    refine q_get (ci := 15) (j := 8) (v := .int 1) C0 V i_FR rfl rfl hO0 (by decide) w_2084 rfl d_17_29_228 ?_
    replace hA1 := (hg49 _ (q_nc n_A1_O0 (q_nc n_A1_A7 List.not_mem_nil))).trans (hA1)
    replace hA2 := (hg49 _ (q_nc n_A2_O0 (q_nc n_A2_A7 List.not_mem_nil))).trans (hA2)
    replace hA3 := (hg49 _ (q_nc n_A3_O0 (q_nc n_A3_A7 List.not_mem_nil))).trans (hA3)
    replace hA6 := (hg49 _ (q_nc n_A6_O0 (q_nc n_A6_A7 List.not_mem_nil))).trans (hA6)
    exact q_reti C0 V (⟨y24, rfl, hF, hO0, hA1, hA2, hA3, hA6, hA7⟩) d_17_29_231
  ·
    refine lv_aload_n hx hb d_17_29_138 rfl (lv_at hl 2 rfl) ?_
    refine q_get (ci := 15) (j := 6) (v := .ref qA6) C0 V i_FR rfl rfl hO0 (by decide) w_2081 rfl d_17_29_139 ?_
    refine lv_iload hx hb d_17_29_142 (lv_at hl 0 rfl) ?_
    refine q_iald C0 V hA6 (q_ix (x := lx37.toInt) rfl (by have t1 : 1080 < lx37.toInt := q_nleI c41; omega) (by have t1 : 1080 < lx37.toInt := q_nleI c41; omega)) d_17_29_144 ?_
    refine q_ti (v := 0) (by first | rfl | decide | simp [upd, vp_updL, sb_cl0]) ?_
    refine lv_if_ne (tgt := 154) hx hb d_17_29_145 (by decide) (fun c53 => absurd (by decide) c53) (fun c53 => ?_)
    refine lv_iinc (v := lx37 + (-1)) (lv' := [(7, .int (lx37 + (-1))), (6, .int 1080), (0, .ref qO0), (1, .long 0), (3, .int 0), (4, .int 0), (5, .int 0)]) hx hb d_17_29_148 hl (k := 0) rfl (rfl) (by decide) rfl (fun ls hl => ?_)
    refine lv_goto (tgt := 130) hx hb d_17_29_151 (by decide) ?_
    exact ih40 ((lx37 + (-1) : Int32)) _ _ _ _ (show ((lx37 + (-1)).toInt - 1080).toNat < (lx37.toInt - 1080).toNat from by have t1 : 1080 < lx37.toInt := q_nleI c41; have e : (lx37 + (-1)).toInt = (lx37.toInt + (-1)) := (q_addI (x := lx37.toInt) (y := (-1)) rfl (by decide) (by have t1 : 1080 < lx37.toInt := q_nleI c41; omega) (by have t1 : 1080 < lx37.toInt := q_nleI c41; omega)); omega) ⟨(show 1080 ≤ (lx37 + (-1)).toInt ∧ (lx37 + (-1)).toInt ≤ 1403 from by have t1 : 1080 < lx37.toInt := q_nleI c41; have e : (lx37 + (-1)).toInt = (lx37.toInt + (-1)) := (q_addI (x := lx37.toInt) (y := (-1)) rfl (by decide) (by have t1 : 1080 < lx37.toInt := q_nleI c41; omega) (by have t1 : 1080 < lx37.toInt := q_nleI c41; omega)); omega), V, q_lw hl (q_lw1 0 rfl (q_lw1 1 rfl (q_lw1 2 rfl (q_lw1 3 rfl (q_lw1 4 rfl (q_lw1 5 rfl (q_lw1 6 rfl q_lw0))))))), hF, hO0, hA1, hA2, hA3, hA6, hA7⟩
set_option maxRecDepth 100000 in
set_option maxHeartbeats 4000000 in
theorem c_NM_load_4 (l : Launch) (D : va_G) (g : Nat → ClassId) (ws : va_W) ( qA0 qA1 : Nat) (hA0 : ws[152]? = (some (qA0, .inl (g 0, 1600, .inl (upd (fun _ => 0) 0 48))) : Option (Nat × va_E))) (hA1 : ws[120]? = (some (qA1, .inl (g 0, 4100, .inl (fun _ => 0))) : Option (Nat × va_E))) : q_mI l y_NM_load prog_14_method_7_code 4 (.int) 1 0 0 D g [.ref qA0, .int 1, .ref qA1] ws (fun r u => 1 = r ∧ q_un ws u [120] ∧ u[120]? = (some (qA1, .inl (g 0, 4100, .inl (upd (fun _ => 0) 0 48))) : Option (Nat × va_E))) := by
  intro sz
  refine q_into (by decide) (Nat.le_of_ble_eq_true rfl) ?_
  intro p e s m below meth c ls hsz C0 V hl
  have hx := C0.1
  have hb := C0.2.1
  have hl : lv_has ls 4 [(0, .ref qA0), (1, .int 1), (2, .ref qA1)] := hl
  have hF : q_un ws ws [120] := q_u0
  refine lv_iconst (v := 0) hx hb d_14_7_0 (by decide) ?_
  refine lv_istore_n (lv' := [(3, .int 0), (0, .ref qA0), (1, .int 1), (2, .ref qA1)]) hx hb d_14_7_1 rfl hl (by decide) rfl (fun ls hl => ?_)
  refine lv_iload_n hx hb d_14_7_2 rfl (lv_at hl 0 rfl) ?_
  refine lv_iload_n hx hb d_14_7_3 rfl (lv_at hl 2 rfl) ?_
  refine lv_icmp_ge (tgt := 19) hx hb d_14_7_4 (by decide) (fun c1 => absurd c1 (by decide)) (fun c1 => ?_)
  refine lv_aload_n hx hb d_14_7_7 rfl (lv_at hl 3 rfl) ?_
  refine lv_iload_n hx hb d_14_7_8 rfl (lv_at hl 0 rfl) ?_
  refine lv_aload_n hx hb d_14_7_9 rfl (lv_at hl 1 rfl) ?_
  refine lv_iload_n hx hb d_14_7_10 rfl (lv_at hl 0 rfl) ?_
  refine q_iald C0 V hA0 (by unfold vp_in; decide) d_14_7_11 ?_
  refine q_ti (v := 48) (by first | rfl | decide | simp [upd, vp_updL, sb_cl0]) ?_
  refine q_iast C0 V hA1 (by unfold vp_in; decide) d_14_7_12 (fun H locs w2 hu3 hA1 V => ?_)
  replace hA1 : w2[120]? = (some (qA1, .inl (g 0, 4100, .inl (upd (fun _ => 0) 0 48))) : Option (Nat × va_E)) := hA1
  replace hF := q_us hF hu3 (.head _)
  refine lv_iinc (v := 1) (lv' := [(3, .int 1), (0, .ref qA0), (1, .int 1), (2, .ref qA1)]) hx hb d_14_7_13 hl (k := 0) rfl (by decide) (by decide) rfl (fun ls hl => ?_)
  refine lv_goto (tgt := 2) hx hb d_14_7_16 (by decide) ?_
  refine lv_iload_n hx hb d_14_7_2 rfl (lv_at hl 0 rfl) ?_
  refine lv_iload_n hx hb d_14_7_3 rfl (lv_at hl 2 rfl) ?_
  refine lv_icmp_ge (tgt := 19) hx hb d_14_7_4 (by decide) (fun c4 => ?_) (fun c4 => absurd (by decide) c4)
  refine lv_iload_n hx hb d_14_7_19 rfl (lv_at hl 2 rfl) ?_
  exact q_reti C0 V (⟨rfl, hF, hA1⟩) d_14_7_20
set_option maxRecDepth 100000 in
set_option maxHeartbeats 4000000 in
theorem c_NM_exact_2 (l : Launch) (D : va_G) (g : Nat → ClassId) (ws : va_W) ( qO0 qA1 qA2 qA3 qO4 qO5 qO6 qO7 qO8 qA9 qA10 qA34 qA35 qA36 qA37 qA38 qA39 qA40 : Nat) (hO0 : ws[116]? = (some (qO0, .inr (12, [.int 0, .ref qA2, .int 0, .ref qA3, .int 0, .ref qO4, .ref qO5, .ref qO6, .ref qO7, .ref qO8, .ref qA9, .ref qA10])) : Option (Nat × va_E))) (hA1 : ws[120]? = (some (qA1, .inl (g 0, 4100, .inl (fun _ => 0))) : Option (Nat × va_E))) (hO6 : ws[145]? = (some (qO6, .inr (15, [.int 0, .ref qA34, .ref qA35, .ref qA36, .ref qA37, .ref qA38, .ref qA39, .ref qA40, .int 0, .int 0, .int 0, .long 0, .int 0, .int 0, .long 0, .int 0, .long 0, .int 0])) : Option (Nat × va_E))) (hA34 : ws[146]? = (some (qA34, .inl (g 0, 156, .inl (fun _ => 0))) : Option (Nat × va_E))) (hA35 : ws[147]? = (some (qA35, .inl (g 0, 156, .inl (fun _ => 0))) : Option (Nat × va_E))) (hA36 : ws[148]? = (some (qA36, .inl (g 0, 1404, .inl (fun _ => 0))) : Option (Nat × va_E))) (hA39 : ws[151]? = (some (qA39, .inl (g 0, 1404, .inl (fun _ => 0))) : Option (Nat × va_E))) (hA40 : ws[152]? = (some (qA40, .inl (g 0, 1600, .inl (fun _ => 0))) : Option (Nat × va_E))) : q_mI l y_NM_exact prog_14_method_28_code 7 (.int) 4 0 0 D g [.ref qO0, .int 0, .long 0, .int 0, .ref qA1] ws (fun r u => ∃ (ex0 : Nat → Int32), 1 = r ∧ q_un ws u [120, 145, 146, 147, 148, 151, 152] ∧ u[120]? = (some (qA1, .inl (g 0, 4100, .inl (upd (fun _ => 0) 0 48))) : Option (Nat × va_E)) ∧ u[145]? = (some (qO6, .inr (15, [.int 0, .ref qA34, .ref qA35, .ref qA36, .ref qA37, .ref qA38, .ref qA39, .ref qA40, .int 1, .int 0, .int 0, .long 0, .int 52, .int 2047, .long 0, .int (-1074), .long 0, .int 0])) : Option (Nat × va_E)) ∧ u[146]? = (some (qA34, .inl (g 0, 156, .inl ex0)) : Option (Nat × va_E)) ∧ u[147]? = (some (qA35, .inl (g 0, 156, .inl (fun _ => 0))) : Option (Nat × va_E)) ∧ u[148]? = (some (qA36, .inl (g 0, 1404, .inl (fun _ => 0))) : Option (Nat × va_E)) ∧ u[151]? = (some (qA39, .inl (g 0, 1404, .inl (fun _ => 0))) : Option (Nat × va_E)) ∧ u[152]? = (some (qA40, .inl (g 0, 1600, .inl (upd (fun _ => 0) 0 48))) : Option (Nat × va_E))) := by
  intro sz
  refine q_into (by decide) (Nat.le_of_ble_eq_true rfl) ?_
  intro p e s m below meth c ls hsz C0 V hl
  have hx := C0.1
  have hb := C0.2.1
  have hl : lv_has ls 7 [(0, .ref qO0), (1, .int 0), (2, .long 0), (4, .int 0), (5, .ref qA1)] := hl
  have hF : q_un ws ws [120, 145, 146, 147, 148, 151, 152] := q_u0
  refine lv_aload_n hx hb d_14_28_0 rfl (lv_at hl 0 rfl) ?_
  refine q_get (ci := 12) (j := 7) (v := .ref qO6) C0 V i_NM rfl rfl hO0 (by decide) w_2305 rfl d_14_28_1 ?_
  refine lv_lload_n hx hb d_14_28_4 rfl (lv_at hl 2 rfl) ?_
  refine lv_iload_n hx hb d_14_28_5 rfl (lv_at hl 1 rfl) ?_
  refine lv_iconst (v := 3) hx hb d_14_28_6 (by decide) ?_
  refine lv_icmp_ne (tgt := 14) hx hb d_14_28_7 (by decide) (fun c1 => ?_) (fun c1 => absurd c1 (by decide))
  refine lv_iconst (v := 0) hx hb d_14_28_14 (by decide) ?_
  refine lv_iload hx hb d_14_28_15 (lv_at hl 3 rfl) ?_
  refine lv_iconst (v := 0) hx hb d_14_28_17 (by decide) ?_
  refine q_goi V (q_runV (As := [.long 0, .int 0, .int 0, .int 0]) (rest := []) (d := 3) (mc := 0) (ms := 0) (ci := 15) C0 V rfl LV_NM_227 (c_FR_fixed_2 l D g ws 145 146 147 148 151 152 qO6 qA34 qA35 qA36 qA37 qA38 qA39 qA40 hO6 hA34 hA35 hA36 hA39 hA40 (q_pd 146 147 rfl) (q_pd 146 148 rfl) (q_pd 146 151 rfl) (q_pd 146 152 rfl) (q_pd 147 151 rfl) (q_pd 147 152 rfl) (q_pd 148 147 rfl) (q_pd 148 151 rfl) (q_pd 148 152 rfl) (q_pd 151 152 rfl) _) rfl rfl hO6 rfl hl.1 rfl (Nat.le_of_ble_eq_true rfl) ⟨by decide, by decide⟩ ⟨Nat.le_of_ble_eq_true rfl, Nat.le_of_ble_eq_true rfl⟩ d_14_28_18) (fun v4 u3 H locs hp2 V => ?_)
  obtain ⟨y5, rfl, hg6, hO6, hA34, hA35, hA36, hA39, hA40⟩ := hp2
  replace hF := q_uc hF hg6 (q_sc (.tail _ (.head _)) (q_sc (.tail _ (.tail _ (.head _))) (q_sc (List.mem_of_getElem? (i := 3) rfl) (q_sc (List.mem_of_getElem? (i := 4) rfl) (q_sc (List.mem_of_getElem? (i := 5) rfl) (q_sc (List.mem_of_getElem? (i := 6) rfl) (fun _ h => absurd h List.not_mem_nil)))))))
  refine lv_istore (lv' := [(6, .int 1), (0, .ref qO0), (1, .int 0), (2, .long 0), (4, .int 0), (5, .ref qA1)]) hx hb d_14_28_21 hl (by decide) rfl (fun ls hl => ?_)
  refine lv_aload_n hx hb d_14_28_23 rfl (lv_at hl 1 rfl) ?_
  replace hO0 := (hg6 _ (q_nc (q_pd 116 145 rfl) (q_nc (q_pd 116 146 rfl) (q_nc (q_pd 116 147 rfl) (q_nc (q_pd 116 148 rfl) (q_nc (q_pd 116 151 rfl) (q_nc (q_pd 116 152 rfl) List.not_mem_nil))))))).trans (hO0)
  refine q_get (ci := 12) (j := 7) (v := .ref qO6) C0 V i_NM rfl rfl hO0 (by decide) w_2305 rfl d_14_28_24 ?_
  refine q_getN (ci := 15) (j := 7) (v := .ref qA40) C0 V i_FR rfl rfl hO6 (by decide) wo_2083 rfl d_14_28_27 ?_
  refine lv_iload hx hb d_14_28_30 (lv_at hl 0 rfl) ?_
  refine lv_aload hx hb d_14_28_32 (lv_at hl 5 rfl) ?_
  replace hA1 := (hg6 _ (q_nc (q_pd 120 145 rfl) (q_nc (q_pd 120 146 rfl) (q_nc (q_pd 120 147 rfl) (q_nc (q_pd 120 148 rfl) (q_nc (q_pd 120 151 rfl) (q_nc (q_pd 120 152 rfl) List.not_mem_nil))))))).trans (hA1)
  refine q_goi V (q_runS (As := [.ref qA40, .int 1, .ref qA1]) (rest := []) (d := 1) (mc := 0) (ms := 0) C0 V rfl LS_NM_90 (c_NM_load_4 l D g u3 qA40 qA1 hA40 hA1 _) rfl hl.1 rfl (Nat.le_of_ble_eq_true rfl) ⟨by decide, by decide⟩ ⟨Nat.le_of_ble_eq_true rfl, Nat.le_of_ble_eq_true rfl⟩ d_14_28_34) (fun v9 u8 H locs hp7 V => ?_)
  obtain ⟨rfl, hg10, hA1⟩ := hp7
  replace hF := q_uc hF hg10 (q_sc (.head _) (fun _ h => absurd h List.not_mem_nil))
  replace hO6 := (hg10 _ (q_nc (q_pd 145 120 rfl) List.not_mem_nil)).trans (hO6)
  replace hA34 := (hg10 _ (q_nc (q_pd 146 120 rfl) List.not_mem_nil)).trans (hA34)
  replace hA35 := (hg10 _ (q_nc (q_pd 147 120 rfl) List.not_mem_nil)).trans (hA35)
  replace hA36 := (hg10 _ (q_nc (q_pd 148 120 rfl) List.not_mem_nil)).trans (hA36)
  replace hA39 := (hg10 _ (q_nc (q_pd 151 120 rfl) List.not_mem_nil)).trans (hA39)
  replace hA40 := (hg10 _ (q_nc (q_pd 152 120 rfl) List.not_mem_nil)).trans (hA40)
  exact q_reti C0 V (⟨y5, rfl, hF, hA1, hO6, hA34, hA35, hA36, hA39, hA40⟩) d_14_28_37
theorem d_19_18_0 : decode prog_19_method_18_code 0 = .ok (.iload_n 0, 1) := by decide +kernel
theorem d_19_18_1 : decode prog_19_method_18_code 1 = .ok (.bipush 48, 2) := by decide +kernel
theorem d_19_18_3 : decode prog_19_method_18_code 3 = .ok (.if_icmp .lt 16, 3) := by decide +kernel
theorem d_19_18_6 : decode prog_19_method_18_code 6 = .ok (.iload_n 0, 1) := by decide +kernel
theorem d_19_18_7 : decode prog_19_method_18_code 7 = .ok (.bipush 57, 2) := by decide +kernel
theorem d_19_18_9 : decode prog_19_method_18_code 9 = .ok (.if_icmp .gt 10, 3) := by decide +kernel
theorem d_19_18_12 : decode prog_19_method_18_code 12 = .ok (.iload_n 0, 1) := by decide +kernel
theorem d_19_18_13 : decode prog_19_method_18_code 13 = .ok (.bipush 48, 2) := by decide +kernel
theorem d_19_18_15 : decode prog_19_method_18_code 15 = .ok (.isub, 1) := by decide +kernel
theorem d_19_18_16 : decode prog_19_method_18_code 16 = .ok (.goto 49, 3) := by decide +kernel
theorem d_19_18_65 : decode prog_19_method_18_code 65 = .ok (.ireturn, 1) := by decide +kernel
def y_WR_digit : MethodName := ⟨"NumberHouseModel$WholeRows", "digit", "(I)I"⟩
set_option maxRecDepth 100000 in
set_option maxHeartbeats 4000000 in
theorem c_WR_digit (l : Launch) (D : va_G) (g : Nat → ClassId) (ws : va_W) : q_mI l y_WR_digit prog_19_method_18_code 1 (.int) 1 0 0 D g [.int 48] ws (fun r u => 0 = r ∧ ws = u) := by
  intro sz
  refine q_into (by decide) (Nat.le_of_ble_eq_true rfl) ?_
  intro p e s m below meth c ls hsz C0 V hl
  have hx := C0.1
  have hb := C0.2.1
  have hl : lv_has ls 1 [(0, .int 48)] := hl
  refine lv_iload_n hx hb d_19_18_0 rfl (lv_at hl 0 rfl) ?_
  refine lv_bipush (v := 48) hx hb d_19_18_1 (by decide) ?_
  refine lv_icmp_lt (tgt := 19) hx hb d_19_18_3 (by decide) (fun c1 => absurd c1 (by decide)) (fun c1 => ?_)
  refine lv_iload_n hx hb d_19_18_6 rfl (lv_at hl 0 rfl) ?_
  refine lv_bipush (v := 57) hx hb d_19_18_7 (by decide) ?_
  refine lv_icmp_gt (tgt := 19) hx hb d_19_18_9 (by decide) (fun c2 => absurd c2 (by decide)) (fun c2 => ?_)
  refine lv_iload_n hx hb d_19_18_12 rfl (lv_at hl 0 rfl) ?_
  refine lv_bipush (v := 48) hx hb d_19_18_13 (by decide) ?_
  refine lv_isub hx hb d_19_18_15 ?_
  refine q_ti (v := 0) (by decide) ?_
  refine lv_goto (tgt := 65) hx hb d_19_18_16 (by decide) ?_
  exact q_reti C0 V (⟨rfl, rfl⟩) d_19_18_65
theorem d_19_11_0 : decode prog_19_method_11_code 0 = .ok (.iload_n 2, 1) := by decide +kernel
theorem d_19_11_1 : decode prog_19_method_11_code 1 = .ok (.i2l, 1) := by decide +kernel
theorem d_19_11_2 : decode prog_19_method_11_code 2 = .ok (.lstore_n 3, 1) := by decide +kernel
theorem d_19_11_3 : decode prog_19_method_11_code 3 = .ok (.aload_n 0, 1) := by decide +kernel
theorem d_19_11_4 : decode prog_19_method_11_code 4 = .ok (.invokestatic 59, 3) := by decide +kernel
theorem d_19_11_7 : decode prog_19_method_11_code 7 = .ok (.istore 5, 2) := by decide +kernel
theorem d_19_11_9 : decode prog_19_method_11_code 9 = .ok (.iconst 0, 1) := by decide +kernel
theorem d_19_11_10 : decode prog_19_method_11_code 10 = .ok (.istore 6, 2) := by decide +kernel
theorem d_19_11_12 : decode prog_19_method_11_code 12 = .ok (.iload 6, 2) := by decide +kernel
theorem d_19_11_14 : decode prog_19_method_11_code 14 = .ok (.iload 5, 2) := by decide +kernel
theorem d_19_11_16 : decode prog_19_method_11_code 16 = .ok (.if_icmp .lt 9, 3) := by decide +kernel
theorem d_19_11_19 : decode prog_19_method_11_code 19 = .ok (.lload_n 3, 1) := by decide +kernel
theorem d_19_11_20 : decode prog_19_method_11_code 20 = .ok (.lconst 0, 1) := by decide +kernel
theorem d_19_11_21 : decode prog_19_method_11_code 21 = .ok (.lcmp, 1) := by decide +kernel
theorem d_19_11_22 : decode prog_19_method_11_code 22 = .ok (.ifCond .eq 43, 3) := by decide +kernel
theorem d_19_11_65 : decode prog_19_method_11_code 65 = .ok (.return_, 1) := by decide +kernel
def y_WR_grow : MethodName := ⟨"NumberHouseModel$WholeRows", "grow", "([III)V"⟩
set_option maxRecDepth 100000 in
set_option maxHeartbeats 4000000 in
theorem c_WR_grow (l : Launch) (D : va_G) (g : Nat → ClassId) (ws : va_W) (kA0 qA0 : Nat) (hA0 : ws[kA0]? = (some (qA0, .inl (g 0, 264, .inl (fun _ => 0))) : Option (Nat × va_E))) : q_mV l y_WR_grow prog_19_method_11_code 7 2 0 0 D g [.ref qA0, .int 10, .int 0] ws (fun u => ws = u) := by
  intro sz
  refine q_into (by decide) (Nat.le_of_ble_eq_true rfl) ?_
  intro p e s m below meth c ls hsz C0 V hl
  have hx := C0.1
  have hb := C0.2.1
  have hl : lv_has ls 7 [(0, .ref qA0), (1, .int 10), (2, .int 0)] := hl
  refine lv_iload_n hx hb d_19_11_0 rfl (lv_at hl 2 rfl) ?_
  refine lv_i2l hx hb d_19_11_1 rfl ?_
  refine q_tl (v := 0) (by decide) ?_
  refine lv_lstore_n (lv' := [(3, .long 0), (0, .ref qA0), (1, .int 10), (2, .int 0)]) hx hb d_19_11_2 rfl hl (by decide) rfl (fun ls hl => ?_)
  refine lv_aload_n hx hb d_19_11_3 rfl (lv_at hl 1 rfl) ?_
  refine q_goi V (q_runS (As := [.ref qA0]) (rest := []) (d := 1) (mc := 0) (ms := 0) C0 V rfl LS_WR_59 (c_WR_size l D g ws kA0 qA0 hA0 _) rfl hl.1 rfl (Nat.le_of_ble_eq_true rfl) ⟨by decide, by decide⟩ ⟨Nat.le_of_ble_eq_true rfl, Nat.le_of_ble_eq_true rfl⟩ d_19_11_4) (fun v3 u2 H locs hp1 V => ?_)
  obtain ⟨rfl, rfl⟩ := hp1
  refine lv_istore (lv' := [(5, .int 0), (3, .long 0), (0, .ref qA0), (1, .int 10), (2, .int 0)]) hx hb d_19_11_7 hl (by decide) rfl (fun ls hl => ?_)
  refine lv_iconst (v := 0) hx hb d_19_11_9 (by decide) ?_
  refine lv_istore (lv' := [(6, .int 0), (5, .int 0), (3, .long 0), (0, .ref qA0), (1, .int 10), (2, .int 0)]) hx hb d_19_11_10 hl (by decide) rfl (fun ls hl => ?_)
  refine lv_iload hx hb d_19_11_12 (lv_at hl 0 rfl) ?_
  refine lv_iload hx hb d_19_11_14 (lv_at hl 1 rfl) ?_
  refine lv_icmp_lt (tgt := 25) hx hb d_19_11_16 (by decide) (fun c5 => absurd c5 (by decide)) (fun c5 => ?_)
  refine lv_lload_n hx hb d_19_11_19 rfl (lv_at hl 2 rfl) ?_
  refine lv_lconst (v := 0) hx hb d_19_11_20 (by decide) ?_
  refine W.lcmp hx hb d_19_11_21 ?_
  refine q_ti (v := 0) (by decide) ?_
  refine lv_if_eq (tgt := 65) hx hb d_19_11_22 (by decide) (fun c6 => ?_) (fun c6 => absurd (by decide) c6)
  exact q_retv C0 V (rfl) d_19_11_65
set_option maxRecDepth 100000 in
set_option maxHeartbeats 4000000 in
theorem c_WR_store_4 (l : Launch) (D : va_G) (g : Nat → ClassId) (ws : va_W) (kO0 kA2 kA3 kA4 qO0 qA1 qA2 qA3 qA4 qA5 qA6 qA7 qA8 qA9 qA10 qA11 qA12 qA13 qA14 : Nat) (x1 : Int32) (hO0 : ws[kO0]? = (some (qO0, .inr (13, [.int 0, .int 0, .ref qA1, .int 1, .ref qA2, .ref qA3, .ref qA4, .int 0, .ref qA5, .ref qA6, .ref qA7, .ref qA8, .ref qA9, .ref qA10, .ref qA11, .ref qA12, .int 0, .int 0, .ref qA13, .ref qA14, .int 0])) : Option (Nat × va_E))) (hA2 : ws[kA2]? = (some (qA2, .inl (g 0, 1408, .inl (fun _ => 0))) : Option (Nat × va_E))) (hA3 : ws[kA3]? = (some (qA3, .inl (g 3, 11, .inl (fun _ => 0))) : Option (Nat × va_E))) (hA4 : ws[kA4]? = (some (qA4, .inl (g 0, 264, .inl (fun _ => 0))) : Option (Nat × va_E))) (n_A2_A3 : kA2 ≠ kA3) (n_A4_A2 : kA4 ≠ kA2) (n_A4_A3 : kA4 ≠ kA3) (x1lo : 0 ≤ x1) (x1hi : x1 ≤ 9) : q_mV l y_WR_store prog_19_method_15_code 4 2 0 0 D g [.ref qO0, .int x1] ws (fun u => q_un ws u [kA2, kA3] ∧ u[kA2]? = (some (qA2, .inl (g 0, 1408, .inl (fun _ => 0))) : Option (Nat × va_E)) ∧ u[kA3]? = (some (qA3, .inl (g 3, 11, .inl (fun _ => 0))) : Option (Nat × va_E))) := by
  intro sz
  refine q_into (by decide) (Nat.le_of_ble_eq_true rfl) ?_
  intro p e s m below meth c ls hsz C0 V hl
  have hx := C0.1
  have hb := C0.2.1
  have hl : lv_has ls 4 [(0, .ref qO0), (1, .int x1)] := hl
  have n_A3_A2 := Ne.symm n_A2_A3
  have n_O0_A2 := Ne.symm (q_df hA2 hO0)
  have n_O0_A3 := Ne.symm (q_df hA3 hO0)
  have hF : q_un ws ws [kA2, kA3] := q_u0
  refine lv_aload_n hx hb d_19_15_0 rfl (lv_at hl 0 rfl) ?_
  refine q_get (ci := 13) (j := 6) (v := .ref qA4) C0 V i_WR rfl rfl hO0 (by decide) w_1930 rfl d_19_15_1 ?_
  refine q_goi V (q_runS (As := [.ref qA4]) (rest := []) (d := 1) (mc := 0) (ms := 0) C0 V rfl LS_WR_59 (c_WR_size l D g ws kA4 qA4 hA4 _) rfl hl.1 rfl (Nat.le_of_ble_eq_true rfl) ⟨by decide, by decide⟩ ⟨Nat.le_of_ble_eq_true rfl, Nat.le_of_ble_eq_true rfl⟩ d_19_15_4) (fun v3 u2 H locs hp1 V => ?_)
  obtain ⟨rfl, rfl⟩ := hp1
  refine lv_sipush (v := 128) hx hb d_19_15_7 (by decide) ?_
  refine lv_icmp_le (tgt := 22) hx hb d_19_15_10 (by decide) (fun c5 => ?_) (fun c5 => absurd (by decide) c5)
  refine lv_iconst (v := 0) hx hb d_19_15_22 (by decide) ?_
  refine lv_istore_n (lv' := [(2, .int 0), (0, .ref qO0), (1, .int x1)]) hx hb d_19_15_23 rfl hl (by decide) rfl (fun ls hl => ?_)
  refine lv_iconst (v := 0) hx hb d_19_15_24 (by decide) ?_
  refine lv_istore_n (lv' := [(3, .int 0), (2, .int 0), (0, .ref qO0), (1, .int x1)]) hx hb d_19_15_25 rfl hl (by decide) rfl (fun ls hl => ?_)
  refine q_loop (X := Int32) (fun z H locs ls w7 => (0 ≤ z.toInt ∧ (z.toInt ≤ 128 ∨ z.toInt = 0)) ∧ q_Wd D g (va_A ws sz) s w7 H locs ∧ lv_has ls 4 [(3, .int z), (2, .int 0), (0, .ref qO0), (1, .int x1)] ∧ q_un ws w7 [kA2, kA3] ∧ w7[kO0]? = (some (qO0, .inr (13, [.int 0, .int 0, .ref qA1, .int 1, .ref qA2, .ref qA3, .ref qA4, .int 0, .ref qA5, .ref qA6, .ref qA7, .ref qA8, .ref qA9, .ref qA10, .ref qA11, .ref qA12, .int 0, .int 0, .ref qA13, .ref qA14, .int 0])) : Option (Nat × va_E)) ∧ w7[kA2]? = (some (qA2, .inl (g 0, 1408, .inl (fun _ => 0))) : Option (Nat × va_E)) ∧ w7[kA3]? = (some (qA3, .inl (g 3, 11, .inl (fun _ => 0))) : Option (Nat × va_E)) ∧ w7[kA4]? = (some (qA4, .inl (g 0, 264, .inl (fun _ => 0))) : Option (Nat × va_E))) (fun z => (128 - z.toInt).toNat) ?_ ((0 : Int32)) _ _ _ ws ⟨⟨by decide, Or.inr (by decide)⟩, V, hl, hF, hO0, hA2, hA3, hA4⟩
  rintro lx6 H locs ls w7 ⟨i8, V, hl, hF, hO0, hA2, hA3, hA4⟩ ih9
  replace i8 : 0 ≤ lx6.toInt ∧ (lx6.toInt ≤ 128 ∨ lx6.toInt = 0) := i8
  replace hl : lv_has ls 4 [(3, .int lx6), (2, .int 0), (0, .ref qO0), (1, .int x1)] := hl
  replace hO0 : w7[kO0]? = (some (qO0, .inr (13, [.int 0, .int 0, .ref qA1, .int 1, .ref qA2, .ref qA3, .ref qA4, .int 0, .ref qA5, .ref qA6, .ref qA7, .ref qA8, .ref qA9, .ref qA10, .ref qA11, .ref qA12, .int 0, .int 0, .ref qA13, .ref qA14, .int 0])) : Option (Nat × va_E)) := hO0
  replace hA2 : w7[kA2]? = (some (qA2, .inl (g 0, 1408, .inl (fun _ => 0))) : Option (Nat × va_E)) := hA2
  replace hA3 : w7[kA3]? = (some (qA3, .inl (g 3, 11, .inl (fun _ => 0))) : Option (Nat × va_E)) := hA3
  replace hA4 : w7[kA4]? = (some (qA4, .inl (g 0, 264, .inl (fun _ => 0))) : Option (Nat × va_E)) := hA4
  refine lv_iload_n hx hb d_19_15_26 rfl (lv_at hl 0 rfl) ?_
  refine lv_sipush (v := 128) hx hb d_19_15_27 (by decide) ?_
  refine lv_icmp_ge (tgt := 76) hx hb d_19_15_30 (by decide) (fun c10 => ?_) (fun c10 => ?_)
  ·
    refine lv_aload_n hx hb d_19_15_76 rfl (lv_at hl 2 rfl) ?_
    refine q_get (ci := 13) (j := 5) (v := .ref qA3) C0 V i_WR rfl rfl hO0 (by decide) w_1929 rfl d_19_15_77 ?_
    refine lv_iload_n hx hb d_19_15_80 rfl (lv_at hl 3 rfl) ?_
    refine lv_aload_n hx hb d_19_15_81 rfl (lv_at hl 2 rfl) ?_
    refine q_get (ci := 13) (j := 7) (v := .int 0) C0 V i_WR rfl rfl hO0 (by decide) w_1931 rfl d_19_15_82 ?_
    refine lv_if_eq (tgt := 96) hx hb d_19_15_85 (by decide) (fun c11 => ?_) (fun c11 => absurd (by decide) c11)
    refine lv_iconst (v := 0) hx hb d_19_15_96 (by decide) ?_
    refine q_zast C0 V hA3 (q_ix (x := x1.toInt) rfl (by have t1 : 0 ≤ x1.toInt := q_leI x1lo; have t2 : x1.toInt ≤ 9 := q_leI x1hi; omega) (by have t1 : 0 ≤ x1.toInt := q_leI x1lo; have t2 : x1.toInt ≤ 9 := q_leI x1hi; omega)) d_19_15_97 (fun H locs w12 hu13 hA3 V => ?_)
    replace hA3 := q_re (y := (qA3, .inl (g 3, 11, .inl (fun _ => 0)))) hA3 (q_eI q_upd0)
    replace hA3 : w12[kA3]? = (some (qA3, .inl (g 3, 11, .inl (fun _ => 0))) : Option (Nat × va_E)) := hA3
    replace hF := q_us hF hu13 (.tail _ (.head _))
    replace hA2 := (hu13 _ n_A2_A3).trans (hA2)
    exact q_retv C0 V (⟨hF, hA2, hA3⟩) d_19_15_98
  ·
    refine lv_aload_n hx hb d_19_15_33 rfl (lv_at hl 2 rfl) ?_
    refine q_get (ci := 13) (j := 4) (v := .ref qA2) C0 V i_WR rfl rfl hO0 (by decide) w_1928 rfl d_19_15_34 ?_
    refine lv_sipush (v := 128) hx hb d_19_15_37 (by decide) ?_
    refine lv_iload_n hx hb d_19_15_40 rfl (lv_at hl 3 rfl) ?_
    refine lv_imul hx hb d_19_15_41 ?_
    refine lv_iload_n hx hb d_19_15_42 rfl (lv_at hl 0 rfl) ?_
    refine lv_iadd hx hb d_19_15_43 ?_
    refine lv_aload_n hx hb d_19_15_44 rfl (lv_at hl 2 rfl) ?_
    refine q_get (ci := 13) (j := 6) (v := .ref qA4) C0 V i_WR rfl rfl hO0 (by decide) w_1930 rfl d_19_15_45 ?_
    refine lv_iload_n hx hb d_19_15_48 rfl (lv_at hl 0 rfl) ?_
    refine q_iald C0 V hA4 (q_ix (x := lx6.toInt) rfl (by have t1 : lx6.toInt < 128 := q_nleI c10; omega) (by have t1 : lx6.toInt < 128 := q_nleI c10; omega)) d_19_15_49 ?_
    refine q_ti (v := 0) (by first | rfl | decide | simp [upd, vp_updL, sb_cl0]) ?_
    refine q_iast C0 V hA2 (q_ix (x := ((128 * x1.toInt) + lx6.toInt)) (q_addI (x := (128 * x1.toInt)) (y := lx6.toInt) (q_mulI (x := 128) (y := x1.toInt) (by decide) rfl (by have t1 : 0 ≤ x1.toInt := q_leI x1lo; have t2 : x1.toInt ≤ 9 := q_leI x1hi; omega) (by have t1 : 0 ≤ x1.toInt := q_leI x1lo; have t2 : x1.toInt ≤ 9 := q_leI x1hi; omega)) rfl (by have t1 : 0 ≤ x1.toInt := q_leI x1lo; have t2 : x1.toInt ≤ 9 := q_leI x1hi; have t3 : lx6.toInt < 128 := q_nleI c10; omega) (by have t1 : 0 ≤ x1.toInt := q_leI x1lo; have t2 : x1.toInt ≤ 9 := q_leI x1hi; have t3 : lx6.toInt < 128 := q_nleI c10; omega)) (by have t1 : 0 ≤ x1.toInt := q_leI x1lo; have t2 : x1.toInt ≤ 9 := q_leI x1hi; have t3 : lx6.toInt < 128 := q_nleI c10; omega) (by have t1 : 0 ≤ x1.toInt := q_leI x1lo; have t2 : x1.toInt ≤ 9 := q_leI x1hi; have t3 : lx6.toInt < 128 := q_nleI c10; omega)) d_19_15_50 (fun H locs w14 hu15 hA2 V => ?_)
    replace hA2 := q_re (y := (qA2, .inl (g 0, 1408, .inl (fun _ => 0)))) hA2 (q_eI q_upd0)
    replace hA2 : w14[kA2]? = (some (qA2, .inl (g 0, 1408, .inl (fun _ => 0))) : Option (Nat × va_E)) := hA2
    replace hF := q_us hF hu15 (.head _)
    refine lv_iload_n hx hb d_19_15_51 rfl (lv_at hl 1 rfl) ?_
    refine lv_if_ne (tgt := 64) hx hb d_19_15_52 (by decide) (fun c16 => absurd (by decide) c16) (fun c16 => ?_)
    refine lv_aload_n hx hb d_19_15_55 rfl (lv_at hl 2 rfl) ?_
    replace hO0 := (hu15 _ n_O0_A2).trans (hO0)
    refine q_get (ci := 13) (j := 6) (v := .ref qA4) C0 V i_WR rfl rfl hO0 (by decide) w_1930 rfl d_19_15_56 ?_
    refine lv_iload_n hx hb d_19_15_59 rfl (lv_at hl 0 rfl) ?_
    replace hA4 := (hu15 _ n_A4_A2).trans (hA4)
    refine q_iald C0 V hA4 (q_ix (x := lx6.toInt) rfl (by have t1 : lx6.toInt < 128 := q_nleI c10; omega) (by have t1 : lx6.toInt < 128 := q_nleI c10; omega)) d_19_15_60 ?_
    refine q_ti (v := 0) (by first | rfl | decide | simp [upd, vp_updL, sb_cl0]) ?_
    refine lv_if_eq (tgt := 68) hx hb d_19_15_61 (by decide) (fun c17 => ?_) (fun c17 => absurd (by decide) c17)
    refine lv_iconst (v := 0) hx hb d_19_15_68 (by decide) ?_
    refine lv_istore_n (lv' := [(2, .int 0), (3, .int lx6), (0, .ref qO0), (1, .int x1)]) hx hb d_19_15_69 rfl hl (by decide) rfl (fun ls hl => ?_)
    refine lv_iinc (v := lx6 + 1) (lv' := [(3, .int (lx6 + 1)), (2, .int 0), (0, .ref qO0), (1, .int x1)]) hx hb d_19_15_70 hl (k := 1) rfl (rfl) (by decide) rfl (fun ls hl => ?_)
    refine lv_goto (tgt := 26) hx hb d_19_15_73 (by decide) ?_
    replace hA3 := (hu15 _ n_A3_A2).trans (hA3)
    exact ih9 ((lx6 + 1 : Int32)) _ _ _ _ (show (128 - (lx6 + 1).toInt).toNat < (128 - lx6.toInt).toNat from by have t1 : lx6.toInt < 128 := q_nleI c10; have e : (lx6 + 1).toInt = (lx6.toInt + 1) := (q_addI (x := lx6.toInt) (y := 1) rfl (by decide) (by have t1 : lx6.toInt < 128 := q_nleI c10; omega) (by have t1 : lx6.toInt < 128 := q_nleI c10; omega)); omega) ⟨(show 0 ≤ (lx6 + 1).toInt ∧ ((lx6 + 1).toInt ≤ 128 ∨ (lx6 + 1).toInt = 0) from by have t1 : lx6.toInt < 128 := q_nleI c10; have e : (lx6 + 1).toInt = (lx6.toInt + 1) := (q_addI (x := lx6.toInt) (y := 1) rfl (by decide) (by have t1 : lx6.toInt < 128 := q_nleI c10; omega) (by have t1 : lx6.toInt < 128 := q_nleI c10; omega)); omega), V, q_lw hl (q_lw1 0 rfl (q_lw1 1 rfl (q_lw1 2 rfl (q_lw1 3 rfl q_lw0)))), hF, hO0, hA2, hA3, hA4⟩
theorem d_19_19_0 : decode prog_19_method_19_code 0 = .ok (.aload_n 0, 1) := by decide +kernel
theorem d_19_19_1 : decode prog_19_method_19_code 1 = .ok (.iload_n 1, 1) := by decide +kernel
theorem d_19_19_2 : decode prog_19_method_19_code 2 = .ok (.invokestatic 91, 3) := by decide +kernel
theorem d_19_19_5 : decode prog_19_method_19_code 5 = .ok (.ifCond .ne 14, 3) := by decide +kernel
theorem d_19_19_8 : decode prog_19_method_19_code 8 = .ok (.iload_n 2, 1) := by decide +kernel
theorem d_19_19_9 : decode prog_19_method_19_code 9 = .ok (.iconst 2, 1) := by decide +kernel
theorem d_19_19_10 : decode prog_19_method_19_code 10 = .ok (.if_icmp .lt 9, 3) := by decide +kernel
theorem d_19_19_13 : decode prog_19_method_19_code 13 = .ok (.iload_n 2, 1) := by decide +kernel
theorem d_19_19_14 : decode prog_19_method_19_code 14 = .ok (.bipush 36, 2) := by decide +kernel
theorem d_19_19_16 : decode prog_19_method_19_code 16 = .ok (.if_icmp .le 7, 3) := by decide +kernel
theorem d_19_19_23 : decode prog_19_method_19_code 23 = .ok (.iconst 0, 1) := by decide +kernel
theorem d_19_19_24 : decode prog_19_method_19_code 24 = .ok (.putfield 53, 3) := by decide +kernel
theorem d_19_19_27 : decode prog_19_method_19_code 27 = .ok (.aload_n 0, 1) := by decide +kernel
theorem d_19_19_28 : decode prog_19_method_19_code 28 = .ok (.getfield 53, 3) := by decide +kernel
theorem d_19_19_31 : decode prog_19_method_19_code 31 = .ok (.ifCond .le 4, 3) := by decide +kernel
theorem d_19_19_35 : decode prog_19_method_19_code 35 = .ok (.aload_n 0, 1) := by decide +kernel
theorem d_19_19_36 : decode prog_19_method_19_code 36 = .ok (.getfield 86, 3) := by decide +kernel
theorem w_1927 : (Cond.fieldLink "NumberHouseModel$WholeRows" (86 : Nat) "NumberHouseModel$WholeRows" "length" "I") ∈ q_tbl := q_of 1927 (by decide +kernel) (by decide +kernel)
theorem d_19_19_39 : decode prog_19_method_19_code 39 = .ok (.ifCond .le 29, 3) := by decide +kernel
theorem d_19_19_42 : decode prog_19_method_19_code 42 = .ok (.aload_n 0, 1) := by decide +kernel
theorem d_19_19_43 : decode prog_19_method_19_code 43 = .ok (.getfield 7, 3) := by decide +kernel
theorem d_19_19_46 : decode prog_19_method_19_code 46 = .ok (.iconst 0, 1) := by decide +kernel
theorem d_19_19_47 : decode prog_19_method_19_code 47 = .ok (.iaload, 1) := by decide +kernel
theorem d_19_19_48 : decode prog_19_method_19_code 48 = .ok (.bipush 43, 2) := by decide +kernel
theorem d_19_19_50 : decode prog_19_method_19_code 50 = .ok (.if_icmp .eq 14, 3) := by decide +kernel
theorem d_19_19_53 : decode prog_19_method_19_code 53 = .ok (.aload_n 0, 1) := by decide +kernel
theorem d_19_19_54 : decode prog_19_method_19_code 54 = .ok (.getfield 7, 3) := by decide +kernel
theorem d_19_19_57 : decode prog_19_method_19_code 57 = .ok (.iconst 0, 1) := by decide +kernel
theorem d_19_19_58 : decode prog_19_method_19_code 58 = .ok (.iaload, 1) := by decide +kernel
theorem d_19_19_59 : decode prog_19_method_19_code 59 = .ok (.bipush 45, 2) := by decide +kernel
theorem d_19_19_61 : decode prog_19_method_19_code 61 = .ok (.if_icmp .ne 7, 3) := by decide +kernel
theorem d_19_19_68 : decode prog_19_method_19_code 68 = .ok (.iconst 0, 1) := by decide +kernel
theorem d_19_19_69 : decode prog_19_method_19_code 69 = .ok (.istore_n 3, 1) := by decide +kernel
theorem d_19_19_70 : decode prog_19_method_19_code 70 = .ok (.aload_n 0, 1) := by decide +kernel
theorem d_19_19_71 : decode prog_19_method_19_code 71 = .ok (.iload_n 3, 1) := by decide +kernel
theorem d_19_19_72 : decode prog_19_method_19_code 72 = .ok (.aload_n 0, 1) := by decide +kernel
theorem d_19_19_73 : decode prog_19_method_19_code 73 = .ok (.getfield 86, 3) := by decide +kernel
theorem d_19_19_76 : decode prog_19_method_19_code 76 = .ok (.if_icmp .ne 7, 3) := by decide +kernel
theorem d_19_19_83 : decode prog_19_method_19_code 83 = .ok (.iconst 0, 1) := by decide +kernel
theorem d_19_19_84 : decode prog_19_method_19_code 84 = .ok (.putfield 53, 3) := by decide +kernel
theorem d_19_19_87 : decode prog_19_method_19_code 87 = .ok (.iload_n 3, 1) := by decide +kernel
theorem d_19_19_88 : decode prog_19_method_19_code 88 = .ok (.istore 4, 2) := by decide +kernel
theorem d_19_19_90 : decode prog_19_method_19_code 90 = .ok (.iload 4, 2) := by decide +kernel
theorem d_19_19_92 : decode prog_19_method_19_code 92 = .ok (.aload_n 0, 1) := by decide +kernel
theorem d_19_19_93 : decode prog_19_method_19_code 93 = .ok (.getfield 86, 3) := by decide +kernel
theorem d_19_19_96 : decode prog_19_method_19_code 96 = .ok (.if_icmp .ge 35, 3) := by decide +kernel
theorem d_19_19_99 : decode prog_19_method_19_code 99 = .ok (.aload_n 0, 1) := by decide +kernel
theorem d_19_19_100 : decode prog_19_method_19_code 100 = .ok (.aload_n 0, 1) := by decide +kernel
theorem d_19_19_101 : decode prog_19_method_19_code 101 = .ok (.getfield 7, 3) := by decide +kernel
theorem d_19_19_104 : decode prog_19_method_19_code 104 = .ok (.iload 4, 2) := by decide +kernel
theorem d_19_19_106 : decode prog_19_method_19_code 106 = .ok (.iaload, 1) := by decide +kernel
theorem d_19_19_107 : decode prog_19_method_19_code 107 = .ok (.invokestatic 95, 3) := by decide +kernel
theorem w_2374 : (Cond.code ({ cls := "NumberHouseModel$WholeRows", name := "digit", desc := "(I)I" } : MethodName) prog_19_method_18_code (1 : Nat) (some .int)) ∈ q_tbl := q_of 2374 (by decide +kernel) (by decide +kernel)
theorem w_2372 : (Cond.methodLink "NumberHouseModel$WholeRows" (95 : Nat) ({ cls := "NumberHouseModel$WholeRows", name := "digit", desc := "(I)I" } : MethodName)) ∈ q_tbl := q_of 2372 (by decide +kernel) (by decide +kernel)
theorem w_2373 : (Cond.static ({ cls := "NumberHouseModel$WholeRows", name := "digit", desc := "(I)I" } : MethodName)) ∈ q_tbl := q_of 2373 (by decide +kernel) (by decide +kernel)
theorem LS_WR_95 : q_LS "NumberHouseModel$WholeRows" 95 y_WR_digit prog_19_method_18_code 1 (some .int) 1 := ⟨w_2374, w_15, w_2372, w_2373, ⟨by decide, by decide, by decide +kernel⟩⟩
theorem d_19_19_110 : decode prog_19_method_19_code 110 = .ok (.iload_n 2, 1) := by decide +kernel
theorem d_19_19_111 : decode prog_19_method_19_code 111 = .ok (.if_icmp .lt 7, 3) := by decide +kernel
theorem d_19_19_118 : decode prog_19_method_19_code 118 = .ok (.aload_n 0, 1) := by decide +kernel
theorem d_19_19_119 : decode prog_19_method_19_code 119 = .ok (.getfield 53, 3) := by decide +kernel
theorem d_19_19_122 : decode prog_19_method_19_code 122 = .ok (.putfield 53, 3) := by decide +kernel
theorem d_19_19_125 : decode prog_19_method_19_code 125 = .ok (.iinc 4 1, 3) := by decide +kernel
theorem d_19_19_128 : decode prog_19_method_19_code 128 = .ok (.goto (-38), 3) := by decide +kernel
theorem d_19_19_131 : decode prog_19_method_19_code 131 = .ok (.aload_n 0, 1) := by decide +kernel
theorem d_19_19_132 : decode prog_19_method_19_code 132 = .ok (.getfield 53, 3) := by decide +kernel
theorem d_19_19_135 : decode prog_19_method_19_code 135 = .ok (.ifCond .le 4, 3) := by decide +kernel
theorem d_19_19_139 : decode prog_19_method_19_code 139 = .ok (.aload_n 0, 1) := by decide +kernel
theorem d_19_19_140 : decode prog_19_method_19_code 140 = .ok (.getfield 20, 3) := by decide +kernel
theorem d_19_19_143 : decode prog_19_method_19_code 143 = .ok (.invokestatic 63, 3) := by decide +kernel
theorem d_19_19_146 : decode prog_19_method_19_code 146 = .ok (.iload_n 3, 1) := by decide +kernel
theorem d_19_19_147 : decode prog_19_method_19_code 147 = .ok (.istore 4, 2) := by decide +kernel
theorem d_19_19_149 : decode prog_19_method_19_code 149 = .ok (.iload 4, 2) := by decide +kernel
theorem d_19_19_151 : decode prog_19_method_19_code 151 = .ok (.aload_n 0, 1) := by decide +kernel
theorem d_19_19_152 : decode prog_19_method_19_code 152 = .ok (.getfield 86, 3) := by decide +kernel
theorem d_19_19_155 : decode prog_19_method_19_code 155 = .ok (.if_icmp .ge 46, 3) := by decide +kernel
theorem d_19_19_158 : decode prog_19_method_19_code 158 = .ok (.aload_n 0, 1) := by decide +kernel
theorem d_19_19_159 : decode prog_19_method_19_code 159 = .ok (.getfield 20, 3) := by decide +kernel
theorem d_19_19_162 : decode prog_19_method_19_code 162 = .ok (.iload_n 2, 1) := by decide +kernel
theorem d_19_19_163 : decode prog_19_method_19_code 163 = .ok (.aload_n 0, 1) := by decide +kernel
theorem d_19_19_164 : decode prog_19_method_19_code 164 = .ok (.getfield 7, 3) := by decide +kernel
theorem d_19_19_167 : decode prog_19_method_19_code 167 = .ok (.iload 4, 2) := by decide +kernel
theorem d_19_19_169 : decode prog_19_method_19_code 169 = .ok (.iaload, 1) := by decide +kernel
theorem d_19_19_170 : decode prog_19_method_19_code 170 = .ok (.invokestatic 95, 3) := by decide +kernel
theorem d_19_19_173 : decode prog_19_method_19_code 173 = .ok (.invokestatic 99, 3) := by decide +kernel
theorem w_2380 : (Cond.code ({ cls := "NumberHouseModel$WholeRows", name := "grow", desc := "([III)V" } : MethodName) prog_19_method_11_code (7 : Nat) (none : Option ClassFile.FieldType)) ∈ q_tbl := q_of 2380 (by decide +kernel) (by decide +kernel)
theorem w_2378 : (Cond.methodLink "NumberHouseModel$WholeRows" (99 : Nat) ({ cls := "NumberHouseModel$WholeRows", name := "grow", desc := "([III)V" } : MethodName)) ∈ q_tbl := q_of 2378 (by decide +kernel) (by decide +kernel)
theorem w_2379 : (Cond.static ({ cls := "NumberHouseModel$WholeRows", name := "grow", desc := "([III)V" } : MethodName)) ∈ q_tbl := q_of 2379 (by decide +kernel) (by decide +kernel)
theorem LS_WR_99 : q_LS "NumberHouseModel$WholeRows" 99 y_WR_grow prog_19_method_11_code 7 none 3 := ⟨w_2380, w_15, w_2378, w_2379, ⟨by decide, by decide, by decide +kernel⟩⟩
theorem d_19_19_176 : decode prog_19_method_19_code 176 = .ok (.aload_n 0, 1) := by decide +kernel
theorem d_19_19_177 : decode prog_19_method_19_code 177 = .ok (.getfield 20, 3) := by decide +kernel
theorem d_19_19_180 : decode prog_19_method_19_code 180 = .ok (.invokestatic 59, 3) := by decide +kernel
theorem d_19_19_183 : decode prog_19_method_19_code 183 = .ok (.sipush 128, 3) := by decide +kernel
theorem d_19_19_186 : decode prog_19_method_19_code 186 = .ok (.if_icmp .le 9, 3) := by decide +kernel
theorem d_19_19_195 : decode prog_19_method_19_code 195 = .ok (.iinc 4 1, 3) := by decide +kernel
theorem d_19_19_198 : decode prog_19_method_19_code 198 = .ok (.goto (-49), 3) := by decide +kernel
theorem d_19_19_201 : decode prog_19_method_19_code 201 = .ok (.aload_n 0, 1) := by decide +kernel
theorem d_19_19_202 : decode prog_19_method_19_code 202 = .ok (.aload_n 0, 1) := by decide +kernel
theorem d_19_19_203 : decode prog_19_method_19_code 203 = .ok (.getfield 7, 3) := by decide +kernel
theorem d_19_19_206 : decode prog_19_method_19_code 206 = .ok (.iconst 0, 1) := by decide +kernel
theorem d_19_19_207 : decode prog_19_method_19_code 207 = .ok (.iaload, 1) := by decide +kernel
theorem d_19_19_208 : decode prog_19_method_19_code 208 = .ok (.bipush 45, 2) := by decide +kernel
theorem d_19_19_210 : decode prog_19_method_19_code 210 = .ok (.if_icmp .ne 7, 3) := by decide +kernel
theorem d_19_19_217 : decode prog_19_method_19_code 217 = .ok (.iconst 0, 1) := by decide +kernel
theorem d_19_19_218 : decode prog_19_method_19_code 218 = .ok (.putfield 82, 3) := by decide +kernel
theorem d_19_19_221 : decode prog_19_method_19_code 221 = .ok (.aload_n 0, 1) := by decide +kernel
theorem d_19_19_222 : decode prog_19_method_19_code 222 = .ok (.iload_n 1, 1) := by decide +kernel
theorem d_19_19_223 : decode prog_19_method_19_code 223 = .ok (.invokevirtual 103, 3) := by decide +kernel
theorem d_19_19_226 : decode prog_19_method_19_code 226 = .ok (.aload_n 0, 1) := by decide +kernel
theorem d_19_19_227 : decode prog_19_method_19_code 227 = .ok (.iconst 0, 1) := by decide +kernel
theorem d_19_19_228 : decode prog_19_method_19_code 228 = .ok (.putfield 86, 3) := by decide +kernel
theorem d_19_19_231 : decode prog_19_method_19_code 231 = .ok (.return_, 1) := by decide +kernel
def y_WR_read : MethodName := ⟨"NumberHouseModel$WholeRows", "read", "(II)V"⟩
set_option maxRecDepth 100000 in
set_option maxHeartbeats 4000000 in
theorem c_WR_read (l : Launch) (D : va_G) (g : Nat → ClassId) (ws : va_W) (kO0 kA1 kA2 kA3 kA4 qO0 qA1 qA2 qA3 qA4 qA5 qA6 qA7 qA8 qA9 qA10 qA11 qA12 qA13 qA14 : Nat) (x1 : Int32) (hO0 : ws[kO0]? = (some (qO0, .inr (13, [.int 0, .int 0, .ref qA1, .int 1, .ref qA2, .ref qA3, .ref qA4, .int 0, .ref qA5, .ref qA6, .ref qA7, .ref qA8, .ref qA9, .ref qA10, .ref qA11, .ref qA12, .int 0, .int 0, .ref qA13, .ref qA14, .int 0])) : Option (Nat × va_E))) (hA1 : ws[kA1]? = (some (qA1, .inl (g 0, 4100, .inl (upd (fun _ => 0) 0 48))) : Option (Nat × va_E))) (hA2 : ws[kA2]? = (some (qA2, .inl (g 0, 1408, .inl (fun _ => 0))) : Option (Nat × va_E))) (hA3 : ws[kA3]? = (some (qA3, .inl (g 3, 11, .inl (fun _ => 0))) : Option (Nat × va_E))) (hA4 : ws[kA4]? = (some (qA4, .inl (g 0, 264, .inl (fun _ => 0))) : Option (Nat × va_E))) (n_A1_A2 : kA1 ≠ kA2) (n_A1_A3 : kA1 ≠ kA3) (n_A1_A4 : kA1 ≠ kA4) (n_A2_A3 : kA2 ≠ kA3) (n_A2_A4 : kA2 ≠ kA4) (n_A3_A4 : kA3 ≠ kA4) (x1lo : 0 ≤ x1) (x1hi : x1 ≤ 9) : q_mV l y_WR_read prog_19_method_19_code 5 3 0 0 D g [.ref qO0, .int x1, .int 10] ws (fun u => q_un ws u [kO0, kA2, kA3, kA4] ∧ u[kO0]? = (some (qO0, .inr (13, [.int 0, .int 0, .ref qA1, .int 0, .ref qA2, .ref qA3, .ref qA4, .int 0, .ref qA5, .ref qA6, .ref qA7, .ref qA8, .ref qA9, .ref qA10, .ref qA11, .ref qA12, .int 0, .int 0, .ref qA13, .ref qA14, .int 0])) : Option (Nat × va_E)) ∧ u[kA2]? = (some (qA2, .inl (g 0, 1408, .inl (fun _ => 0))) : Option (Nat × va_E)) ∧ u[kA3]? = (some (qA3, .inl (g 3, 11, .inl (fun _ => 0))) : Option (Nat × va_E)) ∧ u[kA4]? = (some (qA4, .inl (g 0, 264, .inl (fun _ => 0))) : Option (Nat × va_E))) := by
  intro sz
  refine q_into (by decide) (Nat.le_of_ble_eq_true rfl) ?_
  intro p e s m below meth c ls hsz C0 V hl
  have hx := C0.1
  have hb := C0.2.1
  have hl : lv_has ls 5 [(0, .ref qO0), (1, .int x1), (2, .int 10)] := hl
  have n_A1_O0 := q_df hA1 hO0
  have n_A2_O0 := q_df hA2 hO0
  have n_A3_O0 := q_df hA3 hO0
  have n_A4_A2 := Ne.symm n_A2_A4
  have n_A4_A3 := Ne.symm n_A3_A4
  have n_A4_O0 := q_df hA4 hO0
  have n_O0_A2 := Ne.symm (q_df hA2 hO0)
  have n_O0_A3 := Ne.symm (q_df hA3 hO0)
  have n_O0_A4 := Ne.symm (q_df hA4 hO0)
  have hF : q_un ws ws [kO0, kA2, kA3, kA4] := q_u0
  refine lv_aload_n hx hb d_19_19_0 rfl (lv_at hl 0 rfl) ?_
  refine lv_iload_n hx hb d_19_19_1 rfl (lv_at hl 1 rfl) ?_
  refine q_goi V (q_runS (As := [.int x1]) (rest := [.ref qO0]) (d := 1) (mc := 0) (ms := 0) C0 V rfl LS_WR_91 (c_WR_no l D g ws x1 x1lo x1hi _) rfl hl.1 rfl (Nat.le_of_ble_eq_true rfl) ⟨by decide, by decide⟩ ⟨Nat.le_of_ble_eq_true rfl, Nat.le_of_ble_eq_true rfl⟩ d_19_19_2) (fun v3 u2 H locs hp1 V => ?_)
  obtain ⟨rfl, rfl⟩ := hp1
  refine lv_if_ne (tgt := 19) hx hb d_19_19_5 (by decide) (fun c5 => absurd (by decide) c5) (fun c5 => ?_)
  refine lv_iload_n hx hb d_19_19_8 rfl (lv_at hl 2 rfl) ?_
  refine lv_iconst (v := 2) hx hb d_19_19_9 (by decide) ?_
  refine lv_icmp_lt (tgt := 19) hx hb d_19_19_10 (by decide) (fun c6 => absurd c6 (by decide)) (fun c6 => ?_)
  refine lv_iload_n hx hb d_19_19_13 rfl (lv_at hl 2 rfl) ?_
  refine lv_bipush (v := 36) hx hb d_19_19_14 (by decide) ?_
  refine lv_icmp_le (tgt := 23) hx hb d_19_19_16 (by decide) (fun c7 => ?_) (fun c7 => absurd (by decide) c7)
  refine lv_iconst (v := 0) hx hb d_19_19_23 (by decide) ?_
  refine q_put (ci := 13) (j := 0) (v := .int 0) (ty := .int) C0 V i_WR o_WR n_WR rfl rfl hO0 (by decide) w_1921 rfl rfl rfl rfl (Nat.le_of_ble_eq_true rfl) d_19_19_24 (fun H locs w8 hu9 hO0 V => ?_)
  replace hO0 : w8[kO0]? = (some (qO0, .inr (13, [.int 0, .int 0, .ref qA1, .int 1, .ref qA2, .ref qA3, .ref qA4, .int 0, .ref qA5, .ref qA6, .ref qA7, .ref qA8, .ref qA9, .ref qA10, .ref qA11, .ref qA12, .int 0, .int 0, .ref qA13, .ref qA14, .int 0])) : Option (Nat × va_E)) := hO0
  replace hF := q_us hF hu9 (.head _)
  refine lv_aload_n hx hb d_19_19_27 rfl (lv_at hl 0 rfl) ?_
  refine q_get (ci := 13) (j := 0) (v := .int 0) C0 V i_WR rfl rfl hO0 (by decide) w_1921 rfl d_19_19_28 ?_
  refine lv_if_le (tgt := 35) hx hb d_19_19_31 (by decide) (fun c10 => ?_) (fun c10 => absurd (by decide) c10)
  refine lv_aload_n hx hb d_19_19_35 rfl (lv_at hl 0 rfl) ?_
  refine q_get (ci := 13) (j := 3) (v := .int 1) C0 V i_WR rfl rfl hO0 (by decide) w_1927 rfl d_19_19_36 ?_
  refine lv_if_le (tgt := 68) hx hb d_19_19_39 (by decide) (fun c11 => absurd c11 (by decide)) (fun c11 => ?_)
  refine lv_aload_n hx hb d_19_19_42 rfl (lv_at hl 0 rfl) ?_
  refine q_get (ci := 13) (j := 2) (v := .ref qA1) C0 V i_WR rfl rfl hO0 (by decide) w_1924 rfl d_19_19_43 ?_
  refine lv_iconst (v := 0) hx hb d_19_19_46 (by decide) ?_
  replace hA1 := (hu9 _ n_A1_O0).trans (hA1)
  refine q_iald C0 V hA1 (by unfold vp_in; decide) d_19_19_47 ?_
  refine q_ti (v := 48) (by first | rfl | decide | simp [upd, vp_updL, sb_cl0]) ?_
  refine lv_bipush (v := 43) hx hb d_19_19_48 (by decide) ?_
  refine lv_icmp_eq (tgt := 64) hx hb d_19_19_50 (by decide) (fun c12 => absurd c12 (by decide)) (fun c12 => ?_)
  refine lv_aload_n hx hb d_19_19_53 rfl (lv_at hl 0 rfl) ?_
  refine q_get (ci := 13) (j := 2) (v := .ref qA1) C0 V i_WR rfl rfl hO0 (by decide) w_1924 rfl d_19_19_54 ?_
  refine lv_iconst (v := 0) hx hb d_19_19_57 (by decide) ?_
  refine q_iald C0 V hA1 (by unfold vp_in; decide) d_19_19_58 ?_
  refine q_ti (v := 48) (by first | rfl | decide | simp [upd, vp_updL, sb_cl0]) ?_
  refine lv_bipush (v := 45) hx hb d_19_19_59 (by decide) ?_
  refine lv_icmp_ne (tgt := 68) hx hb d_19_19_61 (by decide) (fun c13 => ?_) (fun c13 => absurd c13 (by decide))
  refine lv_iconst (v := 0) hx hb d_19_19_68 (by decide) ?_
  refine lv_istore_n (lv' := [(3, .int 0), (0, .ref qO0), (1, .int x1), (2, .int 10)]) hx hb d_19_19_69 rfl hl (by decide) rfl (fun ls hl => ?_)
  refine lv_aload_n hx hb d_19_19_70 rfl (lv_at hl 1 rfl) ?_
  refine lv_iload_n hx hb d_19_19_71 rfl (lv_at hl 0 rfl) ?_
  refine lv_aload_n hx hb d_19_19_72 rfl (lv_at hl 1 rfl) ?_
  refine q_get (ci := 13) (j := 3) (v := .int 1) C0 V i_WR rfl rfl hO0 (by decide) w_1927 rfl d_19_19_73 ?_
  refine lv_icmp_ne (tgt := 83) hx hb d_19_19_76 (by decide) (fun c14 => ?_) (fun c14 => absurd c14 (by decide))
  refine lv_iconst (v := 0) hx hb d_19_19_83 (by decide) ?_
  refine q_put (ci := 13) (j := 0) (v := .int 0) (ty := .int) C0 V i_WR o_WR n_WR rfl rfl hO0 (by decide) w_1921 rfl rfl rfl rfl (Nat.le_of_ble_eq_true rfl) d_19_19_84 (fun H locs w15 hu16 hO0 V => ?_)
  replace hO0 : w15[kO0]? = (some (qO0, .inr (13, [.int 0, .int 0, .ref qA1, .int 1, .ref qA2, .ref qA3, .ref qA4, .int 0, .ref qA5, .ref qA6, .ref qA7, .ref qA8, .ref qA9, .ref qA10, .ref qA11, .ref qA12, .int 0, .int 0, .ref qA13, .ref qA14, .int 0])) : Option (Nat × va_E)) := hO0
  replace hF := q_us hF hu16 (.head _)
  refine lv_iload_n hx hb d_19_19_87 rfl (lv_at hl 0 rfl) ?_
  refine lv_istore (lv' := [(4, .int 0), (3, .int 0), (0, .ref qO0), (1, .int x1), (2, .int 10)]) hx hb d_19_19_88 hl (by decide) rfl (fun ls hl => ?_)
  refine lv_iload hx hb d_19_19_90 (lv_at hl 0 rfl) ?_
  refine lv_aload_n hx hb d_19_19_92 rfl (lv_at hl 2 rfl) ?_
  refine q_get (ci := 13) (j := 3) (v := .int 1) C0 V i_WR rfl rfl hO0 (by decide) w_1927 rfl d_19_19_93 ?_
  refine lv_icmp_ge (tgt := 131) hx hb d_19_19_96 (by decide) (fun c17 => absurd c17 (by decide)) (fun c17 => ?_)
  refine lv_aload_n hx hb d_19_19_99 rfl (lv_at hl 2 rfl) ?_
  refine lv_aload_n hx hb d_19_19_100 rfl (lv_at hl 2 rfl) ?_
  refine q_get (ci := 13) (j := 2) (v := .ref qA1) C0 V i_WR rfl rfl hO0 (by decide) w_1924 rfl d_19_19_101 ?_
  refine lv_iload hx hb d_19_19_104 (lv_at hl 0 rfl) ?_
  replace hA1 := (hu16 _ n_A1_O0).trans (hA1)
  refine q_iald C0 V hA1 (by unfold vp_in; decide) d_19_19_106 ?_
  refine q_ti (v := 48) (by first | rfl | decide | simp [upd, vp_updL, sb_cl0]) ?_
  refine q_goi V (q_runS (As := [.int 48]) (rest := [.ref qO0]) (d := 1) (mc := 0) (ms := 0) C0 V rfl LS_WR_95 (c_WR_digit l D g w15 _) rfl hl.1 rfl (Nat.le_of_ble_eq_true rfl) ⟨by decide, by decide⟩ ⟨Nat.le_of_ble_eq_true rfl, Nat.le_of_ble_eq_true rfl⟩ d_19_19_107) (fun v20 u19 H locs hp18 V => ?_)
  obtain ⟨rfl, rfl⟩ := hp18
  refine lv_iload_n hx hb d_19_19_110 rfl (lv_at hl 4 rfl) ?_
  refine lv_icmp_lt (tgt := 118) hx hb d_19_19_111 (by decide) (fun c22 => ?_) (fun c22 => absurd (by decide) c22)
  refine lv_aload_n hx hb d_19_19_118 rfl (lv_at hl 2 rfl) ?_
  refine q_get (ci := 13) (j := 0) (v := .int 0) C0 V i_WR rfl rfl hO0 (by decide) w_1921 rfl d_19_19_119 ?_
  refine q_put (ci := 13) (j := 0) (v := .int 0) (ty := .int) C0 V i_WR o_WR n_WR rfl rfl hO0 (by decide) w_1921 rfl rfl rfl rfl (Nat.le_of_ble_eq_true rfl) d_19_19_122 (fun H locs w23 hu24 hO0 V => ?_)
  replace hO0 : w23[kO0]? = (some (qO0, .inr (13, [.int 0, .int 0, .ref qA1, .int 1, .ref qA2, .ref qA3, .ref qA4, .int 0, .ref qA5, .ref qA6, .ref qA7, .ref qA8, .ref qA9, .ref qA10, .ref qA11, .ref qA12, .int 0, .int 0, .ref qA13, .ref qA14, .int 0])) : Option (Nat × va_E)) := hO0
  replace hF := q_us hF hu24 (.head _)
  refine lv_iinc (v := 1) (lv' := [(4, .int 1), (3, .int 0), (0, .ref qO0), (1, .int x1), (2, .int 10)]) hx hb d_19_19_125 hl (k := 0) rfl (by decide) (by decide) rfl (fun ls hl => ?_)
  refine lv_goto (tgt := 90) hx hb d_19_19_128 (by decide) ?_
  refine lv_iload hx hb d_19_19_90 (lv_at hl 0 rfl) ?_
  refine lv_aload_n hx hb d_19_19_92 rfl (lv_at hl 2 rfl) ?_
  refine q_get (ci := 13) (j := 3) (v := .int 1) C0 V i_WR rfl rfl hO0 (by decide) w_1927 rfl d_19_19_93 ?_
  refine lv_icmp_ge (tgt := 131) hx hb d_19_19_96 (by decide) (fun c25 => ?_) (fun c25 => absurd (by decide) c25)
  refine lv_aload_n hx hb d_19_19_131 rfl (lv_at hl 2 rfl) ?_
  refine q_get (ci := 13) (j := 0) (v := .int 0) C0 V i_WR rfl rfl hO0 (by decide) w_1921 rfl d_19_19_132 ?_
  refine lv_if_le (tgt := 139) hx hb d_19_19_135 (by decide) (fun c26 => ?_) (fun c26 => absurd (by decide) c26)
  refine lv_aload_n hx hb d_19_19_139 rfl (lv_at hl 2 rfl) ?_
  refine q_get (ci := 13) (j := 6) (v := .ref qA4) C0 V i_WR rfl rfl hO0 (by decide) w_1930 rfl d_19_19_140 ?_
  replace hA4 := (hu24 _ n_A4_O0).trans ((hu16 _ n_A4_O0).trans ((hu9 _ n_A4_O0).trans (hA4)))
  refine q_gov V (q_runS (As := [.ref qA4]) (rest := []) (d := 1) (mc := 0) (ms := 0) C0 V rfl LS_WR_63 (c_WR_clear_2 l D g w23 kA4 qA4 hA4 _) rfl hl.1 rfl (Nat.le_of_ble_eq_true rfl) ⟨by decide, by decide⟩ ⟨Nat.le_of_ble_eq_true rfl, Nat.le_of_ble_eq_true rfl⟩ d_19_19_143) (fun u28 H locs hp27 V => ?_)
  obtain ⟨hg29, hA4⟩ := hp27
  replace hF := q_uc hF hg29 (q_sc (List.mem_of_getElem? (i := 3) rfl) (fun _ h => absurd h List.not_mem_nil))
  refine lv_iload_n hx hb d_19_19_146 rfl (lv_at hl 1 rfl) ?_
  refine lv_istore (lv' := [(4, .int 0), (3, .int 0), (0, .ref qO0), (1, .int x1), (2, .int 10)]) hx hb d_19_19_147 hl (by decide) rfl (fun ls hl => ?_)
  refine lv_iload hx hb d_19_19_149 (lv_at hl 0 rfl) ?_
  refine lv_aload_n hx hb d_19_19_151 rfl (lv_at hl 2 rfl) ?_
  replace hO0 := (hg29 _ (q_nc n_O0_A4 List.not_mem_nil)).trans (hO0)
  refine q_get (ci := 13) (j := 3) (v := .int 1) C0 V i_WR rfl rfl hO0 (by decide) w_1927 rfl d_19_19_152 ?_
  refine lv_icmp_ge (tgt := 201) hx hb d_19_19_155 (by decide) (fun c30 => absurd c30 (by decide)) (fun c30 => ?_)
  refine lv_aload_n hx hb d_19_19_158 rfl (lv_at hl 2 rfl) ?_
  refine q_get (ci := 13) (j := 6) (v := .ref qA4) C0 V i_WR rfl rfl hO0 (by decide) w_1930 rfl d_19_19_159 ?_
  refine lv_iload_n hx hb d_19_19_162 rfl (lv_at hl 4 rfl) ?_
  refine lv_aload_n hx hb d_19_19_163 rfl (lv_at hl 2 rfl) ?_
  refine q_get (ci := 13) (j := 2) (v := .ref qA1) C0 V i_WR rfl rfl hO0 (by decide) w_1924 rfl d_19_19_164 ?_
  refine lv_iload hx hb d_19_19_167 (lv_at hl 0 rfl) ?_
  replace hA1 := (hg29 _ (q_nc n_A1_A4 List.not_mem_nil)).trans ((hu24 _ n_A1_O0).trans (hA1))
  refine q_iald C0 V hA1 (by unfold vp_in; decide) d_19_19_169 ?_
  refine q_ti (v := 48) (by first | rfl | decide | simp [upd, vp_updL, sb_cl0]) ?_
  refine q_goi V (q_runS (As := [.int 48]) (rest := [.int 10, .ref qA4]) (d := 1) (mc := 0) (ms := 0) C0 V rfl LS_WR_95 (c_WR_digit l D g u28 _) rfl hl.1 rfl (Nat.le_of_ble_eq_true rfl) ⟨by decide, by decide⟩ ⟨Nat.le_of_ble_eq_true rfl, Nat.le_of_ble_eq_true rfl⟩ d_19_19_170) (fun v33 u32 H locs hp31 V => ?_)
  obtain ⟨rfl, rfl⟩ := hp31
  refine q_gov V (q_runS (As := [.ref qA4, .int 10, .int 0]) (rest := []) (d := 2) (mc := 0) (ms := 0) C0 V rfl LS_WR_99 (c_WR_grow l D g u28 kA4 qA4 hA4 _) rfl hl.1 rfl (Nat.le_of_ble_eq_true rfl) ⟨by decide, by decide⟩ ⟨Nat.le_of_ble_eq_true rfl, Nat.le_of_ble_eq_true rfl⟩ d_19_19_173) (fun u36 H locs hp35 V => ?_)
  obtain rfl := hp35
  refine lv_aload_n hx hb d_19_19_176 rfl (lv_at hl 2 rfl) ?_
  refine q_get (ci := 13) (j := 6) (v := .ref qA4) C0 V i_WR rfl rfl hO0 (by decide) w_1930 rfl d_19_19_177 ?_
  refine q_goi V (q_runS (As := [.ref qA4]) (rest := []) (d := 1) (mc := 0) (ms := 0) C0 V rfl LS_WR_59 (c_WR_size l D g u28 kA4 qA4 hA4 _) rfl hl.1 rfl (Nat.le_of_ble_eq_true rfl) ⟨by decide, by decide⟩ ⟨Nat.le_of_ble_eq_true rfl, Nat.le_of_ble_eq_true rfl⟩ d_19_19_180) (fun v40 u39 H locs hp38 V => ?_)
  obtain ⟨rfl, rfl⟩ := hp38
  refine lv_sipush (v := 128) hx hb d_19_19_183 (by decide) ?_
  refine lv_icmp_le (tgt := 195) hx hb d_19_19_186 (by decide) (fun c42 => ?_) (fun c42 => absurd (by decide) c42)
  refine lv_iinc (v := 1) (lv' := [(4, .int 1), (3, .int 0), (0, .ref qO0), (1, .int x1), (2, .int 10)]) hx hb d_19_19_195 hl (k := 0) rfl (by decide) (by decide) rfl (fun ls hl => ?_)
  refine lv_goto (tgt := 149) hx hb d_19_19_198 (by decide) ?_
  refine lv_iload hx hb d_19_19_149 (lv_at hl 0 rfl) ?_
  refine lv_aload_n hx hb d_19_19_151 rfl (lv_at hl 2 rfl) ?_
  refine q_get (ci := 13) (j := 3) (v := .int 1) C0 V i_WR rfl rfl hO0 (by decide) w_1927 rfl d_19_19_152 ?_
  refine lv_icmp_ge (tgt := 201) hx hb d_19_19_155 (by decide) (fun c43 => ?_) (fun c43 => absurd (by decide) c43)
  refine lv_aload_n hx hb d_19_19_201 rfl (lv_at hl 2 rfl) ?_
  refine lv_aload_n hx hb d_19_19_202 rfl (lv_at hl 2 rfl) ?_
  refine q_get (ci := 13) (j := 2) (v := .ref qA1) C0 V i_WR rfl rfl hO0 (by decide) w_1924 rfl d_19_19_203 ?_
  refine lv_iconst (v := 0) hx hb d_19_19_206 (by decide) ?_
  refine q_iald C0 V hA1 (by unfold vp_in; decide) d_19_19_207 ?_
  refine q_ti (v := 48) (by first | rfl | decide | simp [upd, vp_updL, sb_cl0]) ?_
  refine lv_bipush (v := 45) hx hb d_19_19_208 (by decide) ?_
  refine lv_icmp_ne (tgt := 217) hx hb d_19_19_210 (by decide) (fun c44 => ?_) (fun c44 => absurd c44 (by decide))
  refine lv_iconst (v := 0) hx hb d_19_19_217 (by decide) ?_
  refine q_put (ci := 13) (j := 7) (v := .int 0) (ty := .boolean) C0 V i_WR o_WR n_WR rfl rfl hO0 (by decide) w_1931 rfl rfl rfl rfl (Nat.le_of_ble_eq_true rfl) d_19_19_218 (fun H locs w45 hu46 hO0 V => ?_)
  replace hO0 : w45[kO0]? = (some (qO0, .inr (13, [.int 0, .int 0, .ref qA1, .int 1, .ref qA2, .ref qA3, .ref qA4, .int 0, .ref qA5, .ref qA6, .ref qA7, .ref qA8, .ref qA9, .ref qA10, .ref qA11, .ref qA12, .int 0, .int 0, .ref qA13, .ref qA14, .int 0])) : Option (Nat × va_E)) := hO0
  replace hF := q_us hF hu46 (.head _)
  refine lv_aload_n hx hb d_19_19_221 rfl (lv_at hl 2 rfl) ?_
  refine lv_iload_n hx hb d_19_19_222 rfl (lv_at hl 3 rfl) ?_
  replace hA2 := (hu46 _ n_A2_O0).trans ((hg29 _ (q_nc n_A2_A4 List.not_mem_nil)).trans ((hu24 _ n_A2_O0).trans ((hu16 _ n_A2_O0).trans ((hu9 _ n_A2_O0).trans (hA2)))))
  replace hA3 := (hu46 _ n_A3_O0).trans ((hg29 _ (q_nc n_A3_A4 List.not_mem_nil)).trans ((hu24 _ n_A3_O0).trans ((hu16 _ n_A3_O0).trans ((hu9 _ n_A3_O0).trans (hA3)))))
  replace hA4 := (hu46 _ n_A4_O0).trans (hA4)
  refine q_gov V (q_runV (As := [.int x1]) (rest := []) (d := 2) (mc := 0) (ms := 0) (ci := 13) C0 V rfl LV_WR_103 (c_WR_store_4 l D g w45 kO0 kA2 kA3 kA4 qO0 qA1 qA2 qA3 qA4 qA5 qA6 qA7 qA8 qA9 qA10 qA11 qA12 qA13 qA14 x1 hO0 hA2 hA3 hA4 n_A2_A3 n_A4_A2 n_A4_A3 x1lo x1hi _) rfl rfl hO0 rfl hl.1 rfl (Nat.le_of_ble_eq_true rfl) ⟨by decide, by decide⟩ ⟨Nat.le_of_ble_eq_true rfl, Nat.le_of_ble_eq_true rfl⟩ d_19_19_223) (fun u48 H locs hp47 V => ?_)
  obtain ⟨hg49, hA2, hA3⟩ := hp47
  replace hF := q_uc hF hg49 (q_sc (.tail _ (.head _)) (q_sc (.tail _ (.tail _ (.head _))) (fun _ h => absurd h List.not_mem_nil)))
  refine lv_aload_n hx hb d_19_19_226 rfl (lv_at hl 2 rfl) ?_
  refine lv_iconst (v := 0) hx hb d_19_19_227 (by decide) ?_
  replace hO0 := (hg49 _ (q_nc n_O0_A2 (q_nc n_O0_A3 List.not_mem_nil))).trans (hO0)
  refine q_put (ci := 13) (j := 3) (v := .int 0) (ty := .int) C0 V i_WR o_WR n_WR rfl rfl hO0 (by decide) w_1927 rfl rfl rfl rfl (Nat.le_of_ble_eq_true rfl) d_19_19_228 (fun H locs w50 hu51 hO0 V => ?_)
  replace hO0 : w50[kO0]? = (some (qO0, .inr (13, [.int 0, .int 0, .ref qA1, .int 0, .ref qA2, .ref qA3, .ref qA4, .int 0, .ref qA5, .ref qA6, .ref qA7, .ref qA8, .ref qA9, .ref qA10, .ref qA11, .ref qA12, .int 0, .int 0, .ref qA13, .ref qA14, .int 0])) : Option (Nat × va_E)) := hO0
  replace hF := q_us hF hu51 (.head _)
  replace hA2 := (hu51 _ n_A2_O0).trans (hA2)
  replace hA3 := (hu51 _ n_A3_O0).trans (hA3)
  replace hA4 := (hu51 _ n_A4_O0).trans ((hg49 _ (q_nc n_A4_A2 (q_nc n_A4_A3 List.not_mem_nil))).trans (hA4))
  exact q_retv C0 V (⟨hF, hO0, hA2, hA3, hA4⟩) d_19_19_231
theorem d_15_49_0 : decode prog_15_method_49_code 0 = .ok (.aload_n 0, 1) := by decide +kernel
theorem d_15_49_1 : decode prog_15_method_49_code 1 = .ok (.getfield 38, 3) := by decide +kernel
theorem d_15_49_4 : decode prog_15_method_49_code 4 = .ok (.aload_n 0, 1) := by decide +kernel
theorem d_15_49_5 : decode prog_15_method_49_code 5 = .ok (.getfield 186, 3) := by decide +kernel
theorem w_2023 : (Cond.fieldLink "NumberHouseModel$DecimalRows" (186 : Nat) "NumberHouseModel$DecimalRows" "printed" "I") ∈ q_tbl := q_of 2023 (by decide +kernel) (by decide +kernel)
theorem d_15_49_8 : decode prog_15_method_49_code 8 = .ok (.iload_n 1, 1) := by decide +kernel
theorem d_15_49_9 : decode prog_15_method_49_code 9 = .ok (.iastore, 1) := by decide +kernel
theorem d_15_49_10 : decode prog_15_method_49_code 10 = .ok (.aload_n 0, 1) := by decide +kernel
theorem d_15_49_11 : decode prog_15_method_49_code 11 = .ok (.dup, 1) := by decide +kernel
theorem d_15_49_12 : decode prog_15_method_49_code 12 = .ok (.getfield 186, 3) := by decide +kernel
theorem d_15_49_15 : decode prog_15_method_49_code 15 = .ok (.iconst 1, 1) := by decide +kernel
theorem d_15_49_16 : decode prog_15_method_49_code 16 = .ok (.iadd, 1) := by decide +kernel
theorem d_15_49_17 : decode prog_15_method_49_code 17 = .ok (.putfield 186, 3) := by decide +kernel
theorem d_15_49_20 : decode prog_15_method_49_code 20 = .ok (.return_, 1) := by decide +kernel
def y_DR_print : MethodName := ⟨"NumberHouseModel$DecimalRows", "print", "(I)V"⟩
