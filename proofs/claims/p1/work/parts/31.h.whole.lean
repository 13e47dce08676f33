/-! the reference on a fresh object: whole -/
set_option maxRecDepth 100000 in
set_option maxHeartbeats 4000000 in
theorem c_WR_take_3 (l : Launch) (D : va_G) (g : Nat → ClassId) (ws : va_W) (kO0 kA1 kA3 qO0 qA1 qA2 qA3 qA4 qA5 qA6 qA7 qA8 qA9 qA10 qA11 qA12 qA13 qA14 : Nat) (x1 : Int32) (hO0 : ws[kO0]? = (some (qO0, .inr (13, [.int 0, .int 2, .ref qA2, .int 0, .ref qA3, .ref qA4, .ref qA5, .int 0, .ref qA6, .ref qA7, .ref qA8, .ref qA9, .ref qA1, .ref qA10, .ref qA11, .ref qA12, .int 0, .int 0, .ref qA13, .ref qA14, .int 0])) : Option (Nat × va_E))) (hA1 : ws[kA1]? = (some (qA1, .inl (g 0, 264, .inl (fun _ => 0))) : Option (Nat × va_E))) (hA3 : ws[kA3]? = (some (qA3, .inl (g 0, 1408, .inl (fun _ => 0))) : Option (Nat × va_E))) (n_A3_A1 : kA3 ≠ kA1) (x1lo : 0 ≤ x1) (x1hi : x1 ≤ 9) : q_mV l y_WR_take prog_19_method_6_code 4 1 0 0 D g [.ref qO0, .int x1, .ref qA1] ws (fun u => q_un ws u [kA1] ∧ u[kA1]? = (some (qA1, .inl (g 0, 264, .inl (fun _ => 0))) : Option (Nat × va_E))) := by
  intro sz
  refine q_into (by decide) (Nat.le_of_ble_eq_true rfl) ?_
  intro p e s m below meth c ls hsz C0 V hl
  have hx := C0.1
  have hb := C0.2.1
  have hl : lv_has ls 4 [(0, .ref qO0), (1, .int x1), (2, .ref qA1)] := hl
  have n_O0_A1 := Ne.symm (q_df hA1 hO0)
  have hF : q_un ws ws [kA1] := q_u0
  refine lv_iconst (v := 0) hx hb d_19_6_0 (by decide) ?_
  refine lv_istore_n (lv' := [(3, .int 0), (0, .ref qO0), (1, .int x1), (2, .ref qA1)]) hx hb d_19_6_1 rfl hl (by decide) rfl (fun ls hl => ?_)
  refine q_loop (X := Int32) (fun z H locs ls w2 => (0 ≤ z.toInt ∧ (z.toInt ≤ 264 ∨ z.toInt = 0)) ∧ q_Wd D g (va_A ws sz) s w2 H locs ∧ lv_has ls 4 [(3, .int z), (0, .ref qO0), (1, .int x1), (2, .ref qA1)] ∧ q_un ws w2 [kA1] ∧ w2[kO0]? = (some (qO0, .inr (13, [.int 0, .int 2, .ref qA2, .int 0, .ref qA3, .ref qA4, .ref qA5, .int 0, .ref qA6, .ref qA7, .ref qA8, .ref qA9, .ref qA1, .ref qA10, .ref qA11, .ref qA12, .int 0, .int 0, .ref qA13, .ref qA14, .int 0])) : Option (Nat × va_E)) ∧ w2[kA1]? = (some (qA1, .inl (g 0, 264, .inl (fun _ => 0))) : Option (Nat × va_E)) ∧ w2[kA3]? = (some (qA3, .inl (g 0, 1408, .inl (fun _ => 0))) : Option (Nat × va_E))) (fun z => (264 - z.toInt).toNat) ?_ ((0 : Int32)) _ _ _ ws ⟨⟨by decide, Or.inr (by decide)⟩, V, hl, hF, hO0, hA1, hA3⟩
  rintro lx1 H locs ls w2 ⟨i3, V, hl, hF, hO0, hA1, hA3⟩ ih4
  replace i3 : 0 ≤ lx1.toInt ∧ (lx1.toInt ≤ 264 ∨ lx1.toInt = 0) := i3
  replace hl : lv_has ls 4 [(3, .int lx1), (0, .ref qO0), (1, .int x1), (2, .ref qA1)] := hl
  replace hO0 : w2[kO0]? = (some (qO0, .inr (13, [.int 0, .int 2, .ref qA2, .int 0, .ref qA3, .ref qA4, .ref qA5, .int 0, .ref qA6, .ref qA7, .ref qA8, .ref qA9, .ref qA1, .ref qA10, .ref qA11, .ref qA12, .int 0, .int 0, .ref qA13, .ref qA14, .int 0])) : Option (Nat × va_E)) := hO0
  replace hA1 : w2[kA1]? = (some (qA1, .inl (g 0, 264, .inl (fun _ => 0))) : Option (Nat × va_E)) := hA1
  replace hA3 : w2[kA3]? = (some (qA3, .inl (g 0, 1408, .inl (fun _ => 0))) : Option (Nat × va_E)) := hA3
  refine lv_iload_n hx hb d_19_6_2 rfl (lv_at hl 0 rfl) ?_
  refine lv_aload_n hx hb d_19_6_3 rfl (lv_at hl 3 rfl) ?_
  refine q_alen (t := 0) (v := 264) C0 V hA1 rfl (by first | rfl | decide) d_19_6_4 ?_
  refine lv_icmp_ge (tgt := 40) hx hb d_19_6_5 (by decide) (fun c5 => ?_) (fun c5 => ?_)
  ·
    exact q_retv C0 V (⟨hF, hA1⟩) d_19_6_40
  ·
    refine lv_aload_n hx hb d_19_6_8 rfl (lv_at hl 3 rfl) ?_
    refine lv_iload_n hx hb d_19_6_9 rfl (lv_at hl 0 rfl) ?_
    refine lv_iload_n hx hb d_19_6_10 rfl (lv_at hl 0 rfl) ?_
    refine lv_sipush (v := 128) hx hb d_19_6_11 (by decide) ?_
    refine lv_icmp_ge (tgt := 32) hx hb d_19_6_14 (by decide) (fun c6 => ?_) (fun c6 => ?_)
    ·
      refine lv_iconst (v := 0) hx hb d_19_6_32 (by decide) ?_
      refine q_iast C0 V hA1 (q_ix (x := lx1.toInt) rfl (by have t1 : lx1.toInt < 264 := q_nleI c5; have t2 : 128 ≤ lx1.toInt := q_leI c6; omega) (by have t1 : lx1.toInt < 264 := q_nleI c5; have t2 : 128 ≤ lx1.toInt := q_leI c6; omega)) d_19_6_33 (fun H locs w7 hu8 hA1 V => ?_)
      replace hA1 := q_re (y := (qA1, .inl (g 0, 264, .inl (fun _ => 0)))) hA1 (q_eI q_upd0)
      replace hA1 : w7[kA1]? = (some (qA1, .inl (g 0, 264, .inl (fun _ => 0))) : Option (Nat × va_E)) := hA1
      replace hF := q_us hF hu8 (.head _)
      refine lv_iinc (v := lx1 + 1) (lv' := [(3, .int (lx1 + 1)), (0, .ref qO0), (1, .int x1), (2, .ref qA1)]) hx hb d_19_6_34 hl (k := 0) rfl (rfl) (by decide) rfl (fun ls hl => ?_)
      refine lv_goto (tgt := 2) hx hb d_19_6_37 (by decide) ?_
      replace hO0 := (hu8 _ n_O0_A1).trans (hO0)
      replace hA3 := (hu8 _ n_A3_A1).trans (hA3)
      exact ih4 ((lx1 + 1 : Int32)) _ _ _ _ (show (264 - (lx1 + 1).toInt).toNat < (264 - lx1.toInt).toNat from by have t1 : lx1.toInt < 264 := q_nleI c5; have t2 : 128 ≤ lx1.toInt := q_leI c6; have e : (lx1 + 1).toInt = (lx1.toInt + 1) := (q_addI (x := lx1.toInt) (y := 1) rfl (by decide) (by have t1 : lx1.toInt < 264 := q_nleI c5; have t2 : 128 ≤ lx1.toInt := q_leI c6; omega) (by have t1 : lx1.toInt < 264 := q_nleI c5; have t2 : 128 ≤ lx1.toInt := q_leI c6; omega)); omega) ⟨(show 0 ≤ (lx1 + 1).toInt ∧ ((lx1 + 1).toInt ≤ 264 ∨ (lx1 + 1).toInt = 0) from by have t1 : lx1.toInt < 264 := q_nleI c5; have t2 : 128 ≤ lx1.toInt := q_leI c6; have e : (lx1 + 1).toInt = (lx1.toInt + 1) := (q_addI (x := lx1.toInt) (y := 1) rfl (by decide) (by have t1 : lx1.toInt < 264 := q_nleI c5; have t2 : 128 ≤ lx1.toInt := q_leI c6; omega) (by have t1 : lx1.toInt < 264 := q_nleI c5; have t2 : 128 ≤ lx1.toInt := q_leI c6; omega)); omega), V, q_lw hl (q_lw1 0 rfl (q_lw1 1 rfl (q_lw1 2 rfl (q_lw1 3 rfl q_lw0)))), hF, hO0, hA1, hA3⟩
    ·
      refine lv_aload_n hx hb d_19_6_17 rfl (lv_at hl 1 rfl) ?_
      refine q_get (ci := 13) (j := 4) (v := .ref qA3) C0 V i_WR rfl rfl hO0 (by decide) w_1928 rfl d_19_6_18 ?_
      refine lv_sipush (v := 128) hx hb d_19_6_21 (by decide) ?_
      refine lv_iload_n hx hb d_19_6_24 rfl (lv_at hl 2 rfl) ?_
      refine lv_imul hx hb d_19_6_25 ?_
      refine lv_iload_n hx hb d_19_6_26 rfl (lv_at hl 0 rfl) ?_
      refine lv_iadd hx hb d_19_6_27 ?_
      refine q_iald C0 V hA3 (q_ix (x := ((128 * x1.toInt) + lx1.toInt)) (q_addI (x := (128 * x1.toInt)) (y := lx1.toInt) (q_mulI (x := 128) (y := x1.toInt) (by decide) rfl (by have t1 : 0 ≤ x1.toInt := q_leI x1lo; have t2 : x1.toInt ≤ 9 := q_leI x1hi; omega) (by have t1 : 0 ≤ x1.toInt := q_leI x1lo; have t2 : x1.toInt ≤ 9 := q_leI x1hi; omega)) rfl (by have t1 : 0 ≤ x1.toInt := q_leI x1lo; have t2 : x1.toInt ≤ 9 := q_leI x1hi; have t3 : lx1.toInt < 264 := q_nleI c5; have t4 : lx1.toInt < 128 := q_nleI c6; omega) (by have t1 : 0 ≤ x1.toInt := q_leI x1lo; have t2 : x1.toInt ≤ 9 := q_leI x1hi; have t3 : lx1.toInt < 264 := q_nleI c5; have t4 : lx1.toInt < 128 := q_nleI c6; omega)) (by have t1 : 0 ≤ x1.toInt := q_leI x1lo; have t2 : x1.toInt ≤ 9 := q_leI x1hi; have t3 : lx1.toInt < 264 := q_nleI c5; have t4 : lx1.toInt < 128 := q_nleI c6; omega) (by have t1 : 0 ≤ x1.toInt := q_leI x1lo; have t2 : x1.toInt ≤ 9 := q_leI x1hi; have t3 : lx1.toInt < 264 := q_nleI c5; have t4 : lx1.toInt < 128 := q_nleI c6; omega)) d_19_6_28 ?_
      refine q_ti (v := 0) (by first | rfl | decide | simp [upd, vp_updL, sb_cl0]) ?_
      refine lv_goto (tgt := 33) hx hb d_19_6_29 (by decide) ?_
      refine q_iast C0 V hA1 (q_ix (x := lx1.toInt) rfl (by have t1 : lx1.toInt < 264 := q_nleI c5; have t2 : lx1.toInt < 128 := q_nleI c6; omega) (by have t1 : lx1.toInt < 264 := q_nleI c5; have t2 : lx1.toInt < 128 := q_nleI c6; omega)) d_19_6_33 (fun H locs w9 hu10 hA1 V => ?_)
      replace hA1 := q_re (y := (qA1, .inl (g 0, 264, .inl (fun _ => 0)))) hA1 (q_eI q_upd0)
      replace hA1 : w9[kA1]? = (some (qA1, .inl (g 0, 264, .inl (fun _ => 0))) : Option (Nat × va_E)) := hA1
      replace hF := q_us hF hu10 (.head _)
      refine lv_iinc (v := lx1 + 1) (lv' := [(3, .int (lx1 + 1)), (0, .ref qO0), (1, .int x1), (2, .ref qA1)]) hx hb d_19_6_34 hl (k := 0) rfl (rfl) (by decide) rfl (fun ls hl => ?_)
      refine lv_goto (tgt := 2) hx hb d_19_6_37 (by decide) ?_
      replace hO0 := (hu10 _ n_O0_A1).trans (hO0)
      replace hA3 := (hu10 _ n_A3_A1).trans (hA3)
      exact ih4 ((lx1 + 1 : Int32)) _ _ _ _ (show (264 - (lx1 + 1).toInt).toNat < (264 - lx1.toInt).toNat from by have t1 : lx1.toInt < 264 := q_nleI c5; have t2 : lx1.toInt < 128 := q_nleI c6; have e : (lx1 + 1).toInt = (lx1.toInt + 1) := (q_addI (x := lx1.toInt) (y := 1) rfl (by decide) (by have t1 : lx1.toInt < 264 := q_nleI c5; have t2 : lx1.toInt < 128 := q_nleI c6; omega) (by have t1 : lx1.toInt < 264 := q_nleI c5; have t2 : lx1.toInt < 128 := q_nleI c6; omega)); omega) ⟨(show 0 ≤ (lx1 + 1).toInt ∧ ((lx1 + 1).toInt ≤ 264 ∨ (lx1 + 1).toInt = 0) from by have t1 : lx1.toInt < 264 := q_nleI c5; have t2 : lx1.toInt < 128 := q_nleI c6; have e : (lx1 + 1).toInt = (lx1.toInt + 1) := (q_addI (x := lx1.toInt) (y := 1) rfl (by decide) (by have t1 : lx1.toInt < 264 := q_nleI c5; have t2 : lx1.toInt < 128 := q_nleI c6; omega) (by have t1 : lx1.toInt < 264 := q_nleI c5; have t2 : lx1.toInt < 128 := q_nleI c6; omega)); omega), V, q_lw hl (q_lw1 0 rfl (q_lw1 1 rfl (q_lw1 2 rfl (q_lw1 3 rfl q_lw0)))), hF, hO0, hA1, hA3⟩
set_option maxRecDepth 100000 in
set_option maxHeartbeats 4000000 in
theorem c_WR_take_4 (l : Launch) (D : va_G) (g : Nat → ClassId) (ws : va_W) (kO0 kA1 kA3 qO0 qA1 qA2 qA3 qA4 qA5 qA6 qA7 qA8 qA9 qA10 qA11 qA12 qA13 qA14 : Nat) (x1 : Int32) (hO0 : ws[kO0]? = (some (qO0, .inr (13, [.int 0, .int 2, .ref qA2, .int 0, .ref qA3, .ref qA4, .ref qA5, .int 0, .ref qA6, .ref qA7, .ref qA8, .ref qA9, .ref qA10, .ref qA1, .ref qA11, .ref qA12, .int 0, .int 0, .ref qA13, .ref qA14, .int 0])) : Option (Nat × va_E))) (hA1 : ws[kA1]? = (some (qA1, .inl (g 0, 264, .inl (fun _ => 0))) : Option (Nat × va_E))) (hA3 : ws[kA3]? = (some (qA3, .inl (g 0, 1408, .inl (fun _ => 0))) : Option (Nat × va_E))) (n_A3_A1 : kA3 ≠ kA1) (x1lo : 0 ≤ x1) (x1hi : x1 ≤ 9) : q_mV l y_WR_take prog_19_method_6_code 4 1 0 0 D g [.ref qO0, .int x1, .ref qA1] ws (fun u => q_un ws u [kA1] ∧ u[kA1]? = (some (qA1, .inl (g 0, 264, .inl (fun _ => 0))) : Option (Nat × va_E))) := by
  intro sz
  refine q_into (by decide) (Nat.le_of_ble_eq_true rfl) ?_
  intro p e s m below meth c ls hsz C0 V hl
  have hx := C0.1
  have hb := C0.2.1
  have hl : lv_has ls 4 [(0, .ref qO0), (1, .int x1), (2, .ref qA1)] := hl
  have n_O0_A1 := Ne.symm (q_df hA1 hO0)
  have hF : q_un ws ws [kA1] := q_u0
  refine lv_iconst (v := 0) hx hb d_19_6_0 (by decide) ?_
  refine lv_istore_n (lv' := [(3, .int 0), (0, .ref qO0), (1, .int x1), (2, .ref qA1)]) hx hb d_19_6_1 rfl hl (by decide) rfl (fun ls hl => ?_)
  refine q_loop (X := Int32) (fun z H locs ls w2 => (0 ≤ z.toInt ∧ (z.toInt ≤ 264 ∨ z.toInt = 0)) ∧ q_Wd D g (va_A ws sz) s w2 H locs ∧ lv_has ls 4 [(3, .int z), (0, .ref qO0), (1, .int x1), (2, .ref qA1)] ∧ q_un ws w2 [kA1] ∧ w2[kO0]? = (some (qO0, .inr (13, [.int 0, .int 2, .ref qA2, .int 0, .ref qA3, .ref qA4, .ref qA5, .int 0, .ref qA6, .ref qA7, .ref qA8, .ref qA9, .ref qA10, .ref qA1, .ref qA11, .ref qA12, .int 0, .int 0, .ref qA13, .ref qA14, .int 0])) : Option (Nat × va_E)) ∧ w2[kA1]? = (some (qA1, .inl (g 0, 264, .inl (fun _ => 0))) : Option (Nat × va_E)) ∧ w2[kA3]? = (some (qA3, .inl (g 0, 1408, .inl (fun _ => 0))) : Option (Nat × va_E))) (fun z => (264 - z.toInt).toNat) ?_ ((0 : Int32)) _ _ _ ws ⟨⟨by decide, Or.inr (by decide)⟩, V, hl, hF, hO0, hA1, hA3⟩
  rintro lx1 H locs ls w2 ⟨i3, V, hl, hF, hO0, hA1, hA3⟩ ih4
  replace i3 : 0 ≤ lx1.toInt ∧ (lx1.toInt ≤ 264 ∨ lx1.toInt = 0) := i3
  replace hl : lv_has ls 4 [(3, .int lx1), (0, .ref qO0), (1, .int x1), (2, .ref qA1)] := hl
  replace hO0 : w2[kO0]? = (some (qO0, .inr (13, [.int 0, .int 2, .ref qA2, .int 0, .ref qA3, .ref qA4, .ref qA5, .int 0, .ref qA6, .ref qA7, .ref qA8, .ref qA9, .ref qA10, .ref qA1, .ref qA11, .ref qA12, .int 0, .int 0, .ref qA13, .ref qA14, .int 0])) : Option (Nat × va_E)) := hO0
  replace hA1 : w2[kA1]? = (some (qA1, .inl (g 0, 264, .inl (fun _ => 0))) : Option (Nat × va_E)) := hA1
  replace hA3 : w2[kA3]? = (some (qA3, .inl (g 0, 1408, .inl (fun _ => 0))) : Option (Nat × va_E)) := hA3
  refine lv_iload_n hx hb d_19_6_2 rfl (lv_at hl 0 rfl) ?_
  refine lv_aload_n hx hb d_19_6_3 rfl (lv_at hl 3 rfl) ?_
  refine q_alen (t := 0) (v := 264) C0 V hA1 rfl (by first | rfl | decide) d_19_6_4 ?_
  refine lv_icmp_ge (tgt := 40) hx hb d_19_6_5 (by decide) (fun c5 => ?_) (fun c5 => ?_)
  ·
    exact q_retv C0 V (⟨hF, hA1⟩) d_19_6_40
  ·
    refine lv_aload_n hx hb d_19_6_8 rfl (lv_at hl 3 rfl) ?_
    refine lv_iload_n hx hb d_19_6_9 rfl (lv_at hl 0 rfl) ?_
    refine lv_iload_n hx hb d_19_6_10 rfl (lv_at hl 0 rfl) ?_
    refine lv_sipush (v := 128) hx hb d_19_6_11 (by decide) ?_
    refine lv_icmp_ge (tgt := 32) hx hb d_19_6_14 (by decide) (fun c6 => ?_) (fun c6 => ?_)
    ·
      refine lv_iconst (v := 0) hx hb d_19_6_32 (by decide) ?_
      refine q_iast C0 V hA1 (q_ix (x := lx1.toInt) rfl (by have t1 : lx1.toInt < 264 := q_nleI c5; have t2 : 128 ≤ lx1.toInt := q_leI c6; omega) (by have t1 : lx1.toInt < 264 := q_nleI c5; have t2 : 128 ≤ lx1.toInt := q_leI c6; omega)) d_19_6_33 (fun H locs w7 hu8 hA1 V => ?_)
      replace hA1 := q_re (y := (qA1, .inl (g 0, 264, .inl (fun _ => 0)))) hA1 (q_eI q_upd0)
      replace hA1 : w7[kA1]? = (some (qA1, .inl (g 0, 264, .inl (fun _ => 0))) : Option (Nat × va_E)) := hA1
      replace hF := q_us hF hu8 (.head _)
      refine lv_iinc (v := lx1 + 1) (lv' := [(3, .int (lx1 + 1)), (0, .ref qO0), (1, .int x1), (2, .ref qA1)]) hx hb d_19_6_34 hl (k := 0) rfl (rfl) (by decide) rfl (fun ls hl => ?_)
      refine lv_goto (tgt := 2) hx hb d_19_6_37 (by decide) ?_
      replace hO0 := (hu8 _ n_O0_A1).trans (hO0)
      replace hA3 := (hu8 _ n_A3_A1).trans (hA3)
      exact ih4 ((lx1 + 1 : Int32)) _ _ _ _ (show (264 - (lx1 + 1).toInt).toNat < (264 - lx1.toInt).toNat from by have t1 : lx1.toInt < 264 := q_nleI c5; have t2 : 128 ≤ lx1.toInt := q_leI c6; have e : (lx1 + 1).toInt = (lx1.toInt + 1) := (q_addI (x := lx1.toInt) (y := 1) rfl (by decide) (by have t1 : lx1.toInt < 264 := q_nleI c5; have t2 : 128 ≤ lx1.toInt := q_leI c6; omega) (by have t1 : lx1.toInt < 264 := q_nleI c5; have t2 : 128 ≤ lx1.toInt := q_leI c6; omega)); omega) ⟨(show 0 ≤ (lx1 + 1).toInt ∧ ((lx1 + 1).toInt ≤ 264 ∨ (lx1 + 1).toInt = 0) from by have t1 : lx1.toInt < 264 := q_nleI c5; have t2 : 128 ≤ lx1.toInt := q_leI c6; have e : (lx1 + 1).toInt = (lx1.toInt + 1) := (q_addI (x := lx1.toInt) (y := 1) rfl (by decide) (by have t1 : lx1.toInt < 264 := q_nleI c5; have t2 : 128 ≤ lx1.toInt := q_leI c6; omega) (by have t1 : lx1.toInt < 264 := q_nleI c5; have t2 : 128 ≤ lx1.toInt := q_leI c6; omega)); omega), V, q_lw hl (q_lw1 0 rfl (q_lw1 1 rfl (q_lw1 2 rfl (q_lw1 3 rfl q_lw0)))), hF, hO0, hA1, hA3⟩
    ·
      refine lv_aload_n hx hb d_19_6_17 rfl (lv_at hl 1 rfl) ?_
      refine q_get (ci := 13) (j := 4) (v := .ref qA3) C0 V i_WR rfl rfl hO0 (by decide) w_1928 rfl d_19_6_18 ?_
      refine lv_sipush (v := 128) hx hb d_19_6_21 (by decide) ?_
      refine lv_iload_n hx hb d_19_6_24 rfl (lv_at hl 2 rfl) ?_
      refine lv_imul hx hb d_19_6_25 ?_
      refine lv_iload_n hx hb d_19_6_26 rfl (lv_at hl 0 rfl) ?_
      refine lv_iadd hx hb d_19_6_27 ?_
      refine q_iald C0 V hA3 (q_ix (x := ((128 * x1.toInt) + lx1.toInt)) (q_addI (x := (128 * x1.toInt)) (y := lx1.toInt) (q_mulI (x := 128) (y := x1.toInt) (by decide) rfl (by have t1 : 0 ≤ x1.toInt := q_leI x1lo; have t2 : x1.toInt ≤ 9 := q_leI x1hi; omega) (by have t1 : 0 ≤ x1.toInt := q_leI x1lo; have t2 : x1.toInt ≤ 9 := q_leI x1hi; omega)) rfl (by have t1 : 0 ≤ x1.toInt := q_leI x1lo; have t2 : x1.toInt ≤ 9 := q_leI x1hi; have t3 : lx1.toInt < 264 := q_nleI c5; have t4 : lx1.toInt < 128 := q_nleI c6; omega) (by have t1 : 0 ≤ x1.toInt := q_leI x1lo; have t2 : x1.toInt ≤ 9 := q_leI x1hi; have t3 : lx1.toInt < 264 := q_nleI c5; have t4 : lx1.toInt < 128 := q_nleI c6; omega)) (by have t1 : 0 ≤ x1.toInt := q_leI x1lo; have t2 : x1.toInt ≤ 9 := q_leI x1hi; have t3 : lx1.toInt < 264 := q_nleI c5; have t4 : lx1.toInt < 128 := q_nleI c6; omega) (by have t1 : 0 ≤ x1.toInt := q_leI x1lo; have t2 : x1.toInt ≤ 9 := q_leI x1hi; have t3 : lx1.toInt < 264 := q_nleI c5; have t4 : lx1.toInt < 128 := q_nleI c6; omega)) d_19_6_28 ?_
      refine q_ti (v := 0) (by first | rfl | decide | simp [upd, vp_updL, sb_cl0]) ?_
      refine lv_goto (tgt := 33) hx hb d_19_6_29 (by decide) ?_
      refine q_iast C0 V hA1 (q_ix (x := lx1.toInt) rfl (by have t1 : lx1.toInt < 264 := q_nleI c5; have t2 : lx1.toInt < 128 := q_nleI c6; omega) (by have t1 : lx1.toInt < 264 := q_nleI c5; have t2 : lx1.toInt < 128 := q_nleI c6; omega)) d_19_6_33 (fun H locs w9 hu10 hA1 V => ?_)
      replace hA1 := q_re (y := (qA1, .inl (g 0, 264, .inl (fun _ => 0)))) hA1 (q_eI q_upd0)
      replace hA1 : w9[kA1]? = (some (qA1, .inl (g 0, 264, .inl (fun _ => 0))) : Option (Nat × va_E)) := hA1
      replace hF := q_us hF hu10 (.head _)
      refine lv_iinc (v := lx1 + 1) (lv' := [(3, .int (lx1 + 1)), (0, .ref qO0), (1, .int x1), (2, .ref qA1)]) hx hb d_19_6_34 hl (k := 0) rfl (rfl) (by decide) rfl (fun ls hl => ?_)
      refine lv_goto (tgt := 2) hx hb d_19_6_37 (by decide) ?_
      replace hO0 := (hu10 _ n_O0_A1).trans (hO0)
      replace hA3 := (hu10 _ n_A3_A1).trans (hA3)
      exact ih4 ((lx1 + 1 : Int32)) _ _ _ _ (show (264 - (lx1 + 1).toInt).toNat < (264 - lx1.toInt).toNat from by have t1 : lx1.toInt < 264 := q_nleI c5; have t2 : lx1.toInt < 128 := q_nleI c6; have e : (lx1 + 1).toInt = (lx1.toInt + 1) := (q_addI (x := lx1.toInt) (y := 1) rfl (by decide) (by have t1 : lx1.toInt < 264 := q_nleI c5; have t2 : lx1.toInt < 128 := q_nleI c6; omega) (by have t1 : lx1.toInt < 264 := q_nleI c5; have t2 : lx1.toInt < 128 := q_nleI c6; omega)); omega) ⟨(show 0 ≤ (lx1 + 1).toInt ∧ ((lx1 + 1).toInt ≤ 264 ∨ (lx1 + 1).toInt = 0) from by have t1 : lx1.toInt < 264 := q_nleI c5; have t2 : lx1.toInt < 128 := q_nleI c6; have e : (lx1 + 1).toInt = (lx1.toInt + 1) := (q_addI (x := lx1.toInt) (y := 1) rfl (by decide) (by have t1 : lx1.toInt < 264 := q_nleI c5; have t2 : lx1.toInt < 128 := q_nleI c6; omega) (by have t1 : lx1.toInt < 264 := q_nleI c5; have t2 : lx1.toInt < 128 := q_nleI c6; omega)); omega), V, q_lw hl (q_lw1 0 rfl (q_lw1 1 rfl (q_lw1 2 rfl (q_lw1 3 rfl q_lw0)))), hF, hO0, hA1, hA3⟩
theorem d_19_5_0 : decode prog_19_method_5_code 0 = .ok (.iconst 0, 1) := by decide +kernel
theorem d_19_5_1 : decode prog_19_method_5_code 1 = .ok (.istore_n 2, 1) := by decide +kernel
theorem d_19_5_2 : decode prog_19_method_5_code 2 = .ok (.iload_n 2, 1) := by decide +kernel
theorem d_19_5_3 : decode prog_19_method_5_code 3 = .ok (.aload_n 1, 1) := by decide +kernel
theorem d_19_5_4 : decode prog_19_method_5_code 4 = .ok (.arraylength, 1) := by decide +kernel
theorem d_19_5_5 : decode prog_19_method_5_code 5 = .ok (.if_icmp .ge 25, 3) := by decide +kernel
theorem d_19_5_30 : decode prog_19_method_5_code 30 = .ok (.return_, 1) := by decide +kernel
theorem d_19_5_8 : decode prog_19_method_5_code 8 = .ok (.aload_n 1, 1) := by decide +kernel
theorem d_19_5_9 : decode prog_19_method_5_code 9 = .ok (.iload_n 2, 1) := by decide +kernel
theorem d_19_5_10 : decode prog_19_method_5_code 10 = .ok (.iload_n 2, 1) := by decide +kernel
theorem d_19_5_11 : decode prog_19_method_5_code 11 = .ok (.aload_n 0, 1) := by decide +kernel
theorem d_19_5_12 : decode prog_19_method_5_code 12 = .ok (.arraylength, 1) := by decide +kernel
theorem d_19_5_13 : decode prog_19_method_5_code 13 = .ok (.if_icmp .ge 9, 3) := by decide +kernel
theorem d_19_5_16 : decode prog_19_method_5_code 16 = .ok (.aload_n 0, 1) := by decide +kernel
theorem d_19_5_17 : decode prog_19_method_5_code 17 = .ok (.iload_n 2, 1) := by decide +kernel
theorem d_19_5_18 : decode prog_19_method_5_code 18 = .ok (.iaload, 1) := by decide +kernel
theorem d_19_5_19 : decode prog_19_method_5_code 19 = .ok (.goto 4, 3) := by decide +kernel
theorem d_19_5_23 : decode prog_19_method_5_code 23 = .ok (.iastore, 1) := by decide +kernel
theorem d_19_5_24 : decode prog_19_method_5_code 24 = .ok (.iinc 2 1, 3) := by decide +kernel
theorem d_19_5_27 : decode prog_19_method_5_code 27 = .ok (.goto (-25), 3) := by decide +kernel
def y_WR_copy : MethodName := ⟨"NumberHouseModel$WholeRows", "copy", "([I[I)V"⟩
set_option maxRecDepth 100000 in
set_option maxHeartbeats 4000000 in
theorem c_WR_copy (l : Launch) (D : va_G) (g : Nat → ClassId) (ws : va_W) (kA0 kA1 qA0 qA1 : Nat) (hA0 : ws[kA0]? = (some (qA0, .inl (g 0, 264, .inl (fun _ => 0))) : Option (Nat × va_E))) (hA1 : ws[kA1]? = (some (qA1, .inl (g 0, 264, .inl (fun _ => 0))) : Option (Nat × va_E))) (n_A0_A1 : kA0 ≠ kA1) : q_mV l y_WR_copy prog_19_method_5_code 3 1 0 0 D g [.ref qA0, .ref qA1] ws (fun u => q_un ws u [kA1] ∧ u[kA1]? = (some (qA1, .inl (g 0, 264, .inl (fun _ => 0))) : Option (Nat × va_E))) := by
  intro sz
  refine q_into (by decide) (Nat.le_of_ble_eq_true rfl) ?_
  intro p e s m below meth c ls hsz C0 V hl
  have hx := C0.1
  have hb := C0.2.1
  have hl : lv_has ls 3 [(0, .ref qA0), (1, .ref qA1)] := hl
  have hF : q_un ws ws [kA1] := q_u0
  refine lv_iconst (v := 0) hx hb d_19_5_0 (by decide) ?_
  refine lv_istore_n (lv' := [(2, .int 0), (0, .ref qA0), (1, .ref qA1)]) hx hb d_19_5_1 rfl hl (by decide) rfl (fun ls hl => ?_)
  refine q_loop (X := Int32) (fun z H locs ls w2 => (0 ≤ z.toInt ∧ (z.toInt ≤ 264 ∨ z.toInt = 0)) ∧ q_Wd D g (va_A ws sz) s w2 H locs ∧ lv_has ls 3 [(2, .int z), (0, .ref qA0), (1, .ref qA1)] ∧ q_un ws w2 [kA1] ∧ w2[kA0]? = (some (qA0, .inl (g 0, 264, .inl (fun _ => 0))) : Option (Nat × va_E)) ∧ w2[kA1]? = (some (qA1, .inl (g 0, 264, .inl (fun _ => 0))) : Option (Nat × va_E))) (fun z => (264 - z.toInt).toNat) ?_ ((0 : Int32)) _ _ _ ws ⟨⟨by decide, Or.inr (by decide)⟩, V, hl, hF, hA0, hA1⟩
  rintro lx1 H locs ls w2 ⟨i3, V, hl, hF, hA0, hA1⟩ ih4
  replace i3 : 0 ≤ lx1.toInt ∧ (lx1.toInt ≤ 264 ∨ lx1.toInt = 0) := i3
  replace hl : lv_has ls 3 [(2, .int lx1), (0, .ref qA0), (1, .ref qA1)] := hl
  replace hA0 : w2[kA0]? = (some (qA0, .inl (g 0, 264, .inl (fun _ => 0))) : Option (Nat × va_E)) := hA0
  replace hA1 : w2[kA1]? = (some (qA1, .inl (g 0, 264, .inl (fun _ => 0))) : Option (Nat × va_E)) := hA1
  refine lv_iload_n hx hb d_19_5_2 rfl (lv_at hl 0 rfl) ?_
  refine lv_aload_n hx hb d_19_5_3 rfl (lv_at hl 2 rfl) ?_
  refine q_alen (t := 0) (v := 264) C0 V hA1 rfl (by first | rfl | decide) d_19_5_4 ?_
  refine lv_icmp_ge (tgt := 30) hx hb d_19_5_5 (by decide) (fun c5 => ?_) (fun c5 => ?_)
  ·
    exact q_retv C0 V (⟨hF, hA1⟩) d_19_5_30
  ·
    refine lv_aload_n hx hb d_19_5_8 rfl (lv_at hl 2 rfl) ?_
    refine lv_iload_n hx hb d_19_5_9 rfl (lv_at hl 0 rfl) ?_
    refine lv_iload_n hx hb d_19_5_10 rfl (lv_at hl 0 rfl) ?_
    refine lv_aload_n hx hb d_19_5_11 rfl (lv_at hl 1 rfl) ?_
    refine q_alen (t := 0) (v := 264) C0 V hA0 rfl (by first | rfl | decide) d_19_5_12 ?_
    refine lv_icmp_ge (tgt := 22) hx hb d_19_5_13 (by decide) (fun c6 => absurd c6 (Int32.not_le.mpr (Int32.not_le.mp c5))) (fun c6 => ?_)
    refine lv_aload_n hx hb d_19_5_16 rfl (lv_at hl 1 rfl) ?_
    refine lv_iload_n hx hb d_19_5_17 rfl (lv_at hl 0 rfl) ?_
    refine q_iald C0 V hA0 (q_ix (x := lx1.toInt) rfl (by have t1 : lx1.toInt < 264 := q_nleI c5; omega) (by have t1 : lx1.toInt < 264 := q_nleI c5; omega)) d_19_5_18 ?_
    refine q_ti (v := 0) (by first | rfl | decide | simp [upd, vp_updL, sb_cl0]) ?_
    refine lv_goto (tgt := 23) hx hb d_19_5_19 (by decide) ?_
    refine q_iast C0 V hA1 (q_ix (x := lx1.toInt) rfl (by have t1 : lx1.toInt < 264 := q_nleI c5; omega) (by have t1 : lx1.toInt < 264 := q_nleI c5; omega)) d_19_5_23 (fun H locs w7 hu8 hA1 V => ?_)
    replace hA1 := q_re (y := (qA1, .inl (g 0, 264, .inl (fun _ => 0)))) hA1 (q_eI q_upd0)
    replace hA1 : w7[kA1]? = (some (qA1, .inl (g 0, 264, .inl (fun _ => 0))) : Option (Nat × va_E)) := hA1
    replace hF := q_us hF hu8 (.head _)
    refine lv_iinc (v := lx1 + 1) (lv' := [(2, .int (lx1 + 1)), (0, .ref qA0), (1, .ref qA1)]) hx hb d_19_5_24 hl (k := 0) rfl (rfl) (by decide) rfl (fun ls hl => ?_)
    refine lv_goto (tgt := 2) hx hb d_19_5_27 (by decide) ?_
    replace hA0 := (hu8 _ n_A0_A1).trans (hA0)
    exact ih4 ((lx1 + 1 : Int32)) _ _ _ _ (show (264 - (lx1 + 1).toInt).toNat < (264 - lx1.toInt).toNat from by have t1 : lx1.toInt < 264 := q_nleI c5; have e : (lx1 + 1).toInt = (lx1.toInt + 1) := (q_addI (x := lx1.toInt) (y := 1) rfl (by decide) (by have t1 : lx1.toInt < 264 := q_nleI c5; omega) (by have t1 : lx1.toInt < 264 := q_nleI c5; omega)); omega) ⟨(show 0 ≤ (lx1 + 1).toInt ∧ ((lx1 + 1).toInt ≤ 264 ∨ (lx1 + 1).toInt = 0) from by have t1 : lx1.toInt < 264 := q_nleI c5; have e : (lx1 + 1).toInt = (lx1.toInt + 1) := (q_addI (x := lx1.toInt) (y := 1) rfl (by decide) (by have t1 : lx1.toInt < 264 := q_nleI c5; omega) (by have t1 : lx1.toInt < 264 := q_nleI c5; omega)); omega), V, q_lw hl (q_lw1 0 rfl (q_lw1 1 rfl (q_lw1 2 rfl q_lw0))), hF, hA0, hA1⟩
theorem d_19_7_0 : decode prog_19_method_7_code 0 = .ok (.aload_n 0, 1) := by decide +kernel
theorem d_19_7_1 : decode prog_19_method_7_code 1 = .ok (.arraylength, 1) := by decide +kernel
theorem d_19_7_2 : decode prog_19_method_7_code 2 = .ok (.istore_n 1, 1) := by decide +kernel
theorem d_19_7_3 : decode prog_19_method_7_code 3 = .ok (.iload_n 1, 1) := by decide +kernel
theorem d_19_7_4 : decode prog_19_method_7_code 4 = .ok (.ifCond .le 17, 3) := by decide +kernel
theorem d_19_7_21 : decode prog_19_method_7_code 21 = .ok (.iload_n 1, 1) := by decide +kernel
theorem d_19_7_22 : decode prog_19_method_7_code 22 = .ok (.ireturn, 1) := by decide +kernel
theorem d_19_7_7 : decode prog_19_method_7_code 7 = .ok (.aload_n 0, 1) := by decide +kernel
theorem d_19_7_8 : decode prog_19_method_7_code 8 = .ok (.iload_n 1, 1) := by decide +kernel
theorem d_19_7_9 : decode prog_19_method_7_code 9 = .ok (.iconst 1, 1) := by decide +kernel
theorem d_19_7_10 : decode prog_19_method_7_code 10 = .ok (.isub, 1) := by decide +kernel
theorem d_19_7_11 : decode prog_19_method_7_code 11 = .ok (.iaload, 1) := by decide +kernel
theorem d_19_7_12 : decode prog_19_method_7_code 12 = .ok (.ifCond .ne 9, 3) := by decide +kernel
theorem d_19_7_15 : decode prog_19_method_7_code 15 = .ok (.iinc 1 (-1), 3) := by decide +kernel
theorem d_19_7_18 : decode prog_19_method_7_code 18 = .ok (.goto (-15), 3) := by decide +kernel
def y_WR_size : MethodName := ⟨"NumberHouseModel$WholeRows", "size", "([I)I"⟩
set_option maxRecDepth 100000 in
set_option maxHeartbeats 4000000 in
theorem c_WR_size (l : Launch) (D : va_G) (g : Nat → ClassId) (ws : va_W) (kA0 qA0 : Nat) (hA0 : ws[kA0]? = (some (qA0, .inl (g 0, 264, .inl (fun _ => 0))) : Option (Nat × va_E))) : q_mI l y_WR_size prog_19_method_7_code 2 (.int) 1 0 0 D g [.ref qA0] ws (fun r u => 0 = r ∧ ws = u) := by
  intro sz
  refine q_into (by decide) (Nat.le_of_ble_eq_true rfl) ?_
  intro p e s m below meth c ls hsz C0 V hl
  have hx := C0.1
  have hb := C0.2.1
  have hl : lv_has ls 2 [(0, .ref qA0)] := hl
  refine lv_aload_n hx hb d_19_7_0 rfl (lv_at hl 0 rfl) ?_
  refine q_alen (t := 0) (v := 264) C0 V hA0 rfl (by first | rfl | decide) d_19_7_1 ?_
  refine lv_istore_n (lv' := [(1, .int 264), (0, .ref qA0)]) hx hb d_19_7_2 rfl hl (by decide) rfl (fun ls hl => ?_)
  refine q_loop (X := Int32) (fun z H locs ls _ => (0 ≤ z.toInt ∧ z.toInt ≤ 264) ∧ q_Wd D g (va_A ws sz) s ws H locs ∧ lv_has ls 2 [(1, .int z), (0, .ref qA0)]) (fun z => (z.toInt - 0).toNat) ?_ ((264 : Int32)) _ _ _ ws ⟨⟨by decide, by decide⟩, V, hl⟩
  rintro lx1 H locs ls _ ⟨i3, V, hl⟩ ih4
  replace i3 : 0 ≤ lx1.toInt ∧ lx1.toInt ≤ 264 := i3
  replace hl : lv_has ls 2 [(1, .int lx1), (0, .ref qA0)] := hl
  refine lv_iload_n hx hb d_19_7_3 rfl (lv_at hl 0 rfl) ?_
  refine lv_if_le (tgt := 21) hx hb d_19_7_4 (by decide) (fun c5 => ?_) (fun c5 => ?_)
  ·
    refine lv_iload_n hx hb d_19_7_21 rfl (lv_at hl 0 rfl) ?_
    refine q_ti (v := 0) (q_Ieq (x := lx1.toInt) (y := 0) rfl (by decide) (by have t1 : lx1.toInt ≤ 0 := q_leI c5; omega)) ?_
    exact q_reti C0 V (⟨rfl, rfl⟩) d_19_7_22
  ·
    refine lv_aload_n hx hb d_19_7_7 rfl (lv_at hl 1 rfl) ?_
    refine lv_iload_n hx hb d_19_7_8 rfl (lv_at hl 0 rfl) ?_
    refine lv_iconst (v := 1) hx hb d_19_7_9 (by decide) ?_
    refine lv_isub hx hb d_19_7_10 ?_
    refine q_iald C0 V hA0 (q_ix (x := (lx1.toInt - 1)) (q_subI (x := lx1.toInt) (y := 1) rfl (by decide) (by have t1 : 0 < lx1.toInt := q_nleI c5; omega) (by have t1 : 0 < lx1.toInt := q_nleI c5; omega)) (by have t1 : 0 < lx1.toInt := q_nleI c5; omega) (by have t1 : 0 < lx1.toInt := q_nleI c5; omega)) d_19_7_11 ?_
    refine q_ti (v := 0) (by first | rfl | decide | simp [upd, vp_updL, sb_cl0]) ?_
    refine lv_if_ne (tgt := 21) hx hb d_19_7_12 (by decide) (fun c6 => absurd (by decide) c6) (fun c6 => ?_)
    refine lv_iinc (v := lx1 + (-1)) (lv' := [(1, .int (lx1 + (-1))), (0, .ref qA0)]) hx hb d_19_7_15 hl (k := 0) rfl (rfl) (by decide) rfl (fun ls hl => ?_)
    refine lv_goto (tgt := 3) hx hb d_19_7_18 (by decide) ?_
    exact ih4 ((lx1 + (-1) : Int32)) _ _ _ ws (show ((lx1 + (-1)).toInt - 0).toNat < (lx1.toInt - 0).toNat from by have t1 : 0 < lx1.toInt := q_nleI c5; have e : (lx1 + (-1)).toInt = (lx1.toInt + (-1)) := (q_addI (x := lx1.toInt) (y := (-1)) rfl (by decide) (by have t1 : 0 < lx1.toInt := q_nleI c5; omega) (by have t1 : 0 < lx1.toInt := q_nleI c5; omega)); omega) ⟨(show 0 ≤ (lx1 + (-1)).toInt ∧ (lx1 + (-1)).toInt ≤ 264 from by have t1 : 0 < lx1.toInt := q_nleI c5; have e : (lx1 + (-1)).toInt = (lx1.toInt + (-1)) := (q_addI (x := lx1.toInt) (y := (-1)) rfl (by decide) (by have t1 : 0 < lx1.toInt := q_nleI c5; omega) (by have t1 : 0 < lx1.toInt := q_nleI c5; omega)); omega), V, q_lw hl (q_lw1 0 rfl (q_lw1 1 rfl q_lw0))⟩
theorem d_19_10_0 : decode prog_19_method_10_code 0 = .ok (.lconst 0, 1) := by decide +kernel
theorem d_19_10_1 : decode prog_19_method_10_code 1 = .ok (.lstore 6, 2) := by decide +kernel
theorem d_19_10_3 : decode prog_19_method_10_code 3 = .ok (.iconst 0, 1) := by decide +kernel
theorem d_19_10_4 : decode prog_19_method_10_code 4 = .ok (.istore 8, 2) := by decide +kernel
theorem d_19_10_6 : decode prog_19_method_10_code 6 = .ok (.iload 8, 2) := by decide +kernel
theorem d_19_10_8 : decode prog_19_method_10_code 8 = .ok (.aload_n 0, 1) := by decide +kernel
theorem d_19_10_9 : decode prog_19_method_10_code 9 = .ok (.arraylength, 1) := by decide +kernel
theorem d_19_10_10 : decode prog_19_method_10_code 10 = .ok (.if_icmp .ge 83, 3) := by decide +kernel
theorem d_19_10_93 : decode prog_19_method_10_code 93 = .ok (.return_, 1) := by decide +kernel
theorem d_19_10_13 : decode prog_19_method_10_code 13 = .ok (.iload 8, 2) := by decide +kernel
theorem d_19_10_15 : decode prog_19_method_10_code 15 = .ok (.iload_n 2, 1) := by decide +kernel
theorem d_19_10_16 : decode prog_19_method_10_code 16 = .ok (.if_icmp .lt 10, 3) := by decide +kernel
theorem d_19_10_19 : decode prog_19_method_10_code 19 = .ok (.lload 6, 2) := by decide +kernel
theorem d_19_10_21 : decode prog_19_method_10_code 21 = .ok (.lconst 0, 1) := by decide +kernel
theorem d_19_10_22 : decode prog_19_method_10_code 22 = .ok (.lcmp, 1) := by decide +kernel
theorem d_19_10_23 : decode prog_19_method_10_code 23 = .ok (.ifCond .eq 70, 3) := by decide +kernel
def y_WR_join : MethodName := ⟨"NumberHouseModel$WholeRows", "join", "([I[IIJZ)V"⟩
set_option maxRecDepth 100000 in
set_option maxHeartbeats 4000000 in
theorem c_WR_join (l : Launch) (D : va_G) (g : Nat → ClassId) (ws : va_W) (kA0 qA0 qA1 : Nat) (hA0 : ws[kA0]? = (some (qA0, .inl (g 0, 264, .inl (fun _ => 0))) : Option (Nat × va_E))) : q_mV l y_WR_join prog_19_method_10_code 11 1 0 0 D g [.ref qA0, .ref qA1, .int 0, .long 1, .int 0] ws (fun u => ws = u) := by
  intro sz
  refine q_into (by decide) (Nat.le_of_ble_eq_true rfl) ?_
  intro p e s m below meth c ls hsz C0 V hl
  have hx := C0.1
  have hb := C0.2.1
  have hl : lv_has ls 11 [(0, .ref qA0), (1, .ref qA1), (2, .int 0), (3, .long 1), (5, .int 0)] := hl
  refine lv_lconst (v := 0) hx hb d_19_10_0 (by decide) ?_
  refine lv_lstore (lv' := [(6, .long 0), (0, .ref qA0), (1, .ref qA1), (2, .int 0), (3, .long 1), (5, .int 0)]) hx hb d_19_10_1 hl (by decide) rfl (fun ls hl => ?_)
  refine lv_iconst (v := 0) hx hb d_19_10_3 (by decide) ?_
  refine lv_istore (lv' := [(8, .int 0), (6, .long 0), (0, .ref qA0), (1, .ref qA1), (2, .int 0), (3, .long 1), (5, .int 0)]) hx hb d_19_10_4 hl (by decide) rfl (fun ls hl => ?_)
  refine q_loop (X := Int32) (fun z H locs ls _ => (0 ≤ z.toInt ∧ (z.toInt ≤ 264 ∨ z.toInt = 0)) ∧ q_Wd D g (va_A ws sz) s ws H locs ∧ lv_has ls 11 [(8, .int z), (6, .long 0), (0, .ref qA0), (1, .ref qA1), (2, .int 0), (3, .long 1), (5, .int 0)]) (fun z => (264 - z.toInt).toNat) ?_ ((0 : Int32)) _ _ _ ws ⟨⟨by decide, Or.inr (by decide)⟩, V, hl⟩
  rintro lx1 H locs ls _ ⟨i3, V, hl⟩ ih4
  replace i3 : 0 ≤ lx1.toInt ∧ (lx1.toInt ≤ 264 ∨ lx1.toInt = 0) := i3
  replace hl : lv_has ls 11 [(8, .int lx1), (6, .long 0), (0, .ref qA0), (1, .ref qA1), (2, .int 0), (3, .long 1), (5, .int 0)] := hl
  refine lv_iload hx hb d_19_10_6 (lv_at hl 0 rfl) ?_
  refine lv_aload_n hx hb d_19_10_8 rfl (lv_at hl 2 rfl) ?_
  refine q_alen (t := 0) (v := 264) C0 V hA0 rfl (by first | rfl | decide) d_19_10_9 ?_
  refine lv_icmp_ge (tgt := 93) hx hb d_19_10_10 (by decide) (fun c5 => ?_) (fun c5 => ?_)
  ·
    exact q_retv C0 V (rfl) d_19_10_93
  ·
    refine lv_iload hx hb d_19_10_13 (lv_at hl 0 rfl) ?_
    refine lv_iload_n hx hb d_19_10_15 rfl (lv_at hl 4 rfl) ?_
    refine lv_icmp_lt (tgt := 26) hx hb d_19_10_16 (by decide) (fun c6 => absurd c6 (Int32.not_lt.mpr (q_Ile (x := 0) (y := lx1.toInt) (by decide) rfl (by have t1 : lx1.toInt < 264 := q_nleI c5; omega)))) (fun c6 => ?_)
    refine lv_lload hx hb d_19_10_19 (lv_at hl 1 rfl) ?_
    refine lv_lconst (v := 0) hx hb d_19_10_21 (by decide) ?_
    refine W.lcmp hx hb d_19_10_22 ?_
    refine q_ti (v := 0) (by decide) ?_
    refine lv_if_eq (tgt := 93) hx hb d_19_10_23 (by decide) (fun c7 => ?_) (fun c7 => absurd (by decide) c7)
    exact q_retv C0 V (rfl) d_19_10_93
theorem d_19_21_0 : decode prog_19_method_21_code 0 = .ok (.iload_n 2, 1) := by decide +kernel
theorem d_19_21_1 : decode prog_19_method_21_code 1 = .ok (.iload 4, 2) := by decide +kernel
theorem d_19_21_3 : decode prog_19_method_21_code 3 = .ok (.if_icmp .ne 33, 3) := by decide +kernel
theorem d_19_21_6 : decode prog_19_method_21_code 6 = .ok (.aload_n 1, 1) := by decide +kernel
theorem d_19_21_7 : decode prog_19_method_21_code 7 = .ok (.aload_n 0, 1) := by decide +kernel
theorem d_19_21_8 : decode prog_19_method_21_code 8 = .ok (.getfield 20, 3) := by decide +kernel
theorem d_19_21_11 : decode prog_19_method_21_code 11 = .ok (.invokestatic 67, 3) := by decide +kernel
theorem w_2692 : (Cond.code ({ cls := "NumberHouseModel$WholeRows", name := "copy", desc := "([I[I)V" } : MethodName) prog_19_method_5_code (3 : Nat) (none : Option ClassFile.FieldType)) ∈ q_tbl := q_of 2692 (by decide +kernel) (by decide +kernel)
theorem w_2690 : (Cond.methodLink "NumberHouseModel$WholeRows" (67 : Nat) ({ cls := "NumberHouseModel$WholeRows", name := "copy", desc := "([I[I)V" } : MethodName)) ∈ q_tbl := q_of 2690 (by decide +kernel) (by decide +kernel)
theorem w_2691 : (Cond.static ({ cls := "NumberHouseModel$WholeRows", name := "copy", desc := "([I[I)V" } : MethodName)) ∈ q_tbl := q_of 2691 (by decide +kernel) (by decide +kernel)
theorem LS_WR_67 : q_LS "NumberHouseModel$WholeRows" 67 y_WR_copy prog_19_method_5_code 3 none 2 := ⟨w_2692, w_15, w_2690, w_2691, ⟨by decide, by decide, by decide +kernel⟩⟩
theorem d_19_21_14 : decode prog_19_method_21_code 14 = .ok (.aload_n 0, 1) := by decide +kernel
theorem d_19_21_15 : decode prog_19_method_21_code 15 = .ok (.getfield 20, 3) := by decide +kernel
theorem d_19_21_18 : decode prog_19_method_21_code 18 = .ok (.aload_n 3, 1) := by decide +kernel
theorem d_19_21_19 : decode prog_19_method_21_code 19 = .ok (.aload_n 3, 1) := by decide +kernel
theorem d_19_21_20 : decode prog_19_method_21_code 20 = .ok (.invokestatic 59, 3) := by decide +kernel
theorem w_2383 : (Cond.code ({ cls := "NumberHouseModel$WholeRows", name := "size", desc := "([I)I" } : MethodName) prog_19_method_7_code (2 : Nat) (some .int)) ∈ q_tbl := q_of 2383 (by decide +kernel) (by decide +kernel)
theorem w_2381 : (Cond.methodLink "NumberHouseModel$WholeRows" (59 : Nat) ({ cls := "NumberHouseModel$WholeRows", name := "size", desc := "([I)I" } : MethodName)) ∈ q_tbl := q_of 2381 (by decide +kernel) (by decide +kernel)
theorem w_2382 : (Cond.static ({ cls := "NumberHouseModel$WholeRows", name := "size", desc := "([I)I" } : MethodName)) ∈ q_tbl := q_of 2382 (by decide +kernel) (by decide +kernel)
theorem LS_WR_59 : q_LS "NumberHouseModel$WholeRows" 59 y_WR_size prog_19_method_7_code 2 (some .int) 1 := ⟨w_2383, w_15, w_2381, w_2382, ⟨by decide, by decide, by decide +kernel⟩⟩
theorem d_19_21_23 : decode prog_19_method_21_code 23 = .ok (.lconst 1, 1) := by decide +kernel
theorem d_19_21_24 : decode prog_19_method_21_code 24 = .ok (.iconst 0, 1) := by decide +kernel
theorem d_19_21_25 : decode prog_19_method_21_code 25 = .ok (.invokestatic 75, 3) := by decide +kernel
theorem w_2695 : (Cond.code ({ cls := "NumberHouseModel$WholeRows", name := "join", desc := "([I[IIJZ)V" } : MethodName) prog_19_method_10_code (11 : Nat) (none : Option ClassFile.FieldType)) ∈ q_tbl := q_of 2695 (by decide +kernel) (by decide +kernel)
theorem w_2693 : (Cond.methodLink "NumberHouseModel$WholeRows" (75 : Nat) ({ cls := "NumberHouseModel$WholeRows", name := "join", desc := "([I[IIJZ)V" } : MethodName)) ∈ q_tbl := q_of 2693 (by decide +kernel) (by decide +kernel)
theorem w_2694 : (Cond.static ({ cls := "NumberHouseModel$WholeRows", name := "join", desc := "([I[IIJZ)V" } : MethodName)) ∈ q_tbl := q_of 2694 (by decide +kernel) (by decide +kernel)
theorem LS_WR_75 : q_LS "NumberHouseModel$WholeRows" 75 y_WR_join prog_19_method_10_code 11 none 5 := ⟨w_2695, w_15, w_2693, w_2694, ⟨by decide, by decide, by decide +kernel⟩⟩
theorem d_19_21_28 : decode prog_19_method_21_code 28 = .ok (.aload_n 0, 1) := by decide +kernel
theorem d_19_21_29 : decode prog_19_method_21_code 29 = .ok (.iload_n 2, 1) := by decide +kernel
theorem d_19_21_30 : decode prog_19_method_21_code 30 = .ok (.putfield 82, 3) := by decide +kernel
theorem w_1931 : (Cond.fieldLink "NumberHouseModel$WholeRows" (82 : Nat) "NumberHouseModel$WholeRows" "below" "Z") ∈ q_tbl := q_of 1931 (by decide +kernel) (by decide +kernel)
theorem d_19_21_33 : decode prog_19_method_21_code 33 = .ok (.goto 69, 3) := by decide +kernel
theorem d_19_21_102 : decode prog_19_method_21_code 102 = .ok (.return_, 1) := by decide +kernel
def y_WR_sum : MethodName := ⟨"NumberHouseModel$WholeRows", "sum", "([IZ[IZ)V"⟩
set_option maxRecDepth 100000 in
set_option maxHeartbeats 4000000 in
theorem c_WR_sum (l : Launch) (D : va_G) (g : Nat → ClassId) (ws : va_W) (kO0 kA1 kA2 kA6 qO0 qA1 qA2 qA3 qA4 qA5 qA6 qA7 qA8 qA9 qA10 qA11 qA12 qA13 qA14 : Nat) (hO0 : ws[kO0]? = (some (qO0, .inr (13, [.int 0, .int 2, .ref qA3, .int 0, .ref qA4, .ref qA5, .ref qA6, .int 0, .ref qA7, .ref qA8, .ref qA9, .ref qA10, .ref qA1, .ref qA2, .ref qA11, .ref qA12, .int 0, .int 0, .ref qA13, .ref qA14, .int 0])) : Option (Nat × va_E))) (hA1 : ws[kA1]? = (some (qA1, .inl (g 0, 264, .inl (fun _ => 0))) : Option (Nat × va_E))) (hA2 : ws[kA2]? = (some (qA2, .inl (g 0, 264, .inl (fun _ => 0))) : Option (Nat × va_E))) (hA6 : ws[kA6]? = (some (qA6, .inl (g 0, 264, .inl (fun _ => 0))) : Option (Nat × va_E))) (n_A1_A6 : kA1 ≠ kA6) (n_A2_A6 : kA2 ≠ kA6) : q_mV l y_WR_sum prog_19_method_21_code 5 2 0 0 D g [.ref qO0, .ref qA1, .int 0, .ref qA2, .int 0] ws (fun u => q_un ws u [kO0, kA6] ∧ u[kO0]? = (some (qO0, .inr (13, [.int 0, .int 2, .ref qA3, .int 0, .ref qA4, .ref qA5, .ref qA6, .int 0, .ref qA7, .ref qA8, .ref qA9, .ref qA10, .ref qA1, .ref qA2, .ref qA11, .ref qA12, .int 0, .int 0, .ref qA13, .ref qA14, .int 0])) : Option (Nat × va_E)) ∧ u[kA6]? = (some (qA6, .inl (g 0, 264, .inl (fun _ => 0))) : Option (Nat × va_E))) := by
  intro sz
  refine q_into (by decide) (Nat.le_of_ble_eq_true rfl) ?_
  intro p e s m below meth c ls hsz C0 V hl
  have hx := C0.1
  have hb := C0.2.1
  have hl : lv_has ls 5 [(0, .ref qO0), (1, .ref qA1), (2, .int 0), (3, .ref qA2), (4, .int 0)] := hl
  have n_A1_O0 := q_df hA1 hO0
  have n_A2_O0 := q_df hA2 hO0
  have n_A6_O0 := q_df hA6 hO0
  have n_O0_A6 := Ne.symm (q_df hA6 hO0)
  have hF : q_un ws ws [kO0, kA6] := q_u0
  refine lv_iload_n hx hb d_19_21_0 rfl (lv_at hl 2 rfl) ?_
  refine lv_iload hx hb d_19_21_1 (lv_at hl 4 rfl) ?_
  refine lv_icmp_ne (tgt := 36) hx hb d_19_21_3 (by decide) (fun c1 => absurd (by decide) c1) (fun c1 => ?_)
  refine lv_aload_n hx hb d_19_21_6 rfl (lv_at hl 1 rfl) ?_
  refine lv_aload_n hx hb d_19_21_7 rfl (lv_at hl 0 rfl) ?_
  refine q_get (ci := 13) (j := 6) (v := .ref qA6) C0 V i_WR rfl rfl hO0 (by decide) w_1930 rfl d_19_21_8 ?_
  refine q_gov V (q_runS (As := [.ref qA1, .ref qA6]) (rest := []) (d := 1) (mc := 0) (ms := 0) C0 V rfl LS_WR_67 (c_WR_copy l D g ws kA1 kA6 qA1 qA6 hA1 hA6 n_A1_A6 _) rfl hl.1 rfl (Nat.le_of_ble_eq_true rfl) ⟨by decide, by decide⟩ ⟨Nat.le_of_ble_eq_true rfl, Nat.le_of_ble_eq_true rfl⟩ d_19_21_11) (fun u3 H locs hp2 V => ?_)
  obtain ⟨hg4, hA6⟩ := hp2
  replace hF := q_uc hF hg4 (q_sc (.tail _ (.head _)) (fun _ h => absurd h List.not_mem_nil))
  refine lv_aload_n hx hb d_19_21_14 rfl (lv_at hl 0 rfl) ?_
  replace hO0 := (hg4 _ (q_nc n_O0_A6 List.not_mem_nil)).trans (hO0)
  refine q_get (ci := 13) (j := 6) (v := .ref qA6) C0 V i_WR rfl rfl hO0 (by decide) w_1930 rfl d_19_21_15 ?_
  refine lv_aload_n hx hb d_19_21_18 rfl (lv_at hl 3 rfl) ?_
  refine lv_aload_n hx hb d_19_21_19 rfl (lv_at hl 3 rfl) ?_
  replace hA2 := (hg4 _ (q_nc n_A2_A6 List.not_mem_nil)).trans (hA2)
  refine q_goi V (q_runS (As := [.ref qA2]) (rest := [.ref qA2, .ref qA6]) (d := 1) (mc := 0) (ms := 0) C0 V rfl LS_WR_59 (c_WR_size l D g u3 kA2 qA2 hA2 _) rfl hl.1 rfl (Nat.le_of_ble_eq_true rfl) ⟨by decide, by decide⟩ ⟨Nat.le_of_ble_eq_true rfl, Nat.le_of_ble_eq_true rfl⟩ d_19_21_20) (fun v7 u6 H locs hp5 V => ?_)
  obtain ⟨rfl, rfl⟩ := hp5
  refine lv_lconst (v := 1) hx hb d_19_21_23 (by decide) ?_
  refine lv_iconst (v := 0) hx hb d_19_21_24 (by decide) ?_
  refine q_gov V (q_runS (As := [.ref qA6, .ref qA2, .int 0, .long 1, .int 0]) (rest := []) (d := 1) (mc := 0) (ms := 0) C0 V rfl LS_WR_75 (c_WR_join l D g u3 kA6 qA6 qA2 hA6 _) rfl hl.1 rfl (Nat.le_of_ble_eq_true rfl) ⟨by decide, by decide⟩ ⟨Nat.le_of_ble_eq_true rfl, Nat.le_of_ble_eq_true rfl⟩ d_19_21_25) (fun u10 H locs hp9 V => ?_)
  obtain rfl := hp9
  refine lv_aload_n hx hb d_19_21_28 rfl (lv_at hl 0 rfl) ?_
  refine lv_iload_n hx hb d_19_21_29 rfl (lv_at hl 2 rfl) ?_
  refine q_put (ci := 13) (j := 7) (v := .int 0) (ty := .boolean) C0 V i_WR o_WR n_WR rfl rfl hO0 (by decide) w_1931 rfl rfl rfl rfl (Nat.le_of_ble_eq_true rfl) d_19_21_30 (fun H locs w12 hu13 hO0 V => ?_)
  replace hO0 : w12[kO0]? = (some (qO0, .inr (13, [.int 0, .int 2, .ref qA3, .int 0, .ref qA4, .ref qA5, .ref qA6, .int 0, .ref qA7, .ref qA8, .ref qA9, .ref qA10, .ref qA1, .ref qA2, .ref qA11, .ref qA12, .int 0, .int 0, .ref qA13, .ref qA14, .int 0])) : Option (Nat × va_E)) := hO0
  replace hF := q_us hF hu13 (.head _)
  refine lv_goto (tgt := 102) hx hb d_19_21_33 (by decide) ?_
  replace hA6 := (hu13 _ n_A6_O0).trans (hA6)
  exact q_retv C0 V (⟨hF, hO0, hA6⟩) d_19_21_102
theorem d_19_15_0 : decode prog_19_method_15_code 0 = .ok (.aload_n 0, 1) := by decide +kernel
theorem d_19_15_1 : decode prog_19_method_15_code 1 = .ok (.getfield 20, 3) := by decide +kernel
theorem d_19_15_4 : decode prog_19_method_15_code 4 = .ok (.invokestatic 59, 3) := by decide +kernel
theorem d_19_15_7 : decode prog_19_method_15_code 7 = .ok (.sipush 128, 3) := by decide +kernel
theorem d_19_15_10 : decode prog_19_method_15_code 10 = .ok (.if_icmp .le 12, 3) := by decide +kernel
theorem d_19_15_22 : decode prog_19_method_15_code 22 = .ok (.iconst 0, 1) := by decide +kernel
theorem d_19_15_23 : decode prog_19_method_15_code 23 = .ok (.istore_n 2, 1) := by decide +kernel
theorem d_19_15_24 : decode prog_19_method_15_code 24 = .ok (.iconst 0, 1) := by decide +kernel
theorem d_19_15_25 : decode prog_19_method_15_code 25 = .ok (.istore_n 3, 1) := by decide +kernel
theorem d_19_15_26 : decode prog_19_method_15_code 26 = .ok (.iload_n 3, 1) := by decide +kernel
theorem d_19_15_27 : decode prog_19_method_15_code 27 = .ok (.sipush 128, 3) := by decide +kernel
theorem d_19_15_30 : decode prog_19_method_15_code 30 = .ok (.if_icmp .ge 46, 3) := by decide +kernel
theorem d_19_15_76 : decode prog_19_method_15_code 76 = .ok (.aload_n 0, 1) := by decide +kernel
theorem d_19_15_77 : decode prog_19_method_15_code 77 = .ok (.getfield 16, 3) := by decide +kernel
theorem d_19_15_80 : decode prog_19_method_15_code 80 = .ok (.iload_n 1, 1) := by decide +kernel
theorem d_19_15_81 : decode prog_19_method_15_code 81 = .ok (.aload_n 0, 1) := by decide +kernel
theorem d_19_15_82 : decode prog_19_method_15_code 82 = .ok (.getfield 82, 3) := by decide +kernel
theorem d_19_15_85 : decode prog_19_method_15_code 85 = .ok (.ifCond .eq 11, 3) := by decide +kernel
theorem d_19_15_96 : decode prog_19_method_15_code 96 = .ok (.iconst 0, 1) := by decide +kernel
theorem d_19_15_97 : decode prog_19_method_15_code 97 = .ok (.bastore, 1) := by decide +kernel
theorem d_19_15_98 : decode prog_19_method_15_code 98 = .ok (.return_, 1) := by decide +kernel
theorem d_19_15_33 : decode prog_19_method_15_code 33 = .ok (.aload_n 0, 1) := by decide +kernel
theorem d_19_15_34 : decode prog_19_method_15_code 34 = .ok (.getfield 13, 3) := by decide +kernel
theorem d_19_15_37 : decode prog_19_method_15_code 37 = .ok (.sipush 128, 3) := by decide +kernel
theorem d_19_15_40 : decode prog_19_method_15_code 40 = .ok (.iload_n 1, 1) := by decide +kernel
theorem d_19_15_41 : decode prog_19_method_15_code 41 = .ok (.imul, 1) := by decide +kernel
theorem d_19_15_42 : decode prog_19_method_15_code 42 = .ok (.iload_n 3, 1) := by decide +kernel
theorem d_19_15_43 : decode prog_19_method_15_code 43 = .ok (.iadd, 1) := by decide +kernel
theorem d_19_15_44 : decode prog_19_method_15_code 44 = .ok (.aload_n 0, 1) := by decide +kernel
theorem d_19_15_45 : decode prog_19_method_15_code 45 = .ok (.getfield 20, 3) := by decide +kernel
theorem d_19_15_48 : decode prog_19_method_15_code 48 = .ok (.iload_n 3, 1) := by decide +kernel
theorem d_19_15_49 : decode prog_19_method_15_code 49 = .ok (.iaload, 1) := by decide +kernel
theorem d_19_15_50 : decode prog_19_method_15_code 50 = .ok (.iastore, 1) := by decide +kernel
theorem d_19_15_51 : decode prog_19_method_15_code 51 = .ok (.iload_n 2, 1) := by decide +kernel
theorem d_19_15_52 : decode prog_19_method_15_code 52 = .ok (.ifCond .ne 12, 3) := by decide +kernel
theorem d_19_15_55 : decode prog_19_method_15_code 55 = .ok (.aload_n 0, 1) := by decide +kernel
theorem d_19_15_56 : decode prog_19_method_15_code 56 = .ok (.getfield 20, 3) := by decide +kernel
theorem d_19_15_59 : decode prog_19_method_15_code 59 = .ok (.iload_n 3, 1) := by decide +kernel
theorem d_19_15_60 : decode prog_19_method_15_code 60 = .ok (.iaload, 1) := by decide +kernel
theorem d_19_15_61 : decode prog_19_method_15_code 61 = .ok (.ifCond .eq 7, 3) := by decide +kernel
theorem d_19_15_68 : decode prog_19_method_15_code 68 = .ok (.iconst 0, 1) := by decide +kernel
theorem d_19_15_69 : decode prog_19_method_15_code 69 = .ok (.istore_n 2, 1) := by decide +kernel
theorem d_19_15_70 : decode prog_19_method_15_code 70 = .ok (.iinc 3 1, 3) := by decide +kernel
theorem d_19_15_73 : decode prog_19_method_15_code 73 = .ok (.goto (-47), 3) := by decide +kernel
def y_WR_store : MethodName := ⟨"NumberHouseModel$WholeRows", "store", "(I)V"⟩
set_option maxRecDepth 100000 in
set_option maxHeartbeats 4000000 in
theorem c_WR_store (l : Launch) (D : va_G) (g : Nat → ClassId) (ws : va_W) (kO0 kA2 kA3 kA4 qO0 qA1 qA2 qA3 qA4 qA5 qA6 qA7 qA8 qA9 qA10 qA11 qA12 qA13 qA14 : Nat) (x1 : Int32) (hO0 : ws[kO0]? = (some (qO0, .inr (13, [.int 0, .int 2, .ref qA1, .int 0, .ref qA2, .ref qA3, .ref qA4, .int 0, .ref qA5, .ref qA6, .ref qA7, .ref qA8, .ref qA9, .ref qA10, .ref qA11, .ref qA12, .int 0, .int 0, .ref qA13, .ref qA14, .int 0])) : Option (Nat × va_E))) (hA2 : ws[kA2]? = (some (qA2, .inl (g 0, 1408, .inl (fun _ => 0))) : Option (Nat × va_E))) (hA3 : ws[kA3]? = (some (qA3, .inl (g 3, 11, .inl (fun _ => 0))) : Option (Nat × va_E))) (hA4 : ws[kA4]? = (some (qA4, .inl (g 0, 264, .inl (fun _ => 0))) : Option (Nat × va_E))) (n_A2_A3 : kA2 ≠ kA3) (n_A4_A2 : kA4 ≠ kA2) (n_A4_A3 : kA4 ≠ kA3) (x1lo : 0 ≤ x1) (x1hi : x1 ≤ 9) : q_mV l y_WR_store prog_19_method_15_code 4 2 0 0 D g [.ref qO0, .int x1] ws (fun u => q_un ws u [kA2, kA3] ∧ u[kA2]? = (some (qA2, .inl (g 0, 1408, .inl (fun _ => 0))) : Option (Nat × va_E)) ∧ u[kA3]? = (some (qA3, .inl (g 3, 11, .inl (fun _ => 0))) : Option (Nat × va_E))) := by
  intro sz
  refine q_into (by decide) (Nat.le_of_ble_eq_true rfl) ?_
  intro p e s m below meth c ls hsz C0 V hl
  have hx := C0.1
  have hb := C0.2.1
  have hl : lv_has ls 4 [(0, .ref qO0), (1, .int x1)] := hl
  have n_A3_A2 := Ne.symm n_A2_A3
  have n_O0_A2 := Ne.symm (q_df hA2 hO0)
  have n_O0_A3 := Ne.symm (q_df hA3 hO0)
  have hF : q_un ws ws [kA2, kA3] := q_u0
  refine lv_aload_n hx hb d_19_15_0 rfl (lv_at hl 0 rfl) ?_
  refine q_get (ci := 13) (j := 6) (v := .ref qA4) C0 V i_WR rfl rfl hO0 (by decide) w_1930 rfl d_19_15_1 ?_
  refine q_goi V (q_runS (As := [.ref qA4]) (rest := []) (d := 1) (mc := 0) (ms := 0) C0 V rfl LS_WR_59 (c_WR_size l D g ws kA4 qA4 hA4 _) rfl hl.1 rfl (Nat.le_of_ble_eq_true rfl) ⟨by decide, by decide⟩ ⟨Nat.le_of_ble_eq_true rfl, Nat.le_of_ble_eq_true rfl⟩ d_19_15_4) (fun v3 u2 H locs hp1 V => ?_)
  obtain ⟨rfl, rfl⟩ := hp1
  refine lv_sipush (v := 128) hx hb d_19_15_7 (by decide) ?_
  refine lv_icmp_le (tgt := 22) hx hb d_19_15_10 (by decide) (fun c5 => ?_) (fun c5 => absurd (by decide) c5)
  refine lv_iconst (v := 0) hx hb d_19_15_22 (by decide) ?_
  refine lv_istore_n (lv' := [(2, .int 0), (0, .ref qO0), (1, .int x1)]) hx hb d_19_15_23 rfl hl (by decide) rfl (fun ls hl => ?_)
  refine lv_iconst (v := 0) hx hb d_19_15_24 (by decide) ?_
  refine lv_istore_n (lv' := [(3, .int 0), (2, .int 0), (0, .ref qO0), (1, .int x1)]) hx hb d_19_15_25 rfl hl (by decide) rfl (fun ls hl => ?_)
  refine q_loop (X := Int32) (fun z H locs ls w7 => (0 ≤ z.toInt ∧ (z.toInt ≤ 128 ∨ z.toInt = 0)) ∧ q_Wd D g (va_A ws sz) s w7 H locs ∧ lv_has ls 4 [(3, .int z), (2, .int 0), (0, .ref qO0), (1, .int x1)] ∧ q_un ws w7 [kA2, kA3] ∧ w7[kO0]? = (some (qO0, .inr (13, [.int 0, .int 2, .ref qA1, .int 0, .ref qA2, .ref qA3, .ref qA4, .int 0, .ref qA5, .ref qA6, .ref qA7, .ref qA8, .ref qA9, .ref qA10, .ref qA11, .ref qA12, .int 0, .int 0, .ref qA13, .ref qA14, .int 0])) : Option (Nat × va_E)) ∧ w7[kA2]? = (some (qA2, .inl (g 0, 1408, .inl (fun _ => 0))) : Option (Nat × va_E)) ∧ w7[kA3]? = (some (qA3, .inl (g 3, 11, .inl (fun _ => 0))) : Option (Nat × va_E)) ∧ w7[kA4]? = (some (qA4, .inl (g 0, 264, .inl (fun _ => 0))) : Option (Nat × va_E))) (fun z => (128 - z.toInt).toNat) ?_ ((0 : Int32)) _ _ _ ws ⟨⟨by decide, Or.inr (by decide)⟩, V, hl, hF, hO0, hA2, hA3, hA4⟩
  rintro lx6 H locs ls w7 ⟨i8, V, hl, hF, hO0, hA2, hA3, hA4⟩ ih9
  replace i8 : 0 ≤ lx6.toInt ∧ (lx6.toInt ≤ 128 ∨ lx6.toInt = 0) := i8
  replace hl : lv_has ls 4 [(3, .int lx6), (2, .int 0), (0, .ref qO0), (1, .int x1)] := hl
  replace hO0 : w7[kO0]? = (some (qO0, .inr (13, [.int 0, .int 2, .ref qA1, .int 0, .ref qA2, .ref qA3, .ref qA4, .int 0, .ref qA5, .ref qA6, .ref qA7, .ref qA8, .ref qA9, .ref qA10, .ref qA11, .ref qA12, .int 0, .int 0, .ref qA13, .ref qA14, .int 0])) : Option (Nat × va_E)) := hO0
  replace hA2 : w7[kA2]? = (some (qA2, .inl (g 0, 1408, .inl (fun _ => 0))) : Option (Nat × va_E)) := hA2
  replace hA3 : w7[kA3]? = (some (qA3, .inl (g 3, 11, .inl (fun _ => 0))) : Option (Nat × va_E)) := hA3
  replace hA4 : w7[kA4]? = (some (qA4, .inl (g 0, 264, .inl (fun _ => 0))) : Option (Nat × va_E)) := hA4
  refine lv_iload_n hx hb d_19_15_26 rfl (lv_at hl 0 rfl) ?_
  refine lv_sipush (v := 128) hx hb d_19_15_27 (by decide) ?_
  refine lv_icmp_ge (tgt := 76) hx hb d_19_15_30 (by decide) (fun c10 => ?_) (fun c10 => ?_)
  ·
    refine lv_aload_n hx hb d_19_15_76 rfl (lv_at hl 2 rfl) ?_
    refine q_get (ci := 13) (j := 5) (v := .ref qA3) C0 V i_WR rfl rfl hO0 (by decide) w_1929 rfl d_19_15_77 ?_
    refine lv_iload_n hx hb d_19_15_80 rfl (lv_at hl 3 rfl) ?_
    refine lv_aload_n hx hb d_19_15_81 rfl (lv_at hl 2 rfl) ?_
    refine q_get (ci := 13) (j := 7) (v := .int 0) C0 V i_WR rfl rfl hO0 (by decide) w_1931 rfl d_19_15_82 ?_
    refine lv_if_eq (tgt := 96) hx hb d_19_15_85 (by decide) (fun c11 => ?_) (fun c11 => absurd (by decide) c11)
    refine lv_iconst (v := 0) hx hb d_19_15_96 (by decide) ?_
    refine q_zast C0 V hA3 (q_ix (x := x1.toInt) rfl (by have t1 : 0 ≤ x1.toInt := q_leI x1lo; have t2 : x1.toInt ≤ 9 := q_leI x1hi; omega) (by have t1 : 0 ≤ x1.toInt := q_leI x1lo; have t2 : x1.toInt ≤ 9 := q_leI x1hi; omega)) d_19_15_97 (fun H locs w12 hu13 hA3 V => ?_)
    replace hA3 := q_re (y := (qA3, .inl (g 3, 11, .inl (fun _ => 0)))) hA3 (q_eI q_upd0)
    replace hA3 : w12[kA3]? = (some (qA3, .inl (g 3, 11, .inl (fun _ => 0))) : Option (Nat × va_E)) := hA3
    replace hF := q_us hF hu13 (.tail _ (.head _))
    replace hA2 := (hu13 _ n_A2_A3).trans (hA2)
    exact q_retv C0 V (⟨hF, hA2, hA3⟩) d_19_15_98
  ·
    refine lv_aload_n hx hb d_19_15_33 rfl (lv_at hl 2 rfl) ?_
    refine q_get (ci := 13) (j := 4) (v := .ref qA2) C0 V i_WR rfl rfl hO0 (by decide) w_1928 rfl d_19_15_34 ?_
    refine lv_sipush (v := 128) hx hb d_19_15_37 (by decide) ?_
    refine lv_iload_n hx hb d_19_15_40 rfl (lv_at hl 3 rfl) ?_
    refine lv_imul hx hb d_19_15_41 ?_
    refine lv_iload_n hx hb d_19_15_42 rfl (lv_at hl 0 rfl) ?_
    refine lv_iadd hx hb d_19_15_43 ?_
    refine lv_aload_n hx hb d_19_15_44 rfl (lv_at hl 2 rfl) ?_
    refine q_get (ci := 13) (j := 6) (v := .ref qA4) C0 V i_WR rfl rfl hO0 (by decide) w_1930 rfl d_19_15_45 ?_
    refine lv_iload_n hx hb d_19_15_48 rfl (lv_at hl 0 rfl) ?_
    refine q_iald C0 V hA4 (q_ix (x := lx6.toInt) rfl (by have t1 : lx6.toInt < 128 := q_nleI c10; omega) (by have t1 : lx6.toInt < 128 := q_nleI c10; omega)) d_19_15_49 ?_
    refine q_ti (v := 0) (by first | rfl | decide | simp [upd, vp_updL, sb_cl0]) ?_
    refine q_iast C0 V hA2 (q_ix (x := ((128 * x1.toInt) + lx6.toInt)) (q_addI (x := (128 * x1.toInt)) (y := lx6.toInt) (q_mulI (x := 128) (y := x1.toInt) (by decide) rfl (by have t1 : 0 ≤ x1.toInt := q_leI x1lo; have t2 : x1.toInt ≤ 9 := q_leI x1hi; omega) (by have t1 : 0 ≤ x1.toInt := q_leI x1lo; have t2 : x1.toInt ≤ 9 := q_leI x1hi; omega)) rfl (by have t1 : 0 ≤ x1.toInt := q_leI x1lo; have t2 : x1.toInt ≤ 9 := q_leI x1hi; have t3 : lx6.toInt < 128 := q_nleI c10; omega) (by have t1 : 0 ≤ x1.toInt := q_leI x1lo; have t2 : x1.toInt ≤ 9 := q_leI x1hi; have t3 : lx6.toInt < 128 := q_nleI c10; omega)) (by have t1 : 0 ≤ x1.toInt := q_leI x1lo; have t2 : x1.toInt ≤ 9 := q_leI x1hi; have t3 : lx6.toInt < 128 := q_nleI c10; omega) (by have t1 : 0 ≤ x1.toInt := q_leI x1lo; have t2 : x1.toInt ≤ 9 := q_leI x1hi; have t3 : lx6.toInt < 128 := q_nleI c10; omega)) d_19_15_50 (fun H locs w14 hu15 hA2 V => ?_)
    replace hA2 := q_re (y := (qA2, .inl (g 0, 1408, .inl (fun _ => 0)))) hA2 (q_eI q_upd0)
    replace hA2 : w14[kA2]? = (some (qA2, .inl (g 0, 1408, .inl (fun _ => 0))) : Option (Nat × va_E)) := hA2
    replace hF := q_us hF hu15 (.head _)
    refine lv_iload_n hx hb d_19_15_51 rfl (lv_at hl 1 rfl) ?_
    refine lv_if_ne (tgt := 64) hx hb d_19_15_52 (by decide) (fun c16 => absurd (by decide) c16) (fun c16 => ?_)
    refine lv_aload_n hx hb d_19_15_55 rfl (lv_at hl 2 rfl) ?_
    replace hO0 := (hu15 _ n_O0_A2).trans (hO0)
    refine q_get (ci := 13) (j := 6) (v := .ref qA4) C0 V i_WR rfl rfl hO0 (by decide) w_1930 rfl d_19_15_56 ?_
    refine lv_iload_n hx hb d_19_15_59 rfl (lv_at hl 0 rfl) ?_
    replace hA4 := (hu15 _ n_A4_A2).trans (hA4)
    refine q_iald C0 V hA4 (q_ix (x := lx6.toInt) rfl (by have t1 : lx6.toInt < 128 := q_nleI c10; omega) (by have t1 : lx6.toInt < 128 := q_nleI c10; omega)) d_19_15_60 ?_
    refine q_ti (v := 0) (by first | rfl | decide | simp [upd, vp_updL, sb_cl0]) ?_
    refine lv_if_eq (tgt := 68) hx hb d_19_15_61 (by decide) (fun c17 => ?_) (fun c17 => absurd (by decide) c17)
    refine lv_iconst (v := 0) hx hb d_19_15_68 (by decide) ?_
    refine lv_istore_n (lv' := [(2, .int 0), (3, .int lx6), (0, .ref qO0), (1, .int x1)]) hx hb d_19_15_69 rfl hl (by decide) rfl (fun ls hl => ?_)
    refine lv_iinc (v := lx6 + 1) (lv' := [(3, .int (lx6 + 1)), (2, .int 0), (0, .ref qO0), (1, .int x1)]) hx hb d_19_15_70 hl (k := 1) rfl (rfl) (by decide) rfl (fun ls hl => ?_)
    refine lv_goto (tgt := 26) hx hb d_19_15_73 (by decide) ?_
    replace hA3 := (hu15 _ n_A3_A2).trans (hA3)
    exact ih9 ((lx6 + 1 : Int32)) _ _ _ _ (show (128 - (lx6 + 1).toInt).toNat < (128 - lx6.toInt).toNat from by have t1 : lx6.toInt < 128 := q_nleI c10; have e : (lx6 + 1).toInt = (lx6.toInt + 1) := (q_addI (x := lx6.toInt) (y := 1) rfl (by decide) (by have t1 : lx6.toInt < 128 := q_nleI c10; omega) (by have t1 : lx6.toInt < 128 := q_nleI c10; omega)); omega) ⟨(show 0 ≤ (lx6 + 1).toInt ∧ ((lx6 + 1).toInt ≤ 128 ∨ (lx6 + 1).toInt = 0) from by have t1 : lx6.toInt < 128 := q_nleI c10; have e : (lx6 + 1).toInt = (lx6.toInt + 1) := (q_addI (x := lx6.toInt) (y := 1) rfl (by decide) (by have t1 : lx6.toInt < 128 := q_nleI c10; omega) (by have t1 : lx6.toInt < 128 := q_nleI c10; omega)); omega), V, q_lw hl (q_lw1 0 rfl (q_lw1 1 rfl (q_lw1 2 rfl (q_lw1 3 rfl q_lw0)))), hF, hO0, hA2, hA3, hA4⟩
theorem d_19_22_0 : decode prog_19_method_22_code 0 = .ok (.aload_n 0, 1) := by decide +kernel
theorem d_19_22_1 : decode prog_19_method_22_code 1 = .ok (.iload_n 1, 1) := by decide +kernel
theorem d_19_22_2 : decode prog_19_method_22_code 2 = .ok (.invokestatic 91, 3) := by decide +kernel
theorem d_19_22_5 : decode prog_19_method_22_code 5 = .ok (.ifCond .ne 17, 3) := by decide +kernel
theorem d_19_22_8 : decode prog_19_method_22_code 8 = .ok (.iload_n 2, 1) := by decide +kernel
theorem d_19_22_9 : decode prog_19_method_22_code 9 = .ok (.invokestatic 91, 3) := by decide +kernel
theorem d_19_22_12 : decode prog_19_method_22_code 12 = .ok (.ifCond .ne 10, 3) := by decide +kernel
theorem d_19_22_15 : decode prog_19_method_22_code 15 = .ok (.iload_n 3, 1) := by decide +kernel
theorem d_19_22_16 : decode prog_19_method_22_code 16 = .ok (.invokestatic 91, 3) := by decide +kernel
theorem d_19_22_19 : decode prog_19_method_22_code 19 = .ok (.ifCond .eq 7, 3) := by decide +kernel
theorem d_19_22_26 : decode prog_19_method_22_code 26 = .ok (.iconst 0, 1) := by decide +kernel
theorem d_19_22_27 : decode prog_19_method_22_code 27 = .ok (.putfield 53, 3) := by decide +kernel
theorem d_19_22_30 : decode prog_19_method_22_code 30 = .ok (.aload_n 0, 1) := by decide +kernel
theorem d_19_22_31 : decode prog_19_method_22_code 31 = .ok (.getfield 53, 3) := by decide +kernel
theorem d_19_22_34 : decode prog_19_method_22_code 34 = .ok (.ifCond .le 4, 3) := by decide +kernel
theorem d_19_22_38 : decode prog_19_method_22_code 38 = .ok (.aload_n 0, 1) := by decide +kernel
theorem d_19_22_39 : decode prog_19_method_22_code 39 = .ok (.iconst 2, 1) := by decide +kernel
theorem d_19_22_40 : decode prog_19_method_22_code 40 = .ok (.putfield 79, 3) := by decide +kernel
theorem w_1923 : (Cond.fieldLink "NumberHouseModel$WholeRows" (79 : Nat) "NumberHouseModel$WholeRows" "fault" "I") ∈ q_tbl := q_of 1923 (by decide +kernel) (by decide +kernel)
theorem d_19_22_43 : decode prog_19_method_22_code 43 = .ok (.aload_n 0, 1) := by decide +kernel
theorem d_19_22_44 : decode prog_19_method_22_code 44 = .ok (.iload_n 1, 1) := by decide +kernel
theorem d_19_22_45 : decode prog_19_method_22_code 45 = .ok (.aload_n 0, 1) := by decide +kernel
theorem d_19_22_46 : decode prog_19_method_22_code 46 = .ok (.getfield 35, 3) := by decide +kernel
theorem d_19_22_49 : decode prog_19_method_22_code 49 = .ok (.invokevirtual 107, 3) := by decide +kernel
theorem d_19_22_52 : decode prog_19_method_22_code 52 = .ok (.aload_n 0, 1) := by decide +kernel
theorem d_19_22_53 : decode prog_19_method_22_code 53 = .ok (.iload_n 2, 1) := by decide +kernel
theorem d_19_22_54 : decode prog_19_method_22_code 54 = .ok (.aload_n 0, 1) := by decide +kernel
theorem d_19_22_55 : decode prog_19_method_22_code 55 = .ok (.getfield 38, 3) := by decide +kernel
theorem d_19_22_58 : decode prog_19_method_22_code 58 = .ok (.invokevirtual 107, 3) := by decide +kernel
theorem d_19_22_61 : decode prog_19_method_22_code 61 = .ok (.aload_n 0, 1) := by decide +kernel
theorem d_19_22_62 : decode prog_19_method_22_code 62 = .ok (.aload_n 0, 1) := by decide +kernel
theorem d_19_22_63 : decode prog_19_method_22_code 63 = .ok (.getfield 35, 3) := by decide +kernel
theorem d_19_22_66 : decode prog_19_method_22_code 66 = .ok (.aload_n 0, 1) := by decide +kernel
theorem d_19_22_67 : decode prog_19_method_22_code 67 = .ok (.getfield 16, 3) := by decide +kernel
theorem d_19_22_70 : decode prog_19_method_22_code 70 = .ok (.iload_n 1, 1) := by decide +kernel
theorem d_19_22_71 : decode prog_19_method_22_code 71 = .ok (.baload, 1) := by decide +kernel
theorem d_19_22_72 : decode prog_19_method_22_code 72 = .ok (.aload_n 0, 1) := by decide +kernel
theorem d_19_22_73 : decode prog_19_method_22_code 73 = .ok (.getfield 38, 3) := by decide +kernel
theorem d_19_22_76 : decode prog_19_method_22_code 76 = .ok (.aload_n 0, 1) := by decide +kernel
theorem d_19_22_77 : decode prog_19_method_22_code 77 = .ok (.getfield 16, 3) := by decide +kernel
theorem d_19_22_80 : decode prog_19_method_22_code 80 = .ok (.iload_n 2, 1) := by decide +kernel
theorem d_19_22_81 : decode prog_19_method_22_code 81 = .ok (.baload, 1) := by decide +kernel
theorem d_19_22_82 : decode prog_19_method_22_code 82 = .ok (.iload 4, 2) := by decide +kernel
theorem d_19_22_84 : decode prog_19_method_22_code 84 = .ok (.if_icmp .eq 7, 3) := by decide +kernel
theorem d_19_22_91 : decode prog_19_method_22_code 91 = .ok (.iconst 0, 1) := by decide +kernel
theorem d_19_22_92 : decode prog_19_method_22_code 92 = .ok (.invokevirtual 111, 3) := by decide +kernel
theorem w_2689 : (Cond.code ({ cls := "NumberHouseModel$WholeRows", name := "sum", desc := "([IZ[IZ)V" } : MethodName) prog_19_method_21_code (5 : Nat) (none : Option ClassFile.FieldType)) ∈ q_tbl := q_of 2689 (by decide +kernel) (by decide +kernel)
theorem w_2686 : (Cond.methodLink "NumberHouseModel$WholeRows" (111 : Nat) ({ cls := "NumberHouseModel$WholeRows", name := "sum", desc := "([IZ[IZ)V" } : MethodName)) ∈ q_tbl := q_of 2686 (by decide +kernel) (by decide +kernel)
theorem w_2688 : (Cond.instanceMethod ({ cls := "NumberHouseModel$WholeRows", name := "sum", desc := "([IZ[IZ)V" } : MethodName)) ∈ q_tbl := q_of 2688 (by decide +kernel) (by decide +kernel)
theorem ws_102 : Cond.selects "NumberHouseModel$WholeRows" (⟨"NumberHouseModel$WholeRows", "sum", "([IZ[IZ)V"⟩ : MethodName) (⟨"NumberHouseModel$WholeRows", "sum", "([IZ[IZ)V"⟩ : MethodName) ∈ q_tbl := q_ofs 102 (by decide +kernel) (by decide +kernel)
theorem LV_WR_111 : q_LV "NumberHouseModel$WholeRows" 111 y_WR_sum prog_19_method_21_code 5 none 4 := ⟨w_2689, w_15, w_2686, w_2688, ws_102, ⟨by decide, by decide, by decide +kernel⟩⟩
theorem d_19_22_95 : decode prog_19_method_22_code 95 = .ok (.aload_n 0, 1) := by decide +kernel
theorem d_19_22_96 : decode prog_19_method_22_code 96 = .ok (.iload_n 3, 1) := by decide +kernel
theorem d_19_22_97 : decode prog_19_method_22_code 97 = .ok (.invokevirtual 103, 3) := by decide +kernel
theorem w_2388 : (Cond.code ({ cls := "NumberHouseModel$WholeRows", name := "store", desc := "(I)V" } : MethodName) prog_19_method_15_code (4 : Nat) (none : Option ClassFile.FieldType)) ∈ q_tbl := q_of 2388 (by decide +kernel) (by decide +kernel)
theorem w_2385 : (Cond.methodLink "NumberHouseModel$WholeRows" (103 : Nat) ({ cls := "NumberHouseModel$WholeRows", name := "store", desc := "(I)V" } : MethodName)) ∈ q_tbl := q_of 2385 (by decide +kernel) (by decide +kernel)
theorem w_2387 : (Cond.instanceMethod ({ cls := "NumberHouseModel$WholeRows", name := "store", desc := "(I)V" } : MethodName)) ∈ q_tbl := q_of 2387 (by decide +kernel) (by decide +kernel)
theorem ws_60 : Cond.selects "NumberHouseModel$WholeRows" (⟨"NumberHouseModel$WholeRows", "store", "(I)V"⟩ : MethodName) (⟨"NumberHouseModel$WholeRows", "store", "(I)V"⟩ : MethodName) ∈ q_tbl := q_ofs 60 (by decide +kernel) (by decide +kernel)
theorem LV_WR_103 : q_LV "NumberHouseModel$WholeRows" 103 y_WR_store prog_19_method_15_code 4 none 1 := ⟨w_2388, w_15, w_2385, w_2387, ws_60, ⟨by decide, by decide, by decide +kernel⟩⟩
theorem d_19_22_100 : decode prog_19_method_22_code 100 = .ok (.return_, 1) := by decide +kernel
def y_WR_add : MethodName := ⟨"NumberHouseModel$WholeRows", "add", "(IIIZ)V"⟩
set_option maxRecDepth 100000 in
set_option maxHeartbeats 4000000 in
theorem c_WR_add (l : Launch) (D : va_G) (g : Nat → ClassId) (ws : va_W) (kO0 kA2 kA3 kA4 kA9 kA10 qO0 qA1 qA2 qA3 qA4 qA5 qA6 qA7 qA8 qA9 qA10 qA11 qA12 qA13 qA14 : Nat) (x1 : Int32) (x2 : Int32) (x3 : Int32) (hO0 : ws[kO0]? = (some (qO0, .inr (13, [.int 0, .int 0, .ref qA1, .int 0, .ref qA2, .ref qA3, .ref qA4, .int 0, .ref qA5, .ref qA6, .ref qA7, .ref qA8, .ref qA9, .ref qA10, .ref qA11, .ref qA12, .int 0, .int 0, .ref qA13, .ref qA14, .int 0])) : Option (Nat × va_E))) (hA2 : ws[kA2]? = (some (qA2, .inl (g 0, 1408, .inl (fun _ => 0))) : Option (Nat × va_E))) (hA3 : ws[kA3]? = (some (qA3, .inl (g 3, 11, .inl (fun _ => 0))) : Option (Nat × va_E))) (hA4 : ws[kA4]? = (some (qA4, .inl (g 0, 264, .inl (fun _ => 0))) : Option (Nat × va_E))) (hA9 : ws[kA9]? = (some (qA9, .inl (g 0, 264, .inl (fun _ => 0))) : Option (Nat × va_E))) (hA10 : ws[kA10]? = (some (qA10, .inl (g 0, 264, .inl (fun _ => 0))) : Option (Nat × va_E))) (n_A10_A2 : kA10 ≠ kA2) (n_A10_A3 : kA10 ≠ kA3) (n_A10_A4 : kA10 ≠ kA4) (n_A10_A9 : kA10 ≠ kA9) (n_A2_A3 : kA2 ≠ kA3) (n_A2_A4 : kA2 ≠ kA4) (n_A2_A9 : kA2 ≠ kA9) (n_A3_A4 : kA3 ≠ kA4) (n_A3_A9 : kA3 ≠ kA9) (n_A4_A9 : kA4 ≠ kA9) (x1lo : 0 ≤ x1) (x1hi : x1 ≤ 9) (x2lo : 0 ≤ x2) (x2hi : x2 ≤ 9) (x3lo : 0 ≤ x3) (x3hi : x3 ≤ 9) : q_mV l y_WR_add prog_19_method_22_code 5 3 0 0 D g [.ref qO0, .int x1, .int x2, .int x3, .int 0] ws (fun u => q_un ws u [kO0, kA2, kA3, kA4, kA9, kA10] ∧ u[kO0]? = (some (qO0, .inr (13, [.int 0, .int 2, .ref qA1, .int 0, .ref qA2, .ref qA3, .ref qA4, .int 0, .ref qA5, .ref qA6, .ref qA7, .ref qA8, .ref qA9, .ref qA10, .ref qA11, .ref qA12, .int 0, .int 0, .ref qA13, .ref qA14, .int 0])) : Option (Nat × va_E)) ∧ u[kA2]? = (some (qA2, .inl (g 0, 1408, .inl (fun _ => 0))) : Option (Nat × va_E)) ∧ u[kA3]? = (some (qA3, .inl (g 3, 11, .inl (fun _ => 0))) : Option (Nat × va_E)) ∧ u[kA4]? = (some (qA4, .inl (g 0, 264, .inl (fun _ => 0))) : Option (Nat × va_E)) ∧ u[kA9]? = (some (qA9, .inl (g 0, 264, .inl (fun _ => 0))) : Option (Nat × va_E)) ∧ u[kA10]? = (some (qA10, .inl (g 0, 264, .inl (fun _ => 0))) : Option (Nat × va_E))) := by
  intro sz
  refine q_into (by decide) (Nat.le_of_ble_eq_true rfl) ?_
  intro p e s m below meth c ls hsz C0 V hl
  have hx := C0.1
  have hb := C0.2.1
  have hl : lv_has ls 5 [(0, .ref qO0), (1, .int x1), (2, .int x2), (3, .int x3), (4, .int 0)] := hl
  have n_A10_O0 := q_df hA10 hO0
  have n_A2_A10 := Ne.symm n_A10_A2
  have n_A2_O0 := q_df hA2 hO0
  have n_A3_A10 := Ne.symm n_A10_A3
  have n_A3_O0 := q_df hA3 hO0
  have n_A4_A10 := Ne.symm n_A10_A4
  have n_A4_A2 := Ne.symm n_A2_A4
  have n_A4_A3 := Ne.symm n_A3_A4
  have n_A4_O0 := q_df hA4 hO0
  have n_A9_A10 := Ne.symm n_A10_A9
  have n_A9_A2 := Ne.symm n_A2_A9
  have n_A9_A3 := Ne.symm n_A3_A9
  have n_A9_A4 := Ne.symm n_A4_A9
  have n_A9_O0 := q_df hA9 hO0
  have n_O0_A10 := Ne.symm (q_df hA10 hO0)
  have n_O0_A2 := Ne.symm (q_df hA2 hO0)
  have n_O0_A3 := Ne.symm (q_df hA3 hO0)
  have n_O0_A9 := Ne.symm (q_df hA9 hO0)
  have hF : q_un ws ws [kO0, kA2, kA3, kA4, kA9, kA10] := q_u0
  refine lv_aload_n hx hb d_19_22_0 rfl (lv_at hl 0 rfl) ?_
  refine lv_iload_n hx hb d_19_22_1 rfl (lv_at hl 1 rfl) ?_
  refine q_goi V (q_runS (As := [.int x1]) (rest := [.ref qO0]) (d := 1) (mc := 0) (ms := 0) C0 V rfl LS_WR_91 (c_WR_no l D g ws x1 x1lo x1hi _) rfl hl.1 rfl (Nat.le_of_ble_eq_true rfl) ⟨by decide, by decide⟩ ⟨Nat.le_of_ble_eq_true rfl, Nat.le_of_ble_eq_true rfl⟩ d_19_22_2) (fun v3 u2 H locs hp1 V => ?_)
  obtain ⟨rfl, rfl⟩ := hp1
  refine lv_if_ne (tgt := 22) hx hb d_19_22_5 (by decide) (fun c5 => absurd (by decide) c5) (fun c5 => ?_)
  refine lv_iload_n hx hb d_19_22_8 rfl (lv_at hl 2 rfl) ?_
  refine q_goi V (q_runS (As := [.int x2]) (rest := [.ref qO0]) (d := 1) (mc := 0) (ms := 0) C0 V rfl LS_WR_91 (c_WR_no l D g ws x2 x2lo x2hi _) rfl hl.1 rfl (Nat.le_of_ble_eq_true rfl) ⟨by decide, by decide⟩ ⟨Nat.le_of_ble_eq_true rfl, Nat.le_of_ble_eq_true rfl⟩ d_19_22_9) (fun v8 u7 H locs hp6 V => ?_)
  obtain ⟨rfl, rfl⟩ := hp6
  refine lv_if_ne (tgt := 22) hx hb d_19_22_12 (by decide) (fun c10 => absurd (by decide) c10) (fun c10 => ?_)
  refine lv_iload_n hx hb d_19_22_15 rfl (lv_at hl 3 rfl) ?_
  refine q_goi V (q_runS (As := [.int x3]) (rest := [.ref qO0]) (d := 1) (mc := 0) (ms := 0) C0 V rfl LS_WR_91 (c_WR_no l D g ws x3 x3lo x3hi _) rfl hl.1 rfl (Nat.le_of_ble_eq_true rfl) ⟨by decide, by decide⟩ ⟨Nat.le_of_ble_eq_true rfl, Nat.le_of_ble_eq_true rfl⟩ d_19_22_16) (fun v13 u12 H locs hp11 V => ?_)
  obtain ⟨rfl, rfl⟩ := hp11
  refine lv_if_eq (tgt := 26) hx hb d_19_22_19 (by decide) (fun c15 => ?_) (fun c15 => absurd (by decide) c15)
  refine lv_iconst (v := 0) hx hb d_19_22_26 (by decide) ?_
  refine q_put (ci := 13) (j := 0) (v := .int 0) (ty := .int) C0 V i_WR o_WR n_WR rfl rfl hO0 (by decide) w_1921 rfl rfl rfl rfl (Nat.le_of_ble_eq_true rfl) d_19_22_27 (fun H locs w16 hu17 hO0 V => ?_)
  replace hO0 : w16[kO0]? = (some (qO0, .inr (13, [.int 0, .int 0, .ref qA1, .int 0, .ref qA2, .ref qA3, .ref qA4, .int 0, .ref qA5, .ref qA6, .ref qA7, .ref qA8, .ref qA9, .ref qA10, .ref qA11, .ref qA12, .int 0, .int 0, .ref qA13, .ref qA14, .int 0])) : Option (Nat × va_E)) := hO0
  replace hF := q_us hF hu17 (.head _)
  refine lv_aload_n hx hb d_19_22_30 rfl (lv_at hl 0 rfl) ?_
  refine q_get (ci := 13) (j := 0) (v := .int 0) C0 V i_WR rfl rfl hO0 (by decide) w_1921 rfl d_19_22_31 ?_
  refine lv_if_le (tgt := 38) hx hb d_19_22_34 (by decide) (fun c18 => ?_) (fun c18 => absurd (by decide) c18)
  refine lv_aload_n hx hb d_19_22_38 rfl (lv_at hl 0 rfl) ?_
  refine lv_iconst (v := 2) hx hb d_19_22_39 (by decide) ?_
  refine q_put (ci := 13) (j := 1) (v := .int 2) (ty := .int) C0 V i_WR o_WR n_WR rfl rfl hO0 (by decide) w_1923 rfl rfl rfl rfl (Nat.le_of_ble_eq_true rfl) d_19_22_40 (fun H locs w19 hu20 hO0 V => ?_)
  replace hO0 : w19[kO0]? = (some (qO0, .inr (13, [.int 0, .int 2, .ref qA1, .int 0, .ref qA2, .ref qA3, .ref qA4, .int 0, .ref qA5, .ref qA6, .ref qA7, .ref qA8, .ref qA9, .ref qA10, .ref qA11, .ref qA12, .int 0, .int 0, .ref qA13, .ref qA14, .int 0])) : Option (Nat × va_E)) := hO0
  replace hF := q_us hF hu20 (.head _)
  refine lv_aload_n hx hb d_19_22_43 rfl (lv_at hl 0 rfl) ?_
  refine lv_iload_n hx hb d_19_22_44 rfl (lv_at hl 1 rfl) ?_
  refine lv_aload_n hx hb d_19_22_45 rfl (lv_at hl 0 rfl) ?_
  refine q_get (ci := 13) (j := 12) (v := .ref qA9) C0 V i_WR rfl rfl hO0 (by decide) w_1936 rfl d_19_22_46 ?_
  replace hA9 := (hu20 _ n_A9_O0).trans ((hu17 _ n_A9_O0).trans (hA9))
  replace hA2 := (hu20 _ n_A2_O0).trans ((hu17 _ n_A2_O0).trans (hA2))
  refine q_gov V (q_runV (As := [.int x1, .ref qA9]) (rest := []) (d := 1) (mc := 0) (ms := 0) (ci := 13) C0 V rfl LV_WR_107 (c_WR_take_3 l D g w19 kO0 kA9 kA2 qO0 qA9 qA1 qA2 qA3 qA4 qA5 qA6 qA7 qA8 qA10 qA11 qA12 qA13 qA14 x1 hO0 hA9 hA2 n_A2_A9 x1lo x1hi _) rfl rfl hO0 rfl hl.1 rfl (Nat.le_of_ble_eq_true rfl) ⟨by decide, by decide⟩ ⟨Nat.le_of_ble_eq_true rfl, Nat.le_of_ble_eq_true rfl⟩ d_19_22_49) (fun u22 H locs hp21 V => ?_)
  obtain ⟨hg23, hA9⟩ := hp21
  replace hF := q_uc hF hg23 (q_sc (List.mem_of_getElem? (i := 4) rfl) (fun _ h => absurd h List.not_mem_nil))
  refine lv_aload_n hx hb d_19_22_52 rfl (lv_at hl 0 rfl) ?_
  refine lv_iload_n hx hb d_19_22_53 rfl (lv_at hl 2 rfl) ?_
  refine lv_aload_n hx hb d_19_22_54 rfl (lv_at hl 0 rfl) ?_
  replace hO0 := (hg23 _ (q_nc n_O0_A9 List.not_mem_nil)).trans (hO0)
  refine q_get (ci := 13) (j := 13) (v := .ref qA10) C0 V i_WR rfl rfl hO0 (by decide) w_1937 rfl d_19_22_55 ?_
  replace hA10 := (hg23 _ (q_nc n_A10_A9 List.not_mem_nil)).trans ((hu20 _ n_A10_O0).trans ((hu17 _ n_A10_O0).trans (hA10)))
  replace hA2 := (hg23 _ (q_nc n_A2_A9 List.not_mem_nil)).trans (hA2)
  refine q_gov V (q_runV (As := [.int x2, .ref qA10]) (rest := []) (d := 1) (mc := 0) (ms := 0) (ci := 13) C0 V rfl LV_WR_107 (c_WR_take_4 l D g u22 kO0 kA10 kA2 qO0 qA10 qA1 qA2 qA3 qA4 qA5 qA6 qA7 qA8 qA9 qA11 qA12 qA13 qA14 x2 hO0 hA10 hA2 n_A2_A10 x2lo x2hi _) rfl rfl hO0 rfl hl.1 rfl (Nat.le_of_ble_eq_true rfl) ⟨by decide, by decide⟩ ⟨Nat.le_of_ble_eq_true rfl, Nat.le_of_ble_eq_true rfl⟩ d_19_22_58) (fun u25 H locs hp24 V => ?_)
  obtain ⟨hg26, hA10⟩ := hp24
  replace hF := q_uc hF hg26 (q_sc (List.mem_of_getElem? (i := 5) rfl) (fun _ h => absurd h List.not_mem_nil))
  refine lv_aload_n hx hb d_19_22_61 rfl (lv_at hl 0 rfl) ?_
  refine lv_aload_n hx hb d_19_22_62 rfl (lv_at hl 0 rfl) ?_
  replace hO0 := (hg26 _ (q_nc n_O0_A10 List.not_mem_nil)).trans (hO0)
  refine q_get (ci := 13) (j := 12) (v := .ref qA9) C0 V i_WR rfl rfl hO0 (by decide) w_1936 rfl d_19_22_63 ?_
  refine lv_aload_n hx hb d_19_22_66 rfl (lv_at hl 0 rfl) ?_
  refine q_get (ci := 13) (j := 5) (v := .ref qA3) C0 V i_WR rfl rfl hO0 (by decide) w_1929 rfl d_19_22_67 ?_
  refine lv_iload_n hx hb d_19_22_70 rfl (lv_at hl 1 rfl) ?_
  replace hA3 := (hg26 _ (q_nc n_A3_A10 List.not_mem_nil)).trans ((hg23 _ (q_nc n_A3_A9 List.not_mem_nil)).trans ((hu20 _ n_A3_O0).trans ((hu17 _ n_A3_O0).trans (hA3))))
  refine q_zald C0 V hA3 (q_ix (x := x1.toInt) rfl (by have t1 : 0 ≤ x1.toInt := q_leI x1lo; have t2 : x1.toInt ≤ 9 := q_leI x1hi; omega) (by have t1 : 0 ≤ x1.toInt := q_leI x1lo; have t2 : x1.toInt ≤ 9 := q_leI x1hi; omega)) d_19_22_71 ?_
  refine q_ti (v := 0) (by first | rfl | decide | simp [upd, vp_updL, sb_cl0]) ?_
  refine lv_aload_n hx hb d_19_22_72 rfl (lv_at hl 0 rfl) ?_
  refine q_get (ci := 13) (j := 13) (v := .ref qA10) C0 V i_WR rfl rfl hO0 (by decide) w_1937 rfl d_19_22_73 ?_
  refine lv_aload_n hx hb d_19_22_76 rfl (lv_at hl 0 rfl) ?_
  refine q_get (ci := 13) (j := 5) (v := .ref qA3) C0 V i_WR rfl rfl hO0 (by decide) w_1929 rfl d_19_22_77 ?_
  refine lv_iload_n hx hb d_19_22_80 rfl (lv_at hl 2 rfl) ?_
  refine q_zald C0 V hA3 (q_ix (x := x2.toInt) rfl (by have t1 : 0 ≤ x2.toInt := q_leI x2lo; have t2 : x2.toInt ≤ 9 := q_leI x2hi; omega) (by have t1 : 0 ≤ x2.toInt := q_leI x2lo; have t2 : x2.toInt ≤ 9 := q_leI x2hi; omega)) d_19_22_81 ?_
  refine q_ti (v := 0) (by first | rfl | decide | simp [upd, vp_updL, sb_cl0]) ?_
  refine lv_iload hx hb d_19_22_82 (lv_at hl 4 rfl) ?_
  refine lv_icmp_eq (tgt := 91) hx hb d_19_22_84 (by decide) (fun c27 => ?_) (fun c27 => absurd (by decide) c27)
  refine lv_iconst (v := 0) hx hb d_19_22_91 (by decide) ?_
  replace hA9 := (hg26 _ (q_nc n_A9_A10 List.not_mem_nil)).trans (hA9)
  replace hA4 := (hg26 _ (q_nc n_A4_A10 List.not_mem_nil)).trans ((hg23 _ (q_nc n_A4_A9 List.not_mem_nil)).trans ((hu20 _ n_A4_O0).trans ((hu17 _ n_A4_O0).trans (hA4))))
  refine q_gov V (q_runV (As := [.ref qA9, .int 0, .ref qA10, .int 0]) (rest := []) (d := 2) (mc := 0) (ms := 0) (ci := 13) C0 V rfl LV_WR_111 (c_WR_sum l D g u25 kO0 kA9 kA10 kA4 qO0 qA9 qA10 qA1 qA2 qA3 qA4 qA5 qA6 qA7 qA8 qA11 qA12 qA13 qA14 hO0 hA9 hA10 hA4 n_A9_A4 n_A10_A4 _) rfl rfl hO0 rfl hl.1 rfl (Nat.le_of_ble_eq_true rfl) ⟨by decide, by decide⟩ ⟨Nat.le_of_ble_eq_true rfl, Nat.le_of_ble_eq_true rfl⟩ d_19_22_92) (fun u29 H locs hp28 V => ?_)
  obtain ⟨hg30, hO0, hA4⟩ := hp28
  replace hF := q_uc hF hg30 (q_sc (.head _) (q_sc (List.mem_of_getElem? (i := 3) rfl) (fun _ h => absurd h List.not_mem_nil)))
  refine lv_aload_n hx hb d_19_22_95 rfl (lv_at hl 0 rfl) ?_
  refine lv_iload_n hx hb d_19_22_96 rfl (lv_at hl 3 rfl) ?_
  replace hA2 := (hg30 _ (q_nc n_A2_O0 (q_nc n_A2_A4 List.not_mem_nil))).trans ((hg26 _ (q_nc n_A2_A10 List.not_mem_nil)).trans (hA2))
  replace hA3 := (hg30 _ (q_nc n_A3_O0 (q_nc n_A3_A4 List.not_mem_nil))).trans (hA3)
  refine q_gov V (q_runV (As := [.int x3]) (rest := []) (d := 2) (mc := 0) (ms := 0) (ci := 13) C0 V rfl LV_WR_103 (c_WR_store l D g u29 kO0 kA2 kA3 kA4 qO0 qA1 qA2 qA3 qA4 qA5 qA6 qA7 qA8 qA9 qA10 qA11 qA12 qA13 qA14 x3 hO0 hA2 hA3 hA4 n_A2_A3 n_A4_A2 n_A4_A3 x3lo x3hi _) rfl rfl hO0 rfl hl.1 rfl (Nat.le_of_ble_eq_true rfl) ⟨by decide, by decide⟩ ⟨Nat.le_of_ble_eq_true rfl, Nat.le_of_ble_eq_true rfl⟩ d_19_22_97) (fun u32 H locs hp31 V => ?_)
  obtain ⟨hg33, hA2, hA3⟩ := hp31
  replace hF := q_uc hF hg33 (q_sc (.tail _ (.head _)) (q_sc (.tail _ (.tail _ (.head _))) (fun _ h => absurd h List.not_mem_nil)))
  replace hO0 := (hg33 _ (q_nc n_O0_A2 (q_nc n_O0_A3 List.not_mem_nil))).trans (hO0)
  replace hA4 := (hg33 _ (q_nc n_A4_A2 (q_nc n_A4_A3 List.not_mem_nil))).trans (hA4)
  replace hA9 := (hg33 _ (q_nc n_A9_A2 (q_nc n_A9_A3 List.not_mem_nil))).trans ((hg30 _ (q_nc n_A9_O0 (q_nc n_A9_A4 List.not_mem_nil))).trans (hA9))
  replace hA10 := (hg33 _ (q_nc n_A10_A2 (q_nc n_A10_A3 List.not_mem_nil))).trans ((hg30 _ (q_nc n_A10_O0 (q_nc n_A10_A4 List.not_mem_nil))).trans (hA10))
  exact q_retv C0 V (⟨hF, hO0, hA2, hA3, hA4, hA9, hA10⟩) d_19_22_100
set_option maxRecDepth 100000 in
set_option maxHeartbeats 4000000 in
theorem c_WR_join_2 (l : Launch) (D : va_G) (g : Nat → ClassId) (ws : va_W) (kA0 qA0 qA1 : Nat) (hA0 : ws[kA0]? = (some (qA0, .inl (g 0, 264, .inl (fun _ => 0))) : Option (Nat × va_E))) : q_mV l y_WR_join prog_19_method_10_code 11 1 0 0 D g [.ref qA0, .ref qA1, .int 0, .long 1, .int 1] ws (fun u => ws = u) := by
  intro sz
  refine q_into (by decide) (Nat.le_of_ble_eq_true rfl) ?_
  intro p e s m below meth c ls hsz C0 V hl
  have hx := C0.1
  have hb := C0.2.1
  have hl : lv_has ls 11 [(0, .ref qA0), (1, .ref qA1), (2, .int 0), (3, .long 1), (5, .int 1)] := hl
  refine lv_lconst (v := 0) hx hb d_19_10_0 (by decide) ?_
  refine lv_lstore (lv' := [(6, .long 0), (0, .ref qA0), (1, .ref qA1), (2, .int 0), (3, .long 1), (5, .int 1)]) hx hb d_19_10_1 hl (by decide) rfl (fun ls hl => ?_)
  refine lv_iconst (v := 0) hx hb d_19_10_3 (by decide) ?_
  refine lv_istore (lv' := [(8, .int 0), (6, .long 0), (0, .ref qA0), (1, .ref qA1), (2, .int 0), (3, .long 1), (5, .int 1)]) hx hb d_19_10_4 hl (by decide) rfl (fun ls hl => ?_)
  refine q_loop (X := Int32) (fun z H locs ls _ => (0 ≤ z.toInt ∧ (z.toInt ≤ 264 ∨ z.toInt = 0)) ∧ q_Wd D g (va_A ws sz) s ws H locs ∧ lv_has ls 11 [(8, .int z), (6, .long 0), (0, .ref qA0), (1, .ref qA1), (2, .int 0), (3, .long 1), (5, .int 1)]) (fun z => (264 - z.toInt).toNat) ?_ ((0 : Int32)) _ _ _ ws ⟨⟨by decide, Or.inr (by decide)⟩, V, hl⟩
  rintro lx1 H locs ls _ ⟨i3, V, hl⟩ ih4
  replace i3 : 0 ≤ lx1.toInt ∧ (lx1.toInt ≤ 264 ∨ lx1.toInt = 0) := i3
  replace hl : lv_has ls 11 [(8, .int lx1), (6, .long 0), (0, .ref qA0), (1, .ref qA1), (2, .int 0), (3, .long 1), (5, .int 1)] := hl
  refine lv_iload hx hb d_19_10_6 (lv_at hl 0 rfl) ?_
  refine lv_aload_n hx hb d_19_10_8 rfl (lv_at hl 2 rfl) ?_
  refine q_alen (t := 0) (v := 264) C0 V hA0 rfl (by first | rfl | decide) d_19_10_9 ?_
  refine lv_icmp_ge (tgt := 93) hx hb d_19_10_10 (by decide) (fun c5 => ?_) (fun c5 => ?_)
  ·
    exact q_retv C0 V (rfl) d_19_10_93
  ·
    refine lv_iload hx hb d_19_10_13 (lv_at hl 0 rfl) ?_
    refine lv_iload_n hx hb d_19_10_15 rfl (lv_at hl 4 rfl) ?_
    refine lv_icmp_lt (tgt := 26) hx hb d_19_10_16 (by decide) (fun c6 => absurd c6 (Int32.not_lt.mpr (q_Ile (x := 0) (y := lx1.toInt) (by decide) rfl (by have t1 : lx1.toInt < 264 := q_nleI c5; omega)))) (fun c6 => ?_)
    refine lv_lload hx hb d_19_10_19 (lv_at hl 1 rfl) ?_
    refine lv_lconst (v := 0) hx hb d_19_10_21 (by decide) ?_
    refine W.lcmp hx hb d_19_10_22 ?_
    refine q_ti (v := 0) (by decide) ?_
    refine lv_if_eq (tgt := 93) hx hb d_19_10_23 (by decide) (fun c7 => ?_) (fun c7 => absurd (by decide) c7)
    exact q_retv C0 V (rfl) d_19_10_93
theorem d_19_21_36 : decode prog_19_method_21_code 36 = .ok (.aload_n 1, 1) := by decide +kernel
theorem d_19_21_37 : decode prog_19_method_21_code 37 = .ok (.aload_n 3, 1) := by decide +kernel
theorem d_19_21_38 : decode prog_19_method_21_code 38 = .ok (.invokestatic 71, 3) := by decide +kernel
theorem d_19_21_41 : decode prog_19_method_21_code 41 = .ok (.ifCond .lt 33, 3) := by decide +kernel
theorem d_19_21_44 : decode prog_19_method_21_code 44 = .ok (.aload_n 1, 1) := by decide +kernel
theorem d_19_21_45 : decode prog_19_method_21_code 45 = .ok (.aload_n 0, 1) := by decide +kernel
theorem d_19_21_46 : decode prog_19_method_21_code 46 = .ok (.getfield 20, 3) := by decide +kernel
theorem d_19_21_49 : decode prog_19_method_21_code 49 = .ok (.invokestatic 67, 3) := by decide +kernel
theorem d_19_21_52 : decode prog_19_method_21_code 52 = .ok (.aload_n 0, 1) := by decide +kernel
theorem d_19_21_53 : decode prog_19_method_21_code 53 = .ok (.getfield 20, 3) := by decide +kernel
theorem d_19_21_56 : decode prog_19_method_21_code 56 = .ok (.aload_n 3, 1) := by decide +kernel
theorem d_19_21_57 : decode prog_19_method_21_code 57 = .ok (.aload_n 3, 1) := by decide +kernel
theorem d_19_21_58 : decode prog_19_method_21_code 58 = .ok (.invokestatic 59, 3) := by decide +kernel
theorem d_19_21_61 : decode prog_19_method_21_code 61 = .ok (.lconst 1, 1) := by decide +kernel
theorem d_19_21_62 : decode prog_19_method_21_code 62 = .ok (.iconst 1, 1) := by decide +kernel
theorem d_19_21_63 : decode prog_19_method_21_code 63 = .ok (.invokestatic 75, 3) := by decide +kernel
theorem d_19_21_66 : decode prog_19_method_21_code 66 = .ok (.aload_n 0, 1) := by decide +kernel
theorem d_19_21_67 : decode prog_19_method_21_code 67 = .ok (.iload_n 2, 1) := by decide +kernel
theorem d_19_21_68 : decode prog_19_method_21_code 68 = .ok (.putfield 82, 3) := by decide +kernel
theorem d_19_21_71 : decode prog_19_method_21_code 71 = .ok (.goto 31, 3) := by decide +kernel
set_option maxRecDepth 100000 in
set_option maxHeartbeats 4000000 in
theorem c_WR_sum_2 (l : Launch) (D : va_G) (g : Nat → ClassId) (ws : va_W) (kO0 kA1 kA2 kA6 qO0 qA1 qA2 qA3 qA4 qA5 qA6 qA7 qA8 qA9 qA10 qA11 qA12 qA13 qA14 : Nat) (hO0 : ws[kO0]? = (some (qO0, .inr (13, [.int 0, .int 2, .ref qA3, .int 0, .ref qA4, .ref qA5, .ref qA6, .int 0, .ref qA7, .ref qA8, .ref qA9, .ref qA10, .ref qA1, .ref qA2, .ref qA11, .ref qA12, .int 0, .int 0, .ref qA13, .ref qA14, .int 0])) : Option (Nat × va_E))) (hA1 : ws[kA1]? = (some (qA1, .inl (g 0, 264, .inl (fun _ => 0))) : Option (Nat × va_E))) (hA2 : ws[kA2]? = (some (qA2, .inl (g 0, 264, .inl (fun _ => 0))) : Option (Nat × va_E))) (hA6 : ws[kA6]? = (some (qA6, .inl (g 0, 264, .inl (fun _ => 0))) : Option (Nat × va_E))) (n_A1_A6 : kA1 ≠ kA6) (n_A2_A6 : kA2 ≠ kA6) : q_mV l y_WR_sum prog_19_method_21_code 5 2 0 0 D g [.ref qO0, .ref qA1, .int 0, .ref qA2, .int 1] ws (fun u => q_un ws u [kO0, kA6] ∧ u[kO0]? = (some (qO0, .inr (13, [.int 0, .int 2, .ref qA3, .int 0, .ref qA4, .ref qA5, .ref qA6, .int 0, .ref qA7, .ref qA8, .ref qA9, .ref qA10, .ref qA1, .ref qA2, .ref qA11, .ref qA12, .int 0, .int 0, .ref qA13, .ref qA14, .int 0])) : Option (Nat × va_E)) ∧ u[kA6]? = (some (qA6, .inl (g 0, 264, .inl (fun _ => 0))) : Option (Nat × va_E))) := by
  intro sz
  refine q_into (by decide) (Nat.le_of_ble_eq_true rfl) ?_
  intro p e s m below meth c ls hsz C0 V hl
  have hx := C0.1
  have hb := C0.2.1
  have hl : lv_has ls 5 [(0, .ref qO0), (1, .ref qA1), (2, .int 0), (3, .ref qA2), (4, .int 1)] := hl
  have n_A1_O0 := q_df hA1 hO0
  have n_A2_O0 := q_df hA2 hO0
  have n_A6_O0 := q_df hA6 hO0
  have n_O0_A6 := Ne.symm (q_df hA6 hO0)
  have hF : q_un ws ws [kO0, kA6] := q_u0
  refine lv_iload_n hx hb d_19_21_0 rfl (lv_at hl 2 rfl) ?_
  refine lv_iload hx hb d_19_21_1 (lv_at hl 4 rfl) ?_
  refine lv_icmp_ne (tgt := 36) hx hb d_19_21_3 (by decide) (fun c1 => ?_) (fun c1 => absurd c1 (by decide))
  refine lv_aload_n hx hb d_19_21_36 rfl (lv_at hl 1 rfl) ?_
  refine lv_aload_n hx hb d_19_21_37 rfl (lv_at hl 3 rfl) ?_
  refine q_goi V (q_runS (As := [.ref qA1, .ref qA2]) (rest := []) (d := 1) (mc := 0) (ms := 0) C0 V rfl LS_WR_71 (c_WR_compareRows l D g ws kA1 kA2 qA1 qA2 hA1 hA2 _) rfl hl.1 rfl (Nat.le_of_ble_eq_true rfl) ⟨by decide, by decide⟩ ⟨Nat.le_of_ble_eq_true rfl, Nat.le_of_ble_eq_true rfl⟩ d_19_21_38) (fun v4 u3 H locs hp2 V => ?_)
  obtain ⟨rfl, rfl⟩ := hp2
  refine lv_if_lt (tgt := 74) hx hb d_19_21_41 (by decide) (fun c6 => absurd c6 (by decide)) (fun c6 => ?_)
  refine lv_aload_n hx hb d_19_21_44 rfl (lv_at hl 1 rfl) ?_
  refine lv_aload_n hx hb d_19_21_45 rfl (lv_at hl 0 rfl) ?_
  refine q_get (ci := 13) (j := 6) (v := .ref qA6) C0 V i_WR rfl rfl hO0 (by decide) w_1930 rfl d_19_21_46 ?_
  refine q_gov V (q_runS (As := [.ref qA1, .ref qA6]) (rest := []) (d := 1) (mc := 0) (ms := 0) C0 V rfl LS_WR_67 (c_WR_copy l D g ws kA1 kA6 qA1 qA6 hA1 hA6 n_A1_A6 _) rfl hl.1 rfl (Nat.le_of_ble_eq_true rfl) ⟨by decide, by decide⟩ ⟨Nat.le_of_ble_eq_true rfl, Nat.le_of_ble_eq_true rfl⟩ d_19_21_49) (fun u8 H locs hp7 V => ?_)
  obtain ⟨hg9, hA6⟩ := hp7
  replace hF := q_uc hF hg9 (q_sc (.tail _ (.head _)) (fun _ h => absurd h List.not_mem_nil))
  refine lv_aload_n hx hb d_19_21_52 rfl (lv_at hl 0 rfl) ?_
  replace hO0 := (hg9 _ (q_nc n_O0_A6 List.not_mem_nil)).trans (hO0)
  refine q_get (ci := 13) (j := 6) (v := .ref qA6) C0 V i_WR rfl rfl hO0 (by decide) w_1930 rfl d_19_21_53 ?_
  refine lv_aload_n hx hb d_19_21_56 rfl (lv_at hl 3 rfl) ?_
  refine lv_aload_n hx hb d_19_21_57 rfl (lv_at hl 3 rfl) ?_
  replace hA2 := (hg9 _ (q_nc n_A2_A6 List.not_mem_nil)).trans (hA2)
  refine q_goi V (q_runS (As := [.ref qA2]) (rest := [.ref qA2, .ref qA6]) (d := 1) (mc := 0) (ms := 0) C0 V rfl LS_WR_59 (c_WR_size l D g u8 kA2 qA2 hA2 _) rfl hl.1 rfl (Nat.le_of_ble_eq_true rfl) ⟨by decide, by decide⟩ ⟨Nat.le_of_ble_eq_true rfl, Nat.le_of_ble_eq_true rfl⟩ d_19_21_58) (fun v12 u11 H locs hp10 V => ?_)
  obtain ⟨rfl, rfl⟩ := hp10
  refine lv_lconst (v := 1) hx hb d_19_21_61 (by decide) ?_
  refine lv_iconst (v := 1) hx hb d_19_21_62 (by decide) ?_
  refine q_gov V (q_runS (As := [.ref qA6, .ref qA2, .int 0, .long 1, .int 1]) (rest := []) (d := 1) (mc := 0) (ms := 0) C0 V rfl LS_WR_75 (c_WR_join_2 l D g u8 kA6 qA6 qA2 hA6 _) rfl hl.1 rfl (Nat.le_of_ble_eq_true rfl) ⟨by decide, by decide⟩ ⟨Nat.le_of_ble_eq_true rfl, Nat.le_of_ble_eq_true rfl⟩ d_19_21_63) (fun u15 H locs hp14 V => ?_)
  obtain rfl := hp14
  refine lv_aload_n hx hb d_19_21_66 rfl (lv_at hl 0 rfl) ?_
  refine lv_iload_n hx hb d_19_21_67 rfl (lv_at hl 2 rfl) ?_
  refine q_put (ci := 13) (j := 7) (v := .int 0) (ty := .boolean) C0 V i_WR o_WR n_WR rfl rfl hO0 (by decide) w_1931 rfl rfl rfl rfl (Nat.le_of_ble_eq_true rfl) d_19_21_68 (fun H locs w17 hu18 hO0 V => ?_)
  replace hO0 : w17[kO0]? = (some (qO0, .inr (13, [.int 0, .int 2, .ref qA3, .int 0, .ref qA4, .ref qA5, .ref qA6, .int 0, .ref qA7, .ref qA8, .ref qA9, .ref qA10, .ref qA1, .ref qA2, .ref qA11, .ref qA12, .int 0, .int 0, .ref qA13, .ref qA14, .int 0])) : Option (Nat × va_E)) := hO0
  replace hF := q_us hF hu18 (.head _)
  refine lv_goto (tgt := 102) hx hb d_19_21_71 (by decide) ?_
  replace hA6 := (hu18 _ n_A6_O0).trans (hA6)
  exact q_retv C0 V (⟨hF, hO0, hA6⟩) d_19_21_102
theorem d_19_22_87 : decode prog_19_method_22_code 87 = .ok (.iconst 1, 1) := by decide +kernel
theorem d_19_22_88 : decode prog_19_method_22_code 88 = .ok (.goto 4, 3) := by decide +kernel
set_option maxRecDepth 100000 in
set_option maxHeartbeats 4000000 in
theorem c_WR_add_2 (l : Launch) (D : va_G) (g : Nat → ClassId) (ws : va_W) (kO0 kA2 kA3 kA4 kA9 kA10 qO0 qA1 qA2 qA3 qA4 qA5 qA6 qA7 qA8 qA9 qA10 qA11 qA12 qA13 qA14 : Nat) (x1 : Int32) (x2 : Int32) (x3 : Int32) (hO0 : ws[kO0]? = (some (qO0, .inr (13, [.int 0, .int 0, .ref qA1, .int 0, .ref qA2, .ref qA3, .ref qA4, .int 0, .ref qA5, .ref qA6, .ref qA7, .ref qA8, .ref qA9, .ref qA10, .ref qA11, .ref qA12, .int 0, .int 0, .ref qA13, .ref qA14, .int 0])) : Option (Nat × va_E))) (hA2 : ws[kA2]? = (some (qA2, .inl (g 0, 1408, .inl (fun _ => 0))) : Option (Nat × va_E))) (hA3 : ws[kA3]? = (some (qA3, .inl (g 3, 11, .inl (fun _ => 0))) : Option (Nat × va_E))) (hA4 : ws[kA4]? = (some (qA4, .inl (g 0, 264, .inl (fun _ => 0))) : Option (Nat × va_E))) (hA9 : ws[kA9]? = (some (qA9, .inl (g 0, 264, .inl (fun _ => 0))) : Option (Nat × va_E))) (hA10 : ws[kA10]? = (some (qA10, .inl (g 0, 264, .inl (fun _ => 0))) : Option (Nat × va_E))) (n_A10_A2 : kA10 ≠ kA2) (n_A10_A3 : kA10 ≠ kA3) (n_A10_A4 : kA10 ≠ kA4) (n_A10_A9 : kA10 ≠ kA9) (n_A2_A3 : kA2 ≠ kA3) (n_A2_A4 : kA2 ≠ kA4) (n_A2_A9 : kA2 ≠ kA9) (n_A3_A4 : kA3 ≠ kA4) (n_A3_A9 : kA3 ≠ kA9) (n_A4_A9 : kA4 ≠ kA9) (x1lo : 0 ≤ x1) (x1hi : x1 ≤ 9) (x2lo : 0 ≤ x2) (x2hi : x2 ≤ 9) (x3lo : 0 ≤ x3) (x3hi : x3 ≤ 9) : q_mV l y_WR_add prog_19_method_22_code 5 3 0 0 D g [.ref qO0, .int x1, .int x2, .int x3, .int 1] ws (fun u => q_un ws u [kO0, kA2, kA3, kA4, kA9, kA10] ∧ u[kO0]? = (some (qO0, .inr (13, [.int 0, .int 2, .ref qA1, .int 0, .ref qA2, .ref qA3, .ref qA4, .int 0, .ref qA5, .ref qA6, .ref qA7, .ref qA8, .ref qA9, .ref qA10, .ref qA11, .ref qA12, .int 0, .int 0, .ref qA13, .ref qA14, .int 0])) : Option (Nat × va_E)) ∧ u[kA2]? = (some (qA2, .inl (g 0, 1408, .inl (fun _ => 0))) : Option (Nat × va_E)) ∧ u[kA3]? = (some (qA3, .inl (g 3, 11, .inl (fun _ => 0))) : Option (Nat × va_E)) ∧ u[kA4]? = (some (qA4, .inl (g 0, 264, .inl (fun _ => 0))) : Option (Nat × va_E)) ∧ u[kA9]? = (some (qA9, .inl (g 0, 264, .inl (fun _ => 0))) : Option (Nat × va_E)) ∧ u[kA10]? = (some (qA10, .inl (g 0, 264, .inl (fun _ => 0))) : Option (Nat × va_E))) := by
  intro sz
  refine q_into (by decide) (Nat.le_of_ble_eq_true rfl) ?_
  intro p e s m below meth c ls hsz C0 V hl
  have hx := C0.1
  have hb := C0.2.1
  have hl : lv_has ls 5 [(0, .ref qO0), (1, .int x1), (2, .int x2), (3, .int x3), (4, .int 1)] := hl
  have n_A10_O0 := q_df hA10 hO0
  have n_A2_A10 := Ne.symm n_A10_A2
  have n_A2_O0 := q_df hA2 hO0
  have n_A3_A10 := Ne.symm n_A10_A3
  have n_A3_O0 := q_df hA3 hO0
  have n_A4_A10 := Ne.symm n_A10_A4
  have n_A4_A2 := Ne.symm n_A2_A4
  have n_A4_A3 := Ne.symm n_A3_A4
  have n_A4_O0 := q_df hA4 hO0
  have n_A9_A10 := Ne.symm n_A10_A9
  have n_A9_A2 := Ne.symm n_A2_A9
  have n_A9_A3 := Ne.symm n_A3_A9
  have n_A9_A4 := Ne.symm n_A4_A9
  have n_A9_O0 := q_df hA9 hO0
  have n_O0_A10 := Ne.symm (q_df hA10 hO0)
  have n_O0_A2 := Ne.symm (q_df hA2 hO0)
  have n_O0_A3 := Ne.symm (q_df hA3 hO0)
  have n_O0_A9 := Ne.symm (q_df hA9 hO0)
  have hF : q_un ws ws [kO0, kA2, kA3, kA4, kA9, kA10] := q_u0
  refine lv_aload_n hx hb d_19_22_0 rfl (lv_at hl 0 rfl) ?_
  refine lv_iload_n hx hb d_19_22_1 rfl (lv_at hl 1 rfl) ?_
  refine q_goi V (q_runS (As := [.int x1]) (rest := [.ref qO0]) (d := 1) (mc := 0) (ms := 0) C0 V rfl LS_WR_91 (c_WR_no l D g ws x1 x1lo x1hi _) rfl hl.1 rfl (Nat.le_of_ble_eq_true rfl) ⟨by decide, by decide⟩ ⟨Nat.le_of_ble_eq_true rfl, Nat.le_of_ble_eq_true rfl⟩ d_19_22_2) (fun v3 u2 H locs hp1 V => ?_)
  obtain ⟨rfl, rfl⟩ := hp1
  refine lv_if_ne (tgt := 22) hx hb d_19_22_5 (by decide) (fun c5 => absurd (by decide) c5) (fun c5 => ?_)
  refine lv_iload_n hx hb d_19_22_8 rfl (lv_at hl 2 rfl) ?_
  refine q_goi V (q_runS (As := [.int x2]) (rest := [.ref qO0]) (d := 1) (mc := 0) (ms := 0) C0 V rfl LS_WR_91 (c_WR_no l D g ws x2 x2lo x2hi _) rfl hl.1 rfl (Nat.le_of_ble_eq_true rfl) ⟨by decide, by decide⟩ ⟨Nat.le_of_ble_eq_true rfl, Nat.le_of_ble_eq_true rfl⟩ d_19_22_9) (fun v8 u7 H locs hp6 V => ?_)
  obtain ⟨rfl, rfl⟩ := hp6
  refine lv_if_ne (tgt := 22) hx hb d_19_22_12 (by decide) (fun c10 => absurd (by decide) c10) (fun c10 => ?_)
  refine lv_iload_n hx hb d_19_22_15 rfl (lv_at hl 3 rfl) ?_
  refine q_goi V (q_runS (As := [.int x3]) (rest := [.ref qO0]) (d := 1) (mc := 0) (ms := 0) C0 V rfl LS_WR_91 (c_WR_no l D g ws x3 x3lo x3hi _) rfl hl.1 rfl (Nat.le_of_ble_eq_true rfl) ⟨by decide, by decide⟩ ⟨Nat.le_of_ble_eq_true rfl, Nat.le_of_ble_eq_true rfl⟩ d_19_22_16) (fun v13 u12 H locs hp11 V => ?_)
  obtain ⟨rfl, rfl⟩ := hp11
  refine lv_if_eq (tgt := 26) hx hb d_19_22_19 (by decide) (fun c15 => ?_) (fun c15 => absurd (by decide) c15)
  refine lv_iconst (v := 0) hx hb d_19_22_26 (by decide) ?_
  refine q_put (ci := 13) (j := 0) (v := .int 0) (ty := .int) C0 V i_WR o_WR n_WR rfl rfl hO0 (by decide) w_1921 rfl rfl rfl rfl (Nat.le_of_ble_eq_true rfl) d_19_22_27 (fun H locs w16 hu17 hO0 V => ?_)
  replace hO0 : w16[kO0]? = (some (qO0, .inr (13, [.int 0, .int 0, .ref qA1, .int 0, .ref qA2, .ref qA3, .ref qA4, .int 0, .ref qA5, .ref qA6, .ref qA7, .ref qA8, .ref qA9, .ref qA10, .ref qA11, .ref qA12, .int 0, .int 0, .ref qA13, .ref qA14, .int 0])) : Option (Nat × va_E)) := hO0
  replace hF := q_us hF hu17 (.head _)
  refine lv_aload_n hx hb d_19_22_30 rfl (lv_at hl 0 rfl) ?_
  refine q_get (ci := 13) (j := 0) (v := .int 0) C0 V i_WR rfl rfl hO0 (by decide) w_1921 rfl d_19_22_31 ?_
  refine lv_if_le (tgt := 38) hx hb d_19_22_34 (by decide) (fun c18 => ?_) (fun c18 => absurd (by decide) c18)
  refine lv_aload_n hx hb d_19_22_38 rfl (lv_at hl 0 rfl) ?_
  refine lv_iconst (v := 2) hx hb d_19_22_39 (by decide) ?_
  refine q_put (ci := 13) (j := 1) (v := .int 2) (ty := .int) C0 V i_WR o_WR n_WR rfl rfl hO0 (by decide) w_1923 rfl rfl rfl rfl (Nat.le_of_ble_eq_true rfl) d_19_22_40 (fun H locs w19 hu20 hO0 V => ?_)
  replace hO0 : w19[kO0]? = (some (qO0, .inr (13, [.int 0, .int 2, .ref qA1, .int 0, .ref qA2, .ref qA3, .ref qA4, .int 0, .ref qA5, .ref qA6, .ref qA7, .ref qA8, .ref qA9, .ref qA10, .ref qA11, .ref qA12, .int 0, .int 0, .ref qA13, .ref qA14, .int 0])) : Option (Nat × va_E)) := hO0
  replace hF := q_us hF hu20 (.head _)
  refine lv_aload_n hx hb d_19_22_43 rfl (lv_at hl 0 rfl) ?_
  refine lv_iload_n hx hb d_19_22_44 rfl (lv_at hl 1 rfl) ?_
  refine lv_aload_n hx hb d_19_22_45 rfl (lv_at hl 0 rfl) ?_
  refine q_get (ci := 13) (j := 12) (v := .ref qA9) C0 V i_WR rfl rfl hO0 (by decide) w_1936 rfl d_19_22_46 ?_
  replace hA9 := (hu20 _ n_A9_O0).trans ((hu17 _ n_A9_O0).trans (hA9))
  replace hA2 := (hu20 _ n_A2_O0).trans ((hu17 _ n_A2_O0).trans (hA2))
  refine q_gov V (q_runV (As := [.int x1, .ref qA9]) (rest := []) (d := 1) (mc := 0) (ms := 0) (ci := 13) C0 V rfl LV_WR_107 (c_WR_take_3 l D g w19 kO0 kA9 kA2 qO0 qA9 qA1 qA2 qA3 qA4 qA5 qA6 qA7 qA8 qA10 qA11 qA12 qA13 qA14 x1 hO0 hA9 hA2 n_A2_A9 x1lo x1hi _) rfl rfl hO0 rfl hl.1 rfl (Nat.le_of_ble_eq_true rfl) ⟨by decide, by decide⟩ ⟨Nat.le_of_ble_eq_true rfl, Nat.le_of_ble_eq_true rfl⟩ d_19_22_49) (fun u22 H locs hp21 V => ?_)
  obtain ⟨hg23, hA9⟩ := hp21
  replace hF := q_uc hF hg23 (q_sc (List.mem_of_getElem? (i := 4) rfl) (fun _ h => absurd h List.not_mem_nil))
  refine lv_aload_n hx hb d_19_22_52 rfl (lv_at hl 0 rfl) ?_
  refine lv_iload_n hx hb d_19_22_53 rfl (lv_at hl 2 rfl) ?_
  refine lv_aload_n hx hb d_19_22_54 rfl (lv_at hl 0 rfl) ?_
  replace hO0 := (hg23 _ (q_nc n_O0_A9 List.not_mem_nil)).trans (hO0)
  refine q_get (ci := 13) (j := 13) (v := .ref qA10) C0 V i_WR rfl rfl hO0 (by decide) w_1937 rfl d_19_22_55 ?_
  replace hA10 := (hg23 _ (q_nc n_A10_A9 List.not_mem_nil)).trans ((hu20 _ n_A10_O0).trans ((hu17 _ n_A10_O0).trans (hA10)))
  replace hA2 := (hg23 _ (q_nc n_A2_A9 List.not_mem_nil)).trans (hA2)
  refine q_gov V (q_runV (As := [.int x2, .ref qA10]) (rest := []) (d := 1) (mc := 0) (ms := 0) (ci := 13) C0 V rfl LV_WR_107 (c_WR_take_4 l D g u22 kO0 kA10 kA2 qO0 qA10 qA1 qA2 qA3 qA4 qA5 qA6 qA7 qA8 qA9 qA11 qA12 qA13 qA14 x2 hO0 hA10 hA2 n_A2_A10 x2lo x2hi _) rfl rfl hO0 rfl hl.1 rfl (Nat.le_of_ble_eq_true rfl) ⟨by decide, by decide⟩ ⟨Nat.le_of_ble_eq_true rfl, Nat.le_of_ble_eq_true rfl⟩ d_19_22_58) (fun u25 H locs hp24 V => ?_)
  obtain ⟨hg26, hA10⟩ := hp24
  replace hF := q_uc hF hg26 (q_sc (List.mem_of_getElem? (i := 5) rfl) (fun _ h => absurd h List.not_mem_nil))
  refine lv_aload_n hx hb d_19_22_61 rfl (lv_at hl 0 rfl) ?_
  refine lv_aload_n hx hb d_19_22_62 rfl (lv_at hl 0 rfl) ?_
  replace hO0 := (hg26 _ (q_nc n_O0_A10 List.not_mem_nil)).trans (hO0)
  refine q_get (ci := 13) (j := 12) (v := .ref qA9) C0 V i_WR rfl rfl hO0 (by decide) w_1936 rfl d_19_22_63 ?_
  refine lv_aload_n hx hb d_19_22_66 rfl (lv_at hl 0 rfl) ?_
  refine q_get (ci := 13) (j := 5) (v := .ref qA3) C0 V i_WR rfl rfl hO0 (by decide) w_1929 rfl d_19_22_67 ?_
  refine lv_iload_n hx hb d_19_22_70 rfl (lv_at hl 1 rfl) ?_
  replace hA3 := (hg26 _ (q_nc n_A3_A10 List.not_mem_nil)).trans ((hg23 _ (q_nc n_A3_A9 List.not_mem_nil)).trans ((hu20 _ n_A3_O0).trans ((hu17 _ n_A3_O0).trans (hA3))))
  refine q_zald C0 V hA3 (q_ix (x := x1.toInt) rfl (by have t1 : 0 ≤ x1.toInt := q_leI x1lo; have t2 : x1.toInt ≤ 9 := q_leI x1hi; omega) (by have t1 : 0 ≤ x1.toInt := q_leI x1lo; have t2 : x1.toInt ≤ 9 := q_leI x1hi; omega)) d_19_22_71 ?_
  refine q_ti (v := 0) (by first | rfl | decide | simp [upd, vp_updL, sb_cl0]) ?_
  refine lv_aload_n hx hb d_19_22_72 rfl (lv_at hl 0 rfl) ?_
  refine q_get (ci := 13) (j := 13) (v := .ref qA10) C0 V i_WR rfl rfl hO0 (by decide) w_1937 rfl d_19_22_73 ?_
  refine lv_aload_n hx hb d_19_22_76 rfl (lv_at hl 0 rfl) ?_
  refine q_get (ci := 13) (j := 5) (v := .ref qA3) C0 V i_WR rfl rfl hO0 (by decide) w_1929 rfl d_19_22_77 ?_
  refine lv_iload_n hx hb d_19_22_80 rfl (lv_at hl 2 rfl) ?_
  refine q_zald C0 V hA3 (q_ix (x := x2.toInt) rfl (by have t1 : 0 ≤ x2.toInt := q_leI x2lo; have t2 : x2.toInt ≤ 9 := q_leI x2hi; omega) (by have t1 : 0 ≤ x2.toInt := q_leI x2lo; have t2 : x2.toInt ≤ 9 := q_leI x2hi; omega)) d_19_22_81 ?_
  refine q_ti (v := 0) (by first | rfl | decide | simp [upd, vp_updL, sb_cl0]) ?_
  refine lv_iload hx hb d_19_22_82 (lv_at hl 4 rfl) ?_
  refine lv_icmp_eq (tgt := 91) hx hb d_19_22_84 (by decide) (fun c27 => absurd c27 (by decide)) (fun c27 => ?_)
  refine lv_iconst (v := 1) hx hb d_19_22_87 (by decide) ?_
  refine lv_goto (tgt := 92) hx hb d_19_22_88 (by decide) ?_
  replace hA9 := (hg26 _ (q_nc n_A9_A10 List.not_mem_nil)).trans (hA9)
  replace hA4 := (hg26 _ (q_nc n_A4_A10 List.not_mem_nil)).trans ((hg23 _ (q_nc n_A4_A9 List.not_mem_nil)).trans ((hu20 _ n_A4_O0).trans ((hu17 _ n_A4_O0).trans (hA4))))
  refine q_gov V (q_runV (As := [.ref qA9, .int 0, .ref qA10, .int 1]) (rest := []) (d := 2) (mc := 0) (ms := 0) (ci := 13) C0 V rfl LV_WR_111 (c_WR_sum_2 l D g u25 kO0 kA9 kA10 kA4 qO0 qA9 qA10 qA1 qA2 qA3 qA4 qA5 qA6 qA7 qA8 qA11 qA12 qA13 qA14 hO0 hA9 hA10 hA4 n_A9_A4 n_A10_A4 _) rfl rfl hO0 rfl hl.1 rfl (Nat.le_of_ble_eq_true rfl) ⟨by decide, by decide⟩ ⟨Nat.le_of_ble_eq_true rfl, Nat.le_of_ble_eq_true rfl⟩ d_19_22_92) (fun u29 H locs hp28 V => ?_)
  obtain ⟨hg30, hO0, hA4⟩ := hp28
  replace hF := q_uc hF hg30 (q_sc (.head _) (q_sc (List.mem_of_getElem? (i := 3) rfl) (fun _ h => absurd h List.not_mem_nil)))
  refine lv_aload_n hx hb d_19_22_95 rfl (lv_at hl 0 rfl) ?_
  refine lv_iload_n hx hb d_19_22_96 rfl (lv_at hl 3 rfl) ?_
  replace hA2 := (hg30 _ (q_nc n_A2_O0 (q_nc n_A2_A4 List.not_mem_nil))).trans ((hg26 _ (q_nc n_A2_A10 List.not_mem_nil)).trans (hA2))
  replace hA3 := (hg30 _ (q_nc n_A3_O0 (q_nc n_A3_A4 List.not_mem_nil))).trans (hA3)
  refine q_gov V (q_runV (As := [.int x3]) (rest := []) (d := 2) (mc := 0) (ms := 0) (ci := 13) C0 V rfl LV_WR_103 (c_WR_store l D g u29 kO0 kA2 kA3 kA4 qO0 qA1 qA2 qA3 qA4 qA5 qA6 qA7 qA8 qA9 qA10 qA11 qA12 qA13 qA14 x3 hO0 hA2 hA3 hA4 n_A2_A3 n_A4_A2 n_A4_A3 x3lo x3hi _) rfl rfl hO0 rfl hl.1 rfl (Nat.le_of_ble_eq_true rfl) ⟨by decide, by decide⟩ ⟨Nat.le_of_ble_eq_true rfl, Nat.le_of_ble_eq_true rfl⟩ d_19_22_97) (fun u32 H locs hp31 V => ?_)
  obtain ⟨hg33, hA2, hA3⟩ := hp31
  replace hF := q_uc hF hg33 (q_sc (.tail _ (.head _)) (q_sc (.tail _ (.tail _ (.head _))) (fun _ h => absurd h List.not_mem_nil)))
  replace hO0 := (hg33 _ (q_nc n_O0_A2 (q_nc n_O0_A3 List.not_mem_nil))).trans (hO0)
  replace hA4 := (hg33 _ (q_nc n_A4_A2 (q_nc n_A4_A3 List.not_mem_nil))).trans (hA4)
  replace hA9 := (hg33 _ (q_nc n_A9_A2 (q_nc n_A9_A3 List.not_mem_nil))).trans ((hg30 _ (q_nc n_A9_O0 (q_nc n_A9_A4 List.not_mem_nil))).trans (hA9))
  replace hA10 := (hg33 _ (q_nc n_A10_A2 (q_nc n_A10_A3 List.not_mem_nil))).trans ((hg30 _ (q_nc n_A10_O0 (q_nc n_A10_A4 List.not_mem_nil))).trans (hA10))
  exact q_retv C0 V (⟨hF, hO0, hA2, hA3, hA4, hA9, hA10⟩) d_19_22_100
theorem d_19_4_0 : decode prog_19_method_4_code 0 = .ok (.iconst 0, 1) := by decide +kernel
theorem d_19_4_1 : decode prog_19_method_4_code 1 = .ok (.istore_n 1, 1) := by decide +kernel
theorem d_19_4_2 : decode prog_19_method_4_code 2 = .ok (.iload_n 1, 1) := by decide +kernel
theorem d_19_4_3 : decode prog_19_method_4_code 3 = .ok (.aload_n 0, 1) := by decide +kernel
theorem d_19_4_4 : decode prog_19_method_4_code 4 = .ok (.arraylength, 1) := by decide +kernel
theorem d_19_4_5 : decode prog_19_method_4_code 5 = .ok (.if_icmp .ge 13, 3) := by decide +kernel
theorem d_19_4_18 : decode prog_19_method_4_code 18 = .ok (.return_, 1) := by decide +kernel
theorem d_19_4_8 : decode prog_19_method_4_code 8 = .ok (.aload_n 0, 1) := by decide +kernel
theorem d_19_4_9 : decode prog_19_method_4_code 9 = .ok (.iload_n 1, 1) := by decide +kernel
theorem d_19_4_10 : decode prog_19_method_4_code 10 = .ok (.iconst 0, 1) := by decide +kernel
theorem d_19_4_11 : decode prog_19_method_4_code 11 = .ok (.iastore, 1) := by decide +kernel
theorem d_19_4_12 : decode prog_19_method_4_code 12 = .ok (.iinc 1 1, 3) := by decide +kernel
theorem d_19_4_15 : decode prog_19_method_4_code 15 = .ok (.goto (-13), 3) := by decide +kernel
def y_WR_clear : MethodName := ⟨"NumberHouseModel$WholeRows", "clear", "([I)V"⟩
set_option maxRecDepth 100000 in
set_option maxHeartbeats 4000000 in
theorem c_WR_clear (l : Launch) (D : va_G) (g : Nat → ClassId) (ws : va_W) (kA0 qA0 : Nat) (hA0 : ws[kA0]? = (some (qA0, .inl (g 0, 528, .inl (fun _ => 0))) : Option (Nat × va_E))) : q_mV l y_WR_clear prog_19_method_4_code 2 1 0 0 D g [.ref qA0] ws (fun u => q_un ws u [kA0] ∧ u[kA0]? = (some (qA0, .inl (g 0, 528, .inl (fun _ => 0))) : Option (Nat × va_E))) := by
  intro sz
  refine q_into (by decide) (Nat.le_of_ble_eq_true rfl) ?_
  intro p e s m below meth c ls hsz C0 V hl
  have hx := C0.1
  have hb := C0.2.1
  have hl : lv_has ls 2 [(0, .ref qA0)] := hl
  have hF : q_un ws ws [kA0] := q_u0
  refine lv_iconst (v := 0) hx hb d_19_4_0 (by decide) ?_
  refine lv_istore_n (lv' := [(1, .int 0), (0, .ref qA0)]) hx hb d_19_4_1 rfl hl (by decide) rfl (fun ls hl => ?_)
  refine q_loop (X := Int32) (fun z H locs ls w2 => (0 ≤ z.toInt ∧ (z.toInt ≤ 528 ∨ z.toInt = 0)) ∧ q_Wd D g (va_A ws sz) s w2 H locs ∧ lv_has ls 2 [(1, .int z), (0, .ref qA0)] ∧ q_un ws w2 [kA0] ∧ w2[kA0]? = (some (qA0, .inl (g 0, 528, .inl (fun _ => 0))) : Option (Nat × va_E))) (fun z => (528 - z.toInt).toNat) ?_ ((0 : Int32)) _ _ _ ws ⟨⟨by decide, Or.inr (by decide)⟩, V, hl, hF, hA0⟩
  rintro lx1 H locs ls w2 ⟨i3, V, hl, hF, hA0⟩ ih4
  replace i3 : 0 ≤ lx1.toInt ∧ (lx1.toInt ≤ 528 ∨ lx1.toInt = 0) := i3
  replace hl : lv_has ls 2 [(1, .int lx1), (0, .ref qA0)] := hl
  replace hA0 : w2[kA0]? = (some (qA0, .inl (g 0, 528, .inl (fun _ => 0))) : Option (Nat × va_E)) := hA0
  refine lv_iload_n hx hb d_19_4_2 rfl (lv_at hl 0 rfl) ?_
  refine lv_aload_n hx hb d_19_4_3 rfl (lv_at hl 1 rfl) ?_
  refine q_alen (t := 0) (v := 528) C0 V hA0 rfl (by first | rfl | decide) d_19_4_4 ?_
  refine lv_icmp_ge (tgt := 18) hx hb d_19_4_5 (by decide) (fun c5 => ?_) (fun c5 => ?_)
  ·
    exact q_retv C0 V (⟨hF, hA0⟩) d_19_4_18
  ·
    refine lv_aload_n hx hb d_19_4_8 rfl (lv_at hl 1 rfl) ?_
    refine lv_iload_n hx hb d_19_4_9 rfl (lv_at hl 0 rfl) ?_
    refine lv_iconst (v := 0) hx hb d_19_4_10 (by decide) ?_
    refine q_iast C0 V hA0 (q_ix (x := lx1.toInt) rfl (by have t1 : lx1.toInt < 528 := q_nleI c5; omega) (by have t1 : lx1.toInt < 528 := q_nleI c5; omega)) d_19_4_11 (fun H locs w6 hu7 hA0 V => ?_)
    replace hA0 := q_re (y := (qA0, .inl (g 0, 528, .inl (fun _ => 0)))) hA0 (q_eI q_upd0)
    replace hA0 : w6[kA0]? = (some (qA0, .inl (g 0, 528, .inl (fun _ => 0))) : Option (Nat × va_E)) := hA0
    replace hF := q_us hF hu7 (.head _)
    refine lv_iinc (v := lx1 + 1) (lv' := [(1, .int (lx1 + 1)), (0, .ref qA0)]) hx hb d_19_4_12 hl (k := 0) rfl (rfl) (by decide) rfl (fun ls hl => ?_)
    refine lv_goto (tgt := 2) hx hb d_19_4_15 (by decide) ?_
    exact ih4 ((lx1 + 1 : Int32)) _ _ _ _ (show (528 - (lx1 + 1).toInt).toNat < (528 - lx1.toInt).toNat from by have t1 : lx1.toInt < 528 := q_nleI c5; have e : (lx1 + 1).toInt = (lx1.toInt + 1) := (q_addI (x := lx1.toInt) (y := 1) rfl (by decide) (by have t1 : lx1.toInt < 528 := q_nleI c5; omega) (by have t1 : lx1.toInt < 528 := q_nleI c5; omega)); omega) ⟨(show 0 ≤ (lx1 + 1).toInt ∧ ((lx1 + 1).toInt ≤ 528 ∨ (lx1 + 1).toInt = 0) from by have t1 : lx1.toInt < 528 := q_nleI c5; have e : (lx1 + 1).toInt = (lx1.toInt + 1) := (q_addI (x := lx1.toInt) (y := 1) rfl (by decide) (by have t1 : lx1.toInt < 528 := q_nleI c5; omega) (by have t1 : lx1.toInt < 528 := q_nleI c5; omega)); omega), V, q_lw hl (q_lw1 0 rfl (q_lw1 1 rfl q_lw0)), hF, hA0⟩
set_option maxRecDepth 100000 in
set_option maxHeartbeats 4000000 in
theorem c_WR_copy_2 (l : Launch) (D : va_G) (g : Nat → ClassId) (ws : va_W) (kA0 kA1 qA0 qA1 : Nat) (hA0 : ws[kA0]? = (some (qA0, .inl (g 0, 528, .inl (fun _ => 0))) : Option (Nat × va_E))) (hA1 : ws[kA1]? = (some (qA1, .inl (g 0, 264, .inl (fun _ => 0))) : Option (Nat × va_E))) (n_A0_A1 : kA0 ≠ kA1) : q_mV l y_WR_copy prog_19_method_5_code 3 1 0 0 D g [.ref qA0, .ref qA1] ws (fun u => q_un ws u [kA1] ∧ u[kA1]? = (some (qA1, .inl (g 0, 264, .inl (fun _ => 0))) : Option (Nat × va_E))) := by
  intro sz
  refine q_into (by decide) (Nat.le_of_ble_eq_true rfl) ?_
  intro p e s m below meth c ls hsz C0 V hl
  have hx := C0.1
  have hb := C0.2.1
  have hl : lv_has ls 3 [(0, .ref qA0), (1, .ref qA1)] := hl
  have hF : q_un ws ws [kA1] := q_u0
  refine lv_iconst (v := 0) hx hb d_19_5_0 (by decide) ?_
  refine lv_istore_n (lv' := [(2, .int 0), (0, .ref qA0), (1, .ref qA1)]) hx hb d_19_5_1 rfl hl (by decide) rfl (fun ls hl => ?_)
  refine q_loop (X := Int32) (fun z H locs ls w2 => (0 ≤ z.toInt ∧ (z.toInt ≤ 264 ∨ z.toInt = 0)) ∧ q_Wd D g (va_A ws sz) s w2 H locs ∧ lv_has ls 3 [(2, .int z), (0, .ref qA0), (1, .ref qA1)] ∧ q_un ws w2 [kA1] ∧ w2[kA0]? = (some (qA0, .inl (g 0, 528, .inl (fun _ => 0))) : Option (Nat × va_E)) ∧ w2[kA1]? = (some (qA1, .inl (g 0, 264, .inl (fun _ => 0))) : Option (Nat × va_E))) (fun z => (264 - z.toInt).toNat) ?_ ((0 : Int32)) _ _ _ ws ⟨⟨by decide, Or.inr (by decide)⟩, V, hl, hF, hA0, hA1⟩
  rintro lx1 H locs ls w2 ⟨i3, V, hl, hF, hA0, hA1⟩ ih4
  replace i3 : 0 ≤ lx1.toInt ∧ (lx1.toInt ≤ 264 ∨ lx1.toInt = 0) := i3
  replace hl : lv_has ls 3 [(2, .int lx1), (0, .ref qA0), (1, .ref qA1)] := hl
  replace hA0 : w2[kA0]? = (some (qA0, .inl (g 0, 528, .inl (fun _ => 0))) : Option (Nat × va_E)) := hA0
  replace hA1 : w2[kA1]? = (some (qA1, .inl (g 0, 264, .inl (fun _ => 0))) : Option (Nat × va_E)) := hA1
  refine lv_iload_n hx hb d_19_5_2 rfl (lv_at hl 0 rfl) ?_
  refine lv_aload_n hx hb d_19_5_3 rfl (lv_at hl 2 rfl) ?_
  refine q_alen (t := 0) (v := 264) C0 V hA1 rfl (by first | rfl | decide) d_19_5_4 ?_
  refine lv_icmp_ge (tgt := 30) hx hb d_19_5_5 (by decide) (fun c5 => ?_) (fun c5 => ?_)
  ·
    exact q_retv C0 V (⟨hF, hA1⟩) d_19_5_30
  ·
    refine lv_aload_n hx hb d_19_5_8 rfl (lv_at hl 2 rfl) ?_
    refine lv_iload_n hx hb d_19_5_9 rfl (lv_at hl 0 rfl) ?_
    refine lv_iload_n hx hb d_19_5_10 rfl (lv_at hl 0 rfl) ?_
    refine lv_aload_n hx hb d_19_5_11 rfl (lv_at hl 1 rfl) ?_
    refine q_alen (t := 0) (v := 528) C0 V hA0 rfl (by first | rfl | decide) d_19_5_12 ?_
    refine lv_icmp_ge (tgt := 22) hx hb d_19_5_13 (by decide) (fun c6 => absurd c6 (Int32.not_le.mpr (q_Ilt (x := lx1.toInt) (y := 528) rfl (by decide) (by have t1 : lx1.toInt < 264 := q_nleI c5; omega)))) (fun c6 => ?_)
    refine lv_aload_n hx hb d_19_5_16 rfl (lv_at hl 1 rfl) ?_
    refine lv_iload_n hx hb d_19_5_17 rfl (lv_at hl 0 rfl) ?_
    refine q_iald C0 V hA0 (q_ix (x := lx1.toInt) rfl (by have t1 : lx1.toInt < 264 := q_nleI c5; omega) (by have t1 : lx1.toInt < 264 := q_nleI c5; omega)) d_19_5_18 ?_
    refine q_ti (v := 0) (by first | rfl | decide | simp [upd, vp_updL, sb_cl0]) ?_
    refine lv_goto (tgt := 23) hx hb d_19_5_19 (by decide) ?_
    refine q_iast C0 V hA1 (q_ix (x := lx1.toInt) rfl (by have t1 : lx1.toInt < 264 := q_nleI c5; omega) (by have t1 : lx1.toInt < 264 := q_nleI c5; omega)) d_19_5_23 (fun H locs w7 hu8 hA1 V => ?_)
    replace hA1 := q_re (y := (qA1, .inl (g 0, 264, .inl (fun _ => 0)))) hA1 (q_eI q_upd0)
    replace hA1 : w7[kA1]? = (some (qA1, .inl (g 0, 264, .inl (fun _ => 0))) : Option (Nat × va_E)) := hA1
    replace hF := q_us hF hu8 (.head _)
    refine lv_iinc (v := lx1 + 1) (lv' := [(2, .int (lx1 + 1)), (0, .ref qA0), (1, .ref qA1)]) hx hb d_19_5_24 hl (k := 0) rfl (rfl) (by decide) rfl (fun ls hl => ?_)
    refine lv_goto (tgt := 2) hx hb d_19_5_27 (by decide) ?_
    replace hA0 := (hu8 _ n_A0_A1).trans (hA0)
    exact ih4 ((lx1 + 1 : Int32)) _ _ _ _ (show (264 - (lx1 + 1).toInt).toNat < (264 - lx1.toInt).toNat from by have t1 : lx1.toInt < 264 := q_nleI c5; have e : (lx1 + 1).toInt = (lx1.toInt + 1) := (q_addI (x := lx1.toInt) (y := 1) rfl (by decide) (by have t1 : lx1.toInt < 264 := q_nleI c5; omega) (by have t1 : lx1.toInt < 264 := q_nleI c5; omega)); omega) ⟨(show 0 ≤ (lx1 + 1).toInt ∧ ((lx1 + 1).toInt ≤ 264 ∨ (lx1 + 1).toInt = 0) from by have t1 : lx1.toInt < 264 := q_nleI c5; have e : (lx1 + 1).toInt = (lx1.toInt + 1) := (q_addI (x := lx1.toInt) (y := 1) rfl (by decide) (by have t1 : lx1.toInt < 264 := q_nleI c5; omega) (by have t1 : lx1.toInt < 264 := q_nleI c5; omega)); omega), V, q_lw hl (q_lw1 0 rfl (q_lw1 1 rfl (q_lw1 2 rfl q_lw0))), hF, hA0, hA1⟩
theorem d_19_13_0 : decode prog_19_method_13_code 0 = .ok (.aload_n 0, 1) := by decide +kernel
theorem d_19_13_1 : decode prog_19_method_13_code 1 = .ok (.getfield 26, 3) := by decide +kernel
theorem d_19_13_4 : decode prog_19_method_13_code 4 = .ok (.invokestatic 63, 3) := by decide +kernel
theorem w_2377 : (Cond.code ({ cls := "NumberHouseModel$WholeRows", name := "clear", desc := "([I)V" } : MethodName) prog_19_method_4_code (2 : Nat) (none : Option ClassFile.FieldType)) ∈ q_tbl := q_of 2377 (by decide +kernel) (by decide +kernel)
theorem w_2375 : (Cond.methodLink "NumberHouseModel$WholeRows" (63 : Nat) ({ cls := "NumberHouseModel$WholeRows", name := "clear", desc := "([I)V" } : MethodName)) ∈ q_tbl := q_of 2375 (by decide +kernel) (by decide +kernel)
theorem w_2376 : (Cond.static ({ cls := "NumberHouseModel$WholeRows", name := "clear", desc := "([I)V" } : MethodName)) ∈ q_tbl := q_of 2376 (by decide +kernel) (by decide +kernel)
theorem LS_WR_63 : q_LS "NumberHouseModel$WholeRows" 63 y_WR_clear prog_19_method_4_code 2 none 1 := ⟨w_2377, w_15, w_2375, w_2376, ⟨by decide, by decide, by decide +kernel⟩⟩
theorem d_19_13_7 : decode prog_19_method_13_code 7 = .ok (.aload_n 1, 1) := by decide +kernel
theorem d_19_13_8 : decode prog_19_method_13_code 8 = .ok (.invokestatic 59, 3) := by decide +kernel
theorem d_19_13_11 : decode prog_19_method_13_code 11 = .ok (.istore 4, 2) := by decide +kernel
theorem d_19_13_13 : decode prog_19_method_13_code 13 = .ok (.aload_n 2, 1) := by decide +kernel
theorem d_19_13_14 : decode prog_19_method_13_code 14 = .ok (.invokestatic 59, 3) := by decide +kernel
theorem d_19_13_17 : decode prog_19_method_13_code 17 = .ok (.istore 5, 2) := by decide +kernel
theorem d_19_13_19 : decode prog_19_method_13_code 19 = .ok (.iconst 0, 1) := by decide +kernel
theorem d_19_13_20 : decode prog_19_method_13_code 20 = .ok (.istore 6, 2) := by decide +kernel
theorem d_19_13_22 : decode prog_19_method_13_code 22 = .ok (.iload 6, 2) := by decide +kernel
theorem d_19_13_24 : decode prog_19_method_13_code 24 = .ok (.iload 4, 2) := by decide +kernel
theorem d_19_13_26 : decode prog_19_method_13_code 26 = .ok (.if_icmp .ge 98, 3) := by decide +kernel
theorem d_19_13_124 : decode prog_19_method_13_code 124 = .ok (.aload_n 0, 1) := by decide +kernel
theorem d_19_13_125 : decode prog_19_method_13_code 125 = .ok (.getfield 26, 3) := by decide +kernel
theorem d_19_13_128 : decode prog_19_method_13_code 128 = .ok (.aload_n 3, 1) := by decide +kernel
theorem d_19_13_129 : decode prog_19_method_13_code 129 = .ok (.invokestatic 67, 3) := by decide +kernel
theorem d_19_13_132 : decode prog_19_method_13_code 132 = .ok (.return_, 1) := by decide +kernel
def y_WR_multiplyRows : MethodName := ⟨"NumberHouseModel$WholeRows", "multiplyRows", "([I[I[I)V"⟩
set_option maxRecDepth 100000 in
set_option maxHeartbeats 4000000 in
theorem c_WR_multiplyRows (l : Launch) (D : va_G) (g : Nat → ClassId) (ws : va_W) (kO0 kA1 kA2 kA3 kA8 qO0 qA1 qA2 qA3 qA4 qA5 qA6 qA7 qA8 qA9 qA10 qA11 qA12 qA13 qA14 : Nat) (hO0 : ws[kO0]? = (some (qO0, .inr (13, [.int 0, .int 2, .ref qA4, .int 0, .ref qA5, .ref qA6, .ref qA3, .int 0, .ref qA7, .ref qA8, .ref qA9, .ref qA10, .ref qA1, .ref qA2, .ref qA11, .ref qA12, .int 0, .int 0, .ref qA13, .ref qA14, .int 0])) : Option (Nat × va_E))) (hA1 : ws[kA1]? = (some (qA1, .inl (g 0, 264, .inl (fun _ => 0))) : Option (Nat × va_E))) (hA2 : ws[kA2]? = (some (qA2, .inl (g 0, 264, .inl (fun _ => 0))) : Option (Nat × va_E))) (hA3 : ws[kA3]? = (some (qA3, .inl (g 0, 264, .inl (fun _ => 0))) : Option (Nat × va_E))) (hA8 : ws[kA8]? = (some (qA8, .inl (g 0, 528, .inl (fun _ => 0))) : Option (Nat × va_E))) (n_A1_A3 : kA1 ≠ kA3) (n_A1_A8 : kA1 ≠ kA8) (n_A2_A3 : kA2 ≠ kA3) (n_A2_A8 : kA2 ≠ kA8) (n_A3_A8 : kA3 ≠ kA8) : q_mV l y_WR_multiplyRows prog_19_method_13_code 10 2 0 0 D g [.ref qO0, .ref qA1, .ref qA2, .ref qA3] ws (fun u => q_un ws u [kA3, kA8] ∧ u[kA3]? = (some (qA3, .inl (g 0, 264, .inl (fun _ => 0))) : Option (Nat × va_E)) ∧ u[kA8]? = (some (qA8, .inl (g 0, 528, .inl (fun _ => 0))) : Option (Nat × va_E))) := by
  intro sz
  refine q_into (by decide) (Nat.le_of_ble_eq_true rfl) ?_
  intro p e s m below meth c ls hsz C0 V hl
  have hx := C0.1
  have hb := C0.2.1
  have hl : lv_has ls 10 [(0, .ref qO0), (1, .ref qA1), (2, .ref qA2), (3, .ref qA3)] := hl
  have n_A8_A3 := Ne.symm n_A3_A8
  have n_O0_A3 := Ne.symm (q_df hA3 hO0)
  have n_O0_A8 := Ne.symm (q_df hA8 hO0)
  have hF : q_un ws ws [kA3, kA8] := q_u0
  refine lv_aload_n hx hb d_19_13_0 rfl (lv_at hl 0 rfl) ?_
  refine q_get (ci := 13) (j := 9) (v := .ref qA8) C0 V i_WR rfl rfl hO0 (by decide) w_1933 rfl d_19_13_1 ?_
  refine q_gov V (q_runS (As := [.ref qA8]) (rest := []) (d := 1) (mc := 0) (ms := 0) C0 V rfl LS_WR_63 (c_WR_clear l D g ws kA8 qA8 hA8 _) rfl hl.1 rfl (Nat.le_of_ble_eq_true rfl) ⟨by decide, by decide⟩ ⟨Nat.le_of_ble_eq_true rfl, Nat.le_of_ble_eq_true rfl⟩ d_19_13_4) (fun u2 H locs hp1 V => ?_)
  obtain ⟨hg3, hA8⟩ := hp1
  replace hF := q_uc hF hg3 (q_sc (.tail _ (.head _)) (fun _ h => absurd h List.not_mem_nil))
  refine lv_aload_n hx hb d_19_13_7 rfl (lv_at hl 1 rfl) ?_
  replace hA1 := (hg3 _ (q_nc n_A1_A8 List.not_mem_nil)).trans (hA1)
  refine q_goi V (q_runS (As := [.ref qA1]) (rest := []) (d := 1) (mc := 0) (ms := 0) C0 V rfl LS_WR_59 (c_WR_size l D g u2 kA1 qA1 hA1 _) rfl hl.1 rfl (Nat.le_of_ble_eq_true rfl) ⟨by decide, by decide⟩ ⟨Nat.le_of_ble_eq_true rfl, Nat.le_of_ble_eq_true rfl⟩ d_19_13_8) (fun v6 u5 H locs hp4 V => ?_)
  obtain ⟨rfl, rfl⟩ := hp4
  refine lv_istore (lv' := [(4, .int 0), (0, .ref qO0), (1, .ref qA1), (2, .ref qA2), (3, .ref qA3)]) hx hb d_19_13_11 hl (by decide) rfl (fun ls hl => ?_)
  refine lv_aload_n hx hb d_19_13_13 rfl (lv_at hl 3 rfl) ?_
  replace hA2 := (hg3 _ (q_nc n_A2_A8 List.not_mem_nil)).trans (hA2)
  refine q_goi V (q_runS (As := [.ref qA2]) (rest := []) (d := 1) (mc := 0) (ms := 0) C0 V rfl LS_WR_59 (c_WR_size l D g u2 kA2 qA2 hA2 _) rfl hl.1 rfl (Nat.le_of_ble_eq_true rfl) ⟨by decide, by decide⟩ ⟨Nat.le_of_ble_eq_true rfl, Nat.le_of_ble_eq_true rfl⟩ d_19_13_14) (fun v10 u9 H locs hp8 V => ?_)
  obtain ⟨rfl, rfl⟩ := hp8
  refine lv_istore (lv' := [(5, .int 0), (4, .int 0), (0, .ref qO0), (1, .ref qA1), (2, .ref qA2), (3, .ref qA3)]) hx hb d_19_13_17 hl (by decide) rfl (fun ls hl => ?_)
  refine lv_iconst (v := 0) hx hb d_19_13_19 (by decide) ?_
  refine lv_istore (lv' := [(6, .int 0), (5, .int 0), (4, .int 0), (0, .ref qO0), (1, .ref qA1), (2, .ref qA2), (3, .ref qA3)]) hx hb d_19_13_20 hl (by decide) rfl (fun ls hl => ?_)
  refine lv_iload hx hb d_19_13_22 (lv_at hl 0 rfl) ?_
  refine lv_iload hx hb d_19_13_24 (lv_at hl 2 rfl) ?_
  refine lv_icmp_ge (tgt := 124) hx hb d_19_13_26 (by decide) (fun c12 => ?_) (fun c12 => absurd (by decide) c12)
  refine lv_aload_n hx hb d_19_13_124 rfl (lv_at hl 3 rfl) ?_
  replace hO0 := (hg3 _ (q_nc n_O0_A8 List.not_mem_nil)).trans (hO0)
  refine q_get (ci := 13) (j := 9) (v := .ref qA8) C0 V i_WR rfl rfl hO0 (by decide) w_1933 rfl d_19_13_125 ?_
  refine lv_aload_n hx hb d_19_13_128 rfl (lv_at hl 6 rfl) ?_
  replace hA3 := (hg3 _ (q_nc n_A3_A8 List.not_mem_nil)).trans (hA3)
  refine q_gov V (q_runS (As := [.ref qA8, .ref qA3]) (rest := []) (d := 1) (mc := 0) (ms := 0) C0 V rfl LS_WR_67 (c_WR_copy_2 l D g u2 kA8 kA3 qA8 qA3 hA8 hA3 n_A8_A3 _) rfl hl.1 rfl (Nat.le_of_ble_eq_true rfl) ⟨by decide, by decide⟩ ⟨Nat.le_of_ble_eq_true rfl, Nat.le_of_ble_eq_true rfl⟩ d_19_13_129) (fun u14 H locs hp13 V => ?_)
  obtain ⟨hg15, hA3⟩ := hp13
  replace hF := q_uc hF hg15 (q_sc (.head _) (fun _ h => absurd h List.not_mem_nil))
  replace hA8 := (hg15 _ (q_nc n_A8_A3 List.not_mem_nil)).trans (hA8)
  exact q_retv C0 V (⟨hF, hA3, hA8⟩) d_19_13_132
theorem d_19_23_0 : decode prog_19_method_23_code 0 = .ok (.aload_n 0, 1) := by decide +kernel
theorem d_19_23_1 : decode prog_19_method_23_code 1 = .ok (.iload_n 1, 1) := by decide +kernel
theorem d_19_23_2 : decode prog_19_method_23_code 2 = .ok (.invokestatic 91, 3) := by decide +kernel
theorem d_19_23_5 : decode prog_19_method_23_code 5 = .ok (.ifCond .ne 17, 3) := by decide +kernel
theorem d_19_23_8 : decode prog_19_method_23_code 8 = .ok (.iload_n 2, 1) := by decide +kernel
theorem d_19_23_9 : decode prog_19_method_23_code 9 = .ok (.invokestatic 91, 3) := by decide +kernel
theorem d_19_23_12 : decode prog_19_method_23_code 12 = .ok (.ifCond .ne 10, 3) := by decide +kernel
theorem d_19_23_15 : decode prog_19_method_23_code 15 = .ok (.iload_n 3, 1) := by decide +kernel
theorem d_19_23_16 : decode prog_19_method_23_code 16 = .ok (.invokestatic 91, 3) := by decide +kernel
theorem d_19_23_19 : decode prog_19_method_23_code 19 = .ok (.ifCond .eq 7, 3) := by decide +kernel
theorem d_19_23_26 : decode prog_19_method_23_code 26 = .ok (.iconst 0, 1) := by decide +kernel
theorem d_19_23_27 : decode prog_19_method_23_code 27 = .ok (.putfield 53, 3) := by decide +kernel
theorem d_19_23_30 : decode prog_19_method_23_code 30 = .ok (.aload_n 0, 1) := by decide +kernel
theorem d_19_23_31 : decode prog_19_method_23_code 31 = .ok (.getfield 53, 3) := by decide +kernel
theorem d_19_23_34 : decode prog_19_method_23_code 34 = .ok (.ifCond .le 4, 3) := by decide +kernel
theorem d_19_23_38 : decode prog_19_method_23_code 38 = .ok (.aload_n 0, 1) := by decide +kernel
theorem d_19_23_39 : decode prog_19_method_23_code 39 = .ok (.iconst 2, 1) := by decide +kernel
theorem d_19_23_40 : decode prog_19_method_23_code 40 = .ok (.putfield 79, 3) := by decide +kernel
theorem d_19_23_43 : decode prog_19_method_23_code 43 = .ok (.aload_n 0, 1) := by decide +kernel
theorem d_19_23_44 : decode prog_19_method_23_code 44 = .ok (.iload_n 1, 1) := by decide +kernel
theorem d_19_23_45 : decode prog_19_method_23_code 45 = .ok (.aload_n 0, 1) := by decide +kernel
theorem d_19_23_46 : decode prog_19_method_23_code 46 = .ok (.getfield 35, 3) := by decide +kernel
theorem d_19_23_49 : decode prog_19_method_23_code 49 = .ok (.invokevirtual 107, 3) := by decide +kernel
theorem d_19_23_52 : decode prog_19_method_23_code 52 = .ok (.aload_n 0, 1) := by decide +kernel
theorem d_19_23_53 : decode prog_19_method_23_code 53 = .ok (.iload_n 2, 1) := by decide +kernel
theorem d_19_23_54 : decode prog_19_method_23_code 54 = .ok (.aload_n 0, 1) := by decide +kernel
theorem d_19_23_55 : decode prog_19_method_23_code 55 = .ok (.getfield 38, 3) := by decide +kernel
theorem d_19_23_58 : decode prog_19_method_23_code 58 = .ok (.invokevirtual 107, 3) := by decide +kernel
theorem d_19_23_61 : decode prog_19_method_23_code 61 = .ok (.aload_n 0, 1) := by decide +kernel
theorem d_19_23_62 : decode prog_19_method_23_code 62 = .ok (.aload_n 0, 1) := by decide +kernel
theorem d_19_23_63 : decode prog_19_method_23_code 63 = .ok (.getfield 35, 3) := by decide +kernel
theorem d_19_23_66 : decode prog_19_method_23_code 66 = .ok (.aload_n 0, 1) := by decide +kernel
theorem d_19_23_67 : decode prog_19_method_23_code 67 = .ok (.getfield 38, 3) := by decide +kernel
theorem d_19_23_70 : decode prog_19_method_23_code 70 = .ok (.aload_n 0, 1) := by decide +kernel
theorem d_19_23_71 : decode prog_19_method_23_code 71 = .ok (.getfield 20, 3) := by decide +kernel
theorem d_19_23_74 : decode prog_19_method_23_code 74 = .ok (.invokevirtual 115, 3) := by decide +kernel
theorem w_2703 : (Cond.code ({ cls := "NumberHouseModel$WholeRows", name := "multiplyRows", desc := "([I[I[I)V" } : MethodName) prog_19_method_13_code (10 : Nat) (none : Option ClassFile.FieldType)) ∈ q_tbl := q_of 2703 (by decide +kernel) (by decide +kernel)
theorem w_2700 : (Cond.methodLink "NumberHouseModel$WholeRows" (115 : Nat) ({ cls := "NumberHouseModel$WholeRows", name := "multiplyRows", desc := "([I[I[I)V" } : MethodName)) ∈ q_tbl := q_of 2700 (by decide +kernel) (by decide +kernel)
theorem w_2702 : (Cond.instanceMethod ({ cls := "NumberHouseModel$WholeRows", name := "multiplyRows", desc := "([I[I[I)V" } : MethodName)) ∈ q_tbl := q_of 2702 (by decide +kernel) (by decide +kernel)
theorem ws_103 : Cond.selects "NumberHouseModel$WholeRows" (⟨"NumberHouseModel$WholeRows", "multiplyRows", "([I[I[I)V"⟩ : MethodName) (⟨"NumberHouseModel$WholeRows", "multiplyRows", "([I[I[I)V"⟩ : MethodName) ∈ q_tbl := q_ofs 103 (by decide +kernel) (by decide +kernel)
theorem LV_WR_115 : q_LV "NumberHouseModel$WholeRows" 115 y_WR_multiplyRows prog_19_method_13_code 10 none 3 := ⟨w_2703, w_15, w_2700, w_2702, ws_103, ⟨by decide, by decide, by decide +kernel⟩⟩
theorem d_19_23_77 : decode prog_19_method_23_code 77 = .ok (.aload_n 0, 1) := by decide +kernel
theorem d_19_23_78 : decode prog_19_method_23_code 78 = .ok (.aload_n 0, 1) := by decide +kernel
theorem d_19_23_79 : decode prog_19_method_23_code 79 = .ok (.getfield 16, 3) := by decide +kernel
theorem d_19_23_82 : decode prog_19_method_23_code 82 = .ok (.iload_n 1, 1) := by decide +kernel
theorem d_19_23_83 : decode prog_19_method_23_code 83 = .ok (.baload, 1) := by decide +kernel
theorem d_19_23_84 : decode prog_19_method_23_code 84 = .ok (.aload_n 0, 1) := by decide +kernel
theorem d_19_23_85 : decode prog_19_method_23_code 85 = .ok (.getfield 16, 3) := by decide +kernel
theorem d_19_23_88 : decode prog_19_method_23_code 88 = .ok (.iload_n 2, 1) := by decide +kernel
theorem d_19_23_89 : decode prog_19_method_23_code 89 = .ok (.baload, 1) := by decide +kernel
theorem d_19_23_90 : decode prog_19_method_23_code 90 = .ok (.if_icmp .eq 7, 3) := by decide +kernel
theorem d_19_23_97 : decode prog_19_method_23_code 97 = .ok (.iconst 0, 1) := by decide +kernel
theorem d_19_23_98 : decode prog_19_method_23_code 98 = .ok (.putfield 82, 3) := by decide +kernel
theorem d_19_23_101 : decode prog_19_method_23_code 101 = .ok (.aload_n 0, 1) := by decide +kernel
theorem d_19_23_102 : decode prog_19_method_23_code 102 = .ok (.iload_n 3, 1) := by decide +kernel
theorem d_19_23_103 : decode prog_19_method_23_code 103 = .ok (.invokevirtual 103, 3) := by decide +kernel
theorem d_19_23_106 : decode prog_19_method_23_code 106 = .ok (.return_, 1) := by decide +kernel
def y_WR_multiply : MethodName := ⟨"NumberHouseModel$WholeRows", "multiply", "(III)V"⟩
set_option maxRecDepth 100000 in
set_option maxHeartbeats 4000000 in
theorem c_WR_multiply (l : Launch) (D : va_G) (g : Nat → ClassId) (ws : va_W) (kO0 kA2 kA3 kA4 kA6 kA9 kA10 qO0 qA1 qA2 qA3 qA4 qA5 qA6 qA7 qA8 qA9 qA10 qA11 qA12 qA13 qA14 : Nat) (x1 : Int32) (x2 : Int32) (x3 : Int32) (hO0 : ws[kO0]? = (some (qO0, .inr (13, [.int 0, .int 0, .ref qA1, .int 0, .ref qA2, .ref qA3, .ref qA4, .int 0, .ref qA5, .ref qA6, .ref qA7, .ref qA8, .ref qA9, .ref qA10, .ref qA11, .ref qA12, .int 0, .int 0, .ref qA13, .ref qA14, .int 0])) : Option (Nat × va_E))) (hA2 : ws[kA2]? = (some (qA2, .inl (g 0, 1408, .inl (fun _ => 0))) : Option (Nat × va_E))) (hA3 : ws[kA3]? = (some (qA3, .inl (g 3, 11, .inl (fun _ => 0))) : Option (Nat × va_E))) (hA4 : ws[kA4]? = (some (qA4, .inl (g 0, 264, .inl (fun _ => 0))) : Option (Nat × va_E))) (hA6 : ws[kA6]? = (some (qA6, .inl (g 0, 528, .inl (fun _ => 0))) : Option (Nat × va_E))) (hA9 : ws[kA9]? = (some (qA9, .inl (g 0, 264, .inl (fun _ => 0))) : Option (Nat × va_E))) (hA10 : ws[kA10]? = (some (qA10, .inl (g 0, 264, .inl (fun _ => 0))) : Option (Nat × va_E))) (n_A10_A2 : kA10 ≠ kA2) (n_A10_A3 : kA10 ≠ kA3) (n_A10_A4 : kA10 ≠ kA4) (n_A10_A6 : kA10 ≠ kA6) (n_A10_A9 : kA10 ≠ kA9) (n_A2_A3 : kA2 ≠ kA3) (n_A2_A4 : kA2 ≠ kA4) (n_A2_A6 : kA2 ≠ kA6) (n_A2_A9 : kA2 ≠ kA9) (n_A3_A4 : kA3 ≠ kA4) (n_A3_A6 : kA3 ≠ kA6) (n_A3_A9 : kA3 ≠ kA9) (n_A4_A6 : kA4 ≠ kA6) (n_A4_A9 : kA4 ≠ kA9) (n_A6_A9 : kA6 ≠ kA9) (x1lo : 0 ≤ x1) (x1hi : x1 ≤ 9) (x2lo : 0 ≤ x2) (x2hi : x2 ≤ 9) (x3lo : 0 ≤ x3) (x3hi : x3 ≤ 9) : q_mV l y_WR_multiply prog_19_method_23_code 4 3 0 0 D g [.ref qO0, .int x1, .int x2, .int x3] ws (fun u => q_un ws u [kO0, kA2, kA3, kA4, kA6, kA9, kA10] ∧ u[kO0]? = (some (qO0, .inr (13, [.int 0, .int 2, .ref qA1, .int 0, .ref qA2, .ref qA3, .ref qA4, .int 0, .ref qA5, .ref qA6, .ref qA7, .ref qA8, .ref qA9, .ref qA10, .ref qA11, .ref qA12, .int 0, .int 0, .ref qA13, .ref qA14, .int 0])) : Option (Nat × va_E)) ∧ u[kA2]? = (some (qA2, .inl (g 0, 1408, .inl (fun _ => 0))) : Option (Nat × va_E)) ∧ u[kA3]? = (some (qA3, .inl (g 3, 11, .inl (fun _ => 0))) : Option (Nat × va_E)) ∧ u[kA4]? = (some (qA4, .inl (g 0, 264, .inl (fun _ => 0))) : Option (Nat × va_E)) ∧ u[kA6]? = (some (qA6, .inl (g 0, 528, .inl (fun _ => 0))) : Option (Nat × va_E)) ∧ u[kA9]? = (some (qA9, .inl (g 0, 264, .inl (fun _ => 0))) : Option (Nat × va_E)) ∧ u[kA10]? = (some (qA10, .inl (g 0, 264, .inl (fun _ => 0))) : Option (Nat × va_E))) := by
  intro sz
  refine q_into (by decide) (Nat.le_of_ble_eq_true rfl) ?_
  intro p e s m below meth c ls hsz C0 V hl
  have hx := C0.1
  have hb := C0.2.1
  have hl : lv_has ls 4 [(0, .ref qO0), (1, .int x1), (2, .int x2), (3, .int x3)] := hl
  have n_A10_O0 := q_df hA10 hO0
  have n_A2_A10 := Ne.symm n_A10_A2
  have n_A2_O0 := q_df hA2 hO0
  have n_A3_A10 := Ne.symm n_A10_A3
  have n_A3_O0 := q_df hA3 hO0
  have n_A4_A10 := Ne.symm n_A10_A4
  have n_A4_A2 := Ne.symm n_A2_A4
  have n_A4_A3 := Ne.symm n_A3_A4
  have n_A4_O0 := q_df hA4 hO0
  have n_A6_A10 := Ne.symm n_A10_A6
  have n_A6_A2 := Ne.symm n_A2_A6
  have n_A6_A3 := Ne.symm n_A3_A6
  have n_A6_O0 := q_df hA6 hO0
  have n_A9_A10 := Ne.symm n_A10_A9
  have n_A9_A2 := Ne.symm n_A2_A9
  have n_A9_A3 := Ne.symm n_A3_A9
  have n_A9_A4 := Ne.symm n_A4_A9
  have n_A9_A6 := Ne.symm n_A6_A9
  have n_A9_O0 := q_df hA9 hO0
  have n_O0_A10 := Ne.symm (q_df hA10 hO0)
  have n_O0_A2 := Ne.symm (q_df hA2 hO0)
  have n_O0_A3 := Ne.symm (q_df hA3 hO0)
  have n_O0_A4 := Ne.symm (q_df hA4 hO0)
  have n_O0_A6 := Ne.symm (q_df hA6 hO0)
  have n_O0_A9 := Ne.symm (q_df hA9 hO0)
  have hF : q_un ws ws [kO0, kA2, kA3, kA4, kA6, kA9, kA10] := q_u0
  refine lv_aload_n hx hb d_19_23_0 rfl (lv_at hl 0 rfl) ?_
  refine lv_iload_n hx hb d_19_23_1 rfl (lv_at hl 1 rfl) ?_
  refine q_goi V (q_runS (As := [.int x1]) (rest := [.ref qO0]) (d := 1) (mc := 0) (ms := 0) C0 V rfl LS_WR_91 (c_WR_no l D g ws x1 x1lo x1hi _) rfl hl.1 rfl (Nat.le_of_ble_eq_true rfl) ⟨by decide, by decide⟩ ⟨Nat.le_of_ble_eq_true rfl, Nat.le_of_ble_eq_true rfl⟩ d_19_23_2) (fun v3 u2 H locs hp1 V => ?_)
  obtain ⟨rfl, rfl⟩ := hp1
  refine lv_if_ne (tgt := 22) hx hb d_19_23_5 (by decide) (fun c5 => absurd (by decide) c5) (fun c5 => ?_)
  refine lv_iload_n hx hb d_19_23_8 rfl (lv_at hl 2 rfl) ?_
  refine q_goi V (q_runS (As := [.int x2]) (rest := [.ref qO0]) (d := 1) (mc := 0) (ms := 0) C0 V rfl LS_WR_91 (c_WR_no l D g ws x2 x2lo x2hi _) rfl hl.1 rfl (Nat.le_of_ble_eq_true rfl) ⟨by decide, by decide⟩ ⟨Nat.le_of_ble_eq_true rfl, Nat.le_of_ble_eq_true rfl⟩ d_19_23_9) (fun v8 u7 H locs hp6 V => ?_)
  obtain ⟨rfl, rfl⟩ := hp6
  refine lv_if_ne (tgt := 22) hx hb d_19_23_12 (by decide) (fun c10 => absurd (by decide) c10) (fun c10 => ?_)
  refine lv_iload_n hx hb d_19_23_15 rfl (lv_at hl 3 rfl) ?_
  refine q_goi V (q_runS (As := [.int x3]) (rest := [.ref qO0]) (d := 1) (mc := 0) (ms := 0) C0 V rfl LS_WR_91 (c_WR_no l D g ws x3 x3lo x3hi _) rfl hl.1 rfl (Nat.le_of_ble_eq_true rfl) ⟨by decide, by decide⟩ ⟨Nat.le_of_ble_eq_true rfl, Nat.le_of_ble_eq_true rfl⟩ d_19_23_16) (fun v13 u12 H locs hp11 V => ?_)
  obtain ⟨rfl, rfl⟩ := hp11
  refine lv_if_eq (tgt := 26) hx hb d_19_23_19 (by decide) (fun c15 => ?_) (fun c15 => absurd (by decide) c15)
  refine lv_iconst (v := 0) hx hb d_19_23_26 (by decide) ?_
  refine q_put (ci := 13) (j := 0) (v := .int 0) (ty := .int) C0 V i_WR o_WR n_WR rfl rfl hO0 (by decide) w_1921 rfl rfl rfl rfl (Nat.le_of_ble_eq_true rfl) d_19_23_27 (fun H locs w16 hu17 hO0 V => ?_)
  replace hO0 : w16[kO0]? = (some (qO0, .inr (13, [.int 0, .int 0, .ref qA1, .int 0, .ref qA2, .ref qA3, .ref qA4, .int 0, .ref qA5, .ref qA6, .ref qA7, .ref qA8, .ref qA9, .ref qA10, .ref qA11, .ref qA12, .int 0, .int 0, .ref qA13, .ref qA14, .int 0])) : Option (Nat × va_E)) := hO0
  replace hF := q_us hF hu17 (.head _)
  refine lv_aload_n hx hb d_19_23_30 rfl (lv_at hl 0 rfl) ?_
  refine q_get (ci := 13) (j := 0) (v := .int 0) C0 V i_WR rfl rfl hO0 (by decide) w_1921 rfl d_19_23_31 ?_
  refine lv_if_le (tgt := 38) hx hb d_19_23_34 (by decide) (fun c18 => ?_) (fun c18 => absurd (by decide) c18)
  refine lv_aload_n hx hb d_19_23_38 rfl (lv_at hl 0 rfl) ?_
  refine lv_iconst (v := 2) hx hb d_19_23_39 (by decide) ?_
  refine q_put (ci := 13) (j := 1) (v := .int 2) (ty := .int) C0 V i_WR o_WR n_WR rfl rfl hO0 (by decide) w_1923 rfl rfl rfl rfl (Nat.le_of_ble_eq_true rfl) d_19_23_40 (fun H locs w19 hu20 hO0 V => ?_)
  replace hO0 : w19[kO0]? = (some (qO0, .inr (13, [.int 0, .int 2, .ref qA1, .int 0, .ref qA2, .ref qA3, .ref qA4, .int 0, .ref qA5, .ref qA6, .ref qA7, .ref qA8, .ref qA9, .ref qA10, .ref qA11, .ref qA12, .int 0, .int 0, .ref qA13, .ref qA14, .int 0])) : Option (Nat × va_E)) := hO0
  replace hF := q_us hF hu20 (.head _)
  refine lv_aload_n hx hb d_19_23_43 rfl (lv_at hl 0 rfl) ?_
  refine lv_iload_n hx hb d_19_23_44 rfl (lv_at hl 1 rfl) ?_
  refine lv_aload_n hx hb d_19_23_45 rfl (lv_at hl 0 rfl) ?_
  refine q_get (ci := 13) (j := 12) (v := .ref qA9) C0 V i_WR rfl rfl hO0 (by decide) w_1936 rfl d_19_23_46 ?_
  replace hA9 := (hu20 _ n_A9_O0).trans ((hu17 _ n_A9_O0).trans (hA9))
  replace hA2 := (hu20 _ n_A2_O0).trans ((hu17 _ n_A2_O0).trans (hA2))
  refine q_gov V (q_runV (As := [.int x1, .ref qA9]) (rest := []) (d := 1) (mc := 0) (ms := 0) (ci := 13) C0 V rfl LV_WR_107 (c_WR_take_3 l D g w19 kO0 kA9 kA2 qO0 qA9 qA1 qA2 qA3 qA4 qA5 qA6 qA7 qA8 qA10 qA11 qA12 qA13 qA14 x1 hO0 hA9 hA2 n_A2_A9 x1lo x1hi _) rfl rfl hO0 rfl hl.1 rfl (Nat.le_of_ble_eq_true rfl) ⟨by decide, by decide⟩ ⟨Nat.le_of_ble_eq_true rfl, Nat.le_of_ble_eq_true rfl⟩ d_19_23_49) (fun u22 H locs hp21 V => ?_)
  obtain ⟨hg23, hA9⟩ := hp21
  replace hF := q_uc hF hg23 (q_sc (List.mem_of_getElem? (i := 5) rfl) (fun _ h => absurd h List.not_mem_nil))
  refine lv_aload_n hx hb d_19_23_52 rfl (lv_at hl 0 rfl) ?_
  refine lv_iload_n hx hb d_19_23_53 rfl (lv_at hl 2 rfl) ?_
  refine lv_aload_n hx hb d_19_23_54 rfl (lv_at hl 0 rfl) ?_
  replace hO0 := (hg23 _ (q_nc n_O0_A9 List.not_mem_nil)).trans (hO0)
  refine q_get (ci := 13) (j := 13) (v := .ref qA10) C0 V i_WR rfl rfl hO0 (by decide) w_1937 rfl d_19_23_55 ?_
  replace hA10 := (hg23 _ (q_nc n_A10_A9 List.not_mem_nil)).trans ((hu20 _ n_A10_O0).trans ((hu17 _ n_A10_O0).trans (hA10)))
  replace hA2 := (hg23 _ (q_nc n_A2_A9 List.not_mem_nil)).trans (hA2)
  refine q_gov V (q_runV (As := [.int x2, .ref qA10]) (rest := []) (d := 1) (mc := 0) (ms := 0) (ci := 13) C0 V rfl LV_WR_107 (c_WR_take_4 l D g u22 kO0 kA10 kA2 qO0 qA10 qA1 qA2 qA3 qA4 qA5 qA6 qA7 qA8 qA9 qA11 qA12 qA13 qA14 x2 hO0 hA10 hA2 n_A2_A10 x2lo x2hi _) rfl rfl hO0 rfl hl.1 rfl (Nat.le_of_ble_eq_true rfl) ⟨by decide, by decide⟩ ⟨Nat.le_of_ble_eq_true rfl, Nat.le_of_ble_eq_true rfl⟩ d_19_23_58) (fun u25 H locs hp24 V => ?_)
  obtain ⟨hg26, hA10⟩ := hp24
  replace hF := q_uc hF hg26 (q_sc (List.mem_of_getElem? (i := 6) rfl) (fun _ h => absurd h List.not_mem_nil))
  refine lv_aload_n hx hb d_19_23_61 rfl (lv_at hl 0 rfl) ?_
  refine lv_aload_n hx hb d_19_23_62 rfl (lv_at hl 0 rfl) ?_
  replace hO0 := (hg26 _ (q_nc n_O0_A10 List.not_mem_nil)).trans (hO0)
  refine q_get (ci := 13) (j := 12) (v := .ref qA9) C0 V i_WR rfl rfl hO0 (by decide) w_1936 rfl d_19_23_63 ?_
  refine lv_aload_n hx hb d_19_23_66 rfl (lv_at hl 0 rfl) ?_
  refine q_get (ci := 13) (j := 13) (v := .ref qA10) C0 V i_WR rfl rfl hO0 (by decide) w_1937 rfl d_19_23_67 ?_
  refine lv_aload_n hx hb d_19_23_70 rfl (lv_at hl 0 rfl) ?_
  refine q_get (ci := 13) (j := 6) (v := .ref qA4) C0 V i_WR rfl rfl hO0 (by decide) w_1930 rfl d_19_23_71 ?_
  replace hA9 := (hg26 _ (q_nc n_A9_A10 List.not_mem_nil)).trans (hA9)
  replace hA4 := (hg26 _ (q_nc n_A4_A10 List.not_mem_nil)).trans ((hg23 _ (q_nc n_A4_A9 List.not_mem_nil)).trans ((hu20 _ n_A4_O0).trans ((hu17 _ n_A4_O0).trans (hA4))))
  replace hA6 := (hg26 _ (q_nc n_A6_A10 List.not_mem_nil)).trans ((hg23 _ (q_nc n_A6_A9 List.not_mem_nil)).trans ((hu20 _ n_A6_O0).trans ((hu17 _ n_A6_O0).trans (hA6))))
  refine q_gov V (q_runV (As := [.ref qA9, .ref qA10, .ref qA4]) (rest := []) (d := 2) (mc := 0) (ms := 0) (ci := 13) C0 V rfl LV_WR_115 (c_WR_multiplyRows l D g u25 kO0 kA9 kA10 kA4 kA6 qO0 qA9 qA10 qA4 qA1 qA2 qA3 qA5 qA6 qA7 qA8 qA11 qA12 qA13 qA14 hO0 hA9 hA10 hA4 hA6 n_A9_A4 n_A9_A6 n_A10_A4 n_A10_A6 n_A4_A6 _) rfl rfl hO0 rfl hl.1 rfl (Nat.le_of_ble_eq_true rfl) ⟨by decide, by decide⟩ ⟨Nat.le_of_ble_eq_true rfl, Nat.le_of_ble_eq_true rfl⟩ d_19_23_74) (fun u28 H locs hp27 V => ?_)
  obtain ⟨hg29, hA4, hA6⟩ := hp27
  replace hF := q_uc hF hg29 (q_sc (List.mem_of_getElem? (i := 3) rfl) (q_sc (List.mem_of_getElem? (i := 4) rfl) (fun _ h => absurd h List.not_mem_nil)))
  refine lv_aload_n hx hb d_19_23_77 rfl (lv_at hl 0 rfl) ?_
  refine lv_aload_n hx hb d_19_23_78 rfl (lv_at hl 0 rfl) ?_
  replace hO0 := (hg29 _ (q_nc n_O0_A4 (q_nc n_O0_A6 List.not_mem_nil))).trans (hO0)
  refine q_get (ci := 13) (j := 5) (v := .ref qA3) C0 V i_WR rfl rfl hO0 (by decide) w_1929 rfl d_19_23_79 ?_
  refine lv_iload_n hx hb d_19_23_82 rfl (lv_at hl 1 rfl) ?_
  replace hA3 := (hg29 _ (q_nc n_A3_A4 (q_nc n_A3_A6 List.not_mem_nil))).trans ((hg26 _ (q_nc n_A3_A10 List.not_mem_nil)).trans ((hg23 _ (q_nc n_A3_A9 List.not_mem_nil)).trans ((hu20 _ n_A3_O0).trans ((hu17 _ n_A3_O0).trans (hA3)))))
  refine q_zald C0 V hA3 (q_ix (x := x1.toInt) rfl (by have t1 : 0 ≤ x1.toInt := q_leI x1lo; have t2 : x1.toInt ≤ 9 := q_leI x1hi; omega) (by have t1 : 0 ≤ x1.toInt := q_leI x1lo; have t2 : x1.toInt ≤ 9 := q_leI x1hi; omega)) d_19_23_83 ?_
  refine q_ti (v := 0) (by first | rfl | decide | simp [upd, vp_updL, sb_cl0]) ?_
  refine lv_aload_n hx hb d_19_23_84 rfl (lv_at hl 0 rfl) ?_
  refine q_get (ci := 13) (j := 5) (v := .ref qA3) C0 V i_WR rfl rfl hO0 (by decide) w_1929 rfl d_19_23_85 ?_
  refine lv_iload_n hx hb d_19_23_88 rfl (lv_at hl 2 rfl) ?_
  refine q_zald C0 V hA3 (q_ix (x := x2.toInt) rfl (by have t1 : 0 ≤ x2.toInt := q_leI x2lo; have t2 : x2.toInt ≤ 9 := q_leI x2hi; omega) (by have t1 : 0 ≤ x2.toInt := q_leI x2lo; have t2 : x2.toInt ≤ 9 := q_leI x2hi; omega)) d_19_23_89 ?_
  refine q_ti (v := 0) (by first | rfl | decide | simp [upd, vp_updL, sb_cl0]) ?_
  refine lv_icmp_eq (tgt := 97) hx hb d_19_23_90 (by decide) (fun c30 => ?_) (fun c30 => absurd (by decide) c30)
  refine lv_iconst (v := 0) hx hb d_19_23_97 (by decide) ?_
  refine q_put (ci := 13) (j := 7) (v := .int 0) (ty := .boolean) C0 V i_WR o_WR n_WR rfl rfl hO0 (by decide) w_1931 rfl rfl rfl rfl (Nat.le_of_ble_eq_true rfl) d_19_23_98 (fun H locs w31 hu32 hO0 V => ?_)
  replace hO0 : w31[kO0]? = (some (qO0, .inr (13, [.int 0, .int 2, .ref qA1, .int 0, .ref qA2, .ref qA3, .ref qA4, .int 0, .ref qA5, .ref qA6, .ref qA7, .ref qA8, .ref qA9, .ref qA10, .ref qA11, .ref qA12, .int 0, .int 0, .ref qA13, .ref qA14, .int 0])) : Option (Nat × va_E)) := hO0
  replace hF := q_us hF hu32 (.head _)
  refine lv_aload_n hx hb d_19_23_101 rfl (lv_at hl 0 rfl) ?_
  refine lv_iload_n hx hb d_19_23_102 rfl (lv_at hl 3 rfl) ?_
  replace hA2 := (hu32 _ n_A2_O0).trans ((hg29 _ (q_nc n_A2_A4 (q_nc n_A2_A6 List.not_mem_nil))).trans ((hg26 _ (q_nc n_A2_A10 List.not_mem_nil)).trans (hA2)))
  replace hA3 := (hu32 _ n_A3_O0).trans (hA3)
  replace hA4 := (hu32 _ n_A4_O0).trans (hA4)
  refine q_gov V (q_runV (As := [.int x3]) (rest := []) (d := 2) (mc := 0) (ms := 0) (ci := 13) C0 V rfl LV_WR_103 (c_WR_store l D g w31 kO0 kA2 kA3 kA4 qO0 qA1 qA2 qA3 qA4 qA5 qA6 qA7 qA8 qA9 qA10 qA11 qA12 qA13 qA14 x3 hO0 hA2 hA3 hA4 n_A2_A3 n_A4_A2 n_A4_A3 x3lo x3hi _) rfl rfl hO0 rfl hl.1 rfl (Nat.le_of_ble_eq_true rfl) ⟨by decide, by decide⟩ ⟨Nat.le_of_ble_eq_true rfl, Nat.le_of_ble_eq_true rfl⟩ d_19_23_103) (fun u34 H locs hp33 V => ?_)
  obtain ⟨hg35, hA2, hA3⟩ := hp33
  replace hF := q_uc hF hg35 (q_sc (.tail _ (.head _)) (q_sc (.tail _ (.tail _ (.head _))) (fun _ h => absurd h List.not_mem_nil)))
  replace hO0 := (hg35 _ (q_nc n_O0_A2 (q_nc n_O0_A3 List.not_mem_nil))).trans (hO0)
  replace hA4 := (hg35 _ (q_nc n_A4_A2 (q_nc n_A4_A3 List.not_mem_nil))).trans (hA4)
  replace hA6 := (hg35 _ (q_nc n_A6_A2 (q_nc n_A6_A3 List.not_mem_nil))).trans ((hu32 _ n_A6_O0).trans (hA6))
  replace hA9 := (hg35 _ (q_nc n_A9_A2 (q_nc n_A9_A3 List.not_mem_nil))).trans ((hu32 _ n_A9_O0).trans ((hg29 _ (q_nc n_A9_A4 (q_nc n_A9_A6 List.not_mem_nil))).trans (hA9)))
  replace hA10 := (hg35 _ (q_nc n_A10_A2 (q_nc n_A10_A3 List.not_mem_nil))).trans ((hu32 _ n_A10_O0).trans ((hg29 _ (q_nc n_A10_A4 (q_nc n_A10_A6 List.not_mem_nil))).trans (hA10)))
  exact q_retv C0 V (⟨hF, hO0, hA2, hA3, hA4, hA6, hA9, hA10⟩) d_19_23_106
set_option maxRecDepth 100000 in
set_option maxHeartbeats 4000000 in
theorem c_WR_no_2 (l : Launch) (D : va_G) (g : Nat → ClassId) (ws : va_W) : q_mI l y_WR_no prog_19_method_3_code 1 (.boolean) 1 0 0 D g [.int 10] ws (fun r u => 0 = r ∧ ws = u) := by
  intro sz
  refine q_into (by decide) (Nat.le_of_ble_eq_true rfl) ?_
  intro p e s m below meth c ls hsz C0 V hl
  have hx := C0.1
  have hb := C0.2.1
  have hl : lv_has ls 1 [(0, .int 10)] := hl
  refine lv_iload_n hx hb d_19_3_0 rfl (lv_at hl 0 rfl) ?_
  refine lv_if_lt (tgt := 10) hx hb d_19_3_1 (by decide) (fun c1 => absurd c1 (by decide)) (fun c1 => ?_)
  refine lv_iload_n hx hb d_19_3_4 rfl (lv_at hl 0 rfl) ?_
  refine lv_bipush (v := 11) hx hb d_19_3_5 (by decide) ?_
  refine lv_icmp_lt (tgt := 14) hx hb d_19_3_7 (by decide) (fun c2 => ?_) (fun c2 => absurd (by decide) c2)
  refine lv_iconst (v := 0) hx hb d_19_3_14 (by decide) ?_
  exact q_retz C0 V (rfl) (⟨rfl, rfl⟩) d_19_3_15
theorem d_19_24_0 : decode prog_19_method_24_code 0 = .ok (.aload_n 0, 1) := by decide +kernel
theorem d_19_24_1 : decode prog_19_method_24_code 1 = .ok (.iload_n 1, 1) := by decide +kernel
theorem d_19_24_2 : decode prog_19_method_24_code 2 = .ok (.invokestatic 91, 3) := by decide +kernel
theorem d_19_24_5 : decode prog_19_method_24_code 5 = .ok (.ifCond .ne 25, 3) := by decide +kernel
theorem d_19_24_8 : decode prog_19_method_24_code 8 = .ok (.iload_n 2, 1) := by decide +kernel
theorem d_19_24_9 : decode prog_19_method_24_code 9 = .ok (.invokestatic 91, 3) := by decide +kernel
theorem d_19_24_12 : decode prog_19_method_24_code 12 = .ok (.ifCond .ne 18, 3) := by decide +kernel
theorem d_19_24_15 : decode prog_19_method_24_code 15 = .ok (.iload_n 3, 1) := by decide +kernel
theorem d_19_24_16 : decode prog_19_method_24_code 16 = .ok (.invokestatic 91, 3) := by decide +kernel
theorem d_19_24_19 : decode prog_19_method_24_code 19 = .ok (.ifCond .ne 11, 3) := by decide +kernel
theorem d_19_24_22 : decode prog_19_method_24_code 22 = .ok (.iload 4, 2) := by decide +kernel
theorem d_19_24_24 : decode prog_19_method_24_code 24 = .ok (.invokestatic 91, 3) := by decide +kernel
theorem d_19_24_27 : decode prog_19_method_24_code 27 = .ok (.ifCond .eq 7, 3) := by decide +kernel
theorem d_19_24_34 : decode prog_19_method_24_code 34 = .ok (.aload_n 0, 1) := by decide +kernel
theorem d_19_24_35 : decode prog_19_method_24_code 35 = .ok (.iload_n 2, 1) := by decide +kernel
theorem d_19_24_36 : decode prog_19_method_24_code 36 = .ok (.invokevirtual 119, 3) := by decide +kernel
theorem d_19_24_39 : decode prog_19_method_24_code 39 = .ok (.ifCond .eq 7, 3) := by decide +kernel
theorem d_19_24_42 : decode prog_19_method_24_code 42 = .ok (.iconst 2, 1) := by decide +kernel
theorem d_19_24_43 : decode prog_19_method_24_code 43 = .ok (.goto 4, 3) := by decide +kernel
theorem d_19_24_47 : decode prog_19_method_24_code 47 = .ok (.putfield 53, 3) := by decide +kernel
theorem d_19_24_50 : decode prog_19_method_24_code 50 = .ok (.aload_n 0, 1) := by decide +kernel
theorem d_19_24_51 : decode prog_19_method_24_code 51 = .ok (.getfield 53, 3) := by decide +kernel
theorem d_19_24_54 : decode prog_19_method_24_code 54 = .ok (.ifCond .le 4, 3) := by decide +kernel
theorem d_19_24_57 : decode prog_19_method_24_code 57 = .ok (.return_, 1) := by decide +kernel
def y_WR_divide : MethodName := ⟨"NumberHouseModel$WholeRows", "divide", "(IIII)V"⟩
set_option maxRecDepth 100000 in
set_option maxHeartbeats 4000000 in
theorem c_WR_divide (l : Launch) (D : va_G) (g : Nat → ClassId) (ws : va_W) (kO0 kA2 qO0 qA1 qA2 qA3 qA4 qA5 qA6 qA7 qA8 qA9 qA10 qA11 qA12 qA13 qA14 : Nat) (x1 : Int32) (x2 : Int32) (x3 : Int32) (hO0 : ws[kO0]? = (some (qO0, .inr (13, [.int 0, .int 0, .ref qA1, .int 0, .ref qA2, .ref qA3, .ref qA4, .int 0, .ref qA5, .ref qA6, .ref qA7, .ref qA8, .ref qA9, .ref qA10, .ref qA11, .ref qA12, .int 0, .int 0, .ref qA13, .ref qA14, .int 0])) : Option (Nat × va_E))) (hA2 : ws[kA2]? = (some (qA2, .inl (g 0, 1408, .inl (fun _ => 0))) : Option (Nat × va_E))) (x1lo : 0 ≤ x1) (x1hi : x1 ≤ 9) (x2lo : 0 ≤ x2) (x2hi : x2 ≤ 9) (x3lo : 0 ≤ x3) (x3hi : x3 ≤ 9) : q_mV l y_WR_divide prog_19_method_24_code 7 2 0 0 D g [.ref qO0, .int x1, .int x2, .int x3, .int 10] ws (fun u => q_un ws u [kO0] ∧ u[kO0]? = (some (qO0, .inr (13, [.int 2, .int 0, .ref qA1, .int 0, .ref qA2, .ref qA3, .ref qA4, .int 0, .ref qA5, .ref qA6, .ref qA7, .ref qA8, .ref qA9, .ref qA10, .ref qA11, .ref qA12, .int 0, .int 0, .ref qA13, .ref qA14, .int 0])) : Option (Nat × va_E))) := by
  intro sz
  refine q_into (by decide) (Nat.le_of_ble_eq_true rfl) ?_
  intro p e s m below meth c ls hsz C0 V hl
  have hx := C0.1
  have hb := C0.2.1
  have hl : lv_has ls 7 [(0, .ref qO0), (1, .int x1), (2, .int x2), (3, .int x3), (4, .int 10)] := hl
  have n_A2_O0 := q_df hA2 hO0
  have hF : q_un ws ws [kO0] := q_u0
  refine lv_aload_n hx hb d_19_24_0 rfl (lv_at hl 0 rfl) ?_
  refine lv_iload_n hx hb d_19_24_1 rfl (lv_at hl 1 rfl) ?_
  refine q_goi V (q_runS (As := [.int x1]) (rest := [.ref qO0]) (d := 1) (mc := 0) (ms := 0) C0 V rfl LS_WR_91 (c_WR_no l D g ws x1 x1lo x1hi _) rfl hl.1 rfl (Nat.le_of_ble_eq_true rfl) ⟨by decide, by decide⟩ ⟨Nat.le_of_ble_eq_true rfl, Nat.le_of_ble_eq_true rfl⟩ d_19_24_2) (fun v3 u2 H locs hp1 V => ?_)
  obtain ⟨rfl, rfl⟩ := hp1
  refine lv_if_ne (tgt := 30) hx hb d_19_24_5 (by decide) (fun c5 => absurd (by decide) c5) (fun c5 => ?_)
  refine lv_iload_n hx hb d_19_24_8 rfl (lv_at hl 2 rfl) ?_
  refine q_goi V (q_runS (As := [.int x2]) (rest := [.ref qO0]) (d := 1) (mc := 0) (ms := 0) C0 V rfl LS_WR_91 (c_WR_no l D g ws x2 x2lo x2hi _) rfl hl.1 rfl (Nat.le_of_ble_eq_true rfl) ⟨by decide, by decide⟩ ⟨Nat.le_of_ble_eq_true rfl, Nat.le_of_ble_eq_true rfl⟩ d_19_24_9) (fun v8 u7 H locs hp6 V => ?_)
  obtain ⟨rfl, rfl⟩ := hp6
  refine lv_if_ne (tgt := 30) hx hb d_19_24_12 (by decide) (fun c10 => absurd (by decide) c10) (fun c10 => ?_)
  refine lv_iload_n hx hb d_19_24_15 rfl (lv_at hl 3 rfl) ?_
  refine q_goi V (q_runS (As := [.int x3]) (rest := [.ref qO0]) (d := 1) (mc := 0) (ms := 0) C0 V rfl LS_WR_91 (c_WR_no l D g ws x3 x3lo x3hi _) rfl hl.1 rfl (Nat.le_of_ble_eq_true rfl) ⟨by decide, by decide⟩ ⟨Nat.le_of_ble_eq_true rfl, Nat.le_of_ble_eq_true rfl⟩ d_19_24_16) (fun v13 u12 H locs hp11 V => ?_)
  obtain ⟨rfl, rfl⟩ := hp11
  refine lv_if_ne (tgt := 30) hx hb d_19_24_19 (by decide) (fun c15 => absurd (by decide) c15) (fun c15 => ?_)
  refine lv_iload hx hb d_19_24_22 (lv_at hl 4 rfl) ?_
  refine q_goi V (q_runS (As := [.int 10]) (rest := [.ref qO0]) (d := 1) (mc := 0) (ms := 0) C0 V rfl LS_WR_91 (c_WR_no_2 l D g ws _) rfl hl.1 rfl (Nat.le_of_ble_eq_true rfl) ⟨by decide, by decide⟩ ⟨Nat.le_of_ble_eq_true rfl, Nat.le_of_ble_eq_true rfl⟩ d_19_24_24) (fun v18 u17 H locs hp16 V => ?_)
  obtain ⟨rfl, rfl⟩ := hp16
  refine lv_if_eq (tgt := 34) hx hb d_19_24_27 (by decide) (fun c20 => ?_) (fun c20 => absurd (by decide) c20)
  refine lv_aload_n hx hb d_19_24_34 rfl (lv_at hl 0 rfl) ?_
  refine lv_iload_n hx hb d_19_24_35 rfl (lv_at hl 2 rfl) ?_
  refine q_goi V (q_runV (As := [.int x2]) (rest := [.ref qO0]) (d := 1) (mc := 0) (ms := 0) (ci := 13) C0 V rfl LV_WR_119 (c_WR_isZero l D g ws kO0 kA2 qO0 qA1 qA2 qA3 qA4 qA5 qA6 qA7 qA8 qA9 qA10 qA11 qA12 qA13 qA14 x2 hO0 hA2 x2lo x2hi _) rfl rfl hO0 rfl hl.1 rfl (Nat.le_of_ble_eq_true rfl) ⟨by decide, by decide⟩ ⟨Nat.le_of_ble_eq_true rfl, Nat.le_of_ble_eq_true rfl⟩ d_19_24_36) (fun v23 u22 H locs hp21 V => ?_)
  obtain ⟨rfl, rfl⟩ := hp21
  refine lv_if_eq (tgt := 46) hx hb d_19_24_39 (by decide) (fun c25 => absurd c25 (by decide)) (fun c25 => ?_)
  refine lv_iconst (v := 2) hx hb d_19_24_42 (by decide) ?_
  refine lv_goto (tgt := 47) hx hb d_19_24_43 (by decide) ?_
  refine q_put (ci := 13) (j := 0) (v := .int 2) (ty := .int) C0 V i_WR o_WR n_WR rfl rfl hO0 (by decide) w_1921 rfl rfl rfl rfl (Nat.le_of_ble_eq_true rfl) d_19_24_47 (fun H locs w26 hu27 hO0 V => ?_)
  replace hO0 : w26[kO0]? = (some (qO0, .inr (13, [.int 2, .int 0, .ref qA1, .int 0, .ref qA2, .ref qA3, .ref qA4, .int 0, .ref qA5, .ref qA6, .ref qA7, .ref qA8, .ref qA9, .ref qA10, .ref qA11, .ref qA12, .int 0, .int 0, .ref qA13, .ref qA14, .int 0])) : Option (Nat × va_E)) := hO0
  replace hF := q_us hF hu27 (.head _)
  refine lv_aload_n hx hb d_19_24_50 rfl (lv_at hl 0 rfl) ?_
  refine q_get (ci := 13) (j := 0) (v := .int 2) C0 V i_WR rfl rfl hO0 (by decide) w_1921 rfl d_19_24_51 ?_
  refine lv_if_le (tgt := 58) hx hb d_19_24_54 (by decide) (fun c28 => absurd c28 (by decide)) (fun c28 => ?_)
  exact q_retv C0 V (⟨hF, hO0⟩) d_19_24_57
set_option maxRecDepth 100000 in
set_option maxHeartbeats 4000000 in
theorem c_WR_divide_2 (l : Launch) (D : va_G) (g : Nat → ClassId) (ws : va_W) (kO0 kA2 qO0 qA1 qA2 qA3 qA4 qA5 qA6 qA7 qA8 qA9 qA10 qA11 qA12 qA13 qA14 : Nat) (x1 : Int32) (x2 : Int32) (x3 : Int32) (hO0 : ws[kO0]? = (some (qO0, .inr (13, [.int 0, .int 0, .ref qA1, .int 0, .ref qA2, .ref qA3, .ref qA4, .int 0, .ref qA5, .ref qA6, .ref qA7, .ref qA8, .ref qA9, .ref qA10, .ref qA11, .ref qA12, .int 0, .int 0, .ref qA13, .ref qA14, .int 0])) : Option (Nat × va_E))) (hA2 : ws[kA2]? = (some (qA2, .inl (g 0, 1408, .inl (fun _ => 0))) : Option (Nat × va_E))) (x1lo : 0 ≤ x1) (x1hi : x1 ≤ 9) (x2lo : 0 ≤ x2) (x2hi : x2 ≤ 9) (x3lo : 0 ≤ x3) (x3hi : x3 ≤ 9) : q_mV l y_WR_divide prog_19_method_24_code 7 2 0 0 D g [.ref qO0, .int x1, .int x2, .int 10, .int x3] ws (fun u => q_un ws u [kO0] ∧ u[kO0]? = (some (qO0, .inr (13, [.int 2, .int 0, .ref qA1, .int 0, .ref qA2, .ref qA3, .ref qA4, .int 0, .ref qA5, .ref qA6, .ref qA7, .ref qA8, .ref qA9, .ref qA10, .ref qA11, .ref qA12, .int 0, .int 0, .ref qA13, .ref qA14, .int 0])) : Option (Nat × va_E))) := by
  intro sz
  refine q_into (by decide) (Nat.le_of_ble_eq_true rfl) ?_
  intro p e s m below meth c ls hsz C0 V hl
  have hx := C0.1
  have hb := C0.2.1
  have hl : lv_has ls 7 [(0, .ref qO0), (1, .int x1), (2, .int x2), (3, .int 10), (4, .int x3)] := hl
  have n_A2_O0 := q_df hA2 hO0
  have hF : q_un ws ws [kO0] := q_u0
  refine lv_aload_n hx hb d_19_24_0 rfl (lv_at hl 0 rfl) ?_
  refine lv_iload_n hx hb d_19_24_1 rfl (lv_at hl 1 rfl) ?_
  refine q_goi V (q_runS (As := [.int x1]) (rest := [.ref qO0]) (d := 1) (mc := 0) (ms := 0) C0 V rfl LS_WR_91 (c_WR_no l D g ws x1 x1lo x1hi _) rfl hl.1 rfl (Nat.le_of_ble_eq_true rfl) ⟨by decide, by decide⟩ ⟨Nat.le_of_ble_eq_true rfl, Nat.le_of_ble_eq_true rfl⟩ d_19_24_2) (fun v3 u2 H locs hp1 V => ?_)
  obtain ⟨rfl, rfl⟩ := hp1
  refine lv_if_ne (tgt := 30) hx hb d_19_24_5 (by decide) (fun c5 => absurd (by decide) c5) (fun c5 => ?_)
  refine lv_iload_n hx hb d_19_24_8 rfl (lv_at hl 2 rfl) ?_
  refine q_goi V (q_runS (As := [.int x2]) (rest := [.ref qO0]) (d := 1) (mc := 0) (ms := 0) C0 V rfl LS_WR_91 (c_WR_no l D g ws x2 x2lo x2hi _) rfl hl.1 rfl (Nat.le_of_ble_eq_true rfl) ⟨by decide, by decide⟩ ⟨Nat.le_of_ble_eq_true rfl, Nat.le_of_ble_eq_true rfl⟩ d_19_24_9) (fun v8 u7 H locs hp6 V => ?_)
  obtain ⟨rfl, rfl⟩ := hp6
  refine lv_if_ne (tgt := 30) hx hb d_19_24_12 (by decide) (fun c10 => absurd (by decide) c10) (fun c10 => ?_)
  refine lv_iload_n hx hb d_19_24_15 rfl (lv_at hl 3 rfl) ?_
  refine q_goi V (q_runS (As := [.int 10]) (rest := [.ref qO0]) (d := 1) (mc := 0) (ms := 0) C0 V rfl LS_WR_91 (c_WR_no_2 l D g ws _) rfl hl.1 rfl (Nat.le_of_ble_eq_true rfl) ⟨by decide, by decide⟩ ⟨Nat.le_of_ble_eq_true rfl, Nat.le_of_ble_eq_true rfl⟩ d_19_24_16) (fun v13 u12 H locs hp11 V => ?_)
  obtain ⟨rfl, rfl⟩ := hp11
  refine lv_if_ne (tgt := 30) hx hb d_19_24_19 (by decide) (fun c15 => absurd (by decide) c15) (fun c15 => ?_)
  refine lv_iload hx hb d_19_24_22 (lv_at hl 4 rfl) ?_
  refine q_goi V (q_runS (As := [.int x3]) (rest := [.ref qO0]) (d := 1) (mc := 0) (ms := 0) C0 V rfl LS_WR_91 (c_WR_no l D g ws x3 x3lo x3hi _) rfl hl.1 rfl (Nat.le_of_ble_eq_true rfl) ⟨by decide, by decide⟩ ⟨Nat.le_of_ble_eq_true rfl, Nat.le_of_ble_eq_true rfl⟩ d_19_24_24) (fun v18 u17 H locs hp16 V => ?_)
  obtain ⟨rfl, rfl⟩ := hp16
  refine lv_if_eq (tgt := 34) hx hb d_19_24_27 (by decide) (fun c20 => ?_) (fun c20 => absurd (by decide) c20)
  refine lv_aload_n hx hb d_19_24_34 rfl (lv_at hl 0 rfl) ?_
  refine lv_iload_n hx hb d_19_24_35 rfl (lv_at hl 2 rfl) ?_
  refine q_goi V (q_runV (As := [.int x2]) (rest := [.ref qO0]) (d := 1) (mc := 0) (ms := 0) (ci := 13) C0 V rfl LV_WR_119 (c_WR_isZero l D g ws kO0 kA2 qO0 qA1 qA2 qA3 qA4 qA5 qA6 qA7 qA8 qA9 qA10 qA11 qA12 qA13 qA14 x2 hO0 hA2 x2lo x2hi _) rfl rfl hO0 rfl hl.1 rfl (Nat.le_of_ble_eq_true rfl) ⟨by decide, by decide⟩ ⟨Nat.le_of_ble_eq_true rfl, Nat.le_of_ble_eq_true rfl⟩ d_19_24_36) (fun v23 u22 H locs hp21 V => ?_)
  obtain ⟨rfl, rfl⟩ := hp21
  refine lv_if_eq (tgt := 46) hx hb d_19_24_39 (by decide) (fun c25 => absurd c25 (by decide)) (fun c25 => ?_)
  refine lv_iconst (v := 2) hx hb d_19_24_42 (by decide) ?_
  refine lv_goto (tgt := 47) hx hb d_19_24_43 (by decide) ?_
  refine q_put (ci := 13) (j := 0) (v := .int 2) (ty := .int) C0 V i_WR o_WR n_WR rfl rfl hO0 (by decide) w_1921 rfl rfl rfl rfl (Nat.le_of_ble_eq_true rfl) d_19_24_47 (fun H locs w26 hu27 hO0 V => ?_)
  replace hO0 : w26[kO0]? = (some (qO0, .inr (13, [.int 2, .int 0, .ref qA1, .int 0, .ref qA2, .ref qA3, .ref qA4, .int 0, .ref qA5, .ref qA6, .ref qA7, .ref qA8, .ref qA9, .ref qA10, .ref qA11, .ref qA12, .int 0, .int 0, .ref qA13, .ref qA14, .int 0])) : Option (Nat × va_E)) := hO0
  replace hF := q_us hF hu27 (.head _)
  refine lv_aload_n hx hb d_19_24_50 rfl (lv_at hl 0 rfl) ?_
  refine q_get (ci := 13) (j := 0) (v := .int 2) C0 V i_WR rfl rfl hO0 (by decide) w_1921 rfl d_19_24_51 ?_
  refine lv_if_le (tgt := 58) hx hb d_19_24_54 (by decide) (fun c28 => absurd c28 (by decide)) (fun c28 => ?_)
  exact q_retv C0 V (⟨hF, hO0⟩) d_19_24_57
theorem d_19_25_0 : decode prog_19_method_25_code 0 = .ok (.aload_n 0, 1) := by decide +kernel
theorem d_19_25_1 : decode prog_19_method_25_code 1 = .ok (.getfield 16, 3) := by decide +kernel
theorem d_19_25_4 : decode prog_19_method_25_code 4 = .ok (.iload_n 1, 1) := by decide +kernel
theorem d_19_25_5 : decode prog_19_method_25_code 5 = .ok (.baload, 1) := by decide +kernel
theorem d_19_25_6 : decode prog_19_method_25_code 6 = .ok (.ifCond .ne 15, 3) := by decide +kernel
theorem d_19_25_9 : decode prog_19_method_25_code 9 = .ok (.aload_n 0, 1) := by decide +kernel
theorem d_19_25_10 : decode prog_19_method_25_code 10 = .ok (.iload_n 1, 1) := by decide +kernel
theorem d_19_25_11 : decode prog_19_method_25_code 11 = .ok (.invokevirtual 119, 3) := by decide +kernel
theorem d_19_25_14 : decode prog_19_method_25_code 14 = .ok (.ifCond .ne 7, 3) := by decide +kernel
theorem d_19_25_21 : decode prog_19_method_25_code 21 = .ok (.iconst 0, 1) := by decide +kernel
theorem d_19_25_22 : decode prog_19_method_25_code 22 = .ok (.ireturn, 1) := by decide +kernel
def y_WR_isAbove0 : MethodName := ⟨"NumberHouseModel$WholeRows", "isAbove0", "(I)Z"⟩
set_option maxRecDepth 100000 in
set_option maxHeartbeats 4000000 in
theorem c_WR_isAbove0 (l : Launch) (D : va_G) (g : Nat → ClassId) (ws : va_W) (kO0 kA2 kA3 qO0 qA1 qA2 qA3 qA4 qA5 qA6 qA7 qA8 qA9 qA10 qA11 qA12 qA13 qA14 : Nat) (x1 : Int32) (hO0 : ws[kO0]? = (some (qO0, .inr (13, [.int 0, .int 0, .ref qA1, .int 0, .ref qA2, .ref qA3, .ref qA4, .int 0, .ref qA5, .ref qA6, .ref qA7, .ref qA8, .ref qA9, .ref qA10, .ref qA11, .ref qA12, .int 0, .int 0, .ref qA13, .ref qA14, .int 0])) : Option (Nat × va_E))) (hA2 : ws[kA2]? = (some (qA2, .inl (g 0, 1408, .inl (fun _ => 0))) : Option (Nat × va_E))) (hA3 : ws[kA3]? = (some (qA3, .inl (g 3, 11, .inl (fun _ => 0))) : Option (Nat × va_E))) (x1lo : 0 ≤ x1) (x1hi : x1 ≤ 9) : q_mI l y_WR_isAbove0 prog_19_method_25_code 2 (.boolean) 2 0 0 D g [.ref qO0, .int x1] ws (fun r u => 0 = r ∧ ws = u) := by
  intro sz
  refine q_into (by decide) (Nat.le_of_ble_eq_true rfl) ?_
  intro p e s m below meth c ls hsz C0 V hl
  have hx := C0.1
  have hb := C0.2.1
  have hl : lv_has ls 2 [(0, .ref qO0), (1, .int x1)] := hl
  refine lv_aload_n hx hb d_19_25_0 rfl (lv_at hl 0 rfl) ?_
  refine q_get (ci := 13) (j := 5) (v := .ref qA3) C0 V i_WR rfl rfl hO0 (by decide) w_1929 rfl d_19_25_1 ?_
  refine lv_iload_n hx hb d_19_25_4 rfl (lv_at hl 1 rfl) ?_
  refine q_zald C0 V hA3 (q_ix (x := x1.toInt) rfl (by have t1 : 0 ≤ x1.toInt := q_leI x1lo; have t2 : x1.toInt ≤ 9 := q_leI x1hi; omega) (by have t1 : 0 ≤ x1.toInt := q_leI x1lo; have t2 : x1.toInt ≤ 9 := q_leI x1hi; omega)) d_19_25_5 ?_
  refine q_ti (v := 0) (by first | rfl | decide | simp [upd, vp_updL, sb_cl0]) ?_
  refine lv_if_ne (tgt := 21) hx hb d_19_25_6 (by decide) (fun c1 => absurd (by decide) c1) (fun c1 => ?_)
  refine lv_aload_n hx hb d_19_25_9 rfl (lv_at hl 0 rfl) ?_
  refine lv_iload_n hx hb d_19_25_10 rfl (lv_at hl 1 rfl) ?_
  refine q_goi V (q_runV (As := [.int x1]) (rest := []) (d := 1) (mc := 0) (ms := 0) (ci := 13) C0 V rfl LV_WR_119 (c_WR_isZero l D g ws kO0 kA2 qO0 qA1 qA2 qA3 qA4 qA5 qA6 qA7 qA8 qA9 qA10 qA11 qA12 qA13 qA14 x1 hO0 hA2 x1lo x1hi _) rfl rfl hO0 rfl hl.1 rfl (Nat.le_of_ble_eq_true rfl) ⟨by decide, by decide⟩ ⟨Nat.le_of_ble_eq_true rfl, Nat.le_of_ble_eq_true rfl⟩ d_19_25_11) (fun v4 u3 H locs hp2 V => ?_)
  obtain ⟨rfl, rfl⟩ := hp2
  refine lv_if_ne (tgt := 21) hx hb d_19_25_14 (by decide) (fun c6 => ?_) (fun c6 => absurd c6 (by decide))
  refine lv_iconst (v := 0) hx hb d_19_25_21 (by decide) ?_
  exact q_retz C0 V (rfl) (⟨rfl, rfl⟩) d_19_25_22
theorem d_19_27_0 : decode prog_19_method_27_code 0 = .ok (.aload_n 0, 1) := by decide +kernel
theorem d_19_27_1 : decode prog_19_method_27_code 1 = .ok (.iload_n 1, 1) := by decide +kernel
theorem d_19_27_2 : decode prog_19_method_27_code 2 = .ok (.invokestatic 91, 3) := by decide +kernel
theorem d_19_27_5 : decode prog_19_method_27_code 5 = .ok (.ifCond .ne 17, 3) := by decide +kernel
theorem d_19_27_8 : decode prog_19_method_27_code 8 = .ok (.iload_n 2, 1) := by decide +kernel
theorem d_19_27_9 : decode prog_19_method_27_code 9 = .ok (.invokestatic 91, 3) := by decide +kernel
theorem d_19_27_12 : decode prog_19_method_27_code 12 = .ok (.ifCond .ne 10, 3) := by decide +kernel
theorem d_19_27_15 : decode prog_19_method_27_code 15 = .ok (.iload_n 3, 1) := by decide +kernel
theorem d_19_27_16 : decode prog_19_method_27_code 16 = .ok (.invokestatic 91, 3) := by decide +kernel
theorem d_19_27_19 : decode prog_19_method_27_code 19 = .ok (.ifCond .eq 7, 3) := by decide +kernel
theorem d_19_27_26 : decode prog_19_method_27_code 26 = .ok (.aload_n 0, 1) := by decide +kernel
theorem d_19_27_27 : decode prog_19_method_27_code 27 = .ok (.iload_n 2, 1) := by decide +kernel
theorem d_19_27_28 : decode prog_19_method_27_code 28 = .ok (.invokevirtual 125, 3) := by decide +kernel
theorem w_2719 : (Cond.code ({ cls := "NumberHouseModel$WholeRows", name := "isAbove0", desc := "(I)Z" } : MethodName) prog_19_method_25_code (2 : Nat) (some .boolean)) ∈ q_tbl := q_of 2719 (by decide +kernel) (by decide +kernel)
theorem w_2716 : (Cond.methodLink "NumberHouseModel$WholeRows" (125 : Nat) ({ cls := "NumberHouseModel$WholeRows", name := "isAbove0", desc := "(I)Z" } : MethodName)) ∈ q_tbl := q_of 2716 (by decide +kernel) (by decide +kernel)
theorem w_2718 : (Cond.instanceMethod ({ cls := "NumberHouseModel$WholeRows", name := "isAbove0", desc := "(I)Z" } : MethodName)) ∈ q_tbl := q_of 2718 (by decide +kernel) (by decide +kernel)
theorem ws_105 : Cond.selects "NumberHouseModel$WholeRows" (⟨"NumberHouseModel$WholeRows", "isAbove0", "(I)Z"⟩ : MethodName) (⟨"NumberHouseModel$WholeRows", "isAbove0", "(I)Z"⟩ : MethodName) ∈ q_tbl := q_ofs 105 (by decide +kernel) (by decide +kernel)
theorem LV_WR_125 : q_LV "NumberHouseModel$WholeRows" 125 y_WR_isAbove0 prog_19_method_25_code 2 (some .boolean) 1 := ⟨w_2719, w_15, w_2716, w_2718, ws_105, ⟨by decide, by decide, by decide +kernel⟩⟩
theorem d_19_27_31 : decode prog_19_method_27_code 31 = .ok (.ifCond .ne 7, 3) := by decide +kernel
theorem d_19_27_34 : decode prog_19_method_27_code 34 = .ok (.iconst 2, 1) := by decide +kernel
theorem d_19_27_35 : decode prog_19_method_27_code 35 = .ok (.goto 4, 3) := by decide +kernel
theorem d_19_27_39 : decode prog_19_method_27_code 39 = .ok (.putfield 53, 3) := by decide +kernel
theorem d_19_27_42 : decode prog_19_method_27_code 42 = .ok (.aload_n 0, 1) := by decide +kernel
theorem d_19_27_43 : decode prog_19_method_27_code 43 = .ok (.getfield 53, 3) := by decide +kernel
theorem d_19_27_46 : decode prog_19_method_27_code 46 = .ok (.ifCond .le 4, 3) := by decide +kernel
theorem d_19_27_49 : decode prog_19_method_27_code 49 = .ok (.return_, 1) := by decide +kernel
def y_WR_modulo : MethodName := ⟨"NumberHouseModel$WholeRows", "modulo", "(III)V"⟩
set_option maxRecDepth 100000 in
set_option maxHeartbeats 4000000 in
theorem c_WR_modulo (l : Launch) (D : va_G) (g : Nat → ClassId) (ws : va_W) (kO0 kA2 kA3 qO0 qA1 qA2 qA3 qA4 qA5 qA6 qA7 qA8 qA9 qA10 qA11 qA12 qA13 qA14 : Nat) (x1 : Int32) (x2 : Int32) (x3 : Int32) (hO0 : ws[kO0]? = (some (qO0, .inr (13, [.int 0, .int 0, .ref qA1, .int 0, .ref qA2, .ref qA3, .ref qA4, .int 0, .ref qA5, .ref qA6, .ref qA7, .ref qA8, .ref qA9, .ref qA10, .ref qA11, .ref qA12, .int 0, .int 0, .ref qA13, .ref qA14, .int 0])) : Option (Nat × va_E))) (hA2 : ws[kA2]? = (some (qA2, .inl (g 0, 1408, .inl (fun _ => 0))) : Option (Nat × va_E))) (hA3 : ws[kA3]? = (some (qA3, .inl (g 3, 11, .inl (fun _ => 0))) : Option (Nat × va_E))) (x1lo : 0 ≤ x1) (x1hi : x1 ≤ 9) (x2lo : 0 ≤ x2) (x2hi : x2 ≤ 9) (x3lo : 0 ≤ x3) (x3hi : x3 ≤ 9) : q_mV l y_WR_modulo prog_19_method_27_code 4 3 0 0 D g [.ref qO0, .int x1, .int x2, .int x3] ws (fun u => q_un ws u [kO0] ∧ u[kO0]? = (some (qO0, .inr (13, [.int 2, .int 0, .ref qA1, .int 0, .ref qA2, .ref qA3, .ref qA4, .int 0, .ref qA5, .ref qA6, .ref qA7, .ref qA8, .ref qA9, .ref qA10, .ref qA11, .ref qA12, .int 0, .int 0, .ref qA13, .ref qA14, .int 0])) : Option (Nat × va_E))) := by
  intro sz
  refine q_into (by decide) (Nat.le_of_ble_eq_true rfl) ?_
  intro p e s m below meth c ls hsz C0 V hl
  have hx := C0.1
  have hb := C0.2.1
  have hl : lv_has ls 4 [(0, .ref qO0), (1, .int x1), (2, .int x2), (3, .int x3)] := hl
  have n_A2_O0 := q_df hA2 hO0
  have n_A3_O0 := q_df hA3 hO0
  have hF : q_un ws ws [kO0] := q_u0
  refine lv_aload_n hx hb d_19_27_0 rfl (lv_at hl 0 rfl) ?_
  refine lv_iload_n hx hb d_19_27_1 rfl (lv_at hl 1 rfl) ?_
  refine q_goi V (q_runS (As := [.int x1]) (rest := [.ref qO0]) (d := 1) (mc := 0) (ms := 0) C0 V rfl LS_WR_91 (c_WR_no l D g ws x1 x1lo x1hi _) rfl hl.1 rfl (Nat.le_of_ble_eq_true rfl) ⟨by decide, by decide⟩ ⟨Nat.le_of_ble_eq_true rfl, Nat.le_of_ble_eq_true rfl⟩ d_19_27_2) (fun v3 u2 H locs hp1 V => ?_)
  obtain ⟨rfl, rfl⟩ := hp1
  refine lv_if_ne (tgt := 22) hx hb d_19_27_5 (by decide) (fun c5 => absurd (by decide) c5) (fun c5 => ?_)
  refine lv_iload_n hx hb d_19_27_8 rfl (lv_at hl 2 rfl) ?_
  refine q_goi V (q_runS (As := [.int x2]) (rest := [.ref qO0]) (d := 1) (mc := 0) (ms := 0) C0 V rfl LS_WR_91 (c_WR_no l D g ws x2 x2lo x2hi _) rfl hl.1 rfl (Nat.le_of_ble_eq_true rfl) ⟨by decide, by decide⟩ ⟨Nat.le_of_ble_eq_true rfl, Nat.le_of_ble_eq_true rfl⟩ d_19_27_9) (fun v8 u7 H locs hp6 V => ?_)
  obtain ⟨rfl, rfl⟩ := hp6
  refine lv_if_ne (tgt := 22) hx hb d_19_27_12 (by decide) (fun c10 => absurd (by decide) c10) (fun c10 => ?_)
  refine lv_iload_n hx hb d_19_27_15 rfl (lv_at hl 3 rfl) ?_
  refine q_goi V (q_runS (As := [.int x3]) (rest := [.ref qO0]) (d := 1) (mc := 0) (ms := 0) C0 V rfl LS_WR_91 (c_WR_no l D g ws x3 x3lo x3hi _) rfl hl.1 rfl (Nat.le_of_ble_eq_true rfl) ⟨by decide, by decide⟩ ⟨Nat.le_of_ble_eq_true rfl, Nat.le_of_ble_eq_true rfl⟩ d_19_27_16) (fun v13 u12 H locs hp11 V => ?_)
  obtain ⟨rfl, rfl⟩ := hp11
  refine lv_if_eq (tgt := 26) hx hb d_19_27_19 (by decide) (fun c15 => ?_) (fun c15 => absurd (by decide) c15)
  refine lv_aload_n hx hb d_19_27_26 rfl (lv_at hl 0 rfl) ?_
  refine lv_iload_n hx hb d_19_27_27 rfl (lv_at hl 2 rfl) ?_
  refine q_goi V (q_runV (As := [.int x2]) (rest := [.ref qO0]) (d := 2) (mc := 0) (ms := 0) (ci := 13) C0 V rfl LV_WR_125 (c_WR_isAbove0 l D g ws kO0 kA2 kA3 qO0 qA1 qA2 qA3 qA4 qA5 qA6 qA7 qA8 qA9 qA10 qA11 qA12 qA13 qA14 x2 hO0 hA2 hA3 x2lo x2hi _) rfl rfl hO0 rfl hl.1 rfl (Nat.le_of_ble_eq_true rfl) ⟨by decide, by decide⟩ ⟨Nat.le_of_ble_eq_true rfl, Nat.le_of_ble_eq_true rfl⟩ d_19_27_28) (fun v18 u17 H locs hp16 V => ?_)
  obtain ⟨rfl, rfl⟩ := hp16
  refine lv_if_ne (tgt := 38) hx hb d_19_27_31 (by decide) (fun c20 => absurd (by decide) c20) (fun c20 => ?_)
  refine lv_iconst (v := 2) hx hb d_19_27_34 (by decide) ?_
  refine lv_goto (tgt := 39) hx hb d_19_27_35 (by decide) ?_
  refine q_put (ci := 13) (j := 0) (v := .int 2) (ty := .int) C0 V i_WR o_WR n_WR rfl rfl hO0 (by decide) w_1921 rfl rfl rfl rfl (Nat.le_of_ble_eq_true rfl) d_19_27_39 (fun H locs w21 hu22 hO0 V => ?_)
  replace hO0 : w21[kO0]? = (some (qO0, .inr (13, [.int 2, .int 0, .ref qA1, .int 0, .ref qA2, .ref qA3, .ref qA4, .int 0, .ref qA5, .ref qA6, .ref qA7, .ref qA8, .ref qA9, .ref qA10, .ref qA11, .ref qA12, .int 0, .int 0, .ref qA13, .ref qA14, .int 0])) : Option (Nat × va_E)) := hO0
  replace hF := q_us hF hu22 (.head _)
  refine lv_aload_n hx hb d_19_27_42 rfl (lv_at hl 0 rfl) ?_
  refine q_get (ci := 13) (j := 0) (v := .int 2) C0 V i_WR rfl rfl hO0 (by decide) w_1921 rfl d_19_27_43 ?_
  refine lv_if_le (tgt := 50) hx hb d_19_27_46 (by decide) (fun c23 => absurd c23 (by decide)) (fun c23 => ?_)
  exact q_retv C0 V (⟨hF, hO0⟩) d_19_27_49
set_option maxRecDepth 100000 in
set_option maxHeartbeats 4000000 in
theorem c_WR_store_2 (l : Launch) (D : va_G) (g : Nat → ClassId) (ws : va_W) (kO0 kA2 kA3 kA4 qO0 qA1 qA2 qA3 qA4 qA5 qA6 qA7 qA8 qA9 qA10 qA11 qA12 qA13 qA14 : Nat) (x1 : Int32) (hO0 : ws[kO0]? = (some (qO0, .inr (13, [.int 0, .int 0, .ref qA1, .int 0, .ref qA2, .ref qA3, .ref qA4, .int 0, .ref qA5, .ref qA6, .ref qA7, .ref qA8, .ref qA9, .ref qA10, .ref qA11, .ref qA12, .int 0, .int 0, .ref qA13, .ref qA14, .int 0])) : Option (Nat × va_E))) (hA2 : ws[kA2]? = (some (qA2, .inl (g 0, 1408, .inl (fun _ => 0))) : Option (Nat × va_E))) (hA3 : ws[kA3]? = (some (qA3, .inl (g 3, 11, .inl (fun _ => 0))) : Option (Nat × va_E))) (hA4 : ws[kA4]? = (some (qA4, .inl (g 0, 264, .inl (fun _ => 0))) : Option (Nat × va_E))) (n_A2_A3 : kA2 ≠ kA3) (n_A4_A2 : kA4 ≠ kA2) (n_A4_A3 : kA4 ≠ kA3) (x1lo : 0 ≤ x1) (x1hi : x1 ≤ 9) : q_mV l y_WR_store prog_19_method_15_code 4 2 0 0 D g [.ref qO0, .int x1] ws (fun u => q_un ws u [kA2, kA3] ∧ u[kA2]? = (some (qA2, .inl (g 0, 1408, .inl (fun _ => 0))) : Option (Nat × va_E)) ∧ u[kA3]? = (some (qA3, .inl (g 3, 11, .inl (fun _ => 0))) : Option (Nat × va_E))) := by
  intro sz
  refine q_into (by decide) (Nat.le_of_ble_eq_true rfl) ?_
  intro p e s m below meth c ls hsz C0 V hl
  have hx := C0.1
  have hb := C0.2.1
  have hl : lv_has ls 4 [(0, .ref qO0), (1, .int x1)] := hl
  have n_A3_A2 := Ne.symm n_A2_A3
  have n_O0_A2 := Ne.symm (q_df hA2 hO0)
  have n_O0_A3 := Ne.symm (q_df hA3 hO0)
  have hF : q_un ws ws [kA2, kA3] := q_u0
  refine lv_aload_n hx hb d_19_15_0 rfl (lv_at hl 0 rfl) ?_
  refine q_get (ci := 13) (j := 6) (v := .ref qA4) C0 V i_WR rfl rfl hO0 (by decide) w_1930 rfl d_19_15_1 ?_
  refine q_goi V (q_runS (As := [.ref qA4]) (rest := []) (d := 1) (mc := 0) (ms := 0) C0 V rfl LS_WR_59 (c_WR_size l D g ws kA4 qA4 hA4 _) rfl hl.1 rfl (Nat.le_of_ble_eq_true rfl) ⟨by decide, by decide⟩ ⟨Nat.le_of_ble_eq_true rfl, Nat.le_of_ble_eq_true rfl⟩ d_19_15_4) (fun v3 u2 H locs hp1 V => ?_)
  obtain ⟨rfl, rfl⟩ := hp1
  refine lv_sipush (v := 128) hx hb d_19_15_7 (by decide) ?_
  refine lv_icmp_le (tgt := 22) hx hb d_19_15_10 (by decide) (fun c5 => ?_) (fun c5 => absurd (by decide) c5)
  refine lv_iconst (v := 0) hx hb d_19_15_22 (by decide) ?_
  refine lv_istore_n (lv' := [(2, .int 0), (0, .ref qO0), (1, .int x1)]) hx hb d_19_15_23 rfl hl (by decide) rfl (fun ls hl => ?_)
  refine lv_iconst (v := 0) hx hb d_19_15_24 (by decide) ?_
  refine lv_istore_n (lv' := [(3, .int 0), (2, .int 0), (0, .ref qO0), (1, .int x1)]) hx hb d_19_15_25 rfl hl (by decide) rfl (fun ls hl => ?_)
  refine q_loop (X := Int32) (fun z H locs ls w7 => (0 ≤ z.toInt ∧ (z.toInt ≤ 128 ∨ z.toInt = 0)) ∧ q_Wd D g (va_A ws sz) s w7 H locs ∧ lv_has ls 4 [(3, .int z), (2, .int 0), (0, .ref qO0), (1, .int x1)] ∧ q_un ws w7 [kA2, kA3] ∧ w7[kO0]? = (some (qO0, .inr (13, [.int 0, .int 0, .ref qA1, .int 0, .ref qA2, .ref qA3, .ref qA4, .int 0, .ref qA5, .ref qA6, .ref qA7, .ref qA8, .ref qA9, .ref qA10, .ref qA11, .ref qA12, .int 0, .int 0, .ref qA13, .ref qA14, .int 0])) : Option (Nat × va_E)) ∧ w7[kA2]? = (some (qA2, .inl (g 0, 1408, .inl (fun _ => 0))) : Option (Nat × va_E)) ∧ w7[kA3]? = (some (qA3, .inl (g 3, 11, .inl (fun _ => 0))) : Option (Nat × va_E)) ∧ w7[kA4]? = (some (qA4, .inl (g 0, 264, .inl (fun _ => 0))) : Option (Nat × va_E))) (fun z => (128 - z.toInt).toNat) ?_ ((0 : Int32)) _ _ _ ws ⟨⟨by decide, Or.inr (by decide)⟩, V, hl, hF, hO0, hA2, hA3, hA4⟩
  rintro lx6 H locs ls w7 ⟨i8, V, hl, hF, hO0, hA2, hA3, hA4⟩ ih9
  replace i8 : 0 ≤ lx6.toInt ∧ (lx6.toInt ≤ 128 ∨ lx6.toInt = 0) := i8
  replace hl : lv_has ls 4 [(3, .int lx6), (2, .int 0), (0, .ref qO0), (1, .int x1)] := hl
  replace hO0 : w7[kO0]? = (some (qO0, .inr (13, [.int 0, .int 0, .ref qA1, .int 0, .ref qA2, .ref qA3, .ref qA4, .int 0, .ref qA5, .ref qA6, .ref qA7, .ref qA8, .ref qA9, .ref qA10, .ref qA11, .ref qA12, .int 0, .int 0, .ref qA13, .ref qA14, .int 0])) : Option (Nat × va_E)) := hO0
  replace hA2 : w7[kA2]? = (some (qA2, .inl (g 0, 1408, .inl (fun _ => 0))) : Option (Nat × va_E)) := hA2
  replace hA3 : w7[kA3]? = (some (qA3, .inl (g 3, 11, .inl (fun _ => 0))) : Option (Nat × va_E)) := hA3
  replace hA4 : w7[kA4]? = (some (qA4, .inl (g 0, 264, .inl (fun _ => 0))) : Option (Nat × va_E)) := hA4
  refine lv_iload_n hx hb d_19_15_26 rfl (lv_at hl 0 rfl) ?_
  refine lv_sipush (v := 128) hx hb d_19_15_27 (by decide) ?_
  refine lv_icmp_ge (tgt := 76) hx hb d_19_15_30 (by decide) (fun c10 => ?_) (fun c10 => ?_)
  ·
    refine lv_aload_n hx hb d_19_15_76 rfl (lv_at hl 2 rfl) ?_
    refine q_get (ci := 13) (j := 5) (v := .ref qA3) C0 V i_WR rfl rfl hO0 (by decide) w_1929 rfl d_19_15_77 ?_
    refine lv_iload_n hx hb d_19_15_80 rfl (lv_at hl 3 rfl) ?_
    refine lv_aload_n hx hb d_19_15_81 rfl (lv_at hl 2 rfl) ?_
    refine q_get (ci := 13) (j := 7) (v := .int 0) C0 V i_WR rfl rfl hO0 (by decide) w_1931 rfl d_19_15_82 ?_
    refine lv_if_eq (tgt := 96) hx hb d_19_15_85 (by decide) (fun c11 => ?_) (fun c11 => absurd (by decide) c11)
    refine lv_iconst (v := 0) hx hb d_19_15_96 (by decide) ?_
    refine q_zast C0 V hA3 (q_ix (x := x1.toInt) rfl (by have t1 : 0 ≤ x1.toInt := q_leI x1lo; have t2 : x1.toInt ≤ 9 := q_leI x1hi; omega) (by have t1 : 0 ≤ x1.toInt := q_leI x1lo; have t2 : x1.toInt ≤ 9 := q_leI x1hi; omega)) d_19_15_97 (fun H locs w12 hu13 hA3 V => ?_)
    replace hA3 := q_re (y := (qA3, .inl (g 3, 11, .inl (fun _ => 0)))) hA3 (q_eI q_upd0)
    replace hA3 : w12[kA3]? = (some (qA3, .inl (g 3, 11, .inl (fun _ => 0))) : Option (Nat × va_E)) := hA3
    replace hF := q_us hF hu13 (.tail _ (.head _))
    replace hA2 := (hu13 _ n_A2_A3).trans (hA2)
    exact q_retv C0 V (⟨hF, hA2, hA3⟩) d_19_15_98
  ·
    refine lv_aload_n hx hb d_19_15_33 rfl (lv_at hl 2 rfl) ?_
    refine q_get (ci := 13) (j := 4) (v := .ref qA2) C0 V i_WR rfl rfl hO0 (by decide) w_1928 rfl d_19_15_34 ?_
    refine lv_sipush (v := 128) hx hb d_19_15_37 (by decide) ?_
    refine lv_iload_n hx hb d_19_15_40 rfl (lv_at hl 3 rfl) ?_
    refine lv_imul hx hb d_19_15_41 ?_
    refine lv_iload_n hx hb d_19_15_42 rfl (lv_at hl 0 rfl) ?_
    refine lv_iadd hx hb d_19_15_43 ?_
    refine lv_aload_n hx hb d_19_15_44 rfl (lv_at hl 2 rfl) ?_
    refine q_get (ci := 13) (j := 6) (v := .ref qA4) C0 V i_WR rfl rfl hO0 (by decide) w_1930 rfl d_19_15_45 ?_
    refine lv_iload_n hx hb d_19_15_48 rfl (lv_at hl 0 rfl) ?_
    refine q_iald C0 V hA4 (q_ix (x := lx6.toInt) rfl (by have t1 : lx6.toInt < 128 := q_nleI c10; omega) (by have t1 : lx6.toInt < 128 := q_nleI c10; omega)) d_19_15_49 ?_
    refine q_ti (v := 0) (by first | rfl | decide | simp [upd, vp_updL, sb_cl0]) ?_
    refine q_iast C0 V hA2 (q_ix (x := ((128 * x1.toInt) + lx6.toInt)) (q_addI (x := (128 * x1.toInt)) (y := lx6.toInt) (q_mulI (x := 128) (y := x1.toInt) (by decide) rfl (by have t1 : 0 ≤ x1.toInt := q_leI x1lo; have t2 : x1.toInt ≤ 9 := q_leI x1hi; omega) (by have t1 : 0 ≤ x1.toInt := q_leI x1lo; have t2 : x1.toInt ≤ 9 := q_leI x1hi; omega)) rfl (by have t1 : 0 ≤ x1.toInt := q_leI x1lo; have t2 : x1.toInt ≤ 9 := q_leI x1hi; have t3 : lx6.toInt < 128 := q_nleI c10; omega) (by have t1 : 0 ≤ x1.toInt := q_leI x1lo; have t2 : x1.toInt ≤ 9 := q_leI x1hi; have t3 : lx6.toInt < 128 := q_nleI c10; omega)) (by have t1 : 0 ≤ x1.toInt := q_leI x1lo; have t2 : x1.toInt ≤ 9 := q_leI x1hi; have t3 : lx6.toInt < 128 := q_nleI c10; omega) (by have t1 : 0 ≤ x1.toInt := q_leI x1lo; have t2 : x1.toInt ≤ 9 := q_leI x1hi; have t3 : lx6.toInt < 128 := q_nleI c10; omega)) d_19_15_50 (fun H locs w14 hu15 hA2 V => ?_)
    replace hA2 := q_re (y := (qA2, .inl (g 0, 1408, .inl (fun _ => 0)))) hA2 (q_eI q_upd0)
    replace hA2 : w14[kA2]? = (some (qA2, .inl (g 0, 1408, .inl (fun _ => 0))) : Option (Nat × va_E)) := hA2
    replace hF := q_us hF hu15 (.head _)
    refine lv_iload_n hx hb d_19_15_51 rfl (lv_at hl 1 rfl) ?_
    refine lv_if_ne (tgt := 64) hx hb d_19_15_52 (by decide) (fun c16 => absurd (by decide) c16) (fun c16 => ?_)
    refine lv_aload_n hx hb d_19_15_55 rfl (lv_at hl 2 rfl) ?_
    replace hO0 := (hu15 _ n_O0_A2).trans (hO0)
    refine q_get (ci := 13) (j := 6) (v := .ref qA4) C0 V i_WR rfl rfl hO0 (by decide) w_1930 rfl d_19_15_56 ?_
    refine lv_iload_n hx hb d_19_15_59 rfl (lv_at hl 0 rfl) ?_
    replace hA4 := (hu15 _ n_A4_A2).trans (hA4)
    refine q_iald C0 V hA4 (q_ix (x := lx6.toInt) rfl (by have t1 : lx6.toInt < 128 := q_nleI c10; omega) (by have t1 : lx6.toInt < 128 := q_nleI c10; omega)) d_19_15_60 ?_
    refine q_ti (v := 0) (by first | rfl | decide | simp [upd, vp_updL, sb_cl0]) ?_
    refine lv_if_eq (tgt := 68) hx hb d_19_15_61 (by decide) (fun c17 => ?_) (fun c17 => absurd (by decide) c17)
    refine lv_iconst (v := 0) hx hb d_19_15_68 (by decide) ?_
    refine lv_istore_n (lv' := [(2, .int 0), (3, .int lx6), (0, .ref qO0), (1, .int x1)]) hx hb d_19_15_69 rfl hl (by decide) rfl (fun ls hl => ?_)
    refine lv_iinc (v := lx6 + 1) (lv' := [(3, .int (lx6 + 1)), (2, .int 0), (0, .ref qO0), (1, .int x1)]) hx hb d_19_15_70 hl (k := 1) rfl (rfl) (by decide) rfl (fun ls hl => ?_)
    refine lv_goto (tgt := 26) hx hb d_19_15_73 (by decide) ?_
    replace hA3 := (hu15 _ n_A3_A2).trans (hA3)
    exact ih9 ((lx6 + 1 : Int32)) _ _ _ _ (show (128 - (lx6 + 1).toInt).toNat < (128 - lx6.toInt).toNat from by have t1 : lx6.toInt < 128 := q_nleI c10; have e : (lx6 + 1).toInt = (lx6.toInt + 1) := (q_addI (x := lx6.toInt) (y := 1) rfl (by decide) (by have t1 : lx6.toInt < 128 := q_nleI c10; omega) (by have t1 : lx6.toInt < 128 := q_nleI c10; omega)); omega) ⟨(show 0 ≤ (lx6 + 1).toInt ∧ ((lx6 + 1).toInt ≤ 128 ∨ (lx6 + 1).toInt = 0) from by have t1 : lx6.toInt < 128 := q_nleI c10; have e : (lx6 + 1).toInt = (lx6.toInt + 1) := (q_addI (x := lx6.toInt) (y := 1) rfl (by decide) (by have t1 : lx6.toInt < 128 := q_nleI c10; omega) (by have t1 : lx6.toInt < 128 := q_nleI c10; omega)); omega), V, q_lw hl (q_lw1 0 rfl (q_lw1 1 rfl (q_lw1 2 rfl (q_lw1 3 rfl q_lw0)))), hF, hO0, hA2, hA3, hA4⟩
theorem d_19_32_0 : decode prog_19_method_32_code 0 = .ok (.aload_n 0, 1) := by decide +kernel
theorem d_19_32_1 : decode prog_19_method_32_code 1 = .ok (.iload_n 1, 1) := by decide +kernel
theorem d_19_32_2 : decode prog_19_method_32_code 2 = .ok (.invokestatic 91, 3) := by decide +kernel
theorem d_19_32_5 : decode prog_19_method_32_code 5 = .ok (.ifCond .ne 17, 3) := by decide +kernel
theorem d_19_32_8 : decode prog_19_method_32_code 8 = .ok (.iload_n 2, 1) := by decide +kernel
theorem d_19_32_9 : decode prog_19_method_32_code 9 = .ok (.invokestatic 91, 3) := by decide +kernel
theorem d_19_32_12 : decode prog_19_method_32_code 12 = .ok (.ifCond .ne 10, 3) := by decide +kernel
theorem d_19_32_15 : decode prog_19_method_32_code 15 = .ok (.iload_n 3, 1) := by decide +kernel
theorem d_19_32_16 : decode prog_19_method_32_code 16 = .ok (.invokestatic 91, 3) := by decide +kernel
theorem d_19_32_19 : decode prog_19_method_32_code 19 = .ok (.ifCond .eq 7, 3) := by decide +kernel
theorem d_19_32_26 : decode prog_19_method_32_code 26 = .ok (.iconst 0, 1) := by decide +kernel
theorem d_19_32_27 : decode prog_19_method_32_code 27 = .ok (.putfield 53, 3) := by decide +kernel
theorem d_19_32_30 : decode prog_19_method_32_code 30 = .ok (.aload_n 0, 1) := by decide +kernel
theorem d_19_32_31 : decode prog_19_method_32_code 31 = .ok (.getfield 53, 3) := by decide +kernel
theorem d_19_32_34 : decode prog_19_method_32_code 34 = .ok (.ifCond .le 4, 3) := by decide +kernel
theorem d_19_32_38 : decode prog_19_method_32_code 38 = .ok (.aload_n 0, 1) := by decide +kernel
theorem d_19_32_39 : decode prog_19_method_32_code 39 = .ok (.iload_n 1, 1) := by decide +kernel
theorem d_19_32_40 : decode prog_19_method_32_code 40 = .ok (.aload_n 0, 1) := by decide +kernel
theorem d_19_32_41 : decode prog_19_method_32_code 41 = .ok (.getfield 35, 3) := by decide +kernel
theorem d_19_32_44 : decode prog_19_method_32_code 44 = .ok (.invokevirtual 107, 3) := by decide +kernel
theorem d_19_32_47 : decode prog_19_method_32_code 47 = .ok (.aload_n 0, 1) := by decide +kernel
theorem d_19_32_48 : decode prog_19_method_32_code 48 = .ok (.iload_n 2, 1) := by decide +kernel
theorem d_19_32_49 : decode prog_19_method_32_code 49 = .ok (.aload_n 0, 1) := by decide +kernel
theorem d_19_32_50 : decode prog_19_method_32_code 50 = .ok (.getfield 38, 3) := by decide +kernel
theorem d_19_32_53 : decode prog_19_method_32_code 53 = .ok (.invokevirtual 107, 3) := by decide +kernel
theorem d_19_32_56 : decode prog_19_method_32_code 56 = .ok (.aload_n 0, 1) := by decide +kernel
theorem d_19_32_57 : decode prog_19_method_32_code 57 = .ok (.getfield 38, 3) := by decide +kernel
theorem d_19_32_60 : decode prog_19_method_32_code 60 = .ok (.invokestatic 59, 3) := by decide +kernel
theorem d_19_32_63 : decode prog_19_method_32_code 63 = .ok (.ifCond .le 40, 3) := by decide +kernel
theorem d_19_32_103 : decode prog_19_method_32_code 103 = .ok (.aload_n 0, 1) := by decide +kernel
theorem d_19_32_104 : decode prog_19_method_32_code 104 = .ok (.getfield 35, 3) := by decide +kernel
theorem d_19_32_107 : decode prog_19_method_32_code 107 = .ok (.aload_n 0, 1) := by decide +kernel
theorem d_19_32_108 : decode prog_19_method_32_code 108 = .ok (.getfield 20, 3) := by decide +kernel
theorem d_19_32_111 : decode prog_19_method_32_code 111 = .ok (.invokestatic 67, 3) := by decide +kernel
theorem d_19_32_114 : decode prog_19_method_32_code 114 = .ok (.aload_n 0, 1) := by decide +kernel
theorem d_19_32_115 : decode prog_19_method_32_code 115 = .ok (.iconst 0, 1) := by decide +kernel
theorem d_19_32_116 : decode prog_19_method_32_code 116 = .ok (.putfield 82, 3) := by decide +kernel
theorem d_19_32_119 : decode prog_19_method_32_code 119 = .ok (.aload_n 0, 1) := by decide +kernel
theorem d_19_32_120 : decode prog_19_method_32_code 120 = .ok (.iload_n 3, 1) := by decide +kernel
theorem d_19_32_121 : decode prog_19_method_32_code 121 = .ok (.invokevirtual 103, 3) := by decide +kernel
theorem d_19_32_124 : decode prog_19_method_32_code 124 = .ok (.return_, 1) := by decide +kernel
def y_WR_common : MethodName := ⟨"NumberHouseModel$WholeRows", "common", "(III)V"⟩
set_option maxRecDepth 100000 in
set_option maxHeartbeats 4000000 in
theorem c_WR_common (l : Launch) (D : va_G) (g : Nat → ClassId) (ws : va_W) (kO0 kA2 kA3 kA4 kA9 kA10 qO0 qA1 qA2 qA3 qA4 qA5 qA6 qA7 qA8 qA9 qA10 qA11 qA12 qA13 qA14 : Nat) (x1 : Int32) (x2 : Int32) (x3 : Int32) (hO0 : ws[kO0]? = (some (qO0, .inr (13, [.int 0, .int 0, .ref qA1, .int 0, .ref qA2, .ref qA3, .ref qA4, .int 0, .ref qA5, .ref qA6, .ref qA7, .ref qA8, .ref qA9, .ref qA10, .ref qA11, .ref qA12, .int 0, .int 0, .ref qA13, .ref qA14, .int 0])) : Option (Nat × va_E))) (hA2 : ws[kA2]? = (some (qA2, .inl (g 0, 1408, .inl (fun _ => 0))) : Option (Nat × va_E))) (hA3 : ws[kA3]? = (some (qA3, .inl (g 3, 11, .inl (fun _ => 0))) : Option (Nat × va_E))) (hA4 : ws[kA4]? = (some (qA4, .inl (g 0, 264, .inl (fun _ => 0))) : Option (Nat × va_E))) (hA9 : ws[kA9]? = (some (qA9, .inl (g 0, 264, .inl (fun _ => 0))) : Option (Nat × va_E))) (hA10 : ws[kA10]? = (some (qA10, .inl (g 0, 264, .inl (fun _ => 0))) : Option (Nat × va_E))) (n_A10_A2 : kA10 ≠ kA2) (n_A10_A3 : kA10 ≠ kA3) (n_A10_A4 : kA10 ≠ kA4) (n_A10_A9 : kA10 ≠ kA9) (n_A2_A3 : kA2 ≠ kA3) (n_A2_A4 : kA2 ≠ kA4) (n_A2_A9 : kA2 ≠ kA9) (n_A3_A4 : kA3 ≠ kA4) (n_A3_A9 : kA3 ≠ kA9) (n_A4_A9 : kA4 ≠ kA9) (x1lo : 0 ≤ x1) (x1hi : x1 ≤ 9) (x2lo : 0 ≤ x2) (x2hi : x2 ≤ 9) (x3lo : 0 ≤ x3) (x3hi : x3 ≤ 9) : q_mV l y_WR_common prog_19_method_32_code 4 3 0 0 D g [.ref qO0, .int x1, .int x2, .int x3] ws (fun u => q_un ws u [kO0, kA2, kA3, kA4, kA9, kA10] ∧ u[kO0]? = (some (qO0, .inr (13, [.int 0, .int 0, .ref qA1, .int 0, .ref qA2, .ref qA3, .ref qA4, .int 0, .ref qA5, .ref qA6, .ref qA7, .ref qA8, .ref qA9, .ref qA10, .ref qA11, .ref qA12, .int 0, .int 0, .ref qA13, .ref qA14, .int 0])) : Option (Nat × va_E)) ∧ u[kA2]? = (some (qA2, .inl (g 0, 1408, .inl (fun _ => 0))) : Option (Nat × va_E)) ∧ u[kA3]? = (some (qA3, .inl (g 3, 11, .inl (fun _ => 0))) : Option (Nat × va_E)) ∧ u[kA4]? = (some (qA4, .inl (g 0, 264, .inl (fun _ => 0))) : Option (Nat × va_E)) ∧ u[kA9]? = (some (qA9, .inl (g 0, 264, .inl (fun _ => 0))) : Option (Nat × va_E)) ∧ u[kA10]? = (some (qA10, .inl (g 0, 264, .inl (fun _ => 0))) : Option (Nat × va_E))) := by
  intro sz
  refine q_into (by decide) (Nat.le_of_ble_eq_true rfl) ?_
  intro p e s m below meth c ls hsz C0 V hl
  have hx := C0.1
  have hb := C0.2.1
  have hl : lv_has ls 4 [(0, .ref qO0), (1, .int x1), (2, .int x2), (3, .int x3)] := hl
  have n_A10_O0 := q_df hA10 hO0
  have n_A2_A10 := Ne.symm n_A10_A2
  have n_A2_O0 := q_df hA2 hO0
  have n_A3_A10 := Ne.symm n_A10_A3
  have n_A3_O0 := q_df hA3 hO0
  have n_A4_A10 := Ne.symm n_A10_A4
  have n_A4_A2 := Ne.symm n_A2_A4
  have n_A4_A3 := Ne.symm n_A3_A4
  have n_A4_O0 := q_df hA4 hO0
  have n_A9_A10 := Ne.symm n_A10_A9
  have n_A9_A2 := Ne.symm n_A2_A9
  have n_A9_A3 := Ne.symm n_A3_A9
  have n_A9_A4 := Ne.symm n_A4_A9
  have n_A9_O0 := q_df hA9 hO0
  have n_O0_A10 := Ne.symm (q_df hA10 hO0)
  have n_O0_A2 := Ne.symm (q_df hA2 hO0)
  have n_O0_A3 := Ne.symm (q_df hA3 hO0)
  have n_O0_A4 := Ne.symm (q_df hA4 hO0)
  have n_O0_A9 := Ne.symm (q_df hA9 hO0)
  have hF : q_un ws ws [kO0, kA2, kA3, kA4, kA9, kA10] := q_u0
  refine lv_aload_n hx hb d_19_32_0 rfl (lv_at hl 0 rfl) ?_
  refine lv_iload_n hx hb d_19_32_1 rfl (lv_at hl 1 rfl) ?_
  refine q_goi V (q_runS (As := [.int x1]) (rest := [.ref qO0]) (d := 1) (mc := 0) (ms := 0) C0 V rfl LS_WR_91 (c_WR_no l D g ws x1 x1lo x1hi _) rfl hl.1 rfl (Nat.le_of_ble_eq_true rfl) ⟨by decide, by decide⟩ ⟨Nat.le_of_ble_eq_true rfl, Nat.le_of_ble_eq_true rfl⟩ d_19_32_2) (fun v3 u2 H locs hp1 V => ?_)
  obtain ⟨rfl, rfl⟩ := hp1
  refine lv_if_ne (tgt := 22) hx hb d_19_32_5 (by decide) (fun c5 => absurd (by decide) c5) (fun c5 => ?_)
  refine lv_iload_n hx hb d_19_32_8 rfl (lv_at hl 2 rfl) ?_
  refine q_goi V (q_runS (As := [.int x2]) (rest := [.ref qO0]) (d := 1) (mc := 0) (ms := 0) C0 V rfl LS_WR_91 (c_WR_no l D g ws x2 x2lo x2hi _) rfl hl.1 rfl (Nat.le_of_ble_eq_true rfl) ⟨by decide, by decide⟩ ⟨Nat.le_of_ble_eq_true rfl, Nat.le_of_ble_eq_true rfl⟩ d_19_32_9) (fun v8 u7 H locs hp6 V => ?_)
  obtain ⟨rfl, rfl⟩ := hp6
  refine lv_if_ne (tgt := 22) hx hb d_19_32_12 (by decide) (fun c10 => absurd (by decide) c10) (fun c10 => ?_)
  refine lv_iload_n hx hb d_19_32_15 rfl (lv_at hl 3 rfl) ?_
  refine q_goi V (q_runS (As := [.int x3]) (rest := [.ref qO0]) (d := 1) (mc := 0) (ms := 0) C0 V rfl LS_WR_91 (c_WR_no l D g ws x3 x3lo x3hi _) rfl hl.1 rfl (Nat.le_of_ble_eq_true rfl) ⟨by decide, by decide⟩ ⟨Nat.le_of_ble_eq_true rfl, Nat.le_of_ble_eq_true rfl⟩ d_19_32_16) (fun v13 u12 H locs hp11 V => ?_)
  obtain ⟨rfl, rfl⟩ := hp11
  refine lv_if_eq (tgt := 26) hx hb d_19_32_19 (by decide) (fun c15 => ?_) (fun c15 => absurd (by decide) c15)
  refine lv_iconst (v := 0) hx hb d_19_32_26 (by decide) ?_
  refine q_put (ci := 13) (j := 0) (v := .int 0) (ty := .int) C0 V i_WR o_WR n_WR rfl rfl hO0 (by decide) w_1921 rfl rfl rfl rfl (Nat.le_of_ble_eq_true rfl) d_19_32_27 (fun H locs w16 hu17 hO0 V => ?_)
  replace hO0 : w16[kO0]? = (some (qO0, .inr (13, [.int 0, .int 0, .ref qA1, .int 0, .ref qA2, .ref qA3, .ref qA4, .int 0, .ref qA5, .ref qA6, .ref qA7, .ref qA8, .ref qA9, .ref qA10, .ref qA11, .ref qA12, .int 0, .int 0, .ref qA13, .ref qA14, .int 0])) : Option (Nat × va_E)) := hO0
  replace hF := q_us hF hu17 (.head _)
  refine lv_aload_n hx hb d_19_32_30 rfl (lv_at hl 0 rfl) ?_
  refine q_get (ci := 13) (j := 0) (v := .int 0) C0 V i_WR rfl rfl hO0 (by decide) w_1921 rfl d_19_32_31 ?_
  refine lv_if_le (tgt := 38) hx hb d_19_32_34 (by decide) (fun c18 => ?_) (fun c18 => absurd (by decide) c18)
  refine lv_aload_n hx hb d_19_32_38 rfl (lv_at hl 0 rfl) ?_
  refine lv_iload_n hx hb d_19_32_39 rfl (lv_at hl 1 rfl) ?_
  refine lv_aload_n hx hb d_19_32_40 rfl (lv_at hl 0 rfl) ?_
  refine q_get (ci := 13) (j := 12) (v := .ref qA9) C0 V i_WR rfl rfl hO0 (by decide) w_1936 rfl d_19_32_41 ?_
  replace hA9 := (hu17 _ n_A9_O0).trans (hA9)
  replace hA2 := (hu17 _ n_A2_O0).trans (hA2)
  refine q_gov V (q_runV (As := [.int x1, .ref qA9]) (rest := []) (d := 1) (mc := 0) (ms := 0) (ci := 13) C0 V rfl LV_WR_107 (c_WR_take l D g w16 kO0 kA9 kA2 qO0 qA9 qA1 qA2 qA3 qA4 qA5 qA6 qA7 qA8 qA10 qA11 qA12 qA13 qA14 x1 hO0 hA9 hA2 n_A2_A9 x1lo x1hi _) rfl rfl hO0 rfl hl.1 rfl (Nat.le_of_ble_eq_true rfl) ⟨by decide, by decide⟩ ⟨Nat.le_of_ble_eq_true rfl, Nat.le_of_ble_eq_true rfl⟩ d_19_32_44) (fun u20 H locs hp19 V => ?_)
  obtain ⟨hg21, hA9⟩ := hp19
  replace hF := q_uc hF hg21 (q_sc (List.mem_of_getElem? (i := 4) rfl) (fun _ h => absurd h List.not_mem_nil))
  refine lv_aload_n hx hb d_19_32_47 rfl (lv_at hl 0 rfl) ?_
  refine lv_iload_n hx hb d_19_32_48 rfl (lv_at hl 2 rfl) ?_
  refine lv_aload_n hx hb d_19_32_49 rfl (lv_at hl 0 rfl) ?_
  replace hO0 := (hg21 _ (q_nc n_O0_A9 List.not_mem_nil)).trans (hO0)
  refine q_get (ci := 13) (j := 13) (v := .ref qA10) C0 V i_WR rfl rfl hO0 (by decide) w_1937 rfl d_19_32_50 ?_
  replace hA10 := (hg21 _ (q_nc n_A10_A9 List.not_mem_nil)).trans ((hu17 _ n_A10_O0).trans (hA10))
  replace hA2 := (hg21 _ (q_nc n_A2_A9 List.not_mem_nil)).trans (hA2)
  refine q_gov V (q_runV (As := [.int x2, .ref qA10]) (rest := []) (d := 1) (mc := 0) (ms := 0) (ci := 13) C0 V rfl LV_WR_107 (c_WR_take_2 l D g u20 kO0 kA10 kA2 qO0 qA10 qA1 qA2 qA3 qA4 qA5 qA6 qA7 qA8 qA9 qA11 qA12 qA13 qA14 x2 hO0 hA10 hA2 n_A2_A10 x2lo x2hi _) rfl rfl hO0 rfl hl.1 rfl (Nat.le_of_ble_eq_true rfl) ⟨by decide, by decide⟩ ⟨Nat.le_of_ble_eq_true rfl, Nat.le_of_ble_eq_true rfl⟩ d_19_32_53) (fun u23 H locs hp22 V => ?_)
  obtain ⟨hg24, hA10⟩ := hp22
  replace hF := q_uc hF hg24 (q_sc (List.mem_of_getElem? (i := 5) rfl) (fun _ h => absurd h List.not_mem_nil))
  refine lv_aload_n hx hb d_19_32_56 rfl (lv_at hl 0 rfl) ?_
  replace hO0 := (hg24 _ (q_nc n_O0_A10 List.not_mem_nil)).trans (hO0)
  refine q_get (ci := 13) (j := 13) (v := .ref qA10) C0 V i_WR rfl rfl hO0 (by decide) w_1937 rfl d_19_32_57 ?_
  refine q_goi V (q_runS (As := [.ref qA10]) (rest := []) (d := 1) (mc := 0) (ms := 0) C0 V rfl LS_WR_59 (c_WR_size l D g u23 kA10 qA10 hA10 _) rfl hl.1 rfl (Nat.le_of_ble_eq_true rfl) ⟨by decide, by decide⟩ ⟨Nat.le_of_ble_eq_true rfl, Nat.le_of_ble_eq_true rfl⟩ d_19_32_60) (fun v27 u26 H locs hp25 V => ?_)
  obtain ⟨rfl, rfl⟩ := hp25
  refine lv_if_le (tgt := 103) hx hb d_19_32_63 (by decide) (fun c29 => ?_) (fun c29 => absurd (by decide) c29)
  refine lv_aload_n hx hb d_19_32_103 rfl (lv_at hl 0 rfl) ?_
  refine q_get (ci := 13) (j := 12) (v := .ref qA9) C0 V i_WR rfl rfl hO0 (by decide) w_1936 rfl d_19_32_104 ?_
  refine lv_aload_n hx hb d_19_32_107 rfl (lv_at hl 0 rfl) ?_
  refine q_get (ci := 13) (j := 6) (v := .ref qA4) C0 V i_WR rfl rfl hO0 (by decide) w_1930 rfl d_19_32_108 ?_
  replace hA9 := (hg24 _ (q_nc n_A9_A10 List.not_mem_nil)).trans (hA9)
  replace hA4 := (hg24 _ (q_nc n_A4_A10 List.not_mem_nil)).trans ((hg21 _ (q_nc n_A4_A9 List.not_mem_nil)).trans ((hu17 _ n_A4_O0).trans (hA4)))
  refine q_gov V (q_runS (As := [.ref qA9, .ref qA4]) (rest := []) (d := 1) (mc := 0) (ms := 0) C0 V rfl LS_WR_67 (c_WR_copy l D g u23 kA9 kA4 qA9 qA4 hA9 hA4 n_A9_A4 _) rfl hl.1 rfl (Nat.le_of_ble_eq_true rfl) ⟨by decide, by decide⟩ ⟨Nat.le_of_ble_eq_true rfl, Nat.le_of_ble_eq_true rfl⟩ d_19_32_111) (fun u31 H locs hp30 V => ?_)
  obtain ⟨hg32, hA4⟩ := hp30
  replace hF := q_uc hF hg32 (q_sc (List.mem_of_getElem? (i := 3) rfl) (fun _ h => absurd h List.not_mem_nil))
  refine lv_aload_n hx hb d_19_32_114 rfl (lv_at hl 0 rfl) ?_
  refine lv_iconst (v := 0) hx hb d_19_32_115 (by decide) ?_
  replace hO0 := (hg32 _ (q_nc n_O0_A4 List.not_mem_nil)).trans (hO0)
  refine q_put (ci := 13) (j := 7) (v := .int 0) (ty := .boolean) C0 V i_WR o_WR n_WR rfl rfl hO0 (by decide) w_1931 rfl rfl rfl rfl (Nat.le_of_ble_eq_true rfl) d_19_32_116 (fun H locs w33 hu34 hO0 V => ?_)
  replace hO0 : w33[kO0]? = (some (qO0, .inr (13, [.int 0, .int 0, .ref qA1, .int 0, .ref qA2, .ref qA3, .ref qA4, .int 0, .ref qA5, .ref qA6, .ref qA7, .ref qA8, .ref qA9, .ref qA10, .ref qA11, .ref qA12, .int 0, .int 0, .ref qA13, .ref qA14, .int 0])) : Option (Nat × va_E)) := hO0
  replace hF := q_us hF hu34 (.head _)
  refine lv_aload_n hx hb d_19_32_119 rfl (lv_at hl 0 rfl) ?_
  refine lv_iload_n hx hb d_19_32_120 rfl (lv_at hl 3 rfl) ?_
  replace hA2 := (hu34 _ n_A2_O0).trans ((hg32 _ (q_nc n_A2_A4 List.not_mem_nil)).trans ((hg24 _ (q_nc n_A2_A10 List.not_mem_nil)).trans (hA2)))
  replace hA3 := (hu34 _ n_A3_O0).trans ((hg32 _ (q_nc n_A3_A4 List.not_mem_nil)).trans ((hg24 _ (q_nc n_A3_A10 List.not_mem_nil)).trans ((hg21 _ (q_nc n_A3_A9 List.not_mem_nil)).trans ((hu17 _ n_A3_O0).trans (hA3)))))
  replace hA4 := (hu34 _ n_A4_O0).trans (hA4)
  refine q_gov V (q_runV (As := [.int x3]) (rest := []) (d := 2) (mc := 0) (ms := 0) (ci := 13) C0 V rfl LV_WR_103 (c_WR_store_2 l D g w33 kO0 kA2 kA3 kA4 qO0 qA1 qA2 qA3 qA4 qA5 qA6 qA7 qA8 qA9 qA10 qA11 qA12 qA13 qA14 x3 hO0 hA2 hA3 hA4 n_A2_A3 n_A4_A2 n_A4_A3 x3lo x3hi _) rfl rfl hO0 rfl hl.1 rfl (Nat.le_of_ble_eq_true rfl) ⟨by decide, by decide⟩ ⟨Nat.le_of_ble_eq_true rfl, Nat.le_of_ble_eq_true rfl⟩ d_19_32_121) (fun u36 H locs hp35 V => ?_)
  obtain ⟨hg37, hA2, hA3⟩ := hp35
  replace hF := q_uc hF hg37 (q_sc (.tail _ (.head _)) (q_sc (.tail _ (.tail _ (.head _))) (fun _ h => absurd h List.not_mem_nil)))
  replace hO0 := (hg37 _ (q_nc n_O0_A2 (q_nc n_O0_A3 List.not_mem_nil))).trans (hO0)
  replace hA4 := (hg37 _ (q_nc n_A4_A2 (q_nc n_A4_A3 List.not_mem_nil))).trans (hA4)
  replace hA9 := (hg37 _ (q_nc n_A9_A2 (q_nc n_A9_A3 List.not_mem_nil))).trans ((hu34 _ n_A9_O0).trans ((hg32 _ (q_nc n_A9_A4 List.not_mem_nil)).trans (hA9)))
  replace hA10 := (hg37 _ (q_nc n_A10_A2 (q_nc n_A10_A3 List.not_mem_nil))).trans ((hu34 _ n_A10_O0).trans ((hg32 _ (q_nc n_A10_A4 List.not_mem_nil)).trans (hA10)))
  exact q_retv C0 V (⟨hF, hO0, hA2, hA3, hA4, hA9, hA10⟩) d_19_32_124
theorem d_19_34_0 : decode prog_19_method_34_code 0 = .ok (.aload_n 0, 1) := by decide +kernel
theorem d_19_34_1 : decode prog_19_method_34_code 1 = .ok (.iload_n 1, 1) := by decide +kernel
theorem d_19_34_2 : decode prog_19_method_34_code 2 = .ok (.invokestatic 91, 3) := by decide +kernel
theorem d_19_34_5 : decode prog_19_method_34_code 5 = .ok (.ifCond .ne 17, 3) := by decide +kernel
theorem d_19_34_8 : decode prog_19_method_34_code 8 = .ok (.iload_n 2, 1) := by decide +kernel
theorem d_19_34_9 : decode prog_19_method_34_code 9 = .ok (.invokestatic 91, 3) := by decide +kernel
theorem d_19_34_12 : decode prog_19_method_34_code 12 = .ok (.ifCond .ne 10, 3) := by decide +kernel
theorem d_19_34_15 : decode prog_19_method_34_code 15 = .ok (.iload_n 3, 1) := by decide +kernel
theorem d_19_34_16 : decode prog_19_method_34_code 16 = .ok (.invokestatic 91, 3) := by decide +kernel
theorem d_19_34_19 : decode prog_19_method_34_code 19 = .ok (.ifCond .eq 7, 3) := by decide +kernel
theorem d_19_34_26 : decode prog_19_method_34_code 26 = .ok (.aload_n 0, 1) := by decide +kernel
theorem d_19_34_27 : decode prog_19_method_34_code 27 = .ok (.iload_n 2, 1) := by decide +kernel
theorem d_19_34_28 : decode prog_19_method_34_code 28 = .ok (.invokevirtual 125, 3) := by decide +kernel
theorem d_19_34_31 : decode prog_19_method_34_code 31 = .ok (.ifCond .ne 7, 3) := by decide +kernel
theorem d_19_34_34 : decode prog_19_method_34_code 34 = .ok (.iconst 2, 1) := by decide +kernel
theorem d_19_34_35 : decode prog_19_method_34_code 35 = .ok (.goto 4, 3) := by decide +kernel
theorem d_19_34_39 : decode prog_19_method_34_code 39 = .ok (.putfield 53, 3) := by decide +kernel
theorem d_19_34_42 : decode prog_19_method_34_code 42 = .ok (.aload_n 0, 1) := by decide +kernel
theorem d_19_34_43 : decode prog_19_method_34_code 43 = .ok (.getfield 53, 3) := by decide +kernel
theorem d_19_34_46 : decode prog_19_method_34_code 46 = .ok (.ifCond .le 4, 3) := by decide +kernel
theorem d_19_34_49 : decode prog_19_method_34_code 49 = .ok (.return_, 1) := by decide +kernel
def y_WR_inverse : MethodName := ⟨"NumberHouseModel$WholeRows", "inverse", "(III)V"⟩
set_option maxRecDepth 100000 in
set_option maxHeartbeats 4000000 in
theorem c_WR_inverse (l : Launch) (D : va_G) (g : Nat → ClassId) (ws : va_W) (kO0 kA2 kA3 qO0 qA1 qA2 qA3 qA4 qA5 qA6 qA7 qA8 qA9 qA10 qA11 qA12 qA13 qA14 : Nat) (x1 : Int32) (x2 : Int32) (x3 : Int32) (hO0 : ws[kO0]? = (some (qO0, .inr (13, [.int 0, .int 0, .ref qA1, .int 0, .ref qA2, .ref qA3, .ref qA4, .int 0, .ref qA5, .ref qA6, .ref qA7, .ref qA8, .ref qA9, .ref qA10, .ref qA11, .ref qA12, .int 0, .int 0, .ref qA13, .ref qA14, .int 0])) : Option (Nat × va_E))) (hA2 : ws[kA2]? = (some (qA2, .inl (g 0, 1408, .inl (fun _ => 0))) : Option (Nat × va_E))) (hA3 : ws[kA3]? = (some (qA3, .inl (g 3, 11, .inl (fun _ => 0))) : Option (Nat × va_E))) (x1lo : 0 ≤ x1) (x1hi : x1 ≤ 9) (x2lo : 0 ≤ x2) (x2hi : x2 ≤ 9) (x3lo : 0 ≤ x3) (x3hi : x3 ≤ 9) : q_mV l y_WR_inverse prog_19_method_34_code 4 3 0 0 D g [.ref qO0, .int x1, .int x2, .int x3] ws (fun u => q_un ws u [kO0] ∧ u[kO0]? = (some (qO0, .inr (13, [.int 2, .int 0, .ref qA1, .int 0, .ref qA2, .ref qA3, .ref qA4, .int 0, .ref qA5, .ref qA6, .ref qA7, .ref qA8, .ref qA9, .ref qA10, .ref qA11, .ref qA12, .int 0, .int 0, .ref qA13, .ref qA14, .int 0])) : Option (Nat × va_E))) := by
  intro sz
  refine q_into (by decide) (Nat.le_of_ble_eq_true rfl) ?_
  intro p e s m below meth c ls hsz C0 V hl
  have hx := C0.1
  have hb := C0.2.1
  have hl : lv_has ls 4 [(0, .ref qO0), (1, .int x1), (2, .int x2), (3, .int x3)] := hl
  have n_A2_O0 := q_df hA2 hO0
  have n_A3_O0 := q_df hA3 hO0
  have hF : q_un ws ws [kO0] := q_u0
  refine lv_aload_n hx hb d_19_34_0 rfl (lv_at hl 0 rfl) ?_
  refine lv_iload_n hx hb d_19_34_1 rfl (lv_at hl 1 rfl) ?_
  refine q_goi V (q_runS (As := [.int x1]) (rest := [.ref qO0]) (d := 1) (mc := 0) (ms := 0) C0 V rfl LS_WR_91 (c_WR_no l D g ws x1 x1lo x1hi _) rfl hl.1 rfl (Nat.le_of_ble_eq_true rfl) ⟨by decide, by decide⟩ ⟨Nat.le_of_ble_eq_true rfl, Nat.le_of_ble_eq_true rfl⟩ d_19_34_2) (fun v3 u2 H locs hp1 V => ?_)
  obtain ⟨rfl, rfl⟩ := hp1
  refine lv_if_ne (tgt := 22) hx hb d_19_34_5 (by decide) (fun c5 => absurd (by decide) c5) (fun c5 => ?_)
  refine lv_iload_n hx hb d_19_34_8 rfl (lv_at hl 2 rfl) ?_
  refine q_goi V (q_runS (As := [.int x2]) (rest := [.ref qO0]) (d := 1) (mc := 0) (ms := 0) C0 V rfl LS_WR_91 (c_WR_no l D g ws x2 x2lo x2hi _) rfl hl.1 rfl (Nat.le_of_ble_eq_true rfl) ⟨by decide, by decide⟩ ⟨Nat.le_of_ble_eq_true rfl, Nat.le_of_ble_eq_true rfl⟩ d_19_34_9) (fun v8 u7 H locs hp6 V => ?_)
  obtain ⟨rfl, rfl⟩ := hp6
  refine lv_if_ne (tgt := 22) hx hb d_19_34_12 (by decide) (fun c10 => absurd (by decide) c10) (fun c10 => ?_)
  refine lv_iload_n hx hb d_19_34_15 rfl (lv_at hl 3 rfl) ?_
  refine q_goi V (q_runS (As := [.int x3]) (rest := [.ref qO0]) (d := 1) (mc := 0) (ms := 0) C0 V rfl LS_WR_91 (c_WR_no l D g ws x3 x3lo x3hi _) rfl hl.1 rfl (Nat.le_of_ble_eq_true rfl) ⟨by decide, by decide⟩ ⟨Nat.le_of_ble_eq_true rfl, Nat.le_of_ble_eq_true rfl⟩ d_19_34_16) (fun v13 u12 H locs hp11 V => ?_)
  obtain ⟨rfl, rfl⟩ := hp11
  refine lv_if_eq (tgt := 26) hx hb d_19_34_19 (by decide) (fun c15 => ?_) (fun c15 => absurd (by decide) c15)
  refine lv_aload_n hx hb d_19_34_26 rfl (lv_at hl 0 rfl) ?_
  refine lv_iload_n hx hb d_19_34_27 rfl (lv_at hl 2 rfl) ?_
  refine q_goi V (q_runV (As := [.int x2]) (rest := [.ref qO0]) (d := 2) (mc := 0) (ms := 0) (ci := 13) C0 V rfl LV_WR_125 (c_WR_isAbove0 l D g ws kO0 kA2 kA3 qO0 qA1 qA2 qA3 qA4 qA5 qA6 qA7 qA8 qA9 qA10 qA11 qA12 qA13 qA14 x2 hO0 hA2 hA3 x2lo x2hi _) rfl rfl hO0 rfl hl.1 rfl (Nat.le_of_ble_eq_true rfl) ⟨by decide, by decide⟩ ⟨Nat.le_of_ble_eq_true rfl, Nat.le_of_ble_eq_true rfl⟩ d_19_34_28) (fun v18 u17 H locs hp16 V => ?_)
  obtain ⟨rfl, rfl⟩ := hp16
  refine lv_if_ne (tgt := 38) hx hb d_19_34_31 (by decide) (fun c20 => absurd (by decide) c20) (fun c20 => ?_)
  refine lv_iconst (v := 2) hx hb d_19_34_34 (by decide) ?_
  refine lv_goto (tgt := 39) hx hb d_19_34_35 (by decide) ?_
  refine q_put (ci := 13) (j := 0) (v := .int 2) (ty := .int) C0 V i_WR o_WR n_WR rfl rfl hO0 (by decide) w_1921 rfl rfl rfl rfl (Nat.le_of_ble_eq_true rfl) d_19_34_39 (fun H locs w21 hu22 hO0 V => ?_)
  replace hO0 : w21[kO0]? = (some (qO0, .inr (13, [.int 2, .int 0, .ref qA1, .int 0, .ref qA2, .ref qA3, .ref qA4, .int 0, .ref qA5, .ref qA6, .ref qA7, .ref qA8, .ref qA9, .ref qA10, .ref qA11, .ref qA12, .int 0, .int 0, .ref qA13, .ref qA14, .int 0])) : Option (Nat × va_E)) := hO0
  replace hF := q_us hF hu22 (.head _)
  refine lv_aload_n hx hb d_19_34_42 rfl (lv_at hl 0 rfl) ?_
  refine q_get (ci := 13) (j := 0) (v := .int 2) C0 V i_WR rfl rfl hO0 (by decide) w_1921 rfl d_19_34_43 ?_
  refine lv_if_le (tgt := 50) hx hb d_19_34_46 (by decide) (fun c23 => absurd c23 (by decide)) (fun c23 => ?_)
  exact q_retv C0 V (⟨hF, hO0⟩) d_19_34_49
set_option maxRecDepth 100000 in
set_option maxHeartbeats 4000000 in
theorem c_WR_clear_2 (l : Launch) (D : va_G) (g : Nat → ClassId) (ws : va_W) (kA0 qA0 : Nat) (hA0 : ws[kA0]? = (some (qA0, .inl (g 0, 264, .inl (fun _ => 0))) : Option (Nat × va_E))) : q_mV l y_WR_clear prog_19_method_4_code 2 1 0 0 D g [.ref qA0] ws (fun u => q_un ws u [kA0] ∧ u[kA0]? = (some (qA0, .inl (g 0, 264, .inl (fun _ => 0))) : Option (Nat × va_E))) := by
  intro sz
  refine q_into (by decide) (Nat.le_of_ble_eq_true rfl) ?_
  intro p e s m below meth c ls hsz C0 V hl
  have hx := C0.1
  have hb := C0.2.1
  have hl : lv_has ls 2 [(0, .ref qA0)] := hl
  have hF : q_un ws ws [kA0] := q_u0
  refine lv_iconst (v := 0) hx hb d_19_4_0 (by decide) ?_
  refine lv_istore_n (lv' := [(1, .int 0), (0, .ref qA0)]) hx hb d_19_4_1 rfl hl (by decide) rfl (fun ls hl => ?_)
  refine q_loop (X := Int32) (fun z H locs ls w2 => (0 ≤ z.toInt ∧ (z.toInt ≤ 264 ∨ z.toInt = 0)) ∧ q_Wd D g (va_A ws sz) s w2 H locs ∧ lv_has ls 2 [(1, .int z), (0, .ref qA0)] ∧ q_un ws w2 [kA0] ∧ w2[kA0]? = (some (qA0, .inl (g 0, 264, .inl (fun _ => 0))) : Option (Nat × va_E))) (fun z => (264 - z.toInt).toNat) ?_ ((0 : Int32)) _ _ _ ws ⟨⟨by decide, Or.inr (by decide)⟩, V, hl, hF, hA0⟩
  rintro lx1 H locs ls w2 ⟨i3, V, hl, hF, hA0⟩ ih4
  replace i3 : 0 ≤ lx1.toInt ∧ (lx1.toInt ≤ 264 ∨ lx1.toInt = 0) := i3
  replace hl : lv_has ls 2 [(1, .int lx1), (0, .ref qA0)] := hl
  replace hA0 : w2[kA0]? = (some (qA0, .inl (g 0, 264, .inl (fun _ => 0))) : Option (Nat × va_E)) := hA0
  refine lv_iload_n hx hb d_19_4_2 rfl (lv_at hl 0 rfl) ?_
  refine lv_aload_n hx hb d_19_4_3 rfl (lv_at hl 1 rfl) ?_
  refine q_alen (t := 0) (v := 264) C0 V hA0 rfl (by first | rfl | decide) d_19_4_4 ?_
  refine lv_icmp_ge (tgt := 18) hx hb d_19_4_5 (by decide) (fun c5 => ?_) (fun c5 => ?_)
  ·
    exact q_retv C0 V (⟨hF, hA0⟩) d_19_4_18
  ·
    refine lv_aload_n hx hb d_19_4_8 rfl (lv_at hl 1 rfl) ?_
    refine lv_iload_n hx hb d_19_4_9 rfl (lv_at hl 0 rfl) ?_
    refine lv_iconst (v := 0) hx hb d_19_4_10 (by decide) ?_
    refine q_iast C0 V hA0 (q_ix (x := lx1.toInt) rfl (by have t1 : lx1.toInt < 264 := q_nleI c5; omega) (by have t1 : lx1.toInt < 264 := q_nleI c5; omega)) d_19_4_11 (fun H locs w6 hu7 hA0 V => ?_)
    replace hA0 := q_re (y := (qA0, .inl (g 0, 264, .inl (fun _ => 0)))) hA0 (q_eI q_upd0)
    replace hA0 : w6[kA0]? = (some (qA0, .inl (g 0, 264, .inl (fun _ => 0))) : Option (Nat × va_E)) := hA0
    replace hF := q_us hF hu7 (.head _)
    refine lv_iinc (v := lx1 + 1) (lv' := [(1, .int (lx1 + 1)), (0, .ref qA0)]) hx hb d_19_4_12 hl (k := 0) rfl (rfl) (by decide) rfl (fun ls hl => ?_)
    refine lv_goto (tgt := 2) hx hb d_19_4_15 (by decide) ?_
    exact ih4 ((lx1 + 1 : Int32)) _ _ _ _ (show (264 - (lx1 + 1).toInt).toNat < (264 - lx1.toInt).toNat from by have t1 : lx1.toInt < 264 := q_nleI c5; have e : (lx1 + 1).toInt = (lx1.toInt + 1) := (q_addI (x := lx1.toInt) (y := 1) rfl (by decide) (by have t1 : lx1.toInt < 264 := q_nleI c5; omega) (by have t1 : lx1.toInt < 264 := q_nleI c5; omega)); omega) ⟨(show 0 ≤ (lx1 + 1).toInt ∧ ((lx1 + 1).toInt ≤ 264 ∨ (lx1 + 1).toInt = 0) from by have t1 : lx1.toInt < 264 := q_nleI c5; have e : (lx1 + 1).toInt = (lx1.toInt + 1) := (q_addI (x := lx1.toInt) (y := 1) rfl (by decide) (by have t1 : lx1.toInt < 264 := q_nleI c5; omega) (by have t1 : lx1.toInt < 264 := q_nleI c5; omega)); omega), V, q_lw hl (q_lw1 0 rfl (q_lw1 1 rfl q_lw0)), hF, hA0⟩
theorem d_19_36_31 : decode prog_19_method_36_code 31 = .ok (.iconst 0, 1) := by decide +kernel
set_option maxRecDepth 100000 in
set_option maxHeartbeats 4000000 in
theorem c_WR_limb_2 (l : Launch) (D : va_G) (g : Nat → ClassId) (ws : va_W) (kO0 kA2 kA3 qO0 qA1 qA2 qA3 qA4 qA5 qA6 qA7 qA8 qA9 qA10 qA11 qA12 qA13 qA14 : Nat) (x1 : Int32) (x2 : Int32) (hO0 : ws[kO0]? = (some (qO0, .inr (13, [.int 0, .int 2, .ref qA1, .int 0, .ref qA2, .ref qA3, .ref qA4, .int 0, .ref qA5, .ref qA6, .ref qA7, .ref qA8, .ref qA9, .ref qA10, .ref qA11, .ref qA12, .int 0, .int 0, .ref qA13, .ref qA14, .int 0])) : Option (Nat × va_E))) (hA2 : ws[kA2]? = (some (qA2, .inl (g 0, 1408, .inl (fun _ => 0))) : Option (Nat × va_E))) (hA3 : ws[kA3]? = (some (qA3, .inl (g 3, 11, .inl (fun _ => 0))) : Option (Nat × va_E))) (x1lo : 0 ≤ x1) (x1hi : x1 ≤ 9) (x2lo : 0 ≤ x2) (x2hi : x2 ≤ 128) : q_mI l y_WR_limb prog_19_method_36_code 5 (.int) 1 0 0 D g [.ref qO0, .int x1, .int x2] ws (fun r u => 0 = r ∧ ws = u) := by
  intro sz
  refine q_into (by decide) (Nat.le_of_ble_eq_true rfl) ?_
  intro p e s m below meth c ls hsz C0 V hl
  have hx := C0.1
  have hb := C0.2.1
  have hl : lv_has ls 5 [(0, .ref qO0), (1, .int x1), (2, .int x2)] := hl
  refine lv_aload_n hx hb d_19_36_0 rfl (lv_at hl 0 rfl) ?_
  refine q_get (ci := 13) (j := 5) (v := .ref qA3) C0 V i_WR rfl rfl hO0 (by decide) w_1929 rfl d_19_36_1 ?_
  refine lv_iload_n hx hb d_19_36_4 rfl (lv_at hl 1 rfl) ?_
  refine q_zald C0 V hA3 (q_ix (x := x1.toInt) rfl (by have t1 : 0 ≤ x1.toInt := q_leI x1lo; have t2 : x1.toInt ≤ 9 := q_leI x1hi; omega) (by have t1 : 0 ≤ x1.toInt := q_leI x1lo; have t2 : x1.toInt ≤ 9 := q_leI x1hi; omega)) d_19_36_5 ?_
  refine q_ti (v := 0) (by first | rfl | decide | simp [upd, vp_updL, sb_cl0]) ?_
  refine lv_if_ne (tgt := 33) hx hb d_19_36_6 (by decide) (fun c1 => absurd (by decide) c1) (fun c1 => ?_)
  refine lv_iload_n hx hb d_19_36_9 rfl (lv_at hl 2 rfl) ?_
  refine lv_sipush (v := 128) hx hb d_19_36_10 (by decide) ?_
  refine lv_icmp_ge (tgt := 31) hx hb d_19_36_13 (by decide) (fun c2 => ?_) (fun c2 => ?_)
  ·
    refine lv_iconst (v := 0) hx hb d_19_36_31 (by decide) ?_
    exact q_reti C0 V (⟨rfl, rfl⟩) d_19_36_32
  ·
    refine lv_aload_n hx hb d_19_36_16 rfl (lv_at hl 0 rfl) ?_
    refine q_get (ci := 13) (j := 4) (v := .ref qA2) C0 V i_WR rfl rfl hO0 (by decide) w_1928 rfl d_19_36_17 ?_
    refine lv_sipush (v := 128) hx hb d_19_36_20 (by decide) ?_
    refine lv_iload_n hx hb d_19_36_23 rfl (lv_at hl 1 rfl) ?_
    refine lv_imul hx hb d_19_36_24 ?_
    refine lv_iload_n hx hb d_19_36_25 rfl (lv_at hl 2 rfl) ?_
    refine lv_iadd hx hb d_19_36_26 ?_
    refine q_iald C0 V hA2 (q_ix (x := ((128 * x1.toInt) + x2.toInt)) (q_addI (x := (128 * x1.toInt)) (y := x2.toInt) (q_mulI (x := 128) (y := x1.toInt) (by decide) rfl (by have t1 : 0 ≤ x1.toInt := q_leI x1lo; have t2 : x1.toInt ≤ 9 := q_leI x1hi; omega) (by have t1 : 0 ≤ x1.toInt := q_leI x1lo; have t2 : x1.toInt ≤ 9 := q_leI x1hi; omega)) rfl (by have t1 : 0 ≤ x1.toInt := q_leI x1lo; have t2 : x1.toInt ≤ 9 := q_leI x1hi; have t3 : 0 ≤ x2.toInt := q_leI x2lo; have t4 : x2.toInt ≤ 128 := q_leI x2hi; have t5 : x2.toInt < 128 := q_nleI c2; omega) (by have t1 : 0 ≤ x1.toInt := q_leI x1lo; have t2 : x1.toInt ≤ 9 := q_leI x1hi; have t3 : 0 ≤ x2.toInt := q_leI x2lo; have t4 : x2.toInt ≤ 128 := q_leI x2hi; have t5 : x2.toInt < 128 := q_nleI c2; omega)) (by have t1 : 0 ≤ x1.toInt := q_leI x1lo; have t2 : x1.toInt ≤ 9 := q_leI x1hi; have t3 : 0 ≤ x2.toInt := q_leI x2lo; have t4 : x2.toInt ≤ 128 := q_leI x2hi; have t5 : x2.toInt < 128 := q_nleI c2; omega) (by have t1 : 0 ≤ x1.toInt := q_leI x1lo; have t2 : x1.toInt ≤ 9 := q_leI x1hi; have t3 : 0 ≤ x2.toInt := q_leI x2lo; have t4 : x2.toInt ≤ 128 := q_leI x2hi; have t5 : x2.toInt < 128 := q_nleI c2; omega)) d_19_36_27 ?_
    refine q_ti (v := 0) (by first | rfl | decide | simp [upd, vp_updL, sb_cl0]) ?_
    refine lv_goto (tgt := 32) hx hb d_19_36_28 (by decide) ?_
    exact q_reti C0 V (⟨rfl, rfl⟩) d_19_36_32
theorem d_19_37_0 : decode prog_19_method_37_code 0 = .ok (.aload_n 0, 1) := by decide +kernel
theorem d_19_37_1 : decode prog_19_method_37_code 1 = .ok (.iload_n 1, 1) := by decide +kernel
theorem d_19_37_2 : decode prog_19_method_37_code 2 = .ok (.invokestatic 91, 3) := by decide +kernel
theorem d_19_37_5 : decode prog_19_method_37_code 5 = .ok (.ifCond .ne 28, 3) := by decide +kernel
theorem d_19_37_8 : decode prog_19_method_37_code 8 = .ok (.iload_n 2, 1) := by decide +kernel
theorem d_19_37_9 : decode prog_19_method_37_code 9 = .ok (.invokestatic 91, 3) := by decide +kernel
theorem d_19_37_12 : decode prog_19_method_37_code 12 = .ok (.ifCond .ne 21, 3) := by decide +kernel
theorem d_19_37_15 : decode prog_19_method_37_code 15 = .ok (.iload_n 3, 1) := by decide +kernel
theorem d_19_37_16 : decode prog_19_method_37_code 16 = .ok (.invokestatic 91, 3) := by decide +kernel
theorem d_19_37_19 : decode prog_19_method_37_code 19 = .ok (.ifCond .ne 14, 3) := by decide +kernel
theorem d_19_37_22 : decode prog_19_method_37_code 22 = .ok (.iload 4, 2) := by decide +kernel
theorem d_19_37_24 : decode prog_19_method_37_code 24 = .ok (.ifCond .lt 9, 3) := by decide +kernel
theorem d_19_37_27 : decode prog_19_method_37_code 27 = .ok (.iload 4, 2) := by decide +kernel
theorem d_19_37_29 : decode prog_19_method_37_code 29 = .ok (.iconst 3, 1) := by decide +kernel
theorem d_19_37_30 : decode prog_19_method_37_code 30 = .ok (.if_icmp .le 7, 3) := by decide +kernel
theorem d_19_37_37 : decode prog_19_method_37_code 37 = .ok (.iconst 0, 1) := by decide +kernel
theorem d_19_37_38 : decode prog_19_method_37_code 38 = .ok (.putfield 53, 3) := by decide +kernel
theorem d_19_37_41 : decode prog_19_method_37_code 41 = .ok (.aload_n 0, 1) := by decide +kernel
theorem d_19_37_42 : decode prog_19_method_37_code 42 = .ok (.getfield 53, 3) := by decide +kernel
theorem d_19_37_45 : decode prog_19_method_37_code 45 = .ok (.ifCond .le 4, 3) := by decide +kernel
theorem d_19_37_49 : decode prog_19_method_37_code 49 = .ok (.aload_n 0, 1) := by decide +kernel
theorem d_19_37_50 : decode prog_19_method_37_code 50 = .ok (.iconst 2, 1) := by decide +kernel
theorem d_19_37_51 : decode prog_19_method_37_code 51 = .ok (.putfield 79, 3) := by decide +kernel
theorem d_19_37_54 : decode prog_19_method_37_code 54 = .ok (.aload_n 0, 1) := by decide +kernel
theorem d_19_37_55 : decode prog_19_method_37_code 55 = .ok (.getfield 20, 3) := by decide +kernel
theorem d_19_37_58 : decode prog_19_method_37_code 58 = .ok (.invokestatic 63, 3) := by decide +kernel
theorem d_19_37_61 : decode prog_19_method_37_code 61 = .ok (.iconst 0, 1) := by decide +kernel
theorem d_19_37_62 : decode prog_19_method_37_code 62 = .ok (.istore 5, 2) := by decide +kernel
theorem d_19_37_64 : decode prog_19_method_37_code 64 = .ok (.iload 5, 2) := by decide +kernel
theorem d_19_37_66 : decode prog_19_method_37_code 66 = .ok (.sipush 128, 3) := by decide +kernel
theorem d_19_37_69 : decode prog_19_method_37_code 69 = .ok (.if_icmp .gt 82, 3) := by decide +kernel
theorem d_19_37_151 : decode prog_19_method_37_code 151 = .ok (.aload_n 0, 1) := by decide +kernel
theorem d_19_37_152 : decode prog_19_method_37_code 152 = .ok (.aload_n 0, 1) := by decide +kernel
theorem d_19_37_153 : decode prog_19_method_37_code 153 = .ok (.getfield 20, 3) := by decide +kernel
theorem d_19_37_156 : decode prog_19_method_37_code 156 = .ok (.sipush 128, 3) := by decide +kernel
theorem d_19_37_159 : decode prog_19_method_37_code 159 = .ok (.iaload, 1) := by decide +kernel
theorem d_19_37_160 : decode prog_19_method_37_code 160 = .ok (.ldc 152, 2) := by decide +kernel
theorem w_2744 : (Cond.constant "NumberHouseModel$WholeRows" (152 : Nat) (32768 : Int32)) ∈ q_tbl := q_of 2744 (by decide +kernel) (by decide +kernel)
theorem d_19_37_162 : decode prog_19_method_37_code 162 = .ok (.if_icmp .lt 7, 3) := by decide +kernel
theorem d_19_37_169 : decode prog_19_method_37_code 169 = .ok (.iconst 0, 1) := by decide +kernel
theorem d_19_37_170 : decode prog_19_method_37_code 170 = .ok (.putfield 82, 3) := by decide +kernel
theorem d_19_37_173 : decode prog_19_method_37_code 173 = .ok (.aload_n 0, 1) := by decide +kernel
theorem d_19_37_174 : decode prog_19_method_37_code 174 = .ok (.getfield 82, 3) := by decide +kernel
theorem d_19_37_177 : decode prog_19_method_37_code 177 = .ok (.ifCond .eq 61, 3) := by decide +kernel
theorem d_19_37_238 : decode prog_19_method_37_code 238 = .ok (.aload_n 0, 1) := by decide +kernel
theorem d_19_37_239 : decode prog_19_method_37_code 239 = .ok (.iload_n 3, 1) := by decide +kernel
theorem d_19_37_240 : decode prog_19_method_37_code 240 = .ok (.invokevirtual 103, 3) := by decide +kernel
theorem d_19_37_243 : decode prog_19_method_37_code 243 = .ok (.return_, 1) := by decide +kernel
theorem d_19_37_72 : decode prog_19_method_37_code 72 = .ok (.aload_n 0, 1) := by decide +kernel
theorem d_19_37_73 : decode prog_19_method_37_code 73 = .ok (.iload_n 1, 1) := by decide +kernel
theorem d_19_37_74 : decode prog_19_method_37_code 74 = .ok (.iload 5, 2) := by decide +kernel
theorem d_19_37_76 : decode prog_19_method_37_code 76 = .ok (.invokevirtual 148, 3) := by decide +kernel
theorem d_19_37_79 : decode prog_19_method_37_code 79 = .ok (.istore 6, 2) := by decide +kernel
theorem d_19_37_81 : decode prog_19_method_37_code 81 = .ok (.aload_n 0, 1) := by decide +kernel
theorem d_19_37_82 : decode prog_19_method_37_code 82 = .ok (.iload_n 2, 1) := by decide +kernel
theorem d_19_37_83 : decode prog_19_method_37_code 83 = .ok (.iload 5, 2) := by decide +kernel
theorem d_19_37_85 : decode prog_19_method_37_code 85 = .ok (.invokevirtual 148, 3) := by decide +kernel
theorem d_19_37_88 : decode prog_19_method_37_code 88 = .ok (.istore 7, 2) := by decide +kernel
theorem d_19_37_90 : decode prog_19_method_37_code 90 = .ok (.aload_n 0, 1) := by decide +kernel
theorem d_19_37_91 : decode prog_19_method_37_code 91 = .ok (.getfield 20, 3) := by decide +kernel
theorem d_19_37_94 : decode prog_19_method_37_code 94 = .ok (.iload 5, 2) := by decide +kernel
theorem d_19_37_96 : decode prog_19_method_37_code 96 = .ok (.iload 4, 2) := by decide +kernel
theorem d_19_37_98 : decode prog_19_method_37_code 98 = .ok (.ifCond .ne 11, 3) := by decide +kernel
theorem d_19_37_109 : decode prog_19_method_37_code 109 = .ok (.iload 4, 2) := by decide +kernel
theorem d_19_37_111 : decode prog_19_method_37_code 111 = .ok (.iconst 1, 1) := by decide +kernel
theorem d_19_37_112 : decode prog_19_method_37_code 112 = .ok (.if_icmp .ne 11, 3) := by decide +kernel
theorem d_19_37_123 : decode prog_19_method_37_code 123 = .ok (.iload 4, 2) := by decide +kernel
theorem d_19_37_125 : decode prog_19_method_37_code 125 = .ok (.iconst 2, 1) := by decide +kernel
theorem d_19_37_126 : decode prog_19_method_37_code 126 = .ok (.if_icmp .ne 11, 3) := by decide +kernel
theorem d_19_37_137 : decode prog_19_method_37_code 137 = .ok (.iload 6, 2) := by decide +kernel
theorem d_19_37_139 : decode prog_19_method_37_code 139 = .ok (.iload 7, 2) := by decide +kernel
theorem d_19_37_141 : decode prog_19_method_37_code 141 = .ok (.iconst (-1), 1) := by decide +kernel
theorem d_19_37_142 : decode prog_19_method_37_code 142 = .ok (.ixor, 1) := by decide +kernel
theorem d_19_37_143 : decode prog_19_method_37_code 143 = .ok (.iand, 1) := by decide +kernel
theorem d_19_37_144 : decode prog_19_method_37_code 144 = .ok (.iastore, 1) := by decide +kernel
theorem d_19_37_145 : decode prog_19_method_37_code 145 = .ok (.iinc 5 1, 3) := by decide +kernel
theorem d_19_37_148 : decode prog_19_method_37_code 148 = .ok (.goto (-84), 3) := by decide +kernel
theorem d_19_37_129 : decode prog_19_method_37_code 129 = .ok (.iload 6, 2) := by decide +kernel
theorem d_19_37_131 : decode prog_19_method_37_code 131 = .ok (.iload 7, 2) := by decide +kernel
theorem d_19_37_133 : decode prog_19_method_37_code 133 = .ok (.ixor, 1) := by decide +kernel
theorem d_19_37_134 : decode prog_19_method_37_code 134 = .ok (.goto 10, 3) := by decide +kernel
theorem d_19_37_115 : decode prog_19_method_37_code 115 = .ok (.iload 6, 2) := by decide +kernel
theorem d_19_37_117 : decode prog_19_method_37_code 117 = .ok (.iload 7, 2) := by decide +kernel
theorem d_19_37_119 : decode prog_19_method_37_code 119 = .ok (.ior, 1) := by decide +kernel
theorem d_19_37_120 : decode prog_19_method_37_code 120 = .ok (.goto 24, 3) := by decide +kernel
theorem d_19_37_101 : decode prog_19_method_37_code 101 = .ok (.iload 6, 2) := by decide +kernel
theorem d_19_37_103 : decode prog_19_method_37_code 103 = .ok (.iload 7, 2) := by decide +kernel
theorem d_19_37_105 : decode prog_19_method_37_code 105 = .ok (.iand, 1) := by decide +kernel
theorem d_19_37_106 : decode prog_19_method_37_code 106 = .ok (.goto 38, 3) := by decide +kernel
def y_WR_combine : MethodName := ⟨"NumberHouseModel$WholeRows", "combine", "(IIII)V"⟩
set_option maxRecDepth 100000 in
set_option maxHeartbeats 4000000 in
theorem c_WR_combine (l : Launch) (D : va_G) (g : Nat → ClassId) (ws : va_W) (kO0 kA2 kA3 kA4 qO0 qA1 qA2 qA3 qA4 qA5 qA6 qA7 qA8 qA9 qA10 qA11 qA12 qA13 qA14 : Nat) (x1 : Int32) (x2 : Int32) (x3 : Int32) (x4 : Int32) (hO0 : ws[kO0]? = (some (qO0, .inr (13, [.int 0, .int 0, .ref qA1, .int 0, .ref qA2, .ref qA3, .ref qA4, .int 0, .ref qA5, .ref qA6, .ref qA7, .ref qA8, .ref qA9, .ref qA10, .ref qA11, .ref qA12, .int 0, .int 0, .ref qA13, .ref qA14, .int 0])) : Option (Nat × va_E))) (hA2 : ws[kA2]? = (some (qA2, .inl (g 0, 1408, .inl (fun _ => 0))) : Option (Nat × va_E))) (hA3 : ws[kA3]? = (some (qA3, .inl (g 3, 11, .inl (fun _ => 0))) : Option (Nat × va_E))) (hA4 : ws[kA4]? = (some (qA4, .inl (g 0, 264, .inl (fun _ => 0))) : Option (Nat × va_E))) (n_A2_A3 : kA2 ≠ kA3) (n_A2_A4 : kA2 ≠ kA4) (n_A3_A4 : kA3 ≠ kA4) (x1lo : 0 ≤ x1) (x1hi : x1 ≤ 9) (x2lo : 0 ≤ x2) (x2hi : x2 ≤ 9) (x3lo : 0 ≤ x3) (x3hi : x3 ≤ 9) (x4lo : 0 ≤ x4) (x4hi : x4 ≤ 3) : q_mV l y_WR_combine prog_19_method_37_code 8 3 0 0 D g [.ref qO0, .int x1, .int x2, .int x3, .int x4] ws (fun u => q_un ws u [kO0, kA2, kA3, kA4] ∧ u[kO0]? = (some (qO0, .inr (13, [.int 0, .int 2, .ref qA1, .int 0, .ref qA2, .ref qA3, .ref qA4, .int 0, .ref qA5, .ref qA6, .ref qA7, .ref qA8, .ref qA9, .ref qA10, .ref qA11, .ref qA12, .int 0, .int 0, .ref qA13, .ref qA14, .int 0])) : Option (Nat × va_E)) ∧ u[kA2]? = (some (qA2, .inl (g 0, 1408, .inl (fun _ => 0))) : Option (Nat × va_E)) ∧ u[kA3]? = (some (qA3, .inl (g 3, 11, .inl (fun _ => 0))) : Option (Nat × va_E)) ∧ u[kA4]? = (some (qA4, .inl (g 0, 264, .inl (fun _ => 0))) : Option (Nat × va_E))) := by
  intro sz
  refine q_into (by decide) (Nat.le_of_ble_eq_true rfl) ?_
  intro p e s m below meth c ls hsz C0 V hl
  have hx := C0.1
  have hb := C0.2.1
  have hl : lv_has ls 8 [(0, .ref qO0), (1, .int x1), (2, .int x2), (3, .int x3), (4, .int x4)] := hl
  have n_A2_O0 := q_df hA2 hO0
  have n_A3_O0 := q_df hA3 hO0
  have n_A4_A2 := Ne.symm n_A2_A4
  have n_A4_A3 := Ne.symm n_A3_A4
  have n_A4_O0 := q_df hA4 hO0
  have n_O0_A2 := Ne.symm (q_df hA2 hO0)
  have n_O0_A3 := Ne.symm (q_df hA3 hO0)
  have n_O0_A4 := Ne.symm (q_df hA4 hO0)
  have hF : q_un ws ws [kO0, kA2, kA3, kA4] := q_u0
  refine lv_aload_n hx hb d_19_37_0 rfl (lv_at hl 0 rfl) ?_
  refine lv_iload_n hx hb d_19_37_1 rfl (lv_at hl 1 rfl) ?_
  refine q_goi V (q_runS (As := [.int x1]) (rest := [.ref qO0]) (d := 1) (mc := 0) (ms := 0) C0 V rfl LS_WR_91 (c_WR_no l D g ws x1 x1lo x1hi _) rfl hl.1 rfl (Nat.le_of_ble_eq_true rfl) ⟨by decide, by decide⟩ ⟨Nat.le_of_ble_eq_true rfl, Nat.le_of_ble_eq_true rfl⟩ d_19_37_2) (fun v3 u2 H locs hp1 V => ?_)
  obtain ⟨rfl, rfl⟩ := hp1
  refine lv_if_ne (tgt := 33) hx hb d_19_37_5 (by decide) (fun c5 => absurd (by decide) c5) (fun c5 => ?_)
  refine lv_iload_n hx hb d_19_37_8 rfl (lv_at hl 2 rfl) ?_
  refine q_goi V (q_runS (As := [.int x2]) (rest := [.ref qO0]) (d := 1) (mc := 0) (ms := 0) C0 V rfl LS_WR_91 (c_WR_no l D g ws x2 x2lo x2hi _) rfl hl.1 rfl (Nat.le_of_ble_eq_true rfl) ⟨by decide, by decide⟩ ⟨Nat.le_of_ble_eq_true rfl, Nat.le_of_ble_eq_true rfl⟩ d_19_37_9) (fun v8 u7 H locs hp6 V => ?_)
  obtain ⟨rfl, rfl⟩ := hp6
  refine lv_if_ne (tgt := 33) hx hb d_19_37_12 (by decide) (fun c10 => absurd (by decide) c10) (fun c10 => ?_)
  refine lv_iload_n hx hb d_19_37_15 rfl (lv_at hl 3 rfl) ?_
  refine q_goi V (q_runS (As := [.int x3]) (rest := [.ref qO0]) (d := 1) (mc := 0) (ms := 0) C0 V rfl LS_WR_91 (c_WR_no l D g ws x3 x3lo x3hi _) rfl hl.1 rfl (Nat.le_of_ble_eq_true rfl) ⟨by decide, by decide⟩ ⟨Nat.le_of_ble_eq_true rfl, Nat.le_of_ble_eq_true rfl⟩ d_19_37_16) (fun v13 u12 H locs hp11 V => ?_)
  obtain ⟨rfl, rfl⟩ := hp11
  refine lv_if_ne (tgt := 33) hx hb d_19_37_19 (by decide) (fun c15 => absurd (by decide) c15) (fun c15 => ?_)
  refine lv_iload hx hb d_19_37_22 (lv_at hl 4 rfl) ?_
  refine lv_if_lt (tgt := 33) hx hb d_19_37_24 (by decide) (fun c16 => absurd c16 (Int32.not_lt.mpr x4lo)) (fun c16 => ?_)
  refine lv_iload hx hb d_19_37_27 (lv_at hl 4 rfl) ?_
  refine lv_iconst (v := 3) hx hb d_19_37_29 (by decide) ?_
  refine lv_icmp_le (tgt := 37) hx hb d_19_37_30 (by decide) (fun c17 => ?_) (fun c17 => absurd x4hi c17)
  refine lv_iconst (v := 0) hx hb d_19_37_37 (by decide) ?_
  refine q_put (ci := 13) (j := 0) (v := .int 0) (ty := .int) C0 V i_WR o_WR n_WR rfl rfl hO0 (by decide) w_1921 rfl rfl rfl rfl (Nat.le_of_ble_eq_true rfl) d_19_37_38 (fun H locs w18 hu19 hO0 V => ?_)
  replace hO0 : w18[kO0]? = (some (qO0, .inr (13, [.int 0, .int 0, .ref qA1, .int 0, .ref qA2, .ref qA3, .ref qA4, .int 0, .ref qA5, .ref qA6, .ref qA7, .ref qA8, .ref qA9, .ref qA10, .ref qA11, .ref qA12, .int 0, .int 0, .ref qA13, .ref qA14, .int 0])) : Option (Nat × va_E)) := hO0
  replace hF := q_us hF hu19 (.head _)
  refine lv_aload_n hx hb d_19_37_41 rfl (lv_at hl 0 rfl) ?_
  refine q_get (ci := 13) (j := 0) (v := .int 0) C0 V i_WR rfl rfl hO0 (by decide) w_1921 rfl d_19_37_42 ?_
  refine lv_if_le (tgt := 49) hx hb d_19_37_45 (by decide) (fun c20 => ?_) (fun c20 => absurd (by decide) c20)
  refine lv_aload_n hx hb d_19_37_49 rfl (lv_at hl 0 rfl) ?_
  refine lv_iconst (v := 2) hx hb d_19_37_50 (by decide) ?_
  refine q_put (ci := 13) (j := 1) (v := .int 2) (ty := .int) C0 V i_WR o_WR n_WR rfl rfl hO0 (by decide) w_1923 rfl rfl rfl rfl (Nat.le_of_ble_eq_true rfl) d_19_37_51 (fun H locs w21 hu22 hO0 V => ?_)
  replace hO0 : w21[kO0]? = (some (qO0, .inr (13, [.int 0, .int 2, .ref qA1, .int 0, .ref qA2, .ref qA3, .ref qA4, .int 0, .ref qA5, .ref qA6, .ref qA7, .ref qA8, .ref qA9, .ref qA10, .ref qA11, .ref qA12, .int 0, .int 0, .ref qA13, .ref qA14, .int 0])) : Option (Nat × va_E)) := hO0
  replace hF := q_us hF hu22 (.head _)
  refine lv_aload_n hx hb d_19_37_54 rfl (lv_at hl 0 rfl) ?_
  refine q_get (ci := 13) (j := 6) (v := .ref qA4) C0 V i_WR rfl rfl hO0 (by decide) w_1930 rfl d_19_37_55 ?_
  replace hA4 := (hu22 _ n_A4_O0).trans ((hu19 _ n_A4_O0).trans (hA4))
  refine q_gov V (q_runS (As := [.ref qA4]) (rest := []) (d := 1) (mc := 0) (ms := 0) C0 V rfl LS_WR_63 (c_WR_clear_2 l D g w21 kA4 qA4 hA4 _) rfl hl.1 rfl (Nat.le_of_ble_eq_true rfl) ⟨by decide, by decide⟩ ⟨Nat.le_of_ble_eq_true rfl, Nat.le_of_ble_eq_true rfl⟩ d_19_37_58) (fun u24 H locs hp23 V => ?_)
  obtain ⟨hg25, hA4⟩ := hp23
  replace hF := q_uc hF hg25 (q_sc (List.mem_of_getElem? (i := 3) rfl) (fun _ h => absurd h List.not_mem_nil))
  refine lv_iconst (v := 0) hx hb d_19_37_61 (by decide) ?_
  refine lv_istore (lv' := [(5, .int 0), (0, .ref qO0), (1, .int x1), (2, .int x2), (3, .int x3), (4, .int x4)]) hx hb d_19_37_62 hl (by decide) rfl (fun ls hl => ?_)
  replace hO0 := (hg25 _ (q_nc n_O0_A4 List.not_mem_nil)).trans (hO0)
  replace hA2 := (hg25 _ (q_nc n_A2_A4 List.not_mem_nil)).trans ((hu22 _ n_A2_O0).trans ((hu19 _ n_A2_O0).trans (hA2)))
  replace hA3 := (hg25 _ (q_nc n_A3_A4 List.not_mem_nil)).trans ((hu22 _ n_A3_O0).trans ((hu19 _ n_A3_O0).trans (hA3)))
  refine q_loop (X := Int32) (fun z H locs ls w27 => (0 ≤ z.toInt ∧ (z.toInt ≤ (128 + 1) ∨ z.toInt = 0)) ∧ q_Wd D g (va_A ws sz) s w27 H locs ∧ lv_has ls 8 [(5, .int z), (0, .ref qO0), (1, .int x1), (2, .int x2), (3, .int x3), (4, .int x4)] ∧ q_un ws w27 [kO0, kA2, kA3, kA4] ∧ w27[kO0]? = (some (qO0, .inr (13, [.int 0, .int 2, .ref qA1, .int 0, .ref qA2, .ref qA3, .ref qA4, .int 0, .ref qA5, .ref qA6, .ref qA7, .ref qA8, .ref qA9, .ref qA10, .ref qA11, .ref qA12, .int 0, .int 0, .ref qA13, .ref qA14, .int 0])) : Option (Nat × va_E)) ∧ w27[kA2]? = (some (qA2, .inl (g 0, 1408, .inl (fun _ => 0))) : Option (Nat × va_E)) ∧ w27[kA3]? = (some (qA3, .inl (g 3, 11, .inl (fun _ => 0))) : Option (Nat × va_E)) ∧ w27[kA4]? = (some (qA4, .inl (g 0, 264, .inl (fun _ => 0))) : Option (Nat × va_E))) (fun z => ((128 + 1) - z.toInt).toNat) ?_ ((0 : Int32)) _ _ _ u24 ⟨⟨by decide, Or.inr (by decide)⟩, V, hl, hF, hO0, hA2, hA3, hA4⟩
  rintro lx26 H locs ls w27 ⟨i28, V, hl, hF, hO0, hA2, hA3, hA4⟩ ih29
  replace i28 : 0 ≤ lx26.toInt ∧ (lx26.toInt ≤ (128 + 1) ∨ lx26.toInt = 0) := i28
  replace hl : lv_has ls 8 [(5, .int lx26), (0, .ref qO0), (1, .int x1), (2, .int x2), (3, .int x3), (4, .int x4)] := hl
  replace hO0 : w27[kO0]? = (some (qO0, .inr (13, [.int 0, .int 2, .ref qA1, .int 0, .ref qA2, .ref qA3, .ref qA4, .int 0, .ref qA5, .ref qA6, .ref qA7, .ref qA8, .ref qA9, .ref qA10, .ref qA11, .ref qA12, .int 0, .int 0, .ref qA13, .ref qA14, .int 0])) : Option (Nat × va_E)) := hO0
  replace hA2 : w27[kA2]? = (some (qA2, .inl (g 0, 1408, .inl (fun _ => 0))) : Option (Nat × va_E)) := hA2
  replace hA3 : w27[kA3]? = (some (qA3, .inl (g 3, 11, .inl (fun _ => 0))) : Option (Nat × va_E)) := hA3
  replace hA4 : w27[kA4]? = (some (qA4, .inl (g 0, 264, .inl (fun _ => 0))) : Option (Nat × va_E)) := hA4
  refine lv_iload hx hb d_19_37_64 (lv_at hl 0 rfl) ?_
  refine lv_sipush (v := 128) hx hb d_19_37_66 (by decide) ?_
  refine lv_icmp_gt (tgt := 151) hx hb d_19_37_69 (by decide) (fun c30 => ?_) (fun c30 => ?_)
  ·
    refine lv_aload_n hx hb d_19_37_151 rfl (lv_at hl 1 rfl) ?_
    refine lv_aload_n hx hb d_19_37_152 rfl (lv_at hl 1 rfl) ?_
    refine q_get (ci := 13) (j := 6) (v := .ref qA4) C0 V i_WR rfl rfl hO0 (by decide) w_1930 rfl d_19_37_153 ?_
    refine lv_sipush (v := 128) hx hb d_19_37_156 (by decide) ?_
    refine q_iald C0 V hA4 (by unfold vp_in; decide) d_19_37_159 ?_
    refine q_ti (v := 0) (by first | rfl | decide | simp [upd, vp_updL, sb_cl0]) ?_
    refine q_ldc C0 rfl w_2744 d_19_37_160 ?_
    refine lv_icmp_lt (tgt := 169) hx hb d_19_37_162 (by decide) (fun c31 => ?_) (fun c31 => absurd (by decide) c31)
    refine lv_iconst (v := 0) hx hb d_19_37_169 (by decide) ?_
    refine q_put (ci := 13) (j := 7) (v := .int 0) (ty := .boolean) C0 V i_WR o_WR n_WR rfl rfl hO0 (by decide) w_1931 rfl rfl rfl rfl (Nat.le_of_ble_eq_true rfl) d_19_37_170 (fun H locs w32 hu33 hO0 V => ?_)
    replace hO0 : w32[kO0]? = (some (qO0, .inr (13, [.int 0, .int 2, .ref qA1, .int 0, .ref qA2, .ref qA3, .ref qA4, .int 0, .ref qA5, .ref qA6, .ref qA7, .ref qA8, .ref qA9, .ref qA10, .ref qA11, .ref qA12, .int 0, .int 0, .ref qA13, .ref qA14, .int 0])) : Option (Nat × va_E)) := hO0
    replace hF := q_us hF hu33 (.head _)
    refine lv_aload_n hx hb d_19_37_173 rfl (lv_at hl 1 rfl) ?_
    refine q_get (ci := 13) (j := 7) (v := .int 0) C0 V i_WR rfl rfl hO0 (by decide) w_1931 rfl d_19_37_174 ?_
    refine lv_if_eq (tgt := 238) hx hb d_19_37_177 (by decide) (fun c34 => ?_) (fun c34 => absurd (by decide) c34)
    refine lv_aload_n hx hb d_19_37_238 rfl (lv_at hl 1 rfl) ?_
    refine lv_iload_n hx hb d_19_37_239 rfl (lv_at hl 4 rfl) ?_
    replace hA2 := (hu33 _ n_A2_O0).trans (hA2)
    replace hA3 := (hu33 _ n_A3_O0).trans (hA3)
    replace hA4 := (hu33 _ n_A4_O0).trans (hA4)
    refine q_gov V (q_runV (As := [.int x3]) (rest := []) (d := 2) (mc := 0) (ms := 0) (ci := 13) C0 V rfl LV_WR_103 (c_WR_store l D g w32 kO0 kA2 kA3 kA4 qO0 qA1 qA2 qA3 qA4 qA5 qA6 qA7 qA8 qA9 qA10 qA11 qA12 qA13 qA14 x3 hO0 hA2 hA3 hA4 n_A2_A3 n_A4_A2 n_A4_A3 x3lo x3hi _) rfl rfl hO0 rfl hl.1 rfl (Nat.le_of_ble_eq_true rfl) ⟨by decide, by decide⟩ ⟨Nat.le_of_ble_eq_true rfl, Nat.le_of_ble_eq_true rfl⟩ d_19_37_240) (fun u36 H locs hp35 V => ?_)
    obtain ⟨hg37, hA2, hA3⟩ := hp35
    replace hF := q_uc hF hg37 (q_sc (.tail _ (.head _)) (q_sc (.tail _ (.tail _ (.head _))) (fun _ h => absurd h List.not_mem_nil)))
    replace hO0 := (hg37 _ (q_nc n_O0_A2 (q_nc n_O0_A3 List.not_mem_nil))).trans (hO0)
    replace hA4 := (hg37 _ (q_nc n_A4_A2 (q_nc n_A4_A3 List.not_mem_nil))).trans (hA4)
    exact q_retv C0 V (⟨hF, hO0, hA2, hA3, hA4⟩) d_19_37_243
  ·
    refine lv_aload_n hx hb d_19_37_72 rfl (lv_at hl 1 rfl) ?_
    refine lv_iload_n hx hb d_19_37_73 rfl (lv_at hl 2 rfl) ?_
    refine lv_iload hx hb d_19_37_74 (lv_at hl 0 rfl) ?_
    refine q_goi V (q_runV (As := [.int x1, .int lx26]) (rest := []) (d := 1) (mc := 0) (ms := 0) (ci := 13) C0 V rfl LV_WR_148 (c_WR_limb_2 l D g w27 kO0 kA2 kA3 qO0 qA1 qA2 qA3 qA4 qA5 qA6 qA7 qA8 qA9 qA10 qA11 qA12 qA13 qA14 x1 lx26 hO0 hA2 hA3 x1lo x1hi (q_Ile (x := 0) (y := lx26.toInt) (by decide) rfl (by have t1 : lx26.toInt ≤ 128 := q_nltI c30; omega)) (q_Ile (x := lx26.toInt) (y := 128) rfl (by decide) (by have t1 : lx26.toInt ≤ 128 := q_nltI c30; omega)) _) rfl rfl hO0 rfl hl.1 rfl (Nat.le_of_ble_eq_true rfl) ⟨by decide, by decide⟩ ⟨Nat.le_of_ble_eq_true rfl, Nat.le_of_ble_eq_true rfl⟩ d_19_37_76) (fun v40 u39 H locs hp38 V => ?_)
    obtain ⟨rfl, rfl⟩ := hp38
    refine lv_istore (lv' := [(6, .int 0), (5, .int lx26), (0, .ref qO0), (1, .int x1), (2, .int x2), (3, .int x3), (4, .int x4)]) hx hb d_19_37_79 hl (by decide) rfl (fun ls hl => ?_)
    refine lv_aload_n hx hb d_19_37_81 rfl (lv_at hl 2 rfl) ?_
    refine lv_iload_n hx hb d_19_37_82 rfl (lv_at hl 4 rfl) ?_
    refine lv_iload hx hb d_19_37_83 (lv_at hl 1 rfl) ?_
    refine q_goi V (q_runV (As := [.int x2, .int lx26]) (rest := []) (d := 1) (mc := 0) (ms := 0) (ci := 13) C0 V rfl LV_WR_148 (c_WR_limb_2 l D g w27 kO0 kA2 kA3 qO0 qA1 qA2 qA3 qA4 qA5 qA6 qA7 qA8 qA9 qA10 qA11 qA12 qA13 qA14 x2 lx26 hO0 hA2 hA3 x2lo x2hi (q_Ile (x := 0) (y := lx26.toInt) (by decide) rfl (by have t1 : lx26.toInt ≤ 128 := q_nltI c30; omega)) (q_Ile (x := lx26.toInt) (y := 128) rfl (by decide) (by have t1 : lx26.toInt ≤ 128 := q_nltI c30; omega)) _) rfl rfl hO0 rfl hl.1 rfl (Nat.le_of_ble_eq_true rfl) ⟨by decide, by decide⟩ ⟨Nat.le_of_ble_eq_true rfl, Nat.le_of_ble_eq_true rfl⟩ d_19_37_85) (fun v44 u43 H locs hp42 V => ?_)
    obtain ⟨rfl, rfl⟩ := hp42
    refine lv_istore (lv' := [(7, .int 0), (6, .int 0), (5, .int lx26), (0, .ref qO0), (1, .int x1), (2, .int x2), (3, .int x3), (4, .int x4)]) hx hb d_19_37_88 hl (by decide) rfl (fun ls hl => ?_)
    refine lv_aload_n hx hb d_19_37_90 rfl (lv_at hl 3 rfl) ?_
    refine q_get (ci := 13) (j := 6) (v := .ref qA4) C0 V i_WR rfl rfl hO0 (by decide) w_1930 rfl d_19_37_91 ?_
    refine lv_iload hx hb d_19_37_94 (lv_at hl 2 rfl) ?_
    refine lv_iload hx hb d_19_37_96 (lv_at hl 7 rfl) ?_
    refine lv_if_ne (tgt := 109) hx hb d_19_37_98 (by decide) (fun c46 => ?_) (fun c46 => ?_)
    ·
      refine lv_iload hx hb d_19_37_109 (lv_at hl 7 rfl) ?_
      refine lv_iconst (v := 1) hx hb d_19_37_111 (by decide) ?_
      refine lv_icmp_ne (tgt := 123) hx hb d_19_37_112 (by decide) (fun c47 => ?_) (fun c47 => ?_)
      ·
        refine lv_iload hx hb d_19_37_123 (lv_at hl 7 rfl) ?_
        refine lv_iconst (v := 2) hx hb d_19_37_125 (by decide) ?_
        refine lv_icmp_ne (tgt := 137) hx hb d_19_37_126 (by decide) (fun c48 => ?_) (fun c48 => ?_)
        ·
          refine lv_iload hx hb d_19_37_137 (lv_at hl 1 rfl) ?_
          refine lv_iload hx hb d_19_37_139 (lv_at hl 0 rfl) ?_
          refine lv_iconst (v := (-1)) hx hb d_19_37_141 (by decide) ?_
          refine lv_ixor hx hb d_19_37_142 ?_
          refine q_ti (v := (-1)) (by decide) ?_
          refine lv_iand hx hb d_19_37_143 ?_
          refine q_ti (v := 0) (by decide) ?_
          refine q_iast C0 V hA4 (q_ix (x := lx26.toInt) rfl (by have t1 : lx26.toInt ≤ 128 := q_nltI c30; omega) (by have t1 : lx26.toInt ≤ 128 := q_nltI c30; omega)) d_19_37_144 (fun H locs w49 hu50 hA4 V => ?_)
          replace hA4 := q_re (y := (qA4, .inl (g 0, 264, .inl (fun _ => 0)))) hA4 (q_eI q_upd0)
          replace hA4 : w49[kA4]? = (some (qA4, .inl (g 0, 264, .inl (fun _ => 0))) : Option (Nat × va_E)) := hA4
          replace hF := q_us hF hu50 (List.mem_of_getElem? (i := 3) rfl)
          refine lv_iinc (v := lx26 + 1) (lv' := [(5, .int (lx26 + 1)), (7, .int 0), (6, .int 0), (0, .ref qO0), (1, .int x1), (2, .int x2), (3, .int x3), (4, .int x4)]) hx hb d_19_37_145 hl (k := 2) rfl (rfl) (by decide) rfl (fun ls hl => ?_)
          refine lv_goto (tgt := 64) hx hb d_19_37_148 (by decide) ?_
          replace hO0 := (hu50 _ n_O0_A4).trans (hO0)
          replace hA2 := (hu50 _ n_A2_A4).trans (hA2)
          replace hA3 := (hu50 _ n_A3_A4).trans (hA3)
          exact ih29 ((lx26 + 1 : Int32)) _ _ _ _ (show ((128 + 1) - (lx26 + 1).toInt).toNat < ((128 + 1) - lx26.toInt).toNat from by have t1 : lx26.toInt ≤ 128 := q_nltI c30; have e : (lx26 + 1).toInt = (lx26.toInt + 1) := (q_addI (x := lx26.toInt) (y := 1) rfl (by decide) (by have t1 : lx26.toInt ≤ 128 := q_nltI c30; omega) (by have t1 : lx26.toInt ≤ 128 := q_nltI c30; omega)); omega) ⟨(show 0 ≤ (lx26 + 1).toInt ∧ ((lx26 + 1).toInt ≤ (128 + 1) ∨ (lx26 + 1).toInt = 0) from by have t1 : lx26.toInt ≤ 128 := q_nltI c30; have e : (lx26 + 1).toInt = (lx26.toInt + 1) := (q_addI (x := lx26.toInt) (y := 1) rfl (by decide) (by have t1 : lx26.toInt ≤ 128 := q_nltI c30; omega) (by have t1 : lx26.toInt ≤ 128 := q_nltI c30; omega)); omega), V, q_lw hl (q_lw1 0 rfl (q_lw1 3 rfl (q_lw1 4 rfl (q_lw1 5 rfl (q_lw1 6 rfl (q_lw1 7 rfl q_lw0)))))), hF, hO0, hA2, hA3, hA4⟩
        ·
          refine lv_iload hx hb d_19_37_129 (lv_at hl 1 rfl) ?_
          refine lv_iload hx hb d_19_37_131 (lv_at hl 0 rfl) ?_
          refine lv_ixor hx hb d_19_37_133 ?_
          refine q_ti (v := 0) (by decide) ?_
          refine lv_goto (tgt := 144) hx hb d_19_37_134 (by decide) ?_
          refine q_iast C0 V hA4 (q_ix (x := lx26.toInt) rfl (by have t1 : lx26.toInt ≤ 128 := q_nltI c30; omega) (by have t1 : lx26.toInt ≤ 128 := q_nltI c30; omega)) d_19_37_144 (fun H locs w51 hu52 hA4 V => ?_)
          replace hA4 := q_re (y := (qA4, .inl (g 0, 264, .inl (fun _ => 0)))) hA4 (q_eI q_upd0)
          replace hA4 : w51[kA4]? = (some (qA4, .inl (g 0, 264, .inl (fun _ => 0))) : Option (Nat × va_E)) := hA4
          replace hF := q_us hF hu52 (List.mem_of_getElem? (i := 3) rfl)
          refine lv_iinc (v := lx26 + 1) (lv' := [(5, .int (lx26 + 1)), (7, .int 0), (6, .int 0), (0, .ref qO0), (1, .int x1), (2, .int x2), (3, .int x3), (4, .int x4)]) hx hb d_19_37_145 hl (k := 2) rfl (rfl) (by decide) rfl (fun ls hl => ?_)
          refine lv_goto (tgt := 64) hx hb d_19_37_148 (by decide) ?_
          replace hO0 := (hu52 _ n_O0_A4).trans (hO0)
          replace hA2 := (hu52 _ n_A2_A4).trans (hA2)
          replace hA3 := (hu52 _ n_A3_A4).trans (hA3)
          exact ih29 ((lx26 + 1 : Int32)) _ _ _ _ (show ((128 + 1) - (lx26 + 1).toInt).toNat < ((128 + 1) - lx26.toInt).toNat from by have t1 : lx26.toInt ≤ 128 := q_nltI c30; have e : (lx26 + 1).toInt = (lx26.toInt + 1) := (q_addI (x := lx26.toInt) (y := 1) rfl (by decide) (by have t1 : lx26.toInt ≤ 128 := q_nltI c30; omega) (by have t1 : lx26.toInt ≤ 128 := q_nltI c30; omega)); omega) ⟨(show 0 ≤ (lx26 + 1).toInt ∧ ((lx26 + 1).toInt ≤ (128 + 1) ∨ (lx26 + 1).toInt = 0) from by have t1 : lx26.toInt ≤ 128 := q_nltI c30; have e : (lx26 + 1).toInt = (lx26.toInt + 1) := (q_addI (x := lx26.toInt) (y := 1) rfl (by decide) (by have t1 : lx26.toInt ≤ 128 := q_nltI c30; omega) (by have t1 : lx26.toInt ≤ 128 := q_nltI c30; omega)); omega), V, q_lw hl (q_lw1 0 rfl (q_lw1 3 rfl (q_lw1 4 rfl (q_lw1 5 rfl (q_lw1 6 rfl (q_lw1 7 rfl q_lw0)))))), hF, hO0, hA2, hA3, hA4⟩
      ·
        refine lv_iload hx hb d_19_37_115 (lv_at hl 1 rfl) ?_
        refine lv_iload hx hb d_19_37_117 (lv_at hl 0 rfl) ?_
        refine lv_ior hx hb d_19_37_119 ?_
        refine q_ti (v := 0) (by decide) ?_
        refine lv_goto (tgt := 144) hx hb d_19_37_120 (by decide) ?_
        refine q_iast C0 V hA4 (q_ix (x := lx26.toInt) rfl (by have t1 : lx26.toInt ≤ 128 := q_nltI c30; omega) (by have t1 : lx26.toInt ≤ 128 := q_nltI c30; omega)) d_19_37_144 (fun H locs w53 hu54 hA4 V => ?_)
        replace hA4 := q_re (y := (qA4, .inl (g 0, 264, .inl (fun _ => 0)))) hA4 (q_eI q_upd0)
        replace hA4 : w53[kA4]? = (some (qA4, .inl (g 0, 264, .inl (fun _ => 0))) : Option (Nat × va_E)) := hA4
        replace hF := q_us hF hu54 (List.mem_of_getElem? (i := 3) rfl)
        refine lv_iinc (v := lx26 + 1) (lv' := [(5, .int (lx26 + 1)), (7, .int 0), (6, .int 0), (0, .ref qO0), (1, .int x1), (2, .int x2), (3, .int x3), (4, .int x4)]) hx hb d_19_37_145 hl (k := 2) rfl (rfl) (by decide) rfl (fun ls hl => ?_)
        refine lv_goto (tgt := 64) hx hb d_19_37_148 (by decide) ?_
        replace hO0 := (hu54 _ n_O0_A4).trans (hO0)
        replace hA2 := (hu54 _ n_A2_A4).trans (hA2)
        replace hA3 := (hu54 _ n_A3_A4).trans (hA3)
        exact ih29 ((lx26 + 1 : Int32)) _ _ _ _ (show ((128 + 1) - (lx26 + 1).toInt).toNat < ((128 + 1) - lx26.toInt).toNat from by have t1 : lx26.toInt ≤ 128 := q_nltI c30; have e : (lx26 + 1).toInt = (lx26.toInt + 1) := (q_addI (x := lx26.toInt) (y := 1) rfl (by decide) (by have t1 : lx26.toInt ≤ 128 := q_nltI c30; omega) (by have t1 : lx26.toInt ≤ 128 := q_nltI c30; omega)); omega) ⟨(show 0 ≤ (lx26 + 1).toInt ∧ ((lx26 + 1).toInt ≤ (128 + 1) ∨ (lx26 + 1).toInt = 0) from by have t1 : lx26.toInt ≤ 128 := q_nltI c30; have e : (lx26 + 1).toInt = (lx26.toInt + 1) := (q_addI (x := lx26.toInt) (y := 1) rfl (by decide) (by have t1 : lx26.toInt ≤ 128 := q_nltI c30; omega) (by have t1 : lx26.toInt ≤ 128 := q_nltI c30; omega)); omega), V, q_lw hl (q_lw1 0 rfl (q_lw1 3 rfl (q_lw1 4 rfl (q_lw1 5 rfl (q_lw1 6 rfl (q_lw1 7 rfl q_lw0)))))), hF, hO0, hA2, hA3, hA4⟩
    ·
      refine lv_iload hx hb d_19_37_101 (lv_at hl 1 rfl) ?_
      refine lv_iload hx hb d_19_37_103 (lv_at hl 0 rfl) ?_
      refine lv_iand hx hb d_19_37_105 ?_
      refine q_ti (v := 0) (by decide) ?_
      refine lv_goto (tgt := 144) hx hb d_19_37_106 (by decide) ?_
      refine q_iast C0 V hA4 (q_ix (x := lx26.toInt) rfl (by have t1 : lx26.toInt ≤ 128 := q_nltI c30; omega) (by have t1 : lx26.toInt ≤ 128 := q_nltI c30; omega)) d_19_37_144 (fun H locs w55 hu56 hA4 V => ?_)
      replace hA4 := q_re (y := (qA4, .inl (g 0, 264, .inl (fun _ => 0)))) hA4 (q_eI q_upd0)
      replace hA4 : w55[kA4]? = (some (qA4, .inl (g 0, 264, .inl (fun _ => 0))) : Option (Nat × va_E)) := hA4
      replace hF := q_us hF hu56 (List.mem_of_getElem? (i := 3) rfl)
      refine lv_iinc (v := lx26 + 1) (lv' := [(5, .int (lx26 + 1)), (7, .int 0), (6, .int 0), (0, .ref qO0), (1, .int x1), (2, .int x2), (3, .int x3), (4, .int x4)]) hx hb d_19_37_145 hl (k := 2) rfl (rfl) (by decide) rfl (fun ls hl => ?_)
      refine lv_goto (tgt := 64) hx hb d_19_37_148 (by decide) ?_
      replace hO0 := (hu56 _ n_O0_A4).trans (hO0)
      replace hA2 := (hu56 _ n_A2_A4).trans (hA2)
      replace hA3 := (hu56 _ n_A3_A4).trans (hA3)
      exact ih29 ((lx26 + 1 : Int32)) _ _ _ _ (show ((128 + 1) - (lx26 + 1).toInt).toNat < ((128 + 1) - lx26.toInt).toNat from by have t1 : lx26.toInt ≤ 128 := q_nltI c30; have e : (lx26 + 1).toInt = (lx26.toInt + 1) := (q_addI (x := lx26.toInt) (y := 1) rfl (by decide) (by have t1 : lx26.toInt ≤ 128 := q_nltI c30; omega) (by have t1 : lx26.toInt ≤ 128 := q_nltI c30; omega)); omega) ⟨(show 0 ≤ (lx26 + 1).toInt ∧ ((lx26 + 1).toInt ≤ (128 + 1) ∨ (lx26 + 1).toInt = 0) from by have t1 : lx26.toInt ≤ 128 := q_nltI c30; have e : (lx26 + 1).toInt = (lx26.toInt + 1) := (q_addI (x := lx26.toInt) (y := 1) rfl (by decide) (by have t1 : lx26.toInt ≤ 128 := q_nltI c30; omega) (by have t1 : lx26.toInt ≤ 128 := q_nltI c30; omega)); omega), V, q_lw hl (q_lw1 0 rfl (q_lw1 3 rfl (q_lw1 4 rfl (q_lw1 5 rfl (q_lw1 6 rfl (q_lw1 7 rfl q_lw0)))))), hF, hO0, hA2, hA3, hA4⟩
theorem d_14_20_0 : decode prog_14_method_20_code 0 = .ok (.aload_n 0, 1) := by decide +kernel
theorem d_14_20_1 : decode prog_14_method_20_code 1 = .ok (.iload_n 1, 1) := by decide +kernel
theorem d_14_20_2 : decode prog_14_method_20_code 2 = .ok (.ifCond .lt 31, 3) := by decide +kernel
theorem d_14_20_33 : decode prog_14_method_20_code 33 = .ok (.iconst 1, 1) := by decide +kernel
theorem d_14_20_34 : decode prog_14_method_20_code 34 = .ok (.goto 4, 3) := by decide +kernel
theorem d_14_20_38 : decode prog_14_method_20_code 38 = .ok (.putfield 58, 3) := by decide +kernel
theorem d_14_20_41 : decode prog_14_method_20_code 41 = .ok (.aload_n 0, 1) := by decide +kernel
theorem d_14_20_42 : decode prog_14_method_20_code 42 = .ok (.getfield 58, 3) := by decide +kernel
theorem d_14_20_45 : decode prog_14_method_20_code 45 = .ok (.ifCond .le 4, 3) := by decide +kernel
theorem d_14_20_48 : decode prog_14_method_20_code 48 = .ok (.return_, 1) := by decide +kernel
theorem d_14_20_5 : decode prog_14_method_20_code 5 = .ok (.iload_n 1, 1) := by decide +kernel
theorem d_14_20_6 : decode prog_14_method_20_code 6 = .ok (.bipush 11, 2) := by decide +kernel
theorem d_14_20_8 : decode prog_14_method_20_code 8 = .ok (.if_icmp .gt 25, 3) := by decide +kernel
theorem d_14_20_11 : decode prog_14_method_20_code 11 = .ok (.iload_n 2, 1) := by decide +kernel
theorem d_14_20_12 : decode prog_14_method_20_code 12 = .ok (.invokestatic 70, 3) := by decide +kernel
theorem d_14_20_15 : decode prog_14_method_20_code 15 = .ok (.ifCond .ne 18, 3) := by decide +kernel
theorem d_14_20_18 : decode prog_14_method_20_code 18 = .ok (.iload_n 3, 1) := by decide +kernel
theorem d_14_20_19 : decode prog_14_method_20_code 19 = .ok (.invokestatic 70, 3) := by decide +kernel
theorem d_14_20_22 : decode prog_14_method_20_code 22 = .ok (.ifCond .ne 11, 3) := by decide +kernel
theorem d_14_20_25 : decode prog_14_method_20_code 25 = .ok (.iload 4, 2) := by decide +kernel
theorem d_14_20_27 : decode prog_14_method_20_code 27 = .ok (.invokestatic 70, 3) := by decide +kernel
theorem d_14_20_30 : decode prog_14_method_20_code 30 = .ok (.ifCond .eq 7, 3) := by decide +kernel
theorem d_14_20_37 : decode prog_14_method_20_code 37 = .ok (.iconst 0, 1) := by decide +kernel
theorem d_14_20_49 : decode prog_14_method_20_code 49 = .ok (.iload_n 1, 1) := by decide +kernel
theorem d_14_20_50 : decode prog_14_method_20_code 50 = .ok (.tableswitch 158 0 7 #[46, 46, 70, 84, 100, 116, 130, 144], 46) := by decide +kernel
theorem d_14_20_96 : decode prog_14_method_20_code 96 = .ok (.aload_n 0, 1) := by decide +kernel
theorem d_14_20_97 : decode prog_14_method_20_code 97 = .ok (.getfield 19, 3) := by decide +kernel
theorem d_14_20_100 : decode prog_14_method_20_code 100 = .ok (.iload_n 2, 1) := by decide +kernel
theorem d_14_20_101 : decode prog_14_method_20_code 101 = .ok (.iload_n 3, 1) := by decide +kernel
theorem d_14_20_102 : decode prog_14_method_20_code 102 = .ok (.iload 4, 2) := by decide +kernel
theorem d_14_20_104 : decode prog_14_method_20_code 104 = .ok (.iload_n 1, 1) := by decide +kernel
theorem d_14_20_105 : decode prog_14_method_20_code 105 = .ok (.iconst 1, 1) := by decide +kernel
theorem d_14_20_106 : decode prog_14_method_20_code 106 = .ok (.if_icmp .ne 7, 3) := by decide +kernel
theorem d_14_20_113 : decode prog_14_method_20_code 113 = .ok (.iconst 0, 1) := by decide +kernel
theorem d_14_20_114 : decode prog_14_method_20_code 114 = .ok (.invokevirtual 168, 3) := by decide +kernel
theorem w_2685 : (Cond.code ({ cls := "NumberHouseModel$WholeRows", name := "add", desc := "(IIIZ)V" } : MethodName) prog_19_method_22_code (5 : Nat) (none : Option ClassFile.FieldType)) ∈ q_tbl := q_of 2685 (by decide +kernel) (by decide +kernel)
theorem w_2682 : (Cond.methodLink "NumberHouseModel" (168 : Nat) ({ cls := "NumberHouseModel$WholeRows", name := "add", desc := "(IIIZ)V" } : MethodName)) ∈ q_tbl := q_of 2682 (by decide +kernel) (by decide +kernel)
theorem w_2683 : (Cond.instanceMethod ({ cls := "NumberHouseModel$WholeRows", name := "add", desc := "(IIIZ)V" } : MethodName)) ∈ q_tbl := q_of 2683 (by decide +kernel) (by decide +kernel)
theorem w_2684 : (Cond.selects "NumberHouseModel$WholeRows" ({ cls := "NumberHouseModel$WholeRows", name := "add", desc := "(IIIZ)V" } : MethodName) ({ cls := "NumberHouseModel$WholeRows", name := "add", desc := "(IIIZ)V" } : MethodName)) ∈ q_tbl := q_of 2684 (by decide +kernel) (by decide +kernel)
theorem LV_NM_168 : q_LV "NumberHouseModel" 168 y_WR_add prog_19_method_22_code 5 none 4 := ⟨w_2685, w_15, w_2682, w_2683, w_2684, ⟨by decide, by decide, by decide +kernel⟩⟩
theorem d_14_20_117 : decode prog_14_method_20_code 117 = .ok (.goto 106, 3) := by decide +kernel
theorem d_14_20_223 : decode prog_14_method_20_code 223 = .ok (.aload_n 0, 1) := by decide +kernel
theorem d_14_20_224 : decode prog_14_method_20_code 224 = .ok (.aload_n 0, 1) := by decide +kernel
theorem d_14_20_225 : decode prog_14_method_20_code 225 = .ok (.getfield 19, 3) := by decide +kernel
theorem d_14_20_228 : decode prog_14_method_20_code 228 = .ok (.getfield 99, 3) := by decide +kernel
theorem d_14_20_231 : decode prog_14_method_20_code 231 = .ok (.putfield 58, 3) := by decide +kernel
theorem d_14_20_234 : decode prog_14_method_20_code 234 = .ok (.return_, 1) := by decide +kernel
theorem d_14_20_109 : decode prog_14_method_20_code 109 = .ok (.iconst 1, 1) := by decide +kernel
theorem d_14_20_110 : decode prog_14_method_20_code 110 = .ok (.goto 4, 3) := by decide +kernel
theorem d_14_20_120 : decode prog_14_method_20_code 120 = .ok (.aload_n 0, 1) := by decide +kernel
theorem d_14_20_121 : decode prog_14_method_20_code 121 = .ok (.getfield 19, 3) := by decide +kernel
theorem d_14_20_124 : decode prog_14_method_20_code 124 = .ok (.iload_n 2, 1) := by decide +kernel
theorem d_14_20_125 : decode prog_14_method_20_code 125 = .ok (.iload_n 3, 1) := by decide +kernel
theorem d_14_20_126 : decode prog_14_method_20_code 126 = .ok (.iload 4, 2) := by decide +kernel
theorem d_14_20_128 : decode prog_14_method_20_code 128 = .ok (.invokevirtual 172, 3) := by decide +kernel
theorem w_2699 : (Cond.code ({ cls := "NumberHouseModel$WholeRows", name := "multiply", desc := "(III)V" } : MethodName) prog_19_method_23_code (4 : Nat) (none : Option ClassFile.FieldType)) ∈ q_tbl := q_of 2699 (by decide +kernel) (by decide +kernel)
theorem w_2696 : (Cond.methodLink "NumberHouseModel" (172 : Nat) ({ cls := "NumberHouseModel$WholeRows", name := "multiply", desc := "(III)V" } : MethodName)) ∈ q_tbl := q_of 2696 (by decide +kernel) (by decide +kernel)
theorem w_2697 : (Cond.instanceMethod ({ cls := "NumberHouseModel$WholeRows", name := "multiply", desc := "(III)V" } : MethodName)) ∈ q_tbl := q_of 2697 (by decide +kernel) (by decide +kernel)
theorem w_2698 : (Cond.selects "NumberHouseModel$WholeRows" ({ cls := "NumberHouseModel$WholeRows", name := "multiply", desc := "(III)V" } : MethodName) ({ cls := "NumberHouseModel$WholeRows", name := "multiply", desc := "(III)V" } : MethodName)) ∈ q_tbl := q_of 2698 (by decide +kernel) (by decide +kernel)
theorem LV_NM_172 : q_LV "NumberHouseModel" 172 y_WR_multiply prog_19_method_23_code 4 none 3 := ⟨w_2699, w_15, w_2696, w_2697, w_2698, ⟨by decide, by decide, by decide +kernel⟩⟩
theorem d_14_20_131 : decode prog_14_method_20_code 131 = .ok (.goto 92, 3) := by decide +kernel
theorem d_14_20_134 : decode prog_14_method_20_code 134 = .ok (.aload_n 0, 1) := by decide +kernel
theorem d_14_20_135 : decode prog_14_method_20_code 135 = .ok (.getfield 19, 3) := by decide +kernel
theorem d_14_20_138 : decode prog_14_method_20_code 138 = .ok (.iload_n 2, 1) := by decide +kernel
theorem d_14_20_139 : decode prog_14_method_20_code 139 = .ok (.iload_n 3, 1) := by decide +kernel
theorem d_14_20_140 : decode prog_14_method_20_code 140 = .ok (.iload 4, 2) := by decide +kernel
theorem d_14_20_142 : decode prog_14_method_20_code 142 = .ok (.bipush 10, 2) := by decide +kernel
theorem d_14_20_144 : decode prog_14_method_20_code 144 = .ok (.invokevirtual 176, 3) := by decide +kernel
theorem w_2707 : (Cond.code ({ cls := "NumberHouseModel$WholeRows", name := "divide", desc := "(IIII)V" } : MethodName) prog_19_method_24_code (7 : Nat) (none : Option ClassFile.FieldType)) ∈ q_tbl := q_of 2707 (by decide +kernel) (by decide +kernel)
theorem w_2704 : (Cond.methodLink "NumberHouseModel" (176 : Nat) ({ cls := "NumberHouseModel$WholeRows", name := "divide", desc := "(IIII)V" } : MethodName)) ∈ q_tbl := q_of 2704 (by decide +kernel) (by decide +kernel)
theorem w_2705 : (Cond.instanceMethod ({ cls := "NumberHouseModel$WholeRows", name := "divide", desc := "(IIII)V" } : MethodName)) ∈ q_tbl := q_of 2705 (by decide +kernel) (by decide +kernel)
theorem w_2706 : (Cond.selects "NumberHouseModel$WholeRows" ({ cls := "NumberHouseModel$WholeRows", name := "divide", desc := "(IIII)V" } : MethodName) ({ cls := "NumberHouseModel$WholeRows", name := "divide", desc := "(IIII)V" } : MethodName)) ∈ q_tbl := q_of 2706 (by decide +kernel) (by decide +kernel)
theorem LV_NM_176 : q_LV "NumberHouseModel" 176 y_WR_divide prog_19_method_24_code 7 none 4 := ⟨w_2707, w_15, w_2704, w_2705, w_2706, ⟨by decide, by decide, by decide +kernel⟩⟩
theorem d_14_20_147 : decode prog_14_method_20_code 147 = .ok (.goto 76, 3) := by decide +kernel
theorem d_14_20_150 : decode prog_14_method_20_code 150 = .ok (.aload_n 0, 1) := by decide +kernel
theorem d_14_20_151 : decode prog_14_method_20_code 151 = .ok (.getfield 19, 3) := by decide +kernel
theorem d_14_20_154 : decode prog_14_method_20_code 154 = .ok (.iload_n 2, 1) := by decide +kernel
theorem d_14_20_155 : decode prog_14_method_20_code 155 = .ok (.iload_n 3, 1) := by decide +kernel
theorem d_14_20_156 : decode prog_14_method_20_code 156 = .ok (.bipush 10, 2) := by decide +kernel
theorem d_14_20_158 : decode prog_14_method_20_code 158 = .ok (.iload 4, 2) := by decide +kernel
theorem d_14_20_160 : decode prog_14_method_20_code 160 = .ok (.invokevirtual 176, 3) := by decide +kernel
theorem d_14_20_163 : decode prog_14_method_20_code 163 = .ok (.goto 60, 3) := by decide +kernel
theorem d_14_20_166 : decode prog_14_method_20_code 166 = .ok (.aload_n 0, 1) := by decide +kernel
theorem d_14_20_167 : decode prog_14_method_20_code 167 = .ok (.getfield 19, 3) := by decide +kernel
theorem d_14_20_170 : decode prog_14_method_20_code 170 = .ok (.iload_n 2, 1) := by decide +kernel
theorem d_14_20_171 : decode prog_14_method_20_code 171 = .ok (.iload_n 3, 1) := by decide +kernel
theorem d_14_20_172 : decode prog_14_method_20_code 172 = .ok (.iload 4, 2) := by decide +kernel
theorem d_14_20_174 : decode prog_14_method_20_code 174 = .ok (.invokevirtual 180, 3) := by decide +kernel
theorem w_2715 : (Cond.code ({ cls := "NumberHouseModel$WholeRows", name := "modulo", desc := "(III)V" } : MethodName) prog_19_method_27_code (4 : Nat) (none : Option ClassFile.FieldType)) ∈ q_tbl := q_of 2715 (by decide +kernel) (by decide +kernel)
theorem w_2712 : (Cond.methodLink "NumberHouseModel" (180 : Nat) ({ cls := "NumberHouseModel$WholeRows", name := "modulo", desc := "(III)V" } : MethodName)) ∈ q_tbl := q_of 2712 (by decide +kernel) (by decide +kernel)
theorem w_2713 : (Cond.instanceMethod ({ cls := "NumberHouseModel$WholeRows", name := "modulo", desc := "(III)V" } : MethodName)) ∈ q_tbl := q_of 2713 (by decide +kernel) (by decide +kernel)
theorem w_2714 : (Cond.selects "NumberHouseModel$WholeRows" ({ cls := "NumberHouseModel$WholeRows", name := "modulo", desc := "(III)V" } : MethodName) ({ cls := "NumberHouseModel$WholeRows", name := "modulo", desc := "(III)V" } : MethodName)) ∈ q_tbl := q_of 2714 (by decide +kernel) (by decide +kernel)
theorem LV_NM_180 : q_LV "NumberHouseModel" 180 y_WR_modulo prog_19_method_27_code 4 none 3 := ⟨w_2715, w_15, w_2712, w_2713, w_2714, ⟨by decide, by decide, by decide +kernel⟩⟩
theorem d_14_20_177 : decode prog_14_method_20_code 177 = .ok (.goto 46, 3) := by decide +kernel
theorem d_14_20_180 : decode prog_14_method_20_code 180 = .ok (.aload_n 0, 1) := by decide +kernel
theorem d_14_20_181 : decode prog_14_method_20_code 181 = .ok (.getfield 19, 3) := by decide +kernel
theorem d_14_20_184 : decode prog_14_method_20_code 184 = .ok (.iload_n 2, 1) := by decide +kernel
theorem d_14_20_185 : decode prog_14_method_20_code 185 = .ok (.iload_n 3, 1) := by decide +kernel
theorem d_14_20_186 : decode prog_14_method_20_code 186 = .ok (.iload 4, 2) := by decide +kernel
theorem d_14_20_188 : decode prog_14_method_20_code 188 = .ok (.invokevirtual 183, 3) := by decide +kernel
theorem w_2727 : (Cond.code ({ cls := "NumberHouseModel$WholeRows", name := "common", desc := "(III)V" } : MethodName) prog_19_method_32_code (4 : Nat) (none : Option ClassFile.FieldType)) ∈ q_tbl := q_of 2727 (by decide +kernel) (by decide +kernel)
theorem w_2724 : (Cond.methodLink "NumberHouseModel" (183 : Nat) ({ cls := "NumberHouseModel$WholeRows", name := "common", desc := "(III)V" } : MethodName)) ∈ q_tbl := q_of 2724 (by decide +kernel) (by decide +kernel)
theorem w_2725 : (Cond.instanceMethod ({ cls := "NumberHouseModel$WholeRows", name := "common", desc := "(III)V" } : MethodName)) ∈ q_tbl := q_of 2725 (by decide +kernel) (by decide +kernel)
theorem w_2726 : (Cond.selects "NumberHouseModel$WholeRows" ({ cls := "NumberHouseModel$WholeRows", name := "common", desc := "(III)V" } : MethodName) ({ cls := "NumberHouseModel$WholeRows", name := "common", desc := "(III)V" } : MethodName)) ∈ q_tbl := q_of 2726 (by decide +kernel) (by decide +kernel)
theorem LV_NM_183 : q_LV "NumberHouseModel" 183 y_WR_common prog_19_method_32_code 4 none 3 := ⟨w_2727, w_15, w_2724, w_2725, w_2726, ⟨by decide, by decide, by decide +kernel⟩⟩
theorem d_14_20_191 : decode prog_14_method_20_code 191 = .ok (.goto 32, 3) := by decide +kernel
theorem d_14_20_194 : decode prog_14_method_20_code 194 = .ok (.aload_n 0, 1) := by decide +kernel
theorem d_14_20_195 : decode prog_14_method_20_code 195 = .ok (.getfield 19, 3) := by decide +kernel
theorem d_14_20_198 : decode prog_14_method_20_code 198 = .ok (.iload_n 2, 1) := by decide +kernel
theorem d_14_20_199 : decode prog_14_method_20_code 199 = .ok (.iload_n 3, 1) := by decide +kernel
theorem d_14_20_200 : decode prog_14_method_20_code 200 = .ok (.iload 4, 2) := by decide +kernel
theorem d_14_20_202 : decode prog_14_method_20_code 202 = .ok (.invokevirtual 186, 3) := by decide +kernel
theorem w_2731 : (Cond.code ({ cls := "NumberHouseModel$WholeRows", name := "inverse", desc := "(III)V" } : MethodName) prog_19_method_34_code (4 : Nat) (none : Option ClassFile.FieldType)) ∈ q_tbl := q_of 2731 (by decide +kernel) (by decide +kernel)
theorem w_2728 : (Cond.methodLink "NumberHouseModel" (186 : Nat) ({ cls := "NumberHouseModel$WholeRows", name := "inverse", desc := "(III)V" } : MethodName)) ∈ q_tbl := q_of 2728 (by decide +kernel) (by decide +kernel)
theorem w_2729 : (Cond.instanceMethod ({ cls := "NumberHouseModel$WholeRows", name := "inverse", desc := "(III)V" } : MethodName)) ∈ q_tbl := q_of 2729 (by decide +kernel) (by decide +kernel)
theorem w_2730 : (Cond.selects "NumberHouseModel$WholeRows" ({ cls := "NumberHouseModel$WholeRows", name := "inverse", desc := "(III)V" } : MethodName) ({ cls := "NumberHouseModel$WholeRows", name := "inverse", desc := "(III)V" } : MethodName)) ∈ q_tbl := q_of 2730 (by decide +kernel) (by decide +kernel)
theorem LV_NM_186 : q_LV "NumberHouseModel" 186 y_WR_inverse prog_19_method_34_code 4 none 3 := ⟨w_2731, w_15, w_2728, w_2729, w_2730, ⟨by decide, by decide, by decide +kernel⟩⟩
theorem d_14_20_205 : decode prog_14_method_20_code 205 = .ok (.goto 18, 3) := by decide +kernel
theorem d_14_20_208 : decode prog_14_method_20_code 208 = .ok (.aload_n 0, 1) := by decide +kernel
theorem d_14_20_209 : decode prog_14_method_20_code 209 = .ok (.getfield 19, 3) := by decide +kernel
theorem d_14_20_212 : decode prog_14_method_20_code 212 = .ok (.iload_n 2, 1) := by decide +kernel
theorem d_14_20_213 : decode prog_14_method_20_code 213 = .ok (.iload_n 3, 1) := by decide +kernel
theorem d_14_20_214 : decode prog_14_method_20_code 214 = .ok (.iload 4, 2) := by decide +kernel
theorem d_14_20_216 : decode prog_14_method_20_code 216 = .ok (.iload_n 1, 1) := by decide +kernel
theorem d_14_20_217 : decode prog_14_method_20_code 217 = .ok (.bipush 8, 2) := by decide +kernel
theorem d_14_20_219 : decode prog_14_method_20_code 219 = .ok (.isub, 1) := by decide +kernel
theorem d_14_20_220 : decode prog_14_method_20_code 220 = .ok (.invokevirtual 189, 3) := by decide +kernel
theorem w_2743 : (Cond.code ({ cls := "NumberHouseModel$WholeRows", name := "combine", desc := "(IIII)V" } : MethodName) prog_19_method_37_code (8 : Nat) (none : Option ClassFile.FieldType)) ∈ q_tbl := q_of 2743 (by decide +kernel) (by decide +kernel)
theorem w_2740 : (Cond.methodLink "NumberHouseModel" (189 : Nat) ({ cls := "NumberHouseModel$WholeRows", name := "combine", desc := "(IIII)V" } : MethodName)) ∈ q_tbl := q_of 2740 (by decide +kernel) (by decide +kernel)
theorem w_2741 : (Cond.instanceMethod ({ cls := "NumberHouseModel$WholeRows", name := "combine", desc := "(IIII)V" } : MethodName)) ∈ q_tbl := q_of 2741 (by decide +kernel) (by decide +kernel)
theorem w_2742 : (Cond.selects "NumberHouseModel$WholeRows" ({ cls := "NumberHouseModel$WholeRows", name := "combine", desc := "(IIII)V" } : MethodName) ({ cls := "NumberHouseModel$WholeRows", name := "combine", desc := "(IIII)V" } : MethodName)) ∈ q_tbl := q_of 2742 (by decide +kernel) (by decide +kernel)
theorem LV_NM_189 : q_LV "NumberHouseModel" 189 y_WR_combine prog_19_method_37_code 8 none 4 := ⟨w_2743, w_15, w_2740, w_2741, w_2742, ⟨by decide, by decide, by decide +kernel⟩⟩
def y_NM_whole : MethodName := ⟨"NumberHouseModel", "whole", "(IIII)V"⟩
set_option maxRecDepth 100000 in
set_option maxHeartbeats 4000000 in
/-- whole on a fresh object -/
theorem c_NM_whole (l : Launch) (D : va_G) (g : Nat → ClassId) (ws : va_W) ( qO0 qA1 qA2 qO3 qO4 qO5 qO6 qO7 qA8 qA9 qA10 qA11 qA12 qA13 qA14 qA15 qA16 qA17 qA18 qA19 qA20 qA21 qA22 qA23 : Nat) (x1 : Int32) (x2 : Int32) (x3 : Int32) (x4 : Int32) (hO0 : ws[116]? = (some (qO0, .inr (12, [.int 0, .ref qA1, .int 0, .ref qA2, .int 0, .ref qO3, .ref qO4, .ref qO5, .ref qO6, .ref qO7, .ref qA8, .ref qA9])) : Option (Nat × va_E))) (hO3 : ws[119]? = (some (qO3, .inr (13, [.int 0, .int 0, .ref qA10, .int 0, .ref qA11, .ref qA12, .ref qA13, .int 0, .ref qA14, .ref qA15, .ref qA16, .ref qA17, .ref qA18, .ref qA19, .ref qA20, .ref qA21, .int 0, .int 0, .ref qA22, .ref qA23, .int 0])) : Option (Nat × va_E))) (hA11 : ws[121]? = (some (qA11, .inl (g 0, 1408, .inl (fun _ => 0))) : Option (Nat × va_E))) (hA12 : ws[122]? = (some (qA12, .inl (g 3, 11, .inl (fun _ => 0))) : Option (Nat × va_E))) (hA13 : ws[123]? = (some (qA13, .inl (g 0, 264, .inl (fun _ => 0))) : Option (Nat × va_E))) (hA15 : ws[125]? = (some (qA15, .inl (g 0, 528, .inl (fun _ => 0))) : Option (Nat × va_E))) (hA18 : ws[128]? = (some (qA18, .inl (g 0, 264, .inl (fun _ => 0))) : Option (Nat × va_E))) (hA19 : ws[129]? = (some (qA19, .inl (g 0, 264, .inl (fun _ => 0))) : Option (Nat × va_E))) : q_mV l y_NM_whole prog_14_method_20_code 5 4 0 0 D g [.ref qO0, .int x1, .int x2, .int x3, .int x4] ws (fun u => ∃ (t0 z2 z4 : Int32), u[116]? = (some (qO0, .inr (12, [.int t0, .ref qA1, .int z2, .ref qA2, .int z4, .ref qO3, .ref qO4, .ref qO5, .ref qO6, .ref qO7, .ref qA8, .ref qA9])) : Option (Nat × va_E)) ∧ ((t0.toInt = 0 ∧ ((0 ≤ x1.toInt ∧ x1.toInt ≤ 11) ∧ (0 ≤ x2.toInt ∧ x2.toInt ≤ 9) ∧ (0 ≤ x3.toInt ∧ x3.toInt ≤ 9) ∧ (0 ≤ x4.toInt ∧ x4.toInt ≤ 9)) ∧ ¬ ((x1.toInt = 3 ∨ x1.toInt = 4 ∨ x1.toInt = 5 ∨ x1.toInt = 7))) ∨ (t0.toInt = 1 ∧ ¬ ((0 ≤ x1.toInt ∧ x1.toInt ≤ 11) ∧ (0 ≤ x2.toInt ∧ x2.toInt ≤ 9) ∧ (0 ≤ x3.toInt ∧ x3.toInt ≤ 9) ∧ (0 ≤ x4.toInt ∧ x4.toInt ≤ 9))) ∨ (t0.toInt = 2 ∧ ((0 ≤ x1.toInt ∧ x1.toInt ≤ 11) ∧ (0 ≤ x2.toInt ∧ x2.toInt ≤ 9) ∧ (0 ≤ x3.toInt ∧ x3.toInt ≤ 9) ∧ (0 ≤ x4.toInt ∧ x4.toInt ≤ 9)) ∧ (x1.toInt = 3 ∨ x1.toInt = 4 ∨ x1.toInt = 5 ∨ x1.toInt = 7))) ∧ q_ge 169 ws u) := by
  intro sz
  refine q_into (by decide) (Nat.le_of_ble_eq_true rfl) ?_
  intro p e s m below meth c ls hsz C0 V hl
  have hx := C0.1
  have hb := C0.2.1
  have hl : lv_has ls 5 [(0, .ref qO0), (1, .int x1), (2, .int x2), (3, .int x3), (4, .int x4)] := hl
  have hF : q_ge 169 ws ws := q_g0
  refine lv_aload_n hx hb d_14_20_0 rfl (lv_at hl 0 rfl) ?_
  refine lv_iload_n hx hb d_14_20_1 rfl (lv_at hl 1 rfl) ?_
  refine lv_if_lt (tgt := 33) hx hb d_14_20_2 (by decide) (fun c1 => ?_) (fun c1 => ?_)
  ·
    refine lv_iconst (v := 1) hx hb d_14_20_33 (by decide) ?_
    refine lv_goto (tgt := 38) hx hb d_14_20_34 (by decide) ?_
    refine q_put (ci := 12) (j := 0) (v := .int 1) (ty := .int) C0 V i_NM o_NM n_NM rfl rfl hO0 (by decide) w_2298 rfl rfl rfl rfl (Nat.le_of_ble_eq_true rfl) d_14_20_38 (fun H locs w2 hu3 hO0 V => ?_)
    replace hO0 : w2[116]? = (some (qO0, .inr (12, [.int 1, .ref qA1, .int 0, .ref qA2, .int 0, .ref qO3, .ref qO4, .ref qO5, .ref qO6, .ref qO7, .ref qA8, .ref qA9])) : Option (Nat × va_E)) := hO0
    replace hF := q_gs hF hu3 (Nat.le_of_ble_eq_true rfl)
    refine lv_aload_n hx hb d_14_20_41 rfl (lv_at hl 0 rfl) ?_
    refine q_get (ci := 12) (j := 0) (v := .int 1) C0 V i_NM rfl rfl hO0 (by decide) w_2298 rfl d_14_20_42 ?_
    refine lv_if_le (tgt := 49) hx hb d_14_20_45 (by decide) (fun c4 => absurd c4 (by decide)) (fun c4 => ?_)
    exact q_retv C0 V (⟨1, 0, 0, hO0, (show ((1 : Int32).toInt = 0 ∧ ((0 ≤ x1.toInt ∧ x1.toInt ≤ 11) ∧ (0 ≤ x2.toInt ∧ x2.toInt ≤ 9) ∧ (0 ≤ x3.toInt ∧ x3.toInt ≤ 9) ∧ (0 ≤ x4.toInt ∧ x4.toInt ≤ 9)) ∧ ¬ ((x1.toInt = 3 ∨ x1.toInt = 4 ∨ x1.toInt = 5 ∨ x1.toInt = 7))) ∨ ((1 : Int32).toInt = 1 ∧ ¬ ((0 ≤ x1.toInt ∧ x1.toInt ≤ 11) ∧ (0 ≤ x2.toInt ∧ x2.toInt ≤ 9) ∧ (0 ≤ x3.toInt ∧ x3.toInt ≤ 9) ∧ (0 ≤ x4.toInt ∧ x4.toInt ≤ 9))) ∨ ((1 : Int32).toInt = 2 ∧ ((0 ≤ x1.toInt ∧ x1.toInt ≤ 11) ∧ (0 ≤ x2.toInt ∧ x2.toInt ≤ 9) ∧ (0 ≤ x3.toInt ∧ x3.toInt ≤ 9) ∧ (0 ≤ x4.toInt ∧ x4.toInt ≤ 9)) ∧ (x1.toInt = 3 ∨ x1.toInt = 4 ∨ x1.toInt = 5 ∨ x1.toInt = 7)) from by have t1 : x1.toInt < 0 := q_ltI c1; have e0 : (1 : Int32).toInt = 1 := (by decide); omega), hF⟩) d_14_20_48
  ·
    refine lv_iload_n hx hb d_14_20_5 rfl (lv_at hl 1 rfl) ?_
    refine lv_bipush (v := 11) hx hb d_14_20_6 (by decide) ?_
    refine lv_icmp_gt (tgt := 33) hx hb d_14_20_8 (by decide) (fun c5 => ?_) (fun c5 => ?_)
    ·
      refine lv_iconst (v := 1) hx hb d_14_20_33 (by decide) ?_
      refine lv_goto (tgt := 38) hx hb d_14_20_34 (by decide) ?_
      refine q_put (ci := 12) (j := 0) (v := .int 1) (ty := .int) C0 V i_NM o_NM n_NM rfl rfl hO0 (by decide) w_2298 rfl rfl rfl rfl (Nat.le_of_ble_eq_true rfl) d_14_20_38 (fun H locs w6 hu7 hO0 V => ?_)
      replace hO0 : w6[116]? = (some (qO0, .inr (12, [.int 1, .ref qA1, .int 0, .ref qA2, .int 0, .ref qO3, .ref qO4, .ref qO5, .ref qO6, .ref qO7, .ref qA8, .ref qA9])) : Option (Nat × va_E)) := hO0
      replace hF := q_gs hF hu7 (Nat.le_of_ble_eq_true rfl)
      refine lv_aload_n hx hb d_14_20_41 rfl (lv_at hl 0 rfl) ?_
      refine q_get (ci := 12) (j := 0) (v := .int 1) C0 V i_NM rfl rfl hO0 (by decide) w_2298 rfl d_14_20_42 ?_
      refine lv_if_le (tgt := 49) hx hb d_14_20_45 (by decide) (fun c8 => absurd c8 (by decide)) (fun c8 => ?_)
      exact q_retv C0 V (⟨1, 0, 0, hO0, (show ((1 : Int32).toInt = 0 ∧ ((0 ≤ x1.toInt ∧ x1.toInt ≤ 11) ∧ (0 ≤ x2.toInt ∧ x2.toInt ≤ 9) ∧ (0 ≤ x3.toInt ∧ x3.toInt ≤ 9) ∧ (0 ≤ x4.toInt ∧ x4.toInt ≤ 9)) ∧ ¬ ((x1.toInt = 3 ∨ x1.toInt = 4 ∨ x1.toInt = 5 ∨ x1.toInt = 7))) ∨ ((1 : Int32).toInt = 1 ∧ ¬ ((0 ≤ x1.toInt ∧ x1.toInt ≤ 11) ∧ (0 ≤ x2.toInt ∧ x2.toInt ≤ 9) ∧ (0 ≤ x3.toInt ∧ x3.toInt ≤ 9) ∧ (0 ≤ x4.toInt ∧ x4.toInt ≤ 9))) ∨ ((1 : Int32).toInt = 2 ∧ ((0 ≤ x1.toInt ∧ x1.toInt ≤ 11) ∧ (0 ≤ x2.toInt ∧ x2.toInt ≤ 9) ∧ (0 ≤ x3.toInt ∧ x3.toInt ≤ 9) ∧ (0 ≤ x4.toInt ∧ x4.toInt ≤ 9)) ∧ (x1.toInt = 3 ∨ x1.toInt = 4 ∨ x1.toInt = 5 ∨ x1.toInt = 7)) from by have t1 : 0 ≤ x1.toInt := q_nltI c1; have t2 : 11 < x1.toInt := q_ltI c5; have e0 : (1 : Int32).toInt = 1 := (by decide); omega), hF⟩) d_14_20_48
    ·
      refine lv_iload_n hx hb d_14_20_11 rfl (lv_at hl 2 rfl) ?_
      refine q_goi V (q_runS (As := [.int x2]) (rest := [.ref qO0]) (d := 1) (mc := 0) (ms := 0) C0 V rfl LS_NM_70 (c_NM_no_IZ l D g ws x2 _) rfl hl.1 rfl (Nat.le_of_ble_eq_true rfl) ⟨by decide, by decide⟩ ⟨Nat.le_of_ble_eq_true rfl, Nat.le_of_ble_eq_true rfl⟩ d_14_20_12) (fun v11 u10 H locs hp9 V => ?_)
      rcases hp9 with ⟨c12, rfl, rfl⟩ | ⟨c14, c15, rfl, rfl⟩ | ⟨c17, c18, rfl, rfl⟩
      ·
        refine lv_if_ne (tgt := 33) hx hb d_14_20_15 (by decide) (fun c20 => ?_) (fun c20 => absurd c20 (by decide))
        refine lv_iconst (v := 1) hx hb d_14_20_33 (by decide) ?_
        refine lv_goto (tgt := 38) hx hb d_14_20_34 (by decide) ?_
        refine q_put (ci := 12) (j := 0) (v := .int 1) (ty := .int) C0 V i_NM o_NM n_NM rfl rfl hO0 (by decide) w_2298 rfl rfl rfl rfl (Nat.le_of_ble_eq_true rfl) d_14_20_38 (fun H locs w21 hu22 hO0 V => ?_)
        replace hO0 : w21[116]? = (some (qO0, .inr (12, [.int 1, .ref qA1, .int 0, .ref qA2, .int 0, .ref qO3, .ref qO4, .ref qO5, .ref qO6, .ref qO7, .ref qA8, .ref qA9])) : Option (Nat × va_E)) := hO0
        replace hF := q_gs hF hu22 (Nat.le_of_ble_eq_true rfl)
        refine lv_aload_n hx hb d_14_20_41 rfl (lv_at hl 0 rfl) ?_
        refine q_get (ci := 12) (j := 0) (v := .int 1) C0 V i_NM rfl rfl hO0 (by decide) w_2298 rfl d_14_20_42 ?_
        refine lv_if_le (tgt := 49) hx hb d_14_20_45 (by decide) (fun c23 => absurd c23 (by decide)) (fun c23 => ?_)
        exact q_retv C0 V (⟨1, 0, 0, hO0, (show ((1 : Int32).toInt = 0 ∧ ((0 ≤ x1.toInt ∧ x1.toInt ≤ 11) ∧ (0 ≤ x2.toInt ∧ x2.toInt ≤ 9) ∧ (0 ≤ x3.toInt ∧ x3.toInt ≤ 9) ∧ (0 ≤ x4.toInt ∧ x4.toInt ≤ 9)) ∧ ¬ ((x1.toInt = 3 ∨ x1.toInt = 4 ∨ x1.toInt = 5 ∨ x1.toInt = 7))) ∨ ((1 : Int32).toInt = 1 ∧ ¬ ((0 ≤ x1.toInt ∧ x1.toInt ≤ 11) ∧ (0 ≤ x2.toInt ∧ x2.toInt ≤ 9) ∧ (0 ≤ x3.toInt ∧ x3.toInt ≤ 9) ∧ (0 ≤ x4.toInt ∧ x4.toInt ≤ 9))) ∨ ((1 : Int32).toInt = 2 ∧ ((0 ≤ x1.toInt ∧ x1.toInt ≤ 11) ∧ (0 ≤ x2.toInt ∧ x2.toInt ≤ 9) ∧ (0 ≤ x3.toInt ∧ x3.toInt ≤ 9) ∧ (0 ≤ x4.toInt ∧ x4.toInt ≤ 9)) ∧ (x1.toInt = 3 ∨ x1.toInt = 4 ∨ x1.toInt = 5 ∨ x1.toInt = 7)) from by have t1 : 0 ≤ x1.toInt := q_nltI c1; have t2 : x1.toInt ≤ 11 := q_nltI c5; have t3 : x2.toInt < 0 := q_ltI c12; have e0 : (1 : Int32).toInt = 1 := (by decide); omega), hF⟩) d_14_20_48
      ·
        refine lv_if_ne (tgt := 33) hx hb d_14_20_15 (by decide) (fun c24 => absurd (by decide) c24) (fun c24 => ?_)
        refine lv_iload_n hx hb d_14_20_18 rfl (lv_at hl 3 rfl) ?_
        refine q_goi V (q_runS (As := [.int x3]) (rest := [.ref qO0]) (d := 1) (mc := 0) (ms := 0) C0 V rfl LS_NM_70 (c_NM_no_IZ l D g ws x3 _) rfl hl.1 rfl (Nat.le_of_ble_eq_true rfl) ⟨by decide, by decide⟩ ⟨Nat.le_of_ble_eq_true rfl, Nat.le_of_ble_eq_true rfl⟩ d_14_20_19) (fun v27 u26 H locs hp25 V => ?_)
        rcases hp25 with ⟨c28, rfl, rfl⟩ | ⟨c30, c31, rfl, rfl⟩ | ⟨c33, c34, rfl, rfl⟩
        ·
          refine lv_if_ne (tgt := 33) hx hb d_14_20_22 (by decide) (fun c36 => ?_) (fun c36 => absurd c36 (by decide))
          refine lv_iconst (v := 1) hx hb d_14_20_33 (by decide) ?_
          refine lv_goto (tgt := 38) hx hb d_14_20_34 (by decide) ?_
          refine q_put (ci := 12) (j := 0) (v := .int 1) (ty := .int) C0 V i_NM o_NM n_NM rfl rfl hO0 (by decide) w_2298 rfl rfl rfl rfl (Nat.le_of_ble_eq_true rfl) d_14_20_38 (fun H locs w37 hu38 hO0 V => ?_)
          replace hO0 : w37[116]? = (some (qO0, .inr (12, [.int 1, .ref qA1, .int 0, .ref qA2, .int 0, .ref qO3, .ref qO4, .ref qO5, .ref qO6, .ref qO7, .ref qA8, .ref qA9])) : Option (Nat × va_E)) := hO0
          replace hF := q_gs hF hu38 (Nat.le_of_ble_eq_true rfl)
          refine lv_aload_n hx hb d_14_20_41 rfl (lv_at hl 0 rfl) ?_
          refine q_get (ci := 12) (j := 0) (v := .int 1) C0 V i_NM rfl rfl hO0 (by decide) w_2298 rfl d_14_20_42 ?_
          refine lv_if_le (tgt := 49) hx hb d_14_20_45 (by decide) (fun c39 => absurd c39 (by decide)) (fun c39 => ?_)
          exact q_retv C0 V (⟨1, 0, 0, hO0, (show ((1 : Int32).toInt = 0 ∧ ((0 ≤ x1.toInt ∧ x1.toInt ≤ 11) ∧ (0 ≤ x2.toInt ∧ x2.toInt ≤ 9) ∧ (0 ≤ x3.toInt ∧ x3.toInt ≤ 9) ∧ (0 ≤ x4.toInt ∧ x4.toInt ≤ 9)) ∧ ¬ ((x1.toInt = 3 ∨ x1.toInt = 4 ∨ x1.toInt = 5 ∨ x1.toInt = 7))) ∨ ((1 : Int32).toInt = 1 ∧ ¬ ((0 ≤ x1.toInt ∧ x1.toInt ≤ 11) ∧ (0 ≤ x2.toInt ∧ x2.toInt ≤ 9) ∧ (0 ≤ x3.toInt ∧ x3.toInt ≤ 9) ∧ (0 ≤ x4.toInt ∧ x4.toInt ≤ 9))) ∨ ((1 : Int32).toInt = 2 ∧ ((0 ≤ x1.toInt ∧ x1.toInt ≤ 11) ∧ (0 ≤ x2.toInt ∧ x2.toInt ≤ 9) ∧ (0 ≤ x3.toInt ∧ x3.toInt ≤ 9) ∧ (0 ≤ x4.toInt ∧ x4.toInt ≤ 9)) ∧ (x1.toInt = 3 ∨ x1.toInt = 4 ∨ x1.toInt = 5 ∨ x1.toInt = 7)) from by have t1 : 0 ≤ x1.toInt := q_nltI c1; have t2 : x1.toInt ≤ 11 := q_nltI c5; have t3 : 0 ≤ x2.toInt := q_nltI c14; have t4 : x2.toInt ≤ 9 := q_leI c15; have t5 : x3.toInt < 0 := q_ltI c28; have e0 : (1 : Int32).toInt = 1 := (by decide); omega), hF⟩) d_14_20_48
        ·
          refine lv_if_ne (tgt := 33) hx hb d_14_20_22 (by decide) (fun c40 => absurd (by decide) c40) (fun c40 => ?_)
          refine lv_iload hx hb d_14_20_25 (lv_at hl 4 rfl) ?_
          refine q_goi V (q_runS (As := [.int x4]) (rest := [.ref qO0]) (d := 1) (mc := 0) (ms := 0) C0 V rfl LS_NM_70 (c_NM_no_IZ l D g ws x4 _) rfl hl.1 rfl (Nat.le_of_ble_eq_true rfl) ⟨by decide, by decide⟩ ⟨Nat.le_of_ble_eq_true rfl, Nat.le_of_ble_eq_true rfl⟩ d_14_20_27) (fun v43 u42 H locs hp41 V => ?_)
          rcases hp41 with ⟨c44, rfl, rfl⟩ | ⟨c46, c47, rfl, rfl⟩ | ⟨c49, c50, rfl, rfl⟩
          ·
            refine lv_if_eq (tgt := 37) hx hb d_14_20_30 (by decide) (fun c52 => absurd c52 (by decide)) (fun c52 => ?_)
            refine lv_iconst (v := 1) hx hb d_14_20_33 (by decide) ?_
            refine lv_goto (tgt := 38) hx hb d_14_20_34 (by decide) ?_
            refine q_put (ci := 12) (j := 0) (v := .int 1) (ty := .int) C0 V i_NM o_NM n_NM rfl rfl hO0 (by decide) w_2298 rfl rfl rfl rfl (Nat.le_of_ble_eq_true rfl) d_14_20_38 (fun H locs w53 hu54 hO0 V => ?_)
            replace hO0 : w53[116]? = (some (qO0, .inr (12, [.int 1, .ref qA1, .int 0, .ref qA2, .int 0, .ref qO3, .ref qO4, .ref qO5, .ref qO6, .ref qO7, .ref qA8, .ref qA9])) : Option (Nat × va_E)) := hO0
            replace hF := q_gs hF hu54 (Nat.le_of_ble_eq_true rfl)
            refine lv_aload_n hx hb d_14_20_41 rfl (lv_at hl 0 rfl) ?_
            refine q_get (ci := 12) (j := 0) (v := .int 1) C0 V i_NM rfl rfl hO0 (by decide) w_2298 rfl d_14_20_42 ?_
            refine lv_if_le (tgt := 49) hx hb d_14_20_45 (by decide) (fun c55 => absurd c55 (by decide)) (fun c55 => ?_)
            exact q_retv C0 V (⟨1, 0, 0, hO0, (show ((1 : Int32).toInt = 0 ∧ ((0 ≤ x1.toInt ∧ x1.toInt ≤ 11) ∧ (0 ≤ x2.toInt ∧ x2.toInt ≤ 9) ∧ (0 ≤ x3.toInt ∧ x3.toInt ≤ 9) ∧ (0 ≤ x4.toInt ∧ x4.toInt ≤ 9)) ∧ ¬ ((x1.toInt = 3 ∨ x1.toInt = 4 ∨ x1.toInt = 5 ∨ x1.toInt = 7))) ∨ ((1 : Int32).toInt = 1 ∧ ¬ ((0 ≤ x1.toInt ∧ x1.toInt ≤ 11) ∧ (0 ≤ x2.toInt ∧ x2.toInt ≤ 9) ∧ (0 ≤ x3.toInt ∧ x3.toInt ≤ 9) ∧ (0 ≤ x4.toInt ∧ x4.toInt ≤ 9))) ∨ ((1 : Int32).toInt = 2 ∧ ((0 ≤ x1.toInt ∧ x1.toInt ≤ 11) ∧ (0 ≤ x2.toInt ∧ x2.toInt ≤ 9) ∧ (0 ≤ x3.toInt ∧ x3.toInt ≤ 9) ∧ (0 ≤ x4.toInt ∧ x4.toInt ≤ 9)) ∧ (x1.toInt = 3 ∨ x1.toInt = 4 ∨ x1.toInt = 5 ∨ x1.toInt = 7)) from by have t1 : 0 ≤ x1.toInt := q_nltI c1; have t2 : x1.toInt ≤ 11 := q_nltI c5; have t3 : 0 ≤ x2.toInt := q_nltI c14; have t4 : x2.toInt ≤ 9 := q_leI c15; have t5 : 0 ≤ x3.toInt := q_nltI c30; have t6 : x3.toInt ≤ 9 := q_leI c31; have t7 : x4.toInt < 0 := q_ltI c44; have e0 : (1 : Int32).toInt = 1 := (by decide); omega), hF⟩) d_14_20_48
          ·
            refine lv_if_eq (tgt := 37) hx hb d_14_20_30 (by decide) (fun c56 => ?_) (fun c56 => absurd (by decide) c56)
            refine lv_iconst (v := 0) hx hb d_14_20_37 (by decide) ?_
            refine q_put (ci := 12) (j := 0) (v := .int 0) (ty := .int) C0 V i_NM o_NM n_NM rfl rfl hO0 (by decide) w_2298 rfl rfl rfl rfl (Nat.le_of_ble_eq_true rfl) d_14_20_38 (fun H locs w57 hu58 hO0 V => ?_)
            replace hO0 : w57[116]? = (some (qO0, .inr (12, [.int 0, .ref qA1, .int 0, .ref qA2, .int 0, .ref qO3, .ref qO4, .ref qO5, .ref qO6, .ref qO7, .ref qA8, .ref qA9])) : Option (Nat × va_E)) := hO0
            replace hF := q_gs hF hu58 (Nat.le_of_ble_eq_true rfl)
            refine lv_aload_n hx hb d_14_20_41 rfl (lv_at hl 0 rfl) ?_
            refine q_get (ci := 12) (j := 0) (v := .int 0) C0 V i_NM rfl rfl hO0 (by decide) w_2298 rfl d_14_20_42 ?_
            refine lv_if_le (tgt := 49) hx hb d_14_20_45 (by decide) (fun c59 => ?_) (fun c59 => absurd (by decide) c59)
            refine lv_iload_n hx hb d_14_20_49 rfl (lv_at hl 1 rfl) ?_
            by_cases c60 : x1 = 0
            ·
              refine q_ti (v := 0) c60 ?_
              refine lv_tableIn (tgt := 96) (off := 46) hx hb d_14_20_50 (by decide) (by decide) (by decide) (by decide) ?_
              refine lv_aload_n hx hb d_14_20_96 rfl (lv_at hl 0 rfl) ?_
              refine q_get (ci := 12) (j := 5) (v := .ref qO3) C0 V i_NM rfl rfl hO0 (by decide) w_2303 rfl d_14_20_97 ?_
              refine lv_iload_n hx hb d_14_20_100 rfl (lv_at hl 2 rfl) ?_
              refine lv_iload_n hx hb d_14_20_101 rfl (lv_at hl 3 rfl) ?_
              refine lv_iload hx hb d_14_20_102 (lv_at hl 4 rfl) ?_
              refine lv_iload_n hx hb d_14_20_104 rfl (lv_at hl 1 rfl) ?_
              refine q_ti (v := 0) c60 ?_
              refine lv_iconst (v := 1) hx hb d_14_20_105 (by decide) ?_
              refine lv_icmp_ne (tgt := 113) hx hb d_14_20_106 (by decide) (fun c61 => ?_) (fun c61 => absurd c61 (by decide))
              refine lv_iconst (v := 0) hx hb d_14_20_113 (by decide) ?_
              replace hO3 := (hu58 _ (q_pd 119 116 rfl)).trans (hO3)
              replace hA11 := (hu58 _ (q_pd 121 116 rfl)).trans (hA11)
              replace hA12 := (hu58 _ (q_pd 122 116 rfl)).trans (hA12)
              replace hA13 := (hu58 _ (q_pd 123 116 rfl)).trans (hA13)
              replace hA18 := (hu58 _ (q_pd 128 116 rfl)).trans (hA18)
              replace hA19 := (hu58 _ (q_pd 129 116 rfl)).trans (hA19)
              refine q_gov V (q_runV (As := [.int x2, .int x3, .int x4, .int 0]) (rest := []) (d := 3) (mc := 0) (ms := 0) (ci := 13) C0 V rfl LV_NM_168 (c_WR_add l D g w57 119 121 122 123 128 129 qO3 qA10 qA11 qA12 qA13 qA14 qA15 qA16 qA17 qA18 qA19 qA20 qA21 qA22 qA23 x2 x3 x4 hO3 hA11 hA12 hA13 hA18 hA19 (q_pd 129 121 rfl) (q_pd 129 122 rfl) (q_pd 129 123 rfl) (q_pd 129 128 rfl) (q_pd 121 122 rfl) (q_pd 121 123 rfl) (q_pd 121 128 rfl) (q_pd 122 123 rfl) (q_pd 122 128 rfl) (q_pd 123 128 rfl) (q_Ile (x := 0) (y := x2.toInt) (by decide) rfl (by have t1 : 0 ≤ x2.toInt := q_nltI c14; have t2 : x2.toInt ≤ 9 := q_leI c15; omega)) c15 (q_Ile (x := 0) (y := x3.toInt) (by decide) rfl (by have t1 : 0 ≤ x3.toInt := q_nltI c30; have t2 : x3.toInt ≤ 9 := q_leI c31; omega)) c31 (q_Ile (x := 0) (y := x4.toInt) (by decide) rfl (by have t1 : 0 ≤ x4.toInt := q_nltI c46; have t2 : x4.toInt ≤ 9 := q_leI c47; omega)) c47 _) rfl rfl hO3 rfl hl.1 rfl (Nat.le_of_ble_eq_true rfl) ⟨by decide, by decide⟩ ⟨Nat.le_of_ble_eq_true rfl, Nat.le_of_ble_eq_true rfl⟩ d_14_20_114) (fun u63 H locs hp62 V => ?_)
              obtain ⟨hg64, hO3, hA11, hA12, hA13, hA18, hA19⟩ := hp62
              replace hF := q_gc hF hg64 (q_al (Nat.le_of_ble_eq_true rfl) (q_al (Nat.le_of_ble_eq_true rfl) (q_al (Nat.le_of_ble_eq_true rfl) (q_al (Nat.le_of_ble_eq_true rfl) (q_al (Nat.le_of_ble_eq_true rfl) (q_al (Nat.le_of_ble_eq_true rfl) (fun _ h => absurd h List.not_mem_nil)))))))
              refine lv_goto (tgt := 223) hx hb d_14_20_117 (by decide) ?_
              refine lv_aload_n hx hb d_14_20_223 rfl (lv_at hl 0 rfl) ?_
              refine lv_aload_n hx hb d_14_20_224 rfl (lv_at hl 0 rfl) ?_
              replace hO0 := (hg64 _ (q_nc (q_pd 116 119 rfl) (q_nc (q_pd 116 121 rfl) (q_nc (q_pd 116 122 rfl) (q_nc (q_pd 116 123 rfl) (q_nc (q_pd 116 128 rfl) (q_nc (q_pd 116 129 rfl) List.not_mem_nil))))))).trans (hO0)
              refine q_get (ci := 12) (j := 5) (v := .ref qO3) C0 V i_NM rfl rfl hO0 (by decide) w_2303 rfl d_14_20_225 ?_
              refine q_getN (ci := 13) (j := 0) (v := .int 0) C0 V i_WR rfl rfl hO3 (by decide) wo_1922 rfl d_14_20_228 ?_
              refine q_put (ci := 12) (j := 0) (v := .int 0) (ty := .int) C0 V i_NM o_NM n_NM rfl rfl hO0 (by decide) w_2298 rfl rfl rfl rfl (Nat.le_of_ble_eq_true rfl) d_14_20_231 (fun H locs w65 hu66 hO0 V => ?_)
              replace hO0 : w65[116]? = (some (qO0, .inr (12, [.int 0, .ref qA1, .int 0, .ref qA2, .int 0, .ref qO3, .ref qO4, .ref qO5, .ref qO6, .ref qO7, .ref qA8, .ref qA9])) : Option (Nat × va_E)) := hO0
              replace hF := q_gs hF hu66 (Nat.le_of_ble_eq_true rfl)
              exact q_retv C0 V (⟨0, 0, 0, hO0, (show ((0 : Int32).toInt = 0 ∧ ((0 ≤ x1.toInt ∧ x1.toInt ≤ 11) ∧ (0 ≤ x2.toInt ∧ x2.toInt ≤ 9) ∧ (0 ≤ x3.toInt ∧ x3.toInt ≤ 9) ∧ (0 ≤ x4.toInt ∧ x4.toInt ≤ 9)) ∧ ¬ ((x1.toInt = 3 ∨ x1.toInt = 4 ∨ x1.toInt = 5 ∨ x1.toInt = 7))) ∨ ((0 : Int32).toInt = 1 ∧ ¬ ((0 ≤ x1.toInt ∧ x1.toInt ≤ 11) ∧ (0 ≤ x2.toInt ∧ x2.toInt ≤ 9) ∧ (0 ≤ x3.toInt ∧ x3.toInt ≤ 9) ∧ (0 ≤ x4.toInt ∧ x4.toInt ≤ 9))) ∨ ((0 : Int32).toInt = 2 ∧ ((0 ≤ x1.toInt ∧ x1.toInt ≤ 11) ∧ (0 ≤ x2.toInt ∧ x2.toInt ≤ 9) ∧ (0 ≤ x3.toInt ∧ x3.toInt ≤ 9) ∧ (0 ≤ x4.toInt ∧ x4.toInt ≤ 9)) ∧ (x1.toInt = 3 ∨ x1.toInt = 4 ∨ x1.toInt = 5 ∨ x1.toInt = 7)) from by have t1 : 0 ≤ x1.toInt := q_nltI c1; have t2 : x1.toInt ≤ 11 := q_nltI c5; have t3 : 0 ≤ x2.toInt := q_nltI c14; have t4 : x2.toInt ≤ 9 := q_leI c15; have t5 : 0 ≤ x3.toInt := q_nltI c30; have t6 : x3.toInt ≤ 9 := q_leI c31; have t7 : 0 ≤ x4.toInt := q_nltI c46; have t8 : x4.toInt ≤ 9 := q_leI c47; have t9 : x1.toInt = 0 := q_eqI c60; have e0 : (0 : Int32).toInt = 0 := (by decide); omega), hF⟩) d_14_20_234
            by_cases c67 : x1 = 1
            ·
              refine q_ti (v := 1) c67 ?_
              refine lv_tableIn (tgt := 96) (off := 46) hx hb d_14_20_50 (by decide) (by decide) (by decide) (by decide) ?_
              refine lv_aload_n hx hb d_14_20_96 rfl (lv_at hl 0 rfl) ?_
              refine q_get (ci := 12) (j := 5) (v := .ref qO3) C0 V i_NM rfl rfl hO0 (by decide) w_2303 rfl d_14_20_97 ?_
              refine lv_iload_n hx hb d_14_20_100 rfl (lv_at hl 2 rfl) ?_
              refine lv_iload_n hx hb d_14_20_101 rfl (lv_at hl 3 rfl) ?_
              refine lv_iload hx hb d_14_20_102 (lv_at hl 4 rfl) ?_
              refine lv_iload_n hx hb d_14_20_104 rfl (lv_at hl 1 rfl) ?_
              refine q_ti (v := 1) c67 ?_
              refine lv_iconst (v := 1) hx hb d_14_20_105 (by decide) ?_
              refine lv_icmp_ne (tgt := 113) hx hb d_14_20_106 (by decide) (fun c68 => absurd (by decide) c68) (fun c68 => ?_)
              refine lv_iconst (v := 1) hx hb d_14_20_109 (by decide) ?_
              refine lv_goto (tgt := 114) hx hb d_14_20_110 (by decide) ?_
              replace hO3 := (hu58 _ (q_pd 119 116 rfl)).trans (hO3)
              replace hA11 := (hu58 _ (q_pd 121 116 rfl)).trans (hA11)
              replace hA12 := (hu58 _ (q_pd 122 116 rfl)).trans (hA12)
              replace hA13 := (hu58 _ (q_pd 123 116 rfl)).trans (hA13)
              replace hA18 := (hu58 _ (q_pd 128 116 rfl)).trans (hA18)
              replace hA19 := (hu58 _ (q_pd 129 116 rfl)).trans (hA19)
              refine q_gov V (q_runV (As := [.int x2, .int x3, .int x4, .int 1]) (rest := []) (d := 3) (mc := 0) (ms := 0) (ci := 13) C0 V rfl LV_NM_168 (c_WR_add_2 l D g w57 119 121 122 123 128 129 qO3 qA10 qA11 qA12 qA13 qA14 qA15 qA16 qA17 qA18 qA19 qA20 qA21 qA22 qA23 x2 x3 x4 hO3 hA11 hA12 hA13 hA18 hA19 (q_pd 129 121 rfl) (q_pd 129 122 rfl) (q_pd 129 123 rfl) (q_pd 129 128 rfl) (q_pd 121 122 rfl) (q_pd 121 123 rfl) (q_pd 121 128 rfl) (q_pd 122 123 rfl) (q_pd 122 128 rfl) (q_pd 123 128 rfl) (q_Ile (x := 0) (y := x2.toInt) (by decide) rfl (by have t1 : 0 ≤ x2.toInt := q_nltI c14; have t2 : x2.toInt ≤ 9 := q_leI c15; omega)) c15 (q_Ile (x := 0) (y := x3.toInt) (by decide) rfl (by have t1 : 0 ≤ x3.toInt := q_nltI c30; have t2 : x3.toInt ≤ 9 := q_leI c31; omega)) c31 (q_Ile (x := 0) (y := x4.toInt) (by decide) rfl (by have t1 : 0 ≤ x4.toInt := q_nltI c46; have t2 : x4.toInt ≤ 9 := q_leI c47; omega)) c47 _) rfl rfl hO3 rfl hl.1 rfl (Nat.le_of_ble_eq_true rfl) ⟨by decide, by decide⟩ ⟨Nat.le_of_ble_eq_true rfl, Nat.le_of_ble_eq_true rfl⟩ d_14_20_114) (fun u70 H locs hp69 V => ?_)
              obtain ⟨hg71, hO3, hA11, hA12, hA13, hA18, hA19⟩ := hp69
              replace hF := q_gc hF hg71 (q_al (Nat.le_of_ble_eq_true rfl) (q_al (Nat.le_of_ble_eq_true rfl) (q_al (Nat.le_of_ble_eq_true rfl) (q_al (Nat.le_of_ble_eq_true rfl) (q_al (Nat.le_of_ble_eq_true rfl) (q_al (Nat.le_of_ble_eq_true rfl) (fun _ h => absurd h List.not_mem_nil)))))))
              refine lv_goto (tgt := 223) hx hb d_14_20_117 (by decide) ?_
              refine lv_aload_n hx hb d_14_20_223 rfl (lv_at hl 0 rfl) ?_
              refine lv_aload_n hx hb d_14_20_224 rfl (lv_at hl 0 rfl) ?_
              replace hO0 := (hg71 _ (q_nc (q_pd 116 119 rfl) (q_nc (q_pd 116 121 rfl) (q_nc (q_pd 116 122 rfl) (q_nc (q_pd 116 123 rfl) (q_nc (q_pd 116 128 rfl) (q_nc (q_pd 116 129 rfl) List.not_mem_nil))))))).trans (hO0)
              refine q_get (ci := 12) (j := 5) (v := .ref qO3) C0 V i_NM rfl rfl hO0 (by decide) w_2303 rfl d_14_20_225 ?_
              refine q_getN (ci := 13) (j := 0) (v := .int 0) C0 V i_WR rfl rfl hO3 (by decide) wo_1922 rfl d_14_20_228 ?_
              refine q_put (ci := 12) (j := 0) (v := .int 0) (ty := .int) C0 V i_NM o_NM n_NM rfl rfl hO0 (by decide) w_2298 rfl rfl rfl rfl (Nat.le_of_ble_eq_true rfl) d_14_20_231 (fun H locs w72 hu73 hO0 V => ?_)
              replace hO0 : w72[116]? = (some (qO0, .inr (12, [.int 0, .ref qA1, .int 0, .ref qA2, .int 0, .ref qO3, .ref qO4, .ref qO5, .ref qO6, .ref qO7, .ref qA8, .ref qA9])) : Option (Nat × va_E)) := hO0
              replace hF := q_gs hF hu73 (Nat.le_of_ble_eq_true rfl)
              exact q_retv C0 V (⟨0, 0, 0, hO0, (show ((0 : Int32).toInt = 0 ∧ ((0 ≤ x1.toInt ∧ x1.toInt ≤ 11) ∧ (0 ≤ x2.toInt ∧ x2.toInt ≤ 9) ∧ (0 ≤ x3.toInt ∧ x3.toInt ≤ 9) ∧ (0 ≤ x4.toInt ∧ x4.toInt ≤ 9)) ∧ ¬ ((x1.toInt = 3 ∨ x1.toInt = 4 ∨ x1.toInt = 5 ∨ x1.toInt = 7))) ∨ ((0 : Int32).toInt = 1 ∧ ¬ ((0 ≤ x1.toInt ∧ x1.toInt ≤ 11) ∧ (0 ≤ x2.toInt ∧ x2.toInt ≤ 9) ∧ (0 ≤ x3.toInt ∧ x3.toInt ≤ 9) ∧ (0 ≤ x4.toInt ∧ x4.toInt ≤ 9))) ∨ ((0 : Int32).toInt = 2 ∧ ((0 ≤ x1.toInt ∧ x1.toInt ≤ 11) ∧ (0 ≤ x2.toInt ∧ x2.toInt ≤ 9) ∧ (0 ≤ x3.toInt ∧ x3.toInt ≤ 9) ∧ (0 ≤ x4.toInt ∧ x4.toInt ≤ 9)) ∧ (x1.toInt = 3 ∨ x1.toInt = 4 ∨ x1.toInt = 5 ∨ x1.toInt = 7)) from by have t1 : 0 ≤ x1.toInt := q_nltI c1; have t2 : x1.toInt ≤ 11 := q_nltI c5; have t3 : 0 ≤ x2.toInt := q_nltI c14; have t4 : x2.toInt ≤ 9 := q_leI c15; have t5 : 0 ≤ x3.toInt := q_nltI c30; have t6 : x3.toInt ≤ 9 := q_leI c31; have t7 : 0 ≤ x4.toInt := q_nltI c46; have t8 : x4.toInt ≤ 9 := q_leI c47; have t9 : x1.toInt ≠ 0 := q_neI c60; have t10 : x1.toInt = 1 := q_eqI c67; have e0 : (0 : Int32).toInt = 0 := (by decide); omega), hF⟩) d_14_20_234
            by_cases c74 : x1 = 2
            ·
              refine q_ti (v := 2) c74 ?_
              refine lv_tableIn (tgt := 120) (off := 70) hx hb d_14_20_50 (by decide) (by decide) (by decide) (by decide) ?_
              refine lv_aload_n hx hb d_14_20_120 rfl (lv_at hl 0 rfl) ?_
              refine q_get (ci := 12) (j := 5) (v := .ref qO3) C0 V i_NM rfl rfl hO0 (by decide) w_2303 rfl d_14_20_121 ?_
              refine lv_iload_n hx hb d_14_20_124 rfl (lv_at hl 2 rfl) ?_
              refine lv_iload_n hx hb d_14_20_125 rfl (lv_at hl 3 rfl) ?_
              refine lv_iload hx hb d_14_20_126 (lv_at hl 4 rfl) ?_
              replace hO3 := (hu58 _ (q_pd 119 116 rfl)).trans (hO3)
              replace hA11 := (hu58 _ (q_pd 121 116 rfl)).trans (hA11)
              replace hA12 := (hu58 _ (q_pd 122 116 rfl)).trans (hA12)
              replace hA13 := (hu58 _ (q_pd 123 116 rfl)).trans (hA13)
              replace hA15 := (hu58 _ (q_pd 125 116 rfl)).trans (hA15)
              replace hA18 := (hu58 _ (q_pd 128 116 rfl)).trans (hA18)
              replace hA19 := (hu58 _ (q_pd 129 116 rfl)).trans (hA19)
              refine q_gov V (q_runV (As := [.int x2, .int x3, .int x4]) (rest := []) (d := 3) (mc := 0) (ms := 0) (ci := 13) C0 V rfl LV_NM_172 (c_WR_multiply l D g w57 119 121 122 123 125 128 129 qO3 qA10 qA11 qA12 qA13 qA14 qA15 qA16 qA17 qA18 qA19 qA20 qA21 qA22 qA23 x2 x3 x4 hO3 hA11 hA12 hA13 hA15 hA18 hA19 (q_pd 129 121 rfl) (q_pd 129 122 rfl) (q_pd 129 123 rfl) (q_pd 129 125 rfl) (q_pd 129 128 rfl) (q_pd 121 122 rfl) (q_pd 121 123 rfl) (q_pd 121 125 rfl) (q_pd 121 128 rfl) (q_pd 122 123 rfl) (q_pd 122 125 rfl) (q_pd 122 128 rfl) (q_pd 123 125 rfl) (q_pd 123 128 rfl) (q_pd 125 128 rfl) (q_Ile (x := 0) (y := x2.toInt) (by decide) rfl (by have t1 : 0 ≤ x2.toInt := q_nltI c14; have t2 : x2.toInt ≤ 9 := q_leI c15; omega)) c15 (q_Ile (x := 0) (y := x3.toInt) (by decide) rfl (by have t1 : 0 ≤ x3.toInt := q_nltI c30; have t2 : x3.toInt ≤ 9 := q_leI c31; omega)) c31 (q_Ile (x := 0) (y := x4.toInt) (by decide) rfl (by have t1 : 0 ≤ x4.toInt := q_nltI c46; have t2 : x4.toInt ≤ 9 := q_leI c47; omega)) c47 _) rfl rfl hO3 rfl hl.1 rfl (Nat.le_of_ble_eq_true rfl) ⟨by decide, by decide⟩ ⟨Nat.le_of_ble_eq_true rfl, Nat.le_of_ble_eq_true rfl⟩ d_14_20_128) (fun u76 H locs hp75 V => ?_)
              obtain ⟨hg77, hO3, hA11, hA12, hA13, hA15, hA18, hA19⟩ := hp75
              replace hF := q_gc hF hg77 (q_al (Nat.le_of_ble_eq_true rfl) (q_al (Nat.le_of_ble_eq_true rfl) (q_al (Nat.le_of_ble_eq_true rfl) (q_al (Nat.le_of_ble_eq_true rfl) (q_al (Nat.le_of_ble_eq_true rfl) (q_al (Nat.le_of_ble_eq_true rfl) (q_al (Nat.le_of_ble_eq_true rfl) (fun _ h => absurd h List.not_mem_nil))))))))
              refine lv_goto (tgt := 223) hx hb d_14_20_131 (by decide) ?_
              refine lv_aload_n hx hb d_14_20_223 rfl (lv_at hl 0 rfl) ?_
              refine lv_aload_n hx hb d_14_20_224 rfl (lv_at hl 0 rfl) ?_
              replace hO0 := (hg77 _ (q_nc (q_pd 116 119 rfl) (q_nc (q_pd 116 121 rfl) (q_nc (q_pd 116 122 rfl) (q_nc (q_pd 116 123 rfl) (q_nc (q_pd 116 125 rfl) (q_nc (q_pd 116 128 rfl) (q_nc (q_pd 116 129 rfl) List.not_mem_nil)))))))).trans (hO0)
              refine q_get (ci := 12) (j := 5) (v := .ref qO3) C0 V i_NM rfl rfl hO0 (by decide) w_2303 rfl d_14_20_225 ?_
              refine q_getN (ci := 13) (j := 0) (v := .int 0) C0 V i_WR rfl rfl hO3 (by decide) wo_1922 rfl d_14_20_228 ?_
              refine q_put (ci := 12) (j := 0) (v := .int 0) (ty := .int) C0 V i_NM o_NM n_NM rfl rfl hO0 (by decide) w_2298 rfl rfl rfl rfl (Nat.le_of_ble_eq_true rfl) d_14_20_231 (fun H locs w78 hu79 hO0 V => ?_)
              replace hO0 : w78[116]? = (some (qO0, .inr (12, [.int 0, .ref qA1, .int 0, .ref qA2, .int 0, .ref qO3, .ref qO4, .ref qO5, .ref qO6, .ref qO7, .ref qA8, .ref qA9])) : Option (Nat × va_E)) := hO0
              replace hF := q_gs hF hu79 (Nat.le_of_ble_eq_true rfl)
              exact q_retv C0 V (⟨0, 0, 0, hO0, (show ((0 : Int32).toInt = 0 ∧ ((0 ≤ x1.toInt ∧ x1.toInt ≤ 11) ∧ (0 ≤ x2.toInt ∧ x2.toInt ≤ 9) ∧ (0 ≤ x3.toInt ∧ x3.toInt ≤ 9) ∧ (0 ≤ x4.toInt ∧ x4.toInt ≤ 9)) ∧ ¬ ((x1.toInt = 3 ∨ x1.toInt = 4 ∨ x1.toInt = 5 ∨ x1.toInt = 7))) ∨ ((0 : Int32).toInt = 1 ∧ ¬ ((0 ≤ x1.toInt ∧ x1.toInt ≤ 11) ∧ (0 ≤ x2.toInt ∧ x2.toInt ≤ 9) ∧ (0 ≤ x3.toInt ∧ x3.toInt ≤ 9) ∧ (0 ≤ x4.toInt ∧ x4.toInt ≤ 9))) ∨ ((0 : Int32).toInt = 2 ∧ ((0 ≤ x1.toInt ∧ x1.toInt ≤ 11) ∧ (0 ≤ x2.toInt ∧ x2.toInt ≤ 9) ∧ (0 ≤ x3.toInt ∧ x3.toInt ≤ 9) ∧ (0 ≤ x4.toInt ∧ x4.toInt ≤ 9)) ∧ (x1.toInt = 3 ∨ x1.toInt = 4 ∨ x1.toInt = 5 ∨ x1.toInt = 7)) from by have t1 : 0 ≤ x1.toInt := q_nltI c1; have t2 : x1.toInt ≤ 11 := q_nltI c5; have t3 : 0 ≤ x2.toInt := q_nltI c14; have t4 : x2.toInt ≤ 9 := q_leI c15; have t5 : 0 ≤ x3.toInt := q_nltI c30; have t6 : x3.toInt ≤ 9 := q_leI c31; have t7 : 0 ≤ x4.toInt := q_nltI c46; have t8 : x4.toInt ≤ 9 := q_leI c47; have t9 : x1.toInt ≠ 0 := q_neI c60; have t10 : x1.toInt ≠ 1 := q_neI c67; have t11 : x1.toInt = 2 := q_eqI c74; have e0 : (0 : Int32).toInt = 0 := (by decide); omega), hF⟩) d_14_20_234
            by_cases c80 : x1 = 3
            ·
              refine q_ti (v := 3) c80 ?_
              refine lv_tableIn (tgt := 134) (off := 84) hx hb d_14_20_50 (by decide) (by decide) (by decide) (by decide) ?_
              refine lv_aload_n hx hb d_14_20_134 rfl (lv_at hl 0 rfl) ?_
              refine q_get (ci := 12) (j := 5) (v := .ref qO3) C0 V i_NM rfl rfl hO0 (by decide) w_2303 rfl d_14_20_135 ?_
              refine lv_iload_n hx hb d_14_20_138 rfl (lv_at hl 2 rfl) ?_
              refine lv_iload_n hx hb d_14_20_139 rfl (lv_at hl 3 rfl) ?_
              refine lv_iload hx hb d_14_20_140 (lv_at hl 4 rfl) ?_
              refine lv_bipush (v := 10) hx hb d_14_20_142 (by decide) ?_
              replace hO3 := (hu58 _ (q_pd 119 116 rfl)).trans (hO3)
              replace hA11 := (hu58 _ (q_pd 121 116 rfl)).trans (hA11)
              refine q_gov V (q_runV (As := [.int x2, .int x3, .int x4, .int 10]) (rest := []) (d := 2) (mc := 0) (ms := 0) (ci := 13) C0 V rfl LV_NM_176 (c_WR_divide l D g w57 119 121 qO3 qA10 qA11 qA12 qA13 qA14 qA15 qA16 qA17 qA18 qA19 qA20 qA21 qA22 qA23 x2 x3 x4 hO3 hA11 (q_Ile (x := 0) (y := x2.toInt) (by decide) rfl (by have t1 : 0 ≤ x2.toInt := q_nltI c14; have t2 : x2.toInt ≤ 9 := q_leI c15; omega)) c15 (q_Ile (x := 0) (y := x3.toInt) (by decide) rfl (by have t1 : 0 ≤ x3.toInt := q_nltI c30; have t2 : x3.toInt ≤ 9 := q_leI c31; omega)) c31 (q_Ile (x := 0) (y := x4.toInt) (by decide) rfl (by have t1 : 0 ≤ x4.toInt := q_nltI c46; have t2 : x4.toInt ≤ 9 := q_leI c47; omega)) c47 _) rfl rfl hO3 rfl hl.1 rfl (Nat.le_of_ble_eq_true rfl) ⟨by decide, by decide⟩ ⟨Nat.le_of_ble_eq_true rfl, Nat.le_of_ble_eq_true rfl⟩ d_14_20_144) (fun u82 H locs hp81 V => ?_)
              obtain ⟨hg83, hO3⟩ := hp81
              replace hF := q_gc hF hg83 (q_al (Nat.le_of_ble_eq_true rfl) (fun _ h => absurd h List.not_mem_nil))
              refine lv_goto (tgt := 223) hx hb d_14_20_147 (by decide) ?_
              refine lv_aload_n hx hb d_14_20_223 rfl (lv_at hl 0 rfl) ?_
              refine lv_aload_n hx hb d_14_20_224 rfl (lv_at hl 0 rfl) ?_
              replace hO0 := (hg83 _ (q_nc (q_pd 116 119 rfl) List.not_mem_nil)).trans (hO0)
              refine q_get (ci := 12) (j := 5) (v := .ref qO3) C0 V i_NM rfl rfl hO0 (by decide) w_2303 rfl d_14_20_225 ?_
              refine q_getN (ci := 13) (j := 0) (v := .int 2) C0 V i_WR rfl rfl hO3 (by decide) wo_1922 rfl d_14_20_228 ?_
              refine q_put (ci := 12) (j := 0) (v := .int 2) (ty := .int) C0 V i_NM o_NM n_NM rfl rfl hO0 (by decide) w_2298 rfl rfl rfl rfl (Nat.le_of_ble_eq_true rfl) d_14_20_231 (fun H locs w84 hu85 hO0 V => ?_)
              replace hO0 : w84[116]? = (some (qO0, .inr (12, [.int 2, .ref qA1, .int 0, .ref qA2, .int 0, .ref qO3, .ref qO4, .ref qO5, .ref qO6, .ref qO7, .ref qA8, .ref qA9])) : Option (Nat × va_E)) := hO0
              replace hF := q_gs hF hu85 (Nat.le_of_ble_eq_true rfl)
              exact q_retv C0 V (⟨2, 0, 0, hO0, (show ((2 : Int32).toInt = 0 ∧ ((0 ≤ x1.toInt ∧ x1.toInt ≤ 11) ∧ (0 ≤ x2.toInt ∧ x2.toInt ≤ 9) ∧ (0 ≤ x3.toInt ∧ x3.toInt ≤ 9) ∧ (0 ≤ x4.toInt ∧ x4.toInt ≤ 9)) ∧ ¬ ((x1.toInt = 3 ∨ x1.toInt = 4 ∨ x1.toInt = 5 ∨ x1.toInt = 7))) ∨ ((2 : Int32).toInt = 1 ∧ ¬ ((0 ≤ x1.toInt ∧ x1.toInt ≤ 11) ∧ (0 ≤ x2.toInt ∧ x2.toInt ≤ 9) ∧ (0 ≤ x3.toInt ∧ x3.toInt ≤ 9) ∧ (0 ≤ x4.toInt ∧ x4.toInt ≤ 9))) ∨ ((2 : Int32).toInt = 2 ∧ ((0 ≤ x1.toInt ∧ x1.toInt ≤ 11) ∧ (0 ≤ x2.toInt ∧ x2.toInt ≤ 9) ∧ (0 ≤ x3.toInt ∧ x3.toInt ≤ 9) ∧ (0 ≤ x4.toInt ∧ x4.toInt ≤ 9)) ∧ (x1.toInt = 3 ∨ x1.toInt = 4 ∨ x1.toInt = 5 ∨ x1.toInt = 7)) from by have t1 : 0 ≤ x1.toInt := q_nltI c1; have t2 : x1.toInt ≤ 11 := q_nltI c5; have t3 : 0 ≤ x2.toInt := q_nltI c14; have t4 : x2.toInt ≤ 9 := q_leI c15; have t5 : 0 ≤ x3.toInt := q_nltI c30; have t6 : x3.toInt ≤ 9 := q_leI c31; have t7 : 0 ≤ x4.toInt := q_nltI c46; have t8 : x4.toInt ≤ 9 := q_leI c47; have t9 : x1.toInt ≠ 0 := q_neI c60; have t10 : x1.toInt ≠ 1 := q_neI c67; have t11 : x1.toInt ≠ 2 := q_neI c74; have t12 : x1.toInt = 3 := q_eqI c80; have e0 : (2 : Int32).toInt = 2 := (by decide); omega), hF⟩) d_14_20_234
            by_cases c86 : x1 = 4
            ·
              refine q_ti (v := 4) c86 ?_
              refine lv_tableIn (tgt := 150) (off := 100) hx hb d_14_20_50 (by decide) (by decide) (by decide) (by decide) ?_
              refine lv_aload_n hx hb d_14_20_150 rfl (lv_at hl 0 rfl) ?_
              refine q_get (ci := 12) (j := 5) (v := .ref qO3) C0 V i_NM rfl rfl hO0 (by decide) w_2303 rfl d_14_20_151 ?_
              refine lv_iload_n hx hb d_14_20_154 rfl (lv_at hl 2 rfl) ?_
              refine lv_iload_n hx hb d_14_20_155 rfl (lv_at hl 3 rfl) ?_
              refine lv_bipush (v := 10) hx hb d_14_20_156 (by decide) ?_
              refine lv_iload hx hb d_14_20_158 (lv_at hl 4 rfl) ?_
              replace hO3 := (hu58 _ (q_pd 119 116 rfl)).trans (hO3)
              replace hA11 := (hu58 _ (q_pd 121 116 rfl)).trans (hA11)
              refine q_gov V (q_runV (As := [.int x2, .int x3, .int 10, .int x4]) (rest := []) (d := 2) (mc := 0) (ms := 0) (ci := 13) C0 V rfl LV_NM_176 (c_WR_divide_2 l D g w57 119 121 qO3 qA10 qA11 qA12 qA13 qA14 qA15 qA16 qA17 qA18 qA19 qA20 qA21 qA22 qA23 x2 x3 x4 hO3 hA11 (q_Ile (x := 0) (y := x2.toInt) (by decide) rfl (by have t1 : 0 ≤ x2.toInt := q_nltI c14; have t2 : x2.toInt ≤ 9 := q_leI c15; omega)) c15 (q_Ile (x := 0) (y := x3.toInt) (by decide) rfl (by have t1 : 0 ≤ x3.toInt := q_nltI c30; have t2 : x3.toInt ≤ 9 := q_leI c31; omega)) c31 (q_Ile (x := 0) (y := x4.toInt) (by decide) rfl (by have t1 : 0 ≤ x4.toInt := q_nltI c46; have t2 : x4.toInt ≤ 9 := q_leI c47; omega)) c47 _) rfl rfl hO3 rfl hl.1 rfl (Nat.le_of_ble_eq_true rfl) ⟨by decide, by decide⟩ ⟨Nat.le_of_ble_eq_true rfl, Nat.le_of_ble_eq_true rfl⟩ d_14_20_160) (fun u88 H locs hp87 V => ?_)
              obtain ⟨hg89, hO3⟩ := hp87
              replace hF := q_gc hF hg89 (q_al (Nat.le_of_ble_eq_true rfl) (fun _ h => absurd h List.not_mem_nil))
              refine lv_goto (tgt := 223) hx hb d_14_20_163 (by decide) ?_
              refine lv_aload_n hx hb d_14_20_223 rfl (lv_at hl 0 rfl) ?_
              refine lv_aload_n hx hb d_14_20_224 rfl (lv_at hl 0 rfl) ?_
              replace hO0 := (hg89 _ (q_nc (q_pd 116 119 rfl) List.not_mem_nil)).trans (hO0)
              refine q_get (ci := 12) (j := 5) (v := .ref qO3) C0 V i_NM rfl rfl hO0 (by decide) w_2303 rfl d_14_20_225 ?_
              refine q_getN (ci := 13) (j := 0) (v := .int 2) C0 V i_WR rfl rfl hO3 (by decide) wo_1922 rfl d_14_20_228 ?_
              refine q_put (ci := 12) (j := 0) (v := .int 2) (ty := .int) C0 V i_NM o_NM n_NM rfl rfl hO0 (by decide) w_2298 rfl rfl rfl rfl (Nat.le_of_ble_eq_true rfl) d_14_20_231 (fun H locs w90 hu91 hO0 V => ?_)
              replace hO0 : w90[116]? = (some (qO0, .inr (12, [.int 2, .ref qA1, .int 0, .ref qA2, .int 0, .ref qO3, .ref qO4, .ref qO5, .ref qO6, .ref qO7, .ref qA8, .ref qA9])) : Option (Nat × va_E)) := hO0
              replace hF := q_gs hF hu91 (Nat.le_of_ble_eq_true rfl)
              exact q_retv C0 V (⟨2, 0, 0, hO0, (show ((2 : Int32).toInt = 0 ∧ ((0 ≤ x1.toInt ∧ x1.toInt ≤ 11) ∧ (0 ≤ x2.toInt ∧ x2.toInt ≤ 9) ∧ (0 ≤ x3.toInt ∧ x3.toInt ≤ 9) ∧ (0 ≤ x4.toInt ∧ x4.toInt ≤ 9)) ∧ ¬ ((x1.toInt = 3 ∨ x1.toInt = 4 ∨ x1.toInt = 5 ∨ x1.toInt = 7))) ∨ ((2 : Int32).toInt = 1 ∧ ¬ ((0 ≤ x1.toInt ∧ x1.toInt ≤ 11) ∧ (0 ≤ x2.toInt ∧ x2.toInt ≤ 9) ∧ (0 ≤ x3.toInt ∧ x3.toInt ≤ 9) ∧ (0 ≤ x4.toInt ∧ x4.toInt ≤ 9))) ∨ ((2 : Int32).toInt = 2 ∧ ((0 ≤ x1.toInt ∧ x1.toInt ≤ 11) ∧ (0 ≤ x2.toInt ∧ x2.toInt ≤ 9) ∧ (0 ≤ x3.toInt ∧ x3.toInt ≤ 9) ∧ (0 ≤ x4.toInt ∧ x4.toInt ≤ 9)) ∧ (x1.toInt = 3 ∨ x1.toInt = 4 ∨ x1.toInt = 5 ∨ x1.toInt = 7)) from by have t1 : 0 ≤ x1.toInt := q_nltI c1; have t2 : x1.toInt ≤ 11 := q_nltI c5; have t3 : 0 ≤ x2.toInt := q_nltI c14; have t4 : x2.toInt ≤ 9 := q_leI c15; have t5 : 0 ≤ x3.toInt := q_nltI c30; have t6 : x3.toInt ≤ 9 := q_leI c31; have t7 : 0 ≤ x4.toInt := q_nltI c46; have t8 : x4.toInt ≤ 9 := q_leI c47; have t9 : x1.toInt ≠ 0 := q_neI c60; have t10 : x1.toInt ≠ 1 := q_neI c67; have t11 : x1.toInt ≠ 2 := q_neI c74; have t12 : x1.toInt ≠ 3 := q_neI c80; have t13 : x1.toInt = 4 := q_eqI c86; have e0 : (2 : Int32).toInt = 2 := (by decide); omega), hF⟩) d_14_20_234
            by_cases c92 : x1 = 5
            ·
              refine q_ti (v := 5) c92 ?_
              refine lv_tableIn (tgt := 166) (off := 116) hx hb d_14_20_50 (by decide) (by decide) (by decide) (by decide) ?_
              refine lv_aload_n hx hb d_14_20_166 rfl (lv_at hl 0 rfl) ?_
              refine q_get (ci := 12) (j := 5) (v := .ref qO3) C0 V i_NM rfl rfl hO0 (by decide) w_2303 rfl d_14_20_167 ?_
              refine lv_iload_n hx hb d_14_20_170 rfl (lv_at hl 2 rfl) ?_
              refine lv_iload_n hx hb d_14_20_171 rfl (lv_at hl 3 rfl) ?_
              refine lv_iload hx hb d_14_20_172 (lv_at hl 4 rfl) ?_
              replace hO3 := (hu58 _ (q_pd 119 116 rfl)).trans (hO3)
              replace hA11 := (hu58 _ (q_pd 121 116 rfl)).trans (hA11)
              replace hA12 := (hu58 _ (q_pd 122 116 rfl)).trans (hA12)
              refine q_gov V (q_runV (As := [.int x2, .int x3, .int x4]) (rest := []) (d := 3) (mc := 0) (ms := 0) (ci := 13) C0 V rfl LV_NM_180 (c_WR_modulo l D g w57 119 121 122 qO3 qA10 qA11 qA12 qA13 qA14 qA15 qA16 qA17 qA18 qA19 qA20 qA21 qA22 qA23 x2 x3 x4 hO3 hA11 hA12 (q_Ile (x := 0) (y := x2.toInt) (by decide) rfl (by have t1 : 0 ≤ x2.toInt := q_nltI c14; have t2 : x2.toInt ≤ 9 := q_leI c15; omega)) c15 (q_Ile (x := 0) (y := x3.toInt) (by decide) rfl (by have t1 : 0 ≤ x3.toInt := q_nltI c30; have t2 : x3.toInt ≤ 9 := q_leI c31; omega)) c31 (q_Ile (x := 0) (y := x4.toInt) (by decide) rfl (by have t1 : 0 ≤ x4.toInt := q_nltI c46; have t2 : x4.toInt ≤ 9 := q_leI c47; omega)) c47 _) rfl rfl hO3 rfl hl.1 rfl (Nat.le_of_ble_eq_true rfl) ⟨by decide, by decide⟩ ⟨Nat.le_of_ble_eq_true rfl, Nat.le_of_ble_eq_true rfl⟩ d_14_20_174) (fun u94 H locs hp93 V => ?_)
              obtain ⟨hg95, hO3⟩ := hp93
              replace hF := q_gc hF hg95 (q_al (Nat.le_of_ble_eq_true rfl) (fun _ h => absurd h List.not_mem_nil))
              refine lv_goto (tgt := 223) hx hb d_14_20_177 (by decide) ?_
              refine lv_aload_n hx hb d_14_20_223 rfl (lv_at hl 0 rfl) ?_
              refine lv_aload_n hx hb d_14_20_224 rfl (lv_at hl 0 rfl) ?_
              replace hO0 := (hg95 _ (q_nc (q_pd 116 119 rfl) List.not_mem_nil)).trans (hO0)
              refine q_get (ci := 12) (j := 5) (v := .ref qO3) C0 V i_NM rfl rfl hO0 (by decide) w_2303 rfl d_14_20_225 ?_
              refine q_getN (ci := 13) (j := 0) (v := .int 2) C0 V i_WR rfl rfl hO3 (by decide) wo_1922 rfl d_14_20_228 ?_
              refine q_put (ci := 12) (j := 0) (v := .int 2) (ty := .int) C0 V i_NM o_NM n_NM rfl rfl hO0 (by decide) w_2298 rfl rfl rfl rfl (Nat.le_of_ble_eq_true rfl) d_14_20_231 (fun H locs w96 hu97 hO0 V => ?_)
              replace hO0 : w96[116]? = (some (qO0, .inr (12, [.int 2, .ref qA1, .int 0, .ref qA2, .int 0, .ref qO3, .ref qO4, .ref qO5, .ref qO6, .ref qO7, .ref qA8, .ref qA9])) : Option (Nat × va_E)) := hO0
              replace hF := q_gs hF hu97 (Nat.le_of_ble_eq_true rfl)
              exact q_retv C0 V (⟨2, 0, 0, hO0, (show ((2 : Int32).toInt = 0 ∧ ((0 ≤ x1.toInt ∧ x1.toInt ≤ 11) ∧ (0 ≤ x2.toInt ∧ x2.toInt ≤ 9) ∧ (0 ≤ x3.toInt ∧ x3.toInt ≤ 9) ∧ (0 ≤ x4.toInt ∧ x4.toInt ≤ 9)) ∧ ¬ ((x1.toInt = 3 ∨ x1.toInt = 4 ∨ x1.toInt = 5 ∨ x1.toInt = 7))) ∨ ((2 : Int32).toInt = 1 ∧ ¬ ((0 ≤ x1.toInt ∧ x1.toInt ≤ 11) ∧ (0 ≤ x2.toInt ∧ x2.toInt ≤ 9) ∧ (0 ≤ x3.toInt ∧ x3.toInt ≤ 9) ∧ (0 ≤ x4.toInt ∧ x4.toInt ≤ 9))) ∨ ((2 : Int32).toInt = 2 ∧ ((0 ≤ x1.toInt ∧ x1.toInt ≤ 11) ∧ (0 ≤ x2.toInt ∧ x2.toInt ≤ 9) ∧ (0 ≤ x3.toInt ∧ x3.toInt ≤ 9) ∧ (0 ≤ x4.toInt ∧ x4.toInt ≤ 9)) ∧ (x1.toInt = 3 ∨ x1.toInt = 4 ∨ x1.toInt = 5 ∨ x1.toInt = 7)) from by have t1 : 0 ≤ x1.toInt := q_nltI c1; have t2 : x1.toInt ≤ 11 := q_nltI c5; have t3 : 0 ≤ x2.toInt := q_nltI c14; have t4 : x2.toInt ≤ 9 := q_leI c15; have t5 : 0 ≤ x3.toInt := q_nltI c30; have t6 : x3.toInt ≤ 9 := q_leI c31; have t7 : 0 ≤ x4.toInt := q_nltI c46; have t8 : x4.toInt ≤ 9 := q_leI c47; have t9 : x1.toInt ≠ 0 := q_neI c60; have t10 : x1.toInt ≠ 1 := q_neI c67; have t11 : x1.toInt ≠ 2 := q_neI c74; have t12 : x1.toInt ≠ 3 := q_neI c80; have t13 : x1.toInt ≠ 4 := q_neI c86; have t14 : x1.toInt = 5 := q_eqI c92; have e0 : (2 : Int32).toInt = 2 := (by decide); omega), hF⟩) d_14_20_234
            by_cases c98 : x1 = 6
            ·
              refine q_ti (v := 6) c98 ?_
              refine lv_tableIn (tgt := 180) (off := 130) hx hb d_14_20_50 (by decide) (by decide) (by decide) (by decide) ?_
              refine lv_aload_n hx hb d_14_20_180 rfl (lv_at hl 0 rfl) ?_
              refine q_get (ci := 12) (j := 5) (v := .ref qO3) C0 V i_NM rfl rfl hO0 (by decide) w_2303 rfl d_14_20_181 ?_
              refine lv_iload_n hx hb d_14_20_184 rfl (lv_at hl 2 rfl) ?_
              refine lv_iload_n hx hb d_14_20_185 rfl (lv_at hl 3 rfl) ?_
              refine lv_iload hx hb d_14_20_186 (lv_at hl 4 rfl) ?_
              replace hO3 := (hu58 _ (q_pd 119 116 rfl)).trans (hO3)
              replace hA11 := (hu58 _ (q_pd 121 116 rfl)).trans (hA11)
              replace hA12 := (hu58 _ (q_pd 122 116 rfl)).trans (hA12)
              replace hA13 := (hu58 _ (q_pd 123 116 rfl)).trans (hA13)
              replace hA18 := (hu58 _ (q_pd 128 116 rfl)).trans (hA18)
              replace hA19 := (hu58 _ (q_pd 129 116 rfl)).trans (hA19)
              refine q_gov V (q_runV (As := [.int x2, .int x3, .int x4]) (rest := []) (d := 3) (mc := 0) (ms := 0) (ci := 13) C0 V rfl LV_NM_183 (c_WR_common l D g w57 119 121 122 123 128 129 qO3 qA10 qA11 qA12 qA13 qA14 qA15 qA16 qA17 qA18 qA19 qA20 qA21 qA22 qA23 x2 x3 x4 hO3 hA11 hA12 hA13 hA18 hA19 (q_pd 129 121 rfl) (q_pd 129 122 rfl) (q_pd 129 123 rfl) (q_pd 129 128 rfl) (q_pd 121 122 rfl) (q_pd 121 123 rfl) (q_pd 121 128 rfl) (q_pd 122 123 rfl) (q_pd 122 128 rfl) (q_pd 123 128 rfl) (q_Ile (x := 0) (y := x2.toInt) (by decide) rfl (by have t1 : 0 ≤ x2.toInt := q_nltI c14; have t2 : x2.toInt ≤ 9 := q_leI c15; omega)) c15 (q_Ile (x := 0) (y := x3.toInt) (by decide) rfl (by have t1 : 0 ≤ x3.toInt := q_nltI c30; have t2 : x3.toInt ≤ 9 := q_leI c31; omega)) c31 (q_Ile (x := 0) (y := x4.toInt) (by decide) rfl (by have t1 : 0 ≤ x4.toInt := q_nltI c46; have t2 : x4.toInt ≤ 9 := q_leI c47; omega)) c47 _) rfl rfl hO3 rfl hl.1 rfl (Nat.le_of_ble_eq_true rfl) ⟨by decide, by decide⟩ ⟨Nat.le_of_ble_eq_true rfl, Nat.le_of_ble_eq_true rfl⟩ d_14_20_188) (fun u100 H locs hp99 V => ?_)
              obtain ⟨hg101, hO3, hA11, hA12, hA13, hA18, hA19⟩ := hp99
              replace hF := q_gc hF hg101 (q_al (Nat.le_of_ble_eq_true rfl) (q_al (Nat.le_of_ble_eq_true rfl) (q_al (Nat.le_of_ble_eq_true rfl) (q_al (Nat.le_of_ble_eq_true rfl) (q_al (Nat.le_of_ble_eq_true rfl) (q_al (Nat.le_of_ble_eq_true rfl) (fun _ h => absurd h List.not_mem_nil)))))))
              refine lv_goto (tgt := 223) hx hb d_14_20_191 (by decide) ?_
              refine lv_aload_n hx hb d_14_20_223 rfl (lv_at hl 0 rfl) ?_
              refine lv_aload_n hx hb d_14_20_224 rfl (lv_at hl 0 rfl) ?_
              replace hO0 := (hg101 _ (q_nc (q_pd 116 119 rfl) (q_nc (q_pd 116 121 rfl) (q_nc (q_pd 116 122 rfl) (q_nc (q_pd 116 123 rfl) (q_nc (q_pd 116 128 rfl) (q_nc (q_pd 116 129 rfl) List.not_mem_nil))))))).trans (hO0)
              refine q_get (ci := 12) (j := 5) (v := .ref qO3) C0 V i_NM rfl rfl hO0 (by decide) w_2303 rfl d_14_20_225 ?_
              refine q_getN (ci := 13) (j := 0) (v := .int 0) C0 V i_WR rfl rfl hO3 (by decide) wo_1922 rfl d_14_20_228 ?_
              refine q_put (ci := 12) (j := 0) (v := .int 0) (ty := .int) C0 V i_NM o_NM n_NM rfl rfl hO0 (by decide) w_2298 rfl rfl rfl rfl (Nat.le_of_ble_eq_true rfl) d_14_20_231 (fun H locs w102 hu103 hO0 V => ?_)
              replace hO0 : w102[116]? = (some (qO0, .inr (12, [.int 0, .ref qA1, .int 0, .ref qA2, .int 0, .ref qO3, .ref qO4, .ref qO5, .ref qO6, .ref qO7, .ref qA8, .ref qA9])) : Option (Nat × va_E)) := hO0
              replace hF := q_gs hF hu103 (Nat.le_of_ble_eq_true rfl)
              exact q_retv C0 V (⟨0, 0, 0, hO0, (show ((0 : Int32).toInt = 0 ∧ ((0 ≤ x1.toInt ∧ x1.toInt ≤ 11) ∧ (0 ≤ x2.toInt ∧ x2.toInt ≤ 9) ∧ (0 ≤ x3.toInt ∧ x3.toInt ≤ 9) ∧ (0 ≤ x4.toInt ∧ x4.toInt ≤ 9)) ∧ ¬ ((x1.toInt = 3 ∨ x1.toInt = 4 ∨ x1.toInt = 5 ∨ x1.toInt = 7))) ∨ ((0 : Int32).toInt = 1 ∧ ¬ ((0 ≤ x1.toInt ∧ x1.toInt ≤ 11) ∧ (0 ≤ x2.toInt ∧ x2.toInt ≤ 9) ∧ (0 ≤ x3.toInt ∧ x3.toInt ≤ 9) ∧ (0 ≤ x4.toInt ∧ x4.toInt ≤ 9))) ∨ ((0 : Int32).toInt = 2 ∧ ((0 ≤ x1.toInt ∧ x1.toInt ≤ 11) ∧ (0 ≤ x2.toInt ∧ x2.toInt ≤ 9) ∧ (0 ≤ x3.toInt ∧ x3.toInt ≤ 9) ∧ (0 ≤ x4.toInt ∧ x4.toInt ≤ 9)) ∧ (x1.toInt = 3 ∨ x1.toInt = 4 ∨ x1.toInt = 5 ∨ x1.toInt = 7)) from by have t1 : 0 ≤ x1.toInt := q_nltI c1; have t2 : x1.toInt ≤ 11 := q_nltI c5; have t3 : 0 ≤ x2.toInt := q_nltI c14; have t4 : x2.toInt ≤ 9 := q_leI c15; have t5 : 0 ≤ x3.toInt := q_nltI c30; have t6 : x3.toInt ≤ 9 := q_leI c31; have t7 : 0 ≤ x4.toInt := q_nltI c46; have t8 : x4.toInt ≤ 9 := q_leI c47; have t9 : x1.toInt ≠ 0 := q_neI c60; have t10 : x1.toInt ≠ 1 := q_neI c67; have t11 : x1.toInt ≠ 2 := q_neI c74; have t12 : x1.toInt ≠ 3 := q_neI c80; have t13 : x1.toInt ≠ 4 := q_neI c86; have t14 : x1.toInt ≠ 5 := q_neI c92; have t15 : x1.toInt = 6 := q_eqI c98; have e0 : (0 : Int32).toInt = 0 := (by decide); omega), hF⟩) d_14_20_234
            by_cases c104 : x1 = 7
            ·
              refine q_ti (v := 7) c104 ?_
              refine lv_tableIn (tgt := 194) (off := 144) hx hb d_14_20_50 (by decide) (by decide) (by decide) (by decide) ?_
              refine lv_aload_n hx hb d_14_20_194 rfl (lv_at hl 0 rfl) ?_
              refine q_get (ci := 12) (j := 5) (v := .ref qO3) C0 V i_NM rfl rfl hO0 (by decide) w_2303 rfl d_14_20_195 ?_
              refine lv_iload_n hx hb d_14_20_198 rfl (lv_at hl 2 rfl) ?_
              refine lv_iload_n hx hb d_14_20_199 rfl (lv_at hl 3 rfl) ?_
              refine lv_iload hx hb d_14_20_200 (lv_at hl 4 rfl) ?_
              replace hO3 := (hu58 _ (q_pd 119 116 rfl)).trans (hO3)
              replace hA11 := (hu58 _ (q_pd 121 116 rfl)).trans (hA11)
              replace hA12 := (hu58 _ (q_pd 122 116 rfl)).trans (hA12)
              refine q_gov V (q_runV (As := [.int x2, .int x3, .int x4]) (rest := []) (d := 3) (mc := 0) (ms := 0) (ci := 13) C0 V rfl LV_NM_186 (c_WR_inverse l D g w57 119 121 122 qO3 qA10 qA11 qA12 qA13 qA14 qA15 qA16 qA17 qA18 qA19 qA20 qA21 qA22 qA23 x2 x3 x4 hO3 hA11 hA12 (q_Ile (x := 0) (y := x2.toInt) (by decide) rfl (by have t1 : 0 ≤ x2.toInt := q_nltI c14; have t2 : x2.toInt ≤ 9 := q_leI c15; omega)) c15 (q_Ile (x := 0) (y := x3.toInt) (by decide) rfl (by have t1 : 0 ≤ x3.toInt := q_nltI c30; have t2 : x3.toInt ≤ 9 := q_leI c31; omega)) c31 (q_Ile (x := 0) (y := x4.toInt) (by decide) rfl (by have t1 : 0 ≤ x4.toInt := q_nltI c46; have t2 : x4.toInt ≤ 9 := q_leI c47; omega)) c47 _) rfl rfl hO3 rfl hl.1 rfl (Nat.le_of_ble_eq_true rfl) ⟨by decide, by decide⟩ ⟨Nat.le_of_ble_eq_true rfl, Nat.le_of_ble_eq_true rfl⟩ d_14_20_202) (fun u106 H locs hp105 V => ?_)
              obtain ⟨hg107, hO3⟩ := hp105
              replace hF := q_gc hF hg107 (q_al (Nat.le_of_ble_eq_true rfl) (fun _ h => absurd h List.not_mem_nil))
              refine lv_goto (tgt := 223) hx hb d_14_20_205 (by decide) ?_
              refine lv_aload_n hx hb d_14_20_223 rfl (lv_at hl 0 rfl) ?_
              refine lv_aload_n hx hb d_14_20_224 rfl (lv_at hl 0 rfl) ?_
              replace hO0 := (hg107 _ (q_nc (q_pd 116 119 rfl) List.not_mem_nil)).trans (hO0)
              refine q_get (ci := 12) (j := 5) (v := .ref qO3) C0 V i_NM rfl rfl hO0 (by decide) w_2303 rfl d_14_20_225 ?_
              refine q_getN (ci := 13) (j := 0) (v := .int 2) C0 V i_WR rfl rfl hO3 (by decide) wo_1922 rfl d_14_20_228 ?_
              refine q_put (ci := 12) (j := 0) (v := .int 2) (ty := .int) C0 V i_NM o_NM n_NM rfl rfl hO0 (by decide) w_2298 rfl rfl rfl rfl (Nat.le_of_ble_eq_true rfl) d_14_20_231 (fun H locs w108 hu109 hO0 V => ?_)
              replace hO0 : w108[116]? = (some (qO0, .inr (12, [.int 2, .ref qA1, .int 0, .ref qA2, .int 0, .ref qO3, .ref qO4, .ref qO5, .ref qO6, .ref qO7, .ref qA8, .ref qA9])) : Option (Nat × va_E)) := hO0
              replace hF := q_gs hF hu109 (Nat.le_of_ble_eq_true rfl)
              exact q_retv C0 V (⟨2, 0, 0, hO0, (show ((2 : Int32).toInt = 0 ∧ ((0 ≤ x1.toInt ∧ x1.toInt ≤ 11) ∧ (0 ≤ x2.toInt ∧ x2.toInt ≤ 9) ∧ (0 ≤ x3.toInt ∧ x3.toInt ≤ 9) ∧ (0 ≤ x4.toInt ∧ x4.toInt ≤ 9)) ∧ ¬ ((x1.toInt = 3 ∨ x1.toInt = 4 ∨ x1.toInt = 5 ∨ x1.toInt = 7))) ∨ ((2 : Int32).toInt = 1 ∧ ¬ ((0 ≤ x1.toInt ∧ x1.toInt ≤ 11) ∧ (0 ≤ x2.toInt ∧ x2.toInt ≤ 9) ∧ (0 ≤ x3.toInt ∧ x3.toInt ≤ 9) ∧ (0 ≤ x4.toInt ∧ x4.toInt ≤ 9))) ∨ ((2 : Int32).toInt = 2 ∧ ((0 ≤ x1.toInt ∧ x1.toInt ≤ 11) ∧ (0 ≤ x2.toInt ∧ x2.toInt ≤ 9) ∧ (0 ≤ x3.toInt ∧ x3.toInt ≤ 9) ∧ (0 ≤ x4.toInt ∧ x4.toInt ≤ 9)) ∧ (x1.toInt = 3 ∨ x1.toInt = 4 ∨ x1.toInt = 5 ∨ x1.toInt = 7)) from by have t1 : 0 ≤ x1.toInt := q_nltI c1; have t2 : x1.toInt ≤ 11 := q_nltI c5; have t3 : 0 ≤ x2.toInt := q_nltI c14; have t4 : x2.toInt ≤ 9 := q_leI c15; have t5 : 0 ≤ x3.toInt := q_nltI c30; have t6 : x3.toInt ≤ 9 := q_leI c31; have t7 : 0 ≤ x4.toInt := q_nltI c46; have t8 : x4.toInt ≤ 9 := q_leI c47; have t9 : x1.toInt ≠ 0 := q_neI c60; have t10 : x1.toInt ≠ 1 := q_neI c67; have t11 : x1.toInt ≠ 2 := q_neI c74; have t12 : x1.toInt ≠ 3 := q_neI c80; have t13 : x1.toInt ≠ 4 := q_neI c86; have t14 : x1.toInt ≠ 5 := q_neI c92; have t15 : x1.toInt ≠ 6 := q_neI c98; have t16 : x1.toInt = 7 := q_eqI c104; have e0 : (2 : Int32).toInt = 2 := (by decide); omega), hF⟩) d_14_20_234
            refine lv_tableOut (tgt := 208) hx hb d_14_20_50 (by have z0 : x1.toInt ≠ 0 := q_neI c60; have z1 : x1.toInt ≠ 1 := q_neI c67; have z2 : x1.toInt ≠ 2 := q_neI c74; have z3 : x1.toInt ≠ 3 := q_neI c80; have z4 : x1.toInt ≠ 4 := q_neI c86; have z5 : x1.toInt ≠ 5 := q_neI c92; have z6 : x1.toInt ≠ 6 := q_neI c98; have z7 : x1.toInt ≠ 7 := q_neI c104; omega) (by decide) ?_
            refine lv_aload_n hx hb d_14_20_208 rfl (lv_at hl 0 rfl) ?_
            refine q_get (ci := 12) (j := 5) (v := .ref qO3) C0 V i_NM rfl rfl hO0 (by decide) w_2303 rfl d_14_20_209 ?_
            refine lv_iload_n hx hb d_14_20_212 rfl (lv_at hl 2 rfl) ?_
            refine lv_iload_n hx hb d_14_20_213 rfl (lv_at hl 3 rfl) ?_
            refine lv_iload hx hb d_14_20_214 (lv_at hl 4 rfl) ?_
            refine lv_iload_n hx hb d_14_20_216 rfl (lv_at hl 1 rfl) ?_
            refine lv_bipush (v := 8) hx hb d_14_20_217 (by decide) ?_
            refine lv_isub hx hb d_14_20_219 ?_
            replace hO3 := (hu58 _ (q_pd 119 116 rfl)).trans (hO3)
            replace hA11 := (hu58 _ (q_pd 121 116 rfl)).trans (hA11)
            replace hA12 := (hu58 _ (q_pd 122 116 rfl)).trans (hA12)
            replace hA13 := (hu58 _ (q_pd 123 116 rfl)).trans (hA13)
            refine q_gov V (q_runV (As := [.int x2, .int x3, .int x4, .int (x1 - 8)]) (rest := []) (d := 3) (mc := 0) (ms := 0) (ci := 13) C0 V rfl LV_NM_189 (c_WR_combine l D g w57 119 121 122 123 qO3 qA10 qA11 qA12 qA13 qA14 qA15 qA16 qA17 qA18 qA19 qA20 qA21 qA22 qA23 x2 x3 x4 (x1 - 8) hO3 hA11 hA12 hA13 (q_pd 121 122 rfl) (q_pd 121 123 rfl) (q_pd 122 123 rfl) (q_Ile (x := 0) (y := x2.toInt) (by decide) rfl (by have t1 : 0 ≤ x2.toInt := q_nltI c14; have t2 : x2.toInt ≤ 9 := q_leI c15; omega)) c15 (q_Ile (x := 0) (y := x3.toInt) (by decide) rfl (by have t1 : 0 ≤ x3.toInt := q_nltI c30; have t2 : x3.toInt ≤ 9 := q_leI c31; omega)) c31 (q_Ile (x := 0) (y := x4.toInt) (by decide) rfl (by have t1 : 0 ≤ x4.toInt := q_nltI c46; have t2 : x4.toInt ≤ 9 := q_leI c47; omega)) c47 (q_Ile (x := 0) (y := (x1.toInt - 8)) (by decide) (q_subI (x := x1.toInt) (y := 8) rfl (by decide) (by have t1 : 0 ≤ x1.toInt := q_nltI c1; have t2 : x1.toInt ≤ 11 := q_nltI c5; have t3 : x1.toInt ≠ 0 := q_neI c60; have t4 : x1.toInt ≠ 1 := q_neI c67; have t5 : x1.toInt ≠ 2 := q_neI c74; have t6 : x1.toInt ≠ 3 := q_neI c80; have t7 : x1.toInt ≠ 4 := q_neI c86; have t8 : x1.toInt ≠ 5 := q_neI c92; have t9 : x1.toInt ≠ 6 := q_neI c98; have t10 : x1.toInt ≠ 7 := q_neI c104; omega) (by have t1 : 0 ≤ x1.toInt := q_nltI c1; have t2 : x1.toInt ≤ 11 := q_nltI c5; have t3 : x1.toInt ≠ 0 := q_neI c60; have t4 : x1.toInt ≠ 1 := q_neI c67; have t5 : x1.toInt ≠ 2 := q_neI c74; have t6 : x1.toInt ≠ 3 := q_neI c80; have t7 : x1.toInt ≠ 4 := q_neI c86; have t8 : x1.toInt ≠ 5 := q_neI c92; have t9 : x1.toInt ≠ 6 := q_neI c98; have t10 : x1.toInt ≠ 7 := q_neI c104; omega)) (by have t1 : 0 ≤ x1.toInt := q_nltI c1; have t2 : x1.toInt ≤ 11 := q_nltI c5; have t3 : x1.toInt ≠ 0 := q_neI c60; have t4 : x1.toInt ≠ 1 := q_neI c67; have t5 : x1.toInt ≠ 2 := q_neI c74; have t6 : x1.toInt ≠ 3 := q_neI c80; have t7 : x1.toInt ≠ 4 := q_neI c86; have t8 : x1.toInt ≠ 5 := q_neI c92; have t9 : x1.toInt ≠ 6 := q_neI c98; have t10 : x1.toInt ≠ 7 := q_neI c104; omega)) (q_Ile (x := (x1.toInt - 8)) (y := 3) (q_subI (x := x1.toInt) (y := 8) rfl (by decide) (by have t1 : 0 ≤ x1.toInt := q_nltI c1; have t2 : x1.toInt ≤ 11 := q_nltI c5; have t3 : x1.toInt ≠ 0 := q_neI c60; have t4 : x1.toInt ≠ 1 := q_neI c67; have t5 : x1.toInt ≠ 2 := q_neI c74; have t6 : x1.toInt ≠ 3 := q_neI c80; have t7 : x1.toInt ≠ 4 := q_neI c86; have t8 : x1.toInt ≠ 5 := q_neI c92; have t9 : x1.toInt ≠ 6 := q_neI c98; have t10 : x1.toInt ≠ 7 := q_neI c104; omega) (by have t1 : 0 ≤ x1.toInt := q_nltI c1; have t2 : x1.toInt ≤ 11 := q_nltI c5; have t3 : x1.toInt ≠ 0 := q_neI c60; have t4 : x1.toInt ≠ 1 := q_neI c67; have t5 : x1.toInt ≠ 2 := q_neI c74; have t6 : x1.toInt ≠ 3 := q_neI c80; have t7 : x1.toInt ≠ 4 := q_neI c86; have t8 : x1.toInt ≠ 5 := q_neI c92; have t9 : x1.toInt ≠ 6 := q_neI c98; have t10 : x1.toInt ≠ 7 := q_neI c104; omega)) (by decide) (by have t1 : 0 ≤ x1.toInt := q_nltI c1; have t2 : x1.toInt ≤ 11 := q_nltI c5; have t3 : x1.toInt ≠ 0 := q_neI c60; have t4 : x1.toInt ≠ 1 := q_neI c67; have t5 : x1.toInt ≠ 2 := q_neI c74; have t6 : x1.toInt ≠ 3 := q_neI c80; have t7 : x1.toInt ≠ 4 := q_neI c86; have t8 : x1.toInt ≠ 5 := q_neI c92; have t9 : x1.toInt ≠ 6 := q_neI c98; have t10 : x1.toInt ≠ 7 := q_neI c104; omega)) _) rfl rfl hO3 rfl hl.1 rfl (Nat.le_of_ble_eq_true rfl) ⟨by decide, by decide⟩ ⟨Nat.le_of_ble_eq_true rfl, Nat.le_of_ble_eq_true rfl⟩ d_14_20_220) (fun u111 H locs hp110 V => ?_)
            obtain ⟨hg112, hO3, hA11, hA12, hA13⟩ := hp110
            replace hF := q_gc hF hg112 (q_al (Nat.le_of_ble_eq_true rfl) (q_al (Nat.le_of_ble_eq_true rfl) (q_al (Nat.le_of_ble_eq_true rfl) (q_al (Nat.le_of_ble_eq_true rfl) (fun _ h => absurd h List.not_mem_nil)))))
            refine lv_aload_n hx hb d_14_20_223 rfl (lv_at hl 0 rfl) ?_
            refine lv_aload_n hx hb d_14_20_224 rfl (lv_at hl 0 rfl) ?_
            replace hO0 := (hg112 _ (q_nc (q_pd 116 119 rfl) (q_nc (q_pd 116 121 rfl) (q_nc (q_pd 116 122 rfl) (q_nc (q_pd 116 123 rfl) List.not_mem_nil))))).trans (hO0)
            refine q_get (ci := 12) (j := 5) (v := .ref qO3) C0 V i_NM rfl rfl hO0 (by decide) w_2303 rfl d_14_20_225 ?_
            refine q_getN (ci := 13) (j := 0) (v := .int 0) C0 V i_WR rfl rfl hO3 (by decide) wo_1922 rfl d_14_20_228 ?_
            refine q_put (ci := 12) (j := 0) (v := .int 0) (ty := .int) C0 V i_NM o_NM n_NM rfl rfl hO0 (by decide) w_2298 rfl rfl rfl rfl (Nat.le_of_ble_eq_true rfl) d_14_20_231 (fun H locs w113 hu114 hO0 V => ?_)
            replace hO0 : w113[116]? = (some (qO0, .inr (12, [.int 0, .ref qA1, .int 0, .ref qA2, .int 0, .ref qO3, .ref qO4, .ref qO5, .ref qO6, .ref qO7, .ref qA8, .ref qA9])) : Option (Nat × va_E)) := hO0
            replace hF := q_gs hF hu114 (Nat.le_of_ble_eq_true rfl)
            exact q_retv C0 V (⟨0, 0, 0, hO0, (show ((0 : Int32).toInt = 0 ∧ ((0 ≤ x1.toInt ∧ x1.toInt ≤ 11) ∧ (0 ≤ x2.toInt ∧ x2.toInt ≤ 9) ∧ (0 ≤ x3.toInt ∧ x3.toInt ≤ 9) ∧ (0 ≤ x4.toInt ∧ x4.toInt ≤ 9)) ∧ ¬ ((x1.toInt = 3 ∨ x1.toInt = 4 ∨ x1.toInt = 5 ∨ x1.toInt = 7))) ∨ ((0 : Int32).toInt = 1 ∧ ¬ ((0 ≤ x1.toInt ∧ x1.toInt ≤ 11) ∧ (0 ≤ x2.toInt ∧ x2.toInt ≤ 9) ∧ (0 ≤ x3.toInt ∧ x3.toInt ≤ 9) ∧ (0 ≤ x4.toInt ∧ x4.toInt ≤ 9))) ∨ ((0 : Int32).toInt = 2 ∧ ((0 ≤ x1.toInt ∧ x1.toInt ≤ 11) ∧ (0 ≤ x2.toInt ∧ x2.toInt ≤ 9) ∧ (0 ≤ x3.toInt ∧ x3.toInt ≤ 9) ∧ (0 ≤ x4.toInt ∧ x4.toInt ≤ 9)) ∧ (x1.toInt = 3 ∨ x1.toInt = 4 ∨ x1.toInt = 5 ∨ x1.toInt = 7)) from by have t1 : 0 ≤ x1.toInt := q_nltI c1; have t2 : x1.toInt ≤ 11 := q_nltI c5; have t3 : 0 ≤ x2.toInt := q_nltI c14; have t4 : x2.toInt ≤ 9 := q_leI c15; have t5 : 0 ≤ x3.toInt := q_nltI c30; have t6 : x3.toInt ≤ 9 := q_leI c31; have t7 : 0 ≤ x4.toInt := q_nltI c46; have t8 : x4.toInt ≤ 9 := q_leI c47; have t9 : x1.toInt ≠ 0 := q_neI c60; have t10 : x1.toInt ≠ 1 := q_neI c67; have t11 : x1.toInt ≠ 2 := q_neI c74; have t12 : x1.toInt ≠ 3 := q_neI c80; have t13 : x1.toInt ≠ 4 := q_neI c86; have t14 : x1.toInt ≠ 5 := q_neI c92; have t15 : x1.toInt ≠ 6 := q_neI c98; have t16 : x1.toInt ≠ 7 := q_neI c104; have e0 : (0 : Int32).toInt = 0 := (by decide); omega), hF⟩) d_14_20_234
          ·
            refine lv_if_eq (tgt := 37) hx hb d_14_20_30 (by decide) (fun c115 => absurd c115 (by decide)) (fun c115 => ?_)
            refine lv_iconst (v := 1) hx hb d_14_20_33 (by decide) ?_
            refine lv_goto (tgt := 38) hx hb d_14_20_34 (by decide) ?_
            refine q_put (ci := 12) (j := 0) (v := .int 1) (ty := .int) C0 V i_NM o_NM n_NM rfl rfl hO0 (by decide) w_2298 rfl rfl rfl rfl (Nat.le_of_ble_eq_true rfl) d_14_20_38 (fun H locs w116 hu117 hO0 V => ?_)
            replace hO0 : w116[116]? = (some (qO0, .inr (12, [.int 1, .ref qA1, .int 0, .ref qA2, .int 0, .ref qO3, .ref qO4, .ref qO5, .ref qO6, .ref qO7, .ref qA8, .ref qA9])) : Option (Nat × va_E)) := hO0
            replace hF := q_gs hF hu117 (Nat.le_of_ble_eq_true rfl)
            refine lv_aload_n hx hb d_14_20_41 rfl (lv_at hl 0 rfl) ?_
            refine q_get (ci := 12) (j := 0) (v := .int 1) C0 V i_NM rfl rfl hO0 (by decide) w_2298 rfl d_14_20_42 ?_
            refine lv_if_le (tgt := 49) hx hb d_14_20_45 (by decide) (fun c118 => absurd c118 (by decide)) (fun c118 => ?_)
            exact q_retv C0 V (⟨1, 0, 0, hO0, (show ((1 : Int32).toInt = 0 ∧ ((0 ≤ x1.toInt ∧ x1.toInt ≤ 11) ∧ (0 ≤ x2.toInt ∧ x2.toInt ≤ 9) ∧ (0 ≤ x3.toInt ∧ x3.toInt ≤ 9) ∧ (0 ≤ x4.toInt ∧ x4.toInt ≤ 9)) ∧ ¬ ((x1.toInt = 3 ∨ x1.toInt = 4 ∨ x1.toInt = 5 ∨ x1.toInt = 7))) ∨ ((1 : Int32).toInt = 1 ∧ ¬ ((0 ≤ x1.toInt ∧ x1.toInt ≤ 11) ∧ (0 ≤ x2.toInt ∧ x2.toInt ≤ 9) ∧ (0 ≤ x3.toInt ∧ x3.toInt ≤ 9) ∧ (0 ≤ x4.toInt ∧ x4.toInt ≤ 9))) ∨ ((1 : Int32).toInt = 2 ∧ ((0 ≤ x1.toInt ∧ x1.toInt ≤ 11) ∧ (0 ≤ x2.toInt ∧ x2.toInt ≤ 9) ∧ (0 ≤ x3.toInt ∧ x3.toInt ≤ 9) ∧ (0 ≤ x4.toInt ∧ x4.toInt ≤ 9)) ∧ (x1.toInt = 3 ∨ x1.toInt = 4 ∨ x1.toInt = 5 ∨ x1.toInt = 7)) from by have t1 : 0 ≤ x1.toInt := q_nltI c1; have t2 : x1.toInt ≤ 11 := q_nltI c5; have t3 : 0 ≤ x2.toInt := q_nltI c14; have t4 : x2.toInt ≤ 9 := q_leI c15; have t5 : 0 ≤ x3.toInt := q_nltI c30; have t6 : x3.toInt ≤ 9 := q_leI c31; have t7 : 0 ≤ x4.toInt := q_nltI c49; have t8 : 9 < x4.toInt := q_nleI c50; have e0 : (1 : Int32).toInt = 1 := (by decide); omega), hF⟩) d_14_20_48
        ·
          refine lv_if_ne (tgt := 33) hx hb d_14_20_22 (by decide) (fun c119 => ?_) (fun c119 => absurd c119 (by decide))
          refine lv_iconst (v := 1) hx hb d_14_20_33 (by decide) ?_
          refine lv_goto (tgt := 38) hx hb d_14_20_34 (by decide) ?_
          refine q_put (ci := 12) (j := 0) (v := .int 1) (ty := .int) C0 V i_NM o_NM n_NM rfl rfl hO0 (by decide) w_2298 rfl rfl rfl rfl (Nat.le_of_ble_eq_true rfl) d_14_20_38 (fun H locs w120 hu121 hO0 V => ?_)
          replace hO0 : w120[116]? = (some (qO0, .inr (12, [.int 1, .ref qA1, .int 0, .ref qA2, .int 0, .ref qO3, .ref qO4, .ref qO5, .ref qO6, .ref qO7, .ref qA8, .ref qA9])) : Option (Nat × va_E)) := hO0
          replace hF := q_gs hF hu121 (Nat.le_of_ble_eq_true rfl)
          refine lv_aload_n hx hb d_14_20_41 rfl (lv_at hl 0 rfl) ?_
          refine q_get (ci := 12) (j := 0) (v := .int 1) C0 V i_NM rfl rfl hO0 (by decide) w_2298 rfl d_14_20_42 ?_
          refine lv_if_le (tgt := 49) hx hb d_14_20_45 (by decide) (fun c122 => absurd c122 (by decide)) (fun c122 => ?_)
          exact q_retv C0 V (⟨1, 0, 0, hO0, (show ((1 : Int32).toInt = 0 ∧ ((0 ≤ x1.toInt ∧ x1.toInt ≤ 11) ∧ (0 ≤ x2.toInt ∧ x2.toInt ≤ 9) ∧ (0 ≤ x3.toInt ∧ x3.toInt ≤ 9) ∧ (0 ≤ x4.toInt ∧ x4.toInt ≤ 9)) ∧ ¬ ((x1.toInt = 3 ∨ x1.toInt = 4 ∨ x1.toInt = 5 ∨ x1.toInt = 7))) ∨ ((1 : Int32).toInt = 1 ∧ ¬ ((0 ≤ x1.toInt ∧ x1.toInt ≤ 11) ∧ (0 ≤ x2.toInt ∧ x2.toInt ≤ 9) ∧ (0 ≤ x3.toInt ∧ x3.toInt ≤ 9) ∧ (0 ≤ x4.toInt ∧ x4.toInt ≤ 9))) ∨ ((1 : Int32).toInt = 2 ∧ ((0 ≤ x1.toInt ∧ x1.toInt ≤ 11) ∧ (0 ≤ x2.toInt ∧ x2.toInt ≤ 9) ∧ (0 ≤ x3.toInt ∧ x3.toInt ≤ 9) ∧ (0 ≤ x4.toInt ∧ x4.toInt ≤ 9)) ∧ (x1.toInt = 3 ∨ x1.toInt = 4 ∨ x1.toInt = 5 ∨ x1.toInt = 7)) from by have t1 : 0 ≤ x1.toInt := q_nltI c1; have t2 : x1.toInt ≤ 11 := q_nltI c5; have t3 : 0 ≤ x2.toInt := q_nltI c14; have t4 : x2.toInt ≤ 9 := q_leI c15; have t5 : 0 ≤ x3.toInt := q_nltI c33; have t6 : 9 < x3.toInt := q_nleI c34; have e0 : (1 : Int32).toInt = 1 := (by decide); omega), hF⟩) d_14_20_48
      ·
        refine lv_if_ne (tgt := 33) hx hb d_14_20_15 (by decide) (fun c123 => ?_) (fun c123 => absurd c123 (by decide))
        refine lv_iconst (v := 1) hx hb d_14_20_33 (by decide) ?_
        refine lv_goto (tgt := 38) hx hb d_14_20_34 (by decide) ?_
        refine q_put (ci := 12) (j := 0) (v := .int 1) (ty := .int) C0 V i_NM o_NM n_NM rfl rfl hO0 (by decide) w_2298 rfl rfl rfl rfl (Nat.le_of_ble_eq_true rfl) d_14_20_38 (fun H locs w124 hu125 hO0 V => ?_)
        replace hO0 : w124[116]? = (some (qO0, .inr (12, [.int 1, .ref qA1, .int 0, .ref qA2, .int 0, .ref qO3, .ref qO4, .ref qO5, .ref qO6, .ref qO7, .ref qA8, .ref qA9])) : Option (Nat × va_E)) := hO0
        replace hF := q_gs hF hu125 (Nat.le_of_ble_eq_true rfl)
        refine lv_aload_n hx hb d_14_20_41 rfl (lv_at hl 0 rfl) ?_
        refine q_get (ci := 12) (j := 0) (v := .int 1) C0 V i_NM rfl rfl hO0 (by decide) w_2298 rfl d_14_20_42 ?_
        refine lv_if_le (tgt := 49) hx hb d_14_20_45 (by decide) (fun c126 => absurd c126 (by decide)) (fun c126 => ?_)
        exact q_retv C0 V (⟨1, 0, 0, hO0, (show ((1 : Int32).toInt = 0 ∧ ((0 ≤ x1.toInt ∧ x1.toInt ≤ 11) ∧ (0 ≤ x2.toInt ∧ x2.toInt ≤ 9) ∧ (0 ≤ x3.toInt ∧ x3.toInt ≤ 9) ∧ (0 ≤ x4.toInt ∧ x4.toInt ≤ 9)) ∧ ¬ ((x1.toInt = 3 ∨ x1.toInt = 4 ∨ x1.toInt = 5 ∨ x1.toInt = 7))) ∨ ((1 : Int32).toInt = 1 ∧ ¬ ((0 ≤ x1.toInt ∧ x1.toInt ≤ 11) ∧ (0 ≤ x2.toInt ∧ x2.toInt ≤ 9) ∧ (0 ≤ x3.toInt ∧ x3.toInt ≤ 9) ∧ (0 ≤ x4.toInt ∧ x4.toInt ≤ 9))) ∨ ((1 : Int32).toInt = 2 ∧ ((0 ≤ x1.toInt ∧ x1.toInt ≤ 11) ∧ (0 ≤ x2.toInt ∧ x2.toInt ≤ 9) ∧ (0 ≤ x3.toInt ∧ x3.toInt ≤ 9) ∧ (0 ≤ x4.toInt ∧ x4.toInt ≤ 9)) ∧ (x1.toInt = 3 ∨ x1.toInt = 4 ∨ x1.toInt = 5 ∨ x1.toInt = 7)) from by have t1 : 0 ≤ x1.toInt := q_nltI c1; have t2 : x1.toInt ≤ 11 := q_nltI c5; have t3 : 0 ≤ x2.toInt := q_nltI c17; have t4 : 9 < x2.toInt := q_nleI c18; have e0 : (1 : Int32).toInt = 1 := (by decide); omega), hF⟩) d_14_20_48
