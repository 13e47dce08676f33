/-! the reference on a fresh object: figures -/
set_option maxRecDepth 100000 in
set_option maxHeartbeats 4000000 in
theorem c_FR_isMore_5 (l : Launch) (D : va_G) (g : Nat → ClassId) (ws : va_W) (kO0 kA3 qO0 qA1 qA2 qA3 qA4 qA5 qA6 qA7 : Nat) (x1 : Int32) (x2 : Int32) (hO0 : ws[kO0]? = some (qO0, .inr (15, [.int 0, .ref qA1, .ref qA2, .ref qA3, .ref qA4, .ref qA5, .ref qA6, .ref qA7, .int 0, .int 0, .int 0, .long 0, .int 52, .int 2047, .long 0, .int (-1074), .long 0, .int 0]))) (hA3 : ws[kA3]? = some (qA3, .inl (g 0, 1404, .inl (fun _ => 0)))) (x1lo : 0 ≤ x1) (x1hi : x1 ≤ 1080) (x2lo : 0 ≤ x2) (x2hi : x2 ≤ 3) : q_mI l y_FR_isMore prog_17_method_26_code 5 (.boolean) 1 0 0 D g [.ref qO0, .int x1, .int x2] ws (fun r u => 0 = r ∧ ws = u) := by
  intro sz
  refine q_into (by decide) (Nat.le_of_ble_eq_true rfl) ?_
  intro p e s m below meth c ls hsz C0 V hl
  have hx := C0.1
  have hb := C0.2.1
  have hl : lv_has ls 5 [(0, .ref qO0), (1, .int x1), (2, .int x2)] := hl
  refine lv_iconst (v := 0) hx hb d_17_26_0 (by decide) ?_
  refine lv_istore_n (lv' := [(3, .int 0), (0, .ref qO0), (1, .int x1), (2, .int x2)]) hx hb d_17_26_1 rfl hl (by decide) rfl (fun ls hl => ?_)
  refine lv_iconst (v := 0) hx hb d_17_26_2 (by decide) ?_
  refine lv_istore (lv' := [(4, .int 0), (3, .int 0), (0, .ref qO0), (1, .int x1), (2, .int x2)]) hx hb d_17_26_3 hl (by decide) rfl (fun ls hl => ?_)
  refine q_loop (X := Int32) (fun z H locs ls _ => (0 ≤ z.toInt ∧ (z.toInt ≤ x1.toInt ∨ z.toInt = 0)) ∧ q_Wd D g (va_A ws sz) s ws H locs ∧ lv_has ls 5 [(4, .int z), (3, .int 0), (0, .ref qO0), (1, .int x1), (2, .int x2)]) (fun z => (x1.toInt - z.toInt).toNat) ?_ ((0 : Int32)) _ _ _ ws ⟨⟨by decide, Or.inr (by decide)⟩, V, hl⟩
  rintro lx1 H locs ls _ ⟨i3, V, hl⟩ ih4
  replace i3 : 0 ≤ lx1.toInt ∧ (lx1.toInt ≤ x1.toInt ∨ lx1.toInt = 0) := i3
  replace hl : lv_has ls 5 [(4, .int lx1), (3, .int 0), (0, .ref qO0), (1, .int x1), (2, .int x2)] := hl
  refine lv_iload hx hb d_17_26_5 (lv_at hl 0 rfl) ?_
  refine lv_iload_n hx hb d_17_26_7 rfl (lv_at hl 3 rfl) ?_
  refine lv_icmp_ge (tgt := 37) hx hb d_17_26_8 (by decide) (fun c5 => ?_) (fun c5 => ?_)
  ·
    refine lv_iload_n hx hb d_17_26_37 rfl (lv_at hl 1 rfl) ?_
    refine lv_if_eq (tgt := 45) hx hb d_17_26_38 (by decide) (fun c6 => ?_) (fun c6 => absurd (by decide) c6)
    refine lv_iconst (v := 0) hx hb d_17_26_45 (by decide) ?_
    exact q_retz C0 V (rfl) (⟨rfl, rfl⟩) d_17_26_46
  ·
    refine lv_iload_n hx hb d_17_26_11 rfl (lv_at hl 1 rfl) ?_
    refine lv_if_ne (tgt := 25) hx hb d_17_26_12 (by decide) (fun c7 => absurd (by decide) c7) (fun c7 => ?_)
    refine lv_aload_n hx hb d_17_26_15 rfl (lv_at hl 2 rfl) ?_
    refine q_get (ci := 15) (j := 3) (v := .ref qA3) C0 V i_FR rfl rfl hO0 (by decide) w_2078 rfl d_17_26_16 ?_
    refine lv_iload hx hb d_17_26_19 (lv_at hl 0 rfl) ?_
    refine q_iald C0 V hA3 (q_ix (x := lx1.toInt) rfl (by have t1 : 0 ≤ x1.toInt := q_leI x1lo; have t2 : x1.toInt ≤ 1080 := q_leI x1hi; have t3 : lx1.toInt < x1.toInt := q_nleI c5; omega) (by have t1 : 0 ≤ x1.toInt := q_leI x1lo; have t2 : x1.toInt ≤ 1080 := q_leI x1hi; have t3 : lx1.toInt < x1.toInt := q_nleI c5; omega)) d_17_26_21 ?_
    refine q_ti (v := 0) (by first | rfl | decide | simp [upd, vp_updL, sb_cl0]) ?_
    refine lv_if_eq (tgt := 29) hx hb d_17_26_22 (by decide) (fun c8 => ?_) (fun c8 => absurd (by decide) c8)
    refine lv_iconst (v := 0) hx hb d_17_26_29 (by decide) ?_
    refine lv_istore_n (lv' := [(3, .int 0), (4, .int lx1), (0, .ref qO0), (1, .int x1), (2, .int x2)]) hx hb d_17_26_30 rfl hl (by decide) rfl (fun ls hl => ?_)
    refine lv_iinc (v := lx1 + 1) (lv' := [(4, .int (lx1 + 1)), (3, .int 0), (0, .ref qO0), (1, .int x1), (2, .int x2)]) hx hb d_17_26_31 hl (k := 1) rfl (rfl) (by decide) rfl (fun ls hl => ?_)
    refine lv_goto (tgt := 5) hx hb d_17_26_34 (by decide) ?_
    exact ih4 ((lx1 + 1 : Int32)) _ _ _ ws (show (x1.toInt - (lx1 + 1).toInt).toNat < (x1.toInt - lx1.toInt).toNat from by have t1 : 0 ≤ x1.toInt := q_leI x1lo; have t2 : x1.toInt ≤ 1080 := q_leI x1hi; have t3 : lx1.toInt < x1.toInt := q_nleI c5; have e : (lx1 + 1).toInt = (lx1.toInt + 1) := (q_addI (x := lx1.toInt) (y := 1) rfl (by decide) (by have t1 : 0 ≤ x1.toInt := q_leI x1lo; have t2 : x1.toInt ≤ 1080 := q_leI x1hi; have t3 : lx1.toInt < x1.toInt := q_nleI c5; omega) (by have t1 : 0 ≤ x1.toInt := q_leI x1lo; have t2 : x1.toInt ≤ 1080 := q_leI x1hi; have t3 : lx1.toInt < x1.toInt := q_nleI c5; omega)); omega) ⟨(show 0 ≤ (lx1 + 1).toInt ∧ ((lx1 + 1).toInt ≤ x1.toInt ∨ (lx1 + 1).toInt = 0) from by have t1 : 0 ≤ x1.toInt := q_leI x1lo; have t2 : x1.toInt ≤ 1080 := q_leI x1hi; have t3 : lx1.toInt < x1.toInt := q_nleI c5; have e : (lx1 + 1).toInt = (lx1.toInt + 1) := (q_addI (x := lx1.toInt) (y := 1) rfl (by decide) (by have t1 : 0 ≤ x1.toInt := q_leI x1lo; have t2 : x1.toInt ≤ 1080 := q_leI x1hi; have t3 : lx1.toInt < x1.toInt := q_nleI c5; omega) (by have t1 : 0 ≤ x1.toInt := q_leI x1lo; have t2 : x1.toInt ≤ 1080 := q_leI x1hi; have t3 : lx1.toInt < x1.toInt := q_nleI c5; omega)); omega), V, q_lw hl (q_lw1 0 rfl (q_lw1 1 rfl (q_lw1 2 rfl (q_lw1 3 rfl (q_lw1 4 rfl q_lw0)))))⟩
set_option maxRecDepth 100000 in
set_option maxHeartbeats 4000000 in
theorem c_FR_cut_5 (l : Launch) (D : va_G) (g : Nat → ClassId) (ws : va_W) (kO0 kA3 kA6 qO0 qA1 qA2 qA3 qA4 qA5 qA6 qA7 : Nat) (x1 : Int32) (hO0 : ws[kO0]? = some (qO0, .inr (15, [.int 0, .ref qA1, .ref qA2, .ref qA3, .ref qA4, .ref qA5, .ref qA6, .ref qA7, .int 0, .int 0, .int 0, .long 0, .int 52, .int 2047, .long 0, .int (-1074), .long 0, .int 0]))) (hA3 : ws[kA3]? = some (qA3, .inl (g 0, 1404, .inl (fun _ => 0)))) (hA6 : ws[kA6]? = some (qA6, .inl (g 0, 1404, .inl (fun _ => 0)))) (n_A3_A6 : kA3 ≠ kA6) (x1lo : 0 ≤ x1) (x1hi : x1 ≤ 1080) : q_mV l y_FR_cut prog_17_method_11_code 5 1 0 0 D g [.ref qO0, .int x1, .int 0] ws (fun u => q_un ws u [kA6] ∧ u[kA6]? = some (qA6, .inl (g 0, 1404, .inl (fun _ => 0)))) := by
  intro sz
  refine q_into (by decide) (Nat.le_of_ble_eq_true rfl) ?_
  intro p e s m below meth c ls hsz C0 V hl
  have hx := C0.1
  have hb := C0.2.1
  have hl : lv_has ls 5 [(0, .ref qO0), (1, .int x1), (2, .int 0)] := hl
  have n_O0_A6 := Ne.symm (q_df hA6 hO0)
  have hF : q_un ws ws [kA6] := q_u0
  refine lv_iconst (v := 0) hx hb d_17_11_0 (by decide) ?_
  refine lv_istore_n (lv' := [(3, .int 0), (0, .ref qO0), (1, .int x1), (2, .int 0)]) hx hb d_17_11_1 rfl hl (by decide) rfl (fun ls hl => ?_)
  refine q_loop (X := Int32) (fun z H locs ls w2 => (0 ≤ z.toInt ∧ (z.toInt ≤ 1404 ∨ z.toInt = 0)) ∧ q_Wd D g (va_A ws sz) s w2 H locs ∧ lv_has ls 5 [(3, .int z), (0, .ref qO0), (1, .int x1), (2, .int 0)] ∧ q_un ws w2 [kA6] ∧ w2[kO0]? = some (qO0, .inr (15, [.int 0, .ref qA1, .ref qA2, .ref qA3, .ref qA4, .ref qA5, .ref qA6, .ref qA7, .int 0, .int 0, .int 0, .long 0, .int 52, .int 2047, .long 0, .int (-1074), .long 0, .int 0])) ∧ w2[kA3]? = some (qA3, .inl (g 0, 1404, .inl (fun _ => 0))) ∧ w2[kA6]? = some (qA6, .inl (g 0, 1404, .inl (fun _ => 0)))) (fun z => (1404 - z.toInt).toNat) ?_ ((0 : Int32)) _ _ _ ws ⟨⟨by decide, Or.inr (by decide)⟩, V, hl, hF, hO0, hA3, hA6⟩
  rintro lx1 H locs ls w2 ⟨i3, V, hl, hF, hO0, hA3, hA6⟩ ih4
  replace i3 : 0 ≤ lx1.toInt ∧ (lx1.toInt ≤ 1404 ∨ lx1.toInt = 0) := i3
  replace hl : lv_has ls 5 [(3, .int lx1), (0, .ref qO0), (1, .int x1), (2, .int 0)] := hl
  replace hO0 : w2[kO0]? = some (qO0, .inr (15, [.int 0, .ref qA1, .ref qA2, .ref qA3, .ref qA4, .ref qA5, .ref qA6, .ref qA7, .int 0, .int 0, .int 0, .long 0, .int 52, .int 2047, .long 0, .int (-1074), .long 0, .int 0])) := hO0
  replace hA3 : w2[kA3]? = some (qA3, .inl (g 0, 1404, .inl (fun _ => 0))) := hA3
  replace hA6 : w2[kA6]? = some (qA6, .inl (g 0, 1404, .inl (fun _ => 0))) := hA6
  refine lv_iload_n hx hb d_17_11_2 rfl (lv_at hl 0 rfl) ?_
  refine lv_sipush (v := 1404) hx hb d_17_11_3 (by decide) ?_
  refine lv_icmp_ge (tgt := 36) hx hb d_17_11_6 (by decide) (fun c5 => ?_) (fun c5 => ?_)
  ·
    refine lv_iload_n hx hb d_17_11_36 rfl (lv_at hl 2 rfl) ?_
    refine lv_istore_n (lv' := [(3, .int x1), (0, .ref qO0), (1, .int x1), (2, .int 0)]) hx hb d_17_11_37 rfl hl (by decide) rfl (fun ls hl => ?_)
    refine lv_iload_n hx hb d_17_11_38 rfl (lv_at hl 3 rfl) ?_
    refine lv_istore (lv' := [(4, .int 0), (3, .int x1), (0, .ref qO0), (1, .int x1), (2, .int 0)]) hx hb d_17_11_39 hl (by decide) rfl (fun ls hl => ?_)
    refine lv_iload hx hb d_17_11_41 (lv_at hl 0 rfl) ?_
    refine lv_if_eq (tgt := 97) hx hb d_17_11_43 (by decide) (fun c6 => ?_) (fun c6 => absurd (by decide) c6)
    exact q_retv C0 V (⟨hF, hA6⟩) d_17_11_97
  ·
    refine lv_aload_n hx hb d_17_11_9 rfl (lv_at hl 1 rfl) ?_
    refine q_get (ci := 15) (j := 6) (v := .ref qA6) C0 V i_FR rfl rfl hO0 (by decide) w_2081 rfl d_17_11_10 ?_
    refine lv_iload_n hx hb d_17_11_13 rfl (lv_at hl 0 rfl) ?_
    refine lv_iload_n hx hb d_17_11_14 rfl (lv_at hl 0 rfl) ?_
    refine lv_iload_n hx hb d_17_11_15 rfl (lv_at hl 2 rfl) ?_
    refine lv_icmp_ge (tgt := 23) hx hb d_17_11_16 (by decide) (fun c7 => ?_) (fun c7 => ?_)
    ·
      refine lv_aload_n hx hb d_17_11_23 rfl (lv_at hl 1 rfl) ?_
      refine q_get (ci := 15) (j := 3) (v := .ref qA3) C0 V i_FR rfl rfl hO0 (by decide) w_2078 rfl d_17_11_24 ?_
      refine lv_iload_n hx hb d_17_11_27 rfl (lv_at hl 0 rfl) ?_
      refine q_iald C0 V hA3 (q_ix (x := lx1.toInt) rfl (by have t1 : lx1.toInt < 1404 := q_nleI c5; have t2 : x1.toInt ≤ lx1.toInt := q_leI c7; omega) (by have t1 : lx1.toInt < 1404 := q_nleI c5; have t2 : x1.toInt ≤ lx1.toInt := q_leI c7; omega)) d_17_11_28 ?_
      refine q_ti (v := 0) (by first | rfl | decide | simp [upd, vp_updL, sb_cl0]) ?_
      refine q_iast C0 V hA6 (q_ix (x := lx1.toInt) rfl (by have t1 : lx1.toInt < 1404 := q_nleI c5; have t2 : x1.toInt ≤ lx1.toInt := q_leI c7; omega) (by have t1 : lx1.toInt < 1404 := q_nleI c5; have t2 : x1.toInt ≤ lx1.toInt := q_leI c7; omega)) d_17_11_29 (fun H locs w8 hu9 hA6 V => ?_)
      replace hA6 := q_re (y := (qA6, .inl (g 0, 1404, .inl (fun _ => 0)))) hA6 (q_eI q_upd0)
      replace hA6 : w8[kA6]? = some (qA6, .inl (g 0, 1404, .inl (fun _ => 0))) := hA6
      replace hF := q_us hF hu9 (.head _)
      refine lv_iinc (v := lx1 + 1) (lv' := [(3, .int (lx1 + 1)), (0, .ref qO0), (1, .int x1), (2, .int 0)]) hx hb d_17_11_30 hl (k := 0) rfl (rfl) (by decide) rfl (fun ls hl => ?_)
      refine lv_goto (tgt := 2) hx hb d_17_11_33 (by decide) ?_
      replace hO0 := (hu9 _ n_O0_A6).trans (hO0)
      replace hA3 := (hu9 _ n_A3_A6).trans (hA3)
      exact ih4 ((lx1 + 1 : Int32)) _ _ _ _ (show (1404 - (lx1 + 1).toInt).toNat < (1404 - lx1.toInt).toNat from by have t1 : lx1.toInt < 1404 := q_nleI c5; have t2 : x1.toInt ≤ lx1.toInt := q_leI c7; have e : (lx1 + 1).toInt = (lx1.toInt + 1) := (q_addI (x := lx1.toInt) (y := 1) rfl (by decide) (by have t1 : lx1.toInt < 1404 := q_nleI c5; have t2 : x1.toInt ≤ lx1.toInt := q_leI c7; omega) (by have t1 : lx1.toInt < 1404 := q_nleI c5; have t2 : x1.toInt ≤ lx1.toInt := q_leI c7; omega)); omega) ⟨(show 0 ≤ (lx1 + 1).toInt ∧ ((lx1 + 1).toInt ≤ 1404 ∨ (lx1 + 1).toInt = 0) from by have t1 : lx1.toInt < 1404 := q_nleI c5; have t2 : x1.toInt ≤ lx1.toInt := q_leI c7; have e : (lx1 + 1).toInt = (lx1.toInt + 1) := (q_addI (x := lx1.toInt) (y := 1) rfl (by decide) (by have t1 : lx1.toInt < 1404 := q_nleI c5; have t2 : x1.toInt ≤ lx1.toInt := q_leI c7; omega) (by have t1 : lx1.toInt < 1404 := q_nleI c5; have t2 : x1.toInt ≤ lx1.toInt := q_leI c7; omega)); omega), V, q_lw hl (q_lw1 0 rfl (q_lw1 1 rfl (q_lw1 2 rfl (q_lw1 3 rfl q_lw0)))), hF, hO0, hA3, hA6⟩
    ·
      refine lv_iconst (v := 0) hx hb d_17_11_19 (by decide) ?_
      refine lv_goto (tgt := 29) hx hb d_17_11_20 (by decide) ?_
      refine q_iast C0 V hA6 (q_ix (x := lx1.toInt) rfl (by have t1 : 0 ≤ x1.toInt := q_leI x1lo; have t2 : x1.toInt ≤ 1080 := q_leI x1hi; have t3 : lx1.toInt < 1404 := q_nleI c5; have t4 : lx1.toInt < x1.toInt := q_nleI c7; omega) (by have t1 : 0 ≤ x1.toInt := q_leI x1lo; have t2 : x1.toInt ≤ 1080 := q_leI x1hi; have t3 : lx1.toInt < 1404 := q_nleI c5; have t4 : lx1.toInt < x1.toInt := q_nleI c7; omega)) d_17_11_29 (fun H locs w10 hu11 hA6 V => ?_)
      replace hA6 := q_re (y := (qA6, .inl (g 0, 1404, .inl (fun _ => 0)))) hA6 (q_eI q_upd0)
      replace hA6 : w10[kA6]? = some (qA6, .inl (g 0, 1404, .inl (fun _ => 0))) := hA6
      replace hF := q_us hF hu11 (.head _)
      refine lv_iinc (v := lx1 + 1) (lv' := [(3, .int (lx1 + 1)), (0, .ref qO0), (1, .int x1), (2, .int 0)]) hx hb d_17_11_30 hl (k := 0) rfl (rfl) (by decide) rfl (fun ls hl => ?_)
      refine lv_goto (tgt := 2) hx hb d_17_11_33 (by decide) ?_
      replace hO0 := (hu11 _ n_O0_A6).trans (hO0)
      replace hA3 := (hu11 _ n_A3_A6).trans (hA3)
      exact ih4 ((lx1 + 1 : Int32)) _ _ _ _ (show (1404 - (lx1 + 1).toInt).toNat < (1404 - lx1.toInt).toNat from by have t1 : 0 ≤ x1.toInt := q_leI x1lo; have t2 : x1.toInt ≤ 1080 := q_leI x1hi; have t3 : lx1.toInt < 1404 := q_nleI c5; have t4 : lx1.toInt < x1.toInt := q_nleI c7; have e : (lx1 + 1).toInt = (lx1.toInt + 1) := (q_addI (x := lx1.toInt) (y := 1) rfl (by decide) (by have t1 : 0 ≤ x1.toInt := q_leI x1lo; have t2 : x1.toInt ≤ 1080 := q_leI x1hi; have t3 : lx1.toInt < 1404 := q_nleI c5; have t4 : lx1.toInt < x1.toInt := q_nleI c7; omega) (by have t1 : 0 ≤ x1.toInt := q_leI x1lo; have t2 : x1.toInt ≤ 1080 := q_leI x1hi; have t3 : lx1.toInt < 1404 := q_nleI c5; have t4 : lx1.toInt < x1.toInt := q_nleI c7; omega)); omega) ⟨(show 0 ≤ (lx1 + 1).toInt ∧ ((lx1 + 1).toInt ≤ 1404 ∨ (lx1 + 1).toInt = 0) from by have t1 : 0 ≤ x1.toInt := q_leI x1lo; have t2 : x1.toInt ≤ 1080 := q_leI x1hi; have t3 : lx1.toInt < 1404 := q_nleI c5; have t4 : lx1.toInt < x1.toInt := q_nleI c7; have e : (lx1 + 1).toInt = (lx1.toInt + 1) := (q_addI (x := lx1.toInt) (y := 1) rfl (by decide) (by have t1 : 0 ≤ x1.toInt := q_leI x1lo; have t2 : x1.toInt ≤ 1080 := q_leI x1hi; have t3 : lx1.toInt < 1404 := q_nleI c5; have t4 : lx1.toInt < x1.toInt := q_nleI c7; omega) (by have t1 : 0 ≤ x1.toInt := q_leI x1lo; have t2 : x1.toInt ≤ 1080 := q_leI x1hi; have t3 : lx1.toInt < 1404 := q_nleI c5; have t4 : lx1.toInt < x1.toInt := q_nleI c7; omega)); omega), V, q_lw hl (q_lw1 0 rfl (q_lw1 1 rfl (q_lw1 2 rfl (q_lw1 3 rfl q_lw0)))), hF, hO0, hA3, hA6⟩
theorem d_17_27_17 : decode prog_17_method_27_code 17 = .ok (.iconst 0, 1) := by decide +kernel
theorem d_17_27_18 : decode prog_17_method_27_code 18 = .ok (.goto 9, 3) := by decide +kernel
set_option maxRecDepth 100000 in
set_option maxHeartbeats 4000000 in
theorem c_FR_figureAt_5 (l : Launch) (D : va_G) (g : Nat → ClassId) (ws : va_W) (kO0 kA6 qO0 qA1 qA2 qA3 qA4 qA5 qA6 qA7 : Nat) (x1 : Int32) (hO0 : ws[kO0]? = some (qO0, .inr (15, [.int 0, .ref qA1, .ref qA2, .ref qA3, .ref qA4, .ref qA5, .ref qA6, .ref qA7, .int 2, .int 0, .int 0, .long 0, .int 52, .int 2047, .long 0, .int (-1074), .long 0, .int 0]))) (hA6 : ws[kA6]? = some (qA6, .inl (g 0, 1404, .inl (fun _ => 0)))) (x1lo : (-1081) ≤ x1) (x1hi : x1 ≤ (-1)) : q_mI l y_FR_figureAt prog_17_method_27_code 3 (.int) 1 0 0 D g [.ref qO0, .int x1] ws (fun r u => 0 = r ∧ ws = u) := by
  intro sz
  refine q_into (by decide) (Nat.le_of_ble_eq_true rfl) ?_
  intro p e s m below meth c ls hsz C0 V hl
  have hx := C0.1
  have hb := C0.2.1
  have hl : lv_has ls 3 [(0, .ref qO0), (1, .int x1)] := hl
  refine lv_iload_n hx hb d_17_27_0 rfl (lv_at hl 1 rfl) ?_
  refine lv_sipush (v := 1080) hx hb d_17_27_1 (by decide) ?_
  refine lv_iadd hx hb d_17_27_4 ?_
  refine lv_istore_n (lv' := [(2, .int (x1 + 1080)), (0, .ref qO0), (1, .int x1)]) hx hb d_17_27_5 rfl hl (by decide) rfl (fun ls hl => ?_)
  refine lv_iload_n hx hb d_17_27_6 rfl (lv_at hl 0 rfl) ?_
  refine lv_if_lt (tgt := 17) hx hb d_17_27_7 (by decide) (fun c1 => ?_) (fun c1 => ?_)
  ·
    refine lv_iconst (v := 0) hx hb d_17_27_17 (by decide) ?_
    refine lv_goto (tgt := 27) hx hb d_17_27_18 (by decide) ?_
    exact q_reti C0 V (⟨rfl, rfl⟩) d_17_27_27
  ·
    refine lv_iload_n hx hb d_17_27_10 rfl (lv_at hl 0 rfl) ?_
    refine lv_sipush (v := 1404) hx hb d_17_27_11 (by decide) ?_
    refine lv_icmp_lt (tgt := 21) hx hb d_17_27_14 (by decide) (fun c2 => ?_) (fun c2 => absurd (q_Ilt (x := (x1.toInt + 1080)) (y := 1404) (q_addI (x := x1.toInt) (y := 1080) rfl (by decide) (by have t1 : (-1081) ≤ x1.toInt := q_leI x1lo; have t2 : x1.toInt ≤ (-1) := q_leI x1hi; have t3 : 0 ≤ (x1.toInt + 1080) := by { have e1 : ((x1 + 1080) : Int32).toInt = (x1.toInt + 1080) := (q_addI (x := x1.toInt) (y := 1080) rfl (by decide) (by have t1 : (-1081) ≤ x1.toInt := q_leI x1lo; have t2 : x1.toInt ≤ (-1) := q_leI x1hi; omega) (by have t1 : (-1081) ≤ x1.toInt := q_leI x1lo; have t2 : x1.toInt ≤ (-1) := q_leI x1hi; omega)); have e2 : (0 : Int32).toInt = 0 := (by decide); have e3 := q_nltI c1; omega }; omega) (by have t1 : (-1081) ≤ x1.toInt := q_leI x1lo; have t2 : x1.toInt ≤ (-1) := q_leI x1hi; have t3 : 0 ≤ (x1.toInt + 1080) := by { have e1 : ((x1 + 1080) : Int32).toInt = (x1.toInt + 1080) := (q_addI (x := x1.toInt) (y := 1080) rfl (by decide) (by have t1 : (-1081) ≤ x1.toInt := q_leI x1lo; have t2 : x1.toInt ≤ (-1) := q_leI x1hi; omega) (by have t1 : (-1081) ≤ x1.toInt := q_leI x1lo; have t2 : x1.toInt ≤ (-1) := q_leI x1hi; omega)); have e2 : (0 : Int32).toInt = 0 := (by decide); have e3 := q_nltI c1; omega }; omega)) (by decide) (by have t1 : (-1081) ≤ x1.toInt := q_leI x1lo; have t2 : x1.toInt ≤ (-1) := q_leI x1hi; have t3 : 0 ≤ (x1.toInt + 1080) := by { have e1 : ((x1 + 1080) : Int32).toInt = (x1.toInt + 1080) := (q_addI (x := x1.toInt) (y := 1080) rfl (by decide) (by have t1 : (-1081) ≤ x1.toInt := q_leI x1lo; have t2 : x1.toInt ≤ (-1) := q_leI x1hi; omega) (by have t1 : (-1081) ≤ x1.toInt := q_leI x1lo; have t2 : x1.toInt ≤ (-1) := q_leI x1hi; omega)); have e2 : (0 : Int32).toInt = 0 := (by decide); have e3 := q_nltI c1; omega }; omega)) c2)
    refine lv_aload_n hx hb d_17_27_21 rfl (lv_at hl 1 rfl) ?_
    refine q_get (ci := 15) (j := 6) (v := .ref qA6) C0 V i_FR rfl rfl hO0 (by decide) w_2081 rfl d_17_27_22 ?_
    refine lv_iload_n hx hb d_17_27_25 rfl (lv_at hl 0 rfl) ?_
    refine q_iald C0 V hA6 (q_ix (x := (x1.toInt + 1080)) (q_addI (x := x1.toInt) (y := 1080) rfl (by decide) (by have t1 : (-1081) ≤ x1.toInt := q_leI x1lo; have t2 : x1.toInt ≤ (-1) := q_leI x1hi; have t3 : 0 ≤ (x1.toInt + 1080) := by { have e1 : ((x1 + 1080) : Int32).toInt = (x1.toInt + 1080) := (q_addI (x := x1.toInt) (y := 1080) rfl (by decide) (by have t1 : (-1081) ≤ x1.toInt := q_leI x1lo; have t2 : x1.toInt ≤ (-1) := q_leI x1hi; omega) (by have t1 : (-1081) ≤ x1.toInt := q_leI x1lo; have t2 : x1.toInt ≤ (-1) := q_leI x1hi; omega)); have e2 : (0 : Int32).toInt = 0 := (by decide); have e3 := q_nltI c1; omega }; omega) (by have t1 : (-1081) ≤ x1.toInt := q_leI x1lo; have t2 : x1.toInt ≤ (-1) := q_leI x1hi; have t3 : 0 ≤ (x1.toInt + 1080) := by { have e1 : ((x1 + 1080) : Int32).toInt = (x1.toInt + 1080) := (q_addI (x := x1.toInt) (y := 1080) rfl (by decide) (by have t1 : (-1081) ≤ x1.toInt := q_leI x1lo; have t2 : x1.toInt ≤ (-1) := q_leI x1hi; omega) (by have t1 : (-1081) ≤ x1.toInt := q_leI x1lo; have t2 : x1.toInt ≤ (-1) := q_leI x1hi; omega)); have e2 : (0 : Int32).toInt = 0 := (by decide); have e3 := q_nltI c1; omega }; omega)) (by have t1 : (-1081) ≤ x1.toInt := q_leI x1lo; have t2 : x1.toInt ≤ (-1) := q_leI x1hi; have t3 : 0 ≤ (x1.toInt + 1080) := by { have e1 : ((x1 + 1080) : Int32).toInt = (x1.toInt + 1080) := (q_addI (x := x1.toInt) (y := 1080) rfl (by decide) (by have t1 : (-1081) ≤ x1.toInt := q_leI x1lo; have t2 : x1.toInt ≤ (-1) := q_leI x1hi; omega) (by have t1 : (-1081) ≤ x1.toInt := q_leI x1lo; have t2 : x1.toInt ≤ (-1) := q_leI x1hi; omega)); have e2 : (0 : Int32).toInt = 0 := (by decide); have e3 := q_nltI c1; omega }; omega) (by have t1 : (-1081) ≤ x1.toInt := q_leI x1lo; have t2 : x1.toInt ≤ (-1) := q_leI x1hi; have t3 : 0 ≤ (x1.toInt + 1080) := by { have e1 : ((x1 + 1080) : Int32).toInt = (x1.toInt + 1080) := (q_addI (x := x1.toInt) (y := 1080) rfl (by decide) (by have t1 : (-1081) ≤ x1.toInt := q_leI x1lo; have t2 : x1.toInt ≤ (-1) := q_leI x1hi; omega) (by have t1 : (-1081) ≤ x1.toInt := q_leI x1lo; have t2 : x1.toInt ≤ (-1) := q_leI x1hi; omega)); have e2 : (0 : Int32).toInt = 0 := (by decide); have e3 := q_nltI c1; omega }; omega)) d_17_27_26 ?_
    refine q_ti (v := 0) (by first | rfl | decide | simp [upd, vp_updL, sb_cl0]) ?_
    exact q_reti C0 V (⟨rfl, rfl⟩) d_17_27_27
set_option maxRecDepth 100000 in
set_option maxHeartbeats 4000000 in
theorem c_FR_figureAt_6 (l : Launch) (D : va_G) (g : Nat → ClassId) (ws : va_W) (kO0 kA6 qO0 qA1 qA2 qA3 qA4 qA5 qA6 qA7 : Nat) (x1 : Int32) (y2 : Int32) (hO0 : ws[kO0]? = some (qO0, .inr (15, [.int 0, .ref qA1, .ref qA2, .ref qA3, .ref qA4, .ref qA5, .ref qA6, .ref qA7, .int y2, .int 0, .int 0, .long 0, .int 52, .int 2047, .long 0, .int (-1074), .long 0, .int 0]))) (hA6 : ws[kA6]? = some (qA6, .inl (g 0, 1404, .inl (fun _ => 0)))) (x1lo : (-1081) ≤ x1) (x1hi : x1 ≤ (-1)) (y2lo : 2 ≤ y2) (y2hi : y2 ≤ 1082) : q_mI l y_FR_figureAt prog_17_method_27_code 3 (.int) 1 0 0 D g [.ref qO0, .int x1] ws (fun r u => 0 = r ∧ ws = u) := by
  intro sz
  refine q_into (by decide) (Nat.le_of_ble_eq_true rfl) ?_
  intro p e s m below meth c ls hsz C0 V hl
  have hx := C0.1
  have hb := C0.2.1
  have hl : lv_has ls 3 [(0, .ref qO0), (1, .int x1)] := hl
  refine lv_iload_n hx hb d_17_27_0 rfl (lv_at hl 1 rfl) ?_
  refine lv_sipush (v := 1080) hx hb d_17_27_1 (by decide) ?_
  refine lv_iadd hx hb d_17_27_4 ?_
  refine lv_istore_n (lv' := [(2, .int (x1 + 1080)), (0, .ref qO0), (1, .int x1)]) hx hb d_17_27_5 rfl hl (by decide) rfl (fun ls hl => ?_)
  refine lv_iload_n hx hb d_17_27_6 rfl (lv_at hl 0 rfl) ?_
  refine lv_if_lt (tgt := 17) hx hb d_17_27_7 (by decide) (fun c1 => ?_) (fun c1 => ?_)
  ·
    refine lv_iconst (v := 0) hx hb d_17_27_17 (by decide) ?_
    refine lv_goto (tgt := 27) hx hb d_17_27_18 (by decide) ?_
    exact q_reti C0 V (⟨rfl, rfl⟩) d_17_27_27
  ·
    refine lv_iload_n hx hb d_17_27_10 rfl (lv_at hl 0 rfl) ?_
    refine lv_sipush (v := 1404) hx hb d_17_27_11 (by decide) ?_
    refine lv_icmp_lt (tgt := 21) hx hb d_17_27_14 (by decide) (fun c2 => ?_) (fun c2 => absurd (q_Ilt (x := (x1.toInt + 1080)) (y := 1404) (q_addI (x := x1.toInt) (y := 1080) rfl (by decide) (by have t1 : (-1081) ≤ x1.toInt := q_leI x1lo; have t2 : x1.toInt ≤ (-1) := q_leI x1hi; have t3 : 0 ≤ (x1.toInt + 1080) := by { have e1 : ((x1 + 1080) : Int32).toInt = (x1.toInt + 1080) := (q_addI (x := x1.toInt) (y := 1080) rfl (by decide) (by have t1 : (-1081) ≤ x1.toInt := q_leI x1lo; have t2 : x1.toInt ≤ (-1) := q_leI x1hi; omega) (by have t1 : (-1081) ≤ x1.toInt := q_leI x1lo; have t2 : x1.toInt ≤ (-1) := q_leI x1hi; omega)); have e2 : (0 : Int32).toInt = 0 := (by decide); have e3 := q_nltI c1; omega }; omega) (by have t1 : (-1081) ≤ x1.toInt := q_leI x1lo; have t2 : x1.toInt ≤ (-1) := q_leI x1hi; have t3 : 0 ≤ (x1.toInt + 1080) := by { have e1 : ((x1 + 1080) : Int32).toInt = (x1.toInt + 1080) := (q_addI (x := x1.toInt) (y := 1080) rfl (by decide) (by have t1 : (-1081) ≤ x1.toInt := q_leI x1lo; have t2 : x1.toInt ≤ (-1) := q_leI x1hi; omega) (by have t1 : (-1081) ≤ x1.toInt := q_leI x1lo; have t2 : x1.toInt ≤ (-1) := q_leI x1hi; omega)); have e2 : (0 : Int32).toInt = 0 := (by decide); have e3 := q_nltI c1; omega }; omega)) (by decide) (by have t1 : (-1081) ≤ x1.toInt := q_leI x1lo; have t2 : x1.toInt ≤ (-1) := q_leI x1hi; have t3 : 0 ≤ (x1.toInt + 1080) := by { have e1 : ((x1 + 1080) : Int32).toInt = (x1.toInt + 1080) := (q_addI (x := x1.toInt) (y := 1080) rfl (by decide) (by have t1 : (-1081) ≤ x1.toInt := q_leI x1lo; have t2 : x1.toInt ≤ (-1) := q_leI x1hi; omega) (by have t1 : (-1081) ≤ x1.toInt := q_leI x1lo; have t2 : x1.toInt ≤ (-1) := q_leI x1hi; omega)); have e2 : (0 : Int32).toInt = 0 := (by decide); have e3 := q_nltI c1; omega }; omega)) c2)
    refine lv_aload_n hx hb d_17_27_21 rfl (lv_at hl 1 rfl) ?_
    refine q_get (ci := 15) (j := 6) (v := .ref qA6) C0 V i_FR rfl rfl hO0 (by decide) w_2081 rfl d_17_27_22 ?_
    refine lv_iload_n hx hb d_17_27_25 rfl (lv_at hl 0 rfl) ?_
    refine q_iald C0 V hA6 (q_ix (x := (x1.toInt + 1080)) (q_addI (x := x1.toInt) (y := 1080) rfl (by decide) (by have t1 : (-1081) ≤ x1.toInt := q_leI x1lo; have t2 : x1.toInt ≤ (-1) := q_leI x1hi; have t3 : 0 ≤ (x1.toInt + 1080) := by { have e1 : ((x1 + 1080) : Int32).toInt = (x1.toInt + 1080) := (q_addI (x := x1.toInt) (y := 1080) rfl (by decide) (by have t1 : (-1081) ≤ x1.toInt := q_leI x1lo; have t2 : x1.toInt ≤ (-1) := q_leI x1hi; omega) (by have t1 : (-1081) ≤ x1.toInt := q_leI x1lo; have t2 : x1.toInt ≤ (-1) := q_leI x1hi; omega)); have e2 : (0 : Int32).toInt = 0 := (by decide); have e3 := q_nltI c1; omega }; omega) (by have t1 : (-1081) ≤ x1.toInt := q_leI x1lo; have t2 : x1.toInt ≤ (-1) := q_leI x1hi; have t3 : 0 ≤ (x1.toInt + 1080) := by { have e1 : ((x1 + 1080) : Int32).toInt = (x1.toInt + 1080) := (q_addI (x := x1.toInt) (y := 1080) rfl (by decide) (by have t1 : (-1081) ≤ x1.toInt := q_leI x1lo; have t2 : x1.toInt ≤ (-1) := q_leI x1hi; omega) (by have t1 : (-1081) ≤ x1.toInt := q_leI x1lo; have t2 : x1.toInt ≤ (-1) := q_leI x1hi; omega)); have e2 : (0 : Int32).toInt = 0 := (by decide); have e3 := q_nltI c1; omega }; omega)) (by have t1 : (-1081) ≤ x1.toInt := q_leI x1lo; have t2 : x1.toInt ≤ (-1) := q_leI x1hi; have t3 : 0 ≤ (x1.toInt + 1080) := by { have e1 : ((x1 + 1080) : Int32).toInt = (x1.toInt + 1080) := (q_addI (x := x1.toInt) (y := 1080) rfl (by decide) (by have t1 : (-1081) ≤ x1.toInt := q_leI x1lo; have t2 : x1.toInt ≤ (-1) := q_leI x1hi; omega) (by have t1 : (-1081) ≤ x1.toInt := q_leI x1lo; have t2 : x1.toInt ≤ (-1) := q_leI x1hi; omega)); have e2 : (0 : Int32).toInt = 0 := (by decide); have e3 := q_nltI c1; omega }; omega) (by have t1 : (-1081) ≤ x1.toInt := q_leI x1lo; have t2 : x1.toInt ≤ (-1) := q_leI x1hi; have t3 : 0 ≤ (x1.toInt + 1080) := by { have e1 : ((x1 + 1080) : Int32).toInt = (x1.toInt + 1080) := (q_addI (x := x1.toInt) (y := 1080) rfl (by decide) (by have t1 : (-1081) ≤ x1.toInt := q_leI x1lo; have t2 : x1.toInt ≤ (-1) := q_leI x1hi; omega) (by have t1 : (-1081) ≤ x1.toInt := q_leI x1lo; have t2 : x1.toInt ≤ (-1) := q_leI x1hi; omega)); have e2 : (0 : Int32).toInt = 0 := (by decide); have e3 := q_nltI c1; omega }; omega)) d_17_27_26 ?_
    refine q_ti (v := 0) (by first | rfl | decide | simp [upd, vp_updL, sb_cl0]) ?_
    exact q_reti C0 V (⟨rfl, rfl⟩) d_17_27_27
set_option maxRecDepth 100000 in
set_option maxHeartbeats 4000000 in
theorem c_FR_add_13 (l : Launch) (D : va_G) (g : Nat → ClassId) (ws : va_W) (kO0 kA7 qO0 qA1 qA2 qA3 qA4 qA5 qA6 qA7 : Nat) (y1 : Int32) (hO0 : ws[kO0]? = some (qO0, .inr (15, [.int 0, .ref qA1, .ref qA2, .ref qA3, .ref qA4, .ref qA5, .ref qA6, .ref qA7, .int y1, .int 0, .int 0, .long 0, .int 52, .int 2047, .long 0, .int (-1074), .long 0, .int 0]))) (hA7 : ws[kA7]? = some (qA7, .inl (g 0, 1600, .inl (upd (upd (fun _ => 0) 0 48) 1 46)))) (y1lo : 2 ≤ y1) (y1hi : y1 ≤ 1082) : q_mV l y_FR_add prog_17_method_16_code 2 1 0 0 D g [.ref qO0, .int 48] ws (fun u => q_un ws u [kO0, kA7] ∧ u[kO0]? = some (qO0, .inr (15, [.int 0, .ref qA1, .ref qA2, .ref qA3, .ref qA4, .ref qA5, .ref qA6, .ref qA7, .int (y1 + 1), .int 0, .int 0, .long 0, .int 52, .int 2047, .long 0, .int (-1074), .long 0, .int 0])) ∧ u[kA7]? = some (qA7, .inl (g 0, 1600, .inl (upd (upd (upd (fun _ => 0) 0 48) 1 46) y1.toNatClampNeg 48)))) := by
  intro sz
  refine q_into (by decide) (Nat.le_of_ble_eq_true rfl) ?_
  intro p e s m below meth c ls hsz C0 V hl
  have hx := C0.1
  have hb := C0.2.1
  have hl : lv_has ls 2 [(0, .ref qO0), (1, .int 48)] := hl
  have n_A7_O0 := q_df hA7 hO0
  have n_O0_A7 := Ne.symm (q_df hA7 hO0)
  have hF : q_un ws ws [kO0, kA7] := q_u0
  refine lv_aload_n hx hb d_17_16_0 rfl (lv_at hl 0 rfl) ?_
  refine q_get (ci := 15) (j := 7) (v := .ref qA7) C0 V i_FR rfl rfl hO0 (by decide) w_2082 rfl d_17_16_1 ?_
  refine lv_aload_n hx hb d_17_16_4 rfl (lv_at hl 0 rfl) ?_
  refine q_get (ci := 15) (j := 8) (v := .int y1) C0 V i_FR rfl rfl hO0 (by decide) w_2084 rfl d_17_16_5 ?_
  refine lv_iload_n hx hb d_17_16_8 rfl (lv_at hl 1 rfl) ?_
  refine q_iast C0 V hA7 (q_ix (x := y1.toInt) rfl (by have t1 : 2 ≤ y1.toInt := q_leI y1lo; have t2 : y1.toInt ≤ 1082 := q_leI y1hi; omega) (by have t1 : 2 ≤ y1.toInt := q_leI y1lo; have t2 : y1.toInt ≤ 1082 := q_leI y1hi; omega)) d_17_16_9 (fun H locs w1 hu2 hA7 V => ?_)
  replace hA7 : w1[kA7]? = some (qA7, .inl (g 0, 1600, .inl (upd (upd (upd (fun _ => 0) 0 48) 1 46) y1.toNatClampNeg 48))) := hA7
  replace hF := q_us hF hu2 (.tail _ (.head _))
  refine lv_aload_n hx hb d_17_16_10 rfl (lv_at hl 0 rfl) ?_
  refine lv_dup hx hb d_17_16_11 rfl ?_
  replace hO0 := (hu2 _ n_O0_A7).trans (hO0)
  refine q_get (ci := 15) (j := 8) (v := .int y1) C0 V i_FR rfl rfl hO0 (by decide) w_2084 rfl d_17_16_12 ?_
  refine lv_iconst (v := 1) hx hb d_17_16_15 (by decide) ?_
  refine lv_iadd hx hb d_17_16_16 ?_
  refine q_put (ci := 15) (j := 8) (v := .int (y1 + 1)) (ty := .int) C0 V i_FR o_FR n_FR rfl rfl hO0 (by decide) w_2084 rfl rfl rfl rfl (Nat.le_of_ble_eq_true rfl) d_17_16_17 (fun H locs w3 hu4 hO0 V => ?_)
  replace hO0 : w3[kO0]? = some (qO0, .inr (15, [.int 0, .ref qA1, .ref qA2, .ref qA3, .ref qA4, .ref qA5, .ref qA6, .ref qA7, .int (y1 + 1), .int 0, .int 0, .long 0, .int 52, .int 2047, .long 0, .int (-1074), .long 0, .int 0])) := hO0
  replace hF := q_us hF hu4 (.head _)
  replace hA7 := (hu4 _ n_A7_O0).trans (hA7)
  exact q_retv C0 V (⟨hF, hO0, hA7⟩) d_17_16_20
set_option maxRecDepth 100000 in
set_option maxHeartbeats 4000000 in
theorem c_FR_add_14 (l : Launch) (D : va_G) (g : Nat → ClassId) (ws : va_W) (kO0 kA7 qO0 qA1 qA2 qA3 qA4 qA5 qA6 qA7 : Nat) (y1 : Int32) (f3 : Nat → Int32) (hO0 : ws[kO0]? = some (qO0, .inr (15, [.int 0, .ref qA1, .ref qA2, .ref qA3, .ref qA4, .ref qA5, .ref qA6, .ref qA7, .int y1, .int 0, .int 0, .long 0, .int 52, .int 2047, .long 0, .int (-1074), .long 0, .int 0]))) (hA7 : ws[kA7]? = some (qA7, .inl (g 0, 1600, .inl f3))) (y1lo : 2 ≤ y1) (y1hi : y1 ≤ 1082) : q_mV l y_FR_add prog_17_method_16_code 2 1 0 0 D g [.ref qO0, .int 48] ws (fun u => q_un ws u [kO0, kA7] ∧ u[kO0]? = some (qO0, .inr (15, [.int 0, .ref qA1, .ref qA2, .ref qA3, .ref qA4, .ref qA5, .ref qA6, .ref qA7, .int (y1 + 1), .int 0, .int 0, .long 0, .int 52, .int 2047, .long 0, .int (-1074), .long 0, .int 0])) ∧ u[kA7]? = some (qA7, .inl (g 0, 1600, .inl (upd f3 y1.toNatClampNeg 48)))) := by
  intro sz
  refine q_into (by decide) (Nat.le_of_ble_eq_true rfl) ?_
  intro p e s m below meth c ls hsz C0 V hl
  have hx := C0.1
  have hb := C0.2.1
  have hl : lv_has ls 2 [(0, .ref qO0), (1, .int 48)] := hl
  have n_A7_O0 := q_df hA7 hO0
  have n_O0_A7 := Ne.symm (q_df hA7 hO0)
  have hF : q_un ws ws [kO0, kA7] := q_u0
  refine lv_aload_n hx hb d_17_16_0 rfl (lv_at hl 0 rfl) ?_
  refine q_get (ci := 15) (j := 7) (v := .ref qA7) C0 V i_FR rfl rfl hO0 (by decide) w_2082 rfl d_17_16_1 ?_
  refine lv_aload_n hx hb d_17_16_4 rfl (lv_at hl 0 rfl) ?_
  refine q_get (ci := 15) (j := 8) (v := .int y1) C0 V i_FR rfl rfl hO0 (by decide) w_2084 rfl d_17_16_5 ?_
  refine lv_iload_n hx hb d_17_16_8 rfl (lv_at hl 1 rfl) ?_
  refine q_iast C0 V hA7 (q_ix (x := y1.toInt) rfl (by have t1 : 2 ≤ y1.toInt := q_leI y1lo; have t2 : y1.toInt ≤ 1082 := q_leI y1hi; omega) (by have t1 : 2 ≤ y1.toInt := q_leI y1lo; have t2 : y1.toInt ≤ 1082 := q_leI y1hi; omega)) d_17_16_9 (fun H locs w1 hu2 hA7 V => ?_)
  replace hA7 : w1[kA7]? = some (qA7, .inl (g 0, 1600, .inl (upd f3 y1.toNatClampNeg 48))) := hA7
  replace hF := q_us hF hu2 (.tail _ (.head _))
  refine lv_aload_n hx hb d_17_16_10 rfl (lv_at hl 0 rfl) ?_
  refine lv_dup hx hb d_17_16_11 rfl ?_
  replace hO0 := (hu2 _ n_O0_A7).trans (hO0)
  refine q_get (ci := 15) (j := 8) (v := .int y1) C0 V i_FR rfl rfl hO0 (by decide) w_2084 rfl d_17_16_12 ?_
  refine lv_iconst (v := 1) hx hb d_17_16_15 (by decide) ?_
  refine lv_iadd hx hb d_17_16_16 ?_
  refine q_put (ci := 15) (j := 8) (v := .int (y1 + 1)) (ty := .int) C0 V i_FR o_FR n_FR rfl rfl hO0 (by decide) w_2084 rfl rfl rfl rfl (Nat.le_of_ble_eq_true rfl) d_17_16_17 (fun H locs w3 hu4 hO0 V => ?_)
  replace hO0 : w3[kO0]? = some (qO0, .inr (15, [.int 0, .ref qA1, .ref qA2, .ref qA3, .ref qA4, .ref qA5, .ref qA6, .ref qA7, .int (y1 + 1), .int 0, .int 0, .long 0, .int 52, .int 2047, .long 0, .int (-1074), .long 0, .int 0])) := hO0
  replace hF := q_us hF hu4 (.head _)
  replace hA7 := (hu4 _ n_A7_O0).trans (hA7)
  exact q_retv C0 V (⟨hF, hO0, hA7⟩) d_17_16_20
set_option maxRecDepth 100000 in
set_option maxHeartbeats 4000000 in
theorem c_FR_figureAt_7 (l : Launch) (D : va_G) (g : Nat → ClassId) (ws : va_W) (kO0 kA6 qO0 qA1 qA2 qA3 qA4 qA5 qA6 qA7 : Nat) (x1 : Int32) (y2 : Int32) (hO0 : ws[kO0]? = some (qO0, .inr (15, [.int 0, .ref qA1, .ref qA2, .ref qA3, .ref qA4, .ref qA5, .ref qA6, .ref qA7, .int y2, .int 0, .int 0, .long 0, .int 52, .int 2047, .long 0, .int (-1074), .long 0, .int 0]))) (hA6 : ws[kA6]? = some (qA6, .inl (g 0, 1404, .inl (fun _ => 0)))) (x1lo : (-1101) ≤ x1) (x1hi : x1 ≤ (-1)) (y2lo : 2 ≤ y2) (y2hi : y2 ≤ 1102) : q_mI l y_FR_figureAt prog_17_method_27_code 3 (.int) 1 0 0 D g [.ref qO0, .int x1] ws (fun r u => 0 = r ∧ ws = u) := by
  intro sz
  refine q_into (by decide) (Nat.le_of_ble_eq_true rfl) ?_
  intro p e s m below meth c ls hsz C0 V hl
  have hx := C0.1
  have hb := C0.2.1
  have hl : lv_has ls 3 [(0, .ref qO0), (1, .int x1)] := hl
  refine lv_iload_n hx hb d_17_27_0 rfl (lv_at hl 1 rfl) ?_
  refine lv_sipush (v := 1080) hx hb d_17_27_1 (by decide) ?_
  refine lv_iadd hx hb d_17_27_4 ?_
  refine lv_istore_n (lv' := [(2, .int (x1 + 1080)), (0, .ref qO0), (1, .int x1)]) hx hb d_17_27_5 rfl hl (by decide) rfl (fun ls hl => ?_)
  refine lv_iload_n hx hb d_17_27_6 rfl (lv_at hl 0 rfl) ?_
  refine lv_if_lt (tgt := 17) hx hb d_17_27_7 (by decide) (fun c1 => ?_) (fun c1 => ?_)
  ·
    refine lv_iconst (v := 0) hx hb d_17_27_17 (by decide) ?_
    refine lv_goto (tgt := 27) hx hb d_17_27_18 (by decide) ?_
    exact q_reti C0 V (⟨rfl, rfl⟩) d_17_27_27
  ·
    refine lv_iload_n hx hb d_17_27_10 rfl (lv_at hl 0 rfl) ?_
    refine lv_sipush (v := 1404) hx hb d_17_27_11 (by decide) ?_
    refine lv_icmp_lt (tgt := 21) hx hb d_17_27_14 (by decide) (fun c2 => ?_) (fun c2 => absurd (q_Ilt (x := (x1.toInt + 1080)) (y := 1404) (q_addI (x := x1.toInt) (y := 1080) rfl (by decide) (by have t1 : (-1101) ≤ x1.toInt := q_leI x1lo; have t2 : x1.toInt ≤ (-1) := q_leI x1hi; have t3 : 0 ≤ (x1.toInt + 1080) := by { have e1 : ((x1 + 1080) : Int32).toInt = (x1.toInt + 1080) := (q_addI (x := x1.toInt) (y := 1080) rfl (by decide) (by have t1 : (-1101) ≤ x1.toInt := q_leI x1lo; have t2 : x1.toInt ≤ (-1) := q_leI x1hi; omega) (by have t1 : (-1101) ≤ x1.toInt := q_leI x1lo; have t2 : x1.toInt ≤ (-1) := q_leI x1hi; omega)); have e2 : (0 : Int32).toInt = 0 := (by decide); have e3 := q_nltI c1; omega }; omega) (by have t1 : (-1101) ≤ x1.toInt := q_leI x1lo; have t2 : x1.toInt ≤ (-1) := q_leI x1hi; have t3 : 0 ≤ (x1.toInt + 1080) := by { have e1 : ((x1 + 1080) : Int32).toInt = (x1.toInt + 1080) := (q_addI (x := x1.toInt) (y := 1080) rfl (by decide) (by have t1 : (-1101) ≤ x1.toInt := q_leI x1lo; have t2 : x1.toInt ≤ (-1) := q_leI x1hi; omega) (by have t1 : (-1101) ≤ x1.toInt := q_leI x1lo; have t2 : x1.toInt ≤ (-1) := q_leI x1hi; omega)); have e2 : (0 : Int32).toInt = 0 := (by decide); have e3 := q_nltI c1; omega }; omega)) (by decide) (by have t1 : (-1101) ≤ x1.toInt := q_leI x1lo; have t2 : x1.toInt ≤ (-1) := q_leI x1hi; have t3 : 0 ≤ (x1.toInt + 1080) := by { have e1 : ((x1 + 1080) : Int32).toInt = (x1.toInt + 1080) := (q_addI (x := x1.toInt) (y := 1080) rfl (by decide) (by have t1 : (-1101) ≤ x1.toInt := q_leI x1lo; have t2 : x1.toInt ≤ (-1) := q_leI x1hi; omega) (by have t1 : (-1101) ≤ x1.toInt := q_leI x1lo; have t2 : x1.toInt ≤ (-1) := q_leI x1hi; omega)); have e2 : (0 : Int32).toInt = 0 := (by decide); have e3 := q_nltI c1; omega }; omega)) c2)
    refine lv_aload_n hx hb d_17_27_21 rfl (lv_at hl 1 rfl) ?_
    refine q_get (ci := 15) (j := 6) (v := .ref qA6) C0 V i_FR rfl rfl hO0 (by decide) w_2081 rfl d_17_27_22 ?_
    refine lv_iload_n hx hb d_17_27_25 rfl (lv_at hl 0 rfl) ?_
    refine q_iald C0 V hA6 (q_ix (x := (x1.toInt + 1080)) (q_addI (x := x1.toInt) (y := 1080) rfl (by decide) (by have t1 : (-1101) ≤ x1.toInt := q_leI x1lo; have t2 : x1.toInt ≤ (-1) := q_leI x1hi; have t3 : 0 ≤ (x1.toInt + 1080) := by { have e1 : ((x1 + 1080) : Int32).toInt = (x1.toInt + 1080) := (q_addI (x := x1.toInt) (y := 1080) rfl (by decide) (by have t1 : (-1101) ≤ x1.toInt := q_leI x1lo; have t2 : x1.toInt ≤ (-1) := q_leI x1hi; omega) (by have t1 : (-1101) ≤ x1.toInt := q_leI x1lo; have t2 : x1.toInt ≤ (-1) := q_leI x1hi; omega)); have e2 : (0 : Int32).toInt = 0 := (by decide); have e3 := q_nltI c1; omega }; omega) (by have t1 : (-1101) ≤ x1.toInt := q_leI x1lo; have t2 : x1.toInt ≤ (-1) := q_leI x1hi; have t3 : 0 ≤ (x1.toInt + 1080) := by { have e1 : ((x1 + 1080) : Int32).toInt = (x1.toInt + 1080) := (q_addI (x := x1.toInt) (y := 1080) rfl (by decide) (by have t1 : (-1101) ≤ x1.toInt := q_leI x1lo; have t2 : x1.toInt ≤ (-1) := q_leI x1hi; omega) (by have t1 : (-1101) ≤ x1.toInt := q_leI x1lo; have t2 : x1.toInt ≤ (-1) := q_leI x1hi; omega)); have e2 : (0 : Int32).toInt = 0 := (by decide); have e3 := q_nltI c1; omega }; omega)) (by have t1 : (-1101) ≤ x1.toInt := q_leI x1lo; have t2 : x1.toInt ≤ (-1) := q_leI x1hi; have t3 : 0 ≤ (x1.toInt + 1080) := by { have e1 : ((x1 + 1080) : Int32).toInt = (x1.toInt + 1080) := (q_addI (x := x1.toInt) (y := 1080) rfl (by decide) (by have t1 : (-1101) ≤ x1.toInt := q_leI x1lo; have t2 : x1.toInt ≤ (-1) := q_leI x1hi; omega) (by have t1 : (-1101) ≤ x1.toInt := q_leI x1lo; have t2 : x1.toInt ≤ (-1) := q_leI x1hi; omega)); have e2 : (0 : Int32).toInt = 0 := (by decide); have e3 := q_nltI c1; omega }; omega) (by have t1 : (-1101) ≤ x1.toInt := q_leI x1lo; have t2 : x1.toInt ≤ (-1) := q_leI x1hi; have t3 : 0 ≤ (x1.toInt + 1080) := by { have e1 : ((x1 + 1080) : Int32).toInt = (x1.toInt + 1080) := (q_addI (x := x1.toInt) (y := 1080) rfl (by decide) (by have t1 : (-1101) ≤ x1.toInt := q_leI x1lo; have t2 : x1.toInt ≤ (-1) := q_leI x1hi; omega) (by have t1 : (-1101) ≤ x1.toInt := q_leI x1lo; have t2 : x1.toInt ≤ (-1) := q_leI x1hi; omega)); have e2 : (0 : Int32).toInt = 0 := (by decide); have e3 := q_nltI c1; omega }; omega)) d_17_27_26 ?_
    refine q_ti (v := 0) (by first | rfl | decide | simp [upd, vp_updL, sb_cl0]) ?_
    exact q_reti C0 V (⟨rfl, rfl⟩) d_17_27_27
set_option maxRecDepth 100000 in
set_option maxHeartbeats 4000000 in
theorem c_FR_add_15 (l : Launch) (D : va_G) (g : Nat → ClassId) (ws : va_W) (kO0 kA7 qO0 qA1 qA2 qA3 qA4 qA5 qA6 qA7 : Nat) (y1 : Int32) (f3 : Nat → Int32) (hO0 : ws[kO0]? = some (qO0, .inr (15, [.int 0, .ref qA1, .ref qA2, .ref qA3, .ref qA4, .ref qA5, .ref qA6, .ref qA7, .int y1, .int 0, .int 0, .long 0, .int 52, .int 2047, .long 0, .int (-1074), .long 0, .int 0]))) (hA7 : ws[kA7]? = some (qA7, .inl (g 0, 1600, .inl f3))) (y1lo : 2 ≤ y1) (y1hi : y1 ≤ 1102) : q_mV l y_FR_add prog_17_method_16_code 2 1 0 0 D g [.ref qO0, .int 48] ws (fun u => q_un ws u [kO0, kA7] ∧ u[kO0]? = some (qO0, .inr (15, [.int 0, .ref qA1, .ref qA2, .ref qA3, .ref qA4, .ref qA5, .ref qA6, .ref qA7, .int (y1 + 1), .int 0, .int 0, .long 0, .int 52, .int 2047, .long 0, .int (-1074), .long 0, .int 0])) ∧ u[kA7]? = some (qA7, .inl (g 0, 1600, .inl (upd f3 y1.toNatClampNeg 48)))) := by
  intro sz
  refine q_into (by decide) (Nat.le_of_ble_eq_true rfl) ?_
  intro p e s m below meth c ls hsz C0 V hl
  have hx := C0.1
  have hb := C0.2.1
  have hl : lv_has ls 2 [(0, .ref qO0), (1, .int 48)] := hl
  have n_A7_O0 := q_df hA7 hO0
  have n_O0_A7 := Ne.symm (q_df hA7 hO0)
  have hF : q_un ws ws [kO0, kA7] := q_u0
  refine lv_aload_n hx hb d_17_16_0 rfl (lv_at hl 0 rfl) ?_
  refine q_get (ci := 15) (j := 7) (v := .ref qA7) C0 V i_FR rfl rfl hO0 (by decide) w_2082 rfl d_17_16_1 ?_
  refine lv_aload_n hx hb d_17_16_4 rfl (lv_at hl 0 rfl) ?_
  refine q_get (ci := 15) (j := 8) (v := .int y1) C0 V i_FR rfl rfl hO0 (by decide) w_2084 rfl d_17_16_5 ?_
  refine lv_iload_n hx hb d_17_16_8 rfl (lv_at hl 1 rfl) ?_
  refine q_iast C0 V hA7 (q_ix (x := y1.toInt) rfl (by have t1 : 2 ≤ y1.toInt := q_leI y1lo; have t2 : y1.toInt ≤ 1102 := q_leI y1hi; omega) (by have t1 : 2 ≤ y1.toInt := q_leI y1lo; have t2 : y1.toInt ≤ 1102 := q_leI y1hi; omega)) d_17_16_9 (fun H locs w1 hu2 hA7 V => ?_)
  replace hA7 : w1[kA7]? = some (qA7, .inl (g 0, 1600, .inl (upd f3 y1.toNatClampNeg 48))) := hA7
  replace hF := q_us hF hu2 (.tail _ (.head _))
  refine lv_aload_n hx hb d_17_16_10 rfl (lv_at hl 0 rfl) ?_
  refine lv_dup hx hb d_17_16_11 rfl ?_
  replace hO0 := (hu2 _ n_O0_A7).trans (hO0)
  refine q_get (ci := 15) (j := 8) (v := .int y1) C0 V i_FR rfl rfl hO0 (by decide) w_2084 rfl d_17_16_12 ?_
  refine lv_iconst (v := 1) hx hb d_17_16_15 (by decide) ?_
  refine lv_iadd hx hb d_17_16_16 ?_
  refine q_put (ci := 15) (j := 8) (v := .int (y1 + 1)) (ty := .int) C0 V i_FR o_FR n_FR rfl rfl hO0 (by decide) w_2084 rfl rfl rfl rfl (Nat.le_of_ble_eq_true rfl) d_17_16_17 (fun H locs w3 hu4 hO0 V => ?_)
  replace hO0 : w3[kO0]? = some (qO0, .inr (15, [.int 0, .ref qA1, .ref qA2, .ref qA3, .ref qA4, .ref qA5, .ref qA6, .ref qA7, .int (y1 + 1), .int 0, .int 0, .long 0, .int 52, .int 2047, .long 0, .int (-1074), .long 0, .int 0])) := hO0
  replace hF := q_us hF hu4 (.head _)
  replace hA7 := (hu4 _ n_A7_O0).trans (hA7)
  exact q_retv C0 V (⟨hF, hO0, hA7⟩) d_17_16_20
theorem d_17_29_55 : decode prog_17_method_29_code 55 = .ok (.iconst 1, 1) := by decide +kernel
theorem d_17_29_56 : decode prog_17_method_29_code 56 = .ok (.goto 15, 3) := by decide +kernel
theorem d_17_29_81 : decode prog_17_method_29_code 81 = .ok (.iconst 0, 1) := by decide +kernel
theorem d_17_29_82 : decode prog_17_method_29_code 82 = .ok (.ireturn, 1) := by decide +kernel
theorem d_17_29_95 : decode prog_17_method_29_code 95 = .ok (.iconst 0, 1) := by decide +kernel
theorem d_17_29_96 : decode prog_17_method_29_code 96 = .ok (.goto 9, 3) := by decide +kernel
set_option maxRecDepth 100000 in
set_option maxHeartbeats 4000000 in
theorem c_FR_fixed_5 (l : Launch) (D : va_G) (g : Nat → ClassId) (ws : va_W) (kO0 kA1 kA2 kA3 kA6 kA7 qO0 qA1 qA2 qA3 qA4 qA5 qA6 qA7 : Nat) (x1 : Int32) (x2 : Int32) (hO0 : ws[kO0]? = some (qO0, .inr (15, [.int 0, .ref qA1, .ref qA2, .ref qA3, .ref qA4, .ref qA5, .ref qA6, .ref qA7, .int 0, .int 0, .int 0, .long 0, .int 0, .int 0, .long 0, .int 0, .long 0, .int 0]))) (hA1 : ws[kA1]? = some (qA1, .inl (g 0, 156, .inl (fun _ => 0)))) (hA2 : ws[kA2]? = some (qA2, .inl (g 0, 156, .inl (fun _ => 0)))) (hA3 : ws[kA3]? = some (qA3, .inl (g 0, 1404, .inl (fun _ => 0)))) (hA6 : ws[kA6]? = some (qA6, .inl (g 0, 1404, .inl (fun _ => 0)))) (hA7 : ws[kA7]? = some (qA7, .inl (g 0, 1600, .inl (fun _ => 0)))) (n_A1_A2 : kA1 ≠ kA2) (n_A1_A3 : kA1 ≠ kA3) (n_A1_A6 : kA1 ≠ kA6) (n_A1_A7 : kA1 ≠ kA7) (n_A2_A6 : kA2 ≠ kA6) (n_A2_A7 : kA2 ≠ kA7) (n_A3_A2 : kA3 ≠ kA2) (n_A3_A6 : kA3 ≠ kA6) (n_A3_A7 : kA3 ≠ kA7) (n_A6_A7 : kA6 ≠ kA7) : q_mI l y_FR_fixed prog_17_method_29_code 9 (.int) 3 0 0 D g [.ref qO0, .long 0, .int 0, .int x1, .int x2] ws (fun r u => (x1 < 0 ∧ 0 = r ∧ q_un ws u [kO0, kA1, kA2, kA3, kA6, kA7] ∧ u[kO0]? = some (qO0, .inr (15, [.int 1, .ref qA1, .ref qA2, .ref qA3, .ref qA4, .ref qA5, .ref qA6, .ref qA7, .int 0, .int 0, .int 0, .long 0, .int 52, .int 2047, .long 0, .int (-1074), .long 0, .int 0])) ∧ u[kA1]? = some (qA1, .inl (g 0, 156, .inl (fun _ => 0))) ∧ u[kA2]? = some (qA2, .inl (g 0, 156, .inl (fun _ => 0))) ∧ u[kA3]? = some (qA3, .inl (g 0, 1404, .inl (fun _ => 0))) ∧ u[kA6]? = some (qA6, .inl (g 0, 1404, .inl (fun _ => 0))) ∧ u[kA7]? = some (qA7, .inl (g 0, 1600, .inl (fun _ => 0)))) ∨ (¬ x1 < 0 ∧ 1100 < x1 ∧ 0 = r ∧ q_un ws u [kO0, kA1, kA2, kA3, kA6, kA7] ∧ u[kO0]? = some (qO0, .inr (15, [.int 1, .ref qA1, .ref qA2, .ref qA3, .ref qA4, .ref qA5, .ref qA6, .ref qA7, .int 0, .int 0, .int 0, .long 0, .int 52, .int 2047, .long 0, .int (-1074), .long 0, .int 0])) ∧ u[kA1]? = some (qA1, .inl (g 0, 156, .inl (fun _ => 0))) ∧ u[kA2]? = some (qA2, .inl (g 0, 156, .inl (fun _ => 0))) ∧ u[kA3]? = some (qA3, .inl (g 0, 1404, .inl (fun _ => 0))) ∧ u[kA6]? = some (qA6, .inl (g 0, 1404, .inl (fun _ => 0))) ∧ u[kA7]? = some (qA7, .inl (g 0, 1600, .inl (fun _ => 0)))) ∨ (¬ x1 < 0 ∧ ¬ 1100 < x1 ∧ x2 < 0 ∧ 0 = r ∧ q_un ws u [kO0, kA1, kA2, kA3, kA6, kA7] ∧ u[kO0]? = some (qO0, .inr (15, [.int 1, .ref qA1, .ref qA2, .ref qA3, .ref qA4, .ref qA5, .ref qA6, .ref qA7, .int 0, .int 0, .int 0, .long 0, .int 52, .int 2047, .long 0, .int (-1074), .long 0, .int 0])) ∧ u[kA1]? = some (qA1, .inl (g 0, 156, .inl (fun _ => 0))) ∧ u[kA2]? = some (qA2, .inl (g 0, 156, .inl (fun _ => 0))) ∧ u[kA3]? = some (qA3, .inl (g 0, 1404, .inl (fun _ => 0))) ∧ u[kA6]? = some (qA6, .inl (g 0, 1404, .inl (fun _ => 0))) ∧ u[kA7]? = some (qA7, .inl (g 0, 1600, .inl (fun _ => 0)))) ∨ (∃ (ex0 : Nat → Int32), ¬ x1 < 0 ∧ ¬ 1100 < x1 ∧ ¬ x2 < 0 ∧ x2 ≤ 3 ∧ x1 ≤ 1080 ∧ x1 ≤ 0 ∧ 1 = r ∧ q_un ws u [kO0, kA1, kA2, kA3, kA6, kA7] ∧ u[kO0]? = some (qO0, .inr (15, [.int 0, .ref qA1, .ref qA2, .ref qA3, .ref qA4, .ref qA5, .ref qA6, .ref qA7, .int 1, .int 0, .int 0, .long 0, .int 52, .int 2047, .long 0, .int (-1074), .long 0, .int 0])) ∧ u[kA1]? = some (qA1, .inl (g 0, 156, .inl ex0)) ∧ u[kA2]? = some (qA2, .inl (g 0, 156, .inl (fun _ => 0))) ∧ u[kA3]? = some (qA3, .inl (g 0, 1404, .inl (fun _ => 0))) ∧ u[kA6]? = some (qA6, .inl (g 0, 1404, .inl (fun _ => 0))) ∧ u[kA7]? = some (qA7, .inl (g 0, 1600, .inl (upd (fun _ => 0) 0 48)))) ∨ (∃ (ex0 : Int32) (ex1 : Nat → Int32) (ex2 : Nat → Int32), ¬ x1 < 0 ∧ ¬ 1100 < x1 ∧ ¬ x2 < 0 ∧ x2 ≤ 3 ∧ x1 ≤ 1080 ∧ ¬ x1 ≤ 0 ∧ (((-1) < (-x1.toInt) ∧ ex0.toInt = 2) ∨ ((-x1.toInt) ≤ (-1) ∧ ex0.toInt = 2 + 1 * ((-1) - (-x1.toInt) + 1))) ∧ 2 ≤ ex0 ∧ ex0 ≤ 1082 ∧ ex0 = r ∧ q_un ws u [kO0, kA1, kA2, kA3, kA6, kA7] ∧ u[kO0]? = some (qO0, .inr (15, [.int 0, .ref qA1, .ref qA2, .ref qA3, .ref qA4, .ref qA5, .ref qA6, .ref qA7, .int ex0, .int 0, .int 0, .long 0, .int 52, .int 2047, .long 0, .int (-1074), .long 0, .int 0])) ∧ u[kA1]? = some (qA1, .inl (g 0, 156, .inl ex1)) ∧ u[kA2]? = some (qA2, .inl (g 0, 156, .inl (fun _ => 0))) ∧ u[kA3]? = some (qA3, .inl (g 0, 1404, .inl (fun _ => 0))) ∧ u[kA6]? = some (qA6, .inl (g 0, 1404, .inl (fun _ => 0))) ∧ u[kA7]? = some (qA7, .inl (g 0, 1600, .inl ex2))) ∨ (∃ (ex0 : Int32) (ex1 : Nat → Int32) (ex2 : Nat → Int32), ¬ x1 < 0 ∧ ¬ 1100 < x1 ∧ ¬ x2 < 0 ∧ x2 ≤ 3 ∧ ¬ x1 ≤ 1080 ∧ (((-1) < (-x1.toInt) ∧ ex0.toInt = 2) ∨ ((-x1.toInt) ≤ (-1) ∧ ex0.toInt = 2 + 1 * ((-1) - (-x1.toInt) + 1))) ∧ 2 ≤ ex0 ∧ ex0 ≤ 1102 ∧ ex0 = r ∧ q_un ws u [kO0, kA1, kA2, kA3, kA6, kA7] ∧ u[kO0]? = some (qO0, .inr (15, [.int 0, .ref qA1, .ref qA2, .ref qA3, .ref qA4, .ref qA5, .ref qA6, .ref qA7, .int ex0, .int 0, .int 0, .long 0, .int 52, .int 2047, .long 0, .int (-1074), .long 0, .int 0])) ∧ u[kA1]? = some (qA1, .inl (g 0, 156, .inl ex1)) ∧ u[kA2]? = some (qA2, .inl (g 0, 156, .inl (fun _ => 0))) ∧ u[kA3]? = some (qA3, .inl (g 0, 1404, .inl (fun _ => 0))) ∧ u[kA6]? = some (qA6, .inl (g 0, 1404, .inl (fun _ => 0))) ∧ u[kA7]? = some (qA7, .inl (g 0, 1600, .inl ex2))) ∨ (¬ x1 < 0 ∧ ¬ 1100 < x1 ∧ ¬ x2 < 0 ∧ ¬ x2 ≤ 3 ∧ 0 = r ∧ q_un ws u [kO0, kA1, kA2, kA3, kA6, kA7] ∧ u[kO0]? = some (qO0, .inr (15, [.int 1, .ref qA1, .ref qA2, .ref qA3, .ref qA4, .ref qA5, .ref qA6, .ref qA7, .int 0, .int 0, .int 0, .long 0, .int 52, .int 2047, .long 0, .int (-1074), .long 0, .int 0])) ∧ u[kA1]? = some (qA1, .inl (g 0, 156, .inl (fun _ => 0))) ∧ u[kA2]? = some (qA2, .inl (g 0, 156, .inl (fun _ => 0))) ∧ u[kA3]? = some (qA3, .inl (g 0, 1404, .inl (fun _ => 0))) ∧ u[kA6]? = some (qA6, .inl (g 0, 1404, .inl (fun _ => 0))) ∧ u[kA7]? = some (qA7, .inl (g 0, 1600, .inl (fun _ => 0))))) := by
  intro sz
  refine q_into (by decide) (Nat.le_of_ble_eq_true rfl) ?_
  intro p e s m below meth c ls hsz C0 V hl
  have hx := C0.1
  have hb := C0.2.1
  have hl : lv_has ls 9 [(0, .ref qO0), (1, .long 0), (3, .int 0), (4, .int x1), (5, .int x2)] := hl
  have n_A1_O0 := q_df hA1 hO0
  have n_A2_O0 := q_df hA2 hO0
  have n_A3_O0 := q_df hA3 hO0
  have n_A6_A1 := Ne.symm n_A1_A6
  have n_A6_A2 := Ne.symm n_A2_A6
  have n_A6_A3 := Ne.symm n_A3_A6
  have n_A6_O0 := q_df hA6 hO0
  have n_A7_A1 := Ne.symm n_A1_A7
  have n_A7_A2 := Ne.symm n_A2_A7
  have n_A7_A3 := Ne.symm n_A3_A7
  have n_A7_A6 := Ne.symm n_A6_A7
  have n_A7_O0 := q_df hA7 hO0
  have n_O0_A1 := Ne.symm (q_df hA1 hO0)
  have n_O0_A2 := Ne.symm (q_df hA2 hO0)
  have n_O0_A3 := Ne.symm (q_df hA3 hO0)
  have n_O0_A6 := Ne.symm (q_df hA6 hO0)
  have hF : q_un ws ws [kO0, kA1, kA2, kA3, kA6, kA7] := q_u0
  refine lv_aload_n hx hb d_17_29_0 rfl (lv_at hl 0 rfl) ?_
  refine lv_lload_n hx hb d_17_29_1 rfl (lv_at hl 1 rfl) ?_
  refine lv_iload_n hx hb d_17_29_2 rfl (lv_at hl 2 rfl) ?_
  refine lv_if_eq (tgt := 18) hx hb d_17_29_3 (by decide) (fun c1 => ?_) (fun c1 => absurd (by decide) c1)
  refine lv_iconst (v := 0) hx hb d_17_29_18 (by decide) ?_
  refine q_gov V (q_runV (As := [.long 0, .int 0]) (rest := []) (d := 1) (mc := 0) (ms := 0) (ci := 15) C0 V rfl LV_FR_126 (c_FR_open l D g ws kO0 qO0 qA1 qA2 qA3 qA4 qA5 qA6 qA7 hO0 _) rfl rfl hO0 rfl hl.1 rfl (Nat.le_of_ble_eq_true rfl) ⟨by decide, by decide⟩ ⟨Nat.le_of_ble_eq_true rfl, Nat.le_of_ble_eq_true rfl⟩ d_17_29_19) (fun u3 H locs hp2 V => ?_)
  obtain ⟨hg4, hO0⟩ := hp2
  replace hF := q_uc hF hg4 (q_sc (.head _) (fun _ h => absurd h List.not_mem_nil))
  refine lv_aload_n hx hb d_17_29_22 rfl (lv_at hl 0 rfl) ?_
  refine lv_lload_n hx hb d_17_29_23 rfl (lv_at hl 1 rfl) ?_
  refine lv_iload_n hx hb d_17_29_24 rfl (lv_at hl 2 rfl) ?_
  refine q_goi V (q_runS (As := [.long 0, .int 0]) (rest := [.ref qO0]) (d := 1) (mc := 0) (ms := 0) C0 V rfl LS_FR_122 (c_FR_isWrong l D g u3 _) rfl hl.1 rfl (Nat.le_of_ble_eq_true rfl) ⟨by decide, by decide⟩ ⟨Nat.le_of_ble_eq_true rfl, Nat.le_of_ble_eq_true rfl⟩ d_17_29_25) (fun v7 u6 H locs hp5 V => ?_)
  obtain ⟨rfl, rfl⟩ := hp5
  refine lv_if_ne (tgt := 55) hx hb d_17_29_28 (by decide) (fun c9 => absurd (by decide) c9) (fun c9 => ?_)
  refine lv_iload hx hb d_17_29_31 (lv_at hl 3 rfl) ?_
  refine lv_if_lt (tgt := 55) hx hb d_17_29_33 (by decide) (fun c10 => ?_) (fun c10 => ?_)
  ·
    refine lv_iconst (v := 1) hx hb d_17_29_55 (by decide) ?_
    refine lv_goto (tgt := 71) hx hb d_17_29_56 (by decide) ?_
    refine q_put (ci := 15) (j := 0) (v := .int 1) (ty := .int) C0 V i_FR o_FR n_FR rfl rfl hO0 (by decide) w_2074 rfl rfl rfl rfl (Nat.le_of_ble_eq_true rfl) d_17_29_71 (fun H locs w11 hu12 hO0 V => ?_)
    replace hO0 : w11[kO0]? = some (qO0, .inr (15, [.int 1, .ref qA1, .ref qA2, .ref qA3, .ref qA4, .ref qA5, .ref qA6, .ref qA7, .int 0, .int 0, .int 0, .long 0, .int 52, .int 2047, .long 0, .int (-1074), .long 0, .int 0])) := hO0
    replace hF := q_us hF hu12 (.head _)
    refine lv_aload_n hx hb d_17_29_74 rfl (lv_at hl 0 rfl) ?_
    refine q_get (ci := 15) (j := 0) (v := .int 1) C0 V i_FR rfl rfl hO0 (by decide) w_2074 rfl d_17_29_75 ?_
    refine lv_if_le (tgt := 83) hx hb d_17_29_78 (by decide) (fun c13 => absurd c13 (by decide)) (fun c13 => ?_)
    refine lv_iconst (v := 0) hx hb d_17_29_81 (by decide) ?_
    replace hA1 := (hu12 _ n_A1_O0).trans ((hg4 _ (q_nc n_A1_O0 List.not_mem_nil)).trans (hA1))
    replace hA2 := (hu12 _ n_A2_O0).trans ((hg4 _ (q_nc n_A2_O0 List.not_mem_nil)).trans (hA2))
    replace hA3 := (hu12 _ n_A3_O0).trans ((hg4 _ (q_nc n_A3_O0 List.not_mem_nil)).trans (hA3))
    replace hA6 := (hu12 _ n_A6_O0).trans ((hg4 _ (q_nc n_A6_O0 List.not_mem_nil)).trans (hA6))
    replace hA7 := (hu12 _ n_A7_O0).trans ((hg4 _ (q_nc n_A7_O0 List.not_mem_nil)).trans (hA7))
    exact q_reti C0 V (Or.inl ⟨c10, rfl, hF, hO0, hA1, hA2, hA3, hA6, hA7⟩) d_17_29_82
  ·
    refine lv_iload hx hb d_17_29_36 (lv_at hl 3 rfl) ?_
    refine lv_sipush (v := 1100) hx hb d_17_29_38 (by decide) ?_
    refine lv_icmp_gt (tgt := 55) hx hb d_17_29_41 (by decide) (fun c14 => ?_) (fun c14 => ?_)
    ·
      refine lv_iconst (v := 1) hx hb d_17_29_55 (by decide) ?_
      refine lv_goto (tgt := 71) hx hb d_17_29_56 (by decide) ?_
      refine q_put (ci := 15) (j := 0) (v := .int 1) (ty := .int) C0 V i_FR o_FR n_FR rfl rfl hO0 (by decide) w_2074 rfl rfl rfl rfl (Nat.le_of_ble_eq_true rfl) d_17_29_71 (fun H locs w15 hu16 hO0 V => ?_)
      replace hO0 : w15[kO0]? = some (qO0, .inr (15, [.int 1, .ref qA1, .ref qA2, .ref qA3, .ref qA4, .ref qA5, .ref qA6, .ref qA7, .int 0, .int 0, .int 0, .long 0, .int 52, .int 2047, .long 0, .int (-1074), .long 0, .int 0])) := hO0
      replace hF := q_us hF hu16 (.head _)
      refine lv_aload_n hx hb d_17_29_74 rfl (lv_at hl 0 rfl) ?_
      refine q_get (ci := 15) (j := 0) (v := .int 1) C0 V i_FR rfl rfl hO0 (by decide) w_2074 rfl d_17_29_75 ?_
      refine lv_if_le (tgt := 83) hx hb d_17_29_78 (by decide) (fun c17 => absurd c17 (by decide)) (fun c17 => ?_)
      refine lv_iconst (v := 0) hx hb d_17_29_81 (by decide) ?_
      replace hA1 := (hu16 _ n_A1_O0).trans ((hg4 _ (q_nc n_A1_O0 List.not_mem_nil)).trans (hA1))
      replace hA2 := (hu16 _ n_A2_O0).trans ((hg4 _ (q_nc n_A2_O0 List.not_mem_nil)).trans (hA2))
      replace hA3 := (hu16 _ n_A3_O0).trans ((hg4 _ (q_nc n_A3_O0 List.not_mem_nil)).trans (hA3))
      replace hA6 := (hu16 _ n_A6_O0).trans ((hg4 _ (q_nc n_A6_O0 List.not_mem_nil)).trans (hA6))
      replace hA7 := (hu16 _ n_A7_O0).trans ((hg4 _ (q_nc n_A7_O0 List.not_mem_nil)).trans (hA7))
      exact q_reti C0 V (Or.inr (Or.inl ⟨c10, c14, rfl, hF, hO0, hA1, hA2, hA3, hA6, hA7⟩)) d_17_29_82
    ·
      refine lv_iload hx hb d_17_29_44 (lv_at hl 4 rfl) ?_
      refine lv_if_lt (tgt := 55) hx hb d_17_29_46 (by decide) (fun c18 => ?_) (fun c18 => ?_)
      ·
        refine lv_iconst (v := 1) hx hb d_17_29_55 (by decide) ?_
        refine lv_goto (tgt := 71) hx hb d_17_29_56 (by decide) ?_
        refine q_put (ci := 15) (j := 0) (v := .int 1) (ty := .int) C0 V i_FR o_FR n_FR rfl rfl hO0 (by decide) w_2074 rfl rfl rfl rfl (Nat.le_of_ble_eq_true rfl) d_17_29_71 (fun H locs w19 hu20 hO0 V => ?_)
        replace hO0 : w19[kO0]? = some (qO0, .inr (15, [.int 1, .ref qA1, .ref qA2, .ref qA3, .ref qA4, .ref qA5, .ref qA6, .ref qA7, .int 0, .int 0, .int 0, .long 0, .int 52, .int 2047, .long 0, .int (-1074), .long 0, .int 0])) := hO0
        replace hF := q_us hF hu20 (.head _)
        refine lv_aload_n hx hb d_17_29_74 rfl (lv_at hl 0 rfl) ?_
        refine q_get (ci := 15) (j := 0) (v := .int 1) C0 V i_FR rfl rfl hO0 (by decide) w_2074 rfl d_17_29_75 ?_
        refine lv_if_le (tgt := 83) hx hb d_17_29_78 (by decide) (fun c21 => absurd c21 (by decide)) (fun c21 => ?_)
        refine lv_iconst (v := 0) hx hb d_17_29_81 (by decide) ?_
        replace hA1 := (hu20 _ n_A1_O0).trans ((hg4 _ (q_nc n_A1_O0 List.not_mem_nil)).trans (hA1))
        replace hA2 := (hu20 _ n_A2_O0).trans ((hg4 _ (q_nc n_A2_O0 List.not_mem_nil)).trans (hA2))
        replace hA3 := (hu20 _ n_A3_O0).trans ((hg4 _ (q_nc n_A3_O0 List.not_mem_nil)).trans (hA3))
        replace hA6 := (hu20 _ n_A6_O0).trans ((hg4 _ (q_nc n_A6_O0 List.not_mem_nil)).trans (hA6))
        replace hA7 := (hu20 _ n_A7_O0).trans ((hg4 _ (q_nc n_A7_O0 List.not_mem_nil)).trans (hA7))
        exact q_reti C0 V (Or.inr (Or.inr (Or.inl ⟨c10, c14, c18, rfl, hF, hO0, hA1, hA2, hA3, hA6, hA7⟩))) d_17_29_82
      ·
        refine lv_iload hx hb d_17_29_49 (lv_at hl 4 rfl) ?_
        refine lv_iconst (v := 3) hx hb d_17_29_51 (by decide) ?_
        refine lv_icmp_le (tgt := 59) hx hb d_17_29_52 (by decide) (fun c22 => ?_) (fun c22 => ?_)
        ·
          refine lv_aload_n hx hb d_17_29_59 rfl (lv_at hl 0 rfl) ?_
          refine q_goi V (q_runV (As := []) (rest := [.ref qO0]) (d := 1) (mc := 0) (ms := 0) (ci := 15) C0 V rfl LV_FR_130 (c_FR_isFinite l D g u3 kO0 qO0 qA1 qA2 qA3 qA4 qA5 qA6 qA7 hO0 _) rfl rfl hO0 rfl hl.1 rfl (Nat.le_of_ble_eq_true rfl) ⟨by decide, by decide⟩ ⟨Nat.le_of_ble_eq_true rfl, Nat.le_of_ble_eq_true rfl⟩ d_17_29_60) (fun v25 u24 H locs hp23 V => ?_)
          obtain ⟨rfl, rfl⟩ := hp23
          refine lv_if_ne (tgt := 70) hx hb d_17_29_63 (by decide) (fun c27 => ?_) (fun c27 => absurd c27 (by decide))
          refine lv_iconst (v := 0) hx hb d_17_29_70 (by decide) ?_
          refine q_put (ci := 15) (j := 0) (v := .int 0) (ty := .int) C0 V i_FR o_FR n_FR rfl rfl hO0 (by decide) w_2074 rfl rfl rfl rfl (Nat.le_of_ble_eq_true rfl) d_17_29_71 (fun H locs w28 hu29 hO0 V => ?_)
          replace hO0 : w28[kO0]? = some (qO0, .inr (15, [.int 0, .ref qA1, .ref qA2, .ref qA3, .ref qA4, .ref qA5, .ref qA6, .ref qA7, .int 0, .int 0, .int 0, .long 0, .int 52, .int 2047, .long 0, .int (-1074), .long 0, .int 0])) := hO0
          replace hF := q_us hF hu29 (.head _)
          refine lv_aload_n hx hb d_17_29_74 rfl (lv_at hl 0 rfl) ?_
          refine q_get (ci := 15) (j := 0) (v := .int 0) C0 V i_FR rfl rfl hO0 (by decide) w_2074 rfl d_17_29_75 ?_
          refine lv_if_le (tgt := 83) hx hb d_17_29_78 (by decide) (fun c30 => ?_) (fun c30 => absurd (by decide) c30)
          refine lv_aload_n hx hb d_17_29_83 rfl (lv_at hl 0 rfl) ?_
          replace hA1 := (hu29 _ n_A1_O0).trans ((hg4 _ (q_nc n_A1_O0 List.not_mem_nil)).trans (hA1))
          replace hA2 := (hu29 _ n_A2_O0).trans ((hg4 _ (q_nc n_A2_O0 List.not_mem_nil)).trans (hA2))
          replace hA3 := (hu29 _ n_A3_O0).trans ((hg4 _ (q_nc n_A3_O0 List.not_mem_nil)).trans (hA3))
          refine q_gov V (q_runV (As := []) (rest := []) (d := 2) (mc := 0) (ms := 0) (ci := 15) C0 V rfl LV_FR_162 (c_FR_setValue l D g w28 kO0 kA1 kA2 kA3 qO0 qA1 qA2 qA3 qA4 qA5 qA6 qA7 hO0 hA1 hA2 hA3 n_A1_A2 n_A1_A3 n_A3_A2 _) rfl rfl hO0 rfl hl.1 rfl (Nat.le_of_ble_eq_true rfl) ⟨by decide, by decide⟩ ⟨Nat.le_of_ble_eq_true rfl, Nat.le_of_ble_eq_true rfl⟩ d_17_29_84) (fun u32 H locs hp31 V => ?_)
          obtain ⟨y33, hg34, hA1, hA2, hA3⟩ := hp31
          replace hF := q_uc hF hg34 (q_sc (.tail _ (.head _)) (q_sc (.tail _ (.tail _ (.head _))) (q_sc (List.mem_of_getElem? (i := 3) rfl) (fun _ h => absurd h List.not_mem_nil))))
          refine lv_iload hx hb d_17_29_87 (lv_at hl 3 rfl) ?_
          refine lv_sipush (v := 1080) hx hb d_17_29_89 (by decide) ?_
          refine lv_icmp_le (tgt := 99) hx hb d_17_29_92 (by decide) (fun c35 => ?_) (fun c35 => ?_)
          ·
            refine lv_sipush (v := 1080) hx hb d_17_29_99 (by decide) ?_
            refine lv_iload hx hb d_17_29_102 (lv_at hl 3 rfl) ?_
            refine lv_isub hx hb d_17_29_104 ?_
            refine lv_istore (lv' := [(6, .int (1080 - x1)), (0, .ref qO0), (1, .long 0), (3, .int 0), (4, .int x1), (5, .int x2)]) hx hb d_17_29_105 hl (by decide) rfl (fun ls hl => ?_)
            refine lv_aload_n hx hb d_17_29_107 rfl (lv_at hl 1 rfl) ?_
            refine lv_iload hx hb d_17_29_108 (lv_at hl 0 rfl) ?_
            refine lv_aload_n hx hb d_17_29_110 rfl (lv_at hl 1 rfl) ?_
            refine lv_iload hx hb d_17_29_111 (lv_at hl 0 rfl) ?_
            refine lv_iload hx hb d_17_29_113 (lv_at hl 5 rfl) ?_
            replace hO0 := (hg34 _ (q_nc n_O0_A1 (q_nc n_O0_A2 (q_nc n_O0_A3 List.not_mem_nil)))).trans (hO0)
            refine q_goi V (q_runV (As := [.int (1080 - x1), .int x2]) (rest := [.int (1080 - x1), .ref qO0]) (d := 1) (mc := 0) (ms := 0) (ci := 15) C0 V rfl LV_FR_165 (c_FR_isMore_5 l D g u32 kO0 kA3 qO0 qA1 qA2 qA3 qA4 qA5 qA6 qA7 (1080 - x1) x2 hO0 hA3 (q_Ile (x := 0) (y := (1080 - x1.toInt)) (by decide) (q_subI (x := 1080) (y := x1.toInt) (by decide) rfl (by have t1 : 0 ≤ x1.toInt := q_nltI c10; have t2 : x1.toInt ≤ 1100 := q_nltI c14; have t3 : x1.toInt ≤ 1080 := q_leI c35; omega) (by have t1 : 0 ≤ x1.toInt := q_nltI c10; have t2 : x1.toInt ≤ 1100 := q_nltI c14; have t3 : x1.toInt ≤ 1080 := q_leI c35; omega)) (by have t1 : 0 ≤ x1.toInt := q_nltI c10; have t2 : x1.toInt ≤ 1100 := q_nltI c14; have t3 : x1.toInt ≤ 1080 := q_leI c35; omega)) (q_Ile (x := (1080 - x1.toInt)) (y := 1080) (q_subI (x := 1080) (y := x1.toInt) (by decide) rfl (by have t1 : 0 ≤ x1.toInt := q_nltI c10; have t2 : x1.toInt ≤ 1100 := q_nltI c14; have t3 : x1.toInt ≤ 1080 := q_leI c35; omega) (by have t1 : 0 ≤ x1.toInt := q_nltI c10; have t2 : x1.toInt ≤ 1100 := q_nltI c14; have t3 : x1.toInt ≤ 1080 := q_leI c35; omega)) (by decide) (by have t1 : 0 ≤ x1.toInt := q_nltI c10; have t2 : x1.toInt ≤ 1100 := q_nltI c14; have t3 : x1.toInt ≤ 1080 := q_leI c35; omega)) (q_Ile (x := 0) (y := x2.toInt) (by decide) rfl (by have t1 : 0 ≤ x2.toInt := q_nltI c18; have t2 : x2.toInt ≤ 3 := q_leI c22; omega)) c22 _) rfl rfl hO0 rfl hl.1 rfl (Nat.le_of_ble_eq_true rfl) ⟨by decide, by decide⟩ ⟨Nat.le_of_ble_eq_true rfl, Nat.le_of_ble_eq_true rfl⟩ d_17_29_115) (fun v38 u37 H locs hp36 V => ?_)
            obtain ⟨rfl, rfl⟩ := hp36
            replace hA6 := (hg34 _ (q_nc n_A6_A1 (q_nc n_A6_A2 (q_nc n_A6_A3 List.not_mem_nil)))).trans ((hu29 _ n_A6_O0).trans ((hg4 _ (q_nc n_A6_O0 List.not_mem_nil)).trans (hA6)))
            refine q_gov V (q_runV (As := [.int (1080 - x1), .int 0]) (rest := []) (d := 1) (mc := 0) (ms := 0) (ci := 15) C0 V rfl LV_FR_81 (c_FR_cut_5 l D g u32 kO0 kA3 kA6 qO0 qA1 qA2 qA3 qA4 qA5 qA6 qA7 (1080 - x1) hO0 hA3 hA6 n_A3_A6 (q_Ile (x := 0) (y := (1080 - x1.toInt)) (by decide) (q_subI (x := 1080) (y := x1.toInt) (by decide) rfl (by have t1 : 0 ≤ x1.toInt := q_nltI c10; have t2 : x1.toInt ≤ 1100 := q_nltI c14; have t3 : x1.toInt ≤ 1080 := q_leI c35; omega) (by have t1 : 0 ≤ x1.toInt := q_nltI c10; have t2 : x1.toInt ≤ 1100 := q_nltI c14; have t3 : x1.toInt ≤ 1080 := q_leI c35; omega)) (by have t1 : 0 ≤ x1.toInt := q_nltI c10; have t2 : x1.toInt ≤ 1100 := q_nltI c14; have t3 : x1.toInt ≤ 1080 := q_leI c35; omega)) (q_Ile (x := (1080 - x1.toInt)) (y := 1080) (q_subI (x := 1080) (y := x1.toInt) (by decide) rfl (by have t1 : 0 ≤ x1.toInt := q_nltI c10; have t2 : x1.toInt ≤ 1100 := q_nltI c14; have t3 : x1.toInt ≤ 1080 := q_leI c35; omega) (by have t1 : 0 ≤ x1.toInt := q_nltI c10; have t2 : x1.toInt ≤ 1100 := q_nltI c14; have t3 : x1.toInt ≤ 1080 := q_leI c35; omega)) (by decide) (by have t1 : 0 ≤ x1.toInt := q_nltI c10; have t2 : x1.toInt ≤ 1100 := q_nltI c14; have t3 : x1.toInt ≤ 1080 := q_leI c35; omega)) _) rfl rfl hO0 rfl hl.1 rfl (Nat.le_of_ble_eq_true rfl) ⟨by decide, by decide⟩ ⟨Nat.le_of_ble_eq_true rfl, Nat.le_of_ble_eq_true rfl⟩ d_17_29_118) (fun u41 H locs hp40 V => ?_)
            obtain ⟨hg42, hA6⟩ := hp40
            replace hF := q_uc hF hg42 (q_sc (List.mem_of_getElem? (i := 4) rfl) (fun _ h => absurd h List.not_mem_nil))
            refine lv_aload_n hx hb d_17_29_121 rfl (lv_at hl 1 rfl) ?_
            replace hO0 := (hg42 _ (q_nc n_O0_A6 List.not_mem_nil)).trans (hO0)
            refine q_gov V (q_runV (As := []) (rest := []) (d := 1) (mc := 0) (ms := 0) (ci := 15) C0 V rfl LV_FR_113 (c_FR_begin l D g u41 kO0 qO0 qA1 qA2 qA3 qA4 qA5 qA6 qA7 hO0 _) rfl rfl hO0 rfl hl.1 rfl (Nat.le_of_ble_eq_true rfl) ⟨by decide, by decide⟩ ⟨Nat.le_of_ble_eq_true rfl, Nat.le_of_ble_eq_true rfl⟩ d_17_29_122) (fun u44 H locs hp43 V => ?_)
            obtain ⟨hg45, hO0⟩ := hp43
            replace hF := q_uc hF hg45 (q_sc (.head _) (fun _ h => absurd h List.not_mem_nil))
            refine lv_sipush (v := 1403) hx hb d_17_29_125 (by decide) ?_
            refine lv_istore (lv' := [(7, .int 1403), (6, .int (1080 - x1)), (0, .ref qO0), (1, .long 0), (3, .int 0), (4, .int x1), (5, .int x2)]) hx hb d_17_29_128 hl (by decide) rfl (fun ls hl => ?_)
            replace hA1 := (hg45 _ (q_nc n_A1_O0 List.not_mem_nil)).trans ((hg42 _ (q_nc n_A1_A6 List.not_mem_nil)).trans (hA1))
            replace hA2 := (hg45 _ (q_nc n_A2_O0 List.not_mem_nil)).trans ((hg42 _ (q_nc n_A2_A6 List.not_mem_nil)).trans (hA2))
            replace hA3 := (hg45 _ (q_nc n_A3_O0 List.not_mem_nil)).trans ((hg42 _ (q_nc n_A3_A6 List.not_mem_nil)).trans (hA3))
            replace hA6 := (hg45 _ (q_nc n_A6_O0 List.not_mem_nil)).trans (hA6)
            replace hA7 := (hg45 _ (q_nc n_A7_O0 List.not_mem_nil)).trans ((hg42 _ (q_nc n_A7_A6 List.not_mem_nil)).trans ((hg34 _ (q_nc n_A7_A1 (q_nc n_A7_A2 (q_nc n_A7_A3 List.not_mem_nil)))).trans ((hu29 _ n_A7_O0).trans ((hg4 _ (q_nc n_A7_O0 List.not_mem_nil)).trans (hA7)))))
            refine q_loop (X := Int32) (fun z H locs ls w47 => (1080 ≤ z.toInt ∧ z.toInt ≤ 1403) ∧ q_Wd D g (va_A ws sz) s w47 H locs ∧ lv_has ls 9 [(7, .int z), (6, .int (1080 - x1)), (0, .ref qO0), (1, .long 0), (3, .int 0), (4, .int x1), (5, .int x2)] ∧ q_un ws w47 [kO0, kA1, kA2, kA3, kA6, kA7] ∧ w47[kO0]? = some (qO0, .inr (15, [.int 0, .ref qA1, .ref qA2, .ref qA3, .ref qA4, .ref qA5, .ref qA6, .ref qA7, .int 0, .int 0, .int 0, .long 0, .int 52, .int 2047, .long 0, .int (-1074), .long 0, .int 0])) ∧ w47[kA1]? = some (qA1, .inl (g 0, 156, .inl y33)) ∧ w47[kA2]? = some (qA2, .inl (g 0, 156, .inl (fun _ => 0))) ∧ w47[kA3]? = some (qA3, .inl (g 0, 1404, .inl (fun _ => 0))) ∧ w47[kA6]? = some (qA6, .inl (g 0, 1404, .inl (fun _ => 0))) ∧ w47[kA7]? = some (qA7, .inl (g 0, 1600, .inl (fun _ => 0)))) (fun z => (z.toInt - 1080).toNat) ?_ ((1403 : Int32)) _ _ _ u44 ⟨⟨by decide, by decide⟩, V, hl, hF, hO0, hA1, hA2, hA3, hA6, hA7⟩
            rintro lx46 H locs ls w47 ⟨i48, V, hl, hF, hO0, hA1, hA2, hA3, hA6, hA7⟩ ih49
            replace i48 : 1080 ≤ lx46.toInt ∧ lx46.toInt ≤ 1403 := i48
            replace hl : lv_has ls 9 [(7, .int lx46), (6, .int (1080 - x1)), (0, .ref qO0), (1, .long 0), (3, .int 0), (4, .int x1), (5, .int x2)] := hl
            replace hO0 : w47[kO0]? = some (qO0, .inr (15, [.int 0, .ref qA1, .ref qA2, .ref qA3, .ref qA4, .ref qA5, .ref qA6, .ref qA7, .int 0, .int 0, .int 0, .long 0, .int 52, .int 2047, .long 0, .int (-1074), .long 0, .int 0])) := hO0
            replace hA1 : w47[kA1]? = some (qA1, .inl (g 0, 156, .inl y33)) := hA1
            replace hA2 : w47[kA2]? = some (qA2, .inl (g 0, 156, .inl (fun _ => 0))) := hA2
            replace hA3 : w47[kA3]? = some (qA3, .inl (g 0, 1404, .inl (fun _ => 0))) := hA3
            replace hA6 : w47[kA6]? = some (qA6, .inl (g 0, 1404, .inl (fun _ => 0))) := hA6
            replace hA7 : w47[kA7]? = some (qA7, .inl (g 0, 1600, .inl (fun _ => 0))) := hA7
            refine lv_iload hx hb d_17_29_130 (lv_at hl 0 rfl) ?_
            refine lv_sipush (v := 1080) hx hb d_17_29_132 (by decide) ?_
            refine lv_icmp_le (tgt := 154) hx hb d_17_29_135 (by decide) (fun c50 => ?_) (fun c50 => ?_)
            ·
              refine lv_iload hx hb d_17_29_154 (lv_at hl 0 rfl) ?_
              refine q_ti (v := 1080) (q_Ieq (x := lx46.toInt) (y := 1080) rfl (by decide) (by have t1 : lx46.toInt ≤ 1080 := q_leI c50; omega)) ?_
              refine lv_sipush (v := 1080) hx hb d_17_29_156 (by decide) ?_
              refine lv_isub hx hb d_17_29_159 ?_
              refine q_ti (v := 0) (by decide) ?_
              refine lv_istore (lv' := [(8, .int 0), (7, .int lx46), (6, .int (1080 - x1)), (0, .ref qO0), (1, .long 0), (3, .int 0), (4, .int x1), (5, .int x2)]) hx hb d_17_29_160 hl (by decide) rfl (fun ls hl => ?_)
              refine lv_iload hx hb d_17_29_162 (lv_at hl 0 rfl) ?_
              refine lv_if_lt (tgt := 186) hx hb d_17_29_164 (by decide) (fun c51 => absurd c51 (by decide)) (fun c51 => ?_)
              refine lv_aload_n hx hb d_17_29_167 rfl (lv_at hl 3 rfl) ?_
              refine lv_bipush (v := 48) hx hb d_17_29_168 (by decide) ?_
              refine lv_aload_n hx hb d_17_29_170 rfl (lv_at hl 3 rfl) ?_
              refine lv_iload hx hb d_17_29_171 (lv_at hl 0 rfl) ?_
              refine q_goi V (q_runV (As := [.int 0]) (rest := [.int 48, .ref qO0]) (d := 1) (mc := 0) (ms := 0) (ci := 15) C0 V rfl LV_FR_169 (c_FR_figureAt l D g w47 kO0 kA6 qO0 qA1 qA2 qA3 qA4 qA5 qA6 qA7 hO0 hA6 _) rfl rfl hO0 rfl hl.1 rfl (Nat.le_of_ble_eq_true rfl) ⟨by decide, by decide⟩ ⟨Nat.le_of_ble_eq_true rfl, Nat.le_of_ble_eq_true rfl⟩ d_17_29_173) (fun v54 u53 H locs hp52 V => ?_)
              obtain ⟨rfl, rfl⟩ := hp52
              refine lv_iadd hx hb d_17_29_176 ?_
              refine q_ti (v := 48) (by decide) ?_
              refine q_gov V (q_runV (As := [.int 48]) (rest := []) (d := 1) (mc := 0) (ms := 0) (ci := 15) C0 V rfl LV_FR_110 (c_FR_add l D g w47 kO0 kA7 qO0 qA1 qA2 qA3 qA4 qA5 qA6 qA7 hO0 hA7 _) rfl rfl hO0 rfl hl.1 rfl (Nat.le_of_ble_eq_true rfl) ⟨by decide, by decide⟩ ⟨Nat.le_of_ble_eq_true rfl, Nat.le_of_ble_eq_true rfl⟩ d_17_29_177) (fun u57 H locs hp56 V => ?_)
              obtain ⟨hg58, hO0, hA7⟩ := hp56
              replace hF := q_uc hF hg58 (q_sc (.head _) (q_sc (List.mem_of_getElem? (i := 5) rfl) (fun _ h => absurd h List.not_mem_nil)))
              refine lv_iinc (v := (-1)) (lv' := [(8, .int (-1)), (7, .int lx46), (6, .int (1080 - x1)), (0, .ref qO0), (1, .long 0), (3, .int 0), (4, .int x1), (5, .int x2)]) hx hb d_17_29_180 hl (k := 0) rfl (by decide) (by decide) rfl (fun ls hl => ?_)
              refine lv_goto (tgt := 162) hx hb d_17_29_183 (by decide) ?_
              refine lv_iload hx hb d_17_29_162 (lv_at hl 0 rfl) ?_
              refine lv_if_lt (tgt := 186) hx hb d_17_29_164 (by decide) (fun c59 => ?_) (fun c59 => absurd (by decide) c59)
              refine lv_iload hx hb d_17_29_186 (lv_at hl 6 rfl) ?_
              refine lv_if_le (tgt := 197) hx hb d_17_29_188 (by decide) (fun c60 => ?_) (fun c60 => ?_)
              ·
                refine lv_iconst (v := (-1)) hx hb d_17_29_197 (by decide) ?_
                refine lv_istore (lv' := [(8, .int (-1)), (7, .int lx46), (6, .int (1080 - x1)), (0, .ref qO0), (1, .long 0), (3, .int 0), (4, .int x1), (5, .int x2)]) hx hb d_17_29_198 hl (by decide) rfl (fun ls hl => ?_)
                refine lv_iload hx hb d_17_29_200 (lv_at hl 0 rfl) ?_
                refine lv_iload hx hb d_17_29_202 (lv_at hl 6 rfl) ?_
                refine q_ti (v := 0) (q_Ieq (x := x1.toInt) (y := 0) rfl (by decide) (by have t1 : 0 ≤ x1.toInt := q_nltI c10; have t2 : x1.toInt ≤ 1100 := q_nltI c14; have t3 : x1.toInt ≤ 1080 := q_leI c35; have t4 : x1.toInt ≤ 0 := q_leI c60; omega)) ?_
                refine lv_ineg hx hb d_17_29_204 ?_
                refine q_ti (v := 0) (by decide) ?_
                refine lv_icmp_lt (tgt := 227) hx hb d_17_29_205 (by decide) (fun c61 => ?_) (fun c61 => absurd (by decide) c61)
                refine lv_aload_n hx hb d_17_29_227 rfl (lv_at hl 3 rfl) ?_
                refine q_get (ci := 15) (j := 8) (v := .int 1) C0 V i_FR rfl rfl hO0 (by decide) w_2084 rfl d_17_29_228 ?_
                replace hA1 := (hg58 _ (q_nc n_A1_O0 (q_nc n_A1_A7 List.not_mem_nil))).trans (hA1)
                replace hA2 := (hg58 _ (q_nc n_A2_O0 (q_nc n_A2_A7 List.not_mem_nil))).trans (hA2)
                replace hA3 := (hg58 _ (q_nc n_A3_O0 (q_nc n_A3_A7 List.not_mem_nil))).trans (hA3)
                replace hA6 := (hg58 _ (q_nc n_A6_O0 (q_nc n_A6_A7 List.not_mem_nil))).trans (hA6)
                exact q_reti C0 V (Or.inr (Or.inr (Or.inr (Or.inl ⟨y33, c10, c14, c18, c22, c35, c60, rfl, hF, hO0, hA1, hA2, hA3, hA6, hA7⟩)))) d_17_29_231
              ·
                refine lv_aload_n hx hb d_17_29_191 rfl (lv_at hl 3 rfl) ?_
                refine lv_bipush (v := 46) hx hb d_17_29_192 (by decide) ?_
                refine q_gov V (q_runV (As := [.int 46]) (rest := []) (d := 1) (mc := 0) (ms := 0) (ci := 15) C0 V rfl LV_FR_110 (c_FR_add_2 l D g u57 kO0 kA7 qO0 qA1 qA2 qA3 qA4 qA5 qA6 qA7 hO0 hA7 _) rfl rfl hO0 rfl hl.1 rfl (Nat.le_of_ble_eq_true rfl) ⟨by decide, by decide⟩ ⟨Nat.le_of_ble_eq_true rfl, Nat.le_of_ble_eq_true rfl⟩ d_17_29_194) (fun u63 H locs hp62 V => ?_)
                obtain ⟨hg64, hO0, hA7⟩ := hp62
                replace hF := q_uc hF hg64 (q_sc (.head _) (q_sc (List.mem_of_getElem? (i := 5) rfl) (fun _ h => absurd h List.not_mem_nil)))
                refine lv_iconst (v := (-1)) hx hb d_17_29_197 (by decide) ?_
                refine lv_istore (lv' := [(8, .int (-1)), (7, .int lx46), (6, .int (1080 - x1)), (0, .ref qO0), (1, .long 0), (3, .int 0), (4, .int x1), (5, .int x2)]) hx hb d_17_29_198 hl (by decide) rfl (fun ls hl => ?_)
                replace hA1 := (hg64 _ (q_nc n_A1_O0 (q_nc n_A1_A7 List.not_mem_nil))).trans ((hg58 _ (q_nc n_A1_O0 (q_nc n_A1_A7 List.not_mem_nil))).trans (hA1))
                replace hA2 := (hg64 _ (q_nc n_A2_O0 (q_nc n_A2_A7 List.not_mem_nil))).trans ((hg58 _ (q_nc n_A2_O0 (q_nc n_A2_A7 List.not_mem_nil))).trans (hA2))
                replace hA3 := (hg64 _ (q_nc n_A3_O0 (q_nc n_A3_A7 List.not_mem_nil))).trans ((hg58 _ (q_nc n_A3_O0 (q_nc n_A3_A7 List.not_mem_nil))).trans (hA3))
                replace hA6 := (hg64 _ (q_nc n_A6_O0 (q_nc n_A6_A7 List.not_mem_nil))).trans ((hg58 _ (q_nc n_A6_O0 (q_nc n_A6_A7 List.not_mem_nil))).trans (hA6))
                refine q_loop (X := Int32 × Int32 × (Nat → Int32)) (fun z H locs ls w68 => (z.1.toInt ≤ (-1) ∧ ((-x1.toInt) - 1 ≤ z.1.toInt ∨ z.1.toInt = (-1))) ∧ (z.2.1.toInt = 2 + 1 * ((-1) - z.1.toInt)) ∧ q_Wd D g (va_A ws sz) s w68 H locs ∧ lv_has ls 9 [(8, .int z.1), (7, .int lx46), (6, .int (1080 - x1)), (0, .ref qO0), (1, .long 0), (3, .int 0), (4, .int x1), (5, .int x2)] ∧ q_un ws w68 [kO0, kA1, kA2, kA3, kA6, kA7] ∧ w68[kO0]? = some (qO0, .inr (15, [.int 0, .ref qA1, .ref qA2, .ref qA3, .ref qA4, .ref qA5, .ref qA6, .ref qA7, .int z.2.1, .int 0, .int 0, .long 0, .int 52, .int 2047, .long 0, .int (-1074), .long 0, .int 0])) ∧ w68[kA1]? = some (qA1, .inl (g 0, 156, .inl y33)) ∧ w68[kA2]? = some (qA2, .inl (g 0, 156, .inl (fun _ => 0))) ∧ w68[kA3]? = some (qA3, .inl (g 0, 1404, .inl (fun _ => 0))) ∧ w68[kA6]? = some (qA6, .inl (g 0, 1404, .inl (fun _ => 0))) ∧ w68[kA7]? = some (qA7, .inl (g 0, 1600, .inl z.2.2))) (fun z => (z.1.toInt - (-x1.toInt) + 1).toNat) ?_ (((-1) : Int32), (2 : Int32), (upd (upd (fun _ => 0) 0 48) 1 46 : (Nat → Int32))) _ _ _ u63 ⟨⟨(by dsimp only; decide), Or.inr (by dsimp only; decide)⟩, (show (2 : Int32).toInt = 2 + 1 * ((-1) - ((-1) : Int32).toInt) from by have t1 : 0 ≤ x1.toInt := q_nltI c10; have t2 : x1.toInt ≤ 1100 := q_nltI c14; have t3 : 0 ≤ x2.toInt := q_nltI c18; have t4 : x2.toInt ≤ 3 := q_leI c22; have t5 : x1.toInt ≤ 1080 := q_leI c35; have t6 : lx46.toInt ≤ 1080 := q_leI c50; have t7 : 0 < x1.toInt := q_nleI c60; have e1 : (2 : Int32).toInt = 2 := (by decide); have e2 : (((-1) : Int32)).toInt = (-1) := (by decide); omega), V, hl, hF, hO0, hA1, hA2, hA3, hA6, hA7⟩
                rintro ⟨lx65, lx66, lx67⟩ H locs ls w68 ⟨i69, i70, V, hl, hF, hO0, hA1, hA2, hA3, hA6, hA7⟩ ih71
                replace i69 : lx65.toInt ≤ (-1) ∧ ((-x1.toInt) - 1 ≤ lx65.toInt ∨ lx65.toInt = (-1)) := i69
                replace i70 : lx66.toInt = 2 + 1 * ((-1) - lx65.toInt) := i70
                replace hl : lv_has ls 9 [(8, .int lx65), (7, .int lx46), (6, .int (1080 - x1)), (0, .ref qO0), (1, .long 0), (3, .int 0), (4, .int x1), (5, .int x2)] := hl
                replace hO0 : w68[kO0]? = some (qO0, .inr (15, [.int 0, .ref qA1, .ref qA2, .ref qA3, .ref qA4, .ref qA5, .ref qA6, .ref qA7, .int lx66, .int 0, .int 0, .long 0, .int 52, .int 2047, .long 0, .int (-1074), .long 0, .int 0])) := hO0
                replace hA1 : w68[kA1]? = some (qA1, .inl (g 0, 156, .inl y33)) := hA1
                replace hA2 : w68[kA2]? = some (qA2, .inl (g 0, 156, .inl (fun _ => 0))) := hA2
                replace hA3 : w68[kA3]? = some (qA3, .inl (g 0, 1404, .inl (fun _ => 0))) := hA3
                replace hA6 : w68[kA6]? = some (qA6, .inl (g 0, 1404, .inl (fun _ => 0))) := hA6
                replace hA7 : w68[kA7]? = some (qA7, .inl (g 0, 1600, .inl lx67)) := hA7
                refine lv_iload hx hb d_17_29_200 (lv_at hl 0 rfl) ?_
                refine lv_iload hx hb d_17_29_202 (lv_at hl 6 rfl) ?_
                refine lv_ineg hx hb d_17_29_204 ?_
                refine lv_icmp_lt (tgt := 227) hx hb d_17_29_205 (by decide) (fun c72 => ?_) (fun c72 => ?_)
                ·
                  refine lv_aload_n hx hb d_17_29_227 rfl (lv_at hl 3 rfl) ?_
                  refine q_get (ci := 15) (j := 8) (v := .int lx66) C0 V i_FR rfl rfl hO0 (by decide) w_2084 rfl d_17_29_228 ?_
                  exact q_reti C0 V (Or.inr (Or.inr (Or.inr (Or.inr (Or.inl ⟨lx66, y33, lx67, c10, c14, c18, c22, c35, c60, (show (((-1) < (-x1.toInt) ∧ lx66.toInt = 2) ∨ ((-x1.toInt) ≤ (-1) ∧ lx66.toInt = 2 + 1 * ((-1) - (-x1.toInt) + 1))) from by have t1 : 0 ≤ x1.toInt := q_nltI c10; have t2 : x1.toInt ≤ 1100 := q_nltI c14; have t3 : 0 ≤ x2.toInt := q_nltI c18; have t4 : x2.toInt ≤ 3 := q_leI c22; have t5 : x1.toInt ≤ 1080 := q_leI c35; have t6 : lx46.toInt ≤ 1080 := q_leI c50; have t7 : 0 < x1.toInt := q_nleI c60; have t8 : lx65.toInt < (-x1.toInt) := by { have e1 : (lx65 : Int32).toInt = lx65.toInt := rfl; have e2 : ((-x1) : Int32).toInt = (-x1.toInt) := (q_negI (x := x1.toInt) rfl (by have t1 : 0 ≤ x1.toInt := q_nltI c10; have t2 : x1.toInt ≤ 1100 := q_nltI c14; have t3 : x1.toInt ≤ 1080 := q_leI c35; have t4 : 0 < x1.toInt := q_nleI c60; omega)); have e3 := q_ltI c72; omega }; have eb : (-x1 : Int32).toInt = (-x1.toInt) := (q_negI (x := x1.toInt) rfl (by have t1 : 0 ≤ x1.toInt := q_nltI c10; have t2 : x1.toInt ≤ 1100 := q_nltI c14; have t3 : x1.toInt ≤ 1080 := q_leI c35; have t4 : 0 < x1.toInt := q_nleI c60; have t5 : lx65.toInt < (-x1.toInt) := by { have e1 : (lx65 : Int32).toInt = lx65.toInt := rfl; have e2 : ((-x1) : Int32).toInt = (-x1.toInt) := (q_negI (x := x1.toInt) rfl (by have t1 : 0 ≤ x1.toInt := q_nltI c10; have t2 : x1.toInt ≤ 1100 := q_nltI c14; have t3 : x1.toInt ≤ 1080 := q_leI c35; have t4 : 0 < x1.toInt := q_nleI c60; omega)); have e3 := q_ltI c72; omega }; omega)); omega), (q_Ile (x := 2) (y := lx66.toInt) (by decide) rfl (by have t1 : 0 ≤ x1.toInt := q_nltI c10; have t2 : x1.toInt ≤ 1100 := q_nltI c14; have t3 : x1.toInt ≤ 1080 := q_leI c35; have t4 : 0 < x1.toInt := q_nleI c60; have t5 : lx65.toInt < (-x1.toInt) := by { have e1 : (lx65 : Int32).toInt = lx65.toInt := rfl; have e2 : ((-x1) : Int32).toInt = (-x1.toInt) := (q_negI (x := x1.toInt) rfl (by have t1 : 0 ≤ x1.toInt := q_nltI c10; have t2 : x1.toInt ≤ 1100 := q_nltI c14; have t3 : x1.toInt ≤ 1080 := q_leI c35; have t4 : 0 < x1.toInt := q_nleI c60; omega)); have e3 := q_ltI c72; omega }; omega)), (q_Ile (x := lx66.toInt) (y := 1082) rfl (by decide) (by have t1 : 0 ≤ x1.toInt := q_nltI c10; have t2 : x1.toInt ≤ 1100 := q_nltI c14; have t3 : x1.toInt ≤ 1080 := q_leI c35; have t4 : 0 < x1.toInt := q_nleI c60; have t5 : lx65.toInt < (-x1.toInt) := by { have e1 : (lx65 : Int32).toInt = lx65.toInt := rfl; have e2 : ((-x1) : Int32).toInt = (-x1.toInt) := (q_negI (x := x1.toInt) rfl (by have t1 : 0 ≤ x1.toInt := q_nltI c10; have t2 : x1.toInt ≤ 1100 := q_nltI c14; have t3 : x1.toInt ≤ 1080 := q_leI c35; have t4 : 0 < x1.toInt := q_nleI c60; omega)); have e3 := q_ltI c72; omega }; omega)), rfl, hF, hO0, hA1, hA2, hA3, hA6, hA7⟩))))) d_17_29_231
                ·
                  refine lv_aload_n hx hb d_17_29_208 rfl (lv_at hl 3 rfl) ?_
                  refine lv_bipush (v := 48) hx hb d_17_29_209 (by decide) ?_
                  refine lv_aload_n hx hb d_17_29_211 rfl (lv_at hl 3 rfl) ?_
                  refine lv_iload hx hb d_17_29_212 (lv_at hl 0 rfl) ?_
                  refine q_goi V (q_runV (As := [.int lx65]) (rest := [.int 48, .ref qO0]) (d := 1) (mc := 0) (ms := 0) (ci := 15) C0 V rfl LV_FR_169 (c_FR_figureAt_6 l D g w68 kO0 kA6 qO0 qA1 qA2 qA3 qA4 qA5 qA6 qA7 lx65 lx66 hO0 hA6 (q_Ile (x := (-1081)) (y := lx65.toInt) (by decide) rfl (by have t1 : 0 ≤ x1.toInt := q_nltI c10; have t2 : x1.toInt ≤ 1100 := q_nltI c14; have t3 : x1.toInt ≤ 1080 := q_leI c35; have t4 : 0 < x1.toInt := q_nleI c60; have t5 : (-x1.toInt) ≤ lx65.toInt := by { have e1 : (lx65 : Int32).toInt = lx65.toInt := rfl; have e2 : ((-x1) : Int32).toInt = (-x1.toInt) := (q_negI (x := x1.toInt) rfl (by have t1 : 0 ≤ x1.toInt := q_nltI c10; have t2 : x1.toInt ≤ 1100 := q_nltI c14; have t3 : x1.toInt ≤ 1080 := q_leI c35; have t4 : 0 < x1.toInt := q_nleI c60; omega)); have e3 := q_nltI c72; omega }; omega)) (q_Ile (x := lx65.toInt) (y := (-1)) rfl (by decide) (by have t1 : 0 ≤ x1.toInt := q_nltI c10; have t2 : x1.toInt ≤ 1100 := q_nltI c14; have t3 : x1.toInt ≤ 1080 := q_leI c35; have t4 : 0 < x1.toInt := q_nleI c60; have t5 : (-x1.toInt) ≤ lx65.toInt := by { have e1 : (lx65 : Int32).toInt = lx65.toInt := rfl; have e2 : ((-x1) : Int32).toInt = (-x1.toInt) := (q_negI (x := x1.toInt) rfl (by have t1 : 0 ≤ x1.toInt := q_nltI c10; have t2 : x1.toInt ≤ 1100 := q_nltI c14; have t3 : x1.toInt ≤ 1080 := q_leI c35; have t4 : 0 < x1.toInt := q_nleI c60; omega)); have e3 := q_nltI c72; omega }; omega)) (q_Ile (x := 2) (y := lx66.toInt) (by decide) rfl (by have t1 : 0 ≤ x1.toInt := q_nltI c10; have t2 : x1.toInt ≤ 1100 := q_nltI c14; have t3 : x1.toInt ≤ 1080 := q_leI c35; have t4 : 0 < x1.toInt := q_nleI c60; have t5 : (-x1.toInt) ≤ lx65.toInt := by { have e1 : (lx65 : Int32).toInt = lx65.toInt := rfl; have e2 : ((-x1) : Int32).toInt = (-x1.toInt) := (q_negI (x := x1.toInt) rfl (by have t1 : 0 ≤ x1.toInt := q_nltI c10; have t2 : x1.toInt ≤ 1100 := q_nltI c14; have t3 : x1.toInt ≤ 1080 := q_leI c35; have t4 : 0 < x1.toInt := q_nleI c60; omega)); have e3 := q_nltI c72; omega }; omega)) (q_Ile (x := lx66.toInt) (y := 1082) rfl (by decide) (by have t1 : 0 ≤ x1.toInt := q_nltI c10; have t2 : x1.toInt ≤ 1100 := q_nltI c14; have t3 : x1.toInt ≤ 1080 := q_leI c35; have t4 : 0 < x1.toInt := q_nleI c60; have t5 : (-x1.toInt) ≤ lx65.toInt := by { have e1 : (lx65 : Int32).toInt = lx65.toInt := rfl; have e2 : ((-x1) : Int32).toInt = (-x1.toInt) := (q_negI (x := x1.toInt) rfl (by have t1 : 0 ≤ x1.toInt := q_nltI c10; have t2 : x1.toInt ≤ 1100 := q_nltI c14; have t3 : x1.toInt ≤ 1080 := q_leI c35; have t4 : 0 < x1.toInt := q_nleI c60; omega)); have e3 := q_nltI c72; omega }; omega)) _) rfl rfl hO0 rfl hl.1 rfl (Nat.le_of_ble_eq_true rfl) ⟨by decide, by decide⟩ ⟨Nat.le_of_ble_eq_true rfl, Nat.le_of_ble_eq_true rfl⟩ d_17_29_214) (fun v75 u74 H locs hp73 V => ?_)
                  obtain ⟨rfl, rfl⟩ := hp73
                  refine lv_iadd hx hb d_17_29_217 ?_
                  refine q_ti (v := 48) (by decide) ?_
                  refine q_gov V (q_runV (As := [.int 48]) (rest := []) (d := 1) (mc := 0) (ms := 0) (ci := 15) C0 V rfl LV_FR_110 (c_FR_add_14 l D g w68 kO0 kA7 qO0 qA1 qA2 qA3 qA4 qA5 qA6 qA7 lx66 lx67 hO0 hA7 (q_Ile (x := 2) (y := lx66.toInt) (by decide) rfl (by have t1 : 0 ≤ x1.toInt := q_nltI c10; have t2 : x1.toInt ≤ 1100 := q_nltI c14; have t3 : x1.toInt ≤ 1080 := q_leI c35; have t4 : 0 < x1.toInt := q_nleI c60; have t5 : (-x1.toInt) ≤ lx65.toInt := by { have e1 : (lx65 : Int32).toInt = lx65.toInt := rfl; have e2 : ((-x1) : Int32).toInt = (-x1.toInt) := (q_negI (x := x1.toInt) rfl (by have t1 : 0 ≤ x1.toInt := q_nltI c10; have t2 : x1.toInt ≤ 1100 := q_nltI c14; have t3 : x1.toInt ≤ 1080 := q_leI c35; have t4 : 0 < x1.toInt := q_nleI c60; omega)); have e3 := q_nltI c72; omega }; omega)) (q_Ile (x := lx66.toInt) (y := 1082) rfl (by decide) (by have t1 : 0 ≤ x1.toInt := q_nltI c10; have t2 : x1.toInt ≤ 1100 := q_nltI c14; have t3 : x1.toInt ≤ 1080 := q_leI c35; have t4 : 0 < x1.toInt := q_nleI c60; have t5 : (-x1.toInt) ≤ lx65.toInt := by { have e1 : (lx65 : Int32).toInt = lx65.toInt := rfl; have e2 : ((-x1) : Int32).toInt = (-x1.toInt) := (q_negI (x := x1.toInt) rfl (by have t1 : 0 ≤ x1.toInt := q_nltI c10; have t2 : x1.toInt ≤ 1100 := q_nltI c14; have t3 : x1.toInt ≤ 1080 := q_leI c35; have t4 : 0 < x1.toInt := q_nleI c60; omega)); have e3 := q_nltI c72; omega }; omega)) _) rfl rfl hO0 rfl hl.1 rfl (Nat.le_of_ble_eq_true rfl) ⟨by decide, by decide⟩ ⟨Nat.le_of_ble_eq_true rfl, Nat.le_of_ble_eq_true rfl⟩ d_17_29_218) (fun u78 H locs hp77 V => ?_)
                  obtain ⟨hg79, hO0, hA7⟩ := hp77
                  replace hF := q_uc hF hg79 (q_sc (.head _) (q_sc (List.mem_of_getElem? (i := 5) rfl) (fun _ h => absurd h List.not_mem_nil)))
                  refine lv_iinc (v := lx65 + (-1)) (lv' := [(8, .int (lx65 + (-1))), (7, .int lx46), (6, .int (1080 - x1)), (0, .ref qO0), (1, .long 0), (3, .int 0), (4, .int x1), (5, .int x2)]) hx hb d_17_29_221 hl (k := 0) rfl (rfl) (by decide) rfl (fun ls hl => ?_)
                  refine lv_goto (tgt := 200) hx hb d_17_29_224 (by decide) ?_
                  replace hA1 := (hg79 _ (q_nc n_A1_O0 (q_nc n_A1_A7 List.not_mem_nil))).trans (hA1)
                  replace hA2 := (hg79 _ (q_nc n_A2_O0 (q_nc n_A2_A7 List.not_mem_nil))).trans (hA2)
                  replace hA3 := (hg79 _ (q_nc n_A3_O0 (q_nc n_A3_A7 List.not_mem_nil))).trans (hA3)
                  replace hA6 := (hg79 _ (q_nc n_A6_O0 (q_nc n_A6_A7 List.not_mem_nil))).trans (hA6)
                  exact ih71 ((lx65 + (-1) : Int32), (lx66 + 1 : Int32), (upd lx67 lx66.toNatClampNeg 48 : Nat → Int32)) _ _ _ _ (show ((lx65 + (-1)).toInt - (-x1.toInt) + 1).toNat < (lx65.toInt - (-x1.toInt) + 1).toNat from by have t1 : 0 ≤ x1.toInt := q_nltI c10; have t2 : x1.toInt ≤ 1100 := q_nltI c14; have t3 : x1.toInt ≤ 1080 := q_leI c35; have t4 : 0 < x1.toInt := q_nleI c60; have t5 : (-x1.toInt) ≤ lx65.toInt := by { have e1 : (lx65 : Int32).toInt = lx65.toInt := rfl; have e2 : ((-x1) : Int32).toInt = (-x1.toInt) := (q_negI (x := x1.toInt) rfl (by have t1 : 0 ≤ x1.toInt := q_nltI c10; have t2 : x1.toInt ≤ 1100 := q_nltI c14; have t3 : x1.toInt ≤ 1080 := q_leI c35; have t4 : 0 < x1.toInt := q_nleI c60; omega)); have e3 := q_nltI c72; omega }; have e : (lx65 + (-1)).toInt = (lx65.toInt + (-1)) := (q_addI (x := lx65.toInt) (y := (-1)) rfl (by decide) (by have t1 : 0 ≤ x1.toInt := q_nltI c10; have t2 : x1.toInt ≤ 1100 := q_nltI c14; have t3 : x1.toInt ≤ 1080 := q_leI c35; have t4 : 0 < x1.toInt := q_nleI c60; have t5 : (-x1.toInt) ≤ lx65.toInt := by { have e1 : (lx65 : Int32).toInt = lx65.toInt := rfl; have e2 : ((-x1) : Int32).toInt = (-x1.toInt) := (q_negI (x := x1.toInt) rfl (by have t1 : 0 ≤ x1.toInt := q_nltI c10; have t2 : x1.toInt ≤ 1100 := q_nltI c14; have t3 : x1.toInt ≤ 1080 := q_leI c35; have t4 : 0 < x1.toInt := q_nleI c60; omega)); have e3 := q_nltI c72; omega }; omega) (by have t1 : 0 ≤ x1.toInt := q_nltI c10; have t2 : x1.toInt ≤ 1100 := q_nltI c14; have t3 : x1.toInt ≤ 1080 := q_leI c35; have t4 : 0 < x1.toInt := q_nleI c60; have t5 : (-x1.toInt) ≤ lx65.toInt := by { have e1 : (lx65 : Int32).toInt = lx65.toInt := rfl; have e2 : ((-x1) : Int32).toInt = (-x1.toInt) := (q_negI (x := x1.toInt) rfl (by have t1 : 0 ≤ x1.toInt := q_nltI c10; have t2 : x1.toInt ≤ 1100 := q_nltI c14; have t3 : x1.toInt ≤ 1080 := q_leI c35; have t4 : 0 < x1.toInt := q_nleI c60; omega)); have e3 := q_nltI c72; omega }; omega)); omega) ⟨(show (lx65 + (-1)).toInt ≤ (-1) ∧ ((-x1.toInt) - 1 ≤ (lx65 + (-1)).toInt ∨ (lx65 + (-1)).toInt = (-1)) from by have t1 : 0 ≤ x1.toInt := q_nltI c10; have t2 : x1.toInt ≤ 1100 := q_nltI c14; have t3 : x1.toInt ≤ 1080 := q_leI c35; have t4 : 0 < x1.toInt := q_nleI c60; have t5 : (-x1.toInt) ≤ lx65.toInt := by { have e1 : (lx65 : Int32).toInt = lx65.toInt := rfl; have e2 : ((-x1) : Int32).toInt = (-x1.toInt) := (q_negI (x := x1.toInt) rfl (by have t1 : 0 ≤ x1.toInt := q_nltI c10; have t2 : x1.toInt ≤ 1100 := q_nltI c14; have t3 : x1.toInt ≤ 1080 := q_leI c35; have t4 : 0 < x1.toInt := q_nleI c60; omega)); have e3 := q_nltI c72; omega }; have e : (lx65 + (-1)).toInt = (lx65.toInt + (-1)) := (q_addI (x := lx65.toInt) (y := (-1)) rfl (by decide) (by have t1 : 0 ≤ x1.toInt := q_nltI c10; have t2 : x1.toInt ≤ 1100 := q_nltI c14; have t3 : x1.toInt ≤ 1080 := q_leI c35; have t4 : 0 < x1.toInt := q_nleI c60; have t5 : (-x1.toInt) ≤ lx65.toInt := by { have e1 : (lx65 : Int32).toInt = lx65.toInt := rfl; have e2 : ((-x1) : Int32).toInt = (-x1.toInt) := (q_negI (x := x1.toInt) rfl (by have t1 : 0 ≤ x1.toInt := q_nltI c10; have t2 : x1.toInt ≤ 1100 := q_nltI c14; have t3 : x1.toInt ≤ 1080 := q_leI c35; have t4 : 0 < x1.toInt := q_nleI c60; omega)); have e3 := q_nltI c72; omega }; omega) (by have t1 : 0 ≤ x1.toInt := q_nltI c10; have t2 : x1.toInt ≤ 1100 := q_nltI c14; have t3 : x1.toInt ≤ 1080 := q_leI c35; have t4 : 0 < x1.toInt := q_nleI c60; have t5 : (-x1.toInt) ≤ lx65.toInt := by { have e1 : (lx65 : Int32).toInt = lx65.toInt := rfl; have e2 : ((-x1) : Int32).toInt = (-x1.toInt) := (q_negI (x := x1.toInt) rfl (by have t1 : 0 ≤ x1.toInt := q_nltI c10; have t2 : x1.toInt ≤ 1100 := q_nltI c14; have t3 : x1.toInt ≤ 1080 := q_leI c35; have t4 : 0 < x1.toInt := q_nleI c60; omega)); have e3 := q_nltI c72; omega }; omega)); omega), (show (lx66 + 1 : Int32).toInt = 2 + 1 * ((-1) - (lx65 + (-1) : Int32).toInt) from by have t1 : 0 ≤ x1.toInt := q_nltI c10; have t2 : x1.toInt ≤ 1100 := q_nltI c14; have t3 : 0 ≤ x2.toInt := q_nltI c18; have t4 : x2.toInt ≤ 3 := q_leI c22; have t5 : x1.toInt ≤ 1080 := q_leI c35; have t6 : lx46.toInt ≤ 1080 := q_leI c50; have t7 : 0 < x1.toInt := q_nleI c60; have t8 : (-x1.toInt) ≤ lx65.toInt := by { have e1 : (lx65 : Int32).toInt = lx65.toInt := rfl; have e2 : ((-x1) : Int32).toInt = (-x1.toInt) := (q_negI (x := x1.toInt) rfl (by have t1 : 0 ≤ x1.toInt := q_nltI c10; have t2 : x1.toInt ≤ 1100 := q_nltI c14; have t3 : x1.toInt ≤ 1080 := q_leI c35; have t4 : 0 < x1.toInt := q_nleI c60; omega)); have e3 := q_nltI c72; omega }; have e0 : (lx65 + (-1) : Int32).toInt = (lx65.toInt + (-1)) := (q_addI (x := lx65.toInt) (y := (-1)) rfl (by decide) (by have t1 : 0 ≤ x1.toInt := q_nltI c10; have t2 : x1.toInt ≤ 1100 := q_nltI c14; have t3 : x1.toInt ≤ 1080 := q_leI c35; have t4 : 0 < x1.toInt := q_nleI c60; have t5 : (-x1.toInt) ≤ lx65.toInt := by { have e1 : (lx65 : Int32).toInt = lx65.toInt := rfl; have e2 : ((-x1) : Int32).toInt = (-x1.toInt) := (q_negI (x := x1.toInt) rfl (by have t1 : 0 ≤ x1.toInt := q_nltI c10; have t2 : x1.toInt ≤ 1100 := q_nltI c14; have t3 : x1.toInt ≤ 1080 := q_leI c35; have t4 : 0 < x1.toInt := q_nleI c60; omega)); have e3 := q_nltI c72; omega }; omega) (by have t1 : 0 ≤ x1.toInt := q_nltI c10; have t2 : x1.toInt ≤ 1100 := q_nltI c14; have t3 : x1.toInt ≤ 1080 := q_leI c35; have t4 : 0 < x1.toInt := q_nleI c60; have t5 : (-x1.toInt) ≤ lx65.toInt := by { have e1 : (lx65 : Int32).toInt = lx65.toInt := rfl; have e2 : ((-x1) : Int32).toInt = (-x1.toInt) := (q_negI (x := x1.toInt) rfl (by have t1 : 0 ≤ x1.toInt := q_nltI c10; have t2 : x1.toInt ≤ 1100 := q_nltI c14; have t3 : x1.toInt ≤ 1080 := q_leI c35; have t4 : 0 < x1.toInt := q_nleI c60; omega)); have e3 := q_nltI c72; omega }; omega)); have e1 : (lx66 + 1 : Int32).toInt = (lx66.toInt + 1) := (q_addI (x := lx66.toInt) (y := 1) rfl (by decide) (by have t1 : 0 ≤ x1.toInt := q_nltI c10; have t2 : x1.toInt ≤ 1100 := q_nltI c14; have t3 : x1.toInt ≤ 1080 := q_leI c35; have t4 : 0 < x1.toInt := q_nleI c60; have t5 : (-x1.toInt) ≤ lx65.toInt := by { have e1 : (lx65 : Int32).toInt = lx65.toInt := rfl; have e2 : ((-x1) : Int32).toInt = (-x1.toInt) := (q_negI (x := x1.toInt) rfl (by have t1 : 0 ≤ x1.toInt := q_nltI c10; have t2 : x1.toInt ≤ 1100 := q_nltI c14; have t3 : x1.toInt ≤ 1080 := q_leI c35; have t4 : 0 < x1.toInt := q_nleI c60; omega)); have e3 := q_nltI c72; omega }; omega) (by have t1 : 0 ≤ x1.toInt := q_nltI c10; have t2 : x1.toInt ≤ 1100 := q_nltI c14; have t3 : x1.toInt ≤ 1080 := q_leI c35; have t4 : 0 < x1.toInt := q_nleI c60; have t5 : (-x1.toInt) ≤ lx65.toInt := by { have e1 : (lx65 : Int32).toInt = lx65.toInt := rfl; have e2 : ((-x1) : Int32).toInt = (-x1.toInt) := (q_negI (x := x1.toInt) rfl (by have t1 : 0 ≤ x1.toInt := q_nltI c10; have t2 : x1.toInt ≤ 1100 := q_nltI c14; have t3 : x1.toInt ≤ 1080 := q_leI c35; have t4 : 0 < x1.toInt := q_nleI c60; omega)); have e3 := q_nltI c72; omega }; omega)); omega), V, q_lw hl (q_lw1 0 rfl (q_lw1 1 rfl (q_lw1 2 rfl (q_lw1 3 rfl (q_lw1 4 rfl (q_lw1 5 rfl (q_lw1 6 rfl (q_lw1 7 rfl q_lw0)))))))), hF, hO0, hA1, hA2, hA3, hA6, hA7⟩
            ·
              refine lv_aload_n hx hb d_17_29_138 rfl (lv_at hl 2 rfl) ?_
              refine q_get (ci := 15) (j := 6) (v := .ref qA6) C0 V i_FR rfl rfl hO0 (by decide) w_2081 rfl d_17_29_139 ?_
              refine lv_iload hx hb d_17_29_142 (lv_at hl 0 rfl) ?_
              refine q_iald C0 V hA6 (q_ix (x := lx46.toInt) rfl (by have t1 : 1080 < lx46.toInt := q_nleI c50; omega) (by have t1 : 1080 < lx46.toInt := q_nleI c50; omega)) d_17_29_144 ?_
              refine q_ti (v := 0) (by first | rfl | decide | simp [upd, vp_updL, sb_cl0]) ?_
              refine lv_if_ne (tgt := 154) hx hb d_17_29_145 (by decide) (fun c80 => absurd (by decide) c80) (fun c80 => ?_)
              refine lv_iinc (v := lx46 + (-1)) (lv' := [(7, .int (lx46 + (-1))), (6, .int (1080 - x1)), (0, .ref qO0), (1, .long 0), (3, .int 0), (4, .int x1), (5, .int x2)]) hx hb d_17_29_148 hl (k := 0) rfl (rfl) (by decide) rfl (fun ls hl => ?_)
              refine lv_goto (tgt := 130) hx hb d_17_29_151 (by decide) ?_
              exact ih49 ((lx46 + (-1) : Int32)) _ _ _ _ (show ((lx46 + (-1)).toInt - 1080).toNat < (lx46.toInt - 1080).toNat from by have t1 : 1080 < lx46.toInt := q_nleI c50; have e : (lx46 + (-1)).toInt = (lx46.toInt + (-1)) := (q_addI (x := lx46.toInt) (y := (-1)) rfl (by decide) (by have t1 : 1080 < lx46.toInt := q_nleI c50; omega) (by have t1 : 1080 < lx46.toInt := q_nleI c50; omega)); omega) ⟨(show 1080 ≤ (lx46 + (-1)).toInt ∧ (lx46 + (-1)).toInt ≤ 1403 from by have t1 : 1080 < lx46.toInt := q_nleI c50; have e : (lx46 + (-1)).toInt = (lx46.toInt + (-1)) := (q_addI (x := lx46.toInt) (y := (-1)) rfl (by decide) (by have t1 : 1080 < lx46.toInt := q_nleI c50; omega) (by have t1 : 1080 < lx46.toInt := q_nleI c50; omega)); omega), V, q_lw hl (q_lw1 0 rfl (q_lw1 1 rfl (q_lw1 2 rfl (q_lw1 3 rfl (q_lw1 4 rfl (q_lw1 5 rfl (q_lw1 6 rfl q_lw0))))))), hF, hO0, hA1, hA2, hA3, hA6, hA7⟩
          ·
            refine lv_iconst (v := 0) hx hb d_17_29_95 (by decide) ?_
            refine lv_goto (tgt := 105) hx hb d_17_29_96 (by decide) ?_
            refine lv_istore (lv' := [(6, .int 0), (0, .ref qO0), (1, .long 0), (3, .int 0), (4, .int x1), (5, .int x2)]) hx hb d_17_29_105 hl (by decide) rfl (fun ls hl => ?_)
            refine lv_aload_n hx hb d_17_29_107 rfl (lv_at hl 1 rfl) ?_
            refine lv_iload hx hb d_17_29_108 (lv_at hl 0 rfl) ?_
            refine lv_aload_n hx hb d_17_29_110 rfl (lv_at hl 1 rfl) ?_
            refine lv_iload hx hb d_17_29_111 (lv_at hl 0 rfl) ?_
            refine lv_iload hx hb d_17_29_113 (lv_at hl 5 rfl) ?_
            replace hO0 := (hg34 _ (q_nc n_O0_A1 (q_nc n_O0_A2 (q_nc n_O0_A3 List.not_mem_nil)))).trans (hO0)
            refine q_goi V (q_runV (As := [.int 0, .int x2]) (rest := [.int 0, .ref qO0]) (d := 1) (mc := 0) (ms := 0) (ci := 15) C0 V rfl LV_FR_165 (c_FR_isMore_5 l D g u32 kO0 kA3 qO0 qA1 qA2 qA3 qA4 qA5 qA6 qA7 0 x2 hO0 hA3 (q_Ile (x := 0) (y := 0) (by decide) (by decide) (by omega)) (q_Ile (x := 0) (y := 1080) (by decide) (by decide) (by omega)) (q_Ile (x := 0) (y := x2.toInt) (by decide) rfl (by have t1 : 0 ≤ x2.toInt := q_nltI c18; have t2 : x2.toInt ≤ 3 := q_leI c22; omega)) c22 _) rfl rfl hO0 rfl hl.1 rfl (Nat.le_of_ble_eq_true rfl) ⟨by decide, by decide⟩ ⟨Nat.le_of_ble_eq_true rfl, Nat.le_of_ble_eq_true rfl⟩ d_17_29_115) (fun v83 u82 H locs hp81 V => ?_)
            obtain ⟨rfl, rfl⟩ := hp81
            replace hA6 := (hg34 _ (q_nc n_A6_A1 (q_nc n_A6_A2 (q_nc n_A6_A3 List.not_mem_nil)))).trans ((hu29 _ n_A6_O0).trans ((hg4 _ (q_nc n_A6_O0 List.not_mem_nil)).trans (hA6)))
            refine q_gov V (q_runV (As := [.int 0, .int 0]) (rest := []) (d := 1) (mc := 0) (ms := 0) (ci := 15) C0 V rfl LV_FR_81 (c_FR_cut_5 l D g u32 kO0 kA3 kA6 qO0 qA1 qA2 qA3 qA4 qA5 qA6 qA7 0 hO0 hA3 hA6 n_A3_A6 (q_Ile (x := 0) (y := 0) (by decide) (by decide) (by omega)) (q_Ile (x := 0) (y := 1080) (by decide) (by decide) (by omega)) _) rfl rfl hO0 rfl hl.1 rfl (Nat.le_of_ble_eq_true rfl) ⟨by decide, by decide⟩ ⟨Nat.le_of_ble_eq_true rfl, Nat.le_of_ble_eq_true rfl⟩ d_17_29_118) (fun u86 H locs hp85 V => ?_)
            obtain ⟨hg87, hA6⟩ := hp85
            replace hF := q_uc hF hg87 (q_sc (List.mem_of_getElem? (i := 4) rfl) (fun _ h => absurd h List.not_mem_nil))
            refine lv_aload_n hx hb d_17_29_121 rfl (lv_at hl 1 rfl) ?_
            replace hO0 := (hg87 _ (q_nc n_O0_A6 List.not_mem_nil)).trans (hO0)
            refine q_gov V (q_runV (As := []) (rest := []) (d := 1) (mc := 0) (ms := 0) (ci := 15) C0 V rfl LV_FR_113 (c_FR_begin l D g u86 kO0 qO0 qA1 qA2 qA3 qA4 qA5 qA6 qA7 hO0 _) rfl rfl hO0 rfl hl.1 rfl (Nat.le_of_ble_eq_true rfl) ⟨by decide, by decide⟩ ⟨Nat.le_of_ble_eq_true rfl, Nat.le_of_ble_eq_true rfl⟩ d_17_29_122) (fun u89 H locs hp88 V => ?_)
            obtain ⟨hg90, hO0⟩ := hp88
            replace hF := q_uc hF hg90 (q_sc (.head _) (fun _ h => absurd h List.not_mem_nil))
            refine lv_sipush (v := 1403) hx hb d_17_29_125 (by decide) ?_
            refine lv_istore (lv' := [(7, .int 1403), (6, .int 0), (0, .ref qO0), (1, .long 0), (3, .int 0), (4, .int x1), (5, .int x2)]) hx hb d_17_29_128 hl (by decide) rfl (fun ls hl => ?_)
            replace hA1 := (hg90 _ (q_nc n_A1_O0 List.not_mem_nil)).trans ((hg87 _ (q_nc n_A1_A6 List.not_mem_nil)).trans (hA1))
            replace hA2 := (hg90 _ (q_nc n_A2_O0 List.not_mem_nil)).trans ((hg87 _ (q_nc n_A2_A6 List.not_mem_nil)).trans (hA2))
            replace hA3 := (hg90 _ (q_nc n_A3_O0 List.not_mem_nil)).trans ((hg87 _ (q_nc n_A3_A6 List.not_mem_nil)).trans (hA3))
            replace hA6 := (hg90 _ (q_nc n_A6_O0 List.not_mem_nil)).trans (hA6)
            replace hA7 := (hg90 _ (q_nc n_A7_O0 List.not_mem_nil)).trans ((hg87 _ (q_nc n_A7_A6 List.not_mem_nil)).trans ((hg34 _ (q_nc n_A7_A1 (q_nc n_A7_A2 (q_nc n_A7_A3 List.not_mem_nil)))).trans ((hu29 _ n_A7_O0).trans ((hg4 _ (q_nc n_A7_O0 List.not_mem_nil)).trans (hA7)))))
            refine q_loop (X := Int32) (fun z H locs ls w92 => (1080 ≤ z.toInt ∧ z.toInt ≤ 1403) ∧ q_Wd D g (va_A ws sz) s w92 H locs ∧ lv_has ls 9 [(7, .int z), (6, .int 0), (0, .ref qO0), (1, .long 0), (3, .int 0), (4, .int x1), (5, .int x2)] ∧ q_un ws w92 [kO0, kA1, kA2, kA3, kA6, kA7] ∧ w92[kO0]? = some (qO0, .inr (15, [.int 0, .ref qA1, .ref qA2, .ref qA3, .ref qA4, .ref qA5, .ref qA6, .ref qA7, .int 0, .int 0, .int 0, .long 0, .int 52, .int 2047, .long 0, .int (-1074), .long 0, .int 0])) ∧ w92[kA1]? = some (qA1, .inl (g 0, 156, .inl y33)) ∧ w92[kA2]? = some (qA2, .inl (g 0, 156, .inl (fun _ => 0))) ∧ w92[kA3]? = some (qA3, .inl (g 0, 1404, .inl (fun _ => 0))) ∧ w92[kA6]? = some (qA6, .inl (g 0, 1404, .inl (fun _ => 0))) ∧ w92[kA7]? = some (qA7, .inl (g 0, 1600, .inl (fun _ => 0)))) (fun z => (z.toInt - 1080).toNat) ?_ ((1403 : Int32)) _ _ _ u89 ⟨⟨by decide, by decide⟩, V, hl, hF, hO0, hA1, hA2, hA3, hA6, hA7⟩
            rintro lx91 H locs ls w92 ⟨i93, V, hl, hF, hO0, hA1, hA2, hA3, hA6, hA7⟩ ih94
            replace i93 : 1080 ≤ lx91.toInt ∧ lx91.toInt ≤ 1403 := i93
            replace hl : lv_has ls 9 [(7, .int lx91), (6, .int 0), (0, .ref qO0), (1, .long 0), (3, .int 0), (4, .int x1), (5, .int x2)] := hl
            replace hO0 : w92[kO0]? = some (qO0, .inr (15, [.int 0, .ref qA1, .ref qA2, .ref qA3, .ref qA4, .ref qA5, .ref qA6, .ref qA7, .int 0, .int 0, .int 0, .long 0, .int 52, .int 2047, .long 0, .int (-1074), .long 0, .int 0])) := hO0
            replace hA1 : w92[kA1]? = some (qA1, .inl (g 0, 156, .inl y33)) := hA1
            replace hA2 : w92[kA2]? = some (qA2, .inl (g 0, 156, .inl (fun _ => 0))) := hA2
            replace hA3 : w92[kA3]? = some (qA3, .inl (g 0, 1404, .inl (fun _ => 0))) := hA3
            replace hA6 : w92[kA6]? = some (qA6, .inl (g 0, 1404, .inl (fun _ => 0))) := hA6
            replace hA7 : w92[kA7]? = some (qA7, .inl (g 0, 1600, .inl (fun _ => 0))) := hA7
            refine lv_iload hx hb d_17_29_130 (lv_at hl 0 rfl) ?_
            refine lv_sipush (v := 1080) hx hb d_17_29_132 (by decide) ?_
            refine lv_icmp_le (tgt := 154) hx hb d_17_29_135 (by decide) (fun c95 => ?_) (fun c95 => ?_)
            ·
              refine lv_iload hx hb d_17_29_154 (lv_at hl 0 rfl) ?_
              refine q_ti (v := 1080) (q_Ieq (x := lx91.toInt) (y := 1080) rfl (by decide) (by have t1 : lx91.toInt ≤ 1080 := q_leI c95; omega)) ?_
              refine lv_sipush (v := 1080) hx hb d_17_29_156 (by decide) ?_
              refine lv_isub hx hb d_17_29_159 ?_
              refine q_ti (v := 0) (by decide) ?_
              refine lv_istore (lv' := [(8, .int 0), (7, .int lx91), (6, .int 0), (0, .ref qO0), (1, .long 0), (3, .int 0), (4, .int x1), (5, .int x2)]) hx hb d_17_29_160 hl (by decide) rfl (fun ls hl => ?_)
              refine lv_iload hx hb d_17_29_162 (lv_at hl 0 rfl) ?_
              refine lv_if_lt (tgt := 186) hx hb d_17_29_164 (by decide) (fun c96 => absurd c96 (by decide)) (fun c96 => ?_)
              refine lv_aload_n hx hb d_17_29_167 rfl (lv_at hl 3 rfl) ?_
              refine lv_bipush (v := 48) hx hb d_17_29_168 (by decide) ?_
              refine lv_aload_n hx hb d_17_29_170 rfl (lv_at hl 3 rfl) ?_
              refine lv_iload hx hb d_17_29_171 (lv_at hl 0 rfl) ?_
              refine q_goi V (q_runV (As := [.int 0]) (rest := [.int 48, .ref qO0]) (d := 1) (mc := 0) (ms := 0) (ci := 15) C0 V rfl LV_FR_169 (c_FR_figureAt l D g w92 kO0 kA6 qO0 qA1 qA2 qA3 qA4 qA5 qA6 qA7 hO0 hA6 _) rfl rfl hO0 rfl hl.1 rfl (Nat.le_of_ble_eq_true rfl) ⟨by decide, by decide⟩ ⟨Nat.le_of_ble_eq_true rfl, Nat.le_of_ble_eq_true rfl⟩ d_17_29_173) (fun v99 u98 H locs hp97 V => ?_)
              obtain ⟨rfl, rfl⟩ := hp97
              refine lv_iadd hx hb d_17_29_176 ?_
              refine q_ti (v := 48) (by decide) ?_
              refine q_gov V (q_runV (As := [.int 48]) (rest := []) (d := 1) (mc := 0) (ms := 0) (ci := 15) C0 V rfl LV_FR_110 (c_FR_add l D g w92 kO0 kA7 qO0 qA1 qA2 qA3 qA4 qA5 qA6 qA7 hO0 hA7 _) rfl rfl hO0 rfl hl.1 rfl (Nat.le_of_ble_eq_true rfl) ⟨by decide, by decide⟩ ⟨Nat.le_of_ble_eq_true rfl, Nat.le_of_ble_eq_true rfl⟩ d_17_29_177) (fun u102 H locs hp101 V => ?_)
              obtain ⟨hg103, hO0, hA7⟩ := hp101
              replace hF := q_uc hF hg103 (q_sc (.head _) (q_sc (List.mem_of_getElem? (i := 5) rfl) (fun _ h => absurd h List.not_mem_nil)))
              refine lv_iinc (v := (-1)) (lv' := [(8, .int (-1)), (7, .int lx91), (6, .int 0), (0, .ref qO0), (1, .long 0), (3, .int 0), (4, .int x1), (5, .int x2)]) hx hb d_17_29_180 hl (k := 0) rfl (by decide) (by decide) rfl (fun ls hl => ?_)
              refine lv_goto (tgt := 162) hx hb d_17_29_183 (by decide) ?_
              refine lv_iload hx hb d_17_29_162 (lv_at hl 0 rfl) ?_
              refine lv_if_lt (tgt := 186) hx hb d_17_29_164 (by decide) (fun c104 => ?_) (fun c104 => absurd (by decide) c104)
              refine lv_iload hx hb d_17_29_186 (lv_at hl 6 rfl) ?_
              refine lv_if_le (tgt := 197) hx hb d_17_29_188 (by decide) (fun c105 => absurd c105 (Int32.not_le.mpr (q_Ilt (x := 0) (y := x1.toInt) (by decide) rfl (by have t1 : 0 ≤ x1.toInt := q_nltI c10; have t2 : x1.toInt ≤ 1100 := q_nltI c14; have t3 : 1080 < x1.toInt := q_nleI c35; omega)))) (fun c105 => ?_)
              refine lv_aload_n hx hb d_17_29_191 rfl (lv_at hl 3 rfl) ?_
              refine lv_bipush (v := 46) hx hb d_17_29_192 (by decide) ?_
              refine q_gov V (q_runV (As := [.int 46]) (rest := []) (d := 1) (mc := 0) (ms := 0) (ci := 15) C0 V rfl LV_FR_110 (c_FR_add_2 l D g u102 kO0 kA7 qO0 qA1 qA2 qA3 qA4 qA5 qA6 qA7 hO0 hA7 _) rfl rfl hO0 rfl hl.1 rfl (Nat.le_of_ble_eq_true rfl) ⟨by decide, by decide⟩ ⟨Nat.le_of_ble_eq_true rfl, Nat.le_of_ble_eq_true rfl⟩ d_17_29_194) (fun u107 H locs hp106 V => ?_)
              obtain ⟨hg108, hO0, hA7⟩ := hp106
              replace hF := q_uc hF hg108 (q_sc (.head _) (q_sc (List.mem_of_getElem? (i := 5) rfl) (fun _ h => absurd h List.not_mem_nil)))
              refine lv_iconst (v := (-1)) hx hb d_17_29_197 (by decide) ?_
              refine lv_istore (lv' := [(8, .int (-1)), (7, .int lx91), (6, .int 0), (0, .ref qO0), (1, .long 0), (3, .int 0), (4, .int x1), (5, .int x2)]) hx hb d_17_29_198 hl (by decide) rfl (fun ls hl => ?_)
              replace hA1 := (hg108 _ (q_nc n_A1_O0 (q_nc n_A1_A7 List.not_mem_nil))).trans ((hg103 _ (q_nc n_A1_O0 (q_nc n_A1_A7 List.not_mem_nil))).trans (hA1))
              replace hA2 := (hg108 _ (q_nc n_A2_O0 (q_nc n_A2_A7 List.not_mem_nil))).trans ((hg103 _ (q_nc n_A2_O0 (q_nc n_A2_A7 List.not_mem_nil))).trans (hA2))
              replace hA3 := (hg108 _ (q_nc n_A3_O0 (q_nc n_A3_A7 List.not_mem_nil))).trans ((hg103 _ (q_nc n_A3_O0 (q_nc n_A3_A7 List.not_mem_nil))).trans (hA3))
              replace hA6 := (hg108 _ (q_nc n_A6_O0 (q_nc n_A6_A7 List.not_mem_nil))).trans ((hg103 _ (q_nc n_A6_O0 (q_nc n_A6_A7 List.not_mem_nil))).trans (hA6))
              refine q_loop (X := Int32 × Int32 × (Nat → Int32)) (fun z H locs ls w112 => (z.1.toInt ≤ (-1) ∧ ((-x1.toInt) - 1 ≤ z.1.toInt ∨ z.1.toInt = (-1))) ∧ (z.2.1.toInt = 2 + 1 * ((-1) - z.1.toInt)) ∧ q_Wd D g (va_A ws sz) s w112 H locs ∧ lv_has ls 9 [(8, .int z.1), (7, .int lx91), (6, .int 0), (0, .ref qO0), (1, .long 0), (3, .int 0), (4, .int x1), (5, .int x2)] ∧ q_un ws w112 [kO0, kA1, kA2, kA3, kA6, kA7] ∧ w112[kO0]? = some (qO0, .inr (15, [.int 0, .ref qA1, .ref qA2, .ref qA3, .ref qA4, .ref qA5, .ref qA6, .ref qA7, .int z.2.1, .int 0, .int 0, .long 0, .int 52, .int 2047, .long 0, .int (-1074), .long 0, .int 0])) ∧ w112[kA1]? = some (qA1, .inl (g 0, 156, .inl y33)) ∧ w112[kA2]? = some (qA2, .inl (g 0, 156, .inl (fun _ => 0))) ∧ w112[kA3]? = some (qA3, .inl (g 0, 1404, .inl (fun _ => 0))) ∧ w112[kA6]? = some (qA6, .inl (g 0, 1404, .inl (fun _ => 0))) ∧ w112[kA7]? = some (qA7, .inl (g 0, 1600, .inl z.2.2))) (fun z => (z.1.toInt - (-x1.toInt) + 1).toNat) ?_ (((-1) : Int32), (2 : Int32), (upd (upd (fun _ => 0) 0 48) 1 46 : (Nat → Int32))) _ _ _ u107 ⟨⟨(by dsimp only; decide), Or.inr (by dsimp only; decide)⟩, (show (2 : Int32).toInt = 2 + 1 * ((-1) - ((-1) : Int32).toInt) from by have t1 : 0 ≤ x1.toInt := q_nltI c10; have t2 : x1.toInt ≤ 1100 := q_nltI c14; have t3 : 0 ≤ x2.toInt := q_nltI c18; have t4 : x2.toInt ≤ 3 := q_leI c22; have t5 : 1080 < x1.toInt := q_nleI c35; have t6 : lx91.toInt ≤ 1080 := q_leI c95; have e1 : (2 : Int32).toInt = 2 := (by decide); have e2 : (((-1) : Int32)).toInt = (-1) := (by decide); omega), V, hl, hF, hO0, hA1, hA2, hA3, hA6, hA7⟩
              rintro ⟨lx109, lx110, lx111⟩ H locs ls w112 ⟨i113, i114, V, hl, hF, hO0, hA1, hA2, hA3, hA6, hA7⟩ ih115
              replace i113 : lx109.toInt ≤ (-1) ∧ ((-x1.toInt) - 1 ≤ lx109.toInt ∨ lx109.toInt = (-1)) := i113
              replace i114 : lx110.toInt = 2 + 1 * ((-1) - lx109.toInt) := i114
              replace hl : lv_has ls 9 [(8, .int lx109), (7, .int lx91), (6, .int 0), (0, .ref qO0), (1, .long 0), (3, .int 0), (4, .int x1), (5, .int x2)] := hl
              replace hO0 : w112[kO0]? = some (qO0, .inr (15, [.int 0, .ref qA1, .ref qA2, .ref qA3, .ref qA4, .ref qA5, .ref qA6, .ref qA7, .int lx110, .int 0, .int 0, .long 0, .int 52, .int 2047, .long 0, .int (-1074), .long 0, .int 0])) := hO0
              replace hA1 : w112[kA1]? = some (qA1, .inl (g 0, 156, .inl y33)) := hA1
              replace hA2 : w112[kA2]? = some (qA2, .inl (g 0, 156, .inl (fun _ => 0))) := hA2
              replace hA3 : w112[kA3]? = some (qA3, .inl (g 0, 1404, .inl (fun _ => 0))) := hA3
              replace hA6 : w112[kA6]? = some (qA6, .inl (g 0, 1404, .inl (fun _ => 0))) := hA6
              replace hA7 : w112[kA7]? = some (qA7, .inl (g 0, 1600, .inl lx111)) := hA7
              refine lv_iload hx hb d_17_29_200 (lv_at hl 0 rfl) ?_
              refine lv_iload hx hb d_17_29_202 (lv_at hl 6 rfl) ?_
              refine lv_ineg hx hb d_17_29_204 ?_
              refine lv_icmp_lt (tgt := 227) hx hb d_17_29_205 (by decide) (fun c116 => ?_) (fun c116 => ?_)
              ·
                refine lv_aload_n hx hb d_17_29_227 rfl (lv_at hl 3 rfl) ?_
                refine q_get (ci := 15) (j := 8) (v := .int lx110) C0 V i_FR rfl rfl hO0 (by decide) w_2084 rfl d_17_29_228 ?_
                exact q_reti C0 V (Or.inr (Or.inr (Or.inr (Or.inr (Or.inr (Or.inl ⟨lx110, y33, lx111, c10, c14, c18, c22, c35, (show (((-1) < (-x1.toInt) ∧ lx110.toInt = 2) ∨ ((-x1.toInt) ≤ (-1) ∧ lx110.toInt = 2 + 1 * ((-1) - (-x1.toInt) + 1))) from by have t1 : 0 ≤ x1.toInt := q_nltI c10; have t2 : x1.toInt ≤ 1100 := q_nltI c14; have t3 : 0 ≤ x2.toInt := q_nltI c18; have t4 : x2.toInt ≤ 3 := q_leI c22; have t5 : 1080 < x1.toInt := q_nleI c35; have t6 : lx91.toInt ≤ 1080 := q_leI c95; have t7 : lx109.toInt < (-x1.toInt) := by { have e1 : (lx109 : Int32).toInt = lx109.toInt := rfl; have e2 : ((-x1) : Int32).toInt = (-x1.toInt) := (q_negI (x := x1.toInt) rfl (by have t1 : 0 ≤ x1.toInt := q_nltI c10; have t2 : x1.toInt ≤ 1100 := q_nltI c14; have t3 : 1080 < x1.toInt := q_nleI c35; omega)); have e3 := q_ltI c116; omega }; have eb : (-x1 : Int32).toInt = (-x1.toInt) := (q_negI (x := x1.toInt) rfl (by have t1 : 0 ≤ x1.toInt := q_nltI c10; have t2 : x1.toInt ≤ 1100 := q_nltI c14; have t3 : 1080 < x1.toInt := q_nleI c35; have t4 : lx109.toInt < (-x1.toInt) := by { have e1 : (lx109 : Int32).toInt = lx109.toInt := rfl; have e2 : ((-x1) : Int32).toInt = (-x1.toInt) := (q_negI (x := x1.toInt) rfl (by have t1 : 0 ≤ x1.toInt := q_nltI c10; have t2 : x1.toInt ≤ 1100 := q_nltI c14; have t3 : 1080 < x1.toInt := q_nleI c35; omega)); have e3 := q_ltI c116; omega }; omega)); omega), (q_Ile (x := 2) (y := lx110.toInt) (by decide) rfl (by have t1 : 0 ≤ x1.toInt := q_nltI c10; have t2 : x1.toInt ≤ 1100 := q_nltI c14; have t3 : 1080 < x1.toInt := q_nleI c35; have t4 : lx109.toInt < (-x1.toInt) := by { have e1 : (lx109 : Int32).toInt = lx109.toInt := rfl; have e2 : ((-x1) : Int32).toInt = (-x1.toInt) := (q_negI (x := x1.toInt) rfl (by have t1 : 0 ≤ x1.toInt := q_nltI c10; have t2 : x1.toInt ≤ 1100 := q_nltI c14; have t3 : 1080 < x1.toInt := q_nleI c35; omega)); have e3 := q_ltI c116; omega }; omega)), (q_Ile (x := lx110.toInt) (y := 1102) rfl (by decide) (by have t1 : 0 ≤ x1.toInt := q_nltI c10; have t2 : x1.toInt ≤ 1100 := q_nltI c14; have t3 : 1080 < x1.toInt := q_nleI c35; have t4 : lx109.toInt < (-x1.toInt) := by { have e1 : (lx109 : Int32).toInt = lx109.toInt := rfl; have e2 : ((-x1) : Int32).toInt = (-x1.toInt) := (q_negI (x := x1.toInt) rfl (by have t1 : 0 ≤ x1.toInt := q_nltI c10; have t2 : x1.toInt ≤ 1100 := q_nltI c14; have t3 : 1080 < x1.toInt := q_nleI c35; omega)); have e3 := q_ltI c116; omega }; omega)), rfl, hF, hO0, hA1, hA2, hA3, hA6, hA7⟩)))))) d_17_29_231
              ·
                refine lv_aload_n hx hb d_17_29_208 rfl (lv_at hl 3 rfl) ?_
                refine lv_bipush (v := 48) hx hb d_17_29_209 (by decide) ?_
                refine lv_aload_n hx hb d_17_29_211 rfl (lv_at hl 3 rfl) ?_
                refine lv_iload hx hb d_17_29_212 (lv_at hl 0 rfl) ?_
                refine q_goi V (q_runV (As := [.int lx109]) (rest := [.int 48, .ref qO0]) (d := 1) (mc := 0) (ms := 0) (ci := 15) C0 V rfl LV_FR_169 (c_FR_figureAt_7 l D g w112 kO0 kA6 qO0 qA1 qA2 qA3 qA4 qA5 qA6 qA7 lx109 lx110 hO0 hA6 (q_Ile (x := (-1101)) (y := lx109.toInt) (by decide) rfl (by have t1 : 0 ≤ x1.toInt := q_nltI c10; have t2 : x1.toInt ≤ 1100 := q_nltI c14; have t3 : 1080 < x1.toInt := q_nleI c35; have t4 : (-x1.toInt) ≤ lx109.toInt := by { have e1 : (lx109 : Int32).toInt = lx109.toInt := rfl; have e2 : ((-x1) : Int32).toInt = (-x1.toInt) := (q_negI (x := x1.toInt) rfl (by have t1 : 0 ≤ x1.toInt := q_nltI c10; have t2 : x1.toInt ≤ 1100 := q_nltI c14; have t3 : 1080 < x1.toInt := q_nleI c35; omega)); have e3 := q_nltI c116; omega }; omega)) (q_Ile (x := lx109.toInt) (y := (-1)) rfl (by decide) (by have t1 : 0 ≤ x1.toInt := q_nltI c10; have t2 : x1.toInt ≤ 1100 := q_nltI c14; have t3 : 1080 < x1.toInt := q_nleI c35; have t4 : (-x1.toInt) ≤ lx109.toInt := by { have e1 : (lx109 : Int32).toInt = lx109.toInt := rfl; have e2 : ((-x1) : Int32).toInt = (-x1.toInt) := (q_negI (x := x1.toInt) rfl (by have t1 : 0 ≤ x1.toInt := q_nltI c10; have t2 : x1.toInt ≤ 1100 := q_nltI c14; have t3 : 1080 < x1.toInt := q_nleI c35; omega)); have e3 := q_nltI c116; omega }; omega)) (q_Ile (x := 2) (y := lx110.toInt) (by decide) rfl (by have t1 : 0 ≤ x1.toInt := q_nltI c10; have t2 : x1.toInt ≤ 1100 := q_nltI c14; have t3 : 1080 < x1.toInt := q_nleI c35; have t4 : (-x1.toInt) ≤ lx109.toInt := by { have e1 : (lx109 : Int32).toInt = lx109.toInt := rfl; have e2 : ((-x1) : Int32).toInt = (-x1.toInt) := (q_negI (x := x1.toInt) rfl (by have t1 : 0 ≤ x1.toInt := q_nltI c10; have t2 : x1.toInt ≤ 1100 := q_nltI c14; have t3 : 1080 < x1.toInt := q_nleI c35; omega)); have e3 := q_nltI c116; omega }; omega)) (q_Ile (x := lx110.toInt) (y := 1102) rfl (by decide) (by have t1 : 0 ≤ x1.toInt := q_nltI c10; have t2 : x1.toInt ≤ 1100 := q_nltI c14; have t3 : 1080 < x1.toInt := q_nleI c35; have t4 : (-x1.toInt) ≤ lx109.toInt := by { have e1 : (lx109 : Int32).toInt = lx109.toInt := rfl; have e2 : ((-x1) : Int32).toInt = (-x1.toInt) := (q_negI (x := x1.toInt) rfl (by have t1 : 0 ≤ x1.toInt := q_nltI c10; have t2 : x1.toInt ≤ 1100 := q_nltI c14; have t3 : 1080 < x1.toInt := q_nleI c35; omega)); have e3 := q_nltI c116; omega }; omega)) _) rfl rfl hO0 rfl hl.1 rfl (Nat.le_of_ble_eq_true rfl) ⟨by decide, by decide⟩ ⟨Nat.le_of_ble_eq_true rfl, Nat.le_of_ble_eq_true rfl⟩ d_17_29_214) (fun v119 u118 H locs hp117 V => ?_)
                obtain ⟨rfl, rfl⟩ := hp117
                refine lv_iadd hx hb d_17_29_217 ?_
                refine q_ti (v := 48) (by decide) ?_
                refine q_gov V (q_runV (As := [.int 48]) (rest := []) (d := 1) (mc := 0) (ms := 0) (ci := 15) C0 V rfl LV_FR_110 (c_FR_add_15 l D g w112 kO0 kA7 qO0 qA1 qA2 qA3 qA4 qA5 qA6 qA7 lx110 lx111 hO0 hA7 (q_Ile (x := 2) (y := lx110.toInt) (by decide) rfl (by have t1 : 0 ≤ x1.toInt := q_nltI c10; have t2 : x1.toInt ≤ 1100 := q_nltI c14; have t3 : 1080 < x1.toInt := q_nleI c35; have t4 : (-x1.toInt) ≤ lx109.toInt := by { have e1 : (lx109 : Int32).toInt = lx109.toInt := rfl; have e2 : ((-x1) : Int32).toInt = (-x1.toInt) := (q_negI (x := x1.toInt) rfl (by have t1 : 0 ≤ x1.toInt := q_nltI c10; have t2 : x1.toInt ≤ 1100 := q_nltI c14; have t3 : 1080 < x1.toInt := q_nleI c35; omega)); have e3 := q_nltI c116; omega }; omega)) (q_Ile (x := lx110.toInt) (y := 1102) rfl (by decide) (by have t1 : 0 ≤ x1.toInt := q_nltI c10; have t2 : x1.toInt ≤ 1100 := q_nltI c14; have t3 : 1080 < x1.toInt := q_nleI c35; have t4 : (-x1.toInt) ≤ lx109.toInt := by { have e1 : (lx109 : Int32).toInt = lx109.toInt := rfl; have e2 : ((-x1) : Int32).toInt = (-x1.toInt) := (q_negI (x := x1.toInt) rfl (by have t1 : 0 ≤ x1.toInt := q_nltI c10; have t2 : x1.toInt ≤ 1100 := q_nltI c14; have t3 : 1080 < x1.toInt := q_nleI c35; omega)); have e3 := q_nltI c116; omega }; omega)) _) rfl rfl hO0 rfl hl.1 rfl (Nat.le_of_ble_eq_true rfl) ⟨by decide, by decide⟩ ⟨Nat.le_of_ble_eq_true rfl, Nat.le_of_ble_eq_true rfl⟩ d_17_29_218) (fun u122 H locs hp121 V => ?_)
                obtain ⟨hg123, hO0, hA7⟩ := hp121
                replace hF := q_uc hF hg123 (q_sc (.head _) (q_sc (List.mem_of_getElem? (i := 5) rfl) (fun _ h => absurd h List.not_mem_nil)))
                refine lv_iinc (v := lx109 + (-1)) (lv' := [(8, .int (lx109 + (-1))), (7, .int lx91), (6, .int 0), (0, .ref qO0), (1, .long 0), (3, .int 0), (4, .int x1), (5, .int x2)]) hx hb d_17_29_221 hl (k := 0) rfl (rfl) (by decide) rfl (fun ls hl => ?_)
                refine lv_goto (tgt := 200) hx hb d_17_29_224 (by decide) ?_
                replace hA1 := (hg123 _ (q_nc n_A1_O0 (q_nc n_A1_A7 List.not_mem_nil))).trans (hA1)
                replace hA2 := (hg123 _ (q_nc n_A2_O0 (q_nc n_A2_A7 List.not_mem_nil))).trans (hA2)
                replace hA3 := (hg123 _ (q_nc n_A3_O0 (q_nc n_A3_A7 List.not_mem_nil))).trans (hA3)
                replace hA6 := (hg123 _ (q_nc n_A6_O0 (q_nc n_A6_A7 List.not_mem_nil))).trans (hA6)
                exact ih115 ((lx109 + (-1) : Int32), (lx110 + 1 : Int32), (upd lx111 lx110.toNatClampNeg 48 : Nat → Int32)) _ _ _ _ (show ((lx109 + (-1)).toInt - (-x1.toInt) + 1).toNat < (lx109.toInt - (-x1.toInt) + 1).toNat from by have t1 : 0 ≤ x1.toInt := q_nltI c10; have t2 : x1.toInt ≤ 1100 := q_nltI c14; have t3 : 1080 < x1.toInt := q_nleI c35; have t4 : (-x1.toInt) ≤ lx109.toInt := by { have e1 : (lx109 : Int32).toInt = lx109.toInt := rfl; have e2 : ((-x1) : Int32).toInt = (-x1.toInt) := (q_negI (x := x1.toInt) rfl (by have t1 : 0 ≤ x1.toInt := q_nltI c10; have t2 : x1.toInt ≤ 1100 := q_nltI c14; have t3 : 1080 < x1.toInt := q_nleI c35; omega)); have e3 := q_nltI c116; omega }; have e : (lx109 + (-1)).toInt = (lx109.toInt + (-1)) := (q_addI (x := lx109.toInt) (y := (-1)) rfl (by decide) (by have t1 : 0 ≤ x1.toInt := q_nltI c10; have t2 : x1.toInt ≤ 1100 := q_nltI c14; have t3 : 1080 < x1.toInt := q_nleI c35; have t4 : (-x1.toInt) ≤ lx109.toInt := by { have e1 : (lx109 : Int32).toInt = lx109.toInt := rfl; have e2 : ((-x1) : Int32).toInt = (-x1.toInt) := (q_negI (x := x1.toInt) rfl (by have t1 : 0 ≤ x1.toInt := q_nltI c10; have t2 : x1.toInt ≤ 1100 := q_nltI c14; have t3 : 1080 < x1.toInt := q_nleI c35; omega)); have e3 := q_nltI c116; omega }; omega) (by have t1 : 0 ≤ x1.toInt := q_nltI c10; have t2 : x1.toInt ≤ 1100 := q_nltI c14; have t3 : 1080 < x1.toInt := q_nleI c35; have t4 : (-x1.toInt) ≤ lx109.toInt := by { have e1 : (lx109 : Int32).toInt = lx109.toInt := rfl; have e2 : ((-x1) : Int32).toInt = (-x1.toInt) := (q_negI (x := x1.toInt) rfl (by have t1 : 0 ≤ x1.toInt := q_nltI c10; have t2 : x1.toInt ≤ 1100 := q_nltI c14; have t3 : 1080 < x1.toInt := q_nleI c35; omega)); have e3 := q_nltI c116; omega }; omega)); omega) ⟨(show (lx109 + (-1)).toInt ≤ (-1) ∧ ((-x1.toInt) - 1 ≤ (lx109 + (-1)).toInt ∨ (lx109 + (-1)).toInt = (-1)) from by have t1 : 0 ≤ x1.toInt := q_nltI c10; have t2 : x1.toInt ≤ 1100 := q_nltI c14; have t3 : 1080 < x1.toInt := q_nleI c35; have t4 : (-x1.toInt) ≤ lx109.toInt := by { have e1 : (lx109 : Int32).toInt = lx109.toInt := rfl; have e2 : ((-x1) : Int32).toInt = (-x1.toInt) := (q_negI (x := x1.toInt) rfl (by have t1 : 0 ≤ x1.toInt := q_nltI c10; have t2 : x1.toInt ≤ 1100 := q_nltI c14; have t3 : 1080 < x1.toInt := q_nleI c35; omega)); have e3 := q_nltI c116; omega }; have e : (lx109 + (-1)).toInt = (lx109.toInt + (-1)) := (q_addI (x := lx109.toInt) (y := (-1)) rfl (by decide) (by have t1 : 0 ≤ x1.toInt := q_nltI c10; have t2 : x1.toInt ≤ 1100 := q_nltI c14; have t3 : 1080 < x1.toInt := q_nleI c35; have t4 : (-x1.toInt) ≤ lx109.toInt := by { have e1 : (lx109 : Int32).toInt = lx109.toInt := rfl; have e2 : ((-x1) : Int32).toInt = (-x1.toInt) := (q_negI (x := x1.toInt) rfl (by have t1 : 0 ≤ x1.toInt := q_nltI c10; have t2 : x1.toInt ≤ 1100 := q_nltI c14; have t3 : 1080 < x1.toInt := q_nleI c35; omega)); have e3 := q_nltI c116; omega }; omega) (by have t1 : 0 ≤ x1.toInt := q_nltI c10; have t2 : x1.toInt ≤ 1100 := q_nltI c14; have t3 : 1080 < x1.toInt := q_nleI c35; have t4 : (-x1.toInt) ≤ lx109.toInt := by { have e1 : (lx109 : Int32).toInt = lx109.toInt := rfl; have e2 : ((-x1) : Int32).toInt = (-x1.toInt) := (q_negI (x := x1.toInt) rfl (by have t1 : 0 ≤ x1.toInt := q_nltI c10; have t2 : x1.toInt ≤ 1100 := q_nltI c14; have t3 : 1080 < x1.toInt := q_nleI c35; omega)); have e3 := q_nltI c116; omega }; omega)); omega), (show (lx110 + 1 : Int32).toInt = 2 + 1 * ((-1) - (lx109 + (-1) : Int32).toInt) from by have t1 : 0 ≤ x1.toInt := q_nltI c10; have t2 : x1.toInt ≤ 1100 := q_nltI c14; have t3 : 0 ≤ x2.toInt := q_nltI c18; have t4 : x2.toInt ≤ 3 := q_leI c22; have t5 : 1080 < x1.toInt := q_nleI c35; have t6 : lx91.toInt ≤ 1080 := q_leI c95; have t7 : (-x1.toInt) ≤ lx109.toInt := by { have e1 : (lx109 : Int32).toInt = lx109.toInt := rfl; have e2 : ((-x1) : Int32).toInt = (-x1.toInt) := (q_negI (x := x1.toInt) rfl (by have t1 : 0 ≤ x1.toInt := q_nltI c10; have t2 : x1.toInt ≤ 1100 := q_nltI c14; have t3 : 1080 < x1.toInt := q_nleI c35; omega)); have e3 := q_nltI c116; omega }; have e0 : (lx109 + (-1) : Int32).toInt = (lx109.toInt + (-1)) := (q_addI (x := lx109.toInt) (y := (-1)) rfl (by decide) (by have t1 : 0 ≤ x1.toInt := q_nltI c10; have t2 : x1.toInt ≤ 1100 := q_nltI c14; have t3 : 1080 < x1.toInt := q_nleI c35; have t4 : (-x1.toInt) ≤ lx109.toInt := by { have e1 : (lx109 : Int32).toInt = lx109.toInt := rfl; have e2 : ((-x1) : Int32).toInt = (-x1.toInt) := (q_negI (x := x1.toInt) rfl (by have t1 : 0 ≤ x1.toInt := q_nltI c10; have t2 : x1.toInt ≤ 1100 := q_nltI c14; have t3 : 1080 < x1.toInt := q_nleI c35; omega)); have e3 := q_nltI c116; omega }; omega) (by have t1 : 0 ≤ x1.toInt := q_nltI c10; have t2 : x1.toInt ≤ 1100 := q_nltI c14; have t3 : 1080 < x1.toInt := q_nleI c35; have t4 : (-x1.toInt) ≤ lx109.toInt := by { have e1 : (lx109 : Int32).toInt = lx109.toInt := rfl; have e2 : ((-x1) : Int32).toInt = (-x1.toInt) := (q_negI (x := x1.toInt) rfl (by have t1 : 0 ≤ x1.toInt := q_nltI c10; have t2 : x1.toInt ≤ 1100 := q_nltI c14; have t3 : 1080 < x1.toInt := q_nleI c35; omega)); have e3 := q_nltI c116; omega }; omega)); have e1 : (lx110 + 1 : Int32).toInt = (lx110.toInt + 1) := (q_addI (x := lx110.toInt) (y := 1) rfl (by decide) (by have t1 : 0 ≤ x1.toInt := q_nltI c10; have t2 : x1.toInt ≤ 1100 := q_nltI c14; have t3 : 1080 < x1.toInt := q_nleI c35; have t4 : (-x1.toInt) ≤ lx109.toInt := by { have e1 : (lx109 : Int32).toInt = lx109.toInt := rfl; have e2 : ((-x1) : Int32).toInt = (-x1.toInt) := (q_negI (x := x1.toInt) rfl (by have t1 : 0 ≤ x1.toInt := q_nltI c10; have t2 : x1.toInt ≤ 1100 := q_nltI c14; have t3 : 1080 < x1.toInt := q_nleI c35; omega)); have e3 := q_nltI c116; omega }; omega) (by have t1 : 0 ≤ x1.toInt := q_nltI c10; have t2 : x1.toInt ≤ 1100 := q_nltI c14; have t3 : 1080 < x1.toInt := q_nleI c35; have t4 : (-x1.toInt) ≤ lx109.toInt := by { have e1 : (lx109 : Int32).toInt = lx109.toInt := rfl; have e2 : ((-x1) : Int32).toInt = (-x1.toInt) := (q_negI (x := x1.toInt) rfl (by have t1 : 0 ≤ x1.toInt := q_nltI c10; have t2 : x1.toInt ≤ 1100 := q_nltI c14; have t3 : 1080 < x1.toInt := q_nleI c35; omega)); have e3 := q_nltI c116; omega }; omega)); omega), V, q_lw hl (q_lw1 0 rfl (q_lw1 1 rfl (q_lw1 2 rfl (q_lw1 3 rfl (q_lw1 4 rfl (q_lw1 5 rfl (q_lw1 6 rfl (q_lw1 7 rfl q_lw0)))))))), hF, hO0, hA1, hA2, hA3, hA6, hA7⟩
            ·
              refine lv_aload_n hx hb d_17_29_138 rfl (lv_at hl 2 rfl) ?_
              refine q_get (ci := 15) (j := 6) (v := .ref qA6) C0 V i_FR rfl rfl hO0 (by decide) w_2081 rfl d_17_29_139 ?_
              refine lv_iload hx hb d_17_29_142 (lv_at hl 0 rfl) ?_
              refine q_iald C0 V hA6 (q_ix (x := lx91.toInt) rfl (by have t1 : 1080 < lx91.toInt := q_nleI c95; omega) (by have t1 : 1080 < lx91.toInt := q_nleI c95; omega)) d_17_29_144 ?_
              refine q_ti (v := 0) (by first | rfl | decide | simp [upd, vp_updL, sb_cl0]) ?_
              refine lv_if_ne (tgt := 154) hx hb d_17_29_145 (by decide) (fun c124 => absurd (by decide) c124) (fun c124 => ?_)
              refine lv_iinc (v := lx91 + (-1)) (lv' := [(7, .int (lx91 + (-1))), (6, .int 0), (0, .ref qO0), (1, .long 0), (3, .int 0), (4, .int x1), (5, .int x2)]) hx hb d_17_29_148 hl (k := 0) rfl (rfl) (by decide) rfl (fun ls hl => ?_)
              refine lv_goto (tgt := 130) hx hb d_17_29_151 (by decide) ?_
              exact ih94 ((lx91 + (-1) : Int32)) _ _ _ _ (show ((lx91 + (-1)).toInt - 1080).toNat < (lx91.toInt - 1080).toNat from by have t1 : 1080 < lx91.toInt := q_nleI c95; have e : (lx91 + (-1)).toInt = (lx91.toInt + (-1)) := (q_addI (x := lx91.toInt) (y := (-1)) rfl (by decide) (by have t1 : 1080 < lx91.toInt := q_nleI c95; omega) (by have t1 : 1080 < lx91.toInt := q_nleI c95; omega)); omega) ⟨(show 1080 ≤ (lx91 + (-1)).toInt ∧ (lx91 + (-1)).toInt ≤ 1403 from by have t1 : 1080 < lx91.toInt := q_nleI c95; have e : (lx91 + (-1)).toInt = (lx91.toInt + (-1)) := (q_addI (x := lx91.toInt) (y := (-1)) rfl (by decide) (by have t1 : 1080 < lx91.toInt := q_nleI c95; omega) (by have t1 : 1080 < lx91.toInt := q_nleI c95; omega)); omega), V, q_lw hl (q_lw1 0 rfl (q_lw1 1 rfl (q_lw1 2 rfl (q_lw1 3 rfl (q_lw1 4 rfl (q_lw1 5 rfl (q_lw1 6 rfl q_lw0))))))), hF, hO0, hA1, hA2, hA3, hA6, hA7⟩
        ·
          refine lv_iconst (v := 1) hx hb d_17_29_55 (by decide) ?_
          refine lv_goto (tgt := 71) hx hb d_17_29_56 (by decide) ?_
          refine q_put (ci := 15) (j := 0) (v := .int 1) (ty := .int) C0 V i_FR o_FR n_FR rfl rfl hO0 (by decide) w_2074 rfl rfl rfl rfl (Nat.le_of_ble_eq_true rfl) d_17_29_71 (fun H locs w125 hu126 hO0 V => ?_)
          replace hO0 : w125[kO0]? = some (qO0, .inr (15, [.int 1, .ref qA1, .ref qA2, .ref qA3, .ref qA4, .ref qA5, .ref qA6, .ref qA7, .int 0, .int 0, .int 0, .long 0, .int 52, .int 2047, .long 0, .int (-1074), .long 0, .int 0])) := hO0
          replace hF := q_us hF hu126 (.head _)
          refine lv_aload_n hx hb d_17_29_74 rfl (lv_at hl 0 rfl) ?_
          refine q_get (ci := 15) (j := 0) (v := .int 1) C0 V i_FR rfl rfl hO0 (by decide) w_2074 rfl d_17_29_75 ?_
          refine lv_if_le (tgt := 83) hx hb d_17_29_78 (by decide) (fun c127 => absurd c127 (by decide)) (fun c127 => ?_)
          refine lv_iconst (v := 0) hx hb d_17_29_81 (by decide) ?_
          replace hA1 := (hu126 _ n_A1_O0).trans ((hg4 _ (q_nc n_A1_O0 List.not_mem_nil)).trans (hA1))
          replace hA2 := (hu126 _ n_A2_O0).trans ((hg4 _ (q_nc n_A2_O0 List.not_mem_nil)).trans (hA2))
          replace hA3 := (hu126 _ n_A3_O0).trans ((hg4 _ (q_nc n_A3_O0 List.not_mem_nil)).trans (hA3))
          replace hA6 := (hu126 _ n_A6_O0).trans ((hg4 _ (q_nc n_A6_O0 List.not_mem_nil)).trans (hA6))
          replace hA7 := (hu126 _ n_A7_O0).trans ((hg4 _ (q_nc n_A7_O0 List.not_mem_nil)).trans (hA7))
          exact q_reti C0 V (Or.inr (Or.inr (Or.inr (Or.inr (Or.inr (Or.inr (⟨c10, c14, c18, c22, rfl, hF, hO0, hA1, hA2, hA3, hA6, hA7⟩))))))) d_17_29_82
set_option maxRecDepth 100000 in
set_option maxHeartbeats 4000000 in
theorem c_NM_show_6 (l : Launch) (D : va_G) (g : Nat → ClassId) (ws : va_W) ( qO0 qA1 qA2 qA3 qO4 qO5 qO6 qO7 qO8 qA9 qA10 : Nat) (hO0 : ws[116]? = some (qO0, .inr (12, [.int 0, .ref qA2, .int 0, .ref qA3, .int 0, .ref qO4, .ref qO5, .ref qO6, .ref qO7, .ref qO8, .ref qA9, .ref qA10]))) (hA1 : ws[152]? = some (qA1, .inl (g 0, 1600, .inl (upd (fun _ => 0) 0 48)))) (hA3 : ws[118]? = some (qA3, .inl (g 0, 12200, .inl (fun _ => 0)))) : q_mI l y_NM_show prog_14_method_5_code 4 (.int) 1 0 0 D g [.ref qO0, .ref qA1, .int 1] ws (fun r u => 1 = r ∧ q_un ws u [116, 118] ∧ u[116]? = some (qO0, .inr (12, [.int 0, .ref qA2, .int 0, .ref qA3, .int 1, .ref qO4, .ref qO5, .ref qO6, .ref qO7, .ref qO8, .ref qA9, .ref qA10])) ∧ u[118]? = some (qA3, .inl (g 0, 12200, .inl (upd (fun _ => 0) 0 48)))) := by
  intro sz
  refine q_into (by decide) (Nat.le_of_ble_eq_true rfl) ?_
  intro p e s m below meth c ls hsz C0 V hl
  have hx := C0.1
  have hb := C0.2.1
  have hl : lv_has ls 4 [(0, .ref qO0), (1, .ref qA1), (2, .int 1)] := hl
  have hF : q_un ws ws [116, 118] := q_u0
  refine lv_iconst (v := 0) hx hb d_14_5_0 (by decide) ?_
  refine lv_istore_n (lv' := [(3, .int 0), (0, .ref qO0), (1, .ref qA1), (2, .int 1)]) hx hb d_14_5_1 rfl hl (by decide) rfl (fun ls hl => ?_)
  refine lv_iload_n hx hb d_14_5_2 rfl (lv_at hl 0 rfl) ?_
  refine lv_iload_n hx hb d_14_5_3 rfl (lv_at hl 3 rfl) ?_
  refine lv_icmp_ge (tgt := 22) hx hb d_14_5_4 (by decide) (fun c1 => absurd c1 (by decide)) (fun c1 => ?_)
  refine lv_aload_n hx hb d_14_5_7 rfl (lv_at hl 1 rfl) ?_
  refine q_get (ci := 12) (j := 3) (v := .ref qA3) C0 V i_NM rfl rfl hO0 (by decide) w_2301 rfl d_14_5_8 ?_
  refine lv_iload_n hx hb d_14_5_11 rfl (lv_at hl 0 rfl) ?_
  refine lv_aload_n hx hb d_14_5_12 rfl (lv_at hl 2 rfl) ?_
  refine lv_iload_n hx hb d_14_5_13 rfl (lv_at hl 0 rfl) ?_
  refine q_iald C0 V hA1 (by unfold vp_in; decide) d_14_5_14 ?_
  refine q_ti (v := 48) (by first | rfl | decide | simp [upd, vp_updL, sb_cl0]) ?_
  refine q_iast C0 V hA3 (by unfold vp_in; decide) d_14_5_15 (fun H locs w2 hu3 hA3 V => ?_)
  replace hA3 : w2[118]? = some (qA3, .inl (g 0, 12200, .inl (upd (fun _ => 0) 0 48))) := hA3
  replace hF := q_us hF hu3 (.tail _ (.head _))
  refine lv_iinc (v := 1) (lv' := [(3, .int 1), (0, .ref qO0), (1, .ref qA1), (2, .int 1)]) hx hb d_14_5_16 hl (k := 0) rfl (by decide) (by decide) rfl (fun ls hl => ?_)
  refine lv_goto (tgt := 2) hx hb d_14_5_19 (by decide) ?_
  refine lv_iload_n hx hb d_14_5_2 rfl (lv_at hl 0 rfl) ?_
  refine lv_iload_n hx hb d_14_5_3 rfl (lv_at hl 3 rfl) ?_
  refine lv_icmp_ge (tgt := 22) hx hb d_14_5_4 (by decide) (fun c4 => ?_) (fun c4 => absurd (by decide) c4)
  refine lv_aload_n hx hb d_14_5_22 rfl (lv_at hl 1 rfl) ?_
  refine lv_iload_n hx hb d_14_5_23 rfl (lv_at hl 3 rfl) ?_
  replace hO0 := (hu3 _ (q_pd 116 118 rfl)).trans (hO0)
  refine q_put (ci := 12) (j := 4) (v := .int 1) (ty := .int) C0 V i_NM o_NM n_NM rfl rfl hO0 (by decide) w_2302 rfl rfl rfl rfl (Nat.le_of_ble_eq_true rfl) d_14_5_24 (fun H locs w5 hu6 hO0 V => ?_)
  replace hO0 : w5[116]? = some (qO0, .inr (12, [.int 0, .ref qA2, .int 0, .ref qA3, .int 1, .ref qO4, .ref qO5, .ref qO6, .ref qO7, .ref qO8, .ref qA9, .ref qA10])) := hO0
  replace hF := q_us hF hu6 (.head _)
  refine lv_iload_n hx hb d_14_5_27 rfl (lv_at hl 3 rfl) ?_
  replace hA3 := (hu6 _ (q_pd 118 116 rfl)).trans (hA3)
  exact q_reti C0 V (⟨rfl, hF, hO0, hA3⟩) d_14_5_28
set_option maxRecDepth 100000 in
set_option maxHeartbeats 4000000 in
theorem c_NM_show_7 (l : Launch) (D : va_G) (g : Nat → ClassId) (ws : va_W) ( qO0 qA1 qA2 qA3 qO4 qO5 qO6 qO7 qO8 qA9 qA10 : Nat) (x1 : Int32) (f2 : Nat → Int32) (hO0 : ws[116]? = some (qO0, .inr (12, [.int 0, .ref qA2, .int 0, .ref qA3, .int 0, .ref qO4, .ref qO5, .ref qO6, .ref qO7, .ref qO8, .ref qA9, .ref qA10]))) (hA1 : ws[152]? = some (qA1, .inl (g 0, 1600, .inl f2))) (hA3 : ws[118]? = some (qA3, .inl (g 0, 12200, .inl (fun _ => 0)))) (x1lo : 2 ≤ x1) (x1hi : x1 ≤ 1082) : q_mI l y_NM_show prog_14_method_5_code 4 (.int) 1 0 0 D g [.ref qO0, .ref qA1, .int x1] ws (fun r u => ∃ (ex0 : Nat → Int32), x1 = r ∧ q_un ws u [116, 118] ∧ u[116]? = some (qO0, .inr (12, [.int 0, .ref qA2, .int 0, .ref qA3, .int x1, .ref qO4, .ref qO5, .ref qO6, .ref qO7, .ref qO8, .ref qA9, .ref qA10])) ∧ u[118]? = some (qA3, .inl (g 0, 12200, .inl ex0))) := by
  intro sz
  refine q_into (by decide) (Nat.le_of_ble_eq_true rfl) ?_
  intro p e s m below meth c ls hsz C0 V hl
  have hx := C0.1
  have hb := C0.2.1
  have hl : lv_has ls 4 [(0, .ref qO0), (1, .ref qA1), (2, .int x1)] := hl
  have hF : q_un ws ws [116, 118] := q_u0
  refine lv_iconst (v := 0) hx hb d_14_5_0 (by decide) ?_
  refine lv_istore_n (lv' := [(3, .int 0), (0, .ref qO0), (1, .ref qA1), (2, .int x1)]) hx hb d_14_5_1 rfl hl (by decide) rfl (fun ls hl => ?_)
  refine q_loop (X := Int32 × (Nat → Int32)) (fun z H locs ls w3 => (0 ≤ z.1.toInt ∧ (z.1.toInt ≤ x1.toInt ∨ z.1.toInt = 0)) ∧ q_Wd D g (va_A ws sz) s w3 H locs ∧ lv_has ls 4 [(3, .int z.1), (0, .ref qO0), (1, .ref qA1), (2, .int x1)] ∧ q_un ws w3 [116, 118] ∧ w3[116]? = some (qO0, .inr (12, [.int 0, .ref qA2, .int 0, .ref qA3, .int 0, .ref qO4, .ref qO5, .ref qO6, .ref qO7, .ref qO8, .ref qA9, .ref qA10])) ∧ w3[152]? = some (qA1, .inl (g 0, 1600, .inl f2)) ∧ w3[118]? = some (qA3, .inl (g 0, 12200, .inl z.2))) (fun z => (x1.toInt - z.1.toInt).toNat) ?_ ((0 : Int32), (fun _ => 0 : (Nat → Int32))) _ _ _ ws ⟨⟨(by dsimp only; decide), Or.inr (by dsimp only; decide)⟩, V, hl, hF, hO0, hA1, hA3⟩
  rintro ⟨lx1, lx2⟩ H locs ls w3 ⟨i4, V, hl, hF, hO0, hA1, hA3⟩ ih5
  replace i4 : 0 ≤ lx1.toInt ∧ (lx1.toInt ≤ x1.toInt ∨ lx1.toInt = 0) := i4
  replace hl : lv_has ls 4 [(3, .int lx1), (0, .ref qO0), (1, .ref qA1), (2, .int x1)] := hl
  replace hO0 : w3[116]? = some (qO0, .inr (12, [.int 0, .ref qA2, .int 0, .ref qA3, .int 0, .ref qO4, .ref qO5, .ref qO6, .ref qO7, .ref qO8, .ref qA9, .ref qA10])) := hO0
  replace hA1 : w3[152]? = some (qA1, .inl (g 0, 1600, .inl f2)) := hA1
  replace hA3 : w3[118]? = some (qA3, .inl (g 0, 12200, .inl lx2)) := hA3
  refine lv_iload_n hx hb d_14_5_2 rfl (lv_at hl 0 rfl) ?_
  refine lv_iload_n hx hb d_14_5_3 rfl (lv_at hl 3 rfl) ?_
  refine lv_icmp_ge (tgt := 22) hx hb d_14_5_4 (by decide) (fun c6 => ?_) (fun c6 => ?_)
  ·
    refine lv_aload_n hx hb d_14_5_22 rfl (lv_at hl 1 rfl) ?_
    refine lv_iload_n hx hb d_14_5_23 rfl (lv_at hl 3 rfl) ?_
    refine q_put (ci := 12) (j := 4) (v := .int x1) (ty := .int) C0 V i_NM o_NM n_NM rfl rfl hO0 (by decide) w_2302 rfl rfl rfl rfl (Nat.le_of_ble_eq_true rfl) d_14_5_24 (fun H locs w7 hu8 hO0 V => ?_)
    replace hO0 : w7[116]? = some (qO0, .inr (12, [.int 0, .ref qA2, .int 0, .ref qA3, .int x1, .ref qO4, .ref qO5, .ref qO6, .ref qO7, .ref qO8, .ref qA9, .ref qA10])) := hO0
    replace hF := q_us hF hu8 (.head _)
    refine lv_iload_n hx hb d_14_5_27 rfl (lv_at hl 3 rfl) ?_
    replace hA3 := (hu8 _ (q_pd 118 116 rfl)).trans (hA3)
    exact q_reti C0 V (⟨lx2, rfl, hF, hO0, hA3⟩) d_14_5_28
  ·
    refine lv_aload_n hx hb d_14_5_7 rfl (lv_at hl 1 rfl) ?_
    refine q_get (ci := 12) (j := 3) (v := .ref qA3) C0 V i_NM rfl rfl hO0 (by decide) w_2301 rfl d_14_5_8 ?_
    refine lv_iload_n hx hb d_14_5_11 rfl (lv_at hl 0 rfl) ?_
    refine lv_aload_n hx hb d_14_5_12 rfl (lv_at hl 2 rfl) ?_
    refine lv_iload_n hx hb d_14_5_13 rfl (lv_at hl 0 rfl) ?_
    refine q_iald C0 V hA1 (q_ix (x := lx1.toInt) rfl (by have t1 : 2 ≤ x1.toInt := q_leI x1lo; have t2 : x1.toInt ≤ 1082 := q_leI x1hi; have t3 : lx1.toInt < x1.toInt := q_nleI c6; omega) (by have t1 : 2 ≤ x1.toInt := q_leI x1lo; have t2 : x1.toInt ≤ 1082 := q_leI x1hi; have t3 : lx1.toInt < x1.toInt := q_nleI c6; omega)) d_14_5_14 ?_
    refine q_iast C0 V hA3 (q_ix (x := lx1.toInt) rfl (by have t1 : 2 ≤ x1.toInt := q_leI x1lo; have t2 : x1.toInt ≤ 1082 := q_leI x1hi; have t3 : lx1.toInt < x1.toInt := q_nleI c6; omega) (by have t1 : 2 ≤ x1.toInt := q_leI x1lo; have t2 : x1.toInt ≤ 1082 := q_leI x1hi; have t3 : lx1.toInt < x1.toInt := q_nleI c6; omega)) d_14_5_15 (fun H locs w9 hu10 hA3 V => ?_)
    replace hA3 : w9[118]? = some (qA3, .inl (g 0, 12200, .inl (upd lx2 lx1.toNatClampNeg (f2 lx1.toNatClampNeg)))) := hA3
    replace hF := q_us hF hu10 (.tail _ (.head _))
    refine lv_iinc (v := lx1 + 1) (lv' := [(3, .int (lx1 + 1)), (0, .ref qO0), (1, .ref qA1), (2, .int x1)]) hx hb d_14_5_16 hl (k := 0) rfl (rfl) (by decide) rfl (fun ls hl => ?_)
    refine lv_goto (tgt := 2) hx hb d_14_5_19 (by decide) ?_
    replace hO0 := (hu10 _ (q_pd 116 118 rfl)).trans (hO0)
    replace hA1 := (hu10 _ (q_pd 152 118 rfl)).trans (hA1)
    exact ih5 ((lx1 + 1 : Int32), (upd lx2 lx1.toNatClampNeg (f2 lx1.toNatClampNeg) : Nat → Int32)) _ _ _ _ (show (x1.toInt - (lx1 + 1).toInt).toNat < (x1.toInt - lx1.toInt).toNat from by have t1 : 2 ≤ x1.toInt := q_leI x1lo; have t2 : x1.toInt ≤ 1082 := q_leI x1hi; have t3 : lx1.toInt < x1.toInt := q_nleI c6; have e : (lx1 + 1).toInt = (lx1.toInt + 1) := (q_addI (x := lx1.toInt) (y := 1) rfl (by decide) (by have t1 : 2 ≤ x1.toInt := q_leI x1lo; have t2 : x1.toInt ≤ 1082 := q_leI x1hi; have t3 : lx1.toInt < x1.toInt := q_nleI c6; omega) (by have t1 : 2 ≤ x1.toInt := q_leI x1lo; have t2 : x1.toInt ≤ 1082 := q_leI x1hi; have t3 : lx1.toInt < x1.toInt := q_nleI c6; omega)); omega) ⟨(show 0 ≤ (lx1 + 1).toInt ∧ ((lx1 + 1).toInt ≤ x1.toInt ∨ (lx1 + 1).toInt = 0) from by have t1 : 2 ≤ x1.toInt := q_leI x1lo; have t2 : x1.toInt ≤ 1082 := q_leI x1hi; have t3 : lx1.toInt < x1.toInt := q_nleI c6; have e : (lx1 + 1).toInt = (lx1.toInt + 1) := (q_addI (x := lx1.toInt) (y := 1) rfl (by decide) (by have t1 : 2 ≤ x1.toInt := q_leI x1lo; have t2 : x1.toInt ≤ 1082 := q_leI x1hi; have t3 : lx1.toInt < x1.toInt := q_nleI c6; omega) (by have t1 : 2 ≤ x1.toInt := q_leI x1lo; have t2 : x1.toInt ≤ 1082 := q_leI x1hi; have t3 : lx1.toInt < x1.toInt := q_nleI c6; omega)); omega), V, q_lw hl (q_lw1 0 rfl (q_lw1 1 rfl (q_lw1 2 rfl (q_lw1 3 rfl q_lw0)))), hF, hO0, hA1, hA3⟩
set_option maxRecDepth 100000 in
set_option maxHeartbeats 4000000 in
theorem c_NM_show_8 (l : Launch) (D : va_G) (g : Nat → ClassId) (ws : va_W) ( qO0 qA1 qA2 qA3 qO4 qO5 qO6 qO7 qO8 qA9 qA10 : Nat) (x1 : Int32) (f2 : Nat → Int32) (hO0 : ws[116]? = some (qO0, .inr (12, [.int 0, .ref qA2, .int 0, .ref qA3, .int 0, .ref qO4, .ref qO5, .ref qO6, .ref qO7, .ref qO8, .ref qA9, .ref qA10]))) (hA1 : ws[152]? = some (qA1, .inl (g 0, 1600, .inl f2))) (hA3 : ws[118]? = some (qA3, .inl (g 0, 12200, .inl (fun _ => 0)))) (x1lo : 2 ≤ x1) (x1hi : x1 ≤ 1102) : q_mI l y_NM_show prog_14_method_5_code 4 (.int) 1 0 0 D g [.ref qO0, .ref qA1, .int x1] ws (fun r u => ∃ (ex0 : Nat → Int32), x1 = r ∧ q_un ws u [116, 118] ∧ u[116]? = some (qO0, .inr (12, [.int 0, .ref qA2, .int 0, .ref qA3, .int x1, .ref qO4, .ref qO5, .ref qO6, .ref qO7, .ref qO8, .ref qA9, .ref qA10])) ∧ u[118]? = some (qA3, .inl (g 0, 12200, .inl ex0))) := by
  intro sz
  refine q_into (by decide) (Nat.le_of_ble_eq_true rfl) ?_
  intro p e s m below meth c ls hsz C0 V hl
  have hx := C0.1
  have hb := C0.2.1
  have hl : lv_has ls 4 [(0, .ref qO0), (1, .ref qA1), (2, .int x1)] := hl
  have hF : q_un ws ws [116, 118] := q_u0
  refine lv_iconst (v := 0) hx hb d_14_5_0 (by decide) ?_
  refine lv_istore_n (lv' := [(3, .int 0), (0, .ref qO0), (1, .ref qA1), (2, .int x1)]) hx hb d_14_5_1 rfl hl (by decide) rfl (fun ls hl => ?_)
  refine q_loop (X := Int32 × (Nat → Int32)) (fun z H locs ls w3 => (0 ≤ z.1.toInt ∧ (z.1.toInt ≤ x1.toInt ∨ z.1.toInt = 0)) ∧ q_Wd D g (va_A ws sz) s w3 H locs ∧ lv_has ls 4 [(3, .int z.1), (0, .ref qO0), (1, .ref qA1), (2, .int x1)] ∧ q_un ws w3 [116, 118] ∧ w3[116]? = some (qO0, .inr (12, [.int 0, .ref qA2, .int 0, .ref qA3, .int 0, .ref qO4, .ref qO5, .ref qO6, .ref qO7, .ref qO8, .ref qA9, .ref qA10])) ∧ w3[152]? = some (qA1, .inl (g 0, 1600, .inl f2)) ∧ w3[118]? = some (qA3, .inl (g 0, 12200, .inl z.2))) (fun z => (x1.toInt - z.1.toInt).toNat) ?_ ((0 : Int32), (fun _ => 0 : (Nat → Int32))) _ _ _ ws ⟨⟨(by dsimp only; decide), Or.inr (by dsimp only; decide)⟩, V, hl, hF, hO0, hA1, hA3⟩
  rintro ⟨lx1, lx2⟩ H locs ls w3 ⟨i4, V, hl, hF, hO0, hA1, hA3⟩ ih5
  replace i4 : 0 ≤ lx1.toInt ∧ (lx1.toInt ≤ x1.toInt ∨ lx1.toInt = 0) := i4
  replace hl : lv_has ls 4 [(3, .int lx1), (0, .ref qO0), (1, .ref qA1), (2, .int x1)] := hl
  replace hO0 : w3[116]? = some (qO0, .inr (12, [.int 0, .ref qA2, .int 0, .ref qA3, .int 0, .ref qO4, .ref qO5, .ref qO6, .ref qO7, .ref qO8, .ref qA9, .ref qA10])) := hO0
  replace hA1 : w3[152]? = some (qA1, .inl (g 0, 1600, .inl f2)) := hA1
  replace hA3 : w3[118]? = some (qA3, .inl (g 0, 12200, .inl lx2)) := hA3
  refine lv_iload_n hx hb d_14_5_2 rfl (lv_at hl 0 rfl) ?_
  refine lv_iload_n hx hb d_14_5_3 rfl (lv_at hl 3 rfl) ?_
  refine lv_icmp_ge (tgt := 22) hx hb d_14_5_4 (by decide) (fun c6 => ?_) (fun c6 => ?_)
  ·
    refine lv_aload_n hx hb d_14_5_22 rfl (lv_at hl 1 rfl) ?_
    refine lv_iload_n hx hb d_14_5_23 rfl (lv_at hl 3 rfl) ?_
    refine q_put (ci := 12) (j := 4) (v := .int x1) (ty := .int) C0 V i_NM o_NM n_NM rfl rfl hO0 (by decide) w_2302 rfl rfl rfl rfl (Nat.le_of_ble_eq_true rfl) d_14_5_24 (fun H locs w7 hu8 hO0 V => ?_)
    replace hO0 : w7[116]? = some (qO0, .inr (12, [.int 0, .ref qA2, .int 0, .ref qA3, .int x1, .ref qO4, .ref qO5, .ref qO6, .ref qO7, .ref qO8, .ref qA9, .ref qA10])) := hO0
    replace hF := q_us hF hu8 (.head _)
    refine lv_iload_n hx hb d_14_5_27 rfl (lv_at hl 3 rfl) ?_
    replace hA3 := (hu8 _ (q_pd 118 116 rfl)).trans (hA3)
    exact q_reti C0 V (⟨lx2, rfl, hF, hO0, hA3⟩) d_14_5_28
  ·
    refine lv_aload_n hx hb d_14_5_7 rfl (lv_at hl 1 rfl) ?_
    refine q_get (ci := 12) (j := 3) (v := .ref qA3) C0 V i_NM rfl rfl hO0 (by decide) w_2301 rfl d_14_5_8 ?_
    refine lv_iload_n hx hb d_14_5_11 rfl (lv_at hl 0 rfl) ?_
    refine lv_aload_n hx hb d_14_5_12 rfl (lv_at hl 2 rfl) ?_
    refine lv_iload_n hx hb d_14_5_13 rfl (lv_at hl 0 rfl) ?_
    refine q_iald C0 V hA1 (q_ix (x := lx1.toInt) rfl (by have t1 : 2 ≤ x1.toInt := q_leI x1lo; have t2 : x1.toInt ≤ 1102 := q_leI x1hi; have t3 : lx1.toInt < x1.toInt := q_nleI c6; omega) (by have t1 : 2 ≤ x1.toInt := q_leI x1lo; have t2 : x1.toInt ≤ 1102 := q_leI x1hi; have t3 : lx1.toInt < x1.toInt := q_nleI c6; omega)) d_14_5_14 ?_
    refine q_iast C0 V hA3 (q_ix (x := lx1.toInt) rfl (by have t1 : 2 ≤ x1.toInt := q_leI x1lo; have t2 : x1.toInt ≤ 1102 := q_leI x1hi; have t3 : lx1.toInt < x1.toInt := q_nleI c6; omega) (by have t1 : 2 ≤ x1.toInt := q_leI x1lo; have t2 : x1.toInt ≤ 1102 := q_leI x1hi; have t3 : lx1.toInt < x1.toInt := q_nleI c6; omega)) d_14_5_15 (fun H locs w9 hu10 hA3 V => ?_)
    replace hA3 : w9[118]? = some (qA3, .inl (g 0, 12200, .inl (upd lx2 lx1.toNatClampNeg (f2 lx1.toNatClampNeg)))) := hA3
    replace hF := q_us hF hu10 (.tail _ (.head _))
    refine lv_iinc (v := lx1 + 1) (lv' := [(3, .int (lx1 + 1)), (0, .ref qO0), (1, .ref qA1), (2, .int x1)]) hx hb d_14_5_16 hl (k := 0) rfl (rfl) (by decide) rfl (fun ls hl => ?_)
    refine lv_goto (tgt := 2) hx hb d_14_5_19 (by decide) ?_
    replace hO0 := (hu10 _ (q_pd 116 118 rfl)).trans (hO0)
    replace hA1 := (hu10 _ (q_pd 152 118 rfl)).trans (hA1)
    exact ih5 ((lx1 + 1 : Int32), (upd lx2 lx1.toNatClampNeg (f2 lx1.toNatClampNeg) : Nat → Int32)) _ _ _ _ (show (x1.toInt - (lx1 + 1).toInt).toNat < (x1.toInt - lx1.toInt).toNat from by have t1 : 2 ≤ x1.toInt := q_leI x1lo; have t2 : x1.toInt ≤ 1102 := q_leI x1hi; have t3 : lx1.toInt < x1.toInt := q_nleI c6; have e : (lx1 + 1).toInt = (lx1.toInt + 1) := (q_addI (x := lx1.toInt) (y := 1) rfl (by decide) (by have t1 : 2 ≤ x1.toInt := q_leI x1lo; have t2 : x1.toInt ≤ 1102 := q_leI x1hi; have t3 : lx1.toInt < x1.toInt := q_nleI c6; omega) (by have t1 : 2 ≤ x1.toInt := q_leI x1lo; have t2 : x1.toInt ≤ 1102 := q_leI x1hi; have t3 : lx1.toInt < x1.toInt := q_nleI c6; omega)); omega) ⟨(show 0 ≤ (lx1 + 1).toInt ∧ ((lx1 + 1).toInt ≤ x1.toInt ∨ (lx1 + 1).toInt = 0) from by have t1 : 2 ≤ x1.toInt := q_leI x1lo; have t2 : x1.toInt ≤ 1102 := q_leI x1hi; have t3 : lx1.toInt < x1.toInt := q_nleI c6; have e : (lx1 + 1).toInt = (lx1.toInt + 1) := (q_addI (x := lx1.toInt) (y := 1) rfl (by decide) (by have t1 : 2 ≤ x1.toInt := q_leI x1lo; have t2 : x1.toInt ≤ 1102 := q_leI x1hi; have t3 : lx1.toInt < x1.toInt := q_nleI c6; omega) (by have t1 : 2 ≤ x1.toInt := q_leI x1lo; have t2 : x1.toInt ≤ 1102 := q_leI x1hi; have t3 : lx1.toInt < x1.toInt := q_nleI c6; omega)); omega), V, q_lw hl (q_lw1 0 rfl (q_lw1 1 rfl (q_lw1 2 rfl (q_lw1 3 rfl q_lw0)))), hF, hO0, hA1, hA3⟩
set_option maxRecDepth 100000 in
set_option maxHeartbeats 4000000 in
theorem c_FR_isMore_6 (l : Launch) (D : va_G) (g : Nat → ClassId) (ws : va_W) (kO0 kA3 qO0 qA1 qA2 qA3 qA4 qA5 qA6 qA7 : Nat) (x1 : Int32) (x2 : Int32) (hO0 : ws[kO0]? = some (qO0, .inr (15, [.int 0, .ref qA1, .ref qA2, .ref qA3, .ref qA4, .ref qA5, .ref qA6, .ref qA7, .int 0, .int 0, .int 0, .long 0, .int 23, .int 255, .long 0, .int (-149), .long 0, .int 0]))) (hA3 : ws[kA3]? = some (qA3, .inl (g 0, 1404, .inl (fun _ => 0)))) (x1lo : 0 ≤ x1) (x1hi : x1 ≤ 1080) (x2lo : 0 ≤ x2) (x2hi : x2 ≤ 3) : q_mI l y_FR_isMore prog_17_method_26_code 5 (.boolean) 1 0 0 D g [.ref qO0, .int x1, .int x2] ws (fun r u => 0 = r ∧ ws = u) := by
  intro sz
  refine q_into (by decide) (Nat.le_of_ble_eq_true rfl) ?_
  intro p e s m below meth c ls hsz C0 V hl
  have hx := C0.1
  have hb := C0.2.1
  have hl : lv_has ls 5 [(0, .ref qO0), (1, .int x1), (2, .int x2)] := hl
  refine lv_iconst (v := 0) hx hb d_17_26_0 (by decide) ?_
  refine lv_istore_n (lv' := [(3, .int 0), (0, .ref qO0), (1, .int x1), (2, .int x2)]) hx hb d_17_26_1 rfl hl (by decide) rfl (fun ls hl => ?_)
  refine lv_iconst (v := 0) hx hb d_17_26_2 (by decide) ?_
  refine lv_istore (lv' := [(4, .int 0), (3, .int 0), (0, .ref qO0), (1, .int x1), (2, .int x2)]) hx hb d_17_26_3 hl (by decide) rfl (fun ls hl => ?_)
  refine q_loop (X := Int32) (fun z H locs ls _ => (0 ≤ z.toInt ∧ (z.toInt ≤ x1.toInt ∨ z.toInt = 0)) ∧ q_Wd D g (va_A ws sz) s ws H locs ∧ lv_has ls 5 [(4, .int z), (3, .int 0), (0, .ref qO0), (1, .int x1), (2, .int x2)]) (fun z => (x1.toInt - z.toInt).toNat) ?_ ((0 : Int32)) _ _ _ ws ⟨⟨by decide, Or.inr (by decide)⟩, V, hl⟩
  rintro lx1 H locs ls _ ⟨i3, V, hl⟩ ih4
  replace i3 : 0 ≤ lx1.toInt ∧ (lx1.toInt ≤ x1.toInt ∨ lx1.toInt = 0) := i3
  replace hl : lv_has ls 5 [(4, .int lx1), (3, .int 0), (0, .ref qO0), (1, .int x1), (2, .int x2)] := hl
  refine lv_iload hx hb d_17_26_5 (lv_at hl 0 rfl) ?_
  refine lv_iload_n hx hb d_17_26_7 rfl (lv_at hl 3 rfl) ?_
  refine lv_icmp_ge (tgt := 37) hx hb d_17_26_8 (by decide) (fun c5 => ?_) (fun c5 => ?_)
  ·
    refine lv_iload_n hx hb d_17_26_37 rfl (lv_at hl 1 rfl) ?_
    refine lv_if_eq (tgt := 45) hx hb d_17_26_38 (by decide) (fun c6 => ?_) (fun c6 => absurd (by decide) c6)
    refine lv_iconst (v := 0) hx hb d_17_26_45 (by decide) ?_
    exact q_retz C0 V (rfl) (⟨rfl, rfl⟩) d_17_26_46
  ·
    refine lv_iload_n hx hb d_17_26_11 rfl (lv_at hl 1 rfl) ?_
    refine lv_if_ne (tgt := 25) hx hb d_17_26_12 (by decide) (fun c7 => absurd (by decide) c7) (fun c7 => ?_)
    refine lv_aload_n hx hb d_17_26_15 rfl (lv_at hl 2 rfl) ?_
    refine q_get (ci := 15) (j := 3) (v := .ref qA3) C0 V i_FR rfl rfl hO0 (by decide) w_2078 rfl d_17_26_16 ?_
    refine lv_iload hx hb d_17_26_19 (lv_at hl 0 rfl) ?_
    refine q_iald C0 V hA3 (q_ix (x := lx1.toInt) rfl (by have t1 : 0 ≤ x1.toInt := q_leI x1lo; have t2 : x1.toInt ≤ 1080 := q_leI x1hi; have t3 : lx1.toInt < x1.toInt := q_nleI c5; omega) (by have t1 : 0 ≤ x1.toInt := q_leI x1lo; have t2 : x1.toInt ≤ 1080 := q_leI x1hi; have t3 : lx1.toInt < x1.toInt := q_nleI c5; omega)) d_17_26_21 ?_
    refine q_ti (v := 0) (by first | rfl | decide | simp [upd, vp_updL, sb_cl0]) ?_
    refine lv_if_eq (tgt := 29) hx hb d_17_26_22 (by decide) (fun c8 => ?_) (fun c8 => absurd (by decide) c8)
    refine lv_iconst (v := 0) hx hb d_17_26_29 (by decide) ?_
    refine lv_istore_n (lv' := [(3, .int 0), (4, .int lx1), (0, .ref qO0), (1, .int x1), (2, .int x2)]) hx hb d_17_26_30 rfl hl (by decide) rfl (fun ls hl => ?_)
    refine lv_iinc (v := lx1 + 1) (lv' := [(4, .int (lx1 + 1)), (3, .int 0), (0, .ref qO0), (1, .int x1), (2, .int x2)]) hx hb d_17_26_31 hl (k := 1) rfl (rfl) (by decide) rfl (fun ls hl => ?_)
    refine lv_goto (tgt := 5) hx hb d_17_26_34 (by decide) ?_
    exact ih4 ((lx1 + 1 : Int32)) _ _ _ ws (show (x1.toInt - (lx1 + 1).toInt).toNat < (x1.toInt - lx1.toInt).toNat from by have t1 : 0 ≤ x1.toInt := q_leI x1lo; have t2 : x1.toInt ≤ 1080 := q_leI x1hi; have t3 : lx1.toInt < x1.toInt := q_nleI c5; have e : (lx1 + 1).toInt = (lx1.toInt + 1) := (q_addI (x := lx1.toInt) (y := 1) rfl (by decide) (by have t1 : 0 ≤ x1.toInt := q_leI x1lo; have t2 : x1.toInt ≤ 1080 := q_leI x1hi; have t3 : lx1.toInt < x1.toInt := q_nleI c5; omega) (by have t1 : 0 ≤ x1.toInt := q_leI x1lo; have t2 : x1.toInt ≤ 1080 := q_leI x1hi; have t3 : lx1.toInt < x1.toInt := q_nleI c5; omega)); omega) ⟨(show 0 ≤ (lx1 + 1).toInt ∧ ((lx1 + 1).toInt ≤ x1.toInt ∨ (lx1 + 1).toInt = 0) from by have t1 : 0 ≤ x1.toInt := q_leI x1lo; have t2 : x1.toInt ≤ 1080 := q_leI x1hi; have t3 : lx1.toInt < x1.toInt := q_nleI c5; have e : (lx1 + 1).toInt = (lx1.toInt + 1) := (q_addI (x := lx1.toInt) (y := 1) rfl (by decide) (by have t1 : 0 ≤ x1.toInt := q_leI x1lo; have t2 : x1.toInt ≤ 1080 := q_leI x1hi; have t3 : lx1.toInt < x1.toInt := q_nleI c5; omega) (by have t1 : 0 ≤ x1.toInt := q_leI x1lo; have t2 : x1.toInt ≤ 1080 := q_leI x1hi; have t3 : lx1.toInt < x1.toInt := q_nleI c5; omega)); omega), V, q_lw hl (q_lw1 0 rfl (q_lw1 1 rfl (q_lw1 2 rfl (q_lw1 3 rfl (q_lw1 4 rfl q_lw0)))))⟩
set_option maxRecDepth 100000 in
set_option maxHeartbeats 4000000 in
theorem c_FR_cut_6 (l : Launch) (D : va_G) (g : Nat → ClassId) (ws : va_W) (kO0 kA3 kA6 qO0 qA1 qA2 qA3 qA4 qA5 qA6 qA7 : Nat) (x1 : Int32) (hO0 : ws[kO0]? = some (qO0, .inr (15, [.int 0, .ref qA1, .ref qA2, .ref qA3, .ref qA4, .ref qA5, .ref qA6, .ref qA7, .int 0, .int 0, .int 0, .long 0, .int 23, .int 255, .long 0, .int (-149), .long 0, .int 0]))) (hA3 : ws[kA3]? = some (qA3, .inl (g 0, 1404, .inl (fun _ => 0)))) (hA6 : ws[kA6]? = some (qA6, .inl (g 0, 1404, .inl (fun _ => 0)))) (n_A3_A6 : kA3 ≠ kA6) (x1lo : 0 ≤ x1) (x1hi : x1 ≤ 1080) : q_mV l y_FR_cut prog_17_method_11_code 5 1 0 0 D g [.ref qO0, .int x1, .int 0] ws (fun u => q_un ws u [kA6] ∧ u[kA6]? = some (qA6, .inl (g 0, 1404, .inl (fun _ => 0)))) := by
  intro sz
  refine q_into (by decide) (Nat.le_of_ble_eq_true rfl) ?_
  intro p e s m below meth c ls hsz C0 V hl
  have hx := C0.1
  have hb := C0.2.1
  have hl : lv_has ls 5 [(0, .ref qO0), (1, .int x1), (2, .int 0)] := hl
  have n_O0_A6 := Ne.symm (q_df hA6 hO0)
  have hF : q_un ws ws [kA6] := q_u0
  refine lv_iconst (v := 0) hx hb d_17_11_0 (by decide) ?_
  refine lv_istore_n (lv' := [(3, .int 0), (0, .ref qO0), (1, .int x1), (2, .int 0)]) hx hb d_17_11_1 rfl hl (by decide) rfl (fun ls hl => ?_)
  refine q_loop (X := Int32) (fun z H locs ls w2 => (0 ≤ z.toInt ∧ (z.toInt ≤ 1404 ∨ z.toInt = 0)) ∧ q_Wd D g (va_A ws sz) s w2 H locs ∧ lv_has ls 5 [(3, .int z), (0, .ref qO0), (1, .int x1), (2, .int 0)] ∧ q_un ws w2 [kA6] ∧ w2[kO0]? = some (qO0, .inr (15, [.int 0, .ref qA1, .ref qA2, .ref qA3, .ref qA4, .ref qA5, .ref qA6, .ref qA7, .int 0, .int 0, .int 0, .long 0, .int 23, .int 255, .long 0, .int (-149), .long 0, .int 0])) ∧ w2[kA3]? = some (qA3, .inl (g 0, 1404, .inl (fun _ => 0))) ∧ w2[kA6]? = some (qA6, .inl (g 0, 1404, .inl (fun _ => 0)))) (fun z => (1404 - z.toInt).toNat) ?_ ((0 : Int32)) _ _ _ ws ⟨⟨by decide, Or.inr (by decide)⟩, V, hl, hF, hO0, hA3, hA6⟩
  rintro lx1 H locs ls w2 ⟨i3, V, hl, hF, hO0, hA3, hA6⟩ ih4
  replace i3 : 0 ≤ lx1.toInt ∧ (lx1.toInt ≤ 1404 ∨ lx1.toInt = 0) := i3
  replace hl : lv_has ls 5 [(3, .int lx1), (0, .ref qO0), (1, .int x1), (2, .int 0)] := hl
  replace hO0 : w2[kO0]? = some (qO0, .inr (15, [.int 0, .ref qA1, .ref qA2, .ref qA3, .ref qA4, .ref qA5, .ref qA6, .ref qA7, .int 0, .int 0, .int 0, .long 0, .int 23, .int 255, .long 0, .int (-149), .long 0, .int 0])) := hO0
  replace hA3 : w2[kA3]? = some (qA3, .inl (g 0, 1404, .inl (fun _ => 0))) := hA3
  replace hA6 : w2[kA6]? = some (qA6, .inl (g 0, 1404, .inl (fun _ => 0))) := hA6
  refine lv_iload_n hx hb d_17_11_2 rfl (lv_at hl 0 rfl) ?_
  refine lv_sipush (v := 1404) hx hb d_17_11_3 (by decide) ?_
  refine lv_icmp_ge (tgt := 36) hx hb d_17_11_6 (by decide) (fun c5 => ?_) (fun c5 => ?_)
  ·
    refine lv_iload_n hx hb d_17_11_36 rfl (lv_at hl 2 rfl) ?_
    refine lv_istore_n (lv' := [(3, .int x1), (0, .ref qO0), (1, .int x1), (2, .int 0)]) hx hb d_17_11_37 rfl hl (by decide) rfl (fun ls hl => ?_)
    refine lv_iload_n hx hb d_17_11_38 rfl (lv_at hl 3 rfl) ?_
    refine lv_istore (lv' := [(4, .int 0), (3, .int x1), (0, .ref qO0), (1, .int x1), (2, .int 0)]) hx hb d_17_11_39 hl (by decide) rfl (fun ls hl => ?_)
    refine lv_iload hx hb d_17_11_41 (lv_at hl 0 rfl) ?_
    refine lv_if_eq (tgt := 97) hx hb d_17_11_43 (by decide) (fun c6 => ?_) (fun c6 => absurd (by decide) c6)
    exact q_retv C0 V (⟨hF, hA6⟩) d_17_11_97
  ·
    refine lv_aload_n hx hb d_17_11_9 rfl (lv_at hl 1 rfl) ?_
    refine q_get (ci := 15) (j := 6) (v := .ref qA6) C0 V i_FR rfl rfl hO0 (by decide) w_2081 rfl d_17_11_10 ?_
    refine lv_iload_n hx hb d_17_11_13 rfl (lv_at hl 0 rfl) ?_
    refine lv_iload_n hx hb d_17_11_14 rfl (lv_at hl 0 rfl) ?_
    refine lv_iload_n hx hb d_17_11_15 rfl (lv_at hl 2 rfl) ?_
    refine lv_icmp_ge (tgt := 23) hx hb d_17_11_16 (by decide) (fun c7 => ?_) (fun c7 => ?_)
    ·
      refine lv_aload_n hx hb d_17_11_23 rfl (lv_at hl 1 rfl) ?_
      refine q_get (ci := 15) (j := 3) (v := .ref qA3) C0 V i_FR rfl rfl hO0 (by decide) w_2078 rfl d_17_11_24 ?_
      refine lv_iload_n hx hb d_17_11_27 rfl (lv_at hl 0 rfl) ?_
      refine q_iald C0 V hA3 (q_ix (x := lx1.toInt) rfl (by have t1 : lx1.toInt < 1404 := q_nleI c5; have t2 : x1.toInt ≤ lx1.toInt := q_leI c7; omega) (by have t1 : lx1.toInt < 1404 := q_nleI c5; have t2 : x1.toInt ≤ lx1.toInt := q_leI c7; omega)) d_17_11_28 ?_
      refine q_ti (v := 0) (by first | rfl | decide | simp [upd, vp_updL, sb_cl0]) ?_
      refine q_iast C0 V hA6 (q_ix (x := lx1.toInt) rfl (by have t1 : lx1.toInt < 1404 := q_nleI c5; have t2 : x1.toInt ≤ lx1.toInt := q_leI c7; omega) (by have t1 : lx1.toInt < 1404 := q_nleI c5; have t2 : x1.toInt ≤ lx1.toInt := q_leI c7; omega)) d_17_11_29 (fun H locs w8 hu9 hA6 V => ?_)
      replace hA6 := q_re (y := (qA6, .inl (g 0, 1404, .inl (fun _ => 0)))) hA6 (q_eI q_upd0)
      replace hA6 : w8[kA6]? = some (qA6, .inl (g 0, 1404, .inl (fun _ => 0))) := hA6
      replace hF := q_us hF hu9 (.head _)
      refine lv_iinc (v := lx1 + 1) (lv' := [(3, .int (lx1 + 1)), (0, .ref qO0), (1, .int x1), (2, .int 0)]) hx hb d_17_11_30 hl (k := 0) rfl (rfl) (by decide) rfl (fun ls hl => ?_)
      refine lv_goto (tgt := 2) hx hb d_17_11_33 (by decide) ?_
      replace hO0 := (hu9 _ n_O0_A6).trans (hO0)
      replace hA3 := (hu9 _ n_A3_A6).trans (hA3)
      exact ih4 ((lx1 + 1 : Int32)) _ _ _ _ (show (1404 - (lx1 + 1).toInt).toNat < (1404 - lx1.toInt).toNat from by have t1 : lx1.toInt < 1404 := q_nleI c5; have t2 : x1.toInt ≤ lx1.toInt := q_leI c7; have e : (lx1 + 1).toInt = (lx1.toInt + 1) := (q_addI (x := lx1.toInt) (y := 1) rfl (by decide) (by have t1 : lx1.toInt < 1404 := q_nleI c5; have t2 : x1.toInt ≤ lx1.toInt := q_leI c7; omega) (by have t1 : lx1.toInt < 1404 := q_nleI c5; have t2 : x1.toInt ≤ lx1.toInt := q_leI c7; omega)); omega) ⟨(show 0 ≤ (lx1 + 1).toInt ∧ ((lx1 + 1).toInt ≤ 1404 ∨ (lx1 + 1).toInt = 0) from by have t1 : lx1.toInt < 1404 := q_nleI c5; have t2 : x1.toInt ≤ lx1.toInt := q_leI c7; have e : (lx1 + 1).toInt = (lx1.toInt + 1) := (q_addI (x := lx1.toInt) (y := 1) rfl (by decide) (by have t1 : lx1.toInt < 1404 := q_nleI c5; have t2 : x1.toInt ≤ lx1.toInt := q_leI c7; omega) (by have t1 : lx1.toInt < 1404 := q_nleI c5; have t2 : x1.toInt ≤ lx1.toInt := q_leI c7; omega)); omega), V, q_lw hl (q_lw1 0 rfl (q_lw1 1 rfl (q_lw1 2 rfl (q_lw1 3 rfl q_lw0)))), hF, hO0, hA3, hA6⟩
    ·
      refine lv_iconst (v := 0) hx hb d_17_11_19 (by decide) ?_
      refine lv_goto (tgt := 29) hx hb d_17_11_20 (by decide) ?_
      refine q_iast C0 V hA6 (q_ix (x := lx1.toInt) rfl (by have t1 : 0 ≤ x1.toInt := q_leI x1lo; have t2 : x1.toInt ≤ 1080 := q_leI x1hi; have t3 : lx1.toInt < 1404 := q_nleI c5; have t4 : lx1.toInt < x1.toInt := q_nleI c7; omega) (by have t1 : 0 ≤ x1.toInt := q_leI x1lo; have t2 : x1.toInt ≤ 1080 := q_leI x1hi; have t3 : lx1.toInt < 1404 := q_nleI c5; have t4 : lx1.toInt < x1.toInt := q_nleI c7; omega)) d_17_11_29 (fun H locs w10 hu11 hA6 V => ?_)
      replace hA6 := q_re (y := (qA6, .inl (g 0, 1404, .inl (fun _ => 0)))) hA6 (q_eI q_upd0)
      replace hA6 : w10[kA6]? = some (qA6, .inl (g 0, 1404, .inl (fun _ => 0))) := hA6
      replace hF := q_us hF hu11 (.head _)
      refine lv_iinc (v := lx1 + 1) (lv' := [(3, .int (lx1 + 1)), (0, .ref qO0), (1, .int x1), (2, .int 0)]) hx hb d_17_11_30 hl (k := 0) rfl (rfl) (by decide) rfl (fun ls hl => ?_)
      refine lv_goto (tgt := 2) hx hb d_17_11_33 (by decide) ?_
      replace hO0 := (hu11 _ n_O0_A6).trans (hO0)
      replace hA3 := (hu11 _ n_A3_A6).trans (hA3)
      exact ih4 ((lx1 + 1 : Int32)) _ _ _ _ (show (1404 - (lx1 + 1).toInt).toNat < (1404 - lx1.toInt).toNat from by have t1 : 0 ≤ x1.toInt := q_leI x1lo; have t2 : x1.toInt ≤ 1080 := q_leI x1hi; have t3 : lx1.toInt < 1404 := q_nleI c5; have t4 : lx1.toInt < x1.toInt := q_nleI c7; have e : (lx1 + 1).toInt = (lx1.toInt + 1) := (q_addI (x := lx1.toInt) (y := 1) rfl (by decide) (by have t1 : 0 ≤ x1.toInt := q_leI x1lo; have t2 : x1.toInt ≤ 1080 := q_leI x1hi; have t3 : lx1.toInt < 1404 := q_nleI c5; have t4 : lx1.toInt < x1.toInt := q_nleI c7; omega) (by have t1 : 0 ≤ x1.toInt := q_leI x1lo; have t2 : x1.toInt ≤ 1080 := q_leI x1hi; have t3 : lx1.toInt < 1404 := q_nleI c5; have t4 : lx1.toInt < x1.toInt := q_nleI c7; omega)); omega) ⟨(show 0 ≤ (lx1 + 1).toInt ∧ ((lx1 + 1).toInt ≤ 1404 ∨ (lx1 + 1).toInt = 0) from by have t1 : 0 ≤ x1.toInt := q_leI x1lo; have t2 : x1.toInt ≤ 1080 := q_leI x1hi; have t3 : lx1.toInt < 1404 := q_nleI c5; have t4 : lx1.toInt < x1.toInt := q_nleI c7; have e : (lx1 + 1).toInt = (lx1.toInt + 1) := (q_addI (x := lx1.toInt) (y := 1) rfl (by decide) (by have t1 : 0 ≤ x1.toInt := q_leI x1lo; have t2 : x1.toInt ≤ 1080 := q_leI x1hi; have t3 : lx1.toInt < 1404 := q_nleI c5; have t4 : lx1.toInt < x1.toInt := q_nleI c7; omega) (by have t1 : 0 ≤ x1.toInt := q_leI x1lo; have t2 : x1.toInt ≤ 1080 := q_leI x1hi; have t3 : lx1.toInt < 1404 := q_nleI c5; have t4 : lx1.toInt < x1.toInt := q_nleI c7; omega)); omega), V, q_lw hl (q_lw1 0 rfl (q_lw1 1 rfl (q_lw1 2 rfl (q_lw1 3 rfl q_lw0)))), hF, hO0, hA3, hA6⟩
set_option maxRecDepth 100000 in
set_option maxHeartbeats 4000000 in
theorem c_FR_figureAt_8 (l : Launch) (D : va_G) (g : Nat → ClassId) (ws : va_W) (kO0 kA6 qO0 qA1 qA2 qA3 qA4 qA5 qA6 qA7 : Nat) (x1 : Int32) (hO0 : ws[kO0]? = some (qO0, .inr (15, [.int 0, .ref qA1, .ref qA2, .ref qA3, .ref qA4, .ref qA5, .ref qA6, .ref qA7, .int 2, .int 0, .int 0, .long 0, .int 23, .int 255, .long 0, .int (-149), .long 0, .int 0]))) (hA6 : ws[kA6]? = some (qA6, .inl (g 0, 1404, .inl (fun _ => 0)))) (x1lo : (-1081) ≤ x1) (x1hi : x1 ≤ (-1)) : q_mI l y_FR_figureAt prog_17_method_27_code 3 (.int) 1 0 0 D g [.ref qO0, .int x1] ws (fun r u => 0 = r ∧ ws = u) := by
  intro sz
  refine q_into (by decide) (Nat.le_of_ble_eq_true rfl) ?_
  intro p e s m below meth c ls hsz C0 V hl
  have hx := C0.1
  have hb := C0.2.1
  have hl : lv_has ls 3 [(0, .ref qO0), (1, .int x1)] := hl
  refine lv_iload_n hx hb d_17_27_0 rfl (lv_at hl 1 rfl) ?_
  refine lv_sipush (v := 1080) hx hb d_17_27_1 (by decide) ?_
  refine lv_iadd hx hb d_17_27_4 ?_
  refine lv_istore_n (lv' := [(2, .int (x1 + 1080)), (0, .ref qO0), (1, .int x1)]) hx hb d_17_27_5 rfl hl (by decide) rfl (fun ls hl => ?_)
  refine lv_iload_n hx hb d_17_27_6 rfl (lv_at hl 0 rfl) ?_
  refine lv_if_lt (tgt := 17) hx hb d_17_27_7 (by decide) (fun c1 => ?_) (fun c1 => ?_)
  ·
    refine lv_iconst (v := 0) hx hb d_17_27_17 (by decide) ?_
    refine lv_goto (tgt := 27) hx hb d_17_27_18 (by decide) ?_
    exact q_reti C0 V (⟨rfl, rfl⟩) d_17_27_27
  ·
    refine lv_iload_n hx hb d_17_27_10 rfl (lv_at hl 0 rfl) ?_
    refine lv_sipush (v := 1404) hx hb d_17_27_11 (by decide) ?_
    refine lv_icmp_lt (tgt := 21) hx hb d_17_27_14 (by decide) (fun c2 => ?_) (fun c2 => absurd (q_Ilt (x := (x1.toInt + 1080)) (y := 1404) (q_addI (x := x1.toInt) (y := 1080) rfl (by decide) (by have t1 : (-1081) ≤ x1.toInt := q_leI x1lo; have t2 : x1.toInt ≤ (-1) := q_leI x1hi; have t3 : 0 ≤ (x1.toInt + 1080) := by { have e1 : ((x1 + 1080) : Int32).toInt = (x1.toInt + 1080) := (q_addI (x := x1.toInt) (y := 1080) rfl (by decide) (by have t1 : (-1081) ≤ x1.toInt := q_leI x1lo; have t2 : x1.toInt ≤ (-1) := q_leI x1hi; omega) (by have t1 : (-1081) ≤ x1.toInt := q_leI x1lo; have t2 : x1.toInt ≤ (-1) := q_leI x1hi; omega)); have e2 : (0 : Int32).toInt = 0 := (by decide); have e3 := q_nltI c1; omega }; omega) (by have t1 : (-1081) ≤ x1.toInt := q_leI x1lo; have t2 : x1.toInt ≤ (-1) := q_leI x1hi; have t3 : 0 ≤ (x1.toInt + 1080) := by { have e1 : ((x1 + 1080) : Int32).toInt = (x1.toInt + 1080) := (q_addI (x := x1.toInt) (y := 1080) rfl (by decide) (by have t1 : (-1081) ≤ x1.toInt := q_leI x1lo; have t2 : x1.toInt ≤ (-1) := q_leI x1hi; omega) (by have t1 : (-1081) ≤ x1.toInt := q_leI x1lo; have t2 : x1.toInt ≤ (-1) := q_leI x1hi; omega)); have e2 : (0 : Int32).toInt = 0 := (by decide); have e3 := q_nltI c1; omega }; omega)) (by decide) (by have t1 : (-1081) ≤ x1.toInt := q_leI x1lo; have t2 : x1.toInt ≤ (-1) := q_leI x1hi; have t3 : 0 ≤ (x1.toInt + 1080) := by { have e1 : ((x1 + 1080) : Int32).toInt = (x1.toInt + 1080) := (q_addI (x := x1.toInt) (y := 1080) rfl (by decide) (by have t1 : (-1081) ≤ x1.toInt := q_leI x1lo; have t2 : x1.toInt ≤ (-1) := q_leI x1hi; omega) (by have t1 : (-1081) ≤ x1.toInt := q_leI x1lo; have t2 : x1.toInt ≤ (-1) := q_leI x1hi; omega)); have e2 : (0 : Int32).toInt = 0 := (by decide); have e3 := q_nltI c1; omega }; omega)) c2)
    refine lv_aload_n hx hb d_17_27_21 rfl (lv_at hl 1 rfl) ?_
    refine q_get (ci := 15) (j := 6) (v := .ref qA6) C0 V i_FR rfl rfl hO0 (by decide) w_2081 rfl d_17_27_22 ?_
    refine lv_iload_n hx hb d_17_27_25 rfl (lv_at hl 0 rfl) ?_
    refine q_iald C0 V hA6 (q_ix (x := (x1.toInt + 1080)) (q_addI (x := x1.toInt) (y := 1080) rfl (by decide) (by have t1 : (-1081) ≤ x1.toInt := q_leI x1lo; have t2 : x1.toInt ≤ (-1) := q_leI x1hi; have t3 : 0 ≤ (x1.toInt + 1080) := by { have e1 : ((x1 + 1080) : Int32).toInt = (x1.toInt + 1080) := (q_addI (x := x1.toInt) (y := 1080) rfl (by decide) (by have t1 : (-1081) ≤ x1.toInt := q_leI x1lo; have t2 : x1.toInt ≤ (-1) := q_leI x1hi; omega) (by have t1 : (-1081) ≤ x1.toInt := q_leI x1lo; have t2 : x1.toInt ≤ (-1) := q_leI x1hi; omega)); have e2 : (0 : Int32).toInt = 0 := (by decide); have e3 := q_nltI c1; omega }; omega) (by have t1 : (-1081) ≤ x1.toInt := q_leI x1lo; have t2 : x1.toInt ≤ (-1) := q_leI x1hi; have t3 : 0 ≤ (x1.toInt + 1080) := by { have e1 : ((x1 + 1080) : Int32).toInt = (x1.toInt + 1080) := (q_addI (x := x1.toInt) (y := 1080) rfl (by decide) (by have t1 : (-1081) ≤ x1.toInt := q_leI x1lo; have t2 : x1.toInt ≤ (-1) := q_leI x1hi; omega) (by have t1 : (-1081) ≤ x1.toInt := q_leI x1lo; have t2 : x1.toInt ≤ (-1) := q_leI x1hi; omega)); have e2 : (0 : Int32).toInt = 0 := (by decide); have e3 := q_nltI c1; omega }; omega)) (by have t1 : (-1081) ≤ x1.toInt := q_leI x1lo; have t2 : x1.toInt ≤ (-1) := q_leI x1hi; have t3 : 0 ≤ (x1.toInt + 1080) := by { have e1 : ((x1 + 1080) : Int32).toInt = (x1.toInt + 1080) := (q_addI (x := x1.toInt) (y := 1080) rfl (by decide) (by have t1 : (-1081) ≤ x1.toInt := q_leI x1lo; have t2 : x1.toInt ≤ (-1) := q_leI x1hi; omega) (by have t1 : (-1081) ≤ x1.toInt := q_leI x1lo; have t2 : x1.toInt ≤ (-1) := q_leI x1hi; omega)); have e2 : (0 : Int32).toInt = 0 := (by decide); have e3 := q_nltI c1; omega }; omega) (by have t1 : (-1081) ≤ x1.toInt := q_leI x1lo; have t2 : x1.toInt ≤ (-1) := q_leI x1hi; have t3 : 0 ≤ (x1.toInt + 1080) := by { have e1 : ((x1 + 1080) : Int32).toInt = (x1.toInt + 1080) := (q_addI (x := x1.toInt) (y := 1080) rfl (by decide) (by have t1 : (-1081) ≤ x1.toInt := q_leI x1lo; have t2 : x1.toInt ≤ (-1) := q_leI x1hi; omega) (by have t1 : (-1081) ≤ x1.toInt := q_leI x1lo; have t2 : x1.toInt ≤ (-1) := q_leI x1hi; omega)); have e2 : (0 : Int32).toInt = 0 := (by decide); have e3 := q_nltI c1; omega }; omega)) d_17_27_26 ?_
    refine q_ti (v := 0) (by first | rfl | decide | simp [upd, vp_updL, sb_cl0]) ?_
    exact q_reti C0 V (⟨rfl, rfl⟩) d_17_27_27
set_option maxRecDepth 100000 in
set_option maxHeartbeats 4000000 in
theorem c_FR_figureAt_9 (l : Launch) (D : va_G) (g : Nat → ClassId) (ws : va_W) (kO0 kA6 qO0 qA1 qA2 qA3 qA4 qA5 qA6 qA7 : Nat) (x1 : Int32) (y2 : Int32) (hO0 : ws[kO0]? = some (qO0, .inr (15, [.int 0, .ref qA1, .ref qA2, .ref qA3, .ref qA4, .ref qA5, .ref qA6, .ref qA7, .int y2, .int 0, .int 0, .long 0, .int 23, .int 255, .long 0, .int (-149), .long 0, .int 0]))) (hA6 : ws[kA6]? = some (qA6, .inl (g 0, 1404, .inl (fun _ => 0)))) (x1lo : (-1081) ≤ x1) (x1hi : x1 ≤ (-1)) (y2lo : 2 ≤ y2) (y2hi : y2 ≤ 1082) : q_mI l y_FR_figureAt prog_17_method_27_code 3 (.int) 1 0 0 D g [.ref qO0, .int x1] ws (fun r u => 0 = r ∧ ws = u) := by
  intro sz
  refine q_into (by decide) (Nat.le_of_ble_eq_true rfl) ?_
  intro p e s m below meth c ls hsz C0 V hl
  have hx := C0.1
  have hb := C0.2.1
  have hl : lv_has ls 3 [(0, .ref qO0), (1, .int x1)] := hl
  refine lv_iload_n hx hb d_17_27_0 rfl (lv_at hl 1 rfl) ?_
  refine lv_sipush (v := 1080) hx hb d_17_27_1 (by decide) ?_
  refine lv_iadd hx hb d_17_27_4 ?_
  refine lv_istore_n (lv' := [(2, .int (x1 + 1080)), (0, .ref qO0), (1, .int x1)]) hx hb d_17_27_5 rfl hl (by decide) rfl (fun ls hl => ?_)
  refine lv_iload_n hx hb d_17_27_6 rfl (lv_at hl 0 rfl) ?_
  refine lv_if_lt (tgt := 17) hx hb d_17_27_7 (by decide) (fun c1 => ?_) (fun c1 => ?_)
  ·
    refine lv_iconst (v := 0) hx hb d_17_27_17 (by decide) ?_
    refine lv_goto (tgt := 27) hx hb d_17_27_18 (by decide) ?_
    exact q_reti C0 V (⟨rfl, rfl⟩) d_17_27_27
  ·
    refine lv_iload_n hx hb d_17_27_10 rfl (lv_at hl 0 rfl) ?_
    refine lv_sipush (v := 1404) hx hb d_17_27_11 (by decide) ?_
    refine lv_icmp_lt (tgt := 21) hx hb d_17_27_14 (by decide) (fun c2 => ?_) (fun c2 => absurd (q_Ilt (x := (x1.toInt + 1080)) (y := 1404) (q_addI (x := x1.toInt) (y := 1080) rfl (by decide) (by have t1 : (-1081) ≤ x1.toInt := q_leI x1lo; have t2 : x1.toInt ≤ (-1) := q_leI x1hi; have t3 : 0 ≤ (x1.toInt + 1080) := by { have e1 : ((x1 + 1080) : Int32).toInt = (x1.toInt + 1080) := (q_addI (x := x1.toInt) (y := 1080) rfl (by decide) (by have t1 : (-1081) ≤ x1.toInt := q_leI x1lo; have t2 : x1.toInt ≤ (-1) := q_leI x1hi; omega) (by have t1 : (-1081) ≤ x1.toInt := q_leI x1lo; have t2 : x1.toInt ≤ (-1) := q_leI x1hi; omega)); have e2 : (0 : Int32).toInt = 0 := (by decide); have e3 := q_nltI c1; omega }; omega) (by have t1 : (-1081) ≤ x1.toInt := q_leI x1lo; have t2 : x1.toInt ≤ (-1) := q_leI x1hi; have t3 : 0 ≤ (x1.toInt + 1080) := by { have e1 : ((x1 + 1080) : Int32).toInt = (x1.toInt + 1080) := (q_addI (x := x1.toInt) (y := 1080) rfl (by decide) (by have t1 : (-1081) ≤ x1.toInt := q_leI x1lo; have t2 : x1.toInt ≤ (-1) := q_leI x1hi; omega) (by have t1 : (-1081) ≤ x1.toInt := q_leI x1lo; have t2 : x1.toInt ≤ (-1) := q_leI x1hi; omega)); have e2 : (0 : Int32).toInt = 0 := (by decide); have e3 := q_nltI c1; omega }; omega)) (by decide) (by have t1 : (-1081) ≤ x1.toInt := q_leI x1lo; have t2 : x1.toInt ≤ (-1) := q_leI x1hi; have t3 : 0 ≤ (x1.toInt + 1080) := by { have e1 : ((x1 + 1080) : Int32).toInt = (x1.toInt + 1080) := (q_addI (x := x1.toInt) (y := 1080) rfl (by decide) (by have t1 : (-1081) ≤ x1.toInt := q_leI x1lo; have t2 : x1.toInt ≤ (-1) := q_leI x1hi; omega) (by have t1 : (-1081) ≤ x1.toInt := q_leI x1lo; have t2 : x1.toInt ≤ (-1) := q_leI x1hi; omega)); have e2 : (0 : Int32).toInt = 0 := (by decide); have e3 := q_nltI c1; omega }; omega)) c2)
    refine lv_aload_n hx hb d_17_27_21 rfl (lv_at hl 1 rfl) ?_
    refine q_get (ci := 15) (j := 6) (v := .ref qA6) C0 V i_FR rfl rfl hO0 (by decide) w_2081 rfl d_17_27_22 ?_
    refine lv_iload_n hx hb d_17_27_25 rfl (lv_at hl 0 rfl) ?_
    refine q_iald C0 V hA6 (q_ix (x := (x1.toInt + 1080)) (q_addI (x := x1.toInt) (y := 1080) rfl (by decide) (by have t1 : (-1081) ≤ x1.toInt := q_leI x1lo; have t2 : x1.toInt ≤ (-1) := q_leI x1hi; have t3 : 0 ≤ (x1.toInt + 1080) := by { have e1 : ((x1 + 1080) : Int32).toInt = (x1.toInt + 1080) := (q_addI (x := x1.toInt) (y := 1080) rfl (by decide) (by have t1 : (-1081) ≤ x1.toInt := q_leI x1lo; have t2 : x1.toInt ≤ (-1) := q_leI x1hi; omega) (by have t1 : (-1081) ≤ x1.toInt := q_leI x1lo; have t2 : x1.toInt ≤ (-1) := q_leI x1hi; omega)); have e2 : (0 : Int32).toInt = 0 := (by decide); have e3 := q_nltI c1; omega }; omega) (by have t1 : (-1081) ≤ x1.toInt := q_leI x1lo; have t2 : x1.toInt ≤ (-1) := q_leI x1hi; have t3 : 0 ≤ (x1.toInt + 1080) := by { have e1 : ((x1 + 1080) : Int32).toInt = (x1.toInt + 1080) := (q_addI (x := x1.toInt) (y := 1080) rfl (by decide) (by have t1 : (-1081) ≤ x1.toInt := q_leI x1lo; have t2 : x1.toInt ≤ (-1) := q_leI x1hi; omega) (by have t1 : (-1081) ≤ x1.toInt := q_leI x1lo; have t2 : x1.toInt ≤ (-1) := q_leI x1hi; omega)); have e2 : (0 : Int32).toInt = 0 := (by decide); have e3 := q_nltI c1; omega }; omega)) (by have t1 : (-1081) ≤ x1.toInt := q_leI x1lo; have t2 : x1.toInt ≤ (-1) := q_leI x1hi; have t3 : 0 ≤ (x1.toInt + 1080) := by { have e1 : ((x1 + 1080) : Int32).toInt = (x1.toInt + 1080) := (q_addI (x := x1.toInt) (y := 1080) rfl (by decide) (by have t1 : (-1081) ≤ x1.toInt := q_leI x1lo; have t2 : x1.toInt ≤ (-1) := q_leI x1hi; omega) (by have t1 : (-1081) ≤ x1.toInt := q_leI x1lo; have t2 : x1.toInt ≤ (-1) := q_leI x1hi; omega)); have e2 : (0 : Int32).toInt = 0 := (by decide); have e3 := q_nltI c1; omega }; omega) (by have t1 : (-1081) ≤ x1.toInt := q_leI x1lo; have t2 : x1.toInt ≤ (-1) := q_leI x1hi; have t3 : 0 ≤ (x1.toInt + 1080) := by { have e1 : ((x1 + 1080) : Int32).toInt = (x1.toInt + 1080) := (q_addI (x := x1.toInt) (y := 1080) rfl (by decide) (by have t1 : (-1081) ≤ x1.toInt := q_leI x1lo; have t2 : x1.toInt ≤ (-1) := q_leI x1hi; omega) (by have t1 : (-1081) ≤ x1.toInt := q_leI x1lo; have t2 : x1.toInt ≤ (-1) := q_leI x1hi; omega)); have e2 : (0 : Int32).toInt = 0 := (by decide); have e3 := q_nltI c1; omega }; omega)) d_17_27_26 ?_
    refine q_ti (v := 0) (by first | rfl | decide | simp [upd, vp_updL, sb_cl0]) ?_
    exact q_reti C0 V (⟨rfl, rfl⟩) d_17_27_27
set_option maxRecDepth 100000 in
set_option maxHeartbeats 4000000 in
theorem c_FR_add_16 (l : Launch) (D : va_G) (g : Nat → ClassId) (ws : va_W) (kO0 kA7 qO0 qA1 qA2 qA3 qA4 qA5 qA6 qA7 : Nat) (y1 : Int32) (hO0 : ws[kO0]? = some (qO0, .inr (15, [.int 0, .ref qA1, .ref qA2, .ref qA3, .ref qA4, .ref qA5, .ref qA6, .ref qA7, .int y1, .int 0, .int 0, .long 0, .int 23, .int 255, .long 0, .int (-149), .long 0, .int 0]))) (hA7 : ws[kA7]? = some (qA7, .inl (g 0, 1600, .inl (upd (upd (fun _ => 0) 0 48) 1 46)))) (y1lo : 2 ≤ y1) (y1hi : y1 ≤ 1082) : q_mV l y_FR_add prog_17_method_16_code 2 1 0 0 D g [.ref qO0, .int 48] ws (fun u => q_un ws u [kO0, kA7] ∧ u[kO0]? = some (qO0, .inr (15, [.int 0, .ref qA1, .ref qA2, .ref qA3, .ref qA4, .ref qA5, .ref qA6, .ref qA7, .int (y1 + 1), .int 0, .int 0, .long 0, .int 23, .int 255, .long 0, .int (-149), .long 0, .int 0])) ∧ u[kA7]? = some (qA7, .inl (g 0, 1600, .inl (upd (upd (upd (fun _ => 0) 0 48) 1 46) y1.toNatClampNeg 48)))) := by
  intro sz
  refine q_into (by decide) (Nat.le_of_ble_eq_true rfl) ?_
  intro p e s m below meth c ls hsz C0 V hl
  have hx := C0.1
  have hb := C0.2.1
  have hl : lv_has ls 2 [(0, .ref qO0), (1, .int 48)] := hl
  have n_A7_O0 := q_df hA7 hO0
  have n_O0_A7 := Ne.symm (q_df hA7 hO0)
  have hF : q_un ws ws [kO0, kA7] := q_u0
  refine lv_aload_n hx hb d_17_16_0 rfl (lv_at hl 0 rfl) ?_
  refine q_get (ci := 15) (j := 7) (v := .ref qA7) C0 V i_FR rfl rfl hO0 (by decide) w_2082 rfl d_17_16_1 ?_
  refine lv_aload_n hx hb d_17_16_4 rfl (lv_at hl 0 rfl) ?_
  refine q_get (ci := 15) (j := 8) (v := .int y1) C0 V i_FR rfl rfl hO0 (by decide) w_2084 rfl d_17_16_5 ?_
  refine lv_iload_n hx hb d_17_16_8 rfl (lv_at hl 1 rfl) ?_
  refine q_iast C0 V hA7 (q_ix (x := y1.toInt) rfl (by have t1 : 2 ≤ y1.toInt := q_leI y1lo; have t2 : y1.toInt ≤ 1082 := q_leI y1hi; omega) (by have t1 : 2 ≤ y1.toInt := q_leI y1lo; have t2 : y1.toInt ≤ 1082 := q_leI y1hi; omega)) d_17_16_9 (fun H locs w1 hu2 hA7 V => ?_)
  replace hA7 : w1[kA7]? = some (qA7, .inl (g 0, 1600, .inl (upd (upd (upd (fun _ => 0) 0 48) 1 46) y1.toNatClampNeg 48))) := hA7
  replace hF := q_us hF hu2 (.tail _ (.head _))
  refine lv_aload_n hx hb d_17_16_10 rfl (lv_at hl 0 rfl) ?_
  refine lv_dup hx hb d_17_16_11 rfl ?_
  replace hO0 := (hu2 _ n_O0_A7).trans (hO0)
  refine q_get (ci := 15) (j := 8) (v := .int y1) C0 V i_FR rfl rfl hO0 (by decide) w_2084 rfl d_17_16_12 ?_
  refine lv_iconst (v := 1) hx hb d_17_16_15 (by decide) ?_
  refine lv_iadd hx hb d_17_16_16 ?_
  refine q_put (ci := 15) (j := 8) (v := .int (y1 + 1)) (ty := .int) C0 V i_FR o_FR n_FR rfl rfl hO0 (by decide) w_2084 rfl rfl rfl rfl (Nat.le_of_ble_eq_true rfl) d_17_16_17 (fun H locs w3 hu4 hO0 V => ?_)
  replace hO0 : w3[kO0]? = some (qO0, .inr (15, [.int 0, .ref qA1, .ref qA2, .ref qA3, .ref qA4, .ref qA5, .ref qA6, .ref qA7, .int (y1 + 1), .int 0, .int 0, .long 0, .int 23, .int 255, .long 0, .int (-149), .long 0, .int 0])) := hO0
  replace hF := q_us hF hu4 (.head _)
  replace hA7 := (hu4 _ n_A7_O0).trans (hA7)
  exact q_retv C0 V (⟨hF, hO0, hA7⟩) d_17_16_20
set_option maxRecDepth 100000 in
set_option maxHeartbeats 4000000 in
theorem c_FR_add_17 (l : Launch) (D : va_G) (g : Nat → ClassId) (ws : va_W) (kO0 kA7 qO0 qA1 qA2 qA3 qA4 qA5 qA6 qA7 : Nat) (y1 : Int32) (f3 : Nat → Int32) (hO0 : ws[kO0]? = some (qO0, .inr (15, [.int 0, .ref qA1, .ref qA2, .ref qA3, .ref qA4, .ref qA5, .ref qA6, .ref qA7, .int y1, .int 0, .int 0, .long 0, .int 23, .int 255, .long 0, .int (-149), .long 0, .int 0]))) (hA7 : ws[kA7]? = some (qA7, .inl (g 0, 1600, .inl f3))) (y1lo : 2 ≤ y1) (y1hi : y1 ≤ 1082) : q_mV l y_FR_add prog_17_method_16_code 2 1 0 0 D g [.ref qO0, .int 48] ws (fun u => q_un ws u [kO0, kA7] ∧ u[kO0]? = some (qO0, .inr (15, [.int 0, .ref qA1, .ref qA2, .ref qA3, .ref qA4, .ref qA5, .ref qA6, .ref qA7, .int (y1 + 1), .int 0, .int 0, .long 0, .int 23, .int 255, .long 0, .int (-149), .long 0, .int 0])) ∧ u[kA7]? = some (qA7, .inl (g 0, 1600, .inl (upd f3 y1.toNatClampNeg 48)))) := by
  intro sz
  refine q_into (by decide) (Nat.le_of_ble_eq_true rfl) ?_
  intro p e s m below meth c ls hsz C0 V hl
  have hx := C0.1
  have hb := C0.2.1
  have hl : lv_has ls 2 [(0, .ref qO0), (1, .int 48)] := hl
  have n_A7_O0 := q_df hA7 hO0
  have n_O0_A7 := Ne.symm (q_df hA7 hO0)
  have hF : q_un ws ws [kO0, kA7] := q_u0
  refine lv_aload_n hx hb d_17_16_0 rfl (lv_at hl 0 rfl) ?_
  refine q_get (ci := 15) (j := 7) (v := .ref qA7) C0 V i_FR rfl rfl hO0 (by decide) w_2082 rfl d_17_16_1 ?_
  refine lv_aload_n hx hb d_17_16_4 rfl (lv_at hl 0 rfl) ?_
  refine q_get (ci := 15) (j := 8) (v := .int y1) C0 V i_FR rfl rfl hO0 (by decide) w_2084 rfl d_17_16_5 ?_
  refine lv_iload_n hx hb d_17_16_8 rfl (lv_at hl 1 rfl) ?_
  refine q_iast C0 V hA7 (q_ix (x := y1.toInt) rfl (by have t1 : 2 ≤ y1.toInt := q_leI y1lo; have t2 : y1.toInt ≤ 1082 := q_leI y1hi; omega) (by have t1 : 2 ≤ y1.toInt := q_leI y1lo; have t2 : y1.toInt ≤ 1082 := q_leI y1hi; omega)) d_17_16_9 (fun H locs w1 hu2 hA7 V => ?_)
  replace hA7 : w1[kA7]? = some (qA7, .inl (g 0, 1600, .inl (upd f3 y1.toNatClampNeg 48))) := hA7
  replace hF := q_us hF hu2 (.tail _ (.head _))
  refine lv_aload_n hx hb d_17_16_10 rfl (lv_at hl 0 rfl) ?_
  refine lv_dup hx hb d_17_16_11 rfl ?_
  replace hO0 := (hu2 _ n_O0_A7).trans (hO0)
  refine q_get (ci := 15) (j := 8) (v := .int y1) C0 V i_FR rfl rfl hO0 (by decide) w_2084 rfl d_17_16_12 ?_
  refine lv_iconst (v := 1) hx hb d_17_16_15 (by decide) ?_
  refine lv_iadd hx hb d_17_16_16 ?_
  refine q_put (ci := 15) (j := 8) (v := .int (y1 + 1)) (ty := .int) C0 V i_FR o_FR n_FR rfl rfl hO0 (by decide) w_2084 rfl rfl rfl rfl (Nat.le_of_ble_eq_true rfl) d_17_16_17 (fun H locs w3 hu4 hO0 V => ?_)
  replace hO0 : w3[kO0]? = some (qO0, .inr (15, [.int 0, .ref qA1, .ref qA2, .ref qA3, .ref qA4, .ref qA5, .ref qA6, .ref qA7, .int (y1 + 1), .int 0, .int 0, .long 0, .int 23, .int 255, .long 0, .int (-149), .long 0, .int 0])) := hO0
  replace hF := q_us hF hu4 (.head _)
  replace hA7 := (hu4 _ n_A7_O0).trans (hA7)
  exact q_retv C0 V (⟨hF, hO0, hA7⟩) d_17_16_20
set_option maxRecDepth 100000 in
set_option maxHeartbeats 4000000 in
theorem c_FR_figureAt_10 (l : Launch) (D : va_G) (g : Nat → ClassId) (ws : va_W) (kO0 kA6 qO0 qA1 qA2 qA3 qA4 qA5 qA6 qA7 : Nat) (x1 : Int32) (y2 : Int32) (hO0 : ws[kO0]? = some (qO0, .inr (15, [.int 0, .ref qA1, .ref qA2, .ref qA3, .ref qA4, .ref qA5, .ref qA6, .ref qA7, .int y2, .int 0, .int 0, .long 0, .int 23, .int 255, .long 0, .int (-149), .long 0, .int 0]))) (hA6 : ws[kA6]? = some (qA6, .inl (g 0, 1404, .inl (fun _ => 0)))) (x1lo : (-1101) ≤ x1) (x1hi : x1 ≤ (-1)) (y2lo : 2 ≤ y2) (y2hi : y2 ≤ 1102) : q_mI l y_FR_figureAt prog_17_method_27_code 3 (.int) 1 0 0 D g [.ref qO0, .int x1] ws (fun r u => 0 = r ∧ ws = u) := by
  intro sz
  refine q_into (by decide) (Nat.le_of_ble_eq_true rfl) ?_
  intro p e s m below meth c ls hsz C0 V hl
  have hx := C0.1
  have hb := C0.2.1
  have hl : lv_has ls 3 [(0, .ref qO0), (1, .int x1)] := hl
  refine lv_iload_n hx hb d_17_27_0 rfl (lv_at hl 1 rfl) ?_
  refine lv_sipush (v := 1080) hx hb d_17_27_1 (by decide) ?_
  refine lv_iadd hx hb d_17_27_4 ?_
  refine lv_istore_n (lv' := [(2, .int (x1 + 1080)), (0, .ref qO0), (1, .int x1)]) hx hb d_17_27_5 rfl hl (by decide) rfl (fun ls hl => ?_)
  refine lv_iload_n hx hb d_17_27_6 rfl (lv_at hl 0 rfl) ?_
  refine lv_if_lt (tgt := 17) hx hb d_17_27_7 (by decide) (fun c1 => ?_) (fun c1 => ?_)
  ·
    refine lv_iconst (v := 0) hx hb d_17_27_17 (by decide) ?_
    refine lv_goto (tgt := 27) hx hb d_17_27_18 (by decide) ?_
    exact q_reti C0 V (⟨rfl, rfl⟩) d_17_27_27
  ·
    refine lv_iload_n hx hb d_17_27_10 rfl (lv_at hl 0 rfl) ?_
    refine lv_sipush (v := 1404) hx hb d_17_27_11 (by decide) ?_
    refine lv_icmp_lt (tgt := 21) hx hb d_17_27_14 (by decide) (fun c2 => ?_) (fun c2 => absurd (q_Ilt (x := (x1.toInt + 1080)) (y := 1404) (q_addI (x := x1.toInt) (y := 1080) rfl (by decide) (by have t1 : (-1101) ≤ x1.toInt := q_leI x1lo; have t2 : x1.toInt ≤ (-1) := q_leI x1hi; have t3 : 0 ≤ (x1.toInt + 1080) := by { have e1 : ((x1 + 1080) : Int32).toInt = (x1.toInt + 1080) := (q_addI (x := x1.toInt) (y := 1080) rfl (by decide) (by have t1 : (-1101) ≤ x1.toInt := q_leI x1lo; have t2 : x1.toInt ≤ (-1) := q_leI x1hi; omega) (by have t1 : (-1101) ≤ x1.toInt := q_leI x1lo; have t2 : x1.toInt ≤ (-1) := q_leI x1hi; omega)); have e2 : (0 : Int32).toInt = 0 := (by decide); have e3 := q_nltI c1; omega }; omega) (by have t1 : (-1101) ≤ x1.toInt := q_leI x1lo; have t2 : x1.toInt ≤ (-1) := q_leI x1hi; have t3 : 0 ≤ (x1.toInt + 1080) := by { have e1 : ((x1 + 1080) : Int32).toInt = (x1.toInt + 1080) := (q_addI (x := x1.toInt) (y := 1080) rfl (by decide) (by have t1 : (-1101) ≤ x1.toInt := q_leI x1lo; have t2 : x1.toInt ≤ (-1) := q_leI x1hi; omega) (by have t1 : (-1101) ≤ x1.toInt := q_leI x1lo; have t2 : x1.toInt ≤ (-1) := q_leI x1hi; omega)); have e2 : (0 : Int32).toInt = 0 := (by decide); have e3 := q_nltI c1; omega }; omega)) (by decide) (by have t1 : (-1101) ≤ x1.toInt := q_leI x1lo; have t2 : x1.toInt ≤ (-1) := q_leI x1hi; have t3 : 0 ≤ (x1.toInt + 1080) := by { have e1 : ((x1 + 1080) : Int32).toInt = (x1.toInt + 1080) := (q_addI (x := x1.toInt) (y := 1080) rfl (by decide) (by have t1 : (-1101) ≤ x1.toInt := q_leI x1lo; have t2 : x1.toInt ≤ (-1) := q_leI x1hi; omega) (by have t1 : (-1101) ≤ x1.toInt := q_leI x1lo; have t2 : x1.toInt ≤ (-1) := q_leI x1hi; omega)); have e2 : (0 : Int32).toInt = 0 := (by decide); have e3 := q_nltI c1; omega }; omega)) c2)
    refine lv_aload_n hx hb d_17_27_21 rfl (lv_at hl 1 rfl) ?_
    refine q_get (ci := 15) (j := 6) (v := .ref qA6) C0 V i_FR rfl rfl hO0 (by decide) w_2081 rfl d_17_27_22 ?_
    refine lv_iload_n hx hb d_17_27_25 rfl (lv_at hl 0 rfl) ?_
    refine q_iald C0 V hA6 (q_ix (x := (x1.toInt + 1080)) (q_addI (x := x1.toInt) (y := 1080) rfl (by decide) (by have t1 : (-1101) ≤ x1.toInt := q_leI x1lo; have t2 : x1.toInt ≤ (-1) := q_leI x1hi; have t3 : 0 ≤ (x1.toInt + 1080) := by { have e1 : ((x1 + 1080) : Int32).toInt = (x1.toInt + 1080) := (q_addI (x := x1.toInt) (y := 1080) rfl (by decide) (by have t1 : (-1101) ≤ x1.toInt := q_leI x1lo; have t2 : x1.toInt ≤ (-1) := q_leI x1hi; omega) (by have t1 : (-1101) ≤ x1.toInt := q_leI x1lo; have t2 : x1.toInt ≤ (-1) := q_leI x1hi; omega)); have e2 : (0 : Int32).toInt = 0 := (by decide); have e3 := q_nltI c1; omega }; omega) (by have t1 : (-1101) ≤ x1.toInt := q_leI x1lo; have t2 : x1.toInt ≤ (-1) := q_leI x1hi; have t3 : 0 ≤ (x1.toInt + 1080) := by { have e1 : ((x1 + 1080) : Int32).toInt = (x1.toInt + 1080) := (q_addI (x := x1.toInt) (y := 1080) rfl (by decide) (by have t1 : (-1101) ≤ x1.toInt := q_leI x1lo; have t2 : x1.toInt ≤ (-1) := q_leI x1hi; omega) (by have t1 : (-1101) ≤ x1.toInt := q_leI x1lo; have t2 : x1.toInt ≤ (-1) := q_leI x1hi; omega)); have e2 : (0 : Int32).toInt = 0 := (by decide); have e3 := q_nltI c1; omega }; omega)) (by have t1 : (-1101) ≤ x1.toInt := q_leI x1lo; have t2 : x1.toInt ≤ (-1) := q_leI x1hi; have t3 : 0 ≤ (x1.toInt + 1080) := by { have e1 : ((x1 + 1080) : Int32).toInt = (x1.toInt + 1080) := (q_addI (x := x1.toInt) (y := 1080) rfl (by decide) (by have t1 : (-1101) ≤ x1.toInt := q_leI x1lo; have t2 : x1.toInt ≤ (-1) := q_leI x1hi; omega) (by have t1 : (-1101) ≤ x1.toInt := q_leI x1lo; have t2 : x1.toInt ≤ (-1) := q_leI x1hi; omega)); have e2 : (0 : Int32).toInt = 0 := (by decide); have e3 := q_nltI c1; omega }; omega) (by have t1 : (-1101) ≤ x1.toInt := q_leI x1lo; have t2 : x1.toInt ≤ (-1) := q_leI x1hi; have t3 : 0 ≤ (x1.toInt + 1080) := by { have e1 : ((x1 + 1080) : Int32).toInt = (x1.toInt + 1080) := (q_addI (x := x1.toInt) (y := 1080) rfl (by decide) (by have t1 : (-1101) ≤ x1.toInt := q_leI x1lo; have t2 : x1.toInt ≤ (-1) := q_leI x1hi; omega) (by have t1 : (-1101) ≤ x1.toInt := q_leI x1lo; have t2 : x1.toInt ≤ (-1) := q_leI x1hi; omega)); have e2 : (0 : Int32).toInt = 0 := (by decide); have e3 := q_nltI c1; omega }; omega)) d_17_27_26 ?_
    refine q_ti (v := 0) (by first | rfl | decide | simp [upd, vp_updL, sb_cl0]) ?_
    exact q_reti C0 V (⟨rfl, rfl⟩) d_17_27_27
set_option maxRecDepth 100000 in
set_option maxHeartbeats 4000000 in
theorem c_FR_add_18 (l : Launch) (D : va_G) (g : Nat → ClassId) (ws : va_W) (kO0 kA7 qO0 qA1 qA2 qA3 qA4 qA5 qA6 qA7 : Nat) (y1 : Int32) (f3 : Nat → Int32) (hO0 : ws[kO0]? = some (qO0, .inr (15, [.int 0, .ref qA1, .ref qA2, .ref qA3, .ref qA4, .ref qA5, .ref qA6, .ref qA7, .int y1, .int 0, .int 0, .long 0, .int 23, .int 255, .long 0, .int (-149), .long 0, .int 0]))) (hA7 : ws[kA7]? = some (qA7, .inl (g 0, 1600, .inl f3))) (y1lo : 2 ≤ y1) (y1hi : y1 ≤ 1102) : q_mV l y_FR_add prog_17_method_16_code 2 1 0 0 D g [.ref qO0, .int 48] ws (fun u => q_un ws u [kO0, kA7] ∧ u[kO0]? = some (qO0, .inr (15, [.int 0, .ref qA1, .ref qA2, .ref qA3, .ref qA4, .ref qA5, .ref qA6, .ref qA7, .int (y1 + 1), .int 0, .int 0, .long 0, .int 23, .int 255, .long 0, .int (-149), .long 0, .int 0])) ∧ u[kA7]? = some (qA7, .inl (g 0, 1600, .inl (upd f3 y1.toNatClampNeg 48)))) := by
  intro sz
  refine q_into (by decide) (Nat.le_of_ble_eq_true rfl) ?_
  intro p e s m below meth c ls hsz C0 V hl
  have hx := C0.1
  have hb := C0.2.1
  have hl : lv_has ls 2 [(0, .ref qO0), (1, .int 48)] := hl
  have n_A7_O0 := q_df hA7 hO0
  have n_O0_A7 := Ne.symm (q_df hA7 hO0)
  have hF : q_un ws ws [kO0, kA7] := q_u0
  refine lv_aload_n hx hb d_17_16_0 rfl (lv_at hl 0 rfl) ?_
  refine q_get (ci := 15) (j := 7) (v := .ref qA7) C0 V i_FR rfl rfl hO0 (by decide) w_2082 rfl d_17_16_1 ?_
  refine lv_aload_n hx hb d_17_16_4 rfl (lv_at hl 0 rfl) ?_
  refine q_get (ci := 15) (j := 8) (v := .int y1) C0 V i_FR rfl rfl hO0 (by decide) w_2084 rfl d_17_16_5 ?_
  refine lv_iload_n hx hb d_17_16_8 rfl (lv_at hl 1 rfl) ?_
  refine q_iast C0 V hA7 (q_ix (x := y1.toInt) rfl (by have t1 : 2 ≤ y1.toInt := q_leI y1lo; have t2 : y1.toInt ≤ 1102 := q_leI y1hi; omega) (by have t1 : 2 ≤ y1.toInt := q_leI y1lo; have t2 : y1.toInt ≤ 1102 := q_leI y1hi; omega)) d_17_16_9 (fun H locs w1 hu2 hA7 V => ?_)
  replace hA7 : w1[kA7]? = some (qA7, .inl (g 0, 1600, .inl (upd f3 y1.toNatClampNeg 48))) := hA7
  replace hF := q_us hF hu2 (.tail _ (.head _))
  refine lv_aload_n hx hb d_17_16_10 rfl (lv_at hl 0 rfl) ?_
  refine lv_dup hx hb d_17_16_11 rfl ?_
  replace hO0 := (hu2 _ n_O0_A7).trans (hO0)
  refine q_get (ci := 15) (j := 8) (v := .int y1) C0 V i_FR rfl rfl hO0 (by decide) w_2084 rfl d_17_16_12 ?_
  refine lv_iconst (v := 1) hx hb d_17_16_15 (by decide) ?_
  refine lv_iadd hx hb d_17_16_16 ?_
  refine q_put (ci := 15) (j := 8) (v := .int (y1 + 1)) (ty := .int) C0 V i_FR o_FR n_FR rfl rfl hO0 (by decide) w_2084 rfl rfl rfl rfl (Nat.le_of_ble_eq_true rfl) d_17_16_17 (fun H locs w3 hu4 hO0 V => ?_)
  replace hO0 : w3[kO0]? = some (qO0, .inr (15, [.int 0, .ref qA1, .ref qA2, .ref qA3, .ref qA4, .ref qA5, .ref qA6, .ref qA7, .int (y1 + 1), .int 0, .int 0, .long 0, .int 23, .int 255, .long 0, .int (-149), .long 0, .int 0])) := hO0
  replace hF := q_us hF hu4 (.head _)
  replace hA7 := (hu4 _ n_A7_O0).trans (hA7)
  exact q_retv C0 V (⟨hF, hO0, hA7⟩) d_17_16_20
set_option maxRecDepth 100000 in
set_option maxHeartbeats 4000000 in
theorem c_FR_fixed_6 (l : Launch) (D : va_G) (g : Nat → ClassId) (ws : va_W) (kO0 kA1 kA2 kA3 kA6 kA7 qO0 qA1 qA2 qA3 qA4 qA5 qA6 qA7 : Nat) (x1 : Int32) (x2 : Int32) (hO0 : ws[kO0]? = some (qO0, .inr (15, [.int 0, .ref qA1, .ref qA2, .ref qA3, .ref qA4, .ref qA5, .ref qA6, .ref qA7, .int 0, .int 0, .int 0, .long 0, .int 0, .int 0, .long 0, .int 0, .long 0, .int 0]))) (hA1 : ws[kA1]? = some (qA1, .inl (g 0, 156, .inl (fun _ => 0)))) (hA2 : ws[kA2]? = some (qA2, .inl (g 0, 156, .inl (fun _ => 0)))) (hA3 : ws[kA3]? = some (qA3, .inl (g 0, 1404, .inl (fun _ => 0)))) (hA6 : ws[kA6]? = some (qA6, .inl (g 0, 1404, .inl (fun _ => 0)))) (hA7 : ws[kA7]? = some (qA7, .inl (g 0, 1600, .inl (fun _ => 0)))) (n_A1_A2 : kA1 ≠ kA2) (n_A1_A3 : kA1 ≠ kA3) (n_A1_A6 : kA1 ≠ kA6) (n_A1_A7 : kA1 ≠ kA7) (n_A2_A6 : kA2 ≠ kA6) (n_A2_A7 : kA2 ≠ kA7) (n_A3_A2 : kA3 ≠ kA2) (n_A3_A6 : kA3 ≠ kA6) (n_A3_A7 : kA3 ≠ kA7) (n_A6_A7 : kA6 ≠ kA7) : q_mI l y_FR_fixed prog_17_method_29_code 9 (.int) 3 0 0 D g [.ref qO0, .long 0, .int 1, .int x1, .int x2] ws (fun r u => (x1 < 0 ∧ 0 = r ∧ q_un ws u [kO0, kA1, kA2, kA3, kA6, kA7] ∧ u[kO0]? = some (qO0, .inr (15, [.int 1, .ref qA1, .ref qA2, .ref qA3, .ref qA4, .ref qA5, .ref qA6, .ref qA7, .int 0, .int 0, .int 0, .long 0, .int 23, .int 255, .long 0, .int (-149), .long 0, .int 0])) ∧ u[kA1]? = some (qA1, .inl (g 0, 156, .inl (fun _ => 0))) ∧ u[kA2]? = some (qA2, .inl (g 0, 156, .inl (fun _ => 0))) ∧ u[kA3]? = some (qA3, .inl (g 0, 1404, .inl (fun _ => 0))) ∧ u[kA6]? = some (qA6, .inl (g 0, 1404, .inl (fun _ => 0))) ∧ u[kA7]? = some (qA7, .inl (g 0, 1600, .inl (fun _ => 0)))) ∨ (¬ x1 < 0 ∧ 1100 < x1 ∧ 0 = r ∧ q_un ws u [kO0, kA1, kA2, kA3, kA6, kA7] ∧ u[kO0]? = some (qO0, .inr (15, [.int 1, .ref qA1, .ref qA2, .ref qA3, .ref qA4, .ref qA5, .ref qA6, .ref qA7, .int 0, .int 0, .int 0, .long 0, .int 23, .int 255, .long 0, .int (-149), .long 0, .int 0])) ∧ u[kA1]? = some (qA1, .inl (g 0, 156, .inl (fun _ => 0))) ∧ u[kA2]? = some (qA2, .inl (g 0, 156, .inl (fun _ => 0))) ∧ u[kA3]? = some (qA3, .inl (g 0, 1404, .inl (fun _ => 0))) ∧ u[kA6]? = some (qA6, .inl (g 0, 1404, .inl (fun _ => 0))) ∧ u[kA7]? = some (qA7, .inl (g 0, 1600, .inl (fun _ => 0)))) ∨ (¬ x1 < 0 ∧ ¬ 1100 < x1 ∧ x2 < 0 ∧ 0 = r ∧ q_un ws u [kO0, kA1, kA2, kA3, kA6, kA7] ∧ u[kO0]? = some (qO0, .inr (15, [.int 1, .ref qA1, .ref qA2, .ref qA3, .ref qA4, .ref qA5, .ref qA6, .ref qA7, .int 0, .int 0, .int 0, .long 0, .int 23, .int 255, .long 0, .int (-149), .long 0, .int 0])) ∧ u[kA1]? = some (qA1, .inl (g 0, 156, .inl (fun _ => 0))) ∧ u[kA2]? = some (qA2, .inl (g 0, 156, .inl (fun _ => 0))) ∧ u[kA3]? = some (qA3, .inl (g 0, 1404, .inl (fun _ => 0))) ∧ u[kA6]? = some (qA6, .inl (g 0, 1404, .inl (fun _ => 0))) ∧ u[kA7]? = some (qA7, .inl (g 0, 1600, .inl (fun _ => 0)))) ∨ (∃ (ex0 : Nat → Int32), ¬ x1 < 0 ∧ ¬ 1100 < x1 ∧ ¬ x2 < 0 ∧ x2 ≤ 3 ∧ x1 ≤ 1080 ∧ x1 ≤ 0 ∧ 1 = r ∧ q_un ws u [kO0, kA1, kA2, kA3, kA6, kA7] ∧ u[kO0]? = some (qO0, .inr (15, [.int 0, .ref qA1, .ref qA2, .ref qA3, .ref qA4, .ref qA5, .ref qA6, .ref qA7, .int 1, .int 0, .int 0, .long 0, .int 23, .int 255, .long 0, .int (-149), .long 0, .int 0])) ∧ u[kA1]? = some (qA1, .inl (g 0, 156, .inl ex0)) ∧ u[kA2]? = some (qA2, .inl (g 0, 156, .inl (fun _ => 0))) ∧ u[kA3]? = some (qA3, .inl (g 0, 1404, .inl (fun _ => 0))) ∧ u[kA6]? = some (qA6, .inl (g 0, 1404, .inl (fun _ => 0))) ∧ u[kA7]? = some (qA7, .inl (g 0, 1600, .inl (upd (fun _ => 0) 0 48)))) ∨ (∃ (ex0 : Int32) (ex1 : Nat → Int32) (ex2 : Nat → Int32), ¬ x1 < 0 ∧ ¬ 1100 < x1 ∧ ¬ x2 < 0 ∧ x2 ≤ 3 ∧ x1 ≤ 1080 ∧ ¬ x1 ≤ 0 ∧ (((-1) < (-x1.toInt) ∧ ex0.toInt = 2) ∨ ((-x1.toInt) ≤ (-1) ∧ ex0.toInt = 2 + 1 * ((-1) - (-x1.toInt) + 1))) ∧ 2 ≤ ex0 ∧ ex0 ≤ 1082 ∧ ex0 = r ∧ q_un ws u [kO0, kA1, kA2, kA3, kA6, kA7] ∧ u[kO0]? = some (qO0, .inr (15, [.int 0, .ref qA1, .ref qA2, .ref qA3, .ref qA4, .ref qA5, .ref qA6, .ref qA7, .int ex0, .int 0, .int 0, .long 0, .int 23, .int 255, .long 0, .int (-149), .long 0, .int 0])) ∧ u[kA1]? = some (qA1, .inl (g 0, 156, .inl ex1)) ∧ u[kA2]? = some (qA2, .inl (g 0, 156, .inl (fun _ => 0))) ∧ u[kA3]? = some (qA3, .inl (g 0, 1404, .inl (fun _ => 0))) ∧ u[kA6]? = some (qA6, .inl (g 0, 1404, .inl (fun _ => 0))) ∧ u[kA7]? = some (qA7, .inl (g 0, 1600, .inl ex2))) ∨ (∃ (ex0 : Int32) (ex1 : Nat → Int32) (ex2 : Nat → Int32), ¬ x1 < 0 ∧ ¬ 1100 < x1 ∧ ¬ x2 < 0 ∧ x2 ≤ 3 ∧ ¬ x1 ≤ 1080 ∧ (((-1) < (-x1.toInt) ∧ ex0.toInt = 2) ∨ ((-x1.toInt) ≤ (-1) ∧ ex0.toInt = 2 + 1 * ((-1) - (-x1.toInt) + 1))) ∧ 2 ≤ ex0 ∧ ex0 ≤ 1102 ∧ ex0 = r ∧ q_un ws u [kO0, kA1, kA2, kA3, kA6, kA7] ∧ u[kO0]? = some (qO0, .inr (15, [.int 0, .ref qA1, .ref qA2, .ref qA3, .ref qA4, .ref qA5, .ref qA6, .ref qA7, .int ex0, .int 0, .int 0, .long 0, .int 23, .int 255, .long 0, .int (-149), .long 0, .int 0])) ∧ u[kA1]? = some (qA1, .inl (g 0, 156, .inl ex1)) ∧ u[kA2]? = some (qA2, .inl (g 0, 156, .inl (fun _ => 0))) ∧ u[kA3]? = some (qA3, .inl (g 0, 1404, .inl (fun _ => 0))) ∧ u[kA6]? = some (qA6, .inl (g 0, 1404, .inl (fun _ => 0))) ∧ u[kA7]? = some (qA7, .inl (g 0, 1600, .inl ex2))) ∨ (¬ x1 < 0 ∧ ¬ 1100 < x1 ∧ ¬ x2 < 0 ∧ ¬ x2 ≤ 3 ∧ 0 = r ∧ q_un ws u [kO0, kA1, kA2, kA3, kA6, kA7] ∧ u[kO0]? = some (qO0, .inr (15, [.int 1, .ref qA1, .ref qA2, .ref qA3, .ref qA4, .ref qA5, .ref qA6, .ref qA7, .int 0, .int 0, .int 0, .long 0, .int 23, .int 255, .long 0, .int (-149), .long 0, .int 0])) ∧ u[kA1]? = some (qA1, .inl (g 0, 156, .inl (fun _ => 0))) ∧ u[kA2]? = some (qA2, .inl (g 0, 156, .inl (fun _ => 0))) ∧ u[kA3]? = some (qA3, .inl (g 0, 1404, .inl (fun _ => 0))) ∧ u[kA6]? = some (qA6, .inl (g 0, 1404, .inl (fun _ => 0))) ∧ u[kA7]? = some (qA7, .inl (g 0, 1600, .inl (fun _ => 0))))) := by
  intro sz
  refine q_into (by decide) (Nat.le_of_ble_eq_true rfl) ?_
  intro p e s m below meth c ls hsz C0 V hl
  have hx := C0.1
  have hb := C0.2.1
  have hl : lv_has ls 9 [(0, .ref qO0), (1, .long 0), (3, .int 1), (4, .int x1), (5, .int x2)] := hl
  have n_A1_O0 := q_df hA1 hO0
  have n_A2_O0 := q_df hA2 hO0
  have n_A3_O0 := q_df hA3 hO0
  have n_A6_A1 := Ne.symm n_A1_A6
  have n_A6_A2 := Ne.symm n_A2_A6
  have n_A6_A3 := Ne.symm n_A3_A6
  have n_A6_O0 := q_df hA6 hO0
  have n_A7_A1 := Ne.symm n_A1_A7
  have n_A7_A2 := Ne.symm n_A2_A7
  have n_A7_A3 := Ne.symm n_A3_A7
  have n_A7_A6 := Ne.symm n_A6_A7
  have n_A7_O0 := q_df hA7 hO0
  have n_O0_A1 := Ne.symm (q_df hA1 hO0)
  have n_O0_A2 := Ne.symm (q_df hA2 hO0)
  have n_O0_A3 := Ne.symm (q_df hA3 hO0)
  have n_O0_A6 := Ne.symm (q_df hA6 hO0)
  have hF : q_un ws ws [kO0, kA1, kA2, kA3, kA6, kA7] := q_u0
  refine lv_aload_n hx hb d_17_29_0 rfl (lv_at hl 0 rfl) ?_
  refine lv_lload_n hx hb d_17_29_1 rfl (lv_at hl 1 rfl) ?_
  refine lv_iload_n hx hb d_17_29_2 rfl (lv_at hl 2 rfl) ?_
  refine lv_if_eq (tgt := 18) hx hb d_17_29_3 (by decide) (fun c1 => absurd c1 (by decide)) (fun c1 => ?_)
  refine lv_lload_n hx hb d_17_29_6 rfl (lv_at hl 1 rfl) ?_
  refine lv_iload_n hx hb d_17_29_7 rfl (lv_at hl 2 rfl) ?_
  refine q_goi V (q_runS (As := [.long 0, .int 1]) (rest := [.long 0, .ref qO0]) (d := 1) (mc := 0) (ms := 0) C0 V rfl LS_FR_122 (c_FR_isWrong_2 l D g ws _) rfl hl.1 rfl (Nat.le_of_ble_eq_true rfl) ⟨by decide, by decide⟩ ⟨Nat.le_of_ble_eq_true rfl, Nat.le_of_ble_eq_true rfl⟩ d_17_29_8) (fun v4 u3 H locs hp2 V => ?_)
  obtain ⟨rfl, rfl⟩ := hp2
  refine lv_if_ne (tgt := 18) hx hb d_17_29_11 (by decide) (fun c6 => absurd (by decide) c6) (fun c6 => ?_)
  refine lv_iconst (v := 1) hx hb d_17_29_14 (by decide) ?_
  refine lv_goto (tgt := 19) hx hb d_17_29_15 (by decide) ?_
  refine q_gov V (q_runV (As := [.long 0, .int 1]) (rest := []) (d := 1) (mc := 0) (ms := 0) (ci := 15) C0 V rfl LV_FR_126 (c_FR_open_2 l D g ws kO0 qO0 qA1 qA2 qA3 qA4 qA5 qA6 qA7 hO0 _) rfl rfl hO0 rfl hl.1 rfl (Nat.le_of_ble_eq_true rfl) ⟨by decide, by decide⟩ ⟨Nat.le_of_ble_eq_true rfl, Nat.le_of_ble_eq_true rfl⟩ d_17_29_19) (fun u8 H locs hp7 V => ?_)
  obtain ⟨hg9, hO0⟩ := hp7
  replace hF := q_uc hF hg9 (q_sc (.head _) (fun _ h => absurd h List.not_mem_nil))
  refine lv_aload_n hx hb d_17_29_22 rfl (lv_at hl 0 rfl) ?_
  refine lv_lload_n hx hb d_17_29_23 rfl (lv_at hl 1 rfl) ?_
  refine lv_iload_n hx hb d_17_29_24 rfl (lv_at hl 2 rfl) ?_
  refine q_goi V (q_runS (As := [.long 0, .int 1]) (rest := [.ref qO0]) (d := 1) (mc := 0) (ms := 0) C0 V rfl LS_FR_122 (c_FR_isWrong_2 l D g u8 _) rfl hl.1 rfl (Nat.le_of_ble_eq_true rfl) ⟨by decide, by decide⟩ ⟨Nat.le_of_ble_eq_true rfl, Nat.le_of_ble_eq_true rfl⟩ d_17_29_25) (fun v12 u11 H locs hp10 V => ?_)
  obtain ⟨rfl, rfl⟩ := hp10
  refine lv_if_ne (tgt := 55) hx hb d_17_29_28 (by decide) (fun c14 => absurd (by decide) c14) (fun c14 => ?_)
  refine lv_iload hx hb d_17_29_31 (lv_at hl 3 rfl) ?_
  refine lv_if_lt (tgt := 55) hx hb d_17_29_33 (by decide) (fun c15 => ?_) (fun c15 => ?_)
  ·
    refine lv_iconst (v := 1) hx hb d_17_29_55 (by decide) ?_
    refine lv_goto (tgt := 71) hx hb d_17_29_56 (by decide) ?_
    refine q_put (ci := 15) (j := 0) (v := .int 1) (ty := .int) C0 V i_FR o_FR n_FR rfl rfl hO0 (by decide) w_2074 rfl rfl rfl rfl (Nat.le_of_ble_eq_true rfl) d_17_29_71 (fun H locs w16 hu17 hO0 V => ?_)
    replace hO0 : w16[kO0]? = some (qO0, .inr (15, [.int 1, .ref qA1, .ref qA2, .ref qA3, .ref qA4, .ref qA5, .ref qA6, .ref qA7, .int 0, .int 0, .int 0, .long 0, .int 23, .int 255, .long 0, .int (-149), .long 0, .int 0])) := hO0
    replace hF := q_us hF hu17 (.head _)
    refine lv_aload_n hx hb d_17_29_74 rfl (lv_at hl 0 rfl) ?_
    refine q_get (ci := 15) (j := 0) (v := .int 1) C0 V i_FR rfl rfl hO0 (by decide) w_2074 rfl d_17_29_75 ?_
    refine lv_if_le (tgt := 83) hx hb d_17_29_78 (by decide) (fun c18 => absurd c18 (by decide)) (fun c18 => ?_)
    refine lv_iconst (v := 0) hx hb d_17_29_81 (by decide) ?_
    replace hA1 := (hu17 _ n_A1_O0).trans ((hg9 _ (q_nc n_A1_O0 List.not_mem_nil)).trans (hA1))
    replace hA2 := (hu17 _ n_A2_O0).trans ((hg9 _ (q_nc n_A2_O0 List.not_mem_nil)).trans (hA2))
    replace hA3 := (hu17 _ n_A3_O0).trans ((hg9 _ (q_nc n_A3_O0 List.not_mem_nil)).trans (hA3))
    replace hA6 := (hu17 _ n_A6_O0).trans ((hg9 _ (q_nc n_A6_O0 List.not_mem_nil)).trans (hA6))
    replace hA7 := (hu17 _ n_A7_O0).trans ((hg9 _ (q_nc n_A7_O0 List.not_mem_nil)).trans (hA7))
    exact q_reti C0 V (Or.inl ⟨c15, rfl, hF, hO0, hA1, hA2, hA3, hA6, hA7⟩) d_17_29_82
  ·
    refine lv_iload hx hb d_17_29_36 (lv_at hl 3 rfl) ?_
    refine lv_sipush (v := 1100) hx hb d_17_29_38 (by decide) ?_
    refine lv_icmp_gt (tgt := 55) hx hb d_17_29_41 (by decide) (fun c19 => ?_) (fun c19 => ?_)
    ·
      refine lv_iconst (v := 1) hx hb d_17_29_55 (by decide) ?_
      refine lv_goto (tgt := 71) hx hb d_17_29_56 (by decide) ?_
      refine q_put (ci := 15) (j := 0) (v := .int 1) (ty := .int) C0 V i_FR o_FR n_FR rfl rfl hO0 (by decide) w_2074 rfl rfl rfl rfl (Nat.le_of_ble_eq_true rfl) d_17_29_71 (fun H locs w20 hu21 hO0 V => ?_)
      replace hO0 : w20[kO0]? = some (qO0, .inr (15, [.int 1, .ref qA1, .ref qA2, .ref qA3, .ref qA4, .ref qA5, .ref qA6, .ref qA7, .int 0, .int 0, .int 0, .long 0, .int 23, .int 255, .long 0, .int (-149), .long 0, .int 0])) := hO0
      replace hF := q_us hF hu21 (.head _)
      refine lv_aload_n hx hb d_17_29_74 rfl (lv_at hl 0 rfl) ?_
      refine q_get (ci := 15) (j := 0) (v := .int 1) C0 V i_FR rfl rfl hO0 (by decide) w_2074 rfl d_17_29_75 ?_
      refine lv_if_le (tgt := 83) hx hb d_17_29_78 (by decide) (fun c22 => absurd c22 (by decide)) (fun c22 => ?_)
      refine lv_iconst (v := 0) hx hb d_17_29_81 (by decide) ?_
      replace hA1 := (hu21 _ n_A1_O0).trans ((hg9 _ (q_nc n_A1_O0 List.not_mem_nil)).trans (hA1))
      replace hA2 := (hu21 _ n_A2_O0).trans ((hg9 _ (q_nc n_A2_O0 List.not_mem_nil)).trans (hA2))
      replace hA3 := (hu21 _ n_A3_O0).trans ((hg9 _ (q_nc n_A3_O0 List.not_mem_nil)).trans (hA3))
      replace hA6 := (hu21 _ n_A6_O0).trans ((hg9 _ (q_nc n_A6_O0 List.not_mem_nil)).trans (hA6))
      replace hA7 := (hu21 _ n_A7_O0).trans ((hg9 _ (q_nc n_A7_O0 List.not_mem_nil)).trans (hA7))
      exact q_reti C0 V (Or.inr (Or.inl ⟨c15, c19, rfl, hF, hO0, hA1, hA2, hA3, hA6, hA7⟩)) d_17_29_82
    ·
      refine lv_iload hx hb d_17_29_44 (lv_at hl 4 rfl) ?_
      refine lv_if_lt (tgt := 55) hx hb d_17_29_46 (by decide) (fun c23 => ?_) (fun c23 => ?_)
      ·
        refine lv_iconst (v := 1) hx hb d_17_29_55 (by decide) ?_
        refine lv_goto (tgt := 71) hx hb d_17_29_56 (by decide) ?_
        refine q_put (ci := 15) (j := 0) (v := .int 1) (ty := .int) C0 V i_FR o_FR n_FR rfl rfl hO0 (by decide) w_2074 rfl rfl rfl rfl (Nat.le_of_ble_eq_true rfl) d_17_29_71 (fun H locs w24 hu25 hO0 V => ?_)
        replace hO0 : w24[kO0]? = some (qO0, .inr (15, [.int 1, .ref qA1, .ref qA2, .ref qA3, .ref qA4, .ref qA5, .ref qA6, .ref qA7, .int 0, .int 0, .int 0, .long 0, .int 23, .int 255, .long 0, .int (-149), .long 0, .int 0])) := hO0
        replace hF := q_us hF hu25 (.head _)
        refine lv_aload_n hx hb d_17_29_74 rfl (lv_at hl 0 rfl) ?_
        refine q_get (ci := 15) (j := 0) (v := .int 1) C0 V i_FR rfl rfl hO0 (by decide) w_2074 rfl d_17_29_75 ?_
        refine lv_if_le (tgt := 83) hx hb d_17_29_78 (by decide) (fun c26 => absurd c26 (by decide)) (fun c26 => ?_)
        refine lv_iconst (v := 0) hx hb d_17_29_81 (by decide) ?_
        replace hA1 := (hu25 _ n_A1_O0).trans ((hg9 _ (q_nc n_A1_O0 List.not_mem_nil)).trans (hA1))
        replace hA2 := (hu25 _ n_A2_O0).trans ((hg9 _ (q_nc n_A2_O0 List.not_mem_nil)).trans (hA2))
        replace hA3 := (hu25 _ n_A3_O0).trans ((hg9 _ (q_nc n_A3_O0 List.not_mem_nil)).trans (hA3))
        replace hA6 := (hu25 _ n_A6_O0).trans ((hg9 _ (q_nc n_A6_O0 List.not_mem_nil)).trans (hA6))
        replace hA7 := (hu25 _ n_A7_O0).trans ((hg9 _ (q_nc n_A7_O0 List.not_mem_nil)).trans (hA7))
        exact q_reti C0 V (Or.inr (Or.inr (Or.inl ⟨c15, c19, c23, rfl, hF, hO0, hA1, hA2, hA3, hA6, hA7⟩))) d_17_29_82
      ·
        refine lv_iload hx hb d_17_29_49 (lv_at hl 4 rfl) ?_
        refine lv_iconst (v := 3) hx hb d_17_29_51 (by decide) ?_
        refine lv_icmp_le (tgt := 59) hx hb d_17_29_52 (by decide) (fun c27 => ?_) (fun c27 => ?_)
        ·
          refine lv_aload_n hx hb d_17_29_59 rfl (lv_at hl 0 rfl) ?_
          refine q_goi V (q_runV (As := []) (rest := [.ref qO0]) (d := 1) (mc := 0) (ms := 0) (ci := 15) C0 V rfl LV_FR_130 (c_FR_isFinite_2 l D g u8 kO0 qO0 qA1 qA2 qA3 qA4 qA5 qA6 qA7 hO0 _) rfl rfl hO0 rfl hl.1 rfl (Nat.le_of_ble_eq_true rfl) ⟨by decide, by decide⟩ ⟨Nat.le_of_ble_eq_true rfl, Nat.le_of_ble_eq_true rfl⟩ d_17_29_60) (fun v30 u29 H locs hp28 V => ?_)
          obtain ⟨rfl, rfl⟩ := hp28
          refine lv_if_ne (tgt := 70) hx hb d_17_29_63 (by decide) (fun c32 => ?_) (fun c32 => absurd c32 (by decide))
          refine lv_iconst (v := 0) hx hb d_17_29_70 (by decide) ?_
          refine q_put (ci := 15) (j := 0) (v := .int 0) (ty := .int) C0 V i_FR o_FR n_FR rfl rfl hO0 (by decide) w_2074 rfl rfl rfl rfl (Nat.le_of_ble_eq_true rfl) d_17_29_71 (fun H locs w33 hu34 hO0 V => ?_)
          replace hO0 : w33[kO0]? = some (qO0, .inr (15, [.int 0, .ref qA1, .ref qA2, .ref qA3, .ref qA4, .ref qA5, .ref qA6, .ref qA7, .int 0, .int 0, .int 0, .long 0, .int 23, .int 255, .long 0, .int (-149), .long 0, .int 0])) := hO0
          replace hF := q_us hF hu34 (.head _)
          refine lv_aload_n hx hb d_17_29_74 rfl (lv_at hl 0 rfl) ?_
          refine q_get (ci := 15) (j := 0) (v := .int 0) C0 V i_FR rfl rfl hO0 (by decide) w_2074 rfl d_17_29_75 ?_
          refine lv_if_le (tgt := 83) hx hb d_17_29_78 (by decide) (fun c35 => ?_) (fun c35 => absurd (by decide) c35)
          refine lv_aload_n hx hb d_17_29_83 rfl (lv_at hl 0 rfl) ?_
          replace hA1 := (hu34 _ n_A1_O0).trans ((hg9 _ (q_nc n_A1_O0 List.not_mem_nil)).trans (hA1))
          replace hA2 := (hu34 _ n_A2_O0).trans ((hg9 _ (q_nc n_A2_O0 List.not_mem_nil)).trans (hA2))
          replace hA3 := (hu34 _ n_A3_O0).trans ((hg9 _ (q_nc n_A3_O0 List.not_mem_nil)).trans (hA3))
          refine q_gov V (q_runV (As := []) (rest := []) (d := 2) (mc := 0) (ms := 0) (ci := 15) C0 V rfl LV_FR_162 (c_FR_setValue_2 l D g w33 kO0 kA1 kA2 kA3 qO0 qA1 qA2 qA3 qA4 qA5 qA6 qA7 hO0 hA1 hA2 hA3 n_A1_A2 n_A1_A3 n_A3_A2 _) rfl rfl hO0 rfl hl.1 rfl (Nat.le_of_ble_eq_true rfl) ⟨by decide, by decide⟩ ⟨Nat.le_of_ble_eq_true rfl, Nat.le_of_ble_eq_true rfl⟩ d_17_29_84) (fun u37 H locs hp36 V => ?_)
          obtain ⟨y38, hg39, hA1, hA2, hA3⟩ := hp36
          replace hF := q_uc hF hg39 (q_sc (.tail _ (.head _)) (q_sc (.tail _ (.tail _ (.head _))) (q_sc (List.mem_of_getElem? (i := 3) rfl) (fun _ h => absurd h List.not_mem_nil))))
          refine lv_iload hx hb d_17_29_87 (lv_at hl 3 rfl) ?_
          refine lv_sipush (v := 1080) hx hb d_17_29_89 (by decide) ?_
          refine lv_icmp_le (tgt := 99) hx hb d_17_29_92 (by decide) (fun c40 => ?_) (fun c40 => ?_)
          ·
            refine lv_sipush (v := 1080) hx hb d_17_29_99 (by decide) ?_
            refine lv_iload hx hb d_17_29_102 (lv_at hl 3 rfl) ?_
            refine lv_isub hx hb d_17_29_104 ?_
            refine lv_istore (lv' := [(6, .int (1080 - x1)), (0, .ref qO0), (1, .long 0), (3, .int 1), (4, .int x1), (5, .int x2)]) hx hb d_17_29_105 hl (by decide) rfl (fun ls hl => ?_)
            refine lv_aload_n hx hb d_17_29_107 rfl (lv_at hl 1 rfl) ?_
            refine lv_iload hx hb d_17_29_108 (lv_at hl 0 rfl) ?_
            refine lv_aload_n hx hb d_17_29_110 rfl (lv_at hl 1 rfl) ?_
            refine lv_iload hx hb d_17_29_111 (lv_at hl 0 rfl) ?_
            refine lv_iload hx hb d_17_29_113 (lv_at hl 5 rfl) ?_
            replace hO0 := (hg39 _ (q_nc n_O0_A1 (q_nc n_O0_A2 (q_nc n_O0_A3 List.not_mem_nil)))).trans (hO0)
            refine q_goi V (q_runV (As := [.int (1080 - x1), .int x2]) (rest := [.int (1080 - x1), .ref qO0]) (d := 1) (mc := 0) (ms := 0) (ci := 15) C0 V rfl LV_FR_165 (c_FR_isMore_6 l D g u37 kO0 kA3 qO0 qA1 qA2 qA3 qA4 qA5 qA6 qA7 (1080 - x1) x2 hO0 hA3 (q_Ile (x := 0) (y := (1080 - x1.toInt)) (by decide) (q_subI (x := 1080) (y := x1.toInt) (by decide) rfl (by have t1 : 0 ≤ x1.toInt := q_nltI c15; have t2 : x1.toInt ≤ 1100 := q_nltI c19; have t3 : x1.toInt ≤ 1080 := q_leI c40; omega) (by have t1 : 0 ≤ x1.toInt := q_nltI c15; have t2 : x1.toInt ≤ 1100 := q_nltI c19; have t3 : x1.toInt ≤ 1080 := q_leI c40; omega)) (by have t1 : 0 ≤ x1.toInt := q_nltI c15; have t2 : x1.toInt ≤ 1100 := q_nltI c19; have t3 : x1.toInt ≤ 1080 := q_leI c40; omega)) (q_Ile (x := (1080 - x1.toInt)) (y := 1080) (q_subI (x := 1080) (y := x1.toInt) (by decide) rfl (by have t1 : 0 ≤ x1.toInt := q_nltI c15; have t2 : x1.toInt ≤ 1100 := q_nltI c19; have t3 : x1.toInt ≤ 1080 := q_leI c40; omega) (by have t1 : 0 ≤ x1.toInt := q_nltI c15; have t2 : x1.toInt ≤ 1100 := q_nltI c19; have t3 : x1.toInt ≤ 1080 := q_leI c40; omega)) (by decide) (by have t1 : 0 ≤ x1.toInt := q_nltI c15; have t2 : x1.toInt ≤ 1100 := q_nltI c19; have t3 : x1.toInt ≤ 1080 := q_leI c40; omega)) (q_Ile (x := 0) (y := x2.toInt) (by decide) rfl (by have t1 : 0 ≤ x2.toInt := q_nltI c23; have t2 : x2.toInt ≤ 3 := q_leI c27; omega)) c27 _) rfl rfl hO0 rfl hl.1 rfl (Nat.le_of_ble_eq_true rfl) ⟨by decide, by decide⟩ ⟨Nat.le_of_ble_eq_true rfl, Nat.le_of_ble_eq_true rfl⟩ d_17_29_115) (fun v43 u42 H locs hp41 V => ?_)
            obtain ⟨rfl, rfl⟩ := hp41
            replace hA6 := (hg39 _ (q_nc n_A6_A1 (q_nc n_A6_A2 (q_nc n_A6_A3 List.not_mem_nil)))).trans ((hu34 _ n_A6_O0).trans ((hg9 _ (q_nc n_A6_O0 List.not_mem_nil)).trans (hA6)))
            refine q_gov V (q_runV (As := [.int (1080 - x1), .int 0]) (rest := []) (d := 1) (mc := 0) (ms := 0) (ci := 15) C0 V rfl LV_FR_81 (c_FR_cut_6 l D g u37 kO0 kA3 kA6 qO0 qA1 qA2 qA3 qA4 qA5 qA6 qA7 (1080 - x1) hO0 hA3 hA6 n_A3_A6 (q_Ile (x := 0) (y := (1080 - x1.toInt)) (by decide) (q_subI (x := 1080) (y := x1.toInt) (by decide) rfl (by have t1 : 0 ≤ x1.toInt := q_nltI c15; have t2 : x1.toInt ≤ 1100 := q_nltI c19; have t3 : x1.toInt ≤ 1080 := q_leI c40; omega) (by have t1 : 0 ≤ x1.toInt := q_nltI c15; have t2 : x1.toInt ≤ 1100 := q_nltI c19; have t3 : x1.toInt ≤ 1080 := q_leI c40; omega)) (by have t1 : 0 ≤ x1.toInt := q_nltI c15; have t2 : x1.toInt ≤ 1100 := q_nltI c19; have t3 : x1.toInt ≤ 1080 := q_leI c40; omega)) (q_Ile (x := (1080 - x1.toInt)) (y := 1080) (q_subI (x := 1080) (y := x1.toInt) (by decide) rfl (by have t1 : 0 ≤ x1.toInt := q_nltI c15; have t2 : x1.toInt ≤ 1100 := q_nltI c19; have t3 : x1.toInt ≤ 1080 := q_leI c40; omega) (by have t1 : 0 ≤ x1.toInt := q_nltI c15; have t2 : x1.toInt ≤ 1100 := q_nltI c19; have t3 : x1.toInt ≤ 1080 := q_leI c40; omega)) (by decide) (by have t1 : 0 ≤ x1.toInt := q_nltI c15; have t2 : x1.toInt ≤ 1100 := q_nltI c19; have t3 : x1.toInt ≤ 1080 := q_leI c40; omega)) _) rfl rfl hO0 rfl hl.1 rfl (Nat.le_of_ble_eq_true rfl) ⟨by decide, by decide⟩ ⟨Nat.le_of_ble_eq_true rfl, Nat.le_of_ble_eq_true rfl⟩ d_17_29_118) (fun u46 H locs hp45 V => ?_)
            obtain ⟨hg47, hA6⟩ := hp45
            replace hF := q_uc hF hg47 (q_sc (List.mem_of_getElem? (i := 4) rfl) (fun _ h => absurd h List.not_mem_nil))
            refine lv_aload_n hx hb d_17_29_121 rfl (lv_at hl 1 rfl) ?_
            replace hO0 := (hg47 _ (q_nc n_O0_A6 List.not_mem_nil)).trans (hO0)
            refine q_gov V (q_runV (As := []) (rest := []) (d := 1) (mc := 0) (ms := 0) (ci := 15) C0 V rfl LV_FR_113 (c_FR_begin_2 l D g u46 kO0 qO0 qA1 qA2 qA3 qA4 qA5 qA6 qA7 hO0 _) rfl rfl hO0 rfl hl.1 rfl (Nat.le_of_ble_eq_true rfl) ⟨by decide, by decide⟩ ⟨Nat.le_of_ble_eq_true rfl, Nat.le_of_ble_eq_true rfl⟩ d_17_29_122) (fun u49 H locs hp48 V => ?_)
            obtain ⟨hg50, hO0⟩ := hp48
            replace hF := q_uc hF hg50 (q_sc (.head _) (fun _ h => absurd h List.not_mem_nil))
            refine lv_sipush (v := 1403) hx hb d_17_29_125 (by decide) ?_
            refine lv_istore (lv' := [(7, .int 1403), (6, .int (1080 - x1)), (0, .ref qO0), (1, .long 0), (3, .int 1), (4, .int x1), (5, .int x2)]) hx hb d_17_29_128 hl (by decide) rfl (fun ls hl => ?_)
            replace hA1 := (hg50 _ (q_nc n_A1_O0 List.not_mem_nil)).trans ((hg47 _ (q_nc n_A1_A6 List.not_mem_nil)).trans (hA1))
            replace hA2 := (hg50 _ (q_nc n_A2_O0 List.not_mem_nil)).trans ((hg47 _ (q_nc n_A2_A6 List.not_mem_nil)).trans (hA2))
            replace hA3 := (hg50 _ (q_nc n_A3_O0 List.not_mem_nil)).trans ((hg47 _ (q_nc n_A3_A6 List.not_mem_nil)).trans (hA3))
            replace hA6 := (hg50 _ (q_nc n_A6_O0 List.not_mem_nil)).trans (hA6)
            replace hA7 := (hg50 _ (q_nc n_A7_O0 List.not_mem_nil)).trans ((hg47 _ (q_nc n_A7_A6 List.not_mem_nil)).trans ((hg39 _ (q_nc n_A7_A1 (q_nc n_A7_A2 (q_nc n_A7_A3 List.not_mem_nil)))).trans ((hu34 _ n_A7_O0).trans ((hg9 _ (q_nc n_A7_O0 List.not_mem_nil)).trans (hA7)))))
            refine q_loop (X := Int32) (fun z H locs ls w52 => (1080 ≤ z.toInt ∧ z.toInt ≤ 1403) ∧ q_Wd D g (va_A ws sz) s w52 H locs ∧ lv_has ls 9 [(7, .int z), (6, .int (1080 - x1)), (0, .ref qO0), (1, .long 0), (3, .int 1), (4, .int x1), (5, .int x2)] ∧ q_un ws w52 [kO0, kA1, kA2, kA3, kA6, kA7] ∧ w52[kO0]? = some (qO0, .inr (15, [.int 0, .ref qA1, .ref qA2, .ref qA3, .ref qA4, .ref qA5, .ref qA6, .ref qA7, .int 0, .int 0, .int 0, .long 0, .int 23, .int 255, .long 0, .int (-149), .long 0, .int 0])) ∧ w52[kA1]? = some (qA1, .inl (g 0, 156, .inl y38)) ∧ w52[kA2]? = some (qA2, .inl (g 0, 156, .inl (fun _ => 0))) ∧ w52[kA3]? = some (qA3, .inl (g 0, 1404, .inl (fun _ => 0))) ∧ w52[kA6]? = some (qA6, .inl (g 0, 1404, .inl (fun _ => 0))) ∧ w52[kA7]? = some (qA7, .inl (g 0, 1600, .inl (fun _ => 0)))) (fun z => (z.toInt - 1080).toNat) ?_ ((1403 : Int32)) _ _ _ u49 ⟨⟨by decide, by decide⟩, V, hl, hF, hO0, hA1, hA2, hA3, hA6, hA7⟩
            rintro lx51 H locs ls w52 ⟨i53, V, hl, hF, hO0, hA1, hA2, hA3, hA6, hA7⟩ ih54
            replace i53 : 1080 ≤ lx51.toInt ∧ lx51.toInt ≤ 1403 := i53
            replace hl : lv_has ls 9 [(7, .int lx51), (6, .int (1080 - x1)), (0, .ref qO0), (1, .long 0), (3, .int 1), (4, .int x1), (5, .int x2)] := hl
            replace hO0 : w52[kO0]? = some (qO0, .inr (15, [.int 0, .ref qA1, .ref qA2, .ref qA3, .ref qA4, .ref qA5, .ref qA6, .ref qA7, .int 0, .int 0, .int 0, .long 0, .int 23, .int 255, .long 0, .int (-149), .long 0, .int 0])) := hO0
            replace hA1 : w52[kA1]? = some (qA1, .inl (g 0, 156, .inl y38)) := hA1
            replace hA2 : w52[kA2]? = some (qA2, .inl (g 0, 156, .inl (fun _ => 0))) := hA2
            replace hA3 : w52[kA3]? = some (qA3, .inl (g 0, 1404, .inl (fun _ => 0))) := hA3
            replace hA6 : w52[kA6]? = some (qA6, .inl (g 0, 1404, .inl (fun _ => 0))) := hA6
            replace hA7 : w52[kA7]? = some (qA7, .inl (g 0, 1600, .inl (fun _ => 0))) := hA7
            refine lv_iload hx hb d_17_29_130 (lv_at hl 0 rfl) ?_
            refine lv_sipush (v := 1080) hx hb d_17_29_132 (by decide) ?_
            refine lv_icmp_le (tgt := 154) hx hb d_17_29_135 (by decide) (fun c55 => ?_) (fun c55 => ?_)
            ·
              refine lv_iload hx hb d_17_29_154 (lv_at hl 0 rfl) ?_
              refine q_ti (v := 1080) (q_Ieq (x := lx51.toInt) (y := 1080) rfl (by decide) (by have t1 : lx51.toInt ≤ 1080 := q_leI c55; omega)) ?_
              refine lv_sipush (v := 1080) hx hb d_17_29_156 (by decide) ?_
              refine lv_isub hx hb d_17_29_159 ?_
              refine q_ti (v := 0) (by decide) ?_
              refine lv_istore (lv' := [(8, .int 0), (7, .int lx51), (6, .int (1080 - x1)), (0, .ref qO0), (1, .long 0), (3, .int 1), (4, .int x1), (5, .int x2)]) hx hb d_17_29_160 hl (by decide) rfl (fun ls hl => ?_)
              refine lv_iload hx hb d_17_29_162 (lv_at hl 0 rfl) ?_
              refine lv_if_lt (tgt := 186) hx hb d_17_29_164 (by decide) (fun c56 => absurd c56 (by decide)) (fun c56 => ?_)
              refine lv_aload_n hx hb d_17_29_167 rfl (lv_at hl 3 rfl) ?_
              refine lv_bipush (v := 48) hx hb d_17_29_168 (by decide) ?_
              refine lv_aload_n hx hb d_17_29_170 rfl (lv_at hl 3 rfl) ?_
              refine lv_iload hx hb d_17_29_171 (lv_at hl 0 rfl) ?_
              refine q_goi V (q_runV (As := [.int 0]) (rest := [.int 48, .ref qO0]) (d := 1) (mc := 0) (ms := 0) (ci := 15) C0 V rfl LV_FR_169 (c_FR_figureAt_3 l D g w52 kO0 kA6 qO0 qA1 qA2 qA3 qA4 qA5 qA6 qA7 hO0 hA6 _) rfl rfl hO0 rfl hl.1 rfl (Nat.le_of_ble_eq_true rfl) ⟨by decide, by decide⟩ ⟨Nat.le_of_ble_eq_true rfl, Nat.le_of_ble_eq_true rfl⟩ d_17_29_173) (fun v59 u58 H locs hp57 V => ?_)
              obtain ⟨rfl, rfl⟩ := hp57
              refine lv_iadd hx hb d_17_29_176 ?_
              refine q_ti (v := 48) (by decide) ?_
              refine q_gov V (q_runV (As := [.int 48]) (rest := []) (d := 1) (mc := 0) (ms := 0) (ci := 15) C0 V rfl LV_FR_110 (c_FR_add_4 l D g w52 kO0 kA7 qO0 qA1 qA2 qA3 qA4 qA5 qA6 qA7 hO0 hA7 _) rfl rfl hO0 rfl hl.1 rfl (Nat.le_of_ble_eq_true rfl) ⟨by decide, by decide⟩ ⟨Nat.le_of_ble_eq_true rfl, Nat.le_of_ble_eq_true rfl⟩ d_17_29_177) (fun u62 H locs hp61 V => ?_)
              obtain ⟨hg63, hO0, hA7⟩ := hp61
              replace hF := q_uc hF hg63 (q_sc (.head _) (q_sc (List.mem_of_getElem? (i := 5) rfl) (fun _ h => absurd h List.not_mem_nil)))
              refine lv_iinc (v := (-1)) (lv' := [(8, .int (-1)), (7, .int lx51), (6, .int (1080 - x1)), (0, .ref qO0), (1, .long 0), (3, .int 1), (4, .int x1), (5, .int x2)]) hx hb d_17_29_180 hl (k := 0) rfl (by decide) (by decide) rfl (fun ls hl => ?_)
              refine lv_goto (tgt := 162) hx hb d_17_29_183 (by decide) ?_
              refine lv_iload hx hb d_17_29_162 (lv_at hl 0 rfl) ?_
              refine lv_if_lt (tgt := 186) hx hb d_17_29_164 (by decide) (fun c64 => ?_) (fun c64 => absurd (by decide) c64)
              refine lv_iload hx hb d_17_29_186 (lv_at hl 6 rfl) ?_
              refine lv_if_le (tgt := 197) hx hb d_17_29_188 (by decide) (fun c65 => ?_) (fun c65 => ?_)
              ·
                refine lv_iconst (v := (-1)) hx hb d_17_29_197 (by decide) ?_
                refine lv_istore (lv' := [(8, .int (-1)), (7, .int lx51), (6, .int (1080 - x1)), (0, .ref qO0), (1, .long 0), (3, .int 1), (4, .int x1), (5, .int x2)]) hx hb d_17_29_198 hl (by decide) rfl (fun ls hl => ?_)
                refine lv_iload hx hb d_17_29_200 (lv_at hl 0 rfl) ?_
                refine lv_iload hx hb d_17_29_202 (lv_at hl 6 rfl) ?_
                refine q_ti (v := 0) (q_Ieq (x := x1.toInt) (y := 0) rfl (by decide) (by have t1 : 0 ≤ x1.toInt := q_nltI c15; have t2 : x1.toInt ≤ 1100 := q_nltI c19; have t3 : x1.toInt ≤ 1080 := q_leI c40; have t4 : x1.toInt ≤ 0 := q_leI c65; omega)) ?_
                refine lv_ineg hx hb d_17_29_204 ?_
                refine q_ti (v := 0) (by decide) ?_
                refine lv_icmp_lt (tgt := 227) hx hb d_17_29_205 (by decide) (fun c66 => ?_) (fun c66 => absurd (by decide) c66)
                refine lv_aload_n hx hb d_17_29_227 rfl (lv_at hl 3 rfl) ?_
                refine q_get (ci := 15) (j := 8) (v := .int 1) C0 V i_FR rfl rfl hO0 (by decide) w_2084 rfl d_17_29_228 ?_
                replace hA1 := (hg63 _ (q_nc n_A1_O0 (q_nc n_A1_A7 List.not_mem_nil))).trans (hA1)
                replace hA2 := (hg63 _ (q_nc n_A2_O0 (q_nc n_A2_A7 List.not_mem_nil))).trans (hA2)
                replace hA3 := (hg63 _ (q_nc n_A3_O0 (q_nc n_A3_A7 List.not_mem_nil))).trans (hA3)
                replace hA6 := (hg63 _ (q_nc n_A6_O0 (q_nc n_A6_A7 List.not_mem_nil))).trans (hA6)
                exact q_reti C0 V (Or.inr (Or.inr (Or.inr (Or.inl ⟨y38, c15, c19, c23, c27, c40, c65, rfl, hF, hO0, hA1, hA2, hA3, hA6, hA7⟩)))) d_17_29_231
              ·
                refine lv_aload_n hx hb d_17_29_191 rfl (lv_at hl 3 rfl) ?_
                refine lv_bipush (v := 46) hx hb d_17_29_192 (by decide) ?_
                refine q_gov V (q_runV (As := [.int 46]) (rest := []) (d := 1) (mc := 0) (ms := 0) (ci := 15) C0 V rfl LV_FR_110 (c_FR_add_5 l D g u62 kO0 kA7 qO0 qA1 qA2 qA3 qA4 qA5 qA6 qA7 hO0 hA7 _) rfl rfl hO0 rfl hl.1 rfl (Nat.le_of_ble_eq_true rfl) ⟨by decide, by decide⟩ ⟨Nat.le_of_ble_eq_true rfl, Nat.le_of_ble_eq_true rfl⟩ d_17_29_194) (fun u68 H locs hp67 V => ?_)
                obtain ⟨hg69, hO0, hA7⟩ := hp67
                replace hF := q_uc hF hg69 (q_sc (.head _) (q_sc (List.mem_of_getElem? (i := 5) rfl) (fun _ h => absurd h List.not_mem_nil)))
                refine lv_iconst (v := (-1)) hx hb d_17_29_197 (by decide) ?_
                refine lv_istore (lv' := [(8, .int (-1)), (7, .int lx51), (6, .int (1080 - x1)), (0, .ref qO0), (1, .long 0), (3, .int 1), (4, .int x1), (5, .int x2)]) hx hb d_17_29_198 hl (by decide) rfl (fun ls hl => ?_)
                replace hA1 := (hg69 _ (q_nc n_A1_O0 (q_nc n_A1_A7 List.not_mem_nil))).trans ((hg63 _ (q_nc n_A1_O0 (q_nc n_A1_A7 List.not_mem_nil))).trans (hA1))
                replace hA2 := (hg69 _ (q_nc n_A2_O0 (q_nc n_A2_A7 List.not_mem_nil))).trans ((hg63 _ (q_nc n_A2_O0 (q_nc n_A2_A7 List.not_mem_nil))).trans (hA2))
                replace hA3 := (hg69 _ (q_nc n_A3_O0 (q_nc n_A3_A7 List.not_mem_nil))).trans ((hg63 _ (q_nc n_A3_O0 (q_nc n_A3_A7 List.not_mem_nil))).trans (hA3))
                replace hA6 := (hg69 _ (q_nc n_A6_O0 (q_nc n_A6_A7 List.not_mem_nil))).trans ((hg63 _ (q_nc n_A6_O0 (q_nc n_A6_A7 List.not_mem_nil))).trans (hA6))
                refine q_loop (X := Int32 × Int32 × (Nat → Int32)) (fun z H locs ls w73 => (z.1.toInt ≤ (-1) ∧ ((-x1.toInt) - 1 ≤ z.1.toInt ∨ z.1.toInt = (-1))) ∧ (z.2.1.toInt = 2 + 1 * ((-1) - z.1.toInt)) ∧ q_Wd D g (va_A ws sz) s w73 H locs ∧ lv_has ls 9 [(8, .int z.1), (7, .int lx51), (6, .int (1080 - x1)), (0, .ref qO0), (1, .long 0), (3, .int 1), (4, .int x1), (5, .int x2)] ∧ q_un ws w73 [kO0, kA1, kA2, kA3, kA6, kA7] ∧ w73[kO0]? = some (qO0, .inr (15, [.int 0, .ref qA1, .ref qA2, .ref qA3, .ref qA4, .ref qA5, .ref qA6, .ref qA7, .int z.2.1, .int 0, .int 0, .long 0, .int 23, .int 255, .long 0, .int (-149), .long 0, .int 0])) ∧ w73[kA1]? = some (qA1, .inl (g 0, 156, .inl y38)) ∧ w73[kA2]? = some (qA2, .inl (g 0, 156, .inl (fun _ => 0))) ∧ w73[kA3]? = some (qA3, .inl (g 0, 1404, .inl (fun _ => 0))) ∧ w73[kA6]? = some (qA6, .inl (g 0, 1404, .inl (fun _ => 0))) ∧ w73[kA7]? = some (qA7, .inl (g 0, 1600, .inl z.2.2))) (fun z => (z.1.toInt - (-x1.toInt) + 1).toNat) ?_ (((-1) : Int32), (2 : Int32), (upd (upd (fun _ => 0) 0 48) 1 46 : (Nat → Int32))) _ _ _ u68 ⟨⟨(by dsimp only; decide), Or.inr (by dsimp only; decide)⟩, (show (2 : Int32).toInt = 2 + 1 * ((-1) - ((-1) : Int32).toInt) from by have t1 : 0 ≤ x1.toInt := q_nltI c15; have t2 : x1.toInt ≤ 1100 := q_nltI c19; have t3 : 0 ≤ x2.toInt := q_nltI c23; have t4 : x2.toInt ≤ 3 := q_leI c27; have t5 : x1.toInt ≤ 1080 := q_leI c40; have t6 : lx51.toInt ≤ 1080 := q_leI c55; have t7 : 0 < x1.toInt := q_nleI c65; have e1 : (2 : Int32).toInt = 2 := (by decide); have e2 : (((-1) : Int32)).toInt = (-1) := (by decide); omega), V, hl, hF, hO0, hA1, hA2, hA3, hA6, hA7⟩
                rintro ⟨lx70, lx71, lx72⟩ H locs ls w73 ⟨i74, i75, V, hl, hF, hO0, hA1, hA2, hA3, hA6, hA7⟩ ih76
                replace i74 : lx70.toInt ≤ (-1) ∧ ((-x1.toInt) - 1 ≤ lx70.toInt ∨ lx70.toInt = (-1)) := i74
                replace i75 : lx71.toInt = 2 + 1 * ((-1) - lx70.toInt) := i75
                replace hl : lv_has ls 9 [(8, .int lx70), (7, .int lx51), (6, .int (1080 - x1)), (0, .ref qO0), (1, .long 0), (3, .int 1), (4, .int x1), (5, .int x2)] := hl
                replace hO0 : w73[kO0]? = some (qO0, .inr (15, [.int 0, .ref qA1, .ref qA2, .ref qA3, .ref qA4, .ref qA5, .ref qA6, .ref qA7, .int lx71, .int 0, .int 0, .long 0, .int 23, .int 255, .long 0, .int (-149), .long 0, .int 0])) := hO0
                replace hA1 : w73[kA1]? = some (qA1, .inl (g 0, 156, .inl y38)) := hA1
                replace hA2 : w73[kA2]? = some (qA2, .inl (g 0, 156, .inl (fun _ => 0))) := hA2
                replace hA3 : w73[kA3]? = some (qA3, .inl (g 0, 1404, .inl (fun _ => 0))) := hA3
                replace hA6 : w73[kA6]? = some (qA6, .inl (g 0, 1404, .inl (fun _ => 0))) := hA6
                replace hA7 : w73[kA7]? = some (qA7, .inl (g 0, 1600, .inl lx72)) := hA7
                refine lv_iload hx hb d_17_29_200 (lv_at hl 0 rfl) ?_
                refine lv_iload hx hb d_17_29_202 (lv_at hl 6 rfl) ?_
                refine lv_ineg hx hb d_17_29_204 ?_
                refine lv_icmp_lt (tgt := 227) hx hb d_17_29_205 (by decide) (fun c77 => ?_) (fun c77 => ?_)
                ·
                  refine lv_aload_n hx hb d_17_29_227 rfl (lv_at hl 3 rfl) ?_
                  refine q_get (ci := 15) (j := 8) (v := .int lx71) C0 V i_FR rfl rfl hO0 (by decide) w_2084 rfl d_17_29_228 ?_
                  exact q_reti C0 V (Or.inr (Or.inr (Or.inr (Or.inr (Or.inl ⟨lx71, y38, lx72, c15, c19, c23, c27, c40, c65, (show (((-1) < (-x1.toInt) ∧ lx71.toInt = 2) ∨ ((-x1.toInt) ≤ (-1) ∧ lx71.toInt = 2 + 1 * ((-1) - (-x1.toInt) + 1))) from by have t1 : 0 ≤ x1.toInt := q_nltI c15; have t2 : x1.toInt ≤ 1100 := q_nltI c19; have t3 : 0 ≤ x2.toInt := q_nltI c23; have t4 : x2.toInt ≤ 3 := q_leI c27; have t5 : x1.toInt ≤ 1080 := q_leI c40; have t6 : lx51.toInt ≤ 1080 := q_leI c55; have t7 : 0 < x1.toInt := q_nleI c65; have t8 : lx70.toInt < (-x1.toInt) := by { have e1 : (lx70 : Int32).toInt = lx70.toInt := rfl; have e2 : ((-x1) : Int32).toInt = (-x1.toInt) := (q_negI (x := x1.toInt) rfl (by have t1 : 0 ≤ x1.toInt := q_nltI c15; have t2 : x1.toInt ≤ 1100 := q_nltI c19; have t3 : x1.toInt ≤ 1080 := q_leI c40; have t4 : 0 < x1.toInt := q_nleI c65; omega)); have e3 := q_ltI c77; omega }; have eb : (-x1 : Int32).toInt = (-x1.toInt) := (q_negI (x := x1.toInt) rfl (by have t1 : 0 ≤ x1.toInt := q_nltI c15; have t2 : x1.toInt ≤ 1100 := q_nltI c19; have t3 : x1.toInt ≤ 1080 := q_leI c40; have t4 : 0 < x1.toInt := q_nleI c65; have t5 : lx70.toInt < (-x1.toInt) := by { have e1 : (lx70 : Int32).toInt = lx70.toInt := rfl; have e2 : ((-x1) : Int32).toInt = (-x1.toInt) := (q_negI (x := x1.toInt) rfl (by have t1 : 0 ≤ x1.toInt := q_nltI c15; have t2 : x1.toInt ≤ 1100 := q_nltI c19; have t3 : x1.toInt ≤ 1080 := q_leI c40; have t4 : 0 < x1.toInt := q_nleI c65; omega)); have e3 := q_ltI c77; omega }; omega)); omega), (q_Ile (x := 2) (y := lx71.toInt) (by decide) rfl (by have t1 : 0 ≤ x1.toInt := q_nltI c15; have t2 : x1.toInt ≤ 1100 := q_nltI c19; have t3 : x1.toInt ≤ 1080 := q_leI c40; have t4 : 0 < x1.toInt := q_nleI c65; have t5 : lx70.toInt < (-x1.toInt) := by { have e1 : (lx70 : Int32).toInt = lx70.toInt := rfl; have e2 : ((-x1) : Int32).toInt = (-x1.toInt) := (q_negI (x := x1.toInt) rfl (by have t1 : 0 ≤ x1.toInt := q_nltI c15; have t2 : x1.toInt ≤ 1100 := q_nltI c19; have t3 : x1.toInt ≤ 1080 := q_leI c40; have t4 : 0 < x1.toInt := q_nleI c65; omega)); have e3 := q_ltI c77; omega }; omega)), (q_Ile (x := lx71.toInt) (y := 1082) rfl (by decide) (by have t1 : 0 ≤ x1.toInt := q_nltI c15; have t2 : x1.toInt ≤ 1100 := q_nltI c19; have t3 : x1.toInt ≤ 1080 := q_leI c40; have t4 : 0 < x1.toInt := q_nleI c65; have t5 : lx70.toInt < (-x1.toInt) := by { have e1 : (lx70 : Int32).toInt = lx70.toInt := rfl; have e2 : ((-x1) : Int32).toInt = (-x1.toInt) := (q_negI (x := x1.toInt) rfl (by have t1 : 0 ≤ x1.toInt := q_nltI c15; have t2 : x1.toInt ≤ 1100 := q_nltI c19; have t3 : x1.toInt ≤ 1080 := q_leI c40; have t4 : 0 < x1.toInt := q_nleI c65; omega)); have e3 := q_ltI c77; omega }; omega)), rfl, hF, hO0, hA1, hA2, hA3, hA6, hA7⟩))))) d_17_29_231
                ·
                  refine lv_aload_n hx hb d_17_29_208 rfl (lv_at hl 3 rfl) ?_
                  refine lv_bipush (v := 48) hx hb d_17_29_209 (by decide) ?_
                  refine lv_aload_n hx hb d_17_29_211 rfl (lv_at hl 3 rfl) ?_
                  refine lv_iload hx hb d_17_29_212 (lv_at hl 0 rfl) ?_
                  refine q_goi V (q_runV (As := [.int lx70]) (rest := [.int 48, .ref qO0]) (d := 1) (mc := 0) (ms := 0) (ci := 15) C0 V rfl LV_FR_169 (c_FR_figureAt_9 l D g w73 kO0 kA6 qO0 qA1 qA2 qA3 qA4 qA5 qA6 qA7 lx70 lx71 hO0 hA6 (q_Ile (x := (-1081)) (y := lx70.toInt) (by decide) rfl (by have t1 : 0 ≤ x1.toInt := q_nltI c15; have t2 : x1.toInt ≤ 1100 := q_nltI c19; have t3 : x1.toInt ≤ 1080 := q_leI c40; have t4 : 0 < x1.toInt := q_nleI c65; have t5 : (-x1.toInt) ≤ lx70.toInt := by { have e1 : (lx70 : Int32).toInt = lx70.toInt := rfl; have e2 : ((-x1) : Int32).toInt = (-x1.toInt) := (q_negI (x := x1.toInt) rfl (by have t1 : 0 ≤ x1.toInt := q_nltI c15; have t2 : x1.toInt ≤ 1100 := q_nltI c19; have t3 : x1.toInt ≤ 1080 := q_leI c40; have t4 : 0 < x1.toInt := q_nleI c65; omega)); have e3 := q_nltI c77; omega }; omega)) (q_Ile (x := lx70.toInt) (y := (-1)) rfl (by decide) (by have t1 : 0 ≤ x1.toInt := q_nltI c15; have t2 : x1.toInt ≤ 1100 := q_nltI c19; have t3 : x1.toInt ≤ 1080 := q_leI c40; have t4 : 0 < x1.toInt := q_nleI c65; have t5 : (-x1.toInt) ≤ lx70.toInt := by { have e1 : (lx70 : Int32).toInt = lx70.toInt := rfl; have e2 : ((-x1) : Int32).toInt = (-x1.toInt) := (q_negI (x := x1.toInt) rfl (by have t1 : 0 ≤ x1.toInt := q_nltI c15; have t2 : x1.toInt ≤ 1100 := q_nltI c19; have t3 : x1.toInt ≤ 1080 := q_leI c40; have t4 : 0 < x1.toInt := q_nleI c65; omega)); have e3 := q_nltI c77; omega }; omega)) (q_Ile (x := 2) (y := lx71.toInt) (by decide) rfl (by have t1 : 0 ≤ x1.toInt := q_nltI c15; have t2 : x1.toInt ≤ 1100 := q_nltI c19; have t3 : x1.toInt ≤ 1080 := q_leI c40; have t4 : 0 < x1.toInt := q_nleI c65; have t5 : (-x1.toInt) ≤ lx70.toInt := by { have e1 : (lx70 : Int32).toInt = lx70.toInt := rfl; have e2 : ((-x1) : Int32).toInt = (-x1.toInt) := (q_negI (x := x1.toInt) rfl (by have t1 : 0 ≤ x1.toInt := q_nltI c15; have t2 : x1.toInt ≤ 1100 := q_nltI c19; have t3 : x1.toInt ≤ 1080 := q_leI c40; have t4 : 0 < x1.toInt := q_nleI c65; omega)); have e3 := q_nltI c77; omega }; omega)) (q_Ile (x := lx71.toInt) (y := 1082) rfl (by decide) (by have t1 : 0 ≤ x1.toInt := q_nltI c15; have t2 : x1.toInt ≤ 1100 := q_nltI c19; have t3 : x1.toInt ≤ 1080 := q_leI c40; have t4 : 0 < x1.toInt := q_nleI c65; have t5 : (-x1.toInt) ≤ lx70.toInt := by { have e1 : (lx70 : Int32).toInt = lx70.toInt := rfl; have e2 : ((-x1) : Int32).toInt = (-x1.toInt) := (q_negI (x := x1.toInt) rfl (by have t1 : 0 ≤ x1.toInt := q_nltI c15; have t2 : x1.toInt ≤ 1100 := q_nltI c19; have t3 : x1.toInt ≤ 1080 := q_leI c40; have t4 : 0 < x1.toInt := q_nleI c65; omega)); have e3 := q_nltI c77; omega }; omega)) _) rfl rfl hO0 rfl hl.1 rfl (Nat.le_of_ble_eq_true rfl) ⟨by decide, by decide⟩ ⟨Nat.le_of_ble_eq_true rfl, Nat.le_of_ble_eq_true rfl⟩ d_17_29_214) (fun v80 u79 H locs hp78 V => ?_)
                  obtain ⟨rfl, rfl⟩ := hp78
                  refine lv_iadd hx hb d_17_29_217 ?_
                  refine q_ti (v := 48) (by decide) ?_
                  refine q_gov V (q_runV (As := [.int 48]) (rest := []) (d := 1) (mc := 0) (ms := 0) (ci := 15) C0 V rfl LV_FR_110 (c_FR_add_17 l D g w73 kO0 kA7 qO0 qA1 qA2 qA3 qA4 qA5 qA6 qA7 lx71 lx72 hO0 hA7 (q_Ile (x := 2) (y := lx71.toInt) (by decide) rfl (by have t1 : 0 ≤ x1.toInt := q_nltI c15; have t2 : x1.toInt ≤ 1100 := q_nltI c19; have t3 : x1.toInt ≤ 1080 := q_leI c40; have t4 : 0 < x1.toInt := q_nleI c65; have t5 : (-x1.toInt) ≤ lx70.toInt := by { have e1 : (lx70 : Int32).toInt = lx70.toInt := rfl; have e2 : ((-x1) : Int32).toInt = (-x1.toInt) := (q_negI (x := x1.toInt) rfl (by have t1 : 0 ≤ x1.toInt := q_nltI c15; have t2 : x1.toInt ≤ 1100 := q_nltI c19; have t3 : x1.toInt ≤ 1080 := q_leI c40; have t4 : 0 < x1.toInt := q_nleI c65; omega)); have e3 := q_nltI c77; omega }; omega)) (q_Ile (x := lx71.toInt) (y := 1082) rfl (by decide) (by have t1 : 0 ≤ x1.toInt := q_nltI c15; have t2 : x1.toInt ≤ 1100 := q_nltI c19; have t3 : x1.toInt ≤ 1080 := q_leI c40; have t4 : 0 < x1.toInt := q_nleI c65; have t5 : (-x1.toInt) ≤ lx70.toInt := by { have e1 : (lx70 : Int32).toInt = lx70.toInt := rfl; have e2 : ((-x1) : Int32).toInt = (-x1.toInt) := (q_negI (x := x1.toInt) rfl (by have t1 : 0 ≤ x1.toInt := q_nltI c15; have t2 : x1.toInt ≤ 1100 := q_nltI c19; have t3 : x1.toInt ≤ 1080 := q_leI c40; have t4 : 0 < x1.toInt := q_nleI c65; omega)); have e3 := q_nltI c77; omega }; omega)) _) rfl rfl hO0 rfl hl.1 rfl (Nat.le_of_ble_eq_true rfl) ⟨by decide, by decide⟩ ⟨Nat.le_of_ble_eq_true rfl, Nat.le_of_ble_eq_true rfl⟩ d_17_29_218) (fun u83 H locs hp82 V => ?_)
                  obtain ⟨hg84, hO0, hA7⟩ := hp82
                  replace hF := q_uc hF hg84 (q_sc (.head _) (q_sc (List.mem_of_getElem? (i := 5) rfl) (fun _ h => absurd h List.not_mem_nil)))
                  refine lv_iinc (v := lx70 + (-1)) (lv' := [(8, .int (lx70 + (-1))), (7, .int lx51), (6, .int (1080 - x1)), (0, .ref qO0), (1, .long 0), (3, .int 1), (4, .int x1), (5, .int x2)]) hx hb d_17_29_221 hl (k := 0) rfl (rfl) (by decide) rfl (fun ls hl => ?_)
                  refine lv_goto (tgt := 200) hx hb d_17_29_224 (by decide) ?_
                  replace hA1 := (hg84 _ (q_nc n_A1_O0 (q_nc n_A1_A7 List.not_mem_nil))).trans (hA1)
                  replace hA2 := (hg84 _ (q_nc n_A2_O0 (q_nc n_A2_A7 List.not_mem_nil))).trans (hA2)
                  replace hA3 := (hg84 _ (q_nc n_A3_O0 (q_nc n_A3_A7 List.not_mem_nil))).trans (hA3)
                  replace hA6 := (hg84 _ (q_nc n_A6_O0 (q_nc n_A6_A7 List.not_mem_nil))).trans (hA6)
                  exact ih76 ((lx70 + (-1) : Int32), (lx71 + 1 : Int32), (upd lx72 lx71.toNatClampNeg 48 : Nat → Int32)) _ _ _ _ (show ((lx70 + (-1)).toInt - (-x1.toInt) + 1).toNat < (lx70.toInt - (-x1.toInt) + 1).toNat from by have t1 : 0 ≤ x1.toInt := q_nltI c15; have t2 : x1.toInt ≤ 1100 := q_nltI c19; have t3 : x1.toInt ≤ 1080 := q_leI c40; have t4 : 0 < x1.toInt := q_nleI c65; have t5 : (-x1.toInt) ≤ lx70.toInt := by { have e1 : (lx70 : Int32).toInt = lx70.toInt := rfl; have e2 : ((-x1) : Int32).toInt = (-x1.toInt) := (q_negI (x := x1.toInt) rfl (by have t1 : 0 ≤ x1.toInt := q_nltI c15; have t2 : x1.toInt ≤ 1100 := q_nltI c19; have t3 : x1.toInt ≤ 1080 := q_leI c40; have t4 : 0 < x1.toInt := q_nleI c65; omega)); have e3 := q_nltI c77; omega }; have e : (lx70 + (-1)).toInt = (lx70.toInt + (-1)) := (q_addI (x := lx70.toInt) (y := (-1)) rfl (by decide) (by have t1 : 0 ≤ x1.toInt := q_nltI c15; have t2 : x1.toInt ≤ 1100 := q_nltI c19; have t3 : x1.toInt ≤ 1080 := q_leI c40; have t4 : 0 < x1.toInt := q_nleI c65; have t5 : (-x1.toInt) ≤ lx70.toInt := by { have e1 : (lx70 : Int32).toInt = lx70.toInt := rfl; have e2 : ((-x1) : Int32).toInt = (-x1.toInt) := (q_negI (x := x1.toInt) rfl (by have t1 : 0 ≤ x1.toInt := q_nltI c15; have t2 : x1.toInt ≤ 1100 := q_nltI c19; have t3 : x1.toInt ≤ 1080 := q_leI c40; have t4 : 0 < x1.toInt := q_nleI c65; omega)); have e3 := q_nltI c77; omega }; omega) (by have t1 : 0 ≤ x1.toInt := q_nltI c15; have t2 : x1.toInt ≤ 1100 := q_nltI c19; have t3 : x1.toInt ≤ 1080 := q_leI c40; have t4 : 0 < x1.toInt := q_nleI c65; have t5 : (-x1.toInt) ≤ lx70.toInt := by { have e1 : (lx70 : Int32).toInt = lx70.toInt := rfl; have e2 : ((-x1) : Int32).toInt = (-x1.toInt) := (q_negI (x := x1.toInt) rfl (by have t1 : 0 ≤ x1.toInt := q_nltI c15; have t2 : x1.toInt ≤ 1100 := q_nltI c19; have t3 : x1.toInt ≤ 1080 := q_leI c40; have t4 : 0 < x1.toInt := q_nleI c65; omega)); have e3 := q_nltI c77; omega }; omega)); omega) ⟨(show (lx70 + (-1)).toInt ≤ (-1) ∧ ((-x1.toInt) - 1 ≤ (lx70 + (-1)).toInt ∨ (lx70 + (-1)).toInt = (-1)) from by have t1 : 0 ≤ x1.toInt := q_nltI c15; have t2 : x1.toInt ≤ 1100 := q_nltI c19; have t3 : x1.toInt ≤ 1080 := q_leI c40; have t4 : 0 < x1.toInt := q_nleI c65; have t5 : (-x1.toInt) ≤ lx70.toInt := by { have e1 : (lx70 : Int32).toInt = lx70.toInt := rfl; have e2 : ((-x1) : Int32).toInt = (-x1.toInt) := (q_negI (x := x1.toInt) rfl (by have t1 : 0 ≤ x1.toInt := q_nltI c15; have t2 : x1.toInt ≤ 1100 := q_nltI c19; have t3 : x1.toInt ≤ 1080 := q_leI c40; have t4 : 0 < x1.toInt := q_nleI c65; omega)); have e3 := q_nltI c77; omega }; have e : (lx70 + (-1)).toInt = (lx70.toInt + (-1)) := (q_addI (x := lx70.toInt) (y := (-1)) rfl (by decide) (by have t1 : 0 ≤ x1.toInt := q_nltI c15; have t2 : x1.toInt ≤ 1100 := q_nltI c19; have t3 : x1.toInt ≤ 1080 := q_leI c40; have t4 : 0 < x1.toInt := q_nleI c65; have t5 : (-x1.toInt) ≤ lx70.toInt := by { have e1 : (lx70 : Int32).toInt = lx70.toInt := rfl; have e2 : ((-x1) : Int32).toInt = (-x1.toInt) := (q_negI (x := x1.toInt) rfl (by have t1 : 0 ≤ x1.toInt := q_nltI c15; have t2 : x1.toInt ≤ 1100 := q_nltI c19; have t3 : x1.toInt ≤ 1080 := q_leI c40; have t4 : 0 < x1.toInt := q_nleI c65; omega)); have e3 := q_nltI c77; omega }; omega) (by have t1 : 0 ≤ x1.toInt := q_nltI c15; have t2 : x1.toInt ≤ 1100 := q_nltI c19; have t3 : x1.toInt ≤ 1080 := q_leI c40; have t4 : 0 < x1.toInt := q_nleI c65; have t5 : (-x1.toInt) ≤ lx70.toInt := by { have e1 : (lx70 : Int32).toInt = lx70.toInt := rfl; have e2 : ((-x1) : Int32).toInt = (-x1.toInt) := (q_negI (x := x1.toInt) rfl (by have t1 : 0 ≤ x1.toInt := q_nltI c15; have t2 : x1.toInt ≤ 1100 := q_nltI c19; have t3 : x1.toInt ≤ 1080 := q_leI c40; have t4 : 0 < x1.toInt := q_nleI c65; omega)); have e3 := q_nltI c77; omega }; omega)); omega), (show (lx71 + 1 : Int32).toInt = 2 + 1 * ((-1) - (lx70 + (-1) : Int32).toInt) from by have t1 : 0 ≤ x1.toInt := q_nltI c15; have t2 : x1.toInt ≤ 1100 := q_nltI c19; have t3 : 0 ≤ x2.toInt := q_nltI c23; have t4 : x2.toInt ≤ 3 := q_leI c27; have t5 : x1.toInt ≤ 1080 := q_leI c40; have t6 : lx51.toInt ≤ 1080 := q_leI c55; have t7 : 0 < x1.toInt := q_nleI c65; have t8 : (-x1.toInt) ≤ lx70.toInt := by { have e1 : (lx70 : Int32).toInt = lx70.toInt := rfl; have e2 : ((-x1) : Int32).toInt = (-x1.toInt) := (q_negI (x := x1.toInt) rfl (by have t1 : 0 ≤ x1.toInt := q_nltI c15; have t2 : x1.toInt ≤ 1100 := q_nltI c19; have t3 : x1.toInt ≤ 1080 := q_leI c40; have t4 : 0 < x1.toInt := q_nleI c65; omega)); have e3 := q_nltI c77; omega }; have e0 : (lx70 + (-1) : Int32).toInt = (lx70.toInt + (-1)) := (q_addI (x := lx70.toInt) (y := (-1)) rfl (by decide) (by have t1 : 0 ≤ x1.toInt := q_nltI c15; have t2 : x1.toInt ≤ 1100 := q_nltI c19; have t3 : x1.toInt ≤ 1080 := q_leI c40; have t4 : 0 < x1.toInt := q_nleI c65; have t5 : (-x1.toInt) ≤ lx70.toInt := by { have e1 : (lx70 : Int32).toInt = lx70.toInt := rfl; have e2 : ((-x1) : Int32).toInt = (-x1.toInt) := (q_negI (x := x1.toInt) rfl (by have t1 : 0 ≤ x1.toInt := q_nltI c15; have t2 : x1.toInt ≤ 1100 := q_nltI c19; have t3 : x1.toInt ≤ 1080 := q_leI c40; have t4 : 0 < x1.toInt := q_nleI c65; omega)); have e3 := q_nltI c77; omega }; omega) (by have t1 : 0 ≤ x1.toInt := q_nltI c15; have t2 : x1.toInt ≤ 1100 := q_nltI c19; have t3 : x1.toInt ≤ 1080 := q_leI c40; have t4 : 0 < x1.toInt := q_nleI c65; have t5 : (-x1.toInt) ≤ lx70.toInt := by { have e1 : (lx70 : Int32).toInt = lx70.toInt := rfl; have e2 : ((-x1) : Int32).toInt = (-x1.toInt) := (q_negI (x := x1.toInt) rfl (by have t1 : 0 ≤ x1.toInt := q_nltI c15; have t2 : x1.toInt ≤ 1100 := q_nltI c19; have t3 : x1.toInt ≤ 1080 := q_leI c40; have t4 : 0 < x1.toInt := q_nleI c65; omega)); have e3 := q_nltI c77; omega }; omega)); have e1 : (lx71 + 1 : Int32).toInt = (lx71.toInt + 1) := (q_addI (x := lx71.toInt) (y := 1) rfl (by decide) (by have t1 : 0 ≤ x1.toInt := q_nltI c15; have t2 : x1.toInt ≤ 1100 := q_nltI c19; have t3 : x1.toInt ≤ 1080 := q_leI c40; have t4 : 0 < x1.toInt := q_nleI c65; have t5 : (-x1.toInt) ≤ lx70.toInt := by { have e1 : (lx70 : Int32).toInt = lx70.toInt := rfl; have e2 : ((-x1) : Int32).toInt = (-x1.toInt) := (q_negI (x := x1.toInt) rfl (by have t1 : 0 ≤ x1.toInt := q_nltI c15; have t2 : x1.toInt ≤ 1100 := q_nltI c19; have t3 : x1.toInt ≤ 1080 := q_leI c40; have t4 : 0 < x1.toInt := q_nleI c65; omega)); have e3 := q_nltI c77; omega }; omega) (by have t1 : 0 ≤ x1.toInt := q_nltI c15; have t2 : x1.toInt ≤ 1100 := q_nltI c19; have t3 : x1.toInt ≤ 1080 := q_leI c40; have t4 : 0 < x1.toInt := q_nleI c65; have t5 : (-x1.toInt) ≤ lx70.toInt := by { have e1 : (lx70 : Int32).toInt = lx70.toInt := rfl; have e2 : ((-x1) : Int32).toInt = (-x1.toInt) := (q_negI (x := x1.toInt) rfl (by have t1 : 0 ≤ x1.toInt := q_nltI c15; have t2 : x1.toInt ≤ 1100 := q_nltI c19; have t3 : x1.toInt ≤ 1080 := q_leI c40; have t4 : 0 < x1.toInt := q_nleI c65; omega)); have e3 := q_nltI c77; omega }; omega)); omega), V, q_lw hl (q_lw1 0 rfl (q_lw1 1 rfl (q_lw1 2 rfl (q_lw1 3 rfl (q_lw1 4 rfl (q_lw1 5 rfl (q_lw1 6 rfl (q_lw1 7 rfl q_lw0)))))))), hF, hO0, hA1, hA2, hA3, hA6, hA7⟩
            ·
              refine lv_aload_n hx hb d_17_29_138 rfl (lv_at hl 2 rfl) ?_
              refine q_get (ci := 15) (j := 6) (v := .ref qA6) C0 V i_FR rfl rfl hO0 (by decide) w_2081 rfl d_17_29_139 ?_
              refine lv_iload hx hb d_17_29_142 (lv_at hl 0 rfl) ?_
              refine q_iald C0 V hA6 (q_ix (x := lx51.toInt) rfl (by have t1 : 1080 < lx51.toInt := q_nleI c55; omega) (by have t1 : 1080 < lx51.toInt := q_nleI c55; omega)) d_17_29_144 ?_
              refine q_ti (v := 0) (by first | rfl | decide | simp [upd, vp_updL, sb_cl0]) ?_
              refine lv_if_ne (tgt := 154) hx hb d_17_29_145 (by decide) (fun c85 => absurd (by decide) c85) (fun c85 => ?_)
              refine lv_iinc (v := lx51 + (-1)) (lv' := [(7, .int (lx51 + (-1))), (6, .int (1080 - x1)), (0, .ref qO0), (1, .long 0), (3, .int 1), (4, .int x1), (5, .int x2)]) hx hb d_17_29_148 hl (k := 0) rfl (rfl) (by decide) rfl (fun ls hl => ?_)
              refine lv_goto (tgt := 130) hx hb d_17_29_151 (by decide) ?_
              exact ih54 ((lx51 + (-1) : Int32)) _ _ _ _ (show ((lx51 + (-1)).toInt - 1080).toNat < (lx51.toInt - 1080).toNat from by have t1 : 1080 < lx51.toInt := q_nleI c55; have e : (lx51 + (-1)).toInt = (lx51.toInt + (-1)) := (q_addI (x := lx51.toInt) (y := (-1)) rfl (by decide) (by have t1 : 1080 < lx51.toInt := q_nleI c55; omega) (by have t1 : 1080 < lx51.toInt := q_nleI c55; omega)); omega) ⟨(show 1080 ≤ (lx51 + (-1)).toInt ∧ (lx51 + (-1)).toInt ≤ 1403 from by have t1 : 1080 < lx51.toInt := q_nleI c55; have e : (lx51 + (-1)).toInt = (lx51.toInt + (-1)) := (q_addI (x := lx51.toInt) (y := (-1)) rfl (by decide) (by have t1 : 1080 < lx51.toInt := q_nleI c55; omega) (by have t1 : 1080 < lx51.toInt := q_nleI c55; omega)); omega), V, q_lw hl (q_lw1 0 rfl (q_lw1 1 rfl (q_lw1 2 rfl (q_lw1 3 rfl (q_lw1 4 rfl (q_lw1 5 rfl (q_lw1 6 rfl q_lw0))))))), hF, hO0, hA1, hA2, hA3, hA6, hA7⟩
          ·
            refine lv_iconst (v := 0) hx hb d_17_29_95 (by decide) ?_
            refine lv_goto (tgt := 105) hx hb d_17_29_96 (by decide) ?_
            refine lv_istore (lv' := [(6, .int 0), (0, .ref qO0), (1, .long 0), (3, .int 1), (4, .int x1), (5, .int x2)]) hx hb d_17_29_105 hl (by decide) rfl (fun ls hl => ?_)
            refine lv_aload_n hx hb d_17_29_107 rfl (lv_at hl 1 rfl) ?_
            refine lv_iload hx hb d_17_29_108 (lv_at hl 0 rfl) ?_
            refine lv_aload_n hx hb d_17_29_110 rfl (lv_at hl 1 rfl) ?_
            refine lv_iload hx hb d_17_29_111 (lv_at hl 0 rfl) ?_
            refine lv_iload hx hb d_17_29_113 (lv_at hl 5 rfl) ?_
            replace hO0 := (hg39 _ (q_nc n_O0_A1 (q_nc n_O0_A2 (q_nc n_O0_A3 List.not_mem_nil)))).trans (hO0)
            refine q_goi V (q_runV (As := [.int 0, .int x2]) (rest := [.int 0, .ref qO0]) (d := 1) (mc := 0) (ms := 0) (ci := 15) C0 V rfl LV_FR_165 (c_FR_isMore_6 l D g u37 kO0 kA3 qO0 qA1 qA2 qA3 qA4 qA5 qA6 qA7 0 x2 hO0 hA3 (q_Ile (x := 0) (y := 0) (by decide) (by decide) (by omega)) (q_Ile (x := 0) (y := 1080) (by decide) (by decide) (by omega)) (q_Ile (x := 0) (y := x2.toInt) (by decide) rfl (by have t1 : 0 ≤ x2.toInt := q_nltI c23; have t2 : x2.toInt ≤ 3 := q_leI c27; omega)) c27 _) rfl rfl hO0 rfl hl.1 rfl (Nat.le_of_ble_eq_true rfl) ⟨by decide, by decide⟩ ⟨Nat.le_of_ble_eq_true rfl, Nat.le_of_ble_eq_true rfl⟩ d_17_29_115) (fun v88 u87 H locs hp86 V => ?_)
            obtain ⟨rfl, rfl⟩ := hp86
            replace hA6 := (hg39 _ (q_nc n_A6_A1 (q_nc n_A6_A2 (q_nc n_A6_A3 List.not_mem_nil)))).trans ((hu34 _ n_A6_O0).trans ((hg9 _ (q_nc n_A6_O0 List.not_mem_nil)).trans (hA6)))
            refine q_gov V (q_runV (As := [.int 0, .int 0]) (rest := []) (d := 1) (mc := 0) (ms := 0) (ci := 15) C0 V rfl LV_FR_81 (c_FR_cut_6 l D g u37 kO0 kA3 kA6 qO0 qA1 qA2 qA3 qA4 qA5 qA6 qA7 0 hO0 hA3 hA6 n_A3_A6 (q_Ile (x := 0) (y := 0) (by decide) (by decide) (by omega)) (q_Ile (x := 0) (y := 1080) (by decide) (by decide) (by omega)) _) rfl rfl hO0 rfl hl.1 rfl (Nat.le_of_ble_eq_true rfl) ⟨by decide, by decide⟩ ⟨Nat.le_of_ble_eq_true rfl, Nat.le_of_ble_eq_true rfl⟩ d_17_29_118) (fun u91 H locs hp90 V => ?_)
            obtain ⟨hg92, hA6⟩ := hp90
            replace hF := q_uc hF hg92 (q_sc (List.mem_of_getElem? (i := 4) rfl) (fun _ h => absurd h List.not_mem_nil))
            refine lv_aload_n hx hb d_17_29_121 rfl (lv_at hl 1 rfl) ?_
            replace hO0 := (hg92 _ (q_nc n_O0_A6 List.not_mem_nil)).trans (hO0)
            refine q_gov V (q_runV (As := []) (rest := []) (d := 1) (mc := 0) (ms := 0) (ci := 15) C0 V rfl LV_FR_113 (c_FR_begin_2 l D g u91 kO0 qO0 qA1 qA2 qA3 qA4 qA5 qA6 qA7 hO0 _) rfl rfl hO0 rfl hl.1 rfl (Nat.le_of_ble_eq_true rfl) ⟨by decide, by decide⟩ ⟨Nat.le_of_ble_eq_true rfl, Nat.le_of_ble_eq_true rfl⟩ d_17_29_122) (fun u94 H locs hp93 V => ?_)
            obtain ⟨hg95, hO0⟩ := hp93
            replace hF := q_uc hF hg95 (q_sc (.head _) (fun _ h => absurd h List.not_mem_nil))
            refine lv_sipush (v := 1403) hx hb d_17_29_125 (by decide) ?_
            refine lv_istore (lv' := [(7, .int 1403), (6, .int 0), (0, .ref qO0), (1, .long 0), (3, .int 1), (4, .int x1), (5, .int x2)]) hx hb d_17_29_128 hl (by decide) rfl (fun ls hl => ?_)
            replace hA1 := (hg95 _ (q_nc n_A1_O0 List.not_mem_nil)).trans ((hg92 _ (q_nc n_A1_A6 List.not_mem_nil)).trans (hA1))
            replace hA2 := (hg95 _ (q_nc n_A2_O0 List.not_mem_nil)).trans ((hg92 _ (q_nc n_A2_A6 List.not_mem_nil)).trans (hA2))
            replace hA3 := (hg95 _ (q_nc n_A3_O0 List.not_mem_nil)).trans ((hg92 _ (q_nc n_A3_A6 List.not_mem_nil)).trans (hA3))
            replace hA6 := (hg95 _ (q_nc n_A6_O0 List.not_mem_nil)).trans (hA6)
            replace hA7 := (hg95 _ (q_nc n_A7_O0 List.not_mem_nil)).trans ((hg92 _ (q_nc n_A7_A6 List.not_mem_nil)).trans ((hg39 _ (q_nc n_A7_A1 (q_nc n_A7_A2 (q_nc n_A7_A3 List.not_mem_nil)))).trans ((hu34 _ n_A7_O0).trans ((hg9 _ (q_nc n_A7_O0 List.not_mem_nil)).trans (hA7)))))
            refine q_loop (X := Int32) (fun z H locs ls w97 => (1080 ≤ z.toInt ∧ z.toInt ≤ 1403) ∧ q_Wd D g (va_A ws sz) s w97 H locs ∧ lv_has ls 9 [(7, .int z), (6, .int 0), (0, .ref qO0), (1, .long 0), (3, .int 1), (4, .int x1), (5, .int x2)] ∧ q_un ws w97 [kO0, kA1, kA2, kA3, kA6, kA7] ∧ w97[kO0]? = some (qO0, .inr (15, [.int 0, .ref qA1, .ref qA2, .ref qA3, .ref qA4, .ref qA5, .ref qA6, .ref qA7, .int 0, .int 0, .int 0, .long 0, .int 23, .int 255, .long 0, .int (-149), .long 0, .int 0])) ∧ w97[kA1]? = some (qA1, .inl (g 0, 156, .inl y38)) ∧ w97[kA2]? = some (qA2, .inl (g 0, 156, .inl (fun _ => 0))) ∧ w97[kA3]? = some (qA3, .inl (g 0, 1404, .inl (fun _ => 0))) ∧ w97[kA6]? = some (qA6, .inl (g 0, 1404, .inl (fun _ => 0))) ∧ w97[kA7]? = some (qA7, .inl (g 0, 1600, .inl (fun _ => 0)))) (fun z => (z.toInt - 1080).toNat) ?_ ((1403 : Int32)) _ _ _ u94 ⟨⟨by decide, by decide⟩, V, hl, hF, hO0, hA1, hA2, hA3, hA6, hA7⟩
            rintro lx96 H locs ls w97 ⟨i98, V, hl, hF, hO0, hA1, hA2, hA3, hA6, hA7⟩ ih99
            replace i98 : 1080 ≤ lx96.toInt ∧ lx96.toInt ≤ 1403 := i98
            replace hl : lv_has ls 9 [(7, .int lx96), (6, .int 0), (0, .ref qO0), (1, .long 0), (3, .int 1), (4, .int x1), (5, .int x2)] := hl
            replace hO0 : w97[kO0]? = some (qO0, .inr (15, [.int 0, .ref qA1, .ref qA2, .ref qA3, .ref qA4, .ref qA5, .ref qA6, .ref qA7, .int 0, .int 0, .int 0, .long 0, .int 23, .int 255, .long 0, .int (-149), .long 0, .int 0])) := hO0
            replace hA1 : w97[kA1]? = some (qA1, .inl (g 0, 156, .inl y38)) := hA1
            replace hA2 : w97[kA2]? = some (qA2, .inl (g 0, 156, .inl (fun _ => 0))) := hA2
            replace hA3 : w97[kA3]? = some (qA3, .inl (g 0, 1404, .inl (fun _ => 0))) := hA3
            replace hA6 : w97[kA6]? = some (qA6, .inl (g 0, 1404, .inl (fun _ => 0))) := hA6
            replace hA7 : w97[kA7]? = some (qA7, .inl (g 0, 1600, .inl (fun _ => 0))) := hA7
            refine lv_iload hx hb d_17_29_130 (lv_at hl 0 rfl) ?_
            refine lv_sipush (v := 1080) hx hb d_17_29_132 (by decide) ?_
            refine lv_icmp_le (tgt := 154) hx hb d_17_29_135 (by decide) (fun c100 => ?_) (fun c100 => ?_)
            ·
              refine lv_iload hx hb d_17_29_154 (lv_at hl 0 rfl) ?_
              refine q_ti (v := 1080) (q_Ieq (x := lx96.toInt) (y := 1080) rfl (by decide) (by have t1 : lx96.toInt ≤ 1080 := q_leI c100; omega)) ?_
              refine lv_sipush (v := 1080) hx hb d_17_29_156 (by decide) ?_
              refine lv_isub hx hb d_17_29_159 ?_
              refine q_ti (v := 0) (by decide) ?_
              refine lv_istore (lv' := [(8, .int 0), (7, .int lx96), (6, .int 0), (0, .ref qO0), (1, .long 0), (3, .int 1), (4, .int x1), (5, .int x2)]) hx hb d_17_29_160 hl (by decide) rfl (fun ls hl => ?_)
              refine lv_iload hx hb d_17_29_162 (lv_at hl 0 rfl) ?_
              refine lv_if_lt (tgt := 186) hx hb d_17_29_164 (by decide) (fun c101 => absurd c101 (by decide)) (fun c101 => ?_)
              refine lv_aload_n hx hb d_17_29_167 rfl (lv_at hl 3 rfl) ?_
              refine lv_bipush (v := 48) hx hb d_17_29_168 (by decide) ?_
              refine lv_aload_n hx hb d_17_29_170 rfl (lv_at hl 3 rfl) ?_
              refine lv_iload hx hb d_17_29_171 (lv_at hl 0 rfl) ?_
              refine q_goi V (q_runV (As := [.int 0]) (rest := [.int 48, .ref qO0]) (d := 1) (mc := 0) (ms := 0) (ci := 15) C0 V rfl LV_FR_169 (c_FR_figureAt_3 l D g w97 kO0 kA6 qO0 qA1 qA2 qA3 qA4 qA5 qA6 qA7 hO0 hA6 _) rfl rfl hO0 rfl hl.1 rfl (Nat.le_of_ble_eq_true rfl) ⟨by decide, by decide⟩ ⟨Nat.le_of_ble_eq_true rfl, Nat.le_of_ble_eq_true rfl⟩ d_17_29_173) (fun v104 u103 H locs hp102 V => ?_)
              obtain ⟨rfl, rfl⟩ := hp102
              refine lv_iadd hx hb d_17_29_176 ?_
              refine q_ti (v := 48) (by decide) ?_
              refine q_gov V (q_runV (As := [.int 48]) (rest := []) (d := 1) (mc := 0) (ms := 0) (ci := 15) C0 V rfl LV_FR_110 (c_FR_add_4 l D g w97 kO0 kA7 qO0 qA1 qA2 qA3 qA4 qA5 qA6 qA7 hO0 hA7 _) rfl rfl hO0 rfl hl.1 rfl (Nat.le_of_ble_eq_true rfl) ⟨by decide, by decide⟩ ⟨Nat.le_of_ble_eq_true rfl, Nat.le_of_ble_eq_true rfl⟩ d_17_29_177) (fun u107 H locs hp106 V => ?_)
              obtain ⟨hg108, hO0, hA7⟩ := hp106
              replace hF := q_uc hF hg108 (q_sc (.head _) (q_sc (List.mem_of_getElem? (i := 5) rfl) (fun _ h => absurd h List.not_mem_nil)))
              refine lv_iinc (v := (-1)) (lv' := [(8, .int (-1)), (7, .int lx96), (6, .int 0), (0, .ref qO0), (1, .long 0), (3, .int 1), (4, .int x1), (5, .int x2)]) hx hb d_17_29_180 hl (k := 0) rfl (by decide) (by decide) rfl (fun ls hl => ?_)
              refine lv_goto (tgt := 162) hx hb d_17_29_183 (by decide) ?_
              refine lv_iload hx hb d_17_29_162 (lv_at hl 0 rfl) ?_
              refine lv_if_lt (tgt := 186) hx hb d_17_29_164 (by decide) (fun c109 => ?_) (fun c109 => absurd (by decide) c109)
              refine lv_iload hx hb d_17_29_186 (lv_at hl 6 rfl) ?_
              refine lv_if_le (tgt := 197) hx hb d_17_29_188 (by decide) (fun c110 => absurd c110 (Int32.not_le.mpr (q_Ilt (x := 0) (y := x1.toInt) (by decide) rfl (by have t1 : 0 ≤ x1.toInt := q_nltI c15; have t2 : x1.toInt ≤ 1100 := q_nltI c19; have t3 : 1080 < x1.toInt := q_nleI c40; omega)))) (fun c110 => ?_)
              refine lv_aload_n hx hb d_17_29_191 rfl (lv_at hl 3 rfl) ?_
              refine lv_bipush (v := 46) hx hb d_17_29_192 (by decide) ?_
              refine q_gov V (q_runV (As := [.int 46]) (rest := []) (d := 1) (mc := 0) (ms := 0) (ci := 15) C0 V rfl LV_FR_110 (c_FR_add_5 l D g u107 kO0 kA7 qO0 qA1 qA2 qA3 qA4 qA5 qA6 qA7 hO0 hA7 _) rfl rfl hO0 rfl hl.1 rfl (Nat.le_of_ble_eq_true rfl) ⟨by decide, by decide⟩ ⟨Nat.le_of_ble_eq_true rfl, Nat.le_of_ble_eq_true rfl⟩ d_17_29_194) (fun u112 H locs hp111 V => ?_)
              obtain ⟨hg113, hO0, hA7⟩ := hp111
              replace hF := q_uc hF hg113 (q_sc (.head _) (q_sc (List.mem_of_getElem? (i := 5) rfl) (fun _ h => absurd h List.not_mem_nil)))
              refine lv_iconst (v := (-1)) hx hb d_17_29_197 (by decide) ?_
              refine lv_istore (lv' := [(8, .int (-1)), (7, .int lx96), (6, .int 0), (0, .ref qO0), (1, .long 0), (3, .int 1), (4, .int x1), (5, .int x2)]) hx hb d_17_29_198 hl (by decide) rfl (fun ls hl => ?_)
              replace hA1 := (hg113 _ (q_nc n_A1_O0 (q_nc n_A1_A7 List.not_mem_nil))).trans ((hg108 _ (q_nc n_A1_O0 (q_nc n_A1_A7 List.not_mem_nil))).trans (hA1))
              replace hA2 := (hg113 _ (q_nc n_A2_O0 (q_nc n_A2_A7 List.not_mem_nil))).trans ((hg108 _ (q_nc n_A2_O0 (q_nc n_A2_A7 List.not_mem_nil))).trans (hA2))
              replace hA3 := (hg113 _ (q_nc n_A3_O0 (q_nc n_A3_A7 List.not_mem_nil))).trans ((hg108 _ (q_nc n_A3_O0 (q_nc n_A3_A7 List.not_mem_nil))).trans (hA3))
              replace hA6 := (hg113 _ (q_nc n_A6_O0 (q_nc n_A6_A7 List.not_mem_nil))).trans ((hg108 _ (q_nc n_A6_O0 (q_nc n_A6_A7 List.not_mem_nil))).trans (hA6))
              refine q_loop (X := Int32 × Int32 × (Nat → Int32)) (fun z H locs ls w117 => (z.1.toInt ≤ (-1) ∧ ((-x1.toInt) - 1 ≤ z.1.toInt ∨ z.1.toInt = (-1))) ∧ (z.2.1.toInt = 2 + 1 * ((-1) - z.1.toInt)) ∧ q_Wd D g (va_A ws sz) s w117 H locs ∧ lv_has ls 9 [(8, .int z.1), (7, .int lx96), (6, .int 0), (0, .ref qO0), (1, .long 0), (3, .int 1), (4, .int x1), (5, .int x2)] ∧ q_un ws w117 [kO0, kA1, kA2, kA3, kA6, kA7] ∧ w117[kO0]? = some (qO0, .inr (15, [.int 0, .ref qA1, .ref qA2, .ref qA3, .ref qA4, .ref qA5, .ref qA6, .ref qA7, .int z.2.1, .int 0, .int 0, .long 0, .int 23, .int 255, .long 0, .int (-149), .long 0, .int 0])) ∧ w117[kA1]? = some (qA1, .inl (g 0, 156, .inl y38)) ∧ w117[kA2]? = some (qA2, .inl (g 0, 156, .inl (fun _ => 0))) ∧ w117[kA3]? = some (qA3, .inl (g 0, 1404, .inl (fun _ => 0))) ∧ w117[kA6]? = some (qA6, .inl (g 0, 1404, .inl (fun _ => 0))) ∧ w117[kA7]? = some (qA7, .inl (g 0, 1600, .inl z.2.2))) (fun z => (z.1.toInt - (-x1.toInt) + 1).toNat) ?_ (((-1) : Int32), (2 : Int32), (upd (upd (fun _ => 0) 0 48) 1 46 : (Nat → Int32))) _ _ _ u112 ⟨⟨(by dsimp only; decide), Or.inr (by dsimp only; decide)⟩, (show (2 : Int32).toInt = 2 + 1 * ((-1) - ((-1) : Int32).toInt) from by have t1 : 0 ≤ x1.toInt := q_nltI c15; have t2 : x1.toInt ≤ 1100 := q_nltI c19; have t3 : 0 ≤ x2.toInt := q_nltI c23; have t4 : x2.toInt ≤ 3 := q_leI c27; have t5 : 1080 < x1.toInt := q_nleI c40; have t6 : lx96.toInt ≤ 1080 := q_leI c100; have e1 : (2 : Int32).toInt = 2 := (by decide); have e2 : (((-1) : Int32)).toInt = (-1) := (by decide); omega), V, hl, hF, hO0, hA1, hA2, hA3, hA6, hA7⟩
              rintro ⟨lx114, lx115, lx116⟩ H locs ls w117 ⟨i118, i119, V, hl, hF, hO0, hA1, hA2, hA3, hA6, hA7⟩ ih120
              replace i118 : lx114.toInt ≤ (-1) ∧ ((-x1.toInt) - 1 ≤ lx114.toInt ∨ lx114.toInt = (-1)) := i118
              replace i119 : lx115.toInt = 2 + 1 * ((-1) - lx114.toInt) := i119
              replace hl : lv_has ls 9 [(8, .int lx114), (7, .int lx96), (6, .int 0), (0, .ref qO0), (1, .long 0), (3, .int 1), (4, .int x1), (5, .int x2)] := hl
              replace hO0 : w117[kO0]? = some (qO0, .inr (15, [.int 0, .ref qA1, .ref qA2, .ref qA3, .ref qA4, .ref qA5, .ref qA6, .ref qA7, .int lx115, .int 0, .int 0, .long 0, .int 23, .int 255, .long 0, .int (-149), .long 0, .int 0])) := hO0
              replace hA1 : w117[kA1]? = some (qA1, .inl (g 0, 156, .inl y38)) := hA1
              replace hA2 : w117[kA2]? = some (qA2, .inl (g 0, 156, .inl (fun _ => 0))) := hA2
              replace hA3 : w117[kA3]? = some (qA3, .inl (g 0, 1404, .inl (fun _ => 0))) := hA3
              replace hA6 : w117[kA6]? = some (qA6, .inl (g 0, 1404, .inl (fun _ => 0))) := hA6
              replace hA7 : w117[kA7]? = some (qA7, .inl (g 0, 1600, .inl lx116)) := hA7
              refine lv_iload hx hb d_17_29_200 (lv_at hl 0 rfl) ?_
              refine lv_iload hx hb d_17_29_202 (lv_at hl 6 rfl) ?_
              refine lv_ineg hx hb d_17_29_204 ?_
              refine lv_icmp_lt (tgt := 227) hx hb d_17_29_205 (by decide) (fun c121 => ?_) (fun c121 => ?_)
              ·
                refine lv_aload_n hx hb d_17_29_227 rfl (lv_at hl 3 rfl) ?_
                refine q_get (ci := 15) (j := 8) (v := .int lx115) C0 V i_FR rfl rfl hO0 (by decide) w_2084 rfl d_17_29_228 ?_
                exact q_reti C0 V (Or.inr (Or.inr (Or.inr (Or.inr (Or.inr (Or.inl ⟨lx115, y38, lx116, c15, c19, c23, c27, c40, (show (((-1) < (-x1.toInt) ∧ lx115.toInt = 2) ∨ ((-x1.toInt) ≤ (-1) ∧ lx115.toInt = 2 + 1 * ((-1) - (-x1.toInt) + 1))) from by have t1 : 0 ≤ x1.toInt := q_nltI c15; have t2 : x1.toInt ≤ 1100 := q_nltI c19; have t3 : 0 ≤ x2.toInt := q_nltI c23; have t4 : x2.toInt ≤ 3 := q_leI c27; have t5 : 1080 < x1.toInt := q_nleI c40; have t6 : lx96.toInt ≤ 1080 := q_leI c100; have t7 : lx114.toInt < (-x1.toInt) := by { have e1 : (lx114 : Int32).toInt = lx114.toInt := rfl; have e2 : ((-x1) : Int32).toInt = (-x1.toInt) := (q_negI (x := x1.toInt) rfl (by have t1 : 0 ≤ x1.toInt := q_nltI c15; have t2 : x1.toInt ≤ 1100 := q_nltI c19; have t3 : 1080 < x1.toInt := q_nleI c40; omega)); have e3 := q_ltI c121; omega }; have eb : (-x1 : Int32).toInt = (-x1.toInt) := (q_negI (x := x1.toInt) rfl (by have t1 : 0 ≤ x1.toInt := q_nltI c15; have t2 : x1.toInt ≤ 1100 := q_nltI c19; have t3 : 1080 < x1.toInt := q_nleI c40; have t4 : lx114.toInt < (-x1.toInt) := by { have e1 : (lx114 : Int32).toInt = lx114.toInt := rfl; have e2 : ((-x1) : Int32).toInt = (-x1.toInt) := (q_negI (x := x1.toInt) rfl (by have t1 : 0 ≤ x1.toInt := q_nltI c15; have t2 : x1.toInt ≤ 1100 := q_nltI c19; have t3 : 1080 < x1.toInt := q_nleI c40; omega)); have e3 := q_ltI c121; omega }; omega)); omega), (q_Ile (x := 2) (y := lx115.toInt) (by decide) rfl (by have t1 : 0 ≤ x1.toInt := q_nltI c15; have t2 : x1.toInt ≤ 1100 := q_nltI c19; have t3 : 1080 < x1.toInt := q_nleI c40; have t4 : lx114.toInt < (-x1.toInt) := by { have e1 : (lx114 : Int32).toInt = lx114.toInt := rfl; have e2 : ((-x1) : Int32).toInt = (-x1.toInt) := (q_negI (x := x1.toInt) rfl (by have t1 : 0 ≤ x1.toInt := q_nltI c15; have t2 : x1.toInt ≤ 1100 := q_nltI c19; have t3 : 1080 < x1.toInt := q_nleI c40; omega)); have e3 := q_ltI c121; omega }; omega)), (q_Ile (x := lx115.toInt) (y := 1102) rfl (by decide) (by have t1 : 0 ≤ x1.toInt := q_nltI c15; have t2 : x1.toInt ≤ 1100 := q_nltI c19; have t3 : 1080 < x1.toInt := q_nleI c40; have t4 : lx114.toInt < (-x1.toInt) := by { have e1 : (lx114 : Int32).toInt = lx114.toInt := rfl; have e2 : ((-x1) : Int32).toInt = (-x1.toInt) := (q_negI (x := x1.toInt) rfl (by have t1 : 0 ≤ x1.toInt := q_nltI c15; have t2 : x1.toInt ≤ 1100 := q_nltI c19; have t3 : 1080 < x1.toInt := q_nleI c40; omega)); have e3 := q_ltI c121; omega }; omega)), rfl, hF, hO0, hA1, hA2, hA3, hA6, hA7⟩)))))) d_17_29_231
              ·
                refine lv_aload_n hx hb d_17_29_208 rfl (lv_at hl 3 rfl) ?_
                refine lv_bipush (v := 48) hx hb d_17_29_209 (by decide) ?_
                refine lv_aload_n hx hb d_17_29_211 rfl (lv_at hl 3 rfl) ?_
                refine lv_iload hx hb d_17_29_212 (lv_at hl 0 rfl) ?_
                refine q_goi V (q_runV (As := [.int lx114]) (rest := [.int 48, .ref qO0]) (d := 1) (mc := 0) (ms := 0) (ci := 15) C0 V rfl LV_FR_169 (c_FR_figureAt_10 l D g w117 kO0 kA6 qO0 qA1 qA2 qA3 qA4 qA5 qA6 qA7 lx114 lx115 hO0 hA6 (q_Ile (x := (-1101)) (y := lx114.toInt) (by decide) rfl (by have t1 : 0 ≤ x1.toInt := q_nltI c15; have t2 : x1.toInt ≤ 1100 := q_nltI c19; have t3 : 1080 < x1.toInt := q_nleI c40; have t4 : (-x1.toInt) ≤ lx114.toInt := by { have e1 : (lx114 : Int32).toInt = lx114.toInt := rfl; have e2 : ((-x1) : Int32).toInt = (-x1.toInt) := (q_negI (x := x1.toInt) rfl (by have t1 : 0 ≤ x1.toInt := q_nltI c15; have t2 : x1.toInt ≤ 1100 := q_nltI c19; have t3 : 1080 < x1.toInt := q_nleI c40; omega)); have e3 := q_nltI c121; omega }; omega)) (q_Ile (x := lx114.toInt) (y := (-1)) rfl (by decide) (by have t1 : 0 ≤ x1.toInt := q_nltI c15; have t2 : x1.toInt ≤ 1100 := q_nltI c19; have t3 : 1080 < x1.toInt := q_nleI c40; have t4 : (-x1.toInt) ≤ lx114.toInt := by { have e1 : (lx114 : Int32).toInt = lx114.toInt := rfl; have e2 : ((-x1) : Int32).toInt = (-x1.toInt) := (q_negI (x := x1.toInt) rfl (by have t1 : 0 ≤ x1.toInt := q_nltI c15; have t2 : x1.toInt ≤ 1100 := q_nltI c19; have t3 : 1080 < x1.toInt := q_nleI c40; omega)); have e3 := q_nltI c121; omega }; omega)) (q_Ile (x := 2) (y := lx115.toInt) (by decide) rfl (by have t1 : 0 ≤ x1.toInt := q_nltI c15; have t2 : x1.toInt ≤ 1100 := q_nltI c19; have t3 : 1080 < x1.toInt := q_nleI c40; have t4 : (-x1.toInt) ≤ lx114.toInt := by { have e1 : (lx114 : Int32).toInt = lx114.toInt := rfl; have e2 : ((-x1) : Int32).toInt = (-x1.toInt) := (q_negI (x := x1.toInt) rfl (by have t1 : 0 ≤ x1.toInt := q_nltI c15; have t2 : x1.toInt ≤ 1100 := q_nltI c19; have t3 : 1080 < x1.toInt := q_nleI c40; omega)); have e3 := q_nltI c121; omega }; omega)) (q_Ile (x := lx115.toInt) (y := 1102) rfl (by decide) (by have t1 : 0 ≤ x1.toInt := q_nltI c15; have t2 : x1.toInt ≤ 1100 := q_nltI c19; have t3 : 1080 < x1.toInt := q_nleI c40; have t4 : (-x1.toInt) ≤ lx114.toInt := by { have e1 : (lx114 : Int32).toInt = lx114.toInt := rfl; have e2 : ((-x1) : Int32).toInt = (-x1.toInt) := (q_negI (x := x1.toInt) rfl (by have t1 : 0 ≤ x1.toInt := q_nltI c15; have t2 : x1.toInt ≤ 1100 := q_nltI c19; have t3 : 1080 < x1.toInt := q_nleI c40; omega)); have e3 := q_nltI c121; omega }; omega)) _) rfl rfl hO0 rfl hl.1 rfl (Nat.le_of_ble_eq_true rfl) ⟨by decide, by decide⟩ ⟨Nat.le_of_ble_eq_true rfl, Nat.le_of_ble_eq_true rfl⟩ d_17_29_214) (fun v124 u123 H locs hp122 V => ?_)
                obtain ⟨rfl, rfl⟩ := hp122
                refine lv_iadd hx hb d_17_29_217 ?_
                refine q_ti (v := 48) (by decide) ?_
                refine q_gov V (q_runV (As := [.int 48]) (rest := []) (d := 1) (mc := 0) (ms := 0) (ci := 15) C0 V rfl LV_FR_110 (c_FR_add_18 l D g w117 kO0 kA7 qO0 qA1 qA2 qA3 qA4 qA5 qA6 qA7 lx115 lx116 hO0 hA7 (q_Ile (x := 2) (y := lx115.toInt) (by decide) rfl (by have t1 : 0 ≤ x1.toInt := q_nltI c15; have t2 : x1.toInt ≤ 1100 := q_nltI c19; have t3 : 1080 < x1.toInt := q_nleI c40; have t4 : (-x1.toInt) ≤ lx114.toInt := by { have e1 : (lx114 : Int32).toInt = lx114.toInt := rfl; have e2 : ((-x1) : Int32).toInt = (-x1.toInt) := (q_negI (x := x1.toInt) rfl (by have t1 : 0 ≤ x1.toInt := q_nltI c15; have t2 : x1.toInt ≤ 1100 := q_nltI c19; have t3 : 1080 < x1.toInt := q_nleI c40; omega)); have e3 := q_nltI c121; omega }; omega)) (q_Ile (x := lx115.toInt) (y := 1102) rfl (by decide) (by have t1 : 0 ≤ x1.toInt := q_nltI c15; have t2 : x1.toInt ≤ 1100 := q_nltI c19; have t3 : 1080 < x1.toInt := q_nleI c40; have t4 : (-x1.toInt) ≤ lx114.toInt := by { have e1 : (lx114 : Int32).toInt = lx114.toInt := rfl; have e2 : ((-x1) : Int32).toInt = (-x1.toInt) := (q_negI (x := x1.toInt) rfl (by have t1 : 0 ≤ x1.toInt := q_nltI c15; have t2 : x1.toInt ≤ 1100 := q_nltI c19; have t3 : 1080 < x1.toInt := q_nleI c40; omega)); have e3 := q_nltI c121; omega }; omega)) _) rfl rfl hO0 rfl hl.1 rfl (Nat.le_of_ble_eq_true rfl) ⟨by decide, by decide⟩ ⟨Nat.le_of_ble_eq_true rfl, Nat.le_of_ble_eq_true rfl⟩ d_17_29_218) (fun u127 H locs hp126 V => ?_)
                obtain ⟨hg128, hO0, hA7⟩ := hp126
                replace hF := q_uc hF hg128 (q_sc (.head _) (q_sc (List.mem_of_getElem? (i := 5) rfl) (fun _ h => absurd h List.not_mem_nil)))
                refine lv_iinc (v := lx114 + (-1)) (lv' := [(8, .int (lx114 + (-1))), (7, .int lx96), (6, .int 0), (0, .ref qO0), (1, .long 0), (3, .int 1), (4, .int x1), (5, .int x2)]) hx hb d_17_29_221 hl (k := 0) rfl (rfl) (by decide) rfl (fun ls hl => ?_)
                refine lv_goto (tgt := 200) hx hb d_17_29_224 (by decide) ?_
                replace hA1 := (hg128 _ (q_nc n_A1_O0 (q_nc n_A1_A7 List.not_mem_nil))).trans (hA1)
                replace hA2 := (hg128 _ (q_nc n_A2_O0 (q_nc n_A2_A7 List.not_mem_nil))).trans (hA2)
                replace hA3 := (hg128 _ (q_nc n_A3_O0 (q_nc n_A3_A7 List.not_mem_nil))).trans (hA3)
                replace hA6 := (hg128 _ (q_nc n_A6_O0 (q_nc n_A6_A7 List.not_mem_nil))).trans (hA6)
                exact ih120 ((lx114 + (-1) : Int32), (lx115 + 1 : Int32), (upd lx116 lx115.toNatClampNeg 48 : Nat → Int32)) _ _ _ _ (show ((lx114 + (-1)).toInt - (-x1.toInt) + 1).toNat < (lx114.toInt - (-x1.toInt) + 1).toNat from by have t1 : 0 ≤ x1.toInt := q_nltI c15; have t2 : x1.toInt ≤ 1100 := q_nltI c19; have t3 : 1080 < x1.toInt := q_nleI c40; have t4 : (-x1.toInt) ≤ lx114.toInt := by { have e1 : (lx114 : Int32).toInt = lx114.toInt := rfl; have e2 : ((-x1) : Int32).toInt = (-x1.toInt) := (q_negI (x := x1.toInt) rfl (by have t1 : 0 ≤ x1.toInt := q_nltI c15; have t2 : x1.toInt ≤ 1100 := q_nltI c19; have t3 : 1080 < x1.toInt := q_nleI c40; omega)); have e3 := q_nltI c121; omega }; have e : (lx114 + (-1)).toInt = (lx114.toInt + (-1)) := (q_addI (x := lx114.toInt) (y := (-1)) rfl (by decide) (by have t1 : 0 ≤ x1.toInt := q_nltI c15; have t2 : x1.toInt ≤ 1100 := q_nltI c19; have t3 : 1080 < x1.toInt := q_nleI c40; have t4 : (-x1.toInt) ≤ lx114.toInt := by { have e1 : (lx114 : Int32).toInt = lx114.toInt := rfl; have e2 : ((-x1) : Int32).toInt = (-x1.toInt) := (q_negI (x := x1.toInt) rfl (by have t1 : 0 ≤ x1.toInt := q_nltI c15; have t2 : x1.toInt ≤ 1100 := q_nltI c19; have t3 : 1080 < x1.toInt := q_nleI c40; omega)); have e3 := q_nltI c121; omega }; omega) (by have t1 : 0 ≤ x1.toInt := q_nltI c15; have t2 : x1.toInt ≤ 1100 := q_nltI c19; have t3 : 1080 < x1.toInt := q_nleI c40; have t4 : (-x1.toInt) ≤ lx114.toInt := by { have e1 : (lx114 : Int32).toInt = lx114.toInt := rfl; have e2 : ((-x1) : Int32).toInt = (-x1.toInt) := (q_negI (x := x1.toInt) rfl (by have t1 : 0 ≤ x1.toInt := q_nltI c15; have t2 : x1.toInt ≤ 1100 := q_nltI c19; have t3 : 1080 < x1.toInt := q_nleI c40; omega)); have e3 := q_nltI c121; omega }; omega)); omega) ⟨(show (lx114 + (-1)).toInt ≤ (-1) ∧ ((-x1.toInt) - 1 ≤ (lx114 + (-1)).toInt ∨ (lx114 + (-1)).toInt = (-1)) from by have t1 : 0 ≤ x1.toInt := q_nltI c15; have t2 : x1.toInt ≤ 1100 := q_nltI c19; have t3 : 1080 < x1.toInt := q_nleI c40; have t4 : (-x1.toInt) ≤ lx114.toInt := by { have e1 : (lx114 : Int32).toInt = lx114.toInt := rfl; have e2 : ((-x1) : Int32).toInt = (-x1.toInt) := (q_negI (x := x1.toInt) rfl (by have t1 : 0 ≤ x1.toInt := q_nltI c15; have t2 : x1.toInt ≤ 1100 := q_nltI c19; have t3 : 1080 < x1.toInt := q_nleI c40; omega)); have e3 := q_nltI c121; omega }; have e : (lx114 + (-1)).toInt = (lx114.toInt + (-1)) := (q_addI (x := lx114.toInt) (y := (-1)) rfl (by decide) (by have t1 : 0 ≤ x1.toInt := q_nltI c15; have t2 : x1.toInt ≤ 1100 := q_nltI c19; have t3 : 1080 < x1.toInt := q_nleI c40; have t4 : (-x1.toInt) ≤ lx114.toInt := by { have e1 : (lx114 : Int32).toInt = lx114.toInt := rfl; have e2 : ((-x1) : Int32).toInt = (-x1.toInt) := (q_negI (x := x1.toInt) rfl (by have t1 : 0 ≤ x1.toInt := q_nltI c15; have t2 : x1.toInt ≤ 1100 := q_nltI c19; have t3 : 1080 < x1.toInt := q_nleI c40; omega)); have e3 := q_nltI c121; omega }; omega) (by have t1 : 0 ≤ x1.toInt := q_nltI c15; have t2 : x1.toInt ≤ 1100 := q_nltI c19; have t3 : 1080 < x1.toInt := q_nleI c40; have t4 : (-x1.toInt) ≤ lx114.toInt := by { have e1 : (lx114 : Int32).toInt = lx114.toInt := rfl; have e2 : ((-x1) : Int32).toInt = (-x1.toInt) := (q_negI (x := x1.toInt) rfl (by have t1 : 0 ≤ x1.toInt := q_nltI c15; have t2 : x1.toInt ≤ 1100 := q_nltI c19; have t3 : 1080 < x1.toInt := q_nleI c40; omega)); have e3 := q_nltI c121; omega }; omega)); omega), (show (lx115 + 1 : Int32).toInt = 2 + 1 * ((-1) - (lx114 + (-1) : Int32).toInt) from by have t1 : 0 ≤ x1.toInt := q_nltI c15; have t2 : x1.toInt ≤ 1100 := q_nltI c19; have t3 : 0 ≤ x2.toInt := q_nltI c23; have t4 : x2.toInt ≤ 3 := q_leI c27; have t5 : 1080 < x1.toInt := q_nleI c40; have t6 : lx96.toInt ≤ 1080 := q_leI c100; have t7 : (-x1.toInt) ≤ lx114.toInt := by { have e1 : (lx114 : Int32).toInt = lx114.toInt := rfl; have e2 : ((-x1) : Int32).toInt = (-x1.toInt) := (q_negI (x := x1.toInt) rfl (by have t1 : 0 ≤ x1.toInt := q_nltI c15; have t2 : x1.toInt ≤ 1100 := q_nltI c19; have t3 : 1080 < x1.toInt := q_nleI c40; omega)); have e3 := q_nltI c121; omega }; have e0 : (lx114 + (-1) : Int32).toInt = (lx114.toInt + (-1)) := (q_addI (x := lx114.toInt) (y := (-1)) rfl (by decide) (by have t1 : 0 ≤ x1.toInt := q_nltI c15; have t2 : x1.toInt ≤ 1100 := q_nltI c19; have t3 : 1080 < x1.toInt := q_nleI c40; have t4 : (-x1.toInt) ≤ lx114.toInt := by { have e1 : (lx114 : Int32).toInt = lx114.toInt := rfl; have e2 : ((-x1) : Int32).toInt = (-x1.toInt) := (q_negI (x := x1.toInt) rfl (by have t1 : 0 ≤ x1.toInt := q_nltI c15; have t2 : x1.toInt ≤ 1100 := q_nltI c19; have t3 : 1080 < x1.toInt := q_nleI c40; omega)); have e3 := q_nltI c121; omega }; omega) (by have t1 : 0 ≤ x1.toInt := q_nltI c15; have t2 : x1.toInt ≤ 1100 := q_nltI c19; have t3 : 1080 < x1.toInt := q_nleI c40; have t4 : (-x1.toInt) ≤ lx114.toInt := by { have e1 : (lx114 : Int32).toInt = lx114.toInt := rfl; have e2 : ((-x1) : Int32).toInt = (-x1.toInt) := (q_negI (x := x1.toInt) rfl (by have t1 : 0 ≤ x1.toInt := q_nltI c15; have t2 : x1.toInt ≤ 1100 := q_nltI c19; have t3 : 1080 < x1.toInt := q_nleI c40; omega)); have e3 := q_nltI c121; omega }; omega)); have e1 : (lx115 + 1 : Int32).toInt = (lx115.toInt + 1) := (q_addI (x := lx115.toInt) (y := 1) rfl (by decide) (by have t1 : 0 ≤ x1.toInt := q_nltI c15; have t2 : x1.toInt ≤ 1100 := q_nltI c19; have t3 : 1080 < x1.toInt := q_nleI c40; have t4 : (-x1.toInt) ≤ lx114.toInt := by { have e1 : (lx114 : Int32).toInt = lx114.toInt := rfl; have e2 : ((-x1) : Int32).toInt = (-x1.toInt) := (q_negI (x := x1.toInt) rfl (by have t1 : 0 ≤ x1.toInt := q_nltI c15; have t2 : x1.toInt ≤ 1100 := q_nltI c19; have t3 : 1080 < x1.toInt := q_nleI c40; omega)); have e3 := q_nltI c121; omega }; omega) (by have t1 : 0 ≤ x1.toInt := q_nltI c15; have t2 : x1.toInt ≤ 1100 := q_nltI c19; have t3 : 1080 < x1.toInt := q_nleI c40; have t4 : (-x1.toInt) ≤ lx114.toInt := by { have e1 : (lx114 : Int32).toInt = lx114.toInt := rfl; have e2 : ((-x1) : Int32).toInt = (-x1.toInt) := (q_negI (x := x1.toInt) rfl (by have t1 : 0 ≤ x1.toInt := q_nltI c15; have t2 : x1.toInt ≤ 1100 := q_nltI c19; have t3 : 1080 < x1.toInt := q_nleI c40; omega)); have e3 := q_nltI c121; omega }; omega)); omega), V, q_lw hl (q_lw1 0 rfl (q_lw1 1 rfl (q_lw1 2 rfl (q_lw1 3 rfl (q_lw1 4 rfl (q_lw1 5 rfl (q_lw1 6 rfl (q_lw1 7 rfl q_lw0)))))))), hF, hO0, hA1, hA2, hA3, hA6, hA7⟩
            ·
              refine lv_aload_n hx hb d_17_29_138 rfl (lv_at hl 2 rfl) ?_
              refine q_get (ci := 15) (j := 6) (v := .ref qA6) C0 V i_FR rfl rfl hO0 (by decide) w_2081 rfl d_17_29_139 ?_
              refine lv_iload hx hb d_17_29_142 (lv_at hl 0 rfl) ?_
              refine q_iald C0 V hA6 (q_ix (x := lx96.toInt) rfl (by have t1 : 1080 < lx96.toInt := q_nleI c100; omega) (by have t1 : 1080 < lx96.toInt := q_nleI c100; omega)) d_17_29_144 ?_
              refine q_ti (v := 0) (by first | rfl | decide | simp [upd, vp_updL, sb_cl0]) ?_
              refine lv_if_ne (tgt := 154) hx hb d_17_29_145 (by decide) (fun c129 => absurd (by decide) c129) (fun c129 => ?_)
              refine lv_iinc (v := lx96 + (-1)) (lv' := [(7, .int (lx96 + (-1))), (6, .int 0), (0, .ref qO0), (1, .long 0), (3, .int 1), (4, .int x1), (5, .int x2)]) hx hb d_17_29_148 hl (k := 0) rfl (rfl) (by decide) rfl (fun ls hl => ?_)
              refine lv_goto (tgt := 130) hx hb d_17_29_151 (by decide) ?_
              exact ih99 ((lx96 + (-1) : Int32)) _ _ _ _ (show ((lx96 + (-1)).toInt - 1080).toNat < (lx96.toInt - 1080).toNat from by have t1 : 1080 < lx96.toInt := q_nleI c100; have e : (lx96 + (-1)).toInt = (lx96.toInt + (-1)) := (q_addI (x := lx96.toInt) (y := (-1)) rfl (by decide) (by have t1 : 1080 < lx96.toInt := q_nleI c100; omega) (by have t1 : 1080 < lx96.toInt := q_nleI c100; omega)); omega) ⟨(show 1080 ≤ (lx96 + (-1)).toInt ∧ (lx96 + (-1)).toInt ≤ 1403 from by have t1 : 1080 < lx96.toInt := q_nleI c100; have e : (lx96 + (-1)).toInt = (lx96.toInt + (-1)) := (q_addI (x := lx96.toInt) (y := (-1)) rfl (by decide) (by have t1 : 1080 < lx96.toInt := q_nleI c100; omega) (by have t1 : 1080 < lx96.toInt := q_nleI c100; omega)); omega), V, q_lw hl (q_lw1 0 rfl (q_lw1 1 rfl (q_lw1 2 rfl (q_lw1 3 rfl (q_lw1 4 rfl (q_lw1 5 rfl (q_lw1 6 rfl q_lw0))))))), hF, hO0, hA1, hA2, hA3, hA6, hA7⟩
        ·
          refine lv_iconst (v := 1) hx hb d_17_29_55 (by decide) ?_
          refine lv_goto (tgt := 71) hx hb d_17_29_56 (by decide) ?_
          refine q_put (ci := 15) (j := 0) (v := .int 1) (ty := .int) C0 V i_FR o_FR n_FR rfl rfl hO0 (by decide) w_2074 rfl rfl rfl rfl (Nat.le_of_ble_eq_true rfl) d_17_29_71 (fun H locs w130 hu131 hO0 V => ?_)
          replace hO0 : w130[kO0]? = some (qO0, .inr (15, [.int 1, .ref qA1, .ref qA2, .ref qA3, .ref qA4, .ref qA5, .ref qA6, .ref qA7, .int 0, .int 0, .int 0, .long 0, .int 23, .int 255, .long 0, .int (-149), .long 0, .int 0])) := hO0
          replace hF := q_us hF hu131 (.head _)
          refine lv_aload_n hx hb d_17_29_74 rfl (lv_at hl 0 rfl) ?_
          refine q_get (ci := 15) (j := 0) (v := .int 1) C0 V i_FR rfl rfl hO0 (by decide) w_2074 rfl d_17_29_75 ?_
          refine lv_if_le (tgt := 83) hx hb d_17_29_78 (by decide) (fun c132 => absurd c132 (by decide)) (fun c132 => ?_)
          refine lv_iconst (v := 0) hx hb d_17_29_81 (by decide) ?_
          replace hA1 := (hu131 _ n_A1_O0).trans ((hg9 _ (q_nc n_A1_O0 List.not_mem_nil)).trans (hA1))
          replace hA2 := (hu131 _ n_A2_O0).trans ((hg9 _ (q_nc n_A2_O0 List.not_mem_nil)).trans (hA2))
          replace hA3 := (hu131 _ n_A3_O0).trans ((hg9 _ (q_nc n_A3_O0 List.not_mem_nil)).trans (hA3))
          replace hA6 := (hu131 _ n_A6_O0).trans ((hg9 _ (q_nc n_A6_O0 List.not_mem_nil)).trans (hA6))
          replace hA7 := (hu131 _ n_A7_O0).trans ((hg9 _ (q_nc n_A7_O0 List.not_mem_nil)).trans (hA7))
          exact q_reti C0 V (Or.inr (Or.inr (Or.inr (Or.inr (Or.inr (Or.inr (⟨c15, c19, c23, c27, rfl, hF, hO0, hA1, hA2, hA3, hA6, hA7⟩))))))) d_17_29_82
set_option maxRecDepth 100000 in
set_option maxHeartbeats 4000000 in
theorem c_FR_add_19 (l : Launch) (D : va_G) (g : Nat → ClassId) (ws : va_W) (kO0 kA7 qO0 qA1 qA2 qA3 qA4 qA5 qA6 qA7 : Nat) (hO0 : ws[kO0]? = some (qO0, .inr (15, [.int 0, .ref qA1, .ref qA2, .ref qA3, .ref qA4, .ref qA5, .ref qA6, .ref qA7, .int 1, .int 0, .int 0, .long 0, .int 52, .int 2047, .long 0, .int (-1074), .long 0, .int 0]))) (hA7 : ws[kA7]? = some (qA7, .inl (g 0, 1600, .inl (upd (fun _ => 0) 0 48)))) : q_mV l y_FR_add prog_17_method_16_code 2 1 0 0 D g [.ref qO0, .int 101] ws (fun u => q_un ws u [kO0, kA7] ∧ u[kO0]? = some (qO0, .inr (15, [.int 0, .ref qA1, .ref qA2, .ref qA3, .ref qA4, .ref qA5, .ref qA6, .ref qA7, .int 2, .int 0, .int 0, .long 0, .int 52, .int 2047, .long 0, .int (-1074), .long 0, .int 0])) ∧ u[kA7]? = some (qA7, .inl (g 0, 1600, .inl (upd (upd (fun _ => 0) 0 48) 1 101)))) := by
  intro sz
  refine q_into (by decide) (Nat.le_of_ble_eq_true rfl) ?_
  intro p e s m below meth c ls hsz C0 V hl
  have hx := C0.1
  have hb := C0.2.1
  have hl : lv_has ls 2 [(0, .ref qO0), (1, .int 101)] := hl
  have n_A7_O0 := q_df hA7 hO0
  have n_O0_A7 := Ne.symm (q_df hA7 hO0)
  have hF : q_un ws ws [kO0, kA7] := q_u0
  refine lv_aload_n hx hb d_17_16_0 rfl (lv_at hl 0 rfl) ?_
  refine q_get (ci := 15) (j := 7) (v := .ref qA7) C0 V i_FR rfl rfl hO0 (by decide) w_2082 rfl d_17_16_1 ?_
  refine lv_aload_n hx hb d_17_16_4 rfl (lv_at hl 0 rfl) ?_
  refine q_get (ci := 15) (j := 8) (v := .int 1) C0 V i_FR rfl rfl hO0 (by decide) w_2084 rfl d_17_16_5 ?_
  refine lv_iload_n hx hb d_17_16_8 rfl (lv_at hl 1 rfl) ?_
  refine q_iast C0 V hA7 (by unfold vp_in; decide) d_17_16_9 (fun H locs w1 hu2 hA7 V => ?_)
  replace hA7 : w1[kA7]? = some (qA7, .inl (g 0, 1600, .inl (upd (upd (fun _ => 0) 0 48) 1 101))) := hA7
  replace hF := q_us hF hu2 (.tail _ (.head _))
  refine lv_aload_n hx hb d_17_16_10 rfl (lv_at hl 0 rfl) ?_
  refine lv_dup hx hb d_17_16_11 rfl ?_
  replace hO0 := (hu2 _ n_O0_A7).trans (hO0)
  refine q_get (ci := 15) (j := 8) (v := .int 1) C0 V i_FR rfl rfl hO0 (by decide) w_2084 rfl d_17_16_12 ?_
  refine lv_iconst (v := 1) hx hb d_17_16_15 (by decide) ?_
  refine lv_iadd hx hb d_17_16_16 ?_
  refine q_ti (v := 2) (by decide) ?_
  refine q_put (ci := 15) (j := 8) (v := .int 2) (ty := .int) C0 V i_FR o_FR n_FR rfl rfl hO0 (by decide) w_2084 rfl rfl rfl rfl (Nat.le_of_ble_eq_true rfl) d_17_16_17 (fun H locs w3 hu4 hO0 V => ?_)
  replace hO0 : w3[kO0]? = some (qO0, .inr (15, [.int 0, .ref qA1, .ref qA2, .ref qA3, .ref qA4, .ref qA5, .ref qA6, .ref qA7, .int 2, .int 0, .int 0, .long 0, .int 52, .int 2047, .long 0, .int (-1074), .long 0, .int 0])) := hO0
  replace hF := q_us hF hu4 (.head _)
  replace hA7 := (hu4 _ n_A7_O0).trans (hA7)
  exact q_retv C0 V (⟨hF, hO0, hA7⟩) d_17_16_20
set_option maxRecDepth 100000 in
set_option maxHeartbeats 4000000 in
theorem c_FR_add_20 (l : Launch) (D : va_G) (g : Nat → ClassId) (ws : va_W) (kO0 kA7 qO0 qA1 qA2 qA3 qA4 qA5 qA6 qA7 : Nat) (hO0 : ws[kO0]? = some (qO0, .inr (15, [.int 0, .ref qA1, .ref qA2, .ref qA3, .ref qA4, .ref qA5, .ref qA6, .ref qA7, .int 2, .int 0, .int 0, .long 0, .int 52, .int 2047, .long 0, .int (-1074), .long 0, .int 0]))) (hA7 : ws[kA7]? = some (qA7, .inl (g 0, 1600, .inl (upd (upd (fun _ => 0) 0 48) 1 101)))) : q_mV l y_FR_add prog_17_method_16_code 2 1 0 0 D g [.ref qO0, .int 43] ws (fun u => q_un ws u [kO0, kA7] ∧ u[kO0]? = some (qO0, .inr (15, [.int 0, .ref qA1, .ref qA2, .ref qA3, .ref qA4, .ref qA5, .ref qA6, .ref qA7, .int 3, .int 0, .int 0, .long 0, .int 52, .int 2047, .long 0, .int (-1074), .long 0, .int 0])) ∧ u[kA7]? = some (qA7, .inl (g 0, 1600, .inl (upd (upd (upd (fun _ => 0) 0 48) 1 101) 2 43)))) := by
  intro sz
  refine q_into (by decide) (Nat.le_of_ble_eq_true rfl) ?_
  intro p e s m below meth c ls hsz C0 V hl
  have hx := C0.1
  have hb := C0.2.1
  have hl : lv_has ls 2 [(0, .ref qO0), (1, .int 43)] := hl
  have n_A7_O0 := q_df hA7 hO0
  have n_O0_A7 := Ne.symm (q_df hA7 hO0)
  have hF : q_un ws ws [kO0, kA7] := q_u0
  refine lv_aload_n hx hb d_17_16_0 rfl (lv_at hl 0 rfl) ?_
  refine q_get (ci := 15) (j := 7) (v := .ref qA7) C0 V i_FR rfl rfl hO0 (by decide) w_2082 rfl d_17_16_1 ?_
  refine lv_aload_n hx hb d_17_16_4 rfl (lv_at hl 0 rfl) ?_
  refine q_get (ci := 15) (j := 8) (v := .int 2) C0 V i_FR rfl rfl hO0 (by decide) w_2084 rfl d_17_16_5 ?_
  refine lv_iload_n hx hb d_17_16_8 rfl (lv_at hl 1 rfl) ?_
  refine q_iast C0 V hA7 (by unfold vp_in; decide) d_17_16_9 (fun H locs w1 hu2 hA7 V => ?_)
  replace hA7 : w1[kA7]? = some (qA7, .inl (g 0, 1600, .inl (upd (upd (upd (fun _ => 0) 0 48) 1 101) 2 43))) := hA7
  replace hF := q_us hF hu2 (.tail _ (.head _))
  refine lv_aload_n hx hb d_17_16_10 rfl (lv_at hl 0 rfl) ?_
  refine lv_dup hx hb d_17_16_11 rfl ?_
  replace hO0 := (hu2 _ n_O0_A7).trans (hO0)
  refine q_get (ci := 15) (j := 8) (v := .int 2) C0 V i_FR rfl rfl hO0 (by decide) w_2084 rfl d_17_16_12 ?_
  refine lv_iconst (v := 1) hx hb d_17_16_15 (by decide) ?_
  refine lv_iadd hx hb d_17_16_16 ?_
  refine q_ti (v := 3) (by decide) ?_
  refine q_put (ci := 15) (j := 8) (v := .int 3) (ty := .int) C0 V i_FR o_FR n_FR rfl rfl hO0 (by decide) w_2084 rfl rfl rfl rfl (Nat.le_of_ble_eq_true rfl) d_17_16_17 (fun H locs w3 hu4 hO0 V => ?_)
  replace hO0 : w3[kO0]? = some (qO0, .inr (15, [.int 0, .ref qA1, .ref qA2, .ref qA3, .ref qA4, .ref qA5, .ref qA6, .ref qA7, .int 3, .int 0, .int 0, .long 0, .int 52, .int 2047, .long 0, .int (-1074), .long 0, .int 0])) := hO0
  replace hF := q_us hF hu4 (.head _)
  replace hA7 := (hu4 _ n_A7_O0).trans (hA7)
  exact q_retv C0 V (⟨hF, hO0, hA7⟩) d_17_16_20
set_option maxRecDepth 100000 in
set_option maxHeartbeats 4000000 in
theorem c_FR_number_3 (l : Launch) (D : va_G) (g : Nat → ClassId) (ws : va_W) (kO0 kA7 qO0 qA1 qA2 qA3 qA4 qA5 qA6 qA7 : Nat) (y1 : Int32) (f3 : Nat → Int32) (hO0 : ws[kO0]? = some (qO0, .inr (15, [.int 0, .ref qA1, .ref qA2, .ref qA3, .ref qA4, .ref qA5, .ref qA6, .ref qA7, .int y1, .int 0, .int 0, .long 0, .int 52, .int 2047, .long 0, .int (-1074), .long 0, .int 0]))) (hA7 : ws[kA7]? = some (qA7, .inl (g 0, 1600, .inl f3))) (y1lo : 4 ≤ y1) (y1hi : y1 ≤ 4) : q_mV l y_FR_number prog_17_method_19_code 3 2 0 0 D g [.ref qO0, .int 0] ws (fun u => q_un ws u [kO0, kA7] ∧ u[kO0]? = some (qO0, .inr (15, [.int 0, .ref qA1, .ref qA2, .ref qA3, .ref qA4, .ref qA5, .ref qA6, .ref qA7, .int (y1 + 1), .int 0, .int 0, .long 0, .int 52, .int 2047, .long 0, .int (-1074), .long 0, .int 0])) ∧ u[kA7]? = some (qA7, .inl (g 0, 1600, .inl (upd f3 y1.toNatClampNeg 48)))) := by
  intro sz
  refine q_into (by decide) (Nat.le_of_ble_eq_true rfl) ?_
  intro p e s m below meth c ls hsz C0 V hl
  have hx := C0.1
  have hb := C0.2.1
  have hl : lv_has ls 3 [(0, .ref qO0), (1, .int 0)] := hl
  have hF : q_un ws ws [kO0, kA7] := q_u0
  refine lv_iconst (v := 1) hx hb d_17_19_0 (by decide) ?_
  refine lv_istore_n (lv' := [(2, .int 1), (0, .ref qO0), (1, .int 0)]) hx hb d_17_19_1 rfl hl (by decide) rfl (fun ls hl => ?_)
  refine lv_iload_n hx hb d_17_19_2 rfl (lv_at hl 2 rfl) ?_
  refine lv_iload_n hx hb d_17_19_3 rfl (lv_at hl 0 rfl) ?_
  refine lv_idiv hx hb d_17_19_4 (by decide) ?_
  refine q_ti (v := 0) (by decide) ?_
  refine lv_bipush (v := 9) hx hb d_17_19_5 (by decide) ?_
  refine lv_icmp_le (tgt := 18) hx hb d_17_19_7 (by decide) (fun c1 => ?_) (fun c1 => absurd (by decide) c1)
  refine lv_iload_n hx hb d_17_19_18 rfl (lv_at hl 0 rfl) ?_
  refine lv_if_le (tgt := 43) hx hb d_17_19_19 (by decide) (fun c2 => absurd c2 (by decide)) (fun c2 => ?_)
  refine lv_aload_n hx hb d_17_19_22 rfl (lv_at hl 1 rfl) ?_
  refine lv_bipush (v := 48) hx hb d_17_19_23 (by decide) ?_
  refine lv_iload_n hx hb d_17_19_25 rfl (lv_at hl 2 rfl) ?_
  refine lv_iload_n hx hb d_17_19_26 rfl (lv_at hl 0 rfl) ?_
  refine lv_idiv hx hb d_17_19_27 (by decide) ?_
  refine q_ti (v := 0) (by decide) ?_
  refine lv_bipush (v := 10) hx hb d_17_19_28 (by decide) ?_
  refine lv_irem hx hb d_17_19_30 (by decide) ?_
  refine q_ti (v := 0) (by decide) ?_
  refine lv_iadd hx hb d_17_19_31 ?_
  refine q_ti (v := 48) (by decide) ?_
  refine q_gov V (q_runV (As := [.int 48]) (rest := []) (d := 1) (mc := 0) (ms := 0) (ci := 15) C0 V rfl LV_FR_110 (c_FR_add_3 l D g ws kO0 kA7 qO0 qA1 qA2 qA3 qA4 qA5 qA6 qA7 y1 f3 hO0 hA7 (q_Ile (x := 2) (y := y1.toInt) (by decide) rfl (by have t1 : 4 ≤ y1.toInt := q_leI y1lo; have t2 : y1.toInt ≤ 4 := q_leI y1hi; omega)) (q_Ile (x := y1.toInt) (y := 1076) rfl (by decide) (by have t1 : 4 ≤ y1.toInt := q_leI y1lo; have t2 : y1.toInt ≤ 4 := q_leI y1hi; omega)) _) rfl rfl hO0 rfl hl.1 rfl (Nat.le_of_ble_eq_true rfl) ⟨by decide, by decide⟩ ⟨Nat.le_of_ble_eq_true rfl, Nat.le_of_ble_eq_true rfl⟩ d_17_19_32) (fun u4 H locs hp3 V => ?_)
  obtain ⟨hg5, hO0, hA7⟩ := hp3
  replace hF := q_uc hF hg5 (q_sc (.head _) (q_sc (.tail _ (.head _)) (fun _ h => absurd h List.not_mem_nil)))
  refine lv_iload_n hx hb d_17_19_35 rfl (lv_at hl 0 rfl) ?_
  refine lv_bipush (v := 10) hx hb d_17_19_36 (by decide) ?_
  refine lv_idiv hx hb d_17_19_38 (by decide) ?_
  refine q_ti (v := 0) (by decide) ?_
  refine lv_istore_n (lv' := [(2, .int 0), (0, .ref qO0), (1, .int 0)]) hx hb d_17_19_39 rfl hl (by decide) rfl (fun ls hl => ?_)
  refine lv_goto (tgt := 18) hx hb d_17_19_40 (by decide) ?_
  refine lv_iload_n hx hb d_17_19_18 rfl (lv_at hl 0 rfl) ?_
  refine lv_if_le (tgt := 43) hx hb d_17_19_19 (by decide) (fun c6 => ?_) (fun c6 => absurd (by decide) c6)
  exact q_retv C0 V (⟨hF, hO0, hA7⟩) d_17_19_43
set_option maxRecDepth 100000 in
set_option maxHeartbeats 4000000 in
theorem c_FR_add_21 (l : Launch) (D : va_G) (g : Nat → ClassId) (ws : va_W) (kO0 kA7 qO0 qA1 qA2 qA3 qA4 qA5 qA6 qA7 : Nat) (hO0 : ws[kO0]? = some (qO0, .inr (15, [.int 0, .ref qA1, .ref qA2, .ref qA3, .ref qA4, .ref qA5, .ref qA6, .ref qA7, .int 2, .int 0, .int 0, .long 0, .int 52, .int 2047, .long 0, .int (-1074), .long 0, .int 0]))) (hA7 : ws[kA7]? = some (qA7, .inl (g 0, 1600, .inl (upd (upd (fun _ => 0) 0 48) 1 46)))) : q_mV l y_FR_add prog_17_method_16_code 2 1 0 0 D g [.ref qO0, .int 101] ws (fun u => q_un ws u [kO0, kA7] ∧ u[kO0]? = some (qO0, .inr (15, [.int 0, .ref qA1, .ref qA2, .ref qA3, .ref qA4, .ref qA5, .ref qA6, .ref qA7, .int 3, .int 0, .int 0, .long 0, .int 52, .int 2047, .long 0, .int (-1074), .long 0, .int 0])) ∧ u[kA7]? = some (qA7, .inl (g 0, 1600, .inl (upd (upd (upd (fun _ => 0) 0 48) 1 46) 2 101)))) := by
  intro sz
  refine q_into (by decide) (Nat.le_of_ble_eq_true rfl) ?_
  intro p e s m below meth c ls hsz C0 V hl
  have hx := C0.1
  have hb := C0.2.1
  have hl : lv_has ls 2 [(0, .ref qO0), (1, .int 101)] := hl
  have n_A7_O0 := q_df hA7 hO0
  have n_O0_A7 := Ne.symm (q_df hA7 hO0)
  have hF : q_un ws ws [kO0, kA7] := q_u0
  refine lv_aload_n hx hb d_17_16_0 rfl (lv_at hl 0 rfl) ?_
  refine q_get (ci := 15) (j := 7) (v := .ref qA7) C0 V i_FR rfl rfl hO0 (by decide) w_2082 rfl d_17_16_1 ?_
  refine lv_aload_n hx hb d_17_16_4 rfl (lv_at hl 0 rfl) ?_
  refine q_get (ci := 15) (j := 8) (v := .int 2) C0 V i_FR rfl rfl hO0 (by decide) w_2084 rfl d_17_16_5 ?_
  refine lv_iload_n hx hb d_17_16_8 rfl (lv_at hl 1 rfl) ?_
  refine q_iast C0 V hA7 (by unfold vp_in; decide) d_17_16_9 (fun H locs w1 hu2 hA7 V => ?_)
  replace hA7 : w1[kA7]? = some (qA7, .inl (g 0, 1600, .inl (upd (upd (upd (fun _ => 0) 0 48) 1 46) 2 101))) := hA7
  replace hF := q_us hF hu2 (.tail _ (.head _))
  refine lv_aload_n hx hb d_17_16_10 rfl (lv_at hl 0 rfl) ?_
  refine lv_dup hx hb d_17_16_11 rfl ?_
  replace hO0 := (hu2 _ n_O0_A7).trans (hO0)
  refine q_get (ci := 15) (j := 8) (v := .int 2) C0 V i_FR rfl rfl hO0 (by decide) w_2084 rfl d_17_16_12 ?_
  refine lv_iconst (v := 1) hx hb d_17_16_15 (by decide) ?_
  refine lv_iadd hx hb d_17_16_16 ?_
  refine q_ti (v := 3) (by decide) ?_
  refine q_put (ci := 15) (j := 8) (v := .int 3) (ty := .int) C0 V i_FR o_FR n_FR rfl rfl hO0 (by decide) w_2084 rfl rfl rfl rfl (Nat.le_of_ble_eq_true rfl) d_17_16_17 (fun H locs w3 hu4 hO0 V => ?_)
  replace hO0 : w3[kO0]? = some (qO0, .inr (15, [.int 0, .ref qA1, .ref qA2, .ref qA3, .ref qA4, .ref qA5, .ref qA6, .ref qA7, .int 3, .int 0, .int 0, .long 0, .int 52, .int 2047, .long 0, .int (-1074), .long 0, .int 0])) := hO0
  replace hF := q_us hF hu4 (.head _)
  replace hA7 := (hu4 _ n_A7_O0).trans (hA7)
  exact q_retv C0 V (⟨hF, hO0, hA7⟩) d_17_16_20
set_option maxRecDepth 100000 in
set_option maxHeartbeats 4000000 in
theorem c_FR_add_22 (l : Launch) (D : va_G) (g : Nat → ClassId) (ws : va_W) (kO0 kA7 qO0 qA1 qA2 qA3 qA4 qA5 qA6 qA7 : Nat) (hO0 : ws[kO0]? = some (qO0, .inr (15, [.int 0, .ref qA1, .ref qA2, .ref qA3, .ref qA4, .ref qA5, .ref qA6, .ref qA7, .int 3, .int 0, .int 0, .long 0, .int 52, .int 2047, .long 0, .int (-1074), .long 0, .int 0]))) (hA7 : ws[kA7]? = some (qA7, .inl (g 0, 1600, .inl (upd (upd (upd (fun _ => 0) 0 48) 1 46) 2 101)))) : q_mV l y_FR_add prog_17_method_16_code 2 1 0 0 D g [.ref qO0, .int 43] ws (fun u => q_un ws u [kO0, kA7] ∧ u[kO0]? = some (qO0, .inr (15, [.int 0, .ref qA1, .ref qA2, .ref qA3, .ref qA4, .ref qA5, .ref qA6, .ref qA7, .int 4, .int 0, .int 0, .long 0, .int 52, .int 2047, .long 0, .int (-1074), .long 0, .int 0])) ∧ u[kA7]? = some (qA7, .inl (g 0, 1600, .inl (upd (upd (upd (upd (fun _ => 0) 0 48) 1 46) 2 101) 3 43)))) := by
  intro sz
  refine q_into (by decide) (Nat.le_of_ble_eq_true rfl) ?_
  intro p e s m below meth c ls hsz C0 V hl
  have hx := C0.1
  have hb := C0.2.1
  have hl : lv_has ls 2 [(0, .ref qO0), (1, .int 43)] := hl
  have n_A7_O0 := q_df hA7 hO0
  have n_O0_A7 := Ne.symm (q_df hA7 hO0)
  have hF : q_un ws ws [kO0, kA7] := q_u0
  refine lv_aload_n hx hb d_17_16_0 rfl (lv_at hl 0 rfl) ?_
  refine q_get (ci := 15) (j := 7) (v := .ref qA7) C0 V i_FR rfl rfl hO0 (by decide) w_2082 rfl d_17_16_1 ?_
  refine lv_aload_n hx hb d_17_16_4 rfl (lv_at hl 0 rfl) ?_
  refine q_get (ci := 15) (j := 8) (v := .int 3) C0 V i_FR rfl rfl hO0 (by decide) w_2084 rfl d_17_16_5 ?_
  refine lv_iload_n hx hb d_17_16_8 rfl (lv_at hl 1 rfl) ?_
  refine q_iast C0 V hA7 (by unfold vp_in; decide) d_17_16_9 (fun H locs w1 hu2 hA7 V => ?_)
  replace hA7 : w1[kA7]? = some (qA7, .inl (g 0, 1600, .inl (upd (upd (upd (upd (fun _ => 0) 0 48) 1 46) 2 101) 3 43))) := hA7
  replace hF := q_us hF hu2 (.tail _ (.head _))
  refine lv_aload_n hx hb d_17_16_10 rfl (lv_at hl 0 rfl) ?_
  refine lv_dup hx hb d_17_16_11 rfl ?_
  replace hO0 := (hu2 _ n_O0_A7).trans (hO0)
  refine q_get (ci := 15) (j := 8) (v := .int 3) C0 V i_FR rfl rfl hO0 (by decide) w_2084 rfl d_17_16_12 ?_
  refine lv_iconst (v := 1) hx hb d_17_16_15 (by decide) ?_
  refine lv_iadd hx hb d_17_16_16 ?_
  refine q_ti (v := 4) (by decide) ?_
  refine q_put (ci := 15) (j := 8) (v := .int 4) (ty := .int) C0 V i_FR o_FR n_FR rfl rfl hO0 (by decide) w_2084 rfl rfl rfl rfl (Nat.le_of_ble_eq_true rfl) d_17_16_17 (fun H locs w3 hu4 hO0 V => ?_)
  replace hO0 : w3[kO0]? = some (qO0, .inr (15, [.int 0, .ref qA1, .ref qA2, .ref qA3, .ref qA4, .ref qA5, .ref qA6, .ref qA7, .int 4, .int 0, .int 0, .long 0, .int 52, .int 2047, .long 0, .int (-1074), .long 0, .int 0])) := hO0
  replace hF := q_us hF hu4 (.head _)
  replace hA7 := (hu4 _ n_A7_O0).trans (hA7)
  exact q_retv C0 V (⟨hF, hO0, hA7⟩) d_17_16_20
set_option maxRecDepth 100000 in
set_option maxHeartbeats 4000000 in
theorem c_FR_number_4 (l : Launch) (D : va_G) (g : Nat → ClassId) (ws : va_W) (kO0 kA7 qO0 qA1 qA2 qA3 qA4 qA5 qA6 qA7 : Nat) (y1 : Int32) (f3 : Nat → Int32) (hO0 : ws[kO0]? = some (qO0, .inr (15, [.int 0, .ref qA1, .ref qA2, .ref qA3, .ref qA4, .ref qA5, .ref qA6, .ref qA7, .int y1, .int 0, .int 0, .long 0, .int 52, .int 2047, .long 0, .int (-1074), .long 0, .int 0]))) (hA7 : ws[kA7]? = some (qA7, .inl (g 0, 1600, .inl f3))) (y1lo : 5 ≤ y1) (y1hi : y1 ≤ 5) : q_mV l y_FR_number prog_17_method_19_code 3 2 0 0 D g [.ref qO0, .int 0] ws (fun u => q_un ws u [kO0, kA7] ∧ u[kO0]? = some (qO0, .inr (15, [.int 0, .ref qA1, .ref qA2, .ref qA3, .ref qA4, .ref qA5, .ref qA6, .ref qA7, .int (y1 + 1), .int 0, .int 0, .long 0, .int 52, .int 2047, .long 0, .int (-1074), .long 0, .int 0])) ∧ u[kA7]? = some (qA7, .inl (g 0, 1600, .inl (upd f3 y1.toNatClampNeg 48)))) := by
  intro sz
  refine q_into (by decide) (Nat.le_of_ble_eq_true rfl) ?_
  intro p e s m below meth c ls hsz C0 V hl
  have hx := C0.1
  have hb := C0.2.1
  have hl : lv_has ls 3 [(0, .ref qO0), (1, .int 0)] := hl
  have hF : q_un ws ws [kO0, kA7] := q_u0
  refine lv_iconst (v := 1) hx hb d_17_19_0 (by decide) ?_
  refine lv_istore_n (lv' := [(2, .int 1), (0, .ref qO0), (1, .int 0)]) hx hb d_17_19_1 rfl hl (by decide) rfl (fun ls hl => ?_)
  refine lv_iload_n hx hb d_17_19_2 rfl (lv_at hl 2 rfl) ?_
  refine lv_iload_n hx hb d_17_19_3 rfl (lv_at hl 0 rfl) ?_
  refine lv_idiv hx hb d_17_19_4 (by decide) ?_
  refine q_ti (v := 0) (by decide) ?_
  refine lv_bipush (v := 9) hx hb d_17_19_5 (by decide) ?_
  refine lv_icmp_le (tgt := 18) hx hb d_17_19_7 (by decide) (fun c1 => ?_) (fun c1 => absurd (by decide) c1)
  refine lv_iload_n hx hb d_17_19_18 rfl (lv_at hl 0 rfl) ?_
  refine lv_if_le (tgt := 43) hx hb d_17_19_19 (by decide) (fun c2 => absurd c2 (by decide)) (fun c2 => ?_)
  refine lv_aload_n hx hb d_17_19_22 rfl (lv_at hl 1 rfl) ?_
  refine lv_bipush (v := 48) hx hb d_17_19_23 (by decide) ?_
  refine lv_iload_n hx hb d_17_19_25 rfl (lv_at hl 2 rfl) ?_
  refine lv_iload_n hx hb d_17_19_26 rfl (lv_at hl 0 rfl) ?_
  refine lv_idiv hx hb d_17_19_27 (by decide) ?_
  refine q_ti (v := 0) (by decide) ?_
  refine lv_bipush (v := 10) hx hb d_17_19_28 (by decide) ?_
  refine lv_irem hx hb d_17_19_30 (by decide) ?_
  refine q_ti (v := 0) (by decide) ?_
  refine lv_iadd hx hb d_17_19_31 ?_
  refine q_ti (v := 48) (by decide) ?_
  refine q_gov V (q_runV (As := [.int 48]) (rest := []) (d := 1) (mc := 0) (ms := 0) (ci := 15) C0 V rfl LV_FR_110 (c_FR_add_3 l D g ws kO0 kA7 qO0 qA1 qA2 qA3 qA4 qA5 qA6 qA7 y1 f3 hO0 hA7 (q_Ile (x := 2) (y := y1.toInt) (by decide) rfl (by have t1 : 5 ≤ y1.toInt := q_leI y1lo; have t2 : y1.toInt ≤ 5 := q_leI y1hi; omega)) (q_Ile (x := y1.toInt) (y := 1076) rfl (by decide) (by have t1 : 5 ≤ y1.toInt := q_leI y1lo; have t2 : y1.toInt ≤ 5 := q_leI y1hi; omega)) _) rfl rfl hO0 rfl hl.1 rfl (Nat.le_of_ble_eq_true rfl) ⟨by decide, by decide⟩ ⟨Nat.le_of_ble_eq_true rfl, Nat.le_of_ble_eq_true rfl⟩ d_17_19_32) (fun u4 H locs hp3 V => ?_)
  obtain ⟨hg5, hO0, hA7⟩ := hp3
  replace hF := q_uc hF hg5 (q_sc (.head _) (q_sc (.tail _ (.head _)) (fun _ h => absurd h List.not_mem_nil)))
  refine lv_iload_n hx hb d_17_19_35 rfl (lv_at hl 0 rfl) ?_
  refine lv_bipush (v := 10) hx hb d_17_19_36 (by decide) ?_
  refine lv_idiv hx hb d_17_19_38 (by decide) ?_
  refine q_ti (v := 0) (by decide) ?_
  refine lv_istore_n (lv' := [(2, .int 0), (0, .ref qO0), (1, .int 0)]) hx hb d_17_19_39 rfl hl (by decide) rfl (fun ls hl => ?_)
  refine lv_goto (tgt := 18) hx hb d_17_19_40 (by decide) ?_
  refine lv_iload_n hx hb d_17_19_18 rfl (lv_at hl 0 rfl) ?_
  refine lv_if_le (tgt := 43) hx hb d_17_19_19 (by decide) (fun c6 => ?_) (fun c6 => absurd (by decide) c6)
  exact q_retv C0 V (⟨hF, hO0, hA7⟩) d_17_19_43
set_option maxRecDepth 100000 in
set_option maxHeartbeats 4000000 in
theorem c_FR_add_23 (l : Launch) (D : va_G) (g : Nat → ClassId) (ws : va_W) (kO0 kA7 qO0 qA1 qA2 qA3 qA4 qA5 qA6 qA7 : Nat) (y1 : Int32) (hO0 : ws[kO0]? = some (qO0, .inr (15, [.int 0, .ref qA1, .ref qA2, .ref qA3, .ref qA4, .ref qA5, .ref qA6, .ref qA7, .int y1, .int 0, .int 0, .long 0, .int 52, .int 2047, .long 0, .int (-1074), .long 0, .int 0]))) (hA7 : ws[kA7]? = some (qA7, .inl (g 0, 1600, .inl (upd (upd (fun _ => 0) 0 48) 1 46)))) (y1lo : 2 ≤ y1) (y1hi : y1 ≤ 801) : q_mV l y_FR_add prog_17_method_16_code 2 1 0 0 D g [.ref qO0, .int 101] ws (fun u => q_un ws u [kO0, kA7] ∧ u[kO0]? = some (qO0, .inr (15, [.int 0, .ref qA1, .ref qA2, .ref qA3, .ref qA4, .ref qA5, .ref qA6, .ref qA7, .int (y1 + 1), .int 0, .int 0, .long 0, .int 52, .int 2047, .long 0, .int (-1074), .long 0, .int 0])) ∧ u[kA7]? = some (qA7, .inl (g 0, 1600, .inl (upd (upd (upd (fun _ => 0) 0 48) 1 46) y1.toNatClampNeg 101)))) := by
  intro sz
  refine q_into (by decide) (Nat.le_of_ble_eq_true rfl) ?_
  intro p e s m below meth c ls hsz C0 V hl
  have hx := C0.1
  have hb := C0.2.1
  have hl : lv_has ls 2 [(0, .ref qO0), (1, .int 101)] := hl
  have n_A7_O0 := q_df hA7 hO0
  have n_O0_A7 := Ne.symm (q_df hA7 hO0)
  have hF : q_un ws ws [kO0, kA7] := q_u0
  refine lv_aload_n hx hb d_17_16_0 rfl (lv_at hl 0 rfl) ?_
  refine q_get (ci := 15) (j := 7) (v := .ref qA7) C0 V i_FR rfl rfl hO0 (by decide) w_2082 rfl d_17_16_1 ?_
  refine lv_aload_n hx hb d_17_16_4 rfl (lv_at hl 0 rfl) ?_
  refine q_get (ci := 15) (j := 8) (v := .int y1) C0 V i_FR rfl rfl hO0 (by decide) w_2084 rfl d_17_16_5 ?_
  refine lv_iload_n hx hb d_17_16_8 rfl (lv_at hl 1 rfl) ?_
  refine q_iast C0 V hA7 (q_ix (x := y1.toInt) rfl (by have t1 : 2 ≤ y1.toInt := q_leI y1lo; have t2 : y1.toInt ≤ 801 := q_leI y1hi; omega) (by have t1 : 2 ≤ y1.toInt := q_leI y1lo; have t2 : y1.toInt ≤ 801 := q_leI y1hi; omega)) d_17_16_9 (fun H locs w1 hu2 hA7 V => ?_)
  replace hA7 : w1[kA7]? = some (qA7, .inl (g 0, 1600, .inl (upd (upd (upd (fun _ => 0) 0 48) 1 46) y1.toNatClampNeg 101))) := hA7
  replace hF := q_us hF hu2 (.tail _ (.head _))
  refine lv_aload_n hx hb d_17_16_10 rfl (lv_at hl 0 rfl) ?_
  refine lv_dup hx hb d_17_16_11 rfl ?_
  replace hO0 := (hu2 _ n_O0_A7).trans (hO0)
  refine q_get (ci := 15) (j := 8) (v := .int y1) C0 V i_FR rfl rfl hO0 (by decide) w_2084 rfl d_17_16_12 ?_
  refine lv_iconst (v := 1) hx hb d_17_16_15 (by decide) ?_
  refine lv_iadd hx hb d_17_16_16 ?_
  refine q_put (ci := 15) (j := 8) (v := .int (y1 + 1)) (ty := .int) C0 V i_FR o_FR n_FR rfl rfl hO0 (by decide) w_2084 rfl rfl rfl rfl (Nat.le_of_ble_eq_true rfl) d_17_16_17 (fun H locs w3 hu4 hO0 V => ?_)
  replace hO0 : w3[kO0]? = some (qO0, .inr (15, [.int 0, .ref qA1, .ref qA2, .ref qA3, .ref qA4, .ref qA5, .ref qA6, .ref qA7, .int (y1 + 1), .int 0, .int 0, .long 0, .int 52, .int 2047, .long 0, .int (-1074), .long 0, .int 0])) := hO0
  replace hF := q_us hF hu4 (.head _)
  replace hA7 := (hu4 _ n_A7_O0).trans (hA7)
  exact q_retv C0 V (⟨hF, hO0, hA7⟩) d_17_16_20
set_option maxRecDepth 100000 in
set_option maxHeartbeats 4000000 in
theorem c_FR_add_24 (l : Launch) (D : va_G) (g : Nat → ClassId) (ws : va_W) (kO0 kA7 qO0 qA1 qA2 qA3 qA4 qA5 qA6 qA7 : Nat) (y1 : Int32) (f3 : Nat → Int32) (hO0 : ws[kO0]? = some (qO0, .inr (15, [.int 0, .ref qA1, .ref qA2, .ref qA3, .ref qA4, .ref qA5, .ref qA6, .ref qA7, .int y1, .int 0, .int 0, .long 0, .int 52, .int 2047, .long 0, .int (-1074), .long 0, .int 0]))) (hA7 : ws[kA7]? = some (qA7, .inl (g 0, 1600, .inl f3))) (y1lo : 3 ≤ y1) (y1hi : y1 ≤ 802) : q_mV l y_FR_add prog_17_method_16_code 2 1 0 0 D g [.ref qO0, .int 43] ws (fun u => q_un ws u [kO0, kA7] ∧ u[kO0]? = some (qO0, .inr (15, [.int 0, .ref qA1, .ref qA2, .ref qA3, .ref qA4, .ref qA5, .ref qA6, .ref qA7, .int (y1 + 1), .int 0, .int 0, .long 0, .int 52, .int 2047, .long 0, .int (-1074), .long 0, .int 0])) ∧ u[kA7]? = some (qA7, .inl (g 0, 1600, .inl (upd f3 y1.toNatClampNeg 43)))) := by
  intro sz
  refine q_into (by decide) (Nat.le_of_ble_eq_true rfl) ?_
  intro p e s m below meth c ls hsz C0 V hl
  have hx := C0.1
  have hb := C0.2.1
  have hl : lv_has ls 2 [(0, .ref qO0), (1, .int 43)] := hl
  have n_A7_O0 := q_df hA7 hO0
  have n_O0_A7 := Ne.symm (q_df hA7 hO0)
  have hF : q_un ws ws [kO0, kA7] := q_u0
  refine lv_aload_n hx hb d_17_16_0 rfl (lv_at hl 0 rfl) ?_
  refine q_get (ci := 15) (j := 7) (v := .ref qA7) C0 V i_FR rfl rfl hO0 (by decide) w_2082 rfl d_17_16_1 ?_
  refine lv_aload_n hx hb d_17_16_4 rfl (lv_at hl 0 rfl) ?_
  refine q_get (ci := 15) (j := 8) (v := .int y1) C0 V i_FR rfl rfl hO0 (by decide) w_2084 rfl d_17_16_5 ?_
  refine lv_iload_n hx hb d_17_16_8 rfl (lv_at hl 1 rfl) ?_
  refine q_iast C0 V hA7 (q_ix (x := y1.toInt) rfl (by have t1 : 3 ≤ y1.toInt := q_leI y1lo; have t2 : y1.toInt ≤ 802 := q_leI y1hi; omega) (by have t1 : 3 ≤ y1.toInt := q_leI y1lo; have t2 : y1.toInt ≤ 802 := q_leI y1hi; omega)) d_17_16_9 (fun H locs w1 hu2 hA7 V => ?_)
  replace hA7 : w1[kA7]? = some (qA7, .inl (g 0, 1600, .inl (upd f3 y1.toNatClampNeg 43))) := hA7
  replace hF := q_us hF hu2 (.tail _ (.head _))
  refine lv_aload_n hx hb d_17_16_10 rfl (lv_at hl 0 rfl) ?_
  refine lv_dup hx hb d_17_16_11 rfl ?_
  replace hO0 := (hu2 _ n_O0_A7).trans (hO0)
  refine q_get (ci := 15) (j := 8) (v := .int y1) C0 V i_FR rfl rfl hO0 (by decide) w_2084 rfl d_17_16_12 ?_
  refine lv_iconst (v := 1) hx hb d_17_16_15 (by decide) ?_
  refine lv_iadd hx hb d_17_16_16 ?_
  refine q_put (ci := 15) (j := 8) (v := .int (y1 + 1)) (ty := .int) C0 V i_FR o_FR n_FR rfl rfl hO0 (by decide) w_2084 rfl rfl rfl rfl (Nat.le_of_ble_eq_true rfl) d_17_16_17 (fun H locs w3 hu4 hO0 V => ?_)
  replace hO0 : w3[kO0]? = some (qO0, .inr (15, [.int 0, .ref qA1, .ref qA2, .ref qA3, .ref qA4, .ref qA5, .ref qA6, .ref qA7, .int (y1 + 1), .int 0, .int 0, .long 0, .int 52, .int 2047, .long 0, .int (-1074), .long 0, .int 0])) := hO0
  replace hF := q_us hF hu4 (.head _)
  replace hA7 := (hu4 _ n_A7_O0).trans (hA7)
  exact q_retv C0 V (⟨hF, hO0, hA7⟩) d_17_16_20
set_option maxRecDepth 100000 in
set_option maxHeartbeats 4000000 in
theorem c_FR_number_5 (l : Launch) (D : va_G) (g : Nat → ClassId) (ws : va_W) (kO0 kA7 qO0 qA1 qA2 qA3 qA4 qA5 qA6 qA7 : Nat) (y1 : Int32) (f3 : Nat → Int32) (hO0 : ws[kO0]? = some (qO0, .inr (15, [.int 0, .ref qA1, .ref qA2, .ref qA3, .ref qA4, .ref qA5, .ref qA6, .ref qA7, .int y1, .int 0, .int 0, .long 0, .int 52, .int 2047, .long 0, .int (-1074), .long 0, .int 0]))) (hA7 : ws[kA7]? = some (qA7, .inl (g 0, 1600, .inl f3))) (y1lo : 5 ≤ y1) (y1hi : y1 ≤ 804) : q_mV l y_FR_number prog_17_method_19_code 3 2 0 0 D g [.ref qO0, .int 0] ws (fun u => q_un ws u [kO0, kA7] ∧ u[kO0]? = some (qO0, .inr (15, [.int 0, .ref qA1, .ref qA2, .ref qA3, .ref qA4, .ref qA5, .ref qA6, .ref qA7, .int (y1 + 1), .int 0, .int 0, .long 0, .int 52, .int 2047, .long 0, .int (-1074), .long 0, .int 0])) ∧ u[kA7]? = some (qA7, .inl (g 0, 1600, .inl (upd f3 y1.toNatClampNeg 48)))) := by
  intro sz
  refine q_into (by decide) (Nat.le_of_ble_eq_true rfl) ?_
  intro p e s m below meth c ls hsz C0 V hl
  have hx := C0.1
  have hb := C0.2.1
  have hl : lv_has ls 3 [(0, .ref qO0), (1, .int 0)] := hl
  have hF : q_un ws ws [kO0, kA7] := q_u0
  refine lv_iconst (v := 1) hx hb d_17_19_0 (by decide) ?_
  refine lv_istore_n (lv' := [(2, .int 1), (0, .ref qO0), (1, .int 0)]) hx hb d_17_19_1 rfl hl (by decide) rfl (fun ls hl => ?_)
  refine lv_iload_n hx hb d_17_19_2 rfl (lv_at hl 2 rfl) ?_
  refine lv_iload_n hx hb d_17_19_3 rfl (lv_at hl 0 rfl) ?_
  refine lv_idiv hx hb d_17_19_4 (by decide) ?_
  refine q_ti (v := 0) (by decide) ?_
  refine lv_bipush (v := 9) hx hb d_17_19_5 (by decide) ?_
  refine lv_icmp_le (tgt := 18) hx hb d_17_19_7 (by decide) (fun c1 => ?_) (fun c1 => absurd (by decide) c1)
  refine lv_iload_n hx hb d_17_19_18 rfl (lv_at hl 0 rfl) ?_
  refine lv_if_le (tgt := 43) hx hb d_17_19_19 (by decide) (fun c2 => absurd c2 (by decide)) (fun c2 => ?_)
  refine lv_aload_n hx hb d_17_19_22 rfl (lv_at hl 1 rfl) ?_
  refine lv_bipush (v := 48) hx hb d_17_19_23 (by decide) ?_
  refine lv_iload_n hx hb d_17_19_25 rfl (lv_at hl 2 rfl) ?_
  refine lv_iload_n hx hb d_17_19_26 rfl (lv_at hl 0 rfl) ?_
  refine lv_idiv hx hb d_17_19_27 (by decide) ?_
  refine q_ti (v := 0) (by decide) ?_
  refine lv_bipush (v := 10) hx hb d_17_19_28 (by decide) ?_
  refine lv_irem hx hb d_17_19_30 (by decide) ?_
  refine q_ti (v := 0) (by decide) ?_
  refine lv_iadd hx hb d_17_19_31 ?_
  refine q_ti (v := 48) (by decide) ?_
  refine q_gov V (q_runV (As := [.int 48]) (rest := []) (d := 1) (mc := 0) (ms := 0) (ci := 15) C0 V rfl LV_FR_110 (c_FR_add_3 l D g ws kO0 kA7 qO0 qA1 qA2 qA3 qA4 qA5 qA6 qA7 y1 f3 hO0 hA7 (q_Ile (x := 2) (y := y1.toInt) (by decide) rfl (by have t1 : 5 ≤ y1.toInt := q_leI y1lo; have t2 : y1.toInt ≤ 804 := q_leI y1hi; omega)) (q_Ile (x := y1.toInt) (y := 1076) rfl (by decide) (by have t1 : 5 ≤ y1.toInt := q_leI y1lo; have t2 : y1.toInt ≤ 804 := q_leI y1hi; omega)) _) rfl rfl hO0 rfl hl.1 rfl (Nat.le_of_ble_eq_true rfl) ⟨by decide, by decide⟩ ⟨Nat.le_of_ble_eq_true rfl, Nat.le_of_ble_eq_true rfl⟩ d_17_19_32) (fun u4 H locs hp3 V => ?_)
  obtain ⟨hg5, hO0, hA7⟩ := hp3
  replace hF := q_uc hF hg5 (q_sc (.head _) (q_sc (.tail _ (.head _)) (fun _ h => absurd h List.not_mem_nil)))
  refine lv_iload_n hx hb d_17_19_35 rfl (lv_at hl 0 rfl) ?_
  refine lv_bipush (v := 10) hx hb d_17_19_36 (by decide) ?_
  refine lv_idiv hx hb d_17_19_38 (by decide) ?_
  refine q_ti (v := 0) (by decide) ?_
  refine lv_istore_n (lv' := [(2, .int 0), (0, .ref qO0), (1, .int 0)]) hx hb d_17_19_39 rfl hl (by decide) rfl (fun ls hl => ?_)
  refine lv_goto (tgt := 18) hx hb d_17_19_40 (by decide) ?_
  refine lv_iload_n hx hb d_17_19_18 rfl (lv_at hl 0 rfl) ?_
  refine lv_if_le (tgt := 43) hx hb d_17_19_19 (by decide) (fun c6 => ?_) (fun c6 => absurd (by decide) c6)
  exact q_retv C0 V (⟨hF, hO0, hA7⟩) d_17_19_43
set_option maxRecDepth 100000 in
set_option maxHeartbeats 4000000 in
theorem c_FR_add_25 (l : Launch) (D : va_G) (g : Nat → ClassId) (ws : va_W) (kO0 kA7 qO0 qA1 qA2 qA3 qA4 qA5 qA6 qA7 : Nat) (y1 : Int32) (f3 : Nat → Int32) (hO0 : ws[kO0]? = some (qO0, .inr (15, [.int 0, .ref qA1, .ref qA2, .ref qA3, .ref qA4, .ref qA5, .ref qA6, .ref qA7, .int y1, .int 0, .int 0, .long 0, .int 52, .int 2047, .long 0, .int (-1074), .long 0, .int 0]))) (hA7 : ws[kA7]? = some (qA7, .inl (g 0, 1600, .inl f3))) (y1lo : 2 ≤ y1) (y1hi : y1 ≤ 801) : q_mV l y_FR_add prog_17_method_16_code 2 1 0 0 D g [.ref qO0, .int 101] ws (fun u => q_un ws u [kO0, kA7] ∧ u[kO0]? = some (qO0, .inr (15, [.int 0, .ref qA1, .ref qA2, .ref qA3, .ref qA4, .ref qA5, .ref qA6, .ref qA7, .int (y1 + 1), .int 0, .int 0, .long 0, .int 52, .int 2047, .long 0, .int (-1074), .long 0, .int 0])) ∧ u[kA7]? = some (qA7, .inl (g 0, 1600, .inl (upd f3 y1.toNatClampNeg 101)))) := by
  intro sz
  refine q_into (by decide) (Nat.le_of_ble_eq_true rfl) ?_
  intro p e s m below meth c ls hsz C0 V hl
  have hx := C0.1
  have hb := C0.2.1
  have hl : lv_has ls 2 [(0, .ref qO0), (1, .int 101)] := hl
  have n_A7_O0 := q_df hA7 hO0
  have n_O0_A7 := Ne.symm (q_df hA7 hO0)
  have hF : q_un ws ws [kO0, kA7] := q_u0
  refine lv_aload_n hx hb d_17_16_0 rfl (lv_at hl 0 rfl) ?_
  refine q_get (ci := 15) (j := 7) (v := .ref qA7) C0 V i_FR rfl rfl hO0 (by decide) w_2082 rfl d_17_16_1 ?_
  refine lv_aload_n hx hb d_17_16_4 rfl (lv_at hl 0 rfl) ?_
  refine q_get (ci := 15) (j := 8) (v := .int y1) C0 V i_FR rfl rfl hO0 (by decide) w_2084 rfl d_17_16_5 ?_
  refine lv_iload_n hx hb d_17_16_8 rfl (lv_at hl 1 rfl) ?_
  refine q_iast C0 V hA7 (q_ix (x := y1.toInt) rfl (by have t1 : 2 ≤ y1.toInt := q_leI y1lo; have t2 : y1.toInt ≤ 801 := q_leI y1hi; omega) (by have t1 : 2 ≤ y1.toInt := q_leI y1lo; have t2 : y1.toInt ≤ 801 := q_leI y1hi; omega)) d_17_16_9 (fun H locs w1 hu2 hA7 V => ?_)
  replace hA7 : w1[kA7]? = some (qA7, .inl (g 0, 1600, .inl (upd f3 y1.toNatClampNeg 101))) := hA7
  replace hF := q_us hF hu2 (.tail _ (.head _))
  refine lv_aload_n hx hb d_17_16_10 rfl (lv_at hl 0 rfl) ?_
  refine lv_dup hx hb d_17_16_11 rfl ?_
  replace hO0 := (hu2 _ n_O0_A7).trans (hO0)
  refine q_get (ci := 15) (j := 8) (v := .int y1) C0 V i_FR rfl rfl hO0 (by decide) w_2084 rfl d_17_16_12 ?_
  refine lv_iconst (v := 1) hx hb d_17_16_15 (by decide) ?_
  refine lv_iadd hx hb d_17_16_16 ?_
  refine q_put (ci := 15) (j := 8) (v := .int (y1 + 1)) (ty := .int) C0 V i_FR o_FR n_FR rfl rfl hO0 (by decide) w_2084 rfl rfl rfl rfl (Nat.le_of_ble_eq_true rfl) d_17_16_17 (fun H locs w3 hu4 hO0 V => ?_)
  replace hO0 : w3[kO0]? = some (qO0, .inr (15, [.int 0, .ref qA1, .ref qA2, .ref qA3, .ref qA4, .ref qA5, .ref qA6, .ref qA7, .int (y1 + 1), .int 0, .int 0, .long 0, .int 52, .int 2047, .long 0, .int (-1074), .long 0, .int 0])) := hO0
  replace hF := q_us hF hu4 (.head _)
  replace hA7 := (hu4 _ n_A7_O0).trans (hA7)
  exact q_retv C0 V (⟨hF, hO0, hA7⟩) d_17_16_20
theorem d_17_30_0 : decode prog_17_method_30_code 0 = .ok (.aload_n 0, 1) := by decide +kernel
theorem d_17_30_1 : decode prog_17_method_30_code 1 = .ok (.lload_n 1, 1) := by decide +kernel
theorem d_17_30_2 : decode prog_17_method_30_code 2 = .ok (.iload_n 3, 1) := by decide +kernel
theorem d_17_30_3 : decode prog_17_method_30_code 3 = .ok (.ifCond .eq 15, 3) := by decide +kernel
theorem d_17_30_18 : decode prog_17_method_30_code 18 = .ok (.iconst 0, 1) := by decide +kernel
theorem d_17_30_19 : decode prog_17_method_30_code 19 = .ok (.invokevirtual 126, 3) := by decide +kernel
theorem d_17_30_22 : decode prog_17_method_30_code 22 = .ok (.aload_n 0, 1) := by decide +kernel
theorem d_17_30_23 : decode prog_17_method_30_code 23 = .ok (.lload_n 1, 1) := by decide +kernel
theorem d_17_30_24 : decode prog_17_method_30_code 24 = .ok (.iload_n 3, 1) := by decide +kernel
theorem d_17_30_25 : decode prog_17_method_30_code 25 = .ok (.invokestatic 122, 3) := by decide +kernel
theorem d_17_30_28 : decode prog_17_method_30_code 28 = .ok (.ifCond .ne 28, 3) := by decide +kernel
theorem d_17_30_31 : decode prog_17_method_30_code 31 = .ok (.iload 4, 2) := by decide +kernel
theorem d_17_30_33 : decode prog_17_method_30_code 33 = .ok (.iconst 1, 1) := by decide +kernel
theorem d_17_30_34 : decode prog_17_method_30_code 34 = .ok (.if_icmp .lt 22, 3) := by decide +kernel
theorem d_17_30_56 : decode prog_17_method_30_code 56 = .ok (.iconst 1, 1) := by decide +kernel
theorem d_17_30_57 : decode prog_17_method_30_code 57 = .ok (.goto 15, 3) := by decide +kernel
theorem d_17_30_72 : decode prog_17_method_30_code 72 = .ok (.putfield 31, 3) := by decide +kernel
theorem d_17_30_75 : decode prog_17_method_30_code 75 = .ok (.aload_n 0, 1) := by decide +kernel
theorem d_17_30_76 : decode prog_17_method_30_code 76 = .ok (.getfield 31, 3) := by decide +kernel
theorem d_17_30_79 : decode prog_17_method_30_code 79 = .ok (.ifCond .le 5, 3) := by decide +kernel
theorem d_17_30_82 : decode prog_17_method_30_code 82 = .ok (.iconst 0, 1) := by decide +kernel
theorem d_17_30_83 : decode prog_17_method_30_code 83 = .ok (.ireturn, 1) := by decide +kernel
theorem d_17_30_37 : decode prog_17_method_30_code 37 = .ok (.iload 4, 2) := by decide +kernel
theorem d_17_30_39 : decode prog_17_method_30_code 39 = .ok (.sipush 800, 3) := by decide +kernel
theorem d_17_30_42 : decode prog_17_method_30_code 42 = .ok (.if_icmp .gt 14, 3) := by decide +kernel
theorem d_17_30_45 : decode prog_17_method_30_code 45 = .ok (.iload 5, 2) := by decide +kernel
theorem d_17_30_47 : decode prog_17_method_30_code 47 = .ok (.ifCond .lt 9, 3) := by decide +kernel
theorem d_17_30_50 : decode prog_17_method_30_code 50 = .ok (.iload 5, 2) := by decide +kernel
theorem d_17_30_52 : decode prog_17_method_30_code 52 = .ok (.iconst 3, 1) := by decide +kernel
theorem d_17_30_53 : decode prog_17_method_30_code 53 = .ok (.if_icmp .le 7, 3) := by decide +kernel
theorem d_17_30_60 : decode prog_17_method_30_code 60 = .ok (.aload_n 0, 1) := by decide +kernel
theorem d_17_30_61 : decode prog_17_method_30_code 61 = .ok (.invokevirtual 130, 3) := by decide +kernel
theorem d_17_30_64 : decode prog_17_method_30_code 64 = .ok (.ifCond .ne 7, 3) := by decide +kernel
theorem d_17_30_71 : decode prog_17_method_30_code 71 = .ok (.iconst 0, 1) := by decide +kernel
theorem d_17_30_84 : decode prog_17_method_30_code 84 = .ok (.aload_n 0, 1) := by decide +kernel
theorem d_17_30_85 : decode prog_17_method_30_code 85 = .ok (.invokevirtual 162, 3) := by decide +kernel
theorem d_17_30_88 : decode prog_17_method_30_code 88 = .ok (.aload_n 0, 1) := by decide +kernel
theorem d_17_30_89 : decode prog_17_method_30_code 89 = .ok (.getfield 52, 3) := by decide +kernel
theorem d_17_30_92 : decode prog_17_method_30_code 92 = .ok (.lconst 0, 1) := by decide +kernel
theorem d_17_30_93 : decode prog_17_method_30_code 93 = .ok (.lcmp, 1) := by decide +kernel
theorem d_17_30_94 : decode prog_17_method_30_code 94 = .ok (.ifCond .ne 9, 3) := by decide +kernel
theorem d_17_30_97 : decode prog_17_method_30_code 97 = .ok (.sipush 1080, 3) := by decide +kernel
theorem d_17_30_100 : decode prog_17_method_30_code 100 = .ok (.goto 7, 3) := by decide +kernel
theorem d_17_30_107 : decode prog_17_method_30_code 107 = .ok (.istore 6, 2) := by decide +kernel
theorem d_17_30_109 : decode prog_17_method_30_code 109 = .ok (.iload 6, 2) := by decide +kernel
theorem d_17_30_111 : decode prog_17_method_30_code 111 = .ok (.iload 4, 2) := by decide +kernel
theorem d_17_30_113 : decode prog_17_method_30_code 113 = .ok (.isub, 1) := by decide +kernel
theorem d_17_30_114 : decode prog_17_method_30_code 114 = .ok (.iconst 1, 1) := by decide +kernel
theorem d_17_30_115 : decode prog_17_method_30_code 115 = .ok (.iadd, 1) := by decide +kernel
theorem d_17_30_116 : decode prog_17_method_30_code 116 = .ok (.ifCond .ge 7, 3) := by decide +kernel
theorem d_17_30_123 : decode prog_17_method_30_code 123 = .ok (.iload 6, 2) := by decide +kernel
theorem d_17_30_125 : decode prog_17_method_30_code 125 = .ok (.iload 4, 2) := by decide +kernel
theorem d_17_30_127 : decode prog_17_method_30_code 127 = .ok (.isub, 1) := by decide +kernel
theorem d_17_30_128 : decode prog_17_method_30_code 128 = .ok (.iconst 1, 1) := by decide +kernel
theorem d_17_30_129 : decode prog_17_method_30_code 129 = .ok (.iadd, 1) := by decide +kernel
theorem d_17_30_130 : decode prog_17_method_30_code 130 = .ok (.istore 7, 2) := by decide +kernel
theorem d_17_30_132 : decode prog_17_method_30_code 132 = .ok (.aload_n 0, 1) := by decide +kernel
theorem d_17_30_133 : decode prog_17_method_30_code 133 = .ok (.iload 7, 2) := by decide +kernel
theorem d_17_30_135 : decode prog_17_method_30_code 135 = .ok (.aload_n 0, 1) := by decide +kernel
theorem d_17_30_136 : decode prog_17_method_30_code 136 = .ok (.iload 7, 2) := by decide +kernel
theorem d_17_30_138 : decode prog_17_method_30_code 138 = .ok (.iload 5, 2) := by decide +kernel
theorem d_17_30_140 : decode prog_17_method_30_code 140 = .ok (.invokevirtual 165, 3) := by decide +kernel
theorem d_17_30_143 : decode prog_17_method_30_code 143 = .ok (.invokevirtual 81, 3) := by decide +kernel
theorem d_17_30_146 : decode prog_17_method_30_code 146 = .ok (.aload_n 0, 1) := by decide +kernel
theorem d_17_30_147 : decode prog_17_method_30_code 147 = .ok (.getfield 25, 3) := by decide +kernel
theorem d_17_30_150 : decode prog_17_method_30_code 150 = .ok (.iload 6, 2) := by decide +kernel
theorem d_17_30_152 : decode prog_17_method_30_code 152 = .ok (.iconst 1, 1) := by decide +kernel
theorem d_17_30_153 : decode prog_17_method_30_code 153 = .ok (.iadd, 1) := by decide +kernel
theorem d_17_30_154 : decode prog_17_method_30_code 154 = .ok (.iaload, 1) := by decide +kernel
theorem d_17_30_155 : decode prog_17_method_30_code 155 = .ok (.iconst 1, 1) := by decide +kernel
theorem d_17_30_156 : decode prog_17_method_30_code 156 = .ok (.if_icmp .ne 19, 3) := by decide +kernel
theorem d_17_30_175 : decode prog_17_method_30_code 175 = .ok (.iload 6, 2) := by decide +kernel
theorem d_17_30_177 : decode prog_17_method_30_code 177 = .ok (.istore 6, 2) := by decide +kernel
theorem d_17_30_179 : decode prog_17_method_30_code 179 = .ok (.aload_n 0, 1) := by decide +kernel
theorem d_17_30_180 : decode prog_17_method_30_code 180 = .ok (.invokevirtual 113, 3) := by decide +kernel
theorem d_17_30_183 : decode prog_17_method_30_code 183 = .ok (.iconst 0, 1) := by decide +kernel
theorem d_17_30_184 : decode prog_17_method_30_code 184 = .ok (.istore 8, 2) := by decide +kernel
theorem d_17_30_186 : decode prog_17_method_30_code 186 = .ok (.iload 8, 2) := by decide +kernel
theorem d_17_30_188 : decode prog_17_method_30_code 188 = .ok (.iload 4, 2) := by decide +kernel
theorem d_17_30_190 : decode prog_17_method_30_code 190 = .ok (.if_icmp .ge 46, 3) := by decide +kernel
theorem d_17_30_193 : decode prog_17_method_30_code 193 = .ok (.aload_n 0, 1) := by decide +kernel
theorem d_17_30_194 : decode prog_17_method_30_code 194 = .ok (.bipush 48, 2) := by decide +kernel
theorem d_17_30_196 : decode prog_17_method_30_code 196 = .ok (.aload_n 0, 1) := by decide +kernel
theorem d_17_30_197 : decode prog_17_method_30_code 197 = .ok (.iload 6, 2) := by decide +kernel
theorem d_17_30_199 : decode prog_17_method_30_code 199 = .ok (.sipush 1080, 3) := by decide +kernel
theorem d_17_30_202 : decode prog_17_method_30_code 202 = .ok (.isub, 1) := by decide +kernel
theorem d_17_30_203 : decode prog_17_method_30_code 203 = .ok (.iload 8, 2) := by decide +kernel
theorem d_17_30_205 : decode prog_17_method_30_code 205 = .ok (.isub, 1) := by decide +kernel
theorem d_17_30_206 : decode prog_17_method_30_code 206 = .ok (.invokevirtual 169, 3) := by decide +kernel
theorem d_17_30_209 : decode prog_17_method_30_code 209 = .ok (.iadd, 1) := by decide +kernel
theorem d_17_30_210 : decode prog_17_method_30_code 210 = .ok (.invokevirtual 110, 3) := by decide +kernel
theorem d_17_30_213 : decode prog_17_method_30_code 213 = .ok (.iload 8, 2) := by decide +kernel
theorem d_17_30_215 : decode prog_17_method_30_code 215 = .ok (.ifCond .ne 15, 3) := by decide +kernel
theorem d_17_30_218 : decode prog_17_method_30_code 218 = .ok (.iload 4, 2) := by decide +kernel
theorem d_17_30_220 : decode prog_17_method_30_code 220 = .ok (.iconst 1, 1) := by decide +kernel
theorem d_17_30_221 : decode prog_17_method_30_code 221 = .ok (.if_icmp .le 9, 3) := by decide +kernel
theorem d_17_30_230 : decode prog_17_method_30_code 230 = .ok (.iinc 8 1, 3) := by decide +kernel
theorem d_17_30_233 : decode prog_17_method_30_code 233 = .ok (.goto (-47), 3) := by decide +kernel
theorem d_17_30_236 : decode prog_17_method_30_code 236 = .ok (.iload 6, 2) := by decide +kernel
theorem d_17_30_238 : decode prog_17_method_30_code 238 = .ok (.sipush 1080, 3) := by decide +kernel
theorem d_17_30_241 : decode prog_17_method_30_code 241 = .ok (.isub, 1) := by decide +kernel
theorem d_17_30_242 : decode prog_17_method_30_code 242 = .ok (.istore 8, 2) := by decide +kernel
theorem d_17_30_244 : decode prog_17_method_30_code 244 = .ok (.aload_n 0, 1) := by decide +kernel
theorem d_17_30_245 : decode prog_17_method_30_code 245 = .ok (.bipush 101, 2) := by decide +kernel
theorem d_17_30_247 : decode prog_17_method_30_code 247 = .ok (.invokevirtual 110, 3) := by decide +kernel
theorem d_17_30_250 : decode prog_17_method_30_code 250 = .ok (.aload_n 0, 1) := by decide +kernel
theorem d_17_30_251 : decode prog_17_method_30_code 251 = .ok (.iload 8, 2) := by decide +kernel
theorem d_17_30_253 : decode prog_17_method_30_code 253 = .ok (.ifCond .ge 8, 3) := by decide +kernel
theorem d_17_30_261 : decode prog_17_method_30_code 261 = .ok (.bipush 43, 2) := by decide +kernel
theorem d_17_30_263 : decode prog_17_method_30_code 263 = .ok (.invokevirtual 110, 3) := by decide +kernel
theorem d_17_30_266 : decode prog_17_method_30_code 266 = .ok (.iload 8, 2) := by decide +kernel
theorem d_17_30_268 : decode prog_17_method_30_code 268 = .ok (.ifCond .ge 9, 3) := by decide +kernel
theorem d_17_30_277 : decode prog_17_method_30_code 277 = .ok (.iload 8, 2) := by decide +kernel
theorem d_17_30_279 : decode prog_17_method_30_code 279 = .ok (.istore 8, 2) := by decide +kernel
theorem d_17_30_281 : decode prog_17_method_30_code 281 = .ok (.iload 8, 2) := by decide +kernel
theorem d_17_30_283 : decode prog_17_method_30_code 283 = .ok (.bipush 10, 2) := by decide +kernel
theorem d_17_30_285 : decode prog_17_method_30_code 285 = .ok (.if_icmp .ge 9, 3) := by decide +kernel
theorem d_17_30_288 : decode prog_17_method_30_code 288 = .ok (.aload_n 0, 1) := by decide +kernel
theorem d_17_30_289 : decode prog_17_method_30_code 289 = .ok (.bipush 48, 2) := by decide +kernel
theorem d_17_30_291 : decode prog_17_method_30_code 291 = .ok (.invokevirtual 110, 3) := by decide +kernel
theorem d_17_30_294 : decode prog_17_method_30_code 294 = .ok (.aload_n 0, 1) := by decide +kernel
theorem d_17_30_295 : decode prog_17_method_30_code 295 = .ok (.iload 8, 2) := by decide +kernel
theorem d_17_30_297 : decode prog_17_method_30_code 297 = .ok (.invokevirtual 149, 3) := by decide +kernel
theorem d_17_30_300 : decode prog_17_method_30_code 300 = .ok (.aload_n 0, 1) := by decide +kernel
theorem d_17_30_301 : decode prog_17_method_30_code 301 = .ok (.getfield 107, 3) := by decide +kernel
theorem d_17_30_304 : decode prog_17_method_30_code 304 = .ok (.ireturn, 1) := by decide +kernel
theorem d_17_30_224 : decode prog_17_method_30_code 224 = .ok (.aload_n 0, 1) := by decide +kernel
theorem d_17_30_225 : decode prog_17_method_30_code 225 = .ok (.bipush 46, 2) := by decide +kernel
theorem d_17_30_227 : decode prog_17_method_30_code 227 = .ok (.invokevirtual 110, 3) := by decide +kernel
def y_FR_scientific : MethodName := ⟨"NumberHouseModel$FloatRows", "scientific", "(JZII)I"⟩
set_option maxRecDepth 100000 in
set_option maxHeartbeats 4000000 in
theorem c_FR_scientific (l : Launch) (D : va_G) (g : Nat → ClassId) (ws : va_W) (kO0 kA1 kA2 kA3 kA6 kA7 qO0 qA1 qA2 qA3 qA4 qA5 qA6 qA7 : Nat) (x1 : Int32) (x2 : Int32) (hO0 : ws[kO0]? = some (qO0, .inr (15, [.int 0, .ref qA1, .ref qA2, .ref qA3, .ref qA4, .ref qA5, .ref qA6, .ref qA7, .int 0, .int 0, .int 0, .long 0, .int 0, .int 0, .long 0, .int 0, .long 0, .int 0]))) (hA1 : ws[kA1]? = some (qA1, .inl (g 0, 156, .inl (fun _ => 0)))) (hA2 : ws[kA2]? = some (qA2, .inl (g 0, 156, .inl (fun _ => 0)))) (hA3 : ws[kA3]? = some (qA3, .inl (g 0, 1404, .inl (fun _ => 0)))) (hA6 : ws[kA6]? = some (qA6, .inl (g 0, 1404, .inl (fun _ => 0)))) (hA7 : ws[kA7]? = some (qA7, .inl (g 0, 1600, .inl (fun _ => 0)))) (n_A1_A2 : kA1 ≠ kA2) (n_A1_A3 : kA1 ≠ kA3) (n_A1_A6 : kA1 ≠ kA6) (n_A1_A7 : kA1 ≠ kA7) (n_A2_A6 : kA2 ≠ kA6) (n_A2_A7 : kA2 ≠ kA7) (n_A3_A2 : kA3 ≠ kA2) (n_A3_A6 : kA3 ≠ kA6) (n_A3_A7 : kA3 ≠ kA7) (n_A6_A7 : kA6 ≠ kA7) : q_mI l y_FR_scientific prog_17_method_30_code 9 (.int) 3 0 0 D g [.ref qO0, .long 0, .int 0, .int x1, .int x2] ws (fun r u => (x1 < 1 ∧ 0 = r ∧ q_un ws u [kO0, kA1, kA2, kA3, kA6, kA7] ∧ u[kO0]? = some (qO0, .inr (15, [.int 1, .ref qA1, .ref qA2, .ref qA3, .ref qA4, .ref qA5, .ref qA6, .ref qA7, .int 0, .int 0, .int 0, .long 0, .int 52, .int 2047, .long 0, .int (-1074), .long 0, .int 0])) ∧ u[kA1]? = some (qA1, .inl (g 0, 156, .inl (fun _ => 0))) ∧ u[kA2]? = some (qA2, .inl (g 0, 156, .inl (fun _ => 0))) ∧ u[kA3]? = some (qA3, .inl (g 0, 1404, .inl (fun _ => 0))) ∧ u[kA6]? = some (qA6, .inl (g 0, 1404, .inl (fun _ => 0))) ∧ u[kA7]? = some (qA7, .inl (g 0, 1600, .inl (fun _ => 0)))) ∨ (¬ x1 < 1 ∧ 800 < x1 ∧ 0 = r ∧ q_un ws u [kO0, kA1, kA2, kA3, kA6, kA7] ∧ u[kO0]? = some (qO0, .inr (15, [.int 1, .ref qA1, .ref qA2, .ref qA3, .ref qA4, .ref qA5, .ref qA6, .ref qA7, .int 0, .int 0, .int 0, .long 0, .int 52, .int 2047, .long 0, .int (-1074), .long 0, .int 0])) ∧ u[kA1]? = some (qA1, .inl (g 0, 156, .inl (fun _ => 0))) ∧ u[kA2]? = some (qA2, .inl (g 0, 156, .inl (fun _ => 0))) ∧ u[kA3]? = some (qA3, .inl (g 0, 1404, .inl (fun _ => 0))) ∧ u[kA6]? = some (qA6, .inl (g 0, 1404, .inl (fun _ => 0))) ∧ u[kA7]? = some (qA7, .inl (g 0, 1600, .inl (fun _ => 0)))) ∨ (¬ x1 < 1 ∧ ¬ 800 < x1 ∧ x2 < 0 ∧ 0 = r ∧ q_un ws u [kO0, kA1, kA2, kA3, kA6, kA7] ∧ u[kO0]? = some (qO0, .inr (15, [.int 1, .ref qA1, .ref qA2, .ref qA3, .ref qA4, .ref qA5, .ref qA6, .ref qA7, .int 0, .int 0, .int 0, .long 0, .int 52, .int 2047, .long 0, .int (-1074), .long 0, .int 0])) ∧ u[kA1]? = some (qA1, .inl (g 0, 156, .inl (fun _ => 0))) ∧ u[kA2]? = some (qA2, .inl (g 0, 156, .inl (fun _ => 0))) ∧ u[kA3]? = some (qA3, .inl (g 0, 1404, .inl (fun _ => 0))) ∧ u[kA6]? = some (qA6, .inl (g 0, 1404, .inl (fun _ => 0))) ∧ u[kA7]? = some (qA7, .inl (g 0, 1600, .inl (fun _ => 0)))) ∨ (∃ (ex0 : Nat → Int32), ¬ x1 < 1 ∧ ¬ 800 < x1 ∧ ¬ x2 < 0 ∧ x2 ≤ 3 ∧ x1 ≤ 1 ∧ (3 + 1) + 1 = r ∧ q_un ws u [kO0, kA1, kA2, kA3, kA6, kA7] ∧ u[kO0]? = some (qO0, .inr (15, [.int 0, .ref qA1, .ref qA2, .ref qA3, .ref qA4, .ref qA5, .ref qA6, .ref qA7, .int ((3 + 1) + 1), .int 0, .int 0, .long 0, .int 52, .int 2047, .long 0, .int (-1074), .long 0, .int 0])) ∧ u[kA1]? = some (qA1, .inl (g 0, 156, .inl ex0)) ∧ u[kA2]? = some (qA2, .inl (g 0, 156, .inl (fun _ => 0))) ∧ u[kA3]? = some (qA3, .inl (g 0, 1404, .inl (fun _ => 0))) ∧ u[kA6]? = some (qA6, .inl (g 0, 1404, .inl (fun _ => 0))) ∧ u[kA7]? = some (qA7, .inl (g 0, 1600, .inl (upd (upd (upd (upd (upd (fun _ => 0) 0 48) 1 101) 2 43) 3.toNatClampNeg 48) (3 + 1).toNatClampNeg 48)))) ∨ (∃ (ex0 : Int32) (ex1 : Nat → Int32) (ex2 : Nat → Int32), ¬ x1 < 1 ∧ ¬ 800 < x1 ∧ ¬ x2 < 0 ∧ x2 ≤ 3 ∧ ¬ x1 ≤ 1 ∧ ((x1.toInt < 1 ∧ ex0.toInt = 2) ∨ (1 ≤ x1.toInt ∧ ex0.toInt = 2 + 1 * (x1.toInt - 1))) ∧ 2 ≤ ex0 ∧ ex0 ≤ 801 ∧ (((ex0 + 1) + 1) + 1) + 1 = r ∧ q_un ws u [kO0, kA1, kA2, kA3, kA6, kA7] ∧ u[kO0]? = some (qO0, .inr (15, [.int 0, .ref qA1, .ref qA2, .ref qA3, .ref qA4, .ref qA5, .ref qA6, .ref qA7, .int ((((ex0 + 1) + 1) + 1) + 1), .int 0, .int 0, .long 0, .int 52, .int 2047, .long 0, .int (-1074), .long 0, .int 0])) ∧ u[kA1]? = some (qA1, .inl (g 0, 156, .inl ex1)) ∧ u[kA2]? = some (qA2, .inl (g 0, 156, .inl (fun _ => 0))) ∧ u[kA3]? = some (qA3, .inl (g 0, 1404, .inl (fun _ => 0))) ∧ u[kA6]? = some (qA6, .inl (g 0, 1404, .inl (fun _ => 0))) ∧ u[kA7]? = some (qA7, .inl (g 0, 1600, .inl (upd (upd (upd (upd ex2 ex0.toNatClampNeg 101) (ex0 + 1).toNatClampNeg 43) ((ex0 + 1) + 1).toNatClampNeg 48) (((ex0 + 1) + 1) + 1).toNatClampNeg 48)))) ∨ (¬ x1 < 1 ∧ ¬ 800 < x1 ∧ ¬ x2 < 0 ∧ ¬ x2 ≤ 3 ∧ 0 = r ∧ q_un ws u [kO0, kA1, kA2, kA3, kA6, kA7] ∧ u[kO0]? = some (qO0, .inr (15, [.int 1, .ref qA1, .ref qA2, .ref qA3, .ref qA4, .ref qA5, .ref qA6, .ref qA7, .int 0, .int 0, .int 0, .long 0, .int 52, .int 2047, .long 0, .int (-1074), .long 0, .int 0])) ∧ u[kA1]? = some (qA1, .inl (g 0, 156, .inl (fun _ => 0))) ∧ u[kA2]? = some (qA2, .inl (g 0, 156, .inl (fun _ => 0))) ∧ u[kA3]? = some (qA3, .inl (g 0, 1404, .inl (fun _ => 0))) ∧ u[kA6]? = some (qA6, .inl (g 0, 1404, .inl (fun _ => 0))) ∧ u[kA7]? = some (qA7, .inl (g 0, 1600, .inl (fun _ => 0))))) := by
  intro sz
  refine q_into (by decide) (Nat.le_of_ble_eq_true rfl) ?_
  intro p e s m below meth c ls hsz C0 V hl
  have hx := C0.1
  have hb := C0.2.1
  have hl : lv_has ls 9 [(0, .ref qO0), (1, .long 0), (3, .int 0), (4, .int x1), (5, .int x2)] := hl
  have n_A1_O0 := q_df hA1 hO0
  have n_A2_O0 := q_df hA2 hO0
  have n_A3_O0 := q_df hA3 hO0
  have n_A6_A1 := Ne.symm n_A1_A6
  have n_A6_A2 := Ne.symm n_A2_A6
  have n_A6_A3 := Ne.symm n_A3_A6
  have n_A6_O0 := q_df hA6 hO0
  have n_A7_A1 := Ne.symm n_A1_A7
  have n_A7_A2 := Ne.symm n_A2_A7
  have n_A7_A3 := Ne.symm n_A3_A7
  have n_A7_A6 := Ne.symm n_A6_A7
  have n_A7_O0 := q_df hA7 hO0
  have n_O0_A1 := Ne.symm (q_df hA1 hO0)
  have n_O0_A2 := Ne.symm (q_df hA2 hO0)
  have n_O0_A3 := Ne.symm (q_df hA3 hO0)
  have n_O0_A6 := Ne.symm (q_df hA6 hO0)
  have hF : q_un ws ws [kO0, kA1, kA2, kA3, kA6, kA7] := q_u0
  refine lv_aload_n hx hb d_17_30_0 rfl (lv_at hl 0 rfl) ?_
  refine lv_lload_n hx hb d_17_30_1 rfl (lv_at hl 1 rfl) ?_
  refine lv_iload_n hx hb d_17_30_2 rfl (lv_at hl 2 rfl) ?_
  refine lv_if_eq (tgt := 18) hx hb d_17_30_3 (by decide) (fun c1 => ?_) (fun c1 => absurd (by decide) c1)
  refine lv_iconst (v := 0) hx hb d_17_30_18 (by decide) ?_
  refine q_gov V (q_runV (As := [.long 0, .int 0]) (rest := []) (d := 1) (mc := 0) (ms := 0) (ci := 15) C0 V rfl LV_FR_126 (c_FR_open l D g ws kO0 qO0 qA1 qA2 qA3 qA4 qA5 qA6 qA7 hO0 _) rfl rfl hO0 rfl hl.1 rfl (Nat.le_of_ble_eq_true rfl) ⟨by decide, by decide⟩ ⟨Nat.le_of_ble_eq_true rfl, Nat.le_of_ble_eq_true rfl⟩ d_17_30_19) (fun u3 H locs hp2 V => ?_)
  obtain ⟨hg4, hO0⟩ := hp2
  replace hF := q_uc hF hg4 (q_sc (.head _) (fun _ h => absurd h List.not_mem_nil))
  refine lv_aload_n hx hb d_17_30_22 rfl (lv_at hl 0 rfl) ?_
  refine lv_lload_n hx hb d_17_30_23 rfl (lv_at hl 1 rfl) ?_
  refine lv_iload_n hx hb d_17_30_24 rfl (lv_at hl 2 rfl) ?_
  refine q_goi V (q_runS (As := [.long 0, .int 0]) (rest := [.ref qO0]) (d := 1) (mc := 0) (ms := 0) C0 V rfl LS_FR_122 (c_FR_isWrong l D g u3 _) rfl hl.1 rfl (Nat.le_of_ble_eq_true rfl) ⟨by decide, by decide⟩ ⟨Nat.le_of_ble_eq_true rfl, Nat.le_of_ble_eq_true rfl⟩ d_17_30_25) (fun v7 u6 H locs hp5 V => ?_)
  obtain ⟨rfl, rfl⟩ := hp5
  refine lv_if_ne (tgt := 56) hx hb d_17_30_28 (by decide) (fun c9 => absurd (by decide) c9) (fun c9 => ?_)
  refine lv_iload hx hb d_17_30_31 (lv_at hl 3 rfl) ?_
  refine lv_iconst (v := 1) hx hb d_17_30_33 (by decide) ?_
  refine lv_icmp_lt (tgt := 56) hx hb d_17_30_34 (by decide) (fun c10 => ?_) (fun c10 => ?_)
  ·
    refine lv_iconst (v := 1) hx hb d_17_30_56 (by decide) ?_
    refine lv_goto (tgt := 72) hx hb d_17_30_57 (by decide) ?_
    refine q_put (ci := 15) (j := 0) (v := .int 1) (ty := .int) C0 V i_FR o_FR n_FR rfl rfl hO0 (by decide) w_2074 rfl rfl rfl rfl (Nat.le_of_ble_eq_true rfl) d_17_30_72 (fun H locs w11 hu12 hO0 V => ?_)
    replace hO0 : w11[kO0]? = some (qO0, .inr (15, [.int 1, .ref qA1, .ref qA2, .ref qA3, .ref qA4, .ref qA5, .ref qA6, .ref qA7, .int 0, .int 0, .int 0, .long 0, .int 52, .int 2047, .long 0, .int (-1074), .long 0, .int 0])) := hO0
    replace hF := q_us hF hu12 (.head _)
    refine lv_aload_n hx hb d_17_30_75 rfl (lv_at hl 0 rfl) ?_
    refine q_get (ci := 15) (j := 0) (v := .int 1) C0 V i_FR rfl rfl hO0 (by decide) w_2074 rfl d_17_30_76 ?_
    refine lv_if_le (tgt := 84) hx hb d_17_30_79 (by decide) (fun c13 => absurd c13 (by decide)) (fun c13 => ?_)
    refine lv_iconst (v := 0) hx hb d_17_30_82 (by decide) ?_
    replace hA1 := (hu12 _ n_A1_O0).trans ((hg4 _ (q_nc n_A1_O0 List.not_mem_nil)).trans (hA1))
    replace hA2 := (hu12 _ n_A2_O0).trans ((hg4 _ (q_nc n_A2_O0 List.not_mem_nil)).trans (hA2))
    replace hA3 := (hu12 _ n_A3_O0).trans ((hg4 _ (q_nc n_A3_O0 List.not_mem_nil)).trans (hA3))
    replace hA6 := (hu12 _ n_A6_O0).trans ((hg4 _ (q_nc n_A6_O0 List.not_mem_nil)).trans (hA6))
    replace hA7 := (hu12 _ n_A7_O0).trans ((hg4 _ (q_nc n_A7_O0 List.not_mem_nil)).trans (hA7))
    exact q_reti C0 V (Or.inl ⟨c10, rfl, hF, hO0, hA1, hA2, hA3, hA6, hA7⟩) d_17_30_83
  ·
    refine lv_iload hx hb d_17_30_37 (lv_at hl 3 rfl) ?_
    refine lv_sipush (v := 800) hx hb d_17_30_39 (by decide) ?_
    refine lv_icmp_gt (tgt := 56) hx hb d_17_30_42 (by decide) (fun c14 => ?_) (fun c14 => ?_)
    ·
      refine lv_iconst (v := 1) hx hb d_17_30_56 (by decide) ?_
      refine lv_goto (tgt := 72) hx hb d_17_30_57 (by decide) ?_
      refine q_put (ci := 15) (j := 0) (v := .int 1) (ty := .int) C0 V i_FR o_FR n_FR rfl rfl hO0 (by decide) w_2074 rfl rfl rfl rfl (Nat.le_of_ble_eq_true rfl) d_17_30_72 (fun H locs w15 hu16 hO0 V => ?_)
      replace hO0 : w15[kO0]? = some (qO0, .inr (15, [.int 1, .ref qA1, .ref qA2, .ref qA3, .ref qA4, .ref qA5, .ref qA6, .ref qA7, .int 0, .int 0, .int 0, .long 0, .int 52, .int 2047, .long 0, .int (-1074), .long 0, .int 0])) := hO0
      replace hF := q_us hF hu16 (.head _)
      refine lv_aload_n hx hb d_17_30_75 rfl (lv_at hl 0 rfl) ?_
      refine q_get (ci := 15) (j := 0) (v := .int 1) C0 V i_FR rfl rfl hO0 (by decide) w_2074 rfl d_17_30_76 ?_
      refine lv_if_le (tgt := 84) hx hb d_17_30_79 (by decide) (fun c17 => absurd c17 (by decide)) (fun c17 => ?_)
      refine lv_iconst (v := 0) hx hb d_17_30_82 (by decide) ?_
      replace hA1 := (hu16 _ n_A1_O0).trans ((hg4 _ (q_nc n_A1_O0 List.not_mem_nil)).trans (hA1))
      replace hA2 := (hu16 _ n_A2_O0).trans ((hg4 _ (q_nc n_A2_O0 List.not_mem_nil)).trans (hA2))
      replace hA3 := (hu16 _ n_A3_O0).trans ((hg4 _ (q_nc n_A3_O0 List.not_mem_nil)).trans (hA3))
      replace hA6 := (hu16 _ n_A6_O0).trans ((hg4 _ (q_nc n_A6_O0 List.not_mem_nil)).trans (hA6))
      replace hA7 := (hu16 _ n_A7_O0).trans ((hg4 _ (q_nc n_A7_O0 List.not_mem_nil)).trans (hA7))
      exact q_reti C0 V (Or.inr (Or.inl ⟨c10, c14, rfl, hF, hO0, hA1, hA2, hA3, hA6, hA7⟩)) d_17_30_83
    ·
      refine lv_iload hx hb d_17_30_45 (lv_at hl 4 rfl) ?_
      refine lv_if_lt (tgt := 56) hx hb d_17_30_47 (by decide) (fun c18 => ?_) (fun c18 => ?_)
      ·
        refine lv_iconst (v := 1) hx hb d_17_30_56 (by decide) ?_
        refine lv_goto (tgt := 72) hx hb d_17_30_57 (by decide) ?_
        refine q_put (ci := 15) (j := 0) (v := .int 1) (ty := .int) C0 V i_FR o_FR n_FR rfl rfl hO0 (by decide) w_2074 rfl rfl rfl rfl (Nat.le_of_ble_eq_true rfl) d_17_30_72 (fun H locs w19 hu20 hO0 V => ?_)
        replace hO0 : w19[kO0]? = some (qO0, .inr (15, [.int 1, .ref qA1, .ref qA2, .ref qA3, .ref qA4, .ref qA5, .ref qA6, .ref qA7, .int 0, .int 0, .int 0, .long 0, .int 52, .int 2047, .long 0, .int (-1074), .long 0, .int 0])) := hO0
        replace hF := q_us hF hu20 (.head _)
        refine lv_aload_n hx hb d_17_30_75 rfl (lv_at hl 0 rfl) ?_
        refine q_get (ci := 15) (j := 0) (v := .int 1) C0 V i_FR rfl rfl hO0 (by decide) w_2074 rfl d_17_30_76 ?_
        refine lv_if_le (tgt := 84) hx hb d_17_30_79 (by decide) (fun c21 => absurd c21 (by decide)) (fun c21 => ?_)
        refine lv_iconst (v := 0) hx hb d_17_30_82 (by decide) ?_
        replace hA1 := (hu20 _ n_A1_O0).trans ((hg4 _ (q_nc n_A1_O0 List.not_mem_nil)).trans (hA1))
        replace hA2 := (hu20 _ n_A2_O0).trans ((hg4 _ (q_nc n_A2_O0 List.not_mem_nil)).trans (hA2))
        replace hA3 := (hu20 _ n_A3_O0).trans ((hg4 _ (q_nc n_A3_O0 List.not_mem_nil)).trans (hA3))
        replace hA6 := (hu20 _ n_A6_O0).trans ((hg4 _ (q_nc n_A6_O0 List.not_mem_nil)).trans (hA6))
        replace hA7 := (hu20 _ n_A7_O0).trans ((hg4 _ (q_nc n_A7_O0 List.not_mem_nil)).trans (hA7))
        exact q_reti C0 V (Or.inr (Or.inr (Or.inl ⟨c10, c14, c18, rfl, hF, hO0, hA1, hA2, hA3, hA6, hA7⟩))) d_17_30_83
      ·
        refine lv_iload hx hb d_17_30_50 (lv_at hl 4 rfl) ?_
        refine lv_iconst (v := 3) hx hb d_17_30_52 (by decide) ?_
        refine lv_icmp_le (tgt := 60) hx hb d_17_30_53 (by decide) (fun c22 => ?_) (fun c22 => ?_)
        ·
          refine lv_aload_n hx hb d_17_30_60 rfl (lv_at hl 0 rfl) ?_
          refine q_goi V (q_runV (As := []) (rest := [.ref qO0]) (d := 1) (mc := 0) (ms := 0) (ci := 15) C0 V rfl LV_FR_130 (c_FR_isFinite l D g u3 kO0 qO0 qA1 qA2 qA3 qA4 qA5 qA6 qA7 hO0 _) rfl rfl hO0 rfl hl.1 rfl (Nat.le_of_ble_eq_true rfl) ⟨by decide, by decide⟩ ⟨Nat.le_of_ble_eq_true rfl, Nat.le_of_ble_eq_true rfl⟩ d_17_30_61) (fun v25 u24 H locs hp23 V => ?_)
          obtain ⟨rfl, rfl⟩ := hp23
          refine lv_if_ne (tgt := 71) hx hb d_17_30_64 (by decide) (fun c27 => ?_) (fun c27 => absurd c27 (by decide))
          refine lv_iconst (v := 0) hx hb d_17_30_71 (by decide) ?_
          refine q_put (ci := 15) (j := 0) (v := .int 0) (ty := .int) C0 V i_FR o_FR n_FR rfl rfl hO0 (by decide) w_2074 rfl rfl rfl rfl (Nat.le_of_ble_eq_true rfl) d_17_30_72 (fun H locs w28 hu29 hO0 V => ?_)
          replace hO0 : w28[kO0]? = some (qO0, .inr (15, [.int 0, .ref qA1, .ref qA2, .ref qA3, .ref qA4, .ref qA5, .ref qA6, .ref qA7, .int 0, .int 0, .int 0, .long 0, .int 52, .int 2047, .long 0, .int (-1074), .long 0, .int 0])) := hO0
          replace hF := q_us hF hu29 (.head _)
          refine lv_aload_n hx hb d_17_30_75 rfl (lv_at hl 0 rfl) ?_
          refine q_get (ci := 15) (j := 0) (v := .int 0) C0 V i_FR rfl rfl hO0 (by decide) w_2074 rfl d_17_30_76 ?_
          refine lv_if_le (tgt := 84) hx hb d_17_30_79 (by decide) (fun c30 => ?_) (fun c30 => absurd (by decide) c30)
          refine lv_aload_n hx hb d_17_30_84 rfl (lv_at hl 0 rfl) ?_
          replace hA1 := (hu29 _ n_A1_O0).trans ((hg4 _ (q_nc n_A1_O0 List.not_mem_nil)).trans (hA1))
          replace hA2 := (hu29 _ n_A2_O0).trans ((hg4 _ (q_nc n_A2_O0 List.not_mem_nil)).trans (hA2))
          replace hA3 := (hu29 _ n_A3_O0).trans ((hg4 _ (q_nc n_A3_O0 List.not_mem_nil)).trans (hA3))
          refine q_gov V (q_runV (As := []) (rest := []) (d := 2) (mc := 0) (ms := 0) (ci := 15) C0 V rfl LV_FR_162 (c_FR_setValue l D g w28 kO0 kA1 kA2 kA3 qO0 qA1 qA2 qA3 qA4 qA5 qA6 qA7 hO0 hA1 hA2 hA3 n_A1_A2 n_A1_A3 n_A3_A2 _) rfl rfl hO0 rfl hl.1 rfl (Nat.le_of_ble_eq_true rfl) ⟨by decide, by decide⟩ ⟨Nat.le_of_ble_eq_true rfl, Nat.le_of_ble_eq_true rfl⟩ d_17_30_85) (fun u32 H locs hp31 V => ?_)
          obtain ⟨y33, hg34, hA1, hA2, hA3⟩ := hp31
          replace hF := q_uc hF hg34 (q_sc (.tail _ (.head _)) (q_sc (.tail _ (.tail _ (.head _))) (q_sc (List.mem_of_getElem? (i := 3) rfl) (fun _ h => absurd h List.not_mem_nil))))
          refine lv_aload_n hx hb d_17_30_88 rfl (lv_at hl 0 rfl) ?_
          replace hO0 := (hg34 _ (q_nc n_O0_A1 (q_nc n_O0_A2 (q_nc n_O0_A3 List.not_mem_nil)))).trans (hO0)
          refine q_get (ci := 15) (j := 14) (v := .long 0) C0 V i_FR rfl rfl hO0 (by decide) w_2090 rfl d_17_30_89 ?_
          refine lv_lconst (v := 0) hx hb d_17_30_92 (by decide) ?_
          refine W.lcmp hx hb d_17_30_93 ?_
          refine q_ti (v := 0) (by decide) ?_
          refine lv_if_ne (tgt := 103) hx hb d_17_30_94 (by decide) (fun c35 => absurd (by decide) c35) (fun c35 => ?_)
          refine lv_sipush (v := 1080) hx hb d_17_30_97 (by decide) ?_
          refine lv_goto (tgt := 107) hx hb d_17_30_100 (by decide) ?_
          refine lv_istore (lv' := [(6, .int 1080), (0, .ref qO0), (1, .long 0), (3, .int 0), (4, .int x1), (5, .int x2)]) hx hb d_17_30_107 hl (by decide) rfl (fun ls hl => ?_)
          refine lv_iload hx hb d_17_30_109 (lv_at hl 0 rfl) ?_
          refine lv_iload hx hb d_17_30_111 (lv_at hl 4 rfl) ?_
          refine lv_isub hx hb d_17_30_113 ?_
          refine lv_iconst (v := 1) hx hb d_17_30_114 (by decide) ?_
          refine lv_iadd hx hb d_17_30_115 ?_
          refine lv_if_ge (tgt := 123) hx hb d_17_30_116 (by decide) (fun c36 => ?_) (fun c36 => absurd (q_Ile (x := 0) (y := ((1080 - x1.toInt) + 1)) (by decide) (q_addI (x := (1080 - x1.toInt)) (y := 1) (q_subI (x := 1080) (y := x1.toInt) (by decide) rfl (by have t1 : 1 ≤ x1.toInt := q_nltI c10; have t2 : x1.toInt ≤ 800 := q_nltI c14; omega) (by have t1 : 1 ≤ x1.toInt := q_nltI c10; have t2 : x1.toInt ≤ 800 := q_nltI c14; omega)) (by decide) (by have t1 : 1 ≤ x1.toInt := q_nltI c10; have t2 : x1.toInt ≤ 800 := q_nltI c14; omega) (by have t1 : 1 ≤ x1.toInt := q_nltI c10; have t2 : x1.toInt ≤ 800 := q_nltI c14; omega)) (by have t1 : 1 ≤ x1.toInt := q_nltI c10; have t2 : x1.toInt ≤ 800 := q_nltI c14; omega)) c36)
          refine lv_iload hx hb d_17_30_123 (lv_at hl 0 rfl) ?_
          refine lv_iload hx hb d_17_30_125 (lv_at hl 4 rfl) ?_
          refine lv_isub hx hb d_17_30_127 ?_
          refine lv_iconst (v := 1) hx hb d_17_30_128 (by decide) ?_
          refine lv_iadd hx hb d_17_30_129 ?_
          refine lv_istore (lv' := [(7, .int ((1080 - x1) + 1)), (6, .int 1080), (0, .ref qO0), (1, .long 0), (3, .int 0), (4, .int x1), (5, .int x2)]) hx hb d_17_30_130 hl (by decide) rfl (fun ls hl => ?_)
          refine lv_aload_n hx hb d_17_30_132 rfl (lv_at hl 2 rfl) ?_
          refine lv_iload hx hb d_17_30_133 (lv_at hl 0 rfl) ?_
          refine lv_aload_n hx hb d_17_30_135 rfl (lv_at hl 2 rfl) ?_
          refine lv_iload hx hb d_17_30_136 (lv_at hl 0 rfl) ?_
          refine lv_iload hx hb d_17_30_138 (lv_at hl 6 rfl) ?_
          refine q_goi V (q_runV (As := [.int ((1080 - x1) + 1), .int x2]) (rest := [.int ((1080 - x1) + 1), .ref qO0]) (d := 1) (mc := 0) (ms := 0) (ci := 15) C0 V rfl LV_FR_165 (c_FR_isMore_5 l D g u32 kO0 kA3 qO0 qA1 qA2 qA3 qA4 qA5 qA6 qA7 ((1080 - x1) + 1) x2 hO0 hA3 (q_Ile (x := 0) (y := ((1080 - x1.toInt) + 1)) (by decide) (q_addI (x := (1080 - x1.toInt)) (y := 1) (q_subI (x := 1080) (y := x1.toInt) (by decide) rfl (by have t1 : 1 ≤ x1.toInt := q_nltI c10; have t2 : x1.toInt ≤ 800 := q_nltI c14; omega) (by have t1 : 1 ≤ x1.toInt := q_nltI c10; have t2 : x1.toInt ≤ 800 := q_nltI c14; omega)) (by decide) (by have t1 : 1 ≤ x1.toInt := q_nltI c10; have t2 : x1.toInt ≤ 800 := q_nltI c14; omega) (by have t1 : 1 ≤ x1.toInt := q_nltI c10; have t2 : x1.toInt ≤ 800 := q_nltI c14; omega)) (by have t1 : 1 ≤ x1.toInt := q_nltI c10; have t2 : x1.toInt ≤ 800 := q_nltI c14; omega)) (q_Ile (x := ((1080 - x1.toInt) + 1)) (y := 1080) (q_addI (x := (1080 - x1.toInt)) (y := 1) (q_subI (x := 1080) (y := x1.toInt) (by decide) rfl (by have t1 : 1 ≤ x1.toInt := q_nltI c10; have t2 : x1.toInt ≤ 800 := q_nltI c14; omega) (by have t1 : 1 ≤ x1.toInt := q_nltI c10; have t2 : x1.toInt ≤ 800 := q_nltI c14; omega)) (by decide) (by have t1 : 1 ≤ x1.toInt := q_nltI c10; have t2 : x1.toInt ≤ 800 := q_nltI c14; omega) (by have t1 : 1 ≤ x1.toInt := q_nltI c10; have t2 : x1.toInt ≤ 800 := q_nltI c14; omega)) (by decide) (by have t1 : 1 ≤ x1.toInt := q_nltI c10; have t2 : x1.toInt ≤ 800 := q_nltI c14; omega)) (q_Ile (x := 0) (y := x2.toInt) (by decide) rfl (by have t1 : 0 ≤ x2.toInt := q_nltI c18; have t2 : x2.toInt ≤ 3 := q_leI c22; omega)) c22 _) rfl rfl hO0 rfl hl.1 rfl (Nat.le_of_ble_eq_true rfl) ⟨by decide, by decide⟩ ⟨Nat.le_of_ble_eq_true rfl, Nat.le_of_ble_eq_true rfl⟩ d_17_30_140) (fun v39 u38 H locs hp37 V => ?_)
          obtain ⟨rfl, rfl⟩ := hp37
          replace hA6 := (hg34 _ (q_nc n_A6_A1 (q_nc n_A6_A2 (q_nc n_A6_A3 List.not_mem_nil)))).trans ((hu29 _ n_A6_O0).trans ((hg4 _ (q_nc n_A6_O0 List.not_mem_nil)).trans (hA6)))
          refine q_gov V (q_runV (As := [.int ((1080 - x1) + 1), .int 0]) (rest := []) (d := 1) (mc := 0) (ms := 0) (ci := 15) C0 V rfl LV_FR_81 (c_FR_cut_5 l D g u32 kO0 kA3 kA6 qO0 qA1 qA2 qA3 qA4 qA5 qA6 qA7 ((1080 - x1) + 1) hO0 hA3 hA6 n_A3_A6 (q_Ile (x := 0) (y := ((1080 - x1.toInt) + 1)) (by decide) (q_addI (x := (1080 - x1.toInt)) (y := 1) (q_subI (x := 1080) (y := x1.toInt) (by decide) rfl (by have t1 : 1 ≤ x1.toInt := q_nltI c10; have t2 : x1.toInt ≤ 800 := q_nltI c14; omega) (by have t1 : 1 ≤ x1.toInt := q_nltI c10; have t2 : x1.toInt ≤ 800 := q_nltI c14; omega)) (by decide) (by have t1 : 1 ≤ x1.toInt := q_nltI c10; have t2 : x1.toInt ≤ 800 := q_nltI c14; omega) (by have t1 : 1 ≤ x1.toInt := q_nltI c10; have t2 : x1.toInt ≤ 800 := q_nltI c14; omega)) (by have t1 : 1 ≤ x1.toInt := q_nltI c10; have t2 : x1.toInt ≤ 800 := q_nltI c14; omega)) (q_Ile (x := ((1080 - x1.toInt) + 1)) (y := 1080) (q_addI (x := (1080 - x1.toInt)) (y := 1) (q_subI (x := 1080) (y := x1.toInt) (by decide) rfl (by have t1 : 1 ≤ x1.toInt := q_nltI c10; have t2 : x1.toInt ≤ 800 := q_nltI c14; omega) (by have t1 : 1 ≤ x1.toInt := q_nltI c10; have t2 : x1.toInt ≤ 800 := q_nltI c14; omega)) (by decide) (by have t1 : 1 ≤ x1.toInt := q_nltI c10; have t2 : x1.toInt ≤ 800 := q_nltI c14; omega) (by have t1 : 1 ≤ x1.toInt := q_nltI c10; have t2 : x1.toInt ≤ 800 := q_nltI c14; omega)) (by decide) (by have t1 : 1 ≤ x1.toInt := q_nltI c10; have t2 : x1.toInt ≤ 800 := q_nltI c14; omega)) _) rfl rfl hO0 rfl hl.1 rfl (Nat.le_of_ble_eq_true rfl) ⟨by decide, by decide⟩ ⟨Nat.le_of_ble_eq_true rfl, Nat.le_of_ble_eq_true rfl⟩ d_17_30_143) (fun u42 H locs hp41 V => ?_)
          obtain ⟨hg43, hA6⟩ := hp41
          replace hF := q_uc hF hg43 (q_sc (List.mem_of_getElem? (i := 4) rfl) (fun _ h => absurd h List.not_mem_nil))
          refine lv_aload_n hx hb d_17_30_146 rfl (lv_at hl 2 rfl) ?_
          replace hO0 := (hg43 _ (q_nc n_O0_A6 List.not_mem_nil)).trans (hO0)
          refine q_get (ci := 15) (j := 6) (v := .ref qA6) C0 V i_FR rfl rfl hO0 (by decide) w_2081 rfl d_17_30_147 ?_
          refine lv_iload hx hb d_17_30_150 (lv_at hl 1 rfl) ?_
          refine lv_iconst (v := 1) hx hb d_17_30_152 (by decide) ?_
          refine lv_iadd hx hb d_17_30_153 ?_
          refine q_ti (v := 1081) (by decide) ?_
          refine q_iald C0 V hA6 (by unfold vp_in; decide) d_17_30_154 ?_
          refine q_ti (v := 0) (by first | rfl | decide | simp [upd, vp_updL, sb_cl0]) ?_
          refine lv_iconst (v := 1) hx hb d_17_30_155 (by decide) ?_
          refine lv_icmp_ne (tgt := 175) hx hb d_17_30_156 (by decide) (fun c44 => ?_) (fun c44 => absurd c44 (by decide))
          refine lv_iload hx hb d_17_30_175 (lv_at hl 1 rfl) ?_
          refine lv_istore (lv' := [(6, .int 1080), (7, .int ((1080 - x1) + 1)), (0, .ref qO0), (1, .long 0), (3, .int 0), (4, .int x1), (5, .int x2)]) hx hb d_17_30_177 hl (by decide) rfl (fun ls hl => ?_)
          refine lv_aload_n hx hb d_17_30_179 rfl (lv_at hl 2 rfl) ?_
          refine q_gov V (q_runV (As := []) (rest := []) (d := 1) (mc := 0) (ms := 0) (ci := 15) C0 V rfl LV_FR_113 (c_FR_begin l D g u42 kO0 qO0 qA1 qA2 qA3 qA4 qA5 qA6 qA7 hO0 _) rfl rfl hO0 rfl hl.1 rfl (Nat.le_of_ble_eq_true rfl) ⟨by decide, by decide⟩ ⟨Nat.le_of_ble_eq_true rfl, Nat.le_of_ble_eq_true rfl⟩ d_17_30_180) (fun u46 H locs hp45 V => ?_)
          obtain ⟨hg47, hO0⟩ := hp45
          replace hF := q_uc hF hg47 (q_sc (.head _) (fun _ h => absurd h List.not_mem_nil))
          refine lv_iconst (v := 0) hx hb d_17_30_183 (by decide) ?_
          refine lv_istore (lv' := [(8, .int 0), (6, .int 1080), (7, .int ((1080 - x1) + 1)), (0, .ref qO0), (1, .long 0), (3, .int 0), (4, .int x1), (5, .int x2)]) hx hb d_17_30_184 hl (by decide) rfl (fun ls hl => ?_)
          refine lv_iload hx hb d_17_30_186 (lv_at hl 0 rfl) ?_
          refine lv_iload hx hb d_17_30_188 (lv_at hl 6 rfl) ?_
          refine lv_icmp_ge (tgt := 236) hx hb d_17_30_190 (by decide) (fun c48 => absurd c48 (Int32.not_le.mpr (q_Ilt (x := 0) (y := x1.toInt) (by decide) rfl (by have t1 : 1 ≤ x1.toInt := q_nltI c10; have t2 : x1.toInt ≤ 800 := q_nltI c14; omega)))) (fun c48 => ?_)
          refine lv_aload_n hx hb d_17_30_193 rfl (lv_at hl 3 rfl) ?_
          refine lv_bipush (v := 48) hx hb d_17_30_194 (by decide) ?_
          refine lv_aload_n hx hb d_17_30_196 rfl (lv_at hl 3 rfl) ?_
          refine lv_iload hx hb d_17_30_197 (lv_at hl 1 rfl) ?_
          refine lv_sipush (v := 1080) hx hb d_17_30_199 (by decide) ?_
          refine lv_isub hx hb d_17_30_202 ?_
          refine q_ti (v := 0) (by decide) ?_
          refine lv_iload hx hb d_17_30_203 (lv_at hl 0 rfl) ?_
          refine lv_isub hx hb d_17_30_205 ?_
          refine q_ti (v := 0) (by decide) ?_
          replace hA6 := (hg47 _ (q_nc n_A6_O0 List.not_mem_nil)).trans (hA6)
          refine q_goi V (q_runV (As := [.int 0]) (rest := [.int 48, .ref qO0]) (d := 1) (mc := 0) (ms := 0) (ci := 15) C0 V rfl LV_FR_169 (c_FR_figureAt l D g u46 kO0 kA6 qO0 qA1 qA2 qA3 qA4 qA5 qA6 qA7 hO0 hA6 _) rfl rfl hO0 rfl hl.1 rfl (Nat.le_of_ble_eq_true rfl) ⟨by decide, by decide⟩ ⟨Nat.le_of_ble_eq_true rfl, Nat.le_of_ble_eq_true rfl⟩ d_17_30_206) (fun v51 u50 H locs hp49 V => ?_)
          obtain ⟨rfl, rfl⟩ := hp49
          refine lv_iadd hx hb d_17_30_209 ?_
          refine q_ti (v := 48) (by decide) ?_
          replace hA7 := (hg47 _ (q_nc n_A7_O0 List.not_mem_nil)).trans ((hg43 _ (q_nc n_A7_A6 List.not_mem_nil)).trans ((hg34 _ (q_nc n_A7_A1 (q_nc n_A7_A2 (q_nc n_A7_A3 List.not_mem_nil)))).trans ((hu29 _ n_A7_O0).trans ((hg4 _ (q_nc n_A7_O0 List.not_mem_nil)).trans (hA7)))))
          refine q_gov V (q_runV (As := [.int 48]) (rest := []) (d := 1) (mc := 0) (ms := 0) (ci := 15) C0 V rfl LV_FR_110 (c_FR_add l D g u46 kO0 kA7 qO0 qA1 qA2 qA3 qA4 qA5 qA6 qA7 hO0 hA7 _) rfl rfl hO0 rfl hl.1 rfl (Nat.le_of_ble_eq_true rfl) ⟨by decide, by decide⟩ ⟨Nat.le_of_ble_eq_true rfl, Nat.le_of_ble_eq_true rfl⟩ d_17_30_210) (fun u54 H locs hp53 V => ?_)
          obtain ⟨hg55, hO0, hA7⟩ := hp53
          replace hF := q_uc hF hg55 (q_sc (.head _) (q_sc (List.mem_of_getElem? (i := 5) rfl) (fun _ h => absurd h List.not_mem_nil)))
          refine lv_iload hx hb d_17_30_213 (lv_at hl 0 rfl) ?_
          refine lv_if_ne (tgt := 230) hx hb d_17_30_215 (by decide) (fun c56 => absurd (by decide) c56) (fun c56 => ?_)
          refine lv_iload hx hb d_17_30_218 (lv_at hl 6 rfl) ?_
          refine lv_iconst (v := 1) hx hb d_17_30_220 (by decide) ?_
          refine lv_icmp_le (tgt := 230) hx hb d_17_30_221 (by decide) (fun c57 => ?_) (fun c57 => ?_)
          ·
            refine lv_iinc (v := 1) (lv' := [(8, .int 1), (6, .int 1080), (7, .int ((1080 - x1) + 1)), (0, .ref qO0), (1, .long 0), (3, .int 0), (4, .int x1), (5, .int x2)]) hx hb d_17_30_230 hl (k := 0) rfl (by decide) (by decide) rfl (fun ls hl => ?_)
            refine lv_goto (tgt := 186) hx hb d_17_30_233 (by decide) ?_
            refine lv_iload hx hb d_17_30_186 (lv_at hl 0 rfl) ?_
            refine lv_iload hx hb d_17_30_188 (lv_at hl 6 rfl) ?_
            refine q_ti (v := 1) (q_Ieq (x := x1.toInt) (y := 1) rfl (by decide) (by have t1 : 1 ≤ x1.toInt := q_nltI c10; have t2 : x1.toInt ≤ 800 := q_nltI c14; have t3 : x1.toInt ≤ 1 := q_leI c57; omega)) ?_
            refine lv_icmp_ge (tgt := 236) hx hb d_17_30_190 (by decide) (fun c58 => ?_) (fun c58 => absurd (by decide) c58)
            refine lv_iload hx hb d_17_30_236 (lv_at hl 1 rfl) ?_
            refine lv_sipush (v := 1080) hx hb d_17_30_238 (by decide) ?_
            refine lv_isub hx hb d_17_30_241 ?_
            refine q_ti (v := 0) (by decide) ?_
            refine lv_istore (lv' := [(8, .int 0), (6, .int 1080), (7, .int ((1080 - x1) + 1)), (0, .ref qO0), (1, .long 0), (3, .int 0), (4, .int x1), (5, .int x2)]) hx hb d_17_30_242 hl (by decide) rfl (fun ls hl => ?_)
            refine lv_aload_n hx hb d_17_30_244 rfl (lv_at hl 3 rfl) ?_
            refine lv_bipush (v := 101) hx hb d_17_30_245 (by decide) ?_
            refine q_gov V (q_runV (As := [.int 101]) (rest := []) (d := 1) (mc := 0) (ms := 0) (ci := 15) C0 V rfl LV_FR_110 (c_FR_add_19 l D g u54 kO0 kA7 qO0 qA1 qA2 qA3 qA4 qA5 qA6 qA7 hO0 hA7 _) rfl rfl hO0 rfl hl.1 rfl (Nat.le_of_ble_eq_true rfl) ⟨by decide, by decide⟩ ⟨Nat.le_of_ble_eq_true rfl, Nat.le_of_ble_eq_true rfl⟩ d_17_30_247) (fun u60 H locs hp59 V => ?_)
            obtain ⟨hg61, hO0, hA7⟩ := hp59
            replace hF := q_uc hF hg61 (q_sc (.head _) (q_sc (List.mem_of_getElem? (i := 5) rfl) (fun _ h => absurd h List.not_mem_nil)))
            refine lv_aload_n hx hb d_17_30_250 rfl (lv_at hl 3 rfl) ?_
            refine lv_iload hx hb d_17_30_251 (lv_at hl 0 rfl) ?_
            refine lv_if_ge (tgt := 261) hx hb d_17_30_253 (by decide) (fun c62 => ?_) (fun c62 => absurd (by decide) c62)
            refine lv_bipush (v := 43) hx hb d_17_30_261 (by decide) ?_
            refine q_gov V (q_runV (As := [.int 43]) (rest := []) (d := 1) (mc := 0) (ms := 0) (ci := 15) C0 V rfl LV_FR_110 (c_FR_add_20 l D g u60 kO0 kA7 qO0 qA1 qA2 qA3 qA4 qA5 qA6 qA7 hO0 hA7 _) rfl rfl hO0 rfl hl.1 rfl (Nat.le_of_ble_eq_true rfl) ⟨by decide, by decide⟩ ⟨Nat.le_of_ble_eq_true rfl, Nat.le_of_ble_eq_true rfl⟩ d_17_30_263) (fun u64 H locs hp63 V => ?_)
            obtain ⟨hg65, hO0, hA7⟩ := hp63
            replace hF := q_uc hF hg65 (q_sc (.head _) (q_sc (List.mem_of_getElem? (i := 5) rfl) (fun _ h => absurd h List.not_mem_nil)))
            refine lv_iload hx hb d_17_30_266 (lv_at hl 0 rfl) ?_
            refine lv_if_ge (tgt := 277) hx hb d_17_30_268 (by decide) (fun c66 => ?_) (fun c66 => absurd (by decide) c66)
            refine lv_iload hx hb d_17_30_277 (lv_at hl 0 rfl) ?_
            refine lv_istore (lv' := [(8, .int 0), (6, .int 1080), (7, .int ((1080 - x1) + 1)), (0, .ref qO0), (1, .long 0), (3, .int 0), (4, .int x1), (5, .int x2)]) hx hb d_17_30_279 hl (by decide) rfl (fun ls hl => ?_)
            refine lv_iload hx hb d_17_30_281 (lv_at hl 0 rfl) ?_
            refine lv_bipush (v := 10) hx hb d_17_30_283 (by decide) ?_
            refine lv_icmp_ge (tgt := 294) hx hb d_17_30_285 (by decide) (fun c67 => absurd c67 (by decide)) (fun c67 => ?_)
            refine lv_aload_n hx hb d_17_30_288 rfl (lv_at hl 3 rfl) ?_
            refine lv_bipush (v := 48) hx hb d_17_30_289 (by decide) ?_
            refine q_gov V (q_runV (As := [.int 48]) (rest := []) (d := 1) (mc := 0) (ms := 0) (ci := 15) C0 V rfl LV_FR_110 (c_FR_add_3 l D g u64 kO0 kA7 qO0 qA1 qA2 qA3 qA4 qA5 qA6 qA7 3 (upd (upd (upd (fun _ => 0) 0 48) 1 101) 2 43) hO0 hA7 (q_Ile (x := 2) (y := 3) (by decide) (by decide) (by omega)) (q_Ile (x := 3) (y := 1076) (by decide) (by decide) (by omega)) _) rfl rfl hO0 rfl hl.1 rfl (Nat.le_of_ble_eq_true rfl) ⟨by decide, by decide⟩ ⟨Nat.le_of_ble_eq_true rfl, Nat.le_of_ble_eq_true rfl⟩ d_17_30_291) (fun u69 H locs hp68 V => ?_)
            obtain ⟨hg70, hO0, hA7⟩ := hp68
            replace hF := q_uc hF hg70 (q_sc (.head _) (q_sc (List.mem_of_getElem? (i := 5) rfl) (fun _ h => absurd h List.not_mem_nil)))
            refine lv_aload_n hx hb d_17_30_294 rfl (lv_at hl 3 rfl) ?_
            refine lv_iload hx hb d_17_30_295 (lv_at hl 0 rfl) ?_
            refine q_gov V (q_runV (As := [.int 0]) (rest := []) (d := 2) (mc := 0) (ms := 0) (ci := 15) C0 V rfl LV_FR_149 (c_FR_number_3 l D g u69 kO0 kA7 qO0 qA1 qA2 qA3 qA4 qA5 qA6 qA7 (3 + 1) (upd (upd (upd (upd (fun _ => 0) 0 48) 1 101) 2 43) 3.toNatClampNeg 48) hO0 hA7 (q_Ile (x := 4) (y := (3 + 1)) (by decide) (q_addI (x := 3) (y := 1) (by decide) (by decide) (by omega) (by omega)) (by omega)) (q_Ile (x := (3 + 1)) (y := 4) (q_addI (x := 3) (y := 1) (by decide) (by decide) (by omega) (by omega)) (by decide) (by omega)) _) rfl rfl hO0 rfl hl.1 rfl (Nat.le_of_ble_eq_true rfl) ⟨by decide, by decide⟩ ⟨Nat.le_of_ble_eq_true rfl, Nat.le_of_ble_eq_true rfl⟩ d_17_30_297) (fun u72 H locs hp71 V => ?_)
            obtain ⟨hg73, hO0, hA7⟩ := hp71
            replace hF := q_uc hF hg73 (q_sc (.head _) (q_sc (List.mem_of_getElem? (i := 5) rfl) (fun _ h => absurd h List.not_mem_nil)))
            refine lv_aload_n hx hb d_17_30_300 rfl (lv_at hl 3 rfl) ?_
            refine q_get (ci := 15) (j := 8) (v := .int ((3 + 1) + 1)) C0 V i_FR rfl rfl hO0 (by decide) w_2084 rfl d_17_30_301 ?_
            replace hA1 := (hg73 _ (q_nc n_A1_O0 (q_nc n_A1_A7 List.not_mem_nil))).trans ((hg70 _ (q_nc n_A1_O0 (q_nc n_A1_A7 List.not_mem_nil))).trans ((hg65 _ (q_nc n_A1_O0 (q_nc n_A1_A7 List.not_mem_nil))).trans ((hg61 _ (q_nc n_A1_O0 (q_nc n_A1_A7 List.not_mem_nil))).trans ((hg55 _ (q_nc n_A1_O0 (q_nc n_A1_A7 List.not_mem_nil))).trans ((hg47 _ (q_nc n_A1_O0 List.not_mem_nil)).trans ((hg43 _ (q_nc n_A1_A6 List.not_mem_nil)).trans (hA1)))))))
            replace hA2 := (hg73 _ (q_nc n_A2_O0 (q_nc n_A2_A7 List.not_mem_nil))).trans ((hg70 _ (q_nc n_A2_O0 (q_nc n_A2_A7 List.not_mem_nil))).trans ((hg65 _ (q_nc n_A2_O0 (q_nc n_A2_A7 List.not_mem_nil))).trans ((hg61 _ (q_nc n_A2_O0 (q_nc n_A2_A7 List.not_mem_nil))).trans ((hg55 _ (q_nc n_A2_O0 (q_nc n_A2_A7 List.not_mem_nil))).trans ((hg47 _ (q_nc n_A2_O0 List.not_mem_nil)).trans ((hg43 _ (q_nc n_A2_A6 List.not_mem_nil)).trans (hA2)))))))
            replace hA3 := (hg73 _ (q_nc n_A3_O0 (q_nc n_A3_A7 List.not_mem_nil))).trans ((hg70 _ (q_nc n_A3_O0 (q_nc n_A3_A7 List.not_mem_nil))).trans ((hg65 _ (q_nc n_A3_O0 (q_nc n_A3_A7 List.not_mem_nil))).trans ((hg61 _ (q_nc n_A3_O0 (q_nc n_A3_A7 List.not_mem_nil))).trans ((hg55 _ (q_nc n_A3_O0 (q_nc n_A3_A7 List.not_mem_nil))).trans ((hg47 _ (q_nc n_A3_O0 List.not_mem_nil)).trans ((hg43 _ (q_nc n_A3_A6 List.not_mem_nil)).trans (hA3)))))))
            replace hA6 := (hg73 _ (q_nc n_A6_O0 (q_nc n_A6_A7 List.not_mem_nil))).trans ((hg70 _ (q_nc n_A6_O0 (q_nc n_A6_A7 List.not_mem_nil))).trans ((hg65 _ (q_nc n_A6_O0 (q_nc n_A6_A7 List.not_mem_nil))).trans ((hg61 _ (q_nc n_A6_O0 (q_nc n_A6_A7 List.not_mem_nil))).trans ((hg55 _ (q_nc n_A6_O0 (q_nc n_A6_A7 List.not_mem_nil))).trans (hA6)))))
            exact q_reti C0 V (Or.inr (Or.inr (Or.inr (Or.inl ⟨y33, c10, c14, c18, c22, c57, rfl, hF, hO0, hA1, hA2, hA3, hA6, hA7⟩)))) d_17_30_304
          ·
            refine lv_aload_n hx hb d_17_30_224 rfl (lv_at hl 3 rfl) ?_
            refine lv_bipush (v := 46) hx hb d_17_30_225 (by decide) ?_
            refine q_gov V (q_runV (As := [.int 46]) (rest := []) (d := 1) (mc := 0) (ms := 0) (ci := 15) C0 V rfl LV_FR_110 (c_FR_add_2 l D g u54 kO0 kA7 qO0 qA1 qA2 qA3 qA4 qA5 qA6 qA7 hO0 hA7 _) rfl rfl hO0 rfl hl.1 rfl (Nat.le_of_ble_eq_true rfl) ⟨by decide, by decide⟩ ⟨Nat.le_of_ble_eq_true rfl, Nat.le_of_ble_eq_true rfl⟩ d_17_30_227) (fun u75 H locs hp74 V => ?_)
            obtain ⟨hg76, hO0, hA7⟩ := hp74
            replace hF := q_uc hF hg76 (q_sc (.head _) (q_sc (List.mem_of_getElem? (i := 5) rfl) (fun _ h => absurd h List.not_mem_nil)))
            refine lv_iinc (v := 1) (lv' := [(8, .int 1), (6, .int 1080), (7, .int ((1080 - x1) + 1)), (0, .ref qO0), (1, .long 0), (3, .int 0), (4, .int x1), (5, .int x2)]) hx hb d_17_30_230 hl (k := 0) rfl (by decide) (by decide) rfl (fun ls hl => ?_)
            refine lv_goto (tgt := 186) hx hb d_17_30_233 (by decide) ?_
            replace hA1 := (hg76 _ (q_nc n_A1_O0 (q_nc n_A1_A7 List.not_mem_nil))).trans ((hg55 _ (q_nc n_A1_O0 (q_nc n_A1_A7 List.not_mem_nil))).trans ((hg47 _ (q_nc n_A1_O0 List.not_mem_nil)).trans ((hg43 _ (q_nc n_A1_A6 List.not_mem_nil)).trans (hA1))))
            replace hA2 := (hg76 _ (q_nc n_A2_O0 (q_nc n_A2_A7 List.not_mem_nil))).trans ((hg55 _ (q_nc n_A2_O0 (q_nc n_A2_A7 List.not_mem_nil))).trans ((hg47 _ (q_nc n_A2_O0 List.not_mem_nil)).trans ((hg43 _ (q_nc n_A2_A6 List.not_mem_nil)).trans (hA2))))
            replace hA3 := (hg76 _ (q_nc n_A3_O0 (q_nc n_A3_A7 List.not_mem_nil))).trans ((hg55 _ (q_nc n_A3_O0 (q_nc n_A3_A7 List.not_mem_nil))).trans ((hg47 _ (q_nc n_A3_O0 List.not_mem_nil)).trans ((hg43 _ (q_nc n_A3_A6 List.not_mem_nil)).trans (hA3))))
            replace hA6 := (hg76 _ (q_nc n_A6_O0 (q_nc n_A6_A7 List.not_mem_nil))).trans ((hg55 _ (q_nc n_A6_O0 (q_nc n_A6_A7 List.not_mem_nil))).trans (hA6))
            refine q_loop (X := Int32 × Int32 × (Nat → Int32)) (fun z H locs ls w80 => (1 ≤ z.1.toInt ∧ (z.1.toInt ≤ x1.toInt ∨ z.1.toInt = 1)) ∧ (z.2.1.toInt = 2 + 1 * (z.1.toInt - 1)) ∧ q_Wd D g (va_A ws sz) s w80 H locs ∧ lv_has ls 9 [(8, .int z.1), (6, .int 1080), (7, .int ((1080 - x1) + 1)), (0, .ref qO0), (1, .long 0), (3, .int 0), (4, .int x1), (5, .int x2)] ∧ q_un ws w80 [kO0, kA1, kA2, kA3, kA6, kA7] ∧ w80[kO0]? = some (qO0, .inr (15, [.int 0, .ref qA1, .ref qA2, .ref qA3, .ref qA4, .ref qA5, .ref qA6, .ref qA7, .int z.2.1, .int 0, .int 0, .long 0, .int 52, .int 2047, .long 0, .int (-1074), .long 0, .int 0])) ∧ w80[kA1]? = some (qA1, .inl (g 0, 156, .inl y33)) ∧ w80[kA2]? = some (qA2, .inl (g 0, 156, .inl (fun _ => 0))) ∧ w80[kA3]? = some (qA3, .inl (g 0, 1404, .inl (fun _ => 0))) ∧ w80[kA6]? = some (qA6, .inl (g 0, 1404, .inl (fun _ => 0))) ∧ w80[kA7]? = some (qA7, .inl (g 0, 1600, .inl z.2.2))) (fun z => (x1.toInt - z.1.toInt).toNat) ?_ ((1 : Int32), (2 : Int32), (upd (upd (fun _ => 0) 0 48) 1 46 : (Nat → Int32))) _ _ _ u75 ⟨⟨(by dsimp only; decide), Or.inr (by dsimp only; decide)⟩, (show (2 : Int32).toInt = 2 + 1 * ((1 : Int32).toInt - 1) from by have t1 : 1 ≤ x1.toInt := q_nltI c10; have t2 : x1.toInt ≤ 800 := q_nltI c14; have t3 : 0 ≤ x2.toInt := q_nltI c18; have t4 : x2.toInt ≤ 3 := q_leI c22; have t5 : 1 < x1.toInt := q_nleI c57; have e1 : (2 : Int32).toInt = 2 := (by decide); have e2 : ((1 : Int32)).toInt = 1 := (by decide); omega), V, hl, hF, hO0, hA1, hA2, hA3, hA6, hA7⟩
            rintro ⟨lx77, lx78, lx79⟩ H locs ls w80 ⟨i81, i82, V, hl, hF, hO0, hA1, hA2, hA3, hA6, hA7⟩ ih83
            replace i81 : 1 ≤ lx77.toInt ∧ (lx77.toInt ≤ x1.toInt ∨ lx77.toInt = 1) := i81
            replace i82 : lx78.toInt = 2 + 1 * (lx77.toInt - 1) := i82
            replace hl : lv_has ls 9 [(8, .int lx77), (6, .int 1080), (7, .int ((1080 - x1) + 1)), (0, .ref qO0), (1, .long 0), (3, .int 0), (4, .int x1), (5, .int x2)] := hl
            replace hO0 : w80[kO0]? = some (qO0, .inr (15, [.int 0, .ref qA1, .ref qA2, .ref qA3, .ref qA4, .ref qA5, .ref qA6, .ref qA7, .int lx78, .int 0, .int 0, .long 0, .int 52, .int 2047, .long 0, .int (-1074), .long 0, .int 0])) := hO0
            replace hA1 : w80[kA1]? = some (qA1, .inl (g 0, 156, .inl y33)) := hA1
            replace hA2 : w80[kA2]? = some (qA2, .inl (g 0, 156, .inl (fun _ => 0))) := hA2
            replace hA3 : w80[kA3]? = some (qA3, .inl (g 0, 1404, .inl (fun _ => 0))) := hA3
            replace hA6 : w80[kA6]? = some (qA6, .inl (g 0, 1404, .inl (fun _ => 0))) := hA6
            replace hA7 : w80[kA7]? = some (qA7, .inl (g 0, 1600, .inl lx79)) := hA7
            refine lv_iload hx hb d_17_30_186 (lv_at hl 0 rfl) ?_
            refine lv_iload hx hb d_17_30_188 (lv_at hl 6 rfl) ?_
            refine lv_icmp_ge (tgt := 236) hx hb d_17_30_190 (by decide) (fun c84 => ?_) (fun c84 => ?_)
            ·
              refine lv_iload hx hb d_17_30_236 (lv_at hl 1 rfl) ?_
              refine lv_sipush (v := 1080) hx hb d_17_30_238 (by decide) ?_
              refine lv_isub hx hb d_17_30_241 ?_
              refine q_ti (v := 0) (by decide) ?_
              refine lv_istore (lv' := [(8, .int 0), (6, .int 1080), (7, .int ((1080 - x1) + 1)), (0, .ref qO0), (1, .long 0), (3, .int 0), (4, .int x1), (5, .int x2)]) hx hb d_17_30_242 hl (by decide) rfl (fun ls hl => ?_)
              refine lv_aload_n hx hb d_17_30_244 rfl (lv_at hl 3 rfl) ?_
              refine lv_bipush (v := 101) hx hb d_17_30_245 (by decide) ?_
              refine q_gov V (q_runV (As := [.int 101]) (rest := []) (d := 1) (mc := 0) (ms := 0) (ci := 15) C0 V rfl LV_FR_110 (c_FR_add_25 l D g w80 kO0 kA7 qO0 qA1 qA2 qA3 qA4 qA5 qA6 qA7 lx78 lx79 hO0 hA7 (q_Ile (x := 2) (y := lx78.toInt) (by decide) rfl (by have t1 : 1 ≤ x1.toInt := q_nltI c10; have t2 : x1.toInt ≤ 800 := q_nltI c14; have t3 : 1 < x1.toInt := q_nleI c57; have t4 : x1.toInt ≤ lx77.toInt := q_leI c84; omega)) (q_Ile (x := lx78.toInt) (y := 801) rfl (by decide) (by have t1 : 1 ≤ x1.toInt := q_nltI c10; have t2 : x1.toInt ≤ 800 := q_nltI c14; have t3 : 1 < x1.toInt := q_nleI c57; have t4 : x1.toInt ≤ lx77.toInt := q_leI c84; omega)) _) rfl rfl hO0 rfl hl.1 rfl (Nat.le_of_ble_eq_true rfl) ⟨by decide, by decide⟩ ⟨Nat.le_of_ble_eq_true rfl, Nat.le_of_ble_eq_true rfl⟩ d_17_30_247) (fun u86 H locs hp85 V => ?_)
              obtain ⟨hg87, hO0, hA7⟩ := hp85
              replace hF := q_uc hF hg87 (q_sc (.head _) (q_sc (List.mem_of_getElem? (i := 5) rfl) (fun _ h => absurd h List.not_mem_nil)))
              refine lv_aload_n hx hb d_17_30_250 rfl (lv_at hl 3 rfl) ?_
              refine lv_iload hx hb d_17_30_251 (lv_at hl 0 rfl) ?_
              refine lv_if_ge (tgt := 261) hx hb d_17_30_253 (by decide) (fun c88 => ?_) (fun c88 => absurd (by decide) c88)
              refine lv_bipush (v := 43) hx hb d_17_30_261 (by decide) ?_
              refine q_gov V (q_runV (As := [.int 43]) (rest := []) (d := 1) (mc := 0) (ms := 0) (ci := 15) C0 V rfl LV_FR_110 (c_FR_add_24 l D g u86 kO0 kA7 qO0 qA1 qA2 qA3 qA4 qA5 qA6 qA7 (lx78 + 1) (upd lx79 lx78.toNatClampNeg 101) hO0 hA7 (q_Ile (x := 3) (y := (lx78.toInt + 1)) (by decide) (q_addI (x := lx78.toInt) (y := 1) rfl (by decide) (by have t1 : 1 ≤ x1.toInt := q_nltI c10; have t2 : x1.toInt ≤ 800 := q_nltI c14; have t3 : 1 < x1.toInt := q_nleI c57; have t4 : x1.toInt ≤ lx77.toInt := q_leI c84; omega) (by have t1 : 1 ≤ x1.toInt := q_nltI c10; have t2 : x1.toInt ≤ 800 := q_nltI c14; have t3 : 1 < x1.toInt := q_nleI c57; have t4 : x1.toInt ≤ lx77.toInt := q_leI c84; omega)) (by have t1 : 1 ≤ x1.toInt := q_nltI c10; have t2 : x1.toInt ≤ 800 := q_nltI c14; have t3 : 1 < x1.toInt := q_nleI c57; have t4 : x1.toInt ≤ lx77.toInt := q_leI c84; omega)) (q_Ile (x := (lx78.toInt + 1)) (y := 802) (q_addI (x := lx78.toInt) (y := 1) rfl (by decide) (by have t1 : 1 ≤ x1.toInt := q_nltI c10; have t2 : x1.toInt ≤ 800 := q_nltI c14; have t3 : 1 < x1.toInt := q_nleI c57; have t4 : x1.toInt ≤ lx77.toInt := q_leI c84; omega) (by have t1 : 1 ≤ x1.toInt := q_nltI c10; have t2 : x1.toInt ≤ 800 := q_nltI c14; have t3 : 1 < x1.toInt := q_nleI c57; have t4 : x1.toInt ≤ lx77.toInt := q_leI c84; omega)) (by decide) (by have t1 : 1 ≤ x1.toInt := q_nltI c10; have t2 : x1.toInt ≤ 800 := q_nltI c14; have t3 : 1 < x1.toInt := q_nleI c57; have t4 : x1.toInt ≤ lx77.toInt := q_leI c84; omega)) _) rfl rfl hO0 rfl hl.1 rfl (Nat.le_of_ble_eq_true rfl) ⟨by decide, by decide⟩ ⟨Nat.le_of_ble_eq_true rfl, Nat.le_of_ble_eq_true rfl⟩ d_17_30_263) (fun u90 H locs hp89 V => ?_)
              obtain ⟨hg91, hO0, hA7⟩ := hp89
              replace hF := q_uc hF hg91 (q_sc (.head _) (q_sc (List.mem_of_getElem? (i := 5) rfl) (fun _ h => absurd h List.not_mem_nil)))
              refine lv_iload hx hb d_17_30_266 (lv_at hl 0 rfl) ?_
              refine lv_if_ge (tgt := 277) hx hb d_17_30_268 (by decide) (fun c92 => ?_) (fun c92 => absurd (by decide) c92)
              refine lv_iload hx hb d_17_30_277 (lv_at hl 0 rfl) ?_
              refine lv_istore (lv' := [(8, .int 0), (6, .int 1080), (7, .int ((1080 - x1) + 1)), (0, .ref qO0), (1, .long 0), (3, .int 0), (4, .int x1), (5, .int x2)]) hx hb d_17_30_279 hl (by decide) rfl (fun ls hl => ?_)
              refine lv_iload hx hb d_17_30_281 (lv_at hl 0 rfl) ?_
              refine lv_bipush (v := 10) hx hb d_17_30_283 (by decide) ?_
              refine lv_icmp_ge (tgt := 294) hx hb d_17_30_285 (by decide) (fun c93 => absurd c93 (by decide)) (fun c93 => ?_)
              refine lv_aload_n hx hb d_17_30_288 rfl (lv_at hl 3 rfl) ?_
              refine lv_bipush (v := 48) hx hb d_17_30_289 (by decide) ?_
              refine q_gov V (q_runV (As := [.int 48]) (rest := []) (d := 1) (mc := 0) (ms := 0) (ci := 15) C0 V rfl LV_FR_110 (c_FR_add_3 l D g u90 kO0 kA7 qO0 qA1 qA2 qA3 qA4 qA5 qA6 qA7 ((lx78 + 1) + 1) (upd (upd lx79 lx78.toNatClampNeg 101) (lx78 + 1).toNatClampNeg 43) hO0 hA7 (q_Ile (x := 2) (y := ((lx78.toInt + 1) + 1)) (by decide) (q_addI (x := (lx78.toInt + 1)) (y := 1) (q_addI (x := lx78.toInt) (y := 1) rfl (by decide) (by have t1 : 1 ≤ x1.toInt := q_nltI c10; have t2 : x1.toInt ≤ 800 := q_nltI c14; have t3 : 1 < x1.toInt := q_nleI c57; have t4 : x1.toInt ≤ lx77.toInt := q_leI c84; omega) (by have t1 : 1 ≤ x1.toInt := q_nltI c10; have t2 : x1.toInt ≤ 800 := q_nltI c14; have t3 : 1 < x1.toInt := q_nleI c57; have t4 : x1.toInt ≤ lx77.toInt := q_leI c84; omega)) (by decide) (by have t1 : 1 ≤ x1.toInt := q_nltI c10; have t2 : x1.toInt ≤ 800 := q_nltI c14; have t3 : 1 < x1.toInt := q_nleI c57; have t4 : x1.toInt ≤ lx77.toInt := q_leI c84; omega) (by have t1 : 1 ≤ x1.toInt := q_nltI c10; have t2 : x1.toInt ≤ 800 := q_nltI c14; have t3 : 1 < x1.toInt := q_nleI c57; have t4 : x1.toInt ≤ lx77.toInt := q_leI c84; omega)) (by have t1 : 1 ≤ x1.toInt := q_nltI c10; have t2 : x1.toInt ≤ 800 := q_nltI c14; have t3 : 1 < x1.toInt := q_nleI c57; have t4 : x1.toInt ≤ lx77.toInt := q_leI c84; omega)) (q_Ile (x := ((lx78.toInt + 1) + 1)) (y := 1076) (q_addI (x := (lx78.toInt + 1)) (y := 1) (q_addI (x := lx78.toInt) (y := 1) rfl (by decide) (by have t1 : 1 ≤ x1.toInt := q_nltI c10; have t2 : x1.toInt ≤ 800 := q_nltI c14; have t3 : 1 < x1.toInt := q_nleI c57; have t4 : x1.toInt ≤ lx77.toInt := q_leI c84; omega) (by have t1 : 1 ≤ x1.toInt := q_nltI c10; have t2 : x1.toInt ≤ 800 := q_nltI c14; have t3 : 1 < x1.toInt := q_nleI c57; have t4 : x1.toInt ≤ lx77.toInt := q_leI c84; omega)) (by decide) (by have t1 : 1 ≤ x1.toInt := q_nltI c10; have t2 : x1.toInt ≤ 800 := q_nltI c14; have t3 : 1 < x1.toInt := q_nleI c57; have t4 : x1.toInt ≤ lx77.toInt := q_leI c84; omega) (by have t1 : 1 ≤ x1.toInt := q_nltI c10; have t2 : x1.toInt ≤ 800 := q_nltI c14; have t3 : 1 < x1.toInt := q_nleI c57; have t4 : x1.toInt ≤ lx77.toInt := q_leI c84; omega)) (by decide) (by have t1 : 1 ≤ x1.toInt := q_nltI c10; have t2 : x1.toInt ≤ 800 := q_nltI c14; have t3 : 1 < x1.toInt := q_nleI c57; have t4 : x1.toInt ≤ lx77.toInt := q_leI c84; omega)) _) rfl rfl hO0 rfl hl.1 rfl (Nat.le_of_ble_eq_true rfl) ⟨by decide, by decide⟩ ⟨Nat.le_of_ble_eq_true rfl, Nat.le_of_ble_eq_true rfl⟩ d_17_30_291) (fun u95 H locs hp94 V => ?_)
              obtain ⟨hg96, hO0, hA7⟩ := hp94
              replace hF := q_uc hF hg96 (q_sc (.head _) (q_sc (List.mem_of_getElem? (i := 5) rfl) (fun _ h => absurd h List.not_mem_nil)))
              refine lv_aload_n hx hb d_17_30_294 rfl (lv_at hl 3 rfl) ?_
              refine lv_iload hx hb d_17_30_295 (lv_at hl 0 rfl) ?_
              refine q_gov V (q_runV (As := [.int 0]) (rest := []) (d := 2) (mc := 0) (ms := 0) (ci := 15) C0 V rfl LV_FR_149 (c_FR_number_5 l D g u95 kO0 kA7 qO0 qA1 qA2 qA3 qA4 qA5 qA6 qA7 (((lx78 + 1) + 1) + 1) (upd (upd (upd lx79 lx78.toNatClampNeg 101) (lx78 + 1).toNatClampNeg 43) ((lx78 + 1) + 1).toNatClampNeg 48) hO0 hA7 (q_Ile (x := 5) (y := (((lx78.toInt + 1) + 1) + 1)) (by decide) (q_addI (x := ((lx78.toInt + 1) + 1)) (y := 1) (q_addI (x := (lx78.toInt + 1)) (y := 1) (q_addI (x := lx78.toInt) (y := 1) rfl (by decide) (by have t1 : 1 ≤ x1.toInt := q_nltI c10; have t2 : x1.toInt ≤ 800 := q_nltI c14; have t3 : 1 < x1.toInt := q_nleI c57; have t4 : x1.toInt ≤ lx77.toInt := q_leI c84; omega) (by have t1 : 1 ≤ x1.toInt := q_nltI c10; have t2 : x1.toInt ≤ 800 := q_nltI c14; have t3 : 1 < x1.toInt := q_nleI c57; have t4 : x1.toInt ≤ lx77.toInt := q_leI c84; omega)) (by decide) (by have t1 : 1 ≤ x1.toInt := q_nltI c10; have t2 : x1.toInt ≤ 800 := q_nltI c14; have t3 : 1 < x1.toInt := q_nleI c57; have t4 : x1.toInt ≤ lx77.toInt := q_leI c84; omega) (by have t1 : 1 ≤ x1.toInt := q_nltI c10; have t2 : x1.toInt ≤ 800 := q_nltI c14; have t3 : 1 < x1.toInt := q_nleI c57; have t4 : x1.toInt ≤ lx77.toInt := q_leI c84; omega)) (by decide) (by have t1 : 1 ≤ x1.toInt := q_nltI c10; have t2 : x1.toInt ≤ 800 := q_nltI c14; have t3 : 1 < x1.toInt := q_nleI c57; have t4 : x1.toInt ≤ lx77.toInt := q_leI c84; omega) (by have t1 : 1 ≤ x1.toInt := q_nltI c10; have t2 : x1.toInt ≤ 800 := q_nltI c14; have t3 : 1 < x1.toInt := q_nleI c57; have t4 : x1.toInt ≤ lx77.toInt := q_leI c84; omega)) (by have t1 : 1 ≤ x1.toInt := q_nltI c10; have t2 : x1.toInt ≤ 800 := q_nltI c14; have t3 : 1 < x1.toInt := q_nleI c57; have t4 : x1.toInt ≤ lx77.toInt := q_leI c84; omega)) (q_Ile (x := (((lx78.toInt + 1) + 1) + 1)) (y := 804) (q_addI (x := ((lx78.toInt + 1) + 1)) (y := 1) (q_addI (x := (lx78.toInt + 1)) (y := 1) (q_addI (x := lx78.toInt) (y := 1) rfl (by decide) (by have t1 : 1 ≤ x1.toInt := q_nltI c10; have t2 : x1.toInt ≤ 800 := q_nltI c14; have t3 : 1 < x1.toInt := q_nleI c57; have t4 : x1.toInt ≤ lx77.toInt := q_leI c84; omega) (by have t1 : 1 ≤ x1.toInt := q_nltI c10; have t2 : x1.toInt ≤ 800 := q_nltI c14; have t3 : 1 < x1.toInt := q_nleI c57; have t4 : x1.toInt ≤ lx77.toInt := q_leI c84; omega)) (by decide) (by have t1 : 1 ≤ x1.toInt := q_nltI c10; have t2 : x1.toInt ≤ 800 := q_nltI c14; have t3 : 1 < x1.toInt := q_nleI c57; have t4 : x1.toInt ≤ lx77.toInt := q_leI c84; omega) (by have t1 : 1 ≤ x1.toInt := q_nltI c10; have t2 : x1.toInt ≤ 800 := q_nltI c14; have t3 : 1 < x1.toInt := q_nleI c57; have t4 : x1.toInt ≤ lx77.toInt := q_leI c84; omega)) (by decide) (by have t1 : 1 ≤ x1.toInt := q_nltI c10; have t2 : x1.toInt ≤ 800 := q_nltI c14; have t3 : 1 < x1.toInt := q_nleI c57; have t4 : x1.toInt ≤ lx77.toInt := q_leI c84; omega) (by have t1 : 1 ≤ x1.toInt := q_nltI c10; have t2 : x1.toInt ≤ 800 := q_nltI c14; have t3 : 1 < x1.toInt := q_nleI c57; have t4 : x1.toInt ≤ lx77.toInt := q_leI c84; omega)) (by decide) (by have t1 : 1 ≤ x1.toInt := q_nltI c10; have t2 : x1.toInt ≤ 800 := q_nltI c14; have t3 : 1 < x1.toInt := q_nleI c57; have t4 : x1.toInt ≤ lx77.toInt := q_leI c84; omega)) _) rfl rfl hO0 rfl hl.1 rfl (Nat.le_of_ble_eq_true rfl) ⟨by decide, by decide⟩ ⟨Nat.le_of_ble_eq_true rfl, Nat.le_of_ble_eq_true rfl⟩ d_17_30_297) (fun u98 H locs hp97 V => ?_)
              obtain ⟨hg99, hO0, hA7⟩ := hp97
              replace hF := q_uc hF hg99 (q_sc (.head _) (q_sc (List.mem_of_getElem? (i := 5) rfl) (fun _ h => absurd h List.not_mem_nil)))
              refine lv_aload_n hx hb d_17_30_300 rfl (lv_at hl 3 rfl) ?_
              refine q_get (ci := 15) (j := 8) (v := .int ((((lx78 + 1) + 1) + 1) + 1)) C0 V i_FR rfl rfl hO0 (by decide) w_2084 rfl d_17_30_301 ?_
              replace hA1 := (hg99 _ (q_nc n_A1_O0 (q_nc n_A1_A7 List.not_mem_nil))).trans ((hg96 _ (q_nc n_A1_O0 (q_nc n_A1_A7 List.not_mem_nil))).trans ((hg91 _ (q_nc n_A1_O0 (q_nc n_A1_A7 List.not_mem_nil))).trans ((hg87 _ (q_nc n_A1_O0 (q_nc n_A1_A7 List.not_mem_nil))).trans (hA1))))
              replace hA2 := (hg99 _ (q_nc n_A2_O0 (q_nc n_A2_A7 List.not_mem_nil))).trans ((hg96 _ (q_nc n_A2_O0 (q_nc n_A2_A7 List.not_mem_nil))).trans ((hg91 _ (q_nc n_A2_O0 (q_nc n_A2_A7 List.not_mem_nil))).trans ((hg87 _ (q_nc n_A2_O0 (q_nc n_A2_A7 List.not_mem_nil))).trans (hA2))))
              replace hA3 := (hg99 _ (q_nc n_A3_O0 (q_nc n_A3_A7 List.not_mem_nil))).trans ((hg96 _ (q_nc n_A3_O0 (q_nc n_A3_A7 List.not_mem_nil))).trans ((hg91 _ (q_nc n_A3_O0 (q_nc n_A3_A7 List.not_mem_nil))).trans ((hg87 _ (q_nc n_A3_O0 (q_nc n_A3_A7 List.not_mem_nil))).trans (hA3))))
              replace hA6 := (hg99 _ (q_nc n_A6_O0 (q_nc n_A6_A7 List.not_mem_nil))).trans ((hg96 _ (q_nc n_A6_O0 (q_nc n_A6_A7 List.not_mem_nil))).trans ((hg91 _ (q_nc n_A6_O0 (q_nc n_A6_A7 List.not_mem_nil))).trans ((hg87 _ (q_nc n_A6_O0 (q_nc n_A6_A7 List.not_mem_nil))).trans (hA6))))
              exact q_reti C0 V (Or.inr (Or.inr (Or.inr (Or.inr (Or.inl ⟨lx78, y33, lx79, c10, c14, c18, c22, c57, (show ((x1.toInt < 1 ∧ lx78.toInt = 2) ∨ (1 ≤ x1.toInt ∧ lx78.toInt = 2 + 1 * (x1.toInt - 1))) from by have t1 : 1 ≤ x1.toInt := q_nltI c10; have t2 : x1.toInt ≤ 800 := q_nltI c14; have t3 : 0 ≤ x2.toInt := q_nltI c18; have t4 : x2.toInt ≤ 3 := q_leI c22; have t5 : 1 < x1.toInt := q_nleI c57; have t6 : x1.toInt ≤ lx77.toInt := q_leI c84; have eb : (x1 : Int32).toInt = x1.toInt := rfl; omega), (q_Ile (x := 2) (y := lx78.toInt) (by decide) rfl (by have t1 : 1 ≤ x1.toInt := q_nltI c10; have t2 : x1.toInt ≤ 800 := q_nltI c14; have t3 : 1 < x1.toInt := q_nleI c57; have t4 : x1.toInt ≤ lx77.toInt := q_leI c84; omega)), (q_Ile (x := lx78.toInt) (y := 801) rfl (by decide) (by have t1 : 1 ≤ x1.toInt := q_nltI c10; have t2 : x1.toInt ≤ 800 := q_nltI c14; have t3 : 1 < x1.toInt := q_nleI c57; have t4 : x1.toInt ≤ lx77.toInt := q_leI c84; omega)), rfl, hF, hO0, hA1, hA2, hA3, hA6, hA7⟩))))) d_17_30_304
            ·
              refine lv_aload_n hx hb d_17_30_193 rfl (lv_at hl 3 rfl) ?_
              refine lv_bipush (v := 48) hx hb d_17_30_194 (by decide) ?_
              refine lv_aload_n hx hb d_17_30_196 rfl (lv_at hl 3 rfl) ?_
              refine lv_iload hx hb d_17_30_197 (lv_at hl 1 rfl) ?_
              refine lv_sipush (v := 1080) hx hb d_17_30_199 (by decide) ?_
              refine lv_isub hx hb d_17_30_202 ?_
              refine q_ti (v := 0) (by decide) ?_
              refine lv_iload hx hb d_17_30_203 (lv_at hl 0 rfl) ?_
              refine lv_isub hx hb d_17_30_205 ?_
              refine q_goi V (q_runV (As := [.int (0 - lx77)]) (rest := [.int 48, .ref qO0]) (d := 1) (mc := 0) (ms := 0) (ci := 15) C0 V rfl LV_FR_169 (c_FR_figureAt_2 l D g w80 kO0 kA6 qO0 qA1 qA2 qA3 qA4 qA5 qA6 qA7 (0 - lx77) lx78 hO0 hA6 (q_Ile (x := (-1074)) (y := (0 - lx77.toInt)) (by decide) (q_subI (x := 0) (y := lx77.toInt) (by decide) rfl (by have t1 : 1 ≤ x1.toInt := q_nltI c10; have t2 : x1.toInt ≤ 800 := q_nltI c14; have t3 : 1 < x1.toInt := q_nleI c57; have t4 : lx77.toInt < x1.toInt := q_nleI c84; omega) (by have t1 : 1 ≤ x1.toInt := q_nltI c10; have t2 : x1.toInt ≤ 800 := q_nltI c14; have t3 : 1 < x1.toInt := q_nleI c57; have t4 : lx77.toInt < x1.toInt := q_nleI c84; omega)) (by have t1 : 1 ≤ x1.toInt := q_nltI c10; have t2 : x1.toInt ≤ 800 := q_nltI c14; have t3 : 1 < x1.toInt := q_nleI c57; have t4 : lx77.toInt < x1.toInt := q_nleI c84; omega)) (q_Ile (x := (0 - lx77.toInt)) (y := (-1)) (q_subI (x := 0) (y := lx77.toInt) (by decide) rfl (by have t1 : 1 ≤ x1.toInt := q_nltI c10; have t2 : x1.toInt ≤ 800 := q_nltI c14; have t3 : 1 < x1.toInt := q_nleI c57; have t4 : lx77.toInt < x1.toInt := q_nleI c84; omega) (by have t1 : 1 ≤ x1.toInt := q_nltI c10; have t2 : x1.toInt ≤ 800 := q_nltI c14; have t3 : 1 < x1.toInt := q_nleI c57; have t4 : lx77.toInt < x1.toInt := q_nleI c84; omega)) (by decide) (by have t1 : 1 ≤ x1.toInt := q_nltI c10; have t2 : x1.toInt ≤ 800 := q_nltI c14; have t3 : 1 < x1.toInt := q_nleI c57; have t4 : lx77.toInt < x1.toInt := q_nleI c84; omega)) (q_Ile (x := 2) (y := lx78.toInt) (by decide) rfl (by have t1 : 1 ≤ x1.toInt := q_nltI c10; have t2 : x1.toInt ≤ 800 := q_nltI c14; have t3 : 1 < x1.toInt := q_nleI c57; have t4 : lx77.toInt < x1.toInt := q_nleI c84; omega)) (q_Ile (x := lx78.toInt) (y := 1076) rfl (by decide) (by have t1 : 1 ≤ x1.toInt := q_nltI c10; have t2 : x1.toInt ≤ 800 := q_nltI c14; have t3 : 1 < x1.toInt := q_nleI c57; have t4 : lx77.toInt < x1.toInt := q_nleI c84; omega)) _) rfl rfl hO0 rfl hl.1 rfl (Nat.le_of_ble_eq_true rfl) ⟨by decide, by decide⟩ ⟨Nat.le_of_ble_eq_true rfl, Nat.le_of_ble_eq_true rfl⟩ d_17_30_206) (fun v102 u101 H locs hp100 V => ?_)
              obtain ⟨rfl, rfl⟩ := hp100
              refine lv_iadd hx hb d_17_30_209 ?_
              refine q_ti (v := 48) (by decide) ?_
              refine q_gov V (q_runV (As := [.int 48]) (rest := []) (d := 1) (mc := 0) (ms := 0) (ci := 15) C0 V rfl LV_FR_110 (c_FR_add_3 l D g w80 kO0 kA7 qO0 qA1 qA2 qA3 qA4 qA5 qA6 qA7 lx78 lx79 hO0 hA7 (q_Ile (x := 2) (y := lx78.toInt) (by decide) rfl (by have t1 : 1 ≤ x1.toInt := q_nltI c10; have t2 : x1.toInt ≤ 800 := q_nltI c14; have t3 : 1 < x1.toInt := q_nleI c57; have t4 : lx77.toInt < x1.toInt := q_nleI c84; omega)) (q_Ile (x := lx78.toInt) (y := 1076) rfl (by decide) (by have t1 : 1 ≤ x1.toInt := q_nltI c10; have t2 : x1.toInt ≤ 800 := q_nltI c14; have t3 : 1 < x1.toInt := q_nleI c57; have t4 : lx77.toInt < x1.toInt := q_nleI c84; omega)) _) rfl rfl hO0 rfl hl.1 rfl (Nat.le_of_ble_eq_true rfl) ⟨by decide, by decide⟩ ⟨Nat.le_of_ble_eq_true rfl, Nat.le_of_ble_eq_true rfl⟩ d_17_30_210) (fun u105 H locs hp104 V => ?_)
              obtain ⟨hg106, hO0, hA7⟩ := hp104
              replace hF := q_uc hF hg106 (q_sc (.head _) (q_sc (List.mem_of_getElem? (i := 5) rfl) (fun _ h => absurd h List.not_mem_nil)))
              refine lv_iload hx hb d_17_30_213 (lv_at hl 0 rfl) ?_
              refine lv_if_ne (tgt := 230) hx hb d_17_30_215 (by decide) (fun c107 => ?_) (fun c107 => absurd c107 (q_Ine (x := lx77.toInt) (y := 0) rfl (by decide) (by have t1 : 1 ≤ x1.toInt := q_nltI c10; have t2 : x1.toInt ≤ 800 := q_nltI c14; have t3 : 1 < x1.toInt := q_nleI c57; have t4 : lx77.toInt < x1.toInt := q_nleI c84; omega)))
              refine lv_iinc (v := lx77 + 1) (lv' := [(8, .int (lx77 + 1)), (6, .int 1080), (7, .int ((1080 - x1) + 1)), (0, .ref qO0), (1, .long 0), (3, .int 0), (4, .int x1), (5, .int x2)]) hx hb d_17_30_230 hl (k := 0) rfl (rfl) (by decide) rfl (fun ls hl => ?_)
              refine lv_goto (tgt := 186) hx hb d_17_30_233 (by decide) ?_
              replace hA1 := (hg106 _ (q_nc n_A1_O0 (q_nc n_A1_A7 List.not_mem_nil))).trans (hA1)
              replace hA2 := (hg106 _ (q_nc n_A2_O0 (q_nc n_A2_A7 List.not_mem_nil))).trans (hA2)
              replace hA3 := (hg106 _ (q_nc n_A3_O0 (q_nc n_A3_A7 List.not_mem_nil))).trans (hA3)
              replace hA6 := (hg106 _ (q_nc n_A6_O0 (q_nc n_A6_A7 List.not_mem_nil))).trans (hA6)
              exact ih83 ((lx77 + 1 : Int32), (lx78 + 1 : Int32), (upd lx79 lx78.toNatClampNeg 48 : Nat → Int32)) _ _ _ _ (show (x1.toInt - (lx77 + 1).toInt).toNat < (x1.toInt - lx77.toInt).toNat from by have t1 : 1 ≤ x1.toInt := q_nltI c10; have t2 : x1.toInt ≤ 800 := q_nltI c14; have t3 : 1 < x1.toInt := q_nleI c57; have t4 : lx77.toInt < x1.toInt := q_nleI c84; have e : (lx77 + 1).toInt = (lx77.toInt + 1) := (q_addI (x := lx77.toInt) (y := 1) rfl (by decide) (by have t1 : 1 ≤ x1.toInt := q_nltI c10; have t2 : x1.toInt ≤ 800 := q_nltI c14; have t3 : 1 < x1.toInt := q_nleI c57; have t4 : lx77.toInt < x1.toInt := q_nleI c84; omega) (by have t1 : 1 ≤ x1.toInt := q_nltI c10; have t2 : x1.toInt ≤ 800 := q_nltI c14; have t3 : 1 < x1.toInt := q_nleI c57; have t4 : lx77.toInt < x1.toInt := q_nleI c84; omega)); omega) ⟨(show 1 ≤ (lx77 + 1).toInt ∧ ((lx77 + 1).toInt ≤ x1.toInt ∨ (lx77 + 1).toInt = 1) from by have t1 : 1 ≤ x1.toInt := q_nltI c10; have t2 : x1.toInt ≤ 800 := q_nltI c14; have t3 : 1 < x1.toInt := q_nleI c57; have t4 : lx77.toInt < x1.toInt := q_nleI c84; have e : (lx77 + 1).toInt = (lx77.toInt + 1) := (q_addI (x := lx77.toInt) (y := 1) rfl (by decide) (by have t1 : 1 ≤ x1.toInt := q_nltI c10; have t2 : x1.toInt ≤ 800 := q_nltI c14; have t3 : 1 < x1.toInt := q_nleI c57; have t4 : lx77.toInt < x1.toInt := q_nleI c84; omega) (by have t1 : 1 ≤ x1.toInt := q_nltI c10; have t2 : x1.toInt ≤ 800 := q_nltI c14; have t3 : 1 < x1.toInt := q_nleI c57; have t4 : lx77.toInt < x1.toInt := q_nleI c84; omega)); omega), (show (lx78 + 1 : Int32).toInt = 2 + 1 * ((lx77 + 1 : Int32).toInt - 1) from by have t1 : 1 ≤ x1.toInt := q_nltI c10; have t2 : x1.toInt ≤ 800 := q_nltI c14; have t3 : 0 ≤ x2.toInt := q_nltI c18; have t4 : x2.toInt ≤ 3 := q_leI c22; have t5 : 1 < x1.toInt := q_nleI c57; have t6 : lx77.toInt < x1.toInt := q_nleI c84; have e0 : (lx77 + 1 : Int32).toInt = (lx77.toInt + 1) := (q_addI (x := lx77.toInt) (y := 1) rfl (by decide) (by have t1 : 1 ≤ x1.toInt := q_nltI c10; have t2 : x1.toInt ≤ 800 := q_nltI c14; have t3 : 1 < x1.toInt := q_nleI c57; have t4 : lx77.toInt < x1.toInt := q_nleI c84; omega) (by have t1 : 1 ≤ x1.toInt := q_nltI c10; have t2 : x1.toInt ≤ 800 := q_nltI c14; have t3 : 1 < x1.toInt := q_nleI c57; have t4 : lx77.toInt < x1.toInt := q_nleI c84; omega)); have e1 : (lx78 + 1 : Int32).toInt = (lx78.toInt + 1) := (q_addI (x := lx78.toInt) (y := 1) rfl (by decide) (by have t1 : 1 ≤ x1.toInt := q_nltI c10; have t2 : x1.toInt ≤ 800 := q_nltI c14; have t3 : 1 < x1.toInt := q_nleI c57; have t4 : lx77.toInt < x1.toInt := q_nleI c84; omega) (by have t1 : 1 ≤ x1.toInt := q_nltI c10; have t2 : x1.toInt ≤ 800 := q_nltI c14; have t3 : 1 < x1.toInt := q_nleI c57; have t4 : lx77.toInt < x1.toInt := q_nleI c84; omega)); omega), V, q_lw hl (q_lw1 0 rfl (q_lw1 1 rfl (q_lw1 2 rfl (q_lw1 3 rfl (q_lw1 4 rfl (q_lw1 5 rfl (q_lw1 6 rfl (q_lw1 7 rfl q_lw0)))))))), hF, hO0, hA1, hA2, hA3, hA6, hA7⟩
        ·
          refine lv_iconst (v := 1) hx hb d_17_30_56 (by decide) ?_
          refine lv_goto (tgt := 72) hx hb d_17_30_57 (by decide) ?_
          refine q_put (ci := 15) (j := 0) (v := .int 1) (ty := .int) C0 V i_FR o_FR n_FR rfl rfl hO0 (by decide) w_2074 rfl rfl rfl rfl (Nat.le_of_ble_eq_true rfl) d_17_30_72 (fun H locs w108 hu109 hO0 V => ?_)
          replace hO0 : w108[kO0]? = some (qO0, .inr (15, [.int 1, .ref qA1, .ref qA2, .ref qA3, .ref qA4, .ref qA5, .ref qA6, .ref qA7, .int 0, .int 0, .int 0, .long 0, .int 52, .int 2047, .long 0, .int (-1074), .long 0, .int 0])) := hO0
          replace hF := q_us hF hu109 (.head _)
          refine lv_aload_n hx hb d_17_30_75 rfl (lv_at hl 0 rfl) ?_
          refine q_get (ci := 15) (j := 0) (v := .int 1) C0 V i_FR rfl rfl hO0 (by decide) w_2074 rfl d_17_30_76 ?_
          refine lv_if_le (tgt := 84) hx hb d_17_30_79 (by decide) (fun c110 => absurd c110 (by decide)) (fun c110 => ?_)
          refine lv_iconst (v := 0) hx hb d_17_30_82 (by decide) ?_
          replace hA1 := (hu109 _ n_A1_O0).trans ((hg4 _ (q_nc n_A1_O0 List.not_mem_nil)).trans (hA1))
          replace hA2 := (hu109 _ n_A2_O0).trans ((hg4 _ (q_nc n_A2_O0 List.not_mem_nil)).trans (hA2))
          replace hA3 := (hu109 _ n_A3_O0).trans ((hg4 _ (q_nc n_A3_O0 List.not_mem_nil)).trans (hA3))
          replace hA6 := (hu109 _ n_A6_O0).trans ((hg4 _ (q_nc n_A6_O0 List.not_mem_nil)).trans (hA6))
          replace hA7 := (hu109 _ n_A7_O0).trans ((hg4 _ (q_nc n_A7_O0 List.not_mem_nil)).trans (hA7))
          exact q_reti C0 V (Or.inr (Or.inr (Or.inr (Or.inr (Or.inr (⟨c10, c14, c18, c22, rfl, hF, hO0, hA1, hA2, hA3, hA6, hA7⟩)))))) d_17_30_83
set_option maxRecDepth 100000 in
set_option maxHeartbeats 4000000 in
theorem c_FR_add_26 (l : Launch) (D : va_G) (g : Nat → ClassId) (ws : va_W) (kO0 kA7 qO0 qA1 qA2 qA3 qA4 qA5 qA6 qA7 : Nat) (hO0 : ws[kO0]? = some (qO0, .inr (15, [.int 0, .ref qA1, .ref qA2, .ref qA3, .ref qA4, .ref qA5, .ref qA6, .ref qA7, .int 1, .int 0, .int 0, .long 0, .int 23, .int 255, .long 0, .int (-149), .long 0, .int 0]))) (hA7 : ws[kA7]? = some (qA7, .inl (g 0, 1600, .inl (upd (fun _ => 0) 0 48)))) : q_mV l y_FR_add prog_17_method_16_code 2 1 0 0 D g [.ref qO0, .int 101] ws (fun u => q_un ws u [kO0, kA7] ∧ u[kO0]? = some (qO0, .inr (15, [.int 0, .ref qA1, .ref qA2, .ref qA3, .ref qA4, .ref qA5, .ref qA6, .ref qA7, .int 2, .int 0, .int 0, .long 0, .int 23, .int 255, .long 0, .int (-149), .long 0, .int 0])) ∧ u[kA7]? = some (qA7, .inl (g 0, 1600, .inl (upd (upd (fun _ => 0) 0 48) 1 101)))) := by
  intro sz
  refine q_into (by decide) (Nat.le_of_ble_eq_true rfl) ?_
  intro p e s m below meth c ls hsz C0 V hl
  have hx := C0.1
  have hb := C0.2.1
  have hl : lv_has ls 2 [(0, .ref qO0), (1, .int 101)] := hl
  have n_A7_O0 := q_df hA7 hO0
  have n_O0_A7 := Ne.symm (q_df hA7 hO0)
  have hF : q_un ws ws [kO0, kA7] := q_u0
  refine lv_aload_n hx hb d_17_16_0 rfl (lv_at hl 0 rfl) ?_
  refine q_get (ci := 15) (j := 7) (v := .ref qA7) C0 V i_FR rfl rfl hO0 (by decide) w_2082 rfl d_17_16_1 ?_
  refine lv_aload_n hx hb d_17_16_4 rfl (lv_at hl 0 rfl) ?_
  refine q_get (ci := 15) (j := 8) (v := .int 1) C0 V i_FR rfl rfl hO0 (by decide) w_2084 rfl d_17_16_5 ?_
  refine lv_iload_n hx hb d_17_16_8 rfl (lv_at hl 1 rfl) ?_
  refine q_iast C0 V hA7 (by unfold vp_in; decide) d_17_16_9 (fun H locs w1 hu2 hA7 V => ?_)
  replace hA7 : w1[kA7]? = some (qA7, .inl (g 0, 1600, .inl (upd (upd (fun _ => 0) 0 48) 1 101))) := hA7
  replace hF := q_us hF hu2 (.tail _ (.head _))
  refine lv_aload_n hx hb d_17_16_10 rfl (lv_at hl 0 rfl) ?_
  refine lv_dup hx hb d_17_16_11 rfl ?_
  replace hO0 := (hu2 _ n_O0_A7).trans (hO0)
  refine q_get (ci := 15) (j := 8) (v := .int 1) C0 V i_FR rfl rfl hO0 (by decide) w_2084 rfl d_17_16_12 ?_
  refine lv_iconst (v := 1) hx hb d_17_16_15 (by decide) ?_
  refine lv_iadd hx hb d_17_16_16 ?_
  refine q_ti (v := 2) (by decide) ?_
  refine q_put (ci := 15) (j := 8) (v := .int 2) (ty := .int) C0 V i_FR o_FR n_FR rfl rfl hO0 (by decide) w_2084 rfl rfl rfl rfl (Nat.le_of_ble_eq_true rfl) d_17_16_17 (fun H locs w3 hu4 hO0 V => ?_)
  replace hO0 : w3[kO0]? = some (qO0, .inr (15, [.int 0, .ref qA1, .ref qA2, .ref qA3, .ref qA4, .ref qA5, .ref qA6, .ref qA7, .int 2, .int 0, .int 0, .long 0, .int 23, .int 255, .long 0, .int (-149), .long 0, .int 0])) := hO0
  replace hF := q_us hF hu4 (.head _)
  replace hA7 := (hu4 _ n_A7_O0).trans (hA7)
  exact q_retv C0 V (⟨hF, hO0, hA7⟩) d_17_16_20
set_option maxRecDepth 100000 in
set_option maxHeartbeats 4000000 in
theorem c_FR_add_27 (l : Launch) (D : va_G) (g : Nat → ClassId) (ws : va_W) (kO0 kA7 qO0 qA1 qA2 qA3 qA4 qA5 qA6 qA7 : Nat) (hO0 : ws[kO0]? = some (qO0, .inr (15, [.int 0, .ref qA1, .ref qA2, .ref qA3, .ref qA4, .ref qA5, .ref qA6, .ref qA7, .int 2, .int 0, .int 0, .long 0, .int 23, .int 255, .long 0, .int (-149), .long 0, .int 0]))) (hA7 : ws[kA7]? = some (qA7, .inl (g 0, 1600, .inl (upd (upd (fun _ => 0) 0 48) 1 101)))) : q_mV l y_FR_add prog_17_method_16_code 2 1 0 0 D g [.ref qO0, .int 43] ws (fun u => q_un ws u [kO0, kA7] ∧ u[kO0]? = some (qO0, .inr (15, [.int 0, .ref qA1, .ref qA2, .ref qA3, .ref qA4, .ref qA5, .ref qA6, .ref qA7, .int 3, .int 0, .int 0, .long 0, .int 23, .int 255, .long 0, .int (-149), .long 0, .int 0])) ∧ u[kA7]? = some (qA7, .inl (g 0, 1600, .inl (upd (upd (upd (fun _ => 0) 0 48) 1 101) 2 43)))) := by
  intro sz
  refine q_into (by decide) (Nat.le_of_ble_eq_true rfl) ?_
  intro p e s m below meth c ls hsz C0 V hl
  have hx := C0.1
  have hb := C0.2.1
  have hl : lv_has ls 2 [(0, .ref qO0), (1, .int 43)] := hl
  have n_A7_O0 := q_df hA7 hO0
  have n_O0_A7 := Ne.symm (q_df hA7 hO0)
  have hF : q_un ws ws [kO0, kA7] := q_u0
  refine lv_aload_n hx hb d_17_16_0 rfl (lv_at hl 0 rfl) ?_
  refine q_get (ci := 15) (j := 7) (v := .ref qA7) C0 V i_FR rfl rfl hO0 (by decide) w_2082 rfl d_17_16_1 ?_
  refine lv_aload_n hx hb d_17_16_4 rfl (lv_at hl 0 rfl) ?_
  refine q_get (ci := 15) (j := 8) (v := .int 2) C0 V i_FR rfl rfl hO0 (by decide) w_2084 rfl d_17_16_5 ?_
  refine lv_iload_n hx hb d_17_16_8 rfl (lv_at hl 1 rfl) ?_
  refine q_iast C0 V hA7 (by unfold vp_in; decide) d_17_16_9 (fun H locs w1 hu2 hA7 V => ?_)
  replace hA7 : w1[kA7]? = some (qA7, .inl (g 0, 1600, .inl (upd (upd (upd (fun _ => 0) 0 48) 1 101) 2 43))) := hA7
  replace hF := q_us hF hu2 (.tail _ (.head _))
  refine lv_aload_n hx hb d_17_16_10 rfl (lv_at hl 0 rfl) ?_
  refine lv_dup hx hb d_17_16_11 rfl ?_
  replace hO0 := (hu2 _ n_O0_A7).trans (hO0)
  refine q_get (ci := 15) (j := 8) (v := .int 2) C0 V i_FR rfl rfl hO0 (by decide) w_2084 rfl d_17_16_12 ?_
  refine lv_iconst (v := 1) hx hb d_17_16_15 (by decide) ?_
  refine lv_iadd hx hb d_17_16_16 ?_
  refine q_ti (v := 3) (by decide) ?_
  refine q_put (ci := 15) (j := 8) (v := .int 3) (ty := .int) C0 V i_FR o_FR n_FR rfl rfl hO0 (by decide) w_2084 rfl rfl rfl rfl (Nat.le_of_ble_eq_true rfl) d_17_16_17 (fun H locs w3 hu4 hO0 V => ?_)
  replace hO0 : w3[kO0]? = some (qO0, .inr (15, [.int 0, .ref qA1, .ref qA2, .ref qA3, .ref qA4, .ref qA5, .ref qA6, .ref qA7, .int 3, .int 0, .int 0, .long 0, .int 23, .int 255, .long 0, .int (-149), .long 0, .int 0])) := hO0
  replace hF := q_us hF hu4 (.head _)
  replace hA7 := (hu4 _ n_A7_O0).trans (hA7)
  exact q_retv C0 V (⟨hF, hO0, hA7⟩) d_17_16_20
set_option maxRecDepth 100000 in
set_option maxHeartbeats 4000000 in
theorem c_FR_number_6 (l : Launch) (D : va_G) (g : Nat → ClassId) (ws : va_W) (kO0 kA7 qO0 qA1 qA2 qA3 qA4 qA5 qA6 qA7 : Nat) (y1 : Int32) (f3 : Nat → Int32) (hO0 : ws[kO0]? = some (qO0, .inr (15, [.int 0, .ref qA1, .ref qA2, .ref qA3, .ref qA4, .ref qA5, .ref qA6, .ref qA7, .int y1, .int 0, .int 0, .long 0, .int 23, .int 255, .long 0, .int (-149), .long 0, .int 0]))) (hA7 : ws[kA7]? = some (qA7, .inl (g 0, 1600, .inl f3))) (y1lo : 4 ≤ y1) (y1hi : y1 ≤ 4) : q_mV l y_FR_number prog_17_method_19_code 3 2 0 0 D g [.ref qO0, .int 0] ws (fun u => q_un ws u [kO0, kA7] ∧ u[kO0]? = some (qO0, .inr (15, [.int 0, .ref qA1, .ref qA2, .ref qA3, .ref qA4, .ref qA5, .ref qA6, .ref qA7, .int (y1 + 1), .int 0, .int 0, .long 0, .int 23, .int 255, .long 0, .int (-149), .long 0, .int 0])) ∧ u[kA7]? = some (qA7, .inl (g 0, 1600, .inl (upd f3 y1.toNatClampNeg 48)))) := by
  intro sz
  refine q_into (by decide) (Nat.le_of_ble_eq_true rfl) ?_
  intro p e s m below meth c ls hsz C0 V hl
  have hx := C0.1
  have hb := C0.2.1
  have hl : lv_has ls 3 [(0, .ref qO0), (1, .int 0)] := hl
  have hF : q_un ws ws [kO0, kA7] := q_u0
  refine lv_iconst (v := 1) hx hb d_17_19_0 (by decide) ?_
  refine lv_istore_n (lv' := [(2, .int 1), (0, .ref qO0), (1, .int 0)]) hx hb d_17_19_1 rfl hl (by decide) rfl (fun ls hl => ?_)
  refine lv_iload_n hx hb d_17_19_2 rfl (lv_at hl 2 rfl) ?_
  refine lv_iload_n hx hb d_17_19_3 rfl (lv_at hl 0 rfl) ?_
  refine lv_idiv hx hb d_17_19_4 (by decide) ?_
  refine q_ti (v := 0) (by decide) ?_
  refine lv_bipush (v := 9) hx hb d_17_19_5 (by decide) ?_
  refine lv_icmp_le (tgt := 18) hx hb d_17_19_7 (by decide) (fun c1 => ?_) (fun c1 => absurd (by decide) c1)
  refine lv_iload_n hx hb d_17_19_18 rfl (lv_at hl 0 rfl) ?_
  refine lv_if_le (tgt := 43) hx hb d_17_19_19 (by decide) (fun c2 => absurd c2 (by decide)) (fun c2 => ?_)
  refine lv_aload_n hx hb d_17_19_22 rfl (lv_at hl 1 rfl) ?_
  refine lv_bipush (v := 48) hx hb d_17_19_23 (by decide) ?_
  refine lv_iload_n hx hb d_17_19_25 rfl (lv_at hl 2 rfl) ?_
  refine lv_iload_n hx hb d_17_19_26 rfl (lv_at hl 0 rfl) ?_
  refine lv_idiv hx hb d_17_19_27 (by decide) ?_
  refine q_ti (v := 0) (by decide) ?_
  refine lv_bipush (v := 10) hx hb d_17_19_28 (by decide) ?_
  refine lv_irem hx hb d_17_19_30 (by decide) ?_
  refine q_ti (v := 0) (by decide) ?_
  refine lv_iadd hx hb d_17_19_31 ?_
  refine q_ti (v := 48) (by decide) ?_
  refine q_gov V (q_runV (As := [.int 48]) (rest := []) (d := 1) (mc := 0) (ms := 0) (ci := 15) C0 V rfl LV_FR_110 (c_FR_add_6 l D g ws kO0 kA7 qO0 qA1 qA2 qA3 qA4 qA5 qA6 qA7 y1 f3 hO0 hA7 (q_Ile (x := 2) (y := y1.toInt) (by decide) rfl (by have t1 : 4 ≤ y1.toInt := q_leI y1lo; have t2 : y1.toInt ≤ 4 := q_leI y1hi; omega)) (q_Ile (x := y1.toInt) (y := 1076) rfl (by decide) (by have t1 : 4 ≤ y1.toInt := q_leI y1lo; have t2 : y1.toInt ≤ 4 := q_leI y1hi; omega)) _) rfl rfl hO0 rfl hl.1 rfl (Nat.le_of_ble_eq_true rfl) ⟨by decide, by decide⟩ ⟨Nat.le_of_ble_eq_true rfl, Nat.le_of_ble_eq_true rfl⟩ d_17_19_32) (fun u4 H locs hp3 V => ?_)
  obtain ⟨hg5, hO0, hA7⟩ := hp3
  replace hF := q_uc hF hg5 (q_sc (.head _) (q_sc (.tail _ (.head _)) (fun _ h => absurd h List.not_mem_nil)))
  refine lv_iload_n hx hb d_17_19_35 rfl (lv_at hl 0 rfl) ?_
  refine lv_bipush (v := 10) hx hb d_17_19_36 (by decide) ?_
  refine lv_idiv hx hb d_17_19_38 (by decide) ?_
  refine q_ti (v := 0) (by decide) ?_
  refine lv_istore_n (lv' := [(2, .int 0), (0, .ref qO0), (1, .int 0)]) hx hb d_17_19_39 rfl hl (by decide) rfl (fun ls hl => ?_)
  refine lv_goto (tgt := 18) hx hb d_17_19_40 (by decide) ?_
  refine lv_iload_n hx hb d_17_19_18 rfl (lv_at hl 0 rfl) ?_
  refine lv_if_le (tgt := 43) hx hb d_17_19_19 (by decide) (fun c6 => ?_) (fun c6 => absurd (by decide) c6)
  exact q_retv C0 V (⟨hF, hO0, hA7⟩) d_17_19_43
set_option maxRecDepth 100000 in
set_option maxHeartbeats 4000000 in
theorem c_FR_add_28 (l : Launch) (D : va_G) (g : Nat → ClassId) (ws : va_W) (kO0 kA7 qO0 qA1 qA2 qA3 qA4 qA5 qA6 qA7 : Nat) (hO0 : ws[kO0]? = some (qO0, .inr (15, [.int 0, .ref qA1, .ref qA2, .ref qA3, .ref qA4, .ref qA5, .ref qA6, .ref qA7, .int 2, .int 0, .int 0, .long 0, .int 23, .int 255, .long 0, .int (-149), .long 0, .int 0]))) (hA7 : ws[kA7]? = some (qA7, .inl (g 0, 1600, .inl (upd (upd (fun _ => 0) 0 48) 1 46)))) : q_mV l y_FR_add prog_17_method_16_code 2 1 0 0 D g [.ref qO0, .int 101] ws (fun u => q_un ws u [kO0, kA7] ∧ u[kO0]? = some (qO0, .inr (15, [.int 0, .ref qA1, .ref qA2, .ref qA3, .ref qA4, .ref qA5, .ref qA6, .ref qA7, .int 3, .int 0, .int 0, .long 0, .int 23, .int 255, .long 0, .int (-149), .long 0, .int 0])) ∧ u[kA7]? = some (qA7, .inl (g 0, 1600, .inl (upd (upd (upd (fun _ => 0) 0 48) 1 46) 2 101)))) := by
  intro sz
  refine q_into (by decide) (Nat.le_of_ble_eq_true rfl) ?_
  intro p e s m below meth c ls hsz C0 V hl
  have hx := C0.1
  have hb := C0.2.1
  have hl : lv_has ls 2 [(0, .ref qO0), (1, .int 101)] := hl
  have n_A7_O0 := q_df hA7 hO0
  have n_O0_A7 := Ne.symm (q_df hA7 hO0)
  have hF : q_un ws ws [kO0, kA7] := q_u0
  refine lv_aload_n hx hb d_17_16_0 rfl (lv_at hl 0 rfl) ?_
  refine q_get (ci := 15) (j := 7) (v := .ref qA7) C0 V i_FR rfl rfl hO0 (by decide) w_2082 rfl d_17_16_1 ?_
  refine lv_aload_n hx hb d_17_16_4 rfl (lv_at hl 0 rfl) ?_
  refine q_get (ci := 15) (j := 8) (v := .int 2) C0 V i_FR rfl rfl hO0 (by decide) w_2084 rfl d_17_16_5 ?_
  refine lv_iload_n hx hb d_17_16_8 rfl (lv_at hl 1 rfl) ?_
  refine q_iast C0 V hA7 (by unfold vp_in; decide) d_17_16_9 (fun H locs w1 hu2 hA7 V => ?_)
  replace hA7 : w1[kA7]? = some (qA7, .inl (g 0, 1600, .inl (upd (upd (upd (fun _ => 0) 0 48) 1 46) 2 101))) := hA7
  replace hF := q_us hF hu2 (.tail _ (.head _))
  refine lv_aload_n hx hb d_17_16_10 rfl (lv_at hl 0 rfl) ?_
  refine lv_dup hx hb d_17_16_11 rfl ?_
  replace hO0 := (hu2 _ n_O0_A7).trans (hO0)
  refine q_get (ci := 15) (j := 8) (v := .int 2) C0 V i_FR rfl rfl hO0 (by decide) w_2084 rfl d_17_16_12 ?_
  refine lv_iconst (v := 1) hx hb d_17_16_15 (by decide) ?_
  refine lv_iadd hx hb d_17_16_16 ?_
  refine q_ti (v := 3) (by decide) ?_
  refine q_put (ci := 15) (j := 8) (v := .int 3) (ty := .int) C0 V i_FR o_FR n_FR rfl rfl hO0 (by decide) w_2084 rfl rfl rfl rfl (Nat.le_of_ble_eq_true rfl) d_17_16_17 (fun H locs w3 hu4 hO0 V => ?_)
  replace hO0 : w3[kO0]? = some (qO0, .inr (15, [.int 0, .ref qA1, .ref qA2, .ref qA3, .ref qA4, .ref qA5, .ref qA6, .ref qA7, .int 3, .int 0, .int 0, .long 0, .int 23, .int 255, .long 0, .int (-149), .long 0, .int 0])) := hO0
  replace hF := q_us hF hu4 (.head _)
  replace hA7 := (hu4 _ n_A7_O0).trans (hA7)
  exact q_retv C0 V (⟨hF, hO0, hA7⟩) d_17_16_20
set_option maxRecDepth 100000 in
set_option maxHeartbeats 4000000 in
theorem c_FR_add_29 (l : Launch) (D : va_G) (g : Nat → ClassId) (ws : va_W) (kO0 kA7 qO0 qA1 qA2 qA3 qA4 qA5 qA6 qA7 : Nat) (hO0 : ws[kO0]? = some (qO0, .inr (15, [.int 0, .ref qA1, .ref qA2, .ref qA3, .ref qA4, .ref qA5, .ref qA6, .ref qA7, .int 3, .int 0, .int 0, .long 0, .int 23, .int 255, .long 0, .int (-149), .long 0, .int 0]))) (hA7 : ws[kA7]? = some (qA7, .inl (g 0, 1600, .inl (upd (upd (upd (fun _ => 0) 0 48) 1 46) 2 101)))) : q_mV l y_FR_add prog_17_method_16_code 2 1 0 0 D g [.ref qO0, .int 43] ws (fun u => q_un ws u [kO0, kA7] ∧ u[kO0]? = some (qO0, .inr (15, [.int 0, .ref qA1, .ref qA2, .ref qA3, .ref qA4, .ref qA5, .ref qA6, .ref qA7, .int 4, .int 0, .int 0, .long 0, .int 23, .int 255, .long 0, .int (-149), .long 0, .int 0])) ∧ u[kA7]? = some (qA7, .inl (g 0, 1600, .inl (upd (upd (upd (upd (fun _ => 0) 0 48) 1 46) 2 101) 3 43)))) := by
  intro sz
  refine q_into (by decide) (Nat.le_of_ble_eq_true rfl) ?_
  intro p e s m below meth c ls hsz C0 V hl
  have hx := C0.1
  have hb := C0.2.1
  have hl : lv_has ls 2 [(0, .ref qO0), (1, .int 43)] := hl
  have n_A7_O0 := q_df hA7 hO0
  have n_O0_A7 := Ne.symm (q_df hA7 hO0)
  have hF : q_un ws ws [kO0, kA7] := q_u0
  refine lv_aload_n hx hb d_17_16_0 rfl (lv_at hl 0 rfl) ?_
  refine q_get (ci := 15) (j := 7) (v := .ref qA7) C0 V i_FR rfl rfl hO0 (by decide) w_2082 rfl d_17_16_1 ?_
  refine lv_aload_n hx hb d_17_16_4 rfl (lv_at hl 0 rfl) ?_
  refine q_get (ci := 15) (j := 8) (v := .int 3) C0 V i_FR rfl rfl hO0 (by decide) w_2084 rfl d_17_16_5 ?_
  refine lv_iload_n hx hb d_17_16_8 rfl (lv_at hl 1 rfl) ?_
  refine q_iast C0 V hA7 (by unfold vp_in; decide) d_17_16_9 (fun H locs w1 hu2 hA7 V => ?_)
  replace hA7 : w1[kA7]? = some (qA7, .inl (g 0, 1600, .inl (upd (upd (upd (upd (fun _ => 0) 0 48) 1 46) 2 101) 3 43))) := hA7
  replace hF := q_us hF hu2 (.tail _ (.head _))
  refine lv_aload_n hx hb d_17_16_10 rfl (lv_at hl 0 rfl) ?_
  refine lv_dup hx hb d_17_16_11 rfl ?_
  replace hO0 := (hu2 _ n_O0_A7).trans (hO0)
  refine q_get (ci := 15) (j := 8) (v := .int 3) C0 V i_FR rfl rfl hO0 (by decide) w_2084 rfl d_17_16_12 ?_
  refine lv_iconst (v := 1) hx hb d_17_16_15 (by decide) ?_
  refine lv_iadd hx hb d_17_16_16 ?_
  refine q_ti (v := 4) (by decide) ?_
  refine q_put (ci := 15) (j := 8) (v := .int 4) (ty := .int) C0 V i_FR o_FR n_FR rfl rfl hO0 (by decide) w_2084 rfl rfl rfl rfl (Nat.le_of_ble_eq_true rfl) d_17_16_17 (fun H locs w3 hu4 hO0 V => ?_)
  replace hO0 : w3[kO0]? = some (qO0, .inr (15, [.int 0, .ref qA1, .ref qA2, .ref qA3, .ref qA4, .ref qA5, .ref qA6, .ref qA7, .int 4, .int 0, .int 0, .long 0, .int 23, .int 255, .long 0, .int (-149), .long 0, .int 0])) := hO0
  replace hF := q_us hF hu4 (.head _)
  replace hA7 := (hu4 _ n_A7_O0).trans (hA7)
  exact q_retv C0 V (⟨hF, hO0, hA7⟩) d_17_16_20
set_option maxRecDepth 100000 in
set_option maxHeartbeats 4000000 in
theorem c_FR_number_7 (l : Launch) (D : va_G) (g : Nat → ClassId) (ws : va_W) (kO0 kA7 qO0 qA1 qA2 qA3 qA4 qA5 qA6 qA7 : Nat) (y1 : Int32) (f3 : Nat → Int32) (hO0 : ws[kO0]? = some (qO0, .inr (15, [.int 0, .ref qA1, .ref qA2, .ref qA3, .ref qA4, .ref qA5, .ref qA6, .ref qA7, .int y1, .int 0, .int 0, .long 0, .int 23, .int 255, .long 0, .int (-149), .long 0, .int 0]))) (hA7 : ws[kA7]? = some (qA7, .inl (g 0, 1600, .inl f3))) (y1lo : 5 ≤ y1) (y1hi : y1 ≤ 5) : q_mV l y_FR_number prog_17_method_19_code 3 2 0 0 D g [.ref qO0, .int 0] ws (fun u => q_un ws u [kO0, kA7] ∧ u[kO0]? = some (qO0, .inr (15, [.int 0, .ref qA1, .ref qA2, .ref qA3, .ref qA4, .ref qA5, .ref qA6, .ref qA7, .int (y1 + 1), .int 0, .int 0, .long 0, .int 23, .int 255, .long 0, .int (-149), .long 0, .int 0])) ∧ u[kA7]? = some (qA7, .inl (g 0, 1600, .inl (upd f3 y1.toNatClampNeg 48)))) := by
  intro sz
  refine q_into (by decide) (Nat.le_of_ble_eq_true rfl) ?_
  intro p e s m below meth c ls hsz C0 V hl
  have hx := C0.1
  have hb := C0.2.1
  have hl : lv_has ls 3 [(0, .ref qO0), (1, .int 0)] := hl
  have hF : q_un ws ws [kO0, kA7] := q_u0
  refine lv_iconst (v := 1) hx hb d_17_19_0 (by decide) ?_
  refine lv_istore_n (lv' := [(2, .int 1), (0, .ref qO0), (1, .int 0)]) hx hb d_17_19_1 rfl hl (by decide) rfl (fun ls hl => ?_)
  refine lv_iload_n hx hb d_17_19_2 rfl (lv_at hl 2 rfl) ?_
  refine lv_iload_n hx hb d_17_19_3 rfl (lv_at hl 0 rfl) ?_
  refine lv_idiv hx hb d_17_19_4 (by decide) ?_
  refine q_ti (v := 0) (by decide) ?_
  refine lv_bipush (v := 9) hx hb d_17_19_5 (by decide) ?_
  refine lv_icmp_le (tgt := 18) hx hb d_17_19_7 (by decide) (fun c1 => ?_) (fun c1 => absurd (by decide) c1)
  refine lv_iload_n hx hb d_17_19_18 rfl (lv_at hl 0 rfl) ?_
  refine lv_if_le (tgt := 43) hx hb d_17_19_19 (by decide) (fun c2 => absurd c2 (by decide)) (fun c2 => ?_)
  refine lv_aload_n hx hb d_17_19_22 rfl (lv_at hl 1 rfl) ?_
  refine lv_bipush (v := 48) hx hb d_17_19_23 (by decide) ?_
  refine lv_iload_n hx hb d_17_19_25 rfl (lv_at hl 2 rfl) ?_
  refine lv_iload_n hx hb d_17_19_26 rfl (lv_at hl 0 rfl) ?_
  refine lv_idiv hx hb d_17_19_27 (by decide) ?_
  refine q_ti (v := 0) (by decide) ?_
  refine lv_bipush (v := 10) hx hb d_17_19_28 (by decide) ?_
  refine lv_irem hx hb d_17_19_30 (by decide) ?_
  refine q_ti (v := 0) (by decide) ?_
  refine lv_iadd hx hb d_17_19_31 ?_
  refine q_ti (v := 48) (by decide) ?_
  refine q_gov V (q_runV (As := [.int 48]) (rest := []) (d := 1) (mc := 0) (ms := 0) (ci := 15) C0 V rfl LV_FR_110 (c_FR_add_6 l D g ws kO0 kA7 qO0 qA1 qA2 qA3 qA4 qA5 qA6 qA7 y1 f3 hO0 hA7 (q_Ile (x := 2) (y := y1.toInt) (by decide) rfl (by have t1 : 5 ≤ y1.toInt := q_leI y1lo; have t2 : y1.toInt ≤ 5 := q_leI y1hi; omega)) (q_Ile (x := y1.toInt) (y := 1076) rfl (by decide) (by have t1 : 5 ≤ y1.toInt := q_leI y1lo; have t2 : y1.toInt ≤ 5 := q_leI y1hi; omega)) _) rfl rfl hO0 rfl hl.1 rfl (Nat.le_of_ble_eq_true rfl) ⟨by decide, by decide⟩ ⟨Nat.le_of_ble_eq_true rfl, Nat.le_of_ble_eq_true rfl⟩ d_17_19_32) (fun u4 H locs hp3 V => ?_)
  obtain ⟨hg5, hO0, hA7⟩ := hp3
  replace hF := q_uc hF hg5 (q_sc (.head _) (q_sc (.tail _ (.head _)) (fun _ h => absurd h List.not_mem_nil)))
  refine lv_iload_n hx hb d_17_19_35 rfl (lv_at hl 0 rfl) ?_
  refine lv_bipush (v := 10) hx hb d_17_19_36 (by decide) ?_
  refine lv_idiv hx hb d_17_19_38 (by decide) ?_
  refine q_ti (v := 0) (by decide) ?_
  refine lv_istore_n (lv' := [(2, .int 0), (0, .ref qO0), (1, .int 0)]) hx hb d_17_19_39 rfl hl (by decide) rfl (fun ls hl => ?_)
  refine lv_goto (tgt := 18) hx hb d_17_19_40 (by decide) ?_
  refine lv_iload_n hx hb d_17_19_18 rfl (lv_at hl 0 rfl) ?_
  refine lv_if_le (tgt := 43) hx hb d_17_19_19 (by decide) (fun c6 => ?_) (fun c6 => absurd (by decide) c6)
  exact q_retv C0 V (⟨hF, hO0, hA7⟩) d_17_19_43
set_option maxRecDepth 100000 in
set_option maxHeartbeats 4000000 in
theorem c_FR_add_30 (l : Launch) (D : va_G) (g : Nat → ClassId) (ws : va_W) (kO0 kA7 qO0 qA1 qA2 qA3 qA4 qA5 qA6 qA7 : Nat) (y1 : Int32) (hO0 : ws[kO0]? = some (qO0, .inr (15, [.int 0, .ref qA1, .ref qA2, .ref qA3, .ref qA4, .ref qA5, .ref qA6, .ref qA7, .int y1, .int 0, .int 0, .long 0, .int 23, .int 255, .long 0, .int (-149), .long 0, .int 0]))) (hA7 : ws[kA7]? = some (qA7, .inl (g 0, 1600, .inl (upd (upd (fun _ => 0) 0 48) 1 46)))) (y1lo : 2 ≤ y1) (y1hi : y1 ≤ 801) : q_mV l y_FR_add prog_17_method_16_code 2 1 0 0 D g [.ref qO0, .int 101] ws (fun u => q_un ws u [kO0, kA7] ∧ u[kO0]? = some (qO0, .inr (15, [.int 0, .ref qA1, .ref qA2, .ref qA3, .ref qA4, .ref qA5, .ref qA6, .ref qA7, .int (y1 + 1), .int 0, .int 0, .long 0, .int 23, .int 255, .long 0, .int (-149), .long 0, .int 0])) ∧ u[kA7]? = some (qA7, .inl (g 0, 1600, .inl (upd (upd (upd (fun _ => 0) 0 48) 1 46) y1.toNatClampNeg 101)))) := by
  intro sz
  refine q_into (by decide) (Nat.le_of_ble_eq_true rfl) ?_
  intro p e s m below meth c ls hsz C0 V hl
  have hx := C0.1
  have hb := C0.2.1
  have hl : lv_has ls 2 [(0, .ref qO0), (1, .int 101)] := hl
  have n_A7_O0 := q_df hA7 hO0
  have n_O0_A7 := Ne.symm (q_df hA7 hO0)
  have hF : q_un ws ws [kO0, kA7] := q_u0
  refine lv_aload_n hx hb d_17_16_0 rfl (lv_at hl 0 rfl) ?_
  refine q_get (ci := 15) (j := 7) (v := .ref qA7) C0 V i_FR rfl rfl hO0 (by decide) w_2082 rfl d_17_16_1 ?_
  refine lv_aload_n hx hb d_17_16_4 rfl (lv_at hl 0 rfl) ?_
  refine q_get (ci := 15) (j := 8) (v := .int y1) C0 V i_FR rfl rfl hO0 (by decide) w_2084 rfl d_17_16_5 ?_
  refine lv_iload_n hx hb d_17_16_8 rfl (lv_at hl 1 rfl) ?_
  refine q_iast C0 V hA7 (q_ix (x := y1.toInt) rfl (by have t1 : 2 ≤ y1.toInt := q_leI y1lo; have t2 : y1.toInt ≤ 801 := q_leI y1hi; omega) (by have t1 : 2 ≤ y1.toInt := q_leI y1lo; have t2 : y1.toInt ≤ 801 := q_leI y1hi; omega)) d_17_16_9 (fun H locs w1 hu2 hA7 V => ?_)
  replace hA7 : w1[kA7]? = some (qA7, .inl (g 0, 1600, .inl (upd (upd (upd (fun _ => 0) 0 48) 1 46) y1.toNatClampNeg 101))) := hA7
  replace hF := q_us hF hu2 (.tail _ (.head _))
  refine lv_aload_n hx hb d_17_16_10 rfl (lv_at hl 0 rfl) ?_
  refine lv_dup hx hb d_17_16_11 rfl ?_
  replace hO0 := (hu2 _ n_O0_A7).trans (hO0)
  refine q_get (ci := 15) (j := 8) (v := .int y1) C0 V i_FR rfl rfl hO0 (by decide) w_2084 rfl d_17_16_12 ?_
  refine lv_iconst (v := 1) hx hb d_17_16_15 (by decide) ?_
  refine lv_iadd hx hb d_17_16_16 ?_
  refine q_put (ci := 15) (j := 8) (v := .int (y1 + 1)) (ty := .int) C0 V i_FR o_FR n_FR rfl rfl hO0 (by decide) w_2084 rfl rfl rfl rfl (Nat.le_of_ble_eq_true rfl) d_17_16_17 (fun H locs w3 hu4 hO0 V => ?_)
  replace hO0 : w3[kO0]? = some (qO0, .inr (15, [.int 0, .ref qA1, .ref qA2, .ref qA3, .ref qA4, .ref qA5, .ref qA6, .ref qA7, .int (y1 + 1), .int 0, .int 0, .long 0, .int 23, .int 255, .long 0, .int (-149), .long 0, .int 0])) := hO0
  replace hF := q_us hF hu4 (.head _)
  replace hA7 := (hu4 _ n_A7_O0).trans (hA7)
  exact q_retv C0 V (⟨hF, hO0, hA7⟩) d_17_16_20
set_option maxRecDepth 100000 in
set_option maxHeartbeats 4000000 in
theorem c_FR_add_31 (l : Launch) (D : va_G) (g : Nat → ClassId) (ws : va_W) (kO0 kA7 qO0 qA1 qA2 qA3 qA4 qA5 qA6 qA7 : Nat) (y1 : Int32) (f3 : Nat → Int32) (hO0 : ws[kO0]? = some (qO0, .inr (15, [.int 0, .ref qA1, .ref qA2, .ref qA3, .ref qA4, .ref qA5, .ref qA6, .ref qA7, .int y1, .int 0, .int 0, .long 0, .int 23, .int 255, .long 0, .int (-149), .long 0, .int 0]))) (hA7 : ws[kA7]? = some (qA7, .inl (g 0, 1600, .inl f3))) (y1lo : 3 ≤ y1) (y1hi : y1 ≤ 802) : q_mV l y_FR_add prog_17_method_16_code 2 1 0 0 D g [.ref qO0, .int 43] ws (fun u => q_un ws u [kO0, kA7] ∧ u[kO0]? = some (qO0, .inr (15, [.int 0, .ref qA1, .ref qA2, .ref qA3, .ref qA4, .ref qA5, .ref qA6, .ref qA7, .int (y1 + 1), .int 0, .int 0, .long 0, .int 23, .int 255, .long 0, .int (-149), .long 0, .int 0])) ∧ u[kA7]? = some (qA7, .inl (g 0, 1600, .inl (upd f3 y1.toNatClampNeg 43)))) := by
  intro sz
  refine q_into (by decide) (Nat.le_of_ble_eq_true rfl) ?_
  intro p e s m below meth c ls hsz C0 V hl
  have hx := C0.1
  have hb := C0.2.1
  have hl : lv_has ls 2 [(0, .ref qO0), (1, .int 43)] := hl
  have n_A7_O0 := q_df hA7 hO0
  have n_O0_A7 := Ne.symm (q_df hA7 hO0)
  have hF : q_un ws ws [kO0, kA7] := q_u0
  refine lv_aload_n hx hb d_17_16_0 rfl (lv_at hl 0 rfl) ?_
  refine q_get (ci := 15) (j := 7) (v := .ref qA7) C0 V i_FR rfl rfl hO0 (by decide) w_2082 rfl d_17_16_1 ?_
  refine lv_aload_n hx hb d_17_16_4 rfl (lv_at hl 0 rfl) ?_
  refine q_get (ci := 15) (j := 8) (v := .int y1) C0 V i_FR rfl rfl hO0 (by decide) w_2084 rfl d_17_16_5 ?_
  refine lv_iload_n hx hb d_17_16_8 rfl (lv_at hl 1 rfl) ?_
  refine q_iast C0 V hA7 (q_ix (x := y1.toInt) rfl (by have t1 : 3 ≤ y1.toInt := q_leI y1lo; have t2 : y1.toInt ≤ 802 := q_leI y1hi; omega) (by have t1 : 3 ≤ y1.toInt := q_leI y1lo; have t2 : y1.toInt ≤ 802 := q_leI y1hi; omega)) d_17_16_9 (fun H locs w1 hu2 hA7 V => ?_)
  replace hA7 : w1[kA7]? = some (qA7, .inl (g 0, 1600, .inl (upd f3 y1.toNatClampNeg 43))) := hA7
  replace hF := q_us hF hu2 (.tail _ (.head _))
  refine lv_aload_n hx hb d_17_16_10 rfl (lv_at hl 0 rfl) ?_
  refine lv_dup hx hb d_17_16_11 rfl ?_
  replace hO0 := (hu2 _ n_O0_A7).trans (hO0)
  refine q_get (ci := 15) (j := 8) (v := .int y1) C0 V i_FR rfl rfl hO0 (by decide) w_2084 rfl d_17_16_12 ?_
  refine lv_iconst (v := 1) hx hb d_17_16_15 (by decide) ?_
  refine lv_iadd hx hb d_17_16_16 ?_
  refine q_put (ci := 15) (j := 8) (v := .int (y1 + 1)) (ty := .int) C0 V i_FR o_FR n_FR rfl rfl hO0 (by decide) w_2084 rfl rfl rfl rfl (Nat.le_of_ble_eq_true rfl) d_17_16_17 (fun H locs w3 hu4 hO0 V => ?_)
  replace hO0 : w3[kO0]? = some (qO0, .inr (15, [.int 0, .ref qA1, .ref qA2, .ref qA3, .ref qA4, .ref qA5, .ref qA6, .ref qA7, .int (y1 + 1), .int 0, .int 0, .long 0, .int 23, .int 255, .long 0, .int (-149), .long 0, .int 0])) := hO0
  replace hF := q_us hF hu4 (.head _)
  replace hA7 := (hu4 _ n_A7_O0).trans (hA7)
  exact q_retv C0 V (⟨hF, hO0, hA7⟩) d_17_16_20
set_option maxRecDepth 100000 in
set_option maxHeartbeats 4000000 in
theorem c_FR_number_8 (l : Launch) (D : va_G) (g : Nat → ClassId) (ws : va_W) (kO0 kA7 qO0 qA1 qA2 qA3 qA4 qA5 qA6 qA7 : Nat) (y1 : Int32) (f3 : Nat → Int32) (hO0 : ws[kO0]? = some (qO0, .inr (15, [.int 0, .ref qA1, .ref qA2, .ref qA3, .ref qA4, .ref qA5, .ref qA6, .ref qA7, .int y1, .int 0, .int 0, .long 0, .int 23, .int 255, .long 0, .int (-149), .long 0, .int 0]))) (hA7 : ws[kA7]? = some (qA7, .inl (g 0, 1600, .inl f3))) (y1lo : 5 ≤ y1) (y1hi : y1 ≤ 804) : q_mV l y_FR_number prog_17_method_19_code 3 2 0 0 D g [.ref qO0, .int 0] ws (fun u => q_un ws u [kO0, kA7] ∧ u[kO0]? = some (qO0, .inr (15, [.int 0, .ref qA1, .ref qA2, .ref qA3, .ref qA4, .ref qA5, .ref qA6, .ref qA7, .int (y1 + 1), .int 0, .int 0, .long 0, .int 23, .int 255, .long 0, .int (-149), .long 0, .int 0])) ∧ u[kA7]? = some (qA7, .inl (g 0, 1600, .inl (upd f3 y1.toNatClampNeg 48)))) := by
  intro sz
  refine q_into (by decide) (Nat.le_of_ble_eq_true rfl) ?_
  intro p e s m below meth c ls hsz C0 V hl
  have hx := C0.1
  have hb := C0.2.1
  have hl : lv_has ls 3 [(0, .ref qO0), (1, .int 0)] := hl
  have hF : q_un ws ws [kO0, kA7] := q_u0
  refine lv_iconst (v := 1) hx hb d_17_19_0 (by decide) ?_
  refine lv_istore_n (lv' := [(2, .int 1), (0, .ref qO0), (1, .int 0)]) hx hb d_17_19_1 rfl hl (by decide) rfl (fun ls hl => ?_)
  refine lv_iload_n hx hb d_17_19_2 rfl (lv_at hl 2 rfl) ?_
  refine lv_iload_n hx hb d_17_19_3 rfl (lv_at hl 0 rfl) ?_
  refine lv_idiv hx hb d_17_19_4 (by decide) ?_
  refine q_ti (v := 0) (by decide) ?_
  refine lv_bipush (v := 9) hx hb d_17_19_5 (by decide) ?_
  refine lv_icmp_le (tgt := 18) hx hb d_17_19_7 (by decide) (fun c1 => ?_) (fun c1 => absurd (by decide) c1)
  refine lv_iload_n hx hb d_17_19_18 rfl (lv_at hl 0 rfl) ?_
  refine lv_if_le (tgt := 43) hx hb d_17_19_19 (by decide) (fun c2 => absurd c2 (by decide)) (fun c2 => ?_)
  refine lv_aload_n hx hb d_17_19_22 rfl (lv_at hl 1 rfl) ?_
  refine lv_bipush (v := 48) hx hb d_17_19_23 (by decide) ?_
  refine lv_iload_n hx hb d_17_19_25 rfl (lv_at hl 2 rfl) ?_
  refine lv_iload_n hx hb d_17_19_26 rfl (lv_at hl 0 rfl) ?_
  refine lv_idiv hx hb d_17_19_27 (by decide) ?_
  refine q_ti (v := 0) (by decide) ?_
  refine lv_bipush (v := 10) hx hb d_17_19_28 (by decide) ?_
  refine lv_irem hx hb d_17_19_30 (by decide) ?_
  refine q_ti (v := 0) (by decide) ?_
  refine lv_iadd hx hb d_17_19_31 ?_
  refine q_ti (v := 48) (by decide) ?_
  refine q_gov V (q_runV (As := [.int 48]) (rest := []) (d := 1) (mc := 0) (ms := 0) (ci := 15) C0 V rfl LV_FR_110 (c_FR_add_6 l D g ws kO0 kA7 qO0 qA1 qA2 qA3 qA4 qA5 qA6 qA7 y1 f3 hO0 hA7 (q_Ile (x := 2) (y := y1.toInt) (by decide) rfl (by have t1 : 5 ≤ y1.toInt := q_leI y1lo; have t2 : y1.toInt ≤ 804 := q_leI y1hi; omega)) (q_Ile (x := y1.toInt) (y := 1076) rfl (by decide) (by have t1 : 5 ≤ y1.toInt := q_leI y1lo; have t2 : y1.toInt ≤ 804 := q_leI y1hi; omega)) _) rfl rfl hO0 rfl hl.1 rfl (Nat.le_of_ble_eq_true rfl) ⟨by decide, by decide⟩ ⟨Nat.le_of_ble_eq_true rfl, Nat.le_of_ble_eq_true rfl⟩ d_17_19_32) (fun u4 H locs hp3 V => ?_)
  obtain ⟨hg5, hO0, hA7⟩ := hp3
  replace hF := q_uc hF hg5 (q_sc (.head _) (q_sc (.tail _ (.head _)) (fun _ h => absurd h List.not_mem_nil)))
  refine lv_iload_n hx hb d_17_19_35 rfl (lv_at hl 0 rfl) ?_
  refine lv_bipush (v := 10) hx hb d_17_19_36 (by decide) ?_
  refine lv_idiv hx hb d_17_19_38 (by decide) ?_
  refine q_ti (v := 0) (by decide) ?_
  refine lv_istore_n (lv' := [(2, .int 0), (0, .ref qO0), (1, .int 0)]) hx hb d_17_19_39 rfl hl (by decide) rfl (fun ls hl => ?_)
  refine lv_goto (tgt := 18) hx hb d_17_19_40 (by decide) ?_
  refine lv_iload_n hx hb d_17_19_18 rfl (lv_at hl 0 rfl) ?_
  refine lv_if_le (tgt := 43) hx hb d_17_19_19 (by decide) (fun c6 => ?_) (fun c6 => absurd (by decide) c6)
  exact q_retv C0 V (⟨hF, hO0, hA7⟩) d_17_19_43
set_option maxRecDepth 100000 in
set_option maxHeartbeats 4000000 in
theorem c_FR_add_32 (l : Launch) (D : va_G) (g : Nat → ClassId) (ws : va_W) (kO0 kA7 qO0 qA1 qA2 qA3 qA4 qA5 qA6 qA7 : Nat) (y1 : Int32) (f3 : Nat → Int32) (hO0 : ws[kO0]? = some (qO0, .inr (15, [.int 0, .ref qA1, .ref qA2, .ref qA3, .ref qA4, .ref qA5, .ref qA6, .ref qA7, .int y1, .int 0, .int 0, .long 0, .int 23, .int 255, .long 0, .int (-149), .long 0, .int 0]))) (hA7 : ws[kA7]? = some (qA7, .inl (g 0, 1600, .inl f3))) (y1lo : 2 ≤ y1) (y1hi : y1 ≤ 801) : q_mV l y_FR_add prog_17_method_16_code 2 1 0 0 D g [.ref qO0, .int 101] ws (fun u => q_un ws u [kO0, kA7] ∧ u[kO0]? = some (qO0, .inr (15, [.int 0, .ref qA1, .ref qA2, .ref qA3, .ref qA4, .ref qA5, .ref qA6, .ref qA7, .int (y1 + 1), .int 0, .int 0, .long 0, .int 23, .int 255, .long 0, .int (-149), .long 0, .int 0])) ∧ u[kA7]? = some (qA7, .inl (g 0, 1600, .inl (upd f3 y1.toNatClampNeg 101)))) := by
  intro sz
  refine q_into (by decide) (Nat.le_of_ble_eq_true rfl) ?_
  intro p e s m below meth c ls hsz C0 V hl
  have hx := C0.1
  have hb := C0.2.1
  have hl : lv_has ls 2 [(0, .ref qO0), (1, .int 101)] := hl
  have n_A7_O0 := q_df hA7 hO0
  have n_O0_A7 := Ne.symm (q_df hA7 hO0)
  have hF : q_un ws ws [kO0, kA7] := q_u0
  refine lv_aload_n hx hb d_17_16_0 rfl (lv_at hl 0 rfl) ?_
  refine q_get (ci := 15) (j := 7) (v := .ref qA7) C0 V i_FR rfl rfl hO0 (by decide) w_2082 rfl d_17_16_1 ?_
  refine lv_aload_n hx hb d_17_16_4 rfl (lv_at hl 0 rfl) ?_
  refine q_get (ci := 15) (j := 8) (v := .int y1) C0 V i_FR rfl rfl hO0 (by decide) w_2084 rfl d_17_16_5 ?_
  refine lv_iload_n hx hb d_17_16_8 rfl (lv_at hl 1 rfl) ?_
  refine q_iast C0 V hA7 (q_ix (x := y1.toInt) rfl (by have t1 : 2 ≤ y1.toInt := q_leI y1lo; have t2 : y1.toInt ≤ 801 := q_leI y1hi; omega) (by have t1 : 2 ≤ y1.toInt := q_leI y1lo; have t2 : y1.toInt ≤ 801 := q_leI y1hi; omega)) d_17_16_9 (fun H locs w1 hu2 hA7 V => ?_)
  replace hA7 : w1[kA7]? = some (qA7, .inl (g 0, 1600, .inl (upd f3 y1.toNatClampNeg 101))) := hA7
  replace hF := q_us hF hu2 (.tail _ (.head _))
  refine lv_aload_n hx hb d_17_16_10 rfl (lv_at hl 0 rfl) ?_
  refine lv_dup hx hb d_17_16_11 rfl ?_
  replace hO0 := (hu2 _ n_O0_A7).trans (hO0)
  refine q_get (ci := 15) (j := 8) (v := .int y1) C0 V i_FR rfl rfl hO0 (by decide) w_2084 rfl d_17_16_12 ?_
  refine lv_iconst (v := 1) hx hb d_17_16_15 (by decide) ?_
  refine lv_iadd hx hb d_17_16_16 ?_
  refine q_put (ci := 15) (j := 8) (v := .int (y1 + 1)) (ty := .int) C0 V i_FR o_FR n_FR rfl rfl hO0 (by decide) w_2084 rfl rfl rfl rfl (Nat.le_of_ble_eq_true rfl) d_17_16_17 (fun H locs w3 hu4 hO0 V => ?_)
  replace hO0 : w3[kO0]? = some (qO0, .inr (15, [.int 0, .ref qA1, .ref qA2, .ref qA3, .ref qA4, .ref qA5, .ref qA6, .ref qA7, .int (y1 + 1), .int 0, .int 0, .long 0, .int 23, .int 255, .long 0, .int (-149), .long 0, .int 0])) := hO0
  replace hF := q_us hF hu4 (.head _)
  replace hA7 := (hu4 _ n_A7_O0).trans (hA7)
  exact q_retv C0 V (⟨hF, hO0, hA7⟩) d_17_16_20
theorem d_17_30_6 : decode prog_17_method_30_code 6 = .ok (.lload_n 1, 1) := by decide +kernel
theorem d_17_30_7 : decode prog_17_method_30_code 7 = .ok (.iload_n 3, 1) := by decide +kernel
theorem d_17_30_8 : decode prog_17_method_30_code 8 = .ok (.invokestatic 122, 3) := by decide +kernel
theorem d_17_30_11 : decode prog_17_method_30_code 11 = .ok (.ifCond .ne 7, 3) := by decide +kernel
theorem d_17_30_14 : decode prog_17_method_30_code 14 = .ok (.iconst 1, 1) := by decide +kernel
theorem d_17_30_15 : decode prog_17_method_30_code 15 = .ok (.goto 4, 3) := by decide +kernel
set_option maxRecDepth 100000 in
set_option maxHeartbeats 4000000 in
theorem c_FR_scientific_2 (l : Launch) (D : va_G) (g : Nat → ClassId) (ws : va_W) (kO0 kA1 kA2 kA3 kA6 kA7 qO0 qA1 qA2 qA3 qA4 qA5 qA6 qA7 : Nat) (x1 : Int32) (x2 : Int32) (hO0 : ws[kO0]? = some (qO0, .inr (15, [.int 0, .ref qA1, .ref qA2, .ref qA3, .ref qA4, .ref qA5, .ref qA6, .ref qA7, .int 0, .int 0, .int 0, .long 0, .int 0, .int 0, .long 0, .int 0, .long 0, .int 0]))) (hA1 : ws[kA1]? = some (qA1, .inl (g 0, 156, .inl (fun _ => 0)))) (hA2 : ws[kA2]? = some (qA2, .inl (g 0, 156, .inl (fun _ => 0)))) (hA3 : ws[kA3]? = some (qA3, .inl (g 0, 1404, .inl (fun _ => 0)))) (hA6 : ws[kA6]? = some (qA6, .inl (g 0, 1404, .inl (fun _ => 0)))) (hA7 : ws[kA7]? = some (qA7, .inl (g 0, 1600, .inl (fun _ => 0)))) (n_A1_A2 : kA1 ≠ kA2) (n_A1_A3 : kA1 ≠ kA3) (n_A1_A6 : kA1 ≠ kA6) (n_A1_A7 : kA1 ≠ kA7) (n_A2_A6 : kA2 ≠ kA6) (n_A2_A7 : kA2 ≠ kA7) (n_A3_A2 : kA3 ≠ kA2) (n_A3_A6 : kA3 ≠ kA6) (n_A3_A7 : kA3 ≠ kA7) (n_A6_A7 : kA6 ≠ kA7) : q_mI l y_FR_scientific prog_17_method_30_code 9 (.int) 3 0 0 D g [.ref qO0, .long 0, .int 1, .int x1, .int x2] ws (fun r u => (x1 < 1 ∧ 0 = r ∧ q_un ws u [kO0, kA1, kA2, kA3, kA6, kA7] ∧ u[kO0]? = some (qO0, .inr (15, [.int 1, .ref qA1, .ref qA2, .ref qA3, .ref qA4, .ref qA5, .ref qA6, .ref qA7, .int 0, .int 0, .int 0, .long 0, .int 23, .int 255, .long 0, .int (-149), .long 0, .int 0])) ∧ u[kA1]? = some (qA1, .inl (g 0, 156, .inl (fun _ => 0))) ∧ u[kA2]? = some (qA2, .inl (g 0, 156, .inl (fun _ => 0))) ∧ u[kA3]? = some (qA3, .inl (g 0, 1404, .inl (fun _ => 0))) ∧ u[kA6]? = some (qA6, .inl (g 0, 1404, .inl (fun _ => 0))) ∧ u[kA7]? = some (qA7, .inl (g 0, 1600, .inl (fun _ => 0)))) ∨ (¬ x1 < 1 ∧ 800 < x1 ∧ 0 = r ∧ q_un ws u [kO0, kA1, kA2, kA3, kA6, kA7] ∧ u[kO0]? = some (qO0, .inr (15, [.int 1, .ref qA1, .ref qA2, .ref qA3, .ref qA4, .ref qA5, .ref qA6, .ref qA7, .int 0, .int 0, .int 0, .long 0, .int 23, .int 255, .long 0, .int (-149), .long 0, .int 0])) ∧ u[kA1]? = some (qA1, .inl (g 0, 156, .inl (fun _ => 0))) ∧ u[kA2]? = some (qA2, .inl (g 0, 156, .inl (fun _ => 0))) ∧ u[kA3]? = some (qA3, .inl (g 0, 1404, .inl (fun _ => 0))) ∧ u[kA6]? = some (qA6, .inl (g 0, 1404, .inl (fun _ => 0))) ∧ u[kA7]? = some (qA7, .inl (g 0, 1600, .inl (fun _ => 0)))) ∨ (¬ x1 < 1 ∧ ¬ 800 < x1 ∧ x2 < 0 ∧ 0 = r ∧ q_un ws u [kO0, kA1, kA2, kA3, kA6, kA7] ∧ u[kO0]? = some (qO0, .inr (15, [.int 1, .ref qA1, .ref qA2, .ref qA3, .ref qA4, .ref qA5, .ref qA6, .ref qA7, .int 0, .int 0, .int 0, .long 0, .int 23, .int 255, .long 0, .int (-149), .long 0, .int 0])) ∧ u[kA1]? = some (qA1, .inl (g 0, 156, .inl (fun _ => 0))) ∧ u[kA2]? = some (qA2, .inl (g 0, 156, .inl (fun _ => 0))) ∧ u[kA3]? = some (qA3, .inl (g 0, 1404, .inl (fun _ => 0))) ∧ u[kA6]? = some (qA6, .inl (g 0, 1404, .inl (fun _ => 0))) ∧ u[kA7]? = some (qA7, .inl (g 0, 1600, .inl (fun _ => 0)))) ∨ (∃ (ex0 : Nat → Int32), ¬ x1 < 1 ∧ ¬ 800 < x1 ∧ ¬ x2 < 0 ∧ x2 ≤ 3 ∧ x1 ≤ 1 ∧ (3 + 1) + 1 = r ∧ q_un ws u [kO0, kA1, kA2, kA3, kA6, kA7] ∧ u[kO0]? = some (qO0, .inr (15, [.int 0, .ref qA1, .ref qA2, .ref qA3, .ref qA4, .ref qA5, .ref qA6, .ref qA7, .int ((3 + 1) + 1), .int 0, .int 0, .long 0, .int 23, .int 255, .long 0, .int (-149), .long 0, .int 0])) ∧ u[kA1]? = some (qA1, .inl (g 0, 156, .inl ex0)) ∧ u[kA2]? = some (qA2, .inl (g 0, 156, .inl (fun _ => 0))) ∧ u[kA3]? = some (qA3, .inl (g 0, 1404, .inl (fun _ => 0))) ∧ u[kA6]? = some (qA6, .inl (g 0, 1404, .inl (fun _ => 0))) ∧ u[kA7]? = some (qA7, .inl (g 0, 1600, .inl (upd (upd (upd (upd (upd (fun _ => 0) 0 48) 1 101) 2 43) 3.toNatClampNeg 48) (3 + 1).toNatClampNeg 48)))) ∨ (∃ (ex0 : Int32) (ex1 : Nat → Int32) (ex2 : Nat → Int32), ¬ x1 < 1 ∧ ¬ 800 < x1 ∧ ¬ x2 < 0 ∧ x2 ≤ 3 ∧ ¬ x1 ≤ 1 ∧ ((x1.toInt < 1 ∧ ex0.toInt = 2) ∨ (1 ≤ x1.toInt ∧ ex0.toInt = 2 + 1 * (x1.toInt - 1))) ∧ 2 ≤ ex0 ∧ ex0 ≤ 801 ∧ (((ex0 + 1) + 1) + 1) + 1 = r ∧ q_un ws u [kO0, kA1, kA2, kA3, kA6, kA7] ∧ u[kO0]? = some (qO0, .inr (15, [.int 0, .ref qA1, .ref qA2, .ref qA3, .ref qA4, .ref qA5, .ref qA6, .ref qA7, .int ((((ex0 + 1) + 1) + 1) + 1), .int 0, .int 0, .long 0, .int 23, .int 255, .long 0, .int (-149), .long 0, .int 0])) ∧ u[kA1]? = some (qA1, .inl (g 0, 156, .inl ex1)) ∧ u[kA2]? = some (qA2, .inl (g 0, 156, .inl (fun _ => 0))) ∧ u[kA3]? = some (qA3, .inl (g 0, 1404, .inl (fun _ => 0))) ∧ u[kA6]? = some (qA6, .inl (g 0, 1404, .inl (fun _ => 0))) ∧ u[kA7]? = some (qA7, .inl (g 0, 1600, .inl (upd (upd (upd (upd ex2 ex0.toNatClampNeg 101) (ex0 + 1).toNatClampNeg 43) ((ex0 + 1) + 1).toNatClampNeg 48) (((ex0 + 1) + 1) + 1).toNatClampNeg 48)))) ∨ (¬ x1 < 1 ∧ ¬ 800 < x1 ∧ ¬ x2 < 0 ∧ ¬ x2 ≤ 3 ∧ 0 = r ∧ q_un ws u [kO0, kA1, kA2, kA3, kA6, kA7] ∧ u[kO0]? = some (qO0, .inr (15, [.int 1, .ref qA1, .ref qA2, .ref qA3, .ref qA4, .ref qA5, .ref qA6, .ref qA7, .int 0, .int 0, .int 0, .long 0, .int 23, .int 255, .long 0, .int (-149), .long 0, .int 0])) ∧ u[kA1]? = some (qA1, .inl (g 0, 156, .inl (fun _ => 0))) ∧ u[kA2]? = some (qA2, .inl (g 0, 156, .inl (fun _ => 0))) ∧ u[kA3]? = some (qA3, .inl (g 0, 1404, .inl (fun _ => 0))) ∧ u[kA6]? = some (qA6, .inl (g 0, 1404, .inl (fun _ => 0))) ∧ u[kA7]? = some (qA7, .inl (g 0, 1600, .inl (fun _ => 0))))) := by
  intro sz
  refine q_into (by decide) (Nat.le_of_ble_eq_true rfl) ?_
  intro p e s m below meth c ls hsz C0 V hl
  have hx := C0.1
  have hb := C0.2.1
  have hl : lv_has ls 9 [(0, .ref qO0), (1, .long 0), (3, .int 1), (4, .int x1), (5, .int x2)] := hl
  have n_A1_O0 := q_df hA1 hO0
  have n_A2_O0 := q_df hA2 hO0
  have n_A3_O0 := q_df hA3 hO0
  have n_A6_A1 := Ne.symm n_A1_A6
  have n_A6_A2 := Ne.symm n_A2_A6
  have n_A6_A3 := Ne.symm n_A3_A6
  have n_A6_O0 := q_df hA6 hO0
  have n_A7_A1 := Ne.symm n_A1_A7
  have n_A7_A2 := Ne.symm n_A2_A7
  have n_A7_A3 := Ne.symm n_A3_A7
  have n_A7_A6 := Ne.symm n_A6_A7
  have n_A7_O0 := q_df hA7 hO0
  have n_O0_A1 := Ne.symm (q_df hA1 hO0)
  have n_O0_A2 := Ne.symm (q_df hA2 hO0)
  have n_O0_A3 := Ne.symm (q_df hA3 hO0)
  have n_O0_A6 := Ne.symm (q_df hA6 hO0)
  have hF : q_un ws ws [kO0, kA1, kA2, kA3, kA6, kA7] := q_u0
  refine lv_aload_n hx hb d_17_30_0 rfl (lv_at hl 0 rfl) ?_
  refine lv_lload_n hx hb d_17_30_1 rfl (lv_at hl 1 rfl) ?_
  refine lv_iload_n hx hb d_17_30_2 rfl (lv_at hl 2 rfl) ?_
  refine lv_if_eq (tgt := 18) hx hb d_17_30_3 (by decide) (fun c1 => absurd c1 (by decide)) (fun c1 => ?_)
  refine lv_lload_n hx hb d_17_30_6 rfl (lv_at hl 1 rfl) ?_
  refine lv_iload_n hx hb d_17_30_7 rfl (lv_at hl 2 rfl) ?_
  refine q_goi V (q_runS (As := [.long 0, .int 1]) (rest := [.long 0, .ref qO0]) (d := 1) (mc := 0) (ms := 0) C0 V rfl LS_FR_122 (c_FR_isWrong_2 l D g ws _) rfl hl.1 rfl (Nat.le_of_ble_eq_true rfl) ⟨by decide, by decide⟩ ⟨Nat.le_of_ble_eq_true rfl, Nat.le_of_ble_eq_true rfl⟩ d_17_30_8) (fun v4 u3 H locs hp2 V => ?_)
  obtain ⟨rfl, rfl⟩ := hp2
  refine lv_if_ne (tgt := 18) hx hb d_17_30_11 (by decide) (fun c6 => absurd (by decide) c6) (fun c6 => ?_)
  refine lv_iconst (v := 1) hx hb d_17_30_14 (by decide) ?_
  refine lv_goto (tgt := 19) hx hb d_17_30_15 (by decide) ?_
  refine q_gov V (q_runV (As := [.long 0, .int 1]) (rest := []) (d := 1) (mc := 0) (ms := 0) (ci := 15) C0 V rfl LV_FR_126 (c_FR_open_2 l D g ws kO0 qO0 qA1 qA2 qA3 qA4 qA5 qA6 qA7 hO0 _) rfl rfl hO0 rfl hl.1 rfl (Nat.le_of_ble_eq_true rfl) ⟨by decide, by decide⟩ ⟨Nat.le_of_ble_eq_true rfl, Nat.le_of_ble_eq_true rfl⟩ d_17_30_19) (fun u8 H locs hp7 V => ?_)
  obtain ⟨hg9, hO0⟩ := hp7
  replace hF := q_uc hF hg9 (q_sc (.head _) (fun _ h => absurd h List.not_mem_nil))
  refine lv_aload_n hx hb d_17_30_22 rfl (lv_at hl 0 rfl) ?_
  refine lv_lload_n hx hb d_17_30_23 rfl (lv_at hl 1 rfl) ?_
  refine lv_iload_n hx hb d_17_30_24 rfl (lv_at hl 2 rfl) ?_
  refine q_goi V (q_runS (As := [.long 0, .int 1]) (rest := [.ref qO0]) (d := 1) (mc := 0) (ms := 0) C0 V rfl LS_FR_122 (c_FR_isWrong_2 l D g u8 _) rfl hl.1 rfl (Nat.le_of_ble_eq_true rfl) ⟨by decide, by decide⟩ ⟨Nat.le_of_ble_eq_true rfl, Nat.le_of_ble_eq_true rfl⟩ d_17_30_25) (fun v12 u11 H locs hp10 V => ?_)
  obtain ⟨rfl, rfl⟩ := hp10
  refine lv_if_ne (tgt := 56) hx hb d_17_30_28 (by decide) (fun c14 => absurd (by decide) c14) (fun c14 => ?_)
  refine lv_iload hx hb d_17_30_31 (lv_at hl 3 rfl) ?_
  refine lv_iconst (v := 1) hx hb d_17_30_33 (by decide) ?_
  refine lv_icmp_lt (tgt := 56) hx hb d_17_30_34 (by decide) (fun c15 => ?_) (fun c15 => ?_)
  ·
    refine lv_iconst (v := 1) hx hb d_17_30_56 (by decide) ?_
    refine lv_goto (tgt := 72) hx hb d_17_30_57 (by decide) ?_
    refine q_put (ci := 15) (j := 0) (v := .int 1) (ty := .int) C0 V i_FR o_FR n_FR rfl rfl hO0 (by decide) w_2074 rfl rfl rfl rfl (Nat.le_of_ble_eq_true rfl) d_17_30_72 (fun H locs w16 hu17 hO0 V => ?_)
    replace hO0 : w16[kO0]? = some (qO0, .inr (15, [.int 1, .ref qA1, .ref qA2, .ref qA3, .ref qA4, .ref qA5, .ref qA6, .ref qA7, .int 0, .int 0, .int 0, .long 0, .int 23, .int 255, .long 0, .int (-149), .long 0, .int 0])) := hO0
    replace hF := q_us hF hu17 (.head _)
    refine lv_aload_n hx hb d_17_30_75 rfl (lv_at hl 0 rfl) ?_
    refine q_get (ci := 15) (j := 0) (v := .int 1) C0 V i_FR rfl rfl hO0 (by decide) w_2074 rfl d_17_30_76 ?_
    refine lv_if_le (tgt := 84) hx hb d_17_30_79 (by decide) (fun c18 => absurd c18 (by decide)) (fun c18 => ?_)
    refine lv_iconst (v := 0) hx hb d_17_30_82 (by decide) ?_
    replace hA1 := (hu17 _ n_A1_O0).trans ((hg9 _ (q_nc n_A1_O0 List.not_mem_nil)).trans (hA1))
    replace hA2 := (hu17 _ n_A2_O0).trans ((hg9 _ (q_nc n_A2_O0 List.not_mem_nil)).trans (hA2))
    replace hA3 := (hu17 _ n_A3_O0).trans ((hg9 _ (q_nc n_A3_O0 List.not_mem_nil)).trans (hA3))
    replace hA6 := (hu17 _ n_A6_O0).trans ((hg9 _ (q_nc n_A6_O0 List.not_mem_nil)).trans (hA6))
    replace hA7 := (hu17 _ n_A7_O0).trans ((hg9 _ (q_nc n_A7_O0 List.not_mem_nil)).trans (hA7))
    exact q_reti C0 V (Or.inl ⟨c15, rfl, hF, hO0, hA1, hA2, hA3, hA6, hA7⟩) d_17_30_83
  ·
    refine lv_iload hx hb d_17_30_37 (lv_at hl 3 rfl) ?_
    refine lv_sipush (v := 800) hx hb d_17_30_39 (by decide) ?_
    refine lv_icmp_gt (tgt := 56) hx hb d_17_30_42 (by decide) (fun c19 => ?_) (fun c19 => ?_)
    ·
      refine lv_iconst (v := 1) hx hb d_17_30_56 (by decide) ?_
      refine lv_goto (tgt := 72) hx hb d_17_30_57 (by decide) ?_
      refine q_put (ci := 15) (j := 0) (v := .int 1) (ty := .int) C0 V i_FR o_FR n_FR rfl rfl hO0 (by decide) w_2074 rfl rfl rfl rfl (Nat.le_of_ble_eq_true rfl) d_17_30_72 (fun H locs w20 hu21 hO0 V => ?_)
      replace hO0 : w20[kO0]? = some (qO0, .inr (15, [.int 1, .ref qA1, .ref qA2, .ref qA3, .ref qA4, .ref qA5, .ref qA6, .ref qA7, .int 0, .int 0, .int 0, .long 0, .int 23, .int 255, .long 0, .int (-149), .long 0, .int 0])) := hO0
      replace hF := q_us hF hu21 (.head _)
      refine lv_aload_n hx hb d_17_30_75 rfl (lv_at hl 0 rfl) ?_
      refine q_get (ci := 15) (j := 0) (v := .int 1) C0 V i_FR rfl rfl hO0 (by decide) w_2074 rfl d_17_30_76 ?_
      refine lv_if_le (tgt := 84) hx hb d_17_30_79 (by decide) (fun c22 => absurd c22 (by decide)) (fun c22 => ?_)
      refine lv_iconst (v := 0) hx hb d_17_30_82 (by decide) ?_
      replace hA1 := (hu21 _ n_A1_O0).trans ((hg9 _ (q_nc n_A1_O0 List.not_mem_nil)).trans (hA1))
      replace hA2 := (hu21 _ n_A2_O0).trans ((hg9 _ (q_nc n_A2_O0 List.not_mem_nil)).trans (hA2))
      replace hA3 := (hu21 _ n_A3_O0).trans ((hg9 _ (q_nc n_A3_O0 List.not_mem_nil)).trans (hA3))
      replace hA6 := (hu21 _ n_A6_O0).trans ((hg9 _ (q_nc n_A6_O0 List.not_mem_nil)).trans (hA6))
      replace hA7 := (hu21 _ n_A7_O0).trans ((hg9 _ (q_nc n_A7_O0 List.not_mem_nil)).trans (hA7))
      exact q_reti C0 V (Or.inr (Or.inl ⟨c15, c19, rfl, hF, hO0, hA1, hA2, hA3, hA6, hA7⟩)) d_17_30_83
    ·
      refine lv_iload hx hb d_17_30_45 (lv_at hl 4 rfl) ?_
      refine lv_if_lt (tgt := 56) hx hb d_17_30_47 (by decide) (fun c23 => ?_) (fun c23 => ?_)
      ·
        refine lv_iconst (v := 1) hx hb d_17_30_56 (by decide) ?_
        refine lv_goto (tgt := 72) hx hb d_17_30_57 (by decide) ?_
        refine q_put (ci := 15) (j := 0) (v := .int 1) (ty := .int) C0 V i_FR o_FR n_FR rfl rfl hO0 (by decide) w_2074 rfl rfl rfl rfl (Nat.le_of_ble_eq_true rfl) d_17_30_72 (fun H locs w24 hu25 hO0 V => ?_)
        replace hO0 : w24[kO0]? = some (qO0, .inr (15, [.int 1, .ref qA1, .ref qA2, .ref qA3, .ref qA4, .ref qA5, .ref qA6, .ref qA7, .int 0, .int 0, .int 0, .long 0, .int 23, .int 255, .long 0, .int (-149), .long 0, .int 0])) := hO0
        replace hF := q_us hF hu25 (.head _)
        refine lv_aload_n hx hb d_17_30_75 rfl (lv_at hl 0 rfl) ?_
        refine q_get (ci := 15) (j := 0) (v := .int 1) C0 V i_FR rfl rfl hO0 (by decide) w_2074 rfl d_17_30_76 ?_
        refine lv_if_le (tgt := 84) hx hb d_17_30_79 (by decide) (fun c26 => absurd c26 (by decide)) (fun c26 => ?_)
        refine lv_iconst (v := 0) hx hb d_17_30_82 (by decide) ?_
        replace hA1 := (hu25 _ n_A1_O0).trans ((hg9 _ (q_nc n_A1_O0 List.not_mem_nil)).trans (hA1))
        replace hA2 := (hu25 _ n_A2_O0).trans ((hg9 _ (q_nc n_A2_O0 List.not_mem_nil)).trans (hA2))
        replace hA3 := (hu25 _ n_A3_O0).trans ((hg9 _ (q_nc n_A3_O0 List.not_mem_nil)).trans (hA3))
        replace hA6 := (hu25 _ n_A6_O0).trans ((hg9 _ (q_nc n_A6_O0 List.not_mem_nil)).trans (hA6))
        replace hA7 := (hu25 _ n_A7_O0).trans ((hg9 _ (q_nc n_A7_O0 List.not_mem_nil)).trans (hA7))
        exact q_reti C0 V (Or.inr (Or.inr (Or.inl ⟨c15, c19, c23, rfl, hF, hO0, hA1, hA2, hA3, hA6, hA7⟩))) d_17_30_83
      ·
        refine lv_iload hx hb d_17_30_50 (lv_at hl 4 rfl) ?_
        refine lv_iconst (v := 3) hx hb d_17_30_52 (by decide) ?_
        refine lv_icmp_le (tgt := 60) hx hb d_17_30_53 (by decide) (fun c27 => ?_) (fun c27 => ?_)
        ·
          refine lv_aload_n hx hb d_17_30_60 rfl (lv_at hl 0 rfl) ?_
          refine q_goi V (q_runV (As := []) (rest := [.ref qO0]) (d := 1) (mc := 0) (ms := 0) (ci := 15) C0 V rfl LV_FR_130 (c_FR_isFinite_2 l D g u8 kO0 qO0 qA1 qA2 qA3 qA4 qA5 qA6 qA7 hO0 _) rfl rfl hO0 rfl hl.1 rfl (Nat.le_of_ble_eq_true rfl) ⟨by decide, by decide⟩ ⟨Nat.le_of_ble_eq_true rfl, Nat.le_of_ble_eq_true rfl⟩ d_17_30_61) (fun v30 u29 H locs hp28 V => ?_)
          obtain ⟨rfl, rfl⟩ := hp28
          refine lv_if_ne (tgt := 71) hx hb d_17_30_64 (by decide) (fun c32 => ?_) (fun c32 => absurd c32 (by decide))
          refine lv_iconst (v := 0) hx hb d_17_30_71 (by decide) ?_
          refine q_put (ci := 15) (j := 0) (v := .int 0) (ty := .int) C0 V i_FR o_FR n_FR rfl rfl hO0 (by decide) w_2074 rfl rfl rfl rfl (Nat.le_of_ble_eq_true rfl) d_17_30_72 (fun H locs w33 hu34 hO0 V => ?_)
          replace hO0 : w33[kO0]? = some (qO0, .inr (15, [.int 0, .ref qA1, .ref qA2, .ref qA3, .ref qA4, .ref qA5, .ref qA6, .ref qA7, .int 0, .int 0, .int 0, .long 0, .int 23, .int 255, .long 0, .int (-149), .long 0, .int 0])) := hO0
          replace hF := q_us hF hu34 (.head _)
          refine lv_aload_n hx hb d_17_30_75 rfl (lv_at hl 0 rfl) ?_
          refine q_get (ci := 15) (j := 0) (v := .int 0) C0 V i_FR rfl rfl hO0 (by decide) w_2074 rfl d_17_30_76 ?_
          refine lv_if_le (tgt := 84) hx hb d_17_30_79 (by decide) (fun c35 => ?_) (fun c35 => absurd (by decide) c35)
          refine lv_aload_n hx hb d_17_30_84 rfl (lv_at hl 0 rfl) ?_
          replace hA1 := (hu34 _ n_A1_O0).trans ((hg9 _ (q_nc n_A1_O0 List.not_mem_nil)).trans (hA1))
          replace hA2 := (hu34 _ n_A2_O0).trans ((hg9 _ (q_nc n_A2_O0 List.not_mem_nil)).trans (hA2))
          replace hA3 := (hu34 _ n_A3_O0).trans ((hg9 _ (q_nc n_A3_O0 List.not_mem_nil)).trans (hA3))
          refine q_gov V (q_runV (As := []) (rest := []) (d := 2) (mc := 0) (ms := 0) (ci := 15) C0 V rfl LV_FR_162 (c_FR_setValue_2 l D g w33 kO0 kA1 kA2 kA3 qO0 qA1 qA2 qA3 qA4 qA5 qA6 qA7 hO0 hA1 hA2 hA3 n_A1_A2 n_A1_A3 n_A3_A2 _) rfl rfl hO0 rfl hl.1 rfl (Nat.le_of_ble_eq_true rfl) ⟨by decide, by decide⟩ ⟨Nat.le_of_ble_eq_true rfl, Nat.le_of_ble_eq_true rfl⟩ d_17_30_85) (fun u37 H locs hp36 V => ?_)
          obtain ⟨y38, hg39, hA1, hA2, hA3⟩ := hp36
          replace hF := q_uc hF hg39 (q_sc (.tail _ (.head _)) (q_sc (.tail _ (.tail _ (.head _))) (q_sc (List.mem_of_getElem? (i := 3) rfl) (fun _ h => absurd h List.not_mem_nil))))
          refine lv_aload_n hx hb d_17_30_88 rfl (lv_at hl 0 rfl) ?_
          replace hO0 := (hg39 _ (q_nc n_O0_A1 (q_nc n_O0_A2 (q_nc n_O0_A3 List.not_mem_nil)))).trans (hO0)
          refine q_get (ci := 15) (j := 14) (v := .long 0) C0 V i_FR rfl rfl hO0 (by decide) w_2090 rfl d_17_30_89 ?_
          refine lv_lconst (v := 0) hx hb d_17_30_92 (by decide) ?_
          refine W.lcmp hx hb d_17_30_93 ?_
          refine q_ti (v := 0) (by decide) ?_
          refine lv_if_ne (tgt := 103) hx hb d_17_30_94 (by decide) (fun c40 => absurd (by decide) c40) (fun c40 => ?_)
          refine lv_sipush (v := 1080) hx hb d_17_30_97 (by decide) ?_
          refine lv_goto (tgt := 107) hx hb d_17_30_100 (by decide) ?_
          refine lv_istore (lv' := [(6, .int 1080), (0, .ref qO0), (1, .long 0), (3, .int 1), (4, .int x1), (5, .int x2)]) hx hb d_17_30_107 hl (by decide) rfl (fun ls hl => ?_)
          refine lv_iload hx hb d_17_30_109 (lv_at hl 0 rfl) ?_
          refine lv_iload hx hb d_17_30_111 (lv_at hl 4 rfl) ?_
          refine lv_isub hx hb d_17_30_113 ?_
          refine lv_iconst (v := 1) hx hb d_17_30_114 (by decide) ?_
          refine lv_iadd hx hb d_17_30_115 ?_
          refine lv_if_ge (tgt := 123) hx hb d_17_30_116 (by decide) (fun c41 => ?_) (fun c41 => absurd (q_Ile (x := 0) (y := ((1080 - x1.toInt) + 1)) (by decide) (q_addI (x := (1080 - x1.toInt)) (y := 1) (q_subI (x := 1080) (y := x1.toInt) (by decide) rfl (by have t1 : 1 ≤ x1.toInt := q_nltI c15; have t2 : x1.toInt ≤ 800 := q_nltI c19; omega) (by have t1 : 1 ≤ x1.toInt := q_nltI c15; have t2 : x1.toInt ≤ 800 := q_nltI c19; omega)) (by decide) (by have t1 : 1 ≤ x1.toInt := q_nltI c15; have t2 : x1.toInt ≤ 800 := q_nltI c19; omega) (by have t1 : 1 ≤ x1.toInt := q_nltI c15; have t2 : x1.toInt ≤ 800 := q_nltI c19; omega)) (by have t1 : 1 ≤ x1.toInt := q_nltI c15; have t2 : x1.toInt ≤ 800 := q_nltI c19; omega)) c41)
          refine lv_iload hx hb d_17_30_123 (lv_at hl 0 rfl) ?_
          refine lv_iload hx hb d_17_30_125 (lv_at hl 4 rfl) ?_
          refine lv_isub hx hb d_17_30_127 ?_
          refine lv_iconst (v := 1) hx hb d_17_30_128 (by decide) ?_
          refine lv_iadd hx hb d_17_30_129 ?_
          refine lv_istore (lv' := [(7, .int ((1080 - x1) + 1)), (6, .int 1080), (0, .ref qO0), (1, .long 0), (3, .int 1), (4, .int x1), (5, .int x2)]) hx hb d_17_30_130 hl (by decide) rfl (fun ls hl => ?_)
          refine lv_aload_n hx hb d_17_30_132 rfl (lv_at hl 2 rfl) ?_
          refine lv_iload hx hb d_17_30_133 (lv_at hl 0 rfl) ?_
          refine lv_aload_n hx hb d_17_30_135 rfl (lv_at hl 2 rfl) ?_
          refine lv_iload hx hb d_17_30_136 (lv_at hl 0 rfl) ?_
          refine lv_iload hx hb d_17_30_138 (lv_at hl 6 rfl) ?_
          refine q_goi V (q_runV (As := [.int ((1080 - x1) + 1), .int x2]) (rest := [.int ((1080 - x1) + 1), .ref qO0]) (d := 1) (mc := 0) (ms := 0) (ci := 15) C0 V rfl LV_FR_165 (c_FR_isMore_6 l D g u37 kO0 kA3 qO0 qA1 qA2 qA3 qA4 qA5 qA6 qA7 ((1080 - x1) + 1) x2 hO0 hA3 (q_Ile (x := 0) (y := ((1080 - x1.toInt) + 1)) (by decide) (q_addI (x := (1080 - x1.toInt)) (y := 1) (q_subI (x := 1080) (y := x1.toInt) (by decide) rfl (by have t1 : 1 ≤ x1.toInt := q_nltI c15; have t2 : x1.toInt ≤ 800 := q_nltI c19; omega) (by have t1 : 1 ≤ x1.toInt := q_nltI c15; have t2 : x1.toInt ≤ 800 := q_nltI c19; omega)) (by decide) (by have t1 : 1 ≤ x1.toInt := q_nltI c15; have t2 : x1.toInt ≤ 800 := q_nltI c19; omega) (by have t1 : 1 ≤ x1.toInt := q_nltI c15; have t2 : x1.toInt ≤ 800 := q_nltI c19; omega)) (by have t1 : 1 ≤ x1.toInt := q_nltI c15; have t2 : x1.toInt ≤ 800 := q_nltI c19; omega)) (q_Ile (x := ((1080 - x1.toInt) + 1)) (y := 1080) (q_addI (x := (1080 - x1.toInt)) (y := 1) (q_subI (x := 1080) (y := x1.toInt) (by decide) rfl (by have t1 : 1 ≤ x1.toInt := q_nltI c15; have t2 : x1.toInt ≤ 800 := q_nltI c19; omega) (by have t1 : 1 ≤ x1.toInt := q_nltI c15; have t2 : x1.toInt ≤ 800 := q_nltI c19; omega)) (by decide) (by have t1 : 1 ≤ x1.toInt := q_nltI c15; have t2 : x1.toInt ≤ 800 := q_nltI c19; omega) (by have t1 : 1 ≤ x1.toInt := q_nltI c15; have t2 : x1.toInt ≤ 800 := q_nltI c19; omega)) (by decide) (by have t1 : 1 ≤ x1.toInt := q_nltI c15; have t2 : x1.toInt ≤ 800 := q_nltI c19; omega)) (q_Ile (x := 0) (y := x2.toInt) (by decide) rfl (by have t1 : 0 ≤ x2.toInt := q_nltI c23; have t2 : x2.toInt ≤ 3 := q_leI c27; omega)) c27 _) rfl rfl hO0 rfl hl.1 rfl (Nat.le_of_ble_eq_true rfl) ⟨by decide, by decide⟩ ⟨Nat.le_of_ble_eq_true rfl, Nat.le_of_ble_eq_true rfl⟩ d_17_30_140) (fun v44 u43 H locs hp42 V => ?_)
          obtain ⟨rfl, rfl⟩ := hp42
          replace hA6 := (hg39 _ (q_nc n_A6_A1 (q_nc n_A6_A2 (q_nc n_A6_A3 List.not_mem_nil)))).trans ((hu34 _ n_A6_O0).trans ((hg9 _ (q_nc n_A6_O0 List.not_mem_nil)).trans (hA6)))
          refine q_gov V (q_runV (As := [.int ((1080 - x1) + 1), .int 0]) (rest := []) (d := 1) (mc := 0) (ms := 0) (ci := 15) C0 V rfl LV_FR_81 (c_FR_cut_6 l D g u37 kO0 kA3 kA6 qO0 qA1 qA2 qA3 qA4 qA5 qA6 qA7 ((1080 - x1) + 1) hO0 hA3 hA6 n_A3_A6 (q_Ile (x := 0) (y := ((1080 - x1.toInt) + 1)) (by decide) (q_addI (x := (1080 - x1.toInt)) (y := 1) (q_subI (x := 1080) (y := x1.toInt) (by decide) rfl (by have t1 : 1 ≤ x1.toInt := q_nltI c15; have t2 : x1.toInt ≤ 800 := q_nltI c19; omega) (by have t1 : 1 ≤ x1.toInt := q_nltI c15; have t2 : x1.toInt ≤ 800 := q_nltI c19; omega)) (by decide) (by have t1 : 1 ≤ x1.toInt := q_nltI c15; have t2 : x1.toInt ≤ 800 := q_nltI c19; omega) (by have t1 : 1 ≤ x1.toInt := q_nltI c15; have t2 : x1.toInt ≤ 800 := q_nltI c19; omega)) (by have t1 : 1 ≤ x1.toInt := q_nltI c15; have t2 : x1.toInt ≤ 800 := q_nltI c19; omega)) (q_Ile (x := ((1080 - x1.toInt) + 1)) (y := 1080) (q_addI (x := (1080 - x1.toInt)) (y := 1) (q_subI (x := 1080) (y := x1.toInt) (by decide) rfl (by have t1 : 1 ≤ x1.toInt := q_nltI c15; have t2 : x1.toInt ≤ 800 := q_nltI c19; omega) (by have t1 : 1 ≤ x1.toInt := q_nltI c15; have t2 : x1.toInt ≤ 800 := q_nltI c19; omega)) (by decide) (by have t1 : 1 ≤ x1.toInt := q_nltI c15; have t2 : x1.toInt ≤ 800 := q_nltI c19; omega) (by have t1 : 1 ≤ x1.toInt := q_nltI c15; have t2 : x1.toInt ≤ 800 := q_nltI c19; omega)) (by decide) (by have t1 : 1 ≤ x1.toInt := q_nltI c15; have t2 : x1.toInt ≤ 800 := q_nltI c19; omega)) _) rfl rfl hO0 rfl hl.1 rfl (Nat.le_of_ble_eq_true rfl) ⟨by decide, by decide⟩ ⟨Nat.le_of_ble_eq_true rfl, Nat.le_of_ble_eq_true rfl⟩ d_17_30_143) (fun u47 H locs hp46 V => ?_)
          obtain ⟨hg48, hA6⟩ := hp46
          replace hF := q_uc hF hg48 (q_sc (List.mem_of_getElem? (i := 4) rfl) (fun _ h => absurd h List.not_mem_nil))
          refine lv_aload_n hx hb d_17_30_146 rfl (lv_at hl 2 rfl) ?_
          replace hO0 := (hg48 _ (q_nc n_O0_A6 List.not_mem_nil)).trans (hO0)
          refine q_get (ci := 15) (j := 6) (v := .ref qA6) C0 V i_FR rfl rfl hO0 (by decide) w_2081 rfl d_17_30_147 ?_
          refine lv_iload hx hb d_17_30_150 (lv_at hl 1 rfl) ?_
          refine lv_iconst (v := 1) hx hb d_17_30_152 (by decide) ?_
          refine lv_iadd hx hb d_17_30_153 ?_
          refine q_ti (v := 1081) (by decide) ?_
          refine q_iald C0 V hA6 (by unfold vp_in; decide) d_17_30_154 ?_
          refine q_ti (v := 0) (by first | rfl | decide | simp [upd, vp_updL, sb_cl0]) ?_
          refine lv_iconst (v := 1) hx hb d_17_30_155 (by decide) ?_
          refine lv_icmp_ne (tgt := 175) hx hb d_17_30_156 (by decide) (fun c49 => ?_) (fun c49 => absurd c49 (by decide))
          refine lv_iload hx hb d_17_30_175 (lv_at hl 1 rfl) ?_
          refine lv_istore (lv' := [(6, .int 1080), (7, .int ((1080 - x1) + 1)), (0, .ref qO0), (1, .long 0), (3, .int 1), (4, .int x1), (5, .int x2)]) hx hb d_17_30_177 hl (by decide) rfl (fun ls hl => ?_)
          refine lv_aload_n hx hb d_17_30_179 rfl (lv_at hl 2 rfl) ?_
          refine q_gov V (q_runV (As := []) (rest := []) (d := 1) (mc := 0) (ms := 0) (ci := 15) C0 V rfl LV_FR_113 (c_FR_begin_2 l D g u47 kO0 qO0 qA1 qA2 qA3 qA4 qA5 qA6 qA7 hO0 _) rfl rfl hO0 rfl hl.1 rfl (Nat.le_of_ble_eq_true rfl) ⟨by decide, by decide⟩ ⟨Nat.le_of_ble_eq_true rfl, Nat.le_of_ble_eq_true rfl⟩ d_17_30_180) (fun u51 H locs hp50 V => ?_)
          obtain ⟨hg52, hO0⟩ := hp50
          replace hF := q_uc hF hg52 (q_sc (.head _) (fun _ h => absurd h List.not_mem_nil))
          refine lv_iconst (v := 0) hx hb d_17_30_183 (by decide) ?_
          refine lv_istore (lv' := [(8, .int 0), (6, .int 1080), (7, .int ((1080 - x1) + 1)), (0, .ref qO0), (1, .long 0), (3, .int 1), (4, .int x1), (5, .int x2)]) hx hb d_17_30_184 hl (by decide) rfl (fun ls hl => ?_)
          refine lv_iload hx hb d_17_30_186 (lv_at hl 0 rfl) ?_
          refine lv_iload hx hb d_17_30_188 (lv_at hl 6 rfl) ?_
          refine lv_icmp_ge (tgt := 236) hx hb d_17_30_190 (by decide) (fun c53 => absurd c53 (Int32.not_le.mpr (q_Ilt (x := 0) (y := x1.toInt) (by decide) rfl (by have t1 : 1 ≤ x1.toInt := q_nltI c15; have t2 : x1.toInt ≤ 800 := q_nltI c19; omega)))) (fun c53 => ?_)
          refine lv_aload_n hx hb d_17_30_193 rfl (lv_at hl 3 rfl) ?_
          refine lv_bipush (v := 48) hx hb d_17_30_194 (by decide) ?_
          refine lv_aload_n hx hb d_17_30_196 rfl (lv_at hl 3 rfl) ?_
          refine lv_iload hx hb d_17_30_197 (lv_at hl 1 rfl) ?_
          refine lv_sipush (v := 1080) hx hb d_17_30_199 (by decide) ?_
          refine lv_isub hx hb d_17_30_202 ?_
          refine q_ti (v := 0) (by decide) ?_
          refine lv_iload hx hb d_17_30_203 (lv_at hl 0 rfl) ?_
          refine lv_isub hx hb d_17_30_205 ?_
          refine q_ti (v := 0) (by decide) ?_
          replace hA6 := (hg52 _ (q_nc n_A6_O0 List.not_mem_nil)).trans (hA6)
          refine q_goi V (q_runV (As := [.int 0]) (rest := [.int 48, .ref qO0]) (d := 1) (mc := 0) (ms := 0) (ci := 15) C0 V rfl LV_FR_169 (c_FR_figureAt_3 l D g u51 kO0 kA6 qO0 qA1 qA2 qA3 qA4 qA5 qA6 qA7 hO0 hA6 _) rfl rfl hO0 rfl hl.1 rfl (Nat.le_of_ble_eq_true rfl) ⟨by decide, by decide⟩ ⟨Nat.le_of_ble_eq_true rfl, Nat.le_of_ble_eq_true rfl⟩ d_17_30_206) (fun v56 u55 H locs hp54 V => ?_)
          obtain ⟨rfl, rfl⟩ := hp54
          refine lv_iadd hx hb d_17_30_209 ?_
          refine q_ti (v := 48) (by decide) ?_
          replace hA7 := (hg52 _ (q_nc n_A7_O0 List.not_mem_nil)).trans ((hg48 _ (q_nc n_A7_A6 List.not_mem_nil)).trans ((hg39 _ (q_nc n_A7_A1 (q_nc n_A7_A2 (q_nc n_A7_A3 List.not_mem_nil)))).trans ((hu34 _ n_A7_O0).trans ((hg9 _ (q_nc n_A7_O0 List.not_mem_nil)).trans (hA7)))))
          refine q_gov V (q_runV (As := [.int 48]) (rest := []) (d := 1) (mc := 0) (ms := 0) (ci := 15) C0 V rfl LV_FR_110 (c_FR_add_4 l D g u51 kO0 kA7 qO0 qA1 qA2 qA3 qA4 qA5 qA6 qA7 hO0 hA7 _) rfl rfl hO0 rfl hl.1 rfl (Nat.le_of_ble_eq_true rfl) ⟨by decide, by decide⟩ ⟨Nat.le_of_ble_eq_true rfl, Nat.le_of_ble_eq_true rfl⟩ d_17_30_210) (fun u59 H locs hp58 V => ?_)
          obtain ⟨hg60, hO0, hA7⟩ := hp58
          replace hF := q_uc hF hg60 (q_sc (.head _) (q_sc (List.mem_of_getElem? (i := 5) rfl) (fun _ h => absurd h List.not_mem_nil)))
          refine lv_iload hx hb d_17_30_213 (lv_at hl 0 rfl) ?_
          refine lv_if_ne (tgt := 230) hx hb d_17_30_215 (by decide) (fun c61 => absurd (by decide) c61) (fun c61 => ?_)
          refine lv_iload hx hb d_17_30_218 (lv_at hl 6 rfl) ?_
          refine lv_iconst (v := 1) hx hb d_17_30_220 (by decide) ?_
          refine lv_icmp_le (tgt := 230) hx hb d_17_30_221 (by decide) (fun c62 => ?_) (fun c62 => ?_)
          ·
            refine lv_iinc (v := 1) (lv' := [(8, .int 1), (6, .int 1080), (7, .int ((1080 - x1) + 1)), (0, .ref qO0), (1, .long 0), (3, .int 1), (4, .int x1), (5, .int x2)]) hx hb d_17_30_230 hl (k := 0) rfl (by decide) (by decide) rfl (fun ls hl => ?_)
            refine lv_goto (tgt := 186) hx hb d_17_30_233 (by decide) ?_
            refine lv_iload hx hb d_17_30_186 (lv_at hl 0 rfl) ?_
            refine lv_iload hx hb d_17_30_188 (lv_at hl 6 rfl) ?_
            refine q_ti (v := 1) (q_Ieq (x := x1.toInt) (y := 1) rfl (by decide) (by have t1 : 1 ≤ x1.toInt := q_nltI c15; have t2 : x1.toInt ≤ 800 := q_nltI c19; have t3 : x1.toInt ≤ 1 := q_leI c62; omega)) ?_
            refine lv_icmp_ge (tgt := 236) hx hb d_17_30_190 (by decide) (fun c63 => ?_) (fun c63 => absurd (by decide) c63)
            refine lv_iload hx hb d_17_30_236 (lv_at hl 1 rfl) ?_
            refine lv_sipush (v := 1080) hx hb d_17_30_238 (by decide) ?_
            refine lv_isub hx hb d_17_30_241 ?_
            refine q_ti (v := 0) (by decide) ?_
            refine lv_istore (lv' := [(8, .int 0), (6, .int 1080), (7, .int ((1080 - x1) + 1)), (0, .ref qO0), (1, .long 0), (3, .int 1), (4, .int x1), (5, .int x2)]) hx hb d_17_30_242 hl (by decide) rfl (fun ls hl => ?_)
            refine lv_aload_n hx hb d_17_30_244 rfl (lv_at hl 3 rfl) ?_
            refine lv_bipush (v := 101) hx hb d_17_30_245 (by decide) ?_
            refine q_gov V (q_runV (As := [.int 101]) (rest := []) (d := 1) (mc := 0) (ms := 0) (ci := 15) C0 V rfl LV_FR_110 (c_FR_add_26 l D g u59 kO0 kA7 qO0 qA1 qA2 qA3 qA4 qA5 qA6 qA7 hO0 hA7 _) rfl rfl hO0 rfl hl.1 rfl (Nat.le_of_ble_eq_true rfl) ⟨by decide, by decide⟩ ⟨Nat.le_of_ble_eq_true rfl, Nat.le_of_ble_eq_true rfl⟩ d_17_30_247) (fun u65 H locs hp64 V => ?_)
            obtain ⟨hg66, hO0, hA7⟩ := hp64
            replace hF := q_uc hF hg66 (q_sc (.head _) (q_sc (List.mem_of_getElem? (i := 5) rfl) (fun _ h => absurd h List.not_mem_nil)))
            refine lv_aload_n hx hb d_17_30_250 rfl (lv_at hl 3 rfl) ?_
            refine lv_iload hx hb d_17_30_251 (lv_at hl 0 rfl) ?_
            refine lv_if_ge (tgt := 261) hx hb d_17_30_253 (by decide) (fun c67 => ?_) (fun c67 => absurd (by decide) c67)
            refine lv_bipush (v := 43) hx hb d_17_30_261 (by decide) ?_
            refine q_gov V (q_runV (As := [.int 43]) (rest := []) (d := 1) (mc := 0) (ms := 0) (ci := 15) C0 V rfl LV_FR_110 (c_FR_add_27 l D g u65 kO0 kA7 qO0 qA1 qA2 qA3 qA4 qA5 qA6 qA7 hO0 hA7 _) rfl rfl hO0 rfl hl.1 rfl (Nat.le_of_ble_eq_true rfl) ⟨by decide, by decide⟩ ⟨Nat.le_of_ble_eq_true rfl, Nat.le_of_ble_eq_true rfl⟩ d_17_30_263) (fun u69 H locs hp68 V => ?_)
            obtain ⟨hg70, hO0, hA7⟩ := hp68
            replace hF := q_uc hF hg70 (q_sc (.head _) (q_sc (List.mem_of_getElem? (i := 5) rfl) (fun _ h => absurd h List.not_mem_nil)))
            refine lv_iload hx hb d_17_30_266 (lv_at hl 0 rfl) ?_
            refine lv_if_ge (tgt := 277) hx hb d_17_30_268 (by decide) (fun c71 => ?_) (fun c71 => absurd (by decide) c71)
            refine lv_iload hx hb d_17_30_277 (lv_at hl 0 rfl) ?_
            refine lv_istore (lv' := [(8, .int 0), (6, .int 1080), (7, .int ((1080 - x1) + 1)), (0, .ref qO0), (1, .long 0), (3, .int 1), (4, .int x1), (5, .int x2)]) hx hb d_17_30_279 hl (by decide) rfl (fun ls hl => ?_)
            refine lv_iload hx hb d_17_30_281 (lv_at hl 0 rfl) ?_
            refine lv_bipush (v := 10) hx hb d_17_30_283 (by decide) ?_
            refine lv_icmp_ge (tgt := 294) hx hb d_17_30_285 (by decide) (fun c72 => absurd c72 (by decide)) (fun c72 => ?_)
            refine lv_aload_n hx hb d_17_30_288 rfl (lv_at hl 3 rfl) ?_
            refine lv_bipush (v := 48) hx hb d_17_30_289 (by decide) ?_
            refine q_gov V (q_runV (As := [.int 48]) (rest := []) (d := 1) (mc := 0) (ms := 0) (ci := 15) C0 V rfl LV_FR_110 (c_FR_add_6 l D g u69 kO0 kA7 qO0 qA1 qA2 qA3 qA4 qA5 qA6 qA7 3 (upd (upd (upd (fun _ => 0) 0 48) 1 101) 2 43) hO0 hA7 (q_Ile (x := 2) (y := 3) (by decide) (by decide) (by omega)) (q_Ile (x := 3) (y := 1076) (by decide) (by decide) (by omega)) _) rfl rfl hO0 rfl hl.1 rfl (Nat.le_of_ble_eq_true rfl) ⟨by decide, by decide⟩ ⟨Nat.le_of_ble_eq_true rfl, Nat.le_of_ble_eq_true rfl⟩ d_17_30_291) (fun u74 H locs hp73 V => ?_)
            obtain ⟨hg75, hO0, hA7⟩ := hp73
            replace hF := q_uc hF hg75 (q_sc (.head _) (q_sc (List.mem_of_getElem? (i := 5) rfl) (fun _ h => absurd h List.not_mem_nil)))
            refine lv_aload_n hx hb d_17_30_294 rfl (lv_at hl 3 rfl) ?_
            refine lv_iload hx hb d_17_30_295 (lv_at hl 0 rfl) ?_
            refine q_gov V (q_runV (As := [.int 0]) (rest := []) (d := 2) (mc := 0) (ms := 0) (ci := 15) C0 V rfl LV_FR_149 (c_FR_number_6 l D g u74 kO0 kA7 qO0 qA1 qA2 qA3 qA4 qA5 qA6 qA7 (3 + 1) (upd (upd (upd (upd (fun _ => 0) 0 48) 1 101) 2 43) 3.toNatClampNeg 48) hO0 hA7 (q_Ile (x := 4) (y := (3 + 1)) (by decide) (q_addI (x := 3) (y := 1) (by decide) (by decide) (by omega) (by omega)) (by omega)) (q_Ile (x := (3 + 1)) (y := 4) (q_addI (x := 3) (y := 1) (by decide) (by decide) (by omega) (by omega)) (by decide) (by omega)) _) rfl rfl hO0 rfl hl.1 rfl (Nat.le_of_ble_eq_true rfl) ⟨by decide, by decide⟩ ⟨Nat.le_of_ble_eq_true rfl, Nat.le_of_ble_eq_true rfl⟩ d_17_30_297) (fun u77 H locs hp76 V => ?_)
            obtain ⟨hg78, hO0, hA7⟩ := hp76
            replace hF := q_uc hF hg78 (q_sc (.head _) (q_sc (List.mem_of_getElem? (i := 5) rfl) (fun _ h => absurd h List.not_mem_nil)))
            refine lv_aload_n hx hb d_17_30_300 rfl (lv_at hl 3 rfl) ?_
            refine q_get (ci := 15) (j := 8) (v := .int ((3 + 1) + 1)) C0 V i_FR rfl rfl hO0 (by decide) w_2084 rfl d_17_30_301 ?_
            replace hA1 := (hg78 _ (q_nc n_A1_O0 (q_nc n_A1_A7 List.not_mem_nil))).trans ((hg75 _ (q_nc n_A1_O0 (q_nc n_A1_A7 List.not_mem_nil))).trans ((hg70 _ (q_nc n_A1_O0 (q_nc n_A1_A7 List.not_mem_nil))).trans ((hg66 _ (q_nc n_A1_O0 (q_nc n_A1_A7 List.not_mem_nil))).trans ((hg60 _ (q_nc n_A1_O0 (q_nc n_A1_A7 List.not_mem_nil))).trans ((hg52 _ (q_nc n_A1_O0 List.not_mem_nil)).trans ((hg48 _ (q_nc n_A1_A6 List.not_mem_nil)).trans (hA1)))))))
            replace hA2 := (hg78 _ (q_nc n_A2_O0 (q_nc n_A2_A7 List.not_mem_nil))).trans ((hg75 _ (q_nc n_A2_O0 (q_nc n_A2_A7 List.not_mem_nil))).trans ((hg70 _ (q_nc n_A2_O0 (q_nc n_A2_A7 List.not_mem_nil))).trans ((hg66 _ (q_nc n_A2_O0 (q_nc n_A2_A7 List.not_mem_nil))).trans ((hg60 _ (q_nc n_A2_O0 (q_nc n_A2_A7 List.not_mem_nil))).trans ((hg52 _ (q_nc n_A2_O0 List.not_mem_nil)).trans ((hg48 _ (q_nc n_A2_A6 List.not_mem_nil)).trans (hA2)))))))
            replace hA3 := (hg78 _ (q_nc n_A3_O0 (q_nc n_A3_A7 List.not_mem_nil))).trans ((hg75 _ (q_nc n_A3_O0 (q_nc n_A3_A7 List.not_mem_nil))).trans ((hg70 _ (q_nc n_A3_O0 (q_nc n_A3_A7 List.not_mem_nil))).trans ((hg66 _ (q_nc n_A3_O0 (q_nc n_A3_A7 List.not_mem_nil))).trans ((hg60 _ (q_nc n_A3_O0 (q_nc n_A3_A7 List.not_mem_nil))).trans ((hg52 _ (q_nc n_A3_O0 List.not_mem_nil)).trans ((hg48 _ (q_nc n_A3_A6 List.not_mem_nil)).trans (hA3)))))))
            replace hA6 := (hg78 _ (q_nc n_A6_O0 (q_nc n_A6_A7 List.not_mem_nil))).trans ((hg75 _ (q_nc n_A6_O0 (q_nc n_A6_A7 List.not_mem_nil))).trans ((hg70 _ (q_nc n_A6_O0 (q_nc n_A6_A7 List.not_mem_nil))).trans ((hg66 _ (q_nc n_A6_O0 (q_nc n_A6_A7 List.not_mem_nil))).trans ((hg60 _ (q_nc n_A6_O0 (q_nc n_A6_A7 List.not_mem_nil))).trans (hA6)))))
            exact q_reti C0 V (Or.inr (Or.inr (Or.inr (Or.inl ⟨y38, c15, c19, c23, c27, c62, rfl, hF, hO0, hA1, hA2, hA3, hA6, hA7⟩)))) d_17_30_304
          ·
            refine lv_aload_n hx hb d_17_30_224 rfl (lv_at hl 3 rfl) ?_
            refine lv_bipush (v := 46) hx hb d_17_30_225 (by decide) ?_
            refine q_gov V (q_runV (As := [.int 46]) (rest := []) (d := 1) (mc := 0) (ms := 0) (ci := 15) C0 V rfl LV_FR_110 (c_FR_add_5 l D g u59 kO0 kA7 qO0 qA1 qA2 qA3 qA4 qA5 qA6 qA7 hO0 hA7 _) rfl rfl hO0 rfl hl.1 rfl (Nat.le_of_ble_eq_true rfl) ⟨by decide, by decide⟩ ⟨Nat.le_of_ble_eq_true rfl, Nat.le_of_ble_eq_true rfl⟩ d_17_30_227) (fun u80 H locs hp79 V => ?_)
            obtain ⟨hg81, hO0, hA7⟩ := hp79
            replace hF := q_uc hF hg81 (q_sc (.head _) (q_sc (List.mem_of_getElem? (i := 5) rfl) (fun _ h => absurd h List.not_mem_nil)))
            refine lv_iinc (v := 1) (lv' := [(8, .int 1), (6, .int 1080), (7, .int ((1080 - x1) + 1)), (0, .ref qO0), (1, .long 0), (3, .int 1), (4, .int x1), (5, .int x2)]) hx hb d_17_30_230 hl (k := 0) rfl (by decide) (by decide) rfl (fun ls hl => ?_)
            refine lv_goto (tgt := 186) hx hb d_17_30_233 (by decide) ?_
            replace hA1 := (hg81 _ (q_nc n_A1_O0 (q_nc n_A1_A7 List.not_mem_nil))).trans ((hg60 _ (q_nc n_A1_O0 (q_nc n_A1_A7 List.not_mem_nil))).trans ((hg52 _ (q_nc n_A1_O0 List.not_mem_nil)).trans ((hg48 _ (q_nc n_A1_A6 List.not_mem_nil)).trans (hA1))))
            replace hA2 := (hg81 _ (q_nc n_A2_O0 (q_nc n_A2_A7 List.not_mem_nil))).trans ((hg60 _ (q_nc n_A2_O0 (q_nc n_A2_A7 List.not_mem_nil))).trans ((hg52 _ (q_nc n_A2_O0 List.not_mem_nil)).trans ((hg48 _ (q_nc n_A2_A6 List.not_mem_nil)).trans (hA2))))
            replace hA3 := (hg81 _ (q_nc n_A3_O0 (q_nc n_A3_A7 List.not_mem_nil))).trans ((hg60 _ (q_nc n_A3_O0 (q_nc n_A3_A7 List.not_mem_nil))).trans ((hg52 _ (q_nc n_A3_O0 List.not_mem_nil)).trans ((hg48 _ (q_nc n_A3_A6 List.not_mem_nil)).trans (hA3))))
            replace hA6 := (hg81 _ (q_nc n_A6_O0 (q_nc n_A6_A7 List.not_mem_nil))).trans ((hg60 _ (q_nc n_A6_O0 (q_nc n_A6_A7 List.not_mem_nil))).trans (hA6))
            refine q_loop (X := Int32 × Int32 × (Nat → Int32)) (fun z H locs ls w85 => (1 ≤ z.1.toInt ∧ (z.1.toInt ≤ x1.toInt ∨ z.1.toInt = 1)) ∧ (z.2.1.toInt = 2 + 1 * (z.1.toInt - 1)) ∧ q_Wd D g (va_A ws sz) s w85 H locs ∧ lv_has ls 9 [(8, .int z.1), (6, .int 1080), (7, .int ((1080 - x1) + 1)), (0, .ref qO0), (1, .long 0), (3, .int 1), (4, .int x1), (5, .int x2)] ∧ q_un ws w85 [kO0, kA1, kA2, kA3, kA6, kA7] ∧ w85[kO0]? = some (qO0, .inr (15, [.int 0, .ref qA1, .ref qA2, .ref qA3, .ref qA4, .ref qA5, .ref qA6, .ref qA7, .int z.2.1, .int 0, .int 0, .long 0, .int 23, .int 255, .long 0, .int (-149), .long 0, .int 0])) ∧ w85[kA1]? = some (qA1, .inl (g 0, 156, .inl y38)) ∧ w85[kA2]? = some (qA2, .inl (g 0, 156, .inl (fun _ => 0))) ∧ w85[kA3]? = some (qA3, .inl (g 0, 1404, .inl (fun _ => 0))) ∧ w85[kA6]? = some (qA6, .inl (g 0, 1404, .inl (fun _ => 0))) ∧ w85[kA7]? = some (qA7, .inl (g 0, 1600, .inl z.2.2))) (fun z => (x1.toInt - z.1.toInt).toNat) ?_ ((1 : Int32), (2 : Int32), (upd (upd (fun _ => 0) 0 48) 1 46 : (Nat → Int32))) _ _ _ u80 ⟨⟨(by dsimp only; decide), Or.inr (by dsimp only; decide)⟩, (show (2 : Int32).toInt = 2 + 1 * ((1 : Int32).toInt - 1) from by have t1 : 1 ≤ x1.toInt := q_nltI c15; have t2 : x1.toInt ≤ 800 := q_nltI c19; have t3 : 0 ≤ x2.toInt := q_nltI c23; have t4 : x2.toInt ≤ 3 := q_leI c27; have t5 : 1 < x1.toInt := q_nleI c62; have e1 : (2 : Int32).toInt = 2 := (by decide); have e2 : ((1 : Int32)).toInt = 1 := (by decide); omega), V, hl, hF, hO0, hA1, hA2, hA3, hA6, hA7⟩
            rintro ⟨lx82, lx83, lx84⟩ H locs ls w85 ⟨i86, i87, V, hl, hF, hO0, hA1, hA2, hA3, hA6, hA7⟩ ih88
            replace i86 : 1 ≤ lx82.toInt ∧ (lx82.toInt ≤ x1.toInt ∨ lx82.toInt = 1) := i86
            replace i87 : lx83.toInt = 2 + 1 * (lx82.toInt - 1) := i87
            replace hl : lv_has ls 9 [(8, .int lx82), (6, .int 1080), (7, .int ((1080 - x1) + 1)), (0, .ref qO0), (1, .long 0), (3, .int 1), (4, .int x1), (5, .int x2)] := hl
            replace hO0 : w85[kO0]? = some (qO0, .inr (15, [.int 0, .ref qA1, .ref qA2, .ref qA3, .ref qA4, .ref qA5, .ref qA6, .ref qA7, .int lx83, .int 0, .int 0, .long 0, .int 23, .int 255, .long 0, .int (-149), .long 0, .int 0])) := hO0
            replace hA1 : w85[kA1]? = some (qA1, .inl (g 0, 156, .inl y38)) := hA1
            replace hA2 : w85[kA2]? = some (qA2, .inl (g 0, 156, .inl (fun _ => 0))) := hA2
            replace hA3 : w85[kA3]? = some (qA3, .inl (g 0, 1404, .inl (fun _ => 0))) := hA3
            replace hA6 : w85[kA6]? = some (qA6, .inl (g 0, 1404, .inl (fun _ => 0))) := hA6
            replace hA7 : w85[kA7]? = some (qA7, .inl (g 0, 1600, .inl lx84)) := hA7
            refine lv_iload hx hb d_17_30_186 (lv_at hl 0 rfl) ?_
            refine lv_iload hx hb d_17_30_188 (lv_at hl 6 rfl) ?_
            refine lv_icmp_ge (tgt := 236) hx hb d_17_30_190 (by decide) (fun c89 => ?_) (fun c89 => ?_)
            ·
              refine lv_iload hx hb d_17_30_236 (lv_at hl 1 rfl) ?_
              refine lv_sipush (v := 1080) hx hb d_17_30_238 (by decide) ?_
              refine lv_isub hx hb d_17_30_241 ?_
              refine q_ti (v := 0) (by decide) ?_
              refine lv_istore (lv' := [(8, .int 0), (6, .int 1080), (7, .int ((1080 - x1) + 1)), (0, .ref qO0), (1, .long 0), (3, .int 1), (4, .int x1), (5, .int x2)]) hx hb d_17_30_242 hl (by decide) rfl (fun ls hl => ?_)
              refine lv_aload_n hx hb d_17_30_244 rfl (lv_at hl 3 rfl) ?_
              refine lv_bipush (v := 101) hx hb d_17_30_245 (by decide) ?_
              refine q_gov V (q_runV (As := [.int 101]) (rest := []) (d := 1) (mc := 0) (ms := 0) (ci := 15) C0 V rfl LV_FR_110 (c_FR_add_32 l D g w85 kO0 kA7 qO0 qA1 qA2 qA3 qA4 qA5 qA6 qA7 lx83 lx84 hO0 hA7 (q_Ile (x := 2) (y := lx83.toInt) (by decide) rfl (by have t1 : 1 ≤ x1.toInt := q_nltI c15; have t2 : x1.toInt ≤ 800 := q_nltI c19; have t3 : 1 < x1.toInt := q_nleI c62; have t4 : x1.toInt ≤ lx82.toInt := q_leI c89; omega)) (q_Ile (x := lx83.toInt) (y := 801) rfl (by decide) (by have t1 : 1 ≤ x1.toInt := q_nltI c15; have t2 : x1.toInt ≤ 800 := q_nltI c19; have t3 : 1 < x1.toInt := q_nleI c62; have t4 : x1.toInt ≤ lx82.toInt := q_leI c89; omega)) _) rfl rfl hO0 rfl hl.1 rfl (Nat.le_of_ble_eq_true rfl) ⟨by decide, by decide⟩ ⟨Nat.le_of_ble_eq_true rfl, Nat.le_of_ble_eq_true rfl⟩ d_17_30_247) (fun u91 H locs hp90 V => ?_)
              obtain ⟨hg92, hO0, hA7⟩ := hp90
              replace hF := q_uc hF hg92 (q_sc (.head _) (q_sc (List.mem_of_getElem? (i := 5) rfl) (fun _ h => absurd h List.not_mem_nil)))
              refine lv_aload_n hx hb d_17_30_250 rfl (lv_at hl 3 rfl) ?_
              refine lv_iload hx hb d_17_30_251 (lv_at hl 0 rfl) ?_
              refine lv_if_ge (tgt := 261) hx hb d_17_30_253 (by decide) (fun c93 => ?_) (fun c93 => absurd (by decide) c93)
              refine lv_bipush (v := 43) hx hb d_17_30_261 (by decide) ?_
              refine q_gov V (q_runV (As := [.int 43]) (rest := []) (d := 1) (mc := 0) (ms := 0) (ci := 15) C0 V rfl LV_FR_110 (c_FR_add_31 l D g u91 kO0 kA7 qO0 qA1 qA2 qA3 qA4 qA5 qA6 qA7 (lx83 + 1) (upd lx84 lx83.toNatClampNeg 101) hO0 hA7 (q_Ile (x := 3) (y := (lx83.toInt + 1)) (by decide) (q_addI (x := lx83.toInt) (y := 1) rfl (by decide) (by have t1 : 1 ≤ x1.toInt := q_nltI c15; have t2 : x1.toInt ≤ 800 := q_nltI c19; have t3 : 1 < x1.toInt := q_nleI c62; have t4 : x1.toInt ≤ lx82.toInt := q_leI c89; omega) (by have t1 : 1 ≤ x1.toInt := q_nltI c15; have t2 : x1.toInt ≤ 800 := q_nltI c19; have t3 : 1 < x1.toInt := q_nleI c62; have t4 : x1.toInt ≤ lx82.toInt := q_leI c89; omega)) (by have t1 : 1 ≤ x1.toInt := q_nltI c15; have t2 : x1.toInt ≤ 800 := q_nltI c19; have t3 : 1 < x1.toInt := q_nleI c62; have t4 : x1.toInt ≤ lx82.toInt := q_leI c89; omega)) (q_Ile (x := (lx83.toInt + 1)) (y := 802) (q_addI (x := lx83.toInt) (y := 1) rfl (by decide) (by have t1 : 1 ≤ x1.toInt := q_nltI c15; have t2 : x1.toInt ≤ 800 := q_nltI c19; have t3 : 1 < x1.toInt := q_nleI c62; have t4 : x1.toInt ≤ lx82.toInt := q_leI c89; omega) (by have t1 : 1 ≤ x1.toInt := q_nltI c15; have t2 : x1.toInt ≤ 800 := q_nltI c19; have t3 : 1 < x1.toInt := q_nleI c62; have t4 : x1.toInt ≤ lx82.toInt := q_leI c89; omega)) (by decide) (by have t1 : 1 ≤ x1.toInt := q_nltI c15; have t2 : x1.toInt ≤ 800 := q_nltI c19; have t3 : 1 < x1.toInt := q_nleI c62; have t4 : x1.toInt ≤ lx82.toInt := q_leI c89; omega)) _) rfl rfl hO0 rfl hl.1 rfl (Nat.le_of_ble_eq_true rfl) ⟨by decide, by decide⟩ ⟨Nat.le_of_ble_eq_true rfl, Nat.le_of_ble_eq_true rfl⟩ d_17_30_263) (fun u95 H locs hp94 V => ?_)
              obtain ⟨hg96, hO0, hA7⟩ := hp94
              replace hF := q_uc hF hg96 (q_sc (.head _) (q_sc (List.mem_of_getElem? (i := 5) rfl) (fun _ h => absurd h List.not_mem_nil)))
              refine lv_iload hx hb d_17_30_266 (lv_at hl 0 rfl) ?_
              refine lv_if_ge (tgt := 277) hx hb d_17_30_268 (by decide) (fun c97 => ?_) (fun c97 => absurd (by decide) c97)
              refine lv_iload hx hb d_17_30_277 (lv_at hl 0 rfl) ?_
              refine lv_istore (lv' := [(8, .int 0), (6, .int 1080), (7, .int ((1080 - x1) + 1)), (0, .ref qO0), (1, .long 0), (3, .int 1), (4, .int x1), (5, .int x2)]) hx hb d_17_30_279 hl (by decide) rfl (fun ls hl => ?_)
              refine lv_iload hx hb d_17_30_281 (lv_at hl 0 rfl) ?_
              refine lv_bipush (v := 10) hx hb d_17_30_283 (by decide) ?_
              refine lv_icmp_ge (tgt := 294) hx hb d_17_30_285 (by decide) (fun c98 => absurd c98 (by decide)) (fun c98 => ?_)
              refine lv_aload_n hx hb d_17_30_288 rfl (lv_at hl 3 rfl) ?_
              refine lv_bipush (v := 48) hx hb d_17_30_289 (by decide) ?_
              refine q_gov V (q_runV (As := [.int 48]) (rest := []) (d := 1) (mc := 0) (ms := 0) (ci := 15) C0 V rfl LV_FR_110 (c_FR_add_6 l D g u95 kO0 kA7 qO0 qA1 qA2 qA3 qA4 qA5 qA6 qA7 ((lx83 + 1) + 1) (upd (upd lx84 lx83.toNatClampNeg 101) (lx83 + 1).toNatClampNeg 43) hO0 hA7 (q_Ile (x := 2) (y := ((lx83.toInt + 1) + 1)) (by decide) (q_addI (x := (lx83.toInt + 1)) (y := 1) (q_addI (x := lx83.toInt) (y := 1) rfl (by decide) (by have t1 : 1 ≤ x1.toInt := q_nltI c15; have t2 : x1.toInt ≤ 800 := q_nltI c19; have t3 : 1 < x1.toInt := q_nleI c62; have t4 : x1.toInt ≤ lx82.toInt := q_leI c89; omega) (by have t1 : 1 ≤ x1.toInt := q_nltI c15; have t2 : x1.toInt ≤ 800 := q_nltI c19; have t3 : 1 < x1.toInt := q_nleI c62; have t4 : x1.toInt ≤ lx82.toInt := q_leI c89; omega)) (by decide) (by have t1 : 1 ≤ x1.toInt := q_nltI c15; have t2 : x1.toInt ≤ 800 := q_nltI c19; have t3 : 1 < x1.toInt := q_nleI c62; have t4 : x1.toInt ≤ lx82.toInt := q_leI c89; omega) (by have t1 : 1 ≤ x1.toInt := q_nltI c15; have t2 : x1.toInt ≤ 800 := q_nltI c19; have t3 : 1 < x1.toInt := q_nleI c62; have t4 : x1.toInt ≤ lx82.toInt := q_leI c89; omega)) (by have t1 : 1 ≤ x1.toInt := q_nltI c15; have t2 : x1.toInt ≤ 800 := q_nltI c19; have t3 : 1 < x1.toInt := q_nleI c62; have t4 : x1.toInt ≤ lx82.toInt := q_leI c89; omega)) (q_Ile (x := ((lx83.toInt + 1) + 1)) (y := 1076) (q_addI (x := (lx83.toInt + 1)) (y := 1) (q_addI (x := lx83.toInt) (y := 1) rfl (by decide) (by have t1 : 1 ≤ x1.toInt := q_nltI c15; have t2 : x1.toInt ≤ 800 := q_nltI c19; have t3 : 1 < x1.toInt := q_nleI c62; have t4 : x1.toInt ≤ lx82.toInt := q_leI c89; omega) (by have t1 : 1 ≤ x1.toInt := q_nltI c15; have t2 : x1.toInt ≤ 800 := q_nltI c19; have t3 : 1 < x1.toInt := q_nleI c62; have t4 : x1.toInt ≤ lx82.toInt := q_leI c89; omega)) (by decide) (by have t1 : 1 ≤ x1.toInt := q_nltI c15; have t2 : x1.toInt ≤ 800 := q_nltI c19; have t3 : 1 < x1.toInt := q_nleI c62; have t4 : x1.toInt ≤ lx82.toInt := q_leI c89; omega) (by have t1 : 1 ≤ x1.toInt := q_nltI c15; have t2 : x1.toInt ≤ 800 := q_nltI c19; have t3 : 1 < x1.toInt := q_nleI c62; have t4 : x1.toInt ≤ lx82.toInt := q_leI c89; omega)) (by decide) (by have t1 : 1 ≤ x1.toInt := q_nltI c15; have t2 : x1.toInt ≤ 800 := q_nltI c19; have t3 : 1 < x1.toInt := q_nleI c62; have t4 : x1.toInt ≤ lx82.toInt := q_leI c89; omega)) _) rfl rfl hO0 rfl hl.1 rfl (Nat.le_of_ble_eq_true rfl) ⟨by decide, by decide⟩ ⟨Nat.le_of_ble_eq_true rfl, Nat.le_of_ble_eq_true rfl⟩ d_17_30_291) (fun u100 H locs hp99 V => ?_)
              obtain ⟨hg101, hO0, hA7⟩ := hp99
              replace hF := q_uc hF hg101 (q_sc (.head _) (q_sc (List.mem_of_getElem? (i := 5) rfl) (fun _ h => absurd h List.not_mem_nil)))
              refine lv_aload_n hx hb d_17_30_294 rfl (lv_at hl 3 rfl) ?_
              refine lv_iload hx hb d_17_30_295 (lv_at hl 0 rfl) ?_
              refine q_gov V (q_runV (As := [.int 0]) (rest := []) (d := 2) (mc := 0) (ms := 0) (ci := 15) C0 V rfl LV_FR_149 (c_FR_number_8 l D g u100 kO0 kA7 qO0 qA1 qA2 qA3 qA4 qA5 qA6 qA7 (((lx83 + 1) + 1) + 1) (upd (upd (upd lx84 lx83.toNatClampNeg 101) (lx83 + 1).toNatClampNeg 43) ((lx83 + 1) + 1).toNatClampNeg 48) hO0 hA7 (q_Ile (x := 5) (y := (((lx83.toInt + 1) + 1) + 1)) (by decide) (q_addI (x := ((lx83.toInt + 1) + 1)) (y := 1) (q_addI (x := (lx83.toInt + 1)) (y := 1) (q_addI (x := lx83.toInt) (y := 1) rfl (by decide) (by have t1 : 1 ≤ x1.toInt := q_nltI c15; have t2 : x1.toInt ≤ 800 := q_nltI c19; have t3 : 1 < x1.toInt := q_nleI c62; have t4 : x1.toInt ≤ lx82.toInt := q_leI c89; omega) (by have t1 : 1 ≤ x1.toInt := q_nltI c15; have t2 : x1.toInt ≤ 800 := q_nltI c19; have t3 : 1 < x1.toInt := q_nleI c62; have t4 : x1.toInt ≤ lx82.toInt := q_leI c89; omega)) (by decide) (by have t1 : 1 ≤ x1.toInt := q_nltI c15; have t2 : x1.toInt ≤ 800 := q_nltI c19; have t3 : 1 < x1.toInt := q_nleI c62; have t4 : x1.toInt ≤ lx82.toInt := q_leI c89; omega) (by have t1 : 1 ≤ x1.toInt := q_nltI c15; have t2 : x1.toInt ≤ 800 := q_nltI c19; have t3 : 1 < x1.toInt := q_nleI c62; have t4 : x1.toInt ≤ lx82.toInt := q_leI c89; omega)) (by decide) (by have t1 : 1 ≤ x1.toInt := q_nltI c15; have t2 : x1.toInt ≤ 800 := q_nltI c19; have t3 : 1 < x1.toInt := q_nleI c62; have t4 : x1.toInt ≤ lx82.toInt := q_leI c89; omega) (by have t1 : 1 ≤ x1.toInt := q_nltI c15; have t2 : x1.toInt ≤ 800 := q_nltI c19; have t3 : 1 < x1.toInt := q_nleI c62; have t4 : x1.toInt ≤ lx82.toInt := q_leI c89; omega)) (by have t1 : 1 ≤ x1.toInt := q_nltI c15; have t2 : x1.toInt ≤ 800 := q_nltI c19; have t3 : 1 < x1.toInt := q_nleI c62; have t4 : x1.toInt ≤ lx82.toInt := q_leI c89; omega)) (q_Ile (x := (((lx83.toInt + 1) + 1) + 1)) (y := 804) (q_addI (x := ((lx83.toInt + 1) + 1)) (y := 1) (q_addI (x := (lx83.toInt + 1)) (y := 1) (q_addI (x := lx83.toInt) (y := 1) rfl (by decide) (by have t1 : 1 ≤ x1.toInt := q_nltI c15; have t2 : x1.toInt ≤ 800 := q_nltI c19; have t3 : 1 < x1.toInt := q_nleI c62; have t4 : x1.toInt ≤ lx82.toInt := q_leI c89; omega) (by have t1 : 1 ≤ x1.toInt := q_nltI c15; have t2 : x1.toInt ≤ 800 := q_nltI c19; have t3 : 1 < x1.toInt := q_nleI c62; have t4 : x1.toInt ≤ lx82.toInt := q_leI c89; omega)) (by decide) (by have t1 : 1 ≤ x1.toInt := q_nltI c15; have t2 : x1.toInt ≤ 800 := q_nltI c19; have t3 : 1 < x1.toInt := q_nleI c62; have t4 : x1.toInt ≤ lx82.toInt := q_leI c89; omega) (by have t1 : 1 ≤ x1.toInt := q_nltI c15; have t2 : x1.toInt ≤ 800 := q_nltI c19; have t3 : 1 < x1.toInt := q_nleI c62; have t4 : x1.toInt ≤ lx82.toInt := q_leI c89; omega)) (by decide) (by have t1 : 1 ≤ x1.toInt := q_nltI c15; have t2 : x1.toInt ≤ 800 := q_nltI c19; have t3 : 1 < x1.toInt := q_nleI c62; have t4 : x1.toInt ≤ lx82.toInt := q_leI c89; omega) (by have t1 : 1 ≤ x1.toInt := q_nltI c15; have t2 : x1.toInt ≤ 800 := q_nltI c19; have t3 : 1 < x1.toInt := q_nleI c62; have t4 : x1.toInt ≤ lx82.toInt := q_leI c89; omega)) (by decide) (by have t1 : 1 ≤ x1.toInt := q_nltI c15; have t2 : x1.toInt ≤ 800 := q_nltI c19; have t3 : 1 < x1.toInt := q_nleI c62; have t4 : x1.toInt ≤ lx82.toInt := q_leI c89; omega)) _) rfl rfl hO0 rfl hl.1 rfl (Nat.le_of_ble_eq_true rfl) ⟨by decide, by decide⟩ ⟨Nat.le_of_ble_eq_true rfl, Nat.le_of_ble_eq_true rfl⟩ d_17_30_297) (fun u103 H locs hp102 V => ?_)
              obtain ⟨hg104, hO0, hA7⟩ := hp102
              replace hF := q_uc hF hg104 (q_sc (.head _) (q_sc (List.mem_of_getElem? (i := 5) rfl) (fun _ h => absurd h List.not_mem_nil)))
              refine lv_aload_n hx hb d_17_30_300 rfl (lv_at hl 3 rfl) ?_
              refine q_get (ci := 15) (j := 8) (v := .int ((((lx83 + 1) + 1) + 1) + 1)) C0 V i_FR rfl rfl hO0 (by decide) w_2084 rfl d_17_30_301 ?_
              replace hA1 := (hg104 _ (q_nc n_A1_O0 (q_nc n_A1_A7 List.not_mem_nil))).trans ((hg101 _ (q_nc n_A1_O0 (q_nc n_A1_A7 List.not_mem_nil))).trans ((hg96 _ (q_nc n_A1_O0 (q_nc n_A1_A7 List.not_mem_nil))).trans ((hg92 _ (q_nc n_A1_O0 (q_nc n_A1_A7 List.not_mem_nil))).trans (hA1))))
              replace hA2 := (hg104 _ (q_nc n_A2_O0 (q_nc n_A2_A7 List.not_mem_nil))).trans ((hg101 _ (q_nc n_A2_O0 (q_nc n_A2_A7 List.not_mem_nil))).trans ((hg96 _ (q_nc n_A2_O0 (q_nc n_A2_A7 List.not_mem_nil))).trans ((hg92 _ (q_nc n_A2_O0 (q_nc n_A2_A7 List.not_mem_nil))).trans (hA2))))
              replace hA3 := (hg104 _ (q_nc n_A3_O0 (q_nc n_A3_A7 List.not_mem_nil))).trans ((hg101 _ (q_nc n_A3_O0 (q_nc n_A3_A7 List.not_mem_nil))).trans ((hg96 _ (q_nc n_A3_O0 (q_nc n_A3_A7 List.not_mem_nil))).trans ((hg92 _ (q_nc n_A3_O0 (q_nc n_A3_A7 List.not_mem_nil))).trans (hA3))))
              replace hA6 := (hg104 _ (q_nc n_A6_O0 (q_nc n_A6_A7 List.not_mem_nil))).trans ((hg101 _ (q_nc n_A6_O0 (q_nc n_A6_A7 List.not_mem_nil))).trans ((hg96 _ (q_nc n_A6_O0 (q_nc n_A6_A7 List.not_mem_nil))).trans ((hg92 _ (q_nc n_A6_O0 (q_nc n_A6_A7 List.not_mem_nil))).trans (hA6))))
              exact q_reti C0 V (Or.inr (Or.inr (Or.inr (Or.inr (Or.inl ⟨lx83, y38, lx84, c15, c19, c23, c27, c62, (show ((x1.toInt < 1 ∧ lx83.toInt = 2) ∨ (1 ≤ x1.toInt ∧ lx83.toInt = 2 + 1 * (x1.toInt - 1))) from by have t1 : 1 ≤ x1.toInt := q_nltI c15; have t2 : x1.toInt ≤ 800 := q_nltI c19; have t3 : 0 ≤ x2.toInt := q_nltI c23; have t4 : x2.toInt ≤ 3 := q_leI c27; have t5 : 1 < x1.toInt := q_nleI c62; have t6 : x1.toInt ≤ lx82.toInt := q_leI c89; have eb : (x1 : Int32).toInt = x1.toInt := rfl; omega), (q_Ile (x := 2) (y := lx83.toInt) (by decide) rfl (by have t1 : 1 ≤ x1.toInt := q_nltI c15; have t2 : x1.toInt ≤ 800 := q_nltI c19; have t3 : 1 < x1.toInt := q_nleI c62; have t4 : x1.toInt ≤ lx82.toInt := q_leI c89; omega)), (q_Ile (x := lx83.toInt) (y := 801) rfl (by decide) (by have t1 : 1 ≤ x1.toInt := q_nltI c15; have t2 : x1.toInt ≤ 800 := q_nltI c19; have t3 : 1 < x1.toInt := q_nleI c62; have t4 : x1.toInt ≤ lx82.toInt := q_leI c89; omega)), rfl, hF, hO0, hA1, hA2, hA3, hA6, hA7⟩))))) d_17_30_304
            ·
              refine lv_aload_n hx hb d_17_30_193 rfl (lv_at hl 3 rfl) ?_
              refine lv_bipush (v := 48) hx hb d_17_30_194 (by decide) ?_
              refine lv_aload_n hx hb d_17_30_196 rfl (lv_at hl 3 rfl) ?_
              refine lv_iload hx hb d_17_30_197 (lv_at hl 1 rfl) ?_
              refine lv_sipush (v := 1080) hx hb d_17_30_199 (by decide) ?_
              refine lv_isub hx hb d_17_30_202 ?_
              refine q_ti (v := 0) (by decide) ?_
              refine lv_iload hx hb d_17_30_203 (lv_at hl 0 rfl) ?_
              refine lv_isub hx hb d_17_30_205 ?_
              refine q_goi V (q_runV (As := [.int (0 - lx82)]) (rest := [.int 48, .ref qO0]) (d := 1) (mc := 0) (ms := 0) (ci := 15) C0 V rfl LV_FR_169 (c_FR_figureAt_4 l D g w85 kO0 kA6 qO0 qA1 qA2 qA3 qA4 qA5 qA6 qA7 (0 - lx82) lx83 hO0 hA6 (q_Ile (x := (-1074)) (y := (0 - lx82.toInt)) (by decide) (q_subI (x := 0) (y := lx82.toInt) (by decide) rfl (by have t1 : 1 ≤ x1.toInt := q_nltI c15; have t2 : x1.toInt ≤ 800 := q_nltI c19; have t3 : 1 < x1.toInt := q_nleI c62; have t4 : lx82.toInt < x1.toInt := q_nleI c89; omega) (by have t1 : 1 ≤ x1.toInt := q_nltI c15; have t2 : x1.toInt ≤ 800 := q_nltI c19; have t3 : 1 < x1.toInt := q_nleI c62; have t4 : lx82.toInt < x1.toInt := q_nleI c89; omega)) (by have t1 : 1 ≤ x1.toInt := q_nltI c15; have t2 : x1.toInt ≤ 800 := q_nltI c19; have t3 : 1 < x1.toInt := q_nleI c62; have t4 : lx82.toInt < x1.toInt := q_nleI c89; omega)) (q_Ile (x := (0 - lx82.toInt)) (y := (-1)) (q_subI (x := 0) (y := lx82.toInt) (by decide) rfl (by have t1 : 1 ≤ x1.toInt := q_nltI c15; have t2 : x1.toInt ≤ 800 := q_nltI c19; have t3 : 1 < x1.toInt := q_nleI c62; have t4 : lx82.toInt < x1.toInt := q_nleI c89; omega) (by have t1 : 1 ≤ x1.toInt := q_nltI c15; have t2 : x1.toInt ≤ 800 := q_nltI c19; have t3 : 1 < x1.toInt := q_nleI c62; have t4 : lx82.toInt < x1.toInt := q_nleI c89; omega)) (by decide) (by have t1 : 1 ≤ x1.toInt := q_nltI c15; have t2 : x1.toInt ≤ 800 := q_nltI c19; have t3 : 1 < x1.toInt := q_nleI c62; have t4 : lx82.toInt < x1.toInt := q_nleI c89; omega)) (q_Ile (x := 2) (y := lx83.toInt) (by decide) rfl (by have t1 : 1 ≤ x1.toInt := q_nltI c15; have t2 : x1.toInt ≤ 800 := q_nltI c19; have t3 : 1 < x1.toInt := q_nleI c62; have t4 : lx82.toInt < x1.toInt := q_nleI c89; omega)) (q_Ile (x := lx83.toInt) (y := 1076) rfl (by decide) (by have t1 : 1 ≤ x1.toInt := q_nltI c15; have t2 : x1.toInt ≤ 800 := q_nltI c19; have t3 : 1 < x1.toInt := q_nleI c62; have t4 : lx82.toInt < x1.toInt := q_nleI c89; omega)) _) rfl rfl hO0 rfl hl.1 rfl (Nat.le_of_ble_eq_true rfl) ⟨by decide, by decide⟩ ⟨Nat.le_of_ble_eq_true rfl, Nat.le_of_ble_eq_true rfl⟩ d_17_30_206) (fun v107 u106 H locs hp105 V => ?_)
              obtain ⟨rfl, rfl⟩ := hp105
              refine lv_iadd hx hb d_17_30_209 ?_
              refine q_ti (v := 48) (by decide) ?_
              refine q_gov V (q_runV (As := [.int 48]) (rest := []) (d := 1) (mc := 0) (ms := 0) (ci := 15) C0 V rfl LV_FR_110 (c_FR_add_6 l D g w85 kO0 kA7 qO0 qA1 qA2 qA3 qA4 qA5 qA6 qA7 lx83 lx84 hO0 hA7 (q_Ile (x := 2) (y := lx83.toInt) (by decide) rfl (by have t1 : 1 ≤ x1.toInt := q_nltI c15; have t2 : x1.toInt ≤ 800 := q_nltI c19; have t3 : 1 < x1.toInt := q_nleI c62; have t4 : lx82.toInt < x1.toInt := q_nleI c89; omega)) (q_Ile (x := lx83.toInt) (y := 1076) rfl (by decide) (by have t1 : 1 ≤ x1.toInt := q_nltI c15; have t2 : x1.toInt ≤ 800 := q_nltI c19; have t3 : 1 < x1.toInt := q_nleI c62; have t4 : lx82.toInt < x1.toInt := q_nleI c89; omega)) _) rfl rfl hO0 rfl hl.1 rfl (Nat.le_of_ble_eq_true rfl) ⟨by decide, by decide⟩ ⟨Nat.le_of_ble_eq_true rfl, Nat.le_of_ble_eq_true rfl⟩ d_17_30_210) (fun u110 H locs hp109 V => ?_)
              obtain ⟨hg111, hO0, hA7⟩ := hp109
              replace hF := q_uc hF hg111 (q_sc (.head _) (q_sc (List.mem_of_getElem? (i := 5) rfl) (fun _ h => absurd h List.not_mem_nil)))
              refine lv_iload hx hb d_17_30_213 (lv_at hl 0 rfl) ?_
              refine lv_if_ne (tgt := 230) hx hb d_17_30_215 (by decide) (fun c112 => ?_) (fun c112 => absurd c112 (q_Ine (x := lx82.toInt) (y := 0) rfl (by decide) (by have t1 : 1 ≤ x1.toInt := q_nltI c15; have t2 : x1.toInt ≤ 800 := q_nltI c19; have t3 : 1 < x1.toInt := q_nleI c62; have t4 : lx82.toInt < x1.toInt := q_nleI c89; omega)))
              refine lv_iinc (v := lx82 + 1) (lv' := [(8, .int (lx82 + 1)), (6, .int 1080), (7, .int ((1080 - x1) + 1)), (0, .ref qO0), (1, .long 0), (3, .int 1), (4, .int x1), (5, .int x2)]) hx hb d_17_30_230 hl (k := 0) rfl (rfl) (by decide) rfl (fun ls hl => ?_)
              refine lv_goto (tgt := 186) hx hb d_17_30_233 (by decide) ?_
              replace hA1 := (hg111 _ (q_nc n_A1_O0 (q_nc n_A1_A7 List.not_mem_nil))).trans (hA1)
              replace hA2 := (hg111 _ (q_nc n_A2_O0 (q_nc n_A2_A7 List.not_mem_nil))).trans (hA2)
              replace hA3 := (hg111 _ (q_nc n_A3_O0 (q_nc n_A3_A7 List.not_mem_nil))).trans (hA3)
              replace hA6 := (hg111 _ (q_nc n_A6_O0 (q_nc n_A6_A7 List.not_mem_nil))).trans (hA6)
              exact ih88 ((lx82 + 1 : Int32), (lx83 + 1 : Int32), (upd lx84 lx83.toNatClampNeg 48 : Nat → Int32)) _ _ _ _ (show (x1.toInt - (lx82 + 1).toInt).toNat < (x1.toInt - lx82.toInt).toNat from by have t1 : 1 ≤ x1.toInt := q_nltI c15; have t2 : x1.toInt ≤ 800 := q_nltI c19; have t3 : 1 < x1.toInt := q_nleI c62; have t4 : lx82.toInt < x1.toInt := q_nleI c89; have e : (lx82 + 1).toInt = (lx82.toInt + 1) := (q_addI (x := lx82.toInt) (y := 1) rfl (by decide) (by have t1 : 1 ≤ x1.toInt := q_nltI c15; have t2 : x1.toInt ≤ 800 := q_nltI c19; have t3 : 1 < x1.toInt := q_nleI c62; have t4 : lx82.toInt < x1.toInt := q_nleI c89; omega) (by have t1 : 1 ≤ x1.toInt := q_nltI c15; have t2 : x1.toInt ≤ 800 := q_nltI c19; have t3 : 1 < x1.toInt := q_nleI c62; have t4 : lx82.toInt < x1.toInt := q_nleI c89; omega)); omega) ⟨(show 1 ≤ (lx82 + 1).toInt ∧ ((lx82 + 1).toInt ≤ x1.toInt ∨ (lx82 + 1).toInt = 1) from by have t1 : 1 ≤ x1.toInt := q_nltI c15; have t2 : x1.toInt ≤ 800 := q_nltI c19; have t3 : 1 < x1.toInt := q_nleI c62; have t4 : lx82.toInt < x1.toInt := q_nleI c89; have e : (lx82 + 1).toInt = (lx82.toInt + 1) := (q_addI (x := lx82.toInt) (y := 1) rfl (by decide) (by have t1 : 1 ≤ x1.toInt := q_nltI c15; have t2 : x1.toInt ≤ 800 := q_nltI c19; have t3 : 1 < x1.toInt := q_nleI c62; have t4 : lx82.toInt < x1.toInt := q_nleI c89; omega) (by have t1 : 1 ≤ x1.toInt := q_nltI c15; have t2 : x1.toInt ≤ 800 := q_nltI c19; have t3 : 1 < x1.toInt := q_nleI c62; have t4 : lx82.toInt < x1.toInt := q_nleI c89; omega)); omega), (show (lx83 + 1 : Int32).toInt = 2 + 1 * ((lx82 + 1 : Int32).toInt - 1) from by have t1 : 1 ≤ x1.toInt := q_nltI c15; have t2 : x1.toInt ≤ 800 := q_nltI c19; have t3 : 0 ≤ x2.toInt := q_nltI c23; have t4 : x2.toInt ≤ 3 := q_leI c27; have t5 : 1 < x1.toInt := q_nleI c62; have t6 : lx82.toInt < x1.toInt := q_nleI c89; have e0 : (lx82 + 1 : Int32).toInt = (lx82.toInt + 1) := (q_addI (x := lx82.toInt) (y := 1) rfl (by decide) (by have t1 : 1 ≤ x1.toInt := q_nltI c15; have t2 : x1.toInt ≤ 800 := q_nltI c19; have t3 : 1 < x1.toInt := q_nleI c62; have t4 : lx82.toInt < x1.toInt := q_nleI c89; omega) (by have t1 : 1 ≤ x1.toInt := q_nltI c15; have t2 : x1.toInt ≤ 800 := q_nltI c19; have t3 : 1 < x1.toInt := q_nleI c62; have t4 : lx82.toInt < x1.toInt := q_nleI c89; omega)); have e1 : (lx83 + 1 : Int32).toInt = (lx83.toInt + 1) := (q_addI (x := lx83.toInt) (y := 1) rfl (by decide) (by have t1 : 1 ≤ x1.toInt := q_nltI c15; have t2 : x1.toInt ≤ 800 := q_nltI c19; have t3 : 1 < x1.toInt := q_nleI c62; have t4 : lx82.toInt < x1.toInt := q_nleI c89; omega) (by have t1 : 1 ≤ x1.toInt := q_nltI c15; have t2 : x1.toInt ≤ 800 := q_nltI c19; have t3 : 1 < x1.toInt := q_nleI c62; have t4 : lx82.toInt < x1.toInt := q_nleI c89; omega)); omega), V, q_lw hl (q_lw1 0 rfl (q_lw1 1 rfl (q_lw1 2 rfl (q_lw1 3 rfl (q_lw1 4 rfl (q_lw1 5 rfl (q_lw1 6 rfl (q_lw1 7 rfl q_lw0)))))))), hF, hO0, hA1, hA2, hA3, hA6, hA7⟩
        ·
          refine lv_iconst (v := 1) hx hb d_17_30_56 (by decide) ?_
          refine lv_goto (tgt := 72) hx hb d_17_30_57 (by decide) ?_
          refine q_put (ci := 15) (j := 0) (v := .int 1) (ty := .int) C0 V i_FR o_FR n_FR rfl rfl hO0 (by decide) w_2074 rfl rfl rfl rfl (Nat.le_of_ble_eq_true rfl) d_17_30_72 (fun H locs w113 hu114 hO0 V => ?_)
          replace hO0 : w113[kO0]? = some (qO0, .inr (15, [.int 1, .ref qA1, .ref qA2, .ref qA3, .ref qA4, .ref qA5, .ref qA6, .ref qA7, .int 0, .int 0, .int 0, .long 0, .int 23, .int 255, .long 0, .int (-149), .long 0, .int 0])) := hO0
          replace hF := q_us hF hu114 (.head _)
          refine lv_aload_n hx hb d_17_30_75 rfl (lv_at hl 0 rfl) ?_
          refine q_get (ci := 15) (j := 0) (v := .int 1) C0 V i_FR rfl rfl hO0 (by decide) w_2074 rfl d_17_30_76 ?_
          refine lv_if_le (tgt := 84) hx hb d_17_30_79 (by decide) (fun c115 => absurd c115 (by decide)) (fun c115 => ?_)
          refine lv_iconst (v := 0) hx hb d_17_30_82 (by decide) ?_
          replace hA1 := (hu114 _ n_A1_O0).trans ((hg9 _ (q_nc n_A1_O0 List.not_mem_nil)).trans (hA1))
          replace hA2 := (hu114 _ n_A2_O0).trans ((hg9 _ (q_nc n_A2_O0 List.not_mem_nil)).trans (hA2))
          replace hA3 := (hu114 _ n_A3_O0).trans ((hg9 _ (q_nc n_A3_O0 List.not_mem_nil)).trans (hA3))
          replace hA6 := (hu114 _ n_A6_O0).trans ((hg9 _ (q_nc n_A6_O0 List.not_mem_nil)).trans (hA6))
          replace hA7 := (hu114 _ n_A7_O0).trans ((hg9 _ (q_nc n_A7_O0 List.not_mem_nil)).trans (hA7))
          exact q_reti C0 V (Or.inr (Or.inr (Or.inr (Or.inr (Or.inr (⟨c15, c19, c23, c27, rfl, hF, hO0, hA1, hA2, hA3, hA6, hA7⟩)))))) d_17_30_83
theorem d_14_34_0 : decode prog_14_method_34_code 0 = .ok (.aload_n 0, 1) := by decide +kernel
theorem d_14_34_1 : decode prog_14_method_34_code 1 = .ok (.iload_n 1, 1) := by decide +kernel
theorem d_14_34_2 : decode prog_14_method_34_code 2 = .ok (.iconst 2, 1) := by decide +kernel
theorem d_14_34_3 : decode prog_14_method_34_code 3 = .ok (.if_icmp .lt 11, 3) := by decide +kernel
theorem d_14_34_14 : decode prog_14_method_34_code 14 = .ok (.iconst 1, 1) := by decide +kernel
theorem d_14_34_15 : decode prog_14_method_34_code 15 = .ok (.goto 4, 3) := by decide +kernel
theorem d_14_34_19 : decode prog_14_method_34_code 19 = .ok (.putfield 58, 3) := by decide +kernel
theorem d_14_34_22 : decode prog_14_method_34_code 22 = .ok (.aload_n 0, 1) := by decide +kernel
theorem d_14_34_23 : decode prog_14_method_34_code 23 = .ok (.getfield 58, 3) := by decide +kernel
theorem d_14_34_26 : decode prog_14_method_34_code 26 = .ok (.ifCond .le 5, 3) := by decide +kernel
theorem d_14_34_29 : decode prog_14_method_34_code 29 = .ok (.iconst 0, 1) := by decide +kernel
theorem d_14_34_30 : decode prog_14_method_34_code 30 = .ok (.ireturn, 1) := by decide +kernel
theorem d_14_34_6 : decode prog_14_method_34_code 6 = .ok (.iload_n 1, 1) := by decide +kernel
theorem d_14_34_7 : decode prog_14_method_34_code 7 = .ok (.iload_n 2, 1) := by decide +kernel
theorem d_14_34_8 : decode prog_14_method_34_code 8 = .ok (.invokestatic 84, 3) := by decide +kernel
theorem d_14_34_11 : decode prog_14_method_34_code 11 = .ok (.ifCond .eq 7, 3) := by decide +kernel
theorem d_14_34_18 : decode prog_14_method_34_code 18 = .ok (.iconst 0, 1) := by decide +kernel
theorem d_14_34_31 : decode prog_14_method_34_code 31 = .ok (.aload_n 0, 1) := by decide +kernel
theorem d_14_34_32 : decode prog_14_method_34_code 32 = .ok (.iload_n 1, 1) := by decide +kernel
theorem d_14_34_33 : decode prog_14_method_34_code 33 = .ok (.iload_n 2, 1) := by decide +kernel
theorem d_14_34_34 : decode prog_14_method_34_code 34 = .ok (.invokevirtual 138, 3) := by decide +kernel
theorem d_14_34_37 : decode prog_14_method_34_code 37 = .ok (.lstore 6, 2) := by decide +kernel
theorem d_14_34_39 : decode prog_14_method_34_code 39 = .ok (.iload_n 3, 1) := by decide +kernel
theorem d_14_34_40 : decode prog_14_method_34_code 40 = .ok (.ifCond .eq 29, 3) := by decide +kernel
theorem d_14_34_69 : decode prog_14_method_34_code 69 = .ok (.aload_n 0, 1) := by decide +kernel
theorem d_14_34_70 : decode prog_14_method_34_code 70 = .ok (.getfield 33, 3) := by decide +kernel
theorem d_14_34_73 : decode prog_14_method_34_code 73 = .ok (.lload 6, 2) := by decide +kernel
theorem d_14_34_75 : decode prog_14_method_34_code 75 = .ok (.iload_n 1, 1) := by decide +kernel
theorem d_14_34_76 : decode prog_14_method_34_code 76 = .ok (.iconst 3, 1) := by decide +kernel
theorem d_14_34_77 : decode prog_14_method_34_code 77 = .ok (.if_icmp .ne 7, 3) := by decide +kernel
theorem d_14_34_84 : decode prog_14_method_34_code 84 = .ok (.iconst 0, 1) := by decide +kernel
theorem d_14_34_85 : decode prog_14_method_34_code 85 = .ok (.iload 4, 2) := by decide +kernel
theorem d_14_34_87 : decode prog_14_method_34_code 87 = .ok (.iload 5, 2) := by decide +kernel
theorem d_14_34_89 : decode prog_14_method_34_code 89 = .ok (.invokevirtual 227, 3) := by decide +kernel
theorem d_14_34_92 : decode prog_14_method_34_code 92 = .ok (.istore 8, 2) := by decide +kernel
theorem d_14_34_94 : decode prog_14_method_34_code 94 = .ok (.aload_n 0, 1) := by decide +kernel
theorem d_14_34_95 : decode prog_14_method_34_code 95 = .ok (.aload_n 0, 1) := by decide +kernel
theorem d_14_34_96 : decode prog_14_method_34_code 96 = .ok (.getfield 33, 3) := by decide +kernel
theorem d_14_34_99 : decode prog_14_method_34_code 99 = .ok (.getfield 282, 3) := by decide +kernel
theorem wo_2075 : (Cond.fieldLinkNest "NumberHouseModel" (282 : Nat) "NumberHouseModel$FloatRows" "thrown" "I" "NumberHouseModel") ∈ q_odd := q_oo 2075 (by decide +kernel) (by decide +kernel)
theorem d_14_34_102 : decode prog_14_method_34_code 102 = .ok (.putfield 58, 3) := by decide +kernel
theorem d_14_34_105 : decode prog_14_method_34_code 105 = .ok (.aload_n 0, 1) := by decide +kernel
theorem d_14_34_106 : decode prog_14_method_34_code 106 = .ok (.getfield 58, 3) := by decide +kernel
theorem d_14_34_109 : decode prog_14_method_34_code 109 = .ok (.ifCond .le 7, 3) := by decide +kernel
theorem d_14_34_112 : decode prog_14_method_34_code 112 = .ok (.iconst 0, 1) := by decide +kernel
theorem d_14_34_113 : decode prog_14_method_34_code 113 = .ok (.goto 16, 3) := by decide +kernel
theorem d_14_34_129 : decode prog_14_method_34_code 129 = .ok (.ireturn, 1) := by decide +kernel
theorem d_14_34_116 : decode prog_14_method_34_code 116 = .ok (.aload_n 0, 1) := by decide +kernel
theorem d_14_34_117 : decode prog_14_method_34_code 117 = .ok (.aload_n 0, 1) := by decide +kernel
theorem d_14_34_118 : decode prog_14_method_34_code 118 = .ok (.getfield 33, 3) := by decide +kernel
theorem d_14_34_121 : decode prog_14_method_34_code 121 = .ok (.getfield 231, 3) := by decide +kernel
theorem d_14_34_124 : decode prog_14_method_34_code 124 = .ok (.iload 8, 2) := by decide +kernel
theorem d_14_34_126 : decode prog_14_method_34_code 126 = .ok (.invokevirtual 269, 3) := by decide +kernel
theorem d_14_34_80 : decode prog_14_method_34_code 80 = .ok (.iconst 1, 1) := by decide +kernel
theorem d_14_34_81 : decode prog_14_method_34_code 81 = .ok (.goto 4, 3) := by decide +kernel
theorem d_14_34_43 : decode prog_14_method_34_code 43 = .ok (.aload_n 0, 1) := by decide +kernel
theorem d_14_34_44 : decode prog_14_method_34_code 44 = .ok (.getfield 33, 3) := by decide +kernel
theorem d_14_34_47 : decode prog_14_method_34_code 47 = .ok (.lload 6, 2) := by decide +kernel
theorem d_14_34_49 : decode prog_14_method_34_code 49 = .ok (.iload_n 1, 1) := by decide +kernel
theorem d_14_34_50 : decode prog_14_method_34_code 50 = .ok (.iconst 3, 1) := by decide +kernel
theorem d_14_34_51 : decode prog_14_method_34_code 51 = .ok (.if_icmp .ne 7, 3) := by decide +kernel
theorem d_14_34_58 : decode prog_14_method_34_code 58 = .ok (.iconst 0, 1) := by decide +kernel
theorem d_14_34_59 : decode prog_14_method_34_code 59 = .ok (.iload 4, 2) := by decide +kernel
theorem d_14_34_61 : decode prog_14_method_34_code 61 = .ok (.iload 5, 2) := by decide +kernel
theorem d_14_34_63 : decode prog_14_method_34_code 63 = .ok (.invokevirtual 279, 3) := by decide +kernel
theorem w_3064 : (Cond.code ({ cls := "NumberHouseModel$FloatRows", name := "scientific", desc := "(JZII)I" } : MethodName) prog_17_method_30_code (9 : Nat) (some .int)) ∈ q_tbl := q_of 3064 (by decide +kernel) (by decide +kernel)
theorem w_3061 : (Cond.methodLink "NumberHouseModel" (279 : Nat) ({ cls := "NumberHouseModel$FloatRows", name := "scientific", desc := "(JZII)I" } : MethodName)) ∈ q_tbl := q_of 3061 (by decide +kernel) (by decide +kernel)
theorem w_3062 : (Cond.instanceMethod ({ cls := "NumberHouseModel$FloatRows", name := "scientific", desc := "(JZII)I" } : MethodName)) ∈ q_tbl := q_of 3062 (by decide +kernel) (by decide +kernel)
theorem w_3063 : (Cond.selects "NumberHouseModel$FloatRows" ({ cls := "NumberHouseModel$FloatRows", name := "scientific", desc := "(JZII)I" } : MethodName) ({ cls := "NumberHouseModel$FloatRows", name := "scientific", desc := "(JZII)I" } : MethodName)) ∈ q_tbl := q_of 3063 (by decide +kernel) (by decide +kernel)
theorem LV_NM_279 : q_LV "NumberHouseModel" 279 y_FR_scientific prog_17_method_30_code 9 (some .int) 4 := ⟨w_3064, w_17, w_3061, w_3062, w_3063, ⟨by decide, by decide, by decide +kernel⟩⟩
theorem d_14_34_66 : decode prog_14_method_34_code 66 = .ok (.goto 26, 3) := by decide +kernel
theorem d_14_34_54 : decode prog_14_method_34_code 54 = .ok (.iconst 1, 1) := by decide +kernel
theorem d_14_34_55 : decode prog_14_method_34_code 55 = .ok (.goto 4, 3) := by decide +kernel
def y_NM_figures : MethodName := ⟨"NumberHouseModel", "figures", "(IIZII)I"⟩
set_option maxRecDepth 100000 in
set_option maxHeartbeats 4000000 in
/-- figures on a fresh object -/
theorem c_NM_figures (l : Launch) (D : va_G) (g : Nat → ClassId) (ws : va_W) ( qO0 qA1 qA2 qO3 qO4 qO5 qO6 qO7 qA8 qA9 qA34 qA35 qA36 qA37 qA38 qA39 qA40 : Nat) (x1 : Int32) (x2 : Int32) (x3 : Int32) (x4 : Int32) (x5 : Int32) (hO0 : ws[116]? = some (qO0, .inr (12, [.int 0, .ref qA1, .int 0, .ref qA2, .int 0, .ref qO3, .ref qO4, .ref qO5, .ref qO6, .ref qO7, .ref qA8, .ref qA9]))) (hA2 : ws[118]? = some (qA2, .inl (g 0, 12200, .inl (fun _ => 0)))) (hO5 : ws[145]? = some (qO5, .inr (15, [.int 0, .ref qA34, .ref qA35, .ref qA36, .ref qA37, .ref qA38, .ref qA39, .ref qA40, .int 0, .int 0, .int 0, .long 0, .int 0, .int 0, .long 0, .int 0, .long 0, .int 0]))) (hA8 : ws[167]? = some (qA8, .inl (g 1, 20, .inr (.inl (fun _ => 0))))) (hA34 : ws[146]? = some (qA34, .inl (g 0, 156, .inl (fun _ => 0)))) (hA35 : ws[147]? = some (qA35, .inl (g 0, 156, .inl (fun _ => 0)))) (hA36 : ws[148]? = some (qA36, .inl (g 0, 1404, .inl (fun _ => 0)))) (hA39 : ws[151]? = some (qA39, .inl (g 0, 1404, .inl (fun _ => 0)))) (hA40 : ws[152]? = some (qA40, .inl (g 0, 1600, .inl (fun _ => 0)))) : q_mI l y_NM_figures prog_14_method_34_code 9 (.int) 4 0 0 D g [.ref qO0, .int x1, .int x2, .int x3, .int x4, .int x5] ws (fun r u => ∃ (t0 z2 z4 : Int32), u[116]? = some (qO0, .inr (12, [.int t0, .ref qA1, .int z2, .ref qA2, .int z4, .ref qO3, .ref qO4, .ref qO5, .ref qO6, .ref qO7, .ref qA8, .ref qA9])) ∧ ((t0.toInt = 0 ∧ ((2 ≤ x1.toInt ∧ x1.toInt ≤ 3) ∧ (0 ≤ x2.toInt ∧ x2.toInt ≤ 9) ∧ (0 ≤ x5.toInt ∧ x5.toInt ≤ 3) ∧ (x3.toInt ≠ 0 → (1 ≤ x4.toInt ∧ x4.toInt ≤ 800)) ∧ (x3.toInt = 0 → (0 ≤ x4.toInt ∧ x4.toInt ≤ 1100))) ∧ ((x3.toInt ≠ 0 ∧ x4.toInt = 1 ∧ r.toInt = 5) ∨ (x3.toInt ≠ 0 ∧ 1 < x4.toInt ∧ r.toInt = x4.toInt + 5) ∨ (x3.toInt = 0 ∧ x4.toInt = 0 ∧ r.toInt = 1) ∨ (x3.toInt = 0 ∧ 0 < x4.toInt ∧ r.toInt = x4.toInt + 2))) ∨ (t0.toInt = 1 ∧ ¬ ((2 ≤ x1.toInt ∧ x1.toInt ≤ 3) ∧ (0 ≤ x2.toInt ∧ x2.toInt ≤ 9) ∧ (0 ≤ x5.toInt ∧ x5.toInt ≤ 3) ∧ (x3.toInt ≠ 0 → (1 ≤ x4.toInt ∧ x4.toInt ≤ 800)) ∧ (x3.toInt = 0 → (0 ≤ x4.toInt ∧ x4.toInt ≤ 1100))))) ∧ q_ge 169 ws u) := by
  intro sz
  refine q_into (by decide) (Nat.le_of_ble_eq_true rfl) ?_
  intro p e s m below meth c ls hsz C0 V hl
  have hx := C0.1
  have hb := C0.2.1
  have hl : lv_has ls 9 [(0, .ref qO0), (1, .int x1), (2, .int x2), (3, .int x3), (4, .int x4), (5, .int x5)] := hl
  have hF : q_ge 169 ws ws := q_g0
  refine lv_aload_n hx hb d_14_34_0 rfl (lv_at hl 0 rfl) ?_
  refine lv_iload_n hx hb d_14_34_1 rfl (lv_at hl 1 rfl) ?_
  refine lv_iconst (v := 2) hx hb d_14_34_2 (by decide) ?_
  refine lv_icmp_lt (tgt := 14) hx hb d_14_34_3 (by decide) (fun c1 => ?_) (fun c1 => ?_)
  ·
    refine lv_iconst (v := 1) hx hb d_14_34_14 (by decide) ?_
    refine lv_goto (tgt := 19) hx hb d_14_34_15 (by decide) ?_
    refine q_put (ci := 12) (j := 0) (v := .int 1) (ty := .int) C0 V i_NM o_NM n_NM rfl rfl hO0 (by decide) w_2298 rfl rfl rfl rfl (Nat.le_of_ble_eq_true rfl) d_14_34_19 (fun H locs w2 hu3 hO0 V => ?_)
    replace hO0 : w2[116]? = some (qO0, .inr (12, [.int 1, .ref qA1, .int 0, .ref qA2, .int 0, .ref qO3, .ref qO4, .ref qO5, .ref qO6, .ref qO7, .ref qA8, .ref qA9])) := hO0
    replace hF := q_gs hF hu3 (Nat.le_of_ble_eq_true rfl)
    refine lv_aload_n hx hb d_14_34_22 rfl (lv_at hl 0 rfl) ?_
    refine q_get (ci := 12) (j := 0) (v := .int 1) C0 V i_NM rfl rfl hO0 (by decide) w_2298 rfl d_14_34_23 ?_
    refine lv_if_le (tgt := 31) hx hb d_14_34_26 (by decide) (fun c4 => absurd c4 (by decide)) (fun c4 => ?_)
    refine lv_iconst (v := 0) hx hb d_14_34_29 (by decide) ?_
    exact q_reti C0 V (⟨1, 0, 0, hO0, (show ((1 : Int32).toInt = 0 ∧ ((2 ≤ x1.toInt ∧ x1.toInt ≤ 3) ∧ (0 ≤ x2.toInt ∧ x2.toInt ≤ 9) ∧ (0 ≤ x5.toInt ∧ x5.toInt ≤ 3) ∧ (x3.toInt ≠ 0 → (1 ≤ x4.toInt ∧ x4.toInt ≤ 800)) ∧ (x3.toInt = 0 → (0 ≤ x4.toInt ∧ x4.toInt ≤ 1100))) ∧ ((x3.toInt ≠ 0 ∧ x4.toInt = 1 ∧ (0 : Int32).toInt = 5) ∨ (x3.toInt ≠ 0 ∧ 1 < x4.toInt ∧ (0 : Int32).toInt = x4.toInt + 5) ∨ (x3.toInt = 0 ∧ x4.toInt = 0 ∧ (0 : Int32).toInt = 1) ∨ (x3.toInt = 0 ∧ 0 < x4.toInt ∧ (0 : Int32).toInt = x4.toInt + 2))) ∨ ((1 : Int32).toInt = 1 ∧ ¬ ((2 ≤ x1.toInt ∧ x1.toInt ≤ 3) ∧ (0 ≤ x2.toInt ∧ x2.toInt ≤ 9) ∧ (0 ≤ x5.toInt ∧ x5.toInt ≤ 3) ∧ (x3.toInt ≠ 0 → (1 ≤ x4.toInt ∧ x4.toInt ≤ 800)) ∧ (x3.toInt = 0 → (0 ≤ x4.toInt ∧ x4.toInt ≤ 1100)))) from by have t1 : x1.toInt < 2 := q_ltI c1; have e0 : (1 : Int32).toInt = 1 := (by decide); have e1 : (0 : Int32).toInt = 0 := (by decide); omega), hF⟩) d_14_34_30
  ·
    refine lv_iload_n hx hb d_14_34_6 rfl (lv_at hl 1 rfl) ?_
    refine lv_iload_n hx hb d_14_34_7 rfl (lv_at hl 2 rfl) ?_
    refine q_goi V (q_runS (As := [.int x1, .int x2]) (rest := [.ref qO0]) (d := 2) (mc := 0) (ms := 0) C0 V rfl LS_NM_84 (c_NM_no_IIZ l D g ws x1 x2 _) rfl hl.1 rfl (Nat.le_of_ble_eq_true rfl) ⟨by decide, by decide⟩ ⟨Nat.le_of_ble_eq_true rfl, Nat.le_of_ble_eq_true rfl⟩ d_14_34_8) (fun v7 u6 H locs hp5 V => ?_)
    rcases hp5 with ⟨c8, rfl, rfl⟩ | ⟨c10, c11, rfl, rfl⟩ | ⟨c13, c14, c15, rfl, rfl⟩ | ⟨c17, c18, c19, c20, rfl, rfl⟩ | ⟨c22, c23, c24, c25, rfl, rfl⟩
    ·
      exact absurd c8 (Int32.not_lt.mpr (q_Ile (x := 0) (y := x1.toInt) (by decide) rfl (by have t1 : 2 ≤ x1.toInt := q_nltI c1; have y0h := q_hi32 (x := x1); omega)))
    ·
      refine lv_if_eq (tgt := 18) hx hb d_14_34_11 (by decide) (fun c27 => absurd c27 (by decide)) (fun c27 => ?_)
      refine lv_iconst (v := 1) hx hb d_14_34_14 (by decide) ?_
      refine lv_goto (tgt := 19) hx hb d_14_34_15 (by decide) ?_
      refine q_put (ci := 12) (j := 0) (v := .int 1) (ty := .int) C0 V i_NM o_NM n_NM rfl rfl hO0 (by decide) w_2298 rfl rfl rfl rfl (Nat.le_of_ble_eq_true rfl) d_14_34_19 (fun H locs w28 hu29 hO0 V => ?_)
      replace hO0 : w28[116]? = some (qO0, .inr (12, [.int 1, .ref qA1, .int 0, .ref qA2, .int 0, .ref qO3, .ref qO4, .ref qO5, .ref qO6, .ref qO7, .ref qA8, .ref qA9])) := hO0
      replace hF := q_gs hF hu29 (Nat.le_of_ble_eq_true rfl)
      refine lv_aload_n hx hb d_14_34_22 rfl (lv_at hl 0 rfl) ?_
      refine q_get (ci := 12) (j := 0) (v := .int 1) C0 V i_NM rfl rfl hO0 (by decide) w_2298 rfl d_14_34_23 ?_
      refine lv_if_le (tgt := 31) hx hb d_14_34_26 (by decide) (fun c30 => absurd c30 (by decide)) (fun c30 => ?_)
      refine lv_iconst (v := 0) hx hb d_14_34_29 (by decide) ?_
      exact q_reti C0 V (⟨1, 0, 0, hO0, (show ((1 : Int32).toInt = 0 ∧ ((2 ≤ x1.toInt ∧ x1.toInt ≤ 3) ∧ (0 ≤ x2.toInt ∧ x2.toInt ≤ 9) ∧ (0 ≤ x5.toInt ∧ x5.toInt ≤ 3) ∧ (x3.toInt ≠ 0 → (1 ≤ x4.toInt ∧ x4.toInt ≤ 800)) ∧ (x3.toInt = 0 → (0 ≤ x4.toInt ∧ x4.toInt ≤ 1100))) ∧ ((x3.toInt ≠ 0 ∧ x4.toInt = 1 ∧ (0 : Int32).toInt = 5) ∨ (x3.toInt ≠ 0 ∧ 1 < x4.toInt ∧ (0 : Int32).toInt = x4.toInt + 5) ∨ (x3.toInt = 0 ∧ x4.toInt = 0 ∧ (0 : Int32).toInt = 1) ∨ (x3.toInt = 0 ∧ 0 < x4.toInt ∧ (0 : Int32).toInt = x4.toInt + 2))) ∨ ((1 : Int32).toInt = 1 ∧ ¬ ((2 ≤ x1.toInt ∧ x1.toInt ≤ 3) ∧ (0 ≤ x2.toInt ∧ x2.toInt ≤ 9) ∧ (0 ≤ x5.toInt ∧ x5.toInt ≤ 3) ∧ (x3.toInt ≠ 0 → (1 ≤ x4.toInt ∧ x4.toInt ≤ 800)) ∧ (x3.toInt = 0 → (0 ≤ x4.toInt ∧ x4.toInt ≤ 1100)))) from by have t1 : 2 ≤ x1.toInt := q_nltI c1; have t2 : 0 ≤ x1.toInt := q_nltI c10; have t3 : 3 < x1.toInt := q_ltI c11; have e0 : (1 : Int32).toInt = 1 := (by decide); have e1 : (0 : Int32).toInt = 0 := (by decide); omega), hF⟩) d_14_34_30
    ·
      refine lv_if_eq (tgt := 18) hx hb d_14_34_11 (by decide) (fun c31 => absurd c31 (by decide)) (fun c31 => ?_)
      refine lv_iconst (v := 1) hx hb d_14_34_14 (by decide) ?_
      refine lv_goto (tgt := 19) hx hb d_14_34_15 (by decide) ?_
      refine q_put (ci := 12) (j := 0) (v := .int 1) (ty := .int) C0 V i_NM o_NM n_NM rfl rfl hO0 (by decide) w_2298 rfl rfl rfl rfl (Nat.le_of_ble_eq_true rfl) d_14_34_19 (fun H locs w32 hu33 hO0 V => ?_)
      replace hO0 : w32[116]? = some (qO0, .inr (12, [.int 1, .ref qA1, .int 0, .ref qA2, .int 0, .ref qO3, .ref qO4, .ref qO5, .ref qO6, .ref qO7, .ref qA8, .ref qA9])) := hO0
      replace hF := q_gs hF hu33 (Nat.le_of_ble_eq_true rfl)
      refine lv_aload_n hx hb d_14_34_22 rfl (lv_at hl 0 rfl) ?_
      refine q_get (ci := 12) (j := 0) (v := .int 1) C0 V i_NM rfl rfl hO0 (by decide) w_2298 rfl d_14_34_23 ?_
      refine lv_if_le (tgt := 31) hx hb d_14_34_26 (by decide) (fun c34 => absurd c34 (by decide)) (fun c34 => ?_)
      refine lv_iconst (v := 0) hx hb d_14_34_29 (by decide) ?_
      exact q_reti C0 V (⟨1, 0, 0, hO0, (show ((1 : Int32).toInt = 0 ∧ ((2 ≤ x1.toInt ∧ x1.toInt ≤ 3) ∧ (0 ≤ x2.toInt ∧ x2.toInt ≤ 9) ∧ (0 ≤ x5.toInt ∧ x5.toInt ≤ 3) ∧ (x3.toInt ≠ 0 → (1 ≤ x4.toInt ∧ x4.toInt ≤ 800)) ∧ (x3.toInt = 0 → (0 ≤ x4.toInt ∧ x4.toInt ≤ 1100))) ∧ ((x3.toInt ≠ 0 ∧ x4.toInt = 1 ∧ (0 : Int32).toInt = 5) ∨ (x3.toInt ≠ 0 ∧ 1 < x4.toInt ∧ (0 : Int32).toInt = x4.toInt + 5) ∨ (x3.toInt = 0 ∧ x4.toInt = 0 ∧ (0 : Int32).toInt = 1) ∨ (x3.toInt = 0 ∧ 0 < x4.toInt ∧ (0 : Int32).toInt = x4.toInt + 2))) ∨ ((1 : Int32).toInt = 1 ∧ ¬ ((2 ≤ x1.toInt ∧ x1.toInt ≤ 3) ∧ (0 ≤ x2.toInt ∧ x2.toInt ≤ 9) ∧ (0 ≤ x5.toInt ∧ x5.toInt ≤ 3) ∧ (x3.toInt ≠ 0 → (1 ≤ x4.toInt ∧ x4.toInt ≤ 800)) ∧ (x3.toInt = 0 → (0 ≤ x4.toInt ∧ x4.toInt ≤ 1100)))) from by have t1 : 2 ≤ x1.toInt := q_nltI c1; have t2 : 0 ≤ x1.toInt := q_nltI c13; have t3 : x1.toInt ≤ 3 := q_nltI c14; have t4 : x2.toInt < 0 := q_ltI c15; have e0 : (1 : Int32).toInt = 1 := (by decide); have e1 : (0 : Int32).toInt = 0 := (by decide); omega), hF⟩) d_14_34_30
    ·
      refine lv_if_eq (tgt := 18) hx hb d_14_34_11 (by decide) (fun c35 => ?_) (fun c35 => absurd (by decide) c35)
      refine lv_iconst (v := 0) hx hb d_14_34_18 (by decide) ?_
      refine q_put (ci := 12) (j := 0) (v := .int 0) (ty := .int) C0 V i_NM o_NM n_NM rfl rfl hO0 (by decide) w_2298 rfl rfl rfl rfl (Nat.le_of_ble_eq_true rfl) d_14_34_19 (fun H locs w36 hu37 hO0 V => ?_)
      replace hO0 : w36[116]? = some (qO0, .inr (12, [.int 0, .ref qA1, .int 0, .ref qA2, .int 0, .ref qO3, .ref qO4, .ref qO5, .ref qO6, .ref qO7, .ref qA8, .ref qA9])) := hO0
      replace hF := q_gs hF hu37 (Nat.le_of_ble_eq_true rfl)
      refine lv_aload_n hx hb d_14_34_22 rfl (lv_at hl 0 rfl) ?_
      refine q_get (ci := 12) (j := 0) (v := .int 0) C0 V i_NM rfl rfl hO0 (by decide) w_2298 rfl d_14_34_23 ?_
      refine lv_if_le (tgt := 31) hx hb d_14_34_26 (by decide) (fun c38 => ?_) (fun c38 => absurd (by decide) c38)
      refine lv_aload_n hx hb d_14_34_31 rfl (lv_at hl 0 rfl) ?_
      refine lv_iload_n hx hb d_14_34_32 rfl (lv_at hl 1 rfl) ?_
      refine lv_iload_n hx hb d_14_34_33 rfl (lv_at hl 2 rfl) ?_
      replace hA8 := (hu37 _ (q_pd 167 116 rfl)).trans (hA8)
      refine q_gol V (q_runV (As := [.int x1, .int x2]) (rest := []) (d := 1) (mc := 0) (ms := 0) (ci := 12) C0 V rfl LV_NM_138 (c_NM_bitsOf l D g w36 qO0 qA1 qA2 qO3 qO4 qO5 qO6 qO7 qA8 qA9 x1 x2 hO0 hA8 (q_Ile (x := 2) (y := x1.toInt) (by decide) rfl (by have t1 : 2 ≤ x1.toInt := q_nltI c1; have t2 : 0 ≤ x1.toInt := q_nltI c17; have t3 : x1.toInt ≤ 3 := q_nltI c18; omega)) (q_Ile (x := x1.toInt) (y := 3) rfl (by decide) (by have t1 : 2 ≤ x1.toInt := q_nltI c1; have t2 : 0 ≤ x1.toInt := q_nltI c17; have t3 : x1.toInt ≤ 3 := q_nltI c18; omega)) (q_Ile (x := 0) (y := x2.toInt) (by decide) rfl (by have t1 : 0 ≤ x2.toInt := q_nltI c19; have t2 : x2.toInt ≤ 9 := q_leI c20; omega)) c20 _) rfl rfl hO0 rfl hl.1 rfl (Nat.le_of_ble_eq_true rfl) ⟨by decide, by decide⟩ ⟨Nat.le_of_ble_eq_true rfl, Nat.le_of_ble_eq_true rfl⟩ d_14_34_34) (fun v41 u40 H locs hp39 V => ?_)
      obtain ⟨rfl, rfl⟩ := hp39
      refine lv_lstore (lv' := [(6, .long 0), (0, .ref qO0), (1, .int x1), (2, .int x2), (3, .int x3), (4, .int x4), (5, .int x5)]) hx hb d_14_34_37 hl (by decide) rfl (fun ls hl => ?_)
      refine lv_iload_n hx hb d_14_34_39 rfl (lv_at hl 4 rfl) ?_
      refine lv_if_eq (tgt := 69) hx hb d_14_34_40 (by decide) (fun c43 => ?_) (fun c43 => ?_)
      ·
        refine lv_aload_n hx hb d_14_34_69 rfl (lv_at hl 1 rfl) ?_
        refine q_get (ci := 12) (j := 7) (v := .ref qO5) C0 V i_NM rfl rfl hO0 (by decide) w_2305 rfl d_14_34_70 ?_
        refine lv_lload hx hb d_14_34_73 (lv_at hl 0 rfl) ?_
        refine lv_iload_n hx hb d_14_34_75 rfl (lv_at hl 2 rfl) ?_
        refine lv_iconst (v := 3) hx hb d_14_34_76 (by decide) ?_
        refine lv_icmp_ne (tgt := 84) hx hb d_14_34_77 (by decide) (fun c44 => ?_) (fun c44 => ?_)
        ·
          refine lv_iconst (v := 0) hx hb d_14_34_84 (by decide) ?_
          refine lv_iload hx hb d_14_34_85 (lv_at hl 5 rfl) ?_
          refine lv_iload hx hb d_14_34_87 (lv_at hl 6 rfl) ?_
          replace hO5 := (hu37 _ (q_pd 145 116 rfl)).trans (hO5)
          replace hA34 := (hu37 _ (q_pd 146 116 rfl)).trans (hA34)
          replace hA35 := (hu37 _ (q_pd 147 116 rfl)).trans (hA35)
          replace hA36 := (hu37 _ (q_pd 148 116 rfl)).trans (hA36)
          replace hA39 := (hu37 _ (q_pd 151 116 rfl)).trans (hA39)
          replace hA40 := (hu37 _ (q_pd 152 116 rfl)).trans (hA40)
          refine q_goi V (q_runV (As := [.long 0, .int 0, .int x4, .int x5]) (rest := []) (d := 3) (mc := 0) (ms := 0) (ci := 15) C0 V rfl LV_NM_227 (c_FR_fixed_5 l D g w36 145 146 147 148 151 152 qO5 qA34 qA35 qA36 qA37 qA38 qA39 qA40 x4 x5 hO5 hA34 hA35 hA36 hA39 hA40 (q_pd 146 147 rfl) (q_pd 146 148 rfl) (q_pd 146 151 rfl) (q_pd 146 152 rfl) (q_pd 147 151 rfl) (q_pd 147 152 rfl) (q_pd 148 147 rfl) (q_pd 148 151 rfl) (q_pd 148 152 rfl) (q_pd 151 152 rfl) _) rfl rfl hO5 rfl hl.1 rfl (Nat.le_of_ble_eq_true rfl) ⟨by decide, by decide⟩ ⟨Nat.le_of_ble_eq_true rfl, Nat.le_of_ble_eq_true rfl⟩ d_14_34_89) (fun v47 u46 H locs hp45 V => ?_)
          rcases hp45 with ⟨c48, rfl, hg49, hO5, hA34, hA35, hA36, hA39, hA40⟩ | ⟨c50, c51, rfl, hg52, hO5, hA34, hA35, hA36, hA39, hA40⟩ | ⟨c53, c54, c55, rfl, hg56, hO5, hA34, hA35, hA36, hA39, hA40⟩ | ⟨y63, c57, c58, c59, c60, c61, c62, rfl, hg64, hO5, hA34, hA35, hA36, hA39, hA40⟩ | ⟨y74, y75, y76, c65, c66, c67, c68, c69, c70, f71, f72, f73, rfl, hg77, hO5, hA34, hA35, hA36, hA39, hA40⟩ | ⟨y86, y87, y88, c78, c79, c80, c81, c82, f83, f84, f85, rfl, hg89, hO5, hA34, hA35, hA36, hA39, hA40⟩ | ⟨c90, c91, c92, c93, rfl, hg94, hO5, hA34, hA35, hA36, hA39, hA40⟩
          ·
            replace hF := q_gc hF hg49 (q_al (Nat.le_of_ble_eq_true rfl) (q_al (Nat.le_of_ble_eq_true rfl) (q_al (Nat.le_of_ble_eq_true rfl) (q_al (Nat.le_of_ble_eq_true rfl) (q_al (Nat.le_of_ble_eq_true rfl) (q_al (Nat.le_of_ble_eq_true rfl) (fun _ h => absurd h List.not_mem_nil)))))))
            refine lv_istore (lv' := [(8, .int 0), (6, .long 0), (0, .ref qO0), (1, .int x1), (2, .int x2), (3, .int x3), (4, .int x4), (5, .int x5)]) hx hb d_14_34_92 hl (by decide) rfl (fun ls hl => ?_)
            refine lv_aload_n hx hb d_14_34_94 rfl (lv_at hl 2 rfl) ?_
            refine lv_aload_n hx hb d_14_34_95 rfl (lv_at hl 2 rfl) ?_
            replace hO0 := (hg49 _ (q_nc (q_pd 116 145 rfl) (q_nc (q_pd 116 146 rfl) (q_nc (q_pd 116 147 rfl) (q_nc (q_pd 116 148 rfl) (q_nc (q_pd 116 151 rfl) (q_nc (q_pd 116 152 rfl) List.not_mem_nil))))))).trans (hO0)
            refine q_get (ci := 12) (j := 7) (v := .ref qO5) C0 V i_NM rfl rfl hO0 (by decide) w_2305 rfl d_14_34_96 ?_
            refine q_getN (ci := 15) (j := 0) (v := .int 1) C0 V i_FR rfl rfl hO5 (by decide) wo_2075 rfl d_14_34_99 ?_
            refine q_put (ci := 12) (j := 0) (v := .int 1) (ty := .int) C0 V i_NM o_NM n_NM rfl rfl hO0 (by decide) w_2298 rfl rfl rfl rfl (Nat.le_of_ble_eq_true rfl) d_14_34_102 (fun H locs w95 hu96 hO0 V => ?_)
            replace hO0 : w95[116]? = some (qO0, .inr (12, [.int 1, .ref qA1, .int 0, .ref qA2, .int 0, .ref qO3, .ref qO4, .ref qO5, .ref qO6, .ref qO7, .ref qA8, .ref qA9])) := hO0
            replace hF := q_gs hF hu96 (Nat.le_of_ble_eq_true rfl)
            refine lv_aload_n hx hb d_14_34_105 rfl (lv_at hl 2 rfl) ?_
            refine q_get (ci := 12) (j := 0) (v := .int 1) C0 V i_NM rfl rfl hO0 (by decide) w_2298 rfl d_14_34_106 ?_
            refine lv_if_le (tgt := 116) hx hb d_14_34_109 (by decide) (fun c97 => absurd c97 (by decide)) (fun c97 => ?_)
            refine lv_iconst (v := 0) hx hb d_14_34_112 (by decide) ?_
            refine lv_goto (tgt := 129) hx hb d_14_34_113 (by decide) ?_
            exact q_reti C0 V (⟨1, 0, 0, hO0, (show ((1 : Int32).toInt = 0 ∧ ((2 ≤ x1.toInt ∧ x1.toInt ≤ 3) ∧ (0 ≤ x2.toInt ∧ x2.toInt ≤ 9) ∧ (0 ≤ x5.toInt ∧ x5.toInt ≤ 3) ∧ (x3.toInt ≠ 0 → (1 ≤ x4.toInt ∧ x4.toInt ≤ 800)) ∧ (x3.toInt = 0 → (0 ≤ x4.toInt ∧ x4.toInt ≤ 1100))) ∧ ((x3.toInt ≠ 0 ∧ x4.toInt = 1 ∧ (0 : Int32).toInt = 5) ∨ (x3.toInt ≠ 0 ∧ 1 < x4.toInt ∧ (0 : Int32).toInt = x4.toInt + 5) ∨ (x3.toInt = 0 ∧ x4.toInt = 0 ∧ (0 : Int32).toInt = 1) ∨ (x3.toInt = 0 ∧ 0 < x4.toInt ∧ (0 : Int32).toInt = x4.toInt + 2))) ∨ ((1 : Int32).toInt = 1 ∧ ¬ ((2 ≤ x1.toInt ∧ x1.toInt ≤ 3) ∧ (0 ≤ x2.toInt ∧ x2.toInt ≤ 9) ∧ (0 ≤ x5.toInt ∧ x5.toInt ≤ 3) ∧ (x3.toInt ≠ 0 → (1 ≤ x4.toInt ∧ x4.toInt ≤ 800)) ∧ (x3.toInt = 0 → (0 ≤ x4.toInt ∧ x4.toInt ≤ 1100)))) from by have t1 : 2 ≤ x1.toInt := q_nltI c1; have t2 : 0 ≤ x1.toInt := q_nltI c17; have t3 : x1.toInt ≤ 3 := q_nltI c18; have t4 : 0 ≤ x2.toInt := q_nltI c19; have t5 : x2.toInt ≤ 9 := q_leI c20; have t6 : x3.toInt = 0 := q_eqI c43; have t7 : x1.toInt ≠ 3 := q_neI c44; have t8 : x4.toInt < 0 := q_ltI c48; have e0 : (1 : Int32).toInt = 1 := (by decide); have e1 : (0 : Int32).toInt = 0 := (by decide); omega), hF⟩) d_14_34_129
          ·
            replace hF := q_gc hF hg52 (q_al (Nat.le_of_ble_eq_true rfl) (q_al (Nat.le_of_ble_eq_true rfl) (q_al (Nat.le_of_ble_eq_true rfl) (q_al (Nat.le_of_ble_eq_true rfl) (q_al (Nat.le_of_ble_eq_true rfl) (q_al (Nat.le_of_ble_eq_true rfl) (fun _ h => absurd h List.not_mem_nil)))))))
            refine lv_istore (lv' := [(8, .int 0), (6, .long 0), (0, .ref qO0), (1, .int x1), (2, .int x2), (3, .int x3), (4, .int x4), (5, .int x5)]) hx hb d_14_34_92 hl (by decide) rfl (fun ls hl => ?_)
            refine lv_aload_n hx hb d_14_34_94 rfl (lv_at hl 2 rfl) ?_
            refine lv_aload_n hx hb d_14_34_95 rfl (lv_at hl 2 rfl) ?_
            replace hO0 := (hg52 _ (q_nc (q_pd 116 145 rfl) (q_nc (q_pd 116 146 rfl) (q_nc (q_pd 116 147 rfl) (q_nc (q_pd 116 148 rfl) (q_nc (q_pd 116 151 rfl) (q_nc (q_pd 116 152 rfl) List.not_mem_nil))))))).trans (hO0)
            refine q_get (ci := 12) (j := 7) (v := .ref qO5) C0 V i_NM rfl rfl hO0 (by decide) w_2305 rfl d_14_34_96 ?_
            refine q_getN (ci := 15) (j := 0) (v := .int 1) C0 V i_FR rfl rfl hO5 (by decide) wo_2075 rfl d_14_34_99 ?_
            refine q_put (ci := 12) (j := 0) (v := .int 1) (ty := .int) C0 V i_NM o_NM n_NM rfl rfl hO0 (by decide) w_2298 rfl rfl rfl rfl (Nat.le_of_ble_eq_true rfl) d_14_34_102 (fun H locs w98 hu99 hO0 V => ?_)
            replace hO0 : w98[116]? = some (qO0, .inr (12, [.int 1, .ref qA1, .int 0, .ref qA2, .int 0, .ref qO3, .ref qO4, .ref qO5, .ref qO6, .ref qO7, .ref qA8, .ref qA9])) := hO0
            replace hF := q_gs hF hu99 (Nat.le_of_ble_eq_true rfl)
            refine lv_aload_n hx hb d_14_34_105 rfl (lv_at hl 2 rfl) ?_
            refine q_get (ci := 12) (j := 0) (v := .int 1) C0 V i_NM rfl rfl hO0 (by decide) w_2298 rfl d_14_34_106 ?_
            refine lv_if_le (tgt := 116) hx hb d_14_34_109 (by decide) (fun c100 => absurd c100 (by decide)) (fun c100 => ?_)
            refine lv_iconst (v := 0) hx hb d_14_34_112 (by decide) ?_
            refine lv_goto (tgt := 129) hx hb d_14_34_113 (by decide) ?_
            exact q_reti C0 V (⟨1, 0, 0, hO0, (show ((1 : Int32).toInt = 0 ∧ ((2 ≤ x1.toInt ∧ x1.toInt ≤ 3) ∧ (0 ≤ x2.toInt ∧ x2.toInt ≤ 9) ∧ (0 ≤ x5.toInt ∧ x5.toInt ≤ 3) ∧ (x3.toInt ≠ 0 → (1 ≤ x4.toInt ∧ x4.toInt ≤ 800)) ∧ (x3.toInt = 0 → (0 ≤ x4.toInt ∧ x4.toInt ≤ 1100))) ∧ ((x3.toInt ≠ 0 ∧ x4.toInt = 1 ∧ (0 : Int32).toInt = 5) ∨ (x3.toInt ≠ 0 ∧ 1 < x4.toInt ∧ (0 : Int32).toInt = x4.toInt + 5) ∨ (x3.toInt = 0 ∧ x4.toInt = 0 ∧ (0 : Int32).toInt = 1) ∨ (x3.toInt = 0 ∧ 0 < x4.toInt ∧ (0 : Int32).toInt = x4.toInt + 2))) ∨ ((1 : Int32).toInt = 1 ∧ ¬ ((2 ≤ x1.toInt ∧ x1.toInt ≤ 3) ∧ (0 ≤ x2.toInt ∧ x2.toInt ≤ 9) ∧ (0 ≤ x5.toInt ∧ x5.toInt ≤ 3) ∧ (x3.toInt ≠ 0 → (1 ≤ x4.toInt ∧ x4.toInt ≤ 800)) ∧ (x3.toInt = 0 → (0 ≤ x4.toInt ∧ x4.toInt ≤ 1100)))) from by have t1 : 2 ≤ x1.toInt := q_nltI c1; have t2 : 0 ≤ x1.toInt := q_nltI c17; have t3 : x1.toInt ≤ 3 := q_nltI c18; have t4 : 0 ≤ x2.toInt := q_nltI c19; have t5 : x2.toInt ≤ 9 := q_leI c20; have t6 : x3.toInt = 0 := q_eqI c43; have t7 : x1.toInt ≠ 3 := q_neI c44; have t8 : 0 ≤ x4.toInt := q_nltI c50; have t9 : 1100 < x4.toInt := q_ltI c51; have e0 : (1 : Int32).toInt = 1 := (by decide); have e1 : (0 : Int32).toInt = 0 := (by decide); omega), hF⟩) d_14_34_129
          ·
            replace hF := q_gc hF hg56 (q_al (Nat.le_of_ble_eq_true rfl) (q_al (Nat.le_of_ble_eq_true rfl) (q_al (Nat.le_of_ble_eq_true rfl) (q_al (Nat.le_of_ble_eq_true rfl) (q_al (Nat.le_of_ble_eq_true rfl) (q_al (Nat.le_of_ble_eq_true rfl) (fun _ h => absurd h List.not_mem_nil)))))))
            refine lv_istore (lv' := [(8, .int 0), (6, .long 0), (0, .ref qO0), (1, .int x1), (2, .int x2), (3, .int x3), (4, .int x4), (5, .int x5)]) hx hb d_14_34_92 hl (by decide) rfl (fun ls hl => ?_)
            refine lv_aload_n hx hb d_14_34_94 rfl (lv_at hl 2 rfl) ?_
            refine lv_aload_n hx hb d_14_34_95 rfl (lv_at hl 2 rfl) ?_
            replace hO0 := (hg56 _ (q_nc (q_pd 116 145 rfl) (q_nc (q_pd 116 146 rfl) (q_nc (q_pd 116 147 rfl) (q_nc (q_pd 116 148 rfl) (q_nc (q_pd 116 151 rfl) (q_nc (q_pd 116 152 rfl) List.not_mem_nil))))))).trans (hO0)
            refine q_get (ci := 12) (j := 7) (v := .ref qO5) C0 V i_NM rfl rfl hO0 (by decide) w_2305 rfl d_14_34_96 ?_
            refine q_getN (ci := 15) (j := 0) (v := .int 1) C0 V i_FR rfl rfl hO5 (by decide) wo_2075 rfl d_14_34_99 ?_
            refine q_put (ci := 12) (j := 0) (v := .int 1) (ty := .int) C0 V i_NM o_NM n_NM rfl rfl hO0 (by decide) w_2298 rfl rfl rfl rfl (Nat.le_of_ble_eq_true rfl) d_14_34_102 (fun H locs w101 hu102 hO0 V => ?_)
            replace hO0 : w101[116]? = some (qO0, .inr (12, [.int 1, .ref qA1, .int 0, .ref qA2, .int 0, .ref qO3, .ref qO4, .ref qO5, .ref qO6, .ref qO7, .ref qA8, .ref qA9])) := hO0
            replace hF := q_gs hF hu102 (Nat.le_of_ble_eq_true rfl)
            refine lv_aload_n hx hb d_14_34_105 rfl (lv_at hl 2 rfl) ?_
            refine q_get (ci := 12) (j := 0) (v := .int 1) C0 V i_NM rfl rfl hO0 (by decide) w_2298 rfl d_14_34_106 ?_
            refine lv_if_le (tgt := 116) hx hb d_14_34_109 (by decide) (fun c103 => absurd c103 (by decide)) (fun c103 => ?_)
            refine lv_iconst (v := 0) hx hb d_14_34_112 (by decide) ?_
            refine lv_goto (tgt := 129) hx hb d_14_34_113 (by decide) ?_
            exact q_reti C0 V (⟨1, 0, 0, hO0, (show ((1 : Int32).toInt = 0 ∧ ((2 ≤ x1.toInt ∧ x1.toInt ≤ 3) ∧ (0 ≤ x2.toInt ∧ x2.toInt ≤ 9) ∧ (0 ≤ x5.toInt ∧ x5.toInt ≤ 3) ∧ (x3.toInt ≠ 0 → (1 ≤ x4.toInt ∧ x4.toInt ≤ 800)) ∧ (x3.toInt = 0 → (0 ≤ x4.toInt ∧ x4.toInt ≤ 1100))) ∧ ((x3.toInt ≠ 0 ∧ x4.toInt = 1 ∧ (0 : Int32).toInt = 5) ∨ (x3.toInt ≠ 0 ∧ 1 < x4.toInt ∧ (0 : Int32).toInt = x4.toInt + 5) ∨ (x3.toInt = 0 ∧ x4.toInt = 0 ∧ (0 : Int32).toInt = 1) ∨ (x3.toInt = 0 ∧ 0 < x4.toInt ∧ (0 : Int32).toInt = x4.toInt + 2))) ∨ ((1 : Int32).toInt = 1 ∧ ¬ ((2 ≤ x1.toInt ∧ x1.toInt ≤ 3) ∧ (0 ≤ x2.toInt ∧ x2.toInt ≤ 9) ∧ (0 ≤ x5.toInt ∧ x5.toInt ≤ 3) ∧ (x3.toInt ≠ 0 → (1 ≤ x4.toInt ∧ x4.toInt ≤ 800)) ∧ (x3.toInt = 0 → (0 ≤ x4.toInt ∧ x4.toInt ≤ 1100)))) from by have t1 : 2 ≤ x1.toInt := q_nltI c1; have t2 : 0 ≤ x1.toInt := q_nltI c17; have t3 : x1.toInt ≤ 3 := q_nltI c18; have t4 : 0 ≤ x2.toInt := q_nltI c19; have t5 : x2.toInt ≤ 9 := q_leI c20; have t6 : x3.toInt = 0 := q_eqI c43; have t7 : x1.toInt ≠ 3 := q_neI c44; have t8 : 0 ≤ x4.toInt := q_nltI c53; have t9 : x4.toInt ≤ 1100 := q_nltI c54; have t10 : x5.toInt < 0 := q_ltI c55; have e0 : (1 : Int32).toInt = 1 := (by decide); have e1 : (0 : Int32).toInt = 0 := (by decide); omega), hF⟩) d_14_34_129
          ·
            replace hF := q_gc hF hg64 (q_al (Nat.le_of_ble_eq_true rfl) (q_al (Nat.le_of_ble_eq_true rfl) (q_al (Nat.le_of_ble_eq_true rfl) (q_al (Nat.le_of_ble_eq_true rfl) (q_al (Nat.le_of_ble_eq_true rfl) (q_al (Nat.le_of_ble_eq_true rfl) (fun _ h => absurd h List.not_mem_nil)))))))
            refine lv_istore (lv' := [(8, .int 1), (6, .long 0), (0, .ref qO0), (1, .int x1), (2, .int x2), (3, .int x3), (4, .int x4), (5, .int x5)]) hx hb d_14_34_92 hl (by decide) rfl (fun ls hl => ?_)
            refine lv_aload_n hx hb d_14_34_94 rfl (lv_at hl 2 rfl) ?_
            refine lv_aload_n hx hb d_14_34_95 rfl (lv_at hl 2 rfl) ?_
            replace hO0 := (hg64 _ (q_nc (q_pd 116 145 rfl) (q_nc (q_pd 116 146 rfl) (q_nc (q_pd 116 147 rfl) (q_nc (q_pd 116 148 rfl) (q_nc (q_pd 116 151 rfl) (q_nc (q_pd 116 152 rfl) List.not_mem_nil))))))).trans (hO0)
            refine q_get (ci := 12) (j := 7) (v := .ref qO5) C0 V i_NM rfl rfl hO0 (by decide) w_2305 rfl d_14_34_96 ?_
            refine q_getN (ci := 15) (j := 0) (v := .int 0) C0 V i_FR rfl rfl hO5 (by decide) wo_2075 rfl d_14_34_99 ?_
            refine q_put (ci := 12) (j := 0) (v := .int 0) (ty := .int) C0 V i_NM o_NM n_NM rfl rfl hO0 (by decide) w_2298 rfl rfl rfl rfl (Nat.le_of_ble_eq_true rfl) d_14_34_102 (fun H locs w104 hu105 hO0 V => ?_)
            replace hO0 : w104[116]? = some (qO0, .inr (12, [.int 0, .ref qA1, .int 0, .ref qA2, .int 0, .ref qO3, .ref qO4, .ref qO5, .ref qO6, .ref qO7, .ref qA8, .ref qA9])) := hO0
            replace hF := q_gs hF hu105 (Nat.le_of_ble_eq_true rfl)
            refine lv_aload_n hx hb d_14_34_105 rfl (lv_at hl 2 rfl) ?_
            refine q_get (ci := 12) (j := 0) (v := .int 0) C0 V i_NM rfl rfl hO0 (by decide) w_2298 rfl d_14_34_106 ?_
            refine lv_if_le (tgt := 116) hx hb d_14_34_109 (by decide) (fun c106 => ?_) (fun c106 => absurd (by decide) c106)
            refine lv_aload_n hx hb d_14_34_116 rfl (lv_at hl 2 rfl) ?_
            refine lv_aload_n hx hb d_14_34_117 rfl (lv_at hl 2 rfl) ?_
            refine q_get (ci := 12) (j := 7) (v := .ref qO5) C0 V i_NM rfl rfl hO0 (by decide) w_2305 rfl d_14_34_118 ?_
            replace hO5 := (hu105 _ (q_pd 145 116 rfl)).trans (hO5)
            refine q_getN (ci := 15) (j := 7) (v := .ref qA40) C0 V i_FR rfl rfl hO5 (by decide) wo_2083 rfl d_14_34_121 ?_
            refine lv_iload hx hb d_14_34_124 (lv_at hl 0 rfl) ?_
            replace hA40 := (hu105 _ (q_pd 152 116 rfl)).trans (hA40)
            replace hA2 := (hu105 _ (q_pd 118 116 rfl)).trans ((hg64 _ (q_nc (q_pd 118 145 rfl) (q_nc (q_pd 118 146 rfl) (q_nc (q_pd 118 147 rfl) (q_nc (q_pd 118 148 rfl) (q_nc (q_pd 118 151 rfl) (q_nc (q_pd 118 152 rfl) List.not_mem_nil))))))).trans ((hu37 _ (q_pd 118 116 rfl)).trans (hA2)))
            refine q_goi V (q_runV (As := [.ref qA40, .int 1]) (rest := []) (d := 1) (mc := 0) (ms := 0) (ci := 12) C0 V rfl LV_NM_269 (c_NM_show_6 l D g w104 qO0 qA40 qA1 qA2 qO3 qO4 qO5 qO6 qO7 qA8 qA9 hO0 hA40 hA2 _) rfl rfl hO0 rfl hl.1 rfl (Nat.le_of_ble_eq_true rfl) ⟨by decide, by decide⟩ ⟨Nat.le_of_ble_eq_true rfl, Nat.le_of_ble_eq_true rfl⟩ d_14_34_126) (fun v109 u108 H locs hp107 V => ?_)
            obtain ⟨rfl, hg110, hO0, hA2⟩ := hp107
            replace hF := q_gc hF hg110 (q_al (Nat.le_of_ble_eq_true rfl) (q_al (Nat.le_of_ble_eq_true rfl) (fun _ h => absurd h List.not_mem_nil)))
            exact q_reti C0 V (⟨0, 0, 1, hO0, (show ((0 : Int32).toInt = 0 ∧ ((2 ≤ x1.toInt ∧ x1.toInt ≤ 3) ∧ (0 ≤ x2.toInt ∧ x2.toInt ≤ 9) ∧ (0 ≤ x5.toInt ∧ x5.toInt ≤ 3) ∧ (x3.toInt ≠ 0 → (1 ≤ x4.toInt ∧ x4.toInt ≤ 800)) ∧ (x3.toInt = 0 → (0 ≤ x4.toInt ∧ x4.toInt ≤ 1100))) ∧ ((x3.toInt ≠ 0 ∧ x4.toInt = 1 ∧ (1 : Int32).toInt = 5) ∨ (x3.toInt ≠ 0 ∧ 1 < x4.toInt ∧ (1 : Int32).toInt = x4.toInt + 5) ∨ (x3.toInt = 0 ∧ x4.toInt = 0 ∧ (1 : Int32).toInt = 1) ∨ (x3.toInt = 0 ∧ 0 < x4.toInt ∧ (1 : Int32).toInt = x4.toInt + 2))) ∨ ((0 : Int32).toInt = 1 ∧ ¬ ((2 ≤ x1.toInt ∧ x1.toInt ≤ 3) ∧ (0 ≤ x2.toInt ∧ x2.toInt ≤ 9) ∧ (0 ≤ x5.toInt ∧ x5.toInt ≤ 3) ∧ (x3.toInt ≠ 0 → (1 ≤ x4.toInt ∧ x4.toInt ≤ 800)) ∧ (x3.toInt = 0 → (0 ≤ x4.toInt ∧ x4.toInt ≤ 1100)))) from by have t1 : 2 ≤ x1.toInt := q_nltI c1; have t2 : 0 ≤ x1.toInt := q_nltI c17; have t3 : x1.toInt ≤ 3 := q_nltI c18; have t4 : 0 ≤ x2.toInt := q_nltI c19; have t5 : x2.toInt ≤ 9 := q_leI c20; have t6 : x3.toInt = 0 := q_eqI c43; have t7 : x1.toInt ≠ 3 := q_neI c44; have t8 : 0 ≤ x4.toInt := q_nltI c57; have t9 : x4.toInt ≤ 1100 := q_nltI c58; have t10 : 0 ≤ x5.toInt := q_nltI c59; have t11 : x5.toInt ≤ 3 := q_leI c60; have t12 : x4.toInt ≤ 1080 := q_leI c61; have t13 : x4.toInt ≤ 0 := q_leI c62; have e0 : (0 : Int32).toInt = 0 := (by decide); have e1 : (1 : Int32).toInt = 1 := (by decide); omega), hF⟩) d_14_34_129
          ·
            replace hF := q_gc hF hg77 (q_al (Nat.le_of_ble_eq_true rfl) (q_al (Nat.le_of_ble_eq_true rfl) (q_al (Nat.le_of_ble_eq_true rfl) (q_al (Nat.le_of_ble_eq_true rfl) (q_al (Nat.le_of_ble_eq_true rfl) (q_al (Nat.le_of_ble_eq_true rfl) (fun _ h => absurd h List.not_mem_nil)))))))
            refine lv_istore (lv' := [(8, .int y74), (6, .long 0), (0, .ref qO0), (1, .int x1), (2, .int x2), (3, .int x3), (4, .int x4), (5, .int x5)]) hx hb d_14_34_92 hl (by decide) rfl (fun ls hl => ?_)
            refine lv_aload_n hx hb d_14_34_94 rfl (lv_at hl 2 rfl) ?_
            refine lv_aload_n hx hb d_14_34_95 rfl (lv_at hl 2 rfl) ?_
            replace hO0 := (hg77 _ (q_nc (q_pd 116 145 rfl) (q_nc (q_pd 116 146 rfl) (q_nc (q_pd 116 147 rfl) (q_nc (q_pd 116 148 rfl) (q_nc (q_pd 116 151 rfl) (q_nc (q_pd 116 152 rfl) List.not_mem_nil))))))).trans (hO0)
            refine q_get (ci := 12) (j := 7) (v := .ref qO5) C0 V i_NM rfl rfl hO0 (by decide) w_2305 rfl d_14_34_96 ?_
            refine q_getN (ci := 15) (j := 0) (v := .int 0) C0 V i_FR rfl rfl hO5 (by decide) wo_2075 rfl d_14_34_99 ?_
            refine q_put (ci := 12) (j := 0) (v := .int 0) (ty := .int) C0 V i_NM o_NM n_NM rfl rfl hO0 (by decide) w_2298 rfl rfl rfl rfl (Nat.le_of_ble_eq_true rfl) d_14_34_102 (fun H locs w111 hu112 hO0 V => ?_)
            replace hO0 : w111[116]? = some (qO0, .inr (12, [.int 0, .ref qA1, .int 0, .ref qA2, .int 0, .ref qO3, .ref qO4, .ref qO5, .ref qO6, .ref qO7, .ref qA8, .ref qA9])) := hO0
            replace hF := q_gs hF hu112 (Nat.le_of_ble_eq_true rfl)
            refine lv_aload_n hx hb d_14_34_105 rfl (lv_at hl 2 rfl) ?_
            refine q_get (ci := 12) (j := 0) (v := .int 0) C0 V i_NM rfl rfl hO0 (by decide) w_2298 rfl d_14_34_106 ?_
            refine lv_if_le (tgt := 116) hx hb d_14_34_109 (by decide) (fun c113 => ?_) (fun c113 => absurd (by decide) c113)
            refine lv_aload_n hx hb d_14_34_116 rfl (lv_at hl 2 rfl) ?_
            refine lv_aload_n hx hb d_14_34_117 rfl (lv_at hl 2 rfl) ?_
            refine q_get (ci := 12) (j := 7) (v := .ref qO5) C0 V i_NM rfl rfl hO0 (by decide) w_2305 rfl d_14_34_118 ?_
            replace hO5 := (hu112 _ (q_pd 145 116 rfl)).trans (hO5)
            refine q_getN (ci := 15) (j := 7) (v := .ref qA40) C0 V i_FR rfl rfl hO5 (by decide) wo_2083 rfl d_14_34_121 ?_
            refine lv_iload hx hb d_14_34_124 (lv_at hl 0 rfl) ?_
            replace hA40 := (hu112 _ (q_pd 152 116 rfl)).trans (hA40)
            replace hA2 := (hu112 _ (q_pd 118 116 rfl)).trans ((hg77 _ (q_nc (q_pd 118 145 rfl) (q_nc (q_pd 118 146 rfl) (q_nc (q_pd 118 147 rfl) (q_nc (q_pd 118 148 rfl) (q_nc (q_pd 118 151 rfl) (q_nc (q_pd 118 152 rfl) List.not_mem_nil))))))).trans ((hu37 _ (q_pd 118 116 rfl)).trans (hA2)))
            refine q_goi V (q_runV (As := [.ref qA40, .int y74]) (rest := []) (d := 1) (mc := 0) (ms := 0) (ci := 12) C0 V rfl LV_NM_269 (c_NM_show_7 l D g w111 qO0 qA40 qA1 qA2 qO3 qO4 qO5 qO6 qO7 qA8 qA9 y74 y76 hO0 hA40 hA2 f72 f73 _) rfl rfl hO0 rfl hl.1 rfl (Nat.le_of_ble_eq_true rfl) ⟨by decide, by decide⟩ ⟨Nat.le_of_ble_eq_true rfl, Nat.le_of_ble_eq_true rfl⟩ d_14_34_126) (fun v116 u115 H locs hp114 V => ?_)
            obtain ⟨y117, rfl, hg118, hO0, hA2⟩ := hp114
            replace hF := q_gc hF hg118 (q_al (Nat.le_of_ble_eq_true rfl) (q_al (Nat.le_of_ble_eq_true rfl) (fun _ h => absurd h List.not_mem_nil)))
            exact q_reti C0 V (⟨0, 0, y74, hO0, (show ((0 : Int32).toInt = 0 ∧ ((2 ≤ x1.toInt ∧ x1.toInt ≤ 3) ∧ (0 ≤ x2.toInt ∧ x2.toInt ≤ 9) ∧ (0 ≤ x5.toInt ∧ x5.toInt ≤ 3) ∧ (x3.toInt ≠ 0 → (1 ≤ x4.toInt ∧ x4.toInt ≤ 800)) ∧ (x3.toInt = 0 → (0 ≤ x4.toInt ∧ x4.toInt ≤ 1100))) ∧ ((x3.toInt ≠ 0 ∧ x4.toInt = 1 ∧ (y74 : Int32).toInt = 5) ∨ (x3.toInt ≠ 0 ∧ 1 < x4.toInt ∧ (y74 : Int32).toInt = x4.toInt + 5) ∨ (x3.toInt = 0 ∧ x4.toInt = 0 ∧ (y74 : Int32).toInt = 1) ∨ (x3.toInt = 0 ∧ 0 < x4.toInt ∧ (y74 : Int32).toInt = x4.toInt + 2))) ∨ ((0 : Int32).toInt = 1 ∧ ¬ ((2 ≤ x1.toInt ∧ x1.toInt ≤ 3) ∧ (0 ≤ x2.toInt ∧ x2.toInt ≤ 9) ∧ (0 ≤ x5.toInt ∧ x5.toInt ≤ 3) ∧ (x3.toInt ≠ 0 → (1 ≤ x4.toInt ∧ x4.toInt ≤ 800)) ∧ (x3.toInt = 0 → (0 ≤ x4.toInt ∧ x4.toInt ≤ 1100)))) from by have t1 : 2 ≤ x1.toInt := q_nltI c1; have t2 : 0 ≤ x1.toInt := q_nltI c17; have t3 : x1.toInt ≤ 3 := q_nltI c18; have t4 : 0 ≤ x2.toInt := q_nltI c19; have t5 : x2.toInt ≤ 9 := q_leI c20; have t6 : x3.toInt = 0 := q_eqI c43; have t7 : x1.toInt ≠ 3 := q_neI c44; have t8 : 0 ≤ x4.toInt := q_nltI c65; have t9 : x4.toInt ≤ 1100 := q_nltI c66; have t10 : 0 ≤ x5.toInt := q_nltI c67; have t11 : x5.toInt ≤ 3 := q_leI c68; have t12 : x4.toInt ≤ 1080 := q_leI c69; have t13 : 0 < x4.toInt := q_nleI c70; have t14 : 2 ≤ y74.toInt := q_leI f72; have t15 : y74.toInt ≤ 1082 := q_leI f73; have e0 : (0 : Int32).toInt = 0 := (by decide); omega), hF⟩) d_14_34_129
          ·
            replace hF := q_gc hF hg89 (q_al (Nat.le_of_ble_eq_true rfl) (q_al (Nat.le_of_ble_eq_true rfl) (q_al (Nat.le_of_ble_eq_true rfl) (q_al (Nat.le_of_ble_eq_true rfl) (q_al (Nat.le_of_ble_eq_true rfl) (q_al (Nat.le_of_ble_eq_true rfl) (fun _ h => absurd h List.not_mem_nil)))))))
            refine lv_istore (lv' := [(8, .int y86), (6, .long 0), (0, .ref qO0), (1, .int x1), (2, .int x2), (3, .int x3), (4, .int x4), (5, .int x5)]) hx hb d_14_34_92 hl (by decide) rfl (fun ls hl => ?_)
            refine lv_aload_n hx hb d_14_34_94 rfl (lv_at hl 2 rfl) ?_
            refine lv_aload_n hx hb d_14_34_95 rfl (lv_at hl 2 rfl) ?_
            replace hO0 := (hg89 _ (q_nc (q_pd 116 145 rfl) (q_nc (q_pd 116 146 rfl) (q_nc (q_pd 116 147 rfl) (q_nc (q_pd 116 148 rfl) (q_nc (q_pd 116 151 rfl) (q_nc (q_pd 116 152 rfl) List.not_mem_nil))))))).trans (hO0)
            refine q_get (ci := 12) (j := 7) (v := .ref qO5) C0 V i_NM rfl rfl hO0 (by decide) w_2305 rfl d_14_34_96 ?_
            refine q_getN (ci := 15) (j := 0) (v := .int 0) C0 V i_FR rfl rfl hO5 (by decide) wo_2075 rfl d_14_34_99 ?_
            refine q_put (ci := 12) (j := 0) (v := .int 0) (ty := .int) C0 V i_NM o_NM n_NM rfl rfl hO0 (by decide) w_2298 rfl rfl rfl rfl (Nat.le_of_ble_eq_true rfl) d_14_34_102 (fun H locs w119 hu120 hO0 V => ?_)
            replace hO0 : w119[116]? = some (qO0, .inr (12, [.int 0, .ref qA1, .int 0, .ref qA2, .int 0, .ref qO3, .ref qO4, .ref qO5, .ref qO6, .ref qO7, .ref qA8, .ref qA9])) := hO0
            replace hF := q_gs hF hu120 (Nat.le_of_ble_eq_true rfl)
            refine lv_aload_n hx hb d_14_34_105 rfl (lv_at hl 2 rfl) ?_
            refine q_get (ci := 12) (j := 0) (v := .int 0) C0 V i_NM rfl rfl hO0 (by decide) w_2298 rfl d_14_34_106 ?_
            refine lv_if_le (tgt := 116) hx hb d_14_34_109 (by decide) (fun c121 => ?_) (fun c121 => absurd (by decide) c121)
            refine lv_aload_n hx hb d_14_34_116 rfl (lv_at hl 2 rfl) ?_
            refine lv_aload_n hx hb d_14_34_117 rfl (lv_at hl 2 rfl) ?_
            refine q_get (ci := 12) (j := 7) (v := .ref qO5) C0 V i_NM rfl rfl hO0 (by decide) w_2305 rfl d_14_34_118 ?_
            replace hO5 := (hu120 _ (q_pd 145 116 rfl)).trans (hO5)
            refine q_getN (ci := 15) (j := 7) (v := .ref qA40) C0 V i_FR rfl rfl hO5 (by decide) wo_2083 rfl d_14_34_121 ?_
            refine lv_iload hx hb d_14_34_124 (lv_at hl 0 rfl) ?_
            replace hA40 := (hu120 _ (q_pd 152 116 rfl)).trans (hA40)
            replace hA2 := (hu120 _ (q_pd 118 116 rfl)).trans ((hg89 _ (q_nc (q_pd 118 145 rfl) (q_nc (q_pd 118 146 rfl) (q_nc (q_pd 118 147 rfl) (q_nc (q_pd 118 148 rfl) (q_nc (q_pd 118 151 rfl) (q_nc (q_pd 118 152 rfl) List.not_mem_nil))))))).trans ((hu37 _ (q_pd 118 116 rfl)).trans (hA2)))
            refine q_goi V (q_runV (As := [.ref qA40, .int y86]) (rest := []) (d := 1) (mc := 0) (ms := 0) (ci := 12) C0 V rfl LV_NM_269 (c_NM_show_8 l D g w119 qO0 qA40 qA1 qA2 qO3 qO4 qO5 qO6 qO7 qA8 qA9 y86 y88 hO0 hA40 hA2 f84 f85 _) rfl rfl hO0 rfl hl.1 rfl (Nat.le_of_ble_eq_true rfl) ⟨by decide, by decide⟩ ⟨Nat.le_of_ble_eq_true rfl, Nat.le_of_ble_eq_true rfl⟩ d_14_34_126) (fun v124 u123 H locs hp122 V => ?_)
            obtain ⟨y125, rfl, hg126, hO0, hA2⟩ := hp122
            replace hF := q_gc hF hg126 (q_al (Nat.le_of_ble_eq_true rfl) (q_al (Nat.le_of_ble_eq_true rfl) (fun _ h => absurd h List.not_mem_nil)))
            exact q_reti C0 V (⟨0, 0, y86, hO0, (show ((0 : Int32).toInt = 0 ∧ ((2 ≤ x1.toInt ∧ x1.toInt ≤ 3) ∧ (0 ≤ x2.toInt ∧ x2.toInt ≤ 9) ∧ (0 ≤ x5.toInt ∧ x5.toInt ≤ 3) ∧ (x3.toInt ≠ 0 → (1 ≤ x4.toInt ∧ x4.toInt ≤ 800)) ∧ (x3.toInt = 0 → (0 ≤ x4.toInt ∧ x4.toInt ≤ 1100))) ∧ ((x3.toInt ≠ 0 ∧ x4.toInt = 1 ∧ (y86 : Int32).toInt = 5) ∨ (x3.toInt ≠ 0 ∧ 1 < x4.toInt ∧ (y86 : Int32).toInt = x4.toInt + 5) ∨ (x3.toInt = 0 ∧ x4.toInt = 0 ∧ (y86 : Int32).toInt = 1) ∨ (x3.toInt = 0 ∧ 0 < x4.toInt ∧ (y86 : Int32).toInt = x4.toInt + 2))) ∨ ((0 : Int32).toInt = 1 ∧ ¬ ((2 ≤ x1.toInt ∧ x1.toInt ≤ 3) ∧ (0 ≤ x2.toInt ∧ x2.toInt ≤ 9) ∧ (0 ≤ x5.toInt ∧ x5.toInt ≤ 3) ∧ (x3.toInt ≠ 0 → (1 ≤ x4.toInt ∧ x4.toInt ≤ 800)) ∧ (x3.toInt = 0 → (0 ≤ x4.toInt ∧ x4.toInt ≤ 1100)))) from by have t1 : 2 ≤ x1.toInt := q_nltI c1; have t2 : 0 ≤ x1.toInt := q_nltI c17; have t3 : x1.toInt ≤ 3 := q_nltI c18; have t4 : 0 ≤ x2.toInt := q_nltI c19; have t5 : x2.toInt ≤ 9 := q_leI c20; have t6 : x3.toInt = 0 := q_eqI c43; have t7 : x1.toInt ≠ 3 := q_neI c44; have t8 : 0 ≤ x4.toInt := q_nltI c78; have t9 : x4.toInt ≤ 1100 := q_nltI c79; have t10 : 0 ≤ x5.toInt := q_nltI c80; have t11 : x5.toInt ≤ 3 := q_leI c81; have t12 : 1080 < x4.toInt := q_nleI c82; have t13 : 2 ≤ y86.toInt := q_leI f84; have t14 : y86.toInt ≤ 1102 := q_leI f85; have e0 : (0 : Int32).toInt = 0 := (by decide); omega), hF⟩) d_14_34_129
          ·
            replace hF := q_gc hF hg94 (q_al (Nat.le_of_ble_eq_true rfl) (q_al (Nat.le_of_ble_eq_true rfl) (q_al (Nat.le_of_ble_eq_true rfl) (q_al (Nat.le_of_ble_eq_true rfl) (q_al (Nat.le_of_ble_eq_true rfl) (q_al (Nat.le_of_ble_eq_true rfl) (fun _ h => absurd h List.not_mem_nil)))))))
            refine lv_istore (lv' := [(8, .int 0), (6, .long 0), (0, .ref qO0), (1, .int x1), (2, .int x2), (3, .int x3), (4, .int x4), (5, .int x5)]) hx hb d_14_34_92 hl (by decide) rfl (fun ls hl => ?_)
            refine lv_aload_n hx hb d_14_34_94 rfl (lv_at hl 2 rfl) ?_
            refine lv_aload_n hx hb d_14_34_95 rfl (lv_at hl 2 rfl) ?_
            replace hO0 := (hg94 _ (q_nc (q_pd 116 145 rfl) (q_nc (q_pd 116 146 rfl) (q_nc (q_pd 116 147 rfl) (q_nc (q_pd 116 148 rfl) (q_nc (q_pd 116 151 rfl) (q_nc (q_pd 116 152 rfl) List.not_mem_nil))))))).trans (hO0)
            refine q_get (ci := 12) (j := 7) (v := .ref qO5) C0 V i_NM rfl rfl hO0 (by decide) w_2305 rfl d_14_34_96 ?_
            refine q_getN (ci := 15) (j := 0) (v := .int 1) C0 V i_FR rfl rfl hO5 (by decide) wo_2075 rfl d_14_34_99 ?_
            refine q_put (ci := 12) (j := 0) (v := .int 1) (ty := .int) C0 V i_NM o_NM n_NM rfl rfl hO0 (by decide) w_2298 rfl rfl rfl rfl (Nat.le_of_ble_eq_true rfl) d_14_34_102 (fun H locs w127 hu128 hO0 V => ?_)
            replace hO0 : w127[116]? = some (qO0, .inr (12, [.int 1, .ref qA1, .int 0, .ref qA2, .int 0, .ref qO3, .ref qO4, .ref qO5, .ref qO6, .ref qO7, .ref qA8, .ref qA9])) := hO0
            replace hF := q_gs hF hu128 (Nat.le_of_ble_eq_true rfl)
            refine lv_aload_n hx hb d_14_34_105 rfl (lv_at hl 2 rfl) ?_
            refine q_get (ci := 12) (j := 0) (v := .int 1) C0 V i_NM rfl rfl hO0 (by decide) w_2298 rfl d_14_34_106 ?_
            refine lv_if_le (tgt := 116) hx hb d_14_34_109 (by decide) (fun c129 => absurd c129 (by decide)) (fun c129 => ?_)
            refine lv_iconst (v := 0) hx hb d_14_34_112 (by decide) ?_
            refine lv_goto (tgt := 129) hx hb d_14_34_113 (by decide) ?_
            exact q_reti C0 V (⟨1, 0, 0, hO0, (show ((1 : Int32).toInt = 0 ∧ ((2 ≤ x1.toInt ∧ x1.toInt ≤ 3) ∧ (0 ≤ x2.toInt ∧ x2.toInt ≤ 9) ∧ (0 ≤ x5.toInt ∧ x5.toInt ≤ 3) ∧ (x3.toInt ≠ 0 → (1 ≤ x4.toInt ∧ x4.toInt ≤ 800)) ∧ (x3.toInt = 0 → (0 ≤ x4.toInt ∧ x4.toInt ≤ 1100))) ∧ ((x3.toInt ≠ 0 ∧ x4.toInt = 1 ∧ (0 : Int32).toInt = 5) ∨ (x3.toInt ≠ 0 ∧ 1 < x4.toInt ∧ (0 : Int32).toInt = x4.toInt + 5) ∨ (x3.toInt = 0 ∧ x4.toInt = 0 ∧ (0 : Int32).toInt = 1) ∨ (x3.toInt = 0 ∧ 0 < x4.toInt ∧ (0 : Int32).toInt = x4.toInt + 2))) ∨ ((1 : Int32).toInt = 1 ∧ ¬ ((2 ≤ x1.toInt ∧ x1.toInt ≤ 3) ∧ (0 ≤ x2.toInt ∧ x2.toInt ≤ 9) ∧ (0 ≤ x5.toInt ∧ x5.toInt ≤ 3) ∧ (x3.toInt ≠ 0 → (1 ≤ x4.toInt ∧ x4.toInt ≤ 800)) ∧ (x3.toInt = 0 → (0 ≤ x4.toInt ∧ x4.toInt ≤ 1100)))) from by have t1 : 2 ≤ x1.toInt := q_nltI c1; have t2 : 0 ≤ x1.toInt := q_nltI c17; have t3 : x1.toInt ≤ 3 := q_nltI c18; have t4 : 0 ≤ x2.toInt := q_nltI c19; have t5 : x2.toInt ≤ 9 := q_leI c20; have t6 : x3.toInt = 0 := q_eqI c43; have t7 : x1.toInt ≠ 3 := q_neI c44; have t8 : 0 ≤ x4.toInt := q_nltI c90; have t9 : x4.toInt ≤ 1100 := q_nltI c91; have t10 : 0 ≤ x5.toInt := q_nltI c92; have t11 : 3 < x5.toInt := q_nleI c93; have e0 : (1 : Int32).toInt = 1 := (by decide); have e1 : (0 : Int32).toInt = 0 := (by decide); omega), hF⟩) d_14_34_129
        ·
          refine lv_iconst (v := 1) hx hb d_14_34_80 (by decide) ?_
          refine lv_goto (tgt := 85) hx hb d_14_34_81 (by decide) ?_
          refine lv_iload hx hb d_14_34_85 (lv_at hl 5 rfl) ?_
          refine lv_iload hx hb d_14_34_87 (lv_at hl 6 rfl) ?_
          replace hO5 := (hu37 _ (q_pd 145 116 rfl)).trans (hO5)
          replace hA34 := (hu37 _ (q_pd 146 116 rfl)).trans (hA34)
          replace hA35 := (hu37 _ (q_pd 147 116 rfl)).trans (hA35)
          replace hA36 := (hu37 _ (q_pd 148 116 rfl)).trans (hA36)
          replace hA39 := (hu37 _ (q_pd 151 116 rfl)).trans (hA39)
          replace hA40 := (hu37 _ (q_pd 152 116 rfl)).trans (hA40)
          refine q_goi V (q_runV (As := [.long 0, .int 1, .int x4, .int x5]) (rest := []) (d := 3) (mc := 0) (ms := 0) (ci := 15) C0 V rfl LV_NM_227 (c_FR_fixed_6 l D g w36 145 146 147 148 151 152 qO5 qA34 qA35 qA36 qA37 qA38 qA39 qA40 x4 x5 hO5 hA34 hA35 hA36 hA39 hA40 (q_pd 146 147 rfl) (q_pd 146 148 rfl) (q_pd 146 151 rfl) (q_pd 146 152 rfl) (q_pd 147 151 rfl) (q_pd 147 152 rfl) (q_pd 148 147 rfl) (q_pd 148 151 rfl) (q_pd 148 152 rfl) (q_pd 151 152 rfl) _) rfl rfl hO5 rfl hl.1 rfl (Nat.le_of_ble_eq_true rfl) ⟨by decide, by decide⟩ ⟨Nat.le_of_ble_eq_true rfl, Nat.le_of_ble_eq_true rfl⟩ d_14_34_89) (fun v132 u131 H locs hp130 V => ?_)
          rcases hp130 with ⟨c133, rfl, hg134, hO5, hA34, hA35, hA36, hA39, hA40⟩ | ⟨c135, c136, rfl, hg137, hO5, hA34, hA35, hA36, hA39, hA40⟩ | ⟨c138, c139, c140, rfl, hg141, hO5, hA34, hA35, hA36, hA39, hA40⟩ | ⟨y148, c142, c143, c144, c145, c146, c147, rfl, hg149, hO5, hA34, hA35, hA36, hA39, hA40⟩ | ⟨y159, y160, y161, c150, c151, c152, c153, c154, c155, f156, f157, f158, rfl, hg162, hO5, hA34, hA35, hA36, hA39, hA40⟩ | ⟨y171, y172, y173, c163, c164, c165, c166, c167, f168, f169, f170, rfl, hg174, hO5, hA34, hA35, hA36, hA39, hA40⟩ | ⟨c175, c176, c177, c178, rfl, hg179, hO5, hA34, hA35, hA36, hA39, hA40⟩
          ·
            replace hF := q_gc hF hg134 (q_al (Nat.le_of_ble_eq_true rfl) (q_al (Nat.le_of_ble_eq_true rfl) (q_al (Nat.le_of_ble_eq_true rfl) (q_al (Nat.le_of_ble_eq_true rfl) (q_al (Nat.le_of_ble_eq_true rfl) (q_al (Nat.le_of_ble_eq_true rfl) (fun _ h => absurd h List.not_mem_nil)))))))
            refine lv_istore (lv' := [(8, .int 0), (6, .long 0), (0, .ref qO0), (1, .int x1), (2, .int x2), (3, .int x3), (4, .int x4), (5, .int x5)]) hx hb d_14_34_92 hl (by decide) rfl (fun ls hl => ?_)
            refine lv_aload_n hx hb d_14_34_94 rfl (lv_at hl 2 rfl) ?_
            refine lv_aload_n hx hb d_14_34_95 rfl (lv_at hl 2 rfl) ?_
            replace hO0 := (hg134 _ (q_nc (q_pd 116 145 rfl) (q_nc (q_pd 116 146 rfl) (q_nc (q_pd 116 147 rfl) (q_nc (q_pd 116 148 rfl) (q_nc (q_pd 116 151 rfl) (q_nc (q_pd 116 152 rfl) List.not_mem_nil))))))).trans (hO0)
            refine q_get (ci := 12) (j := 7) (v := .ref qO5) C0 V i_NM rfl rfl hO0 (by decide) w_2305 rfl d_14_34_96 ?_
            refine q_getN (ci := 15) (j := 0) (v := .int 1) C0 V i_FR rfl rfl hO5 (by decide) wo_2075 rfl d_14_34_99 ?_
            refine q_put (ci := 12) (j := 0) (v := .int 1) (ty := .int) C0 V i_NM o_NM n_NM rfl rfl hO0 (by decide) w_2298 rfl rfl rfl rfl (Nat.le_of_ble_eq_true rfl) d_14_34_102 (fun H locs w180 hu181 hO0 V => ?_)
            replace hO0 : w180[116]? = some (qO0, .inr (12, [.int 1, .ref qA1, .int 0, .ref qA2, .int 0, .ref qO3, .ref qO4, .ref qO5, .ref qO6, .ref qO7, .ref qA8, .ref qA9])) := hO0
            replace hF := q_gs hF hu181 (Nat.le_of_ble_eq_true rfl)
            refine lv_aload_n hx hb d_14_34_105 rfl (lv_at hl 2 rfl) ?_
            refine q_get (ci := 12) (j := 0) (v := .int 1) C0 V i_NM rfl rfl hO0 (by decide) w_2298 rfl d_14_34_106 ?_
            refine lv_if_le (tgt := 116) hx hb d_14_34_109 (by decide) (fun c182 => absurd c182 (by decide)) (fun c182 => ?_)
            refine lv_iconst (v := 0) hx hb d_14_34_112 (by decide) ?_
            refine lv_goto (tgt := 129) hx hb d_14_34_113 (by decide) ?_
            exact q_reti C0 V (⟨1, 0, 0, hO0, (show ((1 : Int32).toInt = 0 ∧ ((2 ≤ x1.toInt ∧ x1.toInt ≤ 3) ∧ (0 ≤ x2.toInt ∧ x2.toInt ≤ 9) ∧ (0 ≤ x5.toInt ∧ x5.toInt ≤ 3) ∧ (x3.toInt ≠ 0 → (1 ≤ x4.toInt ∧ x4.toInt ≤ 800)) ∧ (x3.toInt = 0 → (0 ≤ x4.toInt ∧ x4.toInt ≤ 1100))) ∧ ((x3.toInt ≠ 0 ∧ x4.toInt = 1 ∧ (0 : Int32).toInt = 5) ∨ (x3.toInt ≠ 0 ∧ 1 < x4.toInt ∧ (0 : Int32).toInt = x4.toInt + 5) ∨ (x3.toInt = 0 ∧ x4.toInt = 0 ∧ (0 : Int32).toInt = 1) ∨ (x3.toInt = 0 ∧ 0 < x4.toInt ∧ (0 : Int32).toInt = x4.toInt + 2))) ∨ ((1 : Int32).toInt = 1 ∧ ¬ ((2 ≤ x1.toInt ∧ x1.toInt ≤ 3) ∧ (0 ≤ x2.toInt ∧ x2.toInt ≤ 9) ∧ (0 ≤ x5.toInt ∧ x5.toInt ≤ 3) ∧ (x3.toInt ≠ 0 → (1 ≤ x4.toInt ∧ x4.toInt ≤ 800)) ∧ (x3.toInt = 0 → (0 ≤ x4.toInt ∧ x4.toInt ≤ 1100)))) from by have t1 : 2 ≤ x1.toInt := q_nltI c1; have t2 : 0 ≤ x1.toInt := q_nltI c17; have t3 : x1.toInt ≤ 3 := q_nltI c18; have t4 : 0 ≤ x2.toInt := q_nltI c19; have t5 : x2.toInt ≤ 9 := q_leI c20; have t6 : x3.toInt = 0 := q_eqI c43; have t7 : x1.toInt = 3 := q_eqI c44; have t8 : x4.toInt < 0 := q_ltI c133; have e0 : (1 : Int32).toInt = 1 := (by decide); have e1 : (0 : Int32).toInt = 0 := (by decide); omega), hF⟩) d_14_34_129
          ·
            replace hF := q_gc hF hg137 (q_al (Nat.le_of_ble_eq_true rfl) (q_al (Nat.le_of_ble_eq_true rfl) (q_al (Nat.le_of_ble_eq_true rfl) (q_al (Nat.le_of_ble_eq_true rfl) (q_al (Nat.le_of_ble_eq_true rfl) (q_al (Nat.le_of_ble_eq_true rfl) (fun _ h => absurd h List.not_mem_nil)))))))
            refine lv_istore (lv' := [(8, .int 0), (6, .long 0), (0, .ref qO0), (1, .int x1), (2, .int x2), (3, .int x3), (4, .int x4), (5, .int x5)]) hx hb d_14_34_92 hl (by decide) rfl (fun ls hl => ?_)
            refine lv_aload_n hx hb d_14_34_94 rfl (lv_at hl 2 rfl) ?_
            refine lv_aload_n hx hb d_14_34_95 rfl (lv_at hl 2 rfl) ?_
            replace hO0 := (hg137 _ (q_nc (q_pd 116 145 rfl) (q_nc (q_pd 116 146 rfl) (q_nc (q_pd 116 147 rfl) (q_nc (q_pd 116 148 rfl) (q_nc (q_pd 116 151 rfl) (q_nc (q_pd 116 152 rfl) List.not_mem_nil))))))).trans (hO0)
            refine q_get (ci := 12) (j := 7) (v := .ref qO5) C0 V i_NM rfl rfl hO0 (by decide) w_2305 rfl d_14_34_96 ?_
            refine q_getN (ci := 15) (j := 0) (v := .int 1) C0 V i_FR rfl rfl hO5 (by decide) wo_2075 rfl d_14_34_99 ?_
            refine q_put (ci := 12) (j := 0) (v := .int 1) (ty := .int) C0 V i_NM o_NM n_NM rfl rfl hO0 (by decide) w_2298 rfl rfl rfl rfl (Nat.le_of_ble_eq_true rfl) d_14_34_102 (fun H locs w183 hu184 hO0 V => ?_)
            replace hO0 : w183[116]? = some (qO0, .inr (12, [.int 1, .ref qA1, .int 0, .ref qA2, .int 0, .ref qO3, .ref qO4, .ref qO5, .ref qO6, .ref qO7, .ref qA8, .ref qA9])) := hO0
            replace hF := q_gs hF hu184 (Nat.le_of_ble_eq_true rfl)
            refine lv_aload_n hx hb d_14_34_105 rfl (lv_at hl 2 rfl) ?_
            refine q_get (ci := 12) (j := 0) (v := .int 1) C0 V i_NM rfl rfl hO0 (by decide) w_2298 rfl d_14_34_106 ?_
            refine lv_if_le (tgt := 116) hx hb d_14_34_109 (by decide) (fun c185 => absurd c185 (by decide)) (fun c185 => ?_)
            refine lv_iconst (v := 0) hx hb d_14_34_112 (by decide) ?_
            refine lv_goto (tgt := 129) hx hb d_14_34_113 (by decide) ?_
            exact q_reti C0 V (⟨1, 0, 0, hO0, (show ((1 : Int32).toInt = 0 ∧ ((2 ≤ x1.toInt ∧ x1.toInt ≤ 3) ∧ (0 ≤ x2.toInt ∧ x2.toInt ≤ 9) ∧ (0 ≤ x5.toInt ∧ x5.toInt ≤ 3) ∧ (x3.toInt ≠ 0 → (1 ≤ x4.toInt ∧ x4.toInt ≤ 800)) ∧ (x3.toInt = 0 → (0 ≤ x4.toInt ∧ x4.toInt ≤ 1100))) ∧ ((x3.toInt ≠ 0 ∧ x4.toInt = 1 ∧ (0 : Int32).toInt = 5) ∨ (x3.toInt ≠ 0 ∧ 1 < x4.toInt ∧ (0 : Int32).toInt = x4.toInt + 5) ∨ (x3.toInt = 0 ∧ x4.toInt = 0 ∧ (0 : Int32).toInt = 1) ∨ (x3.toInt = 0 ∧ 0 < x4.toInt ∧ (0 : Int32).toInt = x4.toInt + 2))) ∨ ((1 : Int32).toInt = 1 ∧ ¬ ((2 ≤ x1.toInt ∧ x1.toInt ≤ 3) ∧ (0 ≤ x2.toInt ∧ x2.toInt ≤ 9) ∧ (0 ≤ x5.toInt ∧ x5.toInt ≤ 3) ∧ (x3.toInt ≠ 0 → (1 ≤ x4.toInt ∧ x4.toInt ≤ 800)) ∧ (x3.toInt = 0 → (0 ≤ x4.toInt ∧ x4.toInt ≤ 1100)))) from by have t1 : 2 ≤ x1.toInt := q_nltI c1; have t2 : 0 ≤ x1.toInt := q_nltI c17; have t3 : x1.toInt ≤ 3 := q_nltI c18; have t4 : 0 ≤ x2.toInt := q_nltI c19; have t5 : x2.toInt ≤ 9 := q_leI c20; have t6 : x3.toInt = 0 := q_eqI c43; have t7 : x1.toInt = 3 := q_eqI c44; have t8 : 0 ≤ x4.toInt := q_nltI c135; have t9 : 1100 < x4.toInt := q_ltI c136; have e0 : (1 : Int32).toInt = 1 := (by decide); have e1 : (0 : Int32).toInt = 0 := (by decide); omega), hF⟩) d_14_34_129
          ·
            replace hF := q_gc hF hg141 (q_al (Nat.le_of_ble_eq_true rfl) (q_al (Nat.le_of_ble_eq_true rfl) (q_al (Nat.le_of_ble_eq_true rfl) (q_al (Nat.le_of_ble_eq_true rfl) (q_al (Nat.le_of_ble_eq_true rfl) (q_al (Nat.le_of_ble_eq_true rfl) (fun _ h => absurd h List.not_mem_nil)))))))
            refine lv_istore (lv' := [(8, .int 0), (6, .long 0), (0, .ref qO0), (1, .int x1), (2, .int x2), (3, .int x3), (4, .int x4), (5, .int x5)]) hx hb d_14_34_92 hl (by decide) rfl (fun ls hl => ?_)
            refine lv_aload_n hx hb d_14_34_94 rfl (lv_at hl 2 rfl) ?_
            refine lv_aload_n hx hb d_14_34_95 rfl (lv_at hl 2 rfl) ?_
            replace hO0 := (hg141 _ (q_nc (q_pd 116 145 rfl) (q_nc (q_pd 116 146 rfl) (q_nc (q_pd 116 147 rfl) (q_nc (q_pd 116 148 rfl) (q_nc (q_pd 116 151 rfl) (q_nc (q_pd 116 152 rfl) List.not_mem_nil))))))).trans (hO0)
            refine q_get (ci := 12) (j := 7) (v := .ref qO5) C0 V i_NM rfl rfl hO0 (by decide) w_2305 rfl d_14_34_96 ?_
            refine q_getN (ci := 15) (j := 0) (v := .int 1) C0 V i_FR rfl rfl hO5 (by decide) wo_2075 rfl d_14_34_99 ?_
            refine q_put (ci := 12) (j := 0) (v := .int 1) (ty := .int) C0 V i_NM o_NM n_NM rfl rfl hO0 (by decide) w_2298 rfl rfl rfl rfl (Nat.le_of_ble_eq_true rfl) d_14_34_102 (fun H locs w186 hu187 hO0 V => ?_)
            replace hO0 : w186[116]? = some (qO0, .inr (12, [.int 1, .ref qA1, .int 0, .ref qA2, .int 0, .ref qO3, .ref qO4, .ref qO5, .ref qO6, .ref qO7, .ref qA8, .ref qA9])) := hO0
            replace hF := q_gs hF hu187 (Nat.le_of_ble_eq_true rfl)
            refine lv_aload_n hx hb d_14_34_105 rfl (lv_at hl 2 rfl) ?_
            refine q_get (ci := 12) (j := 0) (v := .int 1) C0 V i_NM rfl rfl hO0 (by decide) w_2298 rfl d_14_34_106 ?_
            refine lv_if_le (tgt := 116) hx hb d_14_34_109 (by decide) (fun c188 => absurd c188 (by decide)) (fun c188 => ?_)
            refine lv_iconst (v := 0) hx hb d_14_34_112 (by decide) ?_
            refine lv_goto (tgt := 129) hx hb d_14_34_113 (by decide) ?_
            exact q_reti C0 V (⟨1, 0, 0, hO0, (show ((1 : Int32).toInt = 0 ∧ ((2 ≤ x1.toInt ∧ x1.toInt ≤ 3) ∧ (0 ≤ x2.toInt ∧ x2.toInt ≤ 9) ∧ (0 ≤ x5.toInt ∧ x5.toInt ≤ 3) ∧ (x3.toInt ≠ 0 → (1 ≤ x4.toInt ∧ x4.toInt ≤ 800)) ∧ (x3.toInt = 0 → (0 ≤ x4.toInt ∧ x4.toInt ≤ 1100))) ∧ ((x3.toInt ≠ 0 ∧ x4.toInt = 1 ∧ (0 : Int32).toInt = 5) ∨ (x3.toInt ≠ 0 ∧ 1 < x4.toInt ∧ (0 : Int32).toInt = x4.toInt + 5) ∨ (x3.toInt = 0 ∧ x4.toInt = 0 ∧ (0 : Int32).toInt = 1) ∨ (x3.toInt = 0 ∧ 0 < x4.toInt ∧ (0 : Int32).toInt = x4.toInt + 2))) ∨ ((1 : Int32).toInt = 1 ∧ ¬ ((2 ≤ x1.toInt ∧ x1.toInt ≤ 3) ∧ (0 ≤ x2.toInt ∧ x2.toInt ≤ 9) ∧ (0 ≤ x5.toInt ∧ x5.toInt ≤ 3) ∧ (x3.toInt ≠ 0 → (1 ≤ x4.toInt ∧ x4.toInt ≤ 800)) ∧ (x3.toInt = 0 → (0 ≤ x4.toInt ∧ x4.toInt ≤ 1100)))) from by have t1 : 2 ≤ x1.toInt := q_nltI c1; have t2 : 0 ≤ x1.toInt := q_nltI c17; have t3 : x1.toInt ≤ 3 := q_nltI c18; have t4 : 0 ≤ x2.toInt := q_nltI c19; have t5 : x2.toInt ≤ 9 := q_leI c20; have t6 : x3.toInt = 0 := q_eqI c43; have t7 : x1.toInt = 3 := q_eqI c44; have t8 : 0 ≤ x4.toInt := q_nltI c138; have t9 : x4.toInt ≤ 1100 := q_nltI c139; have t10 : x5.toInt < 0 := q_ltI c140; have e0 : (1 : Int32).toInt = 1 := (by decide); have e1 : (0 : Int32).toInt = 0 := (by decide); omega), hF⟩) d_14_34_129
          ·
            replace hF := q_gc hF hg149 (q_al (Nat.le_of_ble_eq_true rfl) (q_al (Nat.le_of_ble_eq_true rfl) (q_al (Nat.le_of_ble_eq_true rfl) (q_al (Nat.le_of_ble_eq_true rfl) (q_al (Nat.le_of_ble_eq_true rfl) (q_al (Nat.le_of_ble_eq_true rfl) (fun _ h => absurd h List.not_mem_nil)))))))
            refine lv_istore (lv' := [(8, .int 1), (6, .long 0), (0, .ref qO0), (1, .int x1), (2, .int x2), (3, .int x3), (4, .int x4), (5, .int x5)]) hx hb d_14_34_92 hl (by decide) rfl (fun ls hl => ?_)
            refine lv_aload_n hx hb d_14_34_94 rfl (lv_at hl 2 rfl) ?_
            refine lv_aload_n hx hb d_14_34_95 rfl (lv_at hl 2 rfl) ?_
            replace hO0 := (hg149 _ (q_nc (q_pd 116 145 rfl) (q_nc (q_pd 116 146 rfl) (q_nc (q_pd 116 147 rfl) (q_nc (q_pd 116 148 rfl) (q_nc (q_pd 116 151 rfl) (q_nc (q_pd 116 152 rfl) List.not_mem_nil))))))).trans (hO0)
            refine q_get (ci := 12) (j := 7) (v := .ref qO5) C0 V i_NM rfl rfl hO0 (by decide) w_2305 rfl d_14_34_96 ?_
            refine q_getN (ci := 15) (j := 0) (v := .int 0) C0 V i_FR rfl rfl hO5 (by decide) wo_2075 rfl d_14_34_99 ?_
            refine q_put (ci := 12) (j := 0) (v := .int 0) (ty := .int) C0 V i_NM o_NM n_NM rfl rfl hO0 (by decide) w_2298 rfl rfl rfl rfl (Nat.le_of_ble_eq_true rfl) d_14_34_102 (fun H locs w189 hu190 hO0 V => ?_)
            replace hO0 : w189[116]? = some (qO0, .inr (12, [.int 0, .ref qA1, .int 0, .ref qA2, .int 0, .ref qO3, .ref qO4, .ref qO5, .ref qO6, .ref qO7, .ref qA8, .ref qA9])) := hO0
            replace hF := q_gs hF hu190 (Nat.le_of_ble_eq_true rfl)
            refine lv_aload_n hx hb d_14_34_105 rfl (lv_at hl 2 rfl) ?_
            refine q_get (ci := 12) (j := 0) (v := .int 0) C0 V i_NM rfl rfl hO0 (by decide) w_2298 rfl d_14_34_106 ?_
            refine lv_if_le (tgt := 116) hx hb d_14_34_109 (by decide) (fun c191 => ?_) (fun c191 => absurd (by decide) c191)
            refine lv_aload_n hx hb d_14_34_116 rfl (lv_at hl 2 rfl) ?_
            refine lv_aload_n hx hb d_14_34_117 rfl (lv_at hl 2 rfl) ?_
            refine q_get (ci := 12) (j := 7) (v := .ref qO5) C0 V i_NM rfl rfl hO0 (by decide) w_2305 rfl d_14_34_118 ?_
            replace hO5 := (hu190 _ (q_pd 145 116 rfl)).trans (hO5)
            refine q_getN (ci := 15) (j := 7) (v := .ref qA40) C0 V i_FR rfl rfl hO5 (by decide) wo_2083 rfl d_14_34_121 ?_
            refine lv_iload hx hb d_14_34_124 (lv_at hl 0 rfl) ?_
            replace hA40 := (hu190 _ (q_pd 152 116 rfl)).trans (hA40)
            replace hA2 := (hu190 _ (q_pd 118 116 rfl)).trans ((hg149 _ (q_nc (q_pd 118 145 rfl) (q_nc (q_pd 118 146 rfl) (q_nc (q_pd 118 147 rfl) (q_nc (q_pd 118 148 rfl) (q_nc (q_pd 118 151 rfl) (q_nc (q_pd 118 152 rfl) List.not_mem_nil))))))).trans ((hu37 _ (q_pd 118 116 rfl)).trans (hA2)))
            refine q_goi V (q_runV (As := [.ref qA40, .int 1]) (rest := []) (d := 1) (mc := 0) (ms := 0) (ci := 12) C0 V rfl LV_NM_269 (c_NM_show_6 l D g w189 qO0 qA40 qA1 qA2 qO3 qO4 qO5 qO6 qO7 qA8 qA9 hO0 hA40 hA2 _) rfl rfl hO0 rfl hl.1 rfl (Nat.le_of_ble_eq_true rfl) ⟨by decide, by decide⟩ ⟨Nat.le_of_ble_eq_true rfl, Nat.le_of_ble_eq_true rfl⟩ d_14_34_126) (fun v194 u193 H locs hp192 V => ?_)
            obtain ⟨rfl, hg195, hO0, hA2⟩ := hp192
            replace hF := q_gc hF hg195 (q_al (Nat.le_of_ble_eq_true rfl) (q_al (Nat.le_of_ble_eq_true rfl) (fun _ h => absurd h List.not_mem_nil)))
            exact q_reti C0 V (⟨0, 0, 1, hO0, (show ((0 : Int32).toInt = 0 ∧ ((2 ≤ x1.toInt ∧ x1.toInt ≤ 3) ∧ (0 ≤ x2.toInt ∧ x2.toInt ≤ 9) ∧ (0 ≤ x5.toInt ∧ x5.toInt ≤ 3) ∧ (x3.toInt ≠ 0 → (1 ≤ x4.toInt ∧ x4.toInt ≤ 800)) ∧ (x3.toInt = 0 → (0 ≤ x4.toInt ∧ x4.toInt ≤ 1100))) ∧ ((x3.toInt ≠ 0 ∧ x4.toInt = 1 ∧ (1 : Int32).toInt = 5) ∨ (x3.toInt ≠ 0 ∧ 1 < x4.toInt ∧ (1 : Int32).toInt = x4.toInt + 5) ∨ (x3.toInt = 0 ∧ x4.toInt = 0 ∧ (1 : Int32).toInt = 1) ∨ (x3.toInt = 0 ∧ 0 < x4.toInt ∧ (1 : Int32).toInt = x4.toInt + 2))) ∨ ((0 : Int32).toInt = 1 ∧ ¬ ((2 ≤ x1.toInt ∧ x1.toInt ≤ 3) ∧ (0 ≤ x2.toInt ∧ x2.toInt ≤ 9) ∧ (0 ≤ x5.toInt ∧ x5.toInt ≤ 3) ∧ (x3.toInt ≠ 0 → (1 ≤ x4.toInt ∧ x4.toInt ≤ 800)) ∧ (x3.toInt = 0 → (0 ≤ x4.toInt ∧ x4.toInt ≤ 1100)))) from by have t1 : 2 ≤ x1.toInt := q_nltI c1; have t2 : 0 ≤ x1.toInt := q_nltI c17; have t3 : x1.toInt ≤ 3 := q_nltI c18; have t4 : 0 ≤ x2.toInt := q_nltI c19; have t5 : x2.toInt ≤ 9 := q_leI c20; have t6 : x3.toInt = 0 := q_eqI c43; have t7 : x1.toInt = 3 := q_eqI c44; have t8 : 0 ≤ x4.toInt := q_nltI c142; have t9 : x4.toInt ≤ 1100 := q_nltI c143; have t10 : 0 ≤ x5.toInt := q_nltI c144; have t11 : x5.toInt ≤ 3 := q_leI c145; have t12 : x4.toInt ≤ 1080 := q_leI c146; have t13 : x4.toInt ≤ 0 := q_leI c147; have e0 : (0 : Int32).toInt = 0 := (by decide); have e1 : (1 : Int32).toInt = 1 := (by decide); omega), hF⟩) d_14_34_129
          ·
            replace hF := q_gc hF hg162 (q_al (Nat.le_of_ble_eq_true rfl) (q_al (Nat.le_of_ble_eq_true rfl) (q_al (Nat.le_of_ble_eq_true rfl) (q_al (Nat.le_of_ble_eq_true rfl) (q_al (Nat.le_of_ble_eq_true rfl) (q_al (Nat.le_of_ble_eq_true rfl) (fun _ h => absurd h List.not_mem_nil)))))))
            refine lv_istore (lv' := [(8, .int y159), (6, .long 0), (0, .ref qO0), (1, .int x1), (2, .int x2), (3, .int x3), (4, .int x4), (5, .int x5)]) hx hb d_14_34_92 hl (by decide) rfl (fun ls hl => ?_)
            refine lv_aload_n hx hb d_14_34_94 rfl (lv_at hl 2 rfl) ?_
            refine lv_aload_n hx hb d_14_34_95 rfl (lv_at hl 2 rfl) ?_
            replace hO0 := (hg162 _ (q_nc (q_pd 116 145 rfl) (q_nc (q_pd 116 146 rfl) (q_nc (q_pd 116 147 rfl) (q_nc (q_pd 116 148 rfl) (q_nc (q_pd 116 151 rfl) (q_nc (q_pd 116 152 rfl) List.not_mem_nil))))))).trans (hO0)
            refine q_get (ci := 12) (j := 7) (v := .ref qO5) C0 V i_NM rfl rfl hO0 (by decide) w_2305 rfl d_14_34_96 ?_
            refine q_getN (ci := 15) (j := 0) (v := .int 0) C0 V i_FR rfl rfl hO5 (by decide) wo_2075 rfl d_14_34_99 ?_
            refine q_put (ci := 12) (j := 0) (v := .int 0) (ty := .int) C0 V i_NM o_NM n_NM rfl rfl hO0 (by decide) w_2298 rfl rfl rfl rfl (Nat.le_of_ble_eq_true rfl) d_14_34_102 (fun H locs w196 hu197 hO0 V => ?_)
            replace hO0 : w196[116]? = some (qO0, .inr (12, [.int 0, .ref qA1, .int 0, .ref qA2, .int 0, .ref qO3, .ref qO4, .ref qO5, .ref qO6, .ref qO7, .ref qA8, .ref qA9])) := hO0
            replace hF := q_gs hF hu197 (Nat.le_of_ble_eq_true rfl)
            refine lv_aload_n hx hb d_14_34_105 rfl (lv_at hl 2 rfl) ?_
            refine q_get (ci := 12) (j := 0) (v := .int 0) C0 V i_NM rfl rfl hO0 (by decide) w_2298 rfl d_14_34_106 ?_
            refine lv_if_le (tgt := 116) hx hb d_14_34_109 (by decide) (fun c198 => ?_) (fun c198 => absurd (by decide) c198)
            refine lv_aload_n hx hb d_14_34_116 rfl (lv_at hl 2 rfl) ?_
            refine lv_aload_n hx hb d_14_34_117 rfl (lv_at hl 2 rfl) ?_
            refine q_get (ci := 12) (j := 7) (v := .ref qO5) C0 V i_NM rfl rfl hO0 (by decide) w_2305 rfl d_14_34_118 ?_
            replace hO5 := (hu197 _ (q_pd 145 116 rfl)).trans (hO5)
            refine q_getN (ci := 15) (j := 7) (v := .ref qA40) C0 V i_FR rfl rfl hO5 (by decide) wo_2083 rfl d_14_34_121 ?_
            refine lv_iload hx hb d_14_34_124 (lv_at hl 0 rfl) ?_
            replace hA40 := (hu197 _ (q_pd 152 116 rfl)).trans (hA40)
            replace hA2 := (hu197 _ (q_pd 118 116 rfl)).trans ((hg162 _ (q_nc (q_pd 118 145 rfl) (q_nc (q_pd 118 146 rfl) (q_nc (q_pd 118 147 rfl) (q_nc (q_pd 118 148 rfl) (q_nc (q_pd 118 151 rfl) (q_nc (q_pd 118 152 rfl) List.not_mem_nil))))))).trans ((hu37 _ (q_pd 118 116 rfl)).trans (hA2)))
            refine q_goi V (q_runV (As := [.ref qA40, .int y159]) (rest := []) (d := 1) (mc := 0) (ms := 0) (ci := 12) C0 V rfl LV_NM_269 (c_NM_show_7 l D g w196 qO0 qA40 qA1 qA2 qO3 qO4 qO5 qO6 qO7 qA8 qA9 y159 y161 hO0 hA40 hA2 f157 f158 _) rfl rfl hO0 rfl hl.1 rfl (Nat.le_of_ble_eq_true rfl) ⟨by decide, by decide⟩ ⟨Nat.le_of_ble_eq_true rfl, Nat.le_of_ble_eq_true rfl⟩ d_14_34_126) (fun v201 u200 H locs hp199 V => ?_)
            obtain ⟨y202, rfl, hg203, hO0, hA2⟩ := hp199
            replace hF := q_gc hF hg203 (q_al (Nat.le_of_ble_eq_true rfl) (q_al (Nat.le_of_ble_eq_true rfl) (fun _ h => absurd h List.not_mem_nil)))
            exact q_reti C0 V (⟨0, 0, y159, hO0, (show ((0 : Int32).toInt = 0 ∧ ((2 ≤ x1.toInt ∧ x1.toInt ≤ 3) ∧ (0 ≤ x2.toInt ∧ x2.toInt ≤ 9) ∧ (0 ≤ x5.toInt ∧ x5.toInt ≤ 3) ∧ (x3.toInt ≠ 0 → (1 ≤ x4.toInt ∧ x4.toInt ≤ 800)) ∧ (x3.toInt = 0 → (0 ≤ x4.toInt ∧ x4.toInt ≤ 1100))) ∧ ((x3.toInt ≠ 0 ∧ x4.toInt = 1 ∧ (y159 : Int32).toInt = 5) ∨ (x3.toInt ≠ 0 ∧ 1 < x4.toInt ∧ (y159 : Int32).toInt = x4.toInt + 5) ∨ (x3.toInt = 0 ∧ x4.toInt = 0 ∧ (y159 : Int32).toInt = 1) ∨ (x3.toInt = 0 ∧ 0 < x4.toInt ∧ (y159 : Int32).toInt = x4.toInt + 2))) ∨ ((0 : Int32).toInt = 1 ∧ ¬ ((2 ≤ x1.toInt ∧ x1.toInt ≤ 3) ∧ (0 ≤ x2.toInt ∧ x2.toInt ≤ 9) ∧ (0 ≤ x5.toInt ∧ x5.toInt ≤ 3) ∧ (x3.toInt ≠ 0 → (1 ≤ x4.toInt ∧ x4.toInt ≤ 800)) ∧ (x3.toInt = 0 → (0 ≤ x4.toInt ∧ x4.toInt ≤ 1100)))) from by have t1 : 2 ≤ x1.toInt := q_nltI c1; have t2 : 0 ≤ x1.toInt := q_nltI c17; have t3 : x1.toInt ≤ 3 := q_nltI c18; have t4 : 0 ≤ x2.toInt := q_nltI c19; have t5 : x2.toInt ≤ 9 := q_leI c20; have t6 : x3.toInt = 0 := q_eqI c43; have t7 : x1.toInt = 3 := q_eqI c44; have t8 : 0 ≤ x4.toInt := q_nltI c150; have t9 : x4.toInt ≤ 1100 := q_nltI c151; have t10 : 0 ≤ x5.toInt := q_nltI c152; have t11 : x5.toInt ≤ 3 := q_leI c153; have t12 : x4.toInt ≤ 1080 := q_leI c154; have t13 : 0 < x4.toInt := q_nleI c155; have t14 : 2 ≤ y159.toInt := q_leI f157; have t15 : y159.toInt ≤ 1082 := q_leI f158; have e0 : (0 : Int32).toInt = 0 := (by decide); omega), hF⟩) d_14_34_129
          ·
            replace hF := q_gc hF hg174 (q_al (Nat.le_of_ble_eq_true rfl) (q_al (Nat.le_of_ble_eq_true rfl) (q_al (Nat.le_of_ble_eq_true rfl) (q_al (Nat.le_of_ble_eq_true rfl) (q_al (Nat.le_of_ble_eq_true rfl) (q_al (Nat.le_of_ble_eq_true rfl) (fun _ h => absurd h List.not_mem_nil)))))))
            refine lv_istore (lv' := [(8, .int y171), (6, .long 0), (0, .ref qO0), (1, .int x1), (2, .int x2), (3, .int x3), (4, .int x4), (5, .int x5)]) hx hb d_14_34_92 hl (by decide) rfl (fun ls hl => ?_)
            refine lv_aload_n hx hb d_14_34_94 rfl (lv_at hl 2 rfl) ?_
            refine lv_aload_n hx hb d_14_34_95 rfl (lv_at hl 2 rfl) ?_
            replace hO0 := (hg174 _ (q_nc (q_pd 116 145 rfl) (q_nc (q_pd 116 146 rfl) (q_nc (q_pd 116 147 rfl) (q_nc (q_pd 116 148 rfl) (q_nc (q_pd 116 151 rfl) (q_nc (q_pd 116 152 rfl) List.not_mem_nil))))))).trans (hO0)
            refine q_get (ci := 12) (j := 7) (v := .ref qO5) C0 V i_NM rfl rfl hO0 (by decide) w_2305 rfl d_14_34_96 ?_
            refine q_getN (ci := 15) (j := 0) (v := .int 0) C0 V i_FR rfl rfl hO5 (by decide) wo_2075 rfl d_14_34_99 ?_
            refine q_put (ci := 12) (j := 0) (v := .int 0) (ty := .int) C0 V i_NM o_NM n_NM rfl rfl hO0 (by decide) w_2298 rfl rfl rfl rfl (Nat.le_of_ble_eq_true rfl) d_14_34_102 (fun H locs w204 hu205 hO0 V => ?_)
            replace hO0 : w204[116]? = some (qO0, .inr (12, [.int 0, .ref qA1, .int 0, .ref qA2, .int 0, .ref qO3, .ref qO4, .ref qO5, .ref qO6, .ref qO7, .ref qA8, .ref qA9])) := hO0
            replace hF := q_gs hF hu205 (Nat.le_of_ble_eq_true rfl)
            refine lv_aload_n hx hb d_14_34_105 rfl (lv_at hl 2 rfl) ?_
            refine q_get (ci := 12) (j := 0) (v := .int 0) C0 V i_NM rfl rfl hO0 (by decide) w_2298 rfl d_14_34_106 ?_
            refine lv_if_le (tgt := 116) hx hb d_14_34_109 (by decide) (fun c206 => ?_) (fun c206 => absurd (by decide) c206)
            refine lv_aload_n hx hb d_14_34_116 rfl (lv_at hl 2 rfl) ?_
            refine lv_aload_n hx hb d_14_34_117 rfl (lv_at hl 2 rfl) ?_
            refine q_get (ci := 12) (j := 7) (v := .ref qO5) C0 V i_NM rfl rfl hO0 (by decide) w_2305 rfl d_14_34_118 ?_
            replace hO5 := (hu205 _ (q_pd 145 116 rfl)).trans (hO5)
            refine q_getN (ci := 15) (j := 7) (v := .ref qA40) C0 V i_FR rfl rfl hO5 (by decide) wo_2083 rfl d_14_34_121 ?_
            refine lv_iload hx hb d_14_34_124 (lv_at hl 0 rfl) ?_
            replace hA40 := (hu205 _ (q_pd 152 116 rfl)).trans (hA40)
            replace hA2 := (hu205 _ (q_pd 118 116 rfl)).trans ((hg174 _ (q_nc (q_pd 118 145 rfl) (q_nc (q_pd 118 146 rfl) (q_nc (q_pd 118 147 rfl) (q_nc (q_pd 118 148 rfl) (q_nc (q_pd 118 151 rfl) (q_nc (q_pd 118 152 rfl) List.not_mem_nil))))))).trans ((hu37 _ (q_pd 118 116 rfl)).trans (hA2)))
            refine q_goi V (q_runV (As := [.ref qA40, .int y171]) (rest := []) (d := 1) (mc := 0) (ms := 0) (ci := 12) C0 V rfl LV_NM_269 (c_NM_show_8 l D g w204 qO0 qA40 qA1 qA2 qO3 qO4 qO5 qO6 qO7 qA8 qA9 y171 y173 hO0 hA40 hA2 f169 f170 _) rfl rfl hO0 rfl hl.1 rfl (Nat.le_of_ble_eq_true rfl) ⟨by decide, by decide⟩ ⟨Nat.le_of_ble_eq_true rfl, Nat.le_of_ble_eq_true rfl⟩ d_14_34_126) (fun v209 u208 H locs hp207 V => ?_)
            obtain ⟨y210, rfl, hg211, hO0, hA2⟩ := hp207
            replace hF := q_gc hF hg211 (q_al (Nat.le_of_ble_eq_true rfl) (q_al (Nat.le_of_ble_eq_true rfl) (fun _ h => absurd h List.not_mem_nil)))
            exact q_reti C0 V (⟨0, 0, y171, hO0, (show ((0 : Int32).toInt = 0 ∧ ((2 ≤ x1.toInt ∧ x1.toInt ≤ 3) ∧ (0 ≤ x2.toInt ∧ x2.toInt ≤ 9) ∧ (0 ≤ x5.toInt ∧ x5.toInt ≤ 3) ∧ (x3.toInt ≠ 0 → (1 ≤ x4.toInt ∧ x4.toInt ≤ 800)) ∧ (x3.toInt = 0 → (0 ≤ x4.toInt ∧ x4.toInt ≤ 1100))) ∧ ((x3.toInt ≠ 0 ∧ x4.toInt = 1 ∧ (y171 : Int32).toInt = 5) ∨ (x3.toInt ≠ 0 ∧ 1 < x4.toInt ∧ (y171 : Int32).toInt = x4.toInt + 5) ∨ (x3.toInt = 0 ∧ x4.toInt = 0 ∧ (y171 : Int32).toInt = 1) ∨ (x3.toInt = 0 ∧ 0 < x4.toInt ∧ (y171 : Int32).toInt = x4.toInt + 2))) ∨ ((0 : Int32).toInt = 1 ∧ ¬ ((2 ≤ x1.toInt ∧ x1.toInt ≤ 3) ∧ (0 ≤ x2.toInt ∧ x2.toInt ≤ 9) ∧ (0 ≤ x5.toInt ∧ x5.toInt ≤ 3) ∧ (x3.toInt ≠ 0 → (1 ≤ x4.toInt ∧ x4.toInt ≤ 800)) ∧ (x3.toInt = 0 → (0 ≤ x4.toInt ∧ x4.toInt ≤ 1100)))) from by have t1 : 2 ≤ x1.toInt := q_nltI c1; have t2 : 0 ≤ x1.toInt := q_nltI c17; have t3 : x1.toInt ≤ 3 := q_nltI c18; have t4 : 0 ≤ x2.toInt := q_nltI c19; have t5 : x2.toInt ≤ 9 := q_leI c20; have t6 : x3.toInt = 0 := q_eqI c43; have t7 : x1.toInt = 3 := q_eqI c44; have t8 : 0 ≤ x4.toInt := q_nltI c163; have t9 : x4.toInt ≤ 1100 := q_nltI c164; have t10 : 0 ≤ x5.toInt := q_nltI c165; have t11 : x5.toInt ≤ 3 := q_leI c166; have t12 : 1080 < x4.toInt := q_nleI c167; have t13 : 2 ≤ y171.toInt := q_leI f169; have t14 : y171.toInt ≤ 1102 := q_leI f170; have e0 : (0 : Int32).toInt = 0 := (by decide); omega), hF⟩) d_14_34_129
          ·
            replace hF := q_gc hF hg179 (q_al (Nat.le_of_ble_eq_true rfl) (q_al (Nat.le_of_ble_eq_true rfl) (q_al (Nat.le_of_ble_eq_true rfl) (q_al (Nat.le_of_ble_eq_true rfl) (q_al (Nat.le_of_ble_eq_true rfl) (q_al (Nat.le_of_ble_eq_true rfl) (fun _ h => absurd h List.not_mem_nil)))))))
            refine lv_istore (lv' := [(8, .int 0), (6, .long 0), (0, .ref qO0), (1, .int x1), (2, .int x2), (3, .int x3), (4, .int x4), (5, .int x5)]) hx hb d_14_34_92 hl (by decide) rfl (fun ls hl => ?_)
            refine lv_aload_n hx hb d_14_34_94 rfl (lv_at hl 2 rfl) ?_
            refine lv_aload_n hx hb d_14_34_95 rfl (lv_at hl 2 rfl) ?_
            replace hO0 := (hg179 _ (q_nc (q_pd 116 145 rfl) (q_nc (q_pd 116 146 rfl) (q_nc (q_pd 116 147 rfl) (q_nc (q_pd 116 148 rfl) (q_nc (q_pd 116 151 rfl) (q_nc (q_pd 116 152 rfl) List.not_mem_nil))))))).trans (hO0)
            refine q_get (ci := 12) (j := 7) (v := .ref qO5) C0 V i_NM rfl rfl hO0 (by decide) w_2305 rfl d_14_34_96 ?_
            refine q_getN (ci := 15) (j := 0) (v := .int 1) C0 V i_FR rfl rfl hO5 (by decide) wo_2075 rfl d_14_34_99 ?_
            refine q_put (ci := 12) (j := 0) (v := .int 1) (ty := .int) C0 V i_NM o_NM n_NM rfl rfl hO0 (by decide) w_2298 rfl rfl rfl rfl (Nat.le_of_ble_eq_true rfl) d_14_34_102 (fun H locs w212 hu213 hO0 V => ?_)
            replace hO0 : w212[116]? = some (qO0, .inr (12, [.int 1, .ref qA1, .int 0, .ref qA2, .int 0, .ref qO3, .ref qO4, .ref qO5, .ref qO6, .ref qO7, .ref qA8, .ref qA9])) := hO0
            replace hF := q_gs hF hu213 (Nat.le_of_ble_eq_true rfl)
            refine lv_aload_n hx hb d_14_34_105 rfl (lv_at hl 2 rfl) ?_
            refine q_get (ci := 12) (j := 0) (v := .int 1) C0 V i_NM rfl rfl hO0 (by decide) w_2298 rfl d_14_34_106 ?_
            refine lv_if_le (tgt := 116) hx hb d_14_34_109 (by decide) (fun c214 => absurd c214 (by decide)) (fun c214 => ?_)
            refine lv_iconst (v := 0) hx hb d_14_34_112 (by decide) ?_
            refine lv_goto (tgt := 129) hx hb d_14_34_113 (by decide) ?_
            exact q_reti C0 V (⟨1, 0, 0, hO0, (show ((1 : Int32).toInt = 0 ∧ ((2 ≤ x1.toInt ∧ x1.toInt ≤ 3) ∧ (0 ≤ x2.toInt ∧ x2.toInt ≤ 9) ∧ (0 ≤ x5.toInt ∧ x5.toInt ≤ 3) ∧ (x3.toInt ≠ 0 → (1 ≤ x4.toInt ∧ x4.toInt ≤ 800)) ∧ (x3.toInt = 0 → (0 ≤ x4.toInt ∧ x4.toInt ≤ 1100))) ∧ ((x3.toInt ≠ 0 ∧ x4.toInt = 1 ∧ (0 : Int32).toInt = 5) ∨ (x3.toInt ≠ 0 ∧ 1 < x4.toInt ∧ (0 : Int32).toInt = x4.toInt + 5) ∨ (x3.toInt = 0 ∧ x4.toInt = 0 ∧ (0 : Int32).toInt = 1) ∨ (x3.toInt = 0 ∧ 0 < x4.toInt ∧ (0 : Int32).toInt = x4.toInt + 2))) ∨ ((1 : Int32).toInt = 1 ∧ ¬ ((2 ≤ x1.toInt ∧ x1.toInt ≤ 3) ∧ (0 ≤ x2.toInt ∧ x2.toInt ≤ 9) ∧ (0 ≤ x5.toInt ∧ x5.toInt ≤ 3) ∧ (x3.toInt ≠ 0 → (1 ≤ x4.toInt ∧ x4.toInt ≤ 800)) ∧ (x3.toInt = 0 → (0 ≤ x4.toInt ∧ x4.toInt ≤ 1100)))) from by have t1 : 2 ≤ x1.toInt := q_nltI c1; have t2 : 0 ≤ x1.toInt := q_nltI c17; have t3 : x1.toInt ≤ 3 := q_nltI c18; have t4 : 0 ≤ x2.toInt := q_nltI c19; have t5 : x2.toInt ≤ 9 := q_leI c20; have t6 : x3.toInt = 0 := q_eqI c43; have t7 : x1.toInt = 3 := q_eqI c44; have t8 : 0 ≤ x4.toInt := q_nltI c175; have t9 : x4.toInt ≤ 1100 := q_nltI c176; have t10 : 0 ≤ x5.toInt := q_nltI c177; have t11 : 3 < x5.toInt := q_nleI c178; have e0 : (1 : Int32).toInt = 1 := (by decide); have e1 : (0 : Int32).toInt = 0 := (by decide); omega), hF⟩) d_14_34_129
      ·
        refine lv_aload_n hx hb d_14_34_43 rfl (lv_at hl 1 rfl) ?_
        refine q_get (ci := 12) (j := 7) (v := .ref qO5) C0 V i_NM rfl rfl hO0 (by decide) w_2305 rfl d_14_34_44 ?_
        refine lv_lload hx hb d_14_34_47 (lv_at hl 0 rfl) ?_
        refine lv_iload_n hx hb d_14_34_49 rfl (lv_at hl 2 rfl) ?_
        refine lv_iconst (v := 3) hx hb d_14_34_50 (by decide) ?_
        refine lv_icmp_ne (tgt := 58) hx hb d_14_34_51 (by decide) (fun c215 => ?_) (fun c215 => ?_)
        ·
          refine lv_iconst (v := 0) hx hb d_14_34_58 (by decide) ?_
          refine lv_iload hx hb d_14_34_59 (lv_at hl 5 rfl) ?_
          refine lv_iload hx hb d_14_34_61 (lv_at hl 6 rfl) ?_
          replace hO5 := (hu37 _ (q_pd 145 116 rfl)).trans (hO5)
          replace hA34 := (hu37 _ (q_pd 146 116 rfl)).trans (hA34)
          replace hA35 := (hu37 _ (q_pd 147 116 rfl)).trans (hA35)
          replace hA36 := (hu37 _ (q_pd 148 116 rfl)).trans (hA36)
          replace hA39 := (hu37 _ (q_pd 151 116 rfl)).trans (hA39)
          replace hA40 := (hu37 _ (q_pd 152 116 rfl)).trans (hA40)
          refine q_goi V (q_runV (As := [.long 0, .int 0, .int x4, .int x5]) (rest := []) (d := 3) (mc := 0) (ms := 0) (ci := 15) C0 V rfl LV_NM_279 (c_FR_scientific l D g w36 145 146 147 148 151 152 qO5 qA34 qA35 qA36 qA37 qA38 qA39 qA40 x4 x5 hO5 hA34 hA35 hA36 hA39 hA40 (q_pd 146 147 rfl) (q_pd 146 148 rfl) (q_pd 146 151 rfl) (q_pd 146 152 rfl) (q_pd 147 151 rfl) (q_pd 147 152 rfl) (q_pd 148 147 rfl) (q_pd 148 151 rfl) (q_pd 148 152 rfl) (q_pd 151 152 rfl) _) rfl rfl hO5 rfl hl.1 rfl (Nat.le_of_ble_eq_true rfl) ⟨by decide, by decide⟩ ⟨Nat.le_of_ble_eq_true rfl, Nat.le_of_ble_eq_true rfl⟩ d_14_34_63) (fun v218 u217 H locs hp216 V => ?_)
          rcases hp216 with ⟨c219, rfl, hg220, hO5, hA34, hA35, hA36, hA39, hA40⟩ | ⟨c221, c222, rfl, hg223, hO5, hA34, hA35, hA36, hA39, hA40⟩ | ⟨c224, c225, c226, rfl, hg227, hO5, hA34, hA35, hA36, hA39, hA40⟩ | ⟨y233, c228, c229, c230, c231, c232, rfl, hg234, hO5, hA34, hA35, hA36, hA39, hA40⟩ | ⟨y243, y244, y245, c235, c236, c237, c238, c239, f240, f241, f242, rfl, hg246, hO5, hA34, hA35, hA36, hA39, hA40⟩ | ⟨c247, c248, c249, c250, rfl, hg251, hO5, hA34, hA35, hA36, hA39, hA40⟩
          ·
            replace hF := q_gc hF hg220 (q_al (Nat.le_of_ble_eq_true rfl) (q_al (Nat.le_of_ble_eq_true rfl) (q_al (Nat.le_of_ble_eq_true rfl) (q_al (Nat.le_of_ble_eq_true rfl) (q_al (Nat.le_of_ble_eq_true rfl) (q_al (Nat.le_of_ble_eq_true rfl) (fun _ h => absurd h List.not_mem_nil)))))))
            refine lv_goto (tgt := 92) hx hb d_14_34_66 (by decide) ?_
            refine lv_istore (lv' := [(8, .int 0), (6, .long 0), (0, .ref qO0), (1, .int x1), (2, .int x2), (3, .int x3), (4, .int x4), (5, .int x5)]) hx hb d_14_34_92 hl (by decide) rfl (fun ls hl => ?_)
            refine lv_aload_n hx hb d_14_34_94 rfl (lv_at hl 2 rfl) ?_
            refine lv_aload_n hx hb d_14_34_95 rfl (lv_at hl 2 rfl) ?_
            replace hO0 := (hg220 _ (q_nc (q_pd 116 145 rfl) (q_nc (q_pd 116 146 rfl) (q_nc (q_pd 116 147 rfl) (q_nc (q_pd 116 148 rfl) (q_nc (q_pd 116 151 rfl) (q_nc (q_pd 116 152 rfl) List.not_mem_nil))))))).trans (hO0)
            refine q_get (ci := 12) (j := 7) (v := .ref qO5) C0 V i_NM rfl rfl hO0 (by decide) w_2305 rfl d_14_34_96 ?_
            refine q_getN (ci := 15) (j := 0) (v := .int 1) C0 V i_FR rfl rfl hO5 (by decide) wo_2075 rfl d_14_34_99 ?_
            refine q_put (ci := 12) (j := 0) (v := .int 1) (ty := .int) C0 V i_NM o_NM n_NM rfl rfl hO0 (by decide) w_2298 rfl rfl rfl rfl (Nat.le_of_ble_eq_true rfl) d_14_34_102 (fun H locs w252 hu253 hO0 V => ?_)
            replace hO0 : w252[116]? = some (qO0, .inr (12, [.int 1, .ref qA1, .int 0, .ref qA2, .int 0, .ref qO3, .ref qO4, .ref qO5, .ref qO6, .ref qO7, .ref qA8, .ref qA9])) := hO0
            replace hF := q_gs hF hu253 (Nat.le_of_ble_eq_true rfl)
            refine lv_aload_n hx hb d_14_34_105 rfl (lv_at hl 2 rfl) ?_
            refine q_get (ci := 12) (j := 0) (v := .int 1) C0 V i_NM rfl rfl hO0 (by decide) w_2298 rfl d_14_34_106 ?_
            refine lv_if_le (tgt := 116) hx hb d_14_34_109 (by decide) (fun c254 => absurd c254 (by decide)) (fun c254 => ?_)
            refine lv_iconst (v := 0) hx hb d_14_34_112 (by decide) ?_
            refine lv_goto (tgt := 129) hx hb d_14_34_113 (by decide) ?_
            exact q_reti C0 V (⟨1, 0, 0, hO0, (show ((1 : Int32).toInt = 0 ∧ ((2 ≤ x1.toInt ∧ x1.toInt ≤ 3) ∧ (0 ≤ x2.toInt ∧ x2.toInt ≤ 9) ∧ (0 ≤ x5.toInt ∧ x5.toInt ≤ 3) ∧ (x3.toInt ≠ 0 → (1 ≤ x4.toInt ∧ x4.toInt ≤ 800)) ∧ (x3.toInt = 0 → (0 ≤ x4.toInt ∧ x4.toInt ≤ 1100))) ∧ ((x3.toInt ≠ 0 ∧ x4.toInt = 1 ∧ (0 : Int32).toInt = 5) ∨ (x3.toInt ≠ 0 ∧ 1 < x4.toInt ∧ (0 : Int32).toInt = x4.toInt + 5) ∨ (x3.toInt = 0 ∧ x4.toInt = 0 ∧ (0 : Int32).toInt = 1) ∨ (x3.toInt = 0 ∧ 0 < x4.toInt ∧ (0 : Int32).toInt = x4.toInt + 2))) ∨ ((1 : Int32).toInt = 1 ∧ ¬ ((2 ≤ x1.toInt ∧ x1.toInt ≤ 3) ∧ (0 ≤ x2.toInt ∧ x2.toInt ≤ 9) ∧ (0 ≤ x5.toInt ∧ x5.toInt ≤ 3) ∧ (x3.toInt ≠ 0 → (1 ≤ x4.toInt ∧ x4.toInt ≤ 800)) ∧ (x3.toInt = 0 → (0 ≤ x4.toInt ∧ x4.toInt ≤ 1100)))) from by have t1 : 2 ≤ x1.toInt := q_nltI c1; have t2 : 0 ≤ x1.toInt := q_nltI c17; have t3 : x1.toInt ≤ 3 := q_nltI c18; have t4 : 0 ≤ x2.toInt := q_nltI c19; have t5 : x2.toInt ≤ 9 := q_leI c20; have t6 : x3.toInt ≠ 0 := q_neI c43; have t7 : x1.toInt ≠ 3 := q_neI c215; have t8 : x4.toInt < 1 := q_ltI c219; have e0 : (1 : Int32).toInt = 1 := (by decide); have e1 : (0 : Int32).toInt = 0 := (by decide); omega), hF⟩) d_14_34_129
          ·
            replace hF := q_gc hF hg223 (q_al (Nat.le_of_ble_eq_true rfl) (q_al (Nat.le_of_ble_eq_true rfl) (q_al (Nat.le_of_ble_eq_true rfl) (q_al (Nat.le_of_ble_eq_true rfl) (q_al (Nat.le_of_ble_eq_true rfl) (q_al (Nat.le_of_ble_eq_true rfl) (fun _ h => absurd h List.not_mem_nil)))))))
            refine lv_goto (tgt := 92) hx hb d_14_34_66 (by decide) ?_
            refine lv_istore (lv' := [(8, .int 0), (6, .long 0), (0, .ref qO0), (1, .int x1), (2, .int x2), (3, .int x3), (4, .int x4), (5, .int x5)]) hx hb d_14_34_92 hl (by decide) rfl (fun ls hl => ?_)
            refine lv_aload_n hx hb d_14_34_94 rfl (lv_at hl 2 rfl) ?_
            refine lv_aload_n hx hb d_14_34_95 rfl (lv_at hl 2 rfl) ?_
            replace hO0 := (hg223 _ (q_nc (q_pd 116 145 rfl) (q_nc (q_pd 116 146 rfl) (q_nc (q_pd 116 147 rfl) (q_nc (q_pd 116 148 rfl) (q_nc (q_pd 116 151 rfl) (q_nc (q_pd 116 152 rfl) List.not_mem_nil))))))).trans (hO0)
            refine q_get (ci := 12) (j := 7) (v := .ref qO5) C0 V i_NM rfl rfl hO0 (by decide) w_2305 rfl d_14_34_96 ?_
            refine q_getN (ci := 15) (j := 0) (v := .int 1) C0 V i_FR rfl rfl hO5 (by decide) wo_2075 rfl d_14_34_99 ?_
            refine q_put (ci := 12) (j := 0) (v := .int 1) (ty := .int) C0 V i_NM o_NM n_NM rfl rfl hO0 (by decide) w_2298 rfl rfl rfl rfl (Nat.le_of_ble_eq_true rfl) d_14_34_102 (fun H locs w255 hu256 hO0 V => ?_)
            replace hO0 : w255[116]? = some (qO0, .inr (12, [.int 1, .ref qA1, .int 0, .ref qA2, .int 0, .ref qO3, .ref qO4, .ref qO5, .ref qO6, .ref qO7, .ref qA8, .ref qA9])) := hO0
            replace hF := q_gs hF hu256 (Nat.le_of_ble_eq_true rfl)
            refine lv_aload_n hx hb d_14_34_105 rfl (lv_at hl 2 rfl) ?_
            refine q_get (ci := 12) (j := 0) (v := .int 1) C0 V i_NM rfl rfl hO0 (by decide) w_2298 rfl d_14_34_106 ?_
            refine lv_if_le (tgt := 116) hx hb d_14_34_109 (by decide) (fun c257 => absurd c257 (by decide)) (fun c257 => ?_)
            refine lv_iconst (v := 0) hx hb d_14_34_112 (by decide) ?_
            refine lv_goto (tgt := 129) hx hb d_14_34_113 (by decide) ?_
            exact q_reti C0 V (⟨1, 0, 0, hO0, (show ((1 : Int32).toInt = 0 ∧ ((2 ≤ x1.toInt ∧ x1.toInt ≤ 3) ∧ (0 ≤ x2.toInt ∧ x2.toInt ≤ 9) ∧ (0 ≤ x5.toInt ∧ x5.toInt ≤ 3) ∧ (x3.toInt ≠ 0 → (1 ≤ x4.toInt ∧ x4.toInt ≤ 800)) ∧ (x3.toInt = 0 → (0 ≤ x4.toInt ∧ x4.toInt ≤ 1100))) ∧ ((x3.toInt ≠ 0 ∧ x4.toInt = 1 ∧ (0 : Int32).toInt = 5) ∨ (x3.toInt ≠ 0 ∧ 1 < x4.toInt ∧ (0 : Int32).toInt = x4.toInt + 5) ∨ (x3.toInt = 0 ∧ x4.toInt = 0 ∧ (0 : Int32).toInt = 1) ∨ (x3.toInt = 0 ∧ 0 < x4.toInt ∧ (0 : Int32).toInt = x4.toInt + 2))) ∨ ((1 : Int32).toInt = 1 ∧ ¬ ((2 ≤ x1.toInt ∧ x1.toInt ≤ 3) ∧ (0 ≤ x2.toInt ∧ x2.toInt ≤ 9) ∧ (0 ≤ x5.toInt ∧ x5.toInt ≤ 3) ∧ (x3.toInt ≠ 0 → (1 ≤ x4.toInt ∧ x4.toInt ≤ 800)) ∧ (x3.toInt = 0 → (0 ≤ x4.toInt ∧ x4.toInt ≤ 1100)))) from by have t1 : 2 ≤ x1.toInt := q_nltI c1; have t2 : 0 ≤ x1.toInt := q_nltI c17; have t3 : x1.toInt ≤ 3 := q_nltI c18; have t4 : 0 ≤ x2.toInt := q_nltI c19; have t5 : x2.toInt ≤ 9 := q_leI c20; have t6 : x3.toInt ≠ 0 := q_neI c43; have t7 : x1.toInt ≠ 3 := q_neI c215; have t8 : 1 ≤ x4.toInt := q_nltI c221; have t9 : 800 < x4.toInt := q_ltI c222; have e0 : (1 : Int32).toInt = 1 := (by decide); have e1 : (0 : Int32).toInt = 0 := (by decide); omega), hF⟩) d_14_34_129
          ·
            replace hF := q_gc hF hg227 (q_al (Nat.le_of_ble_eq_true rfl) (q_al (Nat.le_of_ble_eq_true rfl) (q_al (Nat.le_of_ble_eq_true rfl) (q_al (Nat.le_of_ble_eq_true rfl) (q_al (Nat.le_of_ble_eq_true rfl) (q_al (Nat.le_of_ble_eq_true rfl) (fun _ h => absurd h List.not_mem_nil)))))))
            refine lv_goto (tgt := 92) hx hb d_14_34_66 (by decide) ?_
            refine lv_istore (lv' := [(8, .int 0), (6, .long 0), (0, .ref qO0), (1, .int x1), (2, .int x2), (3, .int x3), (4, .int x4), (5, .int x5)]) hx hb d_14_34_92 hl (by decide) rfl (fun ls hl => ?_)
            refine lv_aload_n hx hb d_14_34_94 rfl (lv_at hl 2 rfl) ?_
            refine lv_aload_n hx hb d_14_34_95 rfl (lv_at hl 2 rfl) ?_
            replace hO0 := (hg227 _ (q_nc (q_pd 116 145 rfl) (q_nc (q_pd 116 146 rfl) (q_nc (q_pd 116 147 rfl) (q_nc (q_pd 116 148 rfl) (q_nc (q_pd 116 151 rfl) (q_nc (q_pd 116 152 rfl) List.not_mem_nil))))))).trans (hO0)
            refine q_get (ci := 12) (j := 7) (v := .ref qO5) C0 V i_NM rfl rfl hO0 (by decide) w_2305 rfl d_14_34_96 ?_
            refine q_getN (ci := 15) (j := 0) (v := .int 1) C0 V i_FR rfl rfl hO5 (by decide) wo_2075 rfl d_14_34_99 ?_
            refine q_put (ci := 12) (j := 0) (v := .int 1) (ty := .int) C0 V i_NM o_NM n_NM rfl rfl hO0 (by decide) w_2298 rfl rfl rfl rfl (Nat.le_of_ble_eq_true rfl) d_14_34_102 (fun H locs w258 hu259 hO0 V => ?_)
            replace hO0 : w258[116]? = some (qO0, .inr (12, [.int 1, .ref qA1, .int 0, .ref qA2, .int 0, .ref qO3, .ref qO4, .ref qO5, .ref qO6, .ref qO7, .ref qA8, .ref qA9])) := hO0
            replace hF := q_gs hF hu259 (Nat.le_of_ble_eq_true rfl)
            refine lv_aload_n hx hb d_14_34_105 rfl (lv_at hl 2 rfl) ?_
            refine q_get (ci := 12) (j := 0) (v := .int 1) C0 V i_NM rfl rfl hO0 (by decide) w_2298 rfl d_14_34_106 ?_
            refine lv_if_le (tgt := 116) hx hb d_14_34_109 (by decide) (fun c260 => absurd c260 (by decide)) (fun c260 => ?_)
            refine lv_iconst (v := 0) hx hb d_14_34_112 (by decide) ?_
            refine lv_goto (tgt := 129) hx hb d_14_34_113 (by decide) ?_
            exact q_reti C0 V (⟨1, 0, 0, hO0, (show ((1 : Int32).toInt = 0 ∧ ((2 ≤ x1.toInt ∧ x1.toInt ≤ 3) ∧ (0 ≤ x2.toInt ∧ x2.toInt ≤ 9) ∧ (0 ≤ x5.toInt ∧ x5.toInt ≤ 3) ∧ (x3.toInt ≠ 0 → (1 ≤ x4.toInt ∧ x4.toInt ≤ 800)) ∧ (x3.toInt = 0 → (0 ≤ x4.toInt ∧ x4.toInt ≤ 1100))) ∧ ((x3.toInt ≠ 0 ∧ x4.toInt = 1 ∧ (0 : Int32).toInt = 5) ∨ (x3.toInt ≠ 0 ∧ 1 < x4.toInt ∧ (0 : Int32).toInt = x4.toInt + 5) ∨ (x3.toInt = 0 ∧ x4.toInt = 0 ∧ (0 : Int32).toInt = 1) ∨ (x3.toInt = 0 ∧ 0 < x4.toInt ∧ (0 : Int32).toInt = x4.toInt + 2))) ∨ ((1 : Int32).toInt = 1 ∧ ¬ ((2 ≤ x1.toInt ∧ x1.toInt ≤ 3) ∧ (0 ≤ x2.toInt ∧ x2.toInt ≤ 9) ∧ (0 ≤ x5.toInt ∧ x5.toInt ≤ 3) ∧ (x3.toInt ≠ 0 → (1 ≤ x4.toInt ∧ x4.toInt ≤ 800)) ∧ (x3.toInt = 0 → (0 ≤ x4.toInt ∧ x4.toInt ≤ 1100)))) from by have t1 : 2 ≤ x1.toInt := q_nltI c1; have t2 : 0 ≤ x1.toInt := q_nltI c17; have t3 : x1.toInt ≤ 3 := q_nltI c18; have t4 : 0 ≤ x2.toInt := q_nltI c19; have t5 : x2.toInt ≤ 9 := q_leI c20; have t6 : x3.toInt ≠ 0 := q_neI c43; have t7 : x1.toInt ≠ 3 := q_neI c215; have t8 : 1 ≤ x4.toInt := q_nltI c224; have t9 : x4.toInt ≤ 800 := q_nltI c225; have t10 : x5.toInt < 0 := q_ltI c226; have e0 : (1 : Int32).toInt = 1 := (by decide); have e1 : (0 : Int32).toInt = 0 := (by decide); omega), hF⟩) d_14_34_129
          ·
            replace hF := q_gc hF hg234 (q_al (Nat.le_of_ble_eq_true rfl) (q_al (Nat.le_of_ble_eq_true rfl) (q_al (Nat.le_of_ble_eq_true rfl) (q_al (Nat.le_of_ble_eq_true rfl) (q_al (Nat.le_of_ble_eq_true rfl) (q_al (Nat.le_of_ble_eq_true rfl) (fun _ h => absurd h List.not_mem_nil)))))))
            refine lv_goto (tgt := 92) hx hb d_14_34_66 (by decide) ?_
            refine lv_istore (lv' := [(8, .int ((3 + 1) + 1)), (6, .long 0), (0, .ref qO0), (1, .int x1), (2, .int x2), (3, .int x3), (4, .int x4), (5, .int x5)]) hx hb d_14_34_92 hl (by decide) rfl (fun ls hl => ?_)
            refine lv_aload_n hx hb d_14_34_94 rfl (lv_at hl 2 rfl) ?_
            refine lv_aload_n hx hb d_14_34_95 rfl (lv_at hl 2 rfl) ?_
            replace hO0 := (hg234 _ (q_nc (q_pd 116 145 rfl) (q_nc (q_pd 116 146 rfl) (q_nc (q_pd 116 147 rfl) (q_nc (q_pd 116 148 rfl) (q_nc (q_pd 116 151 rfl) (q_nc (q_pd 116 152 rfl) List.not_mem_nil))))))).trans (hO0)
            refine q_get (ci := 12) (j := 7) (v := .ref qO5) C0 V i_NM rfl rfl hO0 (by decide) w_2305 rfl d_14_34_96 ?_
            refine q_getN (ci := 15) (j := 0) (v := .int 0) C0 V i_FR rfl rfl hO5 (by decide) wo_2075 rfl d_14_34_99 ?_
            refine q_put (ci := 12) (j := 0) (v := .int 0) (ty := .int) C0 V i_NM o_NM n_NM rfl rfl hO0 (by decide) w_2298 rfl rfl rfl rfl (Nat.le_of_ble_eq_true rfl) d_14_34_102 (fun H locs w261 hu262 hO0 V => ?_)
            replace hO0 : w261[116]? = some (qO0, .inr (12, [.int 0, .ref qA1, .int 0, .ref qA2, .int 0, .ref qO3, .ref qO4, .ref qO5, .ref qO6, .ref qO7, .ref qA8, .ref qA9])) := hO0
            replace hF := q_gs hF hu262 (Nat.le_of_ble_eq_true rfl)
            refine lv_aload_n hx hb d_14_34_105 rfl (lv_at hl 2 rfl) ?_
            refine q_get (ci := 12) (j := 0) (v := .int 0) C0 V i_NM rfl rfl hO0 (by decide) w_2298 rfl d_14_34_106 ?_
            refine lv_if_le (tgt := 116) hx hb d_14_34_109 (by decide) (fun c263 => ?_) (fun c263 => absurd (by decide) c263)
            refine lv_aload_n hx hb d_14_34_116 rfl (lv_at hl 2 rfl) ?_
            refine lv_aload_n hx hb d_14_34_117 rfl (lv_at hl 2 rfl) ?_
            refine q_get (ci := 12) (j := 7) (v := .ref qO5) C0 V i_NM rfl rfl hO0 (by decide) w_2305 rfl d_14_34_118 ?_
            replace hO5 := (hu262 _ (q_pd 145 116 rfl)).trans (hO5)
            refine q_getN (ci := 15) (j := 7) (v := .ref qA40) C0 V i_FR rfl rfl hO5 (by decide) wo_2083 rfl d_14_34_121 ?_
            refine lv_iload hx hb d_14_34_124 (lv_at hl 0 rfl) ?_
            replace hA40 := (hu262 _ (q_pd 152 116 rfl)).trans (hA40)
            replace hA2 := (hu262 _ (q_pd 118 116 rfl)).trans ((hg234 _ (q_nc (q_pd 118 145 rfl) (q_nc (q_pd 118 146 rfl) (q_nc (q_pd 118 147 rfl) (q_nc (q_pd 118 148 rfl) (q_nc (q_pd 118 151 rfl) (q_nc (q_pd 118 152 rfl) List.not_mem_nil))))))).trans ((hu37 _ (q_pd 118 116 rfl)).trans (hA2)))
            refine q_goi V (q_runV (As := [.ref qA40, .int ((3 + 1) + 1)]) (rest := []) (d := 1) (mc := 0) (ms := 0) (ci := 12) C0 V rfl LV_NM_269 (c_NM_show_7 l D g w261 qO0 qA40 qA1 qA2 qO3 qO4 qO5 qO6 qO7 qA8 qA9 ((3 + 1) + 1) (upd (upd (upd (upd (upd (fun _ => 0) 0 48) 1 101) 2 43) 3.toNatClampNeg 48) (3 + 1).toNatClampNeg 48) hO0 hA40 hA2 (q_Ile (x := 2) (y := ((3 + 1) + 1)) (by decide) (q_addI (x := (3 + 1)) (y := 1) (q_addI (x := 3) (y := 1) (by decide) (by decide) (by omega) (by omega)) (by decide) (by omega) (by omega)) (by omega)) (q_Ile (x := ((3 + 1) + 1)) (y := 1082) (q_addI (x := (3 + 1)) (y := 1) (q_addI (x := 3) (y := 1) (by decide) (by decide) (by omega) (by omega)) (by decide) (by omega) (by omega)) (by decide) (by omega)) _) rfl rfl hO0 rfl hl.1 rfl (Nat.le_of_ble_eq_true rfl) ⟨by decide, by decide⟩ ⟨Nat.le_of_ble_eq_true rfl, Nat.le_of_ble_eq_true rfl⟩ d_14_34_126) (fun v266 u265 H locs hp264 V => ?_)
            obtain ⟨y267, rfl, hg268, hO0, hA2⟩ := hp264
            replace hF := q_gc hF hg268 (q_al (Nat.le_of_ble_eq_true rfl) (q_al (Nat.le_of_ble_eq_true rfl) (fun _ h => absurd h List.not_mem_nil)))
            exact q_reti C0 V (⟨0, 0, ((3 + 1) + 1), hO0, (show ((0 : Int32).toInt = 0 ∧ ((2 ≤ x1.toInt ∧ x1.toInt ≤ 3) ∧ (0 ≤ x2.toInt ∧ x2.toInt ≤ 9) ∧ (0 ≤ x5.toInt ∧ x5.toInt ≤ 3) ∧ (x3.toInt ≠ 0 → (1 ≤ x4.toInt ∧ x4.toInt ≤ 800)) ∧ (x3.toInt = 0 → (0 ≤ x4.toInt ∧ x4.toInt ≤ 1100))) ∧ ((x3.toInt ≠ 0 ∧ x4.toInt = 1 ∧ (((3 + 1) + 1) : Int32).toInt = 5) ∨ (x3.toInt ≠ 0 ∧ 1 < x4.toInt ∧ (((3 + 1) + 1) : Int32).toInt = x4.toInt + 5) ∨ (x3.toInt = 0 ∧ x4.toInt = 0 ∧ (((3 + 1) + 1) : Int32).toInt = 1) ∨ (x3.toInt = 0 ∧ 0 < x4.toInt ∧ (((3 + 1) + 1) : Int32).toInt = x4.toInt + 2))) ∨ ((0 : Int32).toInt = 1 ∧ ¬ ((2 ≤ x1.toInt ∧ x1.toInt ≤ 3) ∧ (0 ≤ x2.toInt ∧ x2.toInt ≤ 9) ∧ (0 ≤ x5.toInt ∧ x5.toInt ≤ 3) ∧ (x3.toInt ≠ 0 → (1 ≤ x4.toInt ∧ x4.toInt ≤ 800)) ∧ (x3.toInt = 0 → (0 ≤ x4.toInt ∧ x4.toInt ≤ 1100)))) from by have t1 : 2 ≤ x1.toInt := q_nltI c1; have t2 : 0 ≤ x1.toInt := q_nltI c17; have t3 : x1.toInt ≤ 3 := q_nltI c18; have t4 : 0 ≤ x2.toInt := q_nltI c19; have t5 : x2.toInt ≤ 9 := q_leI c20; have t6 : x3.toInt ≠ 0 := q_neI c43; have t7 : x1.toInt ≠ 3 := q_neI c215; have t8 : 1 ≤ x4.toInt := q_nltI c228; have t9 : x4.toInt ≤ 800 := q_nltI c229; have t10 : 0 ≤ x5.toInt := q_nltI c230; have t11 : x5.toInt ≤ 3 := q_leI c231; have t12 : x4.toInt ≤ 1 := q_leI c232; have e0 : (0 : Int32).toInt = 0 := (by decide); have e1 : (((3 + 1) + 1) : Int32).toInt = ((3 + 1) + 1) := (q_addI (x := (3 + 1)) (y := 1) (q_addI (x := 3) (y := 1) (by decide) (by decide) (by omega) (by omega)) (by decide) (by omega) (by omega)); omega), hF⟩) d_14_34_129
          ·
            replace hF := q_gc hF hg246 (q_al (Nat.le_of_ble_eq_true rfl) (q_al (Nat.le_of_ble_eq_true rfl) (q_al (Nat.le_of_ble_eq_true rfl) (q_al (Nat.le_of_ble_eq_true rfl) (q_al (Nat.le_of_ble_eq_true rfl) (q_al (Nat.le_of_ble_eq_true rfl) (fun _ h => absurd h List.not_mem_nil)))))))
            refine lv_goto (tgt := 92) hx hb d_14_34_66 (by decide) ?_
            refine lv_istore (lv' := [(8, .int ((((y243 + 1) + 1) + 1) + 1)), (6, .long 0), (0, .ref qO0), (1, .int x1), (2, .int x2), (3, .int x3), (4, .int x4), (5, .int x5)]) hx hb d_14_34_92 hl (by decide) rfl (fun ls hl => ?_)
            refine lv_aload_n hx hb d_14_34_94 rfl (lv_at hl 2 rfl) ?_
            refine lv_aload_n hx hb d_14_34_95 rfl (lv_at hl 2 rfl) ?_
            replace hO0 := (hg246 _ (q_nc (q_pd 116 145 rfl) (q_nc (q_pd 116 146 rfl) (q_nc (q_pd 116 147 rfl) (q_nc (q_pd 116 148 rfl) (q_nc (q_pd 116 151 rfl) (q_nc (q_pd 116 152 rfl) List.not_mem_nil))))))).trans (hO0)
            refine q_get (ci := 12) (j := 7) (v := .ref qO5) C0 V i_NM rfl rfl hO0 (by decide) w_2305 rfl d_14_34_96 ?_
            refine q_getN (ci := 15) (j := 0) (v := .int 0) C0 V i_FR rfl rfl hO5 (by decide) wo_2075 rfl d_14_34_99 ?_
            refine q_put (ci := 12) (j := 0) (v := .int 0) (ty := .int) C0 V i_NM o_NM n_NM rfl rfl hO0 (by decide) w_2298 rfl rfl rfl rfl (Nat.le_of_ble_eq_true rfl) d_14_34_102 (fun H locs w269 hu270 hO0 V => ?_)
            replace hO0 : w269[116]? = some (qO0, .inr (12, [.int 0, .ref qA1, .int 0, .ref qA2, .int 0, .ref qO3, .ref qO4, .ref qO5, .ref qO6, .ref qO7, .ref qA8, .ref qA9])) := hO0
            replace hF := q_gs hF hu270 (Nat.le_of_ble_eq_true rfl)
            refine lv_aload_n hx hb d_14_34_105 rfl (lv_at hl 2 rfl) ?_
            refine q_get (ci := 12) (j := 0) (v := .int 0) C0 V i_NM rfl rfl hO0 (by decide) w_2298 rfl d_14_34_106 ?_
            refine lv_if_le (tgt := 116) hx hb d_14_34_109 (by decide) (fun c271 => ?_) (fun c271 => absurd (by decide) c271)
            refine lv_aload_n hx hb d_14_34_116 rfl (lv_at hl 2 rfl) ?_
            refine lv_aload_n hx hb d_14_34_117 rfl (lv_at hl 2 rfl) ?_
            refine q_get (ci := 12) (j := 7) (v := .ref qO5) C0 V i_NM rfl rfl hO0 (by decide) w_2305 rfl d_14_34_118 ?_
            replace hO5 := (hu270 _ (q_pd 145 116 rfl)).trans (hO5)
            refine q_getN (ci := 15) (j := 7) (v := .ref qA40) C0 V i_FR rfl rfl hO5 (by decide) wo_2083 rfl d_14_34_121 ?_
            refine lv_iload hx hb d_14_34_124 (lv_at hl 0 rfl) ?_
            replace hA40 := (hu270 _ (q_pd 152 116 rfl)).trans (hA40)
            replace hA2 := (hu270 _ (q_pd 118 116 rfl)).trans ((hg246 _ (q_nc (q_pd 118 145 rfl) (q_nc (q_pd 118 146 rfl) (q_nc (q_pd 118 147 rfl) (q_nc (q_pd 118 148 rfl) (q_nc (q_pd 118 151 rfl) (q_nc (q_pd 118 152 rfl) List.not_mem_nil))))))).trans ((hu37 _ (q_pd 118 116 rfl)).trans (hA2)))
            refine q_goi V (q_runV (As := [.ref qA40, .int ((((y243 + 1) + 1) + 1) + 1)]) (rest := []) (d := 1) (mc := 0) (ms := 0) (ci := 12) C0 V rfl LV_NM_269 (c_NM_show_7 l D g w269 qO0 qA40 qA1 qA2 qO3 qO4 qO5 qO6 qO7 qA8 qA9 ((((y243 + 1) + 1) + 1) + 1) (upd (upd (upd (upd y245 y243.toNatClampNeg 101) (y243 + 1).toNatClampNeg 43) ((y243 + 1) + 1).toNatClampNeg 48) (((y243 + 1) + 1) + 1).toNatClampNeg 48) hO0 hA40 hA2 (q_Ile (x := 2) (y := ((((y243.toInt + 1) + 1) + 1) + 1)) (by decide) (q_addI (x := (((y243.toInt + 1) + 1) + 1)) (y := 1) (q_addI (x := ((y243.toInt + 1) + 1)) (y := 1) (q_addI (x := (y243.toInt + 1)) (y := 1) (q_addI (x := y243.toInt) (y := 1) rfl (by decide) (by have t1 : 2 ≤ y243.toInt := q_leI f241; have t2 : y243.toInt ≤ 801 := q_leI f242; omega) (by have t1 : 2 ≤ y243.toInt := q_leI f241; have t2 : y243.toInt ≤ 801 := q_leI f242; omega)) (by decide) (by have t1 : 2 ≤ y243.toInt := q_leI f241; have t2 : y243.toInt ≤ 801 := q_leI f242; omega) (by have t1 : 2 ≤ y243.toInt := q_leI f241; have t2 : y243.toInt ≤ 801 := q_leI f242; omega)) (by decide) (by have t1 : 2 ≤ y243.toInt := q_leI f241; have t2 : y243.toInt ≤ 801 := q_leI f242; omega) (by have t1 : 2 ≤ y243.toInt := q_leI f241; have t2 : y243.toInt ≤ 801 := q_leI f242; omega)) (by decide) (by have t1 : 2 ≤ y243.toInt := q_leI f241; have t2 : y243.toInt ≤ 801 := q_leI f242; omega) (by have t1 : 2 ≤ y243.toInt := q_leI f241; have t2 : y243.toInt ≤ 801 := q_leI f242; omega)) (by have t1 : 2 ≤ y243.toInt := q_leI f241; have t2 : y243.toInt ≤ 801 := q_leI f242; omega)) (q_Ile (x := ((((y243.toInt + 1) + 1) + 1) + 1)) (y := 1082) (q_addI (x := (((y243.toInt + 1) + 1) + 1)) (y := 1) (q_addI (x := ((y243.toInt + 1) + 1)) (y := 1) (q_addI (x := (y243.toInt + 1)) (y := 1) (q_addI (x := y243.toInt) (y := 1) rfl (by decide) (by have t1 : 2 ≤ y243.toInt := q_leI f241; have t2 : y243.toInt ≤ 801 := q_leI f242; omega) (by have t1 : 2 ≤ y243.toInt := q_leI f241; have t2 : y243.toInt ≤ 801 := q_leI f242; omega)) (by decide) (by have t1 : 2 ≤ y243.toInt := q_leI f241; have t2 : y243.toInt ≤ 801 := q_leI f242; omega) (by have t1 : 2 ≤ y243.toInt := q_leI f241; have t2 : y243.toInt ≤ 801 := q_leI f242; omega)) (by decide) (by have t1 : 2 ≤ y243.toInt := q_leI f241; have t2 : y243.toInt ≤ 801 := q_leI f242; omega) (by have t1 : 2 ≤ y243.toInt := q_leI f241; have t2 : y243.toInt ≤ 801 := q_leI f242; omega)) (by decide) (by have t1 : 2 ≤ y243.toInt := q_leI f241; have t2 : y243.toInt ≤ 801 := q_leI f242; omega) (by have t1 : 2 ≤ y243.toInt := q_leI f241; have t2 : y243.toInt ≤ 801 := q_leI f242; omega)) (by decide) (by have t1 : 2 ≤ y243.toInt := q_leI f241; have t2 : y243.toInt ≤ 801 := q_leI f242; omega)) _) rfl rfl hO0 rfl hl.1 rfl (Nat.le_of_ble_eq_true rfl) ⟨by decide, by decide⟩ ⟨Nat.le_of_ble_eq_true rfl, Nat.le_of_ble_eq_true rfl⟩ d_14_34_126) (fun v274 u273 H locs hp272 V => ?_)
            obtain ⟨y275, rfl, hg276, hO0, hA2⟩ := hp272
            replace hF := q_gc hF hg276 (q_al (Nat.le_of_ble_eq_true rfl) (q_al (Nat.le_of_ble_eq_true rfl) (fun _ h => absurd h List.not_mem_nil)))
            exact q_reti C0 V (⟨0, 0, ((((y243 + 1) + 1) + 1) + 1), hO0, (show ((0 : Int32).toInt = 0 ∧ ((2 ≤ x1.toInt ∧ x1.toInt ≤ 3) ∧ (0 ≤ x2.toInt ∧ x2.toInt ≤ 9) ∧ (0 ≤ x5.toInt ∧ x5.toInt ≤ 3) ∧ (x3.toInt ≠ 0 → (1 ≤ x4.toInt ∧ x4.toInt ≤ 800)) ∧ (x3.toInt = 0 → (0 ≤ x4.toInt ∧ x4.toInt ≤ 1100))) ∧ ((x3.toInt ≠ 0 ∧ x4.toInt = 1 ∧ (((((y243 + 1) + 1) + 1) + 1) : Int32).toInt = 5) ∨ (x3.toInt ≠ 0 ∧ 1 < x4.toInt ∧ (((((y243 + 1) + 1) + 1) + 1) : Int32).toInt = x4.toInt + 5) ∨ (x3.toInt = 0 ∧ x4.toInt = 0 ∧ (((((y243 + 1) + 1) + 1) + 1) : Int32).toInt = 1) ∨ (x3.toInt = 0 ∧ 0 < x4.toInt ∧ (((((y243 + 1) + 1) + 1) + 1) : Int32).toInt = x4.toInt + 2))) ∨ ((0 : Int32).toInt = 1 ∧ ¬ ((2 ≤ x1.toInt ∧ x1.toInt ≤ 3) ∧ (0 ≤ x2.toInt ∧ x2.toInt ≤ 9) ∧ (0 ≤ x5.toInt ∧ x5.toInt ≤ 3) ∧ (x3.toInt ≠ 0 → (1 ≤ x4.toInt ∧ x4.toInt ≤ 800)) ∧ (x3.toInt = 0 → (0 ≤ x4.toInt ∧ x4.toInt ≤ 1100)))) from by have t1 : 2 ≤ x1.toInt := q_nltI c1; have t2 : 0 ≤ x1.toInt := q_nltI c17; have t3 : x1.toInt ≤ 3 := q_nltI c18; have t4 : 0 ≤ x2.toInt := q_nltI c19; have t5 : x2.toInt ≤ 9 := q_leI c20; have t6 : x3.toInt ≠ 0 := q_neI c43; have t7 : x1.toInt ≠ 3 := q_neI c215; have t8 : 1 ≤ x4.toInt := q_nltI c235; have t9 : x4.toInt ≤ 800 := q_nltI c236; have t10 : 0 ≤ x5.toInt := q_nltI c237; have t11 : x5.toInt ≤ 3 := q_leI c238; have t12 : 1 < x4.toInt := q_nleI c239; have t13 : 2 ≤ y243.toInt := q_leI f241; have t14 : y243.toInt ≤ 801 := q_leI f242; have e0 : (0 : Int32).toInt = 0 := (by decide); have e1 : (((((y243 + 1) + 1) + 1) + 1) : Int32).toInt = ((((y243.toInt + 1) + 1) + 1) + 1) := (q_addI (x := (((y243.toInt + 1) + 1) + 1)) (y := 1) (q_addI (x := ((y243.toInt + 1) + 1)) (y := 1) (q_addI (x := (y243.toInt + 1)) (y := 1) (q_addI (x := y243.toInt) (y := 1) rfl (by decide) (by have t1 : 2 ≤ y243.toInt := q_leI f241; have t2 : y243.toInt ≤ 801 := q_leI f242; omega) (by have t1 : 2 ≤ y243.toInt := q_leI f241; have t2 : y243.toInt ≤ 801 := q_leI f242; omega)) (by decide) (by have t1 : 2 ≤ y243.toInt := q_leI f241; have t2 : y243.toInt ≤ 801 := q_leI f242; omega) (by have t1 : 2 ≤ y243.toInt := q_leI f241; have t2 : y243.toInt ≤ 801 := q_leI f242; omega)) (by decide) (by have t1 : 2 ≤ y243.toInt := q_leI f241; have t2 : y243.toInt ≤ 801 := q_leI f242; omega) (by have t1 : 2 ≤ y243.toInt := q_leI f241; have t2 : y243.toInt ≤ 801 := q_leI f242; omega)) (by decide) (by have t1 : 2 ≤ y243.toInt := q_leI f241; have t2 : y243.toInt ≤ 801 := q_leI f242; omega) (by have t1 : 2 ≤ y243.toInt := q_leI f241; have t2 : y243.toInt ≤ 801 := q_leI f242; omega)); omega), hF⟩) d_14_34_129
          ·
            replace hF := q_gc hF hg251 (q_al (Nat.le_of_ble_eq_true rfl) (q_al (Nat.le_of_ble_eq_true rfl) (q_al (Nat.le_of_ble_eq_true rfl) (q_al (Nat.le_of_ble_eq_true rfl) (q_al (Nat.le_of_ble_eq_true rfl) (q_al (Nat.le_of_ble_eq_true rfl) (fun _ h => absurd h List.not_mem_nil)))))))
            refine lv_goto (tgt := 92) hx hb d_14_34_66 (by decide) ?_
            refine lv_istore (lv' := [(8, .int 0), (6, .long 0), (0, .ref qO0), (1, .int x1), (2, .int x2), (3, .int x3), (4, .int x4), (5, .int x5)]) hx hb d_14_34_92 hl (by decide) rfl (fun ls hl => ?_)
            refine lv_aload_n hx hb d_14_34_94 rfl (lv_at hl 2 rfl) ?_
            refine lv_aload_n hx hb d_14_34_95 rfl (lv_at hl 2 rfl) ?_
            replace hO0 := (hg251 _ (q_nc (q_pd 116 145 rfl) (q_nc (q_pd 116 146 rfl) (q_nc (q_pd 116 147 rfl) (q_nc (q_pd 116 148 rfl) (q_nc (q_pd 116 151 rfl) (q_nc (q_pd 116 152 rfl) List.not_mem_nil))))))).trans (hO0)
            refine q_get (ci := 12) (j := 7) (v := .ref qO5) C0 V i_NM rfl rfl hO0 (by decide) w_2305 rfl d_14_34_96 ?_
            refine q_getN (ci := 15) (j := 0) (v := .int 1) C0 V i_FR rfl rfl hO5 (by decide) wo_2075 rfl d_14_34_99 ?_
            refine q_put (ci := 12) (j := 0) (v := .int 1) (ty := .int) C0 V i_NM o_NM n_NM rfl rfl hO0 (by decide) w_2298 rfl rfl rfl rfl (Nat.le_of_ble_eq_true rfl) d_14_34_102 (fun H locs w277 hu278 hO0 V => ?_)
            replace hO0 : w277[116]? = some (qO0, .inr (12, [.int 1, .ref qA1, .int 0, .ref qA2, .int 0, .ref qO3, .ref qO4, .ref qO5, .ref qO6, .ref qO7, .ref qA8, .ref qA9])) := hO0
            replace hF := q_gs hF hu278 (Nat.le_of_ble_eq_true rfl)
            refine lv_aload_n hx hb d_14_34_105 rfl (lv_at hl 2 rfl) ?_
            refine q_get (ci := 12) (j := 0) (v := .int 1) C0 V i_NM rfl rfl hO0 (by decide) w_2298 rfl d_14_34_106 ?_
            refine lv_if_le (tgt := 116) hx hb d_14_34_109 (by decide) (fun c279 => absurd c279 (by decide)) (fun c279 => ?_)
            refine lv_iconst (v := 0) hx hb d_14_34_112 (by decide) ?_
            refine lv_goto (tgt := 129) hx hb d_14_34_113 (by decide) ?_
            exact q_reti C0 V (⟨1, 0, 0, hO0, (show ((1 : Int32).toInt = 0 ∧ ((2 ≤ x1.toInt ∧ x1.toInt ≤ 3) ∧ (0 ≤ x2.toInt ∧ x2.toInt ≤ 9) ∧ (0 ≤ x5.toInt ∧ x5.toInt ≤ 3) ∧ (x3.toInt ≠ 0 → (1 ≤ x4.toInt ∧ x4.toInt ≤ 800)) ∧ (x3.toInt = 0 → (0 ≤ x4.toInt ∧ x4.toInt ≤ 1100))) ∧ ((x3.toInt ≠ 0 ∧ x4.toInt = 1 ∧ (0 : Int32).toInt = 5) ∨ (x3.toInt ≠ 0 ∧ 1 < x4.toInt ∧ (0 : Int32).toInt = x4.toInt + 5) ∨ (x3.toInt = 0 ∧ x4.toInt = 0 ∧ (0 : Int32).toInt = 1) ∨ (x3.toInt = 0 ∧ 0 < x4.toInt ∧ (0 : Int32).toInt = x4.toInt + 2))) ∨ ((1 : Int32).toInt = 1 ∧ ¬ ((2 ≤ x1.toInt ∧ x1.toInt ≤ 3) ∧ (0 ≤ x2.toInt ∧ x2.toInt ≤ 9) ∧ (0 ≤ x5.toInt ∧ x5.toInt ≤ 3) ∧ (x3.toInt ≠ 0 → (1 ≤ x4.toInt ∧ x4.toInt ≤ 800)) ∧ (x3.toInt = 0 → (0 ≤ x4.toInt ∧ x4.toInt ≤ 1100)))) from by have t1 : 2 ≤ x1.toInt := q_nltI c1; have t2 : 0 ≤ x1.toInt := q_nltI c17; have t3 : x1.toInt ≤ 3 := q_nltI c18; have t4 : 0 ≤ x2.toInt := q_nltI c19; have t5 : x2.toInt ≤ 9 := q_leI c20; have t6 : x3.toInt ≠ 0 := q_neI c43; have t7 : x1.toInt ≠ 3 := q_neI c215; have t8 : 1 ≤ x4.toInt := q_nltI c247; have t9 : x4.toInt ≤ 800 := q_nltI c248; have t10 : 0 ≤ x5.toInt := q_nltI c249; have t11 : 3 < x5.toInt := q_nleI c250; have e0 : (1 : Int32).toInt = 1 := (by decide); have e1 : (0 : Int32).toInt = 0 := (by decide); omega), hF⟩) d_14_34_129
        ·
          refine lv_iconst (v := 1) hx hb d_14_34_54 (by decide) ?_
          refine lv_goto (tgt := 59) hx hb d_14_34_55 (by decide) ?_
          refine lv_iload hx hb d_14_34_59 (lv_at hl 5 rfl) ?_
          refine lv_iload hx hb d_14_34_61 (lv_at hl 6 rfl) ?_
          replace hO5 := (hu37 _ (q_pd 145 116 rfl)).trans (hO5)
          replace hA34 := (hu37 _ (q_pd 146 116 rfl)).trans (hA34)
          replace hA35 := (hu37 _ (q_pd 147 116 rfl)).trans (hA35)
          replace hA36 := (hu37 _ (q_pd 148 116 rfl)).trans (hA36)
          replace hA39 := (hu37 _ (q_pd 151 116 rfl)).trans (hA39)
          replace hA40 := (hu37 _ (q_pd 152 116 rfl)).trans (hA40)
          refine q_goi V (q_runV (As := [.long 0, .int 1, .int x4, .int x5]) (rest := []) (d := 3) (mc := 0) (ms := 0) (ci := 15) C0 V rfl LV_NM_279 (c_FR_scientific_2 l D g w36 145 146 147 148 151 152 qO5 qA34 qA35 qA36 qA37 qA38 qA39 qA40 x4 x5 hO5 hA34 hA35 hA36 hA39 hA40 (q_pd 146 147 rfl) (q_pd 146 148 rfl) (q_pd 146 151 rfl) (q_pd 146 152 rfl) (q_pd 147 151 rfl) (q_pd 147 152 rfl) (q_pd 148 147 rfl) (q_pd 148 151 rfl) (q_pd 148 152 rfl) (q_pd 151 152 rfl) _) rfl rfl hO5 rfl hl.1 rfl (Nat.le_of_ble_eq_true rfl) ⟨by decide, by decide⟩ ⟨Nat.le_of_ble_eq_true rfl, Nat.le_of_ble_eq_true rfl⟩ d_14_34_63) (fun v282 u281 H locs hp280 V => ?_)
          rcases hp280 with ⟨c283, rfl, hg284, hO5, hA34, hA35, hA36, hA39, hA40⟩ | ⟨c285, c286, rfl, hg287, hO5, hA34, hA35, hA36, hA39, hA40⟩ | ⟨c288, c289, c290, rfl, hg291, hO5, hA34, hA35, hA36, hA39, hA40⟩ | ⟨y297, c292, c293, c294, c295, c296, rfl, hg298, hO5, hA34, hA35, hA36, hA39, hA40⟩ | ⟨y307, y308, y309, c299, c300, c301, c302, c303, f304, f305, f306, rfl, hg310, hO5, hA34, hA35, hA36, hA39, hA40⟩ | ⟨c311, c312, c313, c314, rfl, hg315, hO5, hA34, hA35, hA36, hA39, hA40⟩
          ·
            replace hF := q_gc hF hg284 (q_al (Nat.le_of_ble_eq_true rfl) (q_al (Nat.le_of_ble_eq_true rfl) (q_al (Nat.le_of_ble_eq_true rfl) (q_al (Nat.le_of_ble_eq_true rfl) (q_al (Nat.le_of_ble_eq_true rfl) (q_al (Nat.le_of_ble_eq_true rfl) (fun _ h => absurd h List.not_mem_nil)))))))
            refine lv_goto (tgt := 92) hx hb d_14_34_66 (by decide) ?_
            refine lv_istore (lv' := [(8, .int 0), (6, .long 0), (0, .ref qO0), (1, .int x1), (2, .int x2), (3, .int x3), (4, .int x4), (5, .int x5)]) hx hb d_14_34_92 hl (by decide) rfl (fun ls hl => ?_)
            refine lv_aload_n hx hb d_14_34_94 rfl (lv_at hl 2 rfl) ?_
            refine lv_aload_n hx hb d_14_34_95 rfl (lv_at hl 2 rfl) ?_
            replace hO0 := (hg284 _ (q_nc (q_pd 116 145 rfl) (q_nc (q_pd 116 146 rfl) (q_nc (q_pd 116 147 rfl) (q_nc (q_pd 116 148 rfl) (q_nc (q_pd 116 151 rfl) (q_nc (q_pd 116 152 rfl) List.not_mem_nil))))))).trans (hO0)
            refine q_get (ci := 12) (j := 7) (v := .ref qO5) C0 V i_NM rfl rfl hO0 (by decide) w_2305 rfl d_14_34_96 ?_
            refine q_getN (ci := 15) (j := 0) (v := .int 1) C0 V i_FR rfl rfl hO5 (by decide) wo_2075 rfl d_14_34_99 ?_
            refine q_put (ci := 12) (j := 0) (v := .int 1) (ty := .int) C0 V i_NM o_NM n_NM rfl rfl hO0 (by decide) w_2298 rfl rfl rfl rfl (Nat.le_of_ble_eq_true rfl) d_14_34_102 (fun H locs w316 hu317 hO0 V => ?_)
            replace hO0 : w316[116]? = some (qO0, .inr (12, [.int 1, .ref qA1, .int 0, .ref qA2, .int 0, .ref qO3, .ref qO4, .ref qO5, .ref qO6, .ref qO7, .ref qA8, .ref qA9])) := hO0
            replace hF := q_gs hF hu317 (Nat.le_of_ble_eq_true rfl)
            refine lv_aload_n hx hb d_14_34_105 rfl (lv_at hl 2 rfl) ?_
            refine q_get (ci := 12) (j := 0) (v := .int 1) C0 V i_NM rfl rfl hO0 (by decide) w_2298 rfl d_14_34_106 ?_
            refine lv_if_le (tgt := 116) hx hb d_14_34_109 (by decide) (fun c318 => absurd c318 (by decide)) (fun c318 => ?_)
            refine lv_iconst (v := 0) hx hb d_14_34_112 (by decide) ?_
            refine lv_goto (tgt := 129) hx hb d_14_34_113 (by decide) ?_
            exact q_reti C0 V (⟨1, 0, 0, hO0, (show ((1 : Int32).toInt = 0 ∧ ((2 ≤ x1.toInt ∧ x1.toInt ≤ 3) ∧ (0 ≤ x2.toInt ∧ x2.toInt ≤ 9) ∧ (0 ≤ x5.toInt ∧ x5.toInt ≤ 3) ∧ (x3.toInt ≠ 0 → (1 ≤ x4.toInt ∧ x4.toInt ≤ 800)) ∧ (x3.toInt = 0 → (0 ≤ x4.toInt ∧ x4.toInt ≤ 1100))) ∧ ((x3.toInt ≠ 0 ∧ x4.toInt = 1 ∧ (0 : Int32).toInt = 5) ∨ (x3.toInt ≠ 0 ∧ 1 < x4.toInt ∧ (0 : Int32).toInt = x4.toInt + 5) ∨ (x3.toInt = 0 ∧ x4.toInt = 0 ∧ (0 : Int32).toInt = 1) ∨ (x3.toInt = 0 ∧ 0 < x4.toInt ∧ (0 : Int32).toInt = x4.toInt + 2))) ∨ ((1 : Int32).toInt = 1 ∧ ¬ ((2 ≤ x1.toInt ∧ x1.toInt ≤ 3) ∧ (0 ≤ x2.toInt ∧ x2.toInt ≤ 9) ∧ (0 ≤ x5.toInt ∧ x5.toInt ≤ 3) ∧ (x3.toInt ≠ 0 → (1 ≤ x4.toInt ∧ x4.toInt ≤ 800)) ∧ (x3.toInt = 0 → (0 ≤ x4.toInt ∧ x4.toInt ≤ 1100)))) from by have t1 : 2 ≤ x1.toInt := q_nltI c1; have t2 : 0 ≤ x1.toInt := q_nltI c17; have t3 : x1.toInt ≤ 3 := q_nltI c18; have t4 : 0 ≤ x2.toInt := q_nltI c19; have t5 : x2.toInt ≤ 9 := q_leI c20; have t6 : x3.toInt ≠ 0 := q_neI c43; have t7 : x1.toInt = 3 := q_eqI c215; have t8 : x4.toInt < 1 := q_ltI c283; have e0 : (1 : Int32).toInt = 1 := (by decide); have e1 : (0 : Int32).toInt = 0 := (by decide); omega), hF⟩) d_14_34_129
          ·
            replace hF := q_gc hF hg287 (q_al (Nat.le_of_ble_eq_true rfl) (q_al (Nat.le_of_ble_eq_true rfl) (q_al (Nat.le_of_ble_eq_true rfl) (q_al (Nat.le_of_ble_eq_true rfl) (q_al (Nat.le_of_ble_eq_true rfl) (q_al (Nat.le_of_ble_eq_true rfl) (fun _ h => absurd h List.not_mem_nil)))))))
            refine lv_goto (tgt := 92) hx hb d_14_34_66 (by decide) ?_
            refine lv_istore (lv' := [(8, .int 0), (6, .long 0), (0, .ref qO0), (1, .int x1), (2, .int x2), (3, .int x3), (4, .int x4), (5, .int x5)]) hx hb d_14_34_92 hl (by decide) rfl (fun ls hl => ?_)
            refine lv_aload_n hx hb d_14_34_94 rfl (lv_at hl 2 rfl) ?_
            refine lv_aload_n hx hb d_14_34_95 rfl (lv_at hl 2 rfl) ?_
            replace hO0 := (hg287 _ (q_nc (q_pd 116 145 rfl) (q_nc (q_pd 116 146 rfl) (q_nc (q_pd 116 147 rfl) (q_nc (q_pd 116 148 rfl) (q_nc (q_pd 116 151 rfl) (q_nc (q_pd 116 152 rfl) List.not_mem_nil))))))).trans (hO0)
            refine q_get (ci := 12) (j := 7) (v := .ref qO5) C0 V i_NM rfl rfl hO0 (by decide) w_2305 rfl d_14_34_96 ?_
            refine q_getN (ci := 15) (j := 0) (v := .int 1) C0 V i_FR rfl rfl hO5 (by decide) wo_2075 rfl d_14_34_99 ?_
            refine q_put (ci := 12) (j := 0) (v := .int 1) (ty := .int) C0 V i_NM o_NM n_NM rfl rfl hO0 (by decide) w_2298 rfl rfl rfl rfl (Nat.le_of_ble_eq_true rfl) d_14_34_102 (fun H locs w319 hu320 hO0 V => ?_)
            replace hO0 : w319[116]? = some (qO0, .inr (12, [.int 1, .ref qA1, .int 0, .ref qA2, .int 0, .ref qO3, .ref qO4, .ref qO5, .ref qO6, .ref qO7, .ref qA8, .ref qA9])) := hO0
            replace hF := q_gs hF hu320 (Nat.le_of_ble_eq_true rfl)
            refine lv_aload_n hx hb d_14_34_105 rfl (lv_at hl 2 rfl) ?_
            refine q_get (ci := 12) (j := 0) (v := .int 1) C0 V i_NM rfl rfl hO0 (by decide) w_2298 rfl d_14_34_106 ?_
            refine lv_if_le (tgt := 116) hx hb d_14_34_109 (by decide) (fun c321 => absurd c321 (by decide)) (fun c321 => ?_)
            refine lv_iconst (v := 0) hx hb d_14_34_112 (by decide) ?_
            refine lv_goto (tgt := 129) hx hb d_14_34_113 (by decide) ?_
            exact q_reti C0 V (⟨1, 0, 0, hO0, (show ((1 : Int32).toInt = 0 ∧ ((2 ≤ x1.toInt ∧ x1.toInt ≤ 3) ∧ (0 ≤ x2.toInt ∧ x2.toInt ≤ 9) ∧ (0 ≤ x5.toInt ∧ x5.toInt ≤ 3) ∧ (x3.toInt ≠ 0 → (1 ≤ x4.toInt ∧ x4.toInt ≤ 800)) ∧ (x3.toInt = 0 → (0 ≤ x4.toInt ∧ x4.toInt ≤ 1100))) ∧ ((x3.toInt ≠ 0 ∧ x4.toInt = 1 ∧ (0 : Int32).toInt = 5) ∨ (x3.toInt ≠ 0 ∧ 1 < x4.toInt ∧ (0 : Int32).toInt = x4.toInt + 5) ∨ (x3.toInt = 0 ∧ x4.toInt = 0 ∧ (0 : Int32).toInt = 1) ∨ (x3.toInt = 0 ∧ 0 < x4.toInt ∧ (0 : Int32).toInt = x4.toInt + 2))) ∨ ((1 : Int32).toInt = 1 ∧ ¬ ((2 ≤ x1.toInt ∧ x1.toInt ≤ 3) ∧ (0 ≤ x2.toInt ∧ x2.toInt ≤ 9) ∧ (0 ≤ x5.toInt ∧ x5.toInt ≤ 3) ∧ (x3.toInt ≠ 0 → (1 ≤ x4.toInt ∧ x4.toInt ≤ 800)) ∧ (x3.toInt = 0 → (0 ≤ x4.toInt ∧ x4.toInt ≤ 1100)))) from by have t1 : 2 ≤ x1.toInt := q_nltI c1; have t2 : 0 ≤ x1.toInt := q_nltI c17; have t3 : x1.toInt ≤ 3 := q_nltI c18; have t4 : 0 ≤ x2.toInt := q_nltI c19; have t5 : x2.toInt ≤ 9 := q_leI c20; have t6 : x3.toInt ≠ 0 := q_neI c43; have t7 : x1.toInt = 3 := q_eqI c215; have t8 : 1 ≤ x4.toInt := q_nltI c285; have t9 : 800 < x4.toInt := q_ltI c286; have e0 : (1 : Int32).toInt = 1 := (by decide); have e1 : (0 : Int32).toInt = 0 := (by decide); omega), hF⟩) d_14_34_129
          ·
            replace hF := q_gc hF hg291 (q_al (Nat.le_of_ble_eq_true rfl) (q_al (Nat.le_of_ble_eq_true rfl) (q_al (Nat.le_of_ble_eq_true rfl) (q_al (Nat.le_of_ble_eq_true rfl) (q_al (Nat.le_of_ble_eq_true rfl) (q_al (Nat.le_of_ble_eq_true rfl) (fun _ h => absurd h List.not_mem_nil)))))))
            refine lv_goto (tgt := 92) hx hb d_14_34_66 (by decide) ?_
            refine lv_istore (lv' := [(8, .int 0), (6, .long 0), (0, .ref qO0), (1, .int x1), (2, .int x2), (3, .int x3), (4, .int x4), (5, .int x5)]) hx hb d_14_34_92 hl (by decide) rfl (fun ls hl => ?_)
            refine lv_aload_n hx hb d_14_34_94 rfl (lv_at hl 2 rfl) ?_
            refine lv_aload_n hx hb d_14_34_95 rfl (lv_at hl 2 rfl) ?_
            replace hO0 := (hg291 _ (q_nc (q_pd 116 145 rfl) (q_nc (q_pd 116 146 rfl) (q_nc (q_pd 116 147 rfl) (q_nc (q_pd 116 148 rfl) (q_nc (q_pd 116 151 rfl) (q_nc (q_pd 116 152 rfl) List.not_mem_nil))))))).trans (hO0)
            refine q_get (ci := 12) (j := 7) (v := .ref qO5) C0 V i_NM rfl rfl hO0 (by decide) w_2305 rfl d_14_34_96 ?_
            refine q_getN (ci := 15) (j := 0) (v := .int 1) C0 V i_FR rfl rfl hO5 (by decide) wo_2075 rfl d_14_34_99 ?_
            refine q_put (ci := 12) (j := 0) (v := .int 1) (ty := .int) C0 V i_NM o_NM n_NM rfl rfl hO0 (by decide) w_2298 rfl rfl rfl rfl (Nat.le_of_ble_eq_true rfl) d_14_34_102 (fun H locs w322 hu323 hO0 V => ?_)
            replace hO0 : w322[116]? = some (qO0, .inr (12, [.int 1, .ref qA1, .int 0, .ref qA2, .int 0, .ref qO3, .ref qO4, .ref qO5, .ref qO6, .ref qO7, .ref qA8, .ref qA9])) := hO0
            replace hF := q_gs hF hu323 (Nat.le_of_ble_eq_true rfl)
            refine lv_aload_n hx hb d_14_34_105 rfl (lv_at hl 2 rfl) ?_
            refine q_get (ci := 12) (j := 0) (v := .int 1) C0 V i_NM rfl rfl hO0 (by decide) w_2298 rfl d_14_34_106 ?_
            refine lv_if_le (tgt := 116) hx hb d_14_34_109 (by decide) (fun c324 => absurd c324 (by decide)) (fun c324 => ?_)
            refine lv_iconst (v := 0) hx hb d_14_34_112 (by decide) ?_
            refine lv_goto (tgt := 129) hx hb d_14_34_113 (by decide) ?_
            exact q_reti C0 V (⟨1, 0, 0, hO0, (show ((1 : Int32).toInt = 0 ∧ ((2 ≤ x1.toInt ∧ x1.toInt ≤ 3) ∧ (0 ≤ x2.toInt ∧ x2.toInt ≤ 9) ∧ (0 ≤ x5.toInt ∧ x5.toInt ≤ 3) ∧ (x3.toInt ≠ 0 → (1 ≤ x4.toInt ∧ x4.toInt ≤ 800)) ∧ (x3.toInt = 0 → (0 ≤ x4.toInt ∧ x4.toInt ≤ 1100))) ∧ ((x3.toInt ≠ 0 ∧ x4.toInt = 1 ∧ (0 : Int32).toInt = 5) ∨ (x3.toInt ≠ 0 ∧ 1 < x4.toInt ∧ (0 : Int32).toInt = x4.toInt + 5) ∨ (x3.toInt = 0 ∧ x4.toInt = 0 ∧ (0 : Int32).toInt = 1) ∨ (x3.toInt = 0 ∧ 0 < x4.toInt ∧ (0 : Int32).toInt = x4.toInt + 2))) ∨ ((1 : Int32).toInt = 1 ∧ ¬ ((2 ≤ x1.toInt ∧ x1.toInt ≤ 3) ∧ (0 ≤ x2.toInt ∧ x2.toInt ≤ 9) ∧ (0 ≤ x5.toInt ∧ x5.toInt ≤ 3) ∧ (x3.toInt ≠ 0 → (1 ≤ x4.toInt ∧ x4.toInt ≤ 800)) ∧ (x3.toInt = 0 → (0 ≤ x4.toInt ∧ x4.toInt ≤ 1100)))) from by have t1 : 2 ≤ x1.toInt := q_nltI c1; have t2 : 0 ≤ x1.toInt := q_nltI c17; have t3 : x1.toInt ≤ 3 := q_nltI c18; have t4 : 0 ≤ x2.toInt := q_nltI c19; have t5 : x2.toInt ≤ 9 := q_leI c20; have t6 : x3.toInt ≠ 0 := q_neI c43; have t7 : x1.toInt = 3 := q_eqI c215; have t8 : 1 ≤ x4.toInt := q_nltI c288; have t9 : x4.toInt ≤ 800 := q_nltI c289; have t10 : x5.toInt < 0 := q_ltI c290; have e0 : (1 : Int32).toInt = 1 := (by decide); have e1 : (0 : Int32).toInt = 0 := (by decide); omega), hF⟩) d_14_34_129
          ·
            replace hF := q_gc hF hg298 (q_al (Nat.le_of_ble_eq_true rfl) (q_al (Nat.le_of_ble_eq_true rfl) (q_al (Nat.le_of_ble_eq_true rfl) (q_al (Nat.le_of_ble_eq_true rfl) (q_al (Nat.le_of_ble_eq_true rfl) (q_al (Nat.le_of_ble_eq_true rfl) (fun _ h => absurd h List.not_mem_nil)))))))
            refine lv_goto (tgt := 92) hx hb d_14_34_66 (by decide) ?_
            refine lv_istore (lv' := [(8, .int ((3 + 1) + 1)), (6, .long 0), (0, .ref qO0), (1, .int x1), (2, .int x2), (3, .int x3), (4, .int x4), (5, .int x5)]) hx hb d_14_34_92 hl (by decide) rfl (fun ls hl => ?_)
            refine lv_aload_n hx hb d_14_34_94 rfl (lv_at hl 2 rfl) ?_
            refine lv_aload_n hx hb d_14_34_95 rfl (lv_at hl 2 rfl) ?_
            replace hO0 := (hg298 _ (q_nc (q_pd 116 145 rfl) (q_nc (q_pd 116 146 rfl) (q_nc (q_pd 116 147 rfl) (q_nc (q_pd 116 148 rfl) (q_nc (q_pd 116 151 rfl) (q_nc (q_pd 116 152 rfl) List.not_mem_nil))))))).trans (hO0)
            refine q_get (ci := 12) (j := 7) (v := .ref qO5) C0 V i_NM rfl rfl hO0 (by decide) w_2305 rfl d_14_34_96 ?_
            refine q_getN (ci := 15) (j := 0) (v := .int 0) C0 V i_FR rfl rfl hO5 (by decide) wo_2075 rfl d_14_34_99 ?_
            refine q_put (ci := 12) (j := 0) (v := .int 0) (ty := .int) C0 V i_NM o_NM n_NM rfl rfl hO0 (by decide) w_2298 rfl rfl rfl rfl (Nat.le_of_ble_eq_true rfl) d_14_34_102 (fun H locs w325 hu326 hO0 V => ?_)
            replace hO0 : w325[116]? = some (qO0, .inr (12, [.int 0, .ref qA1, .int 0, .ref qA2, .int 0, .ref qO3, .ref qO4, .ref qO5, .ref qO6, .ref qO7, .ref qA8, .ref qA9])) := hO0
            replace hF := q_gs hF hu326 (Nat.le_of_ble_eq_true rfl)
            refine lv_aload_n hx hb d_14_34_105 rfl (lv_at hl 2 rfl) ?_
            refine q_get (ci := 12) (j := 0) (v := .int 0) C0 V i_NM rfl rfl hO0 (by decide) w_2298 rfl d_14_34_106 ?_
            refine lv_if_le (tgt := 116) hx hb d_14_34_109 (by decide) (fun c327 => ?_) (fun c327 => absurd (by decide) c327)
            refine lv_aload_n hx hb d_14_34_116 rfl (lv_at hl 2 rfl) ?_
            refine lv_aload_n hx hb d_14_34_117 rfl (lv_at hl 2 rfl) ?_
            refine q_get (ci := 12) (j := 7) (v := .ref qO5) C0 V i_NM rfl rfl hO0 (by decide) w_2305 rfl d_14_34_118 ?_
            replace hO5 := (hu326 _ (q_pd 145 116 rfl)).trans (hO5)
            refine q_getN (ci := 15) (j := 7) (v := .ref qA40) C0 V i_FR rfl rfl hO5 (by decide) wo_2083 rfl d_14_34_121 ?_
            refine lv_iload hx hb d_14_34_124 (lv_at hl 0 rfl) ?_
            replace hA40 := (hu326 _ (q_pd 152 116 rfl)).trans (hA40)
            replace hA2 := (hu326 _ (q_pd 118 116 rfl)).trans ((hg298 _ (q_nc (q_pd 118 145 rfl) (q_nc (q_pd 118 146 rfl) (q_nc (q_pd 118 147 rfl) (q_nc (q_pd 118 148 rfl) (q_nc (q_pd 118 151 rfl) (q_nc (q_pd 118 152 rfl) List.not_mem_nil))))))).trans ((hu37 _ (q_pd 118 116 rfl)).trans (hA2)))
            refine q_goi V (q_runV (As := [.ref qA40, .int ((3 + 1) + 1)]) (rest := []) (d := 1) (mc := 0) (ms := 0) (ci := 12) C0 V rfl LV_NM_269 (c_NM_show_7 l D g w325 qO0 qA40 qA1 qA2 qO3 qO4 qO5 qO6 qO7 qA8 qA9 ((3 + 1) + 1) (upd (upd (upd (upd (upd (fun _ => 0) 0 48) 1 101) 2 43) 3.toNatClampNeg 48) (3 + 1).toNatClampNeg 48) hO0 hA40 hA2 (q_Ile (x := 2) (y := ((3 + 1) + 1)) (by decide) (q_addI (x := (3 + 1)) (y := 1) (q_addI (x := 3) (y := 1) (by decide) (by decide) (by omega) (by omega)) (by decide) (by omega) (by omega)) (by omega)) (q_Ile (x := ((3 + 1) + 1)) (y := 1082) (q_addI (x := (3 + 1)) (y := 1) (q_addI (x := 3) (y := 1) (by decide) (by decide) (by omega) (by omega)) (by decide) (by omega) (by omega)) (by decide) (by omega)) _) rfl rfl hO0 rfl hl.1 rfl (Nat.le_of_ble_eq_true rfl) ⟨by decide, by decide⟩ ⟨Nat.le_of_ble_eq_true rfl, Nat.le_of_ble_eq_true rfl⟩ d_14_34_126) (fun v330 u329 H locs hp328 V => ?_)
            obtain ⟨y331, rfl, hg332, hO0, hA2⟩ := hp328
            replace hF := q_gc hF hg332 (q_al (Nat.le_of_ble_eq_true rfl) (q_al (Nat.le_of_ble_eq_true rfl) (fun _ h => absurd h List.not_mem_nil)))
            exact q_reti C0 V (⟨0, 0, ((3 + 1) + 1), hO0, (show ((0 : Int32).toInt = 0 ∧ ((2 ≤ x1.toInt ∧ x1.toInt ≤ 3) ∧ (0 ≤ x2.toInt ∧ x2.toInt ≤ 9) ∧ (0 ≤ x5.toInt ∧ x5.toInt ≤ 3) ∧ (x3.toInt ≠ 0 → (1 ≤ x4.toInt ∧ x4.toInt ≤ 800)) ∧ (x3.toInt = 0 → (0 ≤ x4.toInt ∧ x4.toInt ≤ 1100))) ∧ ((x3.toInt ≠ 0 ∧ x4.toInt = 1 ∧ (((3 + 1) + 1) : Int32).toInt = 5) ∨ (x3.toInt ≠ 0 ∧ 1 < x4.toInt ∧ (((3 + 1) + 1) : Int32).toInt = x4.toInt + 5) ∨ (x3.toInt = 0 ∧ x4.toInt = 0 ∧ (((3 + 1) + 1) : Int32).toInt = 1) ∨ (x3.toInt = 0 ∧ 0 < x4.toInt ∧ (((3 + 1) + 1) : Int32).toInt = x4.toInt + 2))) ∨ ((0 : Int32).toInt = 1 ∧ ¬ ((2 ≤ x1.toInt ∧ x1.toInt ≤ 3) ∧ (0 ≤ x2.toInt ∧ x2.toInt ≤ 9) ∧ (0 ≤ x5.toInt ∧ x5.toInt ≤ 3) ∧ (x3.toInt ≠ 0 → (1 ≤ x4.toInt ∧ x4.toInt ≤ 800)) ∧ (x3.toInt = 0 → (0 ≤ x4.toInt ∧ x4.toInt ≤ 1100)))) from by have t1 : 2 ≤ x1.toInt := q_nltI c1; have t2 : 0 ≤ x1.toInt := q_nltI c17; have t3 : x1.toInt ≤ 3 := q_nltI c18; have t4 : 0 ≤ x2.toInt := q_nltI c19; have t5 : x2.toInt ≤ 9 := q_leI c20; have t6 : x3.toInt ≠ 0 := q_neI c43; have t7 : x1.toInt = 3 := q_eqI c215; have t8 : 1 ≤ x4.toInt := q_nltI c292; have t9 : x4.toInt ≤ 800 := q_nltI c293; have t10 : 0 ≤ x5.toInt := q_nltI c294; have t11 : x5.toInt ≤ 3 := q_leI c295; have t12 : x4.toInt ≤ 1 := q_leI c296; have e0 : (0 : Int32).toInt = 0 := (by decide); have e1 : (((3 + 1) + 1) : Int32).toInt = ((3 + 1) + 1) := (q_addI (x := (3 + 1)) (y := 1) (q_addI (x := 3) (y := 1) (by decide) (by decide) (by omega) (by omega)) (by decide) (by omega) (by omega)); omega), hF⟩) d_14_34_129
          ·
            replace hF := q_gc hF hg310 (q_al (Nat.le_of_ble_eq_true rfl) (q_al (Nat.le_of_ble_eq_true rfl) (q_al (Nat.le_of_ble_eq_true rfl) (q_al (Nat.le_of_ble_eq_true rfl) (q_al (Nat.le_of_ble_eq_true rfl) (q_al (Nat.le_of_ble_eq_true rfl) (fun _ h => absurd h List.not_mem_nil)))))))
            refine lv_goto (tgt := 92) hx hb d_14_34_66 (by decide) ?_
            refine lv_istore (lv' := [(8, .int ((((y307 + 1) + 1) + 1) + 1)), (6, .long 0), (0, .ref qO0), (1, .int x1), (2, .int x2), (3, .int x3), (4, .int x4), (5, .int x5)]) hx hb d_14_34_92 hl (by decide) rfl (fun ls hl => ?_)
            refine lv_aload_n hx hb d_14_34_94 rfl (lv_at hl 2 rfl) ?_
            refine lv_aload_n hx hb d_14_34_95 rfl (lv_at hl 2 rfl) ?_
            replace hO0 := (hg310 _ (q_nc (q_pd 116 145 rfl) (q_nc (q_pd 116 146 rfl) (q_nc (q_pd 116 147 rfl) (q_nc (q_pd 116 148 rfl) (q_nc (q_pd 116 151 rfl) (q_nc (q_pd 116 152 rfl) List.not_mem_nil))))))).trans (hO0)
            refine q_get (ci := 12) (j := 7) (v := .ref qO5) C0 V i_NM rfl rfl hO0 (by decide) w_2305 rfl d_14_34_96 ?_
            refine q_getN (ci := 15) (j := 0) (v := .int 0) C0 V i_FR rfl rfl hO5 (by decide) wo_2075 rfl d_14_34_99 ?_
            refine q_put (ci := 12) (j := 0) (v := .int 0) (ty := .int) C0 V i_NM o_NM n_NM rfl rfl hO0 (by decide) w_2298 rfl rfl rfl rfl (Nat.le_of_ble_eq_true rfl) d_14_34_102 (fun H locs w333 hu334 hO0 V => ?_)
            replace hO0 : w333[116]? = some (qO0, .inr (12, [.int 0, .ref qA1, .int 0, .ref qA2, .int 0, .ref qO3, .ref qO4, .ref qO5, .ref qO6, .ref qO7, .ref qA8, .ref qA9])) := hO0
            replace hF := q_gs hF hu334 (Nat.le_of_ble_eq_true rfl)
            refine lv_aload_n hx hb d_14_34_105 rfl (lv_at hl 2 rfl) ?_
            refine q_get (ci := 12) (j := 0) (v := .int 0) C0 V i_NM rfl rfl hO0 (by decide) w_2298 rfl d_14_34_106 ?_
            refine lv_if_le (tgt := 116) hx hb d_14_34_109 (by decide) (fun c335 => ?_) (fun c335 => absurd (by decide) c335)
            refine lv_aload_n hx hb d_14_34_116 rfl (lv_at hl 2 rfl) ?_
            refine lv_aload_n hx hb d_14_34_117 rfl (lv_at hl 2 rfl) ?_
            refine q_get (ci := 12) (j := 7) (v := .ref qO5) C0 V i_NM rfl rfl hO0 (by decide) w_2305 rfl d_14_34_118 ?_
            replace hO5 := (hu334 _ (q_pd 145 116 rfl)).trans (hO5)
            refine q_getN (ci := 15) (j := 7) (v := .ref qA40) C0 V i_FR rfl rfl hO5 (by decide) wo_2083 rfl d_14_34_121 ?_
            refine lv_iload hx hb d_14_34_124 (lv_at hl 0 rfl) ?_
            replace hA40 := (hu334 _ (q_pd 152 116 rfl)).trans (hA40)
            replace hA2 := (hu334 _ (q_pd 118 116 rfl)).trans ((hg310 _ (q_nc (q_pd 118 145 rfl) (q_nc (q_pd 118 146 rfl) (q_nc (q_pd 118 147 rfl) (q_nc (q_pd 118 148 rfl) (q_nc (q_pd 118 151 rfl) (q_nc (q_pd 118 152 rfl) List.not_mem_nil))))))).trans ((hu37 _ (q_pd 118 116 rfl)).trans (hA2)))
            refine q_goi V (q_runV (As := [.ref qA40, .int ((((y307 + 1) + 1) + 1) + 1)]) (rest := []) (d := 1) (mc := 0) (ms := 0) (ci := 12) C0 V rfl LV_NM_269 (c_NM_show_7 l D g w333 qO0 qA40 qA1 qA2 qO3 qO4 qO5 qO6 qO7 qA8 qA9 ((((y307 + 1) + 1) + 1) + 1) (upd (upd (upd (upd y309 y307.toNatClampNeg 101) (y307 + 1).toNatClampNeg 43) ((y307 + 1) + 1).toNatClampNeg 48) (((y307 + 1) + 1) + 1).toNatClampNeg 48) hO0 hA40 hA2 (q_Ile (x := 2) (y := ((((y307.toInt + 1) + 1) + 1) + 1)) (by decide) (q_addI (x := (((y307.toInt + 1) + 1) + 1)) (y := 1) (q_addI (x := ((y307.toInt + 1) + 1)) (y := 1) (q_addI (x := (y307.toInt + 1)) (y := 1) (q_addI (x := y307.toInt) (y := 1) rfl (by decide) (by have t1 : 2 ≤ y307.toInt := q_leI f305; have t2 : y307.toInt ≤ 801 := q_leI f306; omega) (by have t1 : 2 ≤ y307.toInt := q_leI f305; have t2 : y307.toInt ≤ 801 := q_leI f306; omega)) (by decide) (by have t1 : 2 ≤ y307.toInt := q_leI f305; have t2 : y307.toInt ≤ 801 := q_leI f306; omega) (by have t1 : 2 ≤ y307.toInt := q_leI f305; have t2 : y307.toInt ≤ 801 := q_leI f306; omega)) (by decide) (by have t1 : 2 ≤ y307.toInt := q_leI f305; have t2 : y307.toInt ≤ 801 := q_leI f306; omega) (by have t1 : 2 ≤ y307.toInt := q_leI f305; have t2 : y307.toInt ≤ 801 := q_leI f306; omega)) (by decide) (by have t1 : 2 ≤ y307.toInt := q_leI f305; have t2 : y307.toInt ≤ 801 := q_leI f306; omega) (by have t1 : 2 ≤ y307.toInt := q_leI f305; have t2 : y307.toInt ≤ 801 := q_leI f306; omega)) (by have t1 : 2 ≤ y307.toInt := q_leI f305; have t2 : y307.toInt ≤ 801 := q_leI f306; omega)) (q_Ile (x := ((((y307.toInt + 1) + 1) + 1) + 1)) (y := 1082) (q_addI (x := (((y307.toInt + 1) + 1) + 1)) (y := 1) (q_addI (x := ((y307.toInt + 1) + 1)) (y := 1) (q_addI (x := (y307.toInt + 1)) (y := 1) (q_addI (x := y307.toInt) (y := 1) rfl (by decide) (by have t1 : 2 ≤ y307.toInt := q_leI f305; have t2 : y307.toInt ≤ 801 := q_leI f306; omega) (by have t1 : 2 ≤ y307.toInt := q_leI f305; have t2 : y307.toInt ≤ 801 := q_leI f306; omega)) (by decide) (by have t1 : 2 ≤ y307.toInt := q_leI f305; have t2 : y307.toInt ≤ 801 := q_leI f306; omega) (by have t1 : 2 ≤ y307.toInt := q_leI f305; have t2 : y307.toInt ≤ 801 := q_leI f306; omega)) (by decide) (by have t1 : 2 ≤ y307.toInt := q_leI f305; have t2 : y307.toInt ≤ 801 := q_leI f306; omega) (by have t1 : 2 ≤ y307.toInt := q_leI f305; have t2 : y307.toInt ≤ 801 := q_leI f306; omega)) (by decide) (by have t1 : 2 ≤ y307.toInt := q_leI f305; have t2 : y307.toInt ≤ 801 := q_leI f306; omega) (by have t1 : 2 ≤ y307.toInt := q_leI f305; have t2 : y307.toInt ≤ 801 := q_leI f306; omega)) (by decide) (by have t1 : 2 ≤ y307.toInt := q_leI f305; have t2 : y307.toInt ≤ 801 := q_leI f306; omega)) _) rfl rfl hO0 rfl hl.1 rfl (Nat.le_of_ble_eq_true rfl) ⟨by decide, by decide⟩ ⟨Nat.le_of_ble_eq_true rfl, Nat.le_of_ble_eq_true rfl⟩ d_14_34_126) (fun v338 u337 H locs hp336 V => ?_)
            obtain ⟨y339, rfl, hg340, hO0, hA2⟩ := hp336
            replace hF := q_gc hF hg340 (q_al (Nat.le_of_ble_eq_true rfl) (q_al (Nat.le_of_ble_eq_true rfl) (fun _ h => absurd h List.not_mem_nil)))
            exact q_reti C0 V (⟨0, 0, ((((y307 + 1) + 1) + 1) + 1), hO0, (show ((0 : Int32).toInt = 0 ∧ ((2 ≤ x1.toInt ∧ x1.toInt ≤ 3) ∧ (0 ≤ x2.toInt ∧ x2.toInt ≤ 9) ∧ (0 ≤ x5.toInt ∧ x5.toInt ≤ 3) ∧ (x3.toInt ≠ 0 → (1 ≤ x4.toInt ∧ x4.toInt ≤ 800)) ∧ (x3.toInt = 0 → (0 ≤ x4.toInt ∧ x4.toInt ≤ 1100))) ∧ ((x3.toInt ≠ 0 ∧ x4.toInt = 1 ∧ (((((y307 + 1) + 1) + 1) + 1) : Int32).toInt = 5) ∨ (x3.toInt ≠ 0 ∧ 1 < x4.toInt ∧ (((((y307 + 1) + 1) + 1) + 1) : Int32).toInt = x4.toInt + 5) ∨ (x3.toInt = 0 ∧ x4.toInt = 0 ∧ (((((y307 + 1) + 1) + 1) + 1) : Int32).toInt = 1) ∨ (x3.toInt = 0 ∧ 0 < x4.toInt ∧ (((((y307 + 1) + 1) + 1) + 1) : Int32).toInt = x4.toInt + 2))) ∨ ((0 : Int32).toInt = 1 ∧ ¬ ((2 ≤ x1.toInt ∧ x1.toInt ≤ 3) ∧ (0 ≤ x2.toInt ∧ x2.toInt ≤ 9) ∧ (0 ≤ x5.toInt ∧ x5.toInt ≤ 3) ∧ (x3.toInt ≠ 0 → (1 ≤ x4.toInt ∧ x4.toInt ≤ 800)) ∧ (x3.toInt = 0 → (0 ≤ x4.toInt ∧ x4.toInt ≤ 1100)))) from by have t1 : 2 ≤ x1.toInt := q_nltI c1; have t2 : 0 ≤ x1.toInt := q_nltI c17; have t3 : x1.toInt ≤ 3 := q_nltI c18; have t4 : 0 ≤ x2.toInt := q_nltI c19; have t5 : x2.toInt ≤ 9 := q_leI c20; have t6 : x3.toInt ≠ 0 := q_neI c43; have t7 : x1.toInt = 3 := q_eqI c215; have t8 : 1 ≤ x4.toInt := q_nltI c299; have t9 : x4.toInt ≤ 800 := q_nltI c300; have t10 : 0 ≤ x5.toInt := q_nltI c301; have t11 : x5.toInt ≤ 3 := q_leI c302; have t12 : 1 < x4.toInt := q_nleI c303; have t13 : 2 ≤ y307.toInt := q_leI f305; have t14 : y307.toInt ≤ 801 := q_leI f306; have e0 : (0 : Int32).toInt = 0 := (by decide); have e1 : (((((y307 + 1) + 1) + 1) + 1) : Int32).toInt = ((((y307.toInt + 1) + 1) + 1) + 1) := (q_addI (x := (((y307.toInt + 1) + 1) + 1)) (y := 1) (q_addI (x := ((y307.toInt + 1) + 1)) (y := 1) (q_addI (x := (y307.toInt + 1)) (y := 1) (q_addI (x := y307.toInt) (y := 1) rfl (by decide) (by have t1 : 2 ≤ y307.toInt := q_leI f305; have t2 : y307.toInt ≤ 801 := q_leI f306; omega) (by have t1 : 2 ≤ y307.toInt := q_leI f305; have t2 : y307.toInt ≤ 801 := q_leI f306; omega)) (by decide) (by have t1 : 2 ≤ y307.toInt := q_leI f305; have t2 : y307.toInt ≤ 801 := q_leI f306; omega) (by have t1 : 2 ≤ y307.toInt := q_leI f305; have t2 : y307.toInt ≤ 801 := q_leI f306; omega)) (by decide) (by have t1 : 2 ≤ y307.toInt := q_leI f305; have t2 : y307.toInt ≤ 801 := q_leI f306; omega) (by have t1 : 2 ≤ y307.toInt := q_leI f305; have t2 : y307.toInt ≤ 801 := q_leI f306; omega)) (by decide) (by have t1 : 2 ≤ y307.toInt := q_leI f305; have t2 : y307.toInt ≤ 801 := q_leI f306; omega) (by have t1 : 2 ≤ y307.toInt := q_leI f305; have t2 : y307.toInt ≤ 801 := q_leI f306; omega)); omega), hF⟩) d_14_34_129
          ·
            replace hF := q_gc hF hg315 (q_al (Nat.le_of_ble_eq_true rfl) (q_al (Nat.le_of_ble_eq_true rfl) (q_al (Nat.le_of_ble_eq_true rfl) (q_al (Nat.le_of_ble_eq_true rfl) (q_al (Nat.le_of_ble_eq_true rfl) (q_al (Nat.le_of_ble_eq_true rfl) (fun _ h => absurd h List.not_mem_nil)))))))
            refine lv_goto (tgt := 92) hx hb d_14_34_66 (by decide) ?_
            refine lv_istore (lv' := [(8, .int 0), (6, .long 0), (0, .ref qO0), (1, .int x1), (2, .int x2), (3, .int x3), (4, .int x4), (5, .int x5)]) hx hb d_14_34_92 hl (by decide) rfl (fun ls hl => ?_)
            refine lv_aload_n hx hb d_14_34_94 rfl (lv_at hl 2 rfl) ?_
            refine lv_aload_n hx hb d_14_34_95 rfl (lv_at hl 2 rfl) ?_
            replace hO0 := (hg315 _ (q_nc (q_pd 116 145 rfl) (q_nc (q_pd 116 146 rfl) (q_nc (q_pd 116 147 rfl) (q_nc (q_pd 116 148 rfl) (q_nc (q_pd 116 151 rfl) (q_nc (q_pd 116 152 rfl) List.not_mem_nil))))))).trans (hO0)
            refine q_get (ci := 12) (j := 7) (v := .ref qO5) C0 V i_NM rfl rfl hO0 (by decide) w_2305 rfl d_14_34_96 ?_
            refine q_getN (ci := 15) (j := 0) (v := .int 1) C0 V i_FR rfl rfl hO5 (by decide) wo_2075 rfl d_14_34_99 ?_
            refine q_put (ci := 12) (j := 0) (v := .int 1) (ty := .int) C0 V i_NM o_NM n_NM rfl rfl hO0 (by decide) w_2298 rfl rfl rfl rfl (Nat.le_of_ble_eq_true rfl) d_14_34_102 (fun H locs w341 hu342 hO0 V => ?_)
            replace hO0 : w341[116]? = some (qO0, .inr (12, [.int 1, .ref qA1, .int 0, .ref qA2, .int 0, .ref qO3, .ref qO4, .ref qO5, .ref qO6, .ref qO7, .ref qA8, .ref qA9])) := hO0
            replace hF := q_gs hF hu342 (Nat.le_of_ble_eq_true rfl)
            refine lv_aload_n hx hb d_14_34_105 rfl (lv_at hl 2 rfl) ?_
            refine q_get (ci := 12) (j := 0) (v := .int 1) C0 V i_NM rfl rfl hO0 (by decide) w_2298 rfl d_14_34_106 ?_
            refine lv_if_le (tgt := 116) hx hb d_14_34_109 (by decide) (fun c343 => absurd c343 (by decide)) (fun c343 => ?_)
            refine lv_iconst (v := 0) hx hb d_14_34_112 (by decide) ?_
            refine lv_goto (tgt := 129) hx hb d_14_34_113 (by decide) ?_
            exact q_reti C0 V (⟨1, 0, 0, hO0, (show ((1 : Int32).toInt = 0 ∧ ((2 ≤ x1.toInt ∧ x1.toInt ≤ 3) ∧ (0 ≤ x2.toInt ∧ x2.toInt ≤ 9) ∧ (0 ≤ x5.toInt ∧ x5.toInt ≤ 3) ∧ (x3.toInt ≠ 0 → (1 ≤ x4.toInt ∧ x4.toInt ≤ 800)) ∧ (x3.toInt = 0 → (0 ≤ x4.toInt ∧ x4.toInt ≤ 1100))) ∧ ((x3.toInt ≠ 0 ∧ x4.toInt = 1 ∧ (0 : Int32).toInt = 5) ∨ (x3.toInt ≠ 0 ∧ 1 < x4.toInt ∧ (0 : Int32).toInt = x4.toInt + 5) ∨ (x3.toInt = 0 ∧ x4.toInt = 0 ∧ (0 : Int32).toInt = 1) ∨ (x3.toInt = 0 ∧ 0 < x4.toInt ∧ (0 : Int32).toInt = x4.toInt + 2))) ∨ ((1 : Int32).toInt = 1 ∧ ¬ ((2 ≤ x1.toInt ∧ x1.toInt ≤ 3) ∧ (0 ≤ x2.toInt ∧ x2.toInt ≤ 9) ∧ (0 ≤ x5.toInt ∧ x5.toInt ≤ 3) ∧ (x3.toInt ≠ 0 → (1 ≤ x4.toInt ∧ x4.toInt ≤ 800)) ∧ (x3.toInt = 0 → (0 ≤ x4.toInt ∧ x4.toInt ≤ 1100)))) from by have t1 : 2 ≤ x1.toInt := q_nltI c1; have t2 : 0 ≤ x1.toInt := q_nltI c17; have t3 : x1.toInt ≤ 3 := q_nltI c18; have t4 : 0 ≤ x2.toInt := q_nltI c19; have t5 : x2.toInt ≤ 9 := q_leI c20; have t6 : x3.toInt ≠ 0 := q_neI c43; have t7 : x1.toInt = 3 := q_eqI c215; have t8 : 1 ≤ x4.toInt := q_nltI c311; have t9 : x4.toInt ≤ 800 := q_nltI c312; have t10 : 0 ≤ x5.toInt := q_nltI c313; have t11 : 3 < x5.toInt := q_nleI c314; have e0 : (1 : Int32).toInt = 1 := (by decide); have e1 : (0 : Int32).toInt = 0 := (by decide); omega), hF⟩) d_14_34_129
    ·
      refine lv_if_eq (tgt := 18) hx hb d_14_34_11 (by decide) (fun c344 => absurd c344 (by decide)) (fun c344 => ?_)
      refine lv_iconst (v := 1) hx hb d_14_34_14 (by decide) ?_
      refine lv_goto (tgt := 19) hx hb d_14_34_15 (by decide) ?_
      refine q_put (ci := 12) (j := 0) (v := .int 1) (ty := .int) C0 V i_NM o_NM n_NM rfl rfl hO0 (by decide) w_2298 rfl rfl rfl rfl (Nat.le_of_ble_eq_true rfl) d_14_34_19 (fun H locs w345 hu346 hO0 V => ?_)
      replace hO0 : w345[116]? = some (qO0, .inr (12, [.int 1, .ref qA1, .int 0, .ref qA2, .int 0, .ref qO3, .ref qO4, .ref qO5, .ref qO6, .ref qO7, .ref qA8, .ref qA9])) := hO0
      replace hF := q_gs hF hu346 (Nat.le_of_ble_eq_true rfl)
      refine lv_aload_n hx hb d_14_34_22 rfl (lv_at hl 0 rfl) ?_
      refine q_get (ci := 12) (j := 0) (v := .int 1) C0 V i_NM rfl rfl hO0 (by decide) w_2298 rfl d_14_34_23 ?_
      refine lv_if_le (tgt := 31) hx hb d_14_34_26 (by decide) (fun c347 => absurd c347 (by decide)) (fun c347 => ?_)
      refine lv_iconst (v := 0) hx hb d_14_34_29 (by decide) ?_
      exact q_reti C0 V (⟨1, 0, 0, hO0, (show ((1 : Int32).toInt = 0 ∧ ((2 ≤ x1.toInt ∧ x1.toInt ≤ 3) ∧ (0 ≤ x2.toInt ∧ x2.toInt ≤ 9) ∧ (0 ≤ x5.toInt ∧ x5.toInt ≤ 3) ∧ (x3.toInt ≠ 0 → (1 ≤ x4.toInt ∧ x4.toInt ≤ 800)) ∧ (x3.toInt = 0 → (0 ≤ x4.toInt ∧ x4.toInt ≤ 1100))) ∧ ((x3.toInt ≠ 0 ∧ x4.toInt = 1 ∧ (0 : Int32).toInt = 5) ∨ (x3.toInt ≠ 0 ∧ 1 < x4.toInt ∧ (0 : Int32).toInt = x4.toInt + 5) ∨ (x3.toInt = 0 ∧ x4.toInt = 0 ∧ (0 : Int32).toInt = 1) ∨ (x3.toInt = 0 ∧ 0 < x4.toInt ∧ (0 : Int32).toInt = x4.toInt + 2))) ∨ ((1 : Int32).toInt = 1 ∧ ¬ ((2 ≤ x1.toInt ∧ x1.toInt ≤ 3) ∧ (0 ≤ x2.toInt ∧ x2.toInt ≤ 9) ∧ (0 ≤ x5.toInt ∧ x5.toInt ≤ 3) ∧ (x3.toInt ≠ 0 → (1 ≤ x4.toInt ∧ x4.toInt ≤ 800)) ∧ (x3.toInt = 0 → (0 ≤ x4.toInt ∧ x4.toInt ≤ 1100)))) from by have t1 : 2 ≤ x1.toInt := q_nltI c1; have t2 : 0 ≤ x1.toInt := q_nltI c22; have t3 : x1.toInt ≤ 3 := q_nltI c23; have t4 : 0 ≤ x2.toInt := q_nltI c24; have t5 : 9 < x2.toInt := q_nleI c25; have e0 : (1 : Int32).toInt = 1 := (by decide); have e1 : (0 : Int32).toInt = 0 := (by decide); omega), hF⟩) d_14_34_30
