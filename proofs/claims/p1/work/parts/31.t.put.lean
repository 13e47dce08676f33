/-! the reference on a fresh object: put -/
set_option maxRecDepth 100000 in
set_option maxHeartbeats 4000000 in
theorem c_NM_setBits_4 (l : Launch) (D : va_G) (g : Nat → ClassId) (ws : va_W) ( qO0 qA1 qA2 qO3 qO4 qO5 qO6 qO7 qA8 qA9 : Nat) (x1 : Int32) (x2 : Int64) (hO0 : ws[116]? = some (qO0, .inr (12, [.int 0, .ref qA1, .int 0, .ref qA2, .int 0, .ref qO3, .ref qO4, .ref qO5, .ref qO6, .ref qO7, .ref qA8, .ref qA9]))) (hA8 : ws[167]? = some (qA8, .inl (g 1, 20, .inr (.inl (fun _ => 0))))) (x1lo : 0 ≤ x1) (x1hi : x1 ≤ 9) : q_mV l y_NM_setBits prog_14_method_12_code 5 1 0 0 D g [.ref qO0, .int 2, .int x1, .long x2] ws (fun u => q_un ws u [167] ∧ u[167]? = some (qA8, .inl (g 1, 20, .inr (.inl (vp_updL (fun _ => 0) x1.toNatClampNeg x2))))) := by
  intro sz
  refine q_into (by decide) (Nat.le_of_ble_eq_true rfl) ?_
  intro p e s m below meth c ls hsz C0 V hl
  have hx := C0.1
  have hb := C0.2.1
  have hl : lv_has ls 5 [(0, .ref qO0), (1, .int 2), (2, .int x1), (3, .long x2)] := hl
  have hF : q_un ws ws [167] := q_u0
  refine lv_aload_n hx hb d_14_12_0 rfl (lv_at hl 0 rfl) ?_
  refine q_get (ci := 12) (j := 10) (v := .ref qA8) C0 V i_NM rfl rfl hO0 (by decide) w_2308 rfl d_14_12_1 ?_
  refine lv_iload_n hx hb d_14_12_4 rfl (lv_at hl 1 rfl) ?_
  refine lv_iconst (v := 3) hx hb d_14_12_5 (by decide) ?_
  refine lv_icmp_ne (tgt := 16) hx hb d_14_12_6 (by decide) (fun c1 => ?_) (fun c1 => absurd c1 (by decide))
  refine lv_iload_n hx hb d_14_12_16 rfl (lv_at hl 2 rfl) ?_
  refine lv_lload_n hx hb d_14_12_17 rfl (lv_at hl 3 rfl) ?_
  refine q_last C0 V hA8 (q_ix (x := x1.toInt) rfl (by have t1 : 0 ≤ x1.toInt := q_leI x1lo; have t2 : x1.toInt ≤ 9 := q_leI x1hi; omega) (by have t1 : 0 ≤ x1.toInt := q_leI x1lo; have t2 : x1.toInt ≤ 9 := q_leI x1hi; omega)) d_14_12_18 (fun H locs w2 hu3 hA8 V => ?_)
  replace hA8 : w2[167]? = some (qA8, .inl (g 1, 20, .inr (.inl (vp_updL (fun _ => 0) x1.toNatClampNeg x2)))) := hA8
  replace hF := q_us hF hu3 (.head _)
  exact q_retv C0 V (⟨hF, hA8⟩) d_14_12_19
set_option maxRecDepth 100000 in
set_option maxHeartbeats 4000000 in
theorem c_DR_trim_6 (l : Launch) (D : va_G) (g : Nat → ClassId) (ws : va_W) (kO0 kA6 qO0 qA1 qA2 qA3 qA4 qA5 qA6 qA7 qA8 qA9 qA10 : Nat) (hO0 : ws[kO0]? = some (qO0, .inr (14, [.int 0, .ref qA1, .int 0, .ref qA2, .ref qA3, .ref qA4, .ref qA5, .ref qA6, .int 19, .long 0, .int 0, .int 0, .ref qA7, .int 0, .ref qA8, .int 0, .ref qA9, .int 0, .ref qA10, .int 0, .int 2]))) (hA6 : ws[kA6]? = some (qA6, .inl (g 0, 4400, .inl (fun _ => 0)))) : q_mV l y_DR_trim prog_15_method_7_code 3 1 0 0 D g [.ref qO0] ws (fun u => q_un ws u [kO0, kA6] ∧ u[kO0]? = some (qO0, .inr (14, [.int 0, .ref qA1, .int 0, .ref qA2, .ref qA3, .ref qA4, .ref qA5, .ref qA6, .int 1, .long 0, .int 0, .int 0, .ref qA7, .int 0, .ref qA8, .int 0, .ref qA9, .int 0, .ref qA10, .int 0, .int 2])) ∧ u[kA6]? = some (qA6, .inl (g 0, 4400, .inl (fun _ => 0)))) := by
  intro sz
  refine q_into (by decide) (Nat.le_of_ble_eq_true rfl) ?_
  intro p e s m below meth c ls hsz C0 V hl
  have hx := C0.1
  have hb := C0.2.1
  have hl : lv_has ls 3 [(0, .ref qO0)] := hl
  have n_A6_O0 := q_df hA6 hO0
  have n_O0_A6 := Ne.symm (q_df hA6 hO0)
  have hF : q_un ws ws [kO0, kA6] := q_u0
  refine lv_iconst (v := 0) hx hb d_15_7_0 (by decide) ?_
  refine lv_istore_n (lv' := [(1, .int 0), (0, .ref qO0)]) hx hb d_15_7_1 rfl hl (by decide) rfl (fun ls hl => ?_)
  refine q_loop (X := Int32) (fun z H locs ls w2 => (0 ≤ z.toInt ∧ (z.toInt ≤ 18 ∨ z.toInt = 0)) ∧ q_Wd D g (va_A ws sz) s w2 H locs ∧ lv_has ls 3 [(1, .int z), (0, .ref qO0)] ∧ q_un ws w2 [kO0, kA6] ∧ w2[kO0]? = some (qO0, .inr (14, [.int 0, .ref qA1, .int 0, .ref qA2, .ref qA3, .ref qA4, .ref qA5, .ref qA6, .int 19, .long 0, .int 0, .int 0, .ref qA7, .int 0, .ref qA8, .int 0, .ref qA9, .int 0, .ref qA10, .int 0, .int 2])) ∧ w2[kA6]? = some (qA6, .inl (g 0, 4400, .inl (fun _ => 0)))) (fun z => (18 - z.toInt).toNat) ?_ ((0 : Int32)) _ _ _ ws ⟨⟨by decide, Or.inr (by decide)⟩, V, hl, hF, hO0, hA6⟩
  rintro lx1 H locs ls w2 ⟨i3, V, hl, hF, hO0, hA6⟩ ih4
  replace i3 : 0 ≤ lx1.toInt ∧ (lx1.toInt ≤ 18 ∨ lx1.toInt = 0) := i3
  replace hl : lv_has ls 3 [(1, .int lx1), (0, .ref qO0)] := hl
  replace hO0 : w2[kO0]? = some (qO0, .inr (14, [.int 0, .ref qA1, .int 0, .ref qA2, .ref qA3, .ref qA4, .ref qA5, .ref qA6, .int 19, .long 0, .int 0, .int 0, .ref qA7, .int 0, .ref qA8, .int 0, .ref qA9, .int 0, .ref qA10, .int 0, .int 2])) := hO0
  replace hA6 : w2[kA6]? = some (qA6, .inl (g 0, 4400, .inl (fun _ => 0))) := hA6
  refine lv_iload_n hx hb d_15_7_2 rfl (lv_at hl 0 rfl) ?_
  refine lv_iconst (v := 1) hx hb d_15_7_3 (by decide) ?_
  refine lv_iadd hx hb d_15_7_4 ?_
  refine lv_aload_n hx hb d_15_7_5 rfl (lv_at hl 1 rfl) ?_
  refine q_get (ci := 14) (j := 8) (v := .int 19) C0 V i_DR rfl rfl hO0 (by decide) w_2011 rfl d_15_7_6 ?_
  refine lv_icmp_ge (tgt := 27) hx hb d_15_7_9 (by decide) (fun c5 => ?_) (fun c5 => ?_)
  ·
    refine lv_iconst (v := 0) hx hb d_15_7_27 (by decide) ?_
    refine lv_istore_n (lv' := [(2, .int 0), (1, .int lx1), (0, .ref qO0)]) hx hb d_15_7_28 rfl hl (by decide) rfl (fun ls hl => ?_)
    refine lv_iload_n hx hb d_15_7_29 rfl (lv_at hl 0 rfl) ?_
    refine lv_iload_n hx hb d_15_7_30 rfl (lv_at hl 1 rfl) ?_
    refine q_ti (v := 18) (q_Ieq (x := lx1.toInt) (y := 18) rfl (by decide) (by have t1 : 19 ≤ (lx1.toInt + 1) := by { have e1 : (19 : Int32).toInt = 19 := (by decide); have e2 : ((lx1 + 1) : Int32).toInt = (lx1.toInt + 1) := (q_addI (x := lx1.toInt) (y := 1) rfl (by decide) (by omega) (by omega)); have e3 := q_leI c5; omega }; omega)) ?_
    refine lv_iadd hx hb d_15_7_31 ?_
    refine q_ti (v := 18) (by decide) ?_
    refine lv_aload_n hx hb d_15_7_32 rfl (lv_at hl 2 rfl) ?_
    refine q_get (ci := 14) (j := 8) (v := .int 19) C0 V i_DR rfl rfl hO0 (by decide) w_2011 rfl d_15_7_33 ?_
    refine lv_icmp_ge (tgt := 59) hx hb d_15_7_36 (by decide) (fun c6 => absurd c6 (by decide)) (fun c6 => ?_)
    refine lv_aload_n hx hb d_15_7_39 rfl (lv_at hl 2 rfl) ?_
    refine q_get (ci := 14) (j := 7) (v := .ref qA6) C0 V i_DR rfl rfl hO0 (by decide) w_2010 rfl d_15_7_40 ?_
    refine lv_iload_n hx hb d_15_7_43 rfl (lv_at hl 0 rfl) ?_
    refine lv_aload_n hx hb d_15_7_44 rfl (lv_at hl 2 rfl) ?_
    refine q_get (ci := 14) (j := 7) (v := .ref qA6) C0 V i_DR rfl rfl hO0 (by decide) w_2010 rfl d_15_7_45 ?_
    refine lv_iload_n hx hb d_15_7_48 rfl (lv_at hl 0 rfl) ?_
    refine lv_iload_n hx hb d_15_7_49 rfl (lv_at hl 1 rfl) ?_
    refine q_ti (v := 18) (q_Ieq (x := lx1.toInt) (y := 18) rfl (by decide) (by have t1 : 19 ≤ (lx1.toInt + 1) := by { have e1 : (19 : Int32).toInt = 19 := (by decide); have e2 : ((lx1 + 1) : Int32).toInt = (lx1.toInt + 1) := (q_addI (x := lx1.toInt) (y := 1) rfl (by decide) (by omega) (by omega)); have e3 := q_leI c5; omega }; omega)) ?_
    refine lv_iadd hx hb d_15_7_50 ?_
    refine q_ti (v := 18) (by decide) ?_
    refine q_iald C0 V hA6 (by unfold vp_in; decide) d_15_7_51 ?_
    refine q_ti (v := 0) (by first | rfl | decide | simp [upd, vp_updL, sb_cl0]) ?_
    refine q_iast C0 V hA6 (by unfold vp_in; decide) d_15_7_52 (fun H locs w7 hu8 hA6 V => ?_)
    replace hA6 := q_re (y := (qA6, .inl (g 0, 4400, .inl (fun _ => 0)))) hA6 (q_eI q_upd0)
    replace hA6 : w7[kA6]? = some (qA6, .inl (g 0, 4400, .inl (fun _ => 0))) := hA6
    replace hF := q_us hF hu8 (.tail _ (.head _))
    refine lv_iinc (v := 1) (lv' := [(2, .int 1), (1, .int lx1), (0, .ref qO0)]) hx hb d_15_7_53 hl (k := 0) rfl (by decide) (by decide) rfl (fun ls hl => ?_)
    refine lv_goto (tgt := 29) hx hb d_15_7_56 (by decide) ?_
    refine lv_iload_n hx hb d_15_7_29 rfl (lv_at hl 0 rfl) ?_
    refine lv_iload_n hx hb d_15_7_30 rfl (lv_at hl 1 rfl) ?_
    refine q_ti (v := 18) (q_Ieq (x := lx1.toInt) (y := 18) rfl (by decide) (by have t1 : 19 ≤ (lx1.toInt + 1) := by { have e1 : (19 : Int32).toInt = 19 := (by decide); have e2 : ((lx1 + 1) : Int32).toInt = (lx1.toInt + 1) := (q_addI (x := lx1.toInt) (y := 1) rfl (by decide) (by omega) (by omega)); have e3 := q_leI c5; omega }; omega)) ?_
    refine lv_iadd hx hb d_15_7_31 ?_
    refine q_ti (v := 19) (by decide) ?_
    refine lv_aload_n hx hb d_15_7_32 rfl (lv_at hl 2 rfl) ?_
    replace hO0 := (hu8 _ n_O0_A6).trans (hO0)
    refine q_get (ci := 14) (j := 8) (v := .int 19) C0 V i_DR rfl rfl hO0 (by decide) w_2011 rfl d_15_7_33 ?_
    refine lv_icmp_ge (tgt := 59) hx hb d_15_7_36 (by decide) (fun c9 => ?_) (fun c9 => absurd (by decide) c9)
    refine lv_aload_n hx hb d_15_7_59 rfl (lv_at hl 2 rfl) ?_
    refine q_get (ci := 14) (j := 8) (v := .int 19) C0 V i_DR rfl rfl hO0 (by decide) w_2011 rfl d_15_7_60 ?_
    refine lv_if_ne (tgt := 81) hx hb d_15_7_63 (by decide) (fun c10 => ?_) (fun c10 => absurd c10 (by decide))
    refine lv_aload_n hx hb d_15_7_81 rfl (lv_at hl 2 rfl) ?_
    refine lv_aload_n hx hb d_15_7_82 rfl (lv_at hl 2 rfl) ?_
    refine q_get (ci := 14) (j := 8) (v := .int 19) C0 V i_DR rfl rfl hO0 (by decide) w_2011 rfl d_15_7_83 ?_
    refine lv_iload_n hx hb d_15_7_86 rfl (lv_at hl 1 rfl) ?_
    refine q_ti (v := 18) (q_Ieq (x := lx1.toInt) (y := 18) rfl (by decide) (by have t1 : 19 ≤ (lx1.toInt + 1) := by { have e1 : (19 : Int32).toInt = 19 := (by decide); have e2 : ((lx1 + 1) : Int32).toInt = (lx1.toInt + 1) := (q_addI (x := lx1.toInt) (y := 1) rfl (by decide) (by omega) (by omega)); have e3 := q_leI c5; omega }; omega)) ?_
    refine lv_isub hx hb d_15_7_87 ?_
    refine q_ti (v := 1) (by decide) ?_
    refine q_put (ci := 14) (j := 8) (v := .int 1) (ty := .int) C0 V i_DR o_DR n_DR rfl rfl hO0 (by decide) w_2011 rfl rfl rfl rfl (Nat.le_of_ble_eq_true rfl) d_15_7_88 (fun H locs w11 hu12 hO0 V => ?_)
    replace hO0 : w11[kO0]? = some (qO0, .inr (14, [.int 0, .ref qA1, .int 0, .ref qA2, .ref qA3, .ref qA4, .ref qA5, .ref qA6, .int 1, .long 0, .int 0, .int 0, .ref qA7, .int 0, .ref qA8, .int 0, .ref qA9, .int 0, .ref qA10, .int 0, .int 2])) := hO0
    replace hF := q_us hF hu12 (.head _)
    refine lv_aload_n hx hb d_15_7_91 rfl (lv_at hl 2 rfl) ?_
    refine lv_aload_n hx hb d_15_7_92 rfl (lv_at hl 2 rfl) ?_
    refine q_get (ci := 14) (j := 11) (v := .int 0) C0 V i_DR rfl rfl hO0 (by decide) w_2014 rfl d_15_7_93 ?_
    refine lv_if_eq (tgt := 112) hx hb d_15_7_96 (by decide) (fun c13 => ?_) (fun c13 => absurd (by decide) c13)
    refine lv_iconst (v := 0) hx hb d_15_7_112 (by decide) ?_
    refine q_put (ci := 14) (j := 11) (v := .int 0) (ty := .boolean) C0 V i_DR o_DR n_DR rfl rfl hO0 (by decide) w_2014 rfl rfl rfl rfl (Nat.le_of_ble_eq_true rfl) d_15_7_113 (fun H locs w14 hu15 hO0 V => ?_)
    replace hO0 : w14[kO0]? = some (qO0, .inr (14, [.int 0, .ref qA1, .int 0, .ref qA2, .ref qA3, .ref qA4, .ref qA5, .ref qA6, .int 1, .long 0, .int 0, .int 0, .ref qA7, .int 0, .ref qA8, .int 0, .ref qA9, .int 0, .ref qA10, .int 0, .int 2])) := hO0
    replace hF := q_us hF hu15 (.head _)
    replace hA6 := (hu15 _ n_A6_O0).trans ((hu12 _ n_A6_O0).trans (hA6))
    exact q_retv C0 V (⟨hF, hO0, hA6⟩) d_15_7_116
  ·
    refine lv_aload_n hx hb d_15_7_12 rfl (lv_at hl 1 rfl) ?_
    refine q_get (ci := 14) (j := 7) (v := .ref qA6) C0 V i_DR rfl rfl hO0 (by decide) w_2010 rfl d_15_7_13 ?_
    refine lv_iload_n hx hb d_15_7_16 rfl (lv_at hl 0 rfl) ?_
    refine q_iald C0 V hA6 (q_ix (x := lx1.toInt) rfl (by have t1 : (lx1.toInt + 1) < 19 := by { have e1 : (19 : Int32).toInt = 19 := (by decide); have e2 : ((lx1 + 1) : Int32).toInt = (lx1.toInt + 1) := (q_addI (x := lx1.toInt) (y := 1) rfl (by decide) (by omega) (by omega)); have e3 := q_nleI c5; omega }; omega) (by have t1 : (lx1.toInt + 1) < 19 := by { have e1 : (19 : Int32).toInt = 19 := (by decide); have e2 : ((lx1 + 1) : Int32).toInt = (lx1.toInt + 1) := (q_addI (x := lx1.toInt) (y := 1) rfl (by decide) (by omega) (by omega)); have e3 := q_nleI c5; omega }; omega)) d_15_7_17 ?_
    refine q_ti (v := 0) (by first | rfl | decide | simp [upd, vp_updL, sb_cl0]) ?_
    refine lv_if_ne (tgt := 27) hx hb d_15_7_18 (by decide) (fun c16 => absurd (by decide) c16) (fun c16 => ?_)
    refine lv_iinc (v := lx1 + 1) (lv' := [(1, .int (lx1 + 1)), (0, .ref qO0)]) hx hb d_15_7_21 hl (k := 0) rfl (rfl) (by decide) rfl (fun ls hl => ?_)
    refine lv_goto (tgt := 2) hx hb d_15_7_24 (by decide) ?_
    exact ih4 ((lx1 + 1 : Int32)) _ _ _ _ (show (18 - (lx1 + 1).toInt).toNat < (18 - lx1.toInt).toNat from by have t1 : (lx1.toInt + 1) < 19 := by { have e1 : (19 : Int32).toInt = 19 := (by decide); have e2 : ((lx1 + 1) : Int32).toInt = (lx1.toInt + 1) := (q_addI (x := lx1.toInt) (y := 1) rfl (by decide) (by omega) (by omega)); have e3 := q_nleI c5; omega }; have e : (lx1 + 1).toInt = (lx1.toInt + 1) := (q_addI (x := lx1.toInt) (y := 1) rfl (by decide) (by have t1 : (lx1.toInt + 1) < 19 := by { have e1 : (19 : Int32).toInt = 19 := (by decide); have e2 : ((lx1 + 1) : Int32).toInt = (lx1.toInt + 1) := (q_addI (x := lx1.toInt) (y := 1) rfl (by decide) (by omega) (by omega)); have e3 := q_nleI c5; omega }; omega) (by have t1 : (lx1.toInt + 1) < 19 := by { have e1 : (19 : Int32).toInt = 19 := (by decide); have e2 : ((lx1 + 1) : Int32).toInt = (lx1.toInt + 1) := (q_addI (x := lx1.toInt) (y := 1) rfl (by decide) (by omega) (by omega)); have e3 := q_nleI c5; omega }; omega)); omega) ⟨(show 0 ≤ (lx1 + 1).toInt ∧ ((lx1 + 1).toInt ≤ 18 ∨ (lx1 + 1).toInt = 0) from by have t1 : (lx1.toInt + 1) < 19 := by { have e1 : (19 : Int32).toInt = 19 := (by decide); have e2 : ((lx1 + 1) : Int32).toInt = (lx1.toInt + 1) := (q_addI (x := lx1.toInt) (y := 1) rfl (by decide) (by omega) (by omega)); have e3 := q_nleI c5; omega }; have e : (lx1 + 1).toInt = (lx1.toInt + 1) := (q_addI (x := lx1.toInt) (y := 1) rfl (by decide) (by have t1 : (lx1.toInt + 1) < 19 := by { have e1 : (19 : Int32).toInt = 19 := (by decide); have e2 : ((lx1 + 1) : Int32).toInt = (lx1.toInt + 1) := (q_addI (x := lx1.toInt) (y := 1) rfl (by decide) (by omega) (by omega)); have e3 := q_nleI c5; omega }; omega) (by have t1 : (lx1.toInt + 1) < 19 := by { have e1 : (19 : Int32).toInt = 19 := (by decide); have e2 : ((lx1 + 1) : Int32).toInt = (lx1.toInt + 1) := (q_addI (x := lx1.toInt) (y := 1) rfl (by decide) (by omega) (by omega)); have e3 := q_nleI c5; omega }; omega)); omega), V, q_lw hl (q_lw1 0 rfl (q_lw1 1 rfl q_lw0)), hF, hO0, hA6⟩
set_option maxRecDepth 100000 in
set_option maxHeartbeats 4000000 in
theorem c_DR_store_6 (l : Launch) (D : va_G) (g : Nat → ClassId) (ws : va_W) (kO0 kA2 kA3 kA4 kA5 kA6 qO0 qA1 qA2 qA3 qA4 qA5 qA6 qA7 qA8 qA9 qA10 : Nat) (x1 : Int32) (hO0 : ws[kO0]? = some (qO0, .inr (14, [.int 0, .ref qA1, .int 0, .ref qA2, .ref qA3, .ref qA4, .ref qA5, .ref qA6, .int 19, .long 0, .int 0, .int 0, .ref qA7, .int 0, .ref qA8, .int 0, .ref qA9, .int 0, .ref qA10, .int 0, .int 2]))) (hA2 : ws[kA2]? = some (qA2, .inl (g 0, 10000, .inl (fun _ => 0)))) (hA3 : ws[kA3]? = some (qA3, .inl (g 0, 10, .inl (upd (upd (upd (upd (upd (upd (upd (upd (upd (upd (fun _ => 0) 0 1) 1 1) 2 1) 3 1) 4 1) 5 1) 6 1) 7 1) 8 1) 9 1)))) (hA4 : ws[kA4]? = some (qA4, .inl (g 3, 10, .inl (fun _ => 0)))) (hA5 : ws[kA5]? = some (qA5, .inl (g 0, 10, .inl (fun _ => 0)))) (hA6 : ws[kA6]? = some (qA6, .inl (g 0, 4400, .inl (fun _ => 0)))) (n_A2_A3 : kA2 ≠ kA3) (n_A2_A4 : kA2 ≠ kA4) (n_A2_A5 : kA2 ≠ kA5) (n_A2_A6 : kA2 ≠ kA6) (n_A3_A4 : kA3 ≠ kA4) (n_A3_A5 : kA3 ≠ kA5) (n_A3_A6 : kA3 ≠ kA6) (n_A4_A5 : kA4 ≠ kA5) (n_A4_A6 : kA4 ≠ kA6) (n_A5_A6 : kA5 ≠ kA6) (x1lo : 0 ≤ x1) (x1hi : x1 ≤ 9) : q_mV l y_DR_store prog_15_method_8_code 3 2 0 0 D g [.ref qO0, .int x1] ws (fun u => q_un ws u [kO0, kA2, kA3, kA4, kA5, kA6] ∧ u[kO0]? = some (qO0, .inr (14, [.int 0, .ref qA1, .int 0, .ref qA2, .ref qA3, .ref qA4, .ref qA5, .ref qA6, .int 1, .long 0, .int 0, .int 0, .ref qA7, .int 0, .ref qA8, .int 0, .ref qA9, .int 0, .ref qA10, .int 0, .int 2])) ∧ u[kA2]? = some (qA2, .inl (g 0, 10000, .inl (fun _ => 0))) ∧ u[kA3]? = some (qA3, .inl (g 0, 10, .inl (upd (upd (upd (upd (upd (upd (upd (upd (upd (upd (upd (fun _ => 0) 0 1) 1 1) 2 1) 3 1) 4 1) 5 1) 6 1) 7 1) 8 1) 9 1) x1.toNatClampNeg 1))) ∧ u[kA4]? = some (qA4, .inl (g 3, 10, .inl (fun _ => 0))) ∧ u[kA5]? = some (qA5, .inl (g 0, 10, .inl (fun _ => 0))) ∧ u[kA6]? = some (qA6, .inl (g 0, 4400, .inl (fun _ => 0)))) := by
  intro sz
  refine q_into (by decide) (Nat.le_of_ble_eq_true rfl) ?_
  intro p e s m below meth c ls hsz C0 V hl
  have hx := C0.1
  have hb := C0.2.1
  have hl : lv_has ls 3 [(0, .ref qO0), (1, .int x1)] := hl
  have n_A2_O0 := q_df hA2 hO0
  have n_A3_A2 := Ne.symm n_A2_A3
  have n_A3_O0 := q_df hA3 hO0
  have n_A4_A2 := Ne.symm n_A2_A4
  have n_A4_A3 := Ne.symm n_A3_A4
  have n_A4_O0 := q_df hA4 hO0
  have n_A5_A2 := Ne.symm n_A2_A5
  have n_A5_A3 := Ne.symm n_A3_A5
  have n_A5_A4 := Ne.symm n_A4_A5
  have n_A5_O0 := q_df hA5 hO0
  have n_A6_A2 := Ne.symm n_A2_A6
  have n_A6_A3 := Ne.symm n_A3_A6
  have n_A6_A4 := Ne.symm n_A4_A6
  have n_A6_A5 := Ne.symm n_A5_A6
  have n_O0_A2 := Ne.symm (q_df hA2 hO0)
  have n_O0_A3 := Ne.symm (q_df hA3 hO0)
  have n_O0_A4 := Ne.symm (q_df hA4 hO0)
  have n_O0_A5 := Ne.symm (q_df hA5 hO0)
  have hF : q_un ws ws [kO0, kA2, kA3, kA4, kA5, kA6] := q_u0
  refine lv_aload_n hx hb d_15_8_0 rfl (lv_at hl 0 rfl) ?_
  refine q_gov V (q_runV (As := []) (rest := []) (d := 1) (mc := 0) (ms := 0) (ci := 14) C0 V rfl LV_DR_59 (c_DR_trim_6 l D g ws kO0 kA6 qO0 qA1 qA2 qA3 qA4 qA5 qA6 qA7 qA8 qA9 qA10 hO0 hA6 _) rfl rfl hO0 rfl hl.1 rfl (Nat.le_of_ble_eq_true rfl) ⟨by decide, by decide⟩ ⟨Nat.le_of_ble_eq_true rfl, Nat.le_of_ble_eq_true rfl⟩ d_15_8_1) (fun u2 H locs hp1 V => ?_)
  obtain ⟨hg3, hO0, hA6⟩ := hp1
  replace hF := q_uc hF hg3 (q_sc (.head _) (q_sc (List.mem_of_getElem? (i := 5) rfl) (fun _ h => absurd h List.not_mem_nil)))
  refine lv_aload_n hx hb d_15_8_4 rfl (lv_at hl 0 rfl) ?_
  refine q_get (ci := 14) (j := 8) (v := .int 1) C0 V i_DR rfl rfl hO0 (by decide) w_2011 rfl d_15_8_5 ?_
  refine lv_sipush (v := 1000) hx hb d_15_8_8 (by decide) ?_
  refine lv_icmp_gt (tgt := 36) hx hb d_15_8_11 (by decide) (fun c4 => absurd c4 (by decide)) (fun c4 => ?_)
  refine lv_aload_n hx hb d_15_8_14 rfl (lv_at hl 0 rfl) ?_
  refine q_get (ci := 14) (j := 9) (v := .long 0) C0 V i_DR rfl rfl hO0 (by decide) w_2012 rfl d_15_8_15 ?_
  refine q_ldc2 C0 rfl w_2417 d_15_8_18 ?_
  refine W.lcmp hx hb d_15_8_21 ?_
  refine q_ti (v := 1) (by decide) ?_
  refine lv_if_lt (tgt := 36) hx hb d_15_8_22 (by decide) (fun c5 => absurd c5 (by decide)) (fun c5 => ?_)
  refine lv_aload_n hx hb d_15_8_25 rfl (lv_at hl 0 rfl) ?_
  refine q_get (ci := 14) (j := 9) (v := .long 0) C0 V i_DR rfl rfl hO0 (by decide) w_2012 rfl d_15_8_26 ?_
  refine q_ldc2 C0 rfl w_2418 d_15_8_29 ?_
  refine W.lcmp hx hb d_15_8_32 ?_
  refine q_ti (v := (-1)) (by decide) ?_
  refine lv_if_le (tgt := 45) hx hb d_15_8_33 (by decide) (fun c6 => ?_) (fun c6 => absurd (by decide) c6)
  refine lv_iconst (v := 0) hx hb d_15_8_45 (by decide) ?_
  refine lv_istore_n (lv' := [(2, .int 0), (0, .ref qO0), (1, .int x1)]) hx hb d_15_8_46 rfl hl (by decide) rfl (fun ls hl => ?_)
  refine lv_iload_n hx hb d_15_8_47 rfl (lv_at hl 0 rfl) ?_
  refine lv_aload_n hx hb d_15_8_48 rfl (lv_at hl 1 rfl) ?_
  refine q_get (ci := 14) (j := 8) (v := .int 1) C0 V i_DR rfl rfl hO0 (by decide) w_2011 rfl d_15_8_49 ?_
  refine lv_icmp_ge (tgt := 79) hx hb d_15_8_52 (by decide) (fun c7 => absurd c7 (by decide)) (fun c7 => ?_)
  refine lv_aload_n hx hb d_15_8_55 rfl (lv_at hl 1 rfl) ?_
  refine q_get (ci := 14) (j := 3) (v := .ref qA2) C0 V i_DR rfl rfl hO0 (by decide) w_2002 rfl d_15_8_56 ?_
  refine lv_sipush (v := 1000) hx hb d_15_8_59 (by decide) ?_
  refine lv_iload_n hx hb d_15_8_62 rfl (lv_at hl 2 rfl) ?_
  refine lv_imul hx hb d_15_8_63 ?_
  refine lv_iload_n hx hb d_15_8_64 rfl (lv_at hl 0 rfl) ?_
  refine lv_iadd hx hb d_15_8_65 ?_
  refine q_ti (v := 1000 * x1) (by simp) ?_
  refine lv_aload_n hx hb d_15_8_66 rfl (lv_at hl 1 rfl) ?_
  refine q_get (ci := 14) (j := 7) (v := .ref qA6) C0 V i_DR rfl rfl hO0 (by decide) w_2010 rfl d_15_8_67 ?_
  refine lv_iload_n hx hb d_15_8_70 rfl (lv_at hl 0 rfl) ?_
  refine q_iald C0 V hA6 (by unfold vp_in; decide) d_15_8_71 ?_
  refine q_ti (v := 0) (by first | rfl | decide | simp [upd, vp_updL, sb_cl0]) ?_
  replace hA2 := (hg3 _ (q_nc n_A2_O0 (q_nc n_A2_A6 List.not_mem_nil))).trans (hA2)
  refine q_iast C0 V hA2 (q_ix (x := (1000 * x1.toInt)) (q_mulI (x := 1000) (y := x1.toInt) (by decide) rfl (by have t1 : 0 ≤ x1.toInt := q_leI x1lo; have t2 : x1.toInt ≤ 9 := q_leI x1hi; omega) (by have t1 : 0 ≤ x1.toInt := q_leI x1lo; have t2 : x1.toInt ≤ 9 := q_leI x1hi; omega)) (by have t1 : 0 ≤ x1.toInt := q_leI x1lo; have t2 : x1.toInt ≤ 9 := q_leI x1hi; omega) (by have t1 : 0 ≤ x1.toInt := q_leI x1lo; have t2 : x1.toInt ≤ 9 := q_leI x1hi; omega)) d_15_8_72 (fun H locs w8 hu9 hA2 V => ?_)
  replace hA2 := q_re (y := (qA2, .inl (g 0, 10000, .inl (fun _ => 0)))) hA2 (q_eI q_upd0)
  replace hA2 : w8[kA2]? = some (qA2, .inl (g 0, 10000, .inl (fun _ => 0))) := hA2
  replace hF := q_us hF hu9 (.tail _ (.head _))
  refine lv_iinc (v := 1) (lv' := [(2, .int 1), (0, .ref qO0), (1, .int x1)]) hx hb d_15_8_73 hl (k := 0) rfl (by decide) (by decide) rfl (fun ls hl => ?_)
  refine lv_goto (tgt := 47) hx hb d_15_8_76 (by decide) ?_
  refine lv_iload_n hx hb d_15_8_47 rfl (lv_at hl 0 rfl) ?_
  refine lv_aload_n hx hb d_15_8_48 rfl (lv_at hl 1 rfl) ?_
  replace hO0 := (hu9 _ n_O0_A2).trans (hO0)
  refine q_get (ci := 14) (j := 8) (v := .int 1) C0 V i_DR rfl rfl hO0 (by decide) w_2011 rfl d_15_8_49 ?_
  refine lv_icmp_ge (tgt := 79) hx hb d_15_8_52 (by decide) (fun c10 => ?_) (fun c10 => absurd (by decide) c10)
  refine lv_aload_n hx hb d_15_8_79 rfl (lv_at hl 1 rfl) ?_
  refine q_get (ci := 14) (j := 4) (v := .ref qA3) C0 V i_DR rfl rfl hO0 (by decide) w_2004 rfl d_15_8_80 ?_
  refine lv_iload_n hx hb d_15_8_83 rfl (lv_at hl 2 rfl) ?_
  refine lv_aload_n hx hb d_15_8_84 rfl (lv_at hl 1 rfl) ?_
  refine q_get (ci := 14) (j := 8) (v := .int 1) C0 V i_DR rfl rfl hO0 (by decide) w_2011 rfl d_15_8_85 ?_
  replace hA3 := (hu9 _ n_A3_A2).trans ((hg3 _ (q_nc n_A3_O0 (q_nc n_A3_A6 List.not_mem_nil))).trans (hA3))
  refine q_iast C0 V hA3 (q_ix (x := x1.toInt) rfl (by have t1 : 0 ≤ x1.toInt := q_leI x1lo; have t2 : x1.toInt ≤ 9 := q_leI x1hi; omega) (by have t1 : 0 ≤ x1.toInt := q_leI x1lo; have t2 : x1.toInt ≤ 9 := q_leI x1hi; omega)) d_15_8_88 (fun H locs w11 hu12 hA3 V => ?_)
  replace hA3 : w11[kA3]? = some (qA3, .inl (g 0, 10, .inl (upd (upd (upd (upd (upd (upd (upd (upd (upd (upd (upd (fun _ => 0) 0 1) 1 1) 2 1) 3 1) 4 1) 5 1) 6 1) 7 1) 8 1) 9 1) x1.toNatClampNeg 1))) := hA3
  replace hF := q_us hF hu12 (.tail _ (.tail _ (.head _)))
  refine lv_aload_n hx hb d_15_8_89 rfl (lv_at hl 1 rfl) ?_
  replace hO0 := (hu12 _ n_O0_A3).trans (hO0)
  refine q_get (ci := 14) (j := 5) (v := .ref qA4) C0 V i_DR rfl rfl hO0 (by decide) w_2006 rfl d_15_8_90 ?_
  refine lv_iload_n hx hb d_15_8_93 rfl (lv_at hl 2 rfl) ?_
  refine lv_aload_n hx hb d_15_8_94 rfl (lv_at hl 1 rfl) ?_
  refine q_get (ci := 14) (j := 11) (v := .int 0) C0 V i_DR rfl rfl hO0 (by decide) w_2014 rfl d_15_8_95 ?_
  replace hA4 := (hu12 _ n_A4_A3).trans ((hu9 _ n_A4_A2).trans ((hg3 _ (q_nc n_A4_O0 (q_nc n_A4_A6 List.not_mem_nil))).trans (hA4)))
  refine q_zast C0 V hA4 (q_ix (x := x1.toInt) rfl (by have t1 : 0 ≤ x1.toInt := q_leI x1lo; have t2 : x1.toInt ≤ 9 := q_leI x1hi; omega) (by have t1 : 0 ≤ x1.toInt := q_leI x1lo; have t2 : x1.toInt ≤ 9 := q_leI x1hi; omega)) d_15_8_98 (fun H locs w13 hu14 hA4 V => ?_)
  replace hA4 := q_re (y := (qA4, .inl (g 3, 10, .inl (fun _ => 0)))) hA4 (q_eI q_upd0)
  replace hA4 : w13[kA4]? = some (qA4, .inl (g 3, 10, .inl (fun _ => 0))) := hA4
  replace hF := q_us hF hu14 (List.mem_of_getElem? (i := 3) rfl)
  refine lv_aload_n hx hb d_15_8_99 rfl (lv_at hl 1 rfl) ?_
  replace hO0 := (hu14 _ n_O0_A4).trans (hO0)
  refine q_get (ci := 14) (j := 6) (v := .ref qA5) C0 V i_DR rfl rfl hO0 (by decide) w_2008 rfl d_15_8_100 ?_
  refine lv_iload_n hx hb d_15_8_103 rfl (lv_at hl 2 rfl) ?_
  refine lv_aload_n hx hb d_15_8_104 rfl (lv_at hl 1 rfl) ?_
  refine q_get (ci := 14) (j := 9) (v := .long 0) C0 V i_DR rfl rfl hO0 (by decide) w_2012 rfl d_15_8_105 ?_
  refine lv_l2i hx hb d_15_8_108 rfl ?_
  refine q_ti (v := 0) (by decide) ?_
  replace hA5 := (hu14 _ n_A5_A4).trans ((hu12 _ n_A5_A3).trans ((hu9 _ n_A5_A2).trans ((hg3 _ (q_nc n_A5_O0 (q_nc n_A5_A6 List.not_mem_nil))).trans (hA5))))
  refine q_iast C0 V hA5 (q_ix (x := x1.toInt) rfl (by have t1 : 0 ≤ x1.toInt := q_leI x1lo; have t2 : x1.toInt ≤ 9 := q_leI x1hi; omega) (by have t1 : 0 ≤ x1.toInt := q_leI x1lo; have t2 : x1.toInt ≤ 9 := q_leI x1hi; omega)) d_15_8_109 (fun H locs w15 hu16 hA5 V => ?_)
  replace hA5 := q_re (y := (qA5, .inl (g 0, 10, .inl (fun _ => 0)))) hA5 (q_eI q_upd0)
  replace hA5 : w15[kA5]? = some (qA5, .inl (g 0, 10, .inl (fun _ => 0))) := hA5
  replace hF := q_us hF hu16 (List.mem_of_getElem? (i := 4) rfl)
  replace hO0 := (hu16 _ n_O0_A5).trans (hO0)
  replace hA2 := (hu16 _ n_A2_A5).trans ((hu14 _ n_A2_A4).trans ((hu12 _ n_A2_A3).trans (hA2)))
  replace hA3 := (hu16 _ n_A3_A5).trans ((hu14 _ n_A3_A4).trans (hA3))
  replace hA4 := (hu16 _ n_A4_A5).trans (hA4)
  replace hA6 := (hu16 _ n_A6_A5).trans ((hu14 _ n_A6_A4).trans ((hu12 _ n_A6_A3).trans ((hu9 _ n_A6_A2).trans (hA6))))
  exact q_retv C0 V (⟨hF, hO0, hA2, hA3, hA4, hA5, hA6⟩) d_15_8_110
set_option maxRecDepth 100000 in
set_option maxHeartbeats 4000000 in
theorem c_DR_trim_7 (l : Launch) (D : va_G) (g : Nat → ClassId) (ws : va_W) (kO0 kA6 qO0 qA1 qA2 qA3 qA4 qA5 qA6 qA7 qA8 qA9 qA10 : Nat) (f1 : Nat → Int32) (hO0 : ws[kO0]? = some (qO0, .inr (14, [.int 0, .ref qA1, .int 0, .ref qA2, .ref qA3, .ref qA4, .ref qA5, .ref qA6, .int 19, .long 0, .int 0, .int 0, .ref qA7, .int 0, .ref qA8, .int 0, .ref qA9, .int 0, .ref qA10, .int 0, .int 2]))) (hA6 : ws[kA6]? = some (qA6, .inl (g 0, 4400, .inl f1))) : q_mV l y_DR_trim prog_15_method_7_code 3 1 0 0 D g [.ref qO0] ws (fun u => (q_un ws u [kO0, kA6] ∧ u[kO0]? = some (qO0, .inr (14, [.int 0, .ref qA1, .int 0, .ref qA2, .ref qA3, .ref qA4, .ref qA5, .ref qA6, .int 1, .long 0, .int 0, .int 0, .ref qA7, .int 0, .ref qA8, .int 0, .ref qA9, .int 0, .ref qA10, .int 0, .int 2])) ∧ u[kA6]? = some (qA6, .inl (g 0, 4400, .inl (upd f1 0 (f1 (18 : Int32).toNatClampNeg))))) ∨ (∃ (ex0 : Int32) (ex1 : Nat → Int32), ¬ 19 ≤ (ex0 + 1) ∧ ¬ (f1 ex0.toNatClampNeg) = 0 ∧ 0 ≤ ex0 ∧ ex0 ≤ 17 ∧ q_un ws u [kO0, kA6] ∧ u[kO0]? = some (qO0, .inr (14, [.int 0, .ref qA1, .int 0, .ref qA2, .ref qA3, .ref qA4, .ref qA5, .ref qA6, .int (19 - ex0), .long 0, .int 0, .int 0, .ref qA7, .int 0, .ref qA8, .int 0, .ref qA9, .int 0, .ref qA10, .int 0, .int 2])) ∧ u[kA6]? = some (qA6, .inl (g 0, 4400, .inl ex1)))) := by
  intro sz
  refine q_into (by decide) (Nat.le_of_ble_eq_true rfl) ?_
  intro p e s m below meth c ls hsz C0 V hl
  have hx := C0.1
  have hb := C0.2.1
  have hl : lv_has ls 3 [(0, .ref qO0)] := hl
  have n_A6_O0 := q_df hA6 hO0
  have n_O0_A6 := Ne.symm (q_df hA6 hO0)
  have hF : q_un ws ws [kO0, kA6] := q_u0
  refine lv_iconst (v := 0) hx hb d_15_7_0 (by decide) ?_
  refine lv_istore_n (lv' := [(1, .int 0), (0, .ref qO0)]) hx hb d_15_7_1 rfl hl (by decide) rfl (fun ls hl => ?_)
  refine q_loop (X := Int32) (fun z H locs ls w2 => (0 ≤ z.toInt ∧ (z.toInt ≤ 18 ∨ z.toInt = 0)) ∧ q_Wd D g (va_A ws sz) s w2 H locs ∧ lv_has ls 3 [(1, .int z), (0, .ref qO0)] ∧ q_un ws w2 [kO0, kA6] ∧ w2[kO0]? = some (qO0, .inr (14, [.int 0, .ref qA1, .int 0, .ref qA2, .ref qA3, .ref qA4, .ref qA5, .ref qA6, .int 19, .long 0, .int 0, .int 0, .ref qA7, .int 0, .ref qA8, .int 0, .ref qA9, .int 0, .ref qA10, .int 0, .int 2])) ∧ w2[kA6]? = some (qA6, .inl (g 0, 4400, .inl f1))) (fun z => (18 - z.toInt).toNat) ?_ ((0 : Int32)) _ _ _ ws ⟨⟨by decide, Or.inr (by decide)⟩, V, hl, hF, hO0, hA6⟩
  rintro lx1 H locs ls w2 ⟨i3, V, hl, hF, hO0, hA6⟩ ih4
  replace i3 : 0 ≤ lx1.toInt ∧ (lx1.toInt ≤ 18 ∨ lx1.toInt = 0) := i3
  replace hl : lv_has ls 3 [(1, .int lx1), (0, .ref qO0)] := hl
  replace hO0 : w2[kO0]? = some (qO0, .inr (14, [.int 0, .ref qA1, .int 0, .ref qA2, .ref qA3, .ref qA4, .ref qA5, .ref qA6, .int 19, .long 0, .int 0, .int 0, .ref qA7, .int 0, .ref qA8, .int 0, .ref qA9, .int 0, .ref qA10, .int 0, .int 2])) := hO0
  replace hA6 : w2[kA6]? = some (qA6, .inl (g 0, 4400, .inl f1)) := hA6
  refine lv_iload_n hx hb d_15_7_2 rfl (lv_at hl 0 rfl) ?_
  refine lv_iconst (v := 1) hx hb d_15_7_3 (by decide) ?_
  refine lv_iadd hx hb d_15_7_4 ?_
  refine lv_aload_n hx hb d_15_7_5 rfl (lv_at hl 1 rfl) ?_
  refine q_get (ci := 14) (j := 8) (v := .int 19) C0 V i_DR rfl rfl hO0 (by decide) w_2011 rfl d_15_7_6 ?_
  refine lv_icmp_ge (tgt := 27) hx hb d_15_7_9 (by decide) (fun c5 => ?_) (fun c5 => ?_)
  ·
    refine lv_iconst (v := 0) hx hb d_15_7_27 (by decide) ?_
    refine lv_istore_n (lv' := [(2, .int 0), (1, .int lx1), (0, .ref qO0)]) hx hb d_15_7_28 rfl hl (by decide) rfl (fun ls hl => ?_)
    refine lv_iload_n hx hb d_15_7_29 rfl (lv_at hl 0 rfl) ?_
    refine lv_iload_n hx hb d_15_7_30 rfl (lv_at hl 1 rfl) ?_
    refine q_ti (v := 18) (q_Ieq (x := lx1.toInt) (y := 18) rfl (by decide) (by have t1 : 19 ≤ (lx1.toInt + 1) := by { have e1 : (19 : Int32).toInt = 19 := (by decide); have e2 : ((lx1 + 1) : Int32).toInt = (lx1.toInt + 1) := (q_addI (x := lx1.toInt) (y := 1) rfl (by decide) (by omega) (by omega)); have e3 := q_leI c5; omega }; omega)) ?_
    refine lv_iadd hx hb d_15_7_31 ?_
    refine q_ti (v := 18) (by decide) ?_
    refine lv_aload_n hx hb d_15_7_32 rfl (lv_at hl 2 rfl) ?_
    refine q_get (ci := 14) (j := 8) (v := .int 19) C0 V i_DR rfl rfl hO0 (by decide) w_2011 rfl d_15_7_33 ?_
    refine lv_icmp_ge (tgt := 59) hx hb d_15_7_36 (by decide) (fun c6 => absurd c6 (by decide)) (fun c6 => ?_)
    refine lv_aload_n hx hb d_15_7_39 rfl (lv_at hl 2 rfl) ?_
    refine q_get (ci := 14) (j := 7) (v := .ref qA6) C0 V i_DR rfl rfl hO0 (by decide) w_2010 rfl d_15_7_40 ?_
    refine lv_iload_n hx hb d_15_7_43 rfl (lv_at hl 0 rfl) ?_
    refine lv_aload_n hx hb d_15_7_44 rfl (lv_at hl 2 rfl) ?_
    refine q_get (ci := 14) (j := 7) (v := .ref qA6) C0 V i_DR rfl rfl hO0 (by decide) w_2010 rfl d_15_7_45 ?_
    refine lv_iload_n hx hb d_15_7_48 rfl (lv_at hl 0 rfl) ?_
    refine lv_iload_n hx hb d_15_7_49 rfl (lv_at hl 1 rfl) ?_
    refine q_ti (v := 18) (q_Ieq (x := lx1.toInt) (y := 18) rfl (by decide) (by have t1 : 19 ≤ (lx1.toInt + 1) := by { have e1 : (19 : Int32).toInt = 19 := (by decide); have e2 : ((lx1 + 1) : Int32).toInt = (lx1.toInt + 1) := (q_addI (x := lx1.toInt) (y := 1) rfl (by decide) (by omega) (by omega)); have e3 := q_leI c5; omega }; omega)) ?_
    refine lv_iadd hx hb d_15_7_50 ?_
    refine q_ti (v := 18) (by decide) ?_
    refine q_iald C0 V hA6 (by unfold vp_in; decide) d_15_7_51 ?_
    refine q_iast C0 V hA6 (by unfold vp_in; decide) d_15_7_52 (fun H locs w7 hu8 hA6 V => ?_)
    replace hA6 : w7[kA6]? = some (qA6, .inl (g 0, 4400, .inl (upd f1 0 (f1 (18 : Int32).toNatClampNeg)))) := hA6
    replace hF := q_us hF hu8 (.tail _ (.head _))
    refine lv_iinc (v := 1) (lv' := [(2, .int 1), (1, .int lx1), (0, .ref qO0)]) hx hb d_15_7_53 hl (k := 0) rfl (by decide) (by decide) rfl (fun ls hl => ?_)
    refine lv_goto (tgt := 29) hx hb d_15_7_56 (by decide) ?_
    refine lv_iload_n hx hb d_15_7_29 rfl (lv_at hl 0 rfl) ?_
    refine lv_iload_n hx hb d_15_7_30 rfl (lv_at hl 1 rfl) ?_
    refine q_ti (v := 18) (q_Ieq (x := lx1.toInt) (y := 18) rfl (by decide) (by have t1 : 19 ≤ (lx1.toInt + 1) := by { have e1 : (19 : Int32).toInt = 19 := (by decide); have e2 : ((lx1 + 1) : Int32).toInt = (lx1.toInt + 1) := (q_addI (x := lx1.toInt) (y := 1) rfl (by decide) (by omega) (by omega)); have e3 := q_leI c5; omega }; omega)) ?_
    refine lv_iadd hx hb d_15_7_31 ?_
    refine q_ti (v := 19) (by decide) ?_
    refine lv_aload_n hx hb d_15_7_32 rfl (lv_at hl 2 rfl) ?_
    replace hO0 := (hu8 _ n_O0_A6).trans (hO0)
    refine q_get (ci := 14) (j := 8) (v := .int 19) C0 V i_DR rfl rfl hO0 (by decide) w_2011 rfl d_15_7_33 ?_
    refine lv_icmp_ge (tgt := 59) hx hb d_15_7_36 (by decide) (fun c9 => ?_) (fun c9 => absurd (by decide) c9)
    refine lv_aload_n hx hb d_15_7_59 rfl (lv_at hl 2 rfl) ?_
    refine q_get (ci := 14) (j := 8) (v := .int 19) C0 V i_DR rfl rfl hO0 (by decide) w_2011 rfl d_15_7_60 ?_
    refine lv_if_ne (tgt := 81) hx hb d_15_7_63 (by decide) (fun c10 => ?_) (fun c10 => absurd c10 (by decide))
    refine lv_aload_n hx hb d_15_7_81 rfl (lv_at hl 2 rfl) ?_
    refine lv_aload_n hx hb d_15_7_82 rfl (lv_at hl 2 rfl) ?_
    refine q_get (ci := 14) (j := 8) (v := .int 19) C0 V i_DR rfl rfl hO0 (by decide) w_2011 rfl d_15_7_83 ?_
    refine lv_iload_n hx hb d_15_7_86 rfl (lv_at hl 1 rfl) ?_
    refine q_ti (v := 18) (q_Ieq (x := lx1.toInt) (y := 18) rfl (by decide) (by have t1 : 19 ≤ (lx1.toInt + 1) := by { have e1 : (19 : Int32).toInt = 19 := (by decide); have e2 : ((lx1 + 1) : Int32).toInt = (lx1.toInt + 1) := (q_addI (x := lx1.toInt) (y := 1) rfl (by decide) (by omega) (by omega)); have e3 := q_leI c5; omega }; omega)) ?_
    refine lv_isub hx hb d_15_7_87 ?_
    refine q_ti (v := 1) (by decide) ?_
    refine q_put (ci := 14) (j := 8) (v := .int 1) (ty := .int) C0 V i_DR o_DR n_DR rfl rfl hO0 (by decide) w_2011 rfl rfl rfl rfl (Nat.le_of_ble_eq_true rfl) d_15_7_88 (fun H locs w11 hu12 hO0 V => ?_)
    replace hO0 : w11[kO0]? = some (qO0, .inr (14, [.int 0, .ref qA1, .int 0, .ref qA2, .ref qA3, .ref qA4, .ref qA5, .ref qA6, .int 1, .long 0, .int 0, .int 0, .ref qA7, .int 0, .ref qA8, .int 0, .ref qA9, .int 0, .ref qA10, .int 0, .int 2])) := hO0
    replace hF := q_us hF hu12 (.head _)
    refine lv_aload_n hx hb d_15_7_91 rfl (lv_at hl 2 rfl) ?_
    refine lv_aload_n hx hb d_15_7_92 rfl (lv_at hl 2 rfl) ?_
    refine q_get (ci := 14) (j := 11) (v := .int 0) C0 V i_DR rfl rfl hO0 (by decide) w_2014 rfl d_15_7_93 ?_
    refine lv_if_eq (tgt := 112) hx hb d_15_7_96 (by decide) (fun c13 => ?_) (fun c13 => absurd (by decide) c13)
    refine lv_iconst (v := 0) hx hb d_15_7_112 (by decide) ?_
    refine q_put (ci := 14) (j := 11) (v := .int 0) (ty := .boolean) C0 V i_DR o_DR n_DR rfl rfl hO0 (by decide) w_2014 rfl rfl rfl rfl (Nat.le_of_ble_eq_true rfl) d_15_7_113 (fun H locs w14 hu15 hO0 V => ?_)
    replace hO0 : w14[kO0]? = some (qO0, .inr (14, [.int 0, .ref qA1, .int 0, .ref qA2, .ref qA3, .ref qA4, .ref qA5, .ref qA6, .int 1, .long 0, .int 0, .int 0, .ref qA7, .int 0, .ref qA8, .int 0, .ref qA9, .int 0, .ref qA10, .int 0, .int 2])) := hO0
    replace hF := q_us hF hu15 (.head _)
    replace hA6 := (hu15 _ n_A6_O0).trans ((hu12 _ n_A6_O0).trans (hA6))
    exact q_retv C0 V (Or.inl ⟨hF, hO0, hA6⟩) d_15_7_116
  ·
    refine lv_aload_n hx hb d_15_7_12 rfl (lv_at hl 1 rfl) ?_
    refine q_get (ci := 14) (j := 7) (v := .ref qA6) C0 V i_DR rfl rfl hO0 (by decide) w_2010 rfl d_15_7_13 ?_
    refine lv_iload_n hx hb d_15_7_16 rfl (lv_at hl 0 rfl) ?_
    refine q_iald C0 V hA6 (q_ix (x := lx1.toInt) rfl (by have t1 : (lx1.toInt + 1) < 19 := by { have e1 : (19 : Int32).toInt = 19 := (by decide); have e2 : ((lx1 + 1) : Int32).toInt = (lx1.toInt + 1) := (q_addI (x := lx1.toInt) (y := 1) rfl (by decide) (by omega) (by omega)); have e3 := q_nleI c5; omega }; omega) (by have t1 : (lx1.toInt + 1) < 19 := by { have e1 : (19 : Int32).toInt = 19 := (by decide); have e2 : ((lx1 + 1) : Int32).toInt = (lx1.toInt + 1) := (q_addI (x := lx1.toInt) (y := 1) rfl (by decide) (by omega) (by omega)); have e3 := q_nleI c5; omega }; omega)) d_15_7_17 ?_
    refine lv_if_ne (tgt := 27) hx hb d_15_7_18 (by decide) (fun c16 => ?_) (fun c16 => ?_)
    ·
      refine lv_iconst (v := 0) hx hb d_15_7_27 (by decide) ?_
      refine lv_istore_n (lv' := [(2, .int 0), (1, .int lx1), (0, .ref qO0)]) hx hb d_15_7_28 rfl hl (by decide) rfl (fun ls hl => ?_)
      refine q_loop (X := Int32 × (Nat → Int32)) (fun z H locs ls w19 => (0 ≤ z.1.toInt ∧ (z.1.toInt ≤ (19 - lx1.toInt) ∨ z.1.toInt = 0)) ∧ q_Wd D g (va_A ws sz) s w19 H locs ∧ lv_has ls 3 [(2, .int z.1), (1, .int lx1), (0, .ref qO0)] ∧ q_un ws w19 [kO0, kA6] ∧ w19[kO0]? = some (qO0, .inr (14, [.int 0, .ref qA1, .int 0, .ref qA2, .ref qA3, .ref qA4, .ref qA5, .ref qA6, .int 19, .long 0, .int 0, .int 0, .ref qA7, .int 0, .ref qA8, .int 0, .ref qA9, .int 0, .ref qA10, .int 0, .int 2])) ∧ w19[kA6]? = some (qA6, .inl (g 0, 4400, .inl z.2))) (fun z => ((19 - lx1.toInt) - z.1.toInt).toNat) ?_ ((0 : Int32), (f1 : (Nat → Int32))) _ _ _ w2 ⟨⟨(by dsimp only; decide), Or.inr (by dsimp only; decide)⟩, V, hl, hF, hO0, hA6⟩
      rintro ⟨lx17, lx18⟩ H locs ls w19 ⟨i20, V, hl, hF, hO0, hA6⟩ ih21
      replace i20 : 0 ≤ lx17.toInt ∧ (lx17.toInt ≤ (19 - lx1.toInt) ∨ lx17.toInt = 0) := i20
      replace hl : lv_has ls 3 [(2, .int lx17), (1, .int lx1), (0, .ref qO0)] := hl
      replace hO0 : w19[kO0]? = some (qO0, .inr (14, [.int 0, .ref qA1, .int 0, .ref qA2, .ref qA3, .ref qA4, .ref qA5, .ref qA6, .int 19, .long 0, .int 0, .int 0, .ref qA7, .int 0, .ref qA8, .int 0, .ref qA9, .int 0, .ref qA10, .int 0, .int 2])) := hO0
      replace hA6 : w19[kA6]? = some (qA6, .inl (g 0, 4400, .inl lx18)) := hA6
      refine lv_iload_n hx hb d_15_7_29 rfl (lv_at hl 0 rfl) ?_
      refine lv_iload_n hx hb d_15_7_30 rfl (lv_at hl 1 rfl) ?_
      refine lv_iadd hx hb d_15_7_31 ?_
      refine lv_aload_n hx hb d_15_7_32 rfl (lv_at hl 2 rfl) ?_
      refine q_get (ci := 14) (j := 8) (v := .int 19) C0 V i_DR rfl rfl hO0 (by decide) w_2011 rfl d_15_7_33 ?_
      refine lv_icmp_ge (tgt := 59) hx hb d_15_7_36 (by decide) (fun c22 => ?_) (fun c22 => ?_)
      ·
        refine lv_aload_n hx hb d_15_7_59 rfl (lv_at hl 2 rfl) ?_
        refine q_get (ci := 14) (j := 8) (v := .int 19) C0 V i_DR rfl rfl hO0 (by decide) w_2011 rfl d_15_7_60 ?_
        refine lv_if_ne (tgt := 81) hx hb d_15_7_63 (by decide) (fun c23 => ?_) (fun c23 => absurd c23 (by decide))
        refine lv_aload_n hx hb d_15_7_81 rfl (lv_at hl 2 rfl) ?_
        refine lv_aload_n hx hb d_15_7_82 rfl (lv_at hl 2 rfl) ?_
        refine q_get (ci := 14) (j := 8) (v := .int 19) C0 V i_DR rfl rfl hO0 (by decide) w_2011 rfl d_15_7_83 ?_
        refine lv_iload_n hx hb d_15_7_86 rfl (lv_at hl 1 rfl) ?_
        refine lv_isub hx hb d_15_7_87 ?_
        refine q_put (ci := 14) (j := 8) (v := .int (19 - lx1)) (ty := .int) C0 V i_DR o_DR n_DR rfl rfl hO0 (by decide) w_2011 rfl rfl rfl rfl (Nat.le_of_ble_eq_true rfl) d_15_7_88 (fun H locs w24 hu25 hO0 V => ?_)
        replace hO0 : w24[kO0]? = some (qO0, .inr (14, [.int 0, .ref qA1, .int 0, .ref qA2, .ref qA3, .ref qA4, .ref qA5, .ref qA6, .int (19 - lx1), .long 0, .int 0, .int 0, .ref qA7, .int 0, .ref qA8, .int 0, .ref qA9, .int 0, .ref qA10, .int 0, .int 2])) := hO0
        replace hF := q_us hF hu25 (.head _)
        refine lv_aload_n hx hb d_15_7_91 rfl (lv_at hl 2 rfl) ?_
        refine lv_aload_n hx hb d_15_7_92 rfl (lv_at hl 2 rfl) ?_
        refine q_get (ci := 14) (j := 11) (v := .int 0) C0 V i_DR rfl rfl hO0 (by decide) w_2014 rfl d_15_7_93 ?_
        refine lv_if_eq (tgt := 112) hx hb d_15_7_96 (by decide) (fun c26 => ?_) (fun c26 => absurd (by decide) c26)
        refine lv_iconst (v := 0) hx hb d_15_7_112 (by decide) ?_
        refine q_put (ci := 14) (j := 11) (v := .int 0) (ty := .boolean) C0 V i_DR o_DR n_DR rfl rfl hO0 (by decide) w_2014 rfl rfl rfl rfl (Nat.le_of_ble_eq_true rfl) d_15_7_113 (fun H locs w27 hu28 hO0 V => ?_)
        replace hO0 : w27[kO0]? = some (qO0, .inr (14, [.int 0, .ref qA1, .int 0, .ref qA2, .ref qA3, .ref qA4, .ref qA5, .ref qA6, .int (19 - lx1), .long 0, .int 0, .int 0, .ref qA7, .int 0, .ref qA8, .int 0, .ref qA9, .int 0, .ref qA10, .int 0, .int 2])) := hO0
        replace hF := q_us hF hu28 (.head _)
        replace hA6 := (hu28 _ n_A6_O0).trans ((hu25 _ n_A6_O0).trans (hA6))
        exact q_retv C0 V (Or.inr (⟨lx1, lx18, c5, c16, (q_Ile (x := 0) (y := lx1.toInt) (by decide) rfl (by have t1 : (lx1.toInt + 1) < 19 := by { have e1 : (19 : Int32).toInt = 19 := (by decide); have e2 : ((lx1 + 1) : Int32).toInt = (lx1.toInt + 1) := (q_addI (x := lx1.toInt) (y := 1) rfl (by decide) (by omega) (by omega)); have e3 := q_nleI c5; omega }; have t2 : 19 ≤ (lx17.toInt + lx1.toInt) := by { have e1 : (19 : Int32).toInt = 19 := (by decide); have e2 : ((lx17 + lx1) : Int32).toInt = (lx17.toInt + lx1.toInt) := (q_addI (x := lx17.toInt) (y := lx1.toInt) rfl rfl (by omega) (by omega)); have e3 := q_leI c22; omega }; omega)), (q_Ile (x := lx1.toInt) (y := 17) rfl (by decide) (by have t1 : (lx1.toInt + 1) < 19 := by { have e1 : (19 : Int32).toInt = 19 := (by decide); have e2 : ((lx1 + 1) : Int32).toInt = (lx1.toInt + 1) := (q_addI (x := lx1.toInt) (y := 1) rfl (by decide) (by omega) (by omega)); have e3 := q_nleI c5; omega }; have t2 : 19 ≤ (lx17.toInt + lx1.toInt) := by { have e1 : (19 : Int32).toInt = 19 := (by decide); have e2 : ((lx17 + lx1) : Int32).toInt = (lx17.toInt + lx1.toInt) := (q_addI (x := lx17.toInt) (y := lx1.toInt) rfl rfl (by omega) (by omega)); have e3 := q_leI c22; omega }; omega)), hF, hO0, hA6⟩)) d_15_7_116
      ·
        refine lv_aload_n hx hb d_15_7_39 rfl (lv_at hl 2 rfl) ?_
        refine q_get (ci := 14) (j := 7) (v := .ref qA6) C0 V i_DR rfl rfl hO0 (by decide) w_2010 rfl d_15_7_40 ?_
        refine lv_iload_n hx hb d_15_7_43 rfl (lv_at hl 0 rfl) ?_
        refine lv_aload_n hx hb d_15_7_44 rfl (lv_at hl 2 rfl) ?_
        refine q_get (ci := 14) (j := 7) (v := .ref qA6) C0 V i_DR rfl rfl hO0 (by decide) w_2010 rfl d_15_7_45 ?_
        refine lv_iload_n hx hb d_15_7_48 rfl (lv_at hl 0 rfl) ?_
        refine lv_iload_n hx hb d_15_7_49 rfl (lv_at hl 1 rfl) ?_
        refine lv_iadd hx hb d_15_7_50 ?_
        refine q_iald C0 V hA6 (q_ix (x := (lx17.toInt + lx1.toInt)) (q_addI (x := lx17.toInt) (y := lx1.toInt) rfl rfl (by have t1 : (lx1.toInt + 1) < 19 := by { have e1 : (19 : Int32).toInt = 19 := (by decide); have e2 : ((lx1 + 1) : Int32).toInt = (lx1.toInt + 1) := (q_addI (x := lx1.toInt) (y := 1) rfl (by decide) (by omega) (by omega)); have e3 := q_nleI c5; omega }; have t2 : (lx17.toInt + lx1.toInt) < 19 := by { have e1 : (19 : Int32).toInt = 19 := (by decide); have e2 : ((lx17 + lx1) : Int32).toInt = (lx17.toInt + lx1.toInt) := (q_addI (x := lx17.toInt) (y := lx1.toInt) rfl rfl (by omega) (by omega)); have e3 := q_nleI c22; omega }; omega) (by have t1 : (lx1.toInt + 1) < 19 := by { have e1 : (19 : Int32).toInt = 19 := (by decide); have e2 : ((lx1 + 1) : Int32).toInt = (lx1.toInt + 1) := (q_addI (x := lx1.toInt) (y := 1) rfl (by decide) (by omega) (by omega)); have e3 := q_nleI c5; omega }; have t2 : (lx17.toInt + lx1.toInt) < 19 := by { have e1 : (19 : Int32).toInt = 19 := (by decide); have e2 : ((lx17 + lx1) : Int32).toInt = (lx17.toInt + lx1.toInt) := (q_addI (x := lx17.toInt) (y := lx1.toInt) rfl rfl (by omega) (by omega)); have e3 := q_nleI c22; omega }; omega)) (by have t1 : (lx1.toInt + 1) < 19 := by { have e1 : (19 : Int32).toInt = 19 := (by decide); have e2 : ((lx1 + 1) : Int32).toInt = (lx1.toInt + 1) := (q_addI (x := lx1.toInt) (y := 1) rfl (by decide) (by omega) (by omega)); have e3 := q_nleI c5; omega }; have t2 : (lx17.toInt + lx1.toInt) < 19 := by { have e1 : (19 : Int32).toInt = 19 := (by decide); have e2 : ((lx17 + lx1) : Int32).toInt = (lx17.toInt + lx1.toInt) := (q_addI (x := lx17.toInt) (y := lx1.toInt) rfl rfl (by omega) (by omega)); have e3 := q_nleI c22; omega }; omega) (by have t1 : (lx1.toInt + 1) < 19 := by { have e1 : (19 : Int32).toInt = 19 := (by decide); have e2 : ((lx1 + 1) : Int32).toInt = (lx1.toInt + 1) := (q_addI (x := lx1.toInt) (y := 1) rfl (by decide) (by omega) (by omega)); have e3 := q_nleI c5; omega }; have t2 : (lx17.toInt + lx1.toInt) < 19 := by { have e1 : (19 : Int32).toInt = 19 := (by decide); have e2 : ((lx17 + lx1) : Int32).toInt = (lx17.toInt + lx1.toInt) := (q_addI (x := lx17.toInt) (y := lx1.toInt) rfl rfl (by omega) (by omega)); have e3 := q_nleI c22; omega }; omega)) d_15_7_51 ?_
        refine q_iast C0 V hA6 (q_ix (x := lx17.toInt) rfl (by have t1 : (lx1.toInt + 1) < 19 := by { have e1 : (19 : Int32).toInt = 19 := (by decide); have e2 : ((lx1 + 1) : Int32).toInt = (lx1.toInt + 1) := (q_addI (x := lx1.toInt) (y := 1) rfl (by decide) (by omega) (by omega)); have e3 := q_nleI c5; omega }; have t2 : (lx17.toInt + lx1.toInt) < 19 := by { have e1 : (19 : Int32).toInt = 19 := (by decide); have e2 : ((lx17 + lx1) : Int32).toInt = (lx17.toInt + lx1.toInt) := (q_addI (x := lx17.toInt) (y := lx1.toInt) rfl rfl (by omega) (by omega)); have e3 := q_nleI c22; omega }; omega) (by have t1 : (lx1.toInt + 1) < 19 := by { have e1 : (19 : Int32).toInt = 19 := (by decide); have e2 : ((lx1 + 1) : Int32).toInt = (lx1.toInt + 1) := (q_addI (x := lx1.toInt) (y := 1) rfl (by decide) (by omega) (by omega)); have e3 := q_nleI c5; omega }; have t2 : (lx17.toInt + lx1.toInt) < 19 := by { have e1 : (19 : Int32).toInt = 19 := (by decide); have e2 : ((lx17 + lx1) : Int32).toInt = (lx17.toInt + lx1.toInt) := (q_addI (x := lx17.toInt) (y := lx1.toInt) rfl rfl (by omega) (by omega)); have e3 := q_nleI c22; omega }; omega)) d_15_7_52 (fun H locs w29 hu30 hA6 V => ?_)
        replace hA6 : w29[kA6]? = some (qA6, .inl (g 0, 4400, .inl (upd lx18 lx17.toNatClampNeg (lx18 (lx17 + lx1).toNatClampNeg)))) := hA6
        replace hF := q_us hF hu30 (.tail _ (.head _))
        refine lv_iinc (v := lx17 + 1) (lv' := [(2, .int (lx17 + 1)), (1, .int lx1), (0, .ref qO0)]) hx hb d_15_7_53 hl (k := 0) rfl (rfl) (by decide) rfl (fun ls hl => ?_)
        refine lv_goto (tgt := 29) hx hb d_15_7_56 (by decide) ?_
        replace hO0 := (hu30 _ n_O0_A6).trans (hO0)
        exact ih21 ((lx17 + 1 : Int32), (upd lx18 lx17.toNatClampNeg (lx18 (lx17 + lx1).toNatClampNeg) : Nat → Int32)) _ _ _ _ (show ((19 - lx1.toInt) - (lx17 + 1).toInt).toNat < ((19 - lx1.toInt) - lx17.toInt).toNat from by have t1 : (lx1.toInt + 1) < 19 := by { have e1 : (19 : Int32).toInt = 19 := (by decide); have e2 : ((lx1 + 1) : Int32).toInt = (lx1.toInt + 1) := (q_addI (x := lx1.toInt) (y := 1) rfl (by decide) (by omega) (by omega)); have e3 := q_nleI c5; omega }; have t2 : (lx17.toInt + lx1.toInt) < 19 := by { have e1 : (19 : Int32).toInt = 19 := (by decide); have e2 : ((lx17 + lx1) : Int32).toInt = (lx17.toInt + lx1.toInt) := (q_addI (x := lx17.toInt) (y := lx1.toInt) rfl rfl (by omega) (by omega)); have e3 := q_nleI c22; omega }; have e : (lx17 + 1).toInt = (lx17.toInt + 1) := (q_addI (x := lx17.toInt) (y := 1) rfl (by decide) (by have t1 : (lx1.toInt + 1) < 19 := by { have e1 : (19 : Int32).toInt = 19 := (by decide); have e2 : ((lx1 + 1) : Int32).toInt = (lx1.toInt + 1) := (q_addI (x := lx1.toInt) (y := 1) rfl (by decide) (by omega) (by omega)); have e3 := q_nleI c5; omega }; have t2 : (lx17.toInt + lx1.toInt) < 19 := by { have e1 : (19 : Int32).toInt = 19 := (by decide); have e2 : ((lx17 + lx1) : Int32).toInt = (lx17.toInt + lx1.toInt) := (q_addI (x := lx17.toInt) (y := lx1.toInt) rfl rfl (by omega) (by omega)); have e3 := q_nleI c22; omega }; omega) (by have t1 : (lx1.toInt + 1) < 19 := by { have e1 : (19 : Int32).toInt = 19 := (by decide); have e2 : ((lx1 + 1) : Int32).toInt = (lx1.toInt + 1) := (q_addI (x := lx1.toInt) (y := 1) rfl (by decide) (by omega) (by omega)); have e3 := q_nleI c5; omega }; have t2 : (lx17.toInt + lx1.toInt) < 19 := by { have e1 : (19 : Int32).toInt = 19 := (by decide); have e2 : ((lx17 + lx1) : Int32).toInt = (lx17.toInt + lx1.toInt) := (q_addI (x := lx17.toInt) (y := lx1.toInt) rfl rfl (by omega) (by omega)); have e3 := q_nleI c22; omega }; omega)); omega) ⟨(show 0 ≤ (lx17 + 1).toInt ∧ ((lx17 + 1).toInt ≤ (19 - lx1.toInt) ∨ (lx17 + 1).toInt = 0) from by have t1 : (lx1.toInt + 1) < 19 := by { have e1 : (19 : Int32).toInt = 19 := (by decide); have e2 : ((lx1 + 1) : Int32).toInt = (lx1.toInt + 1) := (q_addI (x := lx1.toInt) (y := 1) rfl (by decide) (by omega) (by omega)); have e3 := q_nleI c5; omega }; have t2 : (lx17.toInt + lx1.toInt) < 19 := by { have e1 : (19 : Int32).toInt = 19 := (by decide); have e2 : ((lx17 + lx1) : Int32).toInt = (lx17.toInt + lx1.toInt) := (q_addI (x := lx17.toInt) (y := lx1.toInt) rfl rfl (by omega) (by omega)); have e3 := q_nleI c22; omega }; have e : (lx17 + 1).toInt = (lx17.toInt + 1) := (q_addI (x := lx17.toInt) (y := 1) rfl (by decide) (by have t1 : (lx1.toInt + 1) < 19 := by { have e1 : (19 : Int32).toInt = 19 := (by decide); have e2 : ((lx1 + 1) : Int32).toInt = (lx1.toInt + 1) := (q_addI (x := lx1.toInt) (y := 1) rfl (by decide) (by omega) (by omega)); have e3 := q_nleI c5; omega }; have t2 : (lx17.toInt + lx1.toInt) < 19 := by { have e1 : (19 : Int32).toInt = 19 := (by decide); have e2 : ((lx17 + lx1) : Int32).toInt = (lx17.toInt + lx1.toInt) := (q_addI (x := lx17.toInt) (y := lx1.toInt) rfl rfl (by omega) (by omega)); have e3 := q_nleI c22; omega }; omega) (by have t1 : (lx1.toInt + 1) < 19 := by { have e1 : (19 : Int32).toInt = 19 := (by decide); have e2 : ((lx1 + 1) : Int32).toInt = (lx1.toInt + 1) := (q_addI (x := lx1.toInt) (y := 1) rfl (by decide) (by omega) (by omega)); have e3 := q_nleI c5; omega }; have t2 : (lx17.toInt + lx1.toInt) < 19 := by { have e1 : (19 : Int32).toInt = 19 := (by decide); have e2 : ((lx17 + lx1) : Int32).toInt = (lx17.toInt + lx1.toInt) := (q_addI (x := lx17.toInt) (y := lx1.toInt) rfl rfl (by omega) (by omega)); have e3 := q_nleI c22; omega }; omega)); omega), V, q_lw hl (q_lw1 0 rfl (q_lw1 1 rfl (q_lw1 2 rfl q_lw0))), hF, hO0, hA6⟩
    ·
      refine lv_iinc (v := lx1 + 1) (lv' := [(1, .int (lx1 + 1)), (0, .ref qO0)]) hx hb d_15_7_21 hl (k := 0) rfl (rfl) (by decide) rfl (fun ls hl => ?_)
      refine lv_goto (tgt := 2) hx hb d_15_7_24 (by decide) ?_
      exact ih4 ((lx1 + 1 : Int32)) _ _ _ _ (show (18 - (lx1 + 1).toInt).toNat < (18 - lx1.toInt).toNat from by have t1 : (lx1.toInt + 1) < 19 := by { have e1 : (19 : Int32).toInt = 19 := (by decide); have e2 : ((lx1 + 1) : Int32).toInt = (lx1.toInt + 1) := (q_addI (x := lx1.toInt) (y := 1) rfl (by decide) (by omega) (by omega)); have e3 := q_nleI c5; omega }; have e : (lx1 + 1).toInt = (lx1.toInt + 1) := (q_addI (x := lx1.toInt) (y := 1) rfl (by decide) (by have t1 : (lx1.toInt + 1) < 19 := by { have e1 : (19 : Int32).toInt = 19 := (by decide); have e2 : ((lx1 + 1) : Int32).toInt = (lx1.toInt + 1) := (q_addI (x := lx1.toInt) (y := 1) rfl (by decide) (by omega) (by omega)); have e3 := q_nleI c5; omega }; omega) (by have t1 : (lx1.toInt + 1) < 19 := by { have e1 : (19 : Int32).toInt = 19 := (by decide); have e2 : ((lx1 + 1) : Int32).toInt = (lx1.toInt + 1) := (q_addI (x := lx1.toInt) (y := 1) rfl (by decide) (by omega) (by omega)); have e3 := q_nleI c5; omega }; omega)); omega) ⟨(show 0 ≤ (lx1 + 1).toInt ∧ ((lx1 + 1).toInt ≤ 18 ∨ (lx1 + 1).toInt = 0) from by have t1 : (lx1.toInt + 1) < 19 := by { have e1 : (19 : Int32).toInt = 19 := (by decide); have e2 : ((lx1 + 1) : Int32).toInt = (lx1.toInt + 1) := (q_addI (x := lx1.toInt) (y := 1) rfl (by decide) (by omega) (by omega)); have e3 := q_nleI c5; omega }; have e : (lx1 + 1).toInt = (lx1.toInt + 1) := (q_addI (x := lx1.toInt) (y := 1) rfl (by decide) (by have t1 : (lx1.toInt + 1) < 19 := by { have e1 : (19 : Int32).toInt = 19 := (by decide); have e2 : ((lx1 + 1) : Int32).toInt = (lx1.toInt + 1) := (q_addI (x := lx1.toInt) (y := 1) rfl (by decide) (by omega) (by omega)); have e3 := q_nleI c5; omega }; omega) (by have t1 : (lx1.toInt + 1) < 19 := by { have e1 : (19 : Int32).toInt = 19 := (by decide); have e2 : ((lx1 + 1) : Int32).toInt = (lx1.toInt + 1) := (q_addI (x := lx1.toInt) (y := 1) rfl (by decide) (by omega) (by omega)); have e3 := q_nleI c5; omega }; omega)); omega), V, q_lw hl (q_lw1 0 rfl (q_lw1 1 rfl q_lw0)), hF, hO0, hA6⟩
set_option maxRecDepth 100000 in
set_option maxHeartbeats 4000000 in
theorem c_DR_store_7 (l : Launch) (D : va_G) (g : Nat → ClassId) (ws : va_W) (kO0 kA2 kA3 kA4 kA5 kA6 qO0 qA1 qA2 qA3 qA4 qA5 qA6 qA7 qA8 qA9 qA10 : Nat) (x1 : Int32) (f2 : Nat → Int32) (hO0 : ws[kO0]? = some (qO0, .inr (14, [.int 0, .ref qA1, .int 0, .ref qA2, .ref qA3, .ref qA4, .ref qA5, .ref qA6, .int 19, .long 0, .int 0, .int 0, .ref qA7, .int 0, .ref qA8, .int 0, .ref qA9, .int 0, .ref qA10, .int 0, .int 2]))) (hA2 : ws[kA2]? = some (qA2, .inl (g 0, 10000, .inl (fun _ => 0)))) (hA3 : ws[kA3]? = some (qA3, .inl (g 0, 10, .inl (upd (upd (upd (upd (upd (upd (upd (upd (upd (upd (fun _ => 0) 0 1) 1 1) 2 1) 3 1) 4 1) 5 1) 6 1) 7 1) 8 1) 9 1)))) (hA4 : ws[kA4]? = some (qA4, .inl (g 3, 10, .inl (fun _ => 0)))) (hA5 : ws[kA5]? = some (qA5, .inl (g 0, 10, .inl (fun _ => 0)))) (hA6 : ws[kA6]? = some (qA6, .inl (g 0, 4400, .inl f2))) (n_A2_A3 : kA2 ≠ kA3) (n_A2_A4 : kA2 ≠ kA4) (n_A2_A5 : kA2 ≠ kA5) (n_A2_A6 : kA2 ≠ kA6) (n_A3_A4 : kA3 ≠ kA4) (n_A3_A5 : kA3 ≠ kA5) (n_A3_A6 : kA3 ≠ kA6) (n_A4_A5 : kA4 ≠ kA5) (n_A4_A6 : kA4 ≠ kA6) (n_A5_A6 : kA5 ≠ kA6) (x1lo : 0 ≤ x1) (x1hi : x1 ≤ 9) : q_mV l y_DR_store prog_15_method_8_code 3 2 0 0 D g [.ref qO0, .int x1] ws (fun u => (q_un ws u [kO0, kA2, kA3, kA4, kA5, kA6] ∧ u[kO0]? = some (qO0, .inr (14, [.int 0, .ref qA1, .int 0, .ref qA2, .ref qA3, .ref qA4, .ref qA5, .ref qA6, .int 1, .long 0, .int 0, .int 0, .ref qA7, .int 0, .ref qA8, .int 0, .ref qA9, .int 0, .ref qA10, .int 0, .int 2])) ∧ u[kA2]? = some (qA2, .inl (g 0, 10000, .inl (upd (fun _ => 0) ((1000 * x1).toNatClampNeg) (f2 (18 : Int32).toNatClampNeg)))) ∧ u[kA3]? = some (qA3, .inl (g 0, 10, .inl (upd (upd (upd (upd (upd (upd (upd (upd (upd (upd (upd (fun _ => 0) 0 1) 1 1) 2 1) 3 1) 4 1) 5 1) 6 1) 7 1) 8 1) 9 1) x1.toNatClampNeg 1))) ∧ u[kA4]? = some (qA4, .inl (g 3, 10, .inl (fun _ => 0))) ∧ u[kA5]? = some (qA5, .inl (g 0, 10, .inl (fun _ => 0))) ∧ u[kA6]? = some (qA6, .inl (g 0, 4400, .inl (upd f2 0 (f2 (18 : Int32).toNatClampNeg))))) ∨ (∃ (ex0 : Int32) (ex1 : Nat → Int32) (ex2 : Nat → Int32), ¬ 19 ≤ (ex0 + 1) ∧ ¬ (f2 ex0.toNatClampNeg) = 0 ∧ 0 ≤ ex0 ∧ ex0 ≤ 17 ∧ q_un ws u [kO0, kA2, kA3, kA4, kA5, kA6] ∧ u[kO0]? = some (qO0, .inr (14, [.int 0, .ref qA1, .int 0, .ref qA2, .ref qA3, .ref qA4, .ref qA5, .ref qA6, .int (19 - ex0), .long 0, .int 0, .int 0, .ref qA7, .int 0, .ref qA8, .int 0, .ref qA9, .int 0, .ref qA10, .int 0, .int 2])) ∧ u[kA2]? = some (qA2, .inl (g 0, 10000, .inl ex1)) ∧ u[kA3]? = some (qA3, .inl (g 0, 10, .inl (upd (upd (upd (upd (upd (upd (upd (upd (upd (upd (upd (fun _ => 0) 0 1) 1 1) 2 1) 3 1) 4 1) 5 1) 6 1) 7 1) 8 1) 9 1) x1.toNatClampNeg (19 - ex0)))) ∧ u[kA4]? = some (qA4, .inl (g 3, 10, .inl (fun _ => 0))) ∧ u[kA5]? = some (qA5, .inl (g 0, 10, .inl (fun _ => 0))) ∧ u[kA6]? = some (qA6, .inl (g 0, 4400, .inl ex2)))) := by
  intro sz
  refine q_into (by decide) (Nat.le_of_ble_eq_true rfl) ?_
  intro p e s m below meth c ls hsz C0 V hl
  have hx := C0.1
  have hb := C0.2.1
  have hl : lv_has ls 3 [(0, .ref qO0), (1, .int x1)] := hl
  have n_A2_O0 := q_df hA2 hO0
  have n_A3_A2 := Ne.symm n_A2_A3
  have n_A3_O0 := q_df hA3 hO0
  have n_A4_A2 := Ne.symm n_A2_A4
  have n_A4_A3 := Ne.symm n_A3_A4
  have n_A4_O0 := q_df hA4 hO0
  have n_A5_A2 := Ne.symm n_A2_A5
  have n_A5_A3 := Ne.symm n_A3_A5
  have n_A5_A4 := Ne.symm n_A4_A5
  have n_A5_O0 := q_df hA5 hO0
  have n_A6_A2 := Ne.symm n_A2_A6
  have n_A6_A3 := Ne.symm n_A3_A6
  have n_A6_A4 := Ne.symm n_A4_A6
  have n_A6_A5 := Ne.symm n_A5_A6
  have n_O0_A2 := Ne.symm (q_df hA2 hO0)
  have n_O0_A3 := Ne.symm (q_df hA3 hO0)
  have n_O0_A4 := Ne.symm (q_df hA4 hO0)
  have n_O0_A5 := Ne.symm (q_df hA5 hO0)
  have hF : q_un ws ws [kO0, kA2, kA3, kA4, kA5, kA6] := q_u0
  refine lv_aload_n hx hb d_15_8_0 rfl (lv_at hl 0 rfl) ?_
  refine q_gov V (q_runV (As := []) (rest := []) (d := 1) (mc := 0) (ms := 0) (ci := 14) C0 V rfl LV_DR_59 (c_DR_trim_7 l D g ws kO0 kA6 qO0 qA1 qA2 qA3 qA4 qA5 qA6 qA7 qA8 qA9 qA10 f2 hO0 hA6 _) rfl rfl hO0 rfl hl.1 rfl (Nat.le_of_ble_eq_true rfl) ⟨by decide, by decide⟩ ⟨Nat.le_of_ble_eq_true rfl, Nat.le_of_ble_eq_true rfl⟩ d_15_8_1) (fun u2 H locs hp1 V => ?_)
  rcases hp1 with ⟨hg3, hO0, hA6⟩ | ⟨y8, y9, c4, c5, f6, f7, hg10, hO0, hA6⟩
  ·
    replace hF := q_uc hF hg3 (q_sc (.head _) (q_sc (List.mem_of_getElem? (i := 5) rfl) (fun _ h => absurd h List.not_mem_nil)))
    refine lv_aload_n hx hb d_15_8_4 rfl (lv_at hl 0 rfl) ?_
    refine q_get (ci := 14) (j := 8) (v := .int 1) C0 V i_DR rfl rfl hO0 (by decide) w_2011 rfl d_15_8_5 ?_
    refine lv_sipush (v := 1000) hx hb d_15_8_8 (by decide) ?_
    refine lv_icmp_gt (tgt := 36) hx hb d_15_8_11 (by decide) (fun c11 => absurd c11 (by decide)) (fun c11 => ?_)
    refine lv_aload_n hx hb d_15_8_14 rfl (lv_at hl 0 rfl) ?_
    refine q_get (ci := 14) (j := 9) (v := .long 0) C0 V i_DR rfl rfl hO0 (by decide) w_2012 rfl d_15_8_15 ?_
    refine q_ldc2 C0 rfl w_2417 d_15_8_18 ?_
    refine W.lcmp hx hb d_15_8_21 ?_
    refine q_ti (v := 1) (by decide) ?_
    refine lv_if_lt (tgt := 36) hx hb d_15_8_22 (by decide) (fun c12 => absurd c12 (by decide)) (fun c12 => ?_)
    refine lv_aload_n hx hb d_15_8_25 rfl (lv_at hl 0 rfl) ?_
    refine q_get (ci := 14) (j := 9) (v := .long 0) C0 V i_DR rfl rfl hO0 (by decide) w_2012 rfl d_15_8_26 ?_
    refine q_ldc2 C0 rfl w_2418 d_15_8_29 ?_
    refine W.lcmp hx hb d_15_8_32 ?_
    refine q_ti (v := (-1)) (by decide) ?_
    refine lv_if_le (tgt := 45) hx hb d_15_8_33 (by decide) (fun c13 => ?_) (fun c13 => absurd (by decide) c13)
    refine lv_iconst (v := 0) hx hb d_15_8_45 (by decide) ?_
    refine lv_istore_n (lv' := [(2, .int 0), (0, .ref qO0), (1, .int x1)]) hx hb d_15_8_46 rfl hl (by decide) rfl (fun ls hl => ?_)
    refine lv_iload_n hx hb d_15_8_47 rfl (lv_at hl 0 rfl) ?_
    refine lv_aload_n hx hb d_15_8_48 rfl (lv_at hl 1 rfl) ?_
    refine q_get (ci := 14) (j := 8) (v := .int 1) C0 V i_DR rfl rfl hO0 (by decide) w_2011 rfl d_15_8_49 ?_
    refine lv_icmp_ge (tgt := 79) hx hb d_15_8_52 (by decide) (fun c14 => absurd c14 (by decide)) (fun c14 => ?_)
    refine lv_aload_n hx hb d_15_8_55 rfl (lv_at hl 1 rfl) ?_
    refine q_get (ci := 14) (j := 3) (v := .ref qA2) C0 V i_DR rfl rfl hO0 (by decide) w_2002 rfl d_15_8_56 ?_
    refine lv_sipush (v := 1000) hx hb d_15_8_59 (by decide) ?_
    refine lv_iload_n hx hb d_15_8_62 rfl (lv_at hl 2 rfl) ?_
    refine lv_imul hx hb d_15_8_63 ?_
    refine lv_iload_n hx hb d_15_8_64 rfl (lv_at hl 0 rfl) ?_
    refine lv_iadd hx hb d_15_8_65 ?_
    refine q_ti (v := 1000 * x1) (by simp) ?_
    refine lv_aload_n hx hb d_15_8_66 rfl (lv_at hl 1 rfl) ?_
    refine q_get (ci := 14) (j := 7) (v := .ref qA6) C0 V i_DR rfl rfl hO0 (by decide) w_2010 rfl d_15_8_67 ?_
    refine lv_iload_n hx hb d_15_8_70 rfl (lv_at hl 0 rfl) ?_
    refine q_iald C0 V hA6 (by unfold vp_in; decide) d_15_8_71 ?_
    refine q_ti (v := (f2 (18 : Int32).toNatClampNeg)) (by first | rfl | decide | simp [upd, vp_updL, sb_cl0]) ?_
    replace hA2 := (hg3 _ (q_nc n_A2_O0 (q_nc n_A2_A6 List.not_mem_nil))).trans (hA2)
    refine q_iast C0 V hA2 (q_ix (x := (1000 * x1.toInt)) (q_mulI (x := 1000) (y := x1.toInt) (by decide) rfl (by have t1 : 0 ≤ x1.toInt := q_leI x1lo; have t2 : x1.toInt ≤ 9 := q_leI x1hi; omega) (by have t1 : 0 ≤ x1.toInt := q_leI x1lo; have t2 : x1.toInt ≤ 9 := q_leI x1hi; omega)) (by have t1 : 0 ≤ x1.toInt := q_leI x1lo; have t2 : x1.toInt ≤ 9 := q_leI x1hi; omega) (by have t1 : 0 ≤ x1.toInt := q_leI x1lo; have t2 : x1.toInt ≤ 9 := q_leI x1hi; omega)) d_15_8_72 (fun H locs w15 hu16 hA2 V => ?_)
    replace hA2 : w15[kA2]? = some (qA2, .inl (g 0, 10000, .inl (upd (fun _ => 0) ((1000 * x1).toNatClampNeg) (f2 (18 : Int32).toNatClampNeg)))) := hA2
    replace hF := q_us hF hu16 (.tail _ (.head _))
    refine lv_iinc (v := 1) (lv' := [(2, .int 1), (0, .ref qO0), (1, .int x1)]) hx hb d_15_8_73 hl (k := 0) rfl (by decide) (by decide) rfl (fun ls hl => ?_)
    refine lv_goto (tgt := 47) hx hb d_15_8_76 (by decide) ?_
    refine lv_iload_n hx hb d_15_8_47 rfl (lv_at hl 0 rfl) ?_
    refine lv_aload_n hx hb d_15_8_48 rfl (lv_at hl 1 rfl) ?_
    replace hO0 := (hu16 _ n_O0_A2).trans (hO0)
    refine q_get (ci := 14) (j := 8) (v := .int 1) C0 V i_DR rfl rfl hO0 (by decide) w_2011 rfl d_15_8_49 ?_
    refine lv_icmp_ge (tgt := 79) hx hb d_15_8_52 (by decide) (fun c17 => ?_) (fun c17 => absurd (by decide) c17)
    refine lv_aload_n hx hb d_15_8_79 rfl (lv_at hl 1 rfl) ?_
    refine q_get (ci := 14) (j := 4) (v := .ref qA3) C0 V i_DR rfl rfl hO0 (by decide) w_2004 rfl d_15_8_80 ?_
    refine lv_iload_n hx hb d_15_8_83 rfl (lv_at hl 2 rfl) ?_
    refine lv_aload_n hx hb d_15_8_84 rfl (lv_at hl 1 rfl) ?_
    refine q_get (ci := 14) (j := 8) (v := .int 1) C0 V i_DR rfl rfl hO0 (by decide) w_2011 rfl d_15_8_85 ?_
    replace hA3 := (hu16 _ n_A3_A2).trans ((hg3 _ (q_nc n_A3_O0 (q_nc n_A3_A6 List.not_mem_nil))).trans (hA3))
    refine q_iast C0 V hA3 (q_ix (x := x1.toInt) rfl (by have t1 : 0 ≤ x1.toInt := q_leI x1lo; have t2 : x1.toInt ≤ 9 := q_leI x1hi; omega) (by have t1 : 0 ≤ x1.toInt := q_leI x1lo; have t2 : x1.toInt ≤ 9 := q_leI x1hi; omega)) d_15_8_88 (fun H locs w18 hu19 hA3 V => ?_)
    replace hA3 : w18[kA3]? = some (qA3, .inl (g 0, 10, .inl (upd (upd (upd (upd (upd (upd (upd (upd (upd (upd (upd (fun _ => 0) 0 1) 1 1) 2 1) 3 1) 4 1) 5 1) 6 1) 7 1) 8 1) 9 1) x1.toNatClampNeg 1))) := hA3
    replace hF := q_us hF hu19 (.tail _ (.tail _ (.head _)))
    refine lv_aload_n hx hb d_15_8_89 rfl (lv_at hl 1 rfl) ?_
    replace hO0 := (hu19 _ n_O0_A3).trans (hO0)
    refine q_get (ci := 14) (j := 5) (v := .ref qA4) C0 V i_DR rfl rfl hO0 (by decide) w_2006 rfl d_15_8_90 ?_
    refine lv_iload_n hx hb d_15_8_93 rfl (lv_at hl 2 rfl) ?_
    refine lv_aload_n hx hb d_15_8_94 rfl (lv_at hl 1 rfl) ?_
    refine q_get (ci := 14) (j := 11) (v := .int 0) C0 V i_DR rfl rfl hO0 (by decide) w_2014 rfl d_15_8_95 ?_
    replace hA4 := (hu19 _ n_A4_A3).trans ((hu16 _ n_A4_A2).trans ((hg3 _ (q_nc n_A4_O0 (q_nc n_A4_A6 List.not_mem_nil))).trans (hA4)))
    refine q_zast C0 V hA4 (q_ix (x := x1.toInt) rfl (by have t1 : 0 ≤ x1.toInt := q_leI x1lo; have t2 : x1.toInt ≤ 9 := q_leI x1hi; omega) (by have t1 : 0 ≤ x1.toInt := q_leI x1lo; have t2 : x1.toInt ≤ 9 := q_leI x1hi; omega)) d_15_8_98 (fun H locs w20 hu21 hA4 V => ?_)
    replace hA4 := q_re (y := (qA4, .inl (g 3, 10, .inl (fun _ => 0)))) hA4 (q_eI q_upd0)
    replace hA4 : w20[kA4]? = some (qA4, .inl (g 3, 10, .inl (fun _ => 0))) := hA4
    replace hF := q_us hF hu21 (List.mem_of_getElem? (i := 3) rfl)
    refine lv_aload_n hx hb d_15_8_99 rfl (lv_at hl 1 rfl) ?_
    replace hO0 := (hu21 _ n_O0_A4).trans (hO0)
    refine q_get (ci := 14) (j := 6) (v := .ref qA5) C0 V i_DR rfl rfl hO0 (by decide) w_2008 rfl d_15_8_100 ?_
    refine lv_iload_n hx hb d_15_8_103 rfl (lv_at hl 2 rfl) ?_
    refine lv_aload_n hx hb d_15_8_104 rfl (lv_at hl 1 rfl) ?_
    refine q_get (ci := 14) (j := 9) (v := .long 0) C0 V i_DR rfl rfl hO0 (by decide) w_2012 rfl d_15_8_105 ?_
    refine lv_l2i hx hb d_15_8_108 rfl ?_
    refine q_ti (v := 0) (by decide) ?_
    replace hA5 := (hu21 _ n_A5_A4).trans ((hu19 _ n_A5_A3).trans ((hu16 _ n_A5_A2).trans ((hg3 _ (q_nc n_A5_O0 (q_nc n_A5_A6 List.not_mem_nil))).trans (hA5))))
    refine q_iast C0 V hA5 (q_ix (x := x1.toInt) rfl (by have t1 : 0 ≤ x1.toInt := q_leI x1lo; have t2 : x1.toInt ≤ 9 := q_leI x1hi; omega) (by have t1 : 0 ≤ x1.toInt := q_leI x1lo; have t2 : x1.toInt ≤ 9 := q_leI x1hi; omega)) d_15_8_109 (fun H locs w22 hu23 hA5 V => ?_)
    replace hA5 := q_re (y := (qA5, .inl (g 0, 10, .inl (fun _ => 0)))) hA5 (q_eI q_upd0)
    replace hA5 : w22[kA5]? = some (qA5, .inl (g 0, 10, .inl (fun _ => 0))) := hA5
    replace hF := q_us hF hu23 (List.mem_of_getElem? (i := 4) rfl)
    replace hO0 := (hu23 _ n_O0_A5).trans (hO0)
    replace hA2 := (hu23 _ n_A2_A5).trans ((hu21 _ n_A2_A4).trans ((hu19 _ n_A2_A3).trans (hA2)))
    replace hA3 := (hu23 _ n_A3_A5).trans ((hu21 _ n_A3_A4).trans (hA3))
    replace hA4 := (hu23 _ n_A4_A5).trans (hA4)
    replace hA6 := (hu23 _ n_A6_A5).trans ((hu21 _ n_A6_A4).trans ((hu19 _ n_A6_A3).trans ((hu16 _ n_A6_A2).trans (hA6))))
    exact q_retv C0 V (Or.inl ⟨hF, hO0, hA2, hA3, hA4, hA5, hA6⟩) d_15_8_110
  ·
    replace hF := q_uc hF hg10 (q_sc (.head _) (q_sc (List.mem_of_getElem? (i := 5) rfl) (fun _ h => absurd h List.not_mem_nil)))
    refine lv_aload_n hx hb d_15_8_4 rfl (lv_at hl 0 rfl) ?_
    refine q_get (ci := 14) (j := 8) (v := .int (19 - y8)) C0 V i_DR rfl rfl hO0 (by decide) w_2011 rfl d_15_8_5 ?_
    refine lv_sipush (v := 1000) hx hb d_15_8_8 (by decide) ?_
    refine lv_icmp_gt (tgt := 36) hx hb d_15_8_11 (by decide) (fun c24 => absurd c24 (Int32.not_lt.mpr (q_Ile (x := (19 - y8.toInt)) (y := 1000) (q_subI (x := 19) (y := y8.toInt) (by decide) rfl (by have t1 : (y8.toInt + 1) < 19 := by { have e1 : (19 : Int32).toInt = 19 := (by decide); have e2 : ((y8 + 1) : Int32).toInt = (y8.toInt + 1) := (q_addI (x := y8.toInt) (y := 1) rfl (by decide) (by have t1 : 0 ≤ y8.toInt := q_leI f6; have t2 : y8.toInt ≤ 17 := q_leI f7; omega) (by have t1 : 0 ≤ y8.toInt := q_leI f6; have t2 : y8.toInt ≤ 17 := q_leI f7; omega)); have e3 := q_nleI c4; omega }; have t2 : 0 ≤ y8.toInt := q_leI f6; have t3 : y8.toInt ≤ 17 := q_leI f7; omega) (by have t1 : (y8.toInt + 1) < 19 := by { have e1 : (19 : Int32).toInt = 19 := (by decide); have e2 : ((y8 + 1) : Int32).toInt = (y8.toInt + 1) := (q_addI (x := y8.toInt) (y := 1) rfl (by decide) (by have t1 : 0 ≤ y8.toInt := q_leI f6; have t2 : y8.toInt ≤ 17 := q_leI f7; omega) (by have t1 : 0 ≤ y8.toInt := q_leI f6; have t2 : y8.toInt ≤ 17 := q_leI f7; omega)); have e3 := q_nleI c4; omega }; have t2 : 0 ≤ y8.toInt := q_leI f6; have t3 : y8.toInt ≤ 17 := q_leI f7; omega)) (by decide) (by have t1 : (y8.toInt + 1) < 19 := by { have e1 : (19 : Int32).toInt = 19 := (by decide); have e2 : ((y8 + 1) : Int32).toInt = (y8.toInt + 1) := (q_addI (x := y8.toInt) (y := 1) rfl (by decide) (by have t1 : 0 ≤ y8.toInt := q_leI f6; have t2 : y8.toInt ≤ 17 := q_leI f7; omega) (by have t1 : 0 ≤ y8.toInt := q_leI f6; have t2 : y8.toInt ≤ 17 := q_leI f7; omega)); have e3 := q_nleI c4; omega }; have t2 : 0 ≤ y8.toInt := q_leI f6; have t3 : y8.toInt ≤ 17 := q_leI f7; omega)))) (fun c24 => ?_)
    refine lv_aload_n hx hb d_15_8_14 rfl (lv_at hl 0 rfl) ?_
    refine q_get (ci := 14) (j := 9) (v := .long 0) C0 V i_DR rfl rfl hO0 (by decide) w_2012 rfl d_15_8_15 ?_
    refine q_ldc2 C0 rfl w_2417 d_15_8_18 ?_
    refine W.lcmp hx hb d_15_8_21 ?_
    refine q_ti (v := 1) (by decide) ?_
    refine lv_if_lt (tgt := 36) hx hb d_15_8_22 (by decide) (fun c25 => absurd c25 (by decide)) (fun c25 => ?_)
    refine lv_aload_n hx hb d_15_8_25 rfl (lv_at hl 0 rfl) ?_
    refine q_get (ci := 14) (j := 9) (v := .long 0) C0 V i_DR rfl rfl hO0 (by decide) w_2012 rfl d_15_8_26 ?_
    refine q_ldc2 C0 rfl w_2418 d_15_8_29 ?_
    refine W.lcmp hx hb d_15_8_32 ?_
    refine q_ti (v := (-1)) (by decide) ?_
    refine lv_if_le (tgt := 45) hx hb d_15_8_33 (by decide) (fun c26 => ?_) (fun c26 => absurd (by decide) c26)
    refine lv_iconst (v := 0) hx hb d_15_8_45 (by decide) ?_
    refine lv_istore_n (lv' := [(2, .int 0), (0, .ref qO0), (1, .int x1)]) hx hb d_15_8_46 rfl hl (by decide) rfl (fun ls hl => ?_)
    replace hA2 := (hg10 _ (q_nc n_A2_O0 (q_nc n_A2_A6 List.not_mem_nil))).trans (hA2)
    replace hA3 := (hg10 _ (q_nc n_A3_O0 (q_nc n_A3_A6 List.not_mem_nil))).trans (hA3)
    replace hA4 := (hg10 _ (q_nc n_A4_O0 (q_nc n_A4_A6 List.not_mem_nil))).trans (hA4)
    replace hA5 := (hg10 _ (q_nc n_A5_O0 (q_nc n_A5_A6 List.not_mem_nil))).trans (hA5)
    refine q_loop (X := Int32 × (Nat → Int32)) (fun z H locs ls w29 => (0 ≤ z.1.toInt ∧ (z.1.toInt ≤ (19 - y8.toInt) ∨ z.1.toInt = 0)) ∧ q_Wd D g (va_A ws sz) s w29 H locs ∧ lv_has ls 3 [(2, .int z.1), (0, .ref qO0), (1, .int x1)] ∧ q_un ws w29 [kO0, kA2, kA3, kA4, kA5, kA6] ∧ w29[kO0]? = some (qO0, .inr (14, [.int 0, .ref qA1, .int 0, .ref qA2, .ref qA3, .ref qA4, .ref qA5, .ref qA6, .int (19 - y8), .long 0, .int 0, .int 0, .ref qA7, .int 0, .ref qA8, .int 0, .ref qA9, .int 0, .ref qA10, .int 0, .int 2])) ∧ w29[kA2]? = some (qA2, .inl (g 0, 10000, .inl z.2)) ∧ w29[kA3]? = some (qA3, .inl (g 0, 10, .inl (upd (upd (upd (upd (upd (upd (upd (upd (upd (upd (fun _ => 0) 0 1) 1 1) 2 1) 3 1) 4 1) 5 1) 6 1) 7 1) 8 1) 9 1))) ∧ w29[kA4]? = some (qA4, .inl (g 3, 10, .inl (fun _ => 0))) ∧ w29[kA5]? = some (qA5, .inl (g 0, 10, .inl (fun _ => 0))) ∧ w29[kA6]? = some (qA6, .inl (g 0, 4400, .inl y9))) (fun z => ((19 - y8.toInt) - z.1.toInt).toNat) ?_ ((0 : Int32), (fun _ => 0 : (Nat → Int32))) _ _ _ u2 ⟨⟨(by dsimp only; decide), Or.inr (by dsimp only; decide)⟩, V, hl, hF, hO0, hA2, hA3, hA4, hA5, hA6⟩
    rintro ⟨lx27, lx28⟩ H locs ls w29 ⟨i30, V, hl, hF, hO0, hA2, hA3, hA4, hA5, hA6⟩ ih31
    replace i30 : 0 ≤ lx27.toInt ∧ (lx27.toInt ≤ (19 - y8.toInt) ∨ lx27.toInt = 0) := i30
    replace hl : lv_has ls 3 [(2, .int lx27), (0, .ref qO0), (1, .int x1)] := hl
    replace hO0 : w29[kO0]? = some (qO0, .inr (14, [.int 0, .ref qA1, .int 0, .ref qA2, .ref qA3, .ref qA4, .ref qA5, .ref qA6, .int (19 - y8), .long 0, .int 0, .int 0, .ref qA7, .int 0, .ref qA8, .int 0, .ref qA9, .int 0, .ref qA10, .int 0, .int 2])) := hO0
    replace hA2 : w29[kA2]? = some (qA2, .inl (g 0, 10000, .inl lx28)) := hA2
    replace hA3 : w29[kA3]? = some (qA3, .inl (g 0, 10, .inl (upd (upd (upd (upd (upd (upd (upd (upd (upd (upd (fun _ => 0) 0 1) 1 1) 2 1) 3 1) 4 1) 5 1) 6 1) 7 1) 8 1) 9 1))) := hA3
    replace hA4 : w29[kA4]? = some (qA4, .inl (g 3, 10, .inl (fun _ => 0))) := hA4
    replace hA5 : w29[kA5]? = some (qA5, .inl (g 0, 10, .inl (fun _ => 0))) := hA5
    replace hA6 : w29[kA6]? = some (qA6, .inl (g 0, 4400, .inl y9)) := hA6
    refine lv_iload_n hx hb d_15_8_47 rfl (lv_at hl 0 rfl) ?_
    refine lv_aload_n hx hb d_15_8_48 rfl (lv_at hl 1 rfl) ?_
    refine q_get (ci := 14) (j := 8) (v := .int (19 - y8)) C0 V i_DR rfl rfl hO0 (by decide) w_2011 rfl d_15_8_49 ?_
    refine lv_icmp_ge (tgt := 79) hx hb d_15_8_52 (by decide) (fun c32 => ?_) (fun c32 => ?_)
    ·
      refine lv_aload_n hx hb d_15_8_79 rfl (lv_at hl 1 rfl) ?_
      refine q_get (ci := 14) (j := 4) (v := .ref qA3) C0 V i_DR rfl rfl hO0 (by decide) w_2004 rfl d_15_8_80 ?_
      refine lv_iload_n hx hb d_15_8_83 rfl (lv_at hl 2 rfl) ?_
      refine lv_aload_n hx hb d_15_8_84 rfl (lv_at hl 1 rfl) ?_
      refine q_get (ci := 14) (j := 8) (v := .int (19 - y8)) C0 V i_DR rfl rfl hO0 (by decide) w_2011 rfl d_15_8_85 ?_
      refine q_iast C0 V hA3 (q_ix (x := x1.toInt) rfl (by have t1 : 0 ≤ x1.toInt := q_leI x1lo; have t2 : x1.toInt ≤ 9 := q_leI x1hi; omega) (by have t1 : 0 ≤ x1.toInt := q_leI x1lo; have t2 : x1.toInt ≤ 9 := q_leI x1hi; omega)) d_15_8_88 (fun H locs w33 hu34 hA3 V => ?_)
      replace hA3 : w33[kA3]? = some (qA3, .inl (g 0, 10, .inl (upd (upd (upd (upd (upd (upd (upd (upd (upd (upd (upd (fun _ => 0) 0 1) 1 1) 2 1) 3 1) 4 1) 5 1) 6 1) 7 1) 8 1) 9 1) x1.toNatClampNeg (19 - y8)))) := hA3
      replace hF := q_us hF hu34 (.tail _ (.tail _ (.head _)))
      refine lv_aload_n hx hb d_15_8_89 rfl (lv_at hl 1 rfl) ?_
      replace hO0 := (hu34 _ n_O0_A3).trans (hO0)
      refine q_get (ci := 14) (j := 5) (v := .ref qA4) C0 V i_DR rfl rfl hO0 (by decide) w_2006 rfl d_15_8_90 ?_
      refine lv_iload_n hx hb d_15_8_93 rfl (lv_at hl 2 rfl) ?_
      refine lv_aload_n hx hb d_15_8_94 rfl (lv_at hl 1 rfl) ?_
      refine q_get (ci := 14) (j := 11) (v := .int 0) C0 V i_DR rfl rfl hO0 (by decide) w_2014 rfl d_15_8_95 ?_
      replace hA4 := (hu34 _ n_A4_A3).trans (hA4)
      refine q_zast C0 V hA4 (q_ix (x := x1.toInt) rfl (by have t1 : 0 ≤ x1.toInt := q_leI x1lo; have t2 : x1.toInt ≤ 9 := q_leI x1hi; omega) (by have t1 : 0 ≤ x1.toInt := q_leI x1lo; have t2 : x1.toInt ≤ 9 := q_leI x1hi; omega)) d_15_8_98 (fun H locs w35 hu36 hA4 V => ?_)
      replace hA4 := q_re (y := (qA4, .inl (g 3, 10, .inl (fun _ => 0)))) hA4 (q_eI q_upd0)
      replace hA4 : w35[kA4]? = some (qA4, .inl (g 3, 10, .inl (fun _ => 0))) := hA4
      replace hF := q_us hF hu36 (List.mem_of_getElem? (i := 3) rfl)
      refine lv_aload_n hx hb d_15_8_99 rfl (lv_at hl 1 rfl) ?_
      replace hO0 := (hu36 _ n_O0_A4).trans (hO0)
      refine q_get (ci := 14) (j := 6) (v := .ref qA5) C0 V i_DR rfl rfl hO0 (by decide) w_2008 rfl d_15_8_100 ?_
      refine lv_iload_n hx hb d_15_8_103 rfl (lv_at hl 2 rfl) ?_
      refine lv_aload_n hx hb d_15_8_104 rfl (lv_at hl 1 rfl) ?_
      refine q_get (ci := 14) (j := 9) (v := .long 0) C0 V i_DR rfl rfl hO0 (by decide) w_2012 rfl d_15_8_105 ?_
      refine lv_l2i hx hb d_15_8_108 rfl ?_
      refine q_ti (v := 0) (by decide) ?_
      replace hA5 := (hu36 _ n_A5_A4).trans ((hu34 _ n_A5_A3).trans (hA5))
      refine q_iast C0 V hA5 (q_ix (x := x1.toInt) rfl (by have t1 : 0 ≤ x1.toInt := q_leI x1lo; have t2 : x1.toInt ≤ 9 := q_leI x1hi; omega) (by have t1 : 0 ≤ x1.toInt := q_leI x1lo; have t2 : x1.toInt ≤ 9 := q_leI x1hi; omega)) d_15_8_109 (fun H locs w37 hu38 hA5 V => ?_)
      replace hA5 := q_re (y := (qA5, .inl (g 0, 10, .inl (fun _ => 0)))) hA5 (q_eI q_upd0)
      replace hA5 : w37[kA5]? = some (qA5, .inl (g 0, 10, .inl (fun _ => 0))) := hA5
      replace hF := q_us hF hu38 (List.mem_of_getElem? (i := 4) rfl)
      replace hO0 := (hu38 _ n_O0_A5).trans (hO0)
      replace hA2 := (hu38 _ n_A2_A5).trans ((hu36 _ n_A2_A4).trans ((hu34 _ n_A2_A3).trans (hA2)))
      replace hA3 := (hu38 _ n_A3_A5).trans ((hu36 _ n_A3_A4).trans (hA3))
      replace hA4 := (hu38 _ n_A4_A5).trans (hA4)
      replace hA6 := (hu38 _ n_A6_A5).trans ((hu36 _ n_A6_A4).trans ((hu34 _ n_A6_A3).trans (hA6)))
      exact q_retv C0 V (Or.inr (⟨y8, lx28, y9, c4, c5, f6, f7, hF, hO0, hA2, hA3, hA4, hA5, hA6⟩)) d_15_8_110
    ·
      refine lv_aload_n hx hb d_15_8_55 rfl (lv_at hl 1 rfl) ?_
      refine q_get (ci := 14) (j := 3) (v := .ref qA2) C0 V i_DR rfl rfl hO0 (by decide) w_2002 rfl d_15_8_56 ?_
      refine lv_sipush (v := 1000) hx hb d_15_8_59 (by decide) ?_
      refine lv_iload_n hx hb d_15_8_62 rfl (lv_at hl 2 rfl) ?_
      refine lv_imul hx hb d_15_8_63 ?_
      refine lv_iload_n hx hb d_15_8_64 rfl (lv_at hl 0 rfl) ?_
      refine lv_iadd hx hb d_15_8_65 ?_
      refine lv_aload_n hx hb d_15_8_66 rfl (lv_at hl 1 rfl) ?_
      refine q_get (ci := 14) (j := 7) (v := .ref qA6) C0 V i_DR rfl rfl hO0 (by decide) w_2010 rfl d_15_8_67 ?_
      refine lv_iload_n hx hb d_15_8_70 rfl (lv_at hl 0 rfl) ?_
      refine q_iald C0 V hA6 (q_ix (x := lx27.toInt) rfl (by have t1 : (y8.toInt + 1) < 19 := by { have e1 : (19 : Int32).toInt = 19 := (by decide); have e2 : ((y8 + 1) : Int32).toInt = (y8.toInt + 1) := (q_addI (x := y8.toInt) (y := 1) rfl (by decide) (by have t1 : 0 ≤ y8.toInt := q_leI f6; have t2 : y8.toInt ≤ 17 := q_leI f7; omega) (by have t1 : 0 ≤ y8.toInt := q_leI f6; have t2 : y8.toInt ≤ 17 := q_leI f7; omega)); have e3 := q_nleI c4; omega }; have t2 : lx27.toInt < (19 - y8.toInt) := by { have e1 : ((19 - y8) : Int32).toInt = (19 - y8.toInt) := (q_subI (x := 19) (y := y8.toInt) (by decide) rfl (by have t1 : 0 ≤ y8.toInt := q_leI f6; have t2 : y8.toInt ≤ 17 := q_leI f7; omega) (by have t1 : 0 ≤ y8.toInt := q_leI f6; have t2 : y8.toInt ≤ 17 := q_leI f7; omega)); have e2 : (lx27 : Int32).toInt = lx27.toInt := rfl; have e3 := q_nleI c32; omega }; have t3 : 0 ≤ y8.toInt := q_leI f6; have t4 : y8.toInt ≤ 17 := q_leI f7; omega) (by have t1 : (y8.toInt + 1) < 19 := by { have e1 : (19 : Int32).toInt = 19 := (by decide); have e2 : ((y8 + 1) : Int32).toInt = (y8.toInt + 1) := (q_addI (x := y8.toInt) (y := 1) rfl (by decide) (by have t1 : 0 ≤ y8.toInt := q_leI f6; have t2 : y8.toInt ≤ 17 := q_leI f7; omega) (by have t1 : 0 ≤ y8.toInt := q_leI f6; have t2 : y8.toInt ≤ 17 := q_leI f7; omega)); have e3 := q_nleI c4; omega }; have t2 : lx27.toInt < (19 - y8.toInt) := by { have e1 : ((19 - y8) : Int32).toInt = (19 - y8.toInt) := (q_subI (x := 19) (y := y8.toInt) (by decide) rfl (by have t1 : 0 ≤ y8.toInt := q_leI f6; have t2 : y8.toInt ≤ 17 := q_leI f7; omega) (by have t1 : 0 ≤ y8.toInt := q_leI f6; have t2 : y8.toInt ≤ 17 := q_leI f7; omega)); have e2 : (lx27 : Int32).toInt = lx27.toInt := rfl; have e3 := q_nleI c32; omega }; have t3 : 0 ≤ y8.toInt := q_leI f6; have t4 : y8.toInt ≤ 17 := q_leI f7; omega)) d_15_8_71 ?_
      refine q_iast C0 V hA2 (q_ix (x := ((1000 * x1.toInt) + lx27.toInt)) (q_addI (x := (1000 * x1.toInt)) (y := lx27.toInt) (q_mulI (x := 1000) (y := x1.toInt) (by decide) rfl (by have t1 : 0 ≤ x1.toInt := q_leI x1lo; have t2 : x1.toInt ≤ 9 := q_leI x1hi; omega) (by have t1 : 0 ≤ x1.toInt := q_leI x1lo; have t2 : x1.toInt ≤ 9 := q_leI x1hi; omega)) rfl (by have t1 : 0 ≤ x1.toInt := q_leI x1lo; have t2 : x1.toInt ≤ 9 := q_leI x1hi; have t3 : (y8.toInt + 1) < 19 := by { have e1 : (19 : Int32).toInt = 19 := (by decide); have e2 : ((y8 + 1) : Int32).toInt = (y8.toInt + 1) := (q_addI (x := y8.toInt) (y := 1) rfl (by decide) (by have t1 : 0 ≤ y8.toInt := q_leI f6; have t2 : y8.toInt ≤ 17 := q_leI f7; omega) (by have t1 : 0 ≤ y8.toInt := q_leI f6; have t2 : y8.toInt ≤ 17 := q_leI f7; omega)); have e3 := q_nleI c4; omega }; have t4 : lx27.toInt < (19 - y8.toInt) := by { have e1 : ((19 - y8) : Int32).toInt = (19 - y8.toInt) := (q_subI (x := 19) (y := y8.toInt) (by decide) rfl (by have t1 : 0 ≤ y8.toInt := q_leI f6; have t2 : y8.toInt ≤ 17 := q_leI f7; omega) (by have t1 : 0 ≤ y8.toInt := q_leI f6; have t2 : y8.toInt ≤ 17 := q_leI f7; omega)); have e2 : (lx27 : Int32).toInt = lx27.toInt := rfl; have e3 := q_nleI c32; omega }; have t5 : 0 ≤ y8.toInt := q_leI f6; have t6 : y8.toInt ≤ 17 := q_leI f7; omega) (by have t1 : 0 ≤ x1.toInt := q_leI x1lo; have t2 : x1.toInt ≤ 9 := q_leI x1hi; have t3 : (y8.toInt + 1) < 19 := by { have e1 : (19 : Int32).toInt = 19 := (by decide); have e2 : ((y8 + 1) : Int32).toInt = (y8.toInt + 1) := (q_addI (x := y8.toInt) (y := 1) rfl (by decide) (by have t1 : 0 ≤ y8.toInt := q_leI f6; have t2 : y8.toInt ≤ 17 := q_leI f7; omega) (by have t1 : 0 ≤ y8.toInt := q_leI f6; have t2 : y8.toInt ≤ 17 := q_leI f7; omega)); have e3 := q_nleI c4; omega }; have t4 : lx27.toInt < (19 - y8.toInt) := by { have e1 : ((19 - y8) : Int32).toInt = (19 - y8.toInt) := (q_subI (x := 19) (y := y8.toInt) (by decide) rfl (by have t1 : 0 ≤ y8.toInt := q_leI f6; have t2 : y8.toInt ≤ 17 := q_leI f7; omega) (by have t1 : 0 ≤ y8.toInt := q_leI f6; have t2 : y8.toInt ≤ 17 := q_leI f7; omega)); have e2 : (lx27 : Int32).toInt = lx27.toInt := rfl; have e3 := q_nleI c32; omega }; have t5 : 0 ≤ y8.toInt := q_leI f6; have t6 : y8.toInt ≤ 17 := q_leI f7; omega)) (by have t1 : 0 ≤ x1.toInt := q_leI x1lo; have t2 : x1.toInt ≤ 9 := q_leI x1hi; have t3 : (y8.toInt + 1) < 19 := by { have e1 : (19 : Int32).toInt = 19 := (by decide); have e2 : ((y8 + 1) : Int32).toInt = (y8.toInt + 1) := (q_addI (x := y8.toInt) (y := 1) rfl (by decide) (by have t1 : 0 ≤ y8.toInt := q_leI f6; have t2 : y8.toInt ≤ 17 := q_leI f7; omega) (by have t1 : 0 ≤ y8.toInt := q_leI f6; have t2 : y8.toInt ≤ 17 := q_leI f7; omega)); have e3 := q_nleI c4; omega }; have t4 : lx27.toInt < (19 - y8.toInt) := by { have e1 : ((19 - y8) : Int32).toInt = (19 - y8.toInt) := (q_subI (x := 19) (y := y8.toInt) (by decide) rfl (by have t1 : 0 ≤ y8.toInt := q_leI f6; have t2 : y8.toInt ≤ 17 := q_leI f7; omega) (by have t1 : 0 ≤ y8.toInt := q_leI f6; have t2 : y8.toInt ≤ 17 := q_leI f7; omega)); have e2 : (lx27 : Int32).toInt = lx27.toInt := rfl; have e3 := q_nleI c32; omega }; have t5 : 0 ≤ y8.toInt := q_leI f6; have t6 : y8.toInt ≤ 17 := q_leI f7; omega) (by have t1 : 0 ≤ x1.toInt := q_leI x1lo; have t2 : x1.toInt ≤ 9 := q_leI x1hi; have t3 : (y8.toInt + 1) < 19 := by { have e1 : (19 : Int32).toInt = 19 := (by decide); have e2 : ((y8 + 1) : Int32).toInt = (y8.toInt + 1) := (q_addI (x := y8.toInt) (y := 1) rfl (by decide) (by have t1 : 0 ≤ y8.toInt := q_leI f6; have t2 : y8.toInt ≤ 17 := q_leI f7; omega) (by have t1 : 0 ≤ y8.toInt := q_leI f6; have t2 : y8.toInt ≤ 17 := q_leI f7; omega)); have e3 := q_nleI c4; omega }; have t4 : lx27.toInt < (19 - y8.toInt) := by { have e1 : ((19 - y8) : Int32).toInt = (19 - y8.toInt) := (q_subI (x := 19) (y := y8.toInt) (by decide) rfl (by have t1 : 0 ≤ y8.toInt := q_leI f6; have t2 : y8.toInt ≤ 17 := q_leI f7; omega) (by have t1 : 0 ≤ y8.toInt := q_leI f6; have t2 : y8.toInt ≤ 17 := q_leI f7; omega)); have e2 : (lx27 : Int32).toInt = lx27.toInt := rfl; have e3 := q_nleI c32; omega }; have t5 : 0 ≤ y8.toInt := q_leI f6; have t6 : y8.toInt ≤ 17 := q_leI f7; omega)) d_15_8_72 (fun H locs w39 hu40 hA2 V => ?_)
      replace hA2 : w39[kA2]? = some (qA2, .inl (g 0, 10000, .inl (upd lx28 (((1000 * x1) + lx27).toNatClampNeg) (y9 lx27.toNatClampNeg)))) := hA2
      replace hF := q_us hF hu40 (.tail _ (.head _))
      refine lv_iinc (v := lx27 + 1) (lv' := [(2, .int (lx27 + 1)), (0, .ref qO0), (1, .int x1)]) hx hb d_15_8_73 hl (k := 0) rfl (rfl) (by decide) rfl (fun ls hl => ?_)
      refine lv_goto (tgt := 47) hx hb d_15_8_76 (by decide) ?_
      replace hO0 := (hu40 _ n_O0_A2).trans (hO0)
      replace hA3 := (hu40 _ n_A3_A2).trans (hA3)
      replace hA4 := (hu40 _ n_A4_A2).trans (hA4)
      replace hA5 := (hu40 _ n_A5_A2).trans (hA5)
      replace hA6 := (hu40 _ n_A6_A2).trans (hA6)
      exact ih31 ((lx27 + 1 : Int32), (upd lx28 (((1000 * x1) + lx27).toNatClampNeg) (y9 lx27.toNatClampNeg) : Nat → Int32)) _ _ _ _ (show ((19 - y8.toInt) - (lx27 + 1).toInt).toNat < ((19 - y8.toInt) - lx27.toInt).toNat from by have t1 : (y8.toInt + 1) < 19 := by { have e1 : (19 : Int32).toInt = 19 := (by decide); have e2 : ((y8 + 1) : Int32).toInt = (y8.toInt + 1) := (q_addI (x := y8.toInt) (y := 1) rfl (by decide) (by have t1 : 0 ≤ y8.toInt := q_leI f6; have t2 : y8.toInt ≤ 17 := q_leI f7; omega) (by have t1 : 0 ≤ y8.toInt := q_leI f6; have t2 : y8.toInt ≤ 17 := q_leI f7; omega)); have e3 := q_nleI c4; omega }; have t2 : lx27.toInt < (19 - y8.toInt) := by { have e1 : ((19 - y8) : Int32).toInt = (19 - y8.toInt) := (q_subI (x := 19) (y := y8.toInt) (by decide) rfl (by have t1 : 0 ≤ y8.toInt := q_leI f6; have t2 : y8.toInt ≤ 17 := q_leI f7; omega) (by have t1 : 0 ≤ y8.toInt := q_leI f6; have t2 : y8.toInt ≤ 17 := q_leI f7; omega)); have e2 : (lx27 : Int32).toInt = lx27.toInt := rfl; have e3 := q_nleI c32; omega }; have t3 : 0 ≤ y8.toInt := q_leI f6; have t4 : y8.toInt ≤ 17 := q_leI f7; have e : (lx27 + 1).toInt = (lx27.toInt + 1) := (q_addI (x := lx27.toInt) (y := 1) rfl (by decide) (by have t1 : (y8.toInt + 1) < 19 := by { have e1 : (19 : Int32).toInt = 19 := (by decide); have e2 : ((y8 + 1) : Int32).toInt = (y8.toInt + 1) := (q_addI (x := y8.toInt) (y := 1) rfl (by decide) (by have t1 : 0 ≤ y8.toInt := q_leI f6; have t2 : y8.toInt ≤ 17 := q_leI f7; omega) (by have t1 : 0 ≤ y8.toInt := q_leI f6; have t2 : y8.toInt ≤ 17 := q_leI f7; omega)); have e3 := q_nleI c4; omega }; have t2 : lx27.toInt < (19 - y8.toInt) := by { have e1 : ((19 - y8) : Int32).toInt = (19 - y8.toInt) := (q_subI (x := 19) (y := y8.toInt) (by decide) rfl (by have t1 : 0 ≤ y8.toInt := q_leI f6; have t2 : y8.toInt ≤ 17 := q_leI f7; omega) (by have t1 : 0 ≤ y8.toInt := q_leI f6; have t2 : y8.toInt ≤ 17 := q_leI f7; omega)); have e2 : (lx27 : Int32).toInt = lx27.toInt := rfl; have e3 := q_nleI c32; omega }; have t3 : 0 ≤ y8.toInt := q_leI f6; have t4 : y8.toInt ≤ 17 := q_leI f7; omega) (by have t1 : (y8.toInt + 1) < 19 := by { have e1 : (19 : Int32).toInt = 19 := (by decide); have e2 : ((y8 + 1) : Int32).toInt = (y8.toInt + 1) := (q_addI (x := y8.toInt) (y := 1) rfl (by decide) (by have t1 : 0 ≤ y8.toInt := q_leI f6; have t2 : y8.toInt ≤ 17 := q_leI f7; omega) (by have t1 : 0 ≤ y8.toInt := q_leI f6; have t2 : y8.toInt ≤ 17 := q_leI f7; omega)); have e3 := q_nleI c4; omega }; have t2 : lx27.toInt < (19 - y8.toInt) := by { have e1 : ((19 - y8) : Int32).toInt = (19 - y8.toInt) := (q_subI (x := 19) (y := y8.toInt) (by decide) rfl (by have t1 : 0 ≤ y8.toInt := q_leI f6; have t2 : y8.toInt ≤ 17 := q_leI f7; omega) (by have t1 : 0 ≤ y8.toInt := q_leI f6; have t2 : y8.toInt ≤ 17 := q_leI f7; omega)); have e2 : (lx27 : Int32).toInt = lx27.toInt := rfl; have e3 := q_nleI c32; omega }; have t3 : 0 ≤ y8.toInt := q_leI f6; have t4 : y8.toInt ≤ 17 := q_leI f7; omega)); omega) ⟨(show 0 ≤ (lx27 + 1).toInt ∧ ((lx27 + 1).toInt ≤ (19 - y8.toInt) ∨ (lx27 + 1).toInt = 0) from by have t1 : (y8.toInt + 1) < 19 := by { have e1 : (19 : Int32).toInt = 19 := (by decide); have e2 : ((y8 + 1) : Int32).toInt = (y8.toInt + 1) := (q_addI (x := y8.toInt) (y := 1) rfl (by decide) (by have t1 : 0 ≤ y8.toInt := q_leI f6; have t2 : y8.toInt ≤ 17 := q_leI f7; omega) (by have t1 : 0 ≤ y8.toInt := q_leI f6; have t2 : y8.toInt ≤ 17 := q_leI f7; omega)); have e3 := q_nleI c4; omega }; have t2 : lx27.toInt < (19 - y8.toInt) := by { have e1 : ((19 - y8) : Int32).toInt = (19 - y8.toInt) := (q_subI (x := 19) (y := y8.toInt) (by decide) rfl (by have t1 : 0 ≤ y8.toInt := q_leI f6; have t2 : y8.toInt ≤ 17 := q_leI f7; omega) (by have t1 : 0 ≤ y8.toInt := q_leI f6; have t2 : y8.toInt ≤ 17 := q_leI f7; omega)); have e2 : (lx27 : Int32).toInt = lx27.toInt := rfl; have e3 := q_nleI c32; omega }; have t3 : 0 ≤ y8.toInt := q_leI f6; have t4 : y8.toInt ≤ 17 := q_leI f7; have e : (lx27 + 1).toInt = (lx27.toInt + 1) := (q_addI (x := lx27.toInt) (y := 1) rfl (by decide) (by have t1 : (y8.toInt + 1) < 19 := by { have e1 : (19 : Int32).toInt = 19 := (by decide); have e2 : ((y8 + 1) : Int32).toInt = (y8.toInt + 1) := (q_addI (x := y8.toInt) (y := 1) rfl (by decide) (by have t1 : 0 ≤ y8.toInt := q_leI f6; have t2 : y8.toInt ≤ 17 := q_leI f7; omega) (by have t1 : 0 ≤ y8.toInt := q_leI f6; have t2 : y8.toInt ≤ 17 := q_leI f7; omega)); have e3 := q_nleI c4; omega }; have t2 : lx27.toInt < (19 - y8.toInt) := by { have e1 : ((19 - y8) : Int32).toInt = (19 - y8.toInt) := (q_subI (x := 19) (y := y8.toInt) (by decide) rfl (by have t1 : 0 ≤ y8.toInt := q_leI f6; have t2 : y8.toInt ≤ 17 := q_leI f7; omega) (by have t1 : 0 ≤ y8.toInt := q_leI f6; have t2 : y8.toInt ≤ 17 := q_leI f7; omega)); have e2 : (lx27 : Int32).toInt = lx27.toInt := rfl; have e3 := q_nleI c32; omega }; have t3 : 0 ≤ y8.toInt := q_leI f6; have t4 : y8.toInt ≤ 17 := q_leI f7; omega) (by have t1 : (y8.toInt + 1) < 19 := by { have e1 : (19 : Int32).toInt = 19 := (by decide); have e2 : ((y8 + 1) : Int32).toInt = (y8.toInt + 1) := (q_addI (x := y8.toInt) (y := 1) rfl (by decide) (by have t1 : 0 ≤ y8.toInt := q_leI f6; have t2 : y8.toInt ≤ 17 := q_leI f7; omega) (by have t1 : 0 ≤ y8.toInt := q_leI f6; have t2 : y8.toInt ≤ 17 := q_leI f7; omega)); have e3 := q_nleI c4; omega }; have t2 : lx27.toInt < (19 - y8.toInt) := by { have e1 : ((19 - y8) : Int32).toInt = (19 - y8.toInt) := (q_subI (x := 19) (y := y8.toInt) (by decide) rfl (by have t1 : 0 ≤ y8.toInt := q_leI f6; have t2 : y8.toInt ≤ 17 := q_leI f7; omega) (by have t1 : 0 ≤ y8.toInt := q_leI f6; have t2 : y8.toInt ≤ 17 := q_leI f7; omega)); have e2 : (lx27 : Int32).toInt = lx27.toInt := rfl; have e3 := q_nleI c32; omega }; have t3 : 0 ≤ y8.toInt := q_leI f6; have t4 : y8.toInt ≤ 17 := q_leI f7; omega)); omega), V, q_lw hl (q_lw1 0 rfl (q_lw1 1 rfl (q_lw1 2 rfl q_lw0))), hF, hO0, hA2, hA3, hA4, hA5, hA6⟩
theorem d_15_7_99 : decode prog_15_method_7_code 99 = .ok (.aload_n 0, 1) := by decide +kernel
theorem d_15_7_100 : decode prog_15_method_7_code 100 = .ok (.getfield 26, 3) := by decide +kernel
theorem d_15_7_103 : decode prog_15_method_7_code 103 = .ok (.iconst 0, 1) := by decide +kernel
theorem d_15_7_104 : decode prog_15_method_7_code 104 = .ok (.iaload, 1) := by decide +kernel
theorem d_15_7_105 : decode prog_15_method_7_code 105 = .ok (.ifCond .eq 7, 3) := by decide +kernel
theorem d_15_7_108 : decode prog_15_method_7_code 108 = .ok (.iconst 1, 1) := by decide +kernel
theorem d_15_7_109 : decode prog_15_method_7_code 109 = .ok (.goto 4, 3) := by decide +kernel
set_option maxRecDepth 100000 in
set_option maxHeartbeats 4000000 in
theorem c_DR_trim_8 (l : Launch) (D : va_G) (g : Nat → ClassId) (ws : va_W) (kO0 kA6 qO0 qA1 qA2 qA3 qA4 qA5 qA6 qA7 qA8 qA9 qA10 : Nat) (f1 : Nat → Int32) (hO0 : ws[kO0]? = some (qO0, .inr (14, [.int 0, .ref qA1, .int 0, .ref qA2, .ref qA3, .ref qA4, .ref qA5, .ref qA6, .int 19, .long 0, .int 0, .int 1, .ref qA7, .int 0, .ref qA8, .int 0, .ref qA9, .int 0, .ref qA10, .int 0, .int 2]))) (hA6 : ws[kA6]? = some (qA6, .inl (g 0, 4400, .inl f1))) : q_mV l y_DR_trim prog_15_method_7_code 3 1 0 0 D g [.ref qO0] ws (fun u => ((f1 (18 : Int32).toNatClampNeg) = 0 ∧ q_un ws u [kO0, kA6] ∧ u[kO0]? = some (qO0, .inr (14, [.int 0, .ref qA1, .int 0, .ref qA2, .ref qA3, .ref qA4, .ref qA5, .ref qA6, .int 1, .long 0, .int 0, .int 0, .ref qA7, .int 0, .ref qA8, .int 0, .ref qA9, .int 0, .ref qA10, .int 0, .int 2])) ∧ u[kA6]? = some (qA6, .inl (g 0, 4400, .inl (upd f1 0 (f1 (18 : Int32).toNatClampNeg))))) ∨ (¬ (f1 (18 : Int32).toNatClampNeg) = 0 ∧ q_un ws u [kO0, kA6] ∧ u[kO0]? = some (qO0, .inr (14, [.int 0, .ref qA1, .int 0, .ref qA2, .ref qA3, .ref qA4, .ref qA5, .ref qA6, .int 1, .long 0, .int 0, .int 1, .ref qA7, .int 0, .ref qA8, .int 0, .ref qA9, .int 0, .ref qA10, .int 0, .int 2])) ∧ u[kA6]? = some (qA6, .inl (g 0, 4400, .inl (upd f1 0 (f1 (18 : Int32).toNatClampNeg))))) ∨ (∃ (ex0 : Int32) (ex1 : Nat → Int32), ¬ 19 ≤ (ex0 + 1) ∧ ¬ (f1 ex0.toNatClampNeg) = 0 ∧ (ex1 (0 : Int32).toNatClampNeg) = 0 ∧ 0 ≤ ex0 ∧ ex0 ≤ 17 ∧ q_un ws u [kO0, kA6] ∧ u[kO0]? = some (qO0, .inr (14, [.int 0, .ref qA1, .int 0, .ref qA2, .ref qA3, .ref qA4, .ref qA5, .ref qA6, .int (19 - ex0), .long 0, .int 0, .int 0, .ref qA7, .int 0, .ref qA8, .int 0, .ref qA9, .int 0, .ref qA10, .int 0, .int 2])) ∧ u[kA6]? = some (qA6, .inl (g 0, 4400, .inl ex1))) ∨ (∃ (ex0 : Int32) (ex1 : Nat → Int32), ¬ 19 ≤ (ex0 + 1) ∧ ¬ (f1 ex0.toNatClampNeg) = 0 ∧ ¬ (ex1 (0 : Int32).toNatClampNeg) = 0 ∧ 0 ≤ ex0 ∧ ex0 ≤ 17 ∧ q_un ws u [kO0, kA6] ∧ u[kO0]? = some (qO0, .inr (14, [.int 0, .ref qA1, .int 0, .ref qA2, .ref qA3, .ref qA4, .ref qA5, .ref qA6, .int (19 - ex0), .long 0, .int 0, .int 1, .ref qA7, .int 0, .ref qA8, .int 0, .ref qA9, .int 0, .ref qA10, .int 0, .int 2])) ∧ u[kA6]? = some (qA6, .inl (g 0, 4400, .inl ex1)))) := by
  intro sz
  refine q_into (by decide) (Nat.le_of_ble_eq_true rfl) ?_
  intro p e s m below meth c ls hsz C0 V hl
  have hx := C0.1
  have hb := C0.2.1
  have hl : lv_has ls 3 [(0, .ref qO0)] := hl
  have n_A6_O0 := q_df hA6 hO0
  have n_O0_A6 := Ne.symm (q_df hA6 hO0)
  have hF : q_un ws ws [kO0, kA6] := q_u0
  refine lv_iconst (v := 0) hx hb d_15_7_0 (by decide) ?_
  refine lv_istore_n (lv' := [(1, .int 0), (0, .ref qO0)]) hx hb d_15_7_1 rfl hl (by decide) rfl (fun ls hl => ?_)
  refine q_loop (X := Int32) (fun z H locs ls w2 => (0 ≤ z.toInt ∧ (z.toInt ≤ 18 ∨ z.toInt = 0)) ∧ q_Wd D g (va_A ws sz) s w2 H locs ∧ lv_has ls 3 [(1, .int z), (0, .ref qO0)] ∧ q_un ws w2 [kO0, kA6] ∧ w2[kO0]? = some (qO0, .inr (14, [.int 0, .ref qA1, .int 0, .ref qA2, .ref qA3, .ref qA4, .ref qA5, .ref qA6, .int 19, .long 0, .int 0, .int 1, .ref qA7, .int 0, .ref qA8, .int 0, .ref qA9, .int 0, .ref qA10, .int 0, .int 2])) ∧ w2[kA6]? = some (qA6, .inl (g 0, 4400, .inl f1))) (fun z => (18 - z.toInt).toNat) ?_ ((0 : Int32)) _ _ _ ws ⟨⟨by decide, Or.inr (by decide)⟩, V, hl, hF, hO0, hA6⟩
  rintro lx1 H locs ls w2 ⟨i3, V, hl, hF, hO0, hA6⟩ ih4
  replace i3 : 0 ≤ lx1.toInt ∧ (lx1.toInt ≤ 18 ∨ lx1.toInt = 0) := i3
  replace hl : lv_has ls 3 [(1, .int lx1), (0, .ref qO0)] := hl
  replace hO0 : w2[kO0]? = some (qO0, .inr (14, [.int 0, .ref qA1, .int 0, .ref qA2, .ref qA3, .ref qA4, .ref qA5, .ref qA6, .int 19, .long 0, .int 0, .int 1, .ref qA7, .int 0, .ref qA8, .int 0, .ref qA9, .int 0, .ref qA10, .int 0, .int 2])) := hO0
  replace hA6 : w2[kA6]? = some (qA6, .inl (g 0, 4400, .inl f1)) := hA6
  refine lv_iload_n hx hb d_15_7_2 rfl (lv_at hl 0 rfl) ?_
  refine lv_iconst (v := 1) hx hb d_15_7_3 (by decide) ?_
  refine lv_iadd hx hb d_15_7_4 ?_
  refine lv_aload_n hx hb d_15_7_5 rfl (lv_at hl 1 rfl) ?_
  refine q_get (ci := 14) (j := 8) (v := .int 19) C0 V i_DR rfl rfl hO0 (by decide) w_2011 rfl d_15_7_6 ?_
  refine lv_icmp_ge (tgt := 27) hx hb d_15_7_9 (by decide) (fun c5 => ?_) (fun c5 => ?_)
  ·
    refine lv_iconst (v := 0) hx hb d_15_7_27 (by decide) ?_
    refine lv_istore_n (lv' := [(2, .int 0), (1, .int lx1), (0, .ref qO0)]) hx hb d_15_7_28 rfl hl (by decide) rfl (fun ls hl => ?_)
    refine lv_iload_n hx hb d_15_7_29 rfl (lv_at hl 0 rfl) ?_
    refine lv_iload_n hx hb d_15_7_30 rfl (lv_at hl 1 rfl) ?_
    refine q_ti (v := 18) (q_Ieq (x := lx1.toInt) (y := 18) rfl (by decide) (by have t1 : 19 ≤ (lx1.toInt + 1) := by { have e1 : (19 : Int32).toInt = 19 := (by decide); have e2 : ((lx1 + 1) : Int32).toInt = (lx1.toInt + 1) := (q_addI (x := lx1.toInt) (y := 1) rfl (by decide) (by omega) (by omega)); have e3 := q_leI c5; omega }; omega)) ?_
    refine lv_iadd hx hb d_15_7_31 ?_
    refine q_ti (v := 18) (by decide) ?_
    refine lv_aload_n hx hb d_15_7_32 rfl (lv_at hl 2 rfl) ?_
    refine q_get (ci := 14) (j := 8) (v := .int 19) C0 V i_DR rfl rfl hO0 (by decide) w_2011 rfl d_15_7_33 ?_
    refine lv_icmp_ge (tgt := 59) hx hb d_15_7_36 (by decide) (fun c6 => absurd c6 (by decide)) (fun c6 => ?_)
    refine lv_aload_n hx hb d_15_7_39 rfl (lv_at hl 2 rfl) ?_
    refine q_get (ci := 14) (j := 7) (v := .ref qA6) C0 V i_DR rfl rfl hO0 (by decide) w_2010 rfl d_15_7_40 ?_
    refine lv_iload_n hx hb d_15_7_43 rfl (lv_at hl 0 rfl) ?_
    refine lv_aload_n hx hb d_15_7_44 rfl (lv_at hl 2 rfl) ?_
    refine q_get (ci := 14) (j := 7) (v := .ref qA6) C0 V i_DR rfl rfl hO0 (by decide) w_2010 rfl d_15_7_45 ?_
    refine lv_iload_n hx hb d_15_7_48 rfl (lv_at hl 0 rfl) ?_
    refine lv_iload_n hx hb d_15_7_49 rfl (lv_at hl 1 rfl) ?_
    refine q_ti (v := 18) (q_Ieq (x := lx1.toInt) (y := 18) rfl (by decide) (by have t1 : 19 ≤ (lx1.toInt + 1) := by { have e1 : (19 : Int32).toInt = 19 := (by decide); have e2 : ((lx1 + 1) : Int32).toInt = (lx1.toInt + 1) := (q_addI (x := lx1.toInt) (y := 1) rfl (by decide) (by omega) (by omega)); have e3 := q_leI c5; omega }; omega)) ?_
    refine lv_iadd hx hb d_15_7_50 ?_
    refine q_ti (v := 18) (by decide) ?_
    refine q_iald C0 V hA6 (by unfold vp_in; decide) d_15_7_51 ?_
    refine q_iast C0 V hA6 (by unfold vp_in; decide) d_15_7_52 (fun H locs w7 hu8 hA6 V => ?_)
    replace hA6 : w7[kA6]? = some (qA6, .inl (g 0, 4400, .inl (upd f1 0 (f1 (18 : Int32).toNatClampNeg)))) := hA6
    replace hF := q_us hF hu8 (.tail _ (.head _))
    refine lv_iinc (v := 1) (lv' := [(2, .int 1), (1, .int lx1), (0, .ref qO0)]) hx hb d_15_7_53 hl (k := 0) rfl (by decide) (by decide) rfl (fun ls hl => ?_)
    refine lv_goto (tgt := 29) hx hb d_15_7_56 (by decide) ?_
    refine lv_iload_n hx hb d_15_7_29 rfl (lv_at hl 0 rfl) ?_
    refine lv_iload_n hx hb d_15_7_30 rfl (lv_at hl 1 rfl) ?_
    refine q_ti (v := 18) (q_Ieq (x := lx1.toInt) (y := 18) rfl (by decide) (by have t1 : 19 ≤ (lx1.toInt + 1) := by { have e1 : (19 : Int32).toInt = 19 := (by decide); have e2 : ((lx1 + 1) : Int32).toInt = (lx1.toInt + 1) := (q_addI (x := lx1.toInt) (y := 1) rfl (by decide) (by omega) (by omega)); have e3 := q_leI c5; omega }; omega)) ?_
    refine lv_iadd hx hb d_15_7_31 ?_
    refine q_ti (v := 19) (by decide) ?_
    refine lv_aload_n hx hb d_15_7_32 rfl (lv_at hl 2 rfl) ?_
    replace hO0 := (hu8 _ n_O0_A6).trans (hO0)
    refine q_get (ci := 14) (j := 8) (v := .int 19) C0 V i_DR rfl rfl hO0 (by decide) w_2011 rfl d_15_7_33 ?_
    refine lv_icmp_ge (tgt := 59) hx hb d_15_7_36 (by decide) (fun c9 => ?_) (fun c9 => absurd (by decide) c9)
    refine lv_aload_n hx hb d_15_7_59 rfl (lv_at hl 2 rfl) ?_
    refine q_get (ci := 14) (j := 8) (v := .int 19) C0 V i_DR rfl rfl hO0 (by decide) w_2011 rfl d_15_7_60 ?_
    refine lv_if_ne (tgt := 81) hx hb d_15_7_63 (by decide) (fun c10 => ?_) (fun c10 => absurd c10 (by decide))
    refine lv_aload_n hx hb d_15_7_81 rfl (lv_at hl 2 rfl) ?_
    refine lv_aload_n hx hb d_15_7_82 rfl (lv_at hl 2 rfl) ?_
    refine q_get (ci := 14) (j := 8) (v := .int 19) C0 V i_DR rfl rfl hO0 (by decide) w_2011 rfl d_15_7_83 ?_
    refine lv_iload_n hx hb d_15_7_86 rfl (lv_at hl 1 rfl) ?_
    refine q_ti (v := 18) (q_Ieq (x := lx1.toInt) (y := 18) rfl (by decide) (by have t1 : 19 ≤ (lx1.toInt + 1) := by { have e1 : (19 : Int32).toInt = 19 := (by decide); have e2 : ((lx1 + 1) : Int32).toInt = (lx1.toInt + 1) := (q_addI (x := lx1.toInt) (y := 1) rfl (by decide) (by omega) (by omega)); have e3 := q_leI c5; omega }; omega)) ?_
    refine lv_isub hx hb d_15_7_87 ?_
    refine q_ti (v := 1) (by decide) ?_
    refine q_put (ci := 14) (j := 8) (v := .int 1) (ty := .int) C0 V i_DR o_DR n_DR rfl rfl hO0 (by decide) w_2011 rfl rfl rfl rfl (Nat.le_of_ble_eq_true rfl) d_15_7_88 (fun H locs w11 hu12 hO0 V => ?_)
    replace hO0 : w11[kO0]? = some (qO0, .inr (14, [.int 0, .ref qA1, .int 0, .ref qA2, .ref qA3, .ref qA4, .ref qA5, .ref qA6, .int 1, .long 0, .int 0, .int 1, .ref qA7, .int 0, .ref qA8, .int 0, .ref qA9, .int 0, .ref qA10, .int 0, .int 2])) := hO0
    replace hF := q_us hF hu12 (.head _)
    refine lv_aload_n hx hb d_15_7_91 rfl (lv_at hl 2 rfl) ?_
    refine lv_aload_n hx hb d_15_7_92 rfl (lv_at hl 2 rfl) ?_
    refine q_get (ci := 14) (j := 11) (v := .int 1) C0 V i_DR rfl rfl hO0 (by decide) w_2014 rfl d_15_7_93 ?_
    refine lv_if_eq (tgt := 112) hx hb d_15_7_96 (by decide) (fun c13 => absurd c13 (by decide)) (fun c13 => ?_)
    refine lv_aload_n hx hb d_15_7_99 rfl (lv_at hl 2 rfl) ?_
    refine q_get (ci := 14) (j := 7) (v := .ref qA6) C0 V i_DR rfl rfl hO0 (by decide) w_2010 rfl d_15_7_100 ?_
    refine lv_iconst (v := 0) hx hb d_15_7_103 (by decide) ?_
    replace hA6 := (hu12 _ n_A6_O0).trans (hA6)
    refine q_iald C0 V hA6 (by unfold vp_in; decide) d_15_7_104 ?_
    refine q_ti (v := (f1 (18 : Int32).toNatClampNeg)) (by first | rfl | decide | simp [upd, vp_updL, sb_cl0]) ?_
    refine lv_if_eq (tgt := 112) hx hb d_15_7_105 (by decide) (fun c14 => ?_) (fun c14 => ?_)
    ·
      refine lv_iconst (v := 0) hx hb d_15_7_112 (by decide) ?_
      refine q_put (ci := 14) (j := 11) (v := .int 0) (ty := .boolean) C0 V i_DR o_DR n_DR rfl rfl hO0 (by decide) w_2014 rfl rfl rfl rfl (Nat.le_of_ble_eq_true rfl) d_15_7_113 (fun H locs w15 hu16 hO0 V => ?_)
      replace hO0 : w15[kO0]? = some (qO0, .inr (14, [.int 0, .ref qA1, .int 0, .ref qA2, .ref qA3, .ref qA4, .ref qA5, .ref qA6, .int 1, .long 0, .int 0, .int 0, .ref qA7, .int 0, .ref qA8, .int 0, .ref qA9, .int 0, .ref qA10, .int 0, .int 2])) := hO0
      replace hF := q_us hF hu16 (.head _)
      replace hA6 := (hu16 _ n_A6_O0).trans (hA6)
      exact q_retv C0 V (Or.inl ⟨c14, hF, hO0, hA6⟩) d_15_7_116
    ·
      refine lv_iconst (v := 1) hx hb d_15_7_108 (by decide) ?_
      refine lv_goto (tgt := 113) hx hb d_15_7_109 (by decide) ?_
      refine q_put (ci := 14) (j := 11) (v := .int 1) (ty := .boolean) C0 V i_DR o_DR n_DR rfl rfl hO0 (by decide) w_2014 rfl rfl rfl rfl (Nat.le_of_ble_eq_true rfl) d_15_7_113 (fun H locs w17 hu18 hO0 V => ?_)
      replace hO0 : w17[kO0]? = some (qO0, .inr (14, [.int 0, .ref qA1, .int 0, .ref qA2, .ref qA3, .ref qA4, .ref qA5, .ref qA6, .int 1, .long 0, .int 0, .int 1, .ref qA7, .int 0, .ref qA8, .int 0, .ref qA9, .int 0, .ref qA10, .int 0, .int 2])) := hO0
      replace hF := q_us hF hu18 (.head _)
      replace hA6 := (hu18 _ n_A6_O0).trans (hA6)
      exact q_retv C0 V (Or.inr (Or.inl ⟨c14, hF, hO0, hA6⟩)) d_15_7_116
  ·
    refine lv_aload_n hx hb d_15_7_12 rfl (lv_at hl 1 rfl) ?_
    refine q_get (ci := 14) (j := 7) (v := .ref qA6) C0 V i_DR rfl rfl hO0 (by decide) w_2010 rfl d_15_7_13 ?_
    refine lv_iload_n hx hb d_15_7_16 rfl (lv_at hl 0 rfl) ?_
    refine q_iald C0 V hA6 (q_ix (x := lx1.toInt) rfl (by have t1 : (lx1.toInt + 1) < 19 := by { have e1 : (19 : Int32).toInt = 19 := (by decide); have e2 : ((lx1 + 1) : Int32).toInt = (lx1.toInt + 1) := (q_addI (x := lx1.toInt) (y := 1) rfl (by decide) (by omega) (by omega)); have e3 := q_nleI c5; omega }; omega) (by have t1 : (lx1.toInt + 1) < 19 := by { have e1 : (19 : Int32).toInt = 19 := (by decide); have e2 : ((lx1 + 1) : Int32).toInt = (lx1.toInt + 1) := (q_addI (x := lx1.toInt) (y := 1) rfl (by decide) (by omega) (by omega)); have e3 := q_nleI c5; omega }; omega)) d_15_7_17 ?_
    refine lv_if_ne (tgt := 27) hx hb d_15_7_18 (by decide) (fun c19 => ?_) (fun c19 => ?_)
    ·
      refine lv_iconst (v := 0) hx hb d_15_7_27 (by decide) ?_
      refine lv_istore_n (lv' := [(2, .int 0), (1, .int lx1), (0, .ref qO0)]) hx hb d_15_7_28 rfl hl (by decide) rfl (fun ls hl => ?_)
      refine q_loop (X := Int32 × (Nat → Int32)) (fun z H locs ls w22 => (0 ≤ z.1.toInt ∧ (z.1.toInt ≤ (19 - lx1.toInt) ∨ z.1.toInt = 0)) ∧ q_Wd D g (va_A ws sz) s w22 H locs ∧ lv_has ls 3 [(2, .int z.1), (1, .int lx1), (0, .ref qO0)] ∧ q_un ws w22 [kO0, kA6] ∧ w22[kO0]? = some (qO0, .inr (14, [.int 0, .ref qA1, .int 0, .ref qA2, .ref qA3, .ref qA4, .ref qA5, .ref qA6, .int 19, .long 0, .int 0, .int 1, .ref qA7, .int 0, .ref qA8, .int 0, .ref qA9, .int 0, .ref qA10, .int 0, .int 2])) ∧ w22[kA6]? = some (qA6, .inl (g 0, 4400, .inl z.2))) (fun z => ((19 - lx1.toInt) - z.1.toInt).toNat) ?_ ((0 : Int32), (f1 : (Nat → Int32))) _ _ _ w2 ⟨⟨(by dsimp only; decide), Or.inr (by dsimp only; decide)⟩, V, hl, hF, hO0, hA6⟩
      rintro ⟨lx20, lx21⟩ H locs ls w22 ⟨i23, V, hl, hF, hO0, hA6⟩ ih24
      replace i23 : 0 ≤ lx20.toInt ∧ (lx20.toInt ≤ (19 - lx1.toInt) ∨ lx20.toInt = 0) := i23
      replace hl : lv_has ls 3 [(2, .int lx20), (1, .int lx1), (0, .ref qO0)] := hl
      replace hO0 : w22[kO0]? = some (qO0, .inr (14, [.int 0, .ref qA1, .int 0, .ref qA2, .ref qA3, .ref qA4, .ref qA5, .ref qA6, .int 19, .long 0, .int 0, .int 1, .ref qA7, .int 0, .ref qA8, .int 0, .ref qA9, .int 0, .ref qA10, .int 0, .int 2])) := hO0
      replace hA6 : w22[kA6]? = some (qA6, .inl (g 0, 4400, .inl lx21)) := hA6
      refine lv_iload_n hx hb d_15_7_29 rfl (lv_at hl 0 rfl) ?_
      refine lv_iload_n hx hb d_15_7_30 rfl (lv_at hl 1 rfl) ?_
      refine lv_iadd hx hb d_15_7_31 ?_
      refine lv_aload_n hx hb d_15_7_32 rfl (lv_at hl 2 rfl) ?_
      refine q_get (ci := 14) (j := 8) (v := .int 19) C0 V i_DR rfl rfl hO0 (by decide) w_2011 rfl d_15_7_33 ?_
      refine lv_icmp_ge (tgt := 59) hx hb d_15_7_36 (by decide) (fun c25 => ?_) (fun c25 => ?_)
      ·
        refine lv_aload_n hx hb d_15_7_59 rfl (lv_at hl 2 rfl) ?_
        refine q_get (ci := 14) (j := 8) (v := .int 19) C0 V i_DR rfl rfl hO0 (by decide) w_2011 rfl d_15_7_60 ?_
        refine lv_if_ne (tgt := 81) hx hb d_15_7_63 (by decide) (fun c26 => ?_) (fun c26 => absurd c26 (by decide))
        refine lv_aload_n hx hb d_15_7_81 rfl (lv_at hl 2 rfl) ?_
        refine lv_aload_n hx hb d_15_7_82 rfl (lv_at hl 2 rfl) ?_
        refine q_get (ci := 14) (j := 8) (v := .int 19) C0 V i_DR rfl rfl hO0 (by decide) w_2011 rfl d_15_7_83 ?_
        refine lv_iload_n hx hb d_15_7_86 rfl (lv_at hl 1 rfl) ?_
        refine lv_isub hx hb d_15_7_87 ?_
        refine q_put (ci := 14) (j := 8) (v := .int (19 - lx1)) (ty := .int) C0 V i_DR o_DR n_DR rfl rfl hO0 (by decide) w_2011 rfl rfl rfl rfl (Nat.le_of_ble_eq_true rfl) d_15_7_88 (fun H locs w27 hu28 hO0 V => ?_)
        replace hO0 : w27[kO0]? = some (qO0, .inr (14, [.int 0, .ref qA1, .int 0, .ref qA2, .ref qA3, .ref qA4, .ref qA5, .ref qA6, .int (19 - lx1), .long 0, .int 0, .int 1, .ref qA7, .int 0, .ref qA8, .int 0, .ref qA9, .int 0, .ref qA10, .int 0, .int 2])) := hO0
        replace hF := q_us hF hu28 (.head _)
        refine lv_aload_n hx hb d_15_7_91 rfl (lv_at hl 2 rfl) ?_
        refine lv_aload_n hx hb d_15_7_92 rfl (lv_at hl 2 rfl) ?_
        refine q_get (ci := 14) (j := 11) (v := .int 1) C0 V i_DR rfl rfl hO0 (by decide) w_2014 rfl d_15_7_93 ?_
        refine lv_if_eq (tgt := 112) hx hb d_15_7_96 (by decide) (fun c29 => absurd c29 (by decide)) (fun c29 => ?_)
        refine lv_aload_n hx hb d_15_7_99 rfl (lv_at hl 2 rfl) ?_
        refine q_get (ci := 14) (j := 7) (v := .ref qA6) C0 V i_DR rfl rfl hO0 (by decide) w_2010 rfl d_15_7_100 ?_
        refine lv_iconst (v := 0) hx hb d_15_7_103 (by decide) ?_
        replace hA6 := (hu28 _ n_A6_O0).trans (hA6)
        refine q_iald C0 V hA6 (by unfold vp_in; decide) d_15_7_104 ?_
        refine lv_if_eq (tgt := 112) hx hb d_15_7_105 (by decide) (fun c30 => ?_) (fun c30 => ?_)
        ·
          refine lv_iconst (v := 0) hx hb d_15_7_112 (by decide) ?_
          refine q_put (ci := 14) (j := 11) (v := .int 0) (ty := .boolean) C0 V i_DR o_DR n_DR rfl rfl hO0 (by decide) w_2014 rfl rfl rfl rfl (Nat.le_of_ble_eq_true rfl) d_15_7_113 (fun H locs w31 hu32 hO0 V => ?_)
          replace hO0 : w31[kO0]? = some (qO0, .inr (14, [.int 0, .ref qA1, .int 0, .ref qA2, .ref qA3, .ref qA4, .ref qA5, .ref qA6, .int (19 - lx1), .long 0, .int 0, .int 0, .ref qA7, .int 0, .ref qA8, .int 0, .ref qA9, .int 0, .ref qA10, .int 0, .int 2])) := hO0
          replace hF := q_us hF hu32 (.head _)
          replace hA6 := (hu32 _ n_A6_O0).trans (hA6)
          exact q_retv C0 V (Or.inr (Or.inr (Or.inl ⟨lx1, lx21, c5, c19, c30, (q_Ile (x := 0) (y := lx1.toInt) (by decide) rfl (by have t1 : (lx1.toInt + 1) < 19 := by { have e1 : (19 : Int32).toInt = 19 := (by decide); have e2 : ((lx1 + 1) : Int32).toInt = (lx1.toInt + 1) := (q_addI (x := lx1.toInt) (y := 1) rfl (by decide) (by omega) (by omega)); have e3 := q_nleI c5; omega }; have t2 : 19 ≤ (lx20.toInt + lx1.toInt) := by { have e1 : (19 : Int32).toInt = 19 := (by decide); have e2 : ((lx20 + lx1) : Int32).toInt = (lx20.toInt + lx1.toInt) := (q_addI (x := lx20.toInt) (y := lx1.toInt) rfl rfl (by omega) (by omega)); have e3 := q_leI c25; omega }; omega)), (q_Ile (x := lx1.toInt) (y := 17) rfl (by decide) (by have t1 : (lx1.toInt + 1) < 19 := by { have e1 : (19 : Int32).toInt = 19 := (by decide); have e2 : ((lx1 + 1) : Int32).toInt = (lx1.toInt + 1) := (q_addI (x := lx1.toInt) (y := 1) rfl (by decide) (by omega) (by omega)); have e3 := q_nleI c5; omega }; have t2 : 19 ≤ (lx20.toInt + lx1.toInt) := by { have e1 : (19 : Int32).toInt = 19 := (by decide); have e2 : ((lx20 + lx1) : Int32).toInt = (lx20.toInt + lx1.toInt) := (q_addI (x := lx20.toInt) (y := lx1.toInt) rfl rfl (by omega) (by omega)); have e3 := q_leI c25; omega }; omega)), hF, hO0, hA6⟩))) d_15_7_116
        ·
          refine lv_iconst (v := 1) hx hb d_15_7_108 (by decide) ?_
          refine lv_goto (tgt := 113) hx hb d_15_7_109 (by decide) ?_
          refine q_put (ci := 14) (j := 11) (v := .int 1) (ty := .boolean) C0 V i_DR o_DR n_DR rfl rfl hO0 (by decide) w_2014 rfl rfl rfl rfl (Nat.le_of_ble_eq_true rfl) d_15_7_113 (fun H locs w33 hu34 hO0 V => ?_)
          replace hO0 : w33[kO0]? = some (qO0, .inr (14, [.int 0, .ref qA1, .int 0, .ref qA2, .ref qA3, .ref qA4, .ref qA5, .ref qA6, .int (19 - lx1), .long 0, .int 0, .int 1, .ref qA7, .int 0, .ref qA8, .int 0, .ref qA9, .int 0, .ref qA10, .int 0, .int 2])) := hO0
          replace hF := q_us hF hu34 (.head _)
          replace hA6 := (hu34 _ n_A6_O0).trans (hA6)
          exact q_retv C0 V (Or.inr (Or.inr (Or.inr (⟨lx1, lx21, c5, c19, c30, (q_Ile (x := 0) (y := lx1.toInt) (by decide) rfl (by have t1 : (lx1.toInt + 1) < 19 := by { have e1 : (19 : Int32).toInt = 19 := (by decide); have e2 : ((lx1 + 1) : Int32).toInt = (lx1.toInt + 1) := (q_addI (x := lx1.toInt) (y := 1) rfl (by decide) (by omega) (by omega)); have e3 := q_nleI c5; omega }; have t2 : 19 ≤ (lx20.toInt + lx1.toInt) := by { have e1 : (19 : Int32).toInt = 19 := (by decide); have e2 : ((lx20 + lx1) : Int32).toInt = (lx20.toInt + lx1.toInt) := (q_addI (x := lx20.toInt) (y := lx1.toInt) rfl rfl (by omega) (by omega)); have e3 := q_leI c25; omega }; omega)), (q_Ile (x := lx1.toInt) (y := 17) rfl (by decide) (by have t1 : (lx1.toInt + 1) < 19 := by { have e1 : (19 : Int32).toInt = 19 := (by decide); have e2 : ((lx1 + 1) : Int32).toInt = (lx1.toInt + 1) := (q_addI (x := lx1.toInt) (y := 1) rfl (by decide) (by omega) (by omega)); have e3 := q_nleI c5; omega }; have t2 : 19 ≤ (lx20.toInt + lx1.toInt) := by { have e1 : (19 : Int32).toInt = 19 := (by decide); have e2 : ((lx20 + lx1) : Int32).toInt = (lx20.toInt + lx1.toInt) := (q_addI (x := lx20.toInt) (y := lx1.toInt) rfl rfl (by omega) (by omega)); have e3 := q_leI c25; omega }; omega)), hF, hO0, hA6⟩)))) d_15_7_116
      ·
        refine lv_aload_n hx hb d_15_7_39 rfl (lv_at hl 2 rfl) ?_
        refine q_get (ci := 14) (j := 7) (v := .ref qA6) C0 V i_DR rfl rfl hO0 (by decide) w_2010 rfl d_15_7_40 ?_
        refine lv_iload_n hx hb d_15_7_43 rfl (lv_at hl 0 rfl) ?_
        refine lv_aload_n hx hb d_15_7_44 rfl (lv_at hl 2 rfl) ?_
        refine q_get (ci := 14) (j := 7) (v := .ref qA6) C0 V i_DR rfl rfl hO0 (by decide) w_2010 rfl d_15_7_45 ?_
        refine lv_iload_n hx hb d_15_7_48 rfl (lv_at hl 0 rfl) ?_
        refine lv_iload_n hx hb d_15_7_49 rfl (lv_at hl 1 rfl) ?_
        refine lv_iadd hx hb d_15_7_50 ?_
        refine q_iald C0 V hA6 (q_ix (x := (lx20.toInt + lx1.toInt)) (q_addI (x := lx20.toInt) (y := lx1.toInt) rfl rfl (by have t1 : (lx1.toInt + 1) < 19 := by { have e1 : (19 : Int32).toInt = 19 := (by decide); have e2 : ((lx1 + 1) : Int32).toInt = (lx1.toInt + 1) := (q_addI (x := lx1.toInt) (y := 1) rfl (by decide) (by omega) (by omega)); have e3 := q_nleI c5; omega }; have t2 : (lx20.toInt + lx1.toInt) < 19 := by { have e1 : (19 : Int32).toInt = 19 := (by decide); have e2 : ((lx20 + lx1) : Int32).toInt = (lx20.toInt + lx1.toInt) := (q_addI (x := lx20.toInt) (y := lx1.toInt) rfl rfl (by omega) (by omega)); have e3 := q_nleI c25; omega }; omega) (by have t1 : (lx1.toInt + 1) < 19 := by { have e1 : (19 : Int32).toInt = 19 := (by decide); have e2 : ((lx1 + 1) : Int32).toInt = (lx1.toInt + 1) := (q_addI (x := lx1.toInt) (y := 1) rfl (by decide) (by omega) (by omega)); have e3 := q_nleI c5; omega }; have t2 : (lx20.toInt + lx1.toInt) < 19 := by { have e1 : (19 : Int32).toInt = 19 := (by decide); have e2 : ((lx20 + lx1) : Int32).toInt = (lx20.toInt + lx1.toInt) := (q_addI (x := lx20.toInt) (y := lx1.toInt) rfl rfl (by omega) (by omega)); have e3 := q_nleI c25; omega }; omega)) (by have t1 : (lx1.toInt + 1) < 19 := by { have e1 : (19 : Int32).toInt = 19 := (by decide); have e2 : ((lx1 + 1) : Int32).toInt = (lx1.toInt + 1) := (q_addI (x := lx1.toInt) (y := 1) rfl (by decide) (by omega) (by omega)); have e3 := q_nleI c5; omega }; have t2 : (lx20.toInt + lx1.toInt) < 19 := by { have e1 : (19 : Int32).toInt = 19 := (by decide); have e2 : ((lx20 + lx1) : Int32).toInt = (lx20.toInt + lx1.toInt) := (q_addI (x := lx20.toInt) (y := lx1.toInt) rfl rfl (by omega) (by omega)); have e3 := q_nleI c25; omega }; omega) (by have t1 : (lx1.toInt + 1) < 19 := by { have e1 : (19 : Int32).toInt = 19 := (by decide); have e2 : ((lx1 + 1) : Int32).toInt = (lx1.toInt + 1) := (q_addI (x := lx1.toInt) (y := 1) rfl (by decide) (by omega) (by omega)); have e3 := q_nleI c5; omega }; have t2 : (lx20.toInt + lx1.toInt) < 19 := by { have e1 : (19 : Int32).toInt = 19 := (by decide); have e2 : ((lx20 + lx1) : Int32).toInt = (lx20.toInt + lx1.toInt) := (q_addI (x := lx20.toInt) (y := lx1.toInt) rfl rfl (by omega) (by omega)); have e3 := q_nleI c25; omega }; omega)) d_15_7_51 ?_
        refine q_iast C0 V hA6 (q_ix (x := lx20.toInt) rfl (by have t1 : (lx1.toInt + 1) < 19 := by { have e1 : (19 : Int32).toInt = 19 := (by decide); have e2 : ((lx1 + 1) : Int32).toInt = (lx1.toInt + 1) := (q_addI (x := lx1.toInt) (y := 1) rfl (by decide) (by omega) (by omega)); have e3 := q_nleI c5; omega }; have t2 : (lx20.toInt + lx1.toInt) < 19 := by { have e1 : (19 : Int32).toInt = 19 := (by decide); have e2 : ((lx20 + lx1) : Int32).toInt = (lx20.toInt + lx1.toInt) := (q_addI (x := lx20.toInt) (y := lx1.toInt) rfl rfl (by omega) (by omega)); have e3 := q_nleI c25; omega }; omega) (by have t1 : (lx1.toInt + 1) < 19 := by { have e1 : (19 : Int32).toInt = 19 := (by decide); have e2 : ((lx1 + 1) : Int32).toInt = (lx1.toInt + 1) := (q_addI (x := lx1.toInt) (y := 1) rfl (by decide) (by omega) (by omega)); have e3 := q_nleI c5; omega }; have t2 : (lx20.toInt + lx1.toInt) < 19 := by { have e1 : (19 : Int32).toInt = 19 := (by decide); have e2 : ((lx20 + lx1) : Int32).toInt = (lx20.toInt + lx1.toInt) := (q_addI (x := lx20.toInt) (y := lx1.toInt) rfl rfl (by omega) (by omega)); have e3 := q_nleI c25; omega }; omega)) d_15_7_52 (fun H locs w35 hu36 hA6 V => ?_)
        replace hA6 : w35[kA6]? = some (qA6, .inl (g 0, 4400, .inl (upd lx21 lx20.toNatClampNeg (lx21 (lx20 + lx1).toNatClampNeg)))) := hA6
        replace hF := q_us hF hu36 (.tail _ (.head _))
        refine lv_iinc (v := lx20 + 1) (lv' := [(2, .int (lx20 + 1)), (1, .int lx1), (0, .ref qO0)]) hx hb d_15_7_53 hl (k := 0) rfl (rfl) (by decide) rfl (fun ls hl => ?_)
        refine lv_goto (tgt := 29) hx hb d_15_7_56 (by decide) ?_
        replace hO0 := (hu36 _ n_O0_A6).trans (hO0)
        exact ih24 ((lx20 + 1 : Int32), (upd lx21 lx20.toNatClampNeg (lx21 (lx20 + lx1).toNatClampNeg) : Nat → Int32)) _ _ _ _ (show ((19 - lx1.toInt) - (lx20 + 1).toInt).toNat < ((19 - lx1.toInt) - lx20.toInt).toNat from by have t1 : (lx1.toInt + 1) < 19 := by { have e1 : (19 : Int32).toInt = 19 := (by decide); have e2 : ((lx1 + 1) : Int32).toInt = (lx1.toInt + 1) := (q_addI (x := lx1.toInt) (y := 1) rfl (by decide) (by omega) (by omega)); have e3 := q_nleI c5; omega }; have t2 : (lx20.toInt + lx1.toInt) < 19 := by { have e1 : (19 : Int32).toInt = 19 := (by decide); have e2 : ((lx20 + lx1) : Int32).toInt = (lx20.toInt + lx1.toInt) := (q_addI (x := lx20.toInt) (y := lx1.toInt) rfl rfl (by omega) (by omega)); have e3 := q_nleI c25; omega }; have e : (lx20 + 1).toInt = (lx20.toInt + 1) := (q_addI (x := lx20.toInt) (y := 1) rfl (by decide) (by have t1 : (lx1.toInt + 1) < 19 := by { have e1 : (19 : Int32).toInt = 19 := (by decide); have e2 : ((lx1 + 1) : Int32).toInt = (lx1.toInt + 1) := (q_addI (x := lx1.toInt) (y := 1) rfl (by decide) (by omega) (by omega)); have e3 := q_nleI c5; omega }; have t2 : (lx20.toInt + lx1.toInt) < 19 := by { have e1 : (19 : Int32).toInt = 19 := (by decide); have e2 : ((lx20 + lx1) : Int32).toInt = (lx20.toInt + lx1.toInt) := (q_addI (x := lx20.toInt) (y := lx1.toInt) rfl rfl (by omega) (by omega)); have e3 := q_nleI c25; omega }; omega) (by have t1 : (lx1.toInt + 1) < 19 := by { have e1 : (19 : Int32).toInt = 19 := (by decide); have e2 : ((lx1 + 1) : Int32).toInt = (lx1.toInt + 1) := (q_addI (x := lx1.toInt) (y := 1) rfl (by decide) (by omega) (by omega)); have e3 := q_nleI c5; omega }; have t2 : (lx20.toInt + lx1.toInt) < 19 := by { have e1 : (19 : Int32).toInt = 19 := (by decide); have e2 : ((lx20 + lx1) : Int32).toInt = (lx20.toInt + lx1.toInt) := (q_addI (x := lx20.toInt) (y := lx1.toInt) rfl rfl (by omega) (by omega)); have e3 := q_nleI c25; omega }; omega)); omega) ⟨(show 0 ≤ (lx20 + 1).toInt ∧ ((lx20 + 1).toInt ≤ (19 - lx1.toInt) ∨ (lx20 + 1).toInt = 0) from by have t1 : (lx1.toInt + 1) < 19 := by { have e1 : (19 : Int32).toInt = 19 := (by decide); have e2 : ((lx1 + 1) : Int32).toInt = (lx1.toInt + 1) := (q_addI (x := lx1.toInt) (y := 1) rfl (by decide) (by omega) (by omega)); have e3 := q_nleI c5; omega }; have t2 : (lx20.toInt + lx1.toInt) < 19 := by { have e1 : (19 : Int32).toInt = 19 := (by decide); have e2 : ((lx20 + lx1) : Int32).toInt = (lx20.toInt + lx1.toInt) := (q_addI (x := lx20.toInt) (y := lx1.toInt) rfl rfl (by omega) (by omega)); have e3 := q_nleI c25; omega }; have e : (lx20 + 1).toInt = (lx20.toInt + 1) := (q_addI (x := lx20.toInt) (y := 1) rfl (by decide) (by have t1 : (lx1.toInt + 1) < 19 := by { have e1 : (19 : Int32).toInt = 19 := (by decide); have e2 : ((lx1 + 1) : Int32).toInt = (lx1.toInt + 1) := (q_addI (x := lx1.toInt) (y := 1) rfl (by decide) (by omega) (by omega)); have e3 := q_nleI c5; omega }; have t2 : (lx20.toInt + lx1.toInt) < 19 := by { have e1 : (19 : Int32).toInt = 19 := (by decide); have e2 : ((lx20 + lx1) : Int32).toInt = (lx20.toInt + lx1.toInt) := (q_addI (x := lx20.toInt) (y := lx1.toInt) rfl rfl (by omega) (by omega)); have e3 := q_nleI c25; omega }; omega) (by have t1 : (lx1.toInt + 1) < 19 := by { have e1 : (19 : Int32).toInt = 19 := (by decide); have e2 : ((lx1 + 1) : Int32).toInt = (lx1.toInt + 1) := (q_addI (x := lx1.toInt) (y := 1) rfl (by decide) (by omega) (by omega)); have e3 := q_nleI c5; omega }; have t2 : (lx20.toInt + lx1.toInt) < 19 := by { have e1 : (19 : Int32).toInt = 19 := (by decide); have e2 : ((lx20 + lx1) : Int32).toInt = (lx20.toInt + lx1.toInt) := (q_addI (x := lx20.toInt) (y := lx1.toInt) rfl rfl (by omega) (by omega)); have e3 := q_nleI c25; omega }; omega)); omega), V, q_lw hl (q_lw1 0 rfl (q_lw1 1 rfl (q_lw1 2 rfl q_lw0))), hF, hO0, hA6⟩
    ·
      refine lv_iinc (v := lx1 + 1) (lv' := [(1, .int (lx1 + 1)), (0, .ref qO0)]) hx hb d_15_7_21 hl (k := 0) rfl (rfl) (by decide) rfl (fun ls hl => ?_)
      refine lv_goto (tgt := 2) hx hb d_15_7_24 (by decide) ?_
      exact ih4 ((lx1 + 1 : Int32)) _ _ _ _ (show (18 - (lx1 + 1).toInt).toNat < (18 - lx1.toInt).toNat from by have t1 : (lx1.toInt + 1) < 19 := by { have e1 : (19 : Int32).toInt = 19 := (by decide); have e2 : ((lx1 + 1) : Int32).toInt = (lx1.toInt + 1) := (q_addI (x := lx1.toInt) (y := 1) rfl (by decide) (by omega) (by omega)); have e3 := q_nleI c5; omega }; have e : (lx1 + 1).toInt = (lx1.toInt + 1) := (q_addI (x := lx1.toInt) (y := 1) rfl (by decide) (by have t1 : (lx1.toInt + 1) < 19 := by { have e1 : (19 : Int32).toInt = 19 := (by decide); have e2 : ((lx1 + 1) : Int32).toInt = (lx1.toInt + 1) := (q_addI (x := lx1.toInt) (y := 1) rfl (by decide) (by omega) (by omega)); have e3 := q_nleI c5; omega }; omega) (by have t1 : (lx1.toInt + 1) < 19 := by { have e1 : (19 : Int32).toInt = 19 := (by decide); have e2 : ((lx1 + 1) : Int32).toInt = (lx1.toInt + 1) := (q_addI (x := lx1.toInt) (y := 1) rfl (by decide) (by omega) (by omega)); have e3 := q_nleI c5; omega }; omega)); omega) ⟨(show 0 ≤ (lx1 + 1).toInt ∧ ((lx1 + 1).toInt ≤ 18 ∨ (lx1 + 1).toInt = 0) from by have t1 : (lx1.toInt + 1) < 19 := by { have e1 : (19 : Int32).toInt = 19 := (by decide); have e2 : ((lx1 + 1) : Int32).toInt = (lx1.toInt + 1) := (q_addI (x := lx1.toInt) (y := 1) rfl (by decide) (by omega) (by omega)); have e3 := q_nleI c5; omega }; have e : (lx1 + 1).toInt = (lx1.toInt + 1) := (q_addI (x := lx1.toInt) (y := 1) rfl (by decide) (by have t1 : (lx1.toInt + 1) < 19 := by { have e1 : (19 : Int32).toInt = 19 := (by decide); have e2 : ((lx1 + 1) : Int32).toInt = (lx1.toInt + 1) := (q_addI (x := lx1.toInt) (y := 1) rfl (by decide) (by omega) (by omega)); have e3 := q_nleI c5; omega }; omega) (by have t1 : (lx1.toInt + 1) < 19 := by { have e1 : (19 : Int32).toInt = 19 := (by decide); have e2 : ((lx1 + 1) : Int32).toInt = (lx1.toInt + 1) := (q_addI (x := lx1.toInt) (y := 1) rfl (by decide) (by omega) (by omega)); have e3 := q_nleI c5; omega }; omega)); omega), V, q_lw hl (q_lw1 0 rfl (q_lw1 1 rfl q_lw0)), hF, hO0, hA6⟩
set_option maxRecDepth 100000 in
set_option maxHeartbeats 4000000 in
theorem c_DR_store_8 (l : Launch) (D : va_G) (g : Nat → ClassId) (ws : va_W) (kO0 kA2 kA3 kA4 kA5 kA6 qO0 qA1 qA2 qA3 qA4 qA5 qA6 qA7 qA8 qA9 qA10 : Nat) (x1 : Int32) (f2 : Nat → Int32) (hO0 : ws[kO0]? = some (qO0, .inr (14, [.int 0, .ref qA1, .int 0, .ref qA2, .ref qA3, .ref qA4, .ref qA5, .ref qA6, .int 19, .long 0, .int 0, .int 1, .ref qA7, .int 0, .ref qA8, .int 0, .ref qA9, .int 0, .ref qA10, .int 0, .int 2]))) (hA2 : ws[kA2]? = some (qA2, .inl (g 0, 10000, .inl (fun _ => 0)))) (hA3 : ws[kA3]? = some (qA3, .inl (g 0, 10, .inl (upd (upd (upd (upd (upd (upd (upd (upd (upd (upd (fun _ => 0) 0 1) 1 1) 2 1) 3 1) 4 1) 5 1) 6 1) 7 1) 8 1) 9 1)))) (hA4 : ws[kA4]? = some (qA4, .inl (g 3, 10, .inl (fun _ => 0)))) (hA5 : ws[kA5]? = some (qA5, .inl (g 0, 10, .inl (fun _ => 0)))) (hA6 : ws[kA6]? = some (qA6, .inl (g 0, 4400, .inl f2))) (n_A2_A3 : kA2 ≠ kA3) (n_A2_A4 : kA2 ≠ kA4) (n_A2_A5 : kA2 ≠ kA5) (n_A2_A6 : kA2 ≠ kA6) (n_A3_A4 : kA3 ≠ kA4) (n_A3_A5 : kA3 ≠ kA5) (n_A3_A6 : kA3 ≠ kA6) (n_A4_A5 : kA4 ≠ kA5) (n_A4_A6 : kA4 ≠ kA6) (n_A5_A6 : kA5 ≠ kA6) (x1lo : 0 ≤ x1) (x1hi : x1 ≤ 9) : q_mV l y_DR_store prog_15_method_8_code 3 2 0 0 D g [.ref qO0, .int x1] ws (fun u => ((f2 (18 : Int32).toNatClampNeg) = 0 ∧ q_un ws u [kO0, kA2, kA3, kA4, kA5, kA6] ∧ u[kO0]? = some (qO0, .inr (14, [.int 0, .ref qA1, .int 0, .ref qA2, .ref qA3, .ref qA4, .ref qA5, .ref qA6, .int 1, .long 0, .int 0, .int 0, .ref qA7, .int 0, .ref qA8, .int 0, .ref qA9, .int 0, .ref qA10, .int 0, .int 2])) ∧ u[kA2]? = some (qA2, .inl (g 0, 10000, .inl (upd (fun _ => 0) ((1000 * x1).toNatClampNeg) (f2 (18 : Int32).toNatClampNeg)))) ∧ u[kA3]? = some (qA3, .inl (g 0, 10, .inl (upd (upd (upd (upd (upd (upd (upd (upd (upd (upd (upd (fun _ => 0) 0 1) 1 1) 2 1) 3 1) 4 1) 5 1) 6 1) 7 1) 8 1) 9 1) x1.toNatClampNeg 1))) ∧ u[kA4]? = some (qA4, .inl (g 3, 10, .inl (fun _ => 0))) ∧ u[kA5]? = some (qA5, .inl (g 0, 10, .inl (fun _ => 0))) ∧ u[kA6]? = some (qA6, .inl (g 0, 4400, .inl (upd f2 0 (f2 (18 : Int32).toNatClampNeg))))) ∨ (¬ (f2 (18 : Int32).toNatClampNeg) = 0 ∧ q_un ws u [kO0, kA2, kA3, kA4, kA5, kA6] ∧ u[kO0]? = some (qO0, .inr (14, [.int 0, .ref qA1, .int 0, .ref qA2, .ref qA3, .ref qA4, .ref qA5, .ref qA6, .int 1, .long 0, .int 0, .int 1, .ref qA7, .int 0, .ref qA8, .int 0, .ref qA9, .int 0, .ref qA10, .int 0, .int 2])) ∧ u[kA2]? = some (qA2, .inl (g 0, 10000, .inl (upd (fun _ => 0) ((1000 * x1).toNatClampNeg) (f2 (18 : Int32).toNatClampNeg)))) ∧ u[kA3]? = some (qA3, .inl (g 0, 10, .inl (upd (upd (upd (upd (upd (upd (upd (upd (upd (upd (upd (fun _ => 0) 0 1) 1 1) 2 1) 3 1) 4 1) 5 1) 6 1) 7 1) 8 1) 9 1) x1.toNatClampNeg 1))) ∧ u[kA4]? = some (qA4, .inl (g 3, 10, .inl (upd (fun _ => 0) x1.toNatClampNeg (vp_nar .boolean 1)))) ∧ u[kA5]? = some (qA5, .inl (g 0, 10, .inl (fun _ => 0))) ∧ u[kA6]? = some (qA6, .inl (g 0, 4400, .inl (upd f2 0 (f2 (18 : Int32).toNatClampNeg))))) ∨ (∃ (ex0 : Int32) (ex1 : Nat → Int32) (ex2 : Nat → Int32), ¬ 19 ≤ (ex0 + 1) ∧ ¬ (f2 ex0.toNatClampNeg) = 0 ∧ (ex2 (0 : Int32).toNatClampNeg) = 0 ∧ 0 ≤ ex0 ∧ ex0 ≤ 17 ∧ q_un ws u [kO0, kA2, kA3, kA4, kA5, kA6] ∧ u[kO0]? = some (qO0, .inr (14, [.int 0, .ref qA1, .int 0, .ref qA2, .ref qA3, .ref qA4, .ref qA5, .ref qA6, .int (19 - ex0), .long 0, .int 0, .int 0, .ref qA7, .int 0, .ref qA8, .int 0, .ref qA9, .int 0, .ref qA10, .int 0, .int 2])) ∧ u[kA2]? = some (qA2, .inl (g 0, 10000, .inl ex1)) ∧ u[kA3]? = some (qA3, .inl (g 0, 10, .inl (upd (upd (upd (upd (upd (upd (upd (upd (upd (upd (upd (fun _ => 0) 0 1) 1 1) 2 1) 3 1) 4 1) 5 1) 6 1) 7 1) 8 1) 9 1) x1.toNatClampNeg (19 - ex0)))) ∧ u[kA4]? = some (qA4, .inl (g 3, 10, .inl (fun _ => 0))) ∧ u[kA5]? = some (qA5, .inl (g 0, 10, .inl (fun _ => 0))) ∧ u[kA6]? = some (qA6, .inl (g 0, 4400, .inl ex2))) ∨ (∃ (ex0 : Int32) (ex1 : Nat → Int32) (ex2 : Nat → Int32), ¬ 19 ≤ (ex0 + 1) ∧ ¬ (f2 ex0.toNatClampNeg) = 0 ∧ ¬ (ex2 (0 : Int32).toNatClampNeg) = 0 ∧ 0 ≤ ex0 ∧ ex0 ≤ 17 ∧ q_un ws u [kO0, kA2, kA3, kA4, kA5, kA6] ∧ u[kO0]? = some (qO0, .inr (14, [.int 0, .ref qA1, .int 0, .ref qA2, .ref qA3, .ref qA4, .ref qA5, .ref qA6, .int (19 - ex0), .long 0, .int 0, .int 1, .ref qA7, .int 0, .ref qA8, .int 0, .ref qA9, .int 0, .ref qA10, .int 0, .int 2])) ∧ u[kA2]? = some (qA2, .inl (g 0, 10000, .inl ex1)) ∧ u[kA3]? = some (qA3, .inl (g 0, 10, .inl (upd (upd (upd (upd (upd (upd (upd (upd (upd (upd (upd (fun _ => 0) 0 1) 1 1) 2 1) 3 1) 4 1) 5 1) 6 1) 7 1) 8 1) 9 1) x1.toNatClampNeg (19 - ex0)))) ∧ u[kA4]? = some (qA4, .inl (g 3, 10, .inl (upd (fun _ => 0) x1.toNatClampNeg (vp_nar .boolean 1)))) ∧ u[kA5]? = some (qA5, .inl (g 0, 10, .inl (fun _ => 0))) ∧ u[kA6]? = some (qA6, .inl (g 0, 4400, .inl ex2)))) := by
  intro sz
  refine q_into (by decide) (Nat.le_of_ble_eq_true rfl) ?_
  intro p e s m below meth c ls hsz C0 V hl
  have hx := C0.1
  have hb := C0.2.1
  have hl : lv_has ls 3 [(0, .ref qO0), (1, .int x1)] := hl
  have n_A2_O0 := q_df hA2 hO0
  have n_A3_A2 := Ne.symm n_A2_A3
  have n_A3_O0 := q_df hA3 hO0
  have n_A4_A2 := Ne.symm n_A2_A4
  have n_A4_A3 := Ne.symm n_A3_A4
  have n_A4_O0 := q_df hA4 hO0
  have n_A5_A2 := Ne.symm n_A2_A5
  have n_A5_A3 := Ne.symm n_A3_A5
  have n_A5_A4 := Ne.symm n_A4_A5
  have n_A5_O0 := q_df hA5 hO0
  have n_A6_A2 := Ne.symm n_A2_A6
  have n_A6_A3 := Ne.symm n_A3_A6
  have n_A6_A4 := Ne.symm n_A4_A6
  have n_A6_A5 := Ne.symm n_A5_A6
  have n_O0_A2 := Ne.symm (q_df hA2 hO0)
  have n_O0_A3 := Ne.symm (q_df hA3 hO0)
  have n_O0_A4 := Ne.symm (q_df hA4 hO0)
  have n_O0_A5 := Ne.symm (q_df hA5 hO0)
  have hF : q_un ws ws [kO0, kA2, kA3, kA4, kA5, kA6] := q_u0
  refine lv_aload_n hx hb d_15_8_0 rfl (lv_at hl 0 rfl) ?_
  refine q_gov V (q_runV (As := []) (rest := []) (d := 1) (mc := 0) (ms := 0) (ci := 14) C0 V rfl LV_DR_59 (c_DR_trim_8 l D g ws kO0 kA6 qO0 qA1 qA2 qA3 qA4 qA5 qA6 qA7 qA8 qA9 qA10 f2 hO0 hA6 _) rfl rfl hO0 rfl hl.1 rfl (Nat.le_of_ble_eq_true rfl) ⟨by decide, by decide⟩ ⟨Nat.le_of_ble_eq_true rfl, Nat.le_of_ble_eq_true rfl⟩ d_15_8_1) (fun u2 H locs hp1 V => ?_)
  rcases hp1 with ⟨c3, hg4, hO0, hA6⟩ | ⟨c5, hg6, hO0, hA6⟩ | ⟨y12, y13, c7, c8, c9, f10, f11, hg14, hO0, hA6⟩ | ⟨y20, y21, c15, c16, c17, f18, f19, hg22, hO0, hA6⟩
  ·
    replace hF := q_uc hF hg4 (q_sc (.head _) (q_sc (List.mem_of_getElem? (i := 5) rfl) (fun _ h => absurd h List.not_mem_nil)))
    refine lv_aload_n hx hb d_15_8_4 rfl (lv_at hl 0 rfl) ?_
    refine q_get (ci := 14) (j := 8) (v := .int 1) C0 V i_DR rfl rfl hO0 (by decide) w_2011 rfl d_15_8_5 ?_
    refine lv_sipush (v := 1000) hx hb d_15_8_8 (by decide) ?_
    refine lv_icmp_gt (tgt := 36) hx hb d_15_8_11 (by decide) (fun c23 => absurd c23 (by decide)) (fun c23 => ?_)
    refine lv_aload_n hx hb d_15_8_14 rfl (lv_at hl 0 rfl) ?_
    refine q_get (ci := 14) (j := 9) (v := .long 0) C0 V i_DR rfl rfl hO0 (by decide) w_2012 rfl d_15_8_15 ?_
    refine q_ldc2 C0 rfl w_2417 d_15_8_18 ?_
    refine W.lcmp hx hb d_15_8_21 ?_
    refine q_ti (v := 1) (by decide) ?_
    refine lv_if_lt (tgt := 36) hx hb d_15_8_22 (by decide) (fun c24 => absurd c24 (by decide)) (fun c24 => ?_)
    refine lv_aload_n hx hb d_15_8_25 rfl (lv_at hl 0 rfl) ?_
    refine q_get (ci := 14) (j := 9) (v := .long 0) C0 V i_DR rfl rfl hO0 (by decide) w_2012 rfl d_15_8_26 ?_
    refine q_ldc2 C0 rfl w_2418 d_15_8_29 ?_
    refine W.lcmp hx hb d_15_8_32 ?_
    refine q_ti (v := (-1)) (by decide) ?_
    refine lv_if_le (tgt := 45) hx hb d_15_8_33 (by decide) (fun c25 => ?_) (fun c25 => absurd (by decide) c25)
    refine lv_iconst (v := 0) hx hb d_15_8_45 (by decide) ?_
    refine lv_istore_n (lv' := [(2, .int 0), (0, .ref qO0), (1, .int x1)]) hx hb d_15_8_46 rfl hl (by decide) rfl (fun ls hl => ?_)
    refine lv_iload_n hx hb d_15_8_47 rfl (lv_at hl 0 rfl) ?_
    refine lv_aload_n hx hb d_15_8_48 rfl (lv_at hl 1 rfl) ?_
    refine q_get (ci := 14) (j := 8) (v := .int 1) C0 V i_DR rfl rfl hO0 (by decide) w_2011 rfl d_15_8_49 ?_
    refine lv_icmp_ge (tgt := 79) hx hb d_15_8_52 (by decide) (fun c26 => absurd c26 (by decide)) (fun c26 => ?_)
    refine lv_aload_n hx hb d_15_8_55 rfl (lv_at hl 1 rfl) ?_
    refine q_get (ci := 14) (j := 3) (v := .ref qA2) C0 V i_DR rfl rfl hO0 (by decide) w_2002 rfl d_15_8_56 ?_
    refine lv_sipush (v := 1000) hx hb d_15_8_59 (by decide) ?_
    refine lv_iload_n hx hb d_15_8_62 rfl (lv_at hl 2 rfl) ?_
    refine lv_imul hx hb d_15_8_63 ?_
    refine lv_iload_n hx hb d_15_8_64 rfl (lv_at hl 0 rfl) ?_
    refine lv_iadd hx hb d_15_8_65 ?_
    refine q_ti (v := 1000 * x1) (by simp) ?_
    refine lv_aload_n hx hb d_15_8_66 rfl (lv_at hl 1 rfl) ?_
    refine q_get (ci := 14) (j := 7) (v := .ref qA6) C0 V i_DR rfl rfl hO0 (by decide) w_2010 rfl d_15_8_67 ?_
    refine lv_iload_n hx hb d_15_8_70 rfl (lv_at hl 0 rfl) ?_
    refine q_iald C0 V hA6 (by unfold vp_in; decide) d_15_8_71 ?_
    refine q_ti (v := (f2 (18 : Int32).toNatClampNeg)) (by first | rfl | decide | simp [upd, vp_updL, sb_cl0]) ?_
    replace hA2 := (hg4 _ (q_nc n_A2_O0 (q_nc n_A2_A6 List.not_mem_nil))).trans (hA2)
    refine q_iast C0 V hA2 (q_ix (x := (1000 * x1.toInt)) (q_mulI (x := 1000) (y := x1.toInt) (by decide) rfl (by have t1 : 0 ≤ x1.toInt := q_leI x1lo; have t2 : x1.toInt ≤ 9 := q_leI x1hi; omega) (by have t1 : 0 ≤ x1.toInt := q_leI x1lo; have t2 : x1.toInt ≤ 9 := q_leI x1hi; omega)) (by have t1 : 0 ≤ x1.toInt := q_leI x1lo; have t2 : x1.toInt ≤ 9 := q_leI x1hi; omega) (by have t1 : 0 ≤ x1.toInt := q_leI x1lo; have t2 : x1.toInt ≤ 9 := q_leI x1hi; omega)) d_15_8_72 (fun H locs w27 hu28 hA2 V => ?_)
    replace hA2 : w27[kA2]? = some (qA2, .inl (g 0, 10000, .inl (upd (fun _ => 0) ((1000 * x1).toNatClampNeg) (f2 (18 : Int32).toNatClampNeg)))) := hA2
    replace hF := q_us hF hu28 (.tail _ (.head _))
    refine lv_iinc (v := 1) (lv' := [(2, .int 1), (0, .ref qO0), (1, .int x1)]) hx hb d_15_8_73 hl (k := 0) rfl (by decide) (by decide) rfl (fun ls hl => ?_)
    refine lv_goto (tgt := 47) hx hb d_15_8_76 (by decide) ?_
    refine lv_iload_n hx hb d_15_8_47 rfl (lv_at hl 0 rfl) ?_
    refine lv_aload_n hx hb d_15_8_48 rfl (lv_at hl 1 rfl) ?_
    replace hO0 := (hu28 _ n_O0_A2).trans (hO0)
    refine q_get (ci := 14) (j := 8) (v := .int 1) C0 V i_DR rfl rfl hO0 (by decide) w_2011 rfl d_15_8_49 ?_
    refine lv_icmp_ge (tgt := 79) hx hb d_15_8_52 (by decide) (fun c29 => ?_) (fun c29 => absurd (by decide) c29)
    refine lv_aload_n hx hb d_15_8_79 rfl (lv_at hl 1 rfl) ?_
    refine q_get (ci := 14) (j := 4) (v := .ref qA3) C0 V i_DR rfl rfl hO0 (by decide) w_2004 rfl d_15_8_80 ?_
    refine lv_iload_n hx hb d_15_8_83 rfl (lv_at hl 2 rfl) ?_
    refine lv_aload_n hx hb d_15_8_84 rfl (lv_at hl 1 rfl) ?_
    refine q_get (ci := 14) (j := 8) (v := .int 1) C0 V i_DR rfl rfl hO0 (by decide) w_2011 rfl d_15_8_85 ?_
    replace hA3 := (hu28 _ n_A3_A2).trans ((hg4 _ (q_nc n_A3_O0 (q_nc n_A3_A6 List.not_mem_nil))).trans (hA3))
    refine q_iast C0 V hA3 (q_ix (x := x1.toInt) rfl (by have t1 : 0 ≤ x1.toInt := q_leI x1lo; have t2 : x1.toInt ≤ 9 := q_leI x1hi; omega) (by have t1 : 0 ≤ x1.toInt := q_leI x1lo; have t2 : x1.toInt ≤ 9 := q_leI x1hi; omega)) d_15_8_88 (fun H locs w30 hu31 hA3 V => ?_)
    replace hA3 : w30[kA3]? = some (qA3, .inl (g 0, 10, .inl (upd (upd (upd (upd (upd (upd (upd (upd (upd (upd (upd (fun _ => 0) 0 1) 1 1) 2 1) 3 1) 4 1) 5 1) 6 1) 7 1) 8 1) 9 1) x1.toNatClampNeg 1))) := hA3
    replace hF := q_us hF hu31 (.tail _ (.tail _ (.head _)))
    refine lv_aload_n hx hb d_15_8_89 rfl (lv_at hl 1 rfl) ?_
    replace hO0 := (hu31 _ n_O0_A3).trans (hO0)
    refine q_get (ci := 14) (j := 5) (v := .ref qA4) C0 V i_DR rfl rfl hO0 (by decide) w_2006 rfl d_15_8_90 ?_
    refine lv_iload_n hx hb d_15_8_93 rfl (lv_at hl 2 rfl) ?_
    refine lv_aload_n hx hb d_15_8_94 rfl (lv_at hl 1 rfl) ?_
    refine q_get (ci := 14) (j := 11) (v := .int 0) C0 V i_DR rfl rfl hO0 (by decide) w_2014 rfl d_15_8_95 ?_
    replace hA4 := (hu31 _ n_A4_A3).trans ((hu28 _ n_A4_A2).trans ((hg4 _ (q_nc n_A4_O0 (q_nc n_A4_A6 List.not_mem_nil))).trans (hA4)))
    refine q_zast C0 V hA4 (q_ix (x := x1.toInt) rfl (by have t1 : 0 ≤ x1.toInt := q_leI x1lo; have t2 : x1.toInt ≤ 9 := q_leI x1hi; omega) (by have t1 : 0 ≤ x1.toInt := q_leI x1lo; have t2 : x1.toInt ≤ 9 := q_leI x1hi; omega)) d_15_8_98 (fun H locs w32 hu33 hA4 V => ?_)
    replace hA4 := q_re (y := (qA4, .inl (g 3, 10, .inl (fun _ => 0)))) hA4 (q_eI q_upd0)
    replace hA4 : w32[kA4]? = some (qA4, .inl (g 3, 10, .inl (fun _ => 0))) := hA4
    replace hF := q_us hF hu33 (List.mem_of_getElem? (i := 3) rfl)
    refine lv_aload_n hx hb d_15_8_99 rfl (lv_at hl 1 rfl) ?_
    replace hO0 := (hu33 _ n_O0_A4).trans (hO0)
    refine q_get (ci := 14) (j := 6) (v := .ref qA5) C0 V i_DR rfl rfl hO0 (by decide) w_2008 rfl d_15_8_100 ?_
    refine lv_iload_n hx hb d_15_8_103 rfl (lv_at hl 2 rfl) ?_
    refine lv_aload_n hx hb d_15_8_104 rfl (lv_at hl 1 rfl) ?_
    refine q_get (ci := 14) (j := 9) (v := .long 0) C0 V i_DR rfl rfl hO0 (by decide) w_2012 rfl d_15_8_105 ?_
    refine lv_l2i hx hb d_15_8_108 rfl ?_
    refine q_ti (v := 0) (by decide) ?_
    replace hA5 := (hu33 _ n_A5_A4).trans ((hu31 _ n_A5_A3).trans ((hu28 _ n_A5_A2).trans ((hg4 _ (q_nc n_A5_O0 (q_nc n_A5_A6 List.not_mem_nil))).trans (hA5))))
    refine q_iast C0 V hA5 (q_ix (x := x1.toInt) rfl (by have t1 : 0 ≤ x1.toInt := q_leI x1lo; have t2 : x1.toInt ≤ 9 := q_leI x1hi; omega) (by have t1 : 0 ≤ x1.toInt := q_leI x1lo; have t2 : x1.toInt ≤ 9 := q_leI x1hi; omega)) d_15_8_109 (fun H locs w34 hu35 hA5 V => ?_)
    replace hA5 := q_re (y := (qA5, .inl (g 0, 10, .inl (fun _ => 0)))) hA5 (q_eI q_upd0)
    replace hA5 : w34[kA5]? = some (qA5, .inl (g 0, 10, .inl (fun _ => 0))) := hA5
    replace hF := q_us hF hu35 (List.mem_of_getElem? (i := 4) rfl)
    replace hO0 := (hu35 _ n_O0_A5).trans (hO0)
    replace hA2 := (hu35 _ n_A2_A5).trans ((hu33 _ n_A2_A4).trans ((hu31 _ n_A2_A3).trans (hA2)))
    replace hA3 := (hu35 _ n_A3_A5).trans ((hu33 _ n_A3_A4).trans (hA3))
    replace hA4 := (hu35 _ n_A4_A5).trans (hA4)
    replace hA6 := (hu35 _ n_A6_A5).trans ((hu33 _ n_A6_A4).trans ((hu31 _ n_A6_A3).trans ((hu28 _ n_A6_A2).trans (hA6))))
    exact q_retv C0 V (Or.inl ⟨c3, hF, hO0, hA2, hA3, hA4, hA5, hA6⟩) d_15_8_110
  ·
    replace hF := q_uc hF hg6 (q_sc (.head _) (q_sc (List.mem_of_getElem? (i := 5) rfl) (fun _ h => absurd h List.not_mem_nil)))
    refine lv_aload_n hx hb d_15_8_4 rfl (lv_at hl 0 rfl) ?_
    refine q_get (ci := 14) (j := 8) (v := .int 1) C0 V i_DR rfl rfl hO0 (by decide) w_2011 rfl d_15_8_5 ?_
    refine lv_sipush (v := 1000) hx hb d_15_8_8 (by decide) ?_
    refine lv_icmp_gt (tgt := 36) hx hb d_15_8_11 (by decide) (fun c36 => absurd c36 (by decide)) (fun c36 => ?_)
    refine lv_aload_n hx hb d_15_8_14 rfl (lv_at hl 0 rfl) ?_
    refine q_get (ci := 14) (j := 9) (v := .long 0) C0 V i_DR rfl rfl hO0 (by decide) w_2012 rfl d_15_8_15 ?_
    refine q_ldc2 C0 rfl w_2417 d_15_8_18 ?_
    refine W.lcmp hx hb d_15_8_21 ?_
    refine q_ti (v := 1) (by decide) ?_
    refine lv_if_lt (tgt := 36) hx hb d_15_8_22 (by decide) (fun c37 => absurd c37 (by decide)) (fun c37 => ?_)
    refine lv_aload_n hx hb d_15_8_25 rfl (lv_at hl 0 rfl) ?_
    refine q_get (ci := 14) (j := 9) (v := .long 0) C0 V i_DR rfl rfl hO0 (by decide) w_2012 rfl d_15_8_26 ?_
    refine q_ldc2 C0 rfl w_2418 d_15_8_29 ?_
    refine W.lcmp hx hb d_15_8_32 ?_
    refine q_ti (v := (-1)) (by decide) ?_
    refine lv_if_le (tgt := 45) hx hb d_15_8_33 (by decide) (fun c38 => ?_) (fun c38 => absurd (by decide) c38)
    refine lv_iconst (v := 0) hx hb d_15_8_45 (by decide) ?_
    refine lv_istore_n (lv' := [(2, .int 0), (0, .ref qO0), (1, .int x1)]) hx hb d_15_8_46 rfl hl (by decide) rfl (fun ls hl => ?_)
    refine lv_iload_n hx hb d_15_8_47 rfl (lv_at hl 0 rfl) ?_
    refine lv_aload_n hx hb d_15_8_48 rfl (lv_at hl 1 rfl) ?_
    refine q_get (ci := 14) (j := 8) (v := .int 1) C0 V i_DR rfl rfl hO0 (by decide) w_2011 rfl d_15_8_49 ?_
    refine lv_icmp_ge (tgt := 79) hx hb d_15_8_52 (by decide) (fun c39 => absurd c39 (by decide)) (fun c39 => ?_)
    refine lv_aload_n hx hb d_15_8_55 rfl (lv_at hl 1 rfl) ?_
    refine q_get (ci := 14) (j := 3) (v := .ref qA2) C0 V i_DR rfl rfl hO0 (by decide) w_2002 rfl d_15_8_56 ?_
    refine lv_sipush (v := 1000) hx hb d_15_8_59 (by decide) ?_
    refine lv_iload_n hx hb d_15_8_62 rfl (lv_at hl 2 rfl) ?_
    refine lv_imul hx hb d_15_8_63 ?_
    refine lv_iload_n hx hb d_15_8_64 rfl (lv_at hl 0 rfl) ?_
    refine lv_iadd hx hb d_15_8_65 ?_
    refine q_ti (v := 1000 * x1) (by simp) ?_
    refine lv_aload_n hx hb d_15_8_66 rfl (lv_at hl 1 rfl) ?_
    refine q_get (ci := 14) (j := 7) (v := .ref qA6) C0 V i_DR rfl rfl hO0 (by decide) w_2010 rfl d_15_8_67 ?_
    refine lv_iload_n hx hb d_15_8_70 rfl (lv_at hl 0 rfl) ?_
    refine q_iald C0 V hA6 (by unfold vp_in; decide) d_15_8_71 ?_
    refine q_ti (v := (f2 (18 : Int32).toNatClampNeg)) (by first | rfl | decide | simp [upd, vp_updL, sb_cl0]) ?_
    replace hA2 := (hg6 _ (q_nc n_A2_O0 (q_nc n_A2_A6 List.not_mem_nil))).trans (hA2)
    refine q_iast C0 V hA2 (q_ix (x := (1000 * x1.toInt)) (q_mulI (x := 1000) (y := x1.toInt) (by decide) rfl (by have t1 : 0 ≤ x1.toInt := q_leI x1lo; have t2 : x1.toInt ≤ 9 := q_leI x1hi; omega) (by have t1 : 0 ≤ x1.toInt := q_leI x1lo; have t2 : x1.toInt ≤ 9 := q_leI x1hi; omega)) (by have t1 : 0 ≤ x1.toInt := q_leI x1lo; have t2 : x1.toInt ≤ 9 := q_leI x1hi; omega) (by have t1 : 0 ≤ x1.toInt := q_leI x1lo; have t2 : x1.toInt ≤ 9 := q_leI x1hi; omega)) d_15_8_72 (fun H locs w40 hu41 hA2 V => ?_)
    replace hA2 : w40[kA2]? = some (qA2, .inl (g 0, 10000, .inl (upd (fun _ => 0) ((1000 * x1).toNatClampNeg) (f2 (18 : Int32).toNatClampNeg)))) := hA2
    replace hF := q_us hF hu41 (.tail _ (.head _))
    refine lv_iinc (v := 1) (lv' := [(2, .int 1), (0, .ref qO0), (1, .int x1)]) hx hb d_15_8_73 hl (k := 0) rfl (by decide) (by decide) rfl (fun ls hl => ?_)
    refine lv_goto (tgt := 47) hx hb d_15_8_76 (by decide) ?_
    refine lv_iload_n hx hb d_15_8_47 rfl (lv_at hl 0 rfl) ?_
    refine lv_aload_n hx hb d_15_8_48 rfl (lv_at hl 1 rfl) ?_
    replace hO0 := (hu41 _ n_O0_A2).trans (hO0)
    refine q_get (ci := 14) (j := 8) (v := .int 1) C0 V i_DR rfl rfl hO0 (by decide) w_2011 rfl d_15_8_49 ?_
    refine lv_icmp_ge (tgt := 79) hx hb d_15_8_52 (by decide) (fun c42 => ?_) (fun c42 => absurd (by decide) c42)
    refine lv_aload_n hx hb d_15_8_79 rfl (lv_at hl 1 rfl) ?_
    refine q_get (ci := 14) (j := 4) (v := .ref qA3) C0 V i_DR rfl rfl hO0 (by decide) w_2004 rfl d_15_8_80 ?_
    refine lv_iload_n hx hb d_15_8_83 rfl (lv_at hl 2 rfl) ?_
    refine lv_aload_n hx hb d_15_8_84 rfl (lv_at hl 1 rfl) ?_
    refine q_get (ci := 14) (j := 8) (v := .int 1) C0 V i_DR rfl rfl hO0 (by decide) w_2011 rfl d_15_8_85 ?_
    replace hA3 := (hu41 _ n_A3_A2).trans ((hg6 _ (q_nc n_A3_O0 (q_nc n_A3_A6 List.not_mem_nil))).trans (hA3))
    refine q_iast C0 V hA3 (q_ix (x := x1.toInt) rfl (by have t1 : 0 ≤ x1.toInt := q_leI x1lo; have t2 : x1.toInt ≤ 9 := q_leI x1hi; omega) (by have t1 : 0 ≤ x1.toInt := q_leI x1lo; have t2 : x1.toInt ≤ 9 := q_leI x1hi; omega)) d_15_8_88 (fun H locs w43 hu44 hA3 V => ?_)
    replace hA3 : w43[kA3]? = some (qA3, .inl (g 0, 10, .inl (upd (upd (upd (upd (upd (upd (upd (upd (upd (upd (upd (fun _ => 0) 0 1) 1 1) 2 1) 3 1) 4 1) 5 1) 6 1) 7 1) 8 1) 9 1) x1.toNatClampNeg 1))) := hA3
    replace hF := q_us hF hu44 (.tail _ (.tail _ (.head _)))
    refine lv_aload_n hx hb d_15_8_89 rfl (lv_at hl 1 rfl) ?_
    replace hO0 := (hu44 _ n_O0_A3).trans (hO0)
    refine q_get (ci := 14) (j := 5) (v := .ref qA4) C0 V i_DR rfl rfl hO0 (by decide) w_2006 rfl d_15_8_90 ?_
    refine lv_iload_n hx hb d_15_8_93 rfl (lv_at hl 2 rfl) ?_
    refine lv_aload_n hx hb d_15_8_94 rfl (lv_at hl 1 rfl) ?_
    refine q_get (ci := 14) (j := 11) (v := .int 1) C0 V i_DR rfl rfl hO0 (by decide) w_2014 rfl d_15_8_95 ?_
    replace hA4 := (hu44 _ n_A4_A3).trans ((hu41 _ n_A4_A2).trans ((hg6 _ (q_nc n_A4_O0 (q_nc n_A4_A6 List.not_mem_nil))).trans (hA4)))
    refine q_zast C0 V hA4 (q_ix (x := x1.toInt) rfl (by have t1 : 0 ≤ x1.toInt := q_leI x1lo; have t2 : x1.toInt ≤ 9 := q_leI x1hi; omega) (by have t1 : 0 ≤ x1.toInt := q_leI x1lo; have t2 : x1.toInt ≤ 9 := q_leI x1hi; omega)) d_15_8_98 (fun H locs w45 hu46 hA4 V => ?_)
    replace hA4 : w45[kA4]? = some (qA4, .inl (g 3, 10, .inl (upd (fun _ => 0) x1.toNatClampNeg (vp_nar .boolean 1)))) := hA4
    replace hF := q_us hF hu46 (List.mem_of_getElem? (i := 3) rfl)
    refine lv_aload_n hx hb d_15_8_99 rfl (lv_at hl 1 rfl) ?_
    replace hO0 := (hu46 _ n_O0_A4).trans (hO0)
    refine q_get (ci := 14) (j := 6) (v := .ref qA5) C0 V i_DR rfl rfl hO0 (by decide) w_2008 rfl d_15_8_100 ?_
    refine lv_iload_n hx hb d_15_8_103 rfl (lv_at hl 2 rfl) ?_
    refine lv_aload_n hx hb d_15_8_104 rfl (lv_at hl 1 rfl) ?_
    refine q_get (ci := 14) (j := 9) (v := .long 0) C0 V i_DR rfl rfl hO0 (by decide) w_2012 rfl d_15_8_105 ?_
    refine lv_l2i hx hb d_15_8_108 rfl ?_
    refine q_ti (v := 0) (by decide) ?_
    replace hA5 := (hu46 _ n_A5_A4).trans ((hu44 _ n_A5_A3).trans ((hu41 _ n_A5_A2).trans ((hg6 _ (q_nc n_A5_O0 (q_nc n_A5_A6 List.not_mem_nil))).trans (hA5))))
    refine q_iast C0 V hA5 (q_ix (x := x1.toInt) rfl (by have t1 : 0 ≤ x1.toInt := q_leI x1lo; have t2 : x1.toInt ≤ 9 := q_leI x1hi; omega) (by have t1 : 0 ≤ x1.toInt := q_leI x1lo; have t2 : x1.toInt ≤ 9 := q_leI x1hi; omega)) d_15_8_109 (fun H locs w47 hu48 hA5 V => ?_)
    replace hA5 := q_re (y := (qA5, .inl (g 0, 10, .inl (fun _ => 0)))) hA5 (q_eI q_upd0)
    replace hA5 : w47[kA5]? = some (qA5, .inl (g 0, 10, .inl (fun _ => 0))) := hA5
    replace hF := q_us hF hu48 (List.mem_of_getElem? (i := 4) rfl)
    replace hO0 := (hu48 _ n_O0_A5).trans (hO0)
    replace hA2 := (hu48 _ n_A2_A5).trans ((hu46 _ n_A2_A4).trans ((hu44 _ n_A2_A3).trans (hA2)))
    replace hA3 := (hu48 _ n_A3_A5).trans ((hu46 _ n_A3_A4).trans (hA3))
    replace hA4 := (hu48 _ n_A4_A5).trans (hA4)
    replace hA6 := (hu48 _ n_A6_A5).trans ((hu46 _ n_A6_A4).trans ((hu44 _ n_A6_A3).trans ((hu41 _ n_A6_A2).trans (hA6))))
    exact q_retv C0 V (Or.inr (Or.inl ⟨c5, hF, hO0, hA2, hA3, hA4, hA5, hA6⟩)) d_15_8_110
  ·
    replace hF := q_uc hF hg14 (q_sc (.head _) (q_sc (List.mem_of_getElem? (i := 5) rfl) (fun _ h => absurd h List.not_mem_nil)))
    refine lv_aload_n hx hb d_15_8_4 rfl (lv_at hl 0 rfl) ?_
    refine q_get (ci := 14) (j := 8) (v := .int (19 - y12)) C0 V i_DR rfl rfl hO0 (by decide) w_2011 rfl d_15_8_5 ?_
    refine lv_sipush (v := 1000) hx hb d_15_8_8 (by decide) ?_
    refine lv_icmp_gt (tgt := 36) hx hb d_15_8_11 (by decide) (fun c49 => absurd c49 (Int32.not_lt.mpr (q_Ile (x := (19 - y12.toInt)) (y := 1000) (q_subI (x := 19) (y := y12.toInt) (by decide) rfl (by have t1 : (y12.toInt + 1) < 19 := by { have e1 : (19 : Int32).toInt = 19 := (by decide); have e2 : ((y12 + 1) : Int32).toInt = (y12.toInt + 1) := (q_addI (x := y12.toInt) (y := 1) rfl (by decide) (by have t1 : 0 ≤ y12.toInt := q_leI f10; have t2 : y12.toInt ≤ 17 := q_leI f11; omega) (by have t1 : 0 ≤ y12.toInt := q_leI f10; have t2 : y12.toInt ≤ 17 := q_leI f11; omega)); have e3 := q_nleI c7; omega }; have t2 : 0 ≤ y12.toInt := q_leI f10; have t3 : y12.toInt ≤ 17 := q_leI f11; omega) (by have t1 : (y12.toInt + 1) < 19 := by { have e1 : (19 : Int32).toInt = 19 := (by decide); have e2 : ((y12 + 1) : Int32).toInt = (y12.toInt + 1) := (q_addI (x := y12.toInt) (y := 1) rfl (by decide) (by have t1 : 0 ≤ y12.toInt := q_leI f10; have t2 : y12.toInt ≤ 17 := q_leI f11; omega) (by have t1 : 0 ≤ y12.toInt := q_leI f10; have t2 : y12.toInt ≤ 17 := q_leI f11; omega)); have e3 := q_nleI c7; omega }; have t2 : 0 ≤ y12.toInt := q_leI f10; have t3 : y12.toInt ≤ 17 := q_leI f11; omega)) (by decide) (by have t1 : (y12.toInt + 1) < 19 := by { have e1 : (19 : Int32).toInt = 19 := (by decide); have e2 : ((y12 + 1) : Int32).toInt = (y12.toInt + 1) := (q_addI (x := y12.toInt) (y := 1) rfl (by decide) (by have t1 : 0 ≤ y12.toInt := q_leI f10; have t2 : y12.toInt ≤ 17 := q_leI f11; omega) (by have t1 : 0 ≤ y12.toInt := q_leI f10; have t2 : y12.toInt ≤ 17 := q_leI f11; omega)); have e3 := q_nleI c7; omega }; have t2 : 0 ≤ y12.toInt := q_leI f10; have t3 : y12.toInt ≤ 17 := q_leI f11; omega)))) (fun c49 => ?_)
    refine lv_aload_n hx hb d_15_8_14 rfl (lv_at hl 0 rfl) ?_
    refine q_get (ci := 14) (j := 9) (v := .long 0) C0 V i_DR rfl rfl hO0 (by decide) w_2012 rfl d_15_8_15 ?_
    refine q_ldc2 C0 rfl w_2417 d_15_8_18 ?_
    refine W.lcmp hx hb d_15_8_21 ?_
    refine q_ti (v := 1) (by decide) ?_
    refine lv_if_lt (tgt := 36) hx hb d_15_8_22 (by decide) (fun c50 => absurd c50 (by decide)) (fun c50 => ?_)
    refine lv_aload_n hx hb d_15_8_25 rfl (lv_at hl 0 rfl) ?_
    refine q_get (ci := 14) (j := 9) (v := .long 0) C0 V i_DR rfl rfl hO0 (by decide) w_2012 rfl d_15_8_26 ?_
    refine q_ldc2 C0 rfl w_2418 d_15_8_29 ?_
    refine W.lcmp hx hb d_15_8_32 ?_
    refine q_ti (v := (-1)) (by decide) ?_
    refine lv_if_le (tgt := 45) hx hb d_15_8_33 (by decide) (fun c51 => ?_) (fun c51 => absurd (by decide) c51)
    refine lv_iconst (v := 0) hx hb d_15_8_45 (by decide) ?_
    refine lv_istore_n (lv' := [(2, .int 0), (0, .ref qO0), (1, .int x1)]) hx hb d_15_8_46 rfl hl (by decide) rfl (fun ls hl => ?_)
    replace hA2 := (hg14 _ (q_nc n_A2_O0 (q_nc n_A2_A6 List.not_mem_nil))).trans (hA2)
    replace hA3 := (hg14 _ (q_nc n_A3_O0 (q_nc n_A3_A6 List.not_mem_nil))).trans (hA3)
    replace hA4 := (hg14 _ (q_nc n_A4_O0 (q_nc n_A4_A6 List.not_mem_nil))).trans (hA4)
    replace hA5 := (hg14 _ (q_nc n_A5_O0 (q_nc n_A5_A6 List.not_mem_nil))).trans (hA5)
    refine q_loop (X := Int32 × (Nat → Int32)) (fun z H locs ls w54 => (0 ≤ z.1.toInt ∧ (z.1.toInt ≤ (19 - y12.toInt) ∨ z.1.toInt = 0)) ∧ q_Wd D g (va_A ws sz) s w54 H locs ∧ lv_has ls 3 [(2, .int z.1), (0, .ref qO0), (1, .int x1)] ∧ q_un ws w54 [kO0, kA2, kA3, kA4, kA5, kA6] ∧ w54[kO0]? = some (qO0, .inr (14, [.int 0, .ref qA1, .int 0, .ref qA2, .ref qA3, .ref qA4, .ref qA5, .ref qA6, .int (19 - y12), .long 0, .int 0, .int 0, .ref qA7, .int 0, .ref qA8, .int 0, .ref qA9, .int 0, .ref qA10, .int 0, .int 2])) ∧ w54[kA2]? = some (qA2, .inl (g 0, 10000, .inl z.2)) ∧ w54[kA3]? = some (qA3, .inl (g 0, 10, .inl (upd (upd (upd (upd (upd (upd (upd (upd (upd (upd (fun _ => 0) 0 1) 1 1) 2 1) 3 1) 4 1) 5 1) 6 1) 7 1) 8 1) 9 1))) ∧ w54[kA4]? = some (qA4, .inl (g 3, 10, .inl (fun _ => 0))) ∧ w54[kA5]? = some (qA5, .inl (g 0, 10, .inl (fun _ => 0))) ∧ w54[kA6]? = some (qA6, .inl (g 0, 4400, .inl y13))) (fun z => ((19 - y12.toInt) - z.1.toInt).toNat) ?_ ((0 : Int32), (fun _ => 0 : (Nat → Int32))) _ _ _ u2 ⟨⟨(by dsimp only; decide), Or.inr (by dsimp only; decide)⟩, V, hl, hF, hO0, hA2, hA3, hA4, hA5, hA6⟩
    rintro ⟨lx52, lx53⟩ H locs ls w54 ⟨i55, V, hl, hF, hO0, hA2, hA3, hA4, hA5, hA6⟩ ih56
    replace i55 : 0 ≤ lx52.toInt ∧ (lx52.toInt ≤ (19 - y12.toInt) ∨ lx52.toInt = 0) := i55
    replace hl : lv_has ls 3 [(2, .int lx52), (0, .ref qO0), (1, .int x1)] := hl
    replace hO0 : w54[kO0]? = some (qO0, .inr (14, [.int 0, .ref qA1, .int 0, .ref qA2, .ref qA3, .ref qA4, .ref qA5, .ref qA6, .int (19 - y12), .long 0, .int 0, .int 0, .ref qA7, .int 0, .ref qA8, .int 0, .ref qA9, .int 0, .ref qA10, .int 0, .int 2])) := hO0
    replace hA2 : w54[kA2]? = some (qA2, .inl (g 0, 10000, .inl lx53)) := hA2
    replace hA3 : w54[kA3]? = some (qA3, .inl (g 0, 10, .inl (upd (upd (upd (upd (upd (upd (upd (upd (upd (upd (fun _ => 0) 0 1) 1 1) 2 1) 3 1) 4 1) 5 1) 6 1) 7 1) 8 1) 9 1))) := hA3
    replace hA4 : w54[kA4]? = some (qA4, .inl (g 3, 10, .inl (fun _ => 0))) := hA4
    replace hA5 : w54[kA5]? = some (qA5, .inl (g 0, 10, .inl (fun _ => 0))) := hA5
    replace hA6 : w54[kA6]? = some (qA6, .inl (g 0, 4400, .inl y13)) := hA6
    refine lv_iload_n hx hb d_15_8_47 rfl (lv_at hl 0 rfl) ?_
    refine lv_aload_n hx hb d_15_8_48 rfl (lv_at hl 1 rfl) ?_
    refine q_get (ci := 14) (j := 8) (v := .int (19 - y12)) C0 V i_DR rfl rfl hO0 (by decide) w_2011 rfl d_15_8_49 ?_
    refine lv_icmp_ge (tgt := 79) hx hb d_15_8_52 (by decide) (fun c57 => ?_) (fun c57 => ?_)
    ·
      refine lv_aload_n hx hb d_15_8_79 rfl (lv_at hl 1 rfl) ?_
      refine q_get (ci := 14) (j := 4) (v := .ref qA3) C0 V i_DR rfl rfl hO0 (by decide) w_2004 rfl d_15_8_80 ?_
      refine lv_iload_n hx hb d_15_8_83 rfl (lv_at hl 2 rfl) ?_
      refine lv_aload_n hx hb d_15_8_84 rfl (lv_at hl 1 rfl) ?_
      refine q_get (ci := 14) (j := 8) (v := .int (19 - y12)) C0 V i_DR rfl rfl hO0 (by decide) w_2011 rfl d_15_8_85 ?_
      refine q_iast C0 V hA3 (q_ix (x := x1.toInt) rfl (by have t1 : 0 ≤ x1.toInt := q_leI x1lo; have t2 : x1.toInt ≤ 9 := q_leI x1hi; omega) (by have t1 : 0 ≤ x1.toInt := q_leI x1lo; have t2 : x1.toInt ≤ 9 := q_leI x1hi; omega)) d_15_8_88 (fun H locs w58 hu59 hA3 V => ?_)
      replace hA3 : w58[kA3]? = some (qA3, .inl (g 0, 10, .inl (upd (upd (upd (upd (upd (upd (upd (upd (upd (upd (upd (fun _ => 0) 0 1) 1 1) 2 1) 3 1) 4 1) 5 1) 6 1) 7 1) 8 1) 9 1) x1.toNatClampNeg (19 - y12)))) := hA3
      replace hF := q_us hF hu59 (.tail _ (.tail _ (.head _)))
      refine lv_aload_n hx hb d_15_8_89 rfl (lv_at hl 1 rfl) ?_
      replace hO0 := (hu59 _ n_O0_A3).trans (hO0)
      refine q_get (ci := 14) (j := 5) (v := .ref qA4) C0 V i_DR rfl rfl hO0 (by decide) w_2006 rfl d_15_8_90 ?_
      refine lv_iload_n hx hb d_15_8_93 rfl (lv_at hl 2 rfl) ?_
      refine lv_aload_n hx hb d_15_8_94 rfl (lv_at hl 1 rfl) ?_
      refine q_get (ci := 14) (j := 11) (v := .int 0) C0 V i_DR rfl rfl hO0 (by decide) w_2014 rfl d_15_8_95 ?_
      replace hA4 := (hu59 _ n_A4_A3).trans (hA4)
      refine q_zast C0 V hA4 (q_ix (x := x1.toInt) rfl (by have t1 : 0 ≤ x1.toInt := q_leI x1lo; have t2 : x1.toInt ≤ 9 := q_leI x1hi; omega) (by have t1 : 0 ≤ x1.toInt := q_leI x1lo; have t2 : x1.toInt ≤ 9 := q_leI x1hi; omega)) d_15_8_98 (fun H locs w60 hu61 hA4 V => ?_)
      replace hA4 := q_re (y := (qA4, .inl (g 3, 10, .inl (fun _ => 0)))) hA4 (q_eI q_upd0)
      replace hA4 : w60[kA4]? = some (qA4, .inl (g 3, 10, .inl (fun _ => 0))) := hA4
      replace hF := q_us hF hu61 (List.mem_of_getElem? (i := 3) rfl)
      refine lv_aload_n hx hb d_15_8_99 rfl (lv_at hl 1 rfl) ?_
      replace hO0 := (hu61 _ n_O0_A4).trans (hO0)
      refine q_get (ci := 14) (j := 6) (v := .ref qA5) C0 V i_DR rfl rfl hO0 (by decide) w_2008 rfl d_15_8_100 ?_
      refine lv_iload_n hx hb d_15_8_103 rfl (lv_at hl 2 rfl) ?_
      refine lv_aload_n hx hb d_15_8_104 rfl (lv_at hl 1 rfl) ?_
      refine q_get (ci := 14) (j := 9) (v := .long 0) C0 V i_DR rfl rfl hO0 (by decide) w_2012 rfl d_15_8_105 ?_
      refine lv_l2i hx hb d_15_8_108 rfl ?_
      refine q_ti (v := 0) (by decide) ?_
      replace hA5 := (hu61 _ n_A5_A4).trans ((hu59 _ n_A5_A3).trans (hA5))
      refine q_iast C0 V hA5 (q_ix (x := x1.toInt) rfl (by have t1 : 0 ≤ x1.toInt := q_leI x1lo; have t2 : x1.toInt ≤ 9 := q_leI x1hi; omega) (by have t1 : 0 ≤ x1.toInt := q_leI x1lo; have t2 : x1.toInt ≤ 9 := q_leI x1hi; omega)) d_15_8_109 (fun H locs w62 hu63 hA5 V => ?_)
      replace hA5 := q_re (y := (qA5, .inl (g 0, 10, .inl (fun _ => 0)))) hA5 (q_eI q_upd0)
      replace hA5 : w62[kA5]? = some (qA5, .inl (g 0, 10, .inl (fun _ => 0))) := hA5
      replace hF := q_us hF hu63 (List.mem_of_getElem? (i := 4) rfl)
      replace hO0 := (hu63 _ n_O0_A5).trans (hO0)
      replace hA2 := (hu63 _ n_A2_A5).trans ((hu61 _ n_A2_A4).trans ((hu59 _ n_A2_A3).trans (hA2)))
      replace hA3 := (hu63 _ n_A3_A5).trans ((hu61 _ n_A3_A4).trans (hA3))
      replace hA4 := (hu63 _ n_A4_A5).trans (hA4)
      replace hA6 := (hu63 _ n_A6_A5).trans ((hu61 _ n_A6_A4).trans ((hu59 _ n_A6_A3).trans (hA6)))
      exact q_retv C0 V (Or.inr (Or.inr (Or.inl ⟨y12, lx53, y13, c7, c8, c9, f10, f11, hF, hO0, hA2, hA3, hA4, hA5, hA6⟩))) d_15_8_110
    ·
      refine lv_aload_n hx hb d_15_8_55 rfl (lv_at hl 1 rfl) ?_
      refine q_get (ci := 14) (j := 3) (v := .ref qA2) C0 V i_DR rfl rfl hO0 (by decide) w_2002 rfl d_15_8_56 ?_
      refine lv_sipush (v := 1000) hx hb d_15_8_59 (by decide) ?_
      refine lv_iload_n hx hb d_15_8_62 rfl (lv_at hl 2 rfl) ?_
      refine lv_imul hx hb d_15_8_63 ?_
      refine lv_iload_n hx hb d_15_8_64 rfl (lv_at hl 0 rfl) ?_
      refine lv_iadd hx hb d_15_8_65 ?_
      refine lv_aload_n hx hb d_15_8_66 rfl (lv_at hl 1 rfl) ?_
      refine q_get (ci := 14) (j := 7) (v := .ref qA6) C0 V i_DR rfl rfl hO0 (by decide) w_2010 rfl d_15_8_67 ?_
      refine lv_iload_n hx hb d_15_8_70 rfl (lv_at hl 0 rfl) ?_
      refine q_iald C0 V hA6 (q_ix (x := lx52.toInt) rfl (by have t1 : (y12.toInt + 1) < 19 := by { have e1 : (19 : Int32).toInt = 19 := (by decide); have e2 : ((y12 + 1) : Int32).toInt = (y12.toInt + 1) := (q_addI (x := y12.toInt) (y := 1) rfl (by decide) (by have t1 : 0 ≤ y12.toInt := q_leI f10; have t2 : y12.toInt ≤ 17 := q_leI f11; omega) (by have t1 : 0 ≤ y12.toInt := q_leI f10; have t2 : y12.toInt ≤ 17 := q_leI f11; omega)); have e3 := q_nleI c7; omega }; have t2 : lx52.toInt < (19 - y12.toInt) := by { have e1 : ((19 - y12) : Int32).toInt = (19 - y12.toInt) := (q_subI (x := 19) (y := y12.toInt) (by decide) rfl (by have t1 : 0 ≤ y12.toInt := q_leI f10; have t2 : y12.toInt ≤ 17 := q_leI f11; omega) (by have t1 : 0 ≤ y12.toInt := q_leI f10; have t2 : y12.toInt ≤ 17 := q_leI f11; omega)); have e2 : (lx52 : Int32).toInt = lx52.toInt := rfl; have e3 := q_nleI c57; omega }; have t3 : 0 ≤ y12.toInt := q_leI f10; have t4 : y12.toInt ≤ 17 := q_leI f11; omega) (by have t1 : (y12.toInt + 1) < 19 := by { have e1 : (19 : Int32).toInt = 19 := (by decide); have e2 : ((y12 + 1) : Int32).toInt = (y12.toInt + 1) := (q_addI (x := y12.toInt) (y := 1) rfl (by decide) (by have t1 : 0 ≤ y12.toInt := q_leI f10; have t2 : y12.toInt ≤ 17 := q_leI f11; omega) (by have t1 : 0 ≤ y12.toInt := q_leI f10; have t2 : y12.toInt ≤ 17 := q_leI f11; omega)); have e3 := q_nleI c7; omega }; have t2 : lx52.toInt < (19 - y12.toInt) := by { have e1 : ((19 - y12) : Int32).toInt = (19 - y12.toInt) := (q_subI (x := 19) (y := y12.toInt) (by decide) rfl (by have t1 : 0 ≤ y12.toInt := q_leI f10; have t2 : y12.toInt ≤ 17 := q_leI f11; omega) (by have t1 : 0 ≤ y12.toInt := q_leI f10; have t2 : y12.toInt ≤ 17 := q_leI f11; omega)); have e2 : (lx52 : Int32).toInt = lx52.toInt := rfl; have e3 := q_nleI c57; omega }; have t3 : 0 ≤ y12.toInt := q_leI f10; have t4 : y12.toInt ≤ 17 := q_leI f11; omega)) d_15_8_71 ?_
      refine q_iast C0 V hA2 (q_ix (x := ((1000 * x1.toInt) + lx52.toInt)) (q_addI (x := (1000 * x1.toInt)) (y := lx52.toInt) (q_mulI (x := 1000) (y := x1.toInt) (by decide) rfl (by have t1 : 0 ≤ x1.toInt := q_leI x1lo; have t2 : x1.toInt ≤ 9 := q_leI x1hi; omega) (by have t1 : 0 ≤ x1.toInt := q_leI x1lo; have t2 : x1.toInt ≤ 9 := q_leI x1hi; omega)) rfl (by have t1 : 0 ≤ x1.toInt := q_leI x1lo; have t2 : x1.toInt ≤ 9 := q_leI x1hi; have t3 : (y12.toInt + 1) < 19 := by { have e1 : (19 : Int32).toInt = 19 := (by decide); have e2 : ((y12 + 1) : Int32).toInt = (y12.toInt + 1) := (q_addI (x := y12.toInt) (y := 1) rfl (by decide) (by have t1 : 0 ≤ y12.toInt := q_leI f10; have t2 : y12.toInt ≤ 17 := q_leI f11; omega) (by have t1 : 0 ≤ y12.toInt := q_leI f10; have t2 : y12.toInt ≤ 17 := q_leI f11; omega)); have e3 := q_nleI c7; omega }; have t4 : lx52.toInt < (19 - y12.toInt) := by { have e1 : ((19 - y12) : Int32).toInt = (19 - y12.toInt) := (q_subI (x := 19) (y := y12.toInt) (by decide) rfl (by have t1 : 0 ≤ y12.toInt := q_leI f10; have t2 : y12.toInt ≤ 17 := q_leI f11; omega) (by have t1 : 0 ≤ y12.toInt := q_leI f10; have t2 : y12.toInt ≤ 17 := q_leI f11; omega)); have e2 : (lx52 : Int32).toInt = lx52.toInt := rfl; have e3 := q_nleI c57; omega }; have t5 : 0 ≤ y12.toInt := q_leI f10; have t6 : y12.toInt ≤ 17 := q_leI f11; omega) (by have t1 : 0 ≤ x1.toInt := q_leI x1lo; have t2 : x1.toInt ≤ 9 := q_leI x1hi; have t3 : (y12.toInt + 1) < 19 := by { have e1 : (19 : Int32).toInt = 19 := (by decide); have e2 : ((y12 + 1) : Int32).toInt = (y12.toInt + 1) := (q_addI (x := y12.toInt) (y := 1) rfl (by decide) (by have t1 : 0 ≤ y12.toInt := q_leI f10; have t2 : y12.toInt ≤ 17 := q_leI f11; omega) (by have t1 : 0 ≤ y12.toInt := q_leI f10; have t2 : y12.toInt ≤ 17 := q_leI f11; omega)); have e3 := q_nleI c7; omega }; have t4 : lx52.toInt < (19 - y12.toInt) := by { have e1 : ((19 - y12) : Int32).toInt = (19 - y12.toInt) := (q_subI (x := 19) (y := y12.toInt) (by decide) rfl (by have t1 : 0 ≤ y12.toInt := q_leI f10; have t2 : y12.toInt ≤ 17 := q_leI f11; omega) (by have t1 : 0 ≤ y12.toInt := q_leI f10; have t2 : y12.toInt ≤ 17 := q_leI f11; omega)); have e2 : (lx52 : Int32).toInt = lx52.toInt := rfl; have e3 := q_nleI c57; omega }; have t5 : 0 ≤ y12.toInt := q_leI f10; have t6 : y12.toInt ≤ 17 := q_leI f11; omega)) (by have t1 : 0 ≤ x1.toInt := q_leI x1lo; have t2 : x1.toInt ≤ 9 := q_leI x1hi; have t3 : (y12.toInt + 1) < 19 := by { have e1 : (19 : Int32).toInt = 19 := (by decide); have e2 : ((y12 + 1) : Int32).toInt = (y12.toInt + 1) := (q_addI (x := y12.toInt) (y := 1) rfl (by decide) (by have t1 : 0 ≤ y12.toInt := q_leI f10; have t2 : y12.toInt ≤ 17 := q_leI f11; omega) (by have t1 : 0 ≤ y12.toInt := q_leI f10; have t2 : y12.toInt ≤ 17 := q_leI f11; omega)); have e3 := q_nleI c7; omega }; have t4 : lx52.toInt < (19 - y12.toInt) := by { have e1 : ((19 - y12) : Int32).toInt = (19 - y12.toInt) := (q_subI (x := 19) (y := y12.toInt) (by decide) rfl (by have t1 : 0 ≤ y12.toInt := q_leI f10; have t2 : y12.toInt ≤ 17 := q_leI f11; omega) (by have t1 : 0 ≤ y12.toInt := q_leI f10; have t2 : y12.toInt ≤ 17 := q_leI f11; omega)); have e2 : (lx52 : Int32).toInt = lx52.toInt := rfl; have e3 := q_nleI c57; omega }; have t5 : 0 ≤ y12.toInt := q_leI f10; have t6 : y12.toInt ≤ 17 := q_leI f11; omega) (by have t1 : 0 ≤ x1.toInt := q_leI x1lo; have t2 : x1.toInt ≤ 9 := q_leI x1hi; have t3 : (y12.toInt + 1) < 19 := by { have e1 : (19 : Int32).toInt = 19 := (by decide); have e2 : ((y12 + 1) : Int32).toInt = (y12.toInt + 1) := (q_addI (x := y12.toInt) (y := 1) rfl (by decide) (by have t1 : 0 ≤ y12.toInt := q_leI f10; have t2 : y12.toInt ≤ 17 := q_leI f11; omega) (by have t1 : 0 ≤ y12.toInt := q_leI f10; have t2 : y12.toInt ≤ 17 := q_leI f11; omega)); have e3 := q_nleI c7; omega }; have t4 : lx52.toInt < (19 - y12.toInt) := by { have e1 : ((19 - y12) : Int32).toInt = (19 - y12.toInt) := (q_subI (x := 19) (y := y12.toInt) (by decide) rfl (by have t1 : 0 ≤ y12.toInt := q_leI f10; have t2 : y12.toInt ≤ 17 := q_leI f11; omega) (by have t1 : 0 ≤ y12.toInt := q_leI f10; have t2 : y12.toInt ≤ 17 := q_leI f11; omega)); have e2 : (lx52 : Int32).toInt = lx52.toInt := rfl; have e3 := q_nleI c57; omega }; have t5 : 0 ≤ y12.toInt := q_leI f10; have t6 : y12.toInt ≤ 17 := q_leI f11; omega)) d_15_8_72 (fun H locs w64 hu65 hA2 V => ?_)
      replace hA2 : w64[kA2]? = some (qA2, .inl (g 0, 10000, .inl (upd lx53 (((1000 * x1) + lx52).toNatClampNeg) (y13 lx52.toNatClampNeg)))) := hA2
      replace hF := q_us hF hu65 (.tail _ (.head _))
      refine lv_iinc (v := lx52 + 1) (lv' := [(2, .int (lx52 + 1)), (0, .ref qO0), (1, .int x1)]) hx hb d_15_8_73 hl (k := 0) rfl (rfl) (by decide) rfl (fun ls hl => ?_)
      refine lv_goto (tgt := 47) hx hb d_15_8_76 (by decide) ?_
      replace hO0 := (hu65 _ n_O0_A2).trans (hO0)
      replace hA3 := (hu65 _ n_A3_A2).trans (hA3)
      replace hA4 := (hu65 _ n_A4_A2).trans (hA4)
      replace hA5 := (hu65 _ n_A5_A2).trans (hA5)
      replace hA6 := (hu65 _ n_A6_A2).trans (hA6)
      exact ih56 ((lx52 + 1 : Int32), (upd lx53 (((1000 * x1) + lx52).toNatClampNeg) (y13 lx52.toNatClampNeg) : Nat → Int32)) _ _ _ _ (show ((19 - y12.toInt) - (lx52 + 1).toInt).toNat < ((19 - y12.toInt) - lx52.toInt).toNat from by have t1 : (y12.toInt + 1) < 19 := by { have e1 : (19 : Int32).toInt = 19 := (by decide); have e2 : ((y12 + 1) : Int32).toInt = (y12.toInt + 1) := (q_addI (x := y12.toInt) (y := 1) rfl (by decide) (by have t1 : 0 ≤ y12.toInt := q_leI f10; have t2 : y12.toInt ≤ 17 := q_leI f11; omega) (by have t1 : 0 ≤ y12.toInt := q_leI f10; have t2 : y12.toInt ≤ 17 := q_leI f11; omega)); have e3 := q_nleI c7; omega }; have t2 : lx52.toInt < (19 - y12.toInt) := by { have e1 : ((19 - y12) : Int32).toInt = (19 - y12.toInt) := (q_subI (x := 19) (y := y12.toInt) (by decide) rfl (by have t1 : 0 ≤ y12.toInt := q_leI f10; have t2 : y12.toInt ≤ 17 := q_leI f11; omega) (by have t1 : 0 ≤ y12.toInt := q_leI f10; have t2 : y12.toInt ≤ 17 := q_leI f11; omega)); have e2 : (lx52 : Int32).toInt = lx52.toInt := rfl; have e3 := q_nleI c57; omega }; have t3 : 0 ≤ y12.toInt := q_leI f10; have t4 : y12.toInt ≤ 17 := q_leI f11; have e : (lx52 + 1).toInt = (lx52.toInt + 1) := (q_addI (x := lx52.toInt) (y := 1) rfl (by decide) (by have t1 : (y12.toInt + 1) < 19 := by { have e1 : (19 : Int32).toInt = 19 := (by decide); have e2 : ((y12 + 1) : Int32).toInt = (y12.toInt + 1) := (q_addI (x := y12.toInt) (y := 1) rfl (by decide) (by have t1 : 0 ≤ y12.toInt := q_leI f10; have t2 : y12.toInt ≤ 17 := q_leI f11; omega) (by have t1 : 0 ≤ y12.toInt := q_leI f10; have t2 : y12.toInt ≤ 17 := q_leI f11; omega)); have e3 := q_nleI c7; omega }; have t2 : lx52.toInt < (19 - y12.toInt) := by { have e1 : ((19 - y12) : Int32).toInt = (19 - y12.toInt) := (q_subI (x := 19) (y := y12.toInt) (by decide) rfl (by have t1 : 0 ≤ y12.toInt := q_leI f10; have t2 : y12.toInt ≤ 17 := q_leI f11; omega) (by have t1 : 0 ≤ y12.toInt := q_leI f10; have t2 : y12.toInt ≤ 17 := q_leI f11; omega)); have e2 : (lx52 : Int32).toInt = lx52.toInt := rfl; have e3 := q_nleI c57; omega }; have t3 : 0 ≤ y12.toInt := q_leI f10; have t4 : y12.toInt ≤ 17 := q_leI f11; omega) (by have t1 : (y12.toInt + 1) < 19 := by { have e1 : (19 : Int32).toInt = 19 := (by decide); have e2 : ((y12 + 1) : Int32).toInt = (y12.toInt + 1) := (q_addI (x := y12.toInt) (y := 1) rfl (by decide) (by have t1 : 0 ≤ y12.toInt := q_leI f10; have t2 : y12.toInt ≤ 17 := q_leI f11; omega) (by have t1 : 0 ≤ y12.toInt := q_leI f10; have t2 : y12.toInt ≤ 17 := q_leI f11; omega)); have e3 := q_nleI c7; omega }; have t2 : lx52.toInt < (19 - y12.toInt) := by { have e1 : ((19 - y12) : Int32).toInt = (19 - y12.toInt) := (q_subI (x := 19) (y := y12.toInt) (by decide) rfl (by have t1 : 0 ≤ y12.toInt := q_leI f10; have t2 : y12.toInt ≤ 17 := q_leI f11; omega) (by have t1 : 0 ≤ y12.toInt := q_leI f10; have t2 : y12.toInt ≤ 17 := q_leI f11; omega)); have e2 : (lx52 : Int32).toInt = lx52.toInt := rfl; have e3 := q_nleI c57; omega }; have t3 : 0 ≤ y12.toInt := q_leI f10; have t4 : y12.toInt ≤ 17 := q_leI f11; omega)); omega) ⟨(show 0 ≤ (lx52 + 1).toInt ∧ ((lx52 + 1).toInt ≤ (19 - y12.toInt) ∨ (lx52 + 1).toInt = 0) from by have t1 : (y12.toInt + 1) < 19 := by { have e1 : (19 : Int32).toInt = 19 := (by decide); have e2 : ((y12 + 1) : Int32).toInt = (y12.toInt + 1) := (q_addI (x := y12.toInt) (y := 1) rfl (by decide) (by have t1 : 0 ≤ y12.toInt := q_leI f10; have t2 : y12.toInt ≤ 17 := q_leI f11; omega) (by have t1 : 0 ≤ y12.toInt := q_leI f10; have t2 : y12.toInt ≤ 17 := q_leI f11; omega)); have e3 := q_nleI c7; omega }; have t2 : lx52.toInt < (19 - y12.toInt) := by { have e1 : ((19 - y12) : Int32).toInt = (19 - y12.toInt) := (q_subI (x := 19) (y := y12.toInt) (by decide) rfl (by have t1 : 0 ≤ y12.toInt := q_leI f10; have t2 : y12.toInt ≤ 17 := q_leI f11; omega) (by have t1 : 0 ≤ y12.toInt := q_leI f10; have t2 : y12.toInt ≤ 17 := q_leI f11; omega)); have e2 : (lx52 : Int32).toInt = lx52.toInt := rfl; have e3 := q_nleI c57; omega }; have t3 : 0 ≤ y12.toInt := q_leI f10; have t4 : y12.toInt ≤ 17 := q_leI f11; have e : (lx52 + 1).toInt = (lx52.toInt + 1) := (q_addI (x := lx52.toInt) (y := 1) rfl (by decide) (by have t1 : (y12.toInt + 1) < 19 := by { have e1 : (19 : Int32).toInt = 19 := (by decide); have e2 : ((y12 + 1) : Int32).toInt = (y12.toInt + 1) := (q_addI (x := y12.toInt) (y := 1) rfl (by decide) (by have t1 : 0 ≤ y12.toInt := q_leI f10; have t2 : y12.toInt ≤ 17 := q_leI f11; omega) (by have t1 : 0 ≤ y12.toInt := q_leI f10; have t2 : y12.toInt ≤ 17 := q_leI f11; omega)); have e3 := q_nleI c7; omega }; have t2 : lx52.toInt < (19 - y12.toInt) := by { have e1 : ((19 - y12) : Int32).toInt = (19 - y12.toInt) := (q_subI (x := 19) (y := y12.toInt) (by decide) rfl (by have t1 : 0 ≤ y12.toInt := q_leI f10; have t2 : y12.toInt ≤ 17 := q_leI f11; omega) (by have t1 : 0 ≤ y12.toInt := q_leI f10; have t2 : y12.toInt ≤ 17 := q_leI f11; omega)); have e2 : (lx52 : Int32).toInt = lx52.toInt := rfl; have e3 := q_nleI c57; omega }; have t3 : 0 ≤ y12.toInt := q_leI f10; have t4 : y12.toInt ≤ 17 := q_leI f11; omega) (by have t1 : (y12.toInt + 1) < 19 := by { have e1 : (19 : Int32).toInt = 19 := (by decide); have e2 : ((y12 + 1) : Int32).toInt = (y12.toInt + 1) := (q_addI (x := y12.toInt) (y := 1) rfl (by decide) (by have t1 : 0 ≤ y12.toInt := q_leI f10; have t2 : y12.toInt ≤ 17 := q_leI f11; omega) (by have t1 : 0 ≤ y12.toInt := q_leI f10; have t2 : y12.toInt ≤ 17 := q_leI f11; omega)); have e3 := q_nleI c7; omega }; have t2 : lx52.toInt < (19 - y12.toInt) := by { have e1 : ((19 - y12) : Int32).toInt = (19 - y12.toInt) := (q_subI (x := 19) (y := y12.toInt) (by decide) rfl (by have t1 : 0 ≤ y12.toInt := q_leI f10; have t2 : y12.toInt ≤ 17 := q_leI f11; omega) (by have t1 : 0 ≤ y12.toInt := q_leI f10; have t2 : y12.toInt ≤ 17 := q_leI f11; omega)); have e2 : (lx52 : Int32).toInt = lx52.toInt := rfl; have e3 := q_nleI c57; omega }; have t3 : 0 ≤ y12.toInt := q_leI f10; have t4 : y12.toInt ≤ 17 := q_leI f11; omega)); omega), V, q_lw hl (q_lw1 0 rfl (q_lw1 1 rfl (q_lw1 2 rfl q_lw0))), hF, hO0, hA2, hA3, hA4, hA5, hA6⟩
  ·
    replace hF := q_uc hF hg22 (q_sc (.head _) (q_sc (List.mem_of_getElem? (i := 5) rfl) (fun _ h => absurd h List.not_mem_nil)))
    refine lv_aload_n hx hb d_15_8_4 rfl (lv_at hl 0 rfl) ?_
    refine q_get (ci := 14) (j := 8) (v := .int (19 - y20)) C0 V i_DR rfl rfl hO0 (by decide) w_2011 rfl d_15_8_5 ?_
    refine lv_sipush (v := 1000) hx hb d_15_8_8 (by decide) ?_
    refine lv_icmp_gt (tgt := 36) hx hb d_15_8_11 (by decide) (fun c66 => absurd c66 (Int32.not_lt.mpr (q_Ile (x := (19 - y20.toInt)) (y := 1000) (q_subI (x := 19) (y := y20.toInt) (by decide) rfl (by have t1 : (y20.toInt + 1) < 19 := by { have e1 : (19 : Int32).toInt = 19 := (by decide); have e2 : ((y20 + 1) : Int32).toInt = (y20.toInt + 1) := (q_addI (x := y20.toInt) (y := 1) rfl (by decide) (by have t1 : 0 ≤ y20.toInt := q_leI f18; have t2 : y20.toInt ≤ 17 := q_leI f19; omega) (by have t1 : 0 ≤ y20.toInt := q_leI f18; have t2 : y20.toInt ≤ 17 := q_leI f19; omega)); have e3 := q_nleI c15; omega }; have t2 : 0 ≤ y20.toInt := q_leI f18; have t3 : y20.toInt ≤ 17 := q_leI f19; omega) (by have t1 : (y20.toInt + 1) < 19 := by { have e1 : (19 : Int32).toInt = 19 := (by decide); have e2 : ((y20 + 1) : Int32).toInt = (y20.toInt + 1) := (q_addI (x := y20.toInt) (y := 1) rfl (by decide) (by have t1 : 0 ≤ y20.toInt := q_leI f18; have t2 : y20.toInt ≤ 17 := q_leI f19; omega) (by have t1 : 0 ≤ y20.toInt := q_leI f18; have t2 : y20.toInt ≤ 17 := q_leI f19; omega)); have e3 := q_nleI c15; omega }; have t2 : 0 ≤ y20.toInt := q_leI f18; have t3 : y20.toInt ≤ 17 := q_leI f19; omega)) (by decide) (by have t1 : (y20.toInt + 1) < 19 := by { have e1 : (19 : Int32).toInt = 19 := (by decide); have e2 : ((y20 + 1) : Int32).toInt = (y20.toInt + 1) := (q_addI (x := y20.toInt) (y := 1) rfl (by decide) (by have t1 : 0 ≤ y20.toInt := q_leI f18; have t2 : y20.toInt ≤ 17 := q_leI f19; omega) (by have t1 : 0 ≤ y20.toInt := q_leI f18; have t2 : y20.toInt ≤ 17 := q_leI f19; omega)); have e3 := q_nleI c15; omega }; have t2 : 0 ≤ y20.toInt := q_leI f18; have t3 : y20.toInt ≤ 17 := q_leI f19; omega)))) (fun c66 => ?_)
    refine lv_aload_n hx hb d_15_8_14 rfl (lv_at hl 0 rfl) ?_
    refine q_get (ci := 14) (j := 9) (v := .long 0) C0 V i_DR rfl rfl hO0 (by decide) w_2012 rfl d_15_8_15 ?_
    refine q_ldc2 C0 rfl w_2417 d_15_8_18 ?_
    refine W.lcmp hx hb d_15_8_21 ?_
    refine q_ti (v := 1) (by decide) ?_
    refine lv_if_lt (tgt := 36) hx hb d_15_8_22 (by decide) (fun c67 => absurd c67 (by decide)) (fun c67 => ?_)
    refine lv_aload_n hx hb d_15_8_25 rfl (lv_at hl 0 rfl) ?_
    refine q_get (ci := 14) (j := 9) (v := .long 0) C0 V i_DR rfl rfl hO0 (by decide) w_2012 rfl d_15_8_26 ?_
    refine q_ldc2 C0 rfl w_2418 d_15_8_29 ?_
    refine W.lcmp hx hb d_15_8_32 ?_
    refine q_ti (v := (-1)) (by decide) ?_
    refine lv_if_le (tgt := 45) hx hb d_15_8_33 (by decide) (fun c68 => ?_) (fun c68 => absurd (by decide) c68)
    refine lv_iconst (v := 0) hx hb d_15_8_45 (by decide) ?_
    refine lv_istore_n (lv' := [(2, .int 0), (0, .ref qO0), (1, .int x1)]) hx hb d_15_8_46 rfl hl (by decide) rfl (fun ls hl => ?_)
    replace hA2 := (hg22 _ (q_nc n_A2_O0 (q_nc n_A2_A6 List.not_mem_nil))).trans (hA2)
    replace hA3 := (hg22 _ (q_nc n_A3_O0 (q_nc n_A3_A6 List.not_mem_nil))).trans (hA3)
    replace hA4 := (hg22 _ (q_nc n_A4_O0 (q_nc n_A4_A6 List.not_mem_nil))).trans (hA4)
    replace hA5 := (hg22 _ (q_nc n_A5_O0 (q_nc n_A5_A6 List.not_mem_nil))).trans (hA5)
    refine q_loop (X := Int32 × (Nat → Int32)) (fun z H locs ls w71 => (0 ≤ z.1.toInt ∧ (z.1.toInt ≤ (19 - y20.toInt) ∨ z.1.toInt = 0)) ∧ q_Wd D g (va_A ws sz) s w71 H locs ∧ lv_has ls 3 [(2, .int z.1), (0, .ref qO0), (1, .int x1)] ∧ q_un ws w71 [kO0, kA2, kA3, kA4, kA5, kA6] ∧ w71[kO0]? = some (qO0, .inr (14, [.int 0, .ref qA1, .int 0, .ref qA2, .ref qA3, .ref qA4, .ref qA5, .ref qA6, .int (19 - y20), .long 0, .int 0, .int 1, .ref qA7, .int 0, .ref qA8, .int 0, .ref qA9, .int 0, .ref qA10, .int 0, .int 2])) ∧ w71[kA2]? = some (qA2, .inl (g 0, 10000, .inl z.2)) ∧ w71[kA3]? = some (qA3, .inl (g 0, 10, .inl (upd (upd (upd (upd (upd (upd (upd (upd (upd (upd (fun _ => 0) 0 1) 1 1) 2 1) 3 1) 4 1) 5 1) 6 1) 7 1) 8 1) 9 1))) ∧ w71[kA4]? = some (qA4, .inl (g 3, 10, .inl (fun _ => 0))) ∧ w71[kA5]? = some (qA5, .inl (g 0, 10, .inl (fun _ => 0))) ∧ w71[kA6]? = some (qA6, .inl (g 0, 4400, .inl y21))) (fun z => ((19 - y20.toInt) - z.1.toInt).toNat) ?_ ((0 : Int32), (fun _ => 0 : (Nat → Int32))) _ _ _ u2 ⟨⟨(by dsimp only; decide), Or.inr (by dsimp only; decide)⟩, V, hl, hF, hO0, hA2, hA3, hA4, hA5, hA6⟩
    rintro ⟨lx69, lx70⟩ H locs ls w71 ⟨i72, V, hl, hF, hO0, hA2, hA3, hA4, hA5, hA6⟩ ih73
    replace i72 : 0 ≤ lx69.toInt ∧ (lx69.toInt ≤ (19 - y20.toInt) ∨ lx69.toInt = 0) := i72
    replace hl : lv_has ls 3 [(2, .int lx69), (0, .ref qO0), (1, .int x1)] := hl
    replace hO0 : w71[kO0]? = some (qO0, .inr (14, [.int 0, .ref qA1, .int 0, .ref qA2, .ref qA3, .ref qA4, .ref qA5, .ref qA6, .int (19 - y20), .long 0, .int 0, .int 1, .ref qA7, .int 0, .ref qA8, .int 0, .ref qA9, .int 0, .ref qA10, .int 0, .int 2])) := hO0
    replace hA2 : w71[kA2]? = some (qA2, .inl (g 0, 10000, .inl lx70)) := hA2
    replace hA3 : w71[kA3]? = some (qA3, .inl (g 0, 10, .inl (upd (upd (upd (upd (upd (upd (upd (upd (upd (upd (fun _ => 0) 0 1) 1 1) 2 1) 3 1) 4 1) 5 1) 6 1) 7 1) 8 1) 9 1))) := hA3
    replace hA4 : w71[kA4]? = some (qA4, .inl (g 3, 10, .inl (fun _ => 0))) := hA4
    replace hA5 : w71[kA5]? = some (qA5, .inl (g 0, 10, .inl (fun _ => 0))) := hA5
    replace hA6 : w71[kA6]? = some (qA6, .inl (g 0, 4400, .inl y21)) := hA6
    refine lv_iload_n hx hb d_15_8_47 rfl (lv_at hl 0 rfl) ?_
    refine lv_aload_n hx hb d_15_8_48 rfl (lv_at hl 1 rfl) ?_
    refine q_get (ci := 14) (j := 8) (v := .int (19 - y20)) C0 V i_DR rfl rfl hO0 (by decide) w_2011 rfl d_15_8_49 ?_
    refine lv_icmp_ge (tgt := 79) hx hb d_15_8_52 (by decide) (fun c74 => ?_) (fun c74 => ?_)
    ·
      refine lv_aload_n hx hb d_15_8_79 rfl (lv_at hl 1 rfl) ?_
      refine q_get (ci := 14) (j := 4) (v := .ref qA3) C0 V i_DR rfl rfl hO0 (by decide) w_2004 rfl d_15_8_80 ?_
      refine lv_iload_n hx hb d_15_8_83 rfl (lv_at hl 2 rfl) ?_
      refine lv_aload_n hx hb d_15_8_84 rfl (lv_at hl 1 rfl) ?_
      refine q_get (ci := 14) (j := 8) (v := .int (19 - y20)) C0 V i_DR rfl rfl hO0 (by decide) w_2011 rfl d_15_8_85 ?_
      refine q_iast C0 V hA3 (q_ix (x := x1.toInt) rfl (by have t1 : 0 ≤ x1.toInt := q_leI x1lo; have t2 : x1.toInt ≤ 9 := q_leI x1hi; omega) (by have t1 : 0 ≤ x1.toInt := q_leI x1lo; have t2 : x1.toInt ≤ 9 := q_leI x1hi; omega)) d_15_8_88 (fun H locs w75 hu76 hA3 V => ?_)
      replace hA3 : w75[kA3]? = some (qA3, .inl (g 0, 10, .inl (upd (upd (upd (upd (upd (upd (upd (upd (upd (upd (upd (fun _ => 0) 0 1) 1 1) 2 1) 3 1) 4 1) 5 1) 6 1) 7 1) 8 1) 9 1) x1.toNatClampNeg (19 - y20)))) := hA3
      replace hF := q_us hF hu76 (.tail _ (.tail _ (.head _)))
      refine lv_aload_n hx hb d_15_8_89 rfl (lv_at hl 1 rfl) ?_
      replace hO0 := (hu76 _ n_O0_A3).trans (hO0)
      refine q_get (ci := 14) (j := 5) (v := .ref qA4) C0 V i_DR rfl rfl hO0 (by decide) w_2006 rfl d_15_8_90 ?_
      refine lv_iload_n hx hb d_15_8_93 rfl (lv_at hl 2 rfl) ?_
      refine lv_aload_n hx hb d_15_8_94 rfl (lv_at hl 1 rfl) ?_
      refine q_get (ci := 14) (j := 11) (v := .int 1) C0 V i_DR rfl rfl hO0 (by decide) w_2014 rfl d_15_8_95 ?_
      replace hA4 := (hu76 _ n_A4_A3).trans (hA4)
      refine q_zast C0 V hA4 (q_ix (x := x1.toInt) rfl (by have t1 : 0 ≤ x1.toInt := q_leI x1lo; have t2 : x1.toInt ≤ 9 := q_leI x1hi; omega) (by have t1 : 0 ≤ x1.toInt := q_leI x1lo; have t2 : x1.toInt ≤ 9 := q_leI x1hi; omega)) d_15_8_98 (fun H locs w77 hu78 hA4 V => ?_)
      replace hA4 : w77[kA4]? = some (qA4, .inl (g 3, 10, .inl (upd (fun _ => 0) x1.toNatClampNeg (vp_nar .boolean 1)))) := hA4
      replace hF := q_us hF hu78 (List.mem_of_getElem? (i := 3) rfl)
      refine lv_aload_n hx hb d_15_8_99 rfl (lv_at hl 1 rfl) ?_
      replace hO0 := (hu78 _ n_O0_A4).trans (hO0)
      refine q_get (ci := 14) (j := 6) (v := .ref qA5) C0 V i_DR rfl rfl hO0 (by decide) w_2008 rfl d_15_8_100 ?_
      refine lv_iload_n hx hb d_15_8_103 rfl (lv_at hl 2 rfl) ?_
      refine lv_aload_n hx hb d_15_8_104 rfl (lv_at hl 1 rfl) ?_
      refine q_get (ci := 14) (j := 9) (v := .long 0) C0 V i_DR rfl rfl hO0 (by decide) w_2012 rfl d_15_8_105 ?_
      refine lv_l2i hx hb d_15_8_108 rfl ?_
      refine q_ti (v := 0) (by decide) ?_
      replace hA5 := (hu78 _ n_A5_A4).trans ((hu76 _ n_A5_A3).trans (hA5))
      refine q_iast C0 V hA5 (q_ix (x := x1.toInt) rfl (by have t1 : 0 ≤ x1.toInt := q_leI x1lo; have t2 : x1.toInt ≤ 9 := q_leI x1hi; omega) (by have t1 : 0 ≤ x1.toInt := q_leI x1lo; have t2 : x1.toInt ≤ 9 := q_leI x1hi; omega)) d_15_8_109 (fun H locs w79 hu80 hA5 V => ?_)
      replace hA5 := q_re (y := (qA5, .inl (g 0, 10, .inl (fun _ => 0)))) hA5 (q_eI q_upd0)
      replace hA5 : w79[kA5]? = some (qA5, .inl (g 0, 10, .inl (fun _ => 0))) := hA5
      replace hF := q_us hF hu80 (List.mem_of_getElem? (i := 4) rfl)
      replace hO0 := (hu80 _ n_O0_A5).trans (hO0)
      replace hA2 := (hu80 _ n_A2_A5).trans ((hu78 _ n_A2_A4).trans ((hu76 _ n_A2_A3).trans (hA2)))
      replace hA3 := (hu80 _ n_A3_A5).trans ((hu78 _ n_A3_A4).trans (hA3))
      replace hA4 := (hu80 _ n_A4_A5).trans (hA4)
      replace hA6 := (hu80 _ n_A6_A5).trans ((hu78 _ n_A6_A4).trans ((hu76 _ n_A6_A3).trans (hA6)))
      exact q_retv C0 V (Or.inr (Or.inr (Or.inr (⟨y20, lx70, y21, c15, c16, c17, f18, f19, hF, hO0, hA2, hA3, hA4, hA5, hA6⟩)))) d_15_8_110
    ·
      refine lv_aload_n hx hb d_15_8_55 rfl (lv_at hl 1 rfl) ?_
      refine q_get (ci := 14) (j := 3) (v := .ref qA2) C0 V i_DR rfl rfl hO0 (by decide) w_2002 rfl d_15_8_56 ?_
      refine lv_sipush (v := 1000) hx hb d_15_8_59 (by decide) ?_
      refine lv_iload_n hx hb d_15_8_62 rfl (lv_at hl 2 rfl) ?_
      refine lv_imul hx hb d_15_8_63 ?_
      refine lv_iload_n hx hb d_15_8_64 rfl (lv_at hl 0 rfl) ?_
      refine lv_iadd hx hb d_15_8_65 ?_
      refine lv_aload_n hx hb d_15_8_66 rfl (lv_at hl 1 rfl) ?_
      refine q_get (ci := 14) (j := 7) (v := .ref qA6) C0 V i_DR rfl rfl hO0 (by decide) w_2010 rfl d_15_8_67 ?_
      refine lv_iload_n hx hb d_15_8_70 rfl (lv_at hl 0 rfl) ?_
      refine q_iald C0 V hA6 (q_ix (x := lx69.toInt) rfl (by have t1 : (y20.toInt + 1) < 19 := by { have e1 : (19 : Int32).toInt = 19 := (by decide); have e2 : ((y20 + 1) : Int32).toInt = (y20.toInt + 1) := (q_addI (x := y20.toInt) (y := 1) rfl (by decide) (by have t1 : 0 ≤ y20.toInt := q_leI f18; have t2 : y20.toInt ≤ 17 := q_leI f19; omega) (by have t1 : 0 ≤ y20.toInt := q_leI f18; have t2 : y20.toInt ≤ 17 := q_leI f19; omega)); have e3 := q_nleI c15; omega }; have t2 : lx69.toInt < (19 - y20.toInt) := by { have e1 : ((19 - y20) : Int32).toInt = (19 - y20.toInt) := (q_subI (x := 19) (y := y20.toInt) (by decide) rfl (by have t1 : 0 ≤ y20.toInt := q_leI f18; have t2 : y20.toInt ≤ 17 := q_leI f19; omega) (by have t1 : 0 ≤ y20.toInt := q_leI f18; have t2 : y20.toInt ≤ 17 := q_leI f19; omega)); have e2 : (lx69 : Int32).toInt = lx69.toInt := rfl; have e3 := q_nleI c74; omega }; have t3 : 0 ≤ y20.toInt := q_leI f18; have t4 : y20.toInt ≤ 17 := q_leI f19; omega) (by have t1 : (y20.toInt + 1) < 19 := by { have e1 : (19 : Int32).toInt = 19 := (by decide); have e2 : ((y20 + 1) : Int32).toInt = (y20.toInt + 1) := (q_addI (x := y20.toInt) (y := 1) rfl (by decide) (by have t1 : 0 ≤ y20.toInt := q_leI f18; have t2 : y20.toInt ≤ 17 := q_leI f19; omega) (by have t1 : 0 ≤ y20.toInt := q_leI f18; have t2 : y20.toInt ≤ 17 := q_leI f19; omega)); have e3 := q_nleI c15; omega }; have t2 : lx69.toInt < (19 - y20.toInt) := by { have e1 : ((19 - y20) : Int32).toInt = (19 - y20.toInt) := (q_subI (x := 19) (y := y20.toInt) (by decide) rfl (by have t1 : 0 ≤ y20.toInt := q_leI f18; have t2 : y20.toInt ≤ 17 := q_leI f19; omega) (by have t1 : 0 ≤ y20.toInt := q_leI f18; have t2 : y20.toInt ≤ 17 := q_leI f19; omega)); have e2 : (lx69 : Int32).toInt = lx69.toInt := rfl; have e3 := q_nleI c74; omega }; have t3 : 0 ≤ y20.toInt := q_leI f18; have t4 : y20.toInt ≤ 17 := q_leI f19; omega)) d_15_8_71 ?_
      refine q_iast C0 V hA2 (q_ix (x := ((1000 * x1.toInt) + lx69.toInt)) (q_addI (x := (1000 * x1.toInt)) (y := lx69.toInt) (q_mulI (x := 1000) (y := x1.toInt) (by decide) rfl (by have t1 : 0 ≤ x1.toInt := q_leI x1lo; have t2 : x1.toInt ≤ 9 := q_leI x1hi; omega) (by have t1 : 0 ≤ x1.toInt := q_leI x1lo; have t2 : x1.toInt ≤ 9 := q_leI x1hi; omega)) rfl (by have t1 : 0 ≤ x1.toInt := q_leI x1lo; have t2 : x1.toInt ≤ 9 := q_leI x1hi; have t3 : (y20.toInt + 1) < 19 := by { have e1 : (19 : Int32).toInt = 19 := (by decide); have e2 : ((y20 + 1) : Int32).toInt = (y20.toInt + 1) := (q_addI (x := y20.toInt) (y := 1) rfl (by decide) (by have t1 : 0 ≤ y20.toInt := q_leI f18; have t2 : y20.toInt ≤ 17 := q_leI f19; omega) (by have t1 : 0 ≤ y20.toInt := q_leI f18; have t2 : y20.toInt ≤ 17 := q_leI f19; omega)); have e3 := q_nleI c15; omega }; have t4 : lx69.toInt < (19 - y20.toInt) := by { have e1 : ((19 - y20) : Int32).toInt = (19 - y20.toInt) := (q_subI (x := 19) (y := y20.toInt) (by decide) rfl (by have t1 : 0 ≤ y20.toInt := q_leI f18; have t2 : y20.toInt ≤ 17 := q_leI f19; omega) (by have t1 : 0 ≤ y20.toInt := q_leI f18; have t2 : y20.toInt ≤ 17 := q_leI f19; omega)); have e2 : (lx69 : Int32).toInt = lx69.toInt := rfl; have e3 := q_nleI c74; omega }; have t5 : 0 ≤ y20.toInt := q_leI f18; have t6 : y20.toInt ≤ 17 := q_leI f19; omega) (by have t1 : 0 ≤ x1.toInt := q_leI x1lo; have t2 : x1.toInt ≤ 9 := q_leI x1hi; have t3 : (y20.toInt + 1) < 19 := by { have e1 : (19 : Int32).toInt = 19 := (by decide); have e2 : ((y20 + 1) : Int32).toInt = (y20.toInt + 1) := (q_addI (x := y20.toInt) (y := 1) rfl (by decide) (by have t1 : 0 ≤ y20.toInt := q_leI f18; have t2 : y20.toInt ≤ 17 := q_leI f19; omega) (by have t1 : 0 ≤ y20.toInt := q_leI f18; have t2 : y20.toInt ≤ 17 := q_leI f19; omega)); have e3 := q_nleI c15; omega }; have t4 : lx69.toInt < (19 - y20.toInt) := by { have e1 : ((19 - y20) : Int32).toInt = (19 - y20.toInt) := (q_subI (x := 19) (y := y20.toInt) (by decide) rfl (by have t1 : 0 ≤ y20.toInt := q_leI f18; have t2 : y20.toInt ≤ 17 := q_leI f19; omega) (by have t1 : 0 ≤ y20.toInt := q_leI f18; have t2 : y20.toInt ≤ 17 := q_leI f19; omega)); have e2 : (lx69 : Int32).toInt = lx69.toInt := rfl; have e3 := q_nleI c74; omega }; have t5 : 0 ≤ y20.toInt := q_leI f18; have t6 : y20.toInt ≤ 17 := q_leI f19; omega)) (by have t1 : 0 ≤ x1.toInt := q_leI x1lo; have t2 : x1.toInt ≤ 9 := q_leI x1hi; have t3 : (y20.toInt + 1) < 19 := by { have e1 : (19 : Int32).toInt = 19 := (by decide); have e2 : ((y20 + 1) : Int32).toInt = (y20.toInt + 1) := (q_addI (x := y20.toInt) (y := 1) rfl (by decide) (by have t1 : 0 ≤ y20.toInt := q_leI f18; have t2 : y20.toInt ≤ 17 := q_leI f19; omega) (by have t1 : 0 ≤ y20.toInt := q_leI f18; have t2 : y20.toInt ≤ 17 := q_leI f19; omega)); have e3 := q_nleI c15; omega }; have t4 : lx69.toInt < (19 - y20.toInt) := by { have e1 : ((19 - y20) : Int32).toInt = (19 - y20.toInt) := (q_subI (x := 19) (y := y20.toInt) (by decide) rfl (by have t1 : 0 ≤ y20.toInt := q_leI f18; have t2 : y20.toInt ≤ 17 := q_leI f19; omega) (by have t1 : 0 ≤ y20.toInt := q_leI f18; have t2 : y20.toInt ≤ 17 := q_leI f19; omega)); have e2 : (lx69 : Int32).toInt = lx69.toInt := rfl; have e3 := q_nleI c74; omega }; have t5 : 0 ≤ y20.toInt := q_leI f18; have t6 : y20.toInt ≤ 17 := q_leI f19; omega) (by have t1 : 0 ≤ x1.toInt := q_leI x1lo; have t2 : x1.toInt ≤ 9 := q_leI x1hi; have t3 : (y20.toInt + 1) < 19 := by { have e1 : (19 : Int32).toInt = 19 := (by decide); have e2 : ((y20 + 1) : Int32).toInt = (y20.toInt + 1) := (q_addI (x := y20.toInt) (y := 1) rfl (by decide) (by have t1 : 0 ≤ y20.toInt := q_leI f18; have t2 : y20.toInt ≤ 17 := q_leI f19; omega) (by have t1 : 0 ≤ y20.toInt := q_leI f18; have t2 : y20.toInt ≤ 17 := q_leI f19; omega)); have e3 := q_nleI c15; omega }; have t4 : lx69.toInt < (19 - y20.toInt) := by { have e1 : ((19 - y20) : Int32).toInt = (19 - y20.toInt) := (q_subI (x := 19) (y := y20.toInt) (by decide) rfl (by have t1 : 0 ≤ y20.toInt := q_leI f18; have t2 : y20.toInt ≤ 17 := q_leI f19; omega) (by have t1 : 0 ≤ y20.toInt := q_leI f18; have t2 : y20.toInt ≤ 17 := q_leI f19; omega)); have e2 : (lx69 : Int32).toInt = lx69.toInt := rfl; have e3 := q_nleI c74; omega }; have t5 : 0 ≤ y20.toInt := q_leI f18; have t6 : y20.toInt ≤ 17 := q_leI f19; omega)) d_15_8_72 (fun H locs w81 hu82 hA2 V => ?_)
      replace hA2 : w81[kA2]? = some (qA2, .inl (g 0, 10000, .inl (upd lx70 (((1000 * x1) + lx69).toNatClampNeg) (y21 lx69.toNatClampNeg)))) := hA2
      replace hF := q_us hF hu82 (.tail _ (.head _))
      refine lv_iinc (v := lx69 + 1) (lv' := [(2, .int (lx69 + 1)), (0, .ref qO0), (1, .int x1)]) hx hb d_15_8_73 hl (k := 0) rfl (rfl) (by decide) rfl (fun ls hl => ?_)
      refine lv_goto (tgt := 47) hx hb d_15_8_76 (by decide) ?_
      replace hO0 := (hu82 _ n_O0_A2).trans (hO0)
      replace hA3 := (hu82 _ n_A3_A2).trans (hA3)
      replace hA4 := (hu82 _ n_A4_A2).trans (hA4)
      replace hA5 := (hu82 _ n_A5_A2).trans (hA5)
      replace hA6 := (hu82 _ n_A6_A2).trans (hA6)
      exact ih73 ((lx69 + 1 : Int32), (upd lx70 (((1000 * x1) + lx69).toNatClampNeg) (y21 lx69.toNatClampNeg) : Nat → Int32)) _ _ _ _ (show ((19 - y20.toInt) - (lx69 + 1).toInt).toNat < ((19 - y20.toInt) - lx69.toInt).toNat from by have t1 : (y20.toInt + 1) < 19 := by { have e1 : (19 : Int32).toInt = 19 := (by decide); have e2 : ((y20 + 1) : Int32).toInt = (y20.toInt + 1) := (q_addI (x := y20.toInt) (y := 1) rfl (by decide) (by have t1 : 0 ≤ y20.toInt := q_leI f18; have t2 : y20.toInt ≤ 17 := q_leI f19; omega) (by have t1 : 0 ≤ y20.toInt := q_leI f18; have t2 : y20.toInt ≤ 17 := q_leI f19; omega)); have e3 := q_nleI c15; omega }; have t2 : lx69.toInt < (19 - y20.toInt) := by { have e1 : ((19 - y20) : Int32).toInt = (19 - y20.toInt) := (q_subI (x := 19) (y := y20.toInt) (by decide) rfl (by have t1 : 0 ≤ y20.toInt := q_leI f18; have t2 : y20.toInt ≤ 17 := q_leI f19; omega) (by have t1 : 0 ≤ y20.toInt := q_leI f18; have t2 : y20.toInt ≤ 17 := q_leI f19; omega)); have e2 : (lx69 : Int32).toInt = lx69.toInt := rfl; have e3 := q_nleI c74; omega }; have t3 : 0 ≤ y20.toInt := q_leI f18; have t4 : y20.toInt ≤ 17 := q_leI f19; have e : (lx69 + 1).toInt = (lx69.toInt + 1) := (q_addI (x := lx69.toInt) (y := 1) rfl (by decide) (by have t1 : (y20.toInt + 1) < 19 := by { have e1 : (19 : Int32).toInt = 19 := (by decide); have e2 : ((y20 + 1) : Int32).toInt = (y20.toInt + 1) := (q_addI (x := y20.toInt) (y := 1) rfl (by decide) (by have t1 : 0 ≤ y20.toInt := q_leI f18; have t2 : y20.toInt ≤ 17 := q_leI f19; omega) (by have t1 : 0 ≤ y20.toInt := q_leI f18; have t2 : y20.toInt ≤ 17 := q_leI f19; omega)); have e3 := q_nleI c15; omega }; have t2 : lx69.toInt < (19 - y20.toInt) := by { have e1 : ((19 - y20) : Int32).toInt = (19 - y20.toInt) := (q_subI (x := 19) (y := y20.toInt) (by decide) rfl (by have t1 : 0 ≤ y20.toInt := q_leI f18; have t2 : y20.toInt ≤ 17 := q_leI f19; omega) (by have t1 : 0 ≤ y20.toInt := q_leI f18; have t2 : y20.toInt ≤ 17 := q_leI f19; omega)); have e2 : (lx69 : Int32).toInt = lx69.toInt := rfl; have e3 := q_nleI c74; omega }; have t3 : 0 ≤ y20.toInt := q_leI f18; have t4 : y20.toInt ≤ 17 := q_leI f19; omega) (by have t1 : (y20.toInt + 1) < 19 := by { have e1 : (19 : Int32).toInt = 19 := (by decide); have e2 : ((y20 + 1) : Int32).toInt = (y20.toInt + 1) := (q_addI (x := y20.toInt) (y := 1) rfl (by decide) (by have t1 : 0 ≤ y20.toInt := q_leI f18; have t2 : y20.toInt ≤ 17 := q_leI f19; omega) (by have t1 : 0 ≤ y20.toInt := q_leI f18; have t2 : y20.toInt ≤ 17 := q_leI f19; omega)); have e3 := q_nleI c15; omega }; have t2 : lx69.toInt < (19 - y20.toInt) := by { have e1 : ((19 - y20) : Int32).toInt = (19 - y20.toInt) := (q_subI (x := 19) (y := y20.toInt) (by decide) rfl (by have t1 : 0 ≤ y20.toInt := q_leI f18; have t2 : y20.toInt ≤ 17 := q_leI f19; omega) (by have t1 : 0 ≤ y20.toInt := q_leI f18; have t2 : y20.toInt ≤ 17 := q_leI f19; omega)); have e2 : (lx69 : Int32).toInt = lx69.toInt := rfl; have e3 := q_nleI c74; omega }; have t3 : 0 ≤ y20.toInt := q_leI f18; have t4 : y20.toInt ≤ 17 := q_leI f19; omega)); omega) ⟨(show 0 ≤ (lx69 + 1).toInt ∧ ((lx69 + 1).toInt ≤ (19 - y20.toInt) ∨ (lx69 + 1).toInt = 0) from by have t1 : (y20.toInt + 1) < 19 := by { have e1 : (19 : Int32).toInt = 19 := (by decide); have e2 : ((y20 + 1) : Int32).toInt = (y20.toInt + 1) := (q_addI (x := y20.toInt) (y := 1) rfl (by decide) (by have t1 : 0 ≤ y20.toInt := q_leI f18; have t2 : y20.toInt ≤ 17 := q_leI f19; omega) (by have t1 : 0 ≤ y20.toInt := q_leI f18; have t2 : y20.toInt ≤ 17 := q_leI f19; omega)); have e3 := q_nleI c15; omega }; have t2 : lx69.toInt < (19 - y20.toInt) := by { have e1 : ((19 - y20) : Int32).toInt = (19 - y20.toInt) := (q_subI (x := 19) (y := y20.toInt) (by decide) rfl (by have t1 : 0 ≤ y20.toInt := q_leI f18; have t2 : y20.toInt ≤ 17 := q_leI f19; omega) (by have t1 : 0 ≤ y20.toInt := q_leI f18; have t2 : y20.toInt ≤ 17 := q_leI f19; omega)); have e2 : (lx69 : Int32).toInt = lx69.toInt := rfl; have e3 := q_nleI c74; omega }; have t3 : 0 ≤ y20.toInt := q_leI f18; have t4 : y20.toInt ≤ 17 := q_leI f19; have e : (lx69 + 1).toInt = (lx69.toInt + 1) := (q_addI (x := lx69.toInt) (y := 1) rfl (by decide) (by have t1 : (y20.toInt + 1) < 19 := by { have e1 : (19 : Int32).toInt = 19 := (by decide); have e2 : ((y20 + 1) : Int32).toInt = (y20.toInt + 1) := (q_addI (x := y20.toInt) (y := 1) rfl (by decide) (by have t1 : 0 ≤ y20.toInt := q_leI f18; have t2 : y20.toInt ≤ 17 := q_leI f19; omega) (by have t1 : 0 ≤ y20.toInt := q_leI f18; have t2 : y20.toInt ≤ 17 := q_leI f19; omega)); have e3 := q_nleI c15; omega }; have t2 : lx69.toInt < (19 - y20.toInt) := by { have e1 : ((19 - y20) : Int32).toInt = (19 - y20.toInt) := (q_subI (x := 19) (y := y20.toInt) (by decide) rfl (by have t1 : 0 ≤ y20.toInt := q_leI f18; have t2 : y20.toInt ≤ 17 := q_leI f19; omega) (by have t1 : 0 ≤ y20.toInt := q_leI f18; have t2 : y20.toInt ≤ 17 := q_leI f19; omega)); have e2 : (lx69 : Int32).toInt = lx69.toInt := rfl; have e3 := q_nleI c74; omega }; have t3 : 0 ≤ y20.toInt := q_leI f18; have t4 : y20.toInt ≤ 17 := q_leI f19; omega) (by have t1 : (y20.toInt + 1) < 19 := by { have e1 : (19 : Int32).toInt = 19 := (by decide); have e2 : ((y20 + 1) : Int32).toInt = (y20.toInt + 1) := (q_addI (x := y20.toInt) (y := 1) rfl (by decide) (by have t1 : 0 ≤ y20.toInt := q_leI f18; have t2 : y20.toInt ≤ 17 := q_leI f19; omega) (by have t1 : 0 ≤ y20.toInt := q_leI f18; have t2 : y20.toInt ≤ 17 := q_leI f19; omega)); have e3 := q_nleI c15; omega }; have t2 : lx69.toInt < (19 - y20.toInt) := by { have e1 : ((19 - y20) : Int32).toInt = (19 - y20.toInt) := (q_subI (x := 19) (y := y20.toInt) (by decide) rfl (by have t1 : 0 ≤ y20.toInt := q_leI f18; have t2 : y20.toInt ≤ 17 := q_leI f19; omega) (by have t1 : 0 ≤ y20.toInt := q_leI f18; have t2 : y20.toInt ≤ 17 := q_leI f19; omega)); have e2 : (lx69 : Int32).toInt = lx69.toInt := rfl; have e3 := q_nleI c74; omega }; have t3 : 0 ≤ y20.toInt := q_leI f18; have t4 : y20.toInt ≤ 17 := q_leI f19; omega)); omega), V, q_lw hl (q_lw1 0 rfl (q_lw1 1 rfl (q_lw1 2 rfl q_lw0))), hF, hO0, hA2, hA3, hA4, hA5, hA6⟩
theorem d_15_22_0 : decode prog_15_method_22_code 0 = .ok (.aload_n 0, 1) := by decide +kernel
theorem d_15_22_1 : decode prog_15_method_22_code 1 = .ok (.iload_n 1, 1) := by decide +kernel
theorem d_15_22_2 : decode prog_15_method_22_code 2 = .ok (.invokestatic 113, 3) := by decide +kernel
theorem d_15_22_5 : decode prog_15_method_22_code 5 = .ok (.ifCond .eq 7, 3) := by decide +kernel
theorem d_15_22_12 : decode prog_15_method_22_code 12 = .ok (.iconst 0, 1) := by decide +kernel
theorem d_15_22_13 : decode prog_15_method_22_code 13 = .ok (.putfield 41, 3) := by decide +kernel
theorem d_15_22_16 : decode prog_15_method_22_code 16 = .ok (.aload_n 0, 1) := by decide +kernel
theorem d_15_22_17 : decode prog_15_method_22_code 17 = .ok (.getfield 41, 3) := by decide +kernel
theorem d_15_22_20 : decode prog_15_method_22_code 20 = .ok (.ifCond .le 4, 3) := by decide +kernel
theorem d_15_22_24 : decode prog_15_method_22_code 24 = .ok (.aload_n 0, 1) := by decide +kernel
theorem d_15_22_25 : decode prog_15_method_22_code 25 = .ok (.iconst 2, 1) := by decide +kernel
theorem d_15_22_26 : decode prog_15_method_22_code 26 = .ok (.putfield 66, 3) := by decide +kernel
theorem d_15_22_29 : decode prog_15_method_22_code 29 = .ok (.aload_n 0, 1) := by decide +kernel
theorem d_15_22_30 : decode prog_15_method_22_code 30 = .ok (.lload_n 2, 1) := by decide +kernel
theorem d_15_22_31 : decode prog_15_method_22_code 31 = .ok (.lconst 0, 1) := by decide +kernel
theorem d_15_22_32 : decode prog_15_method_22_code 32 = .ok (.lcmp, 1) := by decide +kernel
theorem d_15_22_33 : decode prog_15_method_22_code 33 = .ok (.ifCond .ge 7, 3) := by decide +kernel
theorem d_15_22_40 : decode prog_15_method_22_code 40 = .ok (.iconst 0, 1) := by decide +kernel
theorem d_15_22_41 : decode prog_15_method_22_code 41 = .ok (.putfield 56, 3) := by decide +kernel
theorem d_15_22_44 : decode prog_15_method_22_code 44 = .ok (.aload_n 0, 1) := by decide +kernel
theorem d_15_22_45 : decode prog_15_method_22_code 45 = .ok (.iconst 0, 1) := by decide +kernel
theorem d_15_22_46 : decode prog_15_method_22_code 46 = .ok (.putfield 52, 3) := by decide +kernel
theorem d_15_22_49 : decode prog_15_method_22_code 49 = .ok (.aload_n 0, 1) := by decide +kernel
theorem d_15_22_50 : decode prog_15_method_22_code 50 = .ok (.iload 4, 2) := by decide +kernel
theorem d_15_22_52 : decode prog_15_method_22_code 52 = .ok (.i2l, 1) := by decide +kernel
theorem d_15_22_53 : decode prog_15_method_22_code 53 = .ok (.putfield 48, 3) := by decide +kernel
theorem d_15_22_56 : decode prog_15_method_22_code 56 = .ok (.aload_n 0, 1) := by decide +kernel
theorem d_15_22_57 : decode prog_15_method_22_code 57 = .ok (.bipush 19, 2) := by decide +kernel
theorem d_15_22_59 : decode prog_15_method_22_code 59 = .ok (.putfield 45, 3) := by decide +kernel
theorem d_15_22_62 : decode prog_15_method_22_code 62 = .ok (.lload_n 2, 1) := by decide +kernel
theorem d_15_22_63 : decode prog_15_method_22_code 63 = .ok (.lstore 5, 2) := by decide +kernel
theorem d_15_22_65 : decode prog_15_method_22_code 65 = .ok (.bipush 18, 2) := by decide +kernel
theorem d_15_22_67 : decode prog_15_method_22_code 67 = .ok (.istore 7, 2) := by decide +kernel
theorem d_15_22_69 : decode prog_15_method_22_code 69 = .ok (.iload 7, 2) := by decide +kernel
theorem d_15_22_71 : decode prog_15_method_22_code 71 = .ok (.ifCond .lt 48, 3) := by decide +kernel
theorem d_15_22_119 : decode prog_15_method_22_code 119 = .ok (.aload_n 0, 1) := by decide +kernel
theorem d_15_22_120 : decode prog_15_method_22_code 120 = .ok (.iload_n 1, 1) := by decide +kernel
theorem d_15_22_121 : decode prog_15_method_22_code 121 = .ok (.invokevirtual 89, 3) := by decide +kernel
theorem d_15_22_124 : decode prog_15_method_22_code 124 = .ok (.return_, 1) := by decide +kernel
theorem d_15_22_74 : decode prog_15_method_22_code 74 = .ok (.lload 5, 2) := by decide +kernel
theorem d_15_22_76 : decode prog_15_method_22_code 76 = .ok (.ldc2_w 109, 3) := by decide +kernel
theorem w_2407 : (Cond.constantLong "NumberHouseModel$DecimalRows" (109 : Nat) (10 : Int64)) ∈ q_tbl := q_of 2407 (by decide +kernel) (by decide +kernel)
theorem d_15_22_79 : decode prog_15_method_22_code 79 = .ok (.lrem, 1) := by decide +kernel
theorem d_15_22_80 : decode prog_15_method_22_code 80 = .ok (.lstore 8, 2) := by decide +kernel
theorem d_15_22_82 : decode prog_15_method_22_code 82 = .ok (.aload_n 0, 1) := by decide +kernel
theorem d_15_22_83 : decode prog_15_method_22_code 83 = .ok (.getfield 26, 3) := by decide +kernel
theorem d_15_22_86 : decode prog_15_method_22_code 86 = .ok (.iload 7, 2) := by decide +kernel
theorem d_15_22_88 : decode prog_15_method_22_code 88 = .ok (.lload 8, 2) := by decide +kernel
theorem d_15_22_90 : decode prog_15_method_22_code 90 = .ok (.lconst 0, 1) := by decide +kernel
theorem d_15_22_91 : decode prog_15_method_22_code 91 = .ok (.lcmp, 1) := by decide +kernel
theorem d_15_22_92 : decode prog_15_method_22_code 92 = .ok (.ifCond .ge 9, 3) := by decide +kernel
theorem d_15_22_101 : decode prog_15_method_22_code 101 = .ok (.lload 8, 2) := by decide +kernel
theorem d_15_22_103 : decode prog_15_method_22_code 103 = .ok (.l2i, 1) := by decide +kernel
theorem d_15_22_104 : decode prog_15_method_22_code 104 = .ok (.iastore, 1) := by decide +kernel
theorem d_15_22_105 : decode prog_15_method_22_code 105 = .ok (.lload 5, 2) := by decide +kernel
theorem d_15_22_107 : decode prog_15_method_22_code 107 = .ok (.ldc2_w 109, 3) := by decide +kernel
theorem d_15_22_110 : decode prog_15_method_22_code 110 = .ok (.ldiv, 1) := by decide +kernel
theorem d_15_22_111 : decode prog_15_method_22_code 111 = .ok (.lstore 5, 2) := by decide +kernel
theorem d_15_22_113 : decode prog_15_method_22_code 113 = .ok (.iinc 7 (-1), 3) := by decide +kernel
theorem d_15_22_116 : decode prog_15_method_22_code 116 = .ok (.goto (-47), 3) := by decide +kernel
theorem d_15_22_95 : decode prog_15_method_22_code 95 = .ok (.lload 8, 2) := by decide +kernel
theorem d_15_22_97 : decode prog_15_method_22_code 97 = .ok (.lneg, 1) := by decide +kernel
theorem d_15_22_98 : decode prog_15_method_22_code 98 = .ok (.goto 5, 3) := by decide +kernel
theorem d_15_22_36 : decode prog_15_method_22_code 36 = .ok (.iconst 1, 1) := by decide +kernel
theorem d_15_22_37 : decode prog_15_method_22_code 37 = .ok (.goto 4, 3) := by decide +kernel
def y_DR_put : MethodName := ⟨"NumberHouseModel$DecimalRows", "put", "(IJI)V"⟩
set_option maxRecDepth 100000 in
set_option maxHeartbeats 4000000 in
theorem c_DR_put (l : Launch) (D : va_G) (g : Nat → ClassId) (ws : va_W) (kO0 kA2 kA3 kA4 kA5 kA6 qO0 qA1 qA2 qA3 qA4 qA5 qA6 qA7 qA8 qA9 qA10 : Nat) (x1 : Int32) (x2 : Int64) (hO0 : ws[kO0]? = some (qO0, .inr (14, [.int 0, .ref qA1, .int 0, .ref qA2, .ref qA3, .ref qA4, .ref qA5, .ref qA6, .int 0, .long 0, .int 0, .int 0, .ref qA7, .int 0, .ref qA8, .int 0, .ref qA9, .int 0, .ref qA10, .int 0, .int 0]))) (hA2 : ws[kA2]? = some (qA2, .inl (g 0, 10000, .inl (fun _ => 0)))) (hA3 : ws[kA3]? = some (qA3, .inl (g 0, 10, .inl (upd (upd (upd (upd (upd (upd (upd (upd (upd (upd (fun _ => 0) 0 1) 1 1) 2 1) 3 1) 4 1) 5 1) 6 1) 7 1) 8 1) 9 1)))) (hA4 : ws[kA4]? = some (qA4, .inl (g 3, 10, .inl (fun _ => 0)))) (hA5 : ws[kA5]? = some (qA5, .inl (g 0, 10, .inl (fun _ => 0)))) (hA6 : ws[kA6]? = some (qA6, .inl (g 0, 4400, .inl (fun _ => 0)))) (n_A2_A3 : kA2 ≠ kA3) (n_A2_A4 : kA2 ≠ kA4) (n_A2_A5 : kA2 ≠ kA5) (n_A2_A6 : kA2 ≠ kA6) (n_A3_A4 : kA3 ≠ kA4) (n_A3_A5 : kA3 ≠ kA5) (n_A3_A6 : kA3 ≠ kA6) (n_A4_A5 : kA4 ≠ kA5) (n_A4_A6 : kA4 ≠ kA6) (n_A5_A6 : kA5 ≠ kA6) (x1lo : 0 ≤ x1) (x1hi : x1 ≤ 9) : q_mV l y_DR_put prog_15_method_22_code 10 3 0 0 D g [.ref qO0, .int x1, .long x2, .int 0] ws (fun u => (∃ (ex0 : Nat → Int32), 0 ≤ (lg_cmp x2 0) ∧ q_un ws u [kO0, kA2, kA3, kA4, kA5, kA6] ∧ u[kO0]? = some (qO0, .inr (14, [.int 0, .ref qA1, .int 0, .ref qA2, .ref qA3, .ref qA4, .ref qA5, .ref qA6, .int 1, .long 0, .int 0, .int 0, .ref qA7, .int 0, .ref qA8, .int 0, .ref qA9, .int 0, .ref qA10, .int 0, .int 2])) ∧ u[kA2]? = some (qA2, .inl (g 0, 10000, .inl (upd (fun _ => 0) ((1000 * x1).toNatClampNeg) (ex0 (18 : Int32).toNatClampNeg)))) ∧ u[kA3]? = some (qA3, .inl (g 0, 10, .inl (upd (upd (upd (upd (upd (upd (upd (upd (upd (upd (upd (fun _ => 0) 0 1) 1 1) 2 1) 3 1) 4 1) 5 1) 6 1) 7 1) 8 1) 9 1) x1.toNatClampNeg 1))) ∧ u[kA4]? = some (qA4, .inl (g 3, 10, .inl (fun _ => 0))) ∧ u[kA5]? = some (qA5, .inl (g 0, 10, .inl (fun _ => 0))) ∧ u[kA6]? = some (qA6, .inl (g 0, 4400, .inl (upd ex0 0 (ex0 (18 : Int32).toNatClampNeg))))) ∨ (∃ (ex0 : Int32) (ex1 : Nat → Int32) (ex2 : Nat → Int32), 0 ≤ (lg_cmp x2 0) ∧ ¬ 19 ≤ (ex0 + 1) ∧ 0 ≤ ex0 ∧ ex0 ≤ 17 ∧ q_un ws u [kO0, kA2, kA3, kA4, kA5, kA6] ∧ u[kO0]? = some (qO0, .inr (14, [.int 0, .ref qA1, .int 0, .ref qA2, .ref qA3, .ref qA4, .ref qA5, .ref qA6, .int (19 - ex0), .long 0, .int 0, .int 0, .ref qA7, .int 0, .ref qA8, .int 0, .ref qA9, .int 0, .ref qA10, .int 0, .int 2])) ∧ u[kA2]? = some (qA2, .inl (g 0, 10000, .inl ex1)) ∧ u[kA3]? = some (qA3, .inl (g 0, 10, .inl (upd (upd (upd (upd (upd (upd (upd (upd (upd (upd (upd (fun _ => 0) 0 1) 1 1) 2 1) 3 1) 4 1) 5 1) 6 1) 7 1) 8 1) 9 1) x1.toNatClampNeg (19 - ex0)))) ∧ u[kA4]? = some (qA4, .inl (g 3, 10, .inl (fun _ => 0))) ∧ u[kA5]? = some (qA5, .inl (g 0, 10, .inl (fun _ => 0))) ∧ u[kA6]? = some (qA6, .inl (g 0, 4400, .inl ex2))) ∨ (∃ (ex0 : Nat → Int32), ¬ 0 ≤ (lg_cmp x2 0) ∧ (ex0 (18 : Int32).toNatClampNeg) = 0 ∧ q_un ws u [kO0, kA2, kA3, kA4, kA5, kA6] ∧ u[kO0]? = some (qO0, .inr (14, [.int 0, .ref qA1, .int 0, .ref qA2, .ref qA3, .ref qA4, .ref qA5, .ref qA6, .int 1, .long 0, .int 0, .int 0, .ref qA7, .int 0, .ref qA8, .int 0, .ref qA9, .int 0, .ref qA10, .int 0, .int 2])) ∧ u[kA2]? = some (qA2, .inl (g 0, 10000, .inl (upd (fun _ => 0) ((1000 * x1).toNatClampNeg) (ex0 (18 : Int32).toNatClampNeg)))) ∧ u[kA3]? = some (qA3, .inl (g 0, 10, .inl (upd (upd (upd (upd (upd (upd (upd (upd (upd (upd (upd (fun _ => 0) 0 1) 1 1) 2 1) 3 1) 4 1) 5 1) 6 1) 7 1) 8 1) 9 1) x1.toNatClampNeg 1))) ∧ u[kA4]? = some (qA4, .inl (g 3, 10, .inl (fun _ => 0))) ∧ u[kA5]? = some (qA5, .inl (g 0, 10, .inl (fun _ => 0))) ∧ u[kA6]? = some (qA6, .inl (g 0, 4400, .inl (upd ex0 0 (ex0 (18 : Int32).toNatClampNeg))))) ∨ (∃ (ex0 : Nat → Int32), ¬ 0 ≤ (lg_cmp x2 0) ∧ ¬ (ex0 (18 : Int32).toNatClampNeg) = 0 ∧ q_un ws u [kO0, kA2, kA3, kA4, kA5, kA6] ∧ u[kO0]? = some (qO0, .inr (14, [.int 0, .ref qA1, .int 0, .ref qA2, .ref qA3, .ref qA4, .ref qA5, .ref qA6, .int 1, .long 0, .int 0, .int 1, .ref qA7, .int 0, .ref qA8, .int 0, .ref qA9, .int 0, .ref qA10, .int 0, .int 2])) ∧ u[kA2]? = some (qA2, .inl (g 0, 10000, .inl (upd (fun _ => 0) ((1000 * x1).toNatClampNeg) (ex0 (18 : Int32).toNatClampNeg)))) ∧ u[kA3]? = some (qA3, .inl (g 0, 10, .inl (upd (upd (upd (upd (upd (upd (upd (upd (upd (upd (upd (fun _ => 0) 0 1) 1 1) 2 1) 3 1) 4 1) 5 1) 6 1) 7 1) 8 1) 9 1) x1.toNatClampNeg 1))) ∧ u[kA4]? = some (qA4, .inl (g 3, 10, .inl (upd (fun _ => 0) x1.toNatClampNeg (vp_nar .boolean 1)))) ∧ u[kA5]? = some (qA5, .inl (g 0, 10, .inl (fun _ => 0))) ∧ u[kA6]? = some (qA6, .inl (g 0, 4400, .inl (upd ex0 0 (ex0 (18 : Int32).toNatClampNeg))))) ∨ (∃ (ex0 : Int32) (ex1 : Nat → Int32) (ex2 : Nat → Int32), ¬ 0 ≤ (lg_cmp x2 0) ∧ ¬ 19 ≤ (ex0 + 1) ∧ (ex2 (0 : Int32).toNatClampNeg) = 0 ∧ 0 ≤ ex0 ∧ ex0 ≤ 17 ∧ q_un ws u [kO0, kA2, kA3, kA4, kA5, kA6] ∧ u[kO0]? = some (qO0, .inr (14, [.int 0, .ref qA1, .int 0, .ref qA2, .ref qA3, .ref qA4, .ref qA5, .ref qA6, .int (19 - ex0), .long 0, .int 0, .int 0, .ref qA7, .int 0, .ref qA8, .int 0, .ref qA9, .int 0, .ref qA10, .int 0, .int 2])) ∧ u[kA2]? = some (qA2, .inl (g 0, 10000, .inl ex1)) ∧ u[kA3]? = some (qA3, .inl (g 0, 10, .inl (upd (upd (upd (upd (upd (upd (upd (upd (upd (upd (upd (fun _ => 0) 0 1) 1 1) 2 1) 3 1) 4 1) 5 1) 6 1) 7 1) 8 1) 9 1) x1.toNatClampNeg (19 - ex0)))) ∧ u[kA4]? = some (qA4, .inl (g 3, 10, .inl (fun _ => 0))) ∧ u[kA5]? = some (qA5, .inl (g 0, 10, .inl (fun _ => 0))) ∧ u[kA6]? = some (qA6, .inl (g 0, 4400, .inl ex2))) ∨ (∃ (ex0 : Int32) (ex1 : Nat → Int32) (ex2 : Nat → Int32), ¬ 0 ≤ (lg_cmp x2 0) ∧ ¬ 19 ≤ (ex0 + 1) ∧ ¬ (ex2 (0 : Int32).toNatClampNeg) = 0 ∧ 0 ≤ ex0 ∧ ex0 ≤ 17 ∧ q_un ws u [kO0, kA2, kA3, kA4, kA5, kA6] ∧ u[kO0]? = some (qO0, .inr (14, [.int 0, .ref qA1, .int 0, .ref qA2, .ref qA3, .ref qA4, .ref qA5, .ref qA6, .int (19 - ex0), .long 0, .int 0, .int 1, .ref qA7, .int 0, .ref qA8, .int 0, .ref qA9, .int 0, .ref qA10, .int 0, .int 2])) ∧ u[kA2]? = some (qA2, .inl (g 0, 10000, .inl ex1)) ∧ u[kA3]? = some (qA3, .inl (g 0, 10, .inl (upd (upd (upd (upd (upd (upd (upd (upd (upd (upd (upd (fun _ => 0) 0 1) 1 1) 2 1) 3 1) 4 1) 5 1) 6 1) 7 1) 8 1) 9 1) x1.toNatClampNeg (19 - ex0)))) ∧ u[kA4]? = some (qA4, .inl (g 3, 10, .inl (upd (fun _ => 0) x1.toNatClampNeg (vp_nar .boolean 1)))) ∧ u[kA5]? = some (qA5, .inl (g 0, 10, .inl (fun _ => 0))) ∧ u[kA6]? = some (qA6, .inl (g 0, 4400, .inl ex2)))) := by
  intro sz
  refine q_into (by decide) (Nat.le_of_ble_eq_true rfl) ?_
  intro p e s m below meth c ls hsz C0 V hl
  have hx := C0.1
  have hb := C0.2.1
  have hl : lv_has ls 10 [(0, .ref qO0), (1, .int x1), (2, .long x2), (4, .int 0)] := hl
  have n_A2_O0 := q_df hA2 hO0
  have n_A3_O0 := q_df hA3 hO0
  have n_A4_O0 := q_df hA4 hO0
  have n_A5_O0 := q_df hA5 hO0
  have n_A6_O0 := q_df hA6 hO0
  have n_O0_A6 := Ne.symm (q_df hA6 hO0)
  have hF : q_un ws ws [kO0, kA2, kA3, kA4, kA5, kA6] := q_u0
  refine lv_aload_n hx hb d_15_22_0 rfl (lv_at hl 0 rfl) ?_
  refine lv_iload_n hx hb d_15_22_1 rfl (lv_at hl 1 rfl) ?_
  refine q_goi V (q_runS (As := [.int x1]) (rest := [.ref qO0]) (d := 1) (mc := 0) (ms := 0) C0 V rfl LS_DR_113 (c_DR_no l D g ws x1 x1lo x1hi _) rfl hl.1 rfl (Nat.le_of_ble_eq_true rfl) ⟨by decide, by decide⟩ ⟨Nat.le_of_ble_eq_true rfl, Nat.le_of_ble_eq_true rfl⟩ d_15_22_2) (fun v3 u2 H locs hp1 V => ?_)
  obtain ⟨rfl, rfl⟩ := hp1
  refine lv_if_eq (tgt := 12) hx hb d_15_22_5 (by decide) (fun c5 => ?_) (fun c5 => absurd (by decide) c5)
  refine lv_iconst (v := 0) hx hb d_15_22_12 (by decide) ?_
  refine q_put (ci := 14) (j := 0) (v := .int 0) (ty := .int) C0 V i_DR o_DR n_DR rfl rfl hO0 (by decide) w_1996 rfl rfl rfl rfl (Nat.le_of_ble_eq_true rfl) d_15_22_13 (fun H locs w6 hu7 hO0 V => ?_)
  replace hO0 : w6[kO0]? = some (qO0, .inr (14, [.int 0, .ref qA1, .int 0, .ref qA2, .ref qA3, .ref qA4, .ref qA5, .ref qA6, .int 0, .long 0, .int 0, .int 0, .ref qA7, .int 0, .ref qA8, .int 0, .ref qA9, .int 0, .ref qA10, .int 0, .int 0])) := hO0
  replace hF := q_us hF hu7 (.head _)
  refine lv_aload_n hx hb d_15_22_16 rfl (lv_at hl 0 rfl) ?_
  refine q_get (ci := 14) (j := 0) (v := .int 0) C0 V i_DR rfl rfl hO0 (by decide) w_1996 rfl d_15_22_17 ?_
  refine lv_if_le (tgt := 24) hx hb d_15_22_20 (by decide) (fun c8 => ?_) (fun c8 => absurd (by decide) c8)
  refine lv_aload_n hx hb d_15_22_24 rfl (lv_at hl 0 rfl) ?_
  refine lv_iconst (v := 2) hx hb d_15_22_25 (by decide) ?_
  refine q_put (ci := 14) (j := 20) (v := .int 2) (ty := .int) C0 V i_DR o_DR n_DR rfl rfl hO0 (by decide) w_2024 rfl rfl rfl rfl (Nat.le_of_ble_eq_true rfl) d_15_22_26 (fun H locs w9 hu10 hO0 V => ?_)
  replace hO0 : w9[kO0]? = some (qO0, .inr (14, [.int 0, .ref qA1, .int 0, .ref qA2, .ref qA3, .ref qA4, .ref qA5, .ref qA6, .int 0, .long 0, .int 0, .int 0, .ref qA7, .int 0, .ref qA8, .int 0, .ref qA9, .int 0, .ref qA10, .int 0, .int 2])) := hO0
  replace hF := q_us hF hu10 (.head _)
  refine lv_aload_n hx hb d_15_22_29 rfl (lv_at hl 0 rfl) ?_
  refine lv_lload_n hx hb d_15_22_30 rfl (lv_at hl 2 rfl) ?_
  refine lv_lconst (v := 0) hx hb d_15_22_31 (by decide) ?_
  refine W.lcmp hx hb d_15_22_32 ?_
  refine lv_if_ge (tgt := 40) hx hb d_15_22_33 (by decide) (fun c11 => ?_) (fun c11 => ?_)
  ·
    refine lv_iconst (v := 0) hx hb d_15_22_40 (by decide) ?_
    refine q_put (ci := 14) (j := 11) (v := .int 0) (ty := .boolean) C0 V i_DR o_DR n_DR rfl rfl hO0 (by decide) w_2014 rfl rfl rfl rfl (Nat.le_of_ble_eq_true rfl) d_15_22_41 (fun H locs w12 hu13 hO0 V => ?_)
    replace hO0 : w12[kO0]? = some (qO0, .inr (14, [.int 0, .ref qA1, .int 0, .ref qA2, .ref qA3, .ref qA4, .ref qA5, .ref qA6, .int 0, .long 0, .int 0, .int 0, .ref qA7, .int 0, .ref qA8, .int 0, .ref qA9, .int 0, .ref qA10, .int 0, .int 2])) := hO0
    replace hF := q_us hF hu13 (.head _)
    refine lv_aload_n hx hb d_15_22_44 rfl (lv_at hl 0 rfl) ?_
    refine lv_iconst (v := 0) hx hb d_15_22_45 (by decide) ?_
    refine q_put (ci := 14) (j := 10) (v := .int 0) (ty := .boolean) C0 V i_DR o_DR n_DR rfl rfl hO0 (by decide) w_2013 rfl rfl rfl rfl (Nat.le_of_ble_eq_true rfl) d_15_22_46 (fun H locs w14 hu15 hO0 V => ?_)
    replace hO0 : w14[kO0]? = some (qO0, .inr (14, [.int 0, .ref qA1, .int 0, .ref qA2, .ref qA3, .ref qA4, .ref qA5, .ref qA6, .int 0, .long 0, .int 0, .int 0, .ref qA7, .int 0, .ref qA8, .int 0, .ref qA9, .int 0, .ref qA10, .int 0, .int 2])) := hO0
    replace hF := q_us hF hu15 (.head _)
    refine lv_aload_n hx hb d_15_22_49 rfl (lv_at hl 0 rfl) ?_
    refine lv_iload hx hb d_15_22_50 (lv_at hl 3 rfl) ?_
    refine lv_i2l hx hb d_15_22_52 rfl ?_
    refine q_tl (v := 0) (by decide) ?_
    refine q_put (ci := 14) (j := 9) (v := .long 0) (ty := .long) C0 V i_DR o_DR n_DR rfl rfl hO0 (by decide) w_2012 rfl rfl rfl rfl (Nat.le_of_ble_eq_true rfl) d_15_22_53 (fun H locs w16 hu17 hO0 V => ?_)
    replace hO0 : w16[kO0]? = some (qO0, .inr (14, [.int 0, .ref qA1, .int 0, .ref qA2, .ref qA3, .ref qA4, .ref qA5, .ref qA6, .int 0, .long 0, .int 0, .int 0, .ref qA7, .int 0, .ref qA8, .int 0, .ref qA9, .int 0, .ref qA10, .int 0, .int 2])) := hO0
    replace hF := q_us hF hu17 (.head _)
    refine lv_aload_n hx hb d_15_22_56 rfl (lv_at hl 0 rfl) ?_
    refine lv_bipush (v := 19) hx hb d_15_22_57 (by decide) ?_
    refine q_put (ci := 14) (j := 8) (v := .int 19) (ty := .int) C0 V i_DR o_DR n_DR rfl rfl hO0 (by decide) w_2011 rfl rfl rfl rfl (Nat.le_of_ble_eq_true rfl) d_15_22_59 (fun H locs w18 hu19 hO0 V => ?_)
    replace hO0 : w18[kO0]? = some (qO0, .inr (14, [.int 0, .ref qA1, .int 0, .ref qA2, .ref qA3, .ref qA4, .ref qA5, .ref qA6, .int 19, .long 0, .int 0, .int 0, .ref qA7, .int 0, .ref qA8, .int 0, .ref qA9, .int 0, .ref qA10, .int 0, .int 2])) := hO0
    replace hF := q_us hF hu19 (.head _)
    refine lv_lload_n hx hb d_15_22_62 rfl (lv_at hl 2 rfl) ?_
    refine lv_lstore (lv' := [(5, .long x2), (0, .ref qO0), (1, .int x1), (2, .long x2), (4, .int 0)]) hx hb d_15_22_63 hl (by decide) rfl (fun ls hl => ?_)
    refine lv_bipush (v := 18) hx hb d_15_22_65 (by decide) ?_
    refine lv_istore (lv' := [(7, .int 18), (5, .long x2), (0, .ref qO0), (1, .int x1), (2, .long x2), (4, .int 0)]) hx hb d_15_22_67 hl (by decide) rfl (fun ls hl => ?_)
    replace hA6 := (hu19 _ n_A6_O0).trans ((hu17 _ n_A6_O0).trans ((hu15 _ n_A6_O0).trans ((hu13 _ n_A6_O0).trans ((hu10 _ n_A6_O0).trans ((hu7 _ n_A6_O0).trans (hA6))))))
    replace hA2 := (hu19 _ n_A2_O0).trans ((hu17 _ n_A2_O0).trans ((hu15 _ n_A2_O0).trans ((hu13 _ n_A2_O0).trans ((hu10 _ n_A2_O0).trans ((hu7 _ n_A2_O0).trans (hA2))))))
    replace hA3 := (hu19 _ n_A3_O0).trans ((hu17 _ n_A3_O0).trans ((hu15 _ n_A3_O0).trans ((hu13 _ n_A3_O0).trans ((hu10 _ n_A3_O0).trans ((hu7 _ n_A3_O0).trans (hA3))))))
    replace hA4 := (hu19 _ n_A4_O0).trans ((hu17 _ n_A4_O0).trans ((hu15 _ n_A4_O0).trans ((hu13 _ n_A4_O0).trans ((hu10 _ n_A4_O0).trans ((hu7 _ n_A4_O0).trans (hA4))))))
    replace hA5 := (hu19 _ n_A5_O0).trans ((hu17 _ n_A5_O0).trans ((hu15 _ n_A5_O0).trans ((hu13 _ n_A5_O0).trans ((hu10 _ n_A5_O0).trans ((hu7 _ n_A5_O0).trans (hA5))))))
    refine q_loop (X := Int32 × Int64 × (Nat → Int32)) (fun z H locs ls w23 => ((-1) ≤ z.1.toInt ∧ z.1.toInt ≤ 18) ∧ q_Wd D g (va_A ws sz) s w23 H locs ∧ lv_has ls 10 [(7, .int z.1), (5, .long z.2.1), (0, .ref qO0), (1, .int x1), (2, .long x2), (4, .int 0)] ∧ q_un ws w23 [kO0, kA2, kA3, kA4, kA5, kA6] ∧ w23[kO0]? = some (qO0, .inr (14, [.int 0, .ref qA1, .int 0, .ref qA2, .ref qA3, .ref qA4, .ref qA5, .ref qA6, .int 19, .long 0, .int 0, .int 0, .ref qA7, .int 0, .ref qA8, .int 0, .ref qA9, .int 0, .ref qA10, .int 0, .int 2])) ∧ w23[kA2]? = some (qA2, .inl (g 0, 10000, .inl (fun _ => 0))) ∧ w23[kA3]? = some (qA3, .inl (g 0, 10, .inl (upd (upd (upd (upd (upd (upd (upd (upd (upd (upd (fun _ => 0) 0 1) 1 1) 2 1) 3 1) 4 1) 5 1) 6 1) 7 1) 8 1) 9 1))) ∧ w23[kA4]? = some (qA4, .inl (g 3, 10, .inl (fun _ => 0))) ∧ w23[kA5]? = some (qA5, .inl (g 0, 10, .inl (fun _ => 0))) ∧ w23[kA6]? = some (qA6, .inl (g 0, 4400, .inl z.2.2))) (fun z => (z.1.toInt - (-1)).toNat) ?_ ((18 : Int32), (x2 : Int64), (fun _ => 0 : (Nat → Int32))) _ _ _ w18 ⟨⟨(by dsimp only; decide), (by dsimp only; decide)⟩, V, hl, hF, hO0, hA2, hA3, hA4, hA5, hA6⟩
    rintro ⟨lx20, lx21, lx22⟩ H locs ls w23 ⟨i24, V, hl, hF, hO0, hA2, hA3, hA4, hA5, hA6⟩ ih25
    replace i24 : (-1) ≤ lx20.toInt ∧ lx20.toInt ≤ 18 := i24
    replace hl : lv_has ls 10 [(7, .int lx20), (5, .long lx21), (0, .ref qO0), (1, .int x1), (2, .long x2), (4, .int 0)] := hl
    replace hO0 : w23[kO0]? = some (qO0, .inr (14, [.int 0, .ref qA1, .int 0, .ref qA2, .ref qA3, .ref qA4, .ref qA5, .ref qA6, .int 19, .long 0, .int 0, .int 0, .ref qA7, .int 0, .ref qA8, .int 0, .ref qA9, .int 0, .ref qA10, .int 0, .int 2])) := hO0
    replace hA2 : w23[kA2]? = some (qA2, .inl (g 0, 10000, .inl (fun _ => 0))) := hA2
    replace hA3 : w23[kA3]? = some (qA3, .inl (g 0, 10, .inl (upd (upd (upd (upd (upd (upd (upd (upd (upd (upd (fun _ => 0) 0 1) 1 1) 2 1) 3 1) 4 1) 5 1) 6 1) 7 1) 8 1) 9 1))) := hA3
    replace hA4 : w23[kA4]? = some (qA4, .inl (g 3, 10, .inl (fun _ => 0))) := hA4
    replace hA5 : w23[kA5]? = some (qA5, .inl (g 0, 10, .inl (fun _ => 0))) := hA5
    replace hA6 : w23[kA6]? = some (qA6, .inl (g 0, 4400, .inl lx22)) := hA6
    refine lv_iload hx hb d_15_22_69 (lv_at hl 0 rfl) ?_
    refine lv_if_lt (tgt := 119) hx hb d_15_22_71 (by decide) (fun c26 => ?_) (fun c26 => ?_)
    ·
      refine lv_aload_n hx hb d_15_22_119 rfl (lv_at hl 2 rfl) ?_
      refine lv_iload_n hx hb d_15_22_120 rfl (lv_at hl 3 rfl) ?_
      refine q_gov V (q_runV (As := [.int x1]) (rest := []) (d := 2) (mc := 0) (ms := 0) (ci := 14) C0 V rfl LV_DR_89 (c_DR_store_7 l D g w23 kO0 kA2 kA3 kA4 kA5 kA6 qO0 qA1 qA2 qA3 qA4 qA5 qA6 qA7 qA8 qA9 qA10 x1 lx22 hO0 hA2 hA3 hA4 hA5 hA6 n_A2_A3 n_A2_A4 n_A2_A5 n_A2_A6 n_A3_A4 n_A3_A5 n_A3_A6 n_A4_A5 n_A4_A6 n_A5_A6 x1lo x1hi _) rfl rfl hO0 rfl hl.1 rfl (Nat.le_of_ble_eq_true rfl) ⟨by decide, by decide⟩ ⟨Nat.le_of_ble_eq_true rfl, Nat.le_of_ble_eq_true rfl⟩ d_15_22_121) (fun u28 H locs hp27 V => ?_)
      rcases hp27 with ⟨hg29, hO0, hA2, hA3, hA4, hA5, hA6⟩ | ⟨y34, y35, y36, c30, c31, f32, f33, hg37, hO0, hA2, hA3, hA4, hA5, hA6⟩
      ·
        replace hF := q_uc hF hg29 (q_sc (.head _) (q_sc (.tail _ (.head _)) (q_sc (.tail _ (.tail _ (.head _))) (q_sc (List.mem_of_getElem? (i := 3) rfl) (q_sc (List.mem_of_getElem? (i := 4) rfl) (q_sc (List.mem_of_getElem? (i := 5) rfl) (fun _ h => absurd h List.not_mem_nil)))))))
        exact q_retv C0 V (Or.inl ⟨lx22, c11, hF, hO0, hA2, hA3, hA4, hA5, hA6⟩) d_15_22_124
      ·
        replace hF := q_uc hF hg37 (q_sc (.head _) (q_sc (.tail _ (.head _)) (q_sc (.tail _ (.tail _ (.head _))) (q_sc (List.mem_of_getElem? (i := 3) rfl) (q_sc (List.mem_of_getElem? (i := 4) rfl) (q_sc (List.mem_of_getElem? (i := 5) rfl) (fun _ h => absurd h List.not_mem_nil)))))))
        exact q_retv C0 V (Or.inr (Or.inl ⟨y34, y35, y36, c11, c30, f32, f33, hF, hO0, hA2, hA3, hA4, hA5, hA6⟩)) d_15_22_124
    ·
      refine lv_lload hx hb d_15_22_74 (lv_at hl 1 rfl) ?_
      refine q_ldc2 C0 rfl w_2407 d_15_22_76 ?_
      refine lv_lrem hx hb d_15_22_79 (by decide) ?_
      refine lv_lstore (lv' := [(8, .long (lx21 - lx21 / 10 * 10)), (7, .int lx20), (5, .long lx21), (0, .ref qO0), (1, .int x1), (2, .long x2), (4, .int 0)]) hx hb d_15_22_80 hl (by decide) rfl (fun ls hl => ?_)
      refine lv_aload_n hx hb d_15_22_82 rfl (lv_at hl 3 rfl) ?_
      refine q_get (ci := 14) (j := 7) (v := .ref qA6) C0 V i_DR rfl rfl hO0 (by decide) w_2010 rfl d_15_22_83 ?_
      refine lv_iload hx hb d_15_22_86 (lv_at hl 1 rfl) ?_
      refine lv_lload hx hb d_15_22_88 (lv_at hl 0 rfl) ?_
      refine lv_lconst (v := 0) hx hb d_15_22_90 (by decide) ?_
      refine W.lcmp hx hb d_15_22_91 ?_
      refine lv_if_ge (tgt := 101) hx hb d_15_22_92 (by decide) (fun c38 => ?_) (fun c38 => ?_)
      ·
        refine lv_lload hx hb d_15_22_101 (lv_at hl 0 rfl) ?_
        refine lv_l2i hx hb d_15_22_103 rfl ?_
        refine q_iast C0 V hA6 (q_ix (x := lx20.toInt) rfl (by have t1 : 0 ≤ lx20.toInt := q_nltI c26; omega) (by have t1 : 0 ≤ lx20.toInt := q_nltI c26; omega)) d_15_22_104 (fun H locs w39 hu40 hA6 V => ?_)
        replace hA6 : w39[kA6]? = some (qA6, .inl (g 0, 4400, .inl (upd lx22 lx20.toNatClampNeg ((lx21 - lx21 / 10 * 10).toInt32)))) := hA6
        replace hF := q_us hF hu40 (List.mem_of_getElem? (i := 5) rfl)
        refine lv_lload hx hb d_15_22_105 (lv_at hl 2 rfl) ?_
        refine q_ldc2 C0 rfl w_2407 d_15_22_107 ?_
        refine lv_ldiv hx hb d_15_22_110 (by decide) ?_
        refine lv_lstore (lv' := [(5, .long (lx21 / 10)), (8, .long (lx21 - lx21 / 10 * 10)), (7, .int lx20), (0, .ref qO0), (1, .int x1), (2, .long x2), (4, .int 0)]) hx hb d_15_22_111 hl (by decide) rfl (fun ls hl => ?_)
        refine lv_iinc (v := lx20 + (-1)) (lv' := [(7, .int (lx20 + (-1))), (5, .long (lx21 / 10)), (8, .long (lx21 - lx21 / 10 * 10)), (0, .ref qO0), (1, .int x1), (2, .long x2), (4, .int 0)]) hx hb d_15_22_113 hl (k := 2) rfl (rfl) (by decide) rfl (fun ls hl => ?_)
        refine lv_goto (tgt := 69) hx hb d_15_22_116 (by decide) ?_
        replace hO0 := (hu40 _ n_O0_A6).trans (hO0)
        replace hA2 := (hu40 _ n_A2_A6).trans (hA2)
        replace hA3 := (hu40 _ n_A3_A6).trans (hA3)
        replace hA4 := (hu40 _ n_A4_A6).trans (hA4)
        replace hA5 := (hu40 _ n_A5_A6).trans (hA5)
        exact ih25 ((lx20 + (-1) : Int32), (lx21 / 10 : Int64), (upd lx22 lx20.toNatClampNeg ((lx21 - lx21 / 10 * 10).toInt32) : Nat → Int32)) _ _ _ _ (show ((lx20 + (-1)).toInt - (-1)).toNat < (lx20.toInt - (-1)).toNat from by have t1 : 0 ≤ lx20.toInt := q_nltI c26; have e : (lx20 + (-1)).toInt = (lx20.toInt + (-1)) := (q_addI (x := lx20.toInt) (y := (-1)) rfl (by decide) (by have t1 : 0 ≤ lx20.toInt := q_nltI c26; omega) (by have t1 : 0 ≤ lx20.toInt := q_nltI c26; omega)); omega) ⟨(show (-1) ≤ (lx20 + (-1)).toInt ∧ (lx20 + (-1)).toInt ≤ 18 from by have t1 : 0 ≤ lx20.toInt := q_nltI c26; have e : (lx20 + (-1)).toInt = (lx20.toInt + (-1)) := (q_addI (x := lx20.toInt) (y := (-1)) rfl (by decide) (by have t1 : 0 ≤ lx20.toInt := q_nltI c26; omega) (by have t1 : 0 ≤ lx20.toInt := q_nltI c26; omega)); omega), V, q_lw hl (q_lw1 0 rfl (q_lw1 1 rfl (q_lw1 3 rfl (q_lw1 4 rfl (q_lw1 5 rfl (q_lw1 6 rfl q_lw0)))))), hF, hO0, hA2, hA3, hA4, hA5, hA6⟩
      ·
        refine lv_lload hx hb d_15_22_95 (lv_at hl 0 rfl) ?_
        refine lv_lneg hx hb d_15_22_97 ?_
        refine lv_goto (tgt := 103) hx hb d_15_22_98 (by decide) ?_
        refine lv_l2i hx hb d_15_22_103 rfl ?_
        refine q_iast C0 V hA6 (q_ix (x := lx20.toInt) rfl (by have t1 : 0 ≤ lx20.toInt := q_nltI c26; omega) (by have t1 : 0 ≤ lx20.toInt := q_nltI c26; omega)) d_15_22_104 (fun H locs w41 hu42 hA6 V => ?_)
        replace hA6 : w41[kA6]? = some (qA6, .inl (g 0, 4400, .inl (upd lx22 lx20.toNatClampNeg ((-(lx21 - lx21 / 10 * 10)).toInt32)))) := hA6
        replace hF := q_us hF hu42 (List.mem_of_getElem? (i := 5) rfl)
        refine lv_lload hx hb d_15_22_105 (lv_at hl 2 rfl) ?_
        refine q_ldc2 C0 rfl w_2407 d_15_22_107 ?_
        refine lv_ldiv hx hb d_15_22_110 (by decide) ?_
        refine lv_lstore (lv' := [(5, .long (lx21 / 10)), (8, .long (lx21 - lx21 / 10 * 10)), (7, .int lx20), (0, .ref qO0), (1, .int x1), (2, .long x2), (4, .int 0)]) hx hb d_15_22_111 hl (by decide) rfl (fun ls hl => ?_)
        refine lv_iinc (v := lx20 + (-1)) (lv' := [(7, .int (lx20 + (-1))), (5, .long (lx21 / 10)), (8, .long (lx21 - lx21 / 10 * 10)), (0, .ref qO0), (1, .int x1), (2, .long x2), (4, .int 0)]) hx hb d_15_22_113 hl (k := 2) rfl (rfl) (by decide) rfl (fun ls hl => ?_)
        refine lv_goto (tgt := 69) hx hb d_15_22_116 (by decide) ?_
        replace hO0 := (hu42 _ n_O0_A6).trans (hO0)
        replace hA2 := (hu42 _ n_A2_A6).trans (hA2)
        replace hA3 := (hu42 _ n_A3_A6).trans (hA3)
        replace hA4 := (hu42 _ n_A4_A6).trans (hA4)
        replace hA5 := (hu42 _ n_A5_A6).trans (hA5)
        exact ih25 ((lx20 + (-1) : Int32), (lx21 / 10 : Int64), (upd lx22 lx20.toNatClampNeg ((-(lx21 - lx21 / 10 * 10)).toInt32) : Nat → Int32)) _ _ _ _ (show ((lx20 + (-1)).toInt - (-1)).toNat < (lx20.toInt - (-1)).toNat from by have t1 : 0 ≤ lx20.toInt := q_nltI c26; have e : (lx20 + (-1)).toInt = (lx20.toInt + (-1)) := (q_addI (x := lx20.toInt) (y := (-1)) rfl (by decide) (by have t1 : 0 ≤ lx20.toInt := q_nltI c26; omega) (by have t1 : 0 ≤ lx20.toInt := q_nltI c26; omega)); omega) ⟨(show (-1) ≤ (lx20 + (-1)).toInt ∧ (lx20 + (-1)).toInt ≤ 18 from by have t1 : 0 ≤ lx20.toInt := q_nltI c26; have e : (lx20 + (-1)).toInt = (lx20.toInt + (-1)) := (q_addI (x := lx20.toInt) (y := (-1)) rfl (by decide) (by have t1 : 0 ≤ lx20.toInt := q_nltI c26; omega) (by have t1 : 0 ≤ lx20.toInt := q_nltI c26; omega)); omega), V, q_lw hl (q_lw1 0 rfl (q_lw1 1 rfl (q_lw1 3 rfl (q_lw1 4 rfl (q_lw1 5 rfl (q_lw1 6 rfl q_lw0)))))), hF, hO0, hA2, hA3, hA4, hA5, hA6⟩
  ·
    refine lv_iconst (v := 1) hx hb d_15_22_36 (by decide) ?_
    refine lv_goto (tgt := 41) hx hb d_15_22_37 (by decide) ?_
    refine q_put (ci := 14) (j := 11) (v := .int 1) (ty := .boolean) C0 V i_DR o_DR n_DR rfl rfl hO0 (by decide) w_2014 rfl rfl rfl rfl (Nat.le_of_ble_eq_true rfl) d_15_22_41 (fun H locs w43 hu44 hO0 V => ?_)
    replace hO0 : w43[kO0]? = some (qO0, .inr (14, [.int 0, .ref qA1, .int 0, .ref qA2, .ref qA3, .ref qA4, .ref qA5, .ref qA6, .int 0, .long 0, .int 0, .int 1, .ref qA7, .int 0, .ref qA8, .int 0, .ref qA9, .int 0, .ref qA10, .int 0, .int 2])) := hO0
    replace hF := q_us hF hu44 (.head _)
    refine lv_aload_n hx hb d_15_22_44 rfl (lv_at hl 0 rfl) ?_
    refine lv_iconst (v := 0) hx hb d_15_22_45 (by decide) ?_
    refine q_put (ci := 14) (j := 10) (v := .int 0) (ty := .boolean) C0 V i_DR o_DR n_DR rfl rfl hO0 (by decide) w_2013 rfl rfl rfl rfl (Nat.le_of_ble_eq_true rfl) d_15_22_46 (fun H locs w45 hu46 hO0 V => ?_)
    replace hO0 : w45[kO0]? = some (qO0, .inr (14, [.int 0, .ref qA1, .int 0, .ref qA2, .ref qA3, .ref qA4, .ref qA5, .ref qA6, .int 0, .long 0, .int 0, .int 1, .ref qA7, .int 0, .ref qA8, .int 0, .ref qA9, .int 0, .ref qA10, .int 0, .int 2])) := hO0
    replace hF := q_us hF hu46 (.head _)
    refine lv_aload_n hx hb d_15_22_49 rfl (lv_at hl 0 rfl) ?_
    refine lv_iload hx hb d_15_22_50 (lv_at hl 3 rfl) ?_
    refine lv_i2l hx hb d_15_22_52 rfl ?_
    refine q_tl (v := 0) (by decide) ?_
    refine q_put (ci := 14) (j := 9) (v := .long 0) (ty := .long) C0 V i_DR o_DR n_DR rfl rfl hO0 (by decide) w_2012 rfl rfl rfl rfl (Nat.le_of_ble_eq_true rfl) d_15_22_53 (fun H locs w47 hu48 hO0 V => ?_)
    replace hO0 : w47[kO0]? = some (qO0, .inr (14, [.int 0, .ref qA1, .int 0, .ref qA2, .ref qA3, .ref qA4, .ref qA5, .ref qA6, .int 0, .long 0, .int 0, .int 1, .ref qA7, .int 0, .ref qA8, .int 0, .ref qA9, .int 0, .ref qA10, .int 0, .int 2])) := hO0
    replace hF := q_us hF hu48 (.head _)
    refine lv_aload_n hx hb d_15_22_56 rfl (lv_at hl 0 rfl) ?_
    refine lv_bipush (v := 19) hx hb d_15_22_57 (by decide) ?_
    refine q_put (ci := 14) (j := 8) (v := .int 19) (ty := .int) C0 V i_DR o_DR n_DR rfl rfl hO0 (by decide) w_2011 rfl rfl rfl rfl (Nat.le_of_ble_eq_true rfl) d_15_22_59 (fun H locs w49 hu50 hO0 V => ?_)
    replace hO0 : w49[kO0]? = some (qO0, .inr (14, [.int 0, .ref qA1, .int 0, .ref qA2, .ref qA3, .ref qA4, .ref qA5, .ref qA6, .int 19, .long 0, .int 0, .int 1, .ref qA7, .int 0, .ref qA8, .int 0, .ref qA9, .int 0, .ref qA10, .int 0, .int 2])) := hO0
    replace hF := q_us hF hu50 (.head _)
    refine lv_lload_n hx hb d_15_22_62 rfl (lv_at hl 2 rfl) ?_
    refine lv_lstore (lv' := [(5, .long x2), (0, .ref qO0), (1, .int x1), (2, .long x2), (4, .int 0)]) hx hb d_15_22_63 hl (by decide) rfl (fun ls hl => ?_)
    refine lv_bipush (v := 18) hx hb d_15_22_65 (by decide) ?_
    refine lv_istore (lv' := [(7, .int 18), (5, .long x2), (0, .ref qO0), (1, .int x1), (2, .long x2), (4, .int 0)]) hx hb d_15_22_67 hl (by decide) rfl (fun ls hl => ?_)
    replace hA6 := (hu50 _ n_A6_O0).trans ((hu48 _ n_A6_O0).trans ((hu46 _ n_A6_O0).trans ((hu44 _ n_A6_O0).trans ((hu10 _ n_A6_O0).trans ((hu7 _ n_A6_O0).trans (hA6))))))
    replace hA2 := (hu50 _ n_A2_O0).trans ((hu48 _ n_A2_O0).trans ((hu46 _ n_A2_O0).trans ((hu44 _ n_A2_O0).trans ((hu10 _ n_A2_O0).trans ((hu7 _ n_A2_O0).trans (hA2))))))
    replace hA3 := (hu50 _ n_A3_O0).trans ((hu48 _ n_A3_O0).trans ((hu46 _ n_A3_O0).trans ((hu44 _ n_A3_O0).trans ((hu10 _ n_A3_O0).trans ((hu7 _ n_A3_O0).trans (hA3))))))
    replace hA4 := (hu50 _ n_A4_O0).trans ((hu48 _ n_A4_O0).trans ((hu46 _ n_A4_O0).trans ((hu44 _ n_A4_O0).trans ((hu10 _ n_A4_O0).trans ((hu7 _ n_A4_O0).trans (hA4))))))
    replace hA5 := (hu50 _ n_A5_O0).trans ((hu48 _ n_A5_O0).trans ((hu46 _ n_A5_O0).trans ((hu44 _ n_A5_O0).trans ((hu10 _ n_A5_O0).trans ((hu7 _ n_A5_O0).trans (hA5))))))
    refine q_loop (X := Int32 × Int64 × (Nat → Int32)) (fun z H locs ls w54 => ((-1) ≤ z.1.toInt ∧ z.1.toInt ≤ 18) ∧ q_Wd D g (va_A ws sz) s w54 H locs ∧ lv_has ls 10 [(7, .int z.1), (5, .long z.2.1), (0, .ref qO0), (1, .int x1), (2, .long x2), (4, .int 0)] ∧ q_un ws w54 [kO0, kA2, kA3, kA4, kA5, kA6] ∧ w54[kO0]? = some (qO0, .inr (14, [.int 0, .ref qA1, .int 0, .ref qA2, .ref qA3, .ref qA4, .ref qA5, .ref qA6, .int 19, .long 0, .int 0, .int 1, .ref qA7, .int 0, .ref qA8, .int 0, .ref qA9, .int 0, .ref qA10, .int 0, .int 2])) ∧ w54[kA2]? = some (qA2, .inl (g 0, 10000, .inl (fun _ => 0))) ∧ w54[kA3]? = some (qA3, .inl (g 0, 10, .inl (upd (upd (upd (upd (upd (upd (upd (upd (upd (upd (fun _ => 0) 0 1) 1 1) 2 1) 3 1) 4 1) 5 1) 6 1) 7 1) 8 1) 9 1))) ∧ w54[kA4]? = some (qA4, .inl (g 3, 10, .inl (fun _ => 0))) ∧ w54[kA5]? = some (qA5, .inl (g 0, 10, .inl (fun _ => 0))) ∧ w54[kA6]? = some (qA6, .inl (g 0, 4400, .inl z.2.2))) (fun z => (z.1.toInt - (-1)).toNat) ?_ ((18 : Int32), (x2 : Int64), (fun _ => 0 : (Nat → Int32))) _ _ _ w49 ⟨⟨(by dsimp only; decide), (by dsimp only; decide)⟩, V, hl, hF, hO0, hA2, hA3, hA4, hA5, hA6⟩
    rintro ⟨lx51, lx52, lx53⟩ H locs ls w54 ⟨i55, V, hl, hF, hO0, hA2, hA3, hA4, hA5, hA6⟩ ih56
    replace i55 : (-1) ≤ lx51.toInt ∧ lx51.toInt ≤ 18 := i55
    replace hl : lv_has ls 10 [(7, .int lx51), (5, .long lx52), (0, .ref qO0), (1, .int x1), (2, .long x2), (4, .int 0)] := hl
    replace hO0 : w54[kO0]? = some (qO0, .inr (14, [.int 0, .ref qA1, .int 0, .ref qA2, .ref qA3, .ref qA4, .ref qA5, .ref qA6, .int 19, .long 0, .int 0, .int 1, .ref qA7, .int 0, .ref qA8, .int 0, .ref qA9, .int 0, .ref qA10, .int 0, .int 2])) := hO0
    replace hA2 : w54[kA2]? = some (qA2, .inl (g 0, 10000, .inl (fun _ => 0))) := hA2
    replace hA3 : w54[kA3]? = some (qA3, .inl (g 0, 10, .inl (upd (upd (upd (upd (upd (upd (upd (upd (upd (upd (fun _ => 0) 0 1) 1 1) 2 1) 3 1) 4 1) 5 1) 6 1) 7 1) 8 1) 9 1))) := hA3
    replace hA4 : w54[kA4]? = some (qA4, .inl (g 3, 10, .inl (fun _ => 0))) := hA4
    replace hA5 : w54[kA5]? = some (qA5, .inl (g 0, 10, .inl (fun _ => 0))) := hA5
    replace hA6 : w54[kA6]? = some (qA6, .inl (g 0, 4400, .inl lx53)) := hA6
    refine lv_iload hx hb d_15_22_69 (lv_at hl 0 rfl) ?_
    refine lv_if_lt (tgt := 119) hx hb d_15_22_71 (by decide) (fun c57 => ?_) (fun c57 => ?_)
    ·
      refine lv_aload_n hx hb d_15_22_119 rfl (lv_at hl 2 rfl) ?_
      refine lv_iload_n hx hb d_15_22_120 rfl (lv_at hl 3 rfl) ?_
      refine q_gov V (q_runV (As := [.int x1]) (rest := []) (d := 2) (mc := 0) (ms := 0) (ci := 14) C0 V rfl LV_DR_89 (c_DR_store_8 l D g w54 kO0 kA2 kA3 kA4 kA5 kA6 qO0 qA1 qA2 qA3 qA4 qA5 qA6 qA7 qA8 qA9 qA10 x1 lx53 hO0 hA2 hA3 hA4 hA5 hA6 n_A2_A3 n_A2_A4 n_A2_A5 n_A2_A6 n_A3_A4 n_A3_A5 n_A3_A6 n_A4_A5 n_A4_A6 n_A5_A6 x1lo x1hi _) rfl rfl hO0 rfl hl.1 rfl (Nat.le_of_ble_eq_true rfl) ⟨by decide, by decide⟩ ⟨Nat.le_of_ble_eq_true rfl, Nat.le_of_ble_eq_true rfl⟩ d_15_22_121) (fun u59 H locs hp58 V => ?_)
      rcases hp58 with ⟨c60, hg61, hO0, hA2, hA3, hA4, hA5, hA6⟩ | ⟨c62, hg63, hO0, hA2, hA3, hA4, hA5, hA6⟩ | ⟨y69, y70, y71, c64, c65, c66, f67, f68, hg72, hO0, hA2, hA3, hA4, hA5, hA6⟩ | ⟨y78, y79, y80, c73, c74, c75, f76, f77, hg81, hO0, hA2, hA3, hA4, hA5, hA6⟩
      ·
        replace hF := q_uc hF hg61 (q_sc (.head _) (q_sc (.tail _ (.head _)) (q_sc (.tail _ (.tail _ (.head _))) (q_sc (List.mem_of_getElem? (i := 3) rfl) (q_sc (List.mem_of_getElem? (i := 4) rfl) (q_sc (List.mem_of_getElem? (i := 5) rfl) (fun _ h => absurd h List.not_mem_nil)))))))
        exact q_retv C0 V (Or.inr (Or.inr (Or.inl ⟨lx53, c11, c60, hF, hO0, hA2, hA3, hA4, hA5, hA6⟩))) d_15_22_124
      ·
        replace hF := q_uc hF hg63 (q_sc (.head _) (q_sc (.tail _ (.head _)) (q_sc (.tail _ (.tail _ (.head _))) (q_sc (List.mem_of_getElem? (i := 3) rfl) (q_sc (List.mem_of_getElem? (i := 4) rfl) (q_sc (List.mem_of_getElem? (i := 5) rfl) (fun _ h => absurd h List.not_mem_nil)))))))
        exact q_retv C0 V (Or.inr (Or.inr (Or.inr (Or.inl ⟨lx53, c11, c62, hF, hO0, hA2, hA3, hA4, hA5, hA6⟩)))) d_15_22_124
      ·
        replace hF := q_uc hF hg72 (q_sc (.head _) (q_sc (.tail _ (.head _)) (q_sc (.tail _ (.tail _ (.head _))) (q_sc (List.mem_of_getElem? (i := 3) rfl) (q_sc (List.mem_of_getElem? (i := 4) rfl) (q_sc (List.mem_of_getElem? (i := 5) rfl) (fun _ h => absurd h List.not_mem_nil)))))))
        exact q_retv C0 V (Or.inr (Or.inr (Or.inr (Or.inr (Or.inl ⟨y69, y70, y71, c11, c64, c66, f67, f68, hF, hO0, hA2, hA3, hA4, hA5, hA6⟩))))) d_15_22_124
      ·
        replace hF := q_uc hF hg81 (q_sc (.head _) (q_sc (.tail _ (.head _)) (q_sc (.tail _ (.tail _ (.head _))) (q_sc (List.mem_of_getElem? (i := 3) rfl) (q_sc (List.mem_of_getElem? (i := 4) rfl) (q_sc (List.mem_of_getElem? (i := 5) rfl) (fun _ h => absurd h List.not_mem_nil)))))))
        exact q_retv C0 V (Or.inr (Or.inr (Or.inr (Or.inr (Or.inr (⟨y78, y79, y80, c11, c73, c75, f76, f77, hF, hO0, hA2, hA3, hA4, hA5, hA6⟩)))))) d_15_22_124
    ·
      refine lv_lload hx hb d_15_22_74 (lv_at hl 1 rfl) ?_
      refine q_ldc2 C0 rfl w_2407 d_15_22_76 ?_
      refine lv_lrem hx hb d_15_22_79 (by decide) ?_
      refine lv_lstore (lv' := [(8, .long (lx52 - lx52 / 10 * 10)), (7, .int lx51), (5, .long lx52), (0, .ref qO0), (1, .int x1), (2, .long x2), (4, .int 0)]) hx hb d_15_22_80 hl (by decide) rfl (fun ls hl => ?_)
      refine lv_aload_n hx hb d_15_22_82 rfl (lv_at hl 3 rfl) ?_
      refine q_get (ci := 14) (j := 7) (v := .ref qA6) C0 V i_DR rfl rfl hO0 (by decide) w_2010 rfl d_15_22_83 ?_
      refine lv_iload hx hb d_15_22_86 (lv_at hl 1 rfl) ?_
      refine lv_lload hx hb d_15_22_88 (lv_at hl 0 rfl) ?_
      refine lv_lconst (v := 0) hx hb d_15_22_90 (by decide) ?_
      refine W.lcmp hx hb d_15_22_91 ?_
      refine lv_if_ge (tgt := 101) hx hb d_15_22_92 (by decide) (fun c82 => ?_) (fun c82 => ?_)
      ·
        refine lv_lload hx hb d_15_22_101 (lv_at hl 0 rfl) ?_
        refine lv_l2i hx hb d_15_22_103 rfl ?_
        refine q_iast C0 V hA6 (q_ix (x := lx51.toInt) rfl (by have t1 : 0 ≤ lx51.toInt := q_nltI c57; omega) (by have t1 : 0 ≤ lx51.toInt := q_nltI c57; omega)) d_15_22_104 (fun H locs w83 hu84 hA6 V => ?_)
        replace hA6 : w83[kA6]? = some (qA6, .inl (g 0, 4400, .inl (upd lx53 lx51.toNatClampNeg ((lx52 - lx52 / 10 * 10).toInt32)))) := hA6
        replace hF := q_us hF hu84 (List.mem_of_getElem? (i := 5) rfl)
        refine lv_lload hx hb d_15_22_105 (lv_at hl 2 rfl) ?_
        refine q_ldc2 C0 rfl w_2407 d_15_22_107 ?_
        refine lv_ldiv hx hb d_15_22_110 (by decide) ?_
        refine lv_lstore (lv' := [(5, .long (lx52 / 10)), (8, .long (lx52 - lx52 / 10 * 10)), (7, .int lx51), (0, .ref qO0), (1, .int x1), (2, .long x2), (4, .int 0)]) hx hb d_15_22_111 hl (by decide) rfl (fun ls hl => ?_)
        refine lv_iinc (v := lx51 + (-1)) (lv' := [(7, .int (lx51 + (-1))), (5, .long (lx52 / 10)), (8, .long (lx52 - lx52 / 10 * 10)), (0, .ref qO0), (1, .int x1), (2, .long x2), (4, .int 0)]) hx hb d_15_22_113 hl (k := 2) rfl (rfl) (by decide) rfl (fun ls hl => ?_)
        refine lv_goto (tgt := 69) hx hb d_15_22_116 (by decide) ?_
        replace hO0 := (hu84 _ n_O0_A6).trans (hO0)
        replace hA2 := (hu84 _ n_A2_A6).trans (hA2)
        replace hA3 := (hu84 _ n_A3_A6).trans (hA3)
        replace hA4 := (hu84 _ n_A4_A6).trans (hA4)
        replace hA5 := (hu84 _ n_A5_A6).trans (hA5)
        exact ih56 ((lx51 + (-1) : Int32), (lx52 / 10 : Int64), (upd lx53 lx51.toNatClampNeg ((lx52 - lx52 / 10 * 10).toInt32) : Nat → Int32)) _ _ _ _ (show ((lx51 + (-1)).toInt - (-1)).toNat < (lx51.toInt - (-1)).toNat from by have t1 : 0 ≤ lx51.toInt := q_nltI c57; have e : (lx51 + (-1)).toInt = (lx51.toInt + (-1)) := (q_addI (x := lx51.toInt) (y := (-1)) rfl (by decide) (by have t1 : 0 ≤ lx51.toInt := q_nltI c57; omega) (by have t1 : 0 ≤ lx51.toInt := q_nltI c57; omega)); omega) ⟨(show (-1) ≤ (lx51 + (-1)).toInt ∧ (lx51 + (-1)).toInt ≤ 18 from by have t1 : 0 ≤ lx51.toInt := q_nltI c57; have e : (lx51 + (-1)).toInt = (lx51.toInt + (-1)) := (q_addI (x := lx51.toInt) (y := (-1)) rfl (by decide) (by have t1 : 0 ≤ lx51.toInt := q_nltI c57; omega) (by have t1 : 0 ≤ lx51.toInt := q_nltI c57; omega)); omega), V, q_lw hl (q_lw1 0 rfl (q_lw1 1 rfl (q_lw1 3 rfl (q_lw1 4 rfl (q_lw1 5 rfl (q_lw1 6 rfl q_lw0)))))), hF, hO0, hA2, hA3, hA4, hA5, hA6⟩
      ·
        refine lv_lload hx hb d_15_22_95 (lv_at hl 0 rfl) ?_
        refine lv_lneg hx hb d_15_22_97 ?_
        refine lv_goto (tgt := 103) hx hb d_15_22_98 (by decide) ?_
        refine lv_l2i hx hb d_15_22_103 rfl ?_
        refine q_iast C0 V hA6 (q_ix (x := lx51.toInt) rfl (by have t1 : 0 ≤ lx51.toInt := q_nltI c57; omega) (by have t1 : 0 ≤ lx51.toInt := q_nltI c57; omega)) d_15_22_104 (fun H locs w85 hu86 hA6 V => ?_)
        replace hA6 : w85[kA6]? = some (qA6, .inl (g 0, 4400, .inl (upd lx53 lx51.toNatClampNeg ((-(lx52 - lx52 / 10 * 10)).toInt32)))) := hA6
        replace hF := q_us hF hu86 (List.mem_of_getElem? (i := 5) rfl)
        refine lv_lload hx hb d_15_22_105 (lv_at hl 2 rfl) ?_
        refine q_ldc2 C0 rfl w_2407 d_15_22_107 ?_
        refine lv_ldiv hx hb d_15_22_110 (by decide) ?_
        refine lv_lstore (lv' := [(5, .long (lx52 / 10)), (8, .long (lx52 - lx52 / 10 * 10)), (7, .int lx51), (0, .ref qO0), (1, .int x1), (2, .long x2), (4, .int 0)]) hx hb d_15_22_111 hl (by decide) rfl (fun ls hl => ?_)
        refine lv_iinc (v := lx51 + (-1)) (lv' := [(7, .int (lx51 + (-1))), (5, .long (lx52 / 10)), (8, .long (lx52 - lx52 / 10 * 10)), (0, .ref qO0), (1, .int x1), (2, .long x2), (4, .int 0)]) hx hb d_15_22_113 hl (k := 2) rfl (rfl) (by decide) rfl (fun ls hl => ?_)
        refine lv_goto (tgt := 69) hx hb d_15_22_116 (by decide) ?_
        replace hO0 := (hu86 _ n_O0_A6).trans (hO0)
        replace hA2 := (hu86 _ n_A2_A6).trans (hA2)
        replace hA3 := (hu86 _ n_A3_A6).trans (hA3)
        replace hA4 := (hu86 _ n_A4_A6).trans (hA4)
        replace hA5 := (hu86 _ n_A5_A6).trans (hA5)
        exact ih56 ((lx51 + (-1) : Int32), (lx52 / 10 : Int64), (upd lx53 lx51.toNatClampNeg ((-(lx52 - lx52 / 10 * 10)).toInt32) : Nat → Int32)) _ _ _ _ (show ((lx51 + (-1)).toInt - (-1)).toNat < (lx51.toInt - (-1)).toNat from by have t1 : 0 ≤ lx51.toInt := q_nltI c57; have e : (lx51 + (-1)).toInt = (lx51.toInt + (-1)) := (q_addI (x := lx51.toInt) (y := (-1)) rfl (by decide) (by have t1 : 0 ≤ lx51.toInt := q_nltI c57; omega) (by have t1 : 0 ≤ lx51.toInt := q_nltI c57; omega)); omega) ⟨(show (-1) ≤ (lx51 + (-1)).toInt ∧ (lx51 + (-1)).toInt ≤ 18 from by have t1 : 0 ≤ lx51.toInt := q_nltI c57; have e : (lx51 + (-1)).toInt = (lx51.toInt + (-1)) := (q_addI (x := lx51.toInt) (y := (-1)) rfl (by decide) (by have t1 : 0 ≤ lx51.toInt := q_nltI c57; omega) (by have t1 : 0 ≤ lx51.toInt := q_nltI c57; omega)); omega), V, q_lw hl (q_lw1 0 rfl (q_lw1 1 rfl (q_lw1 3 rfl (q_lw1 4 rfl (q_lw1 5 rfl (q_lw1 6 rfl q_lw0)))))), hF, hO0, hA2, hA3, hA4, hA5, hA6⟩
set_option maxRecDepth 100000 in
set_option maxHeartbeats 4000000 in
theorem c_WR_size_3 (l : Launch) (D : va_G) (g : Nat → ClassId) (ws : va_W) (kA0 qA0 : Nat) (v1 : Int32) (v2 : Int32) (v3 : Int32) (v4 : Int32) (hA0 : ws[kA0]? = some (qA0, .inl (g 0, 264, .inl (upd (upd (upd (upd (fun _ => 0) 0 v1) 1 v2) 2 v3) 3 v4)))) : q_mI l y_WR_size prog_19_method_7_code 2 (.int) 1 0 0 D g [.ref qA0] ws (fun r u => (0 = r ∧ ws = u) ∨ (∃ (ex0 : Int32), ¬ ex0 ≤ 0 ∧ ¬ ((upd (upd (upd (upd (fun _ => 0) 0 v1) 1 v2) 2 v3) 3 v4) (ex0 - 1).toNatClampNeg) = 0 ∧ 1 ≤ ex0 ∧ ex0 ≤ 264 ∧ ex0 = r ∧ ws = u)) := by
  intro sz
  refine q_into (by decide) (Nat.le_of_ble_eq_true rfl) ?_
  intro p e s m below meth c ls hsz C0 V hl
  have hx := C0.1
  have hb := C0.2.1
  have hl : lv_has ls 2 [(0, .ref qA0)] := hl
  refine lv_aload_n hx hb d_19_7_0 rfl (lv_at hl 0 rfl) ?_
  refine q_alen (t := 0) (v := 264) C0 V hA0 rfl (by first | rfl | decide) d_19_7_1 ?_
  refine lv_istore_n (lv' := [(1, .int 264), (0, .ref qA0)]) hx hb d_19_7_2 rfl hl (by decide) rfl (fun ls hl => ?_)
  refine q_loop (X := Int32) (fun z H locs ls _ => (0 ≤ z.toInt ∧ z.toInt ≤ 264) ∧ q_Wd D g (va_A ws sz) s ws H locs ∧ lv_has ls 2 [(1, .int z), (0, .ref qA0)]) (fun z => (z.toInt - 0).toNat) ?_ ((264 : Int32)) _ _ _ ws ⟨⟨by decide, by decide⟩, V, hl⟩
  rintro lx1 H locs ls _ ⟨i3, V, hl⟩ ih4
  replace i3 : 0 ≤ lx1.toInt ∧ lx1.toInt ≤ 264 := i3
  replace hl : lv_has ls 2 [(1, .int lx1), (0, .ref qA0)] := hl
  refine lv_iload_n hx hb d_19_7_3 rfl (lv_at hl 0 rfl) ?_
  refine lv_if_le (tgt := 21) hx hb d_19_7_4 (by decide) (fun c5 => ?_) (fun c5 => ?_)
  ·
    refine lv_iload_n hx hb d_19_7_21 rfl (lv_at hl 0 rfl) ?_
    refine q_ti (v := 0) (q_Ieq (x := lx1.toInt) (y := 0) rfl (by decide) (by have t1 : lx1.toInt ≤ 0 := q_leI c5; omega)) ?_
    exact q_reti C0 V (Or.inl ⟨rfl, rfl⟩) d_19_7_22
  ·
    refine lv_aload_n hx hb d_19_7_7 rfl (lv_at hl 1 rfl) ?_
    refine lv_iload_n hx hb d_19_7_8 rfl (lv_at hl 0 rfl) ?_
    refine lv_iconst (v := 1) hx hb d_19_7_9 (by decide) ?_
    refine lv_isub hx hb d_19_7_10 ?_
    refine q_iald C0 V hA0 (q_ix (x := (lx1.toInt - 1)) (q_subI (x := lx1.toInt) (y := 1) rfl (by decide) (by have t1 : 0 < lx1.toInt := q_nleI c5; omega) (by have t1 : 0 < lx1.toInt := q_nleI c5; omega)) (by have t1 : 0 < lx1.toInt := q_nleI c5; omega) (by have t1 : 0 < lx1.toInt := q_nleI c5; omega)) d_19_7_11 ?_
    refine lv_if_ne (tgt := 21) hx hb d_19_7_12 (by decide) (fun c6 => ?_) (fun c6 => ?_)
    ·
      refine lv_iload_n hx hb d_19_7_21 rfl (lv_at hl 0 rfl) ?_
      exact q_reti C0 V (Or.inr (⟨lx1, c5, c6, (q_Ile (x := 1) (y := lx1.toInt) (by decide) rfl (by have t1 : 0 < lx1.toInt := q_nleI c5; omega)), (q_Ile (x := lx1.toInt) (y := 264) rfl (by decide) (by have t1 : 0 < lx1.toInt := q_nleI c5; omega)), rfl, rfl⟩)) d_19_7_22
    ·
      refine lv_iinc (v := lx1 + (-1)) (lv' := [(1, .int (lx1 + (-1))), (0, .ref qA0)]) hx hb d_19_7_15 hl (k := 0) rfl (rfl) (by decide) rfl (fun ls hl => ?_)
      refine lv_goto (tgt := 3) hx hb d_19_7_18 (by decide) ?_
      exact ih4 ((lx1 + (-1) : Int32)) _ _ _ ws (show ((lx1 + (-1)).toInt - 0).toNat < (lx1.toInt - 0).toNat from by have t1 : 0 < lx1.toInt := q_nleI c5; have e : (lx1 + (-1)).toInt = (lx1.toInt + (-1)) := (q_addI (x := lx1.toInt) (y := (-1)) rfl (by decide) (by have t1 : 0 < lx1.toInt := q_nleI c5; omega) (by have t1 : 0 < lx1.toInt := q_nleI c5; omega)); omega) ⟨(show 0 ≤ (lx1 + (-1)).toInt ∧ (lx1 + (-1)).toInt ≤ 264 from by have t1 : 0 < lx1.toInt := q_nleI c5; have e : (lx1 + (-1)).toInt = (lx1.toInt + (-1)) := (q_addI (x := lx1.toInt) (y := (-1)) rfl (by decide) (by have t1 : 0 < lx1.toInt := q_nleI c5; omega) (by have t1 : 0 < lx1.toInt := q_nleI c5; omega)); omega), V, q_lw hl (q_lw1 0 rfl (q_lw1 1 rfl q_lw0))⟩
theorem d_19_15_13 : decode prog_19_method_15_code 13 = .ok (.aload_n 0, 1) := by decide +kernel
theorem d_19_15_14 : decode prog_19_method_15_code 14 = .ok (.aload_n 0, 1) := by decide +kernel
theorem d_19_15_15 : decode prog_19_method_15_code 15 = .ok (.getfield 79, 3) := by decide +kernel
theorem d_19_15_18 : decode prog_19_method_15_code 18 = .ok (.putfield 53, 3) := by decide +kernel
theorem d_19_15_21 : decode prog_19_method_15_code 21 = .ok (.return_, 1) := by decide +kernel
set_option maxRecDepth 100000 in
set_option maxHeartbeats 4000000 in
theorem c_WR_store_5 (l : Launch) (D : va_G) (g : Nat → ClassId) (ws : va_W) (kO0 kA2 kA3 kA4 qO0 qA1 qA2 qA3 qA4 qA5 qA6 qA7 qA8 qA9 qA10 qA11 qA12 qA13 qA14 : Nat) (x1 : Int32) (v2 : Int32) (v3 : Int32) (v4 : Int32) (v5 : Int32) (hO0 : ws[kO0]? = some (qO0, .inr (13, [.int 0, .int 0, .ref qA1, .int 0, .ref qA2, .ref qA3, .ref qA4, .int 0, .ref qA5, .ref qA6, .ref qA7, .ref qA8, .ref qA9, .ref qA10, .ref qA11, .ref qA12, .int 0, .int 0, .ref qA13, .ref qA14, .int 0]))) (hA2 : ws[kA2]? = some (qA2, .inl (g 0, 1408, .inl (fun _ => 0)))) (hA3 : ws[kA3]? = some (qA3, .inl (g 3, 11, .inl (fun _ => 0)))) (hA4 : ws[kA4]? = some (qA4, .inl (g 0, 264, .inl (upd (upd (upd (upd (fun _ => 0) 0 v2) 1 v3) 2 v4) 3 v5)))) (n_A2_A3 : kA2 ≠ kA3) (n_A4_A2 : kA4 ≠ kA2) (n_A4_A3 : kA4 ≠ kA3) (x1lo : 0 ≤ x1) (x1hi : x1 ≤ 9) : q_mV l y_WR_store prog_19_method_15_code 4 2 0 0 D g [.ref qO0, .int x1] ws (fun u => (∃ (ex0 : Nat → Int32), q_un ws u [kO0, kA2, kA3] ∧ u[kO0]? = some (qO0, .inr (13, [.int 0, .int 0, .ref qA1, .int 0, .ref qA2, .ref qA3, .ref qA4, .int 0, .ref qA5, .ref qA6, .ref qA7, .ref qA8, .ref qA9, .ref qA10, .ref qA11, .ref qA12, .int 0, .int 0, .ref qA13, .ref qA14, .int 0])) ∧ u[kA2]? = some (qA2, .inl (g 0, 1408, .inl ex0)) ∧ u[kA3]? = some (qA3, .inl (g 3, 11, .inl (fun _ => 0)))) ∨ (q_un ws u [kO0, kA2, kA3] ∧ u[kO0]? = some (qO0, .inr (13, [.int 0, .int 0, .ref qA1, .int 0, .ref qA2, .ref qA3, .ref qA4, .int 0, .ref qA5, .ref qA6, .ref qA7, .ref qA8, .ref qA9, .ref qA10, .ref qA11, .ref qA12, .int 0, .int 0, .ref qA13, .ref qA14, .int 0])) ∧ u[kA2]? = some (qA2, .inl (g 0, 1408, .inl (fun _ => 0))) ∧ u[kA3]? = some (qA3, .inl (g 3, 11, .inl (fun _ => 0))))) := by
  intro sz
  refine q_into (by decide) (Nat.le_of_ble_eq_true rfl) ?_
  intro p e s m below meth c ls hsz C0 V hl
  have hx := C0.1
  have hb := C0.2.1
  have hl : lv_has ls 4 [(0, .ref qO0), (1, .int x1)] := hl
  have n_A2_O0 := q_df hA2 hO0
  have n_A3_A2 := Ne.symm n_A2_A3
  have n_A3_O0 := q_df hA3 hO0
  have n_A4_O0 := q_df hA4 hO0
  have n_O0_A2 := Ne.symm (q_df hA2 hO0)
  have n_O0_A3 := Ne.symm (q_df hA3 hO0)
  have hF : q_un ws ws [kO0, kA2, kA3] := q_u0
  refine lv_aload_n hx hb d_19_15_0 rfl (lv_at hl 0 rfl) ?_
  refine q_get (ci := 13) (j := 6) (v := .ref qA4) C0 V i_WR rfl rfl hO0 (by decide) w_1930 rfl d_19_15_1 ?_
  refine q_goi V (q_runS (As := [.ref qA4]) (rest := []) (d := 1) (mc := 0) (ms := 0) C0 V rfl LS_WR_59 (c_WR_size_3 l D g ws kA4 qA4 v2 v3 v4 v5 hA4 _) rfl hl.1 rfl (Nat.le_of_ble_eq_true rfl) ⟨by decide, by decide⟩ ⟨Nat.le_of_ble_eq_true rfl, Nat.le_of_ble_eq_true rfl⟩ d_19_15_4) (fun v3 u2 H locs hp1 V => ?_)
  rcases hp1 with ⟨rfl, rfl⟩ | ⟨y9, c5, c6, f7, f8, rfl, rfl⟩
  ·
    refine lv_sipush (v := 128) hx hb d_19_15_7 (by decide) ?_
    refine lv_icmp_le (tgt := 22) hx hb d_19_15_10 (by decide) (fun c11 => ?_) (fun c11 => absurd (by decide) c11)
    refine lv_iconst (v := 0) hx hb d_19_15_22 (by decide) ?_
    refine lv_istore_n (lv' := [(2, .int 0), (0, .ref qO0), (1, .int x1)]) hx hb d_19_15_23 rfl hl (by decide) rfl (fun ls hl => ?_)
    refine lv_iconst (v := 0) hx hb d_19_15_24 (by decide) ?_
    refine lv_istore_n (lv' := [(3, .int 0), (2, .int 0), (0, .ref qO0), (1, .int x1)]) hx hb d_19_15_25 rfl hl (by decide) rfl (fun ls hl => ?_)
    refine q_loop (X := Int32 × Int32 × (Nat → Int32)) (fun z H locs ls w15 => (0 ≤ z.1.toInt ∧ (z.1.toInt ≤ 128 ∨ z.1.toInt = 0)) ∧ q_Wd D g (va_A ws sz) s w15 H locs ∧ lv_has ls 4 [(3, .int z.1), (2, .int z.2.1), (0, .ref qO0), (1, .int x1)] ∧ q_un ws w15 [kO0, kA2, kA3] ∧ w15[kO0]? = some (qO0, .inr (13, [.int 0, .int 0, .ref qA1, .int 0, .ref qA2, .ref qA3, .ref qA4, .int 0, .ref qA5, .ref qA6, .ref qA7, .ref qA8, .ref qA9, .ref qA10, .ref qA11, .ref qA12, .int 0, .int 0, .ref qA13, .ref qA14, .int 0])) ∧ w15[kA2]? = some (qA2, .inl (g 0, 1408, .inl z.2.2)) ∧ w15[kA3]? = some (qA3, .inl (g 3, 11, .inl (fun _ => 0))) ∧ w15[kA4]? = some (qA4, .inl (g 0, 264, .inl (upd (upd (upd (upd (fun _ => 0) 0 v2) 1 v3) 2 v4) 3 v5)))) (fun z => (128 - z.1.toInt).toNat) ?_ ((0 : Int32), (0 : Int32), (fun _ => 0 : (Nat → Int32))) _ _ _ ws ⟨⟨(by dsimp only; decide), Or.inr (by dsimp only; decide)⟩, V, hl, hF, hO0, hA2, hA3, hA4⟩
    rintro ⟨lx12, lx13, lx14⟩ H locs ls w15 ⟨i16, V, hl, hF, hO0, hA2, hA3, hA4⟩ ih17
    replace i16 : 0 ≤ lx12.toInt ∧ (lx12.toInt ≤ 128 ∨ lx12.toInt = 0) := i16
    replace hl : lv_has ls 4 [(3, .int lx12), (2, .int lx13), (0, .ref qO0), (1, .int x1)] := hl
    replace hO0 : w15[kO0]? = some (qO0, .inr (13, [.int 0, .int 0, .ref qA1, .int 0, .ref qA2, .ref qA3, .ref qA4, .int 0, .ref qA5, .ref qA6, .ref qA7, .ref qA8, .ref qA9, .ref qA10, .ref qA11, .ref qA12, .int 0, .int 0, .ref qA13, .ref qA14, .int 0])) := hO0
    replace hA2 : w15[kA2]? = some (qA2, .inl (g 0, 1408, .inl lx14)) := hA2
    replace hA3 : w15[kA3]? = some (qA3, .inl (g 3, 11, .inl (fun _ => 0))) := hA3
    replace hA4 : w15[kA4]? = some (qA4, .inl (g 0, 264, .inl (upd (upd (upd (upd (fun _ => 0) 0 v2) 1 v3) 2 v4) 3 v5))) := hA4
    refine lv_iload_n hx hb d_19_15_26 rfl (lv_at hl 0 rfl) ?_
    refine lv_sipush (v := 128) hx hb d_19_15_27 (by decide) ?_
    refine lv_icmp_ge (tgt := 76) hx hb d_19_15_30 (by decide) (fun c18 => ?_) (fun c18 => ?_)
    ·
      refine lv_aload_n hx hb d_19_15_76 rfl (lv_at hl 2 rfl) ?_
      refine q_get (ci := 13) (j := 5) (v := .ref qA3) C0 V i_WR rfl rfl hO0 (by decide) w_1929 rfl d_19_15_77 ?_
      refine lv_iload_n hx hb d_19_15_80 rfl (lv_at hl 3 rfl) ?_
      refine lv_aload_n hx hb d_19_15_81 rfl (lv_at hl 2 rfl) ?_
      refine q_get (ci := 13) (j := 7) (v := .int 0) C0 V i_WR rfl rfl hO0 (by decide) w_1931 rfl d_19_15_82 ?_
      refine lv_if_eq (tgt := 96) hx hb d_19_15_85 (by decide) (fun c19 => ?_) (fun c19 => absurd (by decide) c19)
      refine lv_iconst (v := 0) hx hb d_19_15_96 (by decide) ?_
      refine q_zast C0 V hA3 (q_ix (x := x1.toInt) rfl (by have t1 : 0 ≤ x1.toInt := q_leI x1lo; have t2 : x1.toInt ≤ 9 := q_leI x1hi; omega) (by have t1 : 0 ≤ x1.toInt := q_leI x1lo; have t2 : x1.toInt ≤ 9 := q_leI x1hi; omega)) d_19_15_97 (fun H locs w20 hu21 hA3 V => ?_)
      replace hA3 := q_re (y := (qA3, .inl (g 3, 11, .inl (fun _ => 0)))) hA3 (q_eI q_upd0)
      replace hA3 : w20[kA3]? = some (qA3, .inl (g 3, 11, .inl (fun _ => 0))) := hA3
      replace hF := q_us hF hu21 (.tail _ (.tail _ (.head _)))
      replace hO0 := (hu21 _ n_O0_A3).trans (hO0)
      replace hA2 := (hu21 _ n_A2_A3).trans (hA2)
      exact q_retv C0 V (Or.inl ⟨lx14, hF, hO0, hA2, hA3⟩) d_19_15_98
    ·
      refine lv_aload_n hx hb d_19_15_33 rfl (lv_at hl 2 rfl) ?_
      refine q_get (ci := 13) (j := 4) (v := .ref qA2) C0 V i_WR rfl rfl hO0 (by decide) w_1928 rfl d_19_15_34 ?_
      refine lv_sipush (v := 128) hx hb d_19_15_37 (by decide) ?_
      refine lv_iload_n hx hb d_19_15_40 rfl (lv_at hl 3 rfl) ?_
      refine lv_imul hx hb d_19_15_41 ?_
      refine lv_iload_n hx hb d_19_15_42 rfl (lv_at hl 0 rfl) ?_
      refine lv_iadd hx hb d_19_15_43 ?_
      refine lv_aload_n hx hb d_19_15_44 rfl (lv_at hl 2 rfl) ?_
      refine q_get (ci := 13) (j := 6) (v := .ref qA4) C0 V i_WR rfl rfl hO0 (by decide) w_1930 rfl d_19_15_45 ?_
      refine lv_iload_n hx hb d_19_15_48 rfl (lv_at hl 0 rfl) ?_
      refine q_iald C0 V hA4 (q_ix (x := lx12.toInt) rfl (by have t1 : lx12.toInt < 128 := q_nleI c18; omega) (by have t1 : lx12.toInt < 128 := q_nleI c18; omega)) d_19_15_49 ?_
      refine q_iast C0 V hA2 (q_ix (x := ((128 * x1.toInt) + lx12.toInt)) (q_addI (x := (128 * x1.toInt)) (y := lx12.toInt) (q_mulI (x := 128) (y := x1.toInt) (by decide) rfl (by have t1 : 0 ≤ x1.toInt := q_leI x1lo; have t2 : x1.toInt ≤ 9 := q_leI x1hi; omega) (by have t1 : 0 ≤ x1.toInt := q_leI x1lo; have t2 : x1.toInt ≤ 9 := q_leI x1hi; omega)) rfl (by have t1 : 0 ≤ x1.toInt := q_leI x1lo; have t2 : x1.toInt ≤ 9 := q_leI x1hi; have t3 : lx12.toInt < 128 := q_nleI c18; omega) (by have t1 : 0 ≤ x1.toInt := q_leI x1lo; have t2 : x1.toInt ≤ 9 := q_leI x1hi; have t3 : lx12.toInt < 128 := q_nleI c18; omega)) (by have t1 : 0 ≤ x1.toInt := q_leI x1lo; have t2 : x1.toInt ≤ 9 := q_leI x1hi; have t3 : lx12.toInt < 128 := q_nleI c18; omega) (by have t1 : 0 ≤ x1.toInt := q_leI x1lo; have t2 : x1.toInt ≤ 9 := q_leI x1hi; have t3 : lx12.toInt < 128 := q_nleI c18; omega)) d_19_15_50 (fun H locs w22 hu23 hA2 V => ?_)
      replace hA2 : w22[kA2]? = some (qA2, .inl (g 0, 1408, .inl (upd lx14 (((128 * x1) + lx12).toNatClampNeg) ((upd (upd (upd (upd (fun _ => 0) 0 v2) 1 v3) 2 v4) 3 v5) lx12.toNatClampNeg)))) := hA2
      replace hF := q_us hF hu23 (.tail _ (.head _))
      refine lv_iload_n hx hb d_19_15_51 rfl (lv_at hl 1 rfl) ?_
      refine lv_if_ne (tgt := 64) hx hb d_19_15_52 (by decide) (fun c24 => ?_) (fun c24 => ?_)
      ·
        refine lv_iconst (v := 1) hx hb d_19_15_64 (by decide) ?_
        refine lv_goto (tgt := 69) hx hb d_19_15_65 (by decide) ?_
        refine lv_istore_n (lv' := [(2, .int 1), (3, .int lx12), (0, .ref qO0), (1, .int x1)]) hx hb d_19_15_69 rfl hl (by decide) rfl (fun ls hl => ?_)
        refine lv_iinc (v := lx12 + 1) (lv' := [(3, .int (lx12 + 1)), (2, .int 1), (0, .ref qO0), (1, .int x1)]) hx hb d_19_15_70 hl (k := 1) rfl (rfl) (by decide) rfl (fun ls hl => ?_)
        refine lv_goto (tgt := 26) hx hb d_19_15_73 (by decide) ?_
        replace hO0 := (hu23 _ n_O0_A2).trans (hO0)
        replace hA3 := (hu23 _ n_A3_A2).trans (hA3)
        replace hA4 := (hu23 _ n_A4_A2).trans (hA4)
        exact ih17 ((lx12 + 1 : Int32), (1 : Int32), (upd lx14 (((128 * x1) + lx12).toNatClampNeg) ((upd (upd (upd (upd (fun _ => 0) 0 v2) 1 v3) 2 v4) 3 v5) lx12.toNatClampNeg) : Nat → Int32)) _ _ _ _ (show (128 - (lx12 + 1).toInt).toNat < (128 - lx12.toInt).toNat from by have t1 : lx12.toInt < 128 := q_nleI c18; have e : (lx12 + 1).toInt = (lx12.toInt + 1) := (q_addI (x := lx12.toInt) (y := 1) rfl (by decide) (by have t1 : lx12.toInt < 128 := q_nleI c18; omega) (by have t1 : lx12.toInt < 128 := q_nleI c18; omega)); omega) ⟨(show 0 ≤ (lx12 + 1).toInt ∧ ((lx12 + 1).toInt ≤ 128 ∨ (lx12 + 1).toInt = 0) from by have t1 : lx12.toInt < 128 := q_nleI c18; have e : (lx12 + 1).toInt = (lx12.toInt + 1) := (q_addI (x := lx12.toInt) (y := 1) rfl (by decide) (by have t1 : lx12.toInt < 128 := q_nleI c18; omega) (by have t1 : lx12.toInt < 128 := q_nleI c18; omega)); omega), V, q_lw hl (q_lw1 0 rfl (q_lw1 1 rfl (q_lw1 2 rfl (q_lw1 3 rfl q_lw0)))), hF, hO0, hA2, hA3, hA4⟩
      ·
        refine lv_aload_n hx hb d_19_15_55 rfl (lv_at hl 2 rfl) ?_
        replace hO0 := (hu23 _ n_O0_A2).trans (hO0)
        refine q_get (ci := 13) (j := 6) (v := .ref qA4) C0 V i_WR rfl rfl hO0 (by decide) w_1930 rfl d_19_15_56 ?_
        refine lv_iload_n hx hb d_19_15_59 rfl (lv_at hl 0 rfl) ?_
        replace hA4 := (hu23 _ n_A4_A2).trans (hA4)
        refine q_iald C0 V hA4 (q_ix (x := lx12.toInt) rfl (by have t1 : lx12.toInt < 128 := q_nleI c18; omega) (by have t1 : lx12.toInt < 128 := q_nleI c18; omega)) d_19_15_60 ?_
        refine lv_if_eq (tgt := 68) hx hb d_19_15_61 (by decide) (fun c25 => ?_) (fun c25 => ?_)
        ·
          refine lv_iconst (v := 0) hx hb d_19_15_68 (by decide) ?_
          refine lv_istore_n (lv' := [(2, .int 0), (3, .int lx12), (0, .ref qO0), (1, .int x1)]) hx hb d_19_15_69 rfl hl (by decide) rfl (fun ls hl => ?_)
          refine lv_iinc (v := lx12 + 1) (lv' := [(3, .int (lx12 + 1)), (2, .int 0), (0, .ref qO0), (1, .int x1)]) hx hb d_19_15_70 hl (k := 1) rfl (rfl) (by decide) rfl (fun ls hl => ?_)
          refine lv_goto (tgt := 26) hx hb d_19_15_73 (by decide) ?_
          replace hA3 := (hu23 _ n_A3_A2).trans (hA3)
          exact ih17 ((lx12 + 1 : Int32), (0 : Int32), (upd lx14 (((128 * x1) + lx12).toNatClampNeg) ((upd (upd (upd (upd (fun _ => 0) 0 v2) 1 v3) 2 v4) 3 v5) lx12.toNatClampNeg) : Nat → Int32)) _ _ _ _ (show (128 - (lx12 + 1).toInt).toNat < (128 - lx12.toInt).toNat from by have t1 : lx12.toInt < 128 := q_nleI c18; have e : (lx12 + 1).toInt = (lx12.toInt + 1) := (q_addI (x := lx12.toInt) (y := 1) rfl (by decide) (by have t1 : lx12.toInt < 128 := q_nleI c18; omega) (by have t1 : lx12.toInt < 128 := q_nleI c18; omega)); omega) ⟨(show 0 ≤ (lx12 + 1).toInt ∧ ((lx12 + 1).toInt ≤ 128 ∨ (lx12 + 1).toInt = 0) from by have t1 : lx12.toInt < 128 := q_nleI c18; have e : (lx12 + 1).toInt = (lx12.toInt + 1) := (q_addI (x := lx12.toInt) (y := 1) rfl (by decide) (by have t1 : lx12.toInt < 128 := q_nleI c18; omega) (by have t1 : lx12.toInt < 128 := q_nleI c18; omega)); omega), V, q_lw hl (q_lw1 0 rfl (q_lw1 1 rfl (q_lw1 2 rfl (q_lw1 3 rfl q_lw0)))), hF, hO0, hA2, hA3, hA4⟩
        ·
          refine lv_iconst (v := 1) hx hb d_19_15_64 (by decide) ?_
          refine lv_goto (tgt := 69) hx hb d_19_15_65 (by decide) ?_
          refine lv_istore_n (lv' := [(2, .int 1), (3, .int lx12), (0, .ref qO0), (1, .int x1)]) hx hb d_19_15_69 rfl hl (by decide) rfl (fun ls hl => ?_)
          refine lv_iinc (v := lx12 + 1) (lv' := [(3, .int (lx12 + 1)), (2, .int 1), (0, .ref qO0), (1, .int x1)]) hx hb d_19_15_70 hl (k := 1) rfl (rfl) (by decide) rfl (fun ls hl => ?_)
          refine lv_goto (tgt := 26) hx hb d_19_15_73 (by decide) ?_
          replace hA3 := (hu23 _ n_A3_A2).trans (hA3)
          exact ih17 ((lx12 + 1 : Int32), (1 : Int32), (upd lx14 (((128 * x1) + lx12).toNatClampNeg) ((upd (upd (upd (upd (fun _ => 0) 0 v2) 1 v3) 2 v4) 3 v5) lx12.toNatClampNeg) : Nat → Int32)) _ _ _ _ (show (128 - (lx12 + 1).toInt).toNat < (128 - lx12.toInt).toNat from by have t1 : lx12.toInt < 128 := q_nleI c18; have e : (lx12 + 1).toInt = (lx12.toInt + 1) := (q_addI (x := lx12.toInt) (y := 1) rfl (by decide) (by have t1 : lx12.toInt < 128 := q_nleI c18; omega) (by have t1 : lx12.toInt < 128 := q_nleI c18; omega)); omega) ⟨(show 0 ≤ (lx12 + 1).toInt ∧ ((lx12 + 1).toInt ≤ 128 ∨ (lx12 + 1).toInt = 0) from by have t1 : lx12.toInt < 128 := q_nleI c18; have e : (lx12 + 1).toInt = (lx12.toInt + 1) := (q_addI (x := lx12.toInt) (y := 1) rfl (by decide) (by have t1 : lx12.toInt < 128 := q_nleI c18; omega) (by have t1 : lx12.toInt < 128 := q_nleI c18; omega)); omega), V, q_lw hl (q_lw1 0 rfl (q_lw1 1 rfl (q_lw1 2 rfl (q_lw1 3 rfl q_lw0)))), hF, hO0, hA2, hA3, hA4⟩
  ·
    refine lv_sipush (v := 128) hx hb d_19_15_7 (by decide) ?_
    refine lv_icmp_le (tgt := 22) hx hb d_19_15_10 (by decide) (fun c26 => ?_) (fun c26 => ?_)
    ·
      refine lv_iconst (v := 0) hx hb d_19_15_22 (by decide) ?_
      refine lv_istore_n (lv' := [(2, .int 0), (0, .ref qO0), (1, .int x1)]) hx hb d_19_15_23 rfl hl (by decide) rfl (fun ls hl => ?_)
      refine lv_iconst (v := 0) hx hb d_19_15_24 (by decide) ?_
      refine lv_istore_n (lv' := [(3, .int 0), (2, .int 0), (0, .ref qO0), (1, .int x1)]) hx hb d_19_15_25 rfl hl (by decide) rfl (fun ls hl => ?_)
      refine q_loop (X := Int32 × Int32 × (Nat → Int32)) (fun z H locs ls w30 => (0 ≤ z.1.toInt ∧ (z.1.toInt ≤ 128 ∨ z.1.toInt = 0)) ∧ q_Wd D g (va_A ws sz) s w30 H locs ∧ lv_has ls 4 [(3, .int z.1), (2, .int z.2.1), (0, .ref qO0), (1, .int x1)] ∧ q_un ws w30 [kO0, kA2, kA3] ∧ w30[kO0]? = some (qO0, .inr (13, [.int 0, .int 0, .ref qA1, .int 0, .ref qA2, .ref qA3, .ref qA4, .int 0, .ref qA5, .ref qA6, .ref qA7, .ref qA8, .ref qA9, .ref qA10, .ref qA11, .ref qA12, .int 0, .int 0, .ref qA13, .ref qA14, .int 0])) ∧ w30[kA2]? = some (qA2, .inl (g 0, 1408, .inl z.2.2)) ∧ w30[kA3]? = some (qA3, .inl (g 3, 11, .inl (fun _ => 0))) ∧ w30[kA4]? = some (qA4, .inl (g 0, 264, .inl (upd (upd (upd (upd (fun _ => 0) 0 v2) 1 v3) 2 v4) 3 v5)))) (fun z => (128 - z.1.toInt).toNat) ?_ ((0 : Int32), (0 : Int32), (fun _ => 0 : (Nat → Int32))) _ _ _ ws ⟨⟨(by dsimp only; decide), Or.inr (by dsimp only; decide)⟩, V, hl, hF, hO0, hA2, hA3, hA4⟩
      rintro ⟨lx27, lx28, lx29⟩ H locs ls w30 ⟨i31, V, hl, hF, hO0, hA2, hA3, hA4⟩ ih32
      replace i31 : 0 ≤ lx27.toInt ∧ (lx27.toInt ≤ 128 ∨ lx27.toInt = 0) := i31
      replace hl : lv_has ls 4 [(3, .int lx27), (2, .int lx28), (0, .ref qO0), (1, .int x1)] := hl
      replace hO0 : w30[kO0]? = some (qO0, .inr (13, [.int 0, .int 0, .ref qA1, .int 0, .ref qA2, .ref qA3, .ref qA4, .int 0, .ref qA5, .ref qA6, .ref qA7, .ref qA8, .ref qA9, .ref qA10, .ref qA11, .ref qA12, .int 0, .int 0, .ref qA13, .ref qA14, .int 0])) := hO0
      replace hA2 : w30[kA2]? = some (qA2, .inl (g 0, 1408, .inl lx29)) := hA2
      replace hA3 : w30[kA3]? = some (qA3, .inl (g 3, 11, .inl (fun _ => 0))) := hA3
      replace hA4 : w30[kA4]? = some (qA4, .inl (g 0, 264, .inl (upd (upd (upd (upd (fun _ => 0) 0 v2) 1 v3) 2 v4) 3 v5))) := hA4
      refine lv_iload_n hx hb d_19_15_26 rfl (lv_at hl 0 rfl) ?_
      refine lv_sipush (v := 128) hx hb d_19_15_27 (by decide) ?_
      refine lv_icmp_ge (tgt := 76) hx hb d_19_15_30 (by decide) (fun c33 => ?_) (fun c33 => ?_)
      ·
        refine lv_aload_n hx hb d_19_15_76 rfl (lv_at hl 2 rfl) ?_
        refine q_get (ci := 13) (j := 5) (v := .ref qA3) C0 V i_WR rfl rfl hO0 (by decide) w_1929 rfl d_19_15_77 ?_
        refine lv_iload_n hx hb d_19_15_80 rfl (lv_at hl 3 rfl) ?_
        refine lv_aload_n hx hb d_19_15_81 rfl (lv_at hl 2 rfl) ?_
        refine q_get (ci := 13) (j := 7) (v := .int 0) C0 V i_WR rfl rfl hO0 (by decide) w_1931 rfl d_19_15_82 ?_
        refine lv_if_eq (tgt := 96) hx hb d_19_15_85 (by decide) (fun c34 => ?_) (fun c34 => absurd (by decide) c34)
        refine lv_iconst (v := 0) hx hb d_19_15_96 (by decide) ?_
        refine q_zast C0 V hA3 (q_ix (x := x1.toInt) rfl (by have t1 : 0 ≤ x1.toInt := q_leI x1lo; have t2 : x1.toInt ≤ 9 := q_leI x1hi; omega) (by have t1 : 0 ≤ x1.toInt := q_leI x1lo; have t2 : x1.toInt ≤ 9 := q_leI x1hi; omega)) d_19_15_97 (fun H locs w35 hu36 hA3 V => ?_)
        replace hA3 := q_re (y := (qA3, .inl (g 3, 11, .inl (fun _ => 0)))) hA3 (q_eI q_upd0)
        replace hA3 : w35[kA3]? = some (qA3, .inl (g 3, 11, .inl (fun _ => 0))) := hA3
        replace hF := q_us hF hu36 (.tail _ (.tail _ (.head _)))
        replace hO0 := (hu36 _ n_O0_A3).trans (hO0)
        replace hA2 := (hu36 _ n_A2_A3).trans (hA2)
        exact q_retv C0 V (Or.inl ⟨lx29, hF, hO0, hA2, hA3⟩) d_19_15_98
      ·
        refine lv_aload_n hx hb d_19_15_33 rfl (lv_at hl 2 rfl) ?_
        refine q_get (ci := 13) (j := 4) (v := .ref qA2) C0 V i_WR rfl rfl hO0 (by decide) w_1928 rfl d_19_15_34 ?_
        refine lv_sipush (v := 128) hx hb d_19_15_37 (by decide) ?_
        refine lv_iload_n hx hb d_19_15_40 rfl (lv_at hl 3 rfl) ?_
        refine lv_imul hx hb d_19_15_41 ?_
        refine lv_iload_n hx hb d_19_15_42 rfl (lv_at hl 0 rfl) ?_
        refine lv_iadd hx hb d_19_15_43 ?_
        refine lv_aload_n hx hb d_19_15_44 rfl (lv_at hl 2 rfl) ?_
        refine q_get (ci := 13) (j := 6) (v := .ref qA4) C0 V i_WR rfl rfl hO0 (by decide) w_1930 rfl d_19_15_45 ?_
        refine lv_iload_n hx hb d_19_15_48 rfl (lv_at hl 0 rfl) ?_
        refine q_iald C0 V hA4 (q_ix (x := lx27.toInt) rfl (by have t1 : lx27.toInt < 128 := q_nleI c33; omega) (by have t1 : lx27.toInt < 128 := q_nleI c33; omega)) d_19_15_49 ?_
        refine q_iast C0 V hA2 (q_ix (x := ((128 * x1.toInt) + lx27.toInt)) (q_addI (x := (128 * x1.toInt)) (y := lx27.toInt) (q_mulI (x := 128) (y := x1.toInt) (by decide) rfl (by have t1 : 0 ≤ x1.toInt := q_leI x1lo; have t2 : x1.toInt ≤ 9 := q_leI x1hi; omega) (by have t1 : 0 ≤ x1.toInt := q_leI x1lo; have t2 : x1.toInt ≤ 9 := q_leI x1hi; omega)) rfl (by have t1 : 0 ≤ x1.toInt := q_leI x1lo; have t2 : x1.toInt ≤ 9 := q_leI x1hi; have t3 : lx27.toInt < 128 := q_nleI c33; omega) (by have t1 : 0 ≤ x1.toInt := q_leI x1lo; have t2 : x1.toInt ≤ 9 := q_leI x1hi; have t3 : lx27.toInt < 128 := q_nleI c33; omega)) (by have t1 : 0 ≤ x1.toInt := q_leI x1lo; have t2 : x1.toInt ≤ 9 := q_leI x1hi; have t3 : lx27.toInt < 128 := q_nleI c33; omega) (by have t1 : 0 ≤ x1.toInt := q_leI x1lo; have t2 : x1.toInt ≤ 9 := q_leI x1hi; have t3 : lx27.toInt < 128 := q_nleI c33; omega)) d_19_15_50 (fun H locs w37 hu38 hA2 V => ?_)
        replace hA2 : w37[kA2]? = some (qA2, .inl (g 0, 1408, .inl (upd lx29 (((128 * x1) + lx27).toNatClampNeg) ((upd (upd (upd (upd (fun _ => 0) 0 v2) 1 v3) 2 v4) 3 v5) lx27.toNatClampNeg)))) := hA2
        replace hF := q_us hF hu38 (.tail _ (.head _))
        refine lv_iload_n hx hb d_19_15_51 rfl (lv_at hl 1 rfl) ?_
        refine lv_if_ne (tgt := 64) hx hb d_19_15_52 (by decide) (fun c39 => ?_) (fun c39 => ?_)
        ·
          refine lv_iconst (v := 1) hx hb d_19_15_64 (by decide) ?_
          refine lv_goto (tgt := 69) hx hb d_19_15_65 (by decide) ?_
          refine lv_istore_n (lv' := [(2, .int 1), (3, .int lx27), (0, .ref qO0), (1, .int x1)]) hx hb d_19_15_69 rfl hl (by decide) rfl (fun ls hl => ?_)
          refine lv_iinc (v := lx27 + 1) (lv' := [(3, .int (lx27 + 1)), (2, .int 1), (0, .ref qO0), (1, .int x1)]) hx hb d_19_15_70 hl (k := 1) rfl (rfl) (by decide) rfl (fun ls hl => ?_)
          refine lv_goto (tgt := 26) hx hb d_19_15_73 (by decide) ?_
          replace hO0 := (hu38 _ n_O0_A2).trans (hO0)
          replace hA3 := (hu38 _ n_A3_A2).trans (hA3)
          replace hA4 := (hu38 _ n_A4_A2).trans (hA4)
          exact ih32 ((lx27 + 1 : Int32), (1 : Int32), (upd lx29 (((128 * x1) + lx27).toNatClampNeg) ((upd (upd (upd (upd (fun _ => 0) 0 v2) 1 v3) 2 v4) 3 v5) lx27.toNatClampNeg) : Nat → Int32)) _ _ _ _ (show (128 - (lx27 + 1).toInt).toNat < (128 - lx27.toInt).toNat from by have t1 : lx27.toInt < 128 := q_nleI c33; have e : (lx27 + 1).toInt = (lx27.toInt + 1) := (q_addI (x := lx27.toInt) (y := 1) rfl (by decide) (by have t1 : lx27.toInt < 128 := q_nleI c33; omega) (by have t1 : lx27.toInt < 128 := q_nleI c33; omega)); omega) ⟨(show 0 ≤ (lx27 + 1).toInt ∧ ((lx27 + 1).toInt ≤ 128 ∨ (lx27 + 1).toInt = 0) from by have t1 : lx27.toInt < 128 := q_nleI c33; have e : (lx27 + 1).toInt = (lx27.toInt + 1) := (q_addI (x := lx27.toInt) (y := 1) rfl (by decide) (by have t1 : lx27.toInt < 128 := q_nleI c33; omega) (by have t1 : lx27.toInt < 128 := q_nleI c33; omega)); omega), V, q_lw hl (q_lw1 0 rfl (q_lw1 1 rfl (q_lw1 2 rfl (q_lw1 3 rfl q_lw0)))), hF, hO0, hA2, hA3, hA4⟩
        ·
          refine lv_aload_n hx hb d_19_15_55 rfl (lv_at hl 2 rfl) ?_
          replace hO0 := (hu38 _ n_O0_A2).trans (hO0)
          refine q_get (ci := 13) (j := 6) (v := .ref qA4) C0 V i_WR rfl rfl hO0 (by decide) w_1930 rfl d_19_15_56 ?_
          refine lv_iload_n hx hb d_19_15_59 rfl (lv_at hl 0 rfl) ?_
          replace hA4 := (hu38 _ n_A4_A2).trans (hA4)
          refine q_iald C0 V hA4 (q_ix (x := lx27.toInt) rfl (by have t1 : lx27.toInt < 128 := q_nleI c33; omega) (by have t1 : lx27.toInt < 128 := q_nleI c33; omega)) d_19_15_60 ?_
          refine lv_if_eq (tgt := 68) hx hb d_19_15_61 (by decide) (fun c40 => ?_) (fun c40 => ?_)
          ·
            refine lv_iconst (v := 0) hx hb d_19_15_68 (by decide) ?_
            refine lv_istore_n (lv' := [(2, .int 0), (3, .int lx27), (0, .ref qO0), (1, .int x1)]) hx hb d_19_15_69 rfl hl (by decide) rfl (fun ls hl => ?_)
            refine lv_iinc (v := lx27 + 1) (lv' := [(3, .int (lx27 + 1)), (2, .int 0), (0, .ref qO0), (1, .int x1)]) hx hb d_19_15_70 hl (k := 1) rfl (rfl) (by decide) rfl (fun ls hl => ?_)
            refine lv_goto (tgt := 26) hx hb d_19_15_73 (by decide) ?_
            replace hA3 := (hu38 _ n_A3_A2).trans (hA3)
            exact ih32 ((lx27 + 1 : Int32), (0 : Int32), (upd lx29 (((128 * x1) + lx27).toNatClampNeg) ((upd (upd (upd (upd (fun _ => 0) 0 v2) 1 v3) 2 v4) 3 v5) lx27.toNatClampNeg) : Nat → Int32)) _ _ _ _ (show (128 - (lx27 + 1).toInt).toNat < (128 - lx27.toInt).toNat from by have t1 : lx27.toInt < 128 := q_nleI c33; have e : (lx27 + 1).toInt = (lx27.toInt + 1) := (q_addI (x := lx27.toInt) (y := 1) rfl (by decide) (by have t1 : lx27.toInt < 128 := q_nleI c33; omega) (by have t1 : lx27.toInt < 128 := q_nleI c33; omega)); omega) ⟨(show 0 ≤ (lx27 + 1).toInt ∧ ((lx27 + 1).toInt ≤ 128 ∨ (lx27 + 1).toInt = 0) from by have t1 : lx27.toInt < 128 := q_nleI c33; have e : (lx27 + 1).toInt = (lx27.toInt + 1) := (q_addI (x := lx27.toInt) (y := 1) rfl (by decide) (by have t1 : lx27.toInt < 128 := q_nleI c33; omega) (by have t1 : lx27.toInt < 128 := q_nleI c33; omega)); omega), V, q_lw hl (q_lw1 0 rfl (q_lw1 1 rfl (q_lw1 2 rfl (q_lw1 3 rfl q_lw0)))), hF, hO0, hA2, hA3, hA4⟩
          ·
            refine lv_iconst (v := 1) hx hb d_19_15_64 (by decide) ?_
            refine lv_goto (tgt := 69) hx hb d_19_15_65 (by decide) ?_
            refine lv_istore_n (lv' := [(2, .int 1), (3, .int lx27), (0, .ref qO0), (1, .int x1)]) hx hb d_19_15_69 rfl hl (by decide) rfl (fun ls hl => ?_)
            refine lv_iinc (v := lx27 + 1) (lv' := [(3, .int (lx27 + 1)), (2, .int 1), (0, .ref qO0), (1, .int x1)]) hx hb d_19_15_70 hl (k := 1) rfl (rfl) (by decide) rfl (fun ls hl => ?_)
            refine lv_goto (tgt := 26) hx hb d_19_15_73 (by decide) ?_
            replace hA3 := (hu38 _ n_A3_A2).trans (hA3)
            exact ih32 ((lx27 + 1 : Int32), (1 : Int32), (upd lx29 (((128 * x1) + lx27).toNatClampNeg) ((upd (upd (upd (upd (fun _ => 0) 0 v2) 1 v3) 2 v4) 3 v5) lx27.toNatClampNeg) : Nat → Int32)) _ _ _ _ (show (128 - (lx27 + 1).toInt).toNat < (128 - lx27.toInt).toNat from by have t1 : lx27.toInt < 128 := q_nleI c33; have e : (lx27 + 1).toInt = (lx27.toInt + 1) := (q_addI (x := lx27.toInt) (y := 1) rfl (by decide) (by have t1 : lx27.toInt < 128 := q_nleI c33; omega) (by have t1 : lx27.toInt < 128 := q_nleI c33; omega)); omega) ⟨(show 0 ≤ (lx27 + 1).toInt ∧ ((lx27 + 1).toInt ≤ 128 ∨ (lx27 + 1).toInt = 0) from by have t1 : lx27.toInt < 128 := q_nleI c33; have e : (lx27 + 1).toInt = (lx27.toInt + 1) := (q_addI (x := lx27.toInt) (y := 1) rfl (by decide) (by have t1 : lx27.toInt < 128 := q_nleI c33; omega) (by have t1 : lx27.toInt < 128 := q_nleI c33; omega)); omega), V, q_lw hl (q_lw1 0 rfl (q_lw1 1 rfl (q_lw1 2 rfl (q_lw1 3 rfl q_lw0)))), hF, hO0, hA2, hA3, hA4⟩
    ·
      refine lv_aload_n hx hb d_19_15_13 rfl (lv_at hl 0 rfl) ?_
      refine lv_aload_n hx hb d_19_15_14 rfl (lv_at hl 0 rfl) ?_
      refine q_get (ci := 13) (j := 1) (v := .int 0) C0 V i_WR rfl rfl hO0 (by decide) w_1923 rfl d_19_15_15 ?_
      refine q_put (ci := 13) (j := 0) (v := .int 0) (ty := .int) C0 V i_WR o_WR n_WR rfl rfl hO0 (by decide) w_1921 rfl rfl rfl rfl (Nat.le_of_ble_eq_true rfl) d_19_15_18 (fun H locs w41 hu42 hO0 V => ?_)
      replace hO0 : w41[kO0]? = some (qO0, .inr (13, [.int 0, .int 0, .ref qA1, .int 0, .ref qA2, .ref qA3, .ref qA4, .int 0, .ref qA5, .ref qA6, .ref qA7, .ref qA8, .ref qA9, .ref qA10, .ref qA11, .ref qA12, .int 0, .int 0, .ref qA13, .ref qA14, .int 0])) := hO0
      replace hF := q_us hF hu42 (.head _)
      replace hA2 := (hu42 _ n_A2_O0).trans (hA2)
      replace hA3 := (hu42 _ n_A3_O0).trans (hA3)
      exact q_retv C0 V (Or.inr (⟨hF, hO0, hA2, hA3⟩)) d_19_15_21
theorem d_19_15_88 : decode prog_19_method_15_code 88 = .ok (.iload_n 2, 1) := by decide +kernel
theorem d_19_15_89 : decode prog_19_method_15_code 89 = .ok (.ifCond .eq 7, 3) := by decide +kernel
theorem d_19_15_92 : decode prog_19_method_15_code 92 = .ok (.iconst 1, 1) := by decide +kernel
theorem d_19_15_93 : decode prog_19_method_15_code 93 = .ok (.goto 4, 3) := by decide +kernel
set_option maxRecDepth 100000 in
set_option maxHeartbeats 4000000 in
theorem c_WR_store_6 (l : Launch) (D : va_G) (g : Nat → ClassId) (ws : va_W) (kO0 kA2 kA3 kA4 qO0 qA1 qA2 qA3 qA4 qA5 qA6 qA7 qA8 qA9 qA10 qA11 qA12 qA13 qA14 : Nat) (x1 : Int32) (v2 : Int32) (v3 : Int32) (v4 : Int32) (v5 : Int32) (hO0 : ws[kO0]? = some (qO0, .inr (13, [.int 0, .int 0, .ref qA1, .int 0, .ref qA2, .ref qA3, .ref qA4, .int 1, .ref qA5, .ref qA6, .ref qA7, .ref qA8, .ref qA9, .ref qA10, .ref qA11, .ref qA12, .int 0, .int 0, .ref qA13, .ref qA14, .int 0]))) (hA2 : ws[kA2]? = some (qA2, .inl (g 0, 1408, .inl (fun _ => 0)))) (hA3 : ws[kA3]? = some (qA3, .inl (g 3, 11, .inl (fun _ => 0)))) (hA4 : ws[kA4]? = some (qA4, .inl (g 0, 264, .inl (upd (upd (upd (upd (fun _ => 0) 0 v2) 1 v3) 2 v4) 3 v5)))) (n_A2_A3 : kA2 ≠ kA3) (n_A4_A2 : kA4 ≠ kA2) (n_A4_A3 : kA4 ≠ kA3) (x1lo : 0 ≤ x1) (x1hi : x1 ≤ 9) : q_mV l y_WR_store prog_19_method_15_code 4 2 0 0 D g [.ref qO0, .int x1] ws (fun u => (∃ (ex0 : Nat → Int32), q_un ws u [kO0, kA2, kA3] ∧ u[kO0]? = some (qO0, .inr (13, [.int 0, .int 0, .ref qA1, .int 0, .ref qA2, .ref qA3, .ref qA4, .int 1, .ref qA5, .ref qA6, .ref qA7, .ref qA8, .ref qA9, .ref qA10, .ref qA11, .ref qA12, .int 0, .int 0, .ref qA13, .ref qA14, .int 0])) ∧ u[kA2]? = some (qA2, .inl (g 0, 1408, .inl ex0)) ∧ u[kA3]? = some (qA3, .inl (g 3, 11, .inl (fun _ => 0)))) ∨ (∃ (ex0 : Nat → Int32), q_un ws u [kO0, kA2, kA3] ∧ u[kO0]? = some (qO0, .inr (13, [.int 0, .int 0, .ref qA1, .int 0, .ref qA2, .ref qA3, .ref qA4, .int 1, .ref qA5, .ref qA6, .ref qA7, .ref qA8, .ref qA9, .ref qA10, .ref qA11, .ref qA12, .int 0, .int 0, .ref qA13, .ref qA14, .int 0])) ∧ u[kA2]? = some (qA2, .inl (g 0, 1408, .inl ex0)) ∧ u[kA3]? = some (qA3, .inl (g 3, 11, .inl (upd (fun _ => 0) x1.toNatClampNeg (vp_nar .boolean 1))))) ∨ (q_un ws u [kO0, kA2, kA3] ∧ u[kO0]? = some (qO0, .inr (13, [.int 0, .int 0, .ref qA1, .int 0, .ref qA2, .ref qA3, .ref qA4, .int 1, .ref qA5, .ref qA6, .ref qA7, .ref qA8, .ref qA9, .ref qA10, .ref qA11, .ref qA12, .int 0, .int 0, .ref qA13, .ref qA14, .int 0])) ∧ u[kA2]? = some (qA2, .inl (g 0, 1408, .inl (fun _ => 0))) ∧ u[kA3]? = some (qA3, .inl (g 3, 11, .inl (fun _ => 0))))) := by
  intro sz
  refine q_into (by decide) (Nat.le_of_ble_eq_true rfl) ?_
  intro p e s m below meth c ls hsz C0 V hl
  have hx := C0.1
  have hb := C0.2.1
  have hl : lv_has ls 4 [(0, .ref qO0), (1, .int x1)] := hl
  have n_A2_O0 := q_df hA2 hO0
  have n_A3_A2 := Ne.symm n_A2_A3
  have n_A3_O0 := q_df hA3 hO0
  have n_A4_O0 := q_df hA4 hO0
  have n_O0_A2 := Ne.symm (q_df hA2 hO0)
  have n_O0_A3 := Ne.symm (q_df hA3 hO0)
  have hF : q_un ws ws [kO0, kA2, kA3] := q_u0
  refine lv_aload_n hx hb d_19_15_0 rfl (lv_at hl 0 rfl) ?_
  refine q_get (ci := 13) (j := 6) (v := .ref qA4) C0 V i_WR rfl rfl hO0 (by decide) w_1930 rfl d_19_15_1 ?_
  refine q_goi V (q_runS (As := [.ref qA4]) (rest := []) (d := 1) (mc := 0) (ms := 0) C0 V rfl LS_WR_59 (c_WR_size_3 l D g ws kA4 qA4 v2 v3 v4 v5 hA4 _) rfl hl.1 rfl (Nat.le_of_ble_eq_true rfl) ⟨by decide, by decide⟩ ⟨Nat.le_of_ble_eq_true rfl, Nat.le_of_ble_eq_true rfl⟩ d_19_15_4) (fun v3 u2 H locs hp1 V => ?_)
  rcases hp1 with ⟨rfl, rfl⟩ | ⟨y9, c5, c6, f7, f8, rfl, rfl⟩
  ·
    refine lv_sipush (v := 128) hx hb d_19_15_7 (by decide) ?_
    refine lv_icmp_le (tgt := 22) hx hb d_19_15_10 (by decide) (fun c11 => ?_) (fun c11 => absurd (by decide) c11)
    refine lv_iconst (v := 0) hx hb d_19_15_22 (by decide) ?_
    refine lv_istore_n (lv' := [(2, .int 0), (0, .ref qO0), (1, .int x1)]) hx hb d_19_15_23 rfl hl (by decide) rfl (fun ls hl => ?_)
    refine lv_iconst (v := 0) hx hb d_19_15_24 (by decide) ?_
    refine lv_istore_n (lv' := [(3, .int 0), (2, .int 0), (0, .ref qO0), (1, .int x1)]) hx hb d_19_15_25 rfl hl (by decide) rfl (fun ls hl => ?_)
    refine q_loop (X := Int32 × Int32 × (Nat → Int32)) (fun z H locs ls w15 => (0 ≤ z.1.toInt ∧ (z.1.toInt ≤ 128 ∨ z.1.toInt = 0)) ∧ q_Wd D g (va_A ws sz) s w15 H locs ∧ lv_has ls 4 [(3, .int z.1), (2, .int z.2.1), (0, .ref qO0), (1, .int x1)] ∧ q_un ws w15 [kO0, kA2, kA3] ∧ w15[kO0]? = some (qO0, .inr (13, [.int 0, .int 0, .ref qA1, .int 0, .ref qA2, .ref qA3, .ref qA4, .int 1, .ref qA5, .ref qA6, .ref qA7, .ref qA8, .ref qA9, .ref qA10, .ref qA11, .ref qA12, .int 0, .int 0, .ref qA13, .ref qA14, .int 0])) ∧ w15[kA2]? = some (qA2, .inl (g 0, 1408, .inl z.2.2)) ∧ w15[kA3]? = some (qA3, .inl (g 3, 11, .inl (fun _ => 0))) ∧ w15[kA4]? = some (qA4, .inl (g 0, 264, .inl (upd (upd (upd (upd (fun _ => 0) 0 v2) 1 v3) 2 v4) 3 v5)))) (fun z => (128 - z.1.toInt).toNat) ?_ ((0 : Int32), (0 : Int32), (fun _ => 0 : (Nat → Int32))) _ _ _ ws ⟨⟨(by dsimp only; decide), Or.inr (by dsimp only; decide)⟩, V, hl, hF, hO0, hA2, hA3, hA4⟩
    rintro ⟨lx12, lx13, lx14⟩ H locs ls w15 ⟨i16, V, hl, hF, hO0, hA2, hA3, hA4⟩ ih17
    replace i16 : 0 ≤ lx12.toInt ∧ (lx12.toInt ≤ 128 ∨ lx12.toInt = 0) := i16
    replace hl : lv_has ls 4 [(3, .int lx12), (2, .int lx13), (0, .ref qO0), (1, .int x1)] := hl
    replace hO0 : w15[kO0]? = some (qO0, .inr (13, [.int 0, .int 0, .ref qA1, .int 0, .ref qA2, .ref qA3, .ref qA4, .int 1, .ref qA5, .ref qA6, .ref qA7, .ref qA8, .ref qA9, .ref qA10, .ref qA11, .ref qA12, .int 0, .int 0, .ref qA13, .ref qA14, .int 0])) := hO0
    replace hA2 : w15[kA2]? = some (qA2, .inl (g 0, 1408, .inl lx14)) := hA2
    replace hA3 : w15[kA3]? = some (qA3, .inl (g 3, 11, .inl (fun _ => 0))) := hA3
    replace hA4 : w15[kA4]? = some (qA4, .inl (g 0, 264, .inl (upd (upd (upd (upd (fun _ => 0) 0 v2) 1 v3) 2 v4) 3 v5))) := hA4
    refine lv_iload_n hx hb d_19_15_26 rfl (lv_at hl 0 rfl) ?_
    refine lv_sipush (v := 128) hx hb d_19_15_27 (by decide) ?_
    refine lv_icmp_ge (tgt := 76) hx hb d_19_15_30 (by decide) (fun c18 => ?_) (fun c18 => ?_)
    ·
      refine lv_aload_n hx hb d_19_15_76 rfl (lv_at hl 2 rfl) ?_
      refine q_get (ci := 13) (j := 5) (v := .ref qA3) C0 V i_WR rfl rfl hO0 (by decide) w_1929 rfl d_19_15_77 ?_
      refine lv_iload_n hx hb d_19_15_80 rfl (lv_at hl 3 rfl) ?_
      refine lv_aload_n hx hb d_19_15_81 rfl (lv_at hl 2 rfl) ?_
      refine q_get (ci := 13) (j := 7) (v := .int 1) C0 V i_WR rfl rfl hO0 (by decide) w_1931 rfl d_19_15_82 ?_
      refine lv_if_eq (tgt := 96) hx hb d_19_15_85 (by decide) (fun c19 => absurd c19 (by decide)) (fun c19 => ?_)
      refine lv_iload_n hx hb d_19_15_88 rfl (lv_at hl 1 rfl) ?_
      refine lv_if_eq (tgt := 96) hx hb d_19_15_89 (by decide) (fun c20 => ?_) (fun c20 => ?_)
      ·
        refine lv_iconst (v := 0) hx hb d_19_15_96 (by decide) ?_
        refine q_zast C0 V hA3 (q_ix (x := x1.toInt) rfl (by have t1 : 0 ≤ x1.toInt := q_leI x1lo; have t2 : x1.toInt ≤ 9 := q_leI x1hi; omega) (by have t1 : 0 ≤ x1.toInt := q_leI x1lo; have t2 : x1.toInt ≤ 9 := q_leI x1hi; omega)) d_19_15_97 (fun H locs w21 hu22 hA3 V => ?_)
        replace hA3 := q_re (y := (qA3, .inl (g 3, 11, .inl (fun _ => 0)))) hA3 (q_eI q_upd0)
        replace hA3 : w21[kA3]? = some (qA3, .inl (g 3, 11, .inl (fun _ => 0))) := hA3
        replace hF := q_us hF hu22 (.tail _ (.tail _ (.head _)))
        replace hO0 := (hu22 _ n_O0_A3).trans (hO0)
        replace hA2 := (hu22 _ n_A2_A3).trans (hA2)
        exact q_retv C0 V (Or.inl ⟨lx14, hF, hO0, hA2, hA3⟩) d_19_15_98
      ·
        refine lv_iconst (v := 1) hx hb d_19_15_92 (by decide) ?_
        refine lv_goto (tgt := 97) hx hb d_19_15_93 (by decide) ?_
        refine q_zast C0 V hA3 (q_ix (x := x1.toInt) rfl (by have t1 : 0 ≤ x1.toInt := q_leI x1lo; have t2 : x1.toInt ≤ 9 := q_leI x1hi; omega) (by have t1 : 0 ≤ x1.toInt := q_leI x1lo; have t2 : x1.toInt ≤ 9 := q_leI x1hi; omega)) d_19_15_97 (fun H locs w23 hu24 hA3 V => ?_)
        replace hA3 : w23[kA3]? = some (qA3, .inl (g 3, 11, .inl (upd (fun _ => 0) x1.toNatClampNeg (vp_nar .boolean 1)))) := hA3
        replace hF := q_us hF hu24 (.tail _ (.tail _ (.head _)))
        replace hO0 := (hu24 _ n_O0_A3).trans (hO0)
        replace hA2 := (hu24 _ n_A2_A3).trans (hA2)
        exact q_retv C0 V (Or.inr (Or.inl ⟨lx14, hF, hO0, hA2, hA3⟩)) d_19_15_98
    ·
      refine lv_aload_n hx hb d_19_15_33 rfl (lv_at hl 2 rfl) ?_
      refine q_get (ci := 13) (j := 4) (v := .ref qA2) C0 V i_WR rfl rfl hO0 (by decide) w_1928 rfl d_19_15_34 ?_
      refine lv_sipush (v := 128) hx hb d_19_15_37 (by decide) ?_
      refine lv_iload_n hx hb d_19_15_40 rfl (lv_at hl 3 rfl) ?_
      refine lv_imul hx hb d_19_15_41 ?_
      refine lv_iload_n hx hb d_19_15_42 rfl (lv_at hl 0 rfl) ?_
      refine lv_iadd hx hb d_19_15_43 ?_
      refine lv_aload_n hx hb d_19_15_44 rfl (lv_at hl 2 rfl) ?_
      refine q_get (ci := 13) (j := 6) (v := .ref qA4) C0 V i_WR rfl rfl hO0 (by decide) w_1930 rfl d_19_15_45 ?_
      refine lv_iload_n hx hb d_19_15_48 rfl (lv_at hl 0 rfl) ?_
      refine q_iald C0 V hA4 (q_ix (x := lx12.toInt) rfl (by have t1 : lx12.toInt < 128 := q_nleI c18; omega) (by have t1 : lx12.toInt < 128 := q_nleI c18; omega)) d_19_15_49 ?_
      refine q_iast C0 V hA2 (q_ix (x := ((128 * x1.toInt) + lx12.toInt)) (q_addI (x := (128 * x1.toInt)) (y := lx12.toInt) (q_mulI (x := 128) (y := x1.toInt) (by decide) rfl (by have t1 : 0 ≤ x1.toInt := q_leI x1lo; have t2 : x1.toInt ≤ 9 := q_leI x1hi; omega) (by have t1 : 0 ≤ x1.toInt := q_leI x1lo; have t2 : x1.toInt ≤ 9 := q_leI x1hi; omega)) rfl (by have t1 : 0 ≤ x1.toInt := q_leI x1lo; have t2 : x1.toInt ≤ 9 := q_leI x1hi; have t3 : lx12.toInt < 128 := q_nleI c18; omega) (by have t1 : 0 ≤ x1.toInt := q_leI x1lo; have t2 : x1.toInt ≤ 9 := q_leI x1hi; have t3 : lx12.toInt < 128 := q_nleI c18; omega)) (by have t1 : 0 ≤ x1.toInt := q_leI x1lo; have t2 : x1.toInt ≤ 9 := q_leI x1hi; have t3 : lx12.toInt < 128 := q_nleI c18; omega) (by have t1 : 0 ≤ x1.toInt := q_leI x1lo; have t2 : x1.toInt ≤ 9 := q_leI x1hi; have t3 : lx12.toInt < 128 := q_nleI c18; omega)) d_19_15_50 (fun H locs w25 hu26 hA2 V => ?_)
      replace hA2 : w25[kA2]? = some (qA2, .inl (g 0, 1408, .inl (upd lx14 (((128 * x1) + lx12).toNatClampNeg) ((upd (upd (upd (upd (fun _ => 0) 0 v2) 1 v3) 2 v4) 3 v5) lx12.toNatClampNeg)))) := hA2
      replace hF := q_us hF hu26 (.tail _ (.head _))
      refine lv_iload_n hx hb d_19_15_51 rfl (lv_at hl 1 rfl) ?_
      refine lv_if_ne (tgt := 64) hx hb d_19_15_52 (by decide) (fun c27 => ?_) (fun c27 => ?_)
      ·
        refine lv_iconst (v := 1) hx hb d_19_15_64 (by decide) ?_
        refine lv_goto (tgt := 69) hx hb d_19_15_65 (by decide) ?_
        refine lv_istore_n (lv' := [(2, .int 1), (3, .int lx12), (0, .ref qO0), (1, .int x1)]) hx hb d_19_15_69 rfl hl (by decide) rfl (fun ls hl => ?_)
        refine lv_iinc (v := lx12 + 1) (lv' := [(3, .int (lx12 + 1)), (2, .int 1), (0, .ref qO0), (1, .int x1)]) hx hb d_19_15_70 hl (k := 1) rfl (rfl) (by decide) rfl (fun ls hl => ?_)
        refine lv_goto (tgt := 26) hx hb d_19_15_73 (by decide) ?_
        replace hO0 := (hu26 _ n_O0_A2).trans (hO0)
        replace hA3 := (hu26 _ n_A3_A2).trans (hA3)
        replace hA4 := (hu26 _ n_A4_A2).trans (hA4)
        exact ih17 ((lx12 + 1 : Int32), (1 : Int32), (upd lx14 (((128 * x1) + lx12).toNatClampNeg) ((upd (upd (upd (upd (fun _ => 0) 0 v2) 1 v3) 2 v4) 3 v5) lx12.toNatClampNeg) : Nat → Int32)) _ _ _ _ (show (128 - (lx12 + 1).toInt).toNat < (128 - lx12.toInt).toNat from by have t1 : lx12.toInt < 128 := q_nleI c18; have e : (lx12 + 1).toInt = (lx12.toInt + 1) := (q_addI (x := lx12.toInt) (y := 1) rfl (by decide) (by have t1 : lx12.toInt < 128 := q_nleI c18; omega) (by have t1 : lx12.toInt < 128 := q_nleI c18; omega)); omega) ⟨(show 0 ≤ (lx12 + 1).toInt ∧ ((lx12 + 1).toInt ≤ 128 ∨ (lx12 + 1).toInt = 0) from by have t1 : lx12.toInt < 128 := q_nleI c18; have e : (lx12 + 1).toInt = (lx12.toInt + 1) := (q_addI (x := lx12.toInt) (y := 1) rfl (by decide) (by have t1 : lx12.toInt < 128 := q_nleI c18; omega) (by have t1 : lx12.toInt < 128 := q_nleI c18; omega)); omega), V, q_lw hl (q_lw1 0 rfl (q_lw1 1 rfl (q_lw1 2 rfl (q_lw1 3 rfl q_lw0)))), hF, hO0, hA2, hA3, hA4⟩
      ·
        refine lv_aload_n hx hb d_19_15_55 rfl (lv_at hl 2 rfl) ?_
        replace hO0 := (hu26 _ n_O0_A2).trans (hO0)
        refine q_get (ci := 13) (j := 6) (v := .ref qA4) C0 V i_WR rfl rfl hO0 (by decide) w_1930 rfl d_19_15_56 ?_
        refine lv_iload_n hx hb d_19_15_59 rfl (lv_at hl 0 rfl) ?_
        replace hA4 := (hu26 _ n_A4_A2).trans (hA4)
        refine q_iald C0 V hA4 (q_ix (x := lx12.toInt) rfl (by have t1 : lx12.toInt < 128 := q_nleI c18; omega) (by have t1 : lx12.toInt < 128 := q_nleI c18; omega)) d_19_15_60 ?_
        refine lv_if_eq (tgt := 68) hx hb d_19_15_61 (by decide) (fun c28 => ?_) (fun c28 => ?_)
        ·
          refine lv_iconst (v := 0) hx hb d_19_15_68 (by decide) ?_
          refine lv_istore_n (lv' := [(2, .int 0), (3, .int lx12), (0, .ref qO0), (1, .int x1)]) hx hb d_19_15_69 rfl hl (by decide) rfl (fun ls hl => ?_)
          refine lv_iinc (v := lx12 + 1) (lv' := [(3, .int (lx12 + 1)), (2, .int 0), (0, .ref qO0), (1, .int x1)]) hx hb d_19_15_70 hl (k := 1) rfl (rfl) (by decide) rfl (fun ls hl => ?_)
          refine lv_goto (tgt := 26) hx hb d_19_15_73 (by decide) ?_
          replace hA3 := (hu26 _ n_A3_A2).trans (hA3)
          exact ih17 ((lx12 + 1 : Int32), (0 : Int32), (upd lx14 (((128 * x1) + lx12).toNatClampNeg) ((upd (upd (upd (upd (fun _ => 0) 0 v2) 1 v3) 2 v4) 3 v5) lx12.toNatClampNeg) : Nat → Int32)) _ _ _ _ (show (128 - (lx12 + 1).toInt).toNat < (128 - lx12.toInt).toNat from by have t1 : lx12.toInt < 128 := q_nleI c18; have e : (lx12 + 1).toInt = (lx12.toInt + 1) := (q_addI (x := lx12.toInt) (y := 1) rfl (by decide) (by have t1 : lx12.toInt < 128 := q_nleI c18; omega) (by have t1 : lx12.toInt < 128 := q_nleI c18; omega)); omega) ⟨(show 0 ≤ (lx12 + 1).toInt ∧ ((lx12 + 1).toInt ≤ 128 ∨ (lx12 + 1).toInt = 0) from by have t1 : lx12.toInt < 128 := q_nleI c18; have e : (lx12 + 1).toInt = (lx12.toInt + 1) := (q_addI (x := lx12.toInt) (y := 1) rfl (by decide) (by have t1 : lx12.toInt < 128 := q_nleI c18; omega) (by have t1 : lx12.toInt < 128 := q_nleI c18; omega)); omega), V, q_lw hl (q_lw1 0 rfl (q_lw1 1 rfl (q_lw1 2 rfl (q_lw1 3 rfl q_lw0)))), hF, hO0, hA2, hA3, hA4⟩
        ·
          refine lv_iconst (v := 1) hx hb d_19_15_64 (by decide) ?_
          refine lv_goto (tgt := 69) hx hb d_19_15_65 (by decide) ?_
          refine lv_istore_n (lv' := [(2, .int 1), (3, .int lx12), (0, .ref qO0), (1, .int x1)]) hx hb d_19_15_69 rfl hl (by decide) rfl (fun ls hl => ?_)
          refine lv_iinc (v := lx12 + 1) (lv' := [(3, .int (lx12 + 1)), (2, .int 1), (0, .ref qO0), (1, .int x1)]) hx hb d_19_15_70 hl (k := 1) rfl (rfl) (by decide) rfl (fun ls hl => ?_)
          refine lv_goto (tgt := 26) hx hb d_19_15_73 (by decide) ?_
          replace hA3 := (hu26 _ n_A3_A2).trans (hA3)
          exact ih17 ((lx12 + 1 : Int32), (1 : Int32), (upd lx14 (((128 * x1) + lx12).toNatClampNeg) ((upd (upd (upd (upd (fun _ => 0) 0 v2) 1 v3) 2 v4) 3 v5) lx12.toNatClampNeg) : Nat → Int32)) _ _ _ _ (show (128 - (lx12 + 1).toInt).toNat < (128 - lx12.toInt).toNat from by have t1 : lx12.toInt < 128 := q_nleI c18; have e : (lx12 + 1).toInt = (lx12.toInt + 1) := (q_addI (x := lx12.toInt) (y := 1) rfl (by decide) (by have t1 : lx12.toInt < 128 := q_nleI c18; omega) (by have t1 : lx12.toInt < 128 := q_nleI c18; omega)); omega) ⟨(show 0 ≤ (lx12 + 1).toInt ∧ ((lx12 + 1).toInt ≤ 128 ∨ (lx12 + 1).toInt = 0) from by have t1 : lx12.toInt < 128 := q_nleI c18; have e : (lx12 + 1).toInt = (lx12.toInt + 1) := (q_addI (x := lx12.toInt) (y := 1) rfl (by decide) (by have t1 : lx12.toInt < 128 := q_nleI c18; omega) (by have t1 : lx12.toInt < 128 := q_nleI c18; omega)); omega), V, q_lw hl (q_lw1 0 rfl (q_lw1 1 rfl (q_lw1 2 rfl (q_lw1 3 rfl q_lw0)))), hF, hO0, hA2, hA3, hA4⟩
  ·
    refine lv_sipush (v := 128) hx hb d_19_15_7 (by decide) ?_
    refine lv_icmp_le (tgt := 22) hx hb d_19_15_10 (by decide) (fun c29 => ?_) (fun c29 => ?_)
    ·
      refine lv_iconst (v := 0) hx hb d_19_15_22 (by decide) ?_
      refine lv_istore_n (lv' := [(2, .int 0), (0, .ref qO0), (1, .int x1)]) hx hb d_19_15_23 rfl hl (by decide) rfl (fun ls hl => ?_)
      refine lv_iconst (v := 0) hx hb d_19_15_24 (by decide) ?_
      refine lv_istore_n (lv' := [(3, .int 0), (2, .int 0), (0, .ref qO0), (1, .int x1)]) hx hb d_19_15_25 rfl hl (by decide) rfl (fun ls hl => ?_)
      refine q_loop (X := Int32 × Int32 × (Nat → Int32)) (fun z H locs ls w33 => (0 ≤ z.1.toInt ∧ (z.1.toInt ≤ 128 ∨ z.1.toInt = 0)) ∧ q_Wd D g (va_A ws sz) s w33 H locs ∧ lv_has ls 4 [(3, .int z.1), (2, .int z.2.1), (0, .ref qO0), (1, .int x1)] ∧ q_un ws w33 [kO0, kA2, kA3] ∧ w33[kO0]? = some (qO0, .inr (13, [.int 0, .int 0, .ref qA1, .int 0, .ref qA2, .ref qA3, .ref qA4, .int 1, .ref qA5, .ref qA6, .ref qA7, .ref qA8, .ref qA9, .ref qA10, .ref qA11, .ref qA12, .int 0, .int 0, .ref qA13, .ref qA14, .int 0])) ∧ w33[kA2]? = some (qA2, .inl (g 0, 1408, .inl z.2.2)) ∧ w33[kA3]? = some (qA3, .inl (g 3, 11, .inl (fun _ => 0))) ∧ w33[kA4]? = some (qA4, .inl (g 0, 264, .inl (upd (upd (upd (upd (fun _ => 0) 0 v2) 1 v3) 2 v4) 3 v5)))) (fun z => (128 - z.1.toInt).toNat) ?_ ((0 : Int32), (0 : Int32), (fun _ => 0 : (Nat → Int32))) _ _ _ ws ⟨⟨(by dsimp only; decide), Or.inr (by dsimp only; decide)⟩, V, hl, hF, hO0, hA2, hA3, hA4⟩
      rintro ⟨lx30, lx31, lx32⟩ H locs ls w33 ⟨i34, V, hl, hF, hO0, hA2, hA3, hA4⟩ ih35
      replace i34 : 0 ≤ lx30.toInt ∧ (lx30.toInt ≤ 128 ∨ lx30.toInt = 0) := i34
      replace hl : lv_has ls 4 [(3, .int lx30), (2, .int lx31), (0, .ref qO0), (1, .int x1)] := hl
      replace hO0 : w33[kO0]? = some (qO0, .inr (13, [.int 0, .int 0, .ref qA1, .int 0, .ref qA2, .ref qA3, .ref qA4, .int 1, .ref qA5, .ref qA6, .ref qA7, .ref qA8, .ref qA9, .ref qA10, .ref qA11, .ref qA12, .int 0, .int 0, .ref qA13, .ref qA14, .int 0])) := hO0
      replace hA2 : w33[kA2]? = some (qA2, .inl (g 0, 1408, .inl lx32)) := hA2
      replace hA3 : w33[kA3]? = some (qA3, .inl (g 3, 11, .inl (fun _ => 0))) := hA3
      replace hA4 : w33[kA4]? = some (qA4, .inl (g 0, 264, .inl (upd (upd (upd (upd (fun _ => 0) 0 v2) 1 v3) 2 v4) 3 v5))) := hA4
      refine lv_iload_n hx hb d_19_15_26 rfl (lv_at hl 0 rfl) ?_
      refine lv_sipush (v := 128) hx hb d_19_15_27 (by decide) ?_
      refine lv_icmp_ge (tgt := 76) hx hb d_19_15_30 (by decide) (fun c36 => ?_) (fun c36 => ?_)
      ·
        refine lv_aload_n hx hb d_19_15_76 rfl (lv_at hl 2 rfl) ?_
        refine q_get (ci := 13) (j := 5) (v := .ref qA3) C0 V i_WR rfl rfl hO0 (by decide) w_1929 rfl d_19_15_77 ?_
        refine lv_iload_n hx hb d_19_15_80 rfl (lv_at hl 3 rfl) ?_
        refine lv_aload_n hx hb d_19_15_81 rfl (lv_at hl 2 rfl) ?_
        refine q_get (ci := 13) (j := 7) (v := .int 1) C0 V i_WR rfl rfl hO0 (by decide) w_1931 rfl d_19_15_82 ?_
        refine lv_if_eq (tgt := 96) hx hb d_19_15_85 (by decide) (fun c37 => absurd c37 (by decide)) (fun c37 => ?_)
        refine lv_iload_n hx hb d_19_15_88 rfl (lv_at hl 1 rfl) ?_
        refine lv_if_eq (tgt := 96) hx hb d_19_15_89 (by decide) (fun c38 => ?_) (fun c38 => ?_)
        ·
          refine lv_iconst (v := 0) hx hb d_19_15_96 (by decide) ?_
          refine q_zast C0 V hA3 (q_ix (x := x1.toInt) rfl (by have t1 : 0 ≤ x1.toInt := q_leI x1lo; have t2 : x1.toInt ≤ 9 := q_leI x1hi; omega) (by have t1 : 0 ≤ x1.toInt := q_leI x1lo; have t2 : x1.toInt ≤ 9 := q_leI x1hi; omega)) d_19_15_97 (fun H locs w39 hu40 hA3 V => ?_)
          replace hA3 := q_re (y := (qA3, .inl (g 3, 11, .inl (fun _ => 0)))) hA3 (q_eI q_upd0)
          replace hA3 : w39[kA3]? = some (qA3, .inl (g 3, 11, .inl (fun _ => 0))) := hA3
          replace hF := q_us hF hu40 (.tail _ (.tail _ (.head _)))
          replace hO0 := (hu40 _ n_O0_A3).trans (hO0)
          replace hA2 := (hu40 _ n_A2_A3).trans (hA2)
          exact q_retv C0 V (Or.inl ⟨lx32, hF, hO0, hA2, hA3⟩) d_19_15_98
        ·
          refine lv_iconst (v := 1) hx hb d_19_15_92 (by decide) ?_
          refine lv_goto (tgt := 97) hx hb d_19_15_93 (by decide) ?_
          refine q_zast C0 V hA3 (q_ix (x := x1.toInt) rfl (by have t1 : 0 ≤ x1.toInt := q_leI x1lo; have t2 : x1.toInt ≤ 9 := q_leI x1hi; omega) (by have t1 : 0 ≤ x1.toInt := q_leI x1lo; have t2 : x1.toInt ≤ 9 := q_leI x1hi; omega)) d_19_15_97 (fun H locs w41 hu42 hA3 V => ?_)
          replace hA3 : w41[kA3]? = some (qA3, .inl (g 3, 11, .inl (upd (fun _ => 0) x1.toNatClampNeg (vp_nar .boolean 1)))) := hA3
          replace hF := q_us hF hu42 (.tail _ (.tail _ (.head _)))
          replace hO0 := (hu42 _ n_O0_A3).trans (hO0)
          replace hA2 := (hu42 _ n_A2_A3).trans (hA2)
          exact q_retv C0 V (Or.inr (Or.inl ⟨lx32, hF, hO0, hA2, hA3⟩)) d_19_15_98
      ·
        refine lv_aload_n hx hb d_19_15_33 rfl (lv_at hl 2 rfl) ?_
        refine q_get (ci := 13) (j := 4) (v := .ref qA2) C0 V i_WR rfl rfl hO0 (by decide) w_1928 rfl d_19_15_34 ?_
        refine lv_sipush (v := 128) hx hb d_19_15_37 (by decide) ?_
        refine lv_iload_n hx hb d_19_15_40 rfl (lv_at hl 3 rfl) ?_
        refine lv_imul hx hb d_19_15_41 ?_
        refine lv_iload_n hx hb d_19_15_42 rfl (lv_at hl 0 rfl) ?_
        refine lv_iadd hx hb d_19_15_43 ?_
        refine lv_aload_n hx hb d_19_15_44 rfl (lv_at hl 2 rfl) ?_
        refine q_get (ci := 13) (j := 6) (v := .ref qA4) C0 V i_WR rfl rfl hO0 (by decide) w_1930 rfl d_19_15_45 ?_
        refine lv_iload_n hx hb d_19_15_48 rfl (lv_at hl 0 rfl) ?_
        refine q_iald C0 V hA4 (q_ix (x := lx30.toInt) rfl (by have t1 : lx30.toInt < 128 := q_nleI c36; omega) (by have t1 : lx30.toInt < 128 := q_nleI c36; omega)) d_19_15_49 ?_
        refine q_iast C0 V hA2 (q_ix (x := ((128 * x1.toInt) + lx30.toInt)) (q_addI (x := (128 * x1.toInt)) (y := lx30.toInt) (q_mulI (x := 128) (y := x1.toInt) (by decide) rfl (by have t1 : 0 ≤ x1.toInt := q_leI x1lo; have t2 : x1.toInt ≤ 9 := q_leI x1hi; omega) (by have t1 : 0 ≤ x1.toInt := q_leI x1lo; have t2 : x1.toInt ≤ 9 := q_leI x1hi; omega)) rfl (by have t1 : 0 ≤ x1.toInt := q_leI x1lo; have t2 : x1.toInt ≤ 9 := q_leI x1hi; have t3 : lx30.toInt < 128 := q_nleI c36; omega) (by have t1 : 0 ≤ x1.toInt := q_leI x1lo; have t2 : x1.toInt ≤ 9 := q_leI x1hi; have t3 : lx30.toInt < 128 := q_nleI c36; omega)) (by have t1 : 0 ≤ x1.toInt := q_leI x1lo; have t2 : x1.toInt ≤ 9 := q_leI x1hi; have t3 : lx30.toInt < 128 := q_nleI c36; omega) (by have t1 : 0 ≤ x1.toInt := q_leI x1lo; have t2 : x1.toInt ≤ 9 := q_leI x1hi; have t3 : lx30.toInt < 128 := q_nleI c36; omega)) d_19_15_50 (fun H locs w43 hu44 hA2 V => ?_)
        replace hA2 : w43[kA2]? = some (qA2, .inl (g 0, 1408, .inl (upd lx32 (((128 * x1) + lx30).toNatClampNeg) ((upd (upd (upd (upd (fun _ => 0) 0 v2) 1 v3) 2 v4) 3 v5) lx30.toNatClampNeg)))) := hA2
        replace hF := q_us hF hu44 (.tail _ (.head _))
        refine lv_iload_n hx hb d_19_15_51 rfl (lv_at hl 1 rfl) ?_
        refine lv_if_ne (tgt := 64) hx hb d_19_15_52 (by decide) (fun c45 => ?_) (fun c45 => ?_)
        ·
          refine lv_iconst (v := 1) hx hb d_19_15_64 (by decide) ?_
          refine lv_goto (tgt := 69) hx hb d_19_15_65 (by decide) ?_
          refine lv_istore_n (lv' := [(2, .int 1), (3, .int lx30), (0, .ref qO0), (1, .int x1)]) hx hb d_19_15_69 rfl hl (by decide) rfl (fun ls hl => ?_)
          refine lv_iinc (v := lx30 + 1) (lv' := [(3, .int (lx30 + 1)), (2, .int 1), (0, .ref qO0), (1, .int x1)]) hx hb d_19_15_70 hl (k := 1) rfl (rfl) (by decide) rfl (fun ls hl => ?_)
          refine lv_goto (tgt := 26) hx hb d_19_15_73 (by decide) ?_
          replace hO0 := (hu44 _ n_O0_A2).trans (hO0)
          replace hA3 := (hu44 _ n_A3_A2).trans (hA3)
          replace hA4 := (hu44 _ n_A4_A2).trans (hA4)
          exact ih35 ((lx30 + 1 : Int32), (1 : Int32), (upd lx32 (((128 * x1) + lx30).toNatClampNeg) ((upd (upd (upd (upd (fun _ => 0) 0 v2) 1 v3) 2 v4) 3 v5) lx30.toNatClampNeg) : Nat → Int32)) _ _ _ _ (show (128 - (lx30 + 1).toInt).toNat < (128 - lx30.toInt).toNat from by have t1 : lx30.toInt < 128 := q_nleI c36; have e : (lx30 + 1).toInt = (lx30.toInt + 1) := (q_addI (x := lx30.toInt) (y := 1) rfl (by decide) (by have t1 : lx30.toInt < 128 := q_nleI c36; omega) (by have t1 : lx30.toInt < 128 := q_nleI c36; omega)); omega) ⟨(show 0 ≤ (lx30 + 1).toInt ∧ ((lx30 + 1).toInt ≤ 128 ∨ (lx30 + 1).toInt = 0) from by have t1 : lx30.toInt < 128 := q_nleI c36; have e : (lx30 + 1).toInt = (lx30.toInt + 1) := (q_addI (x := lx30.toInt) (y := 1) rfl (by decide) (by have t1 : lx30.toInt < 128 := q_nleI c36; omega) (by have t1 : lx30.toInt < 128 := q_nleI c36; omega)); omega), V, q_lw hl (q_lw1 0 rfl (q_lw1 1 rfl (q_lw1 2 rfl (q_lw1 3 rfl q_lw0)))), hF, hO0, hA2, hA3, hA4⟩
        ·
          refine lv_aload_n hx hb d_19_15_55 rfl (lv_at hl 2 rfl) ?_
          replace hO0 := (hu44 _ n_O0_A2).trans (hO0)
          refine q_get (ci := 13) (j := 6) (v := .ref qA4) C0 V i_WR rfl rfl hO0 (by decide) w_1930 rfl d_19_15_56 ?_
          refine lv_iload_n hx hb d_19_15_59 rfl (lv_at hl 0 rfl) ?_
          replace hA4 := (hu44 _ n_A4_A2).trans (hA4)
          refine q_iald C0 V hA4 (q_ix (x := lx30.toInt) rfl (by have t1 : lx30.toInt < 128 := q_nleI c36; omega) (by have t1 : lx30.toInt < 128 := q_nleI c36; omega)) d_19_15_60 ?_
          refine lv_if_eq (tgt := 68) hx hb d_19_15_61 (by decide) (fun c46 => ?_) (fun c46 => ?_)
          ·
            refine lv_iconst (v := 0) hx hb d_19_15_68 (by decide) ?_
            refine lv_istore_n (lv' := [(2, .int 0), (3, .int lx30), (0, .ref qO0), (1, .int x1)]) hx hb d_19_15_69 rfl hl (by decide) rfl (fun ls hl => ?_)
            refine lv_iinc (v := lx30 + 1) (lv' := [(3, .int (lx30 + 1)), (2, .int 0), (0, .ref qO0), (1, .int x1)]) hx hb d_19_15_70 hl (k := 1) rfl (rfl) (by decide) rfl (fun ls hl => ?_)
            refine lv_goto (tgt := 26) hx hb d_19_15_73 (by decide) ?_
            replace hA3 := (hu44 _ n_A3_A2).trans (hA3)
            exact ih35 ((lx30 + 1 : Int32), (0 : Int32), (upd lx32 (((128 * x1) + lx30).toNatClampNeg) ((upd (upd (upd (upd (fun _ => 0) 0 v2) 1 v3) 2 v4) 3 v5) lx30.toNatClampNeg) : Nat → Int32)) _ _ _ _ (show (128 - (lx30 + 1).toInt).toNat < (128 - lx30.toInt).toNat from by have t1 : lx30.toInt < 128 := q_nleI c36; have e : (lx30 + 1).toInt = (lx30.toInt + 1) := (q_addI (x := lx30.toInt) (y := 1) rfl (by decide) (by have t1 : lx30.toInt < 128 := q_nleI c36; omega) (by have t1 : lx30.toInt < 128 := q_nleI c36; omega)); omega) ⟨(show 0 ≤ (lx30 + 1).toInt ∧ ((lx30 + 1).toInt ≤ 128 ∨ (lx30 + 1).toInt = 0) from by have t1 : lx30.toInt < 128 := q_nleI c36; have e : (lx30 + 1).toInt = (lx30.toInt + 1) := (q_addI (x := lx30.toInt) (y := 1) rfl (by decide) (by have t1 : lx30.toInt < 128 := q_nleI c36; omega) (by have t1 : lx30.toInt < 128 := q_nleI c36; omega)); omega), V, q_lw hl (q_lw1 0 rfl (q_lw1 1 rfl (q_lw1 2 rfl (q_lw1 3 rfl q_lw0)))), hF, hO0, hA2, hA3, hA4⟩
          ·
            refine lv_iconst (v := 1) hx hb d_19_15_64 (by decide) ?_
            refine lv_goto (tgt := 69) hx hb d_19_15_65 (by decide) ?_
            refine lv_istore_n (lv' := [(2, .int 1), (3, .int lx30), (0, .ref qO0), (1, .int x1)]) hx hb d_19_15_69 rfl hl (by decide) rfl (fun ls hl => ?_)
            refine lv_iinc (v := lx30 + 1) (lv' := [(3, .int (lx30 + 1)), (2, .int 1), (0, .ref qO0), (1, .int x1)]) hx hb d_19_15_70 hl (k := 1) rfl (rfl) (by decide) rfl (fun ls hl => ?_)
            refine lv_goto (tgt := 26) hx hb d_19_15_73 (by decide) ?_
            replace hA3 := (hu44 _ n_A3_A2).trans (hA3)
            exact ih35 ((lx30 + 1 : Int32), (1 : Int32), (upd lx32 (((128 * x1) + lx30).toNatClampNeg) ((upd (upd (upd (upd (fun _ => 0) 0 v2) 1 v3) 2 v4) 3 v5) lx30.toNatClampNeg) : Nat → Int32)) _ _ _ _ (show (128 - (lx30 + 1).toInt).toNat < (128 - lx30.toInt).toNat from by have t1 : lx30.toInt < 128 := q_nleI c36; have e : (lx30 + 1).toInt = (lx30.toInt + 1) := (q_addI (x := lx30.toInt) (y := 1) rfl (by decide) (by have t1 : lx30.toInt < 128 := q_nleI c36; omega) (by have t1 : lx30.toInt < 128 := q_nleI c36; omega)); omega) ⟨(show 0 ≤ (lx30 + 1).toInt ∧ ((lx30 + 1).toInt ≤ 128 ∨ (lx30 + 1).toInt = 0) from by have t1 : lx30.toInt < 128 := q_nleI c36; have e : (lx30 + 1).toInt = (lx30.toInt + 1) := (q_addI (x := lx30.toInt) (y := 1) rfl (by decide) (by have t1 : lx30.toInt < 128 := q_nleI c36; omega) (by have t1 : lx30.toInt < 128 := q_nleI c36; omega)); omega), V, q_lw hl (q_lw1 0 rfl (q_lw1 1 rfl (q_lw1 2 rfl (q_lw1 3 rfl q_lw0)))), hF, hO0, hA2, hA3, hA4⟩
    ·
      refine lv_aload_n hx hb d_19_15_13 rfl (lv_at hl 0 rfl) ?_
      refine lv_aload_n hx hb d_19_15_14 rfl (lv_at hl 0 rfl) ?_
      refine q_get (ci := 13) (j := 1) (v := .int 0) C0 V i_WR rfl rfl hO0 (by decide) w_1923 rfl d_19_15_15 ?_
      refine q_put (ci := 13) (j := 0) (v := .int 0) (ty := .int) C0 V i_WR o_WR n_WR rfl rfl hO0 (by decide) w_1921 rfl rfl rfl rfl (Nat.le_of_ble_eq_true rfl) d_19_15_18 (fun H locs w47 hu48 hO0 V => ?_)
      replace hO0 : w47[kO0]? = some (qO0, .inr (13, [.int 0, .int 0, .ref qA1, .int 0, .ref qA2, .ref qA3, .ref qA4, .int 1, .ref qA5, .ref qA6, .ref qA7, .ref qA8, .ref qA9, .ref qA10, .ref qA11, .ref qA12, .int 0, .int 0, .ref qA13, .ref qA14, .int 0])) := hO0
      replace hF := q_us hF hu48 (.head _)
      replace hA2 := (hu48 _ n_A2_O0).trans (hA2)
      replace hA3 := (hu48 _ n_A3_O0).trans (hA3)
      exact q_retv C0 V (Or.inr (Or.inr (⟨hF, hO0, hA2, hA3⟩))) d_19_15_21
theorem d_19_20_0 : decode prog_19_method_20_code 0 = .ok (.aload_n 0, 1) := by decide +kernel
theorem d_19_20_1 : decode prog_19_method_20_code 1 = .ok (.iload_n 1, 1) := by decide +kernel
theorem d_19_20_2 : decode prog_19_method_20_code 2 = .ok (.invokestatic 91, 3) := by decide +kernel
theorem d_19_20_5 : decode prog_19_method_20_code 5 = .ok (.ifCond .eq 7, 3) := by decide +kernel
theorem d_19_20_12 : decode prog_19_method_20_code 12 = .ok (.iconst 0, 1) := by decide +kernel
theorem d_19_20_13 : decode prog_19_method_20_code 13 = .ok (.putfield 53, 3) := by decide +kernel
theorem d_19_20_16 : decode prog_19_method_20_code 16 = .ok (.aload_n 0, 1) := by decide +kernel
theorem d_19_20_17 : decode prog_19_method_20_code 17 = .ok (.getfield 53, 3) := by decide +kernel
theorem d_19_20_20 : decode prog_19_method_20_code 20 = .ok (.ifCond .le 4, 3) := by decide +kernel
theorem d_19_20_24 : decode prog_19_method_20_code 24 = .ok (.aload_n 0, 1) := by decide +kernel
theorem d_19_20_25 : decode prog_19_method_20_code 25 = .ok (.getfield 20, 3) := by decide +kernel
theorem d_19_20_28 : decode prog_19_method_20_code 28 = .ok (.invokestatic 63, 3) := by decide +kernel
theorem d_19_20_31 : decode prog_19_method_20_code 31 = .ok (.aload_n 0, 1) := by decide +kernel
theorem d_19_20_32 : decode prog_19_method_20_code 32 = .ok (.lload_n 2, 1) := by decide +kernel
theorem d_19_20_33 : decode prog_19_method_20_code 33 = .ok (.lconst 0, 1) := by decide +kernel
theorem d_19_20_34 : decode prog_19_method_20_code 34 = .ok (.lcmp, 1) := by decide +kernel
theorem d_19_20_35 : decode prog_19_method_20_code 35 = .ok (.ifCond .ge 7, 3) := by decide +kernel
theorem d_19_20_42 : decode prog_19_method_20_code 42 = .ok (.iconst 0, 1) := by decide +kernel
theorem d_19_20_43 : decode prog_19_method_20_code 43 = .ok (.putfield 82, 3) := by decide +kernel
theorem d_19_20_46 : decode prog_19_method_20_code 46 = .ok (.aload_n 0, 1) := by decide +kernel
theorem d_19_20_47 : decode prog_19_method_20_code 47 = .ok (.getfield 82, 3) := by decide +kernel
theorem d_19_20_50 : decode prog_19_method_20_code 50 = .ok (.ifCond .eq 8, 3) := by decide +kernel
theorem d_19_20_58 : decode prog_19_method_20_code 58 = .ok (.lload_n 2, 1) := by decide +kernel
theorem d_19_20_59 : decode prog_19_method_20_code 59 = .ok (.lstore 4, 2) := by decide +kernel
theorem d_19_20_61 : decode prog_19_method_20_code 61 = .ok (.iconst 0, 1) := by decide +kernel
theorem d_19_20_62 : decode prog_19_method_20_code 62 = .ok (.istore 6, 2) := by decide +kernel
theorem d_19_20_64 : decode prog_19_method_20_code 64 = .ok (.iload 6, 2) := by decide +kernel
theorem d_19_20_66 : decode prog_19_method_20_code 66 = .ok (.iconst 4, 1) := by decide +kernel
theorem d_19_20_67 : decode prog_19_method_20_code 67 = .ok (.if_icmp .ge 29, 3) := by decide +kernel
theorem d_19_20_70 : decode prog_19_method_20_code 70 = .ok (.aload_n 0, 1) := by decide +kernel
theorem d_19_20_71 : decode prog_19_method_20_code 71 = .ok (.getfield 20, 3) := by decide +kernel
theorem d_19_20_74 : decode prog_19_method_20_code 74 = .ok (.iload 6, 2) := by decide +kernel
theorem d_19_20_76 : decode prog_19_method_20_code 76 = .ok (.lload 4, 2) := by decide +kernel
theorem d_19_20_78 : decode prog_19_method_20_code 78 = .ok (.bipush 16, 2) := by decide +kernel
theorem d_19_20_80 : decode prog_19_method_20_code 80 = .ok (.iload 6, 2) := by decide +kernel
theorem d_19_20_82 : decode prog_19_method_20_code 82 = .ok (.imul, 1) := by decide +kernel
theorem d_19_20_83 : decode prog_19_method_20_code 83 = .ok (.lushr, 1) := by decide +kernel
theorem d_19_20_84 : decode prog_19_method_20_code 84 = .ok (.ldc2_w 57, 3) := by decide +kernel
theorem d_19_20_87 : decode prog_19_method_20_code 87 = .ok (.land, 1) := by decide +kernel
theorem d_19_20_88 : decode prog_19_method_20_code 88 = .ok (.l2i, 1) := by decide +kernel
theorem d_19_20_89 : decode prog_19_method_20_code 89 = .ok (.iastore, 1) := by decide +kernel
theorem d_19_20_90 : decode prog_19_method_20_code 90 = .ok (.iinc 6 1, 3) := by decide +kernel
theorem d_19_20_93 : decode prog_19_method_20_code 93 = .ok (.goto (-29), 3) := by decide +kernel
theorem d_19_20_96 : decode prog_19_method_20_code 96 = .ok (.aload_n 0, 1) := by decide +kernel
theorem d_19_20_97 : decode prog_19_method_20_code 97 = .ok (.iload_n 1, 1) := by decide +kernel
theorem d_19_20_98 : decode prog_19_method_20_code 98 = .ok (.invokevirtual 103, 3) := by decide +kernel
theorem d_19_20_101 : decode prog_19_method_20_code 101 = .ok (.return_, 1) := by decide +kernel
theorem d_19_20_38 : decode prog_19_method_20_code 38 = .ok (.iconst 1, 1) := by decide +kernel
theorem d_19_20_39 : decode prog_19_method_20_code 39 = .ok (.goto 4, 3) := by decide +kernel
theorem d_19_20_53 : decode prog_19_method_20_code 53 = .ok (.lload_n 2, 1) := by decide +kernel
theorem d_19_20_54 : decode prog_19_method_20_code 54 = .ok (.lneg, 1) := by decide +kernel
theorem d_19_20_55 : decode prog_19_method_20_code 55 = .ok (.goto 4, 3) := by decide +kernel
def y_WR_put : MethodName := ⟨"NumberHouseModel$WholeRows", "put", "(IJ)V"⟩
set_option maxRecDepth 100000 in
set_option maxHeartbeats 4000000 in
theorem c_WR_put (l : Launch) (D : va_G) (g : Nat → ClassId) (ws : va_W) (kO0 kA2 kA3 kA4 qO0 qA1 qA2 qA3 qA4 qA5 qA6 qA7 qA8 qA9 qA10 qA11 qA12 qA13 qA14 : Nat) (x1 : Int32) (x2 : Int64) (hO0 : ws[kO0]? = some (qO0, .inr (13, [.int 0, .int 0, .ref qA1, .int 0, .ref qA2, .ref qA3, .ref qA4, .int 0, .ref qA5, .ref qA6, .ref qA7, .ref qA8, .ref qA9, .ref qA10, .ref qA11, .ref qA12, .int 0, .int 0, .ref qA13, .ref qA14, .int 0]))) (hA2 : ws[kA2]? = some (qA2, .inl (g 0, 1408, .inl (fun _ => 0)))) (hA3 : ws[kA3]? = some (qA3, .inl (g 3, 11, .inl (fun _ => 0)))) (hA4 : ws[kA4]? = some (qA4, .inl (g 0, 264, .inl (fun _ => 0)))) (n_A2_A3 : kA2 ≠ kA3) (n_A2_A4 : kA2 ≠ kA4) (n_A3_A4 : kA3 ≠ kA4) (x1lo : 0 ≤ x1) (x1hi : x1 ≤ 9) : q_mV l y_WR_put prog_19_method_20_code 7 3 0 0 D g [.ref qO0, .int x1, .long x2] ws (fun u => (∃ (ex0 : Nat → Int32), 0 ≤ (lg_cmp x2 0) ∧ q_un ws u [kO0, kA2, kA3, kA4] ∧ u[kO0]? = some (qO0, .inr (13, [.int 0, .int 0, .ref qA1, .int 0, .ref qA2, .ref qA3, .ref qA4, .int 0, .ref qA5, .ref qA6, .ref qA7, .ref qA8, .ref qA9, .ref qA10, .ref qA11, .ref qA12, .int 0, .int 0, .ref qA13, .ref qA14, .int 0])) ∧ u[kA2]? = some (qA2, .inl (g 0, 1408, .inl ex0)) ∧ u[kA3]? = some (qA3, .inl (g 3, 11, .inl (fun _ => 0))) ∧ u[kA4]? = some (qA4, .inl (g 0, 264, .inl (upd (upd (upd (upd (fun _ => 0) 0 ((((x2.toUInt64 >>> ((0 : Int32).toInt64.toUInt64 &&& Int64.toUInt64 63)).toInt64) &&& 65535).toInt32)) 1 ((((x2.toUInt64 >>> ((16 : Int32).toInt64.toUInt64 &&& Int64.toUInt64 63)).toInt64) &&& 65535).toInt32)) 2 ((((x2.toUInt64 >>> ((32 : Int32).toInt64.toUInt64 &&& Int64.toUInt64 63)).toInt64) &&& 65535).toInt32)) 3 ((((x2.toUInt64 >>> ((48 : Int32).toInt64.toUInt64 &&& Int64.toUInt64 63)).toInt64) &&& 65535).toInt32))))) ∨ (0 ≤ (lg_cmp x2 0) ∧ q_un ws u [kO0, kA2, kA3, kA4] ∧ u[kO0]? = some (qO0, .inr (13, [.int 0, .int 0, .ref qA1, .int 0, .ref qA2, .ref qA3, .ref qA4, .int 0, .ref qA5, .ref qA6, .ref qA7, .ref qA8, .ref qA9, .ref qA10, .ref qA11, .ref qA12, .int 0, .int 0, .ref qA13, .ref qA14, .int 0])) ∧ u[kA2]? = some (qA2, .inl (g 0, 1408, .inl (fun _ => 0))) ∧ u[kA3]? = some (qA3, .inl (g 3, 11, .inl (fun _ => 0))) ∧ u[kA4]? = some (qA4, .inl (g 0, 264, .inl (upd (upd (upd (upd (fun _ => 0) 0 ((((x2.toUInt64 >>> ((0 : Int32).toInt64.toUInt64 &&& Int64.toUInt64 63)).toInt64) &&& 65535).toInt32)) 1 ((((x2.toUInt64 >>> ((16 : Int32).toInt64.toUInt64 &&& Int64.toUInt64 63)).toInt64) &&& 65535).toInt32)) 2 ((((x2.toUInt64 >>> ((32 : Int32).toInt64.toUInt64 &&& Int64.toUInt64 63)).toInt64) &&& 65535).toInt32)) 3 ((((x2.toUInt64 >>> ((48 : Int32).toInt64.toUInt64 &&& Int64.toUInt64 63)).toInt64) &&& 65535).toInt32))))) ∨ (∃ (ex0 : Nat → Int32), ¬ 0 ≤ (lg_cmp x2 0) ∧ q_un ws u [kO0, kA2, kA3, kA4] ∧ u[kO0]? = some (qO0, .inr (13, [.int 0, .int 0, .ref qA1, .int 0, .ref qA2, .ref qA3, .ref qA4, .int 1, .ref qA5, .ref qA6, .ref qA7, .ref qA8, .ref qA9, .ref qA10, .ref qA11, .ref qA12, .int 0, .int 0, .ref qA13, .ref qA14, .int 0])) ∧ u[kA2]? = some (qA2, .inl (g 0, 1408, .inl ex0)) ∧ u[kA3]? = some (qA3, .inl (g 3, 11, .inl (fun _ => 0))) ∧ u[kA4]? = some (qA4, .inl (g 0, 264, .inl (upd (upd (upd (upd (fun _ => 0) 0 (((((-x2).toUInt64 >>> ((0 : Int32).toInt64.toUInt64 &&& Int64.toUInt64 63)).toInt64) &&& 65535).toInt32)) 1 (((((-x2).toUInt64 >>> ((16 : Int32).toInt64.toUInt64 &&& Int64.toUInt64 63)).toInt64) &&& 65535).toInt32)) 2 (((((-x2).toUInt64 >>> ((32 : Int32).toInt64.toUInt64 &&& Int64.toUInt64 63)).toInt64) &&& 65535).toInt32)) 3 (((((-x2).toUInt64 >>> ((48 : Int32).toInt64.toUInt64 &&& Int64.toUInt64 63)).toInt64) &&& 65535).toInt32))))) ∨ (∃ (ex0 : Nat → Int32), ¬ 0 ≤ (lg_cmp x2 0) ∧ q_un ws u [kO0, kA2, kA3, kA4] ∧ u[kO0]? = some (qO0, .inr (13, [.int 0, .int 0, .ref qA1, .int 0, .ref qA2, .ref qA3, .ref qA4, .int 1, .ref qA5, .ref qA6, .ref qA7, .ref qA8, .ref qA9, .ref qA10, .ref qA11, .ref qA12, .int 0, .int 0, .ref qA13, .ref qA14, .int 0])) ∧ u[kA2]? = some (qA2, .inl (g 0, 1408, .inl ex0)) ∧ u[kA3]? = some (qA3, .inl (g 3, 11, .inl (upd (fun _ => 0) x1.toNatClampNeg (vp_nar .boolean 1)))) ∧ u[kA4]? = some (qA4, .inl (g 0, 264, .inl (upd (upd (upd (upd (fun _ => 0) 0 (((((-x2).toUInt64 >>> ((0 : Int32).toInt64.toUInt64 &&& Int64.toUInt64 63)).toInt64) &&& 65535).toInt32)) 1 (((((-x2).toUInt64 >>> ((16 : Int32).toInt64.toUInt64 &&& Int64.toUInt64 63)).toInt64) &&& 65535).toInt32)) 2 (((((-x2).toUInt64 >>> ((32 : Int32).toInt64.toUInt64 &&& Int64.toUInt64 63)).toInt64) &&& 65535).toInt32)) 3 (((((-x2).toUInt64 >>> ((48 : Int32).toInt64.toUInt64 &&& Int64.toUInt64 63)).toInt64) &&& 65535).toInt32))))) ∨ (¬ 0 ≤ (lg_cmp x2 0) ∧ q_un ws u [kO0, kA2, kA3, kA4] ∧ u[kO0]? = some (qO0, .inr (13, [.int 0, .int 0, .ref qA1, .int 0, .ref qA2, .ref qA3, .ref qA4, .int 1, .ref qA5, .ref qA6, .ref qA7, .ref qA8, .ref qA9, .ref qA10, .ref qA11, .ref qA12, .int 0, .int 0, .ref qA13, .ref qA14, .int 0])) ∧ u[kA2]? = some (qA2, .inl (g 0, 1408, .inl (fun _ => 0))) ∧ u[kA3]? = some (qA3, .inl (g 3, 11, .inl (fun _ => 0))) ∧ u[kA4]? = some (qA4, .inl (g 0, 264, .inl (upd (upd (upd (upd (fun _ => 0) 0 (((((-x2).toUInt64 >>> ((0 : Int32).toInt64.toUInt64 &&& Int64.toUInt64 63)).toInt64) &&& 65535).toInt32)) 1 (((((-x2).toUInt64 >>> ((16 : Int32).toInt64.toUInt64 &&& Int64.toUInt64 63)).toInt64) &&& 65535).toInt32)) 2 (((((-x2).toUInt64 >>> ((32 : Int32).toInt64.toUInt64 &&& Int64.toUInt64 63)).toInt64) &&& 65535).toInt32)) 3 (((((-x2).toUInt64 >>> ((48 : Int32).toInt64.toUInt64 &&& Int64.toUInt64 63)).toInt64) &&& 65535).toInt32)))))) := by
  intro sz
  refine q_into (by decide) (Nat.le_of_ble_eq_true rfl) ?_
  intro p e s m below meth c ls hsz C0 V hl
  have hx := C0.1
  have hb := C0.2.1
  have hl : lv_has ls 7 [(0, .ref qO0), (1, .int x1), (2, .long x2)] := hl
  have n_A2_O0 := q_df hA2 hO0
  have n_A3_O0 := q_df hA3 hO0
  have n_A4_A2 := Ne.symm n_A2_A4
  have n_A4_A3 := Ne.symm n_A3_A4
  have n_A4_O0 := q_df hA4 hO0
  have n_O0_A4 := Ne.symm (q_df hA4 hO0)
  have hF : q_un ws ws [kO0, kA2, kA3, kA4] := q_u0
  refine lv_aload_n hx hb d_19_20_0 rfl (lv_at hl 0 rfl) ?_
  refine lv_iload_n hx hb d_19_20_1 rfl (lv_at hl 1 rfl) ?_
  refine q_goi V (q_runS (As := [.int x1]) (rest := [.ref qO0]) (d := 1) (mc := 0) (ms := 0) C0 V rfl LS_WR_91 (c_WR_no l D g ws x1 x1lo x1hi _) rfl hl.1 rfl (Nat.le_of_ble_eq_true rfl) ⟨by decide, by decide⟩ ⟨Nat.le_of_ble_eq_true rfl, Nat.le_of_ble_eq_true rfl⟩ d_19_20_2) (fun v3 u2 H locs hp1 V => ?_)
  obtain ⟨rfl, rfl⟩ := hp1
  refine lv_if_eq (tgt := 12) hx hb d_19_20_5 (by decide) (fun c5 => ?_) (fun c5 => absurd (by decide) c5)
  refine lv_iconst (v := 0) hx hb d_19_20_12 (by decide) ?_
  refine q_put (ci := 13) (j := 0) (v := .int 0) (ty := .int) C0 V i_WR o_WR n_WR rfl rfl hO0 (by decide) w_1921 rfl rfl rfl rfl (Nat.le_of_ble_eq_true rfl) d_19_20_13 (fun H locs w6 hu7 hO0 V => ?_)
  replace hO0 : w6[kO0]? = some (qO0, .inr (13, [.int 0, .int 0, .ref qA1, .int 0, .ref qA2, .ref qA3, .ref qA4, .int 0, .ref qA5, .ref qA6, .ref qA7, .ref qA8, .ref qA9, .ref qA10, .ref qA11, .ref qA12, .int 0, .int 0, .ref qA13, .ref qA14, .int 0])) := hO0
  replace hF := q_us hF hu7 (.head _)
  refine lv_aload_n hx hb d_19_20_16 rfl (lv_at hl 0 rfl) ?_
  refine q_get (ci := 13) (j := 0) (v := .int 0) C0 V i_WR rfl rfl hO0 (by decide) w_1921 rfl d_19_20_17 ?_
  refine lv_if_le (tgt := 24) hx hb d_19_20_20 (by decide) (fun c8 => ?_) (fun c8 => absurd (by decide) c8)
  refine lv_aload_n hx hb d_19_20_24 rfl (lv_at hl 0 rfl) ?_
  refine q_get (ci := 13) (j := 6) (v := .ref qA4) C0 V i_WR rfl rfl hO0 (by decide) w_1930 rfl d_19_20_25 ?_
  replace hA4 := (hu7 _ n_A4_O0).trans (hA4)
  refine q_gov V (q_runS (As := [.ref qA4]) (rest := []) (d := 1) (mc := 0) (ms := 0) C0 V rfl LS_WR_63 (c_WR_clear_2 l D g w6 kA4 qA4 hA4 _) rfl hl.1 rfl (Nat.le_of_ble_eq_true rfl) ⟨by decide, by decide⟩ ⟨Nat.le_of_ble_eq_true rfl, Nat.le_of_ble_eq_true rfl⟩ d_19_20_28) (fun u10 H locs hp9 V => ?_)
  obtain ⟨hg11, hA4⟩ := hp9
  replace hF := q_uc hF hg11 (q_sc (List.mem_of_getElem? (i := 3) rfl) (fun _ h => absurd h List.not_mem_nil))
  refine lv_aload_n hx hb d_19_20_31 rfl (lv_at hl 0 rfl) ?_
  refine lv_lload_n hx hb d_19_20_32 rfl (lv_at hl 2 rfl) ?_
  refine lv_lconst (v := 0) hx hb d_19_20_33 (by decide) ?_
  refine W.lcmp hx hb d_19_20_34 ?_
  refine lv_if_ge (tgt := 42) hx hb d_19_20_35 (by decide) (fun c12 => ?_) (fun c12 => ?_)
  ·
    refine lv_iconst (v := 0) hx hb d_19_20_42 (by decide) ?_
    replace hO0 := (hg11 _ (q_nc n_O0_A4 List.not_mem_nil)).trans (hO0)
    refine q_put (ci := 13) (j := 7) (v := .int 0) (ty := .boolean) C0 V i_WR o_WR n_WR rfl rfl hO0 (by decide) w_1931 rfl rfl rfl rfl (Nat.le_of_ble_eq_true rfl) d_19_20_43 (fun H locs w13 hu14 hO0 V => ?_)
    replace hO0 : w13[kO0]? = some (qO0, .inr (13, [.int 0, .int 0, .ref qA1, .int 0, .ref qA2, .ref qA3, .ref qA4, .int 0, .ref qA5, .ref qA6, .ref qA7, .ref qA8, .ref qA9, .ref qA10, .ref qA11, .ref qA12, .int 0, .int 0, .ref qA13, .ref qA14, .int 0])) := hO0
    replace hF := q_us hF hu14 (.head _)
    refine lv_aload_n hx hb d_19_20_46 rfl (lv_at hl 0 rfl) ?_
    refine q_get (ci := 13) (j := 7) (v := .int 0) C0 V i_WR rfl rfl hO0 (by decide) w_1931 rfl d_19_20_47 ?_
    refine lv_if_eq (tgt := 58) hx hb d_19_20_50 (by decide) (fun c15 => ?_) (fun c15 => absurd (by decide) c15)
    refine lv_lload_n hx hb d_19_20_58 rfl (lv_at hl 2 rfl) ?_
    refine lv_lstore (lv' := [(4, .long x2), (0, .ref qO0), (1, .int x1), (2, .long x2)]) hx hb d_19_20_59 hl (by decide) rfl (fun ls hl => ?_)
    refine lv_iconst (v := 0) hx hb d_19_20_61 (by decide) ?_
    refine lv_istore (lv' := [(6, .int 0), (4, .long x2), (0, .ref qO0), (1, .int x1), (2, .long x2)]) hx hb d_19_20_62 hl (by decide) rfl (fun ls hl => ?_)
    refine lv_iload hx hb d_19_20_64 (lv_at hl 0 rfl) ?_
    refine lv_iconst (v := 4) hx hb d_19_20_66 (by decide) ?_
    refine lv_icmp_ge (tgt := 96) hx hb d_19_20_67 (by decide) (fun c16 => absurd c16 (by decide)) (fun c16 => ?_)
    refine lv_aload_n hx hb d_19_20_70 rfl (lv_at hl 2 rfl) ?_
    refine q_get (ci := 13) (j := 6) (v := .ref qA4) C0 V i_WR rfl rfl hO0 (by decide) w_1930 rfl d_19_20_71 ?_
    refine lv_iload hx hb d_19_20_74 (lv_at hl 0 rfl) ?_
    refine lv_lload hx hb d_19_20_76 (lv_at hl 1 rfl) ?_
    refine lv_bipush (v := 16) hx hb d_19_20_78 (by decide) ?_
    refine lv_iload hx hb d_19_20_80 (lv_at hl 0 rfl) ?_
    refine lv_imul hx hb d_19_20_82 ?_
    refine q_ti (v := 0) (by decide) ?_
    refine lv_lushr hx hb d_19_20_83 rfl ?_
    refine q_ldc2 C0 rfl w_2384 d_19_20_84 ?_
    refine lv_land hx hb d_19_20_87 ?_
    refine lv_l2i hx hb d_19_20_88 rfl ?_
    replace hA4 := (hu14 _ n_A4_O0).trans (hA4)
    refine q_iast C0 V hA4 (by unfold vp_in; decide) d_19_20_89 (fun H locs w17 hu18 hA4 V => ?_)
    replace hA4 : w17[kA4]? = some (qA4, .inl (g 0, 264, .inl (upd (fun _ => 0) 0 ((((x2.toUInt64 >>> ((0 : Int32).toInt64.toUInt64 &&& Int64.toUInt64 63)).toInt64) &&& 65535).toInt32)))) := hA4
    replace hF := q_us hF hu18 (List.mem_of_getElem? (i := 3) rfl)
    refine lv_iinc (v := 1) (lv' := [(6, .int 1), (4, .long x2), (0, .ref qO0), (1, .int x1), (2, .long x2)]) hx hb d_19_20_90 hl (k := 0) rfl (by decide) (by decide) rfl (fun ls hl => ?_)
    refine lv_goto (tgt := 64) hx hb d_19_20_93 (by decide) ?_
    refine lv_iload hx hb d_19_20_64 (lv_at hl 0 rfl) ?_
    refine lv_iconst (v := 4) hx hb d_19_20_66 (by decide) ?_
    refine lv_icmp_ge (tgt := 96) hx hb d_19_20_67 (by decide) (fun c19 => absurd c19 (by decide)) (fun c19 => ?_)
    refine lv_aload_n hx hb d_19_20_70 rfl (lv_at hl 2 rfl) ?_
    replace hO0 := (hu18 _ n_O0_A4).trans (hO0)
    refine q_get (ci := 13) (j := 6) (v := .ref qA4) C0 V i_WR rfl rfl hO0 (by decide) w_1930 rfl d_19_20_71 ?_
    refine lv_iload hx hb d_19_20_74 (lv_at hl 0 rfl) ?_
    refine lv_lload hx hb d_19_20_76 (lv_at hl 1 rfl) ?_
    refine lv_bipush (v := 16) hx hb d_19_20_78 (by decide) ?_
    refine lv_iload hx hb d_19_20_80 (lv_at hl 0 rfl) ?_
    refine lv_imul hx hb d_19_20_82 ?_
    refine q_ti (v := 16) (by decide) ?_
    refine lv_lushr hx hb d_19_20_83 rfl ?_
    refine q_ldc2 C0 rfl w_2384 d_19_20_84 ?_
    refine lv_land hx hb d_19_20_87 ?_
    refine lv_l2i hx hb d_19_20_88 rfl ?_
    refine q_iast C0 V hA4 (by unfold vp_in; decide) d_19_20_89 (fun H locs w20 hu21 hA4 V => ?_)
    replace hA4 : w20[kA4]? = some (qA4, .inl (g 0, 264, .inl (upd (upd (fun _ => 0) 0 ((((x2.toUInt64 >>> ((0 : Int32).toInt64.toUInt64 &&& Int64.toUInt64 63)).toInt64) &&& 65535).toInt32)) 1 ((((x2.toUInt64 >>> ((16 : Int32).toInt64.toUInt64 &&& Int64.toUInt64 63)).toInt64) &&& 65535).toInt32)))) := hA4
    replace hF := q_us hF hu21 (List.mem_of_getElem? (i := 3) rfl)
    refine lv_iinc (v := 2) (lv' := [(6, .int 2), (4, .long x2), (0, .ref qO0), (1, .int x1), (2, .long x2)]) hx hb d_19_20_90 hl (k := 0) rfl (by decide) (by decide) rfl (fun ls hl => ?_)
    refine lv_goto (tgt := 64) hx hb d_19_20_93 (by decide) ?_
    refine lv_iload hx hb d_19_20_64 (lv_at hl 0 rfl) ?_
    refine lv_iconst (v := 4) hx hb d_19_20_66 (by decide) ?_
    refine lv_icmp_ge (tgt := 96) hx hb d_19_20_67 (by decide) (fun c22 => absurd c22 (by decide)) (fun c22 => ?_)
    refine lv_aload_n hx hb d_19_20_70 rfl (lv_at hl 2 rfl) ?_
    replace hO0 := (hu21 _ n_O0_A4).trans (hO0)
    refine q_get (ci := 13) (j := 6) (v := .ref qA4) C0 V i_WR rfl rfl hO0 (by decide) w_1930 rfl d_19_20_71 ?_
    refine lv_iload hx hb d_19_20_74 (lv_at hl 0 rfl) ?_
    refine lv_lload hx hb d_19_20_76 (lv_at hl 1 rfl) ?_
    refine lv_bipush (v := 16) hx hb d_19_20_78 (by decide) ?_
    refine lv_iload hx hb d_19_20_80 (lv_at hl 0 rfl) ?_
    refine lv_imul hx hb d_19_20_82 ?_
    refine q_ti (v := 32) (by decide) ?_
    refine lv_lushr hx hb d_19_20_83 rfl ?_
    refine q_ldc2 C0 rfl w_2384 d_19_20_84 ?_
    refine lv_land hx hb d_19_20_87 ?_
    refine lv_l2i hx hb d_19_20_88 rfl ?_
    refine q_iast C0 V hA4 (by unfold vp_in; decide) d_19_20_89 (fun H locs w23 hu24 hA4 V => ?_)
    replace hA4 : w23[kA4]? = some (qA4, .inl (g 0, 264, .inl (upd (upd (upd (fun _ => 0) 0 ((((x2.toUInt64 >>> ((0 : Int32).toInt64.toUInt64 &&& Int64.toUInt64 63)).toInt64) &&& 65535).toInt32)) 1 ((((x2.toUInt64 >>> ((16 : Int32).toInt64.toUInt64 &&& Int64.toUInt64 63)).toInt64) &&& 65535).toInt32)) 2 ((((x2.toUInt64 >>> ((32 : Int32).toInt64.toUInt64 &&& Int64.toUInt64 63)).toInt64) &&& 65535).toInt32)))) := hA4
    replace hF := q_us hF hu24 (List.mem_of_getElem? (i := 3) rfl)
    refine lv_iinc (v := 3) (lv' := [(6, .int 3), (4, .long x2), (0, .ref qO0), (1, .int x1), (2, .long x2)]) hx hb d_19_20_90 hl (k := 0) rfl (by decide) (by decide) rfl (fun ls hl => ?_)
    refine lv_goto (tgt := 64) hx hb d_19_20_93 (by decide) ?_
    refine lv_iload hx hb d_19_20_64 (lv_at hl 0 rfl) ?_
    refine lv_iconst (v := 4) hx hb d_19_20_66 (by decide) ?_
    refine lv_icmp_ge (tgt := 96) hx hb d_19_20_67 (by decide) (fun c25 => absurd c25 (by decide)) (fun c25 => ?_)
    refine lv_aload_n hx hb d_19_20_70 rfl (lv_at hl 2 rfl) ?_
    replace hO0 := (hu24 _ n_O0_A4).trans (hO0)
    refine q_get (ci := 13) (j := 6) (v := .ref qA4) C0 V i_WR rfl rfl hO0 (by decide) w_1930 rfl d_19_20_71 ?_
    refine lv_iload hx hb d_19_20_74 (lv_at hl 0 rfl) ?_
    refine lv_lload hx hb d_19_20_76 (lv_at hl 1 rfl) ?_
    refine lv_bipush (v := 16) hx hb d_19_20_78 (by decide) ?_
    refine lv_iload hx hb d_19_20_80 (lv_at hl 0 rfl) ?_
    refine lv_imul hx hb d_19_20_82 ?_
    refine q_ti (v := 48) (by decide) ?_
    refine lv_lushr hx hb d_19_20_83 rfl ?_
    refine q_ldc2 C0 rfl w_2384 d_19_20_84 ?_
    refine lv_land hx hb d_19_20_87 ?_
    refine lv_l2i hx hb d_19_20_88 rfl ?_
    refine q_iast C0 V hA4 (by unfold vp_in; decide) d_19_20_89 (fun H locs w26 hu27 hA4 V => ?_)
    replace hA4 : w26[kA4]? = some (qA4, .inl (g 0, 264, .inl (upd (upd (upd (upd (fun _ => 0) 0 ((((x2.toUInt64 >>> ((0 : Int32).toInt64.toUInt64 &&& Int64.toUInt64 63)).toInt64) &&& 65535).toInt32)) 1 ((((x2.toUInt64 >>> ((16 : Int32).toInt64.toUInt64 &&& Int64.toUInt64 63)).toInt64) &&& 65535).toInt32)) 2 ((((x2.toUInt64 >>> ((32 : Int32).toInt64.toUInt64 &&& Int64.toUInt64 63)).toInt64) &&& 65535).toInt32)) 3 ((((x2.toUInt64 >>> ((48 : Int32).toInt64.toUInt64 &&& Int64.toUInt64 63)).toInt64) &&& 65535).toInt32)))) := hA4
    replace hF := q_us hF hu27 (List.mem_of_getElem? (i := 3) rfl)
    refine lv_iinc (v := 4) (lv' := [(6, .int 4), (4, .long x2), (0, .ref qO0), (1, .int x1), (2, .long x2)]) hx hb d_19_20_90 hl (k := 0) rfl (by decide) (by decide) rfl (fun ls hl => ?_)
    refine lv_goto (tgt := 64) hx hb d_19_20_93 (by decide) ?_
    refine lv_iload hx hb d_19_20_64 (lv_at hl 0 rfl) ?_
    refine lv_iconst (v := 4) hx hb d_19_20_66 (by decide) ?_
    refine lv_icmp_ge (tgt := 96) hx hb d_19_20_67 (by decide) (fun c28 => ?_) (fun c28 => absurd (by decide) c28)
    refine lv_aload_n hx hb d_19_20_96 rfl (lv_at hl 2 rfl) ?_
    refine lv_iload_n hx hb d_19_20_97 rfl (lv_at hl 3 rfl) ?_
    replace hO0 := (hu27 _ n_O0_A4).trans (hO0)
    replace hA2 := (hu27 _ n_A2_A4).trans ((hu24 _ n_A2_A4).trans ((hu21 _ n_A2_A4).trans ((hu18 _ n_A2_A4).trans ((hu14 _ n_A2_O0).trans ((hg11 _ (q_nc n_A2_A4 List.not_mem_nil)).trans ((hu7 _ n_A2_O0).trans (hA2)))))))
    replace hA3 := (hu27 _ n_A3_A4).trans ((hu24 _ n_A3_A4).trans ((hu21 _ n_A3_A4).trans ((hu18 _ n_A3_A4).trans ((hu14 _ n_A3_O0).trans ((hg11 _ (q_nc n_A3_A4 List.not_mem_nil)).trans ((hu7 _ n_A3_O0).trans (hA3)))))))
    refine q_gov V (q_runV (As := [.int x1]) (rest := []) (d := 2) (mc := 0) (ms := 0) (ci := 13) C0 V rfl LV_WR_103 (c_WR_store_5 l D g w26 kO0 kA2 kA3 kA4 qO0 qA1 qA2 qA3 qA4 qA5 qA6 qA7 qA8 qA9 qA10 qA11 qA12 qA13 qA14 x1 ((((x2.toUInt64 >>> ((0 : Int32).toInt64.toUInt64 &&& Int64.toUInt64 63)).toInt64) &&& 65535).toInt32) ((((x2.toUInt64 >>> ((16 : Int32).toInt64.toUInt64 &&& Int64.toUInt64 63)).toInt64) &&& 65535).toInt32) ((((x2.toUInt64 >>> ((32 : Int32).toInt64.toUInt64 &&& Int64.toUInt64 63)).toInt64) &&& 65535).toInt32) ((((x2.toUInt64 >>> ((48 : Int32).toInt64.toUInt64 &&& Int64.toUInt64 63)).toInt64) &&& 65535).toInt32) hO0 hA2 hA3 hA4 n_A2_A3 n_A4_A2 n_A4_A3 x1lo x1hi _) rfl rfl hO0 rfl hl.1 rfl (Nat.le_of_ble_eq_true rfl) ⟨by decide, by decide⟩ ⟨Nat.le_of_ble_eq_true rfl, Nat.le_of_ble_eq_true rfl⟩ d_19_20_98) (fun u30 H locs hp29 V => ?_)
    rcases hp29 with ⟨y31, hg32, hO0, hA2, hA3⟩ | ⟨hg33, hO0, hA2, hA3⟩
    ·
      replace hF := q_uc hF hg32 (q_sc (.head _) (q_sc (.tail _ (.head _)) (q_sc (.tail _ (.tail _ (.head _))) (fun _ h => absurd h List.not_mem_nil))))
      replace hA4 := (hg32 _ (q_nc n_A4_O0 (q_nc n_A4_A2 (q_nc n_A4_A3 List.not_mem_nil)))).trans (hA4)
      exact q_retv C0 V (Or.inl ⟨y31, c12, hF, hO0, hA2, hA3, hA4⟩) d_19_20_101
    ·
      replace hF := q_uc hF hg33 (q_sc (.head _) (q_sc (.tail _ (.head _)) (q_sc (.tail _ (.tail _ (.head _))) (fun _ h => absurd h List.not_mem_nil))))
      replace hA4 := (hg33 _ (q_nc n_A4_O0 (q_nc n_A4_A2 (q_nc n_A4_A3 List.not_mem_nil)))).trans (hA4)
      exact q_retv C0 V (Or.inr (Or.inl ⟨c12, hF, hO0, hA2, hA3, hA4⟩)) d_19_20_101
  ·
    refine lv_iconst (v := 1) hx hb d_19_20_38 (by decide) ?_
    refine lv_goto (tgt := 43) hx hb d_19_20_39 (by decide) ?_
    replace hO0 := (hg11 _ (q_nc n_O0_A4 List.not_mem_nil)).trans (hO0)
    refine q_put (ci := 13) (j := 7) (v := .int 1) (ty := .boolean) C0 V i_WR o_WR n_WR rfl rfl hO0 (by decide) w_1931 rfl rfl rfl rfl (Nat.le_of_ble_eq_true rfl) d_19_20_43 (fun H locs w34 hu35 hO0 V => ?_)
    replace hO0 : w34[kO0]? = some (qO0, .inr (13, [.int 0, .int 0, .ref qA1, .int 0, .ref qA2, .ref qA3, .ref qA4, .int 1, .ref qA5, .ref qA6, .ref qA7, .ref qA8, .ref qA9, .ref qA10, .ref qA11, .ref qA12, .int 0, .int 0, .ref qA13, .ref qA14, .int 0])) := hO0
    replace hF := q_us hF hu35 (.head _)
    refine lv_aload_n hx hb d_19_20_46 rfl (lv_at hl 0 rfl) ?_
    refine q_get (ci := 13) (j := 7) (v := .int 1) C0 V i_WR rfl rfl hO0 (by decide) w_1931 rfl d_19_20_47 ?_
    refine lv_if_eq (tgt := 58) hx hb d_19_20_50 (by decide) (fun c36 => absurd c36 (by decide)) (fun c36 => ?_)
    refine lv_lload_n hx hb d_19_20_53 rfl (lv_at hl 2 rfl) ?_
    refine lv_lneg hx hb d_19_20_54 ?_
    refine lv_goto (tgt := 59) hx hb d_19_20_55 (by decide) ?_
    refine lv_lstore (lv' := [(4, .long (-x2)), (0, .ref qO0), (1, .int x1), (2, .long x2)]) hx hb d_19_20_59 hl (by decide) rfl (fun ls hl => ?_)
    refine lv_iconst (v := 0) hx hb d_19_20_61 (by decide) ?_
    refine lv_istore (lv' := [(6, .int 0), (4, .long (-x2)), (0, .ref qO0), (1, .int x1), (2, .long x2)]) hx hb d_19_20_62 hl (by decide) rfl (fun ls hl => ?_)
    refine lv_iload hx hb d_19_20_64 (lv_at hl 0 rfl) ?_
    refine lv_iconst (v := 4) hx hb d_19_20_66 (by decide) ?_
    refine lv_icmp_ge (tgt := 96) hx hb d_19_20_67 (by decide) (fun c37 => absurd c37 (by decide)) (fun c37 => ?_)
    refine lv_aload_n hx hb d_19_20_70 rfl (lv_at hl 2 rfl) ?_
    refine q_get (ci := 13) (j := 6) (v := .ref qA4) C0 V i_WR rfl rfl hO0 (by decide) w_1930 rfl d_19_20_71 ?_
    refine lv_iload hx hb d_19_20_74 (lv_at hl 0 rfl) ?_
    refine lv_lload hx hb d_19_20_76 (lv_at hl 1 rfl) ?_
    refine lv_bipush (v := 16) hx hb d_19_20_78 (by decide) ?_
    refine lv_iload hx hb d_19_20_80 (lv_at hl 0 rfl) ?_
    refine lv_imul hx hb d_19_20_82 ?_
    refine q_ti (v := 0) (by decide) ?_
    refine lv_lushr hx hb d_19_20_83 rfl ?_
    refine q_ldc2 C0 rfl w_2384 d_19_20_84 ?_
    refine lv_land hx hb d_19_20_87 ?_
    refine lv_l2i hx hb d_19_20_88 rfl ?_
    replace hA4 := (hu35 _ n_A4_O0).trans (hA4)
    refine q_iast C0 V hA4 (by unfold vp_in; decide) d_19_20_89 (fun H locs w38 hu39 hA4 V => ?_)
    replace hA4 : w38[kA4]? = some (qA4, .inl (g 0, 264, .inl (upd (fun _ => 0) 0 (((((-x2).toUInt64 >>> ((0 : Int32).toInt64.toUInt64 &&& Int64.toUInt64 63)).toInt64) &&& 65535).toInt32)))) := hA4
    replace hF := q_us hF hu39 (List.mem_of_getElem? (i := 3) rfl)
    refine lv_iinc (v := 1) (lv' := [(6, .int 1), (4, .long (-x2)), (0, .ref qO0), (1, .int x1), (2, .long x2)]) hx hb d_19_20_90 hl (k := 0) rfl (by decide) (by decide) rfl (fun ls hl => ?_)
    refine lv_goto (tgt := 64) hx hb d_19_20_93 (by decide) ?_
    refine lv_iload hx hb d_19_20_64 (lv_at hl 0 rfl) ?_
    refine lv_iconst (v := 4) hx hb d_19_20_66 (by decide) ?_
    refine lv_icmp_ge (tgt := 96) hx hb d_19_20_67 (by decide) (fun c40 => absurd c40 (by decide)) (fun c40 => ?_)
    refine lv_aload_n hx hb d_19_20_70 rfl (lv_at hl 2 rfl) ?_
    replace hO0 := (hu39 _ n_O0_A4).trans (hO0)
    refine q_get (ci := 13) (j := 6) (v := .ref qA4) C0 V i_WR rfl rfl hO0 (by decide) w_1930 rfl d_19_20_71 ?_
    refine lv_iload hx hb d_19_20_74 (lv_at hl 0 rfl) ?_
    refine lv_lload hx hb d_19_20_76 (lv_at hl 1 rfl) ?_
    refine lv_bipush (v := 16) hx hb d_19_20_78 (by decide) ?_
    refine lv_iload hx hb d_19_20_80 (lv_at hl 0 rfl) ?_
    refine lv_imul hx hb d_19_20_82 ?_
    refine q_ti (v := 16) (by decide) ?_
    refine lv_lushr hx hb d_19_20_83 rfl ?_
    refine q_ldc2 C0 rfl w_2384 d_19_20_84 ?_
    refine lv_land hx hb d_19_20_87 ?_
    refine lv_l2i hx hb d_19_20_88 rfl ?_
    refine q_iast C0 V hA4 (by unfold vp_in; decide) d_19_20_89 (fun H locs w41 hu42 hA4 V => ?_)
    replace hA4 : w41[kA4]? = some (qA4, .inl (g 0, 264, .inl (upd (upd (fun _ => 0) 0 (((((-x2).toUInt64 >>> ((0 : Int32).toInt64.toUInt64 &&& Int64.toUInt64 63)).toInt64) &&& 65535).toInt32)) 1 (((((-x2).toUInt64 >>> ((16 : Int32).toInt64.toUInt64 &&& Int64.toUInt64 63)).toInt64) &&& 65535).toInt32)))) := hA4
    replace hF := q_us hF hu42 (List.mem_of_getElem? (i := 3) rfl)
    refine lv_iinc (v := 2) (lv' := [(6, .int 2), (4, .long (-x2)), (0, .ref qO0), (1, .int x1), (2, .long x2)]) hx hb d_19_20_90 hl (k := 0) rfl (by decide) (by decide) rfl (fun ls hl => ?_)
    refine lv_goto (tgt := 64) hx hb d_19_20_93 (by decide) ?_
    refine lv_iload hx hb d_19_20_64 (lv_at hl 0 rfl) ?_
    refine lv_iconst (v := 4) hx hb d_19_20_66 (by decide) ?_
    refine lv_icmp_ge (tgt := 96) hx hb d_19_20_67 (by decide) (fun c43 => absurd c43 (by decide)) (fun c43 => ?_)
    refine lv_aload_n hx hb d_19_20_70 rfl (lv_at hl 2 rfl) ?_
    replace hO0 := (hu42 _ n_O0_A4).trans (hO0)
    refine q_get (ci := 13) (j := 6) (v := .ref qA4) C0 V i_WR rfl rfl hO0 (by decide) w_1930 rfl d_19_20_71 ?_
    refine lv_iload hx hb d_19_20_74 (lv_at hl 0 rfl) ?_
    refine lv_lload hx hb d_19_20_76 (lv_at hl 1 rfl) ?_
    refine lv_bipush (v := 16) hx hb d_19_20_78 (by decide) ?_
    refine lv_iload hx hb d_19_20_80 (lv_at hl 0 rfl) ?_
    refine lv_imul hx hb d_19_20_82 ?_
    refine q_ti (v := 32) (by decide) ?_
    refine lv_lushr hx hb d_19_20_83 rfl ?_
    refine q_ldc2 C0 rfl w_2384 d_19_20_84 ?_
    refine lv_land hx hb d_19_20_87 ?_
    refine lv_l2i hx hb d_19_20_88 rfl ?_
    refine q_iast C0 V hA4 (by unfold vp_in; decide) d_19_20_89 (fun H locs w44 hu45 hA4 V => ?_)
    replace hA4 : w44[kA4]? = some (qA4, .inl (g 0, 264, .inl (upd (upd (upd (fun _ => 0) 0 (((((-x2).toUInt64 >>> ((0 : Int32).toInt64.toUInt64 &&& Int64.toUInt64 63)).toInt64) &&& 65535).toInt32)) 1 (((((-x2).toUInt64 >>> ((16 : Int32).toInt64.toUInt64 &&& Int64.toUInt64 63)).toInt64) &&& 65535).toInt32)) 2 (((((-x2).toUInt64 >>> ((32 : Int32).toInt64.toUInt64 &&& Int64.toUInt64 63)).toInt64) &&& 65535).toInt32)))) := hA4
    replace hF := q_us hF hu45 (List.mem_of_getElem? (i := 3) rfl)
    refine lv_iinc (v := 3) (lv' := [(6, .int 3), (4, .long (-x2)), (0, .ref qO0), (1, .int x1), (2, .long x2)]) hx hb d_19_20_90 hl (k := 0) rfl (by decide) (by decide) rfl (fun ls hl => ?_)
    refine lv_goto (tgt := 64) hx hb d_19_20_93 (by decide) ?_
    refine lv_iload hx hb d_19_20_64 (lv_at hl 0 rfl) ?_
    refine lv_iconst (v := 4) hx hb d_19_20_66 (by decide) ?_
    refine lv_icmp_ge (tgt := 96) hx hb d_19_20_67 (by decide) (fun c46 => absurd c46 (by decide)) (fun c46 => ?_)
    refine lv_aload_n hx hb d_19_20_70 rfl (lv_at hl 2 rfl) ?_
    replace hO0 := (hu45 _ n_O0_A4).trans (hO0)
    refine q_get (ci := 13) (j := 6) (v := .ref qA4) C0 V i_WR rfl rfl hO0 (by decide) w_1930 rfl d_19_20_71 ?_
    refine lv_iload hx hb d_19_20_74 (lv_at hl 0 rfl) ?_
    refine lv_lload hx hb d_19_20_76 (lv_at hl 1 rfl) ?_
    refine lv_bipush (v := 16) hx hb d_19_20_78 (by decide) ?_
    refine lv_iload hx hb d_19_20_80 (lv_at hl 0 rfl) ?_
    refine lv_imul hx hb d_19_20_82 ?_
    refine q_ti (v := 48) (by decide) ?_
    refine lv_lushr hx hb d_19_20_83 rfl ?_
    refine q_ldc2 C0 rfl w_2384 d_19_20_84 ?_
    refine lv_land hx hb d_19_20_87 ?_
    refine lv_l2i hx hb d_19_20_88 rfl ?_
    refine q_iast C0 V hA4 (by unfold vp_in; decide) d_19_20_89 (fun H locs w47 hu48 hA4 V => ?_)
    replace hA4 : w47[kA4]? = some (qA4, .inl (g 0, 264, .inl (upd (upd (upd (upd (fun _ => 0) 0 (((((-x2).toUInt64 >>> ((0 : Int32).toInt64.toUInt64 &&& Int64.toUInt64 63)).toInt64) &&& 65535).toInt32)) 1 (((((-x2).toUInt64 >>> ((16 : Int32).toInt64.toUInt64 &&& Int64.toUInt64 63)).toInt64) &&& 65535).toInt32)) 2 (((((-x2).toUInt64 >>> ((32 : Int32).toInt64.toUInt64 &&& Int64.toUInt64 63)).toInt64) &&& 65535).toInt32)) 3 (((((-x2).toUInt64 >>> ((48 : Int32).toInt64.toUInt64 &&& Int64.toUInt64 63)).toInt64) &&& 65535).toInt32)))) := hA4
    replace hF := q_us hF hu48 (List.mem_of_getElem? (i := 3) rfl)
    refine lv_iinc (v := 4) (lv' := [(6, .int 4), (4, .long (-x2)), (0, .ref qO0), (1, .int x1), (2, .long x2)]) hx hb d_19_20_90 hl (k := 0) rfl (by decide) (by decide) rfl (fun ls hl => ?_)
    refine lv_goto (tgt := 64) hx hb d_19_20_93 (by decide) ?_
    refine lv_iload hx hb d_19_20_64 (lv_at hl 0 rfl) ?_
    refine lv_iconst (v := 4) hx hb d_19_20_66 (by decide) ?_
    refine lv_icmp_ge (tgt := 96) hx hb d_19_20_67 (by decide) (fun c49 => ?_) (fun c49 => absurd (by decide) c49)
    refine lv_aload_n hx hb d_19_20_96 rfl (lv_at hl 2 rfl) ?_
    refine lv_iload_n hx hb d_19_20_97 rfl (lv_at hl 3 rfl) ?_
    replace hO0 := (hu48 _ n_O0_A4).trans (hO0)
    replace hA2 := (hu48 _ n_A2_A4).trans ((hu45 _ n_A2_A4).trans ((hu42 _ n_A2_A4).trans ((hu39 _ n_A2_A4).trans ((hu35 _ n_A2_O0).trans ((hg11 _ (q_nc n_A2_A4 List.not_mem_nil)).trans ((hu7 _ n_A2_O0).trans (hA2)))))))
    replace hA3 := (hu48 _ n_A3_A4).trans ((hu45 _ n_A3_A4).trans ((hu42 _ n_A3_A4).trans ((hu39 _ n_A3_A4).trans ((hu35 _ n_A3_O0).trans ((hg11 _ (q_nc n_A3_A4 List.not_mem_nil)).trans ((hu7 _ n_A3_O0).trans (hA3)))))))
    refine q_gov V (q_runV (As := [.int x1]) (rest := []) (d := 2) (mc := 0) (ms := 0) (ci := 13) C0 V rfl LV_WR_103 (c_WR_store_6 l D g w47 kO0 kA2 kA3 kA4 qO0 qA1 qA2 qA3 qA4 qA5 qA6 qA7 qA8 qA9 qA10 qA11 qA12 qA13 qA14 x1 (((((-x2).toUInt64 >>> ((0 : Int32).toInt64.toUInt64 &&& Int64.toUInt64 63)).toInt64) &&& 65535).toInt32) (((((-x2).toUInt64 >>> ((16 : Int32).toInt64.toUInt64 &&& Int64.toUInt64 63)).toInt64) &&& 65535).toInt32) (((((-x2).toUInt64 >>> ((32 : Int32).toInt64.toUInt64 &&& Int64.toUInt64 63)).toInt64) &&& 65535).toInt32) (((((-x2).toUInt64 >>> ((48 : Int32).toInt64.toUInt64 &&& Int64.toUInt64 63)).toInt64) &&& 65535).toInt32) hO0 hA2 hA3 hA4 n_A2_A3 n_A4_A2 n_A4_A3 x1lo x1hi _) rfl rfl hO0 rfl hl.1 rfl (Nat.le_of_ble_eq_true rfl) ⟨by decide, by decide⟩ ⟨Nat.le_of_ble_eq_true rfl, Nat.le_of_ble_eq_true rfl⟩ d_19_20_98) (fun u51 H locs hp50 V => ?_)
    rcases hp50 with ⟨y52, hg53, hO0, hA2, hA3⟩ | ⟨y54, hg55, hO0, hA2, hA3⟩ | ⟨hg56, hO0, hA2, hA3⟩
    ·
      replace hF := q_uc hF hg53 (q_sc (.head _) (q_sc (.tail _ (.head _)) (q_sc (.tail _ (.tail _ (.head _))) (fun _ h => absurd h List.not_mem_nil))))
      replace hA4 := (hg53 _ (q_nc n_A4_O0 (q_nc n_A4_A2 (q_nc n_A4_A3 List.not_mem_nil)))).trans (hA4)
      exact q_retv C0 V (Or.inr (Or.inr (Or.inl ⟨y52, c12, hF, hO0, hA2, hA3, hA4⟩))) d_19_20_101
    ·
      replace hF := q_uc hF hg55 (q_sc (.head _) (q_sc (.tail _ (.head _)) (q_sc (.tail _ (.tail _ (.head _))) (fun _ h => absurd h List.not_mem_nil))))
      replace hA4 := (hg55 _ (q_nc n_A4_O0 (q_nc n_A4_A2 (q_nc n_A4_A3 List.not_mem_nil)))).trans (hA4)
      exact q_retv C0 V (Or.inr (Or.inr (Or.inr (Or.inl ⟨y54, c12, hF, hO0, hA2, hA3, hA4⟩)))) d_19_20_101
    ·
      replace hF := q_uc hF hg56 (q_sc (.head _) (q_sc (.tail _ (.head _)) (q_sc (.tail _ (.tail _ (.head _))) (fun _ h => absurd h List.not_mem_nil))))
      replace hA4 := (hg56 _ (q_nc n_A4_O0 (q_nc n_A4_A2 (q_nc n_A4_A3 List.not_mem_nil)))).trans (hA4)
      exact q_retv C0 V (Or.inr (Or.inr (Or.inr (Or.inr (⟨c12, hF, hO0, hA2, hA3, hA4⟩))))) d_19_20_101
set_option maxRecDepth 100000 in
set_option maxHeartbeats 4000000 in
theorem c_NM_setBits_5 (l : Launch) (D : va_G) (g : Nat → ClassId) (ws : va_W) ( qO0 qA1 qA2 qO3 qO4 qO5 qO6 qO7 qA8 qA9 : Nat) (x1 : Int32) (x2 : Int64) (hO0 : ws[116]? = some (qO0, .inr (12, [.int 0, .ref qA1, .int 0, .ref qA2, .int 0, .ref qO3, .ref qO4, .ref qO5, .ref qO6, .ref qO7, .ref qA8, .ref qA9]))) (hA8 : ws[167]? = some (qA8, .inl (g 1, 20, .inr (.inl (fun _ => 0))))) (x1lo : 0 ≤ x1) (x1hi : x1 ≤ 9) : q_mV l y_NM_setBits prog_14_method_12_code 5 1 0 0 D g [.ref qO0, .int 3, .int x1, .long x2] ws (fun u => q_un ws u [167] ∧ u[167]? = some (qA8, .inl (g 1, 20, .inr (.inl (vp_updL (fun _ => 0) ((10 + x1).toNatClampNeg) x2))))) := by
  intro sz
  refine q_into (by decide) (Nat.le_of_ble_eq_true rfl) ?_
  intro p e s m below meth c ls hsz C0 V hl
  have hx := C0.1
  have hb := C0.2.1
  have hl : lv_has ls 5 [(0, .ref qO0), (1, .int 3), (2, .int x1), (3, .long x2)] := hl
  have hF : q_un ws ws [167] := q_u0
  refine lv_aload_n hx hb d_14_12_0 rfl (lv_at hl 0 rfl) ?_
  refine q_get (ci := 12) (j := 10) (v := .ref qA8) C0 V i_NM rfl rfl hO0 (by decide) w_2308 rfl d_14_12_1 ?_
  refine lv_iload_n hx hb d_14_12_4 rfl (lv_at hl 1 rfl) ?_
  refine lv_iconst (v := 3) hx hb d_14_12_5 (by decide) ?_
  refine lv_icmp_ne (tgt := 16) hx hb d_14_12_6 (by decide) (fun c1 => absurd (by decide) c1) (fun c1 => ?_)
  refine lv_bipush (v := 10) hx hb d_14_12_9 (by decide) ?_
  refine lv_iload_n hx hb d_14_12_11 rfl (lv_at hl 2 rfl) ?_
  refine lv_iadd hx hb d_14_12_12 ?_
  refine lv_goto (tgt := 17) hx hb d_14_12_13 (by decide) ?_
  refine lv_lload_n hx hb d_14_12_17 rfl (lv_at hl 3 rfl) ?_
  refine q_last C0 V hA8 (q_ix (x := (10 + x1.toInt)) (q_addI (x := 10) (y := x1.toInt) (by decide) rfl (by have t1 : 0 ≤ x1.toInt := q_leI x1lo; have t2 : x1.toInt ≤ 9 := q_leI x1hi; omega) (by have t1 : 0 ≤ x1.toInt := q_leI x1lo; have t2 : x1.toInt ≤ 9 := q_leI x1hi; omega)) (by have t1 : 0 ≤ x1.toInt := q_leI x1lo; have t2 : x1.toInt ≤ 9 := q_leI x1hi; omega) (by have t1 : 0 ≤ x1.toInt := q_leI x1lo; have t2 : x1.toInt ≤ 9 := q_leI x1hi; omega)) d_14_12_18 (fun H locs w2 hu3 hA8 V => ?_)
  replace hA8 : w2[167]? = some (qA8, .inl (g 1, 20, .inr (.inl (vp_updL (fun _ => 0) ((10 + x1).toNatClampNeg) x2)))) := hA8
  replace hF := q_us hF hu3 (.head _)
  exact q_retv C0 V (⟨hF, hA8⟩) d_14_12_19
theorem d_14_16_0 : decode prog_14_method_16_code 0 = .ok (.aload_n 0, 1) := by decide +kernel
theorem d_14_16_1 : decode prog_14_method_16_code 1 = .ok (.iload_n 1, 1) := by decide +kernel
theorem d_14_16_2 : decode prog_14_method_16_code 2 = .ok (.iload_n 2, 1) := by decide +kernel
theorem d_14_16_3 : decode prog_14_method_16_code 3 = .ok (.invokestatic 84, 3) := by decide +kernel
theorem d_14_16_6 : decode prog_14_method_16_code 6 = .ok (.ifCond .ne 17, 3) := by decide +kernel
theorem d_14_16_23 : decode prog_14_method_16_code 23 = .ok (.iconst 1, 1) := by decide +kernel
theorem d_14_16_24 : decode prog_14_method_16_code 24 = .ok (.goto 4, 3) := by decide +kernel
theorem d_14_16_28 : decode prog_14_method_16_code 28 = .ok (.putfield 58, 3) := by decide +kernel
theorem d_14_16_31 : decode prog_14_method_16_code 31 = .ok (.aload_n 0, 1) := by decide +kernel
theorem d_14_16_32 : decode prog_14_method_16_code 32 = .ok (.getfield 58, 3) := by decide +kernel
theorem d_14_16_35 : decode prog_14_method_16_code 35 = .ok (.ifCond .le 4, 3) := by decide +kernel
theorem d_14_16_38 : decode prog_14_method_16_code 38 = .ok (.return_, 1) := by decide +kernel
theorem d_14_16_9 : decode prog_14_method_16_code 9 = .ok (.iload_n 1, 1) := by decide +kernel
theorem d_14_16_10 : decode prog_14_method_16_code 10 = .ok (.iconst 3, 1) := by decide +kernel
theorem d_14_16_11 : decode prog_14_method_16_code 11 = .ok (.if_icmp .ne 16, 3) := by decide +kernel
theorem d_14_16_27 : decode prog_14_method_16_code 27 = .ok (.iconst 0, 1) := by decide +kernel
theorem d_14_16_39 : decode prog_14_method_16_code 39 = .ok (.iload_n 1, 1) := by decide +kernel
theorem d_14_16_40 : decode prog_14_method_16_code 40 = .ok (.ifCond .ne 15, 3) := by decide +kernel
theorem d_14_16_55 : decode prog_14_method_16_code 55 = .ok (.iload_n 1, 1) := by decide +kernel
theorem d_14_16_56 : decode prog_14_method_16_code 56 = .ok (.iconst 1, 1) := by decide +kernel
theorem d_14_16_57 : decode prog_14_method_16_code 57 = .ok (.if_icmp .ne 16, 3) := by decide +kernel
theorem d_14_16_73 : decode prog_14_method_16_code 73 = .ok (.aload_n 0, 1) := by decide +kernel
theorem d_14_16_74 : decode prog_14_method_16_code 74 = .ok (.iload_n 1, 1) := by decide +kernel
theorem d_14_16_75 : decode prog_14_method_16_code 75 = .ok (.iload_n 2, 1) := by decide +kernel
theorem d_14_16_76 : decode prog_14_method_16_code 76 = .ok (.lload_n 3, 1) := by decide +kernel
theorem d_14_16_77 : decode prog_14_method_16_code 77 = .ok (.invokevirtual 120, 3) := by decide +kernel
theorem d_14_16_80 : decode prog_14_method_16_code 80 = .ok (.return_, 1) := by decide +kernel
theorem d_14_16_60 : decode prog_14_method_16_code 60 = .ok (.aload_n 0, 1) := by decide +kernel
theorem d_14_16_61 : decode prog_14_method_16_code 61 = .ok (.getfield 26, 3) := by decide +kernel
theorem d_14_16_64 : decode prog_14_method_16_code 64 = .ok (.iload_n 2, 1) := by decide +kernel
theorem d_14_16_65 : decode prog_14_method_16_code 65 = .ok (.lload_n 3, 1) := by decide +kernel
theorem d_14_16_66 : decode prog_14_method_16_code 66 = .ok (.iconst 0, 1) := by decide +kernel
theorem d_14_16_67 : decode prog_14_method_16_code 67 = .ok (.invokevirtual 128, 3) := by decide +kernel
theorem w_2546 : (Cond.code ({ cls := "NumberHouseModel$DecimalRows", name := "put", desc := "(IJI)V" } : MethodName) prog_15_method_22_code (10 : Nat) (none : Option ClassFile.FieldType)) ∈ q_tbl := q_of 2546 (by decide +kernel) (by decide +kernel)
theorem w_2543 : (Cond.methodLink "NumberHouseModel" (128 : Nat) ({ cls := "NumberHouseModel$DecimalRows", name := "put", desc := "(IJI)V" } : MethodName)) ∈ q_tbl := q_of 2543 (by decide +kernel) (by decide +kernel)
theorem w_2544 : (Cond.instanceMethod ({ cls := "NumberHouseModel$DecimalRows", name := "put", desc := "(IJI)V" } : MethodName)) ∈ q_tbl := q_of 2544 (by decide +kernel) (by decide +kernel)
theorem w_2545 : (Cond.selects "NumberHouseModel$DecimalRows" ({ cls := "NumberHouseModel$DecimalRows", name := "put", desc := "(IJI)V" } : MethodName) ({ cls := "NumberHouseModel$DecimalRows", name := "put", desc := "(IJI)V" } : MethodName)) ∈ q_tbl := q_of 2545 (by decide +kernel) (by decide +kernel)
theorem LV_NM_128 : q_LV "NumberHouseModel" 128 y_DR_put prog_15_method_22_code 10 none 3 := ⟨w_2546, w_16, w_2543, w_2544, w_2545, ⟨by decide, by decide, by decide +kernel⟩⟩
theorem d_14_16_70 : decode prog_14_method_16_code 70 = .ok (.goto 10, 3) := by decide +kernel
theorem d_14_16_43 : decode prog_14_method_16_code 43 = .ok (.aload_n 0, 1) := by decide +kernel
theorem d_14_16_44 : decode prog_14_method_16_code 44 = .ok (.getfield 19, 3) := by decide +kernel
theorem d_14_16_47 : decode prog_14_method_16_code 47 = .ok (.iload_n 2, 1) := by decide +kernel
theorem d_14_16_48 : decode prog_14_method_16_code 48 = .ok (.lload_n 3, 1) := by decide +kernel
theorem d_14_16_49 : decode prog_14_method_16_code 49 = .ok (.invokevirtual 124, 3) := by decide +kernel
theorem w_2542 : (Cond.code ({ cls := "NumberHouseModel$WholeRows", name := "put", desc := "(IJ)V" } : MethodName) prog_19_method_20_code (7 : Nat) (none : Option ClassFile.FieldType)) ∈ q_tbl := q_of 2542 (by decide +kernel) (by decide +kernel)
theorem w_2539 : (Cond.methodLink "NumberHouseModel" (124 : Nat) ({ cls := "NumberHouseModel$WholeRows", name := "put", desc := "(IJ)V" } : MethodName)) ∈ q_tbl := q_of 2539 (by decide +kernel) (by decide +kernel)
theorem w_2540 : (Cond.instanceMethod ({ cls := "NumberHouseModel$WholeRows", name := "put", desc := "(IJ)V" } : MethodName)) ∈ q_tbl := q_of 2540 (by decide +kernel) (by decide +kernel)
theorem w_2541 : (Cond.selects "NumberHouseModel$WholeRows" ({ cls := "NumberHouseModel$WholeRows", name := "put", desc := "(IJ)V" } : MethodName) ({ cls := "NumberHouseModel$WholeRows", name := "put", desc := "(IJ)V" } : MethodName)) ∈ q_tbl := q_of 2541 (by decide +kernel) (by decide +kernel)
theorem LV_NM_124 : q_LV "NumberHouseModel" 124 y_WR_put prog_19_method_20_code 7 none 2 := ⟨w_2542, w_15, w_2539, w_2540, w_2541, ⟨by decide, by decide, by decide +kernel⟩⟩
theorem d_14_16_52 : decode prog_14_method_16_code 52 = .ok (.goto 28, 3) := by decide +kernel
theorem d_14_16_14 : decode prog_14_method_16_code 14 = .ok (.lload_n 3, 1) := by decide +kernel
theorem d_14_16_15 : decode prog_14_method_16_code 15 = .ok (.bipush 32, 2) := by decide +kernel
theorem d_14_16_17 : decode prog_14_method_16_code 17 = .ok (.lushr, 1) := by decide +kernel
theorem d_14_16_18 : decode prog_14_method_16_code 18 = .ok (.lconst 0, 1) := by decide +kernel
theorem d_14_16_19 : decode prog_14_method_16_code 19 = .ok (.lcmp, 1) := by decide +kernel
theorem d_14_16_20 : decode prog_14_method_16_code 20 = .ok (.ifCond .eq 7, 3) := by decide +kernel
def y_NM_put : MethodName := ⟨"NumberHouseModel", "put", "(IIJ)V"⟩
set_option maxRecDepth 100000 in
set_option maxHeartbeats 4000000 in
/-- put on a fresh object -/
theorem c_NM_put (l : Launch) (D : va_G) (g : Nat → ClassId) (ws : va_W) ( qO0 qA1 qA2 qO3 qO4 qO5 qO6 qO7 qA8 qA9 qA10 qA11 qA12 qA13 qA14 qA15 qA16 qA17 qA18 qA19 qA20 qA21 qA22 qA23 qA24 qA25 qA26 qA27 qA28 qA29 qA30 qA31 qA32 qA33 : Nat) (x1 : Int32) (x2 : Int32) (x3 : Int64) (hO0 : ws[116]? = some (qO0, .inr (12, [.int 0, .ref qA1, .int 0, .ref qA2, .int 0, .ref qO3, .ref qO4, .ref qO5, .ref qO6, .ref qO7, .ref qA8, .ref qA9]))) (hO3 : ws[119]? = some (qO3, .inr (13, [.int 0, .int 0, .ref qA10, .int 0, .ref qA11, .ref qA12, .ref qA13, .int 0, .ref qA14, .ref qA15, .ref qA16, .ref qA17, .ref qA18, .ref qA19, .ref qA20, .ref qA21, .int 0, .int 0, .ref qA22, .ref qA23, .int 0]))) (hO4 : ws[134]? = some (qO4, .inr (14, [.int 0, .ref qA24, .int 0, .ref qA25, .ref qA26, .ref qA27, .ref qA28, .ref qA29, .int 0, .long 0, .int 0, .int 0, .ref qA30, .int 0, .ref qA31, .int 0, .ref qA32, .int 0, .ref qA33, .int 0, .int 0]))) (hA8 : ws[167]? = some (qA8, .inl (g 1, 20, .inr (.inl (fun _ => 0))))) (hA11 : ws[121]? = some (qA11, .inl (g 0, 1408, .inl (fun _ => 0)))) (hA12 : ws[122]? = some (qA12, .inl (g 3, 11, .inl (fun _ => 0)))) (hA13 : ws[123]? = some (qA13, .inl (g 0, 264, .inl (fun _ => 0)))) (hA25 : ws[136]? = some (qA25, .inl (g 0, 10000, .inl (fun _ => 0)))) (hA26 : ws[137]? = some (qA26, .inl (g 0, 10, .inl (upd (upd (upd (upd (upd (upd (upd (upd (upd (upd (fun _ => 0) 0 1) 1 1) 2 1) 3 1) 4 1) 5 1) 6 1) 7 1) 8 1) 9 1)))) (hA27 : ws[138]? = some (qA27, .inl (g 3, 10, .inl (fun _ => 0)))) (hA28 : ws[139]? = some (qA28, .inl (g 0, 10, .inl (fun _ => 0)))) (hA29 : ws[140]? = some (qA29, .inl (g 0, 4400, .inl (fun _ => 0)))) : q_mV l y_NM_put prog_14_method_16_code 5 4 0 0 D g [.ref qO0, .int x1, .int x2, .long x3] ws (fun u => ∃ (t0 z2 z4 : Int32), u[116]? = some (qO0, .inr (12, [.int t0, .ref qA1, .int z2, .ref qA2, .int z4, .ref qO3, .ref qO4, .ref qO5, .ref qO6, .ref qO7, .ref qA8, .ref qA9])) ∧ ((t0.toInt = 0 ∧ ((0 ≤ x1.toInt ∧ x1.toInt ≤ 3) ∧ (0 ≤ x2.toInt ∧ x2.toInt ≤ 9)) ∧ (x1.toInt = 3 → lg_cmp ((x3.toUInt64 >>> ((32 : Int32).toInt64.toUInt64 &&& Int64.toUInt64 63)).toInt64) 0 = 0)) ∨ (t0.toInt = 1 ∧ (¬ ((0 ≤ x1.toInt ∧ x1.toInt ≤ 3) ∧ (0 ≤ x2.toInt ∧ x2.toInt ≤ 9)) ∨ (x1.toInt = 3 ∧ ¬ lg_cmp ((x3.toUInt64 >>> ((32 : Int32).toInt64.toUInt64 &&& Int64.toUInt64 63)).toInt64) 0 = 0)))) ∧ q_ge 169 ws u) := by
  intro sz
  refine q_into (by decide) (Nat.le_of_ble_eq_true rfl) ?_
  intro p e s m below meth c ls hsz C0 V hl
  have hx := C0.1
  have hb := C0.2.1
  have hl : lv_has ls 5 [(0, .ref qO0), (1, .int x1), (2, .int x2), (3, .long x3)] := hl
  have hF : q_ge 169 ws ws := q_g0
  refine lv_aload_n hx hb d_14_16_0 rfl (lv_at hl 0 rfl) ?_
  refine lv_iload_n hx hb d_14_16_1 rfl (lv_at hl 1 rfl) ?_
  refine lv_iload_n hx hb d_14_16_2 rfl (lv_at hl 2 rfl) ?_
  refine q_goi V (q_runS (As := [.int x1, .int x2]) (rest := [.ref qO0]) (d := 2) (mc := 0) (ms := 0) C0 V rfl LS_NM_84 (c_NM_no_IIZ l D g ws x1 x2 _) rfl hl.1 rfl (Nat.le_of_ble_eq_true rfl) ⟨by decide, by decide⟩ ⟨Nat.le_of_ble_eq_true rfl, Nat.le_of_ble_eq_true rfl⟩ d_14_16_3) (fun v3 u2 H locs hp1 V => ?_)
  rcases hp1 with ⟨c4, rfl, rfl⟩ | ⟨c6, c7, rfl, rfl⟩ | ⟨c9, c10, c11, rfl, rfl⟩ | ⟨c13, c14, c15, c16, rfl, rfl⟩ | ⟨c18, c19, c20, c21, rfl, rfl⟩
  ·
    refine lv_if_ne (tgt := 23) hx hb d_14_16_6 (by decide) (fun c23 => ?_) (fun c23 => absurd c23 (by decide))
    refine lv_iconst (v := 1) hx hb d_14_16_23 (by decide) ?_
    refine lv_goto (tgt := 28) hx hb d_14_16_24 (by decide) ?_
    refine q_put (ci := 12) (j := 0) (v := .int 1) (ty := .int) C0 V i_NM o_NM n_NM rfl rfl hO0 (by decide) w_2298 rfl rfl rfl rfl (Nat.le_of_ble_eq_true rfl) d_14_16_28 (fun H locs w24 hu25 hO0 V => ?_)
    replace hO0 : w24[116]? = some (qO0, .inr (12, [.int 1, .ref qA1, .int 0, .ref qA2, .int 0, .ref qO3, .ref qO4, .ref qO5, .ref qO6, .ref qO7, .ref qA8, .ref qA9])) := hO0
    replace hF := q_gs hF hu25 (Nat.le_of_ble_eq_true rfl)
    refine lv_aload_n hx hb d_14_16_31 rfl (lv_at hl 0 rfl) ?_
    refine q_get (ci := 12) (j := 0) (v := .int 1) C0 V i_NM rfl rfl hO0 (by decide) w_2298 rfl d_14_16_32 ?_
    refine lv_if_le (tgt := 39) hx hb d_14_16_35 (by decide) (fun c26 => absurd c26 (by decide)) (fun c26 => ?_)
    exact q_retv C0 V (⟨1, 0, 0, hO0, (show ((1 : Int32).toInt = 0 ∧ ((0 ≤ x1.toInt ∧ x1.toInt ≤ 3) ∧ (0 ≤ x2.toInt ∧ x2.toInt ≤ 9)) ∧ (x1.toInt = 3 → lg_cmp ((x3.toUInt64 >>> ((32 : Int32).toInt64.toUInt64 &&& Int64.toUInt64 63)).toInt64) 0 = 0)) ∨ ((1 : Int32).toInt = 1 ∧ (¬ ((0 ≤ x1.toInt ∧ x1.toInt ≤ 3) ∧ (0 ≤ x2.toInt ∧ x2.toInt ≤ 9)) ∨ (x1.toInt = 3 ∧ ¬ lg_cmp ((x3.toUInt64 >>> ((32 : Int32).toInt64.toUInt64 &&& Int64.toUInt64 63)).toInt64) 0 = 0))) from by exact Or.inr ⟨by have t1 : x1.toInt < 0 := q_ltI c4; have e0 : (1 : Int32).toInt = 1 := (by decide); omega, Or.inl (by have t1 : x1.toInt < 0 := q_ltI c4; have e0 : (1 : Int32).toInt = 1 := (by decide); omega)⟩), hF⟩) d_14_16_38
  ·
    refine lv_if_ne (tgt := 23) hx hb d_14_16_6 (by decide) (fun c27 => ?_) (fun c27 => absurd c27 (by decide))
    refine lv_iconst (v := 1) hx hb d_14_16_23 (by decide) ?_
    refine lv_goto (tgt := 28) hx hb d_14_16_24 (by decide) ?_
    refine q_put (ci := 12) (j := 0) (v := .int 1) (ty := .int) C0 V i_NM o_NM n_NM rfl rfl hO0 (by decide) w_2298 rfl rfl rfl rfl (Nat.le_of_ble_eq_true rfl) d_14_16_28 (fun H locs w28 hu29 hO0 V => ?_)
    replace hO0 : w28[116]? = some (qO0, .inr (12, [.int 1, .ref qA1, .int 0, .ref qA2, .int 0, .ref qO3, .ref qO4, .ref qO5, .ref qO6, .ref qO7, .ref qA8, .ref qA9])) := hO0
    replace hF := q_gs hF hu29 (Nat.le_of_ble_eq_true rfl)
    refine lv_aload_n hx hb d_14_16_31 rfl (lv_at hl 0 rfl) ?_
    refine q_get (ci := 12) (j := 0) (v := .int 1) C0 V i_NM rfl rfl hO0 (by decide) w_2298 rfl d_14_16_32 ?_
    refine lv_if_le (tgt := 39) hx hb d_14_16_35 (by decide) (fun c30 => absurd c30 (by decide)) (fun c30 => ?_)
    exact q_retv C0 V (⟨1, 0, 0, hO0, (show ((1 : Int32).toInt = 0 ∧ ((0 ≤ x1.toInt ∧ x1.toInt ≤ 3) ∧ (0 ≤ x2.toInt ∧ x2.toInt ≤ 9)) ∧ (x1.toInt = 3 → lg_cmp ((x3.toUInt64 >>> ((32 : Int32).toInt64.toUInt64 &&& Int64.toUInt64 63)).toInt64) 0 = 0)) ∨ ((1 : Int32).toInt = 1 ∧ (¬ ((0 ≤ x1.toInt ∧ x1.toInt ≤ 3) ∧ (0 ≤ x2.toInt ∧ x2.toInt ≤ 9)) ∨ (x1.toInt = 3 ∧ ¬ lg_cmp ((x3.toUInt64 >>> ((32 : Int32).toInt64.toUInt64 &&& Int64.toUInt64 63)).toInt64) 0 = 0))) from by exact Or.inr ⟨by have t1 : 0 ≤ x1.toInt := q_nltI c6; have t2 : 3 < x1.toInt := q_ltI c7; have e0 : (1 : Int32).toInt = 1 := (by decide); omega, Or.inl (by have t1 : 0 ≤ x1.toInt := q_nltI c6; have t2 : 3 < x1.toInt := q_ltI c7; have e0 : (1 : Int32).toInt = 1 := (by decide); omega)⟩), hF⟩) d_14_16_38
  ·
    refine lv_if_ne (tgt := 23) hx hb d_14_16_6 (by decide) (fun c31 => ?_) (fun c31 => absurd c31 (by decide))
    refine lv_iconst (v := 1) hx hb d_14_16_23 (by decide) ?_
    refine lv_goto (tgt := 28) hx hb d_14_16_24 (by decide) ?_
    refine q_put (ci := 12) (j := 0) (v := .int 1) (ty := .int) C0 V i_NM o_NM n_NM rfl rfl hO0 (by decide) w_2298 rfl rfl rfl rfl (Nat.le_of_ble_eq_true rfl) d_14_16_28 (fun H locs w32 hu33 hO0 V => ?_)
    replace hO0 : w32[116]? = some (qO0, .inr (12, [.int 1, .ref qA1, .int 0, .ref qA2, .int 0, .ref qO3, .ref qO4, .ref qO5, .ref qO6, .ref qO7, .ref qA8, .ref qA9])) := hO0
    replace hF := q_gs hF hu33 (Nat.le_of_ble_eq_true rfl)
    refine lv_aload_n hx hb d_14_16_31 rfl (lv_at hl 0 rfl) ?_
    refine q_get (ci := 12) (j := 0) (v := .int 1) C0 V i_NM rfl rfl hO0 (by decide) w_2298 rfl d_14_16_32 ?_
    refine lv_if_le (tgt := 39) hx hb d_14_16_35 (by decide) (fun c34 => absurd c34 (by decide)) (fun c34 => ?_)
    exact q_retv C0 V (⟨1, 0, 0, hO0, (show ((1 : Int32).toInt = 0 ∧ ((0 ≤ x1.toInt ∧ x1.toInt ≤ 3) ∧ (0 ≤ x2.toInt ∧ x2.toInt ≤ 9)) ∧ (x1.toInt = 3 → lg_cmp ((x3.toUInt64 >>> ((32 : Int32).toInt64.toUInt64 &&& Int64.toUInt64 63)).toInt64) 0 = 0)) ∨ ((1 : Int32).toInt = 1 ∧ (¬ ((0 ≤ x1.toInt ∧ x1.toInt ≤ 3) ∧ (0 ≤ x2.toInt ∧ x2.toInt ≤ 9)) ∨ (x1.toInt = 3 ∧ ¬ lg_cmp ((x3.toUInt64 >>> ((32 : Int32).toInt64.toUInt64 &&& Int64.toUInt64 63)).toInt64) 0 = 0))) from by exact Or.inr ⟨by have t1 : 0 ≤ x1.toInt := q_nltI c9; have t2 : x1.toInt ≤ 3 := q_nltI c10; have t3 : x2.toInt < 0 := q_ltI c11; have e0 : (1 : Int32).toInt = 1 := (by decide); omega, Or.inl (by have t1 : 0 ≤ x1.toInt := q_nltI c9; have t2 : x1.toInt ≤ 3 := q_nltI c10; have t3 : x2.toInt < 0 := q_ltI c11; have e0 : (1 : Int32).toInt = 1 := (by decide); omega)⟩), hF⟩) d_14_16_38
  ·
    refine lv_if_ne (tgt := 23) hx hb d_14_16_6 (by decide) (fun c35 => absurd (by decide) c35) (fun c35 => ?_)
    refine lv_iload_n hx hb d_14_16_9 rfl (lv_at hl 1 rfl) ?_
    refine lv_iconst (v := 3) hx hb d_14_16_10 (by decide) ?_
    refine lv_icmp_ne (tgt := 27) hx hb d_14_16_11 (by decide) (fun c36 => ?_) (fun c36 => ?_)
    ·
      refine lv_iconst (v := 0) hx hb d_14_16_27 (by decide) ?_
      refine q_put (ci := 12) (j := 0) (v := .int 0) (ty := .int) C0 V i_NM o_NM n_NM rfl rfl hO0 (by decide) w_2298 rfl rfl rfl rfl (Nat.le_of_ble_eq_true rfl) d_14_16_28 (fun H locs w37 hu38 hO0 V => ?_)
      replace hO0 : w37[116]? = some (qO0, .inr (12, [.int 0, .ref qA1, .int 0, .ref qA2, .int 0, .ref qO3, .ref qO4, .ref qO5, .ref qO6, .ref qO7, .ref qA8, .ref qA9])) := hO0
      replace hF := q_gs hF hu38 (Nat.le_of_ble_eq_true rfl)
      refine lv_aload_n hx hb d_14_16_31 rfl (lv_at hl 0 rfl) ?_
      refine q_get (ci := 12) (j := 0) (v := .int 0) C0 V i_NM rfl rfl hO0 (by decide) w_2298 rfl d_14_16_32 ?_
      refine lv_if_le (tgt := 39) hx hb d_14_16_35 (by decide) (fun c39 => ?_) (fun c39 => absurd (by decide) c39)
      refine lv_iload_n hx hb d_14_16_39 rfl (lv_at hl 1 rfl) ?_
      refine lv_if_ne (tgt := 55) hx hb d_14_16_40 (by decide) (fun c40 => ?_) (fun c40 => ?_)
      ·
        refine lv_iload_n hx hb d_14_16_55 rfl (lv_at hl 1 rfl) ?_
        refine lv_iconst (v := 1) hx hb d_14_16_56 (by decide) ?_
        refine lv_icmp_ne (tgt := 73) hx hb d_14_16_57 (by decide) (fun c41 => ?_) (fun c41 => ?_)
        ·
          refine lv_aload_n hx hb d_14_16_73 rfl (lv_at hl 0 rfl) ?_
          refine lv_iload_n hx hb d_14_16_74 rfl (lv_at hl 1 rfl) ?_
          refine q_ti (v := 2) (q_Ieq (x := x1.toInt) (y := 2) rfl (by decide) (by have t1 : 0 ≤ x1.toInt := q_nltI c13; have t2 : x1.toInt ≤ 3 := q_nltI c14; have t3 : x1.toInt ≠ 3 := q_neI c36; have t4 : x1.toInt ≠ 0 := q_neI c40; have t5 : x1.toInt ≠ 1 := q_neI c41; omega)) ?_
          refine lv_iload_n hx hb d_14_16_75 rfl (lv_at hl 2 rfl) ?_
          refine lv_lload_n hx hb d_14_16_76 rfl (lv_at hl 3 rfl) ?_
          replace hA8 := (hu38 _ (q_pd 167 116 rfl)).trans (hA8)
          refine q_gov V (q_runV (As := [.int 2, .int x2, .long x3]) (rest := []) (d := 1) (mc := 0) (ms := 0) (ci := 12) C0 V rfl LV_NM_120 (c_NM_setBits_4 l D g w37 qO0 qA1 qA2 qO3 qO4 qO5 qO6 qO7 qA8 qA9 x2 x3 hO0 hA8 (q_Ile (x := 0) (y := x2.toInt) (by decide) rfl (by have t1 : 0 ≤ x2.toInt := q_nltI c15; have t2 : x2.toInt ≤ 9 := q_leI c16; omega)) c16 _) rfl rfl hO0 rfl hl.1 rfl (Nat.le_of_ble_eq_true rfl) ⟨by decide, by decide⟩ ⟨Nat.le_of_ble_eq_true rfl, Nat.le_of_ble_eq_true rfl⟩ d_14_16_77) (fun u43 H locs hp42 V => ?_)
          obtain ⟨hg44, hA8⟩ := hp42
          replace hF := q_gc hF hg44 (q_al (Nat.le_of_ble_eq_true rfl) (fun _ h => absurd h List.not_mem_nil))
          replace hO0 := (hg44 _ (q_nc (q_pd 116 167 rfl) List.not_mem_nil)).trans (hO0)
          exact q_retv C0 V (⟨0, 0, 0, hO0, (show ((0 : Int32).toInt = 0 ∧ ((0 ≤ x1.toInt ∧ x1.toInt ≤ 3) ∧ (0 ≤ x2.toInt ∧ x2.toInt ≤ 9)) ∧ (x1.toInt = 3 → lg_cmp ((x3.toUInt64 >>> ((32 : Int32).toInt64.toUInt64 &&& Int64.toUInt64 63)).toInt64) 0 = 0)) ∨ ((0 : Int32).toInt = 1 ∧ (¬ ((0 ≤ x1.toInt ∧ x1.toInt ≤ 3) ∧ (0 ≤ x2.toInt ∧ x2.toInt ≤ 9)) ∨ (x1.toInt = 3 ∧ ¬ lg_cmp ((x3.toUInt64 >>> ((32 : Int32).toInt64.toUInt64 &&& Int64.toUInt64 63)).toInt64) 0 = 0))) from by exact Or.inl ⟨by have t1 : 0 ≤ x1.toInt := q_nltI c13; have t2 : x1.toInt ≤ 3 := q_nltI c14; have t3 : 0 ≤ x2.toInt := q_nltI c15; have t4 : x2.toInt ≤ 9 := q_leI c16; have t5 : x1.toInt ≠ 3 := q_neI c36; have t6 : x1.toInt ≠ 0 := q_neI c40; have t7 : x1.toInt ≠ 1 := q_neI c41; have e0 : (0 : Int32).toInt = 0 := (by decide); omega, by have t1 : 0 ≤ x1.toInt := q_nltI c13; have t2 : x1.toInt ≤ 3 := q_nltI c14; have t3 : 0 ≤ x2.toInt := q_nltI c15; have t4 : x2.toInt ≤ 9 := q_leI c16; have t5 : x1.toInt ≠ 3 := q_neI c36; have t6 : x1.toInt ≠ 0 := q_neI c40; have t7 : x1.toInt ≠ 1 := q_neI c41; have e0 : (0 : Int32).toInt = 0 := (by decide); omega, fun h => absurd h (by have t1 : 0 ≤ x1.toInt := q_nltI c13; have t2 : x1.toInt ≤ 3 := q_nltI c14; have t3 : 0 ≤ x2.toInt := q_nltI c15; have t4 : x2.toInt ≤ 9 := q_leI c16; have t5 : x1.toInt ≠ 3 := q_neI c36; have t6 : x1.toInt ≠ 0 := q_neI c40; have t7 : x1.toInt ≠ 1 := q_neI c41; have e0 : (0 : Int32).toInt = 0 := (by decide); omega)⟩), hF⟩) d_14_16_80
        ·
          refine lv_aload_n hx hb d_14_16_60 rfl (lv_at hl 0 rfl) ?_
          refine q_get (ci := 12) (j := 6) (v := .ref qO4) C0 V i_NM rfl rfl hO0 (by decide) w_2304 rfl d_14_16_61 ?_
          refine lv_iload_n hx hb d_14_16_64 rfl (lv_at hl 2 rfl) ?_
          refine lv_lload_n hx hb d_14_16_65 rfl (lv_at hl 3 rfl) ?_
          refine lv_iconst (v := 0) hx hb d_14_16_66 (by decide) ?_
          replace hO4 := (hu38 _ (q_pd 134 116 rfl)).trans (hO4)
          replace hA25 := (hu38 _ (q_pd 136 116 rfl)).trans (hA25)
          replace hA26 := (hu38 _ (q_pd 137 116 rfl)).trans (hA26)
          replace hA27 := (hu38 _ (q_pd 138 116 rfl)).trans (hA27)
          replace hA28 := (hu38 _ (q_pd 139 116 rfl)).trans (hA28)
          replace hA29 := (hu38 _ (q_pd 140 116 rfl)).trans (hA29)
          refine q_gov V (q_runV (As := [.int x2, .long x3, .int 0]) (rest := []) (d := 3) (mc := 0) (ms := 0) (ci := 14) C0 V rfl LV_NM_128 (c_DR_put l D g w37 134 136 137 138 139 140 qO4 qA24 qA25 qA26 qA27 qA28 qA29 qA30 qA31 qA32 qA33 x2 x3 hO4 hA25 hA26 hA27 hA28 hA29 (q_pd 136 137 rfl) (q_pd 136 138 rfl) (q_pd 136 139 rfl) (q_pd 136 140 rfl) (q_pd 137 138 rfl) (q_pd 137 139 rfl) (q_pd 137 140 rfl) (q_pd 138 139 rfl) (q_pd 138 140 rfl) (q_pd 139 140 rfl) (q_Ile (x := 0) (y := x2.toInt) (by decide) rfl (by have t1 : 0 ≤ x2.toInt := q_nltI c15; have t2 : x2.toInt ≤ 9 := q_leI c16; omega)) c16 _) rfl rfl hO4 rfl hl.1 rfl (Nat.le_of_ble_eq_true rfl) ⟨by decide, by decide⟩ ⟨Nat.le_of_ble_eq_true rfl, Nat.le_of_ble_eq_true rfl⟩ d_14_16_67) (fun u46 H locs hp45 V => ?_)
          rcases hp45 with ⟨y48, c47, hg49, hO4, hA25, hA26, hA27, hA28, hA29⟩ | ⟨y54, y55, y56, c50, c51, f52, f53, hg57, hO4, hA25, hA26, hA27, hA28, hA29⟩ | ⟨y60, c58, c59, hg61, hO4, hA25, hA26, hA27, hA28, hA29⟩ | ⟨y64, c62, c63, hg65, hO4, hA25, hA26, hA27, hA28, hA29⟩ | ⟨y71, y72, y73, c66, c67, c68, f69, f70, hg74, hO4, hA25, hA26, hA27, hA28, hA29⟩ | ⟨y80, y81, y82, c75, c76, c77, f78, f79, hg83, hO4, hA25, hA26, hA27, hA28, hA29⟩
          ·
            replace hF := q_gc hF hg49 (q_al (Nat.le_of_ble_eq_true rfl) (q_al (Nat.le_of_ble_eq_true rfl) (q_al (Nat.le_of_ble_eq_true rfl) (q_al (Nat.le_of_ble_eq_true rfl) (q_al (Nat.le_of_ble_eq_true rfl) (q_al (Nat.le_of_ble_eq_true rfl) (fun _ h => absurd h List.not_mem_nil)))))))
            refine lv_goto (tgt := 80) hx hb d_14_16_70 (by decide) ?_
            replace hO0 := (hg49 _ (q_nc (q_pd 116 134 rfl) (q_nc (q_pd 116 136 rfl) (q_nc (q_pd 116 137 rfl) (q_nc (q_pd 116 138 rfl) (q_nc (q_pd 116 139 rfl) (q_nc (q_pd 116 140 rfl) List.not_mem_nil))))))).trans (hO0)
            exact q_retv C0 V (⟨0, 0, 0, hO0, (show ((0 : Int32).toInt = 0 ∧ ((0 ≤ x1.toInt ∧ x1.toInt ≤ 3) ∧ (0 ≤ x2.toInt ∧ x2.toInt ≤ 9)) ∧ (x1.toInt = 3 → lg_cmp ((x3.toUInt64 >>> ((32 : Int32).toInt64.toUInt64 &&& Int64.toUInt64 63)).toInt64) 0 = 0)) ∨ ((0 : Int32).toInt = 1 ∧ (¬ ((0 ≤ x1.toInt ∧ x1.toInt ≤ 3) ∧ (0 ≤ x2.toInt ∧ x2.toInt ≤ 9)) ∨ (x1.toInt = 3 ∧ ¬ lg_cmp ((x3.toUInt64 >>> ((32 : Int32).toInt64.toUInt64 &&& Int64.toUInt64 63)).toInt64) 0 = 0))) from by exact Or.inl ⟨by have t1 : 0 ≤ x1.toInt := q_nltI c13; have t2 : x1.toInt ≤ 3 := q_nltI c14; have t3 : 0 ≤ x2.toInt := q_nltI c15; have t4 : x2.toInt ≤ 9 := q_leI c16; have t5 : x1.toInt ≠ 3 := q_neI c36; have t6 : x1.toInt ≠ 0 := q_neI c40; have t7 : x1.toInt = 1 := q_eqI c41; have e0 : (0 : Int32).toInt = 0 := (by decide); omega, by have t1 : 0 ≤ x1.toInt := q_nltI c13; have t2 : x1.toInt ≤ 3 := q_nltI c14; have t3 : 0 ≤ x2.toInt := q_nltI c15; have t4 : x2.toInt ≤ 9 := q_leI c16; have t5 : x1.toInt ≠ 3 := q_neI c36; have t6 : x1.toInt ≠ 0 := q_neI c40; have t7 : x1.toInt = 1 := q_eqI c41; have e0 : (0 : Int32).toInt = 0 := (by decide); omega, fun h => absurd h (by have t1 : 0 ≤ x1.toInt := q_nltI c13; have t2 : x1.toInt ≤ 3 := q_nltI c14; have t3 : 0 ≤ x2.toInt := q_nltI c15; have t4 : x2.toInt ≤ 9 := q_leI c16; have t5 : x1.toInt ≠ 3 := q_neI c36; have t6 : x1.toInt ≠ 0 := q_neI c40; have t7 : x1.toInt = 1 := q_eqI c41; have e0 : (0 : Int32).toInt = 0 := (by decide); omega)⟩), hF⟩) d_14_16_80
          ·
            replace hF := q_gc hF hg57 (q_al (Nat.le_of_ble_eq_true rfl) (q_al (Nat.le_of_ble_eq_true rfl) (q_al (Nat.le_of_ble_eq_true rfl) (q_al (Nat.le_of_ble_eq_true rfl) (q_al (Nat.le_of_ble_eq_true rfl) (q_al (Nat.le_of_ble_eq_true rfl) (fun _ h => absurd h List.not_mem_nil)))))))
            refine lv_goto (tgt := 80) hx hb d_14_16_70 (by decide) ?_
            replace hO0 := (hg57 _ (q_nc (q_pd 116 134 rfl) (q_nc (q_pd 116 136 rfl) (q_nc (q_pd 116 137 rfl) (q_nc (q_pd 116 138 rfl) (q_nc (q_pd 116 139 rfl) (q_nc (q_pd 116 140 rfl) List.not_mem_nil))))))).trans (hO0)
            exact q_retv C0 V (⟨0, 0, 0, hO0, (show ((0 : Int32).toInt = 0 ∧ ((0 ≤ x1.toInt ∧ x1.toInt ≤ 3) ∧ (0 ≤ x2.toInt ∧ x2.toInt ≤ 9)) ∧ (x1.toInt = 3 → lg_cmp ((x3.toUInt64 >>> ((32 : Int32).toInt64.toUInt64 &&& Int64.toUInt64 63)).toInt64) 0 = 0)) ∨ ((0 : Int32).toInt = 1 ∧ (¬ ((0 ≤ x1.toInt ∧ x1.toInt ≤ 3) ∧ (0 ≤ x2.toInt ∧ x2.toInt ≤ 9)) ∨ (x1.toInt = 3 ∧ ¬ lg_cmp ((x3.toUInt64 >>> ((32 : Int32).toInt64.toUInt64 &&& Int64.toUInt64 63)).toInt64) 0 = 0))) from by exact Or.inl ⟨by have t1 : 0 ≤ x1.toInt := q_nltI c13; have t2 : x1.toInt ≤ 3 := q_nltI c14; have t3 : 0 ≤ x2.toInt := q_nltI c15; have t4 : x2.toInt ≤ 9 := q_leI c16; have t5 : x1.toInt ≠ 3 := q_neI c36; have t6 : x1.toInt ≠ 0 := q_neI c40; have t7 : x1.toInt = 1 := q_eqI c41; have t8 : (y54.toInt + 1) < 19 := by { have e1 : (19 : Int32).toInt = 19 := (by decide); have e2 : ((y54 + 1) : Int32).toInt = (y54.toInt + 1) := (q_addI (x := y54.toInt) (y := 1) rfl (by decide) (by have t1 : 0 ≤ y54.toInt := q_leI f52; have t2 : y54.toInt ≤ 17 := q_leI f53; omega) (by have t1 : 0 ≤ y54.toInt := q_leI f52; have t2 : y54.toInt ≤ 17 := q_leI f53; omega)); have e3 := q_nleI c51; omega }; have t9 : 0 ≤ y54.toInt := q_leI f52; have t10 : y54.toInt ≤ 17 := q_leI f53; have e0 : (0 : Int32).toInt = 0 := (by decide); omega, by have t1 : 0 ≤ x1.toInt := q_nltI c13; have t2 : x1.toInt ≤ 3 := q_nltI c14; have t3 : 0 ≤ x2.toInt := q_nltI c15; have t4 : x2.toInt ≤ 9 := q_leI c16; have t5 : x1.toInt ≠ 3 := q_neI c36; have t6 : x1.toInt ≠ 0 := q_neI c40; have t7 : x1.toInt = 1 := q_eqI c41; have t8 : (y54.toInt + 1) < 19 := by { have e1 : (19 : Int32).toInt = 19 := (by decide); have e2 : ((y54 + 1) : Int32).toInt = (y54.toInt + 1) := (q_addI (x := y54.toInt) (y := 1) rfl (by decide) (by have t1 : 0 ≤ y54.toInt := q_leI f52; have t2 : y54.toInt ≤ 17 := q_leI f53; omega) (by have t1 : 0 ≤ y54.toInt := q_leI f52; have t2 : y54.toInt ≤ 17 := q_leI f53; omega)); have e3 := q_nleI c51; omega }; have t9 : 0 ≤ y54.toInt := q_leI f52; have t10 : y54.toInt ≤ 17 := q_leI f53; have e0 : (0 : Int32).toInt = 0 := (by decide); omega, fun h => absurd h (by have t1 : 0 ≤ x1.toInt := q_nltI c13; have t2 : x1.toInt ≤ 3 := q_nltI c14; have t3 : 0 ≤ x2.toInt := q_nltI c15; have t4 : x2.toInt ≤ 9 := q_leI c16; have t5 : x1.toInt ≠ 3 := q_neI c36; have t6 : x1.toInt ≠ 0 := q_neI c40; have t7 : x1.toInt = 1 := q_eqI c41; have t8 : (y54.toInt + 1) < 19 := by { have e1 : (19 : Int32).toInt = 19 := (by decide); have e2 : ((y54 + 1) : Int32).toInt = (y54.toInt + 1) := (q_addI (x := y54.toInt) (y := 1) rfl (by decide) (by have t1 : 0 ≤ y54.toInt := q_leI f52; have t2 : y54.toInt ≤ 17 := q_leI f53; omega) (by have t1 : 0 ≤ y54.toInt := q_leI f52; have t2 : y54.toInt ≤ 17 := q_leI f53; omega)); have e3 := q_nleI c51; omega }; have t9 : 0 ≤ y54.toInt := q_leI f52; have t10 : y54.toInt ≤ 17 := q_leI f53; have e0 : (0 : Int32).toInt = 0 := (by decide); omega)⟩), hF⟩) d_14_16_80
          ·
            replace hF := q_gc hF hg61 (q_al (Nat.le_of_ble_eq_true rfl) (q_al (Nat.le_of_ble_eq_true rfl) (q_al (Nat.le_of_ble_eq_true rfl) (q_al (Nat.le_of_ble_eq_true rfl) (q_al (Nat.le_of_ble_eq_true rfl) (q_al (Nat.le_of_ble_eq_true rfl) (fun _ h => absurd h List.not_mem_nil)))))))
            refine lv_goto (tgt := 80) hx hb d_14_16_70 (by decide) ?_
            replace hO0 := (hg61 _ (q_nc (q_pd 116 134 rfl) (q_nc (q_pd 116 136 rfl) (q_nc (q_pd 116 137 rfl) (q_nc (q_pd 116 138 rfl) (q_nc (q_pd 116 139 rfl) (q_nc (q_pd 116 140 rfl) List.not_mem_nil))))))).trans (hO0)
            exact q_retv C0 V (⟨0, 0, 0, hO0, (show ((0 : Int32).toInt = 0 ∧ ((0 ≤ x1.toInt ∧ x1.toInt ≤ 3) ∧ (0 ≤ x2.toInt ∧ x2.toInt ≤ 9)) ∧ (x1.toInt = 3 → lg_cmp ((x3.toUInt64 >>> ((32 : Int32).toInt64.toUInt64 &&& Int64.toUInt64 63)).toInt64) 0 = 0)) ∨ ((0 : Int32).toInt = 1 ∧ (¬ ((0 ≤ x1.toInt ∧ x1.toInt ≤ 3) ∧ (0 ≤ x2.toInt ∧ x2.toInt ≤ 9)) ∨ (x1.toInt = 3 ∧ ¬ lg_cmp ((x3.toUInt64 >>> ((32 : Int32).toInt64.toUInt64 &&& Int64.toUInt64 63)).toInt64) 0 = 0))) from by exact Or.inl ⟨by have t1 : 0 ≤ x1.toInt := q_nltI c13; have t2 : x1.toInt ≤ 3 := q_nltI c14; have t3 : 0 ≤ x2.toInt := q_nltI c15; have t4 : x2.toInt ≤ 9 := q_leI c16; have t5 : x1.toInt ≠ 3 := q_neI c36; have t6 : x1.toInt ≠ 0 := q_neI c40; have t7 : x1.toInt = 1 := q_eqI c41; have e0 : (0 : Int32).toInt = 0 := (by decide); omega, by have t1 : 0 ≤ x1.toInt := q_nltI c13; have t2 : x1.toInt ≤ 3 := q_nltI c14; have t3 : 0 ≤ x2.toInt := q_nltI c15; have t4 : x2.toInt ≤ 9 := q_leI c16; have t5 : x1.toInt ≠ 3 := q_neI c36; have t6 : x1.toInt ≠ 0 := q_neI c40; have t7 : x1.toInt = 1 := q_eqI c41; have e0 : (0 : Int32).toInt = 0 := (by decide); omega, fun h => absurd h (by have t1 : 0 ≤ x1.toInt := q_nltI c13; have t2 : x1.toInt ≤ 3 := q_nltI c14; have t3 : 0 ≤ x2.toInt := q_nltI c15; have t4 : x2.toInt ≤ 9 := q_leI c16; have t5 : x1.toInt ≠ 3 := q_neI c36; have t6 : x1.toInt ≠ 0 := q_neI c40; have t7 : x1.toInt = 1 := q_eqI c41; have e0 : (0 : Int32).toInt = 0 := (by decide); omega)⟩), hF⟩) d_14_16_80
          ·
            replace hF := q_gc hF hg65 (q_al (Nat.le_of_ble_eq_true rfl) (q_al (Nat.le_of_ble_eq_true rfl) (q_al (Nat.le_of_ble_eq_true rfl) (q_al (Nat.le_of_ble_eq_true rfl) (q_al (Nat.le_of_ble_eq_true rfl) (q_al (Nat.le_of_ble_eq_true rfl) (fun _ h => absurd h List.not_mem_nil)))))))
            refine lv_goto (tgt := 80) hx hb d_14_16_70 (by decide) ?_
            replace hO0 := (hg65 _ (q_nc (q_pd 116 134 rfl) (q_nc (q_pd 116 136 rfl) (q_nc (q_pd 116 137 rfl) (q_nc (q_pd 116 138 rfl) (q_nc (q_pd 116 139 rfl) (q_nc (q_pd 116 140 rfl) List.not_mem_nil))))))).trans (hO0)
            exact q_retv C0 V (⟨0, 0, 0, hO0, (show ((0 : Int32).toInt = 0 ∧ ((0 ≤ x1.toInt ∧ x1.toInt ≤ 3) ∧ (0 ≤ x2.toInt ∧ x2.toInt ≤ 9)) ∧ (x1.toInt = 3 → lg_cmp ((x3.toUInt64 >>> ((32 : Int32).toInt64.toUInt64 &&& Int64.toUInt64 63)).toInt64) 0 = 0)) ∨ ((0 : Int32).toInt = 1 ∧ (¬ ((0 ≤ x1.toInt ∧ x1.toInt ≤ 3) ∧ (0 ≤ x2.toInt ∧ x2.toInt ≤ 9)) ∨ (x1.toInt = 3 ∧ ¬ lg_cmp ((x3.toUInt64 >>> ((32 : Int32).toInt64.toUInt64 &&& Int64.toUInt64 63)).toInt64) 0 = 0))) from by exact Or.inl ⟨by have t1 : 0 ≤ x1.toInt := q_nltI c13; have t2 : x1.toInt ≤ 3 := q_nltI c14; have t3 : 0 ≤ x2.toInt := q_nltI c15; have t4 : x2.toInt ≤ 9 := q_leI c16; have t5 : x1.toInt ≠ 3 := q_neI c36; have t6 : x1.toInt ≠ 0 := q_neI c40; have t7 : x1.toInt = 1 := q_eqI c41; have e0 : (0 : Int32).toInt = 0 := (by decide); omega, by have t1 : 0 ≤ x1.toInt := q_nltI c13; have t2 : x1.toInt ≤ 3 := q_nltI c14; have t3 : 0 ≤ x2.toInt := q_nltI c15; have t4 : x2.toInt ≤ 9 := q_leI c16; have t5 : x1.toInt ≠ 3 := q_neI c36; have t6 : x1.toInt ≠ 0 := q_neI c40; have t7 : x1.toInt = 1 := q_eqI c41; have e0 : (0 : Int32).toInt = 0 := (by decide); omega, fun h => absurd h (by have t1 : 0 ≤ x1.toInt := q_nltI c13; have t2 : x1.toInt ≤ 3 := q_nltI c14; have t3 : 0 ≤ x2.toInt := q_nltI c15; have t4 : x2.toInt ≤ 9 := q_leI c16; have t5 : x1.toInt ≠ 3 := q_neI c36; have t6 : x1.toInt ≠ 0 := q_neI c40; have t7 : x1.toInt = 1 := q_eqI c41; have e0 : (0 : Int32).toInt = 0 := (by decide); omega)⟩), hF⟩) d_14_16_80
          ·
            replace hF := q_gc hF hg74 (q_al (Nat.le_of_ble_eq_true rfl) (q_al (Nat.le_of_ble_eq_true rfl) (q_al (Nat.le_of_ble_eq_true rfl) (q_al (Nat.le_of_ble_eq_true rfl) (q_al (Nat.le_of_ble_eq_true rfl) (q_al (Nat.le_of_ble_eq_true rfl) (fun _ h => absurd h List.not_mem_nil)))))))
            refine lv_goto (tgt := 80) hx hb d_14_16_70 (by decide) ?_
            replace hO0 := (hg74 _ (q_nc (q_pd 116 134 rfl) (q_nc (q_pd 116 136 rfl) (q_nc (q_pd 116 137 rfl) (q_nc (q_pd 116 138 rfl) (q_nc (q_pd 116 139 rfl) (q_nc (q_pd 116 140 rfl) List.not_mem_nil))))))).trans (hO0)
            exact q_retv C0 V (⟨0, 0, 0, hO0, (show ((0 : Int32).toInt = 0 ∧ ((0 ≤ x1.toInt ∧ x1.toInt ≤ 3) ∧ (0 ≤ x2.toInt ∧ x2.toInt ≤ 9)) ∧ (x1.toInt = 3 → lg_cmp ((x3.toUInt64 >>> ((32 : Int32).toInt64.toUInt64 &&& Int64.toUInt64 63)).toInt64) 0 = 0)) ∨ ((0 : Int32).toInt = 1 ∧ (¬ ((0 ≤ x1.toInt ∧ x1.toInt ≤ 3) ∧ (0 ≤ x2.toInt ∧ x2.toInt ≤ 9)) ∨ (x1.toInt = 3 ∧ ¬ lg_cmp ((x3.toUInt64 >>> ((32 : Int32).toInt64.toUInt64 &&& Int64.toUInt64 63)).toInt64) 0 = 0))) from by exact Or.inl ⟨by have t1 : 0 ≤ x1.toInt := q_nltI c13; have t2 : x1.toInt ≤ 3 := q_nltI c14; have t3 : 0 ≤ x2.toInt := q_nltI c15; have t4 : x2.toInt ≤ 9 := q_leI c16; have t5 : x1.toInt ≠ 3 := q_neI c36; have t6 : x1.toInt ≠ 0 := q_neI c40; have t7 : x1.toInt = 1 := q_eqI c41; have t8 : (y71.toInt + 1) < 19 := by { have e1 : (19 : Int32).toInt = 19 := (by decide); have e2 : ((y71 + 1) : Int32).toInt = (y71.toInt + 1) := (q_addI (x := y71.toInt) (y := 1) rfl (by decide) (by have t1 : 0 ≤ y71.toInt := q_leI f69; have t2 : y71.toInt ≤ 17 := q_leI f70; omega) (by have t1 : 0 ≤ y71.toInt := q_leI f69; have t2 : y71.toInt ≤ 17 := q_leI f70; omega)); have e3 := q_nleI c67; omega }; have t9 : 0 ≤ y71.toInt := q_leI f69; have t10 : y71.toInt ≤ 17 := q_leI f70; have e0 : (0 : Int32).toInt = 0 := (by decide); omega, by have t1 : 0 ≤ x1.toInt := q_nltI c13; have t2 : x1.toInt ≤ 3 := q_nltI c14; have t3 : 0 ≤ x2.toInt := q_nltI c15; have t4 : x2.toInt ≤ 9 := q_leI c16; have t5 : x1.toInt ≠ 3 := q_neI c36; have t6 : x1.toInt ≠ 0 := q_neI c40; have t7 : x1.toInt = 1 := q_eqI c41; have t8 : (y71.toInt + 1) < 19 := by { have e1 : (19 : Int32).toInt = 19 := (by decide); have e2 : ((y71 + 1) : Int32).toInt = (y71.toInt + 1) := (q_addI (x := y71.toInt) (y := 1) rfl (by decide) (by have t1 : 0 ≤ y71.toInt := q_leI f69; have t2 : y71.toInt ≤ 17 := q_leI f70; omega) (by have t1 : 0 ≤ y71.toInt := q_leI f69; have t2 : y71.toInt ≤ 17 := q_leI f70; omega)); have e3 := q_nleI c67; omega }; have t9 : 0 ≤ y71.toInt := q_leI f69; have t10 : y71.toInt ≤ 17 := q_leI f70; have e0 : (0 : Int32).toInt = 0 := (by decide); omega, fun h => absurd h (by have t1 : 0 ≤ x1.toInt := q_nltI c13; have t2 : x1.toInt ≤ 3 := q_nltI c14; have t3 : 0 ≤ x2.toInt := q_nltI c15; have t4 : x2.toInt ≤ 9 := q_leI c16; have t5 : x1.toInt ≠ 3 := q_neI c36; have t6 : x1.toInt ≠ 0 := q_neI c40; have t7 : x1.toInt = 1 := q_eqI c41; have t8 : (y71.toInt + 1) < 19 := by { have e1 : (19 : Int32).toInt = 19 := (by decide); have e2 : ((y71 + 1) : Int32).toInt = (y71.toInt + 1) := (q_addI (x := y71.toInt) (y := 1) rfl (by decide) (by have t1 : 0 ≤ y71.toInt := q_leI f69; have t2 : y71.toInt ≤ 17 := q_leI f70; omega) (by have t1 : 0 ≤ y71.toInt := q_leI f69; have t2 : y71.toInt ≤ 17 := q_leI f70; omega)); have e3 := q_nleI c67; omega }; have t9 : 0 ≤ y71.toInt := q_leI f69; have t10 : y71.toInt ≤ 17 := q_leI f70; have e0 : (0 : Int32).toInt = 0 := (by decide); omega)⟩), hF⟩) d_14_16_80
          ·
            replace hF := q_gc hF hg83 (q_al (Nat.le_of_ble_eq_true rfl) (q_al (Nat.le_of_ble_eq_true rfl) (q_al (Nat.le_of_ble_eq_true rfl) (q_al (Nat.le_of_ble_eq_true rfl) (q_al (Nat.le_of_ble_eq_true rfl) (q_al (Nat.le_of_ble_eq_true rfl) (fun _ h => absurd h List.not_mem_nil)))))))
            refine lv_goto (tgt := 80) hx hb d_14_16_70 (by decide) ?_
            replace hO0 := (hg83 _ (q_nc (q_pd 116 134 rfl) (q_nc (q_pd 116 136 rfl) (q_nc (q_pd 116 137 rfl) (q_nc (q_pd 116 138 rfl) (q_nc (q_pd 116 139 rfl) (q_nc (q_pd 116 140 rfl) List.not_mem_nil))))))).trans (hO0)
            exact q_retv C0 V (⟨0, 0, 0, hO0, (show ((0 : Int32).toInt = 0 ∧ ((0 ≤ x1.toInt ∧ x1.toInt ≤ 3) ∧ (0 ≤ x2.toInt ∧ x2.toInt ≤ 9)) ∧ (x1.toInt = 3 → lg_cmp ((x3.toUInt64 >>> ((32 : Int32).toInt64.toUInt64 &&& Int64.toUInt64 63)).toInt64) 0 = 0)) ∨ ((0 : Int32).toInt = 1 ∧ (¬ ((0 ≤ x1.toInt ∧ x1.toInt ≤ 3) ∧ (0 ≤ x2.toInt ∧ x2.toInt ≤ 9)) ∨ (x1.toInt = 3 ∧ ¬ lg_cmp ((x3.toUInt64 >>> ((32 : Int32).toInt64.toUInt64 &&& Int64.toUInt64 63)).toInt64) 0 = 0))) from by exact Or.inl ⟨by have t1 : 0 ≤ x1.toInt := q_nltI c13; have t2 : x1.toInt ≤ 3 := q_nltI c14; have t3 : 0 ≤ x2.toInt := q_nltI c15; have t4 : x2.toInt ≤ 9 := q_leI c16; have t5 : x1.toInt ≠ 3 := q_neI c36; have t6 : x1.toInt ≠ 0 := q_neI c40; have t7 : x1.toInt = 1 := q_eqI c41; have t8 : (y80.toInt + 1) < 19 := by { have e1 : (19 : Int32).toInt = 19 := (by decide); have e2 : ((y80 + 1) : Int32).toInt = (y80.toInt + 1) := (q_addI (x := y80.toInt) (y := 1) rfl (by decide) (by have t1 : 0 ≤ y80.toInt := q_leI f78; have t2 : y80.toInt ≤ 17 := q_leI f79; omega) (by have t1 : 0 ≤ y80.toInt := q_leI f78; have t2 : y80.toInt ≤ 17 := q_leI f79; omega)); have e3 := q_nleI c76; omega }; have t9 : 0 ≤ y80.toInt := q_leI f78; have t10 : y80.toInt ≤ 17 := q_leI f79; have e0 : (0 : Int32).toInt = 0 := (by decide); omega, by have t1 : 0 ≤ x1.toInt := q_nltI c13; have t2 : x1.toInt ≤ 3 := q_nltI c14; have t3 : 0 ≤ x2.toInt := q_nltI c15; have t4 : x2.toInt ≤ 9 := q_leI c16; have t5 : x1.toInt ≠ 3 := q_neI c36; have t6 : x1.toInt ≠ 0 := q_neI c40; have t7 : x1.toInt = 1 := q_eqI c41; have t8 : (y80.toInt + 1) < 19 := by { have e1 : (19 : Int32).toInt = 19 := (by decide); have e2 : ((y80 + 1) : Int32).toInt = (y80.toInt + 1) := (q_addI (x := y80.toInt) (y := 1) rfl (by decide) (by have t1 : 0 ≤ y80.toInt := q_leI f78; have t2 : y80.toInt ≤ 17 := q_leI f79; omega) (by have t1 : 0 ≤ y80.toInt := q_leI f78; have t2 : y80.toInt ≤ 17 := q_leI f79; omega)); have e3 := q_nleI c76; omega }; have t9 : 0 ≤ y80.toInt := q_leI f78; have t10 : y80.toInt ≤ 17 := q_leI f79; have e0 : (0 : Int32).toInt = 0 := (by decide); omega, fun h => absurd h (by have t1 : 0 ≤ x1.toInt := q_nltI c13; have t2 : x1.toInt ≤ 3 := q_nltI c14; have t3 : 0 ≤ x2.toInt := q_nltI c15; have t4 : x2.toInt ≤ 9 := q_leI c16; have t5 : x1.toInt ≠ 3 := q_neI c36; have t6 : x1.toInt ≠ 0 := q_neI c40; have t7 : x1.toInt = 1 := q_eqI c41; have t8 : (y80.toInt + 1) < 19 := by { have e1 : (19 : Int32).toInt = 19 := (by decide); have e2 : ((y80 + 1) : Int32).toInt = (y80.toInt + 1) := (q_addI (x := y80.toInt) (y := 1) rfl (by decide) (by have t1 : 0 ≤ y80.toInt := q_leI f78; have t2 : y80.toInt ≤ 17 := q_leI f79; omega) (by have t1 : 0 ≤ y80.toInt := q_leI f78; have t2 : y80.toInt ≤ 17 := q_leI f79; omega)); have e3 := q_nleI c76; omega }; have t9 : 0 ≤ y80.toInt := q_leI f78; have t10 : y80.toInt ≤ 17 := q_leI f79; have e0 : (0 : Int32).toInt = 0 := (by decide); omega)⟩), hF⟩) d_14_16_80
      ·
        refine lv_aload_n hx hb d_14_16_43 rfl (lv_at hl 0 rfl) ?_
        refine q_get (ci := 12) (j := 5) (v := .ref qO3) C0 V i_NM rfl rfl hO0 (by decide) w_2303 rfl d_14_16_44 ?_
        refine lv_iload_n hx hb d_14_16_47 rfl (lv_at hl 2 rfl) ?_
        refine lv_lload_n hx hb d_14_16_48 rfl (lv_at hl 3 rfl) ?_
        replace hO3 := (hu38 _ (q_pd 119 116 rfl)).trans (hO3)
        replace hA11 := (hu38 _ (q_pd 121 116 rfl)).trans (hA11)
        replace hA12 := (hu38 _ (q_pd 122 116 rfl)).trans (hA12)
        replace hA13 := (hu38 _ (q_pd 123 116 rfl)).trans (hA13)
        refine q_gov V (q_runV (As := [.int x2, .long x3]) (rest := []) (d := 3) (mc := 0) (ms := 0) (ci := 13) C0 V rfl LV_NM_124 (c_WR_put l D g w37 119 121 122 123 qO3 qA10 qA11 qA12 qA13 qA14 qA15 qA16 qA17 qA18 qA19 qA20 qA21 qA22 qA23 x2 x3 hO3 hA11 hA12 hA13 (q_pd 121 122 rfl) (q_pd 121 123 rfl) (q_pd 122 123 rfl) (q_Ile (x := 0) (y := x2.toInt) (by decide) rfl (by have t1 : 0 ≤ x2.toInt := q_nltI c15; have t2 : x2.toInt ≤ 9 := q_leI c16; omega)) c16 _) rfl rfl hO3 rfl hl.1 rfl (Nat.le_of_ble_eq_true rfl) ⟨by decide, by decide⟩ ⟨Nat.le_of_ble_eq_true rfl, Nat.le_of_ble_eq_true rfl⟩ d_14_16_49) (fun u85 H locs hp84 V => ?_)
        rcases hp84 with ⟨y87, c86, hg88, hO3, hA11, hA12, hA13⟩ | ⟨c89, hg90, hO3, hA11, hA12, hA13⟩ | ⟨y92, c91, hg93, hO3, hA11, hA12, hA13⟩ | ⟨y95, c94, hg96, hO3, hA11, hA12, hA13⟩ | ⟨c97, hg98, hO3, hA11, hA12, hA13⟩
        ·
          replace hF := q_gc hF hg88 (q_al (Nat.le_of_ble_eq_true rfl) (q_al (Nat.le_of_ble_eq_true rfl) (q_al (Nat.le_of_ble_eq_true rfl) (q_al (Nat.le_of_ble_eq_true rfl) (fun _ h => absurd h List.not_mem_nil)))))
          refine lv_goto (tgt := 80) hx hb d_14_16_52 (by decide) ?_
          replace hO0 := (hg88 _ (q_nc (q_pd 116 119 rfl) (q_nc (q_pd 116 121 rfl) (q_nc (q_pd 116 122 rfl) (q_nc (q_pd 116 123 rfl) List.not_mem_nil))))).trans (hO0)
          exact q_retv C0 V (⟨0, 0, 0, hO0, (show ((0 : Int32).toInt = 0 ∧ ((0 ≤ x1.toInt ∧ x1.toInt ≤ 3) ∧ (0 ≤ x2.toInt ∧ x2.toInt ≤ 9)) ∧ (x1.toInt = 3 → lg_cmp ((x3.toUInt64 >>> ((32 : Int32).toInt64.toUInt64 &&& Int64.toUInt64 63)).toInt64) 0 = 0)) ∨ ((0 : Int32).toInt = 1 ∧ (¬ ((0 ≤ x1.toInt ∧ x1.toInt ≤ 3) ∧ (0 ≤ x2.toInt ∧ x2.toInt ≤ 9)) ∨ (x1.toInt = 3 ∧ ¬ lg_cmp ((x3.toUInt64 >>> ((32 : Int32).toInt64.toUInt64 &&& Int64.toUInt64 63)).toInt64) 0 = 0))) from by exact Or.inl ⟨by have t1 : 0 ≤ x1.toInt := q_nltI c13; have t2 : x1.toInt ≤ 3 := q_nltI c14; have t3 : 0 ≤ x2.toInt := q_nltI c15; have t4 : x2.toInt ≤ 9 := q_leI c16; have t5 : x1.toInt ≠ 3 := q_neI c36; have t6 : x1.toInt = 0 := q_eqI c40; have e0 : (0 : Int32).toInt = 0 := (by decide); omega, by have t1 : 0 ≤ x1.toInt := q_nltI c13; have t2 : x1.toInt ≤ 3 := q_nltI c14; have t3 : 0 ≤ x2.toInt := q_nltI c15; have t4 : x2.toInt ≤ 9 := q_leI c16; have t5 : x1.toInt ≠ 3 := q_neI c36; have t6 : x1.toInt = 0 := q_eqI c40; have e0 : (0 : Int32).toInt = 0 := (by decide); omega, fun h => absurd h (by have t1 : 0 ≤ x1.toInt := q_nltI c13; have t2 : x1.toInt ≤ 3 := q_nltI c14; have t3 : 0 ≤ x2.toInt := q_nltI c15; have t4 : x2.toInt ≤ 9 := q_leI c16; have t5 : x1.toInt ≠ 3 := q_neI c36; have t6 : x1.toInt = 0 := q_eqI c40; have e0 : (0 : Int32).toInt = 0 := (by decide); omega)⟩), hF⟩) d_14_16_80
        ·
          replace hF := q_gc hF hg90 (q_al (Nat.le_of_ble_eq_true rfl) (q_al (Nat.le_of_ble_eq_true rfl) (q_al (Nat.le_of_ble_eq_true rfl) (q_al (Nat.le_of_ble_eq_true rfl) (fun _ h => absurd h List.not_mem_nil)))))
          refine lv_goto (tgt := 80) hx hb d_14_16_52 (by decide) ?_
          replace hO0 := (hg90 _ (q_nc (q_pd 116 119 rfl) (q_nc (q_pd 116 121 rfl) (q_nc (q_pd 116 122 rfl) (q_nc (q_pd 116 123 rfl) List.not_mem_nil))))).trans (hO0)
          exact q_retv C0 V (⟨0, 0, 0, hO0, (show ((0 : Int32).toInt = 0 ∧ ((0 ≤ x1.toInt ∧ x1.toInt ≤ 3) ∧ (0 ≤ x2.toInt ∧ x2.toInt ≤ 9)) ∧ (x1.toInt = 3 → lg_cmp ((x3.toUInt64 >>> ((32 : Int32).toInt64.toUInt64 &&& Int64.toUInt64 63)).toInt64) 0 = 0)) ∨ ((0 : Int32).toInt = 1 ∧ (¬ ((0 ≤ x1.toInt ∧ x1.toInt ≤ 3) ∧ (0 ≤ x2.toInt ∧ x2.toInt ≤ 9)) ∨ (x1.toInt = 3 ∧ ¬ lg_cmp ((x3.toUInt64 >>> ((32 : Int32).toInt64.toUInt64 &&& Int64.toUInt64 63)).toInt64) 0 = 0))) from by exact Or.inl ⟨by have t1 : 0 ≤ x1.toInt := q_nltI c13; have t2 : x1.toInt ≤ 3 := q_nltI c14; have t3 : 0 ≤ x2.toInt := q_nltI c15; have t4 : x2.toInt ≤ 9 := q_leI c16; have t5 : x1.toInt ≠ 3 := q_neI c36; have t6 : x1.toInt = 0 := q_eqI c40; have e0 : (0 : Int32).toInt = 0 := (by decide); omega, by have t1 : 0 ≤ x1.toInt := q_nltI c13; have t2 : x1.toInt ≤ 3 := q_nltI c14; have t3 : 0 ≤ x2.toInt := q_nltI c15; have t4 : x2.toInt ≤ 9 := q_leI c16; have t5 : x1.toInt ≠ 3 := q_neI c36; have t6 : x1.toInt = 0 := q_eqI c40; have e0 : (0 : Int32).toInt = 0 := (by decide); omega, fun h => absurd h (by have t1 : 0 ≤ x1.toInt := q_nltI c13; have t2 : x1.toInt ≤ 3 := q_nltI c14; have t3 : 0 ≤ x2.toInt := q_nltI c15; have t4 : x2.toInt ≤ 9 := q_leI c16; have t5 : x1.toInt ≠ 3 := q_neI c36; have t6 : x1.toInt = 0 := q_eqI c40; have e0 : (0 : Int32).toInt = 0 := (by decide); omega)⟩), hF⟩) d_14_16_80
        ·
          replace hF := q_gc hF hg93 (q_al (Nat.le_of_ble_eq_true rfl) (q_al (Nat.le_of_ble_eq_true rfl) (q_al (Nat.le_of_ble_eq_true rfl) (q_al (Nat.le_of_ble_eq_true rfl) (fun _ h => absurd h List.not_mem_nil)))))
          refine lv_goto (tgt := 80) hx hb d_14_16_52 (by decide) ?_
          replace hO0 := (hg93 _ (q_nc (q_pd 116 119 rfl) (q_nc (q_pd 116 121 rfl) (q_nc (q_pd 116 122 rfl) (q_nc (q_pd 116 123 rfl) List.not_mem_nil))))).trans (hO0)
          exact q_retv C0 V (⟨0, 0, 0, hO0, (show ((0 : Int32).toInt = 0 ∧ ((0 ≤ x1.toInt ∧ x1.toInt ≤ 3) ∧ (0 ≤ x2.toInt ∧ x2.toInt ≤ 9)) ∧ (x1.toInt = 3 → lg_cmp ((x3.toUInt64 >>> ((32 : Int32).toInt64.toUInt64 &&& Int64.toUInt64 63)).toInt64) 0 = 0)) ∨ ((0 : Int32).toInt = 1 ∧ (¬ ((0 ≤ x1.toInt ∧ x1.toInt ≤ 3) ∧ (0 ≤ x2.toInt ∧ x2.toInt ≤ 9)) ∨ (x1.toInt = 3 ∧ ¬ lg_cmp ((x3.toUInt64 >>> ((32 : Int32).toInt64.toUInt64 &&& Int64.toUInt64 63)).toInt64) 0 = 0))) from by exact Or.inl ⟨by have t1 : 0 ≤ x1.toInt := q_nltI c13; have t2 : x1.toInt ≤ 3 := q_nltI c14; have t3 : 0 ≤ x2.toInt := q_nltI c15; have t4 : x2.toInt ≤ 9 := q_leI c16; have t5 : x1.toInt ≠ 3 := q_neI c36; have t6 : x1.toInt = 0 := q_eqI c40; have e0 : (0 : Int32).toInt = 0 := (by decide); omega, by have t1 : 0 ≤ x1.toInt := q_nltI c13; have t2 : x1.toInt ≤ 3 := q_nltI c14; have t3 : 0 ≤ x2.toInt := q_nltI c15; have t4 : x2.toInt ≤ 9 := q_leI c16; have t5 : x1.toInt ≠ 3 := q_neI c36; have t6 : x1.toInt = 0 := q_eqI c40; have e0 : (0 : Int32).toInt = 0 := (by decide); omega, fun h => absurd h (by have t1 : 0 ≤ x1.toInt := q_nltI c13; have t2 : x1.toInt ≤ 3 := q_nltI c14; have t3 : 0 ≤ x2.toInt := q_nltI c15; have t4 : x2.toInt ≤ 9 := q_leI c16; have t5 : x1.toInt ≠ 3 := q_neI c36; have t6 : x1.toInt = 0 := q_eqI c40; have e0 : (0 : Int32).toInt = 0 := (by decide); omega)⟩), hF⟩) d_14_16_80
        ·
          replace hF := q_gc hF hg96 (q_al (Nat.le_of_ble_eq_true rfl) (q_al (Nat.le_of_ble_eq_true rfl) (q_al (Nat.le_of_ble_eq_true rfl) (q_al (Nat.le_of_ble_eq_true rfl) (fun _ h => absurd h List.not_mem_nil)))))
          refine lv_goto (tgt := 80) hx hb d_14_16_52 (by decide) ?_
          replace hO0 := (hg96 _ (q_nc (q_pd 116 119 rfl) (q_nc (q_pd 116 121 rfl) (q_nc (q_pd 116 122 rfl) (q_nc (q_pd 116 123 rfl) List.not_mem_nil))))).trans (hO0)
          exact q_retv C0 V (⟨0, 0, 0, hO0, (show ((0 : Int32).toInt = 0 ∧ ((0 ≤ x1.toInt ∧ x1.toInt ≤ 3) ∧ (0 ≤ x2.toInt ∧ x2.toInt ≤ 9)) ∧ (x1.toInt = 3 → lg_cmp ((x3.toUInt64 >>> ((32 : Int32).toInt64.toUInt64 &&& Int64.toUInt64 63)).toInt64) 0 = 0)) ∨ ((0 : Int32).toInt = 1 ∧ (¬ ((0 ≤ x1.toInt ∧ x1.toInt ≤ 3) ∧ (0 ≤ x2.toInt ∧ x2.toInt ≤ 9)) ∨ (x1.toInt = 3 ∧ ¬ lg_cmp ((x3.toUInt64 >>> ((32 : Int32).toInt64.toUInt64 &&& Int64.toUInt64 63)).toInt64) 0 = 0))) from by exact Or.inl ⟨by have t1 : 0 ≤ x1.toInt := q_nltI c13; have t2 : x1.toInt ≤ 3 := q_nltI c14; have t3 : 0 ≤ x2.toInt := q_nltI c15; have t4 : x2.toInt ≤ 9 := q_leI c16; have t5 : x1.toInt ≠ 3 := q_neI c36; have t6 : x1.toInt = 0 := q_eqI c40; have e0 : (0 : Int32).toInt = 0 := (by decide); omega, by have t1 : 0 ≤ x1.toInt := q_nltI c13; have t2 : x1.toInt ≤ 3 := q_nltI c14; have t3 : 0 ≤ x2.toInt := q_nltI c15; have t4 : x2.toInt ≤ 9 := q_leI c16; have t5 : x1.toInt ≠ 3 := q_neI c36; have t6 : x1.toInt = 0 := q_eqI c40; have e0 : (0 : Int32).toInt = 0 := (by decide); omega, fun h => absurd h (by have t1 : 0 ≤ x1.toInt := q_nltI c13; have t2 : x1.toInt ≤ 3 := q_nltI c14; have t3 : 0 ≤ x2.toInt := q_nltI c15; have t4 : x2.toInt ≤ 9 := q_leI c16; have t5 : x1.toInt ≠ 3 := q_neI c36; have t6 : x1.toInt = 0 := q_eqI c40; have e0 : (0 : Int32).toInt = 0 := (by decide); omega)⟩), hF⟩) d_14_16_80
        ·
          replace hF := q_gc hF hg98 (q_al (Nat.le_of_ble_eq_true rfl) (q_al (Nat.le_of_ble_eq_true rfl) (q_al (Nat.le_of_ble_eq_true rfl) (q_al (Nat.le_of_ble_eq_true rfl) (fun _ h => absurd h List.not_mem_nil)))))
          refine lv_goto (tgt := 80) hx hb d_14_16_52 (by decide) ?_
          replace hO0 := (hg98 _ (q_nc (q_pd 116 119 rfl) (q_nc (q_pd 116 121 rfl) (q_nc (q_pd 116 122 rfl) (q_nc (q_pd 116 123 rfl) List.not_mem_nil))))).trans (hO0)
          exact q_retv C0 V (⟨0, 0, 0, hO0, (show ((0 : Int32).toInt = 0 ∧ ((0 ≤ x1.toInt ∧ x1.toInt ≤ 3) ∧ (0 ≤ x2.toInt ∧ x2.toInt ≤ 9)) ∧ (x1.toInt = 3 → lg_cmp ((x3.toUInt64 >>> ((32 : Int32).toInt64.toUInt64 &&& Int64.toUInt64 63)).toInt64) 0 = 0)) ∨ ((0 : Int32).toInt = 1 ∧ (¬ ((0 ≤ x1.toInt ∧ x1.toInt ≤ 3) ∧ (0 ≤ x2.toInt ∧ x2.toInt ≤ 9)) ∨ (x1.toInt = 3 ∧ ¬ lg_cmp ((x3.toUInt64 >>> ((32 : Int32).toInt64.toUInt64 &&& Int64.toUInt64 63)).toInt64) 0 = 0))) from by exact Or.inl ⟨by have t1 : 0 ≤ x1.toInt := q_nltI c13; have t2 : x1.toInt ≤ 3 := q_nltI c14; have t3 : 0 ≤ x2.toInt := q_nltI c15; have t4 : x2.toInt ≤ 9 := q_leI c16; have t5 : x1.toInt ≠ 3 := q_neI c36; have t6 : x1.toInt = 0 := q_eqI c40; have e0 : (0 : Int32).toInt = 0 := (by decide); omega, by have t1 : 0 ≤ x1.toInt := q_nltI c13; have t2 : x1.toInt ≤ 3 := q_nltI c14; have t3 : 0 ≤ x2.toInt := q_nltI c15; have t4 : x2.toInt ≤ 9 := q_leI c16; have t5 : x1.toInt ≠ 3 := q_neI c36; have t6 : x1.toInt = 0 := q_eqI c40; have e0 : (0 : Int32).toInt = 0 := (by decide); omega, fun h => absurd h (by have t1 : 0 ≤ x1.toInt := q_nltI c13; have t2 : x1.toInt ≤ 3 := q_nltI c14; have t3 : 0 ≤ x2.toInt := q_nltI c15; have t4 : x2.toInt ≤ 9 := q_leI c16; have t5 : x1.toInt ≠ 3 := q_neI c36; have t6 : x1.toInt = 0 := q_eqI c40; have e0 : (0 : Int32).toInt = 0 := (by decide); omega)⟩), hF⟩) d_14_16_80
    ·
      refine lv_lload_n hx hb d_14_16_14 rfl (lv_at hl 3 rfl) ?_
      refine lv_bipush (v := 32) hx hb d_14_16_15 (by decide) ?_
      refine lv_lushr hx hb d_14_16_17 rfl ?_
      refine lv_lconst (v := 0) hx hb d_14_16_18 (by decide) ?_
      refine W.lcmp hx hb d_14_16_19 ?_
      refine lv_if_eq (tgt := 27) hx hb d_14_16_20 (by decide) (fun c99 => ?_) (fun c99 => ?_)
      ·
        refine lv_iconst (v := 0) hx hb d_14_16_27 (by decide) ?_
        refine q_put (ci := 12) (j := 0) (v := .int 0) (ty := .int) C0 V i_NM o_NM n_NM rfl rfl hO0 (by decide) w_2298 rfl rfl rfl rfl (Nat.le_of_ble_eq_true rfl) d_14_16_28 (fun H locs w100 hu101 hO0 V => ?_)
        replace hO0 : w100[116]? = some (qO0, .inr (12, [.int 0, .ref qA1, .int 0, .ref qA2, .int 0, .ref qO3, .ref qO4, .ref qO5, .ref qO6, .ref qO7, .ref qA8, .ref qA9])) := hO0
        replace hF := q_gs hF hu101 (Nat.le_of_ble_eq_true rfl)
        refine lv_aload_n hx hb d_14_16_31 rfl (lv_at hl 0 rfl) ?_
        refine q_get (ci := 12) (j := 0) (v := .int 0) C0 V i_NM rfl rfl hO0 (by decide) w_2298 rfl d_14_16_32 ?_
        refine lv_if_le (tgt := 39) hx hb d_14_16_35 (by decide) (fun c102 => ?_) (fun c102 => absurd (by decide) c102)
        refine lv_iload_n hx hb d_14_16_39 rfl (lv_at hl 1 rfl) ?_
        refine q_ti (v := 3) c36 ?_
        refine lv_if_ne (tgt := 55) hx hb d_14_16_40 (by decide) (fun c103 => ?_) (fun c103 => absurd c103 (by decide))
        refine lv_iload_n hx hb d_14_16_55 rfl (lv_at hl 1 rfl) ?_
        refine q_ti (v := 3) c36 ?_
        refine lv_iconst (v := 1) hx hb d_14_16_56 (by decide) ?_
        refine lv_icmp_ne (tgt := 73) hx hb d_14_16_57 (by decide) (fun c104 => ?_) (fun c104 => absurd c104 (by decide))
        refine lv_aload_n hx hb d_14_16_73 rfl (lv_at hl 0 rfl) ?_
        refine lv_iload_n hx hb d_14_16_74 rfl (lv_at hl 1 rfl) ?_
        refine q_ti (v := 3) c36 ?_
        refine lv_iload_n hx hb d_14_16_75 rfl (lv_at hl 2 rfl) ?_
        refine lv_lload_n hx hb d_14_16_76 rfl (lv_at hl 3 rfl) ?_
        replace hA8 := (hu101 _ (q_pd 167 116 rfl)).trans (hA8)
        refine q_gov V (q_runV (As := [.int 3, .int x2, .long x3]) (rest := []) (d := 1) (mc := 0) (ms := 0) (ci := 12) C0 V rfl LV_NM_120 (c_NM_setBits_5 l D g w100 qO0 qA1 qA2 qO3 qO4 qO5 qO6 qO7 qA8 qA9 x2 x3 hO0 hA8 (q_Ile (x := 0) (y := x2.toInt) (by decide) rfl (by have t1 : 0 ≤ x2.toInt := q_nltI c15; have t2 : x2.toInt ≤ 9 := q_leI c16; omega)) c16 _) rfl rfl hO0 rfl hl.1 rfl (Nat.le_of_ble_eq_true rfl) ⟨by decide, by decide⟩ ⟨Nat.le_of_ble_eq_true rfl, Nat.le_of_ble_eq_true rfl⟩ d_14_16_77) (fun u106 H locs hp105 V => ?_)
        obtain ⟨hg107, hA8⟩ := hp105
        replace hF := q_gc hF hg107 (q_al (Nat.le_of_ble_eq_true rfl) (fun _ h => absurd h List.not_mem_nil))
        replace hO0 := (hg107 _ (q_nc (q_pd 116 167 rfl) List.not_mem_nil)).trans (hO0)
        exact q_retv C0 V (⟨0, 0, 0, hO0, (show ((0 : Int32).toInt = 0 ∧ ((0 ≤ x1.toInt ∧ x1.toInt ≤ 3) ∧ (0 ≤ x2.toInt ∧ x2.toInt ≤ 9)) ∧ (x1.toInt = 3 → lg_cmp ((x3.toUInt64 >>> ((32 : Int32).toInt64.toUInt64 &&& Int64.toUInt64 63)).toInt64) 0 = 0)) ∨ ((0 : Int32).toInt = 1 ∧ (¬ ((0 ≤ x1.toInt ∧ x1.toInt ≤ 3) ∧ (0 ≤ x2.toInt ∧ x2.toInt ≤ 9)) ∨ (x1.toInt = 3 ∧ ¬ lg_cmp ((x3.toUInt64 >>> ((32 : Int32).toInt64.toUInt64 &&& Int64.toUInt64 63)).toInt64) 0 = 0))) from by exact Or.inl ⟨by have t1 : 0 ≤ x1.toInt := q_nltI c13; have t2 : x1.toInt ≤ 3 := q_nltI c14; have t3 : 0 ≤ x2.toInt := q_nltI c15; have t4 : x2.toInt ≤ 9 := q_leI c16; have t5 : x1.toInt = 3 := q_eqI c36; have e0 : (0 : Int32).toInt = 0 := (by decide); omega, by have t1 : 0 ≤ x1.toInt := q_nltI c13; have t2 : x1.toInt ≤ 3 := q_nltI c14; have t3 : 0 ≤ x2.toInt := q_nltI c15; have t4 : x2.toInt ≤ 9 := q_leI c16; have t5 : x1.toInt = 3 := q_eqI c36; have e0 : (0 : Int32).toInt = 0 := (by decide); omega, fun h => c99⟩), hF⟩) d_14_16_80
      ·
        refine lv_iconst (v := 1) hx hb d_14_16_23 (by decide) ?_
        refine lv_goto (tgt := 28) hx hb d_14_16_24 (by decide) ?_
        refine q_put (ci := 12) (j := 0) (v := .int 1) (ty := .int) C0 V i_NM o_NM n_NM rfl rfl hO0 (by decide) w_2298 rfl rfl rfl rfl (Nat.le_of_ble_eq_true rfl) d_14_16_28 (fun H locs w108 hu109 hO0 V => ?_)
        replace hO0 : w108[116]? = some (qO0, .inr (12, [.int 1, .ref qA1, .int 0, .ref qA2, .int 0, .ref qO3, .ref qO4, .ref qO5, .ref qO6, .ref qO7, .ref qA8, .ref qA9])) := hO0
        replace hF := q_gs hF hu109 (Nat.le_of_ble_eq_true rfl)
        refine lv_aload_n hx hb d_14_16_31 rfl (lv_at hl 0 rfl) ?_
        refine q_get (ci := 12) (j := 0) (v := .int 1) C0 V i_NM rfl rfl hO0 (by decide) w_2298 rfl d_14_16_32 ?_
        refine lv_if_le (tgt := 39) hx hb d_14_16_35 (by decide) (fun c110 => absurd c110 (by decide)) (fun c110 => ?_)
        exact q_retv C0 V (⟨1, 0, 0, hO0, (show ((1 : Int32).toInt = 0 ∧ ((0 ≤ x1.toInt ∧ x1.toInt ≤ 3) ∧ (0 ≤ x2.toInt ∧ x2.toInt ≤ 9)) ∧ (x1.toInt = 3 → lg_cmp ((x3.toUInt64 >>> ((32 : Int32).toInt64.toUInt64 &&& Int64.toUInt64 63)).toInt64) 0 = 0)) ∨ ((1 : Int32).toInt = 1 ∧ (¬ ((0 ≤ x1.toInt ∧ x1.toInt ≤ 3) ∧ (0 ≤ x2.toInt ∧ x2.toInt ≤ 9)) ∨ (x1.toInt = 3 ∧ ¬ lg_cmp ((x3.toUInt64 >>> ((32 : Int32).toInt64.toUInt64 &&& Int64.toUInt64 63)).toInt64) 0 = 0))) from by exact Or.inr ⟨by have t1 : 0 ≤ x1.toInt := q_nltI c13; have t2 : x1.toInt ≤ 3 := q_nltI c14; have t3 : 0 ≤ x2.toInt := q_nltI c15; have t4 : x2.toInt ≤ 9 := q_leI c16; have t5 : x1.toInt = 3 := q_eqI c36; have e0 : (1 : Int32).toInt = 1 := (by decide); omega, Or.inr ⟨by have t1 : 0 ≤ x1.toInt := q_nltI c13; have t2 : x1.toInt ≤ 3 := q_nltI c14; have t3 : 0 ≤ x2.toInt := q_nltI c15; have t4 : x2.toInt ≤ 9 := q_leI c16; have t5 : x1.toInt = 3 := q_eqI c36; have e0 : (1 : Int32).toInt = 1 := (by decide); omega, c99⟩⟩), hF⟩) d_14_16_38
  ·
    refine lv_if_ne (tgt := 23) hx hb d_14_16_6 (by decide) (fun c111 => ?_) (fun c111 => absurd c111 (by decide))
    refine lv_iconst (v := 1) hx hb d_14_16_23 (by decide) ?_
    refine lv_goto (tgt := 28) hx hb d_14_16_24 (by decide) ?_
    refine q_put (ci := 12) (j := 0) (v := .int 1) (ty := .int) C0 V i_NM o_NM n_NM rfl rfl hO0 (by decide) w_2298 rfl rfl rfl rfl (Nat.le_of_ble_eq_true rfl) d_14_16_28 (fun H locs w112 hu113 hO0 V => ?_)
    replace hO0 : w112[116]? = some (qO0, .inr (12, [.int 1, .ref qA1, .int 0, .ref qA2, .int 0, .ref qO3, .ref qO4, .ref qO5, .ref qO6, .ref qO7, .ref qA8, .ref qA9])) := hO0
    replace hF := q_gs hF hu113 (Nat.le_of_ble_eq_true rfl)
    refine lv_aload_n hx hb d_14_16_31 rfl (lv_at hl 0 rfl) ?_
    refine q_get (ci := 12) (j := 0) (v := .int 1) C0 V i_NM rfl rfl hO0 (by decide) w_2298 rfl d_14_16_32 ?_
    refine lv_if_le (tgt := 39) hx hb d_14_16_35 (by decide) (fun c114 => absurd c114 (by decide)) (fun c114 => ?_)
    exact q_retv C0 V (⟨1, 0, 0, hO0, (show ((1 : Int32).toInt = 0 ∧ ((0 ≤ x1.toInt ∧ x1.toInt ≤ 3) ∧ (0 ≤ x2.toInt ∧ x2.toInt ≤ 9)) ∧ (x1.toInt = 3 → lg_cmp ((x3.toUInt64 >>> ((32 : Int32).toInt64.toUInt64 &&& Int64.toUInt64 63)).toInt64) 0 = 0)) ∨ ((1 : Int32).toInt = 1 ∧ (¬ ((0 ≤ x1.toInt ∧ x1.toInt ≤ 3) ∧ (0 ≤ x2.toInt ∧ x2.toInt ≤ 9)) ∨ (x1.toInt = 3 ∧ ¬ lg_cmp ((x3.toUInt64 >>> ((32 : Int32).toInt64.toUInt64 &&& Int64.toUInt64 63)).toInt64) 0 = 0))) from by exact Or.inr ⟨by have t1 : 0 ≤ x1.toInt := q_nltI c18; have t2 : x1.toInt ≤ 3 := q_nltI c19; have t3 : 0 ≤ x2.toInt := q_nltI c20; have t4 : 9 < x2.toInt := q_nleI c21; have e0 : (1 : Int32).toInt = 1 := (by decide); omega, Or.inl (by have t1 : 0 ≤ x1.toInt := q_nltI c18; have t2 : x1.toInt ≤ 3 := q_nltI c19; have t3 : 0 ≤ x2.toInt := q_nltI c20; have t4 : 9 < x2.toInt := q_nleI c21; have e0 : (1 : Int32).toInt = 1 := (by decide); omega)⟩), hF⟩) d_14_16_38
