/-! the reference on a fresh object: put -/
set_option maxRecDepth 100000 in
set_option maxHeartbeats 4000000 in
theorem c_NM_setBits_4 (l : Launch) (D : va_G) (g : Nat → ClassId) (ws : va_W) ( qO0 qA1 qA2 qO3 qO4 qO5 qO6 qO7 qA8 qA9 : Nat) (x1 : Int32) (x2 : Int64) (hO0 : ws[116]? = (some (qO0, .inr (12, [.int 0, .ref qA1, .int 0, .ref qA2, .int 0, .ref qO3, .ref qO4, .ref qO5, .ref qO6, .ref qO7, .ref qA8, .ref qA9])) : Option (Nat × va_E))) (hA8 : ws[167]? = (some (qA8, .inl (g 1, 20, .inr (.inl (fun _ => 0)))) : Option (Nat × va_E))) (x1lo : 0 ≤ x1) (x1hi : x1 ≤ 9) : q_mV l y_NM_setBits prog_14_method_12_code 5 1 0 0 D g [.ref qO0, .int 2, .int x1, .long x2] ws (fun u => q_un ws u [167] ∧ u[167]? = (some (qA8, .inl (g 1, 20, .inr (.inl (vp_updL (fun _ => 0) x1.toNatClampNeg x2)))) : Option (Nat × va_E))) := by
  intro sz
  refine q_into (by decide) (Nat.le_of_ble_eq_true rfl) ?_
  intro p e s m below meth c ls hsz C0 V hl
  have hx := C0.1
  have hb := C0.2.1
  have hl : lv_has ls 5 [(0, .ref qO0), (1, .int 2), (2, .int x1), (3, .long x2)] := hl
  have hF : q_un ws ws [167] := q_u0
  refine lv_aload_n hx hb d_14_12_0 rfl (lv_at hl 0 rfl) ?_
  refine q_get (ci := 12) (j := 10) (v := .ref qA8) C0 V i_NM rfl rfl hO0 (by decide) w_2308 rfl d_14_12_1 ?_
  refine lv_iload_n hx hb d_14_12_4 rfl (lv_at hl 1 rfl) ?_
  refine lv_iconst (v := 3) hx hb d_14_12_5 (by decide) ?_
  refine lv_icmp_ne (tgt := 16) hx hb d_14_12_6 (by decide) (fun c1 => ?_) (fun c1 => absurd c1 (by decide))
  refine lv_iload_n hx hb d_14_12_16 rfl (lv_at hl 2 rfl) ?_
  refine lv_lload_n hx hb d_14_12_17 rfl (lv_at hl 3 rfl) ?_
  refine q_last C0 V hA8 (q_ix (x := x1.toInt) rfl (by have t1 : 0 ≤ x1.toInt := q_leI x1lo; have t2 : x1.toInt ≤ 9 := q_leI x1hi; omega) (by have t1 : 0 ≤ x1.toInt := q_leI x1lo; have t2 : x1.toInt ≤ 9 := q_leI x1hi; omega)) d_14_12_18 (fun H locs w2 hu3 hA8 V => ?_)
  replace hA8 : w2[167]? = (some (qA8, .inl (g 1, 20, .inr (.inl (vp_updL (fun _ => 0) x1.toNatClampNeg x2)))) : Option (Nat × va_E)) := hA8
  replace hF := q_us hF hu3 (.head _)
  exact q_retv C0 V (⟨hF, hA8⟩) d_14_12_19
set_option maxRecDepth 100000 in
set_option maxHeartbeats 4000000 in
theorem c_DR_trim_6 (l : Launch) (D : va_G) (g : Nat → ClassId) (ws : va_W) (kO0 kA6 qO0 qA1 qA2 qA3 qA4 qA5 qA6 qA7 qA8 qA9 qA10 : Nat) (hO0 : ws[kO0]? = (some (qO0, .inr (14, [.int 0, .ref qA1, .int 0, .ref qA2, .ref qA3, .ref qA4, .ref qA5, .ref qA6, .int 19, .long 0, .int 0, .int 0, .ref qA7, .int 0, .ref qA8, .int 0, .ref qA9, .int 0, .ref qA10, .int 0, .int 2])) : Option (Nat × va_E))) (hA6 : ws[kA6]? = (some (qA6, .inl (g 0, 4400, .inl (fun _ => 0))) : Option (Nat × va_E))) : q_mV l y_DR_trim prog_15_method_7_code 3 1 0 0 D g [.ref qO0] ws (fun u => q_un ws u [kO0, kA6] ∧ u[kO0]? = (some (qO0, .inr (14, [.int 0, .ref qA1, .int 0, .ref qA2, .ref qA3, .ref qA4, .ref qA5, .ref qA6, .int 1, .long 0, .int 0, .int 0, .ref qA7, .int 0, .ref qA8, .int 0, .ref qA9, .int 0, .ref qA10, .int 0, .int 2])) : Option (Nat × va_E)) ∧ u[kA6]? = (some (qA6, .inl (g 0, 4400, .inl (fun _ => 0))) : Option (Nat × va_E))) := by
  intro sz
  refine q_into (by decide) (Nat.le_of_ble_eq_true rfl) ?_
  intro p e s m below meth c ls hsz C0 V hl
  have hx := C0.1
  have hb := C0.2.1
  have hl : lv_has ls 3 [(0, .ref qO0)] := hl
  have n_A6_O0 := q_df hA6 hO0
  have n_O0_A6 := Ne.symm (q_df hA6 hO0)
  have hF : q_un ws ws [kO0, kA6] := q_u0
  refine lv_iconst (v := 0) hx hb d_15_7_0 (by decide) ?_
  refine lv_istore_n (lv' := [(1, .int 0), (0, .ref qO0)]) hx hb d_15_7_1 rfl hl (by decide) rfl (fun ls hl => ?_)
  refine q_loop (X := Int32) (fun z H locs ls w2 => (0 ≤ z.toInt ∧ (z.toInt ≤ 18 ∨ z.toInt = 0)) ∧ q_Wd D g (va_A ws sz) s w2 H locs ∧ lv_has ls 3 [(1, .int z), (0, .ref qO0)] ∧ q_un ws w2 [kO0, kA6] ∧ w2[kO0]? = (some (qO0, .inr (14, [.int 0, .ref qA1, .int 0, .ref qA2, .ref qA3, .ref qA4, .ref qA5, .ref qA6, .int 19, .long 0, .int 0, .int 0, .ref qA7, .int 0, .ref qA8, .int 0, .ref qA9, .int 0, .ref qA10, .int 0, .int 2])) : Option (Nat × va_E)) ∧ w2[kA6]? = (some (qA6, .inl (g 0, 4400, .inl (fun _ => 0))) : Option (Nat × va_E))) (fun z => (18 - z.toInt).toNat) ?_ ((0 : Int32)) _ _ _ ws ⟨⟨by decide, Or.inr (by decide)⟩, V, hl, hF, hO0, hA6⟩
  rintro lx1 H locs ls w2 ⟨i3, V, hl, hF, hO0, hA6⟩ ih4
  replace i3 : 0 ≤ lx1.toInt ∧ (lx1.toInt ≤ 18 ∨ lx1.toInt = 0) := i3
  replace hl : lv_has ls 3 [(1, .int lx1), (0, .ref qO0)] := hl
  replace hO0 : w2[kO0]? = (some (qO0, .inr (14, [.int 0, .ref qA1, .int 0, .ref qA2, .ref qA3, .ref qA4, .ref qA5, .ref qA6, .int 19, .long 0, .int 0, .int 0, .ref qA7, .int 0, .ref qA8, .int 0, .ref qA9, .int 0, .ref qA10, .int 0, .int 2])) : Option (Nat × va_E)) := hO0
  replace hA6 : w2[kA6]? = (some (qA6, .inl (g 0, 4400, .inl (fun _ => 0))) : Option (Nat × va_E)) := hA6
  refine lv_iload_n hx hb d_15_7_2 rfl (lv_at hl 0 rfl) ?_
  refine lv_iconst (v := 1) hx hb d_15_7_3 (by decide) ?_
  refine lv_iadd hx hb d_15_7_4 ?_
  refine lv_aload_n hx hb d_15_7_5 rfl (lv_at hl 1 rfl) ?_
  refine q_get (ci := 14) (j := 8) (v := .int 19) C0 V i_DR rfl rfl hO0 (by decide) w_2011 rfl d_15_7_6 ?_
  refine lv_icmp_ge (tgt := 27) hx hb d_15_7_9 (by decide) (fun c5 => ?_) (fun c5 => ?_)
  ·
    refine lv_iconst (v := 0) hx hb d_15_7_27 (by decide) ?_
    refine lv_istore_n (lv' := [(2, .int 0), (1, .int lx1), (0, .ref qO0)]) hx hb d_15_7_28 rfl hl (by decide) rfl (fun ls hl => ?_)
    refine lv_iload_n hx hb d_15_7_29 rfl (lv_at hl 0 rfl) ?_
    refine lv_iload_n hx hb d_15_7_30 rfl (lv_at hl 1 rfl) ?_
    refine q_ti (v := 18) (q_Ieq (x := lx1.toInt) (y := 18) rfl (by decide) (by have t1 : 19 ≤ (lx1.toInt + 1) := by { have e1 : (19 : Int32).toInt = 19 := (by decide); have e2 : ((lx1 + 1) : Int32).toInt = (lx1.toInt + 1) := (q_addI (x := lx1.toInt) (y := 1) rfl (by decide) (by omega) (by omega)); have e3 := q_leI c5; omega }; omega)) ?_
    refine lv_iadd hx hb d_15_7_31 ?_
    refine q_ti (v := 18) (by decide) ?_
    refine lv_aload_n hx hb d_15_7_32 rfl (lv_at hl 2 rfl) ?_
    refine q_get (ci := 14) (j := 8) (v := .int 19) C0 V i_DR rfl rfl hO0 (by decide) w_2011 rfl d_15_7_33 ?_
    refine lv_icmp_ge (tgt := 59) hx hb d_15_7_36 (by decide) (fun c6 => absurd c6 (by decide)) (fun c6 => ?_)
    refine lv_aload_n hx hb d_15_7_39 rfl (lv_at hl 2 rfl) ?_
    refine q_get (ci := 14) (j := 7) (v := .ref qA6) C0 V i_DR rfl rfl hO0 (by decide) w_2010 rfl d_15_7_40 ?_
    refine lv_iload_n hx hb d_15_7_43 rfl (lv_at hl 0 rfl) ?_
    refine lv_aload_n hx hb d_15_7_44 rfl (lv_at hl 2 rfl) ?_
    refine q_get (ci := 14) (j := 7) (v := .ref qA6) C0 V i_DR rfl rfl hO0 (by decide) w_2010 rfl d_15_7_45 ?_
    refine lv_iload_n hx hb d_15_7_48 rfl (lv_at hl 0 rfl) ?_
    refine lv_iload_n hx hb d_15_7_49 rfl (lv_at hl 1 rfl) ?_
    refine q_ti (v := 18) (q_Ieq (x := lx1.toInt) (y := 18) rfl (by decide) (by have t1 : 19 ≤ (lx1.toInt + 1) := by { have e1 : (19 : Int32).toInt = 19 := (by decide); have e2 : ((lx1 + 1) : Int32).toInt = (lx1.toInt + 1) := (q_addI (x := lx1.toInt) (y := 1) rfl (by decide) (by omega) (by omega)); have e3 := q_leI c5; omega }; omega)) ?_
    refine lv_iadd hx hb d_15_7_50 ?_
    refine q_ti (v := 18) (by decide) ?_
    refine q_iald C0 V hA6 (by unfold vp_in; decide) d_15_7_51 ?_
    refine q_ti (v := 0) (by first | rfl | decide | simp [upd, vp_updL, sb_cl0]) ?_
    refine q_iast C0 V hA6 (by unfold vp_in; decide) d_15_7_52 (fun H locs w7 hu8 hA6 V => ?_)
    replace hA6 := q_re (y := (qA6, .inl (g 0, 4400, .inl (fun _ => 0)))) hA6 (q_eI q_upd0)
    replace hA6 : w7[kA6]? = (some (qA6, .inl (g 0, 4400, .inl (fun _ => 0))) : Option (Nat × va_E)) := hA6
    replace hF := q_us hF hu8 (.tail _ (.head _))
    refine lv_iinc (v := 1) (lv' := [(2, .int 1), (1, .int lx1), (0, .ref qO0)]) hx hb d_15_7_53 hl (k := 0) rfl (by decide) (by decide) rfl (fun ls hl => ?_)
    refine lv_goto (tgt := 29) hx hb d_15_7_56 (by decide) ?_
    refine lv_iload_n hx hb d_15_7_29 rfl (lv_at hl 0 rfl) ?_
    refine lv_iload_n hx hb d_15_7_30 rfl (lv_at hl 1 rfl) ?_
    refine q_ti (v := 18) (q_Ieq (x := lx1.toInt) (y := 18) rfl (by decide) (by have t1 : 19 ≤ (lx1.toInt + 1) := by { have e1 : (19 : Int32).toInt = 19 := (by decide); have e2 : ((lx1 + 1) : Int32).toInt = (lx1.toInt + 1) := (q_addI (x := lx1.toInt) (y := 1) rfl (by decide) (by omega) (by omega)); have e3 := q_leI c5; omega }; omega)) ?_
    refine lv_iadd hx hb d_15_7_31 ?_
    refine q_ti (v := 19) (by decide) ?_
    refine lv_aload_n hx hb d_15_7_32 rfl (lv_at hl 2 rfl) ?_
    replace hO0 := (hu8 _ n_O0_A6).trans (hO0)
    refine q_get (ci := 14) (j := 8) (v := .int 19) C0 V i_DR rfl rfl hO0 (by decide) w_2011 rfl d_15_7_33 ?_
    refine lv_icmp_ge (tgt := 59) hx hb d_15_7_36 (by decide) (fun c9 => ?_) (fun c9 => absurd (by decide) c9)
    refine lv_aload_n hx hb d_15_7_59 rfl (lv_at hl 2 rfl) ?_
    refine q_get (ci := 14) (j := 8) (v := .int 19) C0 V i_DR rfl rfl hO0 (by decide) w_2011 rfl d_15_7_60 ?_
    refine lv_if_ne (tgt := 81) hx hb d_15_7_63 (by decide) (fun c10 => ?_) (fun c10 => absurd c10 (by decide))
    refine lv_aload_n hx hb d_15_7_81 rfl (lv_at hl 2 rfl) ?_
    refine lv_aload_n hx hb d_15_7_82 rfl (lv_at hl 2 rfl) ?_
    refine q_get (ci := 14) (j := 8) (v := .int 19) C0 V i_DR rfl rfl hO0 (by decide) w_2011 rfl d_15_7_83 ?_
    refine lv_iload_n hx hb d_15_7_86 rfl (lv_at hl 1 rfl) ?_
    refine q_ti (v := 18) (q_Ieq (x := lx1.toInt) (y := 18) rfl (by decide) (by have t1 : 19 ≤ (lx1.toInt + 1) := by { have e1 : (19 : Int32).toInt = 19 := (by decide); have e2 : ((lx1 + 1) : Int32).toInt = (lx1.toInt + 1) := (q_addI (x := lx1.toInt) (y := 1) rfl (by decide) (by omega) (by omega)); have e3 := q_leI c5; omega }; omega)) ?_
    refine lv_isub hx hb d_15_7_87 ?_
    refine q_ti (v := 1) (by decide) ?_
    refine q_put (ci := 14) (j := 8) (v := .int 1) (ty := .int) C0 V i_DR o_DR n_DR rfl rfl hO0 (by decide) w_2011 rfl rfl rfl rfl (Nat.le_of_ble_eq_true rfl) d_15_7_88 (fun H locs w11 hu12 hO0 V => ?_)
    replace hO0 : w11[kO0]? = (some (qO0, .inr (14, [.int 0, .ref qA1, .int 0, .ref qA2, .ref qA3, .ref qA4, .ref qA5, .ref qA6, .int 1, .long 0, .int 0, .int 0, .ref qA7, .int 0, .ref qA8, .int 0, .ref qA9, .int 0, .ref qA10, .int 0, .int 2])) : Option (Nat × va_E)) := hO0
    replace hF := q_us hF hu12 (.head _)
    refine lv_aload_n hx hb d_15_7_91 rfl (lv_at hl 2 rfl) ?_
    refine lv_aload_n hx hb d_15_7_92 rfl (lv_at hl 2 rfl) ?_
    refine q_get (ci := 14) (j := 11) (v := .int 0) C0 V i_DR rfl rfl hO0 (by decide) w_2014 rfl d_15_7_93 ?_
    refine lv_if_eq (tgt := 112) hx hb d_15_7_96 (by decide) (fun c13 => ?_) (fun c13 => absurd (by decide) c13)
    refine lv_iconst (v := 0) hx hb d_15_7_112 (by decide) ?_
    refine q_put (ci := 14) (j := 11) (v := .int 0) (ty := .boolean) C0 V i_DR o_DR n_DR rfl rfl hO0 (by decide) w_2014 rfl rfl rfl rfl (Nat.le_of_ble_eq_true rfl) d_15_7_113 (fun H locs w14 hu15 hO0 V => ?_)
    replace hO0 : w14[kO0]? = (some (qO0, .inr (14, [.int 0, .ref qA1, .int 0, .ref qA2, .ref qA3, .ref qA4, .ref qA5, .ref qA6, .int 1, .long 0, .int 0, .int 0, .ref qA7, .int 0, .ref qA8, .int 0, .ref qA9, .int 0, .ref qA10, .int 0, .int 2])) : Option (Nat × va_E)) := hO0
    replace hF := q_us hF hu15 (.head _)
    replace hA6 := (hu15 _ n_A6_O0).trans ((hu12 _ n_A6_O0).trans (hA6))
    exact q_retv C0 V (⟨hF, hO0, hA6⟩) d_15_7_116
  ·
    refine lv_aload_n hx hb d_15_7_12 rfl (lv_at hl 1 rfl) ?_
    refine q_get (ci := 14) (j := 7) (v := .ref qA6) C0 V i_DR rfl rfl hO0 (by decide) w_2010 rfl d_15_7_13 ?_
    refine lv_iload_n hx hb d_15_7_16 rfl (lv_at hl 0 rfl) ?_
    refine q_iald C0 V hA6 (q_ix (x := lx1.toInt) rfl (by have t1 : (lx1.toInt + 1) < 19 := by { have e1 : (19 : Int32).toInt = 19 := (by decide); have e2 : ((lx1 + 1) : Int32).toInt = (lx1.toInt + 1) := (q_addI (x := lx1.toInt) (y := 1) rfl (by decide) (by omega) (by omega)); have e3 := q_nleI c5; omega }; omega) (by have t1 : (lx1.toInt + 1) < 19 := by { have e1 : (19 : Int32).toInt = 19 := (by decide); have e2 : ((lx1 + 1) : Int32).toInt = (lx1.toInt + 1) := (q_addI (x := lx1.toInt) (y := 1) rfl (by decide) (by omega) (by omega)); have e3 := q_nleI c5; omega }; omega)) d_15_7_17 ?_
    refine q_ti (v := 0) (by first | rfl | decide | simp [upd, vp_updL, sb_cl0]) ?_
    refine lv_if_ne (tgt := 27) hx hb d_15_7_18 (by decide) (fun c16 => absurd (by decide) c16) (fun c16 => ?_)
    refine lv_iinc (v := lx1 + 1) (lv' := [(1, .int (lx1 + 1)), (0, .ref qO0)]) hx hb d_15_7_21 hl (k := 0) rfl (rfl) (by decide) rfl (fun ls hl => ?_)
    refine lv_goto (tgt := 2) hx hb d_15_7_24 (by decide) ?_
    exact ih4 ((lx1 + 1 : Int32)) _ _ _ _ (show (18 - (lx1 + 1).toInt).toNat < (18 - lx1.toInt).toNat from by have t1 : (lx1.toInt + 1) < 19 := by { have e1 : (19 : Int32).toInt = 19 := (by decide); have e2 : ((lx1 + 1) : Int32).toInt = (lx1.toInt + 1) := (q_addI (x := lx1.toInt) (y := 1) rfl (by decide) (by omega) (by omega)); have e3 := q_nleI c5; omega }; have e : (lx1 + 1).toInt = (lx1.toInt + 1) := (q_addI (x := lx1.toInt) (y := 1) rfl (by decide) (by have t1 : (lx1.toInt + 1) < 19 := by { have e1 : (19 : Int32).toInt = 19 := (by decide); have e2 : ((lx1 + 1) : Int32).toInt = (lx1.toInt + 1) := (q_addI (x := lx1.toInt) (y := 1) rfl (by decide) (by omega) (by omega)); have e3 := q_nleI c5; omega }; omega) (by have t1 : (lx1.toInt + 1) < 19 := by { have e1 : (19 : Int32).toInt = 19 := (by decide); have e2 : ((lx1 + 1) : Int32).toInt = (lx1.toInt + 1) := (q_addI (x := lx1.toInt) (y := 1) rfl (by decide) (by omega) (by omega)); have e3 := q_nleI c5; omega }; omega)); omega) ⟨(show 0 ≤ (lx1 + 1).toInt ∧ ((lx1 + 1).toInt ≤ 18 ∨ (lx1 + 1).toInt = 0) from by have t1 : (lx1.toInt + 1) < 19 := by { have e1 : (19 : Int32).toInt = 19 := (by decide); have e2 : ((lx1 + 1) : Int32).toInt = (lx1.toInt + 1) := (q_addI (x := lx1.toInt) (y := 1) rfl (by decide) (by omega) (by omega)); have e3 := q_nleI c5; omega }; have e : (lx1 + 1).toInt = (lx1.toInt + 1) := (q_addI (x := lx1.toInt) (y := 1) rfl (by decide) (by have t1 : (lx1.toInt + 1) < 19 := by { have e1 : (19 : Int32).toInt = 19 := (by decide); have e2 : ((lx1 + 1) : Int32).toInt = (lx1.toInt + 1) := (q_addI (x := lx1.toInt) (y := 1) rfl (by decide) (by omega) (by omega)); have e3 := q_nleI c5; omega }; omega) (by have t1 : (lx1.toInt + 1) < 19 := by { have e1 : (19 : Int32).toInt = 19 := (by decide); have e2 : ((lx1 + 1) : Int32).toInt = (lx1.toInt + 1) := (q_addI (x := lx1.toInt) (y := 1) rfl (by decide) (by omega) (by omega)); have e3 := q_nleI c5; omega }; omega)); omega), V, q_lw hl (q_lw1 0 rfl (q_lw1 1 rfl q_lw0)), hF, hO0, hA6⟩
set_option maxRecDepth 100000 in
set_option maxHeartbeats 4000000 in
theorem c_DR_store_6 (l : Launch) (D : va_G) (g : Nat → ClassId) (ws : va_W) (kO0 kA2 kA3 kA4 kA5 kA6 qO0 qA1 qA2 qA3 qA4 qA5 qA6 qA7 qA8 qA9 qA10 : Nat) (x1 : Int32) (hO0 : ws[kO0]? = (some (qO0, .inr (14, [.int 0, .ref qA1, .int 0, .ref qA2, .ref qA3, .ref qA4, .ref qA5, .ref qA6, .int 19, .long 0, .int 0, .int 0, .ref qA7, .int 0, .ref qA8, .int 0, .ref qA9, .int 0, .ref qA10, .int 0, .int 2])) : Option (Nat × va_E))) (hA2 : ws[kA2]? = (some (qA2, .inl (g 0, 10000, .inl (fun _ => 0))) : Option (Nat × va_E))) (hA3 : ws[kA3]? = (some (qA3, .inl (g 0, 10, .inl (upd (upd (upd (upd (upd (upd (upd (upd (upd (upd (fun _ => 0) 0 1) 1 1) 2 1) 3 1) 4 1) 5 1) 6 1) 7 1) 8 1) 9 1))) : Option (Nat × va_E))) (hA4 : ws[kA4]? = (some (qA4, .inl (g 3, 10, .inl (fun _ => 0))) : Option (Nat × va_E))) (hA5 : ws[kA5]? = (some (qA5, .inl (g 0, 10, .inl (fun _ => 0))) : Option (Nat × va_E))) (hA6 : ws[kA6]? = (some (qA6, .inl (g 0, 4400, .inl (fun _ => 0))) : Option (Nat × va_E))) (n_A2_A3 : kA2 ≠ kA3) (n_A2_A4 : kA2 ≠ kA4) (n_A2_A5 : kA2 ≠ kA5) (n_A2_A6 : kA2 ≠ kA6) (n_A3_A4 : kA3 ≠ kA4) (n_A3_A5 : kA3 ≠ kA5) (n_A3_A6 : kA3 ≠ kA6) (n_A4_A5 : kA4 ≠ kA5) (n_A4_A6 : kA4 ≠ kA6) (n_A5_A6 : kA5 ≠ kA6) (x1lo : 0 ≤ x1) (x1hi : x1 ≤ 9) : q_mV l y_DR_store prog_15_method_8_code 3 2 0 0 D g [.ref qO0, .int x1] ws (fun u => q_un ws u [kO0, kA2, kA3, kA4, kA5, kA6] ∧ u[kO0]? = (some (qO0, .inr (14, [.int 0, .ref qA1, .int 0, .ref qA2, .ref qA3, .ref qA4, .ref qA5, .ref qA6, .int 1, .long 0, .int 0, .int 0, .ref qA7, .int 0, .ref qA8, .int 0, .ref qA9, .int 0, .ref qA10, .int 0, .int 2])) : Option (Nat × va_E)) ∧ u[kA2]? = (some (qA2, .inl (g 0, 10000, .inl (fun _ => 0))) : Option (Nat × va_E)) ∧ u[kA3]? = (some (qA3, .inl (g 0, 10, .inl (upd (upd (upd (upd (upd (upd (upd (upd (upd (upd (upd (fun _ => 0) 0 1) 1 1) 2 1) 3 1) 4 1) 5 1) 6 1) 7 1) 8 1) 9 1) x1.toNatClampNeg 1))) : Option (Nat × va_E)) ∧ u[kA4]? = (some (qA4, .inl (g 3, 10, .inl (fun _ => 0))) : Option (Nat × va_E)) ∧ u[kA5]? = (some (qA5, .inl (g 0, 10, .inl (fun _ => 0))) : Option (Nat × va_E)) ∧ u[kA6]? = (some (qA6, .inl (g 0, 4400, .inl (fun _ => 0))) : Option (Nat × va_E))) := by
  intro sz
  refine q_into (by decide) (Nat.le_of_ble_eq_true rfl) ?_
  intro p e s m below meth c ls hsz C0 V hl
  have hx := C0.1
  have hb := C0.2.1
  have hl : lv_has ls 3 [(0, .ref qO0), (1, .int x1)] := hl
  have n_A2_O0 := q_df hA2 hO0
  have n_A3_A2 := Ne.symm n_A2_A3
  have n_A3_O0 := q_df hA3 hO0
  have n_A4_A2 := Ne.symm n_A2_A4
  have n_A4_A3 := Ne.symm n_A3_A4
  have n_A4_O0 := q_df hA4 hO0
  have n_A5_A2 := Ne.symm n_A2_A5
  have n_A5_A3 := Ne.symm n_A3_A5
  have n_A5_A4 := Ne.symm n_A4_A5
  have n_A5_O0 := q_df hA5 hO0
  have n_A6_A2 := Ne.symm n_A2_A6
  have n_A6_A3 := Ne.symm n_A3_A6
  have n_A6_A4 := Ne.symm n_A4_A6
  have n_A6_A5 := Ne.symm n_A5_A6
  have n_O0_A2 := Ne.symm (q_df hA2 hO0)
  have n_O0_A3 := Ne.symm (q_df hA3 hO0)
  have n_O0_A4 := Ne.symm (q_df hA4 hO0)
  have n_O0_A5 := Ne.symm (q_df hA5 hO0)
  have hF : q_un ws ws [kO0, kA2, kA3, kA4, kA5, kA6] := q_u0
  refine lv_aload_n hx hb d_15_8_0 rfl (lv_at hl 0 rfl) ?_
  refine q_gov V (q_runV (As := []) (rest := []) (d := 1) (mc := 0) (ms := 0) (ci := 14) C0 V rfl LV_DR_59 (c_DR_trim_6 l D g ws kO0 kA6 qO0 qA1 qA2 qA3 qA4 qA5 qA6 qA7 qA8 qA9 qA10 hO0 hA6 _) rfl rfl hO0 rfl hl.1 rfl (Nat.le_of_ble_eq_true rfl) ⟨by decide, by decide⟩ ⟨Nat.le_of_ble_eq_true rfl, Nat.le_of_ble_eq_true rfl⟩ d_15_8_1) (fun u2 H locs hp1 V => ?_)
  obtain ⟨hg3, hO0, hA6⟩ := hp1
  replace hF := q_uc hF hg3 (q_sc (.head _) (q_sc (List.mem_of_getElem? (i := 5) rfl) (fun _ h => absurd h List.not_mem_nil)))
  refine lv_aload_n hx hb d_15_8_4 rfl (lv_at hl 0 rfl) ?_
  refine q_get (ci := 14) (j := 8) (v := .int 1) C0 V i_DR rfl rfl hO0 (by decide) w_2011 rfl d_15_8_5 ?_
  refine lv_sipush (v := 1000) hx hb d_15_8_8 (by decide) ?_
  refine lv_icmp_gt (tgt := 36) hx hb d_15_8_11 (by decide) (fun c4 => absurd c4 (by decide)) (fun c4 => ?_)
  refine lv_aload_n hx hb d_15_8_14 rfl (lv_at hl 0 rfl) ?_
  refine q_get (ci := 14) (j := 9) (v := .long 0) C0 V i_DR rfl rfl hO0 (by decide) w_2012 rfl d_15_8_15 ?_
  refine q_ldc2 C0 rfl w_2417 d_15_8_18 ?_
  refine W.lcmp hx hb d_15_8_21 ?_
  refine q_ti (v := 1) (by decide) ?_
  refine lv_if_lt (tgt := 36) hx hb d_15_8_22 (by decide) (fun c5 => absurd c5 (by decide)) (fun c5 => ?_)
  refine lv_aload_n hx hb d_15_8_25 rfl (lv_at hl 0 rfl) ?_
  refine q_get (ci := 14) (j := 9) (v := .long 0) C0 V i_DR rfl rfl hO0 (by decide) w_2012 rfl d_15_8_26 ?_
  refine q_ldc2 C0 rfl w_2418 d_15_8_29 ?_
  refine W.lcmp hx hb d_15_8_32 ?_
  refine q_ti (v := (-1)) (by decide) ?_
  refine lv_if_le (tgt := 45) hx hb d_15_8_33 (by decide) (fun c6 => ?_) (fun c6 => absurd (by decide) c6)
  refine lv_iconst (v := 0) hx hb d_15_8_45 (by decide) ?_
  refine lv_istore_n (lv' := [(2, .int 0), (0, .ref qO0), (1, .int x1)]) hx hb d_15_8_46 rfl hl (by decide) rfl (fun ls hl => ?_)
  refine lv_iload_n hx hb d_15_8_47 rfl (lv_at hl 0 rfl) ?_
  refine lv_aload_n hx hb d_15_8_48 rfl (lv_at hl 1 rfl) ?_
  refine q_get (ci := 14) (j := 8) (v := .int 1) C0 V i_DR rfl rfl hO0 (by decide) w_2011 rfl d_15_8_49 ?_
  refine lv_icmp_ge (tgt := 79) hx hb d_15_8_52 (by decide) (fun c7 => absurd c7 (by decide)) (fun c7 => ?_)
  refine lv_aload_n hx hb d_15_8_55 rfl (lv_at hl 1 rfl) ?_
  refine q_get (ci := 14) (j := 3) (v := .ref qA2) C0 V i_DR rfl rfl hO0 (by decide) w_2002 rfl d_15_8_56 ?_
  refine lv_sipush (v := 1000) hx hb d_15_8_59 (by decide) ?_
  refine lv_iload_n hx hb d_15_8_62 rfl (lv_at hl 2 rfl) ?_
  refine lv_imul hx hb d_15_8_63 ?_
  refine lv_iload_n hx hb d_15_8_64 rfl (lv_at hl 0 rfl) ?_
  refine lv_iadd hx hb d_15_8_65 ?_
  refine q_ti (v := 1000 * x1) (by simp) ?_
  refine lv_aload_n hx hb d_15_8_66 rfl (lv_at hl 1 rfl) ?_
  refine q_get (ci := 14) (j := 7) (v := .ref qA6) C0 V i_DR rfl rfl hO0 (by decide) w_2010 rfl d_15_8_67 ?_
  refine lv_iload_n hx hb d_15_8_70 rfl (lv_at hl 0 rfl) ?_
  refine q_iald C0 V hA6 (by unfold vp_in; decide) d_15_8_71 ?_
  refine q_ti (v := 0) (by first | rfl | decide | simp [upd, vp_updL, sb_cl0]) ?_
  replace hA2 := (hg3 _ (q_nc n_A2_O0 (q_nc n_A2_A6 List.not_mem_nil))).trans (hA2)
  refine q_iast C0 V hA2 (q_ix (x := (1000 * x1.toInt)) (q_mulI (x := 1000) (y := x1.toInt) (by decide) rfl (by have t1 : 0 ≤ x1.toInt := q_leI x1lo; have t2 : x1.toInt ≤ 9 := q_leI x1hi; omega) (by have t1 : 0 ≤ x1.toInt := q_leI x1lo; have t2 : x1.toInt ≤ 9 := q_leI x1hi; omega)) (by have t1 : 0 ≤ x1.toInt := q_leI x1lo; have t2 : x1.toInt ≤ 9 := q_leI x1hi; omega) (by have t1 : 0 ≤ x1.toInt := q_leI x1lo; have t2 : x1.toInt ≤ 9 := q_leI x1hi; omega)) d_15_8_72 (fun H locs w8 hu9 hA2 V => ?_)
  replace hA2 := q_re (y := (qA2, .inl (g 0, 10000, .inl (fun _ => 0)))) hA2 (q_eI q_upd0)
  replace hA2 : w8[kA2]? = (some (qA2, .inl (g 0, 10000, .inl (fun _ => 0))) : Option (Nat × va_E)) := hA2
  replace hF := q_us hF hu9 (.tail _ (.head _))
  refine lv_iinc (v := 1) (lv' := [(2, .int 1), (0, .ref qO0), (1, .int x1)]) hx hb d_15_8_73 hl (k := 0) rfl (by decide) (by decide) rfl (fun ls hl => ?_)
  refine lv_goto (tgt := 47) hx hb d_15_8_76 (by decide) ?_
  refine lv_iload_n hx hb d_15_8_47 rfl (lv_at hl 0 rfl) ?_
  refine lv_aload_n hx hb d_15_8_48 rfl (lv_at hl 1 rfl) ?_
  replace hO0 := (hu9 _ n_O0_A2).trans (hO0)
  refine q_get (ci := 14) (j := 8) (v := .int 1) C0 V i_DR rfl rfl hO0 (by decide) w_2011 rfl d_15_8_49 ?_
  refine lv_icmp_ge (tgt := 79) hx hb d_15_8_52 (by decide) (fun c10 => ?_) (fun c10 => absurd (by decide) c10)
  refine lv_aload_n hx hb d_15_8_79 rfl (lv_at hl 1 rfl) ?_
  refine q_get (ci := 14) (j := 4) (v := .ref qA3) C0 V i_DR rfl rfl hO0 (by decide) w_2004 rfl d_15_8_80 ?_
  refine lv_iload_n hx hb d_15_8_83 rfl (lv_at hl 2 rfl) ?_
  refine lv_aload_n hx hb d_15_8_84 rfl (lv_at hl 1 rfl) ?_
  refine q_get (ci := 14) (j := 8) (v := .int 1) C0 V i_DR rfl rfl hO0 (by decide) w_2011 rfl d_15_8_85 ?_
  replace hA3 := (hu9 _ n_A3_A2).trans ((hg3 _ (q_nc n_A3_O0 (q_nc n_A3_A6 List.not_mem_nil))).trans (hA3))
  refine q_iast C0 V hA3 (q_ix (x := x1.toInt) rfl (by have t1 : 0 ≤ x1.toInt := q_leI x1lo; have t2 : x1.toInt ≤ 9 := q_leI x1hi; omega) (by have t1 : 0 ≤ x1.toInt := q_leI x1lo; have t2 : x1.toInt ≤ 9 := q_leI x1hi; omega)) d_15_8_88 (fun H locs w11 hu12 hA3 V => ?_)
  replace hA3 : w11[kA3]? = (some (qA3, .inl (g 0, 10, .inl (upd (upd (upd (upd (upd (upd (upd (upd (upd (upd (upd (fun _ => 0) 0 1) 1 1) 2 1) 3 1) 4 1) 5 1) 6 1) 7 1) 8 1) 9 1) x1.toNatClampNeg 1))) : Option (Nat × va_E)) := hA3
  replace hF := q_us hF hu12 (.tail _ (.tail _ (.head _)))
  refine lv_aload_n hx hb d_15_8_89 rfl (lv_at hl 1 rfl) ?_
  replace hO0 := (hu12 _ n_O0_A3).trans (hO0)
  refine q_get (ci := 14) (j := 5) (v := .ref qA4) C0 V i_DR rfl rfl hO0 (by decide) w_2006 rfl d_15_8_90 ?_
  refine lv_iload_n hx hb d_15_8_93 rfl (lv_at hl 2 rfl) ?_
  refine lv_aload_n hx hb d_15_8_94 rfl (lv_at hl 1 rfl) ?_
  refine q_get (ci := 14) (j := 11) (v := .int 0) C0 V i_DR rfl rfl hO0 (by decide) w_2014 rfl d_15_8_95 ?_
  replace hA4 := (hu12 _ n_A4_A3).trans ((hu9 _ n_A4_A2).trans ((hg3 _ (q_nc n_A4_O0 (q_nc n_A4_A6 List.not_mem_nil))).trans (hA4)))
  refine q_zast C0 V hA4 (q_ix (x := x1.toInt) rfl (by have t1 : 0 ≤ x1.toInt := q_leI x1lo; have t2 : x1.toInt ≤ 9 := q_leI x1hi; omega) (by have t1 : 0 ≤ x1.toInt := q_leI x1lo; have t2 : x1.toInt ≤ 9 := q_leI x1hi; omega)) d_15_8_98 (fun H locs w13 hu14 hA4 V => ?_)
  replace hA4 := q_re (y := (qA4, .inl (g 3, 10, .inl (fun _ => 0)))) hA4 (q_eI q_upd0)
  replace hA4 : w13[kA4]? = (some (qA4, .inl (g 3, 10, .inl (fun _ => 0))) : Option (Nat × va_E)) := hA4
  replace hF := q_us hF hu14 (List.mem_of_getElem? (i := 3) rfl)
  refine lv_aload_n hx hb d_15_8_99 rfl (lv_at hl 1 rfl) ?_
  replace hO0 := (hu14 _ n_O0_A4).trans (hO0)
  refine q_get (ci := 14) (j := 6) (v := .ref qA5) C0 V i_DR rfl rfl hO0 (by decide) w_2008 rfl d_15_8_100 ?_
  refine lv_iload_n hx hb d_15_8_103 rfl (lv_at hl 2 rfl) ?_
  refine lv_aload_n hx hb d_15_8_104 rfl (lv_at hl 1 rfl) ?_
  refine q_get (ci := 14) (j := 9) (v := .long 0) C0 V i_DR rfl rfl hO0 (by decide) w_2012 rfl d_15_8_105 ?_
  refine lv_l2i hx hb d_15_8_108 rfl ?_
  refine q_ti (v := 0) (by decide) ?_
  replace hA5 := (hu14 _ n_A5_A4).trans ((hu12 _ n_A5_A3).trans ((hu9 _ n_A5_A2).trans ((hg3 _ (q_nc n_A5_O0 (q_nc n_A5_A6 List.not_mem_nil))).trans (hA5))))
  refine q_iast C0 V hA5 (q_ix (x := x1.toInt) rfl (by have t1 : 0 ≤ x1.toInt := q_leI x1lo; have t2 : x1.toInt ≤ 9 := q_leI x1hi; omega) (by have t1 : 0 ≤ x1.toInt := q_leI x1lo; have t2 : x1.toInt ≤ 9 := q_leI x1hi; omega)) d_15_8_109 (fun H locs w15 hu16 hA5 V => ?_)
  replace hA5 := q_re (y := (qA5, .inl (g 0, 10, .inl (fun _ => 0)))) hA5 (q_eI q_upd0)
  replace hA5 : w15[kA5]? = (some (qA5, .inl (g 0, 10, .inl (fun _ => 0))) : Option (Nat × va_E)) := hA5
  replace hF := q_us hF hu16 (List.mem_of_getElem? (i := 4) rfl)
  replace hO0 := (hu16 _ n_O0_A5).trans (hO0)
  replace hA2 := (hu16 _ n_A2_A5).trans ((hu14 _ n_A2_A4).trans ((hu12 _ n_A2_A3).trans (hA2)))
  replace hA3 := (hu16 _ n_A3_A5).trans ((hu14 _ n_A3_A4).trans (hA3))
  replace hA4 := (hu16 _ n_A4_A5).trans (hA4)
  replace hA6 := (hu16 _ n_A6_A5).trans ((hu14 _ n_A6_A4).trans ((hu12 _ n_A6_A3).trans ((hu9 _ n_A6_A2).trans (hA6))))
  exact q_retv C0 V (⟨hF, hO0, hA2, hA3, hA4, hA5, hA6⟩) d_15_8_110
set_option maxRecDepth 100000 in
set_option maxHeartbeats 4000000 in
theorem c_DR_trim_7 (l : Launch) (D : va_G) (g : Nat → ClassId) (ws : va_W) (kO0 kA6 qO0 qA1 qA2 qA3 qA4 qA5 qA6 qA7 qA8 qA9 qA10 : Nat) (f1 : Nat → Int32) (hO0 : ws[kO0]? = (some (qO0, .inr (14, [.int 0, .ref qA1, .int 0, .ref qA2, .ref qA3, .ref qA4, .ref qA5, .ref qA6, .int 19, .long 0, .int 0, .int 0, .ref qA7, .int 0, .ref qA8, .int 0, .ref qA9, .int 0, .ref qA10, .int 0, .int 2])) : Option (Nat × va_E))) (hA6 : ws[kA6]? = (some (qA6, .inl (g 0, 4400, .inl f1)) : Option (Nat × va_E))) : q_mV l y_DR_trim prog_15_method_7_code 3 1 0 0 D g [.ref qO0] ws (fun u => (q_un ws u [kO0, kA6] ∧ u[kO0]? = (some (qO0, .inr (14, [.int 0, .ref qA1, .int 0, .ref qA2, .ref qA3, .ref qA4, .ref qA5, .ref qA6, .int 1, .long 0, .int 0, .int 0, .ref qA7, .int 0, .ref qA8, .int 0, .ref qA9, .int 0, .ref qA10, .int 0, .int 2])) : Option (Nat × va_E)) ∧ u[kA6]? = (some (qA6, .inl (g 0, 4400, .inl (upd f1 0 (f1 (18 : Int32).toNatClampNeg)))) : Option (Nat × va_E))) ∨ (∃ (ex0 : Int32) (ex1 : Nat → Int32), ¬ 19 ≤ (ex0 + 1) ∧ ¬ (f1 ex0.toNatClampNeg) = 0 ∧ 0 ≤ ex0 ∧ ex0 ≤ 17 ∧ q_un ws u [kO0, kA6] ∧ u[kO0]? = (some (qO0, .inr (14, [.int 0, .ref qA1, .int 0, .ref qA2, .ref qA3, .ref qA4, .ref qA5, .ref qA6, .int (19 - ex0), .long 0, .int 0, .int 0, .ref qA7, .int 0, .ref qA8, .int 0, .ref qA9, .int 0, .ref qA10, .int 0, .int 2])) : Option (Nat × va_E)) ∧ u[kA6]? = (some (qA6, .inl (g 0, 4400, .inl ex1)) : Option (Nat × va_E)))) := by
  intro sz
  refine q_into (by decide) (Nat.le_of_ble_eq_true rfl) ?_
  intro p e s m below meth c ls hsz C0 V hl
  have hx := C0.1
  have hb := C0.2.1
  have hl : lv_has ls 3 [(0, .ref qO0)] := hl
  have n_A6_O0 := q_df hA6 hO0
  have n_O0_A6 := Ne.symm (q_df hA6 hO0)
  have hF : q_un ws ws [kO0, kA6] := q_u0
  refine lv_iconst (v := 0) hx hb d_15_7_0 (by decide) ?_
  refine lv_istore_n (lv' := [(1, .int 0), (0, .ref qO0)]) hx hb d_15_7_1 rfl hl (by decide) rfl (fun ls hl => ?_)
  refine q_loop (X := Int32) (fun z H locs ls w2 => (0 ≤ z.toInt ∧ (z.toInt ≤ 18 ∨ z.toInt = 0)) ∧ q_Wd D g (va_A ws sz) s w2 H locs ∧ lv_has ls 3 [(1, .int z), (0, .ref qO0)] ∧ q_un ws w2 [kO0, kA6] ∧ w2[kO0]? = (some (qO0, .inr (14, [.int 0, .ref qA1, .int 0, .ref qA2, .ref qA3, .ref qA4, .ref qA5, .ref qA6, .int 19, .long 0, .int 0, .int 0, .ref qA7, .int 0, .ref qA8, .int 0, .ref qA9, .int 0, .ref qA10, .int 0, .int 2])) : Option (Nat × va_E)) ∧ w2[kA6]? = (some (qA6, .inl (g 0, 4400, .inl f1)) : Option (Nat × va_E))) (fun z => (18 - z.toInt).toNat) ?_ ((0 : Int32)) _ _ _ ws ⟨⟨by decide, Or.inr (by decide)⟩, V, hl, hF, hO0, hA6⟩
  rintro lx1 H locs ls w2 ⟨i3, V, hl, hF, hO0, hA6⟩ ih4
  replace i3 : 0 ≤ lx1.toInt ∧ (lx1.toInt ≤ 18 ∨ lx1.toInt = 0) := i3
  replace hl : lv_has ls 3 [(1, .int lx1), (0, .ref qO0)] := hl
  replace hO0 : w2[kO0]? = (some (qO0, .inr (14, [.int 0, .ref qA1, .int 0, .ref qA2, .ref qA3, .ref qA4, .ref qA5, .ref qA6, .int 19, .long 0, .int 0, .int 0, .ref qA7, .int 0, .ref qA8, .int 0, .ref qA9, .int 0, .ref qA10, .int 0, .int 2])) : Option (Nat × va_E)) := hO0
  replace hA6 : w2[kA6]? = (some (qA6, .inl (g 0, 4400, .inl f1)) : Option (Nat × va_E)) := hA6
  refine lv_iload_n hx hb d_15_7_2 rfl (lv_at hl 0 rfl) ?_
  refine lv_iconst (v := 1) hx hb d_15_7_3 (by decide) ?_
  refine lv_iadd hx hb d_15_7_4 ?_
  refine lv_aload_n hx hb d_15_7_5 rfl (lv_at hl 1 rfl) ?_
  refine q_get (ci := 14) (j := 8) (v := .int 19) C0 V i_DR rfl rfl hO0 (by decide) w_2011 rfl d_15_7_6 ?_
  refine lv_icmp_ge (tgt := 27) hx hb d_15_7_9 (by decide) (fun c5 => ?_) (fun c5 => ?_)
  ·
    refine lv_iconst (v := 0) hx hb d_15_7_27 (by decide) ?_
    refine lv_istore_n (lv' := [(2, .int 0), (1, .int lx1), (0, .ref qO0)]) hx hb d_15_7_28 rfl hl (by decide) rfl (fun ls hl => ?_)
    refine lv_iload_n hx hb d_15_7_29 rfl (lv_at hl 0 rfl) ?_
    refine lv_iload_n hx hb d_15_7_30 rfl (lv_at hl 1 rfl) ?_
    refine q_ti (v := 18) (q_Ieq (x := lx1.toInt) (y := 18) rfl (by decide) (by have t1 : 19 ≤ (lx1.toInt + 1) := by { have e1 : (19 : Int32).toInt = 19 := (by decide); have e2 : ((lx1 + 1) : Int32).toInt = (lx1.toInt + 1) := (q_addI (x := lx1.toInt) (y := 1) rfl (by decide) (by omega) (by omega)); have e3 := q_leI c5; omega }; omega)) ?_
    refine lv_iadd hx hb d_15_7_31 ?_
    refine q_ti (v := 18) (by decide) ?_
    refine lv_aload_n hx hb d_15_7_32 rfl (lv_at hl 2 rfl) ?_
    refine q_get (ci := 14) (j := 8) (v := .int 19) C0 V i_DR rfl rfl hO0 (by decide) w_2011 rfl d_15_7_33 ?_
    refine lv_icmp_ge (tgt := 59) hx hb d_15_7_36 (by decide) (fun c6 => absurd c6 (by decide)) (fun c6 => ?_)
    refine lv_aload_n hx hb d_15_7_39 rfl (lv_at hl 2 rfl) ?_
    refine q_get (ci := 14) (j := 7) (v := .ref qA6) C0 V i_DR rfl rfl hO0 (by decide) w_2010 rfl d_15_7_40 ?_
    refine lv_iload_n hx hb d_15_7_43 rfl (lv_at hl 0 rfl) ?_
    refine lv_aload_n hx hb d_15_7_44 rfl (lv_at hl 2 rfl) ?_
    refine q_get (ci := 14) (j := 7) (v := .ref qA6) C0 V i_DR rfl rfl hO0 (by decide) w_2010 rfl d_15_7_45 ?_
    refine lv_iload_n hx hb d_15_7_48 rfl (lv_at hl 0 rfl) ?_
    refine lv_iload_n hx hb d_15_7_49 rfl (lv_at hl 1 rfl) ?_
    refine q_ti (v := 18) (q_Ieq (x := lx1.toInt) (y := 18) rfl (by decide) (by have t1 : 19 ≤ (lx1.toInt + 1) := by { have e1 : (19 : Int32).toInt = 19 := (by decide); have e2 : ((lx1 + 1) : Int32).toInt = (lx1.toInt + 1) := (q_addI (x := lx1.toInt) (y := 1) rfl (by decide) (by omega) (by omega)); have e3 := q_leI c5; omega }; omega)) ?_
    refine lv_iadd hx hb d_15_7_50 ?_
    refine q_ti (v := 18) (by decide) ?_
    refine q_iald C0 V hA6 (by unfold vp_in; decide) d_15_7_51 ?_
    refine q_iast C0 V hA6 (by unfold vp_in; decide) d_15_7_52 (fun H locs w7 hu8 hA6 V => ?_)
    replace hA6 : w7[kA6]? = (some (qA6, .inl (g 0, 4400, .inl (upd f1 0 (f1 (18 : Int32).toNatClampNeg)))) : Option (Nat × va_E)) := hA6
    replace hF := q_us hF hu8 (.tail _ (.head _))
    refine lv_iinc (v := 1) (lv' := [(2, .int 1), (1, .int lx1), (0, .ref qO0)]) hx hb d_15_7_53 hl (k := 0) rfl (by decide) (by decide) rfl (fun ls hl => ?_)
    refine lv_goto (tgt := 29) hx hb d_15_7_56 (by decide) ?_
    refine lv_iload_n hx hb d_15_7_29 rfl (lv_at hl 0 rfl) ?_
    refine lv_iload_n hx hb d_15_7_30 rfl (lv_at hl 1 rfl) ?_
    refine q_ti (v := 18) (q_Ieq (x := lx1.toInt) (y := 18) rfl (by decide) (by have t1 : 19 ≤ (lx1.toInt + 1) := by { have e1 : (19 : Int32).toInt = 19 := (by decide); have e2 : ((lx1 + 1) : Int32).toInt = (lx1.toInt + 1) := (q_addI (x := lx1.toInt) (y := 1) rfl (by decide) (by omega) (by omega)); have e3 := q_leI c5; omega }; omega)) ?_
    refine lv_iadd hx hb d_15_7_31 ?_
    refine q_ti (v := 19) (by decide) ?_
    refine lv_aload_n hx hb d_15_7_32 rfl (lv_at hl 2 rfl) ?_
    replace hO0 := (hu8 _ n_O0_A6).trans (hO0)
    refine q_get (ci := 14) (j := 8) (v := .int 19) C0 V i_DR rfl rfl hO0 (by decide) w_2011 rfl d_15_7_33 ?_
    refine lv_icmp_ge (tgt := 59) hx hb d_15_7_36 (by decide) (fun c9 => ?_) (fun c9 => absurd (by decide) c9)
    refine lv_aload_n hx hb d_15_7_59 rfl (lv_at hl 2 rfl) ?_
    refine q_get (ci := 14) (j := 8) (v := .int 19) C0 V i_DR rfl rfl hO0 (by decide) w_2011 rfl d_15_7_60 ?_
    refine lv_if_ne (tgt := 81) hx hb d_15_7_63 (by decide) (fun c10 => ?_) (fun c10 => absurd c10 (by decide))
    refine lv_aload_n hx hb d_15_7_81 rfl (lv_at hl 2 rfl) ?_
    refine lv_aload_n hx hb d_15_7_82 rfl (lv_at hl 2 rfl) ?_
    refine q_get (ci := 14) (j := 8) (v := .int 19) C0 V i_DR rfl rfl hO0 (by decide) w_2011 rfl d_15_7_83 ?_
    refine lv_iload_n hx hb d_15_7_86 rfl (lv_at hl 1 rfl) ?_
    refine q_ti (v := 18) (q_Ieq (x := lx1.toInt) (y := 18) rfl (by decide) (by have t1 : 19 ≤ (lx1.toInt + 1) := by { have e1 : (19 : Int32).toInt = 19 := (by decide); have e2 : ((lx1 + 1) : Int32).toInt = (lx1.toInt + 1) := (q_addI (x := lx1.toInt) (y := 1) rfl (by decide) (by omega) (by omega)); have e3 := q_leI c5; omega }; omega)) ?_
    refine lv_isub hx hb d_15_7_87 ?_
    refine q_ti (v := 1) (by decide) ?_
    refine q_put (ci := 14) (j := 8) (v := .int 1) (ty := .int) C0 V i_DR o_DR n_DR rfl rfl hO0 (by decide) w_2011 rfl rfl rfl rfl (Nat.le_of_ble_eq_true rfl) d_15_7_88 (fun H locs w11 hu12 hO0 V => ?_)
    replace hO0 : w11[kO0]? = (some (qO0, .inr (14, [.int 0, .ref qA1, .int 0, .ref qA2, .ref qA3, .ref qA4, .ref qA5, .ref qA6, .int 1, .long 0, .int 0, .int 0, .ref qA7, .int 0, .ref qA8, .int 0, .ref qA9, .int 0, .ref qA10, .int 0, .int 2])) : Option (Nat × va_E)) := hO0
    replace hF := q_us hF hu12 (.head _)
    refine lv_aload_n hx hb d_15_7_91 rfl (lv_at hl 2 rfl) ?_
    refine lv_aload_n hx hb d_15_7_92 rfl (lv_at hl 2 rfl) ?_
    refine q_get (ci := 14) (j := 11) (v := .int 0) C0 V i_DR rfl rfl hO0 (by decide) w_2014 rfl d_15_7_93 ?_
    refine lv_if_eq (tgt := 112) hx hb d_15_7_96 (by decide) (fun c13 => ?_) (fun c13 => absurd (by decide) c13)
    refine lv_iconst (v := 0) hx hb d_15_7_112 (by decide) ?_
    refine q_put (ci := 14) (j := 11) (v := .int 0) (ty := .boolean) C0 V i_DR o_DR n_DR rfl rfl hO0 (by decide) w_2014 rfl rfl rfl rfl (Nat.le_of_ble_eq_true rfl) d_15_7_113 (fun H locs w14 hu15 hO0 V => ?_)
    replace hO0 : w14[kO0]? = (some (qO0, .inr (14, [.int 0, .ref qA1, .int 0, .ref qA2, .ref qA3, .ref qA4, .ref qA5, .ref qA6, .int 1, .long 0, .int 0, .int 0, .ref qA7, .int 0, .ref qA8, .int 0, .ref qA9, .int 0, .ref qA10, .int 0, .int 2])) : Option (Nat × va_E)) := hO0
    replace hF := q_us hF hu15 (.head _)
    replace hA6 := (hu15 _ n_A6_O0).trans ((hu12 _ n_A6_O0).trans (hA6))
    exact q_retv C0 V (Or.inl ⟨hF, hO0, hA6⟩) d_15_7_116
  ·
    refine lv_aload_n hx hb d_15_7_12 rfl (lv_at hl 1 rfl) ?_
    refine q_get (ci := 14) (j := 7) (v := .ref qA6) C0 V i_DR rfl rfl hO0 (by decide) w_2010 rfl d_15_7_13 ?_
    refine lv_iload_n hx hb d_15_7_16 rfl (lv_at hl 0 rfl) ?_
    refine q_iald C0 V hA6 (q_ix (x := lx1.toInt) rfl (by have t1 : (lx1.toInt + 1) < 19 := by { have e1 : (19 : Int32).toInt = 19 := (by decide); have e2 : ((lx1 + 1) : Int32).toInt = (lx1.toInt + 1) := (q_addI (x := lx1.toInt) (y := 1) rfl (by decide) (by omega) (by omega)); have e3 := q_nleI c5; omega }; omega) (by have t1 : (lx1.toInt + 1) < 19 := by { have e1 : (19 : Int32).toInt = 19 := (by decide); have e2 : ((lx1 + 1) : Int32).toInt = (lx1.toInt + 1) := (q_addI (x := lx1.toInt) (y := 1) rfl (by decide) (by omega) (by omega)); have e3 := q_nleI c5; omega }; omega)) d_15_7_17 ?_
    refine lv_if_ne (tgt := 27) hx hb d_15_7_18 (by decide) (fun c16 => ?_) (fun c16 => ?_)
    ·
      refine lv_iconst (v := 0) hx hb d_15_7_27 (by decide) ?_
      refine lv_istore_n (lv' := [(2, .int 0), (1, .int lx1), (0, .ref qO0)]) hx hb d_15_7_28 rfl hl (by decide) rfl (fun ls hl => ?_)
      refine q_loop (X := Int32 × (Nat → Int32)) (fun z H locs ls w19 => (0 ≤ z.1.toInt ∧ (z.1.toInt ≤ (19 - lx1.toInt) ∨ z.1.toInt = 0)) ∧ q_Wd D g (va_A ws sz) s w19 H locs ∧ lv_has ls 3 [(2, .int z.1), (1, .int lx1), (0, .ref qO0)] ∧ q_un ws w19 [kO0, kA6] ∧ w19[kO0]? = (some (qO0, .inr (14, [.int 0, .ref qA1, .int 0, .ref qA2, .ref qA3, .ref qA4, .ref qA5, .ref qA6, .int 19, .long 0, .int 0, .int 0, .ref qA7, .int 0, .ref qA8, .int 0, .ref qA9, .int 0, .ref qA10, .int 0, .int 2])) : Option (Nat × va_E)) ∧ w19[kA6]? = (some (qA6, .inl (g 0, 4400, .inl z.2)) : Option (Nat × va_E))) (fun z => ((19 - lx1.toInt) - z.1.toInt).toNat) ?_ ((0 : Int32), (f1 : (Nat → Int32))) _ _ _ w2 ⟨⟨(by dsimp only; decide), Or.inr (by dsimp only; decide)⟩, V, hl, hF, hO0, hA6⟩
      rintro ⟨lx17, lx18⟩ H locs ls w19 ⟨i20, V, hl, hF, hO0, hA6⟩ ih21
      replace i20 : 0 ≤ lx17.toInt ∧ (lx17.toInt ≤ (19 - lx1.toInt) ∨ lx17.toInt = 0) := i20
      replace hl : lv_has ls 3 [(2, .int lx17), (1, .int lx1), (0, .ref qO0)] := hl
      replace hO0 : w19[kO0]? = (some (qO0, .inr (14, [.int 0, .ref qA1, .int 0, .ref qA2, .ref qA3, .ref qA4, .ref qA5, .ref qA6, .int 19, .long 0, .int 0, .int 0, .ref qA7, .int 0, .ref qA8, .int 0, .ref qA9, .int 0, .ref qA10, .int 0, .int 2])) : Option (Nat × va_E)) := hO0
      replace hA6 : w19[kA6]? = (some (qA6, .inl (g 0, 4400, .inl lx18)) : Option (Nat × va_E)) := hA6
      refine lv_iload_n hx hb d_15_7_29 rfl (lv_at hl 0 rfl) ?_
      refine lv_iload_n hx hb d_15_7_30 rfl (lv_at hl 1 rfl) ?_
      refine lv_iadd hx hb d_15_7_31 ?_
      refine lv_aload_n hx hb d_15_7_32 rfl (lv_at hl 2 rfl) ?_
      refine q_get (ci := 14) (j := 8) (v := .int 19) C0 V i_DR rfl rfl hO0 (by decide) w_2011 rfl d_15_7_33 ?_
      refine lv_icmp_ge (tgt := 59) hx hb d_15_7_36 (by decide) (fun c22 => ?_) (fun c22 => ?_)
      ·
        refine lv_aload_n hx hb d_15_7_59 rfl (lv_at hl 2 rfl) ?_
        refine q_get (ci := 14) (j := 8) (v := .int 19) C0 V i_DR rfl rfl hO0 (by decide) w_2011 rfl d_15_7_60 ?_
        refine lv_if_ne (tgt := 81) hx hb d_15_7_63 (by decide) (fun c23 => ?_) (fun c23 => absurd c23 (by decide))
        refine lv_aload_n hx hb d_15_7_81 rfl (lv_at hl 2 rfl) ?_
        refine lv_aload_n hx hb d_15_7_82 rfl (lv_at hl 2 rfl) ?_
        refine q_get (ci := 14) (j := 8) (v := .int 19) C0 V i_DR rfl rfl hO0 (by decide) w_2011 rfl d_15_7_83 ?_
        refine lv_iload_n hx hb d_15_7_86 rfl (lv_at hl 1 rfl) ?_
        refine lv_isub hx hb d_15_7_87 ?_
        refine q_put (ci := 14) (j := 8) (v := .int (19 - lx1)) (ty := .int) C0 V i_DR o_DR n_DR rfl rfl hO0 (by decide) w_2011 rfl rfl rfl rfl (Nat.le_of_ble_eq_true rfl) d_15_7_88 (fun H locs w24 hu25 hO0 V => ?_)
        replace hO0 : w24[kO0]? = (some (qO0, .inr (14, [.int 0, .ref qA1, .int 0, .ref qA2, .ref qA3, .ref qA4, .ref qA5, .ref qA6, .int (19 - lx1), .long 0, .int 0, .int 0, .ref qA7, .int 0, .ref qA8, .int 0, .ref qA9, .int 0, .ref qA10, .int 0, .int 2])) : Option (Nat × va_E)) := hO0
        replace hF := q_us hF hu25 (.head _)
        refine lv_aload_n hx hb d_15_7_91 rfl (lv_at hl 2 rfl) ?_
        refine lv_aload_n hx hb d_15_7_92 rfl (lv_at hl 2 rfl) ?_
        refine q_get (ci := 14) (j := 11) (v := .int 0) C0 V i_DR rfl rfl hO0 (by decide) w_2014 rfl d_15_7_93 ?_
        refine lv_if_eq (tgt := 112) hx hb d_15_7_96 (by decide) (fun c26 => ?_) (fun c26 => absurd (by decide) c26)
        refine lv_iconst (v := 0) hx hb d_15_7_112 (by decide) ?_
        refine q_put (ci := 14) (j := 11) (v := .int 0) (ty := .boolean) C0 V i_DR o_DR n_DR rfl rfl hO0 (by decide) w_2014 rfl rfl rfl rfl (Nat.le_of_ble_eq_true rfl) d_15_7_113 (fun H locs w27 hu28 hO0 V => ?_)
        replace hO0 : w27[kO0]? = (some (qO0, .inr (14, [.int 0, .ref qA1, .int 0, .ref qA2, .ref qA3, .ref qA4, .ref qA5, .ref qA6, .int (19 - lx1), .long 0, .int 0, .int 0, .ref qA7, .int 0, .ref qA8, .int 0, .ref qA9, .int 0, .ref qA10, .int 0, .int 2])) : Option (Nat × va_E)) := hO0
        replace hF := q_us hF hu28 (.head _)
        replace hA6 := (hu28 _ n_A6_O0).trans ((hu25 _ n_A6_O0).trans (hA6))
        exact q_retv C0 V (Or.inr (⟨lx1, lx18, c5, c16, (q_Ile (x := 0) (y := lx1.toInt) (by decide) rfl (by have t1 : (lx1.toInt + 1) < 19 := by { have e1 : (19 : Int32).toInt = 19 := (by decide); have e2 : ((lx1 + 1) : Int32).toInt = (lx1.toInt + 1) := (q_addI (x := lx1.toInt) (y := 1) rfl (by decide) (by omega) (by omega)); have e3 := q_nleI c5; omega }; have t2 : 19 ≤ (lx17.toInt + lx1.toInt) := by { have e1 : (19 : Int32).toInt = 19 := (by decide); have e2 : ((lx17 + lx1) : Int32).toInt = (lx17.toInt + lx1.toInt) := (q_addI (x := lx17.toInt) (y := lx1.toInt) rfl rfl (by omega) (by omega)); have e3 := q_leI c22; omega }; omega)), (q_Ile (x := lx1.toInt) (y := 17) rfl (by decide) (by have t1 : (lx1.toInt + 1) < 19 := by { have e1 : (19 : Int32).toInt = 19 := (by decide); have e2 : ((lx1 + 1) : Int32).toInt = (lx1.toInt + 1) := (q_addI (x := lx1.toInt) (y := 1) rfl (by decide) (by omega) (by omega)); have e3 := q_nleI c5; omega }; have t2 : 19 ≤ (lx17.toInt + lx1.toInt) := by { have e1 : (19 : Int32).toInt = 19 := (by decide); have e2 : ((lx17 + lx1) : Int32).toInt = (lx17.toInt + lx1.toInt) := (q_addI (x := lx17.toInt) (y := lx1.toInt) rfl rfl (by omega) (by omega)); have e3 := q_leI c22; omega }; omega)), hF, hO0, hA6⟩)) d_15_7_116
      ·
        refine lv_aload_n hx hb d_15_7_39 rfl (lv_at hl 2 rfl) ?_
        refine q_get (ci := 14) (j := 7) (v := .ref qA6) C0 V i_DR rfl rfl hO0 (by decide) w_2010 rfl d_15_7_40 ?_
        refine lv_iload_n hx hb d_15_7_43 rfl (lv_at hl 0 rfl) ?_
        refine lv_aload_n hx hb d_15_7_44 rfl (lv_at hl 2 rfl) ?_
        refine q_get (ci := 14) (j := 7) (v := .ref qA6) C0 V i_DR rfl rfl hO0 (by decide) w_2010 rfl d_15_7_45 ?_
        refine lv_iload_n hx hb d_15_7_48 rfl (lv_at hl 0 rfl) ?_
        refine lv_iload_n hx hb d_15_7_49 rfl (lv_at hl 1 rfl) ?_
        refine lv_iadd hx hb d_15_7_50 ?_
        refine q_iald C0 V hA6 (q_ix (x := (lx17.toInt + lx1.toInt)) (q_addI (x := lx17.toInt) (y := lx1.toInt) rfl rfl (by have t1 : (lx1.toInt + 1) < 19 := by { have e1 : (19 : Int32).toInt = 19 := (by decide); have e2 : ((lx1 + 1) : Int32).toInt = (lx1.toInt + 1) := (q_addI (x := lx1.toInt) (y := 1) rfl (by decide) (by omega) (by omega)); have e3 := q_nleI c5; omega }; have t2 : (lx17.toInt + lx1.toInt) < 19 := by { have e1 : (19 : Int32).toInt = 19 := (by decide); have e2 : ((lx17 + lx1) : Int32).toInt = (lx17.toInt + lx1.toInt) := (q_addI (x := lx17.toInt) (y := lx1.toInt) rfl rfl (by omega) (by omega)); have e3 := q_nleI c22; omega }; omega) (by have t1 : (lx1.toInt + 1) < 19 := by { have e1 : (19 : Int32).toInt = 19 := (by decide); have e2 : ((lx1 + 1) : Int32).toInt = (lx1.toInt + 1) := (q_addI (x := lx1.toInt) (y := 1) rfl (by decide) (by omega) (by omega)); have e3 := q_nleI c5; omega }; have t2 : (lx17.toInt + lx1.toInt) < 19 := by { have e1 : (19 : Int32).toInt = 19 := (by decide); have e2 : ((lx17 + lx1) : Int32).toInt = (lx17.toInt + lx1.toInt) := (q_addI (x := lx17.toInt) (y := lx1.toInt) rfl rfl (by omega) (by omega)); have e3 := q_nleI c22; omega }; omega)) (by have t1 : (lx1.toInt + 1) < 19 := by { have e1 : (19 : Int32).toInt = 19 := (by decide); have e2 : ((lx1 + 1) : Int32).toInt = (lx1.toInt + 1) := (q_addI (x := lx1.toInt) (y := 1) rfl (by decide) (by omega) (by omega)); have e3 := q_nleI c5; omega }; have t2 : (lx17.toInt + lx1.toInt) < 19 := by { have e1 : (19 : Int32).toInt = 19 := (by decide); have e2 : ((lx17 + lx1) : Int32).toInt = (lx17.toInt + lx1.toInt) := (q_addI (x := lx17.toInt) (y := lx1.toInt) rfl rfl (by omega) (by omega)); have e3 := q_nleI c22; omega }; omega) (by have t1 : (lx1.toInt + 1) < 19 := by { have e1 : (19 : Int32).toInt = 19 := (by decide); have e2 : ((lx1 + 1) : Int32).toInt = (lx1.toInt + 1) := (q_addI (x := lx1.toInt) (y := 1) rfl (by decide) (by omega) (by omega)); have e3 := q_nleI c5; omega }; have t2 : (lx17.toInt + lx1.toInt) < 19 := by { have e1 : (19 : Int32).toInt = 19 := (by decide); have e2 : ((lx17 + lx1) : Int32).toInt = (lx17.toInt + lx1.toInt) := (q_addI (x := lx17.toInt) (y := lx1.toInt) rfl rfl (by omega) (by omega)); have e3 := q_nleI c22; omega }; omega)) d_15_7_51 ?_
        refine q_iast C0 V hA6 (q_ix (x := lx17.toInt) rfl (by have t1 : (lx1.toInt + 1) < 19 := by { have e1 : (19 : Int32).toInt = 19 := (by decide); have e2 : ((lx1 + 1) : Int32).toInt = (lx1.toInt + 1) := (q_addI (x := lx1.toInt) (y := 1) rfl (by decide) (by omega) (by omega)); have e3 := q_nleI c5; omega }; have t2 : (lx17.toInt + lx1.toInt) < 19 := by { have e1 : (19 : Int32).toInt = 19 := (by decide); have e2 : ((lx17 + lx1) : Int32).toInt = (lx17.toInt + lx1.toInt) := (q_addI (x := lx17.toInt) (y := lx1.toInt) rfl rfl (by omega) (by omega)); have e3 := q_nleI c22; omega }; omega) (by have t1 : (lx1.toInt + 1) < 19 := by { have e1 : (19 : Int32).toInt = 19 := (by decide); have e2 : ((lx1 + 1) : Int32).toInt = (lx1.toInt + 1) := (q_addI (x := lx1.toInt) (y := 1) rfl (by decide) (by omega) (by omega)); have e3 := q_nleI c5; omega }; have t2 : (lx17.toInt + lx1.toInt) < 19 := by { have e1 : (19 : Int32).toInt = 19 := (by decide); have e2 : ((lx17 + lx1) : Int32).toInt = (lx17.toInt + lx1.toInt) := (q_addI (x := lx17.toInt) (y := lx1.toInt) rfl rfl (by omega) (by omega)); have e3 := q_nleI c22; omega }; omega)) d_15_7_52 (fun H locs w29 hu30 hA6 V => ?_)
        replace hA6 : w29[kA6]? = (some (qA6, .inl (g 0, 4400, .inl (upd lx18 lx17.toNatClampNeg (lx18 (lx17 + lx1).toNatClampNeg)))) : Option (Nat × va_E)) := hA6
        replace hF := q_us hF hu30 (.tail _ (.head _))
        refine lv_iinc (v := lx17 + 1) (lv' := [(2, .int (lx17 + 1)), (1, .int lx1), (0, .ref qO0)]) hx hb d_15_7_53 hl (k := 0) rfl (rfl) (by decide) rfl (fun ls hl => ?_)
        refine lv_goto (tgt := 29) hx hb d_15_7_56 (by decide) ?_
        replace hO0 := (hu30 _ n_O0_A6).trans (hO0)
        exact ih21 ((lx17 + 1 : Int32), (upd lx18 lx17.toNatClampNeg (lx18 (lx17 + lx1).toNatClampNeg) : Nat → Int32)) _ _ _ _ (show ((19 - lx1.toInt) - (lx17 + 1).toInt).toNat < ((19 - lx1.toInt) - lx17.toInt).toNat from by have t1 : (lx1.toInt + 1) < 19 := by { have e1 : (19 : Int32).toInt = 19 := (by decide); have e2 : ((lx1 + 1) : Int32).toInt = (lx1.toInt + 1) := (q_addI (x := lx1.toInt) (y := 1) rfl (by decide) (by omega) (by omega)); have e3 := q_nleI c5; omega }; have t2 : (lx17.toInt + lx1.toInt) < 19 := by { have e1 : (19 : Int32).toInt = 19 := (by decide); have e2 : ((lx17 + lx1) : Int32).toInt = (lx17.toInt + lx1.toInt) := (q_addI (x := lx17.toInt) (y := lx1.toInt) rfl rfl (by omega) (by omega)); have e3 := q_nleI c22; omega }; have e : (lx17 + 1).toInt = (lx17.toInt + 1) := (q_addI (x := lx17.toInt) (y := 1) rfl (by decide) (by have t1 : (lx1.toInt + 1) < 19 := by { have e1 : (19 : Int32).toInt = 19 := (by decide); have e2 : ((lx1 + 1) : Int32).toInt = (lx1.toInt + 1) := (q_addI (x := lx1.toInt) (y := 1) rfl (by decide) (by omega) (by omega)); have e3 := q_nleI c5; omega }; have t2 : (lx17.toInt + lx1.toInt) < 19 := by { have e1 : (19 : Int32).toInt = 19 := (by decide); have e2 : ((lx17 + lx1) : Int32).toInt = (lx17.toInt + lx1.toInt) := (q_addI (x := lx17.toInt) (y := lx1.toInt) rfl rfl (by omega) (by omega)); have e3 := q_nleI c22; omega }; omega) (by have t1 : (lx1.toInt + 1) < 19 := by { have e1 : (19 : Int32).toInt = 19 := (by decide); have e2 : ((lx1 + 1) : Int32).toInt = (lx1.toInt + 1) := (q_addI (x := lx1.toInt) (y := 1) rfl (by decide) (by omega) (by omega)); have e3 := q_nleI c5; omega }; have t2 : (lx17.toInt + lx1.toInt) < 19 := by { have e1 : (19 : Int32).toInt = 19 := (by decide); have e2 : ((lx17 + lx1) : Int32).toInt = (lx17.toInt + lx1.toInt) := (q_addI (x := lx17.toInt) (y := lx1.toInt) rfl rfl (by omega) (by omega)); have e3 := q_nleI c22; omega }; omega)); omega) ⟨(show 0 ≤ (lx17 + 1).toInt ∧ ((lx17 + 1).toInt ≤ (19 - lx1.toInt) ∨ (lx17 + 1).toInt = 0) from by have t1 : (lx1.toInt + 1) < 19 := by { have e1 : (19 : Int32).toInt = 19 := (by decide); have e2 : ((lx1 + 1) : Int32).toInt = (lx1.toInt + 1) := (q_addI (x := lx1.toInt) (y := 1) rfl (by decide) (by omega) (by omega)); have e3 := q_nleI c5; omega }; have t2 : (lx17.toInt + lx1.toInt) < 19 := by { have e1 : (19 : Int32).toInt = 19 := (by decide); have e2 : ((lx17 + lx1) : Int32).toInt = (lx17.toInt + lx1.toInt) := (q_addI (x := lx17.toInt) (y := lx1.toInt) rfl rfl (by omega) (by omega)); have e3 := q_nleI c22; omega }; have e : (lx17 + 1).toInt = (lx17.toInt + 1) := (q_addI (x := lx17.toInt) (y := 1) rfl (by decide) (by have t1 : (lx1.toInt + 1) < 19 := by { have e1 : (19 : Int32).toInt = 19 := (by decide); have e2 : ((lx1 + 1) : Int32).toInt = (lx1.toInt + 1) := (q_addI (x := lx1.toInt) (y := 1) rfl (by decide) (by omega) (by omega)); have e3 := q_nleI c5; omega }; have t2 : (lx17.toInt + lx1.toInt) < 19 := by { have e1 : (19 : Int32).toInt = 19 := (by decide); have e2 : ((lx17 + lx1) : Int32).toInt = (lx17.toInt + lx1.toInt) := (q_addI (x := lx17.toInt) (y := lx1.toInt) rfl rfl (by omega) (by omega)); have e3 := q_nleI c22; omega }; omega) (by have t1 : (lx1.toInt + 1) < 19 := by { have e1 : (19 : Int32).toInt = 19 := (by decide); have e2 : ((lx1 + 1) : Int32).toInt = (lx1.toInt + 1) := (q_addI (x := lx1.toInt) (y := 1) rfl (by decide) (by omega) (by omega)); have e3 := q_nleI c5; omega }; have t2 : (lx17.toInt + lx1.toInt) < 19 := by { have e1 : (19 : Int32).toInt = 19 := (by decide); have e2 : ((lx17 + lx1) : Int32).toInt = (lx17.toInt + lx1.toInt) := (q_addI (x := lx17.toInt) (y := lx1.toInt) rfl rfl (by omega) (by omega)); have e3 := q_nleI c22; omega }; omega)); omega), V, q_lw hl (q_lw1 0 rfl (q_lw1 1 rfl (q_lw1 2 rfl q_lw0))), hF, hO0, hA6⟩
    ·
      refine lv_iinc (v := lx1 + 1) (lv' := [(1, .int (lx1 + 1)), (0, .ref qO0)]) hx hb d_15_7_21 hl (k := 0) rfl (rfl) (by decide) rfl (fun ls hl => ?_)
      refine lv_goto (tgt := 2) hx hb d_15_7_24 (by decide) ?_
      exact ih4 ((lx1 + 1 : Int32)) _ _ _ _ (show (18 - (lx1 + 1).toInt).toNat < (18 - lx1.toInt).toNat from by have t1 : (lx1.toInt + 1) < 19 := by { have e1 : (19 : Int32).toInt = 19 := (by decide); have e2 : ((lx1 + 1) : Int32).toInt = (lx1.toInt + 1) := (q_addI (x := lx1.toInt) (y := 1) rfl (by decide) (by omega) (by omega)); have e3 := q_nleI c5; omega }; have e : (lx1 + 1).toInt = (lx1.toInt + 1) := (q_addI (x := lx1.toInt) (y := 1) rfl (by decide) (by have t1 : (lx1.toInt + 1) < 19 := by { have e1 : (19 : Int32).toInt = 19 := (by decide); have e2 : ((lx1 + 1) : Int32).toInt = (lx1.toInt + 1) := (q_addI (x := lx1.toInt) (y := 1) rfl (by decide) (by omega) (by omega)); have e3 := q_nleI c5; omega }; omega) (by have t1 : (lx1.toInt + 1) < 19 := by { have e1 : (19 : Int32).toInt = 19 := (by decide); have e2 : ((lx1 + 1) : Int32).toInt = (lx1.toInt + 1) := (q_addI (x := lx1.toInt) (y := 1) rfl (by decide) (by omega) (by omega)); have e3 := q_nleI c5; omega }; omega)); omega) ⟨(show 0 ≤ (lx1 + 1).toInt ∧ ((lx1 + 1).toInt ≤ 18 ∨ (lx1 + 1).toInt = 0) from by have t1 : (lx1.toInt + 1) < 19 := by { have e1 : (19 : Int32).toInt = 19 := (by decide); have e2 : ((lx1 + 1) : Int32).toInt = (lx1.toInt + 1) := (q_addI (x := lx1.toInt) (y := 1) rfl (by decide) (by omega) (by omega)); have e3 := q_nleI c5; omega }; have e : (lx1 + 1).toInt = (lx1.toInt + 1) := (q_addI (x := lx1.toInt) (y := 1) rfl (by decide) (by have t1 : (lx1.toInt + 1) < 19 := by { have e1 : (19 : Int32).toInt = 19 := (by decide); have e2 : ((lx1 + 1) : Int32).toInt = (lx1.toInt + 1) := (q_addI (x := lx1.toInt) (y := 1) rfl (by decide) (by omega) (by omega)); have e3 := q_nleI c5; omega }; omega) (by have t1 : (lx1.toInt + 1) < 19 := by { have e1 : (19 : Int32).toInt = 19 := (by decide); have e2 : ((lx1 + 1) : Int32).toInt = (lx1.toInt + 1) := (q_addI (x := lx1.toInt) (y := 1) rfl (by decide) (by omega) (by omega)); have e3 := q_nleI c5; omega }; omega)); omega), V, q_lw hl (q_lw1 0 rfl (q_lw1 1 rfl q_lw0)), hF, hO0, hA6⟩
set_option maxRecDepth 100000 in
set_option maxHeartbeats 4000000 in
theorem c_DR_store_7 (l : Launch) (D : va_G) (g : Nat → ClassId) (ws : va_W) (kO0 kA2 kA3 kA4 kA5 kA6 qO0 qA1 qA2 qA3 qA4 qA5 qA6 qA7 qA8 qA9 qA10 : Nat) (x1 : Int32) (f2 : Nat → Int32) (hO0 : ws[kO0]? = (some (qO0, .inr (14, [.int 0, .ref qA1, .int 0, .ref qA2, .ref qA3, .ref qA4, .ref qA5, .ref qA6, .int 19, .long 0, .int 0, .int 0, .ref qA7, .int 0, .ref qA8, .int 0, .ref qA9, .int 0, .ref qA10, .int 0, .int 2])) : Option (Nat × va_E))) (hA2 : ws[kA2]? = (some (qA2, .inl (g 0, 10000, .inl (fun _ => 0))) : Option (Nat × va_E))) (hA3 : ws[kA3]? = (some (qA3, .inl (g 0, 10, .inl (upd (upd (upd (upd (upd (upd (upd (upd (upd (upd (fun _ => 0) 0 1) 1 1) 2 1) 3 1) 4 1) 5 1) 6 1) 7 1) 8 1) 9 1))) : Option (Nat × va_E))) (hA4 : ws[kA4]? = (some (qA4, .inl (g 3, 10, .inl (fun _ => 0))) : Option (Nat × va_E))) (hA5 : ws[kA5]? = (some (qA5, .inl (g 0, 10, .inl (fun _ => 0))) : Option (Nat × va_E))) (hA6 : ws[kA6]? = (some (qA6, .inl (g 0, 4400, .inl f2)) : Option (Nat × va_E))) (n_A2_A3 : kA2 ≠ kA3) (n_A2_A4 : kA2 ≠ kA4) (n_A2_A5 : kA2 ≠ kA5) (n_A2_A6 : kA2 ≠ kA6) (n_A3_A4 : kA3 ≠ kA4) (n_A3_A5 : kA3 ≠ kA5) (n_A3_A6 : kA3 ≠ kA6) (n_A4_A5 : kA4 ≠ kA5) (n_A4_A6 : kA4 ≠ kA6) (n_A5_A6 : kA5 ≠ kA6) (x1lo : 0 ≤ x1) (x1hi : x1 ≤ 9) : q_mV l y_DR_store prog_15_method_8_code 3 2 0 0 D g [.ref qO0, .int x1] ws (fun u => (q_un ws u [kO0, kA2, kA3, kA4, kA5, kA6] ∧ u[kO0]? = (some (qO0, .inr (14, [.int 0, .ref qA1, .int 0, .ref qA2, .ref qA3, .ref qA4, .ref qA5, .ref qA6, .int 1, .long 0, .int 0, .int 0, .ref qA7, .int 0, .ref qA8, .int 0, .ref qA9, .int 0, .ref qA10, .int 0, .int 2])) : Option (Nat × va_E)) ∧ u[kA2]? = (some (qA2, .inl (g 0, 10000, .inl (upd (fun _ => 0) ((1000 * x1).toNatClampNeg) (f2 (18 : Int32).toNatClampNeg)))) : Option (Nat × va_E)) ∧ u[kA3]? = (some (qA3, .inl (g 0, 10, .inl (upd (upd (upd (upd (upd (upd (upd (upd (upd (upd (upd (fun _ => 0) 0 1) 1 1) 2 1) 3 1) 4 1) 5 1) 6 1) 7 1) 8 1) 9 1) x1.toNatClampNeg 1))) : Option (Nat × va_E)) ∧ u[kA4]? = (some (qA4, .inl (g 3, 10, .inl (fun _ => 0))) : Option (Nat × va_E)) ∧ u[kA5]? = (some (qA5, .inl (g 0, 10, .inl (fun _ => 0))) : Option (Nat × va_E)) ∧ u[kA6]? = (some (qA6, .inl (g 0, 4400, .inl (upd f2 0 (f2 (18 : Int32).toNatClampNeg)))) : Option (Nat × va_E))) ∨ (∃ (ex0 : Int32) (ex1 : Nat → Int32) (ex2 : Nat → Int32), ¬ 19 ≤ (ex0 + 1) ∧ ¬ (f2 ex0.toNatClampNeg) = 0 ∧ 0 ≤ ex0 ∧ ex0 ≤ 17 ∧ q_un ws u [kO0, kA2, kA3, kA4, kA5, kA6] ∧ u[kO0]? = (some (qO0, .inr (14, [.int 0, .ref qA1, .int 0, .ref qA2, .ref qA3, .ref qA4, .ref qA5, .ref qA6, .int (19 - ex0), .long 0, .int 0, .int 0, .ref qA7, .int 0, .ref qA8, .int 0, .ref qA9, .int 0, .ref qA10, .int 0, .int 2])) : Option (Nat × va_E)) ∧ u[kA2]? = (some (qA2, .inl (g 0, 10000, .inl ex1)) : Option (Nat × va_E)) ∧ u[kA3]? = (some (qA3, .inl (g 0, 10, .inl (upd (upd (upd (upd (upd (upd (upd (upd (upd (upd (upd (fun _ => 0) 0 1) 1 1) 2 1) 3 1) 4 1) 5 1) 6 1) 7 1) 8 1) 9 1) x1.toNatClampNeg (19 - ex0)))) : Option (Nat × va_E)) ∧ u[kA4]? = (some (qA4, .inl (g 3, 10, .inl (fun _ => 0))) : Option (Nat × va_E)) ∧ u[kA5]? = (some (qA5, .inl (g 0, 10, .inl (fun _ => 0))) : Option (Nat × va_E)) ∧ u[kA6]? = (some (qA6, .inl (g 0, 4400, .inl ex2)) : Option (Nat × va_E)))) := by
  intro sz
  refine q_into (by decide) (Nat.le_of_ble_eq_true rfl) ?_
  intro p e s m below meth c ls hsz C0 V hl
  have hx := C0.1
  have hb := C0.2.1
  have hl : lv_has ls 3 [(0, .ref qO0), (1, .int x1)] := hl
  have n_A2_O0 := q_df hA2 hO0
  have n_A3_A2 := Ne.symm n_A2_A3
  have n_A3_O0 := q_df hA3 hO0
  have n_A4_A2 := Ne.symm n_A2_A4
  have n_A4_A3 := Ne.symm n_A3_A4
  have n_A4_O0 := q_df hA4 hO0
  have n_A5_A2 := Ne.symm n_A2_A5
  have n_A5_A3 := Ne.symm n_A3_A5
  have n_A5_A4 := Ne.symm n_A4_A5
  have n_A5_O0 := q_df hA5 hO0
  have n_A6_A2 := Ne.symm n_A2_A6
  have n_A6_A3 := Ne.symm n_A3_A6
  have n_A6_A4 := Ne.symm n_A4_A6
  have n_A6_A5 := Ne.symm n_A5_A6
  have n_O0_A2 := Ne.symm (q_df hA2 hO0)
  have n_O0_A3 := Ne.symm (q_df hA3 hO0)
  have n_O0_A4 := Ne.symm (q_df hA4 hO0)
  have n_O0_A5 := Ne.symm (q_df hA5 hO0)
  have hF : q_un ws ws [kO0, kA2, kA3, kA4, kA5, kA6] := q_u0
  refine lv_aload_n hx hb d_15_8_0 rfl (lv_at hl 0 rfl) ?_
  refine q_gov V (q_runV (As := []) (rest := []) (d := 1) (mc := 0) (ms := 0) (ci := 14) C0 V rfl LV_DR_59 (c_DR_trim_7 l D g ws kO0 kA6 qO0 qA1 qA2 qA3 qA4 qA5 qA6 qA7 qA8 qA9 qA10 f2 hO0 hA6 _) rfl rfl hO0 rfl hl.1 rfl (Nat.le_of_ble_eq_true rfl) ⟨by decide, by decide⟩ ⟨Nat.le_of_ble_eq_true rfl, Nat.le_of_ble_eq_true rfl⟩ d_15_8_1) (fun u2 H locs hp1 V => ?_)
  rcases hp1 with ⟨hg3, hO0, hA6⟩ | ⟨y8, y9, c4, c5, f6, f7, hg10, hO0, hA6⟩
  ·
    replace hF := q_uc hF hg3 (q_sc (.head _) (q_sc (List.mem_of_getElem? (i := 5) rfl) (fun _ h => absurd h List.not_mem_nil)))
    refine lv_aload_n hx hb d_15_8_4 rfl (lv_at hl 0 rfl) ?_
    refine q_get (ci := 14) (j := 8) (v := .int 1) C0 V i_DR rfl rfl hO0 (by decide) w_2011 rfl d_15_8_5 ?_
    refine lv_sipush (v := 1000) hx hb d_15_8_8 (by decide) ?_
    refine lv_icmp_gt (tgt := 36) hx hb d_15_8_11 (by decide) (fun c11 => absurd c11 (by decide)) (fun c11 => ?_)
    refine lv_aload_n hx hb d_15_8_14 rfl (lv_at hl 0 rfl) ?_
    refine q_get (ci := 14) (j := 9) (v := .long 0) C0 V i_DR rfl rfl hO0 (by decide) w_2012 rfl d_15_8_15 ?_
    refine q_ldc2 C0 rfl w_2417 d_15_8_18 ?_
    refine W.lcmp hx hb d_15_8_21 ?_
    refine q_ti (v := 1) (by decide) ?_
    refine lv_if_lt (tgt := 36) hx hb d_15_8_22 (by decide) (fun c12 => absurd c12 (by decide)) (fun c12 => ?_)
    refine lv_aload_n hx hb d_15_8_25 rfl (lv_at hl 0 rfl) ?_
    refine q_get (ci := 14) (j := 9) (v := .long 0) C0 V i_DR rfl rfl hO0 (by decide) w_2012 rfl d_15_8_26 ?_
    refine q_ldc2 C0 rfl w_2418 d_15_8_29 ?_
    refine W.lcmp hx hb d_15_8_32 ?_
    refine q_ti (v := (-1)) (by decide) ?_
    refine lv_if_le (tgt := 45) hx hb d_15_8_33 (by decide) (fun c13 => ?_) (fun c13 => absurd (by decide) c13)
    refine lv_iconst (v := 0) hx hb d_15_8_45 (by decide) ?_
    refine lv_istore_n (lv' := [(2, .int 0), (0, .ref qO0), (1, .int x1)]) hx hb d_15_8_46 rfl hl (by decide) rfl (fun ls hl => ?_)
    refine lv_iload_n hx hb d_15_8_47 rfl (lv_at hl 0 rfl) ?_
    refine lv_aload_n hx hb d_15_8_48 rfl (lv_at hl 1 rfl) ?_
    refine q_get (ci := 14) (j := 8) (v := .int 1) C0 V i_DR rfl rfl hO0 (by decide) w_2011 rfl d_15_8_49 ?_
    refine lv_icmp_ge (tgt := 79) hx hb d_15_8_52 (by decide) (fun c14 => absurd c14 (by decide)) (fun c14 => ?_)
    refine lv_aload_n hx hb d_15_8_55 rfl (lv_at hl 1 rfl) ?_
    refine q_get (ci := 14) (j := 3) (v := .ref qA2) C0 V i_DR rfl rfl hO0 (by decide) w_2002 rfl d_15_8_56 ?_
    refine lv_sipush (v := 1000) hx hb d_15_8_59 (by decide) ?_
    refine lv_iload_n hx hb d_15_8_62 rfl (lv_at hl 2 rfl) ?_
    refine lv_imul hx hb d_15_8_63 ?_
    refine lv_iload_n hx hb d_15_8_64 rfl (lv_at hl 0 rfl) ?_
    refine lv_iadd hx hb d_15_8_65 ?_
    refine q_ti (v := 1000 * x1) (by simp) ?_
    refine lv_aload_n hx hb d_15_8_66 rfl (lv_at hl 1 rfl) ?_
    refine q_get (ci := 14) (j := 7) (v := .ref qA6) C0 V i_DR rfl rfl hO0 (by decide) w_2010 rfl d_15_8_67 ?_
    refine lv_iload_n hx hb d_15_8_70 rfl (lv_at hl 0 rfl) ?_
    refine q_iald C0 V hA6 (by unfold vp_in; decide) d_15_8_71 ?_
    refine q_ti (v := (f2 (18 : Int32).toNatClampNeg)) (by first | rfl | decide | simp [upd, vp_updL, sb_cl0]) ?_
    replace hA2 := (hg3 _ (q_nc n_A2_O0 (q_nc n_A2_A6 List.not_mem_nil))).trans (hA2)
    refine q_iast C0 V hA2 (q_ix (x := (1000 * x1.toInt)) (q_mulI (x := 1000) (y := x1.toInt) (by decide) rfl (by have t1 : 0 ≤ x1.toInt := q_leI x1lo; have t2 : x1.toInt ≤ 9 := q_leI x1hi; omega) (by have t1 : 0 ≤ x1.toInt := q_leI x1lo; have t2 : x1.toInt ≤ 9 := q_leI x1hi; omega)) (by have t1 : 0 ≤ x1.toInt := q_leI x1lo; have t2 : x1.toInt ≤ 9 := q_leI x1hi; omega) (by have t1 : 0 ≤ x1.toInt := q_leI x1lo; have t2 : x1.toInt ≤ 9 := q_leI x1hi; omega)) d_15_8_72 (fun H locs w15 hu16 hA2 V => ?_)
    replace hA2 : w15[kA2]? = (some (qA2, .inl (g 0, 10000, .inl (upd (fun _ => 0) ((1000 * x1).toNatClampNeg) (f2 (18 : Int32).toNatClampNeg)))) : Option (Nat × va_E)) := hA2
    replace hF := q_us hF hu16 (.tail _ (.head _))
    refine lv_iinc (v := 1) (lv' := [(2, .int 1), (0, .ref qO0), (1, .int x1)]) hx hb d_15_8_73 hl (k := 0) rfl (by decide) (by decide) rfl (fun ls hl => ?_)
    refine lv_goto (tgt := 47) hx hb d_15_8_76 (by decide) ?_
    refine lv_iload_n hx hb d_15_8_47 rfl (lv_at hl 0 rfl) ?_
    refine lv_aload_n hx hb d_15_8_48 rfl (lv_at hl 1 rfl) ?_
    replace hO0 := (hu16 _ n_O0_A2).trans (hO0)
    refine q_get (ci := 14) (j := 8) (v := .int 1) C0 V i_DR rfl rfl hO0 (by decide) w_2011 rfl d_15_8_49 ?_
    refine lv_icmp_ge (tgt := 79) hx hb d_15_8_52 (by decide) (fun c17 => ?_) (fun c17 => absurd (by decide) c17)
    refine lv_aload_n hx hb d_15_8_79 rfl (lv_at hl 1 rfl) ?_
    refine q_get (ci := 14) (j := 4) (v := .ref qA3) C0 V i_DR rfl rfl hO0 (by decide) w_2004 rfl d_15_8_80 ?_
    refine lv_iload_n hx hb d_15_8_83 rfl (lv_at hl 2 rfl) ?_
    refine lv_aload_n hx hb d_15_8_84 rfl (lv_at hl 1 rfl) ?_
    refine q_get (ci := 14) (j := 8) (v := .int 1) C0 V i_DR rfl rfl hO0 (by decide) w_2011 rfl d_15_8_85 ?_
    replace hA3 := (hu16 _ n_A3_A2).trans ((hg3 _ (q_nc n_A3_O0 (q_nc n_A3_A6 List.not_mem_nil))).trans (hA3))
    refine q_iast C0 V hA3 (q_ix (x := x1.toInt) rfl (by have t1 : 0 ≤ x1.toInt := q_leI x1lo; have t2 : x1.toInt ≤ 9 := q_leI x1hi; omega) (by have t1 : 0 ≤ x1.toInt := q_leI x1lo; have t2 : x1.toInt ≤ 9 := q_leI x1hi; omega)) d_15_8_88 (fun H locs w18 hu19 hA3 V => ?_)
    replace hA3 : w18[kA3]? = (some (qA3, .inl (g 0, 10, .inl (upd (upd (upd (upd (upd (upd (upd (upd (upd (upd (upd (fun _ => 0) 0 1) 1 1) 2 1) 3 1) 4 1) 5 1) 6 1) 7 1) 8 1) 9 1) x1.toNatClampNeg 1))) : Option (Nat × va_E)) := hA3
    replace hF := q_us hF hu19 (.tail _ (.tail _ (.head _)))
    refine lv_aload_n hx hb d_15_8_89 rfl (lv_at hl 1 rfl) ?_
    replace hO0 := (hu19 _ n_O0_A3).trans (hO0)
    refine q_get (ci := 14) (j := 5) (v := .ref qA4) C0 V i_DR rfl rfl hO0 (by decide) w_2006 rfl d_15_8_90 ?_
    refine lv_iload_n hx hb d_15_8_93 rfl (lv_at hl 2 rfl) ?_
    refine lv_aload_n hx hb d_15_8_94 rfl (lv_at hl 1 rfl) ?_
    refine q_get (ci := 14) (j := 11) (v := .int 0) C0 V i_DR rfl rfl hO0 (by decide) w_2014 rfl d_15_8_95 ?_
    replace hA4 := (hu19 _ n_A4_A3).trans ((hu16 _ n_A4_A2).trans ((hg3 _ (q_nc n_A4_O0 (q_nc n_A4_A6 List.not_mem_nil))).trans (hA4)))
    refine q_zast C0 V hA4 (q_ix (x := x1.toInt) rfl (by have t1 : 0 ≤ x1.toInt := q_leI x1lo; have t2 : x1.toInt ≤ 9 := q_leI x1hi; omega) (by have t1 : 0 ≤ x1.toInt := q_leI x1lo; have t2 : x1.toInt ≤ 9 := q_leI x1hi; omega)) d_15_8_98 (fun H locs w20 hu21 hA4 V => ?_)
    replace hA4 := q_re (y := (qA4, .inl (g 3, 10, .inl (fun _ => 0)))) hA4 (q_eI q_upd0)
    replace hA4 : w20[kA4]? = (some (qA4, .inl (g 3, 10, .inl (fun _ => 0))) : Option (Nat × va_E)) := hA4
    replace hF := q_us hF hu21 (List.mem_of_getElem? (i := 3) rfl)
    refine lv_aload_n hx hb d_15_8_99 rfl (lv_at hl 1 rfl) ?_
    replace hO0 := (hu21 _ n_O0_A4).trans (hO0)
    refine q_get (ci := 14) (j := 6) (v := .ref qA5) C0 V i_DR rfl rfl hO0 (by decide) w_2008 rfl d_15_8_100 ?_
    refine lv_iload_n hx hb d_15_8_103 rfl (lv_at hl 2 rfl) ?_
    refine lv_aload_n hx hb d_15_8_104 rfl (lv_at hl 1 rfl) ?_
    refine q_get (ci := 14) (j := 9) (v := .long 0) C0 V i_DR rfl rfl hO0 (by decide) w_2012 rfl d_15_8_105 ?_
    refine lv_l2i hx hb d_15_8_108 rfl ?_
    refine q_ti (v := 0) (by decide) ?_
    replace hA5 := (hu21 _ n_A5_A4).trans ((hu19 _ n_A5_A3).trans ((hu16 _ n_A5_A2).trans ((hg3 _ (q_nc n_A5_O0 (q_nc n_A5_A6 List.not_mem_nil))).trans (hA5))))
    refine q_iast C0 V hA5 (q_ix (x := x1.toInt) rfl (by have t1 : 0 ≤ x1.toInt := q_leI x1lo; have t2 : x1.toInt ≤ 9 := q_leI x1hi; omega) (by have t1 : 0 ≤ x1.toInt := q_leI x1lo; have t2 : x1.toInt ≤ 9 := q_leI x1hi; omega)) d_15_8_109 (fun H locs w22 hu23 hA5 V => ?_)
    replace hA5 := q_re (y := (qA5, .inl (g 0, 10, .inl (fun _ => 0)))) hA5 (q_eI q_upd0)
    replace hA5 : w22[kA5]? = (some (qA5, .inl (g 0, 10, .inl (fun _ => 0))) : Option (Nat × va_E)) := hA5
    replace hF := q_us hF hu23 (List.mem_of_getElem? (i := 4) rfl)
    replace hO0 := (hu23 _ n_O0_A5).trans (hO0)
    replace hA2 := (hu23 _ n_A2_A5).trans ((hu21 _ n_A2_A4).trans ((hu19 _ n_A2_A3).trans (hA2)))
    replace hA3 := (hu23 _ n_A3_A5).trans ((hu21 _ n_A3_A4).trans (hA3))
    replace hA4 := (hu23 _ n_A4_A5).trans (hA4)
    replace hA6 := (hu23 _ n_A6_A5).trans ((hu21 _ n_A6_A4).trans ((hu19 _ n_A6_A3).trans ((hu16 _ n_A6_A2).trans (hA6))))
    exact q_retv C0 V (Or.inl ⟨hF, hO0, hA2, hA3, hA4, hA5, hA6⟩) d_15_8_110
  ·
    replace hF := q_uc hF hg10 (q_sc (.head _) (q_sc (List.mem_of_getElem? (i := 5) rfl) (fun _ h => absurd h List.not_mem_nil)))
    refine lv_aload_n hx hb d_15_8_4 rfl (lv_at hl 0 rfl) ?_
    refine q_get (ci := 14) (j := 8) (v := .int (19 - y8)) C0 V i_DR rfl rfl hO0 (by decide) w_2011 rfl d_15_8_5 ?_
    refine lv_sipush (v := 1000) hx hb d_15_8_8 (by decide) ?_
    refine lv_icmp_gt (tgt := 36) hx hb d_15_8_11 (by decide) (fun c24 => absurd c24 (Int32.not_lt.mpr (q_Ile (x := (19 - y8.toInt)) (y := 1000) (q_subI (x := 19) (y := y8.toInt) (by decide) rfl (by have t1 : (y8.toInt + 1) < 19 := by { have e1 : (19 : Int32).toInt = 19 := (by decide); have e2 : ((y8 + 1) : Int32).toInt = (y8.toInt + 1) := (q_addI (x := y8.toInt) (y := 1) rfl (by decide) (by have t1 : 0 ≤ y8.toInt := q_leI f6; have t2 : y8.toInt ≤ 17 := q_leI f7; omega) (by have t1 : 0 ≤ y8.toInt := q_leI f6; have t2 : y8.toInt ≤ 17 := q_leI f7; omega)); have e3 := q_nleI c4; omega }; have t2 : 0 ≤ y8.toInt := q_leI f6; have t3 : y8.toInt ≤ 17 := q_leI f7; omega) (by have t1 : (y8.toInt + 1) < 19 := by { have e1 : (19 : Int32).toInt = 19 := (by decide); have e2 : ((y8 + 1) : Int32).toInt = (y8.toInt + 1) := (q_addI (x := y8.toInt) (y := 1) rfl (by decide) (by have t1 : 0 ≤ y8.toInt := q_leI f6; have t2 : y8.toInt ≤ 17 := q_leI f7; omega) (by have t1 : 0 ≤ y8.toInt := q_leI f6; have t2 : y8.toInt ≤ 17 := q_leI f7; omega)); have e3 := q_nleI c4; omega }; have t2 : 0 ≤ y8.toInt := q_leI f6; have t3 : y8.toInt ≤ 17 := q_leI f7; omega)) (by decide) (by have t1 : (y8.toInt + 1) < 19 := by { have e1 : (19 : Int32).toInt = 19 := (by decide); have e2 : ((y8 + 1) : Int32).toInt = (y8.toInt + 1) := (q_addI (x := y8.toInt) (y := 1) rfl (by decide) (by have t1 : 0 ≤ y8.toInt := q_leI f6; have t2 : y8.toInt ≤ 17 := q_leI f7; omega) (by have t1 : 0 ≤ y8.toInt := q_leI f6; have t2 : y8.toInt ≤ 17 := q_leI f7; omega)); have e3 := q_nleI c4; omega }; have t2 : 0 ≤ y8.toInt := q_leI f6; have t3 : y8.toInt ≤ 17 := q_leI f7; omega)))) (fun c24 => ?_)
    refine lv_aload_n hx hb d_15_8_14 rfl (lv_at hl 0 rfl) ?_
    refine q_get (ci := 14) (j := 9) (v := .long 0) C0 V i_DR rfl rfl hO0 (by decide) w_2012 rfl d_15_8_15 ?_
    refine q_ldc2 C0 rfl w_2417 d_15_8_18 ?_
    refine W.lcmp hx hb d_15_8_21 ?_
    refine q_ti (v := 1) (by decide) ?_
    refine lv_if_lt (tgt := 36) hx hb d_15_8_22 (by decide) (fun c25 => absurd c25 (by decide)) (fun c25 => ?_)
    refine lv_aload_n hx hb d_15_8_25 rfl (lv_at hl 0 rfl) ?_
    refine q_get (ci := 14) (j := 9) (v := .long 0) C0 V i_DR rfl rfl hO0 (by decide) w_2012 rfl d_15_8_26 ?_
    refine q_ldc2 C0 rfl w_2418 d_15_8_29 ?_
    refine W.lcmp hx hb d_15_8_32 ?_
    refine q_ti (v := (-1)) (by decide) ?_
    refine lv_if_le (tgt := 45) hx hb d_15_8_33 (by decide) (fun c26 => ?_) (fun c26 => absurd (by decide) c26)
    refine lv_iconst (v := 0) hx hb d_15_8_45 (by decide) ?_
    refine lv_istore_n (lv' := [(2, .int 0), (0, .ref qO0), (1, .int x1)]) hx hb d_15_8_46 rfl hl (by decide) rfl (fun ls hl => ?_)
    replace hA2 := (hg10 _ (q_nc n_A2_O0 (q_nc n_A2_A6 List.not_mem_nil))).trans (hA2)
    replace hA3 := (hg10 _ (q_nc n_A3_O0 (q_nc n_A3_A6 List.not_mem_nil))).trans (hA3)
    replace hA4 := (hg10 _ (q_nc n_A4_O0 (q_nc n_A4_A6 List.not_mem_nil))).trans (hA4)
    replace hA5 := (hg10 _ (q_nc n_A5_O0 (q_nc n_A5_A6 List.not_mem_nil))).trans (hA5)
    refine q_loop (X := Int32 × (Nat → Int32)) (fun z H locs ls w29 => (0 ≤ z.1.toInt ∧ (z.1.toInt ≤ (19 - y8.toInt) ∨ z.1.toInt = 0)) ∧ q_Wd D g (va_A ws sz) s w29 H locs ∧ lv_has ls 3 [(2, .int z.1), (0, .ref qO0), (1, .int x1)] ∧ q_un ws w29 [kO0, kA2, kA3, kA4, kA5, kA6] ∧ w29[kO0]? = (some (qO0, .inr (14, [.int 0, .ref qA1, .int 0, .ref qA2, .ref qA3, .ref qA4, .ref qA5, .ref qA6, .int (19 - y8), .long 0, .int 0, .int 0, .ref qA7, .int 0, .ref qA8, .int 0, .ref qA9, .int 0, .ref qA10, .int 0, .int 2])) : Option (Nat × va_E)) ∧ w29[kA2]? = (some (qA2, .inl (g 0, 10000, .inl z.2)) : Option (Nat × va_E)) ∧ w29[kA3]? = (some (qA3, .inl (g 0, 10, .inl (upd (upd (upd (upd (upd (upd (upd (upd (upd (upd (fun _ => 0) 0 1) 1 1) 2 1) 3 1) 4 1) 5 1) 6 1) 7 1) 8 1) 9 1))) : Option (Nat × va_E)) ∧ w29[kA4]? = (some (qA4, .inl (g 3, 10, .inl (fun _ => 0))) : Option (Nat × va_E)) ∧ w29[kA5]? = (some (qA5, .inl (g 0, 10, .inl (fun _ => 0))) : Option (Nat × va_E)) ∧ w29[kA6]? = (some (qA6, .inl (g 0, 4400, .inl y9)) : Option (Nat × va_E))) (fun z => ((19 - y8.toInt) - z.1.toInt).toNat) ?_ ((0 : Int32), (fun _ => 0 : (Nat → Int32))) _ _ _ u2 ⟨⟨(by dsimp only; decide), Or.inr (by dsimp only; decide)⟩, V, hl, hF, hO0, hA2, hA3, hA4, hA5, hA6⟩
    rintro ⟨lx27, lx28⟩ H locs ls w29 ⟨i30, V, hl, hF, hO0, hA2, hA3, hA4, hA5, hA6⟩ ih31
    replace i30 : 0 ≤ lx27.toInt ∧ (lx27.toInt ≤ (19 - y8.toInt) ∨ lx27.toInt = 0) := i30
    replace hl : lv_has ls 3 [(2, .int lx27), (0, .ref qO0), (1, .int x1)] := hl
    replace hO0 : w29[kO0]? = (some (qO0, .inr (14, [.int 0, .ref qA1, .int 0, .ref qA2, .ref qA3, .ref qA4, .ref qA5, .ref qA6, .int (19 - y8), .long 0, .int 0, .int 0, .ref qA7, .int 0, .ref qA8, .int 0, .ref qA9, .int 0, .ref qA10, .int 0, .int 2])) : Option (Nat × va_E)) := hO0
    replace hA2 : w29[kA2]? = (some (qA2, .inl (g 0, 10000, .inl lx28)) : Option (Nat × va_E)) := hA2
    replace hA3 : w29[kA3]? = (some (qA3, .inl (g 0, 10, .inl (upd (upd (upd (upd (upd (upd (upd (upd (upd (upd (fun _ => 0) 0 1) 1 1) 2 1) 3 1) 4 1) 5 1) 6 1) 7 1) 8 1) 9 1))) : Option (Nat × va_E)) := hA3
    replace hA4 : w29[kA4]? = (some (qA4, .inl (g 3, 10, .inl (fun _ => 0))) : Option (Nat × va_E)) := hA4
    replace hA5 : w29[kA5]? = (some (qA5, .inl (g 0, 10, .inl (fun _ => 0))) : Option (Nat × va_E)) := hA5
    replace hA6 : w29[kA6]? = (some (qA6, .inl (g 0, 4400, .inl y9)) : Option (Nat × va_E)) := hA6
    refine lv_iload_n hx hb d_15_8_47 rfl (lv_at hl 0 rfl) ?_
    refine lv_aload_n hx hb d_15_8_48 rfl (lv_at hl 1 rfl) ?_
    refine q_get (ci := 14) (j := 8) (v := .int (19 - y8)) C0 V i_DR rfl rfl hO0 (by decide) w_2011 rfl d_15_8_49 ?_
    refine lv_icmp_ge (tgt := 79) hx hb d_15_8_52 (by decide) (fun c32 => ?_) (fun c32 => ?_)
    ·
      refine lv_aload_n hx hb d_15_8_79 rfl (lv_at hl 1 rfl) ?_
      refine q_get (ci := 14) (j := 4) (v := .ref qA3) C0 V i_DR rfl rfl hO0 (by decide) w_2004 rfl d_15_8_80 ?_
      refine lv_iload_n hx hb d_15_8_83 rfl (lv_at hl 2 rfl) ?_
      refine lv_aload_n hx hb d_15_8_84 rfl (lv_at hl 1 rfl) ?_
      refine q_get (ci := 14) (j := 8) (v := .int (19 - y8)) C0 V i_DR rfl rfl hO0 (by decide) w_2011 rfl d_15_8_85 ?_
      refine q_iast C0 V hA3 (q_ix (x := x1.toInt) rfl (by have t1 : 0 ≤ x1.toInt := q_leI x1lo; have t2 : x1.toInt ≤ 9 := q_leI x1hi; omega) (by have t1 : 0 ≤ x1.toInt := q_leI x1lo; have t2 : x1.toInt ≤ 9 := q_leI x1hi; omega)) d_15_8_88 (fun H locs w33 hu34 hA3 V => ?_)
      replace hA3 : w33[kA3]? = (some (qA3, .inl (g 0, 10, .inl (upd (upd (upd (upd (upd (upd (upd (upd (upd (upd (upd (fun _ => 0) 0 1) 1 1) 2 1) 3 1) 4 1) 5 1) 6 1) 7 1) 8 1) 9 1) x1.toNatClampNeg (19 - y8)))) : Option (Nat × va_E)) := hA3
      replace hF := q_us hF hu34 (.tail _ (.tail _ (.head _)))
      refine lv_aload_n hx hb d_15_8_89 rfl (lv_at hl 1 rfl) ?_
      replace hO0 := (hu34 _ n_O0_A3).trans (hO0)
      refine q_get (ci := 14) (j := 5) (v := .ref qA4) C0 V i_DR rfl rfl hO0 (by decide) w_2006 rfl d_15_8_90 ?_
      refine lv_iload_n hx hb d_15_8_93 rfl (lv_at hl 2 rfl) ?_
      refine lv_aload_n hx hb d_15_8_94 rfl (lv_at hl 1 rfl) ?_
      refine q_get (ci := 14) (j := 11) (v := .int 0) C0 V i_DR rfl rfl hO0 (by decide) w_2014 rfl d_15_8_95 ?_
      replace hA4 := (hu34 _ n_A4_A3).trans (hA4)
      refine q_zast C0 V hA4 (q_ix (x := x1.toInt) rfl (by have t1 : 0 ≤ x1.toInt := q_leI x1lo; have t2 : x1.toInt ≤ 9 := q_leI x1hi; omega) (by have t1 : 0 ≤ x1.toInt := q_leI x1lo; have t2 : x1.toInt ≤ 9 := q_leI x1hi; omega)) d_15_8_98 (fun H locs w35 hu36 hA4 V => ?_)
      replace hA4 := q_re (y := (qA4, .inl (g 3, 10, .inl (fun _ => 0)))) hA4 (q_eI q_upd0)
      replace hA4 : w35[kA4]? = (some (qA4, .inl (g 3, 10, .inl (fun _ => 0))) : Option (Nat × va_E)) := hA4
      replace hF := q_us hF hu36 (List.mem_of_getElem? (i := 3) rfl)
      refine lv_aload_n hx hb d_15_8_99 rfl (lv_at hl 1 rfl) ?_
      replace hO0 := (hu36 _ n_O0_A4).trans (hO0)
      refine q_get (ci := 14) (j := 6) (v := .ref qA5) C0 V i_DR rfl rfl hO0 (by decide) w_2008 rfl d_15_8_100 ?_
      refine lv_iload_n hx hb d_15_8_103 rfl (lv_at hl 2 rfl) ?_
      refine lv_aload_n hx hb d_15_8_104 rfl (lv_at hl 1 rfl) ?_
      refine q_get (ci := 14) (j := 9) (v := .long 0) C0 V i_DR rfl rfl hO0 (by decide) w_2012 rfl d_15_8_105 ?_
      refine lv_l2i hx hb d_15_8_108 rfl ?_
      refine q_ti (v := 0) (by decide) ?_
      replace hA5 := (hu36 _ n_A5_A4).trans ((hu34 _ n_A5_A3).trans (hA5))
      refine q_iast C0 V hA5 (q_ix (x := x1.toInt) rfl (by have t1 : 0 ≤ x1.toInt := q_leI x1lo; have t2 : x1.toInt ≤ 9 := q_leI x1hi; omega) (by have t1 : 0 ≤ x1.toInt := q_leI x1lo; have t2 : x1.toInt ≤ 9 := q_leI x1hi; omega)) d_15_8_109 (fun H locs w37 hu38 hA5 V => ?_)
      replace hA5 := q_re (y := (qA5, .inl (g 0, 10, .inl (fun _ => 0)))) hA5 (q_eI q_upd0)
      replace hA5 : w37[kA5]? = (some (qA5, .inl (g 0, 10, .inl (fun _ => 0))) : Option (Nat × va_E)) := hA5
      replace hF := q_us hF hu38 (List.mem_of_getElem? (i := 4) rfl)
      replace hO0 := (hu38 _ n_O0_A5).trans (hO0)
      replace hA2 := (hu38 _ n_A2_A5).trans ((hu36 _ n_A2_A4).trans ((hu34 _ n_A2_A3).trans (hA2)))
      replace hA3 := (hu38 _ n_A3_A5).trans ((hu36 _ n_A3_A4).trans (hA3))
      replace hA4 := (hu38 _ n_A4_A5).trans (hA4)
      replace hA6 := (hu38 _ n_A6_A5).trans ((hu36 _ n_A6_A4).trans ((hu34 _ n_A6_A3).trans (hA6)))
      exact q_retv C0 V (Or.inr (⟨y8, lx28, y9, c4, c5, f6, f7, hF, hO0, hA2, hA3, hA4, hA5, hA6⟩)) d_15_8_110
    ·
      refine lv_aload_n hx hb d_15_8_55 rfl (lv_at hl 1 rfl) ?_
      refine q_get (ci := 14) (j := 3) (v := .ref qA2) C0 V i_DR rfl rfl hO0 (by decide) w_2002 rfl d_15_8_56 ?_
      refine lv_sipush (v := 1000) hx hb d_15_8_59 (by decide) ?_
      refine lv_iload_n hx hb d_15_8_62 rfl (lv_at hl 2 rfl) ?_
      refine lv_imul hx hb d_15_8_63 ?_
      refine lv_iload_n hx hb d_15_8_64 rfl (lv_at hl 0 rfl) ?_
      refine lv_iadd hx hb d_15_8_65 ?_
      refine lv_aload_n hx hb d_15_8_66 rfl (lv_at hl 1 rfl) ?_
      refine q_get (ci := 14) (j := 7) (v := .ref qA6) C0 V i_DR rfl rfl hO0 (by decide) w_2010 rfl d_15_8_67 ?_
      refine lv_iload_n hx hb d_15_8_70 rfl (lv_at hl 0 rfl) ?_
      refine q_iald C0 V hA6 (q_ix (x := lx27.toInt) rfl (by have t1 : (y8.toInt + 1) < 19 := by { have e1 : (19 : Int32).toInt = 19 := (by decide); have e2 : ((y8 + 1) : Int32).toInt = (y8.toInt + 1) := (q_addI (x := y8.toInt) (y := 1) rfl (by decide) (by have t1 : 0 ≤ y8.toInt := q_leI f6; have t2 : y8.toInt ≤ 17 := q_leI f7; omega) (by have t1 : 0 ≤ y8.toInt := q_leI f6; have t2 : y8.toInt ≤ 17 := q_leI f7; omega)); have e3 := q_nleI c4; omega }; have t2 : lx27.toInt < (19 - y8.toInt) := by { have e1 : ((19 - y8) : Int32).toInt = (19 - y8.toInt) := (q_subI (x := 19) (y := y8.toInt) (by decide) rfl (by have t1 : 0 ≤ y8.toInt := q_leI f6; have t2 : y8.toInt ≤ 17 := q_leI f7; omega) (by have t1 : 0 ≤ y8.toInt := q_leI f6; have t2 : y8.toInt ≤ 17 := q_leI f7; omega)); have e2 : (lx27 : Int32).toInt = lx27.toInt := rfl; have e3 := q_nleI c32; omega }; have t3 : 0 ≤ y8.toInt := q_leI f6; have t4 : y8.toInt ≤ 17 := q_leI f7; omega) (by have t1 : (y8.toInt + 1) < 19 := by { have e1 : (19 : Int32).toInt = 19 := (by decide); have e2 : ((y8 + 1) : Int32).toInt = (y8.toInt + 1) := (q_addI (x := y8.toInt) (y := 1) rfl (by decide) (by have t1 : 0 ≤ y8.toInt := q_leI f6; have t2 : y8.toInt ≤ 17 := q_leI f7; omega) (by have t1 : 0 ≤ y8.toInt := q_leI f6; have t2 : y8.toInt ≤ 17 := q_leI f7; omega)); have e3 := q_nleI c4; omega }; have t2 : lx27.toInt < (19 - y8.toInt) := by { have e1 : ((19 - y8) : Int32).toInt = (19 - y8.toInt) := (q_subI (x := 19) (y := y8.toInt) (by decide) rfl (by have t1 : 0 ≤ y8.toInt := q_leI f6; have t2 : y8.toInt ≤ 17 := q_leI f7; omega) (by have t1 : 0 ≤ y8.toInt := q_leI f6; have t2 : y8.toInt ≤ 17 := q_leI f7; omega)); have e2 : (lx27 : Int32).toInt = lx27.toInt := rfl; have e3 := q_nleI c32; omega }; have t3 : 0 ≤ y8.toInt := q_leI f6; have t4 : y8.toInt ≤ 17 := q_leI f7; omega)) d_15_8_71 ?_
      refine q_iast C0 V hA2 (q_ix (x := ((1000 * x1.toInt) + lx27.toInt)) (q_addI (x := (1000 * x1.toInt)) (y := lx27.toInt) (q_mulI (x := 1000) (y := x1.toInt) (by decide) rfl (by have t1 : 0 ≤ x1.toInt := q_leI x1lo; have t2 : x1.toInt ≤ 9 := q_leI x1hi; omega) (by have t1 : 0 ≤ x1.toInt := q_leI x1lo; have t2 : x1.toInt ≤ 9 := q_leI x1hi; omega)) rfl (by have t1 : 0 ≤ x1.toInt := q_leI x1lo; have t2 : x1.toInt ≤ 9 := q_leI x1hi; have t3 : (y8.toInt + 1) < 19 := by { have e1 : (19 : Int32).toInt = 19 := (by decide); have e2 : ((y8 + 1) : Int32).toInt = (y8.toInt + 1) := (q_addI (x := y8.toInt) (y := 1) rfl (by decide) (by have t1 : 0 ≤ y8.toInt := q_leI f6; have t2 : y8.toInt ≤ 17 := q_leI f7; omega) (by have t1 : 0 ≤ y8.toInt := q_leI f6; have t2 : y8.toInt ≤ 17 := q_leI f7; omega)); have e3 := q_nleI c4; omega }; have t4 : lx27.toInt < (19 - y8.toInt) := by { have e1 : ((19 - y8) : Int32).toInt = (19 - y8.toInt) := (q_subI (x := 19) (y := y8.toInt) (by decide) rfl (by have t1 : 0 ≤ y8.toInt := q_leI f6; have t2 : y8.toInt ≤ 17 := q_leI f7; omega) (by have t1 : 0 ≤ y8.toInt := q_leI f6; have t2 : y8.toInt ≤ 17 := q_leI f7; omega)); have e2 : (lx27 : Int32).toInt = lx27.toInt := rfl; have e3 := q_nleI c32; omega }; have t5 : 0 ≤ y8.toInt := q_leI f6; have t6 : y8.toInt ≤ 17 := q_leI f7; omega) (by have t1 : 0 ≤ x1.toInt := q_leI x1lo; have t2 : x1.toInt ≤ 9 := q_leI x1hi; have t3 : (y8.toInt + 1) < 19 := by { have e1 : (19 : Int32).toInt = 19 := (by decide); have e2 : ((y8 + 1) : Int32).toInt = (y8.toInt + 1) := (q_addI (x := y8.toInt) (y := 1) rfl (by decide) (by have t1 : 0 ≤ y8.toInt := q_leI f6; have t2 : y8.toInt ≤ 17 := q_leI f7; omega) (by have t1 : 0 ≤ y8.toInt := q_leI f6; have t2 : y8.toInt ≤ 17 := q_leI f7; omega)); have e3 := q_nleI c4; omega }; have t4 : lx27.toInt < (19 - y8.toInt) := by { have e1 : ((19 - y8) : Int32).toInt = (19 - y8.toInt) := (q_subI (x := 19) (y := y8.toInt) (by decide) rfl (by have t1 : 0 ≤ y8.toInt := q_leI f6; have t2 : y8.toInt ≤ 17 := q_leI f7; omega) (by have t1 : 0 ≤ y8.toInt := q_leI f6; have t2 : y8.toInt ≤ 17 := q_leI f7; omega)); have e2 : (lx27 : Int32).toInt = lx27.toInt := rfl; have e3 := q_nleI c32; omega }; have t5 : 0 ≤ y8.toInt := q_leI f6; have t6 : y8.toInt ≤ 17 := q_leI f7; omega)) (by have t1 : 0 ≤ x1.toInt := q_leI x1lo; have t2 : x1.toInt ≤ 9 := q_leI x1hi; have t3 : (y8.toInt + 1) < 19 := by { have e1 : (19 : Int32).toInt = 19 := (by decide); have e2 : ((y8 + 1) : Int32).toInt = (y8.toInt + 1) := (q_addI (x := y8.toInt) (y := 1) rfl (by decide) (by have t1 : 0 ≤ y8.toInt := q_leI f6; have t2 : y8.toInt ≤ 17 := q_leI f7; omega) (by have t1 : 0 ≤ y8.toInt := q_leI f6; have t2 : y8.toInt ≤ 17 := q_leI f7; omega)); have e3 := q_nleI c4; omega }; have t4 : lx27.toInt < (19 - y8.toInt) := by { have e1 : ((19 - y8) : Int32).toInt = (19 - y8.toInt) := (q_subI (x := 19) (y := y8.toInt) (by decide) rfl (by have t1 : 0 ≤ y8.toInt := q_leI f6; have t2 : y8.toInt ≤ 17 := q_leI f7; omega) (by have t1 : 0 ≤ y8.toInt := q_leI f6; have t2 : y8.toInt ≤ 17 := q_leI f7; omega)); have e2 : (lx27 : Int32).toInt = lx27.toInt := rfl; have e3 := q_nleI c32; omega }; have t5 : 0 ≤ y8.toInt := q_leI f6; have t6 : y8.toInt ≤ 17 := q_leI f7; omega) (by have t1 : 0 ≤ x1.toInt := q_leI x1lo; have t2 : x1.toInt ≤ 9 := q_leI x1hi; have t3 : (y8.toInt + 1) < 19 := by { have e1 : (19 : Int32).toInt = 19 := (by decide); have e2 : ((y8 + 1) : Int32).toInt = (y8.toInt + 1) := (q_addI (x := y8.toInt) (y := 1) rfl (by decide) (by have t1 : 0 ≤ y8.toInt := q_leI f6; have t2 : y8.toInt ≤ 17 := q_leI f7; omega) (by have t1 : 0 ≤ y8.toInt := q_leI f6; have t2 : y8.toInt ≤ 17 := q_leI f7; omega)); have e3 := q_nleI c4; omega }; have t4 : lx27.toInt < (19 - y8.toInt) := by { have e1 : ((19 - y8) : Int32).toInt = (19 - y8.toInt) := (q_subI (x := 19) (y := y8.toInt) (by decide) rfl (by have t1 : 0 ≤ y8.toInt := q_leI f6; have t2 : y8.toInt ≤ 17 := q_leI f7; omega) (by have t1 : 0 ≤ y8.toInt := q_leI f6; have t2 : y8.toInt ≤ 17 := q_leI f7; omega)); have e2 : (lx27 : Int32).toInt = lx27.toInt := rfl; have e3 := q_nleI c32; omega }; have t5 : 0 ≤ y8.toInt := q_leI f6; have t6 : y8.toInt ≤ 17 := q_leI f7; omega)) d_15_8_72 (fun H locs w39 hu40 hA2 V => ?_)
      replace hA2 : w39[kA2]? = (some (qA2, .inl (g 0, 10000, .inl (upd lx28 (((1000 * x1) + lx27).toNatClampNeg) (y9 lx27.toNatClampNeg)))) : Option (Nat × va_E)) := hA2
      replace hF := q_us hF hu40 (.tail _ (.head _))
      refine lv_iinc (v := lx27 + 1) (lv' := [(2, .int (lx27 + 1)), (0, .ref qO0), (1, .int x1)]) hx hb d_15_8_73 hl (k := 0) rfl (rfl) (by decide) rfl (fun ls hl => ?_)
      refine lv_goto (tgt := 47) hx hb d_15_8_76 (by decide) ?_
      replace hO0 := (hu40 _ n_O0_A2).trans (hO0)
      replace hA3 := (hu40 _ n_A3_A2).trans (hA3)
      replace hA4 := (hu40 _ n_A4_A2).trans (hA4)
      replace hA5 := (hu40 _ n_A5_A2).trans (hA5)
      replace hA6 := (hu40 _ n_A6_A2).trans (hA6)
      exact ih31 ((lx27 + 1 : Int32), (upd lx28 (((1000 * x1) + lx27).toNatClampNeg) (y9 lx27.toNatClampNeg) : Nat → Int32)) _ _ _ _ (show ((19 - y8.toInt) - (lx27 + 1).toInt).toNat < ((19 - y8.toInt) - lx27.toInt).toNat from by have t1 : (y8.toInt + 1) < 19 := by { have e1 : (19 : Int32).toInt = 19 := (by decide); have e2 : ((y8 + 1) : Int32).toInt = (y8.toInt + 1) := (q_addI (x := y8.toInt) (y := 1) rfl (by decide) (by have t1 : 0 ≤ y8.toInt := q_leI f6; have t2 : y8.toInt ≤ 17 := q_leI f7; omega) (by have t1 : 0 ≤ y8.toInt := q_leI f6; have t2 : y8.toInt ≤ 17 := q_leI f7; omega)); have e3 := q_nleI c4; omega }; have t2 : lx27.toInt < (19 - y8.toInt) := by { have e1 : ((19 - y8) : Int32).toInt = (19 - y8.toInt) := (q_subI (x := 19) (y := y8.toInt) (by decide) rfl (by have t1 : 0 ≤ y8.toInt := q_leI f6; have t2 : y8.toInt ≤ 17 := q_leI f7; omega) (by have t1 : 0 ≤ y8.toInt := q_leI f6; have t2 : y8.toInt ≤ 17 := q_leI f7; omega)); have e2 : (lx27 : Int32).toInt = lx27.toInt := rfl; have e3 := q_nleI c32; omega }; have t3 : 0 ≤ y8.toInt := q_leI f6; have t4 : y8.toInt ≤ 17 := q_leI f7; have e : (lx27 + 1).toInt = (lx27.toInt + 1) := (q_addI (x := lx27.toInt) (y := 1) rfl (by decide) (by have t1 : (y8.toInt + 1) < 19 := by { have e1 : (19 : Int32).toInt = 19 := (by decide); have e2 : ((y8 + 1) : Int32).toInt = (y8.toInt + 1) := (q_addI (x := y8.toInt) (y := 1) rfl (by decide) (by have t1 : 0 ≤ y8.toInt := q_leI f6; have t2 : y8.toInt ≤ 17 := q_leI f7; omega) (by have t1 : 0 ≤ y8.toInt := q_leI f6; have t2 : y8.toInt ≤ 17 := q_leI f7; omega)); have e3 := q_nleI c4; omega }; have t2 : lx27.toInt < (19 - y8.toInt) := by { have e1 : ((19 - y8) : Int32).toInt = (19 - y8.toInt) := (q_subI (x := 19) (y := y8.toInt) (by decide) rfl (by have t1 : 0 ≤ y8.toInt := q_leI f6; have t2 : y8.toInt ≤ 17 := q_leI f7; omega) (by have t1 : 0 ≤ y8.toInt := q_leI f6; have t2 : y8.toInt ≤ 17 := q_leI f7; omega)); have e2 : (lx27 : Int32).toInt = lx27.toInt := rfl; have e3 := q_nleI c32; omega }; have t3 : 0 ≤ y8.toInt := q_leI f6; have t4 : y8.toInt ≤ 17 := q_leI f7; omega) (by have t1 : (y8.toInt + 1) < 19 := by { have e1 : (19 : Int32).toInt = 19 := (by decide); have e2 : ((y8 + 1) : Int32).toInt = (y8.toInt + 1) := (q_addI (x := y8.toInt) (y := 1) rfl (by decide) (by have t1 : 0 ≤ y8.toInt := q_leI f6; have t2 : y8.toInt ≤ 17 := q_leI f7; omega) (by have t1 : 0 ≤ y8.toInt := q_leI f6; have t2 : y8.toInt ≤ 17 := q_leI f7; omega)); have e3 := q_nleI c4; omega }; have t2 : lx27.toInt < (19 - y8.toInt) := by { have e1 : ((19 - y8) : Int32).toInt = (19 - y8.toInt) := (q_subI (x := 19) (y := y8.toInt) (by decide) rfl (by have t1 : 0 ≤ y8.toInt := q_leI f6; have t2 : y8.toInt ≤ 17 := q_leI f7; omega) (by have t1 : 0 ≤ y8.toInt := q_leI f6; have t2 : y8.toInt ≤ 17 := q_leI f7; omega)); have e2 : (lx27 : Int32).toInt = lx27.toInt := rfl; have e3 := q_nleI c32; omega }; have t3 : 0 ≤ y8.toInt := q_leI f6; have t4 : y8.toInt ≤ 17 := q_leI f7; omega)); omega) ⟨(show 0 ≤ (lx27 + 1).toInt ∧ ((lx27 + 1).toInt ≤ (19 - y8.toInt) ∨ (lx27 + 1).toInt = 0) from by have t1 : (y8.toInt + 1) < 19 := by { have e1 : (19 : Int32).toInt = 19 := (by decide); have e2 : ((y8 + 1) : Int32).toInt = (y8.toInt + 1) := (q_addI (x := y8.toInt) (y := 1) rfl (by decide) (by have t1 : 0 ≤ y8.toInt := q_leI f6; have t2 : y8.toInt ≤ 17 := q_leI f7; omega) (by have t1 : 0 ≤ y8.toInt := q_leI f6; have t2 : y8.toInt ≤ 17 := q_leI f7; omega)); have e3 := q_nleI c4; omega }; have t2 : lx27.toInt < (19 - y8.toInt) := by { have e1 : ((19 - y8) : Int32).toInt = (19 - y8.toInt) := (q_subI (x := 19) (y := y8.toInt) (by decide) rfl (by have t1 : 0 ≤ y8.toInt := q_leI f6; have t2 : y8.toInt ≤ 17 := q_leI f7; omega) (by have t1 : 0 ≤ y8.toInt := q_leI f6; have t2 : y8.toInt ≤ 17 := q_leI f7; omega)); have e2 : (lx27 : Int32).toInt = lx27.toInt := rfl; have e3 := q_nleI c32; omega }; have t3 : 0 ≤ y8.toInt := q_leI f6; have t4 : y8.toInt ≤ 17 := q_leI f7; have e : (lx27 + 1).toInt = (lx27.toInt + 1) := (q_addI (x := lx27.toInt) (y := 1) rfl (by decide) (by have t1 : (y8.toInt + 1) < 19 := by { have e1 : (19 : Int32).toInt = 19 := (by decide); have e2 : ((y8 + 1) : Int32).toInt = (y8.toInt + 1) := (q_addI (x := y8.toInt) (y := 1) rfl (by decide) (by have t1 : 0 ≤ y8.toInt := q_leI f6; have t2 : y8.toInt ≤ 17 := q_leI f7; omega) (by have t1 : 0 ≤ y8.toInt := q_leI f6; have t2 : y8.toInt ≤ 17 := q_leI f7; omega)); have e3 := q_nleI c4; omega }; have t2 : lx27.toInt < (19 - y8.toInt) := by { have e1 : ((19 - y8) : Int32).toInt = (19 - y8.toInt) := (q_subI (x := 19) (y := y8.toInt) (by decide) rfl (by have t1 : 0 ≤ y8.toInt := q_leI f6; have t2 : y8.toInt ≤ 17 := q_leI f7; omega) (by have t1 : 0 ≤ y8.toInt := q_leI f6; have t2 : y8.toInt ≤ 17 := q_leI f7; omega)); have e2 : (lx27 : Int32).toInt = lx27.toInt := rfl; have e3 := q_nleI c32; omega }; have t3 : 0 ≤ y8.toInt := q_leI f6; have t4 : y8.toInt ≤ 17 := q_leI f7; omega) (by have t1 : (y8.toInt + 1) < 19 := by { have e1 : (19 : Int32).toInt = 19 := (by decide); have e2 : ((y8 + 1) : Int32).toInt = (y8.toInt + 1) := (q_addI (x := y8.toInt) (y := 1) rfl (by decide) (by have t1 : 0 ≤ y8.toInt := q_leI f6; have t2 : y8.toInt ≤ 17 := q_leI f7; omega) (by have t1 : 0 ≤ y8.toInt := q_leI f6; have t2 : y8.toInt ≤ 17 := q_leI f7; omega)); have e3 := q_nleI c4; omega }; have t2 : lx27.toInt < (19 - y8.toInt) := by { have e1 : ((19 - y8) : Int32).toInt = (19 - y8.toInt) := (q_subI (x := 19) (y := y8.toInt) (by decide) rfl (by have t1 : 0 ≤ y8.toInt := q_leI f6; have t2 : y8.toInt ≤ 17 := q_leI f7; omega) (by have t1 : 0 ≤ y8.toInt := q_leI f6; have t2 : y8.toInt ≤ 17 := q_leI f7; omega)); have e2 : (lx27 : Int32).toInt = lx27.toInt := rfl; have e3 := q_nleI c32; omega }; have t3 : 0 ≤ y8.toInt := q_leI f6; have t4 : y8.toInt ≤ 17 := q_leI f7; omega)); omega), V, q_lw hl (q_lw1 0 rfl (q_lw1 1 rfl (q_lw1 2 rfl q_lw0))), hF, hO0, hA2, hA3, hA4, hA5, hA6⟩
theorem d_15_7_99 : decode prog_15_method_7_code 99 = .ok (.aload_n 0, 1) := by decide +kernel
theorem d_15_7_100 : decode prog_15_method_7_code 100 = .ok (.getfield 26, 3) := by decide +kernel
theorem d_15_7_103 : decode prog_15_method_7_code 103 = .ok (.iconst 0, 1) := by decide +kernel
theorem d_15_7_104 : decode prog_15_method_7_code 104 = .ok (.iaload, 1) := by decide +kernel
theorem d_15_7_105 : decode prog_15_method_7_code 105 = .ok (.ifCond .eq 7, 3) := by decide +kernel
theorem d_15_7_108 : decode prog_15_method_7_code 108 = .ok (.iconst 1, 1) := by decide +kernel
theorem d_15_7_109 : decode prog_15_method_7_code 109 = .ok (.goto 4, 3) := by decide +kernel
set_option maxRecDepth 100000 in
set_option maxHeartbeats 4000000 in
theorem c_DR_trim_8 (l : Launch) (D : va_G) (g : Nat → ClassId) (ws : va_W) (kO0 kA6 qO0 qA1 qA2 qA3 qA4 qA5 qA6 qA7 qA8 qA9 qA10 : Nat) (f1 : Nat → Int32) (hO0 : ws[kO0]? = (some (qO0, .inr (14, [.int 0, .ref qA1, .int 0, .ref qA2, .ref qA3, .ref qA4, .ref qA5, .ref qA6, .int 19, .long 0, .int 0, .int 1, .ref qA7, .int 0, .ref qA8, .int 0, .ref qA9, .int 0, .ref qA10, .int 0, .int 2])) : Option (Nat × va_E))) (hA6 : ws[kA6]? = (some (qA6, .inl (g 0, 4400, .inl f1)) : Option (Nat × va_E))) : q_mV l y_DR_trim prog_15_method_7_code 3 1 0 0 D g [.ref qO0] ws (fun u => ((f1 (18 : Int32).toNatClampNeg) = 0 ∧ q_un ws u [kO0, kA6] ∧ u[kO0]? = (some (qO0, .inr (14, [.int 0, .ref qA1, .int 0, .ref qA2, .ref qA3, .ref qA4, .ref qA5, .ref qA6, .int 1, .long 0, .int 0, .int 0, .ref qA7, .int 0, .ref qA8, .int 0, .ref qA9, .int 0, .ref qA10, .int 0, .int 2])) : Option (Nat × va_E)) ∧ u[kA6]? = (some (qA6, .inl (g 0, 4400, .inl (upd f1 0 (f1 (18 : Int32).toNatClampNeg)))) : Option (Nat × va_E))) ∨ (¬ (f1 (18 : Int32).toNatClampNeg) = 0 ∧ q_un ws u [kO0, kA6] ∧ u[kO0]? = (some (qO0, .inr (14, [.int 0, .ref qA1, .int 0, .ref qA2, .ref qA3, .ref qA4, .ref qA5, .ref qA6, .int 1, .long 0, .int 0, .int 1, .ref qA7, .int 0, .ref qA8, .int 0, .ref qA9, .int 0, .ref qA10, .int 0, .int 2])) : Option (Nat × va_E)) ∧ u[kA6]? = (some (qA6, .inl (g 0, 4400, .inl (upd f1 0 (f1 (18 : Int32).toNatClampNeg)))) : Option (Nat × va_E))) ∨ (∃ (ex0 : Int32) (ex1 : Nat → Int32), ¬ 19 ≤ (ex0 + 1) ∧ ¬ (f1 ex0.toNatClampNeg) = 0 ∧ (ex1 (0 : Int32).toNatClampNeg) = 0 ∧ 0 ≤ ex0 ∧ ex0 ≤ 17 ∧ q_un ws u [kO0, kA6] ∧ u[kO0]? = (some (qO0, .inr (14, [.int 0, .ref qA1, .int 0, .ref qA2, .ref qA3, .ref qA4, .ref qA5, .ref qA6, .int (19 - ex0), .long 0, .int 0, .int 0, .ref qA7, .int 0, .ref qA8, .int 0, .ref qA9, .int 0, .ref qA10, .int 0, .int 2])) : Option (Nat × va_E)) ∧ u[kA6]? = (some (qA6, .inl (g 0, 4400, .inl ex1)) : Option (Nat × va_E))) ∨ (∃ (ex0 : Int32) (ex1 : Nat → Int32), ¬ 19 ≤ (ex0 + 1) ∧ ¬ (f1 ex0.toNatClampNeg) = 0 ∧ ¬ (ex1 (0 : Int32).toNatClampNeg) = 0 ∧ 0 ≤ ex0 ∧ ex0 ≤ 17 ∧ q_un ws u [kO0, kA6] ∧ u[kO0]? = (some (qO0, .inr (14, [.int 0, .ref qA1, .int 0, .ref qA2, .ref qA3, .ref qA4, .ref qA5, .ref qA6, .int (19 - ex0), .long 0, .int 0, .int 1, .ref qA7, .int 0, .ref qA8, .int 0, .ref qA9, .int 0, .ref qA10, .int 0, .int 2])) : Option (Nat × va_E)) ∧ u[kA6]? = (some (qA6, .inl (g 0, 4400, .inl ex1)) : Option (Nat × va_E)))) := by
  intro sz
  refine q_into (by decide) (Nat.le_of_ble_eq_true rfl) ?_
  intro p e s m below meth c ls hsz C0 V hl
  have hx := C0.1
  have hb := C0.2.1
  have hl : lv_has ls 3 [(0, .ref qO0)] := hl
  have n_A6_O0 := q_df hA6 hO0
  have n_O0_A6 := Ne.symm (q_df hA6 hO0)
  have hF : q_un ws ws [kO0, kA6] := q_u0
  refine lv_iconst (v := 0) hx hb d_15_7_0 (by decide) ?_
  refine lv_istore_n (lv' := [(1, .int 0), (0, .ref qO0)]) hx hb d_15_7_1 rfl hl (by decide) rfl (fun ls hl => ?_)
  refine q_loop (X := Int32) (fun z H locs ls w2 => (0 ≤ z.toInt ∧ (z.toInt ≤ 18 ∨ z.toInt = 0)) ∧ q_Wd D g (va_A ws sz) s w2 H locs ∧ lv_has ls 3 [(1, .int z), (0, .ref qO0)] ∧ q_un ws w2 [kO0, kA6] ∧ w2[kO0]? = (some (qO0, .inr (14, [.int 0, .ref qA1, .int 0, .ref qA2, .ref qA3, .ref qA4, .ref qA5, .ref qA6, .int 19, .long 0, .int 0, .int 1, .ref qA7, .int 0, .ref qA8, .int 0, .ref qA9, .int 0, .ref qA10, .int 0, .int 2])) : Option (Nat × va_E)) ∧ w2[kA6]? = (some (qA6, .inl (g 0, 4400, .inl f1)) : Option (Nat × va_E))) (fun z => (18 - z.toInt).toNat) ?_ ((0 : Int32)) _ _ _ ws ⟨⟨by decide, Or.inr (by decide)⟩, V, hl, hF, hO0, hA6⟩
  rintro lx1 H locs ls w2 ⟨i3, V, hl, hF, hO0, hA6⟩ ih4
  replace i3 : 0 ≤ lx1.toInt ∧ (lx1.toInt ≤ 18 ∨ lx1.toInt = 0) := i3
  replace hl : lv_has ls 3 [(1, .int lx1), (0, .ref qO0)] := hl
  replace hO0 : w2[kO0]? = (some (qO0, .inr (14, [.int 0, .ref qA1, .int 0, .ref qA2, .ref qA3, .ref qA4, .ref qA5, .ref qA6, .int 19, .long 0, .int 0, .int 1, .ref qA7, .int 0, .ref qA8, .int 0, .ref qA9, .int 0, .ref qA10, .int 0, .int 2])) : Option (Nat × va_E)) := hO0
  replace hA6 : w2[kA6]? = (some (qA6, .inl (g 0, 4400, .inl f1)) : Option (Nat × va_E)) := hA6
  refine lv_iload_n hx hb d_15_7_2 rfl (lv_at hl 0 rfl) ?_
  refine lv_iconst (v := 1) hx hb d_15_7_3 (by decide) ?_
  refine lv_iadd hx hb d_15_7_4 ?_
  refine lv_aload_n hx hb d_15_7_5 rfl (lv_at hl 1 rfl) ?_
  refine q_get (ci := 14) (j := 8) (v := .int 19) C0 V i_DR rfl rfl hO0 (by decide) w_2011 rfl d_15_7_6 ?_
  refine lv_icmp_ge (tgt := 27) hx hb d_15_7_9 (by decide) (fun c5 => ?_) (fun c5 => ?_)
  ·
    refine lv_iconst (v := 0) hx hb d_15_7_27 (by decide) ?_
    refine lv_istore_n (lv' := [(2, .int 0), (1, .int lx1), (0, .ref qO0)]) hx hb d_15_7_28 rfl hl (by decide) rfl (fun ls hl => ?_)
    refine lv_iload_n hx hb d_15_7_29 rfl (lv_at hl 0 rfl) ?_
    refine lv_iload_n hx hb d_15_7_30 rfl (lv_at hl 1 rfl) ?_
    refine q_ti (v := 18) (q_Ieq (x := lx1.toInt) (y := 18) rfl (by decide) (by have t1 : 19 ≤ (lx1.toInt + 1) := by { have e1 : (19 : Int32).toInt = 19 := (by decide); have e2 : ((lx1 + 1) : Int32).toInt = (lx1.toInt + 1) := (q_addI (x := lx1.toInt) (y := 1) rfl (by decide) (by omega) (by omega)); have e3 := q_leI c5; omega }; omega)) ?_
    refine lv_iadd hx hb d_15_7_31 ?_
    refine q_ti (v := 18) (by decide) ?_
    refine lv_aload_n hx hb d_15_7_32 rfl (lv_at hl 2 rfl) ?_
    refine q_get (ci := 14) (j := 8) (v := .int 19) C0 V i_DR rfl rfl hO0 (by decide) w_2011 rfl d_15_7_33 ?_
    refine lv_icmp_ge (tgt := 59) hx hb d_15_7_36 (by decide) (fun c6 => absurd c6 (by decide)) (fun c6 => ?_)
    refine lv_aload_n hx hb d_15_7_39 rfl (lv_at hl 2 rfl) ?_
    refine q_get (ci := 14) (j := 7) (v := .ref qA6) C0 V i_DR rfl rfl hO0 (by decide) w_2010 rfl d_15_7_40 ?_
    refine lv_iload_n hx hb d_15_7_43 rfl (lv_at hl 0 rfl) ?_
    refine lv_aload_n hx hb d_15_7_44 rfl (lv_at hl 2 rfl) ?_
    refine q_get (ci := 14) (j := 7) (v := .ref qA6) C0 V i_DR rfl rfl hO0 (by decide) w_2010 rfl d_15_7_45 ?_
    refine lv_iload_n hx hb d_15_7_48 rfl (lv_at hl 0 rfl) ?_
    refine lv_iload_n hx hb d_15_7_49 rfl (lv_at hl 1 rfl) ?_
    refine q_ti (v := 18) (q_Ieq (x := lx1.toInt) (y := 18) rfl (by decide) (by have t1 : 19 ≤ (lx1.toInt + 1) := by { have e1 : (19 : Int32).toInt = 19 := (by decide); have e2 : ((lx1 + 1) : Int32).toInt = (lx1.toInt + 1) := (q_addI (x := lx1.toInt) (y := 1) rfl (by decide) (by omega) (by omega)); have e3 := q_leI c5; omega }; omega)) ?_
    refine lv_iadd hx hb d_15_7_50 ?_
    refine q_ti (v := 18) (by decide) ?_
    refine q_iald C0 V hA6 (by unfold vp_in; decide) d_15_7_51 ?_
    refine q_iast C0 V hA6 (by unfold vp_in; decide) d_15_7_52 (fun H locs w7 hu8 hA6 V => ?_)
    replace hA6 : w7[kA6]? = (some (qA6, .inl (g 0, 4400, .inl (upd f1 0 (f1 (18 : Int32).toNatClampNeg)))) : Option (Nat × va_E)) := hA6
    replace hF := q_us hF hu8 (.tail _ (.head _))
    refine lv_iinc (v := 1) (lv' := [(2, .int 1), (1, .int lx1), (0, .ref qO0)]) hx hb d_15_7_53 hl (k := 0) rfl (by decide) (by decide) rfl (fun ls hl => ?_)
    refine lv_goto (tgt := 29) hx hb d_15_7_56 (by decide) ?_
    refine lv_iload_n hx hb d_15_7_29 rfl (lv_at hl 0 rfl) ?_
    refine lv_iload_n hx hb d_15_7_30 rfl (lv_at hl 1 rfl) ?_
    refine q_ti (v := 18) (q_Ieq (x := lx1.toInt) (y := 18) rfl (by decide) (by have t1 : 19 ≤ (lx1.toInt + 1) := by { have e1 : (19 : Int32).toInt = 19 := (by decide); have e2 : ((lx1 + 1) : Int32).toInt = (lx1.toInt + 1) := (q_addI (x := lx1.toInt) (y := 1) rfl (by decide) (by omega) (by omega)); have e3 := q_leI c5; omega }; omega)) ?_
    refine lv_iadd hx hb d_15_7_31 ?_
    refine q_ti (v := 19) (by decide) ?_
    refine lv_aload_n hx hb d_15_7_32 rfl (lv_at hl 2 rfl) ?_
    replace hO0 := (hu8 _ n_O0_A6).trans (hO0)
    refine q_get (ci := 14) (j := 8) (v := .int 19) C0 V i_DR rfl rfl hO0 (by decide) w_2011 rfl d_15_7_33 ?_
    refine lv_icmp_ge (tgt := 59) hx hb d_15_7_36 (by decide) (fun c9 => ?_) (fun c9 => absurd (by decide) c9)
    refine lv_aload_n hx hb d_15_7_59 rfl (lv_at hl 2 rfl) ?_
    refine q_get (ci := 14) (j := 8) (v := .int 19) C0 V i_DR rfl rfl hO0 (by decide) w_2011 rfl d_15_7_60 ?_
    refine lv_if_ne (tgt := 81) hx hb d_15_7_63 (by decide) (fun c10 => ?_) (fun c10 => absurd c10 (by decide))
    refine lv_aload_n hx hb d_15_7_81 rfl (lv_at hl 2 rfl) ?_
    refine lv_aload_n hx hb d_15_7_82 rfl (lv_at hl 2 rfl) ?_
    refine q_get (ci := 14) (j := 8) (v := .int 19) C0 V i_DR rfl rfl hO0 (by decide) w_2011 rfl d_15_7_83 ?_
    refine lv_iload_n hx hb d_15_7_86 rfl (lv_at hl 1 rfl) ?_
    refine q_ti (v := 18) (q_Ieq (x := lx1.toInt) (y := 18) rfl (by decide) (by have t1 : 19 ≤ (lx1.toInt + 1) := by { have e1 : (19 : Int32).toInt = 19 := (by decide); have e2 : ((lx1 + 1) : Int32).toInt = (lx1.toInt + 1) := (q_addI (x := lx1.toInt) (y := 1) rfl (by decide) (by omega) (by omega)); have e3 := q_leI c5; omega }; omega)) ?_
    refine lv_isub hx hb d_15_7_87 ?_
    refine q_ti (v := 1) (by decide) ?_
    refine q_put (ci := 14) (j := 8) (v := .int 1) (ty := .int) C0 V i_DR o_DR n_DR rfl rfl hO0 (by decide) w_2011 rfl rfl rfl rfl (Nat.le_of_ble_eq_true rfl) d_15_7_88 (fun H locs w11 hu12 hO0 V => ?_)
    replace hO0 : w11[kO0]? = (some (qO0, .inr (14, [.int 0, .ref qA1, .int 0, .ref qA2, .ref qA3, .ref qA4, .ref qA5, .ref qA6, .int 1, .long 0, .int 0, .int 1, .ref qA7, .int 0, .ref qA8, .int 0, .ref qA9, .int 0, .ref qA10, .int 0, .int 2])) : Option (Nat × va_E)) := hO0
    replace hF := q_us hF hu12 (.head _)
    refine lv_aload_n hx hb d_15_7_91 rfl (lv_at hl 2 rfl) ?_
    refine lv_aload_n hx hb d_15_7_92 rfl (lv_at hl 2 rfl) ?_
    refine q_get (ci := 14) (j := 11) (v := .int 1) C0 V i_DR rfl rfl hO0 (by decide) w_2014 rfl d_15_7_93 ?_
    refine lv_if_eq (tgt := 112) hx hb d_15_7_96 (by decide) (fun c13 => absurd c13 (by decide)) (fun c13 => ?_)
    refine lv_aload_n hx hb d_15_7_99 rfl (lv_at hl 2 rfl) ?_
    refine q_get (ci := 14) (j := 7) (v := .ref qA6) C0 V i_DR rfl rfl hO0 (by decide) w_2010 rfl d_15_7_100 ?_
    refine lv_iconst (v := 0) hx hb d_15_7_103 (by decide) ?_
    replace hA6 := (hu12 _ n_A6_O0).trans (hA6)
    refine q_iald C0 V hA6 (by unfold vp_in; decide) d_15_7_104 ?_
    refine q_ti (v := (f1 (18 : Int32).toNatClampNeg)) (by first | rfl | decide | simp [upd, vp_updL, sb_cl0]) ?_
    refine lv_if_eq (tgt := 112) hx hb d_15_7_105 (by decide) (fun c14 => ?_) (fun c14 => ?_)
    ·
      refine lv_iconst (v := 0) hx hb d_15_7_112 (by decide) ?_
      refine q_put (ci := 14) (j := 11) (v := .int 0) (ty := .boolean) C0 V i_DR o_DR n_DR rfl rfl hO0 (by decide) w_2014 rfl rfl rfl rfl (Nat.le_of_ble_eq_true rfl) d_15_7_113 (fun H locs w15 hu16 hO0 V => ?_)
      replace hO0 : w15[kO0]? = (some (qO0, .inr (14, [.int 0, .ref qA1, .int 0, .ref qA2, .ref qA3, .ref qA4, .ref qA5, .ref qA6, .int 1, .long 0, .int 0, .int 0, .ref qA7, .int 0, .ref qA8, .int 0, .ref qA9, .int 0, .ref qA10, .int 0, .int 2])) : Option (Nat × va_E)) := hO0
      replace hF := q_us hF hu16 (.head _)
      replace hA6 := (hu16 _ n_A6_O0).trans (hA6)
      exact q_retv C0 V (Or.inl ⟨c14, hF, hO0, hA6⟩) d_15_7_116
    ·
      refine lv_iconst (v := 1) hx hb d_15_7_108 (by decide) ?_
      refine lv_goto (tgt := 113) hx hb d_15_7_109 (by decide) ?_
      refine q_put (ci := 14) (j := 11) (v := .int 1) (ty := .boolean) C0 V i_DR o_DR n_DR rfl rfl hO0 (by decide) w_2014 rfl rfl rfl rfl (Nat.le_of_ble_eq_true rfl) d_15_7_113 (fun H locs w17 hu18 hO0 V => ?_)
      replace hO0 : w17[kO0]? = (some (qO0, .inr (14, [.int 0, .ref qA1, .int 0, .ref qA2, .ref qA3, .ref qA4, .ref qA5, .ref qA6, .int 1, .long 0, .int 0, .int 1, .ref qA7, .int 0, .ref qA8, .int 0, .ref qA9, .int 0, .ref qA10, .int 0, .int 2])) : Option (Nat × va_E)) := hO0
      replace hF := q_us hF hu18 (.head _)
      replace hA6 := (hu18 _ n_A6_O0).trans (hA6)
      exact q_retv C0 V (Or.inr (Or.inl ⟨c14, hF, hO0, hA6⟩)) d_15_7_116
  ·
    refine lv_aload_n hx hb d_15_7_12 rfl (lv_at hl 1 rfl) ?_
    refine q_get (ci := 14) (j := 7) (v := .ref qA6) C0 V i_DR rfl rfl hO0 (by decide) w_2010 rfl d_15_7_13 ?_
    refine lv_iload_n hx hb d_15_7_16 rfl (lv_at hl 0 rfl) ?_
    refine q_iald C0 V hA6 (q_ix (x := lx1.toInt) rfl (by have t1 : (lx1.toInt + 1) < 19 := by { have e1 : (19 : Int32).toInt = 19 := (by decide); have e2 : ((lx1 + 1) : Int32).toInt = (lx1.toInt + 1) := (q_addI (x := lx1.toInt) (y := 1) rfl (by decide) (by omega) (by omega)); have e3 := q_nleI c5; omega }; omega) (by have t1 : (lx1.toInt + 1) < 19 := by { have e1 : (19 : Int32).toInt = 19 := (by decide); have e2 : ((lx1 + 1) : Int32).toInt = (lx1.toInt + 1) := (q_addI (x := lx1.toInt) (y := 1) rfl (by decide) (by omega) (by omega)); have e3 := q_nleI c5; omega }; omega)) d_15_7_17 ?_
    refine lv_if_ne (tgt := 27) hx hb d_15_7_18 (by decide) (fun c19 => ?_) (fun c19 => ?_)
    ·
      refine lv_iconst (v := 0) hx hb d_15_7_27 (by decide) ?_
      refine lv_istore_n (lv' := [(2, .int 0), (1, .int lx1), (0, .ref qO0)]) hx hb d_15_7_28 rfl hl (by decide) rfl (fun ls hl => ?_)
      refine q_loop (X := Int32 × (Nat → Int32)) (fun z H locs ls w22 => (0 ≤ z.1.toInt ∧ (z.1.toInt ≤ (19 - lx1.toInt) ∨ z.1.toInt = 0)) ∧ q_Wd D g (va_A ws sz) s w22 H locs ∧ lv_has ls 3 [(2, .int z.1), (1, .int lx1), (0, .ref qO0)] ∧ q_un ws w22 [kO0, kA6] ∧ w22[kO0]? = (some (qO0, .inr (14, [.int 0, .ref qA1, .int 0, .ref qA2, .ref qA3, .ref qA4, .ref qA5, .ref qA6, .int 19, .long 0, .int 0, .int 1, .ref qA7, .int 0, .ref qA8, .int 0, .ref qA9, .int 0, .ref qA10, .int 0, .int 2])) : Option (Nat × va_E)) ∧ w22[kA6]? = (some (qA6, .inl (g 0, 4400, .inl z.2)) : Option (Nat × va_E))) (fun z => ((19 - lx1.toInt) - z.1.toInt).toNat) ?_ ((0 : Int32), (f1 : (Nat → Int32))) _ _ _ w2 ⟨⟨(by dsimp only; decide), Or.inr (by dsimp only; decide)⟩, V, hl, hF, hO0, hA6⟩
      rintro ⟨lx20, lx21⟩ H locs ls w22 ⟨i23, V, hl, hF, hO0, hA6⟩ ih24
      replace i23 : 0 ≤ lx20.toInt ∧ (lx20.toInt ≤ (19 - lx1.toInt) ∨ lx20.toInt = 0) := i23
      replace hl : lv_has ls 3 [(2, .int lx20), (1, .int lx1), (0, .ref qO0)] := hl
      replace hO0 : w22[kO0]? = (some (qO0, .inr (14, [.int 0, .ref qA1, .int 0, .ref qA2, .ref qA3, .ref qA4, .ref qA5, .ref qA6, .int 19, .long 0, .int 0, .int 1, .ref qA7, .int 0, .ref qA8, .int 0, .ref qA9, .int 0, .ref qA10, .int 0, .int 2])) : Option (Nat × va_E)) := hO0
      replace hA6 : w22[kA6]? = (some (qA6, .inl (g 0, 4400, .inl lx21)) : Option (Nat × va_E)) := hA6
      refine lv_iload_n hx hb d_15_7_29 rfl (lv_at hl 0 rfl) ?_
      refine lv_iload_n hx hb d_15_7_30 rfl (lv_at hl 1 rfl) ?_
      refine lv_iadd hx hb d_15_7_31 ?_
      refine lv_aload_n hx hb d_15_7_32 rfl (lv_at hl 2 rfl) ?_
      refine q_get (ci := 14) (j := 8) (v := .int 19) C0 V i_DR rfl rfl hO0 (by decide) w_2011 rfl d_15_7_33 ?_
      refine lv_icmp_ge (tgt := 59) hx hb d_15_7_36 (by decide) (fun c25 => ?_) (fun c25 => ?_)
      ·
        refine lv_aload_n hx hb d_15_7_59 rfl (lv_at hl 2 rfl) ?_
        refine q_get (ci := 14) (j := 8) (v := .int 19) C0 V i_DR rfl rfl hO0 (by decide) w_2011 rfl d_15_7_60 ?_
        refine lv_if_ne (tgt := 81) hx hb d_15_7_63 (by decide) (fun c26 => ?_) (fun c26 => absurd c26 (by decide))
        refine lv_aload_n hx hb d_15_7_81 rfl (lv_at hl 2 rfl) ?_
        refine lv_aload_n hx hb d_15_7_82 rfl (lv_at hl 2 rfl) ?_
        refine q_get (ci := 14) (j := 8) (v := .int 19) C0 V i_DR rfl rfl hO0 (by decide) w_2011 rfl d_15_7_83 ?_
        refine lv_iload_n hx hb d_15_7_86 rfl (lv_at hl 1 rfl) ?_
        refine lv_isub hx hb d_15_7_87 ?_
        refine q_put (ci := 14) (j := 8) (v := .int (19 - lx1)) (ty := .int) C0 V i_DR o_DR n_DR rfl rfl hO0 (by decide) w_2011 rfl rfl rfl rfl (Nat.le_of_ble_eq_true rfl) d_15_7_88 (fun H locs w27 hu28 hO0 V => ?_)
        replace hO0 : w27[kO0]? = (some (qO0, .inr (14, [.int 0, .ref qA1, .int 0, .ref qA2, .ref qA3, .ref qA4, .ref qA5, .ref qA6, .int (19 - lx1), .long 0, .int 0, .int 1, .ref qA7, .int 0, .ref qA8, .int 0, .ref qA9, .int 0, .ref qA10, .int 0, .int 2])) : Option (Nat × va_E)) := hO0
        replace hF := q_us hF hu28 (.head _)
        refine lv_aload_n hx hb d_15_7_91 rfl (lv_at hl 2 rfl) ?_
        refine lv_aload_n hx hb d_15_7_92 rfl (lv_at hl 2 rfl) ?_
        refine q_get (ci := 14) (j := 11) (v := .int 1) C0 V i_DR rfl rfl hO0 (by decide) w_2014 rfl d_15_7_93 ?_
        refine lv_if_eq (tgt := 112) hx hb d_15_7_96 (by decide) (fun c29 => absurd c29 (by decide)) (fun c29 => ?_)
        refine lv_aload_n hx hb d_15_7_99 rfl (lv_at hl 2 rfl) ?_
        refine q_get (ci := 14) (j := 7) (v := .ref qA6) C0 V i_DR rfl rfl hO0 (by decide) w_2010 rfl d_15_7_100 ?_
        refine lv_iconst (v := 0) hx hb d_15_7_103 (by decide) ?_
        replace hA6 := (hu28 _ n_A6_O0).trans (hA6)
        refine q_iald C0 V hA6 (by unfold vp_in; decide) d_15_7_104 ?_
        refine lv_if_eq (tgt := 112) hx hb d_15_7_105 (by decide) (fun c30 => ?_) (fun c30 => ?_)
        ·
          refine lv_iconst (v := 0) hx hb d_15_7_112 (by decide) ?_
          refine q_put (ci := 14) (j := 11) (v := .int 0) (ty := .boolean) C0 V i_DR o_DR n_DR rfl rfl hO0 (by decide) w_2014 rfl rfl rfl rfl (Nat.le_of_ble_eq_true rfl) d_15_7_113 (fun H locs w31 hu32 hO0 V => ?_)
          replace hO0 : w31[kO0]? = (some (qO0, .inr (14, [.int 0, .ref qA1, .int 0, .ref qA2, .ref qA3, .ref qA4, .ref qA5, .ref qA6, .int (19 - lx1), .long 0, .int 0, .int 0, .ref qA7, .int 0, .ref qA8, .int 0, .ref qA9, .int 0, .ref qA10, .int 0, .int 2])) : Option (Nat × va_E)) := hO0
          replace hF := q_us hF hu32 (.head _)
          replace hA6 := (hu32 _ n_A6_O0).trans (hA6)
          exact q_retv C0 V (Or.inr (Or.inr (Or.inl ⟨lx1, lx21, c5, c19, c30, (q_Ile (x := 0) (y := lx1.toInt) (by decide) rfl (by have t1 : (lx1.toInt + 1) < 19 := by { have e1 : (19 : Int32).toInt = 19 := (by decide); have e2 : ((lx1 + 1) : Int32).toInt = (lx1.toInt + 1) := (q_addI (x := lx1.toInt) (y := 1) rfl (by decide) (by omega) (by omega)); have e3 := q_nleI c5; omega }; have t2 : 19 ≤ (lx20.toInt + lx1.toInt) := by { have e1 : (19 : Int32).toInt = 19 := (by decide); have e2 : ((lx20 + lx1) : Int32).toInt = (lx20.toInt + lx1.toInt) := (q_addI (x := lx20.toInt) (y := lx1.toInt) rfl rfl (by omega) (by omega)); have e3 := q_leI c25; omega }; omega)), (q_Ile (x := lx1.toInt) (y := 17) rfl (by decide) (by have t1 : (lx1.toInt + 1) < 19 := by { have e1 : (19 : Int32).toInt = 19 := (by decide); have e2 : ((lx1 + 1) : Int32).toInt = (lx1.toInt + 1) := (q_addI (x := lx1.toInt) (y := 1) rfl (by decide) (by omega) (by omega)); have e3 := q_nleI c5; omega }; have t2 : 19 ≤ (lx20.toInt + lx1.toInt) := by { have e1 : (19 : Int32).toInt = 19 := (by decide); have e2 : ((lx20 + lx1) : Int32).toInt = (lx20.toInt + lx1.toInt) := (q_addI (x := lx20.toInt) (y := lx1.toInt) rfl rfl (by omega) (by omega)); have e3 := q_leI c25; omega }; omega)), hF, hO0, hA6⟩))) d_15_7_116
        ·
          refine lv_iconst (v := 1) hx hb d_15_7_108 (by decide) ?_
          refine lv_goto (tgt := 113) hx hb d_15_7_109 (by decide) ?_
          refine q_put (ci := 14) (j := 11) (v := .int 1) (ty := .boolean) C0 V i_DR o_DR n_DR rfl rfl hO0 (by decide) w_2014 rfl rfl rfl rfl (Nat.le_of_ble_eq_true rfl) d_15_7_113 (fun H locs w33 hu34 hO0 V => ?_)
          replace hO0 : w33[kO0]? = (some (qO0, .inr (14, [.int 0, .ref qA1, .int 0, .ref qA2, .ref qA3, .ref qA4, .ref qA5, .ref qA6, .int (19 - lx1), .long 0, .int 0, .int 1, .ref qA7, .int 0, .ref qA8, .int 0, .ref qA9, .int 0, .ref qA10, .int 0, .int 2])) : Option (Nat × va_E)) := hO0
          replace hF := q_us hF hu34 (.head _)
          replace hA6 := (hu34 _ n_A6_O0).trans (hA6)
          exact q_retv C0 V (Or.inr (Or.inr (Or.inr (⟨lx1, lx21, c5, c19, c30, (q_Ile (x := 0) (y := lx1.toInt) (by decide) rfl (by have t1 : (lx1.toInt + 1) < 19 := by { have e1 : (19 : Int32).toInt = 19 := (by decide); have e2 : ((lx1 + 1) : Int32).toInt = (lx1.toInt + 1) := (q_addI (x := lx1.toInt) (y := 1) rfl (by decide) (by omega) (by omega)); have e3 := q_nleI c5; omega }; have t2 : 19 ≤ (lx20.toInt + lx1.toInt) := by { have e1 : (19 : Int32).toInt = 19 := (by decide); have e2 : ((lx20 + lx1) : Int32).toInt = (lx20.toInt + lx1.toInt) := (q_addI (x := lx20.toInt) (y := lx1.toInt) rfl rfl (by omega) (by omega)); have e3 := q_leI c25; omega }; omega)), (q_Ile (x := lx1.toInt) (y := 17) rfl (by decide) (by have t1 : (lx1.toInt + 1) < 19 := by { have e1 : (19 : Int32).toInt = 19 := (by decide); have e2 : ((lx1 + 1) : Int32).toInt = (lx1.toInt + 1) := (q_addI (x := lx1.toInt) (y := 1) rfl (by decide) (by omega) (by omega)); have e3 := q_nleI c5; omega }; have t2 : 19 ≤ (lx20.toInt + lx1.toInt) := by { have e1 : (19 : Int32).toInt = 19 := (by decide); have e2 : ((lx20 + lx1) : Int32).toInt = (lx20.toInt + lx1.toInt) := (q_addI (x := lx20.toInt) (y := lx1.toInt) rfl rfl (by omega) (by omega)); have e3 := q_leI c25; omega }; omega)), hF, hO0, hA6⟩)))) d_15_7_116
      ·
        refine lv_aload_n hx hb d_15_7_39 rfl (lv_at hl 2 rfl) ?_
        refine q_get (ci := 14) (j := 7) (v := .ref qA6) C0 V i_DR rfl rfl hO0 (by decide) w_2010 rfl d_15_7_40 ?_
        refine lv_iload_n hx hb d_15_7_43 rfl (lv_at hl 0 rfl) ?_
        refine lv_aload_n hx hb d_15_7_44 rfl (lv_at hl 2 rfl) ?_
        refine q_get (ci := 14) (j := 7) (v := .ref qA6) C0 V i_DR rfl rfl hO0 (by decide) w_2010 rfl d_15_7_45 ?_
        refine lv_iload_n hx hb d_15_7_48 rfl (lv_at hl 0 rfl) ?_
        refine lv_iload_n hx hb d_15_7_49 rfl (lv_at hl 1 rfl) ?_
        refine lv_iadd hx hb d_15_7_50 ?_
        refine q_iald C0 V hA6 (q_ix (x := (lx20.toInt + lx1.toInt)) (q_addI (x := lx20.toInt) (y := lx1.toInt) rfl rfl (by have t1 : (lx1.toInt + 1) < 19 := by { have e1 : (19 : Int32).toInt = 19 := (by decide); have e2 : ((lx1 + 1) : Int32).toInt = (lx1.toInt + 1) := (q_addI (x := lx1.toInt) (y := 1) rfl (by decide) (by omega) (by omega)); have e3 := q_nleI c5; omega }; have t2 : (lx20.toInt + lx1.toInt) < 19 := by { have e1 : (19 : Int32).toInt = 19 := (by decide); have e2 : ((lx20 + lx1) : Int32).toInt = (lx20.toInt + lx1.toInt) := (q_addI (x := lx20.toInt) (y := lx1.toInt) rfl rfl (by omega) (by omega)); have e3 := q_nleI c25; omega }; omega) (by have t1 : (lx1.toInt + 1) < 19 := by { have e1 : (19 : Int32).toInt = 19 := (by decide); have e2 : ((lx1 + 1) : Int32).toInt = (lx1.toInt + 1) := (q_addI (x := lx1.toInt) (y := 1) rfl (by decide) (by omega) (by omega)); have e3 := q_nleI c5; omega }; have t2 : (lx20.toInt + lx1.toInt) < 19 := by { have e1 : (19 : Int32).toInt = 19 := (by decide); have e2 : ((lx20 + lx1) : Int32).toInt = (lx20.toInt + lx1.toInt) := (q_addI (x := lx20.toInt) (y := lx1.toInt) rfl rfl (by omega) (by omega)); have e3 := q_nleI c25; omega }; omega)) (by have t1 : (lx1.toInt + 1) < 19 := by { have e1 : (19 : Int32).toInt = 19 := (by decide); have e2 : ((lx1 + 1) : Int32).toInt = (lx1.toInt + 1) := (q_addI (x := lx1.toInt) (y := 1) rfl (by decide) (by omega) (by omega)); have e3 := q_nleI c5; omega }; have t2 : (lx20.toInt + lx1.toInt) < 19 := by { have e1 : (19 : Int32).toInt = 19 := (by decide); have e2 : ((lx20 + lx1) : Int32).toInt = (lx20.toInt + lx1.toInt) := (q_addI (x := lx20.toInt) (y := lx1.toInt) rfl rfl (by omega) (by omega)); have e3 := q_nleI c25; omega }; omega) (by have t1 : (lx1.toInt + 1) < 19 := by { have e1 : (19 : Int32).toInt = 19 := (by decide); have e2 : ((lx1 + 1) : Int32).toInt = (lx1.toInt + 1) := (q_addI (x := lx1.toInt) (y := 1) rfl (by decide) (by omega) (by omega)); have e3 := q_nleI c5; omega }; have t2 : (lx20.toInt + lx1.toInt) < 19 := by { have e1 : (19 : Int32).toInt = 19 := (by decide); have e2 : ((lx20 + lx1) : Int32).toInt = (lx20.toInt + lx1.toInt) := (q_addI (x := lx20.toInt) (y := lx1.toInt) rfl rfl (by omega) (by omega)); have e3 := q_nleI c25; omega }; omega)) d_15_7_51 ?_
        refine q_iast C0 V hA6 (q_ix (x := lx20.toInt) rfl (by have t1 : (lx1.toInt + 1) < 19 := by { have e1 : (19 : Int32).toInt = 19 := (by decide); have e2 : ((lx1 + 1) : Int32).toInt = (lx1.toInt + 1) := (q_addI (x := lx1.toInt) (y := 1) rfl (by decide) (by omega) (by omega)); have e3 := q_nleI c5; omega }; have t2 : (lx20.toInt + lx1.toInt) < 19 := by { have e1 : (19 : Int32).toInt = 19 := (by decide); have e2 : ((lx20 + lx1) : Int32).toInt = (lx20.toInt + lx1.toInt) := (q_addI (x := lx20.toInt) (y := lx1.toInt) rfl rfl (by omega) (by omega)); have e3 := q_nleI c25; omega }; omega) (by have t1 : (lx1.toInt + 1) < 19 := by { have e1 : (19 : Int32).toInt = 19 := (by decide); have e2 : ((lx1 + 1) : Int32).toInt = (lx1.toInt + 1) := (q_addI (x := lx1.toInt) (y := 1) rfl (by decide) (by omega) (by omega)); have e3 := q_nleI c5; omega }; have t2 : (lx20.toInt + lx1.toInt) < 19 := by { have e1 : (19 : Int32).toInt = 19 := (by decide); have e2 : ((lx20 + lx1) : Int32).toInt = (lx20.toInt + lx1.toInt) := (q_addI (x := lx20.toInt) (y := lx1.toInt) rfl rfl (by omega) (by omega)); have e3 := q_nleI c25; omega }; omega)) d_15_7_52 (fun H locs w35 hu36 hA6 V => ?_)
        replace hA6 : w35[kA6]? = (some (qA6, .inl (g 0, 4400, .inl (upd lx21 lx20.toNatClampNeg (lx21 (lx20 + lx1).toNatClampNeg)))) : Option (Nat × va_E)) := hA6
        replace hF := q_us hF hu36 (.tail _ (.head _))
        refine lv_iinc (v := lx20 + 1) (lv' := [(2, .int (lx20 + 1)), (1, .int lx1), (0, .ref qO0)]) hx hb d_15_7_53 hl (k := 0) rfl (rfl) (by decide) rfl (fun ls hl => ?_)
        refine lv_goto (tgt := 29) hx hb d_15_7_56 (by decide) ?_
        replace hO0 := (hu36 _ n_O0_A6).trans (hO0)
        exact ih24 ((lx20 + 1 : Int32), (upd lx21 lx20.toNatClampNeg (lx21 (lx20 + lx1).toNatClampNeg) : Nat → Int32)) _ _ _ _ (show ((19 - lx1.toInt) - (lx20 + 1).toInt).toNat < ((19 - lx1.toInt) - lx20.toInt).toNat from by have t1 : (lx1.toInt + 1) < 19 := by { have e1 : (19 : Int32).toInt = 19 := (by decide); have e2 : ((lx1 + 1) : Int32).toInt = (lx1.toInt + 1) := (q_addI (x := lx1.toInt) (y := 1) rfl (by decide) (by omega) (by omega)); have e3 := q_nleI c5; omega }; have t2 : (lx20.toInt + lx1.toInt) < 19 := by { have e1 : (19 : Int32).toInt = 19 := (by decide); have e2 : ((lx20 + lx1) : Int32).toInt = (lx20.toInt + lx1.toInt) := (q_addI (x := lx20.toInt) (y := lx1.toInt) rfl rfl (by omega) (by omega)); have e3 := q_nleI c25; omega }; have e : (lx20 + 1).toInt = (lx20.toInt + 1) := (q_addI (x := lx20.toInt) (y := 1) rfl (by decide) (by have t1 : (lx1.toInt + 1) < 19 := by { have e1 : (19 : Int32).toInt = 19 := (by decide); have e2 : ((lx1 + 1) : Int32).toInt = (lx1.toInt + 1) := (q_addI (x := lx1.toInt) (y := 1) rfl (by decide) (by omega) (by omega)); have e3 := q_nleI c5; omega }; have t2 : (lx20.toInt + lx1.toInt) < 19 := by { have e1 : (19 : Int32).toInt = 19 := (by decide); have e2 : ((lx20 + lx1) : Int32).toInt = (lx20.toInt + lx1.toInt) := (q_addI (x := lx20.toInt) (y := lx1.toInt) rfl rfl (by omega) (by omega)); have e3 := q_nleI c25; omega }; omega) (by have t1 : (lx1.toInt + 1) < 19 := by { have e1 : (19 : Int32).toInt = 19 := (by decide); have e2 : ((lx1 + 1) : Int32).toInt = (lx1.toInt + 1) := (q_addI (x := lx1.toInt) (y := 1) rfl (by decide) (by omega) (by omega)); have e3 := q_nleI c5; omega }; have t2 : (lx20.toInt + lx1.toInt) < 19 := by { have e1 : (19 : Int32).toInt = 19 := (by decide); have e2 : ((lx20 + lx1) : Int32).toInt = (lx20.toInt + lx1.toInt) := (q_addI (x := lx20.toInt) (y := lx1.toInt) rfl rfl (by omega) (by omega)); have e3 := q_nleI c25; omega }; omega)); omega) ⟨(show 0 ≤ (lx20 + 1).toInt ∧ ((lx20 + 1).toInt ≤ (19 - lx1.toInt) ∨ (lx20 + 1).toInt = 0) from by have t1 : (lx1.toInt + 1) < 19 := by { have e1 : (19 : Int32).toInt = 19 := (by decide); have e2 : ((lx1 + 1) : Int32).toInt = (lx1.toInt + 1) := (q_addI (x := lx1.toInt) (y := 1) rfl (by decide) (by omega) (by omega)); have e3 := q_nleI c5; omega }; have t2 : (lx20.toInt + lx1.toInt) < 19 := by { have e1 : (19 : Int32).toInt = 19 := (by decide); have e2 : ((lx20 + lx1) : Int32).toInt = (lx20.toInt + lx1.toInt) := (q_addI (x := lx20.toInt) (y := lx1.toInt) rfl rfl (by omega) (by omega)); have e3 := q_nleI c25; omega }; have e : (lx20 + 1).toInt = (lx20.toInt + 1) := (q_addI (x := lx20.toInt) (y := 1) rfl (by decide) (by have t1 : (lx1.toInt + 1) < 19 := by { have e1 : (19 : Int32).toInt = 19 := (by decide); have e2 : ((lx1 + 1) : Int32).toInt = (lx1.toInt + 1) := (q_addI (x := lx1.toInt) (y := 1) rfl (by decide) (by omega) (by omega)); have e3 := q_nleI c5; omega }; have t2 : (lx20.toInt + lx1.toInt) < 19 := by { have e1 : (19 : Int32).toInt = 19 := (by decide); have e2 : ((lx20 + lx1) : Int32).toInt = (lx20.toInt + lx1.toInt) := (q_addI (x := lx20.toInt) (y := lx1.toInt) rfl rfl (by omega) (by omega)); have e3 := q_nleI c25; omega }; omega) (by have t1 : (lx1.toInt + 1) < 19 := by { have e1 : (19 : Int32).toInt = 19 := (by decide); have e2 : ((lx1 + 1) : Int32).toInt = (lx1.toInt + 1) := (q_addI (x := lx1.toInt) (y := 1) rfl (by decide) (by omega) (by omega)); have e3 := q_nleI c5; omega }; have t2 : (lx20.toInt + lx1.toInt) < 19 := by { have e1 : (19 : Int32).toInt = 19 := (by decide); have e2 : ((lx20 + lx1) : Int32).toInt = (lx20.toInt + lx1.toInt) := (q_addI (x := lx20.toInt) (y := lx1.toInt) rfl rfl (by omega) (by omega)); have e3 := q_nleI c25; omega }; omega)); omega), V, q_lw hl (q_lw1 0 rfl (q_lw1 1 rfl (q_lw1 2 rfl q_lw0))), hF, hO0, hA6⟩
    ·
      refine lv_iinc (v := lx1 + 1) (lv' := [(1, .int (lx1 + 1)), (0, .ref qO0)]) hx hb d_15_7_21 hl (k := 0) rfl (rfl) (by decide) rfl (fun ls hl => ?_)
      refine lv_goto (tgt := 2) hx hb d_15_7_24 (by decide) ?_
      exact ih4 ((lx1 + 1 : Int32)) _ _ _ _ (show (18 - (lx1 + 1).toInt).toNat < (18 - lx1.toInt).toNat from by have t1 : (lx1.toInt + 1) < 19 := by { have e1 : (19 : Int32).toInt = 19 := (by decide); have e2 : ((lx1 + 1) : Int32).toInt = (lx1.toInt + 1) := (q_addI (x := lx1.toInt) (y := 1) rfl (by decide) (by omega) (by omega)); have e3 := q_nleI c5; omega }; have e : (lx1 + 1).toInt = (lx1.toInt + 1) := (q_addI (x := lx1.toInt) (y := 1) rfl (by decide) (by have t1 : (lx1.toInt + 1) < 19 := by { have e1 : (19 : Int32).toInt = 19 := (by decide); have e2 : ((lx1 + 1) : Int32).toInt = (lx1.toInt + 1) := (q_addI (x := lx1.toInt) (y := 1) rfl (by decide) (by omega) (by omega)); have e3 := q_nleI c5; omega }; omega) (by have t1 : (lx1.toInt + 1) < 19 := by { have e1 : (19 : Int32).toInt = 19 := (by decide); have e2 : ((lx1 + 1) : Int32).toInt = (lx1.toInt + 1) := (q_addI (x := lx1.toInt) (y := 1) rfl (by decide) (by omega) (by omega)); have e3 := q_nleI c5; omega }; omega)); omega) ⟨(show 0 ≤ (lx1 + 1).toInt ∧ ((lx1 + 1).toInt ≤ 18 ∨ (lx1 + 1).toInt = 0) from by have t1 : (lx1.toInt + 1) < 19 := by { have e1 : (19 : Int32).toInt = 19 := (by decide); have e2 : ((lx1 + 1) : Int32).toInt = (lx1.toInt + 1) := (q_addI (x := lx1.toInt) (y := 1) rfl (by decide) (by omega) (by omega)); have e3 := q_nleI c5; omega }; have e : (lx1 + 1).toInt = (lx1.toInt + 1) := (q_addI (x := lx1.toInt) (y := 1) rfl (by decide) (by have t1 : (lx1.toInt + 1) < 19 := by { have e1 : (19 : Int32).toInt = 19 := (by decide); have e2 : ((lx1 + 1) : Int32).toInt = (lx1.toInt + 1) := (q_addI (x := lx1.toInt) (y := 1) rfl (by decide) (by omega) (by omega)); have e3 := q_nleI c5; omega }; omega) (by have t1 : (lx1.toInt + 1) < 19 := by { have e1 : (19 : Int32).toInt = 19 := (by decide); have e2 : ((lx1 + 1) : Int32).toInt = (lx1.toInt + 1) := (q_addI (x := lx1.toInt) (y := 1) rfl (by decide) (by omega) (by omega)); have e3 := q_nleI c5; omega }; omega)); omega), V, q_lw hl (q_lw1 0 rfl (q_lw1 1 rfl q_lw0)), hF, hO0, hA6⟩
