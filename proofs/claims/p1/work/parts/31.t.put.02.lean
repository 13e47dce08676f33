set_option maxRecDepth 100000 in
set_option maxHeartbeats 4000000 in
theorem c_WR_size_3 (l : Launch) (D : va_G) (g : Nat → ClassId) (ws : va_W) (kA0 qA0 : Nat) (v1 : Int32) (v2 : Int32) (v3 : Int32) (v4 : Int32) (hA0 : ws[kA0]? = (some (qA0, .inl (g 0, 264, .inl (upd (upd (upd (upd (fun _ => 0) 0 v1) 1 v2) 2 v3) 3 v4))) : Option (Nat × va_E))) : q_mI l y_WR_size prog_19_method_7_code 2 (.int) 1 0 0 D g [.ref qA0] ws (fun r u => (0 = r ∧ ws = u) ∨ (∃ (ex0 : Int32), ¬ ex0 ≤ 0 ∧ ¬ ((upd (upd (upd (upd (fun _ => 0) 0 v1) 1 v2) 2 v3) 3 v4) (ex0 - 1).toNatClampNeg) = 0 ∧ 1 ≤ ex0 ∧ ex0 ≤ 264 ∧ ex0 = r ∧ ws = u)) := by
  intro sz
  refine q_into (by decide) (Nat.le_of_ble_eq_true rfl) ?_
  intro p e s m below meth c ls hsz C0 V hl
  have hx := C0.1
  have hb := C0.2.1
  have hl : lv_has ls 2 [(0, .ref qA0)] := hl
  refine lv_aload_n hx hb d_19_7_0 rfl (lv_at hl 0 rfl) ?_
  refine q_alen (t := 0) (v := 264) C0 V hA0 rfl (by first | rfl | decide) d_19_7_1 ?_
  refine lv_istore_n (lv' := [(1, .int 264), (0, .ref qA0)]) hx hb d_19_7_2 rfl hl (by decide) rfl (fun ls hl => ?_)
  refine q_loop (X := Int32) (fun z H locs ls _ => (0 ≤ z.toInt ∧ z.toInt ≤ 264) ∧ q_Wd D g (va_A ws sz) s ws H locs ∧ lv_has ls 2 [(1, .int z), (0, .ref qA0)]) (fun z => (z.toInt - 0).toNat) ?_ ((264 : Int32)) _ _ _ ws ⟨⟨by decide, by decide⟩, V, hl⟩
  rintro lx1 H locs ls _ ⟨i3, V, hl⟩ ih4
  replace i3 : 0 ≤ lx1.toInt ∧ lx1.toInt ≤ 264 := i3
  replace hl : lv_has ls 2 [(1, .int lx1), (0, .ref qA0)] := hl
  refine lv_iload_n hx hb d_19_7_3 rfl (lv_at hl 0 rfl) ?_
  refine lv_if_le (tgt := 21) hx hb d_19_7_4 (by decide) (fun c5 => ?_) (fun c5 => ?_)
  ·
    refine lv_iload_n hx hb d_19_7_21 rfl (lv_at hl 0 rfl) ?_
    refine q_ti (v := 0) (q_Ieq (x := lx1.toInt) (y := 0) rfl (by decide) (by have t1 : lx1.toInt ≤ 0 := q_leI c5; omega)) ?_
    exact q_reti C0 V (Or.inl ⟨rfl, rfl⟩) d_19_7_22
  ·
    refine lv_aload_n hx hb d_19_7_7 rfl (lv_at hl 1 rfl) ?_
    refine lv_iload_n hx hb d_19_7_8 rfl (lv_at hl 0 rfl) ?_
    refine lv_iconst (v := 1) hx hb d_19_7_9 (by decide) ?_
    refine lv_isub hx hb d_19_7_10 ?_
    refine q_iald C0 V hA0 (q_ix (x := (lx1.toInt - 1)) (q_subI (x := lx1.toInt) (y := 1) rfl (by decide) (by have t1 : 0 < lx1.toInt := q_nleI c5; omega) (by have t1 : 0 < lx1.toInt := q_nleI c5; omega)) (by have t1 : 0 < lx1.toInt := q_nleI c5; omega) (by have t1 : 0 < lx1.toInt := q_nleI c5; omega)) d_19_7_11 ?_
    refine lv_if_ne (tgt := 21) hx hb d_19_7_12 (by decide) (fun c6 => ?_) (fun c6 => ?_)
    ·
      refine lv_iload_n hx hb d_19_7_21 rfl (lv_at hl 0 rfl) ?_
      exact q_reti C0 V (Or.inr (⟨lx1, c5, c6, (q_Ile (x := 1) (y := lx1.toInt) (by decide) rfl (by have t1 : 0 < lx1.toInt := q_nleI c5; omega)), (q_Ile (x := lx1.toInt) (y := 264) rfl (by decide) (by have t1 : 0 < lx1.toInt := q_nleI c5; omega)), rfl, rfl⟩)) d_19_7_22
    ·
      refine lv_iinc (v := lx1 + (-1)) (lv' := [(1, .int (lx1 + (-1))), (0, .ref qA0)]) hx hb d_19_7_15 hl (k := 0) rfl (rfl) (by decide) rfl (fun ls hl => ?_)
      refine lv_goto (tgt := 3) hx hb d_19_7_18 (by decide) ?_
      exact ih4 ((lx1 + (-1) : Int32)) _ _ _ ws (show ((lx1 + (-1)).toInt - 0).toNat < (lx1.toInt - 0).toNat from by have t1 : 0 < lx1.toInt := q_nleI c5; have e : (lx1 + (-1)).toInt = (lx1.toInt + (-1)) := (q_addI (x := lx1.toInt) (y := (-1)) rfl (by decide) (by have t1 : 0 < lx1.toInt := q_nleI c5; omega) (by have t1 : 0 < lx1.toInt := q_nleI c5; omega)); omega) ⟨(show 0 ≤ (lx1 + (-1)).toInt ∧ (lx1 + (-1)).toInt ≤ 264 from by have t1 : 0 < lx1.toInt := q_nleI c5; have e : (lx1 + (-1)).toInt = (lx1.toInt + (-1)) := (q_addI (x := lx1.toInt) (y := (-1)) rfl (by decide) (by have t1 : 0 < lx1.toInt := q_nleI c5; omega) (by have t1 : 0 < lx1.toInt := q_nleI c5; omega)); omega), V, q_lw hl (q_lw1 0 rfl (q_lw1 1 rfl q_lw0))⟩
theorem d_19_15_13 : decode prog_19_method_15_code 13 = .ok (.aload_n 0, 1) := by decide +kernel
theorem d_19_15_14 : decode prog_19_method_15_code 14 = .ok (.aload_n 0, 1) := by decide +kernel
theorem d_19_15_15 : decode prog_19_method_15_code 15 = .ok (.getfield 79, 3) := by decide +kernel
theorem d_19_15_18 : decode prog_19_method_15_code 18 = .ok (.putfield 53, 3) := by decide +kernel
theorem d_19_15_21 : decode prog_19_method_15_code 21 = .ok (.return_, 1) := by decide +kernel
set_option maxRecDepth 100000 in
set_option maxHeartbeats 4000000 in
theorem c_WR_store_5 (l : Launch) (D : va_G) (g : Nat → ClassId) (ws : va_W) (kO0 kA2 kA3 kA4 qO0 qA1 qA2 qA3 qA4 qA5 qA6 qA7 qA8 qA9 qA10 qA11 qA12 qA13 qA14 : Nat) (x1 : Int32) (v2 : Int32) (v3 : Int32) (v4 : Int32) (v5 : Int32) (hO0 : ws[kO0]? = (some (qO0, .inr (13, [.int 0, .int 0, .ref qA1, .int 0, .ref qA2, .ref qA3, .ref qA4, .int 0, .ref qA5, .ref qA6, .ref qA7, .ref qA8, .ref qA9, .ref qA10, .ref qA11, .ref qA12, .int 0, .int 0, .ref qA13, .ref qA14, .int 0])) : Option (Nat × va_E))) (hA2 : ws[kA2]? = (some (qA2, .inl (g 0, 1408, .inl (fun _ => 0))) : Option (Nat × va_E))) (hA3 : ws[kA3]? = (some (qA3, .inl (g 3, 11, .inl (fun _ => 0))) : Option (Nat × va_E))) (hA4 : ws[kA4]? = (some (qA4, .inl (g 0, 264, .inl (upd (upd (upd (upd (fun _ => 0) 0 v2) 1 v3) 2 v4) 3 v5))) : Option (Nat × va_E))) (n_A2_A3 : kA2 ≠ kA3) (n_A4_A2 : kA4 ≠ kA2) (n_A4_A3 : kA4 ≠ kA3) (x1lo : 0 ≤ x1) (x1hi : x1 ≤ 9) : q_mV l y_WR_store prog_19_method_15_code 4 2 0 0 D g [.ref qO0, .int x1] ws (fun u => (∃ (ex0 : Nat → Int32), q_un ws u [kO0, kA2, kA3] ∧ u[kO0]? = (some (qO0, .inr (13, [.int 0, .int 0, .ref qA1, .int 0, .ref qA2, .ref qA3, .ref qA4, .int 0, .ref qA5, .ref qA6, .ref qA7, .ref qA8, .ref qA9, .ref qA10, .ref qA11, .ref qA12, .int 0, .int 0, .ref qA13, .ref qA14, .int 0])) : Option (Nat × va_E)) ∧ u[kA2]? = (some (qA2, .inl (g 0, 1408, .inl ex0)) : Option (Nat × va_E)) ∧ u[kA3]? = (some (qA3, .inl (g 3, 11, .inl (fun _ => 0))) : Option (Nat × va_E))) ∨ (q_un ws u [kO0, kA2, kA3] ∧ u[kO0]? = (some (qO0, .inr (13, [.int 0, .int 0, .ref qA1, .int 0, .ref qA2, .ref qA3, .ref qA4, .int 0, .ref qA5, .ref qA6, .ref qA7, .ref qA8, .ref qA9, .ref qA10, .ref qA11, .ref qA12, .int 0, .int 0, .ref qA13, .ref qA14, .int 0])) : Option (Nat × va_E)) ∧ u[kA2]? = (some (qA2, .inl (g 0, 1408, .inl (fun _ => 0))) : Option (Nat × va_E)) ∧ u[kA3]? = (some (qA3, .inl (g 3, 11, .inl (fun _ => 0))) : Option (Nat × va_E)))) := by
  intro sz
  refine q_into (by decide) (Nat.le_of_ble_eq_true rfl) ?_
  intro p e s m below meth c ls hsz C0 V hl
  have hx := C0.1
  have hb := C0.2.1
  have hl : lv_has ls 4 [(0, .ref qO0), (1, .int x1)] := hl
  have n_A2_O0 := q_df hA2 hO0
  have n_A3_A2 := Ne.symm n_A2_A3
  have n_A3_O0 := q_df hA3 hO0
  have n_A4_O0 := q_df hA4 hO0
  have n_O0_A2 := Ne.symm (q_df hA2 hO0)
  have n_O0_A3 := Ne.symm (q_df hA3 hO0)
  have hF : q_un ws ws [kO0, kA2, kA3] := q_u0
  refine lv_aload_n hx hb d_19_15_0 rfl (lv_at hl 0 rfl) ?_
  refine q_get (ci := 13) (j := 6) (v := .ref qA4) C0 V i_WR rfl rfl hO0 (by decide) w_1930 rfl d_19_15_1 ?_
  refine q_goi V (q_runS (As := [.ref qA4]) (rest := []) (d := 1) (mc := 0) (ms := 0) C0 V rfl LS_WR_59 (c_WR_size_3 l D g ws kA4 qA4 v2 v3 v4 v5 hA4 _) rfl hl.1 rfl (Nat.le_of_ble_eq_true rfl) ⟨by decide, by decide⟩ ⟨Nat.le_of_ble_eq_true rfl, Nat.le_of_ble_eq_true rfl⟩ d_19_15_4) (fun v3 u2 H locs hp1 V => ?_)
  rcases hp1 with ⟨rfl, rfl⟩ | ⟨y9, c5, c6, f7, f8, rfl, rfl⟩
  ·
    refine lv_sipush (v := 128) hx hb d_19_15_7 (by decide) ?_
    refine lv_icmp_le (tgt := 22) hx hb d_19_15_10 (by decide) (fun c11 => ?_) (fun c11 => absurd (by decide) c11)
    refine lv_iconst (v := 0) hx hb d_19_15_22 (by decide) ?_
    refine lv_istore_n (lv' := [(2, .int 0), (0, .ref qO0), (1, .int x1)]) hx hb d_19_15_23 rfl hl (by decide) rfl (fun ls hl => ?_)
    refine lv_iconst (v := 0) hx hb d_19_15_24 (by decide) ?_
    refine lv_istore_n (lv' := [(3, .int 0), (2, .int 0), (0, .ref qO0), (1, .int x1)]) hx hb d_19_15_25 rfl hl (by decide) rfl (fun ls hl => ?_)
    refine q_loop (X := Int32 × Int32 × (Nat → Int32)) (fun z H locs ls w15 => (0 ≤ z.1.toInt ∧ (z.1.toInt ≤ 128 ∨ z.1.toInt = 0)) ∧ q_Wd D g (va_A ws sz) s w15 H locs ∧ lv_has ls 4 [(3, .int z.1), (2, .int z.2.1), (0, .ref qO0), (1, .int x1)] ∧ q_un ws w15 [kO0, kA2, kA3] ∧ w15[kO0]? = (some (qO0, .inr (13, [.int 0, .int 0, .ref qA1, .int 0, .ref qA2, .ref qA3, .ref qA4, .int 0, .ref qA5, .ref qA6, .ref qA7, .ref qA8, .ref qA9, .ref qA10, .ref qA11, .ref qA12, .int 0, .int 0, .ref qA13, .ref qA14, .int 0])) : Option (Nat × va_E)) ∧ w15[kA2]? = (some (qA2, .inl (g 0, 1408, .inl z.2.2)) : Option (Nat × va_E)) ∧ w15[kA3]? = (some (qA3, .inl (g 3, 11, .inl (fun _ => 0))) : Option (Nat × va_E)) ∧ w15[kA4]? = (some (qA4, .inl (g 0, 264, .inl (upd (upd (upd (upd (fun _ => 0) 0 v2) 1 v3) 2 v4) 3 v5))) : Option (Nat × va_E))) (fun z => (128 - z.1.toInt).toNat) ?_ ((0 : Int32), (0 : Int32), (fun _ => 0 : (Nat → Int32))) _ _ _ ws ⟨⟨(by dsimp only; decide), Or.inr (by dsimp only; decide)⟩, V, hl, hF, hO0, hA2, hA3, hA4⟩
    rintro ⟨lx12, lx13, lx14⟩ H locs ls w15 ⟨i16, V, hl, hF, hO0, hA2, hA3, hA4⟩ ih17
    replace i16 : 0 ≤ lx12.toInt ∧ (lx12.toInt ≤ 128 ∨ lx12.toInt = 0) := i16
    replace hl : lv_has ls 4 [(3, .int lx12), (2, .int lx13), (0, .ref qO0), (1, .int x1)] := hl
    replace hO0 : w15[kO0]? = (some (qO0, .inr (13, [.int 0, .int 0, .ref qA1, .int 0, .ref qA2, .ref qA3, .ref qA4, .int 0, .ref qA5, .ref qA6, .ref qA7, .ref qA8, .ref qA9, .ref qA10, .ref qA11, .ref qA12, .int 0, .int 0, .ref qA13, .ref qA14, .int 0])) : Option (Nat × va_E)) := hO0
    replace hA2 : w15[kA2]? = (some (qA2, .inl (g 0, 1408, .inl lx14)) : Option (Nat × va_E)) := hA2
    replace hA3 : w15[kA3]? = (some (qA3, .inl (g 3, 11, .inl (fun _ => 0))) : Option (Nat × va_E)) := hA3
    replace hA4 : w15[kA4]? = (some (qA4, .inl (g 0, 264, .inl (upd (upd (upd (upd (fun _ => 0) 0 v2) 1 v3) 2 v4) 3 v5))) : Option (Nat × va_E)) := hA4
    refine lv_iload_n hx hb d_19_15_26 rfl (lv_at hl 0 rfl) ?_
    refine lv_sipush (v := 128) hx hb d_19_15_27 (by decide) ?_
    refine lv_icmp_ge (tgt := 76) hx hb d_19_15_30 (by decide) (fun c18 => ?_) (fun c18 => ?_)
    ·
      refine lv_aload_n hx hb d_19_15_76 rfl (lv_at hl 2 rfl) ?_
      refine q_get (ci := 13) (j := 5) (v := .ref qA3) C0 V i_WR rfl rfl hO0 (by decide) w_1929 rfl d_19_15_77 ?_
      refine lv_iload_n hx hb d_19_15_80 rfl (lv_at hl 3 rfl) ?_
      refine lv_aload_n hx hb d_19_15_81 rfl (lv_at hl 2 rfl) ?_
      refine q_get (ci := 13) (j := 7) (v := .int 0) C0 V i_WR rfl rfl hO0 (by decide) w_1931 rfl d_19_15_82 ?_
      refine lv_if_eq (tgt := 96) hx hb d_19_15_85 (by decide) (fun c19 => ?_) (fun c19 => absurd (by decide) c19)
      refine lv_iconst (v := 0) hx hb d_19_15_96 (by decide) ?_
      refine q_zast C0 V hA3 (q_ix (x := x1.toInt) rfl (by have t1 : 0 ≤ x1.toInt := q_leI x1lo; have t2 : x1.toInt ≤ 9 := q_leI x1hi; omega) (by have t1 : 0 ≤ x1.toInt := q_leI x1lo; have t2 : x1.toInt ≤ 9 := q_leI x1hi; omega)) d_19_15_97 (fun H locs w20 hu21 hA3 V => ?_)
      replace hA3 := q_re (y := (qA3, .inl (g 3, 11, .inl (fun _ => 0)))) hA3 (q_eI q_upd0)
      replace hA3 : w20[kA3]? = (some (qA3, .inl (g 3, 11, .inl (fun _ => 0))) : Option (Nat × va_E)) := hA3
      replace hF := q_us hF hu21 (.tail _ (.tail _ (.head _)))
      replace hO0 := (hu21 _ n_O0_A3).trans (hO0)
      replace hA2 := (hu21 _ n_A2_A3).trans (hA2)
      exact q_retv C0 V (Or.inl ⟨lx14, hF, hO0, hA2, hA3⟩) d_19_15_98
    ·
      refine lv_aload_n hx hb d_19_15_33 rfl (lv_at hl 2 rfl) ?_
      refine q_get (ci := 13) (j := 4) (v := .ref qA2) C0 V i_WR rfl rfl hO0 (by decide) w_1928 rfl d_19_15_34 ?_
      refine lv_sipush (v := 128) hx hb d_19_15_37 (by decide) ?_
      refine lv_iload_n hx hb d_19_15_40 rfl (lv_at hl 3 rfl) ?_
      refine lv_imul hx hb d_19_15_41 ?_
      refine lv_iload_n hx hb d_19_15_42 rfl (lv_at hl 0 rfl) ?_
      refine lv_iadd hx hb d_19_15_43 ?_
      refine lv_aload_n hx hb d_19_15_44 rfl (lv_at hl 2 rfl) ?_
      refine q_get (ci := 13) (j := 6) (v := .ref qA4) C0 V i_WR rfl rfl hO0 (by decide) w_1930 rfl d_19_15_45 ?_
      refine lv_iload_n hx hb d_19_15_48 rfl (lv_at hl 0 rfl) ?_
      refine q_iald C0 V hA4 (q_ix (x := lx12.toInt) rfl (by have t1 : lx12.toInt < 128 := q_nleI c18; omega) (by have t1 : lx12.toInt < 128 := q_nleI c18; omega)) d_19_15_49 ?_
      refine q_iast C0 V hA2 (q_ix (x := ((128 * x1.toInt) + lx12.toInt)) (q_addI (x := (128 * x1.toInt)) (y := lx12.toInt) (q_mulI (x := 128) (y := x1.toInt) (by decide) rfl (by have t1 : 0 ≤ x1.toInt := q_leI x1lo; have t2 : x1.toInt ≤ 9 := q_leI x1hi; omega) (by have t1 : 0 ≤ x1.toInt := q_leI x1lo; have t2 : x1.toInt ≤ 9 := q_leI x1hi; omega)) rfl (by have t1 : 0 ≤ x1.toInt := q_leI x1lo; have t2 : x1.toInt ≤ 9 := q_leI x1hi; have t3 : lx12.toInt < 128 := q_nleI c18; omega) (by have t1 : 0 ≤ x1.toInt := q_leI x1lo; have t2 : x1.toInt ≤ 9 := q_leI x1hi; have t3 : lx12.toInt < 128 := q_nleI c18; omega)) (by have t1 : 0 ≤ x1.toInt := q_leI x1lo; have t2 : x1.toInt ≤ 9 := q_leI x1hi; have t3 : lx12.toInt < 128 := q_nleI c18; omega) (by have t1 : 0 ≤ x1.toInt := q_leI x1lo; have t2 : x1.toInt ≤ 9 := q_leI x1hi; have t3 : lx12.toInt < 128 := q_nleI c18; omega)) d_19_15_50 (fun H locs w22 hu23 hA2 V => ?_)
      replace hA2 : w22[kA2]? = (some (qA2, .inl (g 0, 1408, .inl (upd lx14 (((128 * x1) + lx12).toNatClampNeg) ((upd (upd (upd (upd (fun _ => 0) 0 v2) 1 v3) 2 v4) 3 v5) lx12.toNatClampNeg)))) : Option (Nat × va_E)) := hA2
      replace hF := q_us hF hu23 (.tail _ (.head _))
      refine lv_iload_n hx hb d_19_15_51 rfl (lv_at hl 1 rfl) ?_
      refine lv_if_ne (tgt := 64) hx hb d_19_15_52 (by decide) (fun c24 => ?_) (fun c24 => ?_)
      ·
        refine lv_iconst (v := 1) hx hb d_19_15_64 (by decide) ?_
        refine lv_goto (tgt := 69) hx hb d_19_15_65 (by decide) ?_
        refine lv_istore_n (lv' := [(2, .int 1), (3, .int lx12), (0, .ref qO0), (1, .int x1)]) hx hb d_19_15_69 rfl hl (by decide) rfl (fun ls hl => ?_)
        refine lv_iinc (v := lx12 + 1) (lv' := [(3, .int (lx12 + 1)), (2, .int 1), (0, .ref qO0), (1, .int x1)]) hx hb d_19_15_70 hl (k := 1) rfl (rfl) (by decide) rfl (fun ls hl => ?_)
        refine lv_goto (tgt := 26) hx hb d_19_15_73 (by decide) ?_
        replace hO0 := (hu23 _ n_O0_A2).trans (hO0)
        replace hA3 := (hu23 _ n_A3_A2).trans (hA3)
        replace hA4 := (hu23 _ n_A4_A2).trans (hA4)
        exact ih17 ((lx12 + 1 : Int32), (1 : Int32), (upd lx14 (((128 * x1) + lx12).toNatClampNeg) ((upd (upd (upd (upd (fun _ => 0) 0 v2) 1 v3) 2 v4) 3 v5) lx12.toNatClampNeg) : Nat → Int32)) _ _ _ _ (show (128 - (lx12 + 1).toInt).toNat < (128 - lx12.toInt).toNat from by have t1 : lx12.toInt < 128 := q_nleI c18; have e : (lx12 + 1).toInt = (lx12.toInt + 1) := (q_addI (x := lx12.toInt) (y := 1) rfl (by decide) (by have t1 : lx12.toInt < 128 := q_nleI c18; omega) (by have t1 : lx12.toInt < 128 := q_nleI c18; omega)); omega) ⟨(show 0 ≤ (lx12 + 1).toInt ∧ ((lx12 + 1).toInt ≤ 128 ∨ (lx12 + 1).toInt = 0) from by have t1 : lx12.toInt < 128 := q_nleI c18; have e : (lx12 + 1).toInt = (lx12.toInt + 1) := (q_addI (x := lx12.toInt) (y := 1) rfl (by decide) (by have t1 : lx12.toInt < 128 := q_nleI c18; omega) (by have t1 : lx12.toInt < 128 := q_nleI c18; omega)); omega), V, q_lw hl (q_lw1 0 rfl (q_lw1 1 rfl (q_lw1 2 rfl (q_lw1 3 rfl q_lw0)))), hF, hO0, hA2, hA3, hA4⟩
      ·
        refine lv_aload_n hx hb d_19_15_55 rfl (lv_at hl 2 rfl) ?_
        replace hO0 := (hu23 _ n_O0_A2).trans (hO0)
        refine q_get (ci := 13) (j := 6) (v := .ref qA4) C0 V i_WR rfl rfl hO0 (by decide) w_1930 rfl d_19_15_56 ?_
        refine lv_iload_n hx hb d_19_15_59 rfl (lv_at hl 0 rfl) ?_
        replace hA4 := (hu23 _ n_A4_A2).trans (hA4)
        refine q_iald C0 V hA4 (q_ix (x := lx12.toInt) rfl (by have t1 : lx12.toInt < 128 := q_nleI c18; omega) (by have t1 : lx12.toInt < 128 := q_nleI c18; omega)) d_19_15_60 ?_
        refine lv_if_eq (tgt := 68) hx hb d_19_15_61 (by decide) (fun c25 => ?_) (fun c25 => ?_)
        ·
          refine lv_iconst (v := 0) hx hb d_19_15_68 (by decide) ?_
          refine lv_istore_n (lv' := [(2, .int 0), (3, .int lx12), (0, .ref qO0), (1, .int x1)]) hx hb d_19_15_69 rfl hl (by decide) rfl (fun ls hl => ?_)
          refine lv_iinc (v := lx12 + 1) (lv' := [(3, .int (lx12 + 1)), (2, .int 0), (0, .ref qO0), (1, .int x1)]) hx hb d_19_15_70 hl (k := 1) rfl (rfl) (by decide) rfl (fun ls hl => ?_)
          refine lv_goto (tgt := 26) hx hb d_19_15_73 (by decide) ?_
          replace hA3 := (hu23 _ n_A3_A2).trans (hA3)
          exact ih17 ((lx12 + 1 : Int32), (0 : Int32), (upd lx14 (((128 * x1) + lx12).toNatClampNeg) ((upd (upd (upd (upd (fun _ => 0) 0 v2) 1 v3) 2 v4) 3 v5) lx12.toNatClampNeg) : Nat → Int32)) _ _ _ _ (show (128 - (lx12 + 1).toInt).toNat < (128 - lx12.toInt).toNat from by have t1 : lx12.toInt < 128 := q_nleI c18; have e : (lx12 + 1).toInt = (lx12.toInt + 1) := (q_addI (x := lx12.toInt) (y := 1) rfl (by decide) (by have t1 : lx12.toInt < 128 := q_nleI c18; omega) (by have t1 : lx12.toInt < 128 := q_nleI c18; omega)); omega) ⟨(show 0 ≤ (lx12 + 1).toInt ∧ ((lx12 + 1).toInt ≤ 128 ∨ (lx12 + 1).toInt = 0) from by have t1 : lx12.toInt < 128 := q_nleI c18; have e : (lx12 + 1).toInt = (lx12.toInt + 1) := (q_addI (x := lx12.toInt) (y := 1) rfl (by decide) (by have t1 : lx12.toInt < 128 := q_nleI c18; omega) (by have t1 : lx12.toInt < 128 := q_nleI c18; omega)); omega), V, q_lw hl (q_lw1 0 rfl (q_lw1 1 rfl (q_lw1 2 rfl (q_lw1 3 rfl q_lw0)))), hF, hO0, hA2, hA3, hA4⟩
        ·
          refine lv_iconst (v := 1) hx hb d_19_15_64 (by decide) ?_
          refine lv_goto (tgt := 69) hx hb d_19_15_65 (by decide) ?_
          refine lv_istore_n (lv' := [(2, .int 1), (3, .int lx12), (0, .ref qO0), (1, .int x1)]) hx hb d_19_15_69 rfl hl (by decide) rfl (fun ls hl => ?_)
          refine lv_iinc (v := lx12 + 1) (lv' := [(3, .int (lx12 + 1)), (2, .int 1), (0, .ref qO0), (1, .int x1)]) hx hb d_19_15_70 hl (k := 1) rfl (rfl) (by decide) rfl (fun ls hl => ?_)
          refine lv_goto (tgt := 26) hx hb d_19_15_73 (by decide) ?_
          replace hA3 := (hu23 _ n_A3_A2).trans (hA3)
          exact ih17 ((lx12 + 1 : Int32), (1 : Int32), (upd lx14 (((128 * x1) + lx12).toNatClampNeg) ((upd (upd (upd (upd (fun _ => 0) 0 v2) 1 v3) 2 v4) 3 v5) lx12.toNatClampNeg) : Nat → Int32)) _ _ _ _ (show (128 - (lx12 + 1).toInt).toNat < (128 - lx12.toInt).toNat from by have t1 : lx12.toInt < 128 := q_nleI c18; have e : (lx12 + 1).toInt = (lx12.toInt + 1) := (q_addI (x := lx12.toInt) (y := 1) rfl (by decide) (by have t1 : lx12.toInt < 128 := q_nleI c18; omega) (by have t1 : lx12.toInt < 128 := q_nleI c18; omega)); omega) ⟨(show 0 ≤ (lx12 + 1).toInt ∧ ((lx12 + 1).toInt ≤ 128 ∨ (lx12 + 1).toInt = 0) from by have t1 : lx12.toInt < 128 := q_nleI c18; have e : (lx12 + 1).toInt = (lx12.toInt + 1) := (q_addI (x := lx12.toInt) (y := 1) rfl (by decide) (by have t1 : lx12.toInt < 128 := q_nleI c18; omega) (by have t1 : lx12.toInt < 128 := q_nleI c18; omega)); omega), V, q_lw hl (q_lw1 0 rfl (q_lw1 1 rfl (q_lw1 2 rfl (q_lw1 3 rfl q_lw0)))), hF, hO0, hA2, hA3, hA4⟩
  ·
    refine lv_sipush (v := 128) hx hb d_19_15_7 (by decide) ?_
    refine lv_icmp_le (tgt := 22) hx hb d_19_15_10 (by decide) (fun c26 => ?_) (fun c26 => ?_)
    ·
      refine lv_iconst (v := 0) hx hb d_19_15_22 (by decide) ?_
      refine lv_istore_n (lv' := [(2, .int 0), (0, .ref qO0), (1, .int x1)]) hx hb d_19_15_23 rfl hl (by decide) rfl (fun ls hl => ?_)
      refine lv_iconst (v := 0) hx hb d_19_15_24 (by decide) ?_
      refine lv_istore_n (lv' := [(3, .int 0), (2, .int 0), (0, .ref qO0), (1, .int x1)]) hx hb d_19_15_25 rfl hl (by decide) rfl (fun ls hl => ?_)
      refine q_loop (X := Int32 × Int32 × (Nat → Int32)) (fun z H locs ls w30 => (0 ≤ z.1.toInt ∧ (z.1.toInt ≤ 128 ∨ z.1.toInt = 0)) ∧ q_Wd D g (va_A ws sz) s w30 H locs ∧ lv_has ls 4 [(3, .int z.1), (2, .int z.2.1), (0, .ref qO0), (1, .int x1)] ∧ q_un ws w30 [kO0, kA2, kA3] ∧ w30[kO0]? = (some (qO0, .inr (13, [.int 0, .int 0, .ref qA1, .int 0, .ref qA2, .ref qA3, .ref qA4, .int 0, .ref qA5, .ref qA6, .ref qA7, .ref qA8, .ref qA9, .ref qA10, .ref qA11, .ref qA12, .int 0, .int 0, .ref qA13, .ref qA14, .int 0])) : Option (Nat × va_E)) ∧ w30[kA2]? = (some (qA2, .inl (g 0, 1408, .inl z.2.2)) : Option (Nat × va_E)) ∧ w30[kA3]? = (some (qA3, .inl (g 3, 11, .inl (fun _ => 0))) : Option (Nat × va_E)) ∧ w30[kA4]? = (some (qA4, .inl (g 0, 264, .inl (upd (upd (upd (upd (fun _ => 0) 0 v2) 1 v3) 2 v4) 3 v5))) : Option (Nat × va_E))) (fun z => (128 - z.1.toInt).toNat) ?_ ((0 : Int32), (0 : Int32), (fun _ => 0 : (Nat → Int32))) _ _ _ ws ⟨⟨(by dsimp only; decide), Or.inr (by dsimp only; decide)⟩, V, hl, hF, hO0, hA2, hA3, hA4⟩
      rintro ⟨lx27, lx28, lx29⟩ H locs ls w30 ⟨i31, V, hl, hF, hO0, hA2, hA3, hA4⟩ ih32
      replace i31 : 0 ≤ lx27.toInt ∧ (lx27.toInt ≤ 128 ∨ lx27.toInt = 0) := i31
      replace hl : lv_has ls 4 [(3, .int lx27), (2, .int lx28), (0, .ref qO0), (1, .int x1)] := hl
      replace hO0 : w30[kO0]? = (some (qO0, .inr (13, [.int 0, .int 0, .ref qA1, .int 0, .ref qA2, .ref qA3, .ref qA4, .int 0, .ref qA5, .ref qA6, .ref qA7, .ref qA8, .ref qA9, .ref qA10, .ref qA11, .ref qA12, .int 0, .int 0, .ref qA13, .ref qA14, .int 0])) : Option (Nat × va_E)) := hO0
      replace hA2 : w30[kA2]? = (some (qA2, .inl (g 0, 1408, .inl lx29)) : Option (Nat × va_E)) := hA2
      replace hA3 : w30[kA3]? = (some (qA3, .inl (g 3, 11, .inl (fun _ => 0))) : Option (Nat × va_E)) := hA3
      replace hA4 : w30[kA4]? = (some (qA4, .inl (g 0, 264, .inl (upd (upd (upd (upd (fun _ => 0) 0 v2) 1 v3) 2 v4) 3 v5))) : Option (Nat × va_E)) := hA4
      refine lv_iload_n hx hb d_19_15_26 rfl (lv_at hl 0 rfl) ?_
      refine lv_sipush (v := 128) hx hb d_19_15_27 (by decide) ?_
      refine lv_icmp_ge (tgt := 76) hx hb d_19_15_30 (by decide) (fun c33 => ?_) (fun c33 => ?_)
      ·
        refine lv_aload_n hx hb d_19_15_76 rfl (lv_at hl 2 rfl) ?_
        refine q_get (ci := 13) (j := 5) (v := .ref qA3) C0 V i_WR rfl rfl hO0 (by decide) w_1929 rfl d_19_15_77 ?_
        refine lv_iload_n hx hb d_19_15_80 rfl (lv_at hl 3 rfl) ?_
        refine lv_aload_n hx hb d_19_15_81 rfl (lv_at hl 2 rfl) ?_
        refine q_get (ci := 13) (j := 7) (v := .int 0) C0 V i_WR rfl rfl hO0 (by decide) w_1931 rfl d_19_15_82 ?_
        refine lv_if_eq (tgt := 96) hx hb d_19_15_85 (by decide) (fun c34 => ?_) (fun c34 => absurd (by decide) c34)
        refine lv_iconst (v := 0) hx hb d_19_15_96 (by decide) ?_
        refine q_zast C0 V hA3 (q_ix (x := x1.toInt) rfl (by have t1 : 0 ≤ x1.toInt := q_leI x1lo; have t2 : x1.toInt ≤ 9 := q_leI x1hi; omega) (by have t1 : 0 ≤ x1.toInt := q_leI x1lo; have t2 : x1.toInt ≤ 9 := q_leI x1hi; omega)) d_19_15_97 (fun H locs w35 hu36 hA3 V => ?_)
        replace hA3 := q_re (y := (qA3, .inl (g 3, 11, .inl (fun _ => 0)))) hA3 (q_eI q_upd0)
        replace hA3 : w35[kA3]? = (some (qA3, .inl (g 3, 11, .inl (fun _ => 0))) : Option (Nat × va_E)) := hA3
        replace hF := q_us hF hu36 (.tail _ (.tail _ (.head _)))
        replace hO0 := (hu36 _ n_O0_A3).trans (hO0)
        replace hA2 := (hu36 _ n_A2_A3).trans (hA2)
        exact q_retv C0 V (Or.inl ⟨lx29, hF, hO0, hA2, hA3⟩) d_19_15_98
      ·
        refine lv_aload_n hx hb d_19_15_33 rfl (lv_at hl 2 rfl) ?_
        refine q_get (ci := 13) (j := 4) (v := .ref qA2) C0 V i_WR rfl rfl hO0 (by decide) w_1928 rfl d_19_15_34 ?_
        refine lv_sipush (v := 128) hx hb d_19_15_37 (by decide) ?_
        refine lv_iload_n hx hb d_19_15_40 rfl (lv_at hl 3 rfl) ?_
        refine lv_imul hx hb d_19_15_41 ?_
        refine lv_iload_n hx hb d_19_15_42 rfl (lv_at hl 0 rfl) ?_
        refine lv_iadd hx hb d_19_15_43 ?_
        refine lv_aload_n hx hb d_19_15_44 rfl (lv_at hl 2 rfl) ?_
        refine q_get (ci := 13) (j := 6) (v := .ref qA4) C0 V i_WR rfl rfl hO0 (by decide) w_1930 rfl d_19_15_45 ?_
        refine lv_iload_n hx hb d_19_15_48 rfl (lv_at hl 0 rfl) ?_
        refine q_iald C0 V hA4 (q_ix (x := lx27.toInt) rfl (by have t1 : lx27.toInt < 128 := q_nleI c33; omega) (by have t1 : lx27.toInt < 128 := q_nleI c33; omega)) d_19_15_49 ?_
        refine q_iast C0 V hA2 (q_ix (x := ((128 * x1.toInt) + lx27.toInt)) (q_addI (x := (128 * x1.toInt)) (y := lx27.toInt) (q_mulI (x := 128) (y := x1.toInt) (by decide) rfl (by have t1 : 0 ≤ x1.toInt := q_leI x1lo; have t2 : x1.toInt ≤ 9 := q_leI x1hi; omega) (by have t1 : 0 ≤ x1.toInt := q_leI x1lo; have t2 : x1.toInt ≤ 9 := q_leI x1hi; omega)) rfl (by have t1 : 0 ≤ x1.toInt := q_leI x1lo; have t2 : x1.toInt ≤ 9 := q_leI x1hi; have t3 : lx27.toInt < 128 := q_nleI c33; omega) (by have t1 : 0 ≤ x1.toInt := q_leI x1lo; have t2 : x1.toInt ≤ 9 := q_leI x1hi; have t3 : lx27.toInt < 128 := q_nleI c33; omega)) (by have t1 : 0 ≤ x1.toInt := q_leI x1lo; have t2 : x1.toInt ≤ 9 := q_leI x1hi; have t3 : lx27.toInt < 128 := q_nleI c33; omega) (by have t1 : 0 ≤ x1.toInt := q_leI x1lo; have t2 : x1.toInt ≤ 9 := q_leI x1hi; have t3 : lx27.toInt < 128 := q_nleI c33; omega)) d_19_15_50 (fun H locs w37 hu38 hA2 V => ?_)
        replace hA2 : w37[kA2]? = (some (qA2, .inl (g 0, 1408, .inl (upd lx29 (((128 * x1) + lx27).toNatClampNeg) ((upd (upd (upd (upd (fun _ => 0) 0 v2) 1 v3) 2 v4) 3 v5) lx27.toNatClampNeg)))) : Option (Nat × va_E)) := hA2
        replace hF := q_us hF hu38 (.tail _ (.head _))
        refine lv_iload_n hx hb d_19_15_51 rfl (lv_at hl 1 rfl) ?_
        refine lv_if_ne (tgt := 64) hx hb d_19_15_52 (by decide) (fun c39 => ?_) (fun c39 => ?_)
        ·
          refine lv_iconst (v := 1) hx hb d_19_15_64 (by decide) ?_
          refine lv_goto (tgt := 69) hx hb d_19_15_65 (by decide) ?_
          refine lv_istore_n (lv' := [(2, .int 1), (3, .int lx27), (0, .ref qO0), (1, .int x1)]) hx hb d_19_15_69 rfl hl (by decide) rfl (fun ls hl => ?_)
          refine lv_iinc (v := lx27 + 1) (lv' := [(3, .int (lx27 + 1)), (2, .int 1), (0, .ref qO0), (1, .int x1)]) hx hb d_19_15_70 hl (k := 1) rfl (rfl) (by decide) rfl (fun ls hl => ?_)
          refine lv_goto (tgt := 26) hx hb d_19_15_73 (by decide) ?_
          replace hO0 := (hu38 _ n_O0_A2).trans (hO0)
          replace hA3 := (hu38 _ n_A3_A2).trans (hA3)
          replace hA4 := (hu38 _ n_A4_A2).trans (hA4)
          exact ih32 ((lx27 + 1 : Int32), (1 : Int32), (upd lx29 (((128 * x1) + lx27).toNatClampNeg) ((upd (upd (upd (upd (fun _ => 0) 0 v2) 1 v3) 2 v4) 3 v5) lx27.toNatClampNeg) : Nat → Int32)) _ _ _ _ (show (128 - (lx27 + 1).toInt).toNat < (128 - lx27.toInt).toNat from by have t1 : lx27.toInt < 128 := q_nleI c33; have e : (lx27 + 1).toInt = (lx27.toInt + 1) := (q_addI (x := lx27.toInt) (y := 1) rfl (by decide) (by have t1 : lx27.toInt < 128 := q_nleI c33; omega) (by have t1 : lx27.toInt < 128 := q_nleI c33; omega)); omega) ⟨(show 0 ≤ (lx27 + 1).toInt ∧ ((lx27 + 1).toInt ≤ 128 ∨ (lx27 + 1).toInt = 0) from by have t1 : lx27.toInt < 128 := q_nleI c33; have e : (lx27 + 1).toInt = (lx27.toInt + 1) := (q_addI (x := lx27.toInt) (y := 1) rfl (by decide) (by have t1 : lx27.toInt < 128 := q_nleI c33; omega) (by have t1 : lx27.toInt < 128 := q_nleI c33; omega)); omega), V, q_lw hl (q_lw1 0 rfl (q_lw1 1 rfl (q_lw1 2 rfl (q_lw1 3 rfl q_lw0)))), hF, hO0, hA2, hA3, hA4⟩
        ·
          refine lv_aload_n hx hb d_19_15_55 rfl (lv_at hl 2 rfl) ?_
          replace hO0 := (hu38 _ n_O0_A2).trans (hO0)
          refine q_get (ci := 13) (j := 6) (v := .ref qA4) C0 V i_WR rfl rfl hO0 (by decide) w_1930 rfl d_19_15_56 ?_
          refine lv_iload_n hx hb d_19_15_59 rfl (lv_at hl 0 rfl) ?_
          replace hA4 := (hu38 _ n_A4_A2).trans (hA4)
          refine q_iald C0 V hA4 (q_ix (x := lx27.toInt) rfl (by have t1 : lx27.toInt < 128 := q_nleI c33; omega) (by have t1 : lx27.toInt < 128 := q_nleI c33; omega)) d_19_15_60 ?_
          refine lv_if_eq (tgt := 68) hx hb d_19_15_61 (by decide) (fun c40 => ?_) (fun c40 => ?_)
          ·
            refine lv_iconst (v := 0) hx hb d_19_15_68 (by decide) ?_
            refine lv_istore_n (lv' := [(2, .int 0), (3, .int lx27), (0, .ref qO0), (1, .int x1)]) hx hb d_19_15_69 rfl hl (by decide) rfl (fun ls hl => ?_)
            refine lv_iinc (v := lx27 + 1) (lv' := [(3, .int (lx27 + 1)), (2, .int 0), (0, .ref qO0), (1, .int x1)]) hx hb d_19_15_70 hl (k := 1) rfl (rfl) (by decide) rfl (fun ls hl => ?_)
            refine lv_goto (tgt := 26) hx hb d_19_15_73 (by decide) ?_
            replace hA3 := (hu38 _ n_A3_A2).trans (hA3)
            exact ih32 ((lx27 + 1 : Int32), (0 : Int32), (upd lx29 (((128 * x1) + lx27).toNatClampNeg) ((upd (upd (upd (upd (fun _ => 0) 0 v2) 1 v3) 2 v4) 3 v5) lx27.toNatClampNeg) : Nat → Int32)) _ _ _ _ (show (128 - (lx27 + 1).toInt).toNat < (128 - lx27.toInt).toNat from by have t1 : lx27.toInt < 128 := q_nleI c33; have e : (lx27 + 1).toInt = (lx27.toInt + 1) := (q_addI (x := lx27.toInt) (y := 1) rfl (by decide) (by have t1 : lx27.toInt < 128 := q_nleI c33; omega) (by have t1 : lx27.toInt < 128 := q_nleI c33; omega)); omega) ⟨(show 0 ≤ (lx27 + 1).toInt ∧ ((lx27 + 1).toInt ≤ 128 ∨ (lx27 + 1).toInt = 0) from by have t1 : lx27.toInt < 128 := q_nleI c33; have e : (lx27 + 1).toInt = (lx27.toInt + 1) := (q_addI (x := lx27.toInt) (y := 1) rfl (by decide) (by have t1 : lx27.toInt < 128 := q_nleI c33; omega) (by have t1 : lx27.toInt < 128 := q_nleI c33; omega)); omega), V, q_lw hl (q_lw1 0 rfl (q_lw1 1 rfl (q_lw1 2 rfl (q_lw1 3 rfl q_lw0)))), hF, hO0, hA2, hA3, hA4⟩
          ·
            refine lv_iconst (v := 1) hx hb d_19_15_64 (by decide) ?_
            refine lv_goto (tgt := 69) hx hb d_19_15_65 (by decide) ?_
            refine lv_istore_n (lv' := [(2, .int 1), (3, .int lx27), (0, .ref qO0), (1, .int x1)]) hx hb d_19_15_69 rfl hl (by decide) rfl (fun ls hl => ?_)
            refine lv_iinc (v := lx27 + 1) (lv' := [(3, .int (lx27 + 1)), (2, .int 1), (0, .ref qO0), (1, .int x1)]) hx hb d_19_15_70 hl (k := 1) rfl (rfl) (by decide) rfl (fun ls hl => ?_)
            refine lv_goto (tgt := 26) hx hb d_19_15_73 (by decide) ?_
            replace hA3 := (hu38 _ n_A3_A2).trans (hA3)
            exact ih32 ((lx27 + 1 : Int32), (1 : Int32), (upd lx29 (((128 * x1) + lx27).toNatClampNeg) ((upd (upd (upd (upd (fun _ => 0) 0 v2) 1 v3) 2 v4) 3 v5) lx27.toNatClampNeg) : Nat → Int32)) _ _ _ _ (show (128 - (lx27 + 1).toInt).toNat < (128 - lx27.toInt).toNat from by have t1 : lx27.toInt < 128 := q_nleI c33; have e : (lx27 + 1).toInt = (lx27.toInt + 1) := (q_addI (x := lx27.toInt) (y := 1) rfl (by decide) (by have t1 : lx27.toInt < 128 := q_nleI c33; omega) (by have t1 : lx27.toInt < 128 := q_nleI c33; omega)); omega) ⟨(show 0 ≤ (lx27 + 1).toInt ∧ ((lx27 + 1).toInt ≤ 128 ∨ (lx27 + 1).toInt = 0) from by have t1 : lx27.toInt < 128 := q_nleI c33; have e : (lx27 + 1).toInt = (lx27.toInt + 1) := (q_addI (x := lx27.toInt) (y := 1) rfl (by decide) (by have t1 : lx27.toInt < 128 := q_nleI c33; omega) (by have t1 : lx27.toInt < 128 := q_nleI c33; omega)); omega), V, q_lw hl (q_lw1 0 rfl (q_lw1 1 rfl (q_lw1 2 rfl (q_lw1 3 rfl q_lw0)))), hF, hO0, hA2, hA3, hA4⟩
    ·
      refine lv_aload_n hx hb d_19_15_13 rfl (lv_at hl 0 rfl) ?_
      refine lv_aload_n hx hb d_19_15_14 rfl (lv_at hl 0 rfl) ?_
      refine q_get (ci := 13) (j := 1) (v := .int 0) C0 V i_WR rfl rfl hO0 (by decide) w_1923 rfl d_19_15_15 ?_
      refine q_put (ci := 13) (j := 0) (v := .int 0) (ty := .int) C0 V i_WR o_WR n_WR rfl rfl hO0 (by decide) w_1921 rfl rfl rfl rfl (Nat.le_of_ble_eq_true rfl) d_19_15_18 (fun H locs w41 hu42 hO0 V => ?_)
      replace hO0 : w41[kO0]? = (some (qO0, .inr (13, [.int 0, .int 0, .ref qA1, .int 0, .ref qA2, .ref qA3, .ref qA4, .int 0, .ref qA5, .ref qA6, .ref qA7, .ref qA8, .ref qA9, .ref qA10, .ref qA11, .ref qA12, .int 0, .int 0, .ref qA13, .ref qA14, .int 0])) : Option (Nat × va_E)) := hO0
      replace hF := q_us hF hu42 (.head _)
      replace hA2 := (hu42 _ n_A2_O0).trans (hA2)
      replace hA3 := (hu42 _ n_A3_O0).trans (hA3)
      exact q_retv C0 V (Or.inr (⟨hF, hO0, hA2, hA3⟩)) d_19_15_21
theorem d_19_15_88 : decode prog_19_method_15_code 88 = .ok (.iload_n 2, 1) := by decide +kernel
theorem d_19_15_89 : decode prog_19_method_15_code 89 = .ok (.ifCond .eq 7, 3) := by decide +kernel
theorem d_19_15_92 : decode prog_19_method_15_code 92 = .ok (.iconst 1, 1) := by decide +kernel
theorem d_19_15_93 : decode prog_19_method_15_code 93 = .ok (.goto 4, 3) := by decide +kernel
set_option maxRecDepth 100000 in
set_option maxHeartbeats 4000000 in
theorem c_WR_store_6 (l : Launch) (D : va_G) (g : Nat → ClassId) (ws : va_W) (kO0 kA2 kA3 kA4 qO0 qA1 qA2 qA3 qA4 qA5 qA6 qA7 qA8 qA9 qA10 qA11 qA12 qA13 qA14 : Nat) (x1 : Int32) (v2 : Int32) (v3 : Int32) (v4 : Int32) (v5 : Int32) (hO0 : ws[kO0]? = (some (qO0, .inr (13, [.int 0, .int 0, .ref qA1, .int 0, .ref qA2, .ref qA3, .ref qA4, .int 1, .ref qA5, .ref qA6, .ref qA7, .ref qA8, .ref qA9, .ref qA10, .ref qA11, .ref qA12, .int 0, .int 0, .ref qA13, .ref qA14, .int 0])) : Option (Nat × va_E))) (hA2 : ws[kA2]? = (some (qA2, .inl (g 0, 1408, .inl (fun _ => 0))) : Option (Nat × va_E))) (hA3 : ws[kA3]? = (some (qA3, .inl (g 3, 11, .inl (fun _ => 0))) : Option (Nat × va_E))) (hA4 : ws[kA4]? = (some (qA4, .inl (g 0, 264, .inl (upd (upd (upd (upd (fun _ => 0) 0 v2) 1 v3) 2 v4) 3 v5))) : Option (Nat × va_E))) (n_A2_A3 : kA2 ≠ kA3) (n_A4_A2 : kA4 ≠ kA2) (n_A4_A3 : kA4 ≠ kA3) (x1lo : 0 ≤ x1) (x1hi : x1 ≤ 9) : q_mV l y_WR_store prog_19_method_15_code 4 2 0 0 D g [.ref qO0, .int x1] ws (fun u => (∃ (ex0 : Nat → Int32), q_un ws u [kO0, kA2, kA3] ∧ u[kO0]? = (some (qO0, .inr (13, [.int 0, .int 0, .ref qA1, .int 0, .ref qA2, .ref qA3, .ref qA4, .int 1, .ref qA5, .ref qA6, .ref qA7, .ref qA8, .ref qA9, .ref qA10, .ref qA11, .ref qA12, .int 0, .int 0, .ref qA13, .ref qA14, .int 0])) : Option (Nat × va_E)) ∧ u[kA2]? = (some (qA2, .inl (g 0, 1408, .inl ex0)) : Option (Nat × va_E)) ∧ u[kA3]? = (some (qA3, .inl (g 3, 11, .inl (fun _ => 0))) : Option (Nat × va_E))) ∨ (∃ (ex0 : Nat → Int32), q_un ws u [kO0, kA2, kA3] ∧ u[kO0]? = (some (qO0, .inr (13, [.int 0, .int 0, .ref qA1, .int 0, .ref qA2, .ref qA3, .ref qA4, .int 1, .ref qA5, .ref qA6, .ref qA7, .ref qA8, .ref qA9, .ref qA10, .ref qA11, .ref qA12, .int 0, .int 0, .ref qA13, .ref qA14, .int 0])) : Option (Nat × va_E)) ∧ u[kA2]? = (some (qA2, .inl (g 0, 1408, .inl ex0)) : Option (Nat × va_E)) ∧ u[kA3]? = (some (qA3, .inl (g 3, 11, .inl (upd (fun _ => 0) x1.toNatClampNeg (vp_nar .boolean 1)))) : Option (Nat × va_E))) ∨ (q_un ws u [kO0, kA2, kA3] ∧ u[kO0]? = (some (qO0, .inr (13, [.int 0, .int 0, .ref qA1, .int 0, .ref qA2, .ref qA3, .ref qA4, .int 1, .ref qA5, .ref qA6, .ref qA7, .ref qA8, .ref qA9, .ref qA10, .ref qA11, .ref qA12, .int 0, .int 0, .ref qA13, .ref qA14, .int 0])) : Option (Nat × va_E)) ∧ u[kA2]? = (some (qA2, .inl (g 0, 1408, .inl (fun _ => 0))) : Option (Nat × va_E)) ∧ u[kA3]? = (some (qA3, .inl (g 3, 11, .inl (fun _ => 0))) : Option (Nat × va_E)))) := by
  intro sz
  refine q_into (by decide) (Nat.le_of_ble_eq_true rfl) ?_
  intro p e s m below meth c ls hsz C0 V hl
  have hx := C0.1
  have hb := C0.2.1
  have hl : lv_has ls 4 [(0, .ref qO0), (1, .int x1)] := hl
  have n_A2_O0 := q_df hA2 hO0
  have n_A3_A2 := Ne.symm n_A2_A3
  have n_A3_O0 := q_df hA3 hO0
  have n_A4_O0 := q_df hA4 hO0
  have n_O0_A2 := Ne.symm (q_df hA2 hO0)
  have n_O0_A3 := Ne.symm (q_df hA3 hO0)
  have hF : q_un ws ws [kO0, kA2, kA3] := q_u0
  refine lv_aload_n hx hb d_19_15_0 rfl (lv_at hl 0 rfl) ?_
  refine q_get (ci := 13) (j := 6) (v := .ref qA4) C0 V i_WR rfl rfl hO0 (by decide) w_1930 rfl d_19_15_1 ?_
  refine q_goi V (q_runS (As := [.ref qA4]) (rest := []) (d := 1) (mc := 0) (ms := 0) C0 V rfl LS_WR_59 (c_WR_size_3 l D g ws kA4 qA4 v2 v3 v4 v5 hA4 _) rfl hl.1 rfl (Nat.le_of_ble_eq_true rfl) ⟨by decide, by decide⟩ ⟨Nat.le_of_ble_eq_true rfl, Nat.le_of_ble_eq_true rfl⟩ d_19_15_4) (fun v3 u2 H locs hp1 V => ?_)
  rcases hp1 with ⟨rfl, rfl⟩ | ⟨y9, c5, c6, f7, f8, rfl, rfl⟩
  ·
    refine lv_sipush (v := 128) hx hb d_19_15_7 (by decide) ?_
    refine lv_icmp_le (tgt := 22) hx hb d_19_15_10 (by decide) (fun c11 => ?_) (fun c11 => absurd (by decide) c11)
    refine lv_iconst (v := 0) hx hb d_19_15_22 (by decide) ?_
    refine lv_istore_n (lv' := [(2, .int 0), (0, .ref qO0), (1, .int x1)]) hx hb d_19_15_23 rfl hl (by decide) rfl (fun ls hl => ?_)
    refine lv_iconst (v := 0) hx hb d_19_15_24 (by decide) ?_
    refine lv_istore_n (lv' := [(3, .int 0), (2, .int 0), (0, .ref qO0), (1, .int x1)]) hx hb d_19_15_25 rfl hl (by decide) rfl (fun ls hl => ?_)
    refine q_loop (X := Int32 × Int32 × (Nat → Int32)) (fun z H locs ls w15 => (0 ≤ z.1.toInt ∧ (z.1.toInt ≤ 128 ∨ z.1.toInt = 0)) ∧ q_Wd D g (va_A ws sz) s w15 H locs ∧ lv_has ls 4 [(3, .int z.1), (2, .int z.2.1), (0, .ref qO0), (1, .int x1)] ∧ q_un ws w15 [kO0, kA2, kA3] ∧ w15[kO0]? = (some (qO0, .inr (13, [.int 0, .int 0, .ref qA1, .int 0, .ref qA2, .ref qA3, .ref qA4, .int 1, .ref qA5, .ref qA6, .ref qA7, .ref qA8, .ref qA9, .ref qA10, .ref qA11, .ref qA12, .int 0, .int 0, .ref qA13, .ref qA14, .int 0])) : Option (Nat × va_E)) ∧ w15[kA2]? = (some (qA2, .inl (g 0, 1408, .inl z.2.2)) : Option (Nat × va_E)) ∧ w15[kA3]? = (some (qA3, .inl (g 3, 11, .inl (fun _ => 0))) : Option (Nat × va_E)) ∧ w15[kA4]? = (some (qA4, .inl (g 0, 264, .inl (upd (upd (upd (upd (fun _ => 0) 0 v2) 1 v3) 2 v4) 3 v5))) : Option (Nat × va_E))) (fun z => (128 - z.1.toInt).toNat) ?_ ((0 : Int32), (0 : Int32), (fun _ => 0 : (Nat → Int32))) _ _ _ ws ⟨⟨(by dsimp only; decide), Or.inr (by dsimp only; decide)⟩, V, hl, hF, hO0, hA2, hA3, hA4⟩
    rintro ⟨lx12, lx13, lx14⟩ H locs ls w15 ⟨i16, V, hl, hF, hO0, hA2, hA3, hA4⟩ ih17
    replace i16 : 0 ≤ lx12.toInt ∧ (lx12.toInt ≤ 128 ∨ lx12.toInt = 0) := i16
    replace hl : lv_has ls 4 [(3, .int lx12), (2, .int lx13), (0, .ref qO0), (1, .int x1)] := hl
    replace hO0 : w15[kO0]? = (some (qO0, .inr (13, [.int 0, .int 0, .ref qA1, .int 0, .ref qA2, .ref qA3, .ref qA4, .int 1, .ref qA5, .ref qA6, .ref qA7, .ref qA8, .ref qA9, .ref qA10, .ref qA11, .ref qA12, .int 0, .int 0, .ref qA13, .ref qA14, .int 0])) : Option (Nat × va_E)) := hO0
    replace hA2 : w15[kA2]? = (some (qA2, .inl (g 0, 1408, .inl lx14)) : Option (Nat × va_E)) := hA2
    replace hA3 : w15[kA3]? = (some (qA3, .inl (g 3, 11, .inl (fun _ => 0))) : Option (Nat × va_E)) := hA3
    replace hA4 : w15[kA4]? = (some (qA4, .inl (g 0, 264, .inl (upd (upd (upd (upd (fun _ => 0) 0 v2) 1 v3) 2 v4) 3 v5))) : Option (Nat × va_E)) := hA4
    refine lv_iload_n hx hb d_19_15_26 rfl (lv_at hl 0 rfl) ?_
    refine lv_sipush (v := 128) hx hb d_19_15_27 (by decide) ?_
    refine lv_icmp_ge (tgt := 76) hx hb d_19_15_30 (by decide) (fun c18 => ?_) (fun c18 => ?_)
    ·
      refine lv_aload_n hx hb d_19_15_76 rfl (lv_at hl 2 rfl) ?_
      refine q_get (ci := 13) (j := 5) (v := .ref qA3) C0 V i_WR rfl rfl hO0 (by decide) w_1929 rfl d_19_15_77 ?_
      refine lv_iload_n hx hb d_19_15_80 rfl (lv_at hl 3 rfl) ?_
      refine lv_aload_n hx hb d_19_15_81 rfl (lv_at hl 2 rfl) ?_
      refine q_get (ci := 13) (j := 7) (v := .int 1) C0 V i_WR rfl rfl hO0 (by decide) w_1931 rfl d_19_15_82 ?_
      refine lv_if_eq (tgt := 96) hx hb d_19_15_85 (by decide) (fun c19 => absurd c19 (by decide)) (fun c19 => ?_)
      refine lv_iload_n hx hb d_19_15_88 rfl (lv_at hl 1 rfl) ?_
      refine lv_if_eq (tgt := 96) hx hb d_19_15_89 (by decide) (fun c20 => ?_) (fun c20 => ?_)
      ·
        refine lv_iconst (v := 0) hx hb d_19_15_96 (by decide) ?_
        refine q_zast C0 V hA3 (q_ix (x := x1.toInt) rfl (by have t1 : 0 ≤ x1.toInt := q_leI x1lo; have t2 : x1.toInt ≤ 9 := q_leI x1hi; omega) (by have t1 : 0 ≤ x1.toInt := q_leI x1lo; have t2 : x1.toInt ≤ 9 := q_leI x1hi; omega)) d_19_15_97 (fun H locs w21 hu22 hA3 V => ?_)
        replace hA3 := q_re (y := (qA3, .inl (g 3, 11, .inl (fun _ => 0)))) hA3 (q_eI q_upd0)
        replace hA3 : w21[kA3]? = (some (qA3, .inl (g 3, 11, .inl (fun _ => 0))) : Option (Nat × va_E)) := hA3
        replace hF := q_us hF hu22 (.tail _ (.tail _ (.head _)))
        replace hO0 := (hu22 _ n_O0_A3).trans (hO0)
        replace hA2 := (hu22 _ n_A2_A3).trans (hA2)
        exact q_retv C0 V (Or.inl ⟨lx14, hF, hO0, hA2, hA3⟩) d_19_15_98
      ·
        refine lv_iconst (v := 1) hx hb d_19_15_92 (by decide) ?_
        refine lv_goto (tgt := 97) hx hb d_19_15_93 (by decide) ?_
        refine q_zast C0 V hA3 (q_ix (x := x1.toInt) rfl (by have t1 : 0 ≤ x1.toInt := q_leI x1lo; have t2 : x1.toInt ≤ 9 := q_leI x1hi; omega) (by have t1 : 0 ≤ x1.toInt := q_leI x1lo; have t2 : x1.toInt ≤ 9 := q_leI x1hi; omega)) d_19_15_97 (fun H locs w23 hu24 hA3 V => ?_)
        replace hA3 : w23[kA3]? = (some (qA3, .inl (g 3, 11, .inl (upd (fun _ => 0) x1.toNatClampNeg (vp_nar .boolean 1)))) : Option (Nat × va_E)) := hA3
        replace hF := q_us hF hu24 (.tail _ (.tail _ (.head _)))
        replace hO0 := (hu24 _ n_O0_A3).trans (hO0)
        replace hA2 := (hu24 _ n_A2_A3).trans (hA2)
        exact q_retv C0 V (Or.inr (Or.inl ⟨lx14, hF, hO0, hA2, hA3⟩)) d_19_15_98
    ·
      refine lv_aload_n hx hb d_19_15_33 rfl (lv_at hl 2 rfl) ?_
      refine q_get (ci := 13) (j := 4) (v := .ref qA2) C0 V i_WR rfl rfl hO0 (by decide) w_1928 rfl d_19_15_34 ?_
      refine lv_sipush (v := 128) hx hb d_19_15_37 (by decide) ?_
      refine lv_iload_n hx hb d_19_15_40 rfl (lv_at hl 3 rfl) ?_
      refine lv_imul hx hb d_19_15_41 ?_
      refine lv_iload_n hx hb d_19_15_42 rfl (lv_at hl 0 rfl) ?_
      refine lv_iadd hx hb d_19_15_43 ?_
      refine lv_aload_n hx hb d_19_15_44 rfl (lv_at hl 2 rfl) ?_
      refine q_get (ci := 13) (j := 6) (v := .ref qA4) C0 V i_WR rfl rfl hO0 (by decide) w_1930 rfl d_19_15_45 ?_
      refine lv_iload_n hx hb d_19_15_48 rfl (lv_at hl 0 rfl) ?_
      refine q_iald C0 V hA4 (q_ix (x := lx12.toInt) rfl (by have t1 : lx12.toInt < 128 := q_nleI c18; omega) (by have t1 : lx12.toInt < 128 := q_nleI c18; omega)) d_19_15_49 ?_
      refine q_iast C0 V hA2 (q_ix (x := ((128 * x1.toInt) + lx12.toInt)) (q_addI (x := (128 * x1.toInt)) (y := lx12.toInt) (q_mulI (x := 128) (y := x1.toInt) (by decide) rfl (by have t1 : 0 ≤ x1.toInt := q_leI x1lo; have t2 : x1.toInt ≤ 9 := q_leI x1hi; omega) (by have t1 : 0 ≤ x1.toInt := q_leI x1lo; have t2 : x1.toInt ≤ 9 := q_leI x1hi; omega)) rfl (by have t1 : 0 ≤ x1.toInt := q_leI x1lo; have t2 : x1.toInt ≤ 9 := q_leI x1hi; have t3 : lx12.toInt < 128 := q_nleI c18; omega) (by have t1 : 0 ≤ x1.toInt := q_leI x1lo; have t2 : x1.toInt ≤ 9 := q_leI x1hi; have t3 : lx12.toInt < 128 := q_nleI c18; omega)) (by have t1 : 0 ≤ x1.toInt := q_leI x1lo; have t2 : x1.toInt ≤ 9 := q_leI x1hi; have t3 : lx12.toInt < 128 := q_nleI c18; omega) (by have t1 : 0 ≤ x1.toInt := q_leI x1lo; have t2 : x1.toInt ≤ 9 := q_leI x1hi; have t3 : lx12.toInt < 128 := q_nleI c18; omega)) d_19_15_50 (fun H locs w25 hu26 hA2 V => ?_)
      replace hA2 : w25[kA2]? = (some (qA2, .inl (g 0, 1408, .inl (upd lx14 (((128 * x1) + lx12).toNatClampNeg) ((upd (upd (upd (upd (fun _ => 0) 0 v2) 1 v3) 2 v4) 3 v5) lx12.toNatClampNeg)))) : Option (Nat × va_E)) := hA2
      replace hF := q_us hF hu26 (.tail _ (.head _))
      refine lv_iload_n hx hb d_19_15_51 rfl (lv_at hl 1 rfl) ?_
      refine lv_if_ne (tgt := 64) hx hb d_19_15_52 (by decide) (fun c27 => ?_) (fun c27 => ?_)
      ·
        refine lv_iconst (v := 1) hx hb d_19_15_64 (by decide) ?_
        refine lv_goto (tgt := 69) hx hb d_19_15_65 (by decide) ?_
        refine lv_istore_n (lv' := [(2, .int 1), (3, .int lx12), (0, .ref qO0), (1, .int x1)]) hx hb d_19_15_69 rfl hl (by decide) rfl (fun ls hl => ?_)
        refine lv_iinc (v := lx12 + 1) (lv' := [(3, .int (lx12 + 1)), (2, .int 1), (0, .ref qO0), (1, .int x1)]) hx hb d_19_15_70 hl (k := 1) rfl (rfl) (by decide) rfl (fun ls hl => ?_)
        refine lv_goto (tgt := 26) hx hb d_19_15_73 (by decide) ?_
        replace hO0 := (hu26 _ n_O0_A2).trans (hO0)
        replace hA3 := (hu26 _ n_A3_A2).trans (hA3)
        replace hA4 := (hu26 _ n_A4_A2).trans (hA4)
        exact ih17 ((lx12 + 1 : Int32), (1 : Int32), (upd lx14 (((128 * x1) + lx12).toNatClampNeg) ((upd (upd (upd (upd (fun _ => 0) 0 v2) 1 v3) 2 v4) 3 v5) lx12.toNatClampNeg) : Nat → Int32)) _ _ _ _ (show (128 - (lx12 + 1).toInt).toNat < (128 - lx12.toInt).toNat from by have t1 : lx12.toInt < 128 := q_nleI c18; have e : (lx12 + 1).toInt = (lx12.toInt + 1) := (q_addI (x := lx12.toInt) (y := 1) rfl (by decide) (by have t1 : lx12.toInt < 128 := q_nleI c18; omega) (by have t1 : lx12.toInt < 128 := q_nleI c18; omega)); omega) ⟨(show 0 ≤ (lx12 + 1).toInt ∧ ((lx12 + 1).toInt ≤ 128 ∨ (lx12 + 1).toInt = 0) from by have t1 : lx12.toInt < 128 := q_nleI c18; have e : (lx12 + 1).toInt = (lx12.toInt + 1) := (q_addI (x := lx12.toInt) (y := 1) rfl (by decide) (by have t1 : lx12.toInt < 128 := q_nleI c18; omega) (by have t1 : lx12.toInt < 128 := q_nleI c18; omega)); omega), V, q_lw hl (q_lw1 0 rfl (q_lw1 1 rfl (q_lw1 2 rfl (q_lw1 3 rfl q_lw0)))), hF, hO0, hA2, hA3, hA4⟩
      ·
        refine lv_aload_n hx hb d_19_15_55 rfl (lv_at hl 2 rfl) ?_
        replace hO0 := (hu26 _ n_O0_A2).trans (hO0)
        refine q_get (ci := 13) (j := 6) (v := .ref qA4) C0 V i_WR rfl rfl hO0 (by decide) w_1930 rfl d_19_15_56 ?_
        refine lv_iload_n hx hb d_19_15_59 rfl (lv_at hl 0 rfl) ?_
        replace hA4 := (hu26 _ n_A4_A2).trans (hA4)
        refine q_iald C0 V hA4 (q_ix (x := lx12.toInt) rfl (by have t1 : lx12.toInt < 128 := q_nleI c18; omega) (by have t1 : lx12.toInt < 128 := q_nleI c18; omega)) d_19_15_60 ?_
        refine lv_if_eq (tgt := 68) hx hb d_19_15_61 (by decide) (fun c28 => ?_) (fun c28 => ?_)
        ·
          refine lv_iconst (v := 0) hx hb d_19_15_68 (by decide) ?_
          refine lv_istore_n (lv' := [(2, .int 0), (3, .int lx12), (0, .ref qO0), (1, .int x1)]) hx hb d_19_15_69 rfl hl (by decide) rfl (fun ls hl => ?_)
          refine lv_iinc (v := lx12 + 1) (lv' := [(3, .int (lx12 + 1)), (2, .int 0), (0, .ref qO0), (1, .int x1)]) hx hb d_19_15_70 hl (k := 1) rfl (rfl) (by decide) rfl (fun ls hl => ?_)
          refine lv_goto (tgt := 26) hx hb d_19_15_73 (by decide) ?_
          replace hA3 := (hu26 _ n_A3_A2).trans (hA3)
          exact ih17 ((lx12 + 1 : Int32), (0 : Int32), (upd lx14 (((128 * x1) + lx12).toNatClampNeg) ((upd (upd (upd (upd (fun _ => 0) 0 v2) 1 v3) 2 v4) 3 v5) lx12.toNatClampNeg) : Nat → Int32)) _ _ _ _ (show (128 - (lx12 + 1).toInt).toNat < (128 - lx12.toInt).toNat from by have t1 : lx12.toInt < 128 := q_nleI c18; have e : (lx12 + 1).toInt = (lx12.toInt + 1) := (q_addI (x := lx12.toInt) (y := 1) rfl (by decide) (by have t1 : lx12.toInt < 128 := q_nleI c18; omega) (by have t1 : lx12.toInt < 128 := q_nleI c18; omega)); omega) ⟨(show 0 ≤ (lx12 + 1).toInt ∧ ((lx12 + 1).toInt ≤ 128 ∨ (lx12 + 1).toInt = 0) from by have t1 : lx12.toInt < 128 := q_nleI c18; have e : (lx12 + 1).toInt = (lx12.toInt + 1) := (q_addI (x := lx12.toInt) (y := 1) rfl (by decide) (by have t1 : lx12.toInt < 128 := q_nleI c18; omega) (by have t1 : lx12.toInt < 128 := q_nleI c18; omega)); omega), V, q_lw hl (q_lw1 0 rfl (q_lw1 1 rfl (q_lw1 2 rfl (q_lw1 3 rfl q_lw0)))), hF, hO0, hA2, hA3, hA4⟩
        ·
          refine lv_iconst (v := 1) hx hb d_19_15_64 (by decide) ?_
          refine lv_goto (tgt := 69) hx hb d_19_15_65 (by decide) ?_
          refine lv_istore_n (lv' := [(2, .int 1), (3, .int lx12), (0, .ref qO0), (1, .int x1)]) hx hb d_19_15_69 rfl hl (by decide) rfl (fun ls hl => ?_)
          refine lv_iinc (v := lx12 + 1) (lv' := [(3, .int (lx12 + 1)), (2, .int 1), (0, .ref qO0), (1, .int x1)]) hx hb d_19_15_70 hl (k := 1) rfl (rfl) (by decide) rfl (fun ls hl => ?_)
          refine lv_goto (tgt := 26) hx hb d_19_15_73 (by decide) ?_
          replace hA3 := (hu26 _ n_A3_A2).trans (hA3)
          exact ih17 ((lx12 + 1 : Int32), (1 : Int32), (upd lx14 (((128 * x1) + lx12).toNatClampNeg) ((upd (upd (upd (upd (fun _ => 0) 0 v2) 1 v3) 2 v4) 3 v5) lx12.toNatClampNeg) : Nat → Int32)) _ _ _ _ (show (128 - (lx12 + 1).toInt).toNat < (128 - lx12.toInt).toNat from by have t1 : lx12.toInt < 128 := q_nleI c18; have e : (lx12 + 1).toInt = (lx12.toInt + 1) := (q_addI (x := lx12.toInt) (y := 1) rfl (by decide) (by have t1 : lx12.toInt < 128 := q_nleI c18; omega) (by have t1 : lx12.toInt < 128 := q_nleI c18; omega)); omega) ⟨(show 0 ≤ (lx12 + 1).toInt ∧ ((lx12 + 1).toInt ≤ 128 ∨ (lx12 + 1).toInt = 0) from by have t1 : lx12.toInt < 128 := q_nleI c18; have e : (lx12 + 1).toInt = (lx12.toInt + 1) := (q_addI (x := lx12.toInt) (y := 1) rfl (by decide) (by have t1 : lx12.toInt < 128 := q_nleI c18; omega) (by have t1 : lx12.toInt < 128 := q_nleI c18; omega)); omega), V, q_lw hl (q_lw1 0 rfl (q_lw1 1 rfl (q_lw1 2 rfl (q_lw1 3 rfl q_lw0)))), hF, hO0, hA2, hA3, hA4⟩
  ·
    refine lv_sipush (v := 128) hx hb d_19_15_7 (by decide) ?_
    refine lv_icmp_le (tgt := 22) hx hb d_19_15_10 (by decide) (fun c29 => ?_) (fun c29 => ?_)
    ·
      refine lv_iconst (v := 0) hx hb d_19_15_22 (by decide) ?_
      refine lv_istore_n (lv' := [(2, .int 0), (0, .ref qO0), (1, .int x1)]) hx hb d_19_15_23 rfl hl (by decide) rfl (fun ls hl => ?_)
      refine lv_iconst (v := 0) hx hb d_19_15_24 (by decide) ?_
      refine lv_istore_n (lv' := [(3, .int 0), (2, .int 0), (0, .ref qO0), (1, .int x1)]) hx hb d_19_15_25 rfl hl (by decide) rfl (fun ls hl => ?_)
      refine q_loop (X := Int32 × Int32 × (Nat → Int32)) (fun z H locs ls w33 => (0 ≤ z.1.toInt ∧ (z.1.toInt ≤ 128 ∨ z.1.toInt = 0)) ∧ q_Wd D g (va_A ws sz) s w33 H locs ∧ lv_has ls 4 [(3, .int z.1), (2, .int z.2.1), (0, .ref qO0), (1, .int x1)] ∧ q_un ws w33 [kO0, kA2, kA3] ∧ w33[kO0]? = (some (qO0, .inr (13, [.int 0, .int 0, .ref qA1, .int 0, .ref qA2, .ref qA3, .ref qA4, .int 1, .ref qA5, .ref qA6, .ref qA7, .ref qA8, .ref qA9, .ref qA10, .ref qA11, .ref qA12, .int 0, .int 0, .ref qA13, .ref qA14, .int 0])) : Option (Nat × va_E)) ∧ w33[kA2]? = (some (qA2, .inl (g 0, 1408, .inl z.2.2)) : Option (Nat × va_E)) ∧ w33[kA3]? = (some (qA3, .inl (g 3, 11, .inl (fun _ => 0))) : Option (Nat × va_E)) ∧ w33[kA4]? = (some (qA4, .inl (g 0, 264, .inl (upd (upd (upd (upd (fun _ => 0) 0 v2) 1 v3) 2 v4) 3 v5))) : Option (Nat × va_E))) (fun z => (128 - z.1.toInt).toNat) ?_ ((0 : Int32), (0 : Int32), (fun _ => 0 : (Nat → Int32))) _ _ _ ws ⟨⟨(by dsimp only; decide), Or.inr (by dsimp only; decide)⟩, V, hl, hF, hO0, hA2, hA3, hA4⟩
      rintro ⟨lx30, lx31, lx32⟩ H locs ls w33 ⟨i34, V, hl, hF, hO0, hA2, hA3, hA4⟩ ih35
      replace i34 : 0 ≤ lx30.toInt ∧ (lx30.toInt ≤ 128 ∨ lx30.toInt = 0) := i34
      replace hl : lv_has ls 4 [(3, .int lx30), (2, .int lx31), (0, .ref qO0), (1, .int x1)] := hl
      replace hO0 : w33[kO0]? = (some (qO0, .inr (13, [.int 0, .int 0, .ref qA1, .int 0, .ref qA2, .ref qA3, .ref qA4, .int 1, .ref qA5, .ref qA6, .ref qA7, .ref qA8, .ref qA9, .ref qA10, .ref qA11, .ref qA12, .int 0, .int 0, .ref qA13, .ref qA14, .int 0])) : Option (Nat × va_E)) := hO0
      replace hA2 : w33[kA2]? = (some (qA2, .inl (g 0, 1408, .inl lx32)) : Option (Nat × va_E)) := hA2
      replace hA3 : w33[kA3]? = (some (qA3, .inl (g 3, 11, .inl (fun _ => 0))) : Option (Nat × va_E)) := hA3
      replace hA4 : w33[kA4]? = (some (qA4, .inl (g 0, 264, .inl (upd (upd (upd (upd (fun _ => 0) 0 v2) 1 v3) 2 v4) 3 v5))) : Option (Nat × va_E)) := hA4
      refine lv_iload_n hx hb d_19_15_26 rfl (lv_at hl 0 rfl) ?_
      refine lv_sipush (v := 128) hx hb d_19_15_27 (by decide) ?_
      refine lv_icmp_ge (tgt := 76) hx hb d_19_15_30 (by decide) (fun c36 => ?_) (fun c36 => ?_)
      ·
        refine lv_aload_n hx hb d_19_15_76 rfl (lv_at hl 2 rfl) ?_
        refine q_get (ci := 13) (j := 5) (v := .ref qA3) C0 V i_WR rfl rfl hO0 (by decide) w_1929 rfl d_19_15_77 ?_
        refine lv_iload_n hx hb d_19_15_80 rfl (lv_at hl 3 rfl) ?_
        refine lv_aload_n hx hb d_19_15_81 rfl (lv_at hl 2 rfl) ?_
        refine q_get (ci := 13) (j := 7) (v := .int 1) C0 V i_WR rfl rfl hO0 (by decide) w_1931 rfl d_19_15_82 ?_
        refine lv_if_eq (tgt := 96) hx hb d_19_15_85 (by decide) (fun c37 => absurd c37 (by decide)) (fun c37 => ?_)
        refine lv_iload_n hx hb d_19_15_88 rfl (lv_at hl 1 rfl) ?_
        refine lv_if_eq (tgt := 96) hx hb d_19_15_89 (by decide) (fun c38 => ?_) (fun c38 => ?_)
        ·
          refine lv_iconst (v := 0) hx hb d_19_15_96 (by decide) ?_
          refine q_zast C0 V hA3 (q_ix (x := x1.toInt) rfl (by have t1 : 0 ≤ x1.toInt := q_leI x1lo; have t2 : x1.toInt ≤ 9 := q_leI x1hi; omega) (by have t1 : 0 ≤ x1.toInt := q_leI x1lo; have t2 : x1.toInt ≤ 9 := q_leI x1hi; omega)) d_19_15_97 (fun H locs w39 hu40 hA3 V => ?_)
          replace hA3 := q_re (y := (qA3, .inl (g 3, 11, .inl (fun _ => 0)))) hA3 (q_eI q_upd0)
          replace hA3 : w39[kA3]? = (some (qA3, .inl (g 3, 11, .inl (fun _ => 0))) : Option (Nat × va_E)) := hA3
          replace hF := q_us hF hu40 (.tail _ (.tail _ (.head _)))
          replace hO0 := (hu40 _ n_O0_A3).trans (hO0)
          replace hA2 := (hu40 _ n_A2_A3).trans (hA2)
          exact q_retv C0 V (Or.inl ⟨lx32, hF, hO0, hA2, hA3⟩) d_19_15_98
        ·
          refine lv_iconst (v := 1) hx hb d_19_15_92 (by decide) ?_
          refine lv_goto (tgt := 97) hx hb d_19_15_93 (by decide) ?_
          refine q_zast C0 V hA3 (q_ix (x := x1.toInt) rfl (by have t1 : 0 ≤ x1.toInt := q_leI x1lo; have t2 : x1.toInt ≤ 9 := q_leI x1hi; omega) (by have t1 : 0 ≤ x1.toInt := q_leI x1lo; have t2 : x1.toInt ≤ 9 := q_leI x1hi; omega)) d_19_15_97 (fun H locs w41 hu42 hA3 V => ?_)
          replace hA3 : w41[kA3]? = (some (qA3, .inl (g 3, 11, .inl (upd (fun _ => 0) x1.toNatClampNeg (vp_nar .boolean 1)))) : Option (Nat × va_E)) := hA3
          replace hF := q_us hF hu42 (.tail _ (.tail _ (.head _)))
          replace hO0 := (hu42 _ n_O0_A3).trans (hO0)
          replace hA2 := (hu42 _ n_A2_A3).trans (hA2)
          exact q_retv C0 V (Or.inr (Or.inl ⟨lx32, hF, hO0, hA2, hA3⟩)) d_19_15_98
      ·
        refine lv_aload_n hx hb d_19_15_33 rfl (lv_at hl 2 rfl) ?_
        refine q_get (ci := 13) (j := 4) (v := .ref qA2) C0 V i_WR rfl rfl hO0 (by decide) w_1928 rfl d_19_15_34 ?_
        refine lv_sipush (v := 128) hx hb d_19_15_37 (by decide) ?_
        refine lv_iload_n hx hb d_19_15_40 rfl (lv_at hl 3 rfl) ?_
        refine lv_imul hx hb d_19_15_41 ?_
        refine lv_iload_n hx hb d_19_15_42 rfl (lv_at hl 0 rfl) ?_
        refine lv_iadd hx hb d_19_15_43 ?_
        refine lv_aload_n hx hb d_19_15_44 rfl (lv_at hl 2 rfl) ?_
        refine q_get (ci := 13) (j := 6) (v := .ref qA4) C0 V i_WR rfl rfl hO0 (by decide) w_1930 rfl d_19_15_45 ?_
        refine lv_iload_n hx hb d_19_15_48 rfl (lv_at hl 0 rfl) ?_
        refine q_iald C0 V hA4 (q_ix (x := lx30.toInt) rfl (by have t1 : lx30.toInt < 128 := q_nleI c36; omega) (by have t1 : lx30.toInt < 128 := q_nleI c36; omega)) d_19_15_49 ?_
        refine q_iast C0 V hA2 (q_ix (x := ((128 * x1.toInt) + lx30.toInt)) (q_addI (x := (128 * x1.toInt)) (y := lx30.toInt) (q_mulI (x := 128) (y := x1.toInt) (by decide) rfl (by have t1 : 0 ≤ x1.toInt := q_leI x1lo; have t2 : x1.toInt ≤ 9 := q_leI x1hi; omega) (by have t1 : 0 ≤ x1.toInt := q_leI x1lo; have t2 : x1.toInt ≤ 9 := q_leI x1hi; omega)) rfl (by have t1 : 0 ≤ x1.toInt := q_leI x1lo; have t2 : x1.toInt ≤ 9 := q_leI x1hi; have t3 : lx30.toInt < 128 := q_nleI c36; omega) (by have t1 : 0 ≤ x1.toInt := q_leI x1lo; have t2 : x1.toInt ≤ 9 := q_leI x1hi; have t3 : lx30.toInt < 128 := q_nleI c36; omega)) (by have t1 : 0 ≤ x1.toInt := q_leI x1lo; have t2 : x1.toInt ≤ 9 := q_leI x1hi; have t3 : lx30.toInt < 128 := q_nleI c36; omega) (by have t1 : 0 ≤ x1.toInt := q_leI x1lo; have t2 : x1.toInt ≤ 9 := q_leI x1hi; have t3 : lx30.toInt < 128 := q_nleI c36; omega)) d_19_15_50 (fun H locs w43 hu44 hA2 V => ?_)
        replace hA2 : w43[kA2]? = (some (qA2, .inl (g 0, 1408, .inl (upd lx32 (((128 * x1) + lx30).toNatClampNeg) ((upd (upd (upd (upd (fun _ => 0) 0 v2) 1 v3) 2 v4) 3 v5) lx30.toNatClampNeg)))) : Option (Nat × va_E)) := hA2
        replace hF := q_us hF hu44 (.tail _ (.head _))
        refine lv_iload_n hx hb d_19_15_51 rfl (lv_at hl 1 rfl) ?_
        refine lv_if_ne (tgt := 64) hx hb d_19_15_52 (by decide) (fun c45 => ?_) (fun c45 => ?_)
        ·
          refine lv_iconst (v := 1) hx hb d_19_15_64 (by decide) ?_
          refine lv_goto (tgt := 69) hx hb d_19_15_65 (by decide) ?_
          refine lv_istore_n (lv' := [(2, .int 1), (3, .int lx30), (0, .ref qO0), (1, .int x1)]) hx hb d_19_15_69 rfl hl (by decide) rfl (fun ls hl => ?_)
          refine lv_iinc (v := lx30 + 1) (lv' := [(3, .int (lx30 + 1)), (2, .int 1), (0, .ref qO0), (1, .int x1)]) hx hb d_19_15_70 hl (k := 1) rfl (rfl) (by decide) rfl (fun ls hl => ?_)
          refine lv_goto (tgt := 26) hx hb d_19_15_73 (by decide) ?_
          replace hO0 := (hu44 _ n_O0_A2).trans (hO0)
          replace hA3 := (hu44 _ n_A3_A2).trans (hA3)
          replace hA4 := (hu44 _ n_A4_A2).trans (hA4)
          exact ih35 ((lx30 + 1 : Int32), (1 : Int32), (upd lx32 (((128 * x1) + lx30).toNatClampNeg) ((upd (upd (upd (upd (fun _ => 0) 0 v2) 1 v3) 2 v4) 3 v5) lx30.toNatClampNeg) : Nat → Int32)) _ _ _ _ (show (128 - (lx30 + 1).toInt).toNat < (128 - lx30.toInt).toNat from by have t1 : lx30.toInt < 128 := q_nleI c36; have e : (lx30 + 1).toInt = (lx30.toInt + 1) := (q_addI (x := lx30.toInt) (y := 1) rfl (by decide) (by have t1 : lx30.toInt < 128 := q_nleI c36; omega) (by have t1 : lx30.toInt < 128 := q_nleI c36; omega)); omega) ⟨(show 0 ≤ (lx30 + 1).toInt ∧ ((lx30 + 1).toInt ≤ 128 ∨ (lx30 + 1).toInt = 0) from by have t1 : lx30.toInt < 128 := q_nleI c36; have e : (lx30 + 1).toInt = (lx30.toInt + 1) := (q_addI (x := lx30.toInt) (y := 1) rfl (by decide) (by have t1 : lx30.toInt < 128 := q_nleI c36; omega) (by have t1 : lx30.toInt < 128 := q_nleI c36; omega)); omega), V, q_lw hl (q_lw1 0 rfl (q_lw1 1 rfl (q_lw1 2 rfl (q_lw1 3 rfl q_lw0)))), hF, hO0, hA2, hA3, hA4⟩
        ·
          refine lv_aload_n hx hb d_19_15_55 rfl (lv_at hl 2 rfl) ?_
          replace hO0 := (hu44 _ n_O0_A2).trans (hO0)
          refine q_get (ci := 13) (j := 6) (v := .ref qA4) C0 V i_WR rfl rfl hO0 (by decide) w_1930 rfl d_19_15_56 ?_
          refine lv_iload_n hx hb d_19_15_59 rfl (lv_at hl 0 rfl) ?_
          replace hA4 := (hu44 _ n_A4_A2).trans (hA4)
          refine q_iald C0 V hA4 (q_ix (x := lx30.toInt) rfl (by have t1 : lx30.toInt < 128 := q_nleI c36; omega) (by have t1 : lx30.toInt < 128 := q_nleI c36; omega)) d_19_15_60 ?_
          refine lv_if_eq (tgt := 68) hx hb d_19_15_61 (by decide) (fun c46 => ?_) (fun c46 => ?_)
          ·
            refine lv_iconst (v := 0) hx hb d_19_15_68 (by decide) ?_
            refine lv_istore_n (lv' := [(2, .int 0), (3, .int lx30), (0, .ref qO0), (1, .int x1)]) hx hb d_19_15_69 rfl hl (by decide) rfl (fun ls hl => ?_)
            refine lv_iinc (v := lx30 + 1) (lv' := [(3, .int (lx30 + 1)), (2, .int 0), (0, .ref qO0), (1, .int x1)]) hx hb d_19_15_70 hl (k := 1) rfl (rfl) (by decide) rfl (fun ls hl => ?_)
            refine lv_goto (tgt := 26) hx hb d_19_15_73 (by decide) ?_
            replace hA3 := (hu44 _ n_A3_A2).trans (hA3)
            exact ih35 ((lx30 + 1 : Int32), (0 : Int32), (upd lx32 (((128 * x1) + lx30).toNatClampNeg) ((upd (upd (upd (upd (fun _ => 0) 0 v2) 1 v3) 2 v4) 3 v5) lx30.toNatClampNeg) : Nat → Int32)) _ _ _ _ (show (128 - (lx30 + 1).toInt).toNat < (128 - lx30.toInt).toNat from by have t1 : lx30.toInt < 128 := q_nleI c36; have e : (lx30 + 1).toInt = (lx30.toInt + 1) := (q_addI (x := lx30.toInt) (y := 1) rfl (by decide) (by have t1 : lx30.toInt < 128 := q_nleI c36; omega) (by have t1 : lx30.toInt < 128 := q_nleI c36; omega)); omega) ⟨(show 0 ≤ (lx30 + 1).toInt ∧ ((lx30 + 1).toInt ≤ 128 ∨ (lx30 + 1).toInt = 0) from by have t1 : lx30.toInt < 128 := q_nleI c36; have e : (lx30 + 1).toInt = (lx30.toInt + 1) := (q_addI (x := lx30.toInt) (y := 1) rfl (by decide) (by have t1 : lx30.toInt < 128 := q_nleI c36; omega) (by have t1 : lx30.toInt < 128 := q_nleI c36; omega)); omega), V, q_lw hl (q_lw1 0 rfl (q_lw1 1 rfl (q_lw1 2 rfl (q_lw1 3 rfl q_lw0)))), hF, hO0, hA2, hA3, hA4⟩
          ·
            refine lv_iconst (v := 1) hx hb d_19_15_64 (by decide) ?_
            refine lv_goto (tgt := 69) hx hb d_19_15_65 (by decide) ?_
            refine lv_istore_n (lv' := [(2, .int 1), (3, .int lx30), (0, .ref qO0), (1, .int x1)]) hx hb d_19_15_69 rfl hl (by decide) rfl (fun ls hl => ?_)
            refine lv_iinc (v := lx30 + 1) (lv' := [(3, .int (lx30 + 1)), (2, .int 1), (0, .ref qO0), (1, .int x1)]) hx hb d_19_15_70 hl (k := 1) rfl (rfl) (by decide) rfl (fun ls hl => ?_)
            refine lv_goto (tgt := 26) hx hb d_19_15_73 (by decide) ?_
            replace hA3 := (hu44 _ n_A3_A2).trans (hA3)
            exact ih35 ((lx30 + 1 : Int32), (1 : Int32), (upd lx32 (((128 * x1) + lx30).toNatClampNeg) ((upd (upd (upd (upd (fun _ => 0) 0 v2) 1 v3) 2 v4) 3 v5) lx30.toNatClampNeg) : Nat → Int32)) _ _ _ _ (show (128 - (lx30 + 1).toInt).toNat < (128 - lx30.toInt).toNat from by have t1 : lx30.toInt < 128 := q_nleI c36; have e : (lx30 + 1).toInt = (lx30.toInt + 1) := (q_addI (x := lx30.toInt) (y := 1) rfl (by decide) (by have t1 : lx30.toInt < 128 := q_nleI c36; omega) (by have t1 : lx30.toInt < 128 := q_nleI c36; omega)); omega) ⟨(show 0 ≤ (lx30 + 1).toInt ∧ ((lx30 + 1).toInt ≤ 128 ∨ (lx30 + 1).toInt = 0) from by have t1 : lx30.toInt < 128 := q_nleI c36; have e : (lx30 + 1).toInt = (lx30.toInt + 1) := (q_addI (x := lx30.toInt) (y := 1) rfl (by decide) (by have t1 : lx30.toInt < 128 := q_nleI c36; omega) (by have t1 : lx30.toInt < 128 := q_nleI c36; omega)); omega), V, q_lw hl (q_lw1 0 rfl (q_lw1 1 rfl (q_lw1 2 rfl (q_lw1 3 rfl q_lw0)))), hF, hO0, hA2, hA3, hA4⟩
    ·
      refine lv_aload_n hx hb d_19_15_13 rfl (lv_at hl 0 rfl) ?_
      refine lv_aload_n hx hb d_19_15_14 rfl (lv_at hl 0 rfl) ?_
      refine q_get (ci := 13) (j := 1) (v := .int 0) C0 V i_WR rfl rfl hO0 (by decide) w_1923 rfl d_19_15_15 ?_
      refine q_put (ci := 13) (j := 0) (v := .int 0) (ty := .int) C0 V i_WR o_WR n_WR rfl rfl hO0 (by decide) w_1921 rfl rfl rfl rfl (Nat.le_of_ble_eq_true rfl) d_19_15_18 (fun H locs w47 hu48 hO0 V => ?_)
      replace hO0 : w47[kO0]? = (some (qO0, .inr (13, [.int 0, .int 0, .ref qA1, .int 0, .ref qA2, .ref qA3, .ref qA4, .int 1, .ref qA5, .ref qA6, .ref qA7, .ref qA8, .ref qA9, .ref qA10, .ref qA11, .ref qA12, .int 0, .int 0, .ref qA13, .ref qA14, .int 0])) : Option (Nat × va_E)) := hO0
      replace hF := q_us hF hu48 (.head _)
      replace hA2 := (hu48 _ n_A2_O0).trans (hA2)
      replace hA3 := (hu48 _ n_A3_O0).trans (hA3)
      exact q_retv C0 V (Or.inr (Or.inr (⟨hF, hO0, hA2, hA3⟩))) d_19_15_21
theorem d_19_20_0 : decode prog_19_method_20_code 0 = .ok (.aload_n 0, 1) := by decide +kernel
theorem d_19_20_1 : decode prog_19_method_20_code 1 = .ok (.iload_n 1, 1) := by decide +kernel
theorem d_19_20_2 : decode prog_19_method_20_code 2 = .ok (.invokestatic 91, 3) := by decide +kernel
theorem d_19_20_5 : decode prog_19_method_20_code 5 = .ok (.ifCond .eq 7, 3) := by decide +kernel
theorem d_19_20_12 : decode prog_19_method_20_code 12 = .ok (.iconst 0, 1) := by decide +kernel
theorem d_19_20_13 : decode prog_19_method_20_code 13 = .ok (.putfield 53, 3) := by decide +kernel
theorem d_19_20_16 : decode prog_19_method_20_code 16 = .ok (.aload_n 0, 1) := by decide +kernel
theorem d_19_20_17 : decode prog_19_method_20_code 17 = .ok (.getfield 53, 3) := by decide +kernel
theorem d_19_20_20 : decode prog_19_method_20_code 20 = .ok (.ifCond .le 4, 3) := by decide +kernel
theorem d_19_20_24 : decode prog_19_method_20_code 24 = .ok (.aload_n 0, 1) := by decide +kernel
theorem d_19_20_25 : decode prog_19_method_20_code 25 = .ok (.getfield 20, 3) := by decide +kernel
theorem d_19_20_28 : decode prog_19_method_20_code 28 = .ok (.invokestatic 63, 3) := by decide +kernel
theorem d_19_20_31 : decode prog_19_method_20_code 31 = .ok (.aload_n 0, 1) := by decide +kernel
theorem d_19_20_32 : decode prog_19_method_20_code 32 = .ok (.lload_n 2, 1) := by decide +kernel
theorem d_19_20_33 : decode prog_19_method_20_code 33 = .ok (.lconst 0, 1) := by decide +kernel
theorem d_19_20_34 : decode prog_19_method_20_code 34 = .ok (.lcmp, 1) := by decide +kernel
theorem d_19_20_35 : decode prog_19_method_20_code 35 = .ok (.ifCond .ge 7, 3) := by decide +kernel
theorem d_19_20_42 : decode prog_19_method_20_code 42 = .ok (.iconst 0, 1) := by decide +kernel
theorem d_19_20_43 : decode prog_19_method_20_code 43 = .ok (.putfield 82, 3) := by decide +kernel
theorem d_19_20_46 : decode prog_19_method_20_code 46 = .ok (.aload_n 0, 1) := by decide +kernel
theorem d_19_20_47 : decode prog_19_method_20_code 47 = .ok (.getfield 82, 3) := by decide +kernel
theorem d_19_20_50 : decode prog_19_method_20_code 50 = .ok (.ifCond .eq 8, 3) := by decide +kernel
theorem d_19_20_58 : decode prog_19_method_20_code 58 = .ok (.lload_n 2, 1) := by decide +kernel
theorem d_19_20_59 : decode prog_19_method_20_code 59 = .ok (.lstore 4, 2) := by decide +kernel
theorem d_19_20_61 : decode prog_19_method_20_code 61 = .ok (.iconst 0, 1) := by decide +kernel
theorem d_19_20_62 : decode prog_19_method_20_code 62 = .ok (.istore 6, 2) := by decide +kernel
theorem d_19_20_64 : decode prog_19_method_20_code 64 = .ok (.iload 6, 2) := by decide +kernel
theorem d_19_20_66 : decode prog_19_method_20_code 66 = .ok (.iconst 4, 1) := by decide +kernel
theorem d_19_20_67 : decode prog_19_method_20_code 67 = .ok (.if_icmp .ge 29, 3) := by decide +kernel
theorem d_19_20_70 : decode prog_19_method_20_code 70 = .ok (.aload_n 0, 1) := by decide +kernel
theorem d_19_20_71 : decode prog_19_method_20_code 71 = .ok (.getfield 20, 3) := by decide +kernel
theorem d_19_20_74 : decode prog_19_method_20_code 74 = .ok (.iload 6, 2) := by decide +kernel
theorem d_19_20_76 : decode prog_19_method_20_code 76 = .ok (.lload 4, 2) := by decide +kernel
theorem d_19_20_78 : decode prog_19_method_20_code 78 = .ok (.bipush 16, 2) := by decide +kernel
theorem d_19_20_80 : decode prog_19_method_20_code 80 = .ok (.iload 6, 2) := by decide +kernel
theorem d_19_20_82 : decode prog_19_method_20_code 82 = .ok (.imul, 1) := by decide +kernel
theorem d_19_20_83 : decode prog_19_method_20_code 83 = .ok (.lushr, 1) := by decide +kernel
theorem d_19_20_84 : decode prog_19_method_20_code 84 = .ok (.ldc2_w 57, 3) := by decide +kernel
theorem d_19_20_87 : decode prog_19_method_20_code 87 = .ok (.land, 1) := by decide +kernel
theorem d_19_20_88 : decode prog_19_method_20_code 88 = .ok (.l2i, 1) := by decide +kernel
theorem d_19_20_89 : decode prog_19_method_20_code 89 = .ok (.iastore, 1) := by decide +kernel
theorem d_19_20_90 : decode prog_19_method_20_code 90 = .ok (.iinc 6 1, 3) := by decide +kernel
theorem d_19_20_93 : decode prog_19_method_20_code 93 = .ok (.goto (-29), 3) := by decide +kernel
theorem d_19_20_96 : decode prog_19_method_20_code 96 = .ok (.aload_n 0, 1) := by decide +kernel
theorem d_19_20_97 : decode prog_19_method_20_code 97 = .ok (.iload_n 1, 1) := by decide +kernel
theorem d_19_20_98 : decode prog_19_method_20_code 98 = .ok (.invokevirtual 103, 3) := by decide +kernel
theorem d_19_20_101 : decode prog_19_method_20_code 101 = .ok (.return_, 1) := by decide +kernel
theorem d_19_20_38 : decode prog_19_method_20_code 38 = .ok (.iconst 1, 1) := by decide +kernel
theorem d_19_20_39 : decode prog_19_method_20_code 39 = .ok (.goto 4, 3) := by decide +kernel
theorem d_19_20_53 : decode prog_19_method_20_code 53 = .ok (.lload_n 2, 1) := by decide +kernel
theorem d_19_20_54 : decode prog_19_method_20_code 54 = .ok (.lneg, 1) := by decide +kernel
theorem d_19_20_55 : decode prog_19_method_20_code 55 = .ok (.goto 4, 3) := by decide +kernel
def y_WR_put : MethodName := ⟨"NumberHouseModel$WholeRows", "put", "(IJ)V"⟩
set_option maxRecDepth 100000 in
set_option maxHeartbeats 4000000 in
theorem c_WR_put (l : Launch) (D : va_G) (g : Nat → ClassId) (ws : va_W) (kO0 kA2 kA3 kA4 qO0 qA1 qA2 qA3 qA4 qA5 qA6 qA7 qA8 qA9 qA10 qA11 qA12 qA13 qA14 : Nat) (x1 : Int32) (x2 : Int64) (hO0 : ws[kO0]? = (some (qO0, .inr (13, [.int 0, .int 0, .ref qA1, .int 0, .ref qA2, .ref qA3, .ref qA4, .int 0, .ref qA5, .ref qA6, .ref qA7, .ref qA8, .ref qA9, .ref qA10, .ref qA11, .ref qA12, .int 0, .int 0, .ref qA13, .ref qA14, .int 0])) : Option (Nat × va_E))) (hA2 : ws[kA2]? = (some (qA2, .inl (g 0, 1408, .inl (fun _ => 0))) : Option (Nat × va_E))) (hA3 : ws[kA3]? = (some (qA3, .inl (g 3, 11, .inl (fun _ => 0))) : Option (Nat × va_E))) (hA4 : ws[kA4]? = (some (qA4, .inl (g 0, 264, .inl (fun _ => 0))) : Option (Nat × va_E))) (n_A2_A3 : kA2 ≠ kA3) (n_A2_A4 : kA2 ≠ kA4) (n_A3_A4 : kA3 ≠ kA4) (x1lo : 0 ≤ x1) (x1hi : x1 ≤ 9) : q_mV l y_WR_put prog_19_method_20_code 7 3 0 0 D g [.ref qO0, .int x1, .long x2] ws (fun u => (∃ (ex0 : Nat → Int32), 0 ≤ (lg_cmp x2 0) ∧ q_un ws u [kO0, kA2, kA3, kA4] ∧ u[kO0]? = (some (qO0, .inr (13, [.int 0, .int 0, .ref qA1, .int 0, .ref qA2, .ref qA3, .ref qA4, .int 0, .ref qA5, .ref qA6, .ref qA7, .ref qA8, .ref qA9, .ref qA10, .ref qA11, .ref qA12, .int 0, .int 0, .ref qA13, .ref qA14, .int 0])) : Option (Nat × va_E)) ∧ u[kA2]? = (some (qA2, .inl (g 0, 1408, .inl ex0)) : Option (Nat × va_E)) ∧ u[kA3]? = (some (qA3, .inl (g 3, 11, .inl (fun _ => 0))) : Option (Nat × va_E)) ∧ u[kA4]? = (some (qA4, .inl (g 0, 264, .inl (upd (upd (upd (upd (fun _ => 0) 0 ((((x2.toUInt64 >>> ((0 : Int32).toInt64.toUInt64 &&& Int64.toUInt64 63)).toInt64) &&& 65535).toInt32)) 1 ((((x2.toUInt64 >>> ((16 : Int32).toInt64.toUInt64 &&& Int64.toUInt64 63)).toInt64) &&& 65535).toInt32)) 2 ((((x2.toUInt64 >>> ((32 : Int32).toInt64.toUInt64 &&& Int64.toUInt64 63)).toInt64) &&& 65535).toInt32)) 3 ((((x2.toUInt64 >>> ((48 : Int32).toInt64.toUInt64 &&& Int64.toUInt64 63)).toInt64) &&& 65535).toInt32)))) : Option (Nat × va_E))) ∨ (0 ≤ (lg_cmp x2 0) ∧ q_un ws u [kO0, kA2, kA3, kA4] ∧ u[kO0]? = (some (qO0, .inr (13, [.int 0, .int 0, .ref qA1, .int 0, .ref qA2, .ref qA3, .ref qA4, .int 0, .ref qA5, .ref qA6, .ref qA7, .ref qA8, .ref qA9, .ref qA10, .ref qA11, .ref qA12, .int 0, .int 0, .ref qA13, .ref qA14, .int 0])) : Option (Nat × va_E)) ∧ u[kA2]? = (some (qA2, .inl (g 0, 1408, .inl (fun _ => 0))) : Option (Nat × va_E)) ∧ u[kA3]? = (some (qA3, .inl (g 3, 11, .inl (fun _ => 0))) : Option (Nat × va_E)) ∧ u[kA4]? = (some (qA4, .inl (g 0, 264, .inl (upd (upd (upd (upd (fun _ => 0) 0 ((((x2.toUInt64 >>> ((0 : Int32).toInt64.toUInt64 &&& Int64.toUInt64 63)).toInt64) &&& 65535).toInt32)) 1 ((((x2.toUInt64 >>> ((16 : Int32).toInt64.toUInt64 &&& Int64.toUInt64 63)).toInt64) &&& 65535).toInt32)) 2 ((((x2.toUInt64 >>> ((32 : Int32).toInt64.toUInt64 &&& Int64.toUInt64 63)).toInt64) &&& 65535).toInt32)) 3 ((((x2.toUInt64 >>> ((48 : Int32).toInt64.toUInt64 &&& Int64.toUInt64 63)).toInt64) &&& 65535).toInt32)))) : Option (Nat × va_E))) ∨ (∃ (ex0 : Nat → Int32), ¬ 0 ≤ (lg_cmp x2 0) ∧ q_un ws u [kO0, kA2, kA3, kA4] ∧ u[kO0]? = (some (qO0, .inr (13, [.int 0, .int 0, .ref qA1, .int 0, .ref qA2, .ref qA3, .ref qA4, .int 1, .ref qA5, .ref qA6, .ref qA7, .ref qA8, .ref qA9, .ref qA10, .ref qA11, .ref qA12, .int 0, .int 0, .ref qA13, .ref qA14, .int 0])) : Option (Nat × va_E)) ∧ u[kA2]? = (some (qA2, .inl (g 0, 1408, .inl ex0)) : Option (Nat × va_E)) ∧ u[kA3]? = (some (qA3, .inl (g 3, 11, .inl (fun _ => 0))) : Option (Nat × va_E)) ∧ u[kA4]? = (some (qA4, .inl (g 0, 264, .inl (upd (upd (upd (upd (fun _ => 0) 0 (((((-x2).toUInt64 >>> ((0 : Int32).toInt64.toUInt64 &&& Int64.toUInt64 63)).toInt64) &&& 65535).toInt32)) 1 (((((-x2).toUInt64 >>> ((16 : Int32).toInt64.toUInt64 &&& Int64.toUInt64 63)).toInt64) &&& 65535).toInt32)) 2 (((((-x2).toUInt64 >>> ((32 : Int32).toInt64.toUInt64 &&& Int64.toUInt64 63)).toInt64) &&& 65535).toInt32)) 3 (((((-x2).toUInt64 >>> ((48 : Int32).toInt64.toUInt64 &&& Int64.toUInt64 63)).toInt64) &&& 65535).toInt32)))) : Option (Nat × va_E))) ∨ (∃ (ex0 : Nat → Int32), ¬ 0 ≤ (lg_cmp x2 0) ∧ q_un ws u [kO0, kA2, kA3, kA4] ∧ u[kO0]? = (some (qO0, .inr (13, [.int 0, .int 0, .ref qA1, .int 0, .ref qA2, .ref qA3, .ref qA4, .int 1, .ref qA5, .ref qA6, .ref qA7, .ref qA8, .ref qA9, .ref qA10, .ref qA11, .ref qA12, .int 0, .int 0, .ref qA13, .ref qA14, .int 0])) : Option (Nat × va_E)) ∧ u[kA2]? = (some (qA2, .inl (g 0, 1408, .inl ex0)) : Option (Nat × va_E)) ∧ u[kA3]? = (some (qA3, .inl (g 3, 11, .inl (upd (fun _ => 0) x1.toNatClampNeg (vp_nar .boolean 1)))) : Option (Nat × va_E)) ∧ u[kA4]? = (some (qA4, .inl (g 0, 264, .inl (upd (upd (upd (upd (fun _ => 0) 0 (((((-x2).toUInt64 >>> ((0 : Int32).toInt64.toUInt64 &&& Int64.toUInt64 63)).toInt64) &&& 65535).toInt32)) 1 (((((-x2).toUInt64 >>> ((16 : Int32).toInt64.toUInt64 &&& Int64.toUInt64 63)).toInt64) &&& 65535).toInt32)) 2 (((((-x2).toUInt64 >>> ((32 : Int32).toInt64.toUInt64 &&& Int64.toUInt64 63)).toInt64) &&& 65535).toInt32)) 3 (((((-x2).toUInt64 >>> ((48 : Int32).toInt64.toUInt64 &&& Int64.toUInt64 63)).toInt64) &&& 65535).toInt32)))) : Option (Nat × va_E))) ∨ (¬ 0 ≤ (lg_cmp x2 0) ∧ q_un ws u [kO0, kA2, kA3, kA4] ∧ u[kO0]? = (some (qO0, .inr (13, [.int 0, .int 0, .ref qA1, .int 0, .ref qA2, .ref qA3, .ref qA4, .int 1, .ref qA5, .ref qA6, .ref qA7, .ref qA8, .ref qA9, .ref qA10, .ref qA11, .ref qA12, .int 0, .int 0, .ref qA13, .ref qA14, .int 0])) : Option (Nat × va_E)) ∧ u[kA2]? = (some (qA2, .inl (g 0, 1408, .inl (fun _ => 0))) : Option (Nat × va_E)) ∧ u[kA3]? = (some (qA3, .inl (g 3, 11, .inl (fun _ => 0))) : Option (Nat × va_E)) ∧ u[kA4]? = (some (qA4, .inl (g 0, 264, .inl (upd (upd (upd (upd (fun _ => 0) 0 (((((-x2).toUInt64 >>> ((0 : Int32).toInt64.toUInt64 &&& Int64.toUInt64 63)).toInt64) &&& 65535).toInt32)) 1 (((((-x2).toUInt64 >>> ((16 : Int32).toInt64.toUInt64 &&& Int64.toUInt64 63)).toInt64) &&& 65535).toInt32)) 2 (((((-x2).toUInt64 >>> ((32 : Int32).toInt64.toUInt64 &&& Int64.toUInt64 63)).toInt64) &&& 65535).toInt32)) 3 (((((-x2).toUInt64 >>> ((48 : Int32).toInt64.toUInt64 &&& Int64.toUInt64 63)).toInt64) &&& 65535).toInt32)))) : Option (Nat × va_E)))) := by
  intro sz
  refine q_into (by decide) (Nat.le_of_ble_eq_true rfl) ?_
  intro p e s m below meth c ls hsz C0 V hl
  have hx := C0.1
  have hb := C0.2.1
  have hl : lv_has ls 7 [(0, .ref qO0), (1, .int x1), (2, .long x2)] := hl
  have n_A2_O0 := q_df hA2 hO0
  have n_A3_O0 := q_df hA3 hO0
  have n_A4_A2 := Ne.symm n_A2_A4
  have n_A4_A3 := Ne.symm n_A3_A4
  have n_A4_O0 := q_df hA4 hO0
  have n_O0_A4 := Ne.symm (q_df hA4 hO0)
  have hF : q_un ws ws [kO0, kA2, kA3, kA4] := q_u0
  refine lv_aload_n hx hb d_19_20_0 rfl (lv_at hl 0 rfl) ?_
  refine lv_iload_n hx hb d_19_20_1 rfl (lv_at hl 1 rfl) ?_
  refine q_goi V (q_runS (As := [.int x1]) (rest := [.ref qO0]) (d := 1) (mc := 0) (ms := 0) C0 V rfl LS_WR_91 (c_WR_no l D g ws x1 x1lo x1hi _) rfl hl.1 rfl (Nat.le_of_ble_eq_true rfl) ⟨by decide, by decide⟩ ⟨Nat.le_of_ble_eq_true rfl, Nat.le_of_ble_eq_true rfl⟩ d_19_20_2) (fun v3 u2 H locs hp1 V => ?_)
  obtain ⟨rfl, rfl⟩ := hp1
  refine lv_if_eq (tgt := 12) hx hb d_19_20_5 (by decide) (fun c5 => ?_) (fun c5 => absurd (by decide) c5)
  refine lv_iconst (v := 0) hx hb d_19_20_12 (by decide) ?_
  refine q_put (ci := 13) (j := 0) (v := .int 0) (ty := .int) C0 V i_WR o_WR n_WR rfl rfl hO0 (by decide) w_1921 rfl rfl rfl rfl (Nat.le_of_ble_eq_true rfl) d_19_20_13 (fun H locs w6 hu7 hO0 V => ?_)
  replace hO0 : w6[kO0]? = (some (qO0, .inr (13, [.int 0, .int 0, .ref qA1, .int 0, .ref qA2, .ref qA3, .ref qA4, .int 0, .ref qA5, .ref qA6, .ref qA7, .ref qA8, .ref qA9, .ref qA10, .ref qA11, .ref qA12, .int 0, .int 0, .ref qA13, .ref qA14, .int 0])) : Option (Nat × va_E)) := hO0
  replace hF := q_us hF hu7 (.head _)
  refine lv_aload_n hx hb d_19_20_16 rfl (lv_at hl 0 rfl) ?_
  refine q_get (ci := 13) (j := 0) (v := .int 0) C0 V i_WR rfl rfl hO0 (by decide) w_1921 rfl d_19_20_17 ?_
  refine lv_if_le (tgt := 24) hx hb d_19_20_20 (by decide) (fun c8 => ?_) (fun c8 => absurd (by decide) c8)
  refine lv_aload_n hx hb d_19_20_24 rfl (lv_at hl 0 rfl) ?_
  refine q_get (ci := 13) (j := 6) (v := .ref qA4) C0 V i_WR rfl rfl hO0 (by decide) w_1930 rfl d_19_20_25 ?_
  replace hA4 := (hu7 _ n_A4_O0).trans (hA4)
  refine q_gov V (q_runS (As := [.ref qA4]) (rest := []) (d := 1) (mc := 0) (ms := 0) C0 V rfl LS_WR_63 (c_WR_clear_2 l D g w6 kA4 qA4 hA4 _) rfl hl.1 rfl (Nat.le_of_ble_eq_true rfl) ⟨by decide, by decide⟩ ⟨Nat.le_of_ble_eq_true rfl, Nat.le_of_ble_eq_true rfl⟩ d_19_20_28) (fun u10 H locs hp9 V => ?_)
  obtain ⟨hg11, hA4⟩ := hp9
  replace hF := q_uc hF hg11 (q_sc (List.mem_of_getElem? (i := 3) rfl) (fun _ h => absurd h List.not_mem_nil))
  refine lv_aload_n hx hb d_19_20_31 rfl (lv_at hl 0 rfl) ?_
  refine lv_lload_n hx hb d_19_20_32 rfl (lv_at hl 2 rfl) ?_
  refine lv_lconst (v := 0) hx hb d_19_20_33 (by decide) ?_
  refine W.lcmp hx hb d_19_20_34 ?_
  refine lv_if_ge (tgt := 42) hx hb d_19_20_35 (by decide) (fun c12 => ?_) (fun c12 => ?_)
  ·
    refine lv_iconst (v := 0) hx hb d_19_20_42 (by decide) ?_
    replace hO0 := (hg11 _ (q_nc n_O0_A4 List.not_mem_nil)).trans (hO0)
    refine q_put (ci := 13) (j := 7) (v := .int 0) (ty := .boolean) C0 V i_WR o_WR n_WR rfl rfl hO0 (by decide) w_1931 rfl rfl rfl rfl (Nat.le_of_ble_eq_true rfl) d_19_20_43 (fun H locs w13 hu14 hO0 V => ?_)
    replace hO0 : w13[kO0]? = (some (qO0, .inr (13, [.int 0, .int 0, .ref qA1, .int 0, .ref qA2, .ref qA3, .ref qA4, .int 0, .ref qA5, .ref qA6, .ref qA7, .ref qA8, .ref qA9, .ref qA10, .ref qA11, .ref qA12, .int 0, .int 0, .ref qA13, .ref qA14, .int 0])) : Option (Nat × va_E)) := hO0
    replace hF := q_us hF hu14 (.head _)
    refine lv_aload_n hx hb d_19_20_46 rfl (lv_at hl 0 rfl) ?_
    refine q_get (ci := 13) (j := 7) (v := .int 0) C0 V i_WR rfl rfl hO0 (by decide) w_1931 rfl d_19_20_47 ?_
    refine lv_if_eq (tgt := 58) hx hb d_19_20_50 (by decide) (fun c15 => ?_) (fun c15 => absurd (by decide) c15)
    refine lv_lload_n hx hb d_19_20_58 rfl (lv_at hl 2 rfl) ?_
    refine lv_lstore (lv' := [(4, .long x2), (0, .ref qO0), (1, .int x1), (2, .long x2)]) hx hb d_19_20_59 hl (by decide) rfl (fun ls hl => ?_)
    refine lv_iconst (v := 0) hx hb d_19_20_61 (by decide) ?_
    refine lv_istore (lv' := [(6, .int 0), (4, .long x2), (0, .ref qO0), (1, .int x1), (2, .long x2)]) hx hb d_19_20_62 hl (by decide) rfl (fun ls hl => ?_)
    refine lv_iload hx hb d_19_20_64 (lv_at hl 0 rfl) ?_
    refine lv_iconst (v := 4) hx hb d_19_20_66 (by decide) ?_
    refine lv_icmp_ge (tgt := 96) hx hb d_19_20_67 (by decide) (fun c16 => absurd c16 (by decide)) (fun c16 => ?_)
    refine lv_aload_n hx hb d_19_20_70 rfl (lv_at hl 2 rfl) ?_
    refine q_get (ci := 13) (j := 6) (v := .ref qA4) C0 V i_WR rfl rfl hO0 (by decide) w_1930 rfl d_19_20_71 ?_
    refine lv_iload hx hb d_19_20_74 (lv_at hl 0 rfl) ?_
    refine lv_lload hx hb d_19_20_76 (lv_at hl 1 rfl) ?_
    refine lv_bipush (v := 16) hx hb d_19_20_78 (by decide) ?_
    refine lv_iload hx hb d_19_20_80 (lv_at hl 0 rfl) ?_
    refine lv_imul hx hb d_19_20_82 ?_
    refine q_ti (v := 0) (by decide) ?_
    refine lv_lushr hx hb d_19_20_83 rfl ?_
    refine q_ldc2 C0 rfl w_2384 d_19_20_84 ?_
    refine lv_land hx hb d_19_20_87 ?_
    refine lv_l2i hx hb d_19_20_88 rfl ?_
    replace hA4 := (hu14 _ n_A4_O0).trans (hA4)
    refine q_iast C0 V hA4 (by unfold vp_in; decide) d_19_20_89 (fun H locs w17 hu18 hA4 V => ?_)
    replace hA4 : w17[kA4]? = (some (qA4, .inl (g 0, 264, .inl (upd (fun _ => 0) 0 ((((x2.toUInt64 >>> ((0 : Int32).toInt64.toUInt64 &&& Int64.toUInt64 63)).toInt64) &&& 65535).toInt32)))) : Option (Nat × va_E)) := hA4
    replace hF := q_us hF hu18 (List.mem_of_getElem? (i := 3) rfl)
    refine lv_iinc (v := 1) (lv' := [(6, .int 1), (4, .long x2), (0, .ref qO0), (1, .int x1), (2, .long x2)]) hx hb d_19_20_90 hl (k := 0) rfl (by decide) (by decide) rfl (fun ls hl => ?_)
    refine lv_goto (tgt := 64) hx hb d_19_20_93 (by decide) ?_
    refine lv_iload hx hb d_19_20_64 (lv_at hl 0 rfl) ?_
    refine lv_iconst (v := 4) hx hb d_19_20_66 (by decide) ?_
    refine lv_icmp_ge (tgt := 96) hx hb d_19_20_67 (by decide) (fun c19 => absurd c19 (by decide)) (fun c19 => ?_)
    refine lv_aload_n hx hb d_19_20_70 rfl (lv_at hl 2 rfl) ?_
    replace hO0 := (hu18 _ n_O0_A4).trans (hO0)
    refine q_get (ci := 13) (j := 6) (v := .ref qA4) C0 V i_WR rfl rfl hO0 (by decide) w_1930 rfl d_19_20_71 ?_
    refine lv_iload hx hb d_19_20_74 (lv_at hl 0 rfl) ?_
    refine lv_lload hx hb d_19_20_76 (lv_at hl 1 rfl) ?_
    refine lv_bipush (v := 16) hx hb d_19_20_78 (by decide) ?_
    refine lv_iload hx hb d_19_20_80 (lv_at hl 0 rfl) ?_
    refine lv_imul hx hb d_19_20_82 ?_
    refine q_ti (v := 16) (by decide) ?_
    refine lv_lushr hx hb d_19_20_83 rfl ?_
    refine q_ldc2 C0 rfl w_2384 d_19_20_84 ?_
    refine lv_land hx hb d_19_20_87 ?_
    refine lv_l2i hx hb d_19_20_88 rfl ?_
    refine q_iast C0 V hA4 (by unfold vp_in; decide) d_19_20_89 (fun H locs w20 hu21 hA4 V => ?_)
    replace hA4 : w20[kA4]? = (some (qA4, .inl (g 0, 264, .inl (upd (upd (fun _ => 0) 0 ((((x2.toUInt64 >>> ((0 : Int32).toInt64.toUInt64 &&& Int64.toUInt64 63)).toInt64) &&& 65535).toInt32)) 1 ((((x2.toUInt64 >>> ((16 : Int32).toInt64.toUInt64 &&& Int64.toUInt64 63)).toInt64) &&& 65535).toInt32)))) : Option (Nat × va_E)) := hA4
    replace hF := q_us hF hu21 (List.mem_of_getElem? (i := 3) rfl)
    refine lv_iinc (v := 2) (lv' := [(6, .int 2), (4, .long x2), (0, .ref qO0), (1, .int x1), (2, .long x2)]) hx hb d_19_20_90 hl (k := 0) rfl (by decide) (by decide) rfl (fun ls hl => ?_)
    refine lv_goto (tgt := 64) hx hb d_19_20_93 (by decide) ?_
    refine lv_iload hx hb d_19_20_64 (lv_at hl 0 rfl) ?_
    refine lv_iconst (v := 4) hx hb d_19_20_66 (by decide) ?_
    refine lv_icmp_ge (tgt := 96) hx hb d_19_20_67 (by decide) (fun c22 => absurd c22 (by decide)) (fun c22 => ?_)
    refine lv_aload_n hx hb d_19_20_70 rfl (lv_at hl 2 rfl) ?_
    replace hO0 := (hu21 _ n_O0_A4).trans (hO0)
    refine q_get (ci := 13) (j := 6) (v := .ref qA4) C0 V i_WR rfl rfl hO0 (by decide) w_1930 rfl d_19_20_71 ?_
    refine lv_iload hx hb d_19_20_74 (lv_at hl 0 rfl) ?_
    refine lv_lload hx hb d_19_20_76 (lv_at hl 1 rfl) ?_
    refine lv_bipush (v := 16) hx hb d_19_20_78 (by decide) ?_
    refine lv_iload hx hb d_19_20_80 (lv_at hl 0 rfl) ?_
    refine lv_imul hx hb d_19_20_82 ?_
    refine q_ti (v := 32) (by decide) ?_
    refine lv_lushr hx hb d_19_20_83 rfl ?_
    refine q_ldc2 C0 rfl w_2384 d_19_20_84 ?_
    refine lv_land hx hb d_19_20_87 ?_
    refine lv_l2i hx hb d_19_20_88 rfl ?_
    refine q_iast C0 V hA4 (by unfold vp_in; decide) d_19_20_89 (fun H locs w23 hu24 hA4 V => ?_)
    replace hA4 : w23[kA4]? = (some (qA4, .inl (g 0, 264, .inl (upd (upd (upd (fun _ => 0) 0 ((((x2.toUInt64 >>> ((0 : Int32).toInt64.toUInt64 &&& Int64.toUInt64 63)).toInt64) &&& 65535).toInt32)) 1 ((((x2.toUInt64 >>> ((16 : Int32).toInt64.toUInt64 &&& Int64.toUInt64 63)).toInt64) &&& 65535).toInt32)) 2 ((((x2.toUInt64 >>> ((32 : Int32).toInt64.toUInt64 &&& Int64.toUInt64 63)).toInt64) &&& 65535).toInt32)))) : Option (Nat × va_E)) := hA4
    replace hF := q_us hF hu24 (List.mem_of_getElem? (i := 3) rfl)
    refine lv_iinc (v := 3) (lv' := [(6, .int 3), (4, .long x2), (0, .ref qO0), (1, .int x1), (2, .long x2)]) hx hb d_19_20_90 hl (k := 0) rfl (by decide) (by decide) rfl (fun ls hl => ?_)
    refine lv_goto (tgt := 64) hx hb d_19_20_93 (by decide) ?_
    refine lv_iload hx hb d_19_20_64 (lv_at hl 0 rfl) ?_
    refine lv_iconst (v := 4) hx hb d_19_20_66 (by decide) ?_
    refine lv_icmp_ge (tgt := 96) hx hb d_19_20_67 (by decide) (fun c25 => absurd c25 (by decide)) (fun c25 => ?_)
    refine lv_aload_n hx hb d_19_20_70 rfl (lv_at hl 2 rfl) ?_
    replace hO0 := (hu24 _ n_O0_A4).trans (hO0)
    refine q_get (ci := 13) (j := 6) (v := .ref qA4) C0 V i_WR rfl rfl hO0 (by decide) w_1930 rfl d_19_20_71 ?_
    refine lv_iload hx hb d_19_20_74 (lv_at hl 0 rfl) ?_
    refine lv_lload hx hb d_19_20_76 (lv_at hl 1 rfl) ?_
    refine lv_bipush (v := 16) hx hb d_19_20_78 (by decide) ?_
    refine lv_iload hx hb d_19_20_80 (lv_at hl 0 rfl) ?_
    refine lv_imul hx hb d_19_20_82 ?_
    refine q_ti (v := 48) (by decide) ?_
    refine lv_lushr hx hb d_19_20_83 rfl ?_
    refine q_ldc2 C0 rfl w_2384 d_19_20_84 ?_
    refine lv_land hx hb d_19_20_87 ?_
    refine lv_l2i hx hb d_19_20_88 rfl ?_
    refine q_iast C0 V hA4 (by unfold vp_in; decide) d_19_20_89 (fun H locs w26 hu27 hA4 V => ?_)
    replace hA4 : w26[kA4]? = (some (qA4, .inl (g 0, 264, .inl (upd (upd (upd (upd (fun _ => 0) 0 ((((x2.toUInt64 >>> ((0 : Int32).toInt64.toUInt64 &&& Int64.toUInt64 63)).toInt64) &&& 65535).toInt32)) 1 ((((x2.toUInt64 >>> ((16 : Int32).toInt64.toUInt64 &&& Int64.toUInt64 63)).toInt64) &&& 65535).toInt32)) 2 ((((x2.toUInt64 >>> ((32 : Int32).toInt64.toUInt64 &&& Int64.toUInt64 63)).toInt64) &&& 65535).toInt32)) 3 ((((x2.toUInt64 >>> ((48 : Int32).toInt64.toUInt64 &&& Int64.toUInt64 63)).toInt64) &&& 65535).toInt32)))) : Option (Nat × va_E)) := hA4
    replace hF := q_us hF hu27 (List.mem_of_getElem? (i := 3) rfl)
    refine lv_iinc (v := 4) (lv' := [(6, .int 4), (4, .long x2), (0, .ref qO0), (1, .int x1), (2, .long x2)]) hx hb d_19_20_90 hl (k := 0) rfl (by decide) (by decide) rfl (fun ls hl => ?_)
    refine lv_goto (tgt := 64) hx hb d_19_20_93 (by decide) ?_
    refine lv_iload hx hb d_19_20_64 (lv_at hl 0 rfl) ?_
    refine lv_iconst (v := 4) hx hb d_19_20_66 (by decide) ?_
    refine lv_icmp_ge (tgt := 96) hx hb d_19_20_67 (by decide) (fun c28 => ?_) (fun c28 => absurd (by decide) c28)
    refine lv_aload_n hx hb d_19_20_96 rfl (lv_at hl 2 rfl) ?_
    refine lv_iload_n hx hb d_19_20_97 rfl (lv_at hl 3 rfl) ?_
    replace hO0 := (hu27 _ n_O0_A4).trans (hO0)
    replace hA2 := (hu27 _ n_A2_A4).trans ((hu24 _ n_A2_A4).trans ((hu21 _ n_A2_A4).trans ((hu18 _ n_A2_A4).trans ((hu14 _ n_A2_O0).trans ((hg11 _ (q_nc n_A2_A4 List.not_mem_nil)).trans ((hu7 _ n_A2_O0).trans (hA2)))))))
    replace hA3 := (hu27 _ n_A3_A4).trans ((hu24 _ n_A3_A4).trans ((hu21 _ n_A3_A4).trans ((hu18 _ n_A3_A4).trans ((hu14 _ n_A3_O0).trans ((hg11 _ (q_nc n_A3_A4 List.not_mem_nil)).trans ((hu7 _ n_A3_O0).trans (hA3)))))))
    refine q_gov V (q_runV (As := [.int x1]) (rest := []) (d := 2) (mc := 0) (ms := 0) (ci := 13) C0 V rfl LV_WR_103 (c_WR_store_5 l D g w26 kO0 kA2 kA3 kA4 qO0 qA1 qA2 qA3 qA4 qA5 qA6 qA7 qA8 qA9 qA10 qA11 qA12 qA13 qA14 x1 ((((x2.toUInt64 >>> ((0 : Int32).toInt64.toUInt64 &&& Int64.toUInt64 63)).toInt64) &&& 65535).toInt32) ((((x2.toUInt64 >>> ((16 : Int32).toInt64.toUInt64 &&& Int64.toUInt64 63)).toInt64) &&& 65535).toInt32) ((((x2.toUInt64 >>> ((32 : Int32).toInt64.toUInt64 &&& Int64.toUInt64 63)).toInt64) &&& 65535).toInt32) ((((x2.toUInt64 >>> ((48 : Int32).toInt64.toUInt64 &&& Int64.toUInt64 63)).toInt64) &&& 65535).toInt32) hO0 hA2 hA3 hA4 n_A2_A3 n_A4_A2 n_A4_A3 x1lo x1hi _) rfl rfl hO0 rfl hl.1 rfl (Nat.le_of_ble_eq_true rfl) ⟨by decide, by decide⟩ ⟨Nat.le_of_ble_eq_true rfl, Nat.le_of_ble_eq_true rfl⟩ d_19_20_98) (fun u30 H locs hp29 V => ?_)
    rcases hp29 with ⟨y31, hg32, hO0, hA2, hA3⟩ | ⟨hg33, hO0, hA2, hA3⟩
    ·
      replace hF := q_uc hF hg32 (q_sc (.head _) (q_sc (.tail _ (.head _)) (q_sc (.tail _ (.tail _ (.head _))) (fun _ h => absurd h List.not_mem_nil))))
      replace hA4 := (hg32 _ (q_nc n_A4_O0 (q_nc n_A4_A2 (q_nc n_A4_A3 List.not_mem_nil)))).trans (hA4)
      exact q_retv C0 V (Or.inl ⟨y31, c12, hF, hO0, hA2, hA3, hA4⟩) d_19_20_101
    ·
      replace hF := q_uc hF hg33 (q_sc (.head _) (q_sc (.tail _ (.head _)) (q_sc (.tail _ (.tail _ (.head _))) (fun _ h => absurd h List.not_mem_nil))))
      replace hA4 := (hg33 _ (q_nc n_A4_O0 (q_nc n_A4_A2 (q_nc n_A4_A3 List.not_mem_nil)))).trans (hA4)
      exact q_retv C0 V (Or.inr (Or.inl ⟨c12, hF, hO0, hA2, hA3, hA4⟩)) d_19_20_101
  ·
    refine lv_iconst (v := 1) hx hb d_19_20_38 (by decide) ?_
    refine lv_goto (tgt := 43) hx hb d_19_20_39 (by decide) ?_
    replace hO0 := (hg11 _ (q_nc n_O0_A4 List.not_mem_nil)).trans (hO0)
    refine q_put (ci := 13) (j := 7) (v := .int 1) (ty := .boolean) C0 V i_WR o_WR n_WR rfl rfl hO0 (by decide) w_1931 rfl rfl rfl rfl (Nat.le_of_ble_eq_true rfl) d_19_20_43 (fun H locs w34 hu35 hO0 V => ?_)
    replace hO0 : w34[kO0]? = (some (qO0, .inr (13, [.int 0, .int 0, .ref qA1, .int 0, .ref qA2, .ref qA3, .ref qA4, .int 1, .ref qA5, .ref qA6, .ref qA7, .ref qA8, .ref qA9, .ref qA10, .ref qA11, .ref qA12, .int 0, .int 0, .ref qA13, .ref qA14, .int 0])) : Option (Nat × va_E)) := hO0
    replace hF := q_us hF hu35 (.head _)
    refine lv_aload_n hx hb d_19_20_46 rfl (lv_at hl 0 rfl) ?_
    refine q_get (ci := 13) (j := 7) (v := .int 1) C0 V i_WR rfl rfl hO0 (by decide) w_1931 rfl d_19_20_47 ?_
    refine lv_if_eq (tgt := 58) hx hb d_19_20_50 (by decide) (fun c36 => absurd c36 (by decide)) (fun c36 => ?_)
    refine lv_lload_n hx hb d_19_20_53 rfl (lv_at hl 2 rfl) ?_
    refine lv_lneg hx hb d_19_20_54 ?_
    refine lv_goto (tgt := 59) hx hb d_19_20_55 (by decide) ?_
    refine lv_lstore (lv' := [(4, .long (-x2)), (0, .ref qO0), (1, .int x1), (2, .long x2)]) hx hb d_19_20_59 hl (by decide) rfl (fun ls hl => ?_)
    refine lv_iconst (v := 0) hx hb d_19_20_61 (by decide) ?_
    refine lv_istore (lv' := [(6, .int 0), (4, .long (-x2)), (0, .ref qO0), (1, .int x1), (2, .long x2)]) hx hb d_19_20_62 hl (by decide) rfl (fun ls hl => ?_)
    refine lv_iload hx hb d_19_20_64 (lv_at hl 0 rfl) ?_
    refine lv_iconst (v := 4) hx hb d_19_20_66 (by decide) ?_
    refine lv_icmp_ge (tgt := 96) hx hb d_19_20_67 (by decide) (fun c37 => absurd c37 (by decide)) (fun c37 => ?_)
    refine lv_aload_n hx hb d_19_20_70 rfl (lv_at hl 2 rfl) ?_
    refine q_get (ci := 13) (j := 6) (v := .ref qA4) C0 V i_WR rfl rfl hO0 (by decide) w_1930 rfl d_19_20_71 ?_
    refine lv_iload hx hb d_19_20_74 (lv_at hl 0 rfl) ?_
    refine lv_lload hx hb d_19_20_76 (lv_at hl 1 rfl) ?_
    refine lv_bipush (v := 16) hx hb d_19_20_78 (by decide) ?_
    refine lv_iload hx hb d_19_20_80 (lv_at hl 0 rfl) ?_
    refine lv_imul hx hb d_19_20_82 ?_
    refine q_ti (v := 0) (by decide) ?_
    refine lv_lushr hx hb d_19_20_83 rfl ?_
    refine q_ldc2 C0 rfl w_2384 d_19_20_84 ?_
    refine lv_land hx hb d_19_20_87 ?_
    refine lv_l2i hx hb d_19_20_88 rfl ?_
    replace hA4 := (hu35 _ n_A4_O0).trans (hA4)
    refine q_iast C0 V hA4 (by unfold vp_in; decide) d_19_20_89 (fun H locs w38 hu39 hA4 V => ?_)
    replace hA4 : w38[kA4]? = (some (qA4, .inl (g 0, 264, .inl (upd (fun _ => 0) 0 (((((-x2).toUInt64 >>> ((0 : Int32).toInt64.toUInt64 &&& Int64.toUInt64 63)).toInt64) &&& 65535).toInt32)))) : Option (Nat × va_E)) := hA4
    replace hF := q_us hF hu39 (List.mem_of_getElem? (i := 3) rfl)
    refine lv_iinc (v := 1) (lv' := [(6, .int 1), (4, .long (-x2)), (0, .ref qO0), (1, .int x1), (2, .long x2)]) hx hb d_19_20_90 hl (k := 0) rfl (by decide) (by decide) rfl (fun ls hl => ?_)
    refine lv_goto (tgt := 64) hx hb d_19_20_93 (by decide) ?_
    refine lv_iload hx hb d_19_20_64 (lv_at hl 0 rfl) ?_
    refine lv_iconst (v := 4) hx hb d_19_20_66 (by decide) ?_
    refine lv_icmp_ge (tgt := 96) hx hb d_19_20_67 (by decide) (fun c40 => absurd c40 (by decide)) (fun c40 => ?_)
    refine lv_aload_n hx hb d_19_20_70 rfl (lv_at hl 2 rfl) ?_
    replace hO0 := (hu39 _ n_O0_A4).trans (hO0)
    refine q_get (ci := 13) (j := 6) (v := .ref qA4) C0 V i_WR rfl rfl hO0 (by decide) w_1930 rfl d_19_20_71 ?_
    refine lv_iload hx hb d_19_20_74 (lv_at hl 0 rfl) ?_
    refine lv_lload hx hb d_19_20_76 (lv_at hl 1 rfl) ?_
    refine lv_bipush (v := 16) hx hb d_19_20_78 (by decide) ?_
    refine lv_iload hx hb d_19_20_80 (lv_at hl 0 rfl) ?_
    refine lv_imul hx hb d_19_20_82 ?_
    refine q_ti (v := 16) (by decide) ?_
    refine lv_lushr hx hb d_19_20_83 rfl ?_
    refine q_ldc2 C0 rfl w_2384 d_19_20_84 ?_
    refine lv_land hx hb d_19_20_87 ?_
    refine lv_l2i hx hb d_19_20_88 rfl ?_
    refine q_iast C0 V hA4 (by unfold vp_in; decide) d_19_20_89 (fun H locs w41 hu42 hA4 V => ?_)
    replace hA4 : w41[kA4]? = (some (qA4, .inl (g 0, 264, .inl (upd (upd (fun _ => 0) 0 (((((-x2).toUInt64 >>> ((0 : Int32).toInt64.toUInt64 &&& Int64.toUInt64 63)).toInt64) &&& 65535).toInt32)) 1 (((((-x2).toUInt64 >>> ((16 : Int32).toInt64.toUInt64 &&& Int64.toUInt64 63)).toInt64) &&& 65535).toInt32)))) : Option (Nat × va_E)) := hA4
    replace hF := q_us hF hu42 (List.mem_of_getElem? (i := 3) rfl)
    refine lv_iinc (v := 2) (lv' := [(6, .int 2), (4, .long (-x2)), (0, .ref qO0), (1, .int x1), (2, .long x2)]) hx hb d_19_20_90 hl (k := 0) rfl (by decide) (by decide) rfl (fun ls hl => ?_)
    refine lv_goto (tgt := 64) hx hb d_19_20_93 (by decide) ?_
    refine lv_iload hx hb d_19_20_64 (lv_at hl 0 rfl) ?_
    refine lv_iconst (v := 4) hx hb d_19_20_66 (by decide) ?_
    refine lv_icmp_ge (tgt := 96) hx hb d_19_20_67 (by decide) (fun c43 => absurd c43 (by decide)) (fun c43 => ?_)
    refine lv_aload_n hx hb d_19_20_70 rfl (lv_at hl 2 rfl) ?_
    replace hO0 := (hu42 _ n_O0_A4).trans (hO0)
    refine q_get (ci := 13) (j := 6) (v := .ref qA4) C0 V i_WR rfl rfl hO0 (by decide) w_1930 rfl d_19_20_71 ?_
    refine lv_iload hx hb d_19_20_74 (lv_at hl 0 rfl) ?_
    refine lv_lload hx hb d_19_20_76 (lv_at hl 1 rfl) ?_
    refine lv_bipush (v := 16) hx hb d_19_20_78 (by decide) ?_
    refine lv_iload hx hb d_19_20_80 (lv_at hl 0 rfl) ?_
    refine lv_imul hx hb d_19_20_82 ?_
    refine q_ti (v := 32) (by decide) ?_
    refine lv_lushr hx hb d_19_20_83 rfl ?_
    refine q_ldc2 C0 rfl w_2384 d_19_20_84 ?_
    refine lv_land hx hb d_19_20_87 ?_
    refine lv_l2i hx hb d_19_20_88 rfl ?_
    refine q_iast C0 V hA4 (by unfold vp_in; decide) d_19_20_89 (fun H locs w44 hu45 hA4 V => ?_)
    replace hA4 : w44[kA4]? = (some (qA4, .inl (g 0, 264, .inl (upd (upd (upd (fun _ => 0) 0 (((((-x2).toUInt64 >>> ((0 : Int32).toInt64.toUInt64 &&& Int64.toUInt64 63)).toInt64) &&& 65535).toInt32)) 1 (((((-x2).toUInt64 >>> ((16 : Int32).toInt64.toUInt64 &&& Int64.toUInt64 63)).toInt64) &&& 65535).toInt32)) 2 (((((-x2).toUInt64 >>> ((32 : Int32).toInt64.toUInt64 &&& Int64.toUInt64 63)).toInt64) &&& 65535).toInt32)))) : Option (Nat × va_E)) := hA4
    replace hF := q_us hF hu45 (List.mem_of_getElem? (i := 3) rfl)
    refine lv_iinc (v := 3) (lv' := [(6, .int 3), (4, .long (-x2)), (0, .ref qO0), (1, .int x1), (2, .long x2)]) hx hb d_19_20_90 hl (k := 0) rfl (by decide) (by decide) rfl (fun ls hl => ?_)
    refine lv_goto (tgt := 64) hx hb d_19_20_93 (by decide) ?_
    refine lv_iload hx hb d_19_20_64 (lv_at hl 0 rfl) ?_
    refine lv_iconst (v := 4) hx hb d_19_20_66 (by decide) ?_
    refine lv_icmp_ge (tgt := 96) hx hb d_19_20_67 (by decide) (fun c46 => absurd c46 (by decide)) (fun c46 => ?_)
    refine lv_aload_n hx hb d_19_20_70 rfl (lv_at hl 2 rfl) ?_
    replace hO0 := (hu45 _ n_O0_A4).trans (hO0)
    refine q_get (ci := 13) (j := 6) (v := .ref qA4) C0 V i_WR rfl rfl hO0 (by decide) w_1930 rfl d_19_20_71 ?_
    refine lv_iload hx hb d_19_20_74 (lv_at hl 0 rfl) ?_
    refine lv_lload hx hb d_19_20_76 (lv_at hl 1 rfl) ?_
    refine lv_bipush (v := 16) hx hb d_19_20_78 (by decide) ?_
    refine lv_iload hx hb d_19_20_80 (lv_at hl 0 rfl) ?_
    refine lv_imul hx hb d_19_20_82 ?_
    refine q_ti (v := 48) (by decide) ?_
    refine lv_lushr hx hb d_19_20_83 rfl ?_
    refine q_ldc2 C0 rfl w_2384 d_19_20_84 ?_
    refine lv_land hx hb d_19_20_87 ?_
    refine lv_l2i hx hb d_19_20_88 rfl ?_
    refine q_iast C0 V hA4 (by unfold vp_in; decide) d_19_20_89 (fun H locs w47 hu48 hA4 V => ?_)
    replace hA4 : w47[kA4]? = (some (qA4, .inl (g 0, 264, .inl (upd (upd (upd (upd (fun _ => 0) 0 (((((-x2).toUInt64 >>> ((0 : Int32).toInt64.toUInt64 &&& Int64.toUInt64 63)).toInt64) &&& 65535).toInt32)) 1 (((((-x2).toUInt64 >>> ((16 : Int32).toInt64.toUInt64 &&& Int64.toUInt64 63)).toInt64) &&& 65535).toInt32)) 2 (((((-x2).toUInt64 >>> ((32 : Int32).toInt64.toUInt64 &&& Int64.toUInt64 63)).toInt64) &&& 65535).toInt32)) 3 (((((-x2).toUInt64 >>> ((48 : Int32).toInt64.toUInt64 &&& Int64.toUInt64 63)).toInt64) &&& 65535).toInt32)))) : Option (Nat × va_E)) := hA4
    replace hF := q_us hF hu48 (List.mem_of_getElem? (i := 3) rfl)
    refine lv_iinc (v := 4) (lv' := [(6, .int 4), (4, .long (-x2)), (0, .ref qO0), (1, .int x1), (2, .long x2)]) hx hb d_19_20_90 hl (k := 0) rfl (by decide) (by decide) rfl (fun ls hl => ?_)
    refine lv_goto (tgt := 64) hx hb d_19_20_93 (by decide) ?_
    refine lv_iload hx hb d_19_20_64 (lv_at hl 0 rfl) ?_
    refine lv_iconst (v := 4) hx hb d_19_20_66 (by decide) ?_
    refine lv_icmp_ge (tgt := 96) hx hb d_19_20_67 (by decide) (fun c49 => ?_) (fun c49 => absurd (by decide) c49)
    refine lv_aload_n hx hb d_19_20_96 rfl (lv_at hl 2 rfl) ?_
    refine lv_iload_n hx hb d_19_20_97 rfl (lv_at hl 3 rfl) ?_
    replace hO0 := (hu48 _ n_O0_A4).trans (hO0)
    replace hA2 := (hu48 _ n_A2_A4).trans ((hu45 _ n_A2_A4).trans ((hu42 _ n_A2_A4).trans ((hu39 _ n_A2_A4).trans ((hu35 _ n_A2_O0).trans ((hg11 _ (q_nc n_A2_A4 List.not_mem_nil)).trans ((hu7 _ n_A2_O0).trans (hA2)))))))
    replace hA3 := (hu48 _ n_A3_A4).trans ((hu45 _ n_A3_A4).trans ((hu42 _ n_A3_A4).trans ((hu39 _ n_A3_A4).trans ((hu35 _ n_A3_O0).trans ((hg11 _ (q_nc n_A3_A4 List.not_mem_nil)).trans ((hu7 _ n_A3_O0).trans (hA3)))))))
    refine q_gov V (q_runV (As := [.int x1]) (rest := []) (d := 2) (mc := 0) (ms := 0) (ci := 13) C0 V rfl LV_WR_103 (c_WR_store_6 l D g w47 kO0 kA2 kA3 kA4 qO0 qA1 qA2 qA3 qA4 qA5 qA6 qA7 qA8 qA9 qA10 qA11 qA12 qA13 qA14 x1 (((((-x2).toUInt64 >>> ((0 : Int32).toInt64.toUInt64 &&& Int64.toUInt64 63)).toInt64) &&& 65535).toInt32) (((((-x2).toUInt64 >>> ((16 : Int32).toInt64.toUInt64 &&& Int64.toUInt64 63)).toInt64) &&& 65535).toInt32) (((((-x2).toUInt64 >>> ((32 : Int32).toInt64.toUInt64 &&& Int64.toUInt64 63)).toInt64) &&& 65535).toInt32) (((((-x2).toUInt64 >>> ((48 : Int32).toInt64.toUInt64 &&& Int64.toUInt64 63)).toInt64) &&& 65535).toInt32) hO0 hA2 hA3 hA4 n_A2_A3 n_A4_A2 n_A4_A3 x1lo x1hi _) rfl rfl hO0 rfl hl.1 rfl (Nat.le_of_ble_eq_true rfl) ⟨by decide, by decide⟩ ⟨Nat.le_of_ble_eq_true rfl, Nat.le_of_ble_eq_true rfl⟩ d_19_20_98) (fun u51 H locs hp50 V => ?_)
    rcases hp50 with ⟨y52, hg53, hO0, hA2, hA3⟩ | ⟨y54, hg55, hO0, hA2, hA3⟩ | ⟨hg56, hO0, hA2, hA3⟩
    ·
      replace hF := q_uc hF hg53 (q_sc (.head _) (q_sc (.tail _ (.head _)) (q_sc (.tail _ (.tail _ (.head _))) (fun _ h => absurd h List.not_mem_nil))))
      replace hA4 := (hg53 _ (q_nc n_A4_O0 (q_nc n_A4_A2 (q_nc n_A4_A3 List.not_mem_nil)))).trans (hA4)
      exact q_retv C0 V (Or.inr (Or.inr (Or.inl ⟨y52, c12, hF, hO0, hA2, hA3, hA4⟩))) d_19_20_101
    ·
      replace hF := q_uc hF hg55 (q_sc (.head _) (q_sc (.tail _ (.head _)) (q_sc (.tail _ (.tail _ (.head _))) (fun _ h => absurd h List.not_mem_nil))))
      replace hA4 := (hg55 _ (q_nc n_A4_O0 (q_nc n_A4_A2 (q_nc n_A4_A3 List.not_mem_nil)))).trans (hA4)
      exact q_retv C0 V (Or.inr (Or.inr (Or.inr (Or.inl ⟨y54, c12, hF, hO0, hA2, hA3, hA4⟩)))) d_19_20_101
    ·
      replace hF := q_uc hF hg56 (q_sc (.head _) (q_sc (.tail _ (.head _)) (q_sc (.tail _ (.tail _ (.head _))) (fun _ h => absurd h List.not_mem_nil))))
      replace hA4 := (hg56 _ (q_nc n_A4_O0 (q_nc n_A4_A2 (q_nc n_A4_A3 List.not_mem_nil)))).trans (hA4)
      exact q_retv C0 V (Or.inr (Or.inr (Or.inr (Or.inr (⟨c12, hF, hO0, hA2, hA3, hA4⟩))))) d_19_20_101
