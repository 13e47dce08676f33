set_option maxRecDepth 100000 in
set_option maxHeartbeats 4000000 in
theorem c_NM_show_6 (l : Launch) (D : va_G) (g : Nat → ClassId) (ws : va_W) ( qO0 qA1 qA2 qA3 qO4 qO5 qO6 qO7 qO8 qA9 qA10 : Nat) (hO0 : ws[116]? = (some (qO0, .inr (12, [.int 0, .ref qA2, .int 0, .ref qA3, .int 0, .ref qO4, .ref qO5, .ref qO6, .ref qO7, .ref qO8, .ref qA9, .ref qA10])) : Option (Nat × va_E))) (hA1 : ws[152]? = (some (qA1, .inl (g 0, 1600, .inl (upd (fun _ => 0) 0 48))) : Option (Nat × va_E))) (hA3 : ws[118]? = (some (qA3, .inl (g 0, 12200, .inl (fun _ => 0))) : Option (Nat × va_E))) : q_mI l y_NM_show prog_14_method_5_code 4 (.int) 1 0 0 D g [.ref qO0, .ref qA1, .int 1] ws (fun r u => 1 = r ∧ q_un ws u [116, 118] ∧ u[116]? = (some (qO0, .inr (12, [.int 0, .ref qA2, .int 0, .ref qA3, .int 1, .ref qO4, .ref qO5, .ref qO6, .ref qO7, .ref qO8, .ref qA9, .ref qA10])) : Option (Nat × va_E)) ∧ u[118]? = (some (qA3, .inl (g 0, 12200, .inl (upd (fun _ => 0) 0 48))) : Option (Nat × va_E))) := by
  intro sz
  refine q_into (by decide) (Nat.le_of_ble_eq_true rfl) ?_
  intro p e s m below meth c ls hsz C0 V hl
  have hx := C0.1
  have hb := C0.2.1
  have hl : lv_has ls 4 [(0, .ref qO0), (1, .ref qA1), (2, .int 1)] := hl
  have hF : q_un ws ws [116, 118] := q_u0
  refine lv_iconst (v := 0) hx hb d_14_5_0 (by decide) ?_
  refine lv_istore_n (lv' := [(3, .int 0), (0, .ref qO0), (1, .ref qA1), (2, .int 1)]) hx hb d_14_5_1 rfl hl (by decide) rfl (fun ls hl => ?_)
  refine lv_iload_n hx hb d_14_5_2 rfl (lv_at hl 0 rfl) ?_
  refine lv_iload_n hx hb d_14_5_3 rfl (lv_at hl 3 rfl) ?_
  refine lv_icmp_ge (tgt := 22) hx hb d_14_5_4 (by decide) (fun c1 => absurd c1 (by decide)) (fun c1 => ?_)
  refine lv_aload_n hx hb d_14_5_7 rfl (lv_at hl 1 rfl) ?_
  refine q_get (ci := 12) (j := 3) (v := .ref qA3) C0 V i_NM rfl rfl hO0 (by decide) w_2301 rfl d_14_5_8 ?_
  refine lv_iload_n hx hb d_14_5_11 rfl (lv_at hl 0 rfl) ?_
  refine lv_aload_n hx hb d_14_5_12 rfl (lv_at hl 2 rfl) ?_
  refine lv_iload_n hx hb d_14_5_13 rfl (lv_at hl 0 rfl) ?_
  refine q_iald C0 V hA1 (by unfold vp_in; decide) d_14_5_14 ?_
  refine q_ti (v := 48) (by first | rfl | decide | simp [upd, vp_updL, sb_cl0]) ?_
  refine q_iast C0 V hA3 (by unfold vp_in; decide) d_14_5_15 (fun H locs w2 hu3 hA3 V => ?_)
  replace hA3 : w2[118]? = (some (qA3, .inl (g 0, 12200, .inl (upd (fun _ => 0) 0 48))) : Option (Nat × va_E)) := hA3
  replace hF := q_us hF hu3 (.tail _ (.head _))
  refine lv_iinc (v := 1) (lv' := [(3, .int 1), (0, .ref qO0), (1, .ref qA1), (2, .int 1)]) hx hb d_14_5_16 hl (k := 0) rfl (by decide) (by decide) rfl (fun ls hl => ?_)
  refine lv_goto (tgt := 2) hx hb d_14_5_19 (by decide) ?_
  refine lv_iload_n hx hb d_14_5_2 rfl (lv_at hl 0 rfl) ?_
  refine lv_iload_n hx hb d_14_5_3 rfl (lv_at hl 3 rfl) ?_
  refine lv_icmp_ge (tgt := 22) hx hb d_14_5_4 (by decide) (fun c4 => ?_) (fun c4 => absurd (by decide) c4)
  refine lv_aload_n hx hb d_14_5_22 rfl (lv_at hl 1 rfl) ?_
  refine lv_iload_n hx hb d_14_5_23 rfl (lv_at hl 3 rfl) ?_
  replace hO0 := (hu3 _ (q_pd 116 118 rfl)).trans (hO0)
  refine q_put (ci := 12) (j := 4) (v := .int 1) (ty := .int) C0 V i_NM o_NM n_NM rfl rfl hO0 (by decide) w_2302 rfl rfl rfl rfl (Nat.le_of_ble_eq_true rfl) d_14_5_24 (fun H locs w5 hu6 hO0 V => ?_)
  replace hO0 : w5[116]? = (some (qO0, .inr (12, [.int 0, .ref qA2, .int 0, .ref qA3, .int 1, .ref qO4, .ref qO5, .ref qO6, .ref qO7, .ref qO8, .ref qA9, .ref qA10])) : Option (Nat × va_E)) := hO0
  replace hF := q_us hF hu6 (.head _)
  refine lv_iload_n hx hb d_14_5_27 rfl (lv_at hl 3 rfl) ?_
  replace hA3 := (hu6 _ (q_pd 118 116 rfl)).trans (hA3)
  exact q_reti C0 V (⟨rfl, hF, hO0, hA3⟩) d_14_5_28
set_option maxRecDepth 100000 in
set_option maxHeartbeats 4000000 in
theorem c_NM_show_7 (l : Launch) (D : va_G) (g : Nat → ClassId) (ws : va_W) ( qO0 qA1 qA2 qA3 qO4 qO5 qO6 qO7 qO8 qA9 qA10 : Nat) (x1 : Int32) (f2 : Nat → Int32) (hO0 : ws[116]? = (some (qO0, .inr (12, [.int 0, .ref qA2, .int 0, .ref qA3, .int 0, .ref qO4, .ref qO5, .ref qO6, .ref qO7, .ref qO8, .ref qA9, .ref qA10])) : Option (Nat × va_E))) (hA1 : ws[152]? = (some (qA1, .inl (g 0, 1600, .inl f2)) : Option (Nat × va_E))) (hA3 : ws[118]? = (some (qA3, .inl (g 0, 12200, .inl (fun _ => 0))) : Option (Nat × va_E))) (x1lo : 2 ≤ x1) (x1hi : x1 ≤ 1082) : q_mI l y_NM_show prog_14_method_5_code 4 (.int) 1 0 0 D g [.ref qO0, .ref qA1, .int x1] ws (fun r u => ∃ (ex0 : Nat → Int32), x1 = r ∧ q_un ws u [116, 118] ∧ u[116]? = (some (qO0, .inr (12, [.int 0, .ref qA2, .int 0, .ref qA3, .int x1, .ref qO4, .ref qO5, .ref qO6, .ref qO7, .ref qO8, .ref qA9, .ref qA10])) : Option (Nat × va_E)) ∧ u[118]? = (some (qA3, .inl (g 0, 12200, .inl ex0)) : Option (Nat × va_E))) := by
  intro sz
  refine q_into (by decide) (Nat.le_of_ble_eq_true rfl) ?_
  intro p e s m below meth c ls hsz C0 V hl
  have hx := C0.1
  have hb := C0.2.1
  have hl : lv_has ls 4 [(0, .ref qO0), (1, .ref qA1), (2, .int x1)] := hl
  have hF : q_un ws ws [116, 118] := q_u0
  refine lv_iconst (v := 0) hx hb d_14_5_0 (by decide) ?_
  refine lv_istore_n (lv' := [(3, .int 0), (0, .ref qO0), (1, .ref qA1), (2, .int x1)]) hx hb d_14_5_1 rfl hl (by decide) rfl (fun ls hl => ?_)
  refine q_loop (X := Int32 × (Nat → Int32)) (fun z H locs ls w3 => (0 ≤ z.1.toInt ∧ (z.1.toInt ≤ x1.toInt ∨ z.1.toInt = 0)) ∧ q_Wd D g (va_A ws sz) s w3 H locs ∧ lv_has ls 4 [(3, .int z.1), (0, .ref qO0), (1, .ref qA1), (2, .int x1)] ∧ q_un ws w3 [116, 118] ∧ w3[116]? = (some (qO0, .inr (12, [.int 0, .ref qA2, .int 0, .ref qA3, .int 0, .ref qO4, .ref qO5, .ref qO6, .ref qO7, .ref qO8, .ref qA9, .ref qA10])) : Option (Nat × va_E)) ∧ w3[152]? = (some (qA1, .inl (g 0, 1600, .inl f2)) : Option (Nat × va_E)) ∧ w3[118]? = (some (qA3, .inl (g 0, 12200, .inl z.2)) : Option (Nat × va_E))) (fun z => (x1.toInt - z.1.toInt).toNat) ?_ ((0 : Int32), (fun _ => 0 : (Nat → Int32))) _ _ _ ws ⟨⟨(by dsimp only; decide), Or.inr (by dsimp only; decide)⟩, V, hl, hF, hO0, hA1, hA3⟩
  rintro ⟨lx1, lx2⟩ H locs ls w3 ⟨i4, V, hl, hF, hO0, hA1, hA3⟩ ih5
  replace i4 : 0 ≤ lx1.toInt ∧ (lx1.toInt ≤ x1.toInt ∨ lx1.toInt = 0) := i4
  replace hl : lv_has ls 4 [(3, .int lx1), (0, .ref qO0), (1, .ref qA1), (2, .int x1)] := hl
  replace hO0 : w3[116]? = (some (qO0, .inr (12, [.int 0, .ref qA2, .int 0, .ref qA3, .int 0, .ref qO4, .ref qO5, .ref qO6, .ref qO7, .ref qO8, .ref qA9, .ref qA10])) : Option (Nat × va_E)) := hO0
  replace hA1 : w3[152]? = (some (qA1, .inl (g 0, 1600, .inl f2)) : Option (Nat × va_E)) := hA1
  replace hA3 : w3[118]? = (some (qA3, .inl (g 0, 12200, .inl lx2)) : Option (Nat × va_E)) := hA3
  refine lv_iload_n hx hb d_14_5_2 rfl (lv_at hl 0 rfl) ?_
  refine lv_iload_n hx hb d_14_5_3 rfl (lv_at hl 3 rfl) ?_
  refine lv_icmp_ge (tgt := 22) hx hb d_14_5_4 (by decide) (fun c6 => ?_) (fun c6 => ?_)
  ·
    refine lv_aload_n hx hb d_14_5_22 rfl (lv_at hl 1 rfl) ?_
    refine lv_iload_n hx hb d_14_5_23 rfl (lv_at hl 3 rfl) ?_
    refine q_put (ci := 12) (j := 4) (v := .int x1) (ty := .int) C0 V i_NM o_NM n_NM rfl rfl hO0 (by decide) w_2302 rfl rfl rfl rfl (Nat.le_of_ble_eq_true rfl) d_14_5_24 (fun H locs w7 hu8 hO0 V => ?_)
    replace hO0 : w7[116]? = (some (qO0, .inr (12, [.int 0, .ref qA2, .int 0, .ref qA3, .int x1, .ref qO4, .ref qO5, .ref qO6, .ref qO7, .ref qO8, .ref qA9, .ref qA10])) : Option (Nat × va_E)) := hO0
    replace hF := q_us hF hu8 (.head _)
    refine lv_iload_n hx hb d_14_5_27 rfl (lv_at hl 3 rfl) ?_
    replace hA3 := (hu8 _ (q_pd 118 116 rfl)).trans (hA3)
    exact q_reti C0 V (⟨lx2, rfl, hF, hO0, hA3⟩) d_14_5_28
  ·
    refine lv_aload_n hx hb d_14_5_7 rfl (lv_at hl 1 rfl) ?_
    refine q_get (ci := 12) (j := 3) (v := .ref qA3) C0 V i_NM rfl rfl hO0 (by decide) w_2301 rfl d_14_5_8 ?_
    refine lv_iload_n hx hb d_14_5_11 rfl (lv_at hl 0 rfl) ?_
    refine lv_aload_n hx hb d_14_5_12 rfl (lv_at hl 2 rfl) ?_
    refine lv_iload_n hx hb d_14_5_13 rfl (lv_at hl 0 rfl) ?_
    refine q_iald C0 V hA1 (q_ix (x := lx1.toInt) rfl (by have t1 : 2 ≤ x1.toInt := q_leI x1lo; have t2 : x1.toInt ≤ 1082 := q_leI x1hi; have t3 : lx1.toInt < x1.toInt := q_nleI c6; omega) (by have t1 : 2 ≤ x1.toInt := q_leI x1lo; have t2 : x1.toInt ≤ 1082 := q_leI x1hi; have t3 : lx1.toInt < x1.toInt := q_nleI c6; omega)) d_14_5_14 ?_
    refine q_iast C0 V hA3 (q_ix (x := lx1.toInt) rfl (by have t1 : 2 ≤ x1.toInt := q_leI x1lo; have t2 : x1.toInt ≤ 1082 := q_leI x1hi; have t3 : lx1.toInt < x1.toInt := q_nleI c6; omega) (by have t1 : 2 ≤ x1.toInt := q_leI x1lo; have t2 : x1.toInt ≤ 1082 := q_leI x1hi; have t3 : lx1.toInt < x1.toInt := q_nleI c6; omega)) d_14_5_15 (fun H locs w9 hu10 hA3 V => ?_)
    replace hA3 : w9[118]? = (some (qA3, .inl (g 0, 12200, .inl (upd lx2 lx1.toNatClampNeg (f2 lx1.toNatClampNeg)))) : Option (Nat × va_E)) := hA3
    replace hF := q_us hF hu10 (.tail _ (.head _))
    refine lv_iinc (v := lx1 + 1) (lv' := [(3, .int (lx1 + 1)), (0, .ref qO0), (1, .ref qA1), (2, .int x1)]) hx hb d_14_5_16 hl (k := 0) rfl (rfl) (by decide) rfl (fun ls hl => ?_)
    refine lv_goto (tgt := 2) hx hb d_14_5_19 (by decide) ?_
    replace hO0 := (hu10 _ (q_pd 116 118 rfl)).trans (hO0)
    replace hA1 := (hu10 _ (q_pd 152 118 rfl)).trans (hA1)
    exact ih5 ((lx1 + 1 : Int32), (upd lx2 lx1.toNatClampNeg (f2 lx1.toNatClampNeg) : Nat → Int32)) _ _ _ _ (show (x1.toInt - (lx1 + 1).toInt).toNat < (x1.toInt - lx1.toInt).toNat from by have t1 : 2 ≤ x1.toInt := q_leI x1lo; have t2 : x1.toInt ≤ 1082 := q_leI x1hi; have t3 : lx1.toInt < x1.toInt := q_nleI c6; have e : (lx1 + 1).toInt = (lx1.toInt + 1) := (q_addI (x := lx1.toInt) (y := 1) rfl (by decide) (by have t1 : 2 ≤ x1.toInt := q_leI x1lo; have t2 : x1.toInt ≤ 1082 := q_leI x1hi; have t3 : lx1.toInt < x1.toInt := q_nleI c6; omega) (by have t1 : 2 ≤ x1.toInt := q_leI x1lo; have t2 : x1.toInt ≤ 1082 := q_leI x1hi; have t3 : lx1.toInt < x1.toInt := q_nleI c6; omega)); omega) ⟨(show 0 ≤ (lx1 + 1).toInt ∧ ((lx1 + 1).toInt ≤ x1.toInt ∨ (lx1 + 1).toInt = 0) from by have t1 : 2 ≤ x1.toInt := q_leI x1lo; have t2 : x1.toInt ≤ 1082 := q_leI x1hi; have t3 : lx1.toInt < x1.toInt := q_nleI c6; have e : (lx1 + 1).toInt = (lx1.toInt + 1) := (q_addI (x := lx1.toInt) (y := 1) rfl (by decide) (by have t1 : 2 ≤ x1.toInt := q_leI x1lo; have t2 : x1.toInt ≤ 1082 := q_leI x1hi; have t3 : lx1.toInt < x1.toInt := q_nleI c6; omega) (by have t1 : 2 ≤ x1.toInt := q_leI x1lo; have t2 : x1.toInt ≤ 1082 := q_leI x1hi; have t3 : lx1.toInt < x1.toInt := q_nleI c6; omega)); omega), V, q_lw hl (q_lw1 0 rfl (q_lw1 1 rfl (q_lw1 2 rfl (q_lw1 3 rfl q_lw0)))), hF, hO0, hA1, hA3⟩
set_option maxRecDepth 100000 in
set_option maxHeartbeats 4000000 in
theorem c_NM_show_8 (l : Launch) (D : va_G) (g : Nat → ClassId) (ws : va_W) ( qO0 qA1 qA2 qA3 qO4 qO5 qO6 qO7 qO8 qA9 qA10 : Nat) (x1 : Int32) (f2 : Nat → Int32) (hO0 : ws[116]? = (some (qO0, .inr (12, [.int 0, .ref qA2, .int 0, .ref qA3, .int 0, .ref qO4, .ref qO5, .ref qO6, .ref qO7, .ref qO8, .ref qA9, .ref qA10])) : Option (Nat × va_E))) (hA1 : ws[152]? = (some (qA1, .inl (g 0, 1600, .inl f2)) : Option (Nat × va_E))) (hA3 : ws[118]? = (some (qA3, .inl (g 0, 12200, .inl (fun _ => 0))) : Option (Nat × va_E))) (x1lo : 2 ≤ x1) (x1hi : x1 ≤ 1102) : q_mI l y_NM_show prog_14_method_5_code 4 (.int) 1 0 0 D g [.ref qO0, .ref qA1, .int x1] ws (fun r u => ∃ (ex0 : Nat → Int32), x1 = r ∧ q_un ws u [116, 118] ∧ u[116]? = (some (qO0, .inr (12, [.int 0, .ref qA2, .int 0, .ref qA3, .int x1, .ref qO4, .ref qO5, .ref qO6, .ref qO7, .ref qO8, .ref qA9, .ref qA10])) : Option (Nat × va_E)) ∧ u[118]? = (some (qA3, .inl (g 0, 12200, .inl ex0)) : Option (Nat × va_E))) := by
  intro sz
  refine q_into (by decide) (Nat.le_of_ble_eq_true rfl) ?_
  intro p e s m below meth c ls hsz C0 V hl
  have hx := C0.1
  have hb := C0.2.1
  have hl : lv_has ls 4 [(0, .ref qO0), (1, .ref qA1), (2, .int x1)] := hl
  have hF : q_un ws ws [116, 118] := q_u0
  refine lv_iconst (v := 0) hx hb d_14_5_0 (by decide) ?_
  refine lv_istore_n (lv' := [(3, .int 0), (0, .ref qO0), (1, .ref qA1), (2, .int x1)]) hx hb d_14_5_1 rfl hl (by decide) rfl (fun ls hl => ?_)
  refine q_loop (X := Int32 × (Nat → Int32)) (fun z H locs ls w3 => (0 ≤ z.1.toInt ∧ (z.1.toInt ≤ x1.toInt ∨ z.1.toInt = 0)) ∧ q_Wd D g (va_A ws sz) s w3 H locs ∧ lv_has ls 4 [(3, .int z.1), (0, .ref qO0), (1, .ref qA1), (2, .int x1)] ∧ q_un ws w3 [116, 118] ∧ w3[116]? = (some (qO0, .inr (12, [.int 0, .ref qA2, .int 0, .ref qA3, .int 0, .ref qO4, .ref qO5, .ref qO6, .ref qO7, .ref qO8, .ref qA9, .ref qA10])) : Option (Nat × va_E)) ∧ w3[152]? = (some (qA1, .inl (g 0, 1600, .inl f2)) : Option (Nat × va_E)) ∧ w3[118]? = (some (qA3, .inl (g 0, 12200, .inl z.2)) : Option (Nat × va_E))) (fun z => (x1.toInt - z.1.toInt).toNat) ?_ ((0 : Int32), (fun _ => 0 : (Nat → Int32))) _ _ _ ws ⟨⟨(by dsimp only; decide), Or.inr (by dsimp only; decide)⟩, V, hl, hF, hO0, hA1, hA3⟩
  rintro ⟨lx1, lx2⟩ H locs ls w3 ⟨i4, V, hl, hF, hO0, hA1, hA3⟩ ih5
  replace i4 : 0 ≤ lx1.toInt ∧ (lx1.toInt ≤ x1.toInt ∨ lx1.toInt = 0) := i4
  replace hl : lv_has ls 4 [(3, .int lx1), (0, .ref qO0), (1, .ref qA1), (2, .int x1)] := hl
  replace hO0 : w3[116]? = (some (qO0, .inr (12, [.int 0, .ref qA2, .int 0, .ref qA3, .int 0, .ref qO4, .ref qO5, .ref qO6, .ref qO7, .ref qO8, .ref qA9, .ref qA10])) : Option (Nat × va_E)) := hO0
  replace hA1 : w3[152]? = (some (qA1, .inl (g 0, 1600, .inl f2)) : Option (Nat × va_E)) := hA1
  replace hA3 : w3[118]? = (some (qA3, .inl (g 0, 12200, .inl lx2)) : Option (Nat × va_E)) := hA3
  refine lv_iload_n hx hb d_14_5_2 rfl (lv_at hl 0 rfl) ?_
  refine lv_iload_n hx hb d_14_5_3 rfl (lv_at hl 3 rfl) ?_
  refine lv_icmp_ge (tgt := 22) hx hb d_14_5_4 (by decide) (fun c6 => ?_) (fun c6 => ?_)
  ·
    refine lv_aload_n hx hb d_14_5_22 rfl (lv_at hl 1 rfl) ?_
    refine lv_iload_n hx hb d_14_5_23 rfl (lv_at hl 3 rfl) ?_
    refine q_put (ci := 12) (j := 4) (v := .int x1) (ty := .int) C0 V i_NM o_NM n_NM rfl rfl hO0 (by decide) w_2302 rfl rfl rfl rfl (Nat.le_of_ble_eq_true rfl) d_14_5_24 (fun H locs w7 hu8 hO0 V => ?_)
    replace hO0 : w7[116]? = (some (qO0, .inr (12, [.int 0, .ref qA2, .int 0, .ref qA3, .int x1, .ref qO4, .ref qO5, .ref qO6, .ref qO7, .ref qO8, .ref qA9, .ref qA10])) : Option (Nat × va_E)) := hO0
    replace hF := q_us hF hu8 (.head _)
    refine lv_iload_n hx hb d_14_5_27 rfl (lv_at hl 3 rfl) ?_
    replace hA3 := (hu8 _ (q_pd 118 116 rfl)).trans (hA3)
    exact q_reti C0 V (⟨lx2, rfl, hF, hO0, hA3⟩) d_14_5_28
  ·
    refine lv_aload_n hx hb d_14_5_7 rfl (lv_at hl 1 rfl) ?_
    refine q_get (ci := 12) (j := 3) (v := .ref qA3) C0 V i_NM rfl rfl hO0 (by decide) w_2301 rfl d_14_5_8 ?_
    refine lv_iload_n hx hb d_14_5_11 rfl (lv_at hl 0 rfl) ?_
    refine lv_aload_n hx hb d_14_5_12 rfl (lv_at hl 2 rfl) ?_
    refine lv_iload_n hx hb d_14_5_13 rfl (lv_at hl 0 rfl) ?_
    refine q_iald C0 V hA1 (q_ix (x := lx1.toInt) rfl (by have t1 : 2 ≤ x1.toInt := q_leI x1lo; have t2 : x1.toInt ≤ 1102 := q_leI x1hi; have t3 : lx1.toInt < x1.toInt := q_nleI c6; omega) (by have t1 : 2 ≤ x1.toInt := q_leI x1lo; have t2 : x1.toInt ≤ 1102 := q_leI x1hi; have t3 : lx1.toInt < x1.toInt := q_nleI c6; omega)) d_14_5_14 ?_
    refine q_iast C0 V hA3 (q_ix (x := lx1.toInt) rfl (by have t1 : 2 ≤ x1.toInt := q_leI x1lo; have t2 : x1.toInt ≤ 1102 := q_leI x1hi; have t3 : lx1.toInt < x1.toInt := q_nleI c6; omega) (by have t1 : 2 ≤ x1.toInt := q_leI x1lo; have t2 : x1.toInt ≤ 1102 := q_leI x1hi; have t3 : lx1.toInt < x1.toInt := q_nleI c6; omega)) d_14_5_15 (fun H locs w9 hu10 hA3 V => ?_)
    replace hA3 : w9[118]? = (some (qA3, .inl (g 0, 12200, .inl (upd lx2 lx1.toNatClampNeg (f2 lx1.toNatClampNeg)))) : Option (Nat × va_E)) := hA3
    replace hF := q_us hF hu10 (.tail _ (.head _))
    refine lv_iinc (v := lx1 + 1) (lv' := [(3, .int (lx1 + 1)), (0, .ref qO0), (1, .ref qA1), (2, .int x1)]) hx hb d_14_5_16 hl (k := 0) rfl (rfl) (by decide) rfl (fun ls hl => ?_)
    refine lv_goto (tgt := 2) hx hb d_14_5_19 (by decide) ?_
    replace hO0 := (hu10 _ (q_pd 116 118 rfl)).trans (hO0)
    replace hA1 := (hu10 _ (q_pd 152 118 rfl)).trans (hA1)
    exact ih5 ((lx1 + 1 : Int32), (upd lx2 lx1.toNatClampNeg (f2 lx1.toNatClampNeg) : Nat → Int32)) _ _ _ _ (show (x1.toInt - (lx1 + 1).toInt).toNat < (x1.toInt - lx1.toInt).toNat from by have t1 : 2 ≤ x1.toInt := q_leI x1lo; have t2 : x1.toInt ≤ 1102 := q_leI x1hi; have t3 : lx1.toInt < x1.toInt := q_nleI c6; have e : (lx1 + 1).toInt = (lx1.toInt + 1) := (q_addI (x := lx1.toInt) (y := 1) rfl (by decide) (by have t1 : 2 ≤ x1.toInt := q_leI x1lo; have t2 : x1.toInt ≤ 1102 := q_leI x1hi; have t3 : lx1.toInt < x1.toInt := q_nleI c6; omega) (by have t1 : 2 ≤ x1.toInt := q_leI x1lo; have t2 : x1.toInt ≤ 1102 := q_leI x1hi; have t3 : lx1.toInt < x1.toInt := q_nleI c6; omega)); omega) ⟨(show 0 ≤ (lx1 + 1).toInt ∧ ((lx1 + 1).toInt ≤ x1.toInt ∨ (lx1 + 1).toInt = 0) from by have t1 : 2 ≤ x1.toInt := q_leI x1lo; have t2 : x1.toInt ≤ 1102 := q_leI x1hi; have t3 : lx1.toInt < x1.toInt := q_nleI c6; have e : (lx1 + 1).toInt = (lx1.toInt + 1) := (q_addI (x := lx1.toInt) (y := 1) rfl (by decide) (by have t1 : 2 ≤ x1.toInt := q_leI x1lo; have t2 : x1.toInt ≤ 1102 := q_leI x1hi; have t3 : lx1.toInt < x1.toInt := q_nleI c6; omega) (by have t1 : 2 ≤ x1.toInt := q_leI x1lo; have t2 : x1.toInt ≤ 1102 := q_leI x1hi; have t3 : lx1.toInt < x1.toInt := q_nleI c6; omega)); omega), V, q_lw hl (q_lw1 0 rfl (q_lw1 1 rfl (q_lw1 2 rfl (q_lw1 3 rfl q_lw0)))), hF, hO0, hA1, hA3⟩
set_option maxRecDepth 100000 in
set_option maxHeartbeats 4000000 in
theorem c_FR_isMore_6 (l : Launch) (D : va_G) (g : Nat → ClassId) (ws : va_W) (kO0 kA3 qO0 qA1 qA2 qA3 qA4 qA5 qA6 qA7 : Nat) (x1 : Int32) (x2 : Int32) (hO0 : ws[kO0]? = (some (qO0, .inr (15, [.int 0, .ref qA1, .ref qA2, .ref qA3, .ref qA4, .ref qA5, .ref qA6, .ref qA7, .int 0, .int 0, .int 0, .long 0, .int 23, .int 255, .long 0, .int (-149), .long 0, .int 0])) : Option (Nat × va_E))) (hA3 : ws[kA3]? = (some (qA3, .inl (g 0, 1404, .inl (fun _ => 0))) : Option (Nat × va_E))) (x1lo : 0 ≤ x1) (x1hi : x1 ≤ 1080) (x2lo : 0 ≤ x2) (x2hi : x2 ≤ 3) : q_mI l y_FR_isMore prog_17_method_26_code 5 (.boolean) 1 0 0 D g [.ref qO0, .int x1, .int x2] ws (fun r u => 0 = r ∧ ws = u) := by
  intro sz
  refine q_into (by decide) (Nat.le_of_ble_eq_true rfl) ?_
  intro p e s m below meth c ls hsz C0 V hl
  have hx := C0.1
  have hb := C0.2.1
  have hl : lv_has ls 5 [(0, .ref qO0), (1, .int x1), (2, .int x2)] := hl
  refine lv_iconst (v := 0) hx hb d_17_26_0 (by decide) ?_
  refine lv_istore_n (lv' := [(3, .int 0), (0, .ref qO0), (1, .int x1), (2, .int x2)]) hx hb d_17_26_1 rfl hl (by decide) rfl (fun ls hl => ?_)
  refine lv_iconst (v := 0) hx hb d_17_26_2 (by decide) ?_
  refine lv_istore (lv' := [(4, .int 0), (3, .int 0), (0, .ref qO0), (1, .int x1), (2, .int x2)]) hx hb d_17_26_3 hl (by decide) rfl (fun ls hl => ?_)
  refine q_loop (X := Int32) (fun z H locs ls _ => (0 ≤ z.toInt ∧ (z.toInt ≤ x1.toInt ∨ z.toInt = 0)) ∧ q_Wd D g (va_A ws sz) s ws H locs ∧ lv_has ls 5 [(4, .int z), (3, .int 0), (0, .ref qO0), (1, .int x1), (2, .int x2)]) (fun z => (x1.toInt - z.toInt).toNat) ?_ ((0 : Int32)) _ _ _ ws ⟨⟨by decide, Or.inr (by decide)⟩, V, hl⟩
  rintro lx1 H locs ls _ ⟨i3, V, hl⟩ ih4
  replace i3 : 0 ≤ lx1.toInt ∧ (lx1.toInt ≤ x1.toInt ∨ lx1.toInt = 0) := i3
  replace hl : lv_has ls 5 [(4, .int lx1), (3, .int 0), (0, .ref qO0), (1, .int x1), (2, .int x2)] := hl
  refine lv_iload hx hb d_17_26_5 (lv_at hl 0 rfl) ?_
  refine lv_iload_n hx hb d_17_26_7 rfl (lv_at hl 3 rfl) ?_
  refine lv_icmp_ge (tgt := 37) hx hb d_17_26_8 (by decide) (fun c5 => ?_) (fun c5 => ?_)
  ·
    refine lv_iload_n hx hb d_17_26_37 rfl (lv_at hl 1 rfl) ?_
    refine lv_if_eq (tgt := 45) hx hb d_17_26_38 (by decide) (fun c6 => ?_) (fun c6 => absurd (by decide) c6)
    refine lv_iconst (v := 0) hx hb d_17_26_45 (by decide) ?_
    exact q_retz C0 V (rfl) (⟨rfl, rfl⟩) d_17_26_46
  ·
    refine lv_iload_n hx hb d_17_26_11 rfl (lv_at hl 1 rfl) ?_
    refine lv_if_ne (tgt := 25) hx hb d_17_26_12 (by decide) (fun c7 => absurd (by decide) c7) (fun c7 => ?_)
    refine lv_aload_n hx hb d_17_26_15 rfl (lv_at hl 2 rfl) ?_
    refine q_get (ci := 15) (j := 3) (v := .ref qA3) C0 V i_FR rfl rfl hO0 (by decide) w_2078 rfl d_17_26_16 ?_
    refine lv_iload hx hb d_17_26_19 (lv_at hl 0 rfl) ?_
    refine q_iald C0 V hA3 (q_ix (x := lx1.toInt) rfl (by have t1 : 0 ≤ x1.toInt := q_leI x1lo; have t2 : x1.toInt ≤ 1080 := q_leI x1hi; have t3 : lx1.toInt < x1.toInt := q_nleI c5; omega) (by have t1 : 0 ≤ x1.toInt := q_leI x1lo; have t2 : x1.toInt ≤ 1080 := q_leI x1hi; have t3 : lx1.toInt < x1.toInt := q_nleI c5; omega)) d_17_26_21 ?_
    refine q_ti (v := 0) (by first | rfl | decide | simp [upd, vp_updL, sb_cl0]) ?_
    refine lv_if_eq (tgt := 29) hx hb d_17_26_22 (by decide) (fun c8 => ?_) (fun c8 => absurd (by decide) c8)
    refine lv_iconst (v := 0) hx hb d_17_26_29 (by decide) ?_
    refine lv_istore_n (lv' := [(3, .int 0), (4, .int lx1), (0, .ref qO0), (1, .int x1), (2, .int x2)]) hx hb d_17_26_30 rfl hl (by decide) rfl (fun ls hl => ?_)
    refine lv_iinc (v := lx1 + 1) (lv' := [(4, .int (lx1 + 1)), (3, .int 0), (0, .ref qO0), (1, .int x1), (2, .int x2)]) hx hb d_17_26_31 hl (k := 1) rfl (rfl) (by decide) rfl (fun ls hl => ?_)
    refine lv_goto (tgt := 5) hx hb d_17_26_34 (by decide) ?_
    exact ih4 ((lx1 + 1 : Int32)) _ _ _ ws (show (x1.toInt - (lx1 + 1).toInt).toNat < (x1.toInt - lx1.toInt).toNat from by have t1 : 0 ≤ x1.toInt := q_leI x1lo; have t2 : x1.toInt ≤ 1080 := q_leI x1hi; have t3 : lx1.toInt < x1.toInt := q_nleI c5; have e : (lx1 + 1).toInt = (lx1.toInt + 1) := (q_addI (x := lx1.toInt) (y := 1) rfl (by decide) (by have t1 : 0 ≤ x1.toInt := q_leI x1lo; have t2 : x1.toInt ≤ 1080 := q_leI x1hi; have t3 : lx1.toInt < x1.toInt := q_nleI c5; omega) (by have t1 : 0 ≤ x1.toInt := q_leI x1lo; have t2 : x1.toInt ≤ 1080 := q_leI x1hi; have t3 : lx1.toInt < x1.toInt := q_nleI c5; omega)); omega) ⟨(show 0 ≤ (lx1 + 1).toInt ∧ ((lx1 + 1).toInt ≤ x1.toInt ∨ (lx1 + 1).toInt = 0) from by have t1 : 0 ≤ x1.toInt := q_leI x1lo; have t2 : x1.toInt ≤ 1080 := q_leI x1hi; have t3 : lx1.toInt < x1.toInt := q_nleI c5; have e : (lx1 + 1).toInt = (lx1.toInt + 1) := (q_addI (x := lx1.toInt) (y := 1) rfl (by decide) (by have t1 : 0 ≤ x1.toInt := q_leI x1lo; have t2 : x1.toInt ≤ 1080 := q_leI x1hi; have t3 : lx1.toInt < x1.toInt := q_nleI c5; omega) (by have t1 : 0 ≤ x1.toInt := q_leI x1lo; have t2 : x1.toInt ≤ 1080 := q_leI x1hi; have t3 : lx1.toInt < x1.toInt := q_nleI c5; omega)); omega), V, q_lw hl (q_lw1 0 rfl (q_lw1 1 rfl (q_lw1 2 rfl (q_lw1 3 rfl (q_lw1 4 rfl q_lw0)))))⟩
set_option maxRecDepth 100000 in
set_option maxHeartbeats 4000000 in
theorem c_FR_cut_6 (l : Launch) (D : va_G) (g : Nat → ClassId) (ws : va_W) (kO0 kA3 kA6 qO0 qA1 qA2 qA3 qA4 qA5 qA6 qA7 : Nat) (x1 : Int32) (hO0 : ws[kO0]? = (some (qO0, .inr (15, [.int 0, .ref qA1, .ref qA2, .ref qA3, .ref qA4, .ref qA5, .ref qA6, .ref qA7, .int 0, .int 0, .int 0, .long 0, .int 23, .int 255, .long 0, .int (-149), .long 0, .int 0])) : Option (Nat × va_E))) (hA3 : ws[kA3]? = (some (qA3, .inl (g 0, 1404, .inl (fun _ => 0))) : Option (Nat × va_E))) (hA6 : ws[kA6]? = (some (qA6, .inl (g 0, 1404, .inl (fun _ => 0))) : Option (Nat × va_E))) (n_A3_A6 : kA3 ≠ kA6) (x1lo : 0 ≤ x1) (x1hi : x1 ≤ 1080) : q_mV l y_FR_cut prog_17_method_11_code 5 1 0 0 D g [.ref qO0, .int x1, .int 0] ws (fun u => q_un ws u [kA6] ∧ u[kA6]? = (some (qA6, .inl (g 0, 1404, .inl (fun _ => 0))) : Option (Nat × va_E))) := by
  intro sz
  refine q_into (by decide) (Nat.le_of_ble_eq_true rfl) ?_
  intro p e s m below meth c ls hsz C0 V hl
  have hx := C0.1
  have hb := C0.2.1
  have hl : lv_has ls 5 [(0, .ref qO0), (1, .int x1), (2, .int 0)] := hl
  have n_O0_A6 := Ne.symm (q_df hA6 hO0)
  have hF : q_un ws ws [kA6] := q_u0
  refine lv_iconst (v := 0) hx hb d_17_11_0 (by decide) ?_
  refine lv_istore_n (lv' := [(3, .int 0), (0, .ref qO0), (1, .int x1), (2, .int 0)]) hx hb d_17_11_1 rfl hl (by decide) rfl (fun ls hl => ?_)
  refine q_loop (X := Int32) (fun z H locs ls w2 => (0 ≤ z.toInt ∧ (z.toInt ≤ 1404 ∨ z.toInt = 0)) ∧ q_Wd D g (va_A ws sz) s w2 H locs ∧ lv_has ls 5 [(3, .int z), (0, .ref qO0), (1, .int x1), (2, .int 0)] ∧ q_un ws w2 [kA6] ∧ w2[kO0]? = (some (qO0, .inr (15, [.int 0, .ref qA1, .ref qA2, .ref qA3, .ref qA4, .ref qA5, .ref qA6, .ref qA7, .int 0, .int 0, .int 0, .long 0, .int 23, .int 255, .long 0, .int (-149), .long 0, .int 0])) : Option (Nat × va_E)) ∧ w2[kA3]? = (some (qA3, .inl (g 0, 1404, .inl (fun _ => 0))) : Option (Nat × va_E)) ∧ w2[kA6]? = (some (qA6, .inl (g 0, 1404, .inl (fun _ => 0))) : Option (Nat × va_E))) (fun z => (1404 - z.toInt).toNat) ?_ ((0 : Int32)) _ _ _ ws ⟨⟨by decide, Or.inr (by decide)⟩, V, hl, hF, hO0, hA3, hA6⟩
  rintro lx1 H locs ls w2 ⟨i3, V, hl, hF, hO0, hA3, hA6⟩ ih4
  replace i3 : 0 ≤ lx1.toInt ∧ (lx1.toInt ≤ 1404 ∨ lx1.toInt = 0) := i3
  replace hl : lv_has ls 5 [(3, .int lx1), (0, .ref qO0), (1, .int x1), (2, .int 0)] := hl
  replace hO0 : w2[kO0]? = (some (qO0, .inr (15, [.int 0, .ref qA1, .ref qA2, .ref qA3, .ref qA4, .ref qA5, .ref qA6, .ref qA7, .int 0, .int 0, .int 0, .long 0, .int 23, .int 255, .long 0, .int (-149), .long 0, .int 0])) : Option (Nat × va_E)) := hO0
  replace hA3 : w2[kA3]? = (some (qA3, .inl (g 0, 1404, .inl (fun _ => 0))) : Option (Nat × va_E)) := hA3
  replace hA6 : w2[kA6]? = (some (qA6, .inl (g 0, 1404, .inl (fun _ => 0))) : Option (Nat × va_E)) := hA6
  refine lv_iload_n hx hb d_17_11_2 rfl (lv_at hl 0 rfl) ?_
  refine lv_sipush (v := 1404) hx hb d_17_11_3 (by decide) ?_
  refine lv_icmp_ge (tgt := 36) hx hb d_17_11_6 (by decide) (fun c5 => ?_) (fun c5 => ?_)
  ·
    refine lv_iload_n hx hb d_17_11_36 rfl (lv_at hl 2 rfl) ?_
    refine lv_istore_n (lv' := [(3, .int x1), (0, .ref qO0), (1, .int x1), (2, .int 0)]) hx hb d_17_11_37 rfl hl (by decide) rfl (fun ls hl => ?_)
    refine lv_iload_n hx hb d_17_11_38 rfl (lv_at hl 3 rfl) ?_
    refine lv_istore (lv' := [(4, .int 0), (3, .int x1), (0, .ref qO0), (1, .int x1), (2, .int 0)]) hx hb d_17_11_39 hl (by decide) rfl (fun ls hl => ?_)
    refine lv_iload hx hb d_17_11_41 (lv_at hl 0 rfl) ?_
    refine lv_if_eq (tgt := 97) hx hb d_17_11_43 (by decide) (fun c6 => ?_) (fun c6 => absurd (by decide) c6)
    exact q_retv C0 V (⟨hF, hA6⟩) d_17_11_97
  ·
    refine lv_aload_n hx hb d_17_11_9 rfl (lv_at hl 1 rfl) ?_
    refine q_get (ci := 15) (j := 6) (v := .ref qA6) C0 V i_FR rfl rfl hO0 (by decide) w_2081 rfl d_17_11_10 ?_
    refine lv_iload_n hx hb d_17_11_13 rfl (lv_at hl 0 rfl) ?_
    refine lv_iload_n hx hb d_17_11_14 rfl (lv_at hl 0 rfl) ?_
    refine lv_iload_n hx hb d_17_11_15 rfl (lv_at hl 2 rfl) ?_
    refine lv_icmp_ge (tgt := 23) hx hb d_17_11_16 (by decide) (fun c7 => ?_) (fun c7 => ?_)
    ·
      refine lv_aload_n hx hb d_17_11_23 rfl (lv_at hl 1 rfl) ?_
      refine q_get (ci := 15) (j := 3) (v := .ref qA3) C0 V i_FR rfl rfl hO0 (by decide) w_2078 rfl d_17_11_24 ?_
      refine lv_iload_n hx hb d_17_11_27 rfl (lv_at hl 0 rfl) ?_
      refine q_iald C0 V hA3 (q_ix (x := lx1.toInt) rfl (by have t1 : lx1.toInt < 1404 := q_nleI c5; have t2 : x1.toInt ≤ lx1.toInt := q_leI c7; omega) (by have t1 : lx1.toInt < 1404 := q_nleI c5; have t2 : x1.toInt ≤ lx1.toInt := q_leI c7; omega)) d_17_11_28 ?_
      refine q_ti (v := 0) (by first | rfl | decide | simp [upd, vp_updL, sb_cl0]) ?_
      refine q_iast C0 V hA6 (q_ix (x := lx1.toInt) rfl (by have t1 : lx1.toInt < 1404 := q_nleI c5; have t2 : x1.toInt ≤ lx1.toInt := q_leI c7; omega) (by have t1 : lx1.toInt < 1404 := q_nleI c5; have t2 : x1.toInt ≤ lx1.toInt := q_leI c7; omega)) d_17_11_29 (fun H locs w8 hu9 hA6 V => ?_)
      replace hA6 := q_re (y := (qA6, .inl (g 0, 1404, .inl (fun _ => 0)))) hA6 (q_eI q_upd0)
      replace hA6 : w8[kA6]? = (some (qA6, .inl (g 0, 1404, .inl (fun _ => 0))) : Option (Nat × va_E)) := hA6
      replace hF := q_us hF hu9 (.head _)
      refine lv_iinc (v := lx1 + 1) (lv' := [(3, .int (lx1 + 1)), (0, .ref qO0), (1, .int x1), (2, .int 0)]) hx hb d_17_11_30 hl (k := 0) rfl (rfl) (by decide) rfl (fun ls hl => ?_)
      refine lv_goto (tgt := 2) hx hb d_17_11_33 (by decide) ?_
      replace hO0 := (hu9 _ n_O0_A6).trans (hO0)
      replace hA3 := (hu9 _ n_A3_A6).trans (hA3)
      exact ih4 ((lx1 + 1 : Int32)) _ _ _ _ (show (1404 - (lx1 + 1).toInt).toNat < (1404 - lx1.toInt).toNat from by have t1 : lx1.toInt < 1404 := q_nleI c5; have t2 : x1.toInt ≤ lx1.toInt := q_leI c7; have e : (lx1 + 1).toInt = (lx1.toInt + 1) := (q_addI (x := lx1.toInt) (y := 1) rfl (by decide) (by have t1 : lx1.toInt < 1404 := q_nleI c5; have t2 : x1.toInt ≤ lx1.toInt := q_leI c7; omega) (by have t1 : lx1.toInt < 1404 := q_nleI c5; have t2 : x1.toInt ≤ lx1.toInt := q_leI c7; omega)); omega) ⟨(show 0 ≤ (lx1 + 1).toInt ∧ ((lx1 + 1).toInt ≤ 1404 ∨ (lx1 + 1).toInt = 0) from by have t1 : lx1.toInt < 1404 := q_nleI c5; have t2 : x1.toInt ≤ lx1.toInt := q_leI c7; have e : (lx1 + 1).toInt = (lx1.toInt + 1) := (q_addI (x := lx1.toInt) (y := 1) rfl (by decide) (by have t1 : lx1.toInt < 1404 := q_nleI c5; have t2 : x1.toInt ≤ lx1.toInt := q_leI c7; omega) (by have t1 : lx1.toInt < 1404 := q_nleI c5; have t2 : x1.toInt ≤ lx1.toInt := q_leI c7; omega)); omega), V, q_lw hl (q_lw1 0 rfl (q_lw1 1 rfl (q_lw1 2 rfl (q_lw1 3 rfl q_lw0)))), hF, hO0, hA3, hA6⟩
    ·
      refine lv_iconst (v := 0) hx hb d_17_11_19 (by decide) ?_
      refine lv_goto (tgt := 29) hx hb d_17_11_20 (by decide) ?_
      refine q_iast C0 V hA6 (q_ix (x := lx1.toInt) rfl (by have t1 : 0 ≤ x1.toInt := q_leI x1lo; have t2 : x1.toInt ≤ 1080 := q_leI x1hi; have t3 : lx1.toInt < 1404 := q_nleI c5; have t4 : lx1.toInt < x1.toInt := q_nleI c7; omega) (by have t1 : 0 ≤ x1.toInt := q_leI x1lo; have t2 : x1.toInt ≤ 1080 := q_leI x1hi; have t3 : lx1.toInt < 1404 := q_nleI c5; have t4 : lx1.toInt < x1.toInt := q_nleI c7; omega)) d_17_11_29 (fun H locs w10 hu11 hA6 V => ?_)
      replace hA6 := q_re (y := (qA6, .inl (g 0, 1404, .inl (fun _ => 0)))) hA6 (q_eI q_upd0)
      replace hA6 : w10[kA6]? = (some (qA6, .inl (g 0, 1404, .inl (fun _ => 0))) : Option (Nat × va_E)) := hA6
      replace hF := q_us hF hu11 (.head _)
      refine lv_iinc (v := lx1 + 1) (lv' := [(3, .int (lx1 + 1)), (0, .ref qO0), (1, .int x1), (2, .int 0)]) hx hb d_17_11_30 hl (k := 0) rfl (rfl) (by decide) rfl (fun ls hl => ?_)
      refine lv_goto (tgt := 2) hx hb d_17_11_33 (by decide) ?_
      replace hO0 := (hu11 _ n_O0_A6).trans (hO0)
      replace hA3 := (hu11 _ n_A3_A6).trans (hA3)
      exact ih4 ((lx1 + 1 : Int32)) _ _ _ _ (show (1404 - (lx1 + 1).toInt).toNat < (1404 - lx1.toInt).toNat from by have t1 : 0 ≤ x1.toInt := q_leI x1lo; have t2 : x1.toInt ≤ 1080 := q_leI x1hi; have t3 : lx1.toInt < 1404 := q_nleI c5; have t4 : lx1.toInt < x1.toInt := q_nleI c7; have e : (lx1 + 1).toInt = (lx1.toInt + 1) := (q_addI (x := lx1.toInt) (y := 1) rfl (by decide) (by have t1 : 0 ≤ x1.toInt := q_leI x1lo; have t2 : x1.toInt ≤ 1080 := q_leI x1hi; have t3 : lx1.toInt < 1404 := q_nleI c5; have t4 : lx1.toInt < x1.toInt := q_nleI c7; omega) (by have t1 : 0 ≤ x1.toInt := q_leI x1lo; have t2 : x1.toInt ≤ 1080 := q_leI x1hi; have t3 : lx1.toInt < 1404 := q_nleI c5; have t4 : lx1.toInt < x1.toInt := q_nleI c7; omega)); omega) ⟨(show 0 ≤ (lx1 + 1).toInt ∧ ((lx1 + 1).toInt ≤ 1404 ∨ (lx1 + 1).toInt = 0) from by have t1 : 0 ≤ x1.toInt := q_leI x1lo; have t2 : x1.toInt ≤ 1080 := q_leI x1hi; have t3 : lx1.toInt < 1404 := q_nleI c5; have t4 : lx1.toInt < x1.toInt := q_nleI c7; have e : (lx1 + 1).toInt = (lx1.toInt + 1) := (q_addI (x := lx1.toInt) (y := 1) rfl (by decide) (by have t1 : 0 ≤ x1.toInt := q_leI x1lo; have t2 : x1.toInt ≤ 1080 := q_leI x1hi; have t3 : lx1.toInt < 1404 := q_nleI c5; have t4 : lx1.toInt < x1.toInt := q_nleI c7; omega) (by have t1 : 0 ≤ x1.toInt := q_leI x1lo; have t2 : x1.toInt ≤ 1080 := q_leI x1hi; have t3 : lx1.toInt < 1404 := q_nleI c5; have t4 : lx1.toInt < x1.toInt := q_nleI c7; omega)); omega), V, q_lw hl (q_lw1 0 rfl (q_lw1 1 rfl (q_lw1 2 rfl (q_lw1 3 rfl q_lw0)))), hF, hO0, hA3, hA6⟩
set_option maxRecDepth 100000 in
set_option maxHeartbeats 4000000 in
theorem c_FR_figureAt_8 (l : Launch) (D : va_G) (g : Nat → ClassId) (ws : va_W) (kO0 kA6 qO0 qA1 qA2 qA3 qA4 qA5 qA6 qA7 : Nat) (x1 : Int32) (hO0 : ws[kO0]? = (some (qO0, .inr (15, [.int 0, .ref qA1, .ref qA2, .ref qA3, .ref qA4, .ref qA5, .ref qA6, .ref qA7, .int 2, .int 0, .int 0, .long 0, .int 23, .int 255, .long 0, .int (-149), .long 0, .int 0])) : Option (Nat × va_E))) (hA6 : ws[kA6]? = (some (qA6, .inl (g 0, 1404, .inl (fun _ => 0))) : Option (Nat × va_E))) (x1lo : (-1081) ≤ x1) (x1hi : x1 ≤ (-1)) : q_mI l y_FR_figureAt prog_17_method_27_code 3 (.int) 1 0 0 D g [.ref qO0, .int x1] ws (fun r u => 0 = r ∧ ws = u) := by
  intro sz
  refine q_into (by decide) (Nat.le_of_ble_eq_true rfl) ?_
  intro p e s m below meth c ls hsz C0 V hl
  have hx := C0.1
  have hb := C0.2.1
  have hl : lv_has ls 3 [(0, .ref qO0), (1, .int x1)] := hl
  refine lv_iload_n hx hb d_17_27_0 rfl (lv_at hl 1 rfl) ?_
  refine lv_sipush (v := 1080) hx hb d_17_27_1 (by decide) ?_
  refine lv_iadd hx hb d_17_27_4 ?_
  refine lv_istore_n (lv' := [(2, .int (x1 + 1080)), (0, .ref qO0), (1, .int x1)]) hx hb d_17_27_5 rfl hl (by decide) rfl (fun ls hl => ?_)
  refine lv_iload_n hx hb d_17_27_6 rfl (lv_at hl 0 rfl) ?_
  refine lv_if_lt (tgt := 17) hx hb d_17_27_7 (by decide) (fun c1 => ?_) (fun c1 => ?_)
  ·
    refine lv_iconst (v := 0) hx hb d_17_27_17 (by decide) ?_
    refine lv_goto (tgt := 27) hx hb d_17_27_18 (by decide) ?_
    exact q_reti C0 V (⟨rfl, rfl⟩) d_17_27_27
  ·
    refine lv_iload_n hx hb d_17_27_10 rfl (lv_at hl 0 rfl) ?_
    refine lv_sipush (v := 1404) hx hb d_17_27_11 (by decide) ?_
    refine lv_icmp_lt (tgt := 21) hx hb d_17_27_14 (by decide) (fun c2 => ?_) (fun c2 => absurd (q_Ilt (x := (x1.toInt + 1080)) (y := 1404) (q_addI (x := x1.toInt) (y := 1080) rfl (by decide) (by have t1 : (-1081) ≤ x1.toInt := q_leI x1lo; have t2 : x1.toInt ≤ (-1) := q_leI x1hi; have t3 : 0 ≤ (x1.toInt + 1080) := by { have e1 : ((x1 + 1080) : Int32).toInt = (x1.toInt + 1080) := (q_addI (x := x1.toInt) (y := 1080) rfl (by decide) (by have t1 : (-1081) ≤ x1.toInt := q_leI x1lo; have t2 : x1.toInt ≤ (-1) := q_leI x1hi; omega) (by have t1 : (-1081) ≤ x1.toInt := q_leI x1lo; have t2 : x1.toInt ≤ (-1) := q_leI x1hi; omega)); have e2 : (0 : Int32).toInt = 0 := (by decide); have e3 := q_nltI c1; omega }; omega) (by have t1 : (-1081) ≤ x1.toInt := q_leI x1lo; have t2 : x1.toInt ≤ (-1) := q_leI x1hi; have t3 : 0 ≤ (x1.toInt + 1080) := by { have e1 : ((x1 + 1080) : Int32).toInt = (x1.toInt + 1080) := (q_addI (x := x1.toInt) (y := 1080) rfl (by decide) (by have t1 : (-1081) ≤ x1.toInt := q_leI x1lo; have t2 : x1.toInt ≤ (-1) := q_leI x1hi; omega) (by have t1 : (-1081) ≤ x1.toInt := q_leI x1lo; have t2 : x1.toInt ≤ (-1) := q_leI x1hi; omega)); have e2 : (0 : Int32).toInt = 0 := (by decide); have e3 := q_nltI c1; omega }; omega)) (by decide) (by have t1 : (-1081) ≤ x1.toInt := q_leI x1lo; have t2 : x1.toInt ≤ (-1) := q_leI x1hi; have t3 : 0 ≤ (x1.toInt + 1080) := by { have e1 : ((x1 + 1080) : Int32).toInt = (x1.toInt + 1080) := (q_addI (x := x1.toInt) (y := 1080) rfl (by decide) (by have t1 : (-1081) ≤ x1.toInt := q_leI x1lo; have t2 : x1.toInt ≤ (-1) := q_leI x1hi; omega) (by have t1 : (-1081) ≤ x1.toInt := q_leI x1lo; have t2 : x1.toInt ≤ (-1) := q_leI x1hi; omega)); have e2 : (0 : Int32).toInt = 0 := (by decide); have e3 := q_nltI c1; omega }; omega)) c2)
    refine lv_aload_n hx hb d_17_27_21 rfl (lv_at hl 1 rfl) ?_
    refine q_get (ci := 15) (j := 6) (v := .ref qA6) C0 V i_FR rfl rfl hO0 (by decide) w_2081 rfl d_17_27_22 ?_
    refine lv_iload_n hx hb d_17_27_25 rfl (lv_at hl 0 rfl) ?_
    refine q_iald C0 V hA6 (q_ix (x := (x1.toInt + 1080)) (q_addI (x := x1.toInt) (y := 1080) rfl (by decide) (by have t1 : (-1081) ≤ x1.toInt := q_leI x1lo; have t2 : x1.toInt ≤ (-1) := q_leI x1hi; have t3 : 0 ≤ (x1.toInt + 1080) := by { have e1 : ((x1 + 1080) : Int32).toInt = (x1.toInt + 1080) := (q_addI (x := x1.toInt) (y := 1080) rfl (by decide) (by have t1 : (-1081) ≤ x1.toInt := q_leI x1lo; have t2 : x1.toInt ≤ (-1) := q_leI x1hi; omega) (by have t1 : (-1081) ≤ x1.toInt := q_leI x1lo; have t2 : x1.toInt ≤ (-1) := q_leI x1hi; omega)); have e2 : (0 : Int32).toInt = 0 := (by decide); have e3 := q_nltI c1; omega }; omega) (by have t1 : (-1081) ≤ x1.toInt := q_leI x1lo; have t2 : x1.toInt ≤ (-1) := q_leI x1hi; have t3 : 0 ≤ (x1.toInt + 1080) := by { have e1 : ((x1 + 1080) : Int32).toInt = (x1.toInt + 1080) := (q_addI (x := x1.toInt) (y := 1080) rfl (by decide) (by have t1 : (-1081) ≤ x1.toInt := q_leI x1lo; have t2 : x1.toInt ≤ (-1) := q_leI x1hi; omega) (by have t1 : (-1081) ≤ x1.toInt := q_leI x1lo; have t2 : x1.toInt ≤ (-1) := q_leI x1hi; omega)); have e2 : (0 : Int32).toInt = 0 := (by decide); have e3 := q_nltI c1; omega }; omega)) (by have t1 : (-1081) ≤ x1.toInt := q_leI x1lo; have t2 : x1.toInt ≤ (-1) := q_leI x1hi; have t3 : 0 ≤ (x1.toInt + 1080) := by { have e1 : ((x1 + 1080) : Int32).toInt = (x1.toInt + 1080) := (q_addI (x := x1.toInt) (y := 1080) rfl (by decide) (by have t1 : (-1081) ≤ x1.toInt := q_leI x1lo; have t2 : x1.toInt ≤ (-1) := q_leI x1hi; omega) (by have t1 : (-1081) ≤ x1.toInt := q_leI x1lo; have t2 : x1.toInt ≤ (-1) := q_leI x1hi; omega)); have e2 : (0 : Int32).toInt = 0 := (by decide); have e3 := q_nltI c1; omega }; omega) (by have t1 : (-1081) ≤ x1.toInt := q_leI x1lo; have t2 : x1.toInt ≤ (-1) := q_leI x1hi; have t3 : 0 ≤ (x1.toInt + 1080) := by { have e1 : ((x1 + 1080) : Int32).toInt = (x1.toInt + 1080) := (q_addI (x := x1.toInt) (y := 1080) rfl (by decide) (by have t1 : (-1081) ≤ x1.toInt := q_leI x1lo; have t2 : x1.toInt ≤ (-1) := q_leI x1hi; omega) (by have t1 : (-1081) ≤ x1.toInt := q_leI x1lo; have t2 : x1.toInt ≤ (-1) := q_leI x1hi; omega)); have e2 : (0 : Int32).toInt = 0 := (by decide); have e3 := q_nltI c1; omega }; omega)) d_17_27_26 ?_
    refine q_ti (v := 0) (by first | rfl | decide | simp [upd, vp_updL, sb_cl0]) ?_
    exact q_reti C0 V (⟨rfl, rfl⟩) d_17_27_27
set_option maxRecDepth 100000 in
set_option maxHeartbeats 4000000 in
theorem c_FR_figureAt_9 (l : Launch) (D : va_G) (g : Nat → ClassId) (ws : va_W) (kO0 kA6 qO0 qA1 qA2 qA3 qA4 qA5 qA6 qA7 : Nat) (x1 : Int32) (y2 : Int32) (hO0 : ws[kO0]? = (some (qO0, .inr (15, [.int 0, .ref qA1, .ref qA2, .ref qA3, .ref qA4, .ref qA5, .ref qA6, .ref qA7, .int y2, .int 0, .int 0, .long 0, .int 23, .int 255, .long 0, .int (-149), .long 0, .int 0])) : Option (Nat × va_E))) (hA6 : ws[kA6]? = (some (qA6, .inl (g 0, 1404, .inl (fun _ => 0))) : Option (Nat × va_E))) (x1lo : (-1081) ≤ x1) (x1hi : x1 ≤ (-1)) (y2lo : 2 ≤ y2) (y2hi : y2 ≤ 1082) : q_mI l y_FR_figureAt prog_17_method_27_code 3 (.int) 1 0 0 D g [.ref qO0, .int x1] ws (fun r u => 0 = r ∧ ws = u) := by
  intro sz
  refine q_into (by decide) (Nat.le_of_ble_eq_true rfl) ?_
  intro p e s m below meth c ls hsz C0 V hl
  have hx := C0.1
  have hb := C0.2.1
  have hl : lv_has ls 3 [(0, .ref qO0), (1, .int x1)] := hl
  refine lv_iload_n hx hb d_17_27_0 rfl (lv_at hl 1 rfl) ?_
  refine lv_sipush (v := 1080) hx hb d_17_27_1 (by decide) ?_
  refine lv_iadd hx hb d_17_27_4 ?_
  refine lv_istore_n (lv' := [(2, .int (x1 + 1080)), (0, .ref qO0), (1, .int x1)]) hx hb d_17_27_5 rfl hl (by decide) rfl (fun ls hl => ?_)
  refine lv_iload_n hx hb d_17_27_6 rfl (lv_at hl 0 rfl) ?_
  refine lv_if_lt (tgt := 17) hx hb d_17_27_7 (by decide) (fun c1 => ?_) (fun c1 => ?_)
  ·
    refine lv_iconst (v := 0) hx hb d_17_27_17 (by decide) ?_
    refine lv_goto (tgt := 27) hx hb d_17_27_18 (by decide) ?_
    exact q_reti C0 V (⟨rfl, rfl⟩) d_17_27_27
  ·
    refine lv_iload_n hx hb d_17_27_10 rfl (lv_at hl 0 rfl) ?_
    refine lv_sipush (v := 1404) hx hb d_17_27_11 (by decide) ?_
    refine lv_icmp_lt (tgt := 21) hx hb d_17_27_14 (by decide) (fun c2 => ?_) (fun c2 => absurd (q_Ilt (x := (x1.toInt + 1080)) (y := 1404) (q_addI (x := x1.toInt) (y := 1080) rfl (by decide) (by have t1 : (-1081) ≤ x1.toInt := q_leI x1lo; have t2 : x1.toInt ≤ (-1) := q_leI x1hi; have t3 : 0 ≤ (x1.toInt + 1080) := by { have e1 : ((x1 + 1080) : Int32).toInt = (x1.toInt + 1080) := (q_addI (x := x1.toInt) (y := 1080) rfl (by decide) (by have t1 : (-1081) ≤ x1.toInt := q_leI x1lo; have t2 : x1.toInt ≤ (-1) := q_leI x1hi; omega) (by have t1 : (-1081) ≤ x1.toInt := q_leI x1lo; have t2 : x1.toInt ≤ (-1) := q_leI x1hi; omega)); have e2 : (0 : Int32).toInt = 0 := (by decide); have e3 := q_nltI c1; omega }; omega) (by have t1 : (-1081) ≤ x1.toInt := q_leI x1lo; have t2 : x1.toInt ≤ (-1) := q_leI x1hi; have t3 : 0 ≤ (x1.toInt + 1080) := by { have e1 : ((x1 + 1080) : Int32).toInt = (x1.toInt + 1080) := (q_addI (x := x1.toInt) (y := 1080) rfl (by decide) (by have t1 : (-1081) ≤ x1.toInt := q_leI x1lo; have t2 : x1.toInt ≤ (-1) := q_leI x1hi; omega) (by have t1 : (-1081) ≤ x1.toInt := q_leI x1lo; have t2 : x1.toInt ≤ (-1) := q_leI x1hi; omega)); have e2 : (0 : Int32).toInt = 0 := (by decide); have e3 := q_nltI c1; omega }; omega)) (by decide) (by have t1 : (-1081) ≤ x1.toInt := q_leI x1lo; have t2 : x1.toInt ≤ (-1) := q_leI x1hi; have t3 : 0 ≤ (x1.toInt + 1080) := by { have e1 : ((x1 + 1080) : Int32).toInt = (x1.toInt + 1080) := (q_addI (x := x1.toInt) (y := 1080) rfl (by decide) (by have t1 : (-1081) ≤ x1.toInt := q_leI x1lo; have t2 : x1.toInt ≤ (-1) := q_leI x1hi; omega) (by have t1 : (-1081) ≤ x1.toInt := q_leI x1lo; have t2 : x1.toInt ≤ (-1) := q_leI x1hi; omega)); have e2 : (0 : Int32).toInt = 0 := (by decide); have e3 := q_nltI c1; omega }; omega)) c2)
    refine lv_aload_n hx hb d_17_27_21 rfl (lv_at hl 1 rfl) ?_
    refine q_get (ci := 15) (j := 6) (v := .ref qA6) C0 V i_FR rfl rfl hO0 (by decide) w_2081 rfl d_17_27_22 ?_
    refine lv_iload_n hx hb d_17_27_25 rfl (lv_at hl 0 rfl) ?_
    refine q_iald C0 V hA6 (q_ix (x := (x1.toInt + 1080)) (q_addI (x := x1.toInt) (y := 1080) rfl (by decide) (by have t1 : (-1081) ≤ x1.toInt := q_leI x1lo; have t2 : x1.toInt ≤ (-1) := q_leI x1hi; have t3 : 0 ≤ (x1.toInt + 1080) := by { have e1 : ((x1 + 1080) : Int32).toInt = (x1.toInt + 1080) := (q_addI (x := x1.toInt) (y := 1080) rfl (by decide) (by have t1 : (-1081) ≤ x1.toInt := q_leI x1lo; have t2 : x1.toInt ≤ (-1) := q_leI x1hi; omega) (by have t1 : (-1081) ≤ x1.toInt := q_leI x1lo; have t2 : x1.toInt ≤ (-1) := q_leI x1hi; omega)); have e2 : (0 : Int32).toInt = 0 := (by decide); have e3 := q_nltI c1; omega }; omega) (by have t1 : (-1081) ≤ x1.toInt := q_leI x1lo; have t2 : x1.toInt ≤ (-1) := q_leI x1hi; have t3 : 0 ≤ (x1.toInt + 1080) := by { have e1 : ((x1 + 1080) : Int32).toInt = (x1.toInt + 1080) := (q_addI (x := x1.toInt) (y := 1080) rfl (by decide) (by have t1 : (-1081) ≤ x1.toInt := q_leI x1lo; have t2 : x1.toInt ≤ (-1) := q_leI x1hi; omega) (by have t1 : (-1081) ≤ x1.toInt := q_leI x1lo; have t2 : x1.toInt ≤ (-1) := q_leI x1hi; omega)); have e2 : (0 : Int32).toInt = 0 := (by decide); have e3 := q_nltI c1; omega }; omega)) (by have t1 : (-1081) ≤ x1.toInt := q_leI x1lo; have t2 : x1.toInt ≤ (-1) := q_leI x1hi; have t3 : 0 ≤ (x1.toInt + 1080) := by { have e1 : ((x1 + 1080) : Int32).toInt = (x1.toInt + 1080) := (q_addI (x := x1.toInt) (y := 1080) rfl (by decide) (by have t1 : (-1081) ≤ x1.toInt := q_leI x1lo; have t2 : x1.toInt ≤ (-1) := q_leI x1hi; omega) (by have t1 : (-1081) ≤ x1.toInt := q_leI x1lo; have t2 : x1.toInt ≤ (-1) := q_leI x1hi; omega)); have e2 : (0 : Int32).toInt = 0 := (by decide); have e3 := q_nltI c1; omega }; omega) (by have t1 : (-1081) ≤ x1.toInt := q_leI x1lo; have t2 : x1.toInt ≤ (-1) := q_leI x1hi; have t3 : 0 ≤ (x1.toInt + 1080) := by { have e1 : ((x1 + 1080) : Int32).toInt = (x1.toInt + 1080) := (q_addI (x := x1.toInt) (y := 1080) rfl (by decide) (by have t1 : (-1081) ≤ x1.toInt := q_leI x1lo; have t2 : x1.toInt ≤ (-1) := q_leI x1hi; omega) (by have t1 : (-1081) ≤ x1.toInt := q_leI x1lo; have t2 : x1.toInt ≤ (-1) := q_leI x1hi; omega)); have e2 : (0 : Int32).toInt = 0 := (by decide); have e3 := q_nltI c1; omega }; omega)) d_17_27_26 ?_
    refine q_ti (v := 0) (by first | rfl | decide | simp [upd, vp_updL, sb_cl0]) ?_
    exact q_reti C0 V (⟨rfl, rfl⟩) d_17_27_27
set_option maxRecDepth 100000 in
set_option maxHeartbeats 4000000 in
theorem c_FR_add_16 (l : Launch) (D : va_G) (g : Nat → ClassId) (ws : va_W) (kO0 kA7 qO0 qA1 qA2 qA3 qA4 qA5 qA6 qA7 : Nat) (y1 : Int32) (hO0 : ws[kO0]? = (some (qO0, .inr (15, [.int 0, .ref qA1, .ref qA2, .ref qA3, .ref qA4, .ref qA5, .ref qA6, .ref qA7, .int y1, .int 0, .int 0, .long 0, .int 23, .int 255, .long 0, .int (-149), .long 0, .int 0])) : Option (Nat × va_E))) (hA7 : ws[kA7]? = (some (qA7, .inl (g 0, 1600, .inl (upd (upd (fun _ => 0) 0 48) 1 46))) : Option (Nat × va_E))) (y1lo : 2 ≤ y1) (y1hi : y1 ≤ 1082) : q_mV l y_FR_add prog_17_method_16_code 2 1 0 0 D g [.ref qO0, .int 48] ws (fun u => q_un ws u [kO0, kA7] ∧ u[kO0]? = (some (qO0, .inr (15, [.int 0, .ref qA1, .ref qA2, .ref qA3, .ref qA4, .ref qA5, .ref qA6, .ref qA7, .int (y1 + 1), .int 0, .int 0, .long 0, .int 23, .int 255, .long 0, .int (-149), .long 0, .int 0])) : Option (Nat × va_E)) ∧ u[kA7]? = (some (qA7, .inl (g 0, 1600, .inl (upd (upd (upd (fun _ => 0) 0 48) 1 46) y1.toNatClampNeg 48))) : Option (Nat × va_E))) := by
  intro sz
  refine q_into (by decide) (Nat.le_of_ble_eq_true rfl) ?_
  intro p e s m below meth c ls hsz C0 V hl
  have hx := C0.1
  have hb := C0.2.1
  have hl : lv_has ls 2 [(0, .ref qO0), (1, .int 48)] := hl
  have n_A7_O0 := q_df hA7 hO0
  have n_O0_A7 := Ne.symm (q_df hA7 hO0)
  have hF : q_un ws ws [kO0, kA7] := q_u0
  refine lv_aload_n hx hb d_17_16_0 rfl (lv_at hl 0 rfl) ?_
  refine q_get (ci := 15) (j := 7) (v := .ref qA7) C0 V i_FR rfl rfl hO0 (by decide) w_2082 rfl d_17_16_1 ?_
  refine lv_aload_n hx hb d_17_16_4 rfl (lv_at hl 0 rfl) ?_
  refine q_get (ci := 15) (j := 8) (v := .int y1) C0 V i_FR rfl rfl hO0 (by decide) w_2084 rfl d_17_16_5 ?_
  refine lv_iload_n hx hb d_17_16_8 rfl (lv_at hl 1 rfl) ?_
  refine q_iast C0 V hA7 (q_ix (x := y1.toInt) rfl (by have t1 : 2 ≤ y1.toInt := q_leI y1lo; have t2 : y1.toInt ≤ 1082 := q_leI y1hi; omega) (by have t1 : 2 ≤ y1.toInt := q_leI y1lo; have t2 : y1.toInt ≤ 1082 := q_leI y1hi; omega)) d_17_16_9 (fun H locs w1 hu2 hA7 V => ?_)
  replace hA7 : w1[kA7]? = (some (qA7, .inl (g 0, 1600, .inl (upd (upd (upd (fun _ => 0) 0 48) 1 46) y1.toNatClampNeg 48))) : Option (Nat × va_E)) := hA7
  replace hF := q_us hF hu2 (.tail _ (.head _))
  refine lv_aload_n hx hb d_17_16_10 rfl (lv_at hl 0 rfl) ?_
  refine lv_dup hx hb d_17_16_11 rfl ?_
  replace hO0 := (hu2 _ n_O0_A7).trans (hO0)
  refine q_get (ci := 15) (j := 8) (v := .int y1) C0 V i_FR rfl rfl hO0 (by decide) w_2084 rfl d_17_16_12 ?_
  refine lv_iconst (v := 1) hx hb d_17_16_15 (by decide) ?_
  refine lv_iadd hx hb d_17_16_16 ?_
  refine q_put (ci := 15) (j := 8) (v := .int (y1 + 1)) (ty := .int) C0 V i_FR o_FR n_FR rfl rfl hO0 (by decide) w_2084 rfl rfl rfl rfl (Nat.le_of_ble_eq_true rfl) d_17_16_17 (fun H locs w3 hu4 hO0 V => ?_)
  replace hO0 : w3[kO0]? = (some (qO0, .inr (15, [.int 0, .ref qA1, .ref qA2, .ref qA3, .ref qA4, .ref qA5, .ref qA6, .ref qA7, .int (y1 + 1), .int 0, .int 0, .long 0, .int 23, .int 255, .long 0, .int (-149), .long 0, .int 0])) : Option (Nat × va_E)) := hO0
  replace hF := q_us hF hu4 (.head _)
  replace hA7 := (hu4 _ n_A7_O0).trans (hA7)
  exact q_retv C0 V (⟨hF, hO0, hA7⟩) d_17_16_20
set_option maxRecDepth 100000 in
set_option maxHeartbeats 4000000 in
theorem c_FR_add_17 (l : Launch) (D : va_G) (g : Nat → ClassId) (ws : va_W) (kO0 kA7 qO0 qA1 qA2 qA3 qA4 qA5 qA6 qA7 : Nat) (y1 : Int32) (f3 : Nat → Int32) (hO0 : ws[kO0]? = (some (qO0, .inr (15, [.int 0, .ref qA1, .ref qA2, .ref qA3, .ref qA4, .ref qA5, .ref qA6, .ref qA7, .int y1, .int 0, .int 0, .long 0, .int 23, .int 255, .long 0, .int (-149), .long 0, .int 0])) : Option (Nat × va_E))) (hA7 : ws[kA7]? = (some (qA7, .inl (g 0, 1600, .inl f3)) : Option (Nat × va_E))) (y1lo : 2 ≤ y1) (y1hi : y1 ≤ 1082) : q_mV l y_FR_add prog_17_method_16_code 2 1 0 0 D g [.ref qO0, .int 48] ws (fun u => q_un ws u [kO0, kA7] ∧ u[kO0]? = (some (qO0, .inr (15, [.int 0, .ref qA1, .ref qA2, .ref qA3, .ref qA4, .ref qA5, .ref qA6, .ref qA7, .int (y1 + 1), .int 0, .int 0, .long 0, .int 23, .int 255, .long 0, .int (-149), .long 0, .int 0])) : Option (Nat × va_E)) ∧ u[kA7]? = (some (qA7, .inl (g 0, 1600, .inl (upd f3 y1.toNatClampNeg 48))) : Option (Nat × va_E))) := by
  intro sz
  refine q_into (by decide) (Nat.le_of_ble_eq_true rfl) ?_
  intro p e s m below meth c ls hsz C0 V hl
  have hx := C0.1
  have hb := C0.2.1
  have hl : lv_has ls 2 [(0, .ref qO0), (1, .int 48)] := hl
  have n_A7_O0 := q_df hA7 hO0
  have n_O0_A7 := Ne.symm (q_df hA7 hO0)
  have hF : q_un ws ws [kO0, kA7] := q_u0
  refine lv_aload_n hx hb d_17_16_0 rfl (lv_at hl 0 rfl) ?_
  refine q_get (ci := 15) (j := 7) (v := .ref qA7) C0 V i_FR rfl rfl hO0 (by decide) w_2082 rfl d_17_16_1 ?_
  refine lv_aload_n hx hb d_17_16_4 rfl (lv_at hl 0 rfl) ?_
  refine q_get (ci := 15) (j := 8) (v := .int y1) C0 V i_FR rfl rfl hO0 (by decide) w_2084 rfl d_17_16_5 ?_
  refine lv_iload_n hx hb d_17_16_8 rfl (lv_at hl 1 rfl) ?_
  refine q_iast C0 V hA7 (q_ix (x := y1.toInt) rfl (by have t1 : 2 ≤ y1.toInt := q_leI y1lo; have t2 : y1.toInt ≤ 1082 := q_leI y1hi; omega) (by have t1 : 2 ≤ y1.toInt := q_leI y1lo; have t2 : y1.toInt ≤ 1082 := q_leI y1hi; omega)) d_17_16_9 (fun H locs w1 hu2 hA7 V => ?_)
  replace hA7 : w1[kA7]? = (some (qA7, .inl (g 0, 1600, .inl (upd f3 y1.toNatClampNeg 48))) : Option (Nat × va_E)) := hA7
  replace hF := q_us hF hu2 (.tail _ (.head _))
  refine lv_aload_n hx hb d_17_16_10 rfl (lv_at hl 0 rfl) ?_
  refine lv_dup hx hb d_17_16_11 rfl ?_
  replace hO0 := (hu2 _ n_O0_A7).trans (hO0)
  refine q_get (ci := 15) (j := 8) (v := .int y1) C0 V i_FR rfl rfl hO0 (by decide) w_2084 rfl d_17_16_12 ?_
  refine lv_iconst (v := 1) hx hb d_17_16_15 (by decide) ?_
  refine lv_iadd hx hb d_17_16_16 ?_
  refine q_put (ci := 15) (j := 8) (v := .int (y1 + 1)) (ty := .int) C0 V i_FR o_FR n_FR rfl rfl hO0 (by decide) w_2084 rfl rfl rfl rfl (Nat.le_of_ble_eq_true rfl) d_17_16_17 (fun H locs w3 hu4 hO0 V => ?_)
  replace hO0 : w3[kO0]? = (some (qO0, .inr (15, [.int 0, .ref qA1, .ref qA2, .ref qA3, .ref qA4, .ref qA5, .ref qA6, .ref qA7, .int (y1 + 1), .int 0, .int 0, .long 0, .int 23, .int 255, .long 0, .int (-149), .long 0, .int 0])) : Option (Nat × va_E)) := hO0
  replace hF := q_us hF hu4 (.head _)
  replace hA7 := (hu4 _ n_A7_O0).trans (hA7)
  exact q_retv C0 V (⟨hF, hO0, hA7⟩) d_17_16_20
set_option maxRecDepth 100000 in
set_option maxHeartbeats 4000000 in
theorem c_FR_figureAt_10 (l : Launch) (D : va_G) (g : Nat → ClassId) (ws : va_W) (kO0 kA6 qO0 qA1 qA2 qA3 qA4 qA5 qA6 qA7 : Nat) (x1 : Int32) (y2 : Int32) (hO0 : ws[kO0]? = (some (qO0, .inr (15, [.int 0, .ref qA1, .ref qA2, .ref qA3, .ref qA4, .ref qA5, .ref qA6, .ref qA7, .int y2, .int 0, .int 0, .long 0, .int 23, .int 255, .long 0, .int (-149), .long 0, .int 0])) : Option (Nat × va_E))) (hA6 : ws[kA6]? = (some (qA6, .inl (g 0, 1404, .inl (fun _ => 0))) : Option (Nat × va_E))) (x1lo : (-1101) ≤ x1) (x1hi : x1 ≤ (-1)) (y2lo : 2 ≤ y2) (y2hi : y2 ≤ 1102) : q_mI l y_FR_figureAt prog_17_method_27_code 3 (.int) 1 0 0 D g [.ref qO0, .int x1] ws (fun r u => 0 = r ∧ ws = u) := by
  intro sz
  refine q_into (by decide) (Nat.le_of_ble_eq_true rfl) ?_
  intro p e s m below meth c ls hsz C0 V hl
  have hx := C0.1
  have hb := C0.2.1
  have hl : lv_has ls 3 [(0, .ref qO0), (1, .int x1)] := hl
  refine lv_iload_n hx hb d_17_27_0 rfl (lv_at hl 1 rfl) ?_
  refine lv_sipush (v := 1080) hx hb d_17_27_1 (by decide) ?_
  refine lv_iadd hx hb d_17_27_4 ?_
  refine lv_istore_n (lv' := [(2, .int (x1 + 1080)), (0, .ref qO0), (1, .int x1)]) hx hb d_17_27_5 rfl hl (by decide) rfl (fun ls hl => ?_)
  refine lv_iload_n hx hb d_17_27_6 rfl (lv_at hl 0 rfl) ?_
  refine lv_if_lt (tgt := 17) hx hb d_17_27_7 (by decide) (fun c1 => ?_) (fun c1 => ?_)
  ·
    refine lv_iconst (v := 0) hx hb d_17_27_17 (by decide) ?_
    refine lv_goto (tgt := 27) hx hb d_17_27_18 (by decide) ?_
    exact q_reti C0 V (⟨rfl, rfl⟩) d_17_27_27
  ·
    refine lv_iload_n hx hb d_17_27_10 rfl (lv_at hl 0 rfl) ?_
    refine lv_sipush (v := 1404) hx hb d_17_27_11 (by decide) ?_
    refine lv_icmp_lt (tgt := 21) hx hb d_17_27_14 (by decide) (fun c2 => ?_) (fun c2 => absurd (q_Ilt (x := (x1.toInt + 1080)) (y := 1404) (q_addI (x := x1.toInt) (y := 1080) rfl (by decide) (by have t1 : (-1101) ≤ x1.toInt := q_leI x1lo; have t2 : x1.toInt ≤ (-1) := q_leI x1hi; have t3 : 0 ≤ (x1.toInt + 1080) := by { have e1 : ((x1 + 1080) : Int32).toInt = (x1.toInt + 1080) := (q_addI (x := x1.toInt) (y := 1080) rfl (by decide) (by have t1 : (-1101) ≤ x1.toInt := q_leI x1lo; have t2 : x1.toInt ≤ (-1) := q_leI x1hi; omega) (by have t1 : (-1101) ≤ x1.toInt := q_leI x1lo; have t2 : x1.toInt ≤ (-1) := q_leI x1hi; omega)); have e2 : (0 : Int32).toInt = 0 := (by decide); have e3 := q_nltI c1; omega }; omega) (by have t1 : (-1101) ≤ x1.toInt := q_leI x1lo; have t2 : x1.toInt ≤ (-1) := q_leI x1hi; have t3 : 0 ≤ (x1.toInt + 1080) := by { have e1 : ((x1 + 1080) : Int32).toInt = (x1.toInt + 1080) := (q_addI (x := x1.toInt) (y := 1080) rfl (by decide) (by have t1 : (-1101) ≤ x1.toInt := q_leI x1lo; have t2 : x1.toInt ≤ (-1) := q_leI x1hi; omega) (by have t1 : (-1101) ≤ x1.toInt := q_leI x1lo; have t2 : x1.toInt ≤ (-1) := q_leI x1hi; omega)); have e2 : (0 : Int32).toInt = 0 := (by decide); have e3 := q_nltI c1; omega }; omega)) (by decide) (by have t1 : (-1101) ≤ x1.toInt := q_leI x1lo; have t2 : x1.toInt ≤ (-1) := q_leI x1hi; have t3 : 0 ≤ (x1.toInt + 1080) := by { have e1 : ((x1 + 1080) : Int32).toInt = (x1.toInt + 1080) := (q_addI (x := x1.toInt) (y := 1080) rfl (by decide) (by have t1 : (-1101) ≤ x1.toInt := q_leI x1lo; have t2 : x1.toInt ≤ (-1) := q_leI x1hi; omega) (by have t1 : (-1101) ≤ x1.toInt := q_leI x1lo; have t2 : x1.toInt ≤ (-1) := q_leI x1hi; omega)); have e2 : (0 : Int32).toInt = 0 := (by decide); have e3 := q_nltI c1; omega }; omega)) c2)
    refine lv_aload_n hx hb d_17_27_21 rfl (lv_at hl 1 rfl) ?_
    refine q_get (ci := 15) (j := 6) (v := .ref qA6) C0 V i_FR rfl rfl hO0 (by decide) w_2081 rfl d_17_27_22 ?_
    refine lv_iload_n hx hb d_17_27_25 rfl (lv_at hl 0 rfl) ?_
    refine q_iald C0 V hA6 (q_ix (x := (x1.toInt + 1080)) (q_addI (x := x1.toInt) (y := 1080) rfl (by decide) (by have t1 : (-1101) ≤ x1.toInt := q_leI x1lo; have t2 : x1.toInt ≤ (-1) := q_leI x1hi; have t3 : 0 ≤ (x1.toInt + 1080) := by { have e1 : ((x1 + 1080) : Int32).toInt = (x1.toInt + 1080) := (q_addI (x := x1.toInt) (y := 1080) rfl (by decide) (by have t1 : (-1101) ≤ x1.toInt := q_leI x1lo; have t2 : x1.toInt ≤ (-1) := q_leI x1hi; omega) (by have t1 : (-1101) ≤ x1.toInt := q_leI x1lo; have t2 : x1.toInt ≤ (-1) := q_leI x1hi; omega)); have e2 : (0 : Int32).toInt = 0 := (by decide); have e3 := q_nltI c1; omega }; omega) (by have t1 : (-1101) ≤ x1.toInt := q_leI x1lo; have t2 : x1.toInt ≤ (-1) := q_leI x1hi; have t3 : 0 ≤ (x1.toInt + 1080) := by { have e1 : ((x1 + 1080) : Int32).toInt = (x1.toInt + 1080) := (q_addI (x := x1.toInt) (y := 1080) rfl (by decide) (by have t1 : (-1101) ≤ x1.toInt := q_leI x1lo; have t2 : x1.toInt ≤ (-1) := q_leI x1hi; omega) (by have t1 : (-1101) ≤ x1.toInt := q_leI x1lo; have t2 : x1.toInt ≤ (-1) := q_leI x1hi; omega)); have e2 : (0 : Int32).toInt = 0 := (by decide); have e3 := q_nltI c1; omega }; omega)) (by have t1 : (-1101) ≤ x1.toInt := q_leI x1lo; have t2 : x1.toInt ≤ (-1) := q_leI x1hi; have t3 : 0 ≤ (x1.toInt + 1080) := by { have e1 : ((x1 + 1080) : Int32).toInt = (x1.toInt + 1080) := (q_addI (x := x1.toInt) (y := 1080) rfl (by decide) (by have t1 : (-1101) ≤ x1.toInt := q_leI x1lo; have t2 : x1.toInt ≤ (-1) := q_leI x1hi; omega) (by have t1 : (-1101) ≤ x1.toInt := q_leI x1lo; have t2 : x1.toInt ≤ (-1) := q_leI x1hi; omega)); have e2 : (0 : Int32).toInt = 0 := (by decide); have e3 := q_nltI c1; omega }; omega) (by have t1 : (-1101) ≤ x1.toInt := q_leI x1lo; have t2 : x1.toInt ≤ (-1) := q_leI x1hi; have t3 : 0 ≤ (x1.toInt + 1080) := by { have e1 : ((x1 + 1080) : Int32).toInt = (x1.toInt + 1080) := (q_addI (x := x1.toInt) (y := 1080) rfl (by decide) (by have t1 : (-1101) ≤ x1.toInt := q_leI x1lo; have t2 : x1.toInt ≤ (-1) := q_leI x1hi; omega) (by have t1 : (-1101) ≤ x1.toInt := q_leI x1lo; have t2 : x1.toInt ≤ (-1) := q_leI x1hi; omega)); have e2 : (0 : Int32).toInt = 0 := (by decide); have e3 := q_nltI c1; omega }; omega)) d_17_27_26 ?_
    refine q_ti (v := 0) (by first | rfl | decide | simp [upd, vp_updL, sb_cl0]) ?_
    exact q_reti C0 V (⟨rfl, rfl⟩) d_17_27_27
set_option maxRecDepth 100000 in
set_option maxHeartbeats 4000000 in
theorem c_FR_add_18 (l : Launch) (D : va_G) (g : Nat → ClassId) (ws : va_W) (kO0 kA7 qO0 qA1 qA2 qA3 qA4 qA5 qA6 qA7 : Nat) (y1 : Int32) (f3 : Nat → Int32) (hO0 : ws[kO0]? = (some (qO0, .inr (15, [.int 0, .ref qA1, .ref qA2, .ref qA3, .ref qA4, .ref qA5, .ref qA6, .ref qA7, .int y1, .int 0, .int 0, .long 0, .int 23, .int 255, .long 0, .int (-149), .long 0, .int 0])) : Option (Nat × va_E))) (hA7 : ws[kA7]? = (some (qA7, .inl (g 0, 1600, .inl f3)) : Option (Nat × va_E))) (y1lo : 2 ≤ y1) (y1hi : y1 ≤ 1102) : q_mV l y_FR_add prog_17_method_16_code 2 1 0 0 D g [.ref qO0, .int 48] ws (fun u => q_un ws u [kO0, kA7] ∧ u[kO0]? = (some (qO0, .inr (15, [.int 0, .ref qA1, .ref qA2, .ref qA3, .ref qA4, .ref qA5, .ref qA6, .ref qA7, .int (y1 + 1), .int 0, .int 0, .long 0, .int 23, .int 255, .long 0, .int (-149), .long 0, .int 0])) : Option (Nat × va_E)) ∧ u[kA7]? = (some (qA7, .inl (g 0, 1600, .inl (upd f3 y1.toNatClampNeg 48))) : Option (Nat × va_E))) := by
  intro sz
  refine q_into (by decide) (Nat.le_of_ble_eq_true rfl) ?_
  intro p e s m below meth c ls hsz C0 V hl
  have hx := C0.1
  have hb := C0.2.1
  have hl : lv_has ls 2 [(0, .ref qO0), (1, .int 48)] := hl
  have n_A7_O0 := q_df hA7 hO0
  have n_O0_A7 := Ne.symm (q_df hA7 hO0)
  have hF : q_un ws ws [kO0, kA7] := q_u0
  refine lv_aload_n hx hb d_17_16_0 rfl (lv_at hl 0 rfl) ?_
  refine q_get (ci := 15) (j := 7) (v := .ref qA7) C0 V i_FR rfl rfl hO0 (by decide) w_2082 rfl d_17_16_1 ?_
  refine lv_aload_n hx hb d_17_16_4 rfl (lv_at hl 0 rfl) ?_
  refine q_get (ci := 15) (j := 8) (v := .int y1) C0 V i_FR rfl rfl hO0 (by decide) w_2084 rfl d_17_16_5 ?_
  refine lv_iload_n hx hb d_17_16_8 rfl (lv_at hl 1 rfl) ?_
  refine q_iast C0 V hA7 (q_ix (x := y1.toInt) rfl (by have t1 : 2 ≤ y1.toInt := q_leI y1lo; have t2 : y1.toInt ≤ 1102 := q_leI y1hi; omega) (by have t1 : 2 ≤ y1.toInt := q_leI y1lo; have t2 : y1.toInt ≤ 1102 := q_leI y1hi; omega)) d_17_16_9 (fun H locs w1 hu2 hA7 V => ?_)
  replace hA7 : w1[kA7]? = (some (qA7, .inl (g 0, 1600, .inl (upd f3 y1.toNatClampNeg 48))) : Option (Nat × va_E)) := hA7
  replace hF := q_us hF hu2 (.tail _ (.head _))
  refine lv_aload_n hx hb d_17_16_10 rfl (lv_at hl 0 rfl) ?_
  refine lv_dup hx hb d_17_16_11 rfl ?_
  replace hO0 := (hu2 _ n_O0_A7).trans (hO0)
  refine q_get (ci := 15) (j := 8) (v := .int y1) C0 V i_FR rfl rfl hO0 (by decide) w_2084 rfl d_17_16_12 ?_
  refine lv_iconst (v := 1) hx hb d_17_16_15 (by decide) ?_
  refine lv_iadd hx hb d_17_16_16 ?_
  refine q_put (ci := 15) (j := 8) (v := .int (y1 + 1)) (ty := .int) C0 V i_FR o_FR n_FR rfl rfl hO0 (by decide) w_2084 rfl rfl rfl rfl (Nat.le_of_ble_eq_true rfl) d_17_16_17 (fun H locs w3 hu4 hO0 V => ?_)
  replace hO0 : w3[kO0]? = (some (qO0, .inr (15, [.int 0, .ref qA1, .ref qA2, .ref qA3, .ref qA4, .ref qA5, .ref qA6, .ref qA7, .int (y1 + 1), .int 0, .int 0, .long 0, .int 23, .int 255, .long 0, .int (-149), .long 0, .int 0])) : Option (Nat × va_E)) := hO0
  replace hF := q_us hF hu4 (.head _)
  replace hA7 := (hu4 _ n_A7_O0).trans (hA7)
  exact q_retv C0 V (⟨hF, hO0, hA7⟩) d_17_16_20
set_option maxRecDepth 100000 in
set_option maxHeartbeats 4000000 in
theorem c_FR_fixed_6 (l : Launch) (D : va_G) (g : Nat → ClassId) (ws : va_W) (kO0 kA1 kA2 kA3 kA6 kA7 qO0 qA1 qA2 qA3 qA4 qA5 qA6 qA7 : Nat) (x1 : Int32) (x2 : Int32) (hO0 : ws[kO0]? = (some (qO0, .inr (15, [.int 0, .ref qA1, .ref qA2, .ref qA3, .ref qA4, .ref qA5, .ref qA6, .ref qA7, .int 0, .int 0, .int 0, .long 0, .int 0, .int 0, .long 0, .int 0, .long 0, .int 0])) : Option (Nat × va_E))) (hA1 : ws[kA1]? = (some (qA1, .inl (g 0, 156, .inl (fun _ => 0))) : Option (Nat × va_E))) (hA2 : ws[kA2]? = (some (qA2, .inl (g 0, 156, .inl (fun _ => 0))) : Option (Nat × va_E))) (hA3 : ws[kA3]? = (some (qA3, .inl (g 0, 1404, .inl (fun _ => 0))) : Option (Nat × va_E))) (hA6 : ws[kA6]? = (some (qA6, .inl (g 0, 1404, .inl (fun _ => 0))) : Option (Nat × va_E))) (hA7 : ws[kA7]? = (some (qA7, .inl (g 0, 1600, .inl (fun _ => 0))) : Option (Nat × va_E))) (n_A1_A2 : kA1 ≠ kA2) (n_A1_A3 : kA1 ≠ kA3) (n_A1_A6 : kA1 ≠ kA6) (n_A1_A7 : kA1 ≠ kA7) (n_A2_A6 : kA2 ≠ kA6) (n_A2_A7 : kA2 ≠ kA7) (n_A3_A2 : kA3 ≠ kA2) (n_A3_A6 : kA3 ≠ kA6) (n_A3_A7 : kA3 ≠ kA7) (n_A6_A7 : kA6 ≠ kA7) : q_mI l y_FR_fixed prog_17_method_29_code 9 (.int) 3 0 0 D g [.ref qO0, .long 0, .int 1, .int x1, .int x2] ws (fun r u => (x1 < 0 ∧ 0 = r ∧ q_un ws u [kO0, kA1, kA2, kA3, kA6, kA7] ∧ u[kO0]? = (some (qO0, .inr (15, [.int 1, .ref qA1, .ref qA2, .ref qA3, .ref qA4, .ref qA5, .ref qA6, .ref qA7, .int 0, .int 0, .int 0, .long 0, .int 23, .int 255, .long 0, .int (-149), .long 0, .int 0])) : Option (Nat × va_E)) ∧ u[kA1]? = (some (qA1, .inl (g 0, 156, .inl (fun _ => 0))) : Option (Nat × va_E)) ∧ u[kA2]? = (some (qA2, .inl (g 0, 156, .inl (fun _ => 0))) : Option (Nat × va_E)) ∧ u[kA3]? = (some (qA3, .inl (g 0, 1404, .inl (fun _ => 0))) : Option (Nat × va_E)) ∧ u[kA6]? = (some (qA6, .inl (g 0, 1404, .inl (fun _ => 0))) : Option (Nat × va_E)) ∧ u[kA7]? = (some (qA7, .inl (g 0, 1600, .inl (fun _ => 0))) : Option (Nat × va_E))) ∨ (¬ x1 < 0 ∧ 1100 < x1 ∧ 0 = r ∧ q_un ws u [kO0, kA1, kA2, kA3, kA6, kA7] ∧ u[kO0]? = (some (qO0, .inr (15, [.int 1, .ref qA1, .ref qA2, .ref qA3, .ref qA4, .ref qA5, .ref qA6, .ref qA7, .int 0, .int 0, .int 0, .long 0, .int 23, .int 255, .long 0, .int (-149), .long 0, .int 0])) : Option (Nat × va_E)) ∧ u[kA1]? = (some (qA1, .inl (g 0, 156, .inl (fun _ => 0))) : Option (Nat × va_E)) ∧ u[kA2]? = (some (qA2, .inl (g 0, 156, .inl (fun _ => 0))) : Option (Nat × va_E)) ∧ u[kA3]? = (some (qA3, .inl (g 0, 1404, .inl (fun _ => 0))) : Option (Nat × va_E)) ∧ u[kA6]? = (some (qA6, .inl (g 0, 1404, .inl (fun _ => 0))) : Option (Nat × va_E)) ∧ u[kA7]? = (some (qA7, .inl (g 0, 1600, .inl (fun _ => 0))) : Option (Nat × va_E))) ∨ (¬ x1 < 0 ∧ ¬ 1100 < x1 ∧ x2 < 0 ∧ 0 = r ∧ q_un ws u [kO0, kA1, kA2, kA3, kA6, kA7] ∧ u[kO0]? = (some (qO0, .inr (15, [.int 1, .ref qA1, .ref qA2, .ref qA3, .ref qA4, .ref qA5, .ref qA6, .ref qA7, .int 0, .int 0, .int 0, .long 0, .int 23, .int 255, .long 0, .int (-149), .long 0, .int 0])) : Option (Nat × va_E)) ∧ u[kA1]? = (some (qA1, .inl (g 0, 156, .inl (fun _ => 0))) : Option (Nat × va_E)) ∧ u[kA2]? = (some (qA2, .inl (g 0, 156, .inl (fun _ => 0))) : Option (Nat × va_E)) ∧ u[kA3]? = (some (qA3, .inl (g 0, 1404, .inl (fun _ => 0))) : Option (Nat × va_E)) ∧ u[kA6]? = (some (qA6, .inl (g 0, 1404, .inl (fun _ => 0))) : Option (Nat × va_E)) ∧ u[kA7]? = (some (qA7, .inl (g 0, 1600, .inl (fun _ => 0))) : Option (Nat × va_E))) ∨ (∃ (ex0 : Nat → Int32), ¬ x1 < 0 ∧ ¬ 1100 < x1 ∧ ¬ x2 < 0 ∧ x2 ≤ 3 ∧ x1 ≤ 1080 ∧ x1 ≤ 0 ∧ 1 = r ∧ q_un ws u [kO0, kA1, kA2, kA3, kA6, kA7] ∧ u[kO0]? = (some (qO0, .inr (15, [.int 0, .ref qA1, .ref qA2, .ref qA3, .ref qA4, .ref qA5, .ref qA6, .ref qA7, .int 1, .int 0, .int 0, .long 0, .int 23, .int 255, .long 0, .int (-149), .long 0, .int 0])) : Option (Nat × va_E)) ∧ u[kA1]? = (some (qA1, .inl (g 0, 156, .inl ex0)) : Option (Nat × va_E)) ∧ u[kA2]? = (some (qA2, .inl (g 0, 156, .inl (fun _ => 0))) : Option (Nat × va_E)) ∧ u[kA3]? = (some (qA3, .inl (g 0, 1404, .inl (fun _ => 0))) : Option (Nat × va_E)) ∧ u[kA6]? = (some (qA6, .inl (g 0, 1404, .inl (fun _ => 0))) : Option (Nat × va_E)) ∧ u[kA7]? = (some (qA7, .inl (g 0, 1600, .inl (upd (fun _ => 0) 0 48))) : Option (Nat × va_E))) ∨ (∃ (ex0 : Int32) (ex1 : Nat → Int32) (ex2 : Nat → Int32), ¬ x1 < 0 ∧ ¬ 1100 < x1 ∧ ¬ x2 < 0 ∧ x2 ≤ 3 ∧ x1 ≤ 1080 ∧ ¬ x1 ≤ 0 ∧ (((-1) < (-x1.toInt) ∧ ex0.toInt = 2) ∨ ((-x1.toInt) ≤ (-1) ∧ ex0.toInt = 2 + 1 * ((-1) - (-x1.toInt) + 1))) ∧ 2 ≤ ex0 ∧ ex0 ≤ 1082 ∧ ex0 = r ∧ q_un ws u [kO0, kA1, kA2, kA3, kA6, kA7] ∧ u[kO0]? = (some (qO0, .inr (15, [.int 0, .ref qA1, .ref qA2, .ref qA3, .ref qA4, .ref qA5, .ref qA6, .ref qA7, .int ex0, .int 0, .int 0, .long 0, .int 23, .int 255, .long 0, .int (-149), .long 0, .int 0])) : Option (Nat × va_E)) ∧ u[kA1]? = (some (qA1, .inl (g 0, 156, .inl ex1)) : Option (Nat × va_E)) ∧ u[kA2]? = (some (qA2, .inl (g 0, 156, .inl (fun _ => 0))) : Option (Nat × va_E)) ∧ u[kA3]? = (some (qA3, .inl (g 0, 1404, .inl (fun _ => 0))) : Option (Nat × va_E)) ∧ u[kA6]? = (some (qA6, .inl (g 0, 1404, .inl (fun _ => 0))) : Option (Nat × va_E)) ∧ u[kA7]? = (some (qA7, .inl (g 0, 1600, .inl ex2)) : Option (Nat × va_E))) ∨ (∃ (ex0 : Int32) (ex1 : Nat → Int32) (ex2 : Nat → Int32), ¬ x1 < 0 ∧ ¬ 1100 < x1 ∧ ¬ x2 < 0 ∧ x2 ≤ 3 ∧ ¬ x1 ≤ 1080 ∧ (((-1) < (-x1.toInt) ∧ ex0.toInt = 2) ∨ ((-x1.toInt) ≤ (-1) ∧ ex0.toInt = 2 + 1 * ((-1) - (-x1.toInt) + 1))) ∧ 2 ≤ ex0 ∧ ex0 ≤ 1102 ∧ ex0 = r ∧ q_un ws u [kO0, kA1, kA2, kA3, kA6, kA7] ∧ u[kO0]? = (some (qO0, .inr (15, [.int 0, .ref qA1, .ref qA2, .ref qA3, .ref qA4, .ref qA5, .ref qA6, .ref qA7, .int ex0, .int 0, .int 0, .long 0, .int 23, .int 255, .long 0, .int (-149), .long 0, .int 0])) : Option (Nat × va_E)) ∧ u[kA1]? = (some (qA1, .inl (g 0, 156, .inl ex1)) : Option (Nat × va_E)) ∧ u[kA2]? = (some (qA2, .inl (g 0, 156, .inl (fun _ => 0))) : Option (Nat × va_E)) ∧ u[kA3]? = (some (qA3, .inl (g 0, 1404, .inl (fun _ => 0))) : Option (Nat × va_E)) ∧ u[kA6]? = (some (qA6, .inl (g 0, 1404, .inl (fun _ => 0))) : Option (Nat × va_E)) ∧ u[kA7]? = (some (qA7, .inl (g 0, 1600, .inl ex2)) : Option (Nat × va_E))) ∨ (¬ x1 < 0 ∧ ¬ 1100 < x1 ∧ ¬ x2 < 0 ∧ ¬ x2 ≤ 3 ∧ 0 = r ∧ q_un ws u [kO0, kA1, kA2, kA3, kA6, kA7] ∧ u[kO0]? = (some (qO0, .inr (15, [.int 1, .ref qA1, .ref qA2, .ref qA3, .ref qA4, .ref qA5, .ref qA6, .ref qA7, .int 0, .int 0, .int 0, .long 0, .int 23, .int 255, .long 0, .int (-149), .long 0, .int 0])) : Option (Nat × va_E)) ∧ u[kA1]? = (some (qA1, .inl (g 0, 156, .inl (fun _ => 0))) : Option (Nat × va_E)) ∧ u[kA2]? = (some (qA2, .inl (g 0, 156, .inl (fun _ => 0))) : Option (Nat × va_E)) ∧ u[kA3]? = (some (qA3, .inl (g 0, 1404, .inl (fun _ => 0))) : Option (Nat × va_E)) ∧ u[kA6]? = (some (qA6, .inl (g 0, 1404, .inl (fun _ => 0))) : Option (Nat × va_E)) ∧ u[kA7]? = (some (qA7, .inl (g 0, 1600, .inl (fun _ => 0))) : Option (Nat × va_E)))) := by
  intro sz
  refine q_into (by decide) (Nat.le_of_ble_eq_true rfl) ?_
  intro p e s m below meth c ls hsz C0 V hl
  have hx := C0.1
  have hb := C0.2.1
  have hl : lv_has ls 9 [(0, .ref qO0), (1, .long 0), (3, .int 1), (4, .int x1), (5, .int x2)] := hl
  have n_A1_O0 := q_df hA1 hO0
  have n_A2_O0 := q_df hA2 hO0
  have n_A3_O0 := q_df hA3 hO0
  have n_A6_A1 := Ne.symm n_A1_A6
  have n_A6_A2 := Ne.symm n_A2_A6
  have n_A6_A3 := Ne.symm n_A3_A6
  have n_A6_O0 := q_df hA6 hO0
  have n_A7_A1 := Ne.symm n_A1_A7
  have n_A7_A2 := Ne.symm n_A2_A7
  have n_A7_A3 := Ne.symm n_A3_A7
  have n_A7_A6 := Ne.symm n_A6_A7
  have n_A7_O0 := q_df hA7 hO0
  have n_O0_A1 := Ne.symm (q_df hA1 hO0)
  have n_O0_A2 := Ne.symm (q_df hA2 hO0)
  have n_O0_A3 := Ne.symm (q_df hA3 hO0)
  have n_O0_A6 := Ne.symm (q_df hA6 hO0)
  have hF : q_un ws ws [kO0, kA1, kA2, kA3, kA6, kA7] := q_u0
  refine lv_aload_n hx hb d_17_29_0 rfl (lv_at hl 0 rfl) ?_
  refine lv_lload_n hx hb d_17_29_1 rfl (lv_at hl 1 rfl) ?_
  refine lv_iload_n hx hb d_17_29_2 rfl (lv_at hl 2 rfl) ?_
  refine lv_if_eq (tgt := 18) hx hb d_17_29_3 (by decide) (fun c1 => absurd c1 (by decide)) (fun c1 => ?_)
  refine lv_lload_n hx hb d_17_29_6 rfl (lv_at hl 1 rfl) ?_
  refine lv_iload_n hx hb d_17_29_7 rfl (lv_at hl 2 rfl) ?_
  refine q_goi V (q_runS (As := [.long 0, .int 1]) (rest := [.long 0, .ref qO0]) (d := 1) (mc := 0) (ms := 0) C0 V rfl LS_FR_122 (c_FR_isWrong_2 l D g ws _) rfl hl.1 rfl (Nat.le_of_ble_eq_true rfl) ⟨by decide, by decide⟩ ⟨Nat.le_of_ble_eq_true rfl, Nat.le_of_ble_eq_true rfl⟩ d_17_29_8) (fun v4 u3 H locs hp2 V => ?_)
  obtain ⟨rfl, rfl⟩ := hp2
  refine lv_if_ne (tgt := 18) hx hb d_17_29_11 (by decide) (fun c6 => absurd (by decide) c6) (fun c6 => ?_)
  refine lv_iconst (v := 1) hx hb d_17_29_14 (by decide) ?_
  refine lv_goto (tgt := 19) hx hb d_17_29_15 (by decide) ?_
  refine q_gov V (q_runV (As := [.long 0, .int 1]) (rest := []) (d := 1) (mc := 0) (ms := 0) (ci := 15) C0 V rfl LV_FR_126 (c_FR_open_2 l D g ws kO0 qO0 qA1 qA2 qA3 qA4 qA5 qA6 qA7 hO0 _) rfl rfl hO0 rfl hl.1 rfl (Nat.le_of_ble_eq_true rfl) ⟨by decide, by decide⟩ ⟨Nat.le_of_ble_eq_true rfl, Nat.le_of_ble_eq_true rfl⟩ d_17_29_19) (fun u8 H locs hp7 V => ?_)
  obtain ⟨hg9, hO0⟩ := hp7
  replace hF := q_uc hF hg9 (q_sc (.head _) (fun _ h => absurd h List.not_mem_nil))
  refine lv_aload_n hx hb d_17_29_22 rfl (lv_at hl 0 rfl) ?_
  refine lv_lload_n hx hb d_17_29_23 rfl (lv_at hl 1 rfl) ?_
  refine lv_iload_n hx hb d_17_29_24 rfl (lv_at hl 2 rfl) ?_
  refine q_goi V (q_runS (As := [.long 0, .int 1]) (rest := [.ref qO0]) (d := 1) (mc := 0) (ms := 0) C0 V rfl LS_FR_122 (c_FR_isWrong_2 l D g u8 _) rfl hl.1 rfl (Nat.le_of_ble_eq_true rfl) ⟨by decide, by decide⟩ ⟨Nat.le_of_ble_eq_true rfl, Nat.le_of_ble_eq_true rfl⟩ d_17_29_25) (fun v12 u11 H locs hp10 V => ?_)
  obtain ⟨rfl, rfl⟩ := hp10
  refine lv_if_ne (tgt := 55) hx hb d_17_29_28 (by decide) (fun c14 => absurd (by decide) c14) (fun c14 => ?_)
  refine lv_iload hx hb d_17_29_31 (lv_at hl 3 rfl) ?_
  refine lv_if_lt (tgt := 55) hx hb d_17_29_33 (by decide) (fun c15 => ?_) (fun c15 => ?_)
  ·
    refine lv_iconst (v := 1) hx hb d_17_29_55 (by decide) ?_
    refine lv_goto (tgt := 71) hx hb d_17_29_56 (by decide) ?_
    refine q_put (ci := 15) (j := 0) (v := .int 1) (ty := .int) C0 V i_FR o_FR n_FR rfl rfl hO0 (by decide) w_2074 rfl rfl rfl rfl (Nat.le_of_ble_eq_true rfl) d_17_29_71 (fun H locs w16 hu17 hO0 V => ?_)
    replace hO0 : w16[kO0]? = (some (qO0, .inr (15, [.int 1, .ref qA1, .ref qA2, .ref qA3, .ref qA4, .ref qA5, .ref qA6, .ref qA7, .int 0, .int 0, .int 0, .long 0, .int 23, .int 255, .long 0, .int (-149), .long 0, .int 0])) : Option (Nat × va_E)) := hO0
    replace hF := q_us hF hu17 (.head _)
    refine lv_aload_n hx hb d_17_29_74 rfl (lv_at hl 0 rfl) ?_
    refine q_get (ci := 15) (j := 0) (v := .int 1) C0 V i_FR rfl rfl hO0 (by decide) w_2074 rfl d_17_29_75 ?_
    refine lv_if_le (tgt := 83) hx hb d_17_29_78 (by decide) (fun c18 => absurd c18 (by decide)) (fun c18 => ?_)
    refine lv_iconst (v := 0) hx hb d_17_29_81 (by decide) ?_
    replace hA1 := (hu17 _ n_A1_O0).trans ((hg9 _ (q_nc n_A1_O0 List.not_mem_nil)).trans (hA1))
    replace hA2 := (hu17 _ n_A2_O0).trans ((hg9 _ (q_nc n_A2_O0 List.not_mem_nil)).trans (hA2))
    replace hA3 := (hu17 _ n_A3_O0).trans ((hg9 _ (q_nc n_A3_O0 List.not_mem_nil)).trans (hA3))
    replace hA6 := (hu17 _ n_A6_O0).trans ((hg9 _ (q_nc n_A6_O0 List.not_mem_nil)).trans (hA6))
    replace hA7 := (hu17 _ n_A7_O0).trans ((hg9 _ (q_nc n_A7_O0 List.not_mem_nil)).trans (hA7))
    exact q_reti C0 V (Or.inl ⟨c15, rfl, hF, hO0, hA1, hA2, hA3, hA6, hA7⟩) d_17_29_82
  ·
    refine lv_iload hx hb d_17_29_36 (lv_at hl 3 rfl) ?_
    refine lv_sipush (v := 1100) hx hb d_17_29_38 (by decide) ?_
    refine lv_icmp_gt (tgt := 55) hx hb d_17_29_41 (by decide) (fun c19 => ?_) (fun c19 => ?_)
    ·
      refine lv_iconst (v := 1) hx hb d_17_29_55 (by decide) ?_
      refine lv_goto (tgt := 71) hx hb d_17_29_56 (by decide) ?_
      refine q_put (ci := 15) (j := 0) (v := .int 1) (ty := .int) C0 V i_FR o_FR n_FR rfl rfl hO0 (by decide) w_2074 rfl rfl rfl rfl (Nat.le_of_ble_eq_true rfl) d_17_29_71 (fun H locs w20 hu21 hO0 V => ?_)
      replace hO0 : w20[kO0]? = (some (qO0, .inr (15, [.int 1, .ref qA1, .ref qA2, .ref qA3, .ref qA4, .ref qA5, .ref qA6, .ref qA7, .int 0, .int 0, .int 0, .long 0, .int 23, .int 255, .long 0, .int (-149), .long 0, .int 0])) : Option (Nat × va_E)) := hO0
      replace hF := q_us hF hu21 (.head _)
      refine lv_aload_n hx hb d_17_29_74 rfl (lv_at hl 0 rfl) ?_
      refine q_get (ci := 15) (j := 0) (v := .int 1) C0 V i_FR rfl rfl hO0 (by decide) w_2074 rfl d_17_29_75 ?_
      refine lv_if_le (tgt := 83) hx hb d_17_29_78 (by decide) (fun c22 => absurd c22 (by decide)) (fun c22 => ?_)
      refine lv_iconst (v := 0) hx hb d_17_29_81 (by decide) ?_
      replace hA1 := (hu21 _ n_A1_O0).trans ((hg9 _ (q_nc n_A1_O0 List.not_mem_nil)).trans (hA1))
      replace hA2 := (hu21 _ n_A2_O0).trans ((hg9 _ (q_nc n_A2_O0 List.not_mem_nil)).trans (hA2))
      replace hA3 := (hu21 _ n_A3_O0).trans ((hg9 _ (q_nc n_A3_O0 List.not_mem_nil)).trans (hA3))
      replace hA6 := (hu21 _ n_A6_O0).trans ((hg9 _ (q_nc n_A6_O0 List.not_mem_nil)).trans (hA6))
      replace hA7 := (hu21 _ n_A7_O0).trans ((hg9 _ (q_nc n_A7_O0 List.not_mem_nil)).trans (hA7))
      exact q_reti C0 V (Or.inr (Or.inl ⟨c15, c19, rfl, hF, hO0, hA1, hA2, hA3, hA6, hA7⟩)) d_17_29_82
    ·
      refine lv_iload hx hb d_17_29_44 (lv_at hl 4 rfl) ?_
      refine lv_if_lt (tgt := 55) hx hb d_17_29_46 (by decide) (fun c23 => ?_) (fun c23 => ?_)
      ·
        refine lv_iconst (v := 1) hx hb d_17_29_55 (by decide) ?_
        refine lv_goto (tgt := 71) hx hb d_17_29_56 (by decide) ?_
        refine q_put (ci := 15) (j := 0) (v := .int 1) (ty := .int) C0 V i_FR o_FR n_FR rfl rfl hO0 (by decide) w_2074 rfl rfl rfl rfl (Nat.le_of_ble_eq_true rfl) d_17_29_71 (fun H locs w24 hu25 hO0 V => ?_)
        replace hO0 : w24[kO0]? = (some (qO0, .inr (15, [.int 1, .ref qA1, .ref qA2, .ref qA3, .ref qA4, .ref qA5, .ref qA6, .ref qA7, .int 0, .int 0, .int 0, .long 0, .int 23, .int 255, .long 0, .int (-149), .long 0, .int 0])) : Option (Nat × va_E)) := hO0
        replace hF := q_us hF hu25 (.head _)
        refine lv_aload_n hx hb d_17_29_74 rfl (lv_at hl 0 rfl) ?_
        refine q_get (ci := 15) (j := 0) (v := .int 1) C0 V i_FR rfl rfl hO0 (by decide) w_2074 rfl d_17_29_75 ?_
        refine lv_if_le (tgt := 83) hx hb d_17_29_78 (by decide) (fun c26 => absurd c26 (by decide)) (fun c26 => ?_)
        refine lv_iconst (v := 0) hx hb d_17_29_81 (by decide) ?_
        replace hA1 := (hu25 _ n_A1_O0).trans ((hg9 _ (q_nc n_A1_O0 List.not_mem_nil)).trans (hA1))
        replace hA2 := (hu25 _ n_A2_O0).trans ((hg9 _ (q_nc n_A2_O0 List.not_mem_nil)).trans (hA2))
        replace hA3 := (hu25 _ n_A3_O0).trans ((hg9 _ (q_nc n_A3_O0 List.not_mem_nil)).trans (hA3))
        replace hA6 := (hu25 _ n_A6_O0).trans ((hg9 _ (q_nc n_A6_O0 List.not_mem_nil)).trans (hA6))
        replace hA7 := (hu25 _ n_A7_O0).trans ((hg9 _ (q_nc n_A7_O0 List.not_mem_nil)).trans (hA7))
        exact q_reti C0 V (Or.inr (Or.inr (Or.inl ⟨c15, c19, c23, rfl, hF, hO0, hA1, hA2, hA3, hA6, hA7⟩))) d_17_29_82
      ·
        refine lv_iload hx hb d_17_29_49 (lv_at hl 4 rfl) ?_
        refine lv_iconst (v := 3) hx hb d_17_29_51 (by decide) ?_
        refine lv_icmp_le (tgt := 59) hx hb d_17_29_52 (by decide) (fun c27 => ?_) (fun c27 => ?_)
        ·
          refine lv_aload_n hx hb d_17_29_59 rfl (lv_at hl 0 rfl) ?_
          refine q_goi V (q_runV (As := []) (rest := [.ref qO0]) (d := 1) (mc := 0) (ms := 0) (ci := 15) C0 V rfl LV_FR_130 (c_FR_isFinite_2 l D g u8 kO0 qO0 qA1 qA2 qA3 qA4 qA5 qA6 qA7 hO0 _) rfl rfl hO0 rfl hl.1 rfl (Nat.le_of_ble_eq_true rfl) ⟨by decide, by decide⟩ ⟨Nat.le_of_ble_eq_true rfl, Nat.le_of_ble_eq_true rfl⟩ d_17_29_60) (fun v30 u29 H locs hp28 V => ?_)
          obtain ⟨rfl, rfl⟩ := hp28
          refine lv_if_ne (tgt := 70) hx hb d_17_29_63 (by decide) (fun c32 => ?_) (fun c32 => absurd c32 (by decide))
          refine lv_iconst (v := 0) hx hb d_17_29_70 (by decide) ?_
          refine q_put (ci := 15) (j := 0) (v := .int 0) (ty := .int) C0 V i_FR o_FR n_FR rfl rfl hO0 (by decide) w_2074 rfl rfl rfl rfl (Nat.le_of_ble_eq_true rfl) d_17_29_71 (fun H locs w33 hu34 hO0 V => ?_)
          replace hO0 : w33[kO0]? = (some (qO0, .inr (15, [.int 0, .ref qA1, .ref qA2, .ref qA3, .ref qA4, .ref qA5, .ref qA6, .ref qA7, .int 0, .int 0, .int 0, .long 0, .int 23, .int 255, .long 0, .int (-149), .long 0, .int 0])) : Option (Nat × va_E)) := hO0
          replace hF := q_us hF hu34 (.head _)
          refine lv_aload_n hx hb d_17_29_74 rfl (lv_at hl 0 rfl) ?_
          refine q_get (ci := 15) (j := 0) (v := .int 0) C0 V i_FR rfl rfl hO0 (by decide) w_2074 rfl d_17_29_75 ?_
          refine lv_if_le (tgt := 83) hx hb d_17_29_78 (by decide) (fun c35 => ?_) (fun c35 => absurd (by decide) c35)
          refine lv_aload_n hx hb d_17_29_83 rfl (lv_at hl 0 rfl) ?_
          replace hA1 := (hu34 _ n_A1_O0).trans ((hg9 _ (q_nc n_A1_O0 List.not_mem_nil)).trans (hA1))
          replace hA2 := (hu34 _ n_A2_O0).trans ((hg9 _ (q_nc n_A2_O0 List.not_mem_nil)).trans (hA2))
          replace hA3 := (hu34 _ n_A3_O0).trans ((hg9 _ (q_nc n_A3_O0 List.not_mem_nil)).trans (hA3))
          refine q_gov V (q_runV (As := []) (rest := []) (d := 2) (mc := 0) (ms := 0) (ci := 15) C0 V rfl LV_FR_162 (c_FR_setValue_2 l D g w33 kO0 kA1 kA2 kA3 qO0 qA1 qA2 qA3 qA4 qA5 qA6 qA7 hO0 hA1 hA2 hA3 n_A1_A2 n_A1_A3 n_A3_A2 _) rfl rfl hO0 rfl hl.1 rfl (Nat.le_of_ble_eq_true rfl) ⟨by decide, by decide⟩ ⟨Nat.le_of_ble_eq_true rfl, Nat.le_of_ble_eq_true rfl⟩ d_17_29_84) (fun u37 H locs hp36 V => ?_)
          obtain ⟨y38, hg39, hA1, hA2, hA3⟩ := hp36
          replace hF := q_uc hF hg39 (q_sc (.tail _ (.head _)) (q_sc (.tail _ (.tail _ (.head _))) (q_sc (List.mem_of_getElem? (i := 3) rfl) (fun _ h => absurd h List.not_mem_nil))))
          refine lv_iload hx hb d_17_29_87 (lv_at hl 3 rfl) ?_
          refine lv_sipush (v := 1080) hx hb d_17_29_89 (by decide) ?_
          refine lv_icmp_le (tgt := 99) hx hb d_17_29_92 (by decide) (fun c40 => ?_) (fun c40 => ?_)
          ·
            refine lv_sipush (v := 1080) hx hb d_17_29_99 (by decide) ?_
            refine lv_iload hx hb d_17_29_102 (lv_at hl 3 rfl) ?_
            refine lv_isub hx hb d_17_29_104 ?_
            refine lv_istore (lv' := [(6, .int (1080 - x1)), (0, .ref qO0), (1, .long 0), (3, .int 1), (4, .int x1), (5, .int x2)]) hx hb d_17_29_105 hl (by decide) rfl (fun ls hl => ?_)
            refine lv_aload_n hx hb d_17_29_107 rfl (lv_at hl 1 rfl) ?_
            refine lv_iload hx hb d_17_29_108 (lv_at hl 0 rfl) ?_
            refine lv_aload_n hx hb d_17_29_110 rfl (lv_at hl 1 rfl) ?_
            refine lv_iload hx hb d_17_29_111 (lv_at hl 0 rfl) ?_
            refine lv_iload hx hb d_17_29_113 (lv_at hl 5 rfl) ?_
            replace hO0 := (hg39 _ (q_nc n_O0_A1 (q_nc n_O0_A2 (q_nc n_O0_A3 List.not_mem_nil)))).trans (hO0)
            refine q_goi V (q_runV (As := [.int (1080 - x1), .int x2]) (rest := [.int (1080 - x1), .ref qO0]) (d := 1) (mc := 0) (ms := 0) (ci := 15) C0 V rfl LV_FR_165 (c_FR_isMore_6 l D g u37 kO0 kA3 qO0 qA1 qA2 qA3 qA4 qA5 qA6 qA7 (1080 - x1) x2 hO0 hA3 (q_Ile (x := 0) (y := (1080 - x1.toInt)) (by decide) (q_subI (x := 1080) (y := x1.toInt) (by decide) rfl (by have t1 : 0 ≤ x1.toInt := q_nltI c15; have t2 : x1.toInt ≤ 1100 := q_nltI c19; have t3 : x1.toInt ≤ 1080 := q_leI c40; omega) (by have t1 : 0 ≤ x1.toInt := q_nltI c15; have t2 : x1.toInt ≤ 1100 := q_nltI c19; have t3 : x1.toInt ≤ 1080 := q_leI c40; omega)) (by have t1 : 0 ≤ x1.toInt := q_nltI c15; have t2 : x1.toInt ≤ 1100 := q_nltI c19; have t3 : x1.toInt ≤ 1080 := q_leI c40; omega)) (q_Ile (x := (1080 - x1.toInt)) (y := 1080) (q_subI (x := 1080) (y := x1.toInt) (by decide) rfl (by have t1 : 0 ≤ x1.toInt := q_nltI c15; have t2 : x1.toInt ≤ 1100 := q_nltI c19; have t3 : x1.toInt ≤ 1080 := q_leI c40; omega) (by have t1 : 0 ≤ x1.toInt := q_nltI c15; have t2 : x1.toInt ≤ 1100 := q_nltI c19; have t3 : x1.toInt ≤ 1080 := q_leI c40; omega)) (by decide) (by have t1 : 0 ≤ x1.toInt := q_nltI c15; have t2 : x1.toInt ≤ 1100 := q_nltI c19; have t3 : x1.toInt ≤ 1080 := q_leI c40; omega)) (q_Ile (x := 0) (y := x2.toInt) (by decide) rfl (by have t1 : 0 ≤ x2.toInt := q_nltI c23; have t2 : x2.toInt ≤ 3 := q_leI c27; omega)) c27 _) rfl rfl hO0 rfl hl.1 rfl (Nat.le_of_ble_eq_true rfl) ⟨by decide, by decide⟩ ⟨Nat.le_of_ble_eq_true rfl, Nat.le_of_ble_eq_true rfl⟩ d_17_29_115) (fun v43 u42 H locs hp41 V => ?_)
            obtain ⟨rfl, rfl⟩ := hp41
            replace hA6 := (hg39 _ (q_nc n_A6_A1 (q_nc n_A6_A2 (q_nc n_A6_A3 List.not_mem_nil)))).trans ((hu34 _ n_A6_O0).trans ((hg9 _ (q_nc n_A6_O0 List.not_mem_nil)).trans (hA6)))
            refine q_gov V (q_runV (As := [.int (1080 - x1), .int 0]) (rest := []) (d := 1) (mc := 0) (ms := 0) (ci := 15) C0 V rfl LV_FR_81 (c_FR_cut_6 l D g u37 kO0 kA3 kA6 qO0 qA1 qA2 qA3 qA4 qA5 qA6 qA7 (1080 - x1) hO0 hA3 hA6 n_A3_A6 (q_Ile (x := 0) (y := (1080 - x1.toInt)) (by decide) (q_subI (x := 1080) (y := x1.toInt) (by decide) rfl (by have t1 : 0 ≤ x1.toInt := q_nltI c15; have t2 : x1.toInt ≤ 1100 := q_nltI c19; have t3 : x1.toInt ≤ 1080 := q_leI c40; omega) (by have t1 : 0 ≤ x1.toInt := q_nltI c15; have t2 : x1.toInt ≤ 1100 := q_nltI c19; have t3 : x1.toInt ≤ 1080 := q_leI c40; omega)) (by have t1 : 0 ≤ x1.toInt := q_nltI c15; have t2 : x1.toInt ≤ 1100 := q_nltI c19; have t3 : x1.toInt ≤ 1080 := q_leI c40; omega)) (q_Ile (x := (1080 - x1.toInt)) (y := 1080) (q_subI (x := 1080) (y := x1.toInt) (by decide) rfl (by have t1 : 0 ≤ x1.toInt := q_nltI c15; have t2 : x1.toInt ≤ 1100 := q_nltI c19; have t3 : x1.toInt ≤ 1080 := q_leI c40; omega) (by have t1 : 0 ≤ x1.toInt := q_nltI c15; have t2 : x1.toInt ≤ 1100 := q_nltI c19; have t3 : x1.toInt ≤ 1080 := q_leI c40; omega)) (by decide) (by have t1 : 0 ≤ x1.toInt := q_nltI c15; have t2 : x1.toInt ≤ 1100 := q_nltI c19; have t3 : x1.toInt ≤ 1080 := q_leI c40; omega)) _) rfl rfl hO0 rfl hl.1 rfl (Nat.le_of_ble_eq_true rfl) ⟨by decide, by decide⟩ ⟨Nat.le_of_ble_eq_true rfl, Nat.le_of_ble_eq_true rfl⟩ d_17_29_118) (fun u46 H locs hp45 V => ?_)
            obtain ⟨hg47, hA6⟩ := hp45
            replace hF := q_uc hF hg47 (q_sc (List.mem_of_getElem? (i := 4) rfl) (fun _ h => absurd h List.not_mem_nil))
            refine lv_aload_n hx hb d_17_29_121 rfl (lv_at hl 1 rfl) ?_
            replace hO0 := (hg47 _ (q_nc n_O0_A6 List.not_mem_nil)).trans (hO0)
            refine q_gov V (q_runV (As := []) (rest := []) (d := 1) (mc := 0) (ms := 0) (ci := 15) C0 V rfl LV_FR_113 (c_FR_begin_2 l D g u46 kO0 qO0 qA1 qA2 qA3 qA4 qA5 qA6 qA7 hO0 _) rfl rfl hO0 rfl hl.1 rfl (Nat.le_of_ble_eq_true rfl) ⟨by decide, by decide⟩ ⟨Nat.le_of_ble_eq_true rfl, Nat.le_of_ble_eq_true rfl⟩ d_17_29_122) (fun u49 H locs hp48 V => ?_)
            obtain ⟨hg50, hO0⟩ := hp48
            replace hF := q_uc hF hg50 (q_sc (.head _) (fun _ h => absurd h List.not_mem_nil))
            refine lv_sipush (v := 1403) hx hb d_17_29_125 (by decide) ?_
            refine lv_istore (lv' := [(7, .int 1403), (6, .int (1080 - x1)), (0, .ref qO0), (1, .long 0), (3, .int 1), (4, .int x1), (5, .int x2)]) hx hb d_17_29_128 hl (by decide) rfl (fun ls hl => ?_)
            replace hA1 := (hg50 _ (q_nc n_A1_O0 List.not_mem_nil)).trans ((hg47 _ (q_nc n_A1_A6 List.not_mem_nil)).trans (hA1))
            replace hA2 := (hg50 _ (q_nc n_A2_O0 List.not_mem_nil)).trans ((hg47 _ (q_nc n_A2_A6 List.not_mem_nil)).trans (hA2))
            replace hA3 := (hg50 _ (q_nc n_A3_O0 List.not_mem_nil)).trans ((hg47 _ (q_nc n_A3_A6 List.not_mem_nil)).trans (hA3))
            replace hA6 := (hg50 _ (q_nc n_A6_O0 List.not_mem_nil)).trans (hA6)
            replace hA7 := (hg50 _ (q_nc n_A7_O0 List.not_mem_nil)).trans ((hg47 _ (q_nc n_A7_A6 List.not_mem_nil)).trans ((hg39 _ (q_nc n_A7_A1 (q_nc n_A7_A2 (q_nc n_A7_A3 List.not_mem_nil)))).trans ((hu34 _ n_A7_O0).trans ((hg9 _ (q_nc n_A7_O0 List.not_mem_nil)).trans (hA7)))))
            refine q_loop (X := Int32) (fun z H locs ls w52 => (1080 ≤ z.toInt ∧ z.toInt ≤ 1403) ∧ q_Wd D g (va_A ws sz) s w52 H locs ∧ lv_has ls 9 [(7, .int z), (6, .int (1080 - x1)), (0, .ref qO0), (1, .long 0), (3, .int 1), (4, .int x1), (5, .int x2)] ∧ q_un ws w52 [kO0, kA1, kA2, kA3, kA6, kA7] ∧ w52[kO0]? = (some (qO0, .inr (15, [.int 0, .ref qA1, .ref qA2, .ref qA3, .ref qA4, .ref qA5, .ref qA6, .ref qA7, .int 0, .int 0, .int 0, .long 0, .int 23, .int 255, .long 0, .int (-149), .long 0, .int 0])) : Option (Nat × va_E)) ∧ w52[kA1]? = (some (qA1, .inl (g 0, 156, .inl y38)) : Option (Nat × va_E)) ∧ w52[kA2]? = (some (qA2, .inl (g 0, 156, .inl (fun _ => 0))) : Option (Nat × va_E)) ∧ w52[kA3]? = (some (qA3, .inl (g 0, 1404, .inl (fun _ => 0))) : Option (Nat × va_E)) ∧ w52[kA6]? = (some (qA6, .inl (g 0, 1404, .inl (fun _ => 0))) : Option (Nat × va_E)) ∧ w52[kA7]? = (some (qA7, .inl (g 0, 1600, .inl (fun _ => 0))) : Option (Nat × va_E))) (fun z => (z.toInt - 1080).toNat) ?_ ((1403 : Int32)) _ _ _ u49 ⟨⟨by decide, by decide⟩, V, hl, hF, hO0, hA1, hA2, hA3, hA6, hA7⟩
            rintro lx51 H locs ls w52 ⟨i53, V, hl, hF, hO0, hA1, hA2, hA3, hA6, hA7⟩ ih54
            replace i53 : 1080 ≤ lx51.toInt ∧ lx51.toInt ≤ 1403 := i53
            replace hl : lv_has ls 9 [(7, .int lx51), (6, .int (1080 - x1)), (0, .ref qO0), (1, .long 0), (3, .int 1), (4, .int x1), (5, .int x2)] := hl
            replace hO0 : w52[kO0]? = (some (qO0, .inr (15, [.int 0, .ref qA1, .ref qA2, .ref qA3, .ref qA4, .ref qA5, .ref qA6, .ref qA7, .int 0, .int 0, .int 0, .long 0, .int 23, .int 255, .long 0, .int (-149), .long 0, .int 0])) : Option (Nat × va_E)) := hO0
            replace hA1 : w52[kA1]? = (some (qA1, .inl (g 0, 156, .inl y38)) : Option (Nat × va_E)) := hA1
            replace hA2 : w52[kA2]? = (some (qA2, .inl (g 0, 156, .inl (fun _ => 0))) : Option (Nat × va_E)) := hA2
            replace hA3 : w52[kA3]? = (some (qA3, .inl (g 0, 1404, .inl (fun _ => 0))) : Option (Nat × va_E)) := hA3
            replace hA6 : w52[kA6]? = (some (qA6, .inl (g 0, 1404, .inl (fun _ => 0))) : Option (Nat × va_E)) := hA6
            replace hA7 : w52[kA7]? = (some (qA7, .inl (g 0, 1600, .inl (fun _ => 0))) : Option (Nat × va_E)) := hA7
            refine lv_iload hx hb d_17_29_130 (lv_at hl 0 rfl) ?_
            refine lv_sipush (v := 1080) hx hb d_17_29_132 (by decide) ?_
            refine lv_icmp_le (tgt := 154) hx hb d_17_29_135 (by decide) (fun c55 => ?_) (fun c55 => ?_)
            ·
              refine lv_iload hx hb d_17_29_154 (lv_at hl 0 rfl) ?_
              refine q_ti (v := 1080) (q_Ieq (x := lx51.toInt) (y := 1080) rfl (by decide) (by have t1 : lx51.toInt ≤ 1080 := q_leI c55; omega)) ?_
              refine lv_sipush (v := 1080) hx hb d_17_29_156 (by decide) ?_
              refine lv_isub hx hb d_17_29_159 ?_
              refine q_ti (v := 0) (by decide) ?_
              refine lv_istore (lv' := [(8, .int 0), (7, .int lx51), (6, .int (1080 - x1)), (0, .ref qO0), (1, .long 0), (3, .int 1), (4, .int x1), (5, .int x2)]) hx hb d_17_29_160 hl (by decide) rfl (fun ls hl => ?_)
              refine lv_iload hx hb d_17_29_162 (lv_at hl 0 rfl) ?_
              refine lv_if_lt (tgt := 186) hx hb d_17_29_164 (by decide) (fun c56 => absurd c56 (by decide)) (fun c56 => ?_)
              refine lv_aload_n hx hb d_17_29_167 rfl (lv_at hl 3 rfl) ?_
              refine lv_bipush (v := 48) hx hb d_17_29_168 (by decide) ?_
              refine lv_aload_n hx hb d_17_29_170 rfl (lv_at hl 3 rfl) ?_
              refine lv_iload hx hb d_17_29_171 (lv_at hl 0 rfl) ?_
              refine q_goi V (q_runV (As := [.int 0]) (rest := [.int 48, .ref qO0]) (d := 1) (mc := 0) (ms := 0) (ci := 15) C0 V rfl LV_FR_169 (c_FR_figureAt_3 l D g w52 kO0 kA6 qO0 qA1 qA2 qA3 qA4 qA5 qA6 qA7 hO0 hA6 _) rfl rfl hO0 rfl hl.1 rfl (Nat.le_of_ble_eq_true rfl) ⟨by decide, by decide⟩ ⟨Nat.le_of_ble_eq_true rfl, Nat.le_of_ble_eq_true rfl⟩ d_17_29_173) (fun v59 u58 H locs hp57 V => ?_)
              obtain ⟨rfl, rfl⟩ := hp57
              refine lv_iadd hx hb d_17_29_176 ?_
              refine q_ti (v := 48) (by decide) ?_
              refine q_gov V (q_runV (As := [.int 48]) (rest := []) (d := 1) (mc := 0) (ms := 0) (ci := 15) C0 V rfl LV_FR_110 (c_FR_add_4 l D g w52 kO0 kA7 qO0 qA1 qA2 qA3 qA4 qA5 qA6 qA7 hO0 hA7 _) rfl rfl hO0 rfl hl.1 rfl (Nat.le_of_ble_eq_true rfl) ⟨by decide, by decide⟩ ⟨Nat.le_of_ble_eq_true rfl, Nat.le_of_ble_eq_true rfl⟩ d_17_29_177) (fun u62 H locs hp61 V => ?_)
              obtain ⟨hg63, hO0, hA7⟩ := hp61
              replace hF := q_uc hF hg63 (q_sc (.head _) (q_sc (List.mem_of_getElem? (i := 5) rfl) (fun _ h => absurd h List.not_mem_nil)))
              refine lv_iinc (v := (-1)) (lv' := [(8, .int (-1)), (7, .int lx51), (6, .int (1080 - x1)), (0, .ref qO0), (1, .long 0), (3, .int 1), (4, .int x1), (5, .int x2)]) hx hb d_17_29_180 hl (k := 0) rfl (by decide) (by decide) rfl (fun ls hl => ?_)
              refine lv_goto (tgt := 162) hx hb d_17_29_183 (by decide) ?_
              refine lv_iload hx hb d_17_29_162 (lv_at hl 0 rfl) ?_
              refine lv_if_lt (tgt := 186) hx hb d_17_29_164 (by decide) (fun c64 => ?_) (fun c64 => absurd (by decide) c64)
              refine lv_iload hx hb d_17_29_186 (lv_at hl 6 rfl) ?_
              refine lv_if_le (tgt := 197) hx hb d_17_29_188 (by decide) (fun c65 => ?_) (fun c65 => ?_)
              ·
                refine lv_iconst (v := (-1)) hx hb d_17_29_197 (by decide) ?_
                refine lv_istore (lv' := [(8, .int (-1)), (7, .int lx51), (6, .int (1080 - x1)), (0, .ref qO0), (1, .long 0), (3, .int 1), (4, .int x1), (5, .int x2)]) hx hb d_17_29_198 hl (by decide) rfl (fun ls hl => ?_)
                refine lv_iload hx hb d_17_29_200 (lv_at hl 0 rfl) ?_
                refine lv_iload hx hb d_17_29_202 (lv_at hl 6 rfl) ?_
                refine q_ti (v := 0) (q_Ieq (x := x1.toInt) (y := 0) rfl (by decide) (by have t1 : 0 ≤ x1.toInt := q_nltI c15; have t2 : x1.toInt ≤ 1100 := q_nltI c19; have t3 : x1.toInt ≤ 1080 := q_leI c40; have t4 : x1.toInt ≤ 0 := q_leI c65; omega)) ?_
                refine lv_ineg hx hb d_17_29_204 ?_
                refine q_ti (v := 0) (by decide) ?_
                refine lv_icmp_lt (tgt := 227) hx hb d_17_29_205 (by decide) (fun c66 => ?_) (fun c66 => absurd (by decide) c66)
                refine lv_aload_n hx hb d_17_29_227 rfl (lv_at hl 3 rfl) ?_
                refine q_get (ci := 15) (j := 8) (v := .int 1) C0 V i_FR rfl rfl hO0 (by decide) w_2084 rfl d_17_29_228 ?_
                replace hA1 := (hg63 _ (q_nc n_A1_O0 (q_nc n_A1_A7 List.not_mem_nil))).trans (hA1)
                replace hA2 := (hg63 _ (q_nc n_A2_O0 (q_nc n_A2_A7 List.not_mem_nil))).trans (hA2)
                replace hA3 := (hg63 _ (q_nc n_A3_O0 (q_nc n_A3_A7 List.not_mem_nil))).trans (hA3)
                replace hA6 := (hg63 _ (q_nc n_A6_O0 (q_nc n_A6_A7 List.not_mem_nil))).trans (hA6)
                exact q_reti C0 V (Or.inr (Or.inr (Or.inr (Or.inl ⟨y38, c15, c19, c23, c27, c40, c65, rfl, hF, hO0, hA1, hA2, hA3, hA6, hA7⟩)))) d_17_29_231
              ·
                refine lv_aload_n hx hb d_17_29_191 rfl (lv_at hl 3 rfl) ?_
                refine lv_bipush (v := 46) hx hb d_17_29_192 (by decide) ?_
                refine q_gov V (q_runV (As := [.int 46]) (rest := []) (d := 1) (mc := 0) (ms := 0) (ci := 15) C0 V rfl LV_FR_110 (c_FR_add_5 l D g u62 kO0 kA7 qO0 qA1 qA2 qA3 qA4 qA5 qA6 qA7 hO0 hA7 _) rfl rfl hO0 rfl hl.1 rfl (Nat.le_of_ble_eq_true rfl) ⟨by decide, by decide⟩ ⟨Nat.le_of_ble_eq_true rfl, Nat.le_of_ble_eq_true rfl⟩ d_17_29_194) (fun u68 H locs hp67 V => ?_)
                obtain ⟨hg69, hO0, hA7⟩ := hp67
                replace hF := q_uc hF hg69 (q_sc (.head _) (q_sc (List.mem_of_getElem? (i := 5) rfl) (fun _ h => absurd h List.not_mem_nil)))
                refine lv_iconst (v := (-1)) hx hb d_17_29_197 (by decide) ?_
                refine lv_istore (lv' := [(8, .int (-1)), (7, .int lx51), (6, .int (1080 - x1)), (0, .ref qO0), (1, .long 0), (3, .int 1), (4, .int x1), (5, .int x2)]) hx hb d_17_29_198 hl (by decide) rfl (fun ls hl => ?_)
                replace hA1 := (hg69 _ (q_nc n_A1_O0 (q_nc n_A1_A7 List.not_mem_nil))).trans ((hg63 _ (q_nc n_A1_O0 (q_nc n_A1_A7 List.not_mem_nil))).trans (hA1))
                replace hA2 := (hg69 _ (q_nc n_A2_O0 (q_nc n_A2_A7 List.not_mem_nil))).trans ((hg63 _ (q_nc n_A2_O0 (q_nc n_A2_A7 List.not_mem_nil))).trans (hA2))
                replace hA3 := (hg69 _ (q_nc n_A3_O0 (q_nc n_A3_A7 List.not_mem_nil))).trans ((hg63 _ (q_nc n_A3_O0 (q_nc n_A3_A7 List.not_mem_nil))).trans (hA3))
                replace hA6 := (hg69 _ (q_nc n_A6_O0 (q_nc n_A6_A7 List.not_mem_nil))).trans ((hg63 _ (q_nc n_A6_O0 (q_nc n_A6_A7 List.not_mem_nil))).trans (hA6))
                refine q_loop (X := Int32 × Int32 × (Nat → Int32)) (fun z H locs ls w73 => (z.1.toInt ≤ (-1) ∧ ((-x1.toInt) - 1 ≤ z.1.toInt ∨ z.1.toInt = (-1))) ∧ (z.2.1.toInt = 2 + 1 * ((-1) - z.1.toInt)) ∧ q_Wd D g (va_A ws sz) s w73 H locs ∧ lv_has ls 9 [(8, .int z.1), (7, .int lx51), (6, .int (1080 - x1)), (0, .ref qO0), (1, .long 0), (3, .int 1), (4, .int x1), (5, .int x2)] ∧ q_un ws w73 [kO0, kA1, kA2, kA3, kA6, kA7] ∧ w73[kO0]? = (some (qO0, .inr (15, [.int 0, .ref qA1, .ref qA2, .ref qA3, .ref qA4, .ref qA5, .ref qA6, .ref qA7, .int z.2.1, .int 0, .int 0, .long 0, .int 23, .int 255, .long 0, .int (-149), .long 0, .int 0])) : Option (Nat × va_E)) ∧ w73[kA1]? = (some (qA1, .inl (g 0, 156, .inl y38)) : Option (Nat × va_E)) ∧ w73[kA2]? = (some (qA2, .inl (g 0, 156, .inl (fun _ => 0))) : Option (Nat × va_E)) ∧ w73[kA3]? = (some (qA3, .inl (g 0, 1404, .inl (fun _ => 0))) : Option (Nat × va_E)) ∧ w73[kA6]? = (some (qA6, .inl (g 0, 1404, .inl (fun _ => 0))) : Option (Nat × va_E)) ∧ w73[kA7]? = (some (qA7, .inl (g 0, 1600, .inl z.2.2)) : Option (Nat × va_E))) (fun z => (z.1.toInt - (-x1.toInt) + 1).toNat) ?_ (((-1) : Int32), (2 : Int32), (upd (upd (fun _ => 0) 0 48) 1 46 : (Nat → Int32))) _ _ _ u68 ⟨⟨(by dsimp only; decide), Or.inr (by dsimp only; decide)⟩, (show (2 : Int32).toInt = 2 + 1 * ((-1) - ((-1) : Int32).toInt) from by have t1 : 0 ≤ x1.toInt := q_nltI c15; have t2 : x1.toInt ≤ 1100 := q_nltI c19; have t3 : 0 ≤ x2.toInt := q_nltI c23; have t4 : x2.toInt ≤ 3 := q_leI c27; have t5 : x1.toInt ≤ 1080 := q_leI c40; have t6 : lx51.toInt ≤ 1080 := q_leI c55; have t7 : 0 < x1.toInt := q_nleI c65; have e1 : (2 : Int32).toInt = 2 := (by decide); have e2 : (((-1) : Int32)).toInt = (-1) := (by decide); omega), V, hl, hF, hO0, hA1, hA2, hA3, hA6, hA7⟩
                rintro ⟨lx70, lx71, lx72⟩ H locs ls w73 ⟨i74, i75, V, hl, hF, hO0, hA1, hA2, hA3, hA6, hA7⟩ ih76
                replace i74 : lx70.toInt ≤ (-1) ∧ ((-x1.toInt) - 1 ≤ lx70.toInt ∨ lx70.toInt = (-1)) := i74
                replace i75 : lx71.toInt = 2 + 1 * ((-1) - lx70.toInt) := i75
                replace hl : lv_has ls 9 [(8, .int lx70), (7, .int lx51), (6, .int (1080 - x1)), (0, .ref qO0), (1, .long 0), (3, .int 1), (4, .int x1), (5, .int x2)] := hl
                replace hO0 : w73[kO0]? = (some (qO0, .inr (15, [.int 0, .ref qA1, .ref qA2, .ref qA3, .ref qA4, .ref qA5, .ref qA6, .ref qA7, .int lx71, .int 0, .int 0, .long 0, .int 23, .int 255, .long 0, .int (-149), .long 0, .int 0])) : Option (Nat × va_E)) := hO0
                replace hA1 : w73[kA1]? = (some (qA1, .inl (g 0, 156, .inl y38)) : Option (Nat × va_E)) := hA1
                replace hA2 : w73[kA2]? = (some (qA2, .inl (g 0, 156, .inl (fun _ => 0))) : Option (Nat × va_E)) := hA2
                replace hA3 : w73[kA3]? = (some (qA3, .inl (g 0, 1404, .inl (fun _ => 0))) : Option (Nat × va_E)) := hA3
                replace hA6 : w73[kA6]? = (some (qA6, .inl (g 0, 1404, .inl (fun _ => 0))) : Option (Nat × va_E)) := hA6
                replace hA7 : w73[kA7]? = (some (qA7, .inl (g 0, 1600, .inl lx72)) : Option (Nat × va_E)) := hA7
                refine lv_iload hx hb d_17_29_200 (lv_at hl 0 rfl) ?_
                refine lv_iload hx hb d_17_29_202 (lv_at hl 6 rfl) ?_
                refine lv_ineg hx hb d_17_29_204 ?_
                refine lv_icmp_lt (tgt := 227) hx hb d_17_29_205 (by decide) (fun c77 => ?_) (fun c77 => ?_)
                ·
                  refine lv_aload_n hx hb d_17_29_227 rfl (lv_at hl 3 rfl) ?_
                  refine q_get (ci := 15) (j := 8) (v := .int lx71) C0 V i_FR rfl rfl hO0 (by decide) w_2084 rfl d_17_29_228 ?_
                  exact q_reti C0 V (Or.inr (Or.inr (Or.inr (Or.inr (Or.inl ⟨lx71, y38, lx72, c15, c19, c23, c27, c40, c65, (show (((-1) < (-x1.toInt) ∧ lx71.toInt = 2) ∨ ((-x1.toInt) ≤ (-1) ∧ lx71.toInt = 2 + 1 * ((-1) - (-x1.toInt) + 1))) from by have t1 : 0 ≤ x1.toInt := q_nltI c15; have t2 : x1.toInt ≤ 1100 := q_nltI c19; have t3 : 0 ≤ x2.toInt := q_nltI c23; have t4 : x2.toInt ≤ 3 := q_leI c27; have t5 : x1.toInt ≤ 1080 := q_leI c40; have t6 : lx51.toInt ≤ 1080 := q_leI c55; have t7 : 0 < x1.toInt := q_nleI c65; have t8 : lx70.toInt < (-x1.toInt) := by { have e1 : (lx70 : Int32).toInt = lx70.toInt := rfl; have e2 : ((-x1) : Int32).toInt = (-x1.toInt) := (q_negI (x := x1.toInt) rfl (by have t1 : 0 ≤ x1.toInt := q_nltI c15; have t2 : x1.toInt ≤ 1100 := q_nltI c19; have t3 : x1.toInt ≤ 1080 := q_leI c40; have t4 : 0 < x1.toInt := q_nleI c65; omega)); have e3 := q_ltI c77; omega }; have eb : (-x1 : Int32).toInt = (-x1.toInt) := (q_negI (x := x1.toInt) rfl (by have t1 : 0 ≤ x1.toInt := q_nltI c15; have t2 : x1.toInt ≤ 1100 := q_nltI c19; have t3 : x1.toInt ≤ 1080 := q_leI c40; have t4 : 0 < x1.toInt := q_nleI c65; have t5 : lx70.toInt < (-x1.toInt) := by { have e1 : (lx70 : Int32).toInt = lx70.toInt := rfl; have e2 : ((-x1) : Int32).toInt = (-x1.toInt) := (q_negI (x := x1.toInt) rfl (by have t1 : 0 ≤ x1.toInt := q_nltI c15; have t2 : x1.toInt ≤ 1100 := q_nltI c19; have t3 : x1.toInt ≤ 1080 := q_leI c40; have t4 : 0 < x1.toInt := q_nleI c65; omega)); have e3 := q_ltI c77; omega }; omega)); omega), (q_Ile (x := 2) (y := lx71.toInt) (by decide) rfl (by have t1 : 0 ≤ x1.toInt := q_nltI c15; have t2 : x1.toInt ≤ 1100 := q_nltI c19; have t3 : x1.toInt ≤ 1080 := q_leI c40; have t4 : 0 < x1.toInt := q_nleI c65; have t5 : lx70.toInt < (-x1.toInt) := by { have e1 : (lx70 : Int32).toInt = lx70.toInt := rfl; have e2 : ((-x1) : Int32).toInt = (-x1.toInt) := (q_negI (x := x1.toInt) rfl (by have t1 : 0 ≤ x1.toInt := q_nltI c15; have t2 : x1.toInt ≤ 1100 := q_nltI c19; have t3 : x1.toInt ≤ 1080 := q_leI c40; have t4 : 0 < x1.toInt := q_nleI c65; omega)); have e3 := q_ltI c77; omega }; omega)), (q_Ile (x := lx71.toInt) (y := 1082) rfl (by decide) (by have t1 : 0 ≤ x1.toInt := q_nltI c15; have t2 : x1.toInt ≤ 1100 := q_nltI c19; have t3 : x1.toInt ≤ 1080 := q_leI c40; have t4 : 0 < x1.toInt := q_nleI c65; have t5 : lx70.toInt < (-x1.toInt) := by { have e1 : (lx70 : Int32).toInt = lx70.toInt := rfl; have e2 : ((-x1) : Int32).toInt = (-x1.toInt) := (q_negI (x := x1.toInt) rfl (by have t1 : 0 ≤ x1.toInt := q_nltI c15; have t2 : x1.toInt ≤ 1100 := q_nltI c19; have t3 : x1.toInt ≤ 1080 := q_leI c40; have t4 : 0 < x1.toInt := q_nleI c65; omega)); have e3 := q_ltI c77; omega }; omega)), rfl, hF, hO0, hA1, hA2, hA3, hA6, hA7⟩))))) d_17_29_231
                ·
                  refine lv_aload_n hx hb d_17_29_208 rfl (lv_at hl 3 rfl) ?_
                  refine lv_bipush (v := 48) hx hb d_17_29_209 (by decide) ?_
                  refine lv_aload_n hx hb d_17_29_211 rfl (lv_at hl 3 rfl) ?_
                  refine lv_iload hx hb d_17_29_212 (lv_at hl 0 rfl) ?_
                  refine q_goi V (q_runV (As := [.int lx70]) (rest := [.int 48, .ref qO0]) (d := 1) (mc := 0) (ms := 0) (ci := 15) C0 V rfl LV_FR_169 (c_FR_figureAt_9 l D g w73 kO0 kA6 qO0 qA1 qA2 qA3 qA4 qA5 qA6 qA7 lx70 lx71 hO0 hA6 (q_Ile (x := (-1081)) (y := lx70.toInt) (by decide) rfl (by have t1 : 0 ≤ x1.toInt := q_nltI c15; have t2 : x1.toInt ≤ 1100 := q_nltI c19; have t3 : x1.toInt ≤ 1080 := q_leI c40; have t4 : 0 < x1.toInt := q_nleI c65; have t5 : (-x1.toInt) ≤ lx70.toInt := by { have e1 : (lx70 : Int32).toInt = lx70.toInt := rfl; have e2 : ((-x1) : Int32).toInt = (-x1.toInt) := (q_negI (x := x1.toInt) rfl (by have t1 : 0 ≤ x1.toInt := q_nltI c15; have t2 : x1.toInt ≤ 1100 := q_nltI c19; have t3 : x1.toInt ≤ 1080 := q_leI c40; have t4 : 0 < x1.toInt := q_nleI c65; omega)); have e3 := q_nltI c77; omega }; omega)) (q_Ile (x := lx70.toInt) (y := (-1)) rfl (by decide) (by have t1 : 0 ≤ x1.toInt := q_nltI c15; have t2 : x1.toInt ≤ 1100 := q_nltI c19; have t3 : x1.toInt ≤ 1080 := q_leI c40; have t4 : 0 < x1.toInt := q_nleI c65; have t5 : (-x1.toInt) ≤ lx70.toInt := by { have e1 : (lx70 : Int32).toInt = lx70.toInt := rfl; have e2 : ((-x1) : Int32).toInt = (-x1.toInt) := (q_negI (x := x1.toInt) rfl (by have t1 : 0 ≤ x1.toInt := q_nltI c15; have t2 : x1.toInt ≤ 1100 := q_nltI c19; have t3 : x1.toInt ≤ 1080 := q_leI c40; have t4 : 0 < x1.toInt := q_nleI c65; omega)); have e3 := q_nltI c77; omega }; omega)) (q_Ile (x := 2) (y := lx71.toInt) (by decide) rfl (by have t1 : 0 ≤ x1.toInt := q_nltI c15; have t2 : x1.toInt ≤ 1100 := q_nltI c19; have t3 : x1.toInt ≤ 1080 := q_leI c40; have t4 : 0 < x1.toInt := q_nleI c65; have t5 : (-x1.toInt) ≤ lx70.toInt := by { have e1 : (lx70 : Int32).toInt = lx70.toInt := rfl; have e2 : ((-x1) : Int32).toInt = (-x1.toInt) := (q_negI (x := x1.toInt) rfl (by have t1 : 0 ≤ x1.toInt := q_nltI c15; have t2 : x1.toInt ≤ 1100 := q_nltI c19; have t3 : x1.toInt ≤ 1080 := q_leI c40; have t4 : 0 < x1.toInt := q_nleI c65; omega)); have e3 := q_nltI c77; omega }; omega)) (q_Ile (x := lx71.toInt) (y := 1082) rfl (by decide) (by have t1 : 0 ≤ x1.toInt := q_nltI c15; have t2 : x1.toInt ≤ 1100 := q_nltI c19; have t3 : x1.toInt ≤ 1080 := q_leI c40; have t4 : 0 < x1.toInt := q_nleI c65; have t5 : (-x1.toInt) ≤ lx70.toInt := by { have e1 : (lx70 : Int32).toInt = lx70.toInt := rfl; have e2 : ((-x1) : Int32).toInt = (-x1.toInt) := (q_negI (x := x1.toInt) rfl (by have t1 : 0 ≤ x1.toInt := q_nltI c15; have t2 : x1.toInt ≤ 1100 := q_nltI c19; have t3 : x1.toInt ≤ 1080 := q_leI c40; have t4 : 0 < x1.toInt := q_nleI c65; omega)); have e3 := q_nltI c77; omega }; omega)) _) rfl rfl hO0 rfl hl.1 rfl (Nat.le_of_ble_eq_true rfl) ⟨by decide, by decide⟩ ⟨Nat.le_of_ble_eq_true rfl, Nat.le_of_ble_eq_true rfl⟩ d_17_29_214) (fun v80 u79 H locs hp78 V => ?_)
                  obtain ⟨rfl, rfl⟩ := hp78
                  refine lv_iadd hx hb d_17_29_217 ?_
                  refine q_ti (v := 48) (by decide) ?_
                  refine q_gov V (q_runV (As := [.int 48]) (rest := []) (d := 1) (mc := 0) (ms := 0) (ci := 15) C0 V rfl LV_FR_110 (c_FR_add_17 l D g w73 kO0 kA7 qO0 qA1 qA2 qA3 qA4 qA5 qA6 qA7 lx71 lx72 hO0 hA7 (q_Ile (x := 2) (y := lx71.toInt) (by decide) rfl (by have t1 : 0 ≤ x1.toInt := q_nltI c15; have t2 : x1.toInt ≤ 1100 := q_nltI c19; have t3 : x1.toInt ≤ 1080 := q_leI c40; have t4 : 0 < x1.toInt := q_nleI c65; have t5 : (-x1.toInt) ≤ lx70.toInt := by { have e1 : (lx70 : Int32).toInt = lx70.toInt := rfl; have e2 : ((-x1) : Int32).toInt = (-x1.toInt) := (q_negI (x := x1.toInt) rfl (by have t1 : 0 ≤ x1.toInt := q_nltI c15; have t2 : x1.toInt ≤ 1100 := q_nltI c19; have t3 : x1.toInt ≤ 1080 := q_leI c40; have t4 : 0 < x1.toInt := q_nleI c65; omega)); have e3 := q_nltI c77; omega }; omega)) (q_Ile (x := lx71.toInt) (y := 1082) rfl (by decide) (by have t1 : 0 ≤ x1.toInt := q_nltI c15; have t2 : x1.toInt ≤ 1100 := q_nltI c19; have t3 : x1.toInt ≤ 1080 := q_leI c40; have t4 : 0 < x1.toInt := q_nleI c65; have t5 : (-x1.toInt) ≤ lx70.toInt := by { have e1 : (lx70 : Int32).toInt = lx70.toInt := rfl; have e2 : ((-x1) : Int32).toInt = (-x1.toInt) := (q_negI (x := x1.toInt) rfl (by have t1 : 0 ≤ x1.toInt := q_nltI c15; have t2 : x1.toInt ≤ 1100 := q_nltI c19; have t3 : x1.toInt ≤ 1080 := q_leI c40; have t4 : 0 < x1.toInt := q_nleI c65; omega)); have e3 := q_nltI c77; omega }; omega)) _) rfl rfl hO0 rfl hl.1 rfl (Nat.le_of_ble_eq_true rfl) ⟨by decide, by decide⟩ ⟨Nat.le_of_ble_eq_true rfl, Nat.le_of_ble_eq_true rfl⟩ d_17_29_218) (fun u83 H locs hp82 V => ?_)
                  obtain ⟨hg84, hO0, hA7⟩ := hp82
                  replace hF := q_uc hF hg84 (q_sc (.head _) (q_sc (List.mem_of_getElem? (i := 5) rfl) (fun _ h => absurd h List.not_mem_nil)))
                  refine lv_iinc (v := lx70 + (-1)) (lv' := [(8, .int (lx70 + (-1))), (7, .int lx51), (6, .int (1080 - x1)), (0, .ref qO0), (1, .long 0), (3, .int 1), (4, .int x1), (5, .int x2)]) hx hb d_17_29_221 hl (k := 0) rfl (rfl) (by decide) rfl (fun ls hl => ?_)
                  refine lv_goto (tgt := 200) hx hb d_17_29_224 (by decide) ?_
                  replace hA1 := (hg84 _ (q_nc n_A1_O0 (q_nc n_A1_A7 List.not_mem_nil))).trans (hA1)
                  replace hA2 := (hg84 _ (q_nc n_A2_O0 (q_nc n_A2_A7 List.not_mem_nil))).trans (hA2)
                  replace hA3 := (hg84 _ (q_nc n_A3_O0 (q_nc n_A3_A7 List.not_mem_nil))).trans (hA3)
                  replace hA6 := (hg84 _ (q_nc n_A6_O0 (q_nc n_A6_A7 List.not_mem_nil))).trans (hA6)
                  exact ih76 ((lx70 + (-1) : Int32), (lx71 + 1 : Int32), (upd lx72 lx71.toNatClampNeg 48 : Nat → Int32)) _ _ _ _ (show ((lx70 + (-1)).toInt - (-x1.toInt) + 1).toNat < (lx70.toInt - (-x1.toInt) + 1).toNat from by have t1 : 0 ≤ x1.toInt := q_nltI c15; have t2 : x1.toInt ≤ 1100 := q_nltI c19; have t3 : x1.toInt ≤ 1080 := q_leI c40; have t4 : 0 < x1.toInt := q_nleI c65; have t5 : (-x1.toInt) ≤ lx70.toInt := by { have e1 : (lx70 : Int32).toInt = lx70.toInt := rfl; have e2 : ((-x1) : Int32).toInt = (-x1.toInt) := (q_negI (x := x1.toInt) rfl (by have t1 : 0 ≤ x1.toInt := q_nltI c15; have t2 : x1.toInt ≤ 1100 := q_nltI c19; have t3 : x1.toInt ≤ 1080 := q_leI c40; have t4 : 0 < x1.toInt := q_nleI c65; omega)); have e3 := q_nltI c77; omega }; have e : (lx70 + (-1)).toInt = (lx70.toInt + (-1)) := (q_addI (x := lx70.toInt) (y := (-1)) rfl (by decide) (by have t1 : 0 ≤ x1.toInt := q_nltI c15; have t2 : x1.toInt ≤ 1100 := q_nltI c19; have t3 : x1.toInt ≤ 1080 := q_leI c40; have t4 : 0 < x1.toInt := q_nleI c65; have t5 : (-x1.toInt) ≤ lx70.toInt := by { have e1 : (lx70 : Int32).toInt = lx70.toInt := rfl; have e2 : ((-x1) : Int32).toInt = (-x1.toInt) := (q_negI (x := x1.toInt) rfl (by have t1 : 0 ≤ x1.toInt := q_nltI c15; have t2 : x1.toInt ≤ 1100 := q_nltI c19; have t3 : x1.toInt ≤ 1080 := q_leI c40; have t4 : 0 < x1.toInt := q_nleI c65; omega)); have e3 := q_nltI c77; omega }; omega) (by have t1 : 0 ≤ x1.toInt := q_nltI c15; have t2 : x1.toInt ≤ 1100 := q_nltI c19; have t3 : x1.toInt ≤ 1080 := q_leI c40; have t4 : 0 < x1.toInt := q_nleI c65; have t5 : (-x1.toInt) ≤ lx70.toInt := by { have e1 : (lx70 : Int32).toInt = lx70.toInt := rfl; have e2 : ((-x1) : Int32).toInt = (-x1.toInt) := (q_negI (x := x1.toInt) rfl (by have t1 : 0 ≤ x1.toInt := q_nltI c15; have t2 : x1.toInt ≤ 1100 := q_nltI c19; have t3 : x1.toInt ≤ 1080 := q_leI c40; have t4 : 0 < x1.toInt := q_nleI c65; omega)); have e3 := q_nltI c77; omega }; omega)); omega) ⟨(show (lx70 + (-1)).toInt ≤ (-1) ∧ ((-x1.toInt) - 1 ≤ (lx70 + (-1)).toInt ∨ (lx70 + (-1)).toInt = (-1)) from by have t1 : 0 ≤ x1.toInt := q_nltI c15; have t2 : x1.toInt ≤ 1100 := q_nltI c19; have t3 : x1.toInt ≤ 1080 := q_leI c40; have t4 : 0 < x1.toInt := q_nleI c65; have t5 : (-x1.toInt) ≤ lx70.toInt := by { have e1 : (lx70 : Int32).toInt = lx70.toInt := rfl; have e2 : ((-x1) : Int32).toInt = (-x1.toInt) := (q_negI (x := x1.toInt) rfl (by have t1 : 0 ≤ x1.toInt := q_nltI c15; have t2 : x1.toInt ≤ 1100 := q_nltI c19; have t3 : x1.toInt ≤ 1080 := q_leI c40; have t4 : 0 < x1.toInt := q_nleI c65; omega)); have e3 := q_nltI c77; omega }; have e : (lx70 + (-1)).toInt = (lx70.toInt + (-1)) := (q_addI (x := lx70.toInt) (y := (-1)) rfl (by decide) (by have t1 : 0 ≤ x1.toInt := q_nltI c15; have t2 : x1.toInt ≤ 1100 := q_nltI c19; have t3 : x1.toInt ≤ 1080 := q_leI c40; have t4 : 0 < x1.toInt := q_nleI c65; have t5 : (-x1.toInt) ≤ lx70.toInt := by { have e1 : (lx70 : Int32).toInt = lx70.toInt := rfl; have e2 : ((-x1) : Int32).toInt = (-x1.toInt) := (q_negI (x := x1.toInt) rfl (by have t1 : 0 ≤ x1.toInt := q_nltI c15; have t2 : x1.toInt ≤ 1100 := q_nltI c19; have t3 : x1.toInt ≤ 1080 := q_leI c40; have t4 : 0 < x1.toInt := q_nleI c65; omega)); have e3 := q_nltI c77; omega }; omega) (by have t1 : 0 ≤ x1.toInt := q_nltI c15; have t2 : x1.toInt ≤ 1100 := q_nltI c19; have t3 : x1.toInt ≤ 1080 := q_leI c40; have t4 : 0 < x1.toInt := q_nleI c65; have t5 : (-x1.toInt) ≤ lx70.toInt := by { have e1 : (lx70 : Int32).toInt = lx70.toInt := rfl; have e2 : ((-x1) : Int32).toInt = (-x1.toInt) := (q_negI (x := x1.toInt) rfl (by have t1 : 0 ≤ x1.toInt := q_nltI c15; have t2 : x1.toInt ≤ 1100 := q_nltI c19; have t3 : x1.toInt ≤ 1080 := q_leI c40; have t4 : 0 < x1.toInt := q_nleI c65; omega)); have e3 := q_nltI c77; omega }; omega)); omega), (show (lx71 + 1 : Int32).toInt = 2 + 1 * ((-1) - (lx70 + (-1) : Int32).toInt) from by have t1 : 0 ≤ x1.toInt := q_nltI c15; have t2 : x1.toInt ≤ 1100 := q_nltI c19; have t3 : 0 ≤ x2.toInt := q_nltI c23; have t4 : x2.toInt ≤ 3 := q_leI c27; have t5 : x1.toInt ≤ 1080 := q_leI c40; have t6 : lx51.toInt ≤ 1080 := q_leI c55; have t7 : 0 < x1.toInt := q_nleI c65; have t8 : (-x1.toInt) ≤ lx70.toInt := by { have e1 : (lx70 : Int32).toInt = lx70.toInt := rfl; have e2 : ((-x1) : Int32).toInt = (-x1.toInt) := (q_negI (x := x1.toInt) rfl (by have t1 : 0 ≤ x1.toInt := q_nltI c15; have t2 : x1.toInt ≤ 1100 := q_nltI c19; have t3 : x1.toInt ≤ 1080 := q_leI c40; have t4 : 0 < x1.toInt := q_nleI c65; omega)); have e3 := q_nltI c77; omega }; have e0 : (lx70 + (-1) : Int32).toInt = (lx70.toInt + (-1)) := (q_addI (x := lx70.toInt) (y := (-1)) rfl (by decide) (by have t1 : 0 ≤ x1.toInt := q_nltI c15; have t2 : x1.toInt ≤ 1100 := q_nltI c19; have t3 : x1.toInt ≤ 1080 := q_leI c40; have t4 : 0 < x1.toInt := q_nleI c65; have t5 : (-x1.toInt) ≤ lx70.toInt := by { have e1 : (lx70 : Int32).toInt = lx70.toInt := rfl; have e2 : ((-x1) : Int32).toInt = (-x1.toInt) := (q_negI (x := x1.toInt) rfl (by have t1 : 0 ≤ x1.toInt := q_nltI c15; have t2 : x1.toInt ≤ 1100 := q_nltI c19; have t3 : x1.toInt ≤ 1080 := q_leI c40; have t4 : 0 < x1.toInt := q_nleI c65; omega)); have e3 := q_nltI c77; omega }; omega) (by have t1 : 0 ≤ x1.toInt := q_nltI c15; have t2 : x1.toInt ≤ 1100 := q_nltI c19; have t3 : x1.toInt ≤ 1080 := q_leI c40; have t4 : 0 < x1.toInt := q_nleI c65; have t5 : (-x1.toInt) ≤ lx70.toInt := by { have e1 : (lx70 : Int32).toInt = lx70.toInt := rfl; have e2 : ((-x1) : Int32).toInt = (-x1.toInt) := (q_negI (x := x1.toInt) rfl (by have t1 : 0 ≤ x1.toInt := q_nltI c15; have t2 : x1.toInt ≤ 1100 := q_nltI c19; have t3 : x1.toInt ≤ 1080 := q_leI c40; have t4 : 0 < x1.toInt := q_nleI c65; omega)); have e3 := q_nltI c77; omega }; omega)); have e1 : (lx71 + 1 : Int32).toInt = (lx71.toInt + 1) := (q_addI (x := lx71.toInt) (y := 1) rfl (by decide) (by have t1 : 0 ≤ x1.toInt := q_nltI c15; have t2 : x1.toInt ≤ 1100 := q_nltI c19; have t3 : x1.toInt ≤ 1080 := q_leI c40; have t4 : 0 < x1.toInt := q_nleI c65; have t5 : (-x1.toInt) ≤ lx70.toInt := by { have e1 : (lx70 : Int32).toInt = lx70.toInt := rfl; have e2 : ((-x1) : Int32).toInt = (-x1.toInt) := (q_negI (x := x1.toInt) rfl (by have t1 : 0 ≤ x1.toInt := q_nltI c15; have t2 : x1.toInt ≤ 1100 := q_nltI c19; have t3 : x1.toInt ≤ 1080 := q_leI c40; have t4 : 0 < x1.toInt := q_nleI c65; omega)); have e3 := q_nltI c77; omega }; omega) (by have t1 : 0 ≤ x1.toInt := q_nltI c15; have t2 : x1.toInt ≤ 1100 := q_nltI c19; have t3 : x1.toInt ≤ 1080 := q_leI c40; have t4 : 0 < x1.toInt := q_nleI c65; have t5 : (-x1.toInt) ≤ lx70.toInt := by { have e1 : (lx70 : Int32).toInt = lx70.toInt := rfl; have e2 : ((-x1) : Int32).toInt = (-x1.toInt) := (q_negI (x := x1.toInt) rfl (by have t1 : 0 ≤ x1.toInt := q_nltI c15; have t2 : x1.toInt ≤ 1100 := q_nltI c19; have t3 : x1.toInt ≤ 1080 := q_leI c40; have t4 : 0 < x1.toInt := q_nleI c65; omega)); have e3 := q_nltI c77; omega }; omega)); omega), V, q_lw hl (q_lw1 0 rfl (q_lw1 1 rfl (q_lw1 2 rfl (q_lw1 3 rfl (q_lw1 4 rfl (q_lw1 5 rfl (q_lw1 6 rfl (q_lw1 7 rfl q_lw0)))))))), hF, hO0, hA1, hA2, hA3, hA6, hA7⟩
            ·
              refine lv_aload_n hx hb d_17_29_138 rfl (lv_at hl 2 rfl) ?_
              refine q_get (ci := 15) (j := 6) (v := .ref qA6) C0 V i_FR rfl rfl hO0 (by decide) w_2081 rfl d_17_29_139 ?_
              refine lv_iload hx hb d_17_29_142 (lv_at hl 0 rfl) ?_
              refine q_iald C0 V hA6 (q_ix (x := lx51.toInt) rfl (by have t1 : 1080 < lx51.toInt := q_nleI c55; omega) (by have t1 : 1080 < lx51.toInt := q_nleI c55; omega)) d_17_29_144 ?_
              refine q_ti (v := 0) (by first | rfl | decide | simp [upd, vp_updL, sb_cl0]) ?_
              refine lv_if_ne (tgt := 154) hx hb d_17_29_145 (by decide) (fun c85 => absurd (by decide) c85) (fun c85 => ?_)
              refine lv_iinc (v := lx51 + (-1)) (lv' := [(7, .int (lx51 + (-1))), (6, .int (1080 - x1)), (0, .ref qO0), (1, .long 0), (3, .int 1), (4, .int x1), (5, .int x2)]) hx hb d_17_29_148 hl (k := 0) rfl (rfl) (by decide) rfl (fun ls hl => ?_)
              refine lv_goto (tgt := 130) hx hb d_17_29_151 (by decide) ?_
              exact ih54 ((lx51 + (-1) : Int32)) _ _ _ _ (show ((lx51 + (-1)).toInt - 1080).toNat < (lx51.toInt - 1080).toNat from by have t1 : 1080 < lx51.toInt := q_nleI c55; have e : (lx51 + (-1)).toInt = (lx51.toInt + (-1)) := (q_addI (x := lx51.toInt) (y := (-1)) rfl (by decide) (by have t1 : 1080 < lx51.toInt := q_nleI c55; omega) (by have t1 : 1080 < lx51.toInt := q_nleI c55; omega)); omega) ⟨(show 1080 ≤ (lx51 + (-1)).toInt ∧ (lx51 + (-1)).toInt ≤ 1403 from by have t1 : 1080 < lx51.toInt := q_nleI c55; have e : (lx51 + (-1)).toInt = (lx51.toInt + (-1)) := (q_addI (x := lx51.toInt) (y := (-1)) rfl (by decide) (by have t1 : 1080 < lx51.toInt := q_nleI c55; omega) (by have t1 : 1080 < lx51.toInt := q_nleI c55; omega)); omega), V, q_lw hl (q_lw1 0 rfl (q_lw1 1 rfl (q_lw1 2 rfl (q_lw1 3 rfl (q_lw1 4 rfl (q_lw1 5 rfl (q_lw1 6 rfl q_lw0))))))), hF, hO0, hA1, hA2, hA3, hA6, hA7⟩
          ·
            refine lv_iconst (v := 0) hx hb d_17_29_95 (by decide) ?_
            refine lv_goto (tgt := 105) hx hb d_17_29_96 (by decide) ?_
            refine lv_istore (lv' := [(6, .int 0), (0, .ref qO0), (1, .long 0), (3, .int 1), (4, .int x1), (5, .int x2)]) hx hb d_17_29_105 hl (by decide) rfl (fun ls hl => ?_)
            refine lv_aload_n hx hb d_17_29_107 rfl (lv_at hl 1 rfl) ?_
            refine lv_iload hx hb d_17_29_108 (lv_at hl 0 rfl) ?_
            refine lv_aload_n hx hb d_17_29_110 rfl (lv_at hl 1 rfl) ?_
            refine lv_iload hx hb d_17_29_111 (lv_at hl 0 rfl) ?_
            refine lv_iload hx hb d_17_29_113 (lv_at hl 5 rfl) ?_
            replace hO0 := (hg39 _ (q_nc n_O0_A1 (q_nc n_O0_A2 (q_nc n_O0_A3 List.not_mem_nil)))).trans (hO0)
            refine q_goi V (q_runV (As := [.int 0, .int x2]) (rest := [.int 0, .ref qO0]) (d := 1) (mc := 0) (ms := 0) (ci := 15) C0 V rfl LV_FR_165 (c_FR_isMore_6 l D g u37 kO0 kA3 qO0 qA1 qA2 qA3 qA4 qA5 qA6 qA7 0 x2 hO0 hA3 (q_Ile (x := 0) (y := 0) (by decide) (by decide) (by omega)) (q_Ile (x := 0) (y := 1080) (by decide) (by decide) (by omega)) (q_Ile (x := 0) (y := x2.toInt) (by decide) rfl (by have t1 : 0 ≤ x2.toInt := q_nltI c23; have t2 : x2.toInt ≤ 3 := q_leI c27; omega)) c27 _) rfl rfl hO0 rfl hl.1 rfl (Nat.le_of_ble_eq_true rfl) ⟨by decide, by decide⟩ ⟨Nat.le_of_ble_eq_true rfl, Nat.le_of_ble_eq_true rfl⟩ d_17_29_115) (fun v88 u87 H locs hp86 V => ?_)
            obtain ⟨rfl, rfl⟩ := hp86
            replace hA6 := (hg39 _ (q_nc n_A6_A1 (q_nc n_A6_A2 (q_nc n_A6_A3 List.not_mem_nil)))).trans ((hu34 _ n_A6_O0).trans ((hg9 _ (q_nc n_A6_O0 List.not_mem_nil)).trans (hA6)))
            refine q_gov V (q_runV (As := [.int 0, .int 0]) (rest := []) (d := 1) (mc := 0) (ms := 0) (ci := 15) C0 V rfl LV_FR_81 (c_FR_cut_6 l D g u37 kO0 kA3 kA6 qO0 qA1 qA2 qA3 qA4 qA5 qA6 qA7 0 hO0 hA3 hA6 n_A3_A6 (q_Ile (x := 0) (y := 0) (by decide) (by decide) (by omega)) (q_Ile (x := 0) (y := 1080) (by decide) (by decide) (by omega)) _) rfl rfl hO0 rfl hl.1 rfl (Nat.le_of_ble_eq_true rfl) ⟨by decide, by decide⟩ ⟨Nat.le_of_ble_eq_true rfl, Nat.le_of_ble_eq_true rfl⟩ d_17_29_118) (fun u91 H locs hp90 V => ?_)
            obtain ⟨hg92, hA6⟩ := hp90
            replace hF := q_uc hF hg92 (q_sc (List.mem_of_getElem? (i := 4) rfl) (fun _ h => absurd h List.not_mem_nil))
            refine lv_aload_n hx hb d_17_29_121 rfl (lv_at hl 1 rfl) ?_
            replace hO0 := (hg92 _ (q_nc n_O0_A6 List.not_mem_nil)).trans (hO0)
            refine q_gov V (q_runV (As := []) (rest := []) (d := 1) (mc := 0) (ms := 0) (ci := 15) C0 V rfl LV_FR_113 (c_FR_begin_2 l D g u91 kO0 qO0 qA1 qA2 qA3 qA4 qA5 qA6 qA7 hO0 _) rfl rfl hO0 rfl hl.1 rfl (Nat.le_of_ble_eq_true rfl) ⟨by decide, by decide⟩ ⟨Nat.le_of_ble_eq_true rfl, Nat.le_of_ble_eq_true rfl⟩ d_17_29_122) (fun u94 H locs hp93 V => ?_)
            obtain ⟨hg95, hO0⟩ := hp93
            replace hF := q_uc hF hg95 (q_sc (.head _) (fun _ h => absurd h List.not_mem_nil))
            refine lv_sipush (v := 1403) hx hb d_17_29_125 (by decide) ?_
            refine lv_istore (lv' := [(7, .int 1403), (6, .int 0), (0, .ref qO0), (1, .long 0), (3, .int 1), (4, .int x1), (5, .int x2)]) hx hb d_17_29_128 hl (by decide) rfl (fun ls hl => ?_)
            replace hA1 := (hg95 _ (q_nc n_A1_O0 List.not_mem_nil)).trans ((hg92 _ (q_nc n_A1_A6 List.not_mem_nil)).trans (hA1))
            replace hA2 := (hg95 _ (q_nc n_A2_O0 List.not_mem_nil)).trans ((hg92 _ (q_nc n_A2_A6 List.not_mem_nil)).trans (hA2))
            replace hA3 := (hg95 _ (q_nc n_A3_O0 List.not_mem_nil)).trans ((hg92 _ (q_nc n_A3_A6 List.not_mem_nil)).trans (hA3))
            replace hA6 := (hg95 _ (q_nc n_A6_O0 List.not_mem_nil)).trans (hA6)
            replace hA7 := (hg95 _ (q_nc n_A7_O0 List.not_mem_nil)).trans ((hg92 _ (q_nc n_A7_A6 List.not_mem_nil)).trans ((hg39 _ (q_nc n_A7_A1 (q_nc n_A7_A2 (q_nc n_A7_A3 List.not_mem_nil)))).trans ((hu34 _ n_A7_O0).trans ((hg9 _ (q_nc n_A7_O0 List.not_mem_nil)).trans (hA7)))))
            refine q_loop (X := Int32) (fun z H locs ls w97 => (1080 ≤ z.toInt ∧ z.toInt ≤ 1403) ∧ q_Wd D g (va_A ws sz) s w97 H locs ∧ lv_has ls 9 [(7, .int z), (6, .int 0), (0, .ref qO0), (1, .long 0), (3, .int 1), (4, .int x1), (5, .int x2)] ∧ q_un ws w97 [kO0, kA1, kA2, kA3, kA6, kA7] ∧ w97[kO0]? = (some (qO0, .inr (15, [.int 0, .ref qA1, .ref qA2, .ref qA3, .ref qA4, .ref qA5, .ref qA6, .ref qA7, .int 0, .int 0, .int 0, .long 0, .int 23, .int 255, .long 0, .int (-149), .long 0, .int 0])) : Option (Nat × va_E)) ∧ w97[kA1]? = (some (qA1, .inl (g 0, 156, .inl y38)) : Option (Nat × va_E)) ∧ w97[kA2]? = (some (qA2, .inl (g 0, 156, .inl (fun _ => 0))) : Option (Nat × va_E)) ∧ w97[kA3]? = (some (qA3, .inl (g 0, 1404, .inl (fun _ => 0))) : Option (Nat × va_E)) ∧ w97[kA6]? = (some (qA6, .inl (g 0, 1404, .inl (fun _ => 0))) : Option (Nat × va_E)) ∧ w97[kA7]? = (some (qA7, .inl (g 0, 1600, .inl (fun _ => 0))) : Option (Nat × va_E))) (fun z => (z.toInt - 1080).toNat) ?_ ((1403 : Int32)) _ _ _ u94 ⟨⟨by decide, by decide⟩, V, hl, hF, hO0, hA1, hA2, hA3, hA6, hA7⟩
            rintro lx96 H locs ls w97 ⟨i98, V, hl, hF, hO0, hA1, hA2, hA3, hA6, hA7⟩ ih99
            replace i98 : 1080 ≤ lx96.toInt ∧ lx96.toInt ≤ 1403 := i98
            replace hl : lv_has ls 9 [(7, .int lx96), (6, .int 0), (0, .ref qO0), (1, .long 0), (3, .int 1), (4, .int x1), (5, .int x2)] := hl
            replace hO0 : w97[kO0]? = (some (qO0, .inr (15, [.int 0, .ref qA1, .ref qA2, .ref qA3, .ref qA4, .ref qA5, .ref qA6, .ref qA7, .int 0, .int 0, .int 0, .long 0, .int 23, .int 255, .long 0, .int (-149), .long 0, .int 0])) : Option (Nat × va_E)) := hO0
            replace hA1 : w97[kA1]? = (some (qA1, .inl (g 0, 156, .inl y38)) : Option (Nat × va_E)) := hA1
            replace hA2 : w97[kA2]? = (some (qA2, .inl (g 0, 156, .inl (fun _ => 0))) : Option (Nat × va_E)) := hA2
            replace hA3 : w97[kA3]? = (some (qA3, .inl (g 0, 1404, .inl (fun _ => 0))) : Option (Nat × va_E)) := hA3
            replace hA6 : w97[kA6]? = (some (qA6, .inl (g 0, 1404, .inl (fun _ => 0))) : Option (Nat × va_E)) := hA6
            replace hA7 : w97[kA7]? = (some (qA7, .inl (g 0, 1600, .inl (fun _ => 0))) : Option (Nat × va_E)) := hA7
            refine lv_iload hx hb d_17_29_130 (lv_at hl 0 rfl) ?_
            refine lv_sipush (v := 1080) hx hb d_17_29_132 (by decide) ?_
            refine lv_icmp_le (tgt := 154) hx hb d_17_29_135 (by decide) (fun c100 => ?_) (fun c100 => ?_)
            ·
              refine lv_iload hx hb d_17_29_154 (lv_at hl 0 rfl) ?_
              refine q_ti (v := 1080) (q_Ieq (x := lx96.toInt) (y := 1080) rfl (by decide) (by have t1 : lx96.toInt ≤ 1080 := q_leI c100; omega)) ?_
              refine lv_sipush (v := 1080) hx hb d_17_29_156 (by decide) ?_
              refine lv_isub hx hb d_17_29_159 ?_
              refine q_ti (v := 0) (by decide) ?_
              refine lv_istore (lv' := [(8, .int 0), (7, .int lx96), (6, .int 0), (0, .ref qO0), (1, .long 0), (3, .int 1), (4, .int x1), (5, .int x2)]) hx hb d_17_29_160 hl (by decide) rfl (fun ls hl => ?_)
              refine lv_iload hx hb d_17_29_162 (lv_at hl 0 rfl) ?_
              refine lv_if_lt (tgt := 186) hx hb d_17_29_164 (by decide) (fun c101 => absurd c101 (by decide)) (fun c101 => ?_)
              refine lv_aload_n hx hb d_17_29_167 rfl (lv_at hl 3 rfl) ?_
              refine lv_bipush (v := 48) hx hb d_17_29_168 (by decide) ?_
              refine lv_aload_n hx hb d_17_29_170 rfl (lv_at hl 3 rfl) ?_
              refine lv_iload hx hb d_17_29_171 (lv_at hl 0 rfl) ?_
              refine q_goi V (q_runV (As := [.int 0]) (rest := [.int 48, .ref qO0]) (d := 1) (mc := 0) (ms := 0) (ci := 15) C0 V rfl LV_FR_169 (c_FR_figureAt_3 l D g w97 kO0 kA6 qO0 qA1 qA2 qA3 qA4 qA5 qA6 qA7 hO0 hA6 _) rfl rfl hO0 rfl hl.1 rfl (Nat.le_of_ble_eq_true rfl) ⟨by decide, by decide⟩ ⟨Nat.le_of_ble_eq_true rfl, Nat.le_of_ble_eq_true rfl⟩ d_17_29_173) (fun v104 u103 H locs hp102 V => ?_)
              obtain ⟨rfl, rfl⟩ := hp102
              refine lv_iadd hx hb d_17_29_176 ?_
              refine q_ti (v := 48) (by decide) ?_
              refine q_gov V (q_runV (As := [.int 48]) (rest := []) (d := 1) (mc := 0) (ms := 0) (ci := 15) C0 V rfl LV_FR_110 (c_FR_add_4 l D g w97 kO0 kA7 qO0 qA1 qA2 qA3 qA4 qA5 qA6 qA7 hO0 hA7 _) rfl rfl hO0 rfl hl.1 rfl (Nat.le_of_ble_eq_true rfl) ⟨by decide, by decide⟩ ⟨Nat.le_of_ble_eq_true rfl, Nat.le_of_ble_eq_true rfl⟩ d_17_29_177) (fun u107 H locs hp106 V => ?_)
              obtain ⟨hg108, hO0, hA7⟩ := hp106
              replace hF := q_uc hF hg108 (q_sc (.head _) (q_sc (List.mem_of_getElem? (i := 5) rfl) (fun _ h => absurd h List.not_mem_nil)))
              refine lv_iinc (v := (-1)) (lv' := [(8, .int (-1)), (7, .int lx96), (6, .int 0), (0, .ref qO0), (1, .long 0), (3, .int 1), (4, .int x1), (5, .int x2)]) hx hb d_17_29_180 hl (k := 0) rfl (by decide) (by decide) rfl (fun ls hl => ?_)
              refine lv_goto (tgt := 162) hx hb d_17_29_183 (by decide) ?_
              refine lv_iload hx hb d_17_29_162 (lv_at hl 0 rfl) ?_
              refine lv_if_lt (tgt := 186) hx hb d_17_29_164 (by decide) (fun c109 => ?_) (fun c109 => absurd (by decide) c109)
              refine lv_iload hx hb d_17_29_186 (lv_at hl 6 rfl) ?_
              refine lv_if_le (tgt := 197) hx hb d_17_29_188 (by decide) (fun c110 => absurd c110 (Int32.not_le.mpr (q_Ilt (x := 0) (y := x1.toInt) (by decide) rfl (by have t1 : 0 ≤ x1.toInt := q_nltI c15; have t2 : x1.toInt ≤ 1100 := q_nltI c19; have t3 : 1080 < x1.toInt := q_nleI c40; omega)))) (fun c110 => ?_)
              refine lv_aload_n hx hb d_17_29_191 rfl (lv_at hl 3 rfl) ?_
              refine lv_bipush (v := 46) hx hb d_17_29_192 (by decide) ?_
              refine q_gov V (q_runV (As := [.int 46]) (rest := []) (d := 1) (mc := 0) (ms := 0) (ci := 15) C0 V rfl LV_FR_110 (c_FR_add_5 l D g u107 kO0 kA7 qO0 qA1 qA2 qA3 qA4 qA5 qA6 qA7 hO0 hA7 _) rfl rfl hO0 rfl hl.1 rfl (Nat.le_of_ble_eq_true rfl) ⟨by decide, by decide⟩ ⟨Nat.le_of_ble_eq_true rfl, Nat.le_of_ble_eq_true rfl⟩ d_17_29_194) (fun u112 H locs hp111 V => ?_)
              obtain ⟨hg113, hO0, hA7⟩ := hp111
              replace hF := q_uc hF hg113 (q_sc (.head _) (q_sc (List.mem_of_getElem? (i := 5) rfl) (fun _ h => absurd h List.not_mem_nil)))
              refine lv_iconst (v := (-1)) hx hb d_17_29_197 (by decide) ?_
              refine lv_istore (lv' := [(8, .int (-1)), (7, .int lx96), (6, .int 0), (0, .ref qO0), (1, .long 0), (3, .int 1), (4, .int x1), (5, .int x2)]) hx hb d_17_29_198 hl (by decide) rfl (fun ls hl => ?_)
              replace hA1 := (hg113 _ (q_nc n_A1_O0 (q_nc n_A1_A7 List.not_mem_nil))).trans ((hg108 _ (q_nc n_A1_O0 (q_nc n_A1_A7 List.not_mem_nil))).trans (hA1))
              replace hA2 := (hg113 _ (q_nc n_A2_O0 (q_nc n_A2_A7 List.not_mem_nil))).trans ((hg108 _ (q_nc n_A2_O0 (q_nc n_A2_A7 List.not_mem_nil))).trans (hA2))
              replace hA3 := (hg113 _ (q_nc n_A3_O0 (q_nc n_A3_A7 List.not_mem_nil))).trans ((hg108 _ (q_nc n_A3_O0 (q_nc n_A3_A7 List.not_mem_nil))).trans (hA3))
              replace hA6 := (hg113 _ (q_nc n_A6_O0 (q_nc n_A6_A7 List.not_mem_nil))).trans ((hg108 _ (q_nc n_A6_O0 (q_nc n_A6_A7 List.not_mem_nil))).trans (hA6))
              refine q_loop (X := Int32 × Int32 × (Nat → Int32)) (fun z H locs ls w117 => (z.1.toInt ≤ (-1) ∧ ((-x1.toInt) - 1 ≤ z.1.toInt ∨ z.1.toInt = (-1))) ∧ (z.2.1.toInt = 2 + 1 * ((-1) - z.1.toInt)) ∧ q_Wd D g (va_A ws sz) s w117 H locs ∧ lv_has ls 9 [(8, .int z.1), (7, .int lx96), (6, .int 0), (0, .ref qO0), (1, .long 0), (3, .int 1), (4, .int x1), (5, .int x2)] ∧ q_un ws w117 [kO0, kA1, kA2, kA3, kA6, kA7] ∧ w117[kO0]? = (some (qO0, .inr (15, [.int 0, .ref qA1, .ref qA2, .ref qA3, .ref qA4, .ref qA5, .ref qA6, .ref qA7, .int z.2.1, .int 0, .int 0, .long 0, .int 23, .int 255, .long 0, .int (-149), .long 0, .int 0])) : Option (Nat × va_E)) ∧ w117[kA1]? = (some (qA1, .inl (g 0, 156, .inl y38)) : Option (Nat × va_E)) ∧ w117[kA2]? = (some (qA2, .inl (g 0, 156, .inl (fun _ => 0))) : Option (Nat × va_E)) ∧ w117[kA3]? = (some (qA3, .inl (g 0, 1404, .inl (fun _ => 0))) : Option (Nat × va_E)) ∧ w117[kA6]? = (some (qA6, .inl (g 0, 1404, .inl (fun _ => 0))) : Option (Nat × va_E)) ∧ w117[kA7]? = (some (qA7, .inl (g 0, 1600, .inl z.2.2)) : Option (Nat × va_E))) (fun z => (z.1.toInt - (-x1.toInt) + 1).toNat) ?_ (((-1) : Int32), (2 : Int32), (upd (upd (fun _ => 0) 0 48) 1 46 : (Nat → Int32))) _ _ _ u112 ⟨⟨(by dsimp only; decide), Or.inr (by dsimp only; decide)⟩, (show (2 : Int32).toInt = 2 + 1 * ((-1) - ((-1) : Int32).toInt) from by have t1 : 0 ≤ x1.toInt := q_nltI c15; have t2 : x1.toInt ≤ 1100 := q_nltI c19; have t3 : 0 ≤ x2.toInt := q_nltI c23; have t4 : x2.toInt ≤ 3 := q_leI c27; have t5 : 1080 < x1.toInt := q_nleI c40; have t6 : lx96.toInt ≤ 1080 := q_leI c100; have e1 : (2 : Int32).toInt = 2 := (by decide); have e2 : (((-1) : Int32)).toInt = (-1) := (by decide); omega), V, hl, hF, hO0, hA1, hA2, hA3, hA6, hA7⟩
              rintro ⟨lx114, lx115, lx116⟩ H locs ls w117 ⟨i118, i119, V, hl, hF, hO0, hA1, hA2, hA3, hA6, hA7⟩ ih120
              replace i118 : lx114.toInt ≤ (-1) ∧ ((-x1.toInt) - 1 ≤ lx114.toInt ∨ lx114.toInt = (-1)) := i118
              replace i119 : lx115.toInt = 2 + 1 * ((-1) - lx114.toInt) := i119
              replace hl : lv_has ls 9 [(8, .int lx114), (7, .int lx96), (6, .int 0), (0, .ref qO0), (1, .long 0), (3, .int 1), (4, .int x1), (5, .int x2)] := hl
              replace hO0 : w117[kO0]? = (some (qO0, .inr (15, [.int 0, .ref qA1, .ref qA2, .ref qA3, .ref qA4, .ref qA5, .ref qA6, .ref qA7, .int lx115, .int 0, .int 0, .long 0, .int 23, .int 255, .long 0, .int (-149), .long 0, .int 0])) : Option (Nat × va_E)) := hO0
              replace hA1 : w117[kA1]? = (some (qA1, .inl (g 0, 156, .inl y38)) : Option (Nat × va_E)) := hA1
              replace hA2 : w117[kA2]? = (some (qA2, .inl (g 0, 156, .inl (fun _ => 0))) : Option (Nat × va_E)) := hA2
              replace hA3 : w117[kA3]? = (some (qA3, .inl (g 0, 1404, .inl (fun _ => 0))) : Option (Nat × va_E)) := hA3
              replace hA6 : w117[kA6]? = (some (qA6, .inl (g 0, 1404, .inl (fun _ => 0))) : Option (Nat × va_E)) := hA6
              replace hA7 : w117[kA7]? = (some (qA7, .inl (g 0, 1600, .inl lx116)) : Option (Nat × va_E)) := hA7
              refine lv_iload hx hb d_17_29_200 (lv_at hl 0 rfl) ?_
              refine lv_iload hx hb d_17_29_202 (lv_at hl 6 rfl) ?_
              refine lv_ineg hx hb d_17_29_204 ?_
              refine lv_icmp_lt (tgt := 227) hx hb d_17_29_205 (by decide) (fun c121 => ?_) (fun c121 => ?_)
              ·
                refine lv_aload_n hx hb d_17_29_227 rfl (lv_at hl 3 rfl) ?_
                refine q_get (ci := 15) (j := 8) (v := .int lx115) C0 V i_FR rfl rfl hO0 (by decide) w_2084 rfl d_17_29_228 ?_
                exact q_reti C0 V (Or.inr (Or.inr (Or.inr (Or.inr (Or.inr (Or.inl ⟨lx115, y38, lx116, c15, c19, c23, c27, c40, (show (((-1) < (-x1.toInt) ∧ lx115.toInt = 2) ∨ ((-x1.toInt) ≤ (-1) ∧ lx115.toInt = 2 + 1 * ((-1) - (-x1.toInt) + 1))) from by have t1 : 0 ≤ x1.toInt := q_nltI c15; have t2 : x1.toInt ≤ 1100 := q_nltI c19; have t3 : 0 ≤ x2.toInt := q_nltI c23; have t4 : x2.toInt ≤ 3 := q_leI c27; have t5 : 1080 < x1.toInt := q_nleI c40; have t6 : lx96.toInt ≤ 1080 := q_leI c100; have t7 : lx114.toInt < (-x1.toInt) := by { have e1 : (lx114 : Int32).toInt = lx114.toInt := rfl; have e2 : ((-x1) : Int32).toInt = (-x1.toInt) := (q_negI (x := x1.toInt) rfl (by have t1 : 0 ≤ x1.toInt := q_nltI c15; have t2 : x1.toInt ≤ 1100 := q_nltI c19; have t3 : 1080 < x1.toInt := q_nleI c40; omega)); have e3 := q_ltI c121; omega }; have eb : (-x1 : Int32).toInt = (-x1.toInt) := (q_negI (x := x1.toInt) rfl (by have t1 : 0 ≤ x1.toInt := q_nltI c15; have t2 : x1.toInt ≤ 1100 := q_nltI c19; have t3 : 1080 < x1.toInt := q_nleI c40; have t4 : lx114.toInt < (-x1.toInt) := by { have e1 : (lx114 : Int32).toInt = lx114.toInt := rfl; have e2 : ((-x1) : Int32).toInt = (-x1.toInt) := (q_negI (x := x1.toInt) rfl (by have t1 : 0 ≤ x1.toInt := q_nltI c15; have t2 : x1.toInt ≤ 1100 := q_nltI c19; have t3 : 1080 < x1.toInt := q_nleI c40; omega)); have e3 := q_ltI c121; omega }; omega)); omega), (q_Ile (x := 2) (y := lx115.toInt) (by decide) rfl (by have t1 : 0 ≤ x1.toInt := q_nltI c15; have t2 : x1.toInt ≤ 1100 := q_nltI c19; have t3 : 1080 < x1.toInt := q_nleI c40; have t4 : lx114.toInt < (-x1.toInt) := by { have e1 : (lx114 : Int32).toInt = lx114.toInt := rfl; have e2 : ((-x1) : Int32).toInt = (-x1.toInt) := (q_negI (x := x1.toInt) rfl (by have t1 : 0 ≤ x1.toInt := q_nltI c15; have t2 : x1.toInt ≤ 1100 := q_nltI c19; have t3 : 1080 < x1.toInt := q_nleI c40; omega)); have e3 := q_ltI c121; omega }; omega)), (q_Ile (x := lx115.toInt) (y := 1102) rfl (by decide) (by have t1 : 0 ≤ x1.toInt := q_nltI c15; have t2 : x1.toInt ≤ 1100 := q_nltI c19; have t3 : 1080 < x1.toInt := q_nleI c40; have t4 : lx114.toInt < (-x1.toInt) := by { have e1 : (lx114 : Int32).toInt = lx114.toInt := rfl; have e2 : ((-x1) : Int32).toInt = (-x1.toInt) := (q_negI (x := x1.toInt) rfl (by have t1 : 0 ≤ x1.toInt := q_nltI c15; have t2 : x1.toInt ≤ 1100 := q_nltI c19; have t3 : 1080 < x1.toInt := q_nleI c40; omega)); have e3 := q_ltI c121; omega }; omega)), rfl, hF, hO0, hA1, hA2, hA3, hA6, hA7⟩)))))) d_17_29_231
              ·
                refine lv_aload_n hx hb d_17_29_208 rfl (lv_at hl 3 rfl) ?_
                refine lv_bipush (v := 48) hx hb d_17_29_209 (by decide) ?_
                refine lv_aload_n hx hb d_17_29_211 rfl (lv_at hl 3 rfl) ?_
                refine lv_iload hx hb d_17_29_212 (lv_at hl 0 rfl) ?_
                refine q_goi V (q_runV (As := [.int lx114]) (rest := [.int 48, .ref qO0]) (d := 1) (mc := 0) (ms := 0) (ci := 15) C0 V rfl LV_FR_169 (c_FR_figureAt_10 l D g w117 kO0 kA6 qO0 qA1 qA2 qA3 qA4 qA5 qA6 qA7 lx114 lx115 hO0 hA6 (q_Ile (x := (-1101)) (y := lx114.toInt) (by decide) rfl (by have t1 : 0 ≤ x1.toInt := q_nltI c15; have t2 : x1.toInt ≤ 1100 := q_nltI c19; have t3 : 1080 < x1.toInt := q_nleI c40; have t4 : (-x1.toInt) ≤ lx114.toInt := by { have e1 : (lx114 : Int32).toInt = lx114.toInt := rfl; have e2 : ((-x1) : Int32).toInt = (-x1.toInt) := (q_negI (x := x1.toInt) rfl (by have t1 : 0 ≤ x1.toInt := q_nltI c15; have t2 : x1.toInt ≤ 1100 := q_nltI c19; have t3 : 1080 < x1.toInt := q_nleI c40; omega)); have e3 := q_nltI c121; omega }; omega)) (q_Ile (x := lx114.toInt) (y := (-1)) rfl (by decide) (by have t1 : 0 ≤ x1.toInt := q_nltI c15; have t2 : x1.toInt ≤ 1100 := q_nltI c19; have t3 : 1080 < x1.toInt := q_nleI c40; have t4 : (-x1.toInt) ≤ lx114.toInt := by { have e1 : (lx114 : Int32).toInt = lx114.toInt := rfl; have e2 : ((-x1) : Int32).toInt = (-x1.toInt) := (q_negI (x := x1.toInt) rfl (by have t1 : 0 ≤ x1.toInt := q_nltI c15; have t2 : x1.toInt ≤ 1100 := q_nltI c19; have t3 : 1080 < x1.toInt := q_nleI c40; omega)); have e3 := q_nltI c121; omega }; omega)) (q_Ile (x := 2) (y := lx115.toInt) (by decide) rfl (by have t1 : 0 ≤ x1.toInt := q_nltI c15; have t2 : x1.toInt ≤ 1100 := q_nltI c19; have t3 : 1080 < x1.toInt := q_nleI c40; have t4 : (-x1.toInt) ≤ lx114.toInt := by { have e1 : (lx114 : Int32).toInt = lx114.toInt := rfl; have e2 : ((-x1) : Int32).toInt = (-x1.toInt) := (q_negI (x := x1.toInt) rfl (by have t1 : 0 ≤ x1.toInt := q_nltI c15; have t2 : x1.toInt ≤ 1100 := q_nltI c19; have t3 : 1080 < x1.toInt := q_nleI c40; omega)); have e3 := q_nltI c121; omega }; omega)) (q_Ile (x := lx115.toInt) (y := 1102) rfl (by decide) (by have t1 : 0 ≤ x1.toInt := q_nltI c15; have t2 : x1.toInt ≤ 1100 := q_nltI c19; have t3 : 1080 < x1.toInt := q_nleI c40; have t4 : (-x1.toInt) ≤ lx114.toInt := by { have e1 : (lx114 : Int32).toInt = lx114.toInt := rfl; have e2 : ((-x1) : Int32).toInt = (-x1.toInt) := (q_negI (x := x1.toInt) rfl (by have t1 : 0 ≤ x1.toInt := q_nltI c15; have t2 : x1.toInt ≤ 1100 := q_nltI c19; have t3 : 1080 < x1.toInt := q_nleI c40; omega)); have e3 := q_nltI c121; omega }; omega)) _) rfl rfl hO0 rfl hl.1 rfl (Nat.le_of_ble_eq_true rfl) ⟨by decide, by decide⟩ ⟨Nat.le_of_ble_eq_true rfl, Nat.le_of_ble_eq_true rfl⟩ d_17_29_214) (fun v124 u123 H locs hp122 V => ?_)
                obtain ⟨rfl, rfl⟩ := hp122
                refine lv_iadd hx hb d_17_29_217 ?_
                refine q_ti (v := 48) (by decide) ?_
                refine q_gov V (q_runV (As := [.int 48]) (rest := []) (d := 1) (mc := 0) (ms := 0) (ci := 15) C0 V rfl LV_FR_110 (c_FR_add_18 l D g w117 kO0 kA7 qO0 qA1 qA2 qA3 qA4 qA5 qA6 qA7 lx115 lx116 hO0 hA7 (q_Ile (x := 2) (y := lx115.toInt) (by decide) rfl (by have t1 : 0 ≤ x1.toInt := q_nltI c15; have t2 : x1.toInt ≤ 1100 := q_nltI c19; have t3 : 1080 < x1.toInt := q_nleI c40; have t4 : (-x1.toInt) ≤ lx114.toInt := by { have e1 : (lx114 : Int32).toInt = lx114.toInt := rfl; have e2 : ((-x1) : Int32).toInt = (-x1.toInt) := (q_negI (x := x1.toInt) rfl (by have t1 : 0 ≤ x1.toInt := q_nltI c15; have t2 : x1.toInt ≤ 1100 := q_nltI c19; have t3 : 1080 < x1.toInt := q_nleI c40; omega)); have e3 := q_nltI c121; omega }; omega)) (q_Ile (x := lx115.toInt) (y := 1102) rfl (by decide) (by have t1 : 0 ≤ x1.toInt := q_nltI c15; have t2 : x1.toInt ≤ 1100 := q_nltI c19; have t3 : 1080 < x1.toInt := q_nleI c40; have t4 : (-x1.toInt) ≤ lx114.toInt := by { have e1 : (lx114 : Int32).toInt = lx114.toInt := rfl; have e2 : ((-x1) : Int32).toInt = (-x1.toInt) := (q_negI (x := x1.toInt) rfl (by have t1 : 0 ≤ x1.toInt := q_nltI c15; have t2 : x1.toInt ≤ 1100 := q_nltI c19; have t3 : 1080 < x1.toInt := q_nleI c40; omega)); have e3 := q_nltI c121; omega }; omega)) _) rfl rfl hO0 rfl hl.1 rfl (Nat.le_of_ble_eq_true rfl) ⟨by decide, by decide⟩ ⟨Nat.le_of_ble_eq_true rfl, Nat.le_of_ble_eq_true rfl⟩ d_17_29_218) (fun u127 H locs hp126 V => ?_)
                obtain ⟨hg128, hO0, hA7⟩ := hp126
                replace hF := q_uc hF hg128 (q_sc (.head _) (q_sc (List.mem_of_getElem? (i := 5) rfl) (fun _ h => absurd h List.not_mem_nil)))
                refine lv_iinc (v := lx114 + (-1)) (lv' := [(8, .int (lx114 + (-1))), (7, .int lx96), (6, .int 0), (0, .ref qO0), (1, .long 0), (3, .int 1), (4, .int x1), (5, .int x2)]) hx hb d_17_29_221 hl (k := 0) rfl (rfl) (by decide) rfl (fun ls hl => ?_)
                refine lv_goto (tgt := 200) hx hb d_17_29_224 (by decide) ?_
                replace hA1 := (hg128 _ (q_nc n_A1_O0 (q_nc n_A1_A7 List.not_mem_nil))).trans (hA1)
                replace hA2 := (hg128 _ (q_nc n_A2_O0 (q_nc n_A2_A7 List.not_mem_nil))).trans (hA2)
                replace hA3 := (hg128 _ (q_nc n_A3_O0 (q_nc n_A3_A7 List.not_mem_nil))).trans (hA3)
                replace hA6 := (hg128 _ (q_nc n_A6_O0 (q_nc n_A6_A7 List.not_mem_nil))).trans (hA6)
                exact ih120 ((lx114 + (-1) : Int32), (lx115 + 1 : Int32), (upd lx116 lx115.toNatClampNeg 48 : Nat → Int32)) _ _ _ _ (show ((lx114 + (-1)).toInt - (-x1.toInt) + 1).toNat < (lx114.toInt - (-x1.toInt) + 1).toNat from by have t1 : 0 ≤ x1.toInt := q_nltI c15; have t2 : x1.toInt ≤ 1100 := q_nltI c19; have t3 : 1080 < x1.toInt := q_nleI c40; have t4 : (-x1.toInt) ≤ lx114.toInt := by { have e1 : (lx114 : Int32).toInt = lx114.toInt := rfl; have e2 : ((-x1) : Int32).toInt = (-x1.toInt) := (q_negI (x := x1.toInt) rfl (by have t1 : 0 ≤ x1.toInt := q_nltI c15; have t2 : x1.toInt ≤ 1100 := q_nltI c19; have t3 : 1080 < x1.toInt := q_nleI c40; omega)); have e3 := q_nltI c121; omega }; have e : (lx114 + (-1)).toInt = (lx114.toInt + (-1)) := (q_addI (x := lx114.toInt) (y := (-1)) rfl (by decide) (by have t1 : 0 ≤ x1.toInt := q_nltI c15; have t2 : x1.toInt ≤ 1100 := q_nltI c19; have t3 : 1080 < x1.toInt := q_nleI c40; have t4 : (-x1.toInt) ≤ lx114.toInt := by { have e1 : (lx114 : Int32).toInt = lx114.toInt := rfl; have e2 : ((-x1) : Int32).toInt = (-x1.toInt) := (q_negI (x := x1.toInt) rfl (by have t1 : 0 ≤ x1.toInt := q_nltI c15; have t2 : x1.toInt ≤ 1100 := q_nltI c19; have t3 : 1080 < x1.toInt := q_nleI c40; omega)); have e3 := q_nltI c121; omega }; omega) (by have t1 : 0 ≤ x1.toInt := q_nltI c15; have t2 : x1.toInt ≤ 1100 := q_nltI c19; have t3 : 1080 < x1.toInt := q_nleI c40; have t4 : (-x1.toInt) ≤ lx114.toInt := by { have e1 : (lx114 : Int32).toInt = lx114.toInt := rfl; have e2 : ((-x1) : Int32).toInt = (-x1.toInt) := (q_negI (x := x1.toInt) rfl (by have t1 : 0 ≤ x1.toInt := q_nltI c15; have t2 : x1.toInt ≤ 1100 := q_nltI c19; have t3 : 1080 < x1.toInt := q_nleI c40; omega)); have e3 := q_nltI c121; omega }; omega)); omega) ⟨(show (lx114 + (-1)).toInt ≤ (-1) ∧ ((-x1.toInt) - 1 ≤ (lx114 + (-1)).toInt ∨ (lx114 + (-1)).toInt = (-1)) from by have t1 : 0 ≤ x1.toInt := q_nltI c15; have t2 : x1.toInt ≤ 1100 := q_nltI c19; have t3 : 1080 < x1.toInt := q_nleI c40; have t4 : (-x1.toInt) ≤ lx114.toInt := by { have e1 : (lx114 : Int32).toInt = lx114.toInt := rfl; have e2 : ((-x1) : Int32).toInt = (-x1.toInt) := (q_negI (x := x1.toInt) rfl (by have t1 : 0 ≤ x1.toInt := q_nltI c15; have t2 : x1.toInt ≤ 1100 := q_nltI c19; have t3 : 1080 < x1.toInt := q_nleI c40; omega)); have e3 := q_nltI c121; omega }; have e : (lx114 + (-1)).toInt = (lx114.toInt + (-1)) := (q_addI (x := lx114.toInt) (y := (-1)) rfl (by decide) (by have t1 : 0 ≤ x1.toInt := q_nltI c15; have t2 : x1.toInt ≤ 1100 := q_nltI c19; have t3 : 1080 < x1.toInt := q_nleI c40; have t4 : (-x1.toInt) ≤ lx114.toInt := by { have e1 : (lx114 : Int32).toInt = lx114.toInt := rfl; have e2 : ((-x1) : Int32).toInt = (-x1.toInt) := (q_negI (x := x1.toInt) rfl (by have t1 : 0 ≤ x1.toInt := q_nltI c15; have t2 : x1.toInt ≤ 1100 := q_nltI c19; have t3 : 1080 < x1.toInt := q_nleI c40; omega)); have e3 := q_nltI c121; omega }; omega) (by have t1 : 0 ≤ x1.toInt := q_nltI c15; have t2 : x1.toInt ≤ 1100 := q_nltI c19; have t3 : 1080 < x1.toInt := q_nleI c40; have t4 : (-x1.toInt) ≤ lx114.toInt := by { have e1 : (lx114 : Int32).toInt = lx114.toInt := rfl; have e2 : ((-x1) : Int32).toInt = (-x1.toInt) := (q_negI (x := x1.toInt) rfl (by have t1 : 0 ≤ x1.toInt := q_nltI c15; have t2 : x1.toInt ≤ 1100 := q_nltI c19; have t3 : 1080 < x1.toInt := q_nleI c40; omega)); have e3 := q_nltI c121; omega }; omega)); omega), (show (lx115 + 1 : Int32).toInt = 2 + 1 * ((-1) - (lx114 + (-1) : Int32).toInt) from by have t1 : 0 ≤ x1.toInt := q_nltI c15; have t2 : x1.toInt ≤ 1100 := q_nltI c19; have t3 : 0 ≤ x2.toInt := q_nltI c23; have t4 : x2.toInt ≤ 3 := q_leI c27; have t5 : 1080 < x1.toInt := q_nleI c40; have t6 : lx96.toInt ≤ 1080 := q_leI c100; have t7 : (-x1.toInt) ≤ lx114.toInt := by { have e1 : (lx114 : Int32).toInt = lx114.toInt := rfl; have e2 : ((-x1) : Int32).toInt = (-x1.toInt) := (q_negI (x := x1.toInt) rfl (by have t1 : 0 ≤ x1.toInt := q_nltI c15; have t2 : x1.toInt ≤ 1100 := q_nltI c19; have t3 : 1080 < x1.toInt := q_nleI c40; omega)); have e3 := q_nltI c121; omega }; have e0 : (lx114 + (-1) : Int32).toInt = (lx114.toInt + (-1)) := (q_addI (x := lx114.toInt) (y := (-1)) rfl (by decide) (by have t1 : 0 ≤ x1.toInt := q_nltI c15; have t2 : x1.toInt ≤ 1100 := q_nltI c19; have t3 : 1080 < x1.toInt := q_nleI c40; have t4 : (-x1.toInt) ≤ lx114.toInt := by { have e1 : (lx114 : Int32).toInt = lx114.toInt := rfl; have e2 : ((-x1) : Int32).toInt = (-x1.toInt) := (q_negI (x := x1.toInt) rfl (by have t1 : 0 ≤ x1.toInt := q_nltI c15; have t2 : x1.toInt ≤ 1100 := q_nltI c19; have t3 : 1080 < x1.toInt := q_nleI c40; omega)); have e3 := q_nltI c121; omega }; omega) (by have t1 : 0 ≤ x1.toInt := q_nltI c15; have t2 : x1.toInt ≤ 1100 := q_nltI c19; have t3 : 1080 < x1.toInt := q_nleI c40; have t4 : (-x1.toInt) ≤ lx114.toInt := by { have e1 : (lx114 : Int32).toInt = lx114.toInt := rfl; have e2 : ((-x1) : Int32).toInt = (-x1.toInt) := (q_negI (x := x1.toInt) rfl (by have t1 : 0 ≤ x1.toInt := q_nltI c15; have t2 : x1.toInt ≤ 1100 := q_nltI c19; have t3 : 1080 < x1.toInt := q_nleI c40; omega)); have e3 := q_nltI c121; omega }; omega)); have e1 : (lx115 + 1 : Int32).toInt = (lx115.toInt + 1) := (q_addI (x := lx115.toInt) (y := 1) rfl (by decide) (by have t1 : 0 ≤ x1.toInt := q_nltI c15; have t2 : x1.toInt ≤ 1100 := q_nltI c19; have t3 : 1080 < x1.toInt := q_nleI c40; have t4 : (-x1.toInt) ≤ lx114.toInt := by { have e1 : (lx114 : Int32).toInt = lx114.toInt := rfl; have e2 : ((-x1) : Int32).toInt = (-x1.toInt) := (q_negI (x := x1.toInt) rfl (by have t1 : 0 ≤ x1.toInt := q_nltI c15; have t2 : x1.toInt ≤ 1100 := q_nltI c19; have t3 : 1080 < x1.toInt := q_nleI c40; omega)); have e3 := q_nltI c121; omega }; omega) (by have t1 : 0 ≤ x1.toInt := q_nltI c15; have t2 : x1.toInt ≤ 1100 := q_nltI c19; have t3 : 1080 < x1.toInt := q_nleI c40; have t4 : (-x1.toInt) ≤ lx114.toInt := by { have e1 : (lx114 : Int32).toInt = lx114.toInt := rfl; have e2 : ((-x1) : Int32).toInt = (-x1.toInt) := (q_negI (x := x1.toInt) rfl (by have t1 : 0 ≤ x1.toInt := q_nltI c15; have t2 : x1.toInt ≤ 1100 := q_nltI c19; have t3 : 1080 < x1.toInt := q_nleI c40; omega)); have e3 := q_nltI c121; omega }; omega)); omega), V, q_lw hl (q_lw1 0 rfl (q_lw1 1 rfl (q_lw1 2 rfl (q_lw1 3 rfl (q_lw1 4 rfl (q_lw1 5 rfl (q_lw1 6 rfl (q_lw1 7 rfl q_lw0)))))))), hF, hO0, hA1, hA2, hA3, hA6, hA7⟩
            ·
              refine lv_aload_n hx hb d_17_29_138 rfl (lv_at hl 2 rfl) ?_
              refine q_get (ci := 15) (j := 6) (v := .ref qA6) C0 V i_FR rfl rfl hO0 (by decide) w_2081 rfl d_17_29_139 ?_
              refine lv_iload hx hb d_17_29_142 (lv_at hl 0 rfl) ?_
              refine q_iald C0 V hA6 (q_ix (x := lx96.toInt) rfl (by have t1 : 1080 < lx96.toInt := q_nleI c100; omega) (by have t1 : 1080 < lx96.toInt := q_nleI c100; omega)) d_17_29_144 ?_
              refine q_ti (v := 0) (by first | rfl | decide | simp [upd, vp_updL, sb_cl0]) ?_
              refine lv_if_ne (tgt := 154) hx hb d_17_29_145 (by decide) (fun c129 => absurd (by decide) c129) (fun c129 => ?_)
              refine lv_iinc (v := lx96 + (-1)) (lv' := [(7, .int (lx96 + (-1))), (6, .int 0), (0, .ref qO0), (1, .long 0), (3, .int 1), (4, .int x1), (5, .int x2)]) hx hb d_17_29_148 hl (k := 0) rfl (rfl) (by decide) rfl (fun ls hl => ?_)
              refine lv_goto (tgt := 130) hx hb d_17_29_151 (by decide) ?_
              exact ih99 ((lx96 + (-1) : Int32)) _ _ _ _ (show ((lx96 + (-1)).toInt - 1080).toNat < (lx96.toInt - 1080).toNat from by have t1 : 1080 < lx96.toInt := q_nleI c100; have e : (lx96 + (-1)).toInt = (lx96.toInt + (-1)) := (q_addI (x := lx96.toInt) (y := (-1)) rfl (by decide) (by have t1 : 1080 < lx96.toInt := q_nleI c100; omega) (by have t1 : 1080 < lx96.toInt := q_nleI c100; omega)); omega) ⟨(show 1080 ≤ (lx96 + (-1)).toInt ∧ (lx96 + (-1)).toInt ≤ 1403 from by have t1 : 1080 < lx96.toInt := q_nleI c100; have e : (lx96 + (-1)).toInt = (lx96.toInt + (-1)) := (q_addI (x := lx96.toInt) (y := (-1)) rfl (by decide) (by have t1 : 1080 < lx96.toInt := q_nleI c100; omega) (by have t1 : 1080 < lx96.toInt := q_nleI c100; omega)); omega), V, q_lw hl (q_lw1 0 rfl (q_lw1 1 rfl (q_lw1 2 rfl (q_lw1 3 rfl (q_lw1 4 rfl (q_lw1 5 rfl (q_lw1 6 rfl q_lw0))))))), hF, hO0, hA1, hA2, hA3, hA6, hA7⟩
        ·
          refine lv_iconst (v := 1) hx hb d_17_29_55 (by decide) ?_
          refine lv_goto (tgt := 71) hx hb d_17_29_56 (by decide) ?_
          refine q_put (ci := 15) (j := 0) (v := .int 1) (ty := .int) C0 V i_FR o_FR n_FR rfl rfl hO0 (by decide) w_2074 rfl rfl rfl rfl (Nat.le_of_ble_eq_true rfl) d_17_29_71 (fun H locs w130 hu131 hO0 V => ?_)
          replace hO0 : w130[kO0]? = (some (qO0, .inr (15, [.int 1, .ref qA1, .ref qA2, .ref qA3, .ref qA4, .ref qA5, .ref qA6, .ref qA7, .int 0, .int 0, .int 0, .long 0, .int 23, .int 255, .long 0, .int (-149), .long 0, .int 0])) : Option (Nat × va_E)) := hO0
          replace hF := q_us hF hu131 (.head _)
          refine lv_aload_n hx hb d_17_29_74 rfl (lv_at hl 0 rfl) ?_
          refine q_get (ci := 15) (j := 0) (v := .int 1) C0 V i_FR rfl rfl hO0 (by decide) w_2074 rfl d_17_29_75 ?_
          refine lv_if_le (tgt := 83) hx hb d_17_29_78 (by decide) (fun c132 => absurd c132 (by decide)) (fun c132 => ?_)
          refine lv_iconst (v := 0) hx hb d_17_29_81 (by decide) ?_
          replace hA1 := (hu131 _ n_A1_O0).trans ((hg9 _ (q_nc n_A1_O0 List.not_mem_nil)).trans (hA1))
          replace hA2 := (hu131 _ n_A2_O0).trans ((hg9 _ (q_nc n_A2_O0 List.not_mem_nil)).trans (hA2))
          replace hA3 := (hu131 _ n_A3_O0).trans ((hg9 _ (q_nc n_A3_O0 List.not_mem_nil)).trans (hA3))
          replace hA6 := (hu131 _ n_A6_O0).trans ((hg9 _ (q_nc n_A6_O0 List.not_mem_nil)).trans (hA6))
          replace hA7 := (hu131 _ n_A7_O0).trans ((hg9 _ (q_nc n_A7_O0 List.not_mem_nil)).trans (hA7))
          exact q_reti C0 V (Or.inr (Or.inr (Or.inr (Or.inr (Or.inr (Or.inr (⟨c15, c19, c23, c27, rfl, hF, hO0, hA1, hA2, hA3, hA6, hA7⟩))))))) d_17_29_82
