set_option maxRecDepth 100000 in
set_option maxHeartbeats 4000000 in
/-- figures on a fresh object -/
theorem c_NM_figures (l : Launch) (D : va_G) (g : Nat → ClassId) (ws : va_W) ( qO0 qA1 qA2 qO3 qO4 qO5 qO6 qO7 qA8 qA9 qA34 qA35 qA36 qA37 qA38 qA39 qA40 : Nat) (x1 : Int32) (x2 : Int32) (x3 : Int32) (x4 : Int32) (x5 : Int32) (hO0 : ws[116]? = (some (qO0, .inr (12, [.int 0, .ref qA1, .int 0, .ref qA2, .int 0, .ref qO3, .ref qO4, .ref qO5, .ref qO6, .ref qO7, .ref qA8, .ref qA9])) : Option (Nat × va_E))) (hA2 : ws[118]? = (some (qA2, .inl (g 0, 12200, .inl (fun _ => 0))) : Option (Nat × va_E))) (hO5 : ws[145]? = (some (qO5, .inr (15, [.int 0, .ref qA34, .ref qA35, .ref qA36, .ref qA37, .ref qA38, .ref qA39, .ref qA40, .int 0, .int 0, .int 0, .long 0, .int 0, .int 0, .long 0, .int 0, .long 0, .int 0])) : Option (Nat × va_E))) (hA8 : ws[167]? = (some (qA8, .inl (g 1, 20, .inr (.inl (fun _ => 0)))) : Option (Nat × va_E))) (hA34 : ws[146]? = (some (qA34, .inl (g 0, 156, .inl (fun _ => 0))) : Option (Nat × va_E))) (hA35 : ws[147]? = (some (qA35, .inl (g 0, 156, .inl (fun _ => 0))) : Option (Nat × va_E))) (hA36 : ws[148]? = (some (qA36, .inl (g 0, 1404, .inl (fun _ => 0))) : Option (Nat × va_E))) (hA39 : ws[151]? = (some (qA39, .inl (g 0, 1404, .inl (fun _ => 0))) : Option (Nat × va_E))) (hA40 : ws[152]? = (some (qA40, .inl (g 0, 1600, .inl (fun _ => 0))) : Option (Nat × va_E))) : q_mI l y_NM_figures prog_14_method_34_code 9 (.int) 4 0 0 D g [.ref qO0, .int x1, .int x2, .int x3, .int x4, .int x5] ws (fun r u => ∃ (t0 z2 z4 : Int32), u[116]? = (some (qO0, .inr (12, [.int t0, .ref qA1, .int z2, .ref qA2, .int z4, .ref qO3, .ref qO4, .ref qO5, .ref qO6, .ref qO7, .ref qA8, .ref qA9])) : Option (Nat × va_E)) ∧ ((t0.toInt = 0 ∧ ((2 ≤ x1.toInt ∧ x1.toInt ≤ 3) ∧ (0 ≤ x2.toInt ∧ x2.toInt ≤ 9) ∧ (0 ≤ x5.toInt ∧ x5.toInt ≤ 3) ∧ (x3.toInt ≠ 0 → (1 ≤ x4.toInt ∧ x4.toInt ≤ 800)) ∧ (x3.toInt = 0 → (0 ≤ x4.toInt ∧ x4.toInt ≤ 1100))) ∧ ((x3.toInt ≠ 0 ∧ x4.toInt = 1 ∧ r.toInt = 5) ∨ (x3.toInt ≠ 0 ∧ 1 < x4.toInt ∧ r.toInt = x4.toInt + 5) ∨ (x3.toInt = 0 ∧ x4.toInt = 0 ∧ r.toInt = 1) ∨ (x3.toInt = 0 ∧ 0 < x4.toInt ∧ r.toInt = x4.toInt + 2))) ∨ (t0.toInt = 1 ∧ ¬ ((2 ≤ x1.toInt ∧ x1.toInt ≤ 3) ∧ (0 ≤ x2.toInt ∧ x2.toInt ≤ 9) ∧ (0 ≤ x5.toInt ∧ x5.toInt ≤ 3) ∧ (x3.toInt ≠ 0 → (1 ≤ x4.toInt ∧ x4.toInt ≤ 800)) ∧ (x3.toInt = 0 → (0 ≤ x4.toInt ∧ x4.toInt ≤ 1100))))) ∧ q_ge 169 ws u) := by
  intro sz
  refine q_into (by decide) (Nat.le_of_ble_eq_true rfl) ?_
  intro p e s m below meth c ls hsz C0 V hl
  have hx := C0.1
  have hb := C0.2.1
  have hl : lv_has ls 9 [(0, .ref qO0), (1, .int x1), (2, .int x2), (3, .int x3), (4, .int x4), (5, .int x5)] := hl
  have hF : q_ge 169 ws ws := q_g0
  refine lv_aload_n hx hb d_14_34_0 rfl (lv_at hl 0 rfl) ?_
  refine lv_iload_n hx hb d_14_34_1 rfl (lv_at hl 1 rfl) ?_
  refine lv_iconst (v := 2) hx hb d_14_34_2 (by decide) ?_
  refine lv_icmp_lt (tgt := 14) hx hb d_14_34_3 (by decide) (fun c1 => ?_) (fun c1 => ?_)
  ·
    refine lv_iconst (v := 1) hx hb d_14_34_14 (by decide) ?_
    refine lv_goto (tgt := 19) hx hb d_14_34_15 (by decide) ?_
    refine q_put (ci := 12) (j := 0) (v := .int 1) (ty := .int) C0 V i_NM o_NM n_NM rfl rfl hO0 (by decide) w_2298 rfl rfl rfl rfl (Nat.le_of_ble_eq_true rfl) d_14_34_19 (fun H locs w2 hu3 hO0 V => ?_)
    replace hO0 : w2[116]? = (some (qO0, .inr (12, [.int 1, .ref qA1, .int 0, .ref qA2, .int 0, .ref qO3, .ref qO4, .ref qO5, .ref qO6, .ref qO7, .ref qA8, .ref qA9])) : Option (Nat × va_E)) := hO0
    replace hF := q_gs hF hu3 (Nat.le_of_ble_eq_true rfl)
    refine lv_aload_n hx hb d_14_34_22 rfl (lv_at hl 0 rfl) ?_
    refine q_get (ci := 12) (j := 0) (v := .int 1) C0 V i_NM rfl rfl hO0 (by decide) w_2298 rfl d_14_34_23 ?_
    refine lv_if_le (tgt := 31) hx hb d_14_34_26 (by decide) (fun c4 => absurd c4 (by decide)) (fun c4 => ?_)
    refine lv_iconst (v := 0) hx hb d_14_34_29 (by decide) ?_
    exact q_reti C0 V (⟨1, 0, 0, hO0, (show ((1 : Int32).toInt = 0 ∧ ((2 ≤ x1.toInt ∧ x1.toInt ≤ 3) ∧ (0 ≤ x2.toInt ∧ x2.toInt ≤ 9) ∧ (0 ≤ x5.toInt ∧ x5.toInt ≤ 3) ∧ (x3.toInt ≠ 0 → (1 ≤ x4.toInt ∧ x4.toInt ≤ 800)) ∧ (x3.toInt = 0 → (0 ≤ x4.toInt ∧ x4.toInt ≤ 1100))) ∧ ((x3.toInt ≠ 0 ∧ x4.toInt = 1 ∧ (0 : Int32).toInt = 5) ∨ (x3.toInt ≠ 0 ∧ 1 < x4.toInt ∧ (0 : Int32).toInt = x4.toInt + 5) ∨ (x3.toInt = 0 ∧ x4.toInt = 0 ∧ (0 : Int32).toInt = 1) ∨ (x3.toInt = 0 ∧ 0 < x4.toInt ∧ (0 : Int32).toInt = x4.toInt + 2))) ∨ ((1 : Int32).toInt = 1 ∧ ¬ ((2 ≤ x1.toInt ∧ x1.toInt ≤ 3) ∧ (0 ≤ x2.toInt ∧ x2.toInt ≤ 9) ∧ (0 ≤ x5.toInt ∧ x5.toInt ≤ 3) ∧ (x3.toInt ≠ 0 → (1 ≤ x4.toInt ∧ x4.toInt ≤ 800)) ∧ (x3.toInt = 0 → (0 ≤ x4.toInt ∧ x4.toInt ≤ 1100)))) from by have t1 : x1.toInt < 2 := q_ltI c1; have e0 : (1 : Int32).toInt = 1 := (by decide); have e1 : (0 : Int32).toInt = 0 := (by decide); omega), hF⟩) d_14_34_30
  ·
    refine lv_iload_n hx hb d_14_34_6 rfl (lv_at hl 1 rfl) ?_
    refine lv_iload_n hx hb d_14_34_7 rfl (lv_at hl 2 rfl) ?_
    refine q_goi V (q_runS (As := [.int x1, .int x2]) (rest := [.ref qO0]) (d := 2) (mc := 0) (ms := 0) C0 V rfl LS_NM_84 (c_NM_no_IIZ l D g ws x1 x2 _) rfl hl.1 rfl (Nat.le_of_ble_eq_true rfl) ⟨by decide, by decide⟩ ⟨Nat.le_of_ble_eq_true rfl, Nat.le_of_ble_eq_true rfl⟩ d_14_34_8) (fun v7 u6 H locs hp5 V => ?_)
    rcases hp5 with ⟨c8, rfl, rfl⟩ | ⟨c10, c11, rfl, rfl⟩ | ⟨c13, c14, c15, rfl, rfl⟩ | ⟨c17, c18, c19, c20, rfl, rfl⟩ | ⟨c22, c23, c24, c25, rfl, rfl⟩
    ·
      exact absurd c8 (Int32.not_lt.mpr (q_Ile (x := 0) (y := x1.toInt) (by decide) rfl (by have t1 : 2 ≤ x1.toInt := q_nltI c1; have y0h := q_hi32 (x := x1); omega)))
    ·
      refine lv_if_eq (tgt := 18) hx hb d_14_34_11 (by decide) (fun c27 => absurd c27 (by decide)) (fun c27 => ?_)
      refine lv_iconst (v := 1) hx hb d_14_34_14 (by decide) ?_
      refine lv_goto (tgt := 19) hx hb d_14_34_15 (by decide) ?_
      refine q_put (ci := 12) (j := 0) (v := .int 1) (ty := .int) C0 V i_NM o_NM n_NM rfl rfl hO0 (by decide) w_2298 rfl rfl rfl rfl (Nat.le_of_ble_eq_true rfl) d_14_34_19 (fun H locs w28 hu29 hO0 V => ?_)
      replace hO0 : w28[116]? = (some (qO0, .inr (12, [.int 1, .ref qA1, .int 0, .ref qA2, .int 0, .ref qO3, .ref qO4, .ref qO5, .ref qO6, .ref qO7, .ref qA8, .ref qA9])) : Option (Nat × va_E)) := hO0
      replace hF := q_gs hF hu29 (Nat.le_of_ble_eq_true rfl)
      refine lv_aload_n hx hb d_14_34_22 rfl (lv_at hl 0 rfl) ?_
      refine q_get (ci := 12) (j := 0) (v := .int 1) C0 V i_NM rfl rfl hO0 (by decide) w_2298 rfl d_14_34_23 ?_
      refine lv_if_le (tgt := 31) hx hb d_14_34_26 (by decide) (fun c30 => absurd c30 (by decide)) (fun c30 => ?_)
      refine lv_iconst (v := 0) hx hb d_14_34_29 (by decide) ?_
      exact q_reti C0 V (⟨1, 0, 0, hO0, (show ((1 : Int32).toInt = 0 ∧ ((2 ≤ x1.toInt ∧ x1.toInt ≤ 3) ∧ (0 ≤ x2.toInt ∧ x2.toInt ≤ 9) ∧ (0 ≤ x5.toInt ∧ x5.toInt ≤ 3) ∧ (x3.toInt ≠ 0 → (1 ≤ x4.toInt ∧ x4.toInt ≤ 800)) ∧ (x3.toInt = 0 → (0 ≤ x4.toInt ∧ x4.toInt ≤ 1100))) ∧ ((x3.toInt ≠ 0 ∧ x4.toInt = 1 ∧ (0 : Int32).toInt = 5) ∨ (x3.toInt ≠ 0 ∧ 1 < x4.toInt ∧ (0 : Int32).toInt = x4.toInt + 5) ∨ (x3.toInt = 0 ∧ x4.toInt = 0 ∧ (0 : Int32).toInt = 1) ∨ (x3.toInt = 0 ∧ 0 < x4.toInt ∧ (0 : Int32).toInt = x4.toInt + 2))) ∨ ((1 : Int32).toInt = 1 ∧ ¬ ((2 ≤ x1.toInt ∧ x1.toInt ≤ 3) ∧ (0 ≤ x2.toInt ∧ x2.toInt ≤ 9) ∧ (0 ≤ x5.toInt ∧ x5.toInt ≤ 3) ∧ (x3.toInt ≠ 0 → (1 ≤ x4.toInt ∧ x4.toInt ≤ 800)) ∧ (x3.toInt = 0 → (0 ≤ x4.toInt ∧ x4.toInt ≤ 1100)))) from by have t1 : 2 ≤ x1.toInt := q_nltI c1; have t2 : 0 ≤ x1.toInt := q_nltI c10; have t3 : 3 < x1.toInt := q_ltI c11; have e0 : (1 : Int32).toInt = 1 := (by decide); have e1 : (0 : Int32).toInt = 0 := (by decide); omega), hF⟩) d_14_34_30
    ·
      refine lv_if_eq (tgt := 18) hx hb d_14_34_11 (by decide) (fun c31 => absurd c31 (by decide)) (fun c31 => ?_)
      refine lv_iconst (v := 1) hx hb d_14_34_14 (by decide) ?_
      refine lv_goto (tgt := 19) hx hb d_14_34_15 (by decide) ?_
      refine q_put (ci := 12) (j := 0) (v := .int 1) (ty := .int) C0 V i_NM o_NM n_NM rfl rfl hO0 (by decide) w_2298 rfl rfl rfl rfl (Nat.le_of_ble_eq_true rfl) d_14_34_19 (fun H locs w32 hu33 hO0 V => ?_)
      replace hO0 : w32[116]? = (some (qO0, .inr (12, [.int 1, .ref qA1, .int 0, .ref qA2, .int 0, .ref qO3, .ref qO4, .ref qO5, .ref qO6, .ref qO7, .ref qA8, .ref qA9])) : Option (Nat × va_E)) := hO0
      replace hF := q_gs hF hu33 (Nat.le_of_ble_eq_true rfl)
      refine lv_aload_n hx hb d_14_34_22 rfl (lv_at hl 0 rfl) ?_
      refine q_get (ci := 12) (j := 0) (v := .int 1) C0 V i_NM rfl rfl hO0 (by decide) w_2298 rfl d_14_34_23 ?_
      refine lv_if_le (tgt := 31) hx hb d_14_34_26 (by decide) (fun c34 => absurd c34 (by decide)) (fun c34 => ?_)
      refine lv_iconst (v := 0) hx hb d_14_34_29 (by decide) ?_
      exact q_reti C0 V (⟨1, 0, 0, hO0, (show ((1 : Int32).toInt = 0 ∧ ((2 ≤ x1.toInt ∧ x1.toInt ≤ 3) ∧ (0 ≤ x2.toInt ∧ x2.toInt ≤ 9) ∧ (0 ≤ x5.toInt ∧ x5.toInt ≤ 3) ∧ (x3.toInt ≠ 0 → (1 ≤ x4.toInt ∧ x4.toInt ≤ 800)) ∧ (x3.toInt = 0 → (0 ≤ x4.toInt ∧ x4.toInt ≤ 1100))) ∧ ((x3.toInt ≠ 0 ∧ x4.toInt = 1 ∧ (0 : Int32).toInt = 5) ∨ (x3.toInt ≠ 0 ∧ 1 < x4.toInt ∧ (0 : Int32).toInt = x4.toInt + 5) ∨ (x3.toInt = 0 ∧ x4.toInt = 0 ∧ (0 : Int32).toInt = 1) ∨ (x3.toInt = 0 ∧ 0 < x4.toInt ∧ (0 : Int32).toInt = x4.toInt + 2))) ∨ ((1 : Int32).toInt = 1 ∧ ¬ ((2 ≤ x1.toInt ∧ x1.toInt ≤ 3) ∧ (0 ≤ x2.toInt ∧ x2.toInt ≤ 9) ∧ (0 ≤ x5.toInt ∧ x5.toInt ≤ 3) ∧ (x3.toInt ≠ 0 → (1 ≤ x4.toInt ∧ x4.toInt ≤ 800)) ∧ (x3.toInt = 0 → (0 ≤ x4.toInt ∧ x4.toInt ≤ 1100)))) from by have t1 : 2 ≤ x1.toInt := q_nltI c1; have t2 : 0 ≤ x1.toInt := q_nltI c13; have t3 : x1.toInt ≤ 3 := q_nltI c14; have t4 : x2.toInt < 0 := q_ltI c15; have e0 : (1 : Int32).toInt = 1 := (by decide); have e1 : (0 : Int32).toInt = 0 := (by decide); omega), hF⟩) d_14_34_30
    ·
      refine lv_if_eq (tgt := 18) hx hb d_14_34_11 (by decide) (fun c35 => ?_) (fun c35 => absurd (by decide) c35)
      refine lv_iconst (v := 0) hx hb d_14_34_18 (by decide) ?_
      refine q_put (ci := 12) (j := 0) (v := .int 0) (ty := .int) C0 V i_NM o_NM n_NM rfl rfl hO0 (by decide) w_2298 rfl rfl rfl rfl (Nat.le_of_ble_eq_true rfl) d_14_34_19 (fun H locs w36 hu37 hO0 V => ?_)
      replace hO0 : w36[116]? = (some (qO0, .inr (12, [.int 0, .ref qA1, .int 0, .ref qA2, .int 0, .ref qO3, .ref qO4, .ref qO5, .ref qO6, .ref qO7, .ref qA8, .ref qA9])) : Option (Nat × va_E)) := hO0
      replace hF := q_gs hF hu37 (Nat.le_of_ble_eq_true rfl)
      refine lv_aload_n hx hb d_14_34_22 rfl (lv_at hl 0 rfl) ?_
      refine q_get (ci := 12) (j := 0) (v := .int 0) C0 V i_NM rfl rfl hO0 (by decide) w_2298 rfl d_14_34_23 ?_
      refine lv_if_le (tgt := 31) hx hb d_14_34_26 (by decide) (fun c38 => ?_) (fun c38 => absurd (by decide) c38)
      refine lv_aload_n hx hb d_14_34_31 rfl (lv_at hl 0 rfl) ?_
      refine lv_iload_n hx hb d_14_34_32 rfl (lv_at hl 1 rfl) ?_
      refine lv_iload_n hx hb d_14_34_33 rfl (lv_at hl 2 rfl) ?_
      replace hA8 := (hu37 _ (q_pd 167 116 rfl)).trans (hA8)
      refine q_gol V (q_runV (As := [.int x1, .int x2]) (rest := []) (d := 1) (mc := 0) (ms := 0) (ci := 12) C0 V rfl LV_NM_138 (c_NM_bitsOf l D g w36 qO0 qA1 qA2 qO3 qO4 qO5 qO6 qO7 qA8 qA9 x1 x2 hO0 hA8 (q_Ile (x := 2) (y := x1.toInt) (by decide) rfl (by have t1 : 2 ≤ x1.toInt := q_nltI c1; have t2 : 0 ≤ x1.toInt := q_nltI c17; have t3 : x1.toInt ≤ 3 := q_nltI c18; omega)) (q_Ile (x := x1.toInt) (y := 3) rfl (by decide) (by have t1 : 2 ≤ x1.toInt := q_nltI c1; have t2 : 0 ≤ x1.toInt := q_nltI c17; have t3 : x1.toInt ≤ 3 := q_nltI c18; omega)) (q_Ile (x := 0) (y := x2.toInt) (by decide) rfl (by have t1 : 0 ≤ x2.toInt := q_nltI c19; have t2 : x2.toInt ≤ 9 := q_leI c20; omega)) c20 _) rfl rfl hO0 rfl hl.1 rfl (Nat.le_of_ble_eq_true rfl) ⟨by decide, by decide⟩ ⟨Nat.le_of_ble_eq_true rfl, Nat.le_of_ble_eq_true rfl⟩ d_14_34_34) (fun v41 u40 H locs hp39 V => ?_)
      obtain ⟨rfl, rfl⟩ := hp39
      refine lv_lstore (lv' := [(6, .long 0), (0, .ref qO0), (1, .int x1), (2, .int x2), (3, .int x3), (4, .int x4), (5, .int x5)]) hx hb d_14_34_37 hl (by decide) rfl (fun ls hl => ?_)
      refine lv_iload_n hx hb d_14_34_39 rfl (lv_at hl 4 rfl) ?_
      refine lv_if_eq (tgt := 69) hx hb d_14_34_40 (by decide) (fun c43 => ?_) (fun c43 => ?_)
      ·
        refine lv_aload_n hx hb d_14_34_69 rfl (lv_at hl 1 rfl) ?_
        refine q_get (ci := 12) (j := 7) (v := .ref qO5) C0 V i_NM rfl rfl hO0 (by decide) w_2305 rfl d_14_34_70 ?_
        refine lv_lload hx hb d_14_34_73 (lv_at hl 0 rfl) ?_
        refine lv_iload_n hx hb d_14_34_75 rfl (lv_at hl 2 rfl) ?_
        refine lv_iconst (v := 3) hx hb d_14_34_76 (by decide) ?_
        refine lv_icmp_ne (tgt := 84) hx hb d_14_34_77 (by decide) (fun c44 => ?_) (fun c44 => ?_)
        ·
          refine lv_iconst (v := 0) hx hb d_14_34_84 (by decide) ?_
          refine lv_iload hx hb d_14_34_85 (lv_at hl 5 rfl) ?_
          refine lv_iload hx hb d_14_34_87 (lv_at hl 6 rfl) ?_
          replace hO5 := (hu37 _ (q_pd 145 116 rfl)).trans (hO5)
          replace hA34 := (hu37 _ (q_pd 146 116 rfl)).trans (hA34)
          replace hA35 := (hu37 _ (q_pd 147 116 rfl)).trans (hA35)
          replace hA36 := (hu37 _ (q_pd 148 116 rfl)).trans (hA36)
          replace hA39 := (hu37 _ (q_pd 151 116 rfl)).trans (hA39)
          replace hA40 := (hu37 _ (q_pd 152 116 rfl)).trans (hA40)
          refine q_goi V (q_runV (As := [.long 0, .int 0, .int x4, .int x5]) (rest := []) (d := 3) (mc := 0) (ms := 0) (ci := 15) C0 V rfl LV_NM_227 (c_FR_fixed_5 l D g w36 145 146 147 148 151 152 qO5 qA34 qA35 qA36 qA37 qA38 qA39 qA40 x4 x5 hO5 hA34 hA35 hA36 hA39 hA40 (q_pd 146 147 rfl) (q_pd 146 148 rfl) (q_pd 146 151 rfl) (q_pd 146 152 rfl) (q_pd 147 151 rfl) (q_pd 147 152 rfl) (q_pd 148 147 rfl) (q_pd 148 151 rfl) (q_pd 148 152 rfl) (q_pd 151 152 rfl) _) rfl rfl hO5 rfl hl.1 rfl (Nat.le_of_ble_eq_true rfl) ⟨by decide, by decide⟩ ⟨Nat.le_of_ble_eq_true rfl, Nat.le_of_ble_eq_true rfl⟩ d_14_34_89) (fun v47 u46 H locs hp45 V => ?_)
          rcases hp45 with ⟨c48, rfl, hg49, hO5, hA34, hA35, hA36, hA39, hA40⟩ | ⟨c50, c51, rfl, hg52, hO5, hA34, hA35, hA36, hA39, hA40⟩ | ⟨c53, c54, c55, rfl, hg56, hO5, hA34, hA35, hA36, hA39, hA40⟩ | ⟨y63, c57, c58, c59, c60, c61, c62, rfl, hg64, hO5, hA34, hA35, hA36, hA39, hA40⟩ | ⟨y74, y75, y76, c65, c66, c67, c68, c69, c70, f71, f72, f73, rfl, hg77, hO5, hA34, hA35, hA36, hA39, hA40⟩ | ⟨y86, y87, y88, c78, c79, c80, c81, c82, f83, f84, f85, rfl, hg89, hO5, hA34, hA35, hA36, hA39, hA40⟩ | ⟨c90, c91, c92, c93, rfl, hg94, hO5, hA34, hA35, hA36, hA39, hA40⟩
          ·
            replace hF := q_gc hF hg49 (q_al (Nat.le_of_ble_eq_true rfl) (q_al (Nat.le_of_ble_eq_true rfl) (q_al (Nat.le_of_ble_eq_true rfl) (q_al (Nat.le_of_ble_eq_true rfl) (q_al (Nat.le_of_ble_eq_true rfl) (q_al (Nat.le_of_ble_eq_true rfl) (fun _ h => absurd h List.not_mem_nil)))))))
            refine lv_istore (lv' := [(8, .int 0), (6, .long 0), (0, .ref qO0), (1, .int x1), (2, .int x2), (3, .int x3), (4, .int x4), (5, .int x5)]) hx hb d_14_34_92 hl (by decide) rfl (fun ls hl => ?_)
            refine lv_aload_n hx hb d_14_34_94 rfl (lv_at hl 2 rfl) ?_
            refine lv_aload_n hx hb d_14_34_95 rfl (lv_at hl 2 rfl) ?_
            replace hO0 := (hg49 _ (q_nc (q_pd 116 145 rfl) (q_nc (q_pd 116 146 rfl) (q_nc (q_pd 116 147 rfl) (q_nc (q_pd 116 148 rfl) (q_nc (q_pd 116 151 rfl) (q_nc (q_pd 116 152 rfl) List.not_mem_nil))))))).trans (hO0)
            refine q_get (ci := 12) (j := 7) (v := .ref qO5) C0 V i_NM rfl rfl hO0 (by decide) w_2305 rfl d_14_34_96 ?_
            refine q_getN (ci := 15) (j := 0) (v := .int 1) C0 V i_FR rfl rfl hO5 (by decide) wo_2075 rfl d_14_34_99 ?_
            refine q_put (ci := 12) (j := 0) (v := .int 1) (ty := .int) C0 V i_NM o_NM n_NM rfl rfl hO0 (by decide) w_2298 rfl rfl rfl rfl (Nat.le_of_ble_eq_true rfl) d_14_34_102 (fun H locs w95 hu96 hO0 V => ?_)
            replace hO0 : w95[116]? = (some (qO0, .inr (12, [.int 1, .ref qA1, .int 0, .ref qA2, .int 0, .ref qO3, .ref qO4, .ref qO5, .ref qO6, .ref qO7, .ref qA8, .ref qA9])) : Option (Nat × va_E)) := hO0
            replace hF := q_gs hF hu96 (Nat.le_of_ble_eq_true rfl)
            refine lv_aload_n hx hb d_14_34_105 rfl (lv_at hl 2 rfl) ?_
            refine q_get (ci := 12) (j := 0) (v := .int 1) C0 V i_NM rfl rfl hO0 (by decide) w_2298 rfl d_14_34_106 ?_
            refine lv_if_le (tgt := 116) hx hb d_14_34_109 (by decide) (fun c97 => absurd c97 (by decide)) (fun c97 => ?_)
            refine lv_iconst (v := 0) hx hb d_14_34_112 (by decide) ?_
            refine lv_goto (tgt := 129) hx hb d_14_34_113 (by decide) ?_
            exact q_reti C0 V (⟨1, 0, 0, hO0, (show ((1 : Int32).toInt = 0 ∧ ((2 ≤ x1.toInt ∧ x1.toInt ≤ 3) ∧ (0 ≤ x2.toInt ∧ x2.toInt ≤ 9) ∧ (0 ≤ x5.toInt ∧ x5.toInt ≤ 3) ∧ (x3.toInt ≠ 0 → (1 ≤ x4.toInt ∧ x4.toInt ≤ 800)) ∧ (x3.toInt = 0 → (0 ≤ x4.toInt ∧ x4.toInt ≤ 1100))) ∧ ((x3.toInt ≠ 0 ∧ x4.toInt = 1 ∧ (0 : Int32).toInt = 5) ∨ (x3.toInt ≠ 0 ∧ 1 < x4.toInt ∧ (0 : Int32).toInt = x4.toInt + 5) ∨ (x3.toInt = 0 ∧ x4.toInt = 0 ∧ (0 : Int32).toInt = 1) ∨ (x3.toInt = 0 ∧ 0 < x4.toInt ∧ (0 : Int32).toInt = x4.toInt + 2))) ∨ ((1 : Int32).toInt = 1 ∧ ¬ ((2 ≤ x1.toInt ∧ x1.toInt ≤ 3) ∧ (0 ≤ x2.toInt ∧ x2.toInt ≤ 9) ∧ (0 ≤ x5.toInt ∧ x5.toInt ≤ 3) ∧ (x3.toInt ≠ 0 → (1 ≤ x4.toInt ∧ x4.toInt ≤ 800)) ∧ (x3.toInt = 0 → (0 ≤ x4.toInt ∧ x4.toInt ≤ 1100)))) from by have t1 : 2 ≤ x1.toInt := q_nltI c1; have t2 : 0 ≤ x1.toInt := q_nltI c17; have t3 : x1.toInt ≤ 3 := q_nltI c18; have t4 : 0 ≤ x2.toInt := q_nltI c19; have t5 : x2.toInt ≤ 9 := q_leI c20; have t6 : x3.toInt = 0 := q_eqI c43; have t7 : x1.toInt ≠ 3 := q_neI c44; have t8 : x4.toInt < 0 := q_ltI c48; have e0 : (1 : Int32).toInt = 1 := (by decide); have e1 : (0 : Int32).toInt = 0 := (by decide); omega), hF⟩) d_14_34_129
          ·
            replace hF := q_gc hF hg52 (q_al (Nat.le_of_ble_eq_true rfl) (q_al (Nat.le_of_ble_eq_true rfl) (q_al (Nat.le_of_ble_eq_true rfl) (q_al (Nat.le_of_ble_eq_true rfl) (q_al (Nat.le_of_ble_eq_true rfl) (q_al (Nat.le_of_ble_eq_true rfl) (fun _ h => absurd h List.not_mem_nil)))))))
            refine lv_istore (lv' := [(8, .int 0), (6, .long 0), (0, .ref qO0), (1, .int x1), (2, .int x2), (3, .int x3), (4, .int x4), (5, .int x5)]) hx hb d_14_34_92 hl (by decide) rfl (fun ls hl => ?_)
            refine lv_aload_n hx hb d_14_34_94 rfl (lv_at hl 2 rfl) ?_
            refine lv_aload_n hx hb d_14_34_95 rfl (lv_at hl 2 rfl) ?_
            replace hO0 := (hg52 _ (q_nc (q_pd 116 145 rfl) (q_nc (q_pd 116 146 rfl) (q_nc (q_pd 116 147 rfl) (q_nc (q_pd 116 148 rfl) (q_nc (q_pd 116 151 rfl) (q_nc (q_pd 116 152 rfl) List.not_mem_nil))))))).trans (hO0)
            refine q_get (ci := 12) (j := 7) (v := .ref qO5) C0 V i_NM rfl rfl hO0 (by decide) w_2305 rfl d_14_34_96 ?_
            refine q_getN (ci := 15) (j := 0) (v := .int 1) C0 V i_FR rfl rfl hO5 (by decide) wo_2075 rfl d_14_34_99 ?_
            refine q_put (ci := 12) (j := 0) (v := .int 1) (ty := .int) C0 V i_NM o_NM n_NM rfl rfl hO0 (by decide) w_2298 rfl rfl rfl rfl (Nat.le_of_ble_eq_true rfl) d_14_34_102 (fun H locs w98 hu99 hO0 V => ?_)
            replace hO0 : w98[116]? = (some (qO0, .inr (12, [.int 1, .ref qA1, .int 0, .ref qA2, .int 0, .ref qO3, .ref qO4, .ref qO5, .ref qO6, .ref qO7, .ref qA8, .ref qA9])) : Option (Nat × va_E)) := hO0
            replace hF := q_gs hF hu99 (Nat.le_of_ble_eq_true rfl)
            refine lv_aload_n hx hb d_14_34_105 rfl (lv_at hl 2 rfl) ?_
            refine q_get (ci := 12) (j := 0) (v := .int 1) C0 V i_NM rfl rfl hO0 (by decide) w_2298 rfl d_14_34_106 ?_
            refine lv_if_le (tgt := 116) hx hb d_14_34_109 (by decide) (fun c100 => absurd c100 (by decide)) (fun c100 => ?_)
            refine lv_iconst (v := 0) hx hb d_14_34_112 (by decide) ?_
            refine lv_goto (tgt := 129) hx hb d_14_34_113 (by decide) ?_
            exact q_reti C0 V (⟨1, 0, 0, hO0, (show ((1 : Int32).toInt = 0 ∧ ((2 ≤ x1.toInt ∧ x1.toInt ≤ 3) ∧ (0 ≤ x2.toInt ∧ x2.toInt ≤ 9) ∧ (0 ≤ x5.toInt ∧ x5.toInt ≤ 3) ∧ (x3.toInt ≠ 0 → (1 ≤ x4.toInt ∧ x4.toInt ≤ 800)) ∧ (x3.toInt = 0 → (0 ≤ x4.toInt ∧ x4.toInt ≤ 1100))) ∧ ((x3.toInt ≠ 0 ∧ x4.toInt = 1 ∧ (0 : Int32).toInt = 5) ∨ (x3.toInt ≠ 0 ∧ 1 < x4.toInt ∧ (0 : Int32).toInt = x4.toInt + 5) ∨ (x3.toInt = 0 ∧ x4.toInt = 0 ∧ (0 : Int32).toInt = 1) ∨ (x3.toInt = 0 ∧ 0 < x4.toInt ∧ (0 : Int32).toInt = x4.toInt + 2))) ∨ ((1 : Int32).toInt = 1 ∧ ¬ ((2 ≤ x1.toInt ∧ x1.toInt ≤ 3) ∧ (0 ≤ x2.toInt ∧ x2.toInt ≤ 9) ∧ (0 ≤ x5.toInt ∧ x5.toInt ≤ 3) ∧ (x3.toInt ≠ 0 → (1 ≤ x4.toInt ∧ x4.toInt ≤ 800)) ∧ (x3.toInt = 0 → (0 ≤ x4.toInt ∧ x4.toInt ≤ 1100)))) from by have t1 : 2 ≤ x1.toInt := q_nltI c1; have t2 : 0 ≤ x1.toInt := q_nltI c17; have t3 : x1.toInt ≤ 3 := q_nltI c18; have t4 : 0 ≤ x2.toInt := q_nltI c19; have t5 : x2.toInt ≤ 9 := q_leI c20; have t6 : x3.toInt = 0 := q_eqI c43; have t7 : x1.toInt ≠ 3 := q_neI c44; have t8 : 0 ≤ x4.toInt := q_nltI c50; have t9 : 1100 < x4.toInt := q_ltI c51; have e0 : (1 : Int32).toInt = 1 := (by decide); have e1 : (0 : Int32).toInt = 0 := (by decide); omega), hF⟩) d_14_34_129
          ·
            replace hF := q_gc hF hg56 (q_al (Nat.le_of_ble_eq_true rfl) (q_al (Nat.le_of_ble_eq_true rfl) (q_al (Nat.le_of_ble_eq_true rfl) (q_al (Nat.le_of_ble_eq_true rfl) (q_al (Nat.le_of_ble_eq_true rfl) (q_al (Nat.le_of_ble_eq_true rfl) (fun _ h => absurd h List.not_mem_nil)))))))
            refine lv_istore (lv' := [(8, .int 0), (6, .long 0), (0, .ref qO0), (1, .int x1), (2, .int x2), (3, .int x3), (4, .int x4), (5, .int x5)]) hx hb d_14_34_92 hl (by decide) rfl (fun ls hl => ?_)
            refine lv_aload_n hx hb d_14_34_94 rfl (lv_at hl 2 rfl) ?_
            refine lv_aload_n hx hb d_14_34_95 rfl (lv_at hl 2 rfl) ?_
            replace hO0 := (hg56 _ (q_nc (q_pd 116 145 rfl) (q_nc (q_pd 116 146 rfl) (q_nc (q_pd 116 147 rfl) (q_nc (q_pd 116 148 rfl) (q_nc (q_pd 116 151 rfl) (q_nc (q_pd 116 152 rfl) List.not_mem_nil))))))).trans (hO0)
            refine q_get (ci := 12) (j := 7) (v := .ref qO5) C0 V i_NM rfl rfl hO0 (by decide) w_2305 rfl d_14_34_96 ?_
            refine q_getN (ci := 15) (j := 0) (v := .int 1) C0 V i_FR rfl rfl hO5 (by decide) wo_2075 rfl d_14_34_99 ?_
            refine q_put (ci := 12) (j := 0) (v := .int 1) (ty := .int) C0 V i_NM o_NM n_NM rfl rfl hO0 (by decide) w_2298 rfl rfl rfl rfl (Nat.le_of_ble_eq_true rfl) d_14_34_102 (fun H locs w101 hu102 hO0 V => ?_)
            replace hO0 : w101[116]? = (some (qO0, .inr (12, [.int 1, .ref qA1, .int 0, .ref qA2, .int 0, .ref qO3, .ref qO4, .ref qO5, .ref qO6, .ref qO7, .ref qA8, .ref qA9])) : Option (Nat × va_E)) := hO0
            replace hF := q_gs hF hu102 (Nat.le_of_ble_eq_true rfl)
            refine lv_aload_n hx hb d_14_34_105 rfl (lv_at hl 2 rfl) ?_
            refine q_get (ci := 12) (j := 0) (v := .int 1) C0 V i_NM rfl rfl hO0 (by decide) w_2298 rfl d_14_34_106 ?_
            refine lv_if_le (tgt := 116) hx hb d_14_34_109 (by decide) (fun c103 => absurd c103 (by decide)) (fun c103 => ?_)
            refine lv_iconst (v := 0) hx hb d_14_34_112 (by decide) ?_
            refine lv_goto (tgt := 129) hx hb d_14_34_113 (by decide) ?_
            exact q_reti C0 V (⟨1, 0, 0, hO0, (show ((1 : Int32).toInt = 0 ∧ ((2 ≤ x1.toInt ∧ x1.toInt ≤ 3) ∧ (0 ≤ x2.toInt ∧ x2.toInt ≤ 9) ∧ (0 ≤ x5.toInt ∧ x5.toInt ≤ 3) ∧ (x3.toInt ≠ 0 → (1 ≤ x4.toInt ∧ x4.toInt ≤ 800)) ∧ (x3.toInt = 0 → (0 ≤ x4.toInt ∧ x4.toInt ≤ 1100))) ∧ ((x3.toInt ≠ 0 ∧ x4.toInt = 1 ∧ (0 : Int32).toInt = 5) ∨ (x3.toInt ≠ 0 ∧ 1 < x4.toInt ∧ (0 : Int32).toInt = x4.toInt + 5) ∨ (x3.toInt = 0 ∧ x4.toInt = 0 ∧ (0 : Int32).toInt = 1) ∨ (x3.toInt = 0 ∧ 0 < x4.toInt ∧ (0 : Int32).toInt = x4.toInt + 2))) ∨ ((1 : Int32).toInt = 1 ∧ ¬ ((2 ≤ x1.toInt ∧ x1.toInt ≤ 3) ∧ (0 ≤ x2.toInt ∧ x2.toInt ≤ 9) ∧ (0 ≤ x5.toInt ∧ x5.toInt ≤ 3) ∧ (x3.toInt ≠ 0 → (1 ≤ x4.toInt ∧ x4.toInt ≤ 800)) ∧ (x3.toInt = 0 → (0 ≤ x4.toInt ∧ x4.toInt ≤ 1100)))) from by have t1 : 2 ≤ x1.toInt := q_nltI c1; have t2 : 0 ≤ x1.toInt := q_nltI c17; have t3 : x1.toInt ≤ 3 := q_nltI c18; have t4 : 0 ≤ x2.toInt := q_nltI c19; have t5 : x2.toInt ≤ 9 := q_leI c20; have t6 : x3.toInt = 0 := q_eqI c43; have t7 : x1.toInt ≠ 3 := q_neI c44; have t8 : 0 ≤ x4.toInt := q_nltI c53; have t9 : x4.toInt ≤ 1100 := q_nltI c54; have t10 : x5.toInt < 0 := q_ltI c55; have e0 : (1 : Int32).toInt = 1 := (by decide); have e1 : (0 : Int32).toInt = 0 := (by decide); omega), hF⟩) d_14_34_129
          ·
            replace hF := q_gc hF hg64 (q_al (Nat.le_of_ble_eq_true rfl) (q_al (Nat.le_of_ble_eq_true rfl) (q_al (Nat.le_of_ble_eq_true rfl) (q_al (Nat.le_of_ble_eq_true rfl) (q_al (Nat.le_of_ble_eq_true rfl) (q_al (Nat.le_of_ble_eq_true rfl) (fun _ h => absurd h List.not_mem_nil)))))))
            refine lv_istore (lv' := [(8, .int 1), (6, .long 0), (0, .ref qO0), (1, .int x1), (2, .int x2), (3, .int x3), (4, .int x4), (5, .int x5)]) hx hb d_14_34_92 hl (by decide) rfl (fun ls hl => ?_)
            refine lv_aload_n hx hb d_14_34_94 rfl (lv_at hl 2 rfl) ?_
            refine lv_aload_n hx hb d_14_34_95 rfl (lv_at hl 2 rfl) ?_
            replace hO0 := (hg64 _ (q_nc (q_pd 116 145 rfl) (q_nc (q_pd 116 146 rfl) (q_nc (q_pd 116 147 rfl) (q_nc (q_pd 116 148 rfl) (q_nc (q_pd 116 151 rfl) (q_nc (q_pd 116 152 rfl) List.not_mem_nil))))))).trans (hO0)
            refine q_get (ci := 12) (j := 7) (v := .ref qO5) C0 V i_NM rfl rfl hO0 (by decide) w_2305 rfl d_14_34_96 ?_
            refine q_getN (ci := 15) (j := 0) (v := .int 0) C0 V i_FR rfl rfl hO5 (by decide) wo_2075 rfl d_14_34_99 ?_
            refine q_put (ci := 12) (j := 0) (v := .int 0) (ty := .int) C0 V i_NM o_NM n_NM rfl rfl hO0 (by decide) w_2298 rfl rfl rfl rfl (Nat.le_of_ble_eq_true rfl) d_14_34_102 (fun H locs w104 hu105 hO0 V => ?_)
            replace hO0 : w104[116]? = (some (qO0, .inr (12, [.int 0, .ref qA1, .int 0, .ref qA2, .int 0, .ref qO3, .ref qO4, .ref qO5, .ref qO6, .ref qO7, .ref qA8, .ref qA9])) : Option (Nat × va_E)) := hO0
            replace hF := q_gs hF hu105 (Nat.le_of_ble_eq_true rfl)
            refine lv_aload_n hx hb d_14_34_105 rfl (lv_at hl 2 rfl) ?_
            refine q_get (ci := 12) (j := 0) (v := .int 0) C0 V i_NM rfl rfl hO0 (by decide) w_2298 rfl d_14_34_106 ?_
            refine lv_if_le (tgt := 116) hx hb d_14_34_109 (by decide) (fun c106 => ?_) (fun c106 => absurd (by decide) c106)
            refine lv_aload_n hx hb d_14_34_116 rfl (lv_at hl 2 rfl) ?_
            refine lv_aload_n hx hb d_14_34_117 rfl (lv_at hl 2 rfl) ?_
            refine q_get (ci := 12) (j := 7) (v := .ref qO5) C0 V i_NM rfl rfl hO0 (by decide) w_2305 rfl d_14_34_118 ?_
            replace hO5 := (hu105 _ (q_pd 145 116 rfl)).trans (hO5)
            refine q_getN (ci := 15) (j := 7) (v := .ref qA40) C0 V i_FR rfl rfl hO5 (by decide) wo_2083 rfl d_14_34_121 ?_
            refine lv_iload hx hb d_14_34_124 (lv_at hl 0 rfl) ?_
            replace hA40 := (hu105 _ (q_pd 152 116 rfl)).trans (hA40)
            replace hA2 := (hu105 _ (q_pd 118 116 rfl)).trans ((hg64 _ (q_nc (q_pd 118 145 rfl) (q_nc (q_pd 118 146 rfl) (q_nc (q_pd 118 147 rfl) (q_nc (q_pd 118 148 rfl) (q_nc (q_pd 118 151 rfl) (q_nc (q_pd 118 152 rfl) List.not_mem_nil))))))).trans ((hu37 _ (q_pd 118 116 rfl)).trans (hA2)))
            refine q_goi V (q_runV (As := [.ref qA40, .int 1]) (rest := []) (d := 1) (mc := 0) (ms := 0) (ci := 12) C0 V rfl LV_NM_269 (c_NM_show_6 l D g w104 qO0 qA40 qA1 qA2 qO3 qO4 qO5 qO6 qO7 qA8 qA9 hO0 hA40 hA2 _) rfl rfl hO0 rfl hl.1 rfl (Nat.le_of_ble_eq_true rfl) ⟨by decide, by decide⟩ ⟨Nat.le_of_ble_eq_true rfl, Nat.le_of_ble_eq_true rfl⟩ d_14_34_126) (fun v109 u108 H locs hp107 V => ?_)
            obtain ⟨rfl, hg110, hO0, hA2⟩ := hp107
            replace hF := q_gc hF hg110 (q_al (Nat.le_of_ble_eq_true rfl) (q_al (Nat.le_of_ble_eq_true rfl) (fun _ h => absurd h List.not_mem_nil)))
            exact q_reti C0 V (⟨0, 0, 1, hO0, (show ((0 : Int32).toInt = 0 ∧ ((2 ≤ x1.toInt ∧ x1.toInt ≤ 3) ∧ (0 ≤ x2.toInt ∧ x2.toInt ≤ 9) ∧ (0 ≤ x5.toInt ∧ x5.toInt ≤ 3) ∧ (x3.toInt ≠ 0 → (1 ≤ x4.toInt ∧ x4.toInt ≤ 800)) ∧ (x3.toInt = 0 → (0 ≤ x4.toInt ∧ x4.toInt ≤ 1100))) ∧ ((x3.toInt ≠ 0 ∧ x4.toInt = 1 ∧ (1 : Int32).toInt = 5) ∨ (x3.toInt ≠ 0 ∧ 1 < x4.toInt ∧ (1 : Int32).toInt = x4.toInt + 5) ∨ (x3.toInt = 0 ∧ x4.toInt = 0 ∧ (1 : Int32).toInt = 1) ∨ (x3.toInt = 0 ∧ 0 < x4.toInt ∧ (1 : Int32).toInt = x4.toInt + 2))) ∨ ((0 : Int32).toInt = 1 ∧ ¬ ((2 ≤ x1.toInt ∧ x1.toInt ≤ 3) ∧ (0 ≤ x2.toInt ∧ x2.toInt ≤ 9) ∧ (0 ≤ x5.toInt ∧ x5.toInt ≤ 3) ∧ (x3.toInt ≠ 0 → (1 ≤ x4.toInt ∧ x4.toInt ≤ 800)) ∧ (x3.toInt = 0 → (0 ≤ x4.toInt ∧ x4.toInt ≤ 1100)))) from by have t1 : 2 ≤ x1.toInt := q_nltI c1; have t2 : 0 ≤ x1.toInt := q_nltI c17; have t3 : x1.toInt ≤ 3 := q_nltI c18; have t4 : 0 ≤ x2.toInt := q_nltI c19; have t5 : x2.toInt ≤ 9 := q_leI c20; have t6 : x3.toInt = 0 := q_eqI c43; have t7 : x1.toInt ≠ 3 := q_neI c44; have t8 : 0 ≤ x4.toInt := q_nltI c57; have t9 : x4.toInt ≤ 1100 := q_nltI c58; have t10 : 0 ≤ x5.toInt := q_nltI c59; have t11 : x5.toInt ≤ 3 := q_leI c60; have t12 : x4.toInt ≤ 1080 := q_leI c61; have t13 : x4.toInt ≤ 0 := q_leI c62; have e0 : (0 : Int32).toInt = 0 := (by decide); have e1 : (1 : Int32).toInt = 1 := (by decide); omega), hF⟩) d_14_34_129
          ·
            replace hF := q_gc hF hg77 (q_al (Nat.le_of_ble_eq_true rfl) (q_al (Nat.le_of_ble_eq_true rfl) (q_al (Nat.le_of_ble_eq_true rfl) (q_al (Nat.le_of_ble_eq_true rfl) (q_al (Nat.le_of_ble_eq_true rfl) (q_al (Nat.le_of_ble_eq_true rfl) (fun _ h => absurd h List.not_mem_nil)))))))
            refine lv_istore (lv' := [(8, .int y74), (6, .long 0), (0, .ref qO0), (1, .int x1), (2, .int x2), (3, .int x3), (4, .int x4), (5, .int x5)]) hx hb d_14_34_92 hl (by decide) rfl (fun ls hl => ?_)
            refine lv_aload_n hx hb d_14_34_94 rfl (lv_at hl 2 rfl) ?_
            refine lv_aload_n hx hb d_14_34_95 rfl (lv_at hl 2 rfl) ?_
            replace hO0 := (hg77 _ (q_nc (q_pd 116 145 rfl) (q_nc (q_pd 116 146 rfl) (q_nc (q_pd 116 147 rfl) (q_nc (q_pd 116 148 rfl) (q_nc (q_pd 116 151 rfl) (q_nc (q_pd 116 152 rfl) List.not_mem_nil))))))).trans (hO0)
            refine q_get (ci := 12) (j := 7) (v := .ref qO5) C0 V i_NM rfl rfl hO0 (by decide) w_2305 rfl d_14_34_96 ?_
            refine q_getN (ci := 15) (j := 0) (v := .int 0) C0 V i_FR rfl rfl hO5 (by decide) wo_2075 rfl d_14_34_99 ?_
            refine q_put (ci := 12) (j := 0) (v := .int 0) (ty := .int) C0 V i_NM o_NM n_NM rfl rfl hO0 (by decide) w_2298 rfl rfl rfl rfl (Nat.le_of_ble_eq_true rfl) d_14_34_102 (fun H locs w111 hu112 hO0 V => ?_)
            replace hO0 : w111[116]? = (some (qO0, .inr (12, [.int 0, .ref qA1, .int 0, .ref qA2, .int 0, .ref qO3, .ref qO4, .ref qO5, .ref qO6, .ref qO7, .ref qA8, .ref qA9])) : Option (Nat × va_E)) := hO0
            replace hF := q_gs hF hu112 (Nat.le_of_ble_eq_true rfl)
            refine lv_aload_n hx hb d_14_34_105 rfl (lv_at hl 2 rfl) ?_
            refine q_get (ci := 12) (j := 0) (v := .int 0) C0 V i_NM rfl rfl hO0 (by decide) w_2298 rfl d_14_34_106 ?_
            refine lv_if_le (tgt := 116) hx hb d_14_34_109 (by decide) (fun c113 => ?_) (fun c113 => absurd (by decide) c113)
            refine lv_aload_n hx hb d_14_34_116 rfl (lv_at hl 2 rfl) ?_
            refine lv_aload_n hx hb d_14_34_117 rfl (lv_at hl 2 rfl) ?_
            refine q_get (ci := 12) (j := 7) (v := .ref qO5) C0 V i_NM rfl rfl hO0 (by decide) w_2305 rfl d_14_34_118 ?_
            replace hO5 := (hu112 _ (q_pd 145 116 rfl)).trans (hO5)
            refine q_getN (ci := 15) (j := 7) (v := .ref qA40) C0 V i_FR rfl rfl hO5 (by decide) wo_2083 rfl d_14_34_121 ?_
            refine lv_iload hx hb d_14_34_124 (lv_at hl 0 rfl) ?_
            replace hA40 := (hu112 _ (q_pd 152 116 rfl)).trans (hA40)
            replace hA2 := (hu112 _ (q_pd 118 116 rfl)).trans ((hg77 _ (q_nc (q_pd 118 145 rfl) (q_nc (q_pd 118 146 rfl) (q_nc (q_pd 118 147 rfl) (q_nc (q_pd 118 148 rfl) (q_nc (q_pd 118 151 rfl) (q_nc (q_pd 118 152 rfl) List.not_mem_nil))))))).trans ((hu37 _ (q_pd 118 116 rfl)).trans (hA2)))
            refine q_goi V (q_runV (As := [.ref qA40, .int y74]) (rest := []) (d := 1) (mc := 0) (ms := 0) (ci := 12) C0 V rfl LV_NM_269 (c_NM_show_7 l D g w111 qO0 qA40 qA1 qA2 qO3 qO4 qO5 qO6 qO7 qA8 qA9 y74 y76 hO0 hA40 hA2 f72 f73 _) rfl rfl hO0 rfl hl.1 rfl (Nat.le_of_ble_eq_true rfl) ⟨by decide, by decide⟩ ⟨Nat.le_of_ble_eq_true rfl, Nat.le_of_ble_eq_true rfl⟩ d_14_34_126) (fun v116 u115 H locs hp114 V => ?_)
            obtain ⟨y117, rfl, hg118, hO0, hA2⟩ := hp114
            replace hF := q_gc hF hg118 (q_al (Nat.le_of_ble_eq_true rfl) (q_al (Nat.le_of_ble_eq_true rfl) (fun _ h => absurd h List.not_mem_nil)))
            exact q_reti C0 V (⟨0, 0, y74, hO0, (show ((0 : Int32).toInt = 0 ∧ ((2 ≤ x1.toInt ∧ x1.toInt ≤ 3) ∧ (0 ≤ x2.toInt ∧ x2.toInt ≤ 9) ∧ (0 ≤ x5.toInt ∧ x5.toInt ≤ 3) ∧ (x3.toInt ≠ 0 → (1 ≤ x4.toInt ∧ x4.toInt ≤ 800)) ∧ (x3.toInt = 0 → (0 ≤ x4.toInt ∧ x4.toInt ≤ 1100))) ∧ ((x3.toInt ≠ 0 ∧ x4.toInt = 1 ∧ (y74 : Int32).toInt = 5) ∨ (x3.toInt ≠ 0 ∧ 1 < x4.toInt ∧ (y74 : Int32).toInt = x4.toInt + 5) ∨ (x3.toInt = 0 ∧ x4.toInt = 0 ∧ (y74 : Int32).toInt = 1) ∨ (x3.toInt = 0 ∧ 0 < x4.toInt ∧ (y74 : Int32).toInt = x4.toInt + 2))) ∨ ((0 : Int32).toInt = 1 ∧ ¬ ((2 ≤ x1.toInt ∧ x1.toInt ≤ 3) ∧ (0 ≤ x2.toInt ∧ x2.toInt ≤ 9) ∧ (0 ≤ x5.toInt ∧ x5.toInt ≤ 3) ∧ (x3.toInt ≠ 0 → (1 ≤ x4.toInt ∧ x4.toInt ≤ 800)) ∧ (x3.toInt = 0 → (0 ≤ x4.toInt ∧ x4.toInt ≤ 1100)))) from by have t1 : 2 ≤ x1.toInt := q_nltI c1; have t2 : 0 ≤ x1.toInt := q_nltI c17; have t3 : x1.toInt ≤ 3 := q_nltI c18; have t4 : 0 ≤ x2.toInt := q_nltI c19; have t5 : x2.toInt ≤ 9 := q_leI c20; have t6 : x3.toInt = 0 := q_eqI c43; have t7 : x1.toInt ≠ 3 := q_neI c44; have t8 : 0 ≤ x4.toInt := q_nltI c65; have t9 : x4.toInt ≤ 1100 := q_nltI c66; have t10 : 0 ≤ x5.toInt := q_nltI c67; have t11 : x5.toInt ≤ 3 := q_leI c68; have t12 : x4.toInt ≤ 1080 := q_leI c69; have t13 : 0 < x4.toInt := q_nleI c70; have t14 : 2 ≤ y74.toInt := q_leI f72; have t15 : y74.toInt ≤ 1082 := q_leI f73; have e0 : (0 : Int32).toInt = 0 := (by decide); omega), hF⟩) d_14_34_129
          ·
            replace hF := q_gc hF hg89 (q_al (Nat.le_of_ble_eq_true rfl) (q_al (Nat.le_of_ble_eq_true rfl) (q_al (Nat.le_of_ble_eq_true rfl) (q_al (Nat.le_of_ble_eq_true rfl) (q_al (Nat.le_of_ble_eq_true rfl) (q_al (Nat.le_of_ble_eq_true rfl) (fun _ h => absurd h List.not_mem_nil)))))))
            refine lv_istore (lv' := [(8, .int y86), (6, .long 0), (0, .ref qO0), (1, .int x1), (2, .int x2), (3, .int x3), (4, .int x4), (5, .int x5)]) hx hb d_14_34_92 hl (by decide) rfl (fun ls hl => ?_)
            refine lv_aload_n hx hb d_14_34_94 rfl (lv_at hl 2 rfl) ?_
            refine lv_aload_n hx hb d_14_34_95 rfl (lv_at hl 2 rfl) ?_
            replace hO0 := (hg89 _ (q_nc (q_pd 116 145 rfl) (q_nc (q_pd 116 146 rfl) (q_nc (q_pd 116 147 rfl) (q_nc (q_pd 116 148 rfl) (q_nc (q_pd 116 151 rfl) (q_nc (q_pd 116 152 rfl) List.not_mem_nil))))))).trans (hO0)
            refine q_get (ci := 12) (j := 7) (v := .ref qO5) C0 V i_NM rfl rfl hO0 (by decide) w_2305 rfl d_14_34_96 ?_
            refine q_getN (ci := 15) (j := 0) (v := .int 0) C0 V i_FR rfl rfl hO5 (by decide) wo_2075 rfl d_14_34_99 ?_
            refine q_put (ci := 12) (j := 0) (v := .int 0) (ty := .int) C0 V i_NM o_NM n_NM rfl rfl hO0 (by decide) w_2298 rfl rfl rfl rfl (Nat.le_of_ble_eq_true rfl) d_14_34_102 (fun H locs w119 hu120 hO0 V => ?_)
            replace hO0 : w119[116]? = (some (qO0, .inr (12, [.int 0, .ref qA1, .int 0, .ref qA2, .int 0, .ref qO3, .ref qO4, .ref qO5, .ref qO6, .ref qO7, .ref qA8, .ref qA9])) : Option (Nat × va_E)) := hO0
            replace hF := q_gs hF hu120 (Nat.le_of_ble_eq_true rfl)
            refine lv_aload_n hx hb d_14_34_105 rfl (lv_at hl 2 rfl) ?_
            refine q_get (ci := 12) (j := 0) (v := .int 0) C0 V i_NM rfl rfl hO0 (by decide) w_2298 rfl d_14_34_106 ?_
            refine lv_if_le (tgt := 116) hx hb d_14_34_109 (by decide) (fun c121 => ?_) (fun c121 => absurd (by decide) c121)
            refine lv_aload_n hx hb d_14_34_116 rfl (lv_at hl 2 rfl) ?_
            refine lv_aload_n hx hb d_14_34_117 rfl (lv_at hl 2 rfl) ?_
            refine q_get (ci := 12) (j := 7) (v := .ref qO5) C0 V i_NM rfl rfl hO0 (by decide) w_2305 rfl d_14_34_118 ?_
            replace hO5 := (hu120 _ (q_pd 145 116 rfl)).trans (hO5)
            refine q_getN (ci := 15) (j := 7) (v := .ref qA40) C0 V i_FR rfl rfl hO5 (by decide) wo_2083 rfl d_14_34_121 ?_
            refine lv_iload hx hb d_14_34_124 (lv_at hl 0 rfl) ?_
            replace hA40 := (hu120 _ (q_pd 152 116 rfl)).trans (hA40)
            replace hA2 := (hu120 _ (q_pd 118 116 rfl)).trans ((hg89 _ (q_nc (q_pd 118 145 rfl) (q_nc (q_pd 118 146 rfl) (q_nc (q_pd 118 147 rfl) (q_nc (q_pd 118 148 rfl) (q_nc (q_pd 118 151 rfl) (q_nc (q_pd 118 152 rfl) List.not_mem_nil))))))).trans ((hu37 _ (q_pd 118 116 rfl)).trans (hA2)))
            refine q_goi V (q_runV (As := [.ref qA40, .int y86]) (rest := []) (d := 1) (mc := 0) (ms := 0) (ci := 12) C0 V rfl LV_NM_269 (c_NM_show_8 l D g w119 qO0 qA40 qA1 qA2 qO3 qO4 qO5 qO6 qO7 qA8 qA9 y86 y88 hO0 hA40 hA2 f84 f85 _) rfl rfl hO0 rfl hl.1 rfl (Nat.le_of_ble_eq_true rfl) ⟨by decide, by decide⟩ ⟨Nat.le_of_ble_eq_true rfl, Nat.le_of_ble_eq_true rfl⟩ d_14_34_126) (fun v124 u123 H locs hp122 V => ?_)
            obtain ⟨y125, rfl, hg126, hO0, hA2⟩ := hp122
            replace hF := q_gc hF hg126 (q_al (Nat.le_of_ble_eq_true rfl) (q_al (Nat.le_of_ble_eq_true rfl) (fun _ h => absurd h List.not_mem_nil)))
            exact q_reti C0 V (⟨0, 0, y86, hO0, (show ((0 : Int32).toInt = 0 ∧ ((2 ≤ x1.toInt ∧ x1.toInt ≤ 3) ∧ (0 ≤ x2.toInt ∧ x2.toInt ≤ 9) ∧ (0 ≤ x5.toInt ∧ x5.toInt ≤ 3) ∧ (x3.toInt ≠ 0 → (1 ≤ x4.toInt ∧ x4.toInt ≤ 800)) ∧ (x3.toInt = 0 → (0 ≤ x4.toInt ∧ x4.toInt ≤ 1100))) ∧ ((x3.toInt ≠ 0 ∧ x4.toInt = 1 ∧ (y86 : Int32).toInt = 5) ∨ (x3.toInt ≠ 0 ∧ 1 < x4.toInt ∧ (y86 : Int32).toInt = x4.toInt + 5) ∨ (x3.toInt = 0 ∧ x4.toInt = 0 ∧ (y86 : Int32).toInt = 1) ∨ (x3.toInt = 0 ∧ 0 < x4.toInt ∧ (y86 : Int32).toInt = x4.toInt + 2))) ∨ ((0 : Int32).toInt = 1 ∧ ¬ ((2 ≤ x1.toInt ∧ x1.toInt ≤ 3) ∧ (0 ≤ x2.toInt ∧ x2.toInt ≤ 9) ∧ (0 ≤ x5.toInt ∧ x5.toInt ≤ 3) ∧ (x3.toInt ≠ 0 → (1 ≤ x4.toInt ∧ x4.toInt ≤ 800)) ∧ (x3.toInt = 0 → (0 ≤ x4.toInt ∧ x4.toInt ≤ 1100)))) from by have t1 : 2 ≤ x1.toInt := q_nltI c1; have t2 : 0 ≤ x1.toInt := q_nltI c17; have t3 : x1.toInt ≤ 3 := q_nltI c18; have t4 : 0 ≤ x2.toInt := q_nltI c19; have t5 : x2.toInt ≤ 9 := q_leI c20; have t6 : x3.toInt = 0 := q_eqI c43; have t7 : x1.toInt ≠ 3 := q_neI c44; have t8 : 0 ≤ x4.toInt := q_nltI c78; have t9 : x4.toInt ≤ 1100 := q_nltI c79; have t10 : 0 ≤ x5.toInt := q_nltI c80; have t11 : x5.toInt ≤ 3 := q_leI c81; have t12 : 1080 < x4.toInt := q_nleI c82; have t13 : 2 ≤ y86.toInt := q_leI f84; have t14 : y86.toInt ≤ 1102 := q_leI f85; have e0 : (0 : Int32).toInt = 0 := (by decide); omega), hF⟩) d_14_34_129
          ·
            replace hF := q_gc hF hg94 (q_al (Nat.le_of_ble_eq_true rfl) (q_al (Nat.le_of_ble_eq_true rfl) (q_al (Nat.le_of_ble_eq_true rfl) (q_al (Nat.le_of_ble_eq_true rfl) (q_al (Nat.le_of_ble_eq_true rfl) (q_al (Nat.le_of_ble_eq_true rfl) (fun _ h => absurd h List.not_mem_nil)))))))
            refine lv_istore (lv' := [(8, .int 0), (6, .long 0), (0, .ref qO0), (1, .int x1), (2, .int x2), (3, .int x3), (4, .int x4), (5, .int x5)]) hx hb d_14_34_92 hl (by decide) rfl (fun ls hl => ?_)
            refine lv_aload_n hx hb d_14_34_94 rfl (lv_at hl 2 rfl) ?_
            refine lv_aload_n hx hb d_14_34_95 rfl (lv_at hl 2 rfl) ?_
            replace hO0 := (hg94 _ (q_nc (q_pd 116 145 rfl) (q_nc (q_pd 116 146 rfl) (q_nc (q_pd 116 147 rfl) (q_nc (q_pd 116 148 rfl) (q_nc (q_pd 116 151 rfl) (q_nc (q_pd 116 152 rfl) List.not_mem_nil))))))).trans (hO0)
            refine q_get (ci := 12) (j := 7) (v := .ref qO5) C0 V i_NM rfl rfl hO0 (by decide) w_2305 rfl d_14_34_96 ?_
            refine q_getN (ci := 15) (j := 0) (v := .int 1) C0 V i_FR rfl rfl hO5 (by decide) wo_2075 rfl d_14_34_99 ?_
            refine q_put (ci := 12) (j := 0) (v := .int 1) (ty := .int) C0 V i_NM o_NM n_NM rfl rfl hO0 (by decide) w_2298 rfl rfl rfl rfl (Nat.le_of_ble_eq_true rfl) d_14_34_102 (fun H locs w127 hu128 hO0 V => ?_)
            replace hO0 : w127[116]? = (some (qO0, .inr (12, [.int 1, .ref qA1, .int 0, .ref qA2, .int 0, .ref qO3, .ref qO4, .ref qO5, .ref qO6, .ref qO7, .ref qA8, .ref qA9])) : Option (Nat × va_E)) := hO0
            replace hF := q_gs hF hu128 (Nat.le_of_ble_eq_true rfl)
            refine lv_aload_n hx hb d_14_34_105 rfl (lv_at hl 2 rfl) ?_
            refine q_get (ci := 12) (j := 0) (v := .int 1) C0 V i_NM rfl rfl hO0 (by decide) w_2298 rfl d_14_34_106 ?_
            refine lv_if_le (tgt := 116) hx hb d_14_34_109 (by decide) (fun c129 => absurd c129 (by decide)) (fun c129 => ?_)
            refine lv_iconst (v := 0) hx hb d_14_34_112 (by decide) ?_
            refine lv_goto (tgt := 129) hx hb d_14_34_113 (by decide) ?_
            exact q_reti C0 V (⟨1, 0, 0, hO0, (show ((1 : Int32).toInt = 0 ∧ ((2 ≤ x1.toInt ∧ x1.toInt ≤ 3) ∧ (0 ≤ x2.toInt ∧ x2.toInt ≤ 9) ∧ (0 ≤ x5.toInt ∧ x5.toInt ≤ 3) ∧ (x3.toInt ≠ 0 → (1 ≤ x4.toInt ∧ x4.toInt ≤ 800)) ∧ (x3.toInt = 0 → (0 ≤ x4.toInt ∧ x4.toInt ≤ 1100))) ∧ ((x3.toInt ≠ 0 ∧ x4.toInt = 1 ∧ (0 : Int32).toInt = 5) ∨ (x3.toInt ≠ 0 ∧ 1 < x4.toInt ∧ (0 : Int32).toInt = x4.toInt + 5) ∨ (x3.toInt = 0 ∧ x4.toInt = 0 ∧ (0 : Int32).toInt = 1) ∨ (x3.toInt = 0 ∧ 0 < x4.toInt ∧ (0 : Int32).toInt = x4.toInt + 2))) ∨ ((1 : Int32).toInt = 1 ∧ ¬ ((2 ≤ x1.toInt ∧ x1.toInt ≤ 3) ∧ (0 ≤ x2.toInt ∧ x2.toInt ≤ 9) ∧ (0 ≤ x5.toInt ∧ x5.toInt ≤ 3) ∧ (x3.toInt ≠ 0 → (1 ≤ x4.toInt ∧ x4.toInt ≤ 800)) ∧ (x3.toInt = 0 → (0 ≤ x4.toInt ∧ x4.toInt ≤ 1100)))) from by have t1 : 2 ≤ x1.toInt := q_nltI c1; have t2 : 0 ≤ x1.toInt := q_nltI c17; have t3 : x1.toInt ≤ 3 := q_nltI c18; have t4 : 0 ≤ x2.toInt := q_nltI c19; have t5 : x2.toInt ≤ 9 := q_leI c20; have t6 : x3.toInt = 0 := q_eqI c43; have t7 : x1.toInt ≠ 3 := q_neI c44; have t8 : 0 ≤ x4.toInt := q_nltI c90; have t9 : x4.toInt ≤ 1100 := q_nltI c91; have t10 : 0 ≤ x5.toInt := q_nltI c92; have t11 : 3 < x5.toInt := q_nleI c93; have e0 : (1 : Int32).toInt = 1 := (by decide); have e1 : (0 : Int32).toInt = 0 := (by decide); omega), hF⟩) d_14_34_129
        ·
          refine lv_iconst (v := 1) hx hb d_14_34_80 (by decide) ?_
          refine lv_goto (tgt := 85) hx hb d_14_34_81 (by decide) ?_
          refine lv_iload hx hb d_14_34_85 (lv_at hl 5 rfl) ?_
          refine lv_iload hx hb d_14_34_87 (lv_at hl 6 rfl) ?_
          replace hO5 := (hu37 _ (q_pd 145 116 rfl)).trans (hO5)
          replace hA34 := (hu37 _ (q_pd 146 116 rfl)).trans (hA34)
          replace hA35 := (hu37 _ (q_pd 147 116 rfl)).trans (hA35)
          replace hA36 := (hu37 _ (q_pd 148 116 rfl)).trans (hA36)
          replace hA39 := (hu37 _ (q_pd 151 116 rfl)).trans (hA39)
          replace hA40 := (hu37 _ (q_pd 152 116 rfl)).trans (hA40)
          refine q_goi V (q_runV (As := [.long 0, .int 1, .int x4, .int x5]) (rest := []) (d := 3) (mc := 0) (ms := 0) (ci := 15) C0 V rfl LV_NM_227 (c_FR_fixed_6 l D g w36 145 146 147 148 151 152 qO5 qA34 qA35 qA36 qA37 qA38 qA39 qA40 x4 x5 hO5 hA34 hA35 hA36 hA39 hA40 (q_pd 146 147 rfl) (q_pd 146 148 rfl) (q_pd 146 151 rfl) (q_pd 146 152 rfl) (q_pd 147 151 rfl) (q_pd 147 152 rfl) (q_pd 148 147 rfl) (q_pd 148 151 rfl) (q_pd 148 152 rfl) (q_pd 151 152 rfl) _) rfl rfl hO5 rfl hl.1 rfl (Nat.le_of_ble_eq_true rfl) ⟨by decide, by decide⟩ ⟨Nat.le_of_ble_eq_true rfl, Nat.le_of_ble_eq_true rfl⟩ d_14_34_89) (fun v132 u131 H locs hp130 V => ?_)
          rcases hp130 with ⟨c133, rfl, hg134, hO5, hA34, hA35, hA36, hA39, hA40⟩ | ⟨c135, c136, rfl, hg137, hO5, hA34, hA35, hA36, hA39, hA40⟩ | ⟨c138, c139, c140, rfl, hg141, hO5, hA34, hA35, hA36, hA39, hA40⟩ | ⟨y148, c142, c143, c144, c145, c146, c147, rfl, hg149, hO5, hA34, hA35, hA36, hA39, hA40⟩ | ⟨y159, y160, y161, c150, c151, c152, c153, c154, c155, f156, f157, f158, rfl, hg162, hO5, hA34, hA35, hA36, hA39, hA40⟩ | ⟨y171, y172, y173, c163, c164, c165, c166, c167, f168, f169, f170, rfl, hg174, hO5, hA34, hA35, hA36, hA39, hA40⟩ | ⟨c175, c176, c177, c178, rfl, hg179, hO5, hA34, hA35, hA36, hA39, hA40⟩
          ·
            replace hF := q_gc hF hg134 (q_al (Nat.le_of_ble_eq_true rfl) (q_al (Nat.le_of_ble_eq_true rfl) (q_al (Nat.le_of_ble_eq_true rfl) (q_al (Nat.le_of_ble_eq_true rfl) (q_al (Nat.le_of_ble_eq_true rfl) (q_al (Nat.le_of_ble_eq_true rfl) (fun _ h => absurd h List.not_mem_nil)))))))
            refine lv_istore (lv' := [(8, .int 0), (6, .long 0), (0, .ref qO0), (1, .int x1), (2, .int x2), (3, .int x3), (4, .int x4), (5, .int x5)]) hx hb d_14_34_92 hl (by decide) rfl (fun ls hl => ?_)
            refine lv_aload_n hx hb d_14_34_94 rfl (lv_at hl 2 rfl) ?_
            refine lv_aload_n hx hb d_14_34_95 rfl (lv_at hl 2 rfl) ?_
            replace hO0 := (hg134 _ (q_nc (q_pd 116 145 rfl) (q_nc (q_pd 116 146 rfl) (q_nc (q_pd 116 147 rfl) (q_nc (q_pd 116 148 rfl) (q_nc (q_pd 116 151 rfl) (q_nc (q_pd 116 152 rfl) List.not_mem_nil))))))).trans (hO0)
            refine q_get (ci := 12) (j := 7) (v := .ref qO5) C0 V i_NM rfl rfl hO0 (by decide) w_2305 rfl d_14_34_96 ?_
            refine q_getN (ci := 15) (j := 0) (v := .int 1) C0 V i_FR rfl rfl hO5 (by decide) wo_2075 rfl d_14_34_99 ?_
            refine q_put (ci := 12) (j := 0) (v := .int 1) (ty := .int) C0 V i_NM o_NM n_NM rfl rfl hO0 (by decide) w_2298 rfl rfl rfl rfl (Nat.le_of_ble_eq_true rfl) d_14_34_102 (fun H locs w180 hu181 hO0 V => ?_)
            replace hO0 : w180[116]? = (some (qO0, .inr (12, [.int 1, .ref qA1, .int 0, .ref qA2, .int 0, .ref qO3, .ref qO4, .ref qO5, .ref qO6, .ref qO7, .ref qA8, .ref qA9])) : Option (Nat × va_E)) := hO0
            replace hF := q_gs hF hu181 (Nat.le_of_ble_eq_true rfl)
            refine lv_aload_n hx hb d_14_34_105 rfl (lv_at hl 2 rfl) ?_
            refine q_get (ci := 12) (j := 0) (v := .int 1) C0 V i_NM rfl rfl hO0 (by decide) w_2298 rfl d_14_34_106 ?_
            refine lv_if_le (tgt := 116) hx hb d_14_34_109 (by decide) (fun c182 => absurd c182 (by decide)) (fun c182 => ?_)
            refine lv_iconst (v := 0) hx hb d_14_34_112 (by decide) ?_
            refine lv_goto (tgt := 129) hx hb d_14_34_113 (by decide) ?_
            exact q_reti C0 V (⟨1, 0, 0, hO0, (show ((1 : Int32).toInt = 0 ∧ ((2 ≤ x1.toInt ∧ x1.toInt ≤ 3) ∧ (0 ≤ x2.toInt ∧ x2.toInt ≤ 9) ∧ (0 ≤ x5.toInt ∧ x5.toInt ≤ 3) ∧ (x3.toInt ≠ 0 → (1 ≤ x4.toInt ∧ x4.toInt ≤ 800)) ∧ (x3.toInt = 0 → (0 ≤ x4.toInt ∧ x4.toInt ≤ 1100))) ∧ ((x3.toInt ≠ 0 ∧ x4.toInt = 1 ∧ (0 : Int32).toInt = 5) ∨ (x3.toInt ≠ 0 ∧ 1 < x4.toInt ∧ (0 : Int32).toInt = x4.toInt + 5) ∨ (x3.toInt = 0 ∧ x4.toInt = 0 ∧ (0 : Int32).toInt = 1) ∨ (x3.toInt = 0 ∧ 0 < x4.toInt ∧ (0 : Int32).toInt = x4.toInt + 2))) ∨ ((1 : Int32).toInt = 1 ∧ ¬ ((2 ≤ x1.toInt ∧ x1.toInt ≤ 3) ∧ (0 ≤ x2.toInt ∧ x2.toInt ≤ 9) ∧ (0 ≤ x5.toInt ∧ x5.toInt ≤ 3) ∧ (x3.toInt ≠ 0 → (1 ≤ x4.toInt ∧ x4.toInt ≤ 800)) ∧ (x3.toInt = 0 → (0 ≤ x4.toInt ∧ x4.toInt ≤ 1100)))) from by have t1 : 2 ≤ x1.toInt := q_nltI c1; have t2 : 0 ≤ x1.toInt := q_nltI c17; have t3 : x1.toInt ≤ 3 := q_nltI c18; have t4 : 0 ≤ x2.toInt := q_nltI c19; have t5 : x2.toInt ≤ 9 := q_leI c20; have t6 : x3.toInt = 0 := q_eqI c43; have t7 : x1.toInt = 3 := q_eqI c44; have t8 : x4.toInt < 0 := q_ltI c133; have e0 : (1 : Int32).toInt = 1 := (by decide); have e1 : (0 : Int32).toInt = 0 := (by decide); omega), hF⟩) d_14_34_129
          ·
            replace hF := q_gc hF hg137 (q_al (Nat.le_of_ble_eq_true rfl) (q_al (Nat.le_of_ble_eq_true rfl) (q_al (Nat.le_of_ble_eq_true rfl) (q_al (Nat.le_of_ble_eq_true rfl) (q_al (Nat.le_of_ble_eq_true rfl) (q_al (Nat.le_of_ble_eq_true rfl) (fun _ h => absurd h List.not_mem_nil)))))))
            refine lv_istore (lv' := [(8, .int 0), (6, .long 0), (0, .ref qO0), (1, .int x1), (2, .int x2), (3, .int x3), (4, .int x4), (5, .int x5)]) hx hb d_14_34_92 hl (by decide) rfl (fun ls hl => ?_)
            refine lv_aload_n hx hb d_14_34_94 rfl (lv_at hl 2 rfl) ?_
            refine lv_aload_n hx hb d_14_34_95 rfl (lv_at hl 2 rfl) ?_
            replace hO0 := (hg137 _ (q_nc (q_pd 116 145 rfl) (q_nc (q_pd 116 146 rfl) (q_nc (q_pd 116 147 rfl) (q_nc (q_pd 116 148 rfl) (q_nc (q_pd 116 151 rfl) (q_nc (q_pd 116 152 rfl) List.not_mem_nil))))))).trans (hO0)
            refine q_get (ci := 12) (j := 7) (v := .ref qO5) C0 V i_NM rfl rfl hO0 (by decide) w_2305 rfl d_14_34_96 ?_
            refine q_getN (ci := 15) (j := 0) (v := .int 1) C0 V i_FR rfl rfl hO5 (by decide) wo_2075 rfl d_14_34_99 ?_
            refine q_put (ci := 12) (j := 0) (v := .int 1) (ty := .int) C0 V i_NM o_NM n_NM rfl rfl hO0 (by decide) w_2298 rfl rfl rfl rfl (Nat.le_of_ble_eq_true rfl) d_14_34_102 (fun H locs w183 hu184 hO0 V => ?_)
            replace hO0 : w183[116]? = (some (qO0, .inr (12, [.int 1, .ref qA1, .int 0, .ref qA2, .int 0, .ref qO3, .ref qO4, .ref qO5, .ref qO6, .ref qO7, .ref qA8, .ref qA9])) : Option (Nat × va_E)) := hO0
            replace hF := q_gs hF hu184 (Nat.le_of_ble_eq_true rfl)
            refine lv_aload_n hx hb d_14_34_105 rfl (lv_at hl 2 rfl) ?_
            refine q_get (ci := 12) (j := 0) (v := .int 1) C0 V i_NM rfl rfl hO0 (by decide) w_2298 rfl d_14_34_106 ?_
            refine lv_if_le (tgt := 116) hx hb d_14_34_109 (by decide) (fun c185 => absurd c185 (by decide)) (fun c185 => ?_)
            refine lv_iconst (v := 0) hx hb d_14_34_112 (by decide) ?_
            refine lv_goto (tgt := 129) hx hb d_14_34_113 (by decide) ?_
            exact q_reti C0 V (⟨1, 0, 0, hO0, (show ((1 : Int32).toInt = 0 ∧ ((2 ≤ x1.toInt ∧ x1.toInt ≤ 3) ∧ (0 ≤ x2.toInt ∧ x2.toInt ≤ 9) ∧ (0 ≤ x5.toInt ∧ x5.toInt ≤ 3) ∧ (x3.toInt ≠ 0 → (1 ≤ x4.toInt ∧ x4.toInt ≤ 800)) ∧ (x3.toInt = 0 → (0 ≤ x4.toInt ∧ x4.toInt ≤ 1100))) ∧ ((x3.toInt ≠ 0 ∧ x4.toInt = 1 ∧ (0 : Int32).toInt = 5) ∨ (x3.toInt ≠ 0 ∧ 1 < x4.toInt ∧ (0 : Int32).toInt = x4.toInt + 5) ∨ (x3.toInt = 0 ∧ x4.toInt = 0 ∧ (0 : Int32).toInt = 1) ∨ (x3.toInt = 0 ∧ 0 < x4.toInt ∧ (0 : Int32).toInt = x4.toInt + 2))) ∨ ((1 : Int32).toInt = 1 ∧ ¬ ((2 ≤ x1.toInt ∧ x1.toInt ≤ 3) ∧ (0 ≤ x2.toInt ∧ x2.toInt ≤ 9) ∧ (0 ≤ x5.toInt ∧ x5.toInt ≤ 3) ∧ (x3.toInt ≠ 0 → (1 ≤ x4.toInt ∧ x4.toInt ≤ 800)) ∧ (x3.toInt = 0 → (0 ≤ x4.toInt ∧ x4.toInt ≤ 1100)))) from by have t1 : 2 ≤ x1.toInt := q_nltI c1; have t2 : 0 ≤ x1.toInt := q_nltI c17; have t3 : x1.toInt ≤ 3 := q_nltI c18; have t4 : 0 ≤ x2.toInt := q_nltI c19; have t5 : x2.toInt ≤ 9 := q_leI c20; have t6 : x3.toInt = 0 := q_eqI c43; have t7 : x1.toInt = 3 := q_eqI c44; have t8 : 0 ≤ x4.toInt := q_nltI c135; have t9 : 1100 < x4.toInt := q_ltI c136; have e0 : (1 : Int32).toInt = 1 := (by decide); have e1 : (0 : Int32).toInt = 0 := (by decide); omega), hF⟩) d_14_34_129
          ·
            replace hF := q_gc hF hg141 (q_al (Nat.le_of_ble_eq_true rfl) (q_al (Nat.le_of_ble_eq_true rfl) (q_al (Nat.le_of_ble_eq_true rfl) (q_al (Nat.le_of_ble_eq_true rfl) (q_al (Nat.le_of_ble_eq_true rfl) (q_al (Nat.le_of_ble_eq_true rfl) (fun _ h => absurd h List.not_mem_nil)))))))
            refine lv_istore (lv' := [(8, .int 0), (6, .long 0), (0, .ref qO0), (1, .int x1), (2, .int x2), (3, .int x3), (4, .int x4), (5, .int x5)]) hx hb d_14_34_92 hl (by decide) rfl (fun ls hl => ?_)
            refine lv_aload_n hx hb d_14_34_94 rfl (lv_at hl 2 rfl) ?_
            refine lv_aload_n hx hb d_14_34_95 rfl (lv_at hl 2 rfl) ?_
            replace hO0 := (hg141 _ (q_nc (q_pd 116 145 rfl) (q_nc (q_pd 116 146 rfl) (q_nc (q_pd 116 147 rfl) (q_nc (q_pd 116 148 rfl) (q_nc (q_pd 116 151 rfl) (q_nc (q_pd 116 152 rfl) List.not_mem_nil))))))).trans (hO0)
            refine q_get (ci := 12) (j := 7) (v := .ref qO5) C0 V i_NM rfl rfl hO0 (by decide) w_2305 rfl d_14_34_96 ?_
            refine q_getN (ci := 15) (j := 0) (v := .int 1) C0 V i_FR rfl rfl hO5 (by decide) wo_2075 rfl d_14_34_99 ?_
            refine q_put (ci := 12) (j := 0) (v := .int 1) (ty := .int) C0 V i_NM o_NM n_NM rfl rfl hO0 (by decide) w_2298 rfl rfl rfl rfl (Nat.le_of_ble_eq_true rfl) d_14_34_102 (fun H locs w186 hu187 hO0 V => ?_)
            replace hO0 : w186[116]? = (some (qO0, .inr (12, [.int 1, .ref qA1, .int 0, .ref qA2, .int 0, .ref qO3, .ref qO4, .ref qO5, .ref qO6, .ref qO7, .ref qA8, .ref qA9])) : Option (Nat × va_E)) := hO0
            replace hF := q_gs hF hu187 (Nat.le_of_ble_eq_true rfl)
            refine lv_aload_n hx hb d_14_34_105 rfl (lv_at hl 2 rfl) ?_
            refine q_get (ci := 12) (j := 0) (v := .int 1) C0 V i_NM rfl rfl hO0 (by decide) w_2298 rfl d_14_34_106 ?_
            refine lv_if_le (tgt := 116) hx hb d_14_34_109 (by decide) (fun c188 => absurd c188 (by decide)) (fun c188 => ?_)
            refine lv_iconst (v := 0) hx hb d_14_34_112 (by decide) ?_
            refine lv_goto (tgt := 129) hx hb d_14_34_113 (by decide) ?_
            exact q_reti C0 V (⟨1, 0, 0, hO0, (show ((1 : Int32).toInt = 0 ∧ ((2 ≤ x1.toInt ∧ x1.toInt ≤ 3) ∧ (0 ≤ x2.toInt ∧ x2.toInt ≤ 9) ∧ (0 ≤ x5.toInt ∧ x5.toInt ≤ 3) ∧ (x3.toInt ≠ 0 → (1 ≤ x4.toInt ∧ x4.toInt ≤ 800)) ∧ (x3.toInt = 0 → (0 ≤ x4.toInt ∧ x4.toInt ≤ 1100))) ∧ ((x3.toInt ≠ 0 ∧ x4.toInt = 1 ∧ (0 : Int32).toInt = 5) ∨ (x3.toInt ≠ 0 ∧ 1 < x4.toInt ∧ (0 : Int32).toInt = x4.toInt + 5) ∨ (x3.toInt = 0 ∧ x4.toInt = 0 ∧ (0 : Int32).toInt = 1) ∨ (x3.toInt = 0 ∧ 0 < x4.toInt ∧ (0 : Int32).toInt = x4.toInt + 2))) ∨ ((1 : Int32).toInt = 1 ∧ ¬ ((2 ≤ x1.toInt ∧ x1.toInt ≤ 3) ∧ (0 ≤ x2.toInt ∧ x2.toInt ≤ 9) ∧ (0 ≤ x5.toInt ∧ x5.toInt ≤ 3) ∧ (x3.toInt ≠ 0 → (1 ≤ x4.toInt ∧ x4.toInt ≤ 800)) ∧ (x3.toInt = 0 → (0 ≤ x4.toInt ∧ x4.toInt ≤ 1100)))) from by have t1 : 2 ≤ x1.toInt := q_nltI c1; have t2 : 0 ≤ x1.toInt := q_nltI c17; have t3 : x1.toInt ≤ 3 := q_nltI c18; have t4 : 0 ≤ x2.toInt := q_nltI c19; have t5 : x2.toInt ≤ 9 := q_leI c20; have t6 : x3.toInt = 0 := q_eqI c43; have t7 : x1.toInt = 3 := q_eqI c44; have t8 : 0 ≤ x4.toInt := q_nltI c138; have t9 : x4.toInt ≤ 1100 := q_nltI c139; have t10 : x5.toInt < 0 := q_ltI c140; have e0 : (1 : Int32).toInt = 1 := (by decide); have e1 : (0 : Int32).toInt = 0 := (by decide); omega), hF⟩) d_14_34_129
          ·
            replace hF := q_gc hF hg149 (q_al (Nat.le_of_ble_eq_true rfl) (q_al (Nat.le_of_ble_eq_true rfl) (q_al (Nat.le_of_ble_eq_true rfl) (q_al (Nat.le_of_ble_eq_true rfl) (q_al (Nat.le_of_ble_eq_true rfl) (q_al (Nat.le_of_ble_eq_true rfl) (fun _ h => absurd h List.not_mem_nil)))))))
            refine lv_istore (lv' := [(8, .int 1), (6, .long 0), (0, .ref qO0), (1, .int x1), (2, .int x2), (3, .int x3), (4, .int x4), (5, .int x5)]) hx hb d_14_34_92 hl (by decide) rfl (fun ls hl => ?_)
            refine lv_aload_n hx hb d_14_34_94 rfl (lv_at hl 2 rfl) ?_
            refine lv_aload_n hx hb d_14_34_95 rfl (lv_at hl 2 rfl) ?_
            replace hO0 := (hg149 _ (q_nc (q_pd 116 145 rfl) (q_nc (q_pd 116 146 rfl) (q_nc (q_pd 116 147 rfl) (q_nc (q_pd 116 148 rfl) (q_nc (q_pd 116 151 rfl) (q_nc (q_pd 116 152 rfl) List.not_mem_nil))))))).trans (hO0)
            refine q_get (ci := 12) (j := 7) (v := .ref qO5) C0 V i_NM rfl rfl hO0 (by decide) w_2305 rfl d_14_34_96 ?_
            refine q_getN (ci := 15) (j := 0) (v := .int 0) C0 V i_FR rfl rfl hO5 (by decide) wo_2075 rfl d_14_34_99 ?_
            refine q_put (ci := 12) (j := 0) (v := .int 0) (ty := .int) C0 V i_NM o_NM n_NM rfl rfl hO0 (by decide) w_2298 rfl rfl rfl rfl (Nat.le_of_ble_eq_true rfl) d_14_34_102 (fun H locs w189 hu190 hO0 V => ?_)
            replace hO0 : w189[116]? = (some (qO0, .inr (12, [.int 0, .ref qA1, .int 0, .ref qA2, .int 0, .ref qO3, .ref qO4, .ref qO5, .ref qO6, .ref qO7, .ref qA8, .ref qA9])) : Option (Nat × va_E)) := hO0
            replace hF := q_gs hF hu190 (Nat.le_of_ble_eq_true rfl)
            refine lv_aload_n hx hb d_14_34_105 rfl (lv_at hl 2 rfl) ?_
            refine q_get (ci := 12) (j := 0) (v := .int 0) C0 V i_NM rfl rfl hO0 (by decide) w_2298 rfl d_14_34_106 ?_
            refine lv_if_le (tgt := 116) hx hb d_14_34_109 (by decide) (fun c191 => ?_) (fun c191 => absurd (by decide) c191)
            refine lv_aload_n hx hb d_14_34_116 rfl (lv_at hl 2 rfl) ?_
            refine lv_aload_n hx hb d_14_34_117 rfl (lv_at hl 2 rfl) ?_
            refine q_get (ci := 12) (j := 7) (v := .ref qO5) C0 V i_NM rfl rfl hO0 (by decide) w_2305 rfl d_14_34_118 ?_
            replace hO5 := (hu190 _ (q_pd 145 116 rfl)).trans (hO5)
            refine q_getN (ci := 15) (j := 7) (v := .ref qA40) C0 V i_FR rfl rfl hO5 (by decide) wo_2083 rfl d_14_34_121 ?_
            refine lv_iload hx hb d_14_34_124 (lv_at hl 0 rfl) ?_
            replace hA40 := (hu190 _ (q_pd 152 116 rfl)).trans (hA40)
            replace hA2 := (hu190 _ (q_pd 118 116 rfl)).trans ((hg149 _ (q_nc (q_pd 118 145 rfl) (q_nc (q_pd 118 146 rfl) (q_nc (q_pd 118 147 rfl) (q_nc (q_pd 118 148 rfl) (q_nc (q_pd 118 151 rfl) (q_nc (q_pd 118 152 rfl) List.not_mem_nil))))))).trans ((hu37 _ (q_pd 118 116 rfl)).trans (hA2)))
            refine q_goi V (q_runV (As := [.ref qA40, .int 1]) (rest := []) (d := 1) (mc := 0) (ms := 0) (ci := 12) C0 V rfl LV_NM_269 (c_NM_show_6 l D g w189 qO0 qA40 qA1 qA2 qO3 qO4 qO5 qO6 qO7 qA8 qA9 hO0 hA40 hA2 _) rfl rfl hO0 rfl hl.1 rfl (Nat.le_of_ble_eq_true rfl) ⟨by decide, by decide⟩ ⟨Nat.le_of_ble_eq_true rfl, Nat.le_of_ble_eq_true rfl⟩ d_14_34_126) (fun v194 u193 H locs hp192 V => ?_)
            obtain ⟨rfl, hg195, hO0, hA2⟩ := hp192
            replace hF := q_gc hF hg195 (q_al (Nat.le_of_ble_eq_true rfl) (q_al (Nat.le_of_ble_eq_true rfl) (fun _ h => absurd h List.not_mem_nil)))
            exact q_reti C0 V (⟨0, 0, 1, hO0, (show ((0 : Int32).toInt = 0 ∧ ((2 ≤ x1.toInt ∧ x1.toInt ≤ 3) ∧ (0 ≤ x2.toInt ∧ x2.toInt ≤ 9) ∧ (0 ≤ x5.toInt ∧ x5.toInt ≤ 3) ∧ (x3.toInt ≠ 0 → (1 ≤ x4.toInt ∧ x4.toInt ≤ 800)) ∧ (x3.toInt = 0 → (0 ≤ x4.toInt ∧ x4.toInt ≤ 1100))) ∧ ((x3.toInt ≠ 0 ∧ x4.toInt = 1 ∧ (1 : Int32).toInt = 5) ∨ (x3.toInt ≠ 0 ∧ 1 < x4.toInt ∧ (1 : Int32).toInt = x4.toInt + 5) ∨ (x3.toInt = 0 ∧ x4.toInt = 0 ∧ (1 : Int32).toInt = 1) ∨ (x3.toInt = 0 ∧ 0 < x4.toInt ∧ (1 : Int32).toInt = x4.toInt + 2))) ∨ ((0 : Int32).toInt = 1 ∧ ¬ ((2 ≤ x1.toInt ∧ x1.toInt ≤ 3) ∧ (0 ≤ x2.toInt ∧ x2.toInt ≤ 9) ∧ (0 ≤ x5.toInt ∧ x5.toInt ≤ 3) ∧ (x3.toInt ≠ 0 → (1 ≤ x4.toInt ∧ x4.toInt ≤ 800)) ∧ (x3.toInt = 0 → (0 ≤ x4.toInt ∧ x4.toInt ≤ 1100)))) from by have t1 : 2 ≤ x1.toInt := q_nltI c1; have t2 : 0 ≤ x1.toInt := q_nltI c17; have t3 : x1.toInt ≤ 3 := q_nltI c18; have t4 : 0 ≤ x2.toInt := q_nltI c19; have t5 : x2.toInt ≤ 9 := q_leI c20; have t6 : x3.toInt = 0 := q_eqI c43; have t7 : x1.toInt = 3 := q_eqI c44; have t8 : 0 ≤ x4.toInt := q_nltI c142; have t9 : x4.toInt ≤ 1100 := q_nltI c143; have t10 : 0 ≤ x5.toInt := q_nltI c144; have t11 : x5.toInt ≤ 3 := q_leI c145; have t12 : x4.toInt ≤ 1080 := q_leI c146; have t13 : x4.toInt ≤ 0 := q_leI c147; have e0 : (0 : Int32).toInt = 0 := (by decide); have e1 : (1 : Int32).toInt = 1 := (by decide); omega), hF⟩) d_14_34_129
          ·
            replace hF := q_gc hF hg162 (q_al (Nat.le_of_ble_eq_true rfl) (q_al (Nat.le_of_ble_eq_true rfl) (q_al (Nat.le_of_ble_eq_true rfl) (q_al (Nat.le_of_ble_eq_true rfl) (q_al (Nat.le_of_ble_eq_true rfl) (q_al (Nat.le_of_ble_eq_true rfl) (fun _ h => absurd h List.not_mem_nil)))))))
            refine lv_istore (lv' := [(8, .int y159), (6, .long 0), (0, .ref qO0), (1, .int x1), (2, .int x2), (3, .int x3), (4, .int x4), (5, .int x5)]) hx hb d_14_34_92 hl (by decide) rfl (fun ls hl => ?_)
            refine lv_aload_n hx hb d_14_34_94 rfl (lv_at hl 2 rfl) ?_
            refine lv_aload_n hx hb d_14_34_95 rfl (lv_at hl 2 rfl) ?_
            replace hO0 := (hg162 _ (q_nc (q_pd 116 145 rfl) (q_nc (q_pd 116 146 rfl) (q_nc (q_pd 116 147 rfl) (q_nc (q_pd 116 148 rfl) (q_nc (q_pd 116 151 rfl) (q_nc (q_pd 116 152 rfl) List.not_mem_nil))))))).trans (hO0)
            refine q_get (ci := 12) (j := 7) (v := .ref qO5) C0 V i_NM rfl rfl hO0 (by decide) w_2305 rfl d_14_34_96 ?_
            refine q_getN (ci := 15) (j := 0) (v := .int 0) C0 V i_FR rfl rfl hO5 (by decide) wo_2075 rfl d_14_34_99 ?_
            refine q_put (ci := 12) (j := 0) (v := .int 0) (ty := .int) C0 V i_NM o_NM n_NM rfl rfl hO0 (by decide) w_2298 rfl rfl rfl rfl (Nat.le_of_ble_eq_true rfl) d_14_34_102 (fun H locs w196 hu197 hO0 V => ?_)
            replace hO0 : w196[116]? = (some (qO0, .inr (12, [.int 0, .ref qA1, .int 0, .ref qA2, .int 0, .ref qO3, .ref qO4, .ref qO5, .ref qO6, .ref qO7, .ref qA8, .ref qA9])) : Option (Nat × va_E)) := hO0
            replace hF := q_gs hF hu197 (Nat.le_of_ble_eq_true rfl)
            refine lv_aload_n hx hb d_14_34_105 rfl (lv_at hl 2 rfl) ?_
            refine q_get (ci := 12) (j := 0) (v := .int 0) C0 V i_NM rfl rfl hO0 (by decide) w_2298 rfl d_14_34_106 ?_
            refine lv_if_le (tgt := 116) hx hb d_14_34_109 (by decide) (fun c198 => ?_) (fun c198 => absurd (by decide) c198)
            refine lv_aload_n hx hb d_14_34_116 rfl (lv_at hl 2 rfl) ?_
            refine lv_aload_n hx hb d_14_34_117 rfl (lv_at hl 2 rfl) ?_
            refine q_get (ci := 12) (j := 7) (v := .ref qO5) C0 V i_NM rfl rfl hO0 (by decide) w_2305 rfl d_14_34_118 ?_
            replace hO5 := (hu197 _ (q_pd 145 116 rfl)).trans (hO5)
            refine q_getN (ci := 15) (j := 7) (v := .ref qA40) C0 V i_FR rfl rfl hO5 (by decide) wo_2083 rfl d_14_34_121 ?_
            refine lv_iload hx hb d_14_34_124 (lv_at hl 0 rfl) ?_
            replace hA40 := (hu197 _ (q_pd 152 116 rfl)).trans (hA40)
            replace hA2 := (hu197 _ (q_pd 118 116 rfl)).trans ((hg162 _ (q_nc (q_pd 118 145 rfl) (q_nc (q_pd 118 146 rfl) (q_nc (q_pd 118 147 rfl) (q_nc (q_pd 118 148 rfl) (q_nc (q_pd 118 151 rfl) (q_nc (q_pd 118 152 rfl) List.not_mem_nil))))))).trans ((hu37 _ (q_pd 118 116 rfl)).trans (hA2)))
            refine q_goi V (q_runV (As := [.ref qA40, .int y159]) (rest := []) (d := 1) (mc := 0) (ms := 0) (ci := 12) C0 V rfl LV_NM_269 (c_NM_show_7 l D g w196 qO0 qA40 qA1 qA2 qO3 qO4 qO5 qO6 qO7 qA8 qA9 y159 y161 hO0 hA40 hA2 f157 f158 _) rfl rfl hO0 rfl hl.1 rfl (Nat.le_of_ble_eq_true rfl) ⟨by decide, by decide⟩ ⟨Nat.le_of_ble_eq_true rfl, Nat.le_of_ble_eq_true rfl⟩ d_14_34_126) (fun v201 u200 H locs hp199 V => ?_)
            obtain ⟨y202, rfl, hg203, hO0, hA2⟩ := hp199
            replace hF := q_gc hF hg203 (q_al (Nat.le_of_ble_eq_true rfl) (q_al (Nat.le_of_ble_eq_true rfl) (fun _ h => absurd h List.not_mem_nil)))
            exact q_reti C0 V (⟨0, 0, y159, hO0, (show ((0 : Int32).toInt = 0 ∧ ((2 ≤ x1.toInt ∧ x1.toInt ≤ 3) ∧ (0 ≤ x2.toInt ∧ x2.toInt ≤ 9) ∧ (0 ≤ x5.toInt ∧ x5.toInt ≤ 3) ∧ (x3.toInt ≠ 0 → (1 ≤ x4.toInt ∧ x4.toInt ≤ 800)) ∧ (x3.toInt = 0 → (0 ≤ x4.toInt ∧ x4.toInt ≤ 1100))) ∧ ((x3.toInt ≠ 0 ∧ x4.toInt = 1 ∧ (y159 : Int32).toInt = 5) ∨ (x3.toInt ≠ 0 ∧ 1 < x4.toInt ∧ (y159 : Int32).toInt = x4.toInt + 5) ∨ (x3.toInt = 0 ∧ x4.toInt = 0 ∧ (y159 : Int32).toInt = 1) ∨ (x3.toInt = 0 ∧ 0 < x4.toInt ∧ (y159 : Int32).toInt = x4.toInt + 2))) ∨ ((0 : Int32).toInt = 1 ∧ ¬ ((2 ≤ x1.toInt ∧ x1.toInt ≤ 3) ∧ (0 ≤ x2.toInt ∧ x2.toInt ≤ 9) ∧ (0 ≤ x5.toInt ∧ x5.toInt ≤ 3) ∧ (x3.toInt ≠ 0 → (1 ≤ x4.toInt ∧ x4.toInt ≤ 800)) ∧ (x3.toInt = 0 → (0 ≤ x4.toInt ∧ x4.toInt ≤ 1100)))) from by have t1 : 2 ≤ x1.toInt := q_nltI c1; have t2 : 0 ≤ x1.toInt := q_nltI c17; have t3 : x1.toInt ≤ 3 := q_nltI c18; have t4 : 0 ≤ x2.toInt := q_nltI c19; have t5 : x2.toInt ≤ 9 := q_leI c20; have t6 : x3.toInt = 0 := q_eqI c43; have t7 : x1.toInt = 3 := q_eqI c44; have t8 : 0 ≤ x4.toInt := q_nltI c150; have t9 : x4.toInt ≤ 1100 := q_nltI c151; have t10 : 0 ≤ x5.toInt := q_nltI c152; have t11 : x5.toInt ≤ 3 := q_leI c153; have t12 : x4.toInt ≤ 1080 := q_leI c154; have t13 : 0 < x4.toInt := q_nleI c155; have t14 : 2 ≤ y159.toInt := q_leI f157; have t15 : y159.toInt ≤ 1082 := q_leI f158; have e0 : (0 : Int32).toInt = 0 := (by decide); omega), hF⟩) d_14_34_129
          ·
            replace hF := q_gc hF hg174 (q_al (Nat.le_of_ble_eq_true rfl) (q_al (Nat.le_of_ble_eq_true rfl) (q_al (Nat.le_of_ble_eq_true rfl) (q_al (Nat.le_of_ble_eq_true rfl) (q_al (Nat.le_of_ble_eq_true rfl) (q_al (Nat.le_of_ble_eq_true rfl) (fun _ h => absurd h List.not_mem_nil)))))))
            refine lv_istore (lv' := [(8, .int y171), (6, .long 0), (0, .ref qO0), (1, .int x1), (2, .int x2), (3, .int x3), (4, .int x4), (5, .int x5)]) hx hb d_14_34_92 hl (by decide) rfl (fun ls hl => ?_)
            refine lv_aload_n hx hb d_14_34_94 rfl (lv_at hl 2 rfl) ?_
            refine lv_aload_n hx hb d_14_34_95 rfl (lv_at hl 2 rfl) ?_
            replace hO0 := (hg174 _ (q_nc (q_pd 116 145 rfl) (q_nc (q_pd 116 146 rfl) (q_nc (q_pd 116 147 rfl) (q_nc (q_pd 116 148 rfl) (q_nc (q_pd 116 151 rfl) (q_nc (q_pd 116 152 rfl) List.not_mem_nil))))))).trans (hO0)
            refine q_get (ci := 12) (j := 7) (v := .ref qO5) C0 V i_NM rfl rfl hO0 (by decide) w_2305 rfl d_14_34_96 ?_
            refine q_getN (ci := 15) (j := 0) (v := .int 0) C0 V i_FR rfl rfl hO5 (by decide) wo_2075 rfl d_14_34_99 ?_
            refine q_put (ci := 12) (j := 0) (v := .int 0) (ty := .int) C0 V i_NM o_NM n_NM rfl rfl hO0 (by decide) w_2298 rfl rfl rfl rfl (Nat.le_of_ble_eq_true rfl) d_14_34_102 (fun H locs w204 hu205 hO0 V => ?_)
            replace hO0 : w204[116]? = (some (qO0, .inr (12, [.int 0, .ref qA1, .int 0, .ref qA2, .int 0, .ref qO3, .ref qO4, .ref qO5, .ref qO6, .ref qO7, .ref qA8, .ref qA9])) : Option (Nat × va_E)) := hO0
            replace hF := q_gs hF hu205 (Nat.le_of_ble_eq_true rfl)
            refine lv_aload_n hx hb d_14_34_105 rfl (lv_at hl 2 rfl) ?_
            refine q_get (ci := 12) (j := 0) (v := .int 0) C0 V i_NM rfl rfl hO0 (by decide) w_2298 rfl d_14_34_106 ?_
            refine lv_if_le (tgt := 116) hx hb d_14_34_109 (by decide) (fun c206 => ?_) (fun c206 => absurd (by decide) c206)
            refine lv_aload_n hx hb d_14_34_116 rfl (lv_at hl 2 rfl) ?_
            refine lv_aload_n hx hb d_14_34_117 rfl (lv_at hl 2 rfl) ?_
            refine q_get (ci := 12) (j := 7) (v := .ref qO5) C0 V i_NM rfl rfl hO0 (by decide) w_2305 rfl d_14_34_118 ?_
            replace hO5 := (hu205 _ (q_pd 145 116 rfl)).trans (hO5)
            refine q_getN (ci := 15) (j := 7) (v := .ref qA40) C0 V i_FR rfl rfl hO5 (by decide) wo_2083 rfl d_14_34_121 ?_
            refine lv_iload hx hb d_14_34_124 (lv_at hl 0 rfl) ?_
            replace hA40 := (hu205 _ (q_pd 152 116 rfl)).trans (hA40)
            replace hA2 := (hu205 _ (q_pd 118 116 rfl)).trans ((hg174 _ (q_nc (q_pd 118 145 rfl) (q_nc (q_pd 118 146 rfl) (q_nc (q_pd 118 147 rfl) (q_nc (q_pd 118 148 rfl) (q_nc (q_pd 118 151 rfl) (q_nc (q_pd 118 152 rfl) List.not_mem_nil))))))).trans ((hu37 _ (q_pd 118 116 rfl)).trans (hA2)))
            refine q_goi V (q_runV (As := [.ref qA40, .int y171]) (rest := []) (d := 1) (mc := 0) (ms := 0) (ci := 12) C0 V rfl LV_NM_269 (c_NM_show_8 l D g w204 qO0 qA40 qA1 qA2 qO3 qO4 qO5 qO6 qO7 qA8 qA9 y171 y173 hO0 hA40 hA2 f169 f170 _) rfl rfl hO0 rfl hl.1 rfl (Nat.le_of_ble_eq_true rfl) ⟨by decide, by decide⟩ ⟨Nat.le_of_ble_eq_true rfl, Nat.le_of_ble_eq_true rfl⟩ d_14_34_126) (fun v209 u208 H locs hp207 V => ?_)
            obtain ⟨y210, rfl, hg211, hO0, hA2⟩ := hp207
            replace hF := q_gc hF hg211 (q_al (Nat.le_of_ble_eq_true rfl) (q_al (Nat.le_of_ble_eq_true rfl) (fun _ h => absurd h List.not_mem_nil)))
            exact q_reti C0 V (⟨0, 0, y171, hO0, (show ((0 : Int32).toInt = 0 ∧ ((2 ≤ x1.toInt ∧ x1.toInt ≤ 3) ∧ (0 ≤ x2.toInt ∧ x2.toInt ≤ 9) ∧ (0 ≤ x5.toInt ∧ x5.toInt ≤ 3) ∧ (x3.toInt ≠ 0 → (1 ≤ x4.toInt ∧ x4.toInt ≤ 800)) ∧ (x3.toInt = 0 → (0 ≤ x4.toInt ∧ x4.toInt ≤ 1100))) ∧ ((x3.toInt ≠ 0 ∧ x4.toInt = 1 ∧ (y171 : Int32).toInt = 5) ∨ (x3.toInt ≠ 0 ∧ 1 < x4.toInt ∧ (y171 : Int32).toInt = x4.toInt + 5) ∨ (x3.toInt = 0 ∧ x4.toInt = 0 ∧ (y171 : Int32).toInt = 1) ∨ (x3.toInt = 0 ∧ 0 < x4.toInt ∧ (y171 : Int32).toInt = x4.toInt + 2))) ∨ ((0 : Int32).toInt = 1 ∧ ¬ ((2 ≤ x1.toInt ∧ x1.toInt ≤ 3) ∧ (0 ≤ x2.toInt ∧ x2.toInt ≤ 9) ∧ (0 ≤ x5.toInt ∧ x5.toInt ≤ 3) ∧ (x3.toInt ≠ 0 → (1 ≤ x4.toInt ∧ x4.toInt ≤ 800)) ∧ (x3.toInt = 0 → (0 ≤ x4.toInt ∧ x4.toInt ≤ 1100)))) from by have t1 : 2 ≤ x1.toInt := q_nltI c1; have t2 : 0 ≤ x1.toInt := q_nltI c17; have t3 : x1.toInt ≤ 3 := q_nltI c18; have t4 : 0 ≤ x2.toInt := q_nltI c19; have t5 : x2.toInt ≤ 9 := q_leI c20; have t6 : x3.toInt = 0 := q_eqI c43; have t7 : x1.toInt = 3 := q_eqI c44; have t8 : 0 ≤ x4.toInt := q_nltI c163; have t9 : x4.toInt ≤ 1100 := q_nltI c164; have t10 : 0 ≤ x5.toInt := q_nltI c165; have t11 : x5.toInt ≤ 3 := q_leI c166; have t12 : 1080 < x4.toInt := q_nleI c167; have t13 : 2 ≤ y171.toInt := q_leI f169; have t14 : y171.toInt ≤ 1102 := q_leI f170; have e0 : (0 : Int32).toInt = 0 := (by decide); omega), hF⟩) d_14_34_129
          ·
            replace hF := q_gc hF hg179 (q_al (Nat.le_of_ble_eq_true rfl) (q_al (Nat.le_of_ble_eq_true rfl) (q_al (Nat.le_of_ble_eq_true rfl) (q_al (Nat.le_of_ble_eq_true rfl) (q_al (Nat.le_of_ble_eq_true rfl) (q_al (Nat.le_of_ble_eq_true rfl) (fun _ h => absurd h List.not_mem_nil)))))))
            refine lv_istore (lv' := [(8, .int 0), (6, .long 0), (0, .ref qO0), (1, .int x1), (2, .int x2), (3, .int x3), (4, .int x4), (5, .int x5)]) hx hb d_14_34_92 hl (by decide) rfl (fun ls hl => ?_)
            refine lv_aload_n hx hb d_14_34_94 rfl (lv_at hl 2 rfl) ?_
            refine lv_aload_n hx hb d_14_34_95 rfl (lv_at hl 2 rfl) ?_
            replace hO0 := (hg179 _ (q_nc (q_pd 116 145 rfl) (q_nc (q_pd 116 146 rfl) (q_nc (q_pd 116 147 rfl) (q_nc (q_pd 116 148 rfl) (q_nc (q_pd 116 151 rfl) (q_nc (q_pd 116 152 rfl) List.not_mem_nil))))))).trans (hO0)
            refine q_get (ci := 12) (j := 7) (v := .ref qO5) C0 V i_NM rfl rfl hO0 (by decide) w_2305 rfl d_14_34_96 ?_
            refine q_getN (ci := 15) (j := 0) (v := .int 1) C0 V i_FR rfl rfl hO5 (by decide) wo_2075 rfl d_14_34_99 ?_
            refine q_put (ci := 12) (j := 0) (v := .int 1) (ty := .int) C0 V i_NM o_NM n_NM rfl rfl hO0 (by decide) w_2298 rfl rfl rfl rfl (Nat.le_of_ble_eq_true rfl) d_14_34_102 (fun H locs w212 hu213 hO0 V => ?_)
            replace hO0 : w212[116]? = (some (qO0, .inr (12, [.int 1, .ref qA1, .int 0, .ref qA2, .int 0, .ref qO3, .ref qO4, .ref qO5, .ref qO6, .ref qO7, .ref qA8, .ref qA9])) : Option (Nat × va_E)) := hO0
            replace hF := q_gs hF hu213 (Nat.le_of_ble_eq_true rfl)
            refine lv_aload_n hx hb d_14_34_105 rfl (lv_at hl 2 rfl) ?_
            refine q_get (ci := 12) (j := 0) (v := .int 1) C0 V i_NM rfl rfl hO0 (by decide) w_2298 rfl d_14_34_106 ?_
            refine lv_if_le (tgt := 116) hx hb d_14_34_109 (by decide) (fun c214 => absurd c214 (by decide)) (fun c214 => ?_)
            refine lv_iconst (v := 0) hx hb d_14_34_112 (by decide) ?_
            refine lv_goto (tgt := 129) hx hb d_14_34_113 (by decide) ?_
            exact q_reti C0 V (⟨1, 0, 0, hO0, (show ((1 : Int32).toInt = 0 ∧ ((2 ≤ x1.toInt ∧ x1.toInt ≤ 3) ∧ (0 ≤ x2.toInt ∧ x2.toInt ≤ 9) ∧ (0 ≤ x5.toInt ∧ x5.toInt ≤ 3) ∧ (x3.toInt ≠ 0 → (1 ≤ x4.toInt ∧ x4.toInt ≤ 800)) ∧ (x3.toInt = 0 → (0 ≤ x4.toInt ∧ x4.toInt ≤ 1100))) ∧ ((x3.toInt ≠ 0 ∧ x4.toInt = 1 ∧ (0 : Int32).toInt = 5) ∨ (x3.toInt ≠ 0 ∧ 1 < x4.toInt ∧ (0 : Int32).toInt = x4.toInt + 5) ∨ (x3.toInt = 0 ∧ x4.toInt = 0 ∧ (0 : Int32).toInt = 1) ∨ (x3.toInt = 0 ∧ 0 < x4.toInt ∧ (0 : Int32).toInt = x4.toInt + 2))) ∨ ((1 : Int32).toInt = 1 ∧ ¬ ((2 ≤ x1.toInt ∧ x1.toInt ≤ 3) ∧ (0 ≤ x2.toInt ∧ x2.toInt ≤ 9) ∧ (0 ≤ x5.toInt ∧ x5.toInt ≤ 3) ∧ (x3.toInt ≠ 0 → (1 ≤ x4.toInt ∧ x4.toInt ≤ 800)) ∧ (x3.toInt = 0 → (0 ≤ x4.toInt ∧ x4.toInt ≤ 1100)))) from by have t1 : 2 ≤ x1.toInt := q_nltI c1; have t2 : 0 ≤ x1.toInt := q_nltI c17; have t3 : x1.toInt ≤ 3 := q_nltI c18; have t4 : 0 ≤ x2.toInt := q_nltI c19; have t5 : x2.toInt ≤ 9 := q_leI c20; have t6 : x3.toInt = 0 := q_eqI c43; have t7 : x1.toInt = 3 := q_eqI c44; have t8 : 0 ≤ x4.toInt := q_nltI c175; have t9 : x4.toInt ≤ 1100 := q_nltI c176; have t10 : 0 ≤ x5.toInt := q_nltI c177; have t11 : 3 < x5.toInt := q_nleI c178; have e0 : (1 : Int32).toInt = 1 := (by decide); have e1 : (0 : Int32).toInt = 0 := (by decide); omega), hF⟩) d_14_34_129
      ·
        refine lv_aload_n hx hb d_14_34_43 rfl (lv_at hl 1 rfl) ?_
        refine q_get (ci := 12) (j := 7) (v := .ref qO5) C0 V i_NM rfl rfl hO0 (by decide) w_2305 rfl d_14_34_44 ?_
        refine lv_lload hx hb d_14_34_47 (lv_at hl 0 rfl) ?_
        refine lv_iload_n hx hb d_14_34_49 rfl (lv_at hl 2 rfl) ?_
        refine lv_iconst (v := 3) hx hb d_14_34_50 (by decide) ?_
        refine lv_icmp_ne (tgt := 58) hx hb d_14_34_51 (by decide) (fun c215 => ?_) (fun c215 => ?_)
        ·
          refine lv_iconst (v := 0) hx hb d_14_34_58 (by decide) ?_
          refine lv_iload hx hb d_14_34_59 (lv_at hl 5 rfl) ?_
          refine lv_iload hx hb d_14_34_61 (lv_at hl 6 rfl) ?_
          replace hO5 := (hu37 _ (q_pd 145 116 rfl)).trans (hO5)
          replace hA34 := (hu37 _ (q_pd 146 116 rfl)).trans (hA34)
          replace hA35 := (hu37 _ (q_pd 147 116 rfl)).trans (hA35)
          replace hA36 := (hu37 _ (q_pd 148 116 rfl)).trans (hA36)
          replace hA39 := (hu37 _ (q_pd 151 116 rfl)).trans (hA39)
          replace hA40 := (hu37 _ (q_pd 152 116 rfl)).trans (hA40)
          refine q_goi V (q_runV (As := [.long 0, .int 0, .int x4, .int x5]) (rest := []) (d := 3) (mc := 0) (ms := 0) (ci := 15) C0 V rfl LV_NM_279 (c_FR_scientific l D g w36 145 146 147 148 151 152 qO5 qA34 qA35 qA36 qA37 qA38 qA39 qA40 x4 x5 hO5 hA34 hA35 hA36 hA39 hA40 (q_pd 146 147 rfl) (q_pd 146 148 rfl) (q_pd 146 151 rfl) (q_pd 146 152 rfl) (q_pd 147 151 rfl) (q_pd 147 152 rfl) (q_pd 148 147 rfl) (q_pd 148 151 rfl) (q_pd 148 152 rfl) (q_pd 151 152 rfl) _) rfl rfl hO5 rfl hl.1 rfl (Nat.le_of_ble_eq_true rfl) ⟨by decide, by decide⟩ ⟨Nat.le_of_ble_eq_true rfl, Nat.le_of_ble_eq_true rfl⟩ d_14_34_63) (fun v218 u217 H locs hp216 V => ?_)
          rcases hp216 with ⟨c219, rfl, hg220, hO5, hA34, hA35, hA36, hA39, hA40⟩ | ⟨c221, c222, rfl, hg223, hO5, hA34, hA35, hA36, hA39, hA40⟩ | ⟨c224, c225, c226, rfl, hg227, hO5, hA34, hA35, hA36, hA39, hA40⟩ | ⟨y233, c228, c229, c230, c231, c232, rfl, hg234, hO5, hA34, hA35, hA36, hA39, hA40⟩ | ⟨y243, y244, y245, c235, c236, c237, c238, c239, f240, f241, f242, rfl, hg246, hO5, hA34, hA35, hA36, hA39, hA40⟩ | ⟨c247, c248, c249, c250, rfl, hg251, hO5, hA34, hA35, hA36, hA39, hA40⟩
          ·
            replace hF := q_gc hF hg220 (q_al (Nat.le_of_ble_eq_true rfl) (q_al (Nat.le_of_ble_eq_true rfl) (q_al (Nat.le_of_ble_eq_true rfl) (q_al (Nat.le_of_ble_eq_true rfl) (q_al (Nat.le_of_ble_eq_true rfl) (q_al (Nat.le_of_ble_eq_true rfl) (fun _ h => absurd h List.not_mem_nil)))))))
            refine lv_goto (tgt := 92) hx hb d_14_34_66 (by decide) ?_
            refine lv_istore (lv' := [(8, .int 0), (6, .long 0), (0, .ref qO0), (1, .int x1), (2, .int x2), (3, .int x3), (4, .int x4), (5, .int x5)]) hx hb d_14_34_92 hl (by decide) rfl (fun ls hl => ?_)
            refine lv_aload_n hx hb d_14_34_94 rfl (lv_at hl 2 rfl) ?_
            refine lv_aload_n hx hb d_14_34_95 rfl (lv_at hl 2 rfl) ?_
            replace hO0 := (hg220 _ (q_nc (q_pd 116 145 rfl) (q_nc (q_pd 116 146 rfl) (q_nc (q_pd 116 147 rfl) (q_nc (q_pd 116 148 rfl) (q_nc (q_pd 116 151 rfl) (q_nc (q_pd 116 152 rfl) List.not_mem_nil))))))).trans (hO0)
            refine q_get (ci := 12) (j := 7) (v := .ref qO5) C0 V i_NM rfl rfl hO0 (by decide) w_2305 rfl d_14_34_96 ?_
            refine q_getN (ci := 15) (j := 0) (v := .int 1) C0 V i_FR rfl rfl hO5 (by decide) wo_2075 rfl d_14_34_99 ?_
            refine q_put (ci := 12) (j := 0) (v := .int 1) (ty := .int) C0 V i_NM o_NM n_NM rfl rfl hO0 (by decide) w_2298 rfl rfl rfl rfl (Nat.le_of_ble_eq_true rfl) d_14_34_102 (fun H locs w252 hu253 hO0 V => ?_)
            replace hO0 : w252[116]? = (some (qO0, .inr (12, [.int 1, .ref qA1, .int 0, .ref qA2, .int 0, .ref qO3, .ref qO4, .ref qO5, .ref qO6, .ref qO7, .ref qA8, .ref qA9])) : Option (Nat × va_E)) := hO0
            replace hF := q_gs hF hu253 (Nat.le_of_ble_eq_true rfl)
            refine lv_aload_n hx hb d_14_34_105 rfl (lv_at hl 2 rfl) ?_
            refine q_get (ci := 12) (j := 0) (v := .int 1) C0 V i_NM rfl rfl hO0 (by decide) w_2298 rfl d_14_34_106 ?_
            refine lv_if_le (tgt := 116) hx hb d_14_34_109 (by decide) (fun c254 => absurd c254 (by decide)) (fun c254 => ?_)
            refine lv_iconst (v := 0) hx hb d_14_34_112 (by decide) ?_
            refine lv_goto (tgt := 129) hx hb d_14_34_113 (by decide) ?_
            exact q_reti C0 V (⟨1, 0, 0, hO0, (show ((1 : Int32).toInt = 0 ∧ ((2 ≤ x1.toInt ∧ x1.toInt ≤ 3) ∧ (0 ≤ x2.toInt ∧ x2.toInt ≤ 9) ∧ (0 ≤ x5.toInt ∧ x5.toInt ≤ 3) ∧ (x3.toInt ≠ 0 → (1 ≤ x4.toInt ∧ x4.toInt ≤ 800)) ∧ (x3.toInt = 0 → (0 ≤ x4.toInt ∧ x4.toInt ≤ 1100))) ∧ ((x3.toInt ≠ 0 ∧ x4.toInt = 1 ∧ (0 : Int32).toInt = 5) ∨ (x3.toInt ≠ 0 ∧ 1 < x4.toInt ∧ (0 : Int32).toInt = x4.toInt + 5) ∨ (x3.toInt = 0 ∧ x4.toInt = 0 ∧ (0 : Int32).toInt = 1) ∨ (x3.toInt = 0 ∧ 0 < x4.toInt ∧ (0 : Int32).toInt = x4.toInt + 2))) ∨ ((1 : Int32).toInt = 1 ∧ ¬ ((2 ≤ x1.toInt ∧ x1.toInt ≤ 3) ∧ (0 ≤ x2.toInt ∧ x2.toInt ≤ 9) ∧ (0 ≤ x5.toInt ∧ x5.toInt ≤ 3) ∧ (x3.toInt ≠ 0 → (1 ≤ x4.toInt ∧ x4.toInt ≤ 800)) ∧ (x3.toInt = 0 → (0 ≤ x4.toInt ∧ x4.toInt ≤ 1100)))) from by have t1 : 2 ≤ x1.toInt := q_nltI c1; have t2 : 0 ≤ x1.toInt := q_nltI c17; have t3 : x1.toInt ≤ 3 := q_nltI c18; have t4 : 0 ≤ x2.toInt := q_nltI c19; have t5 : x2.toInt ≤ 9 := q_leI c20; have t6 : x3.toInt ≠ 0 := q_neI c43; have t7 : x1.toInt ≠ 3 := q_neI c215; have t8 : x4.toInt < 1 := q_ltI c219; have e0 : (1 : Int32).toInt = 1 := (by decide); have e1 : (0 : Int32).toInt = 0 := (by decide); omega), hF⟩) d_14_34_129
          ·
            replace hF := q_gc hF hg223 (q_al (Nat.le_of_ble_eq_true rfl) (q_al (Nat.le_of_ble_eq_true rfl) (q_al (Nat.le_of_ble_eq_true rfl) (q_al (Nat.le_of_ble_eq_true rfl) (q_al (Nat.le_of_ble_eq_true rfl) (q_al (Nat.le_of_ble_eq_true rfl) (fun _ h => absurd h List.not_mem_nil)))))))
            refine lv_goto (tgt := 92) hx hb d_14_34_66 (by decide) ?_
            refine lv_istore (lv' := [(8, .int 0), (6, .long 0), (0, .ref qO0), (1, .int x1), (2, .int x2), (3, .int x3), (4, .int x4), (5, .int x5)]) hx hb d_14_34_92 hl (by decide) rfl (fun ls hl => ?_)
            refine lv_aload_n hx hb d_14_34_94 rfl (lv_at hl 2 rfl) ?_
            refine lv_aload_n hx hb d_14_34_95 rfl (lv_at hl 2 rfl) ?_
            replace hO0 := (hg223 _ (q_nc (q_pd 116 145 rfl) (q_nc (q_pd 116 146 rfl) (q_nc (q_pd 116 147 rfl) (q_nc (q_pd 116 148 rfl) (q_nc (q_pd 116 151 rfl) (q_nc (q_pd 116 152 rfl) List.not_mem_nil))))))).trans (hO0)
            refine q_get (ci := 12) (j := 7) (v := .ref qO5) C0 V i_NM rfl rfl hO0 (by decide) w_2305 rfl d_14_34_96 ?_
            refine q_getN (ci := 15) (j := 0) (v := .int 1) C0 V i_FR rfl rfl hO5 (by decide) wo_2075 rfl d_14_34_99 ?_
            refine q_put (ci := 12) (j := 0) (v := .int 1) (ty := .int) C0 V i_NM o_NM n_NM rfl rfl hO0 (by decide) w_2298 rfl rfl rfl rfl (Nat.le_of_ble_eq_true rfl) d_14_34_102 (fun H locs w255 hu256 hO0 V => ?_)
            replace hO0 : w255[116]? = (some (qO0, .inr (12, [.int 1, .ref qA1, .int 0, .ref qA2, .int 0, .ref qO3, .ref qO4, .ref qO5, .ref qO6, .ref qO7, .ref qA8, .ref qA9])) : Option (Nat × va_E)) := hO0
            replace hF := q_gs hF hu256 (Nat.le_of_ble_eq_true rfl)
            refine lv_aload_n hx hb d_14_34_105 rfl (lv_at hl 2 rfl) ?_
            refine q_get (ci := 12) (j := 0) (v := .int 1) C0 V i_NM rfl rfl hO0 (by decide) w_2298 rfl d_14_34_106 ?_
            refine lv_if_le (tgt := 116) hx hb d_14_34_109 (by decide) (fun c257 => absurd c257 (by decide)) (fun c257 => ?_)
            refine lv_iconst (v := 0) hx hb d_14_34_112 (by decide) ?_
            refine lv_goto (tgt := 129) hx hb d_14_34_113 (by decide) ?_
            exact q_reti C0 V (⟨1, 0, 0, hO0, (show ((1 : Int32).toInt = 0 ∧ ((2 ≤ x1.toInt ∧ x1.toInt ≤ 3) ∧ (0 ≤ x2.toInt ∧ x2.toInt ≤ 9) ∧ (0 ≤ x5.toInt ∧ x5.toInt ≤ 3) ∧ (x3.toInt ≠ 0 → (1 ≤ x4.toInt ∧ x4.toInt ≤ 800)) ∧ (x3.toInt = 0 → (0 ≤ x4.toInt ∧ x4.toInt ≤ 1100))) ∧ ((x3.toInt ≠ 0 ∧ x4.toInt = 1 ∧ (0 : Int32).toInt = 5) ∨ (x3.toInt ≠ 0 ∧ 1 < x4.toInt ∧ (0 : Int32).toInt = x4.toInt + 5) ∨ (x3.toInt = 0 ∧ x4.toInt = 0 ∧ (0 : Int32).toInt = 1) ∨ (x3.toInt = 0 ∧ 0 < x4.toInt ∧ (0 : Int32).toInt = x4.toInt + 2))) ∨ ((1 : Int32).toInt = 1 ∧ ¬ ((2 ≤ x1.toInt ∧ x1.toInt ≤ 3) ∧ (0 ≤ x2.toInt ∧ x2.toInt ≤ 9) ∧ (0 ≤ x5.toInt ∧ x5.toInt ≤ 3) ∧ (x3.toInt ≠ 0 → (1 ≤ x4.toInt ∧ x4.toInt ≤ 800)) ∧ (x3.toInt = 0 → (0 ≤ x4.toInt ∧ x4.toInt ≤ 1100)))) from by have t1 : 2 ≤ x1.toInt := q_nltI c1; have t2 : 0 ≤ x1.toInt := q_nltI c17; have t3 : x1.toInt ≤ 3 := q_nltI c18; have t4 : 0 ≤ x2.toInt := q_nltI c19; have t5 : x2.toInt ≤ 9 := q_leI c20; have t6 : x3.toInt ≠ 0 := q_neI c43; have t7 : x1.toInt ≠ 3 := q_neI c215; have t8 : 1 ≤ x4.toInt := q_nltI c221; have t9 : 800 < x4.toInt := q_ltI c222; have e0 : (1 : Int32).toInt = 1 := (by decide); have e1 : (0 : Int32).toInt = 0 := (by decide); omega), hF⟩) d_14_34_129
          ·
            replace hF := q_gc hF hg227 (q_al (Nat.le_of_ble_eq_true rfl) (q_al (Nat.le_of_ble_eq_true rfl) (q_al (Nat.le_of_ble_eq_true rfl) (q_al (Nat.le_of_ble_eq_true rfl) (q_al (Nat.le_of_ble_eq_true rfl) (q_al (Nat.le_of_ble_eq_true rfl) (fun _ h => absurd h List.not_mem_nil)))))))
            refine lv_goto (tgt := 92) hx hb d_14_34_66 (by decide) ?_
            refine lv_istore (lv' := [(8, .int 0), (6, .long 0), (0, .ref qO0), (1, .int x1), (2, .int x2), (3, .int x3), (4, .int x4), (5, .int x5)]) hx hb d_14_34_92 hl (by decide) rfl (fun ls hl => ?_)
            refine lv_aload_n hx hb d_14_34_94 rfl (lv_at hl 2 rfl) ?_
            refine lv_aload_n hx hb d_14_34_95 rfl (lv_at hl 2 rfl) ?_
            replace hO0 := (hg227 _ (q_nc (q_pd 116 145 rfl) (q_nc (q_pd 116 146 rfl) (q_nc (q_pd 116 147 rfl) (q_nc (q_pd 116 148 rfl) (q_nc (q_pd 116 151 rfl) (q_nc (q_pd 116 152 rfl) List.not_mem_nil))))))).trans (hO0)
            refine q_get (ci := 12) (j := 7) (v := .ref qO5) C0 V i_NM rfl rfl hO0 (by decide) w_2305 rfl d_14_34_96 ?_
            refine q_getN (ci := 15) (j := 0) (v := .int 1) C0 V i_FR rfl rfl hO5 (by decide) wo_2075 rfl d_14_34_99 ?_
            refine q_put (ci := 12) (j := 0) (v := .int 1) (ty := .int) C0 V i_NM o_NM n_NM rfl rfl hO0 (by decide) w_2298 rfl rfl rfl rfl (Nat.le_of_ble_eq_true rfl) d_14_34_102 (fun H locs w258 hu259 hO0 V => ?_)
            replace hO0 : w258[116]? = (some (qO0, .inr (12, [.int 1, .ref qA1, .int 0, .ref qA2, .int 0, .ref qO3, .ref qO4, .ref qO5, .ref qO6, .ref qO7, .ref qA8, .ref qA9])) : Option (Nat × va_E)) := hO0
            replace hF := q_gs hF hu259 (Nat.le_of_ble_eq_true rfl)
            refine lv_aload_n hx hb d_14_34_105 rfl (lv_at hl 2 rfl) ?_
            refine q_get (ci := 12) (j := 0) (v := .int 1) C0 V i_NM rfl rfl hO0 (by decide) w_2298 rfl d_14_34_106 ?_
            refine lv_if_le (tgt := 116) hx hb d_14_34_109 (by decide) (fun c260 => absurd c260 (by decide)) (fun c260 => ?_)
            refine lv_iconst (v := 0) hx hb d_14_34_112 (by decide) ?_
            refine lv_goto (tgt := 129) hx hb d_14_34_113 (by decide) ?_
            exact q_reti C0 V (⟨1, 0, 0, hO0, (show ((1 : Int32).toInt = 0 ∧ ((2 ≤ x1.toInt ∧ x1.toInt ≤ 3) ∧ (0 ≤ x2.toInt ∧ x2.toInt ≤ 9) ∧ (0 ≤ x5.toInt ∧ x5.toInt ≤ 3) ∧ (x3.toInt ≠ 0 → (1 ≤ x4.toInt ∧ x4.toInt ≤ 800)) ∧ (x3.toInt = 0 → (0 ≤ x4.toInt ∧ x4.toInt ≤ 1100))) ∧ ((x3.toInt ≠ 0 ∧ x4.toInt = 1 ∧ (0 : Int32).toInt = 5) ∨ (x3.toInt ≠ 0 ∧ 1 < x4.toInt ∧ (0 : Int32).toInt = x4.toInt + 5) ∨ (x3.toInt = 0 ∧ x4.toInt = 0 ∧ (0 : Int32).toInt = 1) ∨ (x3.toInt = 0 ∧ 0 < x4.toInt ∧ (0 : Int32).toInt = x4.toInt + 2))) ∨ ((1 : Int32).toInt = 1 ∧ ¬ ((2 ≤ x1.toInt ∧ x1.toInt ≤ 3) ∧ (0 ≤ x2.toInt ∧ x2.toInt ≤ 9) ∧ (0 ≤ x5.toInt ∧ x5.toInt ≤ 3) ∧ (x3.toInt ≠ 0 → (1 ≤ x4.toInt ∧ x4.toInt ≤ 800)) ∧ (x3.toInt = 0 → (0 ≤ x4.toInt ∧ x4.toInt ≤ 1100)))) from by have t1 : 2 ≤ x1.toInt := q_nltI c1; have t2 : 0 ≤ x1.toInt := q_nltI c17; have t3 : x1.toInt ≤ 3 := q_nltI c18; have t4 : 0 ≤ x2.toInt := q_nltI c19; have t5 : x2.toInt ≤ 9 := q_leI c20; have t6 : x3.toInt ≠ 0 := q_neI c43; have t7 : x1.toInt ≠ 3 := q_neI c215; have t8 : 1 ≤ x4.toInt := q_nltI c224; have t9 : x4.toInt ≤ 800 := q_nltI c225; have t10 : x5.toInt < 0 := q_ltI c226; have e0 : (1 : Int32).toInt = 1 := (by decide); have e1 : (0 : Int32).toInt = 0 := (by decide); omega), hF⟩) d_14_34_129
          ·
            replace hF := q_gc hF hg234 (q_al (Nat.le_of_ble_eq_true rfl) (q_al (Nat.le_of_ble_eq_true rfl) (q_al (Nat.le_of_ble_eq_true rfl) (q_al (Nat.le_of_ble_eq_true rfl) (q_al (Nat.le_of_ble_eq_true rfl) (q_al (Nat.le_of_ble_eq_true rfl) (fun _ h => absurd h List.not_mem_nil)))))))
            refine lv_goto (tgt := 92) hx hb d_14_34_66 (by decide) ?_
            refine lv_istore (lv' := [(8, .int ((3 + 1) + 1)), (6, .long 0), (0, .ref qO0), (1, .int x1), (2, .int x2), (3, .int x3), (4, .int x4), (5, .int x5)]) hx hb d_14_34_92 hl (by decide) rfl (fun ls hl => ?_)
            refine lv_aload_n hx hb d_14_34_94 rfl (lv_at hl 2 rfl) ?_
            refine lv_aload_n hx hb d_14_34_95 rfl (lv_at hl 2 rfl) ?_
            replace hO0 := (hg234 _ (q_nc (q_pd 116 145 rfl) (q_nc (q_pd 116 146 rfl) (q_nc (q_pd 116 147 rfl) (q_nc (q_pd 116 148 rfl) (q_nc (q_pd 116 151 rfl) (q_nc (q_pd 116 152 rfl) List.not_mem_nil))))))).trans (hO0)
            refine q_get (ci := 12) (j := 7) (v := .ref qO5) C0 V i_NM rfl rfl hO0 (by decide) w_2305 rfl d_14_34_96 ?_
            refine q_getN (ci := 15) (j := 0) (v := .int 0) C0 V i_FR rfl rfl hO5 (by decide) wo_2075 rfl d_14_34_99 ?_
            refine q_put (ci := 12) (j := 0) (v := .int 0) (ty := .int) C0 V i_NM o_NM n_NM rfl rfl hO0 (by decide) w_2298 rfl rfl rfl rfl (Nat.le_of_ble_eq_true rfl) d_14_34_102 (fun H locs w261 hu262 hO0 V => ?_)
            replace hO0 : w261[116]? = (some (qO0, .inr (12, [.int 0, .ref qA1, .int 0, .ref qA2, .int 0, .ref qO3, .ref qO4, .ref qO5, .ref qO6, .ref qO7, .ref qA8, .ref qA9])) : Option (Nat × va_E)) := hO0
            replace hF := q_gs hF hu262 (Nat.le_of_ble_eq_true rfl)
            refine lv_aload_n hx hb d_14_34_105 rfl (lv_at hl 2 rfl) ?_
            refine q_get (ci := 12) (j := 0) (v := .int 0) C0 V i_NM rfl rfl hO0 (by decide) w_2298 rfl d_14_34_106 ?_
            refine lv_if_le (tgt := 116) hx hb d_14_34_109 (by decide) (fun c263 => ?_) (fun c263 => absurd (by decide) c263)
            refine lv_aload_n hx hb d_14_34_116 rfl (lv_at hl 2 rfl) ?_
            refine lv_aload_n hx hb d_14_34_117 rfl (lv_at hl 2 rfl) ?_
            refine q_get (ci := 12) (j := 7) (v := .ref qO5) C0 V i_NM rfl rfl hO0 (by decide) w_2305 rfl d_14_34_118 ?_
            replace hO5 := (hu262 _ (q_pd 145 116 rfl)).trans (hO5)
            refine q_getN (ci := 15) (j := 7) (v := .ref qA40) C0 V i_FR rfl rfl hO5 (by decide) wo_2083 rfl d_14_34_121 ?_
            refine lv_iload hx hb d_14_34_124 (lv_at hl 0 rfl) ?_
            replace hA40 := (hu262 _ (q_pd 152 116 rfl)).trans (hA40)
            replace hA2 := (hu262 _ (q_pd 118 116 rfl)).trans ((hg234 _ (q_nc (q_pd 118 145 rfl) (q_nc (q_pd 118 146 rfl) (q_nc (q_pd 118 147 rfl) (q_nc (q_pd 118 148 rfl) (q_nc (q_pd 118 151 rfl) (q_nc (q_pd 118 152 rfl) List.not_mem_nil))))))).trans ((hu37 _ (q_pd 118 116 rfl)).trans (hA2)))
            refine q_goi V (q_runV (As := [.ref qA40, .int ((3 + 1) + 1)]) (rest := []) (d := 1) (mc := 0) (ms := 0) (ci := 12) C0 V rfl LV_NM_269 (c_NM_show_7 l D g w261 qO0 qA40 qA1 qA2 qO3 qO4 qO5 qO6 qO7 qA8 qA9 ((3 + 1) + 1) (upd (upd (upd (upd (upd (fun _ => 0) 0 48) 1 101) 2 43) (3 : Int32).toNatClampNeg 48) (3 + 1 : Int32).toNatClampNeg 48) hO0 hA40 hA2 (q_Ile (x := 2) (y := ((3 + 1) + 1)) (by decide) (q_addI (x := (3 + 1)) (y := 1) (q_addI (x := 3) (y := 1) (by decide) (by decide) (by omega) (by omega)) (by decide) (by omega) (by omega)) (by omega)) (q_Ile (x := ((3 + 1) + 1)) (y := 1082) (q_addI (x := (3 + 1)) (y := 1) (q_addI (x := 3) (y := 1) (by decide) (by decide) (by omega) (by omega)) (by decide) (by omega) (by omega)) (by decide) (by omega)) _) rfl rfl hO0 rfl hl.1 rfl (Nat.le_of_ble_eq_true rfl) ⟨by decide, by decide⟩ ⟨Nat.le_of_ble_eq_true rfl, Nat.le_of_ble_eq_true rfl⟩ d_14_34_126) (fun v266 u265 H locs hp264 V => ?_)
            obtain ⟨y267, rfl, hg268, hO0, hA2⟩ := hp264
            replace hF := q_gc hF hg268 (q_al (Nat.le_of_ble_eq_true rfl) (q_al (Nat.le_of_ble_eq_true rfl) (fun _ h => absurd h List.not_mem_nil)))
            exact q_reti C0 V (⟨0, 0, ((3 + 1) + 1), hO0, (show ((0 : Int32).toInt = 0 ∧ ((2 ≤ x1.toInt ∧ x1.toInt ≤ 3) ∧ (0 ≤ x2.toInt ∧ x2.toInt ≤ 9) ∧ (0 ≤ x5.toInt ∧ x5.toInt ≤ 3) ∧ (x3.toInt ≠ 0 → (1 ≤ x4.toInt ∧ x4.toInt ≤ 800)) ∧ (x3.toInt = 0 → (0 ≤ x4.toInt ∧ x4.toInt ≤ 1100))) ∧ ((x3.toInt ≠ 0 ∧ x4.toInt = 1 ∧ (((3 + 1) + 1) : Int32).toInt = 5) ∨ (x3.toInt ≠ 0 ∧ 1 < x4.toInt ∧ (((3 + 1) + 1) : Int32).toInt = x4.toInt + 5) ∨ (x3.toInt = 0 ∧ x4.toInt = 0 ∧ (((3 + 1) + 1) : Int32).toInt = 1) ∨ (x3.toInt = 0 ∧ 0 < x4.toInt ∧ (((3 + 1) + 1) : Int32).toInt = x4.toInt + 2))) ∨ ((0 : Int32).toInt = 1 ∧ ¬ ((2 ≤ x1.toInt ∧ x1.toInt ≤ 3) ∧ (0 ≤ x2.toInt ∧ x2.toInt ≤ 9) ∧ (0 ≤ x5.toInt ∧ x5.toInt ≤ 3) ∧ (x3.toInt ≠ 0 → (1 ≤ x4.toInt ∧ x4.toInt ≤ 800)) ∧ (x3.toInt = 0 → (0 ≤ x4.toInt ∧ x4.toInt ≤ 1100)))) from by have t1 : 2 ≤ x1.toInt := q_nltI c1; have t2 : 0 ≤ x1.toInt := q_nltI c17; have t3 : x1.toInt ≤ 3 := q_nltI c18; have t4 : 0 ≤ x2.toInt := q_nltI c19; have t5 : x2.toInt ≤ 9 := q_leI c20; have t6 : x3.toInt ≠ 0 := q_neI c43; have t7 : x1.toInt ≠ 3 := q_neI c215; have t8 : 1 ≤ x4.toInt := q_nltI c228; have t9 : x4.toInt ≤ 800 := q_nltI c229; have t10 : 0 ≤ x5.toInt := q_nltI c230; have t11 : x5.toInt ≤ 3 := q_leI c231; have t12 : x4.toInt ≤ 1 := q_leI c232; have e0 : (0 : Int32).toInt = 0 := (by decide); have e1 : (((3 + 1) + 1) : Int32).toInt = ((3 + 1) + 1) := (q_addI (x := (3 + 1)) (y := 1) (q_addI (x := 3) (y := 1) (by decide) (by decide) (by omega) (by omega)) (by decide) (by omega) (by omega)); omega), hF⟩) d_14_34_129
          ·
            replace hF := q_gc hF hg246 (q_al (Nat.le_of_ble_eq_true rfl) (q_al (Nat.le_of_ble_eq_true rfl) (q_al (Nat.le_of_ble_eq_true rfl) (q_al (Nat.le_of_ble_eq_true rfl) (q_al (Nat.le_of_ble_eq_true rfl) (q_al (Nat.le_of_ble_eq_true rfl) (fun _ h => absurd h List.not_mem_nil)))))))
            refine lv_goto (tgt := 92) hx hb d_14_34_66 (by decide) ?_
            refine lv_istore (lv' := [(8, .int ((((y243 + 1) + 1) + 1) + 1)), (6, .long 0), (0, .ref qO0), (1, .int x1), (2, .int x2), (3, .int x3), (4, .int x4), (5, .int x5)]) hx hb d_14_34_92 hl (by decide) rfl (fun ls hl => ?_)
            refine lv_aload_n hx hb d_14_34_94 rfl (lv_at hl 2 rfl) ?_
            refine lv_aload_n hx hb d_14_34_95 rfl (lv_at hl 2 rfl) ?_
            replace hO0 := (hg246 _ (q_nc (q_pd 116 145 rfl) (q_nc (q_pd 116 146 rfl) (q_nc (q_pd 116 147 rfl) (q_nc (q_pd 116 148 rfl) (q_nc (q_pd 116 151 rfl) (q_nc (q_pd 116 152 rfl) List.not_mem_nil))))))).trans (hO0)
            refine q_get (ci := 12) (j := 7) (v := .ref qO5) C0 V i_NM rfl rfl hO0 (by decide) w_2305 rfl d_14_34_96 ?_
            refine q_getN (ci := 15) (j := 0) (v := .int 0) C0 V i_FR rfl rfl hO5 (by decide) wo_2075 rfl d_14_34_99 ?_
            refine q_put (ci := 12) (j := 0) (v := .int 0) (ty := .int) C0 V i_NM o_NM n_NM rfl rfl hO0 (by decide) w_2298 rfl rfl rfl rfl (Nat.le_of_ble_eq_true rfl) d_14_34_102 (fun H locs w269 hu270 hO0 V => ?_)
            replace hO0 : w269[116]? = (some (qO0, .inr (12, [.int 0, .ref qA1, .int 0, .ref qA2, .int 0, .ref qO3, .ref qO4, .ref qO5, .ref qO6, .ref qO7, .ref qA8, .ref qA9])) : Option (Nat × va_E)) := hO0
            replace hF := q_gs hF hu270 (Nat.le_of_ble_eq_true rfl)
            refine lv_aload_n hx hb d_14_34_105 rfl (lv_at hl 2 rfl) ?_
            refine q_get (ci := 12) (j := 0) (v := .int 0) C0 V i_NM rfl rfl hO0 (by decide) w_2298 rfl d_14_34_106 ?_
            refine lv_if_le (tgt := 116) hx hb d_14_34_109 (by decide) (fun c271 => ?_) (fun c271 => absurd (by decide) c271)
            refine lv_aload_n hx hb d_14_34_116 rfl (lv_at hl 2 rfl) ?_
            refine lv_aload_n hx hb d_14_34_117 rfl (lv_at hl 2 rfl) ?_
            refine q_get (ci := 12) (j := 7) (v := .ref qO5) C0 V i_NM rfl rfl hO0 (by decide) w_2305 rfl d_14_34_118 ?_
            replace hO5 := (hu270 _ (q_pd 145 116 rfl)).trans (hO5)
            refine q_getN (ci := 15) (j := 7) (v := .ref qA40) C0 V i_FR rfl rfl hO5 (by decide) wo_2083 rfl d_14_34_121 ?_
            refine lv_iload hx hb d_14_34_124 (lv_at hl 0 rfl) ?_
            replace hA40 := (hu270 _ (q_pd 152 116 rfl)).trans (hA40)
            replace hA2 := (hu270 _ (q_pd 118 116 rfl)).trans ((hg246 _ (q_nc (q_pd 118 145 rfl) (q_nc (q_pd 118 146 rfl) (q_nc (q_pd 118 147 rfl) (q_nc (q_pd 118 148 rfl) (q_nc (q_pd 118 151 rfl) (q_nc (q_pd 118 152 rfl) List.not_mem_nil))))))).trans ((hu37 _ (q_pd 118 116 rfl)).trans (hA2)))
            refine q_goi V (q_runV (As := [.ref qA40, .int ((((y243 + 1) + 1) + 1) + 1)]) (rest := []) (d := 1) (mc := 0) (ms := 0) (ci := 12) C0 V rfl LV_NM_269 (c_NM_show_7 l D g w269 qO0 qA40 qA1 qA2 qO3 qO4 qO5 qO6 qO7 qA8 qA9 ((((y243 + 1) + 1) + 1) + 1) (upd (upd (upd (upd y245 y243.toNatClampNeg 101) (y243 + 1).toNatClampNeg 43) ((y243 + 1) + 1).toNatClampNeg 48) (((y243 + 1) + 1) + 1).toNatClampNeg 48) hO0 hA40 hA2 (q_Ile (x := 2) (y := ((((y243.toInt + 1) + 1) + 1) + 1)) (by decide) (q_addI (x := (((y243.toInt + 1) + 1) + 1)) (y := 1) (q_addI (x := ((y243.toInt + 1) + 1)) (y := 1) (q_addI (x := (y243.toInt + 1)) (y := 1) (q_addI (x := y243.toInt) (y := 1) rfl (by decide) (by have t1 : 2 ≤ y243.toInt := q_leI f241; have t2 : y243.toInt ≤ 801 := q_leI f242; omega) (by have t1 : 2 ≤ y243.toInt := q_leI f241; have t2 : y243.toInt ≤ 801 := q_leI f242; omega)) (by decide) (by have t1 : 2 ≤ y243.toInt := q_leI f241; have t2 : y243.toInt ≤ 801 := q_leI f242; omega) (by have t1 : 2 ≤ y243.toInt := q_leI f241; have t2 : y243.toInt ≤ 801 := q_leI f242; omega)) (by decide) (by have t1 : 2 ≤ y243.toInt := q_leI f241; have t2 : y243.toInt ≤ 801 := q_leI f242; omega) (by have t1 : 2 ≤ y243.toInt := q_leI f241; have t2 : y243.toInt ≤ 801 := q_leI f242; omega)) (by decide) (by have t1 : 2 ≤ y243.toInt := q_leI f241; have t2 : y243.toInt ≤ 801 := q_leI f242; omega) (by have t1 : 2 ≤ y243.toInt := q_leI f241; have t2 : y243.toInt ≤ 801 := q_leI f242; omega)) (by have t1 : 2 ≤ y243.toInt := q_leI f241; have t2 : y243.toInt ≤ 801 := q_leI f242; omega)) (q_Ile (x := ((((y243.toInt + 1) + 1) + 1) + 1)) (y := 1082) (q_addI (x := (((y243.toInt + 1) + 1) + 1)) (y := 1) (q_addI (x := ((y243.toInt + 1) + 1)) (y := 1) (q_addI (x := (y243.toInt + 1)) (y := 1) (q_addI (x := y243.toInt) (y := 1) rfl (by decide) (by have t1 : 2 ≤ y243.toInt := q_leI f241; have t2 : y243.toInt ≤ 801 := q_leI f242; omega) (by have t1 : 2 ≤ y243.toInt := q_leI f241; have t2 : y243.toInt ≤ 801 := q_leI f242; omega)) (by decide) (by have t1 : 2 ≤ y243.toInt := q_leI f241; have t2 : y243.toInt ≤ 801 := q_leI f242; omega) (by have t1 : 2 ≤ y243.toInt := q_leI f241; have t2 : y243.toInt ≤ 801 := q_leI f242; omega)) (by decide) (by have t1 : 2 ≤ y243.toInt := q_leI f241; have t2 : y243.toInt ≤ 801 := q_leI f242; omega) (by have t1 : 2 ≤ y243.toInt := q_leI f241; have t2 : y243.toInt ≤ 801 := q_leI f242; omega)) (by decide) (by have t1 : 2 ≤ y243.toInt := q_leI f241; have t2 : y243.toInt ≤ 801 := q_leI f242; omega) (by have t1 : 2 ≤ y243.toInt := q_leI f241; have t2 : y243.toInt ≤ 801 := q_leI f242; omega)) (by decide) (by have t1 : 2 ≤ y243.toInt := q_leI f241; have t2 : y243.toInt ≤ 801 := q_leI f242; omega)) _) rfl rfl hO0 rfl hl.1 rfl (Nat.le_of_ble_eq_true rfl) ⟨by decide, by decide⟩ ⟨Nat.le_of_ble_eq_true rfl, Nat.le_of_ble_eq_true rfl⟩ d_14_34_126) (fun v274 u273 H locs hp272 V => ?_)
            obtain ⟨y275, rfl, hg276, hO0, hA2⟩ := hp272
            replace hF := q_gc hF hg276 (q_al (Nat.le_of_ble_eq_true rfl) (q_al (Nat.le_of_ble_eq_true rfl) (fun _ h => absurd h List.not_mem_nil)))
            exact q_reti C0 V (⟨0, 0, ((((y243 + 1) + 1) + 1) + 1), hO0, (show ((0 : Int32).toInt = 0 ∧ ((2 ≤ x1.toInt ∧ x1.toInt ≤ 3) ∧ (0 ≤ x2.toInt ∧ x2.toInt ≤ 9) ∧ (0 ≤ x5.toInt ∧ x5.toInt ≤ 3) ∧ (x3.toInt ≠ 0 → (1 ≤ x4.toInt ∧ x4.toInt ≤ 800)) ∧ (x3.toInt = 0 → (0 ≤ x4.toInt ∧ x4.toInt ≤ 1100))) ∧ ((x3.toInt ≠ 0 ∧ x4.toInt = 1 ∧ (((((y243 + 1) + 1) + 1) + 1) : Int32).toInt = 5) ∨ (x3.toInt ≠ 0 ∧ 1 < x4.toInt ∧ (((((y243 + 1) + 1) + 1) + 1) : Int32).toInt = x4.toInt + 5) ∨ (x3.toInt = 0 ∧ x4.toInt = 0 ∧ (((((y243 + 1) + 1) + 1) + 1) : Int32).toInt = 1) ∨ (x3.toInt = 0 ∧ 0 < x4.toInt ∧ (((((y243 + 1) + 1) + 1) + 1) : Int32).toInt = x4.toInt + 2))) ∨ ((0 : Int32).toInt = 1 ∧ ¬ ((2 ≤ x1.toInt ∧ x1.toInt ≤ 3) ∧ (0 ≤ x2.toInt ∧ x2.toInt ≤ 9) ∧ (0 ≤ x5.toInt ∧ x5.toInt ≤ 3) ∧ (x3.toInt ≠ 0 → (1 ≤ x4.toInt ∧ x4.toInt ≤ 800)) ∧ (x3.toInt = 0 → (0 ≤ x4.toInt ∧ x4.toInt ≤ 1100)))) from by have t1 : 2 ≤ x1.toInt := q_nltI c1; have t2 : 0 ≤ x1.toInt := q_nltI c17; have t3 : x1.toInt ≤ 3 := q_nltI c18; have t4 : 0 ≤ x2.toInt := q_nltI c19; have t5 : x2.toInt ≤ 9 := q_leI c20; have t6 : x3.toInt ≠ 0 := q_neI c43; have t7 : x1.toInt ≠ 3 := q_neI c215; have t8 : 1 ≤ x4.toInt := q_nltI c235; have t9 : x4.toInt ≤ 800 := q_nltI c236; have t10 : 0 ≤ x5.toInt := q_nltI c237; have t11 : x5.toInt ≤ 3 := q_leI c238; have t12 : 1 < x4.toInt := q_nleI c239; have t13 : 2 ≤ y243.toInt := q_leI f241; have t14 : y243.toInt ≤ 801 := q_leI f242; have e0 : (0 : Int32).toInt = 0 := (by decide); have e1 : (((((y243 + 1) + 1) + 1) + 1) : Int32).toInt = ((((y243.toInt + 1) + 1) + 1) + 1) := (q_addI (x := (((y243.toInt + 1) + 1) + 1)) (y := 1) (q_addI (x := ((y243.toInt + 1) + 1)) (y := 1) (q_addI (x := (y243.toInt + 1)) (y := 1) (q_addI (x := y243.toInt) (y := 1) rfl (by decide) (by have t1 : 2 ≤ y243.toInt := q_leI f241; have t2 : y243.toInt ≤ 801 := q_leI f242; omega) (by have t1 : 2 ≤ y243.toInt := q_leI f241; have t2 : y243.toInt ≤ 801 := q_leI f242; omega)) (by decide) (by have t1 : 2 ≤ y243.toInt := q_leI f241; have t2 : y243.toInt ≤ 801 := q_leI f242; omega) (by have t1 : 2 ≤ y243.toInt := q_leI f241; have t2 : y243.toInt ≤ 801 := q_leI f242; omega)) (by decide) (by have t1 : 2 ≤ y243.toInt := q_leI f241; have t2 : y243.toInt ≤ 801 := q_leI f242; omega) (by have t1 : 2 ≤ y243.toInt := q_leI f241; have t2 : y243.toInt ≤ 801 := q_leI f242; omega)) (by decide) (by have t1 : 2 ≤ y243.toInt := q_leI f241; have t2 : y243.toInt ≤ 801 := q_leI f242; omega) (by have t1 : 2 ≤ y243.toInt := q_leI f241; have t2 : y243.toInt ≤ 801 := q_leI f242; omega)); omega), hF⟩) d_14_34_129
          ·
            replace hF := q_gc hF hg251 (q_al (Nat.le_of_ble_eq_true rfl) (q_al (Nat.le_of_ble_eq_true rfl) (q_al (Nat.le_of_ble_eq_true rfl) (q_al (Nat.le_of_ble_eq_true rfl) (q_al (Nat.le_of_ble_eq_true rfl) (q_al (Nat.le_of_ble_eq_true rfl) (fun _ h => absurd h List.not_mem_nil)))))))
            refine lv_goto (tgt := 92) hx hb d_14_34_66 (by decide) ?_
            refine lv_istore (lv' := [(8, .int 0), (6, .long 0), (0, .ref qO0), (1, .int x1), (2, .int x2), (3, .int x3), (4, .int x4), (5, .int x5)]) hx hb d_14_34_92 hl (by decide) rfl (fun ls hl => ?_)
            refine lv_aload_n hx hb d_14_34_94 rfl (lv_at hl 2 rfl) ?_
            refine lv_aload_n hx hb d_14_34_95 rfl (lv_at hl 2 rfl) ?_
            replace hO0 := (hg251 _ (q_nc (q_pd 116 145 rfl) (q_nc (q_pd 116 146 rfl) (q_nc (q_pd 116 147 rfl) (q_nc (q_pd 116 148 rfl) (q_nc (q_pd 116 151 rfl) (q_nc (q_pd 116 152 rfl) List.not_mem_nil))))))).trans (hO0)
            refine q_get (ci := 12) (j := 7) (v := .ref qO5) C0 V i_NM rfl rfl hO0 (by decide) w_2305 rfl d_14_34_96 ?_
            refine q_getN (ci := 15) (j := 0) (v := .int 1) C0 V i_FR rfl rfl hO5 (by decide) wo_2075 rfl d_14_34_99 ?_
            refine q_put (ci := 12) (j := 0) (v := .int 1) (ty := .int) C0 V i_NM o_NM n_NM rfl rfl hO0 (by decide) w_2298 rfl rfl rfl rfl (Nat.le_of_ble_eq_true rfl) d_14_34_102 (fun H locs w277 hu278 hO0 V => ?_)
            replace hO0 : w277[116]? = (some (qO0, .inr (12, [.int 1, .ref qA1, .int 0, .ref qA2, .int 0, .ref qO3, .ref qO4, .ref qO5, .ref qO6, .ref qO7, .ref qA8, .ref qA9])) : Option (Nat × va_E)) := hO0
            replace hF := q_gs hF hu278 (Nat.le_of_ble_eq_true rfl)
            refine lv_aload_n hx hb d_14_34_105 rfl (lv_at hl 2 rfl) ?_
            refine q_get (ci := 12) (j := 0) (v := .int 1) C0 V i_NM rfl rfl hO0 (by decide) w_2298 rfl d_14_34_106 ?_
            refine lv_if_le (tgt := 116) hx hb d_14_34_109 (by decide) (fun c279 => absurd c279 (by decide)) (fun c279 => ?_)
            refine lv_iconst (v := 0) hx hb d_14_34_112 (by decide) ?_
            refine lv_goto (tgt := 129) hx hb d_14_34_113 (by decide) ?_
            exact q_reti C0 V (⟨1, 0, 0, hO0, (show ((1 : Int32).toInt = 0 ∧ ((2 ≤ x1.toInt ∧ x1.toInt ≤ 3) ∧ (0 ≤ x2.toInt ∧ x2.toInt ≤ 9) ∧ (0 ≤ x5.toInt ∧ x5.toInt ≤ 3) ∧ (x3.toInt ≠ 0 → (1 ≤ x4.toInt ∧ x4.toInt ≤ 800)) ∧ (x3.toInt = 0 → (0 ≤ x4.toInt ∧ x4.toInt ≤ 1100))) ∧ ((x3.toInt ≠ 0 ∧ x4.toInt = 1 ∧ (0 : Int32).toInt = 5) ∨ (x3.toInt ≠ 0 ∧ 1 < x4.toInt ∧ (0 : Int32).toInt = x4.toInt + 5) ∨ (x3.toInt = 0 ∧ x4.toInt = 0 ∧ (0 : Int32).toInt = 1) ∨ (x3.toInt = 0 ∧ 0 < x4.toInt ∧ (0 : Int32).toInt = x4.toInt + 2))) ∨ ((1 : Int32).toInt = 1 ∧ ¬ ((2 ≤ x1.toInt ∧ x1.toInt ≤ 3) ∧ (0 ≤ x2.toInt ∧ x2.toInt ≤ 9) ∧ (0 ≤ x5.toInt ∧ x5.toInt ≤ 3) ∧ (x3.toInt ≠ 0 → (1 ≤ x4.toInt ∧ x4.toInt ≤ 800)) ∧ (x3.toInt = 0 → (0 ≤ x4.toInt ∧ x4.toInt ≤ 1100)))) from by have t1 : 2 ≤ x1.toInt := q_nltI c1; have t2 : 0 ≤ x1.toInt := q_nltI c17; have t3 : x1.toInt ≤ 3 := q_nltI c18; have t4 : 0 ≤ x2.toInt := q_nltI c19; have t5 : x2.toInt ≤ 9 := q_leI c20; have t6 : x3.toInt ≠ 0 := q_neI c43; have t7 : x1.toInt ≠ 3 := q_neI c215; have t8 : 1 ≤ x4.toInt := q_nltI c247; have t9 : x4.toInt ≤ 800 := q_nltI c248; have t10 : 0 ≤ x5.toInt := q_nltI c249; have t11 : 3 < x5.toInt := q_nleI c250; have e0 : (1 : Int32).toInt = 1 := (by decide); have e1 : (0 : Int32).toInt = 0 := (by decide); omega), hF⟩) d_14_34_129
        ·
          refine lv_iconst (v := 1) hx hb d_14_34_54 (by decide) ?_
          refine lv_goto (tgt := 59) hx hb d_14_34_55 (by decide) ?_
          refine lv_iload hx hb d_14_34_59 (lv_at hl 5 rfl) ?_
          refine lv_iload hx hb d_14_34_61 (lv_at hl 6 rfl) ?_
          replace hO5 := (hu37 _ (q_pd 145 116 rfl)).trans (hO5)
          replace hA34 := (hu37 _ (q_pd 146 116 rfl)).trans (hA34)
          replace hA35 := (hu37 _ (q_pd 147 116 rfl)).trans (hA35)
          replace hA36 := (hu37 _ (q_pd 148 116 rfl)).trans (hA36)
          replace hA39 := (hu37 _ (q_pd 151 116 rfl)).trans (hA39)
          replace hA40 := (hu37 _ (q_pd 152 116 rfl)).trans (hA40)
          refine q_goi V (q_runV (As := [.long 0, .int 1, .int x4, .int x5]) (rest := []) (d := 3) (mc := 0) (ms := 0) (ci := 15) C0 V rfl LV_NM_279 (c_FR_scientific_2 l D g w36 145 146 147 148 151 152 qO5 qA34 qA35 qA36 qA37 qA38 qA39 qA40 x4 x5 hO5 hA34 hA35 hA36 hA39 hA40 (q_pd 146 147 rfl) (q_pd 146 148 rfl) (q_pd 146 151 rfl) (q_pd 146 152 rfl) (q_pd 147 151 rfl) (q_pd 147 152 rfl) (q_pd 148 147 rfl) (q_pd 148 151 rfl) (q_pd 148 152 rfl) (q_pd 151 152 rfl) _) rfl rfl hO5 rfl hl.1 rfl (Nat.le_of_ble_eq_true rfl) ⟨by decide, by decide⟩ ⟨Nat.le_of_ble_eq_true rfl, Nat.le_of_ble_eq_true rfl⟩ d_14_34_63) (fun v282 u281 H locs hp280 V => ?_)
          rcases hp280 with ⟨c283, rfl, hg284, hO5, hA34, hA35, hA36, hA39, hA40⟩ | ⟨c285, c286, rfl, hg287, hO5, hA34, hA35, hA36, hA39, hA40⟩ | ⟨c288, c289, c290, rfl, hg291, hO5, hA34, hA35, hA36, hA39, hA40⟩ | ⟨y297, c292, c293, c294, c295, c296, rfl, hg298, hO5, hA34, hA35, hA36, hA39, hA40⟩ | ⟨y307, y308, y309, c299, c300, c301, c302, c303, f304, f305, f306, rfl, hg310, hO5, hA34, hA35, hA36, hA39, hA40⟩ | ⟨c311, c312, c313, c314, rfl, hg315, hO5, hA34, hA35, hA36, hA39, hA40⟩
          ·
            replace hF := q_gc hF hg284 (q_al (Nat.le_of_ble_eq_true rfl) (q_al (Nat.le_of_ble_eq_true rfl) (q_al (Nat.le_of_ble_eq_true rfl) (q_al (Nat.le_of_ble_eq_true rfl) (q_al (Nat.le_of_ble_eq_true rfl) (q_al (Nat.le_of_ble_eq_true rfl) (fun _ h => absurd h List.not_mem_nil)))))))
            refine lv_goto (tgt := 92) hx hb d_14_34_66 (by decide) ?_
            refine lv_istore (lv' := [(8, .int 0), (6, .long 0), (0, .ref qO0), (1, .int x1), (2, .int x2), (3, .int x3), (4, .int x4), (5, .int x5)]) hx hb d_14_34_92 hl (by decide) rfl (fun ls hl => ?_)
            refine lv_aload_n hx hb d_14_34_94 rfl (lv_at hl 2 rfl) ?_
            refine lv_aload_n hx hb d_14_34_95 rfl (lv_at hl 2 rfl) ?_
            replace hO0 := (hg284 _ (q_nc (q_pd 116 145 rfl) (q_nc (q_pd 116 146 rfl) (q_nc (q_pd 116 147 rfl) (q_nc (q_pd 116 148 rfl) (q_nc (q_pd 116 151 rfl) (q_nc (q_pd 116 152 rfl) List.not_mem_nil))))))).trans (hO0)
            refine q_get (ci := 12) (j := 7) (v := .ref qO5) C0 V i_NM rfl rfl hO0 (by decide) w_2305 rfl d_14_34_96 ?_
            refine q_getN (ci := 15) (j := 0) (v := .int 1) C0 V i_FR rfl rfl hO5 (by decide) wo_2075 rfl d_14_34_99 ?_
            refine q_put (ci := 12) (j := 0) (v := .int 1) (ty := .int) C0 V i_NM o_NM n_NM rfl rfl hO0 (by decide) w_2298 rfl rfl rfl rfl (Nat.le_of_ble_eq_true rfl) d_14_34_102 (fun H locs w316 hu317 hO0 V => ?_)
            replace hO0 : w316[116]? = (some (qO0, .inr (12, [.int 1, .ref qA1, .int 0, .ref qA2, .int 0, .ref qO3, .ref qO4, .ref qO5, .ref qO6, .ref qO7, .ref qA8, .ref qA9])) : Option (Nat × va_E)) := hO0
            replace hF := q_gs hF hu317 (Nat.le_of_ble_eq_true rfl)
            refine lv_aload_n hx hb d_14_34_105 rfl (lv_at hl 2 rfl) ?_
            refine q_get (ci := 12) (j := 0) (v := .int 1) C0 V i_NM rfl rfl hO0 (by decide) w_2298 rfl d_14_34_106 ?_
            refine lv_if_le (tgt := 116) hx hb d_14_34_109 (by decide) (fun c318 => absurd c318 (by decide)) (fun c318 => ?_)
            refine lv_iconst (v := 0) hx hb d_14_34_112 (by decide) ?_
            refine lv_goto (tgt := 129) hx hb d_14_34_113 (by decide) ?_
            exact q_reti C0 V (⟨1, 0, 0, hO0, (show ((1 : Int32).toInt = 0 ∧ ((2 ≤ x1.toInt ∧ x1.toInt ≤ 3) ∧ (0 ≤ x2.toInt ∧ x2.toInt ≤ 9) ∧ (0 ≤ x5.toInt ∧ x5.toInt ≤ 3) ∧ (x3.toInt ≠ 0 → (1 ≤ x4.toInt ∧ x4.toInt ≤ 800)) ∧ (x3.toInt = 0 → (0 ≤ x4.toInt ∧ x4.toInt ≤ 1100))) ∧ ((x3.toInt ≠ 0 ∧ x4.toInt = 1 ∧ (0 : Int32).toInt = 5) ∨ (x3.toInt ≠ 0 ∧ 1 < x4.toInt ∧ (0 : Int32).toInt = x4.toInt + 5) ∨ (x3.toInt = 0 ∧ x4.toInt = 0 ∧ (0 : Int32).toInt = 1) ∨ (x3.toInt = 0 ∧ 0 < x4.toInt ∧ (0 : Int32).toInt = x4.toInt + 2))) ∨ ((1 : Int32).toInt = 1 ∧ ¬ ((2 ≤ x1.toInt ∧ x1.toInt ≤ 3) ∧ (0 ≤ x2.toInt ∧ x2.toInt ≤ 9) ∧ (0 ≤ x5.toInt ∧ x5.toInt ≤ 3) ∧ (x3.toInt ≠ 0 → (1 ≤ x4.toInt ∧ x4.toInt ≤ 800)) ∧ (x3.toInt = 0 → (0 ≤ x4.toInt ∧ x4.toInt ≤ 1100)))) from by have t1 : 2 ≤ x1.toInt := q_nltI c1; have t2 : 0 ≤ x1.toInt := q_nltI c17; have t3 : x1.toInt ≤ 3 := q_nltI c18; have t4 : 0 ≤ x2.toInt := q_nltI c19; have t5 : x2.toInt ≤ 9 := q_leI c20; have t6 : x3.toInt ≠ 0 := q_neI c43; have t7 : x1.toInt = 3 := q_eqI c215; have t8 : x4.toInt < 1 := q_ltI c283; have e0 : (1 : Int32).toInt = 1 := (by decide); have e1 : (0 : Int32).toInt = 0 := (by decide); omega), hF⟩) d_14_34_129
          ·
            replace hF := q_gc hF hg287 (q_al (Nat.le_of_ble_eq_true rfl) (q_al (Nat.le_of_ble_eq_true rfl) (q_al (Nat.le_of_ble_eq_true rfl) (q_al (Nat.le_of_ble_eq_true rfl) (q_al (Nat.le_of_ble_eq_true rfl) (q_al (Nat.le_of_ble_eq_true rfl) (fun _ h => absurd h List.not_mem_nil)))))))
            refine lv_goto (tgt := 92) hx hb d_14_34_66 (by decide) ?_
            refine lv_istore (lv' := [(8, .int 0), (6, .long 0), (0, .ref qO0), (1, .int x1), (2, .int x2), (3, .int x3), (4, .int x4), (5, .int x5)]) hx hb d_14_34_92 hl (by decide) rfl (fun ls hl => ?_)
            refine lv_aload_n hx hb d_14_34_94 rfl (lv_at hl 2 rfl) ?_
            refine lv_aload_n hx hb d_14_34_95 rfl (lv_at hl 2 rfl) ?_
            replace hO0 := (hg287 _ (q_nc (q_pd 116 145 rfl) (q_nc (q_pd 116 146 rfl) (q_nc (q_pd 116 147 rfl) (q_nc (q_pd 116 148 rfl) (q_nc (q_pd 116 151 rfl) (q_nc (q_pd 116 152 rfl) List.not_mem_nil))))))).trans (hO0)
            refine q_get (ci := 12) (j := 7) (v := .ref qO5) C0 V i_NM rfl rfl hO0 (by decide) w_2305 rfl d_14_34_96 ?_
            refine q_getN (ci := 15) (j := 0) (v := .int 1) C0 V i_FR rfl rfl hO5 (by decide) wo_2075 rfl d_14_34_99 ?_
            refine q_put (ci := 12) (j := 0) (v := .int 1) (ty := .int) C0 V i_NM o_NM n_NM rfl rfl hO0 (by decide) w_2298 rfl rfl rfl rfl (Nat.le_of_ble_eq_true rfl) d_14_34_102 (fun H locs w319 hu320 hO0 V => ?_)
            replace hO0 : w319[116]? = (some (qO0, .inr (12, [.int 1, .ref qA1, .int 0, .ref qA2, .int 0, .ref qO3, .ref qO4, .ref qO5, .ref qO6, .ref qO7, .ref qA8, .ref qA9])) : Option (Nat × va_E)) := hO0
            replace hF := q_gs hF hu320 (Nat.le_of_ble_eq_true rfl)
            refine lv_aload_n hx hb d_14_34_105 rfl (lv_at hl 2 rfl) ?_
            refine q_get (ci := 12) (j := 0) (v := .int 1) C0 V i_NM rfl rfl hO0 (by decide) w_2298 rfl d_14_34_106 ?_
            refine lv_if_le (tgt := 116) hx hb d_14_34_109 (by decide) (fun c321 => absurd c321 (by decide)) (fun c321 => ?_)
            refine lv_iconst (v := 0) hx hb d_14_34_112 (by decide) ?_
            refine lv_goto (tgt := 129) hx hb d_14_34_113 (by decide) ?_
            exact q_reti C0 V (⟨1, 0, 0, hO0, (show ((1 : Int32).toInt = 0 ∧ ((2 ≤ x1.toInt ∧ x1.toInt ≤ 3) ∧ (0 ≤ x2.toInt ∧ x2.toInt ≤ 9) ∧ (0 ≤ x5.toInt ∧ x5.toInt ≤ 3) ∧ (x3.toInt ≠ 0 → (1 ≤ x4.toInt ∧ x4.toInt ≤ 800)) ∧ (x3.toInt = 0 → (0 ≤ x4.toInt ∧ x4.toInt ≤ 1100))) ∧ ((x3.toInt ≠ 0 ∧ x4.toInt = 1 ∧ (0 : Int32).toInt = 5) ∨ (x3.toInt ≠ 0 ∧ 1 < x4.toInt ∧ (0 : Int32).toInt = x4.toInt + 5) ∨ (x3.toInt = 0 ∧ x4.toInt = 0 ∧ (0 : Int32).toInt = 1) ∨ (x3.toInt = 0 ∧ 0 < x4.toInt ∧ (0 : Int32).toInt = x4.toInt + 2))) ∨ ((1 : Int32).toInt = 1 ∧ ¬ ((2 ≤ x1.toInt ∧ x1.toInt ≤ 3) ∧ (0 ≤ x2.toInt ∧ x2.toInt ≤ 9) ∧ (0 ≤ x5.toInt ∧ x5.toInt ≤ 3) ∧ (x3.toInt ≠ 0 → (1 ≤ x4.toInt ∧ x4.toInt ≤ 800)) ∧ (x3.toInt = 0 → (0 ≤ x4.toInt ∧ x4.toInt ≤ 1100)))) from by have t1 : 2 ≤ x1.toInt := q_nltI c1; have t2 : 0 ≤ x1.toInt := q_nltI c17; have t3 : x1.toInt ≤ 3 := q_nltI c18; have t4 : 0 ≤ x2.toInt := q_nltI c19; have t5 : x2.toInt ≤ 9 := q_leI c20; have t6 : x3.toInt ≠ 0 := q_neI c43; have t7 : x1.toInt = 3 := q_eqI c215; have t8 : 1 ≤ x4.toInt := q_nltI c285; have t9 : 800 < x4.toInt := q_ltI c286; have e0 : (1 : Int32).toInt = 1 := (by decide); have e1 : (0 : Int32).toInt = 0 := (by decide); omega), hF⟩) d_14_34_129
          ·
            replace hF := q_gc hF hg291 (q_al (Nat.le_of_ble_eq_true rfl) (q_al (Nat.le_of_ble_eq_true rfl) (q_al (Nat.le_of_ble_eq_true rfl) (q_al (Nat.le_of_ble_eq_true rfl) (q_al (Nat.le_of_ble_eq_true rfl) (q_al (Nat.le_of_ble_eq_true rfl) (fun _ h => absurd h List.not_mem_nil)))))))
            refine lv_goto (tgt := 92) hx hb d_14_34_66 (by decide) ?_
            refine lv_istore (lv' := [(8, .int 0), (6, .long 0), (0, .ref qO0), (1, .int x1), (2, .int x2), (3, .int x3), (4, .int x4), (5, .int x5)]) hx hb d_14_34_92 hl (by decide) rfl (fun ls hl => ?_)
            refine lv_aload_n hx hb d_14_34_94 rfl (lv_at hl 2 rfl) ?_
            refine lv_aload_n hx hb d_14_34_95 rfl (lv_at hl 2 rfl) ?_
            replace hO0 := (hg291 _ (q_nc (q_pd 116 145 rfl) (q_nc (q_pd 116 146 rfl) (q_nc (q_pd 116 147 rfl) (q_nc (q_pd 116 148 rfl) (q_nc (q_pd 116 151 rfl) (q_nc (q_pd 116 152 rfl) List.not_mem_nil))))))).trans (hO0)
            refine q_get (ci := 12) (j := 7) (v := .ref qO5) C0 V i_NM rfl rfl hO0 (by decide) w_2305 rfl d_14_34_96 ?_
            refine q_getN (ci := 15) (j := 0) (v := .int 1) C0 V i_FR rfl rfl hO5 (by decide) wo_2075 rfl d_14_34_99 ?_
            refine q_put (ci := 12) (j := 0) (v := .int 1) (ty := .int) C0 V i_NM o_NM n_NM rfl rfl hO0 (by decide) w_2298 rfl rfl rfl rfl (Nat.le_of_ble_eq_true rfl) d_14_34_102 (fun H locs w322 hu323 hO0 V => ?_)
            replace hO0 : w322[116]? = (some (qO0, .inr (12, [.int 1, .ref qA1, .int 0, .ref qA2, .int 0, .ref qO3, .ref qO4, .ref qO5, .ref qO6, .ref qO7, .ref qA8, .ref qA9])) : Option (Nat × va_E)) := hO0
            replace hF := q_gs hF hu323 (Nat.le_of_ble_eq_true rfl)
            refine lv_aload_n hx hb d_14_34_105 rfl (lv_at hl 2 rfl) ?_
            refine q_get (ci := 12) (j := 0) (v := .int 1) C0 V i_NM rfl rfl hO0 (by decide) w_2298 rfl d_14_34_106 ?_
            refine lv_if_le (tgt := 116) hx hb d_14_34_109 (by decide) (fun c324 => absurd c324 (by decide)) (fun c324 => ?_)
            refine lv_iconst (v := 0) hx hb d_14_34_112 (by decide) ?_
            refine lv_goto (tgt := 129) hx hb d_14_34_113 (by decide) ?_
            exact q_reti C0 V (⟨1, 0, 0, hO0, (show ((1 : Int32).toInt = 0 ∧ ((2 ≤ x1.toInt ∧ x1.toInt ≤ 3) ∧ (0 ≤ x2.toInt ∧ x2.toInt ≤ 9) ∧ (0 ≤ x5.toInt ∧ x5.toInt ≤ 3) ∧ (x3.toInt ≠ 0 → (1 ≤ x4.toInt ∧ x4.toInt ≤ 800)) ∧ (x3.toInt = 0 → (0 ≤ x4.toInt ∧ x4.toInt ≤ 1100))) ∧ ((x3.toInt ≠ 0 ∧ x4.toInt = 1 ∧ (0 : Int32).toInt = 5) ∨ (x3.toInt ≠ 0 ∧ 1 < x4.toInt ∧ (0 : Int32).toInt = x4.toInt + 5) ∨ (x3.toInt = 0 ∧ x4.toInt = 0 ∧ (0 : Int32).toInt = 1) ∨ (x3.toInt = 0 ∧ 0 < x4.toInt ∧ (0 : Int32).toInt = x4.toInt + 2))) ∨ ((1 : Int32).toInt = 1 ∧ ¬ ((2 ≤ x1.toInt ∧ x1.toInt ≤ 3) ∧ (0 ≤ x2.toInt ∧ x2.toInt ≤ 9) ∧ (0 ≤ x5.toInt ∧ x5.toInt ≤ 3) ∧ (x3.toInt ≠ 0 → (1 ≤ x4.toInt ∧ x4.toInt ≤ 800)) ∧ (x3.toInt = 0 → (0 ≤ x4.toInt ∧ x4.toInt ≤ 1100)))) from by have t1 : 2 ≤ x1.toInt := q_nltI c1; have t2 : 0 ≤ x1.toInt := q_nltI c17; have t3 : x1.toInt ≤ 3 := q_nltI c18; have t4 : 0 ≤ x2.toInt := q_nltI c19; have t5 : x2.toInt ≤ 9 := q_leI c20; have t6 : x3.toInt ≠ 0 := q_neI c43; have t7 : x1.toInt = 3 := q_eqI c215; have t8 : 1 ≤ x4.toInt := q_nltI c288; have t9 : x4.toInt ≤ 800 := q_nltI c289; have t10 : x5.toInt < 0 := q_ltI c290; have e0 : (1 : Int32).toInt = 1 := (by decide); have e1 : (0 : Int32).toInt = 0 := (by decide); omega), hF⟩) d_14_34_129
          ·
            replace hF := q_gc hF hg298 (q_al (Nat.le_of_ble_eq_true rfl) (q_al (Nat.le_of_ble_eq_true rfl) (q_al (Nat.le_of_ble_eq_true rfl) (q_al (Nat.le_of_ble_eq_true rfl) (q_al (Nat.le_of_ble_eq_true rfl) (q_al (Nat.le_of_ble_eq_true rfl) (fun _ h => absurd h List.not_mem_nil)))))))
            refine lv_goto (tgt := 92) hx hb d_14_34_66 (by decide) ?_
            refine lv_istore (lv' := [(8, .int ((3 + 1) + 1)), (6, .long 0), (0, .ref qO0), (1, .int x1), (2, .int x2), (3, .int x3), (4, .int x4), (5, .int x5)]) hx hb d_14_34_92 hl (by decide) rfl (fun ls hl => ?_)
            refine lv_aload_n hx hb d_14_34_94 rfl (lv_at hl 2 rfl) ?_
            refine lv_aload_n hx hb d_14_34_95 rfl (lv_at hl 2 rfl) ?_
            replace hO0 := (hg298 _ (q_nc (q_pd 116 145 rfl) (q_nc (q_pd 116 146 rfl) (q_nc (q_pd 116 147 rfl) (q_nc (q_pd 116 148 rfl) (q_nc (q_pd 116 151 rfl) (q_nc (q_pd 116 152 rfl) List.not_mem_nil))))))).trans (hO0)
            refine q_get (ci := 12) (j := 7) (v := .ref qO5) C0 V i_NM rfl rfl hO0 (by decide) w_2305 rfl d_14_34_96 ?_
            refine q_getN (ci := 15) (j := 0) (v := .int 0) C0 V i_FR rfl rfl hO5 (by decide) wo_2075 rfl d_14_34_99 ?_
            refine q_put (ci := 12) (j := 0) (v := .int 0) (ty := .int) C0 V i_NM o_NM n_NM rfl rfl hO0 (by decide) w_2298 rfl rfl rfl rfl (Nat.le_of_ble_eq_true rfl) d_14_34_102 (fun H locs w325 hu326 hO0 V => ?_)
            replace hO0 : w325[116]? = (some (qO0, .inr (12, [.int 0, .ref qA1, .int 0, .ref qA2, .int 0, .ref qO3, .ref qO4, .ref qO5, .ref qO6, .ref qO7, .ref qA8, .ref qA9])) : Option (Nat × va_E)) := hO0
            replace hF := q_gs hF hu326 (Nat.le_of_ble_eq_true rfl)
            refine lv_aload_n hx hb d_14_34_105 rfl (lv_at hl 2 rfl) ?_
            refine q_get (ci := 12) (j := 0) (v := .int 0) C0 V i_NM rfl rfl hO0 (by decide) w_2298 rfl d_14_34_106 ?_
            refine lv_if_le (tgt := 116) hx hb d_14_34_109 (by decide) (fun c327 => ?_) (fun c327 => absurd (by decide) c327)
            refine lv_aload_n hx hb d_14_34_116 rfl (lv_at hl 2 rfl) ?_
            refine lv_aload_n hx hb d_14_34_117 rfl (lv_at hl 2 rfl) ?_
            refine q_get (ci := 12) (j := 7) (v := .ref qO5) C0 V i_NM rfl rfl hO0 (by decide) w_2305 rfl d_14_34_118 ?_
            replace hO5 := (hu326 _ (q_pd 145 116 rfl)).trans (hO5)
            refine q_getN (ci := 15) (j := 7) (v := .ref qA40) C0 V i_FR rfl rfl hO5 (by decide) wo_2083 rfl d_14_34_121 ?_
            refine lv_iload hx hb d_14_34_124 (lv_at hl 0 rfl) ?_
            replace hA40 := (hu326 _ (q_pd 152 116 rfl)).trans (hA40)
            replace hA2 := (hu326 _ (q_pd 118 116 rfl)).trans ((hg298 _ (q_nc (q_pd 118 145 rfl) (q_nc (q_pd 118 146 rfl) (q_nc (q_pd 118 147 rfl) (q_nc (q_pd 118 148 rfl) (q_nc (q_pd 118 151 rfl) (q_nc (q_pd 118 152 rfl) List.not_mem_nil))))))).trans ((hu37 _ (q_pd 118 116 rfl)).trans (hA2)))
            refine q_goi V (q_runV (As := [.ref qA40, .int ((3 + 1) + 1)]) (rest := []) (d := 1) (mc := 0) (ms := 0) (ci := 12) C0 V rfl LV_NM_269 (c_NM_show_7 l D g w325 qO0 qA40 qA1 qA2 qO3 qO4 qO5 qO6 qO7 qA8 qA9 ((3 + 1) + 1) (upd (upd (upd (upd (upd (fun _ => 0) 0 48) 1 101) 2 43) (3 : Int32).toNatClampNeg 48) (3 + 1 : Int32).toNatClampNeg 48) hO0 hA40 hA2 (q_Ile (x := 2) (y := ((3 + 1) + 1)) (by decide) (q_addI (x := (3 + 1)) (y := 1) (q_addI (x := 3) (y := 1) (by decide) (by decide) (by omega) (by omega)) (by decide) (by omega) (by omega)) (by omega)) (q_Ile (x := ((3 + 1) + 1)) (y := 1082) (q_addI (x := (3 + 1)) (y := 1) (q_addI (x := 3) (y := 1) (by decide) (by decide) (by omega) (by omega)) (by decide) (by omega) (by omega)) (by decide) (by omega)) _) rfl rfl hO0 rfl hl.1 rfl (Nat.le_of_ble_eq_true rfl) ⟨by decide, by decide⟩ ⟨Nat.le_of_ble_eq_true rfl, Nat.le_of_ble_eq_true rfl⟩ d_14_34_126) (fun v330 u329 H locs hp328 V => ?_)
            obtain ⟨y331, rfl, hg332, hO0, hA2⟩ := hp328
            replace hF := q_gc hF hg332 (q_al (Nat.le_of_ble_eq_true rfl) (q_al (Nat.le_of_ble_eq_true rfl) (fun _ h => absurd h List.not_mem_nil)))
            exact q_reti C0 V (⟨0, 0, ((3 + 1) + 1), hO0, (show ((0 : Int32).toInt = 0 ∧ ((2 ≤ x1.toInt ∧ x1.toInt ≤ 3) ∧ (0 ≤ x2.toInt ∧ x2.toInt ≤ 9) ∧ (0 ≤ x5.toInt ∧ x5.toInt ≤ 3) ∧ (x3.toInt ≠ 0 → (1 ≤ x4.toInt ∧ x4.toInt ≤ 800)) ∧ (x3.toInt = 0 → (0 ≤ x4.toInt ∧ x4.toInt ≤ 1100))) ∧ ((x3.toInt ≠ 0 ∧ x4.toInt = 1 ∧ (((3 + 1) + 1) : Int32).toInt = 5) ∨ (x3.toInt ≠ 0 ∧ 1 < x4.toInt ∧ (((3 + 1) + 1) : Int32).toInt = x4.toInt + 5) ∨ (x3.toInt = 0 ∧ x4.toInt = 0 ∧ (((3 + 1) + 1) : Int32).toInt = 1) ∨ (x3.toInt = 0 ∧ 0 < x4.toInt ∧ (((3 + 1) + 1) : Int32).toInt = x4.toInt + 2))) ∨ ((0 : Int32).toInt = 1 ∧ ¬ ((2 ≤ x1.toInt ∧ x1.toInt ≤ 3) ∧ (0 ≤ x2.toInt ∧ x2.toInt ≤ 9) ∧ (0 ≤ x5.toInt ∧ x5.toInt ≤ 3) ∧ (x3.toInt ≠ 0 → (1 ≤ x4.toInt ∧ x4.toInt ≤ 800)) ∧ (x3.toInt = 0 → (0 ≤ x4.toInt ∧ x4.toInt ≤ 1100)))) from by have t1 : 2 ≤ x1.toInt := q_nltI c1; have t2 : 0 ≤ x1.toInt := q_nltI c17; have t3 : x1.toInt ≤ 3 := q_nltI c18; have t4 : 0 ≤ x2.toInt := q_nltI c19; have t5 : x2.toInt ≤ 9 := q_leI c20; have t6 : x3.toInt ≠ 0 := q_neI c43; have t7 : x1.toInt = 3 := q_eqI c215; have t8 : 1 ≤ x4.toInt := q_nltI c292; have t9 : x4.toInt ≤ 800 := q_nltI c293; have t10 : 0 ≤ x5.toInt := q_nltI c294; have t11 : x5.toInt ≤ 3 := q_leI c295; have t12 : x4.toInt ≤ 1 := q_leI c296; have e0 : (0 : Int32).toInt = 0 := (by decide); have e1 : (((3 + 1) + 1) : Int32).toInt = ((3 + 1) + 1) := (q_addI (x := (3 + 1)) (y := 1) (q_addI (x := 3) (y := 1) (by decide) (by decide) (by omega) (by omega)) (by decide) (by omega) (by omega)); omega), hF⟩) d_14_34_129
          ·
            replace hF := q_gc hF hg310 (q_al (Nat.le_of_ble_eq_true rfl) (q_al (Nat.le_of_ble_eq_true rfl) (q_al (Nat.le_of_ble_eq_true rfl) (q_al (Nat.le_of_ble_eq_true rfl) (q_al (Nat.le_of_ble_eq_true rfl) (q_al (Nat.le_of_ble_eq_true rfl) (fun _ h => absurd h List.not_mem_nil)))))))
            refine lv_goto (tgt := 92) hx hb d_14_34_66 (by decide) ?_
            refine lv_istore (lv' := [(8, .int ((((y307 + 1) + 1) + 1) + 1)), (6, .long 0), (0, .ref qO0), (1, .int x1), (2, .int x2), (3, .int x3), (4, .int x4), (5, .int x5)]) hx hb d_14_34_92 hl (by decide) rfl (fun ls hl => ?_)
            refine lv_aload_n hx hb d_14_34_94 rfl (lv_at hl 2 rfl) ?_
            refine lv_aload_n hx hb d_14_34_95 rfl (lv_at hl 2 rfl) ?_
            replace hO0 := (hg310 _ (q_nc (q_pd 116 145 rfl) (q_nc (q_pd 116 146 rfl) (q_nc (q_pd 116 147 rfl) (q_nc (q_pd 116 148 rfl) (q_nc (q_pd 116 151 rfl) (q_nc (q_pd 116 152 rfl) List.not_mem_nil))))))).trans (hO0)
            refine q_get (ci := 12) (j := 7) (v := .ref qO5) C0 V i_NM rfl rfl hO0 (by decide) w_2305 rfl d_14_34_96 ?_
            refine q_getN (ci := 15) (j := 0) (v := .int 0) C0 V i_FR rfl rfl hO5 (by decide) wo_2075 rfl d_14_34_99 ?_
            refine q_put (ci := 12) (j := 0) (v := .int 0) (ty := .int) C0 V i_NM o_NM n_NM rfl rfl hO0 (by decide) w_2298 rfl rfl rfl rfl (Nat.le_of_ble_eq_true rfl) d_14_34_102 (fun H locs w333 hu334 hO0 V => ?_)
            replace hO0 : w333[116]? = (some (qO0, .inr (12, [.int 0, .ref qA1, .int 0, .ref qA2, .int 0, .ref qO3, .ref qO4, .ref qO5, .ref qO6, .ref qO7, .ref qA8, .ref qA9])) : Option (Nat × va_E)) := hO0
            replace hF := q_gs hF hu334 (Nat.le_of_ble_eq_true rfl)
            refine lv_aload_n hx hb d_14_34_105 rfl (lv_at hl 2 rfl) ?_
            refine q_get (ci := 12) (j := 0) (v := .int 0) C0 V i_NM rfl rfl hO0 (by decide) w_2298 rfl d_14_34_106 ?_
            refine lv_if_le (tgt := 116) hx hb d_14_34_109 (by decide) (fun c335 => ?_) (fun c335 => absurd (by decide) c335)
            refine lv_aload_n hx hb d_14_34_116 rfl (lv_at hl 2 rfl) ?_
            refine lv_aload_n hx hb d_14_34_117 rfl (lv_at hl 2 rfl) ?_
            refine q_get (ci := 12) (j := 7) (v := .ref qO5) C0 V i_NM rfl rfl hO0 (by decide) w_2305 rfl d_14_34_118 ?_
            replace hO5 := (hu334 _ (q_pd 145 116 rfl)).trans (hO5)
            refine q_getN (ci := 15) (j := 7) (v := .ref qA40) C0 V i_FR rfl rfl hO5 (by decide) wo_2083 rfl d_14_34_121 ?_
            refine lv_iload hx hb d_14_34_124 (lv_at hl 0 rfl) ?_
            replace hA40 := (hu334 _ (q_pd 152 116 rfl)).trans (hA40)
            replace hA2 := (hu334 _ (q_pd 118 116 rfl)).trans ((hg310 _ (q_nc (q_pd 118 145 rfl) (q_nc (q_pd 118 146 rfl) (q_nc (q_pd 118 147 rfl) (q_nc (q_pd 118 148 rfl) (q_nc (q_pd 118 151 rfl) (q_nc (q_pd 118 152 rfl) List.not_mem_nil))))))).trans ((hu37 _ (q_pd 118 116 rfl)).trans (hA2)))
            refine q_goi V (q_runV (As := [.ref qA40, .int ((((y307 + 1) + 1) + 1) + 1)]) (rest := []) (d := 1) (mc := 0) (ms := 0) (ci := 12) C0 V rfl LV_NM_269 (c_NM_show_7 l D g w333 qO0 qA40 qA1 qA2 qO3 qO4 qO5 qO6 qO7 qA8 qA9 ((((y307 + 1) + 1) + 1) + 1) (upd (upd (upd (upd y309 y307.toNatClampNeg 101) (y307 + 1).toNatClampNeg 43) ((y307 + 1) + 1).toNatClampNeg 48) (((y307 + 1) + 1) + 1).toNatClampNeg 48) hO0 hA40 hA2 (q_Ile (x := 2) (y := ((((y307.toInt + 1) + 1) + 1) + 1)) (by decide) (q_addI (x := (((y307.toInt + 1) + 1) + 1)) (y := 1) (q_addI (x := ((y307.toInt + 1) + 1)) (y := 1) (q_addI (x := (y307.toInt + 1)) (y := 1) (q_addI (x := y307.toInt) (y := 1) rfl (by decide) (by have t1 : 2 ≤ y307.toInt := q_leI f305; have t2 : y307.toInt ≤ 801 := q_leI f306; omega) (by have t1 : 2 ≤ y307.toInt := q_leI f305; have t2 : y307.toInt ≤ 801 := q_leI f306; omega)) (by decide) (by have t1 : 2 ≤ y307.toInt := q_leI f305; have t2 : y307.toInt ≤ 801 := q_leI f306; omega) (by have t1 : 2 ≤ y307.toInt := q_leI f305; have t2 : y307.toInt ≤ 801 := q_leI f306; omega)) (by decide) (by have t1 : 2 ≤ y307.toInt := q_leI f305; have t2 : y307.toInt ≤ 801 := q_leI f306; omega) (by have t1 : 2 ≤ y307.toInt := q_leI f305; have t2 : y307.toInt ≤ 801 := q_leI f306; omega)) (by decide) (by have t1 : 2 ≤ y307.toInt := q_leI f305; have t2 : y307.toInt ≤ 801 := q_leI f306; omega) (by have t1 : 2 ≤ y307.toInt := q_leI f305; have t2 : y307.toInt ≤ 801 := q_leI f306; omega)) (by have t1 : 2 ≤ y307.toInt := q_leI f305; have t2 : y307.toInt ≤ 801 := q_leI f306; omega)) (q_Ile (x := ((((y307.toInt + 1) + 1) + 1) + 1)) (y := 1082) (q_addI (x := (((y307.toInt + 1) + 1) + 1)) (y := 1) (q_addI (x := ((y307.toInt + 1) + 1)) (y := 1) (q_addI (x := (y307.toInt + 1)) (y := 1) (q_addI (x := y307.toInt) (y := 1) rfl (by decide) (by have t1 : 2 ≤ y307.toInt := q_leI f305; have t2 : y307.toInt ≤ 801 := q_leI f306; omega) (by have t1 : 2 ≤ y307.toInt := q_leI f305; have t2 : y307.toInt ≤ 801 := q_leI f306; omega)) (by decide) (by have t1 : 2 ≤ y307.toInt := q_leI f305; have t2 : y307.toInt ≤ 801 := q_leI f306; omega) (by have t1 : 2 ≤ y307.toInt := q_leI f305; have t2 : y307.toInt ≤ 801 := q_leI f306; omega)) (by decide) (by have t1 : 2 ≤ y307.toInt := q_leI f305; have t2 : y307.toInt ≤ 801 := q_leI f306; omega) (by have t1 : 2 ≤ y307.toInt := q_leI f305; have t2 : y307.toInt ≤ 801 := q_leI f306; omega)) (by decide) (by have t1 : 2 ≤ y307.toInt := q_leI f305; have t2 : y307.toInt ≤ 801 := q_leI f306; omega) (by have t1 : 2 ≤ y307.toInt := q_leI f305; have t2 : y307.toInt ≤ 801 := q_leI f306; omega)) (by decide) (by have t1 : 2 ≤ y307.toInt := q_leI f305; have t2 : y307.toInt ≤ 801 := q_leI f306; omega)) _) rfl rfl hO0 rfl hl.1 rfl (Nat.le_of_ble_eq_true rfl) ⟨by decide, by decide⟩ ⟨Nat.le_of_ble_eq_true rfl, Nat.le_of_ble_eq_true rfl⟩ d_14_34_126) (fun v338 u337 H locs hp336 V => ?_)
            obtain ⟨y339, rfl, hg340, hO0, hA2⟩ := hp336
            replace hF := q_gc hF hg340 (q_al (Nat.le_of_ble_eq_true rfl) (q_al (Nat.le_of_ble_eq_true rfl) (fun _ h => absurd h List.not_mem_nil)))
            exact q_reti C0 V (⟨0, 0, ((((y307 + 1) + 1) + 1) + 1), hO0, (show ((0 : Int32).toInt = 0 ∧ ((2 ≤ x1.toInt ∧ x1.toInt ≤ 3) ∧ (0 ≤ x2.toInt ∧ x2.toInt ≤ 9) ∧ (0 ≤ x5.toInt ∧ x5.toInt ≤ 3) ∧ (x3.toInt ≠ 0 → (1 ≤ x4.toInt ∧ x4.toInt ≤ 800)) ∧ (x3.toInt = 0 → (0 ≤ x4.toInt ∧ x4.toInt ≤ 1100))) ∧ ((x3.toInt ≠ 0 ∧ x4.toInt = 1 ∧ (((((y307 + 1) + 1) + 1) + 1) : Int32).toInt = 5) ∨ (x3.toInt ≠ 0 ∧ 1 < x4.toInt ∧ (((((y307 + 1) + 1) + 1) + 1) : Int32).toInt = x4.toInt + 5) ∨ (x3.toInt = 0 ∧ x4.toInt = 0 ∧ (((((y307 + 1) + 1) + 1) + 1) : Int32).toInt = 1) ∨ (x3.toInt = 0 ∧ 0 < x4.toInt ∧ (((((y307 + 1) + 1) + 1) + 1) : Int32).toInt = x4.toInt + 2))) ∨ ((0 : Int32).toInt = 1 ∧ ¬ ((2 ≤ x1.toInt ∧ x1.toInt ≤ 3) ∧ (0 ≤ x2.toInt ∧ x2.toInt ≤ 9) ∧ (0 ≤ x5.toInt ∧ x5.toInt ≤ 3) ∧ (x3.toInt ≠ 0 → (1 ≤ x4.toInt ∧ x4.toInt ≤ 800)) ∧ (x3.toInt = 0 → (0 ≤ x4.toInt ∧ x4.toInt ≤ 1100)))) from by have t1 : 2 ≤ x1.toInt := q_nltI c1; have t2 : 0 ≤ x1.toInt := q_nltI c17; have t3 : x1.toInt ≤ 3 := q_nltI c18; have t4 : 0 ≤ x2.toInt := q_nltI c19; have t5 : x2.toInt ≤ 9 := q_leI c20; have t6 : x3.toInt ≠ 0 := q_neI c43; have t7 : x1.toInt = 3 := q_eqI c215; have t8 : 1 ≤ x4.toInt := q_nltI c299; have t9 : x4.toInt ≤ 800 := q_nltI c300; have t10 : 0 ≤ x5.toInt := q_nltI c301; have t11 : x5.toInt ≤ 3 := q_leI c302; have t12 : 1 < x4.toInt := q_nleI c303; have t13 : 2 ≤ y307.toInt := q_leI f305; have t14 : y307.toInt ≤ 801 := q_leI f306; have e0 : (0 : Int32).toInt = 0 := (by decide); have e1 : (((((y307 + 1) + 1) + 1) + 1) : Int32).toInt = ((((y307.toInt + 1) + 1) + 1) + 1) := (q_addI (x := (((y307.toInt + 1) + 1) + 1)) (y := 1) (q_addI (x := ((y307.toInt + 1) + 1)) (y := 1) (q_addI (x := (y307.toInt + 1)) (y := 1) (q_addI (x := y307.toInt) (y := 1) rfl (by decide) (by have t1 : 2 ≤ y307.toInt := q_leI f305; have t2 : y307.toInt ≤ 801 := q_leI f306; omega) (by have t1 : 2 ≤ y307.toInt := q_leI f305; have t2 : y307.toInt ≤ 801 := q_leI f306; omega)) (by decide) (by have t1 : 2 ≤ y307.toInt := q_leI f305; have t2 : y307.toInt ≤ 801 := q_leI f306; omega) (by have t1 : 2 ≤ y307.toInt := q_leI f305; have t2 : y307.toInt ≤ 801 := q_leI f306; omega)) (by decide) (by have t1 : 2 ≤ y307.toInt := q_leI f305; have t2 : y307.toInt ≤ 801 := q_leI f306; omega) (by have t1 : 2 ≤ y307.toInt := q_leI f305; have t2 : y307.toInt ≤ 801 := q_leI f306; omega)) (by decide) (by have t1 : 2 ≤ y307.toInt := q_leI f305; have t2 : y307.toInt ≤ 801 := q_leI f306; omega) (by have t1 : 2 ≤ y307.toInt := q_leI f305; have t2 : y307.toInt ≤ 801 := q_leI f306; omega)); omega), hF⟩) d_14_34_129
          ·
            replace hF := q_gc hF hg315 (q_al (Nat.le_of_ble_eq_true rfl) (q_al (Nat.le_of_ble_eq_true rfl) (q_al (Nat.le_of_ble_eq_true rfl) (q_al (Nat.le_of_ble_eq_true rfl) (q_al (Nat.le_of_ble_eq_true rfl) (q_al (Nat.le_of_ble_eq_true rfl) (fun _ h => absurd h List.not_mem_nil)))))))
            refine lv_goto (tgt := 92) hx hb d_14_34_66 (by decide) ?_
            refine lv_istore (lv' := [(8, .int 0), (6, .long 0), (0, .ref qO0), (1, .int x1), (2, .int x2), (3, .int x3), (4, .int x4), (5, .int x5)]) hx hb d_14_34_92 hl (by decide) rfl (fun ls hl => ?_)
            refine lv_aload_n hx hb d_14_34_94 rfl (lv_at hl 2 rfl) ?_
            refine lv_aload_n hx hb d_14_34_95 rfl (lv_at hl 2 rfl) ?_
            replace hO0 := (hg315 _ (q_nc (q_pd 116 145 rfl) (q_nc (q_pd 116 146 rfl) (q_nc (q_pd 116 147 rfl) (q_nc (q_pd 116 148 rfl) (q_nc (q_pd 116 151 rfl) (q_nc (q_pd 116 152 rfl) List.not_mem_nil))))))).trans (hO0)
            refine q_get (ci := 12) (j := 7) (v := .ref qO5) C0 V i_NM rfl rfl hO0 (by decide) w_2305 rfl d_14_34_96 ?_
            refine q_getN (ci := 15) (j := 0) (v := .int 1) C0 V i_FR rfl rfl hO5 (by decide) wo_2075 rfl d_14_34_99 ?_
            refine q_put (ci := 12) (j := 0) (v := .int 1) (ty := .int) C0 V i_NM o_NM n_NM rfl rfl hO0 (by decide) w_2298 rfl rfl rfl rfl (Nat.le_of_ble_eq_true rfl) d_14_34_102 (fun H locs w341 hu342 hO0 V => ?_)
            replace hO0 : w341[116]? = (some (qO0, .inr (12, [.int 1, .ref qA1, .int 0, .ref qA2, .int 0, .ref qO3, .ref qO4, .ref qO5, .ref qO6, .ref qO7, .ref qA8, .ref qA9])) : Option (Nat × va_E)) := hO0
            replace hF := q_gs hF hu342 (Nat.le_of_ble_eq_true rfl)
            refine lv_aload_n hx hb d_14_34_105 rfl (lv_at hl 2 rfl) ?_
            refine q_get (ci := 12) (j := 0) (v := .int 1) C0 V i_NM rfl rfl hO0 (by decide) w_2298 rfl d_14_34_106 ?_
            refine lv_if_le (tgt := 116) hx hb d_14_34_109 (by decide) (fun c343 => absurd c343 (by decide)) (fun c343 => ?_)
            refine lv_iconst (v := 0) hx hb d_14_34_112 (by decide) ?_
            refine lv_goto (tgt := 129) hx hb d_14_34_113 (by decide) ?_
            exact q_reti C0 V (⟨1, 0, 0, hO0, (show ((1 : Int32).toInt = 0 ∧ ((2 ≤ x1.toInt ∧ x1.toInt ≤ 3) ∧ (0 ≤ x2.toInt ∧ x2.toInt ≤ 9) ∧ (0 ≤ x5.toInt ∧ x5.toInt ≤ 3) ∧ (x3.toInt ≠ 0 → (1 ≤ x4.toInt ∧ x4.toInt ≤ 800)) ∧ (x3.toInt = 0 → (0 ≤ x4.toInt ∧ x4.toInt ≤ 1100))) ∧ ((x3.toInt ≠ 0 ∧ x4.toInt = 1 ∧ (0 : Int32).toInt = 5) ∨ (x3.toInt ≠ 0 ∧ 1 < x4.toInt ∧ (0 : Int32).toInt = x4.toInt + 5) ∨ (x3.toInt = 0 ∧ x4.toInt = 0 ∧ (0 : Int32).toInt = 1) ∨ (x3.toInt = 0 ∧ 0 < x4.toInt ∧ (0 : Int32).toInt = x4.toInt + 2))) ∨ ((1 : Int32).toInt = 1 ∧ ¬ ((2 ≤ x1.toInt ∧ x1.toInt ≤ 3) ∧ (0 ≤ x2.toInt ∧ x2.toInt ≤ 9) ∧ (0 ≤ x5.toInt ∧ x5.toInt ≤ 3) ∧ (x3.toInt ≠ 0 → (1 ≤ x4.toInt ∧ x4.toInt ≤ 800)) ∧ (x3.toInt = 0 → (0 ≤ x4.toInt ∧ x4.toInt ≤ 1100)))) from by have t1 : 2 ≤ x1.toInt := q_nltI c1; have t2 : 0 ≤ x1.toInt := q_nltI c17; have t3 : x1.toInt ≤ 3 := q_nltI c18; have t4 : 0 ≤ x2.toInt := q_nltI c19; have t5 : x2.toInt ≤ 9 := q_leI c20; have t6 : x3.toInt ≠ 0 := q_neI c43; have t7 : x1.toInt = 3 := q_eqI c215; have t8 : 1 ≤ x4.toInt := q_nltI c311; have t9 : x4.toInt ≤ 800 := q_nltI c312; have t10 : 0 ≤ x5.toInt := q_nltI c313; have t11 : 3 < x5.toInt := q_nleI c314; have e0 : (1 : Int32).toInt = 1 := (by decide); have e1 : (0 : Int32).toInt = 0 := (by decide); omega), hF⟩) d_14_34_129
    ·
      refine lv_if_eq (tgt := 18) hx hb d_14_34_11 (by decide) (fun c344 => absurd c344 (by decide)) (fun c344 => ?_)
      refine lv_iconst (v := 1) hx hb d_14_34_14 (by decide) ?_
      refine lv_goto (tgt := 19) hx hb d_14_34_15 (by decide) ?_
      refine q_put (ci := 12) (j := 0) (v := .int 1) (ty := .int) C0 V i_NM o_NM n_NM rfl rfl hO0 (by decide) w_2298 rfl rfl rfl rfl (Nat.le_of_ble_eq_true rfl) d_14_34_19 (fun H locs w345 hu346 hO0 V => ?_)
      replace hO0 : w345[116]? = (some (qO0, .inr (12, [.int 1, .ref qA1, .int 0, .ref qA2, .int 0, .ref qO3, .ref qO4, .ref qO5, .ref qO6, .ref qO7, .ref qA8, .ref qA9])) : Option (Nat × va_E)) := hO0
      replace hF := q_gs hF hu346 (Nat.le_of_ble_eq_true rfl)
      refine lv_aload_n hx hb d_14_34_22 rfl (lv_at hl 0 rfl) ?_
      refine q_get (ci := 12) (j := 0) (v := .int 1) C0 V i_NM rfl rfl hO0 (by decide) w_2298 rfl d_14_34_23 ?_
      refine lv_if_le (tgt := 31) hx hb d_14_34_26 (by decide) (fun c347 => absurd c347 (by decide)) (fun c347 => ?_)
      refine lv_iconst (v := 0) hx hb d_14_34_29 (by decide) ?_
      exact q_reti C0 V (⟨1, 0, 0, hO0, (show ((1 : Int32).toInt = 0 ∧ ((2 ≤ x1.toInt ∧ x1.toInt ≤ 3) ∧ (0 ≤ x2.toInt ∧ x2.toInt ≤ 9) ∧ (0 ≤ x5.toInt ∧ x5.toInt ≤ 3) ∧ (x3.toInt ≠ 0 → (1 ≤ x4.toInt ∧ x4.toInt ≤ 800)) ∧ (x3.toInt = 0 → (0 ≤ x4.toInt ∧ x4.toInt ≤ 1100))) ∧ ((x3.toInt ≠ 0 ∧ x4.toInt = 1 ∧ (0 : Int32).toInt = 5) ∨ (x3.toInt ≠ 0 ∧ 1 < x4.toInt ∧ (0 : Int32).toInt = x4.toInt + 5) ∨ (x3.toInt = 0 ∧ x4.toInt = 0 ∧ (0 : Int32).toInt = 1) ∨ (x3.toInt = 0 ∧ 0 < x4.toInt ∧ (0 : Int32).toInt = x4.toInt + 2))) ∨ ((1 : Int32).toInt = 1 ∧ ¬ ((2 ≤ x1.toInt ∧ x1.toInt ≤ 3) ∧ (0 ≤ x2.toInt ∧ x2.toInt ≤ 9) ∧ (0 ≤ x5.toInt ∧ x5.toInt ≤ 3) ∧ (x3.toInt ≠ 0 → (1 ≤ x4.toInt ∧ x4.toInt ≤ 800)) ∧ (x3.toInt = 0 → (0 ≤ x4.toInt ∧ x4.toInt ≤ 1100)))) from by have t1 : 2 ≤ x1.toInt := q_nltI c1; have t2 : 0 ≤ x1.toInt := q_nltI c22; have t3 : x1.toInt ≤ 3 := q_nltI c23; have t4 : 0 ≤ x2.toInt := q_nltI c24; have t5 : 9 < x2.toInt := q_nleI c25; have e0 : (1 : Int32).toInt = 1 := (by decide); have e1 : (0 : Int32).toInt = 0 := (by decide); omega), hF⟩) d_14_34_30
