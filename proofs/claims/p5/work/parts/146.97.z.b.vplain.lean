/-! DirectiveRows: plain, exponential, fixed, general, decimal -/
def Q_VR_plain (x2 t0_17 : Int32) (p : Int32 × (Nat → Int32)) : Prop := t0_17.toInt ≤ p.1.toInt ∧ p.1.toInt ≤ t0_17.toInt + 140 + x2.toInt
theorem vv_p2 {K_F_VR_plain_L21 : Int32 → Int32 → (Nat → Int32) → (Int32 × (Nat → Int32))} {x2 : Int32} {t0_0 : Int32} {t0_1 : Int32} {t0_2 : Int32} {t0_3 : Int32} {t0_4 : Int32} {t0_5 : Int32} {t0_6 : Int32} {t0_7 : Int32} {t0_8 : Int32} {t0_9 : Int32} {t0_10 : Int32} {t0_11 : Int32} {t0_12 : Int32} {t0_13 : Int32} {t0_14 : Int32} {t0_15 : Int32} {t0_16 : Int32} {t0_17 : Int32} {t0_18 : Int32} {t0_19 : Int32} {t0_20 : Int32} {t0_21 : Int32} {t1_0 : (Nat → Int32)} {t2_0 : (Nat → Int32)} {lx35 : Int32} {lx46 : Int32} {lx47 : Int32} {lx48 : (Nat → Int32)} {lx63 : Int32} {lx64 : (Nat → Int32)} {K_S_VR_plain_L21 : Int32 → Int32 → (Nat → Int32) → Prop} (h20 : 0 ≤ t0_20.toInt ∧ t0_20.toInt ≤ 60) (h21 : -20000 ≤ t0_21.toInt ∧ t0_21.toInt ≤ 64) (hL : 0 ≤ t0_17.toInt ∧ t0_17.toInt ≤ 200)(hx2 : 0 ≤ x2.toInt ∧ x2.toInt ≤ 10200) : ∀ (n : Nat) (lx76 : Int32) (lx77 : Int32) (lx78 : (Nat → Int32)), (0 ≤ lx76.toInt ∧ lx76.toInt ≤ x2.toInt) → (x2.toInt - lx76.toInt < (n : Int)) → (t0_17.toInt ≤ lx77.toInt ∧ lx77.toInt ≤ t0_17.toInt + 135 + lx76.toInt) → (S_VR_plain_L103 K_S_VR_plain_L21 x2 t0_0 t0_1 t0_2 t0_3 t0_4 t0_5 t0_6 t0_7 t0_8 t0_9 t0_10 t0_11 t0_12 t0_13 t0_14 t0_15 t0_16 t0_17 t0_18 t0_19 t0_20 t0_21 t1_0 t2_0 lx35 lx46 lx47 lx48 lx63 lx64 n lx76 lx77 lx78) ∧ Q_VR_plain x2 t0_17 (F_VR_plain_L103 K_F_VR_plain_L21 x2 t0_0 t0_1 t0_2 t0_3 t0_4 t0_5 t0_6 t0_7 t0_8 t0_9 t0_10 t0_11 t0_12 t0_13 t0_14 t0_15 t0_16 t0_17 t0_18 t0_19 t0_20 t0_21 t1_0 t2_0 lx35 lx46 lx47 lx48 lx63 lx64 n lx76 lx77 lx78) := by
  intro n
  induction n with
  | zero => intro lx76 lx77 lx78 h0 hm hs; exact absurd (show False by omega) id
  | succ n ih =>
    intro lx76 lx77 lx78 h0 hm hs
    have e0 : (0 : Int32).toInt = 0 := rfl
    have e1 : (1 : Int32).toInt = 1 := rfl
    have eL0 : (0 : Int64).toInt = 0 := rfl
    have em : (-1 : Int32).toInt = -1 := rfl
    rw [S_VR_plain_L103.eq_2, F_VR_plain_L103.eq_2]
    by_cases g1 : x2 ≤ lx76
    ·
      rw [if_pos g1, if_pos g1]
      have g1i : x2.toInt ≤ lx76.toInt := q_leI g1
      refine ⟨trivial, ?_⟩
      (unfold Q_VR_plain; dsimp only; exact ⟨by omega, by omega⟩)
    ·
      rw [if_neg g1, if_neg g1]
      have g1i : lx76.toInt < x2.toInt := q_nleI g1
      have h2 := T_VR_figureAt (x2 := (t0_21 + lx76 : Int32)) (t0_0 := t0_0) (t0_1 := t0_1) (t0_2 := t0_2) (t0_3 := t0_3) (t0_4 := t0_4) (t0_5 := t0_5) (t0_6 := t0_6) (t0_7 := t0_7) (t0_8 := t0_8) (t0_9 := t0_9) (t0_10 := t0_10) (t0_11 := t0_11) (t0_12 := t0_12) (t0_13 := t0_13) (t0_14 := t0_14) (t0_15 := t0_15) (t0_16 := t0_16) (t0_17 := lx77) (t0_18 := t0_18) (t0_19 := t0_19) (t0_20 := t0_20) (t0_21 := t0_21) (t1_0 := t2_0) (by omega)
      with_reducible refine v_owe h2 ?_
      have h3 := T_VR_put (x2 := (48 + ((F_VR_figureAt (t0_21 + lx76 : Int32) t0_0 t0_1 t0_2 t0_3 t0_4 t0_5 t0_6 t0_7 t0_8 t0_9 t0_10 t0_11 t0_12 t0_13 t0_14 t0_15 t0_16 lx77 t0_18 t0_19 t0_20 t0_21 t2_0) : Int32) : Int32)) (t0_0 := t0_0) (t0_1 := t0_1) (t0_2 := t0_2) (t0_3 := t0_3) (t0_4 := t0_4) (t0_5 := t0_5) (t0_6 := t0_6) (t0_7 := t0_7) (t0_8 := t0_8) (t0_9 := t0_9) (t0_10 := t0_10) (t0_11 := t0_11) (t0_12 := t0_12) (t0_13 := t0_13) (t0_14 := t0_14) (t0_15 := t0_15) (t0_16 := t0_16) (t0_17 := lx77) (t0_18 := t0_18) (t0_19 := t0_19) (t0_20 := t0_20) (t0_21 := t0_21) (t1_0 := lx78) ⟨by first | omega | decide, by first | omega | decide⟩
      with_reducible refine v_owe h3.1 ?_
      replace h3 := h3.2
      generalize F_VR_put (48 + ((F_VR_figureAt (t0_21 + lx76 : Int32) t0_0 t0_1 t0_2 t0_3 t0_4 t0_5 t0_6 t0_7 t0_8 t0_9 t0_10 t0_11 t0_12 t0_13 t0_14 t0_15 t0_16 lx77 t0_18 t0_19 t0_20 t0_21 t2_0) : Int32) : Int32) t0_0 t0_1 t0_2 t0_3 t0_4 t0_5 t0_6 t0_7 t0_8 t0_9 t0_10 t0_11 t0_12 t0_13 t0_14 t0_15 t0_16 lx77 t0_18 t0_19 t0_20 t0_21 lx78 = p118 at *
      unfold Q_VR_put at h3
      unfold S_VR_plain_c122 F_VR_plain_c122
      obtain ⟨a4, e5⟩ := q_nm (lx76 + 1 : Int32)
      rw [e5]
      have a4i : a4.toInt = lx76.toInt + 1 := by rw [← e5]; exact q_addI (x := lx76.toInt) (y := 1) rfl (by decide) (by omega) (by omega)
      exact ih _ _ _ ⟨by omega, by omega⟩ (by omega) ⟨by omega, by omega⟩
theorem vv_p1 {x2 : Int32} {t0_0 : Int32} {t0_1 : Int32} {t0_2 : Int32} {t0_3 : Int32} {t0_4 : Int32} {t0_5 : Int32} {t0_6 : Int32} {t0_7 : Int32} {t0_8 : Int32} {t0_9 : Int32} {t0_10 : Int32} {t0_11 : Int32} {t0_12 : Int32} {t0_13 : Int32} {t0_14 : Int32} {t0_15 : Int32} {t0_16 : Int32} {t0_17 : Int32} {t0_18 : Int32} {t0_19 : Int32} {t0_20 : Int32} {t0_21 : Int32} {t1_0 : (Nat → Int32)} {t2_0 : (Nat → Int32)} {lx35 : Int32} (h20 : 0 ≤ t0_20.toInt ∧ t0_20.toInt ≤ 60) (h21 : -20000 ≤ t0_21.toInt ∧ t0_21.toInt ≤ 64) (hL : 0 ≤ t0_17.toInt ∧ t0_17.toInt ≤ 200)(hx2 : 0 ≤ x2.toInt ∧ x2.toInt ≤ 10200)(h35 : (lx35.toInt = 0 ∧ 1 ≤ t0_21.toInt) ∨ (lx35.toInt = t0_21.toInt - 1 ∧ t0_21.toInt < 1)) : ∀ (n : Nat) (lx46 : Int32) (lx47 : Int32) (lx48 : (Nat → Int32)), (lx35.toInt ≤ lx46.toInt ∧ lx46.toInt ≤ t0_21.toInt) → (t0_21.toInt - lx46.toInt < (n : Int)) → (t0_17.toInt ≤ lx47.toInt ∧ lx47.toInt ≤ t0_17.toInt + 2 * (lx46.toInt - lx35.toInt)) → (S_VR_plain_L21 x2 t0_0 t0_1 t0_2 t0_3 t0_4 t0_5 t0_6 t0_7 t0_8 t0_9 t0_10 t0_11 t0_12 t0_13 t0_14 t0_15 t0_16 t0_17 t0_18 t0_19 t0_20 t0_21 t1_0 t2_0 lx35 n lx46 lx47 lx48) ∧ Q_VR_plain x2 t0_17 (F_VR_plain_L21 x2 t0_0 t0_1 t0_2 t0_3 t0_4 t0_5 t0_6 t0_7 t0_8 t0_9 t0_10 t0_11 t0_12 t0_13 t0_14 t0_15 t0_16 t0_17 t0_18 t0_19 t0_20 t0_21 t1_0 t2_0 lx35 n lx46 lx47 lx48) := by
  intro n
  induction n with
  | zero => intro lx46 lx47 lx48 h0 hm hs; exact absurd (show False by omega) id
  | succ n ih =>
    intro lx46 lx47 lx48 h0 hm hs
    have e0 : (0 : Int32).toInt = 0 := rfl
    have e1 : (1 : Int32).toInt = 1 := rfl
    have eL0 : (0 : Int64).toInt = 0 := rfl
    have em : (-1 : Int32).toInt = -1 := rfl
    rw [S_VR_plain_L21.eq_2, F_VR_plain_L21.eq_2]
    by_cases g1 : t0_21 ≤ lx46
    ·
      rw [if_pos g1, if_pos g1]
      have g1i : t0_21.toInt ≤ lx46.toInt := q_leI g1
      by_cases g2 : (0 : Int32) < x2
      ·
        rw [if_pos g2, if_pos g2]
        have g2i : 0 < x2.toInt := q_ltI g2
        unfold S_VR_plain_J95 F_VR_plain_J95
        have h3 := T_VR_put (x2 := (46 : Int32)) (t0_0 := t0_0) (t0_1 := t0_1) (t0_2 := t0_2) (t0_3 := t0_3) (t0_4 := t0_4) (t0_5 := t0_5) (t0_6 := t0_6) (t0_7 := t0_7) (t0_8 := t0_8) (t0_9 := t0_9) (t0_10 := t0_10) (t0_11 := t0_11) (t0_12 := t0_12) (t0_13 := t0_13) (t0_14 := t0_14) (t0_15 := t0_15) (t0_16 := t0_16) (t0_17 := lx47) (t0_18 := t0_18) (t0_19 := t0_19) (t0_20 := t0_20) (t0_21 := t0_21) (t1_0 := lx48) ⟨by first | omega | decide, by first | omega | decide⟩
        with_reducible refine v_owe h3.1 ?_
        replace h3 := h3.2
        generalize F_VR_put (46 : Int32) t0_0 t0_1 t0_2 t0_3 t0_4 t0_5 t0_6 t0_7 t0_8 t0_9 t0_10 t0_11 t0_12 t0_13 t0_14 t0_15 t0_16 lx47 t0_18 t0_19 t0_20 t0_21 lx48 = p152 at *
        unfold Q_VR_put at h3
        unfold S_VR_plain_c98 F_VR_plain_c98
        unfold S_VR_plain_J101 F_VR_plain_J101
        exact vv_p2 h20 h21 hL hx2 _ _ _ _ ⟨by decide, by omega⟩ (by omega) ⟨by omega, by omega⟩
      ·
        rw [if_neg g2, if_neg g2]
        have g2i : x2.toInt ≤ 0 := q_nltI g2
        by_cases g4 : ((F_VR_has (35 : Int32) t0_0 t0_1 t0_2 t0_3 t0_4 t0_5 t0_6 t0_7 t0_8 t0_9 t0_10 t0_11 t0_12 t0_13 t0_14 t0_15 t0_16 lx47 t0_18 t0_19 t0_20 t0_21) : Int32) = (0 : Int32)
        ·
          rw [if_pos g4, if_pos g4]
          unfold S_VR_plain_J101 F_VR_plain_J101
          exact vv_p2 h20 h21 hL hx2 _ _ _ _ ⟨by decide, by omega⟩ (by omega) ⟨by omega, by omega⟩
        ·
          rw [if_neg g4, if_neg g4]
          unfold S_VR_plain_J95 F_VR_plain_J95
          have h5 := T_VR_put (x2 := (46 : Int32)) (t0_0 := t0_0) (t0_1 := t0_1) (t0_2 := t0_2) (t0_3 := t0_3) (t0_4 := t0_4) (t0_5 := t0_5) (t0_6 := t0_6) (t0_7 := t0_7) (t0_8 := t0_8) (t0_9 := t0_9) (t0_10 := t0_10) (t0_11 := t0_11) (t0_12 := t0_12) (t0_13 := t0_13) (t0_14 := t0_14) (t0_15 := t0_15) (t0_16 := t0_16) (t0_17 := lx47) (t0_18 := t0_18) (t0_19 := t0_19) (t0_20 := t0_20) (t0_21 := t0_21) (t1_0 := lx48) ⟨by first | omega | decide, by first | omega | decide⟩
          with_reducible refine v_owe h5.1 ?_
          replace h5 := h5.2
          generalize F_VR_put (46 : Int32) t0_0 t0_1 t0_2 t0_3 t0_4 t0_5 t0_6 t0_7 t0_8 t0_9 t0_10 t0_11 t0_12 t0_13 t0_14 t0_15 t0_16 lx47 t0_18 t0_19 t0_20 t0_21 lx48 = p152 at *
          unfold Q_VR_put at h5
          unfold S_VR_plain_c98 F_VR_plain_c98
          unfold S_VR_plain_J101 F_VR_plain_J101
          exact vv_p2 h20 h21 hL hx2 _ _ _ _ ⟨by decide, by omega⟩ (by omega) ⟨by omega, by omega⟩
    ·
      rw [if_neg g1, if_neg g1]
      have g1i : lx46.toInt < t0_21.toInt := q_nleI g1
      by_cases g6 : ((F_VR_has (44 : Int32) t0_0 t0_1 t0_2 t0_3 t0_4 t0_5 t0_6 t0_7 t0_8 t0_9 t0_10 t0_11 t0_12 t0_13 t0_14 t0_15 t0_16 lx47 t0_18 t0_19 t0_20 t0_21) : Int32) = (0 : Int32)
      ·
        rw [if_pos g6, if_pos g6]
        have h7 := T_VR_figureAt (x2 := lx46) (t0_0 := t0_0) (t0_1 := t0_1) (t0_2 := t0_2) (t0_3 := t0_3) (t0_4 := t0_4) (t0_5 := t0_5) (t0_6 := t0_6) (t0_7 := t0_7) (t0_8 := t0_8) (t0_9 := t0_9) (t0_10 := t0_10) (t0_11 := t0_11) (t0_12 := t0_12) (t0_13 := t0_13) (t0_14 := t0_14) (t0_15 := t0_15) (t0_16 := t0_16) (t0_17 := lx47) (t0_18 := t0_18) (t0_19 := t0_19) (t0_20 := t0_20) (t0_21 := t0_21) (t1_0 := t2_0) (by omega)
        with_reducible refine v_owe h7 ?_
        have h8 := T_VR_put (x2 := (48 + ((F_VR_figureAt lx46 t0_0 t0_1 t0_2 t0_3 t0_4 t0_5 t0_6 t0_7 t0_8 t0_9 t0_10 t0_11 t0_12 t0_13 t0_14 t0_15 t0_16 lx47 t0_18 t0_19 t0_20 t0_21 t2_0) : Int32) : Int32)) (t0_0 := t0_0) (t0_1 := t0_1) (t0_2 := t0_2) (t0_3 := t0_3) (t0_4 := t0_4) (t0_5 := t0_5) (t0_6 := t0_6) (t0_7 := t0_7) (t0_8 := t0_8) (t0_9 := t0_9) (t0_10 := t0_10) (t0_11 := t0_11) (t0_12 := t0_12) (t0_13 := t0_13) (t0_14 := t0_14) (t0_15 := t0_15) (t0_16 := t0_16) (t0_17 := lx47) (t0_18 := t0_18) (t0_19 := t0_19) (t0_20 := t0_20) (t0_21 := t0_21) (t1_0 := lx48) ⟨by first | omega | decide, by first | omega | decide⟩
        with_reducible refine v_owe h8.1 ?_
        replace h8 := h8.2
        generalize F_VR_put (48 + ((F_VR_figureAt lx46 t0_0 t0_1 t0_2 t0_3 t0_4 t0_5 t0_6 t0_7 t0_8 t0_9 t0_10 t0_11 t0_12 t0_13 t0_14 t0_15 t0_16 lx47 t0_18 t0_19 t0_20 t0_21 t2_0) : Int32) : Int32) t0_0 t0_1 t0_2 t0_3 t0_4 t0_5 t0_6 t0_7 t0_8 t0_9 t0_10 t0_11 t0_12 t0_13 t0_14 t0_15 t0_16 lx47 t0_18 t0_19 t0_20 t0_21 lx48 = p207 at *
        unfold Q_VR_put at h8
        unfold S_VR_plain_c73 F_VR_plain_c73
        obtain ⟨a9, e10⟩ := q_nm (lx46 + 1 : Int32)
        rw [e10]
        have a9i : a9.toInt = lx46.toInt + 1 := by rw [← e10]; exact q_addI (x := lx46.toInt) (y := 1) rfl (by decide) (by omega) (by omega)
        exact ih _ _ _ ⟨by omega, by omega⟩ (by omega) ⟨by omega, by omega⟩
      ·
        rw [if_neg g6, if_neg g6]
        by_cases g11 : lx46 ≤ lx35
        ·
          rw [if_pos g11, if_pos g11]
          have g11i : lx46.toInt ≤ lx35.toInt := q_leI g11
          have h12 := T_VR_figureAt (x2 := lx46) (t0_0 := t0_0) (t0_1 := t0_1) (t0_2 := t0_2) (t0_3 := t0_3) (t0_4 := t0_4) (t0_5 := t0_5) (t0_6 := t0_6) (t0_7 := t0_7) (t0_8 := t0_8) (t0_9 := t0_9) (t0_10 := t0_10) (t0_11 := t0_11) (t0_12 := t0_12) (t0_13 := t0_13) (t0_14 := t0_14) (t0_15 := t0_15) (t0_16 := t0_16) (t0_17 := lx47) (t0_18 := t0_18) (t0_19 := t0_19) (t0_20 := t0_20) (t0_21 := t0_21) (t1_0 := t2_0) (by omega)
          with_reducible refine v_owe h12 ?_
          have h13 := T_VR_put (x2 := (48 + ((F_VR_figureAt lx46 t0_0 t0_1 t0_2 t0_3 t0_4 t0_5 t0_6 t0_7 t0_8 t0_9 t0_10 t0_11 t0_12 t0_13 t0_14 t0_15 t0_16 lx47 t0_18 t0_19 t0_20 t0_21 t2_0) : Int32) : Int32)) (t0_0 := t0_0) (t0_1 := t0_1) (t0_2 := t0_2) (t0_3 := t0_3) (t0_4 := t0_4) (t0_5 := t0_5) (t0_6 := t0_6) (t0_7 := t0_7) (t0_8 := t0_8) (t0_9 := t0_9) (t0_10 := t0_10) (t0_11 := t0_11) (t0_12 := t0_12) (t0_13 := t0_13) (t0_14 := t0_14) (t0_15 := t0_15) (t0_16 := t0_16) (t0_17 := lx47) (t0_18 := t0_18) (t0_19 := t0_19) (t0_20 := t0_20) (t0_21 := t0_21) (t1_0 := lx48) ⟨by first | omega | decide, by first | omega | decide⟩
          with_reducible refine v_owe h13.1 ?_
          replace h13 := h13.2
          generalize F_VR_put (48 + ((F_VR_figureAt lx46 t0_0 t0_1 t0_2 t0_3 t0_4 t0_5 t0_6 t0_7 t0_8 t0_9 t0_10 t0_11 t0_12 t0_13 t0_14 t0_15 t0_16 lx47 t0_18 t0_19 t0_20 t0_21 t2_0) : Int32) : Int32) t0_0 t0_1 t0_2 t0_3 t0_4 t0_5 t0_6 t0_7 t0_8 t0_9 t0_10 t0_11 t0_12 t0_13 t0_14 t0_15 t0_16 lx47 t0_18 t0_19 t0_20 t0_21 lx48 = p243 at *
          unfold Q_VR_put at h13
          unfold S_VR_plain_c73_9 F_VR_plain_c73_9
          obtain ⟨a14, e15⟩ := q_nm (lx46 + 1 : Int32)
          rw [e15]
          have a14i : a14.toInt = lx46.toInt + 1 := by rw [← e15]; exact q_addI (x := lx46.toInt) (y := 1) rfl (by decide) (by omega) (by omega)
          exact ih _ _ _ ⟨by omega, by omega⟩ (by omega) ⟨by omega, by omega⟩
        ·
          rw [if_neg g11, if_neg g11]
          have g11i : lx35.toInt < lx46.toInt := q_nleI g11
          by_cases g16 : ((t0_21 - lx46 : Int32) - (t0_21 - lx46 : Int32) / 3 * 3 : Int32) = (0 : Int32)
          ·
            rw [if_pos g16, if_pos g16]
            have h17 := T_VR_put (x2 := (44 : Int32)) (t0_0 := t0_0) (t0_1 := t0_1) (t0_2 := t0_2) (t0_3 := t0_3) (t0_4 := t0_4) (t0_5 := t0_5) (t0_6 := t0_6) (t0_7 := t0_7) (t0_8 := t0_8) (t0_9 := t0_9) (t0_10 := t0_10) (t0_11 := t0_11) (t0_12 := t0_12) (t0_13 := t0_13) (t0_14 := t0_14) (t0_15 := t0_15) (t0_16 := t0_16) (t0_17 := lx47) (t0_18 := t0_18) (t0_19 := t0_19) (t0_20 := t0_20) (t0_21 := t0_21) (t1_0 := lx48) ⟨by first | omega | decide, by first | omega | decide⟩
            with_reducible refine v_owe h17.1 ?_
            replace h17 := h17.2
            generalize F_VR_put (44 : Int32) t0_0 t0_1 t0_2 t0_3 t0_4 t0_5 t0_6 t0_7 t0_8 t0_9 t0_10 t0_11 t0_12 t0_13 t0_14 t0_15 t0_16 lx47 t0_18 t0_19 t0_20 t0_21 lx48 = p307 at *
            unfold Q_VR_put at h17
            unfold S_VR_plain_c61 F_VR_plain_c61
            have h18 := T_VR_figureAt (x2 := lx46) (t0_0 := t0_0) (t0_1 := t0_1) (t0_2 := t0_2) (t0_3 := t0_3) (t0_4 := t0_4) (t0_5 := t0_5) (t0_6 := t0_6) (t0_7 := t0_7) (t0_8 := t0_8) (t0_9 := t0_9) (t0_10 := t0_10) (t0_11 := t0_11) (t0_12 := t0_12) (t0_13 := t0_13) (t0_14 := t0_14) (t0_15 := t0_15) (t0_16 := t0_16) (t0_17 := (p307.1 : Int32)) (t0_18 := t0_18) (t0_19 := t0_19) (t0_20 := t0_20) (t0_21 := t0_21) (t1_0 := t2_0) (by omega)
            with_reducible refine v_owe h18 ?_
            have h19 := T_VR_put (x2 := (48 + ((F_VR_figureAt lx46 t0_0 t0_1 t0_2 t0_3 t0_4 t0_5 t0_6 t0_7 t0_8 t0_9 t0_10 t0_11 t0_12 t0_13 t0_14 t0_15 t0_16 (p307.1 : Int32) t0_18 t0_19 t0_20 t0_21 t2_0) : Int32) : Int32)) (t0_0 := t0_0) (t0_1 := t0_1) (t0_2 := t0_2) (t0_3 := t0_3) (t0_4 := t0_4) (t0_5 := t0_5) (t0_6 := t0_6) (t0_7 := t0_7) (t0_8 := t0_8) (t0_9 := t0_9) (t0_10 := t0_10) (t0_11 := t0_11) (t0_12 := t0_12) (t0_13 := t0_13) (t0_14 := t0_14) (t0_15 := t0_15) (t0_16 := t0_16) (t0_17 := (p307.1 : Int32)) (t0_18 := t0_18) (t0_19 := t0_19) (t0_20 := t0_20) (t0_21 := t0_21) (t1_0 := (p307.2 : (Nat → Int32))) ⟨by first | omega | decide, by first | omega | decide⟩
            with_reducible refine v_owe h19.1 ?_
            replace h19 := h19.2
            generalize F_VR_put (48 + ((F_VR_figureAt lx46 t0_0 t0_1 t0_2 t0_3 t0_4 t0_5 t0_6 t0_7 t0_8 t0_9 t0_10 t0_11 t0_12 t0_13 t0_14 t0_15 t0_16 (p307.1 : Int32) t0_18 t0_19 t0_20 t0_21 t2_0) : Int32) : Int32) t0_0 t0_1 t0_2 t0_3 t0_4 t0_5 t0_6 t0_7 t0_8 t0_9 t0_10 t0_11 t0_12 t0_13 t0_14 t0_15 t0_16 (p307.1 : Int32) t0_18 t0_19 t0_20 t0_21 (p307.2 : (Nat → Int32)) = p337 at *
            unfold Q_VR_put at h19
            unfold S_VR_plain_c73_12 F_VR_plain_c73_12
            obtain ⟨a20, e21⟩ := q_nm (lx46 + 1 : Int32)
            rw [e21]
            have a20i : a20.toInt = lx46.toInt + 1 := by rw [← e21]; exact q_addI (x := lx46.toInt) (y := 1) rfl (by decide) (by omega) (by omega)
            exact ih _ _ _ ⟨by omega, by omega⟩ (by omega) ⟨by omega, by omega⟩
          ·
            rw [if_neg g16, if_neg g16]
            have h22 := T_VR_figureAt (x2 := lx46) (t0_0 := t0_0) (t0_1 := t0_1) (t0_2 := t0_2) (t0_3 := t0_3) (t0_4 := t0_4) (t0_5 := t0_5) (t0_6 := t0_6) (t0_7 := t0_7) (t0_8 := t0_8) (t0_9 := t0_9) (t0_10 := t0_10) (t0_11 := t0_11) (t0_12 := t0_12) (t0_13 := t0_13) (t0_14 := t0_14) (t0_15 := t0_15) (t0_16 := t0_16) (t0_17 := lx47) (t0_18 := t0_18) (t0_19 := t0_19) (t0_20 := t0_20) (t0_21 := t0_21) (t1_0 := t2_0) (by omega)
            with_reducible refine v_owe h22 ?_
            have h23 := T_VR_put (x2 := (48 + ((F_VR_figureAt lx46 t0_0 t0_1 t0_2 t0_3 t0_4 t0_5 t0_6 t0_7 t0_8 t0_9 t0_10 t0_11 t0_12 t0_13 t0_14 t0_15 t0_16 lx47 t0_18 t0_19 t0_20 t0_21 t2_0) : Int32) : Int32)) (t0_0 := t0_0) (t0_1 := t0_1) (t0_2 := t0_2) (t0_3 := t0_3) (t0_4 := t0_4) (t0_5 := t0_5) (t0_6 := t0_6) (t0_7 := t0_7) (t0_8 := t0_8) (t0_9 := t0_9) (t0_10 := t0_10) (t0_11 := t0_11) (t0_12 := t0_12) (t0_13 := t0_13) (t0_14 := t0_14) (t0_15 := t0_15) (t0_16 := t0_16) (t0_17 := lx47) (t0_18 := t0_18) (t0_19 := t0_19) (t0_20 := t0_20) (t0_21 := t0_21) (t1_0 := lx48) ⟨by first | omega | decide, by first | omega | decide⟩
            with_reducible refine v_owe h23.1 ?_
            replace h23 := h23.2
            generalize F_VR_put (48 + ((F_VR_figureAt lx46 t0_0 t0_1 t0_2 t0_3 t0_4 t0_5 t0_6 t0_7 t0_8 t0_9 t0_10 t0_11 t0_12 t0_13 t0_14 t0_15 t0_16 lx47 t0_18 t0_19 t0_20 t0_21 t2_0) : Int32) : Int32) t0_0 t0_1 t0_2 t0_3 t0_4 t0_5 t0_6 t0_7 t0_8 t0_9 t0_10 t0_11 t0_12 t0_13 t0_14 t0_15 t0_16 lx47 t0_18 t0_19 t0_20 t0_21 lx48 = p281 at *
            unfold Q_VR_put at h23
            unfold S_VR_plain_c73_10 F_VR_plain_c73_10
            obtain ⟨a24, e25⟩ := q_nm (lx46 + 1 : Int32)
            rw [e25]
            have a24i : a24.toInt = lx46.toInt + 1 := by rw [← e25]; exact q_addI (x := lx46.toInt) (y := 1) rfl (by decide) (by omega) (by omega)
            exact ih _ _ _ ⟨by omega, by omega⟩ (by omega) ⟨by omega, by omega⟩
theorem T_VR_plain {x2 : Int32} {t0_0 : Int32} {t0_1 : Int32} {t0_2 : Int32} {t0_3 : Int32} {t0_4 : Int32} {t0_5 : Int32} {t0_6 : Int32} {t0_7 : Int32} {t0_8 : Int32} {t0_9 : Int32} {t0_10 : Int32} {t0_11 : Int32} {t0_12 : Int32} {t0_13 : Int32} {t0_14 : Int32} {t0_15 : Int32} {t0_16 : Int32} {t0_17 : Int32} {t0_18 : Int32} {t0_19 : Int32} {t0_20 : Int32} {t0_21 : Int32} {t1_0 : (Nat → Int32)} {t2_0 : (Nat → Int32)} (h20 : 0 ≤ t0_20.toInt ∧ t0_20.toInt ≤ 60) (h21 : -20000 ≤ t0_21.toInt ∧ t0_21.toInt ≤ 64) (hL : 0 ≤ t0_17.toInt ∧ t0_17.toInt ≤ 200)(hx2 : 0 ≤ x2.toInt ∧ x2.toInt ≤ 10200) : (S_VR_plain x2 t0_0 t0_1 t0_2 t0_3 t0_4 t0_5 t0_6 t0_7 t0_8 t0_9 t0_10 t0_11 t0_12 t0_13 t0_14 t0_15 t0_16 t0_17 t0_18 t0_19 t0_20 t0_21 t1_0 t2_0) ∧ Q_VR_plain x2 t0_17 (F_VR_plain x2 t0_0 t0_1 t0_2 t0_3 t0_4 t0_5 t0_6 t0_7 t0_8 t0_9 t0_10 t0_11 t0_12 t0_13 t0_14 t0_15 t0_16 t0_17 t0_18 t0_19 t0_20 t0_21 t1_0 t2_0) := by
  have e0 : (0 : Int32).toInt = 0 := rfl
  have e1 : (1 : Int32).toInt = 1 := rfl
  have eL0 : (0 : Int64).toInt = 0 := rfl
  have em : (-1 : Int32).toInt = -1 := rfl
  unfold S_VR_plain F_VR_plain
  by_cases g1 : (1 : Int32) ≤ t0_21
  ·
    rw [if_pos g1, if_pos g1]
    have g1i : 1 ≤ t0_21.toInt := q_leI g1
    unfold S_VR_plain_J18 F_VR_plain_J18
    exact vv_p1 h20 h21 hL hx2 (by first | exact Or.inl ⟨rfl, by omega⟩ | exact Or.inr ⟨by omega, by omega⟩) _ _ _ _ ⟨by omega, by omega⟩ (by omega) ⟨by omega, by omega⟩
  ·
    rw [if_neg g1, if_neg g1]
    have g1i : t0_21.toInt < 1 := q_nleI g1
    unfold S_VR_plain_J18 F_VR_plain_J18
    have eK : (t0_21 - 1 : Int32).toInt = t0_21.toInt - 1 := q_subI (y := 1) rfl (by decide) (by omega) (by omega); exact vv_p1 h20 h21 hL hx2 (by first | exact Or.inl ⟨rfl, by omega⟩ | exact Or.inr ⟨by omega, by omega⟩) _ _ _ _ ⟨by omega, by omega⟩ (by omega) ⟨by omega, by omega⟩
def Q_VR_ex (lx89 : Int32) (p : Int32 × (Nat → Int32)) : Prop := lx89.toInt ≤ p.1.toInt ∧ p.1.toInt ≤ lx89.toInt + 6
theorem T_VR_exJ {K_F_VR_exponential_L38 : Int32 → Int32 → (Nat → Int32) → (Int32 × (Nat → Int32))} {x2 : Int32} {t0_0 : Int32} {t0_1 : Int32} {t0_2 : Int32} {t0_3 : Int32} {t0_4 : Int32} {t0_5 : Int32} {t0_6 : Int32} {t0_7 : Int32} {t0_8 : Int32} {t0_9 : Int32} {t0_10 : Int32} {t0_11 : Int32} {t0_12 : Int32} {t0_13 : Int32} {t0_14 : Int32} {t0_15 : Int32} {t0_16 : Int32} {t0_17 : Int32} {t0_18 : Int32} {t0_19 : Int32} {t0_20 : Int32} {t0_21 : Int32} {t1_0 : (Nat → Int32)} {t2_0 : (Nat → Int32)} {a38 : Int32} {p64 : (Int32 × (Nat → Int32))} {lx73 : Int32} {lx74 : (Nat → Int32)} {lx88 : Int32} {lx89 : Int32} {lx90 : (Nat → Int32)} {lx107 : Int32} {K_S_VR_exponential_L38 : Int32 → Int32 → (Nat → Int32) → Prop} (hs : 0 ≤ lx89.toInt ∧ lx89.toInt ≤ 20100) : (S_VR_exponential_J75 K_S_VR_exponential_L38 x2 t0_0 t0_1 t0_2 t0_3 t0_4 t0_5 t0_6 t0_7 t0_8 t0_9 t0_10 t0_11 t0_12 t0_13 t0_14 t0_15 t0_16 t0_17 t0_18 t0_19 t0_20 t0_21 t1_0 t2_0 a38 p64 lx73 lx74 lx88 lx89 lx90 lx107) ∧ Q_VR_ex lx89 (F_VR_exponential_J75 K_F_VR_exponential_L38 x2 t0_0 t0_1 t0_2 t0_3 t0_4 t0_5 t0_6 t0_7 t0_8 t0_9 t0_10 t0_11 t0_12 t0_13 t0_14 t0_15 t0_16 t0_17 t0_18 t0_19 t0_20 t0_21 t1_0 t2_0 a38 p64 lx73 lx74 lx88 lx89 lx90 lx107) := by
  have e0 : (0 : Int32).toInt = 0 := rfl
  have e1 : (1 : Int32).toInt = 1 := rfl
  have eL0 : (0 : Int64).toInt = 0 := rfl
  have em : (-1 : Int32).toInt = -1 := rfl
  unfold S_VR_exponential_J75 F_VR_exponential_J75
  have h1 := T_VR_put (x2 := (101 : Int32)) (t0_0 := t0_0) (t0_1 := t0_1) (t0_2 := t0_2) (t0_3 := t0_3) (t0_4 := t0_4) (t0_5 := t0_5) (t0_6 := t0_6) (t0_7 := t0_7) (t0_8 := t0_8) (t0_9 := t0_9) (t0_10 := t0_10) (t0_11 := t0_11) (t0_12 := t0_12) (t0_13 := t0_13) (t0_14 := t0_14) (t0_15 := t0_15) (t0_16 := t0_16) (t0_17 := lx89) (t0_18 := t0_18) (t0_19 := t0_19) (t0_20 := t0_20) (t0_21 := t0_21) (t1_0 := lx90) ⟨by first | omega | decide, by first | omega | decide⟩
  with_reducible refine v_owe h1.1 ?_
  replace h1 := h1.2
  generalize F_VR_put (101 : Int32) t0_0 t0_1 t0_2 t0_3 t0_4 t0_5 t0_6 t0_7 t0_8 t0_9 t0_10 t0_11 t0_12 t0_13 t0_14 t0_15 t0_16 lx89 t0_18 t0_19 t0_20 t0_21 lx90 = p130 at *
  unfold Q_VR_put at h1
  unfold S_VR_exponential_c79 F_VR_exponential_c79
  by_cases g2 : (0 : Int32) ≤ lx107
  ·
    rw [if_pos g2, if_pos g2]
    unfold S_VR_exponential_J94 F_VR_exponential_J94
    have h3 := T_VR_put (x2 := (43 : Int32)) (t0_0 := t0_0) (t0_1 := t0_1) (t0_2 := t0_2) (t0_3 := t0_3) (t0_4 := t0_4) (t0_5 := t0_5) (t0_6 := t0_6) (t0_7 := t0_7) (t0_8 := t0_8) (t0_9 := t0_9) (t0_10 := t0_10) (t0_11 := t0_11) (t0_12 := t0_12) (t0_13 := t0_13) (t0_14 := t0_14) (t0_15 := t0_15) (t0_16 := t0_16) (t0_17 := (p130.1 : Int32)) (t0_18 := t0_18) (t0_19 := t0_19) (t0_20 := t0_20) (t0_21 := t0_21) (t1_0 := (p130.2 : (Nat → Int32))) ⟨by first | omega | decide, by first | omega | decide⟩
    with_reducible refine v_owe h3.1 ?_
    replace h3 := h3.2
    generalize F_VR_put (43 : Int32) t0_0 t0_1 t0_2 t0_3 t0_4 t0_5 t0_6 t0_7 t0_8 t0_9 t0_10 t0_11 t0_12 t0_13 t0_14 t0_15 t0_16 (p130.1 : Int32) t0_18 t0_19 t0_20 t0_21 (p130.2 : (Nat → Int32)) = p164 at *
    unfold Q_VR_put at h3
    unfold S_VR_exponential_c94 F_VR_exponential_c94
    rw [if_pos g2, if_pos g2]
    unfold S_VR_exponential_J107 F_VR_exponential_J107
    by_cases g4 : lx107 ≤ (99 : Int32)
    ·
      rw [if_pos g4, if_pos g4]
      unfold S_VR_exponential_J125 F_VR_exponential_J125
      have h5 := T_VR_put (x2 := (48 + ((lx107 / 10 : Int32) - (lx107 / 10 : Int32) / 10 * 10 : Int32) : Int32)) (t0_0 := t0_0) (t0_1 := t0_1) (t0_2 := t0_2) (t0_3 := t0_3) (t0_4 := t0_4) (t0_5 := t0_5) (t0_6 := t0_6) (t0_7 := t0_7) (t0_8 := t0_8) (t0_9 := t0_9) (t0_10 := t0_10) (t0_11 := t0_11) (t0_12 := t0_12) (t0_13 := t0_13) (t0_14 := t0_14) (t0_15 := t0_15) (t0_16 := t0_16) (t0_17 := (p164.1 : Int32)) (t0_18 := t0_18) (t0_19 := t0_19) (t0_20 := t0_20) (t0_21 := t0_21) (t1_0 := (p164.2 : (Nat → Int32))) ⟨by first | omega | decide, by first | omega | decide⟩
      with_reducible refine v_owe h5.1 ?_
      replace h5 := h5.2
      generalize F_VR_put (48 + ((lx107 / 10 : Int32) - (lx107 / 10 : Int32) / 10 * 10 : Int32) : Int32) t0_0 t0_1 t0_2 t0_3 t0_4 t0_5 t0_6 t0_7 t0_8 t0_9 t0_10 t0_11 t0_12 t0_13 t0_14 t0_15 t0_16 (p164.1 : Int32) t0_18 t0_19 t0_20 t0_21 (p164.2 : (Nat → Int32)) = p216 at *
      unfold Q_VR_put at h5
      unfold S_VR_exponential_c136 F_VR_exponential_c136
      have h6 := T_VR_put (x2 := (48 + (lx107 - lx107 / 10 * 10 : Int32) : Int32)) (t0_0 := t0_0) (t0_1 := t0_1) (t0_2 := t0_2) (t0_3 := t0_3) (t0_4 := t0_4) (t0_5 := t0_5) (t0_6 := t0_6) (t0_7 := t0_7) (t0_8 := t0_8) (t0_9 := t0_9) (t0_10 := t0_10) (t0_11 := t0_11) (t0_12 := t0_12) (t0_13 := t0_13) (t0_14 := t0_14) (t0_15 := t0_15) (t0_16 := t0_16) (t0_17 := (p216.1 : Int32)) (t0_18 := t0_18) (t0_19 := t0_19) (t0_20 := t0_20) (t0_21 := t0_21) (t1_0 := (p216.2 : (Nat → Int32))) ⟨by first | omega | decide, by first | omega | decide⟩
      with_reducible refine v_owe h6.1 ?_
      replace h6 := h6.2
      generalize F_VR_put (48 + (lx107 - lx107 / 10 * 10 : Int32) : Int32) t0_0 t0_1 t0_2 t0_3 t0_4 t0_5 t0_6 t0_7 t0_8 t0_9 t0_10 t0_11 t0_12 t0_13 t0_14 t0_15 t0_16 (p216.1 : Int32) t0_18 t0_19 t0_20 t0_21 (p216.2 : (Nat → Int32)) = p242 at *
      unfold Q_VR_put at h6
      unfold S_VR_exponential_c147 F_VR_exponential_c147
      refine ⟨trivial, ?_⟩
      (unfold Q_VR_ex; dsimp only; exact ⟨by omega, by omega⟩)
    ·
      rw [if_neg g4, if_neg g4]
      have h7 := T_VR_put (x2 := (48 + (lx107 / 100 : Int32) : Int32)) (t0_0 := t0_0) (t0_1 := t0_1) (t0_2 := t0_2) (t0_3 := t0_3) (t0_4 := t0_4) (t0_5 := t0_5) (t0_6 := t0_6) (t0_7 := t0_7) (t0_8 := t0_8) (t0_9 := t0_9) (t0_10 := t0_10) (t0_11 := t0_11) (t0_12 := t0_12) (t0_13 := t0_13) (t0_14 := t0_14) (t0_15 := t0_15) (t0_16 := t0_16) (t0_17 := (p164.1 : Int32)) (t0_18 := t0_18) (t0_19 := t0_19) (t0_20 := t0_20) (t0_21 := t0_21) (t1_0 := (p164.2 : (Nat → Int32))) ⟨by first | omega | decide, by first | omega | decide⟩
      with_reducible refine v_owe h7.1 ?_
      replace h7 := h7.2
      generalize F_VR_put (48 + (lx107 / 100 : Int32) : Int32) t0_0 t0_1 t0_2 t0_3 t0_4 t0_5 t0_6 t0_7 t0_8 t0_9 t0_10 t0_11 t0_12 t0_13 t0_14 t0_15 t0_16 (p164.1 : Int32) t0_18 t0_19 t0_20 t0_21 (p164.2 : (Nat → Int32)) = p273 at *
      unfold Q_VR_put at h7
      unfold S_VR_exponential_c122 F_VR_exponential_c122
      unfold S_VR_exponential_J125 F_VR_exponential_J125
      have h8 := T_VR_put (x2 := (48 + ((lx107 / 10 : Int32) - (lx107 / 10 : Int32) / 10 * 10 : Int32) : Int32)) (t0_0 := t0_0) (t0_1 := t0_1) (t0_2 := t0_2) (t0_3 := t0_3) (t0_4 := t0_4) (t0_5 := t0_5) (t0_6 := t0_6) (t0_7 := t0_7) (t0_8 := t0_8) (t0_9 := t0_9) (t0_10 := t0_10) (t0_11 := t0_11) (t0_12 := t0_12) (t0_13 := t0_13) (t0_14 := t0_14) (t0_15 := t0_15) (t0_16 := t0_16) (t0_17 := (p273.1 : Int32)) (t0_18 := t0_18) (t0_19 := t0_19) (t0_20 := t0_20) (t0_21 := t0_21) (t1_0 := (p273.2 : (Nat → Int32))) ⟨by first | omega | decide, by first | omega | decide⟩
      with_reducible refine v_owe h8.1 ?_
      replace h8 := h8.2
      generalize F_VR_put (48 + ((lx107 / 10 : Int32) - (lx107 / 10 : Int32) / 10 * 10 : Int32) : Int32) t0_0 t0_1 t0_2 t0_3 t0_4 t0_5 t0_6 t0_7 t0_8 t0_9 t0_10 t0_11 t0_12 t0_13 t0_14 t0_15 t0_16 (p273.1 : Int32) t0_18 t0_19 t0_20 t0_21 (p273.2 : (Nat → Int32)) = p216 at *
      unfold Q_VR_put at h8
      unfold S_VR_exponential_c136 F_VR_exponential_c136
      have h9 := T_VR_put (x2 := (48 + (lx107 - lx107 / 10 * 10 : Int32) : Int32)) (t0_0 := t0_0) (t0_1 := t0_1) (t0_2 := t0_2) (t0_3 := t0_3) (t0_4 := t0_4) (t0_5 := t0_5) (t0_6 := t0_6) (t0_7 := t0_7) (t0_8 := t0_8) (t0_9 := t0_9) (t0_10 := t0_10) (t0_11 := t0_11) (t0_12 := t0_12) (t0_13 := t0_13) (t0_14 := t0_14) (t0_15 := t0_15) (t0_16 := t0_16) (t0_17 := (p216.1 : Int32)) (t0_18 := t0_18) (t0_19 := t0_19) (t0_20 := t0_20) (t0_21 := t0_21) (t1_0 := (p216.2 : (Nat → Int32))) ⟨by first | omega | decide, by first | omega | decide⟩
      with_reducible refine v_owe h9.1 ?_
      replace h9 := h9.2
      generalize F_VR_put (48 + (lx107 - lx107 / 10 * 10 : Int32) : Int32) t0_0 t0_1 t0_2 t0_3 t0_4 t0_5 t0_6 t0_7 t0_8 t0_9 t0_10 t0_11 t0_12 t0_13 t0_14 t0_15 t0_16 (p216.1 : Int32) t0_18 t0_19 t0_20 t0_21 (p216.2 : (Nat → Int32)) = p242 at *
      unfold Q_VR_put at h9
      unfold S_VR_exponential_c147 F_VR_exponential_c147
      refine ⟨trivial, ?_⟩
      (unfold Q_VR_ex; dsimp only; exact ⟨by omega, by omega⟩)
  ·
    rw [if_neg g2, if_neg g2]
    unfold S_VR_exponential_J94 F_VR_exponential_J94
    have h10 := T_VR_put (x2 := (45 : Int32)) (t0_0 := t0_0) (t0_1 := t0_1) (t0_2 := t0_2) (t0_3 := t0_3) (t0_4 := t0_4) (t0_5 := t0_5) (t0_6 := t0_6) (t0_7 := t0_7) (t0_8 := t0_8) (t0_9 := t0_9) (t0_10 := t0_10) (t0_11 := t0_11) (t0_12 := t0_12) (t0_13 := t0_13) (t0_14 := t0_14) (t0_15 := t0_15) (t0_16 := t0_16) (t0_17 := (p130.1 : Int32)) (t0_18 := t0_18) (t0_19 := t0_19) (t0_20 := t0_20) (t0_21 := t0_21) (t1_0 := (p130.2 : (Nat → Int32))) ⟨by first | omega | decide, by first | omega | decide⟩
    with_reducible refine v_owe h10.1 ?_
    replace h10 := h10.2
    generalize F_VR_put (45 : Int32) t0_0 t0_1 t0_2 t0_3 t0_4 t0_5 t0_6 t0_7 t0_8 t0_9 t0_10 t0_11 t0_12 t0_13 t0_14 t0_15 t0_16 (p130.1 : Int32) t0_18 t0_19 t0_20 t0_21 (p130.2 : (Nat → Int32)) = p164 at *
    unfold Q_VR_put at h10
    unfold S_VR_exponential_c94 F_VR_exponential_c94
    rw [if_neg g2, if_neg g2]
    obtain ⟨lx173, e11⟩ := q_nm ((-lx107 : Int32) : Int32)
    rw [e11]
    unfold S_VR_exponential_J107 F_VR_exponential_J107
    by_cases g12 : lx173 ≤ (99 : Int32)
    ·
      rw [if_pos g12, if_pos g12]
      unfold S_VR_exponential_J125 F_VR_exponential_J125
      have h13 := T_VR_put (x2 := (48 + ((lx173 / 10 : Int32) - (lx173 / 10 : Int32) / 10 * 10 : Int32) : Int32)) (t0_0 := t0_0) (t0_1 := t0_1) (t0_2 := t0_2) (t0_3 := t0_3) (t0_4 := t0_4) (t0_5 := t0_5) (t0_6 := t0_6) (t0_7 := t0_7) (t0_8 := t0_8) (t0_9 := t0_9) (t0_10 := t0_10) (t0_11 := t0_11) (t0_12 := t0_12) (t0_13 := t0_13) (t0_14 := t0_14) (t0_15 := t0_15) (t0_16 := t0_16) (t0_17 := (p164.1 : Int32)) (t0_18 := t0_18) (t0_19 := t0_19) (t0_20 := t0_20) (t0_21 := t0_21) (t1_0 := (p164.2 : (Nat → Int32))) ⟨by first | omega | decide, by first | omega | decide⟩
      with_reducible refine v_owe h13.1 ?_
      replace h13 := h13.2
      generalize F_VR_put (48 + ((lx173 / 10 : Int32) - (lx173 / 10 : Int32) / 10 * 10 : Int32) : Int32) t0_0 t0_1 t0_2 t0_3 t0_4 t0_5 t0_6 t0_7 t0_8 t0_9 t0_10 t0_11 t0_12 t0_13 t0_14 t0_15 t0_16 (p164.1 : Int32) t0_18 t0_19 t0_20 t0_21 (p164.2 : (Nat → Int32)) = p216 at *
      unfold Q_VR_put at h13
      unfold S_VR_exponential_c136 F_VR_exponential_c136
      have h14 := T_VR_put (x2 := (48 + (lx173 - lx173 / 10 * 10 : Int32) : Int32)) (t0_0 := t0_0) (t0_1 := t0_1) (t0_2 := t0_2) (t0_3 := t0_3) (t0_4 := t0_4) (t0_5 := t0_5) (t0_6 := t0_6) (t0_7 := t0_7) (t0_8 := t0_8) (t0_9 := t0_9) (t0_10 := t0_10) (t0_11 := t0_11) (t0_12 := t0_12) (t0_13 := t0_13) (t0_14 := t0_14) (t0_15 := t0_15) (t0_16 := t0_16) (t0_17 := (p216.1 : Int32)) (t0_18 := t0_18) (t0_19 := t0_19) (t0_20 := t0_20) (t0_21 := t0_21) (t1_0 := (p216.2 : (Nat → Int32))) ⟨by first | omega | decide, by first | omega | decide⟩
      with_reducible refine v_owe h14.1 ?_
      replace h14 := h14.2
      generalize F_VR_put (48 + (lx173 - lx173 / 10 * 10 : Int32) : Int32) t0_0 t0_1 t0_2 t0_3 t0_4 t0_5 t0_6 t0_7 t0_8 t0_9 t0_10 t0_11 t0_12 t0_13 t0_14 t0_15 t0_16 (p216.1 : Int32) t0_18 t0_19 t0_20 t0_21 (p216.2 : (Nat → Int32)) = p242 at *
      unfold Q_VR_put at h14
      unfold S_VR_exponential_c147 F_VR_exponential_c147
      refine ⟨trivial, ?_⟩
      (unfold Q_VR_ex; dsimp only; exact ⟨by omega, by omega⟩)
    ·
      rw [if_neg g12, if_neg g12]
      have h15 := T_VR_put (x2 := (48 + (lx173 / 100 : Int32) : Int32)) (t0_0 := t0_0) (t0_1 := t0_1) (t0_2 := t0_2) (t0_3 := t0_3) (t0_4 := t0_4) (t0_5 := t0_5) (t0_6 := t0_6) (t0_7 := t0_7) (t0_8 := t0_8) (t0_9 := t0_9) (t0_10 := t0_10) (t0_11 := t0_11) (t0_12 := t0_12) (t0_13 := t0_13) (t0_14 := t0_14) (t0_15 := t0_15) (t0_16 := t0_16) (t0_17 := (p164.1 : Int32)) (t0_18 := t0_18) (t0_19 := t0_19) (t0_20 := t0_20) (t0_21 := t0_21) (t1_0 := (p164.2 : (Nat → Int32))) ⟨by first | omega | decide, by first | omega | decide⟩
      with_reducible refine v_owe h15.1 ?_
      replace h15 := h15.2
      generalize F_VR_put (48 + (lx173 / 100 : Int32) : Int32) t0_0 t0_1 t0_2 t0_3 t0_4 t0_5 t0_6 t0_7 t0_8 t0_9 t0_10 t0_11 t0_12 t0_13 t0_14 t0_15 t0_16 (p164.1 : Int32) t0_18 t0_19 t0_20 t0_21 (p164.2 : (Nat → Int32)) = p273 at *
      unfold Q_VR_put at h15
      unfold S_VR_exponential_c122 F_VR_exponential_c122
      unfold S_VR_exponential_J125 F_VR_exponential_J125
      have h16 := T_VR_put (x2 := (48 + ((lx173 / 10 : Int32) - (lx173 / 10 : Int32) / 10 * 10 : Int32) : Int32)) (t0_0 := t0_0) (t0_1 := t0_1) (t0_2 := t0_2) (t0_3 := t0_3) (t0_4 := t0_4) (t0_5 := t0_5) (t0_6 := t0_6) (t0_7 := t0_7) (t0_8 := t0_8) (t0_9 := t0_9) (t0_10 := t0_10) (t0_11 := t0_11) (t0_12 := t0_12) (t0_13 := t0_13) (t0_14 := t0_14) (t0_15 := t0_15) (t0_16 := t0_16) (t0_17 := (p273.1 : Int32)) (t0_18 := t0_18) (t0_19 := t0_19) (t0_20 := t0_20) (t0_21 := t0_21) (t1_0 := (p273.2 : (Nat → Int32))) ⟨by first | omega | decide, by first | omega | decide⟩
      with_reducible refine v_owe h16.1 ?_
      replace h16 := h16.2
      generalize F_VR_put (48 + ((lx173 / 10 : Int32) - (lx173 / 10 : Int32) / 10 * 10 : Int32) : Int32) t0_0 t0_1 t0_2 t0_3 t0_4 t0_5 t0_6 t0_7 t0_8 t0_9 t0_10 t0_11 t0_12 t0_13 t0_14 t0_15 t0_16 (p273.1 : Int32) t0_18 t0_19 t0_20 t0_21 (p273.2 : (Nat → Int32)) = p216 at *
      unfold Q_VR_put at h16
      unfold S_VR_exponential_c136 F_VR_exponential_c136
      have h17 := T_VR_put (x2 := (48 + (lx173 - lx173 / 10 * 10 : Int32) : Int32)) (t0_0 := t0_0) (t0_1 := t0_1) (t0_2 := t0_2) (t0_3 := t0_3) (t0_4 := t0_4) (t0_5 := t0_5) (t0_6 := t0_6) (t0_7 := t0_7) (t0_8 := t0_8) (t0_9 := t0_9) (t0_10 := t0_10) (t0_11 := t0_11) (t0_12 := t0_12) (t0_13 := t0_13) (t0_14 := t0_14) (t0_15 := t0_15) (t0_16 := t0_16) (t0_17 := (p216.1 : Int32)) (t0_18 := t0_18) (t0_19 := t0_19) (t0_20 := t0_20) (t0_21 := t0_21) (t1_0 := (p216.2 : (Nat → Int32))) ⟨by first | omega | decide, by first | omega | decide⟩
      with_reducible refine v_owe h17.1 ?_
      replace h17 := h17.2
      generalize F_VR_put (48 + (lx173 - lx173 / 10 * 10 : Int32) : Int32) t0_0 t0_1 t0_2 t0_3 t0_4 t0_5 t0_6 t0_7 t0_8 t0_9 t0_10 t0_11 t0_12 t0_13 t0_14 t0_15 t0_16 (p216.1 : Int32) t0_18 t0_19 t0_20 t0_21 (p216.2 : (Nat → Int32)) = p242 at *
      unfold Q_VR_put at h17
      unfold S_VR_exponential_c147 F_VR_exponential_c147
      refine ⟨trivial, ?_⟩
      (unfold Q_VR_ex; dsimp only; exact ⟨by omega, by omega⟩)
theorem vr_exB {l x2 t : Int32} {p : Int32 × (Nat → Int32)} (z : Q_VR_ex l p) (a : t.toInt ≤ l.toInt) (b : l.toInt + 6 ≤ t.toInt + 140 + x2.toInt) : Q_VR_plain x2 t p := by unfold Q_VR_ex at z; exact ⟨by omega, by omega⟩
theorem vv_e1 {x2 : Int32} {t0_0 : Int32} {t0_1 : Int32} {t0_2 : Int32} {t0_3 : Int32} {t0_4 : Int32} {t0_5 : Int32} {t0_6 : Int32} {t0_7 : Int32} {t0_8 : Int32} {t0_9 : Int32} {t0_10 : Int32} {t0_11 : Int32} {t0_12 : Int32} {t0_13 : Int32} {t0_14 : Int32} {t0_15 : Int32} {t0_16 : Int32} {t0_17 : Int32} {t0_18 : Int32} {t0_19 : Int32} {t0_20 : Int32} {t0_21 : Int32} {t1_0 : (Nat → Int32)} {t2_0 : (Nat → Int32)} {a38 : Int32} {p64 : (Int32 × (Nat → Int32))} {lx73 : Int32} {lx74 : (Nat → Int32)} (h20 : 0 ≤ t0_20.toInt ∧ t0_20.toInt ≤ 60) (h21 : -20000 ≤ t0_21.toInt ∧ t0_21.toInt ≤ 64) (hL : 0 ≤ t0_17.toInt ∧ t0_17.toInt ≤ 200)(hx2 : 0 ≤ x2.toInt ∧ x2.toInt ≤ 10200) : ∀ (n : Nat) (lx88 : Int32) (lx89 : Int32) (lx90 : (Nat → Int32)), (1 ≤ lx88.toInt ∧ lx88.toInt ≤ x2.toInt + 1) → (x2.toInt + 1 - lx88.toInt < (n : Int)) → (t0_17.toInt ≤ lx89.toInt ∧ lx89.toInt ≤ t0_17.toInt + 2 + lx88.toInt) → (S_VR_exponential_L38 x2 t0_0 t0_1 t0_2 t0_3 t0_4 t0_5 t0_6 t0_7 t0_8 t0_9 t0_10 t0_11 t0_12 t0_13 t0_14 t0_15 t0_16 t0_17 t0_18 t0_19 t0_20 t0_21 t1_0 t2_0 a38 p64 lx73 lx74 n lx88 lx89 lx90) ∧ Q_VR_plain x2 t0_17 (F_VR_exponential_L38 x2 t0_0 t0_1 t0_2 t0_3 t0_4 t0_5 t0_6 t0_7 t0_8 t0_9 t0_10 t0_11 t0_12 t0_13 t0_14 t0_15 t0_16 t0_17 t0_18 t0_19 t0_20 t0_21 t1_0 t2_0 a38 p64 lx73 lx74 n lx88 lx89 lx90) := by
  intro n
  induction n with
  | zero => intro lx88 lx89 lx90 h0 hm hs; exact absurd (show False by omega) id
  | succ n ih =>
    intro lx88 lx89 lx90 h0 hm hs
    have e0 : (0 : Int32).toInt = 0 := rfl
    have e1 : (1 : Int32).toInt = 1 := rfl
    have eL0 : (0 : Int64).toInt = 0 := rfl
    have em : (-1 : Int32).toInt = -1 := rfl
    rw [S_VR_exponential_L38.eq_2, F_VR_exponential_L38.eq_2]
    by_cases g1 : x2 < lx88
    ·
      rw [if_pos g1, if_pos g1]
      have g1i : x2.toInt < lx88.toInt := q_ltI g1
      by_cases g2 : a38 = (0 : Int32)
      ·
        rw [if_pos g2, if_pos g2]
        exact And.imp id (fun z => vr_exB z (by omega) (by omega)) (T_VR_exJ ⟨by omega, by omega⟩)
      ·
        rw [if_neg g2, if_neg g2]
        exact And.imp id (fun z => vr_exB z (by omega) (by omega)) (T_VR_exJ ⟨by omega, by omega⟩)
    ·
      rw [if_neg g1, if_neg g1]
      have g1i : lx88.toInt ≤ x2.toInt := q_nltI g1
      have h3 := T_VR_figureAt (x2 := lx88) (t0_0 := t0_0) (t0_1 := t0_1) (t0_2 := t0_2) (t0_3 := t0_3) (t0_4 := t0_4) (t0_5 := t0_5) (t0_6 := t0_6) (t0_7 := t0_7) (t0_8 := t0_8) (t0_9 := t0_9) (t0_10 := t0_10) (t0_11 := t0_11) (t0_12 := t0_12) (t0_13 := t0_13) (t0_14 := t0_14) (t0_15 := t0_15) (t0_16 := t0_16) (t0_17 := lx89) (t0_18 := t0_18) (t0_19 := t0_19) (t0_20 := t0_20) (t0_21 := t0_21) (t1_0 := t2_0) (by omega)
      with_reducible refine v_owe h3 ?_
      have h4 := T_VR_put (x2 := (48 + ((F_VR_figureAt lx88 t0_0 t0_1 t0_2 t0_3 t0_4 t0_5 t0_6 t0_7 t0_8 t0_9 t0_10 t0_11 t0_12 t0_13 t0_14 t0_15 t0_16 lx89 t0_18 t0_19 t0_20 t0_21 t2_0) : Int32) : Int32)) (t0_0 := t0_0) (t0_1 := t0_1) (t0_2 := t0_2) (t0_3 := t0_3) (t0_4 := t0_4) (t0_5 := t0_5) (t0_6 := t0_6) (t0_7 := t0_7) (t0_8 := t0_8) (t0_9 := t0_9) (t0_10 := t0_10) (t0_11 := t0_11) (t0_12 := t0_12) (t0_13 := t0_13) (t0_14 := t0_14) (t0_15 := t0_15) (t0_16 := t0_16) (t0_17 := lx89) (t0_18 := t0_18) (t0_19 := t0_19) (t0_20 := t0_20) (t0_21 := t0_21) (t1_0 := lx90) ⟨by first | omega | decide, by first | omega | decide⟩
      with_reducible refine v_owe h4.1 ?_
      replace h4 := h4.2
      generalize F_VR_put (48 + ((F_VR_figureAt lx88 t0_0 t0_1 t0_2 t0_3 t0_4 t0_5 t0_6 t0_7 t0_8 t0_9 t0_10 t0_11 t0_12 t0_13 t0_14 t0_15 t0_16 lx89 t0_18 t0_19 t0_20 t0_21 t2_0) : Int32) : Int32) t0_0 t0_1 t0_2 t0_3 t0_4 t0_5 t0_6 t0_7 t0_8 t0_9 t0_10 t0_11 t0_12 t0_13 t0_14 t0_15 t0_16 lx89 t0_18 t0_19 t0_20 t0_21 lx90 = p317 at *
      unfold Q_VR_put at h4
      unfold S_VR_exponential_c52 F_VR_exponential_c52
      obtain ⟨a5, e6⟩ := q_nm (lx88 + 1 : Int32)
      rw [e6]
      have a5i : a5.toInt = lx88.toInt + 1 := by rw [← e6]; exact q_addI (x := lx88.toInt) (y := 1) rfl (by decide) (by omega) (by omega)
      exact ih _ _ _ ⟨by omega, by omega⟩ (by omega) ⟨by omega, by omega⟩
theorem T_VR_exponential {x2 : Int32} {t0_0 : Int32} {t0_1 : Int32} {t0_2 : Int32} {t0_3 : Int32} {t0_4 : Int32} {t0_5 : Int32} {t0_6 : Int32} {t0_7 : Int32} {t0_8 : Int32} {t0_9 : Int32} {t0_10 : Int32} {t0_11 : Int32} {t0_12 : Int32} {t0_13 : Int32} {t0_14 : Int32} {t0_15 : Int32} {t0_16 : Int32} {t0_17 : Int32} {t0_18 : Int32} {t0_19 : Int32} {t0_20 : Int32} {t0_21 : Int32} {t1_0 : (Nat → Int32)} {t2_0 : (Nat → Int32)} (h20 : 0 ≤ t0_20.toInt ∧ t0_20.toInt ≤ 60) (h21 : -20000 ≤ t0_21.toInt ∧ t0_21.toInt ≤ 64) (hL : 0 ≤ t0_17.toInt ∧ t0_17.toInt ≤ 200)(hx2 : 0 ≤ x2.toInt ∧ x2.toInt ≤ 10200) : (S_VR_exponential x2 t0_0 t0_1 t0_2 t0_3 t0_4 t0_5 t0_6 t0_7 t0_8 t0_9 t0_10 t0_11 t0_12 t0_13 t0_14 t0_15 t0_16 t0_17 t0_18 t0_19 t0_20 t0_21 t1_0 t2_0) ∧ Q_VR_plain x2 t0_17 (F_VR_exponential x2 t0_0 t0_1 t0_2 t0_3 t0_4 t0_5 t0_6 t0_7 t0_8 t0_9 t0_10 t0_11 t0_12 t0_13 t0_14 t0_15 t0_16 t0_17 t0_18 t0_19 t0_20 t0_21 t1_0 t2_0) := by
  have e0 : (0 : Int32).toInt = 0 := rfl
  have e1 : (1 : Int32).toInt = 1 := rfl
  have eL0 : (0 : Int64).toInt = 0 := rfl
  have em : (-1 : Int32).toInt = -1 := rfl
  unfold S_VR_exponential F_VR_exponential
  have h1 := T_VR_isZero (t0_0 := t0_0) (t0_1 := t0_1) (t0_2 := t0_2) (t0_3 := t0_3) (t0_4 := t0_4) (t0_5 := t0_5) (t0_6 := t0_6) (t0_7 := t0_7) (t0_8 := t0_8) (t0_9 := t0_9) (t0_10 := t0_10) (t0_11 := t0_11) (t0_12 := t0_12) (t0_13 := t0_13) (t0_14 := t0_14) (t0_15 := t0_15) (t0_16 := t0_16) (t0_17 := t0_17) (t0_18 := t0_18) (t0_19 := t0_19) (t0_20 := t0_20) (t0_21 := t0_21) (t1_0 := t2_0) (by omega)
  with_reducible refine v_owe h1 ?_
  have h2 := T_VR_figureAt (x2 := (0 : Int32)) (t0_0 := t0_0) (t0_1 := t0_1) (t0_2 := t0_2) (t0_3 := t0_3) (t0_4 := t0_4) (t0_5 := t0_5) (t0_6 := t0_6) (t0_7 := t0_7) (t0_8 := t0_8) (t0_9 := t0_9) (t0_10 := t0_10) (t0_11 := t0_11) (t0_12 := t0_12) (t0_13 := t0_13) (t0_14 := t0_14) (t0_15 := t0_15) (t0_16 := t0_16) (t0_17 := t0_17) (t0_18 := t0_18) (t0_19 := t0_19) (t0_20 := t0_20) (t0_21 := t0_21) (t1_0 := t2_0) (by omega)
  with_reducible refine v_owe h2 ?_
  have h3 := T_VR_put (x2 := (48 + ((F_VR_figureAt (0 : Int32) t0_0 t0_1 t0_2 t0_3 t0_4 t0_5 t0_6 t0_7 t0_8 t0_9 t0_10 t0_11 t0_12 t0_13 t0_14 t0_15 t0_16 t0_17 t0_18 t0_19 t0_20 t0_21 t2_0) : Int32) : Int32)) (t0_0 := t0_0) (t0_1 := t0_1) (t0_2 := t0_2) (t0_3 := t0_3) (t0_4 := t0_4) (t0_5 := t0_5) (t0_6 := t0_6) (t0_7 := t0_7) (t0_8 := t0_8) (t0_9 := t0_9) (t0_10 := t0_10) (t0_11 := t0_11) (t0_12 := t0_12) (t0_13 := t0_13) (t0_14 := t0_14) (t0_15 := t0_15) (t0_16 := t0_16) (t0_17 := t0_17) (t0_18 := t0_18) (t0_19 := t0_19) (t0_20 := t0_20) (t0_21 := t0_21) (t1_0 := t1_0) ⟨by first | omega | decide, by first | omega | decide⟩
  with_reducible refine v_owe h3.1 ?_
  replace h3 := h3.2
  generalize F_VR_put (48 + ((F_VR_figureAt (0 : Int32) t0_0 t0_1 t0_2 t0_3 t0_4 t0_5 t0_6 t0_7 t0_8 t0_9 t0_10 t0_11 t0_12 t0_13 t0_14 t0_15 t0_16 t0_17 t0_18 t0_19 t0_20 t0_21 t2_0) : Int32) : Int32) t0_0 t0_1 t0_2 t0_3 t0_4 t0_5 t0_6 t0_7 t0_8 t0_9 t0_10 t0_11 t0_12 t0_13 t0_14 t0_15 t0_16 t0_17 t0_18 t0_19 t0_20 t0_21 t1_0 = p64 at *
  unfold Q_VR_put at h3
  unfold S_VR_exponential_c14 F_VR_exponential_c14
  by_cases g4 : (0 : Int32) < x2
  ·
    rw [if_pos g4, if_pos g4]
    have g4i : 0 < x2.toInt := q_ltI g4
    unfold S_VR_exponential_J30 F_VR_exponential_J30
    have h5 := T_VR_put (x2 := (46 : Int32)) (t0_0 := t0_0) (t0_1 := t0_1) (t0_2 := t0_2) (t0_3 := t0_3) (t0_4 := t0_4) (t0_5 := t0_5) (t0_6 := t0_6) (t0_7 := t0_7) (t0_8 := t0_8) (t0_9 := t0_9) (t0_10 := t0_10) (t0_11 := t0_11) (t0_12 := t0_12) (t0_13 := t0_13) (t0_14 := t0_14) (t0_15 := t0_15) (t0_16 := t0_16) (t0_17 := (p64.1 : Int32)) (t0_18 := t0_18) (t0_19 := t0_19) (t0_20 := t0_20) (t0_21 := t0_21) (t1_0 := (p64.2 : (Nat → Int32))) ⟨by first | omega | decide, by first | omega | decide⟩
    with_reducible refine v_owe h5.1 ?_
    replace h5 := h5.2
    generalize F_VR_put (46 : Int32) t0_0 t0_1 t0_2 t0_3 t0_4 t0_5 t0_6 t0_7 t0_8 t0_9 t0_10 t0_11 t0_12 t0_13 t0_14 t0_15 t0_16 (p64.1 : Int32) t0_18 t0_19 t0_20 t0_21 (p64.2 : (Nat → Int32)) = p351 at *
    unfold Q_VR_put at h5
    unfold S_VR_exponential_c33 F_VR_exponential_c33
    unfold S_VR_exponential_J36 F_VR_exponential_J36
    exact vv_e1 h20 h21 hL hx2 _ _ _ _ ⟨by decide, by omega⟩ (by omega) ⟨by omega, by omega⟩
  ·
    rw [if_neg g4, if_neg g4]
    have g4i : x2.toInt ≤ 0 := q_nltI g4
    by_cases g6 : ((F_VR_has (35 : Int32) t0_0 t0_1 t0_2 t0_3 t0_4 t0_5 t0_6 t0_7 t0_8 t0_9 t0_10 t0_11 t0_12 t0_13 t0_14 t0_15 t0_16 (p64.1 : Int32) t0_18 t0_19 t0_20 t0_21) : Int32) = (0 : Int32)
    ·
      rw [if_pos g6, if_pos g6]
      unfold S_VR_exponential_J36 F_VR_exponential_J36
      exact vv_e1 h20 h21 hL hx2 _ _ _ _ ⟨by decide, by omega⟩ (by omega) ⟨by omega, by omega⟩
    ·
      rw [if_neg g6, if_neg g6]
      unfold S_VR_exponential_J30 F_VR_exponential_J30
      have h7 := T_VR_put (x2 := (46 : Int32)) (t0_0 := t0_0) (t0_1 := t0_1) (t0_2 := t0_2) (t0_3 := t0_3) (t0_4 := t0_4) (t0_5 := t0_5) (t0_6 := t0_6) (t0_7 := t0_7) (t0_8 := t0_8) (t0_9 := t0_9) (t0_10 := t0_10) (t0_11 := t0_11) (t0_12 := t0_12) (t0_13 := t0_13) (t0_14 := t0_14) (t0_15 := t0_15) (t0_16 := t0_16) (t0_17 := (p64.1 : Int32)) (t0_18 := t0_18) (t0_19 := t0_19) (t0_20 := t0_20) (t0_21 := t0_21) (t1_0 := (p64.2 : (Nat → Int32))) ⟨by first | omega | decide, by first | omega | decide⟩
      with_reducible refine v_owe h7.1 ?_
      replace h7 := h7.2
      generalize F_VR_put (46 : Int32) t0_0 t0_1 t0_2 t0_3 t0_4 t0_5 t0_6 t0_7 t0_8 t0_9 t0_10 t0_11 t0_12 t0_13 t0_14 t0_15 t0_16 (p64.1 : Int32) t0_18 t0_19 t0_20 t0_21 (p64.2 : (Nat → Int32)) = p351 at *
      unfold Q_VR_put at h7
      unfold S_VR_exponential_c33 F_VR_exponential_c33
      unfold S_VR_exponential_J36 F_VR_exponential_J36
      exact vv_e1 h20 h21 hL hx2 _ _ _ _ ⟨by decide, by omega⟩ (by omega) ⟨by omega, by omega⟩
def Q_VR_fixed (x2 t0_17 : Int32) (p : Int32 × Int32 × Int32 × (Nat → Int32) × (Nat → Int32)) : Prop := t0_17.toInt ≤ p.1.toInt ∧ p.1.toInt ≤ t0_17.toInt + 140 + x2.toInt
theorem T_VR_fixed {x2 : Int32} {t0_0 : Int32} {t0_1 : Int32} {t0_2 : Int32} {t0_3 : Int32} {t0_4 : Int32} {t0_5 : Int32} {t0_6 : Int32} {t0_7 : Int32} {t0_8 : Int32} {t0_9 : Int32} {t0_10 : Int32} {t0_11 : Int32} {t0_12 : Int32} {t0_13 : Int32} {t0_14 : Int32} {t0_15 : Int32} {t0_16 : Int32} {t0_17 : Int32} {t0_18 : Int32} {t0_19 : Int32} {t0_20 : Int32} {t0_21 : Int32} {t1_0 : (Nat → Int32)} {t2_0 : (Nat → Int32)} (h20 : 0 ≤ t0_20.toInt ∧ t0_20.toInt ≤ 60) (h21 : -20000 ≤ t0_21.toInt ∧ t0_21.toInt ≤ 60) (hL : 0 ≤ t0_17.toInt ∧ t0_17.toInt ≤ 200)(hx2 : 0 ≤ x2.toInt ∧ x2.toInt ≤ 10200) : (S_VR_fixed x2 t0_0 t0_1 t0_2 t0_3 t0_4 t0_5 t0_6 t0_7 t0_8 t0_9 t0_10 t0_11 t0_12 t0_13 t0_14 t0_15 t0_16 t0_17 t0_18 t0_19 t0_20 t0_21 t1_0 t2_0) ∧ Q_VR_fixed x2 t0_17 (F_VR_fixed x2 t0_0 t0_1 t0_2 t0_3 t0_4 t0_5 t0_6 t0_7 t0_8 t0_9 t0_10 t0_11 t0_12 t0_13 t0_14 t0_15 t0_16 t0_17 t0_18 t0_19 t0_20 t0_21 t1_0 t2_0) := by
  have e0 : (0 : Int32).toInt = 0 := rfl
  have e1 : (1 : Int32).toInt = 1 := rfl
  have eL0 : (0 : Int64).toInt = 0 := rfl
  have em : (-1 : Int32).toInt = -1 := rfl
  unfold S_VR_fixed F_VR_fixed
  obtain ⟨a1, e2⟩ := q_nm (t0_21 + x2 : Int32)
  rw [e2]
  have a1i : a1.toInt = t0_21.toInt + x2.toInt := by rw [← e2]; exact q_addI (x := t0_21.toInt) (y := x2.toInt) rfl rfl (by omega) (by omega)
  have h3 := T_VR_keep (x2 := a1) (t0_0 := t0_0) (t0_1 := t0_1) (t0_2 := t0_2) (t0_3 := t0_3) (t0_4 := t0_4) (t0_5 := t0_5) (t0_6 := t0_6) (t0_7 := t0_7) (t0_8 := t0_8) (t0_9 := t0_9) (t0_10 := t0_10) (t0_11 := t0_11) (t0_12 := t0_12) (t0_13 := t0_13) (t0_14 := t0_14) (t0_15 := t0_15) (t0_16 := t0_16) (t0_17 := t0_17) (t0_18 := t0_18) (t0_19 := t0_19) (t0_20 := t0_20) (t0_21 := t0_21) (t1_0 := t2_0) ⟨by omega, by omega⟩ ⟨by omega, by omega⟩
  with_reducible refine v_owe h3.1 ?_
  replace h3 := h3.2
  generalize F_VR_keep a1 t0_0 t0_1 t0_2 t0_3 t0_4 t0_5 t0_6 t0_7 t0_8 t0_9 t0_10 t0_11 t0_12 t0_13 t0_14 t0_15 t0_16 t0_17 t0_18 t0_19 t0_20 t0_21 t2_0 = p47 at *
  unfold Q_VR_keep at h3
  unfold S_VR_fixed_c7 F_VR_fixed_c7
  have h4 := T_VR_plain (x2 := x2) (t0_0 := t0_0) (t0_1 := t0_1) (t0_2 := t0_2) (t0_3 := t0_3) (t0_4 := t0_4) (t0_5 := t0_5) (t0_6 := t0_6) (t0_7 := t0_7) (t0_8 := t0_8) (t0_9 := t0_9) (t0_10 := t0_10) (t0_11 := t0_11) (t0_12 := t0_12) (t0_13 := t0_13) (t0_14 := t0_14) (t0_15 := t0_15) (t0_16 := t0_16) (t0_17 := t0_17) (t0_18 := t0_18) (t0_19 := t0_19) (t0_20 := (p47.1 : Int32)) (t0_21 := (p47.2.1 : Int32)) (t1_0 := t1_0) (t2_0 := (p47.2.2 : (Nat → Int32))) ⟨by omega, by omega⟩ ⟨by omega, by omega⟩ ⟨by omega, by omega⟩ ⟨by first | omega | decide, by first | omega | decide⟩
  with_reducible refine v_owe h4.1 ?_
  replace h4 := h4.2
  generalize F_VR_plain x2 t0_0 t0_1 t0_2 t0_3 t0_4 t0_5 t0_6 t0_7 t0_8 t0_9 t0_10 t0_11 t0_12 t0_13 t0_14 t0_15 t0_16 t0_17 t0_18 t0_19 (p47.1 : Int32) (p47.2.1 : Int32) t1_0 (p47.2.2 : (Nat → Int32)) = p66 at *
  unfold Q_VR_plain at h4
  unfold S_VR_fixed_c12 F_VR_fixed_c12
  refine ⟨trivial, ?_⟩
  (unfold Q_VR_fixed; dsimp only; exact ⟨by omega, by omega⟩)
def Q_VR_general (x2 t0_17 : Int32) (p : Int32 × Int32 × Int32 × (Nat → Int32) × (Nat → Int32)) : Prop := t0_17.toInt ≤ p.1.toInt ∧ p.1.toInt ≤ t0_17.toInt + 150 + x2.toInt
theorem T_VR_general {x2 : Int32} {t0_0 : Int32} {t0_1 : Int32} {t0_2 : Int32} {t0_3 : Int32} {t0_4 : Int32} {t0_5 : Int32} {t0_6 : Int32} {t0_7 : Int32} {t0_8 : Int32} {t0_9 : Int32} {t0_10 : Int32} {t0_11 : Int32} {t0_12 : Int32} {t0_13 : Int32} {t0_14 : Int32} {t0_15 : Int32} {t0_16 : Int32} {t0_17 : Int32} {t0_18 : Int32} {t0_19 : Int32} {t0_20 : Int32} {t0_21 : Int32} {t1_0 : (Nat → Int32)} {t2_0 : (Nat → Int32)} (h20 : 0 ≤ t0_20.toInt ∧ t0_20.toInt ≤ 60) (h21 : -20000 ≤ t0_21.toInt ∧ t0_21.toInt ≤ 60) (hL : 0 ≤ t0_17.toInt ∧ t0_17.toInt ≤ 200)(hx2 : 1 ≤ x2.toInt ∧ x2.toInt ≤ 10000) : (S_VR_general x2 t0_0 t0_1 t0_2 t0_3 t0_4 t0_5 t0_6 t0_7 t0_8 t0_9 t0_10 t0_11 t0_12 t0_13 t0_14 t0_15 t0_16 t0_17 t0_18 t0_19 t0_20 t0_21 t1_0 t2_0) ∧ Q_VR_general x2 t0_17 (F_VR_general x2 t0_0 t0_1 t0_2 t0_3 t0_4 t0_5 t0_6 t0_7 t0_8 t0_9 t0_10 t0_11 t0_12 t0_13 t0_14 t0_15 t0_16 t0_17 t0_18 t0_19 t0_20 t0_21 t1_0 t2_0) := by
  have e0 : (0 : Int32).toInt = 0 := rfl
  have e1 : (1 : Int32).toInt = 1 := rfl
  have eL0 : (0 : Int64).toInt = 0 := rfl
  have em : (-1 : Int32).toInt = -1 := rfl
  unfold S_VR_general F_VR_general
  have h1 := T_VR_isZero (t0_0 := t0_0) (t0_1 := t0_1) (t0_2 := t0_2) (t0_3 := t0_3) (t0_4 := t0_4) (t0_5 := t0_5) (t0_6 := t0_6) (t0_7 := t0_7) (t0_8 := t0_8) (t0_9 := t0_9) (t0_10 := t0_10) (t0_11 := t0_11) (t0_12 := t0_12) (t0_13 := t0_13) (t0_14 := t0_14) (t0_15 := t0_15) (t0_16 := t0_16) (t0_17 := t0_17) (t0_18 := t0_18) (t0_19 := t0_19) (t0_20 := t0_20) (t0_21 := t0_21) (t1_0 := t2_0) (by omega)
  with_reducible refine v_owe h1 ?_
  by_cases g2 : ((F_VR_isZero t0_0 t0_1 t0_2 t0_3 t0_4 t0_5 t0_6 t0_7 t0_8 t0_9 t0_10 t0_11 t0_12 t0_13 t0_14 t0_15 t0_16 t0_17 t0_18 t0_19 t0_20 t0_21 t2_0) : Int32) = (0 : Int32)
  ·
    rw [if_pos g2, if_pos g2]
    have h3 := T_VR_keep (x2 := x2) (t0_0 := t0_0) (t0_1 := t0_1) (t0_2 := t0_2) (t0_3 := t0_3) (t0_4 := t0_4) (t0_5 := t0_5) (t0_6 := t0_6) (t0_7 := t0_7) (t0_8 := t0_8) (t0_9 := t0_9) (t0_10 := t0_10) (t0_11 := t0_11) (t0_12 := t0_12) (t0_13 := t0_13) (t0_14 := t0_14) (t0_15 := t0_15) (t0_16 := t0_16) (t0_17 := t0_17) (t0_18 := t0_18) (t0_19 := t0_19) (t0_20 := t0_20) (t0_21 := t0_21) (t1_0 := t2_0) ⟨by omega, by omega⟩ ⟨by omega, by omega⟩
    with_reducible refine v_owe h3.1 ?_
    replace h3 := h3.2
    generalize F_VR_keep x2 t0_0 t0_1 t0_2 t0_3 t0_4 t0_5 t0_6 t0_7 t0_8 t0_9 t0_10 t0_11 t0_12 t0_13 t0_14 t0_15 t0_16 t0_17 t0_18 t0_19 t0_20 t0_21 t2_0 = p55 at *
    unfold Q_VR_keep at h3
    unfold S_VR_general_c17 F_VR_general_c17
    obtain ⟨a4, e5⟩ := q_nm ((p55.2.1 : Int32) - 1 : Int32)
    rw [e5]
    have a4i : a4.toInt = (p55.2.1 : Int32).toInt - 1 := by rw [← e5]; exact q_subI (x := (p55.2.1 : Int32).toInt) (y := 1) rfl (by decide) (by omega) (by omega)
    by_cases g6 : a4 < (-4 : Int32)
    ·
      rw [if_pos g6, if_pos g6]
      have g6i : a4.toInt < -4 := q_ltI g6
      obtain ⟨a7, e8⟩ := q_nm (x2 - 1 : Int32)
      rw [e8]
      have a7i : a7.toInt = x2.toInt - 1 := by rw [← e8]; exact q_subI (x := x2.toInt) (y := 1) rfl (by decide) (by omega) (by omega)
      have h9 := T_VR_exponential (x2 := a7) (t0_0 := t0_0) (t0_1 := t0_1) (t0_2 := t0_2) (t0_3 := t0_3) (t0_4 := t0_4) (t0_5 := t0_5) (t0_6 := t0_6) (t0_7 := t0_7) (t0_8 := t0_8) (t0_9 := t0_9) (t0_10 := t0_10) (t0_11 := t0_11) (t0_12 := t0_12) (t0_13 := t0_13) (t0_14 := t0_14) (t0_15 := t0_15) (t0_16 := t0_16) (t0_17 := t0_17) (t0_18 := t0_18) (t0_19 := t0_19) (t0_20 := (p55.1 : Int32)) (t0_21 := (p55.2.1 : Int32)) (t1_0 := t1_0) (t2_0 := (p55.2.2 : (Nat → Int32))) ⟨by omega, by omega⟩ ⟨by omega, by omega⟩ ⟨by omega, by omega⟩ ⟨by first | omega | decide, by first | omega | decide⟩
      with_reducible refine v_owe h9.1 ?_
      replace h9 := h9.2
      generalize F_VR_exponential a7 t0_0 t0_1 t0_2 t0_3 t0_4 t0_5 t0_6 t0_7 t0_8 t0_9 t0_10 t0_11 t0_12 t0_13 t0_14 t0_15 t0_16 t0_17 t0_18 t0_19 (p55.1 : Int32) (p55.2.1 : Int32) t1_0 (p55.2.2 : (Nat → Int32)) = p84 at *
      unfold Q_VR_plain at h9
      unfold S_VR_general_c54 F_VR_general_c54
      refine ⟨trivial, ?_⟩
      (unfold Q_VR_general; dsimp only; exact ⟨by omega, by omega⟩)
    ·
      rw [if_neg g6, if_neg g6]
      have g6i : -4 ≤ a4.toInt := q_nltI g6
      by_cases g10 : x2 ≤ a4
      ·
        rw [if_pos g10, if_pos g10]
        have g10i : x2.toInt ≤ a4.toInt := q_leI g10
        obtain ⟨a11, e12⟩ := q_nm (x2 - 1 : Int32)
        rw [e12]
        have a11i : a11.toInt = x2.toInt - 1 := by rw [← e12]; exact q_subI (x := x2.toInt) (y := 1) rfl (by decide) (by omega) (by omega)
        have h13 := T_VR_exponential (x2 := a11) (t0_0 := t0_0) (t0_1 := t0_1) (t0_2 := t0_2) (t0_3 := t0_3) (t0_4 := t0_4) (t0_5 := t0_5) (t0_6 := t0_6) (t0_7 := t0_7) (t0_8 := t0_8) (t0_9 := t0_9) (t0_10 := t0_10) (t0_11 := t0_11) (t0_12 := t0_12) (t0_13 := t0_13) (t0_14 := t0_14) (t0_15 := t0_15) (t0_16 := t0_16) (t0_17 := t0_17) (t0_18 := t0_18) (t0_19 := t0_19) (t0_20 := (p55.1 : Int32)) (t0_21 := (p55.2.1 : Int32)) (t1_0 := t1_0) (t2_0 := (p55.2.2 : (Nat → Int32))) ⟨by omega, by omega⟩ ⟨by omega, by omega⟩ ⟨by omega, by omega⟩ ⟨by first | omega | decide, by first | omega | decide⟩
        with_reducible refine v_owe h13.1 ?_
        replace h13 := h13.2
        generalize F_VR_exponential a11 t0_0 t0_1 t0_2 t0_3 t0_4 t0_5 t0_6 t0_7 t0_8 t0_9 t0_10 t0_11 t0_12 t0_13 t0_14 t0_15 t0_16 t0_17 t0_18 t0_19 (p55.1 : Int32) (p55.2.1 : Int32) t1_0 (p55.2.2 : (Nat → Int32)) = p111 at *
        unfold Q_VR_plain at h13
        unfold S_VR_general_c54_3 F_VR_general_c54_3
        refine ⟨trivial, ?_⟩
        (unfold Q_VR_general; dsimp only; exact ⟨by omega, by omega⟩)
      ·
        rw [if_neg g10, if_neg g10]
        have g10i : a4.toInt < x2.toInt := q_nleI g10
        obtain ⟨a14, e15⟩ := q_nm (x2 - 1 : Int32)
        rw [e15]
        have a14i : a14.toInt = x2.toInt - 1 := by rw [← e15]; exact q_subI (x := x2.toInt) (y := 1) rfl (by decide) (by omega) (by omega)
        obtain ⟨a16, e17⟩ := q_nm (a14 - a4 : Int32)
        rw [e17]
        have a16i : a16.toInt = a14.toInt - a4.toInt := by rw [← e17]; exact q_subI (x := a14.toInt) (y := a4.toInt) rfl rfl (by omega) (by omega)
        have h18 := T_VR_plain (x2 := a16) (t0_0 := t0_0) (t0_1 := t0_1) (t0_2 := t0_2) (t0_3 := t0_3) (t0_4 := t0_4) (t0_5 := t0_5) (t0_6 := t0_6) (t0_7 := t0_7) (t0_8 := t0_8) (t0_9 := t0_9) (t0_10 := t0_10) (t0_11 := t0_11) (t0_12 := t0_12) (t0_13 := t0_13) (t0_14 := t0_14) (t0_15 := t0_15) (t0_16 := t0_16) (t0_17 := t0_17) (t0_18 := t0_18) (t0_19 := t0_19) (t0_20 := (p55.1 : Int32)) (t0_21 := (p55.2.1 : Int32)) (t1_0 := t1_0) (t2_0 := (p55.2.2 : (Nat → Int32))) ⟨by omega, by omega⟩ ⟨by omega, by omega⟩ ⟨by omega, by omega⟩ ⟨by first | omega | decide, by first | omega | decide⟩
        with_reducible refine v_owe h18.1 ?_
        replace h18 := h18.2
        generalize F_VR_plain a16 t0_0 t0_1 t0_2 t0_3 t0_4 t0_5 t0_6 t0_7 t0_8 t0_9 t0_10 t0_11 t0_12 t0_13 t0_14 t0_15 t0_16 t0_17 t0_18 t0_19 (p55.1 : Int32) (p55.2.1 : Int32) t1_0 (p55.2.2 : (Nat → Int32)) = p135 at *
        unfold Q_VR_plain at h18
        unfold S_VR_general_c44 F_VR_general_c44
        refine ⟨trivial, ?_⟩
        (unfold Q_VR_general; dsimp only; exact ⟨by omega, by omega⟩)
  ·
    rw [if_neg g2, if_neg g2]
    obtain ⟨a19, e20⟩ := q_nm (x2 - 1 : Int32)
    rw [e20]
    have a19i : a19.toInt = x2.toInt - 1 := by rw [← e20]; exact q_subI (x := x2.toInt) (y := 1) rfl (by decide) (by omega) (by omega)
    have h21 := T_VR_plain (x2 := a19) (t0_0 := t0_0) (t0_1 := t0_1) (t0_2 := t0_2) (t0_3 := t0_3) (t0_4 := t0_4) (t0_5 := t0_5) (t0_6 := t0_6) (t0_7 := t0_7) (t0_8 := t0_8) (t0_9 := t0_9) (t0_10 := t0_10) (t0_11 := t0_11) (t0_12 := t0_12) (t0_13 := t0_13) (t0_14 := t0_14) (t0_15 := t0_15) (t0_16 := t0_16) (t0_17 := t0_17) (t0_18 := t0_18) (t0_19 := t0_19) (t0_20 := t0_20) (t0_21 := t0_21) (t1_0 := t1_0) (t2_0 := t2_0) ⟨by omega, by omega⟩ ⟨by omega, by omega⟩ ⟨by omega, by omega⟩ ⟨by first | omega | decide, by first | omega | decide⟩
    with_reducible refine v_owe h21.1 ?_
    replace h21 := h21.2
    generalize F_VR_plain a19 t0_0 t0_1 t0_2 t0_3 t0_4 t0_5 t0_6 t0_7 t0_8 t0_9 t0_10 t0_11 t0_12 t0_13 t0_14 t0_15 t0_16 t0_17 t0_18 t0_19 t0_20 t0_21 t1_0 t2_0 = p156 at *
    unfold Q_VR_plain at h21
    unfold S_VR_general_c11 F_VR_general_c11
    refine ⟨trivial, ?_⟩
    (unfold Q_VR_general; dsimp only; exact ⟨by omega, by omega⟩)
def Q_VR_dec (t0_17 : Int32) (p : Int32 × Int32 × Int32 × (Nat → Int32) × (Nat → Int32)) : Prop := t0_17.toInt ≤ p.1.toInt ∧ p.1.toInt ≤ t0_17.toInt + 10300
theorem T_VR_decJ {x2 : Int32} {t0_0 : Int32} {t0_1 : Int32} {t0_2 : Int32} {t0_3 : Int32} {t0_4 : Int32} {t0_5 : Int32} {t0_6 : Int32} {t0_7 : Int32} {t0_8 : Int32} {t0_9 : Int32} {t0_10 : Int32} {t0_11 : Int32} {t0_12 : Int32} {t0_13 : Int32} {t0_14 : Int32} {t0_15 : Int32} {t0_16 : Int32} {t0_17 : Int32} {t0_18 : Int32} {t0_19 : Int32} {t0_20 : Int32} {t0_21 : Int32} {t1_0 : (Nat → Int32)} {t2_0 : (Nat → Int64)} {t3_0 : (Nat → Int32)} {t4_0 : (Nat → Int32)} {p63 : (Int32 × Int32 × (Nat → Int32))} {y53 : Int32} {a75 : Int32} {f55 : (Nat → Int32)} {lx79 : Int32} (hM : 0 ≤ y53.toInt ∧ y53.toInt ≤ 60) (hP : -20000 ≤ a75.toInt ∧ a75.toInt ≤ 60) (hL : 0 ≤ t0_17.toInt ∧ t0_17.toInt ≤ 200) (hp : 0 ≤ lx79.toInt ∧ lx79.toInt ≤ 9999) : (S_VR_decimal_IV_J52 x2 t0_0 t0_1 t0_2 t0_3 t0_4 t0_5 t0_6 t0_7 t0_8 t0_9 t0_10 t0_11 t0_12 t0_13 t0_14 t0_15 t0_16 t0_17 t0_18 t0_19 t0_20 t0_21 t1_0 t2_0 t3_0 t4_0 p63 y53 a75 f55 lx79) ∧ Q_VR_dec t0_17 (F_VR_decimal_IV_J52 x2 t0_0 t0_1 t0_2 t0_3 t0_4 t0_5 t0_6 t0_7 t0_8 t0_9 t0_10 t0_11 t0_12 t0_13 t0_14 t0_15 t0_16 t0_17 t0_18 t0_19 t0_20 t0_21 t1_0 t2_0 t3_0 t4_0 p63 y53 a75 f55 lx79) := by
  have e0 : (0 : Int32).toInt = 0 := rfl
  have e1 : (1 : Int32).toInt = 1 := rfl
  have eL0 : (0 : Int64).toInt = 0 := rfl
  have em : (-1 : Int32).toInt = -1 := rfl
  unfold S_VR_decimal_IV_J52 F_VR_decimal_IV_J52
  by_cases g1 : x2 = (102 : Int32)
  ·
    rw [if_pos g1, if_pos g1]
    have h2 := T_VR_fixed (x2 := lx79) (t0_0 := t0_0) (t0_1 := t0_1) (t0_2 := t0_2) (t0_3 := t0_3) (t0_4 := t0_4) (t0_5 := t0_5) (t0_6 := t0_6) (t0_7 := t0_7) (t0_8 := t0_8) (t0_9 := t0_9) (t0_10 := t0_10) (t0_11 := t0_11) (t0_12 := t0_12) (t0_13 := t0_13) (t0_14 := t0_14) (t0_15 := t0_15) (t0_16 := t0_16) (t0_17 := t0_17) (t0_18 := t0_18) (t0_19 := t0_19) (t0_20 := y53) (t0_21 := a75) (t1_0 := t3_0) (t2_0 := f55) ⟨by omega, by omega⟩ ⟨by omega, by omega⟩ ⟨by omega, by omega⟩ ⟨by first | omega | decide, by first | omega | decide⟩
    with_reducible refine v_owe h2.1 ?_
    replace h2 := h2.2
    generalize F_VR_fixed lx79 t0_0 t0_1 t0_2 t0_3 t0_4 t0_5 t0_6 t0_7 t0_8 t0_9 t0_10 t0_11 t0_12 t0_13 t0_14 t0_15 t0_16 t0_17 t0_18 t0_19 y53 a75 t3_0 f55 = p208 at *
    unfold Q_VR_fixed at h2
    unfold S_VR_decimal_IV_c61 F_VR_decimal_IV_c61
    refine ⟨trivial, ?_⟩
    (unfold Q_VR_dec; dsimp only; exact ⟨by omega, by omega⟩)
  ·
    rw [if_neg g1, if_neg g1]
    by_cases g3 : x2 = (101 : Int32)
    ·
      rw [if_pos g3, if_pos g3]
      obtain ⟨a4, e5⟩ := q_nm (lx79 + 1 : Int32)
      rw [e5]
      have a4i : a4.toInt = lx79.toInt + 1 := by rw [← e5]; exact q_addI (x := lx79.toInt) (y := 1) rfl (by decide) (by omega) (by omega)
      have h6 := T_VR_keep (x2 := a4) (t0_0 := t0_0) (t0_1 := t0_1) (t0_2 := t0_2) (t0_3 := t0_3) (t0_4 := t0_4) (t0_5 := t0_5) (t0_6 := t0_6) (t0_7 := t0_7) (t0_8 := t0_8) (t0_9 := t0_9) (t0_10 := t0_10) (t0_11 := t0_11) (t0_12 := t0_12) (t0_13 := t0_13) (t0_14 := t0_14) (t0_15 := t0_15) (t0_16 := t0_16) (t0_17 := t0_17) (t0_18 := t0_18) (t0_19 := t0_19) (t0_20 := y53) (t0_21 := a75) (t1_0 := f55) ⟨by omega, by omega⟩ ⟨by omega, by omega⟩
      with_reducible refine v_owe h6.1 ?_
      replace h6 := h6.2
      generalize F_VR_keep a4 t0_0 t0_1 t0_2 t0_3 t0_4 t0_5 t0_6 t0_7 t0_8 t0_9 t0_10 t0_11 t0_12 t0_13 t0_14 t0_15 t0_16 t0_17 t0_18 t0_19 y53 a75 f55 = p162 at *
      unfold Q_VR_keep at h6
      unfold S_VR_decimal_IV_c77 F_VR_decimal_IV_c77
      have h7 := T_VR_exponential (x2 := lx79) (t0_0 := t0_0) (t0_1 := t0_1) (t0_2 := t0_2) (t0_3 := t0_3) (t0_4 := t0_4) (t0_5 := t0_5) (t0_6 := t0_6) (t0_7 := t0_7) (t0_8 := t0_8) (t0_9 := t0_9) (t0_10 := t0_10) (t0_11 := t0_11) (t0_12 := t0_12) (t0_13 := t0_13) (t0_14 := t0_14) (t0_15 := t0_15) (t0_16 := t0_16) (t0_17 := t0_17) (t0_18 := t0_18) (t0_19 := t0_19) (t0_20 := (p162.1 : Int32)) (t0_21 := (p162.2.1 : Int32)) (t1_0 := t3_0) (t2_0 := (p162.2.2 : (Nat → Int32))) ⟨by omega, by omega⟩ ⟨by omega, by omega⟩ ⟨by omega, by omega⟩ ⟨by first | omega | decide, by first | omega | decide⟩
      with_reducible refine v_owe h7.1 ?_
      replace h7 := h7.2
      generalize F_VR_exponential lx79 t0_0 t0_1 t0_2 t0_3 t0_4 t0_5 t0_6 t0_7 t0_8 t0_9 t0_10 t0_11 t0_12 t0_13 t0_14 t0_15 t0_16 t0_17 t0_18 t0_19 (p162.1 : Int32) (p162.2.1 : Int32) t3_0 (p162.2.2 : (Nat → Int32)) = p185 at *
      unfold Q_VR_plain at h7
      unfold S_VR_decimal_IV_c82 F_VR_decimal_IV_c82
      refine ⟨trivial, ?_⟩
      (unfold Q_VR_dec; dsimp only; exact ⟨by omega, by omega⟩)
    ·
      rw [if_neg g3, if_neg g3]
      by_cases g8 : lx79 = (0 : Int32)
      ·
        rw [if_pos g8, if_pos g8]
        have g8i : lx79.toInt = 0 := q_eqI g8
        have h9 := T_VR_general (x2 := (1 : Int32)) (t0_0 := t0_0) (t0_1 := t0_1) (t0_2 := t0_2) (t0_3 := t0_3) (t0_4 := t0_4) (t0_5 := t0_5) (t0_6 := t0_6) (t0_7 := t0_7) (t0_8 := t0_8) (t0_9 := t0_9) (t0_10 := t0_10) (t0_11 := t0_11) (t0_12 := t0_12) (t0_13 := t0_13) (t0_14 := t0_14) (t0_15 := t0_15) (t0_16 := t0_16) (t0_17 := t0_17) (t0_18 := t0_18) (t0_19 := t0_19) (t0_20 := y53) (t0_21 := a75) (t1_0 := t3_0) (t2_0 := f55) ⟨by omega, by omega⟩ ⟨by omega, by omega⟩ ⟨by omega, by omega⟩ ⟨by first | omega | decide, by first | omega | decide⟩
        with_reducible refine v_owe h9.1 ?_
        replace h9 := h9.2
        generalize F_VR_general (1 : Int32) t0_0 t0_1 t0_2 t0_3 t0_4 t0_5 t0_6 t0_7 t0_8 t0_9 t0_10 t0_11 t0_12 t0_13 t0_14 t0_15 t0_16 t0_17 t0_18 t0_19 y53 a75 t3_0 f55 = p137 at *
        unfold Q_VR_general at h9
        unfold S_VR_decimal_IV_c98_4 F_VR_decimal_IV_c98_4
        refine ⟨trivial, ?_⟩
        (unfold Q_VR_dec; dsimp only; exact ⟨by omega, by omega⟩)
      ·
        rw [if_neg g8, if_neg g8]
        have g8i : lx79.toInt ≠ 0 := q_neI g8
        have h10 := T_VR_general (x2 := lx79) (t0_0 := t0_0) (t0_1 := t0_1) (t0_2 := t0_2) (t0_3 := t0_3) (t0_4 := t0_4) (t0_5 := t0_5) (t0_6 := t0_6) (t0_7 := t0_7) (t0_8 := t0_8) (t0_9 := t0_9) (t0_10 := t0_10) (t0_11 := t0_11) (t0_12 := t0_12) (t0_13 := t0_13) (t0_14 := t0_14) (t0_15 := t0_15) (t0_16 := t0_16) (t0_17 := t0_17) (t0_18 := t0_18) (t0_19 := t0_19) (t0_20 := y53) (t0_21 := a75) (t1_0 := t3_0) (t2_0 := f55) ⟨by omega, by omega⟩ ⟨by omega, by omega⟩ ⟨by omega, by omega⟩ ⟨by first | omega | decide, by first | omega | decide⟩
        with_reducible refine v_owe h10.1 ?_
        replace h10 := h10.2
        generalize F_VR_general lx79 t0_0 t0_1 t0_2 t0_3 t0_4 t0_5 t0_6 t0_7 t0_8 t0_9 t0_10 t0_11 t0_12 t0_13 t0_14 t0_15 t0_16 t0_17 t0_18 t0_19 y53 a75 t3_0 f55 = p111 at *
        unfold Q_VR_general at h10
        unfold S_VR_decimal_IV_c98 F_VR_decimal_IV_c98
        refine ⟨trivial, ?_⟩
        (unfold Q_VR_dec; dsimp only; exact ⟨by omega, by omega⟩)
theorem vr_pt {t : Nat → Int32} {m a : Int32} (hZ : ∀ i, i < 9 → 0 ≤ (t i).toInt ∧ (t i).toInt ≤ 64) (ha : 0 ≤ a.toInt ∧ a.toInt ≤ 8) (hm : 1 ≤ m.toInt ∧ m.toInt ≤ 24) : -20000 ≤ (m - t a.toNatClampNeg : Int32).toInt ∧ (m - t a.toNatClampNeg : Int32).toInt ≤ 60 ∧ (m - t a.toNatClampNeg : Int32).toInt = m.toInt - (t a.toNatClampNeg).toInt ∧ 0 ≤ (t a.toNatClampNeg).toInt ∧ (t a.toNatClampNeg).toInt ≤ 64 := by
  have e := q_clI (i := a) rfl ha.1
  have z := hZ a.toNatClampNeg (by omega)
  have s : (m - t a.toNatClampNeg : Int32).toInt = m.toInt - (t a.toNatClampNeg).toInt := q_subI rfl rfl (by omega) (by omega)
  omega
theorem T_VR_decimal_IV {x2 : Int32} {t0_0 : Int32} {t0_1 : Int32} {t0_2 : Int32} {t0_3 : Int32} {t0_4 : Int32} {t0_5 : Int32} {t0_6 : Int32} {t0_7 : Int32} {t0_8 : Int32} {t0_9 : Int32} {t0_10 : Int32} {t0_11 : Int32} {t0_12 : Int32} {t0_13 : Int32} {t0_14 : Int32} {t0_15 : Int32} {t0_16 : Int32} {t0_17 : Int32} {t0_18 : Int32} {t0_19 : Int32} {t0_20 : Int32} {t0_21 : Int32} {t1_0 : (Nat → Int32)} {t2_0 : (Nat → Int64)} {t3_0 : (Nat → Int32)} {t4_0 : (Nat → Int32)} (hZ : ∀ i, i < 9 → 0 ≤ (t1_0 i).toInt ∧ (t1_0 i).toInt ≤ 64) (h14 : 0 ≤ t0_14.toInt ∧ t0_14.toInt ≤ 8) (h12 : t0_12.toInt ≤ 9999) (hL : 0 ≤ t0_17.toInt ∧ t0_17.toInt ≤ 200) : (S_VR_decimal_IV x2 t0_0 t0_1 t0_2 t0_3 t0_4 t0_5 t0_6 t0_7 t0_8 t0_9 t0_10 t0_11 t0_12 t0_13 t0_14 t0_15 t0_16 t0_17 t0_18 t0_19 t0_20 t0_21 t1_0 t2_0 t3_0 t4_0) ∧ Q_VR_dec t0_17 (F_VR_decimal_IV x2 t0_0 t0_1 t0_2 t0_3 t0_4 t0_5 t0_6 t0_7 t0_8 t0_9 t0_10 t0_11 t0_12 t0_13 t0_14 t0_15 t0_16 t0_17 t0_18 t0_19 t0_20 t0_21 t1_0 t2_0 t3_0 t4_0) := by
  have e0 : (0 : Int32).toInt = 0 := rfl
  have e1 : (1 : Int32).toInt = 1 := rfl
  have eL0 : (0 : Int64).toInt = 0 := rfl
  have em : (-1 : Int32).toInt = -1 := rfl
  unfold S_VR_decimal_IV F_VR_decimal_IV
  refine v_cons (by first | omega | decide) ?_
  refine v_cons (by first | omega | decide) ?_
  have h1 := T_VR_spread (x2 := ((F_VR_size64 (t2_0 t0_14.toNatClampNeg : Int64)) : Int64)) (x3 := (10 : Int32)) (t0_0 := t0_0) (t0_1 := t0_1) (t0_2 := t0_2) (t0_3 := t0_3) (t0_4 := t0_4) (t0_5 := t0_5) (t0_6 := t0_6) (t0_7 := t0_7) (t0_8 := t0_8) (t0_9 := t0_9) (t0_10 := t0_10) (t0_11 := t0_11) (t0_12 := t0_12) (t0_13 := t0_13) (t0_14 := t0_14) (t0_15 := t0_15) (t0_16 := t0_16) (t0_17 := t0_17) (t0_18 := t0_18) (t0_19 := t0_19) (t0_20 := t0_20) (t0_21 := t0_21) (t1_0 := t4_0) (by decide)
  with_reducible refine v_owe h1.1 ?_
  replace h1 := h1.2
  generalize F_VR_spread ((F_VR_size64 (t2_0 t0_14.toNatClampNeg : Int64)) : Int64) (10 : Int32) t0_0 t0_1 t0_2 t0_3 t0_4 t0_5 t0_6 t0_7 t0_8 t0_9 t0_10 t0_11 t0_12 t0_13 t0_14 t0_15 t0_16 t0_17 t0_18 t0_19 t0_20 t0_21 t4_0 = p63 at *
  unfold Q_VR_spread at h1
  have h121 := congrArg Int32.toInt h1.2
  have s20 := h1.1
  unfold S_VR_decimal_IV_c15 F_VR_decimal_IV_c15
  by_cases g2 : (0 : Int32) ≤ t0_12
  ·
    rw [if_pos g2, if_pos g2]
    have g2i : 0 ≤ t0_12.toInt := q_leI g2
    exact T_VR_decJ ⟨by omega, by omega⟩ ⟨(vr_pt hZ h14 s20).1, (vr_pt hZ h14 s20).2.1⟩ hL ⟨by omega, by omega⟩
  ·
    rw [if_neg g2, if_neg g2]
    have g2i : t0_12.toInt < 0 := q_nleI g2
    exact T_VR_decJ ⟨by omega, by omega⟩ ⟨(vr_pt hZ h14 s20).1, (vr_pt hZ h14 s20).2.1⟩ hL (by decide)

/-! DirectiveRows: numeric, string, widen, make -/
def Q_VR_num (t0_17 : Int32) (p : Int32 × Int32 × Int32 × Int32 × Int32 × (Nat → Int32) × (Nat → Int32)) : Prop := (t0_17.toInt ≤ p.1.toInt ∧ p.1.toInt ≤ t0_17.toInt + 10320) ∧ (t0_17.toInt ≤ p.2.1.toInt ∧ p.2.1.toInt ≤ p.1.toInt)
theorem vv_n1 {x2 : Int32} {t0_0 : Int32} {t0_1 : Int32} {t0_2 : Int32} {t0_3 : Int32} {t0_4 : Int32} {t0_5 : Int32} {t0_6 : Int32} {t0_7 : Int32} {t0_8 : Int32} {t0_9 : Int32} {t0_10 : Int32} {t0_11 : Int32} {t0_12 : Int32} {t0_13 : Int32} {t0_14 : Int32} {t0_15 : Int32} {t0_16 : Int32} {t0_17 : Int32} {t0_18 : Int32} {t0_19 : Int32} {t0_20 : Int32} {t0_21 : Int32} {t1_0 : (Nat → Int32)} {t2_0 : (Nat → Int64)} {t3_0 : (Nat → Int32)} {t4_0 : (Nat → Int32)} {j42 : Int64} {a46 : Int32} {lx53 : Int32} {lx67 : Int32} {lx81 : Int32} {lx82 : (Nat → Int32)} {lx95 : Int32} {lx96 : (Nat → Int32)} {lx178 : Int64} {lx190 : Int32} {p218 : (Int32 × Int32 × (Nat → Int32))} {y208 : Int32} {y209 : Int32} {f210 : (Nat → Int32)} (hy : 1 ≤ y208.toInt ∧ y208.toInt ≤ 24) (h95 : t0_17.toInt ≤ lx95.toInt ∧ lx95.toInt ≤ t0_17.toInt + 9) (hL : 0 ≤ t0_17.toInt ∧ t0_17.toInt ≤ 100) : ∀ (n : Nat) (lx229 : Int32) (lx230 : Int32) (lx231 : (Nat → Int32)), (0 ≤ lx229.toInt ∧ lx229.toInt ≤ y208.toInt) → (y208.toInt - lx229.toInt < (n : Int)) → (lx95.toInt ≤ lx230.toInt ∧ lx230.toInt ≤ lx95.toInt + lx229.toInt) → (S_VR_numeric_L248 x2 t0_0 t0_1 t0_2 t0_3 t0_4 t0_5 t0_6 t0_7 t0_8 t0_9 t0_10 t0_11 t0_12 t0_13 t0_14 t0_15 t0_16 t0_17 t0_18 t0_19 t0_20 t0_21 t1_0 t2_0 t3_0 t4_0 j42 a46 lx53 lx67 lx81 lx82 lx95 lx96 lx178 lx190 p218 y208 y209 f210 n lx229 lx230 lx231) ∧ Q_VR_num t0_17 (F_VR_numeric_L248 x2 t0_0 t0_1 t0_2 t0_3 t0_4 t0_5 t0_6 t0_7 t0_8 t0_9 t0_10 t0_11 t0_12 t0_13 t0_14 t0_15 t0_16 t0_17 t0_18 t0_19 t0_20 t0_21 t1_0 t2_0 t3_0 t4_0 j42 a46 lx53 lx67 lx81 lx82 lx95 lx96 lx178 lx190 p218 y208 y209 f210 n lx229 lx230 lx231) := by
  intro n
  induction n with
  | zero => intro lx229 lx230 lx231 h0 hm hs; exact absurd (show False by omega) id
  | succ n ih =>
    intro lx229 lx230 lx231 h0 hm hs
    have e0 : (0 : Int32).toInt = 0 := rfl
    have e1 : (1 : Int32).toInt = 1 := rfl
    have eL0 : (0 : Int64).toInt = 0 := rfl
    have em : (-1 : Int32).toInt = -1 := rfl
    rw [S_VR_numeric_L248.eq_2, F_VR_numeric_L248.eq_2]
    by_cases g1 : y208 ≤ lx229
    ·
      rw [if_pos g1, if_pos g1]
      have g1i : y208.toInt ≤ lx229.toInt := q_leI g1
      refine ⟨trivial, ?_⟩
      (unfold Q_VR_num; dsimp only; exact ⟨⟨by omega, by omega⟩, ⟨by omega, by omega⟩⟩)
    ·
      rw [if_neg g1, if_neg g1]
      have g1i : lx229.toInt < y208.toInt := q_nleI g1
      refine v_cons (by first | omega | decide) ?_
      by_cases g2 : (10 : Int32) ≤ (f210 lx229.toNatClampNeg : Int32)
      ·
        rw [if_pos g2, if_pos g2]
        have h3 := T_VR_put (x2 := ((97 + (f210 lx229.toNatClampNeg : Int32) : Int32) - 10 : Int32)) (t0_0 := t0_0) (t0_1 := t0_1) (t0_2 := t0_2) (t0_3 := t0_3) (t0_4 := t0_4) (t0_5 := t0_5) (t0_6 := t0_6) (t0_7 := t0_7) (t0_8 := t0_8) (t0_9 := t0_9) (t0_10 := t0_10) (t0_11 := t0_11) (t0_12 := t0_12) (t0_13 := t0_13) (t0_14 := t0_14) (t0_15 := t0_15) (t0_16 := t0_16) (t0_17 := lx230) (t0_18 := lx95) (t0_19 := a46) (t0_20 := y208) (t0_21 := y209) (t1_0 := lx231) ⟨by first | omega | decide, by first | omega | decide⟩
        with_reducible refine v_owe h3.1 ?_
        replace h3 := h3.2
        generalize F_VR_put ((97 + (f210 lx229.toNatClampNeg : Int32) : Int32) - 10 : Int32) t0_0 t0_1 t0_2 t0_3 t0_4 t0_5 t0_6 t0_7 t0_8 t0_9 t0_10 t0_11 t0_12 t0_13 t0_14 t0_15 t0_16 lx230 lx95 a46 y208 y209 lx231 = p276 at *
        unfold Q_VR_put at h3
        unfold S_VR_numeric_c296 F_VR_numeric_c296
        obtain ⟨a4, e5⟩ := q_nm (lx229 + 1 : Int32)
        rw [e5]
        have a4i : a4.toInt = lx229.toInt + 1 := by rw [← e5]; exact q_addI (x := lx229.toInt) (y := 1) rfl (by decide) (by omega) (by omega)
        exact ih _ _ _ ⟨by omega, by omega⟩ (by omega) ⟨by omega, by omega⟩
      ·
        rw [if_neg g2, if_neg g2]
        have h6 := T_VR_put (x2 := (48 + (f210 lx229.toNatClampNeg : Int32) : Int32)) (t0_0 := t0_0) (t0_1 := t0_1) (t0_2 := t0_2) (t0_3 := t0_3) (t0_4 := t0_4) (t0_5 := t0_5) (t0_6 := t0_6) (t0_7 := t0_7) (t0_8 := t0_8) (t0_9 := t0_9) (t0_10 := t0_10) (t0_11 := t0_11) (t0_12 := t0_12) (t0_13 := t0_13) (t0_14 := t0_14) (t0_15 := t0_15) (t0_16 := t0_16) (t0_17 := lx230) (t0_18 := lx95) (t0_19 := a46) (t0_20 := y208) (t0_21 := y209) (t1_0 := lx231) ⟨by first | omega | decide, by first | omega | decide⟩
        with_reducible refine v_owe h6.1 ?_
        replace h6 := h6.2
        generalize F_VR_put (48 + (f210 lx229.toNatClampNeg : Int32) : Int32) t0_0 t0_1 t0_2 t0_3 t0_4 t0_5 t0_6 t0_7 t0_8 t0_9 t0_10 t0_11 t0_12 t0_13 t0_14 t0_15 t0_16 lx230 lx95 a46 y208 y209 lx231 = p306 at *
        unfold Q_VR_put at h6
        unfold S_VR_numeric_c296_12 F_VR_numeric_c296_12
        obtain ⟨a7, e8⟩ := q_nm (lx229 + 1 : Int32)
        rw [e8]
        have a7i : a7.toInt = lx229.toInt + 1 := by rw [← e8]; exact q_addI (x := lx229.toInt) (y := 1) rfl (by decide) (by omega) (by omega)
        exact ih _ _ _ ⟨by omega, by omega⟩ (by omega) ⟨by omega, by omega⟩
theorem T_VR_num242 {x2 : Int32} {t0_0 : Int32} {t0_1 : Int32} {t0_2 : Int32} {t0_3 : Int32} {t0_4 : Int32} {t0_5 : Int32} {t0_6 : Int32} {t0_7 : Int32} {t0_8 : Int32} {t0_9 : Int32} {t0_10 : Int32} {t0_11 : Int32} {t0_12 : Int32} {t0_13 : Int32} {t0_14 : Int32} {t0_15 : Int32} {t0_16 : Int32} {t0_17 : Int32} {t0_18 : Int32} {t0_19 : Int32} {t0_20 : Int32} {t0_21 : Int32} {t1_0 : (Nat → Int32)} {t2_0 : (Nat → Int64)} {t3_0 : (Nat → Int32)} {t4_0 : (Nat → Int32)} {j42 : Int64} {a46 : Int32} {lx53 : Int32} {lx67 : Int32} {lx81 : Int32} {lx82 : (Nat → Int32)} {lx95 : Int32} {lx96 : (Nat → Int32)} {lx178 : Int64} {lx190 : Int32} (h190 : 8 ≤ lx190.toInt ∧ lx190.toInt ≤ 16) (h95 : t0_17.toInt ≤ lx95.toInt ∧ lx95.toInt ≤ t0_17.toInt + 9) (hL : 0 ≤ t0_17.toInt ∧ t0_17.toInt ≤ 100) : (S_VR_numeric_J242 x2 t0_0 t0_1 t0_2 t0_3 t0_4 t0_5 t0_6 t0_7 t0_8 t0_9 t0_10 t0_11 t0_12 t0_13 t0_14 t0_15 t0_16 t0_17 t0_18 t0_19 t0_20 t0_21 t1_0 t2_0 t3_0 t4_0 j42 a46 lx53 lx67 lx81 lx82 lx95 lx96 lx178 lx190) ∧ Q_VR_num t0_17 (F_VR_numeric_J242 x2 t0_0 t0_1 t0_2 t0_3 t0_4 t0_5 t0_6 t0_7 t0_8 t0_9 t0_10 t0_11 t0_12 t0_13 t0_14 t0_15 t0_16 t0_17 t0_18 t0_19 t0_20 t0_21 t1_0 t2_0 t3_0 t4_0 j42 a46 lx53 lx67 lx81 lx82 lx95 lx96 lx178 lx190) := by
  have e0 : (0 : Int32).toInt = 0 := rfl
  have e1 : (1 : Int32).toInt = 1 := rfl
  have eL0 : (0 : Int64).toInt = 0 := rfl
  have em : (-1 : Int32).toInt = -1 := rfl
  unfold S_VR_numeric_J242 F_VR_numeric_J242
  have h1 := T_VR_spread (x2 := lx178) (x3 := lx190) (t0_0 := t0_0) (t0_1 := t0_1) (t0_2 := t0_2) (t0_3 := t0_3) (t0_4 := t0_4) (t0_5 := t0_5) (t0_6 := t0_6) (t0_7 := t0_7) (t0_8 := t0_8) (t0_9 := t0_9) (t0_10 := t0_10) (t0_11 := t0_11) (t0_12 := t0_12) (t0_13 := t0_13) (t0_14 := t0_14) (t0_15 := t0_15) (t0_16 := t0_16) (t0_17 := lx95) (t0_18 := lx95) (t0_19 := a46) (t0_20 := t0_20) (t0_21 := t0_21) (t1_0 := t4_0) h190
  with_reducible refine v_owe h1.1 ?_
  replace h1 := h1.2
  generalize F_VR_spread lx178 lx190 t0_0 t0_1 t0_2 t0_3 t0_4 t0_5 t0_6 t0_7 t0_8 t0_9 t0_10 t0_11 t0_12 t0_13 t0_14 t0_15 t0_16 lx95 lx95 a46 t0_20 t0_21 t4_0 = p218 at *
  unfold Q_VR_spread at h1
  have h121 := congrArg Int32.toInt h1.2
  have s20 := h1.1
  unfold S_VR_numeric_c242 F_VR_numeric_c242
  exact vv_n1 s20 h95 hL _ _ _ _ ⟨by decide, by omega⟩ (by omega) ⟨by omega, by omega⟩
theorem T_VR_num161 {x2 : Int32} {t0_0 : Int32} {t0_1 : Int32} {t0_2 : Int32} {t0_3 : Int32} {t0_4 : Int32} {t0_5 : Int32} {t0_6 : Int32} {t0_7 : Int32} {t0_8 : Int32} {t0_9 : Int32} {t0_10 : Int32} {t0_11 : Int32} {t0_12 : Int32} {t0_13 : Int32} {t0_14 : Int32} {t0_15 : Int32} {t0_16 : Int32} {t0_17 : Int32} {t0_18 : Int32} {t0_19 : Int32} {t0_20 : Int32} {t0_21 : Int32} {t1_0 : (Nat → Int32)} {t2_0 : (Nat → Int64)} {t3_0 : (Nat → Int32)} {t4_0 : (Nat → Int32)} {j42 : Int64} {a46 : Int32} {lx53 : Int32} {lx67 : Int32} {lx81 : Int32} {lx82 : (Nat → Int32)} {lx95 : Int32} {lx96 : (Nat → Int32)} (hZ : ∀ i, i < 9 → 0 ≤ (t1_0 i).toInt ∧ (t1_0 i).toInt ≤ 64) (h14 : 0 ≤ t0_14.toInt ∧ t0_14.toInt ≤ 8) (h12 : t0_12.toInt ≤ 9999) (h95 : t0_17.toInt ≤ lx95.toInt ∧ lx95.toInt ≤ t0_17.toInt + 9) (hL : 0 ≤ t0_17.toInt ∧ t0_17.toInt ≤ 100) : (S_VR_numeric_J161 x2 t0_0 t0_1 t0_2 t0_3 t0_4 t0_5 t0_6 t0_7 t0_8 t0_9 t0_10 t0_11 t0_12 t0_13 t0_14 t0_15 t0_16 t0_17 t0_18 t0_19 t0_20 t0_21 t1_0 t2_0 t3_0 t4_0 j42 a46 lx53 lx67 lx81 lx82 lx95 lx96) ∧ Q_VR_num t0_17 (F_VR_numeric_J161 x2 t0_0 t0_1 t0_2 t0_3 t0_4 t0_5 t0_6 t0_7 t0_8 t0_9 t0_10 t0_11 t0_12 t0_13 t0_14 t0_15 t0_16 t0_17 t0_18 t0_19 t0_20 t0_21 t1_0 t2_0 t3_0 t4_0 j42 a46 lx53 lx67 lx81 lx82 lx95 lx96) := by
  have e0 : (0 : Int32).toInt = 0 := rfl
  have e1 : (1 : Int32).toInt = 1 := rfl
  have eL0 : (0 : Int64).toInt = 0 := rfl
  have em : (-1 : Int32).toInt = -1 := rfl
  unfold S_VR_numeric_J161 F_VR_numeric_J161
  by_cases g1 : x2 = (100 : Int32)
  ·
    rw [if_pos g1, if_pos g1]
    have h2 := T_VR_spread (x2 := ((F_VR_size64 j42) : Int64)) (x3 := (10 : Int32)) (t0_0 := t0_0) (t0_1 := t0_1) (t0_2 := t0_2) (t0_3 := t0_3) (t0_4 := t0_4) (t0_5 := t0_5) (t0_6 := t0_6) (t0_7 := t0_7) (t0_8 := t0_8) (t0_9 := t0_9) (t0_10 := t0_10) (t0_11 := t0_11) (t0_12 := t0_12) (t0_13 := t0_13) (t0_14 := t0_14) (t0_15 := t0_15) (t0_16 := t0_16) (t0_17 := lx95) (t0_18 := lx95) (t0_19 := a46) (t0_20 := t0_20) (t0_21 := t0_21) (t1_0 := t4_0) (by first | decide | omega)
    with_reducible refine v_owe h2.1 ?_
    replace h2 := h2.2
    generalize F_VR_spread ((F_VR_size64 j42) : Int64) (10 : Int32) t0_0 t0_1 t0_2 t0_3 t0_4 t0_5 t0_6 t0_7 t0_8 t0_9 t0_10 t0_11 t0_12 t0_13 t0_14 t0_15 t0_16 lx95 lx95 a46 t0_20 t0_21 t4_0 = p350 at *
    unfold Q_VR_spread at h2
    have h221 := congrArg Int32.toInt h2.2
    have s20 := h2.1
    unfold S_VR_numeric_c182 F_VR_numeric_c182
    have h3 := T_VR_plain (x2 := (0 : Int32)) (t0_0 := t0_0) (t0_1 := t0_1) (t0_2 := t0_2) (t0_3 := t0_3) (t0_4 := t0_4) (t0_5 := t0_5) (t0_6 := t0_6) (t0_7 := t0_7) (t0_8 := t0_8) (t0_9 := t0_9) (t0_10 := t0_10) (t0_11 := t0_11) (t0_12 := t0_12) (t0_13 := t0_13) (t0_14 := t0_14) (t0_15 := t0_15) (t0_16 := t0_16) (t0_17 := lx95) (t0_18 := lx95) (t0_19 := a46) (t0_20 := (p350.1 : Int32)) (t0_21 := (p350.2.1 : Int32)) (t1_0 := lx96) (t2_0 := (p350.2.2 : (Nat → Int32))) ⟨by omega, by omega⟩ ⟨by omega, by omega⟩ ⟨by omega, by omega⟩ ⟨by first | omega | decide, by first | omega | decide⟩
    with_reducible refine v_owe h3.1 ?_
    replace h3 := h3.2
    generalize F_VR_plain (0 : Int32) t0_0 t0_1 t0_2 t0_3 t0_4 t0_5 t0_6 t0_7 t0_8 t0_9 t0_10 t0_11 t0_12 t0_13 t0_14 t0_15 t0_16 lx95 lx95 a46 (p350.1 : Int32) (p350.2.1 : Int32) lx96 (p350.2.2 : (Nat → Int32)) = p369 at *
    unfold Q_VR_plain at h3
    unfold S_VR_numeric_c187 F_VR_numeric_c187
    by_cases g4 : lx67 = (0 : Int32)
    ·
      rw [if_pos g4, if_pos g4]
      refine ⟨trivial, ?_⟩
      (unfold Q_VR_num; dsimp only; exact ⟨⟨by omega, by omega⟩, ⟨by omega, by omega⟩⟩)
    ·
      rw [if_neg g4, if_neg g4]
      by_cases g5 : ((F_VR_has (40 : Int32) t0_0 t0_1 t0_2 t0_3 t0_4 t0_5 t0_6 t0_7 t0_8 t0_9 t0_10 t0_11 t0_12 t0_13 t0_14 t0_15 t0_16 (p369.1 : Int32) lx95 a46 (p350.1 : Int32) (p350.2.1 : Int32)) : Int32) = (0 : Int32)
      ·
        rw [if_pos g5, if_pos g5]
        refine ⟨trivial, ?_⟩
        (unfold Q_VR_num; dsimp only; exact ⟨⟨by omega, by omega⟩, ⟨by omega, by omega⟩⟩)
      ·
        rw [if_neg g5, if_neg g5]
        have h6 := T_VR_put (x2 := (41 : Int32)) (t0_0 := t0_0) (t0_1 := t0_1) (t0_2 := t0_2) (t0_3 := t0_3) (t0_4 := t0_4) (t0_5 := t0_5) (t0_6 := t0_6) (t0_7 := t0_7) (t0_8 := t0_8) (t0_9 := t0_9) (t0_10 := t0_10) (t0_11 := t0_11) (t0_12 := t0_12) (t0_13 := t0_13) (t0_14 := t0_14) (t0_15 := t0_15) (t0_16 := t0_16) (t0_17 := (p369.1 : Int32)) (t0_18 := lx95) (t0_19 := a46) (t0_20 := (p350.1 : Int32)) (t0_21 := (p350.2.1 : Int32)) (t1_0 := (p369.2 : (Nat → Int32))) ⟨by first | omega | decide, by first | omega | decide⟩
        with_reducible refine v_owe h6.1 ?_
        replace h6 := h6.2
        generalize F_VR_put (41 : Int32) t0_0 t0_1 t0_2 t0_3 t0_4 t0_5 t0_6 t0_7 t0_8 t0_9 t0_10 t0_11 t0_12 t0_13 t0_14 t0_15 t0_16 (p369.1 : Int32) lx95 a46 (p350.1 : Int32) (p350.2.1 : Int32) (p369.2 : (Nat → Int32)) = p404 at *
        unfold Q_VR_put at h6
        unfold S_VR_numeric_c330_15 F_VR_numeric_c330_15
        refine ⟨trivial, ?_⟩
        (unfold Q_VR_num; dsimp only; exact ⟨⟨by omega, by omega⟩, ⟨by omega, by omega⟩⟩)
  ·
    rw [if_neg g1, if_neg g1]
    by_cases g7 : lx53 = (0 : Int32)
    ·
      rw [if_pos g7, if_pos g7]
      by_cases g8 : (t1_0 t0_14.toNatClampNeg : Int32) = (64 : Int32)
      ·
        rw [if_pos g8, if_pos g8]
        unfold S_VR_numeric_J229 F_VR_numeric_J229
        by_cases g9 : x2 = (111 : Int32)
        ·
          rw [if_pos g9, if_pos g9]
          exact T_VR_num242 (by decide) h95 hL
        ·
          rw [if_neg g9, if_neg g9]
          exact T_VR_num242 (by decide) h95 hL
      ·
        rw [if_neg g8, if_neg g8]
        unfold S_VR_numeric_J229 F_VR_numeric_J229
        by_cases g10 : x2 = (111 : Int32)
        ·
          rw [if_pos g10, if_pos g10]
          exact T_VR_num242 (by decide) h95 hL
        ·
          rw [if_neg g10, if_neg g10]
          exact T_VR_num242 (by decide) h95 hL
    ·
      rw [if_neg g7, if_neg g7]
      have h11 := T_VR_decimal_IV (x2 := x2) (t0_0 := t0_0) (t0_1 := t0_1) (t0_2 := t0_2) (t0_3 := t0_3) (t0_4 := t0_4) (t0_5 := t0_5) (t0_6 := t0_6) (t0_7 := t0_7) (t0_8 := t0_8) (t0_9 := t0_9) (t0_10 := t0_10) (t0_11 := t0_11) (t0_12 := t0_12) (t0_13 := t0_13) (t0_14 := t0_14) (t0_15 := t0_15) (t0_16 := t0_16) (t0_17 := lx95) (t0_18 := lx95) (t0_19 := a46) (t0_20 := t0_20) (t0_21 := t0_21) (t1_0 := t1_0) (t2_0 := t2_0) (t3_0 := lx96) (t4_0 := t4_0) hZ h14 h12 ⟨by omega, by omega⟩
      with_reducible refine v_owe h11.1 ?_
      replace h11 := h11.2
      generalize F_VR_decimal_IV x2 t0_0 t0_1 t0_2 t0_3 t0_4 t0_5 t0_6 t0_7 t0_8 t0_9 t0_10 t0_11 t0_12 t0_13 t0_14 t0_15 t0_16 lx95 lx95 a46 t0_20 t0_21 t1_0 t2_0 lx96 t4_0 = p128 at *
      unfold Q_VR_dec at h11
      unfold S_VR_numeric_c310 F_VR_numeric_c310
      by_cases g12 : lx67 = (0 : Int32)
      ·
        rw [if_pos g12, if_pos g12]
        refine ⟨trivial, ?_⟩
        (unfold Q_VR_num; dsimp only; exact ⟨⟨by omega, by omega⟩, ⟨by omega, by omega⟩⟩)
      ·
        rw [if_neg g12, if_neg g12]
        by_cases g13 : ((F_VR_has (40 : Int32) t0_0 t0_1 t0_2 t0_3 t0_4 t0_5 t0_6 t0_7 t0_8 t0_9 t0_10 t0_11 t0_12 t0_13 t0_14 t0_15 t0_16 (p128.1 : Int32) lx95 a46 (p128.2.1 : Int32) (p128.2.2.1 : Int32)) : Int32) = (0 : Int32)
        ·
          rw [if_pos g13, if_pos g13]
          refine ⟨trivial, ?_⟩
          (unfold Q_VR_num; dsimp only; exact ⟨⟨by omega, by omega⟩, ⟨by omega, by omega⟩⟩)
        ·
          rw [if_neg g13, if_neg g13]
          have h14 := T_VR_put (x2 := (41 : Int32)) (t0_0 := t0_0) (t0_1 := t0_1) (t0_2 := t0_2) (t0_3 := t0_3) (t0_4 := t0_4) (t0_5 := t0_5) (t0_6 := t0_6) (t0_7 := t0_7) (t0_8 := t0_8) (t0_9 := t0_9) (t0_10 := t0_10) (t0_11 := t0_11) (t0_12 := t0_12) (t0_13 := t0_13) (t0_14 := t0_14) (t0_15 := t0_15) (t0_16 := t0_16) (t0_17 := (p128.1 : Int32)) (t0_18 := lx95) (t0_19 := a46) (t0_20 := (p128.2.1 : Int32)) (t0_21 := (p128.2.2.1 : Int32)) (t1_0 := (p128.2.2.2.1 : (Nat → Int32))) ⟨by first | omega | decide, by first | omega | decide⟩
          with_reducible refine v_owe h14.1 ?_
          replace h14 := h14.2
          generalize F_VR_put (41 : Int32) t0_0 t0_1 t0_2 t0_3 t0_4 t0_5 t0_6 t0_7 t0_8 t0_9 t0_10 t0_11 t0_12 t0_13 t0_14 t0_15 t0_16 (p128.1 : Int32) lx95 a46 (p128.2.1 : Int32) (p128.2.2.1 : Int32) (p128.2.2.2.1 : (Nat → Int32)) = p166 at *
          unfold Q_VR_put at h14
          unfold S_VR_numeric_c330 F_VR_numeric_c330
          refine ⟨trivial, ?_⟩
          (unfold Q_VR_num; dsimp only; exact ⟨⟨by omega, by omega⟩, ⟨by omega, by omega⟩⟩)
theorem T_VR_num128 {x2 : Int32} {t0_0 : Int32} {t0_1 : Int32} {t0_2 : Int32} {t0_3 : Int32} {t0_4 : Int32} {t0_5 : Int32} {t0_6 : Int32} {t0_7 : Int32} {t0_8 : Int32} {t0_9 : Int32} {t0_10 : Int32} {t0_11 : Int32} {t0_12 : Int32} {t0_13 : Int32} {t0_14 : Int32} {t0_15 : Int32} {t0_16 : Int32} {t0_17 : Int32} {t0_18 : Int32} {t0_19 : Int32} {t0_20 : Int32} {t0_21 : Int32} {t1_0 : (Nat → Int32)} {t2_0 : (Nat → Int64)} {t3_0 : (Nat → Int32)} {t4_0 : (Nat → Int32)} {j42 : Int64} {a46 : Int32} {lx53 : Int32} {lx67 : Int32} {lx81 : Int32} {lx82 : (Nat → Int32)} (hZ : ∀ i, i < 9 → 0 ≤ (t1_0 i).toInt ∧ (t1_0 i).toInt ≤ 64) (h14 : 0 ≤ t0_14.toInt ∧ t0_14.toInt ≤ 8) (h12 : t0_12.toInt ≤ 9999) (h81 : t0_17.toInt ≤ lx81.toInt ∧ lx81.toInt ≤ t0_17.toInt + 1) (hL : 0 ≤ t0_17.toInt ∧ t0_17.toInt ≤ 100) : (S_VR_numeric_J128 x2 t0_0 t0_1 t0_2 t0_3 t0_4 t0_5 t0_6 t0_7 t0_8 t0_9 t0_10 t0_11 t0_12 t0_13 t0_14 t0_15 t0_16 t0_17 t0_18 t0_19 t0_20 t0_21 t1_0 t2_0 t3_0 t4_0 j42 a46 lx53 lx67 lx81 lx82) ∧ Q_VR_num t0_17 (F_VR_numeric_J128 x2 t0_0 t0_1 t0_2 t0_3 t0_4 t0_5 t0_6 t0_7 t0_8 t0_9 t0_10 t0_11 t0_12 t0_13 t0_14 t0_15 t0_16 t0_17 t0_18 t0_19 t0_20 t0_21 t1_0 t2_0 t3_0 t4_0 j42 a46 lx53 lx67 lx81 lx82) := by
  have e0 : (0 : Int32).toInt = 0 := rfl
  have e1 : (1 : Int32).toInt = 1 := rfl
  have eL0 : (0 : Int64).toInt = 0 := rfl
  have em : (-1 : Int32).toInt = -1 := rfl
  unfold S_VR_numeric_J128 F_VR_numeric_J128
  by_cases g1 : lx53 = (0 : Int32)
  ·
    rw [if_pos g1, if_pos g1]
    by_cases g2 : ((F_VR_has (35 : Int32) t0_0 t0_1 t0_2 t0_3 t0_4 t0_5 t0_6 t0_7 t0_8 t0_9 t0_10 t0_11 t0_12 t0_13 t0_14 t0_15 t0_16 lx81 t0_18 a46 t0_20 t0_21) : Int32) = (0 : Int32)
    ·
      rw [if_pos g2, if_pos g2]
      exact T_VR_num161 hZ h14 h12 ⟨by omega, by omega⟩ ⟨by omega, by omega⟩
    ·
      rw [if_neg g2, if_neg g2]
      by_cases g3 : x2 = (111 : Int32)
      ·
        rw [if_pos g3, if_pos g3]
        unfold S_VR_numeric_J158 F_VR_numeric_J158
        have h4 := T_VR_word (x2 := (48 : Int64)) (t0_0 := t0_0) (t0_1 := t0_1) (t0_2 := t0_2) (t0_3 := t0_3) (t0_4 := t0_4) (t0_5 := t0_5) (t0_6 := t0_6) (t0_7 := t0_7) (t0_8 := t0_8) (t0_9 := t0_9) (t0_10 := t0_10) (t0_11 := t0_11) (t0_12 := t0_12) (t0_13 := t0_13) (t0_14 := t0_14) (t0_15 := t0_15) (t0_16 := t0_16) (t0_17 := lx81) (t0_18 := t0_18) (t0_19 := a46) (t0_20 := t0_20) (t0_21 := t0_21) (t1_0 := lx82) ⟨by first | omega | decide, by first | omega | decide⟩ (by decide)
        with_reducible refine v_owe h4.1 ?_
        replace h4 := h4.2
        generalize F_VR_word (48 : Int64) t0_0 t0_1 t0_2 t0_3 t0_4 t0_5 t0_6 t0_7 t0_8 t0_9 t0_10 t0_11 t0_12 t0_13 t0_14 t0_15 t0_16 lx81 t0_18 a46 t0_20 t0_21 lx82 = p449 at *
        unfold Q_VR_word at h4
        unfold S_VR_numeric_c158 F_VR_numeric_c158
        exact T_VR_num161 hZ h14 h12 ⟨by omega, by omega⟩ ⟨by omega, by omega⟩
      ·
        rw [if_neg g3, if_neg g3]
        unfold S_VR_numeric_J158 F_VR_numeric_J158
        have h5 := T_VR_word (x2 := (30768 : Int64)) (t0_0 := t0_0) (t0_1 := t0_1) (t0_2 := t0_2) (t0_3 := t0_3) (t0_4 := t0_4) (t0_5 := t0_5) (t0_6 := t0_6) (t0_7 := t0_7) (t0_8 := t0_8) (t0_9 := t0_9) (t0_10 := t0_10) (t0_11 := t0_11) (t0_12 := t0_12) (t0_13 := t0_13) (t0_14 := t0_14) (t0_15 := t0_15) (t0_16 := t0_16) (t0_17 := lx81) (t0_18 := t0_18) (t0_19 := a46) (t0_20 := t0_20) (t0_21 := t0_21) (t1_0 := lx82) ⟨by first | omega | decide, by first | omega | decide⟩ (by decide)
        with_reducible refine v_owe h5.1 ?_
        replace h5 := h5.2
        generalize F_VR_word (30768 : Int64) t0_0 t0_1 t0_2 t0_3 t0_4 t0_5 t0_6 t0_7 t0_8 t0_9 t0_10 t0_11 t0_12 t0_13 t0_14 t0_15 t0_16 lx81 t0_18 a46 t0_20 t0_21 lx82 = p449 at *
        unfold Q_VR_word at h5
        unfold S_VR_numeric_c158 F_VR_numeric_c158
        exact T_VR_num161 hZ h14 h12 ⟨by omega, by omega⟩ ⟨by omega, by omega⟩
  ·
    rw [if_neg g1, if_neg g1]
    exact T_VR_num161 hZ h14 h12 ⟨by omega, by omega⟩ ⟨by omega, by omega⟩
theorem T_VR_num55 {x2 : Int32} {t0_0 : Int32} {t0_1 : Int32} {t0_2 : Int32} {t0_3 : Int32} {t0_4 : Int32} {t0_5 : Int32} {t0_6 : Int32} {t0_7 : Int32} {t0_8 : Int32} {t0_9 : Int32} {t0_10 : Int32} {t0_11 : Int32} {t0_12 : Int32} {t0_13 : Int32} {t0_14 : Int32} {t0_15 : Int32} {t0_16 : Int32} {t0_17 : Int32} {t0_18 : Int32} {t0_19 : Int32} {t0_20 : Int32} {t0_21 : Int32} {t1_0 : (Nat → Int32)} {t2_0 : (Nat → Int64)} {t3_0 : (Nat → Int32)} {t4_0 : (Nat → Int32)} {j42 : Int64} {a46 : Int32} {lx53 : Int32} {lx67 : Int32} (hZ : ∀ i, i < 9 → 0 ≤ (t1_0 i).toInt ∧ (t1_0 i).toInt ≤ 64) (h14 : 0 ≤ t0_14.toInt ∧ t0_14.toInt ≤ 8) (h12 : t0_12.toInt ≤ 9999) (hL : 0 ≤ t0_17.toInt ∧ t0_17.toInt ≤ 100) : (S_VR_numeric_J55 x2 t0_0 t0_1 t0_2 t0_3 t0_4 t0_5 t0_6 t0_7 t0_8 t0_9 t0_10 t0_11 t0_12 t0_13 t0_14 t0_15 t0_16 t0_17 t0_18 t0_19 t0_20 t0_21 t1_0 t2_0 t3_0 t4_0 j42 a46 lx53 lx67) ∧ Q_VR_num t0_17 (F_VR_numeric_J55 x2 t0_0 t0_1 t0_2 t0_3 t0_4 t0_5 t0_6 t0_7 t0_8 t0_9 t0_10 t0_11 t0_12 t0_13 t0_14 t0_15 t0_16 t0_17 t0_18 t0_19 t0_20 t0_21 t1_0 t2_0 t3_0 t4_0 j42 a46 lx53 lx67) := by
  have e0 : (0 : Int32).toInt = 0 := rfl
  have e1 : (1 : Int32).toInt = 1 := rfl
  have eL0 : (0 : Int64).toInt = 0 := rfl
  have em : (-1 : Int32).toInt = -1 := rfl
  unfold S_VR_numeric_J55 F_VR_numeric_J55
  by_cases g1 : lx67 = (0 : Int32)
  ·
    rw [if_pos g1, if_pos g1]
    by_cases g2 : lx53 = (0 : Int32)
    ·
      rw [if_pos g2, if_pos g2]
      exact T_VR_num128 hZ h14 h12 ⟨by omega, by omega⟩ ⟨by omega, by omega⟩
    ·
      rw [if_neg g2, if_neg g2]
      by_cases g3 : ((F_VR_has (43 : Int32) t0_0 t0_1 t0_2 t0_3 t0_4 t0_5 t0_6 t0_7 t0_8 t0_9 t0_10 t0_11 t0_12 t0_13 t0_14 t0_15 t0_16 t0_17 t0_18 a46 t0_20 t0_21) : Int32) = (0 : Int32)
      ·
        rw [if_pos g3, if_pos g3]
        by_cases g4 : ((F_VR_has (32 : Int32) t0_0 t0_1 t0_2 t0_3 t0_4 t0_5 t0_6 t0_7 t0_8 t0_9 t0_10 t0_11 t0_12 t0_13 t0_14 t0_15 t0_16 t0_17 t0_18 a46 t0_20 t0_21) : Int32) = (0 : Int32)
        ·
          rw [if_pos g4, if_pos g4]
          exact T_VR_num128 hZ h14 h12 ⟨by omega, by omega⟩ ⟨by omega, by omega⟩
        ·
          rw [if_neg g4, if_neg g4]
          unfold S_VR_numeric_J108 F_VR_numeric_J108
          rw [if_pos g3, if_pos g3]
          unfold S_VR_numeric_J125 F_VR_numeric_J125
          have h5 := T_VR_put (x2 := (32 : Int32)) (t0_0 := t0_0) (t0_1 := t0_1) (t0_2 := t0_2) (t0_3 := t0_3) (t0_4 := t0_4) (t0_5 := t0_5) (t0_6 := t0_6) (t0_7 := t0_7) (t0_8 := t0_8) (t0_9 := t0_9) (t0_10 := t0_10) (t0_11 := t0_11) (t0_12 := t0_12) (t0_13 := t0_13) (t0_14 := t0_14) (t0_15 := t0_15) (t0_16 := t0_16) (t0_17 := t0_17) (t0_18 := t0_18) (t0_19 := a46) (t0_20 := t0_20) (t0_21 := t0_21) (t1_0 := t3_0) ⟨by first | omega | decide, by first | omega | decide⟩
          with_reducible refine v_owe h5.1 ?_
          replace h5 := h5.2
          generalize F_VR_put (32 : Int32) t0_0 t0_1 t0_2 t0_3 t0_4 t0_5 t0_6 t0_7 t0_8 t0_9 t0_10 t0_11 t0_12 t0_13 t0_14 t0_15 t0_16 t0_17 t0_18 a46 t0_20 t0_21 t3_0 = p518 at *
          unfold Q_VR_put at h5
          unfold S_VR_numeric_c125 F_VR_numeric_c125
          exact T_VR_num128 hZ h14 h12 ⟨by omega, by omega⟩ ⟨by omega, by omega⟩
      ·
        rw [if_neg g3, if_neg g3]
        unfold S_VR_numeric_J108 F_VR_numeric_J108
        rw [if_neg g3, if_neg g3]
        unfold S_VR_numeric_J125 F_VR_numeric_J125
        have h6 := T_VR_put (x2 := (43 : Int32)) (t0_0 := t0_0) (t0_1 := t0_1) (t0_2 := t0_2) (t0_3 := t0_3) (t0_4 := t0_4) (t0_5 := t0_5) (t0_6 := t0_6) (t0_7 := t0_7) (t0_8 := t0_8) (t0_9 := t0_9) (t0_10 := t0_10) (t0_11 := t0_11) (t0_12 := t0_12) (t0_13 := t0_13) (t0_14 := t0_14) (t0_15 := t0_15) (t0_16 := t0_16) (t0_17 := t0_17) (t0_18 := t0_18) (t0_19 := a46) (t0_20 := t0_20) (t0_21 := t0_21) (t1_0 := t3_0) ⟨by first | omega | decide, by first | omega | decide⟩
        with_reducible refine v_owe h6.1 ?_
        replace h6 := h6.2
        generalize F_VR_put (43 : Int32) t0_0 t0_1 t0_2 t0_3 t0_4 t0_5 t0_6 t0_7 t0_8 t0_9 t0_10 t0_11 t0_12 t0_13 t0_14 t0_15 t0_16 t0_17 t0_18 a46 t0_20 t0_21 t3_0 = p518 at *
        unfold Q_VR_put at h6
        unfold S_VR_numeric_c125 F_VR_numeric_c125
        exact T_VR_num128 hZ h14 h12 ⟨by omega, by omega⟩ ⟨by omega, by omega⟩
  ·
    rw [if_neg g1, if_neg g1]
    by_cases g7 : ((F_VR_has (40 : Int32) t0_0 t0_1 t0_2 t0_3 t0_4 t0_5 t0_6 t0_7 t0_8 t0_9 t0_10 t0_11 t0_12 t0_13 t0_14 t0_15 t0_16 t0_17 t0_18 a46 t0_20 t0_21) : Int32) = (0 : Int32)
    ·
      rw [if_pos g7, if_pos g7]
      unfold S_VR_numeric_J79 F_VR_numeric_J79
      have h8 := T_VR_put (x2 := (45 : Int32)) (t0_0 := t0_0) (t0_1 := t0_1) (t0_2 := t0_2) (t0_3 := t0_3) (t0_4 := t0_4) (t0_5 := t0_5) (t0_6 := t0_6) (t0_7 := t0_7) (t0_8 := t0_8) (t0_9 := t0_9) (t0_10 := t0_10) (t0_11 := t0_11) (t0_12 := t0_12) (t0_13 := t0_13) (t0_14 := t0_14) (t0_15 := t0_15) (t0_16 := t0_16) (t0_17 := t0_17) (t0_18 := t0_18) (t0_19 := a46) (t0_20 := t0_20) (t0_21 := t0_21) (t1_0 := t3_0) ⟨by first | omega | decide, by first | omega | decide⟩
      with_reducible refine v_owe h8.1 ?_
      replace h8 := h8.2
      generalize F_VR_put (45 : Int32) t0_0 t0_1 t0_2 t0_3 t0_4 t0_5 t0_6 t0_7 t0_8 t0_9 t0_10 t0_11 t0_12 t0_13 t0_14 t0_15 t0_16 t0_17 t0_18 a46 t0_20 t0_21 t3_0 = p578 at *
      unfold Q_VR_put at h8
      unfold S_VR_numeric_c79 F_VR_numeric_c79
      exact T_VR_num128 hZ h14 h12 ⟨by omega, by omega⟩ ⟨by omega, by omega⟩
    ·
      rw [if_neg g7, if_neg g7]
      unfold S_VR_numeric_J79 F_VR_numeric_J79
      have h9 := T_VR_put (x2 := (40 : Int32)) (t0_0 := t0_0) (t0_1 := t0_1) (t0_2 := t0_2) (t0_3 := t0_3) (t0_4 := t0_4) (t0_5 := t0_5) (t0_6 := t0_6) (t0_7 := t0_7) (t0_8 := t0_8) (t0_9 := t0_9) (t0_10 := t0_10) (t0_11 := t0_11) (t0_12 := t0_12) (t0_13 := t0_13) (t0_14 := t0_14) (t0_15 := t0_15) (t0_16 := t0_16) (t0_17 := t0_17) (t0_18 := t0_18) (t0_19 := a46) (t0_20 := t0_20) (t0_21 := t0_21) (t1_0 := t3_0) ⟨by first | omega | decide, by first | omega | decide⟩
      with_reducible refine v_owe h9.1 ?_
      replace h9 := h9.2
      generalize F_VR_put (40 : Int32) t0_0 t0_1 t0_2 t0_3 t0_4 t0_5 t0_6 t0_7 t0_8 t0_9 t0_10 t0_11 t0_12 t0_13 t0_14 t0_15 t0_16 t0_17 t0_18 a46 t0_20 t0_21 t3_0 = p578 at *
      unfold Q_VR_put at h9
      unfold S_VR_numeric_c79 F_VR_numeric_c79
      exact T_VR_num128 hZ h14 h12 ⟨by omega, by omega⟩ ⟨by omega, by omega⟩
theorem T_VR_numeric {x2 : Int32} {t0_0 : Int32} {t0_1 : Int32} {t0_2 : Int32} {t0_3 : Int32} {t0_4 : Int32} {t0_5 : Int32} {t0_6 : Int32} {t0_7 : Int32} {t0_8 : Int32} {t0_9 : Int32} {t0_10 : Int32} {t0_11 : Int32} {t0_12 : Int32} {t0_13 : Int32} {t0_14 : Int32} {t0_15 : Int32} {t0_16 : Int32} {t0_17 : Int32} {t0_18 : Int32} {t0_19 : Int32} {t0_20 : Int32} {t0_21 : Int32} {t1_0 : (Nat → Int32)} {t2_0 : (Nat → Int64)} {t3_0 : (Nat → Int32)} {t4_0 : (Nat → Int32)} (hZ : ∀ i, i < 9 → 0 ≤ (t1_0 i).toInt ∧ (t1_0 i).toInt ≤ 64) (h14 : 0 ≤ t0_14.toInt ∧ t0_14.toInt ≤ 8) (h12 : t0_12.toInt ≤ 9999) (hL : 0 ≤ t0_17.toInt ∧ t0_17.toInt ≤ 100) : (S_VR_numeric x2 t0_0 t0_1 t0_2 t0_3 t0_4 t0_5 t0_6 t0_7 t0_8 t0_9 t0_10 t0_11 t0_12 t0_13 t0_14 t0_15 t0_16 t0_17 t0_18 t0_19 t0_20 t0_21 t1_0 t2_0 t3_0 t4_0) ∧ Q_VR_num t0_17 (F_VR_numeric x2 t0_0 t0_1 t0_2 t0_3 t0_4 t0_5 t0_6 t0_7 t0_8 t0_9 t0_10 t0_11 t0_12 t0_13 t0_14 t0_15 t0_16 t0_17 t0_18 t0_19 t0_20 t0_21 t1_0 t2_0 t3_0 t4_0) := by
  have e0 : (0 : Int32).toInt = 0 := rfl
  have e1 : (1 : Int32).toInt = 1 := rfl
  have eL0 : (0 : Int64).toInt = 0 := rfl
  have em : (-1 : Int32).toInt = -1 := rfl
  unfold S_VR_numeric F_VR_numeric
  refine v_cons (by first | omega | decide) ?_
  refine v_cons (by first | omega | decide) ?_
  by_cases g1 : x2 = (111 : Int32)
  ·
    rw [if_pos g1, if_pos g1]
    unfold S_VR_numeric_J36 F_VR_numeric_J36
    unfold S_VR_numeric_J37 F_VR_numeric_J37
    have g2 : ((0 : Int32) = (0 : Int32)) := (by decide)
    rw [if_pos g2, if_pos g2]
    unfold S_VR_numeric_J54 F_VR_numeric_J54
    exact T_VR_num55 hZ h14 h12 hL
  ·
    rw [if_neg g1, if_neg g1]
    by_cases g3 : x2 = (120 : Int32)
    ·
      rw [if_pos g3, if_pos g3]
      unfold S_VR_numeric_J36 F_VR_numeric_J36
      unfold S_VR_numeric_J37 F_VR_numeric_J37
      have g4 : ((0 : Int32) = (0 : Int32)) := (by decide)
      rw [if_pos g4, if_pos g4]
      unfold S_VR_numeric_J54 F_VR_numeric_J54
      exact T_VR_num55 hZ h14 h12 hL
    ·
      rw [if_neg g3, if_neg g3]
      unfold S_VR_numeric_J37 F_VR_numeric_J37
      have g5 : ¬ ((1 : Int32) = (0 : Int32)) := (by decide)
      rw [if_neg g5, if_neg g5]
      by_cases g6 : (0 : Int32) ≤ (lg_cmp (t2_0 t0_14.toNatClampNeg : Int64) 0 : Int32)
      ·
        rw [if_pos g6, if_pos g6]
        have g6l := g_lc5 g6
        unfold S_VR_numeric_J54 F_VR_numeric_J54
        exact T_VR_num55 hZ h14 h12 hL
      ·
        rw [if_neg g6, if_neg g6]
        have g6l := g_lc6 g6
        exact T_VR_num55 hZ h14 h12 hL
def Q_VR_str (t0_17 : Int32) (p : Int32 × Int32 × Int32 × Int32 × (Nat → Int32) × (Nat → Int32)) : Prop := t0_17.toInt ≤ p.2.1.toInt ∧ p.2.1.toInt ≤ t0_17.toInt + 300
theorem vr_z8 {t : Nat → Int32} {a : Int32} (hZ : ∀ i, i < 9 → 0 ≤ (t i).toInt ∧ (t i).toInt ≤ 64) (ha : 0 ≤ a.toInt ∧ a.toInt ≤ 8) : 0 ≤ (t a.toNatClampNeg).toInt ∧ (t a.toNatClampNeg).toInt ≤ 64 := by
  have e := q_clI (i := a) rfl ha.1
  exact hZ _ (by omega)
theorem vr_64 {a b : Int32} (ha : 0 ≤ a.toInt ∧ a.toInt ≤ 8) (hb : 0 ≤ b.toInt ∧ b.toInt < 64) : ((64 * a) + b : Int32).toInt = 64 * a.toInt + b.toInt := by
  have e : (64 * a : Int32).toInt = 64 * a.toInt := q_mulI (x := 64) (by decide) rfl (by omega) (by omega)
  exact q_addI e rfl (by omega) (by omega)
theorem vv_st {t0_0 : Int32} {t0_1 : Int32} {t0_2 : Int32} {t0_3 : Int32} {t0_4 : Int32} {t0_5 : Int32} {t0_6 : Int32} {t0_7 : Int32} {t0_8 : Int32} {t0_9 : Int32} {t0_10 : Int32} {t0_11 : Int32} {t0_12 : Int32} {t0_13 : Int32} {t0_14 : Int32} {t0_15 : Int32} {t0_16 : Int32} {t0_17 : Int32} {t0_18 : Int32} {t0_19 : Int32} {t0_20 : Int32} {t0_21 : Int32} {t1_0 : (Nat → Int32)} {t2_0 : (Nat → Int32)} {t3_0 : (Nat → Int64)} {t4_0 : (Nat → Int32)} {t5_0 : (Nat → Int32)} {t6_0 : (Nat → Int32)} (hZ : ∀ i, i < 9 → 0 ≤ (t2_0 i).toInt ∧ (t2_0 i).toInt ≤ 64) (h14 : 0 ≤ t0_14.toInt ∧ t0_14.toInt ≤ 8) (hL : 0 ≤ t0_17.toInt ∧ t0_17.toInt ≤ 100) : ∀ (n : Nat) (lx258 : Int32) (lx259 : Int32) (lx260 : (Nat → Int32)), (0 ≤ lx258.toInt ∧ lx258.toInt ≤ 64) → (64 - lx258.toInt < (n : Int)) → (t0_17.toInt ≤ lx259.toInt ∧ lx259.toInt ≤ t0_17.toInt + lx258.toInt) → (S_VR_string_L89 t0_0 t0_1 t0_2 t0_3 t0_4 t0_5 t0_6 t0_7 t0_8 t0_9 t0_10 t0_11 t0_12 t0_13 t0_14 t0_15 t0_16 t0_17 t0_18 t0_19 t0_20 t0_21 t1_0 t2_0 t3_0 t4_0 t5_0 t6_0 n lx258 lx259 lx260) ∧ Q_VR_str t0_17 (F_VR_string_L89 t0_0 t0_1 t0_2 t0_3 t0_4 t0_5 t0_6 t0_7 t0_8 t0_9 t0_10 t0_11 t0_12 t0_13 t0_14 t0_15 t0_16 t0_17 t0_18 t0_19 t0_20 t0_21 t1_0 t2_0 t3_0 t4_0 t5_0 t6_0 n lx258 lx259 lx260) := by
  intro n
  induction n with
  | zero => intro lx258 lx259 lx260 h0 hm hs; exact absurd (show False by omega) id
  | succ n ih =>
    intro lx258 lx259 lx260 h0 hm hs
    have e0 : (0 : Int32).toInt = 0 := rfl
    have e1 : (1 : Int32).toInt = 1 := rfl
    have eL0 : (0 : Int64).toInt = 0 := rfl
    have em : (-1 : Int32).toInt = -1 := rfl
    have z8 := vr_z8 hZ h14
    rw [S_VR_string_L89.eq_2, F_VR_string_L89.eq_2]
    by_cases g1 : (t2_0 t0_14.toNatClampNeg : Int32) ≤ lx258
    ·
      rw [if_pos g1, if_pos g1]
      refine ⟨trivial, ?_⟩
      (unfold Q_VR_str; dsimp only; exact ⟨by omega, by omega⟩)
    ·
      rw [if_neg g1, if_neg g1]
      have q64 := vr_64 (b := lx258) h14 ⟨h0.1, by have := q_nleI g1; omega⟩
      have g1i := q_nleI g1
      refine v_cons (by first | omega | decide) ?_
      refine v_cons (by first | omega | decide) ?_
      have h2 := T_VR_put (x2 := (t4_0 ((64 * t0_14 : Int32) + lx258 : Int32).toNatClampNeg : Int32)) (t0_0 := t0_0) (t0_1 := t0_1) (t0_2 := t0_2) (t0_3 := t0_3) (t0_4 := t0_4) (t0_5 := t0_5) (t0_6 := t0_6) (t0_7 := t0_7) (t0_8 := t0_8) (t0_9 := t0_9) (t0_10 := t0_10) (t0_11 := t0_11) (t0_12 := t0_12) (t0_13 := t0_13) (t0_14 := t0_14) (t0_15 := t0_15) (t0_16 := t0_16) (t0_17 := lx259) (t0_18 := t0_18) (t0_19 := t0_19) (t0_20 := t0_20) (t0_21 := t0_21) (t1_0 := lx260) ⟨by first | omega | decide, by first | omega | decide⟩
      with_reducible refine v_owe h2.1 ?_
      replace h2 := h2.2
      generalize F_VR_put (t4_0 ((64 * t0_14 : Int32) + lx258 : Int32).toNatClampNeg : Int32) t0_0 t0_1 t0_2 t0_3 t0_4 t0_5 t0_6 t0_7 t0_8 t0_9 t0_10 t0_11 t0_12 t0_13 t0_14 t0_15 t0_16 lx259 t0_18 t0_19 t0_20 t0_21 lx260 = p305 at *
      unfold Q_VR_put at h2
      unfold S_VR_string_c117 F_VR_string_c117
      obtain ⟨a3, e4⟩ := q_nm (lx258 + 1 : Int32)
      rw [e4]
      have a3i : a3.toInt = lx258.toInt + 1 := by rw [← e4]; exact q_addI (x := lx258.toInt) (y := 1) rfl (by decide) (by omega) (by omega)
      exact ih _ _ _ ⟨by omega, by omega⟩ (by omega) ⟨by omega, by omega⟩
theorem T_VR_st2 {t0_0 : Int32} {t0_1 : Int32} {t0_2 : Int32} {t0_3 : Int32} {t0_4 : Int32} {t0_5 : Int32} {t0_6 : Int32} {t0_7 : Int32} {t0_8 : Int32} {t0_9 : Int32} {t0_10 : Int32} {t0_11 : Int32} {t0_12 : Int32} {t0_13 : Int32} {t0_14 : Int32} {t0_15 : Int32} {t0_16 : Int32} {t0_17 : Int32} {t0_18 : Int32} {t0_19 : Int32} {t0_20 : Int32} {t0_21 : Int32} {t1_0 : (Nat → Int32)} {t2_0 : (Nat → Int32)} {t3_0 : (Nat → Int64)} {t4_0 : (Nat → Int32)} {t5_0 : (Nat → Int32)} {t6_0 : (Nat → Int32)} {lx133 : Int32} {lx134 : (Nat → Int32)} {p170 : (Int32 × Int32 × (Nat → Int32))} {y160 : Int32} {y161 : Int32} {f162 : (Nat → Int32)} {lx182 : Int32} (hL : 0 ≤ t0_17.toInt ∧ t0_17.toInt ≤ 100)(h9 : t0_17.toInt ≤ lx133.toInt ∧ lx133.toInt ≤ t0_17.toInt + 1) (hy : 1 ≤ y160.toInt ∧ y160.toInt ≤ 24) (hp : -64 ≤ lx182.toInt ∧ lx182.toInt ≤ y160.toInt) : (S_VR_string_J202 t0_0 t0_1 t0_2 t0_3 t0_4 t0_5 t0_6 t0_7 t0_8 t0_9 t0_10 t0_11 t0_12 t0_13 t0_14 t0_15 t0_16 t0_17 t0_18 t0_19 t0_20 t0_21 t1_0 t2_0 t3_0 t4_0 t5_0 t6_0 lx133 lx134 p170 y160 y161 f162 lx182) ∧ Q_VR_str t0_17 (F_VR_string_J202 t0_0 t0_1 t0_2 t0_3 t0_4 t0_5 t0_6 t0_7 t0_8 t0_9 t0_10 t0_11 t0_12 t0_13 t0_14 t0_15 t0_16 t0_17 t0_18 t0_19 t0_20 t0_21 t1_0 t2_0 t3_0 t4_0 t5_0 t6_0 lx133 lx134 p170 y160 y161 f162 lx182) := by
  have e0 : (0 : Int32).toInt = 0 := rfl
  have e1 : (1 : Int32).toInt = 1 := rfl
  have eL0 : (0 : Int64).toInt = 0 := rfl
  have em : (-1 : Int32).toInt = -1 := rfl
  unfold S_VR_string_J202 F_VR_string_J202
  obtain ⟨a1, e2⟩ := q_nm (y160 - lx182 : Int32)
  rw [e2]
  have a1i : a1.toInt = y160.toInt - lx182.toInt := by rw [← e2]; exact q_subI (x := y160.toInt) (y := lx182.toInt) rfl rfl (by omega) (by omega)
  have h3 := T_VR_plain (x2 := a1) (t0_0 := t0_0) (t0_1 := t0_1) (t0_2 := t0_2) (t0_3 := t0_3) (t0_4 := t0_4) (t0_5 := t0_5) (t0_6 := t0_6) (t0_7 := t0_7) (t0_8 := t0_8) (t0_9 := (t0_9 &&& (-19) : Int32)) (t0_10 := t0_10) (t0_11 := t0_11) (t0_12 := t0_12) (t0_13 := t0_13) (t0_14 := t0_14) (t0_15 := t0_15) (t0_16 := t0_16) (t0_17 := lx133) (t0_18 := t0_18) (t0_19 := t0_19) (t0_20 := y160) (t0_21 := lx182) (t1_0 := lx134) (t2_0 := f162) ⟨by omega, by omega⟩ ⟨by omega, by omega⟩ ⟨by omega, by omega⟩ ⟨by first | omega | decide, by first | omega | decide⟩
  with_reducible refine v_owe h3.1 ?_
  replace h3 := h3.2
  generalize F_VR_plain a1 t0_0 t0_1 t0_2 t0_3 t0_4 t0_5 t0_6 t0_7 t0_8 (t0_9 &&& (-19) : Int32) t0_10 t0_11 t0_12 t0_13 t0_14 t0_15 t0_16 lx133 t0_18 t0_19 y160 lx182 lx134 f162 = p213 at *
  unfold Q_VR_plain at h3
  unfold S_VR_string_c226 F_VR_string_c226
  refine ⟨trivial, ?_⟩
  (unfold Q_VR_str; dsimp only; exact ⟨by omega, by omega⟩)
theorem T_VR_st {t0_0 : Int32} {t0_1 : Int32} {t0_2 : Int32} {t0_3 : Int32} {t0_4 : Int32} {t0_5 : Int32} {t0_6 : Int32} {t0_7 : Int32} {t0_8 : Int32} {t0_9 : Int32} {t0_10 : Int32} {t0_11 : Int32} {t0_12 : Int32} {t0_13 : Int32} {t0_14 : Int32} {t0_15 : Int32} {t0_16 : Int32} {t0_17 : Int32} {t0_18 : Int32} {t0_19 : Int32} {t0_20 : Int32} {t0_21 : Int32} {t1_0 : (Nat → Int32)} {t2_0 : (Nat → Int32)} {t3_0 : (Nat → Int64)} {t4_0 : (Nat → Int32)} {t5_0 : (Nat → Int32)} {t6_0 : (Nat → Int32)} {lx133 : Int32} {lx134 : (Nat → Int32)} (hZ : ∀ i, i < 9 → 0 ≤ (t2_0 i).toInt ∧ (t2_0 i).toInt ≤ 64) (h14 : 0 ≤ t0_14.toInt ∧ t0_14.toInt ≤ 8) (hL : 0 ≤ t0_17.toInt ∧ t0_17.toInt ≤ 100)(h9 : t0_17.toInt ≤ lx133.toInt ∧ lx133.toInt ≤ t0_17.toInt + 1) : (S_VR_string_J149 t0_0 t0_1 t0_2 t0_3 t0_4 t0_5 t0_6 t0_7 t0_8 t0_9 t0_10 t0_11 t0_12 t0_13 t0_14 t0_15 t0_16 t0_17 t0_18 t0_19 t0_20 t0_21 t1_0 t2_0 t3_0 t4_0 t5_0 t6_0 lx133 lx134) ∧ Q_VR_str t0_17 (F_VR_string_J149 t0_0 t0_1 t0_2 t0_3 t0_4 t0_5 t0_6 t0_7 t0_8 t0_9 t0_10 t0_11 t0_12 t0_13 t0_14 t0_15 t0_16 t0_17 t0_18 t0_19 t0_20 t0_21 t1_0 t2_0 t3_0 t4_0 t5_0 t6_0 lx133 lx134) := by
  have e0 : (0 : Int32).toInt = 0 := rfl
  have e1 : (1 : Int32).toInt = 1 := rfl
  have eL0 : (0 : Int64).toInt = 0 := rfl
  have em : (-1 : Int32).toInt = -1 := rfl
  unfold S_VR_string_J149 F_VR_string_J149
  have h1 := T_VR_spread (x2 := ((F_VR_size64 (t3_0 t0_14.toNatClampNeg : Int64)) : Int64)) (x3 := (10 : Int32)) (t0_0 := t0_0) (t0_1 := t0_1) (t0_2 := t0_2) (t0_3 := t0_3) (t0_4 := t0_4) (t0_5 := t0_5) (t0_6 := t0_6) (t0_7 := t0_7) (t0_8 := t0_8) (t0_9 := t0_9) (t0_10 := t0_10) (t0_11 := t0_11) (t0_12 := t0_12) (t0_13 := t0_13) (t0_14 := t0_14) (t0_15 := t0_15) (t0_16 := t0_16) (t0_17 := lx133) (t0_18 := t0_18) (t0_19 := t0_19) (t0_20 := t0_20) (t0_21 := t0_21) (t1_0 := t6_0) (by first | decide | omega)
  with_reducible refine v_owe h1.1 ?_
  replace h1 := h1.2
  generalize F_VR_spread ((F_VR_size64 (t3_0 t0_14.toNatClampNeg : Int64)) : Int64) (10 : Int32) t0_0 t0_1 t0_2 t0_3 t0_4 t0_5 t0_6 t0_7 t0_8 t0_9 t0_10 t0_11 t0_12 t0_13 t0_14 t0_15 t0_16 lx133 t0_18 t0_19 t0_20 t0_21 t6_0 = p170 at *
  unfold Q_VR_spread at h1
  have h121 := congrArg Int32.toInt h1.2
  have s20 := h1.1
  unfold S_VR_string_c164 F_VR_string_c164
  by_cases g2 : (t1_0 t0_14.toNatClampNeg : Int32) = (5 : Int32)
  ·
    rw [if_pos g2, if_pos g2]
    have vp := vr_pt hZ h14 s20; exact T_VR_st2 hL h9 s20 ⟨by omega, by omega⟩
  ·
    rw [if_neg g2, if_neg g2]
    have vp := vr_pt hZ h14 s20; exact T_VR_st2 hL h9 s20 ⟨by omega, by omega⟩
theorem T_VR_st2_11 {t0_0 : Int32} {t0_1 : Int32} {t0_2 : Int32} {t0_3 : Int32} {t0_4 : Int32} {t0_5 : Int32} {t0_6 : Int32} {t0_7 : Int32} {t0_8 : Int32} {t0_9 : Int32} {t0_10 : Int32} {t0_11 : Int32} {t0_12 : Int32} {t0_13 : Int32} {t0_14 : Int32} {t0_15 : Int32} {t0_16 : Int32} {t0_17 : Int32} {t0_18 : Int32} {t0_19 : Int32} {t0_20 : Int32} {t0_21 : Int32} {t1_0 : (Nat → Int32)} {t2_0 : (Nat → Int32)} {t3_0 : (Nat → Int64)} {t4_0 : (Nat → Int32)} {t5_0 : (Nat → Int32)} {t6_0 : (Nat → Int32)} {lx323 : Int32} {lx324 : (Nat → Int32)} {p360 : (Int32 × Int32 × (Nat → Int32))} {y350 : Int32} {y351 : Int32} {f352 : (Nat → Int32)} {lx372 : Int32} (hL : 0 ≤ t0_17.toInt ∧ t0_17.toInt ≤ 100)(h9 : t0_17.toInt ≤ lx323.toInt ∧ lx323.toInt ≤ t0_17.toInt + 1) (hy : 1 ≤ y350.toInt ∧ y350.toInt ≤ 24) (hp : -64 ≤ lx372.toInt ∧ lx372.toInt ≤ y350.toInt) : (S_VR_string_J202_13 t0_0 t0_1 t0_2 t0_3 t0_4 t0_5 t0_6 t0_7 t0_8 t0_9 t0_10 t0_11 t0_12 t0_13 t0_14 t0_15 t0_16 t0_17 t0_18 t0_19 t0_20 t0_21 t1_0 t2_0 t3_0 t4_0 t5_0 t6_0 lx323 lx324 p360 y350 y351 f352 lx372) ∧ Q_VR_str t0_17 (F_VR_string_J202_13 t0_0 t0_1 t0_2 t0_3 t0_4 t0_5 t0_6 t0_7 t0_8 t0_9 t0_10 t0_11 t0_12 t0_13 t0_14 t0_15 t0_16 t0_17 t0_18 t0_19 t0_20 t0_21 t1_0 t2_0 t3_0 t4_0 t5_0 t6_0 lx323 lx324 p360 y350 y351 f352 lx372) := by
  have e0 : (0 : Int32).toInt = 0 := rfl
  have e1 : (1 : Int32).toInt = 1 := rfl
  have eL0 : (0 : Int64).toInt = 0 := rfl
  have em : (-1 : Int32).toInt = -1 := rfl
  unfold S_VR_string_J202_13 F_VR_string_J202_13
  obtain ⟨a1, e2⟩ := q_nm (y350 - lx372 : Int32)
  rw [e2]
  have a1i : a1.toInt = y350.toInt - lx372.toInt := by rw [← e2]; exact q_subI (x := y350.toInt) (y := lx372.toInt) rfl rfl (by omega) (by omega)
  have h3 := T_VR_plain (x2 := a1) (t0_0 := t0_0) (t0_1 := t0_1) (t0_2 := t0_2) (t0_3 := t0_3) (t0_4 := t0_4) (t0_5 := t0_5) (t0_6 := t0_6) (t0_7 := t0_7) (t0_8 := t0_8) (t0_9 := (t0_9 &&& (-19) : Int32)) (t0_10 := t0_10) (t0_11 := t0_11) (t0_12 := t0_12) (t0_13 := t0_13) (t0_14 := t0_14) (t0_15 := t0_15) (t0_16 := t0_16) (t0_17 := lx323) (t0_18 := t0_18) (t0_19 := t0_19) (t0_20 := y350) (t0_21 := lx372) (t1_0 := lx324) (t2_0 := f352) ⟨by omega, by omega⟩ ⟨by omega, by omega⟩ ⟨by omega, by omega⟩ ⟨by first | omega | decide, by first | omega | decide⟩
  with_reducible refine v_owe h3.1 ?_
  replace h3 := h3.2
  generalize F_VR_plain a1 t0_0 t0_1 t0_2 t0_3 t0_4 t0_5 t0_6 t0_7 t0_8 (t0_9 &&& (-19) : Int32) t0_10 t0_11 t0_12 t0_13 t0_14 t0_15 t0_16 lx323 t0_18 t0_19 y350 lx372 lx324 f352 = p403 at *
  unfold Q_VR_plain at h3
  unfold S_VR_string_c226_14 F_VR_string_c226_14
  refine ⟨trivial, ?_⟩
  (unfold Q_VR_str; dsimp only; exact ⟨by omega, by omega⟩)
theorem T_VR_st_11 {t0_0 : Int32} {t0_1 : Int32} {t0_2 : Int32} {t0_3 : Int32} {t0_4 : Int32} {t0_5 : Int32} {t0_6 : Int32} {t0_7 : Int32} {t0_8 : Int32} {t0_9 : Int32} {t0_10 : Int32} {t0_11 : Int32} {t0_12 : Int32} {t0_13 : Int32} {t0_14 : Int32} {t0_15 : Int32} {t0_16 : Int32} {t0_17 : Int32} {t0_18 : Int32} {t0_19 : Int32} {t0_20 : Int32} {t0_21 : Int32} {t1_0 : (Nat → Int32)} {t2_0 : (Nat → Int32)} {t3_0 : (Nat → Int64)} {t4_0 : (Nat → Int32)} {t5_0 : (Nat → Int32)} {t6_0 : (Nat → Int32)} {lx323 : Int32} {lx324 : (Nat → Int32)} (hZ : ∀ i, i < 9 → 0 ≤ (t2_0 i).toInt ∧ (t2_0 i).toInt ≤ 64) (h14 : 0 ≤ t0_14.toInt ∧ t0_14.toInt ≤ 8) (hL : 0 ≤ t0_17.toInt ∧ t0_17.toInt ≤ 100)(h9 : t0_17.toInt ≤ lx323.toInt ∧ lx323.toInt ≤ t0_17.toInt + 1) : (S_VR_string_J149_11 t0_0 t0_1 t0_2 t0_3 t0_4 t0_5 t0_6 t0_7 t0_8 t0_9 t0_10 t0_11 t0_12 t0_13 t0_14 t0_15 t0_16 t0_17 t0_18 t0_19 t0_20 t0_21 t1_0 t2_0 t3_0 t4_0 t5_0 t6_0 lx323 lx324) ∧ Q_VR_str t0_17 (F_VR_string_J149_11 t0_0 t0_1 t0_2 t0_3 t0_4 t0_5 t0_6 t0_7 t0_8 t0_9 t0_10 t0_11 t0_12 t0_13 t0_14 t0_15 t0_16 t0_17 t0_18 t0_19 t0_20 t0_21 t1_0 t2_0 t3_0 t4_0 t5_0 t6_0 lx323 lx324) := by
  have e0 : (0 : Int32).toInt = 0 := rfl
  have e1 : (1 : Int32).toInt = 1 := rfl
  have eL0 : (0 : Int64).toInt = 0 := rfl
  have em : (-1 : Int32).toInt = -1 := rfl
  unfold S_VR_string_J149_11 F_VR_string_J149_11
  have h1 := T_VR_spread (x2 := ((F_VR_size64 (t3_0 t0_14.toNatClampNeg : Int64)) : Int64)) (x3 := (10 : Int32)) (t0_0 := t0_0) (t0_1 := t0_1) (t0_2 := t0_2) (t0_3 := t0_3) (t0_4 := t0_4) (t0_5 := t0_5) (t0_6 := t0_6) (t0_7 := t0_7) (t0_8 := t0_8) (t0_9 := t0_9) (t0_10 := t0_10) (t0_11 := t0_11) (t0_12 := t0_12) (t0_13 := t0_13) (t0_14 := t0_14) (t0_15 := t0_15) (t0_16 := t0_16) (t0_17 := lx323) (t0_18 := t0_18) (t0_19 := t0_19) (t0_20 := t0_20) (t0_21 := t0_21) (t1_0 := t6_0) (by first | decide | omega)
  with_reducible refine v_owe h1.1 ?_
  replace h1 := h1.2
  generalize F_VR_spread ((F_VR_size64 (t3_0 t0_14.toNatClampNeg : Int64)) : Int64) (10 : Int32) t0_0 t0_1 t0_2 t0_3 t0_4 t0_5 t0_6 t0_7 t0_8 t0_9 t0_10 t0_11 t0_12 t0_13 t0_14 t0_15 t0_16 lx323 t0_18 t0_19 t0_20 t0_21 t6_0 = p360 at *
  unfold Q_VR_spread at h1
  have h121 := congrArg Int32.toInt h1.2
  have s20 := h1.1
  unfold S_VR_string_c164_12 F_VR_string_c164_12
  by_cases g2 : (t1_0 t0_14.toNatClampNeg : Int32) = (5 : Int32)
  ·
    rw [if_pos g2, if_pos g2]
    have vp := vr_pt hZ h14 s20; exact T_VR_st2_11 hL h9 s20 ⟨by omega, by omega⟩
  ·
    rw [if_neg g2, if_neg g2]
    have vp := vr_pt hZ h14 s20; exact T_VR_st2_11 hL h9 s20 ⟨by omega, by omega⟩
theorem T_VR_string {t0_0 : Int32} {t0_1 : Int32} {t0_2 : Int32} {t0_3 : Int32} {t0_4 : Int32} {t0_5 : Int32} {t0_6 : Int32} {t0_7 : Int32} {t0_8 : Int32} {t0_9 : Int32} {t0_10 : Int32} {t0_11 : Int32} {t0_12 : Int32} {t0_13 : Int32} {t0_14 : Int32} {t0_15 : Int32} {t0_16 : Int32} {t0_17 : Int32} {t0_18 : Int32} {t0_19 : Int32} {t0_20 : Int32} {t0_21 : Int32} {t1_0 : (Nat → Int32)} {t2_0 : (Nat → Int32)} {t3_0 : (Nat → Int64)} {t4_0 : (Nat → Int32)} {t5_0 : (Nat → Int32)} {t6_0 : (Nat → Int32)} (hZ : ∀ i, i < 9 → 0 ≤ (t2_0 i).toInt ∧ (t2_0 i).toInt ≤ 64) (h14 : 0 ≤ t0_14.toInt ∧ t0_14.toInt ≤ 8) (hL : 0 ≤ t0_17.toInt ∧ t0_17.toInt ≤ 100) : (S_VR_string t0_0 t0_1 t0_2 t0_3 t0_4 t0_5 t0_6 t0_7 t0_8 t0_9 t0_10 t0_11 t0_12 t0_13 t0_14 t0_15 t0_16 t0_17 t0_18 t0_19 t0_20 t0_21 t1_0 t2_0 t3_0 t4_0 t5_0 t6_0) ∧ Q_VR_str t0_17 (F_VR_string t0_0 t0_1 t0_2 t0_3 t0_4 t0_5 t0_6 t0_7 t0_8 t0_9 t0_10 t0_11 t0_12 t0_13 t0_14 t0_15 t0_16 t0_17 t0_18 t0_19 t0_20 t0_21 t1_0 t2_0 t3_0 t4_0 t5_0 t6_0) := by
  have e0 : (0 : Int32).toInt = 0 := rfl
  have e1 : (1 : Int32).toInt = 1 := rfl
  have eL0 : (0 : Int64).toInt = 0 := rfl
  have em : (-1 : Int32).toInt = -1 := rfl
  unfold S_VR_string F_VR_string
  refine v_cons (by first | omega | decide) ?_
  refine v_cons (by first | omega | decide) ?_
  by_cases g1 : (t1_0 t0_14.toNatClampNeg : Int32) = (1 : Int32)
  ·
    rw [if_pos g1, if_pos g1]
    by_cases g2 : (lg_cmp (t3_0 t0_14.toNatClampNeg : Int64) 1 : Int32) = (0 : Int32)
    ·
      rw [if_pos g2, if_pos g2]
      have h3 := T_VR_word (x2 := (1702195828 : Int64)) (t0_0 := t0_0) (t0_1 := t0_1) (t0_2 := t0_2) (t0_3 := t0_3) (t0_4 := t0_4) (t0_5 := t0_5) (t0_6 := t0_6) (t0_7 := t0_7) (t0_8 := t0_8) (t0_9 := t0_9) (t0_10 := t0_10) (t0_11 := t0_11) (t0_12 := t0_12) (t0_13 := t0_13) (t0_14 := t0_14) (t0_15 := t0_15) (t0_16 := t0_16) (t0_17 := t0_17) (t0_18 := t0_18) (t0_19 := t0_19) (t0_20 := t0_20) (t0_21 := t0_21) (t1_0 := t5_0) ⟨by first | omega | decide, by first | omega | decide⟩ (by decide)
      with_reducible refine v_owe h3.1 ?_
      replace h3 := h3.2
      generalize F_VR_word (1702195828 : Int64) t0_0 t0_1 t0_2 t0_3 t0_4 t0_5 t0_6 t0_7 t0_8 t0_9 t0_10 t0_11 t0_12 t0_13 t0_14 t0_15 t0_16 t0_17 t0_18 t0_19 t0_20 t0_21 t5_0 = p87 at *
      unfold Q_VR_word at h3
      unfold S_VR_string_c64_2 F_VR_string_c64_2
      refine ⟨trivial, ?_⟩
      (unfold Q_VR_str; dsimp only; exact ⟨by omega, by omega⟩)
    ·
      rw [if_neg g2, if_neg g2]
      have h4 := T_VR_word (x2 := (435728179558 : Int64)) (t0_0 := t0_0) (t0_1 := t0_1) (t0_2 := t0_2) (t0_3 := t0_3) (t0_4 := t0_4) (t0_5 := t0_5) (t0_6 := t0_6) (t0_7 := t0_7) (t0_8 := t0_8) (t0_9 := t0_9) (t0_10 := t0_10) (t0_11 := t0_11) (t0_12 := t0_12) (t0_13 := t0_13) (t0_14 := t0_14) (t0_15 := t0_15) (t0_16 := t0_16) (t0_17 := t0_17) (t0_18 := t0_18) (t0_19 := t0_19) (t0_20 := t0_20) (t0_21 := t0_21) (t1_0 := t5_0) ⟨by first | omega | decide, by first | omega | decide⟩ (by decide)
      with_reducible refine v_owe h4.1 ?_
      replace h4 := h4.2
      generalize F_VR_word (435728179558 : Int64) t0_0 t0_1 t0_2 t0_3 t0_4 t0_5 t0_6 t0_7 t0_8 t0_9 t0_10 t0_11 t0_12 t0_13 t0_14 t0_15 t0_16 t0_17 t0_18 t0_19 t0_20 t0_21 t5_0 = p68 at *
      unfold Q_VR_word at h4
      unfold S_VR_string_c64 F_VR_string_c64
      refine ⟨trivial, ?_⟩
      (unfold Q_VR_str; dsimp only; exact ⟨by omega, by omega⟩)
  ·
    rw [if_neg g1, if_neg g1]
    by_cases g5 : (t1_0 t0_14.toNatClampNeg : Int32) = (2 : Int32)
    ·
      rw [if_pos g5, if_pos g5]
      have h6 := T_VR_put (x2 := ((t3_0 t0_14.toNatClampNeg : Int64).toInt32 : Int32)) (t0_0 := t0_0) (t0_1 := t0_1) (t0_2 := t0_2) (t0_3 := t0_3) (t0_4 := t0_4) (t0_5 := t0_5) (t0_6 := t0_6) (t0_7 := t0_7) (t0_8 := t0_8) (t0_9 := t0_9) (t0_10 := t0_10) (t0_11 := t0_11) (t0_12 := t0_12) (t0_13 := t0_13) (t0_14 := t0_14) (t0_15 := t0_15) (t0_16 := t0_16) (t0_17 := t0_17) (t0_18 := t0_18) (t0_19 := t0_19) (t0_20 := t0_20) (t0_21 := t0_21) (t1_0 := t5_0) ⟨by first | omega | decide, by first | omega | decide⟩
      with_reducible refine v_owe h6.1 ?_
      replace h6 := h6.2
      generalize F_VR_put ((t3_0 t0_14.toNatClampNeg : Int64).toInt32 : Int32) t0_0 t0_1 t0_2 t0_3 t0_4 t0_5 t0_6 t0_7 t0_8 t0_9 t0_10 t0_11 t0_12 t0_13 t0_14 t0_15 t0_16 t0_17 t0_18 t0_19 t0_20 t0_21 t5_0 = p116 at *
      unfold Q_VR_put at h6
      unfold S_VR_string_c81 F_VR_string_c81
      refine ⟨trivial, ?_⟩
      (unfold Q_VR_str; dsimp only; exact ⟨by omega, by omega⟩)
    ·
      rw [if_neg g5, if_neg g5]
      by_cases g7 : (t1_0 t0_14.toNatClampNeg : Int32) = (3 : Int32)
      ·
        rw [if_pos g7, if_pos g7]
        by_cases g8 : (0 : Int32) ≤ (lg_cmp (t3_0 t0_14.toNatClampNeg : Int64) 0 : Int32)
        ·
          rw [if_pos g8, if_pos g8]
          exact T_VR_st hZ h14 hL ⟨by omega, by omega⟩
        ·
          rw [if_neg g8, if_neg g8]
          have h9 := T_VR_put (x2 := (45 : Int32)) (t0_0 := t0_0) (t0_1 := t0_1) (t0_2 := t0_2) (t0_3 := t0_3) (t0_4 := t0_4) (t0_5 := t0_5) (t0_6 := t0_6) (t0_7 := t0_7) (t0_8 := t0_8) (t0_9 := t0_9) (t0_10 := t0_10) (t0_11 := t0_11) (t0_12 := t0_12) (t0_13 := t0_13) (t0_14 := t0_14) (t0_15 := t0_15) (t0_16 := t0_16) (t0_17 := t0_17) (t0_18 := t0_18) (t0_19 := t0_19) (t0_20 := t0_20) (t0_21 := t0_21) (t1_0 := t5_0) ⟨by first | omega | decide, by first | omega | decide⟩
          with_reducible refine v_owe h9.1 ?_
          replace h9 := h9.2
          generalize F_VR_put (45 : Int32) t0_0 t0_1 t0_2 t0_3 t0_4 t0_5 t0_6 t0_7 t0_8 t0_9 t0_10 t0_11 t0_12 t0_13 t0_14 t0_15 t0_16 t0_17 t0_18 t0_19 t0_20 t0_21 t5_0 = p245 at *
          unfold Q_VR_put at h9
          unfold S_VR_string_c146 F_VR_string_c146
          exact T_VR_st hZ h14 hL ⟨by omega, by omega⟩
      ·
        rw [if_neg g7, if_neg g7]
        by_cases g10 : (t1_0 t0_14.toNatClampNeg : Int32) = (4 : Int32)
        ·
          rw [if_pos g10, if_pos g10]
          exact vv_st hZ h14 hL _ _ _ _ (by decide) (by decide) ⟨by omega, by omega⟩
        ·
          rw [if_neg g10, if_neg g10]
          by_cases g11 : (0 : Int32) ≤ (lg_cmp (t3_0 t0_14.toNatClampNeg : Int64) 0 : Int32)
          ·
            rw [if_pos g11, if_pos g11]
            exact T_VR_st_11 hZ h14 hL ⟨by omega, by omega⟩
          ·
            rw [if_neg g11, if_neg g11]
            have h12 := T_VR_put (x2 := (45 : Int32)) (t0_0 := t0_0) (t0_1 := t0_1) (t0_2 := t0_2) (t0_3 := t0_3) (t0_4 := t0_4) (t0_5 := t0_5) (t0_6 := t0_6) (t0_7 := t0_7) (t0_8 := t0_8) (t0_9 := t0_9) (t0_10 := t0_10) (t0_11 := t0_11) (t0_12 := t0_12) (t0_13 := t0_13) (t0_14 := t0_14) (t0_15 := t0_15) (t0_16 := t0_16) (t0_17 := t0_17) (t0_18 := t0_18) (t0_19 := t0_19) (t0_20 := t0_20) (t0_21 := t0_21) (t1_0 := t5_0) ⟨by first | omega | decide, by first | omega | decide⟩
            with_reducible refine v_owe h12.1 ?_
            replace h12 := h12.2
            generalize F_VR_put (45 : Int32) t0_0 t0_1 t0_2 t0_3 t0_4 t0_5 t0_6 t0_7 t0_8 t0_9 t0_10 t0_11 t0_12 t0_13 t0_14 t0_15 t0_16 t0_17 t0_18 t0_19 t0_20 t0_21 t5_0 = p435 at *
            unfold Q_VR_put at h12
            unfold S_VR_string_c146_15 F_VR_string_c146_15
            exact T_VR_st_11 hZ h14 hL ⟨by omega, by omega⟩

/-! DirectiveRows: widen, make -/
def Q_VR_widen (p : Int32 × (Nat → Int32)) : Prop := 0 ≤ p.1.toInt ∧ p.1.toInt ≤ 10400
theorem vv_w3 {K_F_VR_widen_L67 : Int32 → (Nat → Int32) → (Int32 × (Nat → Int32))} {t0_0 : Int32} {t0_1 : Int32} {t0_2 : Int32} {t0_3 : Int32} {t0_4 : Int32} {t0_5 : Int32} {t0_6 : Int32} {t0_7 : Int32} {t0_8 : Int32} {t0_9 : Int32} {t0_10 : Int32} {t0_11 : Int32} {t0_12 : Int32} {t0_13 : Int32} {t0_14 : Int32} {t0_15 : Int32} {t0_16 : Int32} {t0_17 : Int32} {t0_18 : Int32} {t0_19 : Int32} {t0_20 : Int32} {t0_21 : Int32} {t1_0 : (Nat → Int32)} {a32 : Int32} {lx45 : Int32} {lx57 : Int32} {lx58 : (Nat → Int32)} {K_S_VR_widen_L67 : Int32 → (Nat → Int32) → Prop} (h11 : -1 ≤ t0_11.toInt ∧ t0_11.toInt ≤ 9999) (h17 : 0 ≤ t0_17.toInt ∧ t0_17.toInt ≤ 10400) (h18 : 0 ≤ t0_18.toInt ∧ t0_18.toInt ≤ t0_17.toInt) (ha : a32.toInt = t0_11.toInt - t0_17.toInt ∧ 0 < a32.toInt) (h45 : 0 ≤ lx45.toInt ∧ lx45.toInt ≤ t0_17.toInt)  : ∀ (n : Nat) (lx72 : Int32) (lx73 : (Nat → Int32)), (0 ≤ lx72.toInt ∧ lx72.toInt ≤ a32.toInt) → (a32.toInt - lx72.toInt < (n : Int)) → (S_VR_widen_L94 K_S_VR_widen_L67 t0_0 t0_1 t0_2 t0_3 t0_4 t0_5 t0_6 t0_7 t0_8 t0_9 t0_10 t0_11 t0_12 t0_13 t0_14 t0_15 t0_16 t0_17 t0_18 t0_19 t0_20 t0_21 t1_0 a32 lx45 lx57 lx58 n lx72 lx73) ∧ Q_VR_widen (F_VR_widen_L94 K_F_VR_widen_L67 t0_0 t0_1 t0_2 t0_3 t0_4 t0_5 t0_6 t0_7 t0_8 t0_9 t0_10 t0_11 t0_12 t0_13 t0_14 t0_15 t0_16 t0_17 t0_18 t0_19 t0_20 t0_21 t1_0 a32 lx45 lx57 lx58 n lx72 lx73) := by
  intro n
  induction n with
  | zero => intro lx72 lx73 h0 hm; exact absurd (show False by omega) id
  | succ n ih =>
    intro lx72 lx73 h0 hm
    have e0 : (0 : Int32).toInt = 0 := rfl
    have e1 : (1 : Int32).toInt = 1 := rfl
    have eL0 : (0 : Int64).toInt = 0 := rfl
    have em : (-1 : Int32).toInt = -1 := rfl
    have eW : (t0_17 + a32 : Int32).toInt = t0_17.toInt + a32.toInt := q_addI rfl rfl (by omega) (by omega)
    have eX : (lx45 + lx72 : Int32).toInt = lx45.toInt + lx72.toInt := q_addI rfl rfl (by omega) (by omega)
    rw [S_VR_widen_L94.eq_2, F_VR_widen_L94.eq_2]
    by_cases g1 : a32 ≤ lx72
    ·
      rw [if_pos g1, if_pos g1]
      have g1i : a32.toInt ≤ lx72.toInt := q_leI g1
      refine ⟨trivial, ?_⟩
      (unfold Q_VR_widen; dsimp only; exact ⟨by omega, by omega⟩)
    ·
      rw [if_neg g1, if_neg g1]
      have g1i : lx72.toInt < a32.toInt := q_nleI g1
      by_cases g2 : t0_19 = (0 : Int32)
      ·
        rw [if_pos g2, if_pos g2]
        obtain ⟨a3, e4⟩ := q_nm (lx45 + lx72 : Int32)
        rw [e4]
        have a3i : a3.toInt = lx45.toInt + lx72.toInt := by rw [← e4]; exact q_addI (x := lx45.toInt) (y := lx72.toInt) rfl rfl (by omega) (by omega)
        refine v_cons (by first | omega | decide) ?_
        refine v_cons (by first | omega | decide) ?_
        obtain ⟨a5, e6⟩ := q_nm (lx72 + 1 : Int32)
        rw [e6]
        have a5i : a5.toInt = lx72.toInt + 1 := by rw [← e6]; exact q_addI (x := lx72.toInt) (y := 1) rfl (by decide) (by omega) (by omega)
        exact ih _ _ ⟨by omega, by omega⟩ (by omega)
      ·
        rw [if_neg g2, if_neg g2]
        obtain ⟨a7, e8⟩ := q_nm (lx45 + lx72 : Int32)
        rw [e8]
        have a7i : a7.toInt = lx45.toInt + lx72.toInt := by rw [← e8]; exact q_addI (x := lx45.toInt) (y := lx72.toInt) rfl rfl (by omega) (by omega)
        refine v_cons (by first | omega | decide) ?_
        refine v_cons (by first | omega | decide) ?_
        obtain ⟨a9, e10⟩ := q_nm (lx72 + 1 : Int32)
        rw [e10]
        have a9i : a9.toInt = lx72.toInt + 1 := by rw [← e10]; exact q_addI (x := lx72.toInt) (y := 1) rfl (by decide) (by omega) (by omega)
        exact ih _ _ ⟨by omega, by omega⟩ (by omega)
theorem vv_w2 {t0_0 : Int32} {t0_1 : Int32} {t0_2 : Int32} {t0_3 : Int32} {t0_4 : Int32} {t0_5 : Int32} {t0_6 : Int32} {t0_7 : Int32} {t0_8 : Int32} {t0_9 : Int32} {t0_10 : Int32} {t0_11 : Int32} {t0_12 : Int32} {t0_13 : Int32} {t0_14 : Int32} {t0_15 : Int32} {t0_16 : Int32} {t0_17 : Int32} {t0_18 : Int32} {t0_19 : Int32} {t0_20 : Int32} {t0_21 : Int32} {t1_0 : (Nat → Int32)} {a32 : Int32} {lx45 : Int32} (h11 : -1 ≤ t0_11.toInt ∧ t0_11.toInt ≤ 9999) (h17 : 0 ≤ t0_17.toInt ∧ t0_17.toInt ≤ 10400) (h18 : 0 ≤ t0_18.toInt ∧ t0_18.toInt ≤ t0_17.toInt) (ha : a32.toInt = t0_11.toInt - t0_17.toInt ∧ 0 < a32.toInt) (h45 : 0 ≤ lx45.toInt ∧ lx45.toInt ≤ t0_17.toInt)  : ∀ (n : Nat) (lx57 : Int32) (lx58 : (Nat → Int32)), (lx45.toInt - 1 ≤ lx57.toInt ∧ lx57.toInt ≤ t0_17.toInt - 1) → (lx57.toInt + 1 < (n : Int)) → (S_VR_widen_L67 t0_0 t0_1 t0_2 t0_3 t0_4 t0_5 t0_6 t0_7 t0_8 t0_9 t0_10 t0_11 t0_12 t0_13 t0_14 t0_15 t0_16 t0_17 t0_18 t0_19 t0_20 t0_21 t1_0 a32 lx45 n lx57 lx58) ∧ Q_VR_widen (F_VR_widen_L67 t0_0 t0_1 t0_2 t0_3 t0_4 t0_5 t0_6 t0_7 t0_8 t0_9 t0_10 t0_11 t0_12 t0_13 t0_14 t0_15 t0_16 t0_17 t0_18 t0_19 t0_20 t0_21 t1_0 a32 lx45 n lx57 lx58) := by
  intro n
  induction n with
  | zero => intro lx57 lx58 h0 hm; exact absurd (show False by omega) id
  | succ n ih =>
    intro lx57 lx58 h0 hm
    have e0 : (0 : Int32).toInt = 0 := rfl
    have e1 : (1 : Int32).toInt = 1 := rfl
    have eL0 : (0 : Int64).toInt = 0 := rfl
    have em : (-1 : Int32).toInt = -1 := rfl
    have eX : (lx57 + a32 : Int32).toInt = lx57.toInt + a32.toInt := q_addI rfl rfl (by omega) (by omega)
    rw [S_VR_widen_L67.eq_2, F_VR_widen_L67.eq_2]
    by_cases g1 : lx57 < lx45
    ·
      rw [if_pos g1, if_pos g1]
      have g1i : lx57.toInt < lx45.toInt := q_ltI g1
      exact vv_w3 h11 h17 h18 ha h45 _ _ _ ⟨by decide, by omega⟩ (by omega)
    ·
      rw [if_neg g1, if_neg g1]
      have g1i : lx45.toInt ≤ lx57.toInt := q_nltI g1
      refine v_cons (by first | omega | decide) ?_
      refine v_cons (by first | omega | decide) ?_
      obtain ⟨a2, e3⟩ := q_nm (lx57 + a32 : Int32)
      rw [e3]
      have a2i : a2.toInt = lx57.toInt + a32.toInt := by rw [← e3]; exact q_addI (x := lx57.toInt) (y := a32.toInt) rfl rfl (by omega) (by omega)
      refine v_cons (by first | omega | decide) ?_
      refine v_cons (by first | omega | decide) ?_
      obtain ⟨a4, e5⟩ := q_nm (lx57 + (-1) : Int32)
      rw [e5]
      have a4i : a4.toInt = lx57.toInt + (-1) := by rw [← e5]; exact q_addI (x := lx57.toInt) (y := (-1)) rfl (by decide) (by omega) (by omega)
      exact ih _ _ ⟨by omega, by omega⟩ (by omega)
theorem vv_w1 {t0_0 : Int32} {t0_1 : Int32} {t0_2 : Int32} {t0_3 : Int32} {t0_4 : Int32} {t0_5 : Int32} {t0_6 : Int32} {t0_7 : Int32} {t0_8 : Int32} {t0_9 : Int32} {t0_10 : Int32} {t0_11 : Int32} {t0_12 : Int32} {t0_13 : Int32} {t0_14 : Int32} {t0_15 : Int32} {t0_16 : Int32} {t0_17 : Int32} {t0_18 : Int32} {t0_19 : Int32} {t0_20 : Int32} {t0_21 : Int32} {t1_0 : (Nat → Int32)} {a32 : Int32} (h11 : -1 ≤ t0_11.toInt ∧ t0_11.toInt ≤ 9999) (h17 : 0 ≤ t0_17.toInt ∧ t0_17.toInt ≤ 10400) (h18 : 0 ≤ t0_18.toInt ∧ t0_18.toInt ≤ t0_17.toInt) (ha : a32.toInt = t0_11.toInt - t0_17.toInt ∧ 0 < a32.toInt)  : ∀ (n : Nat) (lx135 : Int32) (lx136 : Int32) (lx137 : (Nat → Int32)), (0 ≤ lx135.toInt ∧ lx135.toInt ≤ a32.toInt) → (a32.toInt - lx135.toInt < (n : Int)) → (lx136.toInt = t0_17.toInt + lx135.toInt) → (S_VR_widen_L26 t0_0 t0_1 t0_2 t0_3 t0_4 t0_5 t0_6 t0_7 t0_8 t0_9 t0_10 t0_11 t0_12 t0_13 t0_14 t0_15 t0_16 t0_17 t0_18 t0_19 t0_20 t0_21 t1_0 a32 n lx135 lx136 lx137) ∧ Q_VR_widen (F_VR_widen_L26 t0_0 t0_1 t0_2 t0_3 t0_4 t0_5 t0_6 t0_7 t0_8 t0_9 t0_10 t0_11 t0_12 t0_13 t0_14 t0_15 t0_16 t0_17 t0_18 t0_19 t0_20 t0_21 t1_0 a32 n lx135 lx136 lx137) := by
  intro n
  induction n with
  | zero => intro lx135 lx136 lx137 h0 hm hs; exact absurd (show False by omega) id
  | succ n ih =>
    intro lx135 lx136 lx137 h0 hm hs
    have e0 : (0 : Int32).toInt = 0 := rfl
    have e1 : (1 : Int32).toInt = 1 := rfl
    have eL0 : (0 : Int64).toInt = 0 := rfl
    have em : (-1 : Int32).toInt = -1 := rfl
    rw [S_VR_widen_L26.eq_2, F_VR_widen_L26.eq_2]
    by_cases g1 : a32 ≤ lx135
    ·
      rw [if_pos g1, if_pos g1]
      have g1i : a32.toInt ≤ lx135.toInt := q_leI g1
      refine ⟨trivial, ?_⟩
      (unfold Q_VR_widen; dsimp only; exact ⟨by omega, by omega⟩)
    ·
      rw [if_neg g1, if_neg g1]
      have g1i : lx135.toInt < a32.toInt := q_nleI g1
      have h2 := T_VR_put (x2 := (32 : Int32)) (t0_0 := t0_0) (t0_1 := t0_1) (t0_2 := t0_2) (t0_3 := t0_3) (t0_4 := t0_4) (t0_5 := t0_5) (t0_6 := t0_6) (t0_7 := t0_7) (t0_8 := t0_8) (t0_9 := t0_9) (t0_10 := t0_10) (t0_11 := t0_11) (t0_12 := t0_12) (t0_13 := t0_13) (t0_14 := t0_14) (t0_15 := t0_15) (t0_16 := t0_16) (t0_17 := lx136) (t0_18 := t0_18) (t0_19 := t0_19) (t0_20 := t0_20) (t0_21 := t0_21) (t1_0 := lx137) ⟨by first | omega | decide, by first | omega | decide⟩
      with_reducible refine v_owe h2.1 ?_
      replace h2 := h2.2
      generalize F_VR_put (32 : Int32) t0_0 t0_1 t0_2 t0_3 t0_4 t0_5 t0_6 t0_7 t0_8 t0_9 t0_10 t0_11 t0_12 t0_13 t0_14 t0_15 t0_16 lx136 t0_18 t0_19 t0_20 t0_21 lx137 = p166 at *
      unfold Q_VR_put at h2
      unfold S_VR_widen_c34 F_VR_widen_c34
      obtain ⟨a3, e4⟩ := q_nm (lx135 + 1 : Int32)
      rw [e4]
      have a3i : a3.toInt = lx135.toInt + 1 := by rw [← e4]; exact q_addI (x := lx135.toInt) (y := 1) rfl (by decide) (by omega) (by omega)
      exact ih _ _ _ ⟨by omega, by omega⟩ (by omega) (by omega)
theorem T_VR_widen {t0_0 : Int32} {t0_1 : Int32} {t0_2 : Int32} {t0_3 : Int32} {t0_4 : Int32} {t0_5 : Int32} {t0_6 : Int32} {t0_7 : Int32} {t0_8 : Int32} {t0_9 : Int32} {t0_10 : Int32} {t0_11 : Int32} {t0_12 : Int32} {t0_13 : Int32} {t0_14 : Int32} {t0_15 : Int32} {t0_16 : Int32} {t0_17 : Int32} {t0_18 : Int32} {t0_19 : Int32} {t0_20 : Int32} {t0_21 : Int32} {t1_0 : (Nat → Int32)} (h11 : -1 ≤ t0_11.toInt ∧ t0_11.toInt ≤ 9999) (h17 : 0 ≤ t0_17.toInt ∧ t0_17.toInt ≤ 10400) (h18 : 0 ≤ t0_18.toInt ∧ t0_18.toInt ≤ t0_17.toInt)  : (S_VR_widen t0_0 t0_1 t0_2 t0_3 t0_4 t0_5 t0_6 t0_7 t0_8 t0_9 t0_10 t0_11 t0_12 t0_13 t0_14 t0_15 t0_16 t0_17 t0_18 t0_19 t0_20 t0_21 t1_0) ∧ Q_VR_widen (F_VR_widen t0_0 t0_1 t0_2 t0_3 t0_4 t0_5 t0_6 t0_7 t0_8 t0_9 t0_10 t0_11 t0_12 t0_13 t0_14 t0_15 t0_16 t0_17 t0_18 t0_19 t0_20 t0_21 t1_0) := by
  have e0 : (0 : Int32).toInt = 0 := rfl
  have e1 : (1 : Int32).toInt = 1 := rfl
  have eL0 : (0 : Int64).toInt = 0 := rfl
  have em : (-1 : Int32).toInt = -1 := rfl
  unfold S_VR_widen F_VR_widen
  by_cases g1 : (0 : Int32) < (t0_11 - t0_17 : Int32)
  ·
    rw [if_pos g1, if_pos g1]
    have eA : (t0_11 - t0_17 : Int32).toInt = t0_11.toInt - t0_17.toInt := q_subI rfl rfl (by omega) (by omega)
    have g1i := q_ltI g1
    by_cases g2 : ((F_VR_has (45 : Int32) t0_0 t0_1 t0_2 t0_3 t0_4 t0_5 t0_6 t0_7 t0_8 t0_9 t0_10 t0_11 t0_12 t0_13 t0_14 t0_15 t0_16 t0_17 t0_18 t0_19 t0_20 t0_21) : Int32) = (0 : Int32)
    ·
      rw [if_pos g2, if_pos g2]
      by_cases g3 : t0_19 = (0 : Int32)
      ·
        rw [if_pos g3, if_pos g3]
        unfold S_VR_widen_J59 F_VR_widen_J59
        have eK : (t0_17 - 1 : Int32).toInt = t0_17.toInt - 1 := q_subI (y := 1) rfl (by decide) (by omega) (by omega); exact vv_w2 h11 h17 h18 ⟨eA, by omega⟩ ⟨by first | omega | decide, by first | omega | (rw [e0]; omega)⟩ _ _ _ ⟨by first | omega | (rw [e0]; omega), by omega⟩ (by omega)
      ·
        rw [if_neg g3, if_neg g3]
        unfold S_VR_widen_J59 F_VR_widen_J59
        have eK : (t0_17 - 1 : Int32).toInt = t0_17.toInt - 1 := q_subI (y := 1) rfl (by decide) (by omega) (by omega); exact vv_w2 h11 h17 h18 ⟨eA, by omega⟩ ⟨by first | omega | decide, by first | omega | (rw [e0]; omega)⟩ _ _ _ ⟨by first | omega | (rw [e0]; omega), by omega⟩ (by omega)
    ·
      rw [if_neg g2, if_neg g2]
      exact vv_w1 h11 h17 h18 ⟨eA, by omega⟩ _ _ _ _ ⟨by decide, by omega⟩ (by omega) (by omega)
  ·
    rw [if_neg g1, if_neg g1]
    refine ⟨trivial, ?_⟩
    (unfold Q_VR_widen; dsimp only; exact ⟨by omega, by omega⟩)
def Q_VR_make (p : Int32 × Int32 × Int32 × Int32 × Int32 × Int32 × (Nat → Int32) × (Nat → Int32)) : Prop := 0 ≤ p.2.1.toInt ∧ p.2.1.toInt ≤ 10400
theorem vv_m1 {t0_0 : Int32} {t0_1 : Int32} {t0_2 : Int32} {t0_3 : Int32} {t0_4 : Int32} {t0_5 : Int32} {t0_6 : Int32} {t0_7 : Int32} {t0_8 : Int32} {t0_9 : Int32} {t0_10 : Int32} {t0_11 : Int32} {t0_12 : Int32} {t0_13 : Int32} {t0_14 : Int32} {t0_15 : Int32} {t0_16 : Int32} {t0_17 : Int32} {t0_18 : Int32} {t0_19 : Int32} {t0_20 : Int32} {t0_21 : Int32} {t1_0 : (Nat → Int32)} {t2_0 : (Nat → Int32)} {t3_0 : (Nat → Int64)} {t4_0 : (Nat → Int32)} {t5_0 : (Nat → Int32)} {t6_0 : (Nat → Int32)} {a48 : Int32} {lx59 : Int32} {lx75 : Int32} {lx76 : Int32} {lx77 : Int32} {lx78 : Int32} {lx79 : Int32} {lx80 : Int32} {lx81 : (Nat → Int32)} {lx82 : (Nat → Int32)} {lx99 : Int32} {p123 : (Int32 × (Nat → Int32))} {y118 : Int32} (hy : 0 ≤ y118.toInt ∧ y118.toInt ≤ 10400) : ∀ (n : Nat) (lx139 : Int32) (lx140 : (Nat → Int32)), (0 ≤ lx139.toInt ∧ lx139.toInt ≤ 10400) → (10400 - lx139.toInt < (n : Int)) → (S_VR_make_L262 t0_0 t0_1 t0_2 t0_3 t0_4 t0_5 t0_6 t0_7 t0_8 t0_9 t0_10 t0_11 t0_12 t0_13 t0_14 t0_15 t0_16 t0_17 t0_18 t0_19 t0_20 t0_21 t1_0 t2_0 t3_0 t4_0 t5_0 t6_0 a48 lx59 lx75 lx76 lx77 lx78 lx79 lx80 lx81 lx82 lx99 p123 y118 n lx139 lx140) ∧ Q_VR_make (F_VR_make_L262 t0_0 t0_1 t0_2 t0_3 t0_4 t0_5 t0_6 t0_7 t0_8 t0_9 t0_10 t0_11 t0_12 t0_13 t0_14 t0_15 t0_16 t0_17 t0_18 t0_19 t0_20 t0_21 t1_0 t2_0 t3_0 t4_0 t5_0 t6_0 a48 lx59 lx75 lx76 lx77 lx78 lx79 lx80 lx81 lx82 lx99 p123 y118 n lx139 lx140) := by
  intro n
  induction n with
  | zero => intro lx139 lx140 h0 hm; exact absurd (show False by omega) id
  | succ n ih =>
    intro lx139 lx140 h0 hm
    have e0 : (0 : Int32).toInt = 0 := rfl
    have e1 : (1 : Int32).toInt = 1 := rfl
    have eL0 : (0 : Int64).toInt = 0 := rfl
    have em : (-1 : Int32).toInt = -1 := rfl
    rw [S_VR_make_L262.eq_2, F_VR_make_L262.eq_2]
    by_cases g1 : y118 ≤ lx139
    ·
      rw [if_pos g1, if_pos g1]
      have g1i : y118.toInt ≤ lx139.toInt := q_leI g1
      refine ⟨trivial, ?_⟩
      (unfold Q_VR_make; dsimp only; exact ⟨by omega, by omega⟩)
    ·
      rw [if_neg g1, if_neg g1]
      have g1i : lx139.toInt < y118.toInt := q_nleI g1
      refine v_cons (by first | omega | decide) ?_
      by_cases g2 : (lx140 lx139.toNatClampNeg : Int32) < (97 : Int32)
      ·
        rw [if_pos g2, if_pos g2]
        obtain ⟨a3, e4⟩ := q_nm (lx139 + 1 : Int32)
        rw [e4]
        have a3i : a3.toInt = lx139.toInt + 1 := by rw [← e4]; exact q_addI (x := lx139.toInt) (y := 1) rfl (by decide) (by omega) (by omega)
        exact ih _ _ ⟨by omega, by omega⟩ (by omega)
      ·
        rw [if_neg g2, if_neg g2]
        by_cases g5 : (122 : Int32) < (lx140 lx139.toNatClampNeg : Int32)
        ·
          rw [if_pos g5, if_pos g5]
          obtain ⟨a6, e7⟩ := q_nm (lx139 + 1 : Int32)
          rw [e7]
          have a6i : a6.toInt = lx139.toInt + 1 := by rw [← e7]; exact q_addI (x := lx139.toInt) (y := 1) rfl (by decide) (by omega) (by omega)
          exact ih _ _ ⟨by omega, by omega⟩ (by omega)
        ·
          rw [if_neg g5, if_neg g5]
          obtain ⟨a8, e9⟩ := q_nm (lx139 + 1 : Int32)
          rw [e9]
          have a8i : a8.toInt = lx139.toInt + 1 := by rw [← e9]; exact q_addI (x := lx139.toInt) (y := 1) rfl (by decide) (by omega) (by omega)
          exact ih _ _ ⟨by omega, by omega⟩ (by omega)
theorem T_VR_mk238 {t0_0 : Int32} {t0_1 : Int32} {t0_2 : Int32} {t0_3 : Int32} {t0_4 : Int32} {t0_5 : Int32} {t0_6 : Int32} {t0_7 : Int32} {t0_8 : Int32} {t0_9 : Int32} {t0_10 : Int32} {t0_11 : Int32} {t0_12 : Int32} {t0_13 : Int32} {t0_14 : Int32} {t0_15 : Int32} {t0_16 : Int32} {t0_17 : Int32} {t0_18 : Int32} {t0_19 : Int32} {t0_20 : Int32} {t0_21 : Int32} {t1_0 : (Nat → Int32)} {t2_0 : (Nat → Int32)} {t3_0 : (Nat → Int64)} {t4_0 : (Nat → Int32)} {t5_0 : (Nat → Int32)} {t6_0 : (Nat → Int32)} {a48 : Int32} {lx59 : Int32} {lx75 : Int32} {lx76 : Int32} {lx77 : Int32} {lx78 : Int32} {lx79 : Int32} {lx80 : Int32} {lx81 : (Nat → Int32)} {lx82 : (Nat → Int32)} {lx99 : Int32} (h11 : -1 ≤ t0_11.toInt ∧ t0_11.toInt ≤ 9999) (h99 : 0 ≤ lx99.toInt ∧ lx99.toInt ≤ 10400) (h77 : 0 ≤ lx77.toInt ∧ lx77.toInt ≤ lx99.toInt) : (S_VR_make_J238 t0_0 t0_1 t0_2 t0_3 t0_4 t0_5 t0_6 t0_7 t0_8 t0_9 t0_10 t0_11 t0_12 t0_13 t0_14 t0_15 t0_16 t0_17 t0_18 t0_19 t0_20 t0_21 t1_0 t2_0 t3_0 t4_0 t5_0 t6_0 a48 lx59 lx75 lx76 lx77 lx78 lx79 lx80 lx81 lx82 lx99) ∧ Q_VR_make (F_VR_make_J238 t0_0 t0_1 t0_2 t0_3 t0_4 t0_5 t0_6 t0_7 t0_8 t0_9 t0_10 t0_11 t0_12 t0_13 t0_14 t0_15 t0_16 t0_17 t0_18 t0_19 t0_20 t0_21 t1_0 t2_0 t3_0 t4_0 t5_0 t6_0 a48 lx59 lx75 lx76 lx77 lx78 lx79 lx80 lx81 lx82 lx99) := by
  have e0 : (0 : Int32).toInt = 0 := rfl
  have e1 : (1 : Int32).toInt = 1 := rfl
  have eL0 : (0 : Int64).toInt = 0 := rfl
  have em : (-1 : Int32).toInt = -1 := rfl
  unfold S_VR_make_J238 F_VR_make_J238
  have h1 := T_VR_widen (t0_0 := t0_0) (t0_1 := t0_1) (t0_2 := t0_2) (t0_3 := t0_3) (t0_4 := t0_4) (t0_5 := t0_5) (t0_6 := t0_6) (t0_7 := t0_7) (t0_8 := t0_8) (t0_9 := lx75) (t0_10 := t0_10) (t0_11 := t0_11) (t0_12 := t0_12) (t0_13 := t0_13) (t0_14 := t0_14) (t0_15 := t0_15) (t0_16 := t0_16) (t0_17 := lx99) (t0_18 := lx77) (t0_19 := lx78) (t0_20 := lx79) (t0_21 := lx80) (t1_0 := lx81) h11 ⟨by omega, by omega⟩ ⟨by omega, by omega⟩
  with_reducible refine v_owe h1.1 ?_
  replace h1 := h1.2
  generalize F_VR_widen t0_0 t0_1 t0_2 t0_3 t0_4 t0_5 t0_6 t0_7 t0_8 lx75 t0_10 t0_11 t0_12 t0_13 t0_14 t0_15 t0_16 lx99 lx77 lx78 lx79 lx80 lx81 = p123 at *
  unfold Q_VR_widen at h1
  unfold S_VR_make_c239 F_VR_make_c239
  by_cases g2 : t0_13 < (65 : Int32)
  ·
    rw [if_pos g2, if_pos g2]
    refine ⟨trivial, ?_⟩
    (unfold Q_VR_make; dsimp only; exact ⟨by omega, by omega⟩)
  ·
    rw [if_neg g2, if_neg g2]
    by_cases g3 : (90 : Int32) < t0_13
    ·
      rw [if_pos g3, if_pos g3]
      refine ⟨trivial, ?_⟩
      (unfold Q_VR_make; dsimp only; exact ⟨by omega, by omega⟩)
    ·
      rw [if_neg g3, if_neg g3]
      exact vv_m1 ⟨by omega, by omega⟩ _ _ _ (by decide) (by decide)
theorem T_VR_mk200 {t0_0 : Int32} {t0_1 : Int32} {t0_2 : Int32} {t0_3 : Int32} {t0_4 : Int32} {t0_5 : Int32} {t0_6 : Int32} {t0_7 : Int32} {t0_8 : Int32} {t0_9 : Int32} {t0_10 : Int32} {t0_11 : Int32} {t0_12 : Int32} {t0_13 : Int32} {t0_14 : Int32} {t0_15 : Int32} {t0_16 : Int32} {t0_17 : Int32} {t0_18 : Int32} {t0_19 : Int32} {t0_20 : Int32} {t0_21 : Int32} {t1_0 : (Nat → Int32)} {t2_0 : (Nat → Int32)} {t3_0 : (Nat → Int64)} {t4_0 : (Nat → Int32)} {t5_0 : (Nat → Int32)} {t6_0 : (Nat → Int32)} {a48 : Int32} {lx59 : Int32} {lx75 : Int32} {lx76 : Int32} {lx77 : Int32} {lx78 : Int32} {lx79 : Int32} {lx80 : Int32} {lx81 : (Nat → Int32)} {lx82 : (Nat → Int32)} (h11 : -1 ≤ t0_11.toInt ∧ t0_11.toInt ≤ 9999) (h76 : 0 ≤ lx76.toInt ∧ lx76.toInt ≤ 10400) (h77 : 0 ≤ lx77.toInt ∧ lx77.toInt ≤ lx76.toInt) (hb : a48 = 98 ∨ a48 = 115 → lx77.toInt = 0) : (S_VR_make_J200 t0_0 t0_1 t0_2 t0_3 t0_4 t0_5 t0_6 t0_7 t0_8 t0_9 t0_10 t0_11 t0_12 t0_13 t0_14 t0_15 t0_16 t0_17 t0_18 t0_19 t0_20 t0_21 t1_0 t2_0 t3_0 t4_0 t5_0 t6_0 a48 lx59 lx75 lx76 lx77 lx78 lx79 lx80 lx81 lx82) ∧ Q_VR_make (F_VR_make_J200 t0_0 t0_1 t0_2 t0_3 t0_4 t0_5 t0_6 t0_7 t0_8 t0_9 t0_10 t0_11 t0_12 t0_13 t0_14 t0_15 t0_16 t0_17 t0_18 t0_19 t0_20 t0_21 t1_0 t2_0 t3_0 t4_0 t5_0 t6_0 a48 lx59 lx75 lx76 lx77 lx78 lx79 lx80 lx81 lx82) := by
  have e0 : (0 : Int32).toInt = 0 := rfl
  have e1 : (1 : Int32).toInt = 1 := rfl
  have eL0 : (0 : Int64).toInt = 0 := rfl
  have em : (-1 : Int32).toInt = -1 := rfl
  unfold S_VR_make_J200 F_VR_make_J200
  by_cases g1 : a48 = (98 : Int32)
  ·
    rw [if_pos g1, if_pos g1]
    have hb0 := hb (Or.inl g1)
    unfold S_VR_make_J212 F_VR_make_J212
    by_cases g2 : t0_12 < (0 : Int32)
    ·
      rw [if_pos g2, if_pos g2]
      have g2i : t0_12.toInt < 0 := q_ltI g2
      exact T_VR_mk238 h11 ⟨by omega, by omega⟩ ⟨by omega, by omega⟩
    ·
      rw [if_neg g2, if_neg g2]
      have g2i : 0 ≤ t0_12.toInt := q_nltI g2
      by_cases g3 : lx76 ≤ t0_12
      ·
        rw [if_pos g3, if_pos g3]
        have g3i : lx76.toInt ≤ t0_12.toInt := q_leI g3
        exact T_VR_mk238 h11 ⟨by omega, by omega⟩ ⟨by omega, by omega⟩
      ·
        rw [if_neg g3, if_neg g3]
        have g3i : t0_12.toInt < lx76.toInt := q_nleI g3
        exact T_VR_mk238 h11 ⟨by omega, by omega⟩ ⟨by omega, by omega⟩
  ·
    rw [if_neg g1, if_neg g1]
    by_cases g4 : a48 = (115 : Int32)
    ·
      rw [if_pos g4, if_pos g4]
      have hb0 := hb (Or.inr g4)
      unfold S_VR_make_J212 F_VR_make_J212
      by_cases g5 : t0_12 < (0 : Int32)
      ·
        rw [if_pos g5, if_pos g5]
        have g5i : t0_12.toInt < 0 := q_ltI g5
        exact T_VR_mk238 h11 ⟨by omega, by omega⟩ ⟨by omega, by omega⟩
      ·
        rw [if_neg g5, if_neg g5]
        have g5i : 0 ≤ t0_12.toInt := q_nltI g5
        by_cases g6 : lx76 ≤ t0_12
        ·
          rw [if_pos g6, if_pos g6]
          have g6i : lx76.toInt ≤ t0_12.toInt := q_leI g6
          exact T_VR_mk238 h11 ⟨by omega, by omega⟩ ⟨by omega, by omega⟩
        ·
          rw [if_neg g6, if_neg g6]
          have g6i : t0_12.toInt < lx76.toInt := q_nleI g6
          exact T_VR_mk238 h11 ⟨by omega, by omega⟩ ⟨by omega, by omega⟩
    ·
      rw [if_neg g4, if_neg g4]
      exact T_VR_mk238 h11 ⟨by omega, by omega⟩ ⟨by omega, by omega⟩
theorem T_VR_mk49 {t0_0 : Int32} {t0_1 : Int32} {t0_2 : Int32} {t0_3 : Int32} {t0_4 : Int32} {t0_5 : Int32} {t0_6 : Int32} {t0_7 : Int32} {t0_8 : Int32} {t0_9 : Int32} {t0_10 : Int32} {t0_11 : Int32} {t0_12 : Int32} {t0_13 : Int32} {t0_14 : Int32} {t0_15 : Int32} {t0_16 : Int32} {t0_17 : Int32} {t0_18 : Int32} {t0_19 : Int32} {t0_20 : Int32} {t0_21 : Int32} {t1_0 : (Nat → Int32)} {t2_0 : (Nat → Int32)} {t3_0 : (Nat → Int64)} {t4_0 : (Nat → Int32)} {t5_0 : (Nat → Int32)} {t6_0 : (Nat → Int32)} {a48 : Int32} {lx59 : Int32} (hZ : ∀ i, i < 9 → 0 ≤ (t2_0 i).toInt ∧ (t2_0 i).toInt ≤ 64) (h11 : -1 ≤ t0_11.toInt ∧ t0_11.toInt ≤ 9999) (h12 : t0_12.toInt ≤ 9999) (hA : ¬ a48 = 37 → ¬ a48 = 110 → 0 ≤ t0_14.toInt ∧ t0_14.toInt ≤ 8) : (S_VR_make_J49 t0_0 t0_1 t0_2 t0_3 t0_4 t0_5 t0_6 t0_7 t0_8 t0_9 t0_10 t0_11 t0_12 t0_13 t0_14 t0_15 t0_16 t0_17 t0_18 t0_19 t0_20 t0_21 t1_0 t2_0 t3_0 t4_0 t5_0 t6_0 a48 lx59) ∧ Q_VR_make (F_VR_make_J49 t0_0 t0_1 t0_2 t0_3 t0_4 t0_5 t0_6 t0_7 t0_8 t0_9 t0_10 t0_11 t0_12 t0_13 t0_14 t0_15 t0_16 t0_17 t0_18 t0_19 t0_20 t0_21 t1_0 t2_0 t3_0 t4_0 t5_0 t6_0 a48 lx59) := by
  have e0 : (0 : Int32).toInt = 0 := rfl
  have e1 : (1 : Int32).toInt = 1 := rfl
  have eL0 : (0 : Int64).toInt = 0 := rfl
  have em : (-1 : Int32).toInt = -1 := rfl
  unfold S_VR_make_J49 F_VR_make_J49
  by_cases g1 : a48 = (37 : Int32)
  ·
    rw [if_pos g1, if_pos g1]
    unfold S_VR_make_J62 F_VR_make_J62
    rw [if_pos g1, if_pos g1]
    unfold S_VR_make_J76 F_VR_make_J76
    have h2 := T_VR_put (x2 := (37 : Int32)) (t0_0 := t0_0) (t0_1 := t0_1) (t0_2 := t0_2) (t0_3 := t0_3) (t0_4 := t0_4) (t0_5 := t0_5) (t0_6 := t0_6) (t0_7 := t0_7) (t0_8 := t0_8) (t0_9 := t0_9) (t0_10 := t0_10) (t0_11 := t0_11) (t0_12 := t0_12) (t0_13 := t0_13) (t0_14 := t0_14) (t0_15 := t0_15) (t0_16 := t0_16) (t0_17 := (0 : Int32)) (t0_18 := (0 : Int32)) (t0_19 := (0 : Int32)) (t0_20 := t0_20) (t0_21 := t0_21) (t1_0 := t5_0) ⟨by first | omega | decide, by first | omega | decide⟩
    with_reducible refine v_owe h2.1 ?_
    replace h2 := h2.2
    generalize F_VR_put (37 : Int32) t0_0 t0_1 t0_2 t0_3 t0_4 t0_5 t0_6 t0_7 t0_8 t0_9 t0_10 t0_11 t0_12 t0_13 t0_14 t0_15 t0_16 (0 : Int32) (0 : Int32) (0 : Int32) t0_20 t0_21 t5_0 = p271 at *
    unfold Q_VR_put at h2
    unfold S_VR_make_c76 F_VR_make_c76
    exact T_VR_mk200 h11 ⟨by omega, by omega⟩ ⟨by decide, by rw [e0]; omega⟩ (fun _ => rfl)
  ·
    rw [if_neg g1, if_neg g1]
    have hA1 := hA g1
    by_cases g3 : a48 = (110 : Int32)
    ·
      rw [if_pos g3, if_pos g3]
      unfold S_VR_make_J62 F_VR_make_J62
      rw [if_neg g1, if_neg g1]
      unfold S_VR_make_J76 F_VR_make_J76
      have h4 := T_VR_put (x2 := (10 : Int32)) (t0_0 := t0_0) (t0_1 := t0_1) (t0_2 := t0_2) (t0_3 := t0_3) (t0_4 := t0_4) (t0_5 := t0_5) (t0_6 := t0_6) (t0_7 := t0_7) (t0_8 := t0_8) (t0_9 := t0_9) (t0_10 := t0_10) (t0_11 := t0_11) (t0_12 := t0_12) (t0_13 := t0_13) (t0_14 := t0_14) (t0_15 := t0_15) (t0_16 := t0_16) (t0_17 := (0 : Int32)) (t0_18 := (0 : Int32)) (t0_19 := (0 : Int32)) (t0_20 := t0_20) (t0_21 := t0_21) (t1_0 := t5_0) ⟨by first | omega | decide, by first | omega | decide⟩
      with_reducible refine v_owe h4.1 ?_
      replace h4 := h4.2
      generalize F_VR_put (10 : Int32) t0_0 t0_1 t0_2 t0_3 t0_4 t0_5 t0_6 t0_7 t0_8 t0_9 t0_10 t0_11 t0_12 t0_13 t0_14 t0_15 t0_16 (0 : Int32) (0 : Int32) (0 : Int32) t0_20 t0_21 t5_0 = p271 at *
      unfold Q_VR_put at h4
      unfold S_VR_make_c76 F_VR_make_c76
      exact T_VR_mk200 h11 ⟨by omega, by omega⟩ ⟨by decide, by rw [e0]; omega⟩ (fun _ => rfl)
    ·
      rw [if_neg g3, if_neg g3]
      have h14 := hA1 g3
      by_cases g5 : a48 = (98 : Int32)
      ·
        rw [if_pos g5, if_pos g5]
        by_cases g6 : lx59 = (0 : Int32)
        ·
          rw [if_pos g6, if_pos g6]
          refine v_cons (by first | omega | decide) ?_
          refine v_cons (by first | omega | decide) ?_
          by_cases g7 : (t1_0 t0_14.toNatClampNeg : Int32) = (1 : Int32)
          ·
            rw [if_pos g7, if_pos g7]
            by_cases g8 : (lg_cmp (t3_0 t0_14.toNatClampNeg : Int64) 0 : Int32) = (0 : Int32)
            ·
              rw [if_pos g8, if_pos g8]
              unfold S_VR_make_J119 F_VR_make_J119
              unfold S_VR_make_J124 F_VR_make_J124
              have g9 : ¬ ((1 : Int32) = (0 : Int32)) := (by decide)
              rw [if_neg g9, if_neg g9]
              unfold S_VR_make_J139 F_VR_make_J139
              have h10 := T_VR_word (x2 := (435728179558 : Int64)) (t0_0 := t0_0) (t0_1 := t0_1) (t0_2 := t0_2) (t0_3 := t0_3) (t0_4 := t0_4) (t0_5 := t0_5) (t0_6 := t0_6) (t0_7 := t0_7) (t0_8 := t0_8) (t0_9 := t0_9) (t0_10 := t0_10) (t0_11 := t0_11) (t0_12 := t0_12) (t0_13 := t0_13) (t0_14 := t0_14) (t0_15 := t0_15) (t0_16 := t0_16) (t0_17 := (0 : Int32)) (t0_18 := (0 : Int32)) (t0_19 := (0 : Int32)) (t0_20 := t0_20) (t0_21 := t0_21) (t1_0 := t5_0) ⟨by first | omega | decide, by first | omega | decide⟩ (by decide)
              with_reducible refine v_owe h10.1 ?_
              replace h10 := h10.2
              generalize F_VR_word (435728179558 : Int64) t0_0 t0_1 t0_2 t0_3 t0_4 t0_5 t0_6 t0_7 t0_8 t0_9 t0_10 t0_11 t0_12 t0_13 t0_14 t0_15 t0_16 (0 : Int32) (0 : Int32) (0 : Int32) t0_20 t0_21 t5_0 = p447 at *
              unfold Q_VR_word at h10
              unfold S_VR_make_c139 F_VR_make_c139
              exact T_VR_mk200 h11 ⟨by omega, by omega⟩ ⟨by decide, by rw [e0]; omega⟩ (fun _ => rfl)
            ·
              rw [if_neg g8, if_neg g8]
              unfold S_VR_make_J123 F_VR_make_J123
              unfold S_VR_make_J124 F_VR_make_J124
              have g11 : ((0 : Int32) = (0 : Int32)) := (by decide)
              rw [if_pos g11, if_pos g11]
              unfold S_VR_make_J139 F_VR_make_J139
              have h12 := T_VR_word (x2 := (1702195828 : Int64)) (t0_0 := t0_0) (t0_1 := t0_1) (t0_2 := t0_2) (t0_3 := t0_3) (t0_4 := t0_4) (t0_5 := t0_5) (t0_6 := t0_6) (t0_7 := t0_7) (t0_8 := t0_8) (t0_9 := t0_9) (t0_10 := t0_10) (t0_11 := t0_11) (t0_12 := t0_12) (t0_13 := t0_13) (t0_14 := t0_14) (t0_15 := t0_15) (t0_16 := t0_16) (t0_17 := (0 : Int32)) (t0_18 := (0 : Int32)) (t0_19 := (0 : Int32)) (t0_20 := t0_20) (t0_21 := t0_21) (t1_0 := t5_0) ⟨by first | omega | decide, by first | omega | decide⟩ (by decide)
              with_reducible refine v_owe h12.1 ?_
              replace h12 := h12.2
              generalize F_VR_word (1702195828 : Int64) t0_0 t0_1 t0_2 t0_3 t0_4 t0_5 t0_6 t0_7 t0_8 t0_9 t0_10 t0_11 t0_12 t0_13 t0_14 t0_15 t0_16 (0 : Int32) (0 : Int32) (0 : Int32) t0_20 t0_21 t5_0 = p447 at *
              unfold Q_VR_word at h12
              unfold S_VR_make_c139 F_VR_make_c139
              exact T_VR_mk200 h11 ⟨by omega, by omega⟩ ⟨by decide, by rw [e0]; omega⟩ (fun _ => rfl)
          ·
            rw [if_neg g7, if_neg g7]
            unfold S_VR_make_J123 F_VR_make_J123
            unfold S_VR_make_J124 F_VR_make_J124
            have g13 : ((0 : Int32) = (0 : Int32)) := (by decide)
            rw [if_pos g13, if_pos g13]
            unfold S_VR_make_J139 F_VR_make_J139
            have h14 := T_VR_word (x2 := (1702195828 : Int64)) (t0_0 := t0_0) (t0_1 := t0_1) (t0_2 := t0_2) (t0_3 := t0_3) (t0_4 := t0_4) (t0_5 := t0_5) (t0_6 := t0_6) (t0_7 := t0_7) (t0_8 := t0_8) (t0_9 := t0_9) (t0_10 := t0_10) (t0_11 := t0_11) (t0_12 := t0_12) (t0_13 := t0_13) (t0_14 := t0_14) (t0_15 := t0_15) (t0_16 := t0_16) (t0_17 := (0 : Int32)) (t0_18 := (0 : Int32)) (t0_19 := (0 : Int32)) (t0_20 := t0_20) (t0_21 := t0_21) (t1_0 := t5_0) ⟨by first | omega | decide, by first | omega | decide⟩ (by decide)
            with_reducible refine v_owe h14.1 ?_
            replace h14 := h14.2
            generalize F_VR_word (1702195828 : Int64) t0_0 t0_1 t0_2 t0_3 t0_4 t0_5 t0_6 t0_7 t0_8 t0_9 t0_10 t0_11 t0_12 t0_13 t0_14 t0_15 t0_16 (0 : Int32) (0 : Int32) (0 : Int32) t0_20 t0_21 t5_0 = p447 at *
            unfold Q_VR_word at h14
            unfold S_VR_make_c139 F_VR_make_c139
            exact T_VR_mk200 h11 ⟨by omega, by omega⟩ ⟨by decide, by rw [e0]; omega⟩ (fun _ => rfl)
        ·
          rw [if_neg g6, if_neg g6]
          unfold S_VR_make_J119 F_VR_make_J119
          unfold S_VR_make_J124 F_VR_make_J124
          have g15 : ¬ ((1 : Int32) = (0 : Int32)) := (by decide)
          rw [if_neg g15, if_neg g15]
          unfold S_VR_make_J139 F_VR_make_J139
          have h16 := T_VR_word (x2 := (435728179558 : Int64)) (t0_0 := t0_0) (t0_1 := t0_1) (t0_2 := t0_2) (t0_3 := t0_3) (t0_4 := t0_4) (t0_5 := t0_5) (t0_6 := t0_6) (t0_7 := t0_7) (t0_8 := t0_8) (t0_9 := t0_9) (t0_10 := t0_10) (t0_11 := t0_11) (t0_12 := t0_12) (t0_13 := t0_13) (t0_14 := t0_14) (t0_15 := t0_15) (t0_16 := t0_16) (t0_17 := (0 : Int32)) (t0_18 := (0 : Int32)) (t0_19 := (0 : Int32)) (t0_20 := t0_20) (t0_21 := t0_21) (t1_0 := t5_0) ⟨by first | omega | decide, by first | omega | decide⟩ (by decide)
          with_reducible refine v_owe h16.1 ?_
          replace h16 := h16.2
          generalize F_VR_word (435728179558 : Int64) t0_0 t0_1 t0_2 t0_3 t0_4 t0_5 t0_6 t0_7 t0_8 t0_9 t0_10 t0_11 t0_12 t0_13 t0_14 t0_15 t0_16 (0 : Int32) (0 : Int32) (0 : Int32) t0_20 t0_21 t5_0 = p447 at *
          unfold Q_VR_word at h16
          unfold S_VR_make_c139 F_VR_make_c139
          exact T_VR_mk200 h11 ⟨by omega, by omega⟩ ⟨by decide, by rw [e0]; omega⟩ (fun _ => rfl)
      ·
        rw [if_neg g5, if_neg g5]
        have nb := g5
        by_cases g17 : lx59 = (0 : Int32)
        ·
          rw [if_pos g17, if_pos g17]
          by_cases g18 : a48 = (115 : Int32)
          ·
            rw [if_pos g18, if_pos g18]
            have h19 := T_VR_string (t0_0 := t0_0) (t0_1 := t0_1) (t0_2 := t0_2) (t0_3 := t0_3) (t0_4 := t0_4) (t0_5 := t0_5) (t0_6 := t0_6) (t0_7 := t0_7) (t0_8 := t0_8) (t0_9 := t0_9) (t0_10 := t0_10) (t0_11 := t0_11) (t0_12 := t0_12) (t0_13 := t0_13) (t0_14 := t0_14) (t0_15 := t0_15) (t0_16 := t0_16) (t0_17 := (0 : Int32)) (t0_18 := (0 : Int32)) (t0_19 := (0 : Int32)) (t0_20 := t0_20) (t0_21 := t0_21) (t1_0 := t1_0) (t2_0 := t2_0) (t3_0 := t3_0) (t4_0 := t4_0) (t5_0 := t5_0) (t6_0 := t6_0) hZ h14 (by decide)
            with_reducible refine v_owe h19.1 ?_
            replace h19 := h19.2
            generalize F_VR_string t0_0 t0_1 t0_2 t0_3 t0_4 t0_5 t0_6 t0_7 t0_8 t0_9 t0_10 t0_11 t0_12 t0_13 t0_14 t0_15 t0_16 (0 : Int32) (0 : Int32) (0 : Int32) t0_20 t0_21 t1_0 t2_0 t3_0 t4_0 t5_0 t6_0 = p373 at *
            unfold Q_VR_str at h19
            unfold S_VR_make_c166 F_VR_make_c166
            exact T_VR_mk200 h11 ⟨by omega, by omega⟩ ⟨by decide, by rw [e0]; omega⟩ (fun _ => rfl)
          ·
            rw [if_neg g18, if_neg g18]
            have ns := g18
            by_cases g20 : a48 = (99 : Int32)
            ·
              rw [if_pos g20, if_pos g20]
              refine v_cons (by first | omega | decide) ?_
              refine v_cons (by first | omega | decide) ?_
              have h21 := T_VR_put (x2 := ((t3_0 t0_14.toNatClampNeg : Int64).toInt32 : Int32)) (t0_0 := t0_0) (t0_1 := t0_1) (t0_2 := t0_2) (t0_3 := t0_3) (t0_4 := t0_4) (t0_5 := t0_5) (t0_6 := t0_6) (t0_7 := t0_7) (t0_8 := t0_8) (t0_9 := t0_9) (t0_10 := t0_10) (t0_11 := t0_11) (t0_12 := t0_12) (t0_13 := t0_13) (t0_14 := t0_14) (t0_15 := t0_15) (t0_16 := t0_16) (t0_17 := (0 : Int32)) (t0_18 := (0 : Int32)) (t0_19 := (0 : Int32)) (t0_20 := t0_20) (t0_21 := t0_21) (t1_0 := t5_0) ⟨by first | omega | decide, by first | omega | decide⟩
              with_reducible refine v_owe h21.1 ?_
              replace h21 := h21.2
              generalize F_VR_put ((t3_0 t0_14.toNatClampNeg : Int64).toInt32 : Int32) t0_0 t0_1 t0_2 t0_3 t0_4 t0_5 t0_6 t0_7 t0_8 t0_9 t0_10 t0_11 t0_12 t0_13 t0_14 t0_15 t0_16 (0 : Int32) (0 : Int32) (0 : Int32) t0_20 t0_21 t5_0 = p349 at *
              unfold Q_VR_put at h21
              unfold S_VR_make_c189 F_VR_make_c189
              exact T_VR_mk200 h11 ⟨by omega, by omega⟩ ⟨by decide, by rw [e0]; omega⟩ (fun _ => rfl)
            ·
              rw [if_neg g20, if_neg g20]
              have h22 := T_VR_numeric (x2 := a48) (t0_0 := t0_0) (t0_1 := t0_1) (t0_2 := t0_2) (t0_3 := t0_3) (t0_4 := t0_4) (t0_5 := t0_5) (t0_6 := t0_6) (t0_7 := t0_7) (t0_8 := t0_8) (t0_9 := t0_9) (t0_10 := t0_10) (t0_11 := t0_11) (t0_12 := t0_12) (t0_13 := t0_13) (t0_14 := t0_14) (t0_15 := t0_15) (t0_16 := t0_16) (t0_17 := (0 : Int32)) (t0_18 := (0 : Int32)) (t0_19 := (0 : Int32)) (t0_20 := t0_20) (t0_21 := t0_21) (t1_0 := t2_0) (t2_0 := t3_0) (t3_0 := t5_0) (t4_0 := t6_0) hZ h14 h12 (by decide)
              with_reducible refine v_owe h22.1 ?_
              replace h22 := h22.2
              generalize F_VR_numeric a48 t0_0 t0_1 t0_2 t0_3 t0_4 t0_5 t0_6 t0_7 t0_8 t0_9 t0_10 t0_11 t0_12 t0_13 t0_14 t0_15 t0_16 (0 : Int32) (0 : Int32) (0 : Int32) t0_20 t0_21 t2_0 t3_0 t5_0 t6_0 = p315 at *
              unfold Q_VR_num at h22
              unfold S_VR_make_c197 F_VR_make_c197
              exact T_VR_mk200 h11 ⟨by omega, by omega⟩ ⟨by omega, by omega⟩ (fun z => absurd z (by rintro (z | z); exact nb z; exact ns z))
        ·
          rw [if_neg g17, if_neg g17]
          have h23 := T_VR_word (x2 := (1819047278 : Int64)) (t0_0 := t0_0) (t0_1 := t0_1) (t0_2 := t0_2) (t0_3 := t0_3) (t0_4 := t0_4) (t0_5 := t0_5) (t0_6 := t0_6) (t0_7 := t0_7) (t0_8 := t0_8) (t0_9 := t0_9) (t0_10 := t0_10) (t0_11 := t0_11) (t0_12 := t0_12) (t0_13 := t0_13) (t0_14 := t0_14) (t0_15 := t0_15) (t0_16 := t0_16) (t0_17 := (0 : Int32)) (t0_18 := (0 : Int32)) (t0_19 := (0 : Int32)) (t0_20 := t0_20) (t0_21 := t0_21) (t1_0 := t5_0) ⟨by first | omega | decide, by first | omega | decide⟩ (by decide)
          with_reducible refine v_owe h23.1 ?_
          replace h23 := h23.2
          generalize F_VR_word (1819047278 : Int64) t0_0 t0_1 t0_2 t0_3 t0_4 t0_5 t0_6 t0_7 t0_8 t0_9 t0_10 t0_11 t0_12 t0_13 t0_14 t0_15 t0_16 (0 : Int32) (0 : Int32) (0 : Int32) t0_20 t0_21 t5_0 = p396 at *
          unfold Q_VR_word at h23
          unfold S_VR_make_c153 F_VR_make_c153
          exact T_VR_mk200 h11 ⟨by omega, by omega⟩ ⟨by decide, by rw [e0]; omega⟩ (fun _ => rfl)
theorem T_VR_make {t0_0 : Int32} {t0_1 : Int32} {t0_2 : Int32} {t0_3 : Int32} {t0_4 : Int32} {t0_5 : Int32} {t0_6 : Int32} {t0_7 : Int32} {t0_8 : Int32} {t0_9 : Int32} {t0_10 : Int32} {t0_11 : Int32} {t0_12 : Int32} {t0_13 : Int32} {t0_14 : Int32} {t0_15 : Int32} {t0_16 : Int32} {t0_17 : Int32} {t0_18 : Int32} {t0_19 : Int32} {t0_20 : Int32} {t0_21 : Int32} {t1_0 : (Nat → Int32)} {t2_0 : (Nat → Int32)} {t3_0 : (Nat → Int64)} {t4_0 : (Nat → Int32)} {t5_0 : (Nat → Int32)} {t6_0 : (Nat → Int32)} (hZ : ∀ i, i < 9 → 0 ≤ (t2_0 i).toInt ∧ (t2_0 i).toInt ≤ 64) (h11 : -1 ≤ t0_11.toInt ∧ t0_11.toInt ≤ 9999) (h12 : t0_12.toInt ≤ 9999) (hA : ¬ (F_VR_small t0_0 t0_1 t0_2 t0_3 t0_4 t0_5 t0_6 t0_7 t0_8 t0_9 t0_10 t0_11 t0_12 t0_13 t0_14 t0_15 t0_16 t0_17 t0_18 t0_19 t0_20 t0_21) = 37 → ¬ (F_VR_small t0_0 t0_1 t0_2 t0_3 t0_4 t0_5 t0_6 t0_7 t0_8 t0_9 t0_10 t0_11 t0_12 t0_13 t0_14 t0_15 t0_16 t0_17 t0_18 t0_19 t0_20 t0_21) = 110 → 0 ≤ t0_14.toInt ∧ t0_14.toInt ≤ 8) : (S_VR_make t0_0 t0_1 t0_2 t0_3 t0_4 t0_5 t0_6 t0_7 t0_8 t0_9 t0_10 t0_11 t0_12 t0_13 t0_14 t0_15 t0_16 t0_17 t0_18 t0_19 t0_20 t0_21 t1_0 t2_0 t3_0 t4_0 t5_0 t6_0) ∧ Q_VR_make (F_VR_make t0_0 t0_1 t0_2 t0_3 t0_4 t0_5 t0_6 t0_7 t0_8 t0_9 t0_10 t0_11 t0_12 t0_13 t0_14 t0_15 t0_16 t0_17 t0_18 t0_19 t0_20 t0_21 t1_0 t2_0 t3_0 t4_0 t5_0 t6_0) := by
  have e0 : (0 : Int32).toInt = 0 := rfl
  have e1 : (1 : Int32).toInt = 1 := rfl
  have eL0 : (0 : Int64).toInt = 0 := rfl
  have em : (-1 : Int32).toInt = -1 := rfl
  unfold S_VR_make F_VR_make
  by_cases g1 : ((F_VR_small t0_0 t0_1 t0_2 t0_3 t0_4 t0_5 t0_6 t0_7 t0_8 t0_9 t0_10 t0_11 t0_12 t0_13 t0_14 t0_15 t0_16 t0_17 t0_18 t0_19 t0_20 t0_21) : Int32) = (37 : Int32)
  ·
    rw [if_pos g1, if_pos g1]
    unfold S_VR_make_J48 F_VR_make_J48
    exact T_VR_mk49 hZ h11 h12 hA
  ·
    rw [if_neg g1, if_neg g1]
    have hA1 := hA g1
    by_cases g2 : ((F_VR_small t0_0 t0_1 t0_2 t0_3 t0_4 t0_5 t0_6 t0_7 t0_8 t0_9 t0_10 t0_11 t0_12 t0_13 t0_14 t0_15 t0_16 t0_17 t0_18 t0_19 t0_20 t0_21) : Int32) = (110 : Int32)
    ·
      rw [if_pos g2, if_pos g2]
      unfold S_VR_make_J48 F_VR_make_J48
      exact T_VR_mk49 hZ h11 h12 hA
    ·
      rw [if_neg g2, if_neg g2]
      have h14 := hA1 g2
      refine v_cons (by first | omega | decide) ?_
      refine v_cons (by first | omega | decide) ?_
      by_cases g3 : (t1_0 t0_14.toNatClampNeg : Int32) = (0 : Int32)
      ·
        rw [if_pos g3, if_pos g3]
        exact T_VR_mk49 hZ h11 h12 hA
      ·
        rw [if_neg g3, if_neg g3]
        unfold S_VR_make_J48 F_VR_make_J48
        exact T_VR_mk49 hZ h11 h12 hA

/-! DirectiveRows: here, number, take, looked, run, print, text -/
theorem vr_nh {t0_0 t0_1 t0_2 t0_3 t0_4 t0_5 t0_6 t0_7 t0_8 t0_9 t0_10 t0_11 t0_12 t0_13 t0_14 t0_15 t0_16 t0_17 t0_18 t0_19 t0_20 t0_21 : Int32} {t1_0 : Nat → Int32} (h : t0_1 ≤ t0_7) : (F_VR_here t0_0 t0_1 t0_2 t0_3 t0_4 t0_5 t0_6 t0_7 t0_8 t0_9 t0_10 t0_11 t0_12 t0_13 t0_14 t0_15 t0_16 t0_17 t0_18 t0_19 t0_20 t0_21 t1_0) = -1 := by unfold F_VR_here; exact if_pos h
theorem vr_lt {t0_0 t0_1 t0_2 t0_3 t0_4 t0_5 t0_6 t0_7 t0_8 t0_9 t0_10 t0_11 t0_12 t0_13 t0_14 t0_15 t0_16 t0_17 t0_18 t0_19 t0_20 t0_21 : Int32} {t1_0 : Nat → Int32} {P : Int32 → Prop} (h : P (F_VR_here t0_0 t0_1 t0_2 t0_3 t0_4 t0_5 t0_6 t0_7 t0_8 t0_9 t0_10 t0_11 t0_12 t0_13 t0_14 t0_15 t0_16 t0_17 t0_18 t0_19 t0_20 t0_21 t1_0)) (n : ¬ P (-1)) : t0_7.toInt < t0_1.toInt := by
  by_cases c : t0_1 ≤ t0_7
  · rw [vr_nh c] at h; exact absurd h n
  · exact q_nleI c
theorem vr_dig {t0_0 t0_1 t0_2 t0_3 t0_4 t0_5 t0_6 t0_7 t0_8 t0_9 t0_10 t0_11 t0_12 t0_13 t0_14 t0_15 t0_16 t0_17 t0_18 t0_19 t0_20 t0_21 : Int32} {t1_0 : Nat → Int32} (h : ¬ F_VR_isDigit t0_0 t0_1 t0_2 t0_3 t0_4 t0_5 t0_6 t0_7 t0_8 t0_9 t0_10 t0_11 t0_12 t0_13 t0_14 t0_15 t0_16 t0_17 t0_18 t0_19 t0_20 t0_21 t1_0 = 0) : t0_7.toInt < t0_1.toInt ∧ 48 ≤ (F_VR_here t0_0 t0_1 t0_2 t0_3 t0_4 t0_5 t0_6 t0_7 t0_8 t0_9 t0_10 t0_11 t0_12 t0_13 t0_14 t0_15 t0_16 t0_17 t0_18 t0_19 t0_20 t0_21 t1_0).toInt ∧ (F_VR_here t0_0 t0_1 t0_2 t0_3 t0_4 t0_5 t0_6 t0_7 t0_8 t0_9 t0_10 t0_11 t0_12 t0_13 t0_14 t0_15 t0_16 t0_17 t0_18 t0_19 t0_20 t0_21 t1_0).toInt ≤ 57 := by
  unfold F_VR_isDigit at h
  by_cases a : (F_VR_here t0_0 t0_1 t0_2 t0_3 t0_4 t0_5 t0_6 t0_7 t0_8 t0_9 t0_10 t0_11 t0_12 t0_13 t0_14 t0_15 t0_16 t0_17 t0_18 t0_19 t0_20 t0_21 t1_0) < 48
  · rw [if_pos a] at h; exact absurd rfl h
  · rw [if_neg a] at h
    by_cases b : 57 < (F_VR_here t0_0 t0_1 t0_2 t0_3 t0_4 t0_5 t0_6 t0_7 t0_8 t0_9 t0_10 t0_11 t0_12 t0_13 t0_14 t0_15 t0_16 t0_17 t0_18 t0_19 t0_20 t0_21 t1_0)
    · rw [if_pos b] at h; exact absurd rfl h
    · exact ⟨vr_lt (P := fun z => ¬ z < 48) a (by decide), q_nltI a, q_nltI b⟩
theorem vr_flg {t0_0 t0_1 t0_2 t0_3 t0_4 t0_5 t0_6 t0_7 t0_8 t0_9 t0_10 t0_11 t0_12 t0_13 t0_14 t0_15 t0_16 t0_17 t0_18 t0_19 t0_20 t0_21 : Int32} {t1_0 : Nat → Int32} (h : ¬ F_VR_flag (F_VR_here t0_0 t0_1 t0_2 t0_3 t0_4 t0_5 t0_6 t0_7 t0_8 t0_9 t0_10 t0_11 t0_12 t0_13 t0_14 t0_15 t0_16 t0_17 t0_18 t0_19 t0_20 t0_21 t1_0) = 0) : t0_7.toInt < t0_1.toInt := vr_lt (P := fun z => ¬ F_VR_flag z = 0) h (by decide)
theorem vr_num {v c : Int32} (hv : 0 ≤ v.toInt ∧ v.toInt ≤ 9999) (hc : 48 ≤ c.toInt ∧ c.toInt ≤ 57) : 0 ≤ ((10 * v) + c - 48 : Int32).toInt ∧ ((10 * v) + c - 48 : Int32).toInt ≤ 99999 := by
  have a : (10 * v : Int32).toInt = 10 * v.toInt := q_mulI (x := 10) (by decide) rfl (by omega) (by omega)
  have b : ((10 * v) + c : Int32).toInt = 10 * v.toInt + c.toInt := q_addI a rfl (by omega) (by omega)
  have d : ((10 * v) + c - 48 : Int32).toInt = 10 * v.toInt + c.toInt - 48 := q_subI (y := 48) b (by decide) (by omega) (by omega)
  omega
def vrS (c : Int32) : Int32 := F_VR_small 0 0 0 0 0 0 0 0 0 0 0 0 0 c 0 0 0 0 0 0 0 0
theorem vr_sm {t0_0 t0_1 t0_2 t0_3 t0_4 t0_5 t0_6 t0_7 t0_8 t0_9 t0_10 t0_11 t0_12 t0_13 t0_14 t0_15 t0_16 t0_17 t0_18 t0_19 t0_20 t0_21 : Int32} : F_VR_small t0_0 t0_1 t0_2 t0_3 t0_4 t0_5 t0_6 t0_7 t0_8 t0_9 t0_10 t0_11 t0_12 t0_13 t0_14 t0_15 t0_16 t0_17 t0_18 t0_19 t0_20 t0_21 = vrS t0_13 := by unfold vrS F_VR_small; rfl
theorem T_VR_here {t0_0 : Int32} {t0_1 : Int32} {t0_2 : Int32} {t0_3 : Int32} {t0_4 : Int32} {t0_5 : Int32} {t0_6 : Int32} {t0_7 : Int32} {t0_8 : Int32} {t0_9 : Int32} {t0_10 : Int32} {t0_11 : Int32} {t0_12 : Int32} {t0_13 : Int32} {t0_14 : Int32} {t0_15 : Int32} {t0_16 : Int32} {t0_17 : Int32} {t0_18 : Int32} {t0_19 : Int32} {t0_20 : Int32} {t0_21 : Int32} {t1_0 : (Nat → Int32)} (hA7 : 0 ≤ t0_7.toInt) : (S_VR_here t0_0 t0_1 t0_2 t0_3 t0_4 t0_5 t0_6 t0_7 t0_8 t0_9 t0_10 t0_11 t0_12 t0_13 t0_14 t0_15 t0_16 t0_17 t0_18 t0_19 t0_20 t0_21 t1_0) := by
  have e0 : (0 : Int32).toInt = 0 := rfl
  have e1 : (1 : Int32).toInt = 1 := rfl
  have eL0 : (0 : Int64).toInt = 0 := rfl
  have em : (-1 : Int32).toInt = -1 := rfl
  unfold S_VR_here
  by_cases g1 : t0_1 ≤ t0_7
  ·
    rw [if_pos g1]
    have g1i : t0_1.toInt ≤ t0_7.toInt := q_leI g1
    exact trivial
  ·
    rw [if_neg g1]
    have g1i : t0_7.toInt < t0_1.toInt := q_nleI g1
    refine And.intro (by first | omega | decide) ?_
    exact trivial
theorem T_VR_isDigit {t0_0 : Int32} {t0_1 : Int32} {t0_2 : Int32} {t0_3 : Int32} {t0_4 : Int32} {t0_5 : Int32} {t0_6 : Int32} {t0_7 : Int32} {t0_8 : Int32} {t0_9 : Int32} {t0_10 : Int32} {t0_11 : Int32} {t0_12 : Int32} {t0_13 : Int32} {t0_14 : Int32} {t0_15 : Int32} {t0_16 : Int32} {t0_17 : Int32} {t0_18 : Int32} {t0_19 : Int32} {t0_20 : Int32} {t0_21 : Int32} {t1_0 : (Nat → Int32)} (hA7 : 0 ≤ t0_7.toInt) : (S_VR_isDigit t0_0 t0_1 t0_2 t0_3 t0_4 t0_5 t0_6 t0_7 t0_8 t0_9 t0_10 t0_11 t0_12 t0_13 t0_14 t0_15 t0_16 t0_17 t0_18 t0_19 t0_20 t0_21 t1_0) := by
  have e0 : (0 : Int32).toInt = 0 := rfl
  have e1 : (1 : Int32).toInt = 1 := rfl
  have eL0 : (0 : Int64).toInt = 0 := rfl
  have em : (-1 : Int32).toInt = -1 := rfl
  unfold S_VR_isDigit
  have h1 := T_VR_here (t0_0 := t0_0) (t0_1 := t0_1) (t0_2 := t0_2) (t0_3 := t0_3) (t0_4 := t0_4) (t0_5 := t0_5) (t0_6 := t0_6) (t0_7 := t0_7) (t0_8 := t0_8) (t0_9 := t0_9) (t0_10 := t0_10) (t0_11 := t0_11) (t0_12 := t0_12) (t0_13 := t0_13) (t0_14 := t0_14) (t0_15 := t0_15) (t0_16 := t0_16) (t0_17 := t0_17) (t0_18 := t0_18) (t0_19 := t0_19) (t0_20 := t0_20) (t0_21 := t0_21) (t1_0 := t1_0) (by omega)
  with_reducible refine v_oweS h1 ?_
  by_cases g2 : ((F_VR_here t0_0 t0_1 t0_2 t0_3 t0_4 t0_5 t0_6 t0_7 t0_8 t0_9 t0_10 t0_11 t0_12 t0_13 t0_14 t0_15 t0_16 t0_17 t0_18 t0_19 t0_20 t0_21 t1_0) : Int32) < (48 : Int32)
  ·
    rw [if_pos g2]
    exact trivial
  ·
    rw [if_neg g2]
    with_reducible refine v_oweS h1 ?_
    by_cases g3 : (57 : Int32) < ((F_VR_here t0_0 t0_1 t0_2 t0_3 t0_4 t0_5 t0_6 t0_7 t0_8 t0_9 t0_10 t0_11 t0_12 t0_13 t0_14 t0_15 t0_16 t0_17 t0_18 t0_19 t0_20 t0_21 t1_0) : Int32)
    ·
      rw [if_pos g3]
      exact trivial
    ·
      rw [if_neg g3]
      exact trivial
def Q_VR_number (t0_7 : Int32) (p : Int32 × Int32) : Prop := (0 ≤ p.1.toInt ∧ p.1.toInt ≤ 9999) ∧ (t0_7.toInt ≤ p.2.toInt ∧ p.2.toInt ≤ 256)
theorem vv_nu {t0_0 : Int32} {t0_1 : Int32} {t0_2 : Int32} {t0_3 : Int32} {t0_4 : Int32} {t0_5 : Int32} {t0_6 : Int32} {t0_7 : Int32} {t0_8 : Int32} {t0_9 : Int32} {t0_10 : Int32} {t0_11 : Int32} {t0_12 : Int32} {t0_13 : Int32} {t0_14 : Int32} {t0_15 : Int32} {t0_16 : Int32} {t0_17 : Int32} {t0_18 : Int32} {t0_19 : Int32} {t0_20 : Int32} {t0_21 : Int32} {t1_0 : (Nat → Int32)} (hA1 : t0_1.toInt ≤ 256) (hA7 : 0 ≤ t0_7.toInt ∧ t0_7.toInt ≤ 256)  : ∀ (n : Nat) (lx33 : Int32) (lx34 : Int32), (0 ≤ lx33.toInt ∧ lx33.toInt ≤ 99999) → (t0_7.toInt ≤ lx34.toInt ∧ lx34.toInt ≤ 256) → (256 - lx34.toInt < (n : Int)) → (S_VR_number_L2 t0_0 t0_1 t0_2 t0_3 t0_4 t0_5 t0_6 t0_7 t0_8 t0_9 t0_10 t0_11 t0_12 t0_13 t0_14 t0_15 t0_16 t0_17 t0_18 t0_19 t0_20 t0_21 t1_0 n lx33 lx34) ∧ Q_VR_number t0_7 (F_VR_number_L2 t0_0 t0_1 t0_2 t0_3 t0_4 t0_5 t0_6 t0_7 t0_8 t0_9 t0_10 t0_11 t0_12 t0_13 t0_14 t0_15 t0_16 t0_17 t0_18 t0_19 t0_20 t0_21 t1_0 n lx33 lx34) := by
  intro n
  induction n with
  | zero => intro lx33 lx34 hA0 hs hm; exact absurd (show False by omega) id
  | succ n ih =>
    intro lx33 lx34 hA0 hs hm
    have e0 : (0 : Int32).toInt = 0 := rfl
    have e1 : (1 : Int32).toInt = 1 := rfl
    have eL0 : (0 : Int64).toInt = 0 := rfl
    have em : (-1 : Int32).toInt = -1 := rfl
    rw [S_VR_number_L2.eq_2, F_VR_number_L2.eq_2]
    have h1 := T_VR_isDigit (t0_0 := t0_0) (t0_1 := t0_1) (t0_2 := t0_2) (t0_3 := t0_3) (t0_4 := t0_4) (t0_5 := t0_5) (t0_6 := t0_6) (t0_7 := lx34) (t0_8 := t0_8) (t0_9 := t0_9) (t0_10 := t0_10) (t0_11 := t0_11) (t0_12 := t0_12) (t0_13 := t0_13) (t0_14 := t0_14) (t0_15 := t0_15) (t0_16 := t0_16) (t0_17 := t0_17) (t0_18 := t0_18) (t0_19 := t0_19) (t0_20 := t0_20) (t0_21 := t0_21) (t1_0 := t1_0) (by omega)
    with_reducible refine v_owe h1 ?_
    by_cases g2 : ((F_VR_isDigit t0_0 t0_1 t0_2 t0_3 t0_4 t0_5 t0_6 lx34 t0_8 t0_9 t0_10 t0_11 t0_12 t0_13 t0_14 t0_15 t0_16 t0_17 t0_18 t0_19 t0_20 t0_21 t1_0) : Int32) = (0 : Int32)
    ·
      rw [if_pos g2, if_pos g2]
      by_cases g3 : lx33 ≤ (9999 : Int32)
      ·
        rw [if_pos g3, if_pos g3]
        have g3i : lx33.toInt ≤ 9999 := q_leI g3
        refine ⟨trivial, ?_⟩
        (unfold Q_VR_number; dsimp only; exact ⟨⟨by first | omega | decide, by first | omega | decide⟩, ⟨by omega, by omega⟩⟩)
      ·
        rw [if_neg g3, if_neg g3]
        have g3i : 9999 < lx33.toInt := q_nleI g3
        refine ⟨trivial, ?_⟩
        (unfold Q_VR_number; dsimp only; exact ⟨⟨by first | omega | decide, by first | omega | decide⟩, ⟨by omega, by omega⟩⟩)
    ·
      rw [if_neg g2, if_neg g2]
      have hd := vr_dig g2
      by_cases g4 : lx33 ≤ (9999 : Int32)
      ·
        rw [if_pos g4, if_pos g4]
        have g4i : lx33.toInt ≤ 9999 := q_leI g4
        have h5 := T_VR_here (t0_0 := t0_0) (t0_1 := t0_1) (t0_2 := t0_2) (t0_3 := t0_3) (t0_4 := t0_4) (t0_5 := t0_5) (t0_6 := t0_6) (t0_7 := lx34) (t0_8 := t0_8) (t0_9 := t0_9) (t0_10 := t0_10) (t0_11 := t0_11) (t0_12 := t0_12) (t0_13 := t0_13) (t0_14 := t0_14) (t0_15 := t0_15) (t0_16 := t0_16) (t0_17 := t0_17) (t0_18 := t0_18) (t0_19 := t0_19) (t0_20 := t0_20) (t0_21 := t0_21) (t1_0 := t1_0) (by omega)
        with_reducible refine v_owe h5 ?_
        obtain ⟨a6, e7⟩ := q_nm (lx34 + 1 : Int32)
        rw [e7]
        have a6i : a6.toInt = lx34.toInt + 1 := by rw [← e7]; exact q_addI (x := lx34.toInt) (y := 1) rfl (by decide) (by omega) (by omega)
        exact ih _ _ (vr_num ⟨hA0.1, by omega⟩ hd.2) ⟨by omega, by omega⟩ (by omega)
      ·
        rw [if_neg g4, if_neg g4]
        have g4i : 9999 < lx33.toInt := q_nleI g4
        obtain ⟨a8, e9⟩ := q_nm (lx34 + 1 : Int32)
        rw [e9]
        have a8i : a8.toInt = lx34.toInt + 1 := by rw [← e9]; exact q_addI (x := lx34.toInt) (y := 1) rfl (by decide) (by omega) (by omega)
        exact ih _ _ hA0 ⟨by omega, by omega⟩ (by omega)
theorem T_VR_number {t0_0 : Int32} {t0_1 : Int32} {t0_2 : Int32} {t0_3 : Int32} {t0_4 : Int32} {t0_5 : Int32} {t0_6 : Int32} {t0_7 : Int32} {t0_8 : Int32} {t0_9 : Int32} {t0_10 : Int32} {t0_11 : Int32} {t0_12 : Int32} {t0_13 : Int32} {t0_14 : Int32} {t0_15 : Int32} {t0_16 : Int32} {t0_17 : Int32} {t0_18 : Int32} {t0_19 : Int32} {t0_20 : Int32} {t0_21 : Int32} {t1_0 : (Nat → Int32)} (hA1 : t0_1.toInt ≤ 256) (hA7 : 0 ≤ t0_7.toInt ∧ t0_7.toInt ≤ 256)  : (S_VR_number t0_0 t0_1 t0_2 t0_3 t0_4 t0_5 t0_6 t0_7 t0_8 t0_9 t0_10 t0_11 t0_12 t0_13 t0_14 t0_15 t0_16 t0_17 t0_18 t0_19 t0_20 t0_21 t1_0) ∧ Q_VR_number t0_7 (F_VR_number t0_0 t0_1 t0_2 t0_3 t0_4 t0_5 t0_6 t0_7 t0_8 t0_9 t0_10 t0_11 t0_12 t0_13 t0_14 t0_15 t0_16 t0_17 t0_18 t0_19 t0_20 t0_21 t1_0) := by
  have e0 : (0 : Int32).toInt = 0 := rfl
  have e1 : (1 : Int32).toInt = 1 := rfl
  have eL0 : (0 : Int64).toInt = 0 := rfl
  have em : (-1 : Int32).toInt = -1 := rfl
  unfold S_VR_number F_VR_number
  exact vv_nu hA1 hA7 _ _ _ (by decide) ⟨by omega, by omega⟩ (by omega)
def Q_VR_take (t0_7 : Int32) (p : Int32 × Int32 × Int32 × Int32 × Int32 × Int32 × Int32) : Prop := (t0_7.toInt ≤ p.1.toInt ∧ p.1.toInt ≤ 256) ∧ (-1 ≤ p.2.2.2.2.1.toInt ∧ p.2.2.2.2.1.toInt ≤ 9999) ∧ (-1 ≤ p.2.2.2.2.2.1.toInt ∧ p.2.2.2.2.2.1.toInt ≤ 9999)
theorem T_VR_tk239 {K_F_VR_take_L86 : Int32 → Int32 → Int32 → (Int32 × Int32 × Int32 × Int32 × Int32 × Int32 × Int32)} {t0_0 : Int32} {t0_1 : Int32} {t0_2 : Int32} {t0_3 : Int32} {t0_4 : Int32} {t0_5 : Int32} {t0_6 : Int32} {t0_7 : Int32} {t0_8 : Int32} {t0_9 : Int32} {t0_10 : Int32} {t0_11 : Int32} {t0_12 : Int32} {t0_13 : Int32} {t0_14 : Int32} {t0_15 : Int32} {t0_16 : Int32} {t0_17 : Int32} {t0_18 : Int32} {t0_19 : Int32} {t0_20 : Int32} {t0_21 : Int32} {t1_0 : (Nat → Int32)} {lx50 : Int32} {lx51 : Int32} {lx62 : Int32} {lx63 : Int32} {lx64 : Int32} {lx100 : Int32} {lx101 : Int32} {lx118 : Int32} {lx119 : Int32} {K_S_VR_take_L86 : Int32 → Int32 → Int32 → Prop} (hA1 : t0_1.toInt ≤ 256) (hA7 : 0 ≤ t0_7.toInt ∧ t0_7.toInt ≤ 256) (hA118 : t0_7.toInt ≤ lx118.toInt ∧ lx118.toInt ≤ 256) (hA101 : -1 ≤ lx101.toInt ∧ lx101.toInt ≤ 9999) (hA119 : -1 ≤ lx119.toInt ∧ lx119.toInt ≤ 9999) : (S_VR_take_J239 K_S_VR_take_L86 t0_0 t0_1 t0_2 t0_3 t0_4 t0_5 t0_6 t0_7 t0_8 t0_9 t0_10 t0_11 t0_12 t0_13 t0_14 t0_15 t0_16 t0_17 t0_18 t0_19 t0_20 t0_21 t1_0 lx50 lx51 lx62 lx63 lx64 lx100 lx101 lx118 lx119) ∧ Q_VR_take t0_7 (F_VR_take_J239 K_F_VR_take_L86 t0_0 t0_1 t0_2 t0_3 t0_4 t0_5 t0_6 t0_7 t0_8 t0_9 t0_10 t0_11 t0_12 t0_13 t0_14 t0_15 t0_16 t0_17 t0_18 t0_19 t0_20 t0_21 t1_0 lx50 lx51 lx62 lx63 lx64 lx100 lx101 lx118 lx119) := by
  have e0 : (0 : Int32).toInt = 0 := rfl
  have e1 : (1 : Int32).toInt = 1 := rfl
  have eL0 : (0 : Int64).toInt = 0 := rfl
  have em : (-1 : Int32).toInt = -1 := rfl
  unfold S_VR_take_J239 F_VR_take_J239
  have h1 := T_VR_here (t0_0 := t0_0) (t0_1 := t0_1) (t0_2 := t0_2) (t0_3 := t0_3) (t0_4 := t0_4) (t0_5 := t0_5) (t0_6 := t0_6) (t0_7 := lx118) (t0_8 := lx51) (t0_9 := lx63) (t0_10 := lx64) (t0_11 := lx101) (t0_12 := lx119) (t0_13 := t0_13) (t0_14 := t0_14) (t0_15 := t0_15) (t0_16 := t0_16) (t0_17 := t0_17) (t0_18 := t0_18) (t0_19 := t0_19) (t0_20 := t0_20) (t0_21 := t0_21) (t1_0 := t1_0) (by omega)
  with_reducible refine v_owe h1 ?_
  by_cases g2 : (0 : Int32) ≤ ((F_VR_here t0_0 t0_1 t0_2 t0_3 t0_4 t0_5 t0_6 lx118 lx51 lx63 lx64 lx101 lx119 t0_13 t0_14 t0_15 t0_16 t0_17 t0_18 t0_19 t0_20 t0_21 t1_0) : Int32)
  ·
    rw [if_pos g2, if_pos g2]
    have hn := vr_lt (P := fun z => 0 ≤ z) g2 (by decide)
    refine ⟨trivial, ?_⟩
    (unfold Q_VR_take; dsimp only; first | exact ⟨⟨by omega, by omega⟩, ⟨by omega, by omega⟩, ⟨by omega, by omega⟩⟩ | (have eK : (lx118 + 1 : Int32).toInt = lx118.toInt + 1 := q_addI (y := 1) rfl (by decide) (by omega) (by omega); exact ⟨⟨by omega, by omega⟩, ⟨by omega, by omega⟩, ⟨by omega, by omega⟩⟩))
  ·
    rw [if_neg g2, if_neg g2]
    refine ⟨trivial, ?_⟩
    (unfold Q_VR_take; dsimp only; first | exact ⟨⟨by omega, by omega⟩, ⟨by omega, by omega⟩, ⟨by omega, by omega⟩⟩ | (have eK : (lx118 + 1 : Int32).toInt = lx118.toInt + 1 := q_addI (y := 1) rfl (by decide) (by omega) (by omega); exact ⟨⟨by omega, by omega⟩, ⟨by omega, by omega⟩, ⟨by omega, by omega⟩⟩))
theorem T_VR_tk167 {K_F_VR_take_L86 : Int32 → Int32 → Int32 → (Int32 × Int32 × Int32 × Int32 × Int32 × Int32 × Int32)} {t0_0 : Int32} {t0_1 : Int32} {t0_2 : Int32} {t0_3 : Int32} {t0_4 : Int32} {t0_5 : Int32} {t0_6 : Int32} {t0_7 : Int32} {t0_8 : Int32} {t0_9 : Int32} {t0_10 : Int32} {t0_11 : Int32} {t0_12 : Int32} {t0_13 : Int32} {t0_14 : Int32} {t0_15 : Int32} {t0_16 : Int32} {t0_17 : Int32} {t0_18 : Int32} {t0_19 : Int32} {t0_20 : Int32} {t0_21 : Int32} {t1_0 : (Nat → Int32)} {lx50 : Int32} {lx51 : Int32} {lx62 : Int32} {lx63 : Int32} {lx64 : Int32} {lx100 : Int32} {lx101 : Int32} {K_S_VR_take_L86 : Int32 → Int32 → Int32 → Prop} (hA1 : t0_1.toInt ≤ 256) (hA7 : 0 ≤ t0_7.toInt ∧ t0_7.toInt ≤ 256) (hA100 : t0_7.toInt ≤ lx100.toInt ∧ lx100.toInt ≤ 256) (hA101 : -1 ≤ lx101.toInt ∧ lx101.toInt ≤ 9999) : (S_VR_take_J167 K_S_VR_take_L86 t0_0 t0_1 t0_2 t0_3 t0_4 t0_5 t0_6 t0_7 t0_8 t0_9 t0_10 t0_11 t0_12 t0_13 t0_14 t0_15 t0_16 t0_17 t0_18 t0_19 t0_20 t0_21 t1_0 lx50 lx51 lx62 lx63 lx64 lx100 lx101) ∧ Q_VR_take t0_7 (F_VR_take_J167 K_F_VR_take_L86 t0_0 t0_1 t0_2 t0_3 t0_4 t0_5 t0_6 t0_7 t0_8 t0_9 t0_10 t0_11 t0_12 t0_13 t0_14 t0_15 t0_16 t0_17 t0_18 t0_19 t0_20 t0_21 t1_0 lx50 lx51 lx62 lx63 lx64 lx100 lx101) := by
  have e0 : (0 : Int32).toInt = 0 := rfl
  have e1 : (1 : Int32).toInt = 1 := rfl
  have eL0 : (0 : Int64).toInt = 0 := rfl
  have em : (-1 : Int32).toInt = -1 := rfl
  unfold S_VR_take_J167 F_VR_take_J167
  have h1 := T_VR_here (t0_0 := t0_0) (t0_1 := t0_1) (t0_2 := t0_2) (t0_3 := t0_3) (t0_4 := t0_4) (t0_5 := t0_5) (t0_6 := t0_6) (t0_7 := lx100) (t0_8 := lx51) (t0_9 := lx63) (t0_10 := lx64) (t0_11 := lx101) (t0_12 := (-1 : Int32)) (t0_13 := t0_13) (t0_14 := t0_14) (t0_15 := t0_15) (t0_16 := t0_16) (t0_17 := t0_17) (t0_18 := t0_18) (t0_19 := t0_19) (t0_20 := t0_20) (t0_21 := t0_21) (t1_0 := t1_0) (by omega)
  with_reducible refine v_owe h1 ?_
  by_cases g2 : ((F_VR_here t0_0 t0_1 t0_2 t0_3 t0_4 t0_5 t0_6 lx100 lx51 lx63 lx64 lx101 (-1 : Int32) t0_13 t0_14 t0_15 t0_16 t0_17 t0_18 t0_19 t0_20 t0_21 t1_0) : Int32) = (46 : Int32)
  ·
    rw [if_pos g2, if_pos g2]
    have hn := vr_lt (P := fun z => z = 46) g2 (by decide)
    obtain ⟨a3, e4⟩ := q_nm (lx100 + 1 : Int32)
    rw [e4]
    have a3i : a3.toInt = lx100.toInt + 1 := by rw [← e4]; exact q_addI (x := lx100.toInt) (y := 1) rfl (by decide) (by omega) (by omega)
    by_cases g5 : t0_1 ≤ a3
    ·
      rw [if_pos g5, if_pos g5]
      have g5i : t0_1.toInt ≤ a3.toInt := q_leI g5
      exact T_VR_tk239 hA1 hA7 ⟨by omega, by omega⟩ hA101 ⟨by first | omega | decide, by first | omega | decide⟩
    ·
      rw [if_neg g5, if_neg g5]
      have g5i : a3.toInt < t0_1.toInt := q_nleI g5
      refine v_cons (by first | omega | decide) ?_
      refine v_cons (by first | omega | decide) ?_
      by_cases g6 : (t1_0 a3.toNatClampNeg : Int32) < (48 : Int32)
      ·
        rw [if_pos g6, if_pos g6]
        exact T_VR_tk239 hA1 hA7 ⟨by omega, by omega⟩ hA101 ⟨by first | omega | decide, by first | omega | decide⟩
      ·
        rw [if_neg g6, if_neg g6]
        refine v_cons (by first | omega | decide) ?_
        refine v_cons (by first | omega | decide) ?_
        by_cases g7 : (57 : Int32) < (t1_0 a3.toNatClampNeg : Int32)
        ·
          rw [if_pos g7, if_pos g7]
          exact T_VR_tk239 hA1 hA7 ⟨by omega, by omega⟩ hA101 ⟨by first | omega | decide, by first | omega | decide⟩
        ·
          rw [if_neg g7, if_neg g7]
          have h8 := T_VR_number (t0_0 := t0_0) (t0_1 := t0_1) (t0_2 := t0_2) (t0_3 := t0_3) (t0_4 := t0_4) (t0_5 := t0_5) (t0_6 := t0_6) (t0_7 := a3) (t0_8 := lx51) (t0_9 := lx63) (t0_10 := lx64) (t0_11 := lx101) (t0_12 := (-1 : Int32)) (t0_13 := t0_13) (t0_14 := t0_14) (t0_15 := t0_15) (t0_16 := t0_16) (t0_17 := t0_17) (t0_18 := t0_18) (t0_19 := t0_19) (t0_20 := t0_20) (t0_21 := t0_21) (t1_0 := t1_0) hA1 ⟨by omega, by omega⟩
          with_reducible refine v_owe h8.1 ?_
          replace h8 := h8.2
          generalize F_VR_number t0_0 t0_1 t0_2 t0_3 t0_4 t0_5 t0_6 a3 lx51 lx63 lx64 lx101 (-1 : Int32) t0_13 t0_14 t0_15 t0_16 t0_17 t0_18 t0_19 t0_20 t0_21 t1_0 = p186 at *
          unfold Q_VR_number at h8
          unfold S_VR_take_c233 F_VR_take_c233
          exact T_VR_tk239 hA1 hA7 ⟨by omega, by omega⟩ hA101 ⟨by first | omega | decide, by first | omega | decide⟩
  ·
    rw [if_neg g2, if_neg g2]
    exact T_VR_tk239 hA1 hA7 ⟨by omega, by omega⟩ hA101 ⟨by first | omega | decide, by first | omega | decide⟩
theorem vv_tk {t0_0 : Int32} {t0_1 : Int32} {t0_2 : Int32} {t0_3 : Int32} {t0_4 : Int32} {t0_5 : Int32} {t0_6 : Int32} {t0_7 : Int32} {t0_8 : Int32} {t0_9 : Int32} {t0_10 : Int32} {t0_11 : Int32} {t0_12 : Int32} {t0_13 : Int32} {t0_14 : Int32} {t0_15 : Int32} {t0_16 : Int32} {t0_17 : Int32} {t0_18 : Int32} {t0_19 : Int32} {t0_20 : Int32} {t0_21 : Int32} {t1_0 : (Nat → Int32)} {lx50 : Int32} {lx51 : Int32} (hA1 : t0_1.toInt ≤ 256) (hA7 : 0 ≤ t0_7.toInt ∧ t0_7.toInt ≤ 256)  : ∀ (n : Nat) (lx62 : Int32) (lx63 : Int32) (lx64 : Int32), (t0_7.toInt ≤ lx62.toInt ∧ lx62.toInt ≤ 256) → (256 - lx62.toInt < (n : Int)) → (S_VR_take_L86 t0_0 t0_1 t0_2 t0_3 t0_4 t0_5 t0_6 t0_7 t0_8 t0_9 t0_10 t0_11 t0_12 t0_13 t0_14 t0_15 t0_16 t0_17 t0_18 t0_19 t0_20 t0_21 t1_0 lx50 lx51 n lx62 lx63 lx64) ∧ Q_VR_take t0_7 (F_VR_take_L86 t0_0 t0_1 t0_2 t0_3 t0_4 t0_5 t0_6 t0_7 t0_8 t0_9 t0_10 t0_11 t0_12 t0_13 t0_14 t0_15 t0_16 t0_17 t0_18 t0_19 t0_20 t0_21 t1_0 lx50 lx51 n lx62 lx63 lx64) := by
  intro n
  induction n with
  | zero => intro lx62 lx63 lx64 hs hm; exact absurd (show False by omega) id
  | succ n ih =>
    intro lx62 lx63 lx64 hs hm
    have e0 : (0 : Int32).toInt = 0 := rfl
    have e1 : (1 : Int32).toInt = 1 := rfl
    have eL0 : (0 : Int64).toInt = 0 := rfl
    have em : (-1 : Int32).toInt = -1 := rfl
    rw [S_VR_take_L86.eq_2, F_VR_take_L86.eq_2]
    have h1 := T_VR_here (t0_0 := t0_0) (t0_1 := t0_1) (t0_2 := t0_2) (t0_3 := t0_3) (t0_4 := t0_4) (t0_5 := t0_5) (t0_6 := t0_6) (t0_7 := lx62) (t0_8 := lx51) (t0_9 := lx63) (t0_10 := lx64) (t0_11 := (-1 : Int32)) (t0_12 := (-1 : Int32)) (t0_13 := t0_13) (t0_14 := t0_14) (t0_15 := t0_15) (t0_16 := t0_16) (t0_17 := t0_17) (t0_18 := t0_18) (t0_19 := t0_19) (t0_20 := t0_20) (t0_21 := t0_21) (t1_0 := t1_0) (by omega)
    with_reducible refine v_owe h1 ?_
    by_cases g2 : ((F_VR_flag ((F_VR_here t0_0 t0_1 t0_2 t0_3 t0_4 t0_5 t0_6 lx62 lx51 lx63 lx64 (-1 : Int32) (-1 : Int32) t0_13 t0_14 t0_15 t0_16 t0_17 t0_18 t0_19 t0_20 t0_21 t1_0) : Int32)) : Int32) = (0 : Int32)
    ·
      rw [if_pos g2, if_pos g2]
      have h3 := T_VR_isDigit (t0_0 := t0_0) (t0_1 := t0_1) (t0_2 := t0_2) (t0_3 := t0_3) (t0_4 := t0_4) (t0_5 := t0_5) (t0_6 := t0_6) (t0_7 := lx62) (t0_8 := lx51) (t0_9 := lx63) (t0_10 := lx64) (t0_11 := (-1 : Int32)) (t0_12 := (-1 : Int32)) (t0_13 := t0_13) (t0_14 := t0_14) (t0_15 := t0_15) (t0_16 := t0_16) (t0_17 := t0_17) (t0_18 := t0_18) (t0_19 := t0_19) (t0_20 := t0_20) (t0_21 := t0_21) (t1_0 := t1_0) (by omega)
      with_reducible refine v_owe h3 ?_
      by_cases g4 : ((F_VR_isDigit t0_0 t0_1 t0_2 t0_3 t0_4 t0_5 t0_6 lx62 lx51 lx63 lx64 (-1 : Int32) (-1 : Int32) t0_13 t0_14 t0_15 t0_16 t0_17 t0_18 t0_19 t0_20 t0_21 t1_0) : Int32) = (0 : Int32)
      ·
        rw [if_pos g4, if_pos g4]
        exact T_VR_tk167 hA1 hA7 ⟨by omega, by omega⟩ ⟨by first | omega | decide, by first | omega | decide⟩
      ·
        rw [if_neg g4, if_neg g4]
        have hd := vr_dig g4
        have h5 := T_VR_number (t0_0 := t0_0) (t0_1 := t0_1) (t0_2 := t0_2) (t0_3 := t0_3) (t0_4 := t0_4) (t0_5 := t0_5) (t0_6 := t0_6) (t0_7 := lx62) (t0_8 := lx51) (t0_9 := lx63) (t0_10 := lx64) (t0_11 := (-1 : Int32)) (t0_12 := (-1 : Int32)) (t0_13 := t0_13) (t0_14 := t0_14) (t0_15 := t0_15) (t0_16 := t0_16) (t0_17 := t0_17) (t0_18 := t0_18) (t0_19 := t0_19) (t0_20 := t0_20) (t0_21 := t0_21) (t1_0 := t1_0) hA1 ⟨by omega, by omega⟩
        with_reducible refine v_owe h5.1 ?_
        replace h5 := h5.2
        generalize F_VR_number t0_0 t0_1 t0_2 t0_3 t0_4 t0_5 t0_6 lx62 lx51 lx63 lx64 (-1 : Int32) (-1 : Int32) t0_13 t0_14 t0_15 t0_16 t0_17 t0_18 t0_19 t0_20 t0_21 t1_0 = p209 at *
        unfold Q_VR_number at h5
        unfold S_VR_take_c161 F_VR_take_c161
        exact T_VR_tk167 hA1 hA7 ⟨by omega, by omega⟩ ⟨by first | omega | decide, by first | omega | decide⟩
    ·
      rw [if_neg g2, if_neg g2]
      have hf := vr_flg g2
      by_cases g6 : lx64 = (0 : Int32)
      ·
        rw [if_pos g6, if_pos g6]
        with_reducible refine v_owe h1 ?_
        by_cases g7 : ((F_VR_has ((F_VR_here t0_0 t0_1 t0_2 t0_3 t0_4 t0_5 t0_6 lx62 lx51 lx63 lx64 (-1 : Int32) (-1 : Int32) t0_13 t0_14 t0_15 t0_16 t0_17 t0_18 t0_19 t0_20 t0_21 t1_0) : Int32) t0_0 t0_1 t0_2 t0_3 t0_4 t0_5 t0_6 lx62 lx51 lx63 lx64 (-1 : Int32) (-1 : Int32) t0_13 t0_14 t0_15 t0_16 t0_17 t0_18 t0_19 t0_20 t0_21) : Int32) = (0 : Int32)
        ·
          rw [if_pos g7, if_pos g7]
          unfold S_VR_take_J120 F_VR_take_J120
          have h8 := T_VR_here (t0_0 := t0_0) (t0_1 := t0_1) (t0_2 := t0_2) (t0_3 := t0_3) (t0_4 := t0_4) (t0_5 := t0_5) (t0_6 := t0_6) (t0_7 := lx62) (t0_8 := lx51) (t0_9 := lx63) (t0_10 := (0 : Int32)) (t0_11 := (-1 : Int32)) (t0_12 := (-1 : Int32)) (t0_13 := t0_13) (t0_14 := t0_14) (t0_15 := t0_15) (t0_16 := t0_16) (t0_17 := t0_17) (t0_18 := t0_18) (t0_19 := t0_19) (t0_20 := t0_20) (t0_21 := t0_21) (t1_0 := t1_0) (by omega)
          with_reducible refine v_owe h8 ?_
          obtain ⟨a9, e10⟩ := q_nm (lx62 + 1 : Int32)
          rw [e10]
          have a9i : a9.toInt = lx62.toInt + 1 := by rw [← e10]; exact q_addI (x := lx62.toInt) (y := 1) rfl (by decide) (by omega) (by omega)
          exact ih _ _ _ ⟨by omega, by omega⟩ (by omega)
        ·
          rw [if_neg g7, if_neg g7]
          unfold S_VR_take_J115 F_VR_take_J115
          unfold S_VR_take_J120 F_VR_take_J120
          have h11 := T_VR_here (t0_0 := t0_0) (t0_1 := t0_1) (t0_2 := t0_2) (t0_3 := t0_3) (t0_4 := t0_4) (t0_5 := t0_5) (t0_6 := t0_6) (t0_7 := lx62) (t0_8 := lx51) (t0_9 := lx63) (t0_10 := (1 : Int32)) (t0_11 := (-1 : Int32)) (t0_12 := (-1 : Int32)) (t0_13 := t0_13) (t0_14 := t0_14) (t0_15 := t0_15) (t0_16 := t0_16) (t0_17 := t0_17) (t0_18 := t0_18) (t0_19 := t0_19) (t0_20 := t0_20) (t0_21 := t0_21) (t1_0 := t1_0) (by omega)
          with_reducible refine v_owe h11 ?_
          obtain ⟨a12, e13⟩ := q_nm (lx62 + 1 : Int32)
          rw [e13]
          have a12i : a12.toInt = lx62.toInt + 1 := by rw [← e13]; exact q_addI (x := lx62.toInt) (y := 1) rfl (by decide) (by omega) (by omega)
          exact ih _ _ _ ⟨by omega, by omega⟩ (by omega)
      ·
        rw [if_neg g6, if_neg g6]
        unfold S_VR_take_J115 F_VR_take_J115
        unfold S_VR_take_J120 F_VR_take_J120
        have h14 := T_VR_here (t0_0 := t0_0) (t0_1 := t0_1) (t0_2 := t0_2) (t0_3 := t0_3) (t0_4 := t0_4) (t0_5 := t0_5) (t0_6 := t0_6) (t0_7 := lx62) (t0_8 := lx51) (t0_9 := lx63) (t0_10 := (1 : Int32)) (t0_11 := (-1 : Int32)) (t0_12 := (-1 : Int32)) (t0_13 := t0_13) (t0_14 := t0_14) (t0_15 := t0_15) (t0_16 := t0_16) (t0_17 := t0_17) (t0_18 := t0_18) (t0_19 := t0_19) (t0_20 := t0_20) (t0_21 := t0_21) (t1_0 := t1_0) (by omega)
        with_reducible refine v_owe h14 ?_
        obtain ⟨a15, e16⟩ := q_nm (lx62 + 1 : Int32)
        rw [e16]
        have a15i : a15.toInt = lx62.toInt + 1 := by rw [← e16]; exact q_addI (x := lx62.toInt) (y := 1) rfl (by decide) (by omega) (by omega)
        exact ih _ _ _ ⟨by omega, by omega⟩ (by omega)
theorem T_VR_take {t0_0 : Int32} {t0_1 : Int32} {t0_2 : Int32} {t0_3 : Int32} {t0_4 : Int32} {t0_5 : Int32} {t0_6 : Int32} {t0_7 : Int32} {t0_8 : Int32} {t0_9 : Int32} {t0_10 : Int32} {t0_11 : Int32} {t0_12 : Int32} {t0_13 : Int32} {t0_14 : Int32} {t0_15 : Int32} {t0_16 : Int32} {t0_17 : Int32} {t0_18 : Int32} {t0_19 : Int32} {t0_20 : Int32} {t0_21 : Int32} {t1_0 : (Nat → Int32)} (hA1 : t0_1.toInt ≤ 256) (hA7 : 0 ≤ t0_7.toInt ∧ t0_7.toInt ≤ 256)  : (S_VR_take t0_0 t0_1 t0_2 t0_3 t0_4 t0_5 t0_6 t0_7 t0_8 t0_9 t0_10 t0_11 t0_12 t0_13 t0_14 t0_15 t0_16 t0_17 t0_18 t0_19 t0_20 t0_21 t1_0) ∧ Q_VR_take t0_7 (F_VR_take t0_0 t0_1 t0_2 t0_3 t0_4 t0_5 t0_6 t0_7 t0_8 t0_9 t0_10 t0_11 t0_12 t0_13 t0_14 t0_15 t0_16 t0_17 t0_18 t0_19 t0_20 t0_21 t1_0) := by
  have e0 : (0 : Int32).toInt = 0 := rfl
  have e1 : (1 : Int32).toInt = 1 := rfl
  have eL0 : (0 : Int64).toInt = 0 := rfl
  have em : (-1 : Int32).toInt = -1 := rfl
  unfold S_VR_take F_VR_take
  have h1 := T_VR_isDigit (t0_0 := t0_0) (t0_1 := t0_1) (t0_2 := t0_2) (t0_3 := t0_3) (t0_4 := t0_4) (t0_5 := t0_5) (t0_6 := t0_6) (t0_7 := t0_7) (t0_8 := (0 : Int32)) (t0_9 := (0 : Int32)) (t0_10 := (0 : Int32)) (t0_11 := (-1 : Int32)) (t0_12 := (-1 : Int32)) (t0_13 := t0_13) (t0_14 := t0_14) (t0_15 := t0_15) (t0_16 := t0_16) (t0_17 := t0_17) (t0_18 := t0_18) (t0_19 := t0_19) (t0_20 := t0_20) (t0_21 := t0_21) (t1_0 := t1_0) (by omega)
  with_reducible refine v_owe h1 ?_
  by_cases g2 : ((F_VR_isDigit t0_0 t0_1 t0_2 t0_3 t0_4 t0_5 t0_6 t0_7 (0 : Int32) (0 : Int32) (0 : Int32) (-1 : Int32) (-1 : Int32) t0_13 t0_14 t0_15 t0_16 t0_17 t0_18 t0_19 t0_20 t0_21 t1_0) : Int32) = (0 : Int32)
  ·
    rw [if_pos g2, if_pos g2]
    unfold S_VR_take_J86 F_VR_take_J86
    exact vv_tk hA1 hA7 1000000 _ _ _ ⟨by omega, by omega⟩ (by omega)
  ·
    rw [if_neg g2, if_neg g2]
    have hd := vr_dig g2
    have h3 := T_VR_here (t0_0 := t0_0) (t0_1 := t0_1) (t0_2 := t0_2) (t0_3 := t0_3) (t0_4 := t0_4) (t0_5 := t0_5) (t0_6 := t0_6) (t0_7 := t0_7) (t0_8 := (0 : Int32)) (t0_9 := (0 : Int32)) (t0_10 := (0 : Int32)) (t0_11 := (-1 : Int32)) (t0_12 := (-1 : Int32)) (t0_13 := t0_13) (t0_14 := t0_14) (t0_15 := t0_15) (t0_16 := t0_16) (t0_17 := t0_17) (t0_18 := t0_18) (t0_19 := t0_19) (t0_20 := t0_20) (t0_21 := t0_21) (t1_0 := t1_0) (by omega)
    with_reducible refine v_owe h3 ?_
    by_cases g4 : ((F_VR_here t0_0 t0_1 t0_2 t0_3 t0_4 t0_5 t0_6 t0_7 (0 : Int32) (0 : Int32) (0 : Int32) (-1 : Int32) (-1 : Int32) t0_13 t0_14 t0_15 t0_16 t0_17 t0_18 t0_19 t0_20 t0_21 t1_0) : Int32) = (48 : Int32)
    ·
      rw [if_pos g4, if_pos g4]
      unfold S_VR_take_J86 F_VR_take_J86
      exact vv_tk hA1 hA7 1000000 _ _ _ ⟨by omega, by omega⟩ (by omega)
    ·
      rw [if_neg g4, if_neg g4]
      have h5 := T_VR_number (t0_0 := t0_0) (t0_1 := t0_1) (t0_2 := t0_2) (t0_3 := t0_3) (t0_4 := t0_4) (t0_5 := t0_5) (t0_6 := t0_6) (t0_7 := t0_7) (t0_8 := (0 : Int32)) (t0_9 := (0 : Int32)) (t0_10 := (0 : Int32)) (t0_11 := (-1 : Int32)) (t0_12 := (-1 : Int32)) (t0_13 := t0_13) (t0_14 := t0_14) (t0_15 := t0_15) (t0_16 := t0_16) (t0_17 := t0_17) (t0_18 := t0_18) (t0_19 := t0_19) (t0_20 := t0_20) (t0_21 := t0_21) (t1_0 := t1_0) hA1 ⟨by omega, by omega⟩
      with_reducible refine v_owe h5.1 ?_
      replace h5 := h5.2
      generalize F_VR_number t0_0 t0_1 t0_2 t0_3 t0_4 t0_5 t0_6 t0_7 (0 : Int32) (0 : Int32) (0 : Int32) (-1 : Int32) (-1 : Int32) t0_13 t0_14 t0_15 t0_16 t0_17 t0_18 t0_19 t0_20 t0_21 t1_0 = p304 at *
      unfold Q_VR_number at h5
      unfold S_VR_take_c48 F_VR_take_c48
      have h6 := T_VR_here (t0_0 := t0_0) (t0_1 := t0_1) (t0_2 := t0_2) (t0_3 := t0_3) (t0_4 := t0_4) (t0_5 := t0_5) (t0_6 := t0_6) (t0_7 := (p304.2 : Int32)) (t0_8 := (p304.1 : Int32)) (t0_9 := (0 : Int32)) (t0_10 := (0 : Int32)) (t0_11 := (-1 : Int32)) (t0_12 := (-1 : Int32)) (t0_13 := t0_13) (t0_14 := t0_14) (t0_15 := t0_15) (t0_16 := t0_16) (t0_17 := t0_17) (t0_18 := t0_18) (t0_19 := t0_19) (t0_20 := t0_20) (t0_21 := t0_21) (t1_0 := t1_0) (by omega)
      with_reducible refine v_owe h6 ?_
      by_cases g7 : ((F_VR_here t0_0 t0_1 t0_2 t0_3 t0_4 t0_5 t0_6 (p304.2 : Int32) (p304.1 : Int32) (0 : Int32) (0 : Int32) (-1 : Int32) (-1 : Int32) t0_13 t0_14 t0_15 t0_16 t0_17 t0_18 t0_19 t0_20 t0_21 t1_0) : Int32) = (36 : Int32)
      ·
        rw [if_pos g7, if_pos g7]
        have hn := vr_lt (P := fun z => z = 36) g7 (by decide)
        unfold S_VR_take_J86 F_VR_take_J86
        have eK : (p304.2 + 1 : Int32).toInt = p304.2.toInt + 1 := q_addI (y := 1) rfl (by decide) (by omega) (by omega); exact vv_tk hA1 hA7 1000000 _ _ _ ⟨by omega, by omega⟩ (by omega)
      ·
        rw [if_neg g7, if_neg g7]
        unfold S_VR_take_J86 F_VR_take_J86
        exact vv_tk hA1 hA7 1000000 _ _ _ ⟨by omega, by omega⟩ (by omega)
def Q_VR_ch (p : Int32 × Int32 × Int32 × Int32) : Prop := p.1.toInt ≤ 0 → 0 ≤ p.2.1.toInt ∧ p.2.1.toInt ≤ 8
theorem T_VR_ch220 {x2 : Int32} {t0_0 : Int32} {t0_1 : Int32} {t0_2 : Int32} {t0_3 : Int32} {t0_4 : Int32} {t0_5 : Int32} {t0_6 : Int32} {t0_7 : Int32} {t0_8 : Int32} {t0_9 : Int32} {t0_10 : Int32} {t0_11 : Int32} {t0_12 : Int32} {t0_13 : Int32} {t0_14 : Int32} {t0_15 : Int32} {t0_16 : Int32} {t0_17 : Int32} {t0_18 : Int32} {t0_19 : Int32} {t0_20 : Int32} {t0_21 : Int32} {t1_0 : (Nat → Int32)} {t2_0 : (Nat → Int32)} {t3_0 : (Nat → Int64)} {lx44 : Int32} {lx45 : Int32} {a64 : Int32} {lx66 : Int32} {lx79 : Int32} {lx92 : Int32} {lx105 : Int32} (hA44 : 0 ≤ lx44.toInt ∧ lx44.toInt ≤ 8)  : Q_VR_ch (F_VR_chosen_J220 x2 t0_0 t0_1 t0_2 t0_3 t0_4 t0_5 t0_6 t0_7 t0_8 t0_9 t0_10 t0_11 t0_12 t0_13 t0_14 t0_15 t0_16 t0_17 t0_18 t0_19 t0_20 t0_21 t1_0 t2_0 t3_0 lx44 lx45 a64 lx66 lx79 lx92 lx105) := by
  have e0 : (0 : Int32).toInt = 0 := rfl
  have e1 : (1 : Int32).toInt = 1 := rfl
  have eL0 : (0 : Int64).toInt = 0 := rfl
  have em : (-1 : Int32).toInt = -1 := rfl
  unfold F_VR_chosen_J220
  by_cases g1 : lx105 = (0 : Int32)
  ·
    rw [if_pos g1]
    by_cases g2 : x2 = (99 : Int32)
    ·
      rw [if_pos g2]
      by_cases g3 : a64 = (3 : Int32)
      ·
        rw [if_pos g3]
        by_cases g4 : (lg_cmp (t3_0 lx44.toNatClampNeg : Int64) 0 : Int32) < (0 : Int32)
        ·
          rw [if_pos g4]
          (unfold Q_VR_ch; dsimp only; intro z; exact absurd z (by decide))
        ·
          rw [if_neg g4]
          by_cases g5 : (lg_cmp (t3_0 lx44.toNatClampNeg : Int64) 255 : Int32) ≤ (0 : Int32)
          ·
            rw [if_pos g5]
            (unfold Q_VR_ch; dsimp only; intro z; exact ⟨by omega, by omega⟩)
          ·
            rw [if_neg g5]
            (unfold Q_VR_ch; dsimp only; intro z; exact absurd z (by decide))
      ·
        rw [if_neg g3]
        (unfold Q_VR_ch; dsimp only; intro z; exact ⟨by omega, by omega⟩)
    ·
      rw [if_neg g2]
      (unfold Q_VR_ch; dsimp only; intro z; exact ⟨by omega, by omega⟩)
  ·
    rw [if_neg g1]
    (unfold Q_VR_ch; dsimp only; intro z; exact absurd z (by decide))
theorem T_VR_ch181 {x2 : Int32} {t0_0 : Int32} {t0_1 : Int32} {t0_2 : Int32} {t0_3 : Int32} {t0_4 : Int32} {t0_5 : Int32} {t0_6 : Int32} {t0_7 : Int32} {t0_8 : Int32} {t0_9 : Int32} {t0_10 : Int32} {t0_11 : Int32} {t0_12 : Int32} {t0_13 : Int32} {t0_14 : Int32} {t0_15 : Int32} {t0_16 : Int32} {t0_17 : Int32} {t0_18 : Int32} {t0_19 : Int32} {t0_20 : Int32} {t0_21 : Int32} {t1_0 : (Nat → Int32)} {t2_0 : (Nat → Int32)} {t3_0 : (Nat → Int64)} {lx44 : Int32} {lx45 : Int32} {a64 : Int32} {lx66 : Int32} {lx79 : Int32} {lx92 : Int32} (hA44 : 0 ≤ lx44.toInt ∧ lx44.toInt ≤ 8)  : Q_VR_ch (F_VR_chosen_J181 x2 t0_0 t0_1 t0_2 t0_3 t0_4 t0_5 t0_6 t0_7 t0_8 t0_9 t0_10 t0_11 t0_12 t0_13 t0_14 t0_15 t0_16 t0_17 t0_18 t0_19 t0_20 t0_21 t1_0 t2_0 t3_0 lx44 lx45 a64 lx66 lx79 lx92) := by
  have e0 : (0 : Int32).toInt = 0 := rfl
  have e1 : (1 : Int32).toInt = 1 := rfl
  have eL0 : (0 : Int64).toInt = 0 := rfl
  have em : (-1 : Int32).toInt = -1 := rfl
  unfold F_VR_chosen_J181
  by_cases g1 : lx92 = (0 : Int32)
  ·
    rw [if_pos g1]
    by_cases g2 : x2 = (102 : Int32)
    ·
      rw [if_pos g2]
      unfold F_VR_chosen_J206
      by_cases g3 : a64 = (5 : Int32)
      ·
        rw [if_pos g3]
        unfold F_VR_chosen_J219
        exact T_VR_ch220 hA44
      ·
        rw [if_neg g3]
        by_cases g4 : a64 = (0 : Int32)
        ·
          rw [if_pos g4]
          unfold F_VR_chosen_J219
          exact T_VR_ch220 hA44
        ·
          rw [if_neg g4]
          unfold F_VR_chosen_J215
          exact T_VR_ch220 hA44
    ·
      rw [if_neg g2]
      by_cases g5 : x2 = (101 : Int32)
      ·
        rw [if_pos g5]
        unfold F_VR_chosen_J206
        by_cases g6 : a64 = (5 : Int32)
        ·
          rw [if_pos g6]
          unfold F_VR_chosen_J219
          exact T_VR_ch220 hA44
        ·
          rw [if_neg g6]
          by_cases g7 : a64 = (0 : Int32)
          ·
            rw [if_pos g7]
            unfold F_VR_chosen_J219
            exact T_VR_ch220 hA44
          ·
            rw [if_neg g7]
            unfold F_VR_chosen_J215
            exact T_VR_ch220 hA44
      ·
        rw [if_neg g5]
        by_cases g8 : x2 = (103 : Int32)
        ·
          rw [if_pos g8]
          unfold F_VR_chosen_J206
          by_cases g9 : a64 = (5 : Int32)
          ·
            rw [if_pos g9]
            unfold F_VR_chosen_J219
            exact T_VR_ch220 hA44
          ·
            rw [if_neg g9]
            by_cases g10 : a64 = (0 : Int32)
            ·
              rw [if_pos g10]
              unfold F_VR_chosen_J219
              exact T_VR_ch220 hA44
            ·
              rw [if_neg g10]
              unfold F_VR_chosen_J215
              exact T_VR_ch220 hA44
        ·
          rw [if_neg g8]
          unfold F_VR_chosen_J219
          exact T_VR_ch220 hA44
  ·
    rw [if_neg g1]
    unfold F_VR_chosen_J215
    exact T_VR_ch220 hA44
theorem T_VR_ch152 {x2 : Int32} {t0_0 : Int32} {t0_1 : Int32} {t0_2 : Int32} {t0_3 : Int32} {t0_4 : Int32} {t0_5 : Int32} {t0_6 : Int32} {t0_7 : Int32} {t0_8 : Int32} {t0_9 : Int32} {t0_10 : Int32} {t0_11 : Int32} {t0_12 : Int32} {t0_13 : Int32} {t0_14 : Int32} {t0_15 : Int32} {t0_16 : Int32} {t0_17 : Int32} {t0_18 : Int32} {t0_19 : Int32} {t0_20 : Int32} {t0_21 : Int32} {t1_0 : (Nat → Int32)} {t2_0 : (Nat → Int32)} {t3_0 : (Nat → Int64)} {lx44 : Int32} {lx45 : Int32} {a64 : Int32} {lx66 : Int32} {lx79 : Int32} (hA44 : 0 ≤ lx44.toInt ∧ lx44.toInt ≤ 8)  : Q_VR_ch (F_VR_chosen_J152 x2 t0_0 t0_1 t0_2 t0_3 t0_4 t0_5 t0_6 t0_7 t0_8 t0_9 t0_10 t0_11 t0_12 t0_13 t0_14 t0_15 t0_16 t0_17 t0_18 t0_19 t0_20 t0_21 t1_0 t2_0 t3_0 lx44 lx45 a64 lx66 lx79) := by
  have e0 : (0 : Int32).toInt = 0 := rfl
  have e1 : (1 : Int32).toInt = 1 := rfl
  have eL0 : (0 : Int64).toInt = 0 := rfl
  have em : (-1 : Int32).toInt = -1 := rfl
  unfold F_VR_chosen_J152
  by_cases g1 : lx79 = (0 : Int32)
  ·
    rw [if_pos g1]
    by_cases g2 : ((F_VR_isNumeric x2 t0_0 t0_1 t0_2 t0_3 t0_4 t0_5 t0_6 t0_7 t0_8 t0_9 t0_10 t0_11 t0_12 t0_13 lx44 lx45 lx44 t0_17 t0_18 t0_19 t0_20 t0_21) : Int32) = (0 : Int32)
    ·
      rw [if_pos g2]
      unfold F_VR_chosen_J180
      exact T_VR_ch181 hA44
    ·
      rw [if_neg g2]
      by_cases g3 : a64 = (3 : Int32)
      ·
        rw [if_pos g3]
        unfold F_VR_chosen_J180
        exact T_VR_ch181 hA44
      ·
        rw [if_neg g3]
        by_cases g4 : a64 = (0 : Int32)
        ·
          rw [if_pos g4]
          unfold F_VR_chosen_J180
          exact T_VR_ch181 hA44
        ·
          rw [if_neg g4]
          unfold F_VR_chosen_J176
          exact T_VR_ch181 hA44
  ·
    rw [if_neg g1]
    unfold F_VR_chosen_J176
    exact T_VR_ch181 hA44
theorem T_VR_ch121 {x2 : Int32} {t0_0 : Int32} {t0_1 : Int32} {t0_2 : Int32} {t0_3 : Int32} {t0_4 : Int32} {t0_5 : Int32} {t0_6 : Int32} {t0_7 : Int32} {t0_8 : Int32} {t0_9 : Int32} {t0_10 : Int32} {t0_11 : Int32} {t0_12 : Int32} {t0_13 : Int32} {t0_14 : Int32} {t0_15 : Int32} {t0_16 : Int32} {t0_17 : Int32} {t0_18 : Int32} {t0_19 : Int32} {t0_20 : Int32} {t0_21 : Int32} {t1_0 : (Nat → Int32)} {t2_0 : (Nat → Int32)} {t3_0 : (Nat → Int64)} {lx44 : Int32} {lx45 : Int32} {a64 : Int32} {lx66 : Int32} (hA44 : 0 ≤ lx44.toInt ∧ lx44.toInt ≤ 8)  : Q_VR_ch (F_VR_chosen_J121 x2 t0_0 t0_1 t0_2 t0_3 t0_4 t0_5 t0_6 t0_7 t0_8 t0_9 t0_10 t0_11 t0_12 t0_13 t0_14 t0_15 t0_16 t0_17 t0_18 t0_19 t0_20 t0_21 t1_0 t2_0 t3_0 lx44 lx45 a64 lx66) := by
  have e0 : (0 : Int32).toInt = 0 := rfl
  have e1 : (1 : Int32).toInt = 1 := rfl
  have eL0 : (0 : Int64).toInt = 0 := rfl
  have em : (-1 : Int32).toInt = -1 := rfl
  unfold F_VR_chosen_J121
  by_cases g1 : x2 = (99 : Int32)
  ·
    rw [if_pos g1]
    by_cases g2 : a64 = (1 : Int32)
    ·
      rw [if_pos g2]
      unfold F_VR_chosen_J147
      exact T_VR_ch152 hA44
    ·
      rw [if_neg g2]
      by_cases g3 : a64 = (4 : Int32)
      ·
        rw [if_pos g3]
        unfold F_VR_chosen_J147
        exact T_VR_ch152 hA44
      ·
        rw [if_neg g3]
        by_cases g4 : a64 = (5 : Int32)
        ·
          rw [if_pos g4]
          unfold F_VR_chosen_J147
          exact T_VR_ch152 hA44
        ·
          rw [if_neg g4]
          by_cases g5 : lx66 = (0 : Int32)
          ·
            rw [if_pos g5]
            unfold F_VR_chosen_J151
            exact T_VR_ch152 hA44
          ·
            rw [if_neg g5]
            unfold F_VR_chosen_J147
            exact T_VR_ch152 hA44
  ·
    rw [if_neg g1]
    unfold F_VR_chosen_J151
    exact T_VR_ch152 hA44
theorem T_VR_ch58 {x2 : Int32} {t0_0 : Int32} {t0_1 : Int32} {t0_2 : Int32} {t0_3 : Int32} {t0_4 : Int32} {t0_5 : Int32} {t0_6 : Int32} {t0_7 : Int32} {t0_8 : Int32} {t0_9 : Int32} {t0_10 : Int32} {t0_11 : Int32} {t0_12 : Int32} {t0_13 : Int32} {t0_14 : Int32} {t0_15 : Int32} {t0_16 : Int32} {t0_17 : Int32} {t0_18 : Int32} {t0_19 : Int32} {t0_20 : Int32} {t0_21 : Int32} {t1_0 : (Nat → Int32)} {t2_0 : (Nat → Int32)} {t3_0 : (Nat → Int64)} {lx44 : Int32} {lx45 : Int32} (hA2 : t0_2.toInt ≤ 9)  : Q_VR_ch (F_VR_chosen_J58 x2 t0_0 t0_1 t0_2 t0_3 t0_4 t0_5 t0_6 t0_7 t0_8 t0_9 t0_10 t0_11 t0_12 t0_13 t0_14 t0_15 t0_16 t0_17 t0_18 t0_19 t0_20 t0_21 t1_0 t2_0 t3_0 lx44 lx45) := by
  have e0 : (0 : Int32).toInt = 0 := rfl
  have e1 : (1 : Int32).toInt = 1 := rfl
  have eL0 : (0 : Int64).toInt = 0 := rfl
  have em : (-1 : Int32).toInt = -1 := rfl
  unfold F_VR_chosen_J58
  by_cases g1 : lx44 < (0 : Int32)
  ·
    rw [if_pos g1]
    have g1i : lx44.toInt < 0 := q_ltI g1
    (unfold Q_VR_ch; dsimp only; intro z; exact absurd z (by decide))
  ·
    rw [if_neg g1]
    have g1i : 0 ≤ lx44.toInt := q_nltI g1
    by_cases g2 : lx44 < t0_2
    ·
      rw [if_pos g2]
      have g2i : lx44.toInt < t0_2.toInt := q_ltI g2
      by_cases g3 : (t1_0 lx44.toNatClampNeg : Int32) = (3 : Int32)
      ·
        rw [if_pos g3]
        by_cases g4 : (t2_0 lx44.toNatClampNeg : Int32) = (64 : Int32)
        ·
          rw [if_pos g4]
          exact T_VR_ch121 ⟨by omega, by omega⟩
        ·
          rw [if_neg g4]
          unfold F_VR_chosen_J120
          exact T_VR_ch121 ⟨by omega, by omega⟩
      ·
        rw [if_neg g3]
        unfold F_VR_chosen_J120
        exact T_VR_ch121 ⟨by omega, by omega⟩
    ·
      rw [if_neg g2]
      have g2i : t0_2.toInt ≤ lx44.toInt := q_nltI g2
      (unfold Q_VR_ch; dsimp only; intro z; exact absurd z (by decide))
theorem T_VR_chosen {x2 : Int32} {t0_0 : Int32} {t0_1 : Int32} {t0_2 : Int32} {t0_3 : Int32} {t0_4 : Int32} {t0_5 : Int32} {t0_6 : Int32} {t0_7 : Int32} {t0_8 : Int32} {t0_9 : Int32} {t0_10 : Int32} {t0_11 : Int32} {t0_12 : Int32} {t0_13 : Int32} {t0_14 : Int32} {t0_15 : Int32} {t0_16 : Int32} {t0_17 : Int32} {t0_18 : Int32} {t0_19 : Int32} {t0_20 : Int32} {t0_21 : Int32} {t1_0 : (Nat → Int32)} {t2_0 : (Nat → Int32)} {t3_0 : (Nat → Int64)} (hA2 : t0_2.toInt ≤ 9)  : Q_VR_ch (F_VR_chosen x2 t0_0 t0_1 t0_2 t0_3 t0_4 t0_5 t0_6 t0_7 t0_8 t0_9 t0_10 t0_11 t0_12 t0_13 t0_14 t0_15 t0_16 t0_17 t0_18 t0_19 t0_20 t0_21 t1_0 t2_0 t3_0) := by
  have e0 : (0 : Int32).toInt = 0 := rfl
  have e1 : (1 : Int32).toInt = 1 := rfl
  have eL0 : (0 : Int64).toInt = 0 := rfl
  have em : (-1 : Int32).toInt = -1 := rfl
  unfold F_VR_chosen
  by_cases g1 : ((F_VR_has (60 : Int32) t0_0 t0_1 t0_2 t0_3 t0_4 t0_5 t0_6 t0_7 t0_8 t0_9 t0_10 t0_11 t0_12 t0_13 t0_14 t0_15 t0_16 t0_17 t0_18 t0_19 t0_20 t0_21) : Int32) = (0 : Int32)
  ·
    rw [if_pos g1]
    by_cases g2 : t0_8 ≤ (0 : Int32)
    ·
      rw [if_pos g2]
      exact T_VR_ch58 hA2
    ·
      rw [if_neg g2]
      exact T_VR_ch58 hA2
  ·
    rw [if_neg g1]
    exact T_VR_ch58 hA2
def Q_VR_lk (c : Int32) (p : Int32 × Int32 × Int32 × Int32) : Prop := p.1.toInt ≤ 0 → ¬ vrS c = 37 → ¬ vrS c = 110 → 0 ≤ p.2.1.toInt ∧ p.2.1.toInt ≤ 8
theorem T_VR_lk100 {t0_0 : Int32} {t0_1 : Int32} {t0_2 : Int32} {t0_3 : Int32} {t0_4 : Int32} {t0_5 : Int32} {t0_6 : Int32} {t0_7 : Int32} {t0_8 : Int32} {t0_9 : Int32} {t0_10 : Int32} {t0_11 : Int32} {t0_12 : Int32} {t0_13 : Int32} {t0_14 : Int32} {t0_15 : Int32} {t0_16 : Int32} {t0_17 : Int32} {t0_18 : Int32} {t0_19 : Int32} {t0_20 : Int32} {t0_21 : Int32} {t1_0 : (Nat → Int32)} {t2_0 : (Nat → Int32)} {t3_0 : (Nat → Int64)} {a39 : Int32} (hA2 : t0_2.toInt ≤ 9) (ha : a39 = vrS t0_13) : Q_VR_lk t0_13 (F_VR_looked_J100 t0_0 t0_1 t0_2 t0_3 t0_4 t0_5 t0_6 t0_7 t0_8 t0_9 t0_10 t0_11 t0_12 t0_13 t0_14 t0_15 t0_16 t0_17 t0_18 t0_19 t0_20 t0_21 t1_0 t2_0 t3_0 a39) := by
  have e0 : (0 : Int32).toInt = 0 := rfl
  have e1 : (1 : Int32).toInt = 1 := rfl
  have eL0 : (0 : Int64).toInt = 0 := rfl
  have em : (-1 : Int32).toInt = -1 := rfl
  unfold F_VR_looked_J100
  by_cases g1 : (t0_9 &&& (((F_VR_allowed a39) : Int32) ^^^ (-1) : Int32) : Int32) = (0 : Int32)
  ·
    rw [if_pos g1]
    by_cases g2 : ((F_VR_has (45 : Int32) t0_0 t0_1 t0_2 t0_3 t0_4 t0_5 t0_6 t0_7 t0_8 t0_9 t0_10 t0_11 t0_12 t0_13 t0_14 t0_15 t0_16 t0_17 t0_18 t0_19 t0_20 t0_21) : Int32) = (0 : Int32)
    ·
      rw [if_pos g2]
      by_cases g3 : ((F_VR_has (48 : Int32) t0_0 t0_1 t0_2 t0_3 t0_4 t0_5 t0_6 t0_7 t0_8 t0_9 t0_10 t0_11 t0_12 t0_13 t0_14 t0_15 t0_16 t0_17 t0_18 t0_19 t0_20 t0_21) : Int32) = (0 : Int32)
      ·
        rw [if_pos g3]
        unfold F_VR_looked_J145
        rw [if_pos g2]
        unfold F_VR_looked_J163
        by_cases g4 : ((F_VR_has (43 : Int32) t0_0 t0_1 t0_2 t0_3 t0_4 t0_5 t0_6 t0_7 t0_8 t0_9 t0_10 t0_11 t0_12 t0_13 t0_14 t0_15 t0_16 t0_17 t0_18 t0_19 t0_20 t0_21) : Int32) = (0 : Int32)
        ·
          rw [if_pos g4]
          by_cases g5 : a39 = (37 : Int32)
          ·
            rw [if_pos g5]
            have y37 := g5
            (unfold Q_VR_lk; dsimp only; intro _ z1 z2; first | exact absurd (ha.symm.trans y37) z1 | exact absurd (vr_sm.symm.trans y110) z2)
          ·
            rw [if_neg g5]
            have h6 := T_VR_chosen (x2 := a39) (t0_0 := t0_0) (t0_1 := t0_1) (t0_2 := t0_2) (t0_3 := t0_3) (t0_4 := t0_4) (t0_5 := t0_5) (t0_6 := t0_6) (t0_7 := t0_7) (t0_8 := t0_8) (t0_9 := t0_9) (t0_10 := t0_10) (t0_11 := t0_11) (t0_12 := t0_12) (t0_13 := t0_13) (t0_14 := t0_14) (t0_15 := t0_15) (t0_16 := t0_16) (t0_17 := t0_17) (t0_18 := t0_18) (t0_19 := t0_19) (t0_20 := t0_20) (t0_21 := t0_21) (t1_0 := t1_0) (t2_0 := t2_0) (t3_0 := t3_0) hA2
            generalize F_VR_chosen a39 t0_0 t0_1 t0_2 t0_3 t0_4 t0_5 t0_6 t0_7 t0_8 t0_9 t0_10 t0_11 t0_12 t0_13 t0_14 t0_15 t0_16 t0_17 t0_18 t0_19 t0_20 t0_21 t1_0 t2_0 t3_0 = p134 at *
            have hp134 := h6
            unfold F_VR_looked_c196
            exact fun z _ _ => (hp134 : Q_VR_ch p134) z
        ·
          rw [if_neg g4]
          by_cases g7 : ((F_VR_has (32 : Int32) t0_0 t0_1 t0_2 t0_3 t0_4 t0_5 t0_6 t0_7 t0_8 t0_9 t0_10 t0_11 t0_12 t0_13 t0_14 t0_15 t0_16 t0_17 t0_18 t0_19 t0_20 t0_21) : Int32) = (0 : Int32)
          ·
            rw [if_pos g7]
            by_cases g8 : a39 = (37 : Int32)
            ·
              rw [if_pos g8]
              have y37 := g8
              (unfold Q_VR_lk; dsimp only; intro _ z1 z2; first | exact absurd (ha.symm.trans y37) z1 | exact absurd (vr_sm.symm.trans y110) z2)
            ·
              rw [if_neg g8]
              have h9 := T_VR_chosen (x2 := a39) (t0_0 := t0_0) (t0_1 := t0_1) (t0_2 := t0_2) (t0_3 := t0_3) (t0_4 := t0_4) (t0_5 := t0_5) (t0_6 := t0_6) (t0_7 := t0_7) (t0_8 := t0_8) (t0_9 := t0_9) (t0_10 := t0_10) (t0_11 := t0_11) (t0_12 := t0_12) (t0_13 := t0_13) (t0_14 := t0_14) (t0_15 := t0_15) (t0_16 := t0_16) (t0_17 := t0_17) (t0_18 := t0_18) (t0_19 := t0_19) (t0_20 := t0_20) (t0_21 := t0_21) (t1_0 := t1_0) (t2_0 := t2_0) (t3_0 := t3_0) hA2
              generalize F_VR_chosen a39 t0_0 t0_1 t0_2 t0_3 t0_4 t0_5 t0_6 t0_7 t0_8 t0_9 t0_10 t0_11 t0_12 t0_13 t0_14 t0_15 t0_16 t0_17 t0_18 t0_19 t0_20 t0_21 t1_0 t2_0 t3_0 = p170 at *
              have hp170 := h9
              unfold F_VR_looked_c196_5
              exact fun z _ _ => (hp170 : Q_VR_ch p170) z
          ·
            rw [if_neg g7]
            (unfold Q_VR_lk; dsimp only; intro z; exact absurd z (by decide))
      ·
        rw [if_neg g3]
        unfold F_VR_looked_J135
        by_cases g10 : (0 : Int32) ≤ t0_11
        ·
          rw [if_pos g10]
          unfold F_VR_looked_J145
          rw [if_pos g2]
          unfold F_VR_looked_J163
          by_cases g11 : ((F_VR_has (43 : Int32) t0_0 t0_1 t0_2 t0_3 t0_4 t0_5 t0_6 t0_7 t0_8 t0_9 t0_10 t0_11 t0_12 t0_13 t0_14 t0_15 t0_16 t0_17 t0_18 t0_19 t0_20 t0_21) : Int32) = (0 : Int32)
          ·
            rw [if_pos g11]
            by_cases g12 : a39 = (37 : Int32)
            ·
              rw [if_pos g12]
              have y37 := g12
              (unfold Q_VR_lk; dsimp only; intro _ z1 z2; first | exact absurd (ha.symm.trans y37) z1 | exact absurd (vr_sm.symm.trans y110) z2)
            ·
              rw [if_neg g12]
              have h13 := T_VR_chosen (x2 := a39) (t0_0 := t0_0) (t0_1 := t0_1) (t0_2 := t0_2) (t0_3 := t0_3) (t0_4 := t0_4) (t0_5 := t0_5) (t0_6 := t0_6) (t0_7 := t0_7) (t0_8 := t0_8) (t0_9 := t0_9) (t0_10 := t0_10) (t0_11 := t0_11) (t0_12 := t0_12) (t0_13 := t0_13) (t0_14 := t0_14) (t0_15 := t0_15) (t0_16 := t0_16) (t0_17 := t0_17) (t0_18 := t0_18) (t0_19 := t0_19) (t0_20 := t0_20) (t0_21 := t0_21) (t1_0 := t1_0) (t2_0 := t2_0) (t3_0 := t3_0) hA2
              generalize F_VR_chosen a39 t0_0 t0_1 t0_2 t0_3 t0_4 t0_5 t0_6 t0_7 t0_8 t0_9 t0_10 t0_11 t0_12 t0_13 t0_14 t0_15 t0_16 t0_17 t0_18 t0_19 t0_20 t0_21 t1_0 t2_0 t3_0 = p134 at *
              have hp134 := h13
              unfold F_VR_looked_c196
              exact fun z _ _ => (hp134 : Q_VR_ch p134) z
          ·
            rw [if_neg g11]
            by_cases g14 : ((F_VR_has (32 : Int32) t0_0 t0_1 t0_2 t0_3 t0_4 t0_5 t0_6 t0_7 t0_8 t0_9 t0_10 t0_11 t0_12 t0_13 t0_14 t0_15 t0_16 t0_17 t0_18 t0_19 t0_20 t0_21) : Int32) = (0 : Int32)
            ·
              rw [if_pos g14]
              by_cases g15 : a39 = (37 : Int32)
              ·
                rw [if_pos g15]
                have y37 := g15
                (unfold Q_VR_lk; dsimp only; intro _ z1 z2; first | exact absurd (ha.symm.trans y37) z1 | exact absurd (vr_sm.symm.trans y110) z2)
              ·
                rw [if_neg g15]
                have h16 := T_VR_chosen (x2 := a39) (t0_0 := t0_0) (t0_1 := t0_1) (t0_2 := t0_2) (t0_3 := t0_3) (t0_4 := t0_4) (t0_5 := t0_5) (t0_6 := t0_6) (t0_7 := t0_7) (t0_8 := t0_8) (t0_9 := t0_9) (t0_10 := t0_10) (t0_11 := t0_11) (t0_12 := t0_12) (t0_13 := t0_13) (t0_14 := t0_14) (t0_15 := t0_15) (t0_16 := t0_16) (t0_17 := t0_17) (t0_18 := t0_18) (t0_19 := t0_19) (t0_20 := t0_20) (t0_21 := t0_21) (t1_0 := t1_0) (t2_0 := t2_0) (t3_0 := t3_0) hA2
                generalize F_VR_chosen a39 t0_0 t0_1 t0_2 t0_3 t0_4 t0_5 t0_6 t0_7 t0_8 t0_9 t0_10 t0_11 t0_12 t0_13 t0_14 t0_15 t0_16 t0_17 t0_18 t0_19 t0_20 t0_21 t1_0 t2_0 t3_0 = p170 at *
                have hp170 := h16
                unfold F_VR_looked_c196_5
                exact fun z _ _ => (hp170 : Q_VR_ch p170) z
            ·
              rw [if_neg g14]
              (unfold Q_VR_lk; dsimp only; intro z; exact absurd z (by decide))
        ·
          rw [if_neg g10]
          (unfold Q_VR_lk; dsimp only; intro z; exact absurd z (by decide))
    ·
      rw [if_neg g2]
      unfold F_VR_looked_J135
      by_cases g17 : (0 : Int32) ≤ t0_11
      ·
        rw [if_pos g17]
        unfold F_VR_looked_J145
        rw [if_neg g2]
        by_cases g18 : ((F_VR_has (48 : Int32) t0_0 t0_1 t0_2 t0_3 t0_4 t0_5 t0_6 t0_7 t0_8 t0_9 t0_10 t0_11 t0_12 t0_13 t0_14 t0_15 t0_16 t0_17 t0_18 t0_19 t0_20 t0_21) : Int32) = (0 : Int32)
        ·
          rw [if_pos g18]
          unfold F_VR_looked_J163
          by_cases g19 : ((F_VR_has (43 : Int32) t0_0 t0_1 t0_2 t0_3 t0_4 t0_5 t0_6 t0_7 t0_8 t0_9 t0_10 t0_11 t0_12 t0_13 t0_14 t0_15 t0_16 t0_17 t0_18 t0_19 t0_20 t0_21) : Int32) = (0 : Int32)
          ·
            rw [if_pos g19]
            by_cases g20 : a39 = (37 : Int32)
            ·
              rw [if_pos g20]
              have y37 := g20
              (unfold Q_VR_lk; dsimp only; intro _ z1 z2; first | exact absurd (ha.symm.trans y37) z1 | exact absurd (vr_sm.symm.trans y110) z2)
            ·
              rw [if_neg g20]
              have h21 := T_VR_chosen (x2 := a39) (t0_0 := t0_0) (t0_1 := t0_1) (t0_2 := t0_2) (t0_3 := t0_3) (t0_4 := t0_4) (t0_5 := t0_5) (t0_6 := t0_6) (t0_7 := t0_7) (t0_8 := t0_8) (t0_9 := t0_9) (t0_10 := t0_10) (t0_11 := t0_11) (t0_12 := t0_12) (t0_13 := t0_13) (t0_14 := t0_14) (t0_15 := t0_15) (t0_16 := t0_16) (t0_17 := t0_17) (t0_18 := t0_18) (t0_19 := t0_19) (t0_20 := t0_20) (t0_21 := t0_21) (t1_0 := t1_0) (t2_0 := t2_0) (t3_0 := t3_0) hA2
              generalize F_VR_chosen a39 t0_0 t0_1 t0_2 t0_3 t0_4 t0_5 t0_6 t0_7 t0_8 t0_9 t0_10 t0_11 t0_12 t0_13 t0_14 t0_15 t0_16 t0_17 t0_18 t0_19 t0_20 t0_21 t1_0 t2_0 t3_0 = p134 at *
              have hp134 := h21
              unfold F_VR_looked_c196
              exact fun z _ _ => (hp134 : Q_VR_ch p134) z
          ·
            rw [if_neg g19]
            by_cases g22 : ((F_VR_has (32 : Int32) t0_0 t0_1 t0_2 t0_3 t0_4 t0_5 t0_6 t0_7 t0_8 t0_9 t0_10 t0_11 t0_12 t0_13 t0_14 t0_15 t0_16 t0_17 t0_18 t0_19 t0_20 t0_21) : Int32) = (0 : Int32)
            ·
              rw [if_pos g22]
              by_cases g23 : a39 = (37 : Int32)
              ·
                rw [if_pos g23]
                have y37 := g23
                (unfold Q_VR_lk; dsimp only; intro _ z1 z2; first | exact absurd (ha.symm.trans y37) z1 | exact absurd (vr_sm.symm.trans y110) z2)
              ·
                rw [if_neg g23]
                have h24 := T_VR_chosen (x2 := a39) (t0_0 := t0_0) (t0_1 := t0_1) (t0_2 := t0_2) (t0_3 := t0_3) (t0_4 := t0_4) (t0_5 := t0_5) (t0_6 := t0_6) (t0_7 := t0_7) (t0_8 := t0_8) (t0_9 := t0_9) (t0_10 := t0_10) (t0_11 := t0_11) (t0_12 := t0_12) (t0_13 := t0_13) (t0_14 := t0_14) (t0_15 := t0_15) (t0_16 := t0_16) (t0_17 := t0_17) (t0_18 := t0_18) (t0_19 := t0_19) (t0_20 := t0_20) (t0_21 := t0_21) (t1_0 := t1_0) (t2_0 := t2_0) (t3_0 := t3_0) hA2
                generalize F_VR_chosen a39 t0_0 t0_1 t0_2 t0_3 t0_4 t0_5 t0_6 t0_7 t0_8 t0_9 t0_10 t0_11 t0_12 t0_13 t0_14 t0_15 t0_16 t0_17 t0_18 t0_19 t0_20 t0_21 t1_0 t2_0 t3_0 = p170 at *
                have hp170 := h24
                unfold F_VR_looked_c196_5
                exact fun z _ _ => (hp170 : Q_VR_ch p170) z
            ·
              rw [if_neg g22]
              (unfold Q_VR_lk; dsimp only; intro z; exact absurd z (by decide))
        ·
          rw [if_neg g18]
          (unfold Q_VR_lk; dsimp only; intro z; exact absurd z (by decide))
      ·
        rw [if_neg g17]
        (unfold Q_VR_lk; dsimp only; intro z; exact absurd z (by decide))
  ·
    rw [if_neg g1]
    (unfold Q_VR_lk; dsimp only; intro z; exact absurd z (by decide))
theorem T_VR_looked {t0_0 : Int32} {t0_1 : Int32} {t0_2 : Int32} {t0_3 : Int32} {t0_4 : Int32} {t0_5 : Int32} {t0_6 : Int32} {t0_7 : Int32} {t0_8 : Int32} {t0_9 : Int32} {t0_10 : Int32} {t0_11 : Int32} {t0_12 : Int32} {t0_13 : Int32} {t0_14 : Int32} {t0_15 : Int32} {t0_16 : Int32} {t0_17 : Int32} {t0_18 : Int32} {t0_19 : Int32} {t0_20 : Int32} {t0_21 : Int32} {t1_0 : (Nat → Int32)} {t2_0 : (Nat → Int32)} {t3_0 : (Nat → Int64)} (hA2 : t0_2.toInt ≤ 9)  : Q_VR_lk t0_13 (F_VR_looked t0_0 t0_1 t0_2 t0_3 t0_4 t0_5 t0_6 t0_7 t0_8 t0_9 t0_10 t0_11 t0_12 t0_13 t0_14 t0_15 t0_16 t0_17 t0_18 t0_19 t0_20 t0_21 t1_0 t2_0 t3_0) := by
  have e0 : (0 : Int32).toInt = 0 := rfl
  have e1 : (1 : Int32).toInt = 1 := rfl
  have eL0 : (0 : Int64).toInt = 0 := rfl
  have em : (-1 : Int32).toInt = -1 := rfl
  unfold F_VR_looked
  by_cases g1 : t0_13 < (0 : Int32)
  ·
    rw [if_pos g1]
    (unfold Q_VR_lk; dsimp only; intro z; exact absurd z (by decide))
  ·
    rw [if_neg g1]
    by_cases g2 : ((F_VR_small t0_0 t0_1 t0_2 t0_3 t0_4 t0_5 t0_6 t0_7 t0_8 t0_9 t0_10 t0_11 t0_12 t0_13 t0_14 t0_15 t0_16 t0_17 t0_18 t0_19 t0_20 t0_21) : Int32) = (0 : Int32)
    ·
      rw [if_pos g2]
      (unfold Q_VR_lk; dsimp only; intro z; exact absurd z (by decide))
    ·
      rw [if_neg g2]
      by_cases g3 : t0_10 = (0 : Int32)
      ·
        rw [if_pos g3]
        by_cases g4 : ((F_VR_small t0_0 t0_1 t0_2 t0_3 t0_4 t0_5 t0_6 t0_7 t0_8 t0_9 t0_10 t0_11 t0_12 t0_13 t0_14 t0_15 t0_16 t0_17 t0_18 t0_19 t0_20 t0_21) : Int32) = (110 : Int32)
        ·
          rw [if_pos g4]
          have y110 := g4
          by_cases g5 : (0 : Int32) ≤ t0_11
          ·
            rw [if_pos g5]
            (unfold Q_VR_lk; dsimp only; intro z; exact absurd z (by decide))
          ·
            rw [if_neg g5]
            by_cases g6 : (0 : Int32) ≤ t0_12
            ·
              rw [if_pos g6]
              (unfold Q_VR_lk; dsimp only; intro z; exact absurd z (by decide))
            ·
              rw [if_neg g6]
              by_cases g7 : t0_9 = (0 : Int32)
              ·
                rw [if_pos g7]
                (unfold Q_VR_lk; dsimp only; intro _ z1 z2; first | exact absurd (ha.symm.trans y37) z1 | exact absurd (vr_sm.symm.trans y110) z2)
              ·
                rw [if_neg g7]
                (unfold Q_VR_lk; dsimp only; intro z; exact absurd z (by decide))
        ·
          rw [if_neg g4]
          by_cases g8 : t0_12 < (0 : Int32)
          ·
            rw [if_pos g8]
            exact T_VR_lk100 hA2 vr_sm
          ·
            rw [if_neg g8]
            by_cases g9 : ((F_VR_small t0_0 t0_1 t0_2 t0_3 t0_4 t0_5 t0_6 t0_7 t0_8 t0_9 t0_10 t0_11 t0_12 t0_13 t0_14 t0_15 t0_16 t0_17 t0_18 t0_19 t0_20 t0_21) : Int32) = (99 : Int32)
            ·
              rw [if_pos g9]
              (unfold Q_VR_lk; dsimp only; intro z; exact absurd z (by decide))
            ·
              rw [if_neg g9]
              by_cases g10 : ((F_VR_small t0_0 t0_1 t0_2 t0_3 t0_4 t0_5 t0_6 t0_7 t0_8 t0_9 t0_10 t0_11 t0_12 t0_13 t0_14 t0_15 t0_16 t0_17 t0_18 t0_19 t0_20 t0_21) : Int32) = (37 : Int32)
              ·
                rw [if_pos g10]
                (unfold Q_VR_lk; dsimp only; intro z; exact absurd z (by decide))
              ·
                rw [if_neg g10]
                by_cases g11 : ((F_VR_isNumeric ((F_VR_small t0_0 t0_1 t0_2 t0_3 t0_4 t0_5 t0_6 t0_7 t0_8 t0_9 t0_10 t0_11 t0_12 t0_13 t0_14 t0_15 t0_16 t0_17 t0_18 t0_19 t0_20 t0_21) : Int32) t0_0 t0_1 t0_2 t0_3 t0_4 t0_5 t0_6 t0_7 t0_8 t0_9 t0_10 t0_11 t0_12 t0_13 t0_14 t0_15 t0_16 t0_17 t0_18 t0_19 t0_20 t0_21) : Int32) = (0 : Int32)
                ·
                  rw [if_pos g11]
                  exact T_VR_lk100 hA2 vr_sm
                ·
                  rw [if_neg g11]
                  (unfold Q_VR_lk; dsimp only; intro z; exact absurd z (by decide))
      ·
        rw [if_neg g3]
        (unfold Q_VR_lk; dsimp only; intro z; exact absurd z (by decide))

/-! DirectiveRows: run, print, text and the other arguments -/
def Q_VR_run (p : Int32 × Int32 × Int32 × Int32 × Int32 × Int32 × Int32 × Int32 × Int32 × Int32 × Int32 × Int32 × Int32 × Int32 × Int32 × Int32 × Int32 × Int32 × (Nat → Int32) × (Nat → Int32) × (Nat → Int32)) : Prop := 0 ≤ p.2.1.toInt ∧ p.2.1.toInt ≤ 4096
theorem vv_r2 {K_F_VR_run_L27 : Int32 → Int32 → Int32 → Int32 → Int32 → Int32 → Int32 → Int32 → Int32 → Int32 → Int32 → Int32 → Int32 → Int32 → Int32 → Int32 → (Nat → Int32) → (Nat → Int32) → Int32 → (Nat → Int32) → (Int32 × Int32 × Int32 × Int32 × Int32 × Int32 × Int32 × Int32 × Int32 × Int32 × Int32 × Int32 × Int32 × Int32 × Int32 × Int32 × Int32 × Int32 × (Nat → Int32) × (Nat → Int32) × (Nat → Int32))} {t0_0 : Int32} {t0_1 : Int32} {t0_2 : Int32} {t0_3 : Int32} {t0_4 : Int32} {t0_5 : Int32} {t0_6 : Int32} {t0_7 : Int32} {t0_8 : Int32} {t0_9 : Int32} {t0_10 : Int32} {t0_11 : Int32} {t0_12 : Int32} {t0_13 : Int32} {t0_14 : Int32} {t0_15 : Int32} {t0_16 : Int32} {t0_17 : Int32} {t0_18 : Int32} {t0_19 : Int32} {t0_20 : Int32} {t0_21 : Int32} {t1_0 : (Nat → Int32)} {t2_0 : (Nat → Int32)} {t3_0 : (Nat → Int32)} {t4_0 : (Nat → Int64)} {t5_0 : (Nat → Int32)} {t6_0 : (Nat → Int32)} {t7_0 : (Nat → Int32)} {t8_0 : (Nat → Int32)} {lx62 : Int32} {lx63 : Int32} {lx64 : Int32} {lx65 : Int32} {lx66 : Int32} {lx67 : Int32} {lx68 : Int32} {lx69 : Int32} {lx70 : Int32} {lx71 : Int32} {lx72 : Int32} {lx73 : Int32} {lx74 : Int32} {lx75 : Int32} {lx76 : Int32} {lx77 : Int32} {lx78 : (Nat → Int32)} {lx79 : (Nat → Int32)} {lx80 : Int32} {lx81 : (Nat → Int32)} {lx114 : Int32} {lx115 : Int32} {lx116 : Int32} {lx117 : Int32} {lx118 : Int32} {lx119 : Int32} {lx120 : Int32} {lx121 : Int32} {lx122 : Int32} {lx123 : Int32} {lx124 : Int32} {lx125 : Int32} {lx126 : Int32} {lx127 : Int32} {lx128 : Int32} {lx129 : Int32} {lx130 : (Nat → Int32)} {lx131 : (Nat → Int32)} {K_S_VR_run_L27 : Int32 → Int32 → Int32 → Int32 → Int32 → Int32 → Int32 → Int32 → Int32 → Int32 → Int32 → Int32 → Int32 → Int32 → Int32 → Int32 → (Nat → Int32) → (Nat → Int32) → Int32 → (Nat → Int32) → Prop} (hK : ∀ (d : Int32) (f : Nat → Int32), 0 ≤ d.toInt ∧ d.toInt ≤ 4096 → K_S_VR_run_L27 lx114 lx115 lx116 lx117 lx118 lx119 lx120 lx121 lx122 lx123 lx124 lx125 lx126 lx127 lx128 lx129 lx130 lx131 d f ∧ Q_VR_run (K_F_VR_run_L27 lx114 lx115 lx116 lx117 lx118 lx119 lx120 lx121 lx122 lx123 lx124 lx125 lx126 lx127 lx128 lx129 lx130 lx131 d f)) (hA80 : 0 ≤ lx80.toInt ∧ lx80.toInt ≤ 4096) (hA125 : 0 ≤ lx125.toInt ∧ lx125.toInt ≤ 10400) (hA4 : lx80.toInt + lx125.toInt ≤ 4096)  : ∀ (n : Nat) (lx159 : Int32) (lx160 : Int32) (lx161 : (Nat → Int32)), (0 ≤ lx159.toInt ∧ lx159.toInt ≤ lx125.toInt) → (lx160.toInt = lx80.toInt + lx159.toInt) → (4096 - lx159.toInt < (n : Int)) → (S_VR_run_L145 K_S_VR_run_L27 t0_0 t0_1 t0_2 t0_3 t0_4 t0_5 t0_6 t0_7 t0_8 t0_9 t0_10 t0_11 t0_12 t0_13 t0_14 t0_15 t0_16 t0_17 t0_18 t0_19 t0_20 t0_21 t1_0 t2_0 t3_0 t4_0 t5_0 t6_0 t7_0 t8_0 lx62 lx63 lx64 lx65 lx66 lx67 lx68 lx69 lx70 lx71 lx72 lx73 lx74 lx75 lx76 lx77 lx78 lx79 lx80 lx81 lx114 lx115 lx116 lx117 lx118 lx119 lx120 lx121 lx122 lx123 lx124 lx125 lx126 lx127 lx128 lx129 lx130 lx131 n lx159 lx160 lx161) ∧ Q_VR_run (F_VR_run_L145 K_F_VR_run_L27 t0_0 t0_1 t0_2 t0_3 t0_4 t0_5 t0_6 t0_7 t0_8 t0_9 t0_10 t0_11 t0_12 t0_13 t0_14 t0_15 t0_16 t0_17 t0_18 t0_19 t0_20 t0_21 t1_0 t2_0 t3_0 t4_0 t5_0 t6_0 t7_0 t8_0 lx62 lx63 lx64 lx65 lx66 lx67 lx68 lx69 lx70 lx71 lx72 lx73 lx74 lx75 lx76 lx77 lx78 lx79 lx80 lx81 lx114 lx115 lx116 lx117 lx118 lx119 lx120 lx121 lx122 lx123 lx124 lx125 lx126 lx127 lx128 lx129 lx130 lx131 n lx159 lx160 lx161) := by
  intro n
  induction n with
  | zero => intro lx159 lx160 lx161 hA0 hs hm; exact absurd (show False by omega) id
  | succ n ih =>
    intro lx159 lx160 lx161 hA0 hs hm
    have e0 : (0 : Int32).toInt = 0 := rfl
    have e1 : (1 : Int32).toInt = 1 := rfl
    have eL0 : (0 : Int64).toInt = 0 := rfl
    have em : (-1 : Int32).toInt = -1 := rfl
    rw [S_VR_run_L145.eq_2, F_VR_run_L145.eq_2]
    by_cases g1 : lx125 ≤ lx159
    ·
      rw [if_pos g1, if_pos g1]
      have g1i : lx125.toInt ≤ lx159.toInt := q_leI g1
      exact hK _ _ ⟨by omega, by omega⟩
    ·
      rw [if_neg g1, if_neg g1]
      have g1i : lx159.toInt < lx125.toInt := q_nleI g1
      refine v_cons (by first | omega | decide) ?_
      obtain ⟨a2, e3⟩ := q_nm (lx159 + 1 : Int32)
      rw [e3]
      have a2i : a2.toInt = lx159.toInt + 1 := by rw [← e3]; exact q_addI (x := lx159.toInt) (y := 1) rfl (by decide) (by omega) (by omega)
      obtain ⟨a4, e5⟩ := q_nm (lx160 + 1 : Int32)
      rw [e5]
      have a4i : a4.toInt = lx160.toInt + 1 := by rw [← e5]; exact q_addI (x := lx160.toInt) (y := 1) rfl (by decide) (by omega) (by omega)
      exact ih _ _ _ ⟨by omega, by omega⟩ (by omega) (by omega)
theorem T_VR_r120 {K_F_VR_run_L27 : Int32 → Int32 → Int32 → Int32 → Int32 → Int32 → Int32 → Int32 → Int32 → Int32 → Int32 → Int32 → Int32 → Int32 → Int32 → Int32 → (Nat → Int32) → (Nat → Int32) → Int32 → (Nat → Int32) → (Int32 × Int32 × Int32 × Int32 × Int32 × Int32 × Int32 × Int32 × Int32 × Int32 × Int32 × Int32 × Int32 × Int32 × Int32 × Int32 × Int32 × Int32 × (Nat → Int32) × (Nat → Int32) × (Nat → Int32))} {t0_0 : Int32} {t0_1 : Int32} {t0_2 : Int32} {t0_3 : Int32} {t0_4 : Int32} {t0_5 : Int32} {t0_6 : Int32} {t0_7 : Int32} {t0_8 : Int32} {t0_9 : Int32} {t0_10 : Int32} {t0_11 : Int32} {t0_12 : Int32} {t0_13 : Int32} {t0_14 : Int32} {t0_15 : Int32} {t0_16 : Int32} {t0_17 : Int32} {t0_18 : Int32} {t0_19 : Int32} {t0_20 : Int32} {t0_21 : Int32} {t1_0 : (Nat → Int32)} {t2_0 : (Nat → Int32)} {t3_0 : (Nat → Int32)} {t4_0 : (Nat → Int64)} {t5_0 : (Nat → Int32)} {t6_0 : (Nat → Int32)} {t7_0 : (Nat → Int32)} {t8_0 : (Nat → Int32)} {lx62 : Int32} {lx63 : Int32} {lx64 : Int32} {lx65 : Int32} {lx66 : Int32} {lx67 : Int32} {lx68 : Int32} {lx69 : Int32} {lx70 : Int32} {lx71 : Int32} {lx72 : Int32} {lx73 : Int32} {lx74 : Int32} {lx75 : Int32} {lx76 : Int32} {lx77 : Int32} {lx78 : (Nat → Int32)} {lx79 : (Nat → Int32)} {lx80 : Int32} {lx81 : (Nat → Int32)} {lx114 : Int32} {lx115 : Int32} {lx116 : Int32} {lx117 : Int32} {lx118 : Int32} {lx119 : Int32} {lx120 : Int32} {lx121 : Int32} {lx122 : Int32} {lx123 : Int32} {lx124 : Int32} {lx125 : Int32} {lx126 : Int32} {lx127 : Int32} {lx128 : Int32} {lx129 : Int32} {lx130 : (Nat → Int32)} {lx131 : (Nat → Int32)} {K_S_VR_run_L27 : Int32 → Int32 → Int32 → Int32 → Int32 → Int32 → Int32 → Int32 → Int32 → Int32 → Int32 → Int32 → Int32 → Int32 → Int32 → Int32 → (Nat → Int32) → (Nat → Int32) → Int32 → (Nat → Int32) → Prop} (hK : ∀ (d : Int32) (f : Nat → Int32), 0 ≤ d.toInt ∧ d.toInt ≤ 4096 → K_S_VR_run_L27 lx114 lx115 lx116 lx117 lx118 lx119 lx120 lx121 lx122 lx123 lx124 lx125 lx126 lx127 lx128 lx129 lx130 lx131 d f ∧ Q_VR_run (K_F_VR_run_L27 lx114 lx115 lx116 lx117 lx118 lx119 lx120 lx121 lx122 lx123 lx124 lx125 lx126 lx127 lx128 lx129 lx130 lx131 d f)) (hA80 : 0 ≤ lx80.toInt ∧ lx80.toInt ≤ 4096) (hA125 : 0 ≤ lx125.toInt ∧ lx125.toInt ≤ 10400)  : (S_VR_run_J120 K_S_VR_run_L27 t0_0 t0_1 t0_2 t0_3 t0_4 t0_5 t0_6 t0_7 t0_8 t0_9 t0_10 t0_11 t0_12 t0_13 t0_14 t0_15 t0_16 t0_17 t0_18 t0_19 t0_20 t0_21 t1_0 t2_0 t3_0 t4_0 t5_0 t6_0 t7_0 t8_0 lx62 lx63 lx64 lx65 lx66 lx67 lx68 lx69 lx70 lx71 lx72 lx73 lx74 lx75 lx76 lx77 lx78 lx79 lx80 lx81 lx114 lx115 lx116 lx117 lx118 lx119 lx120 lx121 lx122 lx123 lx124 lx125 lx126 lx127 lx128 lx129 lx130 lx131) ∧ Q_VR_run (F_VR_run_J120 K_F_VR_run_L27 t0_0 t0_1 t0_2 t0_3 t0_4 t0_5 t0_6 t0_7 t0_8 t0_9 t0_10 t0_11 t0_12 t0_13 t0_14 t0_15 t0_16 t0_17 t0_18 t0_19 t0_20 t0_21 t1_0 t2_0 t3_0 t4_0 t5_0 t6_0 t7_0 t8_0 lx62 lx63 lx64 lx65 lx66 lx67 lx68 lx69 lx70 lx71 lx72 lx73 lx74 lx75 lx76 lx77 lx78 lx79 lx80 lx81 lx114 lx115 lx116 lx117 lx118 lx119 lx120 lx121 lx122 lx123 lx124 lx125 lx126 lx127 lx128 lx129 lx130 lx131) := by
  have e0 : (0 : Int32).toInt = 0 := rfl
  have e1 : (1 : Int32).toInt = 1 := rfl
  have eL0 : (0 : Int64).toInt = 0 := rfl
  have em : (-1 : Int32).toInt = -1 := rfl
  unfold S_VR_run_J120 F_VR_run_J120
  obtain ⟨a1, e2⟩ := q_nm (lx80 + lx125 : Int32)
  rw [e2]
  have a1i : a1.toInt = lx80.toInt + lx125.toInt := by rw [← e2]; exact q_addI (x := lx80.toInt) (y := lx125.toInt) rfl rfl (by omega) (by omega)
  by_cases g3 : a1 ≤ (4096 : Int32)
  ·
    rw [if_pos g3, if_pos g3]
    have g3i : a1.toInt ≤ 4096 := q_leI g3
    exact vv_r2 hK hA80 hA125 (by omega) _ _ _ _ ⟨by decide, by omega⟩ (by omega) (by omega)
  ·
    rw [if_neg g3, if_neg g3]
    have g3i : 4096 < a1.toInt := q_nleI g3
    refine ⟨trivial, ?_⟩
    (unfold Q_VR_run; dsimp only; exact ⟨by omega, by omega⟩)
theorem vv_r1 {t0_0 : Int32} {t0_1 : Int32} {t0_2 : Int32} {t0_3 : Int32} {t0_4 : Int32} {t0_5 : Int32} {t0_6 : Int32} {t0_7 : Int32} {t0_8 : Int32} {t0_9 : Int32} {t0_10 : Int32} {t0_11 : Int32} {t0_12 : Int32} {t0_13 : Int32} {t0_14 : Int32} {t0_15 : Int32} {t0_16 : Int32} {t0_17 : Int32} {t0_18 : Int32} {t0_19 : Int32} {t0_20 : Int32} {t0_21 : Int32} {t1_0 : (Nat → Int32)} {t2_0 : (Nat → Int32)} {t3_0 : (Nat → Int32)} {t4_0 : (Nat → Int64)} {t5_0 : (Nat → Int32)} {t6_0 : (Nat → Int32)} {t7_0 : (Nat → Int32)} {t8_0 : (Nat → Int32)} (hZ : ∀ i, i < 9 → 0 ≤ (t3_0 i).toInt ∧ (t3_0 i).toInt ≤ 64) (hA1 : t0_1.toInt ≤ 256) (hA2 : t0_2.toInt ≤ 9)  : ∀ (n : Nat) (lx62 : Int32) (lx63 : Int32) (lx64 : Int32) (lx65 : Int32) (lx66 : Int32) (lx67 : Int32) (lx68 : Int32) (lx69 : Int32) (lx70 : Int32) (lx71 : Int32) (lx72 : Int32) (lx73 : Int32) (lx74 : Int32) (lx75 : Int32) (lx76 : Int32) (lx77 : Int32) (lx78 : (Nat → Int32)) (lx79 : (Nat → Int32)) (lx80 : Int32) (lx81 : (Nat → Int32)), (0 ≤ lx63.toInt ∧ lx63.toInt ≤ 256) → (0 ≤ lx80.toInt ∧ lx80.toInt ≤ 4096) → (256 - lx63.toInt < (n : Int)) → (S_VR_run_L27 t0_0 t0_1 t0_2 t0_3 t0_4 t0_5 t0_6 t0_7 t0_8 t0_9 t0_10 t0_11 t0_12 t0_13 t0_14 t0_15 t0_16 t0_17 t0_18 t0_19 t0_20 t0_21 t1_0 t2_0 t3_0 t4_0 t5_0 t6_0 t7_0 t8_0 n lx62 lx63 lx64 lx65 lx66 lx67 lx68 lx69 lx70 lx71 lx72 lx73 lx74 lx75 lx76 lx77 lx78 lx79 lx80 lx81) ∧ Q_VR_run (F_VR_run_L27 t0_0 t0_1 t0_2 t0_3 t0_4 t0_5 t0_6 t0_7 t0_8 t0_9 t0_10 t0_11 t0_12 t0_13 t0_14 t0_15 t0_16 t0_17 t0_18 t0_19 t0_20 t0_21 t1_0 t2_0 t3_0 t4_0 t5_0 t6_0 t7_0 t8_0 n lx62 lx63 lx64 lx65 lx66 lx67 lx68 lx69 lx70 lx71 lx72 lx73 lx74 lx75 lx76 lx77 lx78 lx79 lx80 lx81) := by
  intro n
  induction n with
  | zero => intro lx62 lx63 lx64 lx65 lx66 lx67 lx68 lx69 lx70 lx71 lx72 lx73 lx74 lx75 lx76 lx77 lx78 lx79 lx80 lx81 hA0 hA80 hm; exact absurd (show False by omega) id
  | succ n ih =>
    intro lx62 lx63 lx64 lx65 lx66 lx67 lx68 lx69 lx70 lx71 lx72 lx73 lx74 lx75 lx76 lx77 lx78 lx79 lx80 lx81 hA0 hA80 hm
    have e0 : (0 : Int32).toInt = 0 := rfl
    have e1 : (1 : Int32).toInt = 1 := rfl
    have eL0 : (0 : Int64).toInt = 0 := rfl
    have em : (-1 : Int32).toInt = -1 := rfl
    rw [S_VR_run_L27.eq_2, F_VR_run_L27.eq_2]
    by_cases g1 : t0_1 ≤ lx63
    ·
      rw [if_pos g1, if_pos g1]
      have g1i : t0_1.toInt ≤ lx63.toInt := q_leI g1
      refine ⟨trivial, ?_⟩
      (unfold Q_VR_run; dsimp only; exact ⟨by omega, by omega⟩)
    ·
      rw [if_neg g1, if_neg g1]
      have g1i : lx63.toInt < t0_1.toInt := q_nleI g1
      have h2 := T_VR_here (t0_0 := t0_0) (t0_1 := t0_1) (t0_2 := t0_2) (t0_3 := t0_3) (t0_4 := lx80) (t0_5 := lx62) (t0_6 := t0_6) (t0_7 := lx63) (t0_8 := lx64) (t0_9 := lx65) (t0_10 := lx66) (t0_11 := lx67) (t0_12 := lx68) (t0_13 := lx69) (t0_14 := lx70) (t0_15 := lx71) (t0_16 := lx72) (t0_17 := lx73) (t0_18 := lx74) (t0_19 := lx75) (t0_20 := lx76) (t0_21 := lx77) (t1_0 := t1_0) (by omega)
      with_reducible refine v_owe h2 ?_
      by_cases g3 : ((F_VR_here t0_0 t0_1 t0_2 t0_3 lx80 lx62 t0_6 lx63 lx64 lx65 lx66 lx67 lx68 lx69 lx70 lx71 lx72 lx73 lx74 lx75 lx76 lx77 t1_0) : Int32) = (37 : Int32)
      ·
        rw [if_pos g3, if_pos g3]
        obtain ⟨a4, e5⟩ := q_nm (lx63 + 1 : Int32)
        rw [e5]
        have a4i : a4.toInt = lx63.toInt + 1 := by rw [← e5]; exact q_addI (x := lx63.toInt) (y := 1) rfl (by decide) (by omega) (by omega)
        have h6 := T_VR_take (t0_0 := t0_0) (t0_1 := t0_1) (t0_2 := t0_2) (t0_3 := t0_3) (t0_4 := lx80) (t0_5 := lx62) (t0_6 := t0_6) (t0_7 := a4) (t0_8 := lx64) (t0_9 := lx65) (t0_10 := lx66) (t0_11 := lx67) (t0_12 := lx68) (t0_13 := lx69) (t0_14 := lx70) (t0_15 := lx71) (t0_16 := lx72) (t0_17 := lx73) (t0_18 := lx74) (t0_19 := lx75) (t0_20 := lx76) (t0_21 := lx77) (t1_0 := t1_0) hA1 ⟨by omega, by omega⟩
        with_reducible refine v_owe h6.1 ?_
        replace h6 := h6.2
        generalize F_VR_take t0_0 t0_1 t0_2 t0_3 lx80 lx62 t0_6 a4 lx64 lx65 lx66 lx67 lx68 lx69 lx70 lx71 lx72 lx73 lx74 lx75 lx76 lx77 t1_0 = p229 at *
        unfold Q_VR_take at h6
        unfold S_VR_run_c96 F_VR_run_c96
        have h7 := T_VR_looked (t0_0 := t0_0) (t0_1 := t0_1) (t0_2 := t0_2) (t0_3 := t0_3) (t0_4 := lx80) (t0_5 := lx62) (t0_6 := t0_6) (t0_7 := (p229.1 : Int32)) (t0_8 := (p229.2.1 : Int32)) (t0_9 := (p229.2.2.1 : Int32)) (t0_10 := (p229.2.2.2.1 : Int32)) (t0_11 := (p229.2.2.2.2.1 : Int32)) (t0_12 := (p229.2.2.2.2.2.1 : Int32)) (t0_13 := (p229.2.2.2.2.2.2 : Int32)) (t0_14 := lx70) (t0_15 := lx71) (t0_16 := lx72) (t0_17 := lx73) (t0_18 := lx74) (t0_19 := lx75) (t0_20 := lx76) (t0_21 := lx77) (t1_0 := t2_0) (t2_0 := t3_0) (t3_0 := t4_0) hA2
        generalize F_VR_looked t0_0 t0_1 t0_2 t0_3 lx80 lx62 t0_6 (p229.1 : Int32) (p229.2.1 : Int32) (p229.2.2.1 : Int32) (p229.2.2.2.1 : Int32) (p229.2.2.2.2.1 : Int32) (p229.2.2.2.2.2.1 : Int32) (p229.2.2.2.2.2.2 : Int32) lx70 lx71 lx72 lx73 lx74 lx75 lx76 lx77 t2_0 t3_0 t4_0 = p255 at *
        have kp255 := h7
        unfold S_VR_run_c101 F_VR_run_c101
        by_cases g8 : (p255.1 : Int32) ≤ (0 : Int32)
        ·
          rw [if_pos g8, if_pos g8]
          have hle := q_leI g8
          have h9 := T_VR_make (t0_0 := t0_0) (t0_1 := t0_1) (t0_2 := t0_2) (t0_3 := t0_3) (t0_4 := lx80) (t0_5 := (p255.1 : Int32)) (t0_6 := t0_6) (t0_7 := (p229.1 : Int32)) (t0_8 := (p229.2.1 : Int32)) (t0_9 := (p229.2.2.1 : Int32)) (t0_10 := (p229.2.2.2.1 : Int32)) (t0_11 := (p229.2.2.2.2.1 : Int32)) (t0_12 := (p229.2.2.2.2.2.1 : Int32)) (t0_13 := (p229.2.2.2.2.2.2 : Int32)) (t0_14 := (p255.2.1 : Int32)) (t0_15 := (p255.2.2.1 : Int32)) (t0_16 := (p255.2.2.2 : Int32)) (t0_17 := lx73) (t0_18 := lx74) (t0_19 := lx75) (t0_20 := lx76) (t0_21 := lx77) (t1_0 := t2_0) (t2_0 := t3_0) (t3_0 := t4_0) (t4_0 := t5_0) (t5_0 := lx78) (t6_0 := lx79) hZ ⟨by omega, by omega⟩ (by omega) (fun a b => kp255 hle (by rwa [vr_sm] at a) (by rwa [vr_sm] at b))
          with_reducible refine v_owe h9.1 ?_
          replace h9 := h9.2
          generalize F_VR_make t0_0 t0_1 t0_2 t0_3 lx80 (p255.1 : Int32) t0_6 (p229.1 : Int32) (p229.2.1 : Int32) (p229.2.2.1 : Int32) (p229.2.2.2.1 : Int32) (p229.2.2.2.2.1 : Int32) (p229.2.2.2.2.2.1 : Int32) (p229.2.2.2.2.2.2 : Int32) (p255.2.1 : Int32) (p255.2.2.1 : Int32) (p255.2.2.2 : Int32) lx73 lx74 lx75 lx76 lx77 t2_0 t3_0 t4_0 t5_0 lx78 lx79 = p288 at *
          unfold Q_VR_make at h9
          unfold S_VR_run_c117 F_VR_run_c117
          exact T_VR_r120 (fun d f hd => ih _ _ _ _ _ _ _ _ _ _ _ _ _ _ _ _ _ _ _ _ ⟨by omega, by omega⟩ hd (by omega)) ⟨by omega, by omega⟩ ⟨by omega, by omega⟩
        ·
          rw [if_neg g8, if_neg g8]
          refine ⟨trivial, ?_⟩
          (unfold Q_VR_run; dsimp only; exact ⟨by omega, by omega⟩)
      ·
        rw [if_neg g3, if_neg g3]
        have h10 := T_VR_here (t0_0 := t0_0) (t0_1 := t0_1) (t0_2 := t0_2) (t0_3 := t0_3) (t0_4 := lx80) (t0_5 := lx62) (t0_6 := t0_6) (t0_7 := lx63) (t0_8 := lx64) (t0_9 := lx65) (t0_10 := lx66) (t0_11 := lx67) (t0_12 := lx68) (t0_13 := lx69) (t0_14 := lx70) (t0_15 := lx71) (t0_16 := lx72) (t0_17 := (1 : Int32)) (t0_18 := lx74) (t0_19 := lx75) (t0_20 := lx76) (t0_21 := lx77) (t1_0 := t1_0) (by omega)
        with_reducible refine v_owe h10 ?_
        have eK : (lx63 + 1 : Int32).toInt = lx63.toInt + 1 := q_addI (y := 1) rfl (by decide) (by omega) (by omega); exact T_VR_r120 (fun d f hd => ih _ _ _ _ _ _ _ _ _ _ _ _ _ _ _ _ _ _ _ _ ⟨by omega, by omega⟩ hd (by omega)) ⟨by omega, by omega⟩ (by decide)
theorem T_VR_run {t0_0 : Int32} {t0_1 : Int32} {t0_2 : Int32} {t0_3 : Int32} {t0_4 : Int32} {t0_5 : Int32} {t0_6 : Int32} {t0_7 : Int32} {t0_8 : Int32} {t0_9 : Int32} {t0_10 : Int32} {t0_11 : Int32} {t0_12 : Int32} {t0_13 : Int32} {t0_14 : Int32} {t0_15 : Int32} {t0_16 : Int32} {t0_17 : Int32} {t0_18 : Int32} {t0_19 : Int32} {t0_20 : Int32} {t0_21 : Int32} {t1_0 : (Nat → Int32)} {t2_0 : (Nat → Int32)} {t3_0 : (Nat → Int32)} {t4_0 : (Nat → Int64)} {t5_0 : (Nat → Int32)} {t6_0 : (Nat → Int32)} {t7_0 : (Nat → Int32)} {t8_0 : (Nat → Int32)} (hZ : ∀ i, i < 9 → 0 ≤ (t3_0 i).toInt ∧ (t3_0 i).toInt ≤ 64) (hA1 : t0_1.toInt ≤ 256) (hA2 : t0_2.toInt ≤ 9)  : (S_VR_run t0_0 t0_1 t0_2 t0_3 t0_4 t0_5 t0_6 t0_7 t0_8 t0_9 t0_10 t0_11 t0_12 t0_13 t0_14 t0_15 t0_16 t0_17 t0_18 t0_19 t0_20 t0_21 t1_0 t2_0 t3_0 t4_0 t5_0 t6_0 t7_0 t8_0) ∧ Q_VR_run (F_VR_run t0_0 t0_1 t0_2 t0_3 t0_4 t0_5 t0_6 t0_7 t0_8 t0_9 t0_10 t0_11 t0_12 t0_13 t0_14 t0_15 t0_16 t0_17 t0_18 t0_19 t0_20 t0_21 t1_0 t2_0 t3_0 t4_0 t5_0 t6_0 t7_0 t8_0) := by
  have e0 : (0 : Int32).toInt = 0 := rfl
  have e1 : (1 : Int32).toInt = 1 := rfl
  have eL0 : (0 : Int64).toInt = 0 := rfl
  have em : (-1 : Int32).toInt = -1 := rfl
  unfold S_VR_run F_VR_run
  exact vv_r1 hZ hA1 hA2 _ _ _ _ _ _ _ _ _ _ _ _ _ _ _ _ _ _ _ _ _ (by decide) (by decide) (by decide)
def Q_VR_print (p : Int32 × Int32 × Int32 × Int32 × Int32 × Int32 × Int32 × Int32 × Int32 × Int32 × Int32 × Int32 × Int32 × Int32 × Int32 × Int32 × Int32 × Int32 × Int32 × Int32 × Int32 × (Nat → Int32) × (Nat → Int32) × (Nat → Int32) × (Nat → Int32)) : Prop := p.1.toInt ≤ 4096
theorem vv_pr {t0_0 : Int32} {t0_1 : Int32} {t0_2 : Int32} {t0_3 : Int32} {t0_4 : Int32} {t0_5 : Int32} {t0_6 : Int32} {t0_7 : Int32} {t0_8 : Int32} {t0_9 : Int32} {t0_10 : Int32} {t0_11 : Int32} {t0_12 : Int32} {t0_13 : Int32} {t0_14 : Int32} {t0_15 : Int32} {t0_16 : Int32} {t0_17 : Int32} {t0_18 : Int32} {t0_19 : Int32} {t0_20 : Int32} {t0_21 : Int32} {t1_0 : (Nat → Int32)} {t2_0 : (Nat → Int32)} {t3_0 : (Nat → Int32)} {t4_0 : (Nat → Int64)} {t5_0 : (Nat → Int32)} {t6_0 : (Nat → Int32)} {t7_0 : (Nat → Int32)} {t8_0 : (Nat → Int32)} {t9_0 : (Nat → Int32)} {p96 : (Int32 × Int32 × Int32 × Int32 × Int32 × Int32 × Int32 × Int32 × Int32 × Int32 × Int32 × Int32 × Int32 × Int32 × Int32 × Int32 × Int32 × Int32 × (Nat → Int32) × (Nat → Int32) × (Nat → Int32))} {y62 : Int32} {y63 : Int32} {a60 : Int32} {y64 : Int32} {y65 : Int32} {y66 : Int32} {y67 : Int32} {y68 : Int32} {y69 : Int32} {y70 : Int32} {y71 : Int32} {y72 : Int32} {y73 : Int32} {y74 : Int32} {y75 : Int32} {y76 : Int32} {y77 : Int32} {y78 : Int32} {f79 : (Nat → Int32)} {f81 : (Nat → Int32)} {f83 : (Nat → Int32)} {lx126 : Int32} (hy : 0 ≤ y62.toInt ∧ y62.toInt ≤ 4096) (hA6 : lx126.toInt ≤ 4096) : ∀ (n : Nat) (lx151 : Int32) (lx152 : (Nat → Int32)), (0 ≤ lx151.toInt ∧ lx151.toInt ≤ 4096) → (4096 - lx151.toInt < (n : Int)) → (S_VR_print_L43 t0_0 t0_1 t0_2 t0_3 t0_4 t0_5 t0_6 t0_7 t0_8 t0_9 t0_10 t0_11 t0_12 t0_13 t0_14 t0_15 t0_16 t0_17 t0_18 t0_19 t0_20 t0_21 t1_0 t2_0 t3_0 t4_0 t5_0 t6_0 t7_0 t8_0 t9_0 p96 y62 y63 a60 y64 y65 y66 y67 y68 y69 y70 y71 y72 y73 y74 y75 y76 y77 y78 f79 f81 f83 lx126 n lx151 lx152) ∧ Q_VR_print (F_VR_print_L43 t0_0 t0_1 t0_2 t0_3 t0_4 t0_5 t0_6 t0_7 t0_8 t0_9 t0_10 t0_11 t0_12 t0_13 t0_14 t0_15 t0_16 t0_17 t0_18 t0_19 t0_20 t0_21 t1_0 t2_0 t3_0 t4_0 t5_0 t6_0 t7_0 t8_0 t9_0 p96 y62 y63 a60 y64 y65 y66 y67 y68 y69 y70 y71 y72 y73 y74 y75 y76 y77 y78 f79 f81 f83 lx126 n lx151 lx152) := by
  intro n
  induction n with
  | zero => intro lx151 lx152 hA0 hm; exact absurd (show False by omega) id
  | succ n ih =>
    intro lx151 lx152 hA0 hm
    have e0 : (0 : Int32).toInt = 0 := rfl
    have e1 : (1 : Int32).toInt = 1 := rfl
    have eL0 : (0 : Int64).toInt = 0 := rfl
    have em : (-1 : Int32).toInt = -1 := rfl
    rw [S_VR_print_L43.eq_2, F_VR_print_L43.eq_2]
    by_cases g1 : y62 ≤ lx151
    ·
      rw [if_pos g1, if_pos g1]
      have g1i : y62.toInt ≤ lx151.toInt := q_leI g1
      refine ⟨trivial, ?_⟩
      exact (show lx126.toInt ≤ 4096 from by first | omega | decide)
    ·
      rw [if_neg g1, if_neg g1]
      have g1i : lx151.toInt < y62.toInt := q_nleI g1
      refine v_cons (by first | omega | decide) ?_
      obtain ⟨a2, e3⟩ := q_nm (lx151 + 1 : Int32)
      rw [e3]
      have a2i : a2.toInt = lx151.toInt + 1 := by rw [← e3]; exact q_addI (x := lx151.toInt) (y := 1) rfl (by decide) (by omega) (by omega)
      exact ih _ _ ⟨by omega, by omega⟩ (by omega)
theorem T_VR_print {t0_0 : Int32} {t0_1 : Int32} {t0_2 : Int32} {t0_3 : Int32} {t0_4 : Int32} {t0_5 : Int32} {t0_6 : Int32} {t0_7 : Int32} {t0_8 : Int32} {t0_9 : Int32} {t0_10 : Int32} {t0_11 : Int32} {t0_12 : Int32} {t0_13 : Int32} {t0_14 : Int32} {t0_15 : Int32} {t0_16 : Int32} {t0_17 : Int32} {t0_18 : Int32} {t0_19 : Int32} {t0_20 : Int32} {t0_21 : Int32} {t1_0 : (Nat → Int32)} {t2_0 : (Nat → Int32)} {t3_0 : (Nat → Int32)} {t4_0 : (Nat → Int64)} {t5_0 : (Nat → Int32)} {t6_0 : (Nat → Int32)} {t7_0 : (Nat → Int32)} {t8_0 : (Nat → Int32)} {t9_0 : (Nat → Int32)} (hZ : ∀ i, i < 9 → 0 ≤ (t3_0 i).toInt ∧ (t3_0 i).toInt ≤ 64) (hA1 : t0_1.toInt ≤ 256) (hA2 : t0_2.toInt ≤ 9)  : (S_VR_print t0_0 t0_1 t0_2 t0_3 t0_4 t0_5 t0_6 t0_7 t0_8 t0_9 t0_10 t0_11 t0_12 t0_13 t0_14 t0_15 t0_16 t0_17 t0_18 t0_19 t0_20 t0_21 t1_0 t2_0 t3_0 t4_0 t5_0 t6_0 t7_0 t8_0 t9_0) ∧ Q_VR_print (F_VR_print t0_0 t0_1 t0_2 t0_3 t0_4 t0_5 t0_6 t0_7 t0_8 t0_9 t0_10 t0_11 t0_12 t0_13 t0_14 t0_15 t0_16 t0_17 t0_18 t0_19 t0_20 t0_21 t1_0 t2_0 t3_0 t4_0 t5_0 t6_0 t7_0 t8_0 t9_0) := by
  have e0 : (0 : Int32).toInt = 0 := rfl
  have e1 : (1 : Int32).toInt = 1 := rfl
  have eL0 : (0 : Int64).toInt = 0 := rfl
  have em : (-1 : Int32).toInt = -1 := rfl
  unfold S_VR_print F_VR_print
  have h1 := T_VR_run (t0_0 := (0 : Int32)) (t0_1 := t0_1) (t0_2 := t0_2) (t0_3 := t0_3) (t0_4 := t0_4) (t0_5 := t0_5) (t0_6 := t0_6) (t0_7 := t0_7) (t0_8 := t0_8) (t0_9 := t0_9) (t0_10 := t0_10) (t0_11 := t0_11) (t0_12 := t0_12) (t0_13 := t0_13) (t0_14 := t0_14) (t0_15 := t0_15) (t0_16 := t0_16) (t0_17 := t0_17) (t0_18 := t0_18) (t0_19 := t0_19) (t0_20 := t0_20) (t0_21 := t0_21) (t1_0 := t1_0) (t2_0 := t2_0) (t3_0 := t3_0) (t4_0 := t4_0) (t5_0 := t5_0) (t6_0 := t7_0) (t7_0 := t8_0) (t8_0 := t9_0) hZ hA1 hA2
  with_reducible refine v_owe h1.1 ?_
  replace h1 := h1.2
  generalize F_VR_run (0 : Int32) t0_1 t0_2 t0_3 t0_4 t0_5 t0_6 t0_7 t0_8 t0_9 t0_10 t0_11 t0_12 t0_13 t0_14 t0_15 t0_16 t0_17 t0_18 t0_19 t0_20 t0_21 t1_0 t2_0 t3_0 t4_0 t5_0 t7_0 t8_0 t9_0 = p96 at *
  unfold Q_VR_run at h1
  unfold S_VR_print_c7 F_VR_print_c7
  by_cases g2 : (p96.2.2.1 : Int32) ≤ (0 : Int32)
  ·
    rw [if_pos g2, if_pos g2]
    have g2i : p96.2.2.1.toInt ≤ 0 := q_leI g2
    unfold S_VR_print_J29 F_VR_print_J29
    refine v_cons (by first | omega | decide) ?_
    rw [if_pos g2, if_pos g2]
    exact vv_pr ⟨by omega, by omega⟩ (by first | omega | decide) _ _ _ (by decide) (by decide)
  ·
    rw [if_neg g2, if_neg g2]
    have g2i : 0 < p96.2.2.1.toInt := q_nleI g2
    unfold S_VR_print_J29 F_VR_print_J29
    refine v_cons (by first | omega | decide) ?_
    rw [if_neg g2, if_neg g2]
    refine ⟨trivial, ?_⟩
    exact (show (-1 : Int32).toInt ≤ 4096 from by first | omega | decide)
def vrZ (f : Nat → Int32) : Prop := ∀ i, i < 9 → 0 ≤ (f i).toInt ∧ (f i).toInt ≤ 64
theorem vrZ.put {f : Nat → Int32} {k : Nat} {x : Int32} (h : vrZ f) (hx : 0 ≤ x.toInt ∧ x.toInt ≤ 64) : vrZ (upd f k x) := fun i hi => by
  unfold upd
  split
  · exact hx
  · exact h i hi
def Q_VR_enter (t : Nat → Int32) (p : Int32 × Int32 × Int32 × (Nat → Int32) × (Nat → Int32) × (Nat → Int64)) : Prop := (vrZ t → vrZ p.2.2.2.2.1) ∧ (0 < p.1.toInt → p.1.toInt ≤ 9)
theorem T_VR_enter {x2 : Int32} {x3 : Int32} {x4 : Int64} {t0_0 : Int32} {t0_1 : Int32} {t0_2 : Int32} {t0_3 : Int32} {t0_4 : Int32} {t0_5 : Int32} {t0_6 : Int32} {t0_7 : Int32} {t0_8 : Int32} {t0_9 : Int32} {t0_10 : Int32} {t0_11 : Int32} {t0_12 : Int32} {t0_13 : Int32} {t0_14 : Int32} {t0_15 : Int32} {t0_16 : Int32} {t0_17 : Int32} {t0_18 : Int32} {t0_19 : Int32} {t0_20 : Int32} {t0_21 : Int32} {t1_0 : (Nat → Int32)} {t2_0 : (Nat → Int32)} {t3_0 : (Nat → Int64)} (hA2 : 0 ≤ t0_2.toInt ∧ t0_2.toInt ≤ 9) (hx3 : 0 ≤ x3.toInt ∧ x3.toInt ≤ 64) : Q_VR_enter t2_0 (F_VR_enter x2 x3 x4 t0_0 t0_1 t0_2 t0_3 t0_4 t0_5 t0_6 t0_7 t0_8 t0_9 t0_10 t0_11 t0_12 t0_13 t0_14 t0_15 t0_16 t0_17 t0_18 t0_19 t0_20 t0_21 t1_0 t2_0 t3_0) := by
  have e0 : (0 : Int32).toInt = 0 := rfl
  have e1 : (1 : Int32).toInt = 1 := rfl
  have eL0 : (0 : Int64).toInt = 0 := rfl
  have em : (-1 : Int32).toInt = -1 := rfl
  have e9 : (9 : Int32).toInt = 9 := rfl
  unfold F_VR_enter
  by_cases g1 : t0_2 = (9 : Int32)
  ·
    rw [if_pos g1]
    (unfold Q_VR_enter; dsimp only; first | exact ⟨fun h => h, fun h => absurd h (by decide)⟩ | exact ⟨fun h => h.put hx3, fun _ => by have eK : (t0_2 + 1 : Int32).toInt = t0_2.toInt + 1 := q_addI (y := 1) rfl (by decide) (by omega) (by omega); omega⟩)
  ·
    rw [if_neg g1]
    have g1i : t0_2.toInt ≠ 9 := q_neI g1
    (unfold Q_VR_enter; dsimp only; first | exact ⟨fun h => h, fun h => absurd h (by decide)⟩ | exact ⟨fun h => h.put hx3, fun _ => by have eK : (t0_2 + 1 : Int32).toInt = t0_2.toInt + 1 := q_addI (y := 1) rfl (by decide) (by omega) (by omega); omega⟩)
def Q_VR_arg (t : Nat → Int32) (p : Int32 × Int32 × Int32 × (Nat → Int32) × (Nat → Int32) × (Nat → Int64)) : Prop := vrZ t → vrZ p.2.2.2.2.1
theorem T_VR_wholeA {x2 : Int32} {x3 : Int64} {t0_0 : Int32} {t0_1 : Int32} {t0_2 : Int32} {t0_3 : Int32} {t0_4 : Int32} {t0_5 : Int32} {t0_6 : Int32} {t0_7 : Int32} {t0_8 : Int32} {t0_9 : Int32} {t0_10 : Int32} {t0_11 : Int32} {t0_12 : Int32} {t0_13 : Int32} {t0_14 : Int32} {t0_15 : Int32} {t0_16 : Int32} {t0_17 : Int32} {t0_18 : Int32} {t0_19 : Int32} {t0_20 : Int32} {t0_21 : Int32} {t1_0 : (Nat → Int32)} {t2_0 : (Nat → Int32)} {t3_0 : (Nat → Int64)} (hA2 : 0 ≤ t0_2.toInt ∧ t0_2.toInt ≤ 9) (hx : 0 ≤ x2.toInt ∧ x2.toInt ≤ 64) : Q_VR_arg t2_0 (F_VR_whole_J31 x2 x3 t0_0 t0_1 t0_2 t0_3 t0_4 t0_5 t0_6 t0_7 t0_8 t0_9 t0_10 t0_11 t0_12 t0_13 t0_14 t0_15 t0_16 t0_17 t0_18 t0_19 t0_20 t0_21 t1_0 t2_0 t3_0) := by
  have e0 : (0 : Int32).toInt = 0 := rfl
  have e1 : (1 : Int32).toInt = 1 := rfl
  have eL0 : (0 : Int64).toInt = 0 := rfl
  have em : (-1 : Int32).toInt = -1 := rfl
  unfold F_VR_whole_J31
  have h1 := T_VR_enter (x2 := (3 : Int32)) (x3 := x2) (x4 := ((x3 <<< ((64 - x2 : Int32).toInt64 &&& 63) : Int64) >>> ((64 - x2 : Int32).toInt64 &&& 63) : Int64)) (t0_0 := t0_0) (t0_1 := t0_1) (t0_2 := t0_2) (t0_3 := t0_3) (t0_4 := t0_4) (t0_5 := t0_5) (t0_6 := t0_6) (t0_7 := t0_7) (t0_8 := t0_8) (t0_9 := t0_9) (t0_10 := t0_10) (t0_11 := t0_11) (t0_12 := t0_12) (t0_13 := t0_13) (t0_14 := t0_14) (t0_15 := t0_15) (t0_16 := t0_16) (t0_17 := t0_17) (t0_18 := t0_18) (t0_19 := t0_19) (t0_20 := t0_20) (t0_21 := t0_21) (t1_0 := t1_0) (t2_0 := t2_0) (t3_0 := t3_0) hA2 ⟨by first | omega | decide, by first | omega | decide⟩
  generalize F_VR_enter (3 : Int32) x2 ((x3 <<< ((64 - x2 : Int32).toInt64 &&& 63) : Int64) >>> ((64 - x2 : Int32).toInt64 &&& 63) : Int64) t0_0 t0_1 t0_2 t0_3 t0_4 t0_5 t0_6 t0_7 t0_8 t0_9 t0_10 t0_11 t0_12 t0_13 t0_14 t0_15 t0_16 t0_17 t0_18 t0_19 t0_20 t0_21 t1_0 t2_0 t3_0 = p77 at *
  unfold Q_VR_enter at h1
  have qp77 := h1
  unfold F_VR_whole_c45
  (unfold Q_VR_arg; dsimp only; exact qp77.1)
theorem T_VR_whole {x2 : Int32} {x3 : Int64} {t0_0 : Int32} {t0_1 : Int32} {t0_2 : Int32} {t0_3 : Int32} {t0_4 : Int32} {t0_5 : Int32} {t0_6 : Int32} {t0_7 : Int32} {t0_8 : Int32} {t0_9 : Int32} {t0_10 : Int32} {t0_11 : Int32} {t0_12 : Int32} {t0_13 : Int32} {t0_14 : Int32} {t0_15 : Int32} {t0_16 : Int32} {t0_17 : Int32} {t0_18 : Int32} {t0_19 : Int32} {t0_20 : Int32} {t0_21 : Int32} {t1_0 : (Nat → Int32)} {t2_0 : (Nat → Int32)} {t3_0 : (Nat → Int64)} (hA2 : 0 ≤ t0_2.toInt ∧ t0_2.toInt ≤ 9)  : Q_VR_arg t2_0 (F_VR_whole x2 x3 t0_0 t0_1 t0_2 t0_3 t0_4 t0_5 t0_6 t0_7 t0_8 t0_9 t0_10 t0_11 t0_12 t0_13 t0_14 t0_15 t0_16 t0_17 t0_18 t0_19 t0_20 t0_21 t1_0 t2_0 t3_0) := by
  have e0 : (0 : Int32).toInt = 0 := rfl
  have e1 : (1 : Int32).toInt = 1 := rfl
  have eL0 : (0 : Int64).toInt = 0 := rfl
  have em : (-1 : Int32).toInt = -1 := rfl
  have e8 : (8 : Int32).toInt = 8 := rfl
  have e16 : (16 : Int32).toInt = 16 := rfl
  have e32 : (32 : Int32).toInt = 32 := rfl
  have e64 : (64 : Int32).toInt = 64 := rfl
  have e40 : (40 : Int32).toInt = 40 := rfl
  have e255 : (255 : Int32).toInt = 255 := rfl
  unfold F_VR_whole
  by_cases g1 : x2 = (8 : Int32)
  ·
    rw [if_pos g1]
    have g1i : x2.toInt = 8 := q_eqI g1
    exact T_VR_wholeA hA2 ⟨by omega, by omega⟩
  ·
    rw [if_neg g1]
    have g1i : x2.toInt ≠ 8 := q_neI g1
    by_cases g2 : x2 = (16 : Int32)
    ·
      rw [if_pos g2]
      have g2i : x2.toInt = 16 := q_eqI g2
      exact T_VR_wholeA hA2 ⟨by omega, by omega⟩
    ·
      rw [if_neg g2]
      have g2i : x2.toInt ≠ 16 := q_neI g2
      by_cases g3 : x2 = (32 : Int32)
      ·
        rw [if_pos g3]
        have g3i : x2.toInt = 32 := q_eqI g3
        exact T_VR_wholeA hA2 ⟨by omega, by omega⟩
      ·
        rw [if_neg g3]
        have g3i : x2.toInt ≠ 32 := q_neI g3
        by_cases g4 : x2 = (64 : Int32)
        ·
          rw [if_pos g4]
          have g4i : x2.toInt = 64 := q_eqI g4
          exact T_VR_wholeA hA2 ⟨by omega, by omega⟩
        ·
          rw [if_neg g4]
          have g4i : x2.toInt ≠ 64 := q_neI g4
          (unfold Q_VR_arg; dsimp only; exact fun z => z)
theorem T_VR_decimal_JII {x2 : Int64} {x3 : Int32} {t0_0 : Int32} {t0_1 : Int32} {t0_2 : Int32} {t0_3 : Int32} {t0_4 : Int32} {t0_5 : Int32} {t0_6 : Int32} {t0_7 : Int32} {t0_8 : Int32} {t0_9 : Int32} {t0_10 : Int32} {t0_11 : Int32} {t0_12 : Int32} {t0_13 : Int32} {t0_14 : Int32} {t0_15 : Int32} {t0_16 : Int32} {t0_17 : Int32} {t0_18 : Int32} {t0_19 : Int32} {t0_20 : Int32} {t0_21 : Int32} {t1_0 : (Nat → Int32)} {t2_0 : (Nat → Int32)} {t3_0 : (Nat → Int64)} (hA2 : 0 ≤ t0_2.toInt ∧ t0_2.toInt ≤ 9)  : Q_VR_arg t2_0 (F_VR_decimal_JII x2 x3 t0_0 t0_1 t0_2 t0_3 t0_4 t0_5 t0_6 t0_7 t0_8 t0_9 t0_10 t0_11 t0_12 t0_13 t0_14 t0_15 t0_16 t0_17 t0_18 t0_19 t0_20 t0_21 t1_0 t2_0 t3_0) := by
  have e0 : (0 : Int32).toInt = 0 := rfl
  have e1 : (1 : Int32).toInt = 1 := rfl
  have eL0 : (0 : Int64).toInt = 0 := rfl
  have em : (-1 : Int32).toInt = -1 := rfl
  have e8 : (8 : Int32).toInt = 8 := rfl
  have e16 : (16 : Int32).toInt = 16 := rfl
  have e32 : (32 : Int32).toInt = 32 := rfl
  have e64 : (64 : Int32).toInt = 64 := rfl
  have e40 : (40 : Int32).toInt = 40 := rfl
  have e255 : (255 : Int32).toInt = 255 := rfl
  unfold F_VR_decimal_JII
  by_cases g1 : x3 < (0 : Int32)
  ·
    rw [if_pos g1]
    have g1i : x3.toInt < 0 := q_ltI g1
    (unfold Q_VR_arg; dsimp only; exact fun z => z)
  ·
    rw [if_neg g1]
    have g1i : 0 ≤ x3.toInt := q_nltI g1
    by_cases g2 : x3 ≤ (40 : Int32)
    ·
      rw [if_pos g2]
      have g2i : x3.toInt ≤ 40 := q_leI g2
      have h3 := T_VR_enter (x2 := (5 : Int32)) (x3 := x3) (x4 := x2) (t0_0 := t0_0) (t0_1 := t0_1) (t0_2 := t0_2) (t0_3 := t0_3) (t0_4 := t0_4) (t0_5 := t0_5) (t0_6 := t0_6) (t0_7 := t0_7) (t0_8 := t0_8) (t0_9 := t0_9) (t0_10 := t0_10) (t0_11 := t0_11) (t0_12 := t0_12) (t0_13 := t0_13) (t0_14 := t0_14) (t0_15 := t0_15) (t0_16 := t0_16) (t0_17 := t0_17) (t0_18 := t0_18) (t0_19 := t0_19) (t0_20 := t0_20) (t0_21 := t0_21) (t1_0 := t1_0) (t2_0 := t2_0) (t3_0 := t3_0) hA2 ⟨by first | omega | decide, by first | omega | decide⟩
      generalize F_VR_enter (5 : Int32) x3 x2 t0_0 t0_1 t0_2 t0_3 t0_4 t0_5 t0_6 t0_7 t0_8 t0_9 t0_10 t0_11 t0_12 t0_13 t0_14 t0_15 t0_16 t0_17 t0_18 t0_19 t0_20 t0_21 t1_0 t2_0 t3_0 = p66 at *
      unfold Q_VR_enter at h3
      have qp66 := h3
      unfold F_VR_decimal_JII_c21
      (unfold Q_VR_arg; dsimp only; exact qp66.1)
    ·
      rw [if_neg g2]
      have g2i : 40 < x3.toInt := q_nleI g2
      (unfold Q_VR_arg; dsimp only; exact fun z => z)
theorem T_VR_nothing {t0_0 : Int32} {t0_1 : Int32} {t0_2 : Int32} {t0_3 : Int32} {t0_4 : Int32} {t0_5 : Int32} {t0_6 : Int32} {t0_7 : Int32} {t0_8 : Int32} {t0_9 : Int32} {t0_10 : Int32} {t0_11 : Int32} {t0_12 : Int32} {t0_13 : Int32} {t0_14 : Int32} {t0_15 : Int32} {t0_16 : Int32} {t0_17 : Int32} {t0_18 : Int32} {t0_19 : Int32} {t0_20 : Int32} {t0_21 : Int32} {t1_0 : (Nat → Int32)} {t2_0 : (Nat → Int32)} {t3_0 : (Nat → Int64)} (hA2 : 0 ≤ t0_2.toInt ∧ t0_2.toInt ≤ 9)  : Q_VR_arg t2_0 (F_VR_nothing t0_0 t0_1 t0_2 t0_3 t0_4 t0_5 t0_6 t0_7 t0_8 t0_9 t0_10 t0_11 t0_12 t0_13 t0_14 t0_15 t0_16 t0_17 t0_18 t0_19 t0_20 t0_21 t1_0 t2_0 t3_0) := by
  have e0 : (0 : Int32).toInt = 0 := rfl
  have e1 : (1 : Int32).toInt = 1 := rfl
  have eL0 : (0 : Int64).toInt = 0 := rfl
  have em : (-1 : Int32).toInt = -1 := rfl
  have e8 : (8 : Int32).toInt = 8 := rfl
  have e16 : (16 : Int32).toInt = 16 := rfl
  have e32 : (32 : Int32).toInt = 32 := rfl
  have e64 : (64 : Int32).toInt = 64 := rfl
  have e40 : (40 : Int32).toInt = 40 := rfl
  have e255 : (255 : Int32).toInt = 255 := rfl
  unfold F_VR_nothing
  have h1 := T_VR_enter (x2 := (0 : Int32)) (x3 := (0 : Int32)) (x4 := (0 : Int64)) (t0_0 := t0_0) (t0_1 := t0_1) (t0_2 := t0_2) (t0_3 := t0_3) (t0_4 := t0_4) (t0_5 := t0_5) (t0_6 := t0_6) (t0_7 := t0_7) (t0_8 := t0_8) (t0_9 := t0_9) (t0_10 := t0_10) (t0_11 := t0_11) (t0_12 := t0_12) (t0_13 := t0_13) (t0_14 := t0_14) (t0_15 := t0_15) (t0_16 := t0_16) (t0_17 := t0_17) (t0_18 := t0_18) (t0_19 := t0_19) (t0_20 := t0_20) (t0_21 := t0_21) (t1_0 := t1_0) (t2_0 := t2_0) (t3_0 := t3_0) hA2 ⟨by first | omega | decide, by first | omega | decide⟩
  generalize F_VR_enter (0 : Int32) (0 : Int32) (0 : Int64) t0_0 t0_1 t0_2 t0_3 t0_4 t0_5 t0_6 t0_7 t0_8 t0_9 t0_10 t0_11 t0_12 t0_13 t0_14 t0_15 t0_16 t0_17 t0_18 t0_19 t0_20 t0_21 t1_0 t2_0 t3_0 = p59 at *
  unfold Q_VR_enter at h1
  have qp59 := h1
  unfold F_VR_nothing_c4
  (unfold Q_VR_arg; dsimp only; exact qp59.1)
theorem T_VR_truth {x2 : Int32} {t0_0 : Int32} {t0_1 : Int32} {t0_2 : Int32} {t0_3 : Int32} {t0_4 : Int32} {t0_5 : Int32} {t0_6 : Int32} {t0_7 : Int32} {t0_8 : Int32} {t0_9 : Int32} {t0_10 : Int32} {t0_11 : Int32} {t0_12 : Int32} {t0_13 : Int32} {t0_14 : Int32} {t0_15 : Int32} {t0_16 : Int32} {t0_17 : Int32} {t0_18 : Int32} {t0_19 : Int32} {t0_20 : Int32} {t0_21 : Int32} {t1_0 : (Nat → Int32)} {t2_0 : (Nat → Int32)} {t3_0 : (Nat → Int64)} (hA2 : 0 ≤ t0_2.toInt ∧ t0_2.toInt ≤ 9)  : Q_VR_arg t2_0 (F_VR_truth x2 t0_0 t0_1 t0_2 t0_3 t0_4 t0_5 t0_6 t0_7 t0_8 t0_9 t0_10 t0_11 t0_12 t0_13 t0_14 t0_15 t0_16 t0_17 t0_18 t0_19 t0_20 t0_21 t1_0 t2_0 t3_0) := by
  have e0 : (0 : Int32).toInt = 0 := rfl
  have e1 : (1 : Int32).toInt = 1 := rfl
  have eL0 : (0 : Int64).toInt = 0 := rfl
  have em : (-1 : Int32).toInt = -1 := rfl
  have e8 : (8 : Int32).toInt = 8 := rfl
  have e16 : (16 : Int32).toInt = 16 := rfl
  have e32 : (32 : Int32).toInt = 32 := rfl
  have e64 : (64 : Int32).toInt = 64 := rfl
  have e40 : (40 : Int32).toInt = 40 := rfl
  have e255 : (255 : Int32).toInt = 255 := rfl
  unfold F_VR_truth
  by_cases g1 : x2 = (0 : Int32)
  ·
    rw [if_pos g1]
    have g1i : x2.toInt = 0 := q_eqI g1
    have h2 := T_VR_enter (x2 := (1 : Int32)) (x3 := (0 : Int32)) (x4 := (0 : Int64)) (t0_0 := t0_0) (t0_1 := t0_1) (t0_2 := t0_2) (t0_3 := t0_3) (t0_4 := t0_4) (t0_5 := t0_5) (t0_6 := t0_6) (t0_7 := t0_7) (t0_8 := t0_8) (t0_9 := t0_9) (t0_10 := t0_10) (t0_11 := t0_11) (t0_12 := t0_12) (t0_13 := t0_13) (t0_14 := t0_14) (t0_15 := t0_15) (t0_16 := t0_16) (t0_17 := t0_17) (t0_18 := t0_18) (t0_19 := t0_19) (t0_20 := t0_20) (t0_21 := t0_21) (t1_0 := t1_0) (t2_0 := t2_0) (t3_0 := t3_0) hA2 ⟨by first | omega | decide, by first | omega | decide⟩
    generalize F_VR_enter (1 : Int32) (0 : Int32) (0 : Int64) t0_0 t0_1 t0_2 t0_3 t0_4 t0_5 t0_6 t0_7 t0_8 t0_9 t0_10 t0_11 t0_12 t0_13 t0_14 t0_15 t0_16 t0_17 t0_18 t0_19 t0_20 t0_21 t1_0 t2_0 t3_0 = p61 at *
    unfold Q_VR_enter at h2
    have qp61 := h2
    unfold F_VR_truth_c12
    (unfold Q_VR_arg; dsimp only; exact qp61.1)
  ·
    rw [if_neg g1]
    have g1i : x2.toInt ≠ 0 := q_neI g1
    have h3 := T_VR_enter (x2 := (1 : Int32)) (x3 := (0 : Int32)) (x4 := (1 : Int64)) (t0_0 := t0_0) (t0_1 := t0_1) (t0_2 := t0_2) (t0_3 := t0_3) (t0_4 := t0_4) (t0_5 := t0_5) (t0_6 := t0_6) (t0_7 := t0_7) (t0_8 := t0_8) (t0_9 := t0_9) (t0_10 := t0_10) (t0_11 := t0_11) (t0_12 := t0_12) (t0_13 := t0_13) (t0_14 := t0_14) (t0_15 := t0_15) (t0_16 := t0_16) (t0_17 := t0_17) (t0_18 := t0_18) (t0_19 := t0_19) (t0_20 := t0_20) (t0_21 := t0_21) (t1_0 := t1_0) (t2_0 := t2_0) (t3_0 := t3_0) hA2 ⟨by first | omega | decide, by first | omega | decide⟩
    generalize F_VR_enter (1 : Int32) (0 : Int32) (1 : Int64) t0_0 t0_1 t0_2 t0_3 t0_4 t0_5 t0_6 t0_7 t0_8 t0_9 t0_10 t0_11 t0_12 t0_13 t0_14 t0_15 t0_16 t0_17 t0_18 t0_19 t0_20 t0_21 t1_0 t2_0 t3_0 = p97 at *
    unfold Q_VR_enter at h3
    have qp97 := h3
    unfold F_VR_truth_c12_2
    (unfold Q_VR_arg; dsimp only; exact qp97.1)
theorem T_VR_symbol {x2 : Int32} {t0_0 : Int32} {t0_1 : Int32} {t0_2 : Int32} {t0_3 : Int32} {t0_4 : Int32} {t0_5 : Int32} {t0_6 : Int32} {t0_7 : Int32} {t0_8 : Int32} {t0_9 : Int32} {t0_10 : Int32} {t0_11 : Int32} {t0_12 : Int32} {t0_13 : Int32} {t0_14 : Int32} {t0_15 : Int32} {t0_16 : Int32} {t0_17 : Int32} {t0_18 : Int32} {t0_19 : Int32} {t0_20 : Int32} {t0_21 : Int32} {t1_0 : (Nat → Int32)} {t2_0 : (Nat → Int32)} {t3_0 : (Nat → Int64)} (hA2 : 0 ≤ t0_2.toInt ∧ t0_2.toInt ≤ 9)  : Q_VR_arg t2_0 (F_VR_symbol x2 t0_0 t0_1 t0_2 t0_3 t0_4 t0_5 t0_6 t0_7 t0_8 t0_9 t0_10 t0_11 t0_12 t0_13 t0_14 t0_15 t0_16 t0_17 t0_18 t0_19 t0_20 t0_21 t1_0 t2_0 t3_0) := by
  have e0 : (0 : Int32).toInt = 0 := rfl
  have e1 : (1 : Int32).toInt = 1 := rfl
  have eL0 : (0 : Int64).toInt = 0 := rfl
  have em : (-1 : Int32).toInt = -1 := rfl
  have e8 : (8 : Int32).toInt = 8 := rfl
  have e16 : (16 : Int32).toInt = 16 := rfl
  have e32 : (32 : Int32).toInt = 32 := rfl
  have e64 : (64 : Int32).toInt = 64 := rfl
  have e40 : (40 : Int32).toInt = 40 := rfl
  have e255 : (255 : Int32).toInt = 255 := rfl
  unfold F_VR_symbol
  by_cases g1 : x2 < (0 : Int32)
  ·
    rw [if_pos g1]
    have g1i : x2.toInt < 0 := q_ltI g1
    (unfold Q_VR_arg; dsimp only; exact fun z => z)
  ·
    rw [if_neg g1]
    have g1i : 0 ≤ x2.toInt := q_nltI g1
    by_cases g2 : x2 ≤ (255 : Int32)
    ·
      rw [if_pos g2]
      have g2i : x2.toInt ≤ 255 := q_leI g2
      have h3 := T_VR_enter (x2 := (2 : Int32)) (x3 := (0 : Int32)) (x4 := (x2.toInt64 : Int64)) (t0_0 := t0_0) (t0_1 := t0_1) (t0_2 := t0_2) (t0_3 := t0_3) (t0_4 := t0_4) (t0_5 := t0_5) (t0_6 := t0_6) (t0_7 := t0_7) (t0_8 := t0_8) (t0_9 := t0_9) (t0_10 := t0_10) (t0_11 := t0_11) (t0_12 := t0_12) (t0_13 := t0_13) (t0_14 := t0_14) (t0_15 := t0_15) (t0_16 := t0_16) (t0_17 := t0_17) (t0_18 := t0_18) (t0_19 := t0_19) (t0_20 := t0_20) (t0_21 := t0_21) (t1_0 := t1_0) (t2_0 := t2_0) (t3_0 := t3_0) hA2 ⟨by first | omega | decide, by first | omega | decide⟩
      generalize F_VR_enter (2 : Int32) (0 : Int32) (x2.toInt64 : Int64) t0_0 t0_1 t0_2 t0_3 t0_4 t0_5 t0_6 t0_7 t0_8 t0_9 t0_10 t0_11 t0_12 t0_13 t0_14 t0_15 t0_16 t0_17 t0_18 t0_19 t0_20 t0_21 t1_0 t2_0 t3_0 = p69 at *
      unfold Q_VR_enter at h3
      have qp69 := h3
      unfold F_VR_symbol_c23
      (unfold Q_VR_arg; dsimp only; exact qp69.1)
    ·
      rw [if_neg g2]
      have g2i : 255 < x2.toInt := q_nleI g2
      (unfold Q_VR_arg; dsimp only; exact fun z => z)
def Q_VR_txt (t : Nat → Int32) (p : Int32 × Int32 × Int32 × Int32 × (Nat → Int32) × (Nat → Int32) × (Nat → Int64) × (Nat → Int32)) : Prop := vrZ t → vrZ p.2.2.2.2.2.1
theorem vv_tx {t0_0 : Int32} {t0_1 : Int32} {t0_2 : Int32} {t0_3 : Int32} {t0_4 : Int32} {t0_5 : Int32} {t0_6 : Int32} {t0_7 : Int32} {t0_8 : Int32} {t0_9 : Int32} {t0_10 : Int32} {t0_11 : Int32} {t0_12 : Int32} {t0_13 : Int32} {t0_14 : Int32} {t0_15 : Int32} {t0_16 : Int32} {t0_17 : Int32} {t0_18 : Int32} {t0_19 : Int32} {t0_20 : Int32} {t0_21 : Int32} {t1_0 : (Nat → Int32)} {t2_0 : (Nat → Int32)} {t3_0 : (Nat → Int32)} {t4_0 : (Nat → Int64)} {t5_0 : (Nat → Int32)} {p67 : (Int32 × Int32 × Int32 × (Nat → Int32) × (Nat → Int32) × (Nat → Int64))} {a47 : Int32} {y49 : Int32} {y50 : Int32} {f51 : (Nat → Int32)} {f53 : (Nat → Int32)} {f55 : (Nat → Int64)} {t : Nat → Int32} (ha : 1 ≤ a47.toInt ∧ a47.toInt ≤ 9) (hf : vrZ t → vrZ f53) (hA1 : t0_1.toInt ≤ 64)  : ∀ (n : Nat) (lx84 : Int32) (lx85 : (Nat → Int32)), (0 ≤ lx84.toInt ∧ lx84.toInt ≤ 64) → (64 - lx84.toInt < (n : Int)) → (S_VR_text_L33 t0_0 t0_1 t0_2 t0_3 t0_4 t0_5 t0_6 t0_7 t0_8 t0_9 t0_10 t0_11 t0_12 t0_13 t0_14 t0_15 t0_16 t0_17 t0_18 t0_19 t0_20 t0_21 t1_0 t2_0 t3_0 t4_0 t5_0 p67 a47 y49 y50 f51 f53 f55 n lx84 lx85) ∧ Q_VR_txt t (F_VR_text_L33 t0_0 t0_1 t0_2 t0_3 t0_4 t0_5 t0_6 t0_7 t0_8 t0_9 t0_10 t0_11 t0_12 t0_13 t0_14 t0_15 t0_16 t0_17 t0_18 t0_19 t0_20 t0_21 t1_0 t2_0 t3_0 t4_0 t5_0 p67 a47 y49 y50 f51 f53 f55 n lx84 lx85) := by
  intro n
  induction n with
  | zero => intro lx84 lx85 hA0 hm; exact absurd (show False by omega) id
  | succ n ih =>
    intro lx84 lx85 hA0 hm
    have e0 : (0 : Int32).toInt = 0 := rfl
    have e1 : (1 : Int32).toInt = 1 := rfl
    have eL0 : (0 : Int64).toInt = 0 := rfl
    have em : (-1 : Int32).toInt = -1 := rfl
    rw [S_VR_text_L33.eq_2, F_VR_text_L33.eq_2]
    by_cases g1 : t0_1 ≤ lx84
    ·
      rw [if_pos g1, if_pos g1]
      refine ⟨trivial, ?_⟩
      (unfold Q_VR_txt; dsimp only; exact hf)
    ·
      rw [if_neg g1, if_neg g1]
      have hb : 0 ≤ lx84.toInt ∧ lx84.toInt < 64 := ⟨hA0.1, by have := q_nleI g1; omega⟩
      obtain ⟨a2, e3⟩ := q_nm (a47 - 1 : Int32)
      rw [e3]
      have a2i : a2.toInt = a47.toInt - 1 := by rw [← e3]; exact q_subI (x := a47.toInt) (y := 1) rfl (by decide) (by omega) (by omega)
      refine v_cons (by rw [vr_64 ⟨by omega, by omega⟩ hb]; omega) ?_
      refine v_cons (by rw [vr_64 ⟨by omega, by omega⟩ hb]; omega) ?_
      obtain ⟨a4, e5⟩ := q_nm (lx84 + 1 : Int32)
      rw [e5]
      have a4i : a4.toInt = lx84.toInt + 1 := by rw [← e5]; exact q_addI (x := lx84.toInt) (y := 1) rfl (by decide) (by omega) (by omega)
      exact ih _ _ ⟨by omega, by omega⟩ (by omega)
theorem T_VR_text {t0_0 : Int32} {t0_1 : Int32} {t0_2 : Int32} {t0_3 : Int32} {t0_4 : Int32} {t0_5 : Int32} {t0_6 : Int32} {t0_7 : Int32} {t0_8 : Int32} {t0_9 : Int32} {t0_10 : Int32} {t0_11 : Int32} {t0_12 : Int32} {t0_13 : Int32} {t0_14 : Int32} {t0_15 : Int32} {t0_16 : Int32} {t0_17 : Int32} {t0_18 : Int32} {t0_19 : Int32} {t0_20 : Int32} {t0_21 : Int32} {t1_0 : (Nat → Int32)} {t2_0 : (Nat → Int32)} {t3_0 : (Nat → Int32)} {t4_0 : (Nat → Int64)} {t5_0 : (Nat → Int32)} (hA2 : 0 ≤ t0_2.toInt ∧ t0_2.toInt ≤ 9) (hA1 : 0 ≤ t0_1.toInt) : (S_VR_text t0_0 t0_1 t0_2 t0_3 t0_4 t0_5 t0_6 t0_7 t0_8 t0_9 t0_10 t0_11 t0_12 t0_13 t0_14 t0_15 t0_16 t0_17 t0_18 t0_19 t0_20 t0_21 t1_0 t2_0 t3_0 t4_0 t5_0) ∧ Q_VR_txt t3_0 (F_VR_text t0_0 t0_1 t0_2 t0_3 t0_4 t0_5 t0_6 t0_7 t0_8 t0_9 t0_10 t0_11 t0_12 t0_13 t0_14 t0_15 t0_16 t0_17 t0_18 t0_19 t0_20 t0_21 t1_0 t2_0 t3_0 t4_0 t5_0) := by
  have e0 : (0 : Int32).toInt = 0 := rfl
  have e1 : (1 : Int32).toInt = 1 := rfl
  have eL0 : (0 : Int64).toInt = 0 := rfl
  have em : (-1 : Int32).toInt = -1 := rfl
  have e8 : (8 : Int32).toInt = 8 := rfl
  have e16 : (16 : Int32).toInt = 16 := rfl
  have e32 : (32 : Int32).toInt = 32 := rfl
  have e64 : (64 : Int32).toInt = 64 := rfl
  have e40 : (40 : Int32).toInt = 40 := rfl
  have e255 : (255 : Int32).toInt = 255 := rfl
  unfold S_VR_text F_VR_text
  by_cases g1 : t0_1 ≤ (64 : Int32)
  ·
    rw [if_pos g1, if_pos g1]
    have g1i : t0_1.toInt ≤ 64 := q_leI g1
    have h2 := T_VR_enter (x2 := (4 : Int32)) (x3 := t0_1) (x4 := (0 : Int64)) (t0_0 := t0_0) (t0_1 := t0_1) (t0_2 := t0_2) (t0_3 := t0_3) (t0_4 := t0_4) (t0_5 := t0_5) (t0_6 := t0_6) (t0_7 := t0_7) (t0_8 := t0_8) (t0_9 := t0_9) (t0_10 := t0_10) (t0_11 := t0_11) (t0_12 := t0_12) (t0_13 := t0_13) (t0_14 := t0_14) (t0_15 := t0_15) (t0_16 := t0_16) (t0_17 := t0_17) (t0_18 := t0_18) (t0_19 := t0_19) (t0_20 := t0_20) (t0_21 := t0_21) (t1_0 := t2_0) (t2_0 := t3_0) (t3_0 := t4_0) hA2 ⟨by first | omega | decide, by first | omega | decide⟩
    generalize F_VR_enter (4 : Int32) t0_1 (0 : Int64) t0_0 t0_1 t0_2 t0_3 t0_4 t0_5 t0_6 t0_7 t0_8 t0_9 t0_10 t0_11 t0_12 t0_13 t0_14 t0_15 t0_16 t0_17 t0_18 t0_19 t0_20 t0_21 t2_0 t3_0 t4_0 = p67 at *
    unfold Q_VR_enter at h2
    have qp67 := h2
    unfold S_VR_text_c23 F_VR_text_c23
    by_cases g3 : (p67.1 : Int32) ≤ (0 : Int32)
    ·
      rw [if_pos g3, if_pos g3]
      refine ⟨trivial, ?_⟩
      (unfold Q_VR_txt; dsimp only; exact qp67.1)
    ·
      rw [if_neg g3, if_neg g3]
      have ga := q_nleI g3
      have ha : 1 ≤ p67.1.toInt ∧ p67.1.toInt ≤ 9 := ⟨by omega, qp67.2 (by omega)⟩
      exact vv_tx ha qp67.1 (by omega) _ _ _ (by decide) (by decide)
  ·
    rw [if_neg g1, if_neg g1]
    have g1i : 64 < t0_1.toInt := q_nleI g1
    refine ⟨trivial, ?_⟩
    (unfold Q_VR_txt; dsimp only; exact fun z => z)

/-! a private method of a nest mate, by invokevirtual -/
def q_LM (own : String) (index : Nat) (y : MethodName) (b : ByteArray) (n : Nat) (r : Option FieldType) (k : Nat) (host : String) : Prop :=
  Cond.code y b n r ∈ q_tbl ∧ Cond.initialized y.cls ∈ q_tbl ∧ Cond.methodLinkNest own index y host ∈ q_odd ∧ Cond.instanceMethod y ∈ q_tbl ∧ Cond.selects y.cls y y ∈ q_tbl ∧ (y.cls ≠ "java/lang/invoke/MethodHandle" ∧ y.cls ≠ "java/lang/invoke/VarHandle" ∧ (parseMethodDescriptor y.desc).map (fun d => d.parameters.length) = some k)
section QGM
variable {p : Program} {l : Launch} {e : Env} {R : Room} {s : State} {m : MethodId} {args : Array Value} {below : List Frame} {meth : Method} {c : Code} {H : Heap} {locs : List Loc} {cells slots : Nat} {Q : State → Prop}
variable {D : va_G} {g : Nat → ClassId} {A : Nat → Prop} {ws : va_W} {y0 : MethodName} {b0 : ByteArray} {n0 : Nat} {r0 : Option FieldType} {pc : Nat} {ls : Array Slot} {rest st0 As : List Value}
variable {own host : String} {index : Nat} {y : MethodName} {b : ByteArray} {n k d mc ms : Nat} {r : Option FieldType} {Qc : Array Value → State → Outcome → State → Prop}
theorem q_runVN {a j ci : Nat} {fs : List Value} {q : vw_C} (C0 : q_At p s m args meth c y0 b0 n0 r0) (V : q_Wd D g A s ws H locs) (ho : y0.cls = own) (L : q_LM own index y b n r k host) (hM : Met l y (q_w y b n r) (q_rm d mc ms) (q_P D g (.ref a :: As) ws H.size) Qc mc ms (va_A ws H.size)) (hc : q_cl[ci]? = some q) (hq : q.1 = y.cls) (he : ws[j]? = some (a, .inr (ci, fs))) (hn : As.length = k) (hsz : ls.size = n0) (hst : st0 = As.reverse ++ .ref a :: rest) (hcat : (rest.map fun v => v.category).sum ≤ 8) (hR : d + 1 ≤ R.frames ∧ 8 + (n + 11) + 64 * d ≤ R.locals) (hf : cells + mc ≤ R.cells ∧ slots + ms ≤ R.slots) (hdg : decode b0 pc = .ok (.invokevirtual index, 3)) :
    va_Run p l e R s m args below meth c H locs cells slots mc ms (F0 m pc ls st0) rest (Qc (Value.ref a :: As).toArray) (va_A ws H.size) :=
  va_runVN (As := As) (rest := rest) (host := host) (C := y.cls) ⟨C0.1, C0.2.1, C0.2.2.2.1, by rw [← ho]; exact C0.2.2.2.2.1, C0.2.2.2.2.2.1⟩ hM
    ⟨va_cnB k C0.2.2.2.2.2.1 (q_gw L.1) rfl rfl rfl (V.2.2.2.2.1.1.2.2.2.2 _ L.2.2.1) (C0.2.2.2.2.2.1 _ L.2.1) L.2.2.2.2.2 hR, C0.2.2.2.2.2.1 _ L.2.2.2.1, C0.2.2.2.2.2.1 _ L.2.2.2.2.1⟩
    ⟨q_blind, by rw [← hq]; exact va_recv V.2.2.2.1.1 V.1 hc he, fun U hU hW => q_pre V U hU hW⟩ rfl hn hsz hst (lv_room hcat) hdg hf
end QGM

