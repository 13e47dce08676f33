/-! DirectiveRows: plain, exponential, fixed, general, decimal -/
def Q_VR_plain (x2 t0_17 : Int32) (p : Int32 × (Nat → Int32)) : Prop := t0_17.toInt ≤ p.1.toInt ∧ p.1.toInt ≤ t0_17.toInt + 140 + x2.toInt
theorem vv_p2 {K_F_VR_plain_L21 : Int32 → Int32 → (Nat → Int32) → (Int32 × (Nat → Int32))} {x2 : Int32} {t0_0 : Int32} {t0_1 : Int32} {t0_2 : Int32} {t0_3 : Int32} {t0_4 : Int32} {t0_5 : Int32} {t0_6 : Int32} {t0_7 : Int32} {t0_8 : Int32} {t0_9 : Int32} {t0_10 : Int32} {t0_11 : Int32} {t0_12 : Int32} {t0_13 : Int32} {t0_14 : Int32} {t0_15 : Int32} {t0_16 : Int32} {t0_17 : Int32} {t0_18 : Int32} {t0_19 : Int32} {t0_20 : Int32} {t0_21 : Int32} {t1_0 : (Nat → Int32)} {t2_0 : (Nat → Int32)} {lx35 : Int32} {lx46 : Int32} {lx47 : Int32} {lx48 : (Nat → Int32)} {lx63 : Int32} {lx64 : (Nat → Int32)} {K_S_VR_plain_L21 : Int32 → Int32 → (Nat → Int32) → Prop} (h20 : 0 ≤ t0_20.toInt ∧ t0_20.toInt ≤ 60) (h21 : -20000 ≤ t0_21.toInt ∧ t0_21.toInt ≤ 64) (hL : 0 ≤ t0_17.toInt ∧ t0_17.toInt ≤ 200)(hx2 : 0 ≤ x2.toInt ∧ x2.toInt ≤ 10200) : ∀ (n : Nat) (lx76 : Int32) (lx77 : Int32) (lx78 : (Nat → Int32)), (0 ≤ lx76.toInt ∧ lx76.toInt ≤ x2.toInt) → (x2.toInt - lx76.toInt < (n : Int)) → (t0_17.toInt ≤ lx77.toInt ∧ lx77.toInt ≤ t0_17.toInt + 135 + lx76.toInt) → (S_VR_plain_L103 K_S_VR_plain_L21 x2 t0_0 t0_1 t0_2 t0_3 t0_4 t0_5 t0_6 t0_7 t0_8 t0_9 t0_10 t0_11 t0_12 t0_13 t0_14 t0_15 t0_16 t0_17 t0_18 t0_19 t0_20 t0_21 t1_0 t2_0 lx35 lx46 lx47 lx48 lx63 lx64 n lx76 lx77 lx78) ∧ Q_VR_plain x2 t0_17 (F_VR_plain_L103 K_F_VR_plain_L21 x2 t0_0 t0_1 t0_2 t0_3 t0_4 t0_5 t0_6 t0_7 t0_8 t0_9 t0_10 t0_11 t0_12 t0_13 t0_14 t0_15 t0_16 t0_17 t0_18 t0_19 t0_20 t0_21 t1_0 t2_0 lx35 lx46 lx47 lx48 lx63 lx64 n lx76 lx77 lx78) := by
  intro n
  induction n with
  | zero => intro lx76 lx77 lx78 h0 hm hs; exact absurd (show False by omega) id
  | succ n ih =>
    intro lx76 lx77 lx78 h0 hm hs
    have e0 : (0 : Int32).toInt = 0 := rfl
    have e1 : (1 : Int32).toInt = 1 := rfl
    have eL0 : (0 : Int64).toInt = 0 := rfl
    have em : (-1 : Int32).toInt = -1 := rfl
    rw [S_VR_plain_L103.eq_2, F_VR_plain_L103.eq_2]
    by_cases g1 : x2 ≤ lx76
    ·
      rw [if_pos g1, if_pos g1]
      have g1i : x2.toInt ≤ lx76.toInt := q_leI g1
      refine ⟨trivial, ?_⟩
      (unfold Q_VR_plain; dsimp only; exact ⟨by omega, by omega⟩)
    ·
      rw [if_neg g1, if_neg g1]
      have g1i : lx76.toInt < x2.toInt := q_nleI g1
      have h2 := T_VR_figureAt (x2 := (t0_21 + lx76 : Int32)) (t0_0 := t0_0) (t0_1 := t0_1) (t0_2 := t0_2) (t0_3 := t0_3) (t0_4 := t0_4) (t0_5 := t0_5) (t0_6 := t0_6) (t0_7 := t0_7) (t0_8 := t0_8) (t0_9 := t0_9) (t0_10 := t0_10) (t0_11 := t0_11) (t0_12 := t0_12) (t0_13 := t0_13) (t0_14 := t0_14) (t0_15 := t0_15) (t0_16 := t0_16) (t0_17 := lx77) (t0_18 := t0_18) (t0_19 := t0_19) (t0_20 := t0_20) (t0_21 := t0_21) (t1_0 := t2_0) (by omega)
      with_reducible refine v_owe h2 ?_
      have h3 := T_VR_put (x2 := (48 + ((F_VR_figureAt (t0_21 + lx76 : Int32) t0_0 t0_1 t0_2 t0_3 t0_4 t0_5 t0_6 t0_7 t0_8 t0_9 t0_10 t0_11 t0_12 t0_13 t0_14 t0_15 t0_16 lx77 t0_18 t0_19 t0_20 t0_21 t2_0) : Int32) : Int32)) (t0_0 := t0_0) (t0_1 := t0_1) (t0_2 := t0_2) (t0_3 := t0_3) (t0_4 := t0_4) (t0_5 := t0_5) (t0_6 := t0_6) (t0_7 := t0_7) (t0_8 := t0_8) (t0_9 := t0_9) (t0_10 := t0_10) (t0_11 := t0_11) (t0_12 := t0_12) (t0_13 := t0_13) (t0_14 := t0_14) (t0_15 := t0_15) (t0_16 := t0_16) (t0_17 := lx77) (t0_18 := t0_18) (t0_19 := t0_19) (t0_20 := t0_20) (t0_21 := t0_21) (t1_0 := lx78) ⟨by first | omega | decide, by first | omega | decide⟩
      with_reducible refine v_owe h3.1 ?_
      replace h3 := h3.2
      generalize F_VR_put (48 + ((F_VR_figureAt (t0_21 + lx76 : Int32) t0_0 t0_1 t0_2 t0_3 t0_4 t0_5 t0_6 t0_7 t0_8 t0_9 t0_10 t0_11 t0_12 t0_13 t0_14 t0_15 t0_16 lx77 t0_18 t0_19 t0_20 t0_21 t2_0) : Int32) : Int32) t0_0 t0_1 t0_2 t0_3 t0_4 t0_5 t0_6 t0_7 t0_8 t0_9 t0_10 t0_11 t0_12 t0_13 t0_14 t0_15 t0_16 lx77 t0_18 t0_19 t0_20 t0_21 lx78 = p118 at *
      unfold Q_VR_put at h3
      unfold S_VR_plain_c122 F_VR_plain_c122
      obtain ⟨a4, e5⟩ := q_nm (lx76 + 1 : Int32)
      rw [e5]
      have a4i : a4.toInt = lx76.toInt + 1 := by rw [← e5]; exact q_addI (x := lx76.toInt) (y := 1) rfl (by decide) (by omega) (by omega)
      exact ih _ _ _ ⟨by omega, by omega⟩ (by omega) ⟨by omega, by omega⟩
theorem vv_p1 {x2 : Int32} {t0_0 : Int32} {t0_1 : Int32} {t0_2 : Int32} {t0_3 : Int32} {t0_4 : Int32} {t0_5 : Int32} {t0_6 : Int32} {t0_7 : Int32} {t0_8 : Int32} {t0_9 : Int32} {t0_10 : Int32} {t0_11 : Int32} {t0_12 : Int32} {t0_13 : Int32} {t0_14 : Int32} {t0_15 : Int32} {t0_16 : Int32} {t0_17 : Int32} {t0_18 : Int32} {t0_19 : Int32} {t0_20 : Int32} {t0_21 : Int32} {t1_0 : (Nat → Int32)} {t2_0 : (Nat → Int32)} {lx35 : Int32} (h20 : 0 ≤ t0_20.toInt ∧ t0_20.toInt ≤ 60) (h21 : -20000 ≤ t0_21.toInt ∧ t0_21.toInt ≤ 64) (hL : 0 ≤ t0_17.toInt ∧ t0_17.toInt ≤ 200)(hx2 : 0 ≤ x2.toInt ∧ x2.toInt ≤ 10200)(h35 : (lx35.toInt = 0 ∧ 1 ≤ t0_21.toInt) ∨ (lx35.toInt = t0_21.toInt - 1 ∧ t0_21.toInt < 1)) : ∀ (n : Nat) (lx46 : Int32) (lx47 : Int32) (lx48 : (Nat → Int32)), (lx35.toInt ≤ lx46.toInt ∧ lx46.toInt ≤ t0_21.toInt) → (t0_21.toInt - lx46.toInt < (n : Int)) → (t0_17.toInt ≤ lx47.toInt ∧ lx47.toInt ≤ t0_17.toInt + 2 * (lx46.toInt - lx35.toInt)) → (S_VR_plain_L21 x2 t0_0 t0_1 t0_2 t0_3 t0_4 t0_5 t0_6 t0_7 t0_8 t0_9 t0_10 t0_11 t0_12 t0_13 t0_14 t0_15 t0_16 t0_17 t0_18 t0_19 t0_20 t0_21 t1_0 t2_0 lx35 n lx46 lx47 lx48) ∧ Q_VR_plain x2 t0_17 (F_VR_plain_L21 x2 t0_0 t0_1 t0_2 t0_3 t0_4 t0_5 t0_6 t0_7 t0_8 t0_9 t0_10 t0_11 t0_12 t0_13 t0_14 t0_15 t0_16 t0_17 t0_18 t0_19 t0_20 t0_21 t1_0 t2_0 lx35 n lx46 lx47 lx48) := by
  intro n
  induction n with
  | zero => intro lx46 lx47 lx48 h0 hm hs; exact absurd (show False by omega) id
  | succ n ih =>
    intro lx46 lx47 lx48 h0 hm hs
    have e0 : (0 : Int32).toInt = 0 := rfl
    have e1 : (1 : Int32).toInt = 1 := rfl
    have eL0 : (0 : Int64).toInt = 0 := rfl
    have em : (-1 : Int32).toInt = -1 := rfl
    rw [S_VR_plain_L21.eq_2, F_VR_plain_L21.eq_2]
    by_cases g1 : t0_21 ≤ lx46
    ·
      rw [if_pos g1, if_pos g1]
      have g1i : t0_21.toInt ≤ lx46.toInt := q_leI g1
      by_cases g2 : (0 : Int32) < x2
      ·
        rw [if_pos g2, if_pos g2]
        have g2i : 0 < x2.toInt := q_ltI g2
        unfold S_VR_plain_J95 F_VR_plain_J95
        have h3 := T_VR_put (x2 := (46 : Int32)) (t0_0 := t0_0) (t0_1 := t0_1) (t0_2 := t0_2) (t0_3 := t0_3) (t0_4 := t0_4) (t0_5 := t0_5) (t0_6 := t0_6) (t0_7 := t0_7) (t0_8 := t0_8) (t0_9 := t0_9) (t0_10 := t0_10) (t0_11 := t0_11) (t0_12 := t0_12) (t0_13 := t0_13) (t0_14 := t0_14) (t0_15 := t0_15) (t0_16 := t0_16) (t0_17 := lx47) (t0_18 := t0_18) (t0_19 := t0_19) (t0_20 := t0_20) (t0_21 := t0_21) (t1_0 := lx48) ⟨by first | omega | decide, by first | omega | decide⟩
        with_reducible refine v_owe h3.1 ?_
        replace h3 := h3.2
        generalize F_VR_put (46 : Int32) t0_0 t0_1 t0_2 t0_3 t0_4 t0_5 t0_6 t0_7 t0_8 t0_9 t0_10 t0_11 t0_12 t0_13 t0_14 t0_15 t0_16 lx47 t0_18 t0_19 t0_20 t0_21 lx48 = p152 at *
        unfold Q_VR_put at h3
        unfold S_VR_plain_c98 F_VR_plain_c98
        unfold S_VR_plain_J101 F_VR_plain_J101
        exact vv_p2 h20 h21 hL hx2 _ _ _ _ ⟨by decide, by omega⟩ (by omega) ⟨by omega, by omega⟩
      ·
        rw [if_neg g2, if_neg g2]
        have g2i : x2.toInt ≤ 0 := q_nltI g2
        by_cases g4 : ((F_VR_has (35 : Int32) t0_0 t0_1 t0_2 t0_3 t0_4 t0_5 t0_6 t0_7 t0_8 t0_9 t0_10 t0_11 t0_12 t0_13 t0_14 t0_15 t0_16 lx47 t0_18 t0_19 t0_20 t0_21) : Int32) = (0 : Int32)
        ·
          rw [if_pos g4, if_pos g4]
          unfold S_VR_plain_J101 F_VR_plain_J101
          exact vv_p2 h20 h21 hL hx2 _ _ _ _ ⟨by decide, by omega⟩ (by omega) ⟨by omega, by omega⟩
        ·
          rw [if_neg g4, if_neg g4]
          unfold S_VR_plain_J95 F_VR_plain_J95
          have h5 := T_VR_put (x2 := (46 : Int32)) (t0_0 := t0_0) (t0_1 := t0_1) (t0_2 := t0_2) (t0_3 := t0_3) (t0_4 := t0_4) (t0_5 := t0_5) (t0_6 := t0_6) (t0_7 := t0_7) (t0_8 := t0_8) (t0_9 := t0_9) (t0_10 := t0_10) (t0_11 := t0_11) (t0_12 := t0_12) (t0_13 := t0_13) (t0_14 := t0_14) (t0_15 := t0_15) (t0_16 := t0_16) (t0_17 := lx47) (t0_18 := t0_18) (t0_19 := t0_19) (t0_20 := t0_20) (t0_21 := t0_21) (t1_0 := lx48) ⟨by first | omega | decide, by first | omega | decide⟩
          with_reducible refine v_owe h5.1 ?_
          replace h5 := h5.2
          generalize F_VR_put (46 : Int32) t0_0 t0_1 t0_2 t0_3 t0_4 t0_5 t0_6 t0_7 t0_8 t0_9 t0_10 t0_11 t0_12 t0_13 t0_14 t0_15 t0_16 lx47 t0_18 t0_19 t0_20 t0_21 lx48 = p152 at *
          unfold Q_VR_put at h5
          unfold S_VR_plain_c98 F_VR_plain_c98
          unfold S_VR_plain_J101 F_VR_plain_J101
          exact vv_p2 h20 h21 hL hx2 _ _ _ _ ⟨by decide, by omega⟩ (by omega) ⟨by omega, by omega⟩
    ·
      rw [if_neg g1, if_neg g1]
      have g1i : lx46.toInt < t0_21.toInt := q_nleI g1
      by_cases g6 : ((F_VR_has (44 : Int32) t0_0 t0_1 t0_2 t0_3 t0_4 t0_5 t0_6 t0_7 t0_8 t0_9 t0_10 t0_11 t0_12 t0_13 t0_14 t0_15 t0_16 lx47 t0_18 t0_19 t0_20 t0_21) : Int32) = (0 : Int32)
      ·
        rw [if_pos g6, if_pos g6]
        have h7 := T_VR_figureAt (x2 := lx46) (t0_0 := t0_0) (t0_1 := t0_1) (t0_2 := t0_2) (t0_3 := t0_3) (t0_4 := t0_4) (t0_5 := t0_5) (t0_6 := t0_6) (t0_7 := t0_7) (t0_8 := t0_8) (t0_9 := t0_9) (t0_10 := t0_10) (t0_11 := t0_11) (t0_12 := t0_12) (t0_13 := t0_13) (t0_14 := t0_14) (t0_15 := t0_15) (t0_16 := t0_16) (t0_17 := lx47) (t0_18 := t0_18) (t0_19 := t0_19) (t0_20 := t0_20) (t0_21 := t0_21) (t1_0 := t2_0) (by omega)
        with_reducible refine v_owe h7 ?_
        have h8 := T_VR_put (x2 := (48 + ((F_VR_figureAt lx46 t0_0 t0_1 t0_2 t0_3 t0_4 t0_5 t0_6 t0_7 t0_8 t0_9 t0_10 t0_11 t0_12 t0_13 t0_14 t0_15 t0_16 lx47 t0_18 t0_19 t0_20 t0_21 t2_0) : Int32) : Int32)) (t0_0 := t0_0) (t0_1 := t0_1) (t0_2 := t0_2) (t0_3 := t0_3) (t0_4 := t0_4) (t0_5 := t0_5) (t0_6 := t0_6) (t0_7 := t0_7) (t0_8 := t0_8) (t0_9 := t0_9) (t0_10 := t0_10) (t0_11 := t0_11) (t0_12 := t0_12) (t0_13 := t0_13) (t0_14 := t0_14) (t0_15 := t0_15) (t0_16 := t0_16) (t0_17 := lx47) (t0_18 := t0_18) (t0_19 := t0_19) (t0_20 := t0_20) (t0_21 := t0_21) (t1_0 := lx48) ⟨by first | omega | decide, by first | omega | decide⟩
        with_reducible refine v_owe h8.1 ?_
        replace h8 := h8.2
        generalize F_VR_put (48 + ((F_VR_figureAt lx46 t0_0 t0_1 t0_2 t0_3 t0_4 t0_5 t0_6 t0_7 t0_8 t0_9 t0_10 t0_11 t0_12 t0_13 t0_14 t0_15 t0_16 lx47 t0_18 t0_19 t0_20 t0_21 t2_0) : Int32) : Int32) t0_0 t0_1 t0_2 t0_3 t0_4 t0_5 t0_6 t0_7 t0_8 t0_9 t0_10 t0_11 t0_12 t0_13 t0_14 t0_15 t0_16 lx47 t0_18 t0_19 t0_20 t0_21 lx48 = p207 at *
        unfold Q_VR_put at h8
        unfold S_VR_plain_c73 F_VR_plain_c73
        obtain ⟨a9, e10⟩ := q_nm (lx46 + 1 : Int32)
        rw [e10]
        have a9i : a9.toInt = lx46.toInt + 1 := by rw [← e10]; exact q_addI (x := lx46.toInt) (y := 1) rfl (by decide) (by omega) (by omega)
        exact ih _ _ _ ⟨by omega, by omega⟩ (by omega) ⟨by omega, by omega⟩
      ·
        rw [if_neg g6, if_neg g6]
        by_cases g11 : lx46 ≤ lx35
        ·
          rw [if_pos g11, if_pos g11]
          have g11i : lx46.toInt ≤ lx35.toInt := q_leI g11
          have h12 := T_VR_figureAt (x2 := lx46) (t0_0 := t0_0) (t0_1 := t0_1) (t0_2 := t0_2) (t0_3 := t0_3) (t0_4 := t0_4) (t0_5 := t0_5) (t0_6 := t0_6) (t0_7 := t0_7) (t0_8 := t0_8) (t0_9 := t0_9) (t0_10 := t0_10) (t0_11 := t0_11) (t0_12 := t0_12) (t0_13 := t0_13) (t0_14 := t0_14) (t0_15 := t0_15) (t0_16 := t0_16) (t0_17 := lx47) (t0_18 := t0_18) (t0_19 := t0_19) (t0_20 := t0_20) (t0_21 := t0_21) (t1_0 := t2_0) (by omega)
          with_reducible refine v_owe h12 ?_
          have h13 := T_VR_put (x2 := (48 + ((F_VR_figureAt lx46 t0_0 t0_1 t0_2 t0_3 t0_4 t0_5 t0_6 t0_7 t0_8 t0_9 t0_10 t0_11 t0_12 t0_13 t0_14 t0_15 t0_16 lx47 t0_18 t0_19 t0_20 t0_21 t2_0) : Int32) : Int32)) (t0_0 := t0_0) (t0_1 := t0_1) (t0_2 := t0_2) (t0_3 := t0_3) (t0_4 := t0_4) (t0_5 := t0_5) (t0_6 := t0_6) (t0_7 := t0_7) (t0_8 := t0_8) (t0_9 := t0_9) (t0_10 := t0_10) (t0_11 := t0_11) (t0_12 := t0_12) (t0_13 := t0_13) (t0_14 := t0_14) (t0_15 := t0_15) (t0_16 := t0_16) (t0_17 := lx47) (t0_18 := t0_18) (t0_19 := t0_19) (t0_20 := t0_20) (t0_21 := t0_21) (t1_0 := lx48) ⟨by first | omega | decide, by first | omega | decide⟩
          with_reducible refine v_owe h13.1 ?_
          replace h13 := h13.2
          generalize F_VR_put (48 + ((F_VR_figureAt lx46 t0_0 t0_1 t0_2 t0_3 t0_4 t0_5 t0_6 t0_7 t0_8 t0_9 t0_10 t0_11 t0_12 t0_13 t0_14 t0_15 t0_16 lx47 t0_18 t0_19 t0_20 t0_21 t2_0) : Int32) : Int32) t0_0 t0_1 t0_2 t0_3 t0_4 t0_5 t0_6 t0_7 t0_8 t0_9 t0_10 t0_11 t0_12 t0_13 t0_14 t0_15 t0_16 lx47 t0_18 t0_19 t0_20 t0_21 lx48 = p243 at *
          unfold Q_VR_put at h13
          unfold S_VR_plain_c73_9 F_VR_plain_c73_9
          obtain ⟨a14, e15⟩ := q_nm (lx46 + 1 : Int32)
          rw [e15]
          have a14i : a14.toInt = lx46.toInt + 1 := by rw [← e15]; exact q_addI (x := lx46.toInt) (y := 1) rfl (by decide) (by omega) (by omega)
          exact ih _ _ _ ⟨by omega, by omega⟩ (by omega) ⟨by omega, by omega⟩
        ·
          rw [if_neg g11, if_neg g11]
          have g11i : lx35.toInt < lx46.toInt := q_nleI g11
          by_cases g16 : ((t0_21 - lx46 : Int32) - (t0_21 - lx46 : Int32) / 3 * 3 : Int32) = (0 : Int32)
          ·
            rw [if_pos g16, if_pos g16]
            have h17 := T_VR_put (x2 := (44 : Int32)) (t0_0 := t0_0) (t0_1 := t0_1) (t0_2 := t0_2) (t0_3 := t0_3) (t0_4 := t0_4) (t0_5 := t0_5) (t0_6 := t0_6) (t0_7 := t0_7) (t0_8 := t0_8) (t0_9 := t0_9) (t0_10 := t0_10) (t0_11 := t0_11) (t0_12 := t0_12) (t0_13 := t0_13) (t0_14 := t0_14) (t0_15 := t0_15) (t0_16 := t0_16) (t0_17 := lx47) (t0_18 := t0_18) (t0_19 := t0_19) (t0_20 := t0_20) (t0_21 := t0_21) (t1_0 := lx48) ⟨by first | omega | decide, by first | omega | decide⟩
            with_reducible refine v_owe h17.1 ?_
            replace h17 := h17.2
            generalize F_VR_put (44 : Int32) t0_0 t0_1 t0_2 t0_3 t0_4 t0_5 t0_6 t0_7 t0_8 t0_9 t0_10 t0_11 t0_12 t0_13 t0_14 t0_15 t0_16 lx47 t0_18 t0_19 t0_20 t0_21 lx48 = p307 at *
            unfold Q_VR_put at h17
            unfold S_VR_plain_c61 F_VR_plain_c61
            have h18 := T_VR_figureAt (x2 := lx46) (t0_0 := t0_0) (t0_1 := t0_1) (t0_2 := t0_2) (t0_3 := t0_3) (t0_4 := t0_4) (t0_5 := t0_5) (t0_6 := t0_6) (t0_7 := t0_7) (t0_8 := t0_8) (t0_9 := t0_9) (t0_10 := t0_10) (t0_11 := t0_11) (t0_12 := t0_12) (t0_13 := t0_13) (t0_14 := t0_14) (t0_15 := t0_15) (t0_16 := t0_16) (t0_17 := (p307.1 : Int32)) (t0_18 := t0_18) (t0_19 := t0_19) (t0_20 := t0_20) (t0_21 := t0_21) (t1_0 := t2_0) (by omega)
            with_reducible refine v_owe h18 ?_
            have h19 := T_VR_put (x2 := (48 + ((F_VR_figureAt lx46 t0_0 t0_1 t0_2 t0_3 t0_4 t0_5 t0_6 t0_7 t0_8 t0_9 t0_10 t0_11 t0_12 t0_13 t0_14 t0_15 t0_16 (p307.1 : Int32) t0_18 t0_19 t0_20 t0_21 t2_0) : Int32) : Int32)) (t0_0 := t0_0) (t0_1 := t0_1) (t0_2 := t0_2) (t0_3 := t0_3) (t0_4 := t0_4) (t0_5 := t0_5) (t0_6 := t0_6) (t0_7 := t0_7) (t0_8 := t0_8) (t0_9 := t0_9) (t0_10 := t0_10) (t0_11 := t0_11) (t0_12 := t0_12) (t0_13 := t0_13) (t0_14 := t0_14) (t0_15 := t0_15) (t0_16 := t0_16) (t0_17 := (p307.1 : Int32)) (t0_18 := t0_18) (t0_19 := t0_19) (t0_20 := t0_20) (t0_21 := t0_21) (t1_0 := (p307.2 : (Nat → Int32))) ⟨by first | omega | decide, by first | omega | decide⟩
            with_reducible refine v_owe h19.1 ?_
            replace h19 := h19.2
            generalize F_VR_put (48 + ((F_VR_figureAt lx46 t0_0 t0_1 t0_2 t0_3 t0_4 t0_5 t0_6 t0_7 t0_8 t0_9 t0_10 t0_11 t0_12 t0_13 t0_14 t0_15 t0_16 (p307.1 : Int32) t0_18 t0_19 t0_20 t0_21 t2_0) : Int32) : Int32) t0_0 t0_1 t0_2 t0_3 t0_4 t0_5 t0_6 t0_7 t0_8 t0_9 t0_10 t0_11 t0_12 t0_13 t0_14 t0_15 t0_16 (p307.1 : Int32) t0_18 t0_19 t0_20 t0_21 (p307.2 : (Nat → Int32)) = p337 at *
            unfold Q_VR_put at h19
            unfold S_VR_plain_c73_12 F_VR_plain_c73_12
            obtain ⟨a20, e21⟩ := q_nm (lx46 + 1 : Int32)
            rw [e21]
            have a20i : a20.toInt = lx46.toInt + 1 := by rw [← e21]; exact q_addI (x := lx46.toInt) (y := 1) rfl (by decide) (by omega) (by omega)
            exact ih _ _ _ ⟨by omega, by omega⟩ (by omega) ⟨by omega, by omega⟩
          ·
            rw [if_neg g16, if_neg g16]
            have h22 := T_VR_figureAt (x2 := lx46) (t0_0 := t0_0) (t0_1 := t0_1) (t0_2 := t0_2) (t0_3 := t0_3) (t0_4 := t0_4) (t0_5 := t0_5) (t0_6 := t0_6) (t0_7 := t0_7) (t0_8 := t0_8) (t0_9 := t0_9) (t0_10 := t0_10) (t0_11 := t0_11) (t0_12 := t0_12) (t0_13 := t0_13) (t0_14 := t0_14) (t0_15 := t0_15) (t0_16 := t0_16) (t0_17 := lx47) (t0_18 := t0_18) (t0_19 := t0_19) (t0_20 := t0_20) (t0_21 := t0_21) (t1_0 := t2_0) (by omega)
            with_reducible refine v_owe h22 ?_
            have h23 := T_VR_put (x2 := (48 + ((F_VR_figureAt lx46 t0_0 t0_1 t0_2 t0_3 t0_4 t0_5 t0_6 t0_7 t0_8 t0_9 t0_10 t0_11 t0_12 t0_13 t0_14 t0_15 t0_16 lx47 t0_18 t0_19 t0_20 t0_21 t2_0) : Int32) : Int32)) (t0_0 := t0_0) (t0_1 := t0_1) (t0_2 := t0_2) (t0_3 := t0_3) (t0_4 := t0_4) (t0_5 := t0_5) (t0_6 := t0_6) (t0_7 := t0_7) (t0_8 := t0_8) (t0_9 := t0_9) (t0_10 := t0_10) (t0_11 := t0_11) (t0_12 := t0_12) (t0_13 := t0_13) (t0_14 := t0_14) (t0_15 := t0_15) (t0_16 := t0_16) (t0_17 := lx47) (t0_18 := t0_18) (t0_19 := t0_19) (t0_20 := t0_20) (t0_21 := t0_21) (t1_0 := lx48) ⟨by first | omega | decide, by first | omega | decide⟩
            with_reducible refine v_owe h23.1 ?_
            replace h23 := h23.2
            generalize F_VR_put (48 + ((F_VR_figureAt lx46 t0_0 t0_1 t0_2 t0_3 t0_4 t0_5 t0_6 t0_7 t0_8 t0_9 t0_10 t0_11 t0_12 t0_13 t0_14 t0_15 t0_16 lx47 t0_18 t0_19 t0_20 t0_21 t2_0) : Int32) : Int32) t0_0 t0_1 t0_2 t0_3 t0_4 t0_5 t0_6 t0_7 t0_8 t0_9 t0_10 t0_11 t0_12 t0_13 t0_14 t0_15 t0_16 lx47 t0_18 t0_19 t0_20 t0_21 lx48 = p281 at *
            unfold Q_VR_put at h23
            unfold S_VR_plain_c73_10 F_VR_plain_c73_10
            obtain ⟨a24, e25⟩ := q_nm (lx46 + 1 : Int32)
            rw [e25]
            have a24i : a24.toInt = lx46.toInt + 1 := by rw [← e25]; exact q_addI (x := lx46.toInt) (y := 1) rfl (by decide) (by omega) (by omega)
            exact ih _ _ _ ⟨by omega, by omega⟩ (by omega) ⟨by omega, by omega⟩
theorem T_VR_plain {x2 : Int32} {t0_0 : Int32} {t0_1 : Int32} {t0_2 : Int32} {t0_3 : Int32} {t0_4 : Int32} {t0_5 : Int32} {t0_6 : Int32} {t0_7 : Int32} {t0_8 : Int32} {t0_9 : Int32} {t0_10 : Int32} {t0_11 : Int32} {t0_12 : Int32} {t0_13 : Int32} {t0_14 : Int32} {t0_15 : Int32} {t0_16 : Int32} {t0_17 : Int32} {t0_18 : Int32} {t0_19 : Int32} {t0_20 : Int32} {t0_21 : Int32} {t1_0 : (Nat → Int32)} {t2_0 : (Nat → Int32)} (h20 : 0 ≤ t0_20.toInt ∧ t0_20.toInt ≤ 60) (h21 : -20000 ≤ t0_21.toInt ∧ t0_21.toInt ≤ 64) (hL : 0 ≤ t0_17.toInt ∧ t0_17.toInt ≤ 200)(hx2 : 0 ≤ x2.toInt ∧ x2.toInt ≤ 10200) : (S_VR_plain x2 t0_0 t0_1 t0_2 t0_3 t0_4 t0_5 t0_6 t0_7 t0_8 t0_9 t0_10 t0_11 t0_12 t0_13 t0_14 t0_15 t0_16 t0_17 t0_18 t0_19 t0_20 t0_21 t1_0 t2_0) ∧ Q_VR_plain x2 t0_17 (F_VR_plain x2 t0_0 t0_1 t0_2 t0_3 t0_4 t0_5 t0_6 t0_7 t0_8 t0_9 t0_10 t0_11 t0_12 t0_13 t0_14 t0_15 t0_16 t0_17 t0_18 t0_19 t0_20 t0_21 t1_0 t2_0) := by
  have e0 : (0 : Int32).toInt = 0 := rfl
  have e1 : (1 : Int32).toInt = 1 := rfl
  have eL0 : (0 : Int64).toInt = 0 := rfl
  have em : (-1 : Int32).toInt = -1 := rfl
  unfold S_VR_plain F_VR_plain
  by_cases g1 : (1 : Int32) ≤ t0_21
  ·
    rw [if_pos g1, if_pos g1]
    have g1i : 1 ≤ t0_21.toInt := q_leI g1
    unfold S_VR_plain_J18 F_VR_plain_J18
    exact vv_p1 h20 h21 hL hx2 (by first | exact Or.inl ⟨rfl, by omega⟩ | exact Or.inr ⟨by omega, by omega⟩) _ _ _ _ ⟨by omega, by omega⟩ (by omega) ⟨by omega, by omega⟩
  ·
    rw [if_neg g1, if_neg g1]
    have g1i : t0_21.toInt < 1 := q_nleI g1
    unfold S_VR_plain_J18 F_VR_plain_J18
    have eK : (t0_21 - 1 : Int32).toInt = t0_21.toInt - 1 := q_subI (y := 1) rfl (by decide) (by omega) (by omega); exact vv_p1 h20 h21 hL hx2 (by first | exact Or.inl ⟨rfl, by omega⟩ | exact Or.inr ⟨by omega, by omega⟩) _ _ _ _ ⟨by omega, by omega⟩ (by omega) ⟨by omega, by omega⟩
def Q_VR_ex (lx89 : Int32) (p : Int32 × (Nat → Int32)) : Prop := lx89.toInt ≤ p.1.toInt ∧ p.1.toInt ≤ lx89.toInt + 6
theorem T_VR_exJ {K_F_VR_exponential_L38 : Int32 → Int32 → (Nat → Int32) → (Int32 × (Nat → Int32))} {x2 : Int32} {t0_0 : Int32} {t0_1 : Int32} {t0_2 : Int32} {t0_3 : Int32} {t0_4 : Int32} {t0_5 : Int32} {t0_6 : Int32} {t0_7 : Int32} {t0_8 : Int32} {t0_9 : Int32} {t0_10 : Int32} {t0_11 : Int32} {t0_12 : Int32} {t0_13 : Int32} {t0_14 : Int32} {t0_15 : Int32} {t0_16 : Int32} {t0_17 : Int32} {t0_18 : Int32} {t0_19 : Int32} {t0_20 : Int32} {t0_21 : Int32} {t1_0 : (Nat → Int32)} {t2_0 : (Nat → Int32)} {a38 : Int32} {p64 : (Int32 × (Nat → Int32))} {lx73 : Int32} {lx74 : (Nat → Int32)} {lx88 : Int32} {lx89 : Int32} {lx90 : (Nat → Int32)} {lx107 : Int32} {K_S_VR_exponential_L38 : Int32 → Int32 → (Nat → Int32) → Prop} (hs : 0 ≤ lx89.toInt ∧ lx89.toInt ≤ 20100) : (S_VR_exponential_J75 K_S_VR_exponential_L38 x2 t0_0 t0_1 t0_2 t0_3 t0_4 t0_5 t0_6 t0_7 t0_8 t0_9 t0_10 t0_11 t0_12 t0_13 t0_14 t0_15 t0_16 t0_17 t0_18 t0_19 t0_20 t0_21 t1_0 t2_0 a38 p64 lx73 lx74 lx88 lx89 lx90 lx107) ∧ Q_VR_ex lx89 (F_VR_exponential_J75 K_F_VR_exponential_L38 x2 t0_0 t0_1 t0_2 t0_3 t0_4 t0_5 t0_6 t0_7 t0_8 t0_9 t0_10 t0_11 t0_12 t0_13 t0_14 t0_15 t0_16 t0_17 t0_18 t0_19 t0_20 t0_21 t1_0 t2_0 a38 p64 lx73 lx74 lx88 lx89 lx90 lx107) := by
  have e0 : (0 : Int32).toInt = 0 := rfl
  have e1 : (1 : Int32).toInt = 1 := rfl
  have eL0 : (0 : Int64).toInt = 0 := rfl
  have em : (-1 : Int32).toInt = -1 := rfl
  unfold S_VR_exponential_J75 F_VR_exponential_J75
  have h1 := T_VR_put (x2 := (101 : Int32)) (t0_0 := t0_0) (t0_1 := t0_1) (t0_2 := t0_2) (t0_3 := t0_3) (t0_4 := t0_4) (t0_5 := t0_5) (t0_6 := t0_6) (t0_7 := t0_7) (t0_8 := t0_8) (t0_9 := t0_9) (t0_10 := t0_10) (t0_11 := t0_11) (t0_12 := t0_12) (t0_13 := t0_13) (t0_14 := t0_14) (t0_15 := t0_15) (t0_16 := t0_16) (t0_17 := lx89) (t0_18 := t0_18) (t0_19 := t0_19) (t0_20 := t0_20) (t0_21 := t0_21) (t1_0 := lx90) ⟨by first | omega | decide, by first | omega | decide⟩
  with_reducible refine v_owe h1.1 ?_
  replace h1 := h1.2
  generalize F_VR_put (101 : Int32) t0_0 t0_1 t0_2 t0_3 t0_4 t0_5 t0_6 t0_7 t0_8 t0_9 t0_10 t0_11 t0_12 t0_13 t0_14 t0_15 t0_16 lx89 t0_18 t0_19 t0_20 t0_21 lx90 = p130 at *
  unfold Q_VR_put at h1
  unfold S_VR_exponential_c79 F_VR_exponential_c79
  by_cases g2 : (0 : Int32) ≤ lx107
  ·
    rw [if_pos g2, if_pos g2]
    unfold S_VR_exponential_J94 F_VR_exponential_J94
    have h3 := T_VR_put (x2 := (43 : Int32)) (t0_0 := t0_0) (t0_1 := t0_1) (t0_2 := t0_2) (t0_3 := t0_3) (t0_4 := t0_4) (t0_5 := t0_5) (t0_6 := t0_6) (t0_7 := t0_7) (t0_8 := t0_8) (t0_9 := t0_9) (t0_10 := t0_10) (t0_11 := t0_11) (t0_12 := t0_12) (t0_13 := t0_13) (t0_14 := t0_14) (t0_15 := t0_15) (t0_16 := t0_16) (t0_17 := (p130.1 : Int32)) (t0_18 := t0_18) (t0_19 := t0_19) (t0_20 := t0_20) (t0_21 := t0_21) (t1_0 := (p130.2 : (Nat → Int32))) ⟨by first | omega | decide, by first | omega | decide⟩
    with_reducible refine v_owe h3.1 ?_
    replace h3 := h3.2
    generalize F_VR_put (43 : Int32) t0_0 t0_1 t0_2 t0_3 t0_4 t0_5 t0_6 t0_7 t0_8 t0_9 t0_10 t0_11 t0_12 t0_13 t0_14 t0_15 t0_16 (p130.1 : Int32) t0_18 t0_19 t0_20 t0_21 (p130.2 : (Nat → Int32)) = p164 at *
    unfold Q_VR_put at h3
    unfold S_VR_exponential_c94 F_VR_exponential_c94
    rw [if_pos g2, if_pos g2]
    unfold S_VR_exponential_J107 F_VR_exponential_J107
    by_cases g4 : lx107 ≤ (99 : Int32)
    ·
      rw [if_pos g4, if_pos g4]
      unfold S_VR_exponential_J125 F_VR_exponential_J125
      have h5 := T_VR_put (x2 := (48 + ((lx107 / 10 : Int32) - (lx107 / 10 : Int32) / 10 * 10 : Int32) : Int32)) (t0_0 := t0_0) (t0_1 := t0_1) (t0_2 := t0_2) (t0_3 := t0_3) (t0_4 := t0_4) (t0_5 := t0_5) (t0_6 := t0_6) (t0_7 := t0_7) (t0_8 := t0_8) (t0_9 := t0_9) (t0_10 := t0_10) (t0_11 := t0_11) (t0_12 := t0_12) (t0_13 := t0_13) (t0_14 := t0_14) (t0_15 := t0_15) (t0_16 := t0_16) (t0_17 := (p164.1 : Int32)) (t0_18 := t0_18) (t0_19 := t0_19) (t0_20 := t0_20) (t0_21 := t0_21) (t1_0 := (p164.2 : (Nat → Int32))) ⟨by first | omega | decide, by first | omega | decide⟩
      with_reducible refine v_owe h5.1 ?_
      replace h5 := h5.2
      generalize F_VR_put (48 + ((lx107 / 10 : Int32) - (lx107 / 10 : Int32) / 10 * 10 : Int32) : Int32) t0_0 t0_1 t0_2 t0_3 t0_4 t0_5 t0_6 t0_7 t0_8 t0_9 t0_10 t0_11 t0_12 t0_13 t0_14 t0_15 t0_16 (p164.1 : Int32) t0_18 t0_19 t0_20 t0_21 (p164.2 : (Nat → Int32)) = p216 at *
      unfold Q_VR_put at h5
      unfold S_VR_exponential_c136 F_VR_exponential_c136
      have h6 := T_VR_put (x2 := (48 + (lx107 - lx107 / 10 * 10 : Int32) : Int32)) (t0_0 := t0_0) (t0_1 := t0_1) (t0_2 := t0_2) (t0_3 := t0_3) (t0_4 := t0_4) (t0_5 := t0_5) (t0_6 := t0_6) (t0_7 := t0_7) (t0_8 := t0_8) (t0_9 := t0_9) (t0_10 := t0_10) (t0_11 := t0_11) (t0_12 := t0_12) (t0_13 := t0_13) (t0_14 := t0_14) (t0_15 := t0_15) (t0_16 := t0_16) (t0_17 := (p216.1 : Int32)) (t0_18 := t0_18) (t0_19 := t0_19) (t0_20 := t0_20) (t0_21 := t0_21) (t1_0 := (p216.2 : (Nat → Int32))) ⟨by first | omega | decide, by first | omega | decide⟩
      with_reducible refine v_owe h6.1 ?_
      replace h6 := h6.2
      generalize F_VR_put (48 + (lx107 - lx107 / 10 * 10 : Int32) : Int32) t0_0 t0_1 t0_2 t0_3 t0_4 t0_5 t0_6 t0_7 t0_8 t0_9 t0_10 t0_11 t0_12 t0_13 t0_14 t0_15 t0_16 (p216.1 : Int32) t0_18 t0_19 t0_20 t0_21 (p216.2 : (Nat → Int32)) = p242 at *
      unfold Q_VR_put at h6
      unfold S_VR_exponential_c147 F_VR_exponential_c147
      refine ⟨trivial, ?_⟩
      (unfold Q_VR_ex; dsimp only; exact ⟨by omega, by omega⟩)
    ·
      rw [if_neg g4, if_neg g4]
      have h7 := T_VR_put (x2 := (48 + (lx107 / 100 : Int32) : Int32)) (t0_0 := t0_0) (t0_1 := t0_1) (t0_2 := t0_2) (t0_3 := t0_3) (t0_4 := t0_4) (t0_5 := t0_5) (t0_6 := t0_6) (t0_7 := t0_7) (t0_8 := t0_8) (t0_9 := t0_9) (t0_10 := t0_10) (t0_11 := t0_11) (t0_12 := t0_12) (t0_13 := t0_13) (t0_14 := t0_14) (t0_15 := t0_15) (t0_16 := t0_16) (t0_17 := (p164.1 : Int32)) (t0_18 := t0_18) (t0_19 := t0_19) (t0_20 := t0_20) (t0_21 := t0_21) (t1_0 := (p164.2 : (Nat → Int32))) ⟨by first | omega | decide, by first | omega | decide⟩
      with_reducible refine v_owe h7.1 ?_
      replace h7 := h7.2
      generalize F_VR_put (48 + (lx107 / 100 : Int32) : Int32) t0_0 t0_1 t0_2 t0_3 t0_4 t0_5 t0_6 t0_7 t0_8 t0_9 t0_10 t0_11 t0_12 t0_13 t0_14 t0_15 t0_16 (p164.1 : Int32) t0_18 t0_19 t0_20 t0_21 (p164.2 : (Nat → Int32)) = p273 at *
      unfold Q_VR_put at h7
      unfold S_VR_exponential_c122 F_VR_exponential_c122
      unfold S_VR_exponential_J125 F_VR_exponential_J125
      have h8 := T_VR_put (x2 := (48 + ((lx107 / 10 : Int32) - (lx107 / 10 : Int32) / 10 * 10 : Int32) : Int32)) (t0_0 := t0_0) (t0_1 := t0_1) (t0_2 := t0_2) (t0_3 := t0_3) (t0_4 := t0_4) (t0_5 := t0_5) (t0_6 := t0_6) (t0_7 := t0_7) (t0_8 := t0_8) (t0_9 := t0_9) (t0_10 := t0_10) (t0_11 := t0_11) (t0_12 := t0_12) (t0_13 := t0_13) (t0_14 := t0_14) (t0_15 := t0_15) (t0_16 := t0_16) (t0_17 := (p273.1 : Int32)) (t0_18 := t0_18) (t0_19 := t0_19) (t0_20 := t0_20) (t0_21 := t0_21) (t1_0 := (p273.2 : (Nat → Int32))) ⟨by first | omega | decide, by first | omega | decide⟩
      with_reducible refine v_owe h8.1 ?_
      replace h8 := h8.2
      generalize F_VR_put (48 + ((lx107 / 10 : Int32) - (lx107 / 10 : Int32) / 10 * 10 : Int32) : Int32) t0_0 t0_1 t0_2 t0_3 t0_4 t0_5 t0_6 t0_7 t0_8 t0_9 t0_10 t0_11 t0_12 t0_13 t0_14 t0_15 t0_16 (p273.1 : Int32) t0_18 t0_19 t0_20 t0_21 (p273.2 : (Nat → Int32)) = p216 at *
      unfold Q_VR_put at h8
      unfold S_VR_exponential_c136 F_VR_exponential_c136
      have h9 := T_VR_put (x2 := (48 + (lx107 - lx107 / 10 * 10 : Int32) : Int32)) (t0_0 := t0_0) (t0_1 := t0_1) (t0_2 := t0_2) (t0_3 := t0_3) (t0_4 := t0_4) (t0_5 := t0_5) (t0_6 := t0_6) (t0_7 := t0_7) (t0_8 := t0_8) (t0_9 := t0_9) (t0_10 := t0_10) (t0_11 := t0_11) (t0_12 := t0_12) (t0_13 := t0_13) (t0_14 := t0_14) (t0_15 := t0_15) (t0_16 := t0_16) (t0_17 := (p216.1 : Int32)) (t0_18 := t0_18) (t0_19 := t0_19) (t0_20 := t0_20) (t0_21 := t0_21) (t1_0 := (p216.2 : (Nat → Int32))) ⟨by first | omega | decide, by first | omega | decide⟩
      with_reducible refine v_owe h9.1 ?_
      replace h9 := h9.2
      generalize F_VR_put (48 + (lx107 - lx107 / 10 * 10 : Int32) : Int32) t0_0 t0_1 t0_2 t0_3 t0_4 t0_5 t0_6 t0_7 t0_8 t0_9 t0_10 t0_11 t0_12 t0_13 t0_14 t0_15 t0_16 (p216.1 : Int32) t0_18 t0_19 t0_20 t0_21 (p216.2 : (Nat → Int32)) = p242 at *
      unfold Q_VR_put at h9
      unfold S_VR_exponential_c147 F_VR_exponential_c147
      refine ⟨trivial, ?_⟩
      (unfold Q_VR_ex; dsimp only; exact ⟨by omega, by omega⟩)
  ·
    rw [if_neg g2, if_neg g2]
    unfold S_VR_exponential_J94 F_VR_exponential_J94
    have h10 := T_VR_put (x2 := (45 : Int32)) (t0_0 := t0_0) (t0_1 := t0_1) (t0_2 := t0_2) (t0_3 := t0_3) (t0_4 := t0_4) (t0_5 := t0_5) (t0_6 := t0_6) (t0_7 := t0_7) (t0_8 := t0_8) (t0_9 := t0_9) (t0_10 := t0_10) (t0_11 := t0_11) (t0_12 := t0_12) (t0_13 := t0_13) (t0_14 := t0_14) (t0_15 := t0_15) (t0_16 := t0_16) (t0_17 := (p130.1 : Int32)) (t0_18 := t0_18) (t0_19 := t0_19) (t0_20 := t0_20) (t0_21 := t0_21) (t1_0 := (p130.2 : (Nat → Int32))) ⟨by first | omega | decide, by first | omega | decide⟩
    with_reducible refine v_owe h10.1 ?_
    replace h10 := h10.2
    generalize F_VR_put (45 : Int32) t0_0 t0_1 t0_2 t0_3 t0_4 t0_5 t0_6 t0_7 t0_8 t0_9 t0_10 t0_11 t0_12 t0_13 t0_14 t0_15 t0_16 (p130.1 : Int32) t0_18 t0_19 t0_20 t0_21 (p130.2 : (Nat → Int32)) = p164 at *
    unfold Q_VR_put at h10
    unfold S_VR_exponential_c94 F_VR_exponential_c94
    rw [if_neg g2, if_neg g2]
    obtain ⟨lx173, e11⟩ := q_nm ((-lx107 : Int32) : Int32)
    rw [e11]
    unfold S_VR_exponential_J107 F_VR_exponential_J107
    by_cases g12 : lx173 ≤ (99 : Int32)
    ·
      rw [if_pos g12, if_pos g12]
      unfold S_VR_exponential_J125 F_VR_exponential_J125
      have h13 := T_VR_put (x2 := (48 + ((lx173 / 10 : Int32) - (lx173 / 10 : Int32) / 10 * 10 : Int32) : Int32)) (t0_0 := t0_0) (t0_1 := t0_1) (t0_2 := t0_2) (t0_3 := t0_3) (t0_4 := t0_4) (t0_5 := t0_5) (t0_6 := t0_6) (t0_7 := t0_7) (t0_8 := t0_8) (t0_9 := t0_9) (t0_10 := t0_10) (t0_11 := t0_11) (t0_12 := t0_12) (t0_13 := t0_13) (t0_14 := t0_14) (t0_15 := t0_15) (t0_16 := t0_16) (t0_17 := (p164.1 : Int32)) (t0_18 := t0_18) (t0_19 := t0_19) (t0_20 := t0_20) (t0_21 := t0_21) (t1_0 := (p164.2 : (Nat → Int32))) ⟨by first | omega | decide, by first | omega | decide⟩
      with_reducible refine v_owe h13.1 ?_
      replace h13 := h13.2
      generalize F_VR_put (48 + ((lx173 / 10 : Int32) - (lx173 / 10 : Int32) / 10 * 10 : Int32) : Int32) t0_0 t0_1 t0_2 t0_3 t0_4 t0_5 t0_6 t0_7 t0_8 t0_9 t0_10 t0_11 t0_12 t0_13 t0_14 t0_15 t0_16 (p164.1 : Int32) t0_18 t0_19 t0_20 t0_21 (p164.2 : (Nat → Int32)) = p216 at *
      unfold Q_VR_put at h13
      unfold S_VR_exponential_c136 F_VR_exponential_c136
      have h14 := T_VR_put (x2 := (48 + (lx173 - lx173 / 10 * 10 : Int32) : Int32)) (t0_0 := t0_0) (t0_1 := t0_1) (t0_2 := t0_2) (t0_3 := t0_3) (t0_4 := t0_4) (t0_5 := t0_5) (t0_6 := t0_6) (t0_7 := t0_7) (t0_8 := t0_8) (t0_9 := t0_9) (t0_10 := t0_10) (t0_11 := t0_11) (t0_12 := t0_12) (t0_13 := t0_13) (t0_14 := t0_14) (t0_15 := t0_15) (t0_16 := t0_16) (t0_17 := (p216.1 : Int32)) (t0_18 := t0_18) (t0_19 := t0_19) (t0_20 := t0_20) (t0_21 := t0_21) (t1_0 := (p216.2 : (Nat → Int32))) ⟨by first | omega | decide, by first | omega | decide⟩
      with_reducible refine v_owe h14.1 ?_
      replace h14 := h14.2
      generalize F_VR_put (48 + (lx173 - lx173 / 10 * 10 : Int32) : Int32) t0_0 t0_1 t0_2 t0_3 t0_4 t0_5 t0_6 t0_7 t0_8 t0_9 t0_10 t0_11 t0_12 t0_13 t0_14 t0_15 t0_16 (p216.1 : Int32) t0_18 t0_19 t0_20 t0_21 (p216.2 : (Nat → Int32)) = p242 at *
      unfold Q_VR_put at h14
      unfold S_VR_exponential_c147 F_VR_exponential_c147
      refine ⟨trivial, ?_⟩
      (unfold Q_VR_ex; dsimp only; exact ⟨by omega, by omega⟩)
    ·
      rw [if_neg g12, if_neg g12]
      have h15 := T_VR_put (x2 := (48 + (lx173 / 100 : Int32) : Int32)) (t0_0 := t0_0) (t0_1 := t0_1) (t0_2 := t0_2) (t0_3 := t0_3) (t0_4 := t0_4) (t0_5 := t0_5) (t0_6 := t0_6) (t0_7 := t0_7) (t0_8 := t0_8) (t0_9 := t0_9) (t0_10 := t0_10) (t0_11 := t0_11) (t0_12 := t0_12) (t0_13 := t0_13) (t0_14 := t0_14) (t0_15 := t0_15) (t0_16 := t0_16) (t0_17 := (p164.1 : Int32)) (t0_18 := t0_18) (t0_19 := t0_19) (t0_20 := t0_20) (t0_21 := t0_21) (t1_0 := (p164.2 : (Nat → Int32))) ⟨by first | omega | decide, by first | omega | decide⟩
      with_reducible refine v_owe h15.1 ?_
      replace h15 := h15.2
      generalize F_VR_put (48 + (lx173 / 100 : Int32) : Int32) t0_0 t0_1 t0_2 t0_3 t0_4 t0_5 t0_6 t0_7 t0_8 t0_9 t0_10 t0_11 t0_12 t0_13 t0_14 t0_15 t0_16 (p164.1 : Int32) t0_18 t0_19 t0_20 t0_21 (p164.2 : (Nat → Int32)) = p273 at *
      unfold Q_VR_put at h15
      unfold S_VR_exponential_c122 F_VR_exponential_c122
      unfold S_VR_exponential_J125 F_VR_exponential_J125
      have h16 := T_VR_put (x2 := (48 + ((lx173 / 10 : Int32) - (lx173 / 10 : Int32) / 10 * 10 : Int32) : Int32)) (t0_0 := t0_0) (t0_1 := t0_1) (t0_2 := t0_2) (t0_3 := t0_3) (t0_4 := t0_4) (t0_5 := t0_5) (t0_6 := t0_6) (t0_7 := t0_7) (t0_8 := t0_8) (t0_9 := t0_9) (t0_10 := t0_10) (t0_11 := t0_11) (t0_12 := t0_12) (t0_13 := t0_13) (t0_14 := t0_14) (t0_15 := t0_15) (t0_16 := t0_16) (t0_17 := (p273.1 : Int32)) (t0_18 := t0_18) (t0_19 := t0_19) (t0_20 := t0_20) (t0_21 := t0_21) (t1_0 := (p273.2 : (Nat → Int32))) ⟨by first | omega | decide, by first | omega | decide⟩
      with_reducible refine v_owe h16.1 ?_
      replace h16 := h16.2
      generalize F_VR_put (48 + ((lx173 / 10 : Int32) - (lx173 / 10 : Int32) / 10 * 10 : Int32) : Int32) t0_0 t0_1 t0_2 t0_3 t0_4 t0_5 t0_6 t0_7 t0_8 t0_9 t0_10 t0_11 t0_12 t0_13 t0_14 t0_15 t0_16 (p273.1 : Int32) t0_18 t0_19 t0_20 t0_21 (p273.2 : (Nat → Int32)) = p216 at *
      unfold Q_VR_put at h16
      unfold S_VR_exponential_c136 F_VR_exponential_c136
      have h17 := T_VR_put (x2 := (48 + (lx173 - lx173 / 10 * 10 : Int32) : Int32)) (t0_0 := t0_0) (t0_1 := t0_1) (t0_2 := t0_2) (t0_3 := t0_3) (t0_4 := t0_4) (t0_5 := t0_5) (t0_6 := t0_6) (t0_7 := t0_7) (t0_8 := t0_8) (t0_9 := t0_9) (t0_10 := t0_10) (t0_11 := t0_11) (t0_12 := t0_12) (t0_13 := t0_13) (t0_14 := t0_14) (t0_15 := t0_15) (t0_16 := t0_16) (t0_17 := (p216.1 : Int32)) (t0_18 := t0_18) (t0_19 := t0_19) (t0_20 := t0_20) (t0_21 := t0_21) (t1_0 := (p216.2 : (Nat → Int32))) ⟨by first | omega | decide, by first | omega | decide⟩
      with_reducible refine v_owe h17.1 ?_
      replace h17 := h17.2
      generalize F_VR_put (48 + (lx173 - lx173 / 10 * 10 : Int32) : Int32) t0_0 t0_1 t0_2 t0_3 t0_4 t0_5 t0_6 t0_7 t0_8 t0_9 t0_10 t0_11 t0_12 t0_13 t0_14 t0_15 t0_16 (p216.1 : Int32) t0_18 t0_19 t0_20 t0_21 (p216.2 : (Nat → Int32)) = p242 at *
      unfold Q_VR_put at h17
      unfold S_VR_exponential_c147 F_VR_exponential_c147
      refine ⟨trivial, ?_⟩
      (unfold Q_VR_ex; dsimp only; exact ⟨by omega, by omega⟩)
theorem vr_exB {l x2 t : Int32} {p : Int32 × (Nat → Int32)} (z : Q_VR_ex l p) (a : t.toInt ≤ l.toInt) (b : l.toInt + 6 ≤ t.toInt + 140 + x2.toInt) : Q_VR_plain x2 t p := by unfold Q_VR_ex at z; exact ⟨by omega, by omega⟩
theorem vv_e1 {x2 : Int32} {t0_0 : Int32} {t0_1 : Int32} {t0_2 : Int32} {t0_3 : Int32} {t0_4 : Int32} {t0_5 : Int32} {t0_6 : Int32} {t0_7 : Int32} {t0_8 : Int32} {t0_9 : Int32} {t0_10 : Int32} {t0_11 : Int32} {t0_12 : Int32} {t0_13 : Int32} {t0_14 : Int32} {t0_15 : Int32} {t0_16 : Int32} {t0_17 : Int32} {t0_18 : Int32} {t0_19 : Int32} {t0_20 : Int32} {t0_21 : Int32} {t1_0 : (Nat → Int32)} {t2_0 : (Nat → Int32)} {a38 : Int32} {p64 : (Int32 × (Nat → Int32))} {lx73 : Int32} {lx74 : (Nat → Int32)} (h20 : 0 ≤ t0_20.toInt ∧ t0_20.toInt ≤ 60) (h21 : -20000 ≤ t0_21.toInt ∧ t0_21.toInt ≤ 64) (hL : 0 ≤ t0_17.toInt ∧ t0_17.toInt ≤ 200)(hx2 : 0 ≤ x2.toInt ∧ x2.toInt ≤ 10200) : ∀ (n : Nat) (lx88 : Int32) (lx89 : Int32) (lx90 : (Nat → Int32)), (1 ≤ lx88.toInt ∧ lx88.toInt ≤ x2.toInt + 1) → (x2.toInt + 1 - lx88.toInt < (n : Int)) → (t0_17.toInt ≤ lx89.toInt ∧ lx89.toInt ≤ t0_17.toInt + 2 + lx88.toInt) → (S_VR_exponential_L38 x2 t0_0 t0_1 t0_2 t0_3 t0_4 t0_5 t0_6 t0_7 t0_8 t0_9 t0_10 t0_11 t0_12 t0_13 t0_14 t0_15 t0_16 t0_17 t0_18 t0_19 t0_20 t0_21 t1_0 t2_0 a38 p64 lx73 lx74 n lx88 lx89 lx90) ∧ Q_VR_plain x2 t0_17 (F_VR_exponential_L38 x2 t0_0 t0_1 t0_2 t0_3 t0_4 t0_5 t0_6 t0_7 t0_8 t0_9 t0_10 t0_11 t0_12 t0_13 t0_14 t0_15 t0_16 t0_17 t0_18 t0_19 t0_20 t0_21 t1_0 t2_0 a38 p64 lx73 lx74 n lx88 lx89 lx90) := by
  intro n
  induction n with
  | zero => intro lx88 lx89 lx90 h0 hm hs; exact absurd (show False by omega) id
  | succ n ih =>
    intro lx88 lx89 lx90 h0 hm hs
    have e0 : (0 : Int32).toInt = 0 := rfl
    have e1 : (1 : Int32).toInt = 1 := rfl
    have eL0 : (0 : Int64).toInt = 0 := rfl
    have em : (-1 : Int32).toInt = -1 := rfl
    rw [S_VR_exponential_L38.eq_2, F_VR_exponential_L38.eq_2]
    by_cases g1 : x2 < lx88
    ·
      rw [if_pos g1, if_pos g1]
      have g1i : x2.toInt < lx88.toInt := q_ltI g1
      by_cases g2 : a38 = (0 : Int32)
      ·
        rw [if_pos g2, if_pos g2]
        exact And.imp id (fun z => vr_exB z (by omega) (by omega)) (T_VR_exJ ⟨by omega, by omega⟩)
      ·
        rw [if_neg g2, if_neg g2]
        exact And.imp id (fun z => vr_exB z (by omega) (by omega)) (T_VR_exJ ⟨by omega, by omega⟩)
    ·
      rw [if_neg g1, if_neg g1]
      have g1i : lx88.toInt ≤ x2.toInt := q_nltI g1
      have h3 := T_VR_figureAt (x2 := lx88) (t0_0 := t0_0) (t0_1 := t0_1) (t0_2 := t0_2) (t0_3 := t0_3) (t0_4 := t0_4) (t0_5 := t0_5) (t0_6 := t0_6) (t0_7 := t0_7) (t0_8 := t0_8) (t0_9 := t0_9) (t0_10 := t0_10) (t0_11 := t0_11) (t0_12 := t0_12) (t0_13 := t0_13) (t0_14 := t0_14) (t0_15 := t0_15) (t0_16 := t0_16) (t0_17 := lx89) (t0_18 := t0_18) (t0_19 := t0_19) (t0_20 := t0_20) (t0_21 := t0_21) (t1_0 := t2_0) (by omega)
      with_reducible refine v_owe h3 ?_
      have h4 := T_VR_put (x2 := (48 + ((F_VR_figureAt lx88 t0_0 t0_1 t0_2 t0_3 t0_4 t0_5 t0_6 t0_7 t0_8 t0_9 t0_10 t0_11 t0_12 t0_13 t0_14 t0_15 t0_16 lx89 t0_18 t0_19 t0_20 t0_21 t2_0) : Int32) : Int32)) (t0_0 := t0_0) (t0_1 := t0_1) (t0_2 := t0_2) (t0_3 := t0_3) (t0_4 := t0_4) (t0_5 := t0_5) (t0_6 := t0_6) (t0_7 := t0_7) (t0_8 := t0_8) (t0_9 := t0_9) (t0_10 := t0_10) (t0_11 := t0_11) (t0_12 := t0_12) (t0_13 := t0_13) (t0_14 := t0_14) (t0_15 := t0_15) (t0_16 := t0_16) (t0_17 := lx89) (t0_18 := t0_18) (t0_19 := t0_19) (t0_20 := t0_20) (t0_21 := t0_21) (t1_0 := lx90) ⟨by first | omega | decide, by first | omega | decide⟩
      with_reducible refine v_owe h4.1 ?_
      replace h4 := h4.2
      generalize F_VR_put (48 + ((F_VR_figureAt lx88 t0_0 t0_1 t0_2 t0_3 t0_4 t0_5 t0_6 t0_7 t0_8 t0_9 t0_10 t0_11 t0_12 t0_13 t0_14 t0_15 t0_16 lx89 t0_18 t0_19 t0_20 t0_21 t2_0) : Int32) : Int32) t0_0 t0_1 t0_2 t0_3 t0_4 t0_5 t0_6 t0_7 t0_8 t0_9 t0_10 t0_11 t0_12 t0_13 t0_14 t0_15 t0_16 lx89 t0_18 t0_19 t0_20 t0_21 lx90 = p317 at *
      unfold Q_VR_put at h4
      unfold S_VR_exponential_c52 F_VR_exponential_c52
      obtain ⟨a5, e6⟩ := q_nm (lx88 + 1 : Int32)
      rw [e6]
      have a5i : a5.toInt = lx88.toInt + 1 := by rw [← e6]; exact q_addI (x := lx88.toInt) (y := 1) rfl (by decide) (by omega) (by omega)
      exact ih _ _ _ ⟨by omega, by omega⟩ (by omega) ⟨by omega, by omega⟩
theorem T_VR_exponential {x2 : Int32} {t0_0 : Int32} {t0_1 : Int32} {t0_2 : Int32} {t0_3 : Int32} {t0_4 : Int32} {t0_5 : Int32} {t0_6 : Int32} {t0_7 : Int32} {t0_8 : Int32} {t0_9 : Int32} {t0_10 : Int32} {t0_11 : Int32} {t0_12 : Int32} {t0_13 : Int32} {t0_14 : Int32} {t0_15 : Int32} {t0_16 : Int32} {t0_17 : Int32} {t0_18 : Int32} {t0_19 : Int32} {t0_20 : Int32} {t0_21 : Int32} {t1_0 : (Nat → Int32)} {t2_0 : (Nat → Int32)} (h20 : 0 ≤ t0_20.toInt ∧ t0_20.toInt ≤ 60) (h21 : -20000 ≤ t0_21.toInt ∧ t0_21.toInt ≤ 64) (hL : 0 ≤ t0_17.toInt ∧ t0_17.toInt ≤ 200)(hx2 : 0 ≤ x2.toInt ∧ x2.toInt ≤ 10200) : (S_VR_exponential x2 t0_0 t0_1 t0_2 t0_3 t0_4 t0_5 t0_6 t0_7 t0_8 t0_9 t0_10 t0_11 t0_12 t0_13 t0_14 t0_15 t0_16 t0_17 t0_18 t0_19 t0_20 t0_21 t1_0 t2_0) ∧ Q_VR_plain x2 t0_17 (F_VR_exponential x2 t0_0 t0_1 t0_2 t0_3 t0_4 t0_5 t0_6 t0_7 t0_8 t0_9 t0_10 t0_11 t0_12 t0_13 t0_14 t0_15 t0_16 t0_17 t0_18 t0_19 t0_20 t0_21 t1_0 t2_0) := by
  have e0 : (0 : Int32).toInt = 0 := rfl
  have e1 : (1 : Int32).toInt = 1 := rfl
  have eL0 : (0 : Int64).toInt = 0 := rfl
  have em : (-1 : Int32).toInt = -1 := rfl
  unfold S_VR_exponential F_VR_exponential
  have h1 := T_VR_isZero (t0_0 := t0_0) (t0_1 := t0_1) (t0_2 := t0_2) (t0_3 := t0_3) (t0_4 := t0_4) (t0_5 := t0_5) (t0_6 := t0_6) (t0_7 := t0_7) (t0_8 := t0_8) (t0_9 := t0_9) (t0_10 := t0_10) (t0_11 := t0_11) (t0_12 := t0_12) (t0_13 := t0_13) (t0_14 := t0_14) (t0_15 := t0_15) (t0_16 := t0_16) (t0_17 := t0_17) (t0_18 := t0_18) (t0_19 := t0_19) (t0_20 := t0_20) (t0_21 := t0_21) (t1_0 := t2_0) (by omega)
  with_reducible refine v_owe h1 ?_
  have h2 := T_VR_figureAt (x2 := (0 : Int32)) (t0_0 := t0_0) (t0_1 := t0_1) (t0_2 := t0_2) (t0_3 := t0_3) (t0_4 := t0_4) (t0_5 := t0_5) (t0_6 := t0_6) (t0_7 := t0_7) (t0_8 := t0_8) (t0_9 := t0_9) (t0_10 := t0_10) (t0_11 := t0_11) (t0_12 := t0_12) (t0_13 := t0_13) (t0_14 := t0_14) (t0_15 := t0_15) (t0_16 := t0_16) (t0_17 := t0_17) (t0_18 := t0_18) (t0_19 := t0_19) (t0_20 := t0_20) (t0_21 := t0_21) (t1_0 := t2_0) (by omega)
  with_reducible refine v_owe h2 ?_
  have h3 := T_VR_put (x2 := (48 + ((F_VR_figureAt (0 : Int32) t0_0 t0_1 t0_2 t0_3 t0_4 t0_5 t0_6 t0_7 t0_8 t0_9 t0_10 t0_11 t0_12 t0_13 t0_14 t0_15 t0_16 t0_17 t0_18 t0_19 t0_20 t0_21 t2_0) : Int32) : Int32)) (t0_0 := t0_0) (t0_1 := t0_1) (t0_2 := t0_2) (t0_3 := t0_3) (t0_4 := t0_4) (t0_5 := t0_5) (t0_6 := t0_6) (t0_7 := t0_7) (t0_8 := t0_8) (t0_9 := t0_9) (t0_10 := t0_10) (t0_11 := t0_11) (t0_12 := t0_12) (t0_13 := t0_13) (t0_14 := t0_14) (t0_15 := t0_15) (t0_16 := t0_16) (t0_17 := t0_17) (t0_18 := t0_18) (t0_19 := t0_19) (t0_20 := t0_20) (t0_21 := t0_21) (t1_0 := t1_0) ⟨by first | omega | decide, by first | omega | decide⟩
  with_reducible refine v_owe h3.1 ?_
  replace h3 := h3.2
  generalize F_VR_put (48 + ((F_VR_figureAt (0 : Int32) t0_0 t0_1 t0_2 t0_3 t0_4 t0_5 t0_6 t0_7 t0_8 t0_9 t0_10 t0_11 t0_12 t0_13 t0_14 t0_15 t0_16 t0_17 t0_18 t0_19 t0_20 t0_21 t2_0) : Int32) : Int32) t0_0 t0_1 t0_2 t0_3 t0_4 t0_5 t0_6 t0_7 t0_8 t0_9 t0_10 t0_11 t0_12 t0_13 t0_14 t0_15 t0_16 t0_17 t0_18 t0_19 t0_20 t0_21 t1_0 = p64 at *
  unfold Q_VR_put at h3
  unfold S_VR_exponential_c14 F_VR_exponential_c14
  by_cases g4 : (0 : Int32) < x2
  ·
    rw [if_pos g4, if_pos g4]
    have g4i : 0 < x2.toInt := q_ltI g4
    unfold S_VR_exponential_J30 F_VR_exponential_J30
    have h5 := T_VR_put (x2 := (46 : Int32)) (t0_0 := t0_0) (t0_1 := t0_1) (t0_2 := t0_2) (t0_3 := t0_3) (t0_4 := t0_4) (t0_5 := t0_5) (t0_6 := t0_6) (t0_7 := t0_7) (t0_8 := t0_8) (t0_9 := t0_9) (t0_10 := t0_10) (t0_11 := t0_11) (t0_12 := t0_12) (t0_13 := t0_13) (t0_14 := t0_14) (t0_15 := t0_15) (t0_16 := t0_16) (t0_17 := (p64.1 : Int32)) (t0_18 := t0_18) (t0_19 := t0_19) (t0_20 := t0_20) (t0_21 := t0_21) (t1_0 := (p64.2 : (Nat → Int32))) ⟨by first | omega | decide, by first | omega | decide⟩
    with_reducible refine v_owe h5.1 ?_
    replace h5 := h5.2
    generalize F_VR_put (46 : Int32) t0_0 t0_1 t0_2 t0_3 t0_4 t0_5 t0_6 t0_7 t0_8 t0_9 t0_10 t0_11 t0_12 t0_13 t0_14 t0_15 t0_16 (p64.1 : Int32) t0_18 t0_19 t0_20 t0_21 (p64.2 : (Nat → Int32)) = p351 at *
    unfold Q_VR_put at h5
    unfold S_VR_exponential_c33 F_VR_exponential_c33
    unfold S_VR_exponential_J36 F_VR_exponential_J36
    exact vv_e1 h20 h21 hL hx2 _ _ _ _ ⟨by decide, by omega⟩ (by omega) ⟨by omega, by omega⟩
  ·
    rw [if_neg g4, if_neg g4]
    have g4i : x2.toInt ≤ 0 := q_nltI g4
    by_cases g6 : ((F_VR_has (35 : Int32) t0_0 t0_1 t0_2 t0_3 t0_4 t0_5 t0_6 t0_7 t0_8 t0_9 t0_10 t0_11 t0_12 t0_13 t0_14 t0_15 t0_16 (p64.1 : Int32) t0_18 t0_19 t0_20 t0_21) : Int32) = (0 : Int32)
    ·
      rw [if_pos g6, if_pos g6]
      unfold S_VR_exponential_J36 F_VR_exponential_J36
      exact vv_e1 h20 h21 hL hx2 _ _ _ _ ⟨by decide, by omega⟩ (by omega) ⟨by omega, by omega⟩
    ·
      rw [if_neg g6, if_neg g6]
      unfold S_VR_exponential_J30 F_VR_exponential_J30
      have h7 := T_VR_put (x2 := (46 : Int32)) (t0_0 := t0_0) (t0_1 := t0_1) (t0_2 := t0_2) (t0_3 := t0_3) (t0_4 := t0_4) (t0_5 := t0_5) (t0_6 := t0_6) (t0_7 := t0_7) (t0_8 := t0_8) (t0_9 := t0_9) (t0_10 := t0_10) (t0_11 := t0_11) (t0_12 := t0_12) (t0_13 := t0_13) (t0_14 := t0_14) (t0_15 := t0_15) (t0_16 := t0_16) (t0_17 := (p64.1 : Int32)) (t0_18 := t0_18) (t0_19 := t0_19) (t0_20 := t0_20) (t0_21 := t0_21) (t1_0 := (p64.2 : (Nat → Int32))) ⟨by first | omega | decide, by first | omega | decide⟩
      with_reducible refine v_owe h7.1 ?_
      replace h7 := h7.2
      generalize F_VR_put (46 : Int32) t0_0 t0_1 t0_2 t0_3 t0_4 t0_5 t0_6 t0_7 t0_8 t0_9 t0_10 t0_11 t0_12 t0_13 t0_14 t0_15 t0_16 (p64.1 : Int32) t0_18 t0_19 t0_20 t0_21 (p64.2 : (Nat → Int32)) = p351 at *
      unfold Q_VR_put at h7
      unfold S_VR_exponential_c33 F_VR_exponential_c33
      unfold S_VR_exponential_J36 F_VR_exponential_J36
      exact vv_e1 h20 h21 hL hx2 _ _ _ _ ⟨by decide, by omega⟩ (by omega) ⟨by omega, by omega⟩
def Q_VR_fixed (x2 t0_17 : Int32) (p : Int32 × Int32 × Int32 × (Nat → Int32) × (Nat → Int32)) : Prop := t0_17.toInt ≤ p.1.toInt ∧ p.1.toInt ≤ t0_17.toInt + 140 + x2.toInt
theorem T_VR_fixed {x2 : Int32} {t0_0 : Int32} {t0_1 : Int32} {t0_2 : Int32} {t0_3 : Int32} {t0_4 : Int32} {t0_5 : Int32} {t0_6 : Int32} {t0_7 : Int32} {t0_8 : Int32} {t0_9 : Int32} {t0_10 : Int32} {t0_11 : Int32} {t0_12 : Int32} {t0_13 : Int32} {t0_14 : Int32} {t0_15 : Int32} {t0_16 : Int32} {t0_17 : Int32} {t0_18 : Int32} {t0_19 : Int32} {t0_20 : Int32} {t0_21 : Int32} {t1_0 : (Nat → Int32)} {t2_0 : (Nat → Int32)} (h20 : 0 ≤ t0_20.toInt ∧ t0_20.toInt ≤ 60) (h21 : -20000 ≤ t0_21.toInt ∧ t0_21.toInt ≤ 60) (hL : 0 ≤ t0_17.toInt ∧ t0_17.toInt ≤ 200)(hx2 : 0 ≤ x2.toInt ∧ x2.toInt ≤ 10200) : (S_VR_fixed x2 t0_0 t0_1 t0_2 t0_3 t0_4 t0_5 t0_6 t0_7 t0_8 t0_9 t0_10 t0_11 t0_12 t0_13 t0_14 t0_15 t0_16 t0_17 t0_18 t0_19 t0_20 t0_21 t1_0 t2_0) ∧ Q_VR_fixed x2 t0_17 (F_VR_fixed x2 t0_0 t0_1 t0_2 t0_3 t0_4 t0_5 t0_6 t0_7 t0_8 t0_9 t0_10 t0_11 t0_12 t0_13 t0_14 t0_15 t0_16 t0_17 t0_18 t0_19 t0_20 t0_21 t1_0 t2_0) := by
  have e0 : (0 : Int32).toInt = 0 := rfl
  have e1 : (1 : Int32).toInt = 1 := rfl
  have eL0 : (0 : Int64).toInt = 0 := rfl
  have em : (-1 : Int32).toInt = -1 := rfl
  unfold S_VR_fixed F_VR_fixed
  obtain ⟨a1, e2⟩ := q_nm (t0_21 + x2 : Int32)
  rw [e2]
  have a1i : a1.toInt = t0_21.toInt + x2.toInt := by rw [← e2]; exact q_addI (x := t0_21.toInt) (y := x2.toInt) rfl rfl (by omega) (by omega)
  have h3 := T_VR_keep (x2 := a1) (t0_0 := t0_0) (t0_1 := t0_1) (t0_2 := t0_2) (t0_3 := t0_3) (t0_4 := t0_4) (t0_5 := t0_5) (t0_6 := t0_6) (t0_7 := t0_7) (t0_8 := t0_8) (t0_9 := t0_9) (t0_10 := t0_10) (t0_11 := t0_11) (t0_12 := t0_12) (t0_13 := t0_13) (t0_14 := t0_14) (t0_15 := t0_15) (t0_16 := t0_16) (t0_17 := t0_17) (t0_18 := t0_18) (t0_19 := t0_19) (t0_20 := t0_20) (t0_21 := t0_21) (t1_0 := t2_0) ⟨by omega, by omega⟩ ⟨by omega, by omega⟩
  with_reducible refine v_owe h3.1 ?_
  replace h3 := h3.2
  generalize F_VR_keep a1 t0_0 t0_1 t0_2 t0_3 t0_4 t0_5 t0_6 t0_7 t0_8 t0_9 t0_10 t0_11 t0_12 t0_13 t0_14 t0_15 t0_16 t0_17 t0_18 t0_19 t0_20 t0_21 t2_0 = p47 at *
  unfold Q_VR_keep at h3
  unfold S_VR_fixed_c7 F_VR_fixed_c7
  have h4 := T_VR_plain (x2 := x2) (t0_0 := t0_0) (t0_1 := t0_1) (t0_2 := t0_2) (t0_3 := t0_3) (t0_4 := t0_4) (t0_5 := t0_5) (t0_6 := t0_6) (t0_7 := t0_7) (t0_8 := t0_8) (t0_9 := t0_9) (t0_10 := t0_10) (t0_11 := t0_11) (t0_12 := t0_12) (t0_13 := t0_13) (t0_14 := t0_14) (t0_15 := t0_15) (t0_16 := t0_16) (t0_17 := t0_17) (t0_18 := t0_18) (t0_19 := t0_19) (t0_20 := (p47.1 : Int32)) (t0_21 := (p47.2.1 : Int32)) (t1_0 := t1_0) (t2_0 := (p47.2.2 : (Nat → Int32))) ⟨by omega, by omega⟩ ⟨by omega, by omega⟩ ⟨by omega, by omega⟩ ⟨by first | omega | decide, by first | omega | decide⟩
  with_reducible refine v_owe h4.1 ?_
  replace h4 := h4.2
  generalize F_VR_plain x2 t0_0 t0_1 t0_2 t0_3 t0_4 t0_5 t0_6 t0_7 t0_8 t0_9 t0_10 t0_11 t0_12 t0_13 t0_14 t0_15 t0_16 t0_17 t0_18 t0_19 (p47.1 : Int32) (p47.2.1 : Int32) t1_0 (p47.2.2 : (Nat → Int32)) = p66 at *
  unfold Q_VR_plain at h4
  unfold S_VR_fixed_c12 F_VR_fixed_c12
  refine ⟨trivial, ?_⟩
  (unfold Q_VR_fixed; dsimp only; exact ⟨by omega, by omega⟩)
def Q_VR_general (x2 t0_17 : Int32) (p : Int32 × Int32 × Int32 × (Nat → Int32) × (Nat → Int32)) : Prop := t0_17.toInt ≤ p.1.toInt ∧ p.1.toInt ≤ t0_17.toInt + 150 + x2.toInt
theorem T_VR_general {x2 : Int32} {t0_0 : Int32} {t0_1 : Int32} {t0_2 : Int32} {t0_3 : Int32} {t0_4 : Int32} {t0_5 : Int32} {t0_6 : Int32} {t0_7 : Int32} {t0_8 : Int32} {t0_9 : Int32} {t0_10 : Int32} {t0_11 : Int32} {t0_12 : Int32} {t0_13 : Int32} {t0_14 : Int32} {t0_15 : Int32} {t0_16 : Int32} {t0_17 : Int32} {t0_18 : Int32} {t0_19 : Int32} {t0_20 : Int32} {t0_21 : Int32} {t1_0 : (Nat → Int32)} {t2_0 : (Nat → Int32)} (h20 : 0 ≤ t0_20.toInt ∧ t0_20.toInt ≤ 60) (h21 : -20000 ≤ t0_21.toInt ∧ t0_21.toInt ≤ 60) (hL : 0 ≤ t0_17.toInt ∧ t0_17.toInt ≤ 200)(hx2 : 1 ≤ x2.toInt ∧ x2.toInt ≤ 10000) : (S_VR_general x2 t0_0 t0_1 t0_2 t0_3 t0_4 t0_5 t0_6 t0_7 t0_8 t0_9 t0_10 t0_11 t0_12 t0_13 t0_14 t0_15 t0_16 t0_17 t0_18 t0_19 t0_20 t0_21 t1_0 t2_0) ∧ Q_VR_general x2 t0_17 (F_VR_general x2 t0_0 t0_1 t0_2 t0_3 t0_4 t0_5 t0_6 t0_7 t0_8 t0_9 t0_10 t0_11 t0_12 t0_13 t0_14 t0_15 t0_16 t0_17 t0_18 t0_19 t0_20 t0_21 t1_0 t2_0) := by
  have e0 : (0 : Int32).toInt = 0 := rfl
  have e1 : (1 : Int32).toInt = 1 := rfl
  have eL0 : (0 : Int64).toInt = 0 := rfl
  have em : (-1 : Int32).toInt = -1 := rfl
  unfold S_VR_general F_VR_general
  have h1 := T_VR_isZero (t0_0 := t0_0) (t0_1 := t0_1) (t0_2 := t0_2) (t0_3 := t0_3) (t0_4 := t0_4) (t0_5 := t0_5) (t0_6 := t0_6) (t0_7 := t0_7) (t0_8 := t0_8) (t0_9 := t0_9) (t0_10 := t0_10) (t0_11 := t0_11) (t0_12 := t0_12) (t0_13 := t0_13) (t0_14 := t0_14) (t0_15 := t0_15) (t0_16 := t0_16) (t0_17 := t0_17) (t0_18 := t0_18) (t0_19 := t0_19) (t0_20 := t0_20) (t0_21 := t0_21) (t1_0 := t2_0) (by omega)
  with_reducible refine v_owe h1 ?_
  by_cases g2 : ((F_VR_isZero t0_0 t0_1 t0_2 t0_3 t0_4 t0_5 t0_6 t0_7 t0_8 t0_9 t0_10 t0_11 t0_12 t0_13 t0_14 t0_15 t0_16 t0_17 t0_18 t0_19 t0_20 t0_21 t2_0) : Int32) = (0 : Int32)
  ·
    rw [if_pos g2, if_pos g2]
    have h3 := T_VR_keep (x2 := x2) (t0_0 := t0_0) (t0_1 := t0_1) (t0_2 := t0_2) (t0_3 := t0_3) (t0_4 := t0_4) (t0_5 := t0_5) (t0_6 := t0_6) (t0_7 := t0_7) (t0_8 := t0_8) (t0_9 := t0_9) (t0_10 := t0_10) (t0_11 := t0_11) (t0_12 := t0_12) (t0_13 := t0_13) (t0_14 := t0_14) (t0_15 := t0_15) (t0_16 := t0_16) (t0_17 := t0_17) (t0_18 := t0_18) (t0_19 := t0_19) (t0_20 := t0_20) (t0_21 := t0_21) (t1_0 := t2_0) ⟨by omega, by omega⟩ ⟨by omega, by omega⟩
    with_reducible refine v_owe h3.1 ?_
    replace h3 := h3.2
    generalize F_VR_keep x2 t0_0 t0_1 t0_2 t0_3 t0_4 t0_5 t0_6 t0_7 t0_8 t0_9 t0_10 t0_11 t0_12 t0_13 t0_14 t0_15 t0_16 t0_17 t0_18 t0_19 t0_20 t0_21 t2_0 = p55 at *
    unfold Q_VR_keep at h3
    unfold S_VR_general_c17 F_VR_general_c17
    obtain ⟨a4, e5⟩ := q_nm ((p55.2.1 : Int32) - 1 : Int32)
    rw [e5]
    have a4i : a4.toInt = (p55.2.1 : Int32).toInt - 1 := by rw [← e5]; exact q_subI (x := (p55.2.1 : Int32).toInt) (y := 1) rfl (by decide) (by omega) (by omega)
    by_cases g6 : a4 < (-4 : Int32)
    ·
      rw [if_pos g6, if_pos g6]
      have g6i : a4.toInt < -4 := q_ltI g6
      obtain ⟨a7, e8⟩ := q_nm (x2 - 1 : Int32)
      rw [e8]
      have a7i : a7.toInt = x2.toInt - 1 := by rw [← e8]; exact q_subI (x := x2.toInt) (y := 1) rfl (by decide) (by omega) (by omega)
      have h9 := T_VR_exponential (x2 := a7) (t0_0 := t0_0) (t0_1 := t0_1) (t0_2 := t0_2) (t0_3 := t0_3) (t0_4 := t0_4) (t0_5 := t0_5) (t0_6 := t0_6) (t0_7 := t0_7) (t0_8 := t0_8) (t0_9 := t0_9) (t0_10 := t0_10) (t0_11 := t0_11) (t0_12 := t0_12) (t0_13 := t0_13) (t0_14 := t0_14) (t0_15 := t0_15) (t0_16 := t0_16) (t0_17 := t0_17) (t0_18 := t0_18) (t0_19 := t0_19) (t0_20 := (p55.1 : Int32)) (t0_21 := (p55.2.1 : Int32)) (t1_0 := t1_0) (t2_0 := (p55.2.2 : (Nat → Int32))) ⟨by omega, by omega⟩ ⟨by omega, by omega⟩ ⟨by omega, by omega⟩ ⟨by first | omega | decide, by first | omega | decide⟩
      with_reducible refine v_owe h9.1 ?_
      replace h9 := h9.2
      generalize F_VR_exponential a7 t0_0 t0_1 t0_2 t0_3 t0_4 t0_5 t0_6 t0_7 t0_8 t0_9 t0_10 t0_11 t0_12 t0_13 t0_14 t0_15 t0_16 t0_17 t0_18 t0_19 (p55.1 : Int32) (p55.2.1 : Int32) t1_0 (p55.2.2 : (Nat → Int32)) = p84 at *
      unfold Q_VR_plain at h9
      unfold S_VR_general_c54 F_VR_general_c54
      refine ⟨trivial, ?_⟩
      (unfold Q_VR_general; dsimp only; exact ⟨by omega, by omega⟩)
    ·
      rw [if_neg g6, if_neg g6]
      have g6i : -4 ≤ a4.toInt := q_nltI g6
      by_cases g10 : x2 ≤ a4
      ·
        rw [if_pos g10, if_pos g10]
        have g10i : x2.toInt ≤ a4.toInt := q_leI g10
        obtain ⟨a11, e12⟩ := q_nm (x2 - 1 : Int32)
        rw [e12]
        have a11i : a11.toInt = x2.toInt - 1 := by rw [← e12]; exact q_subI (x := x2.toInt) (y := 1) rfl (by decide) (by omega) (by omega)
        have h13 := T_VR_exponential (x2 := a11) (t0_0 := t0_0) (t0_1 := t0_1) (t0_2 := t0_2) (t0_3 := t0_3) (t0_4 := t0_4) (t0_5 := t0_5) (t0_6 := t0_6) (t0_7 := t0_7) (t0_8 := t0_8) (t0_9 := t0_9) (t0_10 := t0_10) (t0_11 := t0_11) (t0_12 := t0_12) (t0_13 := t0_13) (t0_14 := t0_14) (t0_15 := t0_15) (t0_16 := t0_16) (t0_17 := t0_17) (t0_18 := t0_18) (t0_19 := t0_19) (t0_20 := (p55.1 : Int32)) (t0_21 := (p55.2.1 : Int32)) (t1_0 := t1_0) (t2_0 := (p55.2.2 : (Nat → Int32))) ⟨by omega, by omega⟩ ⟨by omega, by omega⟩ ⟨by omega, by omega⟩ ⟨by first | omega | decide, by first | omega | decide⟩
        with_reducible refine v_owe h13.1 ?_
        replace h13 := h13.2
        generalize F_VR_exponential a11 t0_0 t0_1 t0_2 t0_3 t0_4 t0_5 t0_6 t0_7 t0_8 t0_9 t0_10 t0_11 t0_12 t0_13 t0_14 t0_15 t0_16 t0_17 t0_18 t0_19 (p55.1 : Int32) (p55.2.1 : Int32) t1_0 (p55.2.2 : (Nat → Int32)) = p111 at *
        unfold Q_VR_plain at h13
        unfold S_VR_general_c54_3 F_VR_general_c54_3
        refine ⟨trivial, ?_⟩
        (unfold Q_VR_general; dsimp only; exact ⟨by omega, by omega⟩)
      ·
        rw [if_neg g10, if_neg g10]
        have g10i : a4.toInt < x2.toInt := q_nleI g10
        obtain ⟨a14, e15⟩ := q_nm (x2 - 1 : Int32)
        rw [e15]
        have a14i : a14.toInt = x2.toInt - 1 := by rw [← e15]; exact q_subI (x := x2.toInt) (y := 1) rfl (by decide) (by omega) (by omega)
        obtain ⟨a16, e17⟩ := q_nm (a14 - a4 : Int32)
        rw [e17]
        have a16i : a16.toInt = a14.toInt - a4.toInt := by rw [← e17]; exact q_subI (x := a14.toInt) (y := a4.toInt) rfl rfl (by omega) (by omega)
        have h18 := T_VR_plain (x2 := a16) (t0_0 := t0_0) (t0_1 := t0_1) (t0_2 := t0_2) (t0_3 := t0_3) (t0_4 := t0_4) (t0_5 := t0_5) (t0_6 := t0_6) (t0_7 := t0_7) (t0_8 := t0_8) (t0_9 := t0_9) (t0_10 := t0_10) (t0_11 := t0_11) (t0_12 := t0_12) (t0_13 := t0_13) (t0_14 := t0_14) (t0_15 := t0_15) (t0_16 := t0_16) (t0_17 := t0_17) (t0_18 := t0_18) (t0_19 := t0_19) (t0_20 := (p55.1 : Int32)) (t0_21 := (p55.2.1 : Int32)) (t1_0 := t1_0) (t2_0 := (p55.2.2 : (Nat → Int32))) ⟨by omega, by omega⟩ ⟨by omega, by omega⟩ ⟨by omega, by omega⟩ ⟨by first | omega | decide, by first | omega | decide⟩
        with_reducible refine v_owe h18.1 ?_
        replace h18 := h18.2
        generalize F_VR_plain a16 t0_0 t0_1 t0_2 t0_3 t0_4 t0_5 t0_6 t0_7 t0_8 t0_9 t0_10 t0_11 t0_12 t0_13 t0_14 t0_15 t0_16 t0_17 t0_18 t0_19 (p55.1 : Int32) (p55.2.1 : Int32) t1_0 (p55.2.2 : (Nat → Int32)) = p135 at *
        unfold Q_VR_plain at h18
        unfold S_VR_general_c44 F_VR_general_c44
        refine ⟨trivial, ?_⟩
        (unfold Q_VR_general; dsimp only; exact ⟨by omega, by omega⟩)
  ·
    rw [if_neg g2, if_neg g2]
    obtain ⟨a19, e20⟩ := q_nm (x2 - 1 : Int32)
    rw [e20]
    have a19i : a19.toInt = x2.toInt - 1 := by rw [← e20]; exact q_subI (x := x2.toInt) (y := 1) rfl (by decide) (by omega) (by omega)
    have h21 := T_VR_plain (x2 := a19) (t0_0 := t0_0) (t0_1 := t0_1) (t0_2 := t0_2) (t0_3 := t0_3) (t0_4 := t0_4) (t0_5 := t0_5) (t0_6 := t0_6) (t0_7 := t0_7) (t0_8 := t0_8) (t0_9 := t0_9) (t0_10 := t0_10) (t0_11 := t0_11) (t0_12 := t0_12) (t0_13 := t0_13) (t0_14 := t0_14) (t0_15 := t0_15) (t0_16 := t0_16) (t0_17 := t0_17) (t0_18 := t0_18) (t0_19 := t0_19) (t0_20 := t0_20) (t0_21 := t0_21) (t1_0 := t1_0) (t2_0 := t2_0) ⟨by omega, by omega⟩ ⟨by omega, by omega⟩ ⟨by omega, by omega⟩ ⟨by first | omega | decide, by first | omega | decide⟩
    with_reducible refine v_owe h21.1 ?_
    replace h21 := h21.2
    generalize F_VR_plain a19 t0_0 t0_1 t0_2 t0_3 t0_4 t0_5 t0_6 t0_7 t0_8 t0_9 t0_10 t0_11 t0_12 t0_13 t0_14 t0_15 t0_16 t0_17 t0_18 t0_19 t0_20 t0_21 t1_0 t2_0 = p156 at *
    unfold Q_VR_plain at h21
    unfold S_VR_general_c11 F_VR_general_c11
    refine ⟨trivial, ?_⟩
    (unfold Q_VR_general; dsimp only; exact ⟨by omega, by omega⟩)
def Q_VR_dec (t0_17 : Int32) (p : Int32 × Int32 × Int32 × (Nat → Int32) × (Nat → Int32)) : Prop := t0_17.toInt ≤ p.1.toInt ∧ p.1.toInt ≤ t0_17.toInt + 10300
theorem T_VR_decJ {x2 : Int32} {t0_0 : Int32} {t0_1 : Int32} {t0_2 : Int32} {t0_3 : Int32} {t0_4 : Int32} {t0_5 : Int32} {t0_6 : Int32} {t0_7 : Int32} {t0_8 : Int32} {t0_9 : Int32} {t0_10 : Int32} {t0_11 : Int32} {t0_12 : Int32} {t0_13 : Int32} {t0_14 : Int32} {t0_15 : Int32} {t0_16 : Int32} {t0_17 : Int32} {t0_18 : Int32} {t0_19 : Int32} {t0_20 : Int32} {t0_21 : Int32} {t1_0 : (Nat → Int32)} {t2_0 : (Nat → Int64)} {t3_0 : (Nat → Int32)} {t4_0 : (Nat → Int32)} {p63 : (Int32 × Int32 × (Nat → Int32))} {y53 : Int32} {a75 : Int32} {f55 : (Nat → Int32)} {lx79 : Int32} (hM : 0 ≤ y53.toInt ∧ y53.toInt ≤ 60) (hP : -20000 ≤ a75.toInt ∧ a75.toInt ≤ 60) (hL : 0 ≤ t0_17.toInt ∧ t0_17.toInt ≤ 200) (hp : 0 ≤ lx79.toInt ∧ lx79.toInt ≤ 9999) : (S_VR_decimal_IV_J52 x2 t0_0 t0_1 t0_2 t0_3 t0_4 t0_5 t0_6 t0_7 t0_8 t0_9 t0_10 t0_11 t0_12 t0_13 t0_14 t0_15 t0_16 t0_17 t0_18 t0_19 t0_20 t0_21 t1_0 t2_0 t3_0 t4_0 p63 y53 a75 f55 lx79) ∧ Q_VR_dec t0_17 (F_VR_decimal_IV_J52 x2 t0_0 t0_1 t0_2 t0_3 t0_4 t0_5 t0_6 t0_7 t0_8 t0_9 t0_10 t0_11 t0_12 t0_13 t0_14 t0_15 t0_16 t0_17 t0_18 t0_19 t0_20 t0_21 t1_0 t2_0 t3_0 t4_0 p63 y53 a75 f55 lx79) := by
  have e0 : (0 : Int32).toInt = 0 := rfl
  have e1 : (1 : Int32).toInt = 1 := rfl
  have eL0 : (0 : Int64).toInt = 0 := rfl
  have em : (-1 : Int32).toInt = -1 := rfl
  unfold S_VR_decimal_IV_J52 F_VR_decimal_IV_J52
  by_cases g1 : x2 = (102 : Int32)
  ·
    rw [if_pos g1, if_pos g1]
    have h2 := T_VR_fixed (x2 := lx79) (t0_0 := t0_0) (t0_1 := t0_1) (t0_2 := t0_2) (t0_3 := t0_3) (t0_4 := t0_4) (t0_5 := t0_5) (t0_6 := t0_6) (t0_7 := t0_7) (t0_8 := t0_8) (t0_9 := t0_9) (t0_10 := t0_10) (t0_11 := t0_11) (t0_12 := t0_12) (t0_13 := t0_13) (t0_14 := t0_14) (t0_15 := t0_15) (t0_16 := t0_16) (t0_17 := t0_17) (t0_18 := t0_18) (t0_19 := t0_19) (t0_20 := y53) (t0_21 := a75) (t1_0 := t3_0) (t2_0 := f55) ⟨by omega, by omega⟩ ⟨by omega, by omega⟩ ⟨by omega, by omega⟩ ⟨by first | omega | decide, by first | omega | decide⟩
    with_reducible refine v_owe h2.1 ?_
    replace h2 := h2.2
    generalize F_VR_fixed lx79 t0_0 t0_1 t0_2 t0_3 t0_4 t0_5 t0_6 t0_7 t0_8 t0_9 t0_10 t0_11 t0_12 t0_13 t0_14 t0_15 t0_16 t0_17 t0_18 t0_19 y53 a75 t3_0 f55 = p208 at *
    unfold Q_VR_fixed at h2
    unfold S_VR_decimal_IV_c61 F_VR_decimal_IV_c61
    refine ⟨trivial, ?_⟩
    (unfold Q_VR_dec; dsimp only; exact ⟨by omega, by omega⟩)
  ·
    rw [if_neg g1, if_neg g1]
    by_cases g3 : x2 = (101 : Int32)
    ·
      rw [if_pos g3, if_pos g3]
      obtain ⟨a4, e5⟩ := q_nm (lx79 + 1 : Int32)
      rw [e5]
      have a4i : a4.toInt = lx79.toInt + 1 := by rw [← e5]; exact q_addI (x := lx79.toInt) (y := 1) rfl (by decide) (by omega) (by omega)
      have h6 := T_VR_keep (x2 := a4) (t0_0 := t0_0) (t0_1 := t0_1) (t0_2 := t0_2) (t0_3 := t0_3) (t0_4 := t0_4) (t0_5 := t0_5) (t0_6 := t0_6) (t0_7 := t0_7) (t0_8 := t0_8) (t0_9 := t0_9) (t0_10 := t0_10) (t0_11 := t0_11) (t0_12 := t0_12) (t0_13 := t0_13) (t0_14 := t0_14) (t0_15 := t0_15) (t0_16 := t0_16) (t0_17 := t0_17) (t0_18 := t0_18) (t0_19 := t0_19) (t0_20 := y53) (t0_21 := a75) (t1_0 := f55) ⟨by omega, by omega⟩ ⟨by omega, by omega⟩
      with_reducible refine v_owe h6.1 ?_
      replace h6 := h6.2
      generalize F_VR_keep a4 t0_0 t0_1 t0_2 t0_3 t0_4 t0_5 t0_6 t0_7 t0_8 t0_9 t0_10 t0_11 t0_12 t0_13 t0_14 t0_15 t0_16 t0_17 t0_18 t0_19 y53 a75 f55 = p162 at *
      unfold Q_VR_keep at h6
      unfold S_VR_decimal_IV_c77 F_VR_decimal_IV_c77
      have h7 := T_VR_exponential (x2 := lx79) (t0_0 := t0_0) (t0_1 := t0_1) (t0_2 := t0_2) (t0_3 := t0_3) (t0_4 := t0_4) (t0_5 := t0_5) (t0_6 := t0_6) (t0_7 := t0_7) (t0_8 := t0_8) (t0_9 := t0_9) (t0_10 := t0_10) (t0_11 := t0_11) (t0_12 := t0_12) (t0_13 := t0_13) (t0_14 := t0_14) (t0_15 := t0_15) (t0_16 := t0_16) (t0_17 := t0_17) (t0_18 := t0_18) (t0_19 := t0_19) (t0_20 := (p162.1 : Int32)) (t0_21 := (p162.2.1 : Int32)) (t1_0 := t3_0) (t2_0 := (p162.2.2 : (Nat → Int32))) ⟨by omega, by omega⟩ ⟨by omega, by omega⟩ ⟨by omega, by omega⟩ ⟨by first | omega | decide, by first | omega | decide⟩
      with_reducible refine v_owe h7.1 ?_
      replace h7 := h7.2
      generalize F_VR_exponential lx79 t0_0 t0_1 t0_2 t0_3 t0_4 t0_5 t0_6 t0_7 t0_8 t0_9 t0_10 t0_11 t0_12 t0_13 t0_14 t0_15 t0_16 t0_17 t0_18 t0_19 (p162.1 : Int32) (p162.2.1 : Int32) t3_0 (p162.2.2 : (Nat → Int32)) = p185 at *
      unfold Q_VR_plain at h7
      unfold S_VR_decimal_IV_c82 F_VR_decimal_IV_c82
      refine ⟨trivial, ?_⟩
      (unfold Q_VR_dec; dsimp only; exact ⟨by omega, by omega⟩)
    ·
      rw [if_neg g3, if_neg g3]
      by_cases g8 : lx79 = (0 : Int32)
      ·
        rw [if_pos g8, if_pos g8]
        have g8i : lx79.toInt = 0 := q_eqI g8
        have h9 := T_VR_general (x2 := (1 : Int32)) (t0_0 := t0_0) (t0_1 := t0_1) (t0_2 := t0_2) (t0_3 := t0_3) (t0_4 := t0_4) (t0_5 := t0_5) (t0_6 := t0_6) (t0_7 := t0_7) (t0_8 := t0_8) (t0_9 := t0_9) (t0_10 := t0_10) (t0_11 := t0_11) (t0_12 := t0_12) (t0_13 := t0_13) (t0_14 := t0_14) (t0_15 := t0_15) (t0_16 := t0_16) (t0_17 := t0_17) (t0_18 := t0_18) (t0_19 := t0_19) (t0_20 := y53) (t0_21 := a75) (t1_0 := t3_0) (t2_0 := f55) ⟨by omega, by omega⟩ ⟨by omega, by omega⟩ ⟨by omega, by omega⟩ ⟨by first | omega | decide, by first | omega | decide⟩
        with_reducible refine v_owe h9.1 ?_
        replace h9 := h9.2
        generalize F_VR_general (1 : Int32) t0_0 t0_1 t0_2 t0_3 t0_4 t0_5 t0_6 t0_7 t0_8 t0_9 t0_10 t0_11 t0_12 t0_13 t0_14 t0_15 t0_16 t0_17 t0_18 t0_19 y53 a75 t3_0 f55 = p137 at *
        unfold Q_VR_general at h9
        unfold S_VR_decimal_IV_c98_4 F_VR_decimal_IV_c98_4
        refine ⟨trivial, ?_⟩
        (unfold Q_VR_dec; dsimp only; exact ⟨by omega, by omega⟩)
      ·
        rw [if_neg g8, if_neg g8]
        have g8i : lx79.toInt ≠ 0 := q_neI g8
        have h10 := T_VR_general (x2 := lx79) (t0_0 := t0_0) (t0_1 := t0_1) (t0_2 := t0_2) (t0_3 := t0_3) (t0_4 := t0_4) (t0_5 := t0_5) (t0_6 := t0_6) (t0_7 := t0_7) (t0_8 := t0_8) (t0_9 := t0_9) (t0_10 := t0_10) (t0_11 := t0_11) (t0_12 := t0_12) (t0_13 := t0_13) (t0_14 := t0_14) (t0_15 := t0_15) (t0_16 := t0_16) (t0_17 := t0_17) (t0_18 := t0_18) (t0_19 := t0_19) (t0_20 := y53) (t0_21 := a75) (t1_0 := t3_0) (t2_0 := f55) ⟨by omega, by omega⟩ ⟨by omega, by omega⟩ ⟨by omega, by omega⟩ ⟨by first | omega | decide, by first | omega | decide⟩
        with_reducible refine v_owe h10.1 ?_
        replace h10 := h10.2
        generalize F_VR_general lx79 t0_0 t0_1 t0_2 t0_3 t0_4 t0_5 t0_6 t0_7 t0_8 t0_9 t0_10 t0_11 t0_12 t0_13 t0_14 t0_15 t0_16 t0_17 t0_18 t0_19 y53 a75 t3_0 f55 = p111 at *
        unfold Q_VR_general at h10
        unfold S_VR_decimal_IV_c98 F_VR_decimal_IV_c98
        refine ⟨trivial, ?_⟩
        (unfold Q_VR_dec; dsimp only; exact ⟨by omega, by omega⟩)
theorem vr_pt {t : Nat → Int32} {m a : Int32} (hZ : ∀ i, i < 9 → 0 ≤ (t i).toInt ∧ (t i).toInt ≤ 64) (ha : 0 ≤ a.toInt ∧ a.toInt ≤ 8) (hm : 1 ≤ m.toInt ∧ m.toInt ≤ 24) : -20000 ≤ (m - t a.toNatClampNeg : Int32).toInt ∧ (m - t a.toNatClampNeg : Int32).toInt ≤ 60 ∧ (m - t a.toNatClampNeg : Int32).toInt = m.toInt - (t a.toNatClampNeg).toInt ∧ 0 ≤ (t a.toNatClampNeg).toInt ∧ (t a.toNatClampNeg).toInt ≤ 64 := by
  have e := q_clI (i := a) rfl ha.1
  have z := hZ a.toNatClampNeg (by omega)
  have s : (m - t a.toNatClampNeg : Int32).toInt = m.toInt - (t a.toNatClampNeg).toInt := q_subI rfl rfl (by omega) (by omega)
  omega
theorem T_VR_decimal_IV {x2 : Int32} {t0_0 : Int32} {t0_1 : Int32} {t0_2 : Int32} {t0_3 : Int32} {t0_4 : Int32} {t0_5 : Int32} {t0_6 : Int32} {t0_7 : Int32} {t0_8 : Int32} {t0_9 : Int32} {t0_10 : Int32} {t0_11 : Int32} {t0_12 : Int32} {t0_13 : Int32} {t0_14 : Int32} {t0_15 : Int32} {t0_16 : Int32} {t0_17 : Int32} {t0_18 : Int32} {t0_19 : Int32} {t0_20 : Int32} {t0_21 : Int32} {t1_0 : (Nat → Int32)} {t2_0 : (Nat → Int64)} {t3_0 : (Nat → Int32)} {t4_0 : (Nat → Int32)} (hZ : ∀ i, i < 9 → 0 ≤ (t1_0 i).toInt ∧ (t1_0 i).toInt ≤ 64) (h14 : 0 ≤ t0_14.toInt ∧ t0_14.toInt ≤ 8) (h12 : t0_12.toInt ≤ 9999) (hL : 0 ≤ t0_17.toInt ∧ t0_17.toInt ≤ 200) : (S_VR_decimal_IV x2 t0_0 t0_1 t0_2 t0_3 t0_4 t0_5 t0_6 t0_7 t0_8 t0_9 t0_10 t0_11 t0_12 t0_13 t0_14 t0_15 t0_16 t0_17 t0_18 t0_19 t0_20 t0_21 t1_0 t2_0 t3_0 t4_0) ∧ Q_VR_dec t0_17 (F_VR_decimal_IV x2 t0_0 t0_1 t0_2 t0_3 t0_4 t0_5 t0_6 t0_7 t0_8 t0_9 t0_10 t0_11 t0_12 t0_13 t0_14 t0_15 t0_16 t0_17 t0_18 t0_19 t0_20 t0_21 t1_0 t2_0 t3_0 t4_0) := by
  have e0 : (0 : Int32).toInt = 0 := rfl
  have e1 : (1 : Int32).toInt = 1 := rfl
  have eL0 : (0 : Int64).toInt = 0 := rfl
  have em : (-1 : Int32).toInt = -1 := rfl
  unfold S_VR_decimal_IV F_VR_decimal_IV
  refine v_cons (by first | omega | decide) ?_
  refine v_cons (by first | omega | decide) ?_
  have h1 := T_VR_spread (x2 := ((F_VR_size64 (t2_0 t0_14.toNatClampNeg : Int64)) : Int64)) (x3 := (10 : Int32)) (t0_0 := t0_0) (t0_1 := t0_1) (t0_2 := t0_2) (t0_3 := t0_3) (t0_4 := t0_4) (t0_5 := t0_5) (t0_6 := t0_6) (t0_7 := t0_7) (t0_8 := t0_8) (t0_9 := t0_9) (t0_10 := t0_10) (t0_11 := t0_11) (t0_12 := t0_12) (t0_13 := t0_13) (t0_14 := t0_14) (t0_15 := t0_15) (t0_16 := t0_16) (t0_17 := t0_17) (t0_18 := t0_18) (t0_19 := t0_19) (t0_20 := t0_20) (t0_21 := t0_21) (t1_0 := t4_0) (by decide)
  with_reducible refine v_owe h1.1 ?_
  replace h1 := h1.2
  generalize F_VR_spread ((F_VR_size64 (t2_0 t0_14.toNatClampNeg : Int64)) : Int64) (10 : Int32) t0_0 t0_1 t0_2 t0_3 t0_4 t0_5 t0_6 t0_7 t0_8 t0_9 t0_10 t0_11 t0_12 t0_13 t0_14 t0_15 t0_16 t0_17 t0_18 t0_19 t0_20 t0_21 t4_0 = p63 at *
  unfold Q_VR_spread at h1
  have h121 := congrArg Int32.toInt h1.2
  have s20 := h1.1
  unfold S_VR_decimal_IV_c15 F_VR_decimal_IV_c15
  by_cases g2 : (0 : Int32) ≤ t0_12
  ·
    rw [if_pos g2, if_pos g2]
    have g2i : 0 ≤ t0_12.toInt := q_leI g2
    exact T_VR_decJ ⟨by omega, by omega⟩ ⟨(vr_pt hZ h14 s20).1, (vr_pt hZ h14 s20).2.1⟩ hL ⟨by omega, by omega⟩
  ·
    rw [if_neg g2, if_neg g2]
    have g2i : t0_12.toInt < 0 := q_nleI g2
    exact T_VR_decJ ⟨by omega, by omega⟩ ⟨(vr_pt hZ h14 s20).1, (vr_pt hZ h14 s20).2.1⟩ hL (by decide)
