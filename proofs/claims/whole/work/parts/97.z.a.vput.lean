/-! DirectiveRows: put, word, spread, keep -/
def Q_VR_put (t0_17 : Int32) (p : Int32 × (Nat → Int32)) : Prop := p.1.toInt = t0_17.toInt + 1
theorem T_VR_put {x2 : Int32} {t0_0 : Int32} {t0_1 : Int32} {t0_2 : Int32} {t0_3 : Int32} {t0_4 : Int32} {t0_5 : Int32} {t0_6 : Int32} {t0_7 : Int32} {t0_8 : Int32} {t0_9 : Int32} {t0_10 : Int32} {t0_11 : Int32} {t0_12 : Int32} {t0_13 : Int32} {t0_14 : Int32} {t0_15 : Int32} {t0_16 : Int32} {t0_17 : Int32} {t0_18 : Int32} {t0_19 : Int32} {t0_20 : Int32} {t0_21 : Int32} {t1_0 : (Nat → Int32)} (hL : 0 ≤ t0_17.toInt ∧ t0_17.toInt ≤ 20198) : (S_VR_put x2 t0_0 t0_1 t0_2 t0_3 t0_4 t0_5 t0_6 t0_7 t0_8 t0_9 t0_10 t0_11 t0_12 t0_13 t0_14 t0_15 t0_16 t0_17 t0_18 t0_19 t0_20 t0_21 t1_0) ∧ Q_VR_put t0_17 (F_VR_put x2 t0_0 t0_1 t0_2 t0_3 t0_4 t0_5 t0_6 t0_7 t0_8 t0_9 t0_10 t0_11 t0_12 t0_13 t0_14 t0_15 t0_16 t0_17 t0_18 t0_19 t0_20 t0_21 t1_0) := by
  have e0 : (0 : Int32).toInt = 0 := rfl
  have e1 : (1 : Int32).toInt = 1 := rfl
  have eL0 : (0 : Int64).toInt = 0 := rfl
  have em : (-1 : Int32).toInt = -1 := rfl
  unfold S_VR_put F_VR_put
  refine v_cons (by first | omega | decide) ?_
  refine v_cons (by first | omega | decide) ?_
  refine ⟨trivial, ?_⟩
  (unfold Q_VR_put; dsimp only; exact q_addI (y := 1) rfl (by decide) (by omega) (by omega))
def Q_VR_word (t0_17 : Int32) (p : Int32 × (Nat → Int32)) : Prop := t0_17.toInt ≤ p.1.toInt ∧ p.1.toInt ≤ t0_17.toInt + 8
theorem vv_wd {x2 : Int64} {t0_0 : Int32} {t0_1 : Int32} {t0_2 : Int32} {t0_3 : Int32} {t0_4 : Int32} {t0_5 : Int32} {t0_6 : Int32} {t0_7 : Int32} {t0_8 : Int32} {t0_9 : Int32} {t0_10 : Int32} {t0_11 : Int32} {t0_12 : Int32} {t0_13 : Int32} {t0_14 : Int32} {t0_15 : Int32} {t0_16 : Int32} {t0_17 : Int32} {t0_18 : Int32} {t0_19 : Int32} {t0_20 : Int32} {t0_21 : Int32} {t1_0 : (Nat → Int32)} (hL : 0 ≤ t0_17.toInt ∧ t0_17.toInt ≤ 20100) : ∀ (n : Nat) (lx33 : Int64) (lx34 : Int32) (lx35 : (Nat → Int32)), (0 ≤ lx33.toInt) → (∃ j : Nat, lx33.toInt < 256 ^ j ∧ j < n ∧ lx34.toInt + (j : Int) ≤ t0_17.toInt + 8) → (t0_17.toInt ≤ lx34.toInt) → (S_VR_word_L2 x2 t0_0 t0_1 t0_2 t0_3 t0_4 t0_5 t0_6 t0_7 t0_8 t0_9 t0_10 t0_11 t0_12 t0_13 t0_14 t0_15 t0_16 t0_17 t0_18 t0_19 t0_20 t0_21 t1_0 n lx33 lx34 lx35) ∧ Q_VR_word t0_17 (F_VR_word_L2 x2 t0_0 t0_1 t0_2 t0_3 t0_4 t0_5 t0_6 t0_7 t0_8 t0_9 t0_10 t0_11 t0_12 t0_13 t0_14 t0_15 t0_16 t0_17 t0_18 t0_19 t0_20 t0_21 t1_0 n lx33 lx34 lx35) := by
  intro n
  induction n with
  | zero => intro lx33 lx34 lx35 hx hj h0; obtain ⟨j, -, a, -⟩ := hj; omega
  | succ n ih =>
    intro lx33 lx34 lx35 hx hj h0
    have e0 : (0 : Int32).toInt = 0 := rfl
    have e1 : (1 : Int32).toInt = 1 := rfl
    have eL0 : (0 : Int64).toInt = 0 := rfl
    have em : (-1 : Int32).toInt = -1 := rfl
    have h8 : lx34.toInt ≤ t0_17.toInt + 8 := by obtain ⟨j, a, b, c⟩ := hj; omega
    rw [S_VR_word_L2.eq_2, F_VR_word_L2.eq_2]
    by_cases g1 : (lg_cmp lx33 0 : Int32) = (0 : Int32)
    ·
      rw [if_pos g1, if_pos g1]
      refine ⟨trivial, ?_⟩
      (unfold Q_VR_word; dsimp only; exact ⟨by omega, by omega⟩)
    ·
      rw [if_neg g1, if_neg g1]
      have nz := fl_lnz g1
      have h2 := T_VR_put (x2 := ((lx33 &&& 255 : Int64).toInt32 : Int32)) (t0_0 := t0_0) (t0_1 := t0_1) (t0_2 := t0_2) (t0_3 := t0_3) (t0_4 := t0_4) (t0_5 := t0_5) (t0_6 := t0_6) (t0_7 := t0_7) (t0_8 := t0_8) (t0_9 := t0_9) (t0_10 := t0_10) (t0_11 := t0_11) (t0_12 := t0_12) (t0_13 := t0_13) (t0_14 := t0_14) (t0_15 := t0_15) (t0_16 := t0_16) (t0_17 := lx34) (t0_18 := t0_18) (t0_19 := t0_19) (t0_20 := t0_20) (t0_21 := t0_21) (t1_0 := lx35) ⟨by first | omega | decide, by first | omega | decide⟩
      with_reducible refine v_owe h2.1 ?_
      replace h2 := h2.2
      generalize F_VR_put ((lx33 &&& 255 : Int64).toInt32 : Int32) t0_0 t0_1 t0_2 t0_3 t0_4 t0_5 t0_6 t0_7 t0_8 t0_9 t0_10 t0_11 t0_12 t0_13 t0_14 t0_15 t0_16 lx34 t0_18 t0_19 t0_20 t0_21 lx35 = p70 at *
      unfold Q_VR_put at h2
      unfold S_VR_word_c15 F_VR_word_c15
      obtain ⟨j, a, b, c⟩ := hj; have q := tr_256 a (by omega); exact ih _ _ _ (by rw [tr_shr8]; omega) ⟨j - 1, by rw [tr_shr8]; exact q.2, by omega, by omega⟩ (by omega)
theorem T_VR_word {x2 : Int64} {t0_0 : Int32} {t0_1 : Int32} {t0_2 : Int32} {t0_3 : Int32} {t0_4 : Int32} {t0_5 : Int32} {t0_6 : Int32} {t0_7 : Int32} {t0_8 : Int32} {t0_9 : Int32} {t0_10 : Int32} {t0_11 : Int32} {t0_12 : Int32} {t0_13 : Int32} {t0_14 : Int32} {t0_15 : Int32} {t0_16 : Int32} {t0_17 : Int32} {t0_18 : Int32} {t0_19 : Int32} {t0_20 : Int32} {t0_21 : Int32} {t1_0 : (Nat → Int32)} (hL : 0 ≤ t0_17.toInt ∧ t0_17.toInt ≤ 20100) (hx : 0 ≤ x2.toInt) : (S_VR_word x2 t0_0 t0_1 t0_2 t0_3 t0_4 t0_5 t0_6 t0_7 t0_8 t0_9 t0_10 t0_11 t0_12 t0_13 t0_14 t0_15 t0_16 t0_17 t0_18 t0_19 t0_20 t0_21 t1_0) ∧ Q_VR_word t0_17 (F_VR_word x2 t0_0 t0_1 t0_2 t0_3 t0_4 t0_5 t0_6 t0_7 t0_8 t0_9 t0_10 t0_11 t0_12 t0_13 t0_14 t0_15 t0_16 t0_17 t0_18 t0_19 t0_20 t0_21 t1_0) := by
  have e0 : (0 : Int32).toInt = 0 := rfl
  have e1 : (1 : Int32).toInt = 1 := rfl
  have eL0 : (0 : Int64).toInt = 0 := rfl
  have em : (-1 : Int32).toInt = -1 := rfl
  unfold S_VR_word F_VR_word
  exact vv_wd hL 1000000 _ _ _ hx ⟨8, tr_lt8, by decide, by omega⟩ (by omega)
theorem T_VR_figureAt {x2 : Int32} {t0_0 : Int32} {t0_1 : Int32} {t0_2 : Int32} {t0_3 : Int32} {t0_4 : Int32} {t0_5 : Int32} {t0_6 : Int32} {t0_7 : Int32} {t0_8 : Int32} {t0_9 : Int32} {t0_10 : Int32} {t0_11 : Int32} {t0_12 : Int32} {t0_13 : Int32} {t0_14 : Int32} {t0_15 : Int32} {t0_16 : Int32} {t0_17 : Int32} {t0_18 : Int32} {t0_19 : Int32} {t0_20 : Int32} {t0_21 : Int32} {t1_0 : (Nat → Int32)} (h20 : t0_20.toInt ≤ 64) : (S_VR_figureAt x2 t0_0 t0_1 t0_2 t0_3 t0_4 t0_5 t0_6 t0_7 t0_8 t0_9 t0_10 t0_11 t0_12 t0_13 t0_14 t0_15 t0_16 t0_17 t0_18 t0_19 t0_20 t0_21 t1_0) := by
  have e0 : (0 : Int32).toInt = 0 := rfl
  have e1 : (1 : Int32).toInt = 1 := rfl
  have eL0 : (0 : Int64).toInt = 0 := rfl
  have em : (-1 : Int32).toInt = -1 := rfl
  unfold S_VR_figureAt
  by_cases g1 : x2 < (0 : Int32)
  ·
    rw [if_pos g1]
    have g1i : x2.toInt < 0 := q_ltI g1
    exact trivial
  ·
    rw [if_neg g1]
    have g1i : 0 ≤ x2.toInt := q_nltI g1
    by_cases g2 : t0_20 ≤ x2
    ·
      rw [if_pos g2]
      have g2i : t0_20.toInt ≤ x2.toInt := q_leI g2
      exact trivial
    ·
      rw [if_neg g2]
      have g2i : x2.toInt < t0_20.toInt := q_nleI g2
      refine And.intro (by first | omega | decide) ?_
      exact trivial
theorem vv_iz {t0_0 : Int32} {t0_1 : Int32} {t0_2 : Int32} {t0_3 : Int32} {t0_4 : Int32} {t0_5 : Int32} {t0_6 : Int32} {t0_7 : Int32} {t0_8 : Int32} {t0_9 : Int32} {t0_10 : Int32} {t0_11 : Int32} {t0_12 : Int32} {t0_13 : Int32} {t0_14 : Int32} {t0_15 : Int32} {t0_16 : Int32} {t0_17 : Int32} {t0_18 : Int32} {t0_19 : Int32} {t0_20 : Int32} {t0_21 : Int32} {t1_0 : (Nat → Int32)} (h20 : t0_20.toInt ≤ 64) : ∀ (n : Nat) (lx34 : Int32) (lx35 : Int32), (0 ≤ lx34.toInt ∧ lx34.toInt ≤ 64) → (64 - lx34.toInt < (n : Int)) → (S_VR_isZero_L4 t0_0 t0_1 t0_2 t0_3 t0_4 t0_5 t0_6 t0_7 t0_8 t0_9 t0_10 t0_11 t0_12 t0_13 t0_14 t0_15 t0_16 t0_17 t0_18 t0_19 t0_20 t0_21 t1_0 n lx34 lx35) := by
  intro n
  induction n with
  | zero => intro lx34 lx35 h0 hm; exact absurd (show False by omega) id
  | succ n ih =>
    intro lx34 lx35 h0 hm
    have e0 : (0 : Int32).toInt = 0 := rfl
    have e1 : (1 : Int32).toInt = 1 := rfl
    have eL0 : (0 : Int64).toInt = 0 := rfl
    have em : (-1 : Int32).toInt = -1 := rfl
    rw [S_VR_isZero_L4.eq_2]
    by_cases g1 : t0_20 ≤ lx34
    ·
      rw [if_pos g1]
      have g1i : t0_20.toInt ≤ lx34.toInt := q_leI g1
      exact trivial
    ·
      rw [if_neg g1]
      have g1i : lx34.toInt < t0_20.toInt := q_nleI g1
      by_cases g2 : lx35 = (0 : Int32)
      ·
        rw [if_pos g2]
        obtain ⟨a3, e4⟩ := q_nm (lx34 + 1 : Int32)
        rw [e4]
        have a3i : a3.toInt = lx34.toInt + 1 := by rw [← e4]; exact q_addI (x := lx34.toInt) (y := 1) rfl (by decide) (by omega) (by omega)
        exact ih _ _ ⟨by omega, by omega⟩ (by omega)
      ·
        rw [if_neg g2]
        refine And.intro (by first | omega | decide) ?_
        by_cases g5 : (t1_0 lx34.toNatClampNeg : Int32) = (0 : Int32)
        ·
          rw [if_pos g5]
          obtain ⟨a6, e7⟩ := q_nm (lx34 + 1 : Int32)
          rw [e7]
          have a6i : a6.toInt = lx34.toInt + 1 := by rw [← e7]; exact q_addI (x := lx34.toInt) (y := 1) rfl (by decide) (by omega) (by omega)
          exact ih _ _ ⟨by omega, by omega⟩ (by omega)
        ·
          rw [if_neg g5]
          obtain ⟨a8, e9⟩ := q_nm (lx34 + 1 : Int32)
          rw [e9]
          have a8i : a8.toInt = lx34.toInt + 1 := by rw [← e9]; exact q_addI (x := lx34.toInt) (y := 1) rfl (by decide) (by omega) (by omega)
          exact ih _ _ ⟨by omega, by omega⟩ (by omega)
theorem T_VR_isZero {t0_0 : Int32} {t0_1 : Int32} {t0_2 : Int32} {t0_3 : Int32} {t0_4 : Int32} {t0_5 : Int32} {t0_6 : Int32} {t0_7 : Int32} {t0_8 : Int32} {t0_9 : Int32} {t0_10 : Int32} {t0_11 : Int32} {t0_12 : Int32} {t0_13 : Int32} {t0_14 : Int32} {t0_15 : Int32} {t0_16 : Int32} {t0_17 : Int32} {t0_18 : Int32} {t0_19 : Int32} {t0_20 : Int32} {t0_21 : Int32} {t1_0 : (Nat → Int32)} (h20 : t0_20.toInt ≤ 64) : (S_VR_isZero t0_0 t0_1 t0_2 t0_3 t0_4 t0_5 t0_6 t0_7 t0_8 t0_9 t0_10 t0_11 t0_12 t0_13 t0_14 t0_15 t0_16 t0_17 t0_18 t0_19 t0_20 t0_21 t1_0) := by
  have e0 : (0 : Int32).toInt = 0 := rfl
  have e1 : (1 : Int32).toInt = 1 := rfl
  have eL0 : (0 : Int64).toInt = 0 := rfl
  have em : (-1 : Int32).toInt = -1 := rfl
  unfold S_VR_isZero
  exact vv_iz h20 _ _ _ (by decide) (by decide)
def Q_VR_keep (t0_20 t0_21 : Int32) (p : Int32 × Int32 × (Nat → Int32)) : Prop := (0 ≤ p.1.toInt ∧ p.1.toInt ≤ t0_20.toInt) ∧ (t0_21.toInt ≤ p.2.1.toInt ∧ p.2.1.toInt ≤ t0_21.toInt + 1)
theorem vv_k2 {K_F_VR_keep_L49 : Int32 → Int32 → (Nat → Int32) → (Int32 × Int32 × (Nat → Int32))} {x2 : Int32} {t0_0 : Int32} {t0_1 : Int32} {t0_2 : Int32} {t0_3 : Int32} {t0_4 : Int32} {t0_5 : Int32} {t0_6 : Int32} {t0_7 : Int32} {t0_8 : Int32} {t0_9 : Int32} {t0_10 : Int32} {t0_11 : Int32} {t0_12 : Int32} {t0_13 : Int32} {t0_14 : Int32} {t0_15 : Int32} {t0_16 : Int32} {t0_17 : Int32} {t0_18 : Int32} {t0_19 : Int32} {t0_20 : Int32} {t0_21 : Int32} {t1_0 : (Nat → Int32)} {lx34 : Int32} {lx45 : Int32} {lx64 : Int32} {lx65 : Int32} {lx66 : (Nat → Int32)} {K_S_VR_keep_L49 : Int32 → Int32 → (Nat → Int32) → Prop} (h20 : 0 ≤ t0_20.toInt ∧ t0_20.toInt ≤ 60) (h21 : -100000 ≤ t0_21.toInt ∧ t0_21.toInt ≤ 100000)(h45 : 0 ≤ lx45.toInt ∧ lx45.toInt ≤ t0_20.toInt)(h46 : lx45.toInt < t0_20.toInt) : ∀ (n : Nat) (lx93 : Int32) (lx94 : (Nat → Int32)), (0 ≤ lx93.toInt ∧ lx93.toInt ≤ 60) → (lx93.toInt + 1 < (n : Int)) → (S_VR_keep_L112 K_S_VR_keep_L49 x2 t0_0 t0_1 t0_2 t0_3 t0_4 t0_5 t0_6 t0_7 t0_8 t0_9 t0_10 t0_11 t0_12 t0_13 t0_14 t0_15 t0_16 t0_17 t0_18 t0_19 t0_20 t0_21 t1_0 lx34 lx45 lx64 lx65 lx66 n lx93 lx94) ∧ Q_VR_keep t0_20 t0_21 (F_VR_keep_L112 K_F_VR_keep_L49 x2 t0_0 t0_1 t0_2 t0_3 t0_4 t0_5 t0_6 t0_7 t0_8 t0_9 t0_10 t0_11 t0_12 t0_13 t0_14 t0_15 t0_16 t0_17 t0_18 t0_19 t0_20 t0_21 t1_0 lx34 lx45 lx64 lx65 lx66 n lx93 lx94) := by
  intro n
  induction n with
  | zero => intro lx93 lx94 h0 hm; exact absurd (show False by omega) id
  | succ n ih =>
    intro lx93 lx94 h0 hm
    have e0 : (0 : Int32).toInt = 0 := rfl
    have e1 : (1 : Int32).toInt = 1 := rfl
    have eL0 : (0 : Int64).toInt = 0 := rfl
    have em : (-1 : Int32).toInt = -1 := rfl
    rw [S_VR_keep_L112.eq_2, F_VR_keep_L112.eq_2]
    by_cases g1 : lx93 ≤ (0 : Int32)
    ·
      rw [if_pos g1, if_pos g1]
      have g1i : lx93.toInt ≤ 0 := q_leI g1
      refine ⟨trivial, ?_⟩
      (unfold Q_VR_keep; dsimp only; first | exact ⟨⟨by omega, by omega⟩, ⟨by omega, by omega⟩⟩ | (have eA : (lx45 + 1 : Int32).toInt = lx45.toInt + 1 := q_addI (y := 1) rfl (by decide) (by omega) (by omega); have eB : (t0_21 + 1 : Int32).toInt = t0_21.toInt + 1 := q_addI (y := 1) rfl (by decide) (by omega) (by omega); exact ⟨⟨by omega, by omega⟩, ⟨by omega, by omega⟩⟩))
    ·
      rw [if_neg g1, if_neg g1]
      have g1i : 0 < lx93.toInt := q_nleI g1
      obtain ⟨a2, e3⟩ := q_nm (lx93 - 1 : Int32)
      rw [e3]
      have a2i : a2.toInt = lx93.toInt - 1 := by rw [← e3]; exact q_subI (x := lx93.toInt) (y := 1) rfl (by decide) (by omega) (by omega)
      refine v_cons (by first | omega | decide) ?_
      refine v_cons (by first | omega | decide) ?_
      obtain ⟨a4, e5⟩ := q_nm (lx93 + (-1) : Int32)
      rw [e5]
      have a4i : a4.toInt = lx93.toInt + (-1) := by rw [← e5]; exact q_addI (x := lx93.toInt) (y := (-1)) rfl (by decide) (by omega) (by omega)
      exact ih _ _ ⟨by omega, by omega⟩ (by omega)
theorem vv_k1 {x2 : Int32} {t0_0 : Int32} {t0_1 : Int32} {t0_2 : Int32} {t0_3 : Int32} {t0_4 : Int32} {t0_5 : Int32} {t0_6 : Int32} {t0_7 : Int32} {t0_8 : Int32} {t0_9 : Int32} {t0_10 : Int32} {t0_11 : Int32} {t0_12 : Int32} {t0_13 : Int32} {t0_14 : Int32} {t0_15 : Int32} {t0_16 : Int32} {t0_17 : Int32} {t0_18 : Int32} {t0_19 : Int32} {t0_20 : Int32} {t0_21 : Int32} {t1_0 : (Nat → Int32)} {lx34 : Int32} {lx45 : Int32} (h20 : 0 ≤ t0_20.toInt ∧ t0_20.toInt ≤ 60) (h21 : -100000 ≤ t0_21.toInt ∧ t0_21.toInt ≤ 100000)(h45 : 0 ≤ lx45.toInt ∧ lx45.toInt ≤ t0_20.toInt) : ∀ (n : Nat) (lx64 : Int32) (lx65 : Int32) (lx66 : (Nat → Int32)), (-1 ≤ lx64.toInt ∧ lx64.toInt ≤ 60) → (lx64.toInt + 1 < (n : Int)) → (lx65.toInt ≠ 0 → lx45.toInt < t0_20.toInt) → (S_VR_keep_L49 x2 t0_0 t0_1 t0_2 t0_3 t0_4 t0_5 t0_6 t0_7 t0_8 t0_9 t0_10 t0_11 t0_12 t0_13 t0_14 t0_15 t0_16 t0_17 t0_18 t0_19 t0_20 t0_21 t1_0 lx34 lx45 n lx64 lx65 lx66) ∧ Q_VR_keep t0_20 t0_21 (F_VR_keep_L49 x2 t0_0 t0_1 t0_2 t0_3 t0_4 t0_5 t0_6 t0_7 t0_8 t0_9 t0_10 t0_11 t0_12 t0_13 t0_14 t0_15 t0_16 t0_17 t0_18 t0_19 t0_20 t0_21 t1_0 lx34 lx45 n lx64 lx65 lx66) := by
  intro n
  induction n with
  | zero => intro lx64 lx65 lx66 h0 hm hu; exact absurd (show False by omega) id
  | succ n ih =>
    intro lx64 lx65 lx66 h0 hm hu
    have e0 : (0 : Int32).toInt = 0 := rfl
    have e1 : (1 : Int32).toInt = 1 := rfl
    have eL0 : (0 : Int64).toInt = 0 := rfl
    have em : (-1 : Int32).toInt = -1 := rfl
    rw [S_VR_keep_L49.eq_2, F_VR_keep_L49.eq_2]
    by_cases g1 : lx65 = (0 : Int32)
    ·
      rw [if_pos g1, if_pos g1]
      have g1i : lx65.toInt = 0 := q_eqI g1
      unfold S_VR_keep_J102 F_VR_keep_J102
      rw [if_pos g1, if_pos g1]
      refine ⟨trivial, ?_⟩
      (unfold Q_VR_keep; dsimp only; first | exact ⟨⟨by omega, by omega⟩, ⟨by omega, by omega⟩⟩ | (have eA : (lx45 + 1 : Int32).toInt = lx45.toInt + 1 := q_addI (y := 1) rfl (by decide) (by omega) (by omega); have eB : (t0_21 + 1 : Int32).toInt = t0_21.toInt + 1 := q_addI (y := 1) rfl (by decide) (by omega) (by omega); exact ⟨⟨by omega, by omega⟩, ⟨by omega, by omega⟩⟩))
    ·
      rw [if_neg g1, if_neg g1]
      have g1i : lx65.toInt ≠ 0 := q_neI g1
      by_cases g2 : lx64 < (0 : Int32)
      ·
        rw [if_pos g2, if_pos g2]
        have g2i : lx64.toInt < 0 := q_ltI g2
        unfold S_VR_keep_J102 F_VR_keep_J102
        rw [if_neg g1, if_neg g1]
        exact vv_k2 h20 h21 h45 (hu (by omega)) _ _ _ ⟨by omega, by omega⟩ (by omega)
      ·
        rw [if_neg g2, if_neg g2]
        have g2i : 0 ≤ lx64.toInt := q_nltI g2
        refine v_cons (by first | omega | decide) ?_
        by_cases g3 : (lx66 lx64.toNatClampNeg : Int32) = (9 : Int32)
        ·
          rw [if_pos g3, if_pos g3]
          unfold S_VR_keep_J73 F_VR_keep_J73
          have g4 : ¬ ((1 : Int32) = (0 : Int32)) := (by decide)
          rw [if_neg g4, if_neg g4]
          obtain ⟨a5, e6⟩ := q_nm (lx64 + (-1) : Int32)
          rw [e6]
          have a5i : a5.toInt = lx64.toInt + (-1) := by rw [← e6]; exact q_addI (x := lx64.toInt) (y := (-1)) rfl (by decide) (by omega) (by omega)
          exact ih _ _ _ ⟨by omega, by omega⟩ (by omega) (fun _ => hu (by omega))
        ·
          rw [if_neg g3, if_neg g3]
          unfold S_VR_keep_J73 F_VR_keep_J73
          have g7 : ((0 : Int32) = (0 : Int32)) := (by decide)
          rw [if_pos g7, if_pos g7]
          obtain ⟨a8, e9⟩ := q_nm (lx64 + (-1) : Int32)
          rw [e9]
          have a8i : a8.toInt = lx64.toInt + (-1) := by rw [← e9]; exact q_addI (x := lx64.toInt) (y := (-1)) rfl (by decide) (by omega) (by omega)
          exact ih _ _ _ ⟨by omega, by omega⟩ (by omega) (fun _ => hu (by omega))
theorem T_VR_keep {x2 : Int32} {t0_0 : Int32} {t0_1 : Int32} {t0_2 : Int32} {t0_3 : Int32} {t0_4 : Int32} {t0_5 : Int32} {t0_6 : Int32} {t0_7 : Int32} {t0_8 : Int32} {t0_9 : Int32} {t0_10 : Int32} {t0_11 : Int32} {t0_12 : Int32} {t0_13 : Int32} {t0_14 : Int32} {t0_15 : Int32} {t0_16 : Int32} {t0_17 : Int32} {t0_18 : Int32} {t0_19 : Int32} {t0_20 : Int32} {t0_21 : Int32} {t1_0 : (Nat → Int32)} (h20 : 0 ≤ t0_20.toInt ∧ t0_20.toInt ≤ 60) (h21 : -100000 ≤ t0_21.toInt ∧ t0_21.toInt ≤ 100000) : (S_VR_keep x2 t0_0 t0_1 t0_2 t0_3 t0_4 t0_5 t0_6 t0_7 t0_8 t0_9 t0_10 t0_11 t0_12 t0_13 t0_14 t0_15 t0_16 t0_17 t0_18 t0_19 t0_20 t0_21 t1_0) ∧ Q_VR_keep t0_20 t0_21 (F_VR_keep x2 t0_0 t0_1 t0_2 t0_3 t0_4 t0_5 t0_6 t0_7 t0_8 t0_9 t0_10 t0_11 t0_12 t0_13 t0_14 t0_15 t0_16 t0_17 t0_18 t0_19 t0_20 t0_21 t1_0) := by
  have e0 : (0 : Int32).toInt = 0 := rfl
  have e1 : (1 : Int32).toInt = 1 := rfl
  have eL0 : (0 : Int64).toInt = 0 := rfl
  have em : (-1 : Int32).toInt = -1 := rfl
  unfold S_VR_keep F_VR_keep
  by_cases g1 : x2 < t0_20
  ·
    rw [if_pos g1, if_pos g1]
    have g1i : x2.toInt < t0_20.toInt := q_ltI g1
    by_cases g2 : x2 < (0 : Int32)
    ·
      rw [if_pos g2, if_pos g2]
      have g2i : x2.toInt < 0 := q_ltI g2
      unfold S_VR_keep_J27 F_VR_keep_J27
      unfold S_VR_keep_J28 F_VR_keep_J28
      by_cases g3 : (0 : Int32) ≤ x2
      ·
        rw [if_pos g3, if_pos g3]
        have g3i : 0 ≤ x2.toInt := q_leI g3
        unfold S_VR_keep_J39 F_VR_keep_J39
        have eK : (x2 - 1 : Int32).toInt = x2.toInt - 1 := q_subI (y := 1) rfl (by decide) (by omega) (by omega); exact vv_k1 h20 h21 ⟨by first | omega | decide, by first | omega | (rw [e0]; omega)⟩ _ _ _ _ ⟨by first | omega | decide, by first | omega | decide⟩ (by first | omega | decide) (fun h => by first | omega | exact absurd rfl h)
      ·
        rw [if_neg g3, if_neg g3]
        have g3i : x2.toInt < 0 := q_nleI g3
        unfold S_VR_keep_J39 F_VR_keep_J39
        exact vv_k1 h20 h21 ⟨by first | omega | decide, by first | omega | (rw [e0]; omega)⟩ _ _ _ _ ⟨by first | omega | decide, by first | omega | decide⟩ (by first | omega | decide) (fun h => by first | omega | exact absurd rfl h)
    ·
      rw [if_neg g2, if_neg g2]
      have g2i : 0 ≤ x2.toInt := q_nltI g2
      refine v_cons (by first | omega | decide) ?_
      by_cases g4 : (t1_0 x2.toNatClampNeg : Int32) < (5 : Int32)
      ·
        rw [if_pos g4, if_pos g4]
        unfold S_VR_keep_J27 F_VR_keep_J27
        unfold S_VR_keep_J28 F_VR_keep_J28
        by_cases g5 : (0 : Int32) ≤ x2
        ·
          rw [if_pos g5, if_pos g5]
          have g5i : 0 ≤ x2.toInt := q_leI g5
          unfold S_VR_keep_J39 F_VR_keep_J39
          have eK : (x2 - 1 : Int32).toInt = x2.toInt - 1 := q_subI (y := 1) rfl (by decide) (by omega) (by omega); exact vv_k1 h20 h21 ⟨by first | omega | decide, by first | omega | (rw [e0]; omega)⟩ _ _ _ _ ⟨by first | omega | decide, by first | omega | decide⟩ (by first | omega | decide) (fun h => by first | omega | exact absurd rfl h)
        ·
          rw [if_neg g5, if_neg g5]
          have g5i : x2.toInt < 0 := q_nleI g5
          unfold S_VR_keep_J39 F_VR_keep_J39
          exact vv_k1 h20 h21 ⟨by first | omega | decide, by first | omega | (rw [e0]; omega)⟩ _ _ _ _ ⟨by first | omega | decide, by first | omega | decide⟩ (by first | omega | decide) (fun h => by first | omega | exact absurd rfl h)
      ·
        rw [if_neg g4, if_neg g4]
        unfold S_VR_keep_J28 F_VR_keep_J28
        by_cases g6 : (0 : Int32) ≤ x2
        ·
          rw [if_pos g6, if_pos g6]
          have g6i : 0 ≤ x2.toInt := q_leI g6
          unfold S_VR_keep_J39 F_VR_keep_J39
          have eK : (x2 - 1 : Int32).toInt = x2.toInt - 1 := q_subI (y := 1) rfl (by decide) (by omega) (by omega); exact vv_k1 h20 h21 ⟨by first | omega | decide, by first | omega | (rw [e0]; omega)⟩ _ _ _ _ ⟨by first | omega | decide, by first | omega | decide⟩ (by first | omega | decide) (fun h => by first | omega | exact absurd rfl h)
        ·
          rw [if_neg g6, if_neg g6]
          have g6i : x2.toInt < 0 := q_nleI g6
          unfold S_VR_keep_J39 F_VR_keep_J39
          exact vv_k1 h20 h21 ⟨by first | omega | decide, by first | omega | (rw [e0]; omega)⟩ _ _ _ _ ⟨by first | omega | decide, by first | omega | decide⟩ (by first | omega | decide) (fun h => by first | omega | exact absurd rfl h)
  ·
    rw [if_neg g1, if_neg g1]
    have g1i : t0_20.toInt ≤ x2.toInt := q_nltI g1
    refine ⟨trivial, ?_⟩
    (unfold Q_VR_keep; dsimp only; first | exact ⟨⟨by omega, by omega⟩, ⟨by omega, by omega⟩⟩ | (have eA : (lx45 + 1 : Int32).toInt = lx45.toInt + 1 := q_addI (y := 1) rfl (by decide) (by omega) (by omega); have eB : (t0_21 + 1 : Int32).toInt = t0_21.toInt + 1 := q_addI (y := 1) rfl (by decide) (by omega) (by omega); exact ⟨⟨by omega, by omega⟩, ⟨by omega, by omega⟩⟩))
theorem vr_ush {x : Int64} : ((x.toUInt64 >>> ((1 : Int32).toInt64.toUInt64 &&& Int64.toUInt64 63)).toInt64).toInt = ((x.toBitVec.toNat / 2 : Nat) : Int) := by
  have h1 : ((x.toUInt64 >>> ((1 : Int32).toInt64.toUInt64 &&& Int64.toUInt64 63)).toInt64).toBitVec.toNat = x.toBitVec.toNat / 2 := by
    show (x.toUInt64 >>> ((1 : Int32).toInt64.toUInt64 &&& Int64.toUInt64 63)).toBitVec.toNat = _
    rw [UInt64.toBitVec_shiftRight, BitVec.ushiftRight_eq', BitVec.toNat_ushiftRight, show (((1 : Int32).toInt64.toUInt64 &&& Int64.toUInt64 63).toBitVec % 64).toNat = 1 by decide, Nat.shiftRight_eq_div_pow]
    rfl
  have h2 := x.toBitVec.isLt
  exact s_ofL h1 (by omega)
theorem vr_half {x : Int64} : 0 ≤ ((x.toUInt64 >>> ((1 : Int32).toInt64.toUInt64 &&& Int64.toUInt64 63)).toInt64).toInt ∧ ((x.toUInt64 >>> ((1 : Int32).toInt64.toUInt64 &&& Int64.toUInt64 63)).toInt64).toInt < 9223372036854775808 ∧ (0 ≤ x.toInt → ((x.toUInt64 >>> ((1 : Int32).toInt64.toUInt64 &&& Int64.toUInt64 63)).toInt64).toInt = x.toInt / 2) := by
  rw [vr_ush]
  have h2 := x.toBitVec.isLt
  refine ⟨by omega, by omega, fun h => ?_⟩
  obtain ⟨h1, -, -⟩ := s_nnL h
  omega
/-- one figure of spread: y is x >>> 1 -/
theorem vr_sp {x y : Int64} {b : Int32} (hb : 8 ≤ b.toInt ∧ b.toInt ≤ 16) (hy : 0 ≤ y.toInt ∧ y.toInt < 9223372036854775808) (hx : 0 ≤ x.toInt → y.toInt = x.toInt / 2) : (0 ≤ ((y / b.toInt64) * 2 : Int64).toInt ∧ ((y / b.toInt64) * 2 : Int64).toInt ≤ 2305843009213693952) ∧ (((y / b.toInt64) * 2 : Int64) + 1).toInt = ((y / b.toInt64) * 2 : Int64).toInt + 1 ∧ (0 ≤ x.toInt → ((y / b.toInt64) * 2 : Int64).toInt * b.toInt ≤ x.toInt) ∧ (0 ≤ x.toInt → b.toInt ≤ (x - ((y / b.toInt64) * 2 : Int64) * b.toInt64 : Int64).toInt → (((y / b.toInt64) * 2 : Int64).toInt + 1) * b.toInt ≤ x.toInt) := by
  have eb : b.toInt64.toInt = b.toInt := q_i2l rfl
  have xi : x.toInt < 9223372036854775808 := Int64.toInt_lt x
  have e1 : (y / b.toInt64 : Int64).toInt = y.toInt / b.toInt := by rw [v_divL hy.1 (by omega), eb]
  have d0 : 0 ≤ y.toInt / b.toInt := Int.ediv_nonneg hy.1 (by omega)
  have d1 : y.toInt / b.toInt * b.toInt ≤ y.toInt := Int.ediv_mul_le _ (by omega)
  have d2 : y.toInt / b.toInt * 8 ≤ y.toInt / b.toInt * b.toInt := Int.mul_le_mul_of_nonneg_left hb.1 d0
  generalize y.toInt / b.toInt = q at *
  have e2 : ((y / b.toInt64) * 2 : Int64).toInt = q * 2 := q_mulL e1 (by decide) (by omega) (by omega)
  generalize ((y / b.toInt64) * 2 : Int64) = h at *
  have e3 : (h + 1 : Int64).toInt = h.toInt + 1 := q_addL (y := 1) rfl (by decide) (by omega) (by omega)
  have m1 : h.toInt * b.toInt = q * b.toInt * 2 := by rw [e2, Int.mul_right_comm]
  refine ⟨by omega, e3, fun x0 => ?_, fun x0 hr => ?_⟩
  · have := hx x0
    rw [m1]; omega
  · have hx2 := hx x0
    have e4 : (h * b.toInt64 : Int64).toInt = h.toInt * b.toInt := q_mulL rfl eb (by omega) (by omega)
    have e5 : (x - h * b.toInt64 : Int64).toInt = x.toInt - h.toInt * b.toInt := q_subL rfl e4 (by omega) (by omega)
    rw [e5] at hr
    rw [Int.add_mul, Int.one_mul]
    omega
/-- the number that is left to be spread, m figures behind it -/
def vrN (v : Int64) (m : Int) : Prop := m = 0 ∨ (0 ≤ v.toInt ∧ ∃ j : Nat, v.toInt < 8 ^ j ∧ m + (j : Int) ≤ 24)
theorem vrN.go {v w : Int64} {b : Int32} {m : Int} (h : vrN v m) (hm : 0 ≤ m) (hb : 8 ≤ b.toInt ∧ b.toInt ≤ 16) (hz : m = 0 ∨ v.toInt ≠ 0) (h0 : 0 ≤ w.toInt ∧ w.toInt ≤ 2305843009213693953) (h1 : 0 ≤ v.toInt → w.toInt * b.toInt ≤ v.toInt) : vrN w (m + 1) ∧ m + 1 ≤ 24 := by
  by_cases c : m = 0
  · have e : (8 : Int) ^ 21 = 9223372036854775808 := by decide
    exact ⟨Or.inr ⟨h0.1, 21, by rw [e]; omega, by omega⟩, by omega⟩
  · rcases h with h | ⟨a, j, j1, j2⟩
    · exact absurd h c
    · have vz : v.toInt ≠ 0 := by rcases hz with z | z; exact absurd z c; exact z
      have d := h1 a
      have d2 : w.toInt * 8 ≤ w.toInt * b.toInt := Int.mul_le_mul_of_nonneg_left hb.1 h0.1
      have jp : 1 ≤ j := by
        by_cases q : j = 0
        · rw [q, Int.pow_zero] at j1; omega
        · omega
      have p : (8 : Int) ^ j = 8 ^ (j - 1) * 8 := by rw [← fl_pw, show j - 1 + 1 = j by omega]
      rw [p] at j1
      refine ⟨Or.inr ⟨h0.1, j - 1, ?_, by omega⟩, by omega⟩
      generalize (8 : Int) ^ (j - 1) = P at *
      omega
def Q_VR_spread (p : Int32 × Int32 × (Nat → Int32)) : Prop := (1 ≤ p.1.toInt ∧ p.1.toInt ≤ 24) ∧ p.2.1 = p.1
theorem vv_s2 {K_F_VR_spread_L8 : Int64 → Int32 → (Nat → Int32) → (Int32 × Int32 × (Nat → Int32))} {x2 : Int64} {x3 : Int32} {t0_0 : Int32} {t0_1 : Int32} {t0_2 : Int32} {t0_3 : Int32} {t0_4 : Int32} {t0_5 : Int32} {t0_6 : Int32} {t0_7 : Int32} {t0_8 : Int32} {t0_9 : Int32} {t0_10 : Int32} {t0_11 : Int32} {t0_12 : Int32} {t0_13 : Int32} {t0_14 : Int32} {t0_15 : Int32} {t0_16 : Int32} {t0_17 : Int32} {t0_18 : Int32} {t0_19 : Int32} {t0_20 : Int32} {t0_21 : Int32} {t1_0 : (Nat → Int32)} {lx35 : Int64} {lx36 : Int32} {lx37 : (Nat → Int32)} {K_S_VR_spread_L8 : Int64 → Int32 → (Nat → Int32) → Prop} (h36 : 1 ≤ lx36.toInt ∧ lx36.toInt ≤ 24) : ∀ (n : Nat) (lx127 : Int32) (lx128 : Int32) (lx129 : (Nat → Int32)), (-1 ≤ lx127.toInt ∧ lx127.toInt ≤ 30) → (0 ≤ lx128.toInt ∧ lx128.toInt ≤ 31) → (lx127.toInt + 1 < (n : Int)) → (S_VR_spread_L110 K_S_VR_spread_L8 x2 x3 t0_0 t0_1 t0_2 t0_3 t0_4 t0_5 t0_6 t0_7 t0_8 t0_9 t0_10 t0_11 t0_12 t0_13 t0_14 t0_15 t0_16 t0_17 t0_18 t0_19 t0_20 t0_21 t1_0 lx35 lx36 lx37 n lx127 lx128 lx129) ∧ Q_VR_spread (F_VR_spread_L110 K_F_VR_spread_L8 x2 x3 t0_0 t0_1 t0_2 t0_3 t0_4 t0_5 t0_6 t0_7 t0_8 t0_9 t0_10 t0_11 t0_12 t0_13 t0_14 t0_15 t0_16 t0_17 t0_18 t0_19 t0_20 t0_21 t1_0 lx35 lx36 lx37 n lx127 lx128 lx129) := by
  intro n
  induction n with
  | zero => intro lx127 lx128 lx129 h0 h1 hm; exact absurd (show False by omega) id
  | succ n ih =>
    intro lx127 lx128 lx129 h0 h1 hm
    have e0 : (0 : Int32).toInt = 0 := rfl
    have e1 : (1 : Int32).toInt = 1 := rfl
    have eL0 : (0 : Int64).toInt = 0 := rfl
    have em : (-1 : Int32).toInt = -1 := rfl
    rw [S_VR_spread_L110.eq_2, F_VR_spread_L110.eq_2]
    by_cases g1 : lx127 ≤ lx128
    ·
      rw [if_pos g1, if_pos g1]
      have g1i : lx127.toInt ≤ lx128.toInt := q_leI g1
      refine ⟨trivial, ?_⟩
      (unfold Q_VR_spread; dsimp only; exact ⟨h36, rfl⟩)
    ·
      rw [if_neg g1, if_neg g1]
      have g1i : lx128.toInt < lx127.toInt := q_nleI g1
      refine v_cons (by first | omega | decide) ?_
      refine v_cons (by first | omega | decide) ?_
      obtain ⟨a2, e3⟩ := q_nm (lx127 + (-1) : Int32)
      rw [e3]
      have a2i : a2.toInt = lx127.toInt + (-1) := by rw [← e3]; exact q_addI (x := lx127.toInt) (y := (-1)) rfl (by decide) (by omega) (by omega)
      obtain ⟨a4, e5⟩ := q_nm (lx128 + 1 : Int32)
      rw [e5]
      have a4i : a4.toInt = lx128.toInt + 1 := by rw [← e5]; exact q_addI (x := lx128.toInt) (y := 1) rfl (by decide) (by omega) (by omega)
      exact ih _ _ _ ⟨by omega, by omega⟩ ⟨by omega, by omega⟩ (by omega)
theorem vv_s1 {x2 : Int64} {x3 : Int32} {t0_0 : Int32} {t0_1 : Int32} {t0_2 : Int32} {t0_3 : Int32} {t0_4 : Int32} {t0_5 : Int32} {t0_6 : Int32} {t0_7 : Int32} {t0_8 : Int32} {t0_9 : Int32} {t0_10 : Int32} {t0_11 : Int32} {t0_12 : Int32} {t0_13 : Int32} {t0_14 : Int32} {t0_15 : Int32} {t0_16 : Int32} {t0_17 : Int32} {t0_18 : Int32} {t0_19 : Int32} {t0_20 : Int32} {t0_21 : Int32} {t1_0 : (Nat → Int32)} (hx3 : 8 ≤ x3.toInt ∧ x3.toInt ≤ 16) : ∀ (n : Nat) (lx35 : Int64) (lx36 : Int32) (lx37 : (Nat → Int32)), (0 ≤ lx36.toInt ∧ lx36.toInt ≤ 24) → (vrN lx35 lx36.toInt) → (256 - lx36.toInt < (n : Int)) → (S_VR_spread_L8 x2 x3 t0_0 t0_1 t0_2 t0_3 t0_4 t0_5 t0_6 t0_7 t0_8 t0_9 t0_10 t0_11 t0_12 t0_13 t0_14 t0_15 t0_16 t0_17 t0_18 t0_19 t0_20 t0_21 t1_0 n lx35 lx36 lx37) ∧ Q_VR_spread (F_VR_spread_L8 x2 x3 t0_0 t0_1 t0_2 t0_3 t0_4 t0_5 t0_6 t0_7 t0_8 t0_9 t0_10 t0_11 t0_12 t0_13 t0_14 t0_15 t0_16 t0_17 t0_18 t0_19 t0_20 t0_21 t1_0 n lx35 lx36 lx37) := by
  intro n
  induction n with
  | zero => intro lx35 lx36 lx37 h0 hN hm; exact absurd (show False by omega) id
  | succ n ih =>
    intro lx35 lx36 lx37 h0 hN hm
    have e0 : (0 : Int32).toInt = 0 := rfl
    have e1 : (1 : Int32).toInt = 1 := rfl
    have eL0 : (0 : Int64).toInt = 0 := rfl
    have em : (-1 : Int32).toInt = -1 := rfl
    have ex3 : x3.toInt64.toInt = x3.toInt := q_i2l rfl
    have yh := vr_half (x := lx35)
    have sp := vr_sp (x := lx35) hx3 ⟨yh.1, yh.2.1⟩ yh.2.2
    clear yh
    rw [S_VR_spread_L8.eq_2, F_VR_spread_L8.eq_2]
    by_cases g1 : (lg_cmp lx35 0 : Int32) = (0 : Int32)
    ·
      rw [if_pos g1, if_pos g1]
      by_cases g2 : lx36 = (0 : Int32)
      ·
        rw [if_pos g2, if_pos g2]
        have hz : lx36.toInt = 0 ∨ lx35.toInt ≠ 0 := Or.inl (q_eqI g2)
        unfold S_VR_spread_J22 F_VR_spread_J22
        refine v_cons (by first | omega | decide) ?_
        by_cases g3 : (lg_cmp (lx35 - (((((lx35.toUInt64 >>> ((1 : Int32).toInt64.toUInt64 &&& Int64.toUInt64 63)).toInt64 : Int64) / (x3.toInt64 : Int64) : Int64) * 2 : Int64) * (x3.toInt64 : Int64) : Int64) : Int64) (x3.toInt64 : Int64) : Int32) < (0 : Int32)
        ·
          rw [if_pos g3, if_pos g3]
          have g3l := g_lc1 g3
          obtain ⟨lx84, e4⟩ := q_nm (((((lx35.toUInt64 >>> ((1 : Int32).toInt64.toUInt64 &&& Int64.toUInt64 63)).toInt64 : Int64) / (x3.toInt64 : Int64) : Int64) * 2 : Int64) : Int64)
          rw [e4]
          have lx84c : vrN lx84 (lx36.toInt + 1) ∧ lx36.toInt + 1 ≤ 24 := by rw [← e4]; exact hN.go h0.1 hx3 hz ⟨by omega, by omega⟩ sp.2.2.1
          unfold S_VR_spread_J62 F_VR_spread_J62
          refine v_cons (by first | omega | decide) ?_
          obtain ⟨a5, e6⟩ := q_nm (lx36 + 1 : Int32)
          rw [e6]
          have a5i : a5.toInt = lx36.toInt + 1 := by rw [← e6]; exact q_addI (x := lx36.toInt) (y := 1) rfl (by decide) (by omega) (by omega)
          exact ih _ _ _ ⟨by omega, by omega⟩ (by rw [a5i]; exact lx84c.1) (by omega)
        ·
          rw [if_neg g3, if_neg g3]
          have g3l := g_lc2 g3
          obtain ⟨lx84, e7⟩ := q_nm ((((((lx35.toUInt64 >>> ((1 : Int32).toInt64.toUInt64 &&& Int64.toUInt64 63)).toInt64 : Int64) / (x3.toInt64 : Int64) : Int64) * 2 : Int64) + 1 : Int64) : Int64)
          rw [e7]
          have lx84c : vrN lx84 (lx36.toInt + 1) ∧ lx36.toInt + 1 ≤ 24 := by rw [← e7]; exact hN.go h0.1 hx3 hz ⟨by rw [sp.2.1]; omega, by rw [sp.2.1]; omega⟩ (fun x0 => by rw [sp.2.1]; exact sp.2.2.2 x0 (by rw [← ex3]; omega))
          unfold S_VR_spread_J62 F_VR_spread_J62
          refine v_cons (by first | omega | decide) ?_
          obtain ⟨a8, e9⟩ := q_nm (lx36 + 1 : Int32)
          rw [e9]
          have a8i : a8.toInt = lx36.toInt + 1 := by rw [← e9]; exact q_addI (x := lx36.toInt) (y := 1) rfl (by decide) (by omega) (by omega)
          exact ih _ _ _ ⟨by omega, by omega⟩ (by rw [a8i]; exact lx84c.1) (by omega)
      ·
        rw [if_neg g2, if_neg g2]
        have g2i : lx36.toInt ≠ 0 := q_neI g2
        have eK : (lx36 - 1 : Int32).toInt = lx36.toInt - 1 := q_subI (y := 1) rfl (by decide) (by omega) (by omega); exact vv_s2 ⟨by omega, by omega⟩ _ _ _ _ ⟨by omega, by omega⟩ (by decide) (by omega)
    ·
      rw [if_neg g1, if_neg g1]
      have hz : lx36.toInt = 0 ∨ lx35.toInt ≠ 0 := Or.inr (fl_lnz g1)
      unfold S_VR_spread_J22 F_VR_spread_J22
      refine v_cons (by first | omega | decide) ?_
      by_cases g10 : (lg_cmp (lx35 - (((((lx35.toUInt64 >>> ((1 : Int32).toInt64.toUInt64 &&& Int64.toUInt64 63)).toInt64 : Int64) / (x3.toInt64 : Int64) : Int64) * 2 : Int64) * (x3.toInt64 : Int64) : Int64) : Int64) (x3.toInt64 : Int64) : Int32) < (0 : Int32)
      ·
        rw [if_pos g10, if_pos g10]
        have g10l := g_lc1 g10
        obtain ⟨lx84, e11⟩ := q_nm (((((lx35.toUInt64 >>> ((1 : Int32).toInt64.toUInt64 &&& Int64.toUInt64 63)).toInt64 : Int64) / (x3.toInt64 : Int64) : Int64) * 2 : Int64) : Int64)
        rw [e11]
        have lx84c : vrN lx84 (lx36.toInt + 1) ∧ lx36.toInt + 1 ≤ 24 := by rw [← e11]; exact hN.go h0.1 hx3 hz ⟨by omega, by omega⟩ sp.2.2.1
        unfold S_VR_spread_J62 F_VR_spread_J62
        refine v_cons (by first | omega | decide) ?_
        obtain ⟨a12, e13⟩ := q_nm (lx36 + 1 : Int32)
        rw [e13]
        have a12i : a12.toInt = lx36.toInt + 1 := by rw [← e13]; exact q_addI (x := lx36.toInt) (y := 1) rfl (by decide) (by omega) (by omega)
        exact ih _ _ _ ⟨by omega, by omega⟩ (by rw [a12i]; exact lx84c.1) (by omega)
      ·
        rw [if_neg g10, if_neg g10]
        have g10l := g_lc2 g10
        obtain ⟨lx84, e14⟩ := q_nm ((((((lx35.toUInt64 >>> ((1 : Int32).toInt64.toUInt64 &&& Int64.toUInt64 63)).toInt64 : Int64) / (x3.toInt64 : Int64) : Int64) * 2 : Int64) + 1 : Int64) : Int64)
        rw [e14]
        have lx84c : vrN lx84 (lx36.toInt + 1) ∧ lx36.toInt + 1 ≤ 24 := by rw [← e14]; exact hN.go h0.1 hx3 hz ⟨by rw [sp.2.1]; omega, by rw [sp.2.1]; omega⟩ (fun x0 => by rw [sp.2.1]; exact sp.2.2.2 x0 (by rw [← ex3]; omega))
        unfold S_VR_spread_J62 F_VR_spread_J62
        refine v_cons (by first | omega | decide) ?_
        obtain ⟨a15, e16⟩ := q_nm (lx36 + 1 : Int32)
        rw [e16]
        have a15i : a15.toInt = lx36.toInt + 1 := by rw [← e16]; exact q_addI (x := lx36.toInt) (y := 1) rfl (by decide) (by omega) (by omega)
        exact ih _ _ _ ⟨by omega, by omega⟩ (by rw [a15i]; exact lx84c.1) (by omega)
theorem T_VR_spread {x2 : Int64} {x3 : Int32} {t0_0 : Int32} {t0_1 : Int32} {t0_2 : Int32} {t0_3 : Int32} {t0_4 : Int32} {t0_5 : Int32} {t0_6 : Int32} {t0_7 : Int32} {t0_8 : Int32} {t0_9 : Int32} {t0_10 : Int32} {t0_11 : Int32} {t0_12 : Int32} {t0_13 : Int32} {t0_14 : Int32} {t0_15 : Int32} {t0_16 : Int32} {t0_17 : Int32} {t0_18 : Int32} {t0_19 : Int32} {t0_20 : Int32} {t0_21 : Int32} {t1_0 : (Nat → Int32)} (hx3 : 8 ≤ x3.toInt ∧ x3.toInt ≤ 16) : (S_VR_spread x2 x3 t0_0 t0_1 t0_2 t0_3 t0_4 t0_5 t0_6 t0_7 t0_8 t0_9 t0_10 t0_11 t0_12 t0_13 t0_14 t0_15 t0_16 t0_17 t0_18 t0_19 t0_20 t0_21 t1_0) ∧ Q_VR_spread (F_VR_spread x2 x3 t0_0 t0_1 t0_2 t0_3 t0_4 t0_5 t0_6 t0_7 t0_8 t0_9 t0_10 t0_11 t0_12 t0_13 t0_14 t0_15 t0_16 t0_17 t0_18 t0_19 t0_20 t0_21 t1_0) := by
  have e0 : (0 : Int32).toInt = 0 := rfl
  have e1 : (1 : Int32).toInt = 1 := rfl
  have eL0 : (0 : Int64).toInt = 0 := rfl
  have em : (-1 : Int32).toInt = -1 := rfl
  unfold S_VR_spread F_VR_spread
  exact vv_s1 hx3 _ _ _ _ ⟨by decide, by decide⟩ (Or.inl rfl) (by decide)
