/-! DirectiveRows: widen, make -/
def Q_VR_widen (p : Int32 × (Nat → Int32)) : Prop := 0 ≤ p.1.toInt ∧ p.1.toInt ≤ 10400
theorem vv_w3 {K_F_VR_widen_L67 : Int32 → (Nat → Int32) → (Int32 × (Nat → Int32))} {t0_0 : Int32} {t0_1 : Int32} {t0_2 : Int32} {t0_3 : Int32} {t0_4 : Int32} {t0_5 : Int32} {t0_6 : Int32} {t0_7 : Int32} {t0_8 : Int32} {t0_9 : Int32} {t0_10 : Int32} {t0_11 : Int32} {t0_12 : Int32} {t0_13 : Int32} {t0_14 : Int32} {t0_15 : Int32} {t0_16 : Int32} {t0_17 : Int32} {t0_18 : Int32} {t0_19 : Int32} {t0_20 : Int32} {t0_21 : Int32} {t1_0 : (Nat → Int32)} {a32 : Int32} {lx45 : Int32} {lx57 : Int32} {lx58 : (Nat → Int32)} {K_S_VR_widen_L67 : Int32 → (Nat → Int32) → Prop} (h11 : -1 ≤ t0_11.toInt ∧ t0_11.toInt ≤ 9999) (h17 : 0 ≤ t0_17.toInt ∧ t0_17.toInt ≤ 10400) (h18 : 0 ≤ t0_18.toInt ∧ t0_18.toInt ≤ t0_17.toInt) (ha : a32.toInt = t0_11.toInt - t0_17.toInt ∧ 0 < a32.toInt) (h45 : 0 ≤ lx45.toInt ∧ lx45.toInt ≤ t0_17.toInt)  : ∀ (n : Nat) (lx72 : Int32) (lx73 : (Nat → Int32)), (0 ≤ lx72.toInt ∧ lx72.toInt ≤ a32.toInt) → (a32.toInt - lx72.toInt < (n : Int)) → (S_VR_widen_L94 K_S_VR_widen_L67 t0_0 t0_1 t0_2 t0_3 t0_4 t0_5 t0_6 t0_7 t0_8 t0_9 t0_10 t0_11 t0_12 t0_13 t0_14 t0_15 t0_16 t0_17 t0_18 t0_19 t0_20 t0_21 t1_0 a32 lx45 lx57 lx58 n lx72 lx73) ∧ Q_VR_widen (F_VR_widen_L94 K_F_VR_widen_L67 t0_0 t0_1 t0_2 t0_3 t0_4 t0_5 t0_6 t0_7 t0_8 t0_9 t0_10 t0_11 t0_12 t0_13 t0_14 t0_15 t0_16 t0_17 t0_18 t0_19 t0_20 t0_21 t1_0 a32 lx45 lx57 lx58 n lx72 lx73) := by
  intro n
  induction n with
  | zero => intro lx72 lx73 h0 hm; exact absurd (show False by omega) id
  | succ n ih =>
    intro lx72 lx73 h0 hm
    have e0 : (0 : Int32).toInt = 0 := rfl
    have e1 : (1 : Int32).toInt = 1 := rfl
    have eL0 : (0 : Int64).toInt = 0 := rfl
    have em : (-1 : Int32).toInt = -1 := rfl
    have eW : (t0_17 + a32 : Int32).toInt = t0_17.toInt + a32.toInt := q_addI rfl rfl (by omega) (by omega)
    have eX : (lx45 + lx72 : Int32).toInt = lx45.toInt + lx72.toInt := q_addI rfl rfl (by omega) (by omega)
    rw [S_VR_widen_L94.eq_2, F_VR_widen_L94.eq_2]
    by_cases g1 : a32 ≤ lx72
    ·
      rw [if_pos g1, if_pos g1]
      have g1i : a32.toInt ≤ lx72.toInt := q_leI g1
      refine ⟨trivial, ?_⟩
      (unfold Q_VR_widen; dsimp only; exact ⟨by omega, by omega⟩)
    ·
      rw [if_neg g1, if_neg g1]
      have g1i : lx72.toInt < a32.toInt := q_nleI g1
      by_cases g2 : t0_19 = (0 : Int32)
      ·
        rw [if_pos g2, if_pos g2]
        obtain ⟨a3, e4⟩ := q_nm (lx45 + lx72 : Int32)
        rw [e4]
        have a3i : a3.toInt = lx45.toInt + lx72.toInt := by rw [← e4]; exact q_addI (x := lx45.toInt) (y := lx72.toInt) rfl rfl (by omega) (by omega)
        refine v_cons (by first | omega | decide) ?_
        refine v_cons (by first | omega | decide) ?_
        obtain ⟨a5, e6⟩ := q_nm (lx72 + 1 : Int32)
        rw [e6]
        have a5i : a5.toInt = lx72.toInt + 1 := by rw [← e6]; exact q_addI (x := lx72.toInt) (y := 1) rfl (by decide) (by omega) (by omega)
        exact ih _ _ ⟨by omega, by omega⟩ (by omega)
      ·
        rw [if_neg g2, if_neg g2]
        obtain ⟨a7, e8⟩ := q_nm (lx45 + lx72 : Int32)
        rw [e8]
        have a7i : a7.toInt = lx45.toInt + lx72.toInt := by rw [← e8]; exact q_addI (x := lx45.toInt) (y := lx72.toInt) rfl rfl (by omega) (by omega)
        refine v_cons (by first | omega | decide) ?_
        refine v_cons (by first | omega | decide) ?_
        obtain ⟨a9, e10⟩ := q_nm (lx72 + 1 : Int32)
        rw [e10]
        have a9i : a9.toInt = lx72.toInt + 1 := by rw [← e10]; exact q_addI (x := lx72.toInt) (y := 1) rfl (by decide) (by omega) (by omega)
        exact ih _ _ ⟨by omega, by omega⟩ (by omega)
theorem vv_w2 {t0_0 : Int32} {t0_1 : Int32} {t0_2 : Int32} {t0_3 : Int32} {t0_4 : Int32} {t0_5 : Int32} {t0_6 : Int32} {t0_7 : Int32} {t0_8 : Int32} {t0_9 : Int32} {t0_10 : Int32} {t0_11 : Int32} {t0_12 : Int32} {t0_13 : Int32} {t0_14 : Int32} {t0_15 : Int32} {t0_16 : Int32} {t0_17 : Int32} {t0_18 : Int32} {t0_19 : Int32} {t0_20 : Int32} {t0_21 : Int32} {t1_0 : (Nat → Int32)} {a32 : Int32} {lx45 : Int32} (h11 : -1 ≤ t0_11.toInt ∧ t0_11.toInt ≤ 9999) (h17 : 0 ≤ t0_17.toInt ∧ t0_17.toInt ≤ 10400) (h18 : 0 ≤ t0_18.toInt ∧ t0_18.toInt ≤ t0_17.toInt) (ha : a32.toInt = t0_11.toInt - t0_17.toInt ∧ 0 < a32.toInt) (h45 : 0 ≤ lx45.toInt ∧ lx45.toInt ≤ t0_17.toInt)  : ∀ (n : Nat) (lx57 : Int32) (lx58 : (Nat → Int32)), (lx45.toInt - 1 ≤ lx57.toInt ∧ lx57.toInt ≤ t0_17.toInt - 1) → (lx57.toInt + 1 < (n : Int)) → (S_VR_widen_L67 t0_0 t0_1 t0_2 t0_3 t0_4 t0_5 t0_6 t0_7 t0_8 t0_9 t0_10 t0_11 t0_12 t0_13 t0_14 t0_15 t0_16 t0_17 t0_18 t0_19 t0_20 t0_21 t1_0 a32 lx45 n lx57 lx58) ∧ Q_VR_widen (F_VR_widen_L67 t0_0 t0_1 t0_2 t0_3 t0_4 t0_5 t0_6 t0_7 t0_8 t0_9 t0_10 t0_11 t0_12 t0_13 t0_14 t0_15 t0_16 t0_17 t0_18 t0_19 t0_20 t0_21 t1_0 a32 lx45 n lx57 lx58) := by
  intro n
  induction n with
  | zero => intro lx57 lx58 h0 hm; exact absurd (show False by omega) id
  | succ n ih =>
    intro lx57 lx58 h0 hm
    have e0 : (0 : Int32).toInt = 0 := rfl
    have e1 : (1 : Int32).toInt = 1 := rfl
    have eL0 : (0 : Int64).toInt = 0 := rfl
    have em : (-1 : Int32).toInt = -1 := rfl
    have eX : (lx57 + a32 : Int32).toInt = lx57.toInt + a32.toInt := q_addI rfl rfl (by omega) (by omega)
    rw [S_VR_widen_L67.eq_2, F_VR_widen_L67.eq_2]
    by_cases g1 : lx57 < lx45
    ·
      rw [if_pos g1, if_pos g1]
      have g1i : lx57.toInt < lx45.toInt := q_ltI g1
      exact vv_w3 h11 h17 h18 ha h45 _ _ _ ⟨by decide, by omega⟩ (by omega)
    ·
      rw [if_neg g1, if_neg g1]
      have g1i : lx45.toInt ≤ lx57.toInt := q_nltI g1
      refine v_cons (by first | omega | decide) ?_
      refine v_cons (by first | omega | decide) ?_
      obtain ⟨a2, e3⟩ := q_nm (lx57 + a32 : Int32)
      rw [e3]
      have a2i : a2.toInt = lx57.toInt + a32.toInt := by rw [← e3]; exact q_addI (x := lx57.toInt) (y := a32.toInt) rfl rfl (by omega) (by omega)
      refine v_cons (by first | omega | decide) ?_
      refine v_cons (by first | omega | decide) ?_
      obtain ⟨a4, e5⟩ := q_nm (lx57 + (-1) : Int32)
      rw [e5]
      have a4i : a4.toInt = lx57.toInt + (-1) := by rw [← e5]; exact q_addI (x := lx57.toInt) (y := (-1)) rfl (by decide) (by omega) (by omega)
      exact ih _ _ ⟨by omega, by omega⟩ (by omega)
theorem vv_w1 {t0_0 : Int32} {t0_1 : Int32} {t0_2 : Int32} {t0_3 : Int32} {t0_4 : Int32} {t0_5 : Int32} {t0_6 : Int32} {t0_7 : Int32} {t0_8 : Int32} {t0_9 : Int32} {t0_10 : Int32} {t0_11 : Int32} {t0_12 : Int32} {t0_13 : Int32} {t0_14 : Int32} {t0_15 : Int32} {t0_16 : Int32} {t0_17 : Int32} {t0_18 : Int32} {t0_19 : Int32} {t0_20 : Int32} {t0_21 : Int32} {t1_0 : (Nat → Int32)} {a32 : Int32} (h11 : -1 ≤ t0_11.toInt ∧ t0_11.toInt ≤ 9999) (h17 : 0 ≤ t0_17.toInt ∧ t0_17.toInt ≤ 10400) (h18 : 0 ≤ t0_18.toInt ∧ t0_18.toInt ≤ t0_17.toInt) (ha : a32.toInt = t0_11.toInt - t0_17.toInt ∧ 0 < a32.toInt)  : ∀ (n : Nat) (lx135 : Int32) (lx136 : Int32) (lx137 : (Nat → Int32)), (0 ≤ lx135.toInt ∧ lx135.toInt ≤ a32.toInt) → (a32.toInt - lx135.toInt < (n : Int)) → (lx136.toInt = t0_17.toInt + lx135.toInt) → (S_VR_widen_L26 t0_0 t0_1 t0_2 t0_3 t0_4 t0_5 t0_6 t0_7 t0_8 t0_9 t0_10 t0_11 t0_12 t0_13 t0_14 t0_15 t0_16 t0_17 t0_18 t0_19 t0_20 t0_21 t1_0 a32 n lx135 lx136 lx137) ∧ Q_VR_widen (F_VR_widen_L26 t0_0 t0_1 t0_2 t0_3 t0_4 t0_5 t0_6 t0_7 t0_8 t0_9 t0_10 t0_11 t0_12 t0_13 t0_14 t0_15 t0_16 t0_17 t0_18 t0_19 t0_20 t0_21 t1_0 a32 n lx135 lx136 lx137) := by
  intro n
  induction n with
  | zero => intro lx135 lx136 lx137 h0 hm hs; exact absurd (show False by omega) id
  | succ n ih =>
    intro lx135 lx136 lx137 h0 hm hs
    have e0 : (0 : Int32).toInt = 0 := rfl
    have e1 : (1 : Int32).toInt = 1 := rfl
    have eL0 : (0 : Int64).toInt = 0 := rfl
    have em : (-1 : Int32).toInt = -1 := rfl
    rw [S_VR_widen_L26.eq_2, F_VR_widen_L26.eq_2]
    by_cases g1 : a32 ≤ lx135
    ·
      rw [if_pos g1, if_pos g1]
      have g1i : a32.toInt ≤ lx135.toInt := q_leI g1
      refine ⟨trivial, ?_⟩
      (unfold Q_VR_widen; dsimp only; exact ⟨by omega, by omega⟩)
    ·
      rw [if_neg g1, if_neg g1]
      have g1i : lx135.toInt < a32.toInt := q_nleI g1
      have h2 := T_VR_put (x2 := (32 : Int32)) (t0_0 := t0_0) (t0_1 := t0_1) (t0_2 := t0_2) (t0_3 := t0_3) (t0_4 := t0_4) (t0_5 := t0_5) (t0_6 := t0_6) (t0_7 := t0_7) (t0_8 := t0_8) (t0_9 := t0_9) (t0_10 := t0_10) (t0_11 := t0_11) (t0_12 := t0_12) (t0_13 := t0_13) (t0_14 := t0_14) (t0_15 := t0_15) (t0_16 := t0_16) (t0_17 := lx136) (t0_18 := t0_18) (t0_19 := t0_19) (t0_20 := t0_20) (t0_21 := t0_21) (t1_0 := lx137) ⟨by first | omega | decide, by first | omega | decide⟩
      with_reducible refine v_owe h2.1 ?_
      replace h2 := h2.2
      generalize F_VR_put (32 : Int32) t0_0 t0_1 t0_2 t0_3 t0_4 t0_5 t0_6 t0_7 t0_8 t0_9 t0_10 t0_11 t0_12 t0_13 t0_14 t0_15 t0_16 lx136 t0_18 t0_19 t0_20 t0_21 lx137 = p166 at *
      unfold Q_VR_put at h2
      unfold S_VR_widen_c34 F_VR_widen_c34
      obtain ⟨a3, e4⟩ := q_nm (lx135 + 1 : Int32)
      rw [e4]
      have a3i : a3.toInt = lx135.toInt + 1 := by rw [← e4]; exact q_addI (x := lx135.toInt) (y := 1) rfl (by decide) (by omega) (by omega)
      exact ih _ _ _ ⟨by omega, by omega⟩ (by omega) (by omega)
theorem T_VR_widen {t0_0 : Int32} {t0_1 : Int32} {t0_2 : Int32} {t0_3 : Int32} {t0_4 : Int32} {t0_5 : Int32} {t0_6 : Int32} {t0_7 : Int32} {t0_8 : Int32} {t0_9 : Int32} {t0_10 : Int32} {t0_11 : Int32} {t0_12 : Int32} {t0_13 : Int32} {t0_14 : Int32} {t0_15 : Int32} {t0_16 : Int32} {t0_17 : Int32} {t0_18 : Int32} {t0_19 : Int32} {t0_20 : Int32} {t0_21 : Int32} {t1_0 : (Nat → Int32)} (h11 : -1 ≤ t0_11.toInt ∧ t0_11.toInt ≤ 9999) (h17 : 0 ≤ t0_17.toInt ∧ t0_17.toInt ≤ 10400) (h18 : 0 ≤ t0_18.toInt ∧ t0_18.toInt ≤ t0_17.toInt)  : (S_VR_widen t0_0 t0_1 t0_2 t0_3 t0_4 t0_5 t0_6 t0_7 t0_8 t0_9 t0_10 t0_11 t0_12 t0_13 t0_14 t0_15 t0_16 t0_17 t0_18 t0_19 t0_20 t0_21 t1_0) ∧ Q_VR_widen (F_VR_widen t0_0 t0_1 t0_2 t0_3 t0_4 t0_5 t0_6 t0_7 t0_8 t0_9 t0_10 t0_11 t0_12 t0_13 t0_14 t0_15 t0_16 t0_17 t0_18 t0_19 t0_20 t0_21 t1_0) := by
  have e0 : (0 : Int32).toInt = 0 := rfl
  have e1 : (1 : Int32).toInt = 1 := rfl
  have eL0 : (0 : Int64).toInt = 0 := rfl
  have em : (-1 : Int32).toInt = -1 := rfl
  unfold S_VR_widen F_VR_widen
  by_cases g1 : (0 : Int32) < (t0_11 - t0_17 : Int32)
  ·
    rw [if_pos g1, if_pos g1]
    have eA : (t0_11 - t0_17 : Int32).toInt = t0_11.toInt - t0_17.toInt := q_subI rfl rfl (by omega) (by omega)
    have g1i := q_ltI g1
    by_cases g2 : ((F_VR_has (45 : Int32) t0_0 t0_1 t0_2 t0_3 t0_4 t0_5 t0_6 t0_7 t0_8 t0_9 t0_10 t0_11 t0_12 t0_13 t0_14 t0_15 t0_16 t0_17 t0_18 t0_19 t0_20 t0_21) : Int32) = (0 : Int32)
    ·
      rw [if_pos g2, if_pos g2]
      by_cases g3 : t0_19 = (0 : Int32)
      ·
        rw [if_pos g3, if_pos g3]
        unfold S_VR_widen_J59 F_VR_widen_J59
        have eK : (t0_17 - 1 : Int32).toInt = t0_17.toInt - 1 := q_subI (y := 1) rfl (by decide) (by omega) (by omega); exact vv_w2 h11 h17 h18 ⟨eA, by omega⟩ ⟨by first | omega | decide, by first | omega | (rw [e0]; omega)⟩ _ _ _ ⟨by first | omega | (rw [e0]; omega), by omega⟩ (by omega)
      ·
        rw [if_neg g3, if_neg g3]
        unfold S_VR_widen_J59 F_VR_widen_J59
        have eK : (t0_17 - 1 : Int32).toInt = t0_17.toInt - 1 := q_subI (y := 1) rfl (by decide) (by omega) (by omega); exact vv_w2 h11 h17 h18 ⟨eA, by omega⟩ ⟨by first | omega | decide, by first | omega | (rw [e0]; omega)⟩ _ _ _ ⟨by first | omega | (rw [e0]; omega), by omega⟩ (by omega)
    ·
      rw [if_neg g2, if_neg g2]
      exact vv_w1 h11 h17 h18 ⟨eA, by omega⟩ _ _ _ _ ⟨by decide, by omega⟩ (by omega) (by omega)
  ·
    rw [if_neg g1, if_neg g1]
    refine ⟨trivial, ?_⟩
    (unfold Q_VR_widen; dsimp only; exact ⟨by omega, by omega⟩)
def Q_VR_make (p : Int32 × Int32 × Int32 × Int32 × Int32 × Int32 × (Nat → Int32) × (Nat → Int32)) : Prop := 0 ≤ p.2.1.toInt ∧ p.2.1.toInt ≤ 10400
theorem vv_m1 {t0_0 : Int32} {t0_1 : Int32} {t0_2 : Int32} {t0_3 : Int32} {t0_4 : Int32} {t0_5 : Int32} {t0_6 : Int32} {t0_7 : Int32} {t0_8 : Int32} {t0_9 : Int32} {t0_10 : Int32} {t0_11 : Int32} {t0_12 : Int32} {t0_13 : Int32} {t0_14 : Int32} {t0_15 : Int32} {t0_16 : Int32} {t0_17 : Int32} {t0_18 : Int32} {t0_19 : Int32} {t0_20 : Int32} {t0_21 : Int32} {t1_0 : (Nat → Int32)} {t2_0 : (Nat → Int32)} {t3_0 : (Nat → Int64)} {t4_0 : (Nat → Int32)} {t5_0 : (Nat → Int32)} {t6_0 : (Nat → Int32)} {a48 : Int32} {lx59 : Int32} {lx75 : Int32} {lx76 : Int32} {lx77 : Int32} {lx78 : Int32} {lx79 : Int32} {lx80 : Int32} {lx81 : (Nat → Int32)} {lx82 : (Nat → Int32)} {lx99 : Int32} {p123 : (Int32 × (Nat → Int32))} {y118 : Int32} (hy : 0 ≤ y118.toInt ∧ y118.toInt ≤ 10400) : ∀ (n : Nat) (lx139 : Int32) (lx140 : (Nat → Int32)), (0 ≤ lx139.toInt ∧ lx139.toInt ≤ 10400) → (10400 - lx139.toInt < (n : Int)) → (S_VR_make_L262 t0_0 t0_1 t0_2 t0_3 t0_4 t0_5 t0_6 t0_7 t0_8 t0_9 t0_10 t0_11 t0_12 t0_13 t0_14 t0_15 t0_16 t0_17 t0_18 t0_19 t0_20 t0_21 t1_0 t2_0 t3_0 t4_0 t5_0 t6_0 a48 lx59 lx75 lx76 lx77 lx78 lx79 lx80 lx81 lx82 lx99 p123 y118 n lx139 lx140) ∧ Q_VR_make (F_VR_make_L262 t0_0 t0_1 t0_2 t0_3 t0_4 t0_5 t0_6 t0_7 t0_8 t0_9 t0_10 t0_11 t0_12 t0_13 t0_14 t0_15 t0_16 t0_17 t0_18 t0_19 t0_20 t0_21 t1_0 t2_0 t3_0 t4_0 t5_0 t6_0 a48 lx59 lx75 lx76 lx77 lx78 lx79 lx80 lx81 lx82 lx99 p123 y118 n lx139 lx140) := by
  intro n
  induction n with
  | zero => intro lx139 lx140 h0 hm; exact absurd (show False by omega) id
  | succ n ih =>
    intro lx139 lx140 h0 hm
    have e0 : (0 : Int32).toInt = 0 := rfl
    have e1 : (1 : Int32).toInt = 1 := rfl
    have eL0 : (0 : Int64).toInt = 0 := rfl
    have em : (-1 : Int32).toInt = -1 := rfl
    rw [S_VR_make_L262.eq_2, F_VR_make_L262.eq_2]
    by_cases g1 : y118 ≤ lx139
    ·
      rw [if_pos g1, if_pos g1]
      have g1i : y118.toInt ≤ lx139.toInt := q_leI g1
      refine ⟨trivial, ?_⟩
      (unfold Q_VR_make; dsimp only; exact ⟨by omega, by omega⟩)
    ·
      rw [if_neg g1, if_neg g1]
      have g1i : lx139.toInt < y118.toInt := q_nleI g1
      refine v_cons (by first | omega | decide) ?_
      by_cases g2 : (lx140 lx139.toNatClampNeg : Int32) < (97 : Int32)
      ·
        rw [if_pos g2, if_pos g2]
        obtain ⟨a3, e4⟩ := q_nm (lx139 + 1 : Int32)
        rw [e4]
        have a3i : a3.toInt = lx139.toInt + 1 := by rw [← e4]; exact q_addI (x := lx139.toInt) (y := 1) rfl (by decide) (by omega) (by omega)
        exact ih _ _ ⟨by omega, by omega⟩ (by omega)
      ·
        rw [if_neg g2, if_neg g2]
        by_cases g5 : (122 : Int32) < (lx140 lx139.toNatClampNeg : Int32)
        ·
          rw [if_pos g5, if_pos g5]
          obtain ⟨a6, e7⟩ := q_nm (lx139 + 1 : Int32)
          rw [e7]
          have a6i : a6.toInt = lx139.toInt + 1 := by rw [← e7]; exact q_addI (x := lx139.toInt) (y := 1) rfl (by decide) (by omega) (by omega)
          exact ih _ _ ⟨by omega, by omega⟩ (by omega)
        ·
          rw [if_neg g5, if_neg g5]
          obtain ⟨a8, e9⟩ := q_nm (lx139 + 1 : Int32)
          rw [e9]
          have a8i : a8.toInt = lx139.toInt + 1 := by rw [← e9]; exact q_addI (x := lx139.toInt) (y := 1) rfl (by decide) (by omega) (by omega)
          exact ih _ _ ⟨by omega, by omega⟩ (by omega)
theorem T_VR_mk238 {t0_0 : Int32} {t0_1 : Int32} {t0_2 : Int32} {t0_3 : Int32} {t0_4 : Int32} {t0_5 : Int32} {t0_6 : Int32} {t0_7 : Int32} {t0_8 : Int32} {t0_9 : Int32} {t0_10 : Int32} {t0_11 : Int32} {t0_12 : Int32} {t0_13 : Int32} {t0_14 : Int32} {t0_15 : Int32} {t0_16 : Int32} {t0_17 : Int32} {t0_18 : Int32} {t0_19 : Int32} {t0_20 : Int32} {t0_21 : Int32} {t1_0 : (Nat → Int32)} {t2_0 : (Nat → Int32)} {t3_0 : (Nat → Int64)} {t4_0 : (Nat → Int32)} {t5_0 : (Nat → Int32)} {t6_0 : (Nat → Int32)} {a48 : Int32} {lx59 : Int32} {lx75 : Int32} {lx76 : Int32} {lx77 : Int32} {lx78 : Int32} {lx79 : Int32} {lx80 : Int32} {lx81 : (Nat → Int32)} {lx82 : (Nat → Int32)} {lx99 : Int32} (h11 : -1 ≤ t0_11.toInt ∧ t0_11.toInt ≤ 9999) (h99 : 0 ≤ lx99.toInt ∧ lx99.toInt ≤ 10400) (h77 : 0 ≤ lx77.toInt ∧ lx77.toInt ≤ lx99.toInt) : (S_VR_make_J238 t0_0 t0_1 t0_2 t0_3 t0_4 t0_5 t0_6 t0_7 t0_8 t0_9 t0_10 t0_11 t0_12 t0_13 t0_14 t0_15 t0_16 t0_17 t0_18 t0_19 t0_20 t0_21 t1_0 t2_0 t3_0 t4_0 t5_0 t6_0 a48 lx59 lx75 lx76 lx77 lx78 lx79 lx80 lx81 lx82 lx99) ∧ Q_VR_make (F_VR_make_J238 t0_0 t0_1 t0_2 t0_3 t0_4 t0_5 t0_6 t0_7 t0_8 t0_9 t0_10 t0_11 t0_12 t0_13 t0_14 t0_15 t0_16 t0_17 t0_18 t0_19 t0_20 t0_21 t1_0 t2_0 t3_0 t4_0 t5_0 t6_0 a48 lx59 lx75 lx76 lx77 lx78 lx79 lx80 lx81 lx82 lx99) := by
  have e0 : (0 : Int32).toInt = 0 := rfl
  have e1 : (1 : Int32).toInt = 1 := rfl
  have eL0 : (0 : Int64).toInt = 0 := rfl
  have em : (-1 : Int32).toInt = -1 := rfl
  unfold S_VR_make_J238 F_VR_make_J238
  have h1 := T_VR_widen (t0_0 := t0_0) (t0_1 := t0_1) (t0_2 := t0_2) (t0_3 := t0_3) (t0_4 := t0_4) (t0_5 := t0_5) (t0_6 := t0_6) (t0_7 := t0_7) (t0_8 := t0_8) (t0_9 := lx75) (t0_10 := t0_10) (t0_11 := t0_11) (t0_12 := t0_12) (t0_13 := t0_13) (t0_14 := t0_14) (t0_15 := t0_15) (t0_16 := t0_16) (t0_17 := lx99) (t0_18 := lx77) (t0_19 := lx78) (t0_20 := lx79) (t0_21 := lx80) (t1_0 := lx81) h11 ⟨by omega, by omega⟩ ⟨by omega, by omega⟩
  with_reducible refine v_owe h1.1 ?_
  replace h1 := h1.2
  generalize F_VR_widen t0_0 t0_1 t0_2 t0_3 t0_4 t0_5 t0_6 t0_7 t0_8 lx75 t0_10 t0_11 t0_12 t0_13 t0_14 t0_15 t0_16 lx99 lx77 lx78 lx79 lx80 lx81 = p123 at *
  unfold Q_VR_widen at h1
  unfold S_VR_make_c239 F_VR_make_c239
  by_cases g2 : t0_13 < (65 : Int32)
  ·
    rw [if_pos g2, if_pos g2]
    refine ⟨trivial, ?_⟩
    (unfold Q_VR_make; dsimp only; exact ⟨by omega, by omega⟩)
  ·
    rw [if_neg g2, if_neg g2]
    by_cases g3 : (90 : Int32) < t0_13
    ·
      rw [if_pos g3, if_pos g3]
      refine ⟨trivial, ?_⟩
      (unfold Q_VR_make; dsimp only; exact ⟨by omega, by omega⟩)
    ·
      rw [if_neg g3, if_neg g3]
      exact vv_m1 ⟨by omega, by omega⟩ _ _ _ (by decide) (by decide)
theorem T_VR_mk200 {t0_0 : Int32} {t0_1 : Int32} {t0_2 : Int32} {t0_3 : Int32} {t0_4 : Int32} {t0_5 : Int32} {t0_6 : Int32} {t0_7 : Int32} {t0_8 : Int32} {t0_9 : Int32} {t0_10 : Int32} {t0_11 : Int32} {t0_12 : Int32} {t0_13 : Int32} {t0_14 : Int32} {t0_15 : Int32} {t0_16 : Int32} {t0_17 : Int32} {t0_18 : Int32} {t0_19 : Int32} {t0_20 : Int32} {t0_21 : Int32} {t1_0 : (Nat → Int32)} {t2_0 : (Nat → Int32)} {t3_0 : (Nat → Int64)} {t4_0 : (Nat → Int32)} {t5_0 : (Nat → Int32)} {t6_0 : (Nat → Int32)} {a48 : Int32} {lx59 : Int32} {lx75 : Int32} {lx76 : Int32} {lx77 : Int32} {lx78 : Int32} {lx79 : Int32} {lx80 : Int32} {lx81 : (Nat → Int32)} {lx82 : (Nat → Int32)} (h11 : -1 ≤ t0_11.toInt ∧ t0_11.toInt ≤ 9999) (h76 : 0 ≤ lx76.toInt ∧ lx76.toInt ≤ 10400) (h77 : 0 ≤ lx77.toInt ∧ lx77.toInt ≤ lx76.toInt) (hb : a48 = 98 ∨ a48 = 115 → lx77.toInt = 0) : (S_VR_make_J200 t0_0 t0_1 t0_2 t0_3 t0_4 t0_5 t0_6 t0_7 t0_8 t0_9 t0_10 t0_11 t0_12 t0_13 t0_14 t0_15 t0_16 t0_17 t0_18 t0_19 t0_20 t0_21 t1_0 t2_0 t3_0 t4_0 t5_0 t6_0 a48 lx59 lx75 lx76 lx77 lx78 lx79 lx80 lx81 lx82) ∧ Q_VR_make (F_VR_make_J200 t0_0 t0_1 t0_2 t0_3 t0_4 t0_5 t0_6 t0_7 t0_8 t0_9 t0_10 t0_11 t0_12 t0_13 t0_14 t0_15 t0_16 t0_17 t0_18 t0_19 t0_20 t0_21 t1_0 t2_0 t3_0 t4_0 t5_0 t6_0 a48 lx59 lx75 lx76 lx77 lx78 lx79 lx80 lx81 lx82) := by
  have e0 : (0 : Int32).toInt = 0 := rfl
  have e1 : (1 : Int32).toInt = 1 := rfl
  have eL0 : (0 : Int64).toInt = 0 := rfl
  have em : (-1 : Int32).toInt = -1 := rfl
  unfold S_VR_make_J200 F_VR_make_J200
  by_cases g1 : a48 = (98 : Int32)
  ·
    rw [if_pos g1, if_pos g1]
    have hb0 := hb (Or.inl g1)
    unfold S_VR_make_J212 F_VR_make_J212
    by_cases g2 : t0_12 < (0 : Int32)
    ·
      rw [if_pos g2, if_pos g2]
      have g2i : t0_12.toInt < 0 := q_ltI g2
      exact T_VR_mk238 h11 ⟨by omega, by omega⟩ ⟨by omega, by omega⟩
    ·
      rw [if_neg g2, if_neg g2]
      have g2i : 0 ≤ t0_12.toInt := q_nltI g2
      by_cases g3 : lx76 ≤ t0_12
      ·
        rw [if_pos g3, if_pos g3]
        have g3i : lx76.toInt ≤ t0_12.toInt := q_leI g3
        exact T_VR_mk238 h11 ⟨by omega, by omega⟩ ⟨by omega, by omega⟩
      ·
        rw [if_neg g3, if_neg g3]
        have g3i : t0_12.toInt < lx76.toInt := q_nleI g3
        exact T_VR_mk238 h11 ⟨by omega, by omega⟩ ⟨by omega, by omega⟩
  ·
    rw [if_neg g1, if_neg g1]
    by_cases g4 : a48 = (115 : Int32)
    ·
      rw [if_pos g4, if_pos g4]
      have hb0 := hb (Or.inr g4)
      unfold S_VR_make_J212 F_VR_make_J212
      by_cases g5 : t0_12 < (0 : Int32)
      ·
        rw [if_pos g5, if_pos g5]
        have g5i : t0_12.toInt < 0 := q_ltI g5
        exact T_VR_mk238 h11 ⟨by omega, by omega⟩ ⟨by omega, by omega⟩
      ·
        rw [if_neg g5, if_neg g5]
        have g5i : 0 ≤ t0_12.toInt := q_nltI g5
        by_cases g6 : lx76 ≤ t0_12
        ·
          rw [if_pos g6, if_pos g6]
          have g6i : lx76.toInt ≤ t0_12.toInt := q_leI g6
          exact T_VR_mk238 h11 ⟨by omega, by omega⟩ ⟨by omega, by omega⟩
        ·
          rw [if_neg g6, if_neg g6]
          have g6i : t0_12.toInt < lx76.toInt := q_nleI g6
          exact T_VR_mk238 h11 ⟨by omega, by omega⟩ ⟨by omega, by omega⟩
    ·
      rw [if_neg g4, if_neg g4]
      exact T_VR_mk238 h11 ⟨by omega, by omega⟩ ⟨by omega, by omega⟩
theorem T_VR_mk49 {t0_0 : Int32} {t0_1 : Int32} {t0_2 : Int32} {t0_3 : Int32} {t0_4 : Int32} {t0_5 : Int32} {t0_6 : Int32} {t0_7 : Int32} {t0_8 : Int32} {t0_9 : Int32} {t0_10 : Int32} {t0_11 : Int32} {t0_12 : Int32} {t0_13 : Int32} {t0_14 : Int32} {t0_15 : Int32} {t0_16 : Int32} {t0_17 : Int32} {t0_18 : Int32} {t0_19 : Int32} {t0_20 : Int32} {t0_21 : Int32} {t1_0 : (Nat → Int32)} {t2_0 : (Nat → Int32)} {t3_0 : (Nat → Int64)} {t4_0 : (Nat → Int32)} {t5_0 : (Nat → Int32)} {t6_0 : (Nat → Int32)} {a48 : Int32} {lx59 : Int32} (hZ : ∀ i, i < 9 → 0 ≤ (t2_0 i).toInt ∧ (t2_0 i).toInt ≤ 64) (h11 : -1 ≤ t0_11.toInt ∧ t0_11.toInt ≤ 9999) (h12 : t0_12.toInt ≤ 9999) (hA : ¬ a48 = 37 → ¬ a48 = 110 → 0 ≤ t0_14.toInt ∧ t0_14.toInt ≤ 8) : (S_VR_make_J49 t0_0 t0_1 t0_2 t0_3 t0_4 t0_5 t0_6 t0_7 t0_8 t0_9 t0_10 t0_11 t0_12 t0_13 t0_14 t0_15 t0_16 t0_17 t0_18 t0_19 t0_20 t0_21 t1_0 t2_0 t3_0 t4_0 t5_0 t6_0 a48 lx59) ∧ Q_VR_make (F_VR_make_J49 t0_0 t0_1 t0_2 t0_3 t0_4 t0_5 t0_6 t0_7 t0_8 t0_9 t0_10 t0_11 t0_12 t0_13 t0_14 t0_15 t0_16 t0_17 t0_18 t0_19 t0_20 t0_21 t1_0 t2_0 t3_0 t4_0 t5_0 t6_0 a48 lx59) := by
  have e0 : (0 : Int32).toInt = 0 := rfl
  have e1 : (1 : Int32).toInt = 1 := rfl
  have eL0 : (0 : Int64).toInt = 0 := rfl
  have em : (-1 : Int32).toInt = -1 := rfl
  unfold S_VR_make_J49 F_VR_make_J49
  by_cases g1 : a48 = (37 : Int32)
  ·
    rw [if_pos g1, if_pos g1]
    unfold S_VR_make_J62 F_VR_make_J62
    rw [if_pos g1, if_pos g1]
    unfold S_VR_make_J76 F_VR_make_J76
    have h2 := T_VR_put (x2 := (37 : Int32)) (t0_0 := t0_0) (t0_1 := t0_1) (t0_2 := t0_2) (t0_3 := t0_3) (t0_4 := t0_4) (t0_5 := t0_5) (t0_6 := t0_6) (t0_7 := t0_7) (t0_8 := t0_8) (t0_9 := t0_9) (t0_10 := t0_10) (t0_11 := t0_11) (t0_12 := t0_12) (t0_13 := t0_13) (t0_14 := t0_14) (t0_15 := t0_15) (t0_16 := t0_16) (t0_17 := (0 : Int32)) (t0_18 := (0 : Int32)) (t0_19 := (0 : Int32)) (t0_20 := t0_20) (t0_21 := t0_21) (t1_0 := t5_0) ⟨by first | omega | decide, by first | omega | decide⟩
    with_reducible refine v_owe h2.1 ?_
    replace h2 := h2.2
    generalize F_VR_put (37 : Int32) t0_0 t0_1 t0_2 t0_3 t0_4 t0_5 t0_6 t0_7 t0_8 t0_9 t0_10 t0_11 t0_12 t0_13 t0_14 t0_15 t0_16 (0 : Int32) (0 : Int32) (0 : Int32) t0_20 t0_21 t5_0 = p271 at *
    unfold Q_VR_put at h2
    unfold S_VR_make_c76 F_VR_make_c76
    exact T_VR_mk200 h11 ⟨by omega, by omega⟩ ⟨by decide, by rw [e0]; omega⟩ (fun _ => rfl)
  ·
    rw [if_neg g1, if_neg g1]
    have hA1 := hA g1
    by_cases g3 : a48 = (110 : Int32)
    ·
      rw [if_pos g3, if_pos g3]
      unfold S_VR_make_J62 F_VR_make_J62
      rw [if_neg g1, if_neg g1]
      unfold S_VR_make_J76 F_VR_make_J76
      have h4 := T_VR_put (x2 := (10 : Int32)) (t0_0 := t0_0) (t0_1 := t0_1) (t0_2 := t0_2) (t0_3 := t0_3) (t0_4 := t0_4) (t0_5 := t0_5) (t0_6 := t0_6) (t0_7 := t0_7) (t0_8 := t0_8) (t0_9 := t0_9) (t0_10 := t0_10) (t0_11 := t0_11) (t0_12 := t0_12) (t0_13 := t0_13) (t0_14 := t0_14) (t0_15 := t0_15) (t0_16 := t0_16) (t0_17 := (0 : Int32)) (t0_18 := (0 : Int32)) (t0_19 := (0 : Int32)) (t0_20 := t0_20) (t0_21 := t0_21) (t1_0 := t5_0) ⟨by first | omega | decide, by first | omega | decide⟩
      with_reducible refine v_owe h4.1 ?_
      replace h4 := h4.2
      generalize F_VR_put (10 : Int32) t0_0 t0_1 t0_2 t0_3 t0_4 t0_5 t0_6 t0_7 t0_8 t0_9 t0_10 t0_11 t0_12 t0_13 t0_14 t0_15 t0_16 (0 : Int32) (0 : Int32) (0 : Int32) t0_20 t0_21 t5_0 = p271 at *
      unfold Q_VR_put at h4
      unfold S_VR_make_c76 F_VR_make_c76
      exact T_VR_mk200 h11 ⟨by omega, by omega⟩ ⟨by decide, by rw [e0]; omega⟩ (fun _ => rfl)
    ·
      rw [if_neg g3, if_neg g3]
      have h14 := hA1 g3
      by_cases g5 : a48 = (98 : Int32)
      ·
        rw [if_pos g5, if_pos g5]
        by_cases g6 : lx59 = (0 : Int32)
        ·
          rw [if_pos g6, if_pos g6]
          refine v_cons (by first | omega | decide) ?_
          refine v_cons (by first | omega | decide) ?_
          by_cases g7 : (t1_0 t0_14.toNatClampNeg : Int32) = (1 : Int32)
          ·
            rw [if_pos g7, if_pos g7]
            by_cases g8 : (lg_cmp (t3_0 t0_14.toNatClampNeg : Int64) 0 : Int32) = (0 : Int32)
            ·
              rw [if_pos g8, if_pos g8]
              unfold S_VR_make_J119 F_VR_make_J119
              unfold S_VR_make_J124 F_VR_make_J124
              have g9 : ¬ ((1 : Int32) = (0 : Int32)) := (by decide)
              rw [if_neg g9, if_neg g9]
              unfold S_VR_make_J139 F_VR_make_J139
              have h10 := T_VR_word (x2 := (435728179558 : Int64)) (t0_0 := t0_0) (t0_1 := t0_1) (t0_2 := t0_2) (t0_3 := t0_3) (t0_4 := t0_4) (t0_5 := t0_5) (t0_6 := t0_6) (t0_7 := t0_7) (t0_8 := t0_8) (t0_9 := t0_9) (t0_10 := t0_10) (t0_11 := t0_11) (t0_12 := t0_12) (t0_13 := t0_13) (t0_14 := t0_14) (t0_15 := t0_15) (t0_16 := t0_16) (t0_17 := (0 : Int32)) (t0_18 := (0 : Int32)) (t0_19 := (0 : Int32)) (t0_20 := t0_20) (t0_21 := t0_21) (t1_0 := t5_0) ⟨by first | omega | decide, by first | omega | decide⟩ (by decide)
              with_reducible refine v_owe h10.1 ?_
              replace h10 := h10.2
              generalize F_VR_word (435728179558 : Int64) t0_0 t0_1 t0_2 t0_3 t0_4 t0_5 t0_6 t0_7 t0_8 t0_9 t0_10 t0_11 t0_12 t0_13 t0_14 t0_15 t0_16 (0 : Int32) (0 : Int32) (0 : Int32) t0_20 t0_21 t5_0 = p447 at *
              unfold Q_VR_word at h10
              unfold S_VR_make_c139 F_VR_make_c139
              exact T_VR_mk200 h11 ⟨by omega, by omega⟩ ⟨by decide, by rw [e0]; omega⟩ (fun _ => rfl)
            ·
              rw [if_neg g8, if_neg g8]
              unfold S_VR_make_J123 F_VR_make_J123
              unfold S_VR_make_J124 F_VR_make_J124
              have g11 : ((0 : Int32) = (0 : Int32)) := (by decide)
              rw [if_pos g11, if_pos g11]
              unfold S_VR_make_J139 F_VR_make_J139
              have h12 := T_VR_word (x2 := (1702195828 : Int64)) (t0_0 := t0_0) (t0_1 := t0_1) (t0_2 := t0_2) (t0_3 := t0_3) (t0_4 := t0_4) (t0_5 := t0_5) (t0_6 := t0_6) (t0_7 := t0_7) (t0_8 := t0_8) (t0_9 := t0_9) (t0_10 := t0_10) (t0_11 := t0_11) (t0_12 := t0_12) (t0_13 := t0_13) (t0_14 := t0_14) (t0_15 := t0_15) (t0_16 := t0_16) (t0_17 := (0 : Int32)) (t0_18 := (0 : Int32)) (t0_19 := (0 : Int32)) (t0_20 := t0_20) (t0_21 := t0_21) (t1_0 := t5_0) ⟨by first | omega | decide, by first | omega | decide⟩ (by decide)
              with_reducible refine v_owe h12.1 ?_
              replace h12 := h12.2
              generalize F_VR_word (1702195828 : Int64) t0_0 t0_1 t0_2 t0_3 t0_4 t0_5 t0_6 t0_7 t0_8 t0_9 t0_10 t0_11 t0_12 t0_13 t0_14 t0_15 t0_16 (0 : Int32) (0 : Int32) (0 : Int32) t0_20 t0_21 t5_0 = p447 at *
              unfold Q_VR_word at h12
              unfold S_VR_make_c139 F_VR_make_c139
              exact T_VR_mk200 h11 ⟨by omega, by omega⟩ ⟨by decide, by rw [e0]; omega⟩ (fun _ => rfl)
          ·
            rw [if_neg g7, if_neg g7]
            unfold S_VR_make_J123 F_VR_make_J123
            unfold S_VR_make_J124 F_VR_make_J124
            have g13 : ((0 : Int32) = (0 : Int32)) := (by decide)
            rw [if_pos g13, if_pos g13]
            unfold S_VR_make_J139 F_VR_make_J139
            have h14 := T_VR_word (x2 := (1702195828 : Int64)) (t0_0 := t0_0) (t0_1 := t0_1) (t0_2 := t0_2) (t0_3 := t0_3) (t0_4 := t0_4) (t0_5 := t0_5) (t0_6 := t0_6) (t0_7 := t0_7) (t0_8 := t0_8) (t0_9 := t0_9) (t0_10 := t0_10) (t0_11 := t0_11) (t0_12 := t0_12) (t0_13 := t0_13) (t0_14 := t0_14) (t0_15 := t0_15) (t0_16 := t0_16) (t0_17 := (0 : Int32)) (t0_18 := (0 : Int32)) (t0_19 := (0 : Int32)) (t0_20 := t0_20) (t0_21 := t0_21) (t1_0 := t5_0) ⟨by first | omega | decide, by first | omega | decide⟩ (by decide)
            with_reducible refine v_owe h14.1 ?_
            replace h14 := h14.2
            generalize F_VR_word (1702195828 : Int64) t0_0 t0_1 t0_2 t0_3 t0_4 t0_5 t0_6 t0_7 t0_8 t0_9 t0_10 t0_11 t0_12 t0_13 t0_14 t0_15 t0_16 (0 : Int32) (0 : Int32) (0 : Int32) t0_20 t0_21 t5_0 = p447 at *
            unfold Q_VR_word at h14
            unfold S_VR_make_c139 F_VR_make_c139
            exact T_VR_mk200 h11 ⟨by omega, by omega⟩ ⟨by decide, by rw [e0]; omega⟩ (fun _ => rfl)
        ·
          rw [if_neg g6, if_neg g6]
          unfold S_VR_make_J119 F_VR_make_J119
          unfold S_VR_make_J124 F_VR_make_J124
          have g15 : ¬ ((1 : Int32) = (0 : Int32)) := (by decide)
          rw [if_neg g15, if_neg g15]
          unfold S_VR_make_J139 F_VR_make_J139
          have h16 := T_VR_word (x2 := (435728179558 : Int64)) (t0_0 := t0_0) (t0_1 := t0_1) (t0_2 := t0_2) (t0_3 := t0_3) (t0_4 := t0_4) (t0_5 := t0_5) (t0_6 := t0_6) (t0_7 := t0_7) (t0_8 := t0_8) (t0_9 := t0_9) (t0_10 := t0_10) (t0_11 := t0_11) (t0_12 := t0_12) (t0_13 := t0_13) (t0_14 := t0_14) (t0_15 := t0_15) (t0_16 := t0_16) (t0_17 := (0 : Int32)) (t0_18 := (0 : Int32)) (t0_19 := (0 : Int32)) (t0_20 := t0_20) (t0_21 := t0_21) (t1_0 := t5_0) ⟨by first | omega | decide, by first | omega | decide⟩ (by decide)
          with_reducible refine v_owe h16.1 ?_
          replace h16 := h16.2
          generalize F_VR_word (435728179558 : Int64) t0_0 t0_1 t0_2 t0_3 t0_4 t0_5 t0_6 t0_7 t0_8 t0_9 t0_10 t0_11 t0_12 t0_13 t0_14 t0_15 t0_16 (0 : Int32) (0 : Int32) (0 : Int32) t0_20 t0_21 t5_0 = p447 at *
          unfold Q_VR_word at h16
          unfold S_VR_make_c139 F_VR_make_c139
          exact T_VR_mk200 h11 ⟨by omega, by omega⟩ ⟨by decide, by rw [e0]; omega⟩ (fun _ => rfl)
      ·
        rw [if_neg g5, if_neg g5]
        have nb := g5
        by_cases g17 : lx59 = (0 : Int32)
        ·
          rw [if_pos g17, if_pos g17]
          by_cases g18 : a48 = (115 : Int32)
          ·
            rw [if_pos g18, if_pos g18]
            have h19 := T_VR_string (t0_0 := t0_0) (t0_1 := t0_1) (t0_2 := t0_2) (t0_3 := t0_3) (t0_4 := t0_4) (t0_5 := t0_5) (t0_6 := t0_6) (t0_7 := t0_7) (t0_8 := t0_8) (t0_9 := t0_9) (t0_10 := t0_10) (t0_11 := t0_11) (t0_12 := t0_12) (t0_13 := t0_13) (t0_14 := t0_14) (t0_15 := t0_15) (t0_16 := t0_16) (t0_17 := (0 : Int32)) (t0_18 := (0 : Int32)) (t0_19 := (0 : Int32)) (t0_20 := t0_20) (t0_21 := t0_21) (t1_0 := t1_0) (t2_0 := t2_0) (t3_0 := t3_0) (t4_0 := t4_0) (t5_0 := t5_0) (t6_0 := t6_0) hZ h14 (by decide)
            with_reducible refine v_owe h19.1 ?_
            replace h19 := h19.2
            generalize F_VR_string t0_0 t0_1 t0_2 t0_3 t0_4 t0_5 t0_6 t0_7 t0_8 t0_9 t0_10 t0_11 t0_12 t0_13 t0_14 t0_15 t0_16 (0 : Int32) (0 : Int32) (0 : Int32) t0_20 t0_21 t1_0 t2_0 t3_0 t4_0 t5_0 t6_0 = p373 at *
            unfold Q_VR_str at h19
            unfold S_VR_make_c166 F_VR_make_c166
            exact T_VR_mk200 h11 ⟨by omega, by omega⟩ ⟨by decide, by rw [e0]; omega⟩ (fun _ => rfl)
          ·
            rw [if_neg g18, if_neg g18]
            have ns := g18
            by_cases g20 : a48 = (99 : Int32)
            ·
              rw [if_pos g20, if_pos g20]
              refine v_cons (by first | omega | decide) ?_
              refine v_cons (by first | omega | decide) ?_
              have h21 := T_VR_put (x2 := ((t3_0 t0_14.toNatClampNeg : Int64).toInt32 : Int32)) (t0_0 := t0_0) (t0_1 := t0_1) (t0_2 := t0_2) (t0_3 := t0_3) (t0_4 := t0_4) (t0_5 := t0_5) (t0_6 := t0_6) (t0_7 := t0_7) (t0_8 := t0_8) (t0_9 := t0_9) (t0_10 := t0_10) (t0_11 := t0_11) (t0_12 := t0_12) (t0_13 := t0_13) (t0_14 := t0_14) (t0_15 := t0_15) (t0_16 := t0_16) (t0_17 := (0 : Int32)) (t0_18 := (0 : Int32)) (t0_19 := (0 : Int32)) (t0_20 := t0_20) (t0_21 := t0_21) (t1_0 := t5_0) ⟨by first | omega | decide, by first | omega | decide⟩
              with_reducible refine v_owe h21.1 ?_
              replace h21 := h21.2
              generalize F_VR_put ((t3_0 t0_14.toNatClampNeg : Int64).toInt32 : Int32) t0_0 t0_1 t0_2 t0_3 t0_4 t0_5 t0_6 t0_7 t0_8 t0_9 t0_10 t0_11 t0_12 t0_13 t0_14 t0_15 t0_16 (0 : Int32) (0 : Int32) (0 : Int32) t0_20 t0_21 t5_0 = p349 at *
              unfold Q_VR_put at h21
              unfold S_VR_make_c189 F_VR_make_c189
              exact T_VR_mk200 h11 ⟨by omega, by omega⟩ ⟨by decide, by rw [e0]; omega⟩ (fun _ => rfl)
            ·
              rw [if_neg g20, if_neg g20]
              have h22 := T_VR_numeric (x2 := a48) (t0_0 := t0_0) (t0_1 := t0_1) (t0_2 := t0_2) (t0_3 := t0_3) (t0_4 := t0_4) (t0_5 := t0_5) (t0_6 := t0_6) (t0_7 := t0_7) (t0_8 := t0_8) (t0_9 := t0_9) (t0_10 := t0_10) (t0_11 := t0_11) (t0_12 := t0_12) (t0_13 := t0_13) (t0_14 := t0_14) (t0_15 := t0_15) (t0_16 := t0_16) (t0_17 := (0 : Int32)) (t0_18 := (0 : Int32)) (t0_19 := (0 : Int32)) (t0_20 := t0_20) (t0_21 := t0_21) (t1_0 := t2_0) (t2_0 := t3_0) (t3_0 := t5_0) (t4_0 := t6_0) hZ h14 h12 (by decide)
              with_reducible refine v_owe h22.1 ?_
              replace h22 := h22.2
              generalize F_VR_numeric a48 t0_0 t0_1 t0_2 t0_3 t0_4 t0_5 t0_6 t0_7 t0_8 t0_9 t0_10 t0_11 t0_12 t0_13 t0_14 t0_15 t0_16 (0 : Int32) (0 : Int32) (0 : Int32) t0_20 t0_21 t2_0 t3_0 t5_0 t6_0 = p315 at *
              unfold Q_VR_num at h22
              unfold S_VR_make_c197 F_VR_make_c197
              exact T_VR_mk200 h11 ⟨by omega, by omega⟩ ⟨by omega, by omega⟩ (fun z => absurd z (by rintro (z | z); exact nb z; exact ns z))
        ·
          rw [if_neg g17, if_neg g17]
          have h23 := T_VR_word (x2 := (1819047278 : Int64)) (t0_0 := t0_0) (t0_1 := t0_1) (t0_2 := t0_2) (t0_3 := t0_3) (t0_4 := t0_4) (t0_5 := t0_5) (t0_6 := t0_6) (t0_7 := t0_7) (t0_8 := t0_8) (t0_9 := t0_9) (t0_10 := t0_10) (t0_11 := t0_11) (t0_12 := t0_12) (t0_13 := t0_13) (t0_14 := t0_14) (t0_15 := t0_15) (t0_16 := t0_16) (t0_17 := (0 : Int32)) (t0_18 := (0 : Int32)) (t0_19 := (0 : Int32)) (t0_20 := t0_20) (t0_21 := t0_21) (t1_0 := t5_0) ⟨by first | omega | decide, by first | omega | decide⟩ (by decide)
          with_reducible refine v_owe h23.1 ?_
          replace h23 := h23.2
          generalize F_VR_word (1819047278 : Int64) t0_0 t0_1 t0_2 t0_3 t0_4 t0_5 t0_6 t0_7 t0_8 t0_9 t0_10 t0_11 t0_12 t0_13 t0_14 t0_15 t0_16 (0 : Int32) (0 : Int32) (0 : Int32) t0_20 t0_21 t5_0 = p396 at *
          unfold Q_VR_word at h23
          unfold S_VR_make_c153 F_VR_make_c153
          exact T_VR_mk200 h11 ⟨by omega, by omega⟩ ⟨by decide, by rw [e0]; omega⟩ (fun _ => rfl)
theorem T_VR_make {t0_0 : Int32} {t0_1 : Int32} {t0_2 : Int32} {t0_3 : Int32} {t0_4 : Int32} {t0_5 : Int32} {t0_6 : Int32} {t0_7 : Int32} {t0_8 : Int32} {t0_9 : Int32} {t0_10 : Int32} {t0_11 : Int32} {t0_12 : Int32} {t0_13 : Int32} {t0_14 : Int32} {t0_15 : Int32} {t0_16 : Int32} {t0_17 : Int32} {t0_18 : Int32} {t0_19 : Int32} {t0_20 : Int32} {t0_21 : Int32} {t1_0 : (Nat → Int32)} {t2_0 : (Nat → Int32)} {t3_0 : (Nat → Int64)} {t4_0 : (Nat → Int32)} {t5_0 : (Nat → Int32)} {t6_0 : (Nat → Int32)} (hZ : ∀ i, i < 9 → 0 ≤ (t2_0 i).toInt ∧ (t2_0 i).toInt ≤ 64) (h11 : -1 ≤ t0_11.toInt ∧ t0_11.toInt ≤ 9999) (h12 : t0_12.toInt ≤ 9999) (hA : ¬ (F_VR_small t0_0 t0_1 t0_2 t0_3 t0_4 t0_5 t0_6 t0_7 t0_8 t0_9 t0_10 t0_11 t0_12 t0_13 t0_14 t0_15 t0_16 t0_17 t0_18 t0_19 t0_20 t0_21) = 37 → ¬ (F_VR_small t0_0 t0_1 t0_2 t0_3 t0_4 t0_5 t0_6 t0_7 t0_8 t0_9 t0_10 t0_11 t0_12 t0_13 t0_14 t0_15 t0_16 t0_17 t0_18 t0_19 t0_20 t0_21) = 110 → 0 ≤ t0_14.toInt ∧ t0_14.toInt ≤ 8) : (S_VR_make t0_0 t0_1 t0_2 t0_3 t0_4 t0_5 t0_6 t0_7 t0_8 t0_9 t0_10 t0_11 t0_12 t0_13 t0_14 t0_15 t0_16 t0_17 t0_18 t0_19 t0_20 t0_21 t1_0 t2_0 t3_0 t4_0 t5_0 t6_0) ∧ Q_VR_make (F_VR_make t0_0 t0_1 t0_2 t0_3 t0_4 t0_5 t0_6 t0_7 t0_8 t0_9 t0_10 t0_11 t0_12 t0_13 t0_14 t0_15 t0_16 t0_17 t0_18 t0_19 t0_20 t0_21 t1_0 t2_0 t3_0 t4_0 t5_0 t6_0) := by
  have e0 : (0 : Int32).toInt = 0 := rfl
  have e1 : (1 : Int32).toInt = 1 := rfl
  have eL0 : (0 : Int64).toInt = 0 := rfl
  have em : (-1 : Int32).toInt = -1 := rfl
  unfold S_VR_make F_VR_make
  by_cases g1 : ((F_VR_small t0_0 t0_1 t0_2 t0_3 t0_4 t0_5 t0_6 t0_7 t0_8 t0_9 t0_10 t0_11 t0_12 t0_13 t0_14 t0_15 t0_16 t0_17 t0_18 t0_19 t0_20 t0_21) : Int32) = (37 : Int32)
  ·
    rw [if_pos g1, if_pos g1]
    unfold S_VR_make_J48 F_VR_make_J48
    exact T_VR_mk49 hZ h11 h12 hA
  ·
    rw [if_neg g1, if_neg g1]
    have hA1 := hA g1
    by_cases g2 : ((F_VR_small t0_0 t0_1 t0_2 t0_3 t0_4 t0_5 t0_6 t0_7 t0_8 t0_9 t0_10 t0_11 t0_12 t0_13 t0_14 t0_15 t0_16 t0_17 t0_18 t0_19 t0_20 t0_21) : Int32) = (110 : Int32)
    ·
      rw [if_pos g2, if_pos g2]
      unfold S_VR_make_J48 F_VR_make_J48
      exact T_VR_mk49 hZ h11 h12 hA
    ·
      rw [if_neg g2, if_neg g2]
      have h14 := hA1 g2
      refine v_cons (by first | omega | decide) ?_
      refine v_cons (by first | omega | decide) ?_
      by_cases g3 : (t1_0 t0_14.toNatClampNeg : Int32) = (0 : Int32)
      ·
        rw [if_pos g3, if_pos g3]
        exact T_VR_mk49 hZ h11 h12 hA
      ·
        rw [if_neg g3, if_neg g3]
        unfold S_VR_make_J48 F_VR_make_J48
        exact T_VR_mk49 hZ h11 h12 hA
