/-! DirectiveRows: here, number, take, looked, run, print, text -/
theorem vr_nh {t0_0 t0_1 t0_2 t0_3 t0_4 t0_5 t0_6 t0_7 t0_8 t0_9 t0_10 t0_11 t0_12 t0_13 t0_14 t0_15 t0_16 t0_17 t0_18 t0_19 t0_20 t0_21 : Int32} {t1_0 : Nat → Int32} (h : t0_1 ≤ t0_7) : (F_VR_here t0_0 t0_1 t0_2 t0_3 t0_4 t0_5 t0_6 t0_7 t0_8 t0_9 t0_10 t0_11 t0_12 t0_13 t0_14 t0_15 t0_16 t0_17 t0_18 t0_19 t0_20 t0_21 t1_0) = -1 := by unfold F_VR_here; exact if_pos h
theorem vr_lt {t0_0 t0_1 t0_2 t0_3 t0_4 t0_5 t0_6 t0_7 t0_8 t0_9 t0_10 t0_11 t0_12 t0_13 t0_14 t0_15 t0_16 t0_17 t0_18 t0_19 t0_20 t0_21 : Int32} {t1_0 : Nat → Int32} {P : Int32 → Prop} (h : P (F_VR_here t0_0 t0_1 t0_2 t0_3 t0_4 t0_5 t0_6 t0_7 t0_8 t0_9 t0_10 t0_11 t0_12 t0_13 t0_14 t0_15 t0_16 t0_17 t0_18 t0_19 t0_20 t0_21 t1_0)) (n : ¬ P (-1)) : t0_7.toInt < t0_1.toInt := by
  by_cases c : t0_1 ≤ t0_7
  · rw [vr_nh c] at h; exact absurd h n
  · exact q_nleI c
theorem vr_dig {t0_0 t0_1 t0_2 t0_3 t0_4 t0_5 t0_6 t0_7 t0_8 t0_9 t0_10 t0_11 t0_12 t0_13 t0_14 t0_15 t0_16 t0_17 t0_18 t0_19 t0_20 t0_21 : Int32} {t1_0 : Nat → Int32} (h : ¬ F_VR_isDigit t0_0 t0_1 t0_2 t0_3 t0_4 t0_5 t0_6 t0_7 t0_8 t0_9 t0_10 t0_11 t0_12 t0_13 t0_14 t0_15 t0_16 t0_17 t0_18 t0_19 t0_20 t0_21 t1_0 = 0) : t0_7.toInt < t0_1.toInt ∧ 48 ≤ (F_VR_here t0_0 t0_1 t0_2 t0_3 t0_4 t0_5 t0_6 t0_7 t0_8 t0_9 t0_10 t0_11 t0_12 t0_13 t0_14 t0_15 t0_16 t0_17 t0_18 t0_19 t0_20 t0_21 t1_0).toInt ∧ (F_VR_here t0_0 t0_1 t0_2 t0_3 t0_4 t0_5 t0_6 t0_7 t0_8 t0_9 t0_10 t0_11 t0_12 t0_13 t0_14 t0_15 t0_16 t0_17 t0_18 t0_19 t0_20 t0_21 t1_0).toInt ≤ 57 := by
  unfold F_VR_isDigit at h
  by_cases a : (F_VR_here t0_0 t0_1 t0_2 t0_3 t0_4 t0_5 t0_6 t0_7 t0_8 t0_9 t0_10 t0_11 t0_12 t0_13 t0_14 t0_15 t0_16 t0_17 t0_18 t0_19 t0_20 t0_21 t1_0) < 48
  · rw [if_pos a] at h; exact absurd rfl h
  · rw [if_neg a] at h
    by_cases b : 57 < (F_VR_here t0_0 t0_1 t0_2 t0_3 t0_4 t0_5 t0_6 t0_7 t0_8 t0_9 t0_10 t0_11 t0_12 t0_13 t0_14 t0_15 t0_16 t0_17 t0_18 t0_19 t0_20 t0_21 t1_0)
    · rw [if_pos b] at h; exact absurd rfl h
    · exact ⟨vr_lt (P := fun z => ¬ z < 48) a (by decide), q_nltI a, q_nltI b⟩
theorem vr_flg {t0_0 t0_1 t0_2 t0_3 t0_4 t0_5 t0_6 t0_7 t0_8 t0_9 t0_10 t0_11 t0_12 t0_13 t0_14 t0_15 t0_16 t0_17 t0_18 t0_19 t0_20 t0_21 : Int32} {t1_0 : Nat → Int32} (h : ¬ F_VR_flag (F_VR_here t0_0 t0_1 t0_2 t0_3 t0_4 t0_5 t0_6 t0_7 t0_8 t0_9 t0_10 t0_11 t0_12 t0_13 t0_14 t0_15 t0_16 t0_17 t0_18 t0_19 t0_20 t0_21 t1_0) = 0) : t0_7.toInt < t0_1.toInt := vr_lt (P := fun z => ¬ F_VR_flag z = 0) h (by decide)
theorem vr_num {v c : Int32} (hv : 0 ≤ v.toInt ∧ v.toInt ≤ 9999) (hc : 48 ≤ c.toInt ∧ c.toInt ≤ 57) : 0 ≤ ((10 * v) + c - 48 : Int32).toInt ∧ ((10 * v) + c - 48 : Int32).toInt ≤ 99999 := by
  have a : (10 * v : Int32).toInt = 10 * v.toInt := q_mulI (x := 10) (by decide) rfl (by omega) (by omega)
  have b : ((10 * v) + c : Int32).toInt = 10 * v.toInt + c.toInt := q_addI a rfl (by omega) (by omega)
  have d : ((10 * v) + c - 48 : Int32).toInt = 10 * v.toInt + c.toInt - 48 := q_subI (y := 48) b (by decide) (by omega) (by omega)
  omega
def vrS (c : Int32) : Int32 := F_VR_small 0 0 0 0 0 0 0 0 0 0 0 0 0 c 0 0 0 0 0 0 0 0
theorem vr_sm {t0_0 t0_1 t0_2 t0_3 t0_4 t0_5 t0_6 t0_7 t0_8 t0_9 t0_10 t0_11 t0_12 t0_13 t0_14 t0_15 t0_16 t0_17 t0_18 t0_19 t0_20 t0_21 : Int32} : F_VR_small t0_0 t0_1 t0_2 t0_3 t0_4 t0_5 t0_6 t0_7 t0_8 t0_9 t0_10 t0_11 t0_12 t0_13 t0_14 t0_15 t0_16 t0_17 t0_18 t0_19 t0_20 t0_21 = vrS t0_13 := by unfold vrS F_VR_small; rfl
theorem T_VR_here {t0_0 : Int32} {t0_1 : Int32} {t0_2 : Int32} {t0_3 : Int32} {t0_4 : Int32} {t0_5 : Int32} {t0_6 : Int32} {t0_7 : Int32} {t0_8 : Int32} {t0_9 : Int32} {t0_10 : Int32} {t0_11 : Int32} {t0_12 : Int32} {t0_13 : Int32} {t0_14 : Int32} {t0_15 : Int32} {t0_16 : Int32} {t0_17 : Int32} {t0_18 : Int32} {t0_19 : Int32} {t0_20 : Int32} {t0_21 : Int32} {t1_0 : (Nat → Int32)} (hA7 : 0 ≤ t0_7.toInt) : (S_VR_here t0_0 t0_1 t0_2 t0_3 t0_4 t0_5 t0_6 t0_7 t0_8 t0_9 t0_10 t0_11 t0_12 t0_13 t0_14 t0_15 t0_16 t0_17 t0_18 t0_19 t0_20 t0_21 t1_0) := by
  have e0 : (0 : Int32).toInt = 0 := rfl
  have e1 : (1 : Int32).toInt = 1 := rfl
  have eL0 : (0 : Int64).toInt = 0 := rfl
  have em : (-1 : Int32).toInt = -1 := rfl
  unfold S_VR_here
  by_cases g1 : t0_1 ≤ t0_7
  ·
    rw [if_pos g1]
    have g1i : t0_1.toInt ≤ t0_7.toInt := q_leI g1
    exact trivial
  ·
    rw [if_neg g1]
    have g1i : t0_7.toInt < t0_1.toInt := q_nleI g1
    refine And.intro (by first | omega | decide) ?_
    exact trivial
theorem T_VR_isDigit {t0_0 : Int32} {t0_1 : Int32} {t0_2 : Int32} {t0_3 : Int32} {t0_4 : Int32} {t0_5 : Int32} {t0_6 : Int32} {t0_7 : Int32} {t0_8 : Int32} {t0_9 : Int32} {t0_10 : Int32} {t0_11 : Int32} {t0_12 : Int32} {t0_13 : Int32} {t0_14 : Int32} {t0_15 : Int32} {t0_16 : Int32} {t0_17 : Int32} {t0_18 : Int32} {t0_19 : Int32} {t0_20 : Int32} {t0_21 : Int32} {t1_0 : (Nat → Int32)} (hA7 : 0 ≤ t0_7.toInt) : (S_VR_isDigit t0_0 t0_1 t0_2 t0_3 t0_4 t0_5 t0_6 t0_7 t0_8 t0_9 t0_10 t0_11 t0_12 t0_13 t0_14 t0_15 t0_16 t0_17 t0_18 t0_19 t0_20 t0_21 t1_0) := by
  have e0 : (0 : Int32).toInt = 0 := rfl
  have e1 : (1 : Int32).toInt = 1 := rfl
  have eL0 : (0 : Int64).toInt = 0 := rfl
  have em : (-1 : Int32).toInt = -1 := rfl
  unfold S_VR_isDigit
  have h1 := T_VR_here (t0_0 := t0_0) (t0_1 := t0_1) (t0_2 := t0_2) (t0_3 := t0_3) (t0_4 := t0_4) (t0_5 := t0_5) (t0_6 := t0_6) (t0_7 := t0_7) (t0_8 := t0_8) (t0_9 := t0_9) (t0_10 := t0_10) (t0_11 := t0_11) (t0_12 := t0_12) (t0_13 := t0_13) (t0_14 := t0_14) (t0_15 := t0_15) (t0_16 := t0_16) (t0_17 := t0_17) (t0_18 := t0_18) (t0_19 := t0_19) (t0_20 := t0_20) (t0_21 := t0_21) (t1_0 := t1_0) (by omega)
  with_reducible refine v_oweS h1 ?_
  by_cases g2 : ((F_VR_here t0_0 t0_1 t0_2 t0_3 t0_4 t0_5 t0_6 t0_7 t0_8 t0_9 t0_10 t0_11 t0_12 t0_13 t0_14 t0_15 t0_16 t0_17 t0_18 t0_19 t0_20 t0_21 t1_0) : Int32) < (48 : Int32)
  ·
    rw [if_pos g2]
    exact trivial
  ·
    rw [if_neg g2]
    with_reducible refine v_oweS h1 ?_
    by_cases g3 : (57 : Int32) < ((F_VR_here t0_0 t0_1 t0_2 t0_3 t0_4 t0_5 t0_6 t0_7 t0_8 t0_9 t0_10 t0_11 t0_12 t0_13 t0_14 t0_15 t0_16 t0_17 t0_18 t0_19 t0_20 t0_21 t1_0) : Int32)
    ·
      rw [if_pos g3]
      exact trivial
    ·
      rw [if_neg g3]
      exact trivial
def Q_VR_number (t0_7 : Int32) (p : Int32 × Int32) : Prop := (0 ≤ p.1.toInt ∧ p.1.toInt ≤ 9999) ∧ (t0_7.toInt ≤ p.2.toInt ∧ p.2.toInt ≤ 256)
theorem vv_nu {t0_0 : Int32} {t0_1 : Int32} {t0_2 : Int32} {t0_3 : Int32} {t0_4 : Int32} {t0_5 : Int32} {t0_6 : Int32} {t0_7 : Int32} {t0_8 : Int32} {t0_9 : Int32} {t0_10 : Int32} {t0_11 : Int32} {t0_12 : Int32} {t0_13 : Int32} {t0_14 : Int32} {t0_15 : Int32} {t0_16 : Int32} {t0_17 : Int32} {t0_18 : Int32} {t0_19 : Int32} {t0_20 : Int32} {t0_21 : Int32} {t1_0 : (Nat → Int32)} (hA1 : t0_1.toInt ≤ 256) (hA7 : 0 ≤ t0_7.toInt ∧ t0_7.toInt ≤ 256)  : ∀ (n : Nat) (lx33 : Int32) (lx34 : Int32), (0 ≤ lx33.toInt ∧ lx33.toInt ≤ 99999) → (t0_7.toInt ≤ lx34.toInt ∧ lx34.toInt ≤ 256) → (256 - lx34.toInt < (n : Int)) → (S_VR_number_L2 t0_0 t0_1 t0_2 t0_3 t0_4 t0_5 t0_6 t0_7 t0_8 t0_9 t0_10 t0_11 t0_12 t0_13 t0_14 t0_15 t0_16 t0_17 t0_18 t0_19 t0_20 t0_21 t1_0 n lx33 lx34) ∧ Q_VR_number t0_7 (F_VR_number_L2 t0_0 t0_1 t0_2 t0_3 t0_4 t0_5 t0_6 t0_7 t0_8 t0_9 t0_10 t0_11 t0_12 t0_13 t0_14 t0_15 t0_16 t0_17 t0_18 t0_19 t0_20 t0_21 t1_0 n lx33 lx34) := by
  intro n
  induction n with
  | zero => intro lx33 lx34 hA0 hs hm; exact absurd (show False by omega) id
  | succ n ih =>
    intro lx33 lx34 hA0 hs hm
    have e0 : (0 : Int32).toInt = 0 := rfl
    have e1 : (1 : Int32).toInt = 1 := rfl
    have eL0 : (0 : Int64).toInt = 0 := rfl
    have em : (-1 : Int32).toInt = -1 := rfl
    rw [S_VR_number_L2.eq_2, F_VR_number_L2.eq_2]
    have h1 := T_VR_isDigit (t0_0 := t0_0) (t0_1 := t0_1) (t0_2 := t0_2) (t0_3 := t0_3) (t0_4 := t0_4) (t0_5 := t0_5) (t0_6 := t0_6) (t0_7 := lx34) (t0_8 := t0_8) (t0_9 := t0_9) (t0_10 := t0_10) (t0_11 := t0_11) (t0_12 := t0_12) (t0_13 := t0_13) (t0_14 := t0_14) (t0_15 := t0_15) (t0_16 := t0_16) (t0_17 := t0_17) (t0_18 := t0_18) (t0_19 := t0_19) (t0_20 := t0_20) (t0_21 := t0_21) (t1_0 := t1_0) (by omega)
    with_reducible refine v_owe h1 ?_
    by_cases g2 : ((F_VR_isDigit t0_0 t0_1 t0_2 t0_3 t0_4 t0_5 t0_6 lx34 t0_8 t0_9 t0_10 t0_11 t0_12 t0_13 t0_14 t0_15 t0_16 t0_17 t0_18 t0_19 t0_20 t0_21 t1_0) : Int32) = (0 : Int32)
    ·
      rw [if_pos g2, if_pos g2]
      by_cases g3 : lx33 ≤ (9999 : Int32)
      ·
        rw [if_pos g3, if_pos g3]
        have g3i : lx33.toInt ≤ 9999 := q_leI g3
        refine ⟨trivial, ?_⟩
        (unfold Q_VR_number; dsimp only; exact ⟨⟨by first | omega | decide, by first | omega | decide⟩, ⟨by omega, by omega⟩⟩)
      ·
        rw [if_neg g3, if_neg g3]
        have g3i : 9999 < lx33.toInt := q_nleI g3
        refine ⟨trivial, ?_⟩
        (unfold Q_VR_number; dsimp only; exact ⟨⟨by first | omega | decide, by first | omega | decide⟩, ⟨by omega, by omega⟩⟩)
    ·
      rw [if_neg g2, if_neg g2]
      have hd := vr_dig g2
      by_cases g4 : lx33 ≤ (9999 : Int32)
      ·
        rw [if_pos g4, if_pos g4]
        have g4i : lx33.toInt ≤ 9999 := q_leI g4
        have h5 := T_VR_here (t0_0 := t0_0) (t0_1 := t0_1) (t0_2 := t0_2) (t0_3 := t0_3) (t0_4 := t0_4) (t0_5 := t0_5) (t0_6 := t0_6) (t0_7 := lx34) (t0_8 := t0_8) (t0_9 := t0_9) (t0_10 := t0_10) (t0_11 := t0_11) (t0_12 := t0_12) (t0_13 := t0_13) (t0_14 := t0_14) (t0_15 := t0_15) (t0_16 := t0_16) (t0_17 := t0_17) (t0_18 := t0_18) (t0_19 := t0_19) (t0_20 := t0_20) (t0_21 := t0_21) (t1_0 := t1_0) (by omega)
        with_reducible refine v_owe h5 ?_
        obtain ⟨a6, e7⟩ := q_nm (lx34 + 1 : Int32)
        rw [e7]
        have a6i : a6.toInt = lx34.toInt + 1 := by rw [← e7]; exact q_addI (x := lx34.toInt) (y := 1) rfl (by decide) (by omega) (by omega)
        exact ih _ _ (vr_num ⟨hA0.1, by omega⟩ hd.2) ⟨by omega, by omega⟩ (by omega)
      ·
        rw [if_neg g4, if_neg g4]
        have g4i : 9999 < lx33.toInt := q_nleI g4
        obtain ⟨a8, e9⟩ := q_nm (lx34 + 1 : Int32)
        rw [e9]
        have a8i : a8.toInt = lx34.toInt + 1 := by rw [← e9]; exact q_addI (x := lx34.toInt) (y := 1) rfl (by decide) (by omega) (by omega)
        exact ih _ _ hA0 ⟨by omega, by omega⟩ (by omega)
theorem T_VR_number {t0_0 : Int32} {t0_1 : Int32} {t0_2 : Int32} {t0_3 : Int32} {t0_4 : Int32} {t0_5 : Int32} {t0_6 : Int32} {t0_7 : Int32} {t0_8 : Int32} {t0_9 : Int32} {t0_10 : Int32} {t0_11 : Int32} {t0_12 : Int32} {t0_13 : Int32} {t0_14 : Int32} {t0_15 : Int32} {t0_16 : Int32} {t0_17 : Int32} {t0_18 : Int32} {t0_19 : Int32} {t0_20 : Int32} {t0_21 : Int32} {t1_0 : (Nat → Int32)} (hA1 : t0_1.toInt ≤ 256) (hA7 : 0 ≤ t0_7.toInt ∧ t0_7.toInt ≤ 256)  : (S_VR_number t0_0 t0_1 t0_2 t0_3 t0_4 t0_5 t0_6 t0_7 t0_8 t0_9 t0_10 t0_11 t0_12 t0_13 t0_14 t0_15 t0_16 t0_17 t0_18 t0_19 t0_20 t0_21 t1_0) ∧ Q_VR_number t0_7 (F_VR_number t0_0 t0_1 t0_2 t0_3 t0_4 t0_5 t0_6 t0_7 t0_8 t0_9 t0_10 t0_11 t0_12 t0_13 t0_14 t0_15 t0_16 t0_17 t0_18 t0_19 t0_20 t0_21 t1_0) := by
  have e0 : (0 : Int32).toInt = 0 := rfl
  have e1 : (1 : Int32).toInt = 1 := rfl
  have eL0 : (0 : Int64).toInt = 0 := rfl
  have em : (-1 : Int32).toInt = -1 := rfl
  unfold S_VR_number F_VR_number
  exact vv_nu hA1 hA7 _ _ _ (by decide) ⟨by omega, by omega⟩ (by omega)
def Q_VR_take (t0_7 : Int32) (p : Int32 × Int32 × Int32 × Int32 × Int32 × Int32 × Int32) : Prop := (t0_7.toInt ≤ p.1.toInt ∧ p.1.toInt ≤ 256) ∧ (-1 ≤ p.2.2.2.2.1.toInt ∧ p.2.2.2.2.1.toInt ≤ 9999) ∧ (-1 ≤ p.2.2.2.2.2.1.toInt ∧ p.2.2.2.2.2.1.toInt ≤ 9999)
theorem T_VR_tk239 {K_F_VR_take_L86 : Int32 → Int32 → Int32 → (Int32 × Int32 × Int32 × Int32 × Int32 × Int32 × Int32)} {t0_0 : Int32} {t0_1 : Int32} {t0_2 : Int32} {t0_3 : Int32} {t0_4 : Int32} {t0_5 : Int32} {t0_6 : Int32} {t0_7 : Int32} {t0_8 : Int32} {t0_9 : Int32} {t0_10 : Int32} {t0_11 : Int32} {t0_12 : Int32} {t0_13 : Int32} {t0_14 : Int32} {t0_15 : Int32} {t0_16 : Int32} {t0_17 : Int32} {t0_18 : Int32} {t0_19 : Int32} {t0_20 : Int32} {t0_21 : Int32} {t1_0 : (Nat → Int32)} {lx50 : Int32} {lx51 : Int32} {lx62 : Int32} {lx63 : Int32} {lx64 : Int32} {lx100 : Int32} {lx101 : Int32} {lx118 : Int32} {lx119 : Int32} {K_S_VR_take_L86 : Int32 → Int32 → Int32 → Prop} (hA1 : t0_1.toInt ≤ 256) (hA7 : 0 ≤ t0_7.toInt ∧ t0_7.toInt ≤ 256) (hA118 : t0_7.toInt ≤ lx118.toInt ∧ lx118.toInt ≤ 256) (hA101 : -1 ≤ lx101.toInt ∧ lx101.toInt ≤ 9999) (hA119 : -1 ≤ lx119.toInt ∧ lx119.toInt ≤ 9999) : (S_VR_take_J239 K_S_VR_take_L86 t0_0 t0_1 t0_2 t0_3 t0_4 t0_5 t0_6 t0_7 t0_8 t0_9 t0_10 t0_11 t0_12 t0_13 t0_14 t0_15 t0_16 t0_17 t0_18 t0_19 t0_20 t0_21 t1_0 lx50 lx51 lx62 lx63 lx64 lx100 lx101 lx118 lx119) ∧ Q_VR_take t0_7 (F_VR_take_J239 K_F_VR_take_L86 t0_0 t0_1 t0_2 t0_3 t0_4 t0_5 t0_6 t0_7 t0_8 t0_9 t0_10 t0_11 t0_12 t0_13 t0_14 t0_15 t0_16 t0_17 t0_18 t0_19 t0_20 t0_21 t1_0 lx50 lx51 lx62 lx63 lx64 lx100 lx101 lx118 lx119) := by
  have e0 : (0 : Int32).toInt = 0 := rfl
  have e1 : (1 : Int32).toInt = 1 := rfl
  have eL0 : (0 : Int64).toInt = 0 := rfl
  have em : (-1 : Int32).toInt = -1 := rfl
  unfold S_VR_take_J239 F_VR_take_J239
  have h1 := T_VR_here (t0_0 := t0_0) (t0_1 := t0_1) (t0_2 := t0_2) (t0_3 := t0_3) (t0_4 := t0_4) (t0_5 := t0_5) (t0_6 := t0_6) (t0_7 := lx118) (t0_8 := lx51) (t0_9 := lx63) (t0_10 := lx64) (t0_11 := lx101) (t0_12 := lx119) (t0_13 := t0_13) (t0_14 := t0_14) (t0_15 := t0_15) (t0_16 := t0_16) (t0_17 := t0_17) (t0_18 := t0_18) (t0_19 := t0_19) (t0_20 := t0_20) (t0_21 := t0_21) (t1_0 := t1_0) (by omega)
  with_reducible refine v_owe h1 ?_
  by_cases g2 : (0 : Int32) ≤ ((F_VR_here t0_0 t0_1 t0_2 t0_3 t0_4 t0_5 t0_6 lx118 lx51 lx63 lx64 lx101 lx119 t0_13 t0_14 t0_15 t0_16 t0_17 t0_18 t0_19 t0_20 t0_21 t1_0) : Int32)
  ·
    rw [if_pos g2, if_pos g2]
    have hn := vr_lt (P := fun z => 0 ≤ z) g2 (by decide)
    refine ⟨trivial, ?_⟩
    (unfold Q_VR_take; dsimp only; first | exact ⟨⟨by omega, by omega⟩, ⟨by omega, by omega⟩, ⟨by omega, by omega⟩⟩ | (have eK : (lx118 + 1 : Int32).toInt = lx118.toInt + 1 := q_addI (y := 1) rfl (by decide) (by omega) (by omega); exact ⟨⟨by omega, by omega⟩, ⟨by omega, by omega⟩, ⟨by omega, by omega⟩⟩))
  ·
    rw [if_neg g2, if_neg g2]
    refine ⟨trivial, ?_⟩
    (unfold Q_VR_take; dsimp only; first | exact ⟨⟨by omega, by omega⟩, ⟨by omega, by omega⟩, ⟨by omega, by omega⟩⟩ | (have eK : (lx118 + 1 : Int32).toInt = lx118.toInt + 1 := q_addI (y := 1) rfl (by decide) (by omega) (by omega); exact ⟨⟨by omega, by omega⟩, ⟨by omega, by omega⟩, ⟨by omega, by omega⟩⟩))
theorem T_VR_tk167 {K_F_VR_take_L86 : Int32 → Int32 → Int32 → (Int32 × Int32 × Int32 × Int32 × Int32 × Int32 × Int32)} {t0_0 : Int32} {t0_1 : Int32} {t0_2 : Int32} {t0_3 : Int32} {t0_4 : Int32} {t0_5 : Int32} {t0_6 : Int32} {t0_7 : Int32} {t0_8 : Int32} {t0_9 : Int32} {t0_10 : Int32} {t0_11 : Int32} {t0_12 : Int32} {t0_13 : Int32} {t0_14 : Int32} {t0_15 : Int32} {t0_16 : Int32} {t0_17 : Int32} {t0_18 : Int32} {t0_19 : Int32} {t0_20 : Int32} {t0_21 : Int32} {t1_0 : (Nat → Int32)} {lx50 : Int32} {lx51 : Int32} {lx62 : Int32} {lx63 : Int32} {lx64 : Int32} {lx100 : Int32} {lx101 : Int32} {K_S_VR_take_L86 : Int32 → Int32 → Int32 → Prop} (hA1 : t0_1.toInt ≤ 256) (hA7 : 0 ≤ t0_7.toInt ∧ t0_7.toInt ≤ 256) (hA100 : t0_7.toInt ≤ lx100.toInt ∧ lx100.toInt ≤ 256) (hA101 : -1 ≤ lx101.toInt ∧ lx101.toInt ≤ 9999) : (S_VR_take_J167 K_S_VR_take_L86 t0_0 t0_1 t0_2 t0_3 t0_4 t0_5 t0_6 t0_7 t0_8 t0_9 t0_10 t0_11 t0_12 t0_13 t0_14 t0_15 t0_16 t0_17 t0_18 t0_19 t0_20 t0_21 t1_0 lx50 lx51 lx62 lx63 lx64 lx100 lx101) ∧ Q_VR_take t0_7 (F_VR_take_J167 K_F_VR_take_L86 t0_0 t0_1 t0_2 t0_3 t0_4 t0_5 t0_6 t0_7 t0_8 t0_9 t0_10 t0_11 t0_12 t0_13 t0_14 t0_15 t0_16 t0_17 t0_18 t0_19 t0_20 t0_21 t1_0 lx50 lx51 lx62 lx63 lx64 lx100 lx101) := by
  have e0 : (0 : Int32).toInt = 0 := rfl
  have e1 : (1 : Int32).toInt = 1 := rfl
  have eL0 : (0 : Int64).toInt = 0 := rfl
  have em : (-1 : Int32).toInt = -1 := rfl
  unfold S_VR_take_J167 F_VR_take_J167
  have h1 := T_VR_here (t0_0 := t0_0) (t0_1 := t0_1) (t0_2 := t0_2) (t0_3 := t0_3) (t0_4 := t0_4) (t0_5 := t0_5) (t0_6 := t0_6) (t0_7 := lx100) (t0_8 := lx51) (t0_9 := lx63) (t0_10 := lx64) (t0_11 := lx101) (t0_12 := (-1 : Int32)) (t0_13 := t0_13) (t0_14 := t0_14) (t0_15 := t0_15) (t0_16 := t0_16) (t0_17 := t0_17) (t0_18 := t0_18) (t0_19 := t0_19) (t0_20 := t0_20) (t0_21 := t0_21) (t1_0 := t1_0) (by omega)
  with_reducible refine v_owe h1 ?_
  by_cases g2 : ((F_VR_here t0_0 t0_1 t0_2 t0_3 t0_4 t0_5 t0_6 lx100 lx51 lx63 lx64 lx101 (-1 : Int32) t0_13 t0_14 t0_15 t0_16 t0_17 t0_18 t0_19 t0_20 t0_21 t1_0) : Int32) = (46 : Int32)
  ·
    rw [if_pos g2, if_pos g2]
    have hn := vr_lt (P := fun z => z = 46) g2 (by decide)
    obtain ⟨a3, e4⟩ := q_nm (lx100 + 1 : Int32)
    rw [e4]
    have a3i : a3.toInt = lx100.toInt + 1 := by rw [← e4]; exact q_addI (x := lx100.toInt) (y := 1) rfl (by decide) (by omega) (by omega)
    by_cases g5 : t0_1 ≤ a3
    ·
      rw [if_pos g5, if_pos g5]
      have g5i : t0_1.toInt ≤ a3.toInt := q_leI g5
      exact T_VR_tk239 hA1 hA7 ⟨by omega, by omega⟩ hA101 ⟨by first | omega | decide, by first | omega | decide⟩
    ·
      rw [if_neg g5, if_neg g5]
      have g5i : a3.toInt < t0_1.toInt := q_nleI g5
      refine v_cons (by first | omega | decide) ?_
      refine v_cons (by first | omega | decide) ?_
      by_cases g6 : (t1_0 a3.toNatClampNeg : Int32) < (48 : Int32)
      ·
        rw [if_pos g6, if_pos g6]
        exact T_VR_tk239 hA1 hA7 ⟨by omega, by omega⟩ hA101 ⟨by first | omega | decide, by first | omega | decide⟩
      ·
        rw [if_neg g6, if_neg g6]
        refine v_cons (by first | omega | decide) ?_
        refine v_cons (by first | omega | decide) ?_
        by_cases g7 : (57 : Int32) < (t1_0 a3.toNatClampNeg : Int32)
        ·
          rw [if_pos g7, if_pos g7]
          exact T_VR_tk239 hA1 hA7 ⟨by omega, by omega⟩ hA101 ⟨by first | omega | decide, by first | omega | decide⟩
        ·
          rw [if_neg g7, if_neg g7]
          have h8 := T_VR_number (t0_0 := t0_0) (t0_1 := t0_1) (t0_2 := t0_2) (t0_3 := t0_3) (t0_4 := t0_4) (t0_5 := t0_5) (t0_6 := t0_6) (t0_7 := a3) (t0_8 := lx51) (t0_9 := lx63) (t0_10 := lx64) (t0_11 := lx101) (t0_12 := (-1 : Int32)) (t0_13 := t0_13) (t0_14 := t0_14) (t0_15 := t0_15) (t0_16 := t0_16) (t0_17 := t0_17) (t0_18 := t0_18) (t0_19 := t0_19) (t0_20 := t0_20) (t0_21 := t0_21) (t1_0 := t1_0) hA1 ⟨by omega, by omega⟩
          with_reducible refine v_owe h8.1 ?_
          replace h8 := h8.2
          generalize F_VR_number t0_0 t0_1 t0_2 t0_3 t0_4 t0_5 t0_6 a3 lx51 lx63 lx64 lx101 (-1 : Int32) t0_13 t0_14 t0_15 t0_16 t0_17 t0_18 t0_19 t0_20 t0_21 t1_0 = p186 at *
          unfold Q_VR_number at h8
          unfold S_VR_take_c233 F_VR_take_c233
          exact T_VR_tk239 hA1 hA7 ⟨by omega, by omega⟩ hA101 ⟨by first | omega | decide, by first | omega | decide⟩
  ·
    rw [if_neg g2, if_neg g2]
    exact T_VR_tk239 hA1 hA7 ⟨by omega, by omega⟩ hA101 ⟨by first | omega | decide, by first | omega | decide⟩
theorem vv_tk {t0_0 : Int32} {t0_1 : Int32} {t0_2 : Int32} {t0_3 : Int32} {t0_4 : Int32} {t0_5 : Int32} {t0_6 : Int32} {t0_7 : Int32} {t0_8 : Int32} {t0_9 : Int32} {t0_10 : Int32} {t0_11 : Int32} {t0_12 : Int32} {t0_13 : Int32} {t0_14 : Int32} {t0_15 : Int32} {t0_16 : Int32} {t0_17 : Int32} {t0_18 : Int32} {t0_19 : Int32} {t0_20 : Int32} {t0_21 : Int32} {t1_0 : (Nat → Int32)} {lx50 : Int32} {lx51 : Int32} (hA1 : t0_1.toInt ≤ 256) (hA7 : 0 ≤ t0_7.toInt ∧ t0_7.toInt ≤ 256)  : ∀ (n : Nat) (lx62 : Int32) (lx63 : Int32) (lx64 : Int32), (t0_7.toInt ≤ lx62.toInt ∧ lx62.toInt ≤ 256) → (256 - lx62.toInt < (n : Int)) → (S_VR_take_L86 t0_0 t0_1 t0_2 t0_3 t0_4 t0_5 t0_6 t0_7 t0_8 t0_9 t0_10 t0_11 t0_12 t0_13 t0_14 t0_15 t0_16 t0_17 t0_18 t0_19 t0_20 t0_21 t1_0 lx50 lx51 n lx62 lx63 lx64) ∧ Q_VR_take t0_7 (F_VR_take_L86 t0_0 t0_1 t0_2 t0_3 t0_4 t0_5 t0_6 t0_7 t0_8 t0_9 t0_10 t0_11 t0_12 t0_13 t0_14 t0_15 t0_16 t0_17 t0_18 t0_19 t0_20 t0_21 t1_0 lx50 lx51 n lx62 lx63 lx64) := by
  intro n
  induction n with
  | zero => intro lx62 lx63 lx64 hs hm; exact absurd (show False by omega) id
  | succ n ih =>
    intro lx62 lx63 lx64 hs hm
    have e0 : (0 : Int32).toInt = 0 := rfl
    have e1 : (1 : Int32).toInt = 1 := rfl
    have eL0 : (0 : Int64).toInt = 0 := rfl
    have em : (-1 : Int32).toInt = -1 := rfl
    rw [S_VR_take_L86.eq_2, F_VR_take_L86.eq_2]
    have h1 := T_VR_here (t0_0 := t0_0) (t0_1 := t0_1) (t0_2 := t0_2) (t0_3 := t0_3) (t0_4 := t0_4) (t0_5 := t0_5) (t0_6 := t0_6) (t0_7 := lx62) (t0_8 := lx51) (t0_9 := lx63) (t0_10 := lx64) (t0_11 := (-1 : Int32)) (t0_12 := (-1 : Int32)) (t0_13 := t0_13) (t0_14 := t0_14) (t0_15 := t0_15) (t0_16 := t0_16) (t0_17 := t0_17) (t0_18 := t0_18) (t0_19 := t0_19) (t0_20 := t0_20) (t0_21 := t0_21) (t1_0 := t1_0) (by omega)
    with_reducible refine v_owe h1 ?_
    by_cases g2 : ((F_VR_flag ((F_VR_here t0_0 t0_1 t0_2 t0_3 t0_4 t0_5 t0_6 lx62 lx51 lx63 lx64 (-1 : Int32) (-1 : Int32) t0_13 t0_14 t0_15 t0_16 t0_17 t0_18 t0_19 t0_20 t0_21 t1_0) : Int32)) : Int32) = (0 : Int32)
    ·
      rw [if_pos g2, if_pos g2]
      have h3 := T_VR_isDigit (t0_0 := t0_0) (t0_1 := t0_1) (t0_2 := t0_2) (t0_3 := t0_3) (t0_4 := t0_4) (t0_5 := t0_5) (t0_6 := t0_6) (t0_7 := lx62) (t0_8 := lx51) (t0_9 := lx63) (t0_10 := lx64) (t0_11 := (-1 : Int32)) (t0_12 := (-1 : Int32)) (t0_13 := t0_13) (t0_14 := t0_14) (t0_15 := t0_15) (t0_16 := t0_16) (t0_17 := t0_17) (t0_18 := t0_18) (t0_19 := t0_19) (t0_20 := t0_20) (t0_21 := t0_21) (t1_0 := t1_0) (by omega)
      with_reducible refine v_owe h3 ?_
      by_cases g4 : ((F_VR_isDigit t0_0 t0_1 t0_2 t0_3 t0_4 t0_5 t0_6 lx62 lx51 lx63 lx64 (-1 : Int32) (-1 : Int32) t0_13 t0_14 t0_15 t0_16 t0_17 t0_18 t0_19 t0_20 t0_21 t1_0) : Int32) = (0 : Int32)
      ·
        rw [if_pos g4, if_pos g4]
        exact T_VR_tk167 hA1 hA7 ⟨by omega, by omega⟩ ⟨by first | omega | decide, by first | omega | decide⟩
      ·
        rw [if_neg g4, if_neg g4]
        have hd := vr_dig g4
        have h5 := T_VR_number (t0_0 := t0_0) (t0_1 := t0_1) (t0_2 := t0_2) (t0_3 := t0_3) (t0_4 := t0_4) (t0_5 := t0_5) (t0_6 := t0_6) (t0_7 := lx62) (t0_8 := lx51) (t0_9 := lx63) (t0_10 := lx64) (t0_11 := (-1 : Int32)) (t0_12 := (-1 : Int32)) (t0_13 := t0_13) (t0_14 := t0_14) (t0_15 := t0_15) (t0_16 := t0_16) (t0_17 := t0_17) (t0_18 := t0_18) (t0_19 := t0_19) (t0_20 := t0_20) (t0_21 := t0_21) (t1_0 := t1_0) hA1 ⟨by omega, by omega⟩
        with_reducible refine v_owe h5.1 ?_
        replace h5 := h5.2
        generalize F_VR_number t0_0 t0_1 t0_2 t0_3 t0_4 t0_5 t0_6 lx62 lx51 lx63 lx64 (-1 : Int32) (-1 : Int32) t0_13 t0_14 t0_15 t0_16 t0_17 t0_18 t0_19 t0_20 t0_21 t1_0 = p209 at *
        unfold Q_VR_number at h5
        unfold S_VR_take_c161 F_VR_take_c161
        exact T_VR_tk167 hA1 hA7 ⟨by omega, by omega⟩ ⟨by first | omega | decide, by first | omega | decide⟩
    ·
      rw [if_neg g2, if_neg g2]
      have hf := vr_flg g2
      by_cases g6 : lx64 = (0 : Int32)
      ·
        rw [if_pos g6, if_pos g6]
        with_reducible refine v_owe h1 ?_
        by_cases g7 : ((F_VR_has ((F_VR_here t0_0 t0_1 t0_2 t0_3 t0_4 t0_5 t0_6 lx62 lx51 lx63 lx64 (-1 : Int32) (-1 : Int32) t0_13 t0_14 t0_15 t0_16 t0_17 t0_18 t0_19 t0_20 t0_21 t1_0) : Int32) t0_0 t0_1 t0_2 t0_3 t0_4 t0_5 t0_6 lx62 lx51 lx63 lx64 (-1 : Int32) (-1 : Int32) t0_13 t0_14 t0_15 t0_16 t0_17 t0_18 t0_19 t0_20 t0_21) : Int32) = (0 : Int32)
        ·
          rw [if_pos g7, if_pos g7]
          unfold S_VR_take_J120 F_VR_take_J120
          have h8 := T_VR_here (t0_0 := t0_0) (t0_1 := t0_1) (t0_2 := t0_2) (t0_3 := t0_3) (t0_4 := t0_4) (t0_5 := t0_5) (t0_6 := t0_6) (t0_7 := lx62) (t0_8 := lx51) (t0_9 := lx63) (t0_10 := (0 : Int32)) (t0_11 := (-1 : Int32)) (t0_12 := (-1 : Int32)) (t0_13 := t0_13) (t0_14 := t0_14) (t0_15 := t0_15) (t0_16 := t0_16) (t0_17 := t0_17) (t0_18 := t0_18) (t0_19 := t0_19) (t0_20 := t0_20) (t0_21 := t0_21) (t1_0 := t1_0) (by omega)
          with_reducible refine v_owe h8 ?_
          obtain ⟨a9, e10⟩ := q_nm (lx62 + 1 : Int32)
          rw [e10]
          have a9i : a9.toInt = lx62.toInt + 1 := by rw [← e10]; exact q_addI (x := lx62.toInt) (y := 1) rfl (by decide) (by omega) (by omega)
          exact ih _ _ _ ⟨by omega, by omega⟩ (by omega)
        ·
          rw [if_neg g7, if_neg g7]
          unfold S_VR_take_J115 F_VR_take_J115
          unfold S_VR_take_J120 F_VR_take_J120
          have h11 := T_VR_here (t0_0 := t0_0) (t0_1 := t0_1) (t0_2 := t0_2) (t0_3 := t0_3) (t0_4 := t0_4) (t0_5 := t0_5) (t0_6 := t0_6) (t0_7 := lx62) (t0_8 := lx51) (t0_9 := lx63) (t0_10 := (1 : Int32)) (t0_11 := (-1 : Int32)) (t0_12 := (-1 : Int32)) (t0_13 := t0_13) (t0_14 := t0_14) (t0_15 := t0_15) (t0_16 := t0_16) (t0_17 := t0_17) (t0_18 := t0_18) (t0_19 := t0_19) (t0_20 := t0_20) (t0_21 := t0_21) (t1_0 := t1_0) (by omega)
          with_reducible refine v_owe h11 ?_
          obtain ⟨a12, e13⟩ := q_nm (lx62 + 1 : Int32)
          rw [e13]
          have a12i : a12.toInt = lx62.toInt + 1 := by rw [← e13]; exact q_addI (x := lx62.toInt) (y := 1) rfl (by decide) (by omega) (by omega)
          exact ih _ _ _ ⟨by omega, by omega⟩ (by omega)
      ·
        rw [if_neg g6, if_neg g6]
        unfold S_VR_take_J115 F_VR_take_J115
        unfold S_VR_take_J120 F_VR_take_J120
        have h14 := T_VR_here (t0_0 := t0_0) (t0_1 := t0_1) (t0_2 := t0_2) (t0_3 := t0_3) (t0_4 := t0_4) (t0_5 := t0_5) (t0_6 := t0_6) (t0_7 := lx62) (t0_8 := lx51) (t0_9 := lx63) (t0_10 := (1 : Int32)) (t0_11 := (-1 : Int32)) (t0_12 := (-1 : Int32)) (t0_13 := t0_13) (t0_14 := t0_14) (t0_15 := t0_15) (t0_16 := t0_16) (t0_17 := t0_17) (t0_18 := t0_18) (t0_19 := t0_19) (t0_20 := t0_20) (t0_21 := t0_21) (t1_0 := t1_0) (by omega)
        with_reducible refine v_owe h14 ?_
        obtain ⟨a15, e16⟩ := q_nm (lx62 + 1 : Int32)
        rw [e16]
        have a15i : a15.toInt = lx62.toInt + 1 := by rw [← e16]; exact q_addI (x := lx62.toInt) (y := 1) rfl (by decide) (by omega) (by omega)
        exact ih _ _ _ ⟨by omega, by omega⟩ (by omega)
theorem T_VR_take {t0_0 : Int32} {t0_1 : Int32} {t0_2 : Int32} {t0_3 : Int32} {t0_4 : Int32} {t0_5 : Int32} {t0_6 : Int32} {t0_7 : Int32} {t0_8 : Int32} {t0_9 : Int32} {t0_10 : Int32} {t0_11 : Int32} {t0_12 : Int32} {t0_13 : Int32} {t0_14 : Int32} {t0_15 : Int32} {t0_16 : Int32} {t0_17 : Int32} {t0_18 : Int32} {t0_19 : Int32} {t0_20 : Int32} {t0_21 : Int32} {t1_0 : (Nat → Int32)} (hA1 : t0_1.toInt ≤ 256) (hA7 : 0 ≤ t0_7.toInt ∧ t0_7.toInt ≤ 256)  : (S_VR_take t0_0 t0_1 t0_2 t0_3 t0_4 t0_5 t0_6 t0_7 t0_8 t0_9 t0_10 t0_11 t0_12 t0_13 t0_14 t0_15 t0_16 t0_17 t0_18 t0_19 t0_20 t0_21 t1_0) ∧ Q_VR_take t0_7 (F_VR_take t0_0 t0_1 t0_2 t0_3 t0_4 t0_5 t0_6 t0_7 t0_8 t0_9 t0_10 t0_11 t0_12 t0_13 t0_14 t0_15 t0_16 t0_17 t0_18 t0_19 t0_20 t0_21 t1_0) := by
  have e0 : (0 : Int32).toInt = 0 := rfl
  have e1 : (1 : Int32).toInt = 1 := rfl
  have eL0 : (0 : Int64).toInt = 0 := rfl
  have em : (-1 : Int32).toInt = -1 := rfl
  unfold S_VR_take F_VR_take
  have h1 := T_VR_isDigit (t0_0 := t0_0) (t0_1 := t0_1) (t0_2 := t0_2) (t0_3 := t0_3) (t0_4 := t0_4) (t0_5 := t0_5) (t0_6 := t0_6) (t0_7 := t0_7) (t0_8 := (0 : Int32)) (t0_9 := (0 : Int32)) (t0_10 := (0 : Int32)) (t0_11 := (-1 : Int32)) (t0_12 := (-1 : Int32)) (t0_13 := t0_13) (t0_14 := t0_14) (t0_15 := t0_15) (t0_16 := t0_16) (t0_17 := t0_17) (t0_18 := t0_18) (t0_19 := t0_19) (t0_20 := t0_20) (t0_21 := t0_21) (t1_0 := t1_0) (by omega)
  with_reducible refine v_owe h1 ?_
  by_cases g2 : ((F_VR_isDigit t0_0 t0_1 t0_2 t0_3 t0_4 t0_5 t0_6 t0_7 (0 : Int32) (0 : Int32) (0 : Int32) (-1 : Int32) (-1 : Int32) t0_13 t0_14 t0_15 t0_16 t0_17 t0_18 t0_19 t0_20 t0_21 t1_0) : Int32) = (0 : Int32)
  ·
    rw [if_pos g2, if_pos g2]
    unfold S_VR_take_J86 F_VR_take_J86
    exact vv_tk hA1 hA7 1000000 _ _ _ ⟨by omega, by omega⟩ (by omega)
  ·
    rw [if_neg g2, if_neg g2]
    have hd := vr_dig g2
    have h3 := T_VR_here (t0_0 := t0_0) (t0_1 := t0_1) (t0_2 := t0_2) (t0_3 := t0_3) (t0_4 := t0_4) (t0_5 := t0_5) (t0_6 := t0_6) (t0_7 := t0_7) (t0_8 := (0 : Int32)) (t0_9 := (0 : Int32)) (t0_10 := (0 : Int32)) (t0_11 := (-1 : Int32)) (t0_12 := (-1 : Int32)) (t0_13 := t0_13) (t0_14 := t0_14) (t0_15 := t0_15) (t0_16 := t0_16) (t0_17 := t0_17) (t0_18 := t0_18) (t0_19 := t0_19) (t0_20 := t0_20) (t0_21 := t0_21) (t1_0 := t1_0) (by omega)
    with_reducible refine v_owe h3 ?_
    by_cases g4 : ((F_VR_here t0_0 t0_1 t0_2 t0_3 t0_4 t0_5 t0_6 t0_7 (0 : Int32) (0 : Int32) (0 : Int32) (-1 : Int32) (-1 : Int32) t0_13 t0_14 t0_15 t0_16 t0_17 t0_18 t0_19 t0_20 t0_21 t1_0) : Int32) = (48 : Int32)
    ·
      rw [if_pos g4, if_pos g4]
      unfold S_VR_take_J86 F_VR_take_J86
      exact vv_tk hA1 hA7 1000000 _ _ _ ⟨by omega, by omega⟩ (by omega)
    ·
      rw [if_neg g4, if_neg g4]
      have h5 := T_VR_number (t0_0 := t0_0) (t0_1 := t0_1) (t0_2 := t0_2) (t0_3 := t0_3) (t0_4 := t0_4) (t0_5 := t0_5) (t0_6 := t0_6) (t0_7 := t0_7) (t0_8 := (0 : Int32)) (t0_9 := (0 : Int32)) (t0_10 := (0 : Int32)) (t0_11 := (-1 : Int32)) (t0_12 := (-1 : Int32)) (t0_13 := t0_13) (t0_14 := t0_14) (t0_15 := t0_15) (t0_16 := t0_16) (t0_17 := t0_17) (t0_18 := t0_18) (t0_19 := t0_19) (t0_20 := t0_20) (t0_21 := t0_21) (t1_0 := t1_0) hA1 ⟨by omega, by omega⟩
      with_reducible refine v_owe h5.1 ?_
      replace h5 := h5.2
      generalize F_VR_number t0_0 t0_1 t0_2 t0_3 t0_4 t0_5 t0_6 t0_7 (0 : Int32) (0 : Int32) (0 : Int32) (-1 : Int32) (-1 : Int32) t0_13 t0_14 t0_15 t0_16 t0_17 t0_18 t0_19 t0_20 t0_21 t1_0 = p304 at *
      unfold Q_VR_number at h5
      unfold S_VR_take_c48 F_VR_take_c48
      have h6 := T_VR_here (t0_0 := t0_0) (t0_1 := t0_1) (t0_2 := t0_2) (t0_3 := t0_3) (t0_4 := t0_4) (t0_5 := t0_5) (t0_6 := t0_6) (t0_7 := (p304.2 : Int32)) (t0_8 := (p304.1 : Int32)) (t0_9 := (0 : Int32)) (t0_10 := (0 : Int32)) (t0_11 := (-1 : Int32)) (t0_12 := (-1 : Int32)) (t0_13 := t0_13) (t0_14 := t0_14) (t0_15 := t0_15) (t0_16 := t0_16) (t0_17 := t0_17) (t0_18 := t0_18) (t0_19 := t0_19) (t0_20 := t0_20) (t0_21 := t0_21) (t1_0 := t1_0) (by omega)
      with_reducible refine v_owe h6 ?_
      by_cases g7 : ((F_VR_here t0_0 t0_1 t0_2 t0_3 t0_4 t0_5 t0_6 (p304.2 : Int32) (p304.1 : Int32) (0 : Int32) (0 : Int32) (-1 : Int32) (-1 : Int32) t0_13 t0_14 t0_15 t0_16 t0_17 t0_18 t0_19 t0_20 t0_21 t1_0) : Int32) = (36 : Int32)
      ·
        rw [if_pos g7, if_pos g7]
        have hn := vr_lt (P := fun z => z = 36) g7 (by decide)
        unfold S_VR_take_J86 F_VR_take_J86
        have eK : (p304.2 + 1 : Int32).toInt = p304.2.toInt + 1 := q_addI (y := 1) rfl (by decide) (by omega) (by omega); exact vv_tk hA1 hA7 1000000 _ _ _ ⟨by omega, by omega⟩ (by omega)
      ·
        rw [if_neg g7, if_neg g7]
        unfold S_VR_take_J86 F_VR_take_J86
        exact vv_tk hA1 hA7 1000000 _ _ _ ⟨by omega, by omega⟩ (by omega)
def Q_VR_ch (p : Int32 × Int32 × Int32 × Int32) : Prop := p.1.toInt ≤ 0 → 0 ≤ p.2.1.toInt ∧ p.2.1.toInt ≤ 8
theorem T_VR_ch220 {x2 : Int32} {t0_0 : Int32} {t0_1 : Int32} {t0_2 : Int32} {t0_3 : Int32} {t0_4 : Int32} {t0_5 : Int32} {t0_6 : Int32} {t0_7 : Int32} {t0_8 : Int32} {t0_9 : Int32} {t0_10 : Int32} {t0_11 : Int32} {t0_12 : Int32} {t0_13 : Int32} {t0_14 : Int32} {t0_15 : Int32} {t0_16 : Int32} {t0_17 : Int32} {t0_18 : Int32} {t0_19 : Int32} {t0_20 : Int32} {t0_21 : Int32} {t1_0 : (Nat → Int32)} {t2_0 : (Nat → Int32)} {t3_0 : (Nat → Int64)} {lx44 : Int32} {lx45 : Int32} {a64 : Int32} {lx66 : Int32} {lx79 : Int32} {lx92 : Int32} {lx105 : Int32} (hA44 : 0 ≤ lx44.toInt ∧ lx44.toInt ≤ 8)  : Q_VR_ch (F_VR_chosen_J220 x2 t0_0 t0_1 t0_2 t0_3 t0_4 t0_5 t0_6 t0_7 t0_8 t0_9 t0_10 t0_11 t0_12 t0_13 t0_14 t0_15 t0_16 t0_17 t0_18 t0_19 t0_20 t0_21 t1_0 t2_0 t3_0 lx44 lx45 a64 lx66 lx79 lx92 lx105) := by
  have e0 : (0 : Int32).toInt = 0 := rfl
  have e1 : (1 : Int32).toInt = 1 := rfl
  have eL0 : (0 : Int64).toInt = 0 := rfl
  have em : (-1 : Int32).toInt = -1 := rfl
  unfold F_VR_chosen_J220
  by_cases g1 : lx105 = (0 : Int32)
  ·
    rw [if_pos g1]
    by_cases g2 : x2 = (99 : Int32)
    ·
      rw [if_pos g2]
      by_cases g3 : a64 = (3 : Int32)
      ·
        rw [if_pos g3]
        by_cases g4 : (lg_cmp (t3_0 lx44.toNatClampNeg : Int64) 0 : Int32) < (0 : Int32)
        ·
          rw [if_pos g4]
          (unfold Q_VR_ch; dsimp only; intro z; exact absurd z (by decide))
        ·
          rw [if_neg g4]
          by_cases g5 : (lg_cmp (t3_0 lx44.toNatClampNeg : Int64) 255 : Int32) ≤ (0 : Int32)
          ·
            rw [if_pos g5]
            (unfold Q_VR_ch; dsimp only; intro z; exact ⟨by omega, by omega⟩)
          ·
            rw [if_neg g5]
            (unfold Q_VR_ch; dsimp only; intro z; exact absurd z (by decide))
      ·
        rw [if_neg g3]
        (unfold Q_VR_ch; dsimp only; intro z; exact ⟨by omega, by omega⟩)
    ·
      rw [if_neg g2]
      (unfold Q_VR_ch; dsimp only; intro z; exact ⟨by omega, by omega⟩)
  ·
    rw [if_neg g1]
    (unfold Q_VR_ch; dsimp only; intro z; exact absurd z (by decide))
theorem T_VR_ch181 {x2 : Int32} {t0_0 : Int32} {t0_1 : Int32} {t0_2 : Int32} {t0_3 : Int32} {t0_4 : Int32} {t0_5 : Int32} {t0_6 : Int32} {t0_7 : Int32} {t0_8 : Int32} {t0_9 : Int32} {t0_10 : Int32} {t0_11 : Int32} {t0_12 : Int32} {t0_13 : Int32} {t0_14 : Int32} {t0_15 : Int32} {t0_16 : Int32} {t0_17 : Int32} {t0_18 : Int32} {t0_19 : Int32} {t0_20 : Int32} {t0_21 : Int32} {t1_0 : (Nat → Int32)} {t2_0 : (Nat → Int32)} {t3_0 : (Nat → Int64)} {lx44 : Int32} {lx45 : Int32} {a64 : Int32} {lx66 : Int32} {lx79 : Int32} {lx92 : Int32} (hA44 : 0 ≤ lx44.toInt ∧ lx44.toInt ≤ 8)  : Q_VR_ch (F_VR_chosen_J181 x2 t0_0 t0_1 t0_2 t0_3 t0_4 t0_5 t0_6 t0_7 t0_8 t0_9 t0_10 t0_11 t0_12 t0_13 t0_14 t0_15 t0_16 t0_17 t0_18 t0_19 t0_20 t0_21 t1_0 t2_0 t3_0 lx44 lx45 a64 lx66 lx79 lx92) := by
  have e0 : (0 : Int32).toInt = 0 := rfl
  have e1 : (1 : Int32).toInt = 1 := rfl
  have eL0 : (0 : Int64).toInt = 0 := rfl
  have em : (-1 : Int32).toInt = -1 := rfl
  unfold F_VR_chosen_J181
  by_cases g1 : lx92 = (0 : Int32)
  ·
    rw [if_pos g1]
    by_cases g2 : x2 = (102 : Int32)
    ·
      rw [if_pos g2]
      unfold F_VR_chosen_J206
      by_cases g3 : a64 = (5 : Int32)
      ·
        rw [if_pos g3]
        unfold F_VR_chosen_J219
        exact T_VR_ch220 hA44
      ·
        rw [if_neg g3]
        by_cases g4 : a64 = (0 : Int32)
        ·
          rw [if_pos g4]
          unfold F_VR_chosen_J219
          exact T_VR_ch220 hA44
        ·
          rw [if_neg g4]
          unfold F_VR_chosen_J215
          exact T_VR_ch220 hA44
    ·
      rw [if_neg g2]
      by_cases g5 : x2 = (101 : Int32)
      ·
        rw [if_pos g5]
        unfold F_VR_chosen_J206
        by_cases g6 : a64 = (5 : Int32)
        ·
          rw [if_pos g6]
          unfold F_VR_chosen_J219
          exact T_VR_ch220 hA44
        ·
          rw [if_neg g6]
          by_cases g7 : a64 = (0 : Int32)
          ·
            rw [if_pos g7]
            unfold F_VR_chosen_J219
            exact T_VR_ch220 hA44
          ·
            rw [if_neg g7]
            unfold F_VR_chosen_J215
            exact T_VR_ch220 hA44
      ·
        rw [if_neg g5]
        by_cases g8 : x2 = (103 : Int32)
        ·
          rw [if_pos g8]
          unfold F_VR_chosen_J206
          by_cases g9 : a64 = (5 : Int32)
          ·
            rw [if_pos g9]
            unfold F_VR_chosen_J219
            exact T_VR_ch220 hA44
          ·
            rw [if_neg g9]
            by_cases g10 : a64 = (0 : Int32)
            ·
              rw [if_pos g10]
              unfold F_VR_chosen_J219
              exact T_VR_ch220 hA44
            ·
              rw [if_neg g10]
              unfold F_VR_chosen_J215
              exact T_VR_ch220 hA44
        ·
          rw [if_neg g8]
          unfold F_VR_chosen_J219
          exact T_VR_ch220 hA44
  ·
    rw [if_neg g1]
    unfold F_VR_chosen_J215
    exact T_VR_ch220 hA44
theorem T_VR_ch152 {x2 : Int32} {t0_0 : Int32} {t0_1 : Int32} {t0_2 : Int32} {t0_3 : Int32} {t0_4 : Int32} {t0_5 : Int32} {t0_6 : Int32} {t0_7 : Int32} {t0_8 : Int32} {t0_9 : Int32} {t0_10 : Int32} {t0_11 : Int32} {t0_12 : Int32} {t0_13 : Int32} {t0_14 : Int32} {t0_15 : Int32} {t0_16 : Int32} {t0_17 : Int32} {t0_18 : Int32} {t0_19 : Int32} {t0_20 : Int32} {t0_21 : Int32} {t1_0 : (Nat → Int32)} {t2_0 : (Nat → Int32)} {t3_0 : (Nat → Int64)} {lx44 : Int32} {lx45 : Int32} {a64 : Int32} {lx66 : Int32} {lx79 : Int32} (hA44 : 0 ≤ lx44.toInt ∧ lx44.toInt ≤ 8)  : Q_VR_ch (F_VR_chosen_J152 x2 t0_0 t0_1 t0_2 t0_3 t0_4 t0_5 t0_6 t0_7 t0_8 t0_9 t0_10 t0_11 t0_12 t0_13 t0_14 t0_15 t0_16 t0_17 t0_18 t0_19 t0_20 t0_21 t1_0 t2_0 t3_0 lx44 lx45 a64 lx66 lx79) := by
  have e0 : (0 : Int32).toInt = 0 := rfl
  have e1 : (1 : Int32).toInt = 1 := rfl
  have eL0 : (0 : Int64).toInt = 0 := rfl
  have em : (-1 : Int32).toInt = -1 := rfl
  unfold F_VR_chosen_J152
  by_cases g1 : lx79 = (0 : Int32)
  ·
    rw [if_pos g1]
    by_cases g2 : ((F_VR_isNumeric x2 t0_0 t0_1 t0_2 t0_3 t0_4 t0_5 t0_6 t0_7 t0_8 t0_9 t0_10 t0_11 t0_12 t0_13 lx44 lx45 lx44 t0_17 t0_18 t0_19 t0_20 t0_21) : Int32) = (0 : Int32)
    ·
      rw [if_pos g2]
      unfold F_VR_chosen_J180
      exact T_VR_ch181 hA44
    ·
      rw [if_neg g2]
      by_cases g3 : a64 = (3 : Int32)
      ·
        rw [if_pos g3]
        unfold F_VR_chosen_J180
        exact T_VR_ch181 hA44
      ·
        rw [if_neg g3]
        by_cases g4 : a64 = (0 : Int32)
        ·
          rw [if_pos g4]
          unfold F_VR_chosen_J180
          exact T_VR_ch181 hA44
        ·
          rw [if_neg g4]
          unfold F_VR_chosen_J176
          exact T_VR_ch181 hA44
  ·
    rw [if_neg g1]
    unfold F_VR_chosen_J176
    exact T_VR_ch181 hA44
theorem T_VR_ch121 {x2 : Int32} {t0_0 : Int32} {t0_1 : Int32} {t0_2 : Int32} {t0_3 : Int32} {t0_4 : Int32} {t0_5 : Int32} {t0_6 : Int32} {t0_7 : Int32} {t0_8 : Int32} {t0_9 : Int32} {t0_10 : Int32} {t0_11 : Int32} {t0_12 : Int32} {t0_13 : Int32} {t0_14 : Int32} {t0_15 : Int32} {t0_16 : Int32} {t0_17 : Int32} {t0_18 : Int32} {t0_19 : Int32} {t0_20 : Int32} {t0_21 : Int32} {t1_0 : (Nat → Int32)} {t2_0 : (Nat → Int32)} {t3_0 : (Nat → Int64)} {lx44 : Int32} {lx45 : Int32} {a64 : Int32} {lx66 : Int32} (hA44 : 0 ≤ lx44.toInt ∧ lx44.toInt ≤ 8)  : Q_VR_ch (F_VR_chosen_J121 x2 t0_0 t0_1 t0_2 t0_3 t0_4 t0_5 t0_6 t0_7 t0_8 t0_9 t0_10 t0_11 t0_12 t0_13 t0_14 t0_15 t0_16 t0_17 t0_18 t0_19 t0_20 t0_21 t1_0 t2_0 t3_0 lx44 lx45 a64 lx66) := by
  have e0 : (0 : Int32).toInt = 0 := rfl
  have e1 : (1 : Int32).toInt = 1 := rfl
  have eL0 : (0 : Int64).toInt = 0 := rfl
  have em : (-1 : Int32).toInt = -1 := rfl
  unfold F_VR_chosen_J121
  by_cases g1 : x2 = (99 : Int32)
  ·
    rw [if_pos g1]
    by_cases g2 : a64 = (1 : Int32)
    ·
      rw [if_pos g2]
      unfold F_VR_chosen_J147
      exact T_VR_ch152 hA44
    ·
      rw [if_neg g2]
      by_cases g3 : a64 = (4 : Int32)
      ·
        rw [if_pos g3]
        unfold F_VR_chosen_J147
        exact T_VR_ch152 hA44
      ·
        rw [if_neg g3]
        by_cases g4 : a64 = (5 : Int32)
        ·
          rw [if_pos g4]
          unfold F_VR_chosen_J147
          exact T_VR_ch152 hA44
        ·
          rw [if_neg g4]
          by_cases g5 : lx66 = (0 : Int32)
          ·
            rw [if_pos g5]
            unfold F_VR_chosen_J151
            exact T_VR_ch152 hA44
          ·
            rw [if_neg g5]
            unfold F_VR_chosen_J147
            exact T_VR_ch152 hA44
  ·
    rw [if_neg g1]
    unfold F_VR_chosen_J151
    exact T_VR_ch152 hA44
theorem T_VR_ch58 {x2 : Int32} {t0_0 : Int32} {t0_1 : Int32} {t0_2 : Int32} {t0_3 : Int32} {t0_4 : Int32} {t0_5 : Int32} {t0_6 : Int32} {t0_7 : Int32} {t0_8 : Int32} {t0_9 : Int32} {t0_10 : Int32} {t0_11 : Int32} {t0_12 : Int32} {t0_13 : Int32} {t0_14 : Int32} {t0_15 : Int32} {t0_16 : Int32} {t0_17 : Int32} {t0_18 : Int32} {t0_19 : Int32} {t0_20 : Int32} {t0_21 : Int32} {t1_0 : (Nat → Int32)} {t2_0 : (Nat → Int32)} {t3_0 : (Nat → Int64)} {lx44 : Int32} {lx45 : Int32} (hA2 : t0_2.toInt ≤ 9)  : Q_VR_ch (F_VR_chosen_J58 x2 t0_0 t0_1 t0_2 t0_3 t0_4 t0_5 t0_6 t0_7 t0_8 t0_9 t0_10 t0_11 t0_12 t0_13 t0_14 t0_15 t0_16 t0_17 t0_18 t0_19 t0_20 t0_21 t1_0 t2_0 t3_0 lx44 lx45) := by
  have e0 : (0 : Int32).toInt = 0 := rfl
  have e1 : (1 : Int32).toInt = 1 := rfl
  have eL0 : (0 : Int64).toInt = 0 := rfl
  have em : (-1 : Int32).toInt = -1 := rfl
  unfold F_VR_chosen_J58
  by_cases g1 : lx44 < (0 : Int32)
  ·
    rw [if_pos g1]
    have g1i : lx44.toInt < 0 := q_ltI g1
    (unfold Q_VR_ch; dsimp only; intro z; exact absurd z (by decide))
  ·
    rw [if_neg g1]
    have g1i : 0 ≤ lx44.toInt := q_nltI g1
    by_cases g2 : lx44 < t0_2
    ·
      rw [if_pos g2]
      have g2i : lx44.toInt < t0_2.toInt := q_ltI g2
      by_cases g3 : (t1_0 lx44.toNatClampNeg : Int32) = (3 : Int32)
      ·
        rw [if_pos g3]
        by_cases g4 : (t2_0 lx44.toNatClampNeg : Int32) = (64 : Int32)
        ·
          rw [if_pos g4]
          exact T_VR_ch121 ⟨by omega, by omega⟩
        ·
          rw [if_neg g4]
          unfold F_VR_chosen_J120
          exact T_VR_ch121 ⟨by omega, by omega⟩
      ·
        rw [if_neg g3]
        unfold F_VR_chosen_J120
        exact T_VR_ch121 ⟨by omega, by omega⟩
    ·
      rw [if_neg g2]
      have g2i : t0_2.toInt ≤ lx44.toInt := q_nltI g2
      (unfold Q_VR_ch; dsimp only; intro z; exact absurd z (by decide))
theorem T_VR_chosen {x2 : Int32} {t0_0 : Int32} {t0_1 : Int32} {t0_2 : Int32} {t0_3 : Int32} {t0_4 : Int32} {t0_5 : Int32} {t0_6 : Int32} {t0_7 : Int32} {t0_8 : Int32} {t0_9 : Int32} {t0_10 : Int32} {t0_11 : Int32} {t0_12 : Int32} {t0_13 : Int32} {t0_14 : Int32} {t0_15 : Int32} {t0_16 : Int32} {t0_17 : Int32} {t0_18 : Int32} {t0_19 : Int32} {t0_20 : Int32} {t0_21 : Int32} {t1_0 : (Nat → Int32)} {t2_0 : (Nat → Int32)} {t3_0 : (Nat → Int64)} (hA2 : t0_2.toInt ≤ 9)  : Q_VR_ch (F_VR_chosen x2 t0_0 t0_1 t0_2 t0_3 t0_4 t0_5 t0_6 t0_7 t0_8 t0_9 t0_10 t0_11 t0_12 t0_13 t0_14 t0_15 t0_16 t0_17 t0_18 t0_19 t0_20 t0_21 t1_0 t2_0 t3_0) := by
  have e0 : (0 : Int32).toInt = 0 := rfl
  have e1 : (1 : Int32).toInt = 1 := rfl
  have eL0 : (0 : Int64).toInt = 0 := rfl
  have em : (-1 : Int32).toInt = -1 := rfl
  unfold F_VR_chosen
  by_cases g1 : ((F_VR_has (60 : Int32) t0_0 t0_1 t0_2 t0_3 t0_4 t0_5 t0_6 t0_7 t0_8 t0_9 t0_10 t0_11 t0_12 t0_13 t0_14 t0_15 t0_16 t0_17 t0_18 t0_19 t0_20 t0_21) : Int32) = (0 : Int32)
  ·
    rw [if_pos g1]
    by_cases g2 : t0_8 ≤ (0 : Int32)
    ·
      rw [if_pos g2]
      exact T_VR_ch58 hA2
    ·
      rw [if_neg g2]
      exact T_VR_ch58 hA2
  ·
    rw [if_neg g1]
    exact T_VR_ch58 hA2
def Q_VR_lk (c : Int32) (p : Int32 × Int32 × Int32 × Int32) : Prop := p.1.toInt ≤ 0 → ¬ vrS c = 37 → ¬ vrS c = 110 → 0 ≤ p.2.1.toInt ∧ p.2.1.toInt ≤ 8
theorem T_VR_lk100 {t0_0 : Int32} {t0_1 : Int32} {t0_2 : Int32} {t0_3 : Int32} {t0_4 : Int32} {t0_5 : Int32} {t0_6 : Int32} {t0_7 : Int32} {t0_8 : Int32} {t0_9 : Int32} {t0_10 : Int32} {t0_11 : Int32} {t0_12 : Int32} {t0_13 : Int32} {t0_14 : Int32} {t0_15 : Int32} {t0_16 : Int32} {t0_17 : Int32} {t0_18 : Int32} {t0_19 : Int32} {t0_20 : Int32} {t0_21 : Int32} {t1_0 : (Nat → Int32)} {t2_0 : (Nat → Int32)} {t3_0 : (Nat → Int64)} {a39 : Int32} (hA2 : t0_2.toInt ≤ 9) (ha : a39 = vrS t0_13) : Q_VR_lk t0_13 (F_VR_looked_J100 t0_0 t0_1 t0_2 t0_3 t0_4 t0_5 t0_6 t0_7 t0_8 t0_9 t0_10 t0_11 t0_12 t0_13 t0_14 t0_15 t0_16 t0_17 t0_18 t0_19 t0_20 t0_21 t1_0 t2_0 t3_0 a39) := by
  have e0 : (0 : Int32).toInt = 0 := rfl
  have e1 : (1 : Int32).toInt = 1 := rfl
  have eL0 : (0 : Int64).toInt = 0 := rfl
  have em : (-1 : Int32).toInt = -1 := rfl
  unfold F_VR_looked_J100
  by_cases g1 : (t0_9 &&& (((F_VR_allowed a39) : Int32) ^^^ (-1) : Int32) : Int32) = (0 : Int32)
  ·
    rw [if_pos g1]
    by_cases g2 : ((F_VR_has (45 : Int32) t0_0 t0_1 t0_2 t0_3 t0_4 t0_5 t0_6 t0_7 t0_8 t0_9 t0_10 t0_11 t0_12 t0_13 t0_14 t0_15 t0_16 t0_17 t0_18 t0_19 t0_20 t0_21) : Int32) = (0 : Int32)
    ·
      rw [if_pos g2]
      by_cases g3 : ((F_VR_has (48 : Int32) t0_0 t0_1 t0_2 t0_3 t0_4 t0_5 t0_6 t0_7 t0_8 t0_9 t0_10 t0_11 t0_12 t0_13 t0_14 t0_15 t0_16 t0_17 t0_18 t0_19 t0_20 t0_21) : Int32) = (0 : Int32)
      ·
        rw [if_pos g3]
        unfold F_VR_looked_J145
        rw [if_pos g2]
        unfold F_VR_looked_J163
        by_cases g4 : ((F_VR_has (43 : Int32) t0_0 t0_1 t0_2 t0_3 t0_4 t0_5 t0_6 t0_7 t0_8 t0_9 t0_10 t0_11 t0_12 t0_13 t0_14 t0_15 t0_16 t0_17 t0_18 t0_19 t0_20 t0_21) : Int32) = (0 : Int32)
        ·
          rw [if_pos g4]
          by_cases g5 : a39 = (37 : Int32)
          ·
            rw [if_pos g5]
            have y37 := g5
            (unfold Q_VR_lk; dsimp only; intro _ z1 z2; first | exact absurd (ha.symm.trans y37) z1 | exact absurd (vr_sm.symm.trans y110) z2)
          ·
            rw [if_neg g5]
            have h6 := T_VR_chosen (x2 := a39) (t0_0 := t0_0) (t0_1 := t0_1) (t0_2 := t0_2) (t0_3 := t0_3) (t0_4 := t0_4) (t0_5 := t0_5) (t0_6 := t0_6) (t0_7 := t0_7) (t0_8 := t0_8) (t0_9 := t0_9) (t0_10 := t0_10) (t0_11 := t0_11) (t0_12 := t0_12) (t0_13 := t0_13) (t0_14 := t0_14) (t0_15 := t0_15) (t0_16 := t0_16) (t0_17 := t0_17) (t0_18 := t0_18) (t0_19 := t0_19) (t0_20 := t0_20) (t0_21 := t0_21) (t1_0 := t1_0) (t2_0 := t2_0) (t3_0 := t3_0) hA2
            generalize F_VR_chosen a39 t0_0 t0_1 t0_2 t0_3 t0_4 t0_5 t0_6 t0_7 t0_8 t0_9 t0_10 t0_11 t0_12 t0_13 t0_14 t0_15 t0_16 t0_17 t0_18 t0_19 t0_20 t0_21 t1_0 t2_0 t3_0 = p134 at *
            have hp134 := h6
            unfold F_VR_looked_c196
            exact fun z _ _ => (hp134 : Q_VR_ch p134) z
        ·
          rw [if_neg g4]
          by_cases g7 : ((F_VR_has (32 : Int32) t0_0 t0_1 t0_2 t0_3 t0_4 t0_5 t0_6 t0_7 t0_8 t0_9 t0_10 t0_11 t0_12 t0_13 t0_14 t0_15 t0_16 t0_17 t0_18 t0_19 t0_20 t0_21) : Int32) = (0 : Int32)
          ·
            rw [if_pos g7]
            by_cases g8 : a39 = (37 : Int32)
            ·
              rw [if_pos g8]
              have y37 := g8
              (unfold Q_VR_lk; dsimp only; intro _ z1 z2; first | exact absurd (ha.symm.trans y37) z1 | exact absurd (vr_sm.symm.trans y110) z2)
            ·
              rw [if_neg g8]
              have h9 := T_VR_chosen (x2 := a39) (t0_0 := t0_0) (t0_1 := t0_1) (t0_2 := t0_2) (t0_3 := t0_3) (t0_4 := t0_4) (t0_5 := t0_5) (t0_6 := t0_6) (t0_7 := t0_7) (t0_8 := t0_8) (t0_9 := t0_9) (t0_10 := t0_10) (t0_11 := t0_11) (t0_12 := t0_12) (t0_13 := t0_13) (t0_14 := t0_14) (t0_15 := t0_15) (t0_16 := t0_16) (t0_17 := t0_17) (t0_18 := t0_18) (t0_19 := t0_19) (t0_20 := t0_20) (t0_21 := t0_21) (t1_0 := t1_0) (t2_0 := t2_0) (t3_0 := t3_0) hA2
              generalize F_VR_chosen a39 t0_0 t0_1 t0_2 t0_3 t0_4 t0_5 t0_6 t0_7 t0_8 t0_9 t0_10 t0_11 t0_12 t0_13 t0_14 t0_15 t0_16 t0_17 t0_18 t0_19 t0_20 t0_21 t1_0 t2_0 t3_0 = p170 at *
              have hp170 := h9
              unfold F_VR_looked_c196_5
              exact fun z _ _ => (hp170 : Q_VR_ch p170) z
          ·
            rw [if_neg g7]
            (unfold Q_VR_lk; dsimp only; intro z; exact absurd z (by decide))
      ·
        rw [if_neg g3]
        unfold F_VR_looked_J135
        by_cases g10 : (0 : Int32) ≤ t0_11
        ·
          rw [if_pos g10]
          unfold F_VR_looked_J145
          rw [if_pos g2]
          unfold F_VR_looked_J163
          by_cases g11 : ((F_VR_has (43 : Int32) t0_0 t0_1 t0_2 t0_3 t0_4 t0_5 t0_6 t0_7 t0_8 t0_9 t0_10 t0_11 t0_12 t0_13 t0_14 t0_15 t0_16 t0_17 t0_18 t0_19 t0_20 t0_21) : Int32) = (0 : Int32)
          ·
            rw [if_pos g11]
            by_cases g12 : a39 = (37 : Int32)
            ·
              rw [if_pos g12]
              have y37 := g12
              (unfold Q_VR_lk; dsimp only; intro _ z1 z2; first | exact absurd (ha.symm.trans y37) z1 | exact absurd (vr_sm.symm.trans y110) z2)
            ·
              rw [if_neg g12]
              have h13 := T_VR_chosen (x2 := a39) (t0_0 := t0_0) (t0_1 := t0_1) (t0_2 := t0_2) (t0_3 := t0_3) (t0_4 := t0_4) (t0_5 := t0_5) (t0_6 := t0_6) (t0_7 := t0_7) (t0_8 := t0_8) (t0_9 := t0_9) (t0_10 := t0_10) (t0_11 := t0_11) (t0_12 := t0_12) (t0_13 := t0_13) (t0_14 := t0_14) (t0_15 := t0_15) (t0_16 := t0_16) (t0_17 := t0_17) (t0_18 := t0_18) (t0_19 := t0_19) (t0_20 := t0_20) (t0_21 := t0_21) (t1_0 := t1_0) (t2_0 := t2_0) (t3_0 := t3_0) hA2
              generalize F_VR_chosen a39 t0_0 t0_1 t0_2 t0_3 t0_4 t0_5 t0_6 t0_7 t0_8 t0_9 t0_10 t0_11 t0_12 t0_13 t0_14 t0_15 t0_16 t0_17 t0_18 t0_19 t0_20 t0_21 t1_0 t2_0 t3_0 = p134 at *
              have hp134 := h13
              unfold F_VR_looked_c196
              exact fun z _ _ => (hp134 : Q_VR_ch p134) z
          ·
            rw [if_neg g11]
            by_cases g14 : ((F_VR_has (32 : Int32) t0_0 t0_1 t0_2 t0_3 t0_4 t0_5 t0_6 t0_7 t0_8 t0_9 t0_10 t0_11 t0_12 t0_13 t0_14 t0_15 t0_16 t0_17 t0_18 t0_19 t0_20 t0_21) : Int32) = (0 : Int32)
            ·
              rw [if_pos g14]
              by_cases g15 : a39 = (37 : Int32)
              ·
                rw [if_pos g15]
                have y37 := g15
                (unfold Q_VR_lk; dsimp only; intro _ z1 z2; first | exact absurd (ha.symm.trans y37) z1 | exact absurd (vr_sm.symm.trans y110) z2)
              ·
                rw [if_neg g15]
                have h16 := T_VR_chosen (x2 := a39) (t0_0 := t0_0) (t0_1 := t0_1) (t0_2 := t0_2) (t0_3 := t0_3) (t0_4 := t0_4) (t0_5 := t0_5) (t0_6 := t0_6) (t0_7 := t0_7) (t0_8 := t0_8) (t0_9 := t0_9) (t0_10 := t0_10) (t0_11 := t0_11) (t0_12 := t0_12) (t0_13 := t0_13) (t0_14 := t0_14) (t0_15 := t0_15) (t0_16 := t0_16) (t0_17 := t0_17) (t0_18 := t0_18) (t0_19 := t0_19) (t0_20 := t0_20) (t0_21 := t0_21) (t1_0 := t1_0) (t2_0 := t2_0) (t3_0 := t3_0) hA2
                generalize F_VR_chosen a39 t0_0 t0_1 t0_2 t0_3 t0_4 t0_5 t0_6 t0_7 t0_8 t0_9 t0_10 t0_11 t0_12 t0_13 t0_14 t0_15 t0_16 t0_17 t0_18 t0_19 t0_20 t0_21 t1_0 t2_0 t3_0 = p170 at *
                have hp170 := h16
                unfold F_VR_looked_c196_5
                exact fun z _ _ => (hp170 : Q_VR_ch p170) z
            ·
              rw [if_neg g14]
              (unfold Q_VR_lk; dsimp only; intro z; exact absurd z (by decide))
        ·
          rw [if_neg g10]
          (unfold Q_VR_lk; dsimp only; intro z; exact absurd z (by decide))
    ·
      rw [if_neg g2]
      unfold F_VR_looked_J135
      by_cases g17 : (0 : Int32) ≤ t0_11
      ·
        rw [if_pos g17]
        unfold F_VR_looked_J145
        rw [if_neg g2]
        by_cases g18 : ((F_VR_has (48 : Int32) t0_0 t0_1 t0_2 t0_3 t0_4 t0_5 t0_6 t0_7 t0_8 t0_9 t0_10 t0_11 t0_12 t0_13 t0_14 t0_15 t0_16 t0_17 t0_18 t0_19 t0_20 t0_21) : Int32) = (0 : Int32)
        ·
          rw [if_pos g18]
          unfold F_VR_looked_J163
          by_cases g19 : ((F_VR_has (43 : Int32) t0_0 t0_1 t0_2 t0_3 t0_4 t0_5 t0_6 t0_7 t0_8 t0_9 t0_10 t0_11 t0_12 t0_13 t0_14 t0_15 t0_16 t0_17 t0_18 t0_19 t0_20 t0_21) : Int32) = (0 : Int32)
          ·
            rw [if_pos g19]
            by_cases g20 : a39 = (37 : Int32)
            ·
              rw [if_pos g20]
              have y37 := g20
              (unfold Q_VR_lk; dsimp only; intro _ z1 z2; first | exact absurd (ha.symm.trans y37) z1 | exact absurd (vr_sm.symm.trans y110) z2)
            ·
              rw [if_neg g20]
              have h21 := T_VR_chosen (x2 := a39) (t0_0 := t0_0) (t0_1 := t0_1) (t0_2 := t0_2) (t0_3 := t0_3) (t0_4 := t0_4) (t0_5 := t0_5) (t0_6 := t0_6) (t0_7 := t0_7) (t0_8 := t0_8) (t0_9 := t0_9) (t0_10 := t0_10) (t0_11 := t0_11) (t0_12 := t0_12) (t0_13 := t0_13) (t0_14 := t0_14) (t0_15 := t0_15) (t0_16 := t0_16) (t0_17 := t0_17) (t0_18 := t0_18) (t0_19 := t0_19) (t0_20 := t0_20) (t0_21 := t0_21) (t1_0 := t1_0) (t2_0 := t2_0) (t3_0 := t3_0) hA2
              generalize F_VR_chosen a39 t0_0 t0_1 t0_2 t0_3 t0_4 t0_5 t0_6 t0_7 t0_8 t0_9 t0_10 t0_11 t0_12 t0_13 t0_14 t0_15 t0_16 t0_17 t0_18 t0_19 t0_20 t0_21 t1_0 t2_0 t3_0 = p134 at *
              have hp134 := h21
              unfold F_VR_looked_c196
              exact fun z _ _ => (hp134 : Q_VR_ch p134) z
          ·
            rw [if_neg g19]
            by_cases g22 : ((F_VR_has (32 : Int32) t0_0 t0_1 t0_2 t0_3 t0_4 t0_5 t0_6 t0_7 t0_8 t0_9 t0_10 t0_11 t0_12 t0_13 t0_14 t0_15 t0_16 t0_17 t0_18 t0_19 t0_20 t0_21) : Int32) = (0 : Int32)
            ·
              rw [if_pos g22]
              by_cases g23 : a39 = (37 : Int32)
              ·
                rw [if_pos g23]
                have y37 := g23
                (unfold Q_VR_lk; dsimp only; intro _ z1 z2; first | exact absurd (ha.symm.trans y37) z1 | exact absurd (vr_sm.symm.trans y110) z2)
              ·
                rw [if_neg g23]
                have h24 := T_VR_chosen (x2 := a39) (t0_0 := t0_0) (t0_1 := t0_1) (t0_2 := t0_2) (t0_3 := t0_3) (t0_4 := t0_4) (t0_5 := t0_5) (t0_6 := t0_6) (t0_7 := t0_7) (t0_8 := t0_8) (t0_9 := t0_9) (t0_10 := t0_10) (t0_11 := t0_11) (t0_12 := t0_12) (t0_13 := t0_13) (t0_14 := t0_14) (t0_15 := t0_15) (t0_16 := t0_16) (t0_17 := t0_17) (t0_18 := t0_18) (t0_19 := t0_19) (t0_20 := t0_20) (t0_21 := t0_21) (t1_0 := t1_0) (t2_0 := t2_0) (t3_0 := t3_0) hA2
                generalize F_VR_chosen a39 t0_0 t0_1 t0_2 t0_3 t0_4 t0_5 t0_6 t0_7 t0_8 t0_9 t0_10 t0_11 t0_12 t0_13 t0_14 t0_15 t0_16 t0_17 t0_18 t0_19 t0_20 t0_21 t1_0 t2_0 t3_0 = p170 at *
                have hp170 := h24
                unfold F_VR_looked_c196_5
                exact fun z _ _ => (hp170 : Q_VR_ch p170) z
            ·
              rw [if_neg g22]
              (unfold Q_VR_lk; dsimp only; intro z; exact absurd z (by decide))
        ·
          rw [if_neg g18]
          (unfold Q_VR_lk; dsimp only; intro z; exact absurd z (by decide))
      ·
        rw [if_neg g17]
        (unfold Q_VR_lk; dsimp only; intro z; exact absurd z (by decide))
  ·
    rw [if_neg g1]
    (unfold Q_VR_lk; dsimp only; intro z; exact absurd z (by decide))
theorem T_VR_looked {t0_0 : Int32} {t0_1 : Int32} {t0_2 : Int32} {t0_3 : Int32} {t0_4 : Int32} {t0_5 : Int32} {t0_6 : Int32} {t0_7 : Int32} {t0_8 : Int32} {t0_9 : Int32} {t0_10 : Int32} {t0_11 : Int32} {t0_12 : Int32} {t0_13 : Int32} {t0_14 : Int32} {t0_15 : Int32} {t0_16 : Int32} {t0_17 : Int32} {t0_18 : Int32} {t0_19 : Int32} {t0_20 : Int32} {t0_21 : Int32} {t1_0 : (Nat → Int32)} {t2_0 : (Nat → Int32)} {t3_0 : (Nat → Int64)} (hA2 : t0_2.toInt ≤ 9)  : Q_VR_lk t0_13 (F_VR_looked t0_0 t0_1 t0_2 t0_3 t0_4 t0_5 t0_6 t0_7 t0_8 t0_9 t0_10 t0_11 t0_12 t0_13 t0_14 t0_15 t0_16 t0_17 t0_18 t0_19 t0_20 t0_21 t1_0 t2_0 t3_0) := by
  have e0 : (0 : Int32).toInt = 0 := rfl
  have e1 : (1 : Int32).toInt = 1 := rfl
  have eL0 : (0 : Int64).toInt = 0 := rfl
  have em : (-1 : Int32).toInt = -1 := rfl
  unfold F_VR_looked
  by_cases g1 : t0_13 < (0 : Int32)
  ·
    rw [if_pos g1]
    (unfold Q_VR_lk; dsimp only; intro z; exact absurd z (by decide))
  ·
    rw [if_neg g1]
    by_cases g2 : ((F_VR_small t0_0 t0_1 t0_2 t0_3 t0_4 t0_5 t0_6 t0_7 t0_8 t0_9 t0_10 t0_11 t0_12 t0_13 t0_14 t0_15 t0_16 t0_17 t0_18 t0_19 t0_20 t0_21) : Int32) = (0 : Int32)
    ·
      rw [if_pos g2]
      (unfold Q_VR_lk; dsimp only; intro z; exact absurd z (by decide))
    ·
      rw [if_neg g2]
      by_cases g3 : t0_10 = (0 : Int32)
      ·
        rw [if_pos g3]
        by_cases g4 : ((F_VR_small t0_0 t0_1 t0_2 t0_3 t0_4 t0_5 t0_6 t0_7 t0_8 t0_9 t0_10 t0_11 t0_12 t0_13 t0_14 t0_15 t0_16 t0_17 t0_18 t0_19 t0_20 t0_21) : Int32) = (110 : Int32)
        ·
          rw [if_pos g4]
          have y110 := g4
          by_cases g5 : (0 : Int32) ≤ t0_11
          ·
            rw [if_pos g5]
            (unfold Q_VR_lk; dsimp only; intro z; exact absurd z (by decide))
          ·
            rw [if_neg g5]
            by_cases g6 : (0 : Int32) ≤ t0_12
            ·
              rw [if_pos g6]
              (unfold Q_VR_lk; dsimp only; intro z; exact absurd z (by decide))
            ·
              rw [if_neg g6]
              by_cases g7 : t0_9 = (0 : Int32)
              ·
                rw [if_pos g7]
                (unfold Q_VR_lk; dsimp only; intro _ z1 z2; first | exact absurd (ha.symm.trans y37) z1 | exact absurd (vr_sm.symm.trans y110) z2)
              ·
                rw [if_neg g7]
                (unfold Q_VR_lk; dsimp only; intro z; exact absurd z (by decide))
        ·
          rw [if_neg g4]
          by_cases g8 : t0_12 < (0 : Int32)
          ·
            rw [if_pos g8]
            exact T_VR_lk100 hA2 vr_sm
          ·
            rw [if_neg g8]
            by_cases g9 : ((F_VR_small t0_0 t0_1 t0_2 t0_3 t0_4 t0_5 t0_6 t0_7 t0_8 t0_9 t0_10 t0_11 t0_12 t0_13 t0_14 t0_15 t0_16 t0_17 t0_18 t0_19 t0_20 t0_21) : Int32) = (99 : Int32)
            ·
              rw [if_pos g9]
              (unfold Q_VR_lk; dsimp only; intro z; exact absurd z (by decide))
            ·
              rw [if_neg g9]
              by_cases g10 : ((F_VR_small t0_0 t0_1 t0_2 t0_3 t0_4 t0_5 t0_6 t0_7 t0_8 t0_9 t0_10 t0_11 t0_12 t0_13 t0_14 t0_15 t0_16 t0_17 t0_18 t0_19 t0_20 t0_21) : Int32) = (37 : Int32)
              ·
                rw [if_pos g10]
                (unfold Q_VR_lk; dsimp only; intro z; exact absurd z (by decide))
              ·
                rw [if_neg g10]
                by_cases g11 : ((F_VR_isNumeric ((F_VR_small t0_0 t0_1 t0_2 t0_3 t0_4 t0_5 t0_6 t0_7 t0_8 t0_9 t0_10 t0_11 t0_12 t0_13 t0_14 t0_15 t0_16 t0_17 t0_18 t0_19 t0_20 t0_21) : Int32) t0_0 t0_1 t0_2 t0_3 t0_4 t0_5 t0_6 t0_7 t0_8 t0_9 t0_10 t0_11 t0_12 t0_13 t0_14 t0_15 t0_16 t0_17 t0_18 t0_19 t0_20 t0_21) : Int32) = (0 : Int32)
                ·
                  rw [if_pos g11]
                  exact T_VR_lk100 hA2 vr_sm
                ·
                  rw [if_neg g11]
                  (unfold Q_VR_lk; dsimp only; intro z; exact absurd z (by decide))
      ·
        rw [if_neg g3]
        (unfold Q_VR_lk; dsimp only; intro z; exact absurd z (by decide))
