/-! values: Reader 2 -/
theorem v_ten12 : (100000000000 : Int64).toInt = 100000000000 := rfl
theorem v_tenL : (10 : Int64).toInt = 10 := rfl
/-- what an exponent leaves behind -/
abbrev RE (lo hi : Int) (ng : Int32) (p : Int32 × Int64 × Int64 × Int32 × Int32 × Int32 × Int32 × Int32 × Int32 × Int32 × Int64) : Prop := lo ≤ p.2.2.2.1.toInt ∧ p.2.2.2.1.toInt ≤ hi ∧ p.2.2.2.2.1.toInt = hi ∧ p.2.2.2.2.2.1 = ng ∧ -2000000000000 ≤ p.2.2.2.2.2.2.2.2.2.2.toInt ∧ p.2.2.2.2.2.2.2.2.2.2.toInt ≤ 2000000000000
theorem v_digT {t0_0 t0_1 t0_9 : Int64} {t0_2 t0_3 t0_4 t0_5 t0_6 t0_7 t0_8 t1_0 : Int32} {t2_0 : Nat → Int64} (h : ¬ 10 ≤ F_Rea_digitHere t0_0 t0_1 t0_2 t0_3 t0_4 t0_5 t0_6 t0_7 t0_8 t0_9 t1_0 t2_0) : (F_Rea_digitHere t0_0 t0_1 t0_2 t0_3 t0_4 t0_5 t0_6 t0_7 t0_8 t0_9 t1_0 t2_0).toInt < 10 := q_nleI h
theorem T_teL {x2 : Int32} {t0_0 : Int64} {t0_1 : Int64} {t0_2 : Int32} {t0_3 : Int32} {t0_4 : Int32} {t0_5 : Int32} {t0_6 : Int32} {t0_7 : Int32} {t0_8 : Int32} {t0_9 : Int64} {t1_0 : Int32} {t2_0 : (Nat → Int64)} {a19 : Int32} {lx31 : Int32} {lx51 : Int32} {lo : Int} (hs : lx31 = 1 ∨ lx31 = -1) (hlo : 0 ≤ lo) (hhi : t0_3.toInt ≤ 100000) : ∀ (n : Nat) (lx63 : Int64) (lx64 : Int32), t0_3.toInt - lx64.toInt < (n : Int) → lo ≤ lx64.toInt → lx64.toInt ≤ t0_3.toInt → 0 ≤ lx63.toInt → lx63.toInt ≤ 1000000000009 → (S_Rea_takeExponent_L61 x2 t0_0 t0_1 t0_2 t0_3 t0_4 t0_5 t0_6 t0_7 t0_8 t0_9 t1_0 t2_0 a19 lx31 lx51 n lx63 lx64) ∧ RE lo t0_3.toInt t0_4 (F_Rea_takeExponent_L61 x2 t0_0 t0_1 t0_2 t0_3 t0_4 t0_5 t0_6 t0_7 t0_8 t0_9 t1_0 t2_0 a19 lx31 lx51 n lx63 lx64) := by
  have e12 := v_ten12
  intro n
  induction n with
  | zero => intros; omega
  | succ n ih =>
    intro lx63 lx64 hn hl hh v0 v1
    rw [S_Rea_takeExponent_L61.eq_2, F_Rea_takeExponent_L61.eq_2]
    have J : ∀ K1 K2, S_Rea_takeExponent_J117 K1 x2 t0_0 t0_1 t0_2 t0_3 t0_4 t0_5 t0_6 t0_7 t0_8 t0_9 t1_0 t2_0 a19 lx31 lx51 lx63 lx64 ∧ RE lo t0_3.toInt t0_4 (F_Rea_takeExponent_J117 K2 x2 t0_0 t0_1 t0_2 t0_3 t0_4 t0_5 t0_6 t0_7 t0_8 t0_9 t1_0 t2_0 a19 lx31 lx51 lx63 lx64) := by
      intro K1 K2
      have hm : -2000000000000 ≤ (lx31.toInt64 * lx63 : Int64).toInt ∧ (lx31.toInt64 * lx63 : Int64).toInt ≤ 2000000000000 := by
        rcases hs with h | h
        · rw [h, q_mulL (x := 1) (y := lx63.toInt) rfl rfl (by omega) (by omega)]
          omega
        · rw [h, q_mulL (x := -1) (y := lx63.toInt) rfl rfl (by omega) (by omega)]
          omega
      unfold S_Rea_takeExponent_J117 F_Rea_takeExponent_J117
      split
      · exact ⟨trivial, hl, hh, rfl, rfl, hm⟩
      · split
        · exact ⟨trivial, hl, hh, rfl, rfl, hm⟩
        · exact ⟨trivial, hl, hh, rfl, rfl, hm⟩
    by_cases g : t0_3 ≤ lx64
    · rw [if_pos g, if_pos g]
      exact J _ _
    rw [if_neg g, if_neg g]
    have g' := q_nleI g
    have ej := v_sc (i := lx64) (by omega) (by omega)
    refine v_owe v_dig ?_
    by_cases g2 : 10 ≤ F_Rea_digitHere t0_0 t0_1 lx64 t0_3 t0_4 t0_5 t0_6 t0_7 t0_8 t0_9 t1_0 t2_0
    · rw [if_pos g2, if_pos g2]
      exact J _ _
    rw [if_neg g2, if_neg g2]
    by_cases g3 : 0 ≤ lg_cmp lx63 100000000000
    · rw [if_pos g3, if_pos g3]
      exact ih _ _ (by omega) (by omega) (by omega) v0 v1
    rw [if_neg g3, if_neg g3]
    have g3' := q_k8 g3
    refine v_owe v_dig ?_
    have d0 := v_digB (t0_0 := t0_0) (t0_1 := t0_1) (t0_2 := lx64) (t0_3 := t0_3) (t0_4 := t0_4) (t0_5 := t0_5) (t0_6 := t0_6) (t0_7 := t0_7) (t0_8 := t0_8) (t0_9 := t0_9) (t1_0 := t1_0) (t2_0 := t2_0)
    have d1 := v_digT g2
    generalize F_Rea_digitHere t0_0 t0_1 lx64 t0_3 t0_4 t0_5 t0_6 t0_7 t0_8 t0_9 t1_0 t2_0 = dg at d0 d1 ⊢
    have q1 : (lx63 * 10 : Int64).toInt = lx63.toInt * 10 := q_mulL rfl v_tenL (by omega) (by omega)
    have q2 : (lx63 * 10 + dg.toInt64 : Int64).toInt = lx63.toInt * 10 + dg.toInt := q_addL q1 (q_i2l rfl) (by omega) (by omega)
    exact ih _ _ (by omega) (by omega) (by omega) (by rw [q2]; omega) (by rw [q2]; omega)
theorem v_herelt {t0_0 t0_1 t0_9 : Int64} {t0_2 t0_3 t0_4 t0_5 t0_6 t0_7 t0_8 t1_0 c : Int32} {t2_0 : Nat → Int64} (h : F_Rea_here t0_0 t0_1 t0_2 t0_3 t0_4 t0_5 t0_6 t0_7 t0_8 t0_9 t1_0 t2_0 = c) (hc : 0 ≤ c.toInt) : t0_2.toInt < t0_3.toInt := by
  apply Int.not_le.mp
  intro h2
  unfold F_Rea_here at h
  rw [if_pos (Int32.le_iff_toInt_le.mpr h2)] at h
  rw [← h] at hc
  exact absurd hc (by decide)
theorem v_herelt2 {t0_0 t0_1 t0_9 : Int64} {t0_2 t0_3 t0_4 t0_5 t0_6 t0_7 t0_8 t1_0 c : Int32} {t2_0 : Nat → Int64} (h : (F_Rea_here t0_0 t0_1 t0_2 t0_3 t0_4 t0_5 t0_6 t0_7 t0_8 t0_9 t1_0 t2_0 ||| 32) = c) (hc : 0 ≤ c.toInt) : t0_2.toInt < t0_3.toInt := by
  apply Int.not_le.mp
  intro h2
  unfold F_Rea_here at h
  rw [if_pos (Int32.le_iff_toInt_le.mpr h2)] at h
  rw [← h] at hc
  exact absurd hc (by decide)
theorem T_takeExponent {x2 : Int32} {t0_0 : Int64} {t0_1 : Int64} {t0_2 : Int32} {t0_3 : Int32} {t0_4 : Int32} {t0_5 : Int32} {t0_6 : Int32} {t0_7 : Int32} {t0_8 : Int32} {t0_9 : Int64} {t1_0 : Int32} {t2_0 : (Nat → Int64)} (h0 : 0 ≤ t0_2.toInt) (h1 : t0_2.toInt < t0_3.toInt) (h2 : t0_3.toInt ≤ 100000) : (S_Rea_takeExponent x2 t0_0 t0_1 t0_2 t0_3 t0_4 t0_5 t0_6 t0_7 t0_8 t0_9 t1_0 t2_0) ∧ RE t0_2.toInt t0_3.toInt t0_4 (F_Rea_takeExponent x2 t0_0 t0_1 t0_2 t0_3 t0_4 t0_5 t0_6 t0_7 t0_8 t0_9 t1_0 t2_0) := by
  have ej := v_sc (i := t0_2) (by omega) (by omega)
  have J53 : ∀ (lx31 lx51 : Int32), (lx31 = 1 ∨ lx31 = -1) → t0_2.toInt ≤ lx51.toInt → lx51.toInt ≤ t0_3.toInt → S_Rea_takeExponent_J53 x2 t0_0 t0_1 t0_2 t0_3 t0_4 t0_5 t0_6 t0_7 t0_8 t0_9 t1_0 t2_0 (t0_2 + 1) lx31 lx51 ∧ RE t0_2.toInt t0_3.toInt t0_4 (F_Rea_takeExponent_J53 x2 t0_0 t0_1 t0_2 t0_3 t0_4 t0_5 t0_6 t0_7 t0_8 t0_9 t1_0 t2_0 (t0_2 + 1) lx31 lx51) := by
    intro lx31 lx51 hs k1 k2
    unfold S_Rea_takeExponent_J53 F_Rea_takeExponent_J53
    exact T_teL hs h0 h2 _ _ _ (by omega) k1 k2 (by decide) (by decide)
  have J24 : ∀ lx31 : Int32, (lx31 = 1 ∨ lx31 = -1) → S_Rea_takeExponent_J24 x2 t0_0 t0_1 t0_2 t0_3 t0_4 t0_5 t0_6 t0_7 t0_8 t0_9 t1_0 t2_0 (t0_2 + 1) lx31 ∧ RE t0_2.toInt t0_3.toInt t0_4 (F_Rea_takeExponent_J24 x2 t0_0 t0_1 t0_2 t0_3 t0_4 t0_5 t0_6 t0_7 t0_8 t0_9 t1_0 t2_0 (t0_2 + 1) lx31) := by
    intro lx31 hs
    unfold S_Rea_takeExponent_J24 F_Rea_takeExponent_J24
    refine v_owe v_here ?_
    by_cases g : F_Rea_here t0_0 t0_1 (t0_2 + 1) t0_3 t0_4 t0_5 t0_6 t0_7 t0_8 t0_9 t1_0 t2_0 = 45
    · rw [if_pos g, if_pos g]
      have := v_herelt g (by decide)
      have e2 := v_sc (i := t0_2 + 1) (by omega) (by omega)
      unfold S_Rea_takeExponent_J43 F_Rea_takeExponent_J43
      exact J53 _ _ hs (by omega) (by omega)
    rw [if_neg g, if_neg g]
    refine v_owe v_here ?_
    by_cases g2 : F_Rea_here t0_0 t0_1 (t0_2 + 1) t0_3 t0_4 t0_5 t0_6 t0_7 t0_8 t0_9 t1_0 t2_0 = 43
    · rw [if_pos g2, if_pos g2]
      have := v_herelt g2 (by decide)
      have e2 := v_sc (i := t0_2 + 1) (by omega) (by omega)
      unfold S_Rea_takeExponent_J43 F_Rea_takeExponent_J43
      exact J53 _ _ hs (by omega) (by omega)
    rw [if_neg g2, if_neg g2]
    exact J53 _ _ hs (by omega) (by omega)
  unfold S_Rea_takeExponent F_Rea_takeExponent
  refine v_owe v_here ?_
  split
  · exact J24 _ (Or.inr rfl)
  · exact J24 _ (Or.inl rfl)
/-- place and end of ten fields -/
abbrev RT (lo hi : Int) (d : Int32) (p : Int64 × Int64 × Int32 × Int32 × Int32 × Int32 × Int32 × Int32 × Int32 × Int64) : Prop := lo ≤ p.2.2.1.toInt ∧ p.2.2.1.toInt ≤ p.2.2.2.1.toInt ∧ p.2.2.2.1.toInt ≤ hi ∧ p.2.2.2.2.2.2.2.2.1 = d
theorem T_takeSign {t0_0 : Int64} {t0_1 : Int64} {t0_2 : Int32} {t0_3 : Int32} {t0_4 : Int32} {t0_5 : Int32} {t0_6 : Int32} {t0_7 : Int32} {t0_8 : Int32} {t0_9 : Int64} {t1_0 : Int32} {t2_0 : (Nat → Int64)} (h0 : 0 ≤ t0_2.toInt) (h1 : t0_2.toInt ≤ t0_3.toInt) (h2 : t0_3.toInt ≤ 100000) : (S_Rea_takeSign t0_0 t0_1 t0_2 t0_3 t0_4 t0_5 t0_6 t0_7 t0_8 t0_9 t1_0 t2_0) ∧ RT t0_2.toInt t0_3.toInt t0_8 (F_Rea_takeSign t0_0 t0_1 t0_2 t0_3 t0_4 t0_5 t0_6 t0_7 t0_8 t0_9 t1_0 t2_0) ∧ ((F_Rea_takeSign t0_0 t0_1 t0_2 t0_3 t0_4 t0_5 t0_6 t0_7 t0_8 t0_9 t1_0 t2_0).2.2.2.2.1 = 0 ∨ (F_Rea_takeSign t0_0 t0_1 t0_2 t0_3 t0_4 t0_5 t0_6 t0_7 t0_8 t0_9 t1_0 t2_0).2.2.2.2.1 = 1) := by
  have ej := v_sc (i := t0_2) (by omega) (by omega)
  have J : ∀ a lx27 : Int32, (F_Rea_here t0_0 t0_1 t0_2 t0_3 t0_4 t0_5 t0_6 t0_7 t0_8 t0_9 t1_0 t2_0 = a) → (lx27 = 0 ∨ lx27 = 1) → S_Rea_takeSign_J17 t0_0 t0_1 t0_2 t0_3 t0_4 t0_5 t0_6 t0_7 t0_8 t0_9 t1_0 t2_0 a lx27 ∧ RT t0_2.toInt t0_3.toInt t0_8 (F_Rea_takeSign_J17 t0_0 t0_1 t0_2 t0_3 t0_4 t0_5 t0_6 t0_7 t0_8 t0_9 t1_0 t2_0 a lx27) ∧ ((F_Rea_takeSign_J17 t0_0 t0_1 t0_2 t0_3 t0_4 t0_5 t0_6 t0_7 t0_8 t0_9 t1_0 t2_0 a lx27).2.2.2.2.1 = 0 ∨ (F_Rea_takeSign_J17 t0_0 t0_1 t0_2 t0_3 t0_4 t0_5 t0_6 t0_7 t0_8 t0_9 t1_0 t2_0 a lx27).2.2.2.2.1 = 1) := by
    intro a lx27 ha hb
    unfold S_Rea_takeSign_J17 F_Rea_takeSign_J17
    by_cases g : a = 45
    · rw [if_pos g, if_pos g]
      have := v_herelt (ha.trans g) (by decide)
      exact ⟨trivial, ⟨by show _ ≤ (t0_2 + 1 : Int32).toInt; omega, by show (t0_2 + 1 : Int32).toInt ≤ t0_3.toInt; omega, Int.le_refl _, rfl⟩, hb⟩
    rw [if_neg g, if_neg g]
    by_cases g2 : a = 43
    · rw [if_pos g2, if_pos g2]
      have := v_herelt (ha.trans g2) (by decide)
      exact ⟨trivial, ⟨by show _ ≤ (t0_2 + 1 : Int32).toInt; omega, by show (t0_2 + 1 : Int32).toInt ≤ t0_3.toInt; omega, Int.le_refl _, rfl⟩, hb⟩
    rw [if_neg g2, if_neg g2]
    exact ⟨trivial, ⟨Int.le_refl _, h1, Int.le_refl _, rfl⟩, hb⟩
  unfold S_Rea_takeSign F_Rea_takeSign
  refine v_owe v_here ?_
  split
  · exact J _ _ rfl (Or.inr rfl)
  · exact J _ _ rfl (Or.inl rfl)
theorem T_tb2 {K1 : Int32 → Prop} {K2 : Int32 → Int64 × Int64 × Int32 × Int32 × Int32 × Int32 × Int32 × Int32 × Int32 × Int64} {t0_0 t0_1 t0_9 : Int64} {t0_2 t0_3 t0_4 t0_5 t0_6 t0_7 t0_8 t1_0 lx19 : Int32} {t2_0 : Nat → Int64} {lo : Int} (h0 : 0 ≤ lx19.toInt) (hlo : lo ≤ lx19.toInt) (h2 : t0_3.toInt ≤ 100000) : ∀ (n : Nat) (lx40 : Int32), lx40.toInt - lx19.toInt < (n : Int) → lx19.toInt ≤ lx40.toInt → lx40.toInt ≤ t0_3.toInt → S_Rea_trimBlanks_L41 K1 t0_0 t0_1 t0_2 t0_3 t0_4 t0_5 t0_6 t0_7 t0_8 t0_9 t1_0 t2_0 lx19 n lx40 ∧ RT lo t0_3.toInt t0_8 (F_Rea_trimBlanks_L41 K2 t0_0 t0_1 t0_2 t0_3 t0_4 t0_5 t0_6 t0_7 t0_8 t0_9 t1_0 t2_0 lx19 n lx40) := by
  intro n
  induction n with
  | zero => intros; omega
  | succ n ih =>
    intro lx40 hn hl hh
    rw [S_Rea_trimBlanks_L41.eq_2, F_Rea_trimBlanks_L41.eq_2]
    by_cases g : lx40 ≤ lx19
    · rw [if_pos g, if_pos g]
      exact ⟨trivial, hlo, hl, hh, rfl⟩
    rw [if_neg g, if_neg g]
    have g' := q_nleI g
    have ej : (lx40 - 1 : Int32).toInt = lx40.toInt - 1 := q_subI rfl v_e1 (by omega) (by omega)
    refine v_owe v_at ?_
    split
    · exact ⟨trivial, hlo, hl, hh, rfl⟩
    · exact ih _ (by omega) (by omega) (by omega)
theorem T_tb1 {t0_0 : Int64} {t0_1 : Int64} {t0_2 : Int32} {t0_3 : Int32} {t0_4 : Int32} {t0_5 : Int32} {t0_6 : Int32} {t0_7 : Int32} {t0_8 : Int32} {t0_9 : Int64} {t1_0 : Int32} {t2_0 : (Nat → Int64)} {lo : Int} (hlo : 0 ≤ lo) (h2 : t0_3.toInt ≤ 100000) : ∀ (n : Nat) (lx19 : Int32), t0_3.toInt - lx19.toInt < (n : Int) → lo ≤ lx19.toInt → lx19.toInt ≤ t0_3.toInt → (S_Rea_trimBlanks_L0 t0_0 t0_1 t0_2 t0_3 t0_4 t0_5 t0_6 t0_7 t0_8 t0_9 t1_0 t2_0 n lx19) ∧ RT lo t0_3.toInt t0_8 (F_Rea_trimBlanks_L0 t0_0 t0_1 t0_2 t0_3 t0_4 t0_5 t0_6 t0_7 t0_8 t0_9 t1_0 t2_0 n lx19) := by
  intro n
  induction n with
  | zero => intros; omega
  | succ n ih =>
    intro lx19 hn hl hh
    rw [S_Rea_trimBlanks_L0.eq_2, F_Rea_trimBlanks_L0.eq_2]
    have J : ∀ K1 K2, S_Rea_trimBlanks_J41 K1 t0_0 t0_1 t0_2 t0_3 t0_4 t0_5 t0_6 t0_7 t0_8 t0_9 t1_0 t2_0 lx19 ∧ RT lo t0_3.toInt t0_8 (F_Rea_trimBlanks_J41 K2 t0_0 t0_1 t0_2 t0_3 t0_4 t0_5 t0_6 t0_7 t0_8 t0_9 t1_0 t2_0 lx19) := by
      intro K1 K2
      unfold S_Rea_trimBlanks_J41 F_Rea_trimBlanks_J41
      exact T_tb2 (by omega) hl h2 _ _ (by omega) hh (Int.le_refl _)
    by_cases g : t0_3 ≤ lx19
    · rw [if_pos g, if_pos g]
      exact J _ _
    rw [if_neg g, if_neg g]
    have g' := q_nleI g
    have ej := v_sc (i := lx19) (by omega) (by omega)
    refine v_owe v_at ?_
    split
    · exact J _ _
    · exact ih _ (by omega) (by omega) (by omega)
theorem T_trimBlanks {t0_0 : Int64} {t0_1 : Int64} {t0_2 : Int32} {t0_3 : Int32} {t0_4 : Int32} {t0_5 : Int32} {t0_6 : Int32} {t0_7 : Int32} {t0_8 : Int32} {t0_9 : Int64} {t1_0 : Int32} {t2_0 : (Nat → Int64)} (h0 : 0 ≤ t0_2.toInt) (h1 : t0_2.toInt ≤ t0_3.toInt) (h2 : t0_3.toInt ≤ 100000) : (S_Rea_trimBlanks t0_0 t0_1 t0_2 t0_3 t0_4 t0_5 t0_6 t0_7 t0_8 t0_9 t1_0 t2_0) ∧ RT t0_2.toInt t0_3.toInt t0_8 (F_Rea_trimBlanks t0_0 t0_1 t0_2 t0_3 t0_4 t0_5 t0_6 t0_7 t0_8 t0_9 t1_0 t2_0) := by
  unfold S_Rea_trimBlanks F_Rea_trimBlanks
  exact T_tb1 h0 h2 _ _ (by omega) (Int.le_refl _) h1
theorem S_says20L {t0_0 t0_1 t0_9 : Int64} {t0_2 t0_3 t0_4 t0_5 t0_6 t0_7 t0_8 t1_0 : Int32} {t2_0 : Nat → Int64} : ∀ (n : Nat) (j : Int32), 0 ≤ j.toInt → 3 - j.toInt < (n : Int) → j.toInt ≤ 3 → S_Rea_saysRest_20_L20 t0_0 t0_1 t0_2 t0_3 t0_4 t0_5 t0_6 t0_7 t0_8 t0_9 t1_0 t2_0 n j := by
  have ec : (3 : Int32).toInt = 3 := rfl
  intro n
  induction n with
  | zero => intros; omega
  | succ n ih =>
    intro j h0 h1 h2
    rw [S_Rea_saysRest_20_L20.eq_2]
    split
    · trivial
    · rename_i g
      have g' := q_nleI g
      have ej := v_sc (i := j) (by omega) (by omega)
      refine ⟨⟨trivial, v_at⟩, ?_⟩
      split
      · exact ih _ (by omega) (by omega) (by omega)
      · trivial
theorem S_says20 {t0_0 t0_1 t0_9 : Int64} {t0_2 t0_3 t0_4 t0_5 t0_6 t0_7 t0_8 t1_0 : Int32} {t2_0 : Nat → Int64} : S_Rea_saysRest_20 t0_0 t0_1 t0_2 t0_3 t0_4 t0_5 t0_6 t0_7 t0_8 t0_9 t1_0 t2_0 := by
  unfold S_Rea_saysRest_20
  split
  · exact S_says20L _ _ (by decide) (by decide) (by decide)
  · trivial
theorem S_says21L {t0_0 t0_1 t0_9 : Int64} {t0_2 t0_3 t0_4 t0_5 t0_6 t0_7 t0_8 t1_0 : Int32} {t2_0 : Nat → Int64} : ∀ (n : Nat) (j : Int32), 0 ≤ j.toInt → 8 - j.toInt < (n : Int) → j.toInt ≤ 8 → S_Rea_saysRest_21_L20 t0_0 t0_1 t0_2 t0_3 t0_4 t0_5 t0_6 t0_7 t0_8 t0_9 t1_0 t2_0 n j := by
  have ec : (8 : Int32).toInt = 8 := rfl
  intro n
  induction n with
  | zero => intros; omega
  | succ n ih =>
    intro j h0 h1 h2
    rw [S_Rea_saysRest_21_L20.eq_2]
    split
    · trivial
    · rename_i g
      have g' := q_nleI g
      have ej := v_sc (i := j) (by omega) (by omega)
      refine ⟨⟨trivial, v_at⟩, ?_⟩
      split
      · exact ih _ (by omega) (by omega) (by omega)
      · trivial
theorem S_says21 {t0_0 t0_1 t0_9 : Int64} {t0_2 t0_3 t0_4 t0_5 t0_6 t0_7 t0_8 t1_0 : Int32} {t2_0 : Nat → Int64} : S_Rea_saysRest_21 t0_0 t0_1 t0_2 t0_3 t0_4 t0_5 t0_6 t0_7 t0_8 t0_9 t1_0 t2_0 := by
  unfold S_Rea_saysRest_21
  split
  · exact S_says21L _ _ (by decide) (by decide) (by decide)
  · trivial
/-- a mark before the figures -/
theorem T_takeHexMark {t0_0 : Int64} {t0_1 : Int64} {t0_2 : Int32} {t0_3 : Int32} {t0_4 : Int32} {t0_5 : Int32} {t0_6 : Int32} {t0_7 : Int32} {t0_8 : Int32} {t0_9 : Int64} {t1_0 : Int32} {t2_0 : (Nat → Int64)} (h0 : 0 ≤ t0_2.toInt) (h1 : t0_2.toInt ≤ t0_3.toInt) (h2 : t0_3.toInt ≤ 100000) : (S_Rea_takeHexadecimalMark t0_0 t0_1 t0_2 t0_3 t0_4 t0_5 t0_6 t0_7 t0_8 t0_9 t1_0 t2_0) ∧ t0_2.toInt ≤ (F_Rea_takeHexadecimalMark t0_0 t0_1 t0_2 t0_3 t0_4 t0_5 t0_6 t0_7 t0_8 t0_9 t1_0 t2_0).2.2.2.1.toInt ∧ (F_Rea_takeHexadecimalMark t0_0 t0_1 t0_2 t0_3 t0_4 t0_5 t0_6 t0_7 t0_8 t0_9 t1_0 t2_0).2.2.2.1.toInt ≤ t0_3.toInt ∧ (F_Rea_takeHexadecimalMark t0_0 t0_1 t0_2 t0_3 t0_4 t0_5 t0_6 t0_7 t0_8 t0_9 t1_0 t2_0).2.2.2.2.1.toInt = t0_3.toInt ∧ (F_Rea_takeHexadecimalMark t0_0 t0_1 t0_2 t0_3 t0_4 t0_5 t0_6 t0_7 t0_8 t0_9 t1_0 t2_0).2.2.2.2.2.1 = t0_4 := by
  have e2 : (2 : Int32).toInt = 2 := rfl
  have J56 : S_Rea_takeHexadecimalMark_J56 t0_0 t0_1 t0_2 t0_3 t0_4 t0_5 t0_6 t0_7 t0_8 t0_9 t1_0 t2_0 ∧ t0_2.toInt ≤ (F_Rea_takeHexadecimalMark_J56 t0_0 t0_1 t0_2 t0_3 t0_4 t0_5 t0_6 t0_7 t0_8 t0_9 t1_0 t2_0).2.2.2.1.toInt ∧ (F_Rea_takeHexadecimalMark_J56 t0_0 t0_1 t0_2 t0_3 t0_4 t0_5 t0_6 t0_7 t0_8 t0_9 t1_0 t2_0).2.2.2.1.toInt ≤ t0_3.toInt ∧ (F_Rea_takeHexadecimalMark_J56 t0_0 t0_1 t0_2 t0_3 t0_4 t0_5 t0_6 t0_7 t0_8 t0_9 t1_0 t2_0).2.2.2.2.1.toInt = t0_3.toInt ∧ (F_Rea_takeHexadecimalMark_J56 t0_0 t0_1 t0_2 t0_3 t0_4 t0_5 t0_6 t0_7 t0_8 t0_9 t1_0 t2_0).2.2.2.2.2.1 = t0_4 := by
    unfold S_Rea_takeHexadecimalMark_J56 F_Rea_takeHexadecimalMark_J56 S_Rea_takeHexadecimalMark_J57 F_Rea_takeHexadecimalMark_J57
    rw [if_pos rfl, if_pos rfl, Int32.add_zero]
    exact ⟨trivial, Int.le_refl _, h1, rfl, rfl⟩
  unfold S_Rea_takeHexadecimalMark F_Rea_takeHexadecimalMark
  by_cases g : (t0_3 - t0_2 : Int32) < 2
  · rw [if_pos g, if_pos g]
    exact J56
  rw [if_neg g, if_neg g]
  have g' := q_nltI g
  rw [q_subI rfl rfl (by omega) (by omega)] at g'
  refine v_owe v_at ?_
  by_cases g2 : F_She_at 4100 513 4100 t0_2.toInt64 t1_0 t2_0 = 48
  · rw [if_pos g2, if_pos g2]
    refine v_owe v_at ?_
    by_cases g3 : (F_She_at 4100 513 4100 (t0_2 + 1 : Int32).toInt64 t1_0 t2_0 ||| 32) = 120
    · rw [if_pos g3, if_pos g3]
      unfold S_Rea_takeHexadecimalMark_J57 F_Rea_takeHexadecimalMark_J57
      rw [if_neg (by decide), if_neg (by decide)]
      have q : (t0_2 + 2 : Int32).toInt = t0_2.toInt + 2 := q_addI rfl e2 (by omega) (by omega)
      exact ⟨trivial, by show _ ≤ (t0_2 + 2 : Int32).toInt; omega, by show (t0_2 + 2 : Int32).toInt ≤ _; omega, rfl, rfl⟩
    · rw [if_neg g3, if_neg g3]
      exact J56
  · rw [if_neg g2, if_neg g2]
    exact J56
theorem T_takeEnding {t0_0 : Int64} {t0_1 : Int64} {t0_2 : Int32} {t0_3 : Int32} {t0_4 : Int32} {t0_5 : Int32} {t0_6 : Int32} {t0_7 : Int32} {t0_8 : Int32} {t0_9 : Int64} {t1_0 : Int32} {t2_0 : (Nat → Int64)} (hE : -2000000000000 ≤ t0_9.toInt ∧ t0_9.toInt ≤ 2000000000000) : (S_Rea_takeEnding t0_0 t0_1 t0_2 t0_3 t0_4 t0_5 t0_6 t0_7 t0_8 t0_9 t1_0 t2_0) ∧ (F_Rea_takeEnding t0_0 t0_1 t0_2 t0_3 t0_4 t0_5 t0_6 t0_7 t0_8 t0_9 t1_0 t2_0).2.2.2.2.2.2.2.2.2.2 = t0_9 ∧ (F_Rea_takeEnding t0_0 t0_1 t0_2 t0_3 t0_4 t0_5 t0_6 t0_7 t0_8 t0_9 t1_0 t2_0).2.2.2.2.2.1 = t0_4 := by
  have J : S_Rea_takeEnding_J20 t0_0 t0_1 t0_2 t0_3 t0_4 t0_5 t0_6 t0_7 t0_8 t0_9 t1_0 t2_0 ∧ (F_Rea_takeEnding_J20 t0_0 t0_1 t0_2 t0_3 t0_4 t0_5 t0_6 t0_7 t0_8 t0_9 t1_0 t2_0).2.2.2.2.2.2.2.2.2.2 = t0_9 ∧ (F_Rea_takeEnding_J20 t0_0 t0_1 t0_2 t0_3 t0_4 t0_5 t0_6 t0_7 t0_8 t0_9 t1_0 t2_0).2.2.2.2.2.1 = t0_4 := by
    unfold S_Rea_takeEnding_J20 F_Rea_takeEnding_J20
    split <;> exact ⟨trivial, rfl, rfl⟩
  unfold S_Rea_takeEnding F_Rea_takeEnding
  refine v_owe v_here ?_
  split
  · exact J
  · split
    · exact J
    · split <;> exact ⟨trivial, rfl, rfl⟩
