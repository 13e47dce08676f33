/-! values, for whole: what the reference's decimal, decimalBy, shape ask of their arguments -/
theorem y_mtop_decimal {x2 : Int32} {x3 : Int32} {x4 : Int32} {x5 : Int32} {t0_0 : Int32} {t0_1 : Int32} {t0_2 : Int32} {t1_0 : Int32} {t1_1 : Int32} {t1_2 : Int32} {t1_3 : Int64} {t1_4 : Int32} {t1_5 : Int32} {t1_6 : Int32} {t1_7 : Int32} {t1_8 : Int32} {t1_9 : Int32} {t1_10 : Int32} {t2_0 : (Nat → Int32)} {t3_0 : (Nat → Int32)} {t4_0 : (Nat → Int32)} {t5_0 : (Nat → Int32)} {t6_0 : (Nat → Int32)} {t7_0 : (Nat → Int32)} {t8_0 : (Nat → Int32)} {t9_0 : (Nat → Int32)}  : (((0 ≤ x2.toInt ∧ x2.toInt ≤ 3) ∧ yReg x3 ∧ yReg x4 ∧ yReg x5) ∧ (F_NM_decimal x2 x3 x4 x5 t0_0 t0_1 t0_2 t1_0 t1_1 t1_2 t1_3 t1_4 t1_5 t1_6 t1_7 t1_8 t1_9 t1_10 t2_0 t3_0 t4_0 t5_0 t6_0 t7_0 t8_0 t9_0) = F_NM_decimal_J37 x2 x3 x4 x5 t0_0 t0_1 t0_2 t1_0 t1_1 t1_2 t1_3 t1_4 t1_5 t1_6 t1_7 t1_8 t1_9 t1_10 t2_0 t3_0 t4_0 t5_0 t6_0 t7_0 t8_0 t9_0 0) ∨ (¬ ((0 ≤ x2.toInt ∧ x2.toInt ≤ 3) ∧ yReg x3 ∧ yReg x4 ∧ yReg x5) ∧ (F_NM_decimal x2 x3 x4 x5 t0_0 t0_1 t0_2 t1_0 t1_1 t1_2 t1_3 t1_4 t1_5 t1_6 t1_7 t1_8 t1_9 t1_10 t2_0 t3_0 t4_0 t5_0 t6_0 t7_0 t8_0 t9_0) = F_NM_decimal_J37 x2 x3 x4 x5 t0_0 t0_1 t0_2 t1_0 t1_1 t1_2 t1_3 t1_4 t1_5 t1_6 t1_7 t1_8 t1_9 t1_10 t2_0 t3_0 t4_0 t5_0 t6_0 t7_0 t8_0 t9_0 1) := by
  have e0 : (0 : Int32).toInt = 0 := rfl
  have e3 : (3 : Int32).toInt = 3 := rfl
  unfold F_NM_decimal
  by_cases c1 : x2 < 0
  · rw [if_pos c1]
    have c1 := q_ltI c1
    exact Or.inr ⟨fun h => by have := h.1; omega, rfl⟩
  · rw [if_neg c1]
    have c1 := q_nltI c1
    by_cases c2 : (3 : Int32) < x2
    · rw [if_pos c2]
      have c2 := q_ltI c2
      exact Or.inr ⟨fun h => by have := h.1; omega, rfl⟩
    · rw [if_neg c2]
      have c2 := q_nltI c2
      rcases y_noZ (x := x3) with ⟨r, d⟩ | ⟨r, d⟩
      · rw [if_pos r]
        rcases y_noZ (x := x4) with ⟨r, f⟩ | ⟨r, f⟩
        · rw [if_pos r]
          rcases y_noZ (x := x5) with ⟨r, g⟩ | ⟨r, g⟩
          · rw [if_pos r]
            exact Or.inl ⟨⟨⟨by omega, by omega⟩, d, f, g⟩, rfl⟩
          · rw [if_neg (show ¬ F_NM_no_IZ x5 = 0 by rw [r]; decide)]
            exact Or.inr ⟨fun h => g h.2.2.2, rfl⟩
        · rw [if_neg (show ¬ F_NM_no_IZ x4 = 0 by rw [r]; decide)]
          exact Or.inr ⟨fun h => f h.2.2.1, rfl⟩
      · rw [if_neg (show ¬ F_NM_no_IZ x3 = 0 by rw [r]; decide)]
        exact Or.inr ⟨fun h => d h.2.1, rfl⟩
theorem y_mno_decimal {x2 : Int32} {x3 : Int32} {x4 : Int32} {x5 : Int32} {t0_0 : Int32} {t0_1 : Int32} {t0_2 : Int32} {t1_0 : Int32} {t1_1 : Int32} {t1_2 : Int32} {t1_3 : Int64} {t1_4 : Int32} {t1_5 : Int32} {t1_6 : Int32} {t1_7 : Int32} {t1_8 : Int32} {t1_9 : Int32} {t1_10 : Int32} {t2_0 : (Nat → Int32)} {t3_0 : (Nat → Int32)} {t4_0 : (Nat → Int32)} {t5_0 : (Nat → Int32)} {t6_0 : (Nat → Int32)} {t7_0 : (Nat → Int32)} {t8_0 : (Nat → Int32)} {t9_0 : (Nat → Int32)} {lx47 : Int32} (hl : lx47 = 1) : (F_NM_decimal_J37 x2 x3 x4 x5 t0_0 t0_1 t0_2 t1_0 t1_1 t1_2 t1_3 t1_4 t1_5 t1_6 t1_7 t1_8 t1_9 t1_10 t2_0 t3_0 t4_0 t5_0 t6_0 t7_0 t8_0 t9_0 lx47).1 = 1 ∧ (F_NM_decimal_J37 x2 x3 x4 x5 t0_0 t0_1 t0_2 t1_0 t1_1 t1_2 t1_3 t1_4 t1_5 t1_6 t1_7 t1_8 t1_9 t1_10 t2_0 t3_0 t4_0 t5_0 t6_0 t7_0 t8_0 t9_0 lx47).2.2.2.2.2.2.2.2.2.2.2.2.1 = t2_0 ∧ (F_NM_decimal_J37 x2 x3 x4 x5 t0_0 t0_1 t0_2 t1_0 t1_1 t1_2 t1_3 t1_4 t1_5 t1_6 t1_7 t1_8 t1_9 t1_10 t2_0 t3_0 t4_0 t5_0 t6_0 t7_0 t8_0 t9_0 lx47).2.2.2.2.2.2.2.2.2.2.2.2.2.1 = t3_0 ∧ (F_NM_decimal_J37 x2 x3 x4 x5 t0_0 t0_1 t0_2 t1_0 t1_1 t1_2 t1_3 t1_4 t1_5 t1_6 t1_7 t1_8 t1_9 t1_10 t2_0 t3_0 t4_0 t5_0 t6_0 t7_0 t8_0 t9_0 lx47).2.2.2.2.2.2.2.2.2.2.2.2.2.2.1 = t4_0 ∧ (F_NM_decimal_J37 x2 x3 x4 x5 t0_0 t0_1 t0_2 t1_0 t1_1 t1_2 t1_3 t1_4 t1_5 t1_6 t1_7 t1_8 t1_9 t1_10 t2_0 t3_0 t4_0 t5_0 t6_0 t7_0 t8_0 t9_0 lx47).2.2.2.2.2.2.2.2.2.2.2.2.2.2.2.1 = t5_0 := by
  unfold F_NM_decimal_J37
  rw [if_neg (show ¬ lx47 ≤ 0 by rw [hl]; decide)]
  exact ⟨hl, rfl, rfl, rfl, rfl⟩
theorem y_mtop_decimalBy {x2 : Int32} {x3 : Int32} {x4 : Int32} {x5 : Int32} {t0_0 : Int32} {t0_1 : Int32} {t0_2 : Int32} {t1_0 : Int32} {t1_1 : Int32} {t1_2 : Int32} {t1_3 : Int64} {t1_4 : Int32} {t1_5 : Int32} {t1_6 : Int32} {t1_7 : Int32} {t1_8 : Int32} {t1_9 : Int32} {t1_10 : Int32} {t2_0 : (Nat → Int32)} {t3_0 : (Nat → Int32)} {t4_0 : (Nat → Int32)} {t5_0 : (Nat → Int32)} {t6_0 : (Nat → Int32)} {t7_0 : (Nat → Int32)}  : (((0 ≤ x2.toInt ∧ x2.toInt ≤ 2) ∧ yReg x3 ∧ yReg x5) ∧ (F_NM_decimalBy x2 x3 x4 x5 t0_0 t0_1 t0_2 t1_0 t1_1 t1_2 t1_3 t1_4 t1_5 t1_6 t1_7 t1_8 t1_9 t1_10 t2_0 t3_0 t4_0 t5_0 t6_0 t7_0) = F_NM_decimalBy_J30 x2 x3 x4 x5 t0_0 t0_1 t0_2 t1_0 t1_1 t1_2 t1_3 t1_4 t1_5 t1_6 t1_7 t1_8 t1_9 t1_10 t2_0 t3_0 t4_0 t5_0 t6_0 t7_0 0) ∨ (¬ ((0 ≤ x2.toInt ∧ x2.toInt ≤ 2) ∧ yReg x3 ∧ yReg x5) ∧ (F_NM_decimalBy x2 x3 x4 x5 t0_0 t0_1 t0_2 t1_0 t1_1 t1_2 t1_3 t1_4 t1_5 t1_6 t1_7 t1_8 t1_9 t1_10 t2_0 t3_0 t4_0 t5_0 t6_0 t7_0) = F_NM_decimalBy_J30 x2 x3 x4 x5 t0_0 t0_1 t0_2 t1_0 t1_1 t1_2 t1_3 t1_4 t1_5 t1_6 t1_7 t1_8 t1_9 t1_10 t2_0 t3_0 t4_0 t5_0 t6_0 t7_0 1) := by
  have e0 : (0 : Int32).toInt = 0 := rfl
  have e3 : (2 : Int32).toInt = 2 := rfl
  unfold F_NM_decimalBy
  by_cases c1 : x2 < 0
  · rw [if_pos c1]
    have c1 := q_ltI c1
    exact Or.inr ⟨fun h => by have := h.1; omega, rfl⟩
  · rw [if_neg c1]
    have c1 := q_nltI c1
    by_cases c2 : (2 : Int32) < x2
    · rw [if_pos c2]
      have c2 := q_ltI c2
      exact Or.inr ⟨fun h => by have := h.1; omega, rfl⟩
    · rw [if_neg c2]
      have c2 := q_nltI c2
      rcases y_noZ (x := x3) with ⟨r, d⟩ | ⟨r, d⟩
      · rw [if_pos r]
        rcases y_noZ (x := x5) with ⟨r, g⟩ | ⟨r, g⟩
        · rw [if_pos r]
          exact Or.inl ⟨⟨⟨by omega, by omega⟩, d, g⟩, rfl⟩
        · rw [if_neg (show ¬ F_NM_no_IZ x5 = 0 by rw [r]; decide)]
          exact Or.inr ⟨fun h => g h.2.2, rfl⟩
      · rw [if_neg (show ¬ F_NM_no_IZ x3 = 0 by rw [r]; decide)]
        exact Or.inr ⟨fun h => d h.2.1, rfl⟩
theorem y_mno_decimalBy {x2 : Int32} {x3 : Int32} {x4 : Int32} {x5 : Int32} {t0_0 : Int32} {t0_1 : Int32} {t0_2 : Int32} {t1_0 : Int32} {t1_1 : Int32} {t1_2 : Int32} {t1_3 : Int64} {t1_4 : Int32} {t1_5 : Int32} {t1_6 : Int32} {t1_7 : Int32} {t1_8 : Int32} {t1_9 : Int32} {t1_10 : Int32} {t2_0 : (Nat → Int32)} {t3_0 : (Nat → Int32)} {t4_0 : (Nat → Int32)} {t5_0 : (Nat → Int32)} {t6_0 : (Nat → Int32)} {t7_0 : (Nat → Int32)} {lx41 : Int32} (hl : lx41 = 1) : (F_NM_decimalBy_J30 x2 x3 x4 x5 t0_0 t0_1 t0_2 t1_0 t1_1 t1_2 t1_3 t1_4 t1_5 t1_6 t1_7 t1_8 t1_9 t1_10 t2_0 t3_0 t4_0 t5_0 t6_0 t7_0 lx41).1 = 1 ∧ (F_NM_decimalBy_J30 x2 x3 x4 x5 t0_0 t0_1 t0_2 t1_0 t1_1 t1_2 t1_3 t1_4 t1_5 t1_6 t1_7 t1_8 t1_9 t1_10 t2_0 t3_0 t4_0 t5_0 t6_0 t7_0 lx41).2.2.2.2.2.2.2.2.2.2.2.2.1 = t2_0 ∧ (F_NM_decimalBy_J30 x2 x3 x4 x5 t0_0 t0_1 t0_2 t1_0 t1_1 t1_2 t1_3 t1_4 t1_5 t1_6 t1_7 t1_8 t1_9 t1_10 t2_0 t3_0 t4_0 t5_0 t6_0 t7_0 lx41).2.2.2.2.2.2.2.2.2.2.2.2.2.1 = t3_0 ∧ (F_NM_decimalBy_J30 x2 x3 x4 x5 t0_0 t0_1 t0_2 t1_0 t1_1 t1_2 t1_3 t1_4 t1_5 t1_6 t1_7 t1_8 t1_9 t1_10 t2_0 t3_0 t4_0 t5_0 t6_0 t7_0 lx41).2.2.2.2.2.2.2.2.2.2.2.2.2.2.1 = t4_0 ∧ (F_NM_decimalBy_J30 x2 x3 x4 x5 t0_0 t0_1 t0_2 t1_0 t1_1 t1_2 t1_3 t1_4 t1_5 t1_6 t1_7 t1_8 t1_9 t1_10 t2_0 t3_0 t4_0 t5_0 t6_0 t7_0 lx41).2.2.2.2.2.2.2.2.2.2.2.2.2.2.2.1 = t5_0 := by
  unfold F_NM_decimalBy_J30
  rw [if_neg (show ¬ lx41 ≤ 0 by rw [hl]; decide)]
  exact ⟨hl, rfl, rfl, rfl, rfl⟩
