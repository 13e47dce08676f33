/-! values, for whole: what decimal, divide, quotient, decimalBy, shape ask of their arguments (class) -/
def yReg (x : Int32) : Prop := 0 ≤ x.toInt ∧ x.toInt ≤ 9
theorem y_isR {x : Int32} : (F_NH_isRegister x = 0 ∧ ¬ yReg x) ∨ (F_NH_isRegister x = 1 ∧ yReg x) := by
  have e0 : (0 : Int32).toInt = 0 := rfl
  have e10 : (10 : Int32).toInt = 10 := rfl
  unfold F_NH_isRegister yReg
  by_cases c1 : x < 0
  · rw [if_pos c1]
    have := q_ltI c1
    exact Or.inl ⟨rfl, by omega⟩
  · rw [if_neg c1]
    have := q_nltI c1
    by_cases c2 : (10 : Int32) ≤ x
    · rw [if_pos c2]
      have := q_leI c2
      exact Or.inl ⟨rfl, by omega⟩
    · rw [if_neg c2]
      have := q_nleI c2
      exact Or.inr ⟨rfl, by omega⟩
theorem y_top_decimal {x2 : Int32} {x3 : Int32} {x4 : Int32} {x5 : Int32} {t0_0 : Int64} {t0_1 : Int32} {t1_0 : Int32} {t1_1 : Int32} {t2_0 : (Nat → Int32)} {t3_0 : Int32} {t3_1 : Int32} {t4_0 : (Nat → Int32)} {t5_0 : Int32} {t5_1 : Int32} {t6_0 : (Nat → Int32)} {t7_0 : Int32} {t7_1 : Int32} {t8_0 : (Nat → Int32)} {t9_0 : Int32} {t9_1 : Int32} {t10_0 : (Nat → Int32)} {t11_0 : Int32} {t11_1 : Int32} {t12_0 : Int32} {t12_1 : Int32} {t13_0 : (Nat → Int32)} {t14_0 : Int32} {t14_1 : Int32} {t15_0 : Int32} {t15_1 : Int32} {t16_0 : (Nat → Int32)} {t17_0 : Int32} {t17_1 : Int32} {t18_0 : Int32} {t18_1 : Int32} {t19_0 : (Nat → Int32)}  : (((0 ≤ x2.toInt ∧ x2.toInt ≤ 3) ∧ yReg x3 ∧ yReg x4 ∧ yReg x5) ∧ (F_NH_decimal x2 x3 x4 x5 t0_0 t0_1 t1_0 t1_1 t2_0 t3_0 t3_1 t4_0 t5_0 t5_1 t6_0 t7_0 t7_1 t8_0 t9_0 t9_1 t10_0 t11_0 t11_1 t12_0 t12_1 t13_0 t14_0 t14_1 t15_0 t15_1 t16_0 t17_0 t17_1 t18_0 t18_1 t19_0) = F_NH_decimal_J36 x2 x3 x4 x5 t0_0 t0_1 t1_0 t1_1 t2_0 t3_0 t3_1 t4_0 t5_0 t5_1 t6_0 t7_0 t7_1 t8_0 t9_0 t9_1 t10_0 t11_0 t11_1 t12_0 t12_1 t13_0 t14_0 t14_1 t15_0 t15_1 t16_0 t17_0 t17_1 t18_0 t18_1 t19_0 1) ∨ (¬ ((0 ≤ x2.toInt ∧ x2.toInt ≤ 3) ∧ yReg x3 ∧ yReg x4 ∧ yReg x5) ∧ (F_NH_decimal x2 x3 x4 x5 t0_0 t0_1 t1_0 t1_1 t2_0 t3_0 t3_1 t4_0 t5_0 t5_1 t6_0 t7_0 t7_1 t8_0 t9_0 t9_1 t10_0 t11_0 t11_1 t12_0 t12_1 t13_0 t14_0 t14_1 t15_0 t15_1 t16_0 t17_0 t17_1 t18_0 t18_1 t19_0) = F_NH_decimal_J36 x2 x3 x4 x5 t0_0 t0_1 t1_0 t1_1 t2_0 t3_0 t3_1 t4_0 t5_0 t5_1 t6_0 t7_0 t7_1 t8_0 t9_0 t9_1 t10_0 t11_0 t11_1 t12_0 t12_1 t13_0 t14_0 t14_1 t15_0 t15_1 t16_0 t17_0 t17_1 t18_0 t18_1 t19_0 0) := by
  have e0 : (0 : Int32).toInt = 0 := rfl
  have eh : (3 : Int32).toInt = 3 := rfl
  unfold F_NH_decimal
  by_cases c1 : x2 < 0
  · rw [if_pos c1]
    have c1 := q_ltI c1
    exact Or.inr ⟨fun h => by have := h.1; omega, rfl⟩
  · rw [if_neg c1]
    have c1 := q_nltI c1
    by_cases c2 : (3 : Int32) < x2
    · rw [if_pos c2]
      have c2 := q_ltI c2
      exact Or.inr ⟨fun h => by have := h.1; omega, rfl⟩
    · rw [if_neg c2]
      have c2 := q_nltI c2
      rcases y_isR (x := x3) with ⟨r, d3⟩ | ⟨r, d3⟩
      · rw [if_pos r]
        exact Or.inr ⟨fun h => d3 h.2.1, rfl⟩
      · rw [if_neg (show ¬ F_NH_isRegister x3 = 0 by rw [r]; decide)]
        rcases y_isR (x := x4) with ⟨r, d4⟩ | ⟨r, d4⟩
        · rw [if_pos r]
          exact Or.inr ⟨fun h => d4 h.2.2.1, rfl⟩
        · rw [if_neg (show ¬ F_NH_isRegister x4 = 0 by rw [r]; decide)]
          rcases y_isR (x := x5) with ⟨r, d5⟩ | ⟨r, d5⟩
          · rw [if_pos r]
            exact Or.inr ⟨fun h => d5 h.2.2.2, rfl⟩
          · rw [if_neg (show ¬ F_NH_isRegister x5 = 0 by rw [r]; decide)]
            exact Or.inl ⟨⟨⟨by omega, by omega⟩, d3, d4, d5⟩, rfl⟩
theorem y_top_decimal_ab {x2 : Int32} {x3 : Int32} {x4 : Int32} {x5 : Int32} {t0_0 : Int64} {t0_1 : Int32} {t1_0 : Int32} {t1_1 : Int32} {t2_0 : (Nat → Int32)} {t3_0 : Int32} {t3_1 : Int32} {t4_0 : (Nat → Int32)} {t5_0 : Int32} {t5_1 : Int32} {t6_0 : (Nat → Int32)} {t7_0 : Int32} {t7_1 : Int32} {t8_0 : (Nat → Int32)} {t9_0 : Int32} {t9_1 : Int32} {t10_0 : (Nat → Int32)} {t11_0 : Int32} {t11_1 : Int32} {t12_0 : Int32} {t12_1 : Int32} {t13_0 : (Nat → Int32)} {t14_0 : Int32} {t14_1 : Int32} {t15_0 : Int32} {t15_1 : Int32} {t16_0 : (Nat → Int32)}  : (((0 ≤ x2.toInt ∧ x2.toInt ≤ 3) ∧ yReg x3 ∧ yReg x4 ∧ yReg x5) ∧ (F_NH_decimal_ab x2 x3 x4 x5 t0_0 t0_1 t1_0 t1_1 t2_0 t3_0 t3_1 t4_0 t5_0 t5_1 t6_0 t7_0 t7_1 t8_0 t9_0 t9_1 t10_0 t11_0 t11_1 t12_0 t12_1 t13_0 t14_0 t14_1 t15_0 t15_1 t16_0) = F_NH_decimal_ab_J36 x2 x3 x4 x5 t0_0 t0_1 t1_0 t1_1 t2_0 t3_0 t3_1 t4_0 t5_0 t5_1 t6_0 t7_0 t7_1 t8_0 t9_0 t9_1 t10_0 t11_0 t11_1 t12_0 t12_1 t13_0 t14_0 t14_1 t15_0 t15_1 t16_0 1) ∨ (¬ ((0 ≤ x2.toInt ∧ x2.toInt ≤ 3) ∧ yReg x3 ∧ yReg x4 ∧ yReg x5) ∧ (F_NH_decimal_ab x2 x3 x4 x5 t0_0 t0_1 t1_0 t1_1 t2_0 t3_0 t3_1 t4_0 t5_0 t5_1 t6_0 t7_0 t7_1 t8_0 t9_0 t9_1 t10_0 t11_0 t11_1 t12_0 t12_1 t13_0 t14_0 t14_1 t15_0 t15_1 t16_0) = F_NH_decimal_ab_J36 x2 x3 x4 x5 t0_0 t0_1 t1_0 t1_1 t2_0 t3_0 t3_1 t4_0 t5_0 t5_1 t6_0 t7_0 t7_1 t8_0 t9_0 t9_1 t10_0 t11_0 t11_1 t12_0 t12_1 t13_0 t14_0 t14_1 t15_0 t15_1 t16_0 0) := by
  have e0 : (0 : Int32).toInt = 0 := rfl
  have eh : (3 : Int32).toInt = 3 := rfl
  unfold F_NH_decimal_ab
  by_cases c1 : x2 < 0
  · rw [if_pos c1]
    have c1 := q_ltI c1
    exact Or.inr ⟨fun h => by have := h.1; omega, rfl⟩
  · rw [if_neg c1]
    have c1 := q_nltI c1
    by_cases c2 : (3 : Int32) < x2
    · rw [if_pos c2]
      have c2 := q_ltI c2
      exact Or.inr ⟨fun h => by have := h.1; omega, rfl⟩
    · rw [if_neg c2]
      have c2 := q_nltI c2
      rcases y_isR (x := x3) with ⟨r, d3⟩ | ⟨r, d3⟩
      · rw [if_pos r]
        exact Or.inr ⟨fun h => d3 h.2.1, rfl⟩
      · rw [if_neg (show ¬ F_NH_isRegister x3 = 0 by rw [r]; decide)]
        rcases y_isR (x := x4) with ⟨r, d4⟩ | ⟨r, d4⟩
        · rw [if_pos r]
          exact Or.inr ⟨fun h => d4 h.2.2.1, rfl⟩
        · rw [if_neg (show ¬ F_NH_isRegister x4 = 0 by rw [r]; decide)]
          rcases y_isR (x := x5) with ⟨r, d5⟩ | ⟨r, d5⟩
          · rw [if_pos r]
            exact Or.inr ⟨fun h => d5 h.2.2.2, rfl⟩
          · rw [if_neg (show ¬ F_NH_isRegister x5 = 0 by rw [r]; decide)]
            exact Or.inl ⟨⟨⟨by omega, by omega⟩, d3, d4, d5⟩, rfl⟩
theorem y_top_decimal_bt {x2 : Int32} {x3 : Int32} {x4 : Int32} {x5 : Int32} {t0_0 : Int64} {t0_1 : Int32} {t1_0 : Int32} {t1_1 : Int32} {t2_0 : (Nat → Int32)} {t3_0 : Int32} {t3_1 : Int32} {t4_0 : (Nat → Int32)} {t5_0 : Int32} {t5_1 : Int32} {t6_0 : (Nat → Int32)} {t7_0 : Int32} {t7_1 : Int32} {t8_0 : (Nat → Int32)} {t9_0 : Int32} {t9_1 : Int32} {t10_0 : (Nat → Int32)} {t11_0 : Int32} {t11_1 : Int32} {t12_0 : Int32} {t12_1 : Int32} {t13_0 : (Nat → Int32)} {t14_0 : Int32} {t14_1 : Int32} {t15_0 : Int32} {t15_1 : Int32} {t16_0 : (Nat → Int32)}  : (((0 ≤ x2.toInt ∧ x2.toInt ≤ 3) ∧ yReg x3 ∧ yReg x4 ∧ yReg x5) ∧ (F_NH_decimal_bt x2 x3 x4 x5 t0_0 t0_1 t1_0 t1_1 t2_0 t3_0 t3_1 t4_0 t5_0 t5_1 t6_0 t7_0 t7_1 t8_0 t9_0 t9_1 t10_0 t11_0 t11_1 t12_0 t12_1 t13_0 t14_0 t14_1 t15_0 t15_1 t16_0) = F_NH_decimal_bt_J36 x2 x3 x4 x5 t0_0 t0_1 t1_0 t1_1 t2_0 t3_0 t3_1 t4_0 t5_0 t5_1 t6_0 t7_0 t7_1 t8_0 t9_0 t9_1 t10_0 t11_0 t11_1 t12_0 t12_1 t13_0 t14_0 t14_1 t15_0 t15_1 t16_0 1) ∨ (¬ ((0 ≤ x2.toInt ∧ x2.toInt ≤ 3) ∧ yReg x3 ∧ yReg x4 ∧ yReg x5) ∧ (F_NH_decimal_bt x2 x3 x4 x5 t0_0 t0_1 t1_0 t1_1 t2_0 t3_0 t3_1 t4_0 t5_0 t5_1 t6_0 t7_0 t7_1 t8_0 t9_0 t9_1 t10_0 t11_0 t11_1 t12_0 t12_1 t13_0 t14_0 t14_1 t15_0 t15_1 t16_0) = F_NH_decimal_bt_J36 x2 x3 x4 x5 t0_0 t0_1 t1_0 t1_1 t2_0 t3_0 t3_1 t4_0 t5_0 t5_1 t6_0 t7_0 t7_1 t8_0 t9_0 t9_1 t10_0 t11_0 t11_1 t12_0 t12_1 t13_0 t14_0 t14_1 t15_0 t15_1 t16_0 0) := by
  have e0 : (0 : Int32).toInt = 0 := rfl
  have eh : (3 : Int32).toInt = 3 := rfl
  unfold F_NH_decimal_bt
  by_cases c1 : x2 < 0
  · rw [if_pos c1]
    have c1 := q_ltI c1
    exact Or.inr ⟨fun h => by have := h.1; omega, rfl⟩
  · rw [if_neg c1]
    have c1 := q_nltI c1
    by_cases c2 : (3 : Int32) < x2
    · rw [if_pos c2]
      have c2 := q_ltI c2
      exact Or.inr ⟨fun h => by have := h.1; omega, rfl⟩
    · rw [if_neg c2]
      have c2 := q_nltI c2
      rcases y_isR (x := x3) with ⟨r, d3⟩ | ⟨r, d3⟩
      · rw [if_pos r]
        exact Or.inr ⟨fun h => d3 h.2.1, rfl⟩
      · rw [if_neg (show ¬ F_NH_isRegister x3 = 0 by rw [r]; decide)]
        rcases y_isR (x := x4) with ⟨r, d4⟩ | ⟨r, d4⟩
        · rw [if_pos r]
          exact Or.inr ⟨fun h => d4 h.2.2.1, rfl⟩
        · rw [if_neg (show ¬ F_NH_isRegister x4 = 0 by rw [r]; decide)]
          rcases y_isR (x := x5) with ⟨r, d5⟩ | ⟨r, d5⟩
          · rw [if_pos r]
            exact Or.inr ⟨fun h => d5 h.2.2.2, rfl⟩
          · rw [if_neg (show ¬ F_NH_isRegister x5 = 0 by rw [r]; decide)]
            exact Or.inl ⟨⟨⟨by omega, by omega⟩, d3, d4, d5⟩, rfl⟩
theorem y_top_decimal_abt {x2 : Int32} {x3 : Int32} {x4 : Int32} {x5 : Int32} {t0_0 : Int64} {t0_1 : Int32} {t1_0 : Int32} {t1_1 : Int32} {t2_0 : (Nat → Int32)} {t3_0 : Int32} {t3_1 : Int32} {t4_0 : (Nat → Int32)} {t5_0 : Int32} {t5_1 : Int32} {t6_0 : (Nat → Int32)} {t7_0 : Int32} {t7_1 : Int32} {t8_0 : (Nat → Int32)} {t9_0 : Int32} {t9_1 : Int32} {t10_0 : (Nat → Int32)} {t11_0 : Int32} {t11_1 : Int32} {t12_0 : Int32} {t12_1 : Int32} {t13_0 : (Nat → Int32)}  : (((0 ≤ x2.toInt ∧ x2.toInt ≤ 3) ∧ yReg x3 ∧ yReg x4 ∧ yReg x5) ∧ (F_NH_decimal_abt x2 x3 x4 x5 t0_0 t0_1 t1_0 t1_1 t2_0 t3_0 t3_1 t4_0 t5_0 t5_1 t6_0 t7_0 t7_1 t8_0 t9_0 t9_1 t10_0 t11_0 t11_1 t12_0 t12_1 t13_0) = F_NH_decimal_abt_J36 x2 x3 x4 x5 t0_0 t0_1 t1_0 t1_1 t2_0 t3_0 t3_1 t4_0 t5_0 t5_1 t6_0 t7_0 t7_1 t8_0 t9_0 t9_1 t10_0 t11_0 t11_1 t12_0 t12_1 t13_0 1) ∨ (¬ ((0 ≤ x2.toInt ∧ x2.toInt ≤ 3) ∧ yReg x3 ∧ yReg x4 ∧ yReg x5) ∧ (F_NH_decimal_abt x2 x3 x4 x5 t0_0 t0_1 t1_0 t1_1 t2_0 t3_0 t3_1 t4_0 t5_0 t5_1 t6_0 t7_0 t7_1 t8_0 t9_0 t9_1 t10_0 t11_0 t11_1 t12_0 t12_1 t13_0) = F_NH_decimal_abt_J36 x2 x3 x4 x5 t0_0 t0_1 t1_0 t1_1 t2_0 t3_0 t3_1 t4_0 t5_0 t5_1 t6_0 t7_0 t7_1 t8_0 t9_0 t9_1 t10_0 t11_0 t11_1 t12_0 t12_1 t13_0 0) := by
  have e0 : (0 : Int32).toInt = 0 := rfl
  have eh : (3 : Int32).toInt = 3 := rfl
  unfold F_NH_decimal_abt
  by_cases c1 : x2 < 0
  · rw [if_pos c1]
    have c1 := q_ltI c1
    exact Or.inr ⟨fun h => by have := h.1; omega, rfl⟩
  · rw [if_neg c1]
    have c1 := q_nltI c1
    by_cases c2 : (3 : Int32) < x2
    · rw [if_pos c2]
      have c2 := q_ltI c2
      exact Or.inr ⟨fun h => by have := h.1; omega, rfl⟩
    · rw [if_neg c2]
      have c2 := q_nltI c2
      rcases y_isR (x := x3) with ⟨r, d3⟩ | ⟨r, d3⟩
      · rw [if_pos r]
        exact Or.inr ⟨fun h => d3 h.2.1, rfl⟩
      · rw [if_neg (show ¬ F_NH_isRegister x3 = 0 by rw [r]; decide)]
        rcases y_isR (x := x4) with ⟨r, d4⟩ | ⟨r, d4⟩
        · rw [if_pos r]
          exact Or.inr ⟨fun h => d4 h.2.2.1, rfl⟩
        · rw [if_neg (show ¬ F_NH_isRegister x4 = 0 by rw [r]; decide)]
          rcases y_isR (x := x5) with ⟨r, d5⟩ | ⟨r, d5⟩
          · rw [if_pos r]
            exact Or.inr ⟨fun h => d5 h.2.2.2, rfl⟩
          · rw [if_neg (show ¬ F_NH_isRegister x5 = 0 by rw [r]; decide)]
            exact Or.inl ⟨⟨⟨by omega, by omega⟩, d3, d4, d5⟩, rfl⟩
theorem y_top_decimalBy {x2 : Int32} {x3 : Int32} {x4 : Int32} {x5 : Int32} {t0_0 : Int64} {t0_1 : Int32} {t1_0 : Int32} {t1_1 : Int32} {t2_0 : (Nat → Int32)} {t3_0 : Int32} {t3_1 : Int32} {t4_0 : (Nat → Int32)} {t5_0 : Int32} {t5_1 : Int32} {t6_0 : (Nat → Int32)} {t7_0 : Int32} {t7_1 : Int32} {t8_0 : (Nat → Int32)} {t9_0 : Int32} {t9_1 : Int32} {t10_0 : Int32} {t10_1 : Int32} {t11_0 : (Nat → Int32)} {t12_0 : Int32} {t12_1 : Int32} {t13_0 : Int32} {t13_1 : Int32} {t14_0 : (Nat → Int32)}  : (((0 ≤ x2.toInt ∧ x2.toInt ≤ 2) ∧ yReg x3 ∧ yReg x5) ∧ (F_NH_decimalBy x2 x3 x4 x5 t0_0 t0_1 t1_0 t1_1 t2_0 t3_0 t3_1 t4_0 t5_0 t5_1 t6_0 t7_0 t7_1 t8_0 t9_0 t9_1 t10_0 t10_1 t11_0 t12_0 t12_1 t13_0 t13_1 t14_0) = F_NH_decimalBy_J29 x2 x3 x4 x5 t0_0 t0_1 t1_0 t1_1 t2_0 t3_0 t3_1 t4_0 t5_0 t5_1 t6_0 t7_0 t7_1 t8_0 t9_0 t9_1 t10_0 t10_1 t11_0 t12_0 t12_1 t13_0 t13_1 t14_0 1) ∨ (¬ ((0 ≤ x2.toInt ∧ x2.toInt ≤ 2) ∧ yReg x3 ∧ yReg x5) ∧ (F_NH_decimalBy x2 x3 x4 x5 t0_0 t0_1 t1_0 t1_1 t2_0 t3_0 t3_1 t4_0 t5_0 t5_1 t6_0 t7_0 t7_1 t8_0 t9_0 t9_1 t10_0 t10_1 t11_0 t12_0 t12_1 t13_0 t13_1 t14_0) = F_NH_decimalBy_J29 x2 x3 x4 x5 t0_0 t0_1 t1_0 t1_1 t2_0 t3_0 t3_1 t4_0 t5_0 t5_1 t6_0 t7_0 t7_1 t8_0 t9_0 t9_1 t10_0 t10_1 t11_0 t12_0 t12_1 t13_0 t13_1 t14_0 0) := by
  have e0 : (0 : Int32).toInt = 0 := rfl
  have eh : (2 : Int32).toInt = 2 := rfl
  unfold F_NH_decimalBy
  by_cases c1 : x2 < 0
  · rw [if_pos c1]
    have c1 := q_ltI c1
    exact Or.inr ⟨fun h => by have := h.1; omega, rfl⟩
  · rw [if_neg c1]
    have c1 := q_nltI c1
    by_cases c2 : (2 : Int32) < x2
    · rw [if_pos c2]
      have c2 := q_ltI c2
      exact Or.inr ⟨fun h => by have := h.1; omega, rfl⟩
    · rw [if_neg c2]
      have c2 := q_nltI c2
      rcases y_isR (x := x3) with ⟨r, d3⟩ | ⟨r, d3⟩
      · rw [if_pos r]
        exact Or.inr ⟨fun h => d3 h.2.1, rfl⟩
      · rw [if_neg (show ¬ F_NH_isRegister x3 = 0 by rw [r]; decide)]
        rcases y_isR (x := x5) with ⟨r, d4⟩ | ⟨r, d4⟩
        · rw [if_pos r]
          exact Or.inr ⟨fun h => d4 h.2.2, rfl⟩
        · rw [if_neg (show ¬ F_NH_isRegister x5 = 0 by rw [r]; decide)]
          exact Or.inl ⟨⟨⟨by omega, by omega⟩, d3, d4⟩, rfl⟩
