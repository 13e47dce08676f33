/-! values, for whole: what divide, quotient, shape ask of their arguments (class) -/
def yMod (x : Int32) : Prop := 0 ≤ x.toInt ∧ x.toInt ≤ 7
def yScl (x : Int32) : Prop := -10000 ≤ x.toInt ∧ x.toInt ≤ 10000
theorem y_isM {x : Int32} : (F_NH_isMode x = 0 ∧ ¬ yMod x) ∨ (F_NH_isMode x = 1 ∧ yMod x) := by
  have e0 : (0 : Int32).toInt = 0 := rfl
  have e7 : (7 : Int32).toInt = 7 := rfl
  unfold F_NH_isMode yMod
  by_cases c1 : x < 0
  · rw [if_pos c1]
    have := q_ltI c1
    exact Or.inl ⟨rfl, by omega⟩
  · rw [if_neg c1]
    have := q_nltI c1
    by_cases c2 : (7 : Int32) < x
    · rw [if_pos c2]
      have := q_ltI c2
      exact Or.inl ⟨rfl, by omega⟩
    · rw [if_neg c2]
      have := q_nltI c2
      exact Or.inr ⟨rfl, by omega⟩
theorem y_isS {x : Int32} : (F_NH_isScale x = 0 ∧ ¬ yScl x) ∨ (F_NH_isScale x = 1 ∧ yScl x) := by
  have e0 : (-10000 : Int32).toInt = -10000 := rfl
  have e7 : (10000 : Int32).toInt = 10000 := rfl
  unfold F_NH_isScale yScl
  by_cases c1 : x < -10000
  · rw [if_pos c1]
    have := q_ltI c1
    exact Or.inl ⟨rfl, by omega⟩
  · rw [if_neg c1]
    have := q_nltI c1
    by_cases c2 : (10000 : Int32) < x
    · rw [if_pos c2]
      have := q_ltI c2
      exact Or.inl ⟨rfl, by omega⟩
    · rw [if_neg c2]
      have := q_nltI c2
      exact Or.inr ⟨rfl, by omega⟩
theorem y_top_divide {x2 : Int32} {x3 : Int32} {x4 : Int32} {x5 : Int32} {x6 : Int32} {t0_0 : Int64} {t0_1 : Int32} {t1_0 : Int32} {t1_1 : Int32} {t2_0 : (Nat → Int32)} {t3_0 : Int32} {t3_1 : Int32} {t4_0 : (Nat → Int32)} {t5_0 : Int32} {t5_1 : Int32} {t6_0 : (Nat → Int32)} {t7_0 : Int32} {t7_1 : Int32} {t8_0 : (Nat → Int32)} {t9_0 : Int32} {t9_1 : Int32} {t10_0 : Int32} {t10_1 : Int32} {t11_0 : (Nat → Int32)} {t12_0 : Int32} {t12_1 : Int32} {t13_0 : Int32} {t13_1 : Int32} {t14_0 : (Nat → Int32)} {t15_0 : Int32} {t15_1 : Int32} {t16_0 : Int32} {t16_1 : Int32} {t17_0 : (Nat → Int32)}  : ((yReg x2 ∧ yReg x3 ∧ yReg x4 ∧ yMod x6 ∧ yScl x5) ∧ (F_NH_divide x2 x3 x4 x5 x6 t0_0 t0_1 t1_0 t1_1 t2_0 t3_0 t3_1 t4_0 t5_0 t5_1 t6_0 t7_0 t7_1 t8_0 t9_0 t9_1 t10_0 t10_1 t11_0 t12_0 t12_1 t13_0 t13_1 t14_0 t15_0 t15_1 t16_0 t16_1 t17_0) = F_NH_divide_J42 x2 x3 x4 x5 x6 t0_0 t0_1 t1_0 t1_1 t2_0 t3_0 t3_1 t4_0 t5_0 t5_1 t6_0 t7_0 t7_1 t8_0 t9_0 t9_1 t10_0 t10_1 t11_0 t12_0 t12_1 t13_0 t13_1 t14_0 t15_0 t15_1 t16_0 t16_1 t17_0 1) ∨ (¬ (yReg x2 ∧ yReg x3 ∧ yReg x4 ∧ yMod x6 ∧ yScl x5) ∧ (F_NH_divide x2 x3 x4 x5 x6 t0_0 t0_1 t1_0 t1_1 t2_0 t3_0 t3_1 t4_0 t5_0 t5_1 t6_0 t7_0 t7_1 t8_0 t9_0 t9_1 t10_0 t10_1 t11_0 t12_0 t12_1 t13_0 t13_1 t14_0 t15_0 t15_1 t16_0 t16_1 t17_0) = F_NH_divide_J42 x2 x3 x4 x5 x6 t0_0 t0_1 t1_0 t1_1 t2_0 t3_0 t3_1 t4_0 t5_0 t5_1 t6_0 t7_0 t7_1 t8_0 t9_0 t9_1 t10_0 t10_1 t11_0 t12_0 t12_1 t13_0 t13_1 t14_0 t15_0 t15_1 t16_0 t16_1 t17_0 0) := by
  have e0 : (0 : Int32).toInt = 0 := rfl
  unfold F_NH_divide
  rcases y_isR (x := x2) with ⟨r, d1⟩ | ⟨r, d1⟩
  · rw [if_pos r]
    exact Or.inr ⟨fun h => d1 h.1, rfl⟩
  · rw [if_neg (show ¬ F_NH_isRegister x2 = 0 by rw [r]; decide)]
    rcases y_isR (x := x3) with ⟨r, d2⟩ | ⟨r, d2⟩
    · rw [if_pos r]
      exact Or.inr ⟨fun h => d2 h.2.1, rfl⟩
    · rw [if_neg (show ¬ F_NH_isRegister x3 = 0 by rw [r]; decide)]
      rcases y_isR (x := x4) with ⟨r, d3⟩ | ⟨r, d3⟩
      · rw [if_pos r]
        exact Or.inr ⟨fun h => d3 h.2.2.1, rfl⟩
      · rw [if_neg (show ¬ F_NH_isRegister x4 = 0 by rw [r]; decide)]
        rcases y_isM (x := x6) with ⟨r, d4⟩ | ⟨r, d4⟩
        · rw [if_pos r]
          exact Or.inr ⟨fun h => d4 h.2.2.2.1, rfl⟩
        · rw [if_neg (show ¬ F_NH_isMode x6 = 0 by rw [r]; decide)]
          rcases y_isS (x := x5) with ⟨r, d5⟩ | ⟨r, d5⟩
          · rw [if_pos r]
            exact Or.inr ⟨fun h => d5 h.2.2.2.2, rfl⟩
          · rw [if_neg (show ¬ F_NH_isScale x5 = 0 by rw [r]; decide)]
            exact Or.inl ⟨⟨d1, d2, d3, d4, d5⟩, rfl⟩
theorem y_top_divide_ab {x2 : Int32} {x3 : Int32} {x4 : Int32} {x5 : Int32} {x6 : Int32} {t0_0 : Int64} {t0_1 : Int32} {t1_0 : Int32} {t1_1 : Int32} {t2_0 : (Nat → Int32)} {t3_0 : Int32} {t3_1 : Int32} {t4_0 : (Nat → Int32)} {t5_0 : Int32} {t5_1 : Int32} {t6_0 : (Nat → Int32)} {t7_0 : Int32} {t7_1 : Int32} {t8_0 : (Nat → Int32)} {t9_0 : Int32} {t9_1 : Int32} {t10_0 : Int32} {t10_1 : Int32} {t11_0 : (Nat → Int32)} {t12_0 : Int32} {t12_1 : Int32} {t13_0 : Int32} {t13_1 : Int32} {t14_0 : (Nat → Int32)}  : ((yReg x2 ∧ yReg x3 ∧ yReg x4 ∧ yMod x6 ∧ yScl x5) ∧ (F_NH_divide_ab x2 x3 x4 x5 x6 t0_0 t0_1 t1_0 t1_1 t2_0 t3_0 t3_1 t4_0 t5_0 t5_1 t6_0 t7_0 t7_1 t8_0 t9_0 t9_1 t10_0 t10_1 t11_0 t12_0 t12_1 t13_0 t13_1 t14_0) = F_NH_divide_ab_J42 x2 x3 x4 x5 x6 t0_0 t0_1 t1_0 t1_1 t2_0 t3_0 t3_1 t4_0 t5_0 t5_1 t6_0 t7_0 t7_1 t8_0 t9_0 t9_1 t10_0 t10_1 t11_0 t12_0 t12_1 t13_0 t13_1 t14_0 1) ∨ (¬ (yReg x2 ∧ yReg x3 ∧ yReg x4 ∧ yMod x6 ∧ yScl x5) ∧ (F_NH_divide_ab x2 x3 x4 x5 x6 t0_0 t0_1 t1_0 t1_1 t2_0 t3_0 t3_1 t4_0 t5_0 t5_1 t6_0 t7_0 t7_1 t8_0 t9_0 t9_1 t10_0 t10_1 t11_0 t12_0 t12_1 t13_0 t13_1 t14_0) = F_NH_divide_ab_J42 x2 x3 x4 x5 x6 t0_0 t0_1 t1_0 t1_1 t2_0 t3_0 t3_1 t4_0 t5_0 t5_1 t6_0 t7_0 t7_1 t8_0 t9_0 t9_1 t10_0 t10_1 t11_0 t12_0 t12_1 t13_0 t13_1 t14_0 0) := by
  have e0 : (0 : Int32).toInt = 0 := rfl
  unfold F_NH_divide_ab
  rcases y_isR (x := x2) with ⟨r, d1⟩ | ⟨r, d1⟩
  · rw [if_pos r]
    exact Or.inr ⟨fun h => d1 h.1, rfl⟩
  · rw [if_neg (show ¬ F_NH_isRegister x2 = 0 by rw [r]; decide)]
    rcases y_isR (x := x3) with ⟨r, d2⟩ | ⟨r, d2⟩
    · rw [if_pos r]
      exact Or.inr ⟨fun h => d2 h.2.1, rfl⟩
    · rw [if_neg (show ¬ F_NH_isRegister x3 = 0 by rw [r]; decide)]
      rcases y_isR (x := x4) with ⟨r, d3⟩ | ⟨r, d3⟩
      · rw [if_pos r]
        exact Or.inr ⟨fun h => d3 h.2.2.1, rfl⟩
      · rw [if_neg (show ¬ F_NH_isRegister x4 = 0 by rw [r]; decide)]
        rcases y_isM (x := x6) with ⟨r, d4⟩ | ⟨r, d4⟩
        · rw [if_pos r]
          exact Or.inr ⟨fun h => d4 h.2.2.2.1, rfl⟩
        · rw [if_neg (show ¬ F_NH_isMode x6 = 0 by rw [r]; decide)]
          rcases y_isS (x := x5) with ⟨r, d5⟩ | ⟨r, d5⟩
          · rw [if_pos r]
            exact Or.inr ⟨fun h => d5 h.2.2.2.2, rfl⟩
          · rw [if_neg (show ¬ F_NH_isScale x5 = 0 by rw [r]; decide)]
            exact Or.inl ⟨⟨d1, d2, d3, d4, d5⟩, rfl⟩
theorem y_top_divide_bt {x2 : Int32} {x3 : Int32} {x4 : Int32} {x5 : Int32} {x6 : Int32} {t0_0 : Int64} {t0_1 : Int32} {t1_0 : Int32} {t1_1 : Int32} {t2_0 : (Nat → Int32)} {t3_0 : Int32} {t3_1 : Int32} {t4_0 : (Nat → Int32)} {t5_0 : Int32} {t5_1 : Int32} {t6_0 : (Nat → Int32)} {t7_0 : Int32} {t7_1 : Int32} {t8_0 : (Nat → Int32)} {t9_0 : Int32} {t9_1 : Int32} {t10_0 : Int32} {t10_1 : Int32} {t11_0 : (Nat → Int32)} {t12_0 : Int32} {t12_1 : Int32} {t13_0 : Int32} {t13_1 : Int32} {t14_0 : (Nat → Int32)}  : ((yReg x2 ∧ yReg x3 ∧ yReg x4 ∧ yMod x6 ∧ yScl x5) ∧ (F_NH_divide_bt x2 x3 x4 x5 x6 t0_0 t0_1 t1_0 t1_1 t2_0 t3_0 t3_1 t4_0 t5_0 t5_1 t6_0 t7_0 t7_1 t8_0 t9_0 t9_1 t10_0 t10_1 t11_0 t12_0 t12_1 t13_0 t13_1 t14_0) = F_NH_divide_bt_J42 x2 x3 x4 x5 x6 t0_0 t0_1 t1_0 t1_1 t2_0 t3_0 t3_1 t4_0 t5_0 t5_1 t6_0 t7_0 t7_1 t8_0 t9_0 t9_1 t10_0 t10_1 t11_0 t12_0 t12_1 t13_0 t13_1 t14_0 1) ∨ (¬ (yReg x2 ∧ yReg x3 ∧ yReg x4 ∧ yMod x6 ∧ yScl x5) ∧ (F_NH_divide_bt x2 x3 x4 x5 x6 t0_0 t0_1 t1_0 t1_1 t2_0 t3_0 t3_1 t4_0 t5_0 t5_1 t6_0 t7_0 t7_1 t8_0 t9_0 t9_1 t10_0 t10_1 t11_0 t12_0 t12_1 t13_0 t13_1 t14_0) = F_NH_divide_bt_J42 x2 x3 x4 x5 x6 t0_0 t0_1 t1_0 t1_1 t2_0 t3_0 t3_1 t4_0 t5_0 t5_1 t6_0 t7_0 t7_1 t8_0 t9_0 t9_1 t10_0 t10_1 t11_0 t12_0 t12_1 t13_0 t13_1 t14_0 0) := by
  have e0 : (0 : Int32).toInt = 0 := rfl
  unfold F_NH_divide_bt
  rcases y_isR (x := x2) with ⟨r, d1⟩ | ⟨r, d1⟩
  · rw [if_pos r]
    exact Or.inr ⟨fun h => d1 h.1, rfl⟩
  · rw [if_neg (show ¬ F_NH_isRegister x2 = 0 by rw [r]; decide)]
    rcases y_isR (x := x3) with ⟨r, d2⟩ | ⟨r, d2⟩
    · rw [if_pos r]
      exact Or.inr ⟨fun h => d2 h.2.1, rfl⟩
    · rw [if_neg (show ¬ F_NH_isRegister x3 = 0 by rw [r]; decide)]
      rcases y_isR (x := x4) with ⟨r, d3⟩ | ⟨r, d3⟩
      · rw [if_pos r]
        exact Or.inr ⟨fun h => d3 h.2.2.1, rfl⟩
      · rw [if_neg (show ¬ F_NH_isRegister x4 = 0 by rw [r]; decide)]
        rcases y_isM (x := x6) with ⟨r, d4⟩ | ⟨r, d4⟩
        · rw [if_pos r]
          exact Or.inr ⟨fun h => d4 h.2.2.2.1, rfl⟩
        · rw [if_neg (show ¬ F_NH_isMode x6 = 0 by rw [r]; decide)]
          rcases y_isS (x := x5) with ⟨r, d5⟩ | ⟨r, d5⟩
          · rw [if_pos r]
            exact Or.inr ⟨fun h => d5 h.2.2.2.2, rfl⟩
          · rw [if_neg (show ¬ F_NH_isScale x5 = 0 by rw [r]; decide)]
            exact Or.inl ⟨⟨d1, d2, d3, d4, d5⟩, rfl⟩
theorem y_top_divide_abt {x2 : Int32} {x3 : Int32} {x4 : Int32} {x5 : Int32} {x6 : Int32} {t0_0 : Int64} {t0_1 : Int32} {t1_0 : Int32} {t1_1 : Int32} {t2_0 : (Nat → Int32)} {t3_0 : Int32} {t3_1 : Int32} {t4_0 : (Nat → Int32)} {t5_0 : Int32} {t5_1 : Int32} {t6_0 : (Nat → Int32)} {t7_0 : Int32} {t7_1 : Int32} {t8_0 : (Nat → Int32)} {t9_0 : Int32} {t9_1 : Int32} {t10_0 : Int32} {t10_1 : Int32} {t11_0 : (Nat → Int32)}  : ((yReg x2 ∧ yReg x3 ∧ yReg x4 ∧ yMod x6 ∧ yScl x5) ∧ (F_NH_divide_abt x2 x3 x4 x5 x6 t0_0 t0_1 t1_0 t1_1 t2_0 t3_0 t3_1 t4_0 t5_0 t5_1 t6_0 t7_0 t7_1 t8_0 t9_0 t9_1 t10_0 t10_1 t11_0) = F_NH_divide_abt_J42 x2 x3 x4 x5 x6 t0_0 t0_1 t1_0 t1_1 t2_0 t3_0 t3_1 t4_0 t5_0 t5_1 t6_0 t7_0 t7_1 t8_0 t9_0 t9_1 t10_0 t10_1 t11_0 1) ∨ (¬ (yReg x2 ∧ yReg x3 ∧ yReg x4 ∧ yMod x6 ∧ yScl x5) ∧ (F_NH_divide_abt x2 x3 x4 x5 x6 t0_0 t0_1 t1_0 t1_1 t2_0 t3_0 t3_1 t4_0 t5_0 t5_1 t6_0 t7_0 t7_1 t8_0 t9_0 t9_1 t10_0 t10_1 t11_0) = F_NH_divide_abt_J42 x2 x3 x4 x5 x6 t0_0 t0_1 t1_0 t1_1 t2_0 t3_0 t3_1 t4_0 t5_0 t5_1 t6_0 t7_0 t7_1 t8_0 t9_0 t9_1 t10_0 t10_1 t11_0 0) := by
  have e0 : (0 : Int32).toInt = 0 := rfl
  unfold F_NH_divide_abt
  rcases y_isR (x := x2) with ⟨r, d1⟩ | ⟨r, d1⟩
  · rw [if_pos r]
    exact Or.inr ⟨fun h => d1 h.1, rfl⟩
  · rw [if_neg (show ¬ F_NH_isRegister x2 = 0 by rw [r]; decide)]
    rcases y_isR (x := x3) with ⟨r, d2⟩ | ⟨r, d2⟩
    · rw [if_pos r]
      exact Or.inr ⟨fun h => d2 h.2.1, rfl⟩
    · rw [if_neg (show ¬ F_NH_isRegister x3 = 0 by rw [r]; decide)]
      rcases y_isR (x := x4) with ⟨r, d3⟩ | ⟨r, d3⟩
      · rw [if_pos r]
        exact Or.inr ⟨fun h => d3 h.2.2.1, rfl⟩
      · rw [if_neg (show ¬ F_NH_isRegister x4 = 0 by rw [r]; decide)]
        rcases y_isM (x := x6) with ⟨r, d4⟩ | ⟨r, d4⟩
        · rw [if_pos r]
          exact Or.inr ⟨fun h => d4 h.2.2.2.1, rfl⟩
        · rw [if_neg (show ¬ F_NH_isMode x6 = 0 by rw [r]; decide)]
          rcases y_isS (x := x5) with ⟨r, d5⟩ | ⟨r, d5⟩
          · rw [if_pos r]
            exact Or.inr ⟨fun h => d5 h.2.2.2.2, rfl⟩
          · rw [if_neg (show ¬ F_NH_isScale x5 = 0 by rw [r]; decide)]
            exact Or.inl ⟨⟨d1, d2, d3, d4, d5⟩, rfl⟩
theorem y_top_quotient {x2 : Int32} {x3 : Int32} {x4 : Int32} {x5 : Int32} {x6 : Int32} {t0_0 : Int64} {t0_1 : Int32} {t1_0 : Int32} {t1_1 : Int32} {t2_0 : (Nat → Int32)} {t3_0 : Int32} {t3_1 : Int32} {t4_0 : (Nat → Int32)} {t5_0 : Int32} {t5_1 : Int32} {t6_0 : (Nat → Int32)} {t7_0 : Int32} {t7_1 : Int32} {t8_0 : (Nat → Int32)} {t9_0 : Int32} {t9_1 : Int32} {t10_0 : Int32} {t10_1 : Int32} {t11_0 : (Nat → Int32)} {t12_0 : Int32} {t12_1 : Int32} {t13_0 : Int32} {t13_1 : Int32} {t14_0 : (Nat → Int32)} {t15_0 : Int32} {t15_1 : Int32} {t16_0 : Int32} {t16_1 : Int32} {t17_0 : (Nat → Int32)}  : ((yReg x2 ∧ yReg x3 ∧ yReg x4 ∧ yMod x6) ∧ (F_NH_quotient x2 x3 x4 x5 x6 t0_0 t0_1 t1_0 t1_1 t2_0 t3_0 t3_1 t4_0 t5_0 t5_1 t6_0 t7_0 t7_1 t8_0 t9_0 t9_1 t10_0 t10_1 t11_0 t12_0 t12_1 t13_0 t13_1 t14_0 t15_0 t15_1 t16_0 t16_1 t17_0) = F_NH_quotient_J34 x2 x3 x4 x5 x6 t0_0 t0_1 t1_0 t1_1 t2_0 t3_0 t3_1 t4_0 t5_0 t5_1 t6_0 t7_0 t7_1 t8_0 t9_0 t9_1 t10_0 t10_1 t11_0 t12_0 t12_1 t13_0 t13_1 t14_0 t15_0 t15_1 t16_0 t16_1 t17_0 1) ∨ (¬ (yReg x2 ∧ yReg x3 ∧ yReg x4 ∧ yMod x6) ∧ (F_NH_quotient x2 x3 x4 x5 x6 t0_0 t0_1 t1_0 t1_1 t2_0 t3_0 t3_1 t4_0 t5_0 t5_1 t6_0 t7_0 t7_1 t8_0 t9_0 t9_1 t10_0 t10_1 t11_0 t12_0 t12_1 t13_0 t13_1 t14_0 t15_0 t15_1 t16_0 t16_1 t17_0) = F_NH_quotient_J34 x2 x3 x4 x5 x6 t0_0 t0_1 t1_0 t1_1 t2_0 t3_0 t3_1 t4_0 t5_0 t5_1 t6_0 t7_0 t7_1 t8_0 t9_0 t9_1 t10_0 t10_1 t11_0 t12_0 t12_1 t13_0 t13_1 t14_0 t15_0 t15_1 t16_0 t16_1 t17_0 0) := by
  have e0 : (0 : Int32).toInt = 0 := rfl
  unfold F_NH_quotient
  rcases y_isR (x := x2) with ⟨r, d1⟩ | ⟨r, d1⟩
  · rw [if_pos r]
    exact Or.inr ⟨fun h => d1 h.1, rfl⟩
  · rw [if_neg (show ¬ F_NH_isRegister x2 = 0 by rw [r]; decide)]
    rcases y_isR (x := x3) with ⟨r, d2⟩ | ⟨r, d2⟩
    · rw [if_pos r]
      exact Or.inr ⟨fun h => d2 h.2.1, rfl⟩
    · rw [if_neg (show ¬ F_NH_isRegister x3 = 0 by rw [r]; decide)]
      rcases y_isR (x := x4) with ⟨r, d3⟩ | ⟨r, d3⟩
      · rw [if_pos r]
        exact Or.inr ⟨fun h => d3 h.2.2.1, rfl⟩
      · rw [if_neg (show ¬ F_NH_isRegister x4 = 0 by rw [r]; decide)]
        rcases y_isM (x := x6) with ⟨r, d4⟩ | ⟨r, d4⟩
        · rw [if_pos r]
          exact Or.inr ⟨fun h => d4 h.2.2.2, rfl⟩
        · rw [if_neg (show ¬ F_NH_isMode x6 = 0 by rw [r]; decide)]
          exact Or.inl ⟨⟨d1, d2, d3, d4⟩, rfl⟩
theorem y_top_quotient_ab {x2 : Int32} {x3 : Int32} {x4 : Int32} {x5 : Int32} {x6 : Int32} {t0_0 : Int64} {t0_1 : Int32} {t1_0 : Int32} {t1_1 : Int32} {t2_0 : (Nat → Int32)} {t3_0 : Int32} {t3_1 : Int32} {t4_0 : (Nat → Int32)} {t5_0 : Int32} {t5_1 : Int32} {t6_0 : (Nat → Int32)} {t7_0 : Int32} {t7_1 : Int32} {t8_0 : (Nat → Int32)} {t9_0 : Int32} {t9_1 : Int32} {t10_0 : Int32} {t10_1 : Int32} {t11_0 : (Nat → Int32)} {t12_0 : Int32} {t12_1 : Int32} {t13_0 : Int32} {t13_1 : Int32} {t14_0 : (Nat → Int32)}  : ((yReg x2 ∧ yReg x3 ∧ yReg x4 ∧ yMod x6) ∧ (F_NH_quotient_ab x2 x3 x4 x5 x6 t0_0 t0_1 t1_0 t1_1 t2_0 t3_0 t3_1 t4_0 t5_0 t5_1 t6_0 t7_0 t7_1 t8_0 t9_0 t9_1 t10_0 t10_1 t11_0 t12_0 t12_1 t13_0 t13_1 t14_0) = F_NH_quotient_ab_J34 x2 x3 x4 x5 x6 t0_0 t0_1 t1_0 t1_1 t2_0 t3_0 t3_1 t4_0 t5_0 t5_1 t6_0 t7_0 t7_1 t8_0 t9_0 t9_1 t10_0 t10_1 t11_0 t12_0 t12_1 t13_0 t13_1 t14_0 1) ∨ (¬ (yReg x2 ∧ yReg x3 ∧ yReg x4 ∧ yMod x6) ∧ (F_NH_quotient_ab x2 x3 x4 x5 x6 t0_0 t0_1 t1_0 t1_1 t2_0 t3_0 t3_1 t4_0 t5_0 t5_1 t6_0 t7_0 t7_1 t8_0 t9_0 t9_1 t10_0 t10_1 t11_0 t12_0 t12_1 t13_0 t13_1 t14_0) = F_NH_quotient_ab_J34 x2 x3 x4 x5 x6 t0_0 t0_1 t1_0 t1_1 t2_0 t3_0 t3_1 t4_0 t5_0 t5_1 t6_0 t7_0 t7_1 t8_0 t9_0 t9_1 t10_0 t10_1 t11_0 t12_0 t12_1 t13_0 t13_1 t14_0 0) := by
  have e0 : (0 : Int32).toInt = 0 := rfl
  unfold F_NH_quotient_ab
  rcases y_isR (x := x2) with ⟨r, d1⟩ | ⟨r, d1⟩
  · rw [if_pos r]
    exact Or.inr ⟨fun h => d1 h.1, rfl⟩
  · rw [if_neg (show ¬ F_NH_isRegister x2 = 0 by rw [r]; decide)]
    rcases y_isR (x := x3) with ⟨r, d2⟩ | ⟨r, d2⟩
    · rw [if_pos r]
      exact Or.inr ⟨fun h => d2 h.2.1, rfl⟩
    · rw [if_neg (show ¬ F_NH_isRegister x3 = 0 by rw [r]; decide)]
      rcases y_isR (x := x4) with ⟨r, d3⟩ | ⟨r, d3⟩
      · rw [if_pos r]
        exact Or.inr ⟨fun h => d3 h.2.2.1, rfl⟩
      · rw [if_neg (show ¬ F_NH_isRegister x4 = 0 by rw [r]; decide)]
        rcases y_isM (x := x6) with ⟨r, d4⟩ | ⟨r, d4⟩
        · rw [if_pos r]
          exact Or.inr ⟨fun h => d4 h.2.2.2, rfl⟩
        · rw [if_neg (show ¬ F_NH_isMode x6 = 0 by rw [r]; decide)]
          exact Or.inl ⟨⟨d1, d2, d3, d4⟩, rfl⟩
theorem y_top_quotient_bt {x2 : Int32} {x3 : Int32} {x4 : Int32} {x5 : Int32} {x6 : Int32} {t0_0 : Int64} {t0_1 : Int32} {t1_0 : Int32} {t1_1 : Int32} {t2_0 : (Nat → Int32)} {t3_0 : Int32} {t3_1 : Int32} {t4_0 : (Nat → Int32)} {t5_0 : Int32} {t5_1 : Int32} {t6_0 : (Nat → Int32)} {t7_0 : Int32} {t7_1 : Int32} {t8_0 : (Nat → Int32)} {t9_0 : Int32} {t9_1 : Int32} {t10_0 : Int32} {t10_1 : Int32} {t11_0 : (Nat → Int32)} {t12_0 : Int32} {t12_1 : Int32} {t13_0 : Int32} {t13_1 : Int32} {t14_0 : (Nat → Int32)}  : ((yReg x2 ∧ yReg x3 ∧ yReg x4 ∧ yMod x6) ∧ (F_NH_quotient_bt x2 x3 x4 x5 x6 t0_0 t0_1 t1_0 t1_1 t2_0 t3_0 t3_1 t4_0 t5_0 t5_1 t6_0 t7_0 t7_1 t8_0 t9_0 t9_1 t10_0 t10_1 t11_0 t12_0 t12_1 t13_0 t13_1 t14_0) = F_NH_quotient_bt_J34 x2 x3 x4 x5 x6 t0_0 t0_1 t1_0 t1_1 t2_0 t3_0 t3_1 t4_0 t5_0 t5_1 t6_0 t7_0 t7_1 t8_0 t9_0 t9_1 t10_0 t10_1 t11_0 t12_0 t12_1 t13_0 t13_1 t14_0 1) ∨ (¬ (yReg x2 ∧ yReg x3 ∧ yReg x4 ∧ yMod x6) ∧ (F_NH_quotient_bt x2 x3 x4 x5 x6 t0_0 t0_1 t1_0 t1_1 t2_0 t3_0 t3_1 t4_0 t5_0 t5_1 t6_0 t7_0 t7_1 t8_0 t9_0 t9_1 t10_0 t10_1 t11_0 t12_0 t12_1 t13_0 t13_1 t14_0) = F_NH_quotient_bt_J34 x2 x3 x4 x5 x6 t0_0 t0_1 t1_0 t1_1 t2_0 t3_0 t3_1 t4_0 t5_0 t5_1 t6_0 t7_0 t7_1 t8_0 t9_0 t9_1 t10_0 t10_1 t11_0 t12_0 t12_1 t13_0 t13_1 t14_0 0) := by
  have e0 : (0 : Int32).toInt = 0 := rfl
  unfold F_NH_quotient_bt
  rcases y_isR (x := x2) with ⟨r, d1⟩ | ⟨r, d1⟩
  · rw [if_pos r]
    exact Or.inr ⟨fun h => d1 h.1, rfl⟩
  · rw [if_neg (show ¬ F_NH_isRegister x2 = 0 by rw [r]; decide)]
    rcases y_isR (x := x3) with ⟨r, d2⟩ | ⟨r, d2⟩
    · rw [if_pos r]
      exact Or.inr ⟨fun h => d2 h.2.1, rfl⟩
    · rw [if_neg (show ¬ F_NH_isRegister x3 = 0 by rw [r]; decide)]
      rcases y_isR (x := x4) with ⟨r, d3⟩ | ⟨r, d3⟩
      · rw [if_pos r]
        exact Or.inr ⟨fun h => d3 h.2.2.1, rfl⟩
      · rw [if_neg (show ¬ F_NH_isRegister x4 = 0 by rw [r]; decide)]
        rcases y_isM (x := x6) with ⟨r, d4⟩ | ⟨r, d4⟩
        · rw [if_pos r]
          exact Or.inr ⟨fun h => d4 h.2.2.2, rfl⟩
        · rw [if_neg (show ¬ F_NH_isMode x6 = 0 by rw [r]; decide)]
          exact Or.inl ⟨⟨d1, d2, d3, d4⟩, rfl⟩
theorem y_top_quotient_abt {x2 : Int32} {x3 : Int32} {x4 : Int32} {x5 : Int32} {x6 : Int32} {t0_0 : Int64} {t0_1 : Int32} {t1_0 : Int32} {t1_1 : Int32} {t2_0 : (Nat → Int32)} {t3_0 : Int32} {t3_1 : Int32} {t4_0 : (Nat → Int32)} {t5_0 : Int32} {t5_1 : Int32} {t6_0 : (Nat → Int32)} {t7_0 : Int32} {t7_1 : Int32} {t8_0 : (Nat → Int32)} {t9_0 : Int32} {t9_1 : Int32} {t10_0 : Int32} {t10_1 : Int32} {t11_0 : (Nat → Int32)}  : ((yReg x2 ∧ yReg x3 ∧ yReg x4 ∧ yMod x6) ∧ (F_NH_quotient_abt x2 x3 x4 x5 x6 t0_0 t0_1 t1_0 t1_1 t2_0 t3_0 t3_1 t4_0 t5_0 t5_1 t6_0 t7_0 t7_1 t8_0 t9_0 t9_1 t10_0 t10_1 t11_0) = F_NH_quotient_abt_J34 x2 x3 x4 x5 x6 t0_0 t0_1 t1_0 t1_1 t2_0 t3_0 t3_1 t4_0 t5_0 t5_1 t6_0 t7_0 t7_1 t8_0 t9_0 t9_1 t10_0 t10_1 t11_0 1) ∨ (¬ (yReg x2 ∧ yReg x3 ∧ yReg x4 ∧ yMod x6) ∧ (F_NH_quotient_abt x2 x3 x4 x5 x6 t0_0 t0_1 t1_0 t1_1 t2_0 t3_0 t3_1 t4_0 t5_0 t5_1 t6_0 t7_0 t7_1 t8_0 t9_0 t9_1 t10_0 t10_1 t11_0) = F_NH_quotient_abt_J34 x2 x3 x4 x5 x6 t0_0 t0_1 t1_0 t1_1 t2_0 t3_0 t3_1 t4_0 t5_0 t5_1 t6_0 t7_0 t7_1 t8_0 t9_0 t9_1 t10_0 t10_1 t11_0 0) := by
  have e0 : (0 : Int32).toInt = 0 := rfl
  unfold F_NH_quotient_abt
  rcases y_isR (x := x2) with ⟨r, d1⟩ | ⟨r, d1⟩
  · rw [if_pos r]
    exact Or.inr ⟨fun h => d1 h.1, rfl⟩
  · rw [if_neg (show ¬ F_NH_isRegister x2 = 0 by rw [r]; decide)]
    rcases y_isR (x := x3) with ⟨r, d2⟩ | ⟨r, d2⟩
    · rw [if_pos r]
      exact Or.inr ⟨fun h => d2 h.2.1, rfl⟩
    · rw [if_neg (show ¬ F_NH_isRegister x3 = 0 by rw [r]; decide)]
      rcases y_isR (x := x4) with ⟨r, d3⟩ | ⟨r, d3⟩
      · rw [if_pos r]
        exact Or.inr ⟨fun h => d3 h.2.2.1, rfl⟩
      · rw [if_neg (show ¬ F_NH_isRegister x4 = 0 by rw [r]; decide)]
        rcases y_isM (x := x6) with ⟨r, d4⟩ | ⟨r, d4⟩
        · rw [if_pos r]
          exact Or.inr ⟨fun h => d4 h.2.2.2, rfl⟩
        · rw [if_neg (show ¬ F_NH_isMode x6 = 0 by rw [r]; decide)]
          exact Or.inl ⟨⟨d1, d2, d3, d4⟩, rfl⟩
theorem y_top_shape {x2 : Int32} {x3 : Int32} {x4 : Int32} {x5 : Int32} {x6 : Int32} {t0_0 : Int64} {t0_1 : Int32} {t1_0 : Int32} {t1_1 : Int32} {t2_0 : Int32} {t2_1 : Int32} {t3_0 : (Nat → Int32)} {t4_0 : Int32} {t4_1 : Int32} {t5_0 : (Nat → Int32)} {t6_0 : Int32} {t6_1 : Int32} {t7_0 : (Nat → Int32)} {t8_0 : Int32} {t8_1 : Int32} {t9_0 : (Nat → Int32)} {t10_0 : Int32} {t10_1 : Int32} {t11_0 : (Nat → Int32)} {t12_0 : Int32} {t12_1 : Int32} {t13_0 : (Nat → Int32)} {t14_0 : Int32} {t14_1 : Int32} {t15_0 : (Nat → Int32)} {t16_0 : Int32} {t16_1 : Int32} {t17_0 : (Nat → Int32)} {t18_0 : Int32} {t18_1 : Int32} {t19_0 : (Nat → Int32)} {t20_0 : Int32} {t20_1 : Int32} {t21_0 : Int32} {t21_1 : Int32} {t22_0 : (Nat → Int32)} {t23_0 : Int32} {t23_1 : Int32} {t24_0 : Int32} {t24_1 : Int32} {t25_0 : (Nat → Int32)}  : (((0 ≤ x2.toInt ∧ x2.toInt ≤ 2) ∧ yReg x3 ∧ yReg x4 ∧ yMod x6) ∧ (F_NH_shape x2 x3 x4 x5 x6 t0_0 t0_1 t1_0 t1_1 t2_0 t2_1 t3_0 t4_0 t4_1 t5_0 t6_0 t6_1 t7_0 t8_0 t8_1 t9_0 t10_0 t10_1 t11_0 t12_0 t12_1 t13_0 t14_0 t14_1 t15_0 t16_0 t16_1 t17_0 t18_0 t18_1 t19_0 t20_0 t20_1 t21_0 t21_1 t22_0 t23_0 t23_1 t24_0 t24_1 t25_0) = F_NH_shape_J36 x2 x3 x4 x5 x6 t0_0 t0_1 t1_0 t1_1 t2_0 t2_1 t3_0 t4_0 t4_1 t5_0 t6_0 t6_1 t7_0 t8_0 t8_1 t9_0 t10_0 t10_1 t11_0 t12_0 t12_1 t13_0 t14_0 t14_1 t15_0 t16_0 t16_1 t17_0 t18_0 t18_1 t19_0 t20_0 t20_1 t21_0 t21_1 t22_0 t23_0 t23_1 t24_0 t24_1 t25_0 1) ∨ (¬ ((0 ≤ x2.toInt ∧ x2.toInt ≤ 2) ∧ yReg x3 ∧ yReg x4 ∧ yMod x6) ∧ (F_NH_shape x2 x3 x4 x5 x6 t0_0 t0_1 t1_0 t1_1 t2_0 t2_1 t3_0 t4_0 t4_1 t5_0 t6_0 t6_1 t7_0 t8_0 t8_1 t9_0 t10_0 t10_1 t11_0 t12_0 t12_1 t13_0 t14_0 t14_1 t15_0 t16_0 t16_1 t17_0 t18_0 t18_1 t19_0 t20_0 t20_1 t21_0 t21_1 t22_0 t23_0 t23_1 t24_0 t24_1 t25_0) = F_NH_shape_J36 x2 x3 x4 x5 x6 t0_0 t0_1 t1_0 t1_1 t2_0 t2_1 t3_0 t4_0 t4_1 t5_0 t6_0 t6_1 t7_0 t8_0 t8_1 t9_0 t10_0 t10_1 t11_0 t12_0 t12_1 t13_0 t14_0 t14_1 t15_0 t16_0 t16_1 t17_0 t18_0 t18_1 t19_0 t20_0 t20_1 t21_0 t21_1 t22_0 t23_0 t23_1 t24_0 t24_1 t25_0 0) := by
  have e0 : (0 : Int32).toInt = 0 := rfl
  have eh : (2 : Int32).toInt = 2 := rfl
  unfold F_NH_shape
  by_cases c1 : x2 < 0
  · rw [if_pos c1]
    have c1 := q_ltI c1
    exact Or.inr ⟨fun h => by have := h.1; omega, rfl⟩
  · rw [if_neg c1]
    have c1 := q_nltI c1
    by_cases c2 : (2 : Int32) < x2
    · rw [if_pos c2]
      have c2 := q_ltI c2
      exact Or.inr ⟨fun h => by have := h.1; omega, rfl⟩
    · rw [if_neg c2]
      have c2 := q_nltI c2
      rcases y_isR (x := x3) with ⟨r, d3⟩ | ⟨r, d3⟩
      · rw [if_pos r]
        exact Or.inr ⟨fun h => d3 h.2.1, rfl⟩
      · rw [if_neg (show ¬ F_NH_isRegister x3 = 0 by rw [r]; decide)]
        rcases y_isR (x := x4) with ⟨r, d4⟩ | ⟨r, d4⟩
        · rw [if_pos r]
          exact Or.inr ⟨fun h => d4 h.2.2.1, rfl⟩
        · rw [if_neg (show ¬ F_NH_isRegister x4 = 0 by rw [r]; decide)]
          rcases y_isM (x := x6) with ⟨r, d5⟩ | ⟨r, d5⟩
          · rw [if_pos r]
            exact Or.inr ⟨fun h => d5 h.2.2.2, rfl⟩
          · rw [if_neg (show ¬ F_NH_isMode x6 = 0 by rw [r]; decide)]
            exact Or.inl ⟨⟨⟨by omega, by omega⟩, d3, d4, d5⟩, rfl⟩
