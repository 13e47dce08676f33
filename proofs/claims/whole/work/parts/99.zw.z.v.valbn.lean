/-! values, for whole: the second checks of quotient, decimalBy, shape (class) -/
theorem y_sec_quotient {x2 : Int32} {x3 : Int32} {x4 : Int32} {x5 : Int32} {x6 : Int32} {t0_0 : Int64} {t0_1 : Int32} {t1_0 : Int32} {t1_1 : Int32} {t2_0 : (Nat → Int32)} {t3_0 : Int32} {t3_1 : Int32} {t4_0 : (Nat → Int32)} {t5_0 : Int32} {t5_1 : Int32} {t6_0 : (Nat → Int32)} {t7_0 : Int32} {t7_1 : Int32} {t8_0 : (Nat → Int32)} {t9_0 : Int32} {t9_1 : Int32} {t10_0 : Int32} {t10_1 : Int32} {t11_0 : (Nat → Int32)} {t12_0 : Int32} {t12_1 : Int32} {t13_0 : Int32} {t13_1 : Int32} {t14_0 : (Nat → Int32)} {t15_0 : Int32} {t15_1 : Int32} {t16_0 : Int32} {t16_1 : Int32} {t17_0 : (Nat → Int32)} {lx83 : Int32} (hl : lx83 = 1) : ((0 ≤ x5.toInt ∧ x5.toInt ≤ 1000) ∧ (F_NH_quotient_J34 x2 x3 x4 x5 x6 t0_0 t0_1 t1_0 t1_1 t2_0 t3_0 t3_1 t4_0 t5_0 t5_1 t6_0 t7_0 t7_1 t8_0 t9_0 t9_1 t10_0 t10_1 t11_0 t12_0 t12_1 t13_0 t13_1 t14_0 t15_0 t15_1 t16_0 t16_1 t17_0 lx83) = F_NH_quotient_J55 x2 x3 x4 x5 x6 t0_0 t0_1 t1_0 t1_1 t2_0 t3_0 t3_1 t4_0 t5_0 t5_1 t6_0 t7_0 t7_1 t8_0 t9_0 t9_1 t10_0 t10_1 t11_0 t12_0 t12_1 t13_0 t13_1 t14_0 t15_0 t15_1 t16_0 t16_1 t17_0 lx83 1) ∨ (¬ (0 ≤ x5.toInt ∧ x5.toInt ≤ 1000) ∧ (F_NH_quotient_J34 x2 x3 x4 x5 x6 t0_0 t0_1 t1_0 t1_1 t2_0 t3_0 t3_1 t4_0 t5_0 t5_1 t6_0 t7_0 t7_1 t8_0 t9_0 t9_1 t10_0 t10_1 t11_0 t12_0 t12_1 t13_0 t13_1 t14_0 t15_0 t15_1 t16_0 t16_1 t17_0 lx83) = F_NH_quotient_J55 x2 x3 x4 x5 x6 t0_0 t0_1 t1_0 t1_1 t2_0 t3_0 t3_1 t4_0 t5_0 t5_1 t6_0 t7_0 t7_1 t8_0 t9_0 t9_1 t10_0 t10_1 t11_0 t12_0 t12_1 t13_0 t13_1 t14_0 t15_0 t15_1 t16_0 t16_1 t17_0 lx83 0) := by
  have e0 : (0 : Int32).toInt = 0 := rfl
  have e1 : (1000 : Int32).toInt = 1000 := rfl
  unfold F_NH_quotient_J34
  rw [if_pos (show F_NH_need lx83 = 0 by rw [hl]; decide)]
  by_cases c1 : x5 < 0
  · rw [if_pos c1]
    have := q_ltI c1
    exact Or.inr ⟨by omega, rfl⟩
  · rw [if_neg c1]
    have := q_nltI c1
    by_cases c2 : (1000 : Int32) < x5
    · rw [if_pos c2]
      have := q_ltI c2
      exact Or.inr ⟨by omega, rfl⟩
    · rw [if_neg c2]
      have := q_nltI c2
      exact Or.inl ⟨⟨by omega, by omega⟩, rfl⟩
theorem y_sec_quotient_ab {x2 : Int32} {x3 : Int32} {x4 : Int32} {x5 : Int32} {x6 : Int32} {t0_0 : Int64} {t0_1 : Int32} {t1_0 : Int32} {t1_1 : Int32} {t2_0 : (Nat → Int32)} {t3_0 : Int32} {t3_1 : Int32} {t4_0 : (Nat → Int32)} {t5_0 : Int32} {t5_1 : Int32} {t6_0 : (Nat → Int32)} {t7_0 : Int32} {t7_1 : Int32} {t8_0 : (Nat → Int32)} {t9_0 : Int32} {t9_1 : Int32} {t10_0 : Int32} {t10_1 : Int32} {t11_0 : (Nat → Int32)} {t12_0 : Int32} {t12_1 : Int32} {t13_0 : Int32} {t13_1 : Int32} {t14_0 : (Nat → Int32)} {lx70 : Int32} (hl : lx70 = 1) : ((0 ≤ x5.toInt ∧ x5.toInt ≤ 1000) ∧ (F_NH_quotient_ab_J34 x2 x3 x4 x5 x6 t0_0 t0_1 t1_0 t1_1 t2_0 t3_0 t3_1 t4_0 t5_0 t5_1 t6_0 t7_0 t7_1 t8_0 t9_0 t9_1 t10_0 t10_1 t11_0 t12_0 t12_1 t13_0 t13_1 t14_0 lx70) = F_NH_quotient_ab_J55 x2 x3 x4 x5 x6 t0_0 t0_1 t1_0 t1_1 t2_0 t3_0 t3_1 t4_0 t5_0 t5_1 t6_0 t7_0 t7_1 t8_0 t9_0 t9_1 t10_0 t10_1 t11_0 t12_0 t12_1 t13_0 t13_1 t14_0 lx70 1) ∨ (¬ (0 ≤ x5.toInt ∧ x5.toInt ≤ 1000) ∧ (F_NH_quotient_ab_J34 x2 x3 x4 x5 x6 t0_0 t0_1 t1_0 t1_1 t2_0 t3_0 t3_1 t4_0 t5_0 t5_1 t6_0 t7_0 t7_1 t8_0 t9_0 t9_1 t10_0 t10_1 t11_0 t12_0 t12_1 t13_0 t13_1 t14_0 lx70) = F_NH_quotient_ab_J55 x2 x3 x4 x5 x6 t0_0 t0_1 t1_0 t1_1 t2_0 t3_0 t3_1 t4_0 t5_0 t5_1 t6_0 t7_0 t7_1 t8_0 t9_0 t9_1 t10_0 t10_1 t11_0 t12_0 t12_1 t13_0 t13_1 t14_0 lx70 0) := by
  have e0 : (0 : Int32).toInt = 0 := rfl
  have e1 : (1000 : Int32).toInt = 1000 := rfl
  unfold F_NH_quotient_ab_J34
  rw [if_pos (show F_NH_need lx70 = 0 by rw [hl]; decide)]
  by_cases c1 : x5 < 0
  · rw [if_pos c1]
    have := q_ltI c1
    exact Or.inr ⟨by omega, rfl⟩
  · rw [if_neg c1]
    have := q_nltI c1
    by_cases c2 : (1000 : Int32) < x5
    · rw [if_pos c2]
      have := q_ltI c2
      exact Or.inr ⟨by omega, rfl⟩
    · rw [if_neg c2]
      have := q_nltI c2
      exact Or.inl ⟨⟨by omega, by omega⟩, rfl⟩
theorem y_sec_quotient_bt {x2 : Int32} {x3 : Int32} {x4 : Int32} {x5 : Int32} {x6 : Int32} {t0_0 : Int64} {t0_1 : Int32} {t1_0 : Int32} {t1_1 : Int32} {t2_0 : (Nat → Int32)} {t3_0 : Int32} {t3_1 : Int32} {t4_0 : (Nat → Int32)} {t5_0 : Int32} {t5_1 : Int32} {t6_0 : (Nat → Int32)} {t7_0 : Int32} {t7_1 : Int32} {t8_0 : (Nat → Int32)} {t9_0 : Int32} {t9_1 : Int32} {t10_0 : Int32} {t10_1 : Int32} {t11_0 : (Nat → Int32)} {t12_0 : Int32} {t12_1 : Int32} {t13_0 : Int32} {t13_1 : Int32} {t14_0 : (Nat → Int32)} {lx70 : Int32} (hl : lx70 = 1) : ((0 ≤ x5.toInt ∧ x5.toInt ≤ 1000) ∧ (F_NH_quotient_bt_J34 x2 x3 x4 x5 x6 t0_0 t0_1 t1_0 t1_1 t2_0 t3_0 t3_1 t4_0 t5_0 t5_1 t6_0 t7_0 t7_1 t8_0 t9_0 t9_1 t10_0 t10_1 t11_0 t12_0 t12_1 t13_0 t13_1 t14_0 lx70) = F_NH_quotient_bt_J55 x2 x3 x4 x5 x6 t0_0 t0_1 t1_0 t1_1 t2_0 t3_0 t3_1 t4_0 t5_0 t5_1 t6_0 t7_0 t7_1 t8_0 t9_0 t9_1 t10_0 t10_1 t11_0 t12_0 t12_1 t13_0 t13_1 t14_0 lx70 1) ∨ (¬ (0 ≤ x5.toInt ∧ x5.toInt ≤ 1000) ∧ (F_NH_quotient_bt_J34 x2 x3 x4 x5 x6 t0_0 t0_1 t1_0 t1_1 t2_0 t3_0 t3_1 t4_0 t5_0 t5_1 t6_0 t7_0 t7_1 t8_0 t9_0 t9_1 t10_0 t10_1 t11_0 t12_0 t12_1 t13_0 t13_1 t14_0 lx70) = F_NH_quotient_bt_J55 x2 x3 x4 x5 x6 t0_0 t0_1 t1_0 t1_1 t2_0 t3_0 t3_1 t4_0 t5_0 t5_1 t6_0 t7_0 t7_1 t8_0 t9_0 t9_1 t10_0 t10_1 t11_0 t12_0 t12_1 t13_0 t13_1 t14_0 lx70 0) := by
  have e0 : (0 : Int32).toInt = 0 := rfl
  have e1 : (1000 : Int32).toInt = 1000 := rfl
  unfold F_NH_quotient_bt_J34
  rw [if_pos (show F_NH_need lx70 = 0 by rw [hl]; decide)]
  by_cases c1 : x5 < 0
  · rw [if_pos c1]
    have := q_ltI c1
    exact Or.inr ⟨by omega, rfl⟩
  · rw [if_neg c1]
    have := q_nltI c1
    by_cases c2 : (1000 : Int32) < x5
    · rw [if_pos c2]
      have := q_ltI c2
      exact Or.inr ⟨by omega, rfl⟩
    · rw [if_neg c2]
      have := q_nltI c2
      exact Or.inl ⟨⟨by omega, by omega⟩, rfl⟩
theorem y_sec_quotient_abt {x2 : Int32} {x3 : Int32} {x4 : Int32} {x5 : Int32} {x6 : Int32} {t0_0 : Int64} {t0_1 : Int32} {t1_0 : Int32} {t1_1 : Int32} {t2_0 : (Nat → Int32)} {t3_0 : Int32} {t3_1 : Int32} {t4_0 : (Nat → Int32)} {t5_0 : Int32} {t5_1 : Int32} {t6_0 : (Nat → Int32)} {t7_0 : Int32} {t7_1 : Int32} {t8_0 : (Nat → Int32)} {t9_0 : Int32} {t9_1 : Int32} {t10_0 : Int32} {t10_1 : Int32} {t11_0 : (Nat → Int32)} {lx57 : Int32} (hl : lx57 = 1) : ((0 ≤ x5.toInt ∧ x5.toInt ≤ 1000) ∧ (F_NH_quotient_abt_J34 x2 x3 x4 x5 x6 t0_0 t0_1 t1_0 t1_1 t2_0 t3_0 t3_1 t4_0 t5_0 t5_1 t6_0 t7_0 t7_1 t8_0 t9_0 t9_1 t10_0 t10_1 t11_0 lx57) = F_NH_quotient_abt_J55 x2 x3 x4 x5 x6 t0_0 t0_1 t1_0 t1_1 t2_0 t3_0 t3_1 t4_0 t5_0 t5_1 t6_0 t7_0 t7_1 t8_0 t9_0 t9_1 t10_0 t10_1 t11_0 lx57 1) ∨ (¬ (0 ≤ x5.toInt ∧ x5.toInt ≤ 1000) ∧ (F_NH_quotient_abt_J34 x2 x3 x4 x5 x6 t0_0 t0_1 t1_0 t1_1 t2_0 t3_0 t3_1 t4_0 t5_0 t5_1 t6_0 t7_0 t7_1 t8_0 t9_0 t9_1 t10_0 t10_1 t11_0 lx57) = F_NH_quotient_abt_J55 x2 x3 x4 x5 x6 t0_0 t0_1 t1_0 t1_1 t2_0 t3_0 t3_1 t4_0 t5_0 t5_1 t6_0 t7_0 t7_1 t8_0 t9_0 t9_1 t10_0 t10_1 t11_0 lx57 0) := by
  have e0 : (0 : Int32).toInt = 0 := rfl
  have e1 : (1000 : Int32).toInt = 1000 := rfl
  unfold F_NH_quotient_abt_J34
  rw [if_pos (show F_NH_need lx57 = 0 by rw [hl]; decide)]
  by_cases c1 : x5 < 0
  · rw [if_pos c1]
    have := q_ltI c1
    exact Or.inr ⟨by omega, rfl⟩
  · rw [if_neg c1]
    have := q_nltI c1
    by_cases c2 : (1000 : Int32) < x5
    · rw [if_pos c2]
      have := q_ltI c2
      exact Or.inr ⟨by omega, rfl⟩
    · rw [if_neg c2]
      have := q_nltI c2
      exact Or.inl ⟨⟨by omega, by omega⟩, rfl⟩
theorem y_sec_decimalBy {x2 : Int32} {x3 : Int32} {x4 : Int32} {x5 : Int32} {t0_0 : Int64} {t0_1 : Int32} {t1_0 : Int32} {t1_1 : Int32} {t2_0 : (Nat → Int32)} {t3_0 : Int32} {t3_1 : Int32} {t4_0 : (Nat → Int32)} {t5_0 : Int32} {t5_1 : Int32} {t6_0 : (Nat → Int32)} {t7_0 : Int32} {t7_1 : Int32} {t8_0 : (Nat → Int32)} {t9_0 : Int32} {t9_1 : Int32} {t10_0 : Int32} {t10_1 : Int32} {t11_0 : (Nat → Int32)} {t12_0 : Int32} {t12_1 : Int32} {t13_0 : Int32} {t13_1 : Int32} {t14_0 : (Nat → Int32)} {lx63 : Int32} (hl : lx63 = 1) : ((x2 = 0 → 0 ≤ x4.toInt ∧ x4.toInt ≤ 999) ∧ (F_NH_decimalBy_J29 x2 x3 x4 x5 t0_0 t0_1 t1_0 t1_1 t2_0 t3_0 t3_1 t4_0 t5_0 t5_1 t6_0 t7_0 t7_1 t8_0 t9_0 t9_1 t10_0 t10_1 t11_0 t12_0 t12_1 t13_0 t13_1 t14_0 lx63) = F_NH_decimalBy_J52 x2 x3 x4 x5 t0_0 t0_1 t1_0 t1_1 t2_0 t3_0 t3_1 t4_0 t5_0 t5_1 t6_0 t7_0 t7_1 t8_0 t9_0 t9_1 t10_0 t10_1 t11_0 t12_0 t12_1 t13_0 t13_1 t14_0 lx63 1) ∨ (¬ (x2 = 0 → 0 ≤ x4.toInt ∧ x4.toInt ≤ 999) ∧ (F_NH_decimalBy_J29 x2 x3 x4 x5 t0_0 t0_1 t1_0 t1_1 t2_0 t3_0 t3_1 t4_0 t5_0 t5_1 t6_0 t7_0 t7_1 t8_0 t9_0 t9_1 t10_0 t10_1 t11_0 t12_0 t12_1 t13_0 t13_1 t14_0 lx63) = F_NH_decimalBy_J52 x2 x3 x4 x5 t0_0 t0_1 t1_0 t1_1 t2_0 t3_0 t3_1 t4_0 t5_0 t5_1 t6_0 t7_0 t7_1 t8_0 t9_0 t9_1 t10_0 t10_1 t11_0 t12_0 t12_1 t13_0 t13_1 t14_0 lx63 0) := by
  have e0 : (0 : Int32).toInt = 0 := rfl
  have e1 : (999 : Int32).toInt = 999 := rfl
  unfold F_NH_decimalBy_J29
  rw [if_pos (show F_NH_need lx63 = 0 by rw [hl]; decide)]
  by_cases c0 : x2 = 0
  · rw [if_pos c0]
    by_cases c1 : x4 < 0
    · rw [if_pos c1]
      have := q_ltI c1
      exact Or.inr ⟨fun h => by have := h c0; omega, rfl⟩
    · rw [if_neg c1]
      have := q_nltI c1
      by_cases c2 : (999 : Int32) < x4
      · rw [if_pos c2]
        have := q_ltI c2
        exact Or.inr ⟨fun h => by have := h c0; omega, rfl⟩
      · rw [if_neg c2]
        have := q_nltI c2
        exact Or.inl ⟨fun _ => ⟨by omega, by omega⟩, rfl⟩
  · rw [if_neg c0]
    exact Or.inl ⟨fun h => absurd h c0, rfl⟩
theorem y_sec_shape {x2 : Int32} {x3 : Int32} {x4 : Int32} {x5 : Int32} {x6 : Int32} {t0_0 : Int64} {t0_1 : Int32} {t1_0 : Int32} {t1_1 : Int32} {t2_0 : Int32} {t2_1 : Int32} {t3_0 : (Nat → Int32)} {t4_0 : Int32} {t4_1 : Int32} {t5_0 : (Nat → Int32)} {t6_0 : Int32} {t6_1 : Int32} {t7_0 : (Nat → Int32)} {t8_0 : Int32} {t8_1 : Int32} {t9_0 : (Nat → Int32)} {t10_0 : Int32} {t10_1 : Int32} {t11_0 : (Nat → Int32)} {t12_0 : Int32} {t12_1 : Int32} {t13_0 : (Nat → Int32)} {t14_0 : Int32} {t14_1 : Int32} {t15_0 : (Nat → Int32)} {t16_0 : Int32} {t16_1 : Int32} {t17_0 : (Nat → Int32)} {t18_0 : Int32} {t18_1 : Int32} {t19_0 : (Nat → Int32)} {t20_0 : Int32} {t20_1 : Int32} {t21_0 : Int32} {t21_1 : Int32} {t22_0 : (Nat → Int32)} {t23_0 : Int32} {t23_1 : Int32} {t24_0 : Int32} {t24_1 : Int32} {t25_0 : (Nat → Int32)} {lx108 : Int32} (hl : lx108 = 1) : (((x2 = 0 → yScl x5) ∧ (x2 ≠ 0 → 1 ≤ x5.toInt ∧ x5.toInt ≤ 1000)) ∧ (F_NH_shape_J36 x2 x3 x4 x5 x6 t0_0 t0_1 t1_0 t1_1 t2_0 t2_1 t3_0 t4_0 t4_1 t5_0 t6_0 t6_1 t7_0 t8_0 t8_1 t9_0 t10_0 t10_1 t11_0 t12_0 t12_1 t13_0 t14_0 t14_1 t15_0 t16_0 t16_1 t17_0 t18_0 t18_1 t19_0 t20_0 t20_1 t21_0 t21_1 t22_0 t23_0 t23_1 t24_0 t24_1 t25_0 lx108) = F_NH_shape_J70 x2 x3 x4 x5 x6 t0_0 t0_1 t1_0 t1_1 t2_0 t2_1 t3_0 t4_0 t4_1 t5_0 t6_0 t6_1 t7_0 t8_0 t8_1 t9_0 t10_0 t10_1 t11_0 t12_0 t12_1 t13_0 t14_0 t14_1 t15_0 t16_0 t16_1 t17_0 t18_0 t18_1 t19_0 t20_0 t20_1 t21_0 t21_1 t22_0 t23_0 t23_1 t24_0 t24_1 t25_0 lx108 1) ∨ (¬ ((x2 = 0 → yScl x5) ∧ (x2 ≠ 0 → 1 ≤ x5.toInt ∧ x5.toInt ≤ 1000)) ∧ (F_NH_shape_J36 x2 x3 x4 x5 x6 t0_0 t0_1 t1_0 t1_1 t2_0 t2_1 t3_0 t4_0 t4_1 t5_0 t6_0 t6_1 t7_0 t8_0 t8_1 t9_0 t10_0 t10_1 t11_0 t12_0 t12_1 t13_0 t14_0 t14_1 t15_0 t16_0 t16_1 t17_0 t18_0 t18_1 t19_0 t20_0 t20_1 t21_0 t21_1 t22_0 t23_0 t23_1 t24_0 t24_1 t25_0 lx108) = F_NH_shape_J70 x2 x3 x4 x5 x6 t0_0 t0_1 t1_0 t1_1 t2_0 t2_1 t3_0 t4_0 t4_1 t5_0 t6_0 t6_1 t7_0 t8_0 t8_1 t9_0 t10_0 t10_1 t11_0 t12_0 t12_1 t13_0 t14_0 t14_1 t15_0 t16_0 t16_1 t17_0 t18_0 t18_1 t19_0 t20_0 t20_1 t21_0 t21_1 t22_0 t23_0 t23_1 t24_0 t24_1 t25_0 lx108 0) := by
  have e0 : (1 : Int32).toInt = 1 := rfl
  have e1 : (1000 : Int32).toInt = 1000 := rfl
  unfold F_NH_shape_J36
  rw [if_pos (show F_NH_need lx108 = 0 by rw [hl]; decide)]
  by_cases c0 : x2 = 0
  · rw [if_pos c0]
    rcases y_isS (x := x5) with ⟨r, q⟩ | ⟨r, q⟩
    · rw [r]
      exact Or.inr ⟨fun h => q (h.1 c0), rfl⟩
    · rw [r]
      exact Or.inl ⟨⟨fun _ => q, fun h => absurd c0 h⟩, rfl⟩
  · rw [if_neg c0]
    by_cases c1 : x5 < 1
    · rw [if_pos c1]
      have := q_ltI c1
      exact Or.inr ⟨fun h => by have := h.2 c0; omega, rfl⟩
    · rw [if_neg c1]
      have := q_nltI c1
      by_cases c2 : (1000 : Int32) < x5
      · rw [if_pos c2]
        have := q_ltI c2
        exact Or.inr ⟨fun h => by have := h.2 c0; omega, rfl⟩
      · rw [if_neg c2]
        have := q_nltI c2
        exact Or.inl ⟨⟨fun h => absurd h c0, fun _ => ⟨by omega, by omega⟩⟩, rfl⟩
