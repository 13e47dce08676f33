/-! values, for whole: what the reference's divide, quotient, shape, decimalBy answer to arguments that they do not take -/
theorem y_mode {x : Int32} (h : F_DR_noMode x = 0) : yMod x := by
  have e0 : (0 : Int32).toInt = 0 := rfl
  have e7 : (7 : Int32).toInt = 7 := rfl
  unfold F_DR_noMode at h
  by_cases c1 : x < 0
  · rw [if_pos c1] at h
    exact absurd h (by decide)
  · rw [if_neg c1] at h
    have c1 := q_nltI c1
    by_cases c2 : x ≤ 7
    · have c2 := q_leI c2
      exact ⟨by omega, by omega⟩
    · rw [if_neg c2] at h
      exact absurd h (by decide)
theorem y_dn_divide {x2 : Int32} {x3 : Int32} {x4 : Int32} {x5 : Int32} {x6 : Int32} {t0_0 : Int32} {t0_1 : Int32} {t0_2 : Int32} {t0_3 : Int64} {t0_4 : Int32} {t0_5 : Int32} {t0_6 : Int32} {t0_7 : Int32} {t0_8 : Int32} {t0_9 : Int32} {t0_10 : Int32} {t1_0 : (Nat → Int32)} {t2_0 : (Nat → Int32)} {t3_0 : (Nat → Int32)} {t4_0 : (Nat → Int32)} {t5_0 : (Nat → Int32)} {t6_0 : (Nat → Int32)} {t7_0 : (Nat → Int32)}  : (F_DR_divide_J46 x2 x3 x4 x5 x6 t0_0 t0_1 t0_2 t0_3 t0_4 t0_5 t0_6 t0_7 t0_8 t0_9 t0_10 t1_0 t2_0 t3_0 t4_0 t5_0 t6_0 t7_0).1 = 1 ∧ (F_DR_divide_J46 x2 x3 x4 x5 x6 t0_0 t0_1 t0_2 t0_3 t0_4 t0_5 t0_6 t0_7 t0_8 t0_9 t0_10 t1_0 t2_0 t3_0 t4_0 t5_0 t6_0 t7_0).2.2.2.2.2.2.2.2.2.2.2.1 = t1_0 ∧ (F_DR_divide_J46 x2 x3 x4 x5 x6 t0_0 t0_1 t0_2 t0_3 t0_4 t0_5 t0_6 t0_7 t0_8 t0_9 t0_10 t1_0 t2_0 t3_0 t4_0 t5_0 t6_0 t7_0).2.2.2.2.2.2.2.2.2.2.2.2.1 = t2_0 ∧ (F_DR_divide_J46 x2 x3 x4 x5 x6 t0_0 t0_1 t0_2 t0_3 t0_4 t0_5 t0_6 t0_7 t0_8 t0_9 t0_10 t1_0 t2_0 t3_0 t4_0 t5_0 t6_0 t7_0).2.2.2.2.2.2.2.2.2.2.2.2.2.1 = t3_0 ∧ (F_DR_divide_J46 x2 x3 x4 x5 x6 t0_0 t0_1 t0_2 t0_3 t0_4 t0_5 t0_6 t0_7 t0_8 t0_9 t0_10 t1_0 t2_0 t3_0 t4_0 t5_0 t6_0 t7_0).2.2.2.2.2.2.2.2.2.2.2.2.2.2.1 = t4_0 := by
  unfold F_DR_divide_J46 F_DR_divide_J63
  rw [if_neg (show ¬ (1 : Int32) ≤ 0 by decide)]
  exact ⟨rfl, rfl, rfl, rfl, rfl⟩
theorem y_dno_divide {x2 : Int32} {x3 : Int32} {x4 : Int32} {x5 : Int32} {x6 : Int32} {t0_0 : Int32} {t0_1 : Int32} {t0_2 : Int32} {t0_3 : Int64} {t0_4 : Int32} {t0_5 : Int32} {t0_6 : Int32} {t0_7 : Int32} {t0_8 : Int32} {t0_9 : Int32} {t0_10 : Int32} {t1_0 : (Nat → Int32)} {t2_0 : (Nat → Int32)} {t3_0 : (Nat → Int32)} {t4_0 : (Nat → Int32)} {t5_0 : (Nat → Int32)} {t6_0 : (Nat → Int32)} {t7_0 : (Nat → Int32)} (hn : ¬ (yReg x2 ∧ yReg x3 ∧ yReg x4 ∧ yMod x6 ∧ yScl x5)) : (F_DR_divide x2 x3 x4 x5 x6 t0_0 t0_1 t0_2 t0_3 t0_4 t0_5 t0_6 t0_7 t0_8 t0_9 t0_10 t1_0 t2_0 t3_0 t4_0 t5_0 t6_0 t7_0).1 = 1 ∧ (F_DR_divide x2 x3 x4 x5 x6 t0_0 t0_1 t0_2 t0_3 t0_4 t0_5 t0_6 t0_7 t0_8 t0_9 t0_10 t1_0 t2_0 t3_0 t4_0 t5_0 t6_0 t7_0).2.2.2.2.2.2.2.2.2.2.2.1 = t1_0 ∧ (F_DR_divide x2 x3 x4 x5 x6 t0_0 t0_1 t0_2 t0_3 t0_4 t0_5 t0_6 t0_7 t0_8 t0_9 t0_10 t1_0 t2_0 t3_0 t4_0 t5_0 t6_0 t7_0).2.2.2.2.2.2.2.2.2.2.2.2.1 = t2_0 ∧ (F_DR_divide x2 x3 x4 x5 x6 t0_0 t0_1 t0_2 t0_3 t0_4 t0_5 t0_6 t0_7 t0_8 t0_9 t0_10 t1_0 t2_0 t3_0 t4_0 t5_0 t6_0 t7_0).2.2.2.2.2.2.2.2.2.2.2.2.2.1 = t3_0 ∧ (F_DR_divide x2 x3 x4 x5 x6 t0_0 t0_1 t0_2 t0_3 t0_4 t0_5 t0_6 t0_7 t0_8 t0_9 t0_10 t1_0 t2_0 t3_0 t4_0 t5_0 t6_0 t7_0).2.2.2.2.2.2.2.2.2.2.2.2.2.2.1 = t4_0 := by
  have el : (-10000 : Int32).toInt = -10000 := rfl
  have eh : (10000 : Int32).toInt = 10000 := rfl
  unfold F_DR_divide
  by_cases c0 : F_DR_no x2 = 0
  · rw [if_pos c0]
    by_cases c1 : F_DR_no x3 = 0
    · rw [if_pos c1]
      by_cases c2 : F_DR_no x4 = 0
      · rw [if_pos c2]
        by_cases cm : F_DR_noMode x6 = 0
        · rw [if_pos cm]
          by_cases cl : x5 < -10000
          · rw [if_pos cl]
            exact y_dn_divide
          · rw [if_neg cl]
            by_cases ch : x5 ≤ 10000
            · have cl := q_nltI cl
              have ch := q_leI ch
              exact absurd ⟨g_no c0, g_no c1, g_no c2, y_mode cm, by omega, by omega⟩ hn
            · rw [if_neg ch]
              exact y_dn_divide
        · rw [if_neg cm]
          exact y_dn_divide
      · rw [if_neg c2]
        exact y_dn_divide
    · rw [if_neg c1]
      exact y_dn_divide
  · rw [if_neg c0]
    exact y_dn_divide
theorem y_dn_quotient {x2 : Int32} {x3 : Int32} {x4 : Int32} {x5 : Int32} {x6 : Int32} {t0_0 : Int32} {t0_1 : Int32} {t0_2 : Int32} {t0_3 : Int64} {t0_4 : Int32} {t0_5 : Int32} {t0_6 : Int32} {t0_7 : Int32} {t0_8 : Int32} {t0_9 : Int32} {t0_10 : Int32} {t1_0 : (Nat → Int32)} {t2_0 : (Nat → Int32)} {t3_0 : (Nat → Int32)} {t4_0 : (Nat → Int32)} {t5_0 : (Nat → Int32)} {t6_0 : (Nat → Int32)} {t7_0 : (Nat → Int32)}  : (F_DR_quotient_J43 x2 x3 x4 x5 x6 t0_0 t0_1 t0_2 t0_3 t0_4 t0_5 t0_6 t0_7 t0_8 t0_9 t0_10 t1_0 t2_0 t3_0 t4_0 t5_0 t6_0 t7_0).1 = 1 ∧ (F_DR_quotient_J43 x2 x3 x4 x5 x6 t0_0 t0_1 t0_2 t0_3 t0_4 t0_5 t0_6 t0_7 t0_8 t0_9 t0_10 t1_0 t2_0 t3_0 t4_0 t5_0 t6_0 t7_0).2.2.2.2.2.2.2.2.2.2.2.1 = t1_0 ∧ (F_DR_quotient_J43 x2 x3 x4 x5 x6 t0_0 t0_1 t0_2 t0_3 t0_4 t0_5 t0_6 t0_7 t0_8 t0_9 t0_10 t1_0 t2_0 t3_0 t4_0 t5_0 t6_0 t7_0).2.2.2.2.2.2.2.2.2.2.2.2.1 = t2_0 ∧ (F_DR_quotient_J43 x2 x3 x4 x5 x6 t0_0 t0_1 t0_2 t0_3 t0_4 t0_5 t0_6 t0_7 t0_8 t0_9 t0_10 t1_0 t2_0 t3_0 t4_0 t5_0 t6_0 t7_0).2.2.2.2.2.2.2.2.2.2.2.2.2.1 = t3_0 ∧ (F_DR_quotient_J43 x2 x3 x4 x5 x6 t0_0 t0_1 t0_2 t0_3 t0_4 t0_5 t0_6 t0_7 t0_8 t0_9 t0_10 t1_0 t2_0 t3_0 t4_0 t5_0 t6_0 t7_0).2.2.2.2.2.2.2.2.2.2.2.2.2.2.1 = t4_0 := by
  unfold F_DR_quotient_J43 F_DR_quotient_J60
  rw [if_neg (show ¬ (1 : Int32) ≤ 0 by decide)]
  exact ⟨rfl, rfl, rfl, rfl, rfl⟩
theorem y_dno_quotient {x2 : Int32} {x3 : Int32} {x4 : Int32} {x5 : Int32} {x6 : Int32} {t0_0 : Int32} {t0_1 : Int32} {t0_2 : Int32} {t0_3 : Int64} {t0_4 : Int32} {t0_5 : Int32} {t0_6 : Int32} {t0_7 : Int32} {t0_8 : Int32} {t0_9 : Int32} {t0_10 : Int32} {t1_0 : (Nat → Int32)} {t2_0 : (Nat → Int32)} {t3_0 : (Nat → Int32)} {t4_0 : (Nat → Int32)} {t5_0 : (Nat → Int32)} {t6_0 : (Nat → Int32)} {t7_0 : (Nat → Int32)} (hn : ¬ (yReg x2 ∧ yReg x3 ∧ yReg x4 ∧ yMod x6 ∧ (0 ≤ x5.toInt ∧ x5.toInt ≤ 1000))) : (F_DR_quotient x2 x3 x4 x5 x6 t0_0 t0_1 t0_2 t0_3 t0_4 t0_5 t0_6 t0_7 t0_8 t0_9 t0_10 t1_0 t2_0 t3_0 t4_0 t5_0 t6_0 t7_0).1 = 1 ∧ (F_DR_quotient x2 x3 x4 x5 x6 t0_0 t0_1 t0_2 t0_3 t0_4 t0_5 t0_6 t0_7 t0_8 t0_9 t0_10 t1_0 t2_0 t3_0 t4_0 t5_0 t6_0 t7_0).2.2.2.2.2.2.2.2.2.2.2.1 = t1_0 ∧ (F_DR_quotient x2 x3 x4 x5 x6 t0_0 t0_1 t0_2 t0_3 t0_4 t0_5 t0_6 t0_7 t0_8 t0_9 t0_10 t1_0 t2_0 t3_0 t4_0 t5_0 t6_0 t7_0).2.2.2.2.2.2.2.2.2.2.2.2.1 = t2_0 ∧ (F_DR_quotient x2 x3 x4 x5 x6 t0_0 t0_1 t0_2 t0_3 t0_4 t0_5 t0_6 t0_7 t0_8 t0_9 t0_10 t1_0 t2_0 t3_0 t4_0 t5_0 t6_0 t7_0).2.2.2.2.2.2.2.2.2.2.2.2.2.1 = t3_0 ∧ (F_DR_quotient x2 x3 x4 x5 x6 t0_0 t0_1 t0_2 t0_3 t0_4 t0_5 t0_6 t0_7 t0_8 t0_9 t0_10 t1_0 t2_0 t3_0 t4_0 t5_0 t6_0 t7_0).2.2.2.2.2.2.2.2.2.2.2.2.2.2.1 = t4_0 := by
  have el : (0 : Int32).toInt = 0 := rfl
  have eh : (1000 : Int32).toInt = 1000 := rfl
  unfold F_DR_quotient
  by_cases c0 : F_DR_no x2 = 0
  · rw [if_pos c0]
    by_cases c1 : F_DR_no x3 = 0
    · rw [if_pos c1]
      by_cases c2 : F_DR_no x4 = 0
      · rw [if_pos c2]
        by_cases cm : F_DR_noMode x6 = 0
        · rw [if_pos cm]
          by_cases cl : x5 < 0
          · rw [if_pos cl]
            exact y_dn_quotient
          · rw [if_neg cl]
            by_cases ch : x5 ≤ 1000
            · have cl := q_nltI cl
              have ch := q_leI ch
              exact absurd ⟨g_no c0, g_no c1, g_no c2, y_mode cm, by omega, by omega⟩ hn
            · rw [if_neg ch]
              exact y_dn_quotient
        · rw [if_neg cm]
          exact y_dn_quotient
      · rw [if_neg c2]
        exact y_dn_quotient
    · rw [if_neg c1]
      exact y_dn_quotient
  · rw [if_neg c0]
    exact y_dn_quotient
theorem y_dn_toScale {x2 : Int32} {x3 : Int32} {x4 : Int32} {x5 : Int32} {t0_0 : Int32} {t0_1 : Int32} {t0_2 : Int32} {t0_3 : Int64} {t0_4 : Int32} {t0_5 : Int32} {t0_6 : Int32} {t0_7 : Int32} {t0_8 : Int32} {t0_9 : Int32} {t0_10 : Int32} {t1_0 : (Nat → Int32)} {t2_0 : (Nat → Int32)} {t3_0 : (Nat → Int32)} {t4_0 : (Nat → Int32)} {t5_0 : (Nat → Int32)}  : (F_DR_toScale_J37 x2 x3 x4 x5 t0_0 t0_1 t0_2 t0_3 t0_4 t0_5 t0_6 t0_7 t0_8 t0_9 t0_10 t1_0 t2_0 t3_0 t4_0 t5_0).1 = 1 ∧ (F_DR_toScale_J37 x2 x3 x4 x5 t0_0 t0_1 t0_2 t0_3 t0_4 t0_5 t0_6 t0_7 t0_8 t0_9 t0_10 t1_0 t2_0 t3_0 t4_0 t5_0).2.2.2.2.2.2.2.2.2.2.2.1 = t1_0 ∧ (F_DR_toScale_J37 x2 x3 x4 x5 t0_0 t0_1 t0_2 t0_3 t0_4 t0_5 t0_6 t0_7 t0_8 t0_9 t0_10 t1_0 t2_0 t3_0 t4_0 t5_0).2.2.2.2.2.2.2.2.2.2.2.2.1 = t2_0 ∧ (F_DR_toScale_J37 x2 x3 x4 x5 t0_0 t0_1 t0_2 t0_3 t0_4 t0_5 t0_6 t0_7 t0_8 t0_9 t0_10 t1_0 t2_0 t3_0 t4_0 t5_0).2.2.2.2.2.2.2.2.2.2.2.2.2.1 = t3_0 ∧ (F_DR_toScale_J37 x2 x3 x4 x5 t0_0 t0_1 t0_2 t0_3 t0_4 t0_5 t0_6 t0_7 t0_8 t0_9 t0_10 t1_0 t2_0 t3_0 t4_0 t5_0).2.2.2.2.2.2.2.2.2.2.2.2.2.2.1 = t4_0 := by
  unfold F_DR_toScale_J37 F_DR_toScale_J42
  rw [if_neg (show ¬ (1 : Int32) = 0 by decide)]
  exact ⟨rfl, rfl, rfl, rfl, rfl⟩
theorem y_dno_toScale {x2 : Int32} {x3 : Int32} {x4 : Int32} {x5 : Int32} {t0_0 : Int32} {t0_1 : Int32} {t0_2 : Int32} {t0_3 : Int64} {t0_4 : Int32} {t0_5 : Int32} {t0_6 : Int32} {t0_7 : Int32} {t0_8 : Int32} {t0_9 : Int32} {t0_10 : Int32} {t1_0 : (Nat → Int32)} {t2_0 : (Nat → Int32)} {t3_0 : (Nat → Int32)} {t4_0 : (Nat → Int32)} {t5_0 : (Nat → Int32)} (hn : ¬ (yReg x2 ∧ yReg x3 ∧ yMod x5 ∧ yScl x4)) : (F_DR_toScale x2 x3 x4 x5 t0_0 t0_1 t0_2 t0_3 t0_4 t0_5 t0_6 t0_7 t0_8 t0_9 t0_10 t1_0 t2_0 t3_0 t4_0 t5_0).1 = 1 ∧ (F_DR_toScale x2 x3 x4 x5 t0_0 t0_1 t0_2 t0_3 t0_4 t0_5 t0_6 t0_7 t0_8 t0_9 t0_10 t1_0 t2_0 t3_0 t4_0 t5_0).2.2.2.2.2.2.2.2.2.2.2.1 = t1_0 ∧ (F_DR_toScale x2 x3 x4 x5 t0_0 t0_1 t0_2 t0_3 t0_4 t0_5 t0_6 t0_7 t0_8 t0_9 t0_10 t1_0 t2_0 t3_0 t4_0 t5_0).2.2.2.2.2.2.2.2.2.2.2.2.1 = t2_0 ∧ (F_DR_toScale x2 x3 x4 x5 t0_0 t0_1 t0_2 t0_3 t0_4 t0_5 t0_6 t0_7 t0_8 t0_9 t0_10 t1_0 t2_0 t3_0 t4_0 t5_0).2.2.2.2.2.2.2.2.2.2.2.2.2.1 = t3_0 ∧ (F_DR_toScale x2 x3 x4 x5 t0_0 t0_1 t0_2 t0_3 t0_4 t0_5 t0_6 t0_7 t0_8 t0_9 t0_10 t1_0 t2_0 t3_0 t4_0 t5_0).2.2.2.2.2.2.2.2.2.2.2.2.2.2.1 = t4_0 := by
  have el : (-10000 : Int32).toInt = -10000 := rfl
  have eh : (10000 : Int32).toInt = 10000 := rfl
  unfold F_DR_toScale
  by_cases c0 : F_DR_no x2 = 0
  · rw [if_pos c0]
    by_cases c1 : F_DR_no x3 = 0
    · rw [if_pos c1]
      by_cases cm : F_DR_noMode x5 = 0
      · rw [if_pos cm]
        by_cases cl : x4 < -10000
        · rw [if_pos cl]
          exact y_dn_toScale
        · rw [if_neg cl]
          by_cases ch : x4 ≤ 10000
          · have cl := q_nltI cl
            have ch := q_leI ch
            exact absurd ⟨g_no c0, g_no c1, y_mode cm, by omega, by omega⟩ hn
          · rw [if_neg ch]
            exact y_dn_toScale
      · rw [if_neg cm]
        exact y_dn_toScale
    · rw [if_neg c1]
      exact y_dn_toScale
  · rw [if_neg c0]
    exact y_dn_toScale
theorem y_dn_round {x2 : Int32} {x3 : Int32} {x4 : Int32} {x5 : Int32} {t0_0 : Int32} {t0_1 : Int32} {t0_2 : Int32} {t0_3 : Int64} {t0_4 : Int32} {t0_5 : Int32} {t0_6 : Int32} {t0_7 : Int32} {t0_8 : Int32} {t0_9 : Int32} {t0_10 : Int32} {t1_0 : (Nat → Int32)} {t2_0 : (Nat → Int32)} {t3_0 : (Nat → Int32)} {t4_0 : (Nat → Int32)} {t5_0 : (Nat → Int32)}  : (F_DR_round_J35 x2 x3 x4 x5 t0_0 t0_1 t0_2 t0_3 t0_4 t0_5 t0_6 t0_7 t0_8 t0_9 t0_10 t1_0 t2_0 t3_0 t4_0 t5_0).1 = 1 ∧ (F_DR_round_J35 x2 x3 x4 x5 t0_0 t0_1 t0_2 t0_3 t0_4 t0_5 t0_6 t0_7 t0_8 t0_9 t0_10 t1_0 t2_0 t3_0 t4_0 t5_0).2.2.2.2.2.2.2.2.2.2.2.1 = t1_0 ∧ (F_DR_round_J35 x2 x3 x4 x5 t0_0 t0_1 t0_2 t0_3 t0_4 t0_5 t0_6 t0_7 t0_8 t0_9 t0_10 t1_0 t2_0 t3_0 t4_0 t5_0).2.2.2.2.2.2.2.2.2.2.2.2.1 = t2_0 ∧ (F_DR_round_J35 x2 x3 x4 x5 t0_0 t0_1 t0_2 t0_3 t0_4 t0_5 t0_6 t0_7 t0_8 t0_9 t0_10 t1_0 t2_0 t3_0 t4_0 t5_0).2.2.2.2.2.2.2.2.2.2.2.2.2.1 = t3_0 ∧ (F_DR_round_J35 x2 x3 x4 x5 t0_0 t0_1 t0_2 t0_3 t0_4 t0_5 t0_6 t0_7 t0_8 t0_9 t0_10 t1_0 t2_0 t3_0 t4_0 t5_0).2.2.2.2.2.2.2.2.2.2.2.2.2.2.1 = t4_0 := by
  unfold F_DR_round_J35 F_DR_round_J40
  rw [if_neg (show ¬ (1 : Int32) = 0 by decide)]
  exact ⟨rfl, rfl, rfl, rfl, rfl⟩
theorem y_dno_round {x2 : Int32} {x3 : Int32} {x4 : Int32} {x5 : Int32} {t0_0 : Int32} {t0_1 : Int32} {t0_2 : Int32} {t0_3 : Int64} {t0_4 : Int32} {t0_5 : Int32} {t0_6 : Int32} {t0_7 : Int32} {t0_8 : Int32} {t0_9 : Int32} {t0_10 : Int32} {t1_0 : (Nat → Int32)} {t2_0 : (Nat → Int32)} {t3_0 : (Nat → Int32)} {t4_0 : (Nat → Int32)} {t5_0 : (Nat → Int32)} (hn : ¬ (yReg x2 ∧ yReg x3 ∧ yMod x5 ∧ (1 ≤ x4.toInt ∧ x4.toInt ≤ 1000))) : (F_DR_round x2 x3 x4 x5 t0_0 t0_1 t0_2 t0_3 t0_4 t0_5 t0_6 t0_7 t0_8 t0_9 t0_10 t1_0 t2_0 t3_0 t4_0 t5_0).1 = 1 ∧ (F_DR_round x2 x3 x4 x5 t0_0 t0_1 t0_2 t0_3 t0_4 t0_5 t0_6 t0_7 t0_8 t0_9 t0_10 t1_0 t2_0 t3_0 t4_0 t5_0).2.2.2.2.2.2.2.2.2.2.2.1 = t1_0 ∧ (F_DR_round x2 x3 x4 x5 t0_0 t0_1 t0_2 t0_3 t0_4 t0_5 t0_6 t0_7 t0_8 t0_9 t0_10 t1_0 t2_0 t3_0 t4_0 t5_0).2.2.2.2.2.2.2.2.2.2.2.2.1 = t2_0 ∧ (F_DR_round x2 x3 x4 x5 t0_0 t0_1 t0_2 t0_3 t0_4 t0_5 t0_6 t0_7 t0_8 t0_9 t0_10 t1_0 t2_0 t3_0 t4_0 t5_0).2.2.2.2.2.2.2.2.2.2.2.2.2.1 = t3_0 ∧ (F_DR_round x2 x3 x4 x5 t0_0 t0_1 t0_2 t0_3 t0_4 t0_5 t0_6 t0_7 t0_8 t0_9 t0_10 t1_0 t2_0 t3_0 t4_0 t5_0).2.2.2.2.2.2.2.2.2.2.2.2.2.2.1 = t4_0 := by
  have el : (1 : Int32).toInt = 1 := rfl
  have eh : (1000 : Int32).toInt = 1000 := rfl
  unfold F_DR_round
  by_cases c0 : F_DR_no x2 = 0
  · rw [if_pos c0]
    by_cases c1 : F_DR_no x3 = 0
    · rw [if_pos c1]
      by_cases cm : F_DR_noMode x5 = 0
      · rw [if_pos cm]
        by_cases cl : x4 < 1
        · rw [if_pos cl]
          exact y_dn_round
        · rw [if_neg cl]
          by_cases ch : x4 ≤ 1000
          · have cl := q_nltI cl
            have ch := q_leI ch
            exact absurd ⟨g_no c0, g_no c1, y_mode cm, by omega, by omega⟩ hn
          · rw [if_neg ch]
            exact y_dn_round
      · rw [if_neg cm]
        exact y_dn_round
    · rw [if_neg c1]
      exact y_dn_round
  · rw [if_neg c0]
    exact y_dn_round
theorem y_dn_root {x2 : Int32} {x3 : Int32} {x4 : Int32} {x5 : Int32} {t0_0 : Int32} {t0_1 : Int32} {t0_2 : Int32} {t0_3 : Int64} {t0_4 : Int32} {t0_5 : Int32} {t0_6 : Int32} {t0_7 : Int32} {t0_8 : Int32} {t0_9 : Int32} {t0_10 : Int32} {t1_0 : (Nat → Int32)} {t2_0 : (Nat → Int32)} {t3_0 : (Nat → Int32)} {t4_0 : (Nat → Int32)} {t5_0 : (Nat → Int32)} {t6_0 : (Nat → Int32)} {t7_0 : (Nat → Int32)} {t8_0 : (Nat → Int32)}  : (F_DR_root_J35 x2 x3 x4 x5 t0_0 t0_1 t0_2 t0_3 t0_4 t0_5 t0_6 t0_7 t0_8 t0_9 t0_10 t1_0 t2_0 t3_0 t4_0 t5_0 t6_0 t7_0 t8_0).1 = 1 ∧ (F_DR_root_J35 x2 x3 x4 x5 t0_0 t0_1 t0_2 t0_3 t0_4 t0_5 t0_6 t0_7 t0_8 t0_9 t0_10 t1_0 t2_0 t3_0 t4_0 t5_0 t6_0 t7_0 t8_0).2.2.2.2.2.2.2.2.2.2.2.1 = t1_0 ∧ (F_DR_root_J35 x2 x3 x4 x5 t0_0 t0_1 t0_2 t0_3 t0_4 t0_5 t0_6 t0_7 t0_8 t0_9 t0_10 t1_0 t2_0 t3_0 t4_0 t5_0 t6_0 t7_0 t8_0).2.2.2.2.2.2.2.2.2.2.2.2.1 = t2_0 ∧ (F_DR_root_J35 x2 x3 x4 x5 t0_0 t0_1 t0_2 t0_3 t0_4 t0_5 t0_6 t0_7 t0_8 t0_9 t0_10 t1_0 t2_0 t3_0 t4_0 t5_0 t6_0 t7_0 t8_0).2.2.2.2.2.2.2.2.2.2.2.2.2.1 = t3_0 ∧ (F_DR_root_J35 x2 x3 x4 x5 t0_0 t0_1 t0_2 t0_3 t0_4 t0_5 t0_6 t0_7 t0_8 t0_9 t0_10 t1_0 t2_0 t3_0 t4_0 t5_0 t6_0 t7_0 t8_0).2.2.2.2.2.2.2.2.2.2.2.2.2.2.1 = t4_0 := by
  unfold F_DR_root_J35 F_DR_root_J53
  rw [if_neg (show ¬ (1 : Int32) ≤ 0 by decide)]
  exact ⟨rfl, rfl, rfl, rfl, rfl⟩
theorem y_dno_root {x2 : Int32} {x3 : Int32} {x4 : Int32} {x5 : Int32} {t0_0 : Int32} {t0_1 : Int32} {t0_2 : Int32} {t0_3 : Int64} {t0_4 : Int32} {t0_5 : Int32} {t0_6 : Int32} {t0_7 : Int32} {t0_8 : Int32} {t0_9 : Int32} {t0_10 : Int32} {t1_0 : (Nat → Int32)} {t2_0 : (Nat → Int32)} {t3_0 : (Nat → Int32)} {t4_0 : (Nat → Int32)} {t5_0 : (Nat → Int32)} {t6_0 : (Nat → Int32)} {t7_0 : (Nat → Int32)} {t8_0 : (Nat → Int32)} (hn : ¬ (yReg x2 ∧ yReg x3 ∧ yMod x5 ∧ (1 ≤ x4.toInt ∧ x4.toInt ≤ 1000))) : (F_DR_root x2 x3 x4 x5 t0_0 t0_1 t0_2 t0_3 t0_4 t0_5 t0_6 t0_7 t0_8 t0_9 t0_10 t1_0 t2_0 t3_0 t4_0 t5_0 t6_0 t7_0 t8_0).1 = 1 ∧ (F_DR_root x2 x3 x4 x5 t0_0 t0_1 t0_2 t0_3 t0_4 t0_5 t0_6 t0_7 t0_8 t0_9 t0_10 t1_0 t2_0 t3_0 t4_0 t5_0 t6_0 t7_0 t8_0).2.2.2.2.2.2.2.2.2.2.2.1 = t1_0 ∧ (F_DR_root x2 x3 x4 x5 t0_0 t0_1 t0_2 t0_3 t0_4 t0_5 t0_6 t0_7 t0_8 t0_9 t0_10 t1_0 t2_0 t3_0 t4_0 t5_0 t6_0 t7_0 t8_0).2.2.2.2.2.2.2.2.2.2.2.2.1 = t2_0 ∧ (F_DR_root x2 x3 x4 x5 t0_0 t0_1 t0_2 t0_3 t0_4 t0_5 t0_6 t0_7 t0_8 t0_9 t0_10 t1_0 t2_0 t3_0 t4_0 t5_0 t6_0 t7_0 t8_0).2.2.2.2.2.2.2.2.2.2.2.2.2.1 = t3_0 ∧ (F_DR_root x2 x3 x4 x5 t0_0 t0_1 t0_2 t0_3 t0_4 t0_5 t0_6 t0_7 t0_8 t0_9 t0_10 t1_0 t2_0 t3_0 t4_0 t5_0 t6_0 t7_0 t8_0).2.2.2.2.2.2.2.2.2.2.2.2.2.2.1 = t4_0 := by
  have el : (1 : Int32).toInt = 1 := rfl
  have eh : (1000 : Int32).toInt = 1000 := rfl
  unfold F_DR_root
  by_cases c0 : F_DR_no x2 = 0
  · rw [if_pos c0]
    by_cases c1 : F_DR_no x3 = 0
    · rw [if_pos c1]
      by_cases cm : F_DR_noMode x5 = 0
      · rw [if_pos cm]
        by_cases cl : x4 < 1
        · rw [if_pos cl]
          exact y_dn_root
        · rw [if_neg cl]
          by_cases ch : x4 ≤ 1000
          · have cl := q_nltI cl
            have ch := q_leI ch
            exact absurd ⟨g_no c0, g_no c1, y_mode cm, by omega, by omega⟩ hn
          · rw [if_neg ch]
            exact y_dn_root
      · rw [if_neg cm]
        exact y_dn_root
    · rw [if_neg c1]
      exact y_dn_root
  · rw [if_neg c0]
    exact y_dn_root
theorem y_dn_power {x2 : Int32} {x3 : Int32} {x4 : Int32} {t0_0 : Int32} {t0_1 : Int32} {t0_2 : Int32} {t0_3 : Int64} {t0_4 : Int32} {t0_5 : Int32} {t0_6 : Int32} {t0_7 : Int32} {t0_8 : Int32} {t0_9 : Int32} {t0_10 : Int32} {t1_0 : (Nat → Int32)} {t2_0 : (Nat → Int32)} {t3_0 : (Nat → Int32)} {t4_0 : (Nat → Int32)} {t5_0 : (Nat → Int32)} {t6_0 : (Nat → Int32)}  : (F_DR_power_J26 x2 x3 x4 t0_0 t0_1 t0_2 t0_3 t0_4 t0_5 t0_6 t0_7 t0_8 t0_9 t0_10 t1_0 t2_0 t3_0 t4_0 t5_0 t6_0).1 = 1 ∧ (F_DR_power_J26 x2 x3 x4 t0_0 t0_1 t0_2 t0_3 t0_4 t0_5 t0_6 t0_7 t0_8 t0_9 t0_10 t1_0 t2_0 t3_0 t4_0 t5_0 t6_0).2.2.2.2.2.2.2.2.2.2.2.1 = t1_0 ∧ (F_DR_power_J26 x2 x3 x4 t0_0 t0_1 t0_2 t0_3 t0_4 t0_5 t0_6 t0_7 t0_8 t0_9 t0_10 t1_0 t2_0 t3_0 t4_0 t5_0 t6_0).2.2.2.2.2.2.2.2.2.2.2.2.1 = t2_0 ∧ (F_DR_power_J26 x2 x3 x4 t0_0 t0_1 t0_2 t0_3 t0_4 t0_5 t0_6 t0_7 t0_8 t0_9 t0_10 t1_0 t2_0 t3_0 t4_0 t5_0 t6_0).2.2.2.2.2.2.2.2.2.2.2.2.2.1 = t3_0 ∧ (F_DR_power_J26 x2 x3 x4 t0_0 t0_1 t0_2 t0_3 t0_4 t0_5 t0_6 t0_7 t0_8 t0_9 t0_10 t1_0 t2_0 t3_0 t4_0 t5_0 t6_0).2.2.2.2.2.2.2.2.2.2.2.2.2.2.1 = t4_0 := by
  unfold F_DR_power_J26 F_DR_power_J31
  rw [if_neg (show ¬ (1 : Int32) ≤ 0 by decide)]
  exact ⟨rfl, rfl, rfl, rfl, rfl⟩
theorem y_dno_power {x2 : Int32} {x3 : Int32} {x4 : Int32} {t0_0 : Int32} {t0_1 : Int32} {t0_2 : Int32} {t0_3 : Int64} {t0_4 : Int32} {t0_5 : Int32} {t0_6 : Int32} {t0_7 : Int32} {t0_8 : Int32} {t0_9 : Int32} {t0_10 : Int32} {t1_0 : (Nat → Int32)} {t2_0 : (Nat → Int32)} {t3_0 : (Nat → Int32)} {t4_0 : (Nat → Int32)} {t5_0 : (Nat → Int32)} {t6_0 : (Nat → Int32)} (hn : ¬ (yReg x2 ∧ yReg x4 ∧ (0 ≤ x3.toInt ∧ x3.toInt ≤ 999))) : (F_DR_power x2 x3 x4 t0_0 t0_1 t0_2 t0_3 t0_4 t0_5 t0_6 t0_7 t0_8 t0_9 t0_10 t1_0 t2_0 t3_0 t4_0 t5_0 t6_0).1 = 1 ∧ (F_DR_power x2 x3 x4 t0_0 t0_1 t0_2 t0_3 t0_4 t0_5 t0_6 t0_7 t0_8 t0_9 t0_10 t1_0 t2_0 t3_0 t4_0 t5_0 t6_0).2.2.2.2.2.2.2.2.2.2.2.1 = t1_0 ∧ (F_DR_power x2 x3 x4 t0_0 t0_1 t0_2 t0_3 t0_4 t0_5 t0_6 t0_7 t0_8 t0_9 t0_10 t1_0 t2_0 t3_0 t4_0 t5_0 t6_0).2.2.2.2.2.2.2.2.2.2.2.2.1 = t2_0 ∧ (F_DR_power x2 x3 x4 t0_0 t0_1 t0_2 t0_3 t0_4 t0_5 t0_6 t0_7 t0_8 t0_9 t0_10 t1_0 t2_0 t3_0 t4_0 t5_0 t6_0).2.2.2.2.2.2.2.2.2.2.2.2.2.1 = t3_0 ∧ (F_DR_power x2 x3 x4 t0_0 t0_1 t0_2 t0_3 t0_4 t0_5 t0_6 t0_7 t0_8 t0_9 t0_10 t1_0 t2_0 t3_0 t4_0 t5_0 t6_0).2.2.2.2.2.2.2.2.2.2.2.2.2.2.1 = t4_0 := by
  have el : (0 : Int32).toInt = 0 := rfl
  have eh : (999 : Int32).toInt = 999 := rfl
  unfold F_DR_power
  by_cases c0 : F_DR_no x2 = 0
  · rw [if_pos c0]
    by_cases c1 : F_DR_no x4 = 0
    · rw [if_pos c1]
      by_cases cl : x3 < 0
      · rw [if_pos cl]
        exact y_dn_power
      · rw [if_neg cl]
        by_cases ch : x3 ≤ 999
        · have cl := q_nltI cl
          have ch := q_leI ch
          exact absurd ⟨g_no c0, g_no c1, by omega, by omega⟩ hn
        · rw [if_neg ch]
          exact y_dn_power
    · rw [if_neg c1]
      exact y_dn_power
  · rw [if_neg c0]
    exact y_dn_power
theorem y_mdno_divide {x2 : Int32} {x3 : Int32} {x4 : Int32} {x5 : Int32} {x6 : Int32} {t0_0 : Int32} {t0_1 : Int32} {t0_2 : Int32} {t1_0 : Int32} {t1_1 : Int32} {t1_2 : Int32} {t1_3 : Int64} {t1_4 : Int32} {t1_5 : Int32} {t1_6 : Int32} {t1_7 : Int32} {t1_8 : Int32} {t1_9 : Int32} {t1_10 : Int32} {t2_0 : (Nat → Int32)} {t3_0 : (Nat → Int32)} {t4_0 : (Nat → Int32)} {t5_0 : (Nat → Int32)} {t6_0 : (Nat → Int32)} {t7_0 : (Nat → Int32)} {t8_0 : (Nat → Int32)} (hn : ¬ (yReg x2 ∧ yReg x3 ∧ yReg x4 ∧ yMod x6 ∧ yScl x5)) : (F_NM_divide x2 x3 x4 x5 x6 t0_0 t0_1 t0_2 t1_0 t1_1 t1_2 t1_3 t1_4 t1_5 t1_6 t1_7 t1_8 t1_9 t1_10 t2_0 t3_0 t4_0 t5_0 t6_0 t7_0 t8_0).1 = 1 ∧ (F_NM_divide x2 x3 x4 x5 x6 t0_0 t0_1 t0_2 t1_0 t1_1 t1_2 t1_3 t1_4 t1_5 t1_6 t1_7 t1_8 t1_9 t1_10 t2_0 t3_0 t4_0 t5_0 t6_0 t7_0 t8_0).2.2.2.2.2.2.2.2.2.2.2.2.1 = t2_0 ∧ (F_NM_divide x2 x3 x4 x5 x6 t0_0 t0_1 t0_2 t1_0 t1_1 t1_2 t1_3 t1_4 t1_5 t1_6 t1_7 t1_8 t1_9 t1_10 t2_0 t3_0 t4_0 t5_0 t6_0 t7_0 t8_0).2.2.2.2.2.2.2.2.2.2.2.2.2.1 = t3_0 ∧ (F_NM_divide x2 x3 x4 x5 x6 t0_0 t0_1 t0_2 t1_0 t1_1 t1_2 t1_3 t1_4 t1_5 t1_6 t1_7 t1_8 t1_9 t1_10 t2_0 t3_0 t4_0 t5_0 t6_0 t7_0 t8_0).2.2.2.2.2.2.2.2.2.2.2.2.2.2.1 = t4_0 ∧ (F_NM_divide x2 x3 x4 x5 x6 t0_0 t0_1 t0_2 t1_0 t1_1 t1_2 t1_3 t1_4 t1_5 t1_6 t1_7 t1_8 t1_9 t1_10 t2_0 t3_0 t4_0 t5_0 t6_0 t7_0 t8_0).2.2.2.2.2.2.2.2.2.2.2.2.2.2.2.1 = t5_0 := by
  have h := y_dno_divide (x2 := x2) (x3 := x3) (x4 := x4) (x5 := x5) (x6 := x6) (t0_0 := t1_0) (t0_1 := t1_1) (t0_2 := t1_2) (t0_3 := t1_3) (t0_4 := t1_4) (t0_5 := t1_5) (t0_6 := t1_6) (t0_7 := t1_7) (t0_8 := t1_8) (t0_9 := t1_9) (t0_10 := t1_10) (t1_0 := t2_0) (t2_0 := t3_0) (t3_0 := t4_0) (t4_0 := t5_0) (t5_0 := t6_0) (t6_0 := t7_0) (t7_0 := t8_0) hn
  unfold F_NM_divide
  revert h
  generalize (F_DR_divide x2 x3 x4 x5 x6 t1_0 t1_1 t1_2 t1_3 t1_4 t1_5 t1_6 t1_7 t1_8 t1_9 t1_10 t2_0 t3_0 t4_0 t5_0 t6_0 t7_0 t8_0) = p
  intro h
  unfold F_NM_divide_c11
  exact h
theorem y_mdno_quotient {x2 : Int32} {x3 : Int32} {x4 : Int32} {x5 : Int32} {x6 : Int32} {t0_0 : Int32} {t0_1 : Int32} {t0_2 : Int32} {t1_0 : Int32} {t1_1 : Int32} {t1_2 : Int32} {t1_3 : Int64} {t1_4 : Int32} {t1_5 : Int32} {t1_6 : Int32} {t1_7 : Int32} {t1_8 : Int32} {t1_9 : Int32} {t1_10 : Int32} {t2_0 : (Nat → Int32)} {t3_0 : (Nat → Int32)} {t4_0 : (Nat → Int32)} {t5_0 : (Nat → Int32)} {t6_0 : (Nat → Int32)} {t7_0 : (Nat → Int32)} {t8_0 : (Nat → Int32)} (hn : ¬ (yReg x2 ∧ yReg x3 ∧ yReg x4 ∧ yMod x6 ∧ (0 ≤ x5.toInt ∧ x5.toInt ≤ 1000))) : (F_NM_quotient x2 x3 x4 x5 x6 t0_0 t0_1 t0_2 t1_0 t1_1 t1_2 t1_3 t1_4 t1_5 t1_6 t1_7 t1_8 t1_9 t1_10 t2_0 t3_0 t4_0 t5_0 t6_0 t7_0 t8_0).1 = 1 ∧ (F_NM_quotient x2 x3 x4 x5 x6 t0_0 t0_1 t0_2 t1_0 t1_1 t1_2 t1_3 t1_4 t1_5 t1_6 t1_7 t1_8 t1_9 t1_10 t2_0 t3_0 t4_0 t5_0 t6_0 t7_0 t8_0).2.2.2.2.2.2.2.2.2.2.2.2.1 = t2_0 ∧ (F_NM_quotient x2 x3 x4 x5 x6 t0_0 t0_1 t0_2 t1_0 t1_1 t1_2 t1_3 t1_4 t1_5 t1_6 t1_7 t1_8 t1_9 t1_10 t2_0 t3_0 t4_0 t5_0 t6_0 t7_0 t8_0).2.2.2.2.2.2.2.2.2.2.2.2.2.1 = t3_0 ∧ (F_NM_quotient x2 x3 x4 x5 x6 t0_0 t0_1 t0_2 t1_0 t1_1 t1_2 t1_3 t1_4 t1_5 t1_6 t1_7 t1_8 t1_9 t1_10 t2_0 t3_0 t4_0 t5_0 t6_0 t7_0 t8_0).2.2.2.2.2.2.2.2.2.2.2.2.2.2.1 = t4_0 ∧ (F_NM_quotient x2 x3 x4 x5 x6 t0_0 t0_1 t0_2 t1_0 t1_1 t1_2 t1_3 t1_4 t1_5 t1_6 t1_7 t1_8 t1_9 t1_10 t2_0 t3_0 t4_0 t5_0 t6_0 t7_0 t8_0).2.2.2.2.2.2.2.2.2.2.2.2.2.2.2.1 = t5_0 := by
  have h := y_dno_quotient (x2 := x2) (x3 := x3) (x4 := x4) (x5 := x5) (x6 := x6) (t0_0 := t1_0) (t0_1 := t1_1) (t0_2 := t1_2) (t0_3 := t1_3) (t0_4 := t1_4) (t0_5 := t1_5) (t0_6 := t1_6) (t0_7 := t1_7) (t0_8 := t1_8) (t0_9 := t1_9) (t0_10 := t1_10) (t1_0 := t2_0) (t2_0 := t3_0) (t3_0 := t4_0) (t4_0 := t5_0) (t5_0 := t6_0) (t6_0 := t7_0) (t7_0 := t8_0) hn
  unfold F_NM_quotient
  revert h
  generalize (F_DR_quotient x2 x3 x4 x5 x6 t1_0 t1_1 t1_2 t1_3 t1_4 t1_5 t1_6 t1_7 t1_8 t1_9 t1_10 t2_0 t3_0 t4_0 t5_0 t6_0 t7_0 t8_0) = p
  intro h
  unfold F_NM_quotient_c11
  exact h
theorem y_mdno_toScale {x2 : Int32} {x3 : Int32} {x4 : Int32} {x5 : Int32} {x6 : Int32} {t0_0 : Int32} {t0_1 : Int32} {t0_2 : Int32} {t1_0 : Int32} {t1_1 : Int32} {t1_2 : Int32} {t1_3 : Int64} {t1_4 : Int32} {t1_5 : Int32} {t1_6 : Int32} {t1_7 : Int32} {t1_8 : Int32} {t1_9 : Int32} {t1_10 : Int32} {t2_0 : (Nat → Int32)} {t3_0 : (Nat → Int32)} {t4_0 : (Nat → Int32)} {t5_0 : (Nat → Int32)} {t6_0 : (Nat → Int32)} {t7_0 : (Nat → Int32)} {t8_0 : (Nat → Int32)} {t9_0 : (Nat → Int32)} {lx47 : Int32} (h2 : x2 = 0) (hl : lx47 = 0) (hn : ¬ (yReg x3 ∧ yReg x4 ∧ yMod x6 ∧ yScl x5)) : (F_NM_shape_J15 x2 x3 x4 x5 x6 t0_0 t0_1 t0_2 t1_0 t1_1 t1_2 t1_3 t1_4 t1_5 t1_6 t1_7 t1_8 t1_9 t1_10 t2_0 t3_0 t4_0 t5_0 t6_0 t7_0 t8_0 t9_0 lx47).1 = 1 ∧ (F_NM_shape_J15 x2 x3 x4 x5 x6 t0_0 t0_1 t0_2 t1_0 t1_1 t1_2 t1_3 t1_4 t1_5 t1_6 t1_7 t1_8 t1_9 t1_10 t2_0 t3_0 t4_0 t5_0 t6_0 t7_0 t8_0 t9_0 lx47).2.2.2.2.2.2.2.2.2.2.2.2.1 = t2_0 ∧ (F_NM_shape_J15 x2 x3 x4 x5 x6 t0_0 t0_1 t0_2 t1_0 t1_1 t1_2 t1_3 t1_4 t1_5 t1_6 t1_7 t1_8 t1_9 t1_10 t2_0 t3_0 t4_0 t5_0 t6_0 t7_0 t8_0 t9_0 lx47).2.2.2.2.2.2.2.2.2.2.2.2.2.1 = t3_0 ∧ (F_NM_shape_J15 x2 x3 x4 x5 x6 t0_0 t0_1 t0_2 t1_0 t1_1 t1_2 t1_3 t1_4 t1_5 t1_6 t1_7 t1_8 t1_9 t1_10 t2_0 t3_0 t4_0 t5_0 t6_0 t7_0 t8_0 t9_0 lx47).2.2.2.2.2.2.2.2.2.2.2.2.2.2.1 = t4_0 ∧ (F_NM_shape_J15 x2 x3 x4 x5 x6 t0_0 t0_1 t0_2 t1_0 t1_1 t1_2 t1_3 t1_4 t1_5 t1_6 t1_7 t1_8 t1_9 t1_10 t2_0 t3_0 t4_0 t5_0 t6_0 t7_0 t8_0 t9_0 lx47).2.2.2.2.2.2.2.2.2.2.2.2.2.2.2.1 = t5_0 := by
  have h := y_dno_toScale (x2 := x3) (x3 := x4) (x4 := x5) (x5 := x6) (t0_0 := t1_0) (t0_1 := t1_1) (t0_2 := t1_2) (t0_3 := t1_3) (t0_4 := t1_4) (t0_5 := t1_5) (t0_6 := t1_6) (t0_7 := t1_7) (t0_8 := t1_8) (t0_9 := t1_9) (t0_10 := t1_10) (t1_0 := t2_0) (t2_0 := t3_0) (t3_0 := t4_0) (t4_0 := t5_0) (t5_0 := t6_0) hn
  unfold F_NM_shape_J15
  rw [if_pos (show lx47 ≤ 0 by rw [hl]; decide)]
  rw [if_pos h2]
  revert h
  generalize (F_DR_toScale x3 x4 x5 x6 t1_0 t1_1 t1_2 t1_3 t1_4 t1_5 t1_6 t1_7 t1_8 t1_9 t1_10 t2_0 t3_0 t4_0 t5_0 t6_0) = p
  intro h
  unfold F_NM_shape_c40
  exact h
theorem y_mdno_round {x2 : Int32} {x3 : Int32} {x4 : Int32} {x5 : Int32} {x6 : Int32} {t0_0 : Int32} {t0_1 : Int32} {t0_2 : Int32} {t1_0 : Int32} {t1_1 : Int32} {t1_2 : Int32} {t1_3 : Int64} {t1_4 : Int32} {t1_5 : Int32} {t1_6 : Int32} {t1_7 : Int32} {t1_8 : Int32} {t1_9 : Int32} {t1_10 : Int32} {t2_0 : (Nat → Int32)} {t3_0 : (Nat → Int32)} {t4_0 : (Nat → Int32)} {t5_0 : (Nat → Int32)} {t6_0 : (Nat → Int32)} {t7_0 : (Nat → Int32)} {t8_0 : (Nat → Int32)} {t9_0 : (Nat → Int32)} {lx47 : Int32} (h2 : x2 = 1) (hl : lx47 = 0) (hn : ¬ (yReg x3 ∧ yReg x4 ∧ yMod x6 ∧ (1 ≤ x5.toInt ∧ x5.toInt ≤ 1000))) : (F_NM_shape_J15 x2 x3 x4 x5 x6 t0_0 t0_1 t0_2 t1_0 t1_1 t1_2 t1_3 t1_4 t1_5 t1_6 t1_7 t1_8 t1_9 t1_10 t2_0 t3_0 t4_0 t5_0 t6_0 t7_0 t8_0 t9_0 lx47).1 = 1 ∧ (F_NM_shape_J15 x2 x3 x4 x5 x6 t0_0 t0_1 t0_2 t1_0 t1_1 t1_2 t1_3 t1_4 t1_5 t1_6 t1_7 t1_8 t1_9 t1_10 t2_0 t3_0 t4_0 t5_0 t6_0 t7_0 t8_0 t9_0 lx47).2.2.2.2.2.2.2.2.2.2.2.2.1 = t2_0 ∧ (F_NM_shape_J15 x2 x3 x4 x5 x6 t0_0 t0_1 t0_2 t1_0 t1_1 t1_2 t1_3 t1_4 t1_5 t1_6 t1_7 t1_8 t1_9 t1_10 t2_0 t3_0 t4_0 t5_0 t6_0 t7_0 t8_0 t9_0 lx47).2.2.2.2.2.2.2.2.2.2.2.2.2.1 = t3_0 ∧ (F_NM_shape_J15 x2 x3 x4 x5 x6 t0_0 t0_1 t0_2 t1_0 t1_1 t1_2 t1_3 t1_4 t1_5 t1_6 t1_7 t1_8 t1_9 t1_10 t2_0 t3_0 t4_0 t5_0 t6_0 t7_0 t8_0 t9_0 lx47).2.2.2.2.2.2.2.2.2.2.2.2.2.2.1 = t4_0 ∧ (F_NM_shape_J15 x2 x3 x4 x5 x6 t0_0 t0_1 t0_2 t1_0 t1_1 t1_2 t1_3 t1_4 t1_5 t1_6 t1_7 t1_8 t1_9 t1_10 t2_0 t3_0 t4_0 t5_0 t6_0 t7_0 t8_0 t9_0 lx47).2.2.2.2.2.2.2.2.2.2.2.2.2.2.2.1 = t5_0 := by
  have h := y_dno_round (x2 := x3) (x3 := x4) (x4 := x5) (x5 := x6) (t0_0 := t1_0) (t0_1 := t1_1) (t0_2 := t1_2) (t0_3 := t1_3) (t0_4 := t1_4) (t0_5 := t1_5) (t0_6 := t1_6) (t0_7 := t1_7) (t0_8 := t1_8) (t0_9 := t1_9) (t0_10 := t1_10) (t1_0 := t2_0) (t2_0 := t3_0) (t3_0 := t4_0) (t4_0 := t5_0) (t5_0 := t6_0) hn
  unfold F_NM_shape_J15
  rw [if_pos (show lx47 ≤ 0 by rw [hl]; decide)]
  rw [if_neg (show ¬ x2 = 0 by rw [h2]; decide), if_pos h2]
  revert h
  generalize (F_DR_round x3 x4 x5 x6 t1_0 t1_1 t1_2 t1_3 t1_4 t1_5 t1_6 t1_7 t1_8 t1_9 t1_10 t2_0 t3_0 t4_0 t5_0 t6_0) = p
  intro h
  unfold F_NM_shape_c61
  exact h
theorem y_mdno_root {x2 : Int32} {x3 : Int32} {x4 : Int32} {x5 : Int32} {x6 : Int32} {t0_0 : Int32} {t0_1 : Int32} {t0_2 : Int32} {t1_0 : Int32} {t1_1 : Int32} {t1_2 : Int32} {t1_3 : Int64} {t1_4 : Int32} {t1_5 : Int32} {t1_6 : Int32} {t1_7 : Int32} {t1_8 : Int32} {t1_9 : Int32} {t1_10 : Int32} {t2_0 : (Nat → Int32)} {t3_0 : (Nat → Int32)} {t4_0 : (Nat → Int32)} {t5_0 : (Nat → Int32)} {t6_0 : (Nat → Int32)} {t7_0 : (Nat → Int32)} {t8_0 : (Nat → Int32)} {t9_0 : (Nat → Int32)} {lx47 : Int32} (h2 : x2 = 2) (hl : lx47 = 0) (hn : ¬ (yReg x3 ∧ yReg x4 ∧ yMod x6 ∧ (1 ≤ x5.toInt ∧ x5.toInt ≤ 1000))) : (F_NM_shape_J15 x2 x3 x4 x5 x6 t0_0 t0_1 t0_2 t1_0 t1_1 t1_2 t1_3 t1_4 t1_5 t1_6 t1_7 t1_8 t1_9 t1_10 t2_0 t3_0 t4_0 t5_0 t6_0 t7_0 t8_0 t9_0 lx47).1 = 1 ∧ (F_NM_shape_J15 x2 x3 x4 x5 x6 t0_0 t0_1 t0_2 t1_0 t1_1 t1_2 t1_3 t1_4 t1_5 t1_6 t1_7 t1_8 t1_9 t1_10 t2_0 t3_0 t4_0 t5_0 t6_0 t7_0 t8_0 t9_0 lx47).2.2.2.2.2.2.2.2.2.2.2.2.1 = t2_0 ∧ (F_NM_shape_J15 x2 x3 x4 x5 x6 t0_0 t0_1 t0_2 t1_0 t1_1 t1_2 t1_3 t1_4 t1_5 t1_6 t1_7 t1_8 t1_9 t1_10 t2_0 t3_0 t4_0 t5_0 t6_0 t7_0 t8_0 t9_0 lx47).2.2.2.2.2.2.2.2.2.2.2.2.2.1 = t3_0 ∧ (F_NM_shape_J15 x2 x3 x4 x5 x6 t0_0 t0_1 t0_2 t1_0 t1_1 t1_2 t1_3 t1_4 t1_5 t1_6 t1_7 t1_8 t1_9 t1_10 t2_0 t3_0 t4_0 t5_0 t6_0 t7_0 t8_0 t9_0 lx47).2.2.2.2.2.2.2.2.2.2.2.2.2.2.1 = t4_0 ∧ (F_NM_shape_J15 x2 x3 x4 x5 x6 t0_0 t0_1 t0_2 t1_0 t1_1 t1_2 t1_3 t1_4 t1_5 t1_6 t1_7 t1_8 t1_9 t1_10 t2_0 t3_0 t4_0 t5_0 t6_0 t7_0 t8_0 t9_0 lx47).2.2.2.2.2.2.2.2.2.2.2.2.2.2.2.1 = t5_0 := by
  have h := y_dno_root (x2 := x3) (x3 := x4) (x4 := x5) (x5 := x6) (t0_0 := t1_0) (t0_1 := t1_1) (t0_2 := t1_2) (t0_3 := t1_3) (t0_4 := t1_4) (t0_5 := t1_5) (t0_6 := t1_6) (t0_7 := t1_7) (t0_8 := t1_8) (t0_9 := t1_9) (t0_10 := t1_10) (t1_0 := t2_0) (t2_0 := t3_0) (t3_0 := t4_0) (t4_0 := t5_0) (t5_0 := t6_0) (t6_0 := t7_0) (t7_0 := t8_0) (t8_0 := t9_0) hn
  unfold F_NM_shape_J15
  rw [if_pos (show lx47 ≤ 0 by rw [hl]; decide)]
  rw [if_neg (show ¬ x2 = 0 by rw [h2]; decide), if_neg (show ¬ x2 = 1 by rw [h2]; decide)]
  revert h
  generalize (F_DR_root x3 x4 x5 x6 t1_0 t1_1 t1_2 t1_3 t1_4 t1_5 t1_6 t1_7 t1_8 t1_9 t1_10 t2_0 t3_0 t4_0 t5_0 t6_0 t7_0 t8_0 t9_0) = p
  intro h
  unfold F_NM_shape_c77
  exact h
theorem y_mdno_power {x2 : Int32} {x3 : Int32} {x4 : Int32} {x5 : Int32} {t0_0 : Int32} {t0_1 : Int32} {t0_2 : Int32} {t1_0 : Int32} {t1_1 : Int32} {t1_2 : Int32} {t1_3 : Int64} {t1_4 : Int32} {t1_5 : Int32} {t1_6 : Int32} {t1_7 : Int32} {t1_8 : Int32} {t1_9 : Int32} {t1_10 : Int32} {t2_0 : (Nat → Int32)} {t3_0 : (Nat → Int32)} {t4_0 : (Nat → Int32)} {t5_0 : (Nat → Int32)} {t6_0 : (Nat → Int32)} {t7_0 : (Nat → Int32)} {lx41 : Int32} (h2 : x2 = 0) (hl : lx41 = 0) (hn : ¬ (yReg x3 ∧ yReg x5 ∧ (0 ≤ x4.toInt ∧ x4.toInt ≤ 999))) : (F_NM_decimalBy_J30 x2 x3 x4 x5 t0_0 t0_1 t0_2 t1_0 t1_1 t1_2 t1_3 t1_4 t1_5 t1_6 t1_7 t1_8 t1_9 t1_10 t2_0 t3_0 t4_0 t5_0 t6_0 t7_0 lx41).1 = 1 ∧ (F_NM_decimalBy_J30 x2 x3 x4 x5 t0_0 t0_1 t0_2 t1_0 t1_1 t1_2 t1_3 t1_4 t1_5 t1_6 t1_7 t1_8 t1_9 t1_10 t2_0 t3_0 t4_0 t5_0 t6_0 t7_0 lx41).2.2.2.2.2.2.2.2.2.2.2.2.1 = t2_0 ∧ (F_NM_decimalBy_J30 x2 x3 x4 x5 t0_0 t0_1 t0_2 t1_0 t1_1 t1_2 t1_3 t1_4 t1_5 t1_6 t1_7 t1_8 t1_9 t1_10 t2_0 t3_0 t4_0 t5_0 t6_0 t7_0 lx41).2.2.2.2.2.2.2.2.2.2.2.2.2.1 = t3_0 ∧ (F_NM_decimalBy_J30 x2 x3 x4 x5 t0_0 t0_1 t0_2 t1_0 t1_1 t1_2 t1_3 t1_4 t1_5 t1_6 t1_7 t1_8 t1_9 t1_10 t2_0 t3_0 t4_0 t5_0 t6_0 t7_0 lx41).2.2.2.2.2.2.2.2.2.2.2.2.2.2.1 = t4_0 ∧ (F_NM_decimalBy_J30 x2 x3 x4 x5 t0_0 t0_1 t0_2 t1_0 t1_1 t1_2 t1_3 t1_4 t1_5 t1_6 t1_7 t1_8 t1_9 t1_10 t2_0 t3_0 t4_0 t5_0 t6_0 t7_0 lx41).2.2.2.2.2.2.2.2.2.2.2.2.2.2.2.1 = t5_0 := by
  have h := y_dno_power (x2 := x3) (x3 := x4) (x4 := x5) (t0_0 := t1_0) (t0_1 := t1_1) (t0_2 := t1_2) (t0_3 := t1_3) (t0_4 := t1_4) (t0_5 := t1_5) (t0_6 := t1_6) (t0_7 := t1_7) (t0_8 := t1_8) (t0_9 := t1_9) (t0_10 := t1_10) (t1_0 := t2_0) (t2_0 := t3_0) (t3_0 := t4_0) (t4_0 := t5_0) (t5_0 := t6_0) (t6_0 := t7_0) hn
  unfold F_NM_decimalBy_J30
  rw [if_pos (show lx41 ≤ 0 by rw [hl]; decide)]
  rw [if_pos h2]
  revert h
  generalize (F_DR_power x3 x4 x5 t1_0 t1_1 t1_2 t1_3 t1_4 t1_5 t1_6 t1_7 t1_8 t1_9 t1_10 t2_0 t3_0 t4_0 t5_0 t6_0 t7_0) = p
  intro h
  unfold F_NM_decimalBy_c53
  exact h
theorem y_mno_shape {x2 : Int32} {x3 : Int32} {x4 : Int32} {x5 : Int32} {x6 : Int32} {t0_0 : Int32} {t0_1 : Int32} {t0_2 : Int32} {t1_0 : Int32} {t1_1 : Int32} {t1_2 : Int32} {t1_3 : Int64} {t1_4 : Int32} {t1_5 : Int32} {t1_6 : Int32} {t1_7 : Int32} {t1_8 : Int32} {t1_9 : Int32} {t1_10 : Int32} {t2_0 : (Nat → Int32)} {t3_0 : (Nat → Int32)} {t4_0 : (Nat → Int32)} {t5_0 : (Nat → Int32)} {t6_0 : (Nat → Int32)} {t7_0 : (Nat → Int32)} {t8_0 : (Nat → Int32)} {t9_0 : (Nat → Int32)}  : (F_NM_shape_J10 x2 x3 x4 x5 x6 t0_0 t0_1 t0_2 t1_0 t1_1 t1_2 t1_3 t1_4 t1_5 t1_6 t1_7 t1_8 t1_9 t1_10 t2_0 t3_0 t4_0 t5_0 t6_0 t7_0 t8_0 t9_0).1 = 1 ∧ (F_NM_shape_J10 x2 x3 x4 x5 x6 t0_0 t0_1 t0_2 t1_0 t1_1 t1_2 t1_3 t1_4 t1_5 t1_6 t1_7 t1_8 t1_9 t1_10 t2_0 t3_0 t4_0 t5_0 t6_0 t7_0 t8_0 t9_0).2.2.2.2.2.2.2.2.2.2.2.2.1 = t2_0 ∧ (F_NM_shape_J10 x2 x3 x4 x5 x6 t0_0 t0_1 t0_2 t1_0 t1_1 t1_2 t1_3 t1_4 t1_5 t1_6 t1_7 t1_8 t1_9 t1_10 t2_0 t3_0 t4_0 t5_0 t6_0 t7_0 t8_0 t9_0).2.2.2.2.2.2.2.2.2.2.2.2.2.1 = t3_0 ∧ (F_NM_shape_J10 x2 x3 x4 x5 x6 t0_0 t0_1 t0_2 t1_0 t1_1 t1_2 t1_3 t1_4 t1_5 t1_6 t1_7 t1_8 t1_9 t1_10 t2_0 t3_0 t4_0 t5_0 t6_0 t7_0 t8_0 t9_0).2.2.2.2.2.2.2.2.2.2.2.2.2.2.1 = t4_0 ∧ (F_NM_shape_J10 x2 x3 x4 x5 x6 t0_0 t0_1 t0_2 t1_0 t1_1 t1_2 t1_3 t1_4 t1_5 t1_6 t1_7 t1_8 t1_9 t1_10 t2_0 t3_0 t4_0 t5_0 t6_0 t7_0 t8_0 t9_0).2.2.2.2.2.2.2.2.2.2.2.2.2.2.2.1 = t5_0 := by
  unfold F_NM_shape_J10 F_NM_shape_J15
  rw [if_neg (show ¬ (1 : Int32) ≤ 0 by decide)]
  exact ⟨rfl, rfl, rfl, rfl, rfl⟩
theorem y_mtop_shape {x2 : Int32} {x3 : Int32} {x4 : Int32} {x5 : Int32} {x6 : Int32} {t0_0 : Int32} {t0_1 : Int32} {t0_2 : Int32} {t1_0 : Int32} {t1_1 : Int32} {t1_2 : Int32} {t1_3 : Int64} {t1_4 : Int32} {t1_5 : Int32} {t1_6 : Int32} {t1_7 : Int32} {t1_8 : Int32} {t1_9 : Int32} {t1_10 : Int32} {t2_0 : (Nat → Int32)} {t3_0 : (Nat → Int32)} {t4_0 : (Nat → Int32)} {t5_0 : (Nat → Int32)} {t6_0 : (Nat → Int32)} {t7_0 : (Nat → Int32)} {t8_0 : (Nat → Int32)} {t9_0 : (Nat → Int32)}  : ((x2 = 0 ∨ x2 = 1 ∨ x2 = 2) ∧ (F_NM_shape x2 x3 x4 x5 x6 t0_0 t0_1 t0_2 t1_0 t1_1 t1_2 t1_3 t1_4 t1_5 t1_6 t1_7 t1_8 t1_9 t1_10 t2_0 t3_0 t4_0 t5_0 t6_0 t7_0 t8_0 t9_0) = F_NM_shape_J15 x2 x3 x4 x5 x6 t0_0 t0_1 t0_2 t1_0 t1_1 t1_2 t1_3 t1_4 t1_5 t1_6 t1_7 t1_8 t1_9 t1_10 t2_0 t3_0 t4_0 t5_0 t6_0 t7_0 t8_0 t9_0 0) ∨ (¬ (x2 = 0 ∨ x2 = 1 ∨ x2 = 2) ∧ (F_NM_shape x2 x3 x4 x5 x6 t0_0 t0_1 t0_2 t1_0 t1_1 t1_2 t1_3 t1_4 t1_5 t1_6 t1_7 t1_8 t1_9 t1_10 t2_0 t3_0 t4_0 t5_0 t6_0 t7_0 t8_0 t9_0).1 = 1 ∧ (F_NM_shape x2 x3 x4 x5 x6 t0_0 t0_1 t0_2 t1_0 t1_1 t1_2 t1_3 t1_4 t1_5 t1_6 t1_7 t1_8 t1_9 t1_10 t2_0 t3_0 t4_0 t5_0 t6_0 t7_0 t8_0 t9_0).2.2.2.2.2.2.2.2.2.2.2.2.1 = t2_0 ∧ (F_NM_shape x2 x3 x4 x5 x6 t0_0 t0_1 t0_2 t1_0 t1_1 t1_2 t1_3 t1_4 t1_5 t1_6 t1_7 t1_8 t1_9 t1_10 t2_0 t3_0 t4_0 t5_0 t6_0 t7_0 t8_0 t9_0).2.2.2.2.2.2.2.2.2.2.2.2.2.1 = t3_0 ∧ (F_NM_shape x2 x3 x4 x5 x6 t0_0 t0_1 t0_2 t1_0 t1_1 t1_2 t1_3 t1_4 t1_5 t1_6 t1_7 t1_8 t1_9 t1_10 t2_0 t3_0 t4_0 t5_0 t6_0 t7_0 t8_0 t9_0).2.2.2.2.2.2.2.2.2.2.2.2.2.2.1 = t4_0 ∧ (F_NM_shape x2 x3 x4 x5 x6 t0_0 t0_1 t0_2 t1_0 t1_1 t1_2 t1_3 t1_4 t1_5 t1_6 t1_7 t1_8 t1_9 t1_10 t2_0 t3_0 t4_0 t5_0 t6_0 t7_0 t8_0 t9_0).2.2.2.2.2.2.2.2.2.2.2.2.2.2.2.1 = t5_0) := by
  have e0 : (0 : Int32).toInt = 0 := rfl
  have e1 : (1 : Int32).toInt = 1 := rfl
  have e2 : (2 : Int32).toInt = 2 := rfl
  unfold F_NM_shape
  by_cases c1 : x2 < 0
  · rw [if_pos c1]
    have c1 := q_ltI c1
    refine Or.inr ⟨fun h => ?_, y_mno_shape⟩
    rcases h with h | h | h <;> rw [h] at c1 <;> omega
  · rw [if_neg c1]
    by_cases c2 : x2 ≤ 2
    · rw [if_pos c2]
      have c1 := q_nltI c1
      have c2 := q_leI c2
      refine Or.inl ⟨?_, rfl⟩
      have : x2.toInt = 0 ∨ x2.toInt = 1 ∨ x2.toInt = 2 := by omega
      rcases this with h | h | h
      · exact Or.inl (Int32.toInt.inj (by rw [h, e0]))
      · exact Or.inr (Or.inl (Int32.toInt.inj (by rw [h, e1])))
      · exact Or.inr (Or.inr (Int32.toInt.inj (by rw [h, e2])))
    · rw [if_neg c2]
      have c2 := q_nleI c2
      refine Or.inr ⟨fun h => ?_, y_mno_shape⟩
      rcases h with h | h | h <;> rw [h] at c2 <;> omega
