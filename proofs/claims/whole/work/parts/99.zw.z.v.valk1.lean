/-! told with arguments it does not take -/
theorem V_NH_toldN {x2 : Int32} {x3 : Int32} {x4 : Int32} {t0_0 : Int32} {t0_1 : Int32} {t1_0 : (Nat → Int32)} {t2_0 : Int32} {t2_1 : Int32} {t3_0 : (Nat → Int32)} {t4_0 : (Nat → Int64)} {t5_0 : (Nat → Int64)} {t6_0 : Int32} {t6_1 : Int32} {t7_0 : (Nat → Int32)} {t8_0 : Int32} {t8_1 : Int32} {t9_0 : (Nat → Int32)} {t10_0 : Int32} {t10_1 : Int32} {t11_0 : (Nat → Int32)} {t12_0 : Int32} {t12_1 : Int32} {t13_0 : (Nat → Int32)} {t14_0 : Int64} {t14_1 : Int32} {t14_2 : Int32} {t15_0 : Int64} {t15_1 : Int32} {t15_2 : Int32} {t16_0 : Int32} {t16_1 : Int32} {t17_0 : (Nat → Int32)} {t18_0 : Int32} {t18_1 : Int32} {t19_0 : Int32} {t19_1 : Int32} {t20_0 : (Nat → Int32)} (h : ¬ ((0 ≤ x2.toInt ∧ x2.toInt ≤ 3) ∧ yReg x3)) : (F_NH_told x2 x3 x4 t0_0 t0_1 t1_0 t2_0 t2_1 t3_0 t4_0 t5_0 t6_0 t6_1 t7_0 t8_0 t8_1 t9_0 t10_0 t10_1 t11_0 t12_0 t12_1 t13_0 t14_0 t14_1 t14_2 t15_0 t15_1 t15_2 t16_0 t16_1 t17_0 t18_0 t18_1 t19_0 t19_1 t20_0).1 = 1 := by
  unfold F_NH_told
  rcases y_needR (x := x2) (y := x3) with ⟨r, k⟩ | ⟨r, k⟩
  · exact absurd k h
  · rw [if_neg (show ¬ F_NH_needRegister x2 x3 = 0 by rw [r]; decide)]
    exact r
theorem V_NM_toldN {x2 : Int32} {x3 : Int32} {x4 : Int32} {t0_0 : Int32} {t0_1 : Int32} {t0_2 : Int32} {t1_0 : Int32} {t1_1 : Int32} {t1_2 : Int32} {t1_3 : Int32} {t1_4 : Int32} {t1_5 : Int32} {t1_6 : Int32} {t2_0 : (Nat → Int32)} {t3_0 : (Nat → Int32)} {t4_0 : Int32} {t4_1 : Int32} {t4_2 : Int32} {t4_3 : Int64} {t4_4 : Int32} {t4_5 : Int32} {t4_6 : Int32} {t4_7 : Int32} {t4_8 : Int32} {t4_9 : Int32} {t4_10 : Int32} {t5_0 : (Nat → Int32)} {t6_0 : (Nat → Int32)} {t7_0 : (Nat → Int32)} {t8_0 : (Nat → Int32)} {t9_0 : Int32} {t9_1 : Int32} {t9_2 : Int32} {t9_3 : Int32} {t9_4 : Int64} {t9_5 : Int32} {t9_6 : Int32} {t9_7 : Int64} {t9_8 : Int32} {t9_9 : Int64} {t9_10 : Int32} {t10_0 : (Nat → Int32)} {t11_0 : (Nat → Int32)} {t12_0 : (Nat → Int32)} {t13_0 : (Nat → Int32)} {t14_0 : (Nat → Int32)} {t15_0 : (Nat → Int32)} {t16_0 : (Nat → Int64)} (h : ¬ ((0 ≤ x2.toInt ∧ x2.toInt ≤ 3) ∧ yReg x3)) : (F_NM_told x2 x3 x4 t0_0 t0_1 t0_2 t1_0 t1_1 t1_2 t1_3 t1_4 t1_5 t1_6 t2_0 t3_0 t4_0 t4_1 t4_2 t4_3 t4_4 t4_5 t4_6 t4_7 t4_8 t4_9 t4_10 t5_0 t6_0 t7_0 t8_0 t9_0 t9_1 t9_2 t9_3 t9_4 t9_5 t9_6 t9_7 t9_8 t9_9 t9_10 t10_0 t11_0 t12_0 t13_0 t14_0 t15_0 t16_0).2.1 = 1 := by
  unfold F_NM_told
  rcases y_noII (x := x2) (y := x3) with ⟨r, k⟩ | ⟨r, k⟩
  · exact absurd k h
  · rw [if_neg (show ¬ F_NM_no_IIZ x2 x3 = 0 by rw [r]; decide)]
    unfold F_NM_told_J13 F_NM_told_J18
    rw [if_neg (show ¬ (1 : Int32) ≤ 0 by decide)]
