/-! values, for whole: quotient, as a call of the class -/
theorem V_NH_quotientK {x2 : Int32} {x3 : Int32} {x4 : Int32} {x5 : Int32} {x6 : Int32} {t0_0 : Int64} {t0_1 : Int32} {t1_0 : Int32} {t1_1 : Int32} {t2_0 : (Nat → Int32)} {t3_0 : Int32} {t3_1 : Int32} {t4_0 : (Nat → Int32)} {t5_0 : Int32} {t5_1 : Int32} {t6_0 : (Nat → Int32)} {t7_0 : Int32} {t7_1 : Int32} {t8_0 : (Nat → Int32)} {t9_0 : Int32} {t9_1 : Int32} {t10_0 : Int32} {t10_1 : Int32} {t11_0 : (Nat → Int32)} {t12_0 : Int32} {t12_1 : Int32} {t13_0 : Int32} {t13_1 : Int32} {t14_0 : (Nat → Int32)} {t15_0 : Int32} {t15_1 : Int32} {t16_0 : Int32} {t16_1 : Int32} {t17_0 : (Nat → Int32)} {lx83 : Int32} {lx119 : Int32} {qa qb qt : Int × Int} (ha : dP 108 t10_0 t10_1 t11_0 t9_0 t9_1 qa) (hb : dP 108 t13_0 t13_1 t14_0 t12_0 t12_1 qb) (ht : dP 108 t16_0 t16_1 t17_0 t15_0 t15_1 qt) (h5 : 0 ≤ x5.toInt ∧ x5.toInt ≤ 1000) (h6 : 0 ≤ x6.toInt ∧ x6.toInt ≤ 7) (hl : lx119 = 1) : ∃ o, sQ (qP x5) (qM x5 x6) qa qb o ∧ cDn o qt (F_NH_quotient_J55 x2 x3 x4 x5 x6 t0_0 t0_1 t1_0 t1_1 t2_0 t3_0 t3_1 t4_0 t5_0 t5_1 t6_0 t7_0 t7_1 t8_0 t9_0 t9_1 t10_0 t10_1 t11_0 t12_0 t12_1 t13_0 t13_1 t14_0 t15_0 t15_1 t16_0 t16_1 t17_0 lx83 lx119).1 (F_NH_quotient_J55 x2 x3 x4 x5 x6 t0_0 t0_1 t1_0 t1_1 t2_0 t3_0 t3_1 t4_0 t5_0 t5_1 t6_0 t7_0 t7_1 t8_0 t9_0 t9_1 t10_0 t10_1 t11_0 t12_0 t12_1 t13_0 t13_1 t14_0 t15_0 t15_1 t16_0 t16_1 t17_0 lx83 lx119).2.2.2.2.2.2.2.2.2.2.2.2.2.2.2.2.2.2.2.2.1 (F_NH_quotient_J55 x2 x3 x4 x5 x6 t0_0 t0_1 t1_0 t1_1 t2_0 t3_0 t3_1 t4_0 t5_0 t5_1 t6_0 t7_0 t7_1 t8_0 t9_0 t9_1 t10_0 t10_1 t11_0 t12_0 t12_1 t13_0 t13_1 t14_0 t15_0 t15_1 t16_0 t16_1 t17_0 lx83 lx119).2.2.2.2.2.2.2.2.2.2.2.2.2.2.2.2.2.2.2.2.2.1 (F_NH_quotient_J55 x2 x3 x4 x5 x6 t0_0 t0_1 t1_0 t1_1 t2_0 t3_0 t3_1 t4_0 t5_0 t5_1 t6_0 t7_0 t7_1 t8_0 t9_0 t9_1 t10_0 t10_1 t11_0 t12_0 t12_1 t13_0 t13_1 t14_0 t15_0 t15_1 t16_0 t16_1 t17_0 lx83 lx119).2.2.2.2.2.2.2.2.2.2.2.2.2.2.2.2.2.2.2.2.2.2 (F_NH_quotient_J55 x2 x3 x4 x5 x6 t0_0 t0_1 t1_0 t1_1 t2_0 t3_0 t3_1 t4_0 t5_0 t5_1 t6_0 t7_0 t7_1 t8_0 t9_0 t9_1 t10_0 t10_1 t11_0 t12_0 t12_1 t13_0 t13_1 t14_0 t15_0 t15_1 t16_0 t16_1 t17_0 lx83 lx119).2.2.2.2.2.2.2.2.2.2.2.2.2.2.2.2.2.2.1 (F_NH_quotient_J55 x2 x3 x4 x5 x6 t0_0 t0_1 t1_0 t1_1 t2_0 t3_0 t3_1 t4_0 t5_0 t5_1 t6_0 t7_0 t7_1 t8_0 t9_0 t9_1 t10_0 t10_1 t11_0 t12_0 t12_1 t13_0 t13_1 t14_0 t15_0 t15_1 t16_0 t16_1 t17_0 lx83 lx119).2.2.2.2.2.2.2.2.2.2.2.2.2.2.2.2.2.2.2.1 ∧ bO 108 (F_NH_quotient_J55 x2 x3 x4 x5 x6 t0_0 t0_1 t1_0 t1_1 t2_0 t3_0 t3_1 t4_0 t5_0 t5_1 t6_0 t7_0 t7_1 t8_0 t9_0 t9_1 t10_0 t10_1 t11_0 t12_0 t12_1 t13_0 t13_1 t14_0 t15_0 t15_1 t16_0 t16_1 t17_0 lx83 lx119).2.2.2.2.2.2.2.2.2.2.2.2.2.2.2.1 (F_NH_quotient_J55 x2 x3 x4 x5 x6 t0_0 t0_1 t1_0 t1_1 t2_0 t3_0 t3_1 t4_0 t5_0 t5_1 t6_0 t7_0 t7_1 t8_0 t9_0 t9_1 t10_0 t10_1 t11_0 t12_0 t12_1 t13_0 t13_1 t14_0 t15_0 t15_1 t16_0 t16_1 t17_0 lx83 lx119).2.2.2.2.2.2.2.2.2.2.2.2.2.2.2.2.1 (F_NH_quotient_J55 x2 x3 x4 x5 x6 t0_0 t0_1 t1_0 t1_1 t2_0 t3_0 t3_1 t4_0 t5_0 t5_1 t6_0 t7_0 t7_1 t8_0 t9_0 t9_1 t10_0 t10_1 t11_0 t12_0 t12_1 t13_0 t13_1 t14_0 t15_0 t15_1 t16_0 t16_1 t17_0 lx83 lx119).2.2.2.2.2.2.2.2.2.2.2.2.2.2.2.2.2.1 qb.1 := by
  have n1 : F_NH_need lx119 = 0 := by rw [hl]; decide
  unfold F_NH_quotient_J55
  rw [if_pos n1]
  by_cases c4 : t13_0 ≤ 0
  · rw [if_pos c4]
    unfold F_NH_quotient_J78
    rw [if_neg (show ¬ F_NH_canHave 0 = 0 by decide)]
    exact ⟨none, Or.inl ⟨(y_sizeP hb.1).mp c4, rfl⟩, Or.inr ⟨Or.inl rfl, y_ch2, ht⟩, hb.1⟩
  · rw [if_neg c4]
    unfold F_NH_quotient_J78
    rw [if_pos y_ch1]
    have hv : qb.1 ≠ 0 := fun h => c4 ((y_sizeP hb.1).mpr h)
    obtain ⟨o, ho, dv⟩ := V_DW_divideToPrecision (x4 := x5) (x5 := x6) (t0_0 := t0_0) (t0_1 := t0_1) (t1_0 := t1_0) (t1_1 := t1_1) (t2_0 := t2_0) (t3_0 := t3_0) (t3_1 := t3_1) (t4_0 := t4_0) (t5_0 := t5_0) (t5_1 := t5_1) (t6_0 := t6_0) (t7_0 := t7_0) (t7_1 := t7_1) (t8_0 := t8_0) ha hb hv h5 h6 trivial
    have m4 := (T_divideToPrecision (x4 := x5) (x5 := x6) (t0_0 := t0_0) (t0_1 := t0_1) (t1_0 := t1_0) (t1_1 := t1_1) (t2_0 := t2_0) (t3_0 := t3_0) (t3_1 := t3_1) (t4_0 := t4_0) (t5_0 := t5_0) (t5_1 := t5_1) (t6_0 := t6_0) (t7_0 := t7_0) (t7_1 := t7_1) (t8_0 := t8_0) ha.O hb.O hv h5.1 h5.2 trivial trivial trivial).2.2
    generalize F_DW_divideToPrecision 108 108 x5 x6 t0_0 t0_1 t1_0 t1_1 t2_0 t3_0 t3_1 t4_0 t5_0 t5_1 t6_0 t7_0 t7_1 t8_0 t9_0 t9_1 t10_0 t10_1 t11_0 t12_0 t12_1 t13_0 t13_1 t14_0 = p270 at dv m4 ⊢
    have m5 : dP 108 p270.2.2.2.2.2.2.2.2.2.2.2.2.2.2.2.1 p270.2.2.2.2.2.2.2.2.2.2.2.2.2.2.2.2.1 p270.2.2.2.2.2.2.2.2.2.2.2.2.2.2.2.2.2 t12_0 t12_1 qb := ⟨m4.2.2.2.2, hb.2⟩
    unfold F_NH_quotient_c101
    rcases dv with ⟨s1, s2⟩ | ⟨s1, q, s2, s3, s4, s5⟩
    · rw [s1, if_neg (show ¬ F_NH_canHave 0 = 0 by decide)]
      exact ⟨o, ho, Or.inr ⟨Or.inl s2, y_ch2, ht⟩, m5.1⟩
    · rw [s1, if_pos y_ch1]
      have kd := V_keepDecimal (x2 := x4) (t0_0 := p270.2.1) (t0_1 := p270.2.2.1) (t3_0 := p270.2.2.2.2.2.2.2.2.2.2.2.2.1) (t3_1 := p270.2.2.2.2.2.2.2.2.2.2.2.2.2.1) (t4_0 := p270.2.2.2.2.2.2.2.2.2.2.2.2.2.2.1) s4 s5 (by decide) trivial ht
      rw [s3] at kd
      generalize F_NH_keepDecimal x4 p270.2.1 p270.2.2.1 p270.2.2.2.1 p270.2.2.2.2.1 p270.2.2.2.2.2.1 p270.2.2.2.2.2.2.2.2.2.2.2.2.1 p270.2.2.2.2.2.2.2.2.2.2.2.2.2.1 p270.2.2.2.2.2.2.2.2.2.2.2.2.2.2.1 t15_0 t15_1 t16_0 t16_1 t17_0 = p325 at kd ⊢
      refine ⟨o, ho, ?_⟩
      rw [s2]
      unfold F_NH_quotient_c109
      by_cases z : p325.1 = 0
      · rw [if_pos z]
        rw [z] at kd
        exact ⟨kd, m5.1⟩
      · rw [if_neg z]
        exact ⟨kd, m5.1⟩
theorem V_NH_quotientK_bt {x2 : Int32} {x3 : Int32} {x4 : Int32} {x5 : Int32} {x6 : Int32} {t0_0 : Int64} {t0_1 : Int32} {t1_0 : Int32} {t1_1 : Int32} {t2_0 : (Nat → Int32)} {t3_0 : Int32} {t3_1 : Int32} {t4_0 : (Nat → Int32)} {t5_0 : Int32} {t5_1 : Int32} {t6_0 : (Nat → Int32)} {t7_0 : Int32} {t7_1 : Int32} {t8_0 : (Nat → Int32)} {t9_0 : Int32} {t9_1 : Int32} {t10_0 : Int32} {t10_1 : Int32} {t11_0 : (Nat → Int32)} {t12_0 : Int32} {t12_1 : Int32} {t13_0 : Int32} {t13_1 : Int32} {t14_0 : (Nat → Int32)} {lx70 : Int32} {lx103 : Int32} {qa qb : Int × Int} (ha : dP 108 t10_0 t10_1 t11_0 t9_0 t9_1 qa) (hb : dP 108 t13_0 t13_1 t14_0 t12_0 t12_1 qb) (h5 : 0 ≤ x5.toInt ∧ x5.toInt ≤ 1000) (h6 : 0 ≤ x6.toInt ∧ x6.toInt ≤ 7) (hl : lx103 = 1) : ∃ o, sQ (qP x5) (qM x5 x6) qa qb o ∧ cDn o qb (F_NH_quotient_bt_J55 x2 x3 x4 x5 x6 t0_0 t0_1 t1_0 t1_1 t2_0 t3_0 t3_1 t4_0 t5_0 t5_1 t6_0 t7_0 t7_1 t8_0 t9_0 t9_1 t10_0 t10_1 t11_0 t12_0 t12_1 t13_0 t13_1 t14_0 lx70 lx103).1 (F_NH_quotient_bt_J55 x2 x3 x4 x5 x6 t0_0 t0_1 t1_0 t1_1 t2_0 t3_0 t3_1 t4_0 t5_0 t5_1 t6_0 t7_0 t7_1 t8_0 t9_0 t9_1 t10_0 t10_1 t11_0 t12_0 t12_1 t13_0 t13_1 t14_0 lx70 lx103).2.2.2.2.2.2.2.2.2.2.2.2.2.2.2.2.2.1 (F_NH_quotient_bt_J55 x2 x3 x4 x5 x6 t0_0 t0_1 t1_0 t1_1 t2_0 t3_0 t3_1 t4_0 t5_0 t5_1 t6_0 t7_0 t7_1 t8_0 t9_0 t9_1 t10_0 t10_1 t11_0 t12_0 t12_1 t13_0 t13_1 t14_0 lx70 lx103).2.2.2.2.2.2.2.2.2.2.2.2.2.2.2.2.2.2.1 (F_NH_quotient_bt_J55 x2 x3 x4 x5 x6 t0_0 t0_1 t1_0 t1_1 t2_0 t3_0 t3_1 t4_0 t5_0 t5_1 t6_0 t7_0 t7_1 t8_0 t9_0 t9_1 t10_0 t10_1 t11_0 t12_0 t12_1 t13_0 t13_1 t14_0 lx70 lx103).2.2.2.2.2.2.2.2.2.2.2.2.2.2.2.2.2.2.2 (F_NH_quotient_bt_J55 x2 x3 x4 x5 x6 t0_0 t0_1 t1_0 t1_1 t2_0 t3_0 t3_1 t4_0 t5_0 t5_1 t6_0 t7_0 t7_1 t8_0 t9_0 t9_1 t10_0 t10_1 t11_0 t12_0 t12_1 t13_0 t13_1 t14_0 lx70 lx103).2.2.2.2.2.2.2.2.2.2.2.2.2.2.2.1 (F_NH_quotient_bt_J55 x2 x3 x4 x5 x6 t0_0 t0_1 t1_0 t1_1 t2_0 t3_0 t3_1 t4_0 t5_0 t5_1 t6_0 t7_0 t7_1 t8_0 t9_0 t9_1 t10_0 t10_1 t11_0 t12_0 t12_1 t13_0 t13_1 t14_0 lx70 lx103).2.2.2.2.2.2.2.2.2.2.2.2.2.2.2.2.1 := by
  have n1 : F_NH_need lx103 = 0 := by rw [hl]; decide
  unfold F_NH_quotient_bt_J55
  rw [if_pos n1]
  by_cases c4 : t13_0 ≤ 0
  · rw [if_pos c4]
    unfold F_NH_quotient_bt_J78
    rw [if_neg (show ¬ F_NH_canHave 0 = 0 by decide)]
    exact ⟨none, Or.inl ⟨(y_sizeP hb.1).mp c4, rfl⟩, Or.inr ⟨Or.inl rfl, y_ch2, hb⟩⟩
  · rw [if_neg c4]
    unfold F_NH_quotient_bt_J78
    rw [if_pos y_ch1]
    have hv : qb.1 ≠ 0 := fun h => c4 ((y_sizeP hb.1).mpr h)
    obtain ⟨o, ho, dv⟩ := V_DW_divideToPrecision (x4 := x5) (x5 := x6) (t0_0 := t0_0) (t0_1 := t0_1) (t1_0 := t1_0) (t1_1 := t1_1) (t2_0 := t2_0) (t3_0 := t3_0) (t3_1 := t3_1) (t4_0 := t4_0) (t5_0 := t5_0) (t5_1 := t5_1) (t6_0 := t6_0) (t7_0 := t7_0) (t7_1 := t7_1) (t8_0 := t8_0) ha hb hv h5 h6 trivial
    have m4 := (T_divideToPrecision (x4 := x5) (x5 := x6) (t0_0 := t0_0) (t0_1 := t0_1) (t1_0 := t1_0) (t1_1 := t1_1) (t2_0 := t2_0) (t3_0 := t3_0) (t3_1 := t3_1) (t4_0 := t4_0) (t5_0 := t5_0) (t5_1 := t5_1) (t6_0 := t6_0) (t7_0 := t7_0) (t7_1 := t7_1) (t8_0 := t8_0) ha.O hb.O hv h5.1 h5.2 trivial trivial trivial).2.2
    generalize F_DW_divideToPrecision 108 108 x5 x6 t0_0 t0_1 t1_0 t1_1 t2_0 t3_0 t3_1 t4_0 t5_0 t5_1 t6_0 t7_0 t7_1 t8_0 t9_0 t9_1 t10_0 t10_1 t11_0 t12_0 t12_1 t13_0 t13_1 t14_0 = p248 at dv m4 ⊢
    have m5 : dP 108 p248.2.2.2.2.2.2.2.2.2.2.2.2.2.2.2.1 p248.2.2.2.2.2.2.2.2.2.2.2.2.2.2.2.2.1 p248.2.2.2.2.2.2.2.2.2.2.2.2.2.2.2.2.2 t12_0 t12_1 qb := ⟨m4.2.2.2.2, hb.2⟩
    unfold F_NH_quotient_bt_c101
    rcases dv with ⟨s1, s2⟩ | ⟨s1, q, s2, s3, s4, s5⟩
    · rw [s1, if_neg (show ¬ F_NH_canHave 0 = 0 by decide)]
      exact ⟨o, ho, Or.inr ⟨Or.inl s2, y_ch2, m5⟩⟩
    · rw [s1, if_pos y_ch1]
      have kd := V_keepDecimal (x2 := x4) (t0_0 := p248.2.1) (t0_1 := p248.2.2.1) (t3_0 := p248.2.2.2.2.2.2.2.2.2.2.2.2.1) (t3_1 := p248.2.2.2.2.2.2.2.2.2.2.2.2.2.1) (t4_0 := p248.2.2.2.2.2.2.2.2.2.2.2.2.2.2.1) s4 s5 (by decide) trivial m5
      rw [s3] at kd
      generalize F_NH_keepDecimal x4 p248.2.1 p248.2.2.1 p248.2.2.2.1 p248.2.2.2.2.1 p248.2.2.2.2.2.1 p248.2.2.2.2.2.2.2.2.2.2.2.2.1 p248.2.2.2.2.2.2.2.2.2.2.2.2.2.1 p248.2.2.2.2.2.2.2.2.2.2.2.2.2.2.1 t12_0 t12_1 p248.2.2.2.2.2.2.2.2.2.2.2.2.2.2.2.1 p248.2.2.2.2.2.2.2.2.2.2.2.2.2.2.2.2.1 p248.2.2.2.2.2.2.2.2.2.2.2.2.2.2.2.2.2 = p303 at kd ⊢
      refine ⟨o, ho, ?_⟩
      rw [s2]
      unfold F_NH_quotient_bt_c109
      by_cases z : p303.1 = 0
      · rw [if_pos z]
        rw [z] at kd
        exact kd
      · rw [if_neg z]
        exact kd
