/-! values, for whole: divide, as a call of the class -/
theorem V_NH_divideK {x2 : Int32} {x3 : Int32} {x4 : Int32} {x5 : Int32} {x6 : Int32} {t0_0 : Int64} {t0_1 : Int32} {t1_0 : Int32} {t1_1 : Int32} {t2_0 : (Nat → Int32)} {t3_0 : Int32} {t3_1 : Int32} {t4_0 : (Nat → Int32)} {t5_0 : Int32} {t5_1 : Int32} {t6_0 : (Nat → Int32)} {t7_0 : Int32} {t7_1 : Int32} {t8_0 : (Nat → Int32)} {t9_0 : Int32} {t9_1 : Int32} {t10_0 : Int32} {t10_1 : Int32} {t11_0 : (Nat → Int32)} {t12_0 : Int32} {t12_1 : Int32} {t13_0 : Int32} {t13_1 : Int32} {t14_0 : (Nat → Int32)} {t15_0 : Int32} {t15_1 : Int32} {t16_0 : Int32} {t16_1 : Int32} {t17_0 : (Nat → Int32)} {lx83 : Int32} {qa qb qt : Int × Int} (ha : dP 108 t10_0 t10_1 t11_0 t9_0 t9_1 qa) (hb : dP 108 t13_0 t13_1 t14_0 t12_0 t12_1 qb) (ht : dP 108 t16_0 t16_1 t17_0 t15_0 t15_1 qt) (hw : bI 220 t7_0 t7_1 t8_0) (h5 : -10000 ≤ x5.toInt ∧ x5.toInt ≤ 10000) (h6 : 0 ≤ x6.toInt ∧ x6.toInt ≤ 7) (hl : lx83 = 1) : cDn (sDiv x6 qa qb x5.toInt) qt (F_NH_divide_J42 x2 x3 x4 x5 x6 t0_0 t0_1 t1_0 t1_1 t2_0 t3_0 t3_1 t4_0 t5_0 t5_1 t6_0 t7_0 t7_1 t8_0 t9_0 t9_1 t10_0 t10_1 t11_0 t12_0 t12_1 t13_0 t13_1 t14_0 t15_0 t15_1 t16_0 t16_1 t17_0 lx83).1 (F_NH_divide_J42 x2 x3 x4 x5 x6 t0_0 t0_1 t1_0 t1_1 t2_0 t3_0 t3_1 t4_0 t5_0 t5_1 t6_0 t7_0 t7_1 t8_0 t9_0 t9_1 t10_0 t10_1 t11_0 t12_0 t12_1 t13_0 t13_1 t14_0 t15_0 t15_1 t16_0 t16_1 t17_0 lx83).2.2.2.2.2.2.2.2.2.2.2.2.2.2.2.2.2.2.2.2.1 (F_NH_divide_J42 x2 x3 x4 x5 x6 t0_0 t0_1 t1_0 t1_1 t2_0 t3_0 t3_1 t4_0 t5_0 t5_1 t6_0 t7_0 t7_1 t8_0 t9_0 t9_1 t10_0 t10_1 t11_0 t12_0 t12_1 t13_0 t13_1 t14_0 t15_0 t15_1 t16_0 t16_1 t17_0 lx83).2.2.2.2.2.2.2.2.2.2.2.2.2.2.2.2.2.2.2.2.2.1 (F_NH_divide_J42 x2 x3 x4 x5 x6 t0_0 t0_1 t1_0 t1_1 t2_0 t3_0 t3_1 t4_0 t5_0 t5_1 t6_0 t7_0 t7_1 t8_0 t9_0 t9_1 t10_0 t10_1 t11_0 t12_0 t12_1 t13_0 t13_1 t14_0 t15_0 t15_1 t16_0 t16_1 t17_0 lx83).2.2.2.2.2.2.2.2.2.2.2.2.2.2.2.2.2.2.2.2.2.2 (F_NH_divide_J42 x2 x3 x4 x5 x6 t0_0 t0_1 t1_0 t1_1 t2_0 t3_0 t3_1 t4_0 t5_0 t5_1 t6_0 t7_0 t7_1 t8_0 t9_0 t9_1 t10_0 t10_1 t11_0 t12_0 t12_1 t13_0 t13_1 t14_0 t15_0 t15_1 t16_0 t16_1 t17_0 lx83).2.2.2.2.2.2.2.2.2.2.2.2.2.2.2.2.2.2.1 (F_NH_divide_J42 x2 x3 x4 x5 x6 t0_0 t0_1 t1_0 t1_1 t2_0 t3_0 t3_1 t4_0 t5_0 t5_1 t6_0 t7_0 t7_1 t8_0 t9_0 t9_1 t10_0 t10_1 t11_0 t12_0 t12_1 t13_0 t13_1 t14_0 t15_0 t15_1 t16_0 t16_1 t17_0 lx83).2.2.2.2.2.2.2.2.2.2.2.2.2.2.2.2.2.2.2.1 ∧ bO 108 (F_NH_divide_J42 x2 x3 x4 x5 x6 t0_0 t0_1 t1_0 t1_1 t2_0 t3_0 t3_1 t4_0 t5_0 t5_1 t6_0 t7_0 t7_1 t8_0 t9_0 t9_1 t10_0 t10_1 t11_0 t12_0 t12_1 t13_0 t13_1 t14_0 t15_0 t15_1 t16_0 t16_1 t17_0 lx83).2.2.2.2.2.2.2.2.2.2.2.2.2.2.2.1 (F_NH_divide_J42 x2 x3 x4 x5 x6 t0_0 t0_1 t1_0 t1_1 t2_0 t3_0 t3_1 t4_0 t5_0 t5_1 t6_0 t7_0 t7_1 t8_0 t9_0 t9_1 t10_0 t10_1 t11_0 t12_0 t12_1 t13_0 t13_1 t14_0 t15_0 t15_1 t16_0 t16_1 t17_0 lx83).2.2.2.2.2.2.2.2.2.2.2.2.2.2.2.2.1 (F_NH_divide_J42 x2 x3 x4 x5 x6 t0_0 t0_1 t1_0 t1_1 t2_0 t3_0 t3_1 t4_0 t5_0 t5_1 t6_0 t7_0 t7_1 t8_0 t9_0 t9_1 t10_0 t10_1 t11_0 t12_0 t12_1 t13_0 t13_1 t14_0 t15_0 t15_1 t16_0 t16_1 t17_0 lx83).2.2.2.2.2.2.2.2.2.2.2.2.2.2.2.2.2.1 qb.1 := by
  have n1 : F_NH_need lx83 = 0 := by rw [hl]; decide
  unfold F_NH_divide_J42
  rw [if_pos n1]
  by_cases c4 : t13_0 ≤ 0
  · rw [if_pos c4]
    unfold F_NH_divide_J65
    rw [if_neg (show ¬ F_NH_canHave 0 = 0 by decide)]
    have es : sDiv x6 qa qb x5.toInt = none := by
      unfold sDiv
      rw [if_pos ((y_sizeP hb.1).mp c4)]
    rw [es]
    exact ⟨Or.inr ⟨Or.inl rfl, y_ch2, ht⟩, hb.1⟩
  · rw [if_neg c4]
    unfold F_NH_divide_J65
    rw [if_pos y_ch1]
    have hv : qb.1 ≠ 0 := fun h => c4 ((y_sizeP hb.1).mpr h)
    have dv := V_divideToScale (x4 := x5) (x5 := x6) (t0_0 := t0_0) (t0_1 := t0_1) (t1_0 := t1_0) (t1_1 := t1_1) (t2_0 := t2_0) (t3_0 := t3_0) (t3_1 := t3_1) (t4_0 := t4_0) (t5_0 := t5_0) (t5_1 := t5_1) (t6_0 := t6_0) ha hb hv h5 h6
    have m4 := (T_divideToScale (x4 := x5) (x5 := x6) (t0_0 := t0_0) (t0_1 := t0_1) (t1_0 := t1_0) (t1_1 := t1_1) (t2_0 := t2_0) (t3_0 := t3_0) (t3_1 := t3_1) (t4_0 := t4_0) (t5_0 := t5_0) (t5_1 := t5_1) (t6_0 := t6_0) ha.O hb.O hv h5.1 h5.2 trivial trivial trivial).2.2
    generalize F_DW_divideToScale 108 108 x5 x6 t0_0 t0_1 t1_0 t1_1 t2_0 t3_0 t3_1 t4_0 t5_0 t5_1 t6_0 t9_0 t9_1 t10_0 t10_1 t11_0 t12_0 t12_1 t13_0 t13_1 t14_0 = p226 at dv m4 ⊢
    have m5 : bO 108 p226.2.2.2.2.2.2.2.2.2.2.2.2.1 p226.2.2.2.2.2.2.2.2.2.2.2.2.2.1 p226.2.2.2.2.2.2.2.2.2.2.2.2.2.2 qb.1 := m4.2.2.2
    unfold F_NH_divide_c88
    rcases dv with ⟨s1, s2⟩ | ⟨s1, v, s2, s3, s4, s5⟩
    · rw [s1, if_neg (show ¬ F_NH_canHave 0 = 0 by decide)]
      exact ⟨Or.inr ⟨s2, y_ch2, ht⟩, m5⟩
    · rw [s1, if_pos y_ch1]
      have kd := V_keepDecimal (x2 := x4) (t0_0 := p226.2.1) (t0_1 := p226.2.2.1) (t3_0 := t7_0) (t3_1 := t7_1) (t4_0 := t8_0) s4 s5 (by decide) hw ht
      rw [s3] at kd
      generalize F_NH_keepDecimal x4 p226.2.1 p226.2.2.1 p226.2.2.2.1 p226.2.2.2.2.1 p226.2.2.2.2.2.1 t7_0 t7_1 t8_0 t15_0 t15_1 t16_0 t16_1 t17_0 = p278 at kd ⊢
      rw [s2]
      unfold F_NH_divide_c96
      by_cases z : p278.1 = 0
      · rw [if_pos z]
        rw [z] at kd
        exact ⟨kd, m5⟩
      · rw [if_neg z]
        exact ⟨kd, m5⟩
theorem V_NH_divideK_bt {x2 : Int32} {x3 : Int32} {x4 : Int32} {x5 : Int32} {x6 : Int32} {t0_0 : Int64} {t0_1 : Int32} {t1_0 : Int32} {t1_1 : Int32} {t2_0 : (Nat → Int32)} {t3_0 : Int32} {t3_1 : Int32} {t4_0 : (Nat → Int32)} {t5_0 : Int32} {t5_1 : Int32} {t6_0 : (Nat → Int32)} {t7_0 : Int32} {t7_1 : Int32} {t8_0 : (Nat → Int32)} {t9_0 : Int32} {t9_1 : Int32} {t10_0 : Int32} {t10_1 : Int32} {t11_0 : (Nat → Int32)} {t12_0 : Int32} {t12_1 : Int32} {t13_0 : Int32} {t13_1 : Int32} {t14_0 : (Nat → Int32)} {lx70 : Int32} {qa qb : Int × Int} (ha : dP 108 t10_0 t10_1 t11_0 t9_0 t9_1 qa) (hb : dP 108 t13_0 t13_1 t14_0 t12_0 t12_1 qb) (hw : bI 220 t7_0 t7_1 t8_0) (h5 : -10000 ≤ x5.toInt ∧ x5.toInt ≤ 10000) (h6 : 0 ≤ x6.toInt ∧ x6.toInt ≤ 7) (hl : lx70 = 1) : cDn (sDiv x6 qa qb x5.toInt) qb (F_NH_divide_bt_J42 x2 x3 x4 x5 x6 t0_0 t0_1 t1_0 t1_1 t2_0 t3_0 t3_1 t4_0 t5_0 t5_1 t6_0 t7_0 t7_1 t8_0 t9_0 t9_1 t10_0 t10_1 t11_0 t12_0 t12_1 t13_0 t13_1 t14_0 lx70).1 (F_NH_divide_bt_J42 x2 x3 x4 x5 x6 t0_0 t0_1 t1_0 t1_1 t2_0 t3_0 t3_1 t4_0 t5_0 t5_1 t6_0 t7_0 t7_1 t8_0 t9_0 t9_1 t10_0 t10_1 t11_0 t12_0 t12_1 t13_0 t13_1 t14_0 lx70).2.2.2.2.2.2.2.2.2.2.2.2.2.2.2.2.2.1 (F_NH_divide_bt_J42 x2 x3 x4 x5 x6 t0_0 t0_1 t1_0 t1_1 t2_0 t3_0 t3_1 t4_0 t5_0 t5_1 t6_0 t7_0 t7_1 t8_0 t9_0 t9_1 t10_0 t10_1 t11_0 t12_0 t12_1 t13_0 t13_1 t14_0 lx70).2.2.2.2.2.2.2.2.2.2.2.2.2.2.2.2.2.2.1 (F_NH_divide_bt_J42 x2 x3 x4 x5 x6 t0_0 t0_1 t1_0 t1_1 t2_0 t3_0 t3_1 t4_0 t5_0 t5_1 t6_0 t7_0 t7_1 t8_0 t9_0 t9_1 t10_0 t10_1 t11_0 t12_0 t12_1 t13_0 t13_1 t14_0 lx70).2.2.2.2.2.2.2.2.2.2.2.2.2.2.2.2.2.2.2 (F_NH_divide_bt_J42 x2 x3 x4 x5 x6 t0_0 t0_1 t1_0 t1_1 t2_0 t3_0 t3_1 t4_0 t5_0 t5_1 t6_0 t7_0 t7_1 t8_0 t9_0 t9_1 t10_0 t10_1 t11_0 t12_0 t12_1 t13_0 t13_1 t14_0 lx70).2.2.2.2.2.2.2.2.2.2.2.2.2.2.2.1 (F_NH_divide_bt_J42 x2 x3 x4 x5 x6 t0_0 t0_1 t1_0 t1_1 t2_0 t3_0 t3_1 t4_0 t5_0 t5_1 t6_0 t7_0 t7_1 t8_0 t9_0 t9_1 t10_0 t10_1 t11_0 t12_0 t12_1 t13_0 t13_1 t14_0 lx70).2.2.2.2.2.2.2.2.2.2.2.2.2.2.2.2.1 := by
  have n1 : F_NH_need lx70 = 0 := by rw [hl]; decide
  unfold F_NH_divide_bt_J42
  rw [if_pos n1]
  by_cases c4 : t13_0 ≤ 0
  · rw [if_pos c4]
    unfold F_NH_divide_bt_J65
    rw [if_neg (show ¬ F_NH_canHave 0 = 0 by decide)]
    have es : sDiv x6 qa qb x5.toInt = none := by
      unfold sDiv
      rw [if_pos ((y_sizeP hb.1).mp c4)]
    rw [es]
    exact Or.inr ⟨Or.inl rfl, y_ch2, hb⟩
  · rw [if_neg c4]
    unfold F_NH_divide_bt_J65
    rw [if_pos y_ch1]
    have hv : qb.1 ≠ 0 := fun h => c4 ((y_sizeP hb.1).mpr h)
    have dv := V_divideToScale (x4 := x5) (x5 := x6) (t0_0 := t0_0) (t0_1 := t0_1) (t1_0 := t1_0) (t1_1 := t1_1) (t2_0 := t2_0) (t3_0 := t3_0) (t3_1 := t3_1) (t4_0 := t4_0) (t5_0 := t5_0) (t5_1 := t5_1) (t6_0 := t6_0) ha hb hv h5 h6
    have m4 := (T_divideToScale (x4 := x5) (x5 := x6) (t0_0 := t0_0) (t0_1 := t0_1) (t1_0 := t1_0) (t1_1 := t1_1) (t2_0 := t2_0) (t3_0 := t3_0) (t3_1 := t3_1) (t4_0 := t4_0) (t5_0 := t5_0) (t5_1 := t5_1) (t6_0 := t6_0) ha.O hb.O hv h5.1 h5.2 trivial trivial trivial).2.2
    generalize F_DW_divideToScale 108 108 x5 x6 t0_0 t0_1 t1_0 t1_1 t2_0 t3_0 t3_1 t4_0 t5_0 t5_1 t6_0 t9_0 t9_1 t10_0 t10_1 t11_0 t12_0 t12_1 t13_0 t13_1 t14_0 = p207 at dv m4 ⊢
    have m5 : dP 108 p207.2.2.2.2.2.2.2.2.2.2.2.2.1 p207.2.2.2.2.2.2.2.2.2.2.2.2.2.1 p207.2.2.2.2.2.2.2.2.2.2.2.2.2.2 t12_0 t12_1 qb := ⟨m4.2.2.2, hb.2⟩
    unfold F_NH_divide_bt_c88
    rcases dv with ⟨s1, s2⟩ | ⟨s1, v, s2, s3, s4, s5⟩
    · rw [s1, if_neg (show ¬ F_NH_canHave 0 = 0 by decide)]
      exact Or.inr ⟨s2, y_ch2, m5⟩
    · rw [s1, if_pos y_ch1]
      have kd := V_keepDecimal (x2 := x4) (t0_0 := p207.2.1) (t0_1 := p207.2.2.1) (t3_0 := t7_0) (t3_1 := t7_1) (t4_0 := t8_0) s4 s5 (by decide) hw m5
      rw [s3] at kd
      generalize F_NH_keepDecimal x4 p207.2.1 p207.2.2.1 p207.2.2.2.1 p207.2.2.2.2.1 p207.2.2.2.2.2.1 t7_0 t7_1 t8_0 t12_0 t12_1 p207.2.2.2.2.2.2.2.2.2.2.2.2.1 p207.2.2.2.2.2.2.2.2.2.2.2.2.2.1 p207.2.2.2.2.2.2.2.2.2.2.2.2.2.2 = p259 at kd ⊢
      rw [s2]
      unfold F_NH_divide_bt_c96
      by_cases z : p259.1 = 0
      · rw [if_pos z]
        rw [z] at kd
        exact kd
      · rw [if_neg z]
        exact kd
