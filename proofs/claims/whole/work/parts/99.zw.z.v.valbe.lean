/-! values, for whole: divide, as a call of the class: a register by itself -/
theorem bO_sg {R R' s n s' n' : Int32} {f f' : Nat → Int32} {v : Int} (h : bO R s n f v) (g : bO R' s' n' f' v) : n = n' := by
  rcases h.sgn with ⟨a, b⟩ | ⟨a, b⟩ <;> rcases g.sgn with ⟨c, d⟩ | ⟨c, d⟩
  · rw [a, c]
  · omega
  · omega
  · rw [a, c]
theorem y_dts_a {R2 : Int32} {x4 : Int32} {x5 : Int32} {t0_0 : Int64} {t0_1 : Int32} {t1_0 : Int32} {t1_1 : Int32} {t2_0 : (Nat → Int32)} {t3_0 : Int32} {t3_1 : Int32} {t4_0 : (Nat → Int32)} {t5_0 : Int32} {t5_1 : Int32} {t6_0 : (Nat → Int32)} {t7_0 : Int32} {t7_1 : Int32} {t8_0 : Int32} {t8_1 : Int32} {t9_0 : (Nat → Int32)} {qa : Int × Int} (ha : dP R2 t8_0 t8_1 t9_0 t7_0 t7_1 qa) (hv : qa.1 ≠ 0) (h4 : -10000 ≤ x4.toInt ∧ x4.toInt ≤ 10000) : (F_DW_divideToScale_a R2 x4 x5 t0_0 t0_1 t1_0 t1_1 t2_0 t3_0 t3_1 t4_0 t5_0 t5_1 t6_0 t7_0 t7_1 t8_0 t8_1 t9_0) = F_DW_divideToScale R2 R2 x4 x5 t0_0 t0_1 t1_0 t1_1 t2_0 t3_0 t3_1 t4_0 t5_0 t5_1 t6_0 t7_0 t7_1 t8_0 t8_1 t9_0 t7_0 t7_1 t8_0 t8_1 t9_0 := by
  have m := (T_divideToScale (x4 := x4) (x5 := x5) (t0_0 := t0_0) (t0_1 := t0_1) (t1_0 := t1_0) (t1_1 := t1_1) (t2_0 := t2_0) (t3_0 := t3_0) (t3_1 := t3_1) (t4_0 := t4_0) (t5_0 := t5_0) (t5_1 := t5_1) (t6_0 := t6_0) ha.O ha.O hv h4.1 h4.2 trivial trivial trivial).2.2.2.2.2
  unfold F_DW_divideToScale at m ⊢
  unfold F_DW_divideToScale_a
  by_cases c1 : t8_0 = 0
  · rw [if_pos c1, if_pos c1]
    rfl
  · rw [if_neg c1] at m
    rw [if_neg c1, if_neg c1]
    by_cases c2 : t7_1 + (x4 + t7_0 - t7_0) - t7_1 ≤ 1000
    · rw [if_pos c2] at m
      rw [if_pos c2, if_pos c2]
      unfold F_DW_divideToScale_c68 at m ⊢
      unfold F_DW_divideToScale_a_c68
      by_cases c3 : t8_1 = (F_DW_divideRaised R2 R2 (x4 + t7_0 - t7_0 + 1) x4.toInt64 t0_1 t1_0 t1_1 t2_0 t3_0 t3_1 t4_0 t5_0 t5_1 t6_0 t7_0 t7_1 t8_0 t8_1 t9_0 t7_0 t7_1 t8_0 t8_1 t9_0).2.2.2.2.2.2.2.2.2.2.2.2.1
      · rw [if_pos c3]
        rfl
      · rw [if_neg c3] at m
        exact absurd (bO_sg ha.1 m) c3
    · rw [if_neg c2, if_neg c2]
theorem V_NH_divideK_ab {x2 : Int32} {x3 : Int32} {x4 : Int32} {x5 : Int32} {x6 : Int32} {t0_0 : Int64} {t0_1 : Int32} {t1_0 : Int32} {t1_1 : Int32} {t2_0 : (Nat → Int32)} {t3_0 : Int32} {t3_1 : Int32} {t4_0 : (Nat → Int32)} {t5_0 : Int32} {t5_1 : Int32} {t6_0 : (Nat → Int32)} {t7_0 : Int32} {t7_1 : Int32} {t8_0 : (Nat → Int32)} {t9_0 : Int32} {t9_1 : Int32} {t10_0 : Int32} {t10_1 : Int32} {t11_0 : (Nat → Int32)} {t12_0 : Int32} {t12_1 : Int32} {t13_0 : Int32} {t13_1 : Int32} {t14_0 : (Nat → Int32)} {lx70 : Int32} {qa qt : Int × Int} (ha : dP 108 t10_0 t10_1 t11_0 t9_0 t9_1 qa) (ht : dP 108 t13_0 t13_1 t14_0 t12_0 t12_1 qt) (hw : bI 220 t7_0 t7_1 t8_0) (h5 : -10000 ≤ x5.toInt ∧ x5.toInt ≤ 10000) (h6 : 0 ≤ x6.toInt ∧ x6.toInt ≤ 7) (hl : lx70 = 1) : cDn (sDiv x6 qa qa x5.toInt) qt (F_NH_divide_ab_J42 x2 x3 x4 x5 x6 t0_0 t0_1 t1_0 t1_1 t2_0 t3_0 t3_1 t4_0 t5_0 t5_1 t6_0 t7_0 t7_1 t8_0 t9_0 t9_1 t10_0 t10_1 t11_0 t12_0 t12_1 t13_0 t13_1 t14_0 lx70).1 (F_NH_divide_ab_J42 x2 x3 x4 x5 x6 t0_0 t0_1 t1_0 t1_1 t2_0 t3_0 t3_1 t4_0 t5_0 t5_1 t6_0 t7_0 t7_1 t8_0 t9_0 t9_1 t10_0 t10_1 t11_0 t12_0 t12_1 t13_0 t13_1 t14_0 lx70).2.2.2.2.2.2.2.2.2.2.2.2.2.2.2.2.2.2.2.2.1 (F_NH_divide_ab_J42 x2 x3 x4 x5 x6 t0_0 t0_1 t1_0 t1_1 t2_0 t3_0 t3_1 t4_0 t5_0 t5_1 t6_0 t7_0 t7_1 t8_0 t9_0 t9_1 t10_0 t10_1 t11_0 t12_0 t12_1 t13_0 t13_1 t14_0 lx70).2.2.2.2.2.2.2.2.2.2.2.2.2.2.2.2.2.2.2.2.2.1 (F_NH_divide_ab_J42 x2 x3 x4 x5 x6 t0_0 t0_1 t1_0 t1_1 t2_0 t3_0 t3_1 t4_0 t5_0 t5_1 t6_0 t7_0 t7_1 t8_0 t9_0 t9_1 t10_0 t10_1 t11_0 t12_0 t12_1 t13_0 t13_1 t14_0 lx70).2.2.2.2.2.2.2.2.2.2.2.2.2.2.2.2.2.2.2.2.2.2 (F_NH_divide_ab_J42 x2 x3 x4 x5 x6 t0_0 t0_1 t1_0 t1_1 t2_0 t3_0 t3_1 t4_0 t5_0 t5_1 t6_0 t7_0 t7_1 t8_0 t9_0 t9_1 t10_0 t10_1 t11_0 t12_0 t12_1 t13_0 t13_1 t14_0 lx70).2.2.2.2.2.2.2.2.2.2.2.2.2.2.2.2.2.2.1 (F_NH_divide_ab_J42 x2 x3 x4 x5 x6 t0_0 t0_1 t1_0 t1_1 t2_0 t3_0 t3_1 t4_0 t5_0 t5_1 t6_0 t7_0 t7_1 t8_0 t9_0 t9_1 t10_0 t10_1 t11_0 t12_0 t12_1 t13_0 t13_1 t14_0 lx70).2.2.2.2.2.2.2.2.2.2.2.2.2.2.2.2.2.2.2.1 ∧ bO 108 (F_NH_divide_ab_J42 x2 x3 x4 x5 x6 t0_0 t0_1 t1_0 t1_1 t2_0 t3_0 t3_1 t4_0 t5_0 t5_1 t6_0 t7_0 t7_1 t8_0 t9_0 t9_1 t10_0 t10_1 t11_0 t12_0 t12_1 t13_0 t13_1 t14_0 lx70).2.2.2.2.2.2.2.2.2.2.2.2.2.2.2.1 (F_NH_divide_ab_J42 x2 x3 x4 x5 x6 t0_0 t0_1 t1_0 t1_1 t2_0 t3_0 t3_1 t4_0 t5_0 t5_1 t6_0 t7_0 t7_1 t8_0 t9_0 t9_1 t10_0 t10_1 t11_0 t12_0 t12_1 t13_0 t13_1 t14_0 lx70).2.2.2.2.2.2.2.2.2.2.2.2.2.2.2.2.1 (F_NH_divide_ab_J42 x2 x3 x4 x5 x6 t0_0 t0_1 t1_0 t1_1 t2_0 t3_0 t3_1 t4_0 t5_0 t5_1 t6_0 t7_0 t7_1 t8_0 t9_0 t9_1 t10_0 t10_1 t11_0 t12_0 t12_1 t13_0 t13_1 t14_0 lx70).2.2.2.2.2.2.2.2.2.2.2.2.2.2.2.2.2.1 qa.1 := by
  have n1 : F_NH_need lx70 = 0 := by rw [hl]; decide
  unfold F_NH_divide_ab_J42
  rw [if_pos n1]
  by_cases c4 : t10_0 ≤ 0
  · rw [if_pos c4]
    unfold F_NH_divide_ab_J65
    rw [if_neg (show ¬ F_NH_canHave 0 = 0 by decide)]
    have es : sDiv x6 qa qa x5.toInt = none := by
      unfold sDiv
      rw [if_pos ((y_sizeP ha.1).mp c4)]
    rw [es]
    exact ⟨Or.inr ⟨Or.inl rfl, y_ch2, ht⟩, ha.1⟩
  · rw [if_neg c4]
    unfold F_NH_divide_ab_J65
    rw [if_pos y_ch1]
    have hv : qa.1 ≠ 0 := fun h => c4 ((y_sizeP ha.1).mpr h)
    have dv := V_divideToScale (x4 := x5) (x5 := x6) (t0_0 := t0_0) (t0_1 := t0_1) (t1_0 := t1_0) (t1_1 := t1_1) (t2_0 := t2_0) (t3_0 := t3_0) (t3_1 := t3_1) (t4_0 := t4_0) (t5_0 := t5_0) (t5_1 := t5_1) (t6_0 := t6_0) ha ha hv h5 h6
    have m4 := (T_divideToScale (x4 := x5) (x5 := x6) (t0_0 := t0_0) (t0_1 := t0_1) (t1_0 := t1_0) (t1_1 := t1_1) (t2_0 := t2_0) (t3_0 := t3_0) (t3_1 := t3_1) (t4_0 := t4_0) (t5_0 := t5_0) (t5_1 := t5_1) (t6_0 := t6_0) ha.O ha.O hv h5.1 h5.2 trivial trivial trivial).2.2
    rw [y_dts_a ha hv h5]
    generalize F_DW_divideToScale 108 108 x5 x6 t0_0 t0_1 t1_0 t1_1 t2_0 t3_0 t3_1 t4_0 t5_0 t5_1 t6_0 t9_0 t9_1 t10_0 t10_1 t11_0 t9_0 t9_1 t10_0 t10_1 t11_0 = p204 at dv m4 ⊢
    have m5 : bO 108 p204.2.2.2.2.2.2.2.2.2.2.2.2.1 p204.2.2.2.2.2.2.2.2.2.2.2.2.2.1 p204.2.2.2.2.2.2.2.2.2.2.2.2.2.2 qa.1 := m4.2.2.2
    unfold F_NH_divide_ab_c88
    rcases dv with ⟨s1, s2⟩ | ⟨s1, v, s2, s3, s4, s5⟩
    · rw [s1, if_neg (show ¬ F_NH_canHave 0 = 0 by decide)]
      exact ⟨Or.inr ⟨s2, y_ch2, ht⟩, m5⟩
    · rw [s1, if_pos y_ch1]
      have kd := V_keepDecimal (x2 := x4) (t0_0 := p204.2.1) (t0_1 := p204.2.2.1) (t3_0 := t7_0) (t3_1 := t7_1) (t4_0 := t8_0) s4 s5 (by decide) hw ht
      rw [s3] at kd
      generalize F_NH_keepDecimal x4 p204.2.1 p204.2.2.1 p204.2.2.2.1 p204.2.2.2.2.1 p204.2.2.2.2.2.1 t7_0 t7_1 t8_0 t12_0 t12_1 t13_0 t13_1 t14_0 = p256 at kd ⊢
      rw [s2]
      unfold F_NH_divide_ab_c96
      by_cases z : p256.1 = 0
      · rw [if_pos z]
        rw [z] at kd
        exact ⟨kd, m5⟩
      · rw [if_neg z]
        exact ⟨kd, m5⟩
theorem V_NH_divideK_abt {x2 : Int32} {x3 : Int32} {x4 : Int32} {x5 : Int32} {x6 : Int32} {t0_0 : Int64} {t0_1 : Int32} {t1_0 : Int32} {t1_1 : Int32} {t2_0 : (Nat → Int32)} {t3_0 : Int32} {t3_1 : Int32} {t4_0 : (Nat → Int32)} {t5_0 : Int32} {t5_1 : Int32} {t6_0 : (Nat → Int32)} {t7_0 : Int32} {t7_1 : Int32} {t8_0 : (Nat → Int32)} {t9_0 : Int32} {t9_1 : Int32} {t10_0 : Int32} {t10_1 : Int32} {t11_0 : (Nat → Int32)} {lx57 : Int32} {qa : Int × Int} (ha : dP 108 t10_0 t10_1 t11_0 t9_0 t9_1 qa) (hw : bI 220 t7_0 t7_1 t8_0) (h5 : -10000 ≤ x5.toInt ∧ x5.toInt ≤ 10000) (h6 : 0 ≤ x6.toInt ∧ x6.toInt ≤ 7) (hl : lx57 = 1) : cDn (sDiv x6 qa qa x5.toInt) qa (F_NH_divide_abt_J42 x2 x3 x4 x5 x6 t0_0 t0_1 t1_0 t1_1 t2_0 t3_0 t3_1 t4_0 t5_0 t5_1 t6_0 t7_0 t7_1 t8_0 t9_0 t9_1 t10_0 t10_1 t11_0 lx57).1 (F_NH_divide_abt_J42 x2 x3 x4 x5 x6 t0_0 t0_1 t1_0 t1_1 t2_0 t3_0 t3_1 t4_0 t5_0 t5_1 t6_0 t7_0 t7_1 t8_0 t9_0 t9_1 t10_0 t10_1 t11_0 lx57).2.2.2.2.2.2.2.2.2.2.2.2.2.2.2.2.2.1 (F_NH_divide_abt_J42 x2 x3 x4 x5 x6 t0_0 t0_1 t1_0 t1_1 t2_0 t3_0 t3_1 t4_0 t5_0 t5_1 t6_0 t7_0 t7_1 t8_0 t9_0 t9_1 t10_0 t10_1 t11_0 lx57).2.2.2.2.2.2.2.2.2.2.2.2.2.2.2.2.2.2.1 (F_NH_divide_abt_J42 x2 x3 x4 x5 x6 t0_0 t0_1 t1_0 t1_1 t2_0 t3_0 t3_1 t4_0 t5_0 t5_1 t6_0 t7_0 t7_1 t8_0 t9_0 t9_1 t10_0 t10_1 t11_0 lx57).2.2.2.2.2.2.2.2.2.2.2.2.2.2.2.2.2.2.2 (F_NH_divide_abt_J42 x2 x3 x4 x5 x6 t0_0 t0_1 t1_0 t1_1 t2_0 t3_0 t3_1 t4_0 t5_0 t5_1 t6_0 t7_0 t7_1 t8_0 t9_0 t9_1 t10_0 t10_1 t11_0 lx57).2.2.2.2.2.2.2.2.2.2.2.2.2.2.2.1 (F_NH_divide_abt_J42 x2 x3 x4 x5 x6 t0_0 t0_1 t1_0 t1_1 t2_0 t3_0 t3_1 t4_0 t5_0 t5_1 t6_0 t7_0 t7_1 t8_0 t9_0 t9_1 t10_0 t10_1 t11_0 lx57).2.2.2.2.2.2.2.2.2.2.2.2.2.2.2.2.1 := by
  have n1 : F_NH_need lx57 = 0 := by rw [hl]; decide
  unfold F_NH_divide_abt_J42
  rw [if_pos n1]
  by_cases c4 : t10_0 ≤ 0
  · rw [if_pos c4]
    unfold F_NH_divide_abt_J65
    rw [if_neg (show ¬ F_NH_canHave 0 = 0 by decide)]
    have es : sDiv x6 qa qa x5.toInt = none := by
      unfold sDiv
      rw [if_pos ((y_sizeP ha.1).mp c4)]
    rw [es]
    exact Or.inr ⟨Or.inl rfl, y_ch2, ha⟩
  · rw [if_neg c4]
    unfold F_NH_divide_abt_J65
    rw [if_pos y_ch1]
    have hv : qa.1 ≠ 0 := fun h => c4 ((y_sizeP ha.1).mpr h)
    have dv := V_divideToScale (x4 := x5) (x5 := x6) (t0_0 := t0_0) (t0_1 := t0_1) (t1_0 := t1_0) (t1_1 := t1_1) (t2_0 := t2_0) (t3_0 := t3_0) (t3_1 := t3_1) (t4_0 := t4_0) (t5_0 := t5_0) (t5_1 := t5_1) (t6_0 := t6_0) ha ha hv h5 h6
    have m4 := (T_divideToScale (x4 := x5) (x5 := x6) (t0_0 := t0_0) (t0_1 := t0_1) (t1_0 := t1_0) (t1_1 := t1_1) (t2_0 := t2_0) (t3_0 := t3_0) (t3_1 := t3_1) (t4_0 := t4_0) (t5_0 := t5_0) (t5_1 := t5_1) (t6_0 := t6_0) ha.O ha.O hv h5.1 h5.2 trivial trivial trivial).2.2
    rw [y_dts_a ha hv h5]
    generalize F_DW_divideToScale 108 108 x5 x6 t0_0 t0_1 t1_0 t1_1 t2_0 t3_0 t3_1 t4_0 t5_0 t5_1 t6_0 t9_0 t9_1 t10_0 t10_1 t11_0 t9_0 t9_1 t10_0 t10_1 t11_0 = p185 at dv m4 ⊢
    have m5 : dP 108 p185.2.2.2.2.2.2.2.2.2.2.2.2.1 p185.2.2.2.2.2.2.2.2.2.2.2.2.2.1 p185.2.2.2.2.2.2.2.2.2.2.2.2.2.2 t9_0 t9_1 qa := ⟨m4.2.2.2, ha.2⟩
    unfold F_NH_divide_abt_c88
    rcases dv with ⟨s1, s2⟩ | ⟨s1, v, s2, s3, s4, s5⟩
    · rw [s1, if_neg (show ¬ F_NH_canHave 0 = 0 by decide)]
      exact Or.inr ⟨s2, y_ch2, m5⟩
    · rw [s1, if_pos y_ch1]
      have kd := V_keepDecimal (x2 := x4) (t0_0 := p185.2.1) (t0_1 := p185.2.2.1) (t3_0 := t7_0) (t3_1 := t7_1) (t4_0 := t8_0) s4 s5 (by decide) hw m5
      rw [s3] at kd
      generalize F_NH_keepDecimal x4 p185.2.1 p185.2.2.1 p185.2.2.2.1 p185.2.2.2.2.1 p185.2.2.2.2.2.1 t7_0 t7_1 t8_0 t9_0 t9_1 p185.2.2.2.2.2.2.2.2.2.2.2.2.1 p185.2.2.2.2.2.2.2.2.2.2.2.2.2.1 p185.2.2.2.2.2.2.2.2.2.2.2.2.2.2 = p237 at kd ⊢
      rw [s2]
      unfold F_NH_divide_abt_c96
      by_cases z : p237.1 = 0
      · rw [if_pos z]
        rw [z] at kd
        exact kd
      · rw [if_neg z]
        exact kd
