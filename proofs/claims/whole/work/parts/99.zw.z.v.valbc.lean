/-! values, for whole: decimal, as a call of the class: its variants -/
theorem V_rest_a {R2 : Int32} {t0_0 : Int64} {t0_1 : Int32} {t1_0 : Int32} {t1_1 : Int32} {t2_0 : (Nat → Int32)} {t3_0 : Int32} {t3_1 : Int32} {t4_0 : (Nat → Int32)} {t5_0 : Int32} {t5_1 : Int32} {t6_0 : (Nat → Int32)} {t7_0 : Int32} {t7_1 : Int32} {t8_0 : (Nat → Int32)} {t9_0 : Int32} {t9_1 : Int32} {t10_0 : Int32} {t10_1 : Int32} {t11_0 : (Nat → Int32)} {qa : Int × Int} (ha : dP R2 t10_0 t10_1 t11_0 t9_0 t9_1 qa) (hv : qa.1 ≠ 0) : (F_DW_rest_a R2 t0_0 t0_1 t1_0 t1_1 t2_0 t3_0 t3_1 t4_0 t5_0 t5_1 t6_0 t7_0 t7_1 t8_0 t9_0 t9_1 t10_0 t10_1 t11_0).1.toInt = (sRem qa qa).2 ∧ bO 220 (F_DW_rest_a R2 t0_0 t0_1 t1_0 t1_1 t2_0 t3_0 t3_1 t4_0 t5_0 t5_1 t6_0 t7_0 t7_1 t8_0 t9_0 t9_1 t10_0 t10_1 t11_0).2.2.1 (F_DW_rest_a R2 t0_0 t0_1 t1_0 t1_1 t2_0 t3_0 t3_1 t4_0 t5_0 t5_1 t6_0 t7_0 t7_1 t8_0 t9_0 t9_1 t10_0 t10_1 t11_0).2.2.2.1 (F_DW_rest_a R2 t0_0 t0_1 t1_0 t1_1 t2_0 t3_0 t3_1 t4_0 t5_0 t5_1 t6_0 t7_0 t7_1 t8_0 t9_0 t9_1 t10_0 t10_1 t11_0).2.2.2.2.1 (sRem qa qa).1 ∧ bB 108 (sRem qa qa).1 := by
  have h := V_rest (R := R2) (R2 := R2) (t0_0 := t0_0) (t0_1 := t0_1) (t1_0 := t1_0) (t1_1 := t1_1) (t2_0 := t2_0) (t3_0 := t3_0) (t3_1 := t3_1) (t4_0 := t4_0) (t5_0 := t5_0) (t5_1 := t5_1) (t6_0 := t6_0) (t7_0 := t7_0) (t7_1 := t7_1) (t8_0 := t8_0) ha ha hv
  unfold F_DW_rest F_DW_rest_c40 at h
  rw [if_pos (show t9_0 ≤ t9_0 from Int32.le_refl _)] at h
  unfold F_DW_rest_a F_DW_rest_a_c40
  by_cases g : t9_1 < t9_1 + F_jMath_abs_II (t9_0 - t9_0)
  · rw [if_pos g] at h ⊢
    exact h
  · rw [if_neg g] at h ⊢
    unfold F_DW_rest_c90 F_DW_rest_c101 F_DW_rest_c125 at h
    unfold F_DW_rest_a_c90 F_DW_rest_a_c101 F_DW_rest_a_c125
    exact h
theorem V_NH_decimalK_ab {x2 : Int32} {x3 : Int32} {x4 : Int32} {x5 : Int32} {t0_0 : Int64} {t0_1 : Int32} {t1_0 : Int32} {t1_1 : Int32} {t2_0 : (Nat → Int32)} {t3_0 : Int32} {t3_1 : Int32} {t4_0 : (Nat → Int32)} {t5_0 : Int32} {t5_1 : Int32} {t6_0 : (Nat → Int32)} {t7_0 : Int32} {t7_1 : Int32} {t8_0 : (Nat → Int32)} {t9_0 : Int32} {t9_1 : Int32} {t10_0 : (Nat → Int32)} {t11_0 : Int32} {t11_1 : Int32} {t12_0 : Int32} {t12_1 : Int32} {t13_0 : (Nat → Int32)} {t14_0 : Int32} {t14_1 : Int32} {t15_0 : Int32} {t15_1 : Int32} {t16_0 : (Nat → Int32)} {lx71 : Int32} {qa qt : Int × Int} (ha : dP 108 t12_0 t12_1 t13_0 t11_0 t11_1 qa) (ht : dP 108 t15_0 t15_1 t16_0 t14_0 t14_1 qt) (hw : bI 220 t9_0 t9_1 t10_0) (h2 : 0 ≤ x2.toInt ∧ x2.toInt ≤ 3) (hl : lx71 = 1) : cDn (sDc x2 qa qa) qt (F_NH_decimal_ab_J36 x2 x3 x4 x5 t0_0 t0_1 t1_0 t1_1 t2_0 t3_0 t3_1 t4_0 t5_0 t5_1 t6_0 t7_0 t7_1 t8_0 t9_0 t9_1 t10_0 t11_0 t11_1 t12_0 t12_1 t13_0 t14_0 t14_1 t15_0 t15_1 t16_0 lx71).1 (F_NH_decimal_ab_J36 x2 x3 x4 x5 t0_0 t0_1 t1_0 t1_1 t2_0 t3_0 t3_1 t4_0 t5_0 t5_1 t6_0 t7_0 t7_1 t8_0 t9_0 t9_1 t10_0 t11_0 t11_1 t12_0 t12_1 t13_0 t14_0 t14_1 t15_0 t15_1 t16_0 lx71).2.2.2.2.2.2.2.2.2.2.2.2.2.2.2.2.2.1 (F_NH_decimal_ab_J36 x2 x3 x4 x5 t0_0 t0_1 t1_0 t1_1 t2_0 t3_0 t3_1 t4_0 t5_0 t5_1 t6_0 t7_0 t7_1 t8_0 t9_0 t9_1 t10_0 t11_0 t11_1 t12_0 t12_1 t13_0 t14_0 t14_1 t15_0 t15_1 t16_0 lx71).2.2.2.2.2.2.2.2.2.2.2.2.2.2.2.2.2.2.1 (F_NH_decimal_ab_J36 x2 x3 x4 x5 t0_0 t0_1 t1_0 t1_1 t2_0 t3_0 t3_1 t4_0 t5_0 t5_1 t6_0 t7_0 t7_1 t8_0 t9_0 t9_1 t10_0 t11_0 t11_1 t12_0 t12_1 t13_0 t14_0 t14_1 t15_0 t15_1 t16_0 lx71).2.2.2.2.2.2.2.2.2.2.2.2.2.2.2.2.2.2.2 (F_NH_decimal_ab_J36 x2 x3 x4 x5 t0_0 t0_1 t1_0 t1_1 t2_0 t3_0 t3_1 t4_0 t5_0 t5_1 t6_0 t7_0 t7_1 t8_0 t9_0 t9_1 t10_0 t11_0 t11_1 t12_0 t12_1 t13_0 t14_0 t14_1 t15_0 t15_1 t16_0 lx71).2.2.2.2.2.2.2.2.2.2.2.2.2.2.2.1 (F_NH_decimal_ab_J36 x2 x3 x4 x5 t0_0 t0_1 t1_0 t1_1 t2_0 t3_0 t3_1 t4_0 t5_0 t5_1 t6_0 t7_0 t7_1 t8_0 t9_0 t9_1 t10_0 t11_0 t11_1 t12_0 t12_1 t13_0 t14_0 t14_1 t15_0 t15_1 t16_0 lx71).2.2.2.2.2.2.2.2.2.2.2.2.2.2.2.2.1 := by
  have e1 : (1 : Int32).toInt = 1 := rfl
  have n1 : F_NH_need lx71 = 0 := by rw [hl]; decide
  have no : cDn none qt 2 t15_0 t15_1 t16_0 t14_0 t14_1 := Or.inr ⟨Or.inl rfl, rfl, ht⟩
  unfold F_NH_decimal_ab_J36
  rw [if_pos n1]
  by_cases c1 : (1 : Int32) < x2
  · rw [if_pos c1]
    have c1 := q_ltI c1
    by_cases c2 : x2 = 2
    · rw [if_pos c2]
      have es : sDc x2 qa qa = some (qa.1 * qa.1, qa.2 + qa.2) := by
        unfold sDc
        rw [if_neg (by rw [c2]; decide), if_pos c2]
      rw [es]
      obtain ⟨m1, m2, m3⟩ := V_DW_multiply (t0_0 := t0_0) (t0_1 := t0_1) (t1_0 := t1_0) (t1_1 := t1_1) (t2_0 := t2_0) ha ha
      generalize F_DW_multiply 108 108 t0_0 t0_1 t1_0 t1_1 t2_0 t11_0 t11_1 t12_0 t12_1 t13_0 t11_0 t11_1 t12_0 t12_1 t13_0 = p449 at m1 m2 m3 ⊢
      unfold F_NH_decimal_ab_c100
      have kd := V_keepDecimal (x2 := x5) (t0_0 := p449.1) (t0_1 := p449.2.1) (t3_0 := t9_0) (t3_1 := t9_1) (t4_0 := t10_0) m2 m3 (by decide) hw ht
      rw [m1] at kd
      generalize F_NH_keepDecimal x5 p449.1 p449.2.1 p449.2.2.1 p449.2.2.2.1 p449.2.2.2.2 t9_0 t9_1 t10_0 t14_0 t14_1 t15_0 t15_1 t16_0 = p482 at kd ⊢
      unfold F_NH_decimal_ab_c139_7
      by_cases z : p482.1 = 0
      · rw [if_pos z]
        rw [z] at kd
        exact kd
      · rw [if_neg z]
        exact kd
    · rw [if_neg c2]
      have c3 : x2 = 3 := Int32.toInt_inj.mp (by
        have : x2.toInt ≠ 2 := fun h => c2 (Int32.toInt_inj.mp (by rw [h]; rfl))
        show x2.toInt = 3
        omega)
      have es : sDc x2 qa qa = if qa.1 = 0 then none else some (sRem qa qa) := by
        unfold sDc
        rw [if_pos c3]
      rw [es]
      by_cases c4 : t12_0 ≤ 0
      · rw [if_pos c4, if_neg (show ¬ F_NH_canHave 0 = 0 by decide)]
        rw [if_pos ((y_sizeP ha.1).mp c4)]
        exact no
      · rw [if_neg c4, if_pos y_ch1]
        have hv : qa.1 ≠ 0 := fun h => c4 ((y_sizeP ha.1).mpr h)
        rw [if_neg hv]
        obtain ⟨m1, m2, m3⟩ := V_rest_a (t0_0 := t0_0) (t0_1 := t0_1) (t1_0 := t1_0) (t1_1 := t1_1) (t2_0 := t2_0) (t3_0 := t3_0) (t3_1 := t3_1) (t4_0 := t4_0) (t5_0 := t5_0) (t5_1 := t5_1) (t6_0 := t6_0) (t7_0 := t7_0) (t7_1 := t7_1) (t8_0 := t8_0) ha hv
        generalize F_DW_rest_a 108 t0_0 t0_1 t1_0 t1_1 t2_0 t3_0 t3_1 t4_0 t5_0 t5_1 t6_0 t7_0 t7_1 t8_0 t11_0 t11_1 t12_0 t12_1 t13_0 = p323 at m1 m2 m3 ⊢
        unfold F_NH_decimal_ab_c133_4
        have kd := V_keepDecimal (x2 := x5) (t0_0 := p323.1) (t0_1 := p323.2.1) (t3_0 := t9_0) (t3_1 := t9_1) (t4_0 := t10_0) m2 m3 (by decide) hw ht
        rw [m1] at kd
        generalize F_NH_keepDecimal x5 p323.1 p323.2.1 p323.2.2.1 p323.2.2.2.1 p323.2.2.2.2.1 t9_0 t9_1 t10_0 t14_0 t14_1 t15_0 t15_1 t16_0 = p362 at kd ⊢
        unfold F_NH_decimal_ab_c139_5
        by_cases z : p362.1 = 0
        · rw [if_pos z]
          rw [z] at kd
          exact kd
        · rw [if_neg z]
          exact kd
  · rw [if_neg c1]
    have c1 := q_nltI c1
    by_cases c2 : x2 = 1
    · rw [if_pos c2]
      have es : sDc x2 qa qa = some (sAdd 1 qa qa) := by
        unfold sDc
        rw [if_neg (by rw [c2]; decide), if_neg (by rw [c2]; decide), c2]
      rw [es]
      have su := V_DW_sum (x4 := 1) (t0_0 := t0_0) (t0_1 := t0_1) (t1_0 := t1_0) (t1_1 := t1_1) (t2_0 := t2_0) (t3_0 := t5_0) (t3_1 := t5_1) (t4_0 := t6_0) ha ha (Or.inr rfl)
      generalize F_DW_sum 108 108 1 t0_0 t0_1 t1_0 t1_1 t2_0 t5_0 t5_1 t6_0 t11_0 t11_1 t12_0 t12_1 t13_0 t11_0 t11_1 t12_0 t12_1 t13_0 = p726 at su ⊢
      unfold F_NH_decimal_ab_c78_10
      rcases su with ⟨s1, s2⟩ | ⟨s1, s2, s3, s4⟩
      · rw [s1, if_neg (show ¬ F_NH_canHave 0 = 0 by decide)]
        exact Or.inr ⟨Or.inr ⟨_, rfl, s2⟩, y_ch2, ht⟩
      · rw [s1, if_pos y_ch1]
        have kd := V_keepDecimal (x2 := x5) (t0_0 := p726.2.1) (t0_1 := p726.2.2.1) (t3_0 := t9_0) (t3_1 := t9_1) (t4_0 := t10_0) s3 s4 (by decide) hw ht
        rw [s2] at kd
        generalize F_NH_keepDecimal x5 p726.2.1 p726.2.2.1 p726.2.2.2.1 p726.2.2.2.2.1 p726.2.2.2.2.2.1 t9_0 t9_1 t10_0 t14_0 t14_1 t15_0 t15_1 t16_0 = p772 at kd ⊢
        unfold F_NH_decimal_ab_c139_11
        by_cases z : p772.1 = 0
        · rw [if_pos z]
          rw [z] at kd
          exact kd
        · rw [if_neg z]
          exact kd
    · rw [if_neg c2]
      have c3 : x2 = 0 := Int32.toInt_inj.mp (by
        have : x2.toInt ≠ 1 := fun h => c2 (Int32.toInt_inj.mp (by rw [h]; rfl))
        show x2.toInt = 0
        omega)
      have es : sDc x2 qa qa = some (sAdd 0 qa qa) := by
        unfold sDc
        rw [if_neg (by rw [c3]; decide), if_neg (by rw [c3]; decide), c3]
      rw [es]
      have su := V_DW_sum (x4 := 0) (t0_0 := t0_0) (t0_1 := t0_1) (t1_0 := t1_0) (t1_1 := t1_1) (t2_0 := t2_0) (t3_0 := t5_0) (t3_1 := t5_1) (t4_0 := t6_0) ha ha (Or.inl rfl)
      generalize F_DW_sum 108 108 0 t0_0 t0_1 t1_0 t1_1 t2_0 t5_0 t5_1 t6_0 t11_0 t11_1 t12_0 t12_1 t13_0 t11_0 t11_1 t12_0 t12_1 t13_0 = p582 at su ⊢
      unfold F_NH_decimal_ab_c78
      rcases su with ⟨s1, s2⟩ | ⟨s1, s2, s3, s4⟩
      · rw [s1, if_neg (show ¬ F_NH_canHave 0 = 0 by decide)]
        exact Or.inr ⟨Or.inr ⟨_, rfl, s2⟩, y_ch2, ht⟩
      · rw [s1, if_pos y_ch1]
        have kd := V_keepDecimal (x2 := x5) (t0_0 := p582.2.1) (t0_1 := p582.2.2.1) (t3_0 := t9_0) (t3_1 := t9_1) (t4_0 := t10_0) s3 s4 (by decide) hw ht
        rw [s2] at kd
        generalize F_NH_keepDecimal x5 p582.2.1 p582.2.2.1 p582.2.2.2.1 p582.2.2.2.2.1 p582.2.2.2.2.2.1 t9_0 t9_1 t10_0 t14_0 t14_1 t15_0 t15_1 t16_0 = p628 at kd ⊢
        unfold F_NH_decimal_ab_c139_9
        by_cases z : p628.1 = 0
        · rw [if_pos z]
          rw [z] at kd
          exact kd
        · rw [if_neg z]
          exact kd
theorem V_NH_decimalK_bt {x2 : Int32} {x3 : Int32} {x4 : Int32} {x5 : Int32} {t0_0 : Int64} {t0_1 : Int32} {t1_0 : Int32} {t1_1 : Int32} {t2_0 : (Nat → Int32)} {t3_0 : Int32} {t3_1 : Int32} {t4_0 : (Nat → Int32)} {t5_0 : Int32} {t5_1 : Int32} {t6_0 : (Nat → Int32)} {t7_0 : Int32} {t7_1 : Int32} {t8_0 : (Nat → Int32)} {t9_0 : Int32} {t9_1 : Int32} {t10_0 : (Nat → Int32)} {t11_0 : Int32} {t11_1 : Int32} {t12_0 : Int32} {t12_1 : Int32} {t13_0 : (Nat → Int32)} {t14_0 : Int32} {t14_1 : Int32} {t15_0 : Int32} {t15_1 : Int32} {t16_0 : (Nat → Int32)} {lx71 : Int32} {qa qb : Int × Int} (ha : dP 108 t12_0 t12_1 t13_0 t11_0 t11_1 qa) (hb : dP 108 t15_0 t15_1 t16_0 t14_0 t14_1 qb) (hw : bI 220 t9_0 t9_1 t10_0) (h2 : 0 ≤ x2.toInt ∧ x2.toInt ≤ 3) (hl : lx71 = 1) : cDn (sDc x2 qa qb) qb (F_NH_decimal_bt_J36 x2 x3 x4 x5 t0_0 t0_1 t1_0 t1_1 t2_0 t3_0 t3_1 t4_0 t5_0 t5_1 t6_0 t7_0 t7_1 t8_0 t9_0 t9_1 t10_0 t11_0 t11_1 t12_0 t12_1 t13_0 t14_0 t14_1 t15_0 t15_1 t16_0 lx71).1 (F_NH_decimal_bt_J36 x2 x3 x4 x5 t0_0 t0_1 t1_0 t1_1 t2_0 t3_0 t3_1 t4_0 t5_0 t5_1 t6_0 t7_0 t7_1 t8_0 t9_0 t9_1 t10_0 t11_0 t11_1 t12_0 t12_1 t13_0 t14_0 t14_1 t15_0 t15_1 t16_0 lx71).2.2.2.2.2.2.2.2.2.2.2.2.2.2.2.2.2.2.2.2.1 (F_NH_decimal_bt_J36 x2 x3 x4 x5 t0_0 t0_1 t1_0 t1_1 t2_0 t3_0 t3_1 t4_0 t5_0 t5_1 t6_0 t7_0 t7_1 t8_0 t9_0 t9_1 t10_0 t11_0 t11_1 t12_0 t12_1 t13_0 t14_0 t14_1 t15_0 t15_1 t16_0 lx71).2.2.2.2.2.2.2.2.2.2.2.2.2.2.2.2.2.2.2.2.2.1 (F_NH_decimal_bt_J36 x2 x3 x4 x5 t0_0 t0_1 t1_0 t1_1 t2_0 t3_0 t3_1 t4_0 t5_0 t5_1 t6_0 t7_0 t7_1 t8_0 t9_0 t9_1 t10_0 t11_0 t11_1 t12_0 t12_1 t13_0 t14_0 t14_1 t15_0 t15_1 t16_0 lx71).2.2.2.2.2.2.2.2.2.2.2.2.2.2.2.2.2.2.2.2.2.2 (F_NH_decimal_bt_J36 x2 x3 x4 x5 t0_0 t0_1 t1_0 t1_1 t2_0 t3_0 t3_1 t4_0 t5_0 t5_1 t6_0 t7_0 t7_1 t8_0 t9_0 t9_1 t10_0 t11_0 t11_1 t12_0 t12_1 t13_0 t14_0 t14_1 t15_0 t15_1 t16_0 lx71).2.2.2.2.2.2.2.2.2.2.2.2.2.2.2.2.2.2.1 (F_NH_decimal_bt_J36 x2 x3 x4 x5 t0_0 t0_1 t1_0 t1_1 t2_0 t3_0 t3_1 t4_0 t5_0 t5_1 t6_0 t7_0 t7_1 t8_0 t9_0 t9_1 t10_0 t11_0 t11_1 t12_0 t12_1 t13_0 t14_0 t14_1 t15_0 t15_1 t16_0 lx71).2.2.2.2.2.2.2.2.2.2.2.2.2.2.2.2.2.2.2.1 := by
  have e1 : (1 : Int32).toInt = 1 := rfl
  have n1 : F_NH_need lx71 = 0 := by rw [hl]; decide
  have no : cDn none qb 2 t15_0 t15_1 t16_0 t14_0 t14_1 := Or.inr ⟨Or.inl rfl, rfl, hb⟩
  unfold F_NH_decimal_bt_J36
  rw [if_pos n1]
  by_cases c1 : (1 : Int32) < x2
  · rw [if_pos c1]
    have c1 := q_ltI c1
    by_cases c2 : x2 = 2
    · rw [if_pos c2]
      have es : sDc x2 qa qb = some (qa.1 * qb.1, qa.2 + qb.2) := by
        unfold sDc
        rw [if_neg (by rw [c2]; decide), if_pos c2]
      rw [es]
      obtain ⟨m1, m2, m3⟩ := V_DW_multiply (t0_0 := t0_0) (t0_1 := t0_1) (t1_0 := t1_0) (t1_1 := t1_1) (t2_0 := t2_0) ha hb
      generalize F_DW_multiply 108 108 t0_0 t0_1 t1_0 t1_1 t2_0 t11_0 t11_1 t12_0 t12_1 t13_0 t14_0 t14_1 t15_0 t15_1 t16_0 = p511 at m1 m2 m3 ⊢
      unfold F_NH_decimal_bt_c100
      have kd := V_keepDecimal (x2 := x5) (t0_0 := p511.1) (t0_1 := p511.2.1) (t3_0 := t9_0) (t3_1 := t9_1) (t4_0 := t10_0) m2 m3 (by decide) hw hb
      rw [m1] at kd
      generalize F_NH_keepDecimal x5 p511.1 p511.2.1 p511.2.2.1 p511.2.2.2.1 p511.2.2.2.2 t9_0 t9_1 t10_0 t14_0 t14_1 t15_0 t15_1 t16_0 = p544 at kd ⊢
      unfold F_NH_decimal_bt_c139_7
      by_cases z : p544.1 = 0
      · rw [if_pos z]
        rw [z] at kd
        exact kd
      · rw [if_neg z]
        exact kd
    · rw [if_neg c2]
      have c3 : x2 = 3 := Int32.toInt_inj.mp (by
        have : x2.toInt ≠ 2 := fun h => c2 (Int32.toInt_inj.mp (by rw [h]; rfl))
        show x2.toInt = 3
        omega)
      have es : sDc x2 qa qb = if qb.1 = 0 then none else some (sRem qa qb) := by
        unfold sDc
        rw [if_pos c3]
      rw [es]
      by_cases c4 : t15_0 ≤ 0
      · rw [if_pos c4, if_neg (show ¬ F_NH_canHave 0 = 0 by decide)]
        rw [if_pos ((y_sizeP hb.1).mp c4)]
        exact no
      · rw [if_neg c4, if_pos y_ch1]
        have hv : qb.1 ≠ 0 := fun h => c4 ((y_sizeP hb.1).mpr h)
        rw [if_neg hv]
        obtain ⟨m1, m2, m3⟩ := V_rest (t0_0 := t0_0) (t0_1 := t0_1) (t1_0 := t1_0) (t1_1 := t1_1) (t2_0 := t2_0) (t3_0 := t3_0) (t3_1 := t3_1) (t4_0 := t4_0) (t5_0 := t5_0) (t5_1 := t5_1) (t6_0 := t6_0) (t7_0 := t7_0) (t7_1 := t7_1) (t8_0 := t8_0) ha hb hv
        have m4 := V_restB (t0_0 := t0_0) (t0_1 := t0_1) (t1_0 := t1_0) (t1_1 := t1_1) (t2_0 := t2_0) (t3_0 := t3_0) (t3_1 := t3_1) (t4_0 := t4_0) (t5_0 := t5_0) (t5_1 := t5_1) (t6_0 := t6_0) (t7_0 := t7_0) (t7_1 := t7_1) (t8_0 := t8_0) ha hb hv
        generalize F_DW_rest 108 108 t0_0 t0_1 t1_0 t1_1 t2_0 t3_0 t3_1 t4_0 t5_0 t5_1 t6_0 t7_0 t7_1 t8_0 t11_0 t11_1 t12_0 t12_1 t13_0 t14_0 t14_1 t15_0 t15_1 t16_0 = p379 at m1 m2 m3 m4 ⊢
        unfold F_NH_decimal_bt_c133_4
        have kd := V_keepDecimal (x2 := x5) (t0_0 := p379.1) (t0_1 := p379.2.1) (t3_0 := t9_0) (t3_1 := t9_1) (t4_0 := t10_0) m2 m3 (by decide) hw (show dP 108 p379.2.2.2.2.2.2.2.2.2.2.2.2.2.2.1 p379.2.2.2.2.2.2.2.2.2.2.2.2.2.2.2.1 p379.2.2.2.2.2.2.2.2.2.2.2.2.2.2.2.2 t14_0 t14_1 qb from ⟨m4, hb.2⟩)
        rw [m1] at kd
        generalize F_NH_keepDecimal x5 p379.1 p379.2.1 p379.2.2.1 p379.2.2.2.1 p379.2.2.2.2.1 t9_0 t9_1 t10_0 t14_0 t14_1 p379.2.2.2.2.2.2.2.2.2.2.2.2.2.2.1 p379.2.2.2.2.2.2.2.2.2.2.2.2.2.2.2.1 p379.2.2.2.2.2.2.2.2.2.2.2.2.2.2.2.2 = p424 at kd ⊢
        unfold F_NH_decimal_bt_c139_5
        by_cases z : p424.1 = 0
        · rw [if_pos z]
          rw [z] at kd
          exact kd
        · rw [if_neg z]
          exact kd
  · rw [if_neg c1]
    have c1 := q_nltI c1
    by_cases c2 : x2 = 1
    · rw [if_pos c2]
      have es : sDc x2 qa qb = some (sAdd 1 qa qb) := by
        unfold sDc
        rw [if_neg (by rw [c2]; decide), if_neg (by rw [c2]; decide), c2]
      rw [es]
      have su := V_DW_sum (x4 := 1) (t0_0 := t0_0) (t0_1 := t0_1) (t1_0 := t1_0) (t1_1 := t1_1) (t2_0 := t2_0) (t3_0 := t5_0) (t3_1 := t5_1) (t4_0 := t6_0) ha hb (Or.inr rfl)
      generalize F_DW_sum 108 108 1 t0_0 t0_1 t1_0 t1_1 t2_0 t5_0 t5_1 t6_0 t11_0 t11_1 t12_0 t12_1 t13_0 t14_0 t14_1 t15_0 t15_1 t16_0 = p788 at su ⊢
      unfold F_NH_decimal_bt_c78_10
      rcases su with ⟨s1, s2⟩ | ⟨s1, s2, s3, s4⟩
      · rw [s1, if_neg (show ¬ F_NH_canHave 0 = 0 by decide)]
        exact Or.inr ⟨Or.inr ⟨_, rfl, s2⟩, y_ch2, hb⟩
      · rw [s1, if_pos y_ch1]
        have kd := V_keepDecimal (x2 := x5) (t0_0 := p788.2.1) (t0_1 := p788.2.2.1) (t3_0 := t9_0) (t3_1 := t9_1) (t4_0 := t10_0) s3 s4 (by decide) hw hb
        rw [s2] at kd
        generalize F_NH_keepDecimal x5 p788.2.1 p788.2.2.1 p788.2.2.2.1 p788.2.2.2.2.1 p788.2.2.2.2.2.1 t9_0 t9_1 t10_0 t14_0 t14_1 t15_0 t15_1 t16_0 = p834 at kd ⊢
        unfold F_NH_decimal_bt_c139_11
        by_cases z : p834.1 = 0
        · rw [if_pos z]
          rw [z] at kd
          exact kd
        · rw [if_neg z]
          exact kd
    · rw [if_neg c2]
      have c3 : x2 = 0 := Int32.toInt_inj.mp (by
        have : x2.toInt ≠ 1 := fun h => c2 (Int32.toInt_inj.mp (by rw [h]; rfl))
        show x2.toInt = 0
        omega)
      have es : sDc x2 qa qb = some (sAdd 0 qa qb) := by
        unfold sDc
        rw [if_neg (by rw [c3]; decide), if_neg (by rw [c3]; decide), c3]
      rw [es]
      have su := V_DW_sum (x4 := 0) (t0_0 := t0_0) (t0_1 := t0_1) (t1_0 := t1_0) (t1_1 := t1_1) (t2_0 := t2_0) (t3_0 := t5_0) (t3_1 := t5_1) (t4_0 := t6_0) ha hb (Or.inl rfl)
      generalize F_DW_sum 108 108 0 t0_0 t0_1 t1_0 t1_1 t2_0 t5_0 t5_1 t6_0 t11_0 t11_1 t12_0 t12_1 t13_0 t14_0 t14_1 t15_0 t15_1 t16_0 = p644 at su ⊢
      unfold F_NH_decimal_bt_c78
      rcases su with ⟨s1, s2⟩ | ⟨s1, s2, s3, s4⟩
      · rw [s1, if_neg (show ¬ F_NH_canHave 0 = 0 by decide)]
        exact Or.inr ⟨Or.inr ⟨_, rfl, s2⟩, y_ch2, hb⟩
      · rw [s1, if_pos y_ch1]
        have kd := V_keepDecimal (x2 := x5) (t0_0 := p644.2.1) (t0_1 := p644.2.2.1) (t3_0 := t9_0) (t3_1 := t9_1) (t4_0 := t10_0) s3 s4 (by decide) hw hb
        rw [s2] at kd
        generalize F_NH_keepDecimal x5 p644.2.1 p644.2.2.1 p644.2.2.2.1 p644.2.2.2.2.1 p644.2.2.2.2.2.1 t9_0 t9_1 t10_0 t14_0 t14_1 t15_0 t15_1 t16_0 = p690 at kd ⊢
        unfold F_NH_decimal_bt_c139_9
        by_cases z : p690.1 = 0
        · rw [if_pos z]
          rw [z] at kd
          exact kd
        · rw [if_neg z]
          exact kd
theorem V_NH_decimalK_abt {x2 : Int32} {x3 : Int32} {x4 : Int32} {x5 : Int32} {t0_0 : Int64} {t0_1 : Int32} {t1_0 : Int32} {t1_1 : Int32} {t2_0 : (Nat → Int32)} {t3_0 : Int32} {t3_1 : Int32} {t4_0 : (Nat → Int32)} {t5_0 : Int32} {t5_1 : Int32} {t6_0 : (Nat → Int32)} {t7_0 : Int32} {t7_1 : Int32} {t8_0 : (Nat → Int32)} {t9_0 : Int32} {t9_1 : Int32} {t10_0 : (Nat → Int32)} {t11_0 : Int32} {t11_1 : Int32} {t12_0 : Int32} {t12_1 : Int32} {t13_0 : (Nat → Int32)} {lx58 : Int32} {qa : Int × Int} (ha : dP 108 t12_0 t12_1 t13_0 t11_0 t11_1 qa) (hw : bI 220 t9_0 t9_1 t10_0) (h2 : 0 ≤ x2.toInt ∧ x2.toInt ≤ 3) (hl : lx58 = 1) : cDn (sDc x2 qa qa) qa (F_NH_decimal_abt_J36 x2 x3 x4 x5 t0_0 t0_1 t1_0 t1_1 t2_0 t3_0 t3_1 t4_0 t5_0 t5_1 t6_0 t7_0 t7_1 t8_0 t9_0 t9_1 t10_0 t11_0 t11_1 t12_0 t12_1 t13_0 lx58).1 (F_NH_decimal_abt_J36 x2 x3 x4 x5 t0_0 t0_1 t1_0 t1_1 t2_0 t3_0 t3_1 t4_0 t5_0 t5_1 t6_0 t7_0 t7_1 t8_0 t9_0 t9_1 t10_0 t11_0 t11_1 t12_0 t12_1 t13_0 lx58).2.2.2.2.2.2.2.2.2.2.2.2.2.2.2.2.2.1 (F_NH_decimal_abt_J36 x2 x3 x4 x5 t0_0 t0_1 t1_0 t1_1 t2_0 t3_0 t3_1 t4_0 t5_0 t5_1 t6_0 t7_0 t7_1 t8_0 t9_0 t9_1 t10_0 t11_0 t11_1 t12_0 t12_1 t13_0 lx58).2.2.2.2.2.2.2.2.2.2.2.2.2.2.2.2.2.2.1 (F_NH_decimal_abt_J36 x2 x3 x4 x5 t0_0 t0_1 t1_0 t1_1 t2_0 t3_0 t3_1 t4_0 t5_0 t5_1 t6_0 t7_0 t7_1 t8_0 t9_0 t9_1 t10_0 t11_0 t11_1 t12_0 t12_1 t13_0 lx58).2.2.2.2.2.2.2.2.2.2.2.2.2.2.2.2.2.2.2 (F_NH_decimal_abt_J36 x2 x3 x4 x5 t0_0 t0_1 t1_0 t1_1 t2_0 t3_0 t3_1 t4_0 t5_0 t5_1 t6_0 t7_0 t7_1 t8_0 t9_0 t9_1 t10_0 t11_0 t11_1 t12_0 t12_1 t13_0 lx58).2.2.2.2.2.2.2.2.2.2.2.2.2.2.2.1 (F_NH_decimal_abt_J36 x2 x3 x4 x5 t0_0 t0_1 t1_0 t1_1 t2_0 t3_0 t3_1 t4_0 t5_0 t5_1 t6_0 t7_0 t7_1 t8_0 t9_0 t9_1 t10_0 t11_0 t11_1 t12_0 t12_1 t13_0 lx58).2.2.2.2.2.2.2.2.2.2.2.2.2.2.2.2.1 := by
  have e1 : (1 : Int32).toInt = 1 := rfl
  have n1 : F_NH_need lx58 = 0 := by rw [hl]; decide
  have no : cDn none qa 2 t12_0 t12_1 t13_0 t11_0 t11_1 := Or.inr ⟨Or.inl rfl, rfl, ha⟩
  unfold F_NH_decimal_abt_J36
  rw [if_pos n1]
  by_cases c1 : (1 : Int32) < x2
  · rw [if_pos c1]
    have c1 := q_ltI c1
    by_cases c2 : x2 = 2
    · rw [if_pos c2]
      have es : sDc x2 qa qa = some (qa.1 * qa.1, qa.2 + qa.2) := by
        unfold sDc
        rw [if_neg (by rw [c2]; decide), if_pos c2]
      rw [es]
      obtain ⟨m1, m2, m3⟩ := V_DW_multiply (t0_0 := t0_0) (t0_1 := t0_1) (t1_0 := t1_0) (t1_1 := t1_1) (t2_0 := t2_0) ha ha
      generalize F_DW_multiply 108 108 t0_0 t0_1 t1_0 t1_1 t2_0 t11_0 t11_1 t12_0 t12_1 t13_0 t11_0 t11_1 t12_0 t12_1 t13_0 = p433 at m1 m2 m3 ⊢
      unfold F_NH_decimal_abt_c100
      have kd := V_keepDecimal (x2 := x5) (t0_0 := p433.1) (t0_1 := p433.2.1) (t3_0 := t9_0) (t3_1 := t9_1) (t4_0 := t10_0) m2 m3 (by decide) hw ha
      rw [m1] at kd
      generalize F_NH_keepDecimal x5 p433.1 p433.2.1 p433.2.2.1 p433.2.2.2.1 p433.2.2.2.2 t9_0 t9_1 t10_0 t11_0 t11_1 t12_0 t12_1 t13_0 = p466 at kd ⊢
      unfold F_NH_decimal_abt_c139_7
      by_cases z : p466.1 = 0
      · rw [if_pos z]
        rw [z] at kd
        exact kd
      · rw [if_neg z]
        exact kd
    · rw [if_neg c2]
      have c3 : x2 = 3 := Int32.toInt_inj.mp (by
        have : x2.toInt ≠ 2 := fun h => c2 (Int32.toInt_inj.mp (by rw [h]; rfl))
        show x2.toInt = 3
        omega)
      have es : sDc x2 qa qa = if qa.1 = 0 then none else some (sRem qa qa) := by
        unfold sDc
        rw [if_pos c3]
      rw [es]
      by_cases c4 : t12_0 ≤ 0
      · rw [if_pos c4, if_neg (show ¬ F_NH_canHave 0 = 0 by decide)]
        rw [if_pos ((y_sizeP ha.1).mp c4)]
        exact no
      · rw [if_neg c4, if_pos y_ch1]
        have hv : qa.1 ≠ 0 := fun h => c4 ((y_sizeP ha.1).mpr h)
        rw [if_neg hv]
        obtain ⟨m1, m2, m3⟩ := V_rest_a (t0_0 := t0_0) (t0_1 := t0_1) (t1_0 := t1_0) (t1_1 := t1_1) (t2_0 := t2_0) (t3_0 := t3_0) (t3_1 := t3_1) (t4_0 := t4_0) (t5_0 := t5_0) (t5_1 := t5_1) (t6_0 := t6_0) (t7_0 := t7_0) (t7_1 := t7_1) (t8_0 := t8_0) ha hv
        generalize F_DW_rest_a 108 t0_0 t0_1 t1_0 t1_1 t2_0 t3_0 t3_1 t4_0 t5_0 t5_1 t6_0 t7_0 t7_1 t8_0 t11_0 t11_1 t12_0 t12_1 t13_0 = p307 at m1 m2 m3 ⊢
        unfold F_NH_decimal_abt_c133_4
        have kd := V_keepDecimal (x2 := x5) (t0_0 := p307.1) (t0_1 := p307.2.1) (t3_0 := t9_0) (t3_1 := t9_1) (t4_0 := t10_0) m2 m3 (by decide) hw ha
        rw [m1] at kd
        generalize F_NH_keepDecimal x5 p307.1 p307.2.1 p307.2.2.1 p307.2.2.2.1 p307.2.2.2.2.1 t9_0 t9_1 t10_0 t11_0 t11_1 t12_0 t12_1 t13_0 = p346 at kd ⊢
        unfold F_NH_decimal_abt_c139_5
        by_cases z : p346.1 = 0
        · rw [if_pos z]
          rw [z] at kd
          exact kd
        · rw [if_neg z]
          exact kd
  · rw [if_neg c1]
    have c1 := q_nltI c1
    by_cases c2 : x2 = 1
    · rw [if_pos c2]
      have es : sDc x2 qa qa = some (sAdd 1 qa qa) := by
        unfold sDc
        rw [if_neg (by rw [c2]; decide), if_neg (by rw [c2]; decide), c2]
      rw [es]
      have su := V_DW_sum (x4 := 1) (t0_0 := t0_0) (t0_1 := t0_1) (t1_0 := t1_0) (t1_1 := t1_1) (t2_0 := t2_0) (t3_0 := t5_0) (t3_1 := t5_1) (t4_0 := t6_0) ha ha (Or.inr rfl)
      generalize F_DW_sum 108 108 1 t0_0 t0_1 t1_0 t1_1 t2_0 t5_0 t5_1 t6_0 t11_0 t11_1 t12_0 t12_1 t13_0 t11_0 t11_1 t12_0 t12_1 t13_0 = p710 at su ⊢
      unfold F_NH_decimal_abt_c78_10
      rcases su with ⟨s1, s2⟩ | ⟨s1, s2, s3, s4⟩
      · rw [s1, if_neg (show ¬ F_NH_canHave 0 = 0 by decide)]
        exact Or.inr ⟨Or.inr ⟨_, rfl, s2⟩, y_ch2, ha⟩
      · rw [s1, if_pos y_ch1]
        have kd := V_keepDecimal (x2 := x5) (t0_0 := p710.2.1) (t0_1 := p710.2.2.1) (t3_0 := t9_0) (t3_1 := t9_1) (t4_0 := t10_0) s3 s4 (by decide) hw ha
        rw [s2] at kd
        generalize F_NH_keepDecimal x5 p710.2.1 p710.2.2.1 p710.2.2.2.1 p710.2.2.2.2.1 p710.2.2.2.2.2.1 t9_0 t9_1 t10_0 t11_0 t11_1 t12_0 t12_1 t13_0 = p756 at kd ⊢
        unfold F_NH_decimal_abt_c139_11
        by_cases z : p756.1 = 0
        · rw [if_pos z]
          rw [z] at kd
          exact kd
        · rw [if_neg z]
          exact kd
    · rw [if_neg c2]
      have c3 : x2 = 0 := Int32.toInt_inj.mp (by
        have : x2.toInt ≠ 1 := fun h => c2 (Int32.toInt_inj.mp (by rw [h]; rfl))
        show x2.toInt = 0
        omega)
      have es : sDc x2 qa qa = some (sAdd 0 qa qa) := by
        unfold sDc
        rw [if_neg (by rw [c3]; decide), if_neg (by rw [c3]; decide), c3]
      rw [es]
      have su := V_DW_sum (x4 := 0) (t0_0 := t0_0) (t0_1 := t0_1) (t1_0 := t1_0) (t1_1 := t1_1) (t2_0 := t2_0) (t3_0 := t5_0) (t3_1 := t5_1) (t4_0 := t6_0) ha ha (Or.inl rfl)
      generalize F_DW_sum 108 108 0 t0_0 t0_1 t1_0 t1_1 t2_0 t5_0 t5_1 t6_0 t11_0 t11_1 t12_0 t12_1 t13_0 t11_0 t11_1 t12_0 t12_1 t13_0 = p566 at su ⊢
      unfold F_NH_decimal_abt_c78
      rcases su with ⟨s1, s2⟩ | ⟨s1, s2, s3, s4⟩
      · rw [s1, if_neg (show ¬ F_NH_canHave 0 = 0 by decide)]
        exact Or.inr ⟨Or.inr ⟨_, rfl, s2⟩, y_ch2, ha⟩
      · rw [s1, if_pos y_ch1]
        have kd := V_keepDecimal (x2 := x5) (t0_0 := p566.2.1) (t0_1 := p566.2.2.1) (t3_0 := t9_0) (t3_1 := t9_1) (t4_0 := t10_0) s3 s4 (by decide) hw ha
        rw [s2] at kd
        generalize F_NH_keepDecimal x5 p566.2.1 p566.2.2.1 p566.2.2.2.1 p566.2.2.2.2.1 p566.2.2.2.2.2.1 t9_0 t9_1 t10_0 t11_0 t11_1 t12_0 t12_1 t13_0 = p612 at kd ⊢
        unfold F_NH_decimal_abt_c139_9
        by_cases z : p612.1 = 0
        · rw [if_pos z]
          rw [z] at kd
          exact kd
        · rw [if_neg z]
          exact kd
