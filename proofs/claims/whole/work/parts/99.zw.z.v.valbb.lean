/-! values, for whole: decimal, as a call of the class -/
theorem V_restB {R : Int32} {R2 : Int32} {t0_0 : Int64} {t0_1 : Int32} {t1_0 : Int32} {t1_1 : Int32} {t2_0 : (Nat → Int32)} {t3_0 : Int32} {t3_1 : Int32} {t4_0 : (Nat → Int32)} {t5_0 : Int32} {t5_1 : Int32} {t6_0 : (Nat → Int32)} {t7_0 : Int32} {t7_1 : Int32} {t8_0 : (Nat → Int32)} {t9_0 : Int32} {t9_1 : Int32} {t10_0 : Int32} {t10_1 : Int32} {t11_0 : (Nat → Int32)} {t12_0 : Int32} {t12_1 : Int32} {t13_0 : Int32} {t13_1 : Int32} {t14_0 : (Nat → Int32)} {qa qb : Int × Int} (ha : dP R t10_0 t10_1 t11_0 t9_0 t9_1 qa) (hb : dP R2 t13_0 t13_1 t14_0 t12_0 t12_1 qb) (hv : qb.1 ≠ 0) : bO R2 (F_DW_rest R R2 t0_0 t0_1 t1_0 t1_1 t2_0 t3_0 t3_1 t4_0 t5_0 t5_1 t6_0 t7_0 t7_1 t8_0 t9_0 t9_1 t10_0 t10_1 t11_0 t12_0 t12_1 t13_0 t13_1 t14_0).2.2.2.2.2.2.2.2.2.2.2.2.2.2.1 (F_DW_rest R R2 t0_0 t0_1 t1_0 t1_1 t2_0 t3_0 t3_1 t4_0 t5_0 t5_1 t6_0 t7_0 t7_1 t8_0 t9_0 t9_1 t10_0 t10_1 t11_0 t12_0 t12_1 t13_0 t13_1 t14_0).2.2.2.2.2.2.2.2.2.2.2.2.2.2.2.1 (F_DW_rest R R2 t0_0 t0_1 t1_0 t1_1 t2_0 t3_0 t3_1 t4_0 t5_0 t5_1 t6_0 t7_0 t7_1 t8_0 t9_0 t9_1 t10_0 t10_1 t11_0 t12_0 t12_1 t13_0 t13_1 t14_0).2.2.2.2.2.2.2.2.2.2.2.2.2.2.2.2 qb.1 := by
  have e := e220
  have hBa := ha.O.B
  have hBb := hb.O.B
  obtain ⟨ha1, ⟨ca, ca1, ca2, ca3⟩, ha2, ha3, ha4⟩ := ha
  obtain ⟨hb1, ⟨cb, cb1, cb2, cb3⟩, hb2, hb3, hb4⟩ := hb
  have q3 : (t9_0 - t12_0 : Int32).toInt = qa.2 - qb.2 := q_subI ha2 hb2 (by omega) (by omega)
  have q4 := v_absI (x := t9_0 - t12_0) (by omega) (by omega)
  rw [q3] at q4
  unfold F_DW_rest
  have h1 : P1 220 qa.1 (F_Big_copy 220 R t1_0 t1_1 t2_0 t10_0 t10_1 t11_0) := W_copy ha1 ha1.fit (by decide)
  generalize F_Big_copy 220 R t1_0 t1_1 t2_0 t10_0 t10_1 t11_0 = p96 at h1 ⊢
  generalize F_jMath_abs_II (t9_0 - t12_0) = a76 at q4 ⊢
  generalize (if t9_0 < t12_0 then t12_0 else t9_0 : Int32).toInt64 = j66
  unfold F_DW_rest_c40
  by_cases g : t12_0 ≤ t9_0
  · rw [if_pos g]
    by_cases g2 : t9_1 < t12_1 + a76
    · rw [if_pos g2]
      exact hb1
    · rw [if_neg g2]
      unfold F_DW_rest_c90 F_DW_rest_c101 F_DW_rest_c125
      exact hb1
  · rw [if_neg g]
    have h2 := (T_raiseBelow (x2 := a76) (t2_0 := t3_0) (t2_1 := t3_1) (t3_0 := t4_0) (t4_0 := t5_0) (t4_1 := t5_1) (t5_0 := t6_0) (t6_0 := t7_0) (t6_1 := t7_1) (t7_0 := t8_0) h1 hb1 hv hBa hBb (by omega) trivial).2
    generalize F_DW_raiseBelow a76 R2 p96.1 p96.2.1 p96.2.2 t3_0 t3_1 t4_0 t5_0 t5_1 t6_0 t7_0 t7_1 t8_0 t13_0 t13_1 t14_0 = p262 at h2 ⊢
    unfold F_DW_rest_c60
    exact h2.2.2.2.2
/-- how a decimal comes out of two: sum, difference, product, rest -/
def sDc (h : Int32) (qa qb : Int × Int) : Option (Int × Int) := if h = 3 then (if qb.1 = 0 then none else some (sRem qa qb)) else if h = 2 then some (qa.1 * qb.1, qa.2 + qb.2) else some (sAdd h qa qb)
/-- what decimal leaves -/
def QV_dcl (o : Option (Int × Int)) (qb qt : Int × Int) (b0 b1 : Int32) (y : Int32 × Int64 × Int32 × Int32 × Int32 × (Nat → Int32) × Int32 × Int32 × (Nat → Int32) × Int32 × Int32 × (Nat → Int32) × Int32 × Int32 × (Nat → Int32) × Int32 × Int32 × (Nat → Int32) × Int32 × Int32 × (Nat → Int32) × Int32 × Int32 × Int32 × Int32 × (Nat → Int32)) : Prop := cDn o qt y.1 y.2.2.2.2.2.2.2.2.2.2.2.2.2.2.2.2.2.2.2.2.2.2.2.1 y.2.2.2.2.2.2.2.2.2.2.2.2.2.2.2.2.2.2.2.2.2.2.2.2.1 y.2.2.2.2.2.2.2.2.2.2.2.2.2.2.2.2.2.2.2.2.2.2.2.2.2 y.2.2.2.2.2.2.2.2.2.2.2.2.2.2.2.2.2.2.2.2.2.1 y.2.2.2.2.2.2.2.2.2.2.2.2.2.2.2.2.2.2.2.2.2.2.1 ∧ bO 108 y.2.2.2.2.2.2.2.2.2.2.2.2.2.2.2.2.2.2.1 y.2.2.2.2.2.2.2.2.2.2.2.2.2.2.2.2.2.2.2.1 y.2.2.2.2.2.2.2.2.2.2.2.2.2.2.2.2.2.2.2.2.1 qb.1
theorem cDn.c {o : Option (Int × Int)} {qt : Int × Int} {c s n : Int32} {f : Nat → Int32} {sc fc : Int32} (h : cDn o qt c s n f sc fc) : c = 0 ∨ c = 2 := by
  rcases h with ⟨q, _, _, h, _⟩ | ⟨_, h, _⟩
  · exact Or.inl h
  · exact Or.inr h
theorem V_NH_decimalK {x2 : Int32} {x3 : Int32} {x4 : Int32} {x5 : Int32} {t0_0 : Int64} {t0_1 : Int32} {t1_0 : Int32} {t1_1 : Int32} {t2_0 : (Nat → Int32)} {t3_0 : Int32} {t3_1 : Int32} {t4_0 : (Nat → Int32)} {t5_0 : Int32} {t5_1 : Int32} {t6_0 : (Nat → Int32)} {t7_0 : Int32} {t7_1 : Int32} {t8_0 : (Nat → Int32)} {t9_0 : Int32} {t9_1 : Int32} {t10_0 : (Nat → Int32)} {t11_0 : Int32} {t11_1 : Int32} {t12_0 : Int32} {t12_1 : Int32} {t13_0 : (Nat → Int32)} {t14_0 : Int32} {t14_1 : Int32} {t15_0 : Int32} {t15_1 : Int32} {t16_0 : (Nat → Int32)} {t17_0 : Int32} {t17_1 : Int32} {t18_0 : Int32} {t18_1 : Int32} {t19_0 : (Nat → Int32)} {lx84 : Int32} {qa qb qt : Int × Int} (ha : dP 108 t12_0 t12_1 t13_0 t11_0 t11_1 qa) (hb : dP 108 t15_0 t15_1 t16_0 t14_0 t14_1 qb) (ht : dP 108 t18_0 t18_1 t19_0 t17_0 t17_1 qt) (hw : bI 220 t9_0 t9_1 t10_0) (h2 : 0 ≤ x2.toInt ∧ x2.toInt ≤ 3) (hl : lx84 = 1) : QV_dcl (sDc x2 qa qb) qb qt t14_0 t14_1 (F_NH_decimal_J36 x2 x3 x4 x5 t0_0 t0_1 t1_0 t1_1 t2_0 t3_0 t3_1 t4_0 t5_0 t5_1 t6_0 t7_0 t7_1 t8_0 t9_0 t9_1 t10_0 t11_0 t11_1 t12_0 t12_1 t13_0 t14_0 t14_1 t15_0 t15_1 t16_0 t17_0 t17_1 t18_0 t18_1 t19_0 lx84) := by
  have e1 : (1 : Int32).toInt = 1 := rfl
  have e0 : (0 : Int32).toInt = 0 := rfl
  have n1 : F_NH_need lx84 = 0 := by rw [hl]; decide
  have no : cDn none qt 2 t18_0 t18_1 t19_0 t17_0 t17_1 := Or.inr ⟨Or.inl rfl, rfl, ht⟩
  unfold F_NH_decimal_J36
  rw [if_pos n1]
  by_cases c1 : (1 : Int32) < x2
  · rw [if_pos c1]
    have c1 := q_ltI c1
    by_cases c2 : x2 = 2
    · rw [if_pos c2]
      have es : sDc x2 qa qb = some (qa.1 * qb.1, qa.2 + qb.2) := by
        unfold sDc
        rw [if_neg (by rw [c2]; decide), if_pos c2]
      rw [es]
      obtain ⟨m1, m2, m3⟩ := V_DW_multiply (t0_0 := t0_0) (t0_1 := t0_1) (t1_0 := t1_0) (t1_1 := t1_1) (t2_0 := t2_0) ha hb
      generalize F_DW_multiply 108 108 t0_0 t0_1 t1_0 t1_1 t2_0 t11_0 t11_1 t12_0 t12_1 t13_0 t14_0 t14_1 t15_0 t15_1 t16_0 = p527 at m1 m2 m3 ⊢
      unfold F_NH_decimal_c100
      have kd := V_keepDecimal (x2 := x5) (t0_0 := p527.1) (t0_1 := p527.2.1) (t3_0 := t9_0) (t3_1 := t9_1) (t4_0 := t10_0) m2 m3 (by decide) hw ht
      rw [m1] at kd
      generalize F_NH_keepDecimal x5 p527.1 p527.2.1 p527.2.2.1 p527.2.2.2.1 p527.2.2.2.2 t9_0 t9_1 t10_0 t17_0 t17_1 t18_0 t18_1 t19_0 = p560 at kd ⊢
      unfold F_NH_decimal_c139_7
      by_cases z : p560.1 = 0
      · rw [if_pos z]
        rw [z] at kd
        exact ⟨kd, hb.1⟩
      · rw [if_neg z]
        exact ⟨kd, hb.1⟩
    · rw [if_neg c2]
      have c3 : x2 = 3 := Int32.toInt_inj.mp (by
        have : x2.toInt ≠ 2 := fun h => c2 (Int32.toInt_inj.mp (by rw [h]; rfl))
        show x2.toInt = 3
        omega)
      have es : sDc x2 qa qb = if qb.1 = 0 then none else some (sRem qa qb) := by
        unfold sDc
        rw [if_pos c3]
      rw [es]
      by_cases c4 : t15_0 ≤ 0
      · rw [if_pos c4, if_neg (show ¬ F_NH_canHave 0 = 0 by decide)]
        rw [if_pos ((y_sizeP hb.1).mp c4)]
        exact ⟨no, hb.1⟩
      · rw [if_neg c4, if_pos y_ch1]
        have hv : qb.1 ≠ 0 := fun h => c4 ((y_sizeP hb.1).mpr h)
        rw [if_neg hv]
        obtain ⟨m1, m2, m3⟩ := V_rest (t0_0 := t0_0) (t0_1 := t0_1) (t1_0 := t1_0) (t1_1 := t1_1) (t2_0 := t2_0) (t3_0 := t3_0) (t3_1 := t3_1) (t4_0 := t4_0) (t5_0 := t5_0) (t5_1 := t5_1) (t6_0 := t6_0) (t7_0 := t7_0) (t7_1 := t7_1) (t8_0 := t8_0) ha hb hv
        have m4 := V_restB (t0_0 := t0_0) (t0_1 := t0_1) (t1_0 := t1_0) (t1_1 := t1_1) (t2_0 := t2_0) (t3_0 := t3_0) (t3_1 := t3_1) (t4_0 := t4_0) (t5_0 := t5_0) (t5_1 := t5_1) (t6_0 := t6_0) (t7_0 := t7_0) (t7_1 := t7_1) (t8_0 := t8_0) ha hb hv
        generalize F_DW_rest 108 108 t0_0 t0_1 t1_0 t1_1 t2_0 t3_0 t3_1 t4_0 t5_0 t5_1 t6_0 t7_0 t7_1 t8_0 t11_0 t11_1 t12_0 t12_1 t13_0 t14_0 t14_1 t15_0 t15_1 t16_0 = p395 at m1 m2 m3 m4 ⊢
        unfold F_NH_decimal_c133_4
        have kd := V_keepDecimal (x2 := x5) (t0_0 := p395.1) (t0_1 := p395.2.1) (t3_0 := t9_0) (t3_1 := t9_1) (t4_0 := t10_0) m2 m3 (by decide) hw ht
        rw [m1] at kd
        generalize F_NH_keepDecimal x5 p395.1 p395.2.1 p395.2.2.1 p395.2.2.2.1 p395.2.2.2.2.1 t9_0 t9_1 t10_0 t17_0 t17_1 t18_0 t18_1 t19_0 = p440 at kd ⊢
        unfold F_NH_decimal_c139_5
        by_cases z : p440.1 = 0
        · rw [if_pos z]
          rw [z] at kd
          exact ⟨kd, m4⟩
        · rw [if_neg z]
          exact ⟨kd, m4⟩
  · rw [if_neg c1]
    have c1 := q_nltI c1
    by_cases c2 : x2 = 1
    · rw [if_pos c2]
      have es : sDc x2 qa qb = some (sAdd 1 qa qb) := by
        unfold sDc
        rw [if_neg (by rw [c2]; decide), if_neg (by rw [c2]; decide), c2]
      rw [es]
      have su := V_DW_sum (x4 := 1) (t0_0 := t0_0) (t0_1 := t0_1) (t1_0 := t1_0) (t1_1 := t1_1) (t2_0 := t2_0) (t3_0 := t5_0) (t3_1 := t5_1) (t4_0 := t6_0) ha hb (Or.inr rfl)
      generalize F_DW_sum 108 108 1 t0_0 t0_1 t1_0 t1_1 t2_0 t5_0 t5_1 t6_0 t11_0 t11_1 t12_0 t12_1 t13_0 t14_0 t14_1 t15_0 t15_1 t16_0 = p804 at su ⊢
      unfold F_NH_decimal_c78_10
      rcases su with ⟨s1, s2⟩ | ⟨s1, s2, s3, s4⟩
      · rw [s1, if_neg (show ¬ F_NH_canHave 0 = 0 by decide)]
        exact ⟨Or.inr ⟨Or.inr ⟨_, rfl, s2⟩, y_ch2, ht⟩, hb.1⟩
      · rw [s1, if_pos y_ch1]
        have kd := V_keepDecimal (x2 := x5) (t0_0 := p804.2.1) (t0_1 := p804.2.2.1) (t3_0 := t9_0) (t3_1 := t9_1) (t4_0 := t10_0) s3 s4 (by decide) hw ht
        rw [s2] at kd
        generalize F_NH_keepDecimal x5 p804.2.1 p804.2.2.1 p804.2.2.2.1 p804.2.2.2.2.1 p804.2.2.2.2.2.1 t9_0 t9_1 t10_0 t17_0 t17_1 t18_0 t18_1 t19_0 = p850 at kd ⊢
        unfold F_NH_decimal_c139_11
        by_cases z : p850.1 = 0
        · rw [if_pos z]
          rw [z] at kd
          exact ⟨kd, hb.1⟩
        · rw [if_neg z]
          exact ⟨kd, hb.1⟩
    · rw [if_neg c2]
      have c3 : x2 = 0 := Int32.toInt_inj.mp (by
        have : x2.toInt ≠ 1 := fun h => c2 (Int32.toInt_inj.mp (by rw [h]; rfl))
        show x2.toInt = 0
        omega)
      have es : sDc x2 qa qb = some (sAdd 0 qa qb) := by
        unfold sDc
        rw [if_neg (by rw [c3]; decide), if_neg (by rw [c3]; decide), c3]
      rw [es]
      have su := V_DW_sum (x4 := 0) (t0_0 := t0_0) (t0_1 := t0_1) (t1_0 := t1_0) (t1_1 := t1_1) (t2_0 := t2_0) (t3_0 := t5_0) (t3_1 := t5_1) (t4_0 := t6_0) ha hb (Or.inl rfl)
      generalize F_DW_sum 108 108 0 t0_0 t0_1 t1_0 t1_1 t2_0 t5_0 t5_1 t6_0 t11_0 t11_1 t12_0 t12_1 t13_0 t14_0 t14_1 t15_0 t15_1 t16_0 = p660 at su ⊢
      unfold F_NH_decimal_c78
      rcases su with ⟨s1, s2⟩ | ⟨s1, s2, s3, s4⟩
      · rw [s1, if_neg (show ¬ F_NH_canHave 0 = 0 by decide)]
        exact ⟨Or.inr ⟨Or.inr ⟨_, rfl, s2⟩, y_ch2, ht⟩, hb.1⟩
      · rw [s1, if_pos y_ch1]
        have kd := V_keepDecimal (x2 := x5) (t0_0 := p660.2.1) (t0_1 := p660.2.2.1) (t3_0 := t9_0) (t3_1 := t9_1) (t4_0 := t10_0) s3 s4 (by decide) hw ht
        rw [s2] at kd
        generalize F_NH_keepDecimal x5 p660.2.1 p660.2.2.1 p660.2.2.2.1 p660.2.2.2.2.1 p660.2.2.2.2.2.1 t9_0 t9_1 t10_0 t17_0 t17_1 t18_0 t18_1 t19_0 = p706 at kd ⊢
        unfold F_NH_decimal_c139_9
        by_cases z : p706.1 = 0
        · rw [if_pos z]
          rw [z] at kd
          exact ⟨kd, hb.1⟩
        · rw [if_neg z]
          exact ⟨kd, hb.1⟩
