/-! values, for whole: shape, as a call of the class -/
/-- how a decimal is shaped: to a scale, to a precision, its root -/
def sSh (h : Int32) (qa : Int × Int) (n m : Int32) (o : Option (Int × Int)) : Prop := (h = 0 ∧ o = sDiv m qa (1, 0) n.toInt) ∨ (h = 1 ∧ sQ (qP n) (qM n m) qa (1, 0) o) ∨ (h = 2 ∧ ((qa.1 < 0 ∧ o = none) ∨ (0 ≤ qa.1 ∧ sRt n.toInt.toNat m qa o)))
theorem y_sgnB {R s n : Int32} {f : Nat → Int32} {v : Int} (h : bO R s n f v) : F_Big_sign 108 s n < 0 ↔ v < 0 := by
  unfold F_Big_sign
  by_cases c : s = 0
  · rw [if_pos c]
    have := h.nil.mp c
    exact ⟨fun k => absurd k (by decide), fun k => by omega⟩
  · rw [if_neg c]
    rcases h.sgn with ⟨a, b⟩ | ⟨a, b⟩
    · rw [if_pos a]
      exact ⟨fun k => absurd k (by decide), fun k => by omega⟩
    · rw [if_neg (show ¬ n = 0 by rw [a]; decide)]
      exact ⟨fun _ => b, fun _ => by decide⟩
theorem V_NH_shapeK {x2 : Int32} {x3 : Int32} {x4 : Int32} {x5 : Int32} {x6 : Int32} {t0_0 : Int64} {t0_1 : Int32} {t1_0 : Int32} {t1_1 : Int32} {t2_0 : Int32} {t2_1 : Int32} {t3_0 : (Nat → Int32)} {t4_0 : Int32} {t4_1 : Int32} {t5_0 : (Nat → Int32)} {t6_0 : Int32} {t6_1 : Int32} {t7_0 : (Nat → Int32)} {t8_0 : Int32} {t8_1 : Int32} {t9_0 : (Nat → Int32)} {t10_0 : Int32} {t10_1 : Int32} {t11_0 : (Nat → Int32)} {t12_0 : Int32} {t12_1 : Int32} {t13_0 : (Nat → Int32)} {t14_0 : Int32} {t14_1 : Int32} {t15_0 : (Nat → Int32)} {t16_0 : Int32} {t16_1 : Int32} {t17_0 : (Nat → Int32)} {t18_0 : Int32} {t18_1 : Int32} {t19_0 : (Nat → Int32)} {t20_0 : Int32} {t20_1 : Int32} {t21_0 : Int32} {t21_1 : Int32} {t22_0 : (Nat → Int32)} {t23_0 : Int32} {t23_1 : Int32} {t24_0 : Int32} {t24_1 : Int32} {t25_0 : (Nat → Int32)} {lx108 : Int32} {lx152 : Int32} {qa qt : Int × Int} (ha : dP 108 t21_0 t21_1 t22_0 t20_0 t20_1 qa) (h1 : dP 3 t2_0 t2_1 t3_0 t1_0 t1_1 (1, 0)) (ht : dP 108 t24_0 t24_1 t25_0 t23_0 t23_1 qt) (h2 : x2 = 0 ∨ x2 = 1 ∨ x2 = 2) (h6 : 0 ≤ x6.toInt ∧ x6.toInt ≤ 7) (h5 : (x2 = 0 → -10000 ≤ x5.toInt ∧ x5.toInt ≤ 10000) ∧ (x2 ≠ 0 → 1 ≤ x5.toInt ∧ x5.toInt ≤ 1000)) (hl : lx152 = 1) : ∃ o, sSh x2 qa x5 x6 o ∧ cDn o qt (F_NH_shape_J70 x2 x3 x4 x5 x6 t0_0 t0_1 t1_0 t1_1 t2_0 t2_1 t3_0 t4_0 t4_1 t5_0 t6_0 t6_1 t7_0 t8_0 t8_1 t9_0 t10_0 t10_1 t11_0 t12_0 t12_1 t13_0 t14_0 t14_1 t15_0 t16_0 t16_1 t17_0 t18_0 t18_1 t19_0 t20_0 t20_1 t21_0 t21_1 t22_0 t23_0 t23_1 t24_0 t24_1 t25_0 lx108 lx152).1 (F_NH_shape_J70 x2 x3 x4 x5 x6 t0_0 t0_1 t1_0 t1_1 t2_0 t2_1 t3_0 t4_0 t4_1 t5_0 t6_0 t6_1 t7_0 t8_0 t8_1 t9_0 t10_0 t10_1 t11_0 t12_0 t12_1 t13_0 t14_0 t14_1 t15_0 t16_0 t16_1 t17_0 t18_0 t18_1 t19_0 t20_0 t20_1 t21_0 t21_1 t22_0 t23_0 t23_1 t24_0 t24_1 t25_0 lx108 lx152).2.2.2.2.2.2.2.2.2.2.2.2.2.2.2.2.2.2.2.2.2.2.2.2.2.2.2.2.2.2.2.2.1 (F_NH_shape_J70 x2 x3 x4 x5 x6 t0_0 t0_1 t1_0 t1_1 t2_0 t2_1 t3_0 t4_0 t4_1 t5_0 t6_0 t6_1 t7_0 t8_0 t8_1 t9_0 t10_0 t10_1 t11_0 t12_0 t12_1 t13_0 t14_0 t14_1 t15_0 t16_0 t16_1 t17_0 t18_0 t18_1 t19_0 t20_0 t20_1 t21_0 t21_1 t22_0 t23_0 t23_1 t24_0 t24_1 t25_0 lx108 lx152).2.2.2.2.2.2.2.2.2.2.2.2.2.2.2.2.2.2.2.2.2.2.2.2.2.2.2.2.2.2.2.2.2.1 (F_NH_shape_J70 x2 x3 x4 x5 x6 t0_0 t0_1 t1_0 t1_1 t2_0 t2_1 t3_0 t4_0 t4_1 t5_0 t6_0 t6_1 t7_0 t8_0 t8_1 t9_0 t10_0 t10_1 t11_0 t12_0 t12_1 t13_0 t14_0 t14_1 t15_0 t16_0 t16_1 t17_0 t18_0 t18_1 t19_0 t20_0 t20_1 t21_0 t21_1 t22_0 t23_0 t23_1 t24_0 t24_1 t25_0 lx108 lx152).2.2.2.2.2.2.2.2.2.2.2.2.2.2.2.2.2.2.2.2.2.2.2.2.2.2.2.2.2.2.2.2.2.2 (F_NH_shape_J70 x2 x3 x4 x5 x6 t0_0 t0_1 t1_0 t1_1 t2_0 t2_1 t3_0 t4_0 t4_1 t5_0 t6_0 t6_1 t7_0 t8_0 t8_1 t9_0 t10_0 t10_1 t11_0 t12_0 t12_1 t13_0 t14_0 t14_1 t15_0 t16_0 t16_1 t17_0 t18_0 t18_1 t19_0 t20_0 t20_1 t21_0 t21_1 t22_0 t23_0 t23_1 t24_0 t24_1 t25_0 lx108 lx152).2.2.2.2.2.2.2.2.2.2.2.2.2.2.2.2.2.2.2.2.2.2.2.2.2.2.2.2.2.2.1 (F_NH_shape_J70 x2 x3 x4 x5 x6 t0_0 t0_1 t1_0 t1_1 t2_0 t2_1 t3_0 t4_0 t4_1 t5_0 t6_0 t6_1 t7_0 t8_0 t8_1 t9_0 t10_0 t10_1 t11_0 t12_0 t12_1 t13_0 t14_0 t14_1 t15_0 t16_0 t16_1 t17_0 t18_0 t18_1 t19_0 t20_0 t20_1 t21_0 t21_1 t22_0 t23_0 t23_1 t24_0 t24_1 t25_0 lx108 lx152).2.2.2.2.2.2.2.2.2.2.2.2.2.2.2.2.2.2.2.2.2.2.2.2.2.2.2.2.2.2.2.1 ∧ bO 3 (F_NH_shape_J70 x2 x3 x4 x5 x6 t0_0 t0_1 t1_0 t1_1 t2_0 t2_1 t3_0 t4_0 t4_1 t5_0 t6_0 t6_1 t7_0 t8_0 t8_1 t9_0 t10_0 t10_1 t11_0 t12_0 t12_1 t13_0 t14_0 t14_1 t15_0 t16_0 t16_1 t17_0 t18_0 t18_1 t19_0 t20_0 t20_1 t21_0 t21_1 t22_0 t23_0 t23_1 t24_0 t24_1 t25_0 lx108 lx152).2.2.2.1 (F_NH_shape_J70 x2 x3 x4 x5 x6 t0_0 t0_1 t1_0 t1_1 t2_0 t2_1 t3_0 t4_0 t4_1 t5_0 t6_0 t6_1 t7_0 t8_0 t8_1 t9_0 t10_0 t10_1 t11_0 t12_0 t12_1 t13_0 t14_0 t14_1 t15_0 t16_0 t16_1 t17_0 t18_0 t18_1 t19_0 t20_0 t20_1 t21_0 t21_1 t22_0 t23_0 t23_1 t24_0 t24_1 t25_0 lx108 lx152).2.2.2.2.1 (F_NH_shape_J70 x2 x3 x4 x5 x6 t0_0 t0_1 t1_0 t1_1 t2_0 t2_1 t3_0 t4_0 t4_1 t5_0 t6_0 t6_1 t7_0 t8_0 t8_1 t9_0 t10_0 t10_1 t11_0 t12_0 t12_1 t13_0 t14_0 t14_1 t15_0 t16_0 t16_1 t17_0 t18_0 t18_1 t19_0 t20_0 t20_1 t21_0 t21_1 t22_0 t23_0 t23_1 t24_0 t24_1 t25_0 lx108 lx152).2.2.2.2.2.1 1 := by
  have n1 : F_NH_need lx152 = 0 := by rw [hl]; decide
  have hv : ((1, 0) : Int × Int).1 ≠ 0 := by decide
  unfold F_NH_shape_J70
  rw [if_pos n1]
  by_cases c0 : x2 = 0
  · rw [if_pos c0, y_dts_o]
    have h5 := h5.1 c0
    have dv := V_divideToScale (x4 := x5) (x5 := x6) (t0_0 := t0_0) (t0_1 := t0_1) (t1_0 := t4_0) (t1_1 := t4_1) (t2_0 := t5_0) (t3_0 := t6_0) (t3_1 := t6_1) (t4_0 := t7_0) (t5_0 := t14_0) (t5_1 := t14_1) (t6_0 := t15_0) ha h1 hv h5 h6
    have m4 := (T_divideToScale (x4 := x5) (x5 := x6) (t0_0 := t0_0) (t0_1 := t0_1) (t1_0 := t4_0) (t1_1 := t4_1) (t2_0 := t5_0) (t3_0 := t6_0) (t3_1 := t6_1) (t4_0 := t7_0) (t5_0 := t14_0) (t5_1 := t14_1) (t6_0 := t15_0) ha.O h1.O hv h5.1 h5.2 trivial trivial trivial).2.2
    generalize F_DW_divideToScale 108 3 x5 x6 t0_0 t0_1 t4_0 t4_1 t5_0 t6_0 t6_1 t7_0 t14_0 t14_1 t15_0 t20_0 t20_1 t21_0 t21_1 t22_0 t1_0 t1_1 t2_0 t2_1 t3_0 = p912 at dv m4 ⊢
    have m5 : bO 3 p912.2.2.2.2.2.2.2.2.2.2.2.2.1 p912.2.2.2.2.2.2.2.2.2.2.2.2.2.1 p912.2.2.2.2.2.2.2.2.2.2.2.2.2.2 1 := m4.2.2.2
    unfold F_NH_shape_c102
    refine ⟨_, Or.inl ⟨c0, rfl⟩, ?_⟩
    rcases dv with ⟨s1, s2⟩ | ⟨s1, v, s2, s3, s4, s5⟩
    · rw [s1, if_neg (show ¬ F_NH_canHave 0 = 0 by decide)]
      exact ⟨Or.inr ⟨s2, y_ch2, ht⟩, m5⟩
    · rw [s1, if_pos y_ch1]
      have kd := V_keepDecimal (x2 := x4) (t0_0 := p912.2.1) (t0_1 := p912.2.2.1) (t3_0 := t18_0) (t3_1 := t18_1) (t4_0 := t19_0) s4 s5 (by decide) trivial ht
      rw [s3] at kd
      generalize F_NH_keepDecimal x4 p912.2.1 p912.2.2.1 p912.2.2.2.1 p912.2.2.2.2.1 p912.2.2.2.2.2.1 t18_0 t18_1 t19_0 t23_0 t23_1 t24_0 t24_1 t25_0 = p964 at kd ⊢
      rw [s2]
      unfold F_NH_shape_c179_10
      by_cases z : p964.1 = 0
      · rw [if_pos z]
        rw [z] at kd
        exact ⟨kd, m5⟩
      · rw [if_neg z]
        exact ⟨kd, m5⟩
  · rw [if_neg c0]
    have h5 := h5.2 c0
    by_cases c1 : x2 = 1
    · rw [if_pos c1, y_dtp_o]
      obtain ⟨o, ho, dv⟩ := V_DW_divideToPrecision (x4 := x5) (x5 := x6) (t0_0 := t0_0) (t0_1 := t0_1) (t1_0 := t4_0) (t1_1 := t4_1) (t2_0 := t5_0) (t3_0 := t6_0) (t3_1 := t6_1) (t4_0 := t7_0) (t5_0 := t14_0) (t5_1 := t14_1) (t6_0 := t15_0) (t7_0 := t18_0) (t7_1 := t18_1) (t8_0 := t19_0) ha h1 hv ⟨by omega, h5.2⟩ h6 trivial
      have m4 := (T_divideToPrecision (x4 := x5) (x5 := x6) (t0_0 := t0_0) (t0_1 := t0_1) (t1_0 := t4_0) (t1_1 := t4_1) (t2_0 := t5_0) (t3_0 := t6_0) (t3_1 := t6_1) (t4_0 := t7_0) (t5_0 := t14_0) (t5_1 := t14_1) (t6_0 := t15_0) (t7_0 := t18_0) (t7_1 := t18_1) (t8_0 := t19_0) ha.O h1.O hv (by omega) h5.2 trivial trivial trivial).2.2
      generalize F_DW_divideToPrecision 108 3 x5 x6 t0_0 t0_1 t4_0 t4_1 t5_0 t6_0 t6_1 t7_0 t14_0 t14_1 t15_0 t18_0 t18_1 t19_0 t20_0 t20_1 t21_0 t21_1 t22_0 t1_0 t1_1 t2_0 t2_1 t3_0 = p735 at dv m4 ⊢
      have m5 : bO 3 p735.2.2.2.2.2.2.2.2.2.2.2.2.2.2.2.1 p735.2.2.2.2.2.2.2.2.2.2.2.2.2.2.2.2.1 p735.2.2.2.2.2.2.2.2.2.2.2.2.2.2.2.2.2 1 := m4.2.2.2.2
      unfold F_NH_shape_c133
      refine ⟨o, Or.inr (Or.inl ⟨c1, ho⟩), ?_⟩
      rcases dv with ⟨s1, s2⟩ | ⟨s1, q, s2, s3, s4, s5⟩
      · rw [s1, if_neg (show ¬ F_NH_canHave 0 = 0 by decide)]
        exact ⟨Or.inr ⟨Or.inl s2, y_ch2, ht⟩, m5⟩
      · rw [s1, if_pos y_ch1]
        have kd := V_keepDecimal (x2 := x4) (t0_0 := p735.2.1) (t0_1 := p735.2.2.1) (t3_0 := p735.2.2.2.2.2.2.2.2.2.2.2.2.1) (t3_1 := p735.2.2.2.2.2.2.2.2.2.2.2.2.2.1) (t4_0 := p735.2.2.2.2.2.2.2.2.2.2.2.2.2.2.1) s4 s5 (by decide) trivial ht
        rw [s3] at kd
        generalize F_NH_keepDecimal x4 p735.2.1 p735.2.2.1 p735.2.2.2.1 p735.2.2.2.2.1 p735.2.2.2.2.2.1 p735.2.2.2.2.2.2.2.2.2.2.2.2.1 p735.2.2.2.2.2.2.2.2.2.2.2.2.2.1 p735.2.2.2.2.2.2.2.2.2.2.2.2.2.2.1 t23_0 t23_1 t24_0 t24_1 t25_0 = p790 at kd ⊢
        rw [s2]
        unfold F_NH_shape_c179_8
        by_cases z : p790.1 = 0
        · rw [if_pos z]
          rw [z] at kd
          exact ⟨kd, m5⟩
        · rw [if_neg z]
          exact ⟨kd, m5⟩
    · rw [if_neg c1]
      have c2 : x2 = 2 := h2.resolve_left c0 |>.resolve_left c1
      have sg := y_sgnB ha.1
      by_cases c3 : F_Big_sign 108 t21_0 t21_1 < 0
      · rw [if_pos c3, if_neg (show ¬ F_NH_canHave 0 = 0 by decide)]
        exact ⟨none, Or.inr (Or.inr ⟨c2, Or.inl ⟨sg.mp c3, rfl⟩⟩), Or.inr ⟨Or.inl rfl, y_ch2, ht⟩, h1.1⟩
      · rw [if_neg c3, if_pos y_ch1]
        have a0 : 0 ≤ qa.1 := by
          have := mt sg.mpr c3
          omega
        obtain ⟨o, ho, dv⟩ := V_DW_squareRoot (x3 := x5) (x4 := x6) (p := x5.toInt.toNat) (t0_0 := t0_0) (t0_1 := t0_1) (t1_0 := t4_0) (t1_1 := t4_1) (t2_0 := t5_0) (t3_0 := t6_0) (t3_1 := t6_1) (t4_0 := t7_0) (t5_0 := t8_0) (t5_1 := t8_1) (t6_0 := t9_0) (t7_0 := t10_0) (t7_1 := t10_1) (t8_0 := t11_0) (t9_0 := t12_0) (t9_1 := t12_1) (t10_0 := t13_0) (t11_0 := t14_0) (t11_1 := t14_1) (t12_0 := t15_0) (t13_0 := t16_0) (t13_1 := t16_1) (t14_0 := t17_0) (t15_0 := t18_0) (t15_1 := t18_1) (t16_0 := t19_0) ha a0 (by omega) (by omega) h6 trivial
        generalize F_DW_squareRoot 108 x5 x6 t0_0 t0_1 t4_0 t4_1 t5_0 t6_0 t6_1 t7_0 t8_0 t8_1 t9_0 t10_0 t10_1 t11_0 t12_0 t12_1 t13_0 t14_0 t14_1 t15_0 t16_0 t16_1 t17_0 t18_0 t18_1 t19_0 t20_0 t20_1 t21_0 t21_1 t22_0 = p541 at dv ⊢
        unfold F_NH_shape_c171_5
        refine ⟨o, Or.inr (Or.inr ⟨c2, Or.inr ⟨a0, ho⟩⟩), ?_⟩
        rcases dv with ⟨s1, s2⟩ | ⟨s1, q, s2, s3, s4, s5⟩
        · rw [s1, if_neg (show ¬ F_NH_canHave 0 = 0 by decide)]
          exact ⟨Or.inr ⟨Or.inl s2, y_ch2, ht⟩, h1.1⟩
        · rw [s1, if_pos y_ch1]
          have kd := V_keepDecimal (x2 := x4) (t0_0 := p541.2.1) (t0_1 := p541.2.2.1) (t3_0 := p541.2.2.2.2.2.2.2.2.2.2.2.2.2.2.2.2.2.2.2.2.2.2.2.2.1) (t3_1 := p541.2.2.2.2.2.2.2.2.2.2.2.2.2.2.2.2.2.2.2.2.2.2.2.2.2.1) (t4_0 := p541.2.2.2.2.2.2.2.2.2.2.2.2.2.2.2.2.2.2.2.2.2.2.2.2.2.2) s4 s5 (by decide) trivial ht
          rw [s3] at kd
          generalize F_NH_keepDecimal x4 p541.2.1 p541.2.2.1 p541.2.2.2.1 p541.2.2.2.2.1 p541.2.2.2.2.2.1 p541.2.2.2.2.2.2.2.2.2.2.2.2.2.2.2.2.2.2.2.2.2.2.2.2.1 p541.2.2.2.2.2.2.2.2.2.2.2.2.2.2.2.2.2.2.2.2.2.2.2.2.2.1 p541.2.2.2.2.2.2.2.2.2.2.2.2.2.2.2.2.2.2.2.2.2.2.2.2.2.2 t23_0 t23_1 t24_0 t24_1 t25_0 = p605 at kd ⊢
          rw [s2]
          unfold F_NH_shape_c179_6
          by_cases z : p605.1 = 0
          · rw [if_pos z]
            rw [z] at kd
            exact ⟨kd, h1.1⟩
          · rw [if_neg z]
            exact ⟨kd, h1.1⟩
