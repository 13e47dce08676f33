/-! values, for whole: decimalBy, as a call of the class -/
/-- how a decimal comes out of one and a number: power, point moved, stripped -/
def sBy (h : Int32) (qa : Int × Int) (n : Int) (o : Option (Int × Int)) : Prop := (h = 0 ∧ o = some (qa.1 ^ n.toNat, qa.2 * (n.toNat : Int))) ∨ (h = 1 ∧ o = some (qa.1, qa.2 - n)) ∨ (h = 2 ∧ ∃ r, sStr qa r ∧ o = some r)
theorem V_NH_decimalByK {x2 : Int32} {x3 : Int32} {x4 : Int32} {x5 : Int32} {t0_0 : Int64} {t0_1 : Int32} {t1_0 : Int32} {t1_1 : Int32} {t2_0 : (Nat → Int32)} {t3_0 : Int32} {t3_1 : Int32} {t4_0 : (Nat → Int32)} {t5_0 : Int32} {t5_1 : Int32} {t6_0 : (Nat → Int32)} {t7_0 : Int32} {t7_1 : Int32} {t8_0 : (Nat → Int32)} {t9_0 : Int32} {t9_1 : Int32} {t10_0 : Int32} {t10_1 : Int32} {t11_0 : (Nat → Int32)} {t12_0 : Int32} {t12_1 : Int32} {t13_0 : Int32} {t13_1 : Int32} {t14_0 : (Nat → Int32)} {lx63 : Int32} {lx96 : Int32} {qa qt : Int × Int} (ha : dP 108 t10_0 t10_1 t11_0 t9_0 t9_1 qa) (ht : dP 108 t13_0 t13_1 t14_0 t12_0 t12_1 qt) (h2 : x2 = 0 ∨ x2 = 1 ∨ x2 = 2) (h4 : x2 = 0 → 0 ≤ x4.toInt ∧ x4.toInt ≤ 999) (hl : lx96 = 1) : ∃ o, sBy x2 qa x4.toInt o ∧ cDn o qt (F_NH_decimalBy_J52 x2 x3 x4 x5 t0_0 t0_1 t1_0 t1_1 t2_0 t3_0 t3_1 t4_0 t5_0 t5_1 t6_0 t7_0 t7_1 t8_0 t9_0 t9_1 t10_0 t10_1 t11_0 t12_0 t12_1 t13_0 t13_1 t14_0 lx63 lx96).1 (F_NH_decimalBy_J52 x2 x3 x4 x5 t0_0 t0_1 t1_0 t1_1 t2_0 t3_0 t3_1 t4_0 t5_0 t5_1 t6_0 t7_0 t7_1 t8_0 t9_0 t9_1 t10_0 t10_1 t11_0 t12_0 t12_1 t13_0 t13_1 t14_0 lx63 lx96).2.2.2.2.2.2.2.2.2.2.2.2.2.2.2.2.2.1 (F_NH_decimalBy_J52 x2 x3 x4 x5 t0_0 t0_1 t1_0 t1_1 t2_0 t3_0 t3_1 t4_0 t5_0 t5_1 t6_0 t7_0 t7_1 t8_0 t9_0 t9_1 t10_0 t10_1 t11_0 t12_0 t12_1 t13_0 t13_1 t14_0 lx63 lx96).2.2.2.2.2.2.2.2.2.2.2.2.2.2.2.2.2.2.1 (F_NH_decimalBy_J52 x2 x3 x4 x5 t0_0 t0_1 t1_0 t1_1 t2_0 t3_0 t3_1 t4_0 t5_0 t5_1 t6_0 t7_0 t7_1 t8_0 t9_0 t9_1 t10_0 t10_1 t11_0 t12_0 t12_1 t13_0 t13_1 t14_0 lx63 lx96).2.2.2.2.2.2.2.2.2.2.2.2.2.2.2.2.2.2.2 (F_NH_decimalBy_J52 x2 x3 x4 x5 t0_0 t0_1 t1_0 t1_1 t2_0 t3_0 t3_1 t4_0 t5_0 t5_1 t6_0 t7_0 t7_1 t8_0 t9_0 t9_1 t10_0 t10_1 t11_0 t12_0 t12_1 t13_0 t13_1 t14_0 lx63 lx96).2.2.2.2.2.2.2.2.2.2.2.2.2.2.2.1 (F_NH_decimalBy_J52 x2 x3 x4 x5 t0_0 t0_1 t1_0 t1_1 t2_0 t3_0 t3_1 t4_0 t5_0 t5_1 t6_0 t7_0 t7_1 t8_0 t9_0 t9_1 t10_0 t10_1 t11_0 t12_0 t12_1 t13_0 t13_1 t14_0 lx63 lx96).2.2.2.2.2.2.2.2.2.2.2.2.2.2.2.2.1 := by
  have n1 : F_NH_need lx96 = 0 := by rw [hl]; decide
  unfold F_NH_decimalBy_J52
  rw [if_pos n1]
  by_cases c0 : x2 = 0
  · rw [if_pos c0]
    have h4 := h4 c0
    have ra := V_raise (x3 := x4) (e := x4.toInt.toNat) (t0_0 := t0_0) (t0_1 := t0_1) (t1_0 := t1_0) (t1_1 := t1_1) (t2_0 := t2_0) (t3_0 := t3_0) (t3_1 := t3_1) (t4_0 := t4_0) (t5_0 := t5_0) (t5_1 := t5_1) (t6_0 := t6_0) ha (by omega) (by omega) trivial
    generalize F_DW_raise 108 x4 t0_0 t0_1 t1_0 t1_1 t2_0 t3_0 t3_1 t4_0 t5_0 t5_1 t6_0 t9_0 t9_1 t10_0 t10_1 t11_0 = p447 at ra ⊢
    unfold F_NH_decimalBy_c70
    refine ⟨_, Or.inl ⟨c0, rfl⟩, ?_⟩
    rcases ra with ⟨s1, s2⟩ | ⟨s1, s2, s3, s4⟩
    · rw [s1, if_neg (show ¬ F_NH_canHave 0 = 0 by decide)]
      exact Or.inr ⟨Or.inr ⟨_, rfl, s2⟩, y_ch2, ht⟩
    · rw [s1, if_pos y_ch1]
      have kd := V_keepDecimal (x2 := x5) (t0_0 := p447.2.1) (t0_1 := p447.2.2.1) (t3_0 := t7_0) (t3_1 := t7_1) (t4_0 := t8_0) s3 s4 (by decide) trivial ht
      rw [s2] at kd
      generalize F_NH_keepDecimal x5 p447.2.1 p447.2.2.1 p447.2.2.2.1 p447.2.2.2.2.1 p447.2.2.2.2.2.1 t7_0 t7_1 t8_0 t12_0 t12_1 t13_0 t13_1 t14_0 = p496 at kd ⊢
      unfold F_NH_decimalBy_c130_8
      by_cases z : p496.1 = 0
      · rw [if_pos z]
        rw [z] at kd
        exact kd
      · rw [if_neg z]
        exact kd
  · rw [if_neg c0]
    by_cases c1 : x2 = 1
    · rw [if_pos c1]
      refine ⟨_, Or.inr (Or.inl ⟨c1, rfl⟩), ?_⟩
      have cp : P1 220 qa.1 (F_Big_copy 220 108 t1_0 t1_1 t2_0 t10_0 t10_1 t11_0) := W_copy ha.1 ha.1.fit (by decide)
      have tk : F_DW_take 108 t0_0 t0_1 t1_0 t1_1 t2_0 t9_0 t9_1 t10_0 t10_1 t11_0 = (t9_0.toInt64, t0_1, (F_Big_copy 220 108 t1_0 t1_1 t2_0 t10_0 t10_1 t11_0).1, (F_Big_copy 220 108 t1_0 t1_1 t2_0 t10_0 t10_1 t11_0).2.1, (F_Big_copy 220 108 t1_0 t1_1 t2_0 t10_0 t10_1 t11_0).2.2) := by
        unfold F_DW_take
        rfl
      rw [tk]
      generalize F_Big_copy 220 108 t1_0 t1_1 t2_0 t10_0 t10_1 t11_0 = p at cp ⊢
      unfold F_NH_decimalBy_c94
      have sc : (t9_0.toInt64 - x4.toInt64 : Int64).toInt = qa.2 - x4.toInt := by
        have l1 := Int32.toInt_lt x4
        have l2 := Int32.le_toInt x4
        have l3 := ha.2.2.2.1
        have l4 := ha.2.2.2.2
        exact q_subL (q_i2l ha.2.2.1) (q_i2l rfl) (by omega) (by omega)
      have kd := V_keepDecimal (x2 := x5) (t0_0 := t9_0.toInt64 - x4.toInt64) (t0_1 := t0_1) (t3_0 := t7_0) (t3_1 := t7_1) (t4_0 := t8_0) cp (ha.O.B) (by decide) trivial ht
      rw [sc] at kd
      show cDn _ _ _ _ _ _ _ _
      generalize hk : F_NH_keepDecimal x5 (t9_0.toInt64 - x4.toInt64) t0_1 p.1 p.2.1 p.2.2 t7_0 t7_1 t8_0 t12_0 t12_1 t13_0 t13_1 t14_0 = p338 at kd ⊢
      unfold F_NH_decimalBy_c130_6
      by_cases z : p338.1 = 0
      · rw [if_pos z]
        rw [z] at kd
        exact kd
      · rw [if_neg z]
        exact kd
    · rw [if_neg c1]
      have c2 : x2 = 2 := h2.resolve_left c0 |>.resolve_left c1
      obtain ⟨r, r1, r2, r3, r4⟩ := V_strip (t0_0 := t0_0) (t0_1 := t0_1) (t1_0 := t1_0) (t1_1 := t1_1) (t2_0 := t2_0) (t3_0 := t7_0) (t3_1 := t7_1) (t4_0 := t8_0) ha trivial
      generalize F_DW_strip 108 t0_0 t0_1 t1_0 t1_1 t2_0 t7_0 t7_1 t8_0 t9_0 t9_1 t10_0 t10_1 t11_0 = p170 at r2 r3 ⊢
      refine ⟨_, Or.inr (Or.inr ⟨c2, r, r1, rfl⟩), ?_⟩
      unfold F_NH_decimalBy_c124
      have kd := V_keepDecimal (x2 := x5) (t0_0 := p170.1) (t0_1 := p170.2.1) (t3_0 := p170.2.2.2.2.2.1) (t3_1 := p170.2.2.2.2.2.2.1) (t4_0 := p170.2.2.2.2.2.2.2) r3 r4 (by decide) trivial ht
      rw [r2] at kd
      generalize F_NH_keepDecimal x5 p170.1 p170.2.1 p170.2.2.1 p170.2.2.2.1 p170.2.2.2.2.1 p170.2.2.2.2.2.1 p170.2.2.2.2.2.2.1 p170.2.2.2.2.2.2.2 t12_0 t12_1 t13_0 t13_1 t14_0 = p206 at kd ⊢
      unfold F_NH_decimalBy_c130
      by_cases z : p206.1 = 0
      · rw [if_pos z]
        rw [z] at kd
        exact kd
      · rw [if_neg z]
        exact kd
