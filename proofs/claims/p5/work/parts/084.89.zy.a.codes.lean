/-! which exceptions the class's calls may throw -/
def kC1 (c : Int32) : Prop := c = 0 ∨ c = 1
def kC2 (c : Int32) : Prop := c = 0 ∨ c = 2
def kC3 (c : Int32) : Prop := c = 0 ∨ c = 3
def kC12 (c : Int32) : Prop := c = 0 ∨ c = 1 ∨ c = 2
def kC123 (c : Int32) : Prop := c = 0 ∨ c = 1 ∨ c = 2 ∨ c = 3
theorem kC1.to1 {c : Int32} (h : kC1 c) : kC1 c := h
theorem kC2.to2 {c : Int32} (h : kC2 c) : kC2 c := h
theorem kC12.to12 {c : Int32} (h : kC12 c) : kC12 c := h
theorem kC123.to123 {c : Int32} (h : kC123 c) : kC123 c := h
theorem kC1.to12 {c : Int32} (h : kC1 c) : kC12 c := h.elim Or.inl (fun z => Or.inr (Or.inl z))
theorem kC2.to12 {c : Int32} (h : kC2 c) : kC12 c := h.elim Or.inl (fun z => Or.inr (Or.inr z))
theorem kC1.to123 {c : Int32} (h : kC1 c) : kC123 c := h.elim Or.inl (fun z => Or.inr (Or.inl z))
theorem kC2.to123 {c : Int32} (h : kC2 c) : kC123 c := h.elim Or.inl (fun z => Or.inr (Or.inr (Or.inl z)))
theorem kC12.to123 {c : Int32} (h : kC12 c) : kC123 c := h.elim Or.inl (fun z => z.elim (fun z => Or.inr (Or.inl z)) (fun z => Or.inr (Or.inr (Or.inl z))))
theorem k_need (x : Int32) : kC1 (F_NH_need x) := by
  unfold F_NH_need; split
  · exact Or.inr rfl
  · exact Or.inl rfl
theorem k_can (x : Int32) : kC2 (F_NH_canHave x) := by
  unfold F_NH_canHave; split
  · exact Or.inr rfl
  · exact Or.inl rfl
theorem k_reg (x y : Int32) : kC1 (F_NH_needRegister x y) := by
  unfold F_NH_needRegister
  split <;> (try split) <;> (try split) <;> (try split) <;> first | exact k_need _ | exact Or.inl rfl
def QK_keepWhole (p : Int32 × Int32 × Int32 × (Nat → Int32)) : Prop := kC2 p.1
theorem K_NH_keepWhole {x2 : Int32} {t0_0 : Int32} {t0_1 : Int32} {t1_0 : (Nat → Int32)} {t2_0 : Int32} {t2_1 : Int32} {t3_0 : (Nat → Int32)}  : QK_keepWhole (F_NH_keepWhole x2 t0_0 t0_1 t1_0 t2_0 t2_1 t3_0) := by
  unfold F_NH_keepWhole
  by_cases g1 : (2048 : Int32) < ((F_Big_bitLength (220 : Int32) t0_0 t0_1 t1_0) : Int32)
  ·
    rw [if_pos g1]
    by_cases g2 : (F_NH_canHave (0 : Int32)) = (0 : Int32)
    ·
      rw [if_pos g2]
      generalize F_Big_copy (68 : Int32) (220 : Int32) t2_0 t2_1 t3_0 t0_0 t0_1 t1_0 = p57 at *
      unfold F_NH_keepWhole_c37
      exact (show kC2 (0 : Int32) from Or.inl rfl)
    ·
      rw [if_neg g2]
      exact (show kC2 ((F_NH_canHave (0 : Int32))) from (k_can _).to2)
  ·
    rw [if_neg g1]
    by_cases g3 : (F_NH_canHave (1 : Int32)) = (0 : Int32)
    ·
      rw [if_pos g3]
      generalize F_Big_copy (68 : Int32) (220 : Int32) t2_0 t2_1 t3_0 t0_0 t0_1 t1_0 = p96 at *
      unfold F_NH_keepWhole_c37_2
      exact (show kC2 (0 : Int32) from Or.inl rfl)
    ·
      rw [if_neg g3]
      exact (show kC2 ((F_NH_canHave (1 : Int32))) from (k_can _).to2)
def QK_keepDecimal (p : Int32 × Int32 × Int32 × (Nat → Int32) × Int32 × Int32 × Int32 × Int32 × (Nat → Int32)) : Prop := kC2 p.1
theorem K_NH_keepDecimal {x2 : Int32} {t0_0 : Int64} {t0_1 : Int32} {t1_0 : Int32} {t1_1 : Int32} {t2_0 : (Nat → Int32)} {t3_0 : Int32} {t3_1 : Int32} {t4_0 : (Nat → Int32)} {t5_0 : Int32} {t5_1 : Int32} {t6_0 : Int32} {t6_1 : Int32} {t7_0 : (Nat → Int32)}  : QK_keepDecimal (F_NH_keepDecimal x2 t0_0 t0_1 t1_0 t1_1 t2_0 t3_0 t3_1 t4_0 t5_0 t5_1 t6_0 t6_1 t7_0) := by
  unfold F_NH_keepDecimal
  generalize F_DW_settle (220 : Int32) t0_0 (108 : Int32) t3_0 t3_1 t4_0 t1_0 t1_1 t2_0 t5_0 t5_1 t6_0 t6_1 t7_0 = p74 at *
  unfold F_NH_keepDecimal_c24
  by_cases g1 : (F_NH_canHave (p74.1 : Int32)) = (0 : Int32)
  ·
    rw [if_pos g1]
    exact (show kC2 (0 : Int32) from Or.inl rfl)
  ·
    rw [if_neg g1]
    exact (show kC2 ((F_NH_canHave (p74.1 : Int32))) from (k_can _).to2)
def QK_put (p : Int32 × Int32 × Int32 × (Nat → Int32) × Int32 × Int32 × (Nat → Int32) × (Nat → Int64) × (Nat → Int64) × Int32 × Int32 × (Nat → Int32) × Int32 × Int32 × Int32 × Int32 × (Nat → Int32)) : Prop := kC1 p.1
theorem K_NH_put_J24 {x2 : Int32} {x3 : Int32} {x4 : Int64} {t0_0 : Int64} {t0_1 : Int32} {t1_0 : Int32} {t1_1 : Int32} {t2_0 : (Nat → Int32)} {t3_0 : Int32} {t3_1 : Int32} {t4_0 : (Nat → Int32)} {t5_0 : (Nat → Int64)} {t6_0 : (Nat → Int64)} {t7_0 : Int32} {t7_1 : Int32} {t8_0 : (Nat → Int32)} {t9_0 : Int32} {t9_1 : Int32} {t10_0 : Int32} {t10_1 : Int32} {t11_0 : (Nat → Int32)} {lx55 : Int32}  : QK_put (F_NH_put_J24 x2 x3 x4 t0_0 t0_1 t1_0 t1_1 t2_0 t3_0 t3_1 t4_0 t5_0 t6_0 t7_0 t7_1 t8_0 t9_0 t9_1 t10_0 t10_1 t11_0 lx55) := by
  unfold F_NH_put_J24
  by_cases g1 : (F_NH_need lx55) = (0 : Int32)
  ·
    rw [if_pos g1]
    by_cases g2 : x2 = (0 : Int32)
    ·
      rw [if_pos g2]
      generalize F_Big_setLong (68 : Int32) x4 t7_0 t7_1 t8_0 = p213 at *
      unfold F_NH_put_c38
      exact (show kC1 (0 : Int32) from Or.inl rfl)
    ·
      rw [if_neg g2]
      by_cases g3 : x2 = (1 : Int32)
      ·
        rw [if_pos g3]
        generalize F_Big_setLong (220 : Int32) x4 t1_0 t1_1 t2_0 = p128 at *
        unfold F_NH_put_c57
        generalize F_DW_settle (220 : Int32) (0 : Int64) (108 : Int32) t3_0 t3_1 t4_0 (p128.1 : Int32) (p128.2.1 : Int32) (p128.2.2 : (Nat → Int32)) t9_0 t9_1 t10_0 t10_1 t11_0 = p176 at *
        unfold F_NH_put_c78
        exact (show kC1 (0 : Int32) from Or.inl rfl)
      ·
        rw [if_neg g3]
        by_cases g4 : x2 = (2 : Int32)
        ·
          rw [if_pos g4]
          exact (show kC1 (0 : Int32) from Or.inl rfl)
        ·
          rw [if_neg g4]
          exact (show kC1 (0 : Int32) from Or.inl rfl)
  ·
    rw [if_neg g1]
    exact (show kC1 ((F_NH_need lx55)) from (k_need _).to1)
theorem K_NH_put_J19 {x2 : Int32} {x3 : Int32} {x4 : Int64} {t0_0 : Int64} {t0_1 : Int32} {t1_0 : Int32} {t1_1 : Int32} {t2_0 : (Nat → Int32)} {t3_0 : Int32} {t3_1 : Int32} {t4_0 : (Nat → Int32)} {t5_0 : (Nat → Int64)} {t6_0 : (Nat → Int64)} {t7_0 : Int32} {t7_1 : Int32} {t8_0 : (Nat → Int32)} {t9_0 : Int32} {t9_1 : Int32} {t10_0 : Int32} {t10_1 : Int32} {t11_0 : (Nat → Int32)}  : QK_put (F_NH_put_J19 x2 x3 x4 t0_0 t0_1 t1_0 t1_1 t2_0 t3_0 t3_1 t4_0 t5_0 t6_0 t7_0 t7_1 t8_0 t9_0 t9_1 t10_0 t10_1 t11_0) := by
  unfold F_NH_put_J19
  exact K_NH_put_J24
theorem K_NH_put {x2 : Int32} {x3 : Int32} {x4 : Int64} {t0_0 : Int64} {t0_1 : Int32} {t1_0 : Int32} {t1_1 : Int32} {t2_0 : (Nat → Int32)} {t3_0 : Int32} {t3_1 : Int32} {t4_0 : (Nat → Int32)} {t5_0 : (Nat → Int64)} {t6_0 : (Nat → Int64)} {t7_0 : Int32} {t7_1 : Int32} {t8_0 : (Nat → Int32)} {t9_0 : Int32} {t9_1 : Int32} {t10_0 : Int32} {t10_1 : Int32} {t11_0 : (Nat → Int32)}  : QK_put (F_NH_put x2 x3 x4 t0_0 t0_1 t1_0 t1_1 t2_0 t3_0 t3_1 t4_0 t5_0 t6_0 t7_0 t7_1 t8_0 t9_0 t9_1 t10_0 t10_1 t11_0) := by
  unfold F_NH_put
  by_cases g1 : (F_NH_needRegister x2 x3) = (0 : Int32)
  ·
    rw [if_pos g1]
    by_cases g2 : x2 = (3 : Int32)
    ·
      rw [if_pos g2]
      by_cases g3 : (lg_cmp ((x4.toUInt64 >>> ((32 : Int32).toInt64.toUInt64 &&& Int64.toUInt64 63)).toInt64 : Int64) 0 : Int32) = (0 : Int32)
      ·
        rw [if_pos g3]
        exact K_NH_put_J19
      ·
        rw [if_neg g3]
        exact K_NH_put_J24
    ·
      rw [if_neg g2]
      exact K_NH_put_J19
  ·
    rw [if_neg g1]
    exact (show kC1 ((F_NH_needRegister x2 x3)) from (k_reg _ _).to1)
def QK_whole (p : Int32 × Int32 × Int32 × (Nat → Int32) × Int32 × Int32 × (Nat → Int32) × Int32 × Int32 × (Nat → Int32) × Int32 × Int32 × (Nat → Int32) × Int32 × Int32 × (Nat → Int32) × Int32 × Int32 × (Nat → Int32) × Int32 × Int32 × (Nat → Int32) × Int32 × Int32 × (Nat → Int32) × Int32 × Int32 × (Nat → Int32)) : Prop := kC12 p.1
theorem K_NH_whole_J139 {x2 : Int32} {x3 : Int32} {x4 : Int32} {x5 : Int32} {t0_0 : Int32} {t0_1 : Int32} {t1_0 : (Nat → Int32)} {t2_0 : Int32} {t2_1 : Int32} {t3_0 : (Nat → Int32)} {t4_0 : Int32} {t4_1 : Int32} {t5_0 : (Nat → Int32)} {t6_0 : Int32} {t6_1 : Int32} {t7_0 : (Nat → Int32)} {t8_0 : Int32} {t8_1 : Int32} {t9_0 : (Nat → Int32)} {t10_0 : Int32} {t10_1 : Int32} {t11_0 : (Nat → Int32)} {t12_0 : Int32} {t12_1 : Int32} {t13_0 : (Nat → Int32)} {t14_0 : Int32} {t14_1 : Int32} {t15_0 : (Nat → Int32)} {t16_0 : Int32} {t16_1 : Int32} {t17_0 : (Nat → Int32)} {t18_0 : Int32} {t18_1 : Int32} {t19_0 : (Nat → Int32)} {lx81 : Int32} {lx697 : Int32}  : QK_whole (F_NH_whole_J139 x2 x3 x4 x5 t0_0 t0_1 t1_0 t2_0 t2_1 t3_0 t4_0 t4_1 t5_0 t6_0 t6_1 t7_0 t8_0 t8_1 t9_0 t10_0 t10_1 t11_0 t12_0 t12_1 t13_0 t14_0 t14_1 t15_0 t16_0 t16_1 t17_0 t18_0 t18_1 t19_0 lx81 lx697) := by
  unfold F_NH_whole_J139
  by_cases g1 : (F_NH_canHave lx697) = (0 : Int32)
  ·
    rw [if_pos g1]
    generalize F_Mil_modulo (68 : Int32) (68 : Int32) (220 : Int32) t2_0 t2_1 t3_0 t14_0 t14_1 t15_0 t16_0 t16_1 t17_0 t0_0 t0_1 t1_0 = p771 at *
    unfold F_NH_whole_c157
    have h2 := K_NH_keepWhole (x2 := x5) (t0_0 := (p771.2.2.2.2.2.2.1 : Int32)) (t0_1 := (p771.2.2.2.2.2.2.2.1 : Int32)) (t1_0 := (p771.2.2.2.2.2.2.2.2 : (Nat → Int32))) (t2_0 := t18_0) (t2_1 := t18_1) (t3_0 := t19_0) 
    generalize F_NH_keepWhole x5 (p771.2.2.2.2.2.2.1 : Int32) (p771.2.2.2.2.2.2.2.1 : Int32) (p771.2.2.2.2.2.2.2.2 : (Nat → Int32)) t18_0 t18_1 t19_0 = p800 at *
    have kkp800 := (show kC2 p800.1 from h2).to12
    unfold F_NH_whole_c237_12
    by_cases g3 : p800.1 = (0 : Int32)
    ·
      rw [if_pos g3]
      exact (show kC12 (0 : Int32) from Or.inl rfl)
    ·
      rw [if_neg g3]
      exact (show kC12 (p800.1) from kkp800)
  ·
    rw [if_neg g1]
    exact (show kC12 ((F_NH_canHave lx697)) from (k_can _).to12)
theorem K_NH_whole_J94 {x2 : Int32} {x3 : Int32} {x4 : Int32} {x5 : Int32} {t0_0 : Int32} {t0_1 : Int32} {t1_0 : (Nat → Int32)} {t2_0 : Int32} {t2_1 : Int32} {t3_0 : (Nat → Int32)} {t4_0 : Int32} {t4_1 : Int32} {t5_0 : (Nat → Int32)} {t6_0 : Int32} {t6_1 : Int32} {t7_0 : (Nat → Int32)} {t8_0 : Int32} {t8_1 : Int32} {t9_0 : (Nat → Int32)} {t10_0 : Int32} {t10_1 : Int32} {t11_0 : (Nat → Int32)} {t12_0 : Int32} {t12_1 : Int32} {t13_0 : (Nat → Int32)} {t14_0 : Int32} {t14_1 : Int32} {t15_0 : (Nat → Int32)} {t16_0 : Int32} {t16_1 : Int32} {t17_0 : (Nat → Int32)} {t18_0 : Int32} {t18_1 : Int32} {t19_0 : (Nat → Int32)} {lx81 : Int32} {lx835 : Int32}  : QK_whole (F_NH_whole_J94 x2 x3 x4 x5 t0_0 t0_1 t1_0 t2_0 t2_1 t3_0 t4_0 t4_1 t5_0 t6_0 t6_1 t7_0 t8_0 t8_1 t9_0 t10_0 t10_1 t11_0 t12_0 t12_1 t13_0 t14_0 t14_1 t15_0 t16_0 t16_1 t17_0 t18_0 t18_1 t19_0 lx81 lx835) := by
  unfold F_NH_whole_J94
  by_cases g1 : (F_NH_canHave lx835) = (0 : Int32)
  ·
    rw [if_pos g1]
    by_cases g2 : x2 = (3 : Int32)
    ·
      rw [if_pos g2]
      generalize F_Mil_quotientOrRest (1 : Int32) (68 : Int32) (68 : Int32) t0_0 t0_1 t1_0 t2_0 t2_1 t3_0 t14_0 t14_1 t15_0 t16_0 t16_1 t17_0 = p1006 at *
      unfold F_NH_whole_c115_16
      have h3 := K_NH_keepWhole (x2 := x5) (t0_0 := (p1006.1 : Int32)) (t0_1 := (p1006.2.1 : Int32)) (t1_0 := (p1006.2.2.1 : (Nat → Int32))) (t2_0 := t18_0) (t2_1 := t18_1) (t3_0 := t19_0) 
      generalize F_NH_keepWhole x5 (p1006.1 : Int32) (p1006.2.1 : Int32) (p1006.2.2.1 : (Nat → Int32)) t18_0 t18_1 t19_0 = p1035 at *
      have kkp1035 := (show kC2 p1035.1 from h3).to12
      unfold F_NH_whole_c237_17
      by_cases g4 : p1035.1 = (0 : Int32)
      ·
        rw [if_pos g4]
        exact (show kC12 (0 : Int32) from Or.inl rfl)
      ·
        rw [if_neg g4]
        exact (show kC12 (p1035.1) from kkp1035)
    ·
      rw [if_neg g2]
      generalize F_Mil_quotientOrRest (0 : Int32) (68 : Int32) (68 : Int32) t0_0 t0_1 t1_0 t2_0 t2_1 t3_0 t14_0 t14_1 t15_0 t16_0 t16_1 t17_0 = p910 at *
      unfold F_NH_whole_c115
      have h5 := K_NH_keepWhole (x2 := x5) (t0_0 := (p910.1 : Int32)) (t0_1 := (p910.2.1 : Int32)) (t1_0 := (p910.2.2.1 : (Nat → Int32))) (t2_0 := t18_0) (t2_1 := t18_1) (t3_0 := t19_0) 
      generalize F_NH_keepWhole x5 (p910.1 : Int32) (p910.2.1 : Int32) (p910.2.2.1 : (Nat → Int32)) t18_0 t18_1 t19_0 = p939 at *
      have kkp939 := (show kC2 p939.1 from h5).to12
      unfold F_NH_whole_c237_15
      by_cases g6 : p939.1 = (0 : Int32)
      ·
        rw [if_pos g6]
        exact (show kC12 (0 : Int32) from Or.inl rfl)
      ·
        rw [if_neg g6]
        exact (show kC12 (p939.1) from kkp939)
  ·
    rw [if_neg g1]
    exact (show kC12 ((F_NH_canHave lx835)) from (k_can _).to12)
theorem K_NH_whole_J37 {x2 : Int32} {x3 : Int32} {x4 : Int32} {x5 : Int32} {t0_0 : Int32} {t0_1 : Int32} {t1_0 : (Nat → Int32)} {t2_0 : Int32} {t2_1 : Int32} {t3_0 : (Nat → Int32)} {t4_0 : Int32} {t4_1 : Int32} {t5_0 : (Nat → Int32)} {t6_0 : Int32} {t6_1 : Int32} {t7_0 : (Nat → Int32)} {t8_0 : Int32} {t8_1 : Int32} {t9_0 : (Nat → Int32)} {t10_0 : Int32} {t10_1 : Int32} {t11_0 : (Nat → Int32)} {t12_0 : Int32} {t12_1 : Int32} {t13_0 : (Nat → Int32)} {t14_0 : Int32} {t14_1 : Int32} {t15_0 : (Nat → Int32)} {t16_0 : Int32} {t16_1 : Int32} {t17_0 : (Nat → Int32)} {t18_0 : Int32} {t18_1 : Int32} {t19_0 : (Nat → Int32)} {lx81 : Int32}  : QK_whole (F_NH_whole_J37 x2 x3 x4 x5 t0_0 t0_1 t1_0 t2_0 t2_1 t3_0 t4_0 t4_1 t5_0 t6_0 t6_1 t7_0 t8_0 t8_1 t9_0 t10_0 t10_1 t11_0 t12_0 t12_1 t13_0 t14_0 t14_1 t15_0 t16_0 t16_1 t17_0 t18_0 t18_1 t19_0 lx81) := by
  unfold F_NH_whole_J37
  by_cases g1 : (F_NH_need lx81) = (0 : Int32)
  ·
    rw [if_pos g1]
    by_cases g2 : (2 : Int32) < x2
    ·
      rw [if_pos g2]
      by_cases g3 : (4 : Int32) < x2
      ·
        rw [if_pos g3]
        by_cases g4 : x2 = (5 : Int32)
        ·
          rw [if_pos g4]
          by_cases g5 : ((F_Big_sign (68 : Int32) t16_0 t16_1) : Int32) ≤ (0 : Int32)
          ·
            rw [if_pos g5]
            exact K_NH_whole_J139
          ·
            rw [if_neg g5]
            exact K_NH_whole_J139
        ·
          rw [if_neg g4]
          by_cases g6 : x2 = (6 : Int32)
          ·
            rw [if_pos g6]
            generalize F_Mil_commonDivisor (68 : Int32) (68 : Int32) t0_0 t0_1 t1_0 t2_0 t2_1 t3_0 t6_0 t6_1 t7_0 t8_0 t8_1 t9_0 t14_0 t14_1 t15_0 t16_0 t16_1 t17_0 = p625 at *
            unfold F_NH_whole_c177
            have h7 := K_NH_keepWhole (x2 := x5) (t0_0 := (p625.1 : Int32)) (t0_1 := (p625.2.1 : Int32)) (t1_0 := (p625.2.2.1 : (Nat → Int32))) (t2_0 := t18_0) (t2_1 := t18_1) (t3_0 := t19_0) 
            generalize F_NH_keepWhole x5 (p625.1 : Int32) (p625.2.1 : Int32) (p625.2.2.1 : (Nat → Int32)) t18_0 t18_1 t19_0 = p657 at *
            have kkp657 := (show kC2 p657.1 from h7).to12
            unfold F_NH_whole_c237_9
            by_cases g8 : p657.1 = (0 : Int32)
            ·
              rw [if_pos g8]
              exact (show kC12 (0 : Int32) from Or.inl rfl)
            ·
              rw [if_neg g8]
              exact (show kC12 (p657.1) from kkp657)
          ·
            rw [if_neg g6]
            by_cases g9 : x2 = (7 : Int32)
            ·
              rw [if_pos g9]
              by_cases g10 : ((F_Big_sign (68 : Int32) t16_0 t16_1) : Int32) ≤ (0 : Int32)
              ·
                rw [if_pos g10]
                by_cases g11 : (F_NH_canHave (0 : Int32)) = (0 : Int32)
                ·
                  rw [if_pos g11]
                  generalize F_Mil_inverse (68 : Int32) (68 : Int32) t0_0 t0_1 t1_0 t2_0 t2_1 t3_0 t4_0 t4_1 t5_0 t6_0 t6_1 t7_0 t8_0 t8_1 t9_0 t10_0 t10_1 t11_0 t12_0 t12_1 t13_0 t14_0 t14_1 t15_0 t16_0 t16_1 t17_0 = p315 at *
                  unfold F_NH_whole_c213
                  by_cases g12 : (F_NH_canHave (p315.1 : Int32)) = (0 : Int32)
                  ·
                    rw [if_pos g12]
                    have h13 := K_NH_keepWhole (x2 := x5) (t0_0 := (p315.2.1 : Int32)) (t0_1 := (p315.2.2.1 : Int32)) (t1_0 := (p315.2.2.2.1 : (Nat → Int32))) (t2_0 := t18_0) (t2_1 := t18_1) (t3_0 := t19_0) 
                    generalize F_NH_keepWhole x5 (p315.2.1 : Int32) (p315.2.2.1 : Int32) (p315.2.2.2.1 : (Nat → Int32)) t18_0 t18_1 t19_0 = p369 at *
                    have kkp369 := (show kC2 p369.1 from h13).to12
                    unfold F_NH_whole_c237_5
                    by_cases g14 : p369.1 = (0 : Int32)
                    ·
                      rw [if_pos g14]
                      exact (show kC12 (0 : Int32) from Or.inl rfl)
                    ·
                      rw [if_neg g14]
                      exact (show kC12 (p369.1) from kkp369)
                  ·
                    rw [if_neg g12]
                    exact (show kC12 ((F_NH_canHave (p315.1 : Int32))) from (k_can _).to12)
                ·
                  rw [if_neg g11]
                  exact (show kC12 ((F_NH_canHave (0 : Int32))) from (k_can _).to12)
              ·
                rw [if_neg g10]
                by_cases g15 : (F_NH_canHave (1 : Int32)) = (0 : Int32)
                ·
                  rw [if_pos g15]
                  generalize F_Mil_inverse (68 : Int32) (68 : Int32) t0_0 t0_1 t1_0 t2_0 t2_1 t3_0 t4_0 t4_1 t5_0 t6_0 t6_1 t7_0 t8_0 t8_1 t9_0 t10_0 t10_1 t11_0 t12_0 t12_1 t13_0 t14_0 t14_1 t15_0 t16_0 t16_1 t17_0 = p497 at *
                  unfold F_NH_whole_c213_6
                  by_cases g16 : (F_NH_canHave (p497.1 : Int32)) = (0 : Int32)
                  ·
                    rw [if_pos g16]
                    have h17 := K_NH_keepWhole (x2 := x5) (t0_0 := (p497.2.1 : Int32)) (t0_1 := (p497.2.2.1 : Int32)) (t1_0 := (p497.2.2.2.1 : (Nat → Int32))) (t2_0 := t18_0) (t2_1 := t18_1) (t3_0 := t19_0) 
                    generalize F_NH_keepWhole x5 (p497.2.1 : Int32) (p497.2.2.1 : Int32) (p497.2.2.2.1 : (Nat → Int32)) t18_0 t18_1 t19_0 = p551 at *
                    have kkp551 := (show kC2 p551.1 from h17).to12
                    unfold F_NH_whole_c237_7
                    by_cases g18 : p551.1 = (0 : Int32)
                    ·
                      rw [if_pos g18]
                      exact (show kC12 (0 : Int32) from Or.inl rfl)
                    ·
                      rw [if_neg g18]
                      exact (show kC12 (p551.1) from kkp551)
                  ·
                    rw [if_neg g16]
                    exact (show kC12 ((F_NH_canHave (p497.1 : Int32))) from (k_can _).to12)
                ·
                  rw [if_neg g15]
                  exact (show kC12 ((F_NH_canHave (1 : Int32))) from (k_can _).to12)
            ·
              rw [if_neg g9]
              generalize F_Mil_mixBits x2 (68 : Int32) (68 : Int32) t0_0 t0_1 t1_0 t14_0 t14_1 t15_0 t16_0 t16_1 t17_0 = p154 at *
              unfold F_NH_whole_c231
              have h19 := K_NH_keepWhole (x2 := x5) (t0_0 := (p154.1 : Int32)) (t0_1 := (p154.2.1 : Int32)) (t1_0 := (p154.2.2 : (Nat → Int32))) (t2_0 := t18_0) (t2_1 := t18_1) (t3_0 := t19_0) 
              generalize F_NH_keepWhole x5 (p154.1 : Int32) (p154.2.1 : Int32) (p154.2.2 : (Nat → Int32)) t18_0 t18_1 t19_0 = p177 at *
              have kkp177 := (show kC2 p177.1 from h19).to12
              unfold F_NH_whole_c237
              by_cases g20 : p177.1 = (0 : Int32)
              ·
                rw [if_pos g20]
                exact (show kC12 (0 : Int32) from Or.inl rfl)
              ·
                rw [if_neg g20]
                exact (show kC12 (p177.1) from kkp177)
      ·
        rw [if_neg g3]
        by_cases g21 : t16_0 ≤ (0 : Int32)
        ·
          rw [if_pos g21]
          exact K_NH_whole_J94
        ·
          rw [if_neg g21]
          exact K_NH_whole_J94
    ·
      rw [if_neg g2]
      generalize F_Mil_addOrMultiply x2 (68 : Int32) (68 : Int32) t0_0 t0_1 t1_0 t14_0 t14_1 t15_0 t16_0 t16_1 t17_0 = p1084 at *
      unfold F_NH_whole_c70
      have h22 := K_NH_keepWhole (x2 := x5) (t0_0 := (p1084.1 : Int32)) (t0_1 := (p1084.2.1 : Int32)) (t1_0 := (p1084.2.2 : (Nat → Int32))) (t2_0 := t18_0) (t2_1 := t18_1) (t3_0 := t19_0) 
      generalize F_NH_keepWhole x5 (p1084.1 : Int32) (p1084.2.1 : Int32) (p1084.2.2 : (Nat → Int32)) t18_0 t18_1 t19_0 = p1107 at *
      have kkp1107 := (show kC2 p1107.1 from h22).to12
      unfold F_NH_whole_c237_19
      by_cases g23 : p1107.1 = (0 : Int32)
      ·
        rw [if_pos g23]
        exact (show kC12 (0 : Int32) from Or.inl rfl)
      ·
        rw [if_neg g23]
        exact (show kC12 (p1107.1) from kkp1107)
  ·
    rw [if_neg g1]
    exact (show kC12 ((F_NH_need lx81)) from (k_need _).to12)
theorem K_NH_whole_J36 {x2 : Int32} {x3 : Int32} {x4 : Int32} {x5 : Int32} {t0_0 : Int32} {t0_1 : Int32} {t1_0 : (Nat → Int32)} {t2_0 : Int32} {t2_1 : Int32} {t3_0 : (Nat → Int32)} {t4_0 : Int32} {t4_1 : Int32} {t5_0 : (Nat → Int32)} {t6_0 : Int32} {t6_1 : Int32} {t7_0 : (Nat → Int32)} {t8_0 : Int32} {t8_1 : Int32} {t9_0 : (Nat → Int32)} {t10_0 : Int32} {t10_1 : Int32} {t11_0 : (Nat → Int32)} {t12_0 : Int32} {t12_1 : Int32} {t13_0 : (Nat → Int32)} {t14_0 : Int32} {t14_1 : Int32} {t15_0 : (Nat → Int32)} {t16_0 : Int32} {t16_1 : Int32} {t17_0 : (Nat → Int32)} {t18_0 : Int32} {t18_1 : Int32} {t19_0 : (Nat → Int32)}  : QK_whole (F_NH_whole_J36 x2 x3 x4 x5 t0_0 t0_1 t1_0 t2_0 t2_1 t3_0 t4_0 t4_1 t5_0 t6_0 t6_1 t7_0 t8_0 t8_1 t9_0 t10_0 t10_1 t11_0 t12_0 t12_1 t13_0 t14_0 t14_1 t15_0 t16_0 t16_1 t17_0 t18_0 t18_1 t19_0) := by
  unfold F_NH_whole_J36
  exact K_NH_whole_J37
theorem K_NH_whole {x2 : Int32} {x3 : Int32} {x4 : Int32} {x5 : Int32} {t0_0 : Int32} {t0_1 : Int32} {t1_0 : (Nat → Int32)} {t2_0 : Int32} {t2_1 : Int32} {t3_0 : (Nat → Int32)} {t4_0 : Int32} {t4_1 : Int32} {t5_0 : (Nat → Int32)} {t6_0 : Int32} {t6_1 : Int32} {t7_0 : (Nat → Int32)} {t8_0 : Int32} {t8_1 : Int32} {t9_0 : (Nat → Int32)} {t10_0 : Int32} {t10_1 : Int32} {t11_0 : (Nat → Int32)} {t12_0 : Int32} {t12_1 : Int32} {t13_0 : (Nat → Int32)} {t14_0 : Int32} {t14_1 : Int32} {t15_0 : (Nat → Int32)} {t16_0 : Int32} {t16_1 : Int32} {t17_0 : (Nat → Int32)} {t18_0 : Int32} {t18_1 : Int32} {t19_0 : (Nat → Int32)}  : QK_whole (F_NH_whole x2 x3 x4 x5 t0_0 t0_1 t1_0 t2_0 t2_1 t3_0 t4_0 t4_1 t5_0 t6_0 t6_1 t7_0 t8_0 t8_1 t9_0 t10_0 t10_1 t11_0 t12_0 t12_1 t13_0 t14_0 t14_1 t15_0 t16_0 t16_1 t17_0 t18_0 t18_1 t19_0) := by
  unfold F_NH_whole
  by_cases g1 : x2 < (0 : Int32)
  ·
    rw [if_pos g1]
    exact K_NH_whole_J36
  ·
    rw [if_neg g1]
    by_cases g2 : (11 : Int32) < x2
    ·
      rw [if_pos g2]
      exact K_NH_whole_J36
    ·
      rw [if_neg g2]
      by_cases g3 : ((F_NH_isRegister x3) : Int32) = (0 : Int32)
      ·
        rw [if_pos g3]
        exact K_NH_whole_J36
      ·
        rw [if_neg g3]
        by_cases g4 : ((F_NH_isRegister x4) : Int32) = (0 : Int32)
        ·
          rw [if_pos g4]
          exact K_NH_whole_J36
        ·
          rw [if_neg g4]
          by_cases g5 : ((F_NH_isRegister x5) : Int32) = (0 : Int32)
          ·
            rw [if_pos g5]
            exact K_NH_whole_J36
          ·
            rw [if_neg g5]
            exact K_NH_whole_J37
def QK_whole_ab (p : Int32 × Int32 × Int32 × (Nat → Int32) × Int32 × Int32 × (Nat → Int32) × Int32 × Int32 × (Nat → Int32) × Int32 × Int32 × (Nat → Int32) × Int32 × Int32 × (Nat → Int32) × Int32 × Int32 × (Nat → Int32) × Int32 × Int32 × (Nat → Int32) × Int32 × Int32 × (Nat → Int32) × Int32 × Int32 × (Nat → Int32)) : Prop := kC12 p.1
theorem K_NH_whole_ab_J139 {x2 : Int32} {x3 : Int32} {x4 : Int32} {x5 : Int32} {t0_0 : Int32} {t0_1 : Int32} {t1_0 : (Nat → Int32)} {t2_0 : Int32} {t2_1 : Int32} {t3_0 : (Nat → Int32)} {t4_0 : Int32} {t4_1 : Int32} {t5_0 : (Nat → Int32)} {t6_0 : Int32} {t6_1 : Int32} {t7_0 : (Nat → Int32)} {t8_0 : Int32} {t8_1 : Int32} {t9_0 : (Nat → Int32)} {t10_0 : Int32} {t10_1 : Int32} {t11_0 : (Nat → Int32)} {t12_0 : Int32} {t12_1 : Int32} {t13_0 : (Nat → Int32)} {t14_0 : Int32} {t14_1 : Int32} {t15_0 : (Nat → Int32)} {t16_0 : Int32} {t16_1 : Int32} {t17_0 : (Nat → Int32)} {lx73 : Int32} {lx681 : Int32}  : QK_whole_ab (F_NH_whole_ab_J139 x2 x3 x4 x5 t0_0 t0_1 t1_0 t2_0 t2_1 t3_0 t4_0 t4_1 t5_0 t6_0 t6_1 t7_0 t8_0 t8_1 t9_0 t10_0 t10_1 t11_0 t12_0 t12_1 t13_0 t14_0 t14_1 t15_0 t16_0 t16_1 t17_0 lx73 lx681) := by
  unfold F_NH_whole_ab_J139
  by_cases g1 : (F_NH_canHave lx681) = (0 : Int32)
  ·
    rw [if_pos g1]
    generalize F_Mil_modulo_a (68 : Int32) (220 : Int32) t2_0 t2_1 t3_0 t14_0 t14_1 t15_0 t0_0 t0_1 t1_0 = p753 at *
    unfold F_NH_whole_ab_c157
    have h2 := K_NH_keepWhole (x2 := x5) (t0_0 := (p753.2.2.2.2.2.2.1 : Int32)) (t0_1 := (p753.2.2.2.2.2.2.2.1 : Int32)) (t1_0 := (p753.2.2.2.2.2.2.2.2 : (Nat → Int32))) (t2_0 := t16_0) (t2_1 := t16_1) (t3_0 := t17_0) 
    generalize F_NH_keepWhole x5 (p753.2.2.2.2.2.2.1 : Int32) (p753.2.2.2.2.2.2.2.1 : Int32) (p753.2.2.2.2.2.2.2.2 : (Nat → Int32)) t16_0 t16_1 t17_0 = p782 at *
    have kkp782 := (show kC2 p782.1 from h2).to12
    unfold F_NH_whole_ab_c237_12
    by_cases g3 : p782.1 = (0 : Int32)
    ·
      rw [if_pos g3]
      exact (show kC12 (0 : Int32) from Or.inl rfl)
    ·
      rw [if_neg g3]
      exact (show kC12 (p782.1) from kkp782)
  ·
    rw [if_neg g1]
    exact (show kC12 ((F_NH_canHave lx681)) from (k_can _).to12)
theorem K_NH_whole_ab_J94 {x2 : Int32} {x3 : Int32} {x4 : Int32} {x5 : Int32} {t0_0 : Int32} {t0_1 : Int32} {t1_0 : (Nat → Int32)} {t2_0 : Int32} {t2_1 : Int32} {t3_0 : (Nat → Int32)} {t4_0 : Int32} {t4_1 : Int32} {t5_0 : (Nat → Int32)} {t6_0 : Int32} {t6_1 : Int32} {t7_0 : (Nat → Int32)} {t8_0 : Int32} {t8_1 : Int32} {t9_0 : (Nat → Int32)} {t10_0 : Int32} {t10_1 : Int32} {t11_0 : (Nat → Int32)} {t12_0 : Int32} {t12_1 : Int32} {t13_0 : (Nat → Int32)} {t14_0 : Int32} {t14_1 : Int32} {t15_0 : (Nat → Int32)} {t16_0 : Int32} {t16_1 : Int32} {t17_0 : (Nat → Int32)} {lx73 : Int32} {lx817 : Int32}  : QK_whole_ab (F_NH_whole_ab_J94 x2 x3 x4 x5 t0_0 t0_1 t1_0 t2_0 t2_1 t3_0 t4_0 t4_1 t5_0 t6_0 t6_1 t7_0 t8_0 t8_1 t9_0 t10_0 t10_1 t11_0 t12_0 t12_1 t13_0 t14_0 t14_1 t15_0 t16_0 t16_1 t17_0 lx73 lx817) := by
  unfold F_NH_whole_ab_J94
  by_cases g1 : (F_NH_canHave lx817) = (0 : Int32)
  ·
    rw [if_pos g1]
    by_cases g2 : x2 = (3 : Int32)
    ·
      rw [if_pos g2]
      generalize F_Mil_quotientOrRest_a (1 : Int32) (68 : Int32) t0_0 t0_1 t1_0 t2_0 t2_1 t3_0 t14_0 t14_1 t15_0 = p986 at *
      unfold F_NH_whole_ab_c115_16
      have h3 := K_NH_keepWhole (x2 := x5) (t0_0 := (p986.1 : Int32)) (t0_1 := (p986.2.1 : Int32)) (t1_0 := (p986.2.2.1 : (Nat → Int32))) (t2_0 := t16_0) (t2_1 := t16_1) (t3_0 := t17_0) 
      generalize F_NH_keepWhole x5 (p986.1 : Int32) (p986.2.1 : Int32) (p986.2.2.1 : (Nat → Int32)) t16_0 t16_1 t17_0 = p1015 at *
      have kkp1015 := (show kC2 p1015.1 from h3).to12
      unfold F_NH_whole_ab_c237_17
      by_cases g4 : p1015.1 = (0 : Int32)
      ·
        rw [if_pos g4]
        exact (show kC12 (0 : Int32) from Or.inl rfl)
      ·
        rw [if_neg g4]
        exact (show kC12 (p1015.1) from kkp1015)
    ·
      rw [if_neg g2]
      generalize F_Mil_quotientOrRest_a (0 : Int32) (68 : Int32) t0_0 t0_1 t1_0 t2_0 t2_1 t3_0 t14_0 t14_1 t15_0 = p890 at *
      unfold F_NH_whole_ab_c115
      have h5 := K_NH_keepWhole (x2 := x5) (t0_0 := (p890.1 : Int32)) (t0_1 := (p890.2.1 : Int32)) (t1_0 := (p890.2.2.1 : (Nat → Int32))) (t2_0 := t16_0) (t2_1 := t16_1) (t3_0 := t17_0) 
      generalize F_NH_keepWhole x5 (p890.1 : Int32) (p890.2.1 : Int32) (p890.2.2.1 : (Nat → Int32)) t16_0 t16_1 t17_0 = p919 at *
      have kkp919 := (show kC2 p919.1 from h5).to12
      unfold F_NH_whole_ab_c237_15
      by_cases g6 : p919.1 = (0 : Int32)
      ·
        rw [if_pos g6]
        exact (show kC12 (0 : Int32) from Or.inl rfl)
      ·
        rw [if_neg g6]
        exact (show kC12 (p919.1) from kkp919)
  ·
    rw [if_neg g1]
    exact (show kC12 ((F_NH_canHave lx817)) from (k_can _).to12)
theorem K_NH_whole_ab_J37 {x2 : Int32} {x3 : Int32} {x4 : Int32} {x5 : Int32} {t0_0 : Int32} {t0_1 : Int32} {t1_0 : (Nat → Int32)} {t2_0 : Int32} {t2_1 : Int32} {t3_0 : (Nat → Int32)} {t4_0 : Int32} {t4_1 : Int32} {t5_0 : (Nat → Int32)} {t6_0 : Int32} {t6_1 : Int32} {t7_0 : (Nat → Int32)} {t8_0 : Int32} {t8_1 : Int32} {t9_0 : (Nat → Int32)} {t10_0 : Int32} {t10_1 : Int32} {t11_0 : (Nat → Int32)} {t12_0 : Int32} {t12_1 : Int32} {t13_0 : (Nat → Int32)} {t14_0 : Int32} {t14_1 : Int32} {t15_0 : (Nat → Int32)} {t16_0 : Int32} {t16_1 : Int32} {t17_0 : (Nat → Int32)} {lx73 : Int32}  : QK_whole_ab (F_NH_whole_ab_J37 x2 x3 x4 x5 t0_0 t0_1 t1_0 t2_0 t2_1 t3_0 t4_0 t4_1 t5_0 t6_0 t6_1 t7_0 t8_0 t8_1 t9_0 t10_0 t10_1 t11_0 t12_0 t12_1 t13_0 t14_0 t14_1 t15_0 t16_0 t16_1 t17_0 lx73) := by
  unfold F_NH_whole_ab_J37
  by_cases g1 : (F_NH_need lx73) = (0 : Int32)
  ·
    rw [if_pos g1]
    by_cases g2 : (2 : Int32) < x2
    ·
      rw [if_pos g2]
      by_cases g3 : (4 : Int32) < x2
      ·
        rw [if_pos g3]
        by_cases g4 : x2 = (5 : Int32)
        ·
          rw [if_pos g4]
          by_cases g5 : ((F_Big_sign (68 : Int32) t14_0 t14_1) : Int32) ≤ (0 : Int32)
          ·
            rw [if_pos g5]
            exact K_NH_whole_ab_J139
          ·
            rw [if_neg g5]
            exact K_NH_whole_ab_J139
        ·
          rw [if_neg g4]
          by_cases g6 : x2 = (6 : Int32)
          ·
            rw [if_pos g6]
            generalize F_Mil_commonDivisor (68 : Int32) (68 : Int32) t0_0 t0_1 t1_0 t2_0 t2_1 t3_0 t6_0 t6_1 t7_0 t8_0 t8_1 t9_0 t14_0 t14_1 t15_0 t14_0 t14_1 t15_0 = p609 at *
            unfold F_NH_whole_ab_c177
            have h7 := K_NH_keepWhole (x2 := x5) (t0_0 := (p609.1 : Int32)) (t0_1 := (p609.2.1 : Int32)) (t1_0 := (p609.2.2.1 : (Nat → Int32))) (t2_0 := t16_0) (t2_1 := t16_1) (t3_0 := t17_0) 
            generalize F_NH_keepWhole x5 (p609.1 : Int32) (p609.2.1 : Int32) (p609.2.2.1 : (Nat → Int32)) t16_0 t16_1 t17_0 = p641 at *
            have kkp641 := (show kC2 p641.1 from h7).to12
            unfold F_NH_whole_ab_c237_9
            by_cases g8 : p641.1 = (0 : Int32)
            ·
              rw [if_pos g8]
              exact (show kC12 (0 : Int32) from Or.inl rfl)
            ·
              rw [if_neg g8]
              exact (show kC12 (p641.1) from kkp641)
          ·
            rw [if_neg g6]
            by_cases g9 : x2 = (7 : Int32)
            ·
              rw [if_pos g9]
              by_cases g10 : ((F_Big_sign (68 : Int32) t14_0 t14_1) : Int32) ≤ (0 : Int32)
              ·
                rw [if_pos g10]
                by_cases g11 : (F_NH_canHave (0 : Int32)) = (0 : Int32)
                ·
                  rw [if_pos g11]
                  generalize F_Mil_inverse_a (68 : Int32) t0_0 t0_1 t1_0 t2_0 t2_1 t3_0 t4_0 t4_1 t5_0 t6_0 t6_1 t7_0 t8_0 t8_1 t9_0 t10_0 t10_1 t11_0 t12_0 t12_1 t13_0 t14_0 t14_1 t15_0 = p302 at *
                  unfold F_NH_whole_ab_c213
                  by_cases g12 : (F_NH_canHave (p302.1 : Int32)) = (0 : Int32)
                  ·
                    rw [if_pos g12]
                    have h13 := K_NH_keepWhole (x2 := x5) (t0_0 := (p302.2.1 : Int32)) (t0_1 := (p302.2.2.1 : Int32)) (t1_0 := (p302.2.2.2.1 : (Nat → Int32))) (t2_0 := t16_0) (t2_1 := t16_1) (t3_0 := t17_0) 
                    generalize F_NH_keepWhole x5 (p302.2.1 : Int32) (p302.2.2.1 : Int32) (p302.2.2.2.1 : (Nat → Int32)) t16_0 t16_1 t17_0 = p356 at *
                    have kkp356 := (show kC2 p356.1 from h13).to12
                    unfold F_NH_whole_ab_c237_5
                    by_cases g14 : p356.1 = (0 : Int32)
                    ·
                      rw [if_pos g14]
                      exact (show kC12 (0 : Int32) from Or.inl rfl)
                    ·
                      rw [if_neg g14]
                      exact (show kC12 (p356.1) from kkp356)
                  ·
                    rw [if_neg g12]
                    exact (show kC12 ((F_NH_canHave (p302.1 : Int32))) from (k_can _).to12)
                ·
                  rw [if_neg g11]
                  exact (show kC12 ((F_NH_canHave (0 : Int32))) from (k_can _).to12)
              ·
                rw [if_neg g10]
                by_cases g15 : (F_NH_canHave (1 : Int32)) = (0 : Int32)
                ·
                  rw [if_pos g15]
                  generalize F_Mil_inverse_a (68 : Int32) t0_0 t0_1 t1_0 t2_0 t2_1 t3_0 t4_0 t4_1 t5_0 t6_0 t6_1 t7_0 t8_0 t8_1 t9_0 t10_0 t10_1 t11_0 t12_0 t12_1 t13_0 t14_0 t14_1 t15_0 = p481 at *
                  unfold F_NH_whole_ab_c213_6
                  by_cases g16 : (F_NH_canHave (p481.1 : Int32)) = (0 : Int32)
                  ·
                    rw [if_pos g16]
                    have h17 := K_NH_keepWhole (x2 := x5) (t0_0 := (p481.2.1 : Int32)) (t0_1 := (p481.2.2.1 : Int32)) (t1_0 := (p481.2.2.2.1 : (Nat → Int32))) (t2_0 := t16_0) (t2_1 := t16_1) (t3_0 := t17_0) 
                    generalize F_NH_keepWhole x5 (p481.2.1 : Int32) (p481.2.2.1 : Int32) (p481.2.2.2.1 : (Nat → Int32)) t16_0 t16_1 t17_0 = p535 at *
                    have kkp535 := (show kC2 p535.1 from h17).to12
                    unfold F_NH_whole_ab_c237_7
                    by_cases g18 : p535.1 = (0 : Int32)
                    ·
                      rw [if_pos g18]
                      exact (show kC12 (0 : Int32) from Or.inl rfl)
                    ·
                      rw [if_neg g18]
                      exact (show kC12 (p535.1) from kkp535)
                  ·
                    rw [if_neg g16]
                    exact (show kC12 ((F_NH_canHave (p481.1 : Int32))) from (k_can _).to12)
                ·
                  rw [if_neg g15]
                  exact (show kC12 ((F_NH_canHave (1 : Int32))) from (k_can _).to12)
            ·
              rw [if_neg g9]
              generalize F_Mil_mixBits x2 (68 : Int32) (68 : Int32) t0_0 t0_1 t1_0 t14_0 t14_1 t15_0 t14_0 t14_1 t15_0 = p144 at *
              unfold F_NH_whole_ab_c231
              have h19 := K_NH_keepWhole (x2 := x5) (t0_0 := (p144.1 : Int32)) (t0_1 := (p144.2.1 : Int32)) (t1_0 := (p144.2.2 : (Nat → Int32))) (t2_0 := t16_0) (t2_1 := t16_1) (t3_0 := t17_0) 
              generalize F_NH_keepWhole x5 (p144.1 : Int32) (p144.2.1 : Int32) (p144.2.2 : (Nat → Int32)) t16_0 t16_1 t17_0 = p167 at *
              have kkp167 := (show kC2 p167.1 from h19).to12
              unfold F_NH_whole_ab_c237
              by_cases g20 : p167.1 = (0 : Int32)
              ·
                rw [if_pos g20]
                exact (show kC12 (0 : Int32) from Or.inl rfl)
              ·
                rw [if_neg g20]
                exact (show kC12 (p167.1) from kkp167)
      ·
        rw [if_neg g3]
        by_cases g21 : t14_0 ≤ (0 : Int32)
        ·
          rw [if_pos g21]
          exact K_NH_whole_ab_J94
        ·
          rw [if_neg g21]
          exact K_NH_whole_ab_J94
    ·
      rw [if_neg g2]
      generalize F_Mil_addOrMultiply x2 (68 : Int32) (68 : Int32) t0_0 t0_1 t1_0 t14_0 t14_1 t15_0 t14_0 t14_1 t15_0 = p1064 at *
      unfold F_NH_whole_ab_c70
      have h22 := K_NH_keepWhole (x2 := x5) (t0_0 := (p1064.1 : Int32)) (t0_1 := (p1064.2.1 : Int32)) (t1_0 := (p1064.2.2 : (Nat → Int32))) (t2_0 := t16_0) (t2_1 := t16_1) (t3_0 := t17_0) 
      generalize F_NH_keepWhole x5 (p1064.1 : Int32) (p1064.2.1 : Int32) (p1064.2.2 : (Nat → Int32)) t16_0 t16_1 t17_0 = p1087 at *
      have kkp1087 := (show kC2 p1087.1 from h22).to12
      unfold F_NH_whole_ab_c237_19
      by_cases g23 : p1087.1 = (0 : Int32)
      ·
        rw [if_pos g23]
        exact (show kC12 (0 : Int32) from Or.inl rfl)
      ·
        rw [if_neg g23]
        exact (show kC12 (p1087.1) from kkp1087)
  ·
    rw [if_neg g1]
    exact (show kC12 ((F_NH_need lx73)) from (k_need _).to12)
theorem K_NH_whole_ab_J36 {x2 : Int32} {x3 : Int32} {x4 : Int32} {x5 : Int32} {t0_0 : Int32} {t0_1 : Int32} {t1_0 : (Nat → Int32)} {t2_0 : Int32} {t2_1 : Int32} {t3_0 : (Nat → Int32)} {t4_0 : Int32} {t4_1 : Int32} {t5_0 : (Nat → Int32)} {t6_0 : Int32} {t6_1 : Int32} {t7_0 : (Nat → Int32)} {t8_0 : Int32} {t8_1 : Int32} {t9_0 : (Nat → Int32)} {t10_0 : Int32} {t10_1 : Int32} {t11_0 : (Nat → Int32)} {t12_0 : Int32} {t12_1 : Int32} {t13_0 : (Nat → Int32)} {t14_0 : Int32} {t14_1 : Int32} {t15_0 : (Nat → Int32)} {t16_0 : Int32} {t16_1 : Int32} {t17_0 : (Nat → Int32)}  : QK_whole_ab (F_NH_whole_ab_J36 x2 x3 x4 x5 t0_0 t0_1 t1_0 t2_0 t2_1 t3_0 t4_0 t4_1 t5_0 t6_0 t6_1 t7_0 t8_0 t8_1 t9_0 t10_0 t10_1 t11_0 t12_0 t12_1 t13_0 t14_0 t14_1 t15_0 t16_0 t16_1 t17_0) := by
  unfold F_NH_whole_ab_J36
  exact K_NH_whole_ab_J37
theorem K_NH_whole_ab {x2 : Int32} {x3 : Int32} {x4 : Int32} {x5 : Int32} {t0_0 : Int32} {t0_1 : Int32} {t1_0 : (Nat → Int32)} {t2_0 : Int32} {t2_1 : Int32} {t3_0 : (Nat → Int32)} {t4_0 : Int32} {t4_1 : Int32} {t5_0 : (Nat → Int32)} {t6_0 : Int32} {t6_1 : Int32} {t7_0 : (Nat → Int32)} {t8_0 : Int32} {t8_1 : Int32} {t9_0 : (Nat → Int32)} {t10_0 : Int32} {t10_1 : Int32} {t11_0 : (Nat → Int32)} {t12_0 : Int32} {t12_1 : Int32} {t13_0 : (Nat → Int32)} {t14_0 : Int32} {t14_1 : Int32} {t15_0 : (Nat → Int32)} {t16_0 : Int32} {t16_1 : Int32} {t17_0 : (Nat → Int32)}  : QK_whole_ab (F_NH_whole_ab x2 x3 x4 x5 t0_0 t0_1 t1_0 t2_0 t2_1 t3_0 t4_0 t4_1 t5_0 t6_0 t6_1 t7_0 t8_0 t8_1 t9_0 t10_0 t10_1 t11_0 t12_0 t12_1 t13_0 t14_0 t14_1 t15_0 t16_0 t16_1 t17_0) := by
  unfold F_NH_whole_ab
  by_cases g1 : x2 < (0 : Int32)
  ·
    rw [if_pos g1]
    exact K_NH_whole_ab_J36
  ·
    rw [if_neg g1]
    by_cases g2 : (11 : Int32) < x2
    ·
      rw [if_pos g2]
      exact K_NH_whole_ab_J36
    ·
      rw [if_neg g2]
      by_cases g3 : ((F_NH_isRegister x3) : Int32) = (0 : Int32)
      ·
        rw [if_pos g3]
        exact K_NH_whole_ab_J36
      ·
        rw [if_neg g3]
        by_cases g4 : ((F_NH_isRegister x4) : Int32) = (0 : Int32)
        ·
          rw [if_pos g4]
          exact K_NH_whole_ab_J36
        ·
          rw [if_neg g4]
          by_cases g5 : ((F_NH_isRegister x5) : Int32) = (0 : Int32)
          ·
            rw [if_pos g5]
            exact K_NH_whole_ab_J36
          ·
            rw [if_neg g5]
            exact K_NH_whole_ab_J37
def QK_whole_bt (p : Int32 × Int32 × Int32 × (Nat → Int32) × Int32 × Int32 × (Nat → Int32) × Int32 × Int32 × (Nat → Int32) × Int32 × Int32 × (Nat → Int32) × Int32 × Int32 × (Nat → Int32) × Int32 × Int32 × (Nat → Int32) × Int32 × Int32 × (Nat → Int32) × Int32 × Int32 × (Nat → Int32)) : Prop := kC12 p.1
theorem K_NH_whole_bt_J139 {x2 : Int32} {x3 : Int32} {x4 : Int32} {x5 : Int32} {t0_0 : Int32} {t0_1 : Int32} {t1_0 : (Nat → Int32)} {t2_0 : Int32} {t2_1 : Int32} {t3_0 : (Nat → Int32)} {t4_0 : Int32} {t4_1 : Int32} {t5_0 : (Nat → Int32)} {t6_0 : Int32} {t6_1 : Int32} {t7_0 : (Nat → Int32)} {t8_0 : Int32} {t8_1 : Int32} {t9_0 : (Nat → Int32)} {t10_0 : Int32} {t10_1 : Int32} {t11_0 : (Nat → Int32)} {t12_0 : Int32} {t12_1 : Int32} {t13_0 : (Nat → Int32)} {t14_0 : Int32} {t14_1 : Int32} {t15_0 : (Nat → Int32)} {t16_0 : Int32} {t16_1 : Int32} {t17_0 : (Nat → Int32)} {lx73 : Int32} {lx691 : Int32}  : QK_whole_bt (F_NH_whole_bt_J139 x2 x3 x4 x5 t0_0 t0_1 t1_0 t2_0 t2_1 t3_0 t4_0 t4_1 t5_0 t6_0 t6_1 t7_0 t8_0 t8_1 t9_0 t10_0 t10_1 t11_0 t12_0 t12_1 t13_0 t14_0 t14_1 t15_0 t16_0 t16_1 t17_0 lx73 lx691) := by
  unfold F_NH_whole_bt_J139
  by_cases g1 : (F_NH_canHave lx691) = (0 : Int32)
  ·
    rw [if_pos g1]
    generalize F_Mil_modulo (68 : Int32) (68 : Int32) (220 : Int32) t2_0 t2_1 t3_0 t14_0 t14_1 t15_0 t16_0 t16_1 t17_0 t0_0 t0_1 t1_0 = p765 at *
    unfold F_NH_whole_bt_c157
    have h2 := K_NH_keepWhole (x2 := x5) (t0_0 := (p765.2.2.2.2.2.2.1 : Int32)) (t0_1 := (p765.2.2.2.2.2.2.2.1 : Int32)) (t1_0 := (p765.2.2.2.2.2.2.2.2 : (Nat → Int32))) (t2_0 := (p765.2.2.2.1 : Int32)) (t2_1 := (p765.2.2.2.2.1 : Int32)) (t3_0 := (p765.2.2.2.2.2.1 : (Nat → Int32))) 
    generalize F_NH_keepWhole x5 (p765.2.2.2.2.2.2.1 : Int32) (p765.2.2.2.2.2.2.2.1 : Int32) (p765.2.2.2.2.2.2.2.2 : (Nat → Int32)) (p765.2.2.2.1 : Int32) (p765.2.2.2.2.1 : Int32) (p765.2.2.2.2.2.1 : (Nat → Int32)) = p794 at *
    have kkp794 := (show kC2 p794.1 from h2).to12
    unfold F_NH_whole_bt_c237_12
    by_cases g3 : p794.1 = (0 : Int32)
    ·
      rw [if_pos g3]
      exact (show kC12 (0 : Int32) from Or.inl rfl)
    ·
      rw [if_neg g3]
      exact (show kC12 (p794.1) from kkp794)
  ·
    rw [if_neg g1]
    exact (show kC12 ((F_NH_canHave lx691)) from (k_can _).to12)
theorem K_NH_whole_bt_J94 {x2 : Int32} {x3 : Int32} {x4 : Int32} {x5 : Int32} {t0_0 : Int32} {t0_1 : Int32} {t1_0 : (Nat → Int32)} {t2_0 : Int32} {t2_1 : Int32} {t3_0 : (Nat → Int32)} {t4_0 : Int32} {t4_1 : Int32} {t5_0 : (Nat → Int32)} {t6_0 : Int32} {t6_1 : Int32} {t7_0 : (Nat → Int32)} {t8_0 : Int32} {t8_1 : Int32} {t9_0 : (Nat → Int32)} {t10_0 : Int32} {t10_1 : Int32} {t11_0 : (Nat → Int32)} {t12_0 : Int32} {t12_1 : Int32} {t13_0 : (Nat → Int32)} {t14_0 : Int32} {t14_1 : Int32} {t15_0 : (Nat → Int32)} {t16_0 : Int32} {t16_1 : Int32} {t17_0 : (Nat → Int32)} {lx73 : Int32} {lx829 : Int32}  : QK_whole_bt (F_NH_whole_bt_J94 x2 x3 x4 x5 t0_0 t0_1 t1_0 t2_0 t2_1 t3_0 t4_0 t4_1 t5_0 t6_0 t6_1 t7_0 t8_0 t8_1 t9_0 t10_0 t10_1 t11_0 t12_0 t12_1 t13_0 t14_0 t14_1 t15_0 t16_0 t16_1 t17_0 lx73 lx829) := by
  unfold F_NH_whole_bt_J94
  by_cases g1 : (F_NH_canHave lx829) = (0 : Int32)
  ·
    rw [if_pos g1]
    by_cases g2 : x2 = (3 : Int32)
    ·
      rw [if_pos g2]
      generalize F_Mil_quotientOrRest (1 : Int32) (68 : Int32) (68 : Int32) t0_0 t0_1 t1_0 t2_0 t2_1 t3_0 t14_0 t14_1 t15_0 t16_0 t16_1 t17_0 = p1002 at *
      unfold F_NH_whole_bt_c115_16
      have h3 := K_NH_keepWhole (x2 := x5) (t0_0 := (p1002.1 : Int32)) (t0_1 := (p1002.2.1 : Int32)) (t1_0 := (p1002.2.2.1 : (Nat → Int32))) (t2_0 := (p1002.2.2.2.2.2.2.1 : Int32)) (t2_1 := (p1002.2.2.2.2.2.2.2.1 : Int32)) (t3_0 := (p1002.2.2.2.2.2.2.2.2 : (Nat → Int32))) 
      generalize F_NH_keepWhole x5 (p1002.1 : Int32) (p1002.2.1 : Int32) (p1002.2.2.1 : (Nat → Int32)) (p1002.2.2.2.2.2.2.1 : Int32) (p1002.2.2.2.2.2.2.2.1 : Int32) (p1002.2.2.2.2.2.2.2.2 : (Nat → Int32)) = p1031 at *
      have kkp1031 := (show kC2 p1031.1 from h3).to12
      unfold F_NH_whole_bt_c237_17
      by_cases g4 : p1031.1 = (0 : Int32)
      ·
        rw [if_pos g4]
        exact (show kC12 (0 : Int32) from Or.inl rfl)
      ·
        rw [if_neg g4]
        exact (show kC12 (p1031.1) from kkp1031)
    ·
      rw [if_neg g2]
      generalize F_Mil_quotientOrRest (0 : Int32) (68 : Int32) (68 : Int32) t0_0 t0_1 t1_0 t2_0 t2_1 t3_0 t14_0 t14_1 t15_0 t16_0 t16_1 t17_0 = p904 at *
      unfold F_NH_whole_bt_c115
      have h5 := K_NH_keepWhole (x2 := x5) (t0_0 := (p904.1 : Int32)) (t0_1 := (p904.2.1 : Int32)) (t1_0 := (p904.2.2.1 : (Nat → Int32))) (t2_0 := (p904.2.2.2.2.2.2.1 : Int32)) (t2_1 := (p904.2.2.2.2.2.2.2.1 : Int32)) (t3_0 := (p904.2.2.2.2.2.2.2.2 : (Nat → Int32))) 
      generalize F_NH_keepWhole x5 (p904.1 : Int32) (p904.2.1 : Int32) (p904.2.2.1 : (Nat → Int32)) (p904.2.2.2.2.2.2.1 : Int32) (p904.2.2.2.2.2.2.2.1 : Int32) (p904.2.2.2.2.2.2.2.2 : (Nat → Int32)) = p933 at *
      have kkp933 := (show kC2 p933.1 from h5).to12
      unfold F_NH_whole_bt_c237_15
      by_cases g6 : p933.1 = (0 : Int32)
      ·
        rw [if_pos g6]
        exact (show kC12 (0 : Int32) from Or.inl rfl)
      ·
        rw [if_neg g6]
        exact (show kC12 (p933.1) from kkp933)
  ·
    rw [if_neg g1]
    exact (show kC12 ((F_NH_canHave lx829)) from (k_can _).to12)
theorem K_NH_whole_bt_J37 {x2 : Int32} {x3 : Int32} {x4 : Int32} {x5 : Int32} {t0_0 : Int32} {t0_1 : Int32} {t1_0 : (Nat → Int32)} {t2_0 : Int32} {t2_1 : Int32} {t3_0 : (Nat → Int32)} {t4_0 : Int32} {t4_1 : Int32} {t5_0 : (Nat → Int32)} {t6_0 : Int32} {t6_1 : Int32} {t7_0 : (Nat → Int32)} {t8_0 : Int32} {t8_1 : Int32} {t9_0 : (Nat → Int32)} {t10_0 : Int32} {t10_1 : Int32} {t11_0 : (Nat → Int32)} {t12_0 : Int32} {t12_1 : Int32} {t13_0 : (Nat → Int32)} {t14_0 : Int32} {t14_1 : Int32} {t15_0 : (Nat → Int32)} {t16_0 : Int32} {t16_1 : Int32} {t17_0 : (Nat → Int32)} {lx73 : Int32}  : QK_whole_bt (F_NH_whole_bt_J37 x2 x3 x4 x5 t0_0 t0_1 t1_0 t2_0 t2_1 t3_0 t4_0 t4_1 t5_0 t6_0 t6_1 t7_0 t8_0 t8_1 t9_0 t10_0 t10_1 t11_0 t12_0 t12_1 t13_0 t14_0 t14_1 t15_0 t16_0 t16_1 t17_0 lx73) := by
  unfold F_NH_whole_bt_J37
  by_cases g1 : (F_NH_need lx73) = (0 : Int32)
  ·
    rw [if_pos g1]
    by_cases g2 : (2 : Int32) < x2
    ·
      rw [if_pos g2]
      by_cases g3 : (4 : Int32) < x2
      ·
        rw [if_pos g3]
        by_cases g4 : x2 = (5 : Int32)
        ·
          rw [if_pos g4]
          by_cases g5 : ((F_Big_sign (68 : Int32) t16_0 t16_1) : Int32) ≤ (0 : Int32)
          ·
            rw [if_pos g5]
            exact K_NH_whole_bt_J139
          ·
            rw [if_neg g5]
            exact K_NH_whole_bt_J139
        ·
          rw [if_neg g4]
          by_cases g6 : x2 = (6 : Int32)
          ·
            rw [if_pos g6]
            generalize F_Mil_commonDivisor (68 : Int32) (68 : Int32) t0_0 t0_1 t1_0 t2_0 t2_1 t3_0 t6_0 t6_1 t7_0 t8_0 t8_1 t9_0 t14_0 t14_1 t15_0 t16_0 t16_1 t17_0 = p619 at *
            unfold F_NH_whole_bt_c177
            have h7 := K_NH_keepWhole (x2 := x5) (t0_0 := (p619.1 : Int32)) (t0_1 := (p619.2.1 : Int32)) (t1_0 := (p619.2.2.1 : (Nat → Int32))) (t2_0 := t16_0) (t2_1 := t16_1) (t3_0 := t17_0) 
            generalize F_NH_keepWhole x5 (p619.1 : Int32) (p619.2.1 : Int32) (p619.2.2.1 : (Nat → Int32)) t16_0 t16_1 t17_0 = p651 at *
            have kkp651 := (show kC2 p651.1 from h7).to12
            unfold F_NH_whole_bt_c237_9
            by_cases g8 : p651.1 = (0 : Int32)
            ·
              rw [if_pos g8]
              exact (show kC12 (0 : Int32) from Or.inl rfl)
            ·
              rw [if_neg g8]
              exact (show kC12 (p651.1) from kkp651)
          ·
            rw [if_neg g6]
            by_cases g9 : x2 = (7 : Int32)
            ·
              rw [if_pos g9]
              by_cases g10 : ((F_Big_sign (68 : Int32) t16_0 t16_1) : Int32) ≤ (0 : Int32)
              ·
                rw [if_pos g10]
                by_cases g11 : (F_NH_canHave (0 : Int32)) = (0 : Int32)
                ·
                  rw [if_pos g11]
                  generalize F_Mil_inverse (68 : Int32) (68 : Int32) t0_0 t0_1 t1_0 t2_0 t2_1 t3_0 t4_0 t4_1 t5_0 t6_0 t6_1 t7_0 t8_0 t8_1 t9_0 t10_0 t10_1 t11_0 t12_0 t12_1 t13_0 t14_0 t14_1 t15_0 t16_0 t16_1 t17_0 = p307 at *
                  unfold F_NH_whole_bt_c213
                  by_cases g12 : (F_NH_canHave (p307.1 : Int32)) = (0 : Int32)
                  ·
                    rw [if_pos g12]
                    have h13 := K_NH_keepWhole (x2 := x5) (t0_0 := (p307.2.1 : Int32)) (t0_1 := (p307.2.2.1 : Int32)) (t1_0 := (p307.2.2.2.1 : (Nat → Int32))) (t2_0 := (p307.2.2.2.2.2.2.2.2.2.2.2.2.2.2.2.2.2.2.2.2.2.2.1 : Int32)) (t2_1 := (p307.2.2.2.2.2.2.2.2.2.2.2.2.2.2.2.2.2.2.2.2.2.2.2.1 : Int32)) (t3_0 := (p307.2.2.2.2.2.2.2.2.2.2.2.2.2.2.2.2.2.2.2.2.2.2.2.2 : (Nat → Int32))) 
                    generalize F_NH_keepWhole x5 (p307.2.1 : Int32) (p307.2.2.1 : Int32) (p307.2.2.2.1 : (Nat → Int32)) (p307.2.2.2.2.2.2.2.2.2.2.2.2.2.2.2.2.2.2.2.2.2.2.1 : Int32) (p307.2.2.2.2.2.2.2.2.2.2.2.2.2.2.2.2.2.2.2.2.2.2.2.1 : Int32) (p307.2.2.2.2.2.2.2.2.2.2.2.2.2.2.2.2.2.2.2.2.2.2.2.2 : (Nat → Int32)) = p361 at *
                    have kkp361 := (show kC2 p361.1 from h13).to12
                    unfold F_NH_whole_bt_c237_5
                    by_cases g14 : p361.1 = (0 : Int32)
                    ·
                      rw [if_pos g14]
                      exact (show kC12 (0 : Int32) from Or.inl rfl)
                    ·
                      rw [if_neg g14]
                      exact (show kC12 (p361.1) from kkp361)
                  ·
                    rw [if_neg g12]
                    exact (show kC12 ((F_NH_canHave (p307.1 : Int32))) from (k_can _).to12)
                ·
                  rw [if_neg g11]
                  exact (show kC12 ((F_NH_canHave (0 : Int32))) from (k_can _).to12)
              ·
                rw [if_neg g10]
                by_cases g15 : (F_NH_canHave (1 : Int32)) = (0 : Int32)
                ·
                  rw [if_pos g15]
                  generalize F_Mil_inverse (68 : Int32) (68 : Int32) t0_0 t0_1 t1_0 t2_0 t2_1 t3_0 t4_0 t4_1 t5_0 t6_0 t6_1 t7_0 t8_0 t8_1 t9_0 t10_0 t10_1 t11_0 t12_0 t12_1 t13_0 t14_0 t14_1 t15_0 t16_0 t16_1 t17_0 = p491 at *
                  unfold F_NH_whole_bt_c213_6
                  by_cases g16 : (F_NH_canHave (p491.1 : Int32)) = (0 : Int32)
                  ·
                    rw [if_pos g16]
                    have h17 := K_NH_keepWhole (x2 := x5) (t0_0 := (p491.2.1 : Int32)) (t0_1 := (p491.2.2.1 : Int32)) (t1_0 := (p491.2.2.2.1 : (Nat → Int32))) (t2_0 := (p491.2.2.2.2.2.2.2.2.2.2.2.2.2.2.2.2.2.2.2.2.2.2.1 : Int32)) (t2_1 := (p491.2.2.2.2.2.2.2.2.2.2.2.2.2.2.2.2.2.2.2.2.2.2.2.1 : Int32)) (t3_0 := (p491.2.2.2.2.2.2.2.2.2.2.2.2.2.2.2.2.2.2.2.2.2.2.2.2 : (Nat → Int32))) 
                    generalize F_NH_keepWhole x5 (p491.2.1 : Int32) (p491.2.2.1 : Int32) (p491.2.2.2.1 : (Nat → Int32)) (p491.2.2.2.2.2.2.2.2.2.2.2.2.2.2.2.2.2.2.2.2.2.2.1 : Int32) (p491.2.2.2.2.2.2.2.2.2.2.2.2.2.2.2.2.2.2.2.2.2.2.2.1 : Int32) (p491.2.2.2.2.2.2.2.2.2.2.2.2.2.2.2.2.2.2.2.2.2.2.2.2 : (Nat → Int32)) = p545 at *
                    have kkp545 := (show kC2 p545.1 from h17).to12
                    unfold F_NH_whole_bt_c237_7
                    by_cases g18 : p545.1 = (0 : Int32)
                    ·
                      rw [if_pos g18]
                      exact (show kC12 (0 : Int32) from Or.inl rfl)
                    ·
                      rw [if_neg g18]
                      exact (show kC12 (p545.1) from kkp545)
                  ·
                    rw [if_neg g16]
                    exact (show kC12 ((F_NH_canHave (p491.1 : Int32))) from (k_can _).to12)
                ·
                  rw [if_neg g15]
                  exact (show kC12 ((F_NH_canHave (1 : Int32))) from (k_can _).to12)
            ·
              rw [if_neg g9]
              generalize F_Mil_mixBits x2 (68 : Int32) (68 : Int32) t0_0 t0_1 t1_0 t14_0 t14_1 t15_0 t16_0 t16_1 t17_0 = p144 at *
              unfold F_NH_whole_bt_c231
              have h19 := K_NH_keepWhole (x2 := x5) (t0_0 := (p144.1 : Int32)) (t0_1 := (p144.2.1 : Int32)) (t1_0 := (p144.2.2 : (Nat → Int32))) (t2_0 := t16_0) (t2_1 := t16_1) (t3_0 := t17_0) 
              generalize F_NH_keepWhole x5 (p144.1 : Int32) (p144.2.1 : Int32) (p144.2.2 : (Nat → Int32)) t16_0 t16_1 t17_0 = p167 at *
              have kkp167 := (show kC2 p167.1 from h19).to12
              unfold F_NH_whole_bt_c237
              by_cases g20 : p167.1 = (0 : Int32)
              ·
                rw [if_pos g20]
                exact (show kC12 (0 : Int32) from Or.inl rfl)
              ·
                rw [if_neg g20]
                exact (show kC12 (p167.1) from kkp167)
      ·
        rw [if_neg g3]
        by_cases g21 : t16_0 ≤ (0 : Int32)
        ·
          rw [if_pos g21]
          exact K_NH_whole_bt_J94
        ·
          rw [if_neg g21]
          exact K_NH_whole_bt_J94
    ·
      rw [if_neg g2]
      generalize F_Mil_addOrMultiply x2 (68 : Int32) (68 : Int32) t0_0 t0_1 t1_0 t14_0 t14_1 t15_0 t16_0 t16_1 t17_0 = p1080 at *
      unfold F_NH_whole_bt_c70
      have h22 := K_NH_keepWhole (x2 := x5) (t0_0 := (p1080.1 : Int32)) (t0_1 := (p1080.2.1 : Int32)) (t1_0 := (p1080.2.2 : (Nat → Int32))) (t2_0 := t16_0) (t2_1 := t16_1) (t3_0 := t17_0) 
      generalize F_NH_keepWhole x5 (p1080.1 : Int32) (p1080.2.1 : Int32) (p1080.2.2 : (Nat → Int32)) t16_0 t16_1 t17_0 = p1103 at *
      have kkp1103 := (show kC2 p1103.1 from h22).to12
      unfold F_NH_whole_bt_c237_19
      by_cases g23 : p1103.1 = (0 : Int32)
      ·
        rw [if_pos g23]
        exact (show kC12 (0 : Int32) from Or.inl rfl)
      ·
        rw [if_neg g23]
        exact (show kC12 (p1103.1) from kkp1103)
  ·
    rw [if_neg g1]
    exact (show kC12 ((F_NH_need lx73)) from (k_need _).to12)
theorem K_NH_whole_bt_J36 {x2 : Int32} {x3 : Int32} {x4 : Int32} {x5 : Int32} {t0_0 : Int32} {t0_1 : Int32} {t1_0 : (Nat → Int32)} {t2_0 : Int32} {t2_1 : Int32} {t3_0 : (Nat → Int32)} {t4_0 : Int32} {t4_1 : Int32} {t5_0 : (Nat → Int32)} {t6_0 : Int32} {t6_1 : Int32} {t7_0 : (Nat → Int32)} {t8_0 : Int32} {t8_1 : Int32} {t9_0 : (Nat → Int32)} {t10_0 : Int32} {t10_1 : Int32} {t11_0 : (Nat → Int32)} {t12_0 : Int32} {t12_1 : Int32} {t13_0 : (Nat → Int32)} {t14_0 : Int32} {t14_1 : Int32} {t15_0 : (Nat → Int32)} {t16_0 : Int32} {t16_1 : Int32} {t17_0 : (Nat → Int32)}  : QK_whole_bt (F_NH_whole_bt_J36 x2 x3 x4 x5 t0_0 t0_1 t1_0 t2_0 t2_1 t3_0 t4_0 t4_1 t5_0 t6_0 t6_1 t7_0 t8_0 t8_1 t9_0 t10_0 t10_1 t11_0 t12_0 t12_1 t13_0 t14_0 t14_1 t15_0 t16_0 t16_1 t17_0) := by
  unfold F_NH_whole_bt_J36
  exact K_NH_whole_bt_J37
theorem K_NH_whole_bt {x2 : Int32} {x3 : Int32} {x4 : Int32} {x5 : Int32} {t0_0 : Int32} {t0_1 : Int32} {t1_0 : (Nat → Int32)} {t2_0 : Int32} {t2_1 : Int32} {t3_0 : (Nat → Int32)} {t4_0 : Int32} {t4_1 : Int32} {t5_0 : (Nat → Int32)} {t6_0 : Int32} {t6_1 : Int32} {t7_0 : (Nat → Int32)} {t8_0 : Int32} {t8_1 : Int32} {t9_0 : (Nat → Int32)} {t10_0 : Int32} {t10_1 : Int32} {t11_0 : (Nat → Int32)} {t12_0 : Int32} {t12_1 : Int32} {t13_0 : (Nat → Int32)} {t14_0 : Int32} {t14_1 : Int32} {t15_0 : (Nat → Int32)} {t16_0 : Int32} {t16_1 : Int32} {t17_0 : (Nat → Int32)}  : QK_whole_bt (F_NH_whole_bt x2 x3 x4 x5 t0_0 t0_1 t1_0 t2_0 t2_1 t3_0 t4_0 t4_1 t5_0 t6_0 t6_1 t7_0 t8_0 t8_1 t9_0 t10_0 t10_1 t11_0 t12_0 t12_1 t13_0 t14_0 t14_1 t15_0 t16_0 t16_1 t17_0) := by
  unfold F_NH_whole_bt
  by_cases g1 : x2 < (0 : Int32)
  ·
    rw [if_pos g1]
    exact K_NH_whole_bt_J36
  ·
    rw [if_neg g1]
    by_cases g2 : (11 : Int32) < x2
    ·
      rw [if_pos g2]
      exact K_NH_whole_bt_J36
    ·
      rw [if_neg g2]
      by_cases g3 : ((F_NH_isRegister x3) : Int32) = (0 : Int32)
      ·
        rw [if_pos g3]
        exact K_NH_whole_bt_J36
      ·
        rw [if_neg g3]
        by_cases g4 : ((F_NH_isRegister x4) : Int32) = (0 : Int32)
        ·
          rw [if_pos g4]
          exact K_NH_whole_bt_J36
        ·
          rw [if_neg g4]
          by_cases g5 : ((F_NH_isRegister x5) : Int32) = (0 : Int32)
          ·
            rw [if_pos g5]
            exact K_NH_whole_bt_J36
          ·
            rw [if_neg g5]
            exact K_NH_whole_bt_J37
def QK_whole_abt (p : Int32 × Int32 × Int32 × (Nat → Int32) × Int32 × Int32 × (Nat → Int32) × Int32 × Int32 × (Nat → Int32) × Int32 × Int32 × (Nat → Int32) × Int32 × Int32 × (Nat → Int32) × Int32 × Int32 × (Nat → Int32) × Int32 × Int32 × (Nat → Int32) × Int32 × Int32 × (Nat → Int32)) : Prop := kC12 p.1
theorem K_NH_whole_abt_J139 {x2 : Int32} {x3 : Int32} {x4 : Int32} {x5 : Int32} {t0_0 : Int32} {t0_1 : Int32} {t1_0 : (Nat → Int32)} {t2_0 : Int32} {t2_1 : Int32} {t3_0 : (Nat → Int32)} {t4_0 : Int32} {t4_1 : Int32} {t5_0 : (Nat → Int32)} {t6_0 : Int32} {t6_1 : Int32} {t7_0 : (Nat → Int32)} {t8_0 : Int32} {t8_1 : Int32} {t9_0 : (Nat → Int32)} {t10_0 : Int32} {t10_1 : Int32} {t11_0 : (Nat → Int32)} {t12_0 : Int32} {t12_1 : Int32} {t13_0 : (Nat → Int32)} {t14_0 : Int32} {t14_1 : Int32} {t15_0 : (Nat → Int32)} {lx65 : Int32} {lx671 : Int32}  : QK_whole_abt (F_NH_whole_abt_J139 x2 x3 x4 x5 t0_0 t0_1 t1_0 t2_0 t2_1 t3_0 t4_0 t4_1 t5_0 t6_0 t6_1 t7_0 t8_0 t8_1 t9_0 t10_0 t10_1 t11_0 t12_0 t12_1 t13_0 t14_0 t14_1 t15_0 lx65 lx671) := by
  unfold F_NH_whole_abt_J139
  by_cases g1 : (F_NH_canHave lx671) = (0 : Int32)
  ·
    rw [if_pos g1]
    generalize F_Mil_modulo_a (68 : Int32) (220 : Int32) t2_0 t2_1 t3_0 t14_0 t14_1 t15_0 t0_0 t0_1 t1_0 = p741 at *
    unfold F_NH_whole_abt_c157
    have h2 := K_NH_keepWhole (x2 := x5) (t0_0 := (p741.2.2.2.2.2.2.1 : Int32)) (t0_1 := (p741.2.2.2.2.2.2.2.1 : Int32)) (t1_0 := (p741.2.2.2.2.2.2.2.2 : (Nat → Int32))) (t2_0 := (p741.2.2.2.1 : Int32)) (t2_1 := (p741.2.2.2.2.1 : Int32)) (t3_0 := (p741.2.2.2.2.2.1 : (Nat → Int32))) 
    generalize F_NH_keepWhole x5 (p741.2.2.2.2.2.2.1 : Int32) (p741.2.2.2.2.2.2.2.1 : Int32) (p741.2.2.2.2.2.2.2.2 : (Nat → Int32)) (p741.2.2.2.1 : Int32) (p741.2.2.2.2.1 : Int32) (p741.2.2.2.2.2.1 : (Nat → Int32)) = p770 at *
    have kkp770 := (show kC2 p770.1 from h2).to12
    unfold F_NH_whole_abt_c237_12
    by_cases g3 : p770.1 = (0 : Int32)
    ·
      rw [if_pos g3]
      exact (show kC12 (0 : Int32) from Or.inl rfl)
    ·
      rw [if_neg g3]
      exact (show kC12 (p770.1) from kkp770)
  ·
    rw [if_neg g1]
    exact (show kC12 ((F_NH_canHave lx671)) from (k_can _).to12)
theorem K_NH_whole_abt_J94 {x2 : Int32} {x3 : Int32} {x4 : Int32} {x5 : Int32} {t0_0 : Int32} {t0_1 : Int32} {t1_0 : (Nat → Int32)} {t2_0 : Int32} {t2_1 : Int32} {t3_0 : (Nat → Int32)} {t4_0 : Int32} {t4_1 : Int32} {t5_0 : (Nat → Int32)} {t6_0 : Int32} {t6_1 : Int32} {t7_0 : (Nat → Int32)} {t8_0 : Int32} {t8_1 : Int32} {t9_0 : (Nat → Int32)} {t10_0 : Int32} {t10_1 : Int32} {t11_0 : (Nat → Int32)} {t12_0 : Int32} {t12_1 : Int32} {t13_0 : (Nat → Int32)} {t14_0 : Int32} {t14_1 : Int32} {t15_0 : (Nat → Int32)} {lx65 : Int32} {lx805 : Int32}  : QK_whole_abt (F_NH_whole_abt_J94 x2 x3 x4 x5 t0_0 t0_1 t1_0 t2_0 t2_1 t3_0 t4_0 t4_1 t5_0 t6_0 t6_1 t7_0 t8_0 t8_1 t9_0 t10_0 t10_1 t11_0 t12_0 t12_1 t13_0 t14_0 t14_1 t15_0 lx65 lx805) := by
  unfold F_NH_whole_abt_J94
  by_cases g1 : (F_NH_canHave lx805) = (0 : Int32)
  ·
    rw [if_pos g1]
    by_cases g2 : x2 = (3 : Int32)
    ·
      rw [if_pos g2]
      generalize F_Mil_quotientOrRest_a (1 : Int32) (68 : Int32) t0_0 t0_1 t1_0 t2_0 t2_1 t3_0 t14_0 t14_1 t15_0 = p972 at *
      unfold F_NH_whole_abt_c115_16
      have h3 := K_NH_keepWhole (x2 := x5) (t0_0 := (p972.1 : Int32)) (t0_1 := (p972.2.1 : Int32)) (t1_0 := (p972.2.2.1 : (Nat → Int32))) (t2_0 := (p972.2.2.2.2.2.2.1 : Int32)) (t2_1 := (p972.2.2.2.2.2.2.2.1 : Int32)) (t3_0 := (p972.2.2.2.2.2.2.2.2 : (Nat → Int32))) 
      generalize F_NH_keepWhole x5 (p972.1 : Int32) (p972.2.1 : Int32) (p972.2.2.1 : (Nat → Int32)) (p972.2.2.2.2.2.2.1 : Int32) (p972.2.2.2.2.2.2.2.1 : Int32) (p972.2.2.2.2.2.2.2.2 : (Nat → Int32)) = p1001 at *
      have kkp1001 := (show kC2 p1001.1 from h3).to12
      unfold F_NH_whole_abt_c237_17
      by_cases g4 : p1001.1 = (0 : Int32)
      ·
        rw [if_pos g4]
        exact (show kC12 (0 : Int32) from Or.inl rfl)
      ·
        rw [if_neg g4]
        exact (show kC12 (p1001.1) from kkp1001)
    ·
      rw [if_neg g2]
      generalize F_Mil_quotientOrRest_a (0 : Int32) (68 : Int32) t0_0 t0_1 t1_0 t2_0 t2_1 t3_0 t14_0 t14_1 t15_0 = p876 at *
      unfold F_NH_whole_abt_c115
      have h5 := K_NH_keepWhole (x2 := x5) (t0_0 := (p876.1 : Int32)) (t0_1 := (p876.2.1 : Int32)) (t1_0 := (p876.2.2.1 : (Nat → Int32))) (t2_0 := (p876.2.2.2.2.2.2.1 : Int32)) (t2_1 := (p876.2.2.2.2.2.2.2.1 : Int32)) (t3_0 := (p876.2.2.2.2.2.2.2.2 : (Nat → Int32))) 
      generalize F_NH_keepWhole x5 (p876.1 : Int32) (p876.2.1 : Int32) (p876.2.2.1 : (Nat → Int32)) (p876.2.2.2.2.2.2.1 : Int32) (p876.2.2.2.2.2.2.2.1 : Int32) (p876.2.2.2.2.2.2.2.2 : (Nat → Int32)) = p905 at *
      have kkp905 := (show kC2 p905.1 from h5).to12
      unfold F_NH_whole_abt_c237_15
      by_cases g6 : p905.1 = (0 : Int32)
      ·
        rw [if_pos g6]
        exact (show kC12 (0 : Int32) from Or.inl rfl)
      ·
        rw [if_neg g6]
        exact (show kC12 (p905.1) from kkp905)
  ·
    rw [if_neg g1]
    exact (show kC12 ((F_NH_canHave lx805)) from (k_can _).to12)
theorem K_NH_whole_abt_J37 {x2 : Int32} {x3 : Int32} {x4 : Int32} {x5 : Int32} {t0_0 : Int32} {t0_1 : Int32} {t1_0 : (Nat → Int32)} {t2_0 : Int32} {t2_1 : Int32} {t3_0 : (Nat → Int32)} {t4_0 : Int32} {t4_1 : Int32} {t5_0 : (Nat → Int32)} {t6_0 : Int32} {t6_1 : Int32} {t7_0 : (Nat → Int32)} {t8_0 : Int32} {t8_1 : Int32} {t9_0 : (Nat → Int32)} {t10_0 : Int32} {t10_1 : Int32} {t11_0 : (Nat → Int32)} {t12_0 : Int32} {t12_1 : Int32} {t13_0 : (Nat → Int32)} {t14_0 : Int32} {t14_1 : Int32} {t15_0 : (Nat → Int32)} {lx65 : Int32}  : QK_whole_abt (F_NH_whole_abt_J37 x2 x3 x4 x5 t0_0 t0_1 t1_0 t2_0 t2_1 t3_0 t4_0 t4_1 t5_0 t6_0 t6_1 t7_0 t8_0 t8_1 t9_0 t10_0 t10_1 t11_0 t12_0 t12_1 t13_0 t14_0 t14_1 t15_0 lx65) := by
  unfold F_NH_whole_abt_J37
  by_cases g1 : (F_NH_need lx65) = (0 : Int32)
  ·
    rw [if_pos g1]
    by_cases g2 : (2 : Int32) < x2
    ·
      rw [if_pos g2]
      by_cases g3 : (4 : Int32) < x2
      ·
        rw [if_pos g3]
        by_cases g4 : x2 = (5 : Int32)
        ·
          rw [if_pos g4]
          by_cases g5 : ((F_Big_sign (68 : Int32) t14_0 t14_1) : Int32) ≤ (0 : Int32)
          ·
            rw [if_pos g5]
            exact K_NH_whole_abt_J139
          ·
            rw [if_neg g5]
            exact K_NH_whole_abt_J139
        ·
          rw [if_neg g4]
          by_cases g6 : x2 = (6 : Int32)
          ·
            rw [if_pos g6]
            generalize F_Mil_commonDivisor (68 : Int32) (68 : Int32) t0_0 t0_1 t1_0 t2_0 t2_1 t3_0 t6_0 t6_1 t7_0 t8_0 t8_1 t9_0 t14_0 t14_1 t15_0 t14_0 t14_1 t15_0 = p599 at *
            unfold F_NH_whole_abt_c177
            have h7 := K_NH_keepWhole (x2 := x5) (t0_0 := (p599.1 : Int32)) (t0_1 := (p599.2.1 : Int32)) (t1_0 := (p599.2.2.1 : (Nat → Int32))) (t2_0 := t14_0) (t2_1 := t14_1) (t3_0 := t15_0) 
            generalize F_NH_keepWhole x5 (p599.1 : Int32) (p599.2.1 : Int32) (p599.2.2.1 : (Nat → Int32)) t14_0 t14_1 t15_0 = p631 at *
            have kkp631 := (show kC2 p631.1 from h7).to12
            unfold F_NH_whole_abt_c237_9
            by_cases g8 : p631.1 = (0 : Int32)
            ·
              rw [if_pos g8]
              exact (show kC12 (0 : Int32) from Or.inl rfl)
            ·
              rw [if_neg g8]
              exact (show kC12 (p631.1) from kkp631)
          ·
            rw [if_neg g6]
            by_cases g9 : x2 = (7 : Int32)
            ·
              rw [if_pos g9]
              by_cases g10 : ((F_Big_sign (68 : Int32) t14_0 t14_1) : Int32) ≤ (0 : Int32)
              ·
                rw [if_pos g10]
                by_cases g11 : (F_NH_canHave (0 : Int32)) = (0 : Int32)
                ·
                  rw [if_pos g11]
                  generalize F_Mil_inverse_a (68 : Int32) t0_0 t0_1 t1_0 t2_0 t2_1 t3_0 t4_0 t4_1 t5_0 t6_0 t6_1 t7_0 t8_0 t8_1 t9_0 t10_0 t10_1 t11_0 t12_0 t12_1 t13_0 t14_0 t14_1 t15_0 = p292 at *
                  unfold F_NH_whole_abt_c213
                  by_cases g12 : (F_NH_canHave (p292.1 : Int32)) = (0 : Int32)
                  ·
                    rw [if_pos g12]
                    have h13 := K_NH_keepWhole (x2 := x5) (t0_0 := (p292.2.1 : Int32)) (t0_1 := (p292.2.2.1 : Int32)) (t1_0 := (p292.2.2.2.1 : (Nat → Int32))) (t2_0 := (p292.2.2.2.2.2.2.2.2.2.2.2.2.2.2.2.2.2.2.2.2.2.2.1 : Int32)) (t2_1 := (p292.2.2.2.2.2.2.2.2.2.2.2.2.2.2.2.2.2.2.2.2.2.2.2.1 : Int32)) (t3_0 := (p292.2.2.2.2.2.2.2.2.2.2.2.2.2.2.2.2.2.2.2.2.2.2.2.2 : (Nat → Int32))) 
                    generalize F_NH_keepWhole x5 (p292.2.1 : Int32) (p292.2.2.1 : Int32) (p292.2.2.2.1 : (Nat → Int32)) (p292.2.2.2.2.2.2.2.2.2.2.2.2.2.2.2.2.2.2.2.2.2.2.1 : Int32) (p292.2.2.2.2.2.2.2.2.2.2.2.2.2.2.2.2.2.2.2.2.2.2.2.1 : Int32) (p292.2.2.2.2.2.2.2.2.2.2.2.2.2.2.2.2.2.2.2.2.2.2.2.2 : (Nat → Int32)) = p346 at *
                    have kkp346 := (show kC2 p346.1 from h13).to12
                    unfold F_NH_whole_abt_c237_5
                    by_cases g14 : p346.1 = (0 : Int32)
                    ·
                      rw [if_pos g14]
                      exact (show kC12 (0 : Int32) from Or.inl rfl)
                    ·
                      rw [if_neg g14]
                      exact (show kC12 (p346.1) from kkp346)
                  ·
                    rw [if_neg g12]
                    exact (show kC12 ((F_NH_canHave (p292.1 : Int32))) from (k_can _).to12)
                ·
                  rw [if_neg g11]
                  exact (show kC12 ((F_NH_canHave (0 : Int32))) from (k_can _).to12)
              ·
                rw [if_neg g10]
                by_cases g15 : (F_NH_canHave (1 : Int32)) = (0 : Int32)
                ·
                  rw [if_pos g15]
                  generalize F_Mil_inverse_a (68 : Int32) t0_0 t0_1 t1_0 t2_0 t2_1 t3_0 t4_0 t4_1 t5_0 t6_0 t6_1 t7_0 t8_0 t8_1 t9_0 t10_0 t10_1 t11_0 t12_0 t12_1 t13_0 t14_0 t14_1 t15_0 = p471 at *
                  unfold F_NH_whole_abt_c213_6
                  by_cases g16 : (F_NH_canHave (p471.1 : Int32)) = (0 : Int32)
                  ·
                    rw [if_pos g16]
                    have h17 := K_NH_keepWhole (x2 := x5) (t0_0 := (p471.2.1 : Int32)) (t0_1 := (p471.2.2.1 : Int32)) (t1_0 := (p471.2.2.2.1 : (Nat → Int32))) (t2_0 := (p471.2.2.2.2.2.2.2.2.2.2.2.2.2.2.2.2.2.2.2.2.2.2.1 : Int32)) (t2_1 := (p471.2.2.2.2.2.2.2.2.2.2.2.2.2.2.2.2.2.2.2.2.2.2.2.1 : Int32)) (t3_0 := (p471.2.2.2.2.2.2.2.2.2.2.2.2.2.2.2.2.2.2.2.2.2.2.2.2 : (Nat → Int32))) 
                    generalize F_NH_keepWhole x5 (p471.2.1 : Int32) (p471.2.2.1 : Int32) (p471.2.2.2.1 : (Nat → Int32)) (p471.2.2.2.2.2.2.2.2.2.2.2.2.2.2.2.2.2.2.2.2.2.2.1 : Int32) (p471.2.2.2.2.2.2.2.2.2.2.2.2.2.2.2.2.2.2.2.2.2.2.2.1 : Int32) (p471.2.2.2.2.2.2.2.2.2.2.2.2.2.2.2.2.2.2.2.2.2.2.2.2 : (Nat → Int32)) = p525 at *
                    have kkp525 := (show kC2 p525.1 from h17).to12
                    unfold F_NH_whole_abt_c237_7
                    by_cases g18 : p525.1 = (0 : Int32)
                    ·
                      rw [if_pos g18]
                      exact (show kC12 (0 : Int32) from Or.inl rfl)
                    ·
                      rw [if_neg g18]
                      exact (show kC12 (p525.1) from kkp525)
                  ·
                    rw [if_neg g16]
                    exact (show kC12 ((F_NH_canHave (p471.1 : Int32))) from (k_can _).to12)
                ·
                  rw [if_neg g15]
                  exact (show kC12 ((F_NH_canHave (1 : Int32))) from (k_can _).to12)
            ·
              rw [if_neg g9]
              generalize F_Mil_mixBits x2 (68 : Int32) (68 : Int32) t0_0 t0_1 t1_0 t14_0 t14_1 t15_0 t14_0 t14_1 t15_0 = p134 at *
              unfold F_NH_whole_abt_c231
              have h19 := K_NH_keepWhole (x2 := x5) (t0_0 := (p134.1 : Int32)) (t0_1 := (p134.2.1 : Int32)) (t1_0 := (p134.2.2 : (Nat → Int32))) (t2_0 := t14_0) (t2_1 := t14_1) (t3_0 := t15_0) 
              generalize F_NH_keepWhole x5 (p134.1 : Int32) (p134.2.1 : Int32) (p134.2.2 : (Nat → Int32)) t14_0 t14_1 t15_0 = p157 at *
              have kkp157 := (show kC2 p157.1 from h19).to12
              unfold F_NH_whole_abt_c237
              by_cases g20 : p157.1 = (0 : Int32)
              ·
                rw [if_pos g20]
                exact (show kC12 (0 : Int32) from Or.inl rfl)
              ·
                rw [if_neg g20]
                exact (show kC12 (p157.1) from kkp157)
      ·
        rw [if_neg g3]
        by_cases g21 : t14_0 ≤ (0 : Int32)
        ·
          rw [if_pos g21]
          exact K_NH_whole_abt_J94
        ·
          rw [if_neg g21]
          exact K_NH_whole_abt_J94
    ·
      rw [if_neg g2]
      generalize F_Mil_addOrMultiply x2 (68 : Int32) (68 : Int32) t0_0 t0_1 t1_0 t14_0 t14_1 t15_0 t14_0 t14_1 t15_0 = p1050 at *
      unfold F_NH_whole_abt_c70
      have h22 := K_NH_keepWhole (x2 := x5) (t0_0 := (p1050.1 : Int32)) (t0_1 := (p1050.2.1 : Int32)) (t1_0 := (p1050.2.2 : (Nat → Int32))) (t2_0 := t14_0) (t2_1 := t14_1) (t3_0 := t15_0) 
      generalize F_NH_keepWhole x5 (p1050.1 : Int32) (p1050.2.1 : Int32) (p1050.2.2 : (Nat → Int32)) t14_0 t14_1 t15_0 = p1073 at *
      have kkp1073 := (show kC2 p1073.1 from h22).to12
      unfold F_NH_whole_abt_c237_19
      by_cases g23 : p1073.1 = (0 : Int32)
      ·
        rw [if_pos g23]
        exact (show kC12 (0 : Int32) from Or.inl rfl)
      ·
        rw [if_neg g23]
        exact (show kC12 (p1073.1) from kkp1073)
  ·
    rw [if_neg g1]
    exact (show kC12 ((F_NH_need lx65)) from (k_need _).to12)
theorem K_NH_whole_abt_J36 {x2 : Int32} {x3 : Int32} {x4 : Int32} {x5 : Int32} {t0_0 : Int32} {t0_1 : Int32} {t1_0 : (Nat → Int32)} {t2_0 : Int32} {t2_1 : Int32} {t3_0 : (Nat → Int32)} {t4_0 : Int32} {t4_1 : Int32} {t5_0 : (Nat → Int32)} {t6_0 : Int32} {t6_1 : Int32} {t7_0 : (Nat → Int32)} {t8_0 : Int32} {t8_1 : Int32} {t9_0 : (Nat → Int32)} {t10_0 : Int32} {t10_1 : Int32} {t11_0 : (Nat → Int32)} {t12_0 : Int32} {t12_1 : Int32} {t13_0 : (Nat → Int32)} {t14_0 : Int32} {t14_1 : Int32} {t15_0 : (Nat → Int32)}  : QK_whole_abt (F_NH_whole_abt_J36 x2 x3 x4 x5 t0_0 t0_1 t1_0 t2_0 t2_1 t3_0 t4_0 t4_1 t5_0 t6_0 t6_1 t7_0 t8_0 t8_1 t9_0 t10_0 t10_1 t11_0 t12_0 t12_1 t13_0 t14_0 t14_1 t15_0) := by
  unfold F_NH_whole_abt_J36
  exact K_NH_whole_abt_J37
theorem K_NH_whole_abt {x2 : Int32} {x3 : Int32} {x4 : Int32} {x5 : Int32} {t0_0 : Int32} {t0_1 : Int32} {t1_0 : (Nat → Int32)} {t2_0 : Int32} {t2_1 : Int32} {t3_0 : (Nat → Int32)} {t4_0 : Int32} {t4_1 : Int32} {t5_0 : (Nat → Int32)} {t6_0 : Int32} {t6_1 : Int32} {t7_0 : (Nat → Int32)} {t8_0 : Int32} {t8_1 : Int32} {t9_0 : (Nat → Int32)} {t10_0 : Int32} {t10_1 : Int32} {t11_0 : (Nat → Int32)} {t12_0 : Int32} {t12_1 : Int32} {t13_0 : (Nat → Int32)} {t14_0 : Int32} {t14_1 : Int32} {t15_0 : (Nat → Int32)}  : QK_whole_abt (F_NH_whole_abt x2 x3 x4 x5 t0_0 t0_1 t1_0 t2_0 t2_1 t3_0 t4_0 t4_1 t5_0 t6_0 t6_1 t7_0 t8_0 t8_1 t9_0 t10_0 t10_1 t11_0 t12_0 t12_1 t13_0 t14_0 t14_1 t15_0) := by
  unfold F_NH_whole_abt
  by_cases g1 : x2 < (0 : Int32)
  ·
    rw [if_pos g1]
    exact K_NH_whole_abt_J36
  ·
    rw [if_neg g1]
    by_cases g2 : (11 : Int32) < x2
    ·
      rw [if_pos g2]
      exact K_NH_whole_abt_J36
    ·
      rw [if_neg g2]
      by_cases g3 : ((F_NH_isRegister x3) : Int32) = (0 : Int32)
      ·
        rw [if_pos g3]
        exact K_NH_whole_abt_J36
      ·
        rw [if_neg g3]
        by_cases g4 : ((F_NH_isRegister x4) : Int32) = (0 : Int32)
        ·
          rw [if_pos g4]
          exact K_NH_whole_abt_J36
        ·
          rw [if_neg g4]
          by_cases g5 : ((F_NH_isRegister x5) : Int32) = (0 : Int32)
          ·
            rw [if_pos g5]
            exact K_NH_whole_abt_J36
          ·
            rw [if_neg g5]
            exact K_NH_whole_abt_J37
def QK_wholeBy (p : Int32 × Int32 × Int32 × (Nat → Int32) × Int32 × Int32 × (Nat → Int32) × Int32 × Int32 × (Nat → Int32) × Int32 × Int32 × (Nat → Int32) × Int32 × Int32 × (Nat → Int32) × Int32 × Int32 × (Nat → Int32) × Int32 × Int32 × (Nat → Int32) × Int32 × Int32 × (Nat → Int32)) : Prop := kC12 p.1
theorem K_NH_wholeBy_J138 {x2 : Int32} {x3 : Int32} {x4 : Int32} {x5 : Int32} {t0_0 : Int32} {t0_1 : Int32} {t1_0 : (Nat → Int32)} {t2_0 : Int32} {t2_1 : Int32} {t3_0 : (Nat → Int32)} {t4_0 : Int32} {t4_1 : Int32} {t5_0 : (Nat → Int32)} {t6_0 : Int32} {t6_1 : Int32} {t7_0 : (Nat → Int32)} {t8_0 : Int32} {t8_1 : Int32} {t9_0 : (Nat → Int32)} {t10_0 : Int32} {t10_1 : Int32} {t11_0 : (Nat → Int32)} {t12_0 : Int32} {t12_1 : Int32} {t13_0 : (Nat → Int32)} {t14_0 : Int32} {t14_1 : Int32} {t15_0 : (Nat → Int32)} {t16_0 : Int32} {t16_1 : Int32} {t17_0 : (Nat → Int32)} {lx73 : Int32} {lx109 : Int32} {lx145 : Int32} {lx295 : Int32}  : QK_wholeBy (F_NH_wholeBy_J138 x2 x3 x4 x5 t0_0 t0_1 t1_0 t2_0 t2_1 t3_0 t4_0 t4_1 t5_0 t6_0 t6_1 t7_0 t8_0 t8_1 t9_0 t10_0 t10_1 t11_0 t12_0 t12_1 t13_0 t14_0 t14_1 t15_0 t16_0 t16_1 t17_0 lx73 lx109 lx145 lx295) := by
  unfold F_NH_wholeBy_J138
  by_cases g1 : (F_NH_canHave lx295) = (0 : Int32)
  ·
    rw [if_pos g1]
    generalize F_Mil_root (68 : Int32) x4 t6_0 t6_1 t7_0 t4_0 t4_1 t5_0 t8_0 t8_1 t9_0 t10_0 t10_1 t11_0 t12_0 t12_1 t13_0 t2_0 t2_1 t3_0 t14_0 t14_1 t15_0 = p394 at *
    unfold F_NH_wholeBy_c148
    generalize F_Big_copy (220 : Int32) (220 : Int32) t0_0 t0_1 t1_0 (p394.1 : Int32) (p394.2.1 : Int32) (p394.2.2.1 : (Nat → Int32)) = p433 at *
    unfold F_NH_wholeBy_c165
    have h2 := K_NH_keepWhole (x2 := x5) (t0_0 := (p433.1 : Int32)) (t0_1 := (p433.2.1 : Int32)) (t1_0 := (p433.2.2 : (Nat → Int32))) (t2_0 := t16_0) (t2_1 := t16_1) (t3_0 := t17_0) 
    generalize F_NH_keepWhole x5 (p433.1 : Int32) (p433.2.1 : Int32) (p433.2.2 : (Nat → Int32)) t16_0 t16_1 t17_0 = p456 at *
    have kkp456 := (show kC2 p456.1 from h2).to12
    unfold F_NH_wholeBy_c187_9
    by_cases g3 : p456.1 = (0 : Int32)
    ·
      rw [if_pos g3]
      exact (show kC12 (0 : Int32) from Or.inl rfl)
    ·
      rw [if_neg g3]
      exact (show kC12 (p456.1) from kkp456)
  ·
    rw [if_neg g1]
    exact (show kC12 ((F_NH_canHave lx295)) from (k_can _).to12)
theorem K_NH_wholeBy_J69 {x2 : Int32} {x3 : Int32} {x4 : Int32} {x5 : Int32} {t0_0 : Int32} {t0_1 : Int32} {t1_0 : (Nat → Int32)} {t2_0 : Int32} {t2_1 : Int32} {t3_0 : (Nat → Int32)} {t4_0 : Int32} {t4_1 : Int32} {t5_0 : (Nat → Int32)} {t6_0 : Int32} {t6_1 : Int32} {t7_0 : (Nat → Int32)} {t8_0 : Int32} {t8_1 : Int32} {t9_0 : (Nat → Int32)} {t10_0 : Int32} {t10_1 : Int32} {t11_0 : (Nat → Int32)} {t12_0 : Int32} {t12_1 : Int32} {t13_0 : (Nat → Int32)} {t14_0 : Int32} {t14_1 : Int32} {t15_0 : (Nat → Int32)} {t16_0 : Int32} {t16_1 : Int32} {t17_0 : (Nat → Int32)} {lx73 : Int32} {lx109 : Int32} {lx145 : Int32}  : QK_wholeBy (F_NH_wholeBy_J69 x2 x3 x4 x5 t0_0 t0_1 t1_0 t2_0 t2_1 t3_0 t4_0 t4_1 t5_0 t6_0 t6_1 t7_0 t8_0 t8_1 t9_0 t10_0 t10_1 t11_0 t12_0 t12_1 t13_0 t14_0 t14_1 t15_0 t16_0 t16_1 t17_0 lx73 lx109 lx145) := by
  unfold F_NH_wholeBy_J69
  by_cases g1 : (F_NH_need lx145) = (0 : Int32)
  ·
    rw [if_pos g1]
    by_cases g2 : x2 = (0 : Int32)
    ·
      rw [if_pos g2]
      generalize F_Mil_power (68 : Int32) x4 (2048 : Int32) t4_0 t4_1 t5_0 t8_0 t8_1 t9_0 t14_0 t14_1 t15_0 = p517 at *
      unfold F_NH_wholeBy_c94
      by_cases g3 : (F_NH_canHave (p517.1 : Int32)) = (0 : Int32)
      ·
        rw [if_pos g3]
        generalize F_Big_copy (220 : Int32) (220 : Int32) t0_0 t0_1 t1_0 (p517.2.1 : Int32) (p517.2.2.1 : Int32) (p517.2.2.2.1 : (Nat → Int32)) = p554 at *
        unfold F_NH_wholeBy_c114
        have h4 := K_NH_keepWhole (x2 := x5) (t0_0 := (p554.1 : Int32)) (t0_1 := (p554.2.1 : Int32)) (t1_0 := (p554.2.2 : (Nat → Int32))) (t2_0 := t16_0) (t2_1 := t16_1) (t3_0 := t17_0) 
        generalize F_NH_keepWhole x5 (p554.1 : Int32) (p554.2.1 : Int32) (p554.2.2 : (Nat → Int32)) t16_0 t16_1 t17_0 = p577 at *
        have kkp577 := (show kC2 p577.1 from h4).to12
        unfold F_NH_wholeBy_c187_12
        by_cases g5 : p577.1 = (0 : Int32)
        ·
          rw [if_pos g5]
          exact (show kC12 (0 : Int32) from Or.inl rfl)
        ·
          rw [if_neg g5]
          exact (show kC12 (p577.1) from kkp577)
      ·
        rw [if_neg g3]
        exact (show kC12 ((F_NH_canHave (p517.1 : Int32))) from (k_can _).to12)
    ·
      rw [if_neg g2]
      by_cases g6 : x2 = (1 : Int32)
      ·
        rw [if_pos g6]
        by_cases g7 : ((F_Big_sign (68 : Int32) t14_0 t14_1) : Int32) < (0 : Int32)
        ·
          rw [if_pos g7]
          exact K_NH_wholeBy_J138
        ·
          rw [if_neg g7]
          exact K_NH_wholeBy_J138
      ·
        rw [if_neg g6]
        generalize F_Mil_shifted (68 : Int32) x4 t0_0 t0_1 t1_0 t12_0 t12_1 t13_0 t14_0 t14_1 t15_0 = p219 at *
        unfold F_NH_wholeBy_c178
        by_cases g8 : (F_NH_canHave (p219.1 : Int32)) = (0 : Int32)
        ·
          rw [if_pos g8]
          have h9 := K_NH_keepWhole (x2 := x5) (t0_0 := (p219.2.1 : Int32)) (t0_1 := (p219.2.2.1 : Int32)) (t1_0 := (p219.2.2.2.1 : (Nat → Int32))) (t2_0 := t16_0) (t2_1 := t16_1) (t3_0 := t17_0) 
          generalize F_NH_keepWhole x5 (p219.2.1 : Int32) (p219.2.2.1 : Int32) (p219.2.2.2.1 : (Nat → Int32)) t16_0 t16_1 t17_0 = p255 at *
          have kkp255 := (show kC2 p255.1 from h9).to12
          unfold F_NH_wholeBy_c187
          by_cases g10 : p255.1 = (0 : Int32)
          ·
            rw [if_pos g10]
            exact (show kC12 (0 : Int32) from Or.inl rfl)
          ·
            rw [if_neg g10]
            exact (show kC12 (p255.1) from kkp255)
        ·
          rw [if_neg g8]
          exact (show kC12 ((F_NH_canHave (p219.1 : Int32))) from (k_can _).to12)
  ·
    rw [if_neg g1]
    exact (show kC12 ((F_NH_need lx145)) from (k_need _).to12)
theorem K_NH_wholeBy_J64 {x2 : Int32} {x3 : Int32} {x4 : Int32} {x5 : Int32} {t0_0 : Int32} {t0_1 : Int32} {t1_0 : (Nat → Int32)} {t2_0 : Int32} {t2_1 : Int32} {t3_0 : (Nat → Int32)} {t4_0 : Int32} {t4_1 : Int32} {t5_0 : (Nat → Int32)} {t6_0 : Int32} {t6_1 : Int32} {t7_0 : (Nat → Int32)} {t8_0 : Int32} {t8_1 : Int32} {t9_0 : (Nat → Int32)} {t10_0 : Int32} {t10_1 : Int32} {t11_0 : (Nat → Int32)} {t12_0 : Int32} {t12_1 : Int32} {t13_0 : (Nat → Int32)} {t14_0 : Int32} {t14_1 : Int32} {t15_0 : (Nat → Int32)} {t16_0 : Int32} {t16_1 : Int32} {t17_0 : (Nat → Int32)} {lx73 : Int32} {lx109 : Int32}  : QK_wholeBy (F_NH_wholeBy_J64 x2 x3 x4 x5 t0_0 t0_1 t1_0 t2_0 t2_1 t3_0 t4_0 t4_1 t5_0 t6_0 t6_1 t7_0 t8_0 t8_1 t9_0 t10_0 t10_1 t11_0 t12_0 t12_1 t13_0 t14_0 t14_1 t15_0 t16_0 t16_1 t17_0 lx73 lx109) := by
  unfold F_NH_wholeBy_J64
  exact K_NH_wholeBy_J69
theorem K_NH_wholeBy_J68 {x2 : Int32} {x3 : Int32} {x4 : Int32} {x5 : Int32} {t0_0 : Int32} {t0_1 : Int32} {t1_0 : (Nat → Int32)} {t2_0 : Int32} {t2_1 : Int32} {t3_0 : (Nat → Int32)} {t4_0 : Int32} {t4_1 : Int32} {t5_0 : (Nat → Int32)} {t6_0 : Int32} {t6_1 : Int32} {t7_0 : (Nat → Int32)} {t8_0 : Int32} {t8_1 : Int32} {t9_0 : (Nat → Int32)} {t10_0 : Int32} {t10_1 : Int32} {t11_0 : (Nat → Int32)} {t12_0 : Int32} {t12_1 : Int32} {t13_0 : (Nat → Int32)} {t14_0 : Int32} {t14_1 : Int32} {t15_0 : (Nat → Int32)} {t16_0 : Int32} {t16_1 : Int32} {t17_0 : (Nat → Int32)} {lx73 : Int32} {lx109 : Int32}  : QK_wholeBy (F_NH_wholeBy_J68 x2 x3 x4 x5 t0_0 t0_1 t1_0 t2_0 t2_1 t3_0 t4_0 t4_1 t5_0 t6_0 t6_1 t7_0 t8_0 t8_1 t9_0 t10_0 t10_1 t11_0 t12_0 t12_1 t13_0 t14_0 t14_1 t15_0 t16_0 t16_1 t17_0 lx73 lx109) := by
  unfold F_NH_wholeBy_J68
  exact K_NH_wholeBy_J69
theorem K_NH_wholeBy_J45 {x2 : Int32} {x3 : Int32} {x4 : Int32} {x5 : Int32} {t0_0 : Int32} {t0_1 : Int32} {t1_0 : (Nat → Int32)} {t2_0 : Int32} {t2_1 : Int32} {t3_0 : (Nat → Int32)} {t4_0 : Int32} {t4_1 : Int32} {t5_0 : (Nat → Int32)} {t6_0 : Int32} {t6_1 : Int32} {t7_0 : (Nat → Int32)} {t8_0 : Int32} {t8_1 : Int32} {t9_0 : (Nat → Int32)} {t10_0 : Int32} {t10_1 : Int32} {t11_0 : (Nat → Int32)} {t12_0 : Int32} {t12_1 : Int32} {t13_0 : (Nat → Int32)} {t14_0 : Int32} {t14_1 : Int32} {t15_0 : (Nat → Int32)} {t16_0 : Int32} {t16_1 : Int32} {t17_0 : (Nat → Int32)} {lx73 : Int32} {lx109 : Int32}  : QK_wholeBy (F_NH_wholeBy_J45 x2 x3 x4 x5 t0_0 t0_1 t1_0 t2_0 t2_1 t3_0 t4_0 t4_1 t5_0 t6_0 t6_1 t7_0 t8_0 t8_1 t9_0 t10_0 t10_1 t11_0 t12_0 t12_1 t13_0 t14_0 t14_1 t15_0 t16_0 t16_1 t17_0 lx73 lx109) := by
  unfold F_NH_wholeBy_J45
  by_cases g1 : (F_NH_need lx109) = (0 : Int32)
  ·
    rw [if_pos g1]
    by_cases g2 : x2 = (1 : Int32)
    ·
      rw [if_pos g2]
      by_cases g3 : x4 < (1 : Int32)
      ·
        rw [if_pos g3]
        exact K_NH_wholeBy_J68
      ·
        rw [if_neg g3]
        by_cases g4 : (64 : Int32) < x4
        ·
          rw [if_pos g4]
          exact K_NH_wholeBy_J68
        ·
          rw [if_neg g4]
          exact K_NH_wholeBy_J64
    ·
      rw [if_neg g2]
      exact K_NH_wholeBy_J64
  ·
    rw [if_neg g1]
    exact (show kC12 ((F_NH_need lx109)) from (k_need _).to12)
theorem K_NH_wholeBy_J40 {x2 : Int32} {x3 : Int32} {x4 : Int32} {x5 : Int32} {t0_0 : Int32} {t0_1 : Int32} {t1_0 : (Nat → Int32)} {t2_0 : Int32} {t2_1 : Int32} {t3_0 : (Nat → Int32)} {t4_0 : Int32} {t4_1 : Int32} {t5_0 : (Nat → Int32)} {t6_0 : Int32} {t6_1 : Int32} {t7_0 : (Nat → Int32)} {t8_0 : Int32} {t8_1 : Int32} {t9_0 : (Nat → Int32)} {t10_0 : Int32} {t10_1 : Int32} {t11_0 : (Nat → Int32)} {t12_0 : Int32} {t12_1 : Int32} {t13_0 : (Nat → Int32)} {t14_0 : Int32} {t14_1 : Int32} {t15_0 : (Nat → Int32)} {t16_0 : Int32} {t16_1 : Int32} {t17_0 : (Nat → Int32)} {lx73 : Int32}  : QK_wholeBy (F_NH_wholeBy_J40 x2 x3 x4 x5 t0_0 t0_1 t1_0 t2_0 t2_1 t3_0 t4_0 t4_1 t5_0 t6_0 t6_1 t7_0 t8_0 t8_1 t9_0 t10_0 t10_1 t11_0 t12_0 t12_1 t13_0 t14_0 t14_1 t15_0 t16_0 t16_1 t17_0 lx73) := by
  unfold F_NH_wholeBy_J40
  exact K_NH_wholeBy_J45
theorem K_NH_wholeBy_J29 {x2 : Int32} {x3 : Int32} {x4 : Int32} {x5 : Int32} {t0_0 : Int32} {t0_1 : Int32} {t1_0 : (Nat → Int32)} {t2_0 : Int32} {t2_1 : Int32} {t3_0 : (Nat → Int32)} {t4_0 : Int32} {t4_1 : Int32} {t5_0 : (Nat → Int32)} {t6_0 : Int32} {t6_1 : Int32} {t7_0 : (Nat → Int32)} {t8_0 : Int32} {t8_1 : Int32} {t9_0 : (Nat → Int32)} {t10_0 : Int32} {t10_1 : Int32} {t11_0 : (Nat → Int32)} {t12_0 : Int32} {t12_1 : Int32} {t13_0 : (Nat → Int32)} {t14_0 : Int32} {t14_1 : Int32} {t15_0 : (Nat → Int32)} {t16_0 : Int32} {t16_1 : Int32} {t17_0 : (Nat → Int32)} {lx73 : Int32}  : QK_wholeBy (F_NH_wholeBy_J29 x2 x3 x4 x5 t0_0 t0_1 t1_0 t2_0 t2_1 t3_0 t4_0 t4_1 t5_0 t6_0 t6_1 t7_0 t8_0 t8_1 t9_0 t10_0 t10_1 t11_0 t12_0 t12_1 t13_0 t14_0 t14_1 t15_0 t16_0 t16_1 t17_0 lx73) := by
  unfold F_NH_wholeBy_J29
  by_cases g1 : (F_NH_need lx73) = (0 : Int32)
  ·
    rw [if_pos g1]
    by_cases g2 : x2 = (0 : Int32)
    ·
      rw [if_pos g2]
      by_cases g3 : x4 < (0 : Int32)
      ·
        rw [if_pos g3]
        exact K_NH_wholeBy_J45
      ·
        rw [if_neg g3]
        exact K_NH_wholeBy_J40
    ·
      rw [if_neg g2]
      exact K_NH_wholeBy_J40
  ·
    rw [if_neg g1]
    exact (show kC12 ((F_NH_need lx73)) from (k_need _).to12)
theorem K_NH_wholeBy_J28 {x2 : Int32} {x3 : Int32} {x4 : Int32} {x5 : Int32} {t0_0 : Int32} {t0_1 : Int32} {t1_0 : (Nat → Int32)} {t2_0 : Int32} {t2_1 : Int32} {t3_0 : (Nat → Int32)} {t4_0 : Int32} {t4_1 : Int32} {t5_0 : (Nat → Int32)} {t6_0 : Int32} {t6_1 : Int32} {t7_0 : (Nat → Int32)} {t8_0 : Int32} {t8_1 : Int32} {t9_0 : (Nat → Int32)} {t10_0 : Int32} {t10_1 : Int32} {t11_0 : (Nat → Int32)} {t12_0 : Int32} {t12_1 : Int32} {t13_0 : (Nat → Int32)} {t14_0 : Int32} {t14_1 : Int32} {t15_0 : (Nat → Int32)} {t16_0 : Int32} {t16_1 : Int32} {t17_0 : (Nat → Int32)}  : QK_wholeBy (F_NH_wholeBy_J28 x2 x3 x4 x5 t0_0 t0_1 t1_0 t2_0 t2_1 t3_0 t4_0 t4_1 t5_0 t6_0 t6_1 t7_0 t8_0 t8_1 t9_0 t10_0 t10_1 t11_0 t12_0 t12_1 t13_0 t14_0 t14_1 t15_0 t16_0 t16_1 t17_0) := by
  unfold F_NH_wholeBy_J28
  exact K_NH_wholeBy_J29
theorem K_NH_wholeBy {x2 : Int32} {x3 : Int32} {x4 : Int32} {x5 : Int32} {t0_0 : Int32} {t0_1 : Int32} {t1_0 : (Nat → Int32)} {t2_0 : Int32} {t2_1 : Int32} {t3_0 : (Nat → Int32)} {t4_0 : Int32} {t4_1 : Int32} {t5_0 : (Nat → Int32)} {t6_0 : Int32} {t6_1 : Int32} {t7_0 : (Nat → Int32)} {t8_0 : Int32} {t8_1 : Int32} {t9_0 : (Nat → Int32)} {t10_0 : Int32} {t10_1 : Int32} {t11_0 : (Nat → Int32)} {t12_0 : Int32} {t12_1 : Int32} {t13_0 : (Nat → Int32)} {t14_0 : Int32} {t14_1 : Int32} {t15_0 : (Nat → Int32)} {t16_0 : Int32} {t16_1 : Int32} {t17_0 : (Nat → Int32)}  : QK_wholeBy (F_NH_wholeBy x2 x3 x4 x5 t0_0 t0_1 t1_0 t2_0 t2_1 t3_0 t4_0 t4_1 t5_0 t6_0 t6_1 t7_0 t8_0 t8_1 t9_0 t10_0 t10_1 t11_0 t12_0 t12_1 t13_0 t14_0 t14_1 t15_0 t16_0 t16_1 t17_0) := by
  unfold F_NH_wholeBy
  by_cases g1 : x2 < (0 : Int32)
  ·
    rw [if_pos g1]
    exact K_NH_wholeBy_J28
  ·
    rw [if_neg g1]
    by_cases g2 : (2 : Int32) < x2
    ·
      rw [if_pos g2]
      exact K_NH_wholeBy_J28
    ·
      rw [if_neg g2]
      by_cases g3 : ((F_NH_isRegister x3) : Int32) = (0 : Int32)
      ·
        rw [if_pos g3]
        exact K_NH_wholeBy_J28
      ·
        rw [if_neg g3]
        by_cases g4 : ((F_NH_isRegister x5) : Int32) = (0 : Int32)
        ·
          rw [if_pos g4]
          exact K_NH_wholeBy_J28
        ·
          rw [if_neg g4]
          exact K_NH_wholeBy_J29
def QK_read (p : Int32 × Int32 × Int64 × Int64 × Int32 × Int32 × Int32 × Int32 × Int32 × Int32 × Int32 × Int64 × Int32 × Int32 × Int32 × (Nat → Int32) × Int32 × Int32 × (Nat → Int32) × Int32 × Int32 × (Nat → Int32) × Int32 × Int32 × (Nat → Int32) × Int32 × Int32 × (Nat → Int32) × (Nat → Int64) × (Nat → Int64) × Int32 × Int32 × (Nat → Int32) × Int32 × Int32 × Int32 × Int32 × (Nat → Int32)) : Prop := kC12 p.1
theorem K_NH_read_J108 {x2 : Int32} {x3 : Int32} {x4 : Int32} {t0_0 : Int64} {t0_1 : Int32} {t1_0 : Int64} {t1_1 : Int64} {t1_2 : Int32} {t1_3 : Int32} {t1_4 : Int32} {t1_5 : Int32} {t1_6 : Int32} {t1_7 : Int32} {t1_8 : Int32} {t1_9 : Int64} {t2_0 : Int32} {t3_0 : (Nat → Int64)} {t4_0 : Int32} {t4_1 : Int32} {t5_0 : (Nat → Int32)} {t6_0 : Int32} {t6_1 : Int32} {t7_0 : (Nat → Int32)} {t8_0 : Int32} {t8_1 : Int32} {t9_0 : (Nat → Int32)} {t10_0 : Int32} {t10_1 : Int32} {t11_0 : (Nat → Int32)} {t12_0 : Int32} {t12_1 : Int32} {t13_0 : (Nat → Int32)} {t14_0 : (Nat → Int64)} {t15_0 : (Nat → Int64)} {t16_0 : Int32} {t16_1 : Int32} {t17_0 : (Nat → Int32)} {t18_0 : Int32} {t18_1 : Int32} {t19_0 : Int32} {t19_1 : Int32} {t20_0 : (Nat → Int32)} {lx97 : Int32} {p506 : (Int32 × Int64 × Int64 × Int32 × Int32 × Int32 × Int32 × Int32 × Int32 × Int32 × Int64 × Int32 × Int32 × (Nat → Int32))} {y475 : Int64} {y476 : Int64} {y477 : Int32} {y478 : Int32} {y479 : Int32} {y480 : Int32} {y481 : Int32} {y482 : Int32} {y483 : Int32} {y484 : Int64} {y486 : Int32} {y487 : Int32} {f488 : (Nat → Int32)} {lx529 : Int32}  : QK_read (F_NH_read_J108 x2 x3 x4 t0_0 t0_1 t1_0 t1_1 t1_2 t1_3 t1_4 t1_5 t1_6 t1_7 t1_8 t1_9 t2_0 t3_0 t4_0 t4_1 t5_0 t6_0 t6_1 t7_0 t8_0 t8_1 t9_0 t10_0 t10_1 t11_0 t12_0 t12_1 t13_0 t14_0 t15_0 t16_0 t16_1 t17_0 t18_0 t18_1 t19_0 t19_1 t20_0 lx97 p506 y475 y476 y477 y478 y479 y480 y481 y482 y483 y484 y486 y487 f488 lx529) := by
  unfold F_NH_read_J108
  by_cases g1 : (F_NH_canHave lx529) = (0 : Int32)
  ·
    rw [if_pos g1]
    generalize F_DW_settle (220 : Int32) y475 (108 : Int32) t12_0 t12_1 t13_0 y486 y487 f488 t18_0 t18_1 t19_0 t19_1 t20_0 = p609 at *
    unfold F_NH_read_c163
    by_cases g2 : (F_NH_canHave (p609.1 : Int32)) = (0 : Int32)
    ·
      rw [if_pos g2]
      exact (show kC12 (0 : Int32) from Or.inl rfl)
    ·
      rw [if_neg g2]
      exact (show kC12 ((F_NH_canHave (p609.1 : Int32))) from (k_can _).to12)
  ·
    rw [if_neg g1]
    exact (show kC12 ((F_NH_canHave lx529)) from (k_can _).to12)
theorem K_NH_read_J108_8 {x2 : Int32} {x3 : Int32} {x4 : Int32} {t0_0 : Int64} {t0_1 : Int32} {t1_0 : Int64} {t1_1 : Int64} {t1_2 : Int32} {t1_3 : Int32} {t1_4 : Int32} {t1_5 : Int32} {t1_6 : Int32} {t1_7 : Int32} {t1_8 : Int32} {t1_9 : Int64} {t2_0 : Int32} {t3_0 : (Nat → Int64)} {t4_0 : Int32} {t4_1 : Int32} {t5_0 : (Nat → Int32)} {t6_0 : Int32} {t6_1 : Int32} {t7_0 : (Nat → Int32)} {t8_0 : Int32} {t8_1 : Int32} {t9_0 : (Nat → Int32)} {t10_0 : Int32} {t10_1 : Int32} {t11_0 : (Nat → Int32)} {t12_0 : Int32} {t12_1 : Int32} {t13_0 : (Nat → Int32)} {t14_0 : (Nat → Int64)} {t15_0 : (Nat → Int64)} {t16_0 : Int32} {t16_1 : Int32} {t17_0 : (Nat → Int32)} {t18_0 : Int32} {t18_1 : Int32} {t19_0 : Int32} {t19_1 : Int32} {t20_0 : (Nat → Int32)} {lx97 : Int32} {p694 : (Int32 × Int64 × Int64 × Int32 × Int32 × Int32 × Int32 × Int32 × Int32 × Int32 × Int64 × Int32 × Int32 × (Nat → Int32))} {y654 : Int64} {y655 : Int64} {y656 : Int32} {y657 : Int32} {y658 : Int32} {y659 : Int32} {y660 : Int32} {y661 : Int32} {y662 : Int32} {y663 : Int64} {y665 : Int32} {y666 : Int32} {f667 : (Nat → Int32)} {lx717 : Int32}  : QK_read (F_NH_read_J108_8 x2 x3 x4 t0_0 t0_1 t1_0 t1_1 t1_2 t1_3 t1_4 t1_5 t1_6 t1_7 t1_8 t1_9 t2_0 t3_0 t4_0 t4_1 t5_0 t6_0 t6_1 t7_0 t8_0 t8_1 t9_0 t10_0 t10_1 t11_0 t12_0 t12_1 t13_0 t14_0 t15_0 t16_0 t16_1 t17_0 t18_0 t18_1 t19_0 t19_1 t20_0 lx97 p694 y654 y655 y656 y657 y658 y659 y660 y661 y662 y663 y665 y666 f667 lx717) := by
  unfold F_NH_read_J108_8
  by_cases g1 : (F_NH_canHave lx717) = (0 : Int32)
  ·
    rw [if_pos g1]
    generalize F_Big_copy (68 : Int32) (220 : Int32) t16_0 t16_1 t17_0 y665 y666 f667 = p777 at *
    unfold F_NH_read_c128
    exact (show kC12 (0 : Int32) from Or.inl rfl)
  ·
    rw [if_neg g1]
    exact (show kC12 ((F_NH_canHave lx717)) from (k_can _).to12)
theorem K_NH_read_J39 {x2 : Int32} {x3 : Int32} {x4 : Int32} {t0_0 : Int64} {t0_1 : Int32} {t1_0 : Int64} {t1_1 : Int64} {t1_2 : Int32} {t1_3 : Int32} {t1_4 : Int32} {t1_5 : Int32} {t1_6 : Int32} {t1_7 : Int32} {t1_8 : Int32} {t1_9 : Int64} {t2_0 : Int32} {t3_0 : (Nat → Int64)} {t4_0 : Int32} {t4_1 : Int32} {t5_0 : (Nat → Int32)} {t6_0 : Int32} {t6_1 : Int32} {t7_0 : (Nat → Int32)} {t8_0 : Int32} {t8_1 : Int32} {t9_0 : (Nat → Int32)} {t10_0 : Int32} {t10_1 : Int32} {t11_0 : (Nat → Int32)} {t12_0 : Int32} {t12_1 : Int32} {t13_0 : (Nat → Int32)} {t14_0 : (Nat → Int64)} {t15_0 : (Nat → Int64)} {t16_0 : Int32} {t16_1 : Int32} {t17_0 : (Nat → Int32)} {t18_0 : Int32} {t18_1 : Int32} {t19_0 : Int32} {t19_1 : Int32} {t20_0 : (Nat → Int32)} {lx97 : Int32}  : QK_read (F_NH_read_J39 x2 x3 x4 t0_0 t0_1 t1_0 t1_1 t1_2 t1_3 t1_4 t1_5 t1_6 t1_7 t1_8 t1_9 t2_0 t3_0 t4_0 t4_1 t5_0 t6_0 t6_1 t7_0 t8_0 t8_1 t9_0 t10_0 t10_1 t11_0 t12_0 t12_1 t13_0 t14_0 t15_0 t16_0 t16_1 t17_0 t18_0 t18_1 t19_0 t19_1 t20_0 lx97) := by
  unfold F_NH_read_J39
  by_cases g1 : (F_NH_need lx97) = (0 : Int32)
  ·
    rw [if_pos g1]
    by_cases g2 : x2 = (0 : Int32)
    ·
      rw [if_pos g2]
      generalize F_Rea_wholeText x4 t1_0 t1_1 t1_2 t1_3 t1_4 t1_5 t1_6 t1_7 t1_8 t1_9 t2_0 t3_0 t4_0 t4_1 t5_0 = p694 at *
      unfold F_NH_read_c51
      by_cases g3 : (p694.1 : Int32) = (0 : Int32)
      ·
        rw [if_pos g3]
        exact (show kC12 (0 : Int32) from Or.inl rfl)
      ·
        rw [if_neg g3]
        by_cases g4 : (p694.1 : Int32) = (1 : Int32)
        ·
          rw [if_pos g4]
          exact K_NH_read_J108_8
        ·
          rw [if_neg g4]
          exact K_NH_read_J108_8
    ·
      rw [if_neg g2]
      by_cases g5 : x2 = (1 : Int32)
      ·
        rw [if_pos g5]
        generalize F_Rea_decimalText t1_0 t1_1 t1_2 t1_3 t1_4 t1_5 t1_6 t1_7 t1_8 t1_9 t2_0 t3_0 t4_0 t4_1 t5_0 = p506 at *
        unfold F_NH_read_c68
        by_cases g6 : (p506.1 : Int32) = (0 : Int32)
        ·
          rw [if_pos g6]
          exact (show kC12 (0 : Int32) from Or.inl rfl)
        ·
          rw [if_neg g6]
          by_cases g7 : (p506.1 : Int32) = (1 : Int32)
          ·
            rw [if_pos g7]
            exact K_NH_read_J108
          ·
            rw [if_neg g7]
            exact K_NH_read_J108
      ·
        rw [if_neg g5]
        by_cases g8 : x2 = (2 : Int32)
        ·
          rw [if_pos g8]
          generalize F_Rea_floatText (52 : Int32) (1075 : Int32) (2047 : Int32) t1_0 t1_1 t1_2 t1_3 t1_4 t1_5 t1_6 t1_7 t1_8 t1_9 t2_0 t3_0 t4_0 t4_1 t5_0 t6_0 t6_1 t7_0 t8_0 t8_1 t9_0 t10_0 t10_1 t11_0 t12_0 t12_1 t13_0 = p220 at *
          unfold F_NH_read_c85
          by_cases g9 : (p220.1 : Int32) = (0 : Int32)
          ·
            rw [if_pos g9]
            exact (show kC12 (0 : Int32) from Or.inl rfl)
          ·
            rw [if_neg g9]
            by_cases g10 : (F_NH_canHave (1 : Int32)) = (0 : Int32)
            ·
              rw [if_pos g10]
              rw [if_pos g8]
              exact (show kC12 (0 : Int32) from Or.inl rfl)
            ·
              rw [if_neg g10]
              exact (show kC12 ((F_NH_canHave (1 : Int32))) from (k_can _).to12)
        ·
          rw [if_neg g8]
          generalize F_Rea_floatText (23 : Int32) (150 : Int32) (255 : Int32) t1_0 t1_1 t1_2 t1_3 t1_4 t1_5 t1_6 t1_7 t1_8 t1_9 t2_0 t3_0 t4_0 t4_1 t5_0 t6_0 t6_1 t7_0 t8_0 t8_1 t9_0 t10_0 t10_1 t11_0 t12_0 t12_1 t13_0 = p381 at *
          unfold F_NH_read_c85_3
          by_cases g11 : (p381.1 : Int32) = (0 : Int32)
          ·
            rw [if_pos g11]
            exact (show kC12 (0 : Int32) from Or.inl rfl)
          ·
            rw [if_neg g11]
            by_cases g12 : (F_NH_canHave (1 : Int32)) = (0 : Int32)
            ·
              rw [if_pos g12]
              rw [if_neg g8]
              exact (show kC12 (0 : Int32) from Or.inl rfl)
            ·
              rw [if_neg g12]
              exact (show kC12 ((F_NH_canHave (1 : Int32))) from (k_can _).to12)
  ·
    rw [if_neg g1]
    exact (show kC12 ((F_NH_need lx97)) from (k_need _).to12)
theorem K_NH_read_J24 {x2 : Int32} {x3 : Int32} {x4 : Int32} {t0_0 : Int64} {t0_1 : Int32} {t1_0 : Int64} {t1_1 : Int64} {t1_2 : Int32} {t1_3 : Int32} {t1_4 : Int32} {t1_5 : Int32} {t1_6 : Int32} {t1_7 : Int32} {t1_8 : Int32} {t1_9 : Int64} {t2_0 : Int32} {t3_0 : (Nat → Int64)} {t4_0 : Int32} {t4_1 : Int32} {t5_0 : (Nat → Int32)} {t6_0 : Int32} {t6_1 : Int32} {t7_0 : (Nat → Int32)} {t8_0 : Int32} {t8_1 : Int32} {t9_0 : (Nat → Int32)} {t10_0 : Int32} {t10_1 : Int32} {t11_0 : (Nat → Int32)} {t12_0 : Int32} {t12_1 : Int32} {t13_0 : (Nat → Int32)} {t14_0 : (Nat → Int64)} {t15_0 : (Nat → Int64)} {t16_0 : Int32} {t16_1 : Int32} {t17_0 : (Nat → Int32)} {t18_0 : Int32} {t18_1 : Int32} {t19_0 : Int32} {t19_1 : Int32} {t20_0 : (Nat → Int32)}  : QK_read (F_NH_read_J24 x2 x3 x4 t0_0 t0_1 t1_0 t1_1 t1_2 t1_3 t1_4 t1_5 t1_6 t1_7 t1_8 t1_9 t2_0 t3_0 t4_0 t4_1 t5_0 t6_0 t6_1 t7_0 t8_0 t8_1 t9_0 t10_0 t10_1 t11_0 t12_0 t12_1 t13_0 t14_0 t15_0 t16_0 t16_1 t17_0 t18_0 t18_1 t19_0 t19_1 t20_0) := by
  unfold F_NH_read_J24
  exact K_NH_read_J39
theorem K_NH_read {x2 : Int32} {x3 : Int32} {x4 : Int32} {t0_0 : Int64} {t0_1 : Int32} {t1_0 : Int64} {t1_1 : Int64} {t1_2 : Int32} {t1_3 : Int32} {t1_4 : Int32} {t1_5 : Int32} {t1_6 : Int32} {t1_7 : Int32} {t1_8 : Int32} {t1_9 : Int64} {t2_0 : Int32} {t3_0 : (Nat → Int64)} {t4_0 : Int32} {t4_1 : Int32} {t5_0 : (Nat → Int32)} {t6_0 : Int32} {t6_1 : Int32} {t7_0 : (Nat → Int32)} {t8_0 : Int32} {t8_1 : Int32} {t9_0 : (Nat → Int32)} {t10_0 : Int32} {t10_1 : Int32} {t11_0 : (Nat → Int32)} {t12_0 : Int32} {t12_1 : Int32} {t13_0 : (Nat → Int32)} {t14_0 : (Nat → Int64)} {t15_0 : (Nat → Int64)} {t16_0 : Int32} {t16_1 : Int32} {t17_0 : (Nat → Int32)} {t18_0 : Int32} {t18_1 : Int32} {t19_0 : Int32} {t19_1 : Int32} {t20_0 : (Nat → Int32)}  : QK_read (F_NH_read x2 x3 x4 t0_0 t0_1 t1_0 t1_1 t1_2 t1_3 t1_4 t1_5 t1_6 t1_7 t1_8 t1_9 t2_0 t3_0 t4_0 t4_1 t5_0 t6_0 t6_1 t7_0 t8_0 t8_1 t9_0 t10_0 t10_1 t11_0 t12_0 t12_1 t13_0 t14_0 t15_0 t16_0 t16_1 t17_0 t18_0 t18_1 t19_0 t19_1 t20_0) := by
  unfold F_NH_read
  by_cases g1 : (F_NH_needRegister x2 x3) = (0 : Int32)
  ·
    rw [if_pos g1]
    by_cases g2 : x2 = (0 : Int32)
    ·
      rw [if_pos g2]
      by_cases g3 : x4 < (2 : Int32)
      ·
        rw [if_pos g3]
        exact K_NH_read_J24
      ·
        rw [if_neg g3]
        by_cases g4 : (36 : Int32) < x4
        ·
          rw [if_pos g4]
          exact K_NH_read_J24
        ·
          rw [if_neg g4]
          exact K_NH_read_J39
    ·
      rw [if_neg g2]
      by_cases g5 : x4 = (10 : Int32)
      ·
        rw [if_pos g5]
        exact K_NH_read_J39
      ·
        rw [if_neg g5]
        exact K_NH_read_J39
  ·
    rw [if_neg g1]
    exact (show kC12 ((F_NH_needRegister x2 x3)) from (k_reg _ _).to12)
def QK_decimal (p : Int32 × Int64 × Int32 × Int32 × Int32 × (Nat → Int32) × Int32 × Int32 × (Nat → Int32) × Int32 × Int32 × (Nat → Int32) × Int32 × Int32 × (Nat → Int32) × Int32 × Int32 × (Nat → Int32) × Int32 × Int32 × (Nat → Int32) × Int32 × Int32 × Int32 × Int32 × (Nat → Int32)) : Prop := kC12 p.1
theorem K_NH_decimal_J36 {x2 : Int32} {x3 : Int32} {x4 : Int32} {x5 : Int32} {t0_0 : Int64} {t0_1 : Int32} {t1_0 : Int32} {t1_1 : Int32} {t2_0 : (Nat → Int32)} {t3_0 : Int32} {t3_1 : Int32} {t4_0 : (Nat → Int32)} {t5_0 : Int32} {t5_1 : Int32} {t6_0 : (Nat → Int32)} {t7_0 : Int32} {t7_1 : Int32} {t8_0 : (Nat → Int32)} {t9_0 : Int32} {t9_1 : Int32} {t10_0 : (Nat → Int32)} {t11_0 : Int32} {t11_1 : Int32} {t12_0 : Int32} {t12_1 : Int32} {t13_0 : (Nat → Int32)} {t14_0 : Int32} {t14_1 : Int32} {t15_0 : Int32} {t15_1 : Int32} {t16_0 : (Nat → Int32)} {t17_0 : Int32} {t17_1 : Int32} {t18_0 : Int32} {t18_1 : Int32} {t19_0 : (Nat → Int32)} {lx84 : Int32}  : QK_decimal (F_NH_decimal_J36 x2 x3 x4 x5 t0_0 t0_1 t1_0 t1_1 t2_0 t3_0 t3_1 t4_0 t5_0 t5_1 t6_0 t7_0 t7_1 t8_0 t9_0 t9_1 t10_0 t11_0 t11_1 t12_0 t12_1 t13_0 t14_0 t14_1 t15_0 t15_1 t16_0 t17_0 t17_1 t18_0 t18_1 t19_0 lx84) := by
  unfold F_NH_decimal_J36
  by_cases g1 : (F_NH_need lx84) = (0 : Int32)
  ·
    rw [if_pos g1]
    by_cases g2 : (1 : Int32) < x2
    ·
      rw [if_pos g2]
      by_cases g3 : x2 = (2 : Int32)
      ·
        rw [if_pos g3]
        generalize F_DW_multiply (108 : Int32) (108 : Int32) t0_0 t0_1 t1_0 t1_1 t2_0 t11_0 t11_1 t12_0 t12_1 t13_0 t14_0 t14_1 t15_0 t15_1 t16_0 = p527 at *
        unfold F_NH_decimal_c100
        have h4 := K_NH_keepDecimal (x2 := x5) (t0_0 := (p527.1 : Int64)) (t0_1 := (p527.2.1 : Int32)) (t1_0 := (p527.2.2.1 : Int32)) (t1_1 := (p527.2.2.2.1 : Int32)) (t2_0 := (p527.2.2.2.2 : (Nat → Int32))) (t3_0 := t9_0) (t3_1 := t9_1) (t4_0 := t10_0) (t5_0 := t17_0) (t5_1 := t17_1) (t6_0 := t18_0) (t6_1 := t18_1) (t7_0 := t19_0) 
        generalize F_NH_keepDecimal x5 (p527.1 : Int64) (p527.2.1 : Int32) (p527.2.2.1 : Int32) (p527.2.2.2.1 : Int32) (p527.2.2.2.2 : (Nat → Int32)) t9_0 t9_1 t10_0 t17_0 t17_1 t18_0 t18_1 t19_0 = p560 at *
        have kkp560 := (show kC2 p560.1 from h4).to12
        unfold F_NH_decimal_c139_7
        by_cases g5 : p560.1 = (0 : Int32)
        ·
          rw [if_pos g5]
          exact (show kC12 (0 : Int32) from Or.inl rfl)
        ·
          rw [if_neg g5]
          exact (show kC12 (p560.1) from kkp560)
      ·
        rw [if_neg g3]
        by_cases g6 : t15_0 ≤ (0 : Int32)
        ·
          rw [if_pos g6]
          by_cases g7 : (F_NH_canHave (0 : Int32)) = (0 : Int32)
          ·
            rw [if_pos g7]
            generalize F_DW_rest (108 : Int32) (108 : Int32) t0_0 t0_1 t1_0 t1_1 t2_0 t3_0 t3_1 t4_0 t5_0 t5_1 t6_0 t7_0 t7_1 t8_0 t11_0 t11_1 t12_0 t12_1 t13_0 t14_0 t14_1 t15_0 t15_1 t16_0 = p212 at *
            unfold F_NH_decimal_c133
            have h8 := K_NH_keepDecimal (x2 := x5) (t0_0 := (p212.1 : Int64)) (t0_1 := (p212.2.1 : Int32)) (t1_0 := (p212.2.2.1 : Int32)) (t1_1 := (p212.2.2.2.1 : Int32)) (t2_0 := (p212.2.2.2.2.1 : (Nat → Int32))) (t3_0 := t9_0) (t3_1 := t9_1) (t4_0 := t10_0) (t5_0 := t17_0) (t5_1 := t17_1) (t6_0 := t18_0) (t6_1 := t18_1) (t7_0 := t19_0) 
            generalize F_NH_keepDecimal x5 (p212.1 : Int64) (p212.2.1 : Int32) (p212.2.2.1 : Int32) (p212.2.2.2.1 : Int32) (p212.2.2.2.2.1 : (Nat → Int32)) t9_0 t9_1 t10_0 t17_0 t17_1 t18_0 t18_1 t19_0 = p257 at *
            have kkp257 := (show kC2 p257.1 from h8).to12
            unfold F_NH_decimal_c139
            by_cases g9 : p257.1 = (0 : Int32)
            ·
              rw [if_pos g9]
              exact (show kC12 (0 : Int32) from Or.inl rfl)
            ·
              rw [if_neg g9]
              exact (show kC12 (p257.1) from kkp257)
          ·
            rw [if_neg g7]
            exact (show kC12 ((F_NH_canHave (0 : Int32))) from (k_can _).to12)
        ·
          rw [if_neg g6]
          by_cases g10 : (F_NH_canHave (1 : Int32)) = (0 : Int32)
          ·
            rw [if_pos g10]
            generalize F_DW_rest (108 : Int32) (108 : Int32) t0_0 t0_1 t1_0 t1_1 t2_0 t3_0 t3_1 t4_0 t5_0 t5_1 t6_0 t7_0 t7_1 t8_0 t11_0 t11_1 t12_0 t12_1 t13_0 t14_0 t14_1 t15_0 t15_1 t16_0 = p395 at *
            unfold F_NH_decimal_c133_4
            have h11 := K_NH_keepDecimal (x2 := x5) (t0_0 := (p395.1 : Int64)) (t0_1 := (p395.2.1 : Int32)) (t1_0 := (p395.2.2.1 : Int32)) (t1_1 := (p395.2.2.2.1 : Int32)) (t2_0 := (p395.2.2.2.2.1 : (Nat → Int32))) (t3_0 := t9_0) (t3_1 := t9_1) (t4_0 := t10_0) (t5_0 := t17_0) (t5_1 := t17_1) (t6_0 := t18_0) (t6_1 := t18_1) (t7_0 := t19_0) 
            generalize F_NH_keepDecimal x5 (p395.1 : Int64) (p395.2.1 : Int32) (p395.2.2.1 : Int32) (p395.2.2.2.1 : Int32) (p395.2.2.2.2.1 : (Nat → Int32)) t9_0 t9_1 t10_0 t17_0 t17_1 t18_0 t18_1 t19_0 = p440 at *
            have kkp440 := (show kC2 p440.1 from h11).to12
            unfold F_NH_decimal_c139_5
            by_cases g12 : p440.1 = (0 : Int32)
            ·
              rw [if_pos g12]
              exact (show kC12 (0 : Int32) from Or.inl rfl)
            ·
              rw [if_neg g12]
              exact (show kC12 (p440.1) from kkp440)
          ·
            rw [if_neg g10]
            exact (show kC12 ((F_NH_canHave (1 : Int32))) from (k_can _).to12)
    ·
      rw [if_neg g2]
      by_cases g13 : x2 = (1 : Int32)
      ·
        rw [if_pos g13]
        generalize F_DW_sum (108 : Int32) (108 : Int32) (1 : Int32) t0_0 t0_1 t1_0 t1_1 t2_0 t5_0 t5_1 t6_0 t11_0 t11_1 t12_0 t12_1 t13_0 t14_0 t14_1 t15_0 t15_1 t16_0 = p804 at *
        unfold F_NH_decimal_c78_10
        by_cases g14 : (F_NH_canHave (p804.1 : Int32)) = (0 : Int32)
        ·
          rw [if_pos g14]
          have h15 := K_NH_keepDecimal (x2 := x5) (t0_0 := (p804.2.1 : Int64)) (t0_1 := (p804.2.2.1 : Int32)) (t1_0 := (p804.2.2.2.1 : Int32)) (t1_1 := (p804.2.2.2.2.1 : Int32)) (t2_0 := (p804.2.2.2.2.2.1 : (Nat → Int32))) (t3_0 := t9_0) (t3_1 := t9_1) (t4_0 := t10_0) (t5_0 := t17_0) (t5_1 := t17_1) (t6_0 := t18_0) (t6_1 := t18_1) (t7_0 := t19_0) 
          generalize F_NH_keepDecimal x5 (p804.2.1 : Int64) (p804.2.2.1 : Int32) (p804.2.2.2.1 : Int32) (p804.2.2.2.2.1 : Int32) (p804.2.2.2.2.2.1 : (Nat → Int32)) t9_0 t9_1 t10_0 t17_0 t17_1 t18_0 t18_1 t19_0 = p850 at *
          have kkp850 := (show kC2 p850.1 from h15).to12
          unfold F_NH_decimal_c139_11
          by_cases g16 : p850.1 = (0 : Int32)
          ·
            rw [if_pos g16]
            exact (show kC12 (0 : Int32) from Or.inl rfl)
          ·
            rw [if_neg g16]
            exact (show kC12 (p850.1) from kkp850)
        ·
          rw [if_neg g14]
          exact (show kC12 ((F_NH_canHave (p804.1 : Int32))) from (k_can _).to12)
      ·
        rw [if_neg g13]
        generalize F_DW_sum (108 : Int32) (108 : Int32) (0 : Int32) t0_0 t0_1 t1_0 t1_1 t2_0 t5_0 t5_1 t6_0 t11_0 t11_1 t12_0 t12_1 t13_0 t14_0 t14_1 t15_0 t15_1 t16_0 = p660 at *
        unfold F_NH_decimal_c78
        by_cases g17 : (F_NH_canHave (p660.1 : Int32)) = (0 : Int32)
        ·
          rw [if_pos g17]
          have h18 := K_NH_keepDecimal (x2 := x5) (t0_0 := (p660.2.1 : Int64)) (t0_1 := (p660.2.2.1 : Int32)) (t1_0 := (p660.2.2.2.1 : Int32)) (t1_1 := (p660.2.2.2.2.1 : Int32)) (t2_0 := (p660.2.2.2.2.2.1 : (Nat → Int32))) (t3_0 := t9_0) (t3_1 := t9_1) (t4_0 := t10_0) (t5_0 := t17_0) (t5_1 := t17_1) (t6_0 := t18_0) (t6_1 := t18_1) (t7_0 := t19_0) 
          generalize F_NH_keepDecimal x5 (p660.2.1 : Int64) (p660.2.2.1 : Int32) (p660.2.2.2.1 : Int32) (p660.2.2.2.2.1 : Int32) (p660.2.2.2.2.2.1 : (Nat → Int32)) t9_0 t9_1 t10_0 t17_0 t17_1 t18_0 t18_1 t19_0 = p706 at *
          have kkp706 := (show kC2 p706.1 from h18).to12
          unfold F_NH_decimal_c139_9
          by_cases g19 : p706.1 = (0 : Int32)
          ·
            rw [if_pos g19]
            exact (show kC12 (0 : Int32) from Or.inl rfl)
          ·
            rw [if_neg g19]
            exact (show kC12 (p706.1) from kkp706)
        ·
          rw [if_neg g17]
          exact (show kC12 ((F_NH_canHave (p660.1 : Int32))) from (k_can _).to12)
  ·
    rw [if_neg g1]
    exact (show kC12 ((F_NH_need lx84)) from (k_need _).to12)
theorem K_NH_decimal_J35 {x2 : Int32} {x3 : Int32} {x4 : Int32} {x5 : Int32} {t0_0 : Int64} {t0_1 : Int32} {t1_0 : Int32} {t1_1 : Int32} {t2_0 : (Nat → Int32)} {t3_0 : Int32} {t3_1 : Int32} {t4_0 : (Nat → Int32)} {t5_0 : Int32} {t5_1 : Int32} {t6_0 : (Nat → Int32)} {t7_0 : Int32} {t7_1 : Int32} {t8_0 : (Nat → Int32)} {t9_0 : Int32} {t9_1 : Int32} {t10_0 : (Nat → Int32)} {t11_0 : Int32} {t11_1 : Int32} {t12_0 : Int32} {t12_1 : Int32} {t13_0 : (Nat → Int32)} {t14_0 : Int32} {t14_1 : Int32} {t15_0 : Int32} {t15_1 : Int32} {t16_0 : (Nat → Int32)} {t17_0 : Int32} {t17_1 : Int32} {t18_0 : Int32} {t18_1 : Int32} {t19_0 : (Nat → Int32)}  : QK_decimal (F_NH_decimal_J35 x2 x3 x4 x5 t0_0 t0_1 t1_0 t1_1 t2_0 t3_0 t3_1 t4_0 t5_0 t5_1 t6_0 t7_0 t7_1 t8_0 t9_0 t9_1 t10_0 t11_0 t11_1 t12_0 t12_1 t13_0 t14_0 t14_1 t15_0 t15_1 t16_0 t17_0 t17_1 t18_0 t18_1 t19_0) := by
  unfold F_NH_decimal_J35
  exact K_NH_decimal_J36
theorem K_NH_decimal {x2 : Int32} {x3 : Int32} {x4 : Int32} {x5 : Int32} {t0_0 : Int64} {t0_1 : Int32} {t1_0 : Int32} {t1_1 : Int32} {t2_0 : (Nat → Int32)} {t3_0 : Int32} {t3_1 : Int32} {t4_0 : (Nat → Int32)} {t5_0 : Int32} {t5_1 : Int32} {t6_0 : (Nat → Int32)} {t7_0 : Int32} {t7_1 : Int32} {t8_0 : (Nat → Int32)} {t9_0 : Int32} {t9_1 : Int32} {t10_0 : (Nat → Int32)} {t11_0 : Int32} {t11_1 : Int32} {t12_0 : Int32} {t12_1 : Int32} {t13_0 : (Nat → Int32)} {t14_0 : Int32} {t14_1 : Int32} {t15_0 : Int32} {t15_1 : Int32} {t16_0 : (Nat → Int32)} {t17_0 : Int32} {t17_1 : Int32} {t18_0 : Int32} {t18_1 : Int32} {t19_0 : (Nat → Int32)}  : QK_decimal (F_NH_decimal x2 x3 x4 x5 t0_0 t0_1 t1_0 t1_1 t2_0 t3_0 t3_1 t4_0 t5_0 t5_1 t6_0 t7_0 t7_1 t8_0 t9_0 t9_1 t10_0 t11_0 t11_1 t12_0 t12_1 t13_0 t14_0 t14_1 t15_0 t15_1 t16_0 t17_0 t17_1 t18_0 t18_1 t19_0) := by
  unfold F_NH_decimal
  by_cases g1 : x2 < (0 : Int32)
  ·
    rw [if_pos g1]
    exact K_NH_decimal_J35
  ·
    rw [if_neg g1]
    by_cases g2 : (3 : Int32) < x2
    ·
      rw [if_pos g2]
      exact K_NH_decimal_J35
    ·
      rw [if_neg g2]
      by_cases g3 : ((F_NH_isRegister x3) : Int32) = (0 : Int32)
      ·
        rw [if_pos g3]
        exact K_NH_decimal_J35
      ·
        rw [if_neg g3]
        by_cases g4 : ((F_NH_isRegister x4) : Int32) = (0 : Int32)
        ·
          rw [if_pos g4]
          exact K_NH_decimal_J35
        ·
          rw [if_neg g4]
          by_cases g5 : ((F_NH_isRegister x5) : Int32) = (0 : Int32)
          ·
            rw [if_pos g5]
            exact K_NH_decimal_J35
          ·
            rw [if_neg g5]
            exact K_NH_decimal_J36
def QK_decimal_ab (p : Int32 × Int64 × Int32 × Int32 × Int32 × (Nat → Int32) × Int32 × Int32 × (Nat → Int32) × Int32 × Int32 × (Nat → Int32) × Int32 × Int32 × (Nat → Int32) × Int32 × Int32 × Int32 × Int32 × (Nat → Int32)) : Prop := kC12 p.1
theorem K_NH_decimal_ab_J36 {x2 : Int32} {x3 : Int32} {x4 : Int32} {x5 : Int32} {t0_0 : Int64} {t0_1 : Int32} {t1_0 : Int32} {t1_1 : Int32} {t2_0 : (Nat → Int32)} {t3_0 : Int32} {t3_1 : Int32} {t4_0 : (Nat → Int32)} {t5_0 : Int32} {t5_1 : Int32} {t6_0 : (Nat → Int32)} {t7_0 : Int32} {t7_1 : Int32} {t8_0 : (Nat → Int32)} {t9_0 : Int32} {t9_1 : Int32} {t10_0 : (Nat → Int32)} {t11_0 : Int32} {t11_1 : Int32} {t12_0 : Int32} {t12_1 : Int32} {t13_0 : (Nat → Int32)} {t14_0 : Int32} {t14_1 : Int32} {t15_0 : Int32} {t15_1 : Int32} {t16_0 : (Nat → Int32)} {lx71 : Int32}  : QK_decimal_ab (F_NH_decimal_ab_J36 x2 x3 x4 x5 t0_0 t0_1 t1_0 t1_1 t2_0 t3_0 t3_1 t4_0 t5_0 t5_1 t6_0 t7_0 t7_1 t8_0 t9_0 t9_1 t10_0 t11_0 t11_1 t12_0 t12_1 t13_0 t14_0 t14_1 t15_0 t15_1 t16_0 lx71) := by
  unfold F_NH_decimal_ab_J36
  by_cases g1 : (F_NH_need lx71) = (0 : Int32)
  ·
    rw [if_pos g1]
    by_cases g2 : (1 : Int32) < x2
    ·
      rw [if_pos g2]
      by_cases g3 : x2 = (2 : Int32)
      ·
        rw [if_pos g3]
        generalize F_DW_multiply (108 : Int32) (108 : Int32) t0_0 t0_1 t1_0 t1_1 t2_0 t11_0 t11_1 t12_0 t12_1 t13_0 t11_0 t11_1 t12_0 t12_1 t13_0 = p449 at *
        unfold F_NH_decimal_ab_c100
        have h4 := K_NH_keepDecimal (x2 := x5) (t0_0 := (p449.1 : Int64)) (t0_1 := (p449.2.1 : Int32)) (t1_0 := (p449.2.2.1 : Int32)) (t1_1 := (p449.2.2.2.1 : Int32)) (t2_0 := (p449.2.2.2.2 : (Nat → Int32))) (t3_0 := t9_0) (t3_1 := t9_1) (t4_0 := t10_0) (t5_0 := t14_0) (t5_1 := t14_1) (t6_0 := t15_0) (t6_1 := t15_1) (t7_0 := t16_0) 
        generalize F_NH_keepDecimal x5 (p449.1 : Int64) (p449.2.1 : Int32) (p449.2.2.1 : Int32) (p449.2.2.2.1 : Int32) (p449.2.2.2.2 : (Nat → Int32)) t9_0 t9_1 t10_0 t14_0 t14_1 t15_0 t15_1 t16_0 = p482 at *
        have kkp482 := (show kC2 p482.1 from h4).to12
        unfold F_NH_decimal_ab_c139_7
        by_cases g5 : p482.1 = (0 : Int32)
        ·
          rw [if_pos g5]
          exact (show kC12 (0 : Int32) from Or.inl rfl)
        ·
          rw [if_neg g5]
          exact (show kC12 (p482.1) from kkp482)
      ·
        rw [if_neg g3]
        by_cases g6 : t12_0 ≤ (0 : Int32)
        ·
          rw [if_pos g6]
          by_cases g7 : (F_NH_canHave (0 : Int32)) = (0 : Int32)
          ·
            rw [if_pos g7]
            generalize F_DW_rest_a (108 : Int32) t0_0 t0_1 t1_0 t1_1 t2_0 t3_0 t3_1 t4_0 t5_0 t5_1 t6_0 t7_0 t7_1 t8_0 t11_0 t11_1 t12_0 t12_1 t13_0 = p171 at *
            unfold F_NH_decimal_ab_c133
            have h8 := K_NH_keepDecimal (x2 := x5) (t0_0 := (p171.1 : Int64)) (t0_1 := (p171.2.1 : Int32)) (t1_0 := (p171.2.2.1 : Int32)) (t1_1 := (p171.2.2.2.1 : Int32)) (t2_0 := (p171.2.2.2.2.1 : (Nat → Int32))) (t3_0 := t9_0) (t3_1 := t9_1) (t4_0 := t10_0) (t5_0 := t14_0) (t5_1 := t14_1) (t6_0 := t15_0) (t6_1 := t15_1) (t7_0 := t16_0) 
            generalize F_NH_keepDecimal x5 (p171.1 : Int64) (p171.2.1 : Int32) (p171.2.2.1 : Int32) (p171.2.2.2.1 : Int32) (p171.2.2.2.2.1 : (Nat → Int32)) t9_0 t9_1 t10_0 t14_0 t14_1 t15_0 t15_1 t16_0 = p210 at *
            have kkp210 := (show kC2 p210.1 from h8).to12
            unfold F_NH_decimal_ab_c139
            by_cases g9 : p210.1 = (0 : Int32)
            ·
              rw [if_pos g9]
              exact (show kC12 (0 : Int32) from Or.inl rfl)
            ·
              rw [if_neg g9]
              exact (show kC12 (p210.1) from kkp210)
          ·
            rw [if_neg g7]
            exact (show kC12 ((F_NH_canHave (0 : Int32))) from (k_can _).to12)
        ·
          rw [if_neg g6]
          by_cases g10 : (F_NH_canHave (1 : Int32)) = (0 : Int32)
          ·
            rw [if_pos g10]
            generalize F_DW_rest_a (108 : Int32) t0_0 t0_1 t1_0 t1_1 t2_0 t3_0 t3_1 t4_0 t5_0 t5_1 t6_0 t7_0 t7_1 t8_0 t11_0 t11_1 t12_0 t12_1 t13_0 = p323 at *
            unfold F_NH_decimal_ab_c133_4
            have h11 := K_NH_keepDecimal (x2 := x5) (t0_0 := (p323.1 : Int64)) (t0_1 := (p323.2.1 : Int32)) (t1_0 := (p323.2.2.1 : Int32)) (t1_1 := (p323.2.2.2.1 : Int32)) (t2_0 := (p323.2.2.2.2.1 : (Nat → Int32))) (t3_0 := t9_0) (t3_1 := t9_1) (t4_0 := t10_0) (t5_0 := t14_0) (t5_1 := t14_1) (t6_0 := t15_0) (t6_1 := t15_1) (t7_0 := t16_0) 
            generalize F_NH_keepDecimal x5 (p323.1 : Int64) (p323.2.1 : Int32) (p323.2.2.1 : Int32) (p323.2.2.2.1 : Int32) (p323.2.2.2.2.1 : (Nat → Int32)) t9_0 t9_1 t10_0 t14_0 t14_1 t15_0 t15_1 t16_0 = p362 at *
            have kkp362 := (show kC2 p362.1 from h11).to12
            unfold F_NH_decimal_ab_c139_5
            by_cases g12 : p362.1 = (0 : Int32)
            ·
              rw [if_pos g12]
              exact (show kC12 (0 : Int32) from Or.inl rfl)
            ·
              rw [if_neg g12]
              exact (show kC12 (p362.1) from kkp362)
          ·
            rw [if_neg g10]
            exact (show kC12 ((F_NH_canHave (1 : Int32))) from (k_can _).to12)
    ·
      rw [if_neg g2]
      by_cases g13 : x2 = (1 : Int32)
      ·
        rw [if_pos g13]
        generalize F_DW_sum (108 : Int32) (108 : Int32) (1 : Int32) t0_0 t0_1 t1_0 t1_1 t2_0 t5_0 t5_1 t6_0 t11_0 t11_1 t12_0 t12_1 t13_0 t11_0 t11_1 t12_0 t12_1 t13_0 = p726 at *
        unfold F_NH_decimal_ab_c78_10
        by_cases g14 : (F_NH_canHave (p726.1 : Int32)) = (0 : Int32)
        ·
          rw [if_pos g14]
          have h15 := K_NH_keepDecimal (x2 := x5) (t0_0 := (p726.2.1 : Int64)) (t0_1 := (p726.2.2.1 : Int32)) (t1_0 := (p726.2.2.2.1 : Int32)) (t1_1 := (p726.2.2.2.2.1 : Int32)) (t2_0 := (p726.2.2.2.2.2.1 : (Nat → Int32))) (t3_0 := t9_0) (t3_1 := t9_1) (t4_0 := t10_0) (t5_0 := t14_0) (t5_1 := t14_1) (t6_0 := t15_0) (t6_1 := t15_1) (t7_0 := t16_0) 
          generalize F_NH_keepDecimal x5 (p726.2.1 : Int64) (p726.2.2.1 : Int32) (p726.2.2.2.1 : Int32) (p726.2.2.2.2.1 : Int32) (p726.2.2.2.2.2.1 : (Nat → Int32)) t9_0 t9_1 t10_0 t14_0 t14_1 t15_0 t15_1 t16_0 = p772 at *
          have kkp772 := (show kC2 p772.1 from h15).to12
          unfold F_NH_decimal_ab_c139_11
          by_cases g16 : p772.1 = (0 : Int32)
          ·
            rw [if_pos g16]
            exact (show kC12 (0 : Int32) from Or.inl rfl)
          ·
            rw [if_neg g16]
            exact (show kC12 (p772.1) from kkp772)
        ·
          rw [if_neg g14]
          exact (show kC12 ((F_NH_canHave (p726.1 : Int32))) from (k_can _).to12)
      ·
        rw [if_neg g13]
        generalize F_DW_sum (108 : Int32) (108 : Int32) (0 : Int32) t0_0 t0_1 t1_0 t1_1 t2_0 t5_0 t5_1 t6_0 t11_0 t11_1 t12_0 t12_1 t13_0 t11_0 t11_1 t12_0 t12_1 t13_0 = p582 at *
        unfold F_NH_decimal_ab_c78
        by_cases g17 : (F_NH_canHave (p582.1 : Int32)) = (0 : Int32)
        ·
          rw [if_pos g17]
          have h18 := K_NH_keepDecimal (x2 := x5) (t0_0 := (p582.2.1 : Int64)) (t0_1 := (p582.2.2.1 : Int32)) (t1_0 := (p582.2.2.2.1 : Int32)) (t1_1 := (p582.2.2.2.2.1 : Int32)) (t2_0 := (p582.2.2.2.2.2.1 : (Nat → Int32))) (t3_0 := t9_0) (t3_1 := t9_1) (t4_0 := t10_0) (t5_0 := t14_0) (t5_1 := t14_1) (t6_0 := t15_0) (t6_1 := t15_1) (t7_0 := t16_0) 
          generalize F_NH_keepDecimal x5 (p582.2.1 : Int64) (p582.2.2.1 : Int32) (p582.2.2.2.1 : Int32) (p582.2.2.2.2.1 : Int32) (p582.2.2.2.2.2.1 : (Nat → Int32)) t9_0 t9_1 t10_0 t14_0 t14_1 t15_0 t15_1 t16_0 = p628 at *
          have kkp628 := (show kC2 p628.1 from h18).to12
          unfold F_NH_decimal_ab_c139_9
          by_cases g19 : p628.1 = (0 : Int32)
          ·
            rw [if_pos g19]
            exact (show kC12 (0 : Int32) from Or.inl rfl)
          ·
            rw [if_neg g19]
            exact (show kC12 (p628.1) from kkp628)
        ·
          rw [if_neg g17]
          exact (show kC12 ((F_NH_canHave (p582.1 : Int32))) from (k_can _).to12)
  ·
    rw [if_neg g1]
    exact (show kC12 ((F_NH_need lx71)) from (k_need _).to12)
theorem K_NH_decimal_ab_J35 {x2 : Int32} {x3 : Int32} {x4 : Int32} {x5 : Int32} {t0_0 : Int64} {t0_1 : Int32} {t1_0 : Int32} {t1_1 : Int32} {t2_0 : (Nat → Int32)} {t3_0 : Int32} {t3_1 : Int32} {t4_0 : (Nat → Int32)} {t5_0 : Int32} {t5_1 : Int32} {t6_0 : (Nat → Int32)} {t7_0 : Int32} {t7_1 : Int32} {t8_0 : (Nat → Int32)} {t9_0 : Int32} {t9_1 : Int32} {t10_0 : (Nat → Int32)} {t11_0 : Int32} {t11_1 : Int32} {t12_0 : Int32} {t12_1 : Int32} {t13_0 : (Nat → Int32)} {t14_0 : Int32} {t14_1 : Int32} {t15_0 : Int32} {t15_1 : Int32} {t16_0 : (Nat → Int32)}  : QK_decimal_ab (F_NH_decimal_ab_J35 x2 x3 x4 x5 t0_0 t0_1 t1_0 t1_1 t2_0 t3_0 t3_1 t4_0 t5_0 t5_1 t6_0 t7_0 t7_1 t8_0 t9_0 t9_1 t10_0 t11_0 t11_1 t12_0 t12_1 t13_0 t14_0 t14_1 t15_0 t15_1 t16_0) := by
  unfold F_NH_decimal_ab_J35
  exact K_NH_decimal_ab_J36
theorem K_NH_decimal_ab {x2 : Int32} {x3 : Int32} {x4 : Int32} {x5 : Int32} {t0_0 : Int64} {t0_1 : Int32} {t1_0 : Int32} {t1_1 : Int32} {t2_0 : (Nat → Int32)} {t3_0 : Int32} {t3_1 : Int32} {t4_0 : (Nat → Int32)} {t5_0 : Int32} {t5_1 : Int32} {t6_0 : (Nat → Int32)} {t7_0 : Int32} {t7_1 : Int32} {t8_0 : (Nat → Int32)} {t9_0 : Int32} {t9_1 : Int32} {t10_0 : (Nat → Int32)} {t11_0 : Int32} {t11_1 : Int32} {t12_0 : Int32} {t12_1 : Int32} {t13_0 : (Nat → Int32)} {t14_0 : Int32} {t14_1 : Int32} {t15_0 : Int32} {t15_1 : Int32} {t16_0 : (Nat → Int32)}  : QK_decimal_ab (F_NH_decimal_ab x2 x3 x4 x5 t0_0 t0_1 t1_0 t1_1 t2_0 t3_0 t3_1 t4_0 t5_0 t5_1 t6_0 t7_0 t7_1 t8_0 t9_0 t9_1 t10_0 t11_0 t11_1 t12_0 t12_1 t13_0 t14_0 t14_1 t15_0 t15_1 t16_0) := by
  unfold F_NH_decimal_ab
  by_cases g1 : x2 < (0 : Int32)
  ·
    rw [if_pos g1]
    exact K_NH_decimal_ab_J35
  ·
    rw [if_neg g1]
    by_cases g2 : (3 : Int32) < x2
    ·
      rw [if_pos g2]
      exact K_NH_decimal_ab_J35
    ·
      rw [if_neg g2]
      by_cases g3 : ((F_NH_isRegister x3) : Int32) = (0 : Int32)
      ·
        rw [if_pos g3]
        exact K_NH_decimal_ab_J35
      ·
        rw [if_neg g3]
        by_cases g4 : ((F_NH_isRegister x4) : Int32) = (0 : Int32)
        ·
          rw [if_pos g4]
          exact K_NH_decimal_ab_J35
        ·
          rw [if_neg g4]
          by_cases g5 : ((F_NH_isRegister x5) : Int32) = (0 : Int32)
          ·
            rw [if_pos g5]
            exact K_NH_decimal_ab_J35
          ·
            rw [if_neg g5]
            exact K_NH_decimal_ab_J36
def QK_decimal_bt (p : Int32 × Int64 × Int32 × Int32 × Int32 × (Nat → Int32) × Int32 × Int32 × (Nat → Int32) × Int32 × Int32 × (Nat → Int32) × Int32 × Int32 × (Nat → Int32) × Int32 × Int32 × (Nat → Int32) × Int32 × Int32 × Int32 × Int32 × (Nat → Int32)) : Prop := kC12 p.1
theorem K_NH_decimal_bt_J36 {x2 : Int32} {x3 : Int32} {x4 : Int32} {x5 : Int32} {t0_0 : Int64} {t0_1 : Int32} {t1_0 : Int32} {t1_1 : Int32} {t2_0 : (Nat → Int32)} {t3_0 : Int32} {t3_1 : Int32} {t4_0 : (Nat → Int32)} {t5_0 : Int32} {t5_1 : Int32} {t6_0 : (Nat → Int32)} {t7_0 : Int32} {t7_1 : Int32} {t8_0 : (Nat → Int32)} {t9_0 : Int32} {t9_1 : Int32} {t10_0 : (Nat → Int32)} {t11_0 : Int32} {t11_1 : Int32} {t12_0 : Int32} {t12_1 : Int32} {t13_0 : (Nat → Int32)} {t14_0 : Int32} {t14_1 : Int32} {t15_0 : Int32} {t15_1 : Int32} {t16_0 : (Nat → Int32)} {lx71 : Int32}  : QK_decimal_bt (F_NH_decimal_bt_J36 x2 x3 x4 x5 t0_0 t0_1 t1_0 t1_1 t2_0 t3_0 t3_1 t4_0 t5_0 t5_1 t6_0 t7_0 t7_1 t8_0 t9_0 t9_1 t10_0 t11_0 t11_1 t12_0 t12_1 t13_0 t14_0 t14_1 t15_0 t15_1 t16_0 lx71) := by
  unfold F_NH_decimal_bt_J36
  by_cases g1 : (F_NH_need lx71) = (0 : Int32)
  ·
    rw [if_pos g1]
    by_cases g2 : (1 : Int32) < x2
    ·
      rw [if_pos g2]
      by_cases g3 : x2 = (2 : Int32)
      ·
        rw [if_pos g3]
        generalize F_DW_multiply (108 : Int32) (108 : Int32) t0_0 t0_1 t1_0 t1_1 t2_0 t11_0 t11_1 t12_0 t12_1 t13_0 t14_0 t14_1 t15_0 t15_1 t16_0 = p511 at *
        unfold F_NH_decimal_bt_c100
        have h4 := K_NH_keepDecimal (x2 := x5) (t0_0 := (p511.1 : Int64)) (t0_1 := (p511.2.1 : Int32)) (t1_0 := (p511.2.2.1 : Int32)) (t1_1 := (p511.2.2.2.1 : Int32)) (t2_0 := (p511.2.2.2.2 : (Nat → Int32))) (t3_0 := t9_0) (t3_1 := t9_1) (t4_0 := t10_0) (t5_0 := t14_0) (t5_1 := t14_1) (t6_0 := t15_0) (t6_1 := t15_1) (t7_0 := t16_0) 
        generalize F_NH_keepDecimal x5 (p511.1 : Int64) (p511.2.1 : Int32) (p511.2.2.1 : Int32) (p511.2.2.2.1 : Int32) (p511.2.2.2.2 : (Nat → Int32)) t9_0 t9_1 t10_0 t14_0 t14_1 t15_0 t15_1 t16_0 = p544 at *
        have kkp544 := (show kC2 p544.1 from h4).to12
        unfold F_NH_decimal_bt_c139_7
        by_cases g5 : p544.1 = (0 : Int32)
        ·
          rw [if_pos g5]
          exact (show kC12 (0 : Int32) from Or.inl rfl)
        ·
          rw [if_neg g5]
          exact (show kC12 (p544.1) from kkp544)
      ·
        rw [if_neg g3]
        by_cases g6 : t15_0 ≤ (0 : Int32)
        ·
          rw [if_pos g6]
          by_cases g7 : (F_NH_canHave (0 : Int32)) = (0 : Int32)
          ·
            rw [if_pos g7]
            generalize F_DW_rest (108 : Int32) (108 : Int32) t0_0 t0_1 t1_0 t1_1 t2_0 t3_0 t3_1 t4_0 t5_0 t5_1 t6_0 t7_0 t7_1 t8_0 t11_0 t11_1 t12_0 t12_1 t13_0 t14_0 t14_1 t15_0 t15_1 t16_0 = p196 at *
            unfold F_NH_decimal_bt_c133
            have h8 := K_NH_keepDecimal (x2 := x5) (t0_0 := (p196.1 : Int64)) (t0_1 := (p196.2.1 : Int32)) (t1_0 := (p196.2.2.1 : Int32)) (t1_1 := (p196.2.2.2.1 : Int32)) (t2_0 := (p196.2.2.2.2.1 : (Nat → Int32))) (t3_0 := t9_0) (t3_1 := t9_1) (t4_0 := t10_0) (t5_0 := t14_0) (t5_1 := t14_1) (t6_0 := (p196.2.2.2.2.2.2.2.2.2.2.2.2.2.2.1 : Int32)) (t6_1 := (p196.2.2.2.2.2.2.2.2.2.2.2.2.2.2.2.1 : Int32)) (t7_0 := (p196.2.2.2.2.2.2.2.2.2.2.2.2.2.2.2.2 : (Nat → Int32))) 
            generalize F_NH_keepDecimal x5 (p196.1 : Int64) (p196.2.1 : Int32) (p196.2.2.1 : Int32) (p196.2.2.2.1 : Int32) (p196.2.2.2.2.1 : (Nat → Int32)) t9_0 t9_1 t10_0 t14_0 t14_1 (p196.2.2.2.2.2.2.2.2.2.2.2.2.2.2.1 : Int32) (p196.2.2.2.2.2.2.2.2.2.2.2.2.2.2.2.1 : Int32) (p196.2.2.2.2.2.2.2.2.2.2.2.2.2.2.2.2 : (Nat → Int32)) = p241 at *
            have kkp241 := (show kC2 p241.1 from h8).to12
            unfold F_NH_decimal_bt_c139
            by_cases g9 : p241.1 = (0 : Int32)
            ·
              rw [if_pos g9]
              exact (show kC12 (0 : Int32) from Or.inl rfl)
            ·
              rw [if_neg g9]
              exact (show kC12 (p241.1) from kkp241)
          ·
            rw [if_neg g7]
            exact (show kC12 ((F_NH_canHave (0 : Int32))) from (k_can _).to12)
        ·
          rw [if_neg g6]
          by_cases g10 : (F_NH_canHave (1 : Int32)) = (0 : Int32)
          ·
            rw [if_pos g10]
            generalize F_DW_rest (108 : Int32) (108 : Int32) t0_0 t0_1 t1_0 t1_1 t2_0 t3_0 t3_1 t4_0 t5_0 t5_1 t6_0 t7_0 t7_1 t8_0 t11_0 t11_1 t12_0 t12_1 t13_0 t14_0 t14_1 t15_0 t15_1 t16_0 = p379 at *
            unfold F_NH_decimal_bt_c133_4
            have h11 := K_NH_keepDecimal (x2 := x5) (t0_0 := (p379.1 : Int64)) (t0_1 := (p379.2.1 : Int32)) (t1_0 := (p379.2.2.1 : Int32)) (t1_1 := (p379.2.2.2.1 : Int32)) (t2_0 := (p379.2.2.2.2.1 : (Nat → Int32))) (t3_0 := t9_0) (t3_1 := t9_1) (t4_0 := t10_0) (t5_0 := t14_0) (t5_1 := t14_1) (t6_0 := (p379.2.2.2.2.2.2.2.2.2.2.2.2.2.2.1 : Int32)) (t6_1 := (p379.2.2.2.2.2.2.2.2.2.2.2.2.2.2.2.1 : Int32)) (t7_0 := (p379.2.2.2.2.2.2.2.2.2.2.2.2.2.2.2.2 : (Nat → Int32))) 
            generalize F_NH_keepDecimal x5 (p379.1 : Int64) (p379.2.1 : Int32) (p379.2.2.1 : Int32) (p379.2.2.2.1 : Int32) (p379.2.2.2.2.1 : (Nat → Int32)) t9_0 t9_1 t10_0 t14_0 t14_1 (p379.2.2.2.2.2.2.2.2.2.2.2.2.2.2.1 : Int32) (p379.2.2.2.2.2.2.2.2.2.2.2.2.2.2.2.1 : Int32) (p379.2.2.2.2.2.2.2.2.2.2.2.2.2.2.2.2 : (Nat → Int32)) = p424 at *
            have kkp424 := (show kC2 p424.1 from h11).to12
            unfold F_NH_decimal_bt_c139_5
            by_cases g12 : p424.1 = (0 : Int32)
            ·
              rw [if_pos g12]
              exact (show kC12 (0 : Int32) from Or.inl rfl)
            ·
              rw [if_neg g12]
              exact (show kC12 (p424.1) from kkp424)
          ·
            rw [if_neg g10]
            exact (show kC12 ((F_NH_canHave (1 : Int32))) from (k_can _).to12)
    ·
      rw [if_neg g2]
      by_cases g13 : x2 = (1 : Int32)
      ·
        rw [if_pos g13]
        generalize F_DW_sum (108 : Int32) (108 : Int32) (1 : Int32) t0_0 t0_1 t1_0 t1_1 t2_0 t5_0 t5_1 t6_0 t11_0 t11_1 t12_0 t12_1 t13_0 t14_0 t14_1 t15_0 t15_1 t16_0 = p788 at *
        unfold F_NH_decimal_bt_c78_10
        by_cases g14 : (F_NH_canHave (p788.1 : Int32)) = (0 : Int32)
        ·
          rw [if_pos g14]
          have h15 := K_NH_keepDecimal (x2 := x5) (t0_0 := (p788.2.1 : Int64)) (t0_1 := (p788.2.2.1 : Int32)) (t1_0 := (p788.2.2.2.1 : Int32)) (t1_1 := (p788.2.2.2.2.1 : Int32)) (t2_0 := (p788.2.2.2.2.2.1 : (Nat → Int32))) (t3_0 := t9_0) (t3_1 := t9_1) (t4_0 := t10_0) (t5_0 := t14_0) (t5_1 := t14_1) (t6_0 := t15_0) (t6_1 := t15_1) (t7_0 := t16_0) 
          generalize F_NH_keepDecimal x5 (p788.2.1 : Int64) (p788.2.2.1 : Int32) (p788.2.2.2.1 : Int32) (p788.2.2.2.2.1 : Int32) (p788.2.2.2.2.2.1 : (Nat → Int32)) t9_0 t9_1 t10_0 t14_0 t14_1 t15_0 t15_1 t16_0 = p834 at *
          have kkp834 := (show kC2 p834.1 from h15).to12
          unfold F_NH_decimal_bt_c139_11
          by_cases g16 : p834.1 = (0 : Int32)
          ·
            rw [if_pos g16]
            exact (show kC12 (0 : Int32) from Or.inl rfl)
          ·
            rw [if_neg g16]
            exact (show kC12 (p834.1) from kkp834)
        ·
          rw [if_neg g14]
          exact (show kC12 ((F_NH_canHave (p788.1 : Int32))) from (k_can _).to12)
      ·
        rw [if_neg g13]
        generalize F_DW_sum (108 : Int32) (108 : Int32) (0 : Int32) t0_0 t0_1 t1_0 t1_1 t2_0 t5_0 t5_1 t6_0 t11_0 t11_1 t12_0 t12_1 t13_0 t14_0 t14_1 t15_0 t15_1 t16_0 = p644 at *
        unfold F_NH_decimal_bt_c78
        by_cases g17 : (F_NH_canHave (p644.1 : Int32)) = (0 : Int32)
        ·
          rw [if_pos g17]
          have h18 := K_NH_keepDecimal (x2 := x5) (t0_0 := (p644.2.1 : Int64)) (t0_1 := (p644.2.2.1 : Int32)) (t1_0 := (p644.2.2.2.1 : Int32)) (t1_1 := (p644.2.2.2.2.1 : Int32)) (t2_0 := (p644.2.2.2.2.2.1 : (Nat → Int32))) (t3_0 := t9_0) (t3_1 := t9_1) (t4_0 := t10_0) (t5_0 := t14_0) (t5_1 := t14_1) (t6_0 := t15_0) (t6_1 := t15_1) (t7_0 := t16_0) 
          generalize F_NH_keepDecimal x5 (p644.2.1 : Int64) (p644.2.2.1 : Int32) (p644.2.2.2.1 : Int32) (p644.2.2.2.2.1 : Int32) (p644.2.2.2.2.2.1 : (Nat → Int32)) t9_0 t9_1 t10_0 t14_0 t14_1 t15_0 t15_1 t16_0 = p690 at *
          have kkp690 := (show kC2 p690.1 from h18).to12
          unfold F_NH_decimal_bt_c139_9
          by_cases g19 : p690.1 = (0 : Int32)
          ·
            rw [if_pos g19]
            exact (show kC12 (0 : Int32) from Or.inl rfl)
          ·
            rw [if_neg g19]
            exact (show kC12 (p690.1) from kkp690)
        ·
          rw [if_neg g17]
          exact (show kC12 ((F_NH_canHave (p644.1 : Int32))) from (k_can _).to12)
  ·
    rw [if_neg g1]
    exact (show kC12 ((F_NH_need lx71)) from (k_need _).to12)
theorem K_NH_decimal_bt_J35 {x2 : Int32} {x3 : Int32} {x4 : Int32} {x5 : Int32} {t0_0 : Int64} {t0_1 : Int32} {t1_0 : Int32} {t1_1 : Int32} {t2_0 : (Nat → Int32)} {t3_0 : Int32} {t3_1 : Int32} {t4_0 : (Nat → Int32)} {t5_0 : Int32} {t5_1 : Int32} {t6_0 : (Nat → Int32)} {t7_0 : Int32} {t7_1 : Int32} {t8_0 : (Nat → Int32)} {t9_0 : Int32} {t9_1 : Int32} {t10_0 : (Nat → Int32)} {t11_0 : Int32} {t11_1 : Int32} {t12_0 : Int32} {t12_1 : Int32} {t13_0 : (Nat → Int32)} {t14_0 : Int32} {t14_1 : Int32} {t15_0 : Int32} {t15_1 : Int32} {t16_0 : (Nat → Int32)}  : QK_decimal_bt (F_NH_decimal_bt_J35 x2 x3 x4 x5 t0_0 t0_1 t1_0 t1_1 t2_0 t3_0 t3_1 t4_0 t5_0 t5_1 t6_0 t7_0 t7_1 t8_0 t9_0 t9_1 t10_0 t11_0 t11_1 t12_0 t12_1 t13_0 t14_0 t14_1 t15_0 t15_1 t16_0) := by
  unfold F_NH_decimal_bt_J35
  exact K_NH_decimal_bt_J36
theorem K_NH_decimal_bt {x2 : Int32} {x3 : Int32} {x4 : Int32} {x5 : Int32} {t0_0 : Int64} {t0_1 : Int32} {t1_0 : Int32} {t1_1 : Int32} {t2_0 : (Nat → Int32)} {t3_0 : Int32} {t3_1 : Int32} {t4_0 : (Nat → Int32)} {t5_0 : Int32} {t5_1 : Int32} {t6_0 : (Nat → Int32)} {t7_0 : Int32} {t7_1 : Int32} {t8_0 : (Nat → Int32)} {t9_0 : Int32} {t9_1 : Int32} {t10_0 : (Nat → Int32)} {t11_0 : Int32} {t11_1 : Int32} {t12_0 : Int32} {t12_1 : Int32} {t13_0 : (Nat → Int32)} {t14_0 : Int32} {t14_1 : Int32} {t15_0 : Int32} {t15_1 : Int32} {t16_0 : (Nat → Int32)}  : QK_decimal_bt (F_NH_decimal_bt x2 x3 x4 x5 t0_0 t0_1 t1_0 t1_1 t2_0 t3_0 t3_1 t4_0 t5_0 t5_1 t6_0 t7_0 t7_1 t8_0 t9_0 t9_1 t10_0 t11_0 t11_1 t12_0 t12_1 t13_0 t14_0 t14_1 t15_0 t15_1 t16_0) := by
  unfold F_NH_decimal_bt
  by_cases g1 : x2 < (0 : Int32)
  ·
    rw [if_pos g1]
    exact K_NH_decimal_bt_J35
  ·
    rw [if_neg g1]
    by_cases g2 : (3 : Int32) < x2
    ·
      rw [if_pos g2]
      exact K_NH_decimal_bt_J35
    ·
      rw [if_neg g2]
      by_cases g3 : ((F_NH_isRegister x3) : Int32) = (0 : Int32)
      ·
        rw [if_pos g3]
        exact K_NH_decimal_bt_J35
      ·
        rw [if_neg g3]
        by_cases g4 : ((F_NH_isRegister x4) : Int32) = (0 : Int32)
        ·
          rw [if_pos g4]
          exact K_NH_decimal_bt_J35
        ·
          rw [if_neg g4]
          by_cases g5 : ((F_NH_isRegister x5) : Int32) = (0 : Int32)
          ·
            rw [if_pos g5]
            exact K_NH_decimal_bt_J35
          ·
            rw [if_neg g5]
            exact K_NH_decimal_bt_J36
def QK_decimal_abt (p : Int32 × Int64 × Int32 × Int32 × Int32 × (Nat → Int32) × Int32 × Int32 × (Nat → Int32) × Int32 × Int32 × (Nat → Int32) × Int32 × Int32 × (Nat → Int32) × Int32 × Int32 × Int32 × Int32 × (Nat → Int32)) : Prop := kC12 p.1
theorem K_NH_decimal_abt_J36 {x2 : Int32} {x3 : Int32} {x4 : Int32} {x5 : Int32} {t0_0 : Int64} {t0_1 : Int32} {t1_0 : Int32} {t1_1 : Int32} {t2_0 : (Nat → Int32)} {t3_0 : Int32} {t3_1 : Int32} {t4_0 : (Nat → Int32)} {t5_0 : Int32} {t5_1 : Int32} {t6_0 : (Nat → Int32)} {t7_0 : Int32} {t7_1 : Int32} {t8_0 : (Nat → Int32)} {t9_0 : Int32} {t9_1 : Int32} {t10_0 : (Nat → Int32)} {t11_0 : Int32} {t11_1 : Int32} {t12_0 : Int32} {t12_1 : Int32} {t13_0 : (Nat → Int32)} {lx58 : Int32}  : QK_decimal_abt (F_NH_decimal_abt_J36 x2 x3 x4 x5 t0_0 t0_1 t1_0 t1_1 t2_0 t3_0 t3_1 t4_0 t5_0 t5_1 t6_0 t7_0 t7_1 t8_0 t9_0 t9_1 t10_0 t11_0 t11_1 t12_0 t12_1 t13_0 lx58) := by
  unfold F_NH_decimal_abt_J36
  by_cases g1 : (F_NH_need lx58) = (0 : Int32)
  ·
    rw [if_pos g1]
    by_cases g2 : (1 : Int32) < x2
    ·
      rw [if_pos g2]
      by_cases g3 : x2 = (2 : Int32)
      ·
        rw [if_pos g3]
        generalize F_DW_multiply (108 : Int32) (108 : Int32) t0_0 t0_1 t1_0 t1_1 t2_0 t11_0 t11_1 t12_0 t12_1 t13_0 t11_0 t11_1 t12_0 t12_1 t13_0 = p433 at *
        unfold F_NH_decimal_abt_c100
        have h4 := K_NH_keepDecimal (x2 := x5) (t0_0 := (p433.1 : Int64)) (t0_1 := (p433.2.1 : Int32)) (t1_0 := (p433.2.2.1 : Int32)) (t1_1 := (p433.2.2.2.1 : Int32)) (t2_0 := (p433.2.2.2.2 : (Nat → Int32))) (t3_0 := t9_0) (t3_1 := t9_1) (t4_0 := t10_0) (t5_0 := t11_0) (t5_1 := t11_1) (t6_0 := t12_0) (t6_1 := t12_1) (t7_0 := t13_0) 
        generalize F_NH_keepDecimal x5 (p433.1 : Int64) (p433.2.1 : Int32) (p433.2.2.1 : Int32) (p433.2.2.2.1 : Int32) (p433.2.2.2.2 : (Nat → Int32)) t9_0 t9_1 t10_0 t11_0 t11_1 t12_0 t12_1 t13_0 = p466 at *
        have kkp466 := (show kC2 p466.1 from h4).to12
        unfold F_NH_decimal_abt_c139_7
        by_cases g5 : p466.1 = (0 : Int32)
        ·
          rw [if_pos g5]
          exact (show kC12 (0 : Int32) from Or.inl rfl)
        ·
          rw [if_neg g5]
          exact (show kC12 (p466.1) from kkp466)
      ·
        rw [if_neg g3]
        by_cases g6 : t12_0 ≤ (0 : Int32)
        ·
          rw [if_pos g6]
          by_cases g7 : (F_NH_canHave (0 : Int32)) = (0 : Int32)
          ·
            rw [if_pos g7]
            generalize F_DW_rest_a (108 : Int32) t0_0 t0_1 t1_0 t1_1 t2_0 t3_0 t3_1 t4_0 t5_0 t5_1 t6_0 t7_0 t7_1 t8_0 t11_0 t11_1 t12_0 t12_1 t13_0 = p155 at *
            unfold F_NH_decimal_abt_c133
            have h8 := K_NH_keepDecimal (x2 := x5) (t0_0 := (p155.1 : Int64)) (t0_1 := (p155.2.1 : Int32)) (t1_0 := (p155.2.2.1 : Int32)) (t1_1 := (p155.2.2.2.1 : Int32)) (t2_0 := (p155.2.2.2.2.1 : (Nat → Int32))) (t3_0 := t9_0) (t3_1 := t9_1) (t4_0 := t10_0) (t5_0 := t11_0) (t5_1 := t11_1) (t6_0 := t12_0) (t6_1 := t12_1) (t7_0 := t13_0) 
            generalize F_NH_keepDecimal x5 (p155.1 : Int64) (p155.2.1 : Int32) (p155.2.2.1 : Int32) (p155.2.2.2.1 : Int32) (p155.2.2.2.2.1 : (Nat → Int32)) t9_0 t9_1 t10_0 t11_0 t11_1 t12_0 t12_1 t13_0 = p194 at *
            have kkp194 := (show kC2 p194.1 from h8).to12
            unfold F_NH_decimal_abt_c139
            by_cases g9 : p194.1 = (0 : Int32)
            ·
              rw [if_pos g9]
              exact (show kC12 (0 : Int32) from Or.inl rfl)
            ·
              rw [if_neg g9]
              exact (show kC12 (p194.1) from kkp194)
          ·
            rw [if_neg g7]
            exact (show kC12 ((F_NH_canHave (0 : Int32))) from (k_can _).to12)
        ·
          rw [if_neg g6]
          by_cases g10 : (F_NH_canHave (1 : Int32)) = (0 : Int32)
          ·
            rw [if_pos g10]
            generalize F_DW_rest_a (108 : Int32) t0_0 t0_1 t1_0 t1_1 t2_0 t3_0 t3_1 t4_0 t5_0 t5_1 t6_0 t7_0 t7_1 t8_0 t11_0 t11_1 t12_0 t12_1 t13_0 = p307 at *
            unfold F_NH_decimal_abt_c133_4
            have h11 := K_NH_keepDecimal (x2 := x5) (t0_0 := (p307.1 : Int64)) (t0_1 := (p307.2.1 : Int32)) (t1_0 := (p307.2.2.1 : Int32)) (t1_1 := (p307.2.2.2.1 : Int32)) (t2_0 := (p307.2.2.2.2.1 : (Nat → Int32))) (t3_0 := t9_0) (t3_1 := t9_1) (t4_0 := t10_0) (t5_0 := t11_0) (t5_1 := t11_1) (t6_0 := t12_0) (t6_1 := t12_1) (t7_0 := t13_0) 
            generalize F_NH_keepDecimal x5 (p307.1 : Int64) (p307.2.1 : Int32) (p307.2.2.1 : Int32) (p307.2.2.2.1 : Int32) (p307.2.2.2.2.1 : (Nat → Int32)) t9_0 t9_1 t10_0 t11_0 t11_1 t12_0 t12_1 t13_0 = p346 at *
            have kkp346 := (show kC2 p346.1 from h11).to12
            unfold F_NH_decimal_abt_c139_5
            by_cases g12 : p346.1 = (0 : Int32)
            ·
              rw [if_pos g12]
              exact (show kC12 (0 : Int32) from Or.inl rfl)
            ·
              rw [if_neg g12]
              exact (show kC12 (p346.1) from kkp346)
          ·
            rw [if_neg g10]
            exact (show kC12 ((F_NH_canHave (1 : Int32))) from (k_can _).to12)
    ·
      rw [if_neg g2]
      by_cases g13 : x2 = (1 : Int32)
      ·
        rw [if_pos g13]
        generalize F_DW_sum (108 : Int32) (108 : Int32) (1 : Int32) t0_0 t0_1 t1_0 t1_1 t2_0 t5_0 t5_1 t6_0 t11_0 t11_1 t12_0 t12_1 t13_0 t11_0 t11_1 t12_0 t12_1 t13_0 = p710 at *
        unfold F_NH_decimal_abt_c78_10
        by_cases g14 : (F_NH_canHave (p710.1 : Int32)) = (0 : Int32)
        ·
          rw [if_pos g14]
          have h15 := K_NH_keepDecimal (x2 := x5) (t0_0 := (p710.2.1 : Int64)) (t0_1 := (p710.2.2.1 : Int32)) (t1_0 := (p710.2.2.2.1 : Int32)) (t1_1 := (p710.2.2.2.2.1 : Int32)) (t2_0 := (p710.2.2.2.2.2.1 : (Nat → Int32))) (t3_0 := t9_0) (t3_1 := t9_1) (t4_0 := t10_0) (t5_0 := t11_0) (t5_1 := t11_1) (t6_0 := t12_0) (t6_1 := t12_1) (t7_0 := t13_0) 
          generalize F_NH_keepDecimal x5 (p710.2.1 : Int64) (p710.2.2.1 : Int32) (p710.2.2.2.1 : Int32) (p710.2.2.2.2.1 : Int32) (p710.2.2.2.2.2.1 : (Nat → Int32)) t9_0 t9_1 t10_0 t11_0 t11_1 t12_0 t12_1 t13_0 = p756 at *
          have kkp756 := (show kC2 p756.1 from h15).to12
          unfold F_NH_decimal_abt_c139_11
          by_cases g16 : p756.1 = (0 : Int32)
          ·
            rw [if_pos g16]
            exact (show kC12 (0 : Int32) from Or.inl rfl)
          ·
            rw [if_neg g16]
            exact (show kC12 (p756.1) from kkp756)
        ·
          rw [if_neg g14]
          exact (show kC12 ((F_NH_canHave (p710.1 : Int32))) from (k_can _).to12)
      ·
        rw [if_neg g13]
        generalize F_DW_sum (108 : Int32) (108 : Int32) (0 : Int32) t0_0 t0_1 t1_0 t1_1 t2_0 t5_0 t5_1 t6_0 t11_0 t11_1 t12_0 t12_1 t13_0 t11_0 t11_1 t12_0 t12_1 t13_0 = p566 at *
        unfold F_NH_decimal_abt_c78
        by_cases g17 : (F_NH_canHave (p566.1 : Int32)) = (0 : Int32)
        ·
          rw [if_pos g17]
          have h18 := K_NH_keepDecimal (x2 := x5) (t0_0 := (p566.2.1 : Int64)) (t0_1 := (p566.2.2.1 : Int32)) (t1_0 := (p566.2.2.2.1 : Int32)) (t1_1 := (p566.2.2.2.2.1 : Int32)) (t2_0 := (p566.2.2.2.2.2.1 : (Nat → Int32))) (t3_0 := t9_0) (t3_1 := t9_1) (t4_0 := t10_0) (t5_0 := t11_0) (t5_1 := t11_1) (t6_0 := t12_0) (t6_1 := t12_1) (t7_0 := t13_0) 
          generalize F_NH_keepDecimal x5 (p566.2.1 : Int64) (p566.2.2.1 : Int32) (p566.2.2.2.1 : Int32) (p566.2.2.2.2.1 : Int32) (p566.2.2.2.2.2.1 : (Nat → Int32)) t9_0 t9_1 t10_0 t11_0 t11_1 t12_0 t12_1 t13_0 = p612 at *
          have kkp612 := (show kC2 p612.1 from h18).to12
          unfold F_NH_decimal_abt_c139_9
          by_cases g19 : p612.1 = (0 : Int32)
          ·
            rw [if_pos g19]
            exact (show kC12 (0 : Int32) from Or.inl rfl)
          ·
            rw [if_neg g19]
            exact (show kC12 (p612.1) from kkp612)
        ·
          rw [if_neg g17]
          exact (show kC12 ((F_NH_canHave (p566.1 : Int32))) from (k_can _).to12)
  ·
    rw [if_neg g1]
    exact (show kC12 ((F_NH_need lx58)) from (k_need _).to12)
theorem K_NH_decimal_abt_J35 {x2 : Int32} {x3 : Int32} {x4 : Int32} {x5 : Int32} {t0_0 : Int64} {t0_1 : Int32} {t1_0 : Int32} {t1_1 : Int32} {t2_0 : (Nat → Int32)} {t3_0 : Int32} {t3_1 : Int32} {t4_0 : (Nat → Int32)} {t5_0 : Int32} {t5_1 : Int32} {t6_0 : (Nat → Int32)} {t7_0 : Int32} {t7_1 : Int32} {t8_0 : (Nat → Int32)} {t9_0 : Int32} {t9_1 : Int32} {t10_0 : (Nat → Int32)} {t11_0 : Int32} {t11_1 : Int32} {t12_0 : Int32} {t12_1 : Int32} {t13_0 : (Nat → Int32)}  : QK_decimal_abt (F_NH_decimal_abt_J35 x2 x3 x4 x5 t0_0 t0_1 t1_0 t1_1 t2_0 t3_0 t3_1 t4_0 t5_0 t5_1 t6_0 t7_0 t7_1 t8_0 t9_0 t9_1 t10_0 t11_0 t11_1 t12_0 t12_1 t13_0) := by
  unfold F_NH_decimal_abt_J35
  exact K_NH_decimal_abt_J36
theorem K_NH_decimal_abt {x2 : Int32} {x3 : Int32} {x4 : Int32} {x5 : Int32} {t0_0 : Int64} {t0_1 : Int32} {t1_0 : Int32} {t1_1 : Int32} {t2_0 : (Nat → Int32)} {t3_0 : Int32} {t3_1 : Int32} {t4_0 : (Nat → Int32)} {t5_0 : Int32} {t5_1 : Int32} {t6_0 : (Nat → Int32)} {t7_0 : Int32} {t7_1 : Int32} {t8_0 : (Nat → Int32)} {t9_0 : Int32} {t9_1 : Int32} {t10_0 : (Nat → Int32)} {t11_0 : Int32} {t11_1 : Int32} {t12_0 : Int32} {t12_1 : Int32} {t13_0 : (Nat → Int32)}  : QK_decimal_abt (F_NH_decimal_abt x2 x3 x4 x5 t0_0 t0_1 t1_0 t1_1 t2_0 t3_0 t3_1 t4_0 t5_0 t5_1 t6_0 t7_0 t7_1 t8_0 t9_0 t9_1 t10_0 t11_0 t11_1 t12_0 t12_1 t13_0) := by
  unfold F_NH_decimal_abt
  by_cases g1 : x2 < (0 : Int32)
  ·
    rw [if_pos g1]
    exact K_NH_decimal_abt_J35
  ·
    rw [if_neg g1]
    by_cases g2 : (3 : Int32) < x2
    ·
      rw [if_pos g2]
      exact K_NH_decimal_abt_J35
    ·
      rw [if_neg g2]
      by_cases g3 : ((F_NH_isRegister x3) : Int32) = (0 : Int32)
      ·
        rw [if_pos g3]
        exact K_NH_decimal_abt_J35
      ·
        rw [if_neg g3]
        by_cases g4 : ((F_NH_isRegister x4) : Int32) = (0 : Int32)
        ·
          rw [if_pos g4]
          exact K_NH_decimal_abt_J35
        ·
          rw [if_neg g4]
          by_cases g5 : ((F_NH_isRegister x5) : Int32) = (0 : Int32)
          ·
            rw [if_pos g5]
            exact K_NH_decimal_abt_J35
          ·
            rw [if_neg g5]
            exact K_NH_decimal_abt_J36
def QK_decimalBy (p : Int32 × Int64 × Int32 × Int32 × Int32 × (Nat → Int32) × Int32 × Int32 × (Nat → Int32) × Int32 × Int32 × (Nat → Int32) × Int32 × Int32 × (Nat → Int32) × Int32 × Int32 × Int32 × Int32 × (Nat → Int32)) : Prop := kC12 p.1
theorem K_NH_decimalBy_J52 {x2 : Int32} {x3 : Int32} {x4 : Int32} {x5 : Int32} {t0_0 : Int64} {t0_1 : Int32} {t1_0 : Int32} {t1_1 : Int32} {t2_0 : (Nat → Int32)} {t3_0 : Int32} {t3_1 : Int32} {t4_0 : (Nat → Int32)} {t5_0 : Int32} {t5_1 : Int32} {t6_0 : (Nat → Int32)} {t7_0 : Int32} {t7_1 : Int32} {t8_0 : (Nat → Int32)} {t9_0 : Int32} {t9_1 : Int32} {t10_0 : Int32} {t10_1 : Int32} {t11_0 : (Nat → Int32)} {t12_0 : Int32} {t12_1 : Int32} {t13_0 : Int32} {t13_1 : Int32} {t14_0 : (Nat → Int32)} {lx63 : Int32} {lx96 : Int32}  : QK_decimalBy (F_NH_decimalBy_J52 x2 x3 x4 x5 t0_0 t0_1 t1_0 t1_1 t2_0 t3_0 t3_1 t4_0 t5_0 t5_1 t6_0 t7_0 t7_1 t8_0 t9_0 t9_1 t10_0 t10_1 t11_0 t12_0 t12_1 t13_0 t13_1 t14_0 lx63 lx96) := by
  unfold F_NH_decimalBy_J52
  by_cases g1 : (F_NH_need lx96) = (0 : Int32)
  ·
    rw [if_pos g1]
    by_cases g2 : x2 = (0 : Int32)
    ·
      rw [if_pos g2]
      generalize F_DW_raise (108 : Int32) x4 t0_0 t0_1 t1_0 t1_1 t2_0 t3_0 t3_1 t4_0 t5_0 t5_1 t6_0 t9_0 t9_1 t10_0 t10_1 t11_0 = p447 at *
      unfold F_NH_decimalBy_c70
      by_cases g3 : (F_NH_canHave (p447.1 : Int32)) = (0 : Int32)
      ·
        rw [if_pos g3]
        have h4 := K_NH_keepDecimal (x2 := x5) (t0_0 := (p447.2.1 : Int64)) (t0_1 := (p447.2.2.1 : Int32)) (t1_0 := (p447.2.2.2.1 : Int32)) (t1_1 := (p447.2.2.2.2.1 : Int32)) (t2_0 := (p447.2.2.2.2.2.1 : (Nat → Int32))) (t3_0 := t7_0) (t3_1 := t7_1) (t4_0 := t8_0) (t5_0 := t12_0) (t5_1 := t12_1) (t6_0 := t13_0) (t6_1 := t13_1) (t7_0 := t14_0) 
        generalize F_NH_keepDecimal x5 (p447.2.1 : Int64) (p447.2.2.1 : Int32) (p447.2.2.2.1 : Int32) (p447.2.2.2.2.1 : Int32) (p447.2.2.2.2.2.1 : (Nat → Int32)) t7_0 t7_1 t8_0 t12_0 t12_1 t13_0 t13_1 t14_0 = p496 at *
        have kkp496 := (show kC2 p496.1 from h4).to12
        unfold F_NH_decimalBy_c130_8
        by_cases g5 : p496.1 = (0 : Int32)
        ·
          rw [if_pos g5]
          exact (show kC12 (0 : Int32) from Or.inl rfl)
        ·
          rw [if_neg g5]
          exact (show kC12 (p496.1) from kkp496)
      ·
        rw [if_neg g3]
        exact (show kC12 ((F_NH_canHave (p447.1 : Int32))) from (k_can _).to12)
    ·
      rw [if_neg g2]
      by_cases g6 : x2 = (1 : Int32)
      ·
        rw [if_pos g6]
        generalize F_DW_take (108 : Int32) t0_0 t0_1 t1_0 t1_1 t2_0 t9_0 t9_1 t10_0 t10_1 t11_0 = p297 at *
        unfold F_NH_decimalBy_c94
        have h7 := K_NH_keepDecimal (x2 := x5) (t0_0 := ((p297.1 : Int64) - (x4.toInt64 : Int64) : Int64)) (t0_1 := (p297.2.1 : Int32)) (t1_0 := (p297.2.2.1 : Int32)) (t1_1 := (p297.2.2.2.1 : Int32)) (t2_0 := (p297.2.2.2.2 : (Nat → Int32))) (t3_0 := t7_0) (t3_1 := t7_1) (t4_0 := t8_0) (t5_0 := t12_0) (t5_1 := t12_1) (t6_0 := t13_0) (t6_1 := t13_1) (t7_0 := t14_0) 
        generalize F_NH_keepDecimal x5 ((p297.1 : Int64) - (x4.toInt64 : Int64) : Int64) (p297.2.1 : Int32) (p297.2.2.1 : Int32) (p297.2.2.2.1 : Int32) (p297.2.2.2.2 : (Nat → Int32)) t7_0 t7_1 t8_0 t12_0 t12_1 t13_0 t13_1 t14_0 = p338 at *
        have kkp338 := (show kC2 p338.1 from h7).to12
        unfold F_NH_decimalBy_c130_6
        by_cases g8 : p338.1 = (0 : Int32)
        ·
          rw [if_pos g8]
          exact (show kC12 (0 : Int32) from Or.inl rfl)
        ·
          rw [if_neg g8]
          exact (show kC12 (p338.1) from kkp338)
      ·
        rw [if_neg g6]
        generalize F_DW_strip (108 : Int32) t0_0 t0_1 t1_0 t1_1 t2_0 t7_0 t7_1 t8_0 t9_0 t9_1 t10_0 t10_1 t11_0 = p170 at *
        unfold F_NH_decimalBy_c124
        have h9 := K_NH_keepDecimal (x2 := x5) (t0_0 := (p170.1 : Int64)) (t0_1 := (p170.2.1 : Int32)) (t1_0 := (p170.2.2.1 : Int32)) (t1_1 := (p170.2.2.2.1 : Int32)) (t2_0 := (p170.2.2.2.2.1 : (Nat → Int32))) (t3_0 := (p170.2.2.2.2.2.1 : Int32)) (t3_1 := (p170.2.2.2.2.2.2.1 : Int32)) (t4_0 := (p170.2.2.2.2.2.2.2 : (Nat → Int32))) (t5_0 := t12_0) (t5_1 := t12_1) (t6_0 := t13_0) (t6_1 := t13_1) (t7_0 := t14_0) 
        generalize F_NH_keepDecimal x5 (p170.1 : Int64) (p170.2.1 : Int32) (p170.2.2.1 : Int32) (p170.2.2.2.1 : Int32) (p170.2.2.2.2.1 : (Nat → Int32)) (p170.2.2.2.2.2.1 : Int32) (p170.2.2.2.2.2.2.1 : Int32) (p170.2.2.2.2.2.2.2 : (Nat → Int32)) t12_0 t12_1 t13_0 t13_1 t14_0 = p206 at *
        have kkp206 := (show kC2 p206.1 from h9).to12
        unfold F_NH_decimalBy_c130
        by_cases g10 : p206.1 = (0 : Int32)
        ·
          rw [if_pos g10]
          exact (show kC12 (0 : Int32) from Or.inl rfl)
        ·
          rw [if_neg g10]
          exact (show kC12 (p206.1) from kkp206)
  ·
    rw [if_neg g1]
    exact (show kC12 ((F_NH_need lx96)) from (k_need _).to12)
theorem K_NH_decimalBy_J47 {x2 : Int32} {x3 : Int32} {x4 : Int32} {x5 : Int32} {t0_0 : Int64} {t0_1 : Int32} {t1_0 : Int32} {t1_1 : Int32} {t2_0 : (Nat → Int32)} {t3_0 : Int32} {t3_1 : Int32} {t4_0 : (Nat → Int32)} {t5_0 : Int32} {t5_1 : Int32} {t6_0 : (Nat → Int32)} {t7_0 : Int32} {t7_1 : Int32} {t8_0 : (Nat → Int32)} {t9_0 : Int32} {t9_1 : Int32} {t10_0 : Int32} {t10_1 : Int32} {t11_0 : (Nat → Int32)} {t12_0 : Int32} {t12_1 : Int32} {t13_0 : Int32} {t13_1 : Int32} {t14_0 : (Nat → Int32)} {lx63 : Int32}  : QK_decimalBy (F_NH_decimalBy_J47 x2 x3 x4 x5 t0_0 t0_1 t1_0 t1_1 t2_0 t3_0 t3_1 t4_0 t5_0 t5_1 t6_0 t7_0 t7_1 t8_0 t9_0 t9_1 t10_0 t10_1 t11_0 t12_0 t12_1 t13_0 t13_1 t14_0 lx63) := by
  unfold F_NH_decimalBy_J47
  exact K_NH_decimalBy_J52
theorem K_NH_decimalBy_J51 {x2 : Int32} {x3 : Int32} {x4 : Int32} {x5 : Int32} {t0_0 : Int64} {t0_1 : Int32} {t1_0 : Int32} {t1_1 : Int32} {t2_0 : (Nat → Int32)} {t3_0 : Int32} {t3_1 : Int32} {t4_0 : (Nat → Int32)} {t5_0 : Int32} {t5_1 : Int32} {t6_0 : (Nat → Int32)} {t7_0 : Int32} {t7_1 : Int32} {t8_0 : (Nat → Int32)} {t9_0 : Int32} {t9_1 : Int32} {t10_0 : Int32} {t10_1 : Int32} {t11_0 : (Nat → Int32)} {t12_0 : Int32} {t12_1 : Int32} {t13_0 : Int32} {t13_1 : Int32} {t14_0 : (Nat → Int32)} {lx63 : Int32}  : QK_decimalBy (F_NH_decimalBy_J51 x2 x3 x4 x5 t0_0 t0_1 t1_0 t1_1 t2_0 t3_0 t3_1 t4_0 t5_0 t5_1 t6_0 t7_0 t7_1 t8_0 t9_0 t9_1 t10_0 t10_1 t11_0 t12_0 t12_1 t13_0 t13_1 t14_0 lx63) := by
  unfold F_NH_decimalBy_J51
  exact K_NH_decimalBy_J52
theorem K_NH_decimalBy_J29 {x2 : Int32} {x3 : Int32} {x4 : Int32} {x5 : Int32} {t0_0 : Int64} {t0_1 : Int32} {t1_0 : Int32} {t1_1 : Int32} {t2_0 : (Nat → Int32)} {t3_0 : Int32} {t3_1 : Int32} {t4_0 : (Nat → Int32)} {t5_0 : Int32} {t5_1 : Int32} {t6_0 : (Nat → Int32)} {t7_0 : Int32} {t7_1 : Int32} {t8_0 : (Nat → Int32)} {t9_0 : Int32} {t9_1 : Int32} {t10_0 : Int32} {t10_1 : Int32} {t11_0 : (Nat → Int32)} {t12_0 : Int32} {t12_1 : Int32} {t13_0 : Int32} {t13_1 : Int32} {t14_0 : (Nat → Int32)} {lx63 : Int32}  : QK_decimalBy (F_NH_decimalBy_J29 x2 x3 x4 x5 t0_0 t0_1 t1_0 t1_1 t2_0 t3_0 t3_1 t4_0 t5_0 t5_1 t6_0 t7_0 t7_1 t8_0 t9_0 t9_1 t10_0 t10_1 t11_0 t12_0 t12_1 t13_0 t13_1 t14_0 lx63) := by
  unfold F_NH_decimalBy_J29
  by_cases g1 : (F_NH_need lx63) = (0 : Int32)
  ·
    rw [if_pos g1]
    by_cases g2 : x2 = (0 : Int32)
    ·
      rw [if_pos g2]
      by_cases g3 : x4 < (0 : Int32)
      ·
        rw [if_pos g3]
        exact K_NH_decimalBy_J51
      ·
        rw [if_neg g3]
        by_cases g4 : (999 : Int32) < x4
        ·
          rw [if_pos g4]
          exact K_NH_decimalBy_J51
        ·
          rw [if_neg g4]
          exact K_NH_decimalBy_J47
    ·
      rw [if_neg g2]
      exact K_NH_decimalBy_J47
  ·
    rw [if_neg g1]
    exact (show kC12 ((F_NH_need lx63)) from (k_need _).to12)
theorem K_NH_decimalBy_J28 {x2 : Int32} {x3 : Int32} {x4 : Int32} {x5 : Int32} {t0_0 : Int64} {t0_1 : Int32} {t1_0 : Int32} {t1_1 : Int32} {t2_0 : (Nat → Int32)} {t3_0 : Int32} {t3_1 : Int32} {t4_0 : (Nat → Int32)} {t5_0 : Int32} {t5_1 : Int32} {t6_0 : (Nat → Int32)} {t7_0 : Int32} {t7_1 : Int32} {t8_0 : (Nat → Int32)} {t9_0 : Int32} {t9_1 : Int32} {t10_0 : Int32} {t10_1 : Int32} {t11_0 : (Nat → Int32)} {t12_0 : Int32} {t12_1 : Int32} {t13_0 : Int32} {t13_1 : Int32} {t14_0 : (Nat → Int32)}  : QK_decimalBy (F_NH_decimalBy_J28 x2 x3 x4 x5 t0_0 t0_1 t1_0 t1_1 t2_0 t3_0 t3_1 t4_0 t5_0 t5_1 t6_0 t7_0 t7_1 t8_0 t9_0 t9_1 t10_0 t10_1 t11_0 t12_0 t12_1 t13_0 t13_1 t14_0) := by
  unfold F_NH_decimalBy_J28
  exact K_NH_decimalBy_J29
theorem K_NH_decimalBy {x2 : Int32} {x3 : Int32} {x4 : Int32} {x5 : Int32} {t0_0 : Int64} {t0_1 : Int32} {t1_0 : Int32} {t1_1 : Int32} {t2_0 : (Nat → Int32)} {t3_0 : Int32} {t3_1 : Int32} {t4_0 : (Nat → Int32)} {t5_0 : Int32} {t5_1 : Int32} {t6_0 : (Nat → Int32)} {t7_0 : Int32} {t7_1 : Int32} {t8_0 : (Nat → Int32)} {t9_0 : Int32} {t9_1 : Int32} {t10_0 : Int32} {t10_1 : Int32} {t11_0 : (Nat → Int32)} {t12_0 : Int32} {t12_1 : Int32} {t13_0 : Int32} {t13_1 : Int32} {t14_0 : (Nat → Int32)}  : QK_decimalBy (F_NH_decimalBy x2 x3 x4 x5 t0_0 t0_1 t1_0 t1_1 t2_0 t3_0 t3_1 t4_0 t5_0 t5_1 t6_0 t7_0 t7_1 t8_0 t9_0 t9_1 t10_0 t10_1 t11_0 t12_0 t12_1 t13_0 t13_1 t14_0) := by
  unfold F_NH_decimalBy
  by_cases g1 : x2 < (0 : Int32)
  ·
    rw [if_pos g1]
    exact K_NH_decimalBy_J28
  ·
    rw [if_neg g1]
    by_cases g2 : (2 : Int32) < x2
    ·
      rw [if_pos g2]
      exact K_NH_decimalBy_J28
    ·
      rw [if_neg g2]
      by_cases g3 : ((F_NH_isRegister x3) : Int32) = (0 : Int32)
      ·
        rw [if_pos g3]
        exact K_NH_decimalBy_J28
      ·
        rw [if_neg g3]
        by_cases g4 : ((F_NH_isRegister x5) : Int32) = (0 : Int32)
        ·
          rw [if_pos g4]
          exact K_NH_decimalBy_J28
        ·
          rw [if_neg g4]
          exact K_NH_decimalBy_J29
def QK_divide (p : Int32 × Int64 × Int32 × Int32 × Int32 × (Nat → Int32) × Int32 × Int32 × (Nat → Int32) × Int32 × Int32 × (Nat → Int32) × Int32 × Int32 × (Nat → Int32) × Int32 × Int32 × (Nat → Int32) × Int32 × Int32 × Int32 × Int32 × (Nat → Int32)) : Prop := kC12 p.1
theorem K_NH_divide_J65 {x2 : Int32} {x3 : Int32} {x4 : Int32} {x5 : Int32} {x6 : Int32} {t0_0 : Int64} {t0_1 : Int32} {t1_0 : Int32} {t1_1 : Int32} {t2_0 : (Nat → Int32)} {t3_0 : Int32} {t3_1 : Int32} {t4_0 : (Nat → Int32)} {t5_0 : Int32} {t5_1 : Int32} {t6_0 : (Nat → Int32)} {t7_0 : Int32} {t7_1 : Int32} {t8_0 : (Nat → Int32)} {t9_0 : Int32} {t9_1 : Int32} {t10_0 : Int32} {t10_1 : Int32} {t11_0 : (Nat → Int32)} {t12_0 : Int32} {t12_1 : Int32} {t13_0 : Int32} {t13_1 : Int32} {t14_0 : (Nat → Int32)} {t15_0 : Int32} {t15_1 : Int32} {t16_0 : Int32} {t16_1 : Int32} {t17_0 : (Nat → Int32)} {lx83 : Int32} {lx125 : Int32}  : QK_divide (F_NH_divide_J65 x2 x3 x4 x5 x6 t0_0 t0_1 t1_0 t1_1 t2_0 t3_0 t3_1 t4_0 t5_0 t5_1 t6_0 t7_0 t7_1 t8_0 t9_0 t9_1 t10_0 t10_1 t11_0 t12_0 t12_1 t13_0 t13_1 t14_0 t15_0 t15_1 t16_0 t16_1 t17_0 lx83 lx125) := by
  unfold F_NH_divide_J65
  by_cases g1 : (F_NH_canHave lx125) = (0 : Int32)
  ·
    rw [if_pos g1]
    generalize F_DW_divideToScale (108 : Int32) (108 : Int32) x5 x6 t0_0 t0_1 t1_0 t1_1 t2_0 t3_0 t3_1 t4_0 t5_0 t5_1 t6_0 t9_0 t9_1 t10_0 t10_1 t11_0 t12_0 t12_1 t13_0 t13_1 t14_0 = p226 at *
    unfold F_NH_divide_c88
    by_cases g2 : (F_NH_canHave (p226.1 : Int32)) = (0 : Int32)
    ·
      rw [if_pos g2]
      have h3 := K_NH_keepDecimal (x2 := x4) (t0_0 := (p226.2.1 : Int64)) (t0_1 := (p226.2.2.1 : Int32)) (t1_0 := (p226.2.2.2.1 : Int32)) (t1_1 := (p226.2.2.2.2.1 : Int32)) (t2_0 := (p226.2.2.2.2.2.1 : (Nat → Int32))) (t3_0 := t7_0) (t3_1 := t7_1) (t4_0 := t8_0) (t5_0 := t15_0) (t5_1 := t15_1) (t6_0 := t16_0) (t6_1 := t16_1) (t7_0 := t17_0) 
      generalize F_NH_keepDecimal x4 (p226.2.1 : Int64) (p226.2.2.1 : Int32) (p226.2.2.2.1 : Int32) (p226.2.2.2.2.1 : Int32) (p226.2.2.2.2.2.1 : (Nat → Int32)) t7_0 t7_1 t8_0 t15_0 t15_1 t16_0 t16_1 t17_0 = p278 at *
      have kkp278 := (show kC2 p278.1 from h3).to12
      unfold F_NH_divide_c96
      by_cases g4 : p278.1 = (0 : Int32)
      ·
        rw [if_pos g4]
        exact (show kC12 (0 : Int32) from Or.inl rfl)
      ·
        rw [if_neg g4]
        exact (show kC12 (p278.1) from kkp278)
    ·
      rw [if_neg g2]
      exact (show kC12 ((F_NH_canHave (p226.1 : Int32))) from (k_can _).to12)
  ·
    rw [if_neg g1]
    exact (show kC12 ((F_NH_canHave lx125)) from (k_can _).to12)
theorem K_NH_divide_J42 {x2 : Int32} {x3 : Int32} {x4 : Int32} {x5 : Int32} {x6 : Int32} {t0_0 : Int64} {t0_1 : Int32} {t1_0 : Int32} {t1_1 : Int32} {t2_0 : (Nat → Int32)} {t3_0 : Int32} {t3_1 : Int32} {t4_0 : (Nat → Int32)} {t5_0 : Int32} {t5_1 : Int32} {t6_0 : (Nat → Int32)} {t7_0 : Int32} {t7_1 : Int32} {t8_0 : (Nat → Int32)} {t9_0 : Int32} {t9_1 : Int32} {t10_0 : Int32} {t10_1 : Int32} {t11_0 : (Nat → Int32)} {t12_0 : Int32} {t12_1 : Int32} {t13_0 : Int32} {t13_1 : Int32} {t14_0 : (Nat → Int32)} {t15_0 : Int32} {t15_1 : Int32} {t16_0 : Int32} {t16_1 : Int32} {t17_0 : (Nat → Int32)} {lx83 : Int32}  : QK_divide (F_NH_divide_J42 x2 x3 x4 x5 x6 t0_0 t0_1 t1_0 t1_1 t2_0 t3_0 t3_1 t4_0 t5_0 t5_1 t6_0 t7_0 t7_1 t8_0 t9_0 t9_1 t10_0 t10_1 t11_0 t12_0 t12_1 t13_0 t13_1 t14_0 t15_0 t15_1 t16_0 t16_1 t17_0 lx83) := by
  unfold F_NH_divide_J42
  by_cases g1 : (F_NH_need lx83) = (0 : Int32)
  ·
    rw [if_pos g1]
    by_cases g2 : t13_0 ≤ (0 : Int32)
    ·
      rw [if_pos g2]
      exact K_NH_divide_J65
    ·
      rw [if_neg g2]
      exact K_NH_divide_J65
  ·
    rw [if_neg g1]
    exact (show kC12 ((F_NH_need lx83)) from (k_need _).to12)
theorem K_NH_divide_J41 {x2 : Int32} {x3 : Int32} {x4 : Int32} {x5 : Int32} {x6 : Int32} {t0_0 : Int64} {t0_1 : Int32} {t1_0 : Int32} {t1_1 : Int32} {t2_0 : (Nat → Int32)} {t3_0 : Int32} {t3_1 : Int32} {t4_0 : (Nat → Int32)} {t5_0 : Int32} {t5_1 : Int32} {t6_0 : (Nat → Int32)} {t7_0 : Int32} {t7_1 : Int32} {t8_0 : (Nat → Int32)} {t9_0 : Int32} {t9_1 : Int32} {t10_0 : Int32} {t10_1 : Int32} {t11_0 : (Nat → Int32)} {t12_0 : Int32} {t12_1 : Int32} {t13_0 : Int32} {t13_1 : Int32} {t14_0 : (Nat → Int32)} {t15_0 : Int32} {t15_1 : Int32} {t16_0 : Int32} {t16_1 : Int32} {t17_0 : (Nat → Int32)}  : QK_divide (F_NH_divide_J41 x2 x3 x4 x5 x6 t0_0 t0_1 t1_0 t1_1 t2_0 t3_0 t3_1 t4_0 t5_0 t5_1 t6_0 t7_0 t7_1 t8_0 t9_0 t9_1 t10_0 t10_1 t11_0 t12_0 t12_1 t13_0 t13_1 t14_0 t15_0 t15_1 t16_0 t16_1 t17_0) := by
  unfold F_NH_divide_J41
  exact K_NH_divide_J42
theorem K_NH_divide {x2 : Int32} {x3 : Int32} {x4 : Int32} {x5 : Int32} {x6 : Int32} {t0_0 : Int64} {t0_1 : Int32} {t1_0 : Int32} {t1_1 : Int32} {t2_0 : (Nat → Int32)} {t3_0 : Int32} {t3_1 : Int32} {t4_0 : (Nat → Int32)} {t5_0 : Int32} {t5_1 : Int32} {t6_0 : (Nat → Int32)} {t7_0 : Int32} {t7_1 : Int32} {t8_0 : (Nat → Int32)} {t9_0 : Int32} {t9_1 : Int32} {t10_0 : Int32} {t10_1 : Int32} {t11_0 : (Nat → Int32)} {t12_0 : Int32} {t12_1 : Int32} {t13_0 : Int32} {t13_1 : Int32} {t14_0 : (Nat → Int32)} {t15_0 : Int32} {t15_1 : Int32} {t16_0 : Int32} {t16_1 : Int32} {t17_0 : (Nat → Int32)}  : QK_divide (F_NH_divide x2 x3 x4 x5 x6 t0_0 t0_1 t1_0 t1_1 t2_0 t3_0 t3_1 t4_0 t5_0 t5_1 t6_0 t7_0 t7_1 t8_0 t9_0 t9_1 t10_0 t10_1 t11_0 t12_0 t12_1 t13_0 t13_1 t14_0 t15_0 t15_1 t16_0 t16_1 t17_0) := by
  unfold F_NH_divide
  by_cases g1 : ((F_NH_isRegister x2) : Int32) = (0 : Int32)
  ·
    rw [if_pos g1]
    exact K_NH_divide_J41
  ·
    rw [if_neg g1]
    by_cases g2 : ((F_NH_isRegister x3) : Int32) = (0 : Int32)
    ·
      rw [if_pos g2]
      exact K_NH_divide_J41
    ·
      rw [if_neg g2]
      by_cases g3 : ((F_NH_isRegister x4) : Int32) = (0 : Int32)
      ·
        rw [if_pos g3]
        exact K_NH_divide_J41
      ·
        rw [if_neg g3]
        by_cases g4 : ((F_NH_isMode x6) : Int32) = (0 : Int32)
        ·
          rw [if_pos g4]
          exact K_NH_divide_J41
        ·
          rw [if_neg g4]
          by_cases g5 : ((F_NH_isScale x5) : Int32) = (0 : Int32)
          ·
            rw [if_pos g5]
            exact K_NH_divide_J41
          ·
            rw [if_neg g5]
            exact K_NH_divide_J42
def QK_divide_ab (p : Int32 × Int64 × Int32 × Int32 × Int32 × (Nat → Int32) × Int32 × Int32 × (Nat → Int32) × Int32 × Int32 × (Nat → Int32) × Int32 × Int32 × (Nat → Int32) × Int32 × Int32 × (Nat → Int32) × Int32 × Int32 × Int32 × Int32 × (Nat → Int32)) : Prop := kC12 p.1
theorem K_NH_divide_ab_J65 {x2 : Int32} {x3 : Int32} {x4 : Int32} {x5 : Int32} {x6 : Int32} {t0_0 : Int64} {t0_1 : Int32} {t1_0 : Int32} {t1_1 : Int32} {t2_0 : (Nat → Int32)} {t3_0 : Int32} {t3_1 : Int32} {t4_0 : (Nat → Int32)} {t5_0 : Int32} {t5_1 : Int32} {t6_0 : (Nat → Int32)} {t7_0 : Int32} {t7_1 : Int32} {t8_0 : (Nat → Int32)} {t9_0 : Int32} {t9_1 : Int32} {t10_0 : Int32} {t10_1 : Int32} {t11_0 : (Nat → Int32)} {t12_0 : Int32} {t12_1 : Int32} {t13_0 : Int32} {t13_1 : Int32} {t14_0 : (Nat → Int32)} {lx70 : Int32} {lx109 : Int32}  : QK_divide_ab (F_NH_divide_ab_J65 x2 x3 x4 x5 x6 t0_0 t0_1 t1_0 t1_1 t2_0 t3_0 t3_1 t4_0 t5_0 t5_1 t6_0 t7_0 t7_1 t8_0 t9_0 t9_1 t10_0 t10_1 t11_0 t12_0 t12_1 t13_0 t13_1 t14_0 lx70 lx109) := by
  unfold F_NH_divide_ab_J65
  by_cases g1 : (F_NH_canHave lx109) = (0 : Int32)
  ·
    rw [if_pos g1]
    generalize F_DW_divideToScale_a (108 : Int32) x5 x6 t0_0 t0_1 t1_0 t1_1 t2_0 t3_0 t3_1 t4_0 t5_0 t5_1 t6_0 t9_0 t9_1 t10_0 t10_1 t11_0 = p204 at *
    unfold F_NH_divide_ab_c88
    by_cases g2 : (F_NH_canHave (p204.1 : Int32)) = (0 : Int32)
    ·
      rw [if_pos g2]
      have h3 := K_NH_keepDecimal (x2 := x4) (t0_0 := (p204.2.1 : Int64)) (t0_1 := (p204.2.2.1 : Int32)) (t1_0 := (p204.2.2.2.1 : Int32)) (t1_1 := (p204.2.2.2.2.1 : Int32)) (t2_0 := (p204.2.2.2.2.2.1 : (Nat → Int32))) (t3_0 := t7_0) (t3_1 := t7_1) (t4_0 := t8_0) (t5_0 := t12_0) (t5_1 := t12_1) (t6_0 := t13_0) (t6_1 := t13_1) (t7_0 := t14_0) 
      generalize F_NH_keepDecimal x4 (p204.2.1 : Int64) (p204.2.2.1 : Int32) (p204.2.2.2.1 : Int32) (p204.2.2.2.2.1 : Int32) (p204.2.2.2.2.2.1 : (Nat → Int32)) t7_0 t7_1 t8_0 t12_0 t12_1 t13_0 t13_1 t14_0 = p256 at *
      have kkp256 := (show kC2 p256.1 from h3).to12
      unfold F_NH_divide_ab_c96
      by_cases g4 : p256.1 = (0 : Int32)
      ·
        rw [if_pos g4]
        exact (show kC12 (0 : Int32) from Or.inl rfl)
      ·
        rw [if_neg g4]
        exact (show kC12 (p256.1) from kkp256)
    ·
      rw [if_neg g2]
      exact (show kC12 ((F_NH_canHave (p204.1 : Int32))) from (k_can _).to12)
  ·
    rw [if_neg g1]
    exact (show kC12 ((F_NH_canHave lx109)) from (k_can _).to12)
theorem K_NH_divide_ab_J42 {x2 : Int32} {x3 : Int32} {x4 : Int32} {x5 : Int32} {x6 : Int32} {t0_0 : Int64} {t0_1 : Int32} {t1_0 : Int32} {t1_1 : Int32} {t2_0 : (Nat → Int32)} {t3_0 : Int32} {t3_1 : Int32} {t4_0 : (Nat → Int32)} {t5_0 : Int32} {t5_1 : Int32} {t6_0 : (Nat → Int32)} {t7_0 : Int32} {t7_1 : Int32} {t8_0 : (Nat → Int32)} {t9_0 : Int32} {t9_1 : Int32} {t10_0 : Int32} {t10_1 : Int32} {t11_0 : (Nat → Int32)} {t12_0 : Int32} {t12_1 : Int32} {t13_0 : Int32} {t13_1 : Int32} {t14_0 : (Nat → Int32)} {lx70 : Int32}  : QK_divide_ab (F_NH_divide_ab_J42 x2 x3 x4 x5 x6 t0_0 t0_1 t1_0 t1_1 t2_0 t3_0 t3_1 t4_0 t5_0 t5_1 t6_0 t7_0 t7_1 t8_0 t9_0 t9_1 t10_0 t10_1 t11_0 t12_0 t12_1 t13_0 t13_1 t14_0 lx70) := by
  unfold F_NH_divide_ab_J42
  by_cases g1 : (F_NH_need lx70) = (0 : Int32)
  ·
    rw [if_pos g1]
    by_cases g2 : t10_0 ≤ (0 : Int32)
    ·
      rw [if_pos g2]
      exact K_NH_divide_ab_J65
    ·
      rw [if_neg g2]
      exact K_NH_divide_ab_J65
  ·
    rw [if_neg g1]
    exact (show kC12 ((F_NH_need lx70)) from (k_need _).to12)
theorem K_NH_divide_ab_J41 {x2 : Int32} {x3 : Int32} {x4 : Int32} {x5 : Int32} {x6 : Int32} {t0_0 : Int64} {t0_1 : Int32} {t1_0 : Int32} {t1_1 : Int32} {t2_0 : (Nat → Int32)} {t3_0 : Int32} {t3_1 : Int32} {t4_0 : (Nat → Int32)} {t5_0 : Int32} {t5_1 : Int32} {t6_0 : (Nat → Int32)} {t7_0 : Int32} {t7_1 : Int32} {t8_0 : (Nat → Int32)} {t9_0 : Int32} {t9_1 : Int32} {t10_0 : Int32} {t10_1 : Int32} {t11_0 : (Nat → Int32)} {t12_0 : Int32} {t12_1 : Int32} {t13_0 : Int32} {t13_1 : Int32} {t14_0 : (Nat → Int32)}  : QK_divide_ab (F_NH_divide_ab_J41 x2 x3 x4 x5 x6 t0_0 t0_1 t1_0 t1_1 t2_0 t3_0 t3_1 t4_0 t5_0 t5_1 t6_0 t7_0 t7_1 t8_0 t9_0 t9_1 t10_0 t10_1 t11_0 t12_0 t12_1 t13_0 t13_1 t14_0) := by
  unfold F_NH_divide_ab_J41
  exact K_NH_divide_ab_J42
theorem K_NH_divide_ab {x2 : Int32} {x3 : Int32} {x4 : Int32} {x5 : Int32} {x6 : Int32} {t0_0 : Int64} {t0_1 : Int32} {t1_0 : Int32} {t1_1 : Int32} {t2_0 : (Nat → Int32)} {t3_0 : Int32} {t3_1 : Int32} {t4_0 : (Nat → Int32)} {t5_0 : Int32} {t5_1 : Int32} {t6_0 : (Nat → Int32)} {t7_0 : Int32} {t7_1 : Int32} {t8_0 : (Nat → Int32)} {t9_0 : Int32} {t9_1 : Int32} {t10_0 : Int32} {t10_1 : Int32} {t11_0 : (Nat → Int32)} {t12_0 : Int32} {t12_1 : Int32} {t13_0 : Int32} {t13_1 : Int32} {t14_0 : (Nat → Int32)}  : QK_divide_ab (F_NH_divide_ab x2 x3 x4 x5 x6 t0_0 t0_1 t1_0 t1_1 t2_0 t3_0 t3_1 t4_0 t5_0 t5_1 t6_0 t7_0 t7_1 t8_0 t9_0 t9_1 t10_0 t10_1 t11_0 t12_0 t12_1 t13_0 t13_1 t14_0) := by
  unfold F_NH_divide_ab
  by_cases g1 : ((F_NH_isRegister x2) : Int32) = (0 : Int32)
  ·
    rw [if_pos g1]
    exact K_NH_divide_ab_J41
  ·
    rw [if_neg g1]
    by_cases g2 : ((F_NH_isRegister x3) : Int32) = (0 : Int32)
    ·
      rw [if_pos g2]
      exact K_NH_divide_ab_J41
    ·
      rw [if_neg g2]
      by_cases g3 : ((F_NH_isRegister x4) : Int32) = (0 : Int32)
      ·
        rw [if_pos g3]
        exact K_NH_divide_ab_J41
      ·
        rw [if_neg g3]
        by_cases g4 : ((F_NH_isMode x6) : Int32) = (0 : Int32)
        ·
          rw [if_pos g4]
          exact K_NH_divide_ab_J41
        ·
          rw [if_neg g4]
          by_cases g5 : ((F_NH_isScale x5) : Int32) = (0 : Int32)
          ·
            rw [if_pos g5]
            exact K_NH_divide_ab_J41
          ·
            rw [if_neg g5]
            exact K_NH_divide_ab_J42
def QK_divide_bt (p : Int32 × Int64 × Int32 × Int32 × Int32 × (Nat → Int32) × Int32 × Int32 × (Nat → Int32) × Int32 × Int32 × (Nat → Int32) × Int32 × Int32 × (Nat → Int32) × Int32 × Int32 × Int32 × Int32 × (Nat → Int32)) : Prop := kC12 p.1
theorem K_NH_divide_bt_J65 {x2 : Int32} {x3 : Int32} {x4 : Int32} {x5 : Int32} {x6 : Int32} {t0_0 : Int64} {t0_1 : Int32} {t1_0 : Int32} {t1_1 : Int32} {t2_0 : (Nat → Int32)} {t3_0 : Int32} {t3_1 : Int32} {t4_0 : (Nat → Int32)} {t5_0 : Int32} {t5_1 : Int32} {t6_0 : (Nat → Int32)} {t7_0 : Int32} {t7_1 : Int32} {t8_0 : (Nat → Int32)} {t9_0 : Int32} {t9_1 : Int32} {t10_0 : Int32} {t10_1 : Int32} {t11_0 : (Nat → Int32)} {t12_0 : Int32} {t12_1 : Int32} {t13_0 : Int32} {t13_1 : Int32} {t14_0 : (Nat → Int32)} {lx70 : Int32} {lx109 : Int32}  : QK_divide_bt (F_NH_divide_bt_J65 x2 x3 x4 x5 x6 t0_0 t0_1 t1_0 t1_1 t2_0 t3_0 t3_1 t4_0 t5_0 t5_1 t6_0 t7_0 t7_1 t8_0 t9_0 t9_1 t10_0 t10_1 t11_0 t12_0 t12_1 t13_0 t13_1 t14_0 lx70 lx109) := by
  unfold F_NH_divide_bt_J65
  by_cases g1 : (F_NH_canHave lx109) = (0 : Int32)
  ·
    rw [if_pos g1]
    generalize F_DW_divideToScale (108 : Int32) (108 : Int32) x5 x6 t0_0 t0_1 t1_0 t1_1 t2_0 t3_0 t3_1 t4_0 t5_0 t5_1 t6_0 t9_0 t9_1 t10_0 t10_1 t11_0 t12_0 t12_1 t13_0 t13_1 t14_0 = p207 at *
    unfold F_NH_divide_bt_c88
    by_cases g2 : (F_NH_canHave (p207.1 : Int32)) = (0 : Int32)
    ·
      rw [if_pos g2]
      have h3 := K_NH_keepDecimal (x2 := x4) (t0_0 := (p207.2.1 : Int64)) (t0_1 := (p207.2.2.1 : Int32)) (t1_0 := (p207.2.2.2.1 : Int32)) (t1_1 := (p207.2.2.2.2.1 : Int32)) (t2_0 := (p207.2.2.2.2.2.1 : (Nat → Int32))) (t3_0 := t7_0) (t3_1 := t7_1) (t4_0 := t8_0) (t5_0 := t12_0) (t5_1 := t12_1) (t6_0 := (p207.2.2.2.2.2.2.2.2.2.2.2.2.1 : Int32)) (t6_1 := (p207.2.2.2.2.2.2.2.2.2.2.2.2.2.1 : Int32)) (t7_0 := (p207.2.2.2.2.2.2.2.2.2.2.2.2.2.2 : (Nat → Int32))) 
      generalize F_NH_keepDecimal x4 (p207.2.1 : Int64) (p207.2.2.1 : Int32) (p207.2.2.2.1 : Int32) (p207.2.2.2.2.1 : Int32) (p207.2.2.2.2.2.1 : (Nat → Int32)) t7_0 t7_1 t8_0 t12_0 t12_1 (p207.2.2.2.2.2.2.2.2.2.2.2.2.1 : Int32) (p207.2.2.2.2.2.2.2.2.2.2.2.2.2.1 : Int32) (p207.2.2.2.2.2.2.2.2.2.2.2.2.2.2 : (Nat → Int32)) = p259 at *
      have kkp259 := (show kC2 p259.1 from h3).to12
      unfold F_NH_divide_bt_c96
      by_cases g4 : p259.1 = (0 : Int32)
      ·
        rw [if_pos g4]
        exact (show kC12 (0 : Int32) from Or.inl rfl)
      ·
        rw [if_neg g4]
        exact (show kC12 (p259.1) from kkp259)
    ·
      rw [if_neg g2]
      exact (show kC12 ((F_NH_canHave (p207.1 : Int32))) from (k_can _).to12)
  ·
    rw [if_neg g1]
    exact (show kC12 ((F_NH_canHave lx109)) from (k_can _).to12)
theorem K_NH_divide_bt_J42 {x2 : Int32} {x3 : Int32} {x4 : Int32} {x5 : Int32} {x6 : Int32} {t0_0 : Int64} {t0_1 : Int32} {t1_0 : Int32} {t1_1 : Int32} {t2_0 : (Nat → Int32)} {t3_0 : Int32} {t3_1 : Int32} {t4_0 : (Nat → Int32)} {t5_0 : Int32} {t5_1 : Int32} {t6_0 : (Nat → Int32)} {t7_0 : Int32} {t7_1 : Int32} {t8_0 : (Nat → Int32)} {t9_0 : Int32} {t9_1 : Int32} {t10_0 : Int32} {t10_1 : Int32} {t11_0 : (Nat → Int32)} {t12_0 : Int32} {t12_1 : Int32} {t13_0 : Int32} {t13_1 : Int32} {t14_0 : (Nat → Int32)} {lx70 : Int32}  : QK_divide_bt (F_NH_divide_bt_J42 x2 x3 x4 x5 x6 t0_0 t0_1 t1_0 t1_1 t2_0 t3_0 t3_1 t4_0 t5_0 t5_1 t6_0 t7_0 t7_1 t8_0 t9_0 t9_1 t10_0 t10_1 t11_0 t12_0 t12_1 t13_0 t13_1 t14_0 lx70) := by
  unfold F_NH_divide_bt_J42
  by_cases g1 : (F_NH_need lx70) = (0 : Int32)
  ·
    rw [if_pos g1]
    by_cases g2 : t13_0 ≤ (0 : Int32)
    ·
      rw [if_pos g2]
      exact K_NH_divide_bt_J65
    ·
      rw [if_neg g2]
      exact K_NH_divide_bt_J65
  ·
    rw [if_neg g1]
    exact (show kC12 ((F_NH_need lx70)) from (k_need _).to12)
theorem K_NH_divide_bt_J41 {x2 : Int32} {x3 : Int32} {x4 : Int32} {x5 : Int32} {x6 : Int32} {t0_0 : Int64} {t0_1 : Int32} {t1_0 : Int32} {t1_1 : Int32} {t2_0 : (Nat → Int32)} {t3_0 : Int32} {t3_1 : Int32} {t4_0 : (Nat → Int32)} {t5_0 : Int32} {t5_1 : Int32} {t6_0 : (Nat → Int32)} {t7_0 : Int32} {t7_1 : Int32} {t8_0 : (Nat → Int32)} {t9_0 : Int32} {t9_1 : Int32} {t10_0 : Int32} {t10_1 : Int32} {t11_0 : (Nat → Int32)} {t12_0 : Int32} {t12_1 : Int32} {t13_0 : Int32} {t13_1 : Int32} {t14_0 : (Nat → Int32)}  : QK_divide_bt (F_NH_divide_bt_J41 x2 x3 x4 x5 x6 t0_0 t0_1 t1_0 t1_1 t2_0 t3_0 t3_1 t4_0 t5_0 t5_1 t6_0 t7_0 t7_1 t8_0 t9_0 t9_1 t10_0 t10_1 t11_0 t12_0 t12_1 t13_0 t13_1 t14_0) := by
  unfold F_NH_divide_bt_J41
  exact K_NH_divide_bt_J42
theorem K_NH_divide_bt {x2 : Int32} {x3 : Int32} {x4 : Int32} {x5 : Int32} {x6 : Int32} {t0_0 : Int64} {t0_1 : Int32} {t1_0 : Int32} {t1_1 : Int32} {t2_0 : (Nat → Int32)} {t3_0 : Int32} {t3_1 : Int32} {t4_0 : (Nat → Int32)} {t5_0 : Int32} {t5_1 : Int32} {t6_0 : (Nat → Int32)} {t7_0 : Int32} {t7_1 : Int32} {t8_0 : (Nat → Int32)} {t9_0 : Int32} {t9_1 : Int32} {t10_0 : Int32} {t10_1 : Int32} {t11_0 : (Nat → Int32)} {t12_0 : Int32} {t12_1 : Int32} {t13_0 : Int32} {t13_1 : Int32} {t14_0 : (Nat → Int32)}  : QK_divide_bt (F_NH_divide_bt x2 x3 x4 x5 x6 t0_0 t0_1 t1_0 t1_1 t2_0 t3_0 t3_1 t4_0 t5_0 t5_1 t6_0 t7_0 t7_1 t8_0 t9_0 t9_1 t10_0 t10_1 t11_0 t12_0 t12_1 t13_0 t13_1 t14_0) := by
  unfold F_NH_divide_bt
  by_cases g1 : ((F_NH_isRegister x2) : Int32) = (0 : Int32)
  ·
    rw [if_pos g1]
    exact K_NH_divide_bt_J41
  ·
    rw [if_neg g1]
    by_cases g2 : ((F_NH_isRegister x3) : Int32) = (0 : Int32)
    ·
      rw [if_pos g2]
      exact K_NH_divide_bt_J41
    ·
      rw [if_neg g2]
      by_cases g3 : ((F_NH_isRegister x4) : Int32) = (0 : Int32)
      ·
        rw [if_pos g3]
        exact K_NH_divide_bt_J41
      ·
        rw [if_neg g3]
        by_cases g4 : ((F_NH_isMode x6) : Int32) = (0 : Int32)
        ·
          rw [if_pos g4]
          exact K_NH_divide_bt_J41
        ·
          rw [if_neg g4]
          by_cases g5 : ((F_NH_isScale x5) : Int32) = (0 : Int32)
          ·
            rw [if_pos g5]
            exact K_NH_divide_bt_J41
          ·
            rw [if_neg g5]
            exact K_NH_divide_bt_J42
def QK_divide_abt (p : Int32 × Int64 × Int32 × Int32 × Int32 × (Nat → Int32) × Int32 × Int32 × (Nat → Int32) × Int32 × Int32 × (Nat → Int32) × Int32 × Int32 × (Nat → Int32) × Int32 × Int32 × Int32 × Int32 × (Nat → Int32)) : Prop := kC12 p.1
theorem K_NH_divide_abt_J65 {x2 : Int32} {x3 : Int32} {x4 : Int32} {x5 : Int32} {x6 : Int32} {t0_0 : Int64} {t0_1 : Int32} {t1_0 : Int32} {t1_1 : Int32} {t2_0 : (Nat → Int32)} {t3_0 : Int32} {t3_1 : Int32} {t4_0 : (Nat → Int32)} {t5_0 : Int32} {t5_1 : Int32} {t6_0 : (Nat → Int32)} {t7_0 : Int32} {t7_1 : Int32} {t8_0 : (Nat → Int32)} {t9_0 : Int32} {t9_1 : Int32} {t10_0 : Int32} {t10_1 : Int32} {t11_0 : (Nat → Int32)} {lx57 : Int32} {lx93 : Int32}  : QK_divide_abt (F_NH_divide_abt_J65 x2 x3 x4 x5 x6 t0_0 t0_1 t1_0 t1_1 t2_0 t3_0 t3_1 t4_0 t5_0 t5_1 t6_0 t7_0 t7_1 t8_0 t9_0 t9_1 t10_0 t10_1 t11_0 lx57 lx93) := by
  unfold F_NH_divide_abt_J65
  by_cases g1 : (F_NH_canHave lx93) = (0 : Int32)
  ·
    rw [if_pos g1]
    generalize F_DW_divideToScale_a (108 : Int32) x5 x6 t0_0 t0_1 t1_0 t1_1 t2_0 t3_0 t3_1 t4_0 t5_0 t5_1 t6_0 t9_0 t9_1 t10_0 t10_1 t11_0 = p185 at *
    unfold F_NH_divide_abt_c88
    by_cases g2 : (F_NH_canHave (p185.1 : Int32)) = (0 : Int32)
    ·
      rw [if_pos g2]
      have h3 := K_NH_keepDecimal (x2 := x4) (t0_0 := (p185.2.1 : Int64)) (t0_1 := (p185.2.2.1 : Int32)) (t1_0 := (p185.2.2.2.1 : Int32)) (t1_1 := (p185.2.2.2.2.1 : Int32)) (t2_0 := (p185.2.2.2.2.2.1 : (Nat → Int32))) (t3_0 := t7_0) (t3_1 := t7_1) (t4_0 := t8_0) (t5_0 := t9_0) (t5_1 := t9_1) (t6_0 := (p185.2.2.2.2.2.2.2.2.2.2.2.2.1 : Int32)) (t6_1 := (p185.2.2.2.2.2.2.2.2.2.2.2.2.2.1 : Int32)) (t7_0 := (p185.2.2.2.2.2.2.2.2.2.2.2.2.2.2 : (Nat → Int32))) 
      generalize F_NH_keepDecimal x4 (p185.2.1 : Int64) (p185.2.2.1 : Int32) (p185.2.2.2.1 : Int32) (p185.2.2.2.2.1 : Int32) (p185.2.2.2.2.2.1 : (Nat → Int32)) t7_0 t7_1 t8_0 t9_0 t9_1 (p185.2.2.2.2.2.2.2.2.2.2.2.2.1 : Int32) (p185.2.2.2.2.2.2.2.2.2.2.2.2.2.1 : Int32) (p185.2.2.2.2.2.2.2.2.2.2.2.2.2.2 : (Nat → Int32)) = p237 at *
      have kkp237 := (show kC2 p237.1 from h3).to12
      unfold F_NH_divide_abt_c96
      by_cases g4 : p237.1 = (0 : Int32)
      ·
        rw [if_pos g4]
        exact (show kC12 (0 : Int32) from Or.inl rfl)
      ·
        rw [if_neg g4]
        exact (show kC12 (p237.1) from kkp237)
    ·
      rw [if_neg g2]
      exact (show kC12 ((F_NH_canHave (p185.1 : Int32))) from (k_can _).to12)
  ·
    rw [if_neg g1]
    exact (show kC12 ((F_NH_canHave lx93)) from (k_can _).to12)
theorem K_NH_divide_abt_J42 {x2 : Int32} {x3 : Int32} {x4 : Int32} {x5 : Int32} {x6 : Int32} {t0_0 : Int64} {t0_1 : Int32} {t1_0 : Int32} {t1_1 : Int32} {t2_0 : (Nat → Int32)} {t3_0 : Int32} {t3_1 : Int32} {t4_0 : (Nat → Int32)} {t5_0 : Int32} {t5_1 : Int32} {t6_0 : (Nat → Int32)} {t7_0 : Int32} {t7_1 : Int32} {t8_0 : (Nat → Int32)} {t9_0 : Int32} {t9_1 : Int32} {t10_0 : Int32} {t10_1 : Int32} {t11_0 : (Nat → Int32)} {lx57 : Int32}  : QK_divide_abt (F_NH_divide_abt_J42 x2 x3 x4 x5 x6 t0_0 t0_1 t1_0 t1_1 t2_0 t3_0 t3_1 t4_0 t5_0 t5_1 t6_0 t7_0 t7_1 t8_0 t9_0 t9_1 t10_0 t10_1 t11_0 lx57) := by
  unfold F_NH_divide_abt_J42
  by_cases g1 : (F_NH_need lx57) = (0 : Int32)
  ·
    rw [if_pos g1]
    by_cases g2 : t10_0 ≤ (0 : Int32)
    ·
      rw [if_pos g2]
      exact K_NH_divide_abt_J65
    ·
      rw [if_neg g2]
      exact K_NH_divide_abt_J65
  ·
    rw [if_neg g1]
    exact (show kC12 ((F_NH_need lx57)) from (k_need _).to12)
theorem K_NH_divide_abt_J41 {x2 : Int32} {x3 : Int32} {x4 : Int32} {x5 : Int32} {x6 : Int32} {t0_0 : Int64} {t0_1 : Int32} {t1_0 : Int32} {t1_1 : Int32} {t2_0 : (Nat → Int32)} {t3_0 : Int32} {t3_1 : Int32} {t4_0 : (Nat → Int32)} {t5_0 : Int32} {t5_1 : Int32} {t6_0 : (Nat → Int32)} {t7_0 : Int32} {t7_1 : Int32} {t8_0 : (Nat → Int32)} {t9_0 : Int32} {t9_1 : Int32} {t10_0 : Int32} {t10_1 : Int32} {t11_0 : (Nat → Int32)}  : QK_divide_abt (F_NH_divide_abt_J41 x2 x3 x4 x5 x6 t0_0 t0_1 t1_0 t1_1 t2_0 t3_0 t3_1 t4_0 t5_0 t5_1 t6_0 t7_0 t7_1 t8_0 t9_0 t9_1 t10_0 t10_1 t11_0) := by
  unfold F_NH_divide_abt_J41
  exact K_NH_divide_abt_J42
theorem K_NH_divide_abt {x2 : Int32} {x3 : Int32} {x4 : Int32} {x5 : Int32} {x6 : Int32} {t0_0 : Int64} {t0_1 : Int32} {t1_0 : Int32} {t1_1 : Int32} {t2_0 : (Nat → Int32)} {t3_0 : Int32} {t3_1 : Int32} {t4_0 : (Nat → Int32)} {t5_0 : Int32} {t5_1 : Int32} {t6_0 : (Nat → Int32)} {t7_0 : Int32} {t7_1 : Int32} {t8_0 : (Nat → Int32)} {t9_0 : Int32} {t9_1 : Int32} {t10_0 : Int32} {t10_1 : Int32} {t11_0 : (Nat → Int32)}  : QK_divide_abt (F_NH_divide_abt x2 x3 x4 x5 x6 t0_0 t0_1 t1_0 t1_1 t2_0 t3_0 t3_1 t4_0 t5_0 t5_1 t6_0 t7_0 t7_1 t8_0 t9_0 t9_1 t10_0 t10_1 t11_0) := by
  unfold F_NH_divide_abt
  by_cases g1 : ((F_NH_isRegister x2) : Int32) = (0 : Int32)
  ·
    rw [if_pos g1]
    exact K_NH_divide_abt_J41
  ·
    rw [if_neg g1]
    by_cases g2 : ((F_NH_isRegister x3) : Int32) = (0 : Int32)
    ·
      rw [if_pos g2]
      exact K_NH_divide_abt_J41
    ·
      rw [if_neg g2]
      by_cases g3 : ((F_NH_isRegister x4) : Int32) = (0 : Int32)
      ·
        rw [if_pos g3]
        exact K_NH_divide_abt_J41
      ·
        rw [if_neg g3]
        by_cases g4 : ((F_NH_isMode x6) : Int32) = (0 : Int32)
        ·
          rw [if_pos g4]
          exact K_NH_divide_abt_J41
        ·
          rw [if_neg g4]
          by_cases g5 : ((F_NH_isScale x5) : Int32) = (0 : Int32)
          ·
            rw [if_pos g5]
            exact K_NH_divide_abt_J41
          ·
            rw [if_neg g5]
            exact K_NH_divide_abt_J42
def QK_quotient (p : Int32 × Int64 × Int32 × Int32 × Int32 × (Nat → Int32) × Int32 × Int32 × (Nat → Int32) × Int32 × Int32 × (Nat → Int32) × Int32 × Int32 × (Nat → Int32) × Int32 × Int32 × (Nat → Int32) × Int32 × Int32 × Int32 × Int32 × (Nat → Int32)) : Prop := kC12 p.1
theorem K_NH_quotient_J78 {x2 : Int32} {x3 : Int32} {x4 : Int32} {x5 : Int32} {x6 : Int32} {t0_0 : Int64} {t0_1 : Int32} {t1_0 : Int32} {t1_1 : Int32} {t2_0 : (Nat → Int32)} {t3_0 : Int32} {t3_1 : Int32} {t4_0 : (Nat → Int32)} {t5_0 : Int32} {t5_1 : Int32} {t6_0 : (Nat → Int32)} {t7_0 : Int32} {t7_1 : Int32} {t8_0 : (Nat → Int32)} {t9_0 : Int32} {t9_1 : Int32} {t10_0 : Int32} {t10_1 : Int32} {t11_0 : (Nat → Int32)} {t12_0 : Int32} {t12_1 : Int32} {t13_0 : Int32} {t13_1 : Int32} {t14_0 : (Nat → Int32)} {t15_0 : Int32} {t15_1 : Int32} {t16_0 : Int32} {t16_1 : Int32} {t17_0 : (Nat → Int32)} {lx83 : Int32} {lx119 : Int32} {lx161 : Int32}  : QK_quotient (F_NH_quotient_J78 x2 x3 x4 x5 x6 t0_0 t0_1 t1_0 t1_1 t2_0 t3_0 t3_1 t4_0 t5_0 t5_1 t6_0 t7_0 t7_1 t8_0 t9_0 t9_1 t10_0 t10_1 t11_0 t12_0 t12_1 t13_0 t13_1 t14_0 t15_0 t15_1 t16_0 t16_1 t17_0 lx83 lx119 lx161) := by
  unfold F_NH_quotient_J78
  by_cases g1 : (F_NH_canHave lx161) = (0 : Int32)
  ·
    rw [if_pos g1]
    generalize F_DW_divideToPrecision (108 : Int32) (108 : Int32) x5 x6 t0_0 t0_1 t1_0 t1_1 t2_0 t3_0 t3_1 t4_0 t5_0 t5_1 t6_0 t7_0 t7_1 t8_0 t9_0 t9_1 t10_0 t10_1 t11_0 t12_0 t12_1 t13_0 t13_1 t14_0 = p270 at *
    unfold F_NH_quotient_c101
    by_cases g2 : (F_NH_canHave (p270.1 : Int32)) = (0 : Int32)
    ·
      rw [if_pos g2]
      have h3 := K_NH_keepDecimal (x2 := x4) (t0_0 := (p270.2.1 : Int64)) (t0_1 := (p270.2.2.1 : Int32)) (t1_0 := (p270.2.2.2.1 : Int32)) (t1_1 := (p270.2.2.2.2.1 : Int32)) (t2_0 := (p270.2.2.2.2.2.1 : (Nat → Int32))) (t3_0 := (p270.2.2.2.2.2.2.2.2.2.2.2.2.1 : Int32)) (t3_1 := (p270.2.2.2.2.2.2.2.2.2.2.2.2.2.1 : Int32)) (t4_0 := (p270.2.2.2.2.2.2.2.2.2.2.2.2.2.2.1 : (Nat → Int32))) (t5_0 := t15_0) (t5_1 := t15_1) (t6_0 := t16_0) (t6_1 := t16_1) (t7_0 := t17_0) 
      generalize F_NH_keepDecimal x4 (p270.2.1 : Int64) (p270.2.2.1 : Int32) (p270.2.2.2.1 : Int32) (p270.2.2.2.2.1 : Int32) (p270.2.2.2.2.2.1 : (Nat → Int32)) (p270.2.2.2.2.2.2.2.2.2.2.2.2.1 : Int32) (p270.2.2.2.2.2.2.2.2.2.2.2.2.2.1 : Int32) (p270.2.2.2.2.2.2.2.2.2.2.2.2.2.2.1 : (Nat → Int32)) t15_0 t15_1 t16_0 t16_1 t17_0 = p325 at *
      have kkp325 := (show kC2 p325.1 from h3).to12
      unfold F_NH_quotient_c109
      by_cases g4 : p325.1 = (0 : Int32)
      ·
        rw [if_pos g4]
        exact (show kC12 (0 : Int32) from Or.inl rfl)
      ·
        rw [if_neg g4]
        exact (show kC12 (p325.1) from kkp325)
    ·
      rw [if_neg g2]
      exact (show kC12 ((F_NH_canHave (p270.1 : Int32))) from (k_can _).to12)
  ·
    rw [if_neg g1]
    exact (show kC12 ((F_NH_canHave lx161)) from (k_can _).to12)
theorem K_NH_quotient_J55 {x2 : Int32} {x3 : Int32} {x4 : Int32} {x5 : Int32} {x6 : Int32} {t0_0 : Int64} {t0_1 : Int32} {t1_0 : Int32} {t1_1 : Int32} {t2_0 : (Nat → Int32)} {t3_0 : Int32} {t3_1 : Int32} {t4_0 : (Nat → Int32)} {t5_0 : Int32} {t5_1 : Int32} {t6_0 : (Nat → Int32)} {t7_0 : Int32} {t7_1 : Int32} {t8_0 : (Nat → Int32)} {t9_0 : Int32} {t9_1 : Int32} {t10_0 : Int32} {t10_1 : Int32} {t11_0 : (Nat → Int32)} {t12_0 : Int32} {t12_1 : Int32} {t13_0 : Int32} {t13_1 : Int32} {t14_0 : (Nat → Int32)} {t15_0 : Int32} {t15_1 : Int32} {t16_0 : Int32} {t16_1 : Int32} {t17_0 : (Nat → Int32)} {lx83 : Int32} {lx119 : Int32}  : QK_quotient (F_NH_quotient_J55 x2 x3 x4 x5 x6 t0_0 t0_1 t1_0 t1_1 t2_0 t3_0 t3_1 t4_0 t5_0 t5_1 t6_0 t7_0 t7_1 t8_0 t9_0 t9_1 t10_0 t10_1 t11_0 t12_0 t12_1 t13_0 t13_1 t14_0 t15_0 t15_1 t16_0 t16_1 t17_0 lx83 lx119) := by
  unfold F_NH_quotient_J55
  by_cases g1 : (F_NH_need lx119) = (0 : Int32)
  ·
    rw [if_pos g1]
    by_cases g2 : t13_0 ≤ (0 : Int32)
    ·
      rw [if_pos g2]
      exact K_NH_quotient_J78
    ·
      rw [if_neg g2]
      exact K_NH_quotient_J78
  ·
    rw [if_neg g1]
    exact (show kC12 ((F_NH_need lx119)) from (k_need _).to12)
theorem K_NH_quotient_J54 {x2 : Int32} {x3 : Int32} {x4 : Int32} {x5 : Int32} {x6 : Int32} {t0_0 : Int64} {t0_1 : Int32} {t1_0 : Int32} {t1_1 : Int32} {t2_0 : (Nat → Int32)} {t3_0 : Int32} {t3_1 : Int32} {t4_0 : (Nat → Int32)} {t5_0 : Int32} {t5_1 : Int32} {t6_0 : (Nat → Int32)} {t7_0 : Int32} {t7_1 : Int32} {t8_0 : (Nat → Int32)} {t9_0 : Int32} {t9_1 : Int32} {t10_0 : Int32} {t10_1 : Int32} {t11_0 : (Nat → Int32)} {t12_0 : Int32} {t12_1 : Int32} {t13_0 : Int32} {t13_1 : Int32} {t14_0 : (Nat → Int32)} {t15_0 : Int32} {t15_1 : Int32} {t16_0 : Int32} {t16_1 : Int32} {t17_0 : (Nat → Int32)} {lx83 : Int32}  : QK_quotient (F_NH_quotient_J54 x2 x3 x4 x5 x6 t0_0 t0_1 t1_0 t1_1 t2_0 t3_0 t3_1 t4_0 t5_0 t5_1 t6_0 t7_0 t7_1 t8_0 t9_0 t9_1 t10_0 t10_1 t11_0 t12_0 t12_1 t13_0 t13_1 t14_0 t15_0 t15_1 t16_0 t16_1 t17_0 lx83) := by
  unfold F_NH_quotient_J54
  exact K_NH_quotient_J55
theorem K_NH_quotient_J34 {x2 : Int32} {x3 : Int32} {x4 : Int32} {x5 : Int32} {x6 : Int32} {t0_0 : Int64} {t0_1 : Int32} {t1_0 : Int32} {t1_1 : Int32} {t2_0 : (Nat → Int32)} {t3_0 : Int32} {t3_1 : Int32} {t4_0 : (Nat → Int32)} {t5_0 : Int32} {t5_1 : Int32} {t6_0 : (Nat → Int32)} {t7_0 : Int32} {t7_1 : Int32} {t8_0 : (Nat → Int32)} {t9_0 : Int32} {t9_1 : Int32} {t10_0 : Int32} {t10_1 : Int32} {t11_0 : (Nat → Int32)} {t12_0 : Int32} {t12_1 : Int32} {t13_0 : Int32} {t13_1 : Int32} {t14_0 : (Nat → Int32)} {t15_0 : Int32} {t15_1 : Int32} {t16_0 : Int32} {t16_1 : Int32} {t17_0 : (Nat → Int32)} {lx83 : Int32}  : QK_quotient (F_NH_quotient_J34 x2 x3 x4 x5 x6 t0_0 t0_1 t1_0 t1_1 t2_0 t3_0 t3_1 t4_0 t5_0 t5_1 t6_0 t7_0 t7_1 t8_0 t9_0 t9_1 t10_0 t10_1 t11_0 t12_0 t12_1 t13_0 t13_1 t14_0 t15_0 t15_1 t16_0 t16_1 t17_0 lx83) := by
  unfold F_NH_quotient_J34
  by_cases g1 : (F_NH_need lx83) = (0 : Int32)
  ·
    rw [if_pos g1]
    by_cases g2 : x5 < (0 : Int32)
    ·
      rw [if_pos g2]
      exact K_NH_quotient_J54
    ·
      rw [if_neg g2]
      by_cases g3 : (1000 : Int32) < x5
      ·
        rw [if_pos g3]
        exact K_NH_quotient_J54
      ·
        rw [if_neg g3]
        exact K_NH_quotient_J55
  ·
    rw [if_neg g1]
    exact (show kC12 ((F_NH_need lx83)) from (k_need _).to12)
theorem K_NH_quotient_J33 {x2 : Int32} {x3 : Int32} {x4 : Int32} {x5 : Int32} {x6 : Int32} {t0_0 : Int64} {t0_1 : Int32} {t1_0 : Int32} {t1_1 : Int32} {t2_0 : (Nat → Int32)} {t3_0 : Int32} {t3_1 : Int32} {t4_0 : (Nat → Int32)} {t5_0 : Int32} {t5_1 : Int32} {t6_0 : (Nat → Int32)} {t7_0 : Int32} {t7_1 : Int32} {t8_0 : (Nat → Int32)} {t9_0 : Int32} {t9_1 : Int32} {t10_0 : Int32} {t10_1 : Int32} {t11_0 : (Nat → Int32)} {t12_0 : Int32} {t12_1 : Int32} {t13_0 : Int32} {t13_1 : Int32} {t14_0 : (Nat → Int32)} {t15_0 : Int32} {t15_1 : Int32} {t16_0 : Int32} {t16_1 : Int32} {t17_0 : (Nat → Int32)}  : QK_quotient (F_NH_quotient_J33 x2 x3 x4 x5 x6 t0_0 t0_1 t1_0 t1_1 t2_0 t3_0 t3_1 t4_0 t5_0 t5_1 t6_0 t7_0 t7_1 t8_0 t9_0 t9_1 t10_0 t10_1 t11_0 t12_0 t12_1 t13_0 t13_1 t14_0 t15_0 t15_1 t16_0 t16_1 t17_0) := by
  unfold F_NH_quotient_J33
  exact K_NH_quotient_J34
theorem K_NH_quotient {x2 : Int32} {x3 : Int32} {x4 : Int32} {x5 : Int32} {x6 : Int32} {t0_0 : Int64} {t0_1 : Int32} {t1_0 : Int32} {t1_1 : Int32} {t2_0 : (Nat → Int32)} {t3_0 : Int32} {t3_1 : Int32} {t4_0 : (Nat → Int32)} {t5_0 : Int32} {t5_1 : Int32} {t6_0 : (Nat → Int32)} {t7_0 : Int32} {t7_1 : Int32} {t8_0 : (Nat → Int32)} {t9_0 : Int32} {t9_1 : Int32} {t10_0 : Int32} {t10_1 : Int32} {t11_0 : (Nat → Int32)} {t12_0 : Int32} {t12_1 : Int32} {t13_0 : Int32} {t13_1 : Int32} {t14_0 : (Nat → Int32)} {t15_0 : Int32} {t15_1 : Int32} {t16_0 : Int32} {t16_1 : Int32} {t17_0 : (Nat → Int32)}  : QK_quotient (F_NH_quotient x2 x3 x4 x5 x6 t0_0 t0_1 t1_0 t1_1 t2_0 t3_0 t3_1 t4_0 t5_0 t5_1 t6_0 t7_0 t7_1 t8_0 t9_0 t9_1 t10_0 t10_1 t11_0 t12_0 t12_1 t13_0 t13_1 t14_0 t15_0 t15_1 t16_0 t16_1 t17_0) := by
  unfold F_NH_quotient
  by_cases g1 : ((F_NH_isRegister x2) : Int32) = (0 : Int32)
  ·
    rw [if_pos g1]
    exact K_NH_quotient_J33
  ·
    rw [if_neg g1]
    by_cases g2 : ((F_NH_isRegister x3) : Int32) = (0 : Int32)
    ·
      rw [if_pos g2]
      exact K_NH_quotient_J33
    ·
      rw [if_neg g2]
      by_cases g3 : ((F_NH_isRegister x4) : Int32) = (0 : Int32)
      ·
        rw [if_pos g3]
        exact K_NH_quotient_J33
      ·
        rw [if_neg g3]
        by_cases g4 : ((F_NH_isMode x6) : Int32) = (0 : Int32)
        ·
          rw [if_pos g4]
          exact K_NH_quotient_J33
        ·
          rw [if_neg g4]
          exact K_NH_quotient_J34
def QK_quotient_ab (p : Int32 × Int64 × Int32 × Int32 × Int32 × (Nat → Int32) × Int32 × Int32 × (Nat → Int32) × Int32 × Int32 × (Nat → Int32) × Int32 × Int32 × (Nat → Int32) × Int32 × Int32 × (Nat → Int32) × Int32 × Int32 × Int32 × Int32 × (Nat → Int32)) : Prop := kC12 p.1
theorem K_NH_quotient_ab_J78 {x2 : Int32} {x3 : Int32} {x4 : Int32} {x5 : Int32} {x6 : Int32} {t0_0 : Int64} {t0_1 : Int32} {t1_0 : Int32} {t1_1 : Int32} {t2_0 : (Nat → Int32)} {t3_0 : Int32} {t3_1 : Int32} {t4_0 : (Nat → Int32)} {t5_0 : Int32} {t5_1 : Int32} {t6_0 : (Nat → Int32)} {t7_0 : Int32} {t7_1 : Int32} {t8_0 : (Nat → Int32)} {t9_0 : Int32} {t9_1 : Int32} {t10_0 : Int32} {t10_1 : Int32} {t11_0 : (Nat → Int32)} {t12_0 : Int32} {t12_1 : Int32} {t13_0 : Int32} {t13_1 : Int32} {t14_0 : (Nat → Int32)} {lx70 : Int32} {lx103 : Int32} {lx142 : Int32}  : QK_quotient_ab (F_NH_quotient_ab_J78 x2 x3 x4 x5 x6 t0_0 t0_1 t1_0 t1_1 t2_0 t3_0 t3_1 t4_0 t5_0 t5_1 t6_0 t7_0 t7_1 t8_0 t9_0 t9_1 t10_0 t10_1 t11_0 t12_0 t12_1 t13_0 t13_1 t14_0 lx70 lx103 lx142) := by
  unfold F_NH_quotient_ab_J78
  by_cases g1 : (F_NH_canHave lx142) = (0 : Int32)
  ·
    rw [if_pos g1]
    generalize F_DW_divideToPrecision_a (108 : Int32) x5 x6 t0_0 t0_1 t1_0 t1_1 t2_0 t3_0 t3_1 t4_0 t5_0 t5_1 t6_0 t7_0 t7_1 t8_0 t9_0 t9_1 t10_0 t10_1 t11_0 = p248 at *
    unfold F_NH_quotient_ab_c101
    by_cases g2 : (F_NH_canHave (p248.1 : Int32)) = (0 : Int32)
    ·
      rw [if_pos g2]
      have h3 := K_NH_keepDecimal (x2 := x4) (t0_0 := (p248.2.1 : Int64)) (t0_1 := (p248.2.2.1 : Int32)) (t1_0 := (p248.2.2.2.1 : Int32)) (t1_1 := (p248.2.2.2.2.1 : Int32)) (t2_0 := (p248.2.2.2.2.2.1 : (Nat → Int32))) (t3_0 := (p248.2.2.2.2.2.2.2.2.2.2.2.2.1 : Int32)) (t3_1 := (p248.2.2.2.2.2.2.2.2.2.2.2.2.2.1 : Int32)) (t4_0 := (p248.2.2.2.2.2.2.2.2.2.2.2.2.2.2.1 : (Nat → Int32))) (t5_0 := t12_0) (t5_1 := t12_1) (t6_0 := t13_0) (t6_1 := t13_1) (t7_0 := t14_0) 
      generalize F_NH_keepDecimal x4 (p248.2.1 : Int64) (p248.2.2.1 : Int32) (p248.2.2.2.1 : Int32) (p248.2.2.2.2.1 : Int32) (p248.2.2.2.2.2.1 : (Nat → Int32)) (p248.2.2.2.2.2.2.2.2.2.2.2.2.1 : Int32) (p248.2.2.2.2.2.2.2.2.2.2.2.2.2.1 : Int32) (p248.2.2.2.2.2.2.2.2.2.2.2.2.2.2.1 : (Nat → Int32)) t12_0 t12_1 t13_0 t13_1 t14_0 = p303 at *
      have kkp303 := (show kC2 p303.1 from h3).to12
      unfold F_NH_quotient_ab_c109
      by_cases g4 : p303.1 = (0 : Int32)
      ·
        rw [if_pos g4]
        exact (show kC12 (0 : Int32) from Or.inl rfl)
      ·
        rw [if_neg g4]
        exact (show kC12 (p303.1) from kkp303)
    ·
      rw [if_neg g2]
      exact (show kC12 ((F_NH_canHave (p248.1 : Int32))) from (k_can _).to12)
  ·
    rw [if_neg g1]
    exact (show kC12 ((F_NH_canHave lx142)) from (k_can _).to12)
theorem K_NH_quotient_ab_J55 {x2 : Int32} {x3 : Int32} {x4 : Int32} {x5 : Int32} {x6 : Int32} {t0_0 : Int64} {t0_1 : Int32} {t1_0 : Int32} {t1_1 : Int32} {t2_0 : (Nat → Int32)} {t3_0 : Int32} {t3_1 : Int32} {t4_0 : (Nat → Int32)} {t5_0 : Int32} {t5_1 : Int32} {t6_0 : (Nat → Int32)} {t7_0 : Int32} {t7_1 : Int32} {t8_0 : (Nat → Int32)} {t9_0 : Int32} {t9_1 : Int32} {t10_0 : Int32} {t10_1 : Int32} {t11_0 : (Nat → Int32)} {t12_0 : Int32} {t12_1 : Int32} {t13_0 : Int32} {t13_1 : Int32} {t14_0 : (Nat → Int32)} {lx70 : Int32} {lx103 : Int32}  : QK_quotient_ab (F_NH_quotient_ab_J55 x2 x3 x4 x5 x6 t0_0 t0_1 t1_0 t1_1 t2_0 t3_0 t3_1 t4_0 t5_0 t5_1 t6_0 t7_0 t7_1 t8_0 t9_0 t9_1 t10_0 t10_1 t11_0 t12_0 t12_1 t13_0 t13_1 t14_0 lx70 lx103) := by
  unfold F_NH_quotient_ab_J55
  by_cases g1 : (F_NH_need lx103) = (0 : Int32)
  ·
    rw [if_pos g1]
    by_cases g2 : t10_0 ≤ (0 : Int32)
    ·
      rw [if_pos g2]
      exact K_NH_quotient_ab_J78
    ·
      rw [if_neg g2]
      exact K_NH_quotient_ab_J78
  ·
    rw [if_neg g1]
    exact (show kC12 ((F_NH_need lx103)) from (k_need _).to12)
theorem K_NH_quotient_ab_J54 {x2 : Int32} {x3 : Int32} {x4 : Int32} {x5 : Int32} {x6 : Int32} {t0_0 : Int64} {t0_1 : Int32} {t1_0 : Int32} {t1_1 : Int32} {t2_0 : (Nat → Int32)} {t3_0 : Int32} {t3_1 : Int32} {t4_0 : (Nat → Int32)} {t5_0 : Int32} {t5_1 : Int32} {t6_0 : (Nat → Int32)} {t7_0 : Int32} {t7_1 : Int32} {t8_0 : (Nat → Int32)} {t9_0 : Int32} {t9_1 : Int32} {t10_0 : Int32} {t10_1 : Int32} {t11_0 : (Nat → Int32)} {t12_0 : Int32} {t12_1 : Int32} {t13_0 : Int32} {t13_1 : Int32} {t14_0 : (Nat → Int32)} {lx70 : Int32}  : QK_quotient_ab (F_NH_quotient_ab_J54 x2 x3 x4 x5 x6 t0_0 t0_1 t1_0 t1_1 t2_0 t3_0 t3_1 t4_0 t5_0 t5_1 t6_0 t7_0 t7_1 t8_0 t9_0 t9_1 t10_0 t10_1 t11_0 t12_0 t12_1 t13_0 t13_1 t14_0 lx70) := by
  unfold F_NH_quotient_ab_J54
  exact K_NH_quotient_ab_J55
theorem K_NH_quotient_ab_J34 {x2 : Int32} {x3 : Int32} {x4 : Int32} {x5 : Int32} {x6 : Int32} {t0_0 : Int64} {t0_1 : Int32} {t1_0 : Int32} {t1_1 : Int32} {t2_0 : (Nat → Int32)} {t3_0 : Int32} {t3_1 : Int32} {t4_0 : (Nat → Int32)} {t5_0 : Int32} {t5_1 : Int32} {t6_0 : (Nat → Int32)} {t7_0 : Int32} {t7_1 : Int32} {t8_0 : (Nat → Int32)} {t9_0 : Int32} {t9_1 : Int32} {t10_0 : Int32} {t10_1 : Int32} {t11_0 : (Nat → Int32)} {t12_0 : Int32} {t12_1 : Int32} {t13_0 : Int32} {t13_1 : Int32} {t14_0 : (Nat → Int32)} {lx70 : Int32}  : QK_quotient_ab (F_NH_quotient_ab_J34 x2 x3 x4 x5 x6 t0_0 t0_1 t1_0 t1_1 t2_0 t3_0 t3_1 t4_0 t5_0 t5_1 t6_0 t7_0 t7_1 t8_0 t9_0 t9_1 t10_0 t10_1 t11_0 t12_0 t12_1 t13_0 t13_1 t14_0 lx70) := by
  unfold F_NH_quotient_ab_J34
  by_cases g1 : (F_NH_need lx70) = (0 : Int32)
  ·
    rw [if_pos g1]
    by_cases g2 : x5 < (0 : Int32)
    ·
      rw [if_pos g2]
      exact K_NH_quotient_ab_J54
    ·
      rw [if_neg g2]
      by_cases g3 : (1000 : Int32) < x5
      ·
        rw [if_pos g3]
        exact K_NH_quotient_ab_J54
      ·
        rw [if_neg g3]
        exact K_NH_quotient_ab_J55
  ·
    rw [if_neg g1]
    exact (show kC12 ((F_NH_need lx70)) from (k_need _).to12)
theorem K_NH_quotient_ab_J33 {x2 : Int32} {x3 : Int32} {x4 : Int32} {x5 : Int32} {x6 : Int32} {t0_0 : Int64} {t0_1 : Int32} {t1_0 : Int32} {t1_1 : Int32} {t2_0 : (Nat → Int32)} {t3_0 : Int32} {t3_1 : Int32} {t4_0 : (Nat → Int32)} {t5_0 : Int32} {t5_1 : Int32} {t6_0 : (Nat → Int32)} {t7_0 : Int32} {t7_1 : Int32} {t8_0 : (Nat → Int32)} {t9_0 : Int32} {t9_1 : Int32} {t10_0 : Int32} {t10_1 : Int32} {t11_0 : (Nat → Int32)} {t12_0 : Int32} {t12_1 : Int32} {t13_0 : Int32} {t13_1 : Int32} {t14_0 : (Nat → Int32)}  : QK_quotient_ab (F_NH_quotient_ab_J33 x2 x3 x4 x5 x6 t0_0 t0_1 t1_0 t1_1 t2_0 t3_0 t3_1 t4_0 t5_0 t5_1 t6_0 t7_0 t7_1 t8_0 t9_0 t9_1 t10_0 t10_1 t11_0 t12_0 t12_1 t13_0 t13_1 t14_0) := by
  unfold F_NH_quotient_ab_J33
  exact K_NH_quotient_ab_J34
theorem K_NH_quotient_ab {x2 : Int32} {x3 : Int32} {x4 : Int32} {x5 : Int32} {x6 : Int32} {t0_0 : Int64} {t0_1 : Int32} {t1_0 : Int32} {t1_1 : Int32} {t2_0 : (Nat → Int32)} {t3_0 : Int32} {t3_1 : Int32} {t4_0 : (Nat → Int32)} {t5_0 : Int32} {t5_1 : Int32} {t6_0 : (Nat → Int32)} {t7_0 : Int32} {t7_1 : Int32} {t8_0 : (Nat → Int32)} {t9_0 : Int32} {t9_1 : Int32} {t10_0 : Int32} {t10_1 : Int32} {t11_0 : (Nat → Int32)} {t12_0 : Int32} {t12_1 : Int32} {t13_0 : Int32} {t13_1 : Int32} {t14_0 : (Nat → Int32)}  : QK_quotient_ab (F_NH_quotient_ab x2 x3 x4 x5 x6 t0_0 t0_1 t1_0 t1_1 t2_0 t3_0 t3_1 t4_0 t5_0 t5_1 t6_0 t7_0 t7_1 t8_0 t9_0 t9_1 t10_0 t10_1 t11_0 t12_0 t12_1 t13_0 t13_1 t14_0) := by
  unfold F_NH_quotient_ab
  by_cases g1 : ((F_NH_isRegister x2) : Int32) = (0 : Int32)
  ·
    rw [if_pos g1]
    exact K_NH_quotient_ab_J33
  ·
    rw [if_neg g1]
    by_cases g2 : ((F_NH_isRegister x3) : Int32) = (0 : Int32)
    ·
      rw [if_pos g2]
      exact K_NH_quotient_ab_J33
    ·
      rw [if_neg g2]
      by_cases g3 : ((F_NH_isRegister x4) : Int32) = (0 : Int32)
      ·
        rw [if_pos g3]
        exact K_NH_quotient_ab_J33
      ·
        rw [if_neg g3]
        by_cases g4 : ((F_NH_isMode x6) : Int32) = (0 : Int32)
        ·
          rw [if_pos g4]
          exact K_NH_quotient_ab_J33
        ·
          rw [if_neg g4]
          exact K_NH_quotient_ab_J34
def QK_quotient_bt (p : Int32 × Int64 × Int32 × Int32 × Int32 × (Nat → Int32) × Int32 × Int32 × (Nat → Int32) × Int32 × Int32 × (Nat → Int32) × Int32 × Int32 × (Nat → Int32) × Int32 × Int32 × Int32 × Int32 × (Nat → Int32)) : Prop := kC12 p.1
theorem K_NH_quotient_bt_J78 {x2 : Int32} {x3 : Int32} {x4 : Int32} {x5 : Int32} {x6 : Int32} {t0_0 : Int64} {t0_1 : Int32} {t1_0 : Int32} {t1_1 : Int32} {t2_0 : (Nat → Int32)} {t3_0 : Int32} {t3_1 : Int32} {t4_0 : (Nat → Int32)} {t5_0 : Int32} {t5_1 : Int32} {t6_0 : (Nat → Int32)} {t7_0 : Int32} {t7_1 : Int32} {t8_0 : (Nat → Int32)} {t9_0 : Int32} {t9_1 : Int32} {t10_0 : Int32} {t10_1 : Int32} {t11_0 : (Nat → Int32)} {t12_0 : Int32} {t12_1 : Int32} {t13_0 : Int32} {t13_1 : Int32} {t14_0 : (Nat → Int32)} {lx70 : Int32} {lx103 : Int32} {lx142 : Int32}  : QK_quotient_bt (F_NH_quotient_bt_J78 x2 x3 x4 x5 x6 t0_0 t0_1 t1_0 t1_1 t2_0 t3_0 t3_1 t4_0 t5_0 t5_1 t6_0 t7_0 t7_1 t8_0 t9_0 t9_1 t10_0 t10_1 t11_0 t12_0 t12_1 t13_0 t13_1 t14_0 lx70 lx103 lx142) := by
  unfold F_NH_quotient_bt_J78
  by_cases g1 : (F_NH_canHave lx142) = (0 : Int32)
  ·
    rw [if_pos g1]
    generalize F_DW_divideToPrecision (108 : Int32) (108 : Int32) x5 x6 t0_0 t0_1 t1_0 t1_1 t2_0 t3_0 t3_1 t4_0 t5_0 t5_1 t6_0 t7_0 t7_1 t8_0 t9_0 t9_1 t10_0 t10_1 t11_0 t12_0 t12_1 t13_0 t13_1 t14_0 = p248 at *
    unfold F_NH_quotient_bt_c101
    by_cases g2 : (F_NH_canHave (p248.1 : Int32)) = (0 : Int32)
    ·
      rw [if_pos g2]
      have h3 := K_NH_keepDecimal (x2 := x4) (t0_0 := (p248.2.1 : Int64)) (t0_1 := (p248.2.2.1 : Int32)) (t1_0 := (p248.2.2.2.1 : Int32)) (t1_1 := (p248.2.2.2.2.1 : Int32)) (t2_0 := (p248.2.2.2.2.2.1 : (Nat → Int32))) (t3_0 := (p248.2.2.2.2.2.2.2.2.2.2.2.2.1 : Int32)) (t3_1 := (p248.2.2.2.2.2.2.2.2.2.2.2.2.2.1 : Int32)) (t4_0 := (p248.2.2.2.2.2.2.2.2.2.2.2.2.2.2.1 : (Nat → Int32))) (t5_0 := t12_0) (t5_1 := t12_1) (t6_0 := (p248.2.2.2.2.2.2.2.2.2.2.2.2.2.2.2.1 : Int32)) (t6_1 := (p248.2.2.2.2.2.2.2.2.2.2.2.2.2.2.2.2.1 : Int32)) (t7_0 := (p248.2.2.2.2.2.2.2.2.2.2.2.2.2.2.2.2.2 : (Nat → Int32))) 
      generalize F_NH_keepDecimal x4 (p248.2.1 : Int64) (p248.2.2.1 : Int32) (p248.2.2.2.1 : Int32) (p248.2.2.2.2.1 : Int32) (p248.2.2.2.2.2.1 : (Nat → Int32)) (p248.2.2.2.2.2.2.2.2.2.2.2.2.1 : Int32) (p248.2.2.2.2.2.2.2.2.2.2.2.2.2.1 : Int32) (p248.2.2.2.2.2.2.2.2.2.2.2.2.2.2.1 : (Nat → Int32)) t12_0 t12_1 (p248.2.2.2.2.2.2.2.2.2.2.2.2.2.2.2.1 : Int32) (p248.2.2.2.2.2.2.2.2.2.2.2.2.2.2.2.2.1 : Int32) (p248.2.2.2.2.2.2.2.2.2.2.2.2.2.2.2.2.2 : (Nat → Int32)) = p303 at *
      have kkp303 := (show kC2 p303.1 from h3).to12
      unfold F_NH_quotient_bt_c109
      by_cases g4 : p303.1 = (0 : Int32)
      ·
        rw [if_pos g4]
        exact (show kC12 (0 : Int32) from Or.inl rfl)
      ·
        rw [if_neg g4]
        exact (show kC12 (p303.1) from kkp303)
    ·
      rw [if_neg g2]
      exact (show kC12 ((F_NH_canHave (p248.1 : Int32))) from (k_can _).to12)
  ·
    rw [if_neg g1]
    exact (show kC12 ((F_NH_canHave lx142)) from (k_can _).to12)
theorem K_NH_quotient_bt_J55 {x2 : Int32} {x3 : Int32} {x4 : Int32} {x5 : Int32} {x6 : Int32} {t0_0 : Int64} {t0_1 : Int32} {t1_0 : Int32} {t1_1 : Int32} {t2_0 : (Nat → Int32)} {t3_0 : Int32} {t3_1 : Int32} {t4_0 : (Nat → Int32)} {t5_0 : Int32} {t5_1 : Int32} {t6_0 : (Nat → Int32)} {t7_0 : Int32} {t7_1 : Int32} {t8_0 : (Nat → Int32)} {t9_0 : Int32} {t9_1 : Int32} {t10_0 : Int32} {t10_1 : Int32} {t11_0 : (Nat → Int32)} {t12_0 : Int32} {t12_1 : Int32} {t13_0 : Int32} {t13_1 : Int32} {t14_0 : (Nat → Int32)} {lx70 : Int32} {lx103 : Int32}  : QK_quotient_bt (F_NH_quotient_bt_J55 x2 x3 x4 x5 x6 t0_0 t0_1 t1_0 t1_1 t2_0 t3_0 t3_1 t4_0 t5_0 t5_1 t6_0 t7_0 t7_1 t8_0 t9_0 t9_1 t10_0 t10_1 t11_0 t12_0 t12_1 t13_0 t13_1 t14_0 lx70 lx103) := by
  unfold F_NH_quotient_bt_J55
  by_cases g1 : (F_NH_need lx103) = (0 : Int32)
  ·
    rw [if_pos g1]
    by_cases g2 : t13_0 ≤ (0 : Int32)
    ·
      rw [if_pos g2]
      exact K_NH_quotient_bt_J78
    ·
      rw [if_neg g2]
      exact K_NH_quotient_bt_J78
  ·
    rw [if_neg g1]
    exact (show kC12 ((F_NH_need lx103)) from (k_need _).to12)
theorem K_NH_quotient_bt_J54 {x2 : Int32} {x3 : Int32} {x4 : Int32} {x5 : Int32} {x6 : Int32} {t0_0 : Int64} {t0_1 : Int32} {t1_0 : Int32} {t1_1 : Int32} {t2_0 : (Nat → Int32)} {t3_0 : Int32} {t3_1 : Int32} {t4_0 : (Nat → Int32)} {t5_0 : Int32} {t5_1 : Int32} {t6_0 : (Nat → Int32)} {t7_0 : Int32} {t7_1 : Int32} {t8_0 : (Nat → Int32)} {t9_0 : Int32} {t9_1 : Int32} {t10_0 : Int32} {t10_1 : Int32} {t11_0 : (Nat → Int32)} {t12_0 : Int32} {t12_1 : Int32} {t13_0 : Int32} {t13_1 : Int32} {t14_0 : (Nat → Int32)} {lx70 : Int32}  : QK_quotient_bt (F_NH_quotient_bt_J54 x2 x3 x4 x5 x6 t0_0 t0_1 t1_0 t1_1 t2_0 t3_0 t3_1 t4_0 t5_0 t5_1 t6_0 t7_0 t7_1 t8_0 t9_0 t9_1 t10_0 t10_1 t11_0 t12_0 t12_1 t13_0 t13_1 t14_0 lx70) := by
  unfold F_NH_quotient_bt_J54
  exact K_NH_quotient_bt_J55
theorem K_NH_quotient_bt_J34 {x2 : Int32} {x3 : Int32} {x4 : Int32} {x5 : Int32} {x6 : Int32} {t0_0 : Int64} {t0_1 : Int32} {t1_0 : Int32} {t1_1 : Int32} {t2_0 : (Nat → Int32)} {t3_0 : Int32} {t3_1 : Int32} {t4_0 : (Nat → Int32)} {t5_0 : Int32} {t5_1 : Int32} {t6_0 : (Nat → Int32)} {t7_0 : Int32} {t7_1 : Int32} {t8_0 : (Nat → Int32)} {t9_0 : Int32} {t9_1 : Int32} {t10_0 : Int32} {t10_1 : Int32} {t11_0 : (Nat → Int32)} {t12_0 : Int32} {t12_1 : Int32} {t13_0 : Int32} {t13_1 : Int32} {t14_0 : (Nat → Int32)} {lx70 : Int32}  : QK_quotient_bt (F_NH_quotient_bt_J34 x2 x3 x4 x5 x6 t0_0 t0_1 t1_0 t1_1 t2_0 t3_0 t3_1 t4_0 t5_0 t5_1 t6_0 t7_0 t7_1 t8_0 t9_0 t9_1 t10_0 t10_1 t11_0 t12_0 t12_1 t13_0 t13_1 t14_0 lx70) := by
  unfold F_NH_quotient_bt_J34
  by_cases g1 : (F_NH_need lx70) = (0 : Int32)
  ·
    rw [if_pos g1]
    by_cases g2 : x5 < (0 : Int32)
    ·
      rw [if_pos g2]
      exact K_NH_quotient_bt_J54
    ·
      rw [if_neg g2]
      by_cases g3 : (1000 : Int32) < x5
      ·
        rw [if_pos g3]
        exact K_NH_quotient_bt_J54
      ·
        rw [if_neg g3]
        exact K_NH_quotient_bt_J55
  ·
    rw [if_neg g1]
    exact (show kC12 ((F_NH_need lx70)) from (k_need _).to12)
theorem K_NH_quotient_bt_J33 {x2 : Int32} {x3 : Int32} {x4 : Int32} {x5 : Int32} {x6 : Int32} {t0_0 : Int64} {t0_1 : Int32} {t1_0 : Int32} {t1_1 : Int32} {t2_0 : (Nat → Int32)} {t3_0 : Int32} {t3_1 : Int32} {t4_0 : (Nat → Int32)} {t5_0 : Int32} {t5_1 : Int32} {t6_0 : (Nat → Int32)} {t7_0 : Int32} {t7_1 : Int32} {t8_0 : (Nat → Int32)} {t9_0 : Int32} {t9_1 : Int32} {t10_0 : Int32} {t10_1 : Int32} {t11_0 : (Nat → Int32)} {t12_0 : Int32} {t12_1 : Int32} {t13_0 : Int32} {t13_1 : Int32} {t14_0 : (Nat → Int32)}  : QK_quotient_bt (F_NH_quotient_bt_J33 x2 x3 x4 x5 x6 t0_0 t0_1 t1_0 t1_1 t2_0 t3_0 t3_1 t4_0 t5_0 t5_1 t6_0 t7_0 t7_1 t8_0 t9_0 t9_1 t10_0 t10_1 t11_0 t12_0 t12_1 t13_0 t13_1 t14_0) := by
  unfold F_NH_quotient_bt_J33
  exact K_NH_quotient_bt_J34
theorem K_NH_quotient_bt {x2 : Int32} {x3 : Int32} {x4 : Int32} {x5 : Int32} {x6 : Int32} {t0_0 : Int64} {t0_1 : Int32} {t1_0 : Int32} {t1_1 : Int32} {t2_0 : (Nat → Int32)} {t3_0 : Int32} {t3_1 : Int32} {t4_0 : (Nat → Int32)} {t5_0 : Int32} {t5_1 : Int32} {t6_0 : (Nat → Int32)} {t7_0 : Int32} {t7_1 : Int32} {t8_0 : (Nat → Int32)} {t9_0 : Int32} {t9_1 : Int32} {t10_0 : Int32} {t10_1 : Int32} {t11_0 : (Nat → Int32)} {t12_0 : Int32} {t12_1 : Int32} {t13_0 : Int32} {t13_1 : Int32} {t14_0 : (Nat → Int32)}  : QK_quotient_bt (F_NH_quotient_bt x2 x3 x4 x5 x6 t0_0 t0_1 t1_0 t1_1 t2_0 t3_0 t3_1 t4_0 t5_0 t5_1 t6_0 t7_0 t7_1 t8_0 t9_0 t9_1 t10_0 t10_1 t11_0 t12_0 t12_1 t13_0 t13_1 t14_0) := by
  unfold F_NH_quotient_bt
  by_cases g1 : ((F_NH_isRegister x2) : Int32) = (0 : Int32)
  ·
    rw [if_pos g1]
    exact K_NH_quotient_bt_J33
  ·
    rw [if_neg g1]
    by_cases g2 : ((F_NH_isRegister x3) : Int32) = (0 : Int32)
    ·
      rw [if_pos g2]
      exact K_NH_quotient_bt_J33
    ·
      rw [if_neg g2]
      by_cases g3 : ((F_NH_isRegister x4) : Int32) = (0 : Int32)
      ·
        rw [if_pos g3]
        exact K_NH_quotient_bt_J33
      ·
        rw [if_neg g3]
        by_cases g4 : ((F_NH_isMode x6) : Int32) = (0 : Int32)
        ·
          rw [if_pos g4]
          exact K_NH_quotient_bt_J33
        ·
          rw [if_neg g4]
          exact K_NH_quotient_bt_J34
def QK_quotient_abt (p : Int32 × Int64 × Int32 × Int32 × Int32 × (Nat → Int32) × Int32 × Int32 × (Nat → Int32) × Int32 × Int32 × (Nat → Int32) × Int32 × Int32 × (Nat → Int32) × Int32 × Int32 × Int32 × Int32 × (Nat → Int32)) : Prop := kC12 p.1
theorem K_NH_quotient_abt_J78 {x2 : Int32} {x3 : Int32} {x4 : Int32} {x5 : Int32} {x6 : Int32} {t0_0 : Int64} {t0_1 : Int32} {t1_0 : Int32} {t1_1 : Int32} {t2_0 : (Nat → Int32)} {t3_0 : Int32} {t3_1 : Int32} {t4_0 : (Nat → Int32)} {t5_0 : Int32} {t5_1 : Int32} {t6_0 : (Nat → Int32)} {t7_0 : Int32} {t7_1 : Int32} {t8_0 : (Nat → Int32)} {t9_0 : Int32} {t9_1 : Int32} {t10_0 : Int32} {t10_1 : Int32} {t11_0 : (Nat → Int32)} {lx57 : Int32} {lx87 : Int32} {lx123 : Int32}  : QK_quotient_abt (F_NH_quotient_abt_J78 x2 x3 x4 x5 x6 t0_0 t0_1 t1_0 t1_1 t2_0 t3_0 t3_1 t4_0 t5_0 t5_1 t6_0 t7_0 t7_1 t8_0 t9_0 t9_1 t10_0 t10_1 t11_0 lx57 lx87 lx123) := by
  unfold F_NH_quotient_abt_J78
  by_cases g1 : (F_NH_canHave lx123) = (0 : Int32)
  ·
    rw [if_pos g1]
    generalize F_DW_divideToPrecision_a (108 : Int32) x5 x6 t0_0 t0_1 t1_0 t1_1 t2_0 t3_0 t3_1 t4_0 t5_0 t5_1 t6_0 t7_0 t7_1 t8_0 t9_0 t9_1 t10_0 t10_1 t11_0 = p226 at *
    unfold F_NH_quotient_abt_c101
    by_cases g2 : (F_NH_canHave (p226.1 : Int32)) = (0 : Int32)
    ·
      rw [if_pos g2]
      have h3 := K_NH_keepDecimal (x2 := x4) (t0_0 := (p226.2.1 : Int64)) (t0_1 := (p226.2.2.1 : Int32)) (t1_0 := (p226.2.2.2.1 : Int32)) (t1_1 := (p226.2.2.2.2.1 : Int32)) (t2_0 := (p226.2.2.2.2.2.1 : (Nat → Int32))) (t3_0 := (p226.2.2.2.2.2.2.2.2.2.2.2.2.1 : Int32)) (t3_1 := (p226.2.2.2.2.2.2.2.2.2.2.2.2.2.1 : Int32)) (t4_0 := (p226.2.2.2.2.2.2.2.2.2.2.2.2.2.2.1 : (Nat → Int32))) (t5_0 := t9_0) (t5_1 := t9_1) (t6_0 := (p226.2.2.2.2.2.2.2.2.2.2.2.2.2.2.2.1 : Int32)) (t6_1 := (p226.2.2.2.2.2.2.2.2.2.2.2.2.2.2.2.2.1 : Int32)) (t7_0 := (p226.2.2.2.2.2.2.2.2.2.2.2.2.2.2.2.2.2 : (Nat → Int32))) 
      generalize F_NH_keepDecimal x4 (p226.2.1 : Int64) (p226.2.2.1 : Int32) (p226.2.2.2.1 : Int32) (p226.2.2.2.2.1 : Int32) (p226.2.2.2.2.2.1 : (Nat → Int32)) (p226.2.2.2.2.2.2.2.2.2.2.2.2.1 : Int32) (p226.2.2.2.2.2.2.2.2.2.2.2.2.2.1 : Int32) (p226.2.2.2.2.2.2.2.2.2.2.2.2.2.2.1 : (Nat → Int32)) t9_0 t9_1 (p226.2.2.2.2.2.2.2.2.2.2.2.2.2.2.2.1 : Int32) (p226.2.2.2.2.2.2.2.2.2.2.2.2.2.2.2.2.1 : Int32) (p226.2.2.2.2.2.2.2.2.2.2.2.2.2.2.2.2.2 : (Nat → Int32)) = p281 at *
      have kkp281 := (show kC2 p281.1 from h3).to12
      unfold F_NH_quotient_abt_c109
      by_cases g4 : p281.1 = (0 : Int32)
      ·
        rw [if_pos g4]
        exact (show kC12 (0 : Int32) from Or.inl rfl)
      ·
        rw [if_neg g4]
        exact (show kC12 (p281.1) from kkp281)
    ·
      rw [if_neg g2]
      exact (show kC12 ((F_NH_canHave (p226.1 : Int32))) from (k_can _).to12)
  ·
    rw [if_neg g1]
    exact (show kC12 ((F_NH_canHave lx123)) from (k_can _).to12)
theorem K_NH_quotient_abt_J55 {x2 : Int32} {x3 : Int32} {x4 : Int32} {x5 : Int32} {x6 : Int32} {t0_0 : Int64} {t0_1 : Int32} {t1_0 : Int32} {t1_1 : Int32} {t2_0 : (Nat → Int32)} {t3_0 : Int32} {t3_1 : Int32} {t4_0 : (Nat → Int32)} {t5_0 : Int32} {t5_1 : Int32} {t6_0 : (Nat → Int32)} {t7_0 : Int32} {t7_1 : Int32} {t8_0 : (Nat → Int32)} {t9_0 : Int32} {t9_1 : Int32} {t10_0 : Int32} {t10_1 : Int32} {t11_0 : (Nat → Int32)} {lx57 : Int32} {lx87 : Int32}  : QK_quotient_abt (F_NH_quotient_abt_J55 x2 x3 x4 x5 x6 t0_0 t0_1 t1_0 t1_1 t2_0 t3_0 t3_1 t4_0 t5_0 t5_1 t6_0 t7_0 t7_1 t8_0 t9_0 t9_1 t10_0 t10_1 t11_0 lx57 lx87) := by
  unfold F_NH_quotient_abt_J55
  by_cases g1 : (F_NH_need lx87) = (0 : Int32)
  ·
    rw [if_pos g1]
    by_cases g2 : t10_0 ≤ (0 : Int32)
    ·
      rw [if_pos g2]
      exact K_NH_quotient_abt_J78
    ·
      rw [if_neg g2]
      exact K_NH_quotient_abt_J78
  ·
    rw [if_neg g1]
    exact (show kC12 ((F_NH_need lx87)) from (k_need _).to12)
theorem K_NH_quotient_abt_J54 {x2 : Int32} {x3 : Int32} {x4 : Int32} {x5 : Int32} {x6 : Int32} {t0_0 : Int64} {t0_1 : Int32} {t1_0 : Int32} {t1_1 : Int32} {t2_0 : (Nat → Int32)} {t3_0 : Int32} {t3_1 : Int32} {t4_0 : (Nat → Int32)} {t5_0 : Int32} {t5_1 : Int32} {t6_0 : (Nat → Int32)} {t7_0 : Int32} {t7_1 : Int32} {t8_0 : (Nat → Int32)} {t9_0 : Int32} {t9_1 : Int32} {t10_0 : Int32} {t10_1 : Int32} {t11_0 : (Nat → Int32)} {lx57 : Int32}  : QK_quotient_abt (F_NH_quotient_abt_J54 x2 x3 x4 x5 x6 t0_0 t0_1 t1_0 t1_1 t2_0 t3_0 t3_1 t4_0 t5_0 t5_1 t6_0 t7_0 t7_1 t8_0 t9_0 t9_1 t10_0 t10_1 t11_0 lx57) := by
  unfold F_NH_quotient_abt_J54
  exact K_NH_quotient_abt_J55
theorem K_NH_quotient_abt_J34 {x2 : Int32} {x3 : Int32} {x4 : Int32} {x5 : Int32} {x6 : Int32} {t0_0 : Int64} {t0_1 : Int32} {t1_0 : Int32} {t1_1 : Int32} {t2_0 : (Nat → Int32)} {t3_0 : Int32} {t3_1 : Int32} {t4_0 : (Nat → Int32)} {t5_0 : Int32} {t5_1 : Int32} {t6_0 : (Nat → Int32)} {t7_0 : Int32} {t7_1 : Int32} {t8_0 : (Nat → Int32)} {t9_0 : Int32} {t9_1 : Int32} {t10_0 : Int32} {t10_1 : Int32} {t11_0 : (Nat → Int32)} {lx57 : Int32}  : QK_quotient_abt (F_NH_quotient_abt_J34 x2 x3 x4 x5 x6 t0_0 t0_1 t1_0 t1_1 t2_0 t3_0 t3_1 t4_0 t5_0 t5_1 t6_0 t7_0 t7_1 t8_0 t9_0 t9_1 t10_0 t10_1 t11_0 lx57) := by
  unfold F_NH_quotient_abt_J34
  by_cases g1 : (F_NH_need lx57) = (0 : Int32)
  ·
    rw [if_pos g1]
    by_cases g2 : x5 < (0 : Int32)
    ·
      rw [if_pos g2]
      exact K_NH_quotient_abt_J54
    ·
      rw [if_neg g2]
      by_cases g3 : (1000 : Int32) < x5
      ·
        rw [if_pos g3]
        exact K_NH_quotient_abt_J54
      ·
        rw [if_neg g3]
        exact K_NH_quotient_abt_J55
  ·
    rw [if_neg g1]
    exact (show kC12 ((F_NH_need lx57)) from (k_need _).to12)
theorem K_NH_quotient_abt_J33 {x2 : Int32} {x3 : Int32} {x4 : Int32} {x5 : Int32} {x6 : Int32} {t0_0 : Int64} {t0_1 : Int32} {t1_0 : Int32} {t1_1 : Int32} {t2_0 : (Nat → Int32)} {t3_0 : Int32} {t3_1 : Int32} {t4_0 : (Nat → Int32)} {t5_0 : Int32} {t5_1 : Int32} {t6_0 : (Nat → Int32)} {t7_0 : Int32} {t7_1 : Int32} {t8_0 : (Nat → Int32)} {t9_0 : Int32} {t9_1 : Int32} {t10_0 : Int32} {t10_1 : Int32} {t11_0 : (Nat → Int32)}  : QK_quotient_abt (F_NH_quotient_abt_J33 x2 x3 x4 x5 x6 t0_0 t0_1 t1_0 t1_1 t2_0 t3_0 t3_1 t4_0 t5_0 t5_1 t6_0 t7_0 t7_1 t8_0 t9_0 t9_1 t10_0 t10_1 t11_0) := by
  unfold F_NH_quotient_abt_J33
  exact K_NH_quotient_abt_J34
theorem K_NH_quotient_abt {x2 : Int32} {x3 : Int32} {x4 : Int32} {x5 : Int32} {x6 : Int32} {t0_0 : Int64} {t0_1 : Int32} {t1_0 : Int32} {t1_1 : Int32} {t2_0 : (Nat → Int32)} {t3_0 : Int32} {t3_1 : Int32} {t4_0 : (Nat → Int32)} {t5_0 : Int32} {t5_1 : Int32} {t6_0 : (Nat → Int32)} {t7_0 : Int32} {t7_1 : Int32} {t8_0 : (Nat → Int32)} {t9_0 : Int32} {t9_1 : Int32} {t10_0 : Int32} {t10_1 : Int32} {t11_0 : (Nat → Int32)}  : QK_quotient_abt (F_NH_quotient_abt x2 x3 x4 x5 x6 t0_0 t0_1 t1_0 t1_1 t2_0 t3_0 t3_1 t4_0 t5_0 t5_1 t6_0 t7_0 t7_1 t8_0 t9_0 t9_1 t10_0 t10_1 t11_0) := by
  unfold F_NH_quotient_abt
  by_cases g1 : ((F_NH_isRegister x2) : Int32) = (0 : Int32)
  ·
    rw [if_pos g1]
    exact K_NH_quotient_abt_J33
  ·
    rw [if_neg g1]
    by_cases g2 : ((F_NH_isRegister x3) : Int32) = (0 : Int32)
    ·
      rw [if_pos g2]
      exact K_NH_quotient_abt_J33
    ·
      rw [if_neg g2]
      by_cases g3 : ((F_NH_isRegister x4) : Int32) = (0 : Int32)
      ·
        rw [if_pos g3]
        exact K_NH_quotient_abt_J33
      ·
        rw [if_neg g3]
        by_cases g4 : ((F_NH_isMode x6) : Int32) = (0 : Int32)
        ·
          rw [if_pos g4]
          exact K_NH_quotient_abt_J33
        ·
          rw [if_neg g4]
          exact K_NH_quotient_abt_J34
def QK_shape (p : Int32 × Int64 × Int32 × Int32 × Int32 × (Nat → Int32) × Int32 × Int32 × (Nat → Int32) × Int32 × Int32 × (Nat → Int32) × Int32 × Int32 × (Nat → Int32) × Int32 × Int32 × (Nat → Int32) × Int32 × Int32 × (Nat → Int32) × Int32 × Int32 × (Nat → Int32) × Int32 × Int32 × (Nat → Int32) × Int32 × Int32 × (Nat → Int32) × Int32 × Int32 × Int32 × Int32 × (Nat → Int32)) : Prop := kC12 p.1
theorem K_NH_shape_J70 {x2 : Int32} {x3 : Int32} {x4 : Int32} {x5 : Int32} {x6 : Int32} {t0_0 : Int64} {t0_1 : Int32} {t1_0 : Int32} {t1_1 : Int32} {t2_0 : Int32} {t2_1 : Int32} {t3_0 : (Nat → Int32)} {t4_0 : Int32} {t4_1 : Int32} {t5_0 : (Nat → Int32)} {t6_0 : Int32} {t6_1 : Int32} {t7_0 : (Nat → Int32)} {t8_0 : Int32} {t8_1 : Int32} {t9_0 : (Nat → Int32)} {t10_0 : Int32} {t10_1 : Int32} {t11_0 : (Nat → Int32)} {t12_0 : Int32} {t12_1 : Int32} {t13_0 : (Nat → Int32)} {t14_0 : Int32} {t14_1 : Int32} {t15_0 : (Nat → Int32)} {t16_0 : Int32} {t16_1 : Int32} {t17_0 : (Nat → Int32)} {t18_0 : Int32} {t18_1 : Int32} {t19_0 : (Nat → Int32)} {t20_0 : Int32} {t20_1 : Int32} {t21_0 : Int32} {t21_1 : Int32} {t22_0 : (Nat → Int32)} {t23_0 : Int32} {t23_1 : Int32} {t24_0 : Int32} {t24_1 : Int32} {t25_0 : (Nat → Int32)} {lx108 : Int32} {lx152 : Int32}  : QK_shape (F_NH_shape_J70 x2 x3 x4 x5 x6 t0_0 t0_1 t1_0 t1_1 t2_0 t2_1 t3_0 t4_0 t4_1 t5_0 t6_0 t6_1 t7_0 t8_0 t8_1 t9_0 t10_0 t10_1 t11_0 t12_0 t12_1 t13_0 t14_0 t14_1 t15_0 t16_0 t16_1 t17_0 t18_0 t18_1 t19_0 t20_0 t20_1 t21_0 t21_1 t22_0 t23_0 t23_1 t24_0 t24_1 t25_0 lx108 lx152) := by
  unfold F_NH_shape_J70
  by_cases g1 : (F_NH_need lx152) = (0 : Int32)
  ·
    rw [if_pos g1]
    by_cases g2 : x2 = (0 : Int32)
    ·
      rw [if_pos g2]
      generalize F_DW_divideToScale_o (108 : Int32) (3 : Int32) x5 x6 t0_0 t0_1 t4_0 t4_1 t5_0 t6_0 t6_1 t7_0 t14_0 t14_1 t15_0 t20_0 t20_1 t21_0 t21_1 t22_0 t1_0 t1_1 t2_0 t2_1 t3_0 = p912 at *
      unfold F_NH_shape_c102
      by_cases g3 : (F_NH_canHave (p912.1 : Int32)) = (0 : Int32)
      ·
        rw [if_pos g3]
        have h4 := K_NH_keepDecimal (x2 := x4) (t0_0 := (p912.2.1 : Int64)) (t0_1 := (p912.2.2.1 : Int32)) (t1_0 := (p912.2.2.2.1 : Int32)) (t1_1 := (p912.2.2.2.2.1 : Int32)) (t2_0 := (p912.2.2.2.2.2.1 : (Nat → Int32))) (t3_0 := t18_0) (t3_1 := t18_1) (t4_0 := t19_0) (t5_0 := t23_0) (t5_1 := t23_1) (t6_0 := t24_0) (t6_1 := t24_1) (t7_0 := t25_0) 
        generalize F_NH_keepDecimal x4 (p912.2.1 : Int64) (p912.2.2.1 : Int32) (p912.2.2.2.1 : Int32) (p912.2.2.2.2.1 : Int32) (p912.2.2.2.2.2.1 : (Nat → Int32)) t18_0 t18_1 t19_0 t23_0 t23_1 t24_0 t24_1 t25_0 = p964 at *
        have kkp964 := (show kC2 p964.1 from h4).to12
        unfold F_NH_shape_c179_10
        by_cases g5 : p964.1 = (0 : Int32)
        ·
          rw [if_pos g5]
          exact (show kC12 (0 : Int32) from Or.inl rfl)
        ·
          rw [if_neg g5]
          exact (show kC12 (p964.1) from kkp964)
      ·
        rw [if_neg g3]
        exact (show kC12 ((F_NH_canHave (p912.1 : Int32))) from (k_can _).to12)
    ·
      rw [if_neg g2]
      by_cases g6 : x2 = (1 : Int32)
      ·
        rw [if_pos g6]
        generalize F_DW_divideToPrecision_o (108 : Int32) (3 : Int32) x5 x6 t0_0 t0_1 t4_0 t4_1 t5_0 t6_0 t6_1 t7_0 t14_0 t14_1 t15_0 t18_0 t18_1 t19_0 t20_0 t20_1 t21_0 t21_1 t22_0 t1_0 t1_1 t2_0 t2_1 t3_0 = p735 at *
        unfold F_NH_shape_c133
        by_cases g7 : (F_NH_canHave (p735.1 : Int32)) = (0 : Int32)
        ·
          rw [if_pos g7]
          have h8 := K_NH_keepDecimal (x2 := x4) (t0_0 := (p735.2.1 : Int64)) (t0_1 := (p735.2.2.1 : Int32)) (t1_0 := (p735.2.2.2.1 : Int32)) (t1_1 := (p735.2.2.2.2.1 : Int32)) (t2_0 := (p735.2.2.2.2.2.1 : (Nat → Int32))) (t3_0 := (p735.2.2.2.2.2.2.2.2.2.2.2.2.1 : Int32)) (t3_1 := (p735.2.2.2.2.2.2.2.2.2.2.2.2.2.1 : Int32)) (t4_0 := (p735.2.2.2.2.2.2.2.2.2.2.2.2.2.2.1 : (Nat → Int32))) (t5_0 := t23_0) (t5_1 := t23_1) (t6_0 := t24_0) (t6_1 := t24_1) (t7_0 := t25_0) 
          generalize F_NH_keepDecimal x4 (p735.2.1 : Int64) (p735.2.2.1 : Int32) (p735.2.2.2.1 : Int32) (p735.2.2.2.2.1 : Int32) (p735.2.2.2.2.2.1 : (Nat → Int32)) (p735.2.2.2.2.2.2.2.2.2.2.2.2.1 : Int32) (p735.2.2.2.2.2.2.2.2.2.2.2.2.2.1 : Int32) (p735.2.2.2.2.2.2.2.2.2.2.2.2.2.2.1 : (Nat → Int32)) t23_0 t23_1 t24_0 t24_1 t25_0 = p790 at *
          have kkp790 := (show kC2 p790.1 from h8).to12
          unfold F_NH_shape_c179_8
          by_cases g9 : p790.1 = (0 : Int32)
          ·
            rw [if_pos g9]
            exact (show kC12 (0 : Int32) from Or.inl rfl)
          ·
            rw [if_neg g9]
            exact (show kC12 (p790.1) from kkp790)
        ·
          rw [if_neg g7]
          exact (show kC12 ((F_NH_canHave (p735.1 : Int32))) from (k_can _).to12)
      ·
        rw [if_neg g6]
        by_cases g10 : ((F_Big_sign (108 : Int32) t21_0 t21_1) : Int32) < (0 : Int32)
        ·
          rw [if_pos g10]
          by_cases g11 : (F_NH_canHave (0 : Int32)) = (0 : Int32)
          ·
            rw [if_pos g11]
            generalize F_DW_squareRoot (108 : Int32) x5 x6 t0_0 t0_1 t4_0 t4_1 t5_0 t6_0 t6_1 t7_0 t8_0 t8_1 t9_0 t10_0 t10_1 t11_0 t12_0 t12_1 t13_0 t14_0 t14_1 t15_0 t16_0 t16_1 t17_0 t18_0 t18_1 t19_0 t20_0 t20_1 t21_0 t21_1 t22_0 = p314 at *
            unfold F_NH_shape_c171
            by_cases g12 : (F_NH_canHave (p314.1 : Int32)) = (0 : Int32)
            ·
              rw [if_pos g12]
              have h13 := K_NH_keepDecimal (x2 := x4) (t0_0 := (p314.2.1 : Int64)) (t0_1 := (p314.2.2.1 : Int32)) (t1_0 := (p314.2.2.2.1 : Int32)) (t1_1 := (p314.2.2.2.2.1 : Int32)) (t2_0 := (p314.2.2.2.2.2.1 : (Nat → Int32))) (t3_0 := (p314.2.2.2.2.2.2.2.2.2.2.2.2.2.2.2.2.2.2.2.2.2.2.2.2.1 : Int32)) (t3_1 := (p314.2.2.2.2.2.2.2.2.2.2.2.2.2.2.2.2.2.2.2.2.2.2.2.2.2.1 : Int32)) (t4_0 := (p314.2.2.2.2.2.2.2.2.2.2.2.2.2.2.2.2.2.2.2.2.2.2.2.2.2.2 : (Nat → Int32))) (t5_0 := t23_0) (t5_1 := t23_1) (t6_0 := t24_0) (t6_1 := t24_1) (t7_0 := t25_0) 
              generalize F_NH_keepDecimal x4 (p314.2.1 : Int64) (p314.2.2.1 : Int32) (p314.2.2.2.1 : Int32) (p314.2.2.2.2.1 : Int32) (p314.2.2.2.2.2.1 : (Nat → Int32)) (p314.2.2.2.2.2.2.2.2.2.2.2.2.2.2.2.2.2.2.2.2.2.2.2.2.1 : Int32) (p314.2.2.2.2.2.2.2.2.2.2.2.2.2.2.2.2.2.2.2.2.2.2.2.2.2.1 : Int32) (p314.2.2.2.2.2.2.2.2.2.2.2.2.2.2.2.2.2.2.2.2.2.2.2.2.2.2 : (Nat → Int32)) t23_0 t23_1 t24_0 t24_1 t25_0 = p378 at *
              have kkp378 := (show kC2 p378.1 from h13).to12
              unfold F_NH_shape_c179
              by_cases g14 : p378.1 = (0 : Int32)
              ·
                rw [if_pos g14]
                exact (show kC12 (0 : Int32) from Or.inl rfl)
              ·
                rw [if_neg g14]
                exact (show kC12 (p378.1) from kkp378)
            ·
              rw [if_neg g12]
              exact (show kC12 ((F_NH_canHave (p314.1 : Int32))) from (k_can _).to12)
          ·
            rw [if_neg g11]
            exact (show kC12 ((F_NH_canHave (0 : Int32))) from (k_can _).to12)
        ·
          rw [if_neg g10]
          by_cases g15 : (F_NH_canHave (1 : Int32)) = (0 : Int32)
          ·
            rw [if_pos g15]
            generalize F_DW_squareRoot (108 : Int32) x5 x6 t0_0 t0_1 t4_0 t4_1 t5_0 t6_0 t6_1 t7_0 t8_0 t8_1 t9_0 t10_0 t10_1 t11_0 t12_0 t12_1 t13_0 t14_0 t14_1 t15_0 t16_0 t16_1 t17_0 t18_0 t18_1 t19_0 t20_0 t20_1 t21_0 t21_1 t22_0 = p541 at *
            unfold F_NH_shape_c171_5
            by_cases g16 : (F_NH_canHave (p541.1 : Int32)) = (0 : Int32)
            ·
              rw [if_pos g16]
              have h17 := K_NH_keepDecimal (x2 := x4) (t0_0 := (p541.2.1 : Int64)) (t0_1 := (p541.2.2.1 : Int32)) (t1_0 := (p541.2.2.2.1 : Int32)) (t1_1 := (p541.2.2.2.2.1 : Int32)) (t2_0 := (p541.2.2.2.2.2.1 : (Nat → Int32))) (t3_0 := (p541.2.2.2.2.2.2.2.2.2.2.2.2.2.2.2.2.2.2.2.2.2.2.2.2.1 : Int32)) (t3_1 := (p541.2.2.2.2.2.2.2.2.2.2.2.2.2.2.2.2.2.2.2.2.2.2.2.2.2.1 : Int32)) (t4_0 := (p541.2.2.2.2.2.2.2.2.2.2.2.2.2.2.2.2.2.2.2.2.2.2.2.2.2.2 : (Nat → Int32))) (t5_0 := t23_0) (t5_1 := t23_1) (t6_0 := t24_0) (t6_1 := t24_1) (t7_0 := t25_0) 
              generalize F_NH_keepDecimal x4 (p541.2.1 : Int64) (p541.2.2.1 : Int32) (p541.2.2.2.1 : Int32) (p541.2.2.2.2.1 : Int32) (p541.2.2.2.2.2.1 : (Nat → Int32)) (p541.2.2.2.2.2.2.2.2.2.2.2.2.2.2.2.2.2.2.2.2.2.2.2.2.1 : Int32) (p541.2.2.2.2.2.2.2.2.2.2.2.2.2.2.2.2.2.2.2.2.2.2.2.2.2.1 : Int32) (p541.2.2.2.2.2.2.2.2.2.2.2.2.2.2.2.2.2.2.2.2.2.2.2.2.2.2 : (Nat → Int32)) t23_0 t23_1 t24_0 t24_1 t25_0 = p605 at *
              have kkp605 := (show kC2 p605.1 from h17).to12
              unfold F_NH_shape_c179_6
              by_cases g18 : p605.1 = (0 : Int32)
              ·
                rw [if_pos g18]
                exact (show kC12 (0 : Int32) from Or.inl rfl)
              ·
                rw [if_neg g18]
                exact (show kC12 (p605.1) from kkp605)
            ·
              rw [if_neg g16]
              exact (show kC12 ((F_NH_canHave (p541.1 : Int32))) from (k_can _).to12)
          ·
            rw [if_neg g15]
            exact (show kC12 ((F_NH_canHave (1 : Int32))) from (k_can _).to12)
  ·
    rw [if_neg g1]
    exact (show kC12 ((F_NH_need lx152)) from (k_need _).to12)
theorem K_NH_shape_J69 {x2 : Int32} {x3 : Int32} {x4 : Int32} {x5 : Int32} {x6 : Int32} {t0_0 : Int64} {t0_1 : Int32} {t1_0 : Int32} {t1_1 : Int32} {t2_0 : Int32} {t2_1 : Int32} {t3_0 : (Nat → Int32)} {t4_0 : Int32} {t4_1 : Int32} {t5_0 : (Nat → Int32)} {t6_0 : Int32} {t6_1 : Int32} {t7_0 : (Nat → Int32)} {t8_0 : Int32} {t8_1 : Int32} {t9_0 : (Nat → Int32)} {t10_0 : Int32} {t10_1 : Int32} {t11_0 : (Nat → Int32)} {t12_0 : Int32} {t12_1 : Int32} {t13_0 : (Nat → Int32)} {t14_0 : Int32} {t14_1 : Int32} {t15_0 : (Nat → Int32)} {t16_0 : Int32} {t16_1 : Int32} {t17_0 : (Nat → Int32)} {t18_0 : Int32} {t18_1 : Int32} {t19_0 : (Nat → Int32)} {t20_0 : Int32} {t20_1 : Int32} {t21_0 : Int32} {t21_1 : Int32} {t22_0 : (Nat → Int32)} {t23_0 : Int32} {t23_1 : Int32} {t24_0 : Int32} {t24_1 : Int32} {t25_0 : (Nat → Int32)} {lx108 : Int32}  : QK_shape (F_NH_shape_J69 x2 x3 x4 x5 x6 t0_0 t0_1 t1_0 t1_1 t2_0 t2_1 t3_0 t4_0 t4_1 t5_0 t6_0 t6_1 t7_0 t8_0 t8_1 t9_0 t10_0 t10_1 t11_0 t12_0 t12_1 t13_0 t14_0 t14_1 t15_0 t16_0 t16_1 t17_0 t18_0 t18_1 t19_0 t20_0 t20_1 t21_0 t21_1 t22_0 t23_0 t23_1 t24_0 t24_1 t25_0 lx108) := by
  unfold F_NH_shape_J69
  exact K_NH_shape_J70
theorem K_NH_shape_J36 {x2 : Int32} {x3 : Int32} {x4 : Int32} {x5 : Int32} {x6 : Int32} {t0_0 : Int64} {t0_1 : Int32} {t1_0 : Int32} {t1_1 : Int32} {t2_0 : Int32} {t2_1 : Int32} {t3_0 : (Nat → Int32)} {t4_0 : Int32} {t4_1 : Int32} {t5_0 : (Nat → Int32)} {t6_0 : Int32} {t6_1 : Int32} {t7_0 : (Nat → Int32)} {t8_0 : Int32} {t8_1 : Int32} {t9_0 : (Nat → Int32)} {t10_0 : Int32} {t10_1 : Int32} {t11_0 : (Nat → Int32)} {t12_0 : Int32} {t12_1 : Int32} {t13_0 : (Nat → Int32)} {t14_0 : Int32} {t14_1 : Int32} {t15_0 : (Nat → Int32)} {t16_0 : Int32} {t16_1 : Int32} {t17_0 : (Nat → Int32)} {t18_0 : Int32} {t18_1 : Int32} {t19_0 : (Nat → Int32)} {t20_0 : Int32} {t20_1 : Int32} {t21_0 : Int32} {t21_1 : Int32} {t22_0 : (Nat → Int32)} {t23_0 : Int32} {t23_1 : Int32} {t24_0 : Int32} {t24_1 : Int32} {t25_0 : (Nat → Int32)} {lx108 : Int32}  : QK_shape (F_NH_shape_J36 x2 x3 x4 x5 x6 t0_0 t0_1 t1_0 t1_1 t2_0 t2_1 t3_0 t4_0 t4_1 t5_0 t6_0 t6_1 t7_0 t8_0 t8_1 t9_0 t10_0 t10_1 t11_0 t12_0 t12_1 t13_0 t14_0 t14_1 t15_0 t16_0 t16_1 t17_0 t18_0 t18_1 t19_0 t20_0 t20_1 t21_0 t21_1 t22_0 t23_0 t23_1 t24_0 t24_1 t25_0 lx108) := by
  unfold F_NH_shape_J36
  by_cases g1 : (F_NH_need lx108) = (0 : Int32)
  ·
    rw [if_pos g1]
    by_cases g2 : x2 = (0 : Int32)
    ·
      rw [if_pos g2]
      exact K_NH_shape_J70
    ·
      rw [if_neg g2]
      by_cases g3 : x5 < (1 : Int32)
      ·
        rw [if_pos g3]
        exact K_NH_shape_J69
      ·
        rw [if_neg g3]
        by_cases g4 : (1000 : Int32) < x5
        ·
          rw [if_pos g4]
          exact K_NH_shape_J69
        ·
          rw [if_neg g4]
          exact K_NH_shape_J70
  ·
    rw [if_neg g1]
    exact (show kC12 ((F_NH_need lx108)) from (k_need _).to12)
theorem K_NH_shape_J35 {x2 : Int32} {x3 : Int32} {x4 : Int32} {x5 : Int32} {x6 : Int32} {t0_0 : Int64} {t0_1 : Int32} {t1_0 : Int32} {t1_1 : Int32} {t2_0 : Int32} {t2_1 : Int32} {t3_0 : (Nat → Int32)} {t4_0 : Int32} {t4_1 : Int32} {t5_0 : (Nat → Int32)} {t6_0 : Int32} {t6_1 : Int32} {t7_0 : (Nat → Int32)} {t8_0 : Int32} {t8_1 : Int32} {t9_0 : (Nat → Int32)} {t10_0 : Int32} {t10_1 : Int32} {t11_0 : (Nat → Int32)} {t12_0 : Int32} {t12_1 : Int32} {t13_0 : (Nat → Int32)} {t14_0 : Int32} {t14_1 : Int32} {t15_0 : (Nat → Int32)} {t16_0 : Int32} {t16_1 : Int32} {t17_0 : (Nat → Int32)} {t18_0 : Int32} {t18_1 : Int32} {t19_0 : (Nat → Int32)} {t20_0 : Int32} {t20_1 : Int32} {t21_0 : Int32} {t21_1 : Int32} {t22_0 : (Nat → Int32)} {t23_0 : Int32} {t23_1 : Int32} {t24_0 : Int32} {t24_1 : Int32} {t25_0 : (Nat → Int32)}  : QK_shape (F_NH_shape_J35 x2 x3 x4 x5 x6 t0_0 t0_1 t1_0 t1_1 t2_0 t2_1 t3_0 t4_0 t4_1 t5_0 t6_0 t6_1 t7_0 t8_0 t8_1 t9_0 t10_0 t10_1 t11_0 t12_0 t12_1 t13_0 t14_0 t14_1 t15_0 t16_0 t16_1 t17_0 t18_0 t18_1 t19_0 t20_0 t20_1 t21_0 t21_1 t22_0 t23_0 t23_1 t24_0 t24_1 t25_0) := by
  unfold F_NH_shape_J35
  exact K_NH_shape_J36
theorem K_NH_shape {x2 : Int32} {x3 : Int32} {x4 : Int32} {x5 : Int32} {x6 : Int32} {t0_0 : Int64} {t0_1 : Int32} {t1_0 : Int32} {t1_1 : Int32} {t2_0 : Int32} {t2_1 : Int32} {t3_0 : (Nat → Int32)} {t4_0 : Int32} {t4_1 : Int32} {t5_0 : (Nat → Int32)} {t6_0 : Int32} {t6_1 : Int32} {t7_0 : (Nat → Int32)} {t8_0 : Int32} {t8_1 : Int32} {t9_0 : (Nat → Int32)} {t10_0 : Int32} {t10_1 : Int32} {t11_0 : (Nat → Int32)} {t12_0 : Int32} {t12_1 : Int32} {t13_0 : (Nat → Int32)} {t14_0 : Int32} {t14_1 : Int32} {t15_0 : (Nat → Int32)} {t16_0 : Int32} {t16_1 : Int32} {t17_0 : (Nat → Int32)} {t18_0 : Int32} {t18_1 : Int32} {t19_0 : (Nat → Int32)} {t20_0 : Int32} {t20_1 : Int32} {t21_0 : Int32} {t21_1 : Int32} {t22_0 : (Nat → Int32)} {t23_0 : Int32} {t23_1 : Int32} {t24_0 : Int32} {t24_1 : Int32} {t25_0 : (Nat → Int32)}  : QK_shape (F_NH_shape x2 x3 x4 x5 x6 t0_0 t0_1 t1_0 t1_1 t2_0 t2_1 t3_0 t4_0 t4_1 t5_0 t6_0 t6_1 t7_0 t8_0 t8_1 t9_0 t10_0 t10_1 t11_0 t12_0 t12_1 t13_0 t14_0 t14_1 t15_0 t16_0 t16_1 t17_0 t18_0 t18_1 t19_0 t20_0 t20_1 t21_0 t21_1 t22_0 t23_0 t23_1 t24_0 t24_1 t25_0) := by
  unfold F_NH_shape
  by_cases g1 : x2 < (0 : Int32)
  ·
    rw [if_pos g1]
    exact K_NH_shape_J35
  ·
    rw [if_neg g1]
    by_cases g2 : (2 : Int32) < x2
    ·
      rw [if_pos g2]
      exact K_NH_shape_J35
    ·
      rw [if_neg g2]
      by_cases g3 : ((F_NH_isRegister x3) : Int32) = (0 : Int32)
      ·
        rw [if_pos g3]
        exact K_NH_shape_J35
      ·
        rw [if_neg g3]
        by_cases g4 : ((F_NH_isRegister x4) : Int32) = (0 : Int32)
        ·
          rw [if_pos g4]
          exact K_NH_shape_J35
        ·
          rw [if_neg g4]
          by_cases g5 : ((F_NH_isMode x6) : Int32) = (0 : Int32)
          ·
            rw [if_pos g5]
            exact K_NH_shape_J35
          ·
            rw [if_neg g5]
            exact K_NH_shape_J36
def QK_powerModulo (p : Int32 × Int32 × Int32 × (Nat → Int32) × Int32 × Int32 × (Nat → Int32) × Int32 × Int32 × (Nat → Int32) × Int32 × Int32 × (Nat → Int32) × Int32 × Int32 × (Nat → Int32) × Int32 × Int32 × (Nat → Int32) × Int32 × Int32 × (Nat → Int32) × Int32 × Int32 × (Nat → Int32) × Int32 × Int32 × (Nat → Int32) × Int32 × Int32 × (Nat → Int32)) : Prop := kC12 p.1
theorem K_NH_powerModulo_J54 {x2 : Int32} {x3 : Int32} {x4 : Int32} {x5 : Int32} {t0_0 : Int32} {t0_1 : Int32} {t1_0 : (Nat → Int32)} {t2_0 : Int32} {t2_1 : Int32} {t3_0 : (Nat → Int32)} {t4_0 : Int32} {t4_1 : Int32} {t5_0 : (Nat → Int32)} {t6_0 : Int32} {t6_1 : Int32} {t7_0 : (Nat → Int32)} {t8_0 : Int32} {t8_1 : Int32} {t9_0 : (Nat → Int32)} {t10_0 : Int32} {t10_1 : Int32} {t11_0 : (Nat → Int32)} {t12_0 : Int32} {t12_1 : Int32} {t13_0 : (Nat → Int32)} {t14_0 : Int32} {t14_1 : Int32} {t15_0 : (Nat → Int32)} {t16_0 : Int32} {t16_1 : Int32} {t17_0 : (Nat → Int32)} {t18_0 : Int32} {t18_1 : Int32} {t19_0 : (Nat → Int32)} {t20_0 : Int32} {t20_1 : Int32} {t21_0 : (Nat → Int32)} {t22_0 : Int32} {t22_1 : Int32} {t23_0 : (Nat → Int32)} {lx104 : Int32} {lx160 : Int32}  : QK_powerModulo (F_NH_powerModulo_J54 x2 x3 x4 x5 t0_0 t0_1 t1_0 t2_0 t2_1 t3_0 t4_0 t4_1 t5_0 t6_0 t6_1 t7_0 t8_0 t8_1 t9_0 t10_0 t10_1 t11_0 t12_0 t12_1 t13_0 t14_0 t14_1 t15_0 t16_0 t16_1 t17_0 t18_0 t18_1 t19_0 t20_0 t20_1 t21_0 t22_0 t22_1 t23_0 lx104 lx160) := by
  unfold F_NH_powerModulo_J54
  by_cases g1 : (F_NH_canHave lx160) = (0 : Int32)
  ·
    rw [if_pos g1]
    by_cases g2 : t18_1 = (0 : Int32)
    ·
      rw [if_pos g2]
      generalize F_Mil_modulo (68 : Int32) (68 : Int32) (220 : Int32) t2_0 t2_1 t3_0 t16_0 t16_1 t17_0 t20_0 t20_1 t21_0 t0_0 t0_1 t1_0 = p253 at *
      unfold F_NH_powerModulo_c117
      generalize F_Mil_powerBelow (68 : Int32) (68 : Int32) (p253.2.2.2.2.2.2.1 : Int32) (p253.2.2.2.2.2.2.2.1 : Int32) (p253.2.2.2.2.2.2.2.2 : (Nat → Int32)) (p253.1 : Int32) (p253.2.1 : Int32) (p253.2.2.1 : (Nat → Int32)) t4_0 t4_1 t5_0 t6_0 t6_1 t7_0 t18_0 t18_1 t19_0 (p253.2.2.2.1 : Int32) (p253.2.2.2.2.1 : Int32) (p253.2.2.2.2.2.1 : (Nat → Int32)) = p324 at *
      unfold F_NH_powerModulo_c136
      have h3 := K_NH_keepWhole (x2 := x5) (t0_0 := (p324.1 : Int32)) (t0_1 := (p324.2.1 : Int32)) (t1_0 := (p324.2.2.1 : (Nat → Int32))) (t2_0 := t22_0) (t2_1 := t22_1) (t3_0 := t23_0) 
      generalize F_NH_keepWhole x5 (p324.1 : Int32) (p324.2.1 : Int32) (p324.2.2.1 : (Nat → Int32)) t22_0 t22_1 t23_0 = p359 at *
      have kkp359 := (show kC2 p359.1 from h3).to12
      unfold F_NH_powerModulo_c142
      by_cases g4 : p359.1 = (0 : Int32)
      ·
        rw [if_pos g4]
        exact (show kC12 (0 : Int32) from Or.inl rfl)
      ·
        rw [if_neg g4]
        exact (show kC12 (p359.1) from kkp359)
    ·
      rw [if_neg g2]
      generalize F_Mil_inverse (68 : Int32) (68 : Int32) t0_0 t0_1 t1_0 t2_0 t2_1 t3_0 t6_0 t6_1 t7_0 t8_0 t8_1 t9_0 t10_0 t10_1 t11_0 t12_0 t12_1 t13_0 t14_0 t14_1 t15_0 t16_0 t16_1 t17_0 t20_0 t20_1 t21_0 = p486 at *
      unfold F_NH_powerModulo_c85
      by_cases g5 : (F_NH_canHave (p486.1 : Int32)) = (0 : Int32)
      ·
        rw [if_pos g5]
        generalize F_Mil_powerBelow (68 : Int32) (68 : Int32) (p486.2.1 : Int32) (p486.2.2.1 : Int32) (p486.2.2.2.1 : (Nat → Int32)) (p486.2.2.2.2.1 : Int32) (p486.2.2.2.2.2.1 : Int32) (p486.2.2.2.2.2.2.1 : (Nat → Int32)) t4_0 t4_1 t5_0 (p486.2.2.2.2.2.2.2.1 : Int32) (p486.2.2.2.2.2.2.2.2.1 : Int32) (p486.2.2.2.2.2.2.2.2.2.1 : (Nat → Int32)) t18_0 t18_1 t19_0 (p486.2.2.2.2.2.2.2.2.2.2.2.2.2.2.2.2.2.2.2.2.2.2.1 : Int32) (p486.2.2.2.2.2.2.2.2.2.2.2.2.2.2.2.2.2.2.2.2.2.2.2.1 : Int32) (p486.2.2.2.2.2.2.2.2.2.2.2.2.2.2.2.2.2.2.2.2.2.2.2.2 : (Nat → Int32)) = p582 at *
        unfold F_NH_powerModulo_c136_7
        have h6 := K_NH_keepWhole (x2 := x5) (t0_0 := (p582.1 : Int32)) (t0_1 := (p582.2.1 : Int32)) (t1_0 := (p582.2.2.1 : (Nat → Int32))) (t2_0 := t22_0) (t2_1 := t22_1) (t3_0 := t23_0) 
        generalize F_NH_keepWhole x5 (p582.1 : Int32) (p582.2.1 : Int32) (p582.2.2.1 : (Nat → Int32)) t22_0 t22_1 t23_0 = p617 at *
        have kkp617 := (show kC2 p617.1 from h6).to12
        unfold F_NH_powerModulo_c142_8
        by_cases g7 : p617.1 = (0 : Int32)
        ·
          rw [if_pos g7]
          exact (show kC12 (0 : Int32) from Or.inl rfl)
        ·
          rw [if_neg g7]
          exact (show kC12 (p617.1) from kkp617)
      ·
        rw [if_neg g5]
        exact (show kC12 ((F_NH_canHave (p486.1 : Int32))) from (k_can _).to12)
  ·
    rw [if_neg g1]
    exact (show kC12 ((F_NH_canHave lx160)) from (k_can _).to12)
theorem K_NH_powerModulo_J34 {x2 : Int32} {x3 : Int32} {x4 : Int32} {x5 : Int32} {t0_0 : Int32} {t0_1 : Int32} {t1_0 : (Nat → Int32)} {t2_0 : Int32} {t2_1 : Int32} {t3_0 : (Nat → Int32)} {t4_0 : Int32} {t4_1 : Int32} {t5_0 : (Nat → Int32)} {t6_0 : Int32} {t6_1 : Int32} {t7_0 : (Nat → Int32)} {t8_0 : Int32} {t8_1 : Int32} {t9_0 : (Nat → Int32)} {t10_0 : Int32} {t10_1 : Int32} {t11_0 : (Nat → Int32)} {t12_0 : Int32} {t12_1 : Int32} {t13_0 : (Nat → Int32)} {t14_0 : Int32} {t14_1 : Int32} {t15_0 : (Nat → Int32)} {t16_0 : Int32} {t16_1 : Int32} {t17_0 : (Nat → Int32)} {t18_0 : Int32} {t18_1 : Int32} {t19_0 : (Nat → Int32)} {t20_0 : Int32} {t20_1 : Int32} {t21_0 : (Nat → Int32)} {t22_0 : Int32} {t22_1 : Int32} {t23_0 : (Nat → Int32)} {lx104 : Int32}  : QK_powerModulo (F_NH_powerModulo_J34 x2 x3 x4 x5 t0_0 t0_1 t1_0 t2_0 t2_1 t3_0 t4_0 t4_1 t5_0 t6_0 t6_1 t7_0 t8_0 t8_1 t9_0 t10_0 t10_1 t11_0 t12_0 t12_1 t13_0 t14_0 t14_1 t15_0 t16_0 t16_1 t17_0 t18_0 t18_1 t19_0 t20_0 t20_1 t21_0 t22_0 t22_1 t23_0 lx104) := by
  unfold F_NH_powerModulo_J34
  by_cases g1 : (F_NH_need lx104) = (0 : Int32)
  ·
    rw [if_pos g1]
    by_cases g2 : ((F_Big_sign (68 : Int32) t20_0 t20_1) : Int32) ≤ (0 : Int32)
    ·
      rw [if_pos g2]
      exact K_NH_powerModulo_J54
    ·
      rw [if_neg g2]
      exact K_NH_powerModulo_J54
  ·
    rw [if_neg g1]
    exact (show kC12 ((F_NH_need lx104)) from (k_need _).to12)
theorem K_NH_powerModulo_J33 {x2 : Int32} {x3 : Int32} {x4 : Int32} {x5 : Int32} {t0_0 : Int32} {t0_1 : Int32} {t1_0 : (Nat → Int32)} {t2_0 : Int32} {t2_1 : Int32} {t3_0 : (Nat → Int32)} {t4_0 : Int32} {t4_1 : Int32} {t5_0 : (Nat → Int32)} {t6_0 : Int32} {t6_1 : Int32} {t7_0 : (Nat → Int32)} {t8_0 : Int32} {t8_1 : Int32} {t9_0 : (Nat → Int32)} {t10_0 : Int32} {t10_1 : Int32} {t11_0 : (Nat → Int32)} {t12_0 : Int32} {t12_1 : Int32} {t13_0 : (Nat → Int32)} {t14_0 : Int32} {t14_1 : Int32} {t15_0 : (Nat → Int32)} {t16_0 : Int32} {t16_1 : Int32} {t17_0 : (Nat → Int32)} {t18_0 : Int32} {t18_1 : Int32} {t19_0 : (Nat → Int32)} {t20_0 : Int32} {t20_1 : Int32} {t21_0 : (Nat → Int32)} {t22_0 : Int32} {t22_1 : Int32} {t23_0 : (Nat → Int32)}  : QK_powerModulo (F_NH_powerModulo_J33 x2 x3 x4 x5 t0_0 t0_1 t1_0 t2_0 t2_1 t3_0 t4_0 t4_1 t5_0 t6_0 t6_1 t7_0 t8_0 t8_1 t9_0 t10_0 t10_1 t11_0 t12_0 t12_1 t13_0 t14_0 t14_1 t15_0 t16_0 t16_1 t17_0 t18_0 t18_1 t19_0 t20_0 t20_1 t21_0 t22_0 t22_1 t23_0) := by
  unfold F_NH_powerModulo_J33
  exact K_NH_powerModulo_J34
theorem K_NH_powerModulo {x2 : Int32} {x3 : Int32} {x4 : Int32} {x5 : Int32} {t0_0 : Int32} {t0_1 : Int32} {t1_0 : (Nat → Int32)} {t2_0 : Int32} {t2_1 : Int32} {t3_0 : (Nat → Int32)} {t4_0 : Int32} {t4_1 : Int32} {t5_0 : (Nat → Int32)} {t6_0 : Int32} {t6_1 : Int32} {t7_0 : (Nat → Int32)} {t8_0 : Int32} {t8_1 : Int32} {t9_0 : (Nat → Int32)} {t10_0 : Int32} {t10_1 : Int32} {t11_0 : (Nat → Int32)} {t12_0 : Int32} {t12_1 : Int32} {t13_0 : (Nat → Int32)} {t14_0 : Int32} {t14_1 : Int32} {t15_0 : (Nat → Int32)} {t16_0 : Int32} {t16_1 : Int32} {t17_0 : (Nat → Int32)} {t18_0 : Int32} {t18_1 : Int32} {t19_0 : (Nat → Int32)} {t20_0 : Int32} {t20_1 : Int32} {t21_0 : (Nat → Int32)} {t22_0 : Int32} {t22_1 : Int32} {t23_0 : (Nat → Int32)}  : QK_powerModulo (F_NH_powerModulo x2 x3 x4 x5 t0_0 t0_1 t1_0 t2_0 t2_1 t3_0 t4_0 t4_1 t5_0 t6_0 t6_1 t7_0 t8_0 t8_1 t9_0 t10_0 t10_1 t11_0 t12_0 t12_1 t13_0 t14_0 t14_1 t15_0 t16_0 t16_1 t17_0 t18_0 t18_1 t19_0 t20_0 t20_1 t21_0 t22_0 t22_1 t23_0) := by
  unfold F_NH_powerModulo
  by_cases g1 : ((F_NH_isRegister x2) : Int32) = (0 : Int32)
  ·
    rw [if_pos g1]
    exact K_NH_powerModulo_J33
  ·
    rw [if_neg g1]
    by_cases g2 : ((F_NH_isRegister x3) : Int32) = (0 : Int32)
    ·
      rw [if_pos g2]
      exact K_NH_powerModulo_J33
    ·
      rw [if_neg g2]
      by_cases g3 : ((F_NH_isRegister x4) : Int32) = (0 : Int32)
      ·
        rw [if_pos g3]
        exact K_NH_powerModulo_J33
      ·
        rw [if_neg g3]
        by_cases g4 : ((F_NH_isRegister x5) : Int32) = (0 : Int32)
        ·
          rw [if_pos g4]
          exact K_NH_powerModulo_J33
        ·
          rw [if_neg g4]
          exact K_NH_powerModulo_J34
def QK_powerModulo_a (p : Int32 × Int32 × Int32 × (Nat → Int32) × Int32 × Int32 × (Nat → Int32) × Int32 × Int32 × (Nat → Int32) × Int32 × Int32 × (Nat → Int32) × Int32 × Int32 × (Nat → Int32) × Int32 × Int32 × (Nat → Int32) × Int32 × Int32 × (Nat → Int32) × Int32 × Int32 × (Nat → Int32) × Int32 × Int32 × (Nat → Int32) × Int32 × Int32 × (Nat → Int32)) : Prop := kC12 p.1
theorem K_NH_powerModulo_a_J54 {x2 : Int32} {x3 : Int32} {x4 : Int32} {x5 : Int32} {t0_0 : Int32} {t0_1 : Int32} {t1_0 : (Nat → Int32)} {t2_0 : Int32} {t2_1 : Int32} {t3_0 : (Nat → Int32)} {t4_0 : Int32} {t4_1 : Int32} {t5_0 : (Nat → Int32)} {t6_0 : Int32} {t6_1 : Int32} {t7_0 : (Nat → Int32)} {t8_0 : Int32} {t8_1 : Int32} {t9_0 : (Nat → Int32)} {t10_0 : Int32} {t10_1 : Int32} {t11_0 : (Nat → Int32)} {t12_0 : Int32} {t12_1 : Int32} {t13_0 : (Nat → Int32)} {t14_0 : Int32} {t14_1 : Int32} {t15_0 : (Nat → Int32)} {t16_0 : Int32} {t16_1 : Int32} {t17_0 : (Nat → Int32)} {t18_0 : Int32} {t18_1 : Int32} {t19_0 : (Nat → Int32)} {t20_0 : Int32} {t20_1 : Int32} {t21_0 : (Nat → Int32)} {lx96 : Int32} {lx150 : Int32}  : QK_powerModulo_a (F_NH_powerModulo_a_J54 x2 x3 x4 x5 t0_0 t0_1 t1_0 t2_0 t2_1 t3_0 t4_0 t4_1 t5_0 t6_0 t6_1 t7_0 t8_0 t8_1 t9_0 t10_0 t10_1 t11_0 t12_0 t12_1 t13_0 t14_0 t14_1 t15_0 t16_0 t16_1 t17_0 t18_0 t18_1 t19_0 t20_0 t20_1 t21_0 lx96 lx150) := by
  unfold F_NH_powerModulo_a_J54
  by_cases g1 : (F_NH_canHave lx150) = (0 : Int32)
  ·
    rw [if_pos g1]
    by_cases g2 : t18_1 = (0 : Int32)
    ·
      rw [if_pos g2]
      generalize F_Mil_modulo_a (68 : Int32) (220 : Int32) t2_0 t2_1 t3_0 t16_0 t16_1 t17_0 t0_0 t0_1 t1_0 = p241 at *
      unfold F_NH_powerModulo_a_c117
      generalize F_Mil_powerBelow (68 : Int32) (68 : Int32) (p241.2.2.2.2.2.2.1 : Int32) (p241.2.2.2.2.2.2.2.1 : Int32) (p241.2.2.2.2.2.2.2.2 : (Nat → Int32)) (p241.1 : Int32) (p241.2.1 : Int32) (p241.2.2.1 : (Nat → Int32)) t4_0 t4_1 t5_0 t6_0 t6_1 t7_0 t18_0 t18_1 t19_0 (p241.2.2.2.1 : Int32) (p241.2.2.2.2.1 : Int32) (p241.2.2.2.2.2.1 : (Nat → Int32)) = p312 at *
      unfold F_NH_powerModulo_a_c136
      have h3 := K_NH_keepWhole (x2 := x5) (t0_0 := (p312.1 : Int32)) (t0_1 := (p312.2.1 : Int32)) (t1_0 := (p312.2.2.1 : (Nat → Int32))) (t2_0 := t20_0) (t2_1 := t20_1) (t3_0 := t21_0) 
      generalize F_NH_keepWhole x5 (p312.1 : Int32) (p312.2.1 : Int32) (p312.2.2.1 : (Nat → Int32)) t20_0 t20_1 t21_0 = p347 at *
      have kkp347 := (show kC2 p347.1 from h3).to12
      unfold F_NH_powerModulo_a_c142
      by_cases g4 : p347.1 = (0 : Int32)
      ·
        rw [if_pos g4]
        exact (show kC12 (0 : Int32) from Or.inl rfl)
      ·
        rw [if_neg g4]
        exact (show kC12 (p347.1) from kkp347)
    ·
      rw [if_neg g2]
      generalize F_Mil_inverse_a (68 : Int32) t0_0 t0_1 t1_0 t2_0 t2_1 t3_0 t6_0 t6_1 t7_0 t8_0 t8_1 t9_0 t10_0 t10_1 t11_0 t12_0 t12_1 t13_0 t14_0 t14_1 t15_0 t16_0 t16_1 t17_0 = p471 at *
      unfold F_NH_powerModulo_a_c85
      by_cases g5 : (F_NH_canHave (p471.1 : Int32)) = (0 : Int32)
      ·
        rw [if_pos g5]
        generalize F_Mil_powerBelow (68 : Int32) (68 : Int32) (p471.2.1 : Int32) (p471.2.2.1 : Int32) (p471.2.2.2.1 : (Nat → Int32)) (p471.2.2.2.2.1 : Int32) (p471.2.2.2.2.2.1 : Int32) (p471.2.2.2.2.2.2.1 : (Nat → Int32)) t4_0 t4_1 t5_0 (p471.2.2.2.2.2.2.2.1 : Int32) (p471.2.2.2.2.2.2.2.2.1 : Int32) (p471.2.2.2.2.2.2.2.2.2.1 : (Nat → Int32)) t18_0 t18_1 t19_0 (p471.2.2.2.2.2.2.2.2.2.2.2.2.2.2.2.2.2.2.2.2.2.2.1 : Int32) (p471.2.2.2.2.2.2.2.2.2.2.2.2.2.2.2.2.2.2.2.2.2.2.2.1 : Int32) (p471.2.2.2.2.2.2.2.2.2.2.2.2.2.2.2.2.2.2.2.2.2.2.2.2 : (Nat → Int32)) = p567 at *
        unfold F_NH_powerModulo_a_c136_7
        have h6 := K_NH_keepWhole (x2 := x5) (t0_0 := (p567.1 : Int32)) (t0_1 := (p567.2.1 : Int32)) (t1_0 := (p567.2.2.1 : (Nat → Int32))) (t2_0 := t20_0) (t2_1 := t20_1) (t3_0 := t21_0) 
        generalize F_NH_keepWhole x5 (p567.1 : Int32) (p567.2.1 : Int32) (p567.2.2.1 : (Nat → Int32)) t20_0 t20_1 t21_0 = p602 at *
        have kkp602 := (show kC2 p602.1 from h6).to12
        unfold F_NH_powerModulo_a_c142_8
        by_cases g7 : p602.1 = (0 : Int32)
        ·
          rw [if_pos g7]
          exact (show kC12 (0 : Int32) from Or.inl rfl)
        ·
          rw [if_neg g7]
          exact (show kC12 (p602.1) from kkp602)
      ·
        rw [if_neg g5]
        exact (show kC12 ((F_NH_canHave (p471.1 : Int32))) from (k_can _).to12)
  ·
    rw [if_neg g1]
    exact (show kC12 ((F_NH_canHave lx150)) from (k_can _).to12)
theorem K_NH_powerModulo_a_J34 {x2 : Int32} {x3 : Int32} {x4 : Int32} {x5 : Int32} {t0_0 : Int32} {t0_1 : Int32} {t1_0 : (Nat → Int32)} {t2_0 : Int32} {t2_1 : Int32} {t3_0 : (Nat → Int32)} {t4_0 : Int32} {t4_1 : Int32} {t5_0 : (Nat → Int32)} {t6_0 : Int32} {t6_1 : Int32} {t7_0 : (Nat → Int32)} {t8_0 : Int32} {t8_1 : Int32} {t9_0 : (Nat → Int32)} {t10_0 : Int32} {t10_1 : Int32} {t11_0 : (Nat → Int32)} {t12_0 : Int32} {t12_1 : Int32} {t13_0 : (Nat → Int32)} {t14_0 : Int32} {t14_1 : Int32} {t15_0 : (Nat → Int32)} {t16_0 : Int32} {t16_1 : Int32} {t17_0 : (Nat → Int32)} {t18_0 : Int32} {t18_1 : Int32} {t19_0 : (Nat → Int32)} {t20_0 : Int32} {t20_1 : Int32} {t21_0 : (Nat → Int32)} {lx96 : Int32}  : QK_powerModulo_a (F_NH_powerModulo_a_J34 x2 x3 x4 x5 t0_0 t0_1 t1_0 t2_0 t2_1 t3_0 t4_0 t4_1 t5_0 t6_0 t6_1 t7_0 t8_0 t8_1 t9_0 t10_0 t10_1 t11_0 t12_0 t12_1 t13_0 t14_0 t14_1 t15_0 t16_0 t16_1 t17_0 t18_0 t18_1 t19_0 t20_0 t20_1 t21_0 lx96) := by
  unfold F_NH_powerModulo_a_J34
  by_cases g1 : (F_NH_need lx96) = (0 : Int32)
  ·
    rw [if_pos g1]
    by_cases g2 : ((F_Big_sign (68 : Int32) t16_0 t16_1) : Int32) ≤ (0 : Int32)
    ·
      rw [if_pos g2]
      exact K_NH_powerModulo_a_J54
    ·
      rw [if_neg g2]
      exact K_NH_powerModulo_a_J54
  ·
    rw [if_neg g1]
    exact (show kC12 ((F_NH_need lx96)) from (k_need _).to12)
theorem K_NH_powerModulo_a_J33 {x2 : Int32} {x3 : Int32} {x4 : Int32} {x5 : Int32} {t0_0 : Int32} {t0_1 : Int32} {t1_0 : (Nat → Int32)} {t2_0 : Int32} {t2_1 : Int32} {t3_0 : (Nat → Int32)} {t4_0 : Int32} {t4_1 : Int32} {t5_0 : (Nat → Int32)} {t6_0 : Int32} {t6_1 : Int32} {t7_0 : (Nat → Int32)} {t8_0 : Int32} {t8_1 : Int32} {t9_0 : (Nat → Int32)} {t10_0 : Int32} {t10_1 : Int32} {t11_0 : (Nat → Int32)} {t12_0 : Int32} {t12_1 : Int32} {t13_0 : (Nat → Int32)} {t14_0 : Int32} {t14_1 : Int32} {t15_0 : (Nat → Int32)} {t16_0 : Int32} {t16_1 : Int32} {t17_0 : (Nat → Int32)} {t18_0 : Int32} {t18_1 : Int32} {t19_0 : (Nat → Int32)} {t20_0 : Int32} {t20_1 : Int32} {t21_0 : (Nat → Int32)}  : QK_powerModulo_a (F_NH_powerModulo_a_J33 x2 x3 x4 x5 t0_0 t0_1 t1_0 t2_0 t2_1 t3_0 t4_0 t4_1 t5_0 t6_0 t6_1 t7_0 t8_0 t8_1 t9_0 t10_0 t10_1 t11_0 t12_0 t12_1 t13_0 t14_0 t14_1 t15_0 t16_0 t16_1 t17_0 t18_0 t18_1 t19_0 t20_0 t20_1 t21_0) := by
  unfold F_NH_powerModulo_a_J33
  exact K_NH_powerModulo_a_J34
theorem K_NH_powerModulo_a {x2 : Int32} {x3 : Int32} {x4 : Int32} {x5 : Int32} {t0_0 : Int32} {t0_1 : Int32} {t1_0 : (Nat → Int32)} {t2_0 : Int32} {t2_1 : Int32} {t3_0 : (Nat → Int32)} {t4_0 : Int32} {t4_1 : Int32} {t5_0 : (Nat → Int32)} {t6_0 : Int32} {t6_1 : Int32} {t7_0 : (Nat → Int32)} {t8_0 : Int32} {t8_1 : Int32} {t9_0 : (Nat → Int32)} {t10_0 : Int32} {t10_1 : Int32} {t11_0 : (Nat → Int32)} {t12_0 : Int32} {t12_1 : Int32} {t13_0 : (Nat → Int32)} {t14_0 : Int32} {t14_1 : Int32} {t15_0 : (Nat → Int32)} {t16_0 : Int32} {t16_1 : Int32} {t17_0 : (Nat → Int32)} {t18_0 : Int32} {t18_1 : Int32} {t19_0 : (Nat → Int32)} {t20_0 : Int32} {t20_1 : Int32} {t21_0 : (Nat → Int32)}  : QK_powerModulo_a (F_NH_powerModulo_a x2 x3 x4 x5 t0_0 t0_1 t1_0 t2_0 t2_1 t3_0 t4_0 t4_1 t5_0 t6_0 t6_1 t7_0 t8_0 t8_1 t9_0 t10_0 t10_1 t11_0 t12_0 t12_1 t13_0 t14_0 t14_1 t15_0 t16_0 t16_1 t17_0 t18_0 t18_1 t19_0 t20_0 t20_1 t21_0) := by
  unfold F_NH_powerModulo_a
  by_cases g1 : ((F_NH_isRegister x2) : Int32) = (0 : Int32)
  ·
    rw [if_pos g1]
    exact K_NH_powerModulo_a_J33
  ·
    rw [if_neg g1]
    by_cases g2 : ((F_NH_isRegister x3) : Int32) = (0 : Int32)
    ·
      rw [if_pos g2]
      exact K_NH_powerModulo_a_J33
    ·
      rw [if_neg g2]
      by_cases g3 : ((F_NH_isRegister x4) : Int32) = (0 : Int32)
      ·
        rw [if_pos g3]
        exact K_NH_powerModulo_a_J33
      ·
        rw [if_neg g3]
        by_cases g4 : ((F_NH_isRegister x5) : Int32) = (0 : Int32)
        ·
          rw [if_pos g4]
          exact K_NH_powerModulo_a_J33
        ·
          rw [if_neg g4]
          exact K_NH_powerModulo_a_J34
def QK_powerModulo_e (p : Int32 × Int32 × Int32 × (Nat → Int32) × Int32 × Int32 × (Nat → Int32) × Int32 × Int32 × (Nat → Int32) × Int32 × Int32 × (Nat → Int32) × Int32 × Int32 × (Nat → Int32) × Int32 × Int32 × (Nat → Int32) × Int32 × Int32 × (Nat → Int32) × Int32 × Int32 × (Nat → Int32) × Int32 × Int32 × (Nat → Int32) × Int32 × Int32 × (Nat → Int32)) : Prop := kC12 p.1
theorem K_NH_powerModulo_e_J54 {x2 : Int32} {x3 : Int32} {x4 : Int32} {x5 : Int32} {t0_0 : Int32} {t0_1 : Int32} {t1_0 : (Nat → Int32)} {t2_0 : Int32} {t2_1 : Int32} {t3_0 : (Nat → Int32)} {t4_0 : Int32} {t4_1 : Int32} {t5_0 : (Nat → Int32)} {t6_0 : Int32} {t6_1 : Int32} {t7_0 : (Nat → Int32)} {t8_0 : Int32} {t8_1 : Int32} {t9_0 : (Nat → Int32)} {t10_0 : Int32} {t10_1 : Int32} {t11_0 : (Nat → Int32)} {t12_0 : Int32} {t12_1 : Int32} {t13_0 : (Nat → Int32)} {t14_0 : Int32} {t14_1 : Int32} {t15_0 : (Nat → Int32)} {t16_0 : Int32} {t16_1 : Int32} {t17_0 : (Nat → Int32)} {t18_0 : Int32} {t18_1 : Int32} {t19_0 : (Nat → Int32)} {t20_0 : Int32} {t20_1 : Int32} {t21_0 : (Nat → Int32)} {lx96 : Int32} {lx150 : Int32}  : QK_powerModulo_e (F_NH_powerModulo_e_J54 x2 x3 x4 x5 t0_0 t0_1 t1_0 t2_0 t2_1 t3_0 t4_0 t4_1 t5_0 t6_0 t6_1 t7_0 t8_0 t8_1 t9_0 t10_0 t10_1 t11_0 t12_0 t12_1 t13_0 t14_0 t14_1 t15_0 t16_0 t16_1 t17_0 t18_0 t18_1 t19_0 t20_0 t20_1 t21_0 lx96 lx150) := by
  unfold F_NH_powerModulo_e_J54
  by_cases g1 : (F_NH_canHave lx150) = (0 : Int32)
  ·
    rw [if_pos g1]
    by_cases g2 : t18_1 = (0 : Int32)
    ·
      rw [if_pos g2]
      generalize F_Mil_modulo (68 : Int32) (68 : Int32) (220 : Int32) t2_0 t2_1 t3_0 t16_0 t16_1 t17_0 t18_0 t18_1 t19_0 t0_0 t0_1 t1_0 = p241 at *
      unfold F_NH_powerModulo_e_c117
      generalize F_Mil_powerBelow_a (68 : Int32) (p241.2.2.2.2.2.2.1 : Int32) (p241.2.2.2.2.2.2.2.1 : Int32) (p241.2.2.2.2.2.2.2.2 : (Nat → Int32)) (p241.1 : Int32) (p241.2.1 : Int32) (p241.2.2.1 : (Nat → Int32)) t4_0 t4_1 t5_0 t6_0 t6_1 t7_0 (p241.2.2.2.1 : Int32) (p241.2.2.2.2.1 : Int32) (p241.2.2.2.2.2.1 : (Nat → Int32)) = p312 at *
      unfold F_NH_powerModulo_e_c136
      have h3 := K_NH_keepWhole (x2 := x5) (t0_0 := (p312.1 : Int32)) (t0_1 := (p312.2.1 : Int32)) (t1_0 := (p312.2.2.1 : (Nat → Int32))) (t2_0 := t20_0) (t2_1 := t20_1) (t3_0 := t21_0) 
      generalize F_NH_keepWhole x5 (p312.1 : Int32) (p312.2.1 : Int32) (p312.2.2.1 : (Nat → Int32)) t20_0 t20_1 t21_0 = p347 at *
      have kkp347 := (show kC2 p347.1 from h3).to12
      unfold F_NH_powerModulo_e_c142
      by_cases g4 : p347.1 = (0 : Int32)
      ·
        rw [if_pos g4]
        exact (show kC12 (0 : Int32) from Or.inl rfl)
      ·
        rw [if_neg g4]
        exact (show kC12 (p347.1) from kkp347)
    ·
      rw [if_neg g2]
      generalize F_Mil_inverse (68 : Int32) (68 : Int32) t0_0 t0_1 t1_0 t2_0 t2_1 t3_0 t6_0 t6_1 t7_0 t8_0 t8_1 t9_0 t10_0 t10_1 t11_0 t12_0 t12_1 t13_0 t14_0 t14_1 t15_0 t16_0 t16_1 t17_0 t18_0 t18_1 t19_0 = p474 at *
      unfold F_NH_powerModulo_e_c85
      by_cases g5 : (F_NH_canHave (p474.1 : Int32)) = (0 : Int32)
      ·
        rw [if_pos g5]
        generalize F_Mil_powerBelow_a (68 : Int32) (p474.2.1 : Int32) (p474.2.2.1 : Int32) (p474.2.2.2.1 : (Nat → Int32)) (p474.2.2.2.2.1 : Int32) (p474.2.2.2.2.2.1 : Int32) (p474.2.2.2.2.2.2.1 : (Nat → Int32)) t4_0 t4_1 t5_0 (p474.2.2.2.2.2.2.2.1 : Int32) (p474.2.2.2.2.2.2.2.2.1 : Int32) (p474.2.2.2.2.2.2.2.2.2.1 : (Nat → Int32)) (p474.2.2.2.2.2.2.2.2.2.2.2.2.2.2.2.2.2.2.2.2.2.2.1 : Int32) (p474.2.2.2.2.2.2.2.2.2.2.2.2.2.2.2.2.2.2.2.2.2.2.2.1 : Int32) (p474.2.2.2.2.2.2.2.2.2.2.2.2.2.2.2.2.2.2.2.2.2.2.2.2 : (Nat → Int32)) = p570 at *
        unfold F_NH_powerModulo_e_c136_7
        have h6 := K_NH_keepWhole (x2 := x5) (t0_0 := (p570.1 : Int32)) (t0_1 := (p570.2.1 : Int32)) (t1_0 := (p570.2.2.1 : (Nat → Int32))) (t2_0 := t20_0) (t2_1 := t20_1) (t3_0 := t21_0) 
        generalize F_NH_keepWhole x5 (p570.1 : Int32) (p570.2.1 : Int32) (p570.2.2.1 : (Nat → Int32)) t20_0 t20_1 t21_0 = p605 at *
        have kkp605 := (show kC2 p605.1 from h6).to12
        unfold F_NH_powerModulo_e_c142_8
        by_cases g7 : p605.1 = (0 : Int32)
        ·
          rw [if_pos g7]
          exact (show kC12 (0 : Int32) from Or.inl rfl)
        ·
          rw [if_neg g7]
          exact (show kC12 (p605.1) from kkp605)
      ·
        rw [if_neg g5]
        exact (show kC12 ((F_NH_canHave (p474.1 : Int32))) from (k_can _).to12)
  ·
    rw [if_neg g1]
    exact (show kC12 ((F_NH_canHave lx150)) from (k_can _).to12)
theorem K_NH_powerModulo_e_J34 {x2 : Int32} {x3 : Int32} {x4 : Int32} {x5 : Int32} {t0_0 : Int32} {t0_1 : Int32} {t1_0 : (Nat → Int32)} {t2_0 : Int32} {t2_1 : Int32} {t3_0 : (Nat → Int32)} {t4_0 : Int32} {t4_1 : Int32} {t5_0 : (Nat → Int32)} {t6_0 : Int32} {t6_1 : Int32} {t7_0 : (Nat → Int32)} {t8_0 : Int32} {t8_1 : Int32} {t9_0 : (Nat → Int32)} {t10_0 : Int32} {t10_1 : Int32} {t11_0 : (Nat → Int32)} {t12_0 : Int32} {t12_1 : Int32} {t13_0 : (Nat → Int32)} {t14_0 : Int32} {t14_1 : Int32} {t15_0 : (Nat → Int32)} {t16_0 : Int32} {t16_1 : Int32} {t17_0 : (Nat → Int32)} {t18_0 : Int32} {t18_1 : Int32} {t19_0 : (Nat → Int32)} {t20_0 : Int32} {t20_1 : Int32} {t21_0 : (Nat → Int32)} {lx96 : Int32}  : QK_powerModulo_e (F_NH_powerModulo_e_J34 x2 x3 x4 x5 t0_0 t0_1 t1_0 t2_0 t2_1 t3_0 t4_0 t4_1 t5_0 t6_0 t6_1 t7_0 t8_0 t8_1 t9_0 t10_0 t10_1 t11_0 t12_0 t12_1 t13_0 t14_0 t14_1 t15_0 t16_0 t16_1 t17_0 t18_0 t18_1 t19_0 t20_0 t20_1 t21_0 lx96) := by
  unfold F_NH_powerModulo_e_J34
  by_cases g1 : (F_NH_need lx96) = (0 : Int32)
  ·
    rw [if_pos g1]
    by_cases g2 : ((F_Big_sign (68 : Int32) t18_0 t18_1) : Int32) ≤ (0 : Int32)
    ·
      rw [if_pos g2]
      exact K_NH_powerModulo_e_J54
    ·
      rw [if_neg g2]
      exact K_NH_powerModulo_e_J54
  ·
    rw [if_neg g1]
    exact (show kC12 ((F_NH_need lx96)) from (k_need _).to12)
theorem K_NH_powerModulo_e_J33 {x2 : Int32} {x3 : Int32} {x4 : Int32} {x5 : Int32} {t0_0 : Int32} {t0_1 : Int32} {t1_0 : (Nat → Int32)} {t2_0 : Int32} {t2_1 : Int32} {t3_0 : (Nat → Int32)} {t4_0 : Int32} {t4_1 : Int32} {t5_0 : (Nat → Int32)} {t6_0 : Int32} {t6_1 : Int32} {t7_0 : (Nat → Int32)} {t8_0 : Int32} {t8_1 : Int32} {t9_0 : (Nat → Int32)} {t10_0 : Int32} {t10_1 : Int32} {t11_0 : (Nat → Int32)} {t12_0 : Int32} {t12_1 : Int32} {t13_0 : (Nat → Int32)} {t14_0 : Int32} {t14_1 : Int32} {t15_0 : (Nat → Int32)} {t16_0 : Int32} {t16_1 : Int32} {t17_0 : (Nat → Int32)} {t18_0 : Int32} {t18_1 : Int32} {t19_0 : (Nat → Int32)} {t20_0 : Int32} {t20_1 : Int32} {t21_0 : (Nat → Int32)}  : QK_powerModulo_e (F_NH_powerModulo_e_J33 x2 x3 x4 x5 t0_0 t0_1 t1_0 t2_0 t2_1 t3_0 t4_0 t4_1 t5_0 t6_0 t6_1 t7_0 t8_0 t8_1 t9_0 t10_0 t10_1 t11_0 t12_0 t12_1 t13_0 t14_0 t14_1 t15_0 t16_0 t16_1 t17_0 t18_0 t18_1 t19_0 t20_0 t20_1 t21_0) := by
  unfold F_NH_powerModulo_e_J33
  exact K_NH_powerModulo_e_J34
theorem K_NH_powerModulo_e {x2 : Int32} {x3 : Int32} {x4 : Int32} {x5 : Int32} {t0_0 : Int32} {t0_1 : Int32} {t1_0 : (Nat → Int32)} {t2_0 : Int32} {t2_1 : Int32} {t3_0 : (Nat → Int32)} {t4_0 : Int32} {t4_1 : Int32} {t5_0 : (Nat → Int32)} {t6_0 : Int32} {t6_1 : Int32} {t7_0 : (Nat → Int32)} {t8_0 : Int32} {t8_1 : Int32} {t9_0 : (Nat → Int32)} {t10_0 : Int32} {t10_1 : Int32} {t11_0 : (Nat → Int32)} {t12_0 : Int32} {t12_1 : Int32} {t13_0 : (Nat → Int32)} {t14_0 : Int32} {t14_1 : Int32} {t15_0 : (Nat → Int32)} {t16_0 : Int32} {t16_1 : Int32} {t17_0 : (Nat → Int32)} {t18_0 : Int32} {t18_1 : Int32} {t19_0 : (Nat → Int32)} {t20_0 : Int32} {t20_1 : Int32} {t21_0 : (Nat → Int32)}  : QK_powerModulo_e (F_NH_powerModulo_e x2 x3 x4 x5 t0_0 t0_1 t1_0 t2_0 t2_1 t3_0 t4_0 t4_1 t5_0 t6_0 t6_1 t7_0 t8_0 t8_1 t9_0 t10_0 t10_1 t11_0 t12_0 t12_1 t13_0 t14_0 t14_1 t15_0 t16_0 t16_1 t17_0 t18_0 t18_1 t19_0 t20_0 t20_1 t21_0) := by
  unfold F_NH_powerModulo_e
  by_cases g1 : ((F_NH_isRegister x2) : Int32) = (0 : Int32)
  ·
    rw [if_pos g1]
    exact K_NH_powerModulo_e_J33
  ·
    rw [if_neg g1]
    by_cases g2 : ((F_NH_isRegister x3) : Int32) = (0 : Int32)
    ·
      rw [if_pos g2]
      exact K_NH_powerModulo_e_J33
    ·
      rw [if_neg g2]
      by_cases g3 : ((F_NH_isRegister x4) : Int32) = (0 : Int32)
      ·
        rw [if_pos g3]
        exact K_NH_powerModulo_e_J33
      ·
        rw [if_neg g3]
        by_cases g4 : ((F_NH_isRegister x5) : Int32) = (0 : Int32)
        ·
          rw [if_pos g4]
          exact K_NH_powerModulo_e_J33
        ·
          rw [if_neg g4]
          exact K_NH_powerModulo_e_J34
def QK_powerModulo_ae (p : Int32 × Int32 × Int32 × (Nat → Int32) × Int32 × Int32 × (Nat → Int32) × Int32 × Int32 × (Nat → Int32) × Int32 × Int32 × (Nat → Int32) × Int32 × Int32 × (Nat → Int32) × Int32 × Int32 × (Nat → Int32) × Int32 × Int32 × (Nat → Int32) × Int32 × Int32 × (Nat → Int32) × Int32 × Int32 × (Nat → Int32) × Int32 × Int32 × (Nat → Int32)) : Prop := kC12 p.1
theorem K_NH_powerModulo_ae_J54 {x2 : Int32} {x3 : Int32} {x4 : Int32} {x5 : Int32} {t0_0 : Int32} {t0_1 : Int32} {t1_0 : (Nat → Int32)} {t2_0 : Int32} {t2_1 : Int32} {t3_0 : (Nat → Int32)} {t4_0 : Int32} {t4_1 : Int32} {t5_0 : (Nat → Int32)} {t6_0 : Int32} {t6_1 : Int32} {t7_0 : (Nat → Int32)} {t8_0 : Int32} {t8_1 : Int32} {t9_0 : (Nat → Int32)} {t10_0 : Int32} {t10_1 : Int32} {t11_0 : (Nat → Int32)} {t12_0 : Int32} {t12_1 : Int32} {t13_0 : (Nat → Int32)} {t14_0 : Int32} {t14_1 : Int32} {t15_0 : (Nat → Int32)} {t16_0 : Int32} {t16_1 : Int32} {t17_0 : (Nat → Int32)} {t18_0 : Int32} {t18_1 : Int32} {t19_0 : (Nat → Int32)} {lx88 : Int32} {lx140 : Int32}  : QK_powerModulo_ae (F_NH_powerModulo_ae_J54 x2 x3 x4 x5 t0_0 t0_1 t1_0 t2_0 t2_1 t3_0 t4_0 t4_1 t5_0 t6_0 t6_1 t7_0 t8_0 t8_1 t9_0 t10_0 t10_1 t11_0 t12_0 t12_1 t13_0 t14_0 t14_1 t15_0 t16_0 t16_1 t17_0 t18_0 t18_1 t19_0 lx88 lx140) := by
  unfold F_NH_powerModulo_ae_J54
  by_cases g1 : (F_NH_canHave lx140) = (0 : Int32)
  ·
    rw [if_pos g1]
    by_cases g2 : t16_1 = (0 : Int32)
    ·
      rw [if_pos g2]
      generalize F_Mil_modulo_a (68 : Int32) (220 : Int32) t2_0 t2_1 t3_0 t16_0 t16_1 t17_0 t0_0 t0_1 t1_0 = p229 at *
      unfold F_NH_powerModulo_ae_c117
      generalize F_Mil_powerBelow_a (68 : Int32) (p229.2.2.2.2.2.2.1 : Int32) (p229.2.2.2.2.2.2.2.1 : Int32) (p229.2.2.2.2.2.2.2.2 : (Nat → Int32)) (p229.1 : Int32) (p229.2.1 : Int32) (p229.2.2.1 : (Nat → Int32)) t4_0 t4_1 t5_0 t6_0 t6_1 t7_0 (p229.2.2.2.1 : Int32) (p229.2.2.2.2.1 : Int32) (p229.2.2.2.2.2.1 : (Nat → Int32)) = p300 at *
      unfold F_NH_powerModulo_ae_c136
      have h3 := K_NH_keepWhole (x2 := x5) (t0_0 := (p300.1 : Int32)) (t0_1 := (p300.2.1 : Int32)) (t1_0 := (p300.2.2.1 : (Nat → Int32))) (t2_0 := t18_0) (t2_1 := t18_1) (t3_0 := t19_0) 
      generalize F_NH_keepWhole x5 (p300.1 : Int32) (p300.2.1 : Int32) (p300.2.2.1 : (Nat → Int32)) t18_0 t18_1 t19_0 = p335 at *
      have kkp335 := (show kC2 p335.1 from h3).to12
      unfold F_NH_powerModulo_ae_c142
      by_cases g4 : p335.1 = (0 : Int32)
      ·
        rw [if_pos g4]
        exact (show kC12 (0 : Int32) from Or.inl rfl)
      ·
        rw [if_neg g4]
        exact (show kC12 (p335.1) from kkp335)
    ·
      rw [if_neg g2]
      generalize F_Mil_inverse_a (68 : Int32) t0_0 t0_1 t1_0 t2_0 t2_1 t3_0 t6_0 t6_1 t7_0 t8_0 t8_1 t9_0 t10_0 t10_1 t11_0 t12_0 t12_1 t13_0 t14_0 t14_1 t15_0 t16_0 t16_1 t17_0 = p459 at *
      unfold F_NH_powerModulo_ae_c85
      by_cases g5 : (F_NH_canHave (p459.1 : Int32)) = (0 : Int32)
      ·
        rw [if_pos g5]
        generalize F_Mil_powerBelow_a (68 : Int32) (p459.2.1 : Int32) (p459.2.2.1 : Int32) (p459.2.2.2.1 : (Nat → Int32)) (p459.2.2.2.2.1 : Int32) (p459.2.2.2.2.2.1 : Int32) (p459.2.2.2.2.2.2.1 : (Nat → Int32)) t4_0 t4_1 t5_0 (p459.2.2.2.2.2.2.2.1 : Int32) (p459.2.2.2.2.2.2.2.2.1 : Int32) (p459.2.2.2.2.2.2.2.2.2.1 : (Nat → Int32)) (p459.2.2.2.2.2.2.2.2.2.2.2.2.2.2.2.2.2.2.2.2.2.2.1 : Int32) (p459.2.2.2.2.2.2.2.2.2.2.2.2.2.2.2.2.2.2.2.2.2.2.2.1 : Int32) (p459.2.2.2.2.2.2.2.2.2.2.2.2.2.2.2.2.2.2.2.2.2.2.2.2 : (Nat → Int32)) = p555 at *
        unfold F_NH_powerModulo_ae_c136_7
        have h6 := K_NH_keepWhole (x2 := x5) (t0_0 := (p555.1 : Int32)) (t0_1 := (p555.2.1 : Int32)) (t1_0 := (p555.2.2.1 : (Nat → Int32))) (t2_0 := t18_0) (t2_1 := t18_1) (t3_0 := t19_0) 
        generalize F_NH_keepWhole x5 (p555.1 : Int32) (p555.2.1 : Int32) (p555.2.2.1 : (Nat → Int32)) t18_0 t18_1 t19_0 = p590 at *
        have kkp590 := (show kC2 p590.1 from h6).to12
        unfold F_NH_powerModulo_ae_c142_8
        by_cases g7 : p590.1 = (0 : Int32)
        ·
          rw [if_pos g7]
          exact (show kC12 (0 : Int32) from Or.inl rfl)
        ·
          rw [if_neg g7]
          exact (show kC12 (p590.1) from kkp590)
      ·
        rw [if_neg g5]
        exact (show kC12 ((F_NH_canHave (p459.1 : Int32))) from (k_can _).to12)
  ·
    rw [if_neg g1]
    exact (show kC12 ((F_NH_canHave lx140)) from (k_can _).to12)
theorem K_NH_powerModulo_ae_J34 {x2 : Int32} {x3 : Int32} {x4 : Int32} {x5 : Int32} {t0_0 : Int32} {t0_1 : Int32} {t1_0 : (Nat → Int32)} {t2_0 : Int32} {t2_1 : Int32} {t3_0 : (Nat → Int32)} {t4_0 : Int32} {t4_1 : Int32} {t5_0 : (Nat → Int32)} {t6_0 : Int32} {t6_1 : Int32} {t7_0 : (Nat → Int32)} {t8_0 : Int32} {t8_1 : Int32} {t9_0 : (Nat → Int32)} {t10_0 : Int32} {t10_1 : Int32} {t11_0 : (Nat → Int32)} {t12_0 : Int32} {t12_1 : Int32} {t13_0 : (Nat → Int32)} {t14_0 : Int32} {t14_1 : Int32} {t15_0 : (Nat → Int32)} {t16_0 : Int32} {t16_1 : Int32} {t17_0 : (Nat → Int32)} {t18_0 : Int32} {t18_1 : Int32} {t19_0 : (Nat → Int32)} {lx88 : Int32}  : QK_powerModulo_ae (F_NH_powerModulo_ae_J34 x2 x3 x4 x5 t0_0 t0_1 t1_0 t2_0 t2_1 t3_0 t4_0 t4_1 t5_0 t6_0 t6_1 t7_0 t8_0 t8_1 t9_0 t10_0 t10_1 t11_0 t12_0 t12_1 t13_0 t14_0 t14_1 t15_0 t16_0 t16_1 t17_0 t18_0 t18_1 t19_0 lx88) := by
  unfold F_NH_powerModulo_ae_J34
  by_cases g1 : (F_NH_need lx88) = (0 : Int32)
  ·
    rw [if_pos g1]
    by_cases g2 : ((F_Big_sign (68 : Int32) t16_0 t16_1) : Int32) ≤ (0 : Int32)
    ·
      rw [if_pos g2]
      exact K_NH_powerModulo_ae_J54
    ·
      rw [if_neg g2]
      exact K_NH_powerModulo_ae_J54
  ·
    rw [if_neg g1]
    exact (show kC12 ((F_NH_need lx88)) from (k_need _).to12)
theorem K_NH_powerModulo_ae_J33 {x2 : Int32} {x3 : Int32} {x4 : Int32} {x5 : Int32} {t0_0 : Int32} {t0_1 : Int32} {t1_0 : (Nat → Int32)} {t2_0 : Int32} {t2_1 : Int32} {t3_0 : (Nat → Int32)} {t4_0 : Int32} {t4_1 : Int32} {t5_0 : (Nat → Int32)} {t6_0 : Int32} {t6_1 : Int32} {t7_0 : (Nat → Int32)} {t8_0 : Int32} {t8_1 : Int32} {t9_0 : (Nat → Int32)} {t10_0 : Int32} {t10_1 : Int32} {t11_0 : (Nat → Int32)} {t12_0 : Int32} {t12_1 : Int32} {t13_0 : (Nat → Int32)} {t14_0 : Int32} {t14_1 : Int32} {t15_0 : (Nat → Int32)} {t16_0 : Int32} {t16_1 : Int32} {t17_0 : (Nat → Int32)} {t18_0 : Int32} {t18_1 : Int32} {t19_0 : (Nat → Int32)}  : QK_powerModulo_ae (F_NH_powerModulo_ae_J33 x2 x3 x4 x5 t0_0 t0_1 t1_0 t2_0 t2_1 t3_0 t4_0 t4_1 t5_0 t6_0 t6_1 t7_0 t8_0 t8_1 t9_0 t10_0 t10_1 t11_0 t12_0 t12_1 t13_0 t14_0 t14_1 t15_0 t16_0 t16_1 t17_0 t18_0 t18_1 t19_0) := by
  unfold F_NH_powerModulo_ae_J33
  exact K_NH_powerModulo_ae_J34
theorem K_NH_powerModulo_ae {x2 : Int32} {x3 : Int32} {x4 : Int32} {x5 : Int32} {t0_0 : Int32} {t0_1 : Int32} {t1_0 : (Nat → Int32)} {t2_0 : Int32} {t2_1 : Int32} {t3_0 : (Nat → Int32)} {t4_0 : Int32} {t4_1 : Int32} {t5_0 : (Nat → Int32)} {t6_0 : Int32} {t6_1 : Int32} {t7_0 : (Nat → Int32)} {t8_0 : Int32} {t8_1 : Int32} {t9_0 : (Nat → Int32)} {t10_0 : Int32} {t10_1 : Int32} {t11_0 : (Nat → Int32)} {t12_0 : Int32} {t12_1 : Int32} {t13_0 : (Nat → Int32)} {t14_0 : Int32} {t14_1 : Int32} {t15_0 : (Nat → Int32)} {t16_0 : Int32} {t16_1 : Int32} {t17_0 : (Nat → Int32)} {t18_0 : Int32} {t18_1 : Int32} {t19_0 : (Nat → Int32)}  : QK_powerModulo_ae (F_NH_powerModulo_ae x2 x3 x4 x5 t0_0 t0_1 t1_0 t2_0 t2_1 t3_0 t4_0 t4_1 t5_0 t6_0 t6_1 t7_0 t8_0 t8_1 t9_0 t10_0 t10_1 t11_0 t12_0 t12_1 t13_0 t14_0 t14_1 t15_0 t16_0 t16_1 t17_0 t18_0 t18_1 t19_0) := by
  unfold F_NH_powerModulo_ae
  by_cases g1 : ((F_NH_isRegister x2) : Int32) = (0 : Int32)
  ·
    rw [if_pos g1]
    exact K_NH_powerModulo_ae_J33
  ·
    rw [if_neg g1]
    by_cases g2 : ((F_NH_isRegister x3) : Int32) = (0 : Int32)
    ·
      rw [if_pos g2]
      exact K_NH_powerModulo_ae_J33
    ·
      rw [if_neg g2]
      by_cases g3 : ((F_NH_isRegister x4) : Int32) = (0 : Int32)
      ·
        rw [if_pos g3]
        exact K_NH_powerModulo_ae_J33
      ·
        rw [if_neg g3]
        by_cases g4 : ((F_NH_isRegister x5) : Int32) = (0 : Int32)
        ·
          rw [if_pos g4]
          exact K_NH_powerModulo_ae_J33
        ·
          rw [if_neg g4]
          exact K_NH_powerModulo_ae_J34
def QK_powerModulo_t (p : Int32 × Int32 × Int32 × (Nat → Int32) × Int32 × Int32 × (Nat → Int32) × Int32 × Int32 × (Nat → Int32) × Int32 × Int32 × (Nat → Int32) × Int32 × Int32 × (Nat → Int32) × Int32 × Int32 × (Nat → Int32) × Int32 × Int32 × (Nat → Int32) × Int32 × Int32 × (Nat → Int32) × Int32 × Int32 × (Nat → Int32)) : Prop := kC12 p.1
theorem K_NH_powerModulo_t_J54 {x2 : Int32} {x3 : Int32} {x4 : Int32} {x5 : Int32} {t0_0 : Int32} {t0_1 : Int32} {t1_0 : (Nat → Int32)} {t2_0 : Int32} {t2_1 : Int32} {t3_0 : (Nat → Int32)} {t4_0 : Int32} {t4_1 : Int32} {t5_0 : (Nat → Int32)} {t6_0 : Int32} {t6_1 : Int32} {t7_0 : (Nat → Int32)} {t8_0 : Int32} {t8_1 : Int32} {t9_0 : (Nat → Int32)} {t10_0 : Int32} {t10_1 : Int32} {t11_0 : (Nat → Int32)} {t12_0 : Int32} {t12_1 : Int32} {t13_0 : (Nat → Int32)} {t14_0 : Int32} {t14_1 : Int32} {t15_0 : (Nat → Int32)} {t16_0 : Int32} {t16_1 : Int32} {t17_0 : (Nat → Int32)} {t18_0 : Int32} {t18_1 : Int32} {t19_0 : (Nat → Int32)} {t20_0 : Int32} {t20_1 : Int32} {t21_0 : (Nat → Int32)} {lx96 : Int32} {lx150 : Int32}  : QK_powerModulo_t (F_NH_powerModulo_t_J54 x2 x3 x4 x5 t0_0 t0_1 t1_0 t2_0 t2_1 t3_0 t4_0 t4_1 t5_0 t6_0 t6_1 t7_0 t8_0 t8_1 t9_0 t10_0 t10_1 t11_0 t12_0 t12_1 t13_0 t14_0 t14_1 t15_0 t16_0 t16_1 t17_0 t18_0 t18_1 t19_0 t20_0 t20_1 t21_0 lx96 lx150) := by
  unfold F_NH_powerModulo_t_J54
  by_cases g1 : (F_NH_canHave lx150) = (0 : Int32)
  ·
    rw [if_pos g1]
    by_cases g2 : t18_1 = (0 : Int32)
    ·
      rw [if_pos g2]
      generalize F_Mil_modulo (68 : Int32) (68 : Int32) (220 : Int32) t2_0 t2_1 t3_0 t16_0 t16_1 t17_0 t20_0 t20_1 t21_0 t0_0 t0_1 t1_0 = p241 at *
      unfold F_NH_powerModulo_t_c117
      generalize F_Mil_powerBelow (68 : Int32) (68 : Int32) (p241.2.2.2.2.2.2.1 : Int32) (p241.2.2.2.2.2.2.2.1 : Int32) (p241.2.2.2.2.2.2.2.2 : (Nat → Int32)) (p241.1 : Int32) (p241.2.1 : Int32) (p241.2.2.1 : (Nat → Int32)) t4_0 t4_1 t5_0 t6_0 t6_1 t7_0 t18_0 t18_1 t19_0 (p241.2.2.2.1 : Int32) (p241.2.2.2.2.1 : Int32) (p241.2.2.2.2.2.1 : (Nat → Int32)) = p312 at *
      unfold F_NH_powerModulo_t_c136
      have h3 := K_NH_keepWhole (x2 := x5) (t0_0 := (p312.1 : Int32)) (t0_1 := (p312.2.1 : Int32)) (t1_0 := (p312.2.2.1 : (Nat → Int32))) (t2_0 := (p312.2.2.2.2.2.2.2.2.2.2.2.2.1 : Int32)) (t2_1 := (p312.2.2.2.2.2.2.2.2.2.2.2.2.2.1 : Int32)) (t3_0 := (p312.2.2.2.2.2.2.2.2.2.2.2.2.2.2 : (Nat → Int32))) 
      generalize F_NH_keepWhole x5 (p312.1 : Int32) (p312.2.1 : Int32) (p312.2.2.1 : (Nat → Int32)) (p312.2.2.2.2.2.2.2.2.2.2.2.2.1 : Int32) (p312.2.2.2.2.2.2.2.2.2.2.2.2.2.1 : Int32) (p312.2.2.2.2.2.2.2.2.2.2.2.2.2.2 : (Nat → Int32)) = p347 at *
      have kkp347 := (show kC2 p347.1 from h3).to12
      unfold F_NH_powerModulo_t_c142
      by_cases g4 : p347.1 = (0 : Int32)
      ·
        rw [if_pos g4]
        exact (show kC12 (0 : Int32) from Or.inl rfl)
      ·
        rw [if_neg g4]
        exact (show kC12 (p347.1) from kkp347)
    ·
      rw [if_neg g2]
      generalize F_Mil_inverse (68 : Int32) (68 : Int32) t0_0 t0_1 t1_0 t2_0 t2_1 t3_0 t6_0 t6_1 t7_0 t8_0 t8_1 t9_0 t10_0 t10_1 t11_0 t12_0 t12_1 t13_0 t14_0 t14_1 t15_0 t16_0 t16_1 t17_0 t20_0 t20_1 t21_0 = p474 at *
      unfold F_NH_powerModulo_t_c85
      by_cases g5 : (F_NH_canHave (p474.1 : Int32)) = (0 : Int32)
      ·
        rw [if_pos g5]
        generalize F_Mil_powerBelow (68 : Int32) (68 : Int32) (p474.2.1 : Int32) (p474.2.2.1 : Int32) (p474.2.2.2.1 : (Nat → Int32)) (p474.2.2.2.2.1 : Int32) (p474.2.2.2.2.2.1 : Int32) (p474.2.2.2.2.2.2.1 : (Nat → Int32)) t4_0 t4_1 t5_0 (p474.2.2.2.2.2.2.2.1 : Int32) (p474.2.2.2.2.2.2.2.2.1 : Int32) (p474.2.2.2.2.2.2.2.2.2.1 : (Nat → Int32)) t18_0 t18_1 t19_0 (p474.2.2.2.2.2.2.2.2.2.2.2.2.2.2.2.2.2.2.2.2.2.2.1 : Int32) (p474.2.2.2.2.2.2.2.2.2.2.2.2.2.2.2.2.2.2.2.2.2.2.2.1 : Int32) (p474.2.2.2.2.2.2.2.2.2.2.2.2.2.2.2.2.2.2.2.2.2.2.2.2 : (Nat → Int32)) = p570 at *
        unfold F_NH_powerModulo_t_c136_7
        have h6 := K_NH_keepWhole (x2 := x5) (t0_0 := (p570.1 : Int32)) (t0_1 := (p570.2.1 : Int32)) (t1_0 := (p570.2.2.1 : (Nat → Int32))) (t2_0 := (p570.2.2.2.2.2.2.2.2.2.2.2.2.1 : Int32)) (t2_1 := (p570.2.2.2.2.2.2.2.2.2.2.2.2.2.1 : Int32)) (t3_0 := (p570.2.2.2.2.2.2.2.2.2.2.2.2.2.2 : (Nat → Int32))) 
        generalize F_NH_keepWhole x5 (p570.1 : Int32) (p570.2.1 : Int32) (p570.2.2.1 : (Nat → Int32)) (p570.2.2.2.2.2.2.2.2.2.2.2.2.1 : Int32) (p570.2.2.2.2.2.2.2.2.2.2.2.2.2.1 : Int32) (p570.2.2.2.2.2.2.2.2.2.2.2.2.2.2 : (Nat → Int32)) = p605 at *
        have kkp605 := (show kC2 p605.1 from h6).to12
        unfold F_NH_powerModulo_t_c142_8
        by_cases g7 : p605.1 = (0 : Int32)
        ·
          rw [if_pos g7]
          exact (show kC12 (0 : Int32) from Or.inl rfl)
        ·
          rw [if_neg g7]
          exact (show kC12 (p605.1) from kkp605)
      ·
        rw [if_neg g5]
        exact (show kC12 ((F_NH_canHave (p474.1 : Int32))) from (k_can _).to12)
  ·
    rw [if_neg g1]
    exact (show kC12 ((F_NH_canHave lx150)) from (k_can _).to12)
theorem K_NH_powerModulo_t_J34 {x2 : Int32} {x3 : Int32} {x4 : Int32} {x5 : Int32} {t0_0 : Int32} {t0_1 : Int32} {t1_0 : (Nat → Int32)} {t2_0 : Int32} {t2_1 : Int32} {t3_0 : (Nat → Int32)} {t4_0 : Int32} {t4_1 : Int32} {t5_0 : (Nat → Int32)} {t6_0 : Int32} {t6_1 : Int32} {t7_0 : (Nat → Int32)} {t8_0 : Int32} {t8_1 : Int32} {t9_0 : (Nat → Int32)} {t10_0 : Int32} {t10_1 : Int32} {t11_0 : (Nat → Int32)} {t12_0 : Int32} {t12_1 : Int32} {t13_0 : (Nat → Int32)} {t14_0 : Int32} {t14_1 : Int32} {t15_0 : (Nat → Int32)} {t16_0 : Int32} {t16_1 : Int32} {t17_0 : (Nat → Int32)} {t18_0 : Int32} {t18_1 : Int32} {t19_0 : (Nat → Int32)} {t20_0 : Int32} {t20_1 : Int32} {t21_0 : (Nat → Int32)} {lx96 : Int32}  : QK_powerModulo_t (F_NH_powerModulo_t_J34 x2 x3 x4 x5 t0_0 t0_1 t1_0 t2_0 t2_1 t3_0 t4_0 t4_1 t5_0 t6_0 t6_1 t7_0 t8_0 t8_1 t9_0 t10_0 t10_1 t11_0 t12_0 t12_1 t13_0 t14_0 t14_1 t15_0 t16_0 t16_1 t17_0 t18_0 t18_1 t19_0 t20_0 t20_1 t21_0 lx96) := by
  unfold F_NH_powerModulo_t_J34
  by_cases g1 : (F_NH_need lx96) = (0 : Int32)
  ·
    rw [if_pos g1]
    by_cases g2 : ((F_Big_sign (68 : Int32) t20_0 t20_1) : Int32) ≤ (0 : Int32)
    ·
      rw [if_pos g2]
      exact K_NH_powerModulo_t_J54
    ·
      rw [if_neg g2]
      exact K_NH_powerModulo_t_J54
  ·
    rw [if_neg g1]
    exact (show kC12 ((F_NH_need lx96)) from (k_need _).to12)
theorem K_NH_powerModulo_t_J33 {x2 : Int32} {x3 : Int32} {x4 : Int32} {x5 : Int32} {t0_0 : Int32} {t0_1 : Int32} {t1_0 : (Nat → Int32)} {t2_0 : Int32} {t2_1 : Int32} {t3_0 : (Nat → Int32)} {t4_0 : Int32} {t4_1 : Int32} {t5_0 : (Nat → Int32)} {t6_0 : Int32} {t6_1 : Int32} {t7_0 : (Nat → Int32)} {t8_0 : Int32} {t8_1 : Int32} {t9_0 : (Nat → Int32)} {t10_0 : Int32} {t10_1 : Int32} {t11_0 : (Nat → Int32)} {t12_0 : Int32} {t12_1 : Int32} {t13_0 : (Nat → Int32)} {t14_0 : Int32} {t14_1 : Int32} {t15_0 : (Nat → Int32)} {t16_0 : Int32} {t16_1 : Int32} {t17_0 : (Nat → Int32)} {t18_0 : Int32} {t18_1 : Int32} {t19_0 : (Nat → Int32)} {t20_0 : Int32} {t20_1 : Int32} {t21_0 : (Nat → Int32)}  : QK_powerModulo_t (F_NH_powerModulo_t_J33 x2 x3 x4 x5 t0_0 t0_1 t1_0 t2_0 t2_1 t3_0 t4_0 t4_1 t5_0 t6_0 t6_1 t7_0 t8_0 t8_1 t9_0 t10_0 t10_1 t11_0 t12_0 t12_1 t13_0 t14_0 t14_1 t15_0 t16_0 t16_1 t17_0 t18_0 t18_1 t19_0 t20_0 t20_1 t21_0) := by
  unfold F_NH_powerModulo_t_J33
  exact K_NH_powerModulo_t_J34
theorem K_NH_powerModulo_t {x2 : Int32} {x3 : Int32} {x4 : Int32} {x5 : Int32} {t0_0 : Int32} {t0_1 : Int32} {t1_0 : (Nat → Int32)} {t2_0 : Int32} {t2_1 : Int32} {t3_0 : (Nat → Int32)} {t4_0 : Int32} {t4_1 : Int32} {t5_0 : (Nat → Int32)} {t6_0 : Int32} {t6_1 : Int32} {t7_0 : (Nat → Int32)} {t8_0 : Int32} {t8_1 : Int32} {t9_0 : (Nat → Int32)} {t10_0 : Int32} {t10_1 : Int32} {t11_0 : (Nat → Int32)} {t12_0 : Int32} {t12_1 : Int32} {t13_0 : (Nat → Int32)} {t14_0 : Int32} {t14_1 : Int32} {t15_0 : (Nat → Int32)} {t16_0 : Int32} {t16_1 : Int32} {t17_0 : (Nat → Int32)} {t18_0 : Int32} {t18_1 : Int32} {t19_0 : (Nat → Int32)} {t20_0 : Int32} {t20_1 : Int32} {t21_0 : (Nat → Int32)}  : QK_powerModulo_t (F_NH_powerModulo_t x2 x3 x4 x5 t0_0 t0_1 t1_0 t2_0 t2_1 t3_0 t4_0 t4_1 t5_0 t6_0 t6_1 t7_0 t8_0 t8_1 t9_0 t10_0 t10_1 t11_0 t12_0 t12_1 t13_0 t14_0 t14_1 t15_0 t16_0 t16_1 t17_0 t18_0 t18_1 t19_0 t20_0 t20_1 t21_0) := by
  unfold F_NH_powerModulo_t
  by_cases g1 : ((F_NH_isRegister x2) : Int32) = (0 : Int32)
  ·
    rw [if_pos g1]
    exact K_NH_powerModulo_t_J33
  ·
    rw [if_neg g1]
    by_cases g2 : ((F_NH_isRegister x3) : Int32) = (0 : Int32)
    ·
      rw [if_pos g2]
      exact K_NH_powerModulo_t_J33
    ·
      rw [if_neg g2]
      by_cases g3 : ((F_NH_isRegister x4) : Int32) = (0 : Int32)
      ·
        rw [if_pos g3]
        exact K_NH_powerModulo_t_J33
      ·
        rw [if_neg g3]
        by_cases g4 : ((F_NH_isRegister x5) : Int32) = (0 : Int32)
        ·
          rw [if_pos g4]
          exact K_NH_powerModulo_t_J33
        ·
          rw [if_neg g4]
          exact K_NH_powerModulo_t_J34
def QK_powerModulo_at (p : Int32 × Int32 × Int32 × (Nat → Int32) × Int32 × Int32 × (Nat → Int32) × Int32 × Int32 × (Nat → Int32) × Int32 × Int32 × (Nat → Int32) × Int32 × Int32 × (Nat → Int32) × Int32 × Int32 × (Nat → Int32) × Int32 × Int32 × (Nat → Int32) × Int32 × Int32 × (Nat → Int32) × Int32 × Int32 × (Nat → Int32)) : Prop := kC12 p.1
theorem K_NH_powerModulo_at_J54 {x2 : Int32} {x3 : Int32} {x4 : Int32} {x5 : Int32} {t0_0 : Int32} {t0_1 : Int32} {t1_0 : (Nat → Int32)} {t2_0 : Int32} {t2_1 : Int32} {t3_0 : (Nat → Int32)} {t4_0 : Int32} {t4_1 : Int32} {t5_0 : (Nat → Int32)} {t6_0 : Int32} {t6_1 : Int32} {t7_0 : (Nat → Int32)} {t8_0 : Int32} {t8_1 : Int32} {t9_0 : (Nat → Int32)} {t10_0 : Int32} {t10_1 : Int32} {t11_0 : (Nat → Int32)} {t12_0 : Int32} {t12_1 : Int32} {t13_0 : (Nat → Int32)} {t14_0 : Int32} {t14_1 : Int32} {t15_0 : (Nat → Int32)} {t16_0 : Int32} {t16_1 : Int32} {t17_0 : (Nat → Int32)} {t18_0 : Int32} {t18_1 : Int32} {t19_0 : (Nat → Int32)} {lx88 : Int32} {lx140 : Int32}  : QK_powerModulo_at (F_NH_powerModulo_at_J54 x2 x3 x4 x5 t0_0 t0_1 t1_0 t2_0 t2_1 t3_0 t4_0 t4_1 t5_0 t6_0 t6_1 t7_0 t8_0 t8_1 t9_0 t10_0 t10_1 t11_0 t12_0 t12_1 t13_0 t14_0 t14_1 t15_0 t16_0 t16_1 t17_0 t18_0 t18_1 t19_0 lx88 lx140) := by
  unfold F_NH_powerModulo_at_J54
  by_cases g1 : (F_NH_canHave lx140) = (0 : Int32)
  ·
    rw [if_pos g1]
    by_cases g2 : t18_1 = (0 : Int32)
    ·
      rw [if_pos g2]
      generalize F_Mil_modulo_a (68 : Int32) (220 : Int32) t2_0 t2_1 t3_0 t16_0 t16_1 t17_0 t0_0 t0_1 t1_0 = p229 at *
      unfold F_NH_powerModulo_at_c117
      generalize F_Mil_powerBelow (68 : Int32) (68 : Int32) (p229.2.2.2.2.2.2.1 : Int32) (p229.2.2.2.2.2.2.2.1 : Int32) (p229.2.2.2.2.2.2.2.2 : (Nat → Int32)) (p229.1 : Int32) (p229.2.1 : Int32) (p229.2.2.1 : (Nat → Int32)) t4_0 t4_1 t5_0 t6_0 t6_1 t7_0 t18_0 t18_1 t19_0 (p229.2.2.2.1 : Int32) (p229.2.2.2.2.1 : Int32) (p229.2.2.2.2.2.1 : (Nat → Int32)) = p300 at *
      unfold F_NH_powerModulo_at_c136
      have h3 := K_NH_keepWhole (x2 := x5) (t0_0 := (p300.1 : Int32)) (t0_1 := (p300.2.1 : Int32)) (t1_0 := (p300.2.2.1 : (Nat → Int32))) (t2_0 := (p300.2.2.2.2.2.2.2.2.2.2.2.2.1 : Int32)) (t2_1 := (p300.2.2.2.2.2.2.2.2.2.2.2.2.2.1 : Int32)) (t3_0 := (p300.2.2.2.2.2.2.2.2.2.2.2.2.2.2 : (Nat → Int32))) 
      generalize F_NH_keepWhole x5 (p300.1 : Int32) (p300.2.1 : Int32) (p300.2.2.1 : (Nat → Int32)) (p300.2.2.2.2.2.2.2.2.2.2.2.2.1 : Int32) (p300.2.2.2.2.2.2.2.2.2.2.2.2.2.1 : Int32) (p300.2.2.2.2.2.2.2.2.2.2.2.2.2.2 : (Nat → Int32)) = p335 at *
      have kkp335 := (show kC2 p335.1 from h3).to12
      unfold F_NH_powerModulo_at_c142
      by_cases g4 : p335.1 = (0 : Int32)
      ·
        rw [if_pos g4]
        exact (show kC12 (0 : Int32) from Or.inl rfl)
      ·
        rw [if_neg g4]
        exact (show kC12 (p335.1) from kkp335)
    ·
      rw [if_neg g2]
      generalize F_Mil_inverse_a (68 : Int32) t0_0 t0_1 t1_0 t2_0 t2_1 t3_0 t6_0 t6_1 t7_0 t8_0 t8_1 t9_0 t10_0 t10_1 t11_0 t12_0 t12_1 t13_0 t14_0 t14_1 t15_0 t16_0 t16_1 t17_0 = p459 at *
      unfold F_NH_powerModulo_at_c85
      by_cases g5 : (F_NH_canHave (p459.1 : Int32)) = (0 : Int32)
      ·
        rw [if_pos g5]
        generalize F_Mil_powerBelow (68 : Int32) (68 : Int32) (p459.2.1 : Int32) (p459.2.2.1 : Int32) (p459.2.2.2.1 : (Nat → Int32)) (p459.2.2.2.2.1 : Int32) (p459.2.2.2.2.2.1 : Int32) (p459.2.2.2.2.2.2.1 : (Nat → Int32)) t4_0 t4_1 t5_0 (p459.2.2.2.2.2.2.2.1 : Int32) (p459.2.2.2.2.2.2.2.2.1 : Int32) (p459.2.2.2.2.2.2.2.2.2.1 : (Nat → Int32)) t18_0 t18_1 t19_0 (p459.2.2.2.2.2.2.2.2.2.2.2.2.2.2.2.2.2.2.2.2.2.2.1 : Int32) (p459.2.2.2.2.2.2.2.2.2.2.2.2.2.2.2.2.2.2.2.2.2.2.2.1 : Int32) (p459.2.2.2.2.2.2.2.2.2.2.2.2.2.2.2.2.2.2.2.2.2.2.2.2 : (Nat → Int32)) = p555 at *
        unfold F_NH_powerModulo_at_c136_7
        have h6 := K_NH_keepWhole (x2 := x5) (t0_0 := (p555.1 : Int32)) (t0_1 := (p555.2.1 : Int32)) (t1_0 := (p555.2.2.1 : (Nat → Int32))) (t2_0 := (p555.2.2.2.2.2.2.2.2.2.2.2.2.1 : Int32)) (t2_1 := (p555.2.2.2.2.2.2.2.2.2.2.2.2.2.1 : Int32)) (t3_0 := (p555.2.2.2.2.2.2.2.2.2.2.2.2.2.2 : (Nat → Int32))) 
        generalize F_NH_keepWhole x5 (p555.1 : Int32) (p555.2.1 : Int32) (p555.2.2.1 : (Nat → Int32)) (p555.2.2.2.2.2.2.2.2.2.2.2.2.1 : Int32) (p555.2.2.2.2.2.2.2.2.2.2.2.2.2.1 : Int32) (p555.2.2.2.2.2.2.2.2.2.2.2.2.2.2 : (Nat → Int32)) = p590 at *
        have kkp590 := (show kC2 p590.1 from h6).to12
        unfold F_NH_powerModulo_at_c142_8
        by_cases g7 : p590.1 = (0 : Int32)
        ·
          rw [if_pos g7]
          exact (show kC12 (0 : Int32) from Or.inl rfl)
        ·
          rw [if_neg g7]
          exact (show kC12 (p590.1) from kkp590)
      ·
        rw [if_neg g5]
        exact (show kC12 ((F_NH_canHave (p459.1 : Int32))) from (k_can _).to12)
  ·
    rw [if_neg g1]
    exact (show kC12 ((F_NH_canHave lx140)) from (k_can _).to12)
theorem K_NH_powerModulo_at_J34 {x2 : Int32} {x3 : Int32} {x4 : Int32} {x5 : Int32} {t0_0 : Int32} {t0_1 : Int32} {t1_0 : (Nat → Int32)} {t2_0 : Int32} {t2_1 : Int32} {t3_0 : (Nat → Int32)} {t4_0 : Int32} {t4_1 : Int32} {t5_0 : (Nat → Int32)} {t6_0 : Int32} {t6_1 : Int32} {t7_0 : (Nat → Int32)} {t8_0 : Int32} {t8_1 : Int32} {t9_0 : (Nat → Int32)} {t10_0 : Int32} {t10_1 : Int32} {t11_0 : (Nat → Int32)} {t12_0 : Int32} {t12_1 : Int32} {t13_0 : (Nat → Int32)} {t14_0 : Int32} {t14_1 : Int32} {t15_0 : (Nat → Int32)} {t16_0 : Int32} {t16_1 : Int32} {t17_0 : (Nat → Int32)} {t18_0 : Int32} {t18_1 : Int32} {t19_0 : (Nat → Int32)} {lx88 : Int32}  : QK_powerModulo_at (F_NH_powerModulo_at_J34 x2 x3 x4 x5 t0_0 t0_1 t1_0 t2_0 t2_1 t3_0 t4_0 t4_1 t5_0 t6_0 t6_1 t7_0 t8_0 t8_1 t9_0 t10_0 t10_1 t11_0 t12_0 t12_1 t13_0 t14_0 t14_1 t15_0 t16_0 t16_1 t17_0 t18_0 t18_1 t19_0 lx88) := by
  unfold F_NH_powerModulo_at_J34
  by_cases g1 : (F_NH_need lx88) = (0 : Int32)
  ·
    rw [if_pos g1]
    by_cases g2 : ((F_Big_sign (68 : Int32) t16_0 t16_1) : Int32) ≤ (0 : Int32)
    ·
      rw [if_pos g2]
      exact K_NH_powerModulo_at_J54
    ·
      rw [if_neg g2]
      exact K_NH_powerModulo_at_J54
  ·
    rw [if_neg g1]
    exact (show kC12 ((F_NH_need lx88)) from (k_need _).to12)
theorem K_NH_powerModulo_at_J33 {x2 : Int32} {x3 : Int32} {x4 : Int32} {x5 : Int32} {t0_0 : Int32} {t0_1 : Int32} {t1_0 : (Nat → Int32)} {t2_0 : Int32} {t2_1 : Int32} {t3_0 : (Nat → Int32)} {t4_0 : Int32} {t4_1 : Int32} {t5_0 : (Nat → Int32)} {t6_0 : Int32} {t6_1 : Int32} {t7_0 : (Nat → Int32)} {t8_0 : Int32} {t8_1 : Int32} {t9_0 : (Nat → Int32)} {t10_0 : Int32} {t10_1 : Int32} {t11_0 : (Nat → Int32)} {t12_0 : Int32} {t12_1 : Int32} {t13_0 : (Nat → Int32)} {t14_0 : Int32} {t14_1 : Int32} {t15_0 : (Nat → Int32)} {t16_0 : Int32} {t16_1 : Int32} {t17_0 : (Nat → Int32)} {t18_0 : Int32} {t18_1 : Int32} {t19_0 : (Nat → Int32)}  : QK_powerModulo_at (F_NH_powerModulo_at_J33 x2 x3 x4 x5 t0_0 t0_1 t1_0 t2_0 t2_1 t3_0 t4_0 t4_1 t5_0 t6_0 t6_1 t7_0 t8_0 t8_1 t9_0 t10_0 t10_1 t11_0 t12_0 t12_1 t13_0 t14_0 t14_1 t15_0 t16_0 t16_1 t17_0 t18_0 t18_1 t19_0) := by
  unfold F_NH_powerModulo_at_J33
  exact K_NH_powerModulo_at_J34
theorem K_NH_powerModulo_at {x2 : Int32} {x3 : Int32} {x4 : Int32} {x5 : Int32} {t0_0 : Int32} {t0_1 : Int32} {t1_0 : (Nat → Int32)} {t2_0 : Int32} {t2_1 : Int32} {t3_0 : (Nat → Int32)} {t4_0 : Int32} {t4_1 : Int32} {t5_0 : (Nat → Int32)} {t6_0 : Int32} {t6_1 : Int32} {t7_0 : (Nat → Int32)} {t8_0 : Int32} {t8_1 : Int32} {t9_0 : (Nat → Int32)} {t10_0 : Int32} {t10_1 : Int32} {t11_0 : (Nat → Int32)} {t12_0 : Int32} {t12_1 : Int32} {t13_0 : (Nat → Int32)} {t14_0 : Int32} {t14_1 : Int32} {t15_0 : (Nat → Int32)} {t16_0 : Int32} {t16_1 : Int32} {t17_0 : (Nat → Int32)} {t18_0 : Int32} {t18_1 : Int32} {t19_0 : (Nat → Int32)}  : QK_powerModulo_at (F_NH_powerModulo_at x2 x3 x4 x5 t0_0 t0_1 t1_0 t2_0 t2_1 t3_0 t4_0 t4_1 t5_0 t6_0 t6_1 t7_0 t8_0 t8_1 t9_0 t10_0 t10_1 t11_0 t12_0 t12_1 t13_0 t14_0 t14_1 t15_0 t16_0 t16_1 t17_0 t18_0 t18_1 t19_0) := by
  unfold F_NH_powerModulo_at
  by_cases g1 : ((F_NH_isRegister x2) : Int32) = (0 : Int32)
  ·
    rw [if_pos g1]
    exact K_NH_powerModulo_at_J33
  ·
    rw [if_neg g1]
    by_cases g2 : ((F_NH_isRegister x3) : Int32) = (0 : Int32)
    ·
      rw [if_pos g2]
      exact K_NH_powerModulo_at_J33
    ·
      rw [if_neg g2]
      by_cases g3 : ((F_NH_isRegister x4) : Int32) = (0 : Int32)
      ·
        rw [if_pos g3]
        exact K_NH_powerModulo_at_J33
      ·
        rw [if_neg g3]
        by_cases g4 : ((F_NH_isRegister x5) : Int32) = (0 : Int32)
        ·
          rw [if_pos g4]
          exact K_NH_powerModulo_at_J33
        ·
          rw [if_neg g4]
          exact K_NH_powerModulo_at_J34
def QK_powerModulo_et (p : Int32 × Int32 × Int32 × (Nat → Int32) × Int32 × Int32 × (Nat → Int32) × Int32 × Int32 × (Nat → Int32) × Int32 × Int32 × (Nat → Int32) × Int32 × Int32 × (Nat → Int32) × Int32 × Int32 × (Nat → Int32) × Int32 × Int32 × (Nat → Int32) × Int32 × Int32 × (Nat → Int32) × Int32 × Int32 × (Nat → Int32)) : Prop := kC12 p.1
theorem K_NH_powerModulo_et_J54 {x2 : Int32} {x3 : Int32} {x4 : Int32} {x5 : Int32} {t0_0 : Int32} {t0_1 : Int32} {t1_0 : (Nat → Int32)} {t2_0 : Int32} {t2_1 : Int32} {t3_0 : (Nat → Int32)} {t4_0 : Int32} {t4_1 : Int32} {t5_0 : (Nat → Int32)} {t6_0 : Int32} {t6_1 : Int32} {t7_0 : (Nat → Int32)} {t8_0 : Int32} {t8_1 : Int32} {t9_0 : (Nat → Int32)} {t10_0 : Int32} {t10_1 : Int32} {t11_0 : (Nat → Int32)} {t12_0 : Int32} {t12_1 : Int32} {t13_0 : (Nat → Int32)} {t14_0 : Int32} {t14_1 : Int32} {t15_0 : (Nat → Int32)} {t16_0 : Int32} {t16_1 : Int32} {t17_0 : (Nat → Int32)} {t18_0 : Int32} {t18_1 : Int32} {t19_0 : (Nat → Int32)} {lx88 : Int32} {lx140 : Int32}  : QK_powerModulo_et (F_NH_powerModulo_et_J54 x2 x3 x4 x5 t0_0 t0_1 t1_0 t2_0 t2_1 t3_0 t4_0 t4_1 t5_0 t6_0 t6_1 t7_0 t8_0 t8_1 t9_0 t10_0 t10_1 t11_0 t12_0 t12_1 t13_0 t14_0 t14_1 t15_0 t16_0 t16_1 t17_0 t18_0 t18_1 t19_0 lx88 lx140) := by
  unfold F_NH_powerModulo_et_J54
  by_cases g1 : (F_NH_canHave lx140) = (0 : Int32)
  ·
    rw [if_pos g1]
    by_cases g2 : t18_1 = (0 : Int32)
    ·
      rw [if_pos g2]
      generalize F_Mil_modulo (68 : Int32) (68 : Int32) (220 : Int32) t2_0 t2_1 t3_0 t16_0 t16_1 t17_0 t18_0 t18_1 t19_0 t0_0 t0_1 t1_0 = p229 at *
      unfold F_NH_powerModulo_et_c117
      generalize F_Mil_powerBelow_a (68 : Int32) (p229.2.2.2.2.2.2.1 : Int32) (p229.2.2.2.2.2.2.2.1 : Int32) (p229.2.2.2.2.2.2.2.2 : (Nat → Int32)) (p229.1 : Int32) (p229.2.1 : Int32) (p229.2.2.1 : (Nat → Int32)) t4_0 t4_1 t5_0 t6_0 t6_1 t7_0 (p229.2.2.2.1 : Int32) (p229.2.2.2.2.1 : Int32) (p229.2.2.2.2.2.1 : (Nat → Int32)) = p300 at *
      unfold F_NH_powerModulo_et_c136
      have h3 := K_NH_keepWhole (x2 := x5) (t0_0 := (p300.1 : Int32)) (t0_1 := (p300.2.1 : Int32)) (t1_0 := (p300.2.2.1 : (Nat → Int32))) (t2_0 := (p300.2.2.2.2.2.2.2.2.2.2.2.2.1 : Int32)) (t2_1 := (p300.2.2.2.2.2.2.2.2.2.2.2.2.2.1 : Int32)) (t3_0 := (p300.2.2.2.2.2.2.2.2.2.2.2.2.2.2 : (Nat → Int32))) 
      generalize F_NH_keepWhole x5 (p300.1 : Int32) (p300.2.1 : Int32) (p300.2.2.1 : (Nat → Int32)) (p300.2.2.2.2.2.2.2.2.2.2.2.2.1 : Int32) (p300.2.2.2.2.2.2.2.2.2.2.2.2.2.1 : Int32) (p300.2.2.2.2.2.2.2.2.2.2.2.2.2.2 : (Nat → Int32)) = p335 at *
      have kkp335 := (show kC2 p335.1 from h3).to12
      unfold F_NH_powerModulo_et_c142
      by_cases g4 : p335.1 = (0 : Int32)
      ·
        rw [if_pos g4]
        exact (show kC12 (0 : Int32) from Or.inl rfl)
      ·
        rw [if_neg g4]
        exact (show kC12 (p335.1) from kkp335)
    ·
      rw [if_neg g2]
      generalize F_Mil_inverse (68 : Int32) (68 : Int32) t0_0 t0_1 t1_0 t2_0 t2_1 t3_0 t6_0 t6_1 t7_0 t8_0 t8_1 t9_0 t10_0 t10_1 t11_0 t12_0 t12_1 t13_0 t14_0 t14_1 t15_0 t16_0 t16_1 t17_0 t18_0 t18_1 t19_0 = p462 at *
      unfold F_NH_powerModulo_et_c85
      by_cases g5 : (F_NH_canHave (p462.1 : Int32)) = (0 : Int32)
      ·
        rw [if_pos g5]
        generalize F_Mil_powerBelow_a (68 : Int32) (p462.2.1 : Int32) (p462.2.2.1 : Int32) (p462.2.2.2.1 : (Nat → Int32)) (p462.2.2.2.2.1 : Int32) (p462.2.2.2.2.2.1 : Int32) (p462.2.2.2.2.2.2.1 : (Nat → Int32)) t4_0 t4_1 t5_0 (p462.2.2.2.2.2.2.2.1 : Int32) (p462.2.2.2.2.2.2.2.2.1 : Int32) (p462.2.2.2.2.2.2.2.2.2.1 : (Nat → Int32)) (p462.2.2.2.2.2.2.2.2.2.2.2.2.2.2.2.2.2.2.2.2.2.2.1 : Int32) (p462.2.2.2.2.2.2.2.2.2.2.2.2.2.2.2.2.2.2.2.2.2.2.2.1 : Int32) (p462.2.2.2.2.2.2.2.2.2.2.2.2.2.2.2.2.2.2.2.2.2.2.2.2 : (Nat → Int32)) = p558 at *
        unfold F_NH_powerModulo_et_c136_7
        have h6 := K_NH_keepWhole (x2 := x5) (t0_0 := (p558.1 : Int32)) (t0_1 := (p558.2.1 : Int32)) (t1_0 := (p558.2.2.1 : (Nat → Int32))) (t2_0 := (p558.2.2.2.2.2.2.2.2.2.2.2.2.1 : Int32)) (t2_1 := (p558.2.2.2.2.2.2.2.2.2.2.2.2.2.1 : Int32)) (t3_0 := (p558.2.2.2.2.2.2.2.2.2.2.2.2.2.2 : (Nat → Int32))) 
        generalize F_NH_keepWhole x5 (p558.1 : Int32) (p558.2.1 : Int32) (p558.2.2.1 : (Nat → Int32)) (p558.2.2.2.2.2.2.2.2.2.2.2.2.1 : Int32) (p558.2.2.2.2.2.2.2.2.2.2.2.2.2.1 : Int32) (p558.2.2.2.2.2.2.2.2.2.2.2.2.2.2 : (Nat → Int32)) = p593 at *
        have kkp593 := (show kC2 p593.1 from h6).to12
        unfold F_NH_powerModulo_et_c142_8
        by_cases g7 : p593.1 = (0 : Int32)
        ·
          rw [if_pos g7]
          exact (show kC12 (0 : Int32) from Or.inl rfl)
        ·
          rw [if_neg g7]
          exact (show kC12 (p593.1) from kkp593)
      ·
        rw [if_neg g5]
        exact (show kC12 ((F_NH_canHave (p462.1 : Int32))) from (k_can _).to12)
  ·
    rw [if_neg g1]
    exact (show kC12 ((F_NH_canHave lx140)) from (k_can _).to12)
theorem K_NH_powerModulo_et_J34 {x2 : Int32} {x3 : Int32} {x4 : Int32} {x5 : Int32} {t0_0 : Int32} {t0_1 : Int32} {t1_0 : (Nat → Int32)} {t2_0 : Int32} {t2_1 : Int32} {t3_0 : (Nat → Int32)} {t4_0 : Int32} {t4_1 : Int32} {t5_0 : (Nat → Int32)} {t6_0 : Int32} {t6_1 : Int32} {t7_0 : (Nat → Int32)} {t8_0 : Int32} {t8_1 : Int32} {t9_0 : (Nat → Int32)} {t10_0 : Int32} {t10_1 : Int32} {t11_0 : (Nat → Int32)} {t12_0 : Int32} {t12_1 : Int32} {t13_0 : (Nat → Int32)} {t14_0 : Int32} {t14_1 : Int32} {t15_0 : (Nat → Int32)} {t16_0 : Int32} {t16_1 : Int32} {t17_0 : (Nat → Int32)} {t18_0 : Int32} {t18_1 : Int32} {t19_0 : (Nat → Int32)} {lx88 : Int32}  : QK_powerModulo_et (F_NH_powerModulo_et_J34 x2 x3 x4 x5 t0_0 t0_1 t1_0 t2_0 t2_1 t3_0 t4_0 t4_1 t5_0 t6_0 t6_1 t7_0 t8_0 t8_1 t9_0 t10_0 t10_1 t11_0 t12_0 t12_1 t13_0 t14_0 t14_1 t15_0 t16_0 t16_1 t17_0 t18_0 t18_1 t19_0 lx88) := by
  unfold F_NH_powerModulo_et_J34
  by_cases g1 : (F_NH_need lx88) = (0 : Int32)
  ·
    rw [if_pos g1]
    by_cases g2 : ((F_Big_sign (68 : Int32) t18_0 t18_1) : Int32) ≤ (0 : Int32)
    ·
      rw [if_pos g2]
      exact K_NH_powerModulo_et_J54
    ·
      rw [if_neg g2]
      exact K_NH_powerModulo_et_J54
  ·
    rw [if_neg g1]
    exact (show kC12 ((F_NH_need lx88)) from (k_need _).to12)
theorem K_NH_powerModulo_et_J33 {x2 : Int32} {x3 : Int32} {x4 : Int32} {x5 : Int32} {t0_0 : Int32} {t0_1 : Int32} {t1_0 : (Nat → Int32)} {t2_0 : Int32} {t2_1 : Int32} {t3_0 : (Nat → Int32)} {t4_0 : Int32} {t4_1 : Int32} {t5_0 : (Nat → Int32)} {t6_0 : Int32} {t6_1 : Int32} {t7_0 : (Nat → Int32)} {t8_0 : Int32} {t8_1 : Int32} {t9_0 : (Nat → Int32)} {t10_0 : Int32} {t10_1 : Int32} {t11_0 : (Nat → Int32)} {t12_0 : Int32} {t12_1 : Int32} {t13_0 : (Nat → Int32)} {t14_0 : Int32} {t14_1 : Int32} {t15_0 : (Nat → Int32)} {t16_0 : Int32} {t16_1 : Int32} {t17_0 : (Nat → Int32)} {t18_0 : Int32} {t18_1 : Int32} {t19_0 : (Nat → Int32)}  : QK_powerModulo_et (F_NH_powerModulo_et_J33 x2 x3 x4 x5 t0_0 t0_1 t1_0 t2_0 t2_1 t3_0 t4_0 t4_1 t5_0 t6_0 t6_1 t7_0 t8_0 t8_1 t9_0 t10_0 t10_1 t11_0 t12_0 t12_1 t13_0 t14_0 t14_1 t15_0 t16_0 t16_1 t17_0 t18_0 t18_1 t19_0) := by
  unfold F_NH_powerModulo_et_J33
  exact K_NH_powerModulo_et_J34
theorem K_NH_powerModulo_et {x2 : Int32} {x3 : Int32} {x4 : Int32} {x5 : Int32} {t0_0 : Int32} {t0_1 : Int32} {t1_0 : (Nat → Int32)} {t2_0 : Int32} {t2_1 : Int32} {t3_0 : (Nat → Int32)} {t4_0 : Int32} {t4_1 : Int32} {t5_0 : (Nat → Int32)} {t6_0 : Int32} {t6_1 : Int32} {t7_0 : (Nat → Int32)} {t8_0 : Int32} {t8_1 : Int32} {t9_0 : (Nat → Int32)} {t10_0 : Int32} {t10_1 : Int32} {t11_0 : (Nat → Int32)} {t12_0 : Int32} {t12_1 : Int32} {t13_0 : (Nat → Int32)} {t14_0 : Int32} {t14_1 : Int32} {t15_0 : (Nat → Int32)} {t16_0 : Int32} {t16_1 : Int32} {t17_0 : (Nat → Int32)} {t18_0 : Int32} {t18_1 : Int32} {t19_0 : (Nat → Int32)}  : QK_powerModulo_et (F_NH_powerModulo_et x2 x3 x4 x5 t0_0 t0_1 t1_0 t2_0 t2_1 t3_0 t4_0 t4_1 t5_0 t6_0 t6_1 t7_0 t8_0 t8_1 t9_0 t10_0 t10_1 t11_0 t12_0 t12_1 t13_0 t14_0 t14_1 t15_0 t16_0 t16_1 t17_0 t18_0 t18_1 t19_0) := by
  unfold F_NH_powerModulo_et
  by_cases g1 : ((F_NH_isRegister x2) : Int32) = (0 : Int32)
  ·
    rw [if_pos g1]
    exact K_NH_powerModulo_et_J33
  ·
    rw [if_neg g1]
    by_cases g2 : ((F_NH_isRegister x3) : Int32) = (0 : Int32)
    ·
      rw [if_pos g2]
      exact K_NH_powerModulo_et_J33
    ·
      rw [if_neg g2]
      by_cases g3 : ((F_NH_isRegister x4) : Int32) = (0 : Int32)
      ·
        rw [if_pos g3]
        exact K_NH_powerModulo_et_J33
      ·
        rw [if_neg g3]
        by_cases g4 : ((F_NH_isRegister x5) : Int32) = (0 : Int32)
        ·
          rw [if_pos g4]
          exact K_NH_powerModulo_et_J33
        ·
          rw [if_neg g4]
          exact K_NH_powerModulo_et_J34
def QK_powerModulo_aet (p : Int32 × Int32 × Int32 × (Nat → Int32) × Int32 × Int32 × (Nat → Int32) × Int32 × Int32 × (Nat → Int32) × Int32 × Int32 × (Nat → Int32) × Int32 × Int32 × (Nat → Int32) × Int32 × Int32 × (Nat → Int32) × Int32 × Int32 × (Nat → Int32) × Int32 × Int32 × (Nat → Int32) × Int32 × Int32 × (Nat → Int32)) : Prop := kC12 p.1
theorem K_NH_powerModulo_aet_J54 {x2 : Int32} {x3 : Int32} {x4 : Int32} {x5 : Int32} {t0_0 : Int32} {t0_1 : Int32} {t1_0 : (Nat → Int32)} {t2_0 : Int32} {t2_1 : Int32} {t3_0 : (Nat → Int32)} {t4_0 : Int32} {t4_1 : Int32} {t5_0 : (Nat → Int32)} {t6_0 : Int32} {t6_1 : Int32} {t7_0 : (Nat → Int32)} {t8_0 : Int32} {t8_1 : Int32} {t9_0 : (Nat → Int32)} {t10_0 : Int32} {t10_1 : Int32} {t11_0 : (Nat → Int32)} {t12_0 : Int32} {t12_1 : Int32} {t13_0 : (Nat → Int32)} {t14_0 : Int32} {t14_1 : Int32} {t15_0 : (Nat → Int32)} {t16_0 : Int32} {t16_1 : Int32} {t17_0 : (Nat → Int32)} {lx80 : Int32} {lx130 : Int32}  : QK_powerModulo_aet (F_NH_powerModulo_aet_J54 x2 x3 x4 x5 t0_0 t0_1 t1_0 t2_0 t2_1 t3_0 t4_0 t4_1 t5_0 t6_0 t6_1 t7_0 t8_0 t8_1 t9_0 t10_0 t10_1 t11_0 t12_0 t12_1 t13_0 t14_0 t14_1 t15_0 t16_0 t16_1 t17_0 lx80 lx130) := by
  unfold F_NH_powerModulo_aet_J54
  by_cases g1 : (F_NH_canHave lx130) = (0 : Int32)
  ·
    rw [if_pos g1]
    by_cases g2 : t16_1 = (0 : Int32)
    ·
      rw [if_pos g2]
      generalize F_Mil_modulo_a (68 : Int32) (220 : Int32) t2_0 t2_1 t3_0 t16_0 t16_1 t17_0 t0_0 t0_1 t1_0 = p217 at *
      unfold F_NH_powerModulo_aet_c117
      generalize F_Mil_powerBelow_a (68 : Int32) (p217.2.2.2.2.2.2.1 : Int32) (p217.2.2.2.2.2.2.2.1 : Int32) (p217.2.2.2.2.2.2.2.2 : (Nat → Int32)) (p217.1 : Int32) (p217.2.1 : Int32) (p217.2.2.1 : (Nat → Int32)) t4_0 t4_1 t5_0 t6_0 t6_1 t7_0 (p217.2.2.2.1 : Int32) (p217.2.2.2.2.1 : Int32) (p217.2.2.2.2.2.1 : (Nat → Int32)) = p288 at *
      unfold F_NH_powerModulo_aet_c136
      have h3 := K_NH_keepWhole (x2 := x5) (t0_0 := (p288.1 : Int32)) (t0_1 := (p288.2.1 : Int32)) (t1_0 := (p288.2.2.1 : (Nat → Int32))) (t2_0 := (p288.2.2.2.2.2.2.2.2.2.2.2.2.1 : Int32)) (t2_1 := (p288.2.2.2.2.2.2.2.2.2.2.2.2.2.1 : Int32)) (t3_0 := (p288.2.2.2.2.2.2.2.2.2.2.2.2.2.2 : (Nat → Int32))) 
      generalize F_NH_keepWhole x5 (p288.1 : Int32) (p288.2.1 : Int32) (p288.2.2.1 : (Nat → Int32)) (p288.2.2.2.2.2.2.2.2.2.2.2.2.1 : Int32) (p288.2.2.2.2.2.2.2.2.2.2.2.2.2.1 : Int32) (p288.2.2.2.2.2.2.2.2.2.2.2.2.2.2 : (Nat → Int32)) = p323 at *
      have kkp323 := (show kC2 p323.1 from h3).to12
      unfold F_NH_powerModulo_aet_c142
      by_cases g4 : p323.1 = (0 : Int32)
      ·
        rw [if_pos g4]
        exact (show kC12 (0 : Int32) from Or.inl rfl)
      ·
        rw [if_neg g4]
        exact (show kC12 (p323.1) from kkp323)
    ·
      rw [if_neg g2]
      generalize F_Mil_inverse_a (68 : Int32) t0_0 t0_1 t1_0 t2_0 t2_1 t3_0 t6_0 t6_1 t7_0 t8_0 t8_1 t9_0 t10_0 t10_1 t11_0 t12_0 t12_1 t13_0 t14_0 t14_1 t15_0 t16_0 t16_1 t17_0 = p447 at *
      unfold F_NH_powerModulo_aet_c85
      by_cases g5 : (F_NH_canHave (p447.1 : Int32)) = (0 : Int32)
      ·
        rw [if_pos g5]
        generalize F_Mil_powerBelow_a (68 : Int32) (p447.2.1 : Int32) (p447.2.2.1 : Int32) (p447.2.2.2.1 : (Nat → Int32)) (p447.2.2.2.2.1 : Int32) (p447.2.2.2.2.2.1 : Int32) (p447.2.2.2.2.2.2.1 : (Nat → Int32)) t4_0 t4_1 t5_0 (p447.2.2.2.2.2.2.2.1 : Int32) (p447.2.2.2.2.2.2.2.2.1 : Int32) (p447.2.2.2.2.2.2.2.2.2.1 : (Nat → Int32)) (p447.2.2.2.2.2.2.2.2.2.2.2.2.2.2.2.2.2.2.2.2.2.2.1 : Int32) (p447.2.2.2.2.2.2.2.2.2.2.2.2.2.2.2.2.2.2.2.2.2.2.2.1 : Int32) (p447.2.2.2.2.2.2.2.2.2.2.2.2.2.2.2.2.2.2.2.2.2.2.2.2 : (Nat → Int32)) = p543 at *
        unfold F_NH_powerModulo_aet_c136_7
        have h6 := K_NH_keepWhole (x2 := x5) (t0_0 := (p543.1 : Int32)) (t0_1 := (p543.2.1 : Int32)) (t1_0 := (p543.2.2.1 : (Nat → Int32))) (t2_0 := (p543.2.2.2.2.2.2.2.2.2.2.2.2.1 : Int32)) (t2_1 := (p543.2.2.2.2.2.2.2.2.2.2.2.2.2.1 : Int32)) (t3_0 := (p543.2.2.2.2.2.2.2.2.2.2.2.2.2.2 : (Nat → Int32))) 
        generalize F_NH_keepWhole x5 (p543.1 : Int32) (p543.2.1 : Int32) (p543.2.2.1 : (Nat → Int32)) (p543.2.2.2.2.2.2.2.2.2.2.2.2.1 : Int32) (p543.2.2.2.2.2.2.2.2.2.2.2.2.2.1 : Int32) (p543.2.2.2.2.2.2.2.2.2.2.2.2.2.2 : (Nat → Int32)) = p578 at *
        have kkp578 := (show kC2 p578.1 from h6).to12
        unfold F_NH_powerModulo_aet_c142_8
        by_cases g7 : p578.1 = (0 : Int32)
        ·
          rw [if_pos g7]
          exact (show kC12 (0 : Int32) from Or.inl rfl)
        ·
          rw [if_neg g7]
          exact (show kC12 (p578.1) from kkp578)
      ·
        rw [if_neg g5]
        exact (show kC12 ((F_NH_canHave (p447.1 : Int32))) from (k_can _).to12)
  ·
    rw [if_neg g1]
    exact (show kC12 ((F_NH_canHave lx130)) from (k_can _).to12)
theorem K_NH_powerModulo_aet_J34 {x2 : Int32} {x3 : Int32} {x4 : Int32} {x5 : Int32} {t0_0 : Int32} {t0_1 : Int32} {t1_0 : (Nat → Int32)} {t2_0 : Int32} {t2_1 : Int32} {t3_0 : (Nat → Int32)} {t4_0 : Int32} {t4_1 : Int32} {t5_0 : (Nat → Int32)} {t6_0 : Int32} {t6_1 : Int32} {t7_0 : (Nat → Int32)} {t8_0 : Int32} {t8_1 : Int32} {t9_0 : (Nat → Int32)} {t10_0 : Int32} {t10_1 : Int32} {t11_0 : (Nat → Int32)} {t12_0 : Int32} {t12_1 : Int32} {t13_0 : (Nat → Int32)} {t14_0 : Int32} {t14_1 : Int32} {t15_0 : (Nat → Int32)} {t16_0 : Int32} {t16_1 : Int32} {t17_0 : (Nat → Int32)} {lx80 : Int32}  : QK_powerModulo_aet (F_NH_powerModulo_aet_J34 x2 x3 x4 x5 t0_0 t0_1 t1_0 t2_0 t2_1 t3_0 t4_0 t4_1 t5_0 t6_0 t6_1 t7_0 t8_0 t8_1 t9_0 t10_0 t10_1 t11_0 t12_0 t12_1 t13_0 t14_0 t14_1 t15_0 t16_0 t16_1 t17_0 lx80) := by
  unfold F_NH_powerModulo_aet_J34
  by_cases g1 : (F_NH_need lx80) = (0 : Int32)
  ·
    rw [if_pos g1]
    by_cases g2 : ((F_Big_sign (68 : Int32) t16_0 t16_1) : Int32) ≤ (0 : Int32)
    ·
      rw [if_pos g2]
      exact K_NH_powerModulo_aet_J54
    ·
      rw [if_neg g2]
      exact K_NH_powerModulo_aet_J54
  ·
    rw [if_neg g1]
    exact (show kC12 ((F_NH_need lx80)) from (k_need _).to12)
theorem K_NH_powerModulo_aet_J33 {x2 : Int32} {x3 : Int32} {x4 : Int32} {x5 : Int32} {t0_0 : Int32} {t0_1 : Int32} {t1_0 : (Nat → Int32)} {t2_0 : Int32} {t2_1 : Int32} {t3_0 : (Nat → Int32)} {t4_0 : Int32} {t4_1 : Int32} {t5_0 : (Nat → Int32)} {t6_0 : Int32} {t6_1 : Int32} {t7_0 : (Nat → Int32)} {t8_0 : Int32} {t8_1 : Int32} {t9_0 : (Nat → Int32)} {t10_0 : Int32} {t10_1 : Int32} {t11_0 : (Nat → Int32)} {t12_0 : Int32} {t12_1 : Int32} {t13_0 : (Nat → Int32)} {t14_0 : Int32} {t14_1 : Int32} {t15_0 : (Nat → Int32)} {t16_0 : Int32} {t16_1 : Int32} {t17_0 : (Nat → Int32)}  : QK_powerModulo_aet (F_NH_powerModulo_aet_J33 x2 x3 x4 x5 t0_0 t0_1 t1_0 t2_0 t2_1 t3_0 t4_0 t4_1 t5_0 t6_0 t6_1 t7_0 t8_0 t8_1 t9_0 t10_0 t10_1 t11_0 t12_0 t12_1 t13_0 t14_0 t14_1 t15_0 t16_0 t16_1 t17_0) := by
  unfold F_NH_powerModulo_aet_J33
  exact K_NH_powerModulo_aet_J34
theorem K_NH_powerModulo_aet {x2 : Int32} {x3 : Int32} {x4 : Int32} {x5 : Int32} {t0_0 : Int32} {t0_1 : Int32} {t1_0 : (Nat → Int32)} {t2_0 : Int32} {t2_1 : Int32} {t3_0 : (Nat → Int32)} {t4_0 : Int32} {t4_1 : Int32} {t5_0 : (Nat → Int32)} {t6_0 : Int32} {t6_1 : Int32} {t7_0 : (Nat → Int32)} {t8_0 : Int32} {t8_1 : Int32} {t9_0 : (Nat → Int32)} {t10_0 : Int32} {t10_1 : Int32} {t11_0 : (Nat → Int32)} {t12_0 : Int32} {t12_1 : Int32} {t13_0 : (Nat → Int32)} {t14_0 : Int32} {t14_1 : Int32} {t15_0 : (Nat → Int32)} {t16_0 : Int32} {t16_1 : Int32} {t17_0 : (Nat → Int32)}  : QK_powerModulo_aet (F_NH_powerModulo_aet x2 x3 x4 x5 t0_0 t0_1 t1_0 t2_0 t2_1 t3_0 t4_0 t4_1 t5_0 t6_0 t6_1 t7_0 t8_0 t8_1 t9_0 t10_0 t10_1 t11_0 t12_0 t12_1 t13_0 t14_0 t14_1 t15_0 t16_0 t16_1 t17_0) := by
  unfold F_NH_powerModulo_aet
  by_cases g1 : ((F_NH_isRegister x2) : Int32) = (0 : Int32)
  ·
    rw [if_pos g1]
    exact K_NH_powerModulo_aet_J33
  ·
    rw [if_neg g1]
    by_cases g2 : ((F_NH_isRegister x3) : Int32) = (0 : Int32)
    ·
      rw [if_pos g2]
      exact K_NH_powerModulo_aet_J33
    ·
      rw [if_neg g2]
      by_cases g3 : ((F_NH_isRegister x4) : Int32) = (0 : Int32)
      ·
        rw [if_pos g3]
        exact K_NH_powerModulo_aet_J33
      ·
        rw [if_neg g3]
        by_cases g4 : ((F_NH_isRegister x5) : Int32) = (0 : Int32)
        ·
          rw [if_pos g4]
          exact K_NH_powerModulo_aet_J33
        ·
          rw [if_neg g4]
          exact K_NH_powerModulo_aet_J34
def QK_makeWhole (p : Int32 × Int32 × Int32 × (Nat → Int32)) : Prop := kC2 p.1
theorem K_NH_makeWhole {x2 : Int32} {x3 : Int32} {t0_0 : Int64} {t0_1 : Int32} {t1_0 : Int32} {t1_1 : Int32} {t2_0 : (Nat → Int32)} {t3_0 : (Nat → Int64)} {t4_0 : (Nat → Int64)} {t5_0 : Int32} {t5_1 : Int32} {t6_0 : (Nat → Int32)} {t7_0 : Int32} {t7_1 : Int32} {t8_0 : Int32} {t8_1 : Int32} {t9_0 : (Nat → Int32)}  : QK_makeWhole (F_NH_makeWhole x2 x3 t0_0 t0_1 t1_0 t1_1 t2_0 t3_0 t4_0 t5_0 t5_1 t6_0 t7_0 t7_1 t8_0 t8_1 t9_0) := by
  unfold F_NH_makeWhole
  by_cases g1 : x2 = (0 : Int32)
  ·
    rw [if_pos g1]
    generalize F_Big_copy (220 : Int32) (68 : Int32) t1_0 t1_1 t2_0 t5_0 t5_1 t6_0 = p325 at *
    unfold F_NH_makeWhole_c17
    exact (show kC2 (0 : Int32) from Or.inl rfl)
  ·
    rw [if_neg g1]
    by_cases g2 : x2 = (1 : Int32)
    ·
      rw [if_pos g2]
      generalize F_DW_towardsZero (108 : Int32) t0_0 t0_1 t1_0 t1_1 t2_0 t7_0 t7_1 t8_0 t8_1 t9_0 = p283 at *
      unfold F_NH_makeWhole_c38
      by_cases g3 : (F_NH_canHave (p283.1 : Int32)) = (0 : Int32)
      ·
        rw [if_pos g3]
        exact (show kC2 (0 : Int32) from Or.inl rfl)
      ·
        rw [if_neg g3]
        exact (show kC2 ((F_NH_canHave (p283.1 : Int32))) from (k_can _).to2)
    ·
      rw [if_neg g2]
      by_cases g4 : x2 = (2 : Int32)
      ·
        rw [if_pos g4]
        rw [if_pos g4]
        by_cases g5 : (F_NH_canHave ((F_Flo_isFinite (52 : Int32) (1075 : Int32) (2047 : Int32) (t3_0 x3.toNatClampNeg : Int64)) : Int32)) = (0 : Int32)
        ·
          rw [if_pos g5]
          generalize F_Flo_towardsZero (52 : Int32) (1075 : Int32) (2047 : Int32) (t3_0 x3.toNatClampNeg : Int64) t1_0 t1_1 t2_0 = p94 at *
          unfold F_NH_makeWhole_c74
          exact (show kC2 (0 : Int32) from Or.inl rfl)
        ·
          rw [if_neg g5]
          exact (show kC2 ((F_NH_canHave ((F_Flo_isFinite (52 : Int32) (1075 : Int32) (2047 : Int32) (t3_0 x3.toNatClampNeg : Int64)) : Int32))) from (k_can _).to2)
      ·
        rw [if_neg g4]
        rw [if_neg g4]
        by_cases g6 : (F_NH_canHave ((F_Flo_isFinite (23 : Int32) (150 : Int32) (255 : Int32) (t4_0 x3.toNatClampNeg : Int64)) : Int32)) = (0 : Int32)
        ·
          rw [if_pos g6]
          generalize F_Flo_towardsZero (23 : Int32) (150 : Int32) (255 : Int32) (t4_0 x3.toNatClampNeg : Int64) t1_0 t1_1 t2_0 = p248 at *
          unfold F_NH_makeWhole_c74_4
          exact (show kC2 (0 : Int32) from Or.inl rfl)
        ·
          rw [if_neg g6]
          exact (show kC2 ((F_NH_canHave ((F_Flo_isFinite (23 : Int32) (150 : Int32) (255 : Int32) (t4_0 x3.toNatClampNeg : Int64)) : Int32))) from (k_can _).to2)
def QK_makeDecimal (p : Int32 × Int64 × Int32 × Int32 × Int32 × (Nat → Int32)) : Prop := kC2 p.1
theorem K_NH_makeDecimal {x2 : Int32} {x3 : Int32} {t0_0 : Int64} {t0_1 : Int32} {t1_0 : Int32} {t1_1 : Int32} {t2_0 : (Nat → Int32)} {t3_0 : (Nat → Int64)} {t4_0 : (Nat → Int64)} {t5_0 : Int32} {t5_1 : Int32} {t6_0 : (Nat → Int32)} {t7_0 : Int32} {t7_1 : Int32} {t8_0 : Int32} {t8_1 : Int32} {t9_0 : (Nat → Int32)}  : QK_makeDecimal (F_NH_makeDecimal x2 x3 t0_0 t0_1 t1_0 t1_1 t2_0 t3_0 t4_0 t5_0 t5_1 t6_0 t7_0 t7_1 t8_0 t8_1 t9_0) := by
  unfold F_NH_makeDecimal
  by_cases g1 : x2 = (1 : Int32)
  ·
    rw [if_pos g1]
    generalize F_DW_take (108 : Int32) t0_0 t0_1 t1_0 t1_1 t2_0 t7_0 t7_1 t8_0 t8_1 t9_0 = p351 at *
    unfold F_NH_makeDecimal_c15
    exact (show kC2 (0 : Int32) from Or.inl rfl)
  ·
    rw [if_neg g1]
    by_cases g2 : x2 = (0 : Int32)
    ·
      rw [if_pos g2]
      generalize F_Big_copy (220 : Int32) (68 : Int32) t1_0 t1_1 t2_0 t5_0 t5_1 t6_0 = p312 at *
      unfold F_NH_makeDecimal_c38
      exact (show kC2 (0 : Int32) from Or.inl rfl)
    ·
      rw [if_neg g2]
      by_cases g3 : x2 = (2 : Int32)
      ·
        rw [if_pos g3]
        rw [if_pos g3]
        by_cases g4 : (F_NH_canHave ((F_Flo_isFinite (52 : Int32) (1075 : Int32) (2047 : Int32) (t3_0 x3.toNatClampNeg : Int64)) : Int32)) = (0 : Int32)
        ·
          rw [if_pos g4]
          generalize F_Flo_exactly (52 : Int32) (1075 : Int32) (2047 : Int32) (t3_0 x3.toNatClampNeg : Int64) t1_0 t1_1 t2_0 = p96 at *
          unfold F_NH_makeDecimal_c83
          exact (show kC2 (0 : Int32) from Or.inl rfl)
        ·
          rw [if_neg g4]
          exact (show kC2 ((F_NH_canHave ((F_Flo_isFinite (52 : Int32) (1075 : Int32) (2047 : Int32) (t3_0 x3.toNatClampNeg : Int64)) : Int32))) from (k_can _).to2)
      ·
        rw [if_neg g3]
        rw [if_neg g3]
        by_cases g5 : (F_NH_canHave ((F_Flo_isFinite (23 : Int32) (150 : Int32) (255 : Int32) (t4_0 x3.toNatClampNeg : Int64)) : Int32)) = (0 : Int32)
        ·
          rw [if_pos g5]
          generalize F_Flo_exactly (23 : Int32) (150 : Int32) (255 : Int32) (t4_0 x3.toNatClampNeg : Int64) t1_0 t1_1 t2_0 = p274 at *
          unfold F_NH_makeDecimal_c83_4
          exact (show kC2 (0 : Int32) from Or.inl rfl)
        ·
          rw [if_neg g5]
          exact (show kC2 ((F_NH_canHave ((F_Flo_isFinite (23 : Int32) (150 : Int32) (255 : Int32) (t4_0 x3.toNatClampNeg : Int64)) : Int32))) from (k_can _).to2)
def QK_convert (p : Int32 × Int64 × Int32 × Int32 × Int32 × (Nat → Int32) × Int32 × Int32 × (Nat → Int32) × Int32 × Int32 × (Nat → Int32) × Int32 × Int32 × (Nat → Int32) × Int32 × Int32 × (Nat → Int32) × (Nat → Int64) × (Nat → Int64) × Int32 × Int32 × (Nat → Int32) × Int32 × Int32 × Int32 × Int32 × (Nat → Int32)) : Prop := kC12 p.1
theorem K_NH_convert {x2 : Int32} {x3 : Int32} {x4 : Int32} {x5 : Int32} {t0_0 : Int64} {t0_1 : Int32} {t1_0 : Int32} {t1_1 : Int32} {t2_0 : (Nat → Int32)} {t3_0 : Int32} {t3_1 : Int32} {t4_0 : (Nat → Int32)} {t5_0 : Int32} {t5_1 : Int32} {t6_0 : (Nat → Int32)} {t7_0 : Int32} {t7_1 : Int32} {t8_0 : (Nat → Int32)} {t9_0 : Int32} {t9_1 : Int32} {t10_0 : (Nat → Int32)} {t11_0 : (Nat → Int64)} {t12_0 : (Nat → Int64)} {t13_0 : Int32} {t13_1 : Int32} {t14_0 : (Nat → Int32)} {t15_0 : Int32} {t15_1 : Int32} {t16_0 : Int32} {t16_1 : Int32} {t17_0 : (Nat → Int32)} {t18_0 : Int32} {t18_1 : Int32} {t19_0 : (Nat → Int32)} {t20_0 : Int32} {t20_1 : Int32} {t21_0 : Int32} {t21_1 : Int32} {t22_0 : (Nat → Int32)}  : QK_convert (F_NH_convert x2 x3 x4 x5 t0_0 t0_1 t1_0 t1_1 t2_0 t3_0 t3_1 t4_0 t5_0 t5_1 t6_0 t7_0 t7_1 t8_0 t9_0 t9_1 t10_0 t11_0 t12_0 t13_0 t13_1 t14_0 t15_0 t15_1 t16_0 t16_1 t17_0 t18_0 t18_1 t19_0 t20_0 t20_1 t21_0 t21_1 t22_0) := by
  unfold F_NH_convert
  by_cases g1 : (F_NH_needRegister x2 x3) = (0 : Int32)
  ·
    rw [if_pos g1]
    by_cases g2 : (F_NH_needRegister x4 x5) = (0 : Int32)
    ·
      rw [if_pos g2]
      by_cases g3 : x4 = (0 : Int32)
      ·
        rw [if_pos g3]
        have h4 := K_NH_makeWhole (x2 := x2) (x3 := x3) (t0_0 := t0_0) (t0_1 := t0_1) (t1_0 := t1_0) (t1_1 := t1_1) (t2_0 := t2_0) (t3_0 := t11_0) (t4_0 := t12_0) (t5_0 := t13_0) (t5_1 := t13_1) (t6_0 := t14_0) (t7_0 := t15_0) (t7_1 := t15_1) (t8_0 := t16_0) (t8_1 := t16_1) (t9_0 := t17_0) 
        generalize F_NH_makeWhole x2 x3 t0_0 t0_1 t1_0 t1_1 t2_0 t11_0 t12_0 t13_0 t13_1 t14_0 t15_0 t15_1 t16_0 t16_1 t17_0 = p717 at *
        have kkp717 := (show kC2 p717.1 from h4).to12
        unfold F_NH_convert_c18
        by_cases g5 : p717.1 = (0 : Int32)
        ·
          rw [if_pos g5]
          have h6 := K_NH_keepWhole (x2 := x5) (t0_0 := (p717.2.1 : Int32)) (t0_1 := (p717.2.2.1 : Int32)) (t1_0 := (p717.2.2.2 : (Nat → Int32))) (t2_0 := t18_0) (t2_1 := t18_1) (t3_0 := t19_0) 
          generalize F_NH_keepWhole x5 (p717.2.1 : Int32) (p717.2.2.1 : Int32) (p717.2.2.2 : (Nat → Int32)) t18_0 t18_1 t19_0 = p760 at *
          have kkp760 := (show kC2 p760.1 from h6).to12
          unfold F_NH_convert_c24
          by_cases g7 : p760.1 = (0 : Int32)
          ·
            rw [if_pos g7]
            exact (show kC12 (0 : Int32) from Or.inl rfl)
          ·
            rw [if_neg g7]
            exact (show kC12 (p760.1) from kkp760)
        ·
          rw [if_neg g5]
          exact (show kC12 (p717.1) from kkp717)
      ·
        rw [if_neg g3]
        by_cases g8 : x4 = (1 : Int32)
        ·
          rw [if_pos g8]
          have h9 := K_NH_makeDecimal (x2 := x2) (x3 := x3) (t0_0 := t0_0) (t0_1 := t0_1) (t1_0 := t1_0) (t1_1 := t1_1) (t2_0 := t2_0) (t3_0 := t11_0) (t4_0 := t12_0) (t5_0 := t13_0) (t5_1 := t13_1) (t6_0 := t14_0) (t7_0 := t15_0) (t7_1 := t15_1) (t8_0 := t16_0) (t8_1 := t16_1) (t9_0 := t17_0) 
          generalize F_NH_makeDecimal x2 x3 t0_0 t0_1 t1_0 t1_1 t2_0 t11_0 t12_0 t13_0 t13_1 t14_0 t15_0 t15_1 t16_0 t16_1 t17_0 = p571 at *
          have kkp571 := (show kC2 p571.1 from h9).to12
          unfold F_NH_convert_c38
          by_cases g10 : p571.1 = (0 : Int32)
          ·
            rw [if_pos g10]
            have h11 := K_NH_keepDecimal (x2 := x5) (t0_0 := (p571.2.1 : Int64)) (t0_1 := (p571.2.2.1 : Int32)) (t1_0 := (p571.2.2.2.1 : Int32)) (t1_1 := (p571.2.2.2.2.1 : Int32)) (t2_0 := (p571.2.2.2.2.2 : (Nat → Int32))) (t3_0 := t5_0) (t3_1 := t5_1) (t4_0 := t6_0) (t5_0 := t20_0) (t5_1 := t20_1) (t6_0 := t21_0) (t6_1 := t21_1) (t7_0 := t22_0) 
            generalize F_NH_keepDecimal x5 (p571.2.1 : Int64) (p571.2.2.1 : Int32) (p571.2.2.2.1 : Int32) (p571.2.2.2.2.1 : Int32) (p571.2.2.2.2.2 : (Nat → Int32)) t5_0 t5_1 t6_0 t20_0 t20_1 t21_0 t21_1 t22_0 = p638 at *
            have kkp638 := (show kC2 p638.1 from h11).to12
            unfold F_NH_convert_c44
            by_cases g12 : p638.1 = (0 : Int32)
            ·
              rw [if_pos g12]
              exact (show kC12 (0 : Int32) from Or.inl rfl)
            ·
              rw [if_neg g12]
              exact (show kC12 (p638.1) from kkp638)
          ·
            rw [if_neg g10]
            exact (show kC12 (p571.1) from kkp571)
        ·
          rw [if_neg g8]
          by_cases g13 : x4 = (2 : Int32)
          ·
            rw [if_pos g13]
            rw [if_pos g13]
            generalize F_NH_madeFloat_w x2 x3 t1_0 t1_1 t2_0 t3_0 t3_1 t4_0 t5_0 t5_1 t6_0 t7_0 t7_1 t8_0 t9_0 t9_1 t10_0 t11_0 t12_0 t13_0 t13_1 t14_0 t15_0 t15_1 t16_0 t16_1 t17_0 = p202 at *
            unfold F_NH_convert_c65
            exact (show kC12 (0 : Int32) from Or.inl rfl)
          ·
            rw [if_neg g13]
            rw [if_neg g13]
            generalize F_NH_madeFloat_n x2 x3 t1_0 t1_1 t2_0 t3_0 t3_1 t4_0 t5_0 t5_1 t6_0 t7_0 t7_1 t8_0 t9_0 t9_1 t10_0 t11_0 t12_0 t13_0 t13_1 t14_0 t15_0 t15_1 t16_0 t16_1 t17_0 = p524 at *
            unfold F_NH_convert_c65_4
            exact (show kC12 (0 : Int32) from Or.inl rfl)
    ·
      rw [if_neg g2]
      exact (show kC12 ((F_NH_needRegister x4 x5)) from (k_reg _ _).to12)
  ·
    rw [if_neg g1]
    exact (show kC12 ((F_NH_needRegister x2 x3)) from (k_reg _ _).to12)
def QK_feed (p : Int32 × Int32 × Int32 × (Nat → Int64)) : Prop := kC1 p.1
theorem K_NH_feed_L39 {x2 : Int32} {x3 : Int64} {t0_0 : Int32} {t1_0 : (Nat → Int64)} {lx6 : Int32}  : ∀ (n : Nat) (lx32 : Int32) (lx33 : Int32) (lx34 : (Nat → Int64)), QK_feed (F_NH_feed_L39 x2 x3 t0_0 t1_0 lx6 n lx32 lx33 lx34) := by
  intro n
  induction n with
  | zero => intro lx32 lx33 lx34 ; exact (show kC1 (default : Int32) from Or.inl rfl)
  | succ n ih =>
    intro lx32 lx33 lx34 
    rw [F_NH_feed_L39.eq_2]
    by_cases g1 : x2 ≤ lx32
    ·
      rw [if_pos g1]
      exact (show kC1 (0 : Int32) from Or.inl rfl)
    ·
      rw [if_neg g1]
      generalize F_She_add_p (4100 : Int32) (513 : Int32) (4100 : Int32) ((((x3.toUInt64 >>> ((8 * lx32 : Int32).toInt64.toUInt64 &&& Int64.toUInt64 63)).toInt64 : Int64).toInt32 : Int32) &&& 255 : Int32) lx33 lx34 = p74 at *
      unfold F_NH_feed_c61
      exact ih _ _ _
theorem K_NH_feed_J16 {x2 : Int32} {x3 : Int64} {t0_0 : Int32} {t1_0 : (Nat → Int64)} {lx6 : Int32}  : QK_feed (F_NH_feed_J16 x2 x3 t0_0 t1_0 lx6) := by
  unfold F_NH_feed_J16
  by_cases g1 : (F_NH_need lx6) = (0 : Int32)
  ·
    rw [if_pos g1]
    by_cases g2 : (t0_0 + x2 : Int32) ≤ (4100 : Int32)
    ·
      rw [if_pos g2]
      exact K_NH_feed_L39 _ _ _ _
    ·
      rw [if_neg g2]
      exact (show kC1 (0 : Int32) from Or.inl rfl)
  ·
    rw [if_neg g1]
    exact (show kC1 ((F_NH_need lx6)) from (k_need _).to1)
theorem K_NH_feed_J15 {x2 : Int32} {x3 : Int64} {t0_0 : Int32} {t1_0 : (Nat → Int64)}  : QK_feed (F_NH_feed_J15 x2 x3 t0_0 t1_0) := by
  unfold F_NH_feed_J15
  exact K_NH_feed_J16
theorem K_NH_feed {x2 : Int32} {x3 : Int64} {t0_0 : Int32} {t1_0 : (Nat → Int64)}  : QK_feed (F_NH_feed x2 x3 t0_0 t1_0) := by
  unfold F_NH_feed
  by_cases g1 : x2 < (1 : Int32)
  ·
    rw [if_pos g1]
    exact K_NH_feed_J15
  ·
    rw [if_neg g1]
    by_cases g2 : (8 : Int32) < x2
    ·
      rw [if_pos g2]
      exact K_NH_feed_J15
    ·
      rw [if_neg g2]
      exact K_NH_feed_J16
def QK_told (p : Int32 × Int64 × Int32 × Int32 × (Nat → Int32) × Int32 × Int32 × (Nat → Int32) × Int32 × Int32 × (Nat → Int32) × Int32 × Int32 × (Nat → Int32) × Int32 × Int32 × (Nat → Int32) × Int32 × Int32 × (Nat → Int32) × Int64 × Int32 × Int32 × Int64 × Int32 × Int32) : Prop := kC12 p.1
theorem K_NH_told_J101 {x2 : Int32} {x3 : Int32} {x4 : Int32} {t0_0 : Int32} {t0_1 : Int32} {t1_0 : (Nat → Int32)} {t2_0 : Int32} {t2_1 : Int32} {t3_0 : (Nat → Int32)} {t4_0 : (Nat → Int64)} {t5_0 : (Nat → Int64)} {t6_0 : Int32} {t6_1 : Int32} {t7_0 : (Nat → Int32)} {t8_0 : Int32} {t8_1 : Int32} {t9_0 : (Nat → Int32)} {t10_0 : Int32} {t10_1 : Int32} {t11_0 : (Nat → Int32)} {t12_0 : Int32} {t12_1 : Int32} {t13_0 : (Nat → Int32)} {t14_0 : Int64} {t14_1 : Int32} {t14_2 : Int32} {t15_0 : Int64} {t15_1 : Int32} {t15_2 : Int32} {t16_0 : Int32} {t16_1 : Int32} {t17_0 : (Nat → Int32)} {t18_0 : Int32} {t18_1 : Int32} {t19_0 : Int32} {t19_1 : Int32} {t20_0 : (Nat → Int32)} {lx91 : Int32} {lx134 : Int32}  : QK_told (F_NH_told_J101 x2 x3 x4 t0_0 t0_1 t1_0 t2_0 t2_1 t3_0 t4_0 t5_0 t6_0 t6_1 t7_0 t8_0 t8_1 t9_0 t10_0 t10_1 t11_0 t12_0 t12_1 t13_0 t14_0 t14_1 t14_2 t15_0 t15_1 t15_2 t16_0 t16_1 t17_0 t18_0 t18_1 t19_0 t19_1 t20_0 lx91 lx134) := by
  unfold F_NH_told_J101
  by_cases g1 : (F_NH_need lx134) = (0 : Int32)
  ·
    rw [if_pos g1]
    by_cases g2 : x2 = (2 : Int32)
    ·
      rw [if_pos g2]
      by_cases g3 : x4 = (0 : Int32)
      ·
        rw [if_pos g3]
        exact (show kC12 (0 : Int32) from Or.inl rfl)
      ·
        rw [if_neg g3]
        rw [if_pos g2]
        by_cases g4 : (F_NH_canHave ((F_Flo_isFinite (52 : Int32) (1075 : Int32) (2047 : Int32) (t4_0 x3.toNatClampNeg : Int64)) : Int32)) = (0 : Int32)
        ·
          rw [if_pos g4]
          generalize F_Flo_findShortest (52 : Int32) (1075 : Int32) (2047 : Int32) (t4_0 x3.toNatClampNeg : Int64) t14_0 t14_1 t14_2 t0_0 t0_1 t1_0 t6_0 t6_1 t7_0 t8_0 t8_1 t9_0 t10_0 t10_1 t11_0 t12_0 t12_1 t13_0 = p263 at *
          unfold F_NH_told_c141
          by_cases g5 : x4 = (1 : Int32)
          ·
            rw [if_pos g5]
            exact (show kC12 (0 : Int32) from Or.inl rfl)
          ·
            rw [if_neg g5]
            exact (show kC12 (0 : Int32) from Or.inl rfl)
        ·
          rw [if_neg g4]
          exact (show kC12 ((F_NH_canHave ((F_Flo_isFinite (52 : Int32) (1075 : Int32) (2047 : Int32) (t4_0 x3.toNatClampNeg : Int64)) : Int32))) from (k_can _).to12)
    ·
      rw [if_neg g2]
      by_cases g6 : x4 = (0 : Int32)
      ·
        rw [if_pos g6]
        exact (show kC12 (0 : Int32) from Or.inl rfl)
      ·
        rw [if_neg g6]
        rw [if_neg g2]
        by_cases g7 : (F_NH_canHave ((F_Flo_isFinite (23 : Int32) (150 : Int32) (255 : Int32) (t5_0 x3.toNatClampNeg : Int64)) : Int32)) = (0 : Int32)
        ·
          rw [if_pos g7]
          generalize F_Flo_findShortest (23 : Int32) (150 : Int32) (255 : Int32) (t5_0 x3.toNatClampNeg : Int64) t15_0 t15_1 t15_2 t0_0 t0_1 t1_0 t6_0 t6_1 t7_0 t8_0 t8_1 t9_0 t10_0 t10_1 t11_0 t12_0 t12_1 t13_0 = p583 at *
          unfold F_NH_told_c141_6
          by_cases g8 : x4 = (1 : Int32)
          ·
            rw [if_pos g8]
            exact (show kC12 (0 : Int32) from Or.inl rfl)
          ·
            rw [if_neg g8]
            exact (show kC12 (0 : Int32) from Or.inl rfl)
        ·
          rw [if_neg g7]
          exact (show kC12 ((F_NH_canHave ((F_Flo_isFinite (23 : Int32) (150 : Int32) (255 : Int32) (t5_0 x3.toNatClampNeg : Int64)) : Int32))) from (k_can _).to12)
  ·
    rw [if_neg g1]
    exact (show kC12 ((F_NH_need lx134)) from (k_need _).to12)
theorem K_NH_told_J14 {x2 : Int32} {x3 : Int32} {x4 : Int32} {t0_0 : Int32} {t0_1 : Int32} {t1_0 : (Nat → Int32)} {t2_0 : Int32} {t2_1 : Int32} {t3_0 : (Nat → Int32)} {t4_0 : (Nat → Int64)} {t5_0 : (Nat → Int64)} {t6_0 : Int32} {t6_1 : Int32} {t7_0 : (Nat → Int32)} {t8_0 : Int32} {t8_1 : Int32} {t9_0 : (Nat → Int32)} {t10_0 : Int32} {t10_1 : Int32} {t11_0 : (Nat → Int32)} {t12_0 : Int32} {t12_1 : Int32} {t13_0 : (Nat → Int32)} {t14_0 : Int64} {t14_1 : Int32} {t14_2 : Int32} {t15_0 : Int64} {t15_1 : Int32} {t15_2 : Int32} {t16_0 : Int32} {t16_1 : Int32} {t17_0 : (Nat → Int32)} {t18_0 : Int32} {t18_1 : Int32} {t19_0 : Int32} {t19_1 : Int32} {t20_0 : (Nat → Int32)} {lx91 : Int32}  : QK_told (F_NH_told_J14 x2 x3 x4 t0_0 t0_1 t1_0 t2_0 t2_1 t3_0 t4_0 t5_0 t6_0 t6_1 t7_0 t8_0 t8_1 t9_0 t10_0 t10_1 t11_0 t12_0 t12_1 t13_0 t14_0 t14_1 t14_2 t15_0 t15_1 t15_2 t16_0 t16_1 t17_0 t18_0 t18_1 t19_0 t19_1 t20_0 lx91) := by
  unfold F_NH_told_J14
  by_cases g1 : (F_NH_need lx91) = (0 : Int32)
  ·
    rw [if_pos g1]
    by_cases g2 : x2 = (0 : Int32)
    ·
      rw [if_pos g2]
      by_cases g3 : (4 : Int32) < x4
      ·
        rw [if_pos g3]
        by_cases g4 : (F_NH_need (0 : Int32)) = (0 : Int32)
        ·
          rw [if_pos g4]
          exact (show kC12 (0 : Int32) from Or.inl rfl)
        ·
          rw [if_neg g4]
          exact (show kC12 ((F_NH_need (0 : Int32))) from (k_need _).to12)
      ·
        rw [if_neg g3]
        by_cases g5 : (F_NH_need (1 : Int32)) = (0 : Int32)
        ·
          rw [if_pos g5]
          exact (show kC12 (0 : Int32) from Or.inl rfl)
        ·
          rw [if_neg g5]
          exact (show kC12 ((F_NH_need (1 : Int32))) from (k_need _).to12)
    ·
      rw [if_neg g2]
      by_cases g6 : x2 = (1 : Int32)
      ·
        rw [if_pos g6]
        by_cases g7 : x4 ≤ (2 : Int32)
        ·
          rw [if_pos g7]
          by_cases g8 : (F_NH_need (1 : Int32)) = (0 : Int32)
          ·
            rw [if_pos g8]
            generalize F_NH_tellDecimal (108 : Int32) x4 t0_0 t0_1 t1_0 t2_0 t2_1 t3_0 t18_0 t18_1 t19_0 t19_1 t20_0 = p662 at *
            unfold F_NH_told_c87
            exact (show kC12 (0 : Int32) from Or.inl rfl)
          ·
            rw [if_neg g8]
            exact (show kC12 ((F_NH_need (1 : Int32))) from (k_need _).to12)
        ·
          rw [if_neg g7]
          by_cases g9 : t18_1 ≤ (x4 - 3 : Int32)
          ·
            rw [if_pos g9]
            by_cases g10 : (F_NH_need (0 : Int32)) = (0 : Int32)
            ·
              rw [if_pos g10]
              generalize F_NH_tellDecimal (108 : Int32) x4 t0_0 t0_1 t1_0 t2_0 t2_1 t3_0 t18_0 t18_1 t19_0 t19_1 t20_0 = p726 at *
              unfold F_NH_told_c87_8
              exact (show kC12 (0 : Int32) from Or.inl rfl)
            ·
              rw [if_neg g10]
              exact (show kC12 ((F_NH_need (0 : Int32))) from (k_need _).to12)
          ·
            rw [if_neg g9]
            by_cases g11 : (F_NH_need (1 : Int32)) = (0 : Int32)
            ·
              rw [if_pos g11]
              generalize F_NH_tellDecimal (108 : Int32) x4 t0_0 t0_1 t1_0 t2_0 t2_1 t3_0 t18_0 t18_1 t19_0 t19_1 t20_0 = p779 at *
              unfold F_NH_told_c87_9
              exact (show kC12 (0 : Int32) from Or.inl rfl)
            ·
              rw [if_neg g11]
              exact (show kC12 ((F_NH_need (1 : Int32))) from (k_need _).to12)
      ·
        rw [if_neg g6]
        by_cases g12 : (2 : Int32) < x4
        ·
          rw [if_pos g12]
          exact K_NH_told_J101
        ·
          rw [if_neg g12]
          exact K_NH_told_J101
  ·
    rw [if_neg g1]
    exact (show kC12 ((F_NH_need lx91)) from (k_need _).to12)
theorem K_NH_told {x2 : Int32} {x3 : Int32} {x4 : Int32} {t0_0 : Int32} {t0_1 : Int32} {t1_0 : (Nat → Int32)} {t2_0 : Int32} {t2_1 : Int32} {t3_0 : (Nat → Int32)} {t4_0 : (Nat → Int64)} {t5_0 : (Nat → Int64)} {t6_0 : Int32} {t6_1 : Int32} {t7_0 : (Nat → Int32)} {t8_0 : Int32} {t8_1 : Int32} {t9_0 : (Nat → Int32)} {t10_0 : Int32} {t10_1 : Int32} {t11_0 : (Nat → Int32)} {t12_0 : Int32} {t12_1 : Int32} {t13_0 : (Nat → Int32)} {t14_0 : Int64} {t14_1 : Int32} {t14_2 : Int32} {t15_0 : Int64} {t15_1 : Int32} {t15_2 : Int32} {t16_0 : Int32} {t16_1 : Int32} {t17_0 : (Nat → Int32)} {t18_0 : Int32} {t18_1 : Int32} {t19_0 : Int32} {t19_1 : Int32} {t20_0 : (Nat → Int32)}  : QK_told (F_NH_told x2 x3 x4 t0_0 t0_1 t1_0 t2_0 t2_1 t3_0 t4_0 t5_0 t6_0 t6_1 t7_0 t8_0 t8_1 t9_0 t10_0 t10_1 t11_0 t12_0 t12_1 t13_0 t14_0 t14_1 t14_2 t15_0 t15_1 t15_2 t16_0 t16_1 t17_0 t18_0 t18_1 t19_0 t19_1 t20_0) := by
  unfold F_NH_told
  by_cases g1 : (F_NH_needRegister x2 x3) = (0 : Int32)
  ·
    rw [if_pos g1]
    by_cases g2 : x4 < (0 : Int32)
    ·
      rw [if_pos g2]
      exact K_NH_told_J14
    ·
      rw [if_neg g2]
      exact K_NH_told_J14
  ·
    rw [if_neg g1]
    exact (show kC12 ((F_NH_needRegister x2 x3)) from (k_reg _ _).to12)
def QK_compare (p : Int32 × Int32 × Int32 × Int32 × (Nat → Int32) × Int32 × Int32 × (Nat → Int32)) : Prop := kC12 p.1
theorem K_NH_compare {x2 : Int32} {x3 : Int32} {x4 : Int32} {t0_0 : Int32} {t0_1 : Int32} {t1_0 : (Nat → Int32)} {t2_0 : Int32} {t2_1 : Int32} {t3_0 : (Nat → Int32)} {t4_0 : (Nat → Int64)} {t5_0 : (Nat → Int64)} {t6_0 : Int32} {t6_1 : Int32} {t7_0 : (Nat → Int32)} {t8_0 : Int32} {t8_1 : Int32} {t9_0 : Int32} {t9_1 : Int32} {t10_0 : (Nat → Int32)} {t11_0 : Int32} {t11_1 : Int32} {t12_0 : (Nat → Int32)} {t13_0 : Int32} {t13_1 : Int32} {t14_0 : Int32} {t14_1 : Int32} {t15_0 : (Nat → Int32)}  : QK_compare (F_NH_compare x2 x3 x4 t0_0 t0_1 t1_0 t2_0 t2_1 t3_0 t4_0 t5_0 t6_0 t6_1 t7_0 t8_0 t8_1 t9_0 t9_1 t10_0 t11_0 t11_1 t12_0 t13_0 t13_1 t14_0 t14_1 t15_0) := by
  unfold F_NH_compare
  by_cases g1 : (F_NH_needRegister x2 x3) = (0 : Int32)
  ·
    rw [if_pos g1]
    by_cases g2 : (F_NH_needRegister x2 x4) = (0 : Int32)
    ·
      rw [if_pos g2]
      by_cases g3 : x2 = (0 : Int32)
      ·
        rw [if_pos g3]
        exact (show kC12 (0 : Int32) from Or.inl rfl)
      ·
        rw [if_neg g3]
        by_cases g4 : x2 = (1 : Int32)
        ·
          rw [if_pos g4]
          generalize F_DW_order (108 : Int32) (108 : Int32) t0_0 t0_1 t1_0 t2_0 t2_1 t3_0 t8_0 t8_1 t9_0 t9_1 t10_0 t13_0 t13_1 t14_0 t14_1 t15_0 = p1054 at *
          unfold F_NH_compare_c51
          exact (show kC12 (0 : Int32) from Or.inl rfl)
        ·
          rw [if_neg g4]
          by_cases g5 : x2 = (2 : Int32)
          ·
            rw [if_pos g5]
            rw [if_pos g5]
            rw [if_pos g5]
            by_cases g6 : ((F_Flo_isNoNumber (52 : Int32) (1075 : Int32) (2047 : Int32) (t4_0 x3.toNatClampNeg : Int64)) : Int32) = (0 : Int32)
            ·
              rw [if_pos g6]
              by_cases g7 : ((F_Flo_isNoNumber (52 : Int32) (1075 : Int32) (2047 : Int32) (t4_0 x4.toNatClampNeg : Int64)) : Int32) = (0 : Int32)
              ·
                rw [if_pos g7]
                by_cases g8 : (F_NH_canHave (1 : Int32)) = (0 : Int32)
                ·
                  rw [if_pos g8]
                  exact (show kC12 (0 : Int32) from Or.inl rfl)
                ·
                  rw [if_neg g8]
                  exact (show kC12 ((F_NH_canHave (1 : Int32))) from (k_can _).to12)
              ·
                rw [if_neg g7]
                by_cases g9 : (F_NH_canHave (0 : Int32)) = (0 : Int32)
                ·
                  rw [if_pos g9]
                  exact (show kC12 (0 : Int32) from Or.inl rfl)
                ·
                  rw [if_neg g9]
                  exact (show kC12 ((F_NH_canHave (0 : Int32))) from (k_can _).to12)
            ·
              rw [if_neg g6]
              by_cases g10 : (F_NH_canHave (0 : Int32)) = (0 : Int32)
              ·
                rw [if_pos g10]
                exact (show kC12 (0 : Int32) from Or.inl rfl)
              ·
                rw [if_neg g10]
                exact (show kC12 ((F_NH_canHave (0 : Int32))) from (k_can _).to12)
          ·
            rw [if_neg g5]
            rw [if_neg g5]
            rw [if_neg g5]
            by_cases g11 : ((F_Flo_isNoNumber (23 : Int32) (150 : Int32) (255 : Int32) (t5_0 x3.toNatClampNeg : Int64)) : Int32) = (0 : Int32)
            ·
              rw [if_pos g11]
              by_cases g12 : ((F_Flo_isNoNumber (23 : Int32) (150 : Int32) (255 : Int32) (t5_0 x4.toNatClampNeg : Int64)) : Int32) = (0 : Int32)
              ·
                rw [if_pos g12]
                by_cases g13 : (F_NH_canHave (1 : Int32)) = (0 : Int32)
                ·
                  rw [if_pos g13]
                  exact (show kC12 (0 : Int32) from Or.inl rfl)
                ·
                  rw [if_neg g13]
                  exact (show kC12 ((F_NH_canHave (1 : Int32))) from (k_can _).to12)
              ·
                rw [if_neg g12]
                by_cases g14 : (F_NH_canHave (0 : Int32)) = (0 : Int32)
                ·
                  rw [if_pos g14]
                  exact (show kC12 (0 : Int32) from Or.inl rfl)
                ·
                  rw [if_neg g14]
                  exact (show kC12 ((F_NH_canHave (0 : Int32))) from (k_can _).to12)
            ·
              rw [if_neg g11]
              by_cases g15 : (F_NH_canHave (0 : Int32)) = (0 : Int32)
              ·
                rw [if_pos g15]
                exact (show kC12 (0 : Int32) from Or.inl rfl)
              ·
                rw [if_neg g15]
                exact (show kC12 ((F_NH_canHave (0 : Int32))) from (k_can _).to12)
    ·
      rw [if_neg g2]
      exact (show kC12 ((F_NH_needRegister x2 x4)) from (k_reg _ _).to12)
  ·
    rw [if_neg g1]
    exact (show kC12 ((F_NH_needRegister x2 x3)) from (k_reg _ _).to12)
def QK_print (p : Int32 × Int32 × Int32 × (Nat → Int64) × Int32 × Int32 × (Nat → Int32) × Int32 × Int32 × (Nat → Int32) × Int32 × Int32 × (Nat → Int32) × Int32 × Int32 × (Nat → Int32) × Int32 × Int32 × (Nat → Int32) × Int32 × Int32 × (Nat → Int32) × Int64 × Int32 × Int32 × Int64 × Int32 × Int32) : Prop := kC1 p.1
theorem K_NH_print_J98 {x2 : Int32} {x3 : Int32} {x4 : Int32} {t0_0 : Int32} {t1_0 : (Nat → Int64)} {t2_0 : Int32} {t2_1 : Int32} {t3_0 : (Nat → Int32)} {t4_0 : Int32} {t4_1 : Int32} {t5_0 : (Nat → Int32)} {t6_0 : (Nat → Int64)} {t7_0 : (Nat → Int64)} {t8_0 : Int32} {t8_1 : Int32} {t9_0 : (Nat → Int32)} {t10_0 : Int32} {t10_1 : Int32} {t11_0 : (Nat → Int32)} {t12_0 : Int32} {t12_1 : Int32} {t13_0 : (Nat → Int32)} {t14_0 : Int32} {t14_1 : Int32} {t15_0 : (Nat → Int32)} {t16_0 : Int64} {t16_1 : Int32} {t16_2 : Int32} {t17_0 : Int64} {t17_1 : Int32} {t17_2 : Int32} {t18_0 : Int32} {t18_1 : Int32} {t19_0 : (Nat → Int32)} {t20_0 : Int32} {t20_1 : Int32} {t21_0 : Int32} {t21_1 : Int32} {t22_0 : (Nat → Int32)} {lx100 : Int32}  : QK_print (F_NH_print_J98 x2 x3 x4 t0_0 t1_0 t2_0 t2_1 t3_0 t4_0 t4_1 t5_0 t6_0 t7_0 t8_0 t8_1 t9_0 t10_0 t10_1 t11_0 t12_0 t12_1 t13_0 t14_0 t14_1 t15_0 t16_0 t16_1 t16_2 t17_0 t17_1 t17_2 t18_0 t18_1 t19_0 t20_0 t20_1 t21_0 t21_1 t22_0 lx100) := by
  unfold F_NH_print_J98
  by_cases g1 : (F_NH_need lx100) = (0 : Int32)
  ·
    rw [if_pos g1]
    by_cases g2 : x2 = (2 : Int32)
    ·
      rw [if_pos g2]
      rw [if_pos g2]
      by_cases g3 : x4 = (1 : Int32)
      ·
        rw [if_pos g3]
        generalize F_Wri_floatText (52 : Int32) (1075 : Int32) (2047 : Int32) (t6_0 x3.toNatClampNeg : Int64) (1 : Int32) t0_0 t1_0 t4_0 t4_1 t5_0 t2_0 t2_1 t3_0 t8_0 t8_1 t9_0 t10_0 t10_1 t11_0 t12_0 t12_1 t13_0 t14_0 t14_1 t15_0 t16_0 t16_1 t16_2 = p355 at *
        unfold F_NH_print_c127_3
        exact (show kC1 (0 : Int32) from Or.inl rfl)
      ·
        rw [if_neg g3]
        generalize F_Wri_floatText (52 : Int32) (1075 : Int32) (2047 : Int32) (t6_0 x3.toNatClampNeg : Int64) (0 : Int32) t0_0 t1_0 t4_0 t4_1 t5_0 t2_0 t2_1 t3_0 t8_0 t8_1 t9_0 t10_0 t10_1 t11_0 t12_0 t12_1 t13_0 t14_0 t14_1 t15_0 t16_0 t16_1 t16_2 = p243 at *
        unfold F_NH_print_c127
        exact (show kC1 (0 : Int32) from Or.inl rfl)
    ·
      rw [if_neg g2]
      rw [if_neg g2]
      by_cases g4 : x4 = (1 : Int32)
      ·
        rw [if_pos g4]
        generalize F_Wri_floatText (23 : Int32) (150 : Int32) (255 : Int32) (t7_0 x3.toNatClampNeg : Int64) (1 : Int32) t0_0 t1_0 t4_0 t4_1 t5_0 t2_0 t2_1 t3_0 t8_0 t8_1 t9_0 t10_0 t10_1 t11_0 t12_0 t12_1 t13_0 t14_0 t14_1 t15_0 t17_0 t17_1 t17_2 = p1055 at *
        unfold F_NH_print_c127_9
        exact (show kC1 (0 : Int32) from Or.inl rfl)
      ·
        rw [if_neg g4]
        generalize F_Wri_floatText (23 : Int32) (150 : Int32) (255 : Int32) (t7_0 x3.toNatClampNeg : Int64) (0 : Int32) t0_0 t1_0 t4_0 t4_1 t5_0 t2_0 t2_1 t3_0 t8_0 t8_1 t9_0 t10_0 t10_1 t11_0 t12_0 t12_1 t13_0 t14_0 t14_1 t15_0 t17_0 t17_1 t17_2 = p943 at *
        unfold F_NH_print_c127_8
        exact (show kC1 (0 : Int32) from Or.inl rfl)
  ·
    rw [if_neg g1]
    exact (show kC1 ((F_NH_need lx100)) from (k_need _).to1)
theorem K_NH_print_J97 {x2 : Int32} {x3 : Int32} {x4 : Int32} {t0_0 : Int32} {t1_0 : (Nat → Int64)} {t2_0 : Int32} {t2_1 : Int32} {t3_0 : (Nat → Int32)} {t4_0 : Int32} {t4_1 : Int32} {t5_0 : (Nat → Int32)} {t6_0 : (Nat → Int64)} {t7_0 : (Nat → Int64)} {t8_0 : Int32} {t8_1 : Int32} {t9_0 : (Nat → Int32)} {t10_0 : Int32} {t10_1 : Int32} {t11_0 : (Nat → Int32)} {t12_0 : Int32} {t12_1 : Int32} {t13_0 : (Nat → Int32)} {t14_0 : Int32} {t14_1 : Int32} {t15_0 : (Nat → Int32)} {t16_0 : Int64} {t16_1 : Int32} {t16_2 : Int32} {t17_0 : Int64} {t17_1 : Int32} {t17_2 : Int32} {t18_0 : Int32} {t18_1 : Int32} {t19_0 : (Nat → Int32)} {t20_0 : Int32} {t20_1 : Int32} {t21_0 : Int32} {t21_1 : Int32} {t22_0 : (Nat → Int32)}  : QK_print (F_NH_print_J97 x2 x3 x4 t0_0 t1_0 t2_0 t2_1 t3_0 t4_0 t4_1 t5_0 t6_0 t7_0 t8_0 t8_1 t9_0 t10_0 t10_1 t11_0 t12_0 t12_1 t13_0 t14_0 t14_1 t15_0 t16_0 t16_1 t16_2 t17_0 t17_1 t17_2 t18_0 t18_1 t19_0 t20_0 t20_1 t21_0 t21_1 t22_0) := by
  unfold F_NH_print_J97
  exact K_NH_print_J98
theorem K_NH_print_J64 {x2 : Int32} {x3 : Int32} {x4 : Int32} {t0_0 : Int32} {t1_0 : (Nat → Int64)} {t2_0 : Int32} {t2_1 : Int32} {t3_0 : (Nat → Int32)} {t4_0 : Int32} {t4_1 : Int32} {t5_0 : (Nat → Int32)} {t6_0 : (Nat → Int64)} {t7_0 : (Nat → Int64)} {t8_0 : Int32} {t8_1 : Int32} {t9_0 : (Nat → Int32)} {t10_0 : Int32} {t10_1 : Int32} {t11_0 : (Nat → Int32)} {t12_0 : Int32} {t12_1 : Int32} {t13_0 : (Nat → Int32)} {t14_0 : Int32} {t14_1 : Int32} {t15_0 : (Nat → Int32)} {t16_0 : Int64} {t16_1 : Int32} {t16_2 : Int32} {t17_0 : Int64} {t17_1 : Int32} {t17_2 : Int32} {t18_0 : Int32} {t18_1 : Int32} {t19_0 : (Nat → Int32)} {t20_0 : Int32} {t20_1 : Int32} {t21_0 : Int32} {t21_1 : Int32} {t22_0 : (Nat → Int32)} {lx1121 : Int32}  : QK_print (F_NH_print_J64 x2 x3 x4 t0_0 t1_0 t2_0 t2_1 t3_0 t4_0 t4_1 t5_0 t6_0 t7_0 t8_0 t8_1 t9_0 t10_0 t10_1 t11_0 t12_0 t12_1 t13_0 t14_0 t14_1 t15_0 t16_0 t16_1 t16_2 t17_0 t17_1 t17_2 t18_0 t18_1 t19_0 t20_0 t20_1 t21_0 t21_1 t22_0 lx1121) := by
  unfold F_NH_print_J64
  by_cases g1 : (F_NH_need lx1121) = (0 : Int32)
  ·
    rw [if_pos g1]
    generalize F_Wri_decimalText (108 : Int32) x4 t0_0 t1_0 t4_0 t4_1 t5_0 t2_0 t2_1 t3_0 t20_0 t20_1 t21_0 t21_1 t22_0 = p1199 at *
    unfold F_NH_print_c78
    exact (show kC1 (0 : Int32) from Or.inl rfl)
  ·
    rw [if_neg g1]
    exact (show kC1 ((F_NH_need lx1121)) from (k_need _).to1)
theorem K_NH_print_J63 {x2 : Int32} {x3 : Int32} {x4 : Int32} {t0_0 : Int32} {t1_0 : (Nat → Int64)} {t2_0 : Int32} {t2_1 : Int32} {t3_0 : (Nat → Int32)} {t4_0 : Int32} {t4_1 : Int32} {t5_0 : (Nat → Int32)} {t6_0 : (Nat → Int64)} {t7_0 : (Nat → Int64)} {t8_0 : Int32} {t8_1 : Int32} {t9_0 : (Nat → Int32)} {t10_0 : Int32} {t10_1 : Int32} {t11_0 : (Nat → Int32)} {t12_0 : Int32} {t12_1 : Int32} {t13_0 : (Nat → Int32)} {t14_0 : Int32} {t14_1 : Int32} {t15_0 : (Nat → Int32)} {t16_0 : Int64} {t16_1 : Int32} {t16_2 : Int32} {t17_0 : Int64} {t17_1 : Int32} {t17_2 : Int32} {t18_0 : Int32} {t18_1 : Int32} {t19_0 : (Nat → Int32)} {t20_0 : Int32} {t20_1 : Int32} {t21_0 : Int32} {t21_1 : Int32} {t22_0 : (Nat → Int32)}  : QK_print (F_NH_print_J63 x2 x3 x4 t0_0 t1_0 t2_0 t2_1 t3_0 t4_0 t4_1 t5_0 t6_0 t7_0 t8_0 t8_1 t9_0 t10_0 t10_1 t11_0 t12_0 t12_1 t13_0 t14_0 t14_1 t15_0 t16_0 t16_1 t16_2 t17_0 t17_1 t17_2 t18_0 t18_1 t19_0 t20_0 t20_1 t21_0 t21_1 t22_0) := by
  unfold F_NH_print_J63
  exact K_NH_print_J64
theorem K_NH_print_J25 {x2 : Int32} {x3 : Int32} {x4 : Int32} {t0_0 : Int32} {t1_0 : (Nat → Int64)} {t2_0 : Int32} {t2_1 : Int32} {t3_0 : (Nat → Int32)} {t4_0 : Int32} {t4_1 : Int32} {t5_0 : (Nat → Int32)} {t6_0 : (Nat → Int64)} {t7_0 : (Nat → Int64)} {t8_0 : Int32} {t8_1 : Int32} {t9_0 : (Nat → Int32)} {t10_0 : Int32} {t10_1 : Int32} {t11_0 : (Nat → Int32)} {t12_0 : Int32} {t12_1 : Int32} {t13_0 : (Nat → Int32)} {t14_0 : Int32} {t14_1 : Int32} {t15_0 : (Nat → Int32)} {t16_0 : Int64} {t16_1 : Int32} {t16_2 : Int32} {t17_0 : Int64} {t17_1 : Int32} {t17_2 : Int32} {t18_0 : Int32} {t18_1 : Int32} {t19_0 : (Nat → Int32)} {t20_0 : Int32} {t20_1 : Int32} {t21_0 : Int32} {t21_1 : Int32} {t22_0 : (Nat → Int32)} {lx1250 : Int32}  : QK_print (F_NH_print_J25 x2 x3 x4 t0_0 t1_0 t2_0 t2_1 t3_0 t4_0 t4_1 t5_0 t6_0 t7_0 t8_0 t8_1 t9_0 t10_0 t10_1 t11_0 t12_0 t12_1 t13_0 t14_0 t14_1 t15_0 t16_0 t16_1 t16_2 t17_0 t17_1 t17_2 t18_0 t18_1 t19_0 t20_0 t20_1 t21_0 t21_1 t22_0 lx1250) := by
  unfold F_NH_print_J25
  by_cases g1 : (F_NH_need lx1250) = (0 : Int32)
  ·
    rw [if_pos g1]
    generalize F_Wri_wholeText (68 : Int32) x4 t0_0 t1_0 t2_0 t2_1 t3_0 t18_0 t18_1 t19_0 = p1317 at *
    unfold F_NH_print_c39
    exact (show kC1 (0 : Int32) from Or.inl rfl)
  ·
    rw [if_neg g1]
    exact (show kC1 ((F_NH_need lx1250)) from (k_need _).to1)
theorem K_NH_print_J24 {x2 : Int32} {x3 : Int32} {x4 : Int32} {t0_0 : Int32} {t1_0 : (Nat → Int64)} {t2_0 : Int32} {t2_1 : Int32} {t3_0 : (Nat → Int32)} {t4_0 : Int32} {t4_1 : Int32} {t5_0 : (Nat → Int32)} {t6_0 : (Nat → Int64)} {t7_0 : (Nat → Int64)} {t8_0 : Int32} {t8_1 : Int32} {t9_0 : (Nat → Int32)} {t10_0 : Int32} {t10_1 : Int32} {t11_0 : (Nat → Int32)} {t12_0 : Int32} {t12_1 : Int32} {t13_0 : (Nat → Int32)} {t14_0 : Int32} {t14_1 : Int32} {t15_0 : (Nat → Int32)} {t16_0 : Int64} {t16_1 : Int32} {t16_2 : Int32} {t17_0 : Int64} {t17_1 : Int32} {t17_2 : Int32} {t18_0 : Int32} {t18_1 : Int32} {t19_0 : (Nat → Int32)} {t20_0 : Int32} {t20_1 : Int32} {t21_0 : Int32} {t21_1 : Int32} {t22_0 : (Nat → Int32)}  : QK_print (F_NH_print_J24 x2 x3 x4 t0_0 t1_0 t2_0 t2_1 t3_0 t4_0 t4_1 t5_0 t6_0 t7_0 t8_0 t8_1 t9_0 t10_0 t10_1 t11_0 t12_0 t12_1 t13_0 t14_0 t14_1 t15_0 t16_0 t16_1 t16_2 t17_0 t17_1 t17_2 t18_0 t18_1 t19_0 t20_0 t20_1 t21_0 t21_1 t22_0) := by
  unfold F_NH_print_J24
  exact K_NH_print_J25
theorem K_NH_print {x2 : Int32} {x3 : Int32} {x4 : Int32} {t0_0 : Int32} {t1_0 : (Nat → Int64)} {t2_0 : Int32} {t2_1 : Int32} {t3_0 : (Nat → Int32)} {t4_0 : Int32} {t4_1 : Int32} {t5_0 : (Nat → Int32)} {t6_0 : (Nat → Int64)} {t7_0 : (Nat → Int64)} {t8_0 : Int32} {t8_1 : Int32} {t9_0 : (Nat → Int32)} {t10_0 : Int32} {t10_1 : Int32} {t11_0 : (Nat → Int32)} {t12_0 : Int32} {t12_1 : Int32} {t13_0 : (Nat → Int32)} {t14_0 : Int32} {t14_1 : Int32} {t15_0 : (Nat → Int32)} {t16_0 : Int64} {t16_1 : Int32} {t16_2 : Int32} {t17_0 : Int64} {t17_1 : Int32} {t17_2 : Int32} {t18_0 : Int32} {t18_1 : Int32} {t19_0 : (Nat → Int32)} {t20_0 : Int32} {t20_1 : Int32} {t21_0 : Int32} {t21_1 : Int32} {t22_0 : (Nat → Int32)}  : QK_print (F_NH_print x2 x3 x4 t0_0 t1_0 t2_0 t2_1 t3_0 t4_0 t4_1 t5_0 t6_0 t7_0 t8_0 t8_1 t9_0 t10_0 t10_1 t11_0 t12_0 t12_1 t13_0 t14_0 t14_1 t15_0 t16_0 t16_1 t16_2 t17_0 t17_1 t17_2 t18_0 t18_1 t19_0 t20_0 t20_1 t21_0 t21_1 t22_0) := by
  unfold F_NH_print
  by_cases g1 : (F_NH_needRegister x2 x3) = (0 : Int32)
  ·
    rw [if_pos g1]
    by_cases g2 : x2 = (0 : Int32)
    ·
      rw [if_pos g2]
      by_cases g3 : x4 < (2 : Int32)
      ·
        rw [if_pos g3]
        exact K_NH_print_J24
      ·
        rw [if_neg g3]
        by_cases g4 : (36 : Int32) < x4
        ·
          rw [if_pos g4]
          exact K_NH_print_J24
        ·
          rw [if_neg g4]
          exact K_NH_print_J25
    ·
      rw [if_neg g2]
      by_cases g5 : x2 = (1 : Int32)
      ·
        rw [if_pos g5]
        by_cases g6 : x4 < (0 : Int32)
        ·
          rw [if_pos g6]
          exact K_NH_print_J63
        ·
          rw [if_neg g6]
          by_cases g7 : (2 : Int32) < x4
          ·
            rw [if_pos g7]
            exact K_NH_print_J63
          ·
            rw [if_neg g7]
            exact K_NH_print_J64
      ·
        rw [if_neg g5]
        by_cases g8 : x4 < (0 : Int32)
        ·
          rw [if_pos g8]
          exact K_NH_print_J97
        ·
          rw [if_neg g8]
          by_cases g9 : (1 : Int32) < x4
          ·
            rw [if_pos g9]
            exact K_NH_print_J97
          ·
            rw [if_neg g9]
            exact K_NH_print_J98
  ·
    rw [if_neg g1]
    exact (show kC1 ((F_NH_needRegister x2 x3)) from (k_reg _ _).to1)
def QK_figures (p : Int32 × Int32 × Int32 × (Nat → Int64) × Int32 × Int32 × (Nat → Int32) × Int32 × Int32 × (Nat → Int32)) : Prop := kC12 p.1
theorem K_NH_figures_J80 {x2 : Int32} {x3 : Int32} {x4 : Int32} {x5 : Int32} {x6 : Int32} {t0_0 : Int32} {t1_0 : (Nat → Int64)} {t2_0 : Int32} {t2_1 : Int32} {t3_0 : (Nat → Int32)} {t4_0 : Int32} {t4_1 : Int32} {t5_0 : (Nat → Int32)} {t6_0 : (Nat → Int64)} {t7_0 : (Nat → Int64)} {t8_0 : Int64} {t8_1 : Int32} {t8_2 : Int32} {t9_0 : Int64} {t9_1 : Int32} {t9_2 : Int32} {lx34 : Int32} {lx62 : Int32}  : QK_figures (F_NH_figures_J80 x2 x3 x4 x5 x6 t0_0 t1_0 t2_0 t2_1 t3_0 t4_0 t4_1 t5_0 t6_0 t7_0 t8_0 t8_1 t8_2 t9_0 t9_1 t9_2 lx34 lx62) := by
  unfold F_NH_figures_J80
  by_cases g1 : (F_NH_need lx62) = (0 : Int32)
  ·
    rw [if_pos g1]
    by_cases g2 : x2 = (2 : Int32)
    ·
      rw [if_pos g2]
      rw [if_pos g2]
      by_cases g3 : (F_NH_canHave ((F_Flo_isFinite (52 : Int32) (1075 : Int32) (2047 : Int32) (t6_0 x3.toNatClampNeg : Int64)) : Int32)) = (0 : Int32)
      ·
        rw [if_pos g3]
        generalize F_Wri_exactText (52 : Int32) (1075 : Int32) (2047 : Int32) (t6_0 x3.toNatClampNeg : Int64) x4 x5 x6 t0_0 t1_0 t4_0 t4_1 t5_0 t2_0 t2_1 t3_0 t8_0 t8_1 t8_2 = p160 at *
        unfold F_NH_figures_c122
        exact (show kC12 (0 : Int32) from Or.inl rfl)
      ·
        rw [if_neg g3]
        exact (show kC12 ((F_NH_canHave ((F_Flo_isFinite (52 : Int32) (1075 : Int32) (2047 : Int32) (t6_0 x3.toNatClampNeg : Int64)) : Int32))) from (k_can _).to12)
    ·
      rw [if_neg g2]
      rw [if_neg g2]
      by_cases g4 : (F_NH_canHave ((F_Flo_isFinite (23 : Int32) (150 : Int32) (255 : Int32) (t7_0 x3.toNatClampNeg : Int64)) : Int32)) = (0 : Int32)
      ·
        rw [if_pos g4]
        generalize F_Wri_exactText (23 : Int32) (150 : Int32) (255 : Int32) (t7_0 x3.toNatClampNeg : Int64) x4 x5 x6 t0_0 t1_0 t4_0 t4_1 t5_0 t2_0 t2_1 t3_0 t9_0 t9_1 t9_2 = p383 at *
        unfold F_NH_figures_c122_6
        exact (show kC12 (0 : Int32) from Or.inl rfl)
      ·
        rw [if_neg g4]
        exact (show kC12 ((F_NH_canHave ((F_Flo_isFinite (23 : Int32) (150 : Int32) (255 : Int32) (t7_0 x3.toNatClampNeg : Int64)) : Int32))) from (k_can _).to12)
  ·
    rw [if_neg g1]
    exact (show kC12 ((F_NH_need lx62)) from (k_need _).to12)
theorem K_NH_figures_J79 {x2 : Int32} {x3 : Int32} {x4 : Int32} {x5 : Int32} {x6 : Int32} {t0_0 : Int32} {t1_0 : (Nat → Int64)} {t2_0 : Int32} {t2_1 : Int32} {t3_0 : (Nat → Int32)} {t4_0 : Int32} {t4_1 : Int32} {t5_0 : (Nat → Int32)} {t6_0 : (Nat → Int64)} {t7_0 : (Nat → Int64)} {t8_0 : Int64} {t8_1 : Int32} {t8_2 : Int32} {t9_0 : Int64} {t9_1 : Int32} {t9_2 : Int32} {lx34 : Int32}  : QK_figures (F_NH_figures_J79 x2 x3 x4 x5 x6 t0_0 t1_0 t2_0 t2_1 t3_0 t4_0 t4_1 t5_0 t6_0 t7_0 t8_0 t8_1 t8_2 t9_0 t9_1 t9_2 lx34) := by
  unfold F_NH_figures_J79
  exact K_NH_figures_J80
theorem K_NH_figures_J58 {x2 : Int32} {x3 : Int32} {x4 : Int32} {x5 : Int32} {x6 : Int32} {t0_0 : Int32} {t1_0 : (Nat → Int64)} {t2_0 : Int32} {t2_1 : Int32} {t3_0 : (Nat → Int32)} {t4_0 : Int32} {t4_1 : Int32} {t5_0 : (Nat → Int32)} {t6_0 : (Nat → Int64)} {t7_0 : (Nat → Int64)} {t8_0 : Int64} {t8_1 : Int32} {t8_2 : Int32} {t9_0 : Int64} {t9_1 : Int32} {t9_2 : Int32} {lx34 : Int32}  : QK_figures (F_NH_figures_J58 x2 x3 x4 x5 x6 t0_0 t1_0 t2_0 t2_1 t3_0 t4_0 t4_1 t5_0 t6_0 t7_0 t8_0 t8_1 t8_2 t9_0 t9_1 t9_2 lx34) := by
  unfold F_NH_figures_J58
  exact K_NH_figures_J80
theorem K_NH_figures_J33 {x2 : Int32} {x3 : Int32} {x4 : Int32} {x5 : Int32} {x6 : Int32} {t0_0 : Int32} {t1_0 : (Nat → Int64)} {t2_0 : Int32} {t2_1 : Int32} {t3_0 : (Nat → Int32)} {t4_0 : Int32} {t4_1 : Int32} {t5_0 : (Nat → Int32)} {t6_0 : (Nat → Int64)} {t7_0 : (Nat → Int64)} {t8_0 : Int64} {t8_1 : Int32} {t8_2 : Int32} {t9_0 : Int64} {t9_1 : Int32} {t9_2 : Int32} {lx34 : Int32}  : QK_figures (F_NH_figures_J33 x2 x3 x4 x5 x6 t0_0 t1_0 t2_0 t2_1 t3_0 t4_0 t4_1 t5_0 t6_0 t7_0 t8_0 t8_1 t8_2 t9_0 t9_1 t9_2 lx34) := by
  unfold F_NH_figures_J33
  by_cases g1 : (F_NH_need lx34) = (0 : Int32)
  ·
    rw [if_pos g1]
    by_cases g2 : x4 = (0 : Int32)
    ·
      rw [if_pos g2]
      by_cases g3 : x5 < (0 : Int32)
      ·
        rw [if_pos g3]
        exact K_NH_figures_J79
      ·
        rw [if_neg g3]
        by_cases g4 : (1100 : Int32) < x5
        ·
          rw [if_pos g4]
          exact K_NH_figures_J79
        ·
          rw [if_neg g4]
          exact K_NH_figures_J80
    ·
      rw [if_neg g2]
      by_cases g5 : x5 < (1 : Int32)
      ·
        rw [if_pos g5]
        exact K_NH_figures_J58
      ·
        rw [if_neg g5]
        by_cases g6 : (800 : Int32) < x5
        ·
          rw [if_pos g6]
          exact K_NH_figures_J58
        ·
          rw [if_neg g6]
          exact K_NH_figures_J80
  ·
    rw [if_neg g1]
    exact (show kC12 ((F_NH_need lx34)) from (k_need _).to12)
theorem K_NH_figures_J32 {x2 : Int32} {x3 : Int32} {x4 : Int32} {x5 : Int32} {x6 : Int32} {t0_0 : Int32} {t1_0 : (Nat → Int64)} {t2_0 : Int32} {t2_1 : Int32} {t3_0 : (Nat → Int32)} {t4_0 : Int32} {t4_1 : Int32} {t5_0 : (Nat → Int32)} {t6_0 : (Nat → Int64)} {t7_0 : (Nat → Int64)} {t8_0 : Int64} {t8_1 : Int32} {t8_2 : Int32} {t9_0 : Int64} {t9_1 : Int32} {t9_2 : Int32}  : QK_figures (F_NH_figures_J32 x2 x3 x4 x5 x6 t0_0 t1_0 t2_0 t2_1 t3_0 t4_0 t4_1 t5_0 t6_0 t7_0 t8_0 t8_1 t8_2 t9_0 t9_1 t9_2) := by
  unfold F_NH_figures_J32
  exact K_NH_figures_J33
theorem K_NH_figures_J10 {x2 : Int32} {x3 : Int32} {x4 : Int32} {x5 : Int32} {x6 : Int32} {t0_0 : Int32} {t1_0 : (Nat → Int64)} {t2_0 : Int32} {t2_1 : Int32} {t3_0 : (Nat → Int32)} {t4_0 : Int32} {t4_1 : Int32} {t5_0 : (Nat → Int32)} {t6_0 : (Nat → Int64)} {t7_0 : (Nat → Int64)} {t8_0 : Int64} {t8_1 : Int32} {t8_2 : Int32} {t9_0 : Int64} {t9_1 : Int32} {t9_2 : Int32}  : QK_figures (F_NH_figures_J10 x2 x3 x4 x5 x6 t0_0 t1_0 t2_0 t2_1 t3_0 t4_0 t4_1 t5_0 t6_0 t7_0 t8_0 t8_1 t8_2 t9_0 t9_1 t9_2) := by
  unfold F_NH_figures_J10
  by_cases g1 : ((F_NH_isRegister x3) : Int32) = (0 : Int32)
  ·
    rw [if_pos g1]
    exact K_NH_figures_J32
  ·
    rw [if_neg g1]
    by_cases g2 : x6 < (0 : Int32)
    ·
      rw [if_pos g2]
      exact K_NH_figures_J32
    ·
      rw [if_neg g2]
      by_cases g3 : (3 : Int32) < x6
      ·
        rw [if_pos g3]
        exact K_NH_figures_J32
      ·
        rw [if_neg g3]
        exact K_NH_figures_J33
theorem K_NH_figures {x2 : Int32} {x3 : Int32} {x4 : Int32} {x5 : Int32} {x6 : Int32} {t0_0 : Int32} {t1_0 : (Nat → Int64)} {t2_0 : Int32} {t2_1 : Int32} {t3_0 : (Nat → Int32)} {t4_0 : Int32} {t4_1 : Int32} {t5_0 : (Nat → Int32)} {t6_0 : (Nat → Int64)} {t7_0 : (Nat → Int64)} {t8_0 : Int64} {t8_1 : Int32} {t8_2 : Int32} {t9_0 : Int64} {t9_1 : Int32} {t9_2 : Int32}  : QK_figures (F_NH_figures x2 x3 x4 x5 x6 t0_0 t1_0 t2_0 t2_1 t3_0 t4_0 t4_1 t5_0 t6_0 t7_0 t8_0 t8_1 t8_2 t9_0 t9_1 t9_2) := by
  unfold F_NH_figures
  by_cases g1 : x2 = (2 : Int32)
  ·
    rw [if_pos g1]
    exact K_NH_figures_J10
  ·
    rw [if_neg g1]
    by_cases g2 : x2 = (3 : Int32)
    ·
      rw [if_pos g2]
      exact K_NH_figures_J10
    ·
      rw [if_neg g2]
      exact K_NH_figures_J32
def QK_argument (p : Int32 × Int32 × Int32 × Int32 × Int32 × Int32 × (Nat → Int32) × (Nat → Int64) × (Nat → Int32) × Int32 × Int32 × (Nat → Int64) × Int32 × (Nat → Int64) × Int32 × (Nat → Int64) × Int32 × (Nat → Int64) × Int32 × (Nat → Int64) × Int32 × (Nat → Int64) × Int32 × (Nat → Int64) × Int32 × (Nat → Int64) × Int32 × (Nat → Int64)) : Prop := kC123 p.1
theorem K_NH_argument_J171 {x2 : Int32} {x3 : Int32} {t0_0 : Int32} {t0_1 : Int32} {t0_2 : Int32} {t0_3 : Int32} {t1_0 : (Nat → Int32)} {t2_0 : (Nat → Int64)} {t3_0 : (Nat → Int32)} {t4_0 : Int32} {t5_0 : (Nat → Int64)} {t6_0 : Int32} {t7_0 : (Nat → Int64)} {t8_0 : Int32} {t9_0 : (Nat → Int64)} {t10_0 : Int32} {t11_0 : (Nat → Int64)} {t12_0 : Int32} {t13_0 : (Nat → Int64)} {t14_0 : Int32} {t15_0 : (Nat → Int64)} {t16_0 : Int32} {t17_0 : (Nat → Int64)} {t18_0 : Int32} {t19_0 : (Nat → Int64)} {t20_0 : Int32} {t21_0 : (Nat → Int64)} {t22_0 : Int32} {t23_0 : (Nat → Int64)} {t24_0 : Int32} {t24_1 : Int32} {t25_0 : (Nat → Int32)} {t26_0 : Int32} {t26_1 : Int32} {t27_0 : Int32} {t27_1 : Int32} {t28_0 : (Nat → Int32)} {lx88 : Int32} {lx135 : Int32} {lx182 : Int32} {lx231 : Int32} {lx278 : Int32}  : QK_argument (F_NH_argument_J171 x2 x3 t0_0 t0_1 t0_2 t0_3 t1_0 t2_0 t3_0 t4_0 t5_0 t6_0 t7_0 t8_0 t9_0 t10_0 t11_0 t12_0 t13_0 t14_0 t15_0 t16_0 t17_0 t18_0 t19_0 t20_0 t21_0 t22_0 t23_0 t24_0 t24_1 t25_0 t26_0 t26_1 t27_0 t27_1 t28_0 lx88 lx135 lx182 lx231 lx278) := by
  unfold F_NH_argument_J171
  by_cases g1 : t0_0 < (9 : Int32)
  ·
    rw [if_pos g1]
    generalize F_NH_addArgument x2 x3 t0_0 t0_1 t0_2 t0_3 t1_0 t2_0 t3_0 t4_0 t5_0 t6_0 t7_0 t8_0 t9_0 t10_0 t11_0 t12_0 t13_0 t14_0 t15_0 t16_0 t17_0 t18_0 t19_0 t20_0 t21_0 t22_0 t23_0 t24_0 t24_1 t25_0 t26_0 t26_1 t27_0 t27_1 t28_0 = p453 at *
    unfold F_NH_argument_c188
    exact (show kC123 (0 : Int32) from Or.inl rfl)
  ·
    rw [if_neg g1]
    exact (show kC123 (0 : Int32) from Or.inl rfl)
theorem K_NH_argument_J139 {x2 : Int32} {x3 : Int32} {t0_0 : Int32} {t0_1 : Int32} {t0_2 : Int32} {t0_3 : Int32} {t1_0 : (Nat → Int32)} {t2_0 : (Nat → Int64)} {t3_0 : (Nat → Int32)} {t4_0 : Int32} {t5_0 : (Nat → Int64)} {t6_0 : Int32} {t7_0 : (Nat → Int64)} {t8_0 : Int32} {t9_0 : (Nat → Int64)} {t10_0 : Int32} {t11_0 : (Nat → Int64)} {t12_0 : Int32} {t13_0 : (Nat → Int64)} {t14_0 : Int32} {t15_0 : (Nat → Int64)} {t16_0 : Int32} {t17_0 : (Nat → Int64)} {t18_0 : Int32} {t19_0 : (Nat → Int64)} {t20_0 : Int32} {t21_0 : (Nat → Int64)} {t22_0 : Int32} {t23_0 : (Nat → Int64)} {t24_0 : Int32} {t24_1 : Int32} {t25_0 : (Nat → Int32)} {t26_0 : Int32} {t26_1 : Int32} {t27_0 : Int32} {t27_1 : Int32} {t28_0 : (Nat → Int32)} {lx88 : Int32} {lx135 : Int32} {lx182 : Int32} {lx231 : Int32} {lx278 : Int32}  : QK_argument (F_NH_argument_J139 x2 x3 t0_0 t0_1 t0_2 t0_3 t1_0 t2_0 t3_0 t4_0 t5_0 t6_0 t7_0 t8_0 t9_0 t10_0 t11_0 t12_0 t13_0 t14_0 t15_0 t16_0 t17_0 t18_0 t19_0 t20_0 t21_0 t22_0 t23_0 t24_0 t24_1 t25_0 t26_0 t26_1 t27_0 t27_1 t28_0 lx88 lx135 lx182 lx231 lx278) := by
  unfold F_NH_argument_J139
  by_cases g1 : (F_NH_canHave lx278) = (0 : Int32)
  ·
    rw [if_pos g1]
    by_cases g2 : x2 = (7 : Int32)
    ·
      rw [if_pos g2]
      by_cases g3 : t4_0 ≤ (64 : Int32)
      ·
        rw [if_pos g3]
        exact K_NH_argument_J171
      ·
        rw [if_neg g3]
        exact (show kC123 (3 : Int32) from Or.inr (Or.inr (Or.inr (rfl))))
    ·
      rw [if_neg g2]
      exact K_NH_argument_J171
  ·
    rw [if_neg g1]
    exact (show kC123 ((F_NH_canHave lx278)) from (k_can _).to123)
theorem K_NH_argument_J134 {x2 : Int32} {x3 : Int32} {t0_0 : Int32} {t0_1 : Int32} {t0_2 : Int32} {t0_3 : Int32} {t1_0 : (Nat → Int32)} {t2_0 : (Nat → Int64)} {t3_0 : (Nat → Int32)} {t4_0 : Int32} {t5_0 : (Nat → Int64)} {t6_0 : Int32} {t7_0 : (Nat → Int64)} {t8_0 : Int32} {t9_0 : (Nat → Int64)} {t10_0 : Int32} {t11_0 : (Nat → Int64)} {t12_0 : Int32} {t13_0 : (Nat → Int64)} {t14_0 : Int32} {t15_0 : (Nat → Int64)} {t16_0 : Int32} {t17_0 : (Nat → Int64)} {t18_0 : Int32} {t19_0 : (Nat → Int64)} {t20_0 : Int32} {t21_0 : (Nat → Int64)} {t22_0 : Int32} {t23_0 : (Nat → Int64)} {t24_0 : Int32} {t24_1 : Int32} {t25_0 : (Nat → Int32)} {t26_0 : Int32} {t26_1 : Int32} {t27_0 : Int32} {t27_1 : Int32} {t28_0 : (Nat → Int32)} {lx88 : Int32} {lx135 : Int32} {lx182 : Int32} {lx231 : Int32}  : QK_argument (F_NH_argument_J134 x2 x3 t0_0 t0_1 t0_2 t0_3 t1_0 t2_0 t3_0 t4_0 t5_0 t6_0 t7_0 t8_0 t9_0 t10_0 t11_0 t12_0 t13_0 t14_0 t15_0 t16_0 t17_0 t18_0 t19_0 t20_0 t21_0 t22_0 t23_0 t24_0 t24_1 t25_0 t26_0 t26_1 t27_0 t27_1 t28_0 lx88 lx135 lx182 lx231) := by
  unfold F_NH_argument_J134
  exact K_NH_argument_J139
theorem K_NH_argument_J110 {x2 : Int32} {x3 : Int32} {t0_0 : Int32} {t0_1 : Int32} {t0_2 : Int32} {t0_3 : Int32} {t1_0 : (Nat → Int32)} {t2_0 : (Nat → Int64)} {t3_0 : (Nat → Int32)} {t4_0 : Int32} {t5_0 : (Nat → Int64)} {t6_0 : Int32} {t7_0 : (Nat → Int64)} {t8_0 : Int32} {t9_0 : (Nat → Int64)} {t10_0 : Int32} {t11_0 : (Nat → Int64)} {t12_0 : Int32} {t13_0 : (Nat → Int64)} {t14_0 : Int32} {t15_0 : (Nat → Int64)} {t16_0 : Int32} {t17_0 : (Nat → Int64)} {t18_0 : Int32} {t19_0 : (Nat → Int64)} {t20_0 : Int32} {t21_0 : (Nat → Int64)} {t22_0 : Int32} {t23_0 : (Nat → Int64)} {t24_0 : Int32} {t24_1 : Int32} {t25_0 : (Nat → Int32)} {t26_0 : Int32} {t26_1 : Int32} {t27_0 : Int32} {t27_1 : Int32} {t28_0 : (Nat → Int32)} {lx88 : Int32} {lx135 : Int32} {lx182 : Int32} {lx231 : Int32}  : QK_argument (F_NH_argument_J110 x2 x3 t0_0 t0_1 t0_2 t0_3 t1_0 t2_0 t3_0 t4_0 t5_0 t6_0 t7_0 t8_0 t9_0 t10_0 t11_0 t12_0 t13_0 t14_0 t15_0 t16_0 t17_0 t18_0 t19_0 t20_0 t21_0 t22_0 t23_0 t24_0 t24_1 t25_0 t26_0 t26_1 t27_0 t27_1 t28_0 lx88 lx135 lx182 lx231) := by
  unfold F_NH_argument_J110
  by_cases g1 : (F_NH_canHave lx231) = (0 : Int32)
  ·
    rw [if_pos g1]
    by_cases g2 : x2 = (1 : Int32)
    ·
      rw [if_pos g2]
      by_cases g3 : ((F_Pri_canTake (108 : Int32) t26_0 t26_1 t27_0 t27_1 t28_0) : Int32) = (0 : Int32)
      ·
        rw [if_pos g3]
        exact K_NH_argument_J139
      ·
        rw [if_neg g3]
        exact K_NH_argument_J134
    ·
      rw [if_neg g2]
      exact K_NH_argument_J134
  ·
    rw [if_neg g1]
    exact (show kC123 ((F_NH_canHave lx231)) from (k_can _).to123)
theorem K_NH_argument_J105 {x2 : Int32} {x3 : Int32} {t0_0 : Int32} {t0_1 : Int32} {t0_2 : Int32} {t0_3 : Int32} {t1_0 : (Nat → Int32)} {t2_0 : (Nat → Int64)} {t3_0 : (Nat → Int32)} {t4_0 : Int32} {t5_0 : (Nat → Int64)} {t6_0 : Int32} {t7_0 : (Nat → Int64)} {t8_0 : Int32} {t9_0 : (Nat → Int64)} {t10_0 : Int32} {t11_0 : (Nat → Int64)} {t12_0 : Int32} {t13_0 : (Nat → Int64)} {t14_0 : Int32} {t15_0 : (Nat → Int64)} {t16_0 : Int32} {t17_0 : (Nat → Int64)} {t18_0 : Int32} {t19_0 : (Nat → Int64)} {t20_0 : Int32} {t21_0 : (Nat → Int64)} {t22_0 : Int32} {t23_0 : (Nat → Int64)} {t24_0 : Int32} {t24_1 : Int32} {t25_0 : (Nat → Int32)} {t26_0 : Int32} {t26_1 : Int32} {t27_0 : Int32} {t27_1 : Int32} {t28_0 : (Nat → Int32)} {lx88 : Int32} {lx135 : Int32} {lx182 : Int32}  : QK_argument (F_NH_argument_J105 x2 x3 t0_0 t0_1 t0_2 t0_3 t1_0 t2_0 t3_0 t4_0 t5_0 t6_0 t7_0 t8_0 t9_0 t10_0 t11_0 t12_0 t13_0 t14_0 t15_0 t16_0 t17_0 t18_0 t19_0 t20_0 t21_0 t22_0 t23_0 t24_0 t24_1 t25_0 t26_0 t26_1 t27_0 t27_1 t28_0 lx88 lx135 lx182) := by
  unfold F_NH_argument_J105
  exact K_NH_argument_J110
theorem K_NH_argument_J70 {x2 : Int32} {x3 : Int32} {t0_0 : Int32} {t0_1 : Int32} {t0_2 : Int32} {t0_3 : Int32} {t1_0 : (Nat → Int32)} {t2_0 : (Nat → Int64)} {t3_0 : (Nat → Int32)} {t4_0 : Int32} {t5_0 : (Nat → Int64)} {t6_0 : Int32} {t7_0 : (Nat → Int64)} {t8_0 : Int32} {t9_0 : (Nat → Int64)} {t10_0 : Int32} {t11_0 : (Nat → Int64)} {t12_0 : Int32} {t13_0 : (Nat → Int64)} {t14_0 : Int32} {t15_0 : (Nat → Int64)} {t16_0 : Int32} {t17_0 : (Nat → Int64)} {t18_0 : Int32} {t19_0 : (Nat → Int64)} {t20_0 : Int32} {t21_0 : (Nat → Int64)} {t22_0 : Int32} {t23_0 : (Nat → Int64)} {t24_0 : Int32} {t24_1 : Int32} {t25_0 : (Nat → Int32)} {t26_0 : Int32} {t26_1 : Int32} {t27_0 : Int32} {t27_1 : Int32} {t28_0 : (Nat → Int32)} {lx88 : Int32} {lx135 : Int32} {lx182 : Int32}  : QK_argument (F_NH_argument_J70 x2 x3 t0_0 t0_1 t0_2 t0_3 t1_0 t2_0 t3_0 t4_0 t5_0 t6_0 t7_0 t8_0 t9_0 t10_0 t11_0 t12_0 t13_0 t14_0 t15_0 t16_0 t17_0 t18_0 t19_0 t20_0 t21_0 t22_0 t23_0 t24_0 t24_1 t25_0 t26_0 t26_1 t27_0 t27_1 t28_0 lx88 lx135 lx182) := by
  unfold F_NH_argument_J70
  by_cases g1 : (F_NH_need lx182) = (0 : Int32)
  ·
    rw [if_pos g1]
    by_cases g2 : x2 = (8 : Int32)
    ·
      rw [if_pos g2]
      exact (show kC123 (0 : Int32) from Or.inl rfl)
    ·
      rw [if_neg g2]
      by_cases g3 : x2 = (0 : Int32)
      ·
        rw [if_pos g3]
        by_cases g4 : ((F_Big_fitsLong (68 : Int32) t24_0 t24_1 t25_0) : Int32) = (0 : Int32)
        ·
          rw [if_pos g4]
          exact K_NH_argument_J110
        ·
          rw [if_neg g4]
          exact K_NH_argument_J105
      ·
        rw [if_neg g3]
        exact K_NH_argument_J105
  ·
    rw [if_neg g1]
    exact (show kC123 ((F_NH_need lx182)) from (k_need _).to123)
theorem K_NH_argument_J65 {x2 : Int32} {x3 : Int32} {t0_0 : Int32} {t0_1 : Int32} {t0_2 : Int32} {t0_3 : Int32} {t1_0 : (Nat → Int32)} {t2_0 : (Nat → Int64)} {t3_0 : (Nat → Int32)} {t4_0 : Int32} {t5_0 : (Nat → Int64)} {t6_0 : Int32} {t7_0 : (Nat → Int64)} {t8_0 : Int32} {t9_0 : (Nat → Int64)} {t10_0 : Int32} {t11_0 : (Nat → Int64)} {t12_0 : Int32} {t13_0 : (Nat → Int64)} {t14_0 : Int32} {t15_0 : (Nat → Int64)} {t16_0 : Int32} {t17_0 : (Nat → Int64)} {t18_0 : Int32} {t19_0 : (Nat → Int64)} {t20_0 : Int32} {t21_0 : (Nat → Int64)} {t22_0 : Int32} {t23_0 : (Nat → Int64)} {t24_0 : Int32} {t24_1 : Int32} {t25_0 : (Nat → Int32)} {t26_0 : Int32} {t26_1 : Int32} {t27_0 : Int32} {t27_1 : Int32} {t28_0 : (Nat → Int32)} {lx88 : Int32} {lx135 : Int32}  : QK_argument (F_NH_argument_J65 x2 x3 t0_0 t0_1 t0_2 t0_3 t1_0 t2_0 t3_0 t4_0 t5_0 t6_0 t7_0 t8_0 t9_0 t10_0 t11_0 t12_0 t13_0 t14_0 t15_0 t16_0 t17_0 t18_0 t19_0 t20_0 t21_0 t22_0 t23_0 t24_0 t24_1 t25_0 t26_0 t26_1 t27_0 t27_1 t28_0 lx88 lx135) := by
  unfold F_NH_argument_J65
  exact K_NH_argument_J70
theorem K_NH_argument_J69 {x2 : Int32} {x3 : Int32} {t0_0 : Int32} {t0_1 : Int32} {t0_2 : Int32} {t0_3 : Int32} {t1_0 : (Nat → Int32)} {t2_0 : (Nat → Int64)} {t3_0 : (Nat → Int32)} {t4_0 : Int32} {t5_0 : (Nat → Int64)} {t6_0 : Int32} {t7_0 : (Nat → Int64)} {t8_0 : Int32} {t9_0 : (Nat → Int64)} {t10_0 : Int32} {t11_0 : (Nat → Int64)} {t12_0 : Int32} {t13_0 : (Nat → Int64)} {t14_0 : Int32} {t15_0 : (Nat → Int64)} {t16_0 : Int32} {t17_0 : (Nat → Int64)} {t18_0 : Int32} {t19_0 : (Nat → Int64)} {t20_0 : Int32} {t21_0 : (Nat → Int64)} {t22_0 : Int32} {t23_0 : (Nat → Int64)} {t24_0 : Int32} {t24_1 : Int32} {t25_0 : (Nat → Int32)} {t26_0 : Int32} {t26_1 : Int32} {t27_0 : Int32} {t27_1 : Int32} {t28_0 : (Nat → Int32)} {lx88 : Int32} {lx135 : Int32}  : QK_argument (F_NH_argument_J69 x2 x3 t0_0 t0_1 t0_2 t0_3 t1_0 t2_0 t3_0 t4_0 t5_0 t6_0 t7_0 t8_0 t9_0 t10_0 t11_0 t12_0 t13_0 t14_0 t15_0 t16_0 t17_0 t18_0 t19_0 t20_0 t21_0 t22_0 t23_0 t24_0 t24_1 t25_0 t26_0 t26_1 t27_0 t27_1 t28_0 lx88 lx135) := by
  unfold F_NH_argument_J69
  exact K_NH_argument_J70
theorem K_NH_argument_J45 {x2 : Int32} {x3 : Int32} {t0_0 : Int32} {t0_1 : Int32} {t0_2 : Int32} {t0_3 : Int32} {t1_0 : (Nat → Int32)} {t2_0 : (Nat → Int64)} {t3_0 : (Nat → Int32)} {t4_0 : Int32} {t5_0 : (Nat → Int64)} {t6_0 : Int32} {t7_0 : (Nat → Int64)} {t8_0 : Int32} {t9_0 : (Nat → Int64)} {t10_0 : Int32} {t11_0 : (Nat → Int64)} {t12_0 : Int32} {t13_0 : (Nat → Int64)} {t14_0 : Int32} {t15_0 : (Nat → Int64)} {t16_0 : Int32} {t17_0 : (Nat → Int64)} {t18_0 : Int32} {t19_0 : (Nat → Int64)} {t20_0 : Int32} {t21_0 : (Nat → Int64)} {t22_0 : Int32} {t23_0 : (Nat → Int64)} {t24_0 : Int32} {t24_1 : Int32} {t25_0 : (Nat → Int32)} {t26_0 : Int32} {t26_1 : Int32} {t27_0 : Int32} {t27_1 : Int32} {t28_0 : (Nat → Int32)} {lx88 : Int32} {lx135 : Int32}  : QK_argument (F_NH_argument_J45 x2 x3 t0_0 t0_1 t0_2 t0_3 t1_0 t2_0 t3_0 t4_0 t5_0 t6_0 t7_0 t8_0 t9_0 t10_0 t11_0 t12_0 t13_0 t14_0 t15_0 t16_0 t17_0 t18_0 t19_0 t20_0 t21_0 t22_0 t23_0 t24_0 t24_1 t25_0 t26_0 t26_1 t27_0 t27_1 t28_0 lx88 lx135) := by
  unfold F_NH_argument_J45
  by_cases g1 : (F_NH_need lx135) = (0 : Int32)
  ·
    rw [if_pos g1]
    by_cases g2 : x2 = (6 : Int32)
    ·
      rw [if_pos g2]
      by_cases g3 : x3 < (0 : Int32)
      ·
        rw [if_pos g3]
        exact K_NH_argument_J69
      ·
        rw [if_neg g3]
        by_cases g4 : (255 : Int32) < x3
        ·
          rw [if_pos g4]
          exact K_NH_argument_J69
        ·
          rw [if_neg g4]
          exact K_NH_argument_J65
    ·
      rw [if_neg g2]
      exact K_NH_argument_J65
  ·
    rw [if_neg g1]
    exact (show kC123 ((F_NH_need lx135)) from (k_need _).to123)
theorem K_NH_argument_J40 {x2 : Int32} {x3 : Int32} {t0_0 : Int32} {t0_1 : Int32} {t0_2 : Int32} {t0_3 : Int32} {t1_0 : (Nat → Int32)} {t2_0 : (Nat → Int64)} {t3_0 : (Nat → Int32)} {t4_0 : Int32} {t5_0 : (Nat → Int64)} {t6_0 : Int32} {t7_0 : (Nat → Int64)} {t8_0 : Int32} {t9_0 : (Nat → Int64)} {t10_0 : Int32} {t11_0 : (Nat → Int64)} {t12_0 : Int32} {t13_0 : (Nat → Int64)} {t14_0 : Int32} {t15_0 : (Nat → Int64)} {t16_0 : Int32} {t17_0 : (Nat → Int64)} {t18_0 : Int32} {t19_0 : (Nat → Int64)} {t20_0 : Int32} {t21_0 : (Nat → Int64)} {t22_0 : Int32} {t23_0 : (Nat → Int64)} {t24_0 : Int32} {t24_1 : Int32} {t25_0 : (Nat → Int32)} {t26_0 : Int32} {t26_1 : Int32} {t27_0 : Int32} {t27_1 : Int32} {t28_0 : (Nat → Int32)} {lx88 : Int32}  : QK_argument (F_NH_argument_J40 x2 x3 t0_0 t0_1 t0_2 t0_3 t1_0 t2_0 t3_0 t4_0 t5_0 t6_0 t7_0 t8_0 t9_0 t10_0 t11_0 t12_0 t13_0 t14_0 t15_0 t16_0 t17_0 t18_0 t19_0 t20_0 t21_0 t22_0 t23_0 t24_0 t24_1 t25_0 t26_0 t26_1 t27_0 t27_1 t28_0 lx88) := by
  unfold F_NH_argument_J40
  exact K_NH_argument_J45
theorem K_NH_argument_J25 {x2 : Int32} {x3 : Int32} {t0_0 : Int32} {t0_1 : Int32} {t0_2 : Int32} {t0_3 : Int32} {t1_0 : (Nat → Int32)} {t2_0 : (Nat → Int64)} {t3_0 : (Nat → Int32)} {t4_0 : Int32} {t5_0 : (Nat → Int64)} {t6_0 : Int32} {t7_0 : (Nat → Int64)} {t8_0 : Int32} {t9_0 : (Nat → Int64)} {t10_0 : Int32} {t11_0 : (Nat → Int64)} {t12_0 : Int32} {t13_0 : (Nat → Int64)} {t14_0 : Int32} {t15_0 : (Nat → Int64)} {t16_0 : Int32} {t17_0 : (Nat → Int64)} {t18_0 : Int32} {t19_0 : (Nat → Int64)} {t20_0 : Int32} {t21_0 : (Nat → Int64)} {t22_0 : Int32} {t23_0 : (Nat → Int64)} {t24_0 : Int32} {t24_1 : Int32} {t25_0 : (Nat → Int32)} {t26_0 : Int32} {t26_1 : Int32} {t27_0 : Int32} {t27_1 : Int32} {t28_0 : (Nat → Int32)} {lx88 : Int32}  : QK_argument (F_NH_argument_J25 x2 x3 t0_0 t0_1 t0_2 t0_3 t1_0 t2_0 t3_0 t4_0 t5_0 t6_0 t7_0 t8_0 t9_0 t10_0 t11_0 t12_0 t13_0 t14_0 t15_0 t16_0 t17_0 t18_0 t19_0 t20_0 t21_0 t22_0 t23_0 t24_0 t24_1 t25_0 t26_0 t26_1 t27_0 t27_1 t28_0 lx88) := by
  unfold F_NH_argument_J25
  by_cases g1 : (F_NH_need lx88) = (0 : Int32)
  ·
    rw [if_pos g1]
    by_cases g2 : (1 : Int32) < x2
    ·
      rw [if_pos g2]
      exact K_NH_argument_J40
    ·
      rw [if_neg g2]
      by_cases g3 : ((F_NH_isRegister x3) : Int32) = (0 : Int32)
      ·
        rw [if_pos g3]
        exact K_NH_argument_J45
      ·
        rw [if_neg g3]
        exact K_NH_argument_J40
  ·
    rw [if_neg g1]
    exact (show kC123 ((F_NH_need lx88)) from (k_need _).to123)
theorem K_NH_argument_J20 {x2 : Int32} {x3 : Int32} {t0_0 : Int32} {t0_1 : Int32} {t0_2 : Int32} {t0_3 : Int32} {t1_0 : (Nat → Int32)} {t2_0 : (Nat → Int64)} {t3_0 : (Nat → Int32)} {t4_0 : Int32} {t5_0 : (Nat → Int64)} {t6_0 : Int32} {t7_0 : (Nat → Int64)} {t8_0 : Int32} {t9_0 : (Nat → Int64)} {t10_0 : Int32} {t11_0 : (Nat → Int64)} {t12_0 : Int32} {t13_0 : (Nat → Int64)} {t14_0 : Int32} {t15_0 : (Nat → Int64)} {t16_0 : Int32} {t17_0 : (Nat → Int64)} {t18_0 : Int32} {t19_0 : (Nat → Int64)} {t20_0 : Int32} {t21_0 : (Nat → Int64)} {t22_0 : Int32} {t23_0 : (Nat → Int64)} {t24_0 : Int32} {t24_1 : Int32} {t25_0 : (Nat → Int32)} {t26_0 : Int32} {t26_1 : Int32} {t27_0 : Int32} {t27_1 : Int32} {t28_0 : (Nat → Int32)}  : QK_argument (F_NH_argument_J20 x2 x3 t0_0 t0_1 t0_2 t0_3 t1_0 t2_0 t3_0 t4_0 t5_0 t6_0 t7_0 t8_0 t9_0 t10_0 t11_0 t12_0 t13_0 t14_0 t15_0 t16_0 t17_0 t18_0 t19_0 t20_0 t21_0 t22_0 t23_0 t24_0 t24_1 t25_0 t26_0 t26_1 t27_0 t27_1 t28_0) := by
  unfold F_NH_argument_J20
  exact K_NH_argument_J25
theorem K_NH_argument_J24 {x2 : Int32} {x3 : Int32} {t0_0 : Int32} {t0_1 : Int32} {t0_2 : Int32} {t0_3 : Int32} {t1_0 : (Nat → Int32)} {t2_0 : (Nat → Int64)} {t3_0 : (Nat → Int32)} {t4_0 : Int32} {t5_0 : (Nat → Int64)} {t6_0 : Int32} {t7_0 : (Nat → Int64)} {t8_0 : Int32} {t9_0 : (Nat → Int64)} {t10_0 : Int32} {t11_0 : (Nat → Int64)} {t12_0 : Int32} {t13_0 : (Nat → Int64)} {t14_0 : Int32} {t15_0 : (Nat → Int64)} {t16_0 : Int32} {t17_0 : (Nat → Int64)} {t18_0 : Int32} {t19_0 : (Nat → Int64)} {t20_0 : Int32} {t21_0 : (Nat → Int64)} {t22_0 : Int32} {t23_0 : (Nat → Int64)} {t24_0 : Int32} {t24_1 : Int32} {t25_0 : (Nat → Int32)} {t26_0 : Int32} {t26_1 : Int32} {t27_0 : Int32} {t27_1 : Int32} {t28_0 : (Nat → Int32)}  : QK_argument (F_NH_argument_J24 x2 x3 t0_0 t0_1 t0_2 t0_3 t1_0 t2_0 t3_0 t4_0 t5_0 t6_0 t7_0 t8_0 t9_0 t10_0 t11_0 t12_0 t13_0 t14_0 t15_0 t16_0 t17_0 t18_0 t19_0 t20_0 t21_0 t22_0 t23_0 t24_0 t24_1 t25_0 t26_0 t26_1 t27_0 t27_1 t28_0) := by
  unfold F_NH_argument_J24
  exact K_NH_argument_J25
theorem K_NH_argument {x2 : Int32} {x3 : Int32} {t0_0 : Int32} {t0_1 : Int32} {t0_2 : Int32} {t0_3 : Int32} {t1_0 : (Nat → Int32)} {t2_0 : (Nat → Int64)} {t3_0 : (Nat → Int32)} {t4_0 : Int32} {t5_0 : (Nat → Int64)} {t6_0 : Int32} {t7_0 : (Nat → Int64)} {t8_0 : Int32} {t9_0 : (Nat → Int64)} {t10_0 : Int32} {t11_0 : (Nat → Int64)} {t12_0 : Int32} {t13_0 : (Nat → Int64)} {t14_0 : Int32} {t15_0 : (Nat → Int64)} {t16_0 : Int32} {t17_0 : (Nat → Int64)} {t18_0 : Int32} {t19_0 : (Nat → Int64)} {t20_0 : Int32} {t21_0 : (Nat → Int64)} {t22_0 : Int32} {t23_0 : (Nat → Int64)} {t24_0 : Int32} {t24_1 : Int32} {t25_0 : (Nat → Int32)} {t26_0 : Int32} {t26_1 : Int32} {t27_0 : Int32} {t27_1 : Int32} {t28_0 : (Nat → Int32)}  : QK_argument (F_NH_argument x2 x3 t0_0 t0_1 t0_2 t0_3 t1_0 t2_0 t3_0 t4_0 t5_0 t6_0 t7_0 t8_0 t9_0 t10_0 t11_0 t12_0 t13_0 t14_0 t15_0 t16_0 t17_0 t18_0 t19_0 t20_0 t21_0 t22_0 t23_0 t24_0 t24_1 t25_0 t26_0 t26_1 t27_0 t27_1 t28_0) := by
  unfold F_NH_argument
  by_cases g1 : x2 = (0 : Int32)
  ·
    rw [if_pos g1]
    exact K_NH_argument_J20
  ·
    rw [if_neg g1]
    by_cases g2 : x2 = (1 : Int32)
    ·
      rw [if_pos g2]
      exact K_NH_argument_J20
    ·
      rw [if_neg g2]
      by_cases g3 : x2 < (4 : Int32)
      ·
        rw [if_pos g3]
        exact K_NH_argument_J24
      ·
        rw [if_neg g3]
        by_cases g4 : (8 : Int32) < x2
        ·
          rw [if_pos g4]
          exact K_NH_argument_J24
        ·
          rw [if_neg g4]
          exact K_NH_argument_J20
def QK_format (p : Int32 × Int32 × Int32 × Int32 × (Nat → Int64) × Int32 × Int32 × Int32 × Int32 × Int32 × Int32 × (Nat → Int32) × Int32 × (Nat → Int64) × Int32 × Int32 × Int32 × Int32 × Int32 × Int32 × Int32) : Prop := kC3 p.1
theorem K_NH_format {t0_0 : Int32} {t1_0 : (Nat → Int64)} {t2_0 : Int32} {t3_0 : (Nat → Int64)} {t4_0 : Int32} {t4_1 : Int32} {t4_2 : Int32} {t4_3 : Int32} {t5_0 : (Nat → Int32)} {t6_0 : (Nat → Int64)} {t7_0 : (Nat → Int32)} {t8_0 : Int32} {t8_1 : Int32} {t9_0 : (Nat → Int32)} {t10_0 : Int32} {t11_0 : (Nat → Int64)} {t12_0 : Int32} {t12_1 : Int32} {t12_2 : Int32} {t12_3 : Int32} {t12_4 : Int32} {t12_5 : Int32} {t12_6 : Int32} {t13_0 : Int32} {t14_0 : (Nat → Int64)} {t15_0 : Int32} {t16_0 : (Nat → Int64)} {t17_0 : Int32} {t18_0 : (Nat → Int64)} {t19_0 : Int32} {t20_0 : (Nat → Int64)} {t21_0 : Int32} {t22_0 : (Nat → Int64)} {t23_0 : Int32} {t24_0 : (Nat → Int64)} {t25_0 : Int32} {t26_0 : (Nat → Int64)} {t27_0 : Int32} {t28_0 : (Nat → Int64)} {t29_0 : Int32} {t30_0 : (Nat → Int64)}  : QK_format (F_NH_format t0_0 t1_0 t2_0 t3_0 t4_0 t4_1 t4_2 t4_3 t5_0 t6_0 t7_0 t8_0 t8_1 t9_0 t10_0 t11_0 t12_0 t12_1 t12_2 t12_3 t12_4 t12_5 t12_6 t13_0 t14_0 t15_0 t16_0 t17_0 t18_0 t19_0 t20_0 t21_0 t22_0 t23_0 t24_0 t25_0 t26_0 t27_0 t28_0 t29_0 t30_0) := by
  unfold F_NH_format
  by_cases g1 : t0_0 ≤ (256 : Int32)
  ·
    rw [if_pos g1]
    generalize F_Pri_run t0_0 t1_0 t2_0 t3_0 t4_0 t4_1 t4_2 t4_3 t5_0 t6_0 t7_0 t8_0 t8_1 t9_0 t10_0 t11_0 t12_0 t12_1 t12_2 t12_3 t12_4 t12_5 t12_6 t13_0 t14_0 t15_0 t16_0 t17_0 t18_0 t19_0 t20_0 t21_0 t22_0 t23_0 t24_0 t25_0 t26_0 t27_0 t28_0 t29_0 t30_0 = p147 at *
    unfold F_NH_format_c32
    by_cases g2 : (p147.1 : Int32) < (0 : Int32)
    ·
      rw [if_pos g2]
      exact (show kC3 (0 : Int32) from Or.inl rfl)
    ·
      rw [if_neg g2]
      exact (show kC3 (0 : Int32) from Or.inl rfl)
  ·
    rw [if_neg g1]
    exact (show kC3 (3 : Int32) from Or.inr (rfl))

