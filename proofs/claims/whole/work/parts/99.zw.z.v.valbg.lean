/-! values, for whole: quotient, as a call of the class: a register by itself -/
theorem y_dtpK {R : Int32} {R2 : Int32} {x4 : Int32} {x5 : Int32} {t0_0 : Int64} {t0_1 : Int32} {t1_0 : Int32} {t1_1 : Int32} {t2_0 : (Nat → Int32)} {t3_0 : Int32} {t3_1 : Int32} {t4_0 : (Nat → Int32)} {t5_0 : Int32} {t5_1 : Int32} {t6_0 : (Nat → Int32)} {t7_0 : Int32} {t7_1 : Int32} {t8_0 : (Nat → Int32)} {t9_0 : Int32} {t9_1 : Int32} {t10_0 : Int32} {t10_1 : Int32} {t11_0 : (Nat → Int32)} {t12_0 : Int32} {t12_1 : Int32} {t13_0 : Int32} {t13_1 : Int32} {t14_0 : (Nat → Int32)} {j69 : Int64} {lx74 : Int32} {a102 : Int32} {p153 : (Int64 × Int32 × Int32 × Int32 × (Nat → Int32) × Int32 × Int32 × (Nat → Int32) × Int32 × Int32 × (Nat → Int32) × Int32 × Int32 × (Nat → Int32))} {j180 : Int64} {y109 : Int32} {y111 : Int32} {y112 : Int32} {f113 : (Nat → Int32)} {y116 : Int32} {y117 : Int32} {f118 : (Nat → Int32)} {y121 : Int32} {y122 : Int32} {f123 : (Nat → Int32)} {y126 : Int32} {y127 : Int32} {f128 : (Nat → Int32)} {p200 : (Int32 × Int32 × Int32 × (Nat → Int32))} {y190 : Int32} {y191 : Int32} {f192 : (Nat → Int32)} {lx213 : Int64} {lx214 : Int32} {lx215 : Int32} {lx216 : Int32} {lx217 : (Nat → Int32)} {Q : Int32 → Int32 → (Nat → Int32) → Prop} (h : Q (F_DW_divideToPrecision_J141 R R2 x4 x5 t0_0 t0_1 t1_0 t1_1 t2_0 t3_0 t3_1 t4_0 t5_0 t5_1 t6_0 t7_0 t7_1 t8_0 t9_0 t9_1 t10_0 t10_1 t11_0 t12_0 t12_1 t13_0 t13_1 t14_0 j69 lx74 a102 p153 j180 y109 y111 y112 f113 y116 y117 f118 y121 y122 f123 y126 y127 f128 p200 y190 y191 f192 lx213 lx214 lx215 lx216 lx217).2.2.2.2.2.2.2.2.2.2.2.2.2.2.2.1 (F_DW_divideToPrecision_J141 R R2 x4 x5 t0_0 t0_1 t1_0 t1_1 t2_0 t3_0 t3_1 t4_0 t5_0 t5_1 t6_0 t7_0 t7_1 t8_0 t9_0 t9_1 t10_0 t10_1 t11_0 t12_0 t12_1 t13_0 t13_1 t14_0 j69 lx74 a102 p153 j180 y109 y111 y112 f113 y116 y117 f118 y121 y122 f123 y126 y127 f128 p200 y190 y191 f192 lx213 lx214 lx215 lx216 lx217).2.2.2.2.2.2.2.2.2.2.2.2.2.2.2.2.1 (F_DW_divideToPrecision_J141 R R2 x4 x5 t0_0 t0_1 t1_0 t1_1 t2_0 t3_0 t3_1 t4_0 t5_0 t5_1 t6_0 t7_0 t7_1 t8_0 t9_0 t9_1 t10_0 t10_1 t11_0 t12_0 t12_1 t13_0 t13_1 t14_0 j69 lx74 a102 p153 j180 y109 y111 y112 f113 y116 y117 f118 y121 y122 f123 y126 y127 f128 p200 y190 y191 f192 lx213 lx214 lx215 lx216 lx217).2.2.2.2.2.2.2.2.2.2.2.2.2.2.2.2.2) : Q y126 y127 f128 := by
  unfold F_DW_divideToPrecision_J141 at h
  by_cases c : t10_1 = y127
  · rw [if_pos c] at h
    unfold F_DW_divideToPrecision_J163 at h
    by_cases d : x4 = 0
    · rw [if_pos d] at h
      exact h
    · rw [if_neg d] at h
      exact h
  · rw [if_neg c] at h
    unfold F_DW_divideToPrecision_J163 at h
    by_cases d : x4 = 0
    · rw [if_pos d] at h
      exact h
    · rw [if_neg d] at h
      exact h
theorem y_dtpC {R : Int32} {R2 : Int32} {x4 : Int32} {x5 : Int32} {t0_0 : Int64} {t0_1 : Int32} {t1_0 : Int32} {t1_1 : Int32} {t2_0 : (Nat → Int32)} {t3_0 : Int32} {t3_1 : Int32} {t4_0 : (Nat → Int32)} {t5_0 : Int32} {t5_1 : Int32} {t6_0 : (Nat → Int32)} {t7_0 : Int32} {t7_1 : Int32} {t8_0 : (Nat → Int32)} {t9_0 : Int32} {t9_1 : Int32} {t10_0 : Int32} {t10_1 : Int32} {t11_0 : (Nat → Int32)} {t12_0 : Int32} {t12_1 : Int32} {t13_0 : Int32} {t13_1 : Int32} {t14_0 : (Nat → Int32)} {j69 : Int64} {lx74 : Int32} {a102 : Int32} {p153 : (Int64 × Int32 × Int32 × Int32 × (Nat → Int32) × Int32 × Int32 × (Nat → Int32) × Int32 × Int32 × (Nat → Int32) × Int32 × Int32 × (Nat → Int32))} {j180 : Int64} {y109 : Int32} {y111 : Int32} {y112 : Int32} {f113 : (Nat → Int32)} {y116 : Int32} {y117 : Int32} {f118 : (Nat → Int32)} {y121 : Int32} {y122 : Int32} {f123 : (Nat → Int32)} {y126 : Int32} {y127 : Int32} {f128 : (Nat → Int32)} {p200 : (Int32 × Int32 × Int32 × (Nat → Int32))} {Q : Int32 → Int32 → (Nat → Int32) → Prop} (h : Q (F_DW_divideToPrecision_c101 R R2 x4 x5 t0_0 t0_1 t1_0 t1_1 t2_0 t3_0 t3_1 t4_0 t5_0 t5_1 t6_0 t7_0 t7_1 t8_0 t9_0 t9_1 t10_0 t10_1 t11_0 t12_0 t12_1 t13_0 t13_1 t14_0 j69 lx74 a102 p153 j180 y109 y111 y112 f113 y116 y117 f118 y121 y122 f123 y126 y127 f128 p200).2.2.2.2.2.2.2.2.2.2.2.2.2.2.2.1 (F_DW_divideToPrecision_c101 R R2 x4 x5 t0_0 t0_1 t1_0 t1_1 t2_0 t3_0 t3_1 t4_0 t5_0 t5_1 t6_0 t7_0 t7_1 t8_0 t9_0 t9_1 t10_0 t10_1 t11_0 t12_0 t12_1 t13_0 t13_1 t14_0 j69 lx74 a102 p153 j180 y109 y111 y112 f113 y116 y117 f118 y121 y122 f123 y126 y127 f128 p200).2.2.2.2.2.2.2.2.2.2.2.2.2.2.2.2.1 (F_DW_divideToPrecision_c101 R R2 x4 x5 t0_0 t0_1 t1_0 t1_1 t2_0 t3_0 t3_1 t4_0 t5_0 t5_1 t6_0 t7_0 t7_1 t8_0 t9_0 t9_1 t10_0 t10_1 t11_0 t12_0 t12_1 t13_0 t13_1 t14_0 j69 lx74 a102 p153 j180 y109 y111 y112 f113 y116 y117 f118 y121 y122 f123 y126 y127 f128 p200).2.2.2.2.2.2.2.2.2.2.2.2.2.2.2.2.2) : Q y126 y127 f128 := by
  unfold F_DW_divideToPrecision_c101 at h
  by_cases c : p200.1 ≤ lx74 + 1
  · rw [if_pos c] at h
    exact y_dtpK h
  · rw [if_neg c] at h
    unfold F_DW_divideToPrecision_c124 at h
    exact y_dtpK h
theorem y_dtpE {R2 : Int32} {x4 : Int32} {x5 : Int32} {t0_0 : Int64} {t0_1 : Int32} {t1_0 : Int32} {t1_1 : Int32} {t2_0 : (Nat → Int32)} {t3_0 : Int32} {t3_1 : Int32} {t4_0 : (Nat → Int32)} {t5_0 : Int32} {t5_1 : Int32} {t6_0 : (Nat → Int32)} {t7_0 : Int32} {t7_1 : Int32} {t8_0 : (Nat → Int32)} {t9_0 : Int32} {t9_1 : Int32} {t10_0 : Int32} {t10_1 : Int32} {t11_0 : (Nat → Int32)} {j56 : Int64} {lx61 : Int32} {a86 : Int32} {p137 : (Int64 × Int32 × Int32 × Int32 × (Nat → Int32) × Int32 × Int32 × (Nat → Int32) × Int32 × Int32 × (Nat → Int32) × Int32 × Int32 × (Nat → Int32))} {j164 : Int64} {y93 : Int32} {y95 : Int32} {y96 : Int32} {f97 : (Nat → Int32)} {y100 : Int32} {y101 : Int32} {f102 : (Nat → Int32)} {y105 : Int32} {y106 : Int32} {f107 : (Nat → Int32)} {y110 : Int32} {y111 : Int32} {f112 : (Nat → Int32)} {p184 : (Int32 × Int32 × Int32 × (Nat → Int32))} (e : t10_1 = y111) : (F_DW_divideToPrecision_a_c101 R2 x4 x5 t0_0 t0_1 t1_0 t1_1 t2_0 t3_0 t3_1 t4_0 t5_0 t5_1 t6_0 t7_0 t7_1 t8_0 t9_0 t9_1 t10_0 t10_1 t11_0 j56 lx61 a86 p137 j164 y93 y95 y96 f97 y100 y101 f102 y105 y106 f107 y110 y111 f112 p184) = F_DW_divideToPrecision_c101 R2 R2 x4 x5 t0_0 t0_1 t1_0 t1_1 t2_0 t3_0 t3_1 t4_0 t5_0 t5_1 t6_0 t7_0 t7_1 t8_0 t9_0 t9_1 t10_0 t10_1 t11_0 t9_0 t9_1 t10_0 t10_1 t11_0 j56 lx61 a86 p137 j164 y93 y95 y96 f97 y100 y101 f102 y105 y106 f107 y110 y111 f112 p184 := by
  unfold F_DW_divideToPrecision_a_c101 F_DW_divideToPrecision_c101
  by_cases c : p184.1 ≤ lx61 + 1
  · rw [if_pos c, if_pos c]
    unfold F_DW_divideToPrecision_a_J141 F_DW_divideToPrecision_J141
    rw [if_pos e]
    unfold F_DW_divideToPrecision_J163
    by_cases d : x4 = 0
    · rw [if_pos d, if_pos d]
      rfl
    · rw [if_neg d, if_neg d]
      rfl
  · rw [if_neg c, if_neg c]
    unfold F_DW_divideToPrecision_a_c124 F_DW_divideToPrecision_c124 F_DW_divideToPrecision_a_J141 F_DW_divideToPrecision_J141
    rw [if_pos e]
    unfold F_DW_divideToPrecision_J163
    by_cases d : x4 = 0
    · rw [if_pos d, if_pos d]
      rfl
    · rw [if_neg d, if_neg d]
      rfl
theorem y_dtp_a {R2 : Int32} {x4 : Int32} {x5 : Int32} {t0_0 : Int64} {t0_1 : Int32} {t1_0 : Int32} {t1_1 : Int32} {t2_0 : (Nat → Int32)} {t3_0 : Int32} {t3_1 : Int32} {t4_0 : (Nat → Int32)} {t5_0 : Int32} {t5_1 : Int32} {t6_0 : (Nat → Int32)} {t7_0 : Int32} {t7_1 : Int32} {t8_0 : (Nat → Int32)} {t9_0 : Int32} {t9_1 : Int32} {t10_0 : Int32} {t10_1 : Int32} {t11_0 : (Nat → Int32)} {qa : Int × Int} (ha : dP R2 t10_0 t10_1 t11_0 t9_0 t9_1 qa) (hv : qa.1 ≠ 0) (h4 : 0 ≤ x4.toInt ∧ x4.toInt ≤ 1000) : (F_DW_divideToPrecision_a R2 x4 x5 t0_0 t0_1 t1_0 t1_1 t2_0 t3_0 t3_1 t4_0 t5_0 t5_1 t6_0 t7_0 t7_1 t8_0 t9_0 t9_1 t10_0 t10_1 t11_0) = F_DW_divideToPrecision R2 R2 x4 x5 t0_0 t0_1 t1_0 t1_1 t2_0 t3_0 t3_1 t4_0 t5_0 t5_1 t6_0 t7_0 t7_1 t8_0 t9_0 t9_1 t10_0 t10_1 t11_0 t9_0 t9_1 t10_0 t10_1 t11_0 := by
  have m := (T_divideToPrecision (x4 := x4) (x5 := x5) (t0_0 := t0_0) (t0_1 := t0_1) (t1_0 := t1_0) (t1_1 := t1_1) (t2_0 := t2_0) (t3_0 := t3_0) (t3_1 := t3_1) (t4_0 := t4_0) (t5_0 := t5_0) (t5_1 := t5_1) (t6_0 := t6_0) (t7_0 := t7_0) (t7_1 := t7_1) (t8_0 := t8_0) ha.O ha.O hv h4.1 h4.2 trivial trivial trivial).2.2.2.2.2.2
  unfold F_DW_divideToPrecision at m ⊢
  unfold F_DW_divideToPrecision_a
  by_cases c1 : t10_0 = 0
  · rw [if_pos c1, if_pos c1]
    rfl
  · rw [if_neg c1] at m
    rw [if_neg c1, if_neg c1]
    by_cases c2 : x4 = 0
    · rw [if_pos c2] at m
      rw [if_pos c2, if_pos c2]
      unfold F_DW_divideToPrecision_J52 F_DW_divideToPrecision_c75 at m
      have e := bO_sg ha.1 (y_dtpC (Q := fun a b f => bO R2 a b f qa.1) m)
      unfold F_DW_divideToPrecision_a_J52 F_DW_divideToPrecision_a_c75 F_DW_divideToPrecision_J52 F_DW_divideToPrecision_c75
      exact y_dtpE e
    · rw [if_neg c2] at m
      rw [if_neg c2, if_neg c2]
      unfold F_DW_divideToPrecision_J52 F_DW_divideToPrecision_c75 at m
      have e := bO_sg ha.1 (y_dtpC (Q := fun a b f => bO R2 a b f qa.1) m)
      unfold F_DW_divideToPrecision_a_J52 F_DW_divideToPrecision_a_c75 F_DW_divideToPrecision_J52 F_DW_divideToPrecision_c75
      exact y_dtpE e
theorem V_NH_quotientK_ab {x2 : Int32} {x3 : Int32} {x4 : Int32} {x5 : Int32} {x6 : Int32} {t0_0 : Int64} {t0_1 : Int32} {t1_0 : Int32} {t1_1 : Int32} {t2_0 : (Nat → Int32)} {t3_0 : Int32} {t3_1 : Int32} {t4_0 : (Nat → Int32)} {t5_0 : Int32} {t5_1 : Int32} {t6_0 : (Nat → Int32)} {t7_0 : Int32} {t7_1 : Int32} {t8_0 : (Nat → Int32)} {t9_0 : Int32} {t9_1 : Int32} {t10_0 : Int32} {t10_1 : Int32} {t11_0 : (Nat → Int32)} {t12_0 : Int32} {t12_1 : Int32} {t13_0 : Int32} {t13_1 : Int32} {t14_0 : (Nat → Int32)} {lx70 : Int32} {lx103 : Int32} {qa qt : Int × Int} (ha : dP 108 t10_0 t10_1 t11_0 t9_0 t9_1 qa) (ht : dP 108 t13_0 t13_1 t14_0 t12_0 t12_1 qt) (h5 : 0 ≤ x5.toInt ∧ x5.toInt ≤ 1000) (h6 : 0 ≤ x6.toInt ∧ x6.toInt ≤ 7) (hl : lx103 = 1) : ∃ o, sQ (qP x5) (qM x5 x6) qa qa o ∧ cDn o qt (F_NH_quotient_ab_J55 x2 x3 x4 x5 x6 t0_0 t0_1 t1_0 t1_1 t2_0 t3_0 t3_1 t4_0 t5_0 t5_1 t6_0 t7_0 t7_1 t8_0 t9_0 t9_1 t10_0 t10_1 t11_0 t12_0 t12_1 t13_0 t13_1 t14_0 lx70 lx103).1 (F_NH_quotient_ab_J55 x2 x3 x4 x5 x6 t0_0 t0_1 t1_0 t1_1 t2_0 t3_0 t3_1 t4_0 t5_0 t5_1 t6_0 t7_0 t7_1 t8_0 t9_0 t9_1 t10_0 t10_1 t11_0 t12_0 t12_1 t13_0 t13_1 t14_0 lx70 lx103).2.2.2.2.2.2.2.2.2.2.2.2.2.2.2.2.2.2.2.2.1 (F_NH_quotient_ab_J55 x2 x3 x4 x5 x6 t0_0 t0_1 t1_0 t1_1 t2_0 t3_0 t3_1 t4_0 t5_0 t5_1 t6_0 t7_0 t7_1 t8_0 t9_0 t9_1 t10_0 t10_1 t11_0 t12_0 t12_1 t13_0 t13_1 t14_0 lx70 lx103).2.2.2.2.2.2.2.2.2.2.2.2.2.2.2.2.2.2.2.2.2.1 (F_NH_quotient_ab_J55 x2 x3 x4 x5 x6 t0_0 t0_1 t1_0 t1_1 t2_0 t3_0 t3_1 t4_0 t5_0 t5_1 t6_0 t7_0 t7_1 t8_0 t9_0 t9_1 t10_0 t10_1 t11_0 t12_0 t12_1 t13_0 t13_1 t14_0 lx70 lx103).2.2.2.2.2.2.2.2.2.2.2.2.2.2.2.2.2.2.2.2.2.2 (F_NH_quotient_ab_J55 x2 x3 x4 x5 x6 t0_0 t0_1 t1_0 t1_1 t2_0 t3_0 t3_1 t4_0 t5_0 t5_1 t6_0 t7_0 t7_1 t8_0 t9_0 t9_1 t10_0 t10_1 t11_0 t12_0 t12_1 t13_0 t13_1 t14_0 lx70 lx103).2.2.2.2.2.2.2.2.2.2.2.2.2.2.2.2.2.2.1 (F_NH_quotient_ab_J55 x2 x3 x4 x5 x6 t0_0 t0_1 t1_0 t1_1 t2_0 t3_0 t3_1 t4_0 t5_0 t5_1 t6_0 t7_0 t7_1 t8_0 t9_0 t9_1 t10_0 t10_1 t11_0 t12_0 t12_1 t13_0 t13_1 t14_0 lx70 lx103).2.2.2.2.2.2.2.2.2.2.2.2.2.2.2.2.2.2.2.1 ∧ bO 108 (F_NH_quotient_ab_J55 x2 x3 x4 x5 x6 t0_0 t0_1 t1_0 t1_1 t2_0 t3_0 t3_1 t4_0 t5_0 t5_1 t6_0 t7_0 t7_1 t8_0 t9_0 t9_1 t10_0 t10_1 t11_0 t12_0 t12_1 t13_0 t13_1 t14_0 lx70 lx103).2.2.2.2.2.2.2.2.2.2.2.2.2.2.2.1 (F_NH_quotient_ab_J55 x2 x3 x4 x5 x6 t0_0 t0_1 t1_0 t1_1 t2_0 t3_0 t3_1 t4_0 t5_0 t5_1 t6_0 t7_0 t7_1 t8_0 t9_0 t9_1 t10_0 t10_1 t11_0 t12_0 t12_1 t13_0 t13_1 t14_0 lx70 lx103).2.2.2.2.2.2.2.2.2.2.2.2.2.2.2.2.1 (F_NH_quotient_ab_J55 x2 x3 x4 x5 x6 t0_0 t0_1 t1_0 t1_1 t2_0 t3_0 t3_1 t4_0 t5_0 t5_1 t6_0 t7_0 t7_1 t8_0 t9_0 t9_1 t10_0 t10_1 t11_0 t12_0 t12_1 t13_0 t13_1 t14_0 lx70 lx103).2.2.2.2.2.2.2.2.2.2.2.2.2.2.2.2.2.1 qa.1 := by
  have n1 : F_NH_need lx103 = 0 := by rw [hl]; decide
  unfold F_NH_quotient_ab_J55
  rw [if_pos n1]
  by_cases c4 : t10_0 ≤ 0
  · rw [if_pos c4]
    unfold F_NH_quotient_ab_J78
    rw [if_neg (show ¬ F_NH_canHave 0 = 0 by decide)]
    exact ⟨none, Or.inl ⟨(y_sizeP ha.1).mp c4, rfl⟩, Or.inr ⟨Or.inl rfl, y_ch2, ht⟩, ha.1⟩
  · rw [if_neg c4]
    unfold F_NH_quotient_ab_J78
    rw [if_pos y_ch1]
    have hv : qa.1 ≠ 0 := fun h => c4 ((y_sizeP ha.1).mpr h)
    obtain ⟨o, ho, dv⟩ := V_DW_divideToPrecision (x4 := x5) (x5 := x6) (t0_0 := t0_0) (t0_1 := t0_1) (t1_0 := t1_0) (t1_1 := t1_1) (t2_0 := t2_0) (t3_0 := t3_0) (t3_1 := t3_1) (t4_0 := t4_0) (t5_0 := t5_0) (t5_1 := t5_1) (t6_0 := t6_0) (t7_0 := t7_0) (t7_1 := t7_1) (t8_0 := t8_0) ha ha hv h5 h6 trivial
    have m4 := (T_divideToPrecision (x4 := x5) (x5 := x6) (t0_0 := t0_0) (t0_1 := t0_1) (t1_0 := t1_0) (t1_1 := t1_1) (t2_0 := t2_0) (t3_0 := t3_0) (t3_1 := t3_1) (t4_0 := t4_0) (t5_0 := t5_0) (t5_1 := t5_1) (t6_0 := t6_0) (t7_0 := t7_0) (t7_1 := t7_1) (t8_0 := t8_0) ha.O ha.O hv h5.1 h5.2 trivial trivial trivial).2.2
    rw [y_dtp_a ha hv h5]
    generalize F_DW_divideToPrecision 108 108 x5 x6 t0_0 t0_1 t1_0 t1_1 t2_0 t3_0 t3_1 t4_0 t5_0 t5_1 t6_0 t7_0 t7_1 t8_0 t9_0 t9_1 t10_0 t10_1 t11_0 t9_0 t9_1 t10_0 t10_1 t11_0 = p248 at dv m4 ⊢
    have m5 : dP 108 p248.2.2.2.2.2.2.2.2.2.2.2.2.2.2.2.1 p248.2.2.2.2.2.2.2.2.2.2.2.2.2.2.2.2.1 p248.2.2.2.2.2.2.2.2.2.2.2.2.2.2.2.2.2 t9_0 t9_1 qa := ⟨m4.2.2.2.2, ha.2⟩
    unfold F_NH_quotient_ab_c101
    rcases dv with ⟨s1, s2⟩ | ⟨s1, q, s2, s3, s4, s5⟩
    · rw [s1, if_neg (show ¬ F_NH_canHave 0 = 0 by decide)]
      exact ⟨o, ho, Or.inr ⟨Or.inl s2, y_ch2, ht⟩, m5.1⟩
    · rw [s1, if_pos y_ch1]
      have kd := V_keepDecimal (x2 := x4) (t0_0 := p248.2.1) (t0_1 := p248.2.2.1) (t3_0 := p248.2.2.2.2.2.2.2.2.2.2.2.2.1) (t3_1 := p248.2.2.2.2.2.2.2.2.2.2.2.2.2.1) (t4_0 := p248.2.2.2.2.2.2.2.2.2.2.2.2.2.2.1) s4 s5 (by decide) trivial ht
      rw [s3] at kd
      generalize F_NH_keepDecimal x4 p248.2.1 p248.2.2.1 p248.2.2.2.1 p248.2.2.2.2.1 p248.2.2.2.2.2.1 p248.2.2.2.2.2.2.2.2.2.2.2.2.1 p248.2.2.2.2.2.2.2.2.2.2.2.2.2.1 p248.2.2.2.2.2.2.2.2.2.2.2.2.2.2.1 t12_0 t12_1 t13_0 t13_1 t14_0 = p303 at kd ⊢
      refine ⟨o, ho, ?_⟩
      rw [s2]
      unfold F_NH_quotient_ab_c109
      by_cases z : p303.1 = 0
      · rw [if_pos z]
        rw [z] at kd
        exact ⟨kd, m5.1⟩
      · rw [if_neg z]
        exact ⟨kd, m5.1⟩
theorem V_NH_quotientK_abt {x2 : Int32} {x3 : Int32} {x4 : Int32} {x5 : Int32} {x6 : Int32} {t0_0 : Int64} {t0_1 : Int32} {t1_0 : Int32} {t1_1 : Int32} {t2_0 : (Nat → Int32)} {t3_0 : Int32} {t3_1 : Int32} {t4_0 : (Nat → Int32)} {t5_0 : Int32} {t5_1 : Int32} {t6_0 : (Nat → Int32)} {t7_0 : Int32} {t7_1 : Int32} {t8_0 : (Nat → Int32)} {t9_0 : Int32} {t9_1 : Int32} {t10_0 : Int32} {t10_1 : Int32} {t11_0 : (Nat → Int32)} {lx57 : Int32} {lx87 : Int32} {qa : Int × Int} (ha : dP 108 t10_0 t10_1 t11_0 t9_0 t9_1 qa) (h5 : 0 ≤ x5.toInt ∧ x5.toInt ≤ 1000) (h6 : 0 ≤ x6.toInt ∧ x6.toInt ≤ 7) (hl : lx87 = 1) : ∃ o, sQ (qP x5) (qM x5 x6) qa qa o ∧ cDn o qa (F_NH_quotient_abt_J55 x2 x3 x4 x5 x6 t0_0 t0_1 t1_0 t1_1 t2_0 t3_0 t3_1 t4_0 t5_0 t5_1 t6_0 t7_0 t7_1 t8_0 t9_0 t9_1 t10_0 t10_1 t11_0 lx57 lx87).1 (F_NH_quotient_abt_J55 x2 x3 x4 x5 x6 t0_0 t0_1 t1_0 t1_1 t2_0 t3_0 t3_1 t4_0 t5_0 t5_1 t6_0 t7_0 t7_1 t8_0 t9_0 t9_1 t10_0 t10_1 t11_0 lx57 lx87).2.2.2.2.2.2.2.2.2.2.2.2.2.2.2.2.2.1 (F_NH_quotient_abt_J55 x2 x3 x4 x5 x6 t0_0 t0_1 t1_0 t1_1 t2_0 t3_0 t3_1 t4_0 t5_0 t5_1 t6_0 t7_0 t7_1 t8_0 t9_0 t9_1 t10_0 t10_1 t11_0 lx57 lx87).2.2.2.2.2.2.2.2.2.2.2.2.2.2.2.2.2.2.1 (F_NH_quotient_abt_J55 x2 x3 x4 x5 x6 t0_0 t0_1 t1_0 t1_1 t2_0 t3_0 t3_1 t4_0 t5_0 t5_1 t6_0 t7_0 t7_1 t8_0 t9_0 t9_1 t10_0 t10_1 t11_0 lx57 lx87).2.2.2.2.2.2.2.2.2.2.2.2.2.2.2.2.2.2.2 (F_NH_quotient_abt_J55 x2 x3 x4 x5 x6 t0_0 t0_1 t1_0 t1_1 t2_0 t3_0 t3_1 t4_0 t5_0 t5_1 t6_0 t7_0 t7_1 t8_0 t9_0 t9_1 t10_0 t10_1 t11_0 lx57 lx87).2.2.2.2.2.2.2.2.2.2.2.2.2.2.2.1 (F_NH_quotient_abt_J55 x2 x3 x4 x5 x6 t0_0 t0_1 t1_0 t1_1 t2_0 t3_0 t3_1 t4_0 t5_0 t5_1 t6_0 t7_0 t7_1 t8_0 t9_0 t9_1 t10_0 t10_1 t11_0 lx57 lx87).2.2.2.2.2.2.2.2.2.2.2.2.2.2.2.2.1 := by
  have n1 : F_NH_need lx87 = 0 := by rw [hl]; decide
  unfold F_NH_quotient_abt_J55
  rw [if_pos n1]
  by_cases c4 : t10_0 ≤ 0
  · rw [if_pos c4]
    unfold F_NH_quotient_abt_J78
    rw [if_neg (show ¬ F_NH_canHave 0 = 0 by decide)]
    exact ⟨none, Or.inl ⟨(y_sizeP ha.1).mp c4, rfl⟩, Or.inr ⟨Or.inl rfl, y_ch2, ha⟩⟩
  · rw [if_neg c4]
    unfold F_NH_quotient_abt_J78
    rw [if_pos y_ch1]
    have hv : qa.1 ≠ 0 := fun h => c4 ((y_sizeP ha.1).mpr h)
    obtain ⟨o, ho, dv⟩ := V_DW_divideToPrecision (x4 := x5) (x5 := x6) (t0_0 := t0_0) (t0_1 := t0_1) (t1_0 := t1_0) (t1_1 := t1_1) (t2_0 := t2_0) (t3_0 := t3_0) (t3_1 := t3_1) (t4_0 := t4_0) (t5_0 := t5_0) (t5_1 := t5_1) (t6_0 := t6_0) (t7_0 := t7_0) (t7_1 := t7_1) (t8_0 := t8_0) ha ha hv h5 h6 trivial
    have m4 := (T_divideToPrecision (x4 := x5) (x5 := x6) (t0_0 := t0_0) (t0_1 := t0_1) (t1_0 := t1_0) (t1_1 := t1_1) (t2_0 := t2_0) (t3_0 := t3_0) (t3_1 := t3_1) (t4_0 := t4_0) (t5_0 := t5_0) (t5_1 := t5_1) (t6_0 := t6_0) (t7_0 := t7_0) (t7_1 := t7_1) (t8_0 := t8_0) ha.O ha.O hv h5.1 h5.2 trivial trivial trivial).2.2
    rw [y_dtp_a ha hv h5]
    generalize F_DW_divideToPrecision 108 108 x5 x6 t0_0 t0_1 t1_0 t1_1 t2_0 t3_0 t3_1 t4_0 t5_0 t5_1 t6_0 t7_0 t7_1 t8_0 t9_0 t9_1 t10_0 t10_1 t11_0 t9_0 t9_1 t10_0 t10_1 t11_0 = p226 at dv m4 ⊢
    have m5 : dP 108 p226.2.2.2.2.2.2.2.2.2.2.2.2.2.2.2.1 p226.2.2.2.2.2.2.2.2.2.2.2.2.2.2.2.2.1 p226.2.2.2.2.2.2.2.2.2.2.2.2.2.2.2.2.2 t9_0 t9_1 qa := ⟨m4.2.2.2.2, ha.2⟩
    unfold F_NH_quotient_abt_c101
    rcases dv with ⟨s1, s2⟩ | ⟨s1, q, s2, s3, s4, s5⟩
    · rw [s1, if_neg (show ¬ F_NH_canHave 0 = 0 by decide)]
      exact ⟨o, ho, Or.inr ⟨Or.inl s2, y_ch2, m5⟩⟩
    · rw [s1, if_pos y_ch1]
      have kd := V_keepDecimal (x2 := x4) (t0_0 := p226.2.1) (t0_1 := p226.2.2.1) (t3_0 := p226.2.2.2.2.2.2.2.2.2.2.2.2.1) (t3_1 := p226.2.2.2.2.2.2.2.2.2.2.2.2.2.1) (t4_0 := p226.2.2.2.2.2.2.2.2.2.2.2.2.2.2.1) s4 s5 (by decide) trivial m5
      rw [s3] at kd
      generalize F_NH_keepDecimal x4 p226.2.1 p226.2.2.1 p226.2.2.2.1 p226.2.2.2.2.1 p226.2.2.2.2.2.1 p226.2.2.2.2.2.2.2.2.2.2.2.2.1 p226.2.2.2.2.2.2.2.2.2.2.2.2.2.1 p226.2.2.2.2.2.2.2.2.2.2.2.2.2.2.1 t9_0 t9_1 p226.2.2.2.2.2.2.2.2.2.2.2.2.2.2.2.1 p226.2.2.2.2.2.2.2.2.2.2.2.2.2.2.2.2.1 p226.2.2.2.2.2.2.2.2.2.2.2.2.2.2.2.2.2 = p281 at kd ⊢
      refine ⟨o, ho, ?_⟩
      rw [s2]
      unfold F_NH_quotient_abt_c109
      by_cases z : p281.1 = 0
      · rw [if_pos z]
        rw [z] at kd
        exact kd
      · rw [if_neg z]
        exact kd
