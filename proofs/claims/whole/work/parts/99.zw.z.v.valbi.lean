/-! values, for whole: shape: the constant one as divisor -/
theorem y_dr_o {R : Int32} {R2 : Int32} {x4 : Int32} {t0_0 : Int64} {t0_1 : Int32} {t1_0 : Int32} {t1_1 : Int32} {t2_0 : (Nat → Int32)} {t3_0 : Int32} {t3_1 : Int32} {t4_0 : (Nat → Int32)} {t5_0 : Int32} {t5_1 : Int32} {t6_0 : (Nat → Int32)} {t7_0 : Int32} {t7_1 : Int32} {t8_0 : Int32} {t8_1 : Int32} {t9_0 : (Nat → Int32)} {t10_0 : Int32} {t10_1 : Int32} {t11_0 : Int32} {t11_1 : Int32} {t12_0 : (Nat → Int32)}  : (F_DW_divideRaised_o R R2 x4 t0_0 t0_1 t1_0 t1_1 t2_0 t3_0 t3_1 t4_0 t5_0 t5_1 t6_0 t7_0 t7_1 t8_0 t8_1 t9_0 t10_0 t10_1 t11_0 t11_1 t12_0) = F_DW_divideRaised R R2 x4 t0_0 t0_1 t1_0 t1_1 t2_0 t3_0 t3_1 t4_0 t5_0 t5_1 t6_0 t7_0 t7_1 t8_0 t8_1 t9_0 t10_0 t10_1 t11_0 t11_1 t12_0 := by
  unfold F_DW_divideRaised_o F_DW_divideRaised F_DW_divideRaised_o_c11 F_DW_divideRaised_c11 F_DW_divideRaised_o_c22 F_DW_divideRaised_c22 F_DW_divideRaised_o_c35 F_DW_divideRaised_c35
  generalize F_Big_copy 220 R t5_0 t5_1 t6_0 t8_0 t8_1 t9_0 = p70
  generalize F_Big_timesTen 220 x4 p70.1 p70.2.1 p70.2.2 = p93
  generalize F_Big_dropFigures 220 (-x4) p93.1 p93.2.1 p93.2.2 = p122
  generalize F_Big_divideBy 220 R2 220 p122.2.1 p122.2.2.1 p122.2.2.2 t11_0 t11_1 t12_0 t3_0 t3_1 t4_0 = p170
  unfold F_DW_divideRaised_o_c59 F_DW_divideRaised_c59
  by_cases c : p170.1 ≤ 0
  · rw [if_pos c, if_pos c]
    unfold F_DW_divideRaised_o_c103 F_DW_divideRaised_c103
    with_reducible rfl
  · rw [if_neg c, if_neg c]
    unfold F_DW_divideRaised_o_c103_6 F_DW_divideRaised_c103_6
    with_reducible rfl
theorem y_dts_o {R : Int32} {R2 : Int32} {x4 : Int32} {x5 : Int32} {t0_0 : Int64} {t0_1 : Int32} {t1_0 : Int32} {t1_1 : Int32} {t2_0 : (Nat → Int32)} {t3_0 : Int32} {t3_1 : Int32} {t4_0 : (Nat → Int32)} {t5_0 : Int32} {t5_1 : Int32} {t6_0 : (Nat → Int32)} {t7_0 : Int32} {t7_1 : Int32} {t8_0 : Int32} {t8_1 : Int32} {t9_0 : (Nat → Int32)} {t10_0 : Int32} {t10_1 : Int32} {t11_0 : Int32} {t11_1 : Int32} {t12_0 : (Nat → Int32)}  : (F_DW_divideToScale_o R R2 x4 x5 t0_0 t0_1 t1_0 t1_1 t2_0 t3_0 t3_1 t4_0 t5_0 t5_1 t6_0 t7_0 t7_1 t8_0 t8_1 t9_0 t10_0 t10_1 t11_0 t11_1 t12_0) = F_DW_divideToScale R R2 x4 x5 t0_0 t0_1 t1_0 t1_1 t2_0 t3_0 t3_1 t4_0 t5_0 t5_1 t6_0 t7_0 t7_1 t8_0 t8_1 t9_0 t10_0 t10_1 t11_0 t11_1 t12_0 := by
  unfold F_DW_divideToScale_o F_DW_divideToScale
  by_cases c1 : t8_0 = 0
  · rw [if_pos c1, if_pos c1]
    unfold F_DW_divideToScale_o_c36 F_DW_divideToScale_c36
    with_reducible rfl
  · rw [if_neg c1, if_neg c1]
    by_cases c2 : t7_1 + (x4 + t10_0 - t7_0) - t10_1 ≤ 1000
    · rw [if_pos c2, if_pos c2, y_dr_o]
      generalize F_DW_divideRaised R R2 (x4 + t10_0 - t7_0 + 1) x4.toInt64 t0_1 t1_0 t1_1 t2_0 t3_0 t3_1 t4_0 t5_0 t5_1 t6_0 t7_0 t7_1 t8_0 t8_1 t9_0 t10_0 t10_1 t11_0 t11_1 t12_0 = p123
      unfold F_DW_divideToScale_o_c68 F_DW_divideToScale_c68
      by_cases c3 : t8_1 = p123.2.2.2.2.2.2.2.2.2.2.2.2.1
      · rw [if_pos c3, if_pos c3]
        unfold F_DW_divideToScale_o_c96 F_DW_divideToScale_c96
        with_reducible rfl
      · rw [if_neg c3, if_neg c3]
        unfold F_DW_divideToScale_o_c96_3 F_DW_divideToScale_c96_3
        with_reducible rfl
    · rw [if_neg c2, if_neg c2]
theorem y_dpJ_o {R : Int32} {R2 : Int32} {x4 : Int32} {x5 : Int32} {t0_0 : Int64} {t0_1 : Int32} {t1_0 : Int32} {t1_1 : Int32} {t2_0 : (Nat → Int32)} {t3_0 : Int32} {t3_1 : Int32} {t4_0 : (Nat → Int32)} {t5_0 : Int32} {t5_1 : Int32} {t6_0 : (Nat → Int32)} {t7_0 : Int32} {t7_1 : Int32} {t8_0 : (Nat → Int32)} {t9_0 : Int32} {t9_1 : Int32} {t10_0 : Int32} {t10_1 : Int32} {t11_0 : (Nat → Int32)} {t12_0 : Int32} {t12_1 : Int32} {t13_0 : Int32} {t13_1 : Int32} {t14_0 : (Nat → Int32)} {j69 : Int64} {lx74 : Int32} {a102 : Int32} {p153 : (Int64 × Int32 × Int32 × Int32 × (Nat → Int32) × Int32 × Int32 × (Nat → Int32) × Int32 × Int32 × (Nat → Int32) × Int32 × Int32 × (Nat → Int32))} {j180 : Int64} {y109 : Int32} {y111 : Int32} {y112 : Int32} {f113 : (Nat → Int32)} {y116 : Int32} {y117 : Int32} {f118 : (Nat → Int32)} {y121 : Int32} {y122 : Int32} {f123 : (Nat → Int32)} {y126 : Int32} {y127 : Int32} {f128 : (Nat → Int32)} {p200 : (Int32 × Int32 × Int32 × (Nat → Int32))} {y190 : Int32} {y191 : Int32} {f192 : (Nat → Int32)} {lx213 : Int64} {lx214 : Int32} {lx215 : Int32} {lx216 : Int32} {lx217 : (Nat → Int32)}  : (F_DW_divideToPrecision_o_J141 R R2 x4 x5 t0_0 t0_1 t1_0 t1_1 t2_0 t3_0 t3_1 t4_0 t5_0 t5_1 t6_0 t7_0 t7_1 t8_0 t9_0 t9_1 t10_0 t10_1 t11_0 t12_0 t12_1 t13_0 t13_1 t14_0 j69 lx74 a102 p153 j180 y109 y111 y112 f113 y116 y117 f118 y121 y122 f123 y126 y127 f128 p200 y190 y191 f192 lx213 lx214 lx215 lx216 lx217) = F_DW_divideToPrecision_J141 R R2 x4 x5 t0_0 t0_1 t1_0 t1_1 t2_0 t3_0 t3_1 t4_0 t5_0 t5_1 t6_0 t7_0 t7_1 t8_0 t9_0 t9_1 t10_0 t10_1 t11_0 t12_0 t12_1 t13_0 t13_1 t14_0 j69 lx74 a102 p153 j180 y109 y111 y112 f113 y116 y117 f118 y121 y122 f123 y126 y127 f128 p200 y190 y191 f192 lx213 lx214 lx215 lx216 lx217 := by
  unfold F_DW_divideToPrecision_o_J141 F_DW_divideToPrecision_J141
  by_cases c : t10_1 = y127
  · rw [if_pos c, if_pos c]
    unfold F_DW_divideToPrecision_o_J163 F_DW_divideToPrecision_J163
    by_cases d : x4 = 0
    · rw [if_pos d, if_pos d]
      unfold F_DW_divideToPrecision_o_c183_7 F_DW_divideToPrecision_c183_7
      with_reducible rfl
    · rw [if_neg d, if_neg d]
      unfold F_DW_divideToPrecision_o_c183 F_DW_divideToPrecision_c183
      with_reducible rfl
  · rw [if_neg c, if_neg c]
    unfold F_DW_divideToPrecision_o_J163 F_DW_divideToPrecision_J163
    by_cases d : x4 = 0
    · rw [if_pos d, if_pos d]
      unfold F_DW_divideToPrecision_o_c183_7 F_DW_divideToPrecision_c183_7
      with_reducible rfl
    · rw [if_neg d, if_neg d]
      unfold F_DW_divideToPrecision_o_c183 F_DW_divideToPrecision_c183
      with_reducible rfl
theorem y_dpC_o {R : Int32} {R2 : Int32} {x4 : Int32} {x5 : Int32} {t0_0 : Int64} {t0_1 : Int32} {t1_0 : Int32} {t1_1 : Int32} {t2_0 : (Nat → Int32)} {t3_0 : Int32} {t3_1 : Int32} {t4_0 : (Nat → Int32)} {t5_0 : Int32} {t5_1 : Int32} {t6_0 : (Nat → Int32)} {t7_0 : Int32} {t7_1 : Int32} {t8_0 : (Nat → Int32)} {t9_0 : Int32} {t9_1 : Int32} {t10_0 : Int32} {t10_1 : Int32} {t11_0 : (Nat → Int32)} {t12_0 : Int32} {t12_1 : Int32} {t13_0 : Int32} {t13_1 : Int32} {t14_0 : (Nat → Int32)} {j69 : Int64} {lx74 : Int32} {a102 : Int32} {p153 : (Int64 × Int32 × Int32 × Int32 × (Nat → Int32) × Int32 × Int32 × (Nat → Int32) × Int32 × Int32 × (Nat → Int32) × Int32 × Int32 × (Nat → Int32))} {j180 : Int64} {y109 : Int32} {y111 : Int32} {y112 : Int32} {f113 : (Nat → Int32)} {y116 : Int32} {y117 : Int32} {f118 : (Nat → Int32)} {y121 : Int32} {y122 : Int32} {f123 : (Nat → Int32)} {y126 : Int32} {y127 : Int32} {f128 : (Nat → Int32)} {p200 : (Int32 × Int32 × Int32 × (Nat → Int32))}  : (F_DW_divideToPrecision_o_c101 R R2 x4 x5 t0_0 t0_1 t1_0 t1_1 t2_0 t3_0 t3_1 t4_0 t5_0 t5_1 t6_0 t7_0 t7_1 t8_0 t9_0 t9_1 t10_0 t10_1 t11_0 t12_0 t12_1 t13_0 t13_1 t14_0 j69 lx74 a102 p153 j180 y109 y111 y112 f113 y116 y117 f118 y121 y122 f123 y126 y127 f128 p200) = F_DW_divideToPrecision_c101 R R2 x4 x5 t0_0 t0_1 t1_0 t1_1 t2_0 t3_0 t3_1 t4_0 t5_0 t5_1 t6_0 t7_0 t7_1 t8_0 t9_0 t9_1 t10_0 t10_1 t11_0 t12_0 t12_1 t13_0 t13_1 t14_0 j69 lx74 a102 p153 j180 y109 y111 y112 f113 y116 y117 f118 y121 y122 f123 y126 y127 f128 p200 := by
  unfold F_DW_divideToPrecision_o_c101 F_DW_divideToPrecision_c101
  by_cases c : p200.1 ≤ lx74 + 1
  · rw [if_pos c, if_pos c]
    exact y_dpJ_o
  · rw [if_neg c, if_neg c]
    unfold F_DW_divideToPrecision_o_c124 F_DW_divideToPrecision_c124
    exact y_dpJ_o
theorem y_dtp_o {R : Int32} {R2 : Int32} {x4 : Int32} {x5 : Int32} {t0_0 : Int64} {t0_1 : Int32} {t1_0 : Int32} {t1_1 : Int32} {t2_0 : (Nat → Int32)} {t3_0 : Int32} {t3_1 : Int32} {t4_0 : (Nat → Int32)} {t5_0 : Int32} {t5_1 : Int32} {t6_0 : (Nat → Int32)} {t7_0 : Int32} {t7_1 : Int32} {t8_0 : (Nat → Int32)} {t9_0 : Int32} {t9_1 : Int32} {t10_0 : Int32} {t10_1 : Int32} {t11_0 : (Nat → Int32)} {t12_0 : Int32} {t12_1 : Int32} {t13_0 : Int32} {t13_1 : Int32} {t14_0 : (Nat → Int32)}  : (F_DW_divideToPrecision_o R R2 x4 x5 t0_0 t0_1 t1_0 t1_1 t2_0 t3_0 t3_1 t4_0 t5_0 t5_1 t6_0 t7_0 t7_1 t8_0 t9_0 t9_1 t10_0 t10_1 t11_0 t12_0 t12_1 t13_0 t13_1 t14_0) = F_DW_divideToPrecision R R2 x4 x5 t0_0 t0_1 t1_0 t1_1 t2_0 t3_0 t3_1 t4_0 t5_0 t5_1 t6_0 t7_0 t7_1 t8_0 t9_0 t9_1 t10_0 t10_1 t11_0 t12_0 t12_1 t13_0 t13_1 t14_0 := by
  unfold F_DW_divideToPrecision_o F_DW_divideToPrecision
  by_cases c1 : t10_0 = 0
  · rw [if_pos c1, if_pos c1]
    unfold F_DW_divideToPrecision_o_c30 F_DW_divideToPrecision_c30
    with_reducible rfl
  · rw [if_neg c1, if_neg c1]
    by_cases c2 : x4 = 0
    · rw [if_pos c2, if_pos c2]
      unfold F_DW_divideToPrecision_o_J52 F_DW_divideToPrecision_J52 F_DW_divideToPrecision_o_c75 F_DW_divideToPrecision_c75
      rw [y_dr_o]
      exact y_dpC_o
    · rw [if_neg c2, if_neg c2]
      unfold F_DW_divideToPrecision_o_J52 F_DW_divideToPrecision_J52 F_DW_divideToPrecision_o_c75 F_DW_divideToPrecision_c75
      rw [y_dr_o]
      exact y_dpC_o
