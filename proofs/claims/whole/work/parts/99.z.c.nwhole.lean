/-! NumberHouseModel: whole .. shape, print, figures, argument, format -/
def Q_NM_whole (p : Int32 × Int32 × Int32 × Int32 × Int32 × Int32 × Int32 × Int32 × (Nat → Int32) × (Nat → Int32) × (Nat → Int32) × (Nat → Int32) × (Nat → Int32) × (Nat → Int32) × (Nat → Int32) × (Nat → Int32) × (Nat → Int32) × (Nat → Int32) × (Nat → Int32) × (Nat → Int32)) : Prop := wR p.2.2.2.2.2.2.2.2.1 p.2.2.2.2.2.2.2.2.2.1
theorem nm_wholeA {c0 : Int32} {c1 : Int32} {c2 : Int32} {c3 : Int32} {c4 : Int32} {c5 : Int32} {c6 : Int32} {c7 : Int32} {c8 : (Nat → Int32)} {c9 : (Nat → Int32)} {c10 : (Nat → Int32)} {c11 : (Nat → Int32)} {c12 : (Nat → Int32)} {c13 : (Nat → Int32)} {c14 : (Nat → Int32)} {c15 : (Nat → Int32)} {c16 : (Nat → Int32)} {c17 : (Nat → Int32)} {c18 : (Nat → Int32)} {c19 : (Nat → Int32)} (h0 : wR c8 c9) : Q_NM_whole (c0, c1, c2, c3, c4, c5, c6, c7, c8, c9, c10, c11, c12, c13, c14, c15, c16, c17, c18, c19) := h0
theorem T_NM_whole {x2 : Int32} {x3 : Int32} {x4 : Int32} {x5 : Int32} {t0_0 : Int32} {t0_1 : Int32} {t0_2 : Int32} {t1_0 : Int32} {t1_1 : Int32} {t1_2 : Int32} {t1_3 : Int32} {t1_4 : Int32} {t1_5 : Int32} {t1_6 : Int32} {t2_0 : (Nat → Int32)} {t3_0 : (Nat → Int32)} {t4_0 : (Nat → Int32)} {t5_0 : (Nat → Int32)} {t6_0 : (Nat → Int32)} {t7_0 : (Nat → Int32)} {t8_0 : (Nat → Int32)} {t9_0 : (Nat → Int32)} {t10_0 : (Nat → Int32)} {t11_0 : (Nat → Int32)} {t12_0 : (Nat → Int32)} {t13_0 : (Nat → Int32)} (hW : wR t2_0 t3_0)  : (S_NM_whole x2 x3 x4 x5 t0_0 t0_1 t0_2 t1_0 t1_1 t1_2 t1_3 t1_4 t1_5 t1_6 t2_0 t3_0 t4_0 t5_0 t6_0 t7_0 t8_0 t9_0 t10_0 t11_0 t12_0 t13_0) ∧ Q_NM_whole (F_NM_whole x2 x3 x4 x5 t0_0 t0_1 t0_2 t1_0 t1_1 t1_2 t1_3 t1_4 t1_5 t1_6 t2_0 t3_0 t4_0 t5_0 t6_0 t7_0 t8_0 t9_0 t10_0 t11_0 t12_0 t13_0) := by
  have e0 : (0 : Int32).toInt = 0 := rfl
  have e1 : (1 : Int32).toInt = 1 := rfl
  have eL0 : (0 : Int64).toInt = 0 := rfl
  have em : (-1 : Int32).toInt = -1 := rfl
  unfold S_NM_whole F_NM_whole
  by_cases g1 : x2 < (0 : Int32)
  ·
    rw [if_pos g1, if_pos g1]
    unfold S_NM_whole_J33 F_NM_whole_J33
    unfold S_NM_whole_J38 F_NM_whole_J38
    have g2 : ¬ ((1 : Int32) ≤ (0 : Int32)) := (by decide)
    rw [if_neg g2, if_neg g2]
    refine ⟨trivial, ?_⟩
    exact nm_wholeA (by with_reducible assumption)
  ·
    rw [if_neg g1, if_neg g1]
    by_cases g3 : (11 : Int32) < x2
    ·
      rw [if_pos g3, if_pos g3]
      unfold S_NM_whole_J33 F_NM_whole_J33
      unfold S_NM_whole_J38 F_NM_whole_J38
      have g4 : ¬ ((1 : Int32) ≤ (0 : Int32)) := (by decide)
      rw [if_neg g4, if_neg g4]
      refine ⟨trivial, ?_⟩
      exact nm_wholeA (by with_reducible assumption)
    ·
      rw [if_neg g3, if_neg g3]
      by_cases g5 : ((F_NM_no_IZ x3) : Int32) = (0 : Int32)
      ·
        rw [if_pos g5, if_pos g5]
        by_cases g6 : ((F_NM_no_IZ x4) : Int32) = (0 : Int32)
        ·
          rw [if_pos g6, if_pos g6]
          by_cases g7 : ((F_NM_no_IZ x5) : Int32) = (0 : Int32)
          ·
            rw [if_pos g7, if_pos g7]
            unfold S_NM_whole_J38 F_NM_whole_J38
            have g8 : ((0 : Int32) ≤ (0 : Int32)) := (by decide)
            rw [if_pos g8, if_pos g8]
            by_cases g9 : x2 = (0 : Int32)
            ·
              rw [if_pos g9, if_pos g9]
              have h10 := T_WR_add (x2 := x3) (x3 := x4) (x4 := x5) (x5 := (0 : Int32)) (t0_0 := t1_0) (t0_1 := t1_1) (t0_2 := t1_2) (t0_3 := t1_3) (t0_4 := t1_4) (t0_5 := t1_5) (t0_6 := t1_6) (t1_0 := t2_0) (t2_0 := t3_0) (t3_0 := t4_0) (t4_0 := t9_0) (t5_0 := t10_0) (by with_reducible assumption)
              with_reducible refine v_owe h10.1 ?_
              replace h10 := h10.2
              generalize F_WR_add x3 x4 x5 (0 : Int32) t1_0 t1_1 t1_2 t1_3 t1_4 t1_5 t1_6 t2_0 t3_0 t4_0 t9_0 t10_0 = p119 at *
              unfold Q_WR_add at h10
              unfold S_NM_whole_c114 F_NM_whole_c114
              refine ⟨trivial, ?_⟩
              exact nm_wholeA (by with_reducible assumption)
            ·
              rw [if_neg g9, if_neg g9]
              by_cases g11 : x2 = (1 : Int32)
              ·
                rw [if_pos g11, if_pos g11]
                have h12 := T_WR_add (x2 := x3) (x3 := x4) (x4 := x5) (x5 := (1 : Int32)) (t0_0 := t1_0) (t0_1 := t1_1) (t0_2 := t1_2) (t0_3 := t1_3) (t0_4 := t1_4) (t0_5 := t1_5) (t0_6 := t1_6) (t1_0 := t2_0) (t2_0 := t3_0) (t3_0 := t4_0) (t4_0 := t9_0) (t5_0 := t10_0) (by with_reducible assumption)
                with_reducible refine v_owe h12.1 ?_
                replace h12 := h12.2
                generalize F_WR_add x3 x4 x5 (1 : Int32) t1_0 t1_1 t1_2 t1_3 t1_4 t1_5 t1_6 t2_0 t3_0 t4_0 t9_0 t10_0 = p177 at *
                unfold Q_WR_add at h12
                unfold S_NM_whole_c114_3 F_NM_whole_c114_3
                refine ⟨trivial, ?_⟩
                exact nm_wholeA (by with_reducible assumption)
              ·
                rw [if_neg g11, if_neg g11]
                by_cases g13 : x2 = (2 : Int32)
                ·
                  rw [if_pos g13, if_pos g13]
                  have h14 := T_WR_multiply (x2 := x3) (x3 := x4) (x4 := x5) (t0_0 := t1_0) (t0_1 := t1_1) (t0_2 := t1_2) (t0_3 := t1_3) (t0_4 := t1_4) (t0_5 := t1_5) (t0_6 := t1_6) (t1_0 := t2_0) (t2_0 := t3_0) (t3_0 := t4_0) (t4_0 := t6_0) (t5_0 := t9_0) (t6_0 := t10_0) (by with_reducible assumption)
                  with_reducible refine v_owe h14.1 ?_
                  replace h14 := h14.2
                  generalize F_WR_multiply x3 x4 x5 t1_0 t1_1 t1_2 t1_3 t1_4 t1_5 t1_6 t2_0 t3_0 t4_0 t6_0 t9_0 t10_0 = p236 at *
                  unfold Q_WR_multiply at h14
                  unfold S_NM_whole_c128 F_NM_whole_c128
                  refine ⟨trivial, ?_⟩
                  exact nm_wholeA (by with_reducible assumption)
                ·
                  rw [if_neg g13, if_neg g13]
                  by_cases g15 : x2 = (3 : Int32)
                  ·
                    rw [if_pos g15, if_pos g15]
                    have h16 := T_WR_divide (x2 := x3) (x3 := x4) (x4 := x5) (x5 := (10 : Int32)) (t0_0 := t1_0) (t0_1 := t1_1) (t0_2 := t1_2) (t0_3 := t1_3) (t0_4 := t1_4) (t0_5 := t1_5) (t0_6 := t1_6) (t1_0 := t2_0) (t2_0 := t3_0) (t3_0 := t4_0) (t4_0 := t7_0) (t5_0 := t8_0) (t6_0 := t9_0) (t7_0 := t10_0) (by with_reducible assumption)
                    with_reducible refine v_owe h16.1 ?_
                    replace h16 := h16.2
                    generalize F_WR_divide x3 x4 x5 (10 : Int32) t1_0 t1_1 t1_2 t1_3 t1_4 t1_5 t1_6 t2_0 t3_0 t4_0 t7_0 t8_0 t9_0 t10_0 = p300 at *
                    unfold Q_WR_divide at h16
                    unfold S_NM_whole_c144 F_NM_whole_c144
                    refine ⟨trivial, ?_⟩
                    exact nm_wholeA (by with_reducible assumption)
                  ·
                    rw [if_neg g15, if_neg g15]
                    by_cases g17 : x2 = (4 : Int32)
                    ·
                      rw [if_pos g17, if_pos g17]
                      have h18 := T_WR_divide (x2 := x3) (x3 := x4) (x4 := (10 : Int32)) (x5 := x5) (t0_0 := t1_0) (t0_1 := t1_1) (t0_2 := t1_2) (t0_3 := t1_3) (t0_4 := t1_4) (t0_5 := t1_5) (t0_6 := t1_6) (t1_0 := t2_0) (t2_0 := t3_0) (t3_0 := t4_0) (t4_0 := t7_0) (t5_0 := t8_0) (t6_0 := t9_0) (t7_0 := t10_0) (by with_reducible assumption)
                      with_reducible refine v_owe h18.1 ?_
                      replace h18 := h18.2
                      generalize F_WR_divide x3 x4 (10 : Int32) x5 t1_0 t1_1 t1_2 t1_3 t1_4 t1_5 t1_6 t2_0 t3_0 t4_0 t7_0 t8_0 t9_0 t10_0 = p365 at *
                      unfold Q_WR_divide at h18
                      unfold S_NM_whole_c160 F_NM_whole_c160
                      refine ⟨trivial, ?_⟩
                      exact nm_wholeA (by with_reducible assumption)
                    ·
                      rw [if_neg g17, if_neg g17]
                      by_cases g19 : x2 = (5 : Int32)
                      ·
                        rw [if_pos g19, if_pos g19]
                        have h20 := T_WR_modulo (x2 := x3) (x3 := x4) (x4 := x5) (t0_0 := t1_0) (t0_1 := t1_1) (t0_2 := t1_2) (t0_3 := t1_3) (t0_4 := t1_4) (t0_5 := t1_5) (t0_6 := t1_6) (t1_0 := t2_0) (t2_0 := t3_0) (t3_0 := t4_0) (t4_0 := t7_0) (t5_0 := t8_0) (t6_0 := t9_0) (t7_0 := t13_0) (by with_reducible assumption)
                        with_reducible refine v_owe h20.1 ?_
                        replace h20 := h20.2
                        generalize F_WR_modulo x3 x4 x5 t1_0 t1_1 t1_2 t1_3 t1_4 t1_5 t1_6 t2_0 t3_0 t4_0 t7_0 t8_0 t9_0 t13_0 = p430 at *
                        unfold Q_WR_modulo at h20
                        unfold S_NM_whole_c174 F_NM_whole_c174
                        refine ⟨trivial, ?_⟩
                        exact nm_wholeA (by with_reducible assumption)
                      ·
                        rw [if_neg g19, if_neg g19]
                        by_cases g21 : x2 = (6 : Int32)
                        ·
                          rw [if_pos g21, if_pos g21]
                          have h22 := T_WR_common (x2 := x3) (x3 := x4) (x4 := x5) (t0_0 := t1_0) (t0_1 := t1_1) (t0_2 := t1_2) (t0_3 := t1_3) (t0_4 := t1_4) (t0_5 := t1_5) (t0_6 := t1_6) (t1_0 := t2_0) (t2_0 := t3_0) (t3_0 := t4_0) (t4_0 := t7_0) (t5_0 := t8_0) (t6_0 := t9_0) (t7_0 := t10_0) (by with_reducible assumption)
                          with_reducible refine v_owe h22.1 ?_
                          replace h22 := h22.2
                          generalize F_WR_common x3 x4 x5 t1_0 t1_1 t1_2 t1_3 t1_4 t1_5 t1_6 t2_0 t3_0 t4_0 t7_0 t8_0 t9_0 t10_0 = p495 at *
                          unfold Q_WR_common at h22
                          unfold S_NM_whole_c188 F_NM_whole_c188
                          refine ⟨trivial, ?_⟩
                          exact nm_wholeA (by with_reducible assumption)
                        ·
                          rw [if_neg g21, if_neg g21]
                          by_cases g23 : x2 = (7 : Int32)
                          ·
                            rw [if_pos g23, if_pos g23]
                            have h24 := T_WR_inverse (x2 := x3) (x3 := x4) (x4 := x5) (t0_0 := t1_0) (t0_1 := t1_1) (t0_2 := t1_2) (t0_3 := t1_3) (t0_4 := t1_4) (t0_5 := t1_5) (t0_6 := t1_6) (t1_0 := t2_0) (t2_0 := t3_0) (t3_0 := t4_0) (t4_0 := t5_0) (t5_0 := t6_0) (t6_0 := t7_0) (t7_0 := t8_0) (t8_0 := t9_0) (t9_0 := t10_0) (t10_0 := t11_0) (t11_0 := t12_0) (t12_0 := t13_0) (by with_reducible assumption)
                            with_reducible refine v_owe h24.1 ?_
                            replace h24 := h24.2
                            generalize F_WR_inverse x3 x4 x5 t1_0 t1_1 t1_2 t1_3 t1_4 t1_5 t1_6 t2_0 t3_0 t4_0 t5_0 t6_0 t7_0 t8_0 t9_0 t10_0 t11_0 t12_0 t13_0 = p570 at *
                            unfold Q_WR_inverse at h24
                            unfold S_NM_whole_c202 F_NM_whole_c202
                            refine ⟨trivial, ?_⟩
                            exact nm_wholeA (by with_reducible assumption)
                          ·
                            rw [if_neg g23, if_neg g23]
                            have h25 := T_WR_combine (x2 := x3) (x3 := x4) (x4 := x5) (x5 := (x2 - 8 : Int32)) (t0_0 := t1_0) (t0_1 := t1_1) (t0_2 := t1_2) (t0_3 := t1_3) (t0_4 := t1_4) (t0_5 := t1_5) (t0_6 := t1_6) (t1_0 := t2_0) (t2_0 := t3_0) (t3_0 := t4_0) (t4_0 := t5_0) (by with_reducible assumption)
                            with_reducible refine v_owe h25.1 ?_
                            replace h25 := h25.2
                            generalize F_WR_combine x3 x4 x5 (x2 - 8 : Int32) t1_0 t1_1 t1_2 t1_3 t1_4 t1_5 t1_6 t2_0 t3_0 t4_0 t5_0 = p632 at *
                            unfold Q_WR_combine at h25
                            unfold S_NM_whole_c220 F_NM_whole_c220
                            refine ⟨trivial, ?_⟩
                            exact nm_wholeA (by with_reducible assumption)
          ·
            rw [if_neg g7, if_neg g7]
            unfold S_NM_whole_J33 F_NM_whole_J33
            unfold S_NM_whole_J38 F_NM_whole_J38
            have g26 : ¬ ((1 : Int32) ≤ (0 : Int32)) := (by decide)
            rw [if_neg g26, if_neg g26]
            refine ⟨trivial, ?_⟩
            exact nm_wholeA (by with_reducible assumption)
        ·
          rw [if_neg g6, if_neg g6]
          unfold S_NM_whole_J33 F_NM_whole_J33
          unfold S_NM_whole_J38 F_NM_whole_J38
          have g27 : ¬ ((1 : Int32) ≤ (0 : Int32)) := (by decide)
          rw [if_neg g27, if_neg g27]
          refine ⟨trivial, ?_⟩
          exact nm_wholeA (by with_reducible assumption)
      ·
        rw [if_neg g5, if_neg g5]
        unfold S_NM_whole_J33 F_NM_whole_J33
        unfold S_NM_whole_J38 F_NM_whole_J38
        have g28 : ¬ ((1 : Int32) ≤ (0 : Int32)) := (by decide)
        rw [if_neg g28, if_neg g28]
        refine ⟨trivial, ?_⟩
        exact nm_wholeA (by with_reducible assumption)
def Q_NM_wholeBy (p : Int32 × Int32 × Int32 × Int32 × Int32 × Int32 × Int32 × Int32 × (Nat → Int32) × (Nat → Int32) × (Nat → Int32) × (Nat → Int32) × (Nat → Int32) × (Nat → Int32)) : Prop := wR p.2.2.2.2.2.2.2.2.1 p.2.2.2.2.2.2.2.2.2.1
theorem nm_wholeByA {c0 : Int32} {c1 : Int32} {c2 : Int32} {c3 : Int32} {c4 : Int32} {c5 : Int32} {c6 : Int32} {c7 : Int32} {c8 : (Nat → Int32)} {c9 : (Nat → Int32)} {c10 : (Nat → Int32)} {c11 : (Nat → Int32)} {c12 : (Nat → Int32)} {c13 : (Nat → Int32)} (h0 : wR c8 c9) : Q_NM_wholeBy (c0, c1, c2, c3, c4, c5, c6, c7, c8, c9, c10, c11, c12, c13) := h0
theorem T_NM_wholeBy {x2 : Int32} {x3 : Int32} {x4 : Int32} {x5 : Int32} {t0_0 : Int32} {t0_1 : Int32} {t0_2 : Int32} {t1_0 : Int32} {t1_1 : Int32} {t1_2 : Int32} {t1_3 : Int32} {t1_4 : Int32} {t1_5 : Int32} {t1_6 : Int32} {t2_0 : (Nat → Int32)} {t3_0 : (Nat → Int32)} {t4_0 : (Nat → Int32)} {t5_0 : (Nat → Int32)} {t6_0 : (Nat → Int32)} {t7_0 : (Nat → Int32)} (hW : wR t2_0 t3_0)  : (S_NM_wholeBy x2 x3 x4 x5 t0_0 t0_1 t0_2 t1_0 t1_1 t1_2 t1_3 t1_4 t1_5 t1_6 t2_0 t3_0 t4_0 t5_0 t6_0 t7_0) ∧ Q_NM_wholeBy (F_NM_wholeBy x2 x3 x4 x5 t0_0 t0_1 t0_2 t1_0 t1_1 t1_2 t1_3 t1_4 t1_5 t1_6 t2_0 t3_0 t4_0 t5_0 t6_0 t7_0) := by
  have e0 : (0 : Int32).toInt = 0 := rfl
  have e1 : (1 : Int32).toInt = 1 := rfl
  have eL0 : (0 : Int64).toInt = 0 := rfl
  have em : (-1 : Int32).toInt = -1 := rfl
  unfold S_NM_wholeBy F_NM_wholeBy
  by_cases g1 : x2 < (0 : Int32)
  ·
    rw [if_pos g1, if_pos g1]
    unfold S_NM_wholeBy_J25 F_NM_wholeBy_J25
    unfold S_NM_wholeBy_J30 F_NM_wholeBy_J30
    have g2 : ¬ ((1 : Int32) ≤ (0 : Int32)) := (by decide)
    rw [if_neg g2, if_neg g2]
    refine ⟨trivial, ?_⟩
    exact nm_wholeByA (by with_reducible assumption)
  ·
    rw [if_neg g1, if_neg g1]
    by_cases g3 : (2 : Int32) < x2
    ·
      rw [if_pos g3, if_pos g3]
      unfold S_NM_wholeBy_J25 F_NM_wholeBy_J25
      unfold S_NM_wholeBy_J30 F_NM_wholeBy_J30
      have g4 : ¬ ((1 : Int32) ≤ (0 : Int32)) := (by decide)
      rw [if_neg g4, if_neg g4]
      refine ⟨trivial, ?_⟩
      exact nm_wholeByA (by with_reducible assumption)
    ·
      rw [if_neg g3, if_neg g3]
      by_cases g5 : ((F_NM_no_IZ x3) : Int32) = (0 : Int32)
      ·
        rw [if_pos g5, if_pos g5]
        by_cases g6 : ((F_NM_no_IZ x5) : Int32) = (0 : Int32)
        ·
          rw [if_pos g6, if_pos g6]
          unfold S_NM_wholeBy_J30 F_NM_wholeBy_J30
          have g7 : ((0 : Int32) ≤ (0 : Int32)) := (by decide)
          rw [if_pos g7, if_pos g7]
          by_cases g8 : x2 = (0 : Int32)
          ·
            rw [if_pos g8, if_pos g8]
            have h9 := T_WR_power (x2 := x3) (x3 := x4) (x4 := x5) (t0_0 := t1_0) (t0_1 := t1_1) (t0_2 := t1_2) (t0_3 := t1_3) (t0_4 := t1_4) (t0_5 := t1_5) (t0_6 := t1_6) (t1_0 := t2_0) (t2_0 := t3_0) (t3_0 := t4_0) (t4_0 := t6_0) (t5_0 := t7_0) (by with_reducible assumption)
            with_reducible refine v_owe h9.1 ?_
            replace h9 := h9.2
            generalize F_WR_power x3 x4 x5 t1_0 t1_1 t1_2 t1_3 t1_4 t1_5 t1_6 t2_0 t3_0 t4_0 t6_0 t7_0 = p209 at *
            unfold Q_WR_power at h9
            unfold S_NM_wholeBy_c53 F_NM_wholeBy_c53
            refine ⟨trivial, ?_⟩
            exact nm_wholeByA (by with_reducible assumption)
          ·
            rw [if_neg g8, if_neg g8]
            by_cases g10 : x2 = (1 : Int32)
            ·
              rw [if_pos g10, if_pos g10]
              have h11 := T_WR_root (x2 := x3) (x3 := x4) (x4 := x5) (t0_0 := t1_0) (t0_1 := t1_1) (t0_2 := t1_2) (t0_3 := t1_3) (t0_4 := t1_4) (t0_5 := t1_5) (t0_6 := t1_6) (t1_0 := t2_0) (t2_0 := t3_0) (t3_0 := t4_0) (t4_0 := t5_0) (t5_0 := t6_0) (t6_0 := t7_0) (by with_reducible assumption)
              with_reducible refine v_owe h11.1 ?_
              replace h11 := h11.2
              generalize F_WR_root x3 x4 x5 t1_0 t1_1 t1_2 t1_3 t1_4 t1_5 t1_6 t2_0 t3_0 t4_0 t5_0 t6_0 t7_0 = p153 at *
              unfold Q_WR_root at h11
              unfold S_NM_wholeBy_c72 F_NM_wholeBy_c72
              refine ⟨trivial, ?_⟩
              exact nm_wholeByA (by with_reducible assumption)
            ·
              rw [if_neg g10, if_neg g10]
              have h12 := T_WR_shift (x2 := x3) (x3 := x4) (x4 := x5) (t0_0 := t1_0) (t0_1 := t1_1) (t0_2 := t1_2) (t0_3 := t1_3) (t0_4 := t1_4) (t0_5 := t1_5) (t0_6 := t1_6) (t1_0 := t2_0) (t2_0 := t3_0) (t3_0 := t4_0) (t4_0 := t5_0) (t5_0 := t7_0) (by with_reducible assumption)
              with_reducible refine v_owe h12.1 ?_
              replace h12 := h12.2
              generalize F_WR_shift x3 x4 x5 t1_0 t1_1 t1_2 t1_3 t1_4 t1_5 t1_6 t2_0 t3_0 t4_0 t5_0 t7_0 = p96 at *
              unfold Q_WR_shift at h12
              unfold S_NM_wholeBy_c86 F_NM_wholeBy_c86
              refine ⟨trivial, ?_⟩
              exact nm_wholeByA (by with_reducible assumption)
        ·
          rw [if_neg g6, if_neg g6]
          unfold S_NM_wholeBy_J25 F_NM_wholeBy_J25
          unfold S_NM_wholeBy_J30 F_NM_wholeBy_J30
          have g13 : ¬ ((1 : Int32) ≤ (0 : Int32)) := (by decide)
          rw [if_neg g13, if_neg g13]
          refine ⟨trivial, ?_⟩
          exact nm_wholeByA (by with_reducible assumption)
      ·
        rw [if_neg g5, if_neg g5]
        unfold S_NM_wholeBy_J25 F_NM_wholeBy_J25
        unfold S_NM_wholeBy_J30 F_NM_wholeBy_J30
        have g14 : ¬ ((1 : Int32) ≤ (0 : Int32)) := (by decide)
        rw [if_neg g14, if_neg g14]
        refine ⟨trivial, ?_⟩
        exact nm_wholeByA (by with_reducible assumption)
def Q_NM_powerModulo (p : Int32 × Int32 × Int32 × Int32 × Int32 × Int32 × Int32 × Int32 × (Nat → Int32) × (Nat → Int32) × (Nat → Int32) × (Nat → Int32) × (Nat → Int32) × (Nat → Int32) × (Nat → Int32) × (Nat → Int32) × (Nat → Int32) × (Nat → Int32) × (Nat → Int32) × (Nat → Int32)) : Prop := wR p.2.2.2.2.2.2.2.2.1 p.2.2.2.2.2.2.2.2.2.1
theorem nm_powerModuloA {c0 : Int32} {c1 : Int32} {c2 : Int32} {c3 : Int32} {c4 : Int32} {c5 : Int32} {c6 : Int32} {c7 : Int32} {c8 : (Nat → Int32)} {c9 : (Nat → Int32)} {c10 : (Nat → Int32)} {c11 : (Nat → Int32)} {c12 : (Nat → Int32)} {c13 : (Nat → Int32)} {c14 : (Nat → Int32)} {c15 : (Nat → Int32)} {c16 : (Nat → Int32)} {c17 : (Nat → Int32)} {c18 : (Nat → Int32)} {c19 : (Nat → Int32)} (h0 : wR c8 c9) : Q_NM_powerModulo (c0, c1, c2, c3, c4, c5, c6, c7, c8, c9, c10, c11, c12, c13, c14, c15, c16, c17, c18, c19) := h0
theorem T_NM_powerModulo {x2 : Int32} {x3 : Int32} {x4 : Int32} {x5 : Int32} {t0_0 : Int32} {t0_1 : Int32} {t0_2 : Int32} {t1_0 : Int32} {t1_1 : Int32} {t1_2 : Int32} {t1_3 : Int32} {t1_4 : Int32} {t1_5 : Int32} {t1_6 : Int32} {t2_0 : (Nat → Int32)} {t3_0 : (Nat → Int32)} {t4_0 : (Nat → Int32)} {t5_0 : (Nat → Int32)} {t6_0 : (Nat → Int32)} {t7_0 : (Nat → Int32)} {t8_0 : (Nat → Int32)} {t9_0 : (Nat → Int32)} {t10_0 : (Nat → Int32)} {t11_0 : (Nat → Int32)} {t12_0 : (Nat → Int32)} {t13_0 : (Nat → Int32)} (hW : wR t2_0 t3_0)  : (S_NM_powerModulo x2 x3 x4 x5 t0_0 t0_1 t0_2 t1_0 t1_1 t1_2 t1_3 t1_4 t1_5 t1_6 t2_0 t3_0 t4_0 t5_0 t6_0 t7_0 t8_0 t9_0 t10_0 t11_0 t12_0 t13_0) ∧ Q_NM_powerModulo (F_NM_powerModulo x2 x3 x4 x5 t0_0 t0_1 t0_2 t1_0 t1_1 t1_2 t1_3 t1_4 t1_5 t1_6 t2_0 t3_0 t4_0 t5_0 t6_0 t7_0 t8_0 t9_0 t10_0 t11_0 t12_0 t13_0) := by
  have e0 : (0 : Int32).toInt = 0 := rfl
  have e1 : (1 : Int32).toInt = 1 := rfl
  have eL0 : (0 : Int64).toInt = 0 := rfl
  have em : (-1 : Int32).toInt = -1 := rfl
  unfold S_NM_powerModulo F_NM_powerModulo
  by_cases g1 : ((F_NM_no_IZ x2) : Int32) = (0 : Int32)
  ·
    rw [if_pos g1, if_pos g1]
    by_cases g2 : ((F_NM_no_IZ x3) : Int32) = (0 : Int32)
    ·
      rw [if_pos g2, if_pos g2]
      by_cases g3 : ((F_NM_no_IZ x4) : Int32) = (0 : Int32)
      ·
        rw [if_pos g3, if_pos g3]
        by_cases g4 : ((F_NM_no_IZ x5) : Int32) = (0 : Int32)
        ·
          rw [if_pos g4, if_pos g4]
          unfold S_NM_powerModulo_J35 F_NM_powerModulo_J35
          have g5 : ((0 : Int32) = (0 : Int32)) := (by decide)
          rw [if_pos g5, if_pos g5]
          have h6 := T_WR_powerModulo (x2 := x2) (x3 := x3) (x4 := x4) (x5 := x5) (t0_0 := t1_0) (t0_1 := t1_1) (t0_2 := t1_2) (t0_3 := t1_3) (t0_4 := t1_4) (t0_5 := t1_5) (t0_6 := t1_6) (t1_0 := t2_0) (t2_0 := t3_0) (t3_0 := t4_0) (t4_0 := t5_0) (t5_0 := t6_0) (t6_0 := t7_0) (t7_0 := t8_0) (t8_0 := t9_0) (t9_0 := t10_0) (t10_0 := t11_0) (t11_0 := t12_0) (t12_0 := t13_0) (by with_reducible assumption)
          with_reducible refine v_owe h6.1 ?_
          replace h6 := h6.2
          generalize F_WR_powerModulo x2 x3 x4 x5 t1_0 t1_1 t1_2 t1_3 t1_4 t1_5 t1_6 t2_0 t3_0 t4_0 t5_0 t6_0 t7_0 t8_0 t9_0 t10_0 t11_0 t12_0 t13_0 = p140 at *
          unfold Q_WR_powerModulo at h6
          unfold S_NM_powerModulo_c54 F_NM_powerModulo_c54
          refine ⟨trivial, ?_⟩
          exact nm_powerModuloA (by with_reducible assumption)
        ·
          rw [if_neg g4, if_neg g4]
          unfold S_NM_powerModulo_J30 F_NM_powerModulo_J30
          unfold S_NM_powerModulo_J35 F_NM_powerModulo_J35
          have g7 : ¬ ((1 : Int32) = (0 : Int32)) := (by decide)
          rw [if_neg g7, if_neg g7]
          refine ⟨trivial, ?_⟩
          exact nm_powerModuloA (by with_reducible assumption)
      ·
        rw [if_neg g3, if_neg g3]
        unfold S_NM_powerModulo_J30 F_NM_powerModulo_J30
        unfold S_NM_powerModulo_J35 F_NM_powerModulo_J35
        have g8 : ¬ ((1 : Int32) = (0 : Int32)) := (by decide)
        rw [if_neg g8, if_neg g8]
        refine ⟨trivial, ?_⟩
        exact nm_powerModuloA (by with_reducible assumption)
    ·
      rw [if_neg g2, if_neg g2]
      unfold S_NM_powerModulo_J30 F_NM_powerModulo_J30
      unfold S_NM_powerModulo_J35 F_NM_powerModulo_J35
      have g9 : ¬ ((1 : Int32) = (0 : Int32)) := (by decide)
      rw [if_neg g9, if_neg g9]
      refine ⟨trivial, ?_⟩
      exact nm_powerModuloA (by with_reducible assumption)
  ·
    rw [if_neg g1, if_neg g1]
    unfold S_NM_powerModulo_J30 F_NM_powerModulo_J30
    unfold S_NM_powerModulo_J35 F_NM_powerModulo_J35
    have g10 : ¬ ((1 : Int32) = (0 : Int32)) := (by decide)
    rw [if_neg g10, if_neg g10]
    refine ⟨trivial, ?_⟩
    exact nm_powerModuloA (by with_reducible assumption)
def Q_NM_decimal (p : Int32 × Int32 × Int32 × Int32 × Int64 × Int32 × Int32 × Int32 × Int32 × Int32 × Int32 × Int32 × (Nat → Int32) × (Nat → Int32) × (Nat → Int32) × (Nat → Int32) × (Nat → Int32) × (Nat → Int32) × (Nat → Int32) × (Nat → Int32)) : Prop := gR p.2.2.2.2.2.2.2.2.2.2.2.2.1 p.2.2.2.2.2.2.2.2.2.2.2.2.2.1 p.2.2.2.2.2.2.2.2.2.2.2.2.2.2.1 p.2.2.2.2.2.2.2.2.2.2.2.2.2.2.2.1
theorem nm_decimalA {c0 : Int32} {c1 : Int32} {c2 : Int32} {c3 : Int32} {c4 : Int64} {c5 : Int32} {c6 : Int32} {c7 : Int32} {c8 : Int32} {c9 : Int32} {c10 : Int32} {c11 : Int32} {c12 : (Nat → Int32)} {c13 : (Nat → Int32)} {c14 : (Nat → Int32)} {c15 : (Nat → Int32)} {c16 : (Nat → Int32)} {c17 : (Nat → Int32)} {c18 : (Nat → Int32)} {c19 : (Nat → Int32)} (h0 : gR c12 c13 c14 c15) : Q_NM_decimal (c0, c1, c2, c3, c4, c5, c6, c7, c8, c9, c10, c11, c12, c13, c14, c15, c16, c17, c18, c19) := h0
theorem T_NM_decimal {x2 : Int32} {x3 : Int32} {x4 : Int32} {x5 : Int32} {t0_0 : Int32} {t0_1 : Int32} {t0_2 : Int32} {t1_0 : Int32} {t1_1 : Int32} {t1_2 : Int32} {t1_3 : Int64} {t1_4 : Int32} {t1_5 : Int32} {t1_6 : Int32} {t1_7 : Int32} {t1_8 : Int32} {t1_9 : Int32} {t1_10 : Int32} {t2_0 : (Nat → Int32)} {t3_0 : (Nat → Int32)} {t4_0 : (Nat → Int32)} {t5_0 : (Nat → Int32)} {t6_0 : (Nat → Int32)} {t7_0 : (Nat → Int32)} {t8_0 : (Nat → Int32)} {t9_0 : (Nat → Int32)} (hD : gR t2_0 t3_0 t4_0 t5_0)  : (S_NM_decimal x2 x3 x4 x5 t0_0 t0_1 t0_2 t1_0 t1_1 t1_2 t1_3 t1_4 t1_5 t1_6 t1_7 t1_8 t1_9 t1_10 t2_0 t3_0 t4_0 t5_0 t6_0 t7_0 t8_0 t9_0) ∧ Q_NM_decimal (F_NM_decimal x2 x3 x4 x5 t0_0 t0_1 t0_2 t1_0 t1_1 t1_2 t1_3 t1_4 t1_5 t1_6 t1_7 t1_8 t1_9 t1_10 t2_0 t3_0 t4_0 t5_0 t6_0 t7_0 t8_0 t9_0) := by
  have e0 : (0 : Int32).toInt = 0 := rfl
  have e1 : (1 : Int32).toInt = 1 := rfl
  have eL0 : (0 : Int64).toInt = 0 := rfl
  have em : (-1 : Int32).toInt = -1 := rfl
  unfold S_NM_decimal F_NM_decimal
  by_cases g1 : x2 < (0 : Int32)
  ·
    rw [if_pos g1, if_pos g1]
    unfold S_NM_decimal_J32 F_NM_decimal_J32
    unfold S_NM_decimal_J37 F_NM_decimal_J37
    have g2 : ¬ ((1 : Int32) ≤ (0 : Int32)) := (by decide)
    rw [if_neg g2, if_neg g2]
    refine ⟨trivial, ?_⟩
    exact nm_decimalA (by with_reducible assumption)
  ·
    rw [if_neg g1, if_neg g1]
    by_cases g3 : (3 : Int32) < x2
    ·
      rw [if_pos g3, if_pos g3]
      unfold S_NM_decimal_J32 F_NM_decimal_J32
      unfold S_NM_decimal_J37 F_NM_decimal_J37
      have g4 : ¬ ((1 : Int32) ≤ (0 : Int32)) := (by decide)
      rw [if_neg g4, if_neg g4]
      refine ⟨trivial, ?_⟩
      exact nm_decimalA (by with_reducible assumption)
    ·
      rw [if_neg g3, if_neg g3]
      by_cases g5 : ((F_NM_no_IZ x3) : Int32) = (0 : Int32)
      ·
        rw [if_pos g5, if_pos g5]
        by_cases g6 : ((F_NM_no_IZ x4) : Int32) = (0 : Int32)
        ·
          rw [if_pos g6, if_pos g6]
          by_cases g7 : ((F_NM_no_IZ x5) : Int32) = (0 : Int32)
          ·
            rw [if_pos g7, if_pos g7]
            unfold S_NM_decimal_J37 F_NM_decimal_J37
            have g8 : ((0 : Int32) ≤ (0 : Int32)) := (by decide)
            rw [if_pos g8, if_pos g8]
            by_cases g9 : (2 : Int32) ≤ x2
            ·
              rw [if_pos g9, if_pos g9]
              by_cases g10 : x2 = (2 : Int32)
              ·
                rw [if_pos g10, if_pos g10]
                have h11 := T_DR_multiply (x2 := x3) (x3 := x4) (x4 := x5) (t0_0 := t1_0) (t0_1 := t1_1) (t0_2 := t1_2) (t0_3 := t1_3) (t0_4 := t1_4) (t0_5 := t1_5) (t0_6 := t1_6) (t0_7 := t1_7) (t0_8 := t1_8) (t0_9 := t1_9) (t0_10 := t1_10) (t1_0 := t2_0) (t2_0 := t3_0) (t3_0 := t4_0) (t4_0 := t5_0) (t5_0 := t6_0) (t6_0 := t7_0) (by with_reducible assumption)
                with_reducible refine v_owe h11.1 ?_
                replace h11 := h11.2
                generalize F_DR_multiply x3 x4 x5 t1_0 t1_1 t1_2 t1_3 t1_4 t1_5 t1_6 t1_7 t1_8 t1_9 t1_10 t2_0 t3_0 t4_0 t5_0 t6_0 t7_0 = p188 at *
                unfold Q_DR_multiply at h11
                unfold S_NM_decimal_c90 F_NM_decimal_c90
                refine ⟨trivial, ?_⟩
                exact nm_decimalA (by with_reducible assumption)
              ·
                rw [if_neg g10, if_neg g10]
                have h12 := T_DR_remainder (x2 := x3) (x3 := x4) (x4 := x5) (t0_0 := t1_0) (t0_1 := t1_1) (t0_2 := t1_2) (t0_3 := t1_3) (t0_4 := t1_4) (t0_5 := t1_5) (t0_6 := t1_6) (t0_7 := t1_7) (t0_8 := t1_8) (t0_9 := t1_9) (t0_10 := t1_10) (t1_0 := t2_0) (t2_0 := t3_0) (t3_0 := t4_0) (t4_0 := t5_0) (t5_0 := t6_0) (t6_0 := t8_0) (t7_0 := t9_0) (by with_reducible assumption)
                with_reducible refine v_owe h12.1 ?_
                replace h12 := h12.2
                generalize F_DR_remainder x3 x4 x5 t1_0 t1_1 t1_2 t1_3 t1_4 t1_5 t1_6 t1_7 t1_8 t1_9 t1_10 t2_0 t3_0 t4_0 t5_0 t6_0 t8_0 t9_0 = p117 at *
                unfold Q_DR_remainder at h12
                unfold S_NM_decimal_c104 F_NM_decimal_c104
                refine ⟨trivial, ?_⟩
                exact nm_decimalA (by with_reducible assumption)
            ·
              rw [if_neg g9, if_neg g9]
              by_cases g13 : x2 = (1 : Int32)
              ·
                rw [if_pos g13, if_pos g13]
                have h14 := T_DR_add (x2 := x3) (x3 := x4) (x4 := x5) (x5 := (1 : Int32)) (t0_0 := t1_0) (t0_1 := t1_1) (t0_2 := t1_2) (t0_3 := t1_3) (t0_4 := t1_4) (t0_5 := t1_5) (t0_6 := t1_6) (t0_7 := t1_7) (t0_8 := t1_8) (t0_9 := t1_9) (t0_10 := t1_10) (t1_0 := t2_0) (t2_0 := t3_0) (t3_0 := t4_0) (t4_0 := t5_0) (t5_0 := t6_0) (by with_reducible assumption)
                with_reducible refine v_owe h14.1 ?_
                replace h14 := h14.2
                generalize F_DR_add x3 x4 x5 (1 : Int32) t1_0 t1_1 t1_2 t1_3 t1_4 t1_5 t1_6 t1_7 t1_8 t1_9 t1_10 t2_0 t3_0 t4_0 t5_0 t6_0 = p325 at *
                unfold Q_DR_add at h14
                unfold S_NM_decimal_c71_5 F_NM_decimal_c71_5
                refine ⟨trivial, ?_⟩
                exact nm_decimalA (by with_reducible assumption)
              ·
                rw [if_neg g13, if_neg g13]
                have h15 := T_DR_add (x2 := x3) (x3 := x4) (x4 := x5) (x5 := (0 : Int32)) (t0_0 := t1_0) (t0_1 := t1_1) (t0_2 := t1_2) (t0_3 := t1_3) (t0_4 := t1_4) (t0_5 := t1_5) (t0_6 := t1_6) (t0_7 := t1_7) (t0_8 := t1_8) (t0_9 := t1_9) (t0_10 := t1_10) (t1_0 := t2_0) (t2_0 := t3_0) (t3_0 := t4_0) (t4_0 := t5_0) (t5_0 := t6_0) (by with_reducible assumption)
                with_reducible refine v_owe h15.1 ?_
                replace h15 := h15.2
                generalize F_DR_add x3 x4 x5 (0 : Int32) t1_0 t1_1 t1_2 t1_3 t1_4 t1_5 t1_6 t1_7 t1_8 t1_9 t1_10 t2_0 t3_0 t4_0 t5_0 t6_0 = p258 at *
                unfold Q_DR_add at h15
                unfold S_NM_decimal_c71 F_NM_decimal_c71
                refine ⟨trivial, ?_⟩
                exact nm_decimalA (by with_reducible assumption)
          ·
            rw [if_neg g7, if_neg g7]
            unfold S_NM_decimal_J32 F_NM_decimal_J32
            unfold S_NM_decimal_J37 F_NM_decimal_J37
            have g16 : ¬ ((1 : Int32) ≤ (0 : Int32)) := (by decide)
            rw [if_neg g16, if_neg g16]
            refine ⟨trivial, ?_⟩
            exact nm_decimalA (by with_reducible assumption)
        ·
          rw [if_neg g6, if_neg g6]
          unfold S_NM_decimal_J32 F_NM_decimal_J32
          unfold S_NM_decimal_J37 F_NM_decimal_J37
          have g17 : ¬ ((1 : Int32) ≤ (0 : Int32)) := (by decide)
          rw [if_neg g17, if_neg g17]
          refine ⟨trivial, ?_⟩
          exact nm_decimalA (by with_reducible assumption)
      ·
        rw [if_neg g5, if_neg g5]
        unfold S_NM_decimal_J32 F_NM_decimal_J32
        unfold S_NM_decimal_J37 F_NM_decimal_J37
        have g18 : ¬ ((1 : Int32) ≤ (0 : Int32)) := (by decide)
        rw [if_neg g18, if_neg g18]
        refine ⟨trivial, ?_⟩
        exact nm_decimalA (by with_reducible assumption)
def Q_NM_decimalBy (p : Int32 × Int32 × Int32 × Int32 × Int64 × Int32 × Int32 × Int32 × Int32 × Int32 × Int32 × Int32 × (Nat → Int32) × (Nat → Int32) × (Nat → Int32) × (Nat → Int32) × (Nat → Int32) × (Nat → Int32)) : Prop := gR p.2.2.2.2.2.2.2.2.2.2.2.2.1 p.2.2.2.2.2.2.2.2.2.2.2.2.2.1 p.2.2.2.2.2.2.2.2.2.2.2.2.2.2.1 p.2.2.2.2.2.2.2.2.2.2.2.2.2.2.2.1
theorem nm_decimalByA {c0 : Int32} {c1 : Int32} {c2 : Int32} {c3 : Int32} {c4 : Int64} {c5 : Int32} {c6 : Int32} {c7 : Int32} {c8 : Int32} {c9 : Int32} {c10 : Int32} {c11 : Int32} {c12 : (Nat → Int32)} {c13 : (Nat → Int32)} {c14 : (Nat → Int32)} {c15 : (Nat → Int32)} {c16 : (Nat → Int32)} {c17 : (Nat → Int32)} (h0 : gR c12 c13 c14 c15) : Q_NM_decimalBy (c0, c1, c2, c3, c4, c5, c6, c7, c8, c9, c10, c11, c12, c13, c14, c15, c16, c17) := h0
theorem T_NM_decimalBy {x2 : Int32} {x3 : Int32} {x4 : Int32} {x5 : Int32} {t0_0 : Int32} {t0_1 : Int32} {t0_2 : Int32} {t1_0 : Int32} {t1_1 : Int32} {t1_2 : Int32} {t1_3 : Int64} {t1_4 : Int32} {t1_5 : Int32} {t1_6 : Int32} {t1_7 : Int32} {t1_8 : Int32} {t1_9 : Int32} {t1_10 : Int32} {t2_0 : (Nat → Int32)} {t3_0 : (Nat → Int32)} {t4_0 : (Nat → Int32)} {t5_0 : (Nat → Int32)} {t6_0 : (Nat → Int32)} {t7_0 : (Nat → Int32)} (hD : gR t2_0 t3_0 t4_0 t5_0)  : (S_NM_decimalBy x2 x3 x4 x5 t0_0 t0_1 t0_2 t1_0 t1_1 t1_2 t1_3 t1_4 t1_5 t1_6 t1_7 t1_8 t1_9 t1_10 t2_0 t3_0 t4_0 t5_0 t6_0 t7_0) ∧ Q_NM_decimalBy (F_NM_decimalBy x2 x3 x4 x5 t0_0 t0_1 t0_2 t1_0 t1_1 t1_2 t1_3 t1_4 t1_5 t1_6 t1_7 t1_8 t1_9 t1_10 t2_0 t3_0 t4_0 t5_0 t6_0 t7_0) := by
  have e0 : (0 : Int32).toInt = 0 := rfl
  have e1 : (1 : Int32).toInt = 1 := rfl
  have eL0 : (0 : Int64).toInt = 0 := rfl
  have em : (-1 : Int32).toInt = -1 := rfl
  unfold S_NM_decimalBy F_NM_decimalBy
  by_cases g1 : x2 < (0 : Int32)
  ·
    rw [if_pos g1, if_pos g1]
    unfold S_NM_decimalBy_J25 F_NM_decimalBy_J25
    unfold S_NM_decimalBy_J30 F_NM_decimalBy_J30
    have g2 : ¬ ((1 : Int32) ≤ (0 : Int32)) := (by decide)
    rw [if_neg g2, if_neg g2]
    refine ⟨trivial, ?_⟩
    exact nm_decimalByA (by with_reducible assumption)
  ·
    rw [if_neg g1, if_neg g1]
    by_cases g3 : (2 : Int32) < x2
    ·
      rw [if_pos g3, if_pos g3]
      unfold S_NM_decimalBy_J25 F_NM_decimalBy_J25
      unfold S_NM_decimalBy_J30 F_NM_decimalBy_J30
      have g4 : ¬ ((1 : Int32) ≤ (0 : Int32)) := (by decide)
      rw [if_neg g4, if_neg g4]
      refine ⟨trivial, ?_⟩
      exact nm_decimalByA (by with_reducible assumption)
    ·
      rw [if_neg g3, if_neg g3]
      by_cases g5 : ((F_NM_no_IZ x3) : Int32) = (0 : Int32)
      ·
        rw [if_pos g5, if_pos g5]
        by_cases g6 : ((F_NM_no_IZ x5) : Int32) = (0 : Int32)
        ·
          rw [if_pos g6, if_pos g6]
          unfold S_NM_decimalBy_J30 F_NM_decimalBy_J30
          have g7 : ((0 : Int32) ≤ (0 : Int32)) := (by decide)
          rw [if_pos g7, if_pos g7]
          by_cases g8 : x2 = (0 : Int32)
          ·
            rw [if_pos g8, if_pos g8]
            have h9 := T_DR_power (x2 := x3) (x3 := x4) (x4 := x5) (t0_0 := t1_0) (t0_1 := t1_1) (t0_2 := t1_2) (t0_3 := t1_3) (t0_4 := t1_4) (t0_5 := t1_5) (t0_6 := t1_6) (t0_7 := t1_7) (t0_8 := t1_8) (t0_9 := t1_9) (t0_10 := t1_10) (t1_0 := t2_0) (t2_0 := t3_0) (t3_0 := t4_0) (t4_0 := t5_0) (t5_0 := t6_0) (t6_0 := t7_0) (by with_reducible assumption)
            with_reducible refine v_owe h9.1 ?_
            replace h9 := h9.2
            generalize F_DR_power x3 x4 x5 t1_0 t1_1 t1_2 t1_3 t1_4 t1_5 t1_6 t1_7 t1_8 t1_9 t1_10 t2_0 t3_0 t4_0 t5_0 t6_0 t7_0 = p243 at *
            unfold Q_DR_power at h9
            unfold S_NM_decimalBy_c53 F_NM_decimalBy_c53
            refine ⟨trivial, ?_⟩
            exact nm_decimalByA (by with_reducible assumption)
          ·
            rw [if_neg g8, if_neg g8]
            by_cases g10 : x2 = (1 : Int32)
            ·
              rw [if_pos g10, if_pos g10]
              have h11 := T_DR_shift (x2 := x3) (x3 := x5) (x4 := x4) (t0_0 := t1_0) (t0_1 := t1_1) (t0_2 := t1_2) (t0_3 := t1_3) (t0_4 := t1_4) (t0_5 := t1_5) (t0_6 := t1_6) (t0_7 := t1_7) (t0_8 := t1_8) (t0_9 := t1_9) (t0_10 := t1_10) (t1_0 := t2_0) (t2_0 := t3_0) (t3_0 := t4_0) (t4_0 := t5_0) (t5_0 := t6_0) (by with_reducible assumption)
              with_reducible refine v_owe h11.1 ?_
              replace h11 := h11.2
              generalize F_DR_shift x3 x5 x4 t1_0 t1_1 t1_2 t1_3 t1_4 t1_5 t1_6 t1_7 t1_8 t1_9 t1_10 t2_0 t3_0 t4_0 t5_0 t6_0 = p174 at *
              unfold Q_DR_shift at h11
              unfold S_NM_decimalBy_c72 F_NM_decimalBy_c72
              refine ⟨trivial, ?_⟩
              exact nm_decimalByA (by with_reducible assumption)
            ·
              rw [if_neg g10, if_neg g10]
              have h12 := T_DR_strip (x2 := x3) (x3 := x5) (t0_0 := t1_0) (t0_1 := t1_1) (t0_2 := t1_2) (t0_3 := t1_3) (t0_4 := t1_4) (t0_5 := t1_5) (t0_6 := t1_6) (t0_7 := t1_7) (t0_8 := t1_8) (t0_9 := t1_9) (t0_10 := t1_10) (t1_0 := t2_0) (t2_0 := t3_0) (t3_0 := t4_0) (t4_0 := t5_0) (t5_0 := t6_0) (by with_reducible assumption)
              with_reducible refine v_owe h12.1 ?_
              replace h12 := h12.2
              generalize F_DR_strip x3 x5 t1_0 t1_1 t1_2 t1_3 t1_4 t1_5 t1_6 t1_7 t1_8 t1_9 t1_10 t2_0 t3_0 t4_0 t5_0 t6_0 = p107 at *
              unfold Q_DR_strip at h12
              unfold S_NM_decimalBy_c85 F_NM_decimalBy_c85
              refine ⟨trivial, ?_⟩
              exact nm_decimalByA (by with_reducible assumption)
        ·
          rw [if_neg g6, if_neg g6]
          unfold S_NM_decimalBy_J25 F_NM_decimalBy_J25
          unfold S_NM_decimalBy_J30 F_NM_decimalBy_J30
          have g13 : ¬ ((1 : Int32) ≤ (0 : Int32)) := (by decide)
          rw [if_neg g13, if_neg g13]
          refine ⟨trivial, ?_⟩
          exact nm_decimalByA (by with_reducible assumption)
      ·
        rw [if_neg g5, if_neg g5]
        unfold S_NM_decimalBy_J25 F_NM_decimalBy_J25
        unfold S_NM_decimalBy_J30 F_NM_decimalBy_J30
        have g14 : ¬ ((1 : Int32) ≤ (0 : Int32)) := (by decide)
        rw [if_neg g14, if_neg g14]
        refine ⟨trivial, ?_⟩
        exact nm_decimalByA (by with_reducible assumption)
def Q_NM_divide (p : Int32 × Int32 × Int32 × Int32 × Int64 × Int32 × Int32 × Int32 × Int32 × Int32 × Int32 × Int32 × (Nat → Int32) × (Nat → Int32) × (Nat → Int32) × (Nat → Int32) × (Nat → Int32) × (Nat → Int32) × (Nat → Int32)) : Prop := gR p.2.2.2.2.2.2.2.2.2.2.2.2.1 p.2.2.2.2.2.2.2.2.2.2.2.2.2.1 p.2.2.2.2.2.2.2.2.2.2.2.2.2.2.1 p.2.2.2.2.2.2.2.2.2.2.2.2.2.2.2.1
theorem nm_divideA {c0 : Int32} {c1 : Int32} {c2 : Int32} {c3 : Int32} {c4 : Int64} {c5 : Int32} {c6 : Int32} {c7 : Int32} {c8 : Int32} {c9 : Int32} {c10 : Int32} {c11 : Int32} {c12 : (Nat → Int32)} {c13 : (Nat → Int32)} {c14 : (Nat → Int32)} {c15 : (Nat → Int32)} {c16 : (Nat → Int32)} {c17 : (Nat → Int32)} {c18 : (Nat → Int32)} (h0 : gR c12 c13 c14 c15) : Q_NM_divide (c0, c1, c2, c3, c4, c5, c6, c7, c8, c9, c10, c11, c12, c13, c14, c15, c16, c17, c18) := h0
theorem T_NM_divide {x2 : Int32} {x3 : Int32} {x4 : Int32} {x5 : Int32} {x6 : Int32} {t0_0 : Int32} {t0_1 : Int32} {t0_2 : Int32} {t1_0 : Int32} {t1_1 : Int32} {t1_2 : Int32} {t1_3 : Int64} {t1_4 : Int32} {t1_5 : Int32} {t1_6 : Int32} {t1_7 : Int32} {t1_8 : Int32} {t1_9 : Int32} {t1_10 : Int32} {t2_0 : (Nat → Int32)} {t3_0 : (Nat → Int32)} {t4_0 : (Nat → Int32)} {t5_0 : (Nat → Int32)} {t6_0 : (Nat → Int32)} {t7_0 : (Nat → Int32)} {t8_0 : (Nat → Int32)} (hD : gR t2_0 t3_0 t4_0 t5_0)  : (S_NM_divide x2 x3 x4 x5 x6 t0_0 t0_1 t0_2 t1_0 t1_1 t1_2 t1_3 t1_4 t1_5 t1_6 t1_7 t1_8 t1_9 t1_10 t2_0 t3_0 t4_0 t5_0 t6_0 t7_0 t8_0) ∧ Q_NM_divide (F_NM_divide x2 x3 x4 x5 x6 t0_0 t0_1 t0_2 t1_0 t1_1 t1_2 t1_3 t1_4 t1_5 t1_6 t1_7 t1_8 t1_9 t1_10 t2_0 t3_0 t4_0 t5_0 t6_0 t7_0 t8_0) := by
  have e0 : (0 : Int32).toInt = 0 := rfl
  have e1 : (1 : Int32).toInt = 1 := rfl
  have eL0 : (0 : Int64).toInt = 0 := rfl
  have em : (-1 : Int32).toInt = -1 := rfl
  unfold S_NM_divide F_NM_divide
  have h1 := T_DR_divide (x2 := x2) (x3 := x3) (x4 := x4) (x5 := x5) (x6 := x6) (t0_0 := t1_0) (t0_1 := t1_1) (t0_2 := t1_2) (t0_3 := t1_3) (t0_4 := t1_4) (t0_5 := t1_5) (t0_6 := t1_6) (t0_7 := t1_7) (t0_8 := t1_8) (t0_9 := t1_9) (t0_10 := t1_10) (t1_0 := t2_0) (t2_0 := t3_0) (t3_0 := t4_0) (t4_0 := t5_0) (t5_0 := t6_0) (t6_0 := t7_0) (t7_0 := t8_0) (by with_reducible assumption)
  with_reducible refine v_owe h1.1 ?_
  replace h1 := h1.2
  generalize F_DR_divide x2 x3 x4 x5 x6 t1_0 t1_1 t1_2 t1_3 t1_4 t1_5 t1_6 t1_7 t1_8 t1_9 t1_10 t2_0 t3_0 t4_0 t5_0 t6_0 t7_0 t8_0 = p85 at *
  unfold Q_DR_divide at h1
  unfold S_NM_divide_c11 F_NM_divide_c11
  refine ⟨trivial, ?_⟩
  exact nm_divideA (by with_reducible assumption)
def Q_NM_quotient (p : Int32 × Int32 × Int32 × Int32 × Int64 × Int32 × Int32 × Int32 × Int32 × Int32 × Int32 × Int32 × (Nat → Int32) × (Nat → Int32) × (Nat → Int32) × (Nat → Int32) × (Nat → Int32) × (Nat → Int32) × (Nat → Int32)) : Prop := gR p.2.2.2.2.2.2.2.2.2.2.2.2.1 p.2.2.2.2.2.2.2.2.2.2.2.2.2.1 p.2.2.2.2.2.2.2.2.2.2.2.2.2.2.1 p.2.2.2.2.2.2.2.2.2.2.2.2.2.2.2.1
theorem nm_quotientA {c0 : Int32} {c1 : Int32} {c2 : Int32} {c3 : Int32} {c4 : Int64} {c5 : Int32} {c6 : Int32} {c7 : Int32} {c8 : Int32} {c9 : Int32} {c10 : Int32} {c11 : Int32} {c12 : (Nat → Int32)} {c13 : (Nat → Int32)} {c14 : (Nat → Int32)} {c15 : (Nat → Int32)} {c16 : (Nat → Int32)} {c17 : (Nat → Int32)} {c18 : (Nat → Int32)} (h0 : gR c12 c13 c14 c15) : Q_NM_quotient (c0, c1, c2, c3, c4, c5, c6, c7, c8, c9, c10, c11, c12, c13, c14, c15, c16, c17, c18) := h0
theorem T_NM_quotient {x2 : Int32} {x3 : Int32} {x4 : Int32} {x5 : Int32} {x6 : Int32} {t0_0 : Int32} {t0_1 : Int32} {t0_2 : Int32} {t1_0 : Int32} {t1_1 : Int32} {t1_2 : Int32} {t1_3 : Int64} {t1_4 : Int32} {t1_5 : Int32} {t1_6 : Int32} {t1_7 : Int32} {t1_8 : Int32} {t1_9 : Int32} {t1_10 : Int32} {t2_0 : (Nat → Int32)} {t3_0 : (Nat → Int32)} {t4_0 : (Nat → Int32)} {t5_0 : (Nat → Int32)} {t6_0 : (Nat → Int32)} {t7_0 : (Nat → Int32)} {t8_0 : (Nat → Int32)} (hD : gR t2_0 t3_0 t4_0 t5_0)  : (S_NM_quotient x2 x3 x4 x5 x6 t0_0 t0_1 t0_2 t1_0 t1_1 t1_2 t1_3 t1_4 t1_5 t1_6 t1_7 t1_8 t1_9 t1_10 t2_0 t3_0 t4_0 t5_0 t6_0 t7_0 t8_0) ∧ Q_NM_quotient (F_NM_quotient x2 x3 x4 x5 x6 t0_0 t0_1 t0_2 t1_0 t1_1 t1_2 t1_3 t1_4 t1_5 t1_6 t1_7 t1_8 t1_9 t1_10 t2_0 t3_0 t4_0 t5_0 t6_0 t7_0 t8_0) := by
  have e0 : (0 : Int32).toInt = 0 := rfl
  have e1 : (1 : Int32).toInt = 1 := rfl
  have eL0 : (0 : Int64).toInt = 0 := rfl
  have em : (-1 : Int32).toInt = -1 := rfl
  unfold S_NM_quotient F_NM_quotient
  have h1 := T_DR_quotient (x2 := x2) (x3 := x3) (x4 := x4) (x5 := x5) (x6 := x6) (t0_0 := t1_0) (t0_1 := t1_1) (t0_2 := t1_2) (t0_3 := t1_3) (t0_4 := t1_4) (t0_5 := t1_5) (t0_6 := t1_6) (t0_7 := t1_7) (t0_8 := t1_8) (t0_9 := t1_9) (t0_10 := t1_10) (t1_0 := t2_0) (t2_0 := t3_0) (t3_0 := t4_0) (t4_0 := t5_0) (t5_0 := t6_0) (t6_0 := t7_0) (t7_0 := t8_0) (by with_reducible assumption)
  with_reducible refine v_owe h1.1 ?_
  replace h1 := h1.2
  generalize F_DR_quotient x2 x3 x4 x5 x6 t1_0 t1_1 t1_2 t1_3 t1_4 t1_5 t1_6 t1_7 t1_8 t1_9 t1_10 t2_0 t3_0 t4_0 t5_0 t6_0 t7_0 t8_0 = p86 at *
  unfold Q_DR_quotient at h1
  unfold S_NM_quotient_c11 F_NM_quotient_c11
  refine ⟨trivial, ?_⟩
  exact nm_quotientA (by with_reducible assumption)
def Q_NM_shape (p : Int32 × Int32 × Int32 × Int32 × Int64 × Int32 × Int32 × Int32 × Int32 × Int32 × Int32 × Int32 × (Nat → Int32) × (Nat → Int32) × (Nat → Int32) × (Nat → Int32) × (Nat → Int32) × (Nat → Int32) × (Nat → Int32) × (Nat → Int32)) : Prop := gR p.2.2.2.2.2.2.2.2.2.2.2.2.1 p.2.2.2.2.2.2.2.2.2.2.2.2.2.1 p.2.2.2.2.2.2.2.2.2.2.2.2.2.2.1 p.2.2.2.2.2.2.2.2.2.2.2.2.2.2.2.1
theorem nm_shapeA {c0 : Int32} {c1 : Int32} {c2 : Int32} {c3 : Int32} {c4 : Int64} {c5 : Int32} {c6 : Int32} {c7 : Int32} {c8 : Int32} {c9 : Int32} {c10 : Int32} {c11 : Int32} {c12 : (Nat → Int32)} {c13 : (Nat → Int32)} {c14 : (Nat → Int32)} {c15 : (Nat → Int32)} {c16 : (Nat → Int32)} {c17 : (Nat → Int32)} {c18 : (Nat → Int32)} {c19 : (Nat → Int32)} (h0 : gR c12 c13 c14 c15) : Q_NM_shape (c0, c1, c2, c3, c4, c5, c6, c7, c8, c9, c10, c11, c12, c13, c14, c15, c16, c17, c18, c19) := h0
theorem T_NM_shape {x2 : Int32} {x3 : Int32} {x4 : Int32} {x5 : Int32} {x6 : Int32} {t0_0 : Int32} {t0_1 : Int32} {t0_2 : Int32} {t1_0 : Int32} {t1_1 : Int32} {t1_2 : Int32} {t1_3 : Int64} {t1_4 : Int32} {t1_5 : Int32} {t1_6 : Int32} {t1_7 : Int32} {t1_8 : Int32} {t1_9 : Int32} {t1_10 : Int32} {t2_0 : (Nat → Int32)} {t3_0 : (Nat → Int32)} {t4_0 : (Nat → Int32)} {t5_0 : (Nat → Int32)} {t6_0 : (Nat → Int32)} {t7_0 : (Nat → Int32)} {t8_0 : (Nat → Int32)} {t9_0 : (Nat → Int32)} (hD : gR t2_0 t3_0 t4_0 t5_0) (hT : (0 ≤ t1_1.toInt ∧ t1_1.toInt ≤ 4100) ∧ (0 ≤ t1_4.toInt ∧ t1_4.toInt ≤ 1) ∧ (0 ≤ t1_5.toInt ∧ t1_5.toInt ≤ 1) ∧ (0 ≤ t1_9.toInt ∧ t1_9.toInt ≤ 12200))  : (S_NM_shape x2 x3 x4 x5 x6 t0_0 t0_1 t0_2 t1_0 t1_1 t1_2 t1_3 t1_4 t1_5 t1_6 t1_7 t1_8 t1_9 t1_10 t2_0 t3_0 t4_0 t5_0 t6_0 t7_0 t8_0 t9_0) ∧ Q_NM_shape (F_NM_shape x2 x3 x4 x5 x6 t0_0 t0_1 t0_2 t1_0 t1_1 t1_2 t1_3 t1_4 t1_5 t1_6 t1_7 t1_8 t1_9 t1_10 t2_0 t3_0 t4_0 t5_0 t6_0 t7_0 t8_0 t9_0) := by
  have e0 : (0 : Int32).toInt = 0 := rfl
  have e1 : (1 : Int32).toInt = 1 := rfl
  have eL0 : (0 : Int64).toInt = 0 := rfl
  have em : (-1 : Int32).toInt = -1 := rfl
  unfold S_NM_shape F_NM_shape
  by_cases g1 : x2 < (0 : Int32)
  ·
    rw [if_pos g1, if_pos g1]
    unfold S_NM_shape_J10 F_NM_shape_J10
    unfold S_NM_shape_J15 F_NM_shape_J15
    have g2 : ¬ ((1 : Int32) ≤ (0 : Int32)) := (by decide)
    rw [if_neg g2, if_neg g2]
    refine ⟨trivial, ?_⟩
    exact nm_shapeA (by with_reducible assumption)
  ·
    rw [if_neg g1, if_neg g1]
    by_cases g3 : x2 ≤ (2 : Int32)
    ·
      rw [if_pos g3, if_pos g3]
      unfold S_NM_shape_J15 F_NM_shape_J15
      have g4 : ((0 : Int32) ≤ (0 : Int32)) := (by decide)
      rw [if_pos g4, if_pos g4]
      by_cases g5 : x2 = (0 : Int32)
      ·
        rw [if_pos g5, if_pos g5]
        have h6 := T_DR_toScale (x2 := x3) (x3 := x4) (x4 := x5) (x5 := x6) (t0_0 := t1_0) (t0_1 := t1_1) (t0_2 := t1_2) (t0_3 := t1_3) (t0_4 := t1_4) (t0_5 := t1_5) (t0_6 := t1_6) (t0_7 := t1_7) (t0_8 := t1_8) (t0_9 := t1_9) (t0_10 := t1_10) (t1_0 := t2_0) (t2_0 := t3_0) (t3_0 := t4_0) (t4_0 := t5_0) (t5_0 := t6_0) (by with_reducible assumption)
        with_reducible refine v_owe h6.1 ?_
        replace h6 := h6.2
        generalize F_DR_toScale x3 x4 x5 x6 t1_0 t1_1 t1_2 t1_3 t1_4 t1_5 t1_6 t1_7 t1_8 t1_9 t1_10 t2_0 t3_0 t4_0 t5_0 t6_0 = p252 at *
        unfold Q_DR_toScale at h6
        unfold S_NM_shape_c40 F_NM_shape_c40
        refine ⟨trivial, ?_⟩
        exact nm_shapeA (by with_reducible assumption)
      ·
        rw [if_neg g5, if_neg g5]
        by_cases g7 : x2 = (1 : Int32)
        ·
          rw [if_pos g7, if_pos g7]
          have h8 := T_DR_round (x2 := x3) (x3 := x4) (x4 := x5) (x5 := x6) (t0_0 := t1_0) (t0_1 := t1_1) (t0_2 := t1_2) (t0_3 := t1_3) (t0_4 := t1_4) (t0_5 := t1_5) (t0_6 := t1_6) (t0_7 := t1_7) (t0_8 := t1_8) (t0_9 := t1_9) (t0_10 := t1_10) (t1_0 := t2_0) (t2_0 := t3_0) (t3_0 := t4_0) (t4_0 := t5_0) (t5_0 := t6_0) (by with_reducible assumption)
          with_reducible refine v_owe h8.1 ?_
          replace h8 := h8.2
          generalize F_DR_round x3 x4 x5 x6 t1_0 t1_1 t1_2 t1_3 t1_4 t1_5 t1_6 t1_7 t1_8 t1_9 t1_10 t2_0 t3_0 t4_0 t5_0 t6_0 = p185 at *
          unfold Q_DR_round at h8
          unfold S_NM_shape_c61 F_NM_shape_c61
          refine ⟨trivial, ?_⟩
          exact nm_shapeA (by with_reducible assumption)
        ·
          rw [if_neg g7, if_neg g7]
          have h9 := T_DR_root (x2 := x3) (x3 := x4) (x4 := x5) (x5 := x6) (t0_0 := t1_0) (t0_1 := t1_1) (t0_2 := t1_2) (t0_3 := t1_3) (t0_4 := t1_4) (t0_5 := t1_5) (t0_6 := t1_6) (t0_7 := t1_7) (t0_8 := t1_8) (t0_9 := t1_9) (t0_10 := t1_10) (t1_0 := t2_0) (t2_0 := t3_0) (t3_0 := t4_0) (t4_0 := t5_0) (t5_0 := t6_0) (t6_0 := t7_0) (t7_0 := t8_0) (t8_0 := t9_0) (by with_reducible assumption) hT
          with_reducible refine v_owe h9.1 ?_
          replace h9 := h9.2
          generalize F_DR_root x3 x4 x5 x6 t1_0 t1_1 t1_2 t1_3 t1_4 t1_5 t1_6 t1_7 t1_8 t1_9 t1_10 t2_0 t3_0 t4_0 t5_0 t6_0 t7_0 t8_0 t9_0 = p115 at *
          unfold Q_DR_root at h9
          unfold S_NM_shape_c77 F_NM_shape_c77
          refine ⟨trivial, ?_⟩
          exact nm_shapeA (by with_reducible assumption)
    ·
      rw [if_neg g3, if_neg g3]
      unfold S_NM_shape_J10 F_NM_shape_J10
      unfold S_NM_shape_J15 F_NM_shape_J15
      have g10 : ¬ ((1 : Int32) ≤ (0 : Int32)) := (by decide)
      rw [if_neg g10, if_neg g10]
      refine ⟨trivial, ?_⟩
      exact nm_shapeA (by with_reducible assumption)
