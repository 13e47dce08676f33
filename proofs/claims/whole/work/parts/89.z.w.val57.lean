/-! what the calls that tell owe: told, compare, print, figures, feed -/
theorem v_addp1 {R N K x t0 : Int32} {t1 : Nat → Int64} (h : -1 ≤ t0.toInt) (h2 : t0.toInt ≤ 2000000) : (F_She_add_p R N K x t0 t1).1.toInt = t0.toInt + 1 := by
  have e : (t0 + 1 : Int32).toInt = t0.toInt + 1 := q_addI (y := 1) rfl (by decide) (by omega) (by omega)
  unfold F_She_add_p
  split
  · exact e
  · exact e
theorem T_tellDecimal {R : Int32} {x3 : Int32} {t0_0 : Int32} {t0_1 : Int32} {t1_0 : (Nat → Int32)} {t2_0 : Int32} {t2_1 : Int32} {t3_0 : (Nat → Int32)} {t4_0 : Int32} {t4_1 : Int32} {t5_0 : Int32} {t5_1 : Int32} {t6_0 : (Nat → Int32)}  : (S_NH_tellDecimal R x3 t0_0 t0_1 t1_0 t2_0 t2_1 t3_0 t4_0 t4_1 t5_0 t5_1 t6_0) := by
  have e0 : (0 : Int32).toInt = 0 := rfl
  have e1 : (1 : Int32).toInt = 1 := rfl
  unfold S_NH_tellDecimal
  by_cases g1 : x3 = (0 : Int32)
  ·
    rw [if_pos g1]
    have g1i : x3.toInt = 0 := q_eqI g1
    exact trivial
  ·
    rw [if_neg g1]
    have g1i : x3.toInt ≠ 0 := q_neI g1
    by_cases g2 : x3 = (1 : Int32)
    ·
      rw [if_pos g2]
      have g2i : x3.toInt = 1 := q_eqI g2
      exact trivial
    ·
      rw [if_neg g2]
      have g2i : x3.toInt ≠ 1 := q_neI g2
      by_cases g3 : x3 = (2 : Int32)
      ·
        rw [if_pos g3]
        have g3i : x3.toInt = 2 := q_eqI g3
        exact trivial
      ·
        rw [if_neg g3]
        have g3i : x3.toInt ≠ 2 := q_neI g3
        generalize F_Big_copy (220 : Int32) R t0_0 t0_1 t1_0 t5_0 t5_1 t6_0 = p52
        unfold S_NH_tellDecimal_c46
        have h4 := T_fillB (R := (220 : Int32)) (x3 := (0 : Int32)) (t0_0 := t2_0) (t0_1 := t2_1) (t1_0 := t3_0) (t2_0 := (p52.1 : Int32)) (t2_1 := (p52.2.1 : Int32)) (t3_0 := (p52.2.2 : (Nat → Int32))) (by decide)
        refine v_oweS h4.1 ?_
        replace h4 := h4.2
        generalize F_Dig_fill (220 : Int32) (0 : Int32) t2_0 t2_1 t3_0 (p52.1 : Int32) (p52.2.1 : Int32) (p52.2.2 : (Nat → Int32)) = p86 at h4 ⊢
        unfold S_NH_tellDecimal_c61
        exact trivial
theorem T_told {x2 : Int32} {x3 : Int32} {x4 : Int32} {t0_0 : Int32} {t0_1 : Int32} {t1_0 : (Nat → Int32)} {t2_0 : Int32} {t2_1 : Int32} {t3_0 : (Nat → Int32)} {t4_0 : (Nat → Int64)} {t5_0 : (Nat → Int64)} {t6_0 : Int32} {t6_1 : Int32} {t7_0 : (Nat → Int32)} {t8_0 : Int32} {t8_1 : Int32} {t9_0 : (Nat → Int32)} {t10_0 : Int32} {t10_1 : Int32} {t11_0 : (Nat → Int32)} {t12_0 : Int32} {t12_1 : Int32} {t13_0 : (Nat → Int32)} {t14_0 : Int64} {t14_1 : Int32} {t14_2 : Int32} {t15_0 : Int64} {t15_1 : Int32} {t15_2 : Int32} {t16_0 : Int32} {t16_1 : Int32} {t17_0 : (Nat → Int32)} {t18_0 : Int32} {t18_1 : Int32} {t19_0 : Int32} {t19_1 : Int32} {t20_0 : (Nat → Int32)}  : (S_NH_told x2 x3 x4 t0_0 t0_1 t1_0 t2_0 t2_1 t3_0 t4_0 t5_0 t6_0 t6_1 t7_0 t8_0 t8_1 t9_0 t10_0 t10_1 t11_0 t12_0 t12_1 t13_0 t14_0 t14_1 t14_2 t15_0 t15_1 t15_2 t16_0 t16_1 t17_0 t18_0 t18_1 t19_0 t19_1 t20_0) := by
  have e0 : (0 : Int32).toInt = 0 := rfl
  have e1 : (1 : Int32).toInt = 1 := rfl
  unfold S_NH_told
  by_cases g1 : (F_NH_needRegister x2 x3) = (0 : Int32)
  ·
    rw [if_pos g1]
    have g1r := v_needReg g1
    by_cases g2 : x4 < (0 : Int32)
    ·
      rw [if_pos g2]
      have g2i : x4.toInt < 0 := q_ltI g2
      unfold S_NH_told_J14
      have g3 : ¬ ((F_NH_need (0 : Int32)) = (0 : Int32)) := (by decide)
      rw [if_neg g3]
      exact trivial
    ·
      rw [if_neg g2]
      have g2i : 0 ≤ x4.toInt := q_nltI g2
      unfold S_NH_told_J14
      have g4 : ((F_NH_need (1 : Int32)) = (0 : Int32)) := (by decide)
      rw [if_pos g4]
      by_cases g5 : x2 = (0 : Int32)
      ·
        rw [if_pos g5]
        have g5i : x2.toInt = 0 := q_eqI g5
        by_cases g6 : (4 : Int32) < x4
        ·
          rw [if_pos g6]
          have g6i : 4 < x4.toInt := q_ltI g6
          have g7 : ¬ ((F_NH_need (0 : Int32)) = (0 : Int32)) := (by decide)
          rw [if_neg g7]
          exact trivial
        ·
          rw [if_neg g6]
          have g6i : x4.toInt ≤ 4 := q_nltI g6
          have g8 : ((F_NH_need (1 : Int32)) = (0 : Int32)) := (by decide)
          rw [if_pos g8]
          refine And.intro (by omega) ?_
          refine And.intro (by omega) ?_
          exact trivial
      ·
        rw [if_neg g5]
        have g5i : x2.toInt ≠ 0 := q_neI g5
        by_cases g9 : x2 = (1 : Int32)
        ·
          rw [if_pos g9]
          have g9i : x2.toInt = 1 := q_eqI g9
          by_cases g10 : x4 ≤ (2 : Int32)
          ·
            rw [if_pos g10]
            have g10i : x4.toInt ≤ 2 := q_leI g10
            have g11 : ((F_NH_need (1 : Int32)) = (0 : Int32)) := (by decide)
            rw [if_pos g11]
            refine And.intro (by omega) ?_
            refine And.intro (by omega) ?_
            have h12 := T_tellDecimal (R := (108 : Int32)) (x3 := x4) (t0_0 := t0_0) (t0_1 := t0_1) (t1_0 := t1_0) (t2_0 := t2_0) (t2_1 := t2_1) (t3_0 := t3_0) (t4_0 := t18_0) (t4_1 := t18_1) (t5_0 := t19_0) (t5_1 := t19_1) (t6_0 := t20_0) 
            refine v_oweS h12 ?_
            generalize F_NH_tellDecimal (108 : Int32) x4 t0_0 t0_1 t1_0 t2_0 t2_1 t3_0 t18_0 t18_1 t19_0 t19_1 t20_0 = p662
            unfold S_NH_told_c87
            exact trivial
          ·
            rw [if_neg g10]
            have g10i : 2 < x4.toInt := q_nleI g10
            refine And.intro (by omega) ?_
            refine And.intro (by omega) ?_
            by_cases g13 : t18_1 ≤ (x4 - 3 : Int32)
            ·
              rw [if_pos g13]
              have g14 : ¬ ((F_NH_need (0 : Int32)) = (0 : Int32)) := (by decide)
              rw [if_neg g14]
              exact trivial
            ·
              rw [if_neg g13]
              have g15 : ((F_NH_need (1 : Int32)) = (0 : Int32)) := (by decide)
              rw [if_pos g15]
              have h16 := T_tellDecimal (R := (108 : Int32)) (x3 := x4) (t0_0 := t0_0) (t0_1 := t0_1) (t1_0 := t1_0) (t2_0 := t2_0) (t2_1 := t2_1) (t3_0 := t3_0) (t4_0 := t18_0) (t4_1 := t18_1) (t5_0 := t19_0) (t5_1 := t19_1) (t6_0 := t20_0) 
              refine v_oweS h16 ?_
              generalize F_NH_tellDecimal (108 : Int32) x4 t0_0 t0_1 t1_0 t2_0 t2_1 t3_0 t18_0 t18_1 t19_0 t19_1 t20_0 = p779
              unfold S_NH_told_c87_9
              exact trivial
        ·
          rw [if_neg g9]
          have g9i : x2.toInt ≠ 1 := q_neI g9
          by_cases g17 : (2 : Int32) < x4
          ·
            rw [if_pos g17]
            have g17i : 2 < x4.toInt := q_ltI g17
            unfold S_NH_told_J101
            have g18 : ¬ ((F_NH_need (0 : Int32)) = (0 : Int32)) := (by decide)
            rw [if_neg g18]
            exact trivial
          ·
            rw [if_neg g17]
            have g17i : x4.toInt ≤ 2 := q_nltI g17
            unfold S_NH_told_J101
            have g19 : ((F_NH_need (1 : Int32)) = (0 : Int32)) := (by decide)
            rw [if_pos g19]
            by_cases g20 : x2 = (2 : Int32)
            ·
              rw [if_pos g20]
              have g20i : x2.toInt = 2 := q_eqI g20
              refine And.intro (by omega) ?_
              refine And.intro (by omega) ?_
              by_cases g21 : x4 = (0 : Int32)
              ·
                rw [if_pos g21]
                have g21i : x4.toInt = 0 := q_eqI g21
                exact trivial
              ·
                rw [if_neg g21]
                have g21i : x4.toInt ≠ 0 := q_neI g21
                rw [if_pos g20]
                by_cases g22 : (F_NH_canHave ((F_Flo_isFinite (52 : Int32) (1075 : Int32) (2047 : Int32) (t4_0 x3.toNatClampNeg : Int64)) : Int32)) = (0 : Int32)
                ·
                  rw [if_pos g22]
                  generalize F_Flo_findShortest (52 : Int32) (1075 : Int32) (2047 : Int32) (t4_0 x3.toNatClampNeg : Int64) t14_0 t14_1 t14_2 t0_0 t0_1 t1_0 t6_0 t6_1 t7_0 t8_0 t8_1 t9_0 t10_0 t10_1 t11_0 t12_0 t12_1 t13_0 = p263
                  unfold S_NH_told_c141
                  by_cases g23 : x4 = (1 : Int32)
                  ·
                    rw [if_pos g23]
                    have g23i : x4.toInt = 1 := q_eqI g23
                    exact trivial
                  ·
                    rw [if_neg g23]
                    have g23i : x4.toInt ≠ 1 := q_neI g23
                    exact trivial
                ·
                  rw [if_neg g22]
                  exact trivial
            ·
              rw [if_neg g20]
              have g20i : x2.toInt ≠ 2 := q_neI g20
              refine And.intro (by omega) ?_
              refine And.intro (by omega) ?_
              by_cases g24 : x4 = (0 : Int32)
              ·
                rw [if_pos g24]
                have g24i : x4.toInt = 0 := q_eqI g24
                exact trivial
              ·
                rw [if_neg g24]
                have g24i : x4.toInt ≠ 0 := q_neI g24
                rw [if_neg g20]
                by_cases g25 : (F_NH_canHave ((F_Flo_isFinite (23 : Int32) (150 : Int32) (255 : Int32) (t5_0 x3.toNatClampNeg : Int64)) : Int32)) = (0 : Int32)
                ·
                  rw [if_pos g25]
                  generalize F_Flo_findShortest (23 : Int32) (150 : Int32) (255 : Int32) (t5_0 x3.toNatClampNeg : Int64) t15_0 t15_1 t15_2 t0_0 t0_1 t1_0 t6_0 t6_1 t7_0 t8_0 t8_1 t9_0 t10_0 t10_1 t11_0 t12_0 t12_1 t13_0 = p583
                  unfold S_NH_told_c141_6
                  by_cases g26 : x4 = (1 : Int32)
                  ·
                    rw [if_pos g26]
                    have g26i : x4.toInt = 1 := q_eqI g26
                    exact trivial
                  ·
                    rw [if_neg g26]
                    have g26i : x4.toInt ≠ 1 := q_neI g26
                    exact trivial
                ·
                  rw [if_neg g25]
                  exact trivial
  ·
    rw [if_neg g1]
    exact trivial
theorem T_compare {x2 : Int32} {x3 : Int32} {x4 : Int32} {t0_0 : Int32} {t0_1 : Int32} {t1_0 : (Nat → Int32)} {t2_0 : Int32} {t2_1 : Int32} {t3_0 : (Nat → Int32)} {t4_0 : (Nat → Int64)} {t5_0 : (Nat → Int64)} {t6_0 : Int32} {t6_1 : Int32} {t7_0 : (Nat → Int32)} {t8_0 : Int32} {t8_1 : Int32} {t9_0 : Int32} {t9_1 : Int32} {t10_0 : (Nat → Int32)} {t11_0 : Int32} {t11_1 : Int32} {t12_0 : (Nat → Int32)} {t13_0 : Int32} {t13_1 : Int32} {t14_0 : Int32} {t14_1 : Int32} {t15_0 : (Nat → Int32)}  : (S_NH_compare x2 x3 x4 t0_0 t0_1 t1_0 t2_0 t2_1 t3_0 t4_0 t5_0 t6_0 t6_1 t7_0 t8_0 t8_1 t9_0 t9_1 t10_0 t11_0 t11_1 t12_0 t13_0 t13_1 t14_0 t14_1 t15_0) := by
  have e0 : (0 : Int32).toInt = 0 := rfl
  have e1 : (1 : Int32).toInt = 1 := rfl
  unfold S_NH_compare
  by_cases g1 : (F_NH_needRegister x2 x3) = (0 : Int32)
  ·
    rw [if_pos g1]
    have g1r := v_needReg g1
    by_cases g2 : (F_NH_needRegister x2 x4) = (0 : Int32)
    ·
      rw [if_pos g2]
      have g2r := v_needReg g2
      by_cases g3 : x2 = (0 : Int32)
      ·
        rw [if_pos g3]
        have g3i : x2.toInt = 0 := q_eqI g3
        refine And.intro (by omega) ?_
        refine And.intro (by omega) ?_
        refine And.intro (by omega) ?_
        refine And.intro (by omega) ?_
        exact trivial
      ·
        rw [if_neg g3]
        have g3i : x2.toInt ≠ 0 := q_neI g3
        by_cases g4 : x2 = (1 : Int32)
        ·
          rw [if_pos g4]
          have g4i : x2.toInt = 1 := q_eqI g4
          refine And.intro (by omega) ?_
          refine And.intro (by omega) ?_
          refine And.intro (by omega) ?_
          refine And.intro (by omega) ?_
          generalize F_DW_order (108 : Int32) (108 : Int32) t0_0 t0_1 t1_0 t2_0 t2_1 t3_0 t8_0 t8_1 t9_0 t9_1 t10_0 t13_0 t13_1 t14_0 t14_1 t15_0 = p1054
          unfold S_NH_compare_c51
          exact trivial
        ·
          rw [if_neg g4]
          have g4i : x2.toInt ≠ 1 := q_neI g4
          by_cases g5 : x2 = (2 : Int32)
          ·
            rw [if_pos g5]
            have g5i : x2.toInt = 2 := q_eqI g5
            rw [if_pos g5]
            refine And.intro (by omega) ?_
            refine And.intro (by omega) ?_
            rw [if_pos g5]
            refine And.intro (by omega) ?_
            refine And.intro (by omega) ?_
            by_cases g6 : ((F_Flo_isNoNumber (52 : Int32) (1075 : Int32) (2047 : Int32) (t4_0 x3.toNatClampNeg : Int64)) : Int32) = (0 : Int32)
            ·
              rw [if_pos g6]
              by_cases g7 : ((F_Flo_isNoNumber (52 : Int32) (1075 : Int32) (2047 : Int32) (t4_0 x4.toNatClampNeg : Int64)) : Int32) = (0 : Int32)
              ·
                rw [if_pos g7]
                have g8 : ((F_NH_canHave (1 : Int32)) = (0 : Int32)) := (by decide)
                rw [if_pos g8]
                exact trivial
              ·
                rw [if_neg g7]
                have g9 : ¬ ((F_NH_canHave (0 : Int32)) = (0 : Int32)) := (by decide)
                rw [if_neg g9]
                exact trivial
            ·
              rw [if_neg g6]
              have g10 : ¬ ((F_NH_canHave (0 : Int32)) = (0 : Int32)) := (by decide)
              rw [if_neg g10]
              exact trivial
          ·
            rw [if_neg g5]
            have g5i : x2.toInt ≠ 2 := q_neI g5
            rw [if_neg g5]
            refine And.intro (by omega) ?_
            refine And.intro (by omega) ?_
            rw [if_neg g5]
            refine And.intro (by omega) ?_
            refine And.intro (by omega) ?_
            by_cases g11 : ((F_Flo_isNoNumber (23 : Int32) (150 : Int32) (255 : Int32) (t5_0 x3.toNatClampNeg : Int64)) : Int32) = (0 : Int32)
            ·
              rw [if_pos g11]
              by_cases g12 : ((F_Flo_isNoNumber (23 : Int32) (150 : Int32) (255 : Int32) (t5_0 x4.toNatClampNeg : Int64)) : Int32) = (0 : Int32)
              ·
                rw [if_pos g12]
                have g13 : ((F_NH_canHave (1 : Int32)) = (0 : Int32)) := (by decide)
                rw [if_pos g13]
                exact trivial
              ·
                rw [if_neg g12]
                have g14 : ¬ ((F_NH_canHave (0 : Int32)) = (0 : Int32)) := (by decide)
                rw [if_neg g14]
                exact trivial
            ·
              rw [if_neg g11]
              have g15 : ¬ ((F_NH_canHave (0 : Int32)) = (0 : Int32)) := (by decide)
              rw [if_neg g15]
              exact trivial
    ·
      rw [if_neg g2]
      exact trivial
  ·
    rw [if_neg g1]
    exact trivial
theorem T_print {x2 : Int32} {x3 : Int32} {x4 : Int32} {t0_0 : Int32} {t1_0 : (Nat → Int64)} {t2_0 : Int32} {t2_1 : Int32} {t3_0 : (Nat → Int32)} {t4_0 : Int32} {t4_1 : Int32} {t5_0 : (Nat → Int32)} {t6_0 : (Nat → Int64)} {t7_0 : (Nat → Int64)} {t8_0 : Int32} {t8_1 : Int32} {t9_0 : (Nat → Int32)} {t10_0 : Int32} {t10_1 : Int32} {t11_0 : (Nat → Int32)} {t12_0 : Int32} {t12_1 : Int32} {t13_0 : (Nat → Int32)} {t14_0 : Int32} {t14_1 : Int32} {t15_0 : (Nat → Int32)} {t16_0 : Int64} {t16_1 : Int32} {t16_2 : Int32} {t17_0 : Int64} {t17_1 : Int32} {t17_2 : Int32} {t18_0 : Int32} {t18_1 : Int32} {t19_0 : (Nat → Int32)} {t20_0 : Int32} {t20_1 : Int32} {t21_0 : Int32} {t21_1 : Int32} {t22_0 : (Nat → Int32)} {vw vd : Int} (hw : bO 68 t18_0 t18_1 t19_0 vw) (hd : dO 108 t21_0 t21_1 t22_0 t20_0 t20_1 vd) : (S_NH_print x2 x3 x4 t0_0 t1_0 t2_0 t2_1 t3_0 t4_0 t4_1 t5_0 t6_0 t7_0 t8_0 t8_1 t9_0 t10_0 t10_1 t11_0 t12_0 t12_1 t13_0 t14_0 t14_1 t15_0 t16_0 t16_1 t16_2 t17_0 t17_1 t17_2 t18_0 t18_1 t19_0 t20_0 t20_1 t21_0 t21_1 t22_0) := by
  have e0 : (0 : Int32).toInt = 0 := rfl
  have e1 : (1 : Int32).toInt = 1 := rfl
  have hs := hd.2.2
  obtain ⟨hc, hc1, hc2, hc3⟩ := hd.2.1
  have hc4 := hc2.1
  unfold S_NH_print
  by_cases g1 : (F_NH_needRegister x2 x3) = (0 : Int32)
  ·
    rw [if_pos g1]
    have g1r := v_needReg g1
    by_cases g2 : x2 = (0 : Int32)
    ·
      rw [if_pos g2]
      have g2i : x2.toInt = 0 := q_eqI g2
      by_cases g3 : x4 < (2 : Int32)
      ·
        rw [if_pos g3]
        have g3i : x4.toInt < 2 := q_ltI g3
        unfold S_NH_print_J24
        unfold S_NH_print_J25
        have g4 : ¬ ((F_NH_need (0 : Int32)) = (0 : Int32)) := (by decide)
        rw [if_neg g4]
        exact trivial
      ·
        rw [if_neg g3]
        have g3i : 2 ≤ x4.toInt := q_nltI g3
        by_cases g5 : (36 : Int32) < x4
        ·
          rw [if_pos g5]
          have g5i : 36 < x4.toInt := q_ltI g5
          unfold S_NH_print_J24
          unfold S_NH_print_J25
          have g6 : ¬ ((F_NH_need (0 : Int32)) = (0 : Int32)) := (by decide)
          rw [if_neg g6]
          exact trivial
        ·
          rw [if_neg g5]
          have g5i : x4.toInt ≤ 36 := q_nltI g5
          unfold S_NH_print_J25
          have g7 : ((F_NH_need (1 : Int32)) = (0 : Int32)) := (by decide)
          rw [if_pos g7]
          refine And.intro (by omega) ?_
          refine And.intro (by omega) ?_
          have h8 := S_wholeText2 (R := (68 : Int32)) (x3 := x4) (t0_0 := t0_0) (t1_0 := t1_0) (t2_0 := t2_0) (t2_1 := t2_1) (t3_0 := t3_0) (t4_0 := t18_0) (t4_1 := t18_1) (t5_0 := t19_0) hw.J (by omega) (by omega)
          refine v_oweS h8 ?_
          generalize F_Wri_wholeText (68 : Int32) x4 t0_0 t1_0 t2_0 t2_1 t3_0 t18_0 t18_1 t19_0 = p1317
          unfold S_NH_print_c39
          exact trivial
    ·
      rw [if_neg g2]
      have g2i : x2.toInt ≠ 0 := q_neI g2
      by_cases g9 : x2 = (1 : Int32)
      ·
        rw [if_pos g9]
        have g9i : x2.toInt = 1 := q_eqI g9
        by_cases g10 : x4 < (0 : Int32)
        ·
          rw [if_pos g10]
          have g10i : x4.toInt < 0 := q_ltI g10
          unfold S_NH_print_J63
          unfold S_NH_print_J64
          have g11 : ¬ ((F_NH_need (0 : Int32)) = (0 : Int32)) := (by decide)
          rw [if_neg g11]
          exact trivial
        ·
          rw [if_neg g10]
          have g10i : 0 ≤ x4.toInt := q_nltI g10
          by_cases g12 : (2 : Int32) < x4
          ·
            rw [if_pos g12]
            have g12i : 2 < x4.toInt := q_ltI g12
            unfold S_NH_print_J63
            unfold S_NH_print_J64
            have g13 : ¬ ((F_NH_need (0 : Int32)) = (0 : Int32)) := (by decide)
            rw [if_neg g13]
            exact trivial
          ·
            rw [if_neg g12]
            have g12i : x4.toInt ≤ 2 := q_nltI g12
            unfold S_NH_print_J64
            have g14 : ((F_NH_need (1 : Int32)) = (0 : Int32)) := (by decide)
            rw [if_pos g14]
            refine And.intro (by omega) ?_
            refine And.intro (by omega) ?_
            have h15 := T_decimalText2 (R := (108 : Int32)) (x3 := x4) (t0_0 := t0_0) (t1_0 := t1_0) (t2_0 := t4_0) (t2_1 := t4_1) (t3_0 := t5_0) (t4_0 := t2_0) (t4_1 := t2_1) (t5_0 := t3_0) (t6_0 := t20_0) (t6_1 := t20_1) (t7_0 := t21_0) (t7_1 := t21_1) (t8_0 := t22_0) hs ⟨by omega, by omega⟩
            refine v_oweS h15 ?_
            generalize F_Wri_decimalText (108 : Int32) x4 t0_0 t1_0 t4_0 t4_1 t5_0 t2_0 t2_1 t3_0 t20_0 t20_1 t21_0 t21_1 t22_0 = p1199
            unfold S_NH_print_c78
            exact trivial
      ·
        rw [if_neg g9]
        have g9i : x2.toInt ≠ 1 := q_neI g9
        by_cases g16 : x4 < (0 : Int32)
        ·
          rw [if_pos g16]
          have g16i : x4.toInt < 0 := q_ltI g16
          unfold S_NH_print_J97
          unfold S_NH_print_J98
          have g17 : ¬ ((F_NH_need (0 : Int32)) = (0 : Int32)) := (by decide)
          rw [if_neg g17]
          exact trivial
        ·
          rw [if_neg g16]
          have g16i : 0 ≤ x4.toInt := q_nltI g16
          by_cases g18 : (1 : Int32) < x4
          ·
            rw [if_pos g18]
            have g18i : 1 < x4.toInt := q_ltI g18
            unfold S_NH_print_J97
            unfold S_NH_print_J98
            have g19 : ¬ ((F_NH_need (0 : Int32)) = (0 : Int32)) := (by decide)
            rw [if_neg g19]
            exact trivial
          ·
            rw [if_neg g18]
            have g18i : x4.toInt ≤ 1 := q_nltI g18
            unfold S_NH_print_J98
            have g20 : ((F_NH_need (1 : Int32)) = (0 : Int32)) := (by decide)
            rw [if_pos g20]
            by_cases g21 : x2 = (2 : Int32)
            ·
              rw [if_pos g21]
              have g21i : x2.toInt = 2 := q_eqI g21
              rw [if_pos g21]
              refine And.intro (by omega) ?_
              refine And.intro (by omega) ?_
              by_cases g22 : x4 = (1 : Int32)
              ·
                rw [if_pos g22]
                have g22i : x4.toInt = 1 := q_eqI g22
                have h23 := T_floatText2 (A := (52 : Int32)) (B := (1075 : Int32)) (C := (2047 : Int32)) (x3 := (t6_0 x3.toNatClampNeg : Int64)) (x4 := (1 : Int32)) (t0_0 := t0_0) (t1_0 := t1_0) (t2_0 := t4_0) (t2_1 := t4_1) (t3_0 := t5_0) (t4_0 := t2_0) (t4_1 := t2_1) (t5_0 := t3_0) (t6_0 := t8_0) (t6_1 := t8_1) (t7_0 := t9_0) (t8_0 := t10_0) (t8_1 := t10_1) (t9_0 := t11_0) (t10_0 := t12_0) (t10_1 := t12_1) (t11_0 := t13_0) (t12_0 := t14_0) (t12_1 := t14_1) (t13_0 := t15_0) (t14_0 := t16_0) (t14_1 := t16_1) (t14_2 := t16_2) (by decide) (by decide) (by decide)
                refine v_oweS h23 ?_
                generalize F_Wri_floatText (52 : Int32) (1075 : Int32) (2047 : Int32) (t6_0 x3.toNatClampNeg : Int64) (1 : Int32) t0_0 t1_0 t4_0 t4_1 t5_0 t2_0 t2_1 t3_0 t8_0 t8_1 t9_0 t10_0 t10_1 t11_0 t12_0 t12_1 t13_0 t14_0 t14_1 t15_0 t16_0 t16_1 t16_2 = p355
                unfold S_NH_print_c127_3
                exact trivial
              ·
                rw [if_neg g22]
                have g22i : x4.toInt ≠ 1 := q_neI g22
                have h24 := T_floatText2 (A := (52 : Int32)) (B := (1075 : Int32)) (C := (2047 : Int32)) (x3 := (t6_0 x3.toNatClampNeg : Int64)) (x4 := (0 : Int32)) (t0_0 := t0_0) (t1_0 := t1_0) (t2_0 := t4_0) (t2_1 := t4_1) (t3_0 := t5_0) (t4_0 := t2_0) (t4_1 := t2_1) (t5_0 := t3_0) (t6_0 := t8_0) (t6_1 := t8_1) (t7_0 := t9_0) (t8_0 := t10_0) (t8_1 := t10_1) (t9_0 := t11_0) (t10_0 := t12_0) (t10_1 := t12_1) (t11_0 := t13_0) (t12_0 := t14_0) (t12_1 := t14_1) (t13_0 := t15_0) (t14_0 := t16_0) (t14_1 := t16_1) (t14_2 := t16_2) (by decide) (by decide) (by decide)
                refine v_oweS h24 ?_
                generalize F_Wri_floatText (52 : Int32) (1075 : Int32) (2047 : Int32) (t6_0 x3.toNatClampNeg : Int64) (0 : Int32) t0_0 t1_0 t4_0 t4_1 t5_0 t2_0 t2_1 t3_0 t8_0 t8_1 t9_0 t10_0 t10_1 t11_0 t12_0 t12_1 t13_0 t14_0 t14_1 t15_0 t16_0 t16_1 t16_2 = p243
                unfold S_NH_print_c127
                exact trivial
            ·
              rw [if_neg g21]
              have g21i : x2.toInt ≠ 2 := q_neI g21
              rw [if_neg g21]
              refine And.intro (by omega) ?_
              refine And.intro (by omega) ?_
              by_cases g25 : x4 = (1 : Int32)
              ·
                rw [if_pos g25]
                have g25i : x4.toInt = 1 := q_eqI g25
                have h26 := T_floatText2 (A := (23 : Int32)) (B := (150 : Int32)) (C := (255 : Int32)) (x3 := (t7_0 x3.toNatClampNeg : Int64)) (x4 := (1 : Int32)) (t0_0 := t0_0) (t1_0 := t1_0) (t2_0 := t4_0) (t2_1 := t4_1) (t3_0 := t5_0) (t4_0 := t2_0) (t4_1 := t2_1) (t5_0 := t3_0) (t6_0 := t8_0) (t6_1 := t8_1) (t7_0 := t9_0) (t8_0 := t10_0) (t8_1 := t10_1) (t9_0 := t11_0) (t10_0 := t12_0) (t10_1 := t12_1) (t11_0 := t13_0) (t12_0 := t14_0) (t12_1 := t14_1) (t13_0 := t15_0) (t14_0 := t17_0) (t14_1 := t17_1) (t14_2 := t17_2) (by decide) (by decide) (by decide)
                refine v_oweS h26 ?_
                generalize F_Wri_floatText (23 : Int32) (150 : Int32) (255 : Int32) (t7_0 x3.toNatClampNeg : Int64) (1 : Int32) t0_0 t1_0 t4_0 t4_1 t5_0 t2_0 t2_1 t3_0 t8_0 t8_1 t9_0 t10_0 t10_1 t11_0 t12_0 t12_1 t13_0 t14_0 t14_1 t15_0 t17_0 t17_1 t17_2 = p1055
                unfold S_NH_print_c127_9
                exact trivial
              ·
                rw [if_neg g25]
                have g25i : x4.toInt ≠ 1 := q_neI g25
                have h27 := T_floatText2 (A := (23 : Int32)) (B := (150 : Int32)) (C := (255 : Int32)) (x3 := (t7_0 x3.toNatClampNeg : Int64)) (x4 := (0 : Int32)) (t0_0 := t0_0) (t1_0 := t1_0) (t2_0 := t4_0) (t2_1 := t4_1) (t3_0 := t5_0) (t4_0 := t2_0) (t4_1 := t2_1) (t5_0 := t3_0) (t6_0 := t8_0) (t6_1 := t8_1) (t7_0 := t9_0) (t8_0 := t10_0) (t8_1 := t10_1) (t9_0 := t11_0) (t10_0 := t12_0) (t10_1 := t12_1) (t11_0 := t13_0) (t12_0 := t14_0) (t12_1 := t14_1) (t13_0 := t15_0) (t14_0 := t17_0) (t14_1 := t17_1) (t14_2 := t17_2) (by decide) (by decide) (by decide)
                refine v_oweS h27 ?_
                generalize F_Wri_floatText (23 : Int32) (150 : Int32) (255 : Int32) (t7_0 x3.toNatClampNeg : Int64) (0 : Int32) t0_0 t1_0 t4_0 t4_1 t5_0 t2_0 t2_1 t3_0 t8_0 t8_1 t9_0 t10_0 t10_1 t11_0 t12_0 t12_1 t13_0 t14_0 t14_1 t15_0 t17_0 t17_1 t17_2 = p943
                unfold S_NH_print_c127_8
                exact trivial
  ·
    rw [if_neg g1]
    exact trivial
theorem T_figures {x2 : Int32} {x3 : Int32} {x4 : Int32} {x5 : Int32} {x6 : Int32} {t0_0 : Int32} {t1_0 : (Nat → Int64)} {t2_0 : Int32} {t2_1 : Int32} {t3_0 : (Nat → Int32)} {t4_0 : Int32} {t4_1 : Int32} {t5_0 : (Nat → Int32)} {t6_0 : (Nat → Int64)} {t7_0 : (Nat → Int64)} {t8_0 : Int64} {t8_1 : Int32} {t8_2 : Int32} {t9_0 : Int64} {t9_1 : Int32} {t9_2 : Int32}  : (S_NH_figures x2 x3 x4 x5 x6 t0_0 t1_0 t2_0 t2_1 t3_0 t4_0 t4_1 t5_0 t6_0 t7_0 t8_0 t8_1 t8_2 t9_0 t9_1 t9_2) := by
  have e0 : (0 : Int32).toInt = 0 := rfl
  have e1 : (1 : Int32).toInt = 1 := rfl
  unfold S_NH_figures
  by_cases g1 : x2 = (2 : Int32)
  ·
    rw [if_pos g1]
    have g1i : x2.toInt = 2 := q_eqI g1
    unfold S_NH_figures_J10
    by_cases g2 : ((F_NH_isRegister x3) : Int32) = (0 : Int32)
    ·
      rw [if_pos g2]
      unfold S_NH_figures_J32
      unfold S_NH_figures_J33
      have g3 : ¬ ((F_NH_need (0 : Int32)) = (0 : Int32)) := (by decide)
      rw [if_neg g3]
      exact trivial
    ·
      rw [if_neg g2]
      have g2r := v_isReg g2
      by_cases g4 : x6 < (0 : Int32)
      ·
        rw [if_pos g4]
        have g4i : x6.toInt < 0 := q_ltI g4
        unfold S_NH_figures_J32
        unfold S_NH_figures_J33
        have g5 : ¬ ((F_NH_need (0 : Int32)) = (0 : Int32)) := (by decide)
        rw [if_neg g5]
        exact trivial
      ·
        rw [if_neg g4]
        have g4i : 0 ≤ x6.toInt := q_nltI g4
        by_cases g6 : (3 : Int32) < x6
        ·
          rw [if_pos g6]
          have g6i : 3 < x6.toInt := q_ltI g6
          unfold S_NH_figures_J32
          unfold S_NH_figures_J33
          have g7 : ¬ ((F_NH_need (0 : Int32)) = (0 : Int32)) := (by decide)
          rw [if_neg g7]
          exact trivial
        ·
          rw [if_neg g6]
          have g6i : x6.toInt ≤ 3 := q_nltI g6
          unfold S_NH_figures_J33
          have g8 : ((F_NH_need (1 : Int32)) = (0 : Int32)) := (by decide)
          rw [if_pos g8]
          by_cases g9 : x4 = (0 : Int32)
          ·
            rw [if_pos g9]
            have g9i : x4.toInt = 0 := q_eqI g9
            by_cases g10 : x5 < (0 : Int32)
            ·
              rw [if_pos g10]
              have g10i : x5.toInt < 0 := q_ltI g10
              unfold S_NH_figures_J79
              unfold S_NH_figures_J80
              have g11 : ¬ ((F_NH_need (0 : Int32)) = (0 : Int32)) := (by decide)
              rw [if_neg g11]
              exact trivial
            ·
              rw [if_neg g10]
              have g10i : 0 ≤ x5.toInt := q_nltI g10
              by_cases g12 : (1100 : Int32) < x5
              ·
                rw [if_pos g12]
                have g12i : 1100 < x5.toInt := q_ltI g12
                unfold S_NH_figures_J79
                unfold S_NH_figures_J80
                have g13 : ¬ ((F_NH_need (0 : Int32)) = (0 : Int32)) := (by decide)
                rw [if_neg g13]
                exact trivial
              ·
                rw [if_neg g12]
                have g12i : x5.toInt ≤ 1100 := q_nltI g12
                unfold S_NH_figures_J80
                have g14 : ((F_NH_need (1 : Int32)) = (0 : Int32)) := (by decide)
                rw [if_pos g14]
                rw [if_pos g1]
                rw [if_pos g1]
                refine And.intro (by omega) ?_
                refine And.intro (by omega) ?_
                by_cases g15 : (F_NH_canHave ((F_Flo_isFinite (52 : Int32) (1075 : Int32) (2047 : Int32) (t6_0 x3.toNatClampNeg : Int64)) : Int32)) = (0 : Int32)
                ·
                  rw [if_pos g15]
                  refine And.intro (by omega) ?_
                  refine And.intro (by omega) ?_
                  have h16 := T_exactText (A := (52 : Int32)) (B := (1075 : Int32)) (C := (2047 : Int32)) (x3 := (t6_0 x3.toNatClampNeg : Int64)) (x4 := x4) (x5 := x5) (x6 := x6) (t0_0 := t0_0) (t1_0 := t1_0) (t2_0 := t4_0) (t2_1 := t4_1) (t3_0 := t5_0) (t4_0 := t2_0) (t4_1 := t2_1) (t5_0 := t3_0) (t6_0 := t8_0) (t6_1 := t8_1) (t6_2 := t8_2) (by decide) (by decide) (by decide) ⟨by omega, by omega⟩
                  refine v_oweS h16 ?_
                  generalize F_Wri_exactText (52 : Int32) (1075 : Int32) (2047 : Int32) (t6_0 x3.toNatClampNeg : Int64) x4 x5 x6 t0_0 t1_0 t4_0 t4_1 t5_0 t2_0 t2_1 t3_0 t8_0 t8_1 t8_2 = p160
                  unfold S_NH_figures_c122
                  exact trivial
                ·
                  rw [if_neg g15]
                  exact trivial
          ·
            rw [if_neg g9]
            have g9i : x4.toInt ≠ 0 := q_neI g9
            by_cases g17 : x5 < (1 : Int32)
            ·
              rw [if_pos g17]
              have g17i : x5.toInt < 1 := q_ltI g17
              unfold S_NH_figures_J58
              unfold S_NH_figures_J80
              have g18 : ¬ ((F_NH_need (0 : Int32)) = (0 : Int32)) := (by decide)
              rw [if_neg g18]
              exact trivial
            ·
              rw [if_neg g17]
              have g17i : 1 ≤ x5.toInt := q_nltI g17
              by_cases g19 : (800 : Int32) < x5
              ·
                rw [if_pos g19]
                have g19i : 800 < x5.toInt := q_ltI g19
                unfold S_NH_figures_J58
                unfold S_NH_figures_J80
                have g20 : ¬ ((F_NH_need (0 : Int32)) = (0 : Int32)) := (by decide)
                rw [if_neg g20]
                exact trivial
              ·
                rw [if_neg g19]
                have g19i : x5.toInt ≤ 800 := q_nltI g19
                unfold S_NH_figures_J80
                have g21 : ((F_NH_need (1 : Int32)) = (0 : Int32)) := (by decide)
                rw [if_pos g21]
                rw [if_pos g1]
                rw [if_pos g1]
                refine And.intro (by omega) ?_
                refine And.intro (by omega) ?_
                by_cases g22 : (F_NH_canHave ((F_Flo_isFinite (52 : Int32) (1075 : Int32) (2047 : Int32) (t6_0 x3.toNatClampNeg : Int64)) : Int32)) = (0 : Int32)
                ·
                  rw [if_pos g22]
                  refine And.intro (by omega) ?_
                  refine And.intro (by omega) ?_
                  have h23 := T_exactText (A := (52 : Int32)) (B := (1075 : Int32)) (C := (2047 : Int32)) (x3 := (t6_0 x3.toNatClampNeg : Int64)) (x4 := x4) (x5 := x5) (x6 := x6) (t0_0 := t0_0) (t1_0 := t1_0) (t2_0 := t4_0) (t2_1 := t4_1) (t3_0 := t5_0) (t4_0 := t2_0) (t4_1 := t2_1) (t5_0 := t3_0) (t6_0 := t8_0) (t6_1 := t8_1) (t6_2 := t8_2) (by decide) (by decide) (by decide) ⟨by omega, by omega⟩
                  refine v_oweS h23 ?_
                  generalize F_Wri_exactText (52 : Int32) (1075 : Int32) (2047 : Int32) (t6_0 x3.toNatClampNeg : Int64) x4 x5 x6 t0_0 t1_0 t4_0 t4_1 t5_0 t2_0 t2_1 t3_0 t8_0 t8_1 t8_2 = p160
                  unfold S_NH_figures_c122
                  exact trivial
                ·
                  rw [if_neg g22]
                  exact trivial
  ·
    rw [if_neg g1]
    have g1i : x2.toInt ≠ 2 := q_neI g1
    by_cases g24 : x2 = (3 : Int32)
    ·
      rw [if_pos g24]
      have g24i : x2.toInt = 3 := q_eqI g24
      unfold S_NH_figures_J10
      by_cases g25 : ((F_NH_isRegister x3) : Int32) = (0 : Int32)
      ·
        rw [if_pos g25]
        unfold S_NH_figures_J32
        unfold S_NH_figures_J33
        have g26 : ¬ ((F_NH_need (0 : Int32)) = (0 : Int32)) := (by decide)
        rw [if_neg g26]
        exact trivial
      ·
        rw [if_neg g25]
        have g25r := v_isReg g25
        by_cases g27 : x6 < (0 : Int32)
        ·
          rw [if_pos g27]
          have g27i : x6.toInt < 0 := q_ltI g27
          unfold S_NH_figures_J32
          unfold S_NH_figures_J33
          have g28 : ¬ ((F_NH_need (0 : Int32)) = (0 : Int32)) := (by decide)
          rw [if_neg g28]
          exact trivial
        ·
          rw [if_neg g27]
          have g27i : 0 ≤ x6.toInt := q_nltI g27
          by_cases g29 : (3 : Int32) < x6
          ·
            rw [if_pos g29]
            have g29i : 3 < x6.toInt := q_ltI g29
            unfold S_NH_figures_J32
            unfold S_NH_figures_J33
            have g30 : ¬ ((F_NH_need (0 : Int32)) = (0 : Int32)) := (by decide)
            rw [if_neg g30]
            exact trivial
          ·
            rw [if_neg g29]
            have g29i : x6.toInt ≤ 3 := q_nltI g29
            unfold S_NH_figures_J33
            have g31 : ((F_NH_need (1 : Int32)) = (0 : Int32)) := (by decide)
            rw [if_pos g31]
            by_cases g32 : x4 = (0 : Int32)
            ·
              rw [if_pos g32]
              have g32i : x4.toInt = 0 := q_eqI g32
              by_cases g33 : x5 < (0 : Int32)
              ·
                rw [if_pos g33]
                have g33i : x5.toInt < 0 := q_ltI g33
                unfold S_NH_figures_J79
                unfold S_NH_figures_J80
                have g34 : ¬ ((F_NH_need (0 : Int32)) = (0 : Int32)) := (by decide)
                rw [if_neg g34]
                exact trivial
              ·
                rw [if_neg g33]
                have g33i : 0 ≤ x5.toInt := q_nltI g33
                by_cases g35 : (1100 : Int32) < x5
                ·
                  rw [if_pos g35]
                  have g35i : 1100 < x5.toInt := q_ltI g35
                  unfold S_NH_figures_J79
                  unfold S_NH_figures_J80
                  have g36 : ¬ ((F_NH_need (0 : Int32)) = (0 : Int32)) := (by decide)
                  rw [if_neg g36]
                  exact trivial
                ·
                  rw [if_neg g35]
                  have g35i : x5.toInt ≤ 1100 := q_nltI g35
                  unfold S_NH_figures_J80
                  have g37 : ((F_NH_need (1 : Int32)) = (0 : Int32)) := (by decide)
                  rw [if_pos g37]
                  rw [if_neg g1]
                  rw [if_neg g1]
                  refine And.intro (by omega) ?_
                  refine And.intro (by omega) ?_
                  by_cases g38 : (F_NH_canHave ((F_Flo_isFinite (23 : Int32) (150 : Int32) (255 : Int32) (t7_0 x3.toNatClampNeg : Int64)) : Int32)) = (0 : Int32)
                  ·
                    rw [if_pos g38]
                    refine And.intro (by omega) ?_
                    refine And.intro (by omega) ?_
                    have h39 := T_exactText (A := (23 : Int32)) (B := (150 : Int32)) (C := (255 : Int32)) (x3 := (t7_0 x3.toNatClampNeg : Int64)) (x4 := x4) (x5 := x5) (x6 := x6) (t0_0 := t0_0) (t1_0 := t1_0) (t2_0 := t4_0) (t2_1 := t4_1) (t3_0 := t5_0) (t4_0 := t2_0) (t4_1 := t2_1) (t5_0 := t3_0) (t6_0 := t9_0) (t6_1 := t9_1) (t6_2 := t9_2) (by decide) (by decide) (by decide) ⟨by omega, by omega⟩
                    refine v_oweS h39 ?_
                    generalize F_Wri_exactText (23 : Int32) (150 : Int32) (255 : Int32) (t7_0 x3.toNatClampNeg : Int64) x4 x5 x6 t0_0 t1_0 t4_0 t4_1 t5_0 t2_0 t2_1 t3_0 t9_0 t9_1 t9_2 = p383
                    unfold S_NH_figures_c122_6
                    exact trivial
                  ·
                    rw [if_neg g38]
                    exact trivial
            ·
              rw [if_neg g32]
              have g32i : x4.toInt ≠ 0 := q_neI g32
              by_cases g40 : x5 < (1 : Int32)
              ·
                rw [if_pos g40]
                have g40i : x5.toInt < 1 := q_ltI g40
                unfold S_NH_figures_J58
                unfold S_NH_figures_J80
                have g41 : ¬ ((F_NH_need (0 : Int32)) = (0 : Int32)) := (by decide)
                rw [if_neg g41]
                exact trivial
              ·
                rw [if_neg g40]
                have g40i : 1 ≤ x5.toInt := q_nltI g40
                by_cases g42 : (800 : Int32) < x5
                ·
                  rw [if_pos g42]
                  have g42i : 800 < x5.toInt := q_ltI g42
                  unfold S_NH_figures_J58
                  unfold S_NH_figures_J80
                  have g43 : ¬ ((F_NH_need (0 : Int32)) = (0 : Int32)) := (by decide)
                  rw [if_neg g43]
                  exact trivial
                ·
                  rw [if_neg g42]
                  have g42i : x5.toInt ≤ 800 := q_nltI g42
                  unfold S_NH_figures_J80
                  have g44 : ((F_NH_need (1 : Int32)) = (0 : Int32)) := (by decide)
                  rw [if_pos g44]
                  rw [if_neg g1]
                  rw [if_neg g1]
                  refine And.intro (by omega) ?_
                  refine And.intro (by omega) ?_
                  by_cases g45 : (F_NH_canHave ((F_Flo_isFinite (23 : Int32) (150 : Int32) (255 : Int32) (t7_0 x3.toNatClampNeg : Int64)) : Int32)) = (0 : Int32)
                  ·
                    rw [if_pos g45]
                    refine And.intro (by omega) ?_
                    refine And.intro (by omega) ?_
                    have h46 := T_exactText (A := (23 : Int32)) (B := (150 : Int32)) (C := (255 : Int32)) (x3 := (t7_0 x3.toNatClampNeg : Int64)) (x4 := x4) (x5 := x5) (x6 := x6) (t0_0 := t0_0) (t1_0 := t1_0) (t2_0 := t4_0) (t2_1 := t4_1) (t3_0 := t5_0) (t4_0 := t2_0) (t4_1 := t2_1) (t5_0 := t3_0) (t6_0 := t9_0) (t6_1 := t9_1) (t6_2 := t9_2) (by decide) (by decide) (by decide) ⟨by omega, by omega⟩
                    refine v_oweS h46 ?_
                    generalize F_Wri_exactText (23 : Int32) (150 : Int32) (255 : Int32) (t7_0 x3.toNatClampNeg : Int64) x4 x5 x6 t0_0 t1_0 t4_0 t4_1 t5_0 t2_0 t2_1 t3_0 t9_0 t9_1 t9_2 = p383
                    unfold S_NH_figures_c122_6
                    exact trivial
                  ·
                    rw [if_neg g45]
                    exact trivial
    ·
      rw [if_neg g24]
      have g24i : x2.toInt ≠ 3 := q_neI g24
      unfold S_NH_figures_J32
      unfold S_NH_figures_J33
      have g47 : ¬ ((F_NH_need (0 : Int32)) = (0 : Int32)) := (by decide)
      rw [if_neg g47]
      exact trivial
theorem v_feL {x2 : Int32} {x3 : Int64} {t0_0 : Int32} {t1_0 : (Nat → Int64)} {lx6 : Int32} (ht : 0 ≤ t0_0.toInt) (ht2 : t0_0.toInt + x2.toInt ≤ 4100) (hx : x2.toInt ≤ 8) : ∀ (n : Nat) (lx32 : Int32) (lx33 : Int32) (lx34 : (Nat → Int64)), (0 ≤ lx32.toInt ∧ lx32.toInt ≤ x2.toInt) → (x2.toInt - lx32.toInt < (n : Int)) → (lx33.toInt = t0_0.toInt + lx32.toInt) → (S_NH_feed_L39 x2 x3 t0_0 t1_0 lx6 n lx32 lx33 lx34) := by
  intro n
  induction n with
  | zero => intro lx32 lx33 lx34 h0 hm hc; exact absurd (show False by omega) id
  | succ n ih =>
    intro lx32 lx33 lx34 h0 hm hc
    have e0 : (0 : Int32).toInt = 0 := rfl
    have e1 : (1 : Int32).toInt = 1 := rfl
    rw [S_NH_feed_L39.eq_2]
    by_cases g1 : x2 ≤ lx32
    ·
      rw [if_pos g1]
      have g1i : x2.toInt ≤ lx32.toInt := q_leI g1
      exact trivial
    ·
      rw [if_neg g1]
      have g1i : lx32.toInt < x2.toInt := q_nleI g1
      refine And.intro (by omega) ?_
      have h2 := v_addp1  (R := (4100 : Int32)) (N := (513 : Int32)) (K := (4100 : Int32)) (x := ((((x3.toUInt64 >>> ((8 * lx32 : Int32).toInt64.toUInt64 &&& Int64.toUInt64 63)).toInt64 : Int64).toInt32 : Int32) &&& 255 : Int32)) (t0 := lx33) (t1 := lx34) (by omega) (by omega)
      generalize F_She_add_p (4100 : Int32) (513 : Int32) (4100 : Int32) ((((x3.toUInt64 >>> ((8 * lx32 : Int32).toInt64.toUInt64 &&& Int64.toUInt64 63)).toInt64 : Int64).toInt32 : Int32) &&& 255 : Int32) lx33 lx34 = p74 at h2 ⊢
      unfold S_NH_feed_c61
      obtain ⟨a3, e4⟩ := q_nm (lx32 + 1 : Int32)
      rw [e4]
      have a3i : a3.toInt = lx32.toInt + 1 := by rw [← e4]; exact q_addI (x := lx32.toInt) (y := 1) rfl (by decide) (by omega) (by omega)
      exact ih _ _ _ (by first | assumption | omega | trivial | decide) (by first | assumption | omega | trivial | decide) (by first | assumption | omega | trivial | decide)
theorem T_feed {x2 : Int32} {x3 : Int64} {t0_0 : Int32} {t1_0 : (Nat → Int64)} (ht : 0 ≤ t0_0.toInt ∧ t0_0.toInt ≤ 4100) : (S_NH_feed x2 x3 t0_0 t1_0) := by
  have e0 : (0 : Int32).toInt = 0 := rfl
  have e1 : (1 : Int32).toInt = 1 := rfl
  unfold S_NH_feed
  by_cases g1 : x2 < (1 : Int32)
  ·
    rw [if_pos g1]
    have g1i : x2.toInt < 1 := q_ltI g1
    unfold S_NH_feed_J15
    unfold S_NH_feed_J16
    have g2 : ¬ ((F_NH_need (0 : Int32)) = (0 : Int32)) := (by decide)
    rw [if_neg g2]
    exact trivial
  ·
    rw [if_neg g1]
    have g1i : 1 ≤ x2.toInt := q_nltI g1
    by_cases g3 : (8 : Int32) < x2
    ·
      rw [if_pos g3]
      have g3i : 8 < x2.toInt := q_ltI g3
      unfold S_NH_feed_J15
      unfold S_NH_feed_J16
      have g4 : ¬ ((F_NH_need (0 : Int32)) = (0 : Int32)) := (by decide)
      rw [if_neg g4]
      exact trivial
    ·
      rw [if_neg g3]
      have g3i : x2.toInt ≤ 8 := q_nltI g3
      unfold S_NH_feed_J16
      have g5 : ((F_NH_need (1 : Int32)) = (0 : Int32)) := (by decide)
      rw [if_pos g5]
      by_cases g6 : (t0_0 + x2 : Int32) ≤ (4100 : Int32)
      ·
        rw [if_pos g6]
        have g6i : t0_0.toInt + x2.toInt ≤ 4100 := by have z := q_leI g6; rw [q_addI rfl rfl (by omega) (by omega)] at z; exact z
        exact v_feL (by omega) (by omega) (by omega) _ _ _ _ (by rw [e0]; omega) (by rw [e0]; omega) (by rw [e0]; omega)
      ·
        rw [if_neg g6]
        exact trivial
