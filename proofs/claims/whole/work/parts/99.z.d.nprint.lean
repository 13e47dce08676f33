/-! NumberHouseModel: print, figures, argument, format -/
theorem T_NM_pr67 {x2 : Int32} {x3 : Int32} {x4 : Int32} {t0_0 : Int32} {t0_1 : Int32} {t0_2 : Int32} {t1_0 : Int32} {t1_1 : Int32} {t1_2 : Int32} {t1_3 : Int32} {t1_4 : Int32} {t1_5 : Int32} {t1_6 : Int32} {t2_0 : (Nat → Int32)} {t3_0 : (Nat → Int32)} {t4_0 : (Nat → Int32)} {t5_0 : (Nat → Int32)} {t6_0 : Int32} {t6_1 : Int32} {t6_2 : Int32} {t6_3 : Int64} {t6_4 : Int32} {t6_5 : Int32} {t6_6 : Int32} {t6_7 : Int32} {t6_8 : Int32} {t6_9 : Int32} {t6_10 : Int32} {t7_0 : (Nat → Int32)} {t8_0 : (Nat → Int32)} {t9_0 : (Nat → Int32)} {t10_0 : (Nat → Int32)} {t11_0 : (Nat → Int32)} {t12_0 : Int32} {t12_1 : Int32} {t12_2 : Int32} {t12_3 : Int32} {t12_4 : Int64} {t12_5 : Int32} {t12_6 : Int32} {t12_7 : Int64} {t12_8 : Int32} {t12_9 : Int64} {t12_10 : Int32} {t13_0 : (Nat → Int32)} {t14_0 : (Nat → Int32)} {t15_0 : (Nat → Int32)} {t16_0 : (Nat → Int32)} {t17_0 : (Nat → Int32)} {t18_0 : (Nat → Int32)} {t19_0 : (Nat → Int32)} {t20_0 : (Nat → Int32)} {t21_0 : (Nat → Int64)} {lx109 : Int32} {lx140 : Int32} (hW : wR t2_0 t3_0) (hD : gR t7_0 t8_0 t9_0 t10_0) (hB : nmB t21_0) (hx : lx140.toInt ≤ 0 → 0 ≤ x3.toInt ∧ x3.toInt ≤ 9)  : (S_NM_print_J67 x2 x3 x4 t0_0 t0_1 t0_2 t1_0 t1_1 t1_2 t1_3 t1_4 t1_5 t1_6 t2_0 t3_0 t4_0 t5_0 t6_0 t6_1 t6_2 t6_3 t6_4 t6_5 t6_6 t6_7 t6_8 t6_9 t6_10 t7_0 t8_0 t9_0 t10_0 t11_0 t12_0 t12_1 t12_2 t12_3 t12_4 t12_5 t12_6 t12_7 t12_8 t12_9 t12_10 t13_0 t14_0 t15_0 t16_0 t17_0 t18_0 t19_0 t20_0 t21_0 lx109 lx140) := by
  have e0 : (0 : Int32).toInt = 0 := rfl
  have e1 : (1 : Int32).toInt = 1 := rfl
  have eL0 : (0 : Int64).toInt = 0 := rfl
  have em : (-1 : Int32).toInt = -1 := rfl
  have n1600 : (1600 : Int32).toInt = 1600 := rfl
  have n2100 : (2100 : Int32).toInt = 2100 := rfl
  have n4096 : (4096 : Int32).toInt = 4096 := rfl
  have n12200 : (12200 : Int32).toInt = 12200 := rfl
  have n4100 : (4100 : Int32).toInt = 4100 := rfl
  have n256 : (256 : Int32).toInt = 256 := rfl
  unfold S_NM_print_J67
  by_cases g1 : lx140 ≤ (0 : Int32)
  ·
    rw [if_pos g1]
    have hx3 := hx (q_leI g1)
    by_cases g2 : x2 = (0 : Int32)
    ·
      rw [if_pos g2]
      have h3 := T_WR_written (x2 := x3) (x3 := x4) (t0_0 := t1_0) (t0_1 := t1_1) (t0_2 := t1_2) (t0_3 := t1_3) (t0_4 := t1_4) (t0_5 := t1_5) (t0_6 := t1_6) (t1_0 := t2_0) (t2_0 := t3_0) (t3_0 := t4_0) (t4_0 := t5_0) (by with_reducible assumption)
      with_reducible refine v_oweS h3.1 ?_
      replace h3 := h3.2
      generalize F_WR_written x3 x4 t1_0 t1_1 t1_2 t1_3 t1_4 t1_5 t1_6 t2_0 t3_0 t4_0 t5_0 = p626 at *
      unfold Q_WR_written at h3
      unfold S_NM_print_c97
      have h4 := T_NM_show (N2 := (2100 : Int32)) (x3 := (p626.1 : Int32)) (t0_0 := lx140) (t0_1 := t0_1) (t0_2 := t0_2) (t1_0 := t20_0) (t2_0 := (p626.2.2.2.2.2.2.2.2.2 : (Nat → Int32))) ⟨by omega, by omega⟩ (by omega)
      with_reducible refine v_oweS h4 ?_
      generalize F_NM_show (2100 : Int32) (p626.1 : Int32) lx140 t0_1 t0_2 t20_0 (p626.2.2.2.2.2.2.2.2.2 : (Nat → Int32)) = p660 at *
      unfold S_NM_print_c100
      exact trivial
    ·
      rw [if_neg g2]
      by_cases g5 : x2 = (1 : Int32)
      ·
        rw [if_pos g5]
        have h6 := T_DR_written (x2 := x3) (x3 := x4) (t0_0 := t6_0) (t0_1 := t6_1) (t0_2 := t6_2) (t0_3 := t6_3) (t0_4 := t6_4) (t0_5 := t6_5) (t0_6 := t6_6) (t0_7 := t6_7) (t0_8 := t6_8) (t0_9 := t6_9) (t0_10 := t6_10) (t1_0 := t7_0) (t2_0 := t8_0) (t3_0 := t9_0) (t4_0 := t10_0) (t5_0 := t11_0) (by with_reducible assumption)
        with_reducible refine v_oweS h6.1 ?_
        replace h6 := h6.2
        generalize F_DR_written x3 x4 t6_0 t6_1 t6_2 t6_3 t6_4 t6_5 t6_6 t6_7 t6_8 t6_9 t6_10 t7_0 t8_0 t9_0 t10_0 t11_0 = p544 at *
        unfold Q_DR_written at h6
        unfold S_NM_print_c123
        have h7 := T_NM_show (N2 := (12200 : Int32)) (x3 := (p544.1 : Int32)) (t0_0 := lx140) (t0_1 := t0_1) (t0_2 := t0_2) (t1_0 := t20_0) (t2_0 := (p544.2.2.2.2.2.2.2.2.2.2.2.2 : (Nat → Int32))) ⟨by omega, by omega⟩ (by omega)
        with_reducible refine v_oweS h7 ?_
        generalize F_NM_show (12200 : Int32) (p544.1 : Int32) lx140 t0_1 t0_2 t20_0 (p544.2.2.2.2.2.2.2.2.2.2.2.2 : (Nat → Int32)) = p581 at *
        unfold S_NM_print_c126
        exact trivial
      ·
        rw [if_neg g5]
        have h8 := T_NM_bitsOf (x2 := x2) (x3 := x3) (t0_0 := lx140) (t0_1 := t0_1) (t0_2 := t0_2) (t1_0 := t21_0) (by first | with_reducible exact hx3 | with_reducible exact hx4)
        with_reducible refine v_oweS h8 ?_
        by_cases g9 : x4 = (0 : Int32)
        ·
          rw [if_pos g9]
          by_cases g10 : x2 = (3 : Int32)
          ·
            rw [if_pos g10]
            have h11 := T_FR_print (x2 := ((F_NM_bitsOf x2 x3 lx140 t0_1 t0_2 t21_0) : Int64)) (x3 := (1 : Int32)) (t0_0 := t12_0) (t0_1 := t12_1) (t0_2 := t12_2) (t0_3 := t12_3) (t0_4 := t12_4) (t0_5 := t12_5) (t0_6 := t12_6) (t0_7 := t12_7) (t0_8 := t12_8) (t0_9 := t12_9) (t0_10 := t12_10) (t1_0 := t13_0) (t2_0 := t14_0) (t3_0 := t15_0) (t4_0 := t16_0) (t5_0 := t17_0) (t6_0 := t18_0) (t7_0 := t19_0) 
            with_reducible refine v_oweS h11.1 ?_
            replace h11 := h11.2
            generalize F_FR_print ((F_NM_bitsOf x2 x3 lx140 t0_1 t0_2 t21_0) : Int64) (1 : Int32) t12_0 t12_1 t12_2 t12_3 t12_4 t12_5 t12_6 t12_7 t12_8 t12_9 t12_10 t13_0 t14_0 t15_0 t16_0 t17_0 t18_0 t19_0 = p449 at *
            unfold Q_FR_print at h11
            unfold S_NM_print_c166_9
            have h12 := T_NM_show (N2 := (1600 : Int32)) (x3 := (p449.1 : Int32)) (t0_0 := lx140) (t0_1 := t0_1) (t0_2 := t0_2) (t1_0 := t20_0) (t2_0 := (p449.2.2.2.2.2.2.2.2.2.2.2.2.2.2.2.2.2.2 : (Nat → Int32))) ⟨by omega, by omega⟩ (by omega)
            with_reducible refine v_oweS h12 ?_
            generalize F_NM_show (1600 : Int32) (p449.1 : Int32) lx140 t0_1 t0_2 t20_0 (p449.2.2.2.2.2.2.2.2.2.2.2.2.2.2.2.2.2.2 : (Nat → Int32)) = p492 at *
            unfold S_NM_print_c191_10
            exact trivial
          ·
            rw [if_neg g10]
            have h13 := T_FR_print (x2 := ((F_NM_bitsOf x2 x3 lx140 t0_1 t0_2 t21_0) : Int64)) (x3 := (0 : Int32)) (t0_0 := t12_0) (t0_1 := t12_1) (t0_2 := t12_2) (t0_3 := t12_3) (t0_4 := t12_4) (t0_5 := t12_5) (t0_6 := t12_6) (t0_7 := t12_7) (t0_8 := t12_8) (t0_9 := t12_9) (t0_10 := t12_10) (t1_0 := t13_0) (t2_0 := t14_0) (t3_0 := t15_0) (t4_0 := t16_0) (t5_0 := t17_0) (t6_0 := t18_0) (t7_0 := t19_0) 
            with_reducible refine v_oweS h13.1 ?_
            replace h13 := h13.2
            generalize F_FR_print ((F_NM_bitsOf x2 x3 lx140 t0_1 t0_2 t21_0) : Int64) (0 : Int32) t12_0 t12_1 t12_2 t12_3 t12_4 t12_5 t12_6 t12_7 t12_8 t12_9 t12_10 t13_0 t14_0 t15_0 t16_0 t17_0 t18_0 t19_0 = p362 at *
            unfold Q_FR_print at h13
            unfold S_NM_print_c166
            have h14 := T_NM_show (N2 := (1600 : Int32)) (x3 := (p362.1 : Int32)) (t0_0 := lx140) (t0_1 := t0_1) (t0_2 := t0_2) (t1_0 := t20_0) (t2_0 := (p362.2.2.2.2.2.2.2.2.2.2.2.2.2.2.2.2.2.2 : (Nat → Int32))) ⟨by omega, by omega⟩ (by omega)
            with_reducible refine v_oweS h14 ?_
            generalize F_NM_show (1600 : Int32) (p362.1 : Int32) lx140 t0_1 t0_2 t20_0 (p362.2.2.2.2.2.2.2.2.2.2.2.2.2.2.2.2.2.2 : (Nat → Int32)) = p405 at *
            unfold S_NM_print_c191_8
            exact trivial
        ·
          rw [if_neg g9]
          by_cases g15 : x2 = (3 : Int32)
          ·
            rw [if_pos g15]
            have h16 := T_FR_hexadecimal (x2 := ((F_NM_bitsOf x2 x3 lx140 t0_1 t0_2 t21_0) : Int64)) (x3 := (1 : Int32)) (t0_0 := t12_0) (t0_1 := t12_1) (t0_2 := t12_2) (t0_3 := t12_3) (t0_4 := t12_4) (t0_5 := t12_5) (t0_6 := t12_6) (t0_7 := t12_7) (t0_8 := t12_8) (t0_9 := t12_9) (t0_10 := t12_10) (t1_0 := t19_0) 
            with_reducible refine v_oweS h16.1 ?_
            replace h16 := h16.2
            generalize F_FR_hexadecimal ((F_NM_bitsOf x2 x3 lx140 t0_1 t0_2 t21_0) : Int64) (1 : Int32) t12_0 t12_1 t12_2 t12_3 t12_4 t12_5 t12_6 t12_7 t12_8 t12_9 t12_10 t19_0 = p279 at *
            unfold Q_FR_hexadecimal at h16
            unfold S_NM_print_c188_5
            have h17 := T_NM_show (N2 := (1600 : Int32)) (x3 := (p279.1 : Int32)) (t0_0 := lx140) (t0_1 := t0_1) (t0_2 := t0_2) (t1_0 := t20_0) (t2_0 := (p279.2.2.2.2.2.2.2.2.2.2.2.2 : (Nat → Int32))) ⟨by omega, by omega⟩ (by omega)
            with_reducible refine v_oweS h17 ?_
            generalize F_NM_show (1600 : Int32) (p279.1 : Int32) lx140 t0_1 t0_2 t20_0 (p279.2.2.2.2.2.2.2.2.2.2.2.2 : (Nat → Int32)) = p316 at *
            unfold S_NM_print_c191_6
            exact trivial
          ·
            rw [if_neg g15]
            have h18 := T_FR_hexadecimal (x2 := ((F_NM_bitsOf x2 x3 lx140 t0_1 t0_2 t21_0) : Int64)) (x3 := (0 : Int32)) (t0_0 := t12_0) (t0_1 := t12_1) (t0_2 := t12_2) (t0_3 := t12_3) (t0_4 := t12_4) (t0_5 := t12_5) (t0_6 := t12_6) (t0_7 := t12_7) (t0_8 := t12_8) (t0_9 := t12_9) (t0_10 := t12_10) (t1_0 := t19_0) 
            with_reducible refine v_oweS h18.1 ?_
            replace h18 := h18.2
            generalize F_FR_hexadecimal ((F_NM_bitsOf x2 x3 lx140 t0_1 t0_2 t21_0) : Int64) (0 : Int32) t12_0 t12_1 t12_2 t12_3 t12_4 t12_5 t12_6 t12_7 t12_8 t12_9 t12_10 t19_0 = p210 at *
            unfold Q_FR_hexadecimal at h18
            unfold S_NM_print_c188
            have h19 := T_NM_show (N2 := (1600 : Int32)) (x3 := (p210.1 : Int32)) (t0_0 := lx140) (t0_1 := t0_1) (t0_2 := t0_2) (t1_0 := t20_0) (t2_0 := (p210.2.2.2.2.2.2.2.2.2.2.2.2 : (Nat → Int32))) ⟨by omega, by omega⟩ (by omega)
            with_reducible refine v_oweS h19 ?_
            generalize F_NM_show (1600 : Int32) (p210.1 : Int32) lx140 t0_1 t0_2 t20_0 (p210.2.2.2.2.2.2.2.2.2.2.2.2 : (Nat → Int32)) = p247 at *
            unfold S_NM_print_c191
            exact trivial
  ·
    rw [if_neg g1]
    exact trivial
theorem T_NM_pr39 {x2 : Int32} {x3 : Int32} {x4 : Int32} {t0_0 : Int32} {t0_1 : Int32} {t0_2 : Int32} {t1_0 : Int32} {t1_1 : Int32} {t1_2 : Int32} {t1_3 : Int32} {t1_4 : Int32} {t1_5 : Int32} {t1_6 : Int32} {t2_0 : (Nat → Int32)} {t3_0 : (Nat → Int32)} {t4_0 : (Nat → Int32)} {t5_0 : (Nat → Int32)} {t6_0 : Int32} {t6_1 : Int32} {t6_2 : Int32} {t6_3 : Int64} {t6_4 : Int32} {t6_5 : Int32} {t6_6 : Int32} {t6_7 : Int32} {t6_8 : Int32} {t6_9 : Int32} {t6_10 : Int32} {t7_0 : (Nat → Int32)} {t8_0 : (Nat → Int32)} {t9_0 : (Nat → Int32)} {t10_0 : (Nat → Int32)} {t11_0 : (Nat → Int32)} {t12_0 : Int32} {t12_1 : Int32} {t12_2 : Int32} {t12_3 : Int32} {t12_4 : Int64} {t12_5 : Int32} {t12_6 : Int32} {t12_7 : Int64} {t12_8 : Int32} {t12_9 : Int64} {t12_10 : Int32} {t13_0 : (Nat → Int32)} {t14_0 : (Nat → Int32)} {t15_0 : (Nat → Int32)} {t16_0 : (Nat → Int32)} {t17_0 : (Nat → Int32)} {t18_0 : (Nat → Int32)} {t19_0 : (Nat → Int32)} {t20_0 : (Nat → Int32)} {t21_0 : (Nat → Int64)} {lx109 : Int32} (hW : wR t2_0 t3_0) (hD : gR t7_0 t8_0 t9_0 t10_0) (hB : nmB t21_0) (hx : lx109 = 0 → 0 ≤ x3.toInt ∧ x3.toInt ≤ 9)  : (S_NM_print_J39 x2 x3 x4 t0_0 t0_1 t0_2 t1_0 t1_1 t1_2 t1_3 t1_4 t1_5 t1_6 t2_0 t3_0 t4_0 t5_0 t6_0 t6_1 t6_2 t6_3 t6_4 t6_5 t6_6 t6_7 t6_8 t6_9 t6_10 t7_0 t8_0 t9_0 t10_0 t11_0 t12_0 t12_1 t12_2 t12_3 t12_4 t12_5 t12_6 t12_7 t12_8 t12_9 t12_10 t13_0 t14_0 t15_0 t16_0 t17_0 t18_0 t19_0 t20_0 t21_0 lx109) := by
  have e0 : (0 : Int32).toInt = 0 := rfl
  have e1 : (1 : Int32).toInt = 1 := rfl
  have eL0 : (0 : Int64).toInt = 0 := rfl
  have em : (-1 : Int32).toInt = -1 := rfl
  unfold S_NM_print_J39
  by_cases g1 : lx109 = (0 : Int32)
  ·
    rw [if_pos g1]
    have hno := hx g1
    by_cases g2 : x2 = (0 : Int32)
    ·
      rw [if_pos g2]
      by_cases g3 : x4 < (2 : Int32)
      ·
        rw [if_pos g3]
        unfold S_NM_print_J62
        exact T_NM_pr67 hW hD hB (fun z => absurd z (by decide))
      ·
        rw [if_neg g3]
        by_cases g4 : x4 ≤ (36 : Int32)
        ·
          rw [if_pos g4]
          unfold S_NM_print_J66
          exact T_NM_pr67 hW hD hB (fun _ => hno)
        ·
          rw [if_neg g4]
          unfold S_NM_print_J62
          exact T_NM_pr67 hW hD hB (fun z => absurd z (by decide))
    ·
      rw [if_neg g2]
      unfold S_NM_print_J66
      exact T_NM_pr67 hW hD hB (fun _ => hno)
  ·
    rw [if_neg g1]
    unfold S_NM_print_J62
    exact T_NM_pr67 hW hD hB (fun z => absurd z (by decide))
theorem T_NM_print {x2 : Int32} {x3 : Int32} {x4 : Int32} {t0_0 : Int32} {t0_1 : Int32} {t0_2 : Int32} {t1_0 : Int32} {t1_1 : Int32} {t1_2 : Int32} {t1_3 : Int32} {t1_4 : Int32} {t1_5 : Int32} {t1_6 : Int32} {t2_0 : (Nat → Int32)} {t3_0 : (Nat → Int32)} {t4_0 : (Nat → Int32)} {t5_0 : (Nat → Int32)} {t6_0 : Int32} {t6_1 : Int32} {t6_2 : Int32} {t6_3 : Int64} {t6_4 : Int32} {t6_5 : Int32} {t6_6 : Int32} {t6_7 : Int32} {t6_8 : Int32} {t6_9 : Int32} {t6_10 : Int32} {t7_0 : (Nat → Int32)} {t8_0 : (Nat → Int32)} {t9_0 : (Nat → Int32)} {t10_0 : (Nat → Int32)} {t11_0 : (Nat → Int32)} {t12_0 : Int32} {t12_1 : Int32} {t12_2 : Int32} {t12_3 : Int32} {t12_4 : Int64} {t12_5 : Int32} {t12_6 : Int32} {t12_7 : Int64} {t12_8 : Int32} {t12_9 : Int64} {t12_10 : Int32} {t13_0 : (Nat → Int32)} {t14_0 : (Nat → Int32)} {t15_0 : (Nat → Int32)} {t16_0 : (Nat → Int32)} {t17_0 : (Nat → Int32)} {t18_0 : (Nat → Int32)} {t19_0 : (Nat → Int32)} {t20_0 : (Nat → Int32)} {t21_0 : (Nat → Int64)} (hW : wR t2_0 t3_0) (hD : gR t7_0 t8_0 t9_0 t10_0) (hB : nmB t21_0)  : (S_NM_print x2 x3 x4 t0_0 t0_1 t0_2 t1_0 t1_1 t1_2 t1_3 t1_4 t1_5 t1_6 t2_0 t3_0 t4_0 t5_0 t6_0 t6_1 t6_2 t6_3 t6_4 t6_5 t6_6 t6_7 t6_8 t6_9 t6_10 t7_0 t8_0 t9_0 t10_0 t11_0 t12_0 t12_1 t12_2 t12_3 t12_4 t12_5 t12_6 t12_7 t12_8 t12_9 t12_10 t13_0 t14_0 t15_0 t16_0 t17_0 t18_0 t19_0 t20_0 t21_0) := by
  have e0 : (0 : Int32).toInt = 0 := rfl
  have e1 : (1 : Int32).toInt = 1 := rfl
  have eL0 : (0 : Int64).toInt = 0 := rfl
  have em : (-1 : Int32).toInt = -1 := rfl
  unfold S_NM_print
  by_cases g1 : ((F_NM_no_IIZ x2 x3) : Int32) = (0 : Int32)
  ·
    rw [if_pos g1]
    have hno := (nm_no2 g1).2
    by_cases g2 : x4 < (0 : Int32)
    ·
      rw [if_pos g2]
      unfold S_NM_print_J34
      exact T_NM_pr39 hW hD hB (fun z => absurd z (by decide))
    ·
      rw [if_neg g2]
      by_cases g3 : ((F_NM_isFloat x2) : Int32) = (0 : Int32)
      ·
        rw [if_pos g3]
        unfold S_NM_print_J24
        by_cases g4 : x2 = (1 : Int32)
        ·
          rw [if_pos g4]
          by_cases g5 : x4 ≤ (2 : Int32)
          ·
            rw [if_pos g5]
            unfold S_NM_print_J38
            exact T_NM_pr39 hW hD hB (fun _ => hno)
          ·
            rw [if_neg g5]
            unfold S_NM_print_J34
            exact T_NM_pr39 hW hD hB (fun z => absurd z (by decide))
        ·
          rw [if_neg g4]
          unfold S_NM_print_J38
          exact T_NM_pr39 hW hD hB (fun _ => hno)
      ·
        rw [if_neg g3]
        by_cases g6 : (1 : Int32) < x4
        ·
          rw [if_pos g6]
          unfold S_NM_print_J34
          exact T_NM_pr39 hW hD hB (fun z => absurd z (by decide))
        ·
          rw [if_neg g6]
          unfold S_NM_print_J24
          by_cases g7 : x2 = (1 : Int32)
          ·
            rw [if_pos g7]
            by_cases g8 : x4 ≤ (2 : Int32)
            ·
              rw [if_pos g8]
              unfold S_NM_print_J38
              exact T_NM_pr39 hW hD hB (fun _ => hno)
            ·
              rw [if_neg g8]
              unfold S_NM_print_J34
              exact T_NM_pr39 hW hD hB (fun z => absurd z (by decide))
          ·
            rw [if_neg g7]
            unfold S_NM_print_J38
            exact T_NM_pr39 hW hD hB (fun _ => hno)
  ·
    rw [if_neg g1]
    unfold S_NM_print_J34
    exact T_NM_pr39 hW hD hB (fun z => absurd z (by decide))
theorem T_NM_fg19 {x2 : Int32} {x3 : Int32} {x4 : Int32} {x5 : Int32} {x6 : Int32} {t0_0 : Int32} {t0_1 : Int32} {t0_2 : Int32} {t1_0 : Int32} {t1_1 : Int32} {t1_2 : Int32} {t1_3 : Int32} {t1_4 : Int64} {t1_5 : Int32} {t1_6 : Int32} {t1_7 : Int64} {t1_8 : Int32} {t1_9 : Int64} {t1_10 : Int32} {t2_0 : (Nat → Int32)} {t3_0 : (Nat → Int32)} {t4_0 : (Nat → Int32)} {t5_0 : (Nat → Int32)} {t6_0 : (Nat → Int32)} {t7_0 : (Nat → Int32)} {t8_0 : (Nat → Int64)} {lx40 : Int32} (hB : nmB t8_0) (hx : lx40.toInt ≤ 0 → 0 ≤ x3.toInt ∧ x3.toInt ≤ 9)  : (S_NM_figures_J19 x2 x3 x4 x5 x6 t0_0 t0_1 t0_2 t1_0 t1_1 t1_2 t1_3 t1_4 t1_5 t1_6 t1_7 t1_8 t1_9 t1_10 t2_0 t3_0 t4_0 t5_0 t6_0 t7_0 t8_0 lx40) := by
  have e0 : (0 : Int32).toInt = 0 := rfl
  have e1 : (1 : Int32).toInt = 1 := rfl
  have eL0 : (0 : Int64).toInt = 0 := rfl
  have em : (-1 : Int32).toInt = -1 := rfl
  have n1600 : (1600 : Int32).toInt = 1600 := rfl
  have n2100 : (2100 : Int32).toInt = 2100 := rfl
  have n4096 : (4096 : Int32).toInt = 4096 := rfl
  have n12200 : (12200 : Int32).toInt = 12200 := rfl
  have n4100 : (4100 : Int32).toInt = 4100 := rfl
  have n256 : (256 : Int32).toInt = 256 := rfl
  unfold S_NM_figures_J19
  by_cases g1 : lx40 ≤ (0 : Int32)
  ·
    rw [if_pos g1]
    have hx3 := hx (q_leI g1)
    have h2 := T_NM_bitsOf (x2 := x2) (x3 := x3) (t0_0 := lx40) (t0_1 := t0_1) (t0_2 := t0_2) (t1_0 := t8_0) (by first | with_reducible exact hx3 | with_reducible exact hx4)
    with_reducible refine v_oweS h2 ?_
    by_cases g3 : x4 = (0 : Int32)
    ·
      rw [if_pos g3]
      by_cases g4 : x2 = (3 : Int32)
      ·
        rw [if_pos g4]
        unfold S_NM_figures_J85
        have h5 := T_FR_fixed (x2 := ((F_NM_bitsOf x2 x3 lx40 t0_1 t0_2 t8_0) : Int64)) (x3 := (1 : Int32)) (x4 := x5) (x5 := x6) (t0_0 := t1_0) (t0_1 := t1_1) (t0_2 := t1_2) (t0_3 := t1_3) (t0_4 := t1_4) (t0_5 := t1_5) (t0_6 := t1_6) (t0_7 := t1_7) (t0_8 := t1_8) (t0_9 := t1_9) (t0_10 := t1_10) (t1_0 := t2_0) (t2_0 := t3_0) (t3_0 := t4_0) (t4_0 := t5_0) (t5_0 := t6_0) 
        with_reducible refine v_oweS h5.1 ?_
        replace h5 := h5.2
        generalize F_FR_fixed ((F_NM_bitsOf x2 x3 lx40 t0_1 t0_2 t8_0) : Int64) (1 : Int32) x5 x6 t1_0 t1_1 t1_2 t1_3 t1_4 t1_5 t1_6 t1_7 t1_8 t1_9 t1_10 t2_0 t3_0 t4_0 t5_0 t6_0 = p123 at *
        unfold Q_FR_fixed at h5
        unfold S_NM_figures_c89
        by_cases g6 : (p123.2.1 : Int32) ≤ (0 : Int32)
        ·
          rw [if_pos g6]
          have h7 := T_NM_show (N2 := (1600 : Int32)) (x3 := (p123.1 : Int32)) (t0_0 := (p123.2.1 : Int32)) (t0_1 := t0_1) (t0_2 := t0_2) (t1_0 := t7_0) (t2_0 := (p123.2.2.2.2.2.2.2.2.2.2.2.2.2.2.2.2 : (Nat → Int32))) ⟨by omega, by omega⟩ (by omega)
          with_reducible refine v_oweS h7 ?_
          generalize F_NM_show (1600 : Int32) (p123.1 : Int32) (p123.2.1 : Int32) t0_1 t0_2 t7_0 (p123.2.2.2.2.2.2.2.2.2.2.2.2.2.2.2.2 : (Nat → Int32)) = p168 at *
          unfold S_NM_figures_c126
          exact trivial
        ·
          rw [if_neg g6]
          exact trivial
      ·
        rw [if_neg g4]
        unfold S_NM_figures_J85
        have h8 := T_FR_fixed (x2 := ((F_NM_bitsOf x2 x3 lx40 t0_1 t0_2 t8_0) : Int64)) (x3 := (0 : Int32)) (x4 := x5) (x5 := x6) (t0_0 := t1_0) (t0_1 := t1_1) (t0_2 := t1_2) (t0_3 := t1_3) (t0_4 := t1_4) (t0_5 := t1_5) (t0_6 := t1_6) (t0_7 := t1_7) (t0_8 := t1_8) (t0_9 := t1_9) (t0_10 := t1_10) (t1_0 := t2_0) (t2_0 := t3_0) (t3_0 := t4_0) (t4_0 := t5_0) (t5_0 := t6_0) 
        with_reducible refine v_oweS h8.1 ?_
        replace h8 := h8.2
        generalize F_FR_fixed ((F_NM_bitsOf x2 x3 lx40 t0_1 t0_2 t8_0) : Int64) (0 : Int32) x5 x6 t1_0 t1_1 t1_2 t1_3 t1_4 t1_5 t1_6 t1_7 t1_8 t1_9 t1_10 t2_0 t3_0 t4_0 t5_0 t6_0 = p123 at *
        unfold Q_FR_fixed at h8
        unfold S_NM_figures_c89
        by_cases g9 : (p123.2.1 : Int32) ≤ (0 : Int32)
        ·
          rw [if_pos g9]
          have h10 := T_NM_show (N2 := (1600 : Int32)) (x3 := (p123.1 : Int32)) (t0_0 := (p123.2.1 : Int32)) (t0_1 := t0_1) (t0_2 := t0_2) (t1_0 := t7_0) (t2_0 := (p123.2.2.2.2.2.2.2.2.2.2.2.2.2.2.2.2 : (Nat → Int32))) ⟨by omega, by omega⟩ (by omega)
          with_reducible refine v_oweS h10 ?_
          generalize F_NM_show (1600 : Int32) (p123.1 : Int32) (p123.2.1 : Int32) t0_1 t0_2 t7_0 (p123.2.2.2.2.2.2.2.2.2.2.2.2.2.2.2.2 : (Nat → Int32)) = p168 at *
          unfold S_NM_figures_c126
          exact trivial
        ·
          rw [if_neg g9]
          exact trivial
    ·
      rw [if_neg g3]
      by_cases g11 : x2 = (3 : Int32)
      ·
        rw [if_pos g11]
        unfold S_NM_figures_J59
        have h12 := T_FR_scientific (x2 := ((F_NM_bitsOf x2 x3 lx40 t0_1 t0_2 t8_0) : Int64)) (x3 := (1 : Int32)) (x4 := x5) (x5 := x6) (t0_0 := t1_0) (t0_1 := t1_1) (t0_2 := t1_2) (t0_3 := t1_3) (t0_4 := t1_4) (t0_5 := t1_5) (t0_6 := t1_6) (t0_7 := t1_7) (t0_8 := t1_8) (t0_9 := t1_9) (t0_10 := t1_10) (t1_0 := t2_0) (t2_0 := t3_0) (t3_0 := t4_0) (t4_0 := t5_0) (t5_0 := t6_0) 
        with_reducible refine v_oweS h12.1 ?_
        replace h12 := h12.2
        generalize F_FR_scientific ((F_NM_bitsOf x2 x3 lx40 t0_1 t0_2 t8_0) : Int64) (1 : Int32) x5 x6 t1_0 t1_1 t1_2 t1_3 t1_4 t1_5 t1_6 t1_7 t1_8 t1_9 t1_10 t2_0 t3_0 t4_0 t5_0 t6_0 = p230 at *
        unfold Q_FR_scientific at h12
        unfold S_NM_figures_c63
        by_cases g13 : (p230.2.1 : Int32) ≤ (0 : Int32)
        ·
          rw [if_pos g13]
          have h14 := T_NM_show (N2 := (1600 : Int32)) (x3 := (p230.1 : Int32)) (t0_0 := (p230.2.1 : Int32)) (t0_1 := t0_1) (t0_2 := t0_2) (t1_0 := t7_0) (t2_0 := (p230.2.2.2.2.2.2.2.2.2.2.2.2.2.2.2.2 : (Nat → Int32))) ⟨by omega, by omega⟩ (by omega)
          with_reducible refine v_oweS h14 ?_
          generalize F_NM_show (1600 : Int32) (p230.1 : Int32) (p230.2.1 : Int32) t0_1 t0_2 t7_0 (p230.2.2.2.2.2.2.2.2.2.2.2.2.2.2.2.2 : (Nat → Int32)) = p275 at *
          unfold S_NM_figures_c126_7
          exact trivial
        ·
          rw [if_neg g13]
          exact trivial
      ·
        rw [if_neg g11]
        unfold S_NM_figures_J59
        have h15 := T_FR_scientific (x2 := ((F_NM_bitsOf x2 x3 lx40 t0_1 t0_2 t8_0) : Int64)) (x3 := (0 : Int32)) (x4 := x5) (x5 := x6) (t0_0 := t1_0) (t0_1 := t1_1) (t0_2 := t1_2) (t0_3 := t1_3) (t0_4 := t1_4) (t0_5 := t1_5) (t0_6 := t1_6) (t0_7 := t1_7) (t0_8 := t1_8) (t0_9 := t1_9) (t0_10 := t1_10) (t1_0 := t2_0) (t2_0 := t3_0) (t3_0 := t4_0) (t4_0 := t5_0) (t5_0 := t6_0) 
        with_reducible refine v_oweS h15.1 ?_
        replace h15 := h15.2
        generalize F_FR_scientific ((F_NM_bitsOf x2 x3 lx40 t0_1 t0_2 t8_0) : Int64) (0 : Int32) x5 x6 t1_0 t1_1 t1_2 t1_3 t1_4 t1_5 t1_6 t1_7 t1_8 t1_9 t1_10 t2_0 t3_0 t4_0 t5_0 t6_0 = p230 at *
        unfold Q_FR_scientific at h15
        unfold S_NM_figures_c63
        by_cases g16 : (p230.2.1 : Int32) ≤ (0 : Int32)
        ·
          rw [if_pos g16]
          have h17 := T_NM_show (N2 := (1600 : Int32)) (x3 := (p230.1 : Int32)) (t0_0 := (p230.2.1 : Int32)) (t0_1 := t0_1) (t0_2 := t0_2) (t1_0 := t7_0) (t2_0 := (p230.2.2.2.2.2.2.2.2.2.2.2.2.2.2.2.2 : (Nat → Int32))) ⟨by omega, by omega⟩ (by omega)
          with_reducible refine v_oweS h17 ?_
          generalize F_NM_show (1600 : Int32) (p230.1 : Int32) (p230.2.1 : Int32) t0_1 t0_2 t7_0 (p230.2.2.2.2.2.2.2.2.2.2.2.2.2.2.2.2 : (Nat → Int32)) = p275 at *
          unfold S_NM_figures_c126_7
          exact trivial
        ·
          rw [if_neg g16]
          exact trivial
  ·
    rw [if_neg g1]
    exact trivial
theorem T_NM_figures {x2 : Int32} {x3 : Int32} {x4 : Int32} {x5 : Int32} {x6 : Int32} {t0_0 : Int32} {t0_1 : Int32} {t0_2 : Int32} {t1_0 : Int32} {t1_1 : Int32} {t1_2 : Int32} {t1_3 : Int32} {t1_4 : Int64} {t1_5 : Int32} {t1_6 : Int32} {t1_7 : Int64} {t1_8 : Int32} {t1_9 : Int64} {t1_10 : Int32} {t2_0 : (Nat → Int32)} {t3_0 : (Nat → Int32)} {t4_0 : (Nat → Int32)} {t5_0 : (Nat → Int32)} {t6_0 : (Nat → Int32)} {t7_0 : (Nat → Int32)} {t8_0 : (Nat → Int64)} (hB : nmB t8_0)  : (S_NM_figures x2 x3 x4 x5 x6 t0_0 t0_1 t0_2 t1_0 t1_1 t1_2 t1_3 t1_4 t1_5 t1_6 t1_7 t1_8 t1_9 t1_10 t2_0 t3_0 t4_0 t5_0 t6_0 t7_0 t8_0) := by
  have e0 : (0 : Int32).toInt = 0 := rfl
  have e1 : (1 : Int32).toInt = 1 := rfl
  have eL0 : (0 : Int64).toInt = 0 := rfl
  have em : (-1 : Int32).toInt = -1 := rfl
  unfold S_NM_figures
  by_cases g1 : x2 < (2 : Int32)
  ·
    rw [if_pos g1]
    unfold S_NM_figures_J14
    exact T_NM_fg19 hB (fun z => absurd z (by decide))
  ·
    rw [if_neg g1]
    by_cases g2 : ((F_NM_no_IIZ x2 x3) : Int32) = (0 : Int32)
    ·
      rw [if_pos g2]
      have hno := (nm_no2 g2).2
      exact T_NM_fg19 hB (fun _ => hno)
    ·
      rw [if_neg g2]
      unfold S_NM_figures_J14
      exact T_NM_fg19 hB (fun z => absurd z (by decide))
theorem nm_1000 {a b : Int32} (ha : 0 ≤ a.toInt ∧ a.toInt ≤ 9) (hb : 0 ≤ b.toInt ∧ b.toInt < 1000) : ((1000 * a) + b : Int32).toInt = 1000 * a.toInt + b.toInt := by
  have e : (1000 * a : Int32).toInt = 1000 * a.toInt := q_mulI (x := 1000) (by decide) rfl (by omega) (by omega)
  exact q_addI e rfl (by omega) (by omega)
theorem vm_lg {x2 : Int32} {t0_0 : Int32} {t0_1 : Int32} {t0_2 : Int32} {t1_0 : Int32} {t1_1 : Int32} {t1_2 : Int32} {t1_3 : Int64} {t1_4 : Int32} {t1_5 : Int32} {t1_6 : Int32} {t1_7 : Int32} {t1_8 : Int32} {t1_9 : Int32} {t1_10 : Int32} {t2_0 : (Nat → Int32)} {t3_0 : (Nat → Int32)} {t4_0 : (Nat → Int32)} {t5_0 : (Nat → Int64)} {lx38 : Int32} (hx2 : 0 ≤ x2.toInt ∧ x2.toInt ≤ 9) (hm9 : 1 ≤ (t3_0 x2.toNatClampNeg).toInt ∧ (t3_0 x2.toNatClampNeg).toInt ≤ 1000)  : ∀ (n : Nat) (lx56 : Int32) (lx57 : Int32) (lx58 : Int64), (0 ≤ lx56.toInt ∧ lx56.toInt ≤ 1000) → (1000 - lx56.toInt < (n : Int)) → (S_NM_isLong_L26 x2 t0_0 t0_1 t0_2 t1_0 t1_1 t1_2 t1_3 t1_4 t1_5 t1_6 t1_7 t1_8 t1_9 t1_10 t2_0 t3_0 t4_0 t5_0 lx38 n lx56 lx57 lx58) := by
  intro n
  induction n with
  | zero => intro lx56 lx57 lx58 hA0 hm; exact absurd (show False by omega) id
  | succ n ih =>
    intro lx56 lx57 lx58 hA0 hm
    have e0 : (0 : Int32).toInt = 0 := rfl
    have e1 : (1 : Int32).toInt = 1 := rfl
    have eL0 : (0 : Int64).toInt = 0 := rfl
    have em : (-1 : Int32).toInt = -1 := rfl
    rw [S_NM_isLong_L26.eq_2]
    by_cases g1 : (t3_0 x2.toNatClampNeg : Int32) ≤ lx56
    ·
      rw [if_pos g1]
      unfold S_NM_isLong_J109
      by_cases g2 : lx57 = (0 : Int32)
      ·
        rw [if_pos g2]
        unfold S_NM_isLong_J138
        unfold S_NM_isLong_J139
        by_cases g3 : (t4_0 x2.toNatClampNeg : Int32) = (0 : Int32)
        ·
          rw [if_pos g3]
          exact trivial
        ·
          rw [if_neg g3]
          exact trivial
      ·
        rw [if_neg g2]
        by_cases g4 : (t4_0 x2.toNatClampNeg : Int32) = (0 : Int32)
        ·
          rw [if_pos g4]
          by_cases g5 : (lg_cmp lx58 (-9223372036854775808) : Int32) = (0 : Int32)
          ·
            rw [if_pos g5]
            unfold S_NM_isLong_J138
            unfold S_NM_isLong_J139
            rw [if_pos g4]
            exact trivial
          ·
            rw [if_neg g5]
            unfold S_NM_isLong_J134
            unfold S_NM_isLong_J139
            rw [if_pos g4]
            exact trivial
        ·
          rw [if_neg g4]
          unfold S_NM_isLong_J134
          unfold S_NM_isLong_J139
          rw [if_neg g4]
          exact trivial
    ·
      rw [if_neg g1]
      have hb : 0 ≤ lx56.toInt ∧ lx56.toInt < 1000 := ⟨hA0.1, by have := q_nleI g1; omega⟩
      by_cases g6 : lx57 = (0 : Int32)
      ·
        rw [if_pos g6]
        unfold S_NM_isLong_J109
        rw [if_pos g6]
        unfold S_NM_isLong_J138
        unfold S_NM_isLong_J139
        by_cases g7 : (t4_0 x2.toNatClampNeg : Int32) = (0 : Int32)
        ·
          rw [if_pos g7]
          exact trivial
        ·
          rw [if_neg g7]
          exact trivial
      ·
        rw [if_neg g6]
        refine And.intro (by rw [nm_1000 hx2 hb]; omega) ?_
        by_cases g8 : (0 : Int32) < (lg_cmp lx58 (-922337203685477580) : Int32)
        ·
          rw [if_pos g8]
          obtain ⟨a9, e10⟩ := q_nm (lx56 + 1 : Int32)
          rw [e10]
          have a9i : a9.toInt = lx56.toInt + 1 := by rw [← e10]; exact q_addI (x := lx56.toInt) (y := 1) rfl (by decide) (by omega) (by omega)
          refine And.intro (by first | omega | decide) ?_
          exact ih _ _ _ ⟨by omega, by omega⟩ (by omega)
        ·
          rw [if_neg g8]
          by_cases g11 : (lg_cmp lx58 (-922337203685477580) : Int32) = (0 : Int32)
          ·
            rw [if_pos g11]
            by_cases g12 : (8 : Int32) < (t2_0 ((1000 * x2 : Int32) + lx56 : Int32).toNatClampNeg : Int32)
            ·
              rw [if_pos g12]
              obtain ⟨a13, e14⟩ := q_nm (lx56 + 1 : Int32)
              rw [e14]
              have a13i : a13.toInt = lx56.toInt + 1 := by rw [← e14]; exact q_addI (x := lx56.toInt) (y := 1) rfl (by decide) (by omega) (by omega)
              refine And.intro (by first | omega | decide) ?_
              exact ih _ _ _ ⟨by omega, by omega⟩ (by omega)
            ·
              rw [if_neg g12]
              obtain ⟨a15, e16⟩ := q_nm (lx56 + 1 : Int32)
              rw [e16]
              have a15i : a15.toInt = lx56.toInt + 1 := by rw [← e16]; exact q_addI (x := lx56.toInt) (y := 1) rfl (by decide) (by omega) (by omega)
              refine And.intro (by first | omega | decide) ?_
              exact ih _ _ _ ⟨by omega, by omega⟩ (by omega)
          ·
            rw [if_neg g11]
            obtain ⟨a17, e18⟩ := q_nm (lx56 + 1 : Int32)
            rw [e18]
            have a17i : a17.toInt = lx56.toInt + 1 := by rw [← e18]; exact q_addI (x := lx56.toInt) (y := 1) rfl (by decide) (by omega) (by omega)
            refine And.intro (by first | omega | decide) ?_
            exact ih _ _ _ ⟨by omega, by omega⟩ (by omega)
theorem T_NM_isLong {x2 : Int32} {t0_0 : Int32} {t0_1 : Int32} {t0_2 : Int32} {t1_0 : Int32} {t1_1 : Int32} {t1_2 : Int32} {t1_3 : Int64} {t1_4 : Int32} {t1_5 : Int32} {t1_6 : Int32} {t1_7 : Int32} {t1_8 : Int32} {t1_9 : Int32} {t1_10 : Int32} {t2_0 : (Nat → Int32)} {t3_0 : (Nat → Int32)} {t4_0 : (Nat → Int32)} {t5_0 : (Nat → Int64)} (hx2 : 0 ≤ x2.toInt ∧ x2.toInt ≤ 9) (hm9 : 1 ≤ (t3_0 x2.toNatClampNeg).toInt ∧ (t3_0 x2.toNatClampNeg).toInt ≤ 1000)  : (S_NM_isLong x2 t0_0 t0_1 t0_2 t1_0 t1_1 t1_2 t1_3 t1_4 t1_5 t1_6 t1_7 t1_8 t1_9 t1_10 t2_0 t3_0 t4_0 t5_0) := by
  have e0 : (0 : Int32).toInt = 0 := rfl
  have e1 : (1 : Int32).toInt = 1 := rfl
  have eL0 : (0 : Int64).toInt = 0 := rfl
  have em : (-1 : Int32).toInt = -1 := rfl
  unfold S_NM_isLong
  refine And.intro (by first | omega | decide) ?_
  refine And.intro (by first | omega | decide) ?_
  by_cases g1 : (19 : Int32) < (t3_0 x2.toNatClampNeg : Int32)
  ·
    rw [if_pos g1]
    unfold S_NM_isLong_J21
    exact vm_lg hx2 hm9 _ _ _ _ (by decide) (by decide)
  ·
    rw [if_neg g1]
    unfold S_NM_isLong_J21
    exact vm_lg hx2 hm9 _ _ _ _ (by decide) (by decide)
theorem nm_mn {k m s c : Nat → Int32} {x : Int32} (h : gR k m s c) (hx : 0 ≤ x.toInt ∧ x.toInt ≤ 9) : 1 ≤ (m x.toNatClampNeg).toInt ∧ (m x.toNatClampNeg).toInt ≤ 1000 := by
  have e := q_clI (i := x) rfl hx.1
  exact (h.2 _ (by omega)).1
def Q_NM_numeral (p : Int32 × Int32 × Int32 × Int32 × Int32 × Int32 × Int32 × Int32 × Int32 × Int32 × Int32 × (Nat → Int32) × (Nat → Int32) × (Nat → Int64) × (Nat → Int64)) : Prop := vrZ p.2.2.2.2.2.2.2.2.2.2.2.2.1
theorem nm_numeralA {c0 : Int32} {c1 : Int32} {c2 : Int32} {c3 : Int32} {c4 : Int32} {c5 : Int32} {c6 : Int32} {c7 : Int32} {c8 : Int32} {c9 : Int32} {c10 : Int32} {c11 : (Nat → Int32)} {c12 : (Nat → Int32)} {c13 : (Nat → Int64)} {c14 : (Nat → Int64)} (h0 : vrZ c12) : Q_NM_numeral (c0, c1, c2, c3, c4, c5, c6, c7, c8, c9, c10, c11, c12, c13, c14) := h0
theorem T_NM_numeral {x2 : Int32} {x3 : Int32} {t0_0 : Int32} {t0_1 : Int32} {t0_2 : Int32} {t1_0 : Int32} {t1_1 : Int32} {t1_2 : Int32} {t1_3 : Int32} {t1_4 : Int32} {t1_5 : Int32} {t1_6 : Int32} {t2_0 : (Nat → Int32)} {t3_0 : (Nat → Int32)} {t4_0 : Int32} {t4_1 : Int32} {t4_2 : Int32} {t4_3 : Int64} {t4_4 : Int32} {t4_5 : Int32} {t4_6 : Int32} {t4_7 : Int32} {t4_8 : Int32} {t4_9 : Int32} {t4_10 : Int32} {t5_0 : (Nat → Int32)} {t6_0 : (Nat → Int32)} {t7_0 : (Nat → Int32)} {t8_0 : (Nat → Int32)} {t9_0 : Int32} {t9_1 : Int32} {t9_2 : Int32} {t9_3 : Int32} {t9_4 : Int32} {t9_5 : Int32} {t9_6 : Int32} {t9_7 : Int32} {t9_8 : Int32} {t9_9 : Int32} {t9_10 : Int32} {t9_11 : Int32} {t9_12 : Int32} {t9_13 : Int32} {t9_14 : Int32} {t9_15 : Int32} {t9_16 : Int32} {t9_17 : Int32} {t9_18 : Int32} {t9_19 : Int32} {t9_20 : Int32} {t9_21 : Int32} {t10_0 : (Nat → Int32)} {t11_0 : (Nat → Int32)} {t12_0 : (Nat → Int64)} {t13_0 : (Nat → Int64)} (hW : wR t2_0 t3_0) (hD : gR t5_0 t6_0 t7_0 t8_0) (hZ : vrZ t11_0) (hx3 : 0 ≤ x3.toInt ∧ x3.toInt ≤ 9) (hv2 : 0 ≤ t9_2.toInt ∧ t9_2.toInt ≤ 9)  : (S_NM_numeral x2 x3 t0_0 t0_1 t0_2 t1_0 t1_1 t1_2 t1_3 t1_4 t1_5 t1_6 t2_0 t3_0 t4_0 t4_1 t4_2 t4_3 t4_4 t4_5 t4_6 t4_7 t4_8 t4_9 t4_10 t5_0 t6_0 t7_0 t8_0 t9_0 t9_1 t9_2 t9_3 t9_4 t9_5 t9_6 t9_7 t9_8 t9_9 t9_10 t9_11 t9_12 t9_13 t9_14 t9_15 t9_16 t9_17 t9_18 t9_19 t9_20 t9_21 t10_0 t11_0 t12_0 t13_0) ∧ Q_NM_numeral (F_NM_numeral x2 x3 t0_0 t0_1 t0_2 t1_0 t1_1 t1_2 t1_3 t1_4 t1_5 t1_6 t2_0 t3_0 t4_0 t4_1 t4_2 t4_3 t4_4 t4_5 t4_6 t4_7 t4_8 t4_9 t4_10 t5_0 t6_0 t7_0 t8_0 t9_0 t9_1 t9_2 t9_3 t9_4 t9_5 t9_6 t9_7 t9_8 t9_9 t9_10 t9_11 t9_12 t9_13 t9_14 t9_15 t9_16 t9_17 t9_18 t9_19 t9_20 t9_21 t10_0 t11_0 t12_0 t13_0) := by
  have e0 : (0 : Int32).toInt = 0 := rfl
  have e1 : (1 : Int32).toInt = 1 := rfl
  have eL0 : (0 : Int64).toInt = 0 := rfl
  have em : (-1 : Int32).toInt = -1 := rfl
  unfold S_NM_numeral F_NM_numeral
  by_cases g1 : x2 = (0 : Int32)
  ·
    rw [if_pos g1, if_pos g1]
    have h2 := T_WR_told (x2 := x3) (x3 := (2 : Int32)) (t0_0 := t1_0) (t0_1 := t1_1) (t0_2 := t1_2) (t0_3 := t1_3) (t0_4 := t1_4) (t0_5 := t1_5) (t0_6 := t1_6) (t1_0 := t2_0) (t2_0 := t3_0) (by with_reducible assumption)
    with_reducible refine v_owe h2 ?_
    generalize F_WR_told x3 (2 : Int32) t1_0 t1_1 t1_2 t1_3 t1_4 t1_5 t1_6 t2_0 t3_0 = p241 at *
    unfold S_NM_numeral_c11 F_NM_numeral_c11
    by_cases g3 : (lg_cmp (p241.1 : Int64) 63 : Int32) ≤ (0 : Int32)
    ·
      rw [if_pos g3, if_pos g3]
      unfold S_NM_numeral_J26 F_NM_numeral_J26
      have g4 : ((0 : Int32) ≤ (0 : Int32)) := (by decide)
      rw [if_pos g4, if_pos g4]
      have h5 := T_WR_told (x2 := x3) (x3 := (0 : Int32)) (t0_0 := (p241.2.1 : Int32)) (t0_1 := (p241.2.2.1 : Int32)) (t0_2 := (p241.2.2.2.1 : Int32)) (t0_3 := (p241.2.2.2.2.1 : Int32)) (t0_4 := (p241.2.2.2.2.2.1 : Int32)) (t0_5 := (p241.2.2.2.2.2.2.1 : Int32)) (t0_6 := (p241.2.2.2.2.2.2.2 : Int32)) (t1_0 := t2_0) (t2_0 := t3_0) (by with_reducible assumption)
      with_reducible refine v_owe h5 ?_
      generalize F_WR_told x3 (0 : Int32) (p241.2.1 : Int32) (p241.2.2.1 : Int32) (p241.2.2.2.1 : Int32) (p241.2.2.2.2.1 : Int32) (p241.2.2.2.2.2.1 : Int32) (p241.2.2.2.2.2.2.1 : Int32) (p241.2.2.2.2.2.2.2 : Int32) t2_0 t3_0 = p314 at *
      unfold S_NM_numeral_c52 F_NM_numeral_c52
      have h6 := T_VR_whole (x2 := (64 : Int32)) (x3 := (p314.1 : Int64)) (t0_0 := t9_0) (t0_1 := t9_1) (t0_2 := t9_2) (t0_3 := t9_3) (t0_4 := t9_4) (t0_5 := t9_5) (t0_6 := t9_6) (t0_7 := t9_7) (t0_8 := t9_8) (t0_9 := t9_9) (t0_10 := t9_10) (t0_11 := t9_11) (t0_12 := t9_12) (t0_13 := t9_13) (t0_14 := t9_14) (t0_15 := t9_15) (t0_16 := t9_16) (t0_17 := t9_17) (t0_18 := t9_18) (t0_19 := t9_19) (t0_20 := t9_20) (t0_21 := t9_21) (t1_0 := t10_0) (t2_0 := t11_0) (t3_0 := t12_0) hv2
      generalize F_VR_whole (64 : Int32) (p314.1 : Int64) t9_0 t9_1 t9_2 t9_3 t9_4 t9_5 t9_6 t9_7 t9_8 t9_9 t9_10 t9_11 t9_12 t9_13 t9_14 t9_15 t9_16 t9_17 t9_18 t9_19 t9_20 t9_21 t10_0 t11_0 t12_0 = p350 at *
      unfold Q_VR_arg at h6
      replace h6 := h6 hZ
      unfold S_NM_numeral_c55 F_NM_numeral_c55
      refine ⟨trivial, ?_⟩
      exact nm_numeralA (by with_reducible assumption)
    ·
      rw [if_neg g3, if_neg g3]
      unfold S_NM_numeral_J26 F_NM_numeral_J26
      have g7 : ¬ ((2 : Int32) ≤ (0 : Int32)) := (by decide)
      rw [if_neg g7, if_neg g7]
      refine ⟨trivial, ?_⟩
      exact nm_numeralA (by with_reducible assumption)
  ·
    rw [if_neg g1, if_neg g1]
    refine v_cons (by first | omega | decide) ?_
    refine v_cons (by first | omega | decide) ?_
    have h8 := T_NM_isLong (x2 := x3) (t0_0 := t0_0) (t0_1 := t0_1) (t0_2 := t0_2) (t1_0 := t4_0) (t1_1 := t4_1) (t1_2 := t4_2) (t1_3 := t4_3) (t1_4 := t4_4) (t1_5 := t4_5) (t1_6 := t4_6) (t1_7 := t4_7) (t1_8 := t4_8) (t1_9 := t4_9) (t1_10 := t4_10) (t2_0 := t5_0) (t3_0 := t6_0) (t4_0 := t7_0) (t5_0 := t13_0) hx3 (nm_mn hD hx3)
    with_reducible refine v_owe h8 ?_
    generalize F_NM_isLong x3 t0_0 t0_1 t0_2 t4_0 t4_1 t4_2 t4_3 t4_4 t4_5 t4_6 t4_7 t4_8 t4_9 t4_10 t5_0 t6_0 t7_0 t13_0 = p110 at *
    unfold S_NM_numeral_c76 F_NM_numeral_c76
    by_cases g9 : (p110.1 : Int32) = (0 : Int32)
    ·
      rw [if_pos g9, if_pos g9]
      unfold S_NM_numeral_J92 F_NM_numeral_J92
      unfold S_NM_numeral_J97 F_NM_numeral_J97
      have g10 : ¬ ((2 : Int32) ≤ (0 : Int32)) := (by decide)
      rw [if_neg g10, if_neg g10]
      refine ⟨trivial, ?_⟩
      exact nm_numeralA (by with_reducible assumption)
    ·
      rw [if_neg g9, if_neg g9]
      by_cases g11 : (t8_0 x3.toNatClampNeg : Int32) < (0 : Int32)
      ·
        rw [if_pos g11, if_pos g11]
        unfold S_NM_numeral_J92 F_NM_numeral_J92
        unfold S_NM_numeral_J97 F_NM_numeral_J97
        have g12 : ¬ ((2 : Int32) ≤ (0 : Int32)) := (by decide)
        rw [if_neg g12, if_neg g12]
        refine ⟨trivial, ?_⟩
        exact nm_numeralA (by with_reducible assumption)
      ·
        rw [if_neg g11, if_neg g11]
        by_cases g13 : (t8_0 x3.toNatClampNeg : Int32) ≤ (40 : Int32)
        ·
          rw [if_pos g13, if_pos g13]
          unfold S_NM_numeral_J97 F_NM_numeral_J97
          have g14 : ((0 : Int32) ≤ (0 : Int32)) := (by decide)
          rw [if_pos g14, if_pos g14]
          have h15 := T_VR_decimal_JII (x2 := ((p110.2 : (Nat → Int64)) (0 : Int32).toNatClampNeg : Int64)) (x3 := (t8_0 x3.toNatClampNeg : Int32)) (t0_0 := t9_0) (t0_1 := t9_1) (t0_2 := t9_2) (t0_3 := t9_3) (t0_4 := t9_4) (t0_5 := t9_5) (t0_6 := t9_6) (t0_7 := t9_7) (t0_8 := t9_8) (t0_9 := t9_9) (t0_10 := t9_10) (t0_11 := t9_11) (t0_12 := t9_12) (t0_13 := t9_13) (t0_14 := t9_14) (t0_15 := t9_15) (t0_16 := t9_16) (t0_17 := t9_17) (t0_18 := t9_18) (t0_19 := t9_19) (t0_20 := t9_20) (t0_21 := t9_21) (t1_0 := t10_0) (t2_0 := t11_0) (t3_0 := t12_0) hv2
          generalize F_VR_decimal_JII ((p110.2 : (Nat → Int64)) (0 : Int32).toNatClampNeg : Int64) (t8_0 x3.toNatClampNeg : Int32) t9_0 t9_1 t9_2 t9_3 t9_4 t9_5 t9_6 t9_7 t9_8 t9_9 t9_10 t9_11 t9_12 t9_13 t9_14 t9_15 t9_16 t9_17 t9_18 t9_19 t9_20 t9_21 t10_0 t11_0 t12_0 = p169 at *
          unfold Q_VR_arg at h15
          replace h15 := h15 hZ
          unfold S_NM_numeral_c122 F_NM_numeral_c122
          refine ⟨trivial, ?_⟩
          exact nm_numeralA (by with_reducible assumption)
        ·
          rw [if_neg g13, if_neg g13]
          unfold S_NM_numeral_J92 F_NM_numeral_J92
          unfold S_NM_numeral_J97 F_NM_numeral_J97
          have g16 : ¬ ((2 : Int32) ≤ (0 : Int32)) := (by decide)
          rw [if_neg g16, if_neg g16]
          refine ⟨trivial, ?_⟩
          exact nm_numeralA (by with_reducible assumption)
def Q_NM_argument (p : Int32 × Int32 × Int32 × Int32 × Int32 × Int32 × Int32 × Int32 × Int32 × Int32 × Int32 × Int32 × Int32 × (Nat → Int32) × (Nat → Int32) × (Nat → Int32) × (Nat → Int64) × (Nat → Int32) × (Nat → Int64)) : Prop := vrZ p.2.2.2.2.2.2.2.2.2.2.2.2.2.2.2.1
theorem nm_argumentA {c0 : Int32} {c1 : Int32} {c2 : Int32} {c3 : Int32} {c4 : Int32} {c5 : Int32} {c6 : Int32} {c7 : Int32} {c8 : Int32} {c9 : Int32} {c10 : Int32} {c11 : Int32} {c12 : Int32} {c13 : (Nat → Int32)} {c14 : (Nat → Int32)} {c15 : (Nat → Int32)} {c16 : (Nat → Int64)} {c17 : (Nat → Int32)} {c18 : (Nat → Int64)} (h0 : vrZ c15) : Q_NM_argument (c0, c1, c2, c3, c4, c5, c6, c7, c8, c9, c10, c11, c12, c13, c14, c15, c16, c17, c18) := h0
theorem T_NM_ar84 {x2 : Int32} {x3 : Int32} {t0_0 : Int32} {t0_1 : Int32} {t0_2 : Int32} {t1_0 : Int32} {t1_1 : Int32} {t1_2 : Int32} {t1_3 : Int32} {t1_4 : Int32} {t1_5 : Int32} {t1_6 : Int32} {t2_0 : (Nat → Int32)} {t3_0 : (Nat → Int32)} {t4_0 : Int32} {t4_1 : Int32} {t4_2 : Int32} {t4_3 : Int64} {t4_4 : Int32} {t4_5 : Int32} {t4_6 : Int32} {t4_7 : Int32} {t4_8 : Int32} {t4_9 : Int32} {t4_10 : Int32} {t5_0 : (Nat → Int32)} {t6_0 : (Nat → Int32)} {t7_0 : (Nat → Int32)} {t8_0 : (Nat → Int32)} {t9_0 : Int32} {t9_1 : Int32} {t9_2 : Int32} {t9_3 : Int32} {t9_4 : Int32} {t9_5 : Int32} {t9_6 : Int32} {t9_7 : Int32} {t9_8 : Int32} {t9_9 : Int32} {t9_10 : Int32} {t9_11 : Int32} {t9_12 : Int32} {t9_13 : Int32} {t9_14 : Int32} {t9_15 : Int32} {t9_16 : Int32} {t9_17 : Int32} {t9_18 : Int32} {t9_19 : Int32} {t9_20 : Int32} {t9_21 : Int32} {t10_0 : (Nat → Int32)} {t11_0 : (Nat → Int32)} {t12_0 : (Nat → Int32)} {t13_0 : (Nat → Int64)} {t14_0 : (Nat → Int32)} {t15_0 : (Nat → Int32)} {t16_0 : (Nat → Int64)} {lx101 : Int32} {lx127 : Int32} (hW : wR t2_0 t3_0) (hD : gR t5_0 t6_0 t7_0 t8_0) (hZ : vrZ t12_0) (h01 : 0 ≤ t0_1.toInt ∧ t0_1.toInt ≤ 4100) (hv2 : 0 ≤ t9_2.toInt ∧ t9_2.toInt ≤ 9) (hx : lx127.toInt ≤ 0 → (x2.toInt ≤ 1 → 0 ≤ x3.toInt ∧ x3.toInt ≤ 9) ∧ (x2 = 7 → t0_1.toInt ≤ 64))  : (S_NM_argument_J84 x2 x3 t0_0 t0_1 t0_2 t1_0 t1_1 t1_2 t1_3 t1_4 t1_5 t1_6 t2_0 t3_0 t4_0 t4_1 t4_2 t4_3 t4_4 t4_5 t4_6 t4_7 t4_8 t4_9 t4_10 t5_0 t6_0 t7_0 t8_0 t9_0 t9_1 t9_2 t9_3 t9_4 t9_5 t9_6 t9_7 t9_8 t9_9 t9_10 t9_11 t9_12 t9_13 t9_14 t9_15 t9_16 t9_17 t9_18 t9_19 t9_20 t9_21 t10_0 t11_0 t12_0 t13_0 t14_0 t15_0 t16_0 lx101 lx127) ∧ Q_NM_argument (F_NM_argument_J84 x2 x3 t0_0 t0_1 t0_2 t1_0 t1_1 t1_2 t1_3 t1_4 t1_5 t1_6 t2_0 t3_0 t4_0 t4_1 t4_2 t4_3 t4_4 t4_5 t4_6 t4_7 t4_8 t4_9 t4_10 t5_0 t6_0 t7_0 t8_0 t9_0 t9_1 t9_2 t9_3 t9_4 t9_5 t9_6 t9_7 t9_8 t9_9 t9_10 t9_11 t9_12 t9_13 t9_14 t9_15 t9_16 t9_17 t9_18 t9_19 t9_20 t9_21 t10_0 t11_0 t12_0 t13_0 t14_0 t15_0 t16_0 lx101 lx127) := by
  have e0 : (0 : Int32).toInt = 0 := rfl
  have e1 : (1 : Int32).toInt = 1 := rfl
  have eL0 : (0 : Int64).toInt = 0 := rfl
  have em : (-1 : Int32).toInt = -1 := rfl
  have n1600 : (1600 : Int32).toInt = 1600 := rfl
  have n2100 : (2100 : Int32).toInt = 2100 := rfl
  have n4096 : (4096 : Int32).toInt = 4096 := rfl
  have n12200 : (12200 : Int32).toInt = 12200 := rfl
  have n4100 : (4100 : Int32).toInt = 4100 := rfl
  have n256 : (256 : Int32).toInt = 256 := rfl
  unfold S_NM_argument_J84 F_NM_argument_J84
  by_cases g1 : lx127 ≤ (0 : Int32)
  ·
    rw [if_pos g1, if_pos g1]
    have hxx := hx (q_leI g1)
    by_cases g2 : x2 = (0 : Int32)
    ·
      rw [if_pos g2, if_pos g2]
      have hx3 := hxx.1 (by rw [q_eqI g2]; decide)
      have h3 := T_NM_numeral (x2 := x2) (x3 := x3) (t0_0 := lx127) (t0_1 := t0_1) (t0_2 := t0_2) (t1_0 := t1_0) (t1_1 := t1_1) (t1_2 := t1_2) (t1_3 := t1_3) (t1_4 := t1_4) (t1_5 := t1_5) (t1_6 := t1_6) (t2_0 := t2_0) (t3_0 := t3_0) (t4_0 := t4_0) (t4_1 := t4_1) (t4_2 := t4_2) (t4_3 := t4_3) (t4_4 := t4_4) (t4_5 := t4_5) (t4_6 := t4_6) (t4_7 := t4_7) (t4_8 := t4_8) (t4_9 := t4_9) (t4_10 := t4_10) (t5_0 := t5_0) (t6_0 := t6_0) (t7_0 := t7_0) (t8_0 := t8_0) (t9_0 := t9_0) (t9_1 := t9_1) (t9_2 := t9_2) (t9_3 := t9_3) (t9_4 := t9_4) (t9_5 := t9_5) (t9_6 := t9_6) (t9_7 := t9_7) (t9_8 := t9_8) (t9_9 := t9_9) (t9_10 := t9_10) (t9_11 := t9_11) (t9_12 := t9_12) (t9_13 := t9_13) (t9_14 := t9_14) (t9_15 := t9_15) (t9_16 := t9_16) (t9_17 := t9_17) (t9_18 := t9_18) (t9_19 := t9_19) (t9_20 := t9_20) (t9_21 := t9_21) (t10_0 := t11_0) (t11_0 := t12_0) (t12_0 := t13_0) (t13_0 := t16_0) hW hD hZ hx3 hv2
      with_reducible refine v_owe h3.1 ?_
      replace h3 := h3.2
      generalize F_NM_numeral x2 x3 lx127 t0_1 t0_2 t1_0 t1_1 t1_2 t1_3 t1_4 t1_5 t1_6 t2_0 t3_0 t4_0 t4_1 t4_2 t4_3 t4_4 t4_5 t4_6 t4_7 t4_8 t4_9 t4_10 t5_0 t6_0 t7_0 t8_0 t9_0 t9_1 t9_2 t9_3 t9_4 t9_5 t9_6 t9_7 t9_8 t9_9 t9_10 t9_11 t9_12 t9_13 t9_14 t9_15 t9_16 t9_17 t9_18 t9_19 t9_20 t9_21 t11_0 t12_0 t13_0 t16_0 = p207 at *
      unfold Q_NM_numeral at h3
      unfold S_NM_argument_c147 F_NM_argument_c147
      refine ⟨trivial, ?_⟩
      exact nm_argumentA (by with_reducible assumption)
    ·
      rw [if_neg g2, if_neg g2]
      by_cases g4 : x2 = (1 : Int32)
      ·
        rw [if_pos g4, if_pos g4]
        have hx3 := hxx.1 (by rw [q_eqI g4]; decide)
        have h5 := T_NM_numeral (x2 := x2) (x3 := x3) (t0_0 := lx127) (t0_1 := t0_1) (t0_2 := t0_2) (t1_0 := t1_0) (t1_1 := t1_1) (t1_2 := t1_2) (t1_3 := t1_3) (t1_4 := t1_4) (t1_5 := t1_5) (t1_6 := t1_6) (t2_0 := t2_0) (t3_0 := t3_0) (t4_0 := t4_0) (t4_1 := t4_1) (t4_2 := t4_2) (t4_3 := t4_3) (t4_4 := t4_4) (t4_5 := t4_5) (t4_6 := t4_6) (t4_7 := t4_7) (t4_8 := t4_8) (t4_9 := t4_9) (t4_10 := t4_10) (t5_0 := t5_0) (t6_0 := t6_0) (t7_0 := t7_0) (t8_0 := t8_0) (t9_0 := t9_0) (t9_1 := t9_1) (t9_2 := t9_2) (t9_3 := t9_3) (t9_4 := t9_4) (t9_5 := t9_5) (t9_6 := t9_6) (t9_7 := t9_7) (t9_8 := t9_8) (t9_9 := t9_9) (t9_10 := t9_10) (t9_11 := t9_11) (t9_12 := t9_12) (t9_13 := t9_13) (t9_14 := t9_14) (t9_15 := t9_15) (t9_16 := t9_16) (t9_17 := t9_17) (t9_18 := t9_18) (t9_19 := t9_19) (t9_20 := t9_20) (t9_21 := t9_21) (t10_0 := t11_0) (t11_0 := t12_0) (t12_0 := t13_0) (t13_0 := t16_0) hW hD hZ hx3 hv2
        with_reducible refine v_owe h5.1 ?_
        replace h5 := h5.2
        generalize F_NM_numeral x2 x3 lx127 t0_1 t0_2 t1_0 t1_1 t1_2 t1_3 t1_4 t1_5 t1_6 t2_0 t3_0 t4_0 t4_1 t4_2 t4_3 t4_4 t4_5 t4_6 t4_7 t4_8 t4_9 t4_10 t5_0 t6_0 t7_0 t8_0 t9_0 t9_1 t9_2 t9_3 t9_4 t9_5 t9_6 t9_7 t9_8 t9_9 t9_10 t9_11 t9_12 t9_13 t9_14 t9_15 t9_16 t9_17 t9_18 t9_19 t9_20 t9_21 t11_0 t12_0 t13_0 t16_0 = p279 at *
        unfold Q_NM_numeral at h5
        unfold S_NM_argument_c147_4 F_NM_argument_c147_4
        refine ⟨trivial, ?_⟩
        exact nm_argumentA (by with_reducible assumption)
      ·
        rw [if_neg g4, if_neg g4]
        by_cases g6 : x2 = (2 : Int32)
        ·
          rw [if_pos g6, if_pos g6]
          refine ⟨trivial, ?_⟩
          exact nm_argumentA (by with_reducible assumption)
        ·
          rw [if_neg g6, if_neg g6]
          by_cases g7 : x2 = (3 : Int32)
          ·
            rw [if_pos g7, if_pos g7]
            refine ⟨trivial, ?_⟩
            exact nm_argumentA (by with_reducible assumption)
          ·
            rw [if_neg g7, if_neg g7]
            by_cases g8 : x2 = (4 : Int32)
            ·
              rw [if_pos g8, if_pos g8]
              have h9 := T_VR_nothing (t0_0 := t9_0) (t0_1 := t9_1) (t0_2 := t9_2) (t0_3 := t9_3) (t0_4 := t9_4) (t0_5 := t9_5) (t0_6 := t9_6) (t0_7 := t9_7) (t0_8 := t9_8) (t0_9 := t9_9) (t0_10 := t9_10) (t0_11 := t9_11) (t0_12 := t9_12) (t0_13 := t9_13) (t0_14 := t9_14) (t0_15 := t9_15) (t0_16 := t9_16) (t0_17 := t9_17) (t0_18 := t9_18) (t0_19 := t9_19) (t0_20 := t9_20) (t0_21 := t9_21) (t1_0 := t11_0) (t2_0 := t12_0) (t3_0 := t13_0) hv2
              generalize F_VR_nothing t9_0 t9_1 t9_2 t9_3 t9_4 t9_5 t9_6 t9_7 t9_8 t9_9 t9_10 t9_11 t9_12 t9_13 t9_14 t9_15 t9_16 t9_17 t9_18 t9_19 t9_20 t9_21 t11_0 t12_0 t13_0 = p336 at *
              unfold Q_VR_arg at h9
              replace h9 := h9 hZ
              unfold S_NM_argument_c155 F_NM_argument_c155
              refine ⟨trivial, ?_⟩
              exact nm_argumentA (by with_reducible assumption)
            ·
              rw [if_neg g8, if_neg g8]
              by_cases g10 : x2 = (5 : Int32)
              ·
                rw [if_pos g10, if_pos g10]
                by_cases g11 : x3 = (0 : Int32)
                ·
                  rw [if_pos g11, if_pos g11]
                  have h12 := T_VR_truth (x2 := (0 : Int32)) (t0_0 := t9_0) (t0_1 := t9_1) (t0_2 := t9_2) (t0_3 := t9_3) (t0_4 := t9_4) (t0_5 := t9_5) (t0_6 := t9_6) (t0_7 := t9_7) (t0_8 := t9_8) (t0_9 := t9_9) (t0_10 := t9_10) (t0_11 := t9_11) (t0_12 := t9_12) (t0_13 := t9_13) (t0_14 := t9_14) (t0_15 := t9_15) (t0_16 := t9_16) (t0_17 := t9_17) (t0_18 := t9_18) (t0_19 := t9_19) (t0_20 := t9_20) (t0_21 := t9_21) (t1_0 := t11_0) (t2_0 := t12_0) (t3_0 := t13_0) hv2
                  generalize F_VR_truth (0 : Int32) t9_0 t9_1 t9_2 t9_3 t9_4 t9_5 t9_6 t9_7 t9_8 t9_9 t9_10 t9_11 t9_12 t9_13 t9_14 t9_15 t9_16 t9_17 t9_18 t9_19 t9_20 t9_21 t11_0 t12_0 t13_0 = p376 at *
                  unfold Q_VR_arg at h12
                  replace h12 := h12 hZ
                  unfold S_NM_argument_c172 F_NM_argument_c172
                  refine ⟨trivial, ?_⟩
                  exact nm_argumentA (by with_reducible assumption)
                ·
                  rw [if_neg g11, if_neg g11]
                  have h13 := T_VR_truth (x2 := (1 : Int32)) (t0_0 := t9_0) (t0_1 := t9_1) (t0_2 := t9_2) (t0_3 := t9_3) (t0_4 := t9_4) (t0_5 := t9_5) (t0_6 := t9_6) (t0_7 := t9_7) (t0_8 := t9_8) (t0_9 := t9_9) (t0_10 := t9_10) (t0_11 := t9_11) (t0_12 := t9_12) (t0_13 := t9_13) (t0_14 := t9_14) (t0_15 := t9_15) (t0_16 := t9_16) (t0_17 := t9_17) (t0_18 := t9_18) (t0_19 := t9_19) (t0_20 := t9_20) (t0_21 := t9_21) (t1_0 := t11_0) (t2_0 := t12_0) (t3_0 := t13_0) hv2
                  generalize F_VR_truth (1 : Int32) t9_0 t9_1 t9_2 t9_3 t9_4 t9_5 t9_6 t9_7 t9_8 t9_9 t9_10 t9_11 t9_12 t9_13 t9_14 t9_15 t9_16 t9_17 t9_18 t9_19 t9_20 t9_21 t11_0 t12_0 t13_0 = p412 at *
                  unfold Q_VR_arg at h13
                  replace h13 := h13 hZ
                  unfold S_NM_argument_c172_7 F_NM_argument_c172_7
                  refine ⟨trivial, ?_⟩
                  exact nm_argumentA (by with_reducible assumption)
              ·
                rw [if_neg g10, if_neg g10]
                by_cases g14 : x2 = (6 : Int32)
                ·
                  rw [if_pos g14, if_pos g14]
                  have h15 := T_VR_symbol (x2 := x3) (t0_0 := t9_0) (t0_1 := t9_1) (t0_2 := t9_2) (t0_3 := t9_3) (t0_4 := t9_4) (t0_5 := t9_5) (t0_6 := t9_6) (t0_7 := t9_7) (t0_8 := t9_8) (t0_9 := t9_9) (t0_10 := t9_10) (t0_11 := t9_11) (t0_12 := t9_12) (t0_13 := t9_13) (t0_14 := t9_14) (t0_15 := t9_15) (t0_16 := t9_16) (t0_17 := t9_17) (t0_18 := t9_18) (t0_19 := t9_19) (t0_20 := t9_20) (t0_21 := t9_21) (t1_0 := t11_0) (t2_0 := t12_0) (t3_0 := t13_0) hv2
                  generalize F_VR_symbol x3 t9_0 t9_1 t9_2 t9_3 t9_4 t9_5 t9_6 t9_7 t9_8 t9_9 t9_10 t9_11 t9_12 t9_13 t9_14 t9_15 t9_16 t9_17 t9_18 t9_19 t9_20 t9_21 t11_0 t12_0 t13_0 = p449 at *
                  unfold Q_VR_arg at h15
                  replace h15 := h15 hZ
                  unfold S_NM_argument_c181 F_NM_argument_c181
                  refine ⟨trivial, ?_⟩
                  exact nm_argumentA (by with_reducible assumption)
                ·
                  rw [if_neg g14, if_neg g14]
                  by_cases g16 : x2 = (7 : Int32)
                  ·
                    rw [if_pos g16, if_pos g16]
                    have h64 := hxx.2 g16
                    have h17 := T_NM_load (N1 := (4100 : Int32)) (x2 := t0_1) (N3 := (256 : Int32)) (t0_0 := t15_0) (t1_0 := t10_0) (by first | omega | decide) (by first | omega | decide) (by first | omega | decide)
                    with_reducible refine v_owe h17.1 ?_
                    replace h17 := h17.2
                    generalize F_NM_load (4100 : Int32) t0_1 (256 : Int32) t15_0 t10_0 = p477 at *
                    have qL := h17
                    have eL := congrArg Int32.toInt h17.1
                    unfold S_NM_argument_c204 F_NM_argument_c204
                    have h18 := T_VR_text (t0_0 := t9_0) (t0_1 := (p477.1 : Int32)) (t0_2 := t9_2) (t0_3 := t9_3) (t0_4 := t9_4) (t0_5 := t9_5) (t0_6 := t9_6) (t0_7 := t9_7) (t0_8 := t9_8) (t0_9 := t9_9) (t0_10 := t9_10) (t0_11 := t9_11) (t0_12 := t9_12) (t0_13 := t9_13) (t0_14 := t9_14) (t0_15 := t9_15) (t0_16 := t9_16) (t0_17 := t9_17) (t0_18 := t9_18) (t0_19 := t9_19) (t0_20 := t9_20) (t0_21 := t9_21) (t1_0 := (p477.2 : (Nat → Int32))) (t2_0 := t11_0) (t3_0 := t12_0) (t4_0 := t13_0) (t5_0 := t14_0) hv2 (by omega)
                    with_reducible refine v_owe h18.1 ?_
                    replace h18 := h18.2
                    generalize F_VR_text t9_0 (p477.1 : Int32) t9_2 t9_3 t9_4 t9_5 t9_6 t9_7 t9_8 t9_9 t9_10 t9_11 t9_12 t9_13 t9_14 t9_15 t9_16 t9_17 t9_18 t9_19 t9_20 t9_21 (p477.2 : (Nat → Int32)) t11_0 t12_0 t13_0 t14_0 = p517 at *
                    unfold Q_VR_txt at h18
                    replace h18 := h18 hZ
                    unfold S_NM_argument_c214 F_NM_argument_c214
                    by_cases g19 : (p517.1 : Int32) ≤ (0 : Int32)
                    ·
                      rw [if_pos g19, if_pos g19]
                      refine ⟨trivial, ?_⟩
                      exact nm_argumentA (by with_reducible assumption)
                    ·
                      rw [if_neg g19, if_neg g19]
                      refine ⟨trivial, ?_⟩
                      exact nm_argumentA (by with_reducible assumption)
                  ·
                    rw [if_neg g16, if_neg g16]
                    refine ⟨trivial, ?_⟩
                    exact nm_argumentA (by with_reducible assumption)
  ·
    rw [if_neg g1, if_neg g1]
    refine ⟨trivial, ?_⟩
    exact nm_argumentA (by with_reducible assumption)
theorem T_NM_ar54 {x2 : Int32} {x3 : Int32} {t0_0 : Int32} {t0_1 : Int32} {t0_2 : Int32} {t1_0 : Int32} {t1_1 : Int32} {t1_2 : Int32} {t1_3 : Int32} {t1_4 : Int32} {t1_5 : Int32} {t1_6 : Int32} {t2_0 : (Nat → Int32)} {t3_0 : (Nat → Int32)} {t4_0 : Int32} {t4_1 : Int32} {t4_2 : Int32} {t4_3 : Int64} {t4_4 : Int32} {t4_5 : Int32} {t4_6 : Int32} {t4_7 : Int32} {t4_8 : Int32} {t4_9 : Int32} {t4_10 : Int32} {t5_0 : (Nat → Int32)} {t6_0 : (Nat → Int32)} {t7_0 : (Nat → Int32)} {t8_0 : (Nat → Int32)} {t9_0 : Int32} {t9_1 : Int32} {t9_2 : Int32} {t9_3 : Int32} {t9_4 : Int32} {t9_5 : Int32} {t9_6 : Int32} {t9_7 : Int32} {t9_8 : Int32} {t9_9 : Int32} {t9_10 : Int32} {t9_11 : Int32} {t9_12 : Int32} {t9_13 : Int32} {t9_14 : Int32} {t9_15 : Int32} {t9_16 : Int32} {t9_17 : Int32} {t9_18 : Int32} {t9_19 : Int32} {t9_20 : Int32} {t9_21 : Int32} {t10_0 : (Nat → Int32)} {t11_0 : (Nat → Int32)} {t12_0 : (Nat → Int32)} {t13_0 : (Nat → Int64)} {t14_0 : (Nat → Int32)} {t15_0 : (Nat → Int32)} {t16_0 : (Nat → Int64)} {lx101 : Int32} (hW : wR t2_0 t3_0) (hD : gR t5_0 t6_0 t7_0 t8_0) (hZ : vrZ t12_0) (h01 : 0 ≤ t0_1.toInt ∧ t0_1.toInt ≤ 4100) (hv2 : 0 ≤ t9_2.toInt ∧ t9_2.toInt ≤ 9) (hx : lx101 = 0 → x2.toInt ≤ 1 → 0 ≤ x3.toInt ∧ x3.toInt ≤ 9)  : (S_NM_argument_J54 x2 x3 t0_0 t0_1 t0_2 t1_0 t1_1 t1_2 t1_3 t1_4 t1_5 t1_6 t2_0 t3_0 t4_0 t4_1 t4_2 t4_3 t4_4 t4_5 t4_6 t4_7 t4_8 t4_9 t4_10 t5_0 t6_0 t7_0 t8_0 t9_0 t9_1 t9_2 t9_3 t9_4 t9_5 t9_6 t9_7 t9_8 t9_9 t9_10 t9_11 t9_12 t9_13 t9_14 t9_15 t9_16 t9_17 t9_18 t9_19 t9_20 t9_21 t10_0 t11_0 t12_0 t13_0 t14_0 t15_0 t16_0 lx101) ∧ Q_NM_argument (F_NM_argument_J54 x2 x3 t0_0 t0_1 t0_2 t1_0 t1_1 t1_2 t1_3 t1_4 t1_5 t1_6 t2_0 t3_0 t4_0 t4_1 t4_2 t4_3 t4_4 t4_5 t4_6 t4_7 t4_8 t4_9 t4_10 t5_0 t6_0 t7_0 t8_0 t9_0 t9_1 t9_2 t9_3 t9_4 t9_5 t9_6 t9_7 t9_8 t9_9 t9_10 t9_11 t9_12 t9_13 t9_14 t9_15 t9_16 t9_17 t9_18 t9_19 t9_20 t9_21 t10_0 t11_0 t12_0 t13_0 t14_0 t15_0 t16_0 lx101) := by
  have e0 : (0 : Int32).toInt = 0 := rfl
  have e1 : (1 : Int32).toInt = 1 := rfl
  have eL0 : (0 : Int64).toInt = 0 := rfl
  have em : (-1 : Int32).toInt = -1 := rfl
  unfold S_NM_argument_J54 F_NM_argument_J54
  by_cases g1 : lx101 = (0 : Int32)
  ·
    rw [if_pos g1, if_pos g1]
    have hy := hx g1
    by_cases g2 : x2 = (7 : Int32)
    ·
      rw [if_pos g2, if_pos g2]
      by_cases g3 : t0_1 ≤ (64 : Int32)
      ·
        rw [if_pos g3, if_pos g3]
        have h64 := q_leI g3
        unfold S_NM_argument_J83 F_NM_argument_J83
        exact T_NM_ar84 hW hD hZ h01 hv2 (fun _ => ⟨hy, fun _ => h64⟩)
      ·
        rw [if_neg g3, if_neg g3]
        exact T_NM_ar84 hW hD hZ h01 hv2 (fun z => absurd z (by decide))
    ·
      rw [if_neg g2, if_neg g2]
      unfold S_NM_argument_J83 F_NM_argument_J83
      exact T_NM_ar84 hW hD hZ h01 hv2 (fun _ => ⟨hy, fun z => absurd z g2⟩)
  ·
    rw [if_neg g1, if_neg g1]
    exact T_NM_ar84 hW hD hZ h01 hv2 (fun z => absurd z (by decide))
theorem T_NM_ar32 {x2 : Int32} {x3 : Int32} {t0_0 : Int32} {t0_1 : Int32} {t0_2 : Int32} {t1_0 : Int32} {t1_1 : Int32} {t1_2 : Int32} {t1_3 : Int32} {t1_4 : Int32} {t1_5 : Int32} {t1_6 : Int32} {t2_0 : (Nat → Int32)} {t3_0 : (Nat → Int32)} {t4_0 : Int32} {t4_1 : Int32} {t4_2 : Int32} {t4_3 : Int64} {t4_4 : Int32} {t4_5 : Int32} {t4_6 : Int32} {t4_7 : Int32} {t4_8 : Int32} {t4_9 : Int32} {t4_10 : Int32} {t5_0 : (Nat → Int32)} {t6_0 : (Nat → Int32)} {t7_0 : (Nat → Int32)} {t8_0 : (Nat → Int32)} {t9_0 : Int32} {t9_1 : Int32} {t9_2 : Int32} {t9_3 : Int32} {t9_4 : Int32} {t9_5 : Int32} {t9_6 : Int32} {t9_7 : Int32} {t9_8 : Int32} {t9_9 : Int32} {t9_10 : Int32} {t9_11 : Int32} {t9_12 : Int32} {t9_13 : Int32} {t9_14 : Int32} {t9_15 : Int32} {t9_16 : Int32} {t9_17 : Int32} {t9_18 : Int32} {t9_19 : Int32} {t9_20 : Int32} {t9_21 : Int32} {t10_0 : (Nat → Int32)} {t11_0 : (Nat → Int32)} {t12_0 : (Nat → Int32)} {t13_0 : (Nat → Int64)} {t14_0 : (Nat → Int32)} {t15_0 : (Nat → Int32)} {t16_0 : (Nat → Int64)} (hW : wR t2_0 t3_0) (hD : gR t5_0 t6_0 t7_0 t8_0) (hZ : vrZ t12_0) (h01 : 0 ≤ t0_1.toInt ∧ t0_1.toInt ≤ 4100) (hv2 : 0 ≤ t9_2.toInt ∧ t9_2.toInt ≤ 9) (hy : x2.toInt ≤ 1 → 0 ≤ x3.toInt ∧ x3.toInt ≤ 9)  : (S_NM_argument_J32 x2 x3 t0_0 t0_1 t0_2 t1_0 t1_1 t1_2 t1_3 t1_4 t1_5 t1_6 t2_0 t3_0 t4_0 t4_1 t4_2 t4_3 t4_4 t4_5 t4_6 t4_7 t4_8 t4_9 t4_10 t5_0 t6_0 t7_0 t8_0 t9_0 t9_1 t9_2 t9_3 t9_4 t9_5 t9_6 t9_7 t9_8 t9_9 t9_10 t9_11 t9_12 t9_13 t9_14 t9_15 t9_16 t9_17 t9_18 t9_19 t9_20 t9_21 t10_0 t11_0 t12_0 t13_0 t14_0 t15_0 t16_0) ∧ Q_NM_argument (F_NM_argument_J32 x2 x3 t0_0 t0_1 t0_2 t1_0 t1_1 t1_2 t1_3 t1_4 t1_5 t1_6 t2_0 t3_0 t4_0 t4_1 t4_2 t4_3 t4_4 t4_5 t4_6 t4_7 t4_8 t4_9 t4_10 t5_0 t6_0 t7_0 t8_0 t9_0 t9_1 t9_2 t9_3 t9_4 t9_5 t9_6 t9_7 t9_8 t9_9 t9_10 t9_11 t9_12 t9_13 t9_14 t9_15 t9_16 t9_17 t9_18 t9_19 t9_20 t9_21 t10_0 t11_0 t12_0 t13_0 t14_0 t15_0 t16_0) := by
  have e0 : (0 : Int32).toInt = 0 := rfl
  have e1 : (1 : Int32).toInt = 1 := rfl
  have eL0 : (0 : Int64).toInt = 0 := rfl
  have em : (-1 : Int32).toInt = -1 := rfl
  unfold S_NM_argument_J32 F_NM_argument_J32
  by_cases g1 : x2 = (6 : Int32)
  ·
    rw [if_pos g1, if_pos g1]
    by_cases g2 : x3 < (0 : Int32)
    ·
      rw [if_pos g2, if_pos g2]
      unfold S_NM_argument_J49 F_NM_argument_J49
      exact T_NM_ar54 hW hD hZ h01 hv2 (fun z => absurd z (by decide))
    ·
      rw [if_neg g2, if_neg g2]
      by_cases g3 : x3 ≤ (255 : Int32)
      ·
        rw [if_pos g3, if_pos g3]
        unfold S_NM_argument_J53 F_NM_argument_J53
        exact T_NM_ar54 hW hD hZ h01 hv2 (fun _ => hy)
      ·
        rw [if_neg g3, if_neg g3]
        unfold S_NM_argument_J49 F_NM_argument_J49
        exact T_NM_ar54 hW hD hZ h01 hv2 (fun z => absurd z (by decide))
  ·
    rw [if_neg g1, if_neg g1]
    unfold S_NM_argument_J53 F_NM_argument_J53
    exact T_NM_ar54 hW hD hZ h01 hv2 (fun _ => hy)
theorem T_NM_argument {x2 : Int32} {x3 : Int32} {t0_0 : Int32} {t0_1 : Int32} {t0_2 : Int32} {t1_0 : Int32} {t1_1 : Int32} {t1_2 : Int32} {t1_3 : Int32} {t1_4 : Int32} {t1_5 : Int32} {t1_6 : Int32} {t2_0 : (Nat → Int32)} {t3_0 : (Nat → Int32)} {t4_0 : Int32} {t4_1 : Int32} {t4_2 : Int32} {t4_3 : Int64} {t4_4 : Int32} {t4_5 : Int32} {t4_6 : Int32} {t4_7 : Int32} {t4_8 : Int32} {t4_9 : Int32} {t4_10 : Int32} {t5_0 : (Nat → Int32)} {t6_0 : (Nat → Int32)} {t7_0 : (Nat → Int32)} {t8_0 : (Nat → Int32)} {t9_0 : Int32} {t9_1 : Int32} {t9_2 : Int32} {t9_3 : Int32} {t9_4 : Int32} {t9_5 : Int32} {t9_6 : Int32} {t9_7 : Int32} {t9_8 : Int32} {t9_9 : Int32} {t9_10 : Int32} {t9_11 : Int32} {t9_12 : Int32} {t9_13 : Int32} {t9_14 : Int32} {t9_15 : Int32} {t9_16 : Int32} {t9_17 : Int32} {t9_18 : Int32} {t9_19 : Int32} {t9_20 : Int32} {t9_21 : Int32} {t10_0 : (Nat → Int32)} {t11_0 : (Nat → Int32)} {t12_0 : (Nat → Int32)} {t13_0 : (Nat → Int64)} {t14_0 : (Nat → Int32)} {t15_0 : (Nat → Int32)} {t16_0 : (Nat → Int64)} (hW : wR t2_0 t3_0) (hD : gR t5_0 t6_0 t7_0 t8_0) (hZ : vrZ t12_0) (h01 : 0 ≤ t0_1.toInt ∧ t0_1.toInt ≤ 4100) (hv2 : 0 ≤ t9_2.toInt ∧ t9_2.toInt ≤ 9)  : (S_NM_argument x2 x3 t0_0 t0_1 t0_2 t1_0 t1_1 t1_2 t1_3 t1_4 t1_5 t1_6 t2_0 t3_0 t4_0 t4_1 t4_2 t4_3 t4_4 t4_5 t4_6 t4_7 t4_8 t4_9 t4_10 t5_0 t6_0 t7_0 t8_0 t9_0 t9_1 t9_2 t9_3 t9_4 t9_5 t9_6 t9_7 t9_8 t9_9 t9_10 t9_11 t9_12 t9_13 t9_14 t9_15 t9_16 t9_17 t9_18 t9_19 t9_20 t9_21 t10_0 t11_0 t12_0 t13_0 t14_0 t15_0 t16_0) ∧ Q_NM_argument (F_NM_argument x2 x3 t0_0 t0_1 t0_2 t1_0 t1_1 t1_2 t1_3 t1_4 t1_5 t1_6 t2_0 t3_0 t4_0 t4_1 t4_2 t4_3 t4_4 t4_5 t4_6 t4_7 t4_8 t4_9 t4_10 t5_0 t6_0 t7_0 t8_0 t9_0 t9_1 t9_2 t9_3 t9_4 t9_5 t9_6 t9_7 t9_8 t9_9 t9_10 t9_11 t9_12 t9_13 t9_14 t9_15 t9_16 t9_17 t9_18 t9_19 t9_20 t9_21 t10_0 t11_0 t12_0 t13_0 t14_0 t15_0 t16_0) := by
  have e0 : (0 : Int32).toInt = 0 := rfl
  have e1 : (1 : Int32).toInt = 1 := rfl
  have eL0 : (0 : Int64).toInt = 0 := rfl
  have em : (-1 : Int32).toInt = -1 := rfl
  unfold S_NM_argument F_NM_argument
  by_cases g1 : x2 < (0 : Int32)
  ·
    rw [if_pos g1, if_pos g1]
    unfold S_NM_argument_J49 F_NM_argument_J49
    exact T_NM_ar54 hW hD hZ h01 hv2 (fun z => absurd z (by decide))
  ·
    rw [if_neg g1, if_neg g1]
    by_cases g2 : (8 : Int32) < x2
    ·
      rw [if_pos g2, if_pos g2]
      unfold S_NM_argument_J49 F_NM_argument_J49
      exact T_NM_ar54 hW hD hZ h01 hv2 (fun z => absurd z (by decide))
    ·
      rw [if_neg g2, if_neg g2]
      by_cases g3 : x2 = (2 : Int32)
      ·
        rw [if_pos g3, if_pos g3]
        unfold S_NM_argument_J49 F_NM_argument_J49
        exact T_NM_ar54 hW hD hZ h01 hv2 (fun z => absurd z (by decide))
      ·
        rw [if_neg g3, if_neg g3]
        by_cases g4 : x2 = (3 : Int32)
        ·
          rw [if_pos g4, if_pos g4]
          unfold S_NM_argument_J49 F_NM_argument_J49
          exact T_NM_ar54 hW hD hZ h01 hv2 (fun z => absurd z (by decide))
        ·
          rw [if_neg g4, if_neg g4]
          by_cases g5 : (2 : Int32) ≤ x2
          ·
            rw [if_pos g5, if_pos g5]
            have g2x := g5
            exact T_NM_ar32 hW hD hZ h01 hv2 (fun z => absurd z (by have := q_leI g2x; have e2 : (2 : Int32).toInt = 2 := rfl; omega))
          ·
            rw [if_neg g5, if_neg g5]
            by_cases g6 : ((F_NM_no_IZ x3) : Int32) = (0 : Int32)
            ·
              rw [if_pos g6, if_pos g6]
              have hno := nm_no1 g6
              exact T_NM_ar32 hW hD hZ h01 hv2 (fun z => hno)
            ·
              rw [if_neg g6, if_neg g6]
              unfold S_NM_argument_J49 F_NM_argument_J49
              exact T_NM_ar54 hW hD hZ h01 hv2 (fun z => absurd z (by decide))
theorem T_NM_fo16 {t0_0 : Int32} {t0_1 : Int32} {t0_2 : Int32} {t1_0 : Int32} {t1_1 : Int32} {t1_2 : Int32} {t1_3 : Int32} {t1_4 : Int32} {t1_5 : Int32} {t1_6 : Int32} {t1_7 : Int32} {t1_8 : Int32} {t1_9 : Int32} {t1_10 : Int32} {t1_11 : Int32} {t1_12 : Int32} {t1_13 : Int32} {t1_14 : Int32} {t1_15 : Int32} {t1_16 : Int32} {t1_17 : Int32} {t1_18 : Int32} {t1_19 : Int32} {t1_20 : Int32} {t1_21 : Int32} {t2_0 : (Nat → Int32)} {t3_0 : (Nat → Int32)} {t4_0 : (Nat → Int32)} {t5_0 : (Nat → Int64)} {t6_0 : (Nat → Int32)} {t7_0 : (Nat → Int32)} {t8_0 : (Nat → Int32)} {t9_0 : (Nat → Int32)} {t10_0 : (Nat → Int32)} {t11_0 : (Nat → Int32)} {t12_0 : (Nat → Int32)} {lx67 : Int32} (hZ : vrZ t4_0) (h01 : 0 ≤ t0_1.toInt ∧ t0_1.toInt ≤ 4100) (hv2 : 0 ≤ t1_2.toInt ∧ t1_2.toInt ≤ 9) (hx : lx67.toInt ≤ 0 → t0_1.toInt ≤ 256)  : (S_NM_format_J16 t0_0 t0_1 t0_2 t1_0 t1_1 t1_2 t1_3 t1_4 t1_5 t1_6 t1_7 t1_8 t1_9 t1_10 t1_11 t1_12 t1_13 t1_14 t1_15 t1_16 t1_17 t1_18 t1_19 t1_20 t1_21 t2_0 t3_0 t4_0 t5_0 t6_0 t7_0 t8_0 t9_0 t10_0 t11_0 t12_0 lx67) := by
  have e0 : (0 : Int32).toInt = 0 := rfl
  have e1 : (1 : Int32).toInt = 1 := rfl
  have eL0 : (0 : Int64).toInt = 0 := rfl
  have em : (-1 : Int32).toInt = -1 := rfl
  have n1600 : (1600 : Int32).toInt = 1600 := rfl
  have n2100 : (2100 : Int32).toInt = 2100 := rfl
  have n4096 : (4096 : Int32).toInt = 4096 := rfl
  have n12200 : (12200 : Int32).toInt = 12200 := rfl
  have n4100 : (4100 : Int32).toInt = 4100 := rfl
  have n256 : (256 : Int32).toInt = 256 := rfl
  unfold S_NM_format_J16
  by_cases g1 : lx67 ≤ (0 : Int32)
  ·
    rw [if_pos g1]
    have hxx := hx (q_leI g1)
    have h2 := T_NM_load (N1 := (4100 : Int32)) (x2 := t0_1) (N3 := (256 : Int32)) (t0_0 := t11_0) (t1_0 := t2_0) (by first | omega | decide) (by first | omega | decide) (by first | omega | decide)
    with_reducible refine v_oweS h2.1 ?_
    replace h2 := h2.2
    generalize F_NM_load (4100 : Int32) t0_1 (256 : Int32) t11_0 t2_0 = p107 at *
    have qL := h2
    have eL := congrArg Int32.toInt h2.1
    unfold S_NM_format_c47
    have h3 := T_VR_print (t0_0 := t1_0) (t0_1 := (p107.1 : Int32)) (t0_2 := t1_2) (t0_3 := t1_3) (t0_4 := t1_4) (t0_5 := t1_5) (t0_6 := t1_6) (t0_7 := t1_7) (t0_8 := t1_8) (t0_9 := t1_9) (t0_10 := t1_10) (t0_11 := t1_11) (t0_12 := t1_12) (t0_13 := t1_13) (t0_14 := t1_14) (t0_15 := t1_15) (t0_16 := t1_16) (t0_17 := t1_17) (t0_18 := t1_18) (t0_19 := t1_19) (t0_20 := t1_20) (t0_21 := t1_21) (t1_0 := (p107.2 : (Nat → Int32))) (t2_0 := t3_0) (t3_0 := t4_0) (t4_0 := t5_0) (t5_0 := t6_0) (t6_0 := t7_0) (t7_0 := t8_0) (t8_0 := t9_0) (t9_0 := t10_0) hZ (by omega) (by omega)
    with_reducible refine v_oweS h3.1 ?_
    replace h3 := h3.2
    generalize F_VR_print t1_0 (p107.1 : Int32) t1_2 t1_3 t1_4 t1_5 t1_6 t1_7 t1_8 t1_9 t1_10 t1_11 t1_12 t1_13 t1_14 t1_15 t1_16 t1_17 t1_18 t1_19 t1_20 t1_21 (p107.2 : (Nat → Int32)) t3_0 t4_0 t5_0 t6_0 t7_0 t8_0 t9_0 t10_0 = p168 at *
    unfold Q_VR_print at h3
    unfold S_NM_format_c57
    by_cases g4 : (0 : Int32) ≤ (p168.1 : Int32)
    ·
      rw [if_pos g4]
      have hp8 := q_leI g4
      have h5 := T_NM_show (N2 := (4096 : Int32)) (x3 := (p168.1 : Int32)) (t0_0 := lx67) (t0_1 := (0 : Int32)) (t0_2 := t0_2) (t1_0 := t12_0) (t2_0 := (p168.2.2.2.2.2.2.2.2.2.2.2.2.2.2.2.2.2.2.2.2.2.1 : (Nat → Int32))) ⟨by omega, by omega⟩ (by omega)
      with_reducible refine v_oweS h5 ?_
      generalize F_NM_show (4096 : Int32) (p168.1 : Int32) lx67 (0 : Int32) t0_2 t12_0 (p168.2.2.2.2.2.2.2.2.2.2.2.2.2.2.2.2.2.2.2.2.2.1 : (Nat → Int32)) = p223 at *
      unfold S_NM_format_c112
      exact trivial
    ·
      rw [if_neg g4]
      exact trivial
  ·
    rw [if_neg g1]
    exact trivial
theorem T_NM_format {t0_0 : Int32} {t0_1 : Int32} {t0_2 : Int32} {t1_0 : Int32} {t1_1 : Int32} {t1_2 : Int32} {t1_3 : Int32} {t1_4 : Int32} {t1_5 : Int32} {t1_6 : Int32} {t1_7 : Int32} {t1_8 : Int32} {t1_9 : Int32} {t1_10 : Int32} {t1_11 : Int32} {t1_12 : Int32} {t1_13 : Int32} {t1_14 : Int32} {t1_15 : Int32} {t1_16 : Int32} {t1_17 : Int32} {t1_18 : Int32} {t1_19 : Int32} {t1_20 : Int32} {t1_21 : Int32} {t2_0 : (Nat → Int32)} {t3_0 : (Nat → Int32)} {t4_0 : (Nat → Int32)} {t5_0 : (Nat → Int64)} {t6_0 : (Nat → Int32)} {t7_0 : (Nat → Int32)} {t8_0 : (Nat → Int32)} {t9_0 : (Nat → Int32)} {t10_0 : (Nat → Int32)} {t11_0 : (Nat → Int32)} {t12_0 : (Nat → Int32)} (hZ : vrZ t4_0) (h01 : 0 ≤ t0_1.toInt ∧ t0_1.toInt ≤ 4100) (hv2 : 0 ≤ t1_2.toInt ∧ t1_2.toInt ≤ 9)  : (S_NM_format t0_0 t0_1 t0_2 t1_0 t1_1 t1_2 t1_3 t1_4 t1_5 t1_6 t1_7 t1_8 t1_9 t1_10 t1_11 t1_12 t1_13 t1_14 t1_15 t1_16 t1_17 t1_18 t1_19 t1_20 t1_21 t2_0 t3_0 t4_0 t5_0 t6_0 t7_0 t8_0 t9_0 t10_0 t11_0 t12_0) := by
  have e0 : (0 : Int32).toInt = 0 := rfl
  have e1 : (1 : Int32).toInt = 1 := rfl
  have eL0 : (0 : Int64).toInt = 0 := rfl
  have em : (-1 : Int32).toInt = -1 := rfl
  have n1600 : (1600 : Int32).toInt = 1600 := rfl
  have n2100 : (2100 : Int32).toInt = 2100 := rfl
  have n4096 : (4096 : Int32).toInt = 4096 := rfl
  have n12200 : (12200 : Int32).toInt = 12200 := rfl
  have n4100 : (4100 : Int32).toInt = 4100 := rfl
  have n256 : (256 : Int32).toInt = 256 := rfl
  unfold S_NM_format
  by_cases g1 : t0_1 ≤ (256 : Int32)
  ·
    rw [if_pos g1]
    have hxx := q_leI g1
    exact T_NM_fo16 hZ h01 hv2 (fun _ => hxx)
  ·
    rw [if_neg g1]
    exact T_NM_fo16 hZ h01 hv2 (fun z => absurd z (by decide))
