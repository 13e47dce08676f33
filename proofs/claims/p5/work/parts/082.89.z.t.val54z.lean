/-! what the calls keep: shape, convert -/
theorem v_needP {x : Int32} (h : F_NH_need x = 0) : ¬ x = 0 := fun e => by rw [e] at h; exact absurd h (by decide)
theorem v_digs {R s n sc fc : Int32} {f : Nat → Int32} {v : Int} (h : dO R s n f sc fc v) : v.natAbs < 10 ^ 1001 := by
  obtain ⟨c, _, hc, hc2⟩ := h.2.1
  exact Nat.lt_of_lt_of_le hc.2.1 (Nat.pow_le_pow_right (by decide) (by omega))
def Q_shape (sc fc : Int32) (p : Int32 × Int64 × Int32 × Int32 × Int32 × (Nat → Int32) × Int32 × Int32 × (Nat → Int32) × Int32 × Int32 × (Nat → Int32) × Int32 × Int32 × (Nat → Int32) × Int32 × Int32 × (Nat → Int32) × Int32 × Int32 × (Nat → Int32) × Int32 × Int32 × (Nat → Int32) × Int32 × Int32 × (Nat → Int32) × Int32 × Int32 × (Nat → Int32) × Int32 × Int32 × Int32 × Int32 × (Nat → Int32)) : Prop := rD p.2.2.2.2.2.2.2.2.2.2.2.2.2.2.2.2.2.2.2.2.2.2.2.2.2.2.2.2.2.2.2.2.1 p.2.2.2.2.2.2.2.2.2.2.2.2.2.2.2.2.2.2.2.2.2.2.2.2.2.2.2.2.2.2.2.2.2.1 p.2.2.2.2.2.2.2.2.2.2.2.2.2.2.2.2.2.2.2.2.2.2.2.2.2.2.2.2.2.2.2.2.2.2 p.2.2.2.2.2.2.2.2.2.2.2.2.2.2.2.2.2.2.2.2.2.2.2.2.2.2.2.2.2.2.1 p.2.2.2.2.2.2.2.2.2.2.2.2.2.2.2.2.2.2.2.2.2.2.2.2.2.2.2.2.2.2.2.1 ∧ dO 3 p.2.2.2.1 p.2.2.2.2.1 p.2.2.2.2.2.1 sc fc 1
theorem T_shape {x2 : Int32} {x3 : Int32} {x4 : Int32} {x5 : Int32} {x6 : Int32} {t0_0 : Int64} {t0_1 : Int32} {t1_0 : Int32} {t1_1 : Int32} {t2_0 : Int32} {t2_1 : Int32} {t3_0 : (Nat → Int32)} {t4_0 : Int32} {t4_1 : Int32} {t5_0 : (Nat → Int32)} {t6_0 : Int32} {t6_1 : Int32} {t7_0 : (Nat → Int32)} {t8_0 : Int32} {t8_1 : Int32} {t9_0 : (Nat → Int32)} {t10_0 : Int32} {t10_1 : Int32} {t11_0 : (Nat → Int32)} {t12_0 : Int32} {t12_1 : Int32} {t13_0 : (Nat → Int32)} {t14_0 : Int32} {t14_1 : Int32} {t15_0 : (Nat → Int32)} {t16_0 : Int32} {t16_1 : Int32} {t17_0 : (Nat → Int32)} {t18_0 : Int32} {t18_1 : Int32} {t19_0 : (Nat → Int32)} {t20_0 : Int32} {t20_1 : Int32} {t21_0 : Int32} {t21_1 : Int32} {t22_0 : (Nat → Int32)} {t23_0 : Int32} {t23_1 : Int32} {t24_0 : Int32} {t24_1 : Int32} {t25_0 : (Nat → Int32)} {va : Int} (ha : dO 108 t21_0 t21_1 t22_0 t20_0 t20_1 va) (h1 : dO 3 t2_0 t2_1 t3_0 t1_0 t1_1 1) (hd : rD t24_0 t24_1 t25_0 t23_0 t23_1) : (S_NH_shape x2 x3 x4 x5 x6 t0_0 t0_1 t1_0 t1_1 t2_0 t2_1 t3_0 t4_0 t4_1 t5_0 t6_0 t6_1 t7_0 t8_0 t8_1 t9_0 t10_0 t10_1 t11_0 t12_0 t12_1 t13_0 t14_0 t14_1 t15_0 t16_0 t16_1 t17_0 t18_0 t18_1 t19_0 t20_0 t20_1 t21_0 t21_1 t22_0 t23_0 t23_1 t24_0 t24_1 t25_0) ∧ Q_shape t1_0 t1_1 (F_NH_shape x2 x3 x4 x5 x6 t0_0 t0_1 t1_0 t1_1 t2_0 t2_1 t3_0 t4_0 t4_1 t5_0 t6_0 t6_1 t7_0 t8_0 t8_1 t9_0 t10_0 t10_1 t11_0 t12_0 t12_1 t13_0 t14_0 t14_1 t15_0 t16_0 t16_1 t17_0 t18_0 t18_1 t19_0 t20_0 t20_1 t21_0 t21_1 t22_0 t23_0 t23_1 t24_0 t24_1 t25_0) := by
  have e0 : (0 : Int32).toInt = 0 := rfl
  unfold S_NH_shape F_NH_shape
  by_cases g1 : x2 < (0 : Int32)
  ·
    rw [if_pos g1, if_pos g1]
    have g1i : x2.toInt < 0 := q_ltI g1
    unfold S_NH_shape_J35 F_NH_shape_J35
    unfold S_NH_shape_J36 F_NH_shape_J36
    have g2 : ¬ ((F_NH_need (0 : Int32)) = (0 : Int32)) := (by decide)
    rw [if_neg g2, if_neg g2]
    refine ⟨trivial, ?_⟩
    first | exact ⟨hd, h1⟩ | exact ⟨hd, h12⟩ | exact ⟨hkd, h1⟩ | exact ⟨hkd, h12⟩
  ·
    rw [if_neg g1, if_neg g1]
    have g1i : 0 ≤ x2.toInt := q_nltI g1
    by_cases g3 : (2 : Int32) < x2
    ·
      rw [if_pos g3, if_pos g3]
      have g3i : 2 < x2.toInt := q_ltI g3
      unfold S_NH_shape_J35 F_NH_shape_J35
      unfold S_NH_shape_J36 F_NH_shape_J36
      have g4 : ¬ ((F_NH_need (0 : Int32)) = (0 : Int32)) := (by decide)
      rw [if_neg g4, if_neg g4]
      refine ⟨trivial, ?_⟩
      first | exact ⟨hd, h1⟩ | exact ⟨hd, h12⟩ | exact ⟨hkd, h1⟩ | exact ⟨hkd, h12⟩
    ·
      rw [if_neg g3, if_neg g3]
      have g3i : x2.toInt ≤ 2 := q_nltI g3
      by_cases g5 : ((F_NH_isRegister x3) : Int32) = (0 : Int32)
      ·
        rw [if_pos g5, if_pos g5]
        unfold S_NH_shape_J35 F_NH_shape_J35
        unfold S_NH_shape_J36 F_NH_shape_J36
        have g6 : ¬ ((F_NH_need (0 : Int32)) = (0 : Int32)) := (by decide)
        rw [if_neg g6, if_neg g6]
        refine ⟨trivial, ?_⟩
        first | exact ⟨hd, h1⟩ | exact ⟨hd, h12⟩ | exact ⟨hkd, h1⟩ | exact ⟨hkd, h12⟩
      ·
        rw [if_neg g5, if_neg g5]
        have g5r := v_isReg g5
        by_cases g7 : ((F_NH_isRegister x4) : Int32) = (0 : Int32)
        ·
          rw [if_pos g7, if_pos g7]
          unfold S_NH_shape_J35 F_NH_shape_J35
          unfold S_NH_shape_J36 F_NH_shape_J36
          have g8 : ¬ ((F_NH_need (0 : Int32)) = (0 : Int32)) := (by decide)
          rw [if_neg g8, if_neg g8]
          refine ⟨trivial, ?_⟩
          first | exact ⟨hd, h1⟩ | exact ⟨hd, h12⟩ | exact ⟨hkd, h1⟩ | exact ⟨hkd, h12⟩
        ·
          rw [if_neg g7, if_neg g7]
          have g7r := v_isReg g7
          by_cases g9 : ((F_NH_isMode x6) : Int32) = (0 : Int32)
          ·
            rw [if_pos g9, if_pos g9]
            unfold S_NH_shape_J35 F_NH_shape_J35
            unfold S_NH_shape_J36 F_NH_shape_J36
            have g10 : ¬ ((F_NH_need (0 : Int32)) = (0 : Int32)) := (by decide)
            rw [if_neg g10, if_neg g10]
            refine ⟨trivial, ?_⟩
            first | exact ⟨hd, h1⟩ | exact ⟨hd, h12⟩ | exact ⟨hkd, h1⟩ | exact ⟨hkd, h12⟩
          ·
            rw [if_neg g9, if_neg g9]
            unfold S_NH_shape_J36 F_NH_shape_J36
            have g11 : ((F_NH_need (1 : Int32)) = (0 : Int32)) := (by decide)
            rw [if_pos g11, if_pos g11]
            by_cases g12 : x2 = (0 : Int32)
            ·
              rw [if_pos g12, if_pos g12]
              have g12i : x2.toInt = 0 := q_eqI g12
              unfold S_NH_shape_J70 F_NH_shape_J70
              by_cases g13 : (F_NH_need ((F_NH_isScale x5) : Int32)) = (0 : Int32)
              ·
                rw [if_pos g13, if_pos g13]
                have g13r := v_isScale (v_needP g13)
                refine v_cons (by omega) ?_
                refine v_cons (by omega) ?_
                rw [if_pos g12, if_pos g12]
                have h14 := T_divideToScale_o (R := (108 : Int32)) (R2 := (3 : Int32)) (x4 := x5) (x5 := x6) (t0_0 := t0_0) (t0_1 := t0_1) (t1_0 := t4_0) (t1_1 := t4_1) (t2_0 := t5_0) (t3_0 := t6_0) (t3_1 := t6_1) (t4_0 := t7_0) (t5_0 := t14_0) (t5_1 := t14_1) (t6_0 := t15_0) (t7_0 := t20_0) (t7_1 := t20_1) (t8_0 := t21_0) (t8_1 := t21_1) (t9_0 := t22_0) (t10_0 := t1_0) (t10_1 := t1_1) (t11_0 := t2_0) (t11_1 := t2_1) (t12_0 := t3_0) ha h1 (by decide) (by omega) (by omega) trivial trivial trivial
                refine v_owe h14.1 ?_
                replace h14 := h14.2
                generalize F_DW_divideToScale_o (108 : Int32) (3 : Int32) x5 x6 t0_0 t0_1 t4_0 t4_1 t5_0 t6_0 t6_1 t7_0 t14_0 t14_1 t15_0 t20_0 t20_1 t21_0 t21_1 t22_0 t1_0 t1_1 t2_0 t2_1 t3_0 = p912 at h14 ⊢
                unfold S_NH_shape_c102 F_NH_shape_c102
                rcases h14 with ⟨h140 | ⟨h141, hk⟩, h14g⟩
                ·
                  have h12 : dO 3 p912.2.2.2.2.2.2.2.2.2.2.2.2.1 p912.2.2.2.2.2.2.2.2.2.2.2.2.2.1 p912.2.2.2.2.2.2.2.2.2.2.2.2.2.2 t1_0 t1_1 1 := ⟨h14g.2.2.2, h1.2⟩
                  have g15 : ¬ ((F_NH_canHave (p912.1 : Int32)) = (0 : Int32)) := (by rw [h140]; decide)
                  rw [if_neg g15, if_neg g15]
                  refine ⟨trivial, ?_⟩
                  first | exact ⟨hd, h1⟩ | exact ⟨hd, h12⟩ | exact ⟨hkd, h1⟩ | exact ⟨hkd, h12⟩
                ·
                  have h12 : dO 3 p912.2.2.2.2.2.2.2.2.2.2.2.2.1 p912.2.2.2.2.2.2.2.2.2.2.2.2.2.1 p912.2.2.2.2.2.2.2.2.2.2.2.2.2.2 t1_0 t1_1 1 := ⟨h14g.2.2.2, h1.2⟩
                  have g16 : ((F_NH_canHave (p912.1 : Int32)) = (0 : Int32)) := (by rw [h141]; decide)
                  rw [if_pos g16, if_pos g16]
                  have h17 := T_keepDecimal (x2 := x4) (t0_0 := (p912.2.1 : Int64)) (t0_1 := (p912.2.2.1 : Int32)) (t1_0 := (p912.2.2.2.1 : Int32)) (t1_1 := (p912.2.2.2.2.1 : Int32)) (t2_0 := (p912.2.2.2.2.2.1 : (Nat → Int32))) (t3_0 := t18_0) (t3_1 := t18_1) (t4_0 := t19_0) (t5_0 := t23_0) (t5_1 := t23_1) (t6_0 := t24_0) (t6_1 := t24_1) (t7_0 := t25_0) hk hd (by first | assumption | omega | trivial | decide) (by first | assumption | omega | trivial | decide)
                  refine v_owe h17.1 ?_
                  replace h17 := h17.2
                  generalize F_NH_keepDecimal x4 (p912.2.1 : Int64) (p912.2.2.1 : Int32) (p912.2.2.2.1 : Int32) (p912.2.2.2.2.1 : Int32) (p912.2.2.2.2.2.1 : (Nat → Int32)) t18_0 t18_1 t19_0 t23_0 t23_1 t24_0 t24_1 t25_0 = p964 at h17 ⊢
                  have hkd := h17
                  unfold S_NH_shape_c179_10 F_NH_shape_c179_10
                  by_cases g18 : p964.1 = (0 : Int32)
                  ·
                    rw [if_pos g18, if_pos g18]
                    have g18i : p964.1.toInt = 0 := q_eqI g18
                    refine ⟨trivial, ?_⟩
                    first | exact ⟨hd, h1⟩ | exact ⟨hd, h12⟩ | exact ⟨hkd, h1⟩ | exact ⟨hkd, h12⟩
                  ·
                    rw [if_neg g18, if_neg g18]
                    have g18i : p964.1.toInt ≠ 0 := q_neI g18
                    refine ⟨trivial, ?_⟩
                    first | exact ⟨hd, h1⟩ | exact ⟨hd, h12⟩ | exact ⟨hkd, h1⟩ | exact ⟨hkd, h12⟩
              ·
                rw [if_neg g13, if_neg g13]
                refine ⟨trivial, ?_⟩
                first | exact ⟨hd, h1⟩ | exact ⟨hd, h12⟩ | exact ⟨hkd, h1⟩ | exact ⟨hkd, h12⟩
            ·
              rw [if_neg g12, if_neg g12]
              have g12i : x2.toInt ≠ 0 := q_neI g12
              by_cases g19 : x5 < (1 : Int32)
              ·
                rw [if_pos g19, if_pos g19]
                have g19i : x5.toInt < 1 := q_ltI g19
                unfold S_NH_shape_J69 F_NH_shape_J69
                unfold S_NH_shape_J70 F_NH_shape_J70
                have g20 : ¬ ((F_NH_need (0 : Int32)) = (0 : Int32)) := (by decide)
                rw [if_neg g20, if_neg g20]
                refine ⟨trivial, ?_⟩
                first | exact ⟨hd, h1⟩ | exact ⟨hd, h12⟩ | exact ⟨hkd, h1⟩ | exact ⟨hkd, h12⟩
              ·
                rw [if_neg g19, if_neg g19]
                have g19i : 1 ≤ x5.toInt := q_nltI g19
                by_cases g21 : (1000 : Int32) < x5
                ·
                  rw [if_pos g21, if_pos g21]
                  have g21i : 1000 < x5.toInt := q_ltI g21
                  unfold S_NH_shape_J69 F_NH_shape_J69
                  unfold S_NH_shape_J70 F_NH_shape_J70
                  have g22 : ¬ ((F_NH_need (0 : Int32)) = (0 : Int32)) := (by decide)
                  rw [if_neg g22, if_neg g22]
                  refine ⟨trivial, ?_⟩
                  first | exact ⟨hd, h1⟩ | exact ⟨hd, h12⟩ | exact ⟨hkd, h1⟩ | exact ⟨hkd, h12⟩
                ·
                  rw [if_neg g21, if_neg g21]
                  have g21i : x5.toInt ≤ 1000 := q_nltI g21
                  unfold S_NH_shape_J70 F_NH_shape_J70
                  have g23 : ((F_NH_need (1 : Int32)) = (0 : Int32)) := (by decide)
                  rw [if_pos g23, if_pos g23]
                  refine v_cons (by omega) ?_
                  refine v_cons (by omega) ?_
                  rw [if_neg g12, if_neg g12]
                  by_cases g24 : x2 = (1 : Int32)
                  ·
                    rw [if_pos g24, if_pos g24]
                    have g24i : x2.toInt = 1 := q_eqI g24
                    have h25 := T_divideToPrecision_o (R := (108 : Int32)) (R2 := (3 : Int32)) (x4 := x5) (x5 := x6) (t0_0 := t0_0) (t0_1 := t0_1) (t1_0 := t4_0) (t1_1 := t4_1) (t2_0 := t5_0) (t3_0 := t6_0) (t3_1 := t6_1) (t4_0 := t7_0) (t5_0 := t14_0) (t5_1 := t14_1) (t6_0 := t15_0) (t7_0 := t18_0) (t7_1 := t18_1) (t8_0 := t19_0) (t9_0 := t20_0) (t9_1 := t20_1) (t10_0 := t21_0) (t10_1 := t21_1) (t11_0 := t22_0) (t12_0 := t1_0) (t12_1 := t1_1) (t13_0 := t2_0) (t13_1 := t2_1) (t14_0 := t3_0) ha h1 (by decide) (by omega) (by omega) trivial trivial trivial
                    refine v_owe h25.1 ?_
                    replace h25 := h25.2
                    generalize F_DW_divideToPrecision_o (108 : Int32) (3 : Int32) x5 x6 t0_0 t0_1 t4_0 t4_1 t5_0 t6_0 t6_1 t7_0 t14_0 t14_1 t15_0 t18_0 t18_1 t19_0 t20_0 t20_1 t21_0 t21_1 t22_0 t1_0 t1_1 t2_0 t2_1 t3_0 = p735 at h25 ⊢
                    unfold S_NH_shape_c133 F_NH_shape_c133
                    rcases h25 with ⟨h250 | ⟨h251, hk⟩, h25g⟩
                    ·
                      have h12 : dO 3 p735.2.2.2.2.2.2.2.2.2.2.2.2.2.2.2.1 p735.2.2.2.2.2.2.2.2.2.2.2.2.2.2.2.2.1 p735.2.2.2.2.2.2.2.2.2.2.2.2.2.2.2.2.2 t1_0 t1_1 1 := ⟨h25g.2.2.2.2, h1.2⟩
                      have g26 : ¬ ((F_NH_canHave (p735.1 : Int32)) = (0 : Int32)) := (by rw [h250]; decide)
                      rw [if_neg g26, if_neg g26]
                      refine ⟨trivial, ?_⟩
                      first | exact ⟨hd, h1⟩ | exact ⟨hd, h12⟩ | exact ⟨hkd, h1⟩ | exact ⟨hkd, h12⟩
                    ·
                      have h12 : dO 3 p735.2.2.2.2.2.2.2.2.2.2.2.2.2.2.2.1 p735.2.2.2.2.2.2.2.2.2.2.2.2.2.2.2.2.1 p735.2.2.2.2.2.2.2.2.2.2.2.2.2.2.2.2.2 t1_0 t1_1 1 := ⟨h25g.2.2.2.2, h1.2⟩
                      have g27 : ((F_NH_canHave (p735.1 : Int32)) = (0 : Int32)) := (by rw [h251]; decide)
                      rw [if_pos g27, if_pos g27]
                      have h28 := T_keepDecimal (x2 := x4) (t0_0 := (p735.2.1 : Int64)) (t0_1 := (p735.2.2.1 : Int32)) (t1_0 := (p735.2.2.2.1 : Int32)) (t1_1 := (p735.2.2.2.2.1 : Int32)) (t2_0 := (p735.2.2.2.2.2.1 : (Nat → Int32))) (t3_0 := (p735.2.2.2.2.2.2.2.2.2.2.2.2.1 : Int32)) (t3_1 := (p735.2.2.2.2.2.2.2.2.2.2.2.2.2.1 : Int32)) (t4_0 := (p735.2.2.2.2.2.2.2.2.2.2.2.2.2.2.1 : (Nat → Int32))) (t5_0 := t23_0) (t5_1 := t23_1) (t6_0 := t24_0) (t6_1 := t24_1) (t7_0 := t25_0) hk hd (by first | assumption | omega | trivial | decide) (by first | assumption | omega | trivial | decide)
                      refine v_owe h28.1 ?_
                      replace h28 := h28.2
                      generalize F_NH_keepDecimal x4 (p735.2.1 : Int64) (p735.2.2.1 : Int32) (p735.2.2.2.1 : Int32) (p735.2.2.2.2.1 : Int32) (p735.2.2.2.2.2.1 : (Nat → Int32)) (p735.2.2.2.2.2.2.2.2.2.2.2.2.1 : Int32) (p735.2.2.2.2.2.2.2.2.2.2.2.2.2.1 : Int32) (p735.2.2.2.2.2.2.2.2.2.2.2.2.2.2.1 : (Nat → Int32)) t23_0 t23_1 t24_0 t24_1 t25_0 = p790 at h28 ⊢
                      have hkd := h28
                      unfold S_NH_shape_c179_8 F_NH_shape_c179_8
                      by_cases g29 : p790.1 = (0 : Int32)
                      ·
                        rw [if_pos g29, if_pos g29]
                        have g29i : p790.1.toInt = 0 := q_eqI g29
                        refine ⟨trivial, ?_⟩
                        first | exact ⟨hd, h1⟩ | exact ⟨hd, h12⟩ | exact ⟨hkd, h1⟩ | exact ⟨hkd, h12⟩
                      ·
                        rw [if_neg g29, if_neg g29]
                        have g29i : p790.1.toInt ≠ 0 := q_neI g29
                        refine ⟨trivial, ?_⟩
                        first | exact ⟨hd, h1⟩ | exact ⟨hd, h12⟩ | exact ⟨hkd, h1⟩ | exact ⟨hkd, h12⟩
                  ·
                    rw [if_neg g24, if_neg g24]
                    have g24i : x2.toInt ≠ 1 := q_neI g24
                    by_cases g30 : ((F_Big_sign (108 : Int32) t21_0 t21_1) : Int32) < (0 : Int32)
                    ·
                      rw [if_pos g30, if_pos g30]
                      have g31 : ¬ ((F_NH_canHave (0 : Int32)) = (0 : Int32)) := (by decide)
                      rw [if_neg g31, if_neg g31]
                      refine ⟨trivial, ?_⟩
                      first | exact ⟨hd, h1⟩ | exact ⟨hd, h12⟩ | exact ⟨hkd, h1⟩ | exact ⟨hkd, h12⟩
                    ·
                      rw [if_neg g30, if_neg g30]
                      have hvs := v_sgnN ha.1 g30
                      have g32 : ((F_NH_canHave (1 : Int32)) = (0 : Int32)) := (by decide)
                      rw [if_pos g32, if_pos g32]
                      have h33 := T_squareRoot (R := (108 : Int32)) (x3 := x5) (x4 := x6) (t0_0 := t0_0) (t0_1 := t0_1) (t1_0 := t4_0) (t1_1 := t4_1) (t2_0 := t5_0) (t3_0 := t6_0) (t3_1 := t6_1) (t4_0 := t7_0) (t5_0 := t8_0) (t5_1 := t8_1) (t6_0 := t9_0) (t7_0 := t10_0) (t7_1 := t10_1) (t8_0 := t11_0) (t9_0 := t12_0) (t9_1 := t12_1) (t10_0 := t13_0) (t11_0 := t14_0) (t11_1 := t14_1) (t12_0 := t15_0) (t13_0 := t16_0) (t13_1 := t16_1) (t14_0 := t17_0) (t15_0 := t18_0) (t15_1 := t18_1) (t16_0 := t19_0) (t17_0 := t20_0) (t17_1 := t20_1) (t18_0 := t21_0) (t18_1 := t21_1) (t19_0 := t22_0) ha hvs (by omega) (by omega) trivial trivial trivial trivial trivial trivial trivial
                      refine v_owe h33.1 ?_
                      replace h33 := h33.2
                      generalize F_DW_squareRoot (108 : Int32) x5 x6 t0_0 t0_1 t4_0 t4_1 t5_0 t6_0 t6_1 t7_0 t8_0 t8_1 t9_0 t10_0 t10_1 t11_0 t12_0 t12_1 t13_0 t14_0 t14_1 t15_0 t16_0 t16_1 t17_0 t18_0 t18_1 t19_0 t20_0 t20_1 t21_0 t21_1 t22_0 = p541 at h33 ⊢
                      unfold S_NH_shape_c171_5 F_NH_shape_c171_5
                      rcases h33 with ⟨h330 | ⟨h331, hk⟩, _⟩
                      ·
                        have g34 : ¬ ((F_NH_canHave (p541.1 : Int32)) = (0 : Int32)) := (by rw [h330]; decide)
                        rw [if_neg g34, if_neg g34]
                        refine ⟨trivial, ?_⟩
                        first | exact ⟨hd, h1⟩ | exact ⟨hd, h12⟩ | exact ⟨hkd, h1⟩ | exact ⟨hkd, h12⟩
                      ·
                        have g35 : ((F_NH_canHave (p541.1 : Int32)) = (0 : Int32)) := (by rw [h331]; decide)
                        rw [if_pos g35, if_pos g35]
                        have h36 := T_keepDecimal (x2 := x4) (t0_0 := (p541.2.1 : Int64)) (t0_1 := (p541.2.2.1 : Int32)) (t1_0 := (p541.2.2.2.1 : Int32)) (t1_1 := (p541.2.2.2.2.1 : Int32)) (t2_0 := (p541.2.2.2.2.2.1 : (Nat → Int32))) (t3_0 := (p541.2.2.2.2.2.2.2.2.2.2.2.2.2.2.2.2.2.2.2.2.2.2.2.2.1 : Int32)) (t3_1 := (p541.2.2.2.2.2.2.2.2.2.2.2.2.2.2.2.2.2.2.2.2.2.2.2.2.2.1 : Int32)) (t4_0 := (p541.2.2.2.2.2.2.2.2.2.2.2.2.2.2.2.2.2.2.2.2.2.2.2.2.2.2 : (Nat → Int32))) (t5_0 := t23_0) (t5_1 := t23_1) (t6_0 := t24_0) (t6_1 := t24_1) (t7_0 := t25_0) hk hd (by first | assumption | omega | trivial | decide) (by first | assumption | omega | trivial | decide)
                        refine v_owe h36.1 ?_
                        replace h36 := h36.2
                        generalize F_NH_keepDecimal x4 (p541.2.1 : Int64) (p541.2.2.1 : Int32) (p541.2.2.2.1 : Int32) (p541.2.2.2.2.1 : Int32) (p541.2.2.2.2.2.1 : (Nat → Int32)) (p541.2.2.2.2.2.2.2.2.2.2.2.2.2.2.2.2.2.2.2.2.2.2.2.2.1 : Int32) (p541.2.2.2.2.2.2.2.2.2.2.2.2.2.2.2.2.2.2.2.2.2.2.2.2.2.1 : Int32) (p541.2.2.2.2.2.2.2.2.2.2.2.2.2.2.2.2.2.2.2.2.2.2.2.2.2.2 : (Nat → Int32)) t23_0 t23_1 t24_0 t24_1 t25_0 = p605 at h36 ⊢
                        have hkd := h36
                        unfold S_NH_shape_c179_6 F_NH_shape_c179_6
                        by_cases g37 : p605.1 = (0 : Int32)
                        ·
                          rw [if_pos g37, if_pos g37]
                          have g37i : p605.1.toInt = 0 := q_eqI g37
                          refine ⟨trivial, ?_⟩
                          first | exact ⟨hd, h1⟩ | exact ⟨hd, h12⟩ | exact ⟨hkd, h1⟩ | exact ⟨hkd, h12⟩
                        ·
                          rw [if_neg g37, if_neg g37]
                          have g37i : p605.1.toInt ≠ 0 := q_neI g37
                          refine ⟨trivial, ?_⟩
                          first | exact ⟨hd, h1⟩ | exact ⟨hd, h12⟩ | exact ⟨hkd, h1⟩ | exact ⟨hkd, h12⟩
def Q_makeWhole (p : Int32 × Int32 × Int32 × (Nat → Int32)) : Prop := ¬ p.1 = 0 ∨ (p.1 = 0 ∧ ∃ v : Int, bO 220 p.2.1 p.2.2.1 p.2.2.2 v)
theorem T_makeWhole {x2 : Int32} {x3 : Int32} {t0_0 : Int64} {t0_1 : Int32} {t1_0 : Int32} {t1_1 : Int32} {t2_0 : (Nat → Int32)} {t3_0 : (Nat → Int64)} {t4_0 : (Nat → Int64)} {t5_0 : Int32} {t5_1 : Int32} {t6_0 : (Nat → Int32)} {t7_0 : Int32} {t7_1 : Int32} {t8_0 : Int32} {t8_1 : Int32} {t9_0 : (Nat → Int32)} {vw vd : Int} (hw : bO 68 t5_0 t5_1 t6_0 vw) (hW : bB 67 vw) (hd : dO 108 t8_0 t8_1 t9_0 t7_0 t7_1 vd) (r0 : 0 ≤ x3.toInt) (r9 : x3.toInt ≤ 9) : (S_NH_makeWhole x2 x3 t0_0 t0_1 t1_0 t1_1 t2_0 t3_0 t4_0 t5_0 t5_1 t6_0 t7_0 t7_1 t8_0 t8_1 t9_0) ∧ Q_makeWhole (F_NH_makeWhole x2 x3 t0_0 t0_1 t1_0 t1_1 t2_0 t3_0 t4_0 t5_0 t5_1 t6_0 t7_0 t7_1 t8_0 t8_1 t9_0) := by
  have e0 : (0 : Int32).toInt = 0 := rfl
  have e220 : (220 : Int32).toInt = 220 := rfl
  have e68 : (68 : Int32).toInt = 68 := rfl
  unfold S_NH_makeWhole F_NH_makeWhole
  by_cases g1 : x2 = (0 : Int32)
  ·
    rw [if_pos g1, if_pos g1]
    have g1i : x2.toInt = 0 := q_eqI g1
    refine v_cons (by omega) ?_
    refine v_cons (by omega) ?_
    have h2 := W_copy  (R := (220 : Int32)) (s := t1_0) (neg := t1_1) (f := t2_0) hw (by have z := hw.2.2.2.1; omega) (by decide)
    generalize F_Big_copy (220 : Int32) (68 : Int32) t1_0 t1_1 t2_0 t5_0 t5_1 t6_0 = p325 at h2 ⊢
    have hn := h2
    unfold S_NH_makeWhole_c17 F_NH_makeWhole_c17
    refine ⟨trivial, ?_⟩
    first | exact Or.inr ⟨rfl, _, hn⟩ | exact Or.inl (by assumption)
  ·
    rw [if_neg g1, if_neg g1]
    have g1i : x2.toInt ≠ 0 := q_neI g1
    by_cases g3 : x2 = (1 : Int32)
    ·
      rw [if_pos g3, if_pos g3]
      have g3i : x2.toInt = 1 := q_eqI g3
      refine v_cons (by omega) ?_
      refine v_cons (by omega) ?_
      have h4 := T_towardsZero (R := (108 : Int32)) (t0_0 := t0_0) (t0_1 := t0_1) (t1_0 := t1_0) (t1_1 := t1_1) (t2_0 := t2_0) (t3_0 := t7_0) (t3_1 := t7_1) (t4_0 := t8_0) (t4_1 := t8_1) (t5_0 := t9_0) hd
      generalize F_DW_towardsZero (108 : Int32) t0_0 t0_1 t1_0 t1_1 t2_0 t7_0 t7_1 t8_0 t8_1 t9_0 = p283 at h4 ⊢
      obtain ⟨_, hn, _⟩ := h4.2
      unfold S_NH_makeWhole_c38 F_NH_makeWhole_c38
      by_cases g5 : (F_NH_canHave (p283.1 : Int32)) = (0 : Int32)
      ·
        rw [if_pos g5, if_pos g5]
        refine ⟨trivial, ?_⟩
        first | exact Or.inr ⟨rfl, _, hn⟩ | exact Or.inl (by assumption)
      ·
        rw [if_neg g5, if_neg g5]
        refine ⟨trivial, ?_⟩
        first | exact Or.inr ⟨rfl, _, hn⟩ | exact Or.inl (by assumption)
    ·
      rw [if_neg g3, if_neg g3]
      have g3i : x2.toInt ≠ 1 := q_neI g3
      by_cases g6 : x2 = (2 : Int32)
      ·
        rw [if_pos g6, if_pos g6]
        have g6i : x2.toInt = 2 := q_eqI g6
        rw [if_pos g6, if_pos g6]
        refine v_cons (by omega) ?_
        refine v_cons (by omega) ?_
        by_cases g7 : (F_NH_canHave ((F_Flo_isFinite (52 : Int32) (1075 : Int32) (2047 : Int32) (t3_0 x3.toNatClampNeg : Int64)) : Int32)) = (0 : Int32)
        ·
          rw [if_pos g7, if_pos g7]
          have h8 := T_towards (A := (52 : Int32)) (B := (1075 : Int32)) (C := (2047 : Int32)) (x2 := (t3_0 x3.toNatClampNeg : Int64)) (t0_0 := t1_0) (t0_1 := t1_1) (t1_0 := t2_0) (by decide) (by decide) (by decide)
          generalize F_Flo_towardsZero (52 : Int32) (1075 : Int32) (2047 : Int32) (t3_0 x3.toNatClampNeg : Int64) t1_0 t1_1 t2_0 = p94 at h8 ⊢
          obtain ⟨_, hn, _⟩ := h8
          unfold S_NH_makeWhole_c74 F_NH_makeWhole_c74
          refine ⟨trivial, ?_⟩
          first | exact Or.inr ⟨rfl, _, hn⟩ | exact Or.inl (by assumption)
        ·
          rw [if_neg g7, if_neg g7]
          refine ⟨trivial, ?_⟩
          first | exact Or.inr ⟨rfl, _, hn⟩ | exact Or.inl (by assumption)
      ·
        rw [if_neg g6, if_neg g6]
        have g6i : x2.toInt ≠ 2 := q_neI g6
        rw [if_neg g6, if_neg g6]
        refine v_cons (by omega) ?_
        refine v_cons (by omega) ?_
        by_cases g9 : (F_NH_canHave ((F_Flo_isFinite (23 : Int32) (150 : Int32) (255 : Int32) (t4_0 x3.toNatClampNeg : Int64)) : Int32)) = (0 : Int32)
        ·
          rw [if_pos g9, if_pos g9]
          have h10 := T_towards (A := (23 : Int32)) (B := (150 : Int32)) (C := (255 : Int32)) (x2 := (t4_0 x3.toNatClampNeg : Int64)) (t0_0 := t1_0) (t0_1 := t1_1) (t1_0 := t2_0) (by decide) (by decide) (by decide)
          generalize F_Flo_towardsZero (23 : Int32) (150 : Int32) (255 : Int32) (t4_0 x3.toNatClampNeg : Int64) t1_0 t1_1 t2_0 = p248 at h10 ⊢
          obtain ⟨_, hn, _⟩ := h10
          unfold S_NH_makeWhole_c74_4 F_NH_makeWhole_c74_4
          refine ⟨trivial, ?_⟩
          first | exact Or.inr ⟨rfl, _, hn⟩ | exact Or.inl (by assumption)
        ·
          rw [if_neg g9, if_neg g9]
          refine ⟨trivial, ?_⟩
          first | exact Or.inr ⟨rfl, _, hn⟩ | exact Or.inl (by assumption)
def Q_makeDecimal (p : Int32 × Int64 × Int32 × Int32 × Int32 × (Nat → Int32)) : Prop := ¬ p.1 = 0 ∨ (p.1 = 0 ∧ bK p.2.2.2.1 p.2.2.2.2.1 p.2.2.2.2.2)
theorem T_makeDecimal {x2 : Int32} {x3 : Int32} {t0_0 : Int64} {t0_1 : Int32} {t1_0 : Int32} {t1_1 : Int32} {t2_0 : (Nat → Int32)} {t3_0 : (Nat → Int64)} {t4_0 : (Nat → Int64)} {t5_0 : Int32} {t5_1 : Int32} {t6_0 : (Nat → Int32)} {t7_0 : Int32} {t7_1 : Int32} {t8_0 : Int32} {t8_1 : Int32} {t9_0 : (Nat → Int32)} {vw vd : Int} (hw : bO 68 t5_0 t5_1 t6_0 vw) (hW : bB 67 vw) (hd : dO 108 t8_0 t8_1 t9_0 t7_0 t7_1 vd) (r0 : 0 ≤ x3.toInt) (r9 : x3.toInt ≤ 9) : (S_NH_makeDecimal x2 x3 t0_0 t0_1 t1_0 t1_1 t2_0 t3_0 t4_0 t5_0 t5_1 t6_0 t7_0 t7_1 t8_0 t8_1 t9_0) ∧ Q_makeDecimal (F_NH_makeDecimal x2 x3 t0_0 t0_1 t1_0 t1_1 t2_0 t3_0 t4_0 t5_0 t5_1 t6_0 t7_0 t7_1 t8_0 t8_1 t9_0) := by
  have e0 : (0 : Int32).toInt = 0 := rfl
  have e220 : (220 : Int32).toInt = 220 := rfl
  have e68 : (68 : Int32).toInt = 68 := rfl
  unfold S_NH_makeDecimal F_NH_makeDecimal
  by_cases g1 : x2 = (1 : Int32)
  ·
    rw [if_pos g1, if_pos g1]
    have g1i : x2.toInt = 1 := q_eqI g1
    refine v_cons (by omega) ?_
    refine v_cons (by omega) ?_
    have h2 := T_take (R := (108 : Int32)) (t0_0 := t0_0) (t0_1 := t0_1) (t1_0 := t1_0) (t1_1 := t1_1) (t2_0 := t2_0) (t3_0 := t7_0) (t3_1 := t7_1) (t4_0 := t8_0) (t4_1 := t8_1) (t5_0 := t9_0) hd.1
    generalize F_DW_take (108 : Int32) t0_0 t0_1 t1_0 t1_1 t2_0 t7_0 t7_1 t8_0 t8_1 t9_0 = p351 at h2 ⊢
    have hk := bO.K h2.2 hd.B (by decide)
    unfold S_NH_makeDecimal_c15 F_NH_makeDecimal_c15
    refine ⟨trivial, ?_⟩
    first | exact Or.inr ⟨rfl, hk⟩ | exact Or.inl (by assumption)
  ·
    rw [if_neg g1, if_neg g1]
    have g1i : x2.toInt ≠ 1 := q_neI g1
    by_cases g3 : x2 = (0 : Int32)
    ·
      rw [if_pos g3, if_pos g3]
      have g3i : x2.toInt = 0 := q_eqI g3
      refine v_cons (by omega) ?_
      refine v_cons (by omega) ?_
      have h4 := W_copy  (R := (220 : Int32)) (s := t1_0) (neg := t1_1) (f := t2_0) hw (by have z := hw.2.2.2.1; omega) (by decide)
      generalize F_Big_copy (220 : Int32) (68 : Int32) t1_0 t1_1 t2_0 t5_0 t5_1 t6_0 = p312 at h4 ⊢
      have hk := bO.K h4 hW (by decide)
      unfold S_NH_makeDecimal_c38 F_NH_makeDecimal_c38
      refine ⟨trivial, ?_⟩
      first | exact Or.inr ⟨rfl, hk⟩ | exact Or.inl (by assumption)
    ·
      rw [if_neg g3, if_neg g3]
      have g3i : x2.toInt ≠ 0 := q_neI g3
      by_cases g5 : x2 = (2 : Int32)
      ·
        rw [if_pos g5, if_pos g5]
        have g5i : x2.toInt = 2 := q_eqI g5
        rw [if_pos g5, if_pos g5]
        refine v_cons (by omega) ?_
        refine v_cons (by omega) ?_
        by_cases g6 : (F_NH_canHave ((F_Flo_isFinite (52 : Int32) (1075 : Int32) (2047 : Int32) (t3_0 x3.toNatClampNeg : Int64)) : Int32)) = (0 : Int32)
        ·
          rw [if_pos g6, if_pos g6]
          have h7 := T_exactly (A := (52 : Int32)) (B := (1075 : Int32)) (C := (2047 : Int32)) (x2 := (t3_0 x3.toNatClampNeg : Int64)) (t0_0 := t1_0) (t0_1 := t1_1) (t1_0 := t2_0) (by decide) (by decide) (by decide)
          generalize F_Flo_exactly (52 : Int32) (1075 : Int32) (2047 : Int32) (t3_0 x3.toNatClampNeg : Int64) t1_0 t1_1 t2_0 = p96 at h7 ⊢
          have hk := h7
          unfold S_NH_makeDecimal_c83 F_NH_makeDecimal_c83
          refine ⟨trivial, ?_⟩
          first | exact Or.inr ⟨rfl, hk⟩ | exact Or.inl (by assumption)
        ·
          rw [if_neg g6, if_neg g6]
          refine ⟨trivial, ?_⟩
          first | exact Or.inr ⟨rfl, hk⟩ | exact Or.inl (by assumption)
      ·
        rw [if_neg g5, if_neg g5]
        have g5i : x2.toInt ≠ 2 := q_neI g5
        rw [if_neg g5, if_neg g5]
        refine v_cons (by omega) ?_
        refine v_cons (by omega) ?_
        by_cases g8 : (F_NH_canHave ((F_Flo_isFinite (23 : Int32) (150 : Int32) (255 : Int32) (t4_0 x3.toNatClampNeg : Int64)) : Int32)) = (0 : Int32)
        ·
          rw [if_pos g8, if_pos g8]
          have h9 := T_exactly (A := (23 : Int32)) (B := (150 : Int32)) (C := (255 : Int32)) (x2 := (t4_0 x3.toNatClampNeg : Int64)) (t0_0 := t1_0) (t0_1 := t1_1) (t1_0 := t2_0) (by decide) (by decide) (by decide)
          generalize F_Flo_exactly (23 : Int32) (150 : Int32) (255 : Int32) (t4_0 x3.toNatClampNeg : Int64) t1_0 t1_1 t2_0 = p274 at h9 ⊢
          have hk := h9
          unfold S_NH_makeDecimal_c83_4 F_NH_makeDecimal_c83_4
          refine ⟨trivial, ?_⟩
          first | exact Or.inr ⟨rfl, hk⟩ | exact Or.inl (by assumption)
        ·
          rw [if_neg g8, if_neg g8]
          refine ⟨trivial, ?_⟩
          first | exact Or.inr ⟨rfl, hk⟩ | exact Or.inl (by assumption)
theorem T_madeFloat_w {x2 : Int32} {x3 : Int32} {t0_0 : Int32} {t0_1 : Int32} {t1_0 : (Nat → Int32)} {t2_0 : Int32} {t2_1 : Int32} {t3_0 : (Nat → Int32)} {t4_0 : Int32} {t4_1 : Int32} {t5_0 : (Nat → Int32)} {t6_0 : Int32} {t6_1 : Int32} {t7_0 : (Nat → Int32)} {t8_0 : Int32} {t8_1 : Int32} {t9_0 : (Nat → Int32)} {t10_0 : (Nat → Int64)} {t11_0 : (Nat → Int64)} {t12_0 : Int32} {t12_1 : Int32} {t13_0 : (Nat → Int32)} {t14_0 : Int32} {t14_1 : Int32} {t15_0 : Int32} {t15_1 : Int32} {t16_0 : (Nat → Int32)} {vd : Int} (hd : dO 108 t15_0 t15_1 t16_0 t14_0 t14_1 vd) (r0 : 0 ≤ x3.toInt) (r9 : x3.toInt ≤ 9) : (S_NH_madeFloat_w x2 x3 t0_0 t0_1 t1_0 t2_0 t2_1 t3_0 t4_0 t4_1 t5_0 t6_0 t6_1 t7_0 t8_0 t8_1 t9_0 t10_0 t11_0 t12_0 t12_1 t13_0 t14_0 t14_1 t15_0 t15_1 t16_0) := by
  have e0 : (0 : Int32).toInt = 0 := rfl
  have e220 : (220 : Int32).toInt = 220 := rfl
  have e68 : (68 : Int32).toInt = 68 := rfl
  unfold S_NH_madeFloat_w
  by_cases g1 : x2 = (0 : Int32)
  ·
    rw [if_pos g1]
    have g1i : x2.toInt = 0 := q_eqI g1
    refine And.intro (by omega) ?_
    refine And.intro (by omega) ?_
    exact trivial
  ·
    rw [if_neg g1]
    have g1i : x2.toInt ≠ 0 := q_neI g1
    by_cases g2 : x2 = (1 : Int32)
    ·
      rw [if_pos g2]
      have g2i : x2.toInt = 1 := q_eqI g2
      refine And.intro (by omega) ?_
      refine And.intro (by omega) ?_
      have h3 := S_near (A := (52 : Int32)) (B := (1075 : Int32)) (C := (2047 : Int32)) (R2 := (108 : Int32)) (x3 := (t14_0.toInt64 : Int64)) (t0_0 := t6_0) (t0_1 := t6_1) (t1_0 := t7_0) (t2_0 := t8_0) (t2_1 := t8_1) (t3_0 := t9_0) (t4_0 := t2_0) (t4_1 := t2_1) (t5_0 := t3_0) (t6_0 := t4_0) (t6_1 := t4_1) (t7_0 := t5_0) (t8_0 := t15_0) (t8_1 := t15_1) (t9_0 := t16_0) hd.1 (v_digs hd) (by rw [q_i2l rfl]; have z := hd.2.2; omega) (by rw [q_i2l rfl]; have z := hd.2.2; omega)
      refine v_oweS h3 ?_
      generalize F_Flo_nearestDecimal (52 : Int32) (1075 : Int32) (2047 : Int32) (108 : Int32) (t14_0.toInt64 : Int64) t6_0 t6_1 t7_0 t8_0 t8_1 t9_0 t2_0 t2_1 t3_0 t4_0 t4_1 t5_0 t15_0 t15_1 t16_0 = p244
      unfold S_NH_madeFloat_w_c56
      exact trivial
    ·
      rw [if_neg g2]
      have g2i : x2.toInt ≠ 1 := q_neI g2
      by_cases g4 : x2 = (2 : Int32)
      ·
        rw [if_pos g4]
        have g4i : x2.toInt = 2 := q_eqI g4
        refine And.intro (by omega) ?_
        refine And.intro (by omega) ?_
        rw [if_pos g4]
        exact trivial
      ·
        rw [if_neg g4]
        have g4i : x2.toInt ≠ 2 := q_neI g4
        refine And.intro (by omega) ?_
        refine And.intro (by omega) ?_
        rw [if_neg g4]
        generalize F_Flo_changed (52 : Int32) (1075 : Int32) (2047 : Int32) (t11_0 x3.toNatClampNeg : Int64) (23 : Int32) (150 : Int32) (255 : Int32) t0_0 t0_1 t1_0 = p177
        unfold S_NH_madeFloat_w_c86_2
        exact trivial
theorem T_madeFloat_n {x2 : Int32} {x3 : Int32} {t0_0 : Int32} {t0_1 : Int32} {t1_0 : (Nat → Int32)} {t2_0 : Int32} {t2_1 : Int32} {t3_0 : (Nat → Int32)} {t4_0 : Int32} {t4_1 : Int32} {t5_0 : (Nat → Int32)} {t6_0 : Int32} {t6_1 : Int32} {t7_0 : (Nat → Int32)} {t8_0 : Int32} {t8_1 : Int32} {t9_0 : (Nat → Int32)} {t10_0 : (Nat → Int64)} {t11_0 : (Nat → Int64)} {t12_0 : Int32} {t12_1 : Int32} {t13_0 : (Nat → Int32)} {t14_0 : Int32} {t14_1 : Int32} {t15_0 : Int32} {t15_1 : Int32} {t16_0 : (Nat → Int32)} {vd : Int} (hd : dO 108 t15_0 t15_1 t16_0 t14_0 t14_1 vd) (r0 : 0 ≤ x3.toInt) (r9 : x3.toInt ≤ 9) : (S_NH_madeFloat_n x2 x3 t0_0 t0_1 t1_0 t2_0 t2_1 t3_0 t4_0 t4_1 t5_0 t6_0 t6_1 t7_0 t8_0 t8_1 t9_0 t10_0 t11_0 t12_0 t12_1 t13_0 t14_0 t14_1 t15_0 t15_1 t16_0) := by
  have e0 : (0 : Int32).toInt = 0 := rfl
  have e220 : (220 : Int32).toInt = 220 := rfl
  have e68 : (68 : Int32).toInt = 68 := rfl
  unfold S_NH_madeFloat_n
  by_cases g1 : x2 = (0 : Int32)
  ·
    rw [if_pos g1]
    have g1i : x2.toInt = 0 := q_eqI g1
    refine And.intro (by omega) ?_
    refine And.intro (by omega) ?_
    exact trivial
  ·
    rw [if_neg g1]
    have g1i : x2.toInt ≠ 0 := q_neI g1
    by_cases g2 : x2 = (1 : Int32)
    ·
      rw [if_pos g2]
      have g2i : x2.toInt = 1 := q_eqI g2
      refine And.intro (by omega) ?_
      refine And.intro (by omega) ?_
      have h3 := S_near (A := (23 : Int32)) (B := (150 : Int32)) (C := (255 : Int32)) (R2 := (108 : Int32)) (x3 := (t14_0.toInt64 : Int64)) (t0_0 := t6_0) (t0_1 := t6_1) (t1_0 := t7_0) (t2_0 := t8_0) (t2_1 := t8_1) (t3_0 := t9_0) (t4_0 := t2_0) (t4_1 := t2_1) (t5_0 := t3_0) (t6_0 := t4_0) (t6_1 := t4_1) (t7_0 := t5_0) (t8_0 := t15_0) (t8_1 := t15_1) (t9_0 := t16_0) hd.1 (v_digs hd) (by rw [q_i2l rfl]; have z := hd.2.2; omega) (by rw [q_i2l rfl]; have z := hd.2.2; omega)
      refine v_oweS h3 ?_
      generalize F_Flo_nearestDecimal (23 : Int32) (150 : Int32) (255 : Int32) (108 : Int32) (t14_0.toInt64 : Int64) t6_0 t6_1 t7_0 t8_0 t8_1 t9_0 t2_0 t2_1 t3_0 t4_0 t4_1 t5_0 t15_0 t15_1 t16_0 = p244
      unfold S_NH_madeFloat_n_c56
      exact trivial
    ·
      rw [if_neg g2]
      have g2i : x2.toInt ≠ 1 := q_neI g2
      by_cases g4 : x2 = (2 : Int32)
      ·
        rw [if_pos g4]
        have g4i : x2.toInt = 2 := q_eqI g4
        refine And.intro (by omega) ?_
        refine And.intro (by omega) ?_
        rw [if_pos g4]
        generalize F_Flo_changed (23 : Int32) (150 : Int32) (255 : Int32) (t10_0 x3.toNatClampNeg : Int64) (52 : Int32) (1075 : Int32) (2047 : Int32) t0_0 t0_1 t1_0 = p108
        unfold S_NH_madeFloat_n_c86
        exact trivial
      ·
        rw [if_neg g4]
        have g4i : x2.toInt ≠ 2 := q_neI g4
        refine And.intro (by omega) ?_
        refine And.intro (by omega) ?_
        rw [if_neg g4]
        exact trivial
def Q_convert (p : Int32 × Int64 × Int32 × Int32 × Int32 × (Nat → Int32) × Int32 × Int32 × (Nat → Int32) × Int32 × Int32 × (Nat → Int32) × Int32 × Int32 × (Nat → Int32) × Int32 × Int32 × (Nat → Int32) × (Nat → Int64) × (Nat → Int64) × Int32 × Int32 × (Nat → Int32) × Int32 × Int32 × Int32 × Int32 × (Nat → Int32)) : Prop := rW p.2.2.2.2.2.2.2.2.2.2.2.2.2.2.2.2.2.2.2.2.1 p.2.2.2.2.2.2.2.2.2.2.2.2.2.2.2.2.2.2.2.2.2.1 p.2.2.2.2.2.2.2.2.2.2.2.2.2.2.2.2.2.2.2.2.2.2.1 ∧ rD p.2.2.2.2.2.2.2.2.2.2.2.2.2.2.2.2.2.2.2.2.2.2.2.2.2.1 p.2.2.2.2.2.2.2.2.2.2.2.2.2.2.2.2.2.2.2.2.2.2.2.2.2.2.1 p.2.2.2.2.2.2.2.2.2.2.2.2.2.2.2.2.2.2.2.2.2.2.2.2.2.2.2 p.2.2.2.2.2.2.2.2.2.2.2.2.2.2.2.2.2.2.2.2.2.2.2.1 p.2.2.2.2.2.2.2.2.2.2.2.2.2.2.2.2.2.2.2.2.2.2.2.2.1
theorem T_convert {x2 : Int32} {x3 : Int32} {x4 : Int32} {x5 : Int32} {t0_0 : Int64} {t0_1 : Int32} {t1_0 : Int32} {t1_1 : Int32} {t2_0 : (Nat → Int32)} {t3_0 : Int32} {t3_1 : Int32} {t4_0 : (Nat → Int32)} {t5_0 : Int32} {t5_1 : Int32} {t6_0 : (Nat → Int32)} {t7_0 : Int32} {t7_1 : Int32} {t8_0 : (Nat → Int32)} {t9_0 : Int32} {t9_1 : Int32} {t10_0 : (Nat → Int32)} {t11_0 : (Nat → Int64)} {t12_0 : (Nat → Int64)} {t13_0 : Int32} {t13_1 : Int32} {t14_0 : (Nat → Int32)} {t15_0 : Int32} {t15_1 : Int32} {t16_0 : Int32} {t16_1 : Int32} {t17_0 : (Nat → Int32)} {t18_0 : Int32} {t18_1 : Int32} {t19_0 : (Nat → Int32)} {t20_0 : Int32} {t20_1 : Int32} {t21_0 : Int32} {t21_1 : Int32} {t22_0 : (Nat → Int32)} {vw vd : Int} (hw : bO 68 t13_0 t13_1 t14_0 vw) (hW : bB 67 vw) (hd : dO 108 t16_0 t16_1 t17_0 t15_0 t15_1 vd) (hw5 : rW t18_0 t18_1 t19_0) (hd5 : rD t21_0 t21_1 t22_0 t20_0 t20_1) : (S_NH_convert x2 x3 x4 x5 t0_0 t0_1 t1_0 t1_1 t2_0 t3_0 t3_1 t4_0 t5_0 t5_1 t6_0 t7_0 t7_1 t8_0 t9_0 t9_1 t10_0 t11_0 t12_0 t13_0 t13_1 t14_0 t15_0 t15_1 t16_0 t16_1 t17_0 t18_0 t18_1 t19_0 t20_0 t20_1 t21_0 t21_1 t22_0) ∧ Q_convert (F_NH_convert x2 x3 x4 x5 t0_0 t0_1 t1_0 t1_1 t2_0 t3_0 t3_1 t4_0 t5_0 t5_1 t6_0 t7_0 t7_1 t8_0 t9_0 t9_1 t10_0 t11_0 t12_0 t13_0 t13_1 t14_0 t15_0 t15_1 t16_0 t16_1 t17_0 t18_0 t18_1 t19_0 t20_0 t20_1 t21_0 t21_1 t22_0) := by
  have e0 : (0 : Int32).toInt = 0 := rfl
  have e220 : (220 : Int32).toInt = 220 := rfl
  have e68 : (68 : Int32).toInt = 68 := rfl
  unfold S_NH_convert F_NH_convert
  by_cases g1 : (F_NH_needRegister x2 x3) = (0 : Int32)
  ·
    rw [if_pos g1, if_pos g1]
    have g1r := v_needReg g1
    by_cases g2 : (F_NH_needRegister x4 x5) = (0 : Int32)
    ·
      rw [if_pos g2, if_pos g2]
      have g2r := v_needReg g2
      by_cases g3 : x4 = (0 : Int32)
      ·
        rw [if_pos g3, if_pos g3]
        have g3i : x4.toInt = 0 := q_eqI g3
        have h4 := T_makeWhole (x2 := x2) (x3 := x3) (t0_0 := t0_0) (t0_1 := t0_1) (t1_0 := t1_0) (t1_1 := t1_1) (t2_0 := t2_0) (t3_0 := t11_0) (t4_0 := t12_0) (t5_0 := t13_0) (t5_1 := t13_1) (t6_0 := t14_0) (t7_0 := t15_0) (t7_1 := t15_1) (t8_0 := t16_0) (t8_1 := t16_1) (t9_0 := t17_0) hw hW hd (by omega) (by omega)
        refine v_owe h4.1 ?_
        replace h4 := h4.2
        generalize F_NH_makeWhole x2 x3 t0_0 t0_1 t1_0 t1_1 t2_0 t11_0 t12_0 t13_0 t13_1 t14_0 t15_0 t15_1 t16_0 t16_1 t17_0 = p717 at h4 ⊢
        unfold S_NH_convert_c18 F_NH_convert_c18
        rcases h4 with h40 | ⟨h41, _, hn⟩
        ·
          rw [if_neg h40, if_neg h40]
          refine ⟨trivial, ?_⟩
          first | exact ⟨hw5, hd5⟩ | exact ⟨hkw, hd5⟩ | exact ⟨hw5, hkd⟩
        ·
          rw [if_pos h41, if_pos h41]
          have h5 := T_keepWhole (x2 := x5) (t0_0 := (p717.2.1 : Int32)) (t0_1 := (p717.2.2.1 : Int32)) (t1_0 := (p717.2.2.2 : (Nat → Int32))) (t2_0 := t18_0) (t2_1 := t18_1) (t3_0 := t19_0) hn hw5 (by omega) (by omega)
          refine v_owe h5.1 ?_
          replace h5 := h5.2
          generalize F_NH_keepWhole x5 (p717.2.1 : Int32) (p717.2.2.1 : Int32) (p717.2.2.2 : (Nat → Int32)) t18_0 t18_1 t19_0 = p760 at h5 ⊢
          have hkw := h5
          unfold S_NH_convert_c24 F_NH_convert_c24
          by_cases g6 : p760.1 = (0 : Int32)
          ·
            rw [if_pos g6, if_pos g6]
            have g6i : p760.1.toInt = 0 := q_eqI g6
            refine ⟨trivial, ?_⟩
            first | exact ⟨hw5, hd5⟩ | exact ⟨hkw, hd5⟩ | exact ⟨hw5, hkd⟩
          ·
            rw [if_neg g6, if_neg g6]
            have g6i : p760.1.toInt ≠ 0 := q_neI g6
            refine ⟨trivial, ?_⟩
            first | exact ⟨hw5, hd5⟩ | exact ⟨hkw, hd5⟩ | exact ⟨hw5, hkd⟩
      ·
        rw [if_neg g3, if_neg g3]
        have g3i : x4.toInt ≠ 0 := q_neI g3
        by_cases g7 : x4 = (1 : Int32)
        ·
          rw [if_pos g7, if_pos g7]
          have g7i : x4.toInt = 1 := q_eqI g7
          have h8 := T_makeDecimal (x2 := x2) (x3 := x3) (t0_0 := t0_0) (t0_1 := t0_1) (t1_0 := t1_0) (t1_1 := t1_1) (t2_0 := t2_0) (t3_0 := t11_0) (t4_0 := t12_0) (t5_0 := t13_0) (t5_1 := t13_1) (t6_0 := t14_0) (t7_0 := t15_0) (t7_1 := t15_1) (t8_0 := t16_0) (t8_1 := t16_1) (t9_0 := t17_0) hw hW hd (by omega) (by omega)
          refine v_owe h8.1 ?_
          replace h8 := h8.2
          generalize F_NH_makeDecimal x2 x3 t0_0 t0_1 t1_0 t1_1 t2_0 t11_0 t12_0 t13_0 t13_1 t14_0 t15_0 t15_1 t16_0 t16_1 t17_0 = p571 at h8 ⊢
          unfold S_NH_convert_c38 F_NH_convert_c38
          rcases h8 with h80 | ⟨h81, hk⟩
          ·
            rw [if_neg h80, if_neg h80]
            refine ⟨trivial, ?_⟩
            first | exact ⟨hw5, hd5⟩ | exact ⟨hkw, hd5⟩ | exact ⟨hw5, hkd⟩
          ·
            rw [if_pos h81, if_pos h81]
            have h9 := T_keepDecimal (x2 := x5) (t0_0 := (p571.2.1 : Int64)) (t0_1 := (p571.2.2.1 : Int32)) (t1_0 := (p571.2.2.2.1 : Int32)) (t1_1 := (p571.2.2.2.2.1 : Int32)) (t2_0 := (p571.2.2.2.2.2 : (Nat → Int32))) (t3_0 := t5_0) (t3_1 := t5_1) (t4_0 := t6_0) (t5_0 := t20_0) (t5_1 := t20_1) (t6_0 := t21_0) (t6_1 := t21_1) (t7_0 := t22_0) hk hd5 (by omega) (by omega)
            refine v_owe h9.1 ?_
            replace h9 := h9.2
            generalize F_NH_keepDecimal x5 (p571.2.1 : Int64) (p571.2.2.1 : Int32) (p571.2.2.2.1 : Int32) (p571.2.2.2.2.1 : Int32) (p571.2.2.2.2.2 : (Nat → Int32)) t5_0 t5_1 t6_0 t20_0 t20_1 t21_0 t21_1 t22_0 = p638 at h9 ⊢
            have hkd := h9
            unfold S_NH_convert_c44 F_NH_convert_c44
            by_cases g10 : p638.1 = (0 : Int32)
            ·
              rw [if_pos g10, if_pos g10]
              have g10i : p638.1.toInt = 0 := q_eqI g10
              refine ⟨trivial, ?_⟩
              first | exact ⟨hw5, hd5⟩ | exact ⟨hkw, hd5⟩ | exact ⟨hw5, hkd⟩
            ·
              rw [if_neg g10, if_neg g10]
              have g10i : p638.1.toInt ≠ 0 := q_neI g10
              refine ⟨trivial, ?_⟩
              first | exact ⟨hw5, hd5⟩ | exact ⟨hkw, hd5⟩ | exact ⟨hw5, hkd⟩
        ·
          rw [if_neg g7, if_neg g7]
          have g7i : x4.toInt ≠ 1 := q_neI g7
          by_cases g11 : x4 = (2 : Int32)
          ·
            rw [if_pos g11, if_pos g11]
            have g11i : x4.toInt = 2 := q_eqI g11
            rw [if_pos g11, if_pos g11]
            have h12 := T_madeFloat_w (x2 := x2) (x3 := x3) (t0_0 := t1_0) (t0_1 := t1_1) (t1_0 := t2_0) (t2_0 := t3_0) (t2_1 := t3_1) (t3_0 := t4_0) (t4_0 := t5_0) (t4_1 := t5_1) (t5_0 := t6_0) (t6_0 := t7_0) (t6_1 := t7_1) (t7_0 := t8_0) (t8_0 := t9_0) (t8_1 := t9_1) (t9_0 := t10_0) (t10_0 := t11_0) (t11_0 := t12_0) (t12_0 := t13_0) (t12_1 := t13_1) (t13_0 := t14_0) (t14_0 := t15_0) (t14_1 := t15_1) (t15_0 := t16_0) (t15_1 := t16_1) (t16_0 := t17_0) hd (by omega) (by omega)
            refine v_owe h12 ?_
            generalize F_NH_madeFloat_w x2 x3 t1_0 t1_1 t2_0 t3_0 t3_1 t4_0 t5_0 t5_1 t6_0 t7_0 t7_1 t8_0 t9_0 t9_1 t10_0 t11_0 t12_0 t13_0 t13_1 t14_0 t15_0 t15_1 t16_0 t16_1 t17_0 = p202
            unfold S_NH_convert_c65 F_NH_convert_c65
            refine v_cons (by omega) ?_
            refine v_cons (by omega) ?_
            refine ⟨trivial, ?_⟩
            first | exact ⟨hw5, hd5⟩ | exact ⟨hkw, hd5⟩ | exact ⟨hw5, hkd⟩
          ·
            rw [if_neg g11, if_neg g11]
            have g11i : x4.toInt ≠ 2 := q_neI g11
            rw [if_neg g11, if_neg g11]
            have h13 := T_madeFloat_n (x2 := x2) (x3 := x3) (t0_0 := t1_0) (t0_1 := t1_1) (t1_0 := t2_0) (t2_0 := t3_0) (t2_1 := t3_1) (t3_0 := t4_0) (t4_0 := t5_0) (t4_1 := t5_1) (t5_0 := t6_0) (t6_0 := t7_0) (t6_1 := t7_1) (t7_0 := t8_0) (t8_0 := t9_0) (t8_1 := t9_1) (t9_0 := t10_0) (t10_0 := t11_0) (t11_0 := t12_0) (t12_0 := t13_0) (t12_1 := t13_1) (t13_0 := t14_0) (t14_0 := t15_0) (t14_1 := t15_1) (t15_0 := t16_0) (t15_1 := t16_1) (t16_0 := t17_0) hd (by omega) (by omega)
            refine v_owe h13 ?_
            generalize F_NH_madeFloat_n x2 x3 t1_0 t1_1 t2_0 t3_0 t3_1 t4_0 t5_0 t5_1 t6_0 t7_0 t7_1 t8_0 t9_0 t9_1 t10_0 t11_0 t12_0 t13_0 t13_1 t14_0 t15_0 t15_1 t16_0 t16_1 t17_0 = p524
            unfold S_NH_convert_c65_4 F_NH_convert_c65_4
            refine v_cons (by omega) ?_
            refine v_cons (by omega) ?_
            refine ⟨trivial, ?_⟩
            first | exact ⟨hw5, hd5⟩ | exact ⟨hkw, hd5⟩ | exact ⟨hw5, hkd⟩
    ·
      rw [if_neg g2, if_neg g2]
      refine ⟨trivial, ?_⟩
      first | exact ⟨hw5, hd5⟩ | exact ⟨hkw, hd5⟩ | exact ⟨hw5, hkd⟩
  ·
    rw [if_neg g1, if_neg g1]
    refine ⟨trivial, ?_⟩
    first | exact ⟨hw5, hd5⟩ | exact ⟨hkw, hd5⟩ | exact ⟨hw5, hkd⟩

/-! bounds of quotients that go down, and of the shortest number's power -/
theorem n_divL {a b : Int64} {n : Int} (hb : b.toInt = n) (hn : 0 < n) : (0 ≤ a.toInt ∧ n * (a / b).toInt ≤ a.toInt ∧ a.toInt ≤ n * (a / b).toInt + (n - 1)) ∨ (a.toInt < 0 ∧ a.toInt ≤ n * (a / b).toInt ∧ n * (a / b).toInt ≤ a.toInt + (n - 1)) := by
  have hlo := Int64.le_toInt a
  have hhi := Int64.toInt_lt a
  by_cases h : 0 ≤ a.toInt
  · have h1 : a.toInt.tdiv n = a.toInt / n := Int.tdiv_eq_ediv_of_nonneg h
    have h2 := Int.mul_ediv_self_le (x := a.toInt) (k := n) (by omega)
    have h3 := Int.lt_mul_ediv_self_add (x := a.toInt) hn
    have h4 : 0 ≤ a.toInt / n := Int.ediv_nonneg h (by omega)
    have h5 : a.toInt / n ≤ a.toInt := Int.ediv_le_self n h
    have e : (a / b).toInt = a.toInt / n := by rw [Int64.toInt_div, hb, h1]; exact q_bmL (by omega) (by omega)
    left; rw [e]; exact ⟨h, h2, by omega⟩
  · have h1 : a.toInt.tdiv n = -((-a.toInt) / n) := by
      have h2 : a.toInt = -(-a.toInt) := by omega
      rw [h2, Int.neg_tdiv, Int.tdiv_eq_ediv_of_nonneg (by omega)]
      simp
    have h2 := Int.mul_ediv_self_le (x := -a.toInt) (k := n) (by omega)
    have h3 := Int.lt_mul_ediv_self_add (x := -a.toInt) hn
    have h4 : 0 ≤ -a.toInt / n := Int.ediv_nonneg (by omega) (by omega)
    have h5 : -a.toInt / n ≤ -a.toInt := Int.ediv_le_self n (by omega)
    have e : (a / b).toInt = -((-a.toInt) / n) := by rw [Int64.toInt_div, hb, h1]; exact q_bmL (by omega) (by omega)
    have h6 : n * -(-a.toInt / n) = -(n * (-a.toInt / n)) := by rw [Int.mul_neg]
    right; rw [e, h6]; exact ⟨by omega, by omega, by omega⟩
theorem v_fd3 {x : Int32} (h : -100000 ≤ x.toInt) (h2 : x.toInt ≤ 100000) : 3 * (F_jMath_floorDiv_III x 3).toInt ≤ x.toInt + 2 ∧ x.toInt ≤ 3 * (F_jMath_floorDiv_III x 3).toInt + 5 := by
  have d := n_divI (a := x) (b := 3) (n := 3) rfl (by decide)
  have e1 : ((x / 3) - 1 : Int32).toInt = (x / 3).toInt - 1 := q_subI (y := 1) rfl (by decide) (by omega) (by omega)
  unfold F_jMath_floorDiv_III
  split
  · omega
  · split
    · omega
    · rw [e1]; omega
theorem v_fdL {x : Int64} (h : -900000000000000 ≤ x.toInt) (h2 : x.toInt ≤ 900000000000000) : 1000000000 * (F_jMath_floorDiv_JJJ x 1000000000).toInt ≤ x.toInt + 999999999 ∧ x.toInt ≤ 1000000000 * (F_jMath_floorDiv_JJJ x 1000000000).toInt + 1999999999 := by
  have d := n_divL (a := x) (b := 1000000000) (n := 1000000000) rfl (by decide)
  have e1 : ((x / 1000000000) - 1 : Int64).toInt = (x / 1000000000).toInt - 1 := q_subL (y := 1) rfl (by decide) (by omega) (by omega)
  unfold F_jMath_floorDiv_JJJ
  split
  · omega
  · split
    · omega
    · rw [e1]; omega
theorem v_bl0 {R s n : Int32} {f : Nat → Int32} {v : Int} (h : bO R s n f v) : 0 ≤ (F_Big_bitLength R s n f).toInt ∧ (F_Big_bitLength R s n f).toInt ≤ 6820 := by
  by_cases hv : v = 0
  · have hs := h.nil.mpr hv
    unfold F_Big_bitLength
    rw [if_pos hs]
    decide
  · obtain ⟨b, e, h1, h2, _⟩ := W_bl h hv
    omega
theorem v_est {b a : Int32} (hb : 0 ≤ b.toInt ∧ b.toInt ≤ 6820) (ha : -1075 ≤ a.toInt ∧ a.toInt ≤ 2000) : -1000 ≤ ((F_jMath_floorDiv_JJJ ((((b - 1 : Int32) + a : Int32).toInt64 : Int64) * 301029995 : Int64) 1000000000).toInt32).toInt ∧ ((F_jMath_floorDiv_JJJ ((((b - 1 : Int32) + a : Int32).toInt64 : Int64) * 301029995 : Int64) 1000000000).toInt32).toInt ≤ 4000 := by
  have e1 : (b - 1 : Int32).toInt = b.toInt - 1 := q_subI (y := 1) rfl (by decide) (by omega) (by omega)
  have e2 : ((b - 1 : Int32) + a : Int32).toInt = (b.toInt - 1) + a.toInt := q_addI e1 rfl (by omega) (by omega)
  have e3 : (((b - 1 : Int32) + a : Int32).toInt64 : Int64).toInt = (b.toInt - 1) + a.toInt := q_i2l e2
  have e4 : ((((b - 1 : Int32) + a : Int32).toInt64 : Int64) * 301029995 : Int64).toInt = ((b.toInt - 1) + a.toInt) * 301029995 := q_mulL (y := 301029995) e3 (by decide) (by omega) (by omega)
  generalize ((((b - 1 : Int32) + a : Int32).toInt64 : Int64) * 301029995 : Int64) = x at e4 ⊢
  have d := v_fdL (x := x) (by omega) (by omega)
  have e5 := s_l2i (x := F_jMath_floorDiv_JJJ x 1000000000) (by omega) (by omega)
  rw [e5]; omega
def Q_chooseEnd (x4 : Int32) (p : Int64 × Int32 × Int32 × Int32 × Int32 × (Nat → Int32)) : Prop := x4.toInt ≤ p.2.1.toInt ∧ p.2.1.toInt ≤ x4.toInt + 20
theorem v_ceL {A : Int32} {B : Int32} {C : Int32} {x2 : Int32} {x3 : Int32} {x4 : Int32} {t0_0 : Int64} {t0_1 : Int32} {t0_2 : Int32} {t1_0 : Int32} {t1_1 : Int32} {t2_0 : (Nat → Int32)} {t3_0 : Int32} {t3_1 : Int32} {t4_0 : (Nat → Int32)} {lx21 : Int32} {lx22 : Int32} {lx23 : Int32} {lx24 : (Nat → Int32)} {lx49 : Int64} (h1 : -100000 ≤ x4.toInt) (h2 : x4.toInt ≤ 100000) : ∀ (n : Nat) (lx63 : Int32) (lx64 : Int64) (lx65 : Int32), (0 ≤ lx63.toInt ∧ lx63.toInt ≤ 20) → (20 - lx63.toInt < (n : Int)) → (lx65.toInt = x4.toInt + lx63.toInt) → Q_chooseEnd x4 (F_Flo_chooseEnd_L92 A B C x2 x3 x4 t0_0 t0_1 t0_2 t1_0 t1_1 t2_0 t3_0 t3_1 t4_0 lx21 lx22 lx23 lx24 lx49 n lx63 lx64 lx65) := by
  intro n
  induction n with
  | zero => intro lx63 lx64 lx65 h0 hm hx; exact absurd (show False by omega) id
  | succ n ih =>
    intro lx63 lx64 lx65 h0 hm hx
    rw [F_Flo_chooseEnd_L92.eq_2]
    by_cases g1 : (20 : Int32) ≤ lx63
    ·
      rw [if_pos g1]
      have g1i : 20 ≤ lx63.toInt := q_leI g1
      (unfold Q_chooseEnd; dsimp only; omega)
    ·
      rw [if_neg g1]
      have g1i : lx63.toInt < 20 := q_nleI g1
      by_cases g2 : (lg_cmp (lx64 - lx64 / 10 * 10 : Int64) 0 : Int32) = (0 : Int32)
      ·
        rw [if_pos g2]
        obtain ⟨a3, e4⟩ := q_nm (lx63 + 1 : Int32)
        rw [e4]
        have a3i : a3.toInt = lx63.toInt + 1 := by rw [← e4]; exact q_addI (x := lx63.toInt) (y := 1) rfl (by decide) (by omega) (by omega)
        obtain ⟨a5, e6⟩ := q_nm (lx65 + 1 : Int32)
        rw [e6]
        have a5i : a5.toInt = lx65.toInt + 1 := by rw [← e6]; exact q_addI (x := lx65.toInt) (y := 1) rfl (by decide) (by omega) (by omega)
        exact ih _ _ _ (by first | assumption | omega | trivial | decide) (by first | assumption | omega | trivial | decide) (by first | assumption | omega | trivial | decide)
      ·
        rw [if_neg g2]
        (unfold Q_chooseEnd; dsimp only; omega)
theorem T_chooseEnd {A : Int32} {B : Int32} {C : Int32} {x2 : Int32} {x3 : Int32} {x4 : Int32} {t0_0 : Int64} {t0_1 : Int32} {t0_2 : Int32} {t1_0 : Int32} {t1_1 : Int32} {t2_0 : (Nat → Int32)} {t3_0 : Int32} {t3_1 : Int32} {t4_0 : (Nat → Int32)} (h1 : -100000 ≤ x4.toInt) (h2 : x4.toInt ≤ 100000) : Q_chooseEnd x4 (F_Flo_chooseEnd A B C x2 x3 x4 t0_0 t0_1 t0_2 t1_0 t1_1 t2_0 t3_0 t3_1 t4_0) := by
  have e0 : (0 : Int32).toInt = 0 := rfl
  unfold F_Flo_chooseEnd
  by_cases g1 : x2 = (0 : Int32)
  ·
    rw [if_pos g1]
    have g1i : x2.toInt = 0 := q_eqI g1
    unfold F_Flo_chooseEnd_J69
    by_cases g2 : x3 = (0 : Int32)
    ·
      rw [if_pos g2]
      have g2i : x3.toInt = 0 := q_eqI g2
      unfold F_Flo_chooseEnd_J89
      exact v_ceL h1 h2 _ _ _ _ (by decide) (by decide) (by omega)
    ·
      rw [if_neg g2]
      have g2i : x3.toInt ≠ 0 := q_neI g2
      unfold F_Flo_chooseEnd_J89
      exact v_ceL h1 h2 _ _ _ _ (by decide) (by decide) (by omega)
  ·
    rw [if_neg g1]
    have g1i : x2.toInt ≠ 0 := q_neI g1
    by_cases g3 : x3 = (0 : Int32)
    ·
      rw [if_pos g3]
      have g3i : x3.toInt = 0 := q_eqI g3
      unfold F_Flo_chooseEnd_J69
      rw [if_pos g3]
      unfold F_Flo_chooseEnd_J89
      exact v_ceL h1 h2 _ _ _ _ (by decide) (by decide) (by omega)
    ·
      rw [if_neg g3]
      have g3i : x3.toInt ≠ 0 := q_neI g3
      generalize F_Big_shiftLeft (220 : Int32) (1 : Int32) t1_0 t1_1 t2_0 = p130
      unfold F_Flo_chooseEnd_c19
      by_cases g4 : (0 : Int32) < ((F_Big_compareSize (220 : Int32) (220 : Int32) (p130.1 : Int32) (p130.2.1 : Int32) (p130.2.2 : (Nat → Int32)) t3_0 t3_1 t4_0) : Int32)
      ·
        rw [if_pos g4]
        unfold F_Flo_chooseEnd_J62
        unfold F_Flo_chooseEnd_J67
        unfold F_Flo_chooseEnd_J69
        have g5 : ¬ ((1 : Int32) = (0 : Int32)) := (by decide)
        rw [if_neg g5]
        unfold F_Flo_chooseEnd_J89
        exact v_ceL h1 h2 _ _ _ _ (by decide) (by decide) (by omega)
      ·
        rw [if_neg g4]
        by_cases g6 : ((F_Big_compareSize (220 : Int32) (220 : Int32) (p130.1 : Int32) (p130.2.1 : Int32) (p130.2.2 : (Nat → Int32)) t3_0 t3_1 t4_0) : Int32) = (0 : Int32)
        ·
          rw [if_pos g6]
          by_cases g7 : (lg_cmp (t0_0 &&& 1 : Int64) 1 : Int32) = (0 : Int32)
          ·
            rw [if_pos g7]
            unfold F_Flo_chooseEnd_J62
            unfold F_Flo_chooseEnd_J67
            unfold F_Flo_chooseEnd_J69
            have g8 : ¬ ((1 : Int32) = (0 : Int32)) := (by decide)
            rw [if_neg g8]
            unfold F_Flo_chooseEnd_J89
            exact v_ceL h1 h2 _ _ _ _ (by decide) (by decide) (by omega)
          ·
            rw [if_neg g7]
            unfold F_Flo_chooseEnd_J66
            unfold F_Flo_chooseEnd_J67
            unfold F_Flo_chooseEnd_J69
            have g9 : ((0 : Int32) = (0 : Int32)) := (by decide)
            rw [if_pos g9]
            unfold F_Flo_chooseEnd_J89
            exact v_ceL h1 h2 _ _ _ _ (by decide) (by decide) (by omega)
        ·
          rw [if_neg g6]
          unfold F_Flo_chooseEnd_J66
          unfold F_Flo_chooseEnd_J67
          unfold F_Flo_chooseEnd_J69
          have g10 : ((0 : Int32) = (0 : Int32)) := (by decide)
          rw [if_pos g10]
          unfold F_Flo_chooseEnd_J89
          exact v_ceL h1 h2 _ _ _ _ (by decide) (by decide) (by omega)
def Q_prepare (t0_1 : Int32) (p : Int64 × Int32 × Int32 × Int32 × Int32 × (Nat → Int32) × Int32 × Int32 × (Nat → Int32) × Int32 × Int32 × (Nat → Int32) × Int32 × Int32 × (Nat → Int32)) : Prop := p.2.1 = t0_1 ∧ -1000 ≤ p.2.2.1.toInt ∧ p.2.2.1.toInt ≤ 4003
theorem v_prL {A : Int32} {B : Int32} {C : Int32} {x2 : Int64} {t0_0 : Int64} {t0_1 : Int32} {t0_2 : Int32} {t1_0 : Int32} {t1_1 : Int32} {t2_0 : (Nat → Int32)} {t3_0 : Int32} {t3_1 : Int32} {t4_0 : (Nat → Int32)} {t5_0 : Int32} {t5_1 : Int32} {t6_0 : (Nat → Int32)} {t7_0 : Int32} {t7_1 : Int32} {t8_0 : (Nat → Int32)} {a39 : Int32} {p64 : (Int32 × Int32 × (Nat → Int32))} {a99 : Int32} {p123 : (Int32 × Int32 × (Nat → Int32))} {y112 : Int32} {y113 : Int32} {f114 : (Nat → Int32)} {p147 : (Int32 × Int32 × (Nat → Int32))} {p180 : (Int32 × Int32 × (Nat → Int32))} {y169 : Int32} {y170 : Int32} {f171 : (Nat → Int32)} {p204 : (Int32 × Int32 × (Nat → Int32))} {p231 : (Int32 × Int32 × (Nat → Int32))} {y220 : Int32} {y221 : Int32} {f222 : (Nat → Int32)} {p255 : (Int32 × Int32 × (Nat → Int32))} {lx273 : Int32} {lx274 : Int32} {lx275 : (Nat → Int32)} {p311 : (Int32 × Int32 × (Nat → Int32))} {y301 : Int32} {y302 : Int32} {f303 : (Nat → Int32)} {p336 : (Int32 × Int32 × (Nat → Int32))} {y326 : Int32} {y327 : Int32} {f328 : (Nat → Int32)} {p362 : (Int32 × Int32 × (Nat → Int32))} {y352 : Int32} {y353 : Int32} {f354 : (Nat → Int32)} {p387 : (Int32 × Int32 × (Nat → Int32))} {y377 : Int32} {y378 : Int32} {f379 : (Nat → Int32)} (h1 : -1000 ≤ a99.toInt ∧ a99.toInt ≤ 4000) : ∀ (n : Nat) (lx398 : Int32) (lx399 : Int32) (lx400 : Int32) (lx401 : Int32) (lx402 : (Nat → Int32)), (0 ≤ lx398.toInt ∧ lx398.toInt ≤ 3) → (3 - lx398.toInt < (n : Int)) → (lx399.toInt = a99.toInt + lx398.toInt) → Q_prepare t0_1 (F_Flo_prepare_L218 A B C x2 t0_0 t0_1 t0_2 t1_0 t1_1 t2_0 t3_0 t3_1 t4_0 t5_0 t5_1 t6_0 t7_0 t7_1 t8_0 a39 p64 a99 p123 y112 y113 f114 p147 p180 y169 y170 f171 p204 p231 y220 y221 f222 p255 lx273 lx274 lx275 p311 y301 y302 f303 p336 y326 y327 f328 p362 y352 y353 f354 p387 y377 y378 f379 n lx398 lx399 lx400 lx401 lx402) := by
  intro n
  induction n with
  | zero => intro lx398 lx399 lx400 lx401 lx402 h0 hm hx; exact absurd (show False by omega) id
  | succ n ih =>
    intro lx398 lx399 lx400 lx401 lx402 h0 hm hx
    rw [F_Flo_prepare_L218.eq_2]
    by_cases g1 : (3 : Int32) ≤ lx398
    ·
      rw [if_pos g1]
      have g1i : 3 ≤ lx398.toInt := q_leI g1
      (unfold Q_prepare; dsimp only; exact ⟨rfl, by omega, by omega⟩)
    ·
      rw [if_neg g1]
      have g1i : lx398.toInt < 3 := q_nleI g1
      by_cases g2 : ((F_Big_compareSize (220 : Int32) (220 : Int32) y326 y327 f328 lx400 lx401 lx402) : Int32) < (0 : Int32)
      ·
        rw [if_pos g2]
        (unfold Q_prepare; dsimp only; exact ⟨rfl, by omega, by omega⟩)
      ·
        rw [if_neg g2]
        generalize F_Big_multiplySmall (220 : Int32) (10 : Int32) (0 : Int32) lx400 lx401 lx402 = p453
        unfold F_Flo_prepare_c239
        obtain ⟨a3, e4⟩ := q_nm (lx398 + 1 : Int32)
        rw [e4]
        have a3i : a3.toInt = lx398.toInt + 1 := by rw [← e4]; exact q_addI (x := lx398.toInt) (y := 1) rfl (by decide) (by omega) (by omega)
        obtain ⟨a5, e6⟩ := q_nm (lx399 + 1 : Int32)
        rw [e6]
        have a5i : a5.toInt = lx399.toInt + 1 := by rw [← e6]; exact q_addI (x := lx399.toInt) (y := 1) rfl (by decide) (by omega) (by omega)
        exact ih _ _ _ _ _ (by first | assumption | omega | trivial | decide) (by first | assumption | omega | trivial | decide) (by first | assumption | omega | trivial | decide)
theorem T_prepare {A : Int32} {B : Int32} {C : Int32} {x2 : Int64} {t0_0 : Int64} {t0_1 : Int32} {t0_2 : Int32} {t1_0 : Int32} {t1_1 : Int32} {t2_0 : (Nat → Int32)} {t3_0 : Int32} {t3_1 : Int32} {t4_0 : (Nat → Int32)} {t5_0 : Int32} {t5_1 : Int32} {t6_0 : (Nat → Int32)} {t7_0 : Int32} {t7_1 : Int32} {t8_0 : (Nat → Int32)} (hB : 150 ≤ B.toInt ∧ B.toInt ≤ 1075) (hC : 255 ≤ C.toInt ∧ C.toInt ≤ 2047) (hCB : C.toInt ≤ B.toInt + 972) : Q_prepare t0_1 (F_Flo_prepare A B C x2 t0_0 t0_1 t0_2 t1_0 t1_1 t2_0 t3_0 t3_1 t4_0 t5_0 t5_1 t6_0 t7_0 t7_1 t8_0) := by
  have e0 : (0 : Int32).toInt = 0 := rfl
  unfold F_Flo_prepare
  have h1 := v_fpw  (A := A) (B := B) (C := C) (x := x2) hB hC hCB
  have h2 := W_setLong  (R := (220 : Int32)) (x := ((F_Flo_number A B C x2) : Int64)) (s := t1_0) (neg := t1_1) (f := t2_0) (by decide) (by decide)
  generalize F_Flo_power A B C x2 = a39 at h1 ⊢
  have hpw := h1
  generalize F_Big_setLong (220 : Int32) ((F_Flo_number A B C x2) : Int64) t1_0 t1_1 t2_0 = p64 at h2 ⊢
  have hsl := h2
  unfold F_Flo_prepare_c31
  obtain ⟨a99, e3⟩ := q_nm ((((F_jMath_floorDiv_JJJ ((((((F_Big_bitLength (220 : Int32) (p64.1 : Int32) (p64.2.1 : Int32) (p64.2.2 : (Nat → Int32))) : Int32) - 1 : Int32) + a39 : Int32).toInt64 : Int64) * 301029995 : Int64) (1000000000 : Int64)) : Int64).toInt32 : Int32) : Int32)
  rw [e3]
  have a99b : -1000 ≤ a99.toInt ∧ a99.toInt ≤ 4000 := by rw [← e3]; exact v_est (v_bl0 hsl) (by omega)
  generalize F_Big_shiftLeft (220 : Int32) (2 + (if 0 < a39 then a39 else 0 : Int32) : Int32) (p64.1 : Int32) (p64.2.1 : Int32) (p64.2.2 : (Nat → Int32)) = p123
  unfold F_Flo_prepare_c68
  have h4 := W_setLong  (R := (220 : Int32)) (x := (1 : Int64)) (s := t3_0) (neg := t3_1) (f := t4_0) (by decide) (by decide)
  generalize F_Big_setLong (220 : Int32) (1 : Int64) t3_0 t3_1 t4_0 = p147 at h4 ⊢
  have hsl := h4
  unfold F_Flo_prepare_c74
  generalize F_Big_shiftLeft (220 : Int32) (2 + (if 0 < (-a39 : Int32) then (-a39 : Int32) else 0 : Int32) : Int32) (p147.1 : Int32) (p147.2.1 : Int32) (p147.2.2 : (Nat → Int32)) = p180
  unfold F_Flo_prepare_c87
  have h5 := W_setLong  (R := (220 : Int32)) (x := (2 : Int64)) (s := t5_0) (neg := t5_1) (f := t6_0) (by decide) (by decide)
  generalize F_Big_setLong (220 : Int32) (2 : Int64) t5_0 t5_1 t6_0 = p204 at h5 ⊢
  have hsl := h5
  unfold F_Flo_prepare_c100
  generalize F_Big_shiftLeft (220 : Int32) (if 0 < a39 then a39 else 0 : Int32) (p204.1 : Int32) (p204.2.1 : Int32) (p204.2.2 : (Nat → Int32)) = p231
  unfold F_Flo_prepare_c115
  generalize F_Big_copy (220 : Int32) (220 : Int32) t7_0 t7_1 t8_0 (p231.1 : Int32) (p231.2.1 : Int32) (p231.2.2 : (Nat → Int32)) = p255
  unfold F_Flo_prepare_c132
  by_cases g6 : (lg_cmp ((F_Flo_fraction A B C x2) : Int64) 0 : Int32) = (0 : Int32)
  ·
    rw [if_pos g6]
    by_cases g7 : ((F_Flo_exponent A B C x2) : Int32) ≤ (1 : Int32)
    ·
      rw [if_pos g7]
      unfold F_Flo_prepare_J166
      generalize F_Big_timesTen (220 : Int32) a99 (p180.1 : Int32) (p180.2.1 : Int32) (p180.2.2 : (Nat → Int32)) = p311
      unfold F_Flo_prepare_c172
      generalize F_Big_timesTen (220 : Int32) (-a99 : Int32) (p123.1 : Int32) (p123.2.1 : Int32) (p123.2.2 : (Nat → Int32)) = p336
      unfold F_Flo_prepare_c182
      generalize F_Big_timesTen (220 : Int32) (-a99 : Int32) (p231.1 : Int32) (p231.2.1 : Int32) (p231.2.2 : (Nat → Int32)) = p362
      unfold F_Flo_prepare_c197
      generalize F_Big_timesTen (220 : Int32) (-a99 : Int32) (p255.1 : Int32) (p255.2.1 : Int32) (p255.2.2 : (Nat → Int32)) = p387
      unfold F_Flo_prepare_c212
      exact v_prL a99b _ _ _ _ _ _ (by decide) (by decide) (by omega)
    ·
      rw [if_neg g7]
      generalize F_Big_shiftRight (220 : Int32) (1 : Int32) (p255.1 : Int32) (p255.2.1 : Int32) (p255.2.2 : (Nat → Int32)) = p500
      unfold F_Flo_prepare_c162
      unfold F_Flo_prepare_J166
      generalize F_Big_timesTen (220 : Int32) a99 (p180.1 : Int32) (p180.2.1 : Int32) (p180.2.2 : (Nat → Int32)) = p311_8
      unfold F_Flo_prepare_c172
      generalize F_Big_timesTen (220 : Int32) (-a99 : Int32) (p123.1 : Int32) (p123.2.1 : Int32) (p123.2.2 : (Nat → Int32)) = p336_9
      unfold F_Flo_prepare_c182
      generalize F_Big_timesTen (220 : Int32) (-a99 : Int32) (p231.1 : Int32) (p231.2.1 : Int32) (p231.2.2 : (Nat → Int32)) = p362_10
      unfold F_Flo_prepare_c197
      generalize F_Big_timesTen (220 : Int32) (-a99 : Int32) (p500.2.1 : Int32) (p500.2.2.1 : Int32) (p500.2.2.2 : (Nat → Int32)) = p387_11
      unfold F_Flo_prepare_c212
      exact v_prL a99b _ _ _ _ _ _ (by decide) (by decide) (by omega)
  ·
    rw [if_neg g6]
    unfold F_Flo_prepare_J166
    generalize F_Big_timesTen (220 : Int32) a99 (p180.1 : Int32) (p180.2.1 : Int32) (p180.2.2 : (Nat → Int32)) = p311_12
    unfold F_Flo_prepare_c172
    generalize F_Big_timesTen (220 : Int32) (-a99 : Int32) (p123.1 : Int32) (p123.2.1 : Int32) (p123.2.2 : (Nat → Int32)) = p336_13
    unfold F_Flo_prepare_c182
    generalize F_Big_timesTen (220 : Int32) (-a99 : Int32) (p231.1 : Int32) (p231.2.1 : Int32) (p231.2.2 : (Nat → Int32)) = p362_14
    unfold F_Flo_prepare_c197
    generalize F_Big_timesTen (220 : Int32) (-a99 : Int32) (p255.1 : Int32) (p255.2.1 : Int32) (p255.2.2 : (Nat → Int32)) = p387_15
    unfold F_Flo_prepare_c212
    exact v_prL a99b _ _ _ _ _ _ (by decide) (by decide) (by omega)
def Q_short (p : Int64 × Int32 × Int32 × Int32 × Int32 × (Nat → Int32) × Int32 × Int32 × (Nat → Int32) × Int32 × Int32 × (Nat → Int32) × Int32 × Int32 × (Nat → Int32) × Int32 × Int32 × (Nat → Int32)) : Prop := -2000 ≤ p.2.1.toInt ∧ p.2.1.toInt ≤ 5000
theorem v_fsL {A : Int32} {B : Int32} {C : Int32} {x2 : Int64} {t0_0 : Int64} {t0_1 : Int32} {t0_2 : Int32} {t1_0 : Int32} {t1_1 : Int32} {t2_0 : (Nat → Int32)} {t3_0 : Int32} {t3_1 : Int32} {t4_0 : (Nat → Int32)} {t5_0 : Int32} {t5_1 : Int32} {t6_0 : (Nat → Int32)} {t7_0 : Int32} {t7_1 : Int32} {t8_0 : (Nat → Int32)} {t9_0 : Int32} {t9_1 : Int32} {t10_0 : (Nat → Int32)} {p105 : (Int64 × Int32 × Int32 × Int32 × Int32 × (Nat → Int32) × Int32 × Int32 × (Nat → Int32) × Int32 × Int32 × (Nat → Int32) × Int32 × Int32 × (Nat → Int32))} {y61 : Int64} {y62 : Int32} {y63 : Int32} {y65 : Int32} {y66 : Int32} {f67 : (Nat → Int32)} {y70 : Int32} {y71 : Int32} {f72 : (Nat → Int32)} {y75 : Int32} {y76 : Int32} {f77 : (Nat → Int32)} {y80 : Int32} {y81 : Int32} {f82 : (Nat → Int32)} {lx134 : Int32} (h1 : -1000 ≤ y63.toInt ∧ y63.toInt ≤ 4003) (h2 : y62 = 0) : ∀ (n : Nat) (lx177 : Int32) (lx178 : Int64) (lx179 : Int32) (lx180 : Int32) (lx181 : (Nat → Int32)) (lx182 : Int32) (lx183 : Int32) (lx184 : (Nat → Int32)) (lx185 : Int32) (lx186 : Int32) (lx187 : (Nat → Int32)) (lx188 : Int32) (lx189 : Int32) (lx190 : (Nat → Int32)), (1 ≤ lx177.toInt ∧ lx177.toInt ≤ 21) → (21 - lx177.toInt < (n : Int)) → Q_short (F_Flo_findShortest_L59 A B C x2 t0_0 t0_1 t0_2 t1_0 t1_1 t2_0 t3_0 t3_1 t4_0 t5_0 t5_1 t6_0 t7_0 t7_1 t8_0 t9_0 t9_1 t10_0 p105 y61 y62 y63 y65 y66 f67 y70 y71 f72 y75 y76 f77 y80 y81 f82 lx134 n lx177 lx178 lx179 lx180 lx181 lx182 lx183 lx184 lx185 lx186 lx187 lx188 lx189 lx190) := by
  intro n
  induction n with
  | zero => intro lx177 lx178 lx179 lx180 lx181 lx182 lx183 lx184 lx185 lx186 lx187 lx188 lx189 lx190 h0 hm; exact absurd (show False by omega) id
  | succ n ih =>
    intro lx177 lx178 lx179 lx180 lx181 lx182 lx183 lx184 lx185 lx186 lx187 lx188 lx189 lx190 h0 hm
    have e0 : (0 : Int32).toInt = 0 := rfl
    have h2i : y62.toInt = 0 := by rw [h2]; rfl
    rw [F_Flo_findShortest_L59.eq_2]
    by_cases g1 : (20 : Int32) < lx177
    ·
      rw [if_pos g1]
      have g1i : 20 < lx177.toInt := q_ltI g1
      (unfold Q_short; dsimp only; omega)
    ·
      rw [if_neg g1]
      have g1i : lx177.toInt ≤ 20 := q_nltI g1
      generalize F_Flo_nextFigure A B C lx179 lx180 lx181 y70 y71 f72 lx182 lx183 lx184 lx185 lx186 lx187 = p274
      unfold F_Flo_findShortest_c76
      by_cases g2 : lx177 = (1 : Int32)
      ·
        rw [if_pos g2]
        have g2i : lx177.toInt = 1 := q_eqI g2
        obtain ⟨a3, e4⟩ := q_nm (lx177 + 1 : Int32)
        rw [e4]
        have a3i : a3.toInt = lx177.toInt + 1 := by rw [← e4]; exact q_addI (x := lx177.toInt) (y := 1) rfl (by decide) (by omega) (by omega)
        exact ih _ _ _ _ _ _ _ _ _ _ _ _ _ _ (by first | assumption | omega | trivial | decide) (by first | assumption | omega | trivial | decide)
      ·
        rw [if_neg g2]
        have g2i : lx177.toInt ≠ 1 := q_neI g2
        by_cases g5 : lx134 = (0 : Int32)
        ·
          rw [if_pos g5]
          have g5i : lx134.toInt = 0 := q_eqI g5
          generalize F_Big_compareSize (220 : Int32) (220 : Int32) (p274.2.1 : Int32) (p274.2.2.1 : Int32) (p274.2.2.2.1 : (Nat → Int32)) (p274.2.2.2.2.2.2.2.1 : Int32) (p274.2.2.2.2.2.2.2.2.1 : Int32) (p274.2.2.2.2.2.2.2.2.2 : (Nat → Int32)) = a303
          unfold F_Flo_findShortest_J114
          by_cases g6 : (0 : Int32) ≤ a303
          ·
            rw [if_pos g6]
            have g6i : 0 ≤ a303.toInt := q_leI g6
            unfold F_Flo_findShortest_J122
            generalize F_Big_copy (220 : Int32) (220 : Int32) lx188 lx189 lx190 (p274.2.1 : Int32) (p274.2.2.1 : Int32) (p274.2.2.2.1 : (Nat → Int32)) = p362
            unfold F_Flo_findShortest_c132
            generalize F_Big_addSize (220 : Int32) (220 : Int32) (p362.1 : Int32) (p362.2.1 : Int32) (p362.2.2 : (Nat → Int32)) (p274.2.2.2.2.1 : Int32) (p274.2.2.2.2.2.1 : Int32) (p274.2.2.2.2.2.2.1 : (Nat → Int32)) = p385
            unfold F_Flo_findShortest_c149
            rw [if_pos g5]
            generalize F_Big_compareSize (220 : Int32) (220 : Int32) (p385.1 : Int32) (p385.2.1 : Int32) (p385.2.2 : (Nat → Int32)) y70 y71 f72 = a397
            unfold F_Flo_findShortest_J174
            by_cases g7 : a397 ≤ (0 : Int32)
            ·
              rw [if_pos g7]
              have g7i : a397.toInt ≤ 0 := q_leI g7
              unfold F_Flo_findShortest_J182
              have g8 : ((0 : Int32) = (0 : Int32)) := (by decide)
              rw [if_pos g8]
              have g9 : ((0 : Int32) = (0 : Int32)) := (by decide)
              rw [if_pos g9]
              obtain ⟨a10, e11⟩ := q_nm (lx177 + 1 : Int32)
              rw [e11]
              have a10i : a10.toInt = lx177.toInt + 1 := by rw [← e11]; exact q_addI (x := lx177.toInt) (y := 1) rfl (by decide) (by omega) (by omega)
              exact ih _ _ _ _ _ _ _ _ _ _ _ _ _ _ (by first | assumption | omega | trivial | decide) (by first | assumption | omega | trivial | decide)
            ·
              rw [if_neg g7]
              have g7i : 0 < a397.toInt := q_nleI g7
              unfold F_Flo_findShortest_J182
              have g12 : ((0 : Int32) = (0 : Int32)) := (by decide)
              rw [if_pos g12]
              have g13 : ¬ ((1 : Int32) = (0 : Int32)) := (by decide)
              rw [if_neg g13]
              obtain ⟨a14, e15⟩ := q_nm (y63 - lx177 : Int32)
              rw [e15]
              have a14i : a14.toInt = y63.toInt - lx177.toInt := by rw [← e15]; exact q_subI (x := y63.toInt) (y := lx177.toInt) rfl rfl (by omega) (by omega)
              have h16 := T_chooseEnd (A := A) (B := B) (C := C) (x2 := (0 : Int32)) (x3 := (1 : Int32)) (x4 := a14) (t0_0 := ((lx178 * 10 : Int64) + ((p274.1 : Int32).toInt64 : Int64) : Int64)) (t0_1 := y62) (t0_2 := y63) (t1_0 := (p274.2.1 : Int32)) (t1_1 := (p274.2.2.1 : Int32)) (t2_0 := (p274.2.2.2.1 : (Nat → Int32))) (t3_0 := y70) (t3_1 := y71) (t4_0 := f72) (by omega) (by omega)
              generalize F_Flo_chooseEnd A B C (0 : Int32) (1 : Int32) a14 ((lx178 * 10 : Int64) + ((p274.1 : Int32).toInt64 : Int64) : Int64) y62 y63 (p274.2.1 : Int32) (p274.2.2.1 : Int32) (p274.2.2.2.1 : (Nat → Int32)) y70 y71 f72 = p508 at h16 ⊢
              unfold Q_chooseEnd at h16
              unfold F_Flo_findShortest_c206_12
              (unfold Q_short; dsimp only; omega)
          ·
            rw [if_neg g6]
            have g6i : a303.toInt < 0 := q_nleI g6
            unfold F_Flo_findShortest_J122
            generalize F_Big_copy (220 : Int32) (220 : Int32) lx188 lx189 lx190 (p274.2.1 : Int32) (p274.2.2.1 : Int32) (p274.2.2.2.1 : (Nat → Int32)) = p362_17
            unfold F_Flo_findShortest_c132
            generalize F_Big_addSize (220 : Int32) (220 : Int32) (p362_17.1 : Int32) (p362_17.2.1 : Int32) (p362_17.2.2 : (Nat → Int32)) (p274.2.2.2.2.1 : Int32) (p274.2.2.2.2.2.1 : Int32) (p274.2.2.2.2.2.2.1 : (Nat → Int32)) = p385_18
            unfold F_Flo_findShortest_c149
            rw [if_pos g5]
            generalize F_Big_compareSize (220 : Int32) (220 : Int32) (p385_18.1 : Int32) (p385_18.2.1 : Int32) (p385_18.2.2 : (Nat → Int32)) y70 y71 f72 = a397_19
            unfold F_Flo_findShortest_J174
            by_cases g20 : a397_19 ≤ (0 : Int32)
            ·
              rw [if_pos g20]
              have g20i : a397_19.toInt ≤ 0 := q_leI g20
              unfold F_Flo_findShortest_J182
              have g21 : ¬ ((1 : Int32) = (0 : Int32)) := (by decide)
              rw [if_neg g21]
              obtain ⟨a22, e23⟩ := q_nm (y63 - lx177 : Int32)
              rw [e23]
              have a22i : a22.toInt = y63.toInt - lx177.toInt := by rw [← e23]; exact q_subI (x := y63.toInt) (y := lx177.toInt) rfl rfl (by omega) (by omega)
              have h24 := T_chooseEnd (A := A) (B := B) (C := C) (x2 := (1 : Int32)) (x3 := (0 : Int32)) (x4 := a22) (t0_0 := ((lx178 * 10 : Int64) + ((p274.1 : Int32).toInt64 : Int64) : Int64)) (t0_1 := y62) (t0_2 := y63) (t1_0 := (p274.2.1 : Int32)) (t1_1 := (p274.2.2.1 : Int32)) (t2_0 := (p274.2.2.2.1 : (Nat → Int32))) (t3_0 := y70) (t3_1 := y71) (t4_0 := f72) (by omega) (by omega)
              generalize F_Flo_chooseEnd A B C (1 : Int32) (0 : Int32) a22 ((lx178 * 10 : Int64) + ((p274.1 : Int32).toInt64 : Int64) : Int64) y62 y63 (p274.2.1 : Int32) (p274.2.2.1 : Int32) (p274.2.2.2.1 : (Nat → Int32)) y70 y71 f72 = p466 at h24 ⊢
              unfold Q_chooseEnd at h24
              unfold F_Flo_findShortest_c206
              (unfold Q_short; dsimp only; omega)
            ·
              rw [if_neg g20]
              have g20i : 0 < a397_19.toInt := q_nleI g20
              unfold F_Flo_findShortest_J182
              have g25 : ¬ ((1 : Int32) = (0 : Int32)) := (by decide)
              rw [if_neg g25]
              obtain ⟨a26, e27⟩ := q_nm (y63 - lx177 : Int32)
              rw [e27]
              have a26i : a26.toInt = y63.toInt - lx177.toInt := by rw [← e27]; exact q_subI (x := y63.toInt) (y := lx177.toInt) rfl rfl (by omega) (by omega)
              have h28 := T_chooseEnd (A := A) (B := B) (C := C) (x2 := (1 : Int32)) (x3 := (1 : Int32)) (x4 := a26) (t0_0 := ((lx178 * 10 : Int64) + ((p274.1 : Int32).toInt64 : Int64) : Int64)) (t0_1 := y62) (t0_2 := y63) (t1_0 := (p274.2.1 : Int32)) (t1_1 := (p274.2.2.1 : Int32)) (t2_0 := (p274.2.2.2.1 : (Nat → Int32))) (t3_0 := y70) (t3_1 := y71) (t4_0 := f72) (by omega) (by omega)
              generalize F_Flo_chooseEnd A B C (1 : Int32) (1 : Int32) a26 ((lx178 * 10 : Int64) + ((p274.1 : Int32).toInt64 : Int64) : Int64) y62 y63 (p274.2.1 : Int32) (p274.2.2.1 : Int32) (p274.2.2.2.1 : (Nat → Int32)) y70 y71 f72 = p466_29 at h28 ⊢
              unfold Q_chooseEnd at h28
              unfold F_Flo_findShortest_c206
              (unfold Q_short; dsimp only; omega)
        ·
          rw [if_neg g5]
          have g5i : lx134.toInt ≠ 0 := q_neI g5
          generalize F_Big_compareSize (220 : Int32) (220 : Int32) (p274.2.1 : Int32) (p274.2.2.1 : Int32) (p274.2.2.2.1 : (Nat → Int32)) (p274.2.2.2.2.2.2.2.1 : Int32) (p274.2.2.2.2.2.2.2.2.1 : Int32) (p274.2.2.2.2.2.2.2.2.2 : (Nat → Int32)) = a303_30
          unfold F_Flo_findShortest_J114
          by_cases g31 : (1 : Int32) ≤ a303_30
          ·
            rw [if_pos g31]
            have g31i : 1 ≤ a303_30.toInt := q_leI g31
            unfold F_Flo_findShortest_J122
            generalize F_Big_copy (220 : Int32) (220 : Int32) lx188 lx189 lx190 (p274.2.1 : Int32) (p274.2.2.1 : Int32) (p274.2.2.2.1 : (Nat → Int32)) = p362_32
            unfold F_Flo_findShortest_c132
            generalize F_Big_addSize (220 : Int32) (220 : Int32) (p362_32.1 : Int32) (p362_32.2.1 : Int32) (p362_32.2.2 : (Nat → Int32)) (p274.2.2.2.2.1 : Int32) (p274.2.2.2.2.2.1 : Int32) (p274.2.2.2.2.2.2.1 : (Nat → Int32)) = p385_33
            unfold F_Flo_findShortest_c149
            rw [if_neg g5]
            generalize F_Big_compareSize (220 : Int32) (220 : Int32) (p385_33.1 : Int32) (p385_33.2.1 : Int32) (p385_33.2.2 : (Nat → Int32)) y70 y71 f72 = a397_34
            unfold F_Flo_findShortest_J174
            by_cases g35 : a397_34 ≤ (-1 : Int32)
            ·
              rw [if_pos g35]
              have g35i : a397_34.toInt ≤ -1 := q_leI g35
              unfold F_Flo_findShortest_J182
              have g36 : ((0 : Int32) = (0 : Int32)) := (by decide)
              rw [if_pos g36]
              have g37 : ((0 : Int32) = (0 : Int32)) := (by decide)
              rw [if_pos g37]
              obtain ⟨a38, e39⟩ := q_nm (lx177 + 1 : Int32)
              rw [e39]
              have a38i : a38.toInt = lx177.toInt + 1 := by rw [← e39]; exact q_addI (x := lx177.toInt) (y := 1) rfl (by decide) (by omega) (by omega)
              exact ih _ _ _ _ _ _ _ _ _ _ _ _ _ _ (by first | assumption | omega | trivial | decide) (by first | assumption | omega | trivial | decide)
            ·
              rw [if_neg g35]
              have g35i : -1 < a397_34.toInt := q_nleI g35
              unfold F_Flo_findShortest_J182
              have g40 : ((0 : Int32) = (0 : Int32)) := (by decide)
              rw [if_pos g40]
              have g41 : ¬ ((1 : Int32) = (0 : Int32)) := (by decide)
              rw [if_neg g41]
              obtain ⟨a42, e43⟩ := q_nm (y63 - lx177 : Int32)
              rw [e43]
              have a42i : a42.toInt = y63.toInt - lx177.toInt := by rw [← e43]; exact q_subI (x := y63.toInt) (y := lx177.toInt) rfl rfl (by omega) (by omega)
              have h44 := T_chooseEnd (A := A) (B := B) (C := C) (x2 := (0 : Int32)) (x3 := (1 : Int32)) (x4 := a42) (t0_0 := ((lx178 * 10 : Int64) + ((p274.1 : Int32).toInt64 : Int64) : Int64)) (t0_1 := y62) (t0_2 := y63) (t1_0 := (p274.2.1 : Int32)) (t1_1 := (p274.2.2.1 : Int32)) (t2_0 := (p274.2.2.2.1 : (Nat → Int32))) (t3_0 := y70) (t3_1 := y71) (t4_0 := f72) (by omega) (by omega)
              generalize F_Flo_chooseEnd A B C (0 : Int32) (1 : Int32) a42 ((lx178 * 10 : Int64) + ((p274.1 : Int32).toInt64 : Int64) : Int64) y62 y63 (p274.2.1 : Int32) (p274.2.2.1 : Int32) (p274.2.2.2.1 : (Nat → Int32)) y70 y71 f72 = p508_45 at h44 ⊢
              unfold Q_chooseEnd at h44
              unfold F_Flo_findShortest_c206_12
              (unfold Q_short; dsimp only; omega)
          ·
            rw [if_neg g31]
            have g31i : a303_30.toInt < 1 := q_nleI g31
            unfold F_Flo_findShortest_J122
            generalize F_Big_copy (220 : Int32) (220 : Int32) lx188 lx189 lx190 (p274.2.1 : Int32) (p274.2.2.1 : Int32) (p274.2.2.2.1 : (Nat → Int32)) = p362_46
            unfold F_Flo_findShortest_c132
            generalize F_Big_addSize (220 : Int32) (220 : Int32) (p362_46.1 : Int32) (p362_46.2.1 : Int32) (p362_46.2.2 : (Nat → Int32)) (p274.2.2.2.2.1 : Int32) (p274.2.2.2.2.2.1 : Int32) (p274.2.2.2.2.2.2.1 : (Nat → Int32)) = p385_47
            unfold F_Flo_findShortest_c149
            rw [if_neg g5]
            generalize F_Big_compareSize (220 : Int32) (220 : Int32) (p385_47.1 : Int32) (p385_47.2.1 : Int32) (p385_47.2.2 : (Nat → Int32)) y70 y71 f72 = a397_48
            unfold F_Flo_findShortest_J174
            by_cases g49 : a397_48 ≤ (-1 : Int32)
            ·
              rw [if_pos g49]
              have g49i : a397_48.toInt ≤ -1 := q_leI g49
              unfold F_Flo_findShortest_J182
              have g50 : ¬ ((1 : Int32) = (0 : Int32)) := (by decide)
              rw [if_neg g50]
              obtain ⟨a51, e52⟩ := q_nm (y63 - lx177 : Int32)
              rw [e52]
              have a51i : a51.toInt = y63.toInt - lx177.toInt := by rw [← e52]; exact q_subI (x := y63.toInt) (y := lx177.toInt) rfl rfl (by omega) (by omega)
              have h53 := T_chooseEnd (A := A) (B := B) (C := C) (x2 := (1 : Int32)) (x3 := (0 : Int32)) (x4 := a51) (t0_0 := ((lx178 * 10 : Int64) + ((p274.1 : Int32).toInt64 : Int64) : Int64)) (t0_1 := y62) (t0_2 := y63) (t1_0 := (p274.2.1 : Int32)) (t1_1 := (p274.2.2.1 : Int32)) (t2_0 := (p274.2.2.2.1 : (Nat → Int32))) (t3_0 := y70) (t3_1 := y71) (t4_0 := f72) (by omega) (by omega)
              generalize F_Flo_chooseEnd A B C (1 : Int32) (0 : Int32) a51 ((lx178 * 10 : Int64) + ((p274.1 : Int32).toInt64 : Int64) : Int64) y62 y63 (p274.2.1 : Int32) (p274.2.2.1 : Int32) (p274.2.2.2.1 : (Nat → Int32)) y70 y71 f72 = p466_54 at h53 ⊢
              unfold Q_chooseEnd at h53
              unfold F_Flo_findShortest_c206
              (unfold Q_short; dsimp only; omega)
            ·
              rw [if_neg g49]
              have g49i : -1 < a397_48.toInt := q_nleI g49
              unfold F_Flo_findShortest_J182
              have g55 : ¬ ((1 : Int32) = (0 : Int32)) := (by decide)
              rw [if_neg g55]
              obtain ⟨a56, e57⟩ := q_nm (y63 - lx177 : Int32)
              rw [e57]
              have a56i : a56.toInt = y63.toInt - lx177.toInt := by rw [← e57]; exact q_subI (x := y63.toInt) (y := lx177.toInt) rfl rfl (by omega) (by omega)
              have h58 := T_chooseEnd (A := A) (B := B) (C := C) (x2 := (1 : Int32)) (x3 := (1 : Int32)) (x4 := a56) (t0_0 := ((lx178 * 10 : Int64) + ((p274.1 : Int32).toInt64 : Int64) : Int64)) (t0_1 := y62) (t0_2 := y63) (t1_0 := (p274.2.1 : Int32)) (t1_1 := (p274.2.2.1 : Int32)) (t2_0 := (p274.2.2.2.1 : (Nat → Int32))) (t3_0 := y70) (t3_1 := y71) (t4_0 := f72) (by omega) (by omega)
              generalize F_Flo_chooseEnd A B C (1 : Int32) (1 : Int32) a56 ((lx178 * 10 : Int64) + ((p274.1 : Int32).toInt64 : Int64) : Int64) y62 y63 (p274.2.1 : Int32) (p274.2.2.1 : Int32) (p274.2.2.2.1 : (Nat → Int32)) y70 y71 f72 = p466_59 at h58 ⊢
              unfold Q_chooseEnd at h58
              unfold F_Flo_findShortest_c206
              (unfold Q_short; dsimp only; omega)
theorem T_short {A : Int32} {B : Int32} {C : Int32} {x2 : Int64} {t0_0 : Int64} {t0_1 : Int32} {t0_2 : Int32} {t1_0 : Int32} {t1_1 : Int32} {t2_0 : (Nat → Int32)} {t3_0 : Int32} {t3_1 : Int32} {t4_0 : (Nat → Int32)} {t5_0 : Int32} {t5_1 : Int32} {t6_0 : (Nat → Int32)} {t7_0 : Int32} {t7_1 : Int32} {t8_0 : (Nat → Int32)} {t9_0 : Int32} {t9_1 : Int32} {t10_0 : (Nat → Int32)} (hB : 150 ≤ B.toInt ∧ B.toInt ≤ 1075) (hC : 255 ≤ C.toInt ∧ C.toInt ≤ 2047) (hCB : C.toInt ≤ B.toInt + 972) : Q_short (F_Flo_findShortest A B C x2 t0_0 t0_1 t0_2 t1_0 t1_1 t2_0 t3_0 t3_1 t4_0 t5_0 t5_1 t6_0 t7_0 t7_1 t8_0 t9_0 t9_1 t10_0) := by
  have e0 : (0 : Int32).toInt = 0 := rfl
  unfold F_Flo_findShortest
  by_cases g1 : ((F_Flo_isZero A B C x2) : Int32) = (0 : Int32)
  ·
    rw [if_pos g1]
    have h2 := T_prepare (A := A) (B := B) (C := C) (x2 := x2) (t0_0 := (0 : Int64)) (t0_1 := (0 : Int32)) (t0_2 := t0_2) (t1_0 := t3_0) (t1_1 := t3_1) (t2_0 := t4_0) (t3_0 := t5_0) (t3_1 := t5_1) (t4_0 := t6_0) (t5_0 := t7_0) (t5_1 := t7_1) (t6_0 := t8_0) (t7_0 := t9_0) (t7_1 := t9_1) (t8_0 := t10_0) hB hC hCB
    generalize F_Flo_prepare A B C x2 (0 : Int64) (0 : Int32) t0_2 t3_0 t3_1 t4_0 t5_0 t5_1 t6_0 t7_0 t7_1 t8_0 t9_0 t9_1 t10_0 = p105 at h2 ⊢
    unfold Q_prepare at h2
    unfold F_Flo_findShortest_c21
    by_cases g3 : (lg_cmp (x2 &&& 1 : Int64) 0 : Int32) = (0 : Int32)
    ·
      rw [if_pos g3]
      unfold F_Flo_findShortest_J54
      exact v_fsL (by omega) (by first | exact h1.1 | exact h2.1 | exact h3.1) _ _ _ _ _ _ _ _ _ _ _ _ _ _ _ (by decide) (by decide)
    ·
      rw [if_neg g3]
      unfold F_Flo_findShortest_J54
      exact v_fsL (by omega) (by first | exact h1.1 | exact h2.1 | exact h3.1) _ _ _ _ _ _ _ _ _ _ _ _ _ _ _ (by decide) (by decide)
  ·
    rw [if_neg g1]
    (unfold Q_short; dsimp only; omega)

/-! what Writer owes, and the calls that tell -/
theorem v_by3 {x : Int32} (h : -50000 ≤ x.toInt) (h2 : x.toInt ≤ 50000) : (3 * F_jMath_floorDiv_III x 3 : Int32).toInt ≤ x.toInt + 5 ∧ x.toInt ≤ (3 * F_jMath_floorDiv_III x 3 : Int32).toInt + 5 := by
  have d := v_fd3 (x := x) (by omega) (by omega)
  have e : (3 * F_jMath_floorDiv_III x 3 : Int32).toInt = 3 * (F_jMath_floorDiv_III x 3).toInt := q_mulI (x := 3) (by decide) rfl (by omega) (by omega)
  rw [e]; omega
theorem v_by3n {x : Int32} (h : -50000 ≤ x.toInt) (h2 : x.toInt ≤ 50000) : ((-3) * F_jMath_floorDiv_III (-x) 3 : Int32).toInt ≤ x.toInt + 5 ∧ x.toInt ≤ ((-3) * F_jMath_floorDiv_III (-x) 3 : Int32).toInt + 5 := by
  have n : (-x : Int32).toInt = -x.toInt := q_negI rfl (by omega)
  have d := v_fd3 (x := -x) (by omega) (by omega)
  have e : ((-3) * F_jMath_floorDiv_III (-x) 3 : Int32).toInt = (-3) * (F_jMath_floorDiv_III (-x) 3).toInt := q_mulI (x := -3) (by decide) rfl (by omega) (by omega)
  rw [e]; omega
theorem v_sub1 {a b : Int32} (h : -50000 ≤ a.toInt ∧ a.toInt ≤ 50000) (h2 : -60000 ≤ b.toInt ∧ b.toInt ≤ 60000) : ((a - b : Int32) + 1 : Int32).toInt = a.toInt - b.toInt + 1 := by
  have e1 : (a - b : Int32).toInt = a.toInt - b.toInt := q_subI rfl rfl (by omega) (by omega)
  exact q_addI (y := 1) e1 (by decide) (by omega) (by omega)
theorem v_1sub {a b : Int32} (h : -60000 ≤ a.toInt ∧ a.toInt ≤ 60000) (h2 : -60000 ≤ b.toInt ∧ b.toInt ≤ 60000) : ((1 + a : Int32) - b : Int32).toInt = 1 + a.toInt - b.toInt := by
  have e1 : (1 + a : Int32).toInt = 1 + a.toInt := q_addI (x := 1) (by decide) rfl (by omega) (by omega)
  exact q_subI e1 rfl (by omega) (by omega)
theorem v_m1s {a b : Int32} (h : -60000 ≤ a.toInt ∧ a.toInt ≤ 60000) (h2 : -60000 ≤ b.toInt ∧ b.toInt ≤ 60000) : ((a - 1 : Int32) - b : Int32).toInt = a.toInt - 1 - b.toInt := by
  have e1 : (a - 1 : Int32).toInt = a.toInt - 1 := q_subI (y := 1) rfl (by decide) (by omega) (by omega)
  exact q_subI e1 rfl (by omega) (by omega)
theorem v_p1p {a b : Int32} (h : -60000 ≤ a.toInt ∧ a.toInt ≤ 60000) (h2 : -60000 ≤ b.toInt ∧ b.toInt ≤ 60000) : ((a + 1 : Int32) + b : Int32).toInt = a.toInt + 1 + b.toInt := by
  have e1 : (a + 1 : Int32).toInt = a.toInt + 1 := q_addI (y := 1) rfl (by decide) (by omega) (by omega)
  exact q_addI e1 rfl (by omega) (by omega)
theorem v_a65 {a l : Int32} (ha : -1075 ≤ a.toInt ∧ a.toInt ≤ 2000) (hl : 0 ≤ l.toInt) : 0 ≤ (if (if 0 < (-a) then (-a) else 0) < l then (if 0 < (-a) then (-a) else 0) else l).toInt ∧ (if (if 0 < (-a) then (-a) else 0) < l then (if 0 < (-a) then (-a) else 0) else l).toInt ≤ 1075 := by
  have n : (-a : Int32).toInt = -a.toInt := q_negI rfl (by omega)
  have e0 : (0 : Int32).toInt = 0 := rfl
  have m : 0 ≤ (if 0 < (-a) then (-a) else 0 : Int32).toInt ∧ (if 0 < (-a) then (-a) else 0 : Int32).toInt ≤ 1075 := by
    split
    · rename_i h; have := q_ltI h; omega
    · omega
  generalize (if 0 < (-a) then (-a) else 0 : Int32) = z at m ⊢
  split
  · exact m
  · rename_i h; have := q_nltI h; omega
theorem v_a126 {a e : Int32} (ha : -1075 ≤ a.toInt ∧ a.toInt ≤ 2000) (he : 0 ≤ e.toInt ∧ e.toInt ≤ 1075) : 0 ≤ (if 0 < ((-a) - e) then ((-a) - e) else 0 : Int32).toInt ∧ (if 0 < ((-a) - e) then ((-a) - e) else 0 : Int32).toInt ≤ 1075 := by
  have n : (-a : Int32).toInt = -a.toInt := q_negI rfl (by omega)
  have n2 : ((-a) - e : Int32).toInt = -a.toInt - e.toInt := q_subI n rfl (by omega) (by omega)
  have e0 : (0 : Int32).toInt = 0 := rfl
  split
  · rename_i h; have := q_ltI h; omega
  · omega
def Q_turn (p : Int32 × Int32 × (Nat → Int32)) : Prop := -20001 ≤ p.2.1.toInt ∧ p.2.1.toInt ≤ 21025 ∧ 0 ≤ p.1.toInt ∧ p.1.toInt ≤ 1026
theorem v_tuL43 {K_F_Dig_turn_L0 : Int32 → (Int32 × Int32 × (Nat → Int32))} {x2 : Int32} {t0_0 : Int32} {t0_1 : Int32} {t1_0 : (Nat → Int32)} {lx9 : Int32} {K_S_Dig_turn_L0 : Int32 → Prop} (hx : -20000 ≤ x2.toInt ∧ x2.toInt ≤ 20000) (h9 : 0 ≤ lx9.toInt ∧ lx9.toInt ≤ 1026) : ∀ (n : Nat) (lx34 : Int32) (lx35 : Int32) (lx36 : (Nat → Int32)), (0 < n) → (lx34.toInt - lx35.toInt < (n : Int)) → (-1 ≤ lx34.toInt ∧ lx34.toInt ≤ 1026) → (0 ≤ lx35.toInt ∧ lx35.toInt ≤ 1027) → (S_Dig_turn_L43 K_S_Dig_turn_L0 x2 t0_0 t0_1 t1_0 lx9 n lx34 lx35 lx36) ∧ Q_turn (F_Dig_turn_L43 K_F_Dig_turn_L0 x2 t0_0 t0_1 t1_0 lx9 n lx34 lx35 lx36) := by
  intro n
  induction n with
  | zero => intro lx34 lx35 lx36 hn hm ha hb; exact absurd (show False by omega) id
  | succ n ih =>
    intro lx34 lx35 lx36 hn hm ha hb
    have e0 : (0 : Int32).toInt = 0 := rfl
    have e1 : (1 : Int32).toInt = 1 := rfl
    have em := v_m1s (a := lx9) (b := x2) (by omega) (by omega)
    rw [S_Dig_turn_L43.eq_2, F_Dig_turn_L43.eq_2]
    by_cases g1 : lx34 ≤ lx35
    ·
      rw [if_pos g1, if_pos g1]
      have g1i : lx34.toInt ≤ lx35.toInt := q_leI g1
      by_cases g2 : lx9 = (0 : Int32)
      ·
        rw [if_pos g2, if_pos g2]
        have g2i : lx9.toInt = 0 := q_eqI g2
        refine ⟨trivial, ?_⟩
        (unfold Q_turn; dsimp only; omega)
      ·
        rw [if_neg g2, if_neg g2]
        have g2i : lx9.toInt ≠ 0 := q_neI g2
        obtain ⟨a3, e4⟩ := q_nm (lx9 - 1 : Int32)
        rw [e4]
        have a3i : a3.toInt = lx9.toInt - 1 := by rw [← e4]; exact q_subI (x := lx9.toInt) (y := 1) rfl (by decide) (by omega) (by omega)
        obtain ⟨a5, e6⟩ := q_nm (a3 - x2 : Int32)
        rw [e6]
        have a5i : a5.toInt = a3.toInt - x2.toInt := by rw [← e6]; exact q_subI (x := a3.toInt) (y := x2.toInt) rfl rfl (by omega) (by omega)
        refine v_cons (by omega) ?_
        refine v_cons (by omega) ?_
        refine ⟨trivial, ?_⟩
        (unfold Q_turn; dsimp only; omega)
    ·
      rw [if_neg g1, if_neg g1]
      have g1i : lx35.toInt < lx34.toInt := q_nleI g1
      obtain ⟨a7, e8⟩ := q_nm (lx34 + (-1) : Int32)
      rw [e8]
      have a7i : a7.toInt = lx34.toInt + (-1) := by rw [← e8]; exact q_addI (x := lx34.toInt) (y := (-1)) rfl (by decide) (by omega) (by omega)
      obtain ⟨a9, e10⟩ := q_nm (lx35 + 1 : Int32)
      rw [e10]
      have a9i : a9.toInt = lx35.toInt + 1 := by rw [← e10]; exact q_addI (x := lx35.toInt) (y := 1) rfl (by decide) (by omega) (by omega)
      exact ih _ _ _ (by first | assumption | omega | trivial | decide) (by first | assumption | omega | trivial | decide) (by first | assumption | omega | trivial | decide) (by first | assumption | omega | trivial | decide)
theorem v_tuL0 {x2 : Int32} {t0_0 : Int32} {t0_1 : Int32} {t1_0 : (Nat → Int32)} (hx : -20000 ≤ x2.toInt ∧ x2.toInt ≤ 20000) : ∀ (n : Nat) (lx9 : Int32), (0 < n) → (lx9.toInt < (n : Int)) → (0 ≤ lx9.toInt ∧ lx9.toInt ≤ 1026) → (S_Dig_turn_L0 x2 t0_0 t0_1 t1_0 n lx9) ∧ Q_turn (F_Dig_turn_L0 x2 t0_0 t0_1 t1_0 n lx9) := by
  intro n
  induction n with
  | zero => intro lx9 hn hm ha; exact absurd (show False by omega) id
  | succ n ih =>
    intro lx9 hn hm ha
    have e0 : (0 : Int32).toInt = 0 := rfl
    have e1 : (1 : Int32).toInt = 1 := rfl
    rw [S_Dig_turn_L0.eq_2, F_Dig_turn_L0.eq_2]
    by_cases g1 : lx9 ≤ (0 : Int32)
    ·
      rw [if_pos g1, if_pos g1]
      have g1i : lx9.toInt ≤ 0 := q_leI g1
      unfold S_Dig_turn_J34 F_Dig_turn_J34
      have e9 : (lx9 - 1 : Int32).toInt = lx9.toInt - 1 := q_subI (y := 1) rfl (by decide) (by omega) (by omega)
      exact v_tuL43 hx (by omega) _ _ _ _ (by omega) (by rw [e9]; omega) (by rw [e9]; omega) (by decide)
    ·
      rw [if_neg g1, if_neg g1]
      have g1i : 0 < lx9.toInt := q_nleI g1
      by_cases g2 : (t1_0 (lx9 - 1 : Int32).toNatClampNeg : Int32) = (0 : Int32)
      ·
        rw [if_pos g2, if_pos g2]
        obtain ⟨a3, e4⟩ := q_nm (lx9 - 1 : Int32)
        rw [e4]
        have a3i : a3.toInt = lx9.toInt - 1 := by rw [← e4]; exact q_subI (x := lx9.toInt) (y := 1) rfl (by decide) (by omega) (by omega)
        exact ih _ (by first | assumption | omega | trivial | decide) (by first | assumption | omega | trivial | decide) (by first | assumption | omega | trivial | decide)
      ·
        rw [if_neg g2, if_neg g2]
        unfold S_Dig_turn_J34 F_Dig_turn_J34
        have e9 : (lx9 - 1 : Int32).toInt = lx9.toInt - 1 := q_subI (y := 1) rfl (by decide) (by omega) (by omega)
        exact v_tuL43 hx (by omega) _ _ _ _ (by omega) (by rw [e9]; omega) (by rw [e9]; omega) (by decide)
theorem T_turnB {x2 : Int32} {t0_0 : Int32} {t0_1 : Int32} {t1_0 : (Nat → Int32)} (hx : -20000 ≤ x2.toInt ∧ x2.toInt ≤ 20000) (ht : 0 ≤ t0_0.toInt ∧ t0_0.toInt ≤ 1026) : Q_turn (F_Dig_turn x2 t0_0 t0_1 t1_0) := by
  unfold F_Dig_turn
  exact (v_tuL0 hx (((t0_0.toInt - ((-1000000))).toNat + 1)) t0_0 (Nat.succ_pos _) (by omega) ht).2
def Q_fill (p : Int32 × Int32 × (Nat → Int32) × Int32 × Int32 × (Nat → Int32)) : Prop := -20001 ≤ p.2.1.toInt ∧ p.2.1.toInt ≤ 21025 ∧ 0 ≤ p.1.toInt ∧ p.1.toInt ≤ 1026
theorem v_fiL31 {K_F_Dig_fill_L7 : Int32 → Int32 → (Nat → Int32) → Int32 → Int32 → (Nat → Int32) → (Int32 × Int32 × (Nat → Int32) × Int32 × Int32 × (Nat → Int32))} {R : Int32} {x3 : Int32} {t0_0 : Int32} {t0_1 : Int32} {t1_0 : (Nat → Int32)} {t2_0 : Int32} {t2_1 : Int32} {t3_0 : (Nat → Int32)} {lx20 : Int32} {lx21 : Int32} {lx22 : (Nat → Int32)} {lx23 : Int32} {lx24 : Int32} {lx25 : (Nat → Int32)} {p116 : (Int32 × Int32 × Int32 × (Nat → Int32))} {y106 : Int32} {y107 : Int32} {f108 : (Nat → Int32)} (hK : ∀ (a b : Int32) (f : Nat → Int32) (c d : Int32) (g : Nat → Int32), a.toInt = lx20.toInt + 1 → b.toInt = 9 * a.toInt → Q_fill (K_F_Dig_fill_L7 a b f c d g)) (h2 : 0 ≤ lx20.toInt ∧ lx20.toInt ≤ 113) : ∀ (n : Nat) (lx129 : Int32) (lx130 : Int32) (lx131 : Int32) (lx132 : (Nat → Int32)), (0 ≤ lx129.toInt ∧ lx129.toInt ≤ 9) → (9 - lx129.toInt < (n : Int)) → (lx131.toInt = 9 * lx20.toInt + lx129.toInt) → Q_fill (F_Dig_fill_L31 K_F_Dig_fill_L7 R x3 t0_0 t0_1 t1_0 t2_0 t2_1 t3_0 lx20 lx21 lx22 lx23 lx24 lx25 p116 y106 y107 f108 n lx129 lx130 lx131 lx132) := by
  intro n
  induction n with
  | zero => intro lx129 lx130 lx131 lx132 h0 hm hc; exact absurd (show False by omega) id
  | succ n ih =>
    intro lx129 lx130 lx131 lx132 h0 hm hc
    have e0 : (0 : Int32).toInt = 0 := rfl
    have e1 : (1 : Int32).toInt = 1 := rfl
    rw [F_Dig_fill_L31.eq_2]
    by_cases g1 : (9 : Int32) ≤ lx129
    ·
      rw [if_pos g1]
      have g1i : 9 ≤ lx129.toInt := q_leI g1
      have e20 : (lx20 + 1 : Int32).toInt = lx20.toInt + 1 := q_addI (y := 1) rfl (by decide) (by omega) (by omega)
      exact hK _ _ _ _ _ _ e20 (by rw [e20]; omega)
    ·
      rw [if_neg g1]
      have g1i : lx129.toInt < 9 := q_nleI g1
      obtain ⟨a2, e3⟩ := q_nm (lx129 + 1 : Int32)
      rw [e3]
      have a2i : a2.toInt = lx129.toInt + 1 := by rw [← e3]; exact q_addI (x := lx129.toInt) (y := 1) rfl (by decide) (by omega) (by omega)
      obtain ⟨a4, e5⟩ := q_nm (lx131 + 1 : Int32)
      rw [e5]
      have a4i : a4.toInt = lx131.toInt + 1 := by rw [← e5]; exact q_addI (x := lx131.toInt) (y := 1) rfl (by decide) (by omega) (by omega)
      exact ih _ _ _ _ (by first | assumption | omega | trivial | decide) (by first | assumption | omega | trivial | decide) (by first | assumption | omega | trivial | decide)
theorem v_fiL7 {R : Int32} {x3 : Int32} {t0_0 : Int32} {t0_1 : Int32} {t1_0 : (Nat → Int32)} {t2_0 : Int32} {t2_1 : Int32} {t3_0 : (Nat → Int32)} (hx : -20000 ≤ x3.toInt ∧ x3.toInt ≤ 20000) : ∀ (n : Nat) (lx20 : Int32) (lx21 : Int32) (lx22 : (Nat → Int32)) (lx23 : Int32) (lx24 : Int32) (lx25 : (Nat → Int32)), (0 ≤ lx20.toInt ∧ lx20.toInt ≤ 114) → (114 - lx20.toInt < (n : Int)) → (lx21.toInt = 9 * lx20.toInt) → Q_fill (F_Dig_fill_L7 R x3 t0_0 t0_1 t1_0 t2_0 t2_1 t3_0 n lx20 lx21 lx22 lx23 lx24 lx25) := by
  intro n
  induction n with
  | zero => intro lx20 lx21 lx22 lx23 lx24 lx25 h0 hm hc; exact absurd (show False by omega) id
  | succ n ih =>
    intro lx20 lx21 lx22 lx23 lx24 lx25 h0 hm hc
    have e0 : (0 : Int32).toInt = 0 := rfl
    have e1 : (1 : Int32).toInt = 1 := rfl
    rw [F_Dig_fill_L7.eq_2]
    by_cases g1 : (114 : Int32) ≤ lx20
    ·
      rw [if_pos g1]
      have g1i : 114 ≤ lx20.toInt := q_leI g1
      have h2 := T_turnB (x2 := x3) (t0_0 := lx21) (t0_1 := t0_1) (t1_0 := lx22) (by omega) (by omega)
      generalize F_Dig_turn x3 lx21 t0_1 lx22 = p63 at h2 ⊢
      unfold Q_turn at h2
      unfold F_Dig_fill_c84
      (unfold Q_fill; dsimp only; omega)
    ·
      rw [if_neg g1]
      have g1i : lx20.toInt < 114 := q_nleI g1
      by_cases g3 : lx23 ≤ (0 : Int32)
      ·
        rw [if_pos g3]
        have g3i : lx23.toInt ≤ 0 := q_leI g3
        have h4 := T_turnB (x2 := x3) (t0_0 := lx21) (t0_1 := t0_1) (t1_0 := lx22) (by omega) (by omega)
        generalize F_Dig_turn x3 lx21 t0_1 lx22 = p91 at h4 ⊢
        unfold Q_turn at h4
        unfold F_Dig_fill_c84_3
        (unfold Q_fill; dsimp only; omega)
      ·
        rw [if_neg g3]
        have g3i : 0 < lx23.toInt := q_nleI g3
        generalize F_Big_divideSmall R (1000000000 : Int32) lx23 lx24 lx25 = p116
        unfold F_Dig_fill_c23
        exact v_fiL31 (fun a b f c d g h1 h2 => ih _ _ _ _ _ _ (by omega) (by omega) (by omega)) (by omega) _ _ _ _ _ (by decide) (by decide) (by omega)
theorem T_fillF {R : Int32} {x3 : Int32} {t0_0 : Int32} {t0_1 : Int32} {t1_0 : (Nat → Int32)} {t2_0 : Int32} {t2_1 : Int32} {t3_0 : (Nat → Int32)} (hx : -20000 ≤ x3.toInt ∧ x3.toInt ≤ 20000) : Q_fill (F_Dig_fill R x3 t0_0 t0_1 t1_0 t2_0 t2_1 t3_0) := by
  unfold F_Dig_fill
  exact v_fiL7 hx _ _ _ _ _ _ _ (by decide) (by decide) (by decide)
theorem T_fillB {R : Int32} {x3 : Int32} {t0_0 : Int32} {t0_1 : Int32} {t1_0 : (Nat → Int32)} {t2_0 : Int32} {t2_1 : Int32} {t3_0 : (Nat → Int32)} (hx : -20000 ≤ x3.toInt ∧ x3.toInt ≤ 20000) : (S_Dig_fill R x3 t0_0 t0_1 t1_0 t2_0 t2_1 t3_0) ∧ Q_fill (F_Dig_fill R x3 t0_0 t0_1 t1_0 t2_0 t2_1 t3_0) := ⟨S_fill (by omega) (by omega), T_fillF hx⟩
def Q_round (p : Int32 × Int32 × (Nat → Int32)) : Prop := p.2.1.toInt ≤ 200000
def Q_step (p : Int32 × Int32 × (Nat → Int32)) : Prop := p.2.1.toInt ≤ 200000
theorem v_stL {x2 : Int32} {t0_0 : Int32} {t0_1 : Int32} {t1_0 : (Nat → Int32)} (hx : -100000 ≤ x2.toInt ∧ x2.toInt ≤ 100000) (ht : -30000 ≤ t0_1.toInt ∧ t0_1.toInt ≤ 30000) : ∀ (n : Nat) (lx13 : Int32), (lx13.toInt + 1 < (n : Int)) → (-1 ≤ lx13.toInt ∧ lx13.toInt ≤ 1026) → Q_step (F_Dig_stepOutwards_L7 x2 t0_0 t0_1 t1_0 n lx13) := by
  intro n
  induction n with
  | zero => intro lx13 hm ha; exact absurd (show False by omega) id
  | succ n ih =>
    intro lx13 hm ha
    have e0 : (0 : Int32).toInt = 0 := rfl
    have e1 : (1 : Int32).toInt = 1 := rfl
    have s1 : (1 - x2 : Int32).toInt = 1 - x2.toInt := q_subI (x := 1) (by decide) rfl (by omega) (by omega)
    have s2 : (t0_1 + (1 - x2 : Int32) : Int32).toInt = t0_1.toInt + (1 - x2.toInt) := q_addI rfl s1 (by omega) (by omega)
    have s3 : (t0_1 + 1 : Int32).toInt = t0_1.toInt + 1 := q_addI (y := 1) rfl (by decide) (by omega) (by omega)
    rw [F_Dig_stepOutwards_L7.eq_2]
    by_cases g1 : lx13 < (0 : Int32)
    ·
      rw [if_pos g1]
      have g1i : lx13.toInt < 0 := q_ltI g1
      unfold F_Dig_stepOutwards_J28
      rw [if_pos g1]
      by_cases g2 : x2 ≤ (0 : Int32)
      ·
        rw [if_pos g2]
        have g2i : x2.toInt ≤ 0 := q_leI g2
        (unfold Q_step; dsimp only; omega)
      ·
        rw [if_neg g2]
        have g2i : 0 < x2.toInt := q_nleI g2
        (unfold Q_step; dsimp only; omega)
    ·
      rw [if_neg g1]
      have g1i : 0 ≤ lx13.toInt := q_nltI g1
      by_cases g3 : (t1_0 lx13.toNatClampNeg : Int32) = (9 : Int32)
      ·
        rw [if_pos g3]
        obtain ⟨a4, e5⟩ := q_nm (lx13 + (-1) : Int32)
        rw [e5]
        have a4i : a4.toInt = lx13.toInt + (-1) := by rw [← e5]; exact q_addI (x := lx13.toInt) (y := (-1)) rfl (by decide) (by omega) (by omega)
        exact ih _ (by first | assumption | omega | trivial | decide) (by first | assumption | omega | trivial | decide)
      ·
        rw [if_neg g3]
        unfold F_Dig_stepOutwards_J28
        rw [if_neg g1]
        (unfold Q_step; dsimp only; omega)
theorem T_stepB {x2 : Int32} {t0_0 : Int32} {t0_1 : Int32} {t1_0 : (Nat → Int32)} (hx : -100000 ≤ x2.toInt ∧ x2.toInt ≤ 100000) (ht : -30000 ≤ t0_1.toInt ∧ t0_1.toInt ≤ 30000) (hc : 0 ≤ t0_0.toInt ∧ t0_0.toInt ≤ 1026) : Q_step (F_Dig_stepOutwards x2 t0_0 t0_1 t1_0) := by
  unfold F_Dig_stepOutwards
  have e9 : (t0_0 - 1 : Int32).toInt = t0_0.toInt - 1 := q_subI (y := 1) rfl (by decide) (by omega) (by omega)
  exact v_stL hx ht _ _ (by rw [e9]; omega) (by rw [e9]; omega)
theorem T_roundB {x2 : Int32} {x3 : Int32} {t0_0 : Int32} {t0_1 : Int32} {t1_0 : (Nat → Int32)} (hx : -100000 ≤ x2.toInt ∧ x2.toInt ≤ 100000) (ht : -30000 ≤ t0_1.toInt ∧ t0_1.toInt ≤ 30000) (hc : 0 ≤ t0_0.toInt ∧ t0_0.toInt ≤ 1026) : Q_round (F_Dig_round x2 x3 t0_0 t0_1 t1_0) := by
  have e0 : (0 : Int32).toInt = 0 := rfl
  have e1 : (1 : Int32).toInt = 1 := rfl
  have mx : 0 ≤ (if x2 < 0 then 0 else x2 : Int32).toInt := by split <;> (first | decide | (rename_i h; have := q_nltI h; omega))
  unfold F_Dig_round
  by_cases g1 : x2 < t0_0
  ·
    rw [if_pos g1]
    have g1i : x2.toInt < t0_0.toInt := q_ltI g1
    by_cases g2 : ((F_Dig_goesOutwards x2 x3 t0_0 t0_1 t1_0) : Int32) = (0 : Int32)
    ·
      rw [if_pos g2]
      by_cases g3 : (if x2 < 0 then 0 else x2 : Int32) = (0 : Int32)
      ·
        rw [if_pos g3]
        (unfold Q_round; dsimp only; first | omega | exact h2)
      ·
        rw [if_neg g3]
        (unfold Q_round; dsimp only; first | omega | exact h2)
    ·
      rw [if_neg g2]
      have h4 := T_stepB (x2 := x2) (t0_0 := (if x2 < 0 then 0 else x2 : Int32)) (t0_1 := t0_1) (t1_0 := t1_0) hx ht ⟨mx, by have g := g1i; (first | (split <;> omega) | omega)⟩
      generalize F_Dig_goesOutwards x2 x3 t0_0 t0_1 t1_0 = a13
      generalize F_Dig_stepOutwards x2 (if x2 < 0 then 0 else x2 : Int32) t0_1 t1_0 = p45 at h4 ⊢
      unfold Q_step at h4
      unfold F_Dig_round_c31
      (unfold Q_round; dsimp only; first | omega | exact h2)
  ·
    rw [if_neg g1]
    have g1i : t0_0.toInt ≤ x2.toInt := q_nltI g1
    (unfold Q_round; dsimp only; first | omega | exact h2)
def Q_exact (p : Int32 × Int32 × Int32 × (Nat → Int32)) : Prop := 0 ≤ p.1.toInt ∧ p.1.toInt ≤ 1075
theorem T_exactB {A : Int32} {B : Int32} {C : Int32} {x2 : Int64} {t0_0 : Int32} {t0_1 : Int32} {t1_0 : (Nat → Int32)} (hB : 150 ≤ B.toInt ∧ B.toInt ≤ 1075) (hC : 255 ≤ C.toInt ∧ C.toInt ≤ 2047) (hCB : C.toInt ≤ B.toInt + 972) : Q_exact (F_Flo_exactly A B C x2 t0_0 t0_1 t1_0) := by
  have e0 : (0 : Int32).toInt = 0 := rfl
  have e1 : (1 : Int32).toInt = 1 := rfl
  unfold F_Flo_exactly
  have h1 := v_fpw  (A := A) (B := B) (C := C) (x := x2) hB hC hCB
  have h2 := W_setLong  (R := (220 : Int32)) (x := ((F_Flo_number A B C x2) : Int64)) (s := t0_0) (neg := t0_1) (f := t1_0) (by decide) (by decide)
  generalize F_Flo_power A B C x2 = a15 at h1 ⊢
  have hpw := h1
  generalize F_Big_setLong (220 : Int32) ((F_Flo_number A B C x2) : Int64) t0_0 t0_1 t1_0 = p40 at h2 ⊢
  have hsl := h2
  unfold F_Flo_exactly_c22
  by_cases g3 : (p40.1 : Int32) = (0 : Int32)
  ·
    rw [if_pos g3]
    (unfold Q_exact; dsimp only; omega)
  ·
    rw [if_neg g3]
    obtain ⟨lb, le, _⟩ := W_low1 hsl (fun z => g3 (hsl.nil.mpr z))
    obtain ⟨a65, e4⟩ := q_nm ((if (if 0 < (-a15 : Int32) then (-a15 : Int32) else 0 : Int32) < ((F_Big_lowestOne (220 : Int32) (p40.1 : Int32) (p40.2.1 : Int32) (p40.2.2 : (Nat → Int32))) : Int32) then (if 0 < (-a15 : Int32) then (-a15 : Int32) else 0 : Int32) else ((F_Big_lowestOne (220 : Int32) (p40.1 : Int32) (p40.2.1 : Int32) (p40.2.2 : (Nat → Int32))) : Int32) : Int32) : Int32)
    rw [e4]
    have a65b : 0 ≤ a65.toInt ∧ a65.toInt ≤ 1075 := by rw [← e4]; exact v_a65 (by omega) (by omega)
    generalize F_Big_shiftRight (220 : Int32) (if (if 0 < (-a15 : Int32) then (-a15 : Int32) else 0 : Int32) < ((F_Big_lowestOne (220 : Int32) (p40.1 : Int32) (p40.2.1 : Int32) (p40.2.2 : (Nat → Int32))) : Int32) then (if 0 < (-a15 : Int32) then (-a15 : Int32) else 0 : Int32) else ((F_Big_lowestOne (220 : Int32) (p40.1 : Int32) (p40.2.1 : Int32) (p40.2.2 : (Nat → Int32))) : Int32) : Int32) (p40.1 : Int32) (p40.2.1 : Int32) (p40.2.2 : (Nat → Int32)) = p85
    unfold F_Flo_exactly_c55
    generalize F_Big_shiftLeft (220 : Int32) a15 (p85.2.1 : Int32) (p85.2.2.1 : Int32) (p85.2.2.2 : (Nat → Int32)) = p110
    unfold F_Flo_exactly_c62
    obtain ⟨a126, e5⟩ := q_nm ((if 0 < ((-a15 : Int32) - a65 : Int32) then ((-a15 : Int32) - a65 : Int32) else 0 : Int32) : Int32)
    rw [e5]
    have a126b : 0 ≤ a126.toInt ∧ a126.toInt ≤ 1075 := by rw [← e5]; exact v_a126 (by omega) a65b
    generalize F_Big_timesFive (220 : Int32) (if 0 < ((-a15 : Int32) - a65 : Int32) then ((-a15 : Int32) - a65 : Int32) else 0 : Int32) (p110.1 : Int32) (p110.2.1 : Int32) (p110.2.2 : (Nat → Int32)) = p142
    unfold F_Flo_exactly_c80
    (unfold Q_exact; dsimp only; omega)
theorem T_writeByThrees {x2 : Int32} {x3 : Int32} {t0_0 : Int32} {t1_0 : (Nat → Int64)} {t2_0 : Int32} {t2_1 : Int32} {t3_0 : (Nat → Int32)} (h1 : 1 ≤ x2.toInt ∧ x2.toInt ≤ 1000) (h2 : -10001 ≤ x3.toInt ∧ x3.toInt ≤ 11000) : (S_Wri_writeByThrees x2 x3 t0_0 t1_0 t2_0 t2_1 t3_0) := by
  have e0 : (0 : Int32).toInt = 0 := rfl
  have e1 : (1 : Int32).toInt = 1 := rfl
  unfold S_Wri_writeByThrees
  by_cases g1 : t2_0 = (0 : Int32)
  ·
    rw [if_pos g1]
    have g1i : t2_0.toInt = 0 := q_eqI g1
    unfold S_Wri_writeByThrees_J15
    have g2 : ¬ ((1 : Int32) = (0 : Int32)) := (by decide)
    rw [if_neg g2]
    obtain ⟨lx28, e3⟩ := q_nm (((-3) * ((F_jMath_floorDiv_III (-x3 : Int32) (3 : Int32)) : Int32) : Int32) : Int32)
    rw [e3]
    have lx28b : lx28.toInt ≤ x3.toInt + 5 ∧ x3.toInt ≤ lx28.toInt + 5 := by rw [← e3]; exact v_by3n (by omega) (by omega)
    unfold S_Wri_writeByThrees_J39
    have g4 : ¬ ((1 : Int32) = (0 : Int32)) := (by decide)
    rw [if_neg g4]
    unfold S_Wri_writeByThrees_J55
    have g5 : ¬ ((1 : Int32) = (0 : Int32)) := (by decide)
    rw [if_neg g5]
    obtain ⟨lx50, e6⟩ := q_nm (((1 + lx28 : Int32) - x3 : Int32) : Int32)
    rw [e6]
    have lx50b : lx50.toInt = 1 + lx28.toInt - x3.toInt := by rw [← e6]; exact v_1sub (by omega) (by omega)
    unfold S_Wri_writeByThrees_J71
    refine And.intro (by omega) ?_
    refine And.intro (by omega) ?_
    generalize F_Dig_writeSplit (11008 : Int32) (1376 : Int32) (1000000 : Int32) (1 : Int32) lx50 t2_0 t2_1 t3_0 t0_0 t1_0 = p75
    unfold S_Wri_writeByThrees_c85
    by_cases g7 : lx28 = (0 : Int32)
    ·
      rw [if_pos g7]
      have g7i : lx28.toInt = 0 := q_eqI g7
      exact trivial
    ·
      rw [if_neg g7]
      have g7i : lx28.toInt ≠ 0 := q_neI g7
      refine And.intro (by omega) ?_
      generalize F_Wri_writePower lx28 (p75.1 : Int32) (p75.2 : (Nat → Int64)) = p98
      unfold S_Wri_writeByThrees_c96
      exact trivial
  ·
    rw [if_neg g1]
    have g1i : t2_0.toInt ≠ 0 := q_neI g1
    unfold S_Wri_writeByThrees_J15
    have g8 : ((0 : Int32) = (0 : Int32)) := (by decide)
    rw [if_pos g8]
    obtain ⟨lx28, e9⟩ := q_nm ((3 * ((F_jMath_floorDiv_III x3 (3 : Int32)) : Int32) : Int32) : Int32)
    rw [e9]
    have lx28b : lx28.toInt ≤ x3.toInt + 5 ∧ x3.toInt ≤ lx28.toInt + 5 := by rw [← e9]; exact v_by3 (by omega) (by omega)
    unfold S_Wri_writeByThrees_J39
    have g10 : ((0 : Int32) = (0 : Int32)) := (by decide)
    rw [if_pos g10]
    obtain ⟨lx39, e11⟩ := q_nm (((x3 - lx28 : Int32) + 1 : Int32) : Int32)
    rw [e11]
    have lx39b : lx39.toInt = x3.toInt - lx28.toInt + 1 := by rw [← e11]; exact v_sub1 (by omega) (by omega)
    unfold S_Wri_writeByThrees_J55
    have g12 : ((0 : Int32) = (0 : Int32)) := (by decide)
    rw [if_pos g12]
    unfold S_Wri_writeByThrees_J71
    refine And.intro (by omega) ?_
    refine And.intro (by omega) ?_
    generalize F_Dig_writeSplit (11008 : Int32) (1376 : Int32) (1000000 : Int32) lx39 x2 t2_0 t2_1 t3_0 t0_0 t1_0 = p75
    unfold S_Wri_writeByThrees_c85
    by_cases g13 : lx28 = (0 : Int32)
    ·
      rw [if_pos g13]
      have g13i : lx28.toInt = 0 := q_eqI g13
      exact trivial
    ·
      rw [if_neg g13]
      have g13i : lx28.toInt ≠ 0 := q_neI g13
      refine And.intro (by omega) ?_
      generalize F_Wri_writePower lx28 (p75.1 : Int32) (p75.2 : (Nat → Int64)) = p98
      unfold S_Wri_writeByThrees_c96
      exact trivial
theorem T_decimalText2 {R : Int32} {x3 : Int32} {t0_0 : Int32} {t1_0 : (Nat → Int64)} {t2_0 : Int32} {t2_1 : Int32} {t3_0 : (Nat → Int32)} {t4_0 : Int32} {t4_1 : Int32} {t5_0 : (Nat → Int32)} {t6_0 : Int32} {t6_1 : Int32} {t7_0 : Int32} {t7_1 : Int32} {t8_0 : (Nat → Int32)} (h1 : -10000 ≤ t6_0.toInt ∧ t6_0.toInt ≤ 10000) (h2 : 1 ≤ t6_1.toInt ∧ t6_1.toInt ≤ 1000) : (S_Wri_decimalText R x3 t0_0 t1_0 t2_0 t2_1 t3_0 t4_0 t4_1 t5_0 t6_0 t6_1 t7_0 t7_1 t8_0) := by
  have e0 : (0 : Int32).toInt = 0 := rfl
  have e1 : (1 : Int32).toInt = 1 := rfl
  unfold S_Wri_decimalText
  generalize F_Wri_begin_p t7_1 t0_0 t1_0 = p46
  unfold S_Wri_decimalText_c8
  generalize F_Big_copy (220 : Int32) R t4_0 t4_1 t5_0 t7_0 t7_1 t8_0 = p70
  unfold S_Wri_decimalText_c22
  have h1 := T_fillB (R := (220 : Int32)) (x3 := t6_0) (t0_0 := t2_0) (t0_1 := t2_1) (t1_0 := t3_0) (t2_0 := (p70.1 : Int32)) (t2_1 := (p70.2.1 : Int32)) (t3_0 := (p70.2.2 : (Nat → Int32))) (by omega)
  refine v_oweS h1.1 ?_
  replace h1 := h1.2
  generalize F_Dig_fill (220 : Int32) t6_0 t2_0 t2_1 t3_0 (p70.1 : Int32) (p70.2.1 : Int32) (p70.2.2 : (Nat → Int32)) = p104 at h1 ⊢
  unfold Q_fill at h1
  unfold S_Wri_decimalText_c40
  by_cases g2 : x3 = (1 : Int32)
  ·
    rw [if_pos g2]
    have g2i : x3.toInt = 1 := q_eqI g2
    refine And.intro (by omega) ?_
    obtain ⟨a123, e3⟩ := q_nm (((t6_1 - 1 : Int32) - t6_0 : Int32) : Int32)
    rw [e3]
    have a123b : a123.toInt = t6_1.toInt - 1 - t6_0.toInt := by rw [← e3]; exact v_m1s (by omega) (by omega)
    generalize F_Dig_writePlain (11008 : Int32) (1376 : Int32) (1000000 : Int32) (if 0 < t6_0 then t6_0 else 0 : Int32) (0 : Int32) (0 : Int32) (p104.1 : Int32) (p104.2.1 : Int32) (p104.2.2.1 : (Nat → Int32)) (p46.1 : Int32) (p46.2 : (Nat → Int64)) = p143
    unfold S_Wri_decimalText_c102
    exact trivial
  ·
    rw [if_neg g2]
    have g2i : x3.toInt ≠ 1 := q_neI g2
    by_cases g4 : t6_0 = (0 : Int32)
    ·
      rw [if_pos g4]
      have g4i : t6_0.toInt = 0 := q_eqI g4
      refine And.intro (by omega) ?_
      obtain ⟨a123, e5⟩ := q_nm (((t6_1 - 1 : Int32) - t6_0 : Int32) : Int32)
      rw [e5]
      have a123b : a123.toInt = t6_1.toInt - 1 - t6_0.toInt := by rw [← e5]; exact v_m1s (by omega) (by omega)
      generalize F_Dig_writePlain (11008 : Int32) (1376 : Int32) (1000000 : Int32) (if 0 < t6_0 then t6_0 else 0 : Int32) (0 : Int32) (0 : Int32) (p104.1 : Int32) (p104.2.1 : Int32) (p104.2.2.1 : (Nat → Int32)) (p46.1 : Int32) (p46.2 : (Nat → Int64)) = p170
      unfold S_Wri_decimalText_c102_5
      exact trivial
    ·
      rw [if_neg g4]
      have g4i : t6_0.toInt ≠ 0 := q_neI g4
      by_cases g6 : t6_0 ≤ (0 : Int32)
      ·
        rw [if_pos g6]
        have g6i : t6_0.toInt ≤ 0 := q_leI g6
        obtain ⟨a123, e7⟩ := q_nm (((t6_1 - 1 : Int32) - t6_0 : Int32) : Int32)
        rw [e7]
        have a123b : a123.toInt = t6_1.toInt - 1 - t6_0.toInt := by rw [← e7]; exact v_m1s (by omega) (by omega)
        unfold S_Wri_decimalText_J108
        by_cases g8 : x3 = (0 : Int32)
        ·
          rw [if_pos g8]
          have g8i : x3.toInt = 0 := q_eqI g8
          generalize F_Dig_writeHead (11008 : Int32) (1376 : Int32) (1000000 : Int32) t6_1 (0 : Int32) (p104.1 : Int32) (p104.2.1 : Int32) (p104.2.2.1 : (Nat → Int32)) (p46.1 : Int32) (p46.2 : (Nat → Int64)) = p230
          unfold S_Wri_decimalText_c125
          generalize F_Wri_writePower a123 (p230.1 : Int32) (p230.2 : (Nat → Int64)) = p249
          unfold S_Wri_decimalText_c131
          exact trivial
        ·
          rw [if_neg g8]
          have g8i : x3.toInt ≠ 0 := q_neI g8
          have h9 := T_writeByThrees (x2 := t6_1) (x3 := a123) (t0_0 := (p46.1 : Int32)) (t1_0 := (p46.2 : (Nat → Int64))) (t2_0 := (p104.1 : Int32)) (t2_1 := (p104.2.1 : Int32)) (t3_0 := (p104.2.2.1 : (Nat → Int32))) h2 (by omega)
          refine v_oweS h9 ?_
          generalize F_Wri_writeByThrees t6_1 a123 (p46.1 : Int32) (p46.2 : (Nat → Int64)) (p104.1 : Int32) (p104.2.1 : Int32) (p104.2.2.1 : (Nat → Int32)) = p208
          unfold S_Wri_decimalText_c144
          exact trivial
      ·
        rw [if_neg g6]
        have g6i : 0 < t6_0.toInt := q_nleI g6
        by_cases g10 : ((t6_1 - 1 : Int32) - t6_0 : Int32) < (-6 : Int32)
        ·
          rw [if_pos g10]
          obtain ⟨a123, e11⟩ := q_nm (((t6_1 - 1 : Int32) - t6_0 : Int32) : Int32)
          rw [e11]
          have a123b : a123.toInt = t6_1.toInt - 1 - t6_0.toInt := by rw [← e11]; exact v_m1s (by omega) (by omega)
          unfold S_Wri_decimalText_J108
          by_cases g12 : x3 = (0 : Int32)
          ·
            rw [if_pos g12]
            have g12i : x3.toInt = 0 := q_eqI g12
            generalize F_Dig_writeHead (11008 : Int32) (1376 : Int32) (1000000 : Int32) t6_1 (0 : Int32) (p104.1 : Int32) (p104.2.1 : Int32) (p104.2.2.1 : (Nat → Int32)) (p46.1 : Int32) (p46.2 : (Nat → Int64)) = p230
            unfold S_Wri_decimalText_c125
            generalize F_Wri_writePower a123 (p230.1 : Int32) (p230.2 : (Nat → Int64)) = p249
            unfold S_Wri_decimalText_c131
            exact trivial
          ·
            rw [if_neg g12]
            have g12i : x3.toInt ≠ 0 := q_neI g12
            have h13 := T_writeByThrees (x2 := t6_1) (x3 := a123) (t0_0 := (p46.1 : Int32)) (t1_0 := (p46.2 : (Nat → Int64))) (t2_0 := (p104.1 : Int32)) (t2_1 := (p104.2.1 : Int32)) (t3_0 := (p104.2.2.1 : (Nat → Int32))) h2 (by omega)
            refine v_oweS h13 ?_
            generalize F_Wri_writeByThrees t6_1 a123 (p46.1 : Int32) (p46.2 : (Nat → Int64)) (p104.1 : Int32) (p104.2.1 : Int32) (p104.2.2.1 : (Nat → Int32)) = p208
            unfold S_Wri_decimalText_c144
            exact trivial
        ·
          rw [if_neg g10]
          refine And.intro (by omega) ?_
          obtain ⟨a123, e14⟩ := q_nm (((t6_1 - 1 : Int32) - t6_0 : Int32) : Int32)
          rw [e14]
          have a123b : a123.toInt = t6_1.toInt - 1 - t6_0.toInt := by rw [← e14]; exact v_m1s (by omega) (by omega)
          generalize F_Dig_writePlain (11008 : Int32) (1376 : Int32) (1000000 : Int32) (if 0 < t6_0 then t6_0 else 0 : Int32) (0 : Int32) (0 : Int32) (p104.1 : Int32) (p104.2.1 : Int32) (p104.2.2.1 : (Nat → Int32)) (p46.1 : Int32) (p46.2 : (Nat → Int64)) = p279
          unfold S_Wri_decimalText_c102_10
          exact trivial
theorem T_exactText {A : Int32} {B : Int32} {C : Int32} {x3 : Int64} {x4 : Int32} {x5 : Int32} {x6 : Int32} {t0_0 : Int32} {t1_0 : (Nat → Int64)} {t2_0 : Int32} {t2_1 : Int32} {t3_0 : (Nat → Int32)} {t4_0 : Int32} {t4_1 : Int32} {t5_0 : (Nat → Int32)} {t6_0 : Int64} {t6_1 : Int32} {t6_2 : Int32} (hB : 150 ≤ B.toInt ∧ B.toInt ≤ 1075) (hC : 255 ≤ C.toInt ∧ C.toInt ≤ 2047) (hCB : C.toInt ≤ B.toInt + 972) (h5 : 0 ≤ x5.toInt ∧ x5.toInt ≤ 1100) : (S_Wri_exactText A B C x3 x4 x5 x6 t0_0 t1_0 t2_0 t2_1 t3_0 t4_0 t4_1 t5_0 t6_0 t6_1 t6_2) := by
  have e0 : (0 : Int32).toInt = 0 := rfl
  have e1 : (1 : Int32).toInt = 1 := rfl
  unfold S_Wri_exactText
  generalize F_Wri_begin_p ((F_Flo_isNegative A B C x3) : Int32) t0_0 t1_0 = p44
  unfold S_Wri_exactText_c6
  have h1 := T_exactB (A := A) (B := B) (C := C) (x2 := x3) (t0_0 := t4_0) (t0_1 := t4_1) (t1_0 := t5_0) hB hC hCB
  generalize F_Flo_exactly A B C x3 t4_0 t4_1 t5_0 = p69 at h1 ⊢
  unfold Q_exact at h1
  unfold S_Wri_exactText_c22
  have h2 := T_fillB (R := (220 : Int32)) (x3 := (p69.1 : Int32)) (t0_0 := t2_0) (t0_1 := t2_1) (t1_0 := t3_0) (t2_0 := (p69.2.1 : Int32)) (t2_1 := (p69.2.2.1 : Int32)) (t3_0 := (p69.2.2.2 : (Nat → Int32))) (by omega)
  refine v_oweS h2.1 ?_
  replace h2 := h2.2
  generalize F_Dig_fill (220 : Int32) (p69.1 : Int32) t2_0 t2_1 t3_0 (p69.2.1 : Int32) (p69.2.2.1 : Int32) (p69.2.2.2 : (Nat → Int32)) = p104 at h2 ⊢
  unfold Q_fill at h2
  unfold S_Wri_exactText_c25
  by_cases g3 : x4 = (0 : Int32)
  ·
    rw [if_pos g3]
    have g3i : x4.toInt = 0 := q_eqI g3
    obtain ⟨lx117, e4⟩ := q_nm ((((p104.2.1 : Int32) + 1 : Int32) + x5 : Int32) : Int32)
    rw [e4]
    have lx117b : lx117.toInt = p104.2.1.toInt + 1 + x5.toInt := by rw [← e4]; exact v_p1p (by omega) (by omega)
    unfold S_Wri_exactText_J54
    refine And.intro (by omega) ?_
    refine And.intro (by omega) ?_
    refine And.intro (by omega) ?_
    refine And.intro (by omega) ?_
    have h5 := T_roundB (x2 := lx117) (x3 := x6) (t0_0 := (p104.1 : Int32)) (t0_1 := (p104.2.1 : Int32)) (t1_0 := (p104.2.2.1 : (Nat → Int32))) (by omega) (by omega) (by omega)
    generalize F_Dig_round lx117 x6 (p104.1 : Int32) (p104.2.1 : Int32) (p104.2.2.1 : (Nat → Int32)) = p159 at h5 ⊢
    unfold Q_round at h5
    unfold S_Wri_exactText_c56
    rw [if_pos g3]
    refine And.intro (by omega) ?_
    generalize F_Dig_writePlain (11008 : Int32) (1376 : Int32) (1000000 : Int32) x5 (0 : Int32) (0 : Int32) (p159.1 : Int32) (p159.2.1 : Int32) (p159.2.2 : (Nat → Int32)) (p44.1 : Int32) (p44.2 : (Nat → Int64)) = p186
    unfold S_Wri_exactText_c93
    exact trivial
  ·
    rw [if_neg g3]
    have g3i : x4.toInt ≠ 0 := q_neI g3
    unfold S_Wri_exactText_J54
    refine And.intro (by omega) ?_
    refine And.intro (by omega) ?_
    refine And.intro (by omega) ?_
    refine And.intro (by omega) ?_
    have h6 := T_roundB (x2 := x5) (x3 := x6) (t0_0 := (p104.1 : Int32)) (t0_1 := (p104.2.1 : Int32)) (t1_0 := (p104.2.2.1 : (Nat → Int32))) (by omega) (by omega) (by omega)
    generalize F_Dig_round x5 x6 (p104.1 : Int32) (p104.2.1 : Int32) (p104.2.2.1 : (Nat → Int32)) = p159 at h6 ⊢
    unfold Q_round at h6
    unfold S_Wri_exactText_c56
    rw [if_neg g3]
    generalize F_Dig_writeScience (11008 : Int32) (1376 : Int32) (1000000 : Int32) x5 (0 : Int32) (p159.1 : Int32) (p159.2.1 : Int32) (p159.2.2 : (Nat → Int32)) (p44.1 : Int32) (p44.2 : (Nat → Int64)) = p208
    unfold S_Wri_exactText_c75
    exact trivial
theorem T_writeShort {A : Int32} {B : Int32} {C : Int32} {x3 : Int64} {t0_0 : Int32} {t1_0 : (Nat → Int64)} {t2_0 : Int32} {t2_1 : Int32} {t3_0 : (Nat → Int32)} {t4_0 : Int32} {t4_1 : Int32} {t5_0 : (Nat → Int32)} {t6_0 : Int32} {t6_1 : Int32} {t7_0 : (Nat → Int32)} {t8_0 : Int32} {t8_1 : Int32} {t9_0 : (Nat → Int32)} {t10_0 : Int32} {t10_1 : Int32} {t11_0 : (Nat → Int32)} {t12_0 : Int32} {t12_1 : Int32} {t13_0 : (Nat → Int32)} {t14_0 : Int64} {t14_1 : Int32} {t14_2 : Int32} (hB : 150 ≤ B.toInt ∧ B.toInt ≤ 1075) (hC : 255 ≤ C.toInt ∧ C.toInt ≤ 2047) (hCB : C.toInt ≤ B.toInt + 972) : (S_Wri_writeShort A B C x3 t0_0 t1_0 t2_0 t2_1 t3_0 t4_0 t4_1 t5_0 t6_0 t6_1 t7_0 t8_0 t8_1 t9_0 t10_0 t10_1 t11_0 t12_0 t12_1 t13_0 t14_0 t14_1 t14_2) := by
  have e0 : (0 : Int32).toInt = 0 := rfl
  have e1 : (1 : Int32).toInt = 1 := rfl
  unfold S_Wri_writeShort
  have h1 := T_short (A := A) (B := B) (C := C) (x2 := x3) (t0_0 := t14_0) (t0_1 := t14_1) (t0_2 := t14_2) (t1_0 := t4_0) (t1_1 := t4_1) (t2_0 := t5_0) (t3_0 := t6_0) (t3_1 := t6_1) (t4_0 := t7_0) (t5_0 := t8_0) (t5_1 := t8_1) (t6_0 := t9_0) (t7_0 := t10_0) (t7_1 := t10_1) (t8_0 := t11_0) (t9_0 := t12_0) (t9_1 := t12_1) (t10_0 := t13_0) hB hC hCB
  generalize F_Flo_findShortest A B C x3 t14_0 t14_1 t14_2 t4_0 t4_1 t5_0 t6_0 t6_1 t7_0 t8_0 t8_1 t9_0 t10_0 t10_1 t11_0 t12_0 t12_1 t13_0 = p111 at h1 ⊢
  unfold Q_short at h1
  have hng : (-(p111.2.1) : Int32).toInt = -p111.2.1.toInt := q_negI rfl (by omega)
  unfold S_Wri_writeShort_c2
  refine And.intro (by omega) ?_
  refine And.intro (by omega) ?_
  generalize F_Dig_fillLong (p111.1 : Int64) (-(p111.2.1 : Int32) : Int32) t2_0 t2_1 t3_0 = p157
  unfold S_Wri_writeShort_c18
  by_cases g2 : (p157.2.1 : Int32) < (-3 : Int32)
  ·
    rw [if_pos g2]
    have g2i : p157.2.1.toInt < -3 := q_ltI g2
    unfold S_Wri_writeShort_J68
    generalize F_Dig_writeHead (11008 : Int32) (1376 : Int32) (1000000 : Int32) (if 2 < (p157.1 : Int32) then (p157.1 : Int32) else 2 : Int32) (0 : Int32) (p157.1 : Int32) (p157.2.1 : Int32) (p157.2.2 : (Nat → Int32)) t0_0 t1_0 = p203
    unfold S_Wri_writeShort_c88
    generalize F_She_add_p (11008 : Int32) (1376 : Int32) (1000000 : Int32) (69 : Int32) (p203.1 : Int32) (p203.2 : (Nat → Int64)) = p222
    unfold S_Wri_writeShort_c97
    generalize F_Wri_writeSigned (p157.2.1 : Int32) (p222.1 : Int32) (p222.2 : (Nat → Int64)) = p241
    unfold S_Wri_writeShort_c108
    exact trivial
  ·
    rw [if_neg g2]
    have g2i : -3 ≤ p157.2.1.toInt := q_nltI g2
    by_cases g3 : (7 : Int32) ≤ (p157.2.1 : Int32)
    ·
      rw [if_pos g3]
      have g3i : 7 ≤ p157.2.1.toInt := q_leI g3
      unfold S_Wri_writeShort_J68
      generalize F_Dig_writeHead (11008 : Int32) (1376 : Int32) (1000000 : Int32) (if 2 < (p157.1 : Int32) then (p157.1 : Int32) else 2 : Int32) (0 : Int32) (p157.1 : Int32) (p157.2.1 : Int32) (p157.2.2 : (Nat → Int32)) t0_0 t1_0 = p203
      unfold S_Wri_writeShort_c88
      generalize F_She_add_p (11008 : Int32) (1376 : Int32) (1000000 : Int32) (69 : Int32) (p203.1 : Int32) (p203.2 : (Nat → Int64)) = p222
      unfold S_Wri_writeShort_c97
      generalize F_Wri_writeSigned (p157.2.1 : Int32) (p222.1 : Int32) (p222.2 : (Nat → Int64)) = p241
      unfold S_Wri_writeShort_c108
      exact trivial
    ·
      rw [if_neg g3]
      have g3i : p157.2.1.toInt < 7 := q_nleI g3
      refine And.intro (by split <;> omega) ?_
      generalize F_Dig_writePlain (11008 : Int32) (1376 : Int32) (1000000 : Int32) (if 1 < (-(p111.2.1 : Int32) : Int32) then (-(p111.2.1 : Int32) : Int32) else 1 : Int32) (0 : Int32) (0 : Int32) (p157.1 : Int32) (p157.2.1 : Int32) (p157.2.2 : (Nat → Int32)) t0_0 t1_0 = p276
      unfold S_Wri_writeShort_c64
      exact trivial
theorem T_floatText2 {A : Int32} {B : Int32} {C : Int32} {x3 : Int64} {x4 : Int32} {t0_0 : Int32} {t1_0 : (Nat → Int64)} {t2_0 : Int32} {t2_1 : Int32} {t3_0 : (Nat → Int32)} {t4_0 : Int32} {t4_1 : Int32} {t5_0 : (Nat → Int32)} {t6_0 : Int32} {t6_1 : Int32} {t7_0 : (Nat → Int32)} {t8_0 : Int32} {t8_1 : Int32} {t9_0 : (Nat → Int32)} {t10_0 : Int32} {t10_1 : Int32} {t11_0 : (Nat → Int32)} {t12_0 : Int32} {t12_1 : Int32} {t13_0 : (Nat → Int32)} {t14_0 : Int64} {t14_1 : Int32} {t14_2 : Int32} (hB : 150 ≤ B.toInt ∧ B.toInt ≤ 1075) (hC : 255 ≤ C.toInt ∧ C.toInt ≤ 2047) (hCB : C.toInt ≤ B.toInt + 972) : (S_Wri_floatText A B C x3 x4 t0_0 t1_0 t2_0 t2_1 t3_0 t4_0 t4_1 t5_0 t6_0 t6_1 t7_0 t8_0 t8_1 t9_0 t10_0 t10_1 t11_0 t12_0 t12_1 t13_0 t14_0 t14_1 t14_2) := by
  have e0 : (0 : Int32).toInt = 0 := rfl
  have e1 : (1 : Int32).toInt = 1 := rfl
  unfold S_Wri_floatText
  by_cases g1 : ((F_Flo_isNegative A B C x3) : Int32) = (0 : Int32)
  ·
    rw [if_pos g1]
    unfold S_Wri_floatText_J21
    unfold S_Wri_floatText_J22
    generalize F_Wri_begin_p (0 : Int32) t0_0 t1_0 = p100
    unfold S_Wri_floatText_c22
    by_cases g2 : ((F_Flo_isNoNumber A B C x3) : Int32) = (0 : Int32)
    ·
      rw [if_pos g2]
      by_cases g3 : ((F_Flo_isFinite A B C x3) : Int32) = (0 : Int32)
      ·
        rw [if_pos g3]
        generalize F_She_addText_24 (11008 : Int32) (1376 : Int32) (1000000 : Int32) (p100.1 : Int32) (p100.2 : (Nat → Int64)) = p317
        unfold S_Wri_floatText_c59
        exact trivial
      ·
        rw [if_neg g3]
        by_cases g4 : ((F_Flo_isZero A B C x3) : Int32) = (0 : Int32)
        ·
          rw [if_pos g4]
          by_cases g5 : x4 = (0 : Int32)
          ·
            rw [if_pos g5]
            have g5i : x4.toInt = 0 := q_eqI g5
            have h6 := T_writeShort (A := A) (B := B) (C := C) (x3 := x3) (t0_0 := (p100.1 : Int32)) (t1_0 := (p100.2 : (Nat → Int64))) (t2_0 := t2_0) (t2_1 := t2_1) (t3_0 := t3_0) (t4_0 := t4_0) (t4_1 := t4_1) (t5_0 := t5_0) (t6_0 := t6_0) (t6_1 := t6_1) (t7_0 := t7_0) (t8_0 := t8_0) (t8_1 := t8_1) (t9_0 := t9_0) (t10_0 := t10_0) (t10_1 := t10_1) (t11_0 := t11_0) (t12_0 := t12_0) (t12_1 := t12_1) (t13_0 := t13_0) (t14_0 := t14_0) (t14_1 := t14_1) (t14_2 := t14_2) hB hC hCB
            refine v_oweS h6 ?_
            generalize F_Wri_writeShort A B C x3 (p100.1 : Int32) (p100.2 : (Nat → Int64)) t2_0 t2_1 t3_0 t4_0 t4_1 t5_0 t6_0 t6_1 t7_0 t8_0 t8_1 t9_0 t10_0 t10_1 t11_0 t12_0 t12_1 t13_0 t14_0 t14_1 t14_2 = p213
            unfold S_Wri_floatText_c112
            exact trivial
          ·
            rw [if_neg g5]
            have g5i : x4.toInt ≠ 0 := q_neI g5
            generalize F_Wri_writeHexadecimal A B C x3 (p100.1 : Int32) (p100.2 : (Nat → Int64)) t14_0 t14_1 t14_2 = p255
            unfold S_Wri_floatText_c103
            exact trivial
        ·
          rw [if_neg g4]
          by_cases g7 : x4 = (0 : Int32)
          ·
            rw [if_pos g7]
            have g7i : x4.toInt = 0 := q_eqI g7
            generalize F_She_addText_26 (11008 : Int32) (1376 : Int32) (1000000 : Int32) (p100.1 : Int32) (p100.2 : (Nat → Int64)) = p277
            unfold S_Wri_floatText_c89
            exact trivial
          ·
            rw [if_neg g7]
            have g7i : x4.toInt ≠ 0 := q_neI g7
            generalize F_She_addText_25 (11008 : Int32) (1376 : Int32) (1000000 : Int32) (p100.1 : Int32) (p100.2 : (Nat → Int64)) = p297
            unfold S_Wri_floatText_c89_6
            exact trivial
    ·
      rw [if_neg g2]
      generalize F_She_addText_23 (11008 : Int32) (1376 : Int32) (1000000 : Int32) (p100.1 : Int32) (p100.2 : (Nat → Int64)) = p337
      unfold S_Wri_floatText_c39
      exact trivial
  ·
    rw [if_neg g1]
    by_cases g8 : ((F_Flo_isNoNumber A B C x3) : Int32) = (0 : Int32)
    ·
      rw [if_pos g8]
      unfold S_Wri_floatText_J22
      generalize F_Wri_begin_p (1 : Int32) t0_0 t1_0 = p100
      unfold S_Wri_floatText_c22
      rw [if_pos g8]
      by_cases g9 : ((F_Flo_isFinite A B C x3) : Int32) = (0 : Int32)
      ·
        rw [if_pos g9]
        generalize F_She_addText_24 (11008 : Int32) (1376 : Int32) (1000000 : Int32) (p100.1 : Int32) (p100.2 : (Nat → Int64)) = p317
        unfold S_Wri_floatText_c59
        exact trivial
      ·
        rw [if_neg g9]
        by_cases g10 : ((F_Flo_isZero A B C x3) : Int32) = (0 : Int32)
        ·
          rw [if_pos g10]
          by_cases g11 : x4 = (0 : Int32)
          ·
            rw [if_pos g11]
            have g11i : x4.toInt = 0 := q_eqI g11
            have h12 := T_writeShort (A := A) (B := B) (C := C) (x3 := x3) (t0_0 := (p100.1 : Int32)) (t1_0 := (p100.2 : (Nat → Int64))) (t2_0 := t2_0) (t2_1 := t2_1) (t3_0 := t3_0) (t4_0 := t4_0) (t4_1 := t4_1) (t5_0 := t5_0) (t6_0 := t6_0) (t6_1 := t6_1) (t7_0 := t7_0) (t8_0 := t8_0) (t8_1 := t8_1) (t9_0 := t9_0) (t10_0 := t10_0) (t10_1 := t10_1) (t11_0 := t11_0) (t12_0 := t12_0) (t12_1 := t12_1) (t13_0 := t13_0) (t14_0 := t14_0) (t14_1 := t14_1) (t14_2 := t14_2) hB hC hCB
            refine v_oweS h12 ?_
            generalize F_Wri_writeShort A B C x3 (p100.1 : Int32) (p100.2 : (Nat → Int64)) t2_0 t2_1 t3_0 t4_0 t4_1 t5_0 t6_0 t6_1 t7_0 t8_0 t8_1 t9_0 t10_0 t10_1 t11_0 t12_0 t12_1 t13_0 t14_0 t14_1 t14_2 = p213
            unfold S_Wri_floatText_c112
            exact trivial
          ·
            rw [if_neg g11]
            have g11i : x4.toInt ≠ 0 := q_neI g11
            generalize F_Wri_writeHexadecimal A B C x3 (p100.1 : Int32) (p100.2 : (Nat → Int64)) t14_0 t14_1 t14_2 = p255
            unfold S_Wri_floatText_c103
            exact trivial
        ·
          rw [if_neg g10]
          by_cases g13 : x4 = (0 : Int32)
          ·
            rw [if_pos g13]
            have g13i : x4.toInt = 0 := q_eqI g13
            generalize F_She_addText_26 (11008 : Int32) (1376 : Int32) (1000000 : Int32) (p100.1 : Int32) (p100.2 : (Nat → Int64)) = p277
            unfold S_Wri_floatText_c89
            exact trivial
          ·
            rw [if_neg g13]
            have g13i : x4.toInt ≠ 0 := q_neI g13
            generalize F_She_addText_25 (11008 : Int32) (1376 : Int32) (1000000 : Int32) (p100.1 : Int32) (p100.2 : (Nat → Int64)) = p297
            unfold S_Wri_floatText_c89_6
            exact trivial
    ·
      rw [if_neg g8]
      unfold S_Wri_floatText_J21
      unfold S_Wri_floatText_J22
      generalize F_Wri_begin_p (0 : Int32) t0_0 t1_0 = p100
      unfold S_Wri_floatText_c22
      rw [if_neg g8]
      generalize F_She_addText_23 (11008 : Int32) (1376 : Int32) (1000000 : Int32) (p100.1 : Int32) (p100.2 : (Nat → Int64)) = p337
      unfold S_Wri_floatText_c39
      exact trivial

/-! what the calls that tell owe: told, compare, print, figures, feed -/
theorem v_addp1 {R N K x t0 : Int32} {t1 : Nat → Int64} (h : -1 ≤ t0.toInt) (h2 : t0.toInt ≤ 2000000) : (F_She_add_p R N K x t0 t1).1.toInt = t0.toInt + 1 := by
  have e : (t0 + 1 : Int32).toInt = t0.toInt + 1 := q_addI (y := 1) rfl (by decide) (by omega) (by omega)
  unfold F_She_add_p
  split
  · exact e
  · exact e
theorem T_tellDecimal {R : Int32} {x3 : Int32} {t0_0 : Int32} {t0_1 : Int32} {t1_0 : (Nat → Int32)} {t2_0 : Int32} {t2_1 : Int32} {t3_0 : (Nat → Int32)} {t4_0 : Int32} {t4_1 : Int32} {t5_0 : Int32} {t5_1 : Int32} {t6_0 : (Nat → Int32)}  : (S_NH_tellDecimal R x3 t0_0 t0_1 t1_0 t2_0 t2_1 t3_0 t4_0 t4_1 t5_0 t5_1 t6_0) := by
  have e0 : (0 : Int32).toInt = 0 := rfl
  have e1 : (1 : Int32).toInt = 1 := rfl
  unfold S_NH_tellDecimal
  by_cases g1 : x3 = (0 : Int32)
  ·
    rw [if_pos g1]
    have g1i : x3.toInt = 0 := q_eqI g1
    exact trivial
  ·
    rw [if_neg g1]
    have g1i : x3.toInt ≠ 0 := q_neI g1
    by_cases g2 : x3 = (1 : Int32)
    ·
      rw [if_pos g2]
      have g2i : x3.toInt = 1 := q_eqI g2
      exact trivial
    ·
      rw [if_neg g2]
      have g2i : x3.toInt ≠ 1 := q_neI g2
      by_cases g3 : x3 = (2 : Int32)
      ·
        rw [if_pos g3]
        have g3i : x3.toInt = 2 := q_eqI g3
        exact trivial
      ·
        rw [if_neg g3]
        have g3i : x3.toInt ≠ 2 := q_neI g3
        generalize F_Big_copy (220 : Int32) R t0_0 t0_1 t1_0 t5_0 t5_1 t6_0 = p52
        unfold S_NH_tellDecimal_c46
        have h4 := T_fillB (R := (220 : Int32)) (x3 := (0 : Int32)) (t0_0 := t2_0) (t0_1 := t2_1) (t1_0 := t3_0) (t2_0 := (p52.1 : Int32)) (t2_1 := (p52.2.1 : Int32)) (t3_0 := (p52.2.2 : (Nat → Int32))) (by decide)
        refine v_oweS h4.1 ?_
        replace h4 := h4.2
        generalize F_Dig_fill (220 : Int32) (0 : Int32) t2_0 t2_1 t3_0 (p52.1 : Int32) (p52.2.1 : Int32) (p52.2.2 : (Nat → Int32)) = p86 at h4 ⊢
        unfold S_NH_tellDecimal_c61
        exact trivial
theorem T_told {x2 : Int32} {x3 : Int32} {x4 : Int32} {t0_0 : Int32} {t0_1 : Int32} {t1_0 : (Nat → Int32)} {t2_0 : Int32} {t2_1 : Int32} {t3_0 : (Nat → Int32)} {t4_0 : (Nat → Int64)} {t5_0 : (Nat → Int64)} {t6_0 : Int32} {t6_1 : Int32} {t7_0 : (Nat → Int32)} {t8_0 : Int32} {t8_1 : Int32} {t9_0 : (Nat → Int32)} {t10_0 : Int32} {t10_1 : Int32} {t11_0 : (Nat → Int32)} {t12_0 : Int32} {t12_1 : Int32} {t13_0 : (Nat → Int32)} {t14_0 : Int64} {t14_1 : Int32} {t14_2 : Int32} {t15_0 : Int64} {t15_1 : Int32} {t15_2 : Int32} {t16_0 : Int32} {t16_1 : Int32} {t17_0 : (Nat → Int32)} {t18_0 : Int32} {t18_1 : Int32} {t19_0 : Int32} {t19_1 : Int32} {t20_0 : (Nat → Int32)}  : (S_NH_told x2 x3 x4 t0_0 t0_1 t1_0 t2_0 t2_1 t3_0 t4_0 t5_0 t6_0 t6_1 t7_0 t8_0 t8_1 t9_0 t10_0 t10_1 t11_0 t12_0 t12_1 t13_0 t14_0 t14_1 t14_2 t15_0 t15_1 t15_2 t16_0 t16_1 t17_0 t18_0 t18_1 t19_0 t19_1 t20_0) := by
  have e0 : (0 : Int32).toInt = 0 := rfl
  have e1 : (1 : Int32).toInt = 1 := rfl
  unfold S_NH_told
  by_cases g1 : (F_NH_needRegister x2 x3) = (0 : Int32)
  ·
    rw [if_pos g1]
    have g1r := v_needReg g1
    by_cases g2 : x4 < (0 : Int32)
    ·
      rw [if_pos g2]
      have g2i : x4.toInt < 0 := q_ltI g2
      unfold S_NH_told_J14
      have g3 : ¬ ((F_NH_need (0 : Int32)) = (0 : Int32)) := (by decide)
      rw [if_neg g3]
      exact trivial
    ·
      rw [if_neg g2]
      have g2i : 0 ≤ x4.toInt := q_nltI g2
      unfold S_NH_told_J14
      have g4 : ((F_NH_need (1 : Int32)) = (0 : Int32)) := (by decide)
      rw [if_pos g4]
      by_cases g5 : x2 = (0 : Int32)
      ·
        rw [if_pos g5]
        have g5i : x2.toInt = 0 := q_eqI g5
        by_cases g6 : (4 : Int32) < x4
        ·
          rw [if_pos g6]
          have g6i : 4 < x4.toInt := q_ltI g6
          have g7 : ¬ ((F_NH_need (0 : Int32)) = (0 : Int32)) := (by decide)
          rw [if_neg g7]
          exact trivial
        ·
          rw [if_neg g6]
          have g6i : x4.toInt ≤ 4 := q_nltI g6
          have g8 : ((F_NH_need (1 : Int32)) = (0 : Int32)) := (by decide)
          rw [if_pos g8]
          refine And.intro (by omega) ?_
          refine And.intro (by omega) ?_
          exact trivial
      ·
        rw [if_neg g5]
        have g5i : x2.toInt ≠ 0 := q_neI g5
        by_cases g9 : x2 = (1 : Int32)
        ·
          rw [if_pos g9]
          have g9i : x2.toInt = 1 := q_eqI g9
          by_cases g10 : x4 ≤ (2 : Int32)
          ·
            rw [if_pos g10]
            have g10i : x4.toInt ≤ 2 := q_leI g10
            have g11 : ((F_NH_need (1 : Int32)) = (0 : Int32)) := (by decide)
            rw [if_pos g11]
            refine And.intro (by omega) ?_
            refine And.intro (by omega) ?_
            have h12 := T_tellDecimal (R := (108 : Int32)) (x3 := x4) (t0_0 := t0_0) (t0_1 := t0_1) (t1_0 := t1_0) (t2_0 := t2_0) (t2_1 := t2_1) (t3_0 := t3_0) (t4_0 := t18_0) (t4_1 := t18_1) (t5_0 := t19_0) (t5_1 := t19_1) (t6_0 := t20_0) 
            refine v_oweS h12 ?_
            generalize F_NH_tellDecimal (108 : Int32) x4 t0_0 t0_1 t1_0 t2_0 t2_1 t3_0 t18_0 t18_1 t19_0 t19_1 t20_0 = p662
            unfold S_NH_told_c87
            exact trivial
          ·
            rw [if_neg g10]
            have g10i : 2 < x4.toInt := q_nleI g10
            refine And.intro (by omega) ?_
            refine And.intro (by omega) ?_
            by_cases g13 : t18_1 ≤ (x4 - 3 : Int32)
            ·
              rw [if_pos g13]
              have g14 : ¬ ((F_NH_need (0 : Int32)) = (0 : Int32)) := (by decide)
              rw [if_neg g14]
              exact trivial
            ·
              rw [if_neg g13]
              have g15 : ((F_NH_need (1 : Int32)) = (0 : Int32)) := (by decide)
              rw [if_pos g15]
              have h16 := T_tellDecimal (R := (108 : Int32)) (x3 := x4) (t0_0 := t0_0) (t0_1 := t0_1) (t1_0 := t1_0) (t2_0 := t2_0) (t2_1 := t2_1) (t3_0 := t3_0) (t4_0 := t18_0) (t4_1 := t18_1) (t5_0 := t19_0) (t5_1 := t19_1) (t6_0 := t20_0) 
              refine v_oweS h16 ?_
              generalize F_NH_tellDecimal (108 : Int32) x4 t0_0 t0_1 t1_0 t2_0 t2_1 t3_0 t18_0 t18_1 t19_0 t19_1 t20_0 = p779
              unfold S_NH_told_c87_9
              exact trivial
        ·
          rw [if_neg g9]
          have g9i : x2.toInt ≠ 1 := q_neI g9
          by_cases g17 : (2 : Int32) < x4
          ·
            rw [if_pos g17]
            have g17i : 2 < x4.toInt := q_ltI g17
            unfold S_NH_told_J101
            have g18 : ¬ ((F_NH_need (0 : Int32)) = (0 : Int32)) := (by decide)
            rw [if_neg g18]
            exact trivial
          ·
            rw [if_neg g17]
            have g17i : x4.toInt ≤ 2 := q_nltI g17
            unfold S_NH_told_J101
            have g19 : ((F_NH_need (1 : Int32)) = (0 : Int32)) := (by decide)
            rw [if_pos g19]
            by_cases g20 : x2 = (2 : Int32)
            ·
              rw [if_pos g20]
              have g20i : x2.toInt = 2 := q_eqI g20
              refine And.intro (by omega) ?_
              refine And.intro (by omega) ?_
              by_cases g21 : x4 = (0 : Int32)
              ·
                rw [if_pos g21]
                have g21i : x4.toInt = 0 := q_eqI g21
                exact trivial
              ·
                rw [if_neg g21]
                have g21i : x4.toInt ≠ 0 := q_neI g21
                rw [if_pos g20]
                by_cases g22 : (F_NH_canHave ((F_Flo_isFinite (52 : Int32) (1075 : Int32) (2047 : Int32) (t4_0 x3.toNatClampNeg : Int64)) : Int32)) = (0 : Int32)
                ·
                  rw [if_pos g22]
                  generalize F_Flo_findShortest (52 : Int32) (1075 : Int32) (2047 : Int32) (t4_0 x3.toNatClampNeg : Int64) t14_0 t14_1 t14_2 t0_0 t0_1 t1_0 t6_0 t6_1 t7_0 t8_0 t8_1 t9_0 t10_0 t10_1 t11_0 t12_0 t12_1 t13_0 = p263
                  unfold S_NH_told_c141
                  by_cases g23 : x4 = (1 : Int32)
                  ·
                    rw [if_pos g23]
                    have g23i : x4.toInt = 1 := q_eqI g23
                    exact trivial
                  ·
                    rw [if_neg g23]
                    have g23i : x4.toInt ≠ 1 := q_neI g23
                    exact trivial
                ·
                  rw [if_neg g22]
                  exact trivial
            ·
              rw [if_neg g20]
              have g20i : x2.toInt ≠ 2 := q_neI g20
              refine And.intro (by omega) ?_
              refine And.intro (by omega) ?_
              by_cases g24 : x4 = (0 : Int32)
              ·
                rw [if_pos g24]
                have g24i : x4.toInt = 0 := q_eqI g24
                exact trivial
              ·
                rw [if_neg g24]
                have g24i : x4.toInt ≠ 0 := q_neI g24
                rw [if_neg g20]
                by_cases g25 : (F_NH_canHave ((F_Flo_isFinite (23 : Int32) (150 : Int32) (255 : Int32) (t5_0 x3.toNatClampNeg : Int64)) : Int32)) = (0 : Int32)
                ·
                  rw [if_pos g25]
                  generalize F_Flo_findShortest (23 : Int32) (150 : Int32) (255 : Int32) (t5_0 x3.toNatClampNeg : Int64) t15_0 t15_1 t15_2 t0_0 t0_1 t1_0 t6_0 t6_1 t7_0 t8_0 t8_1 t9_0 t10_0 t10_1 t11_0 t12_0 t12_1 t13_0 = p583
                  unfold S_NH_told_c141_6
                  by_cases g26 : x4 = (1 : Int32)
                  ·
                    rw [if_pos g26]
                    have g26i : x4.toInt = 1 := q_eqI g26
                    exact trivial
                  ·
                    rw [if_neg g26]
                    have g26i : x4.toInt ≠ 1 := q_neI g26
                    exact trivial
                ·
                  rw [if_neg g25]
                  exact trivial
  ·
    rw [if_neg g1]
    exact trivial
theorem T_compare {x2 : Int32} {x3 : Int32} {x4 : Int32} {t0_0 : Int32} {t0_1 : Int32} {t1_0 : (Nat → Int32)} {t2_0 : Int32} {t2_1 : Int32} {t3_0 : (Nat → Int32)} {t4_0 : (Nat → Int64)} {t5_0 : (Nat → Int64)} {t6_0 : Int32} {t6_1 : Int32} {t7_0 : (Nat → Int32)} {t8_0 : Int32} {t8_1 : Int32} {t9_0 : Int32} {t9_1 : Int32} {t10_0 : (Nat → Int32)} {t11_0 : Int32} {t11_1 : Int32} {t12_0 : (Nat → Int32)} {t13_0 : Int32} {t13_1 : Int32} {t14_0 : Int32} {t14_1 : Int32} {t15_0 : (Nat → Int32)}  : (S_NH_compare x2 x3 x4 t0_0 t0_1 t1_0 t2_0 t2_1 t3_0 t4_0 t5_0 t6_0 t6_1 t7_0 t8_0 t8_1 t9_0 t9_1 t10_0 t11_0 t11_1 t12_0 t13_0 t13_1 t14_0 t14_1 t15_0) := by
  have e0 : (0 : Int32).toInt = 0 := rfl
  have e1 : (1 : Int32).toInt = 1 := rfl
  unfold S_NH_compare
  by_cases g1 : (F_NH_needRegister x2 x3) = (0 : Int32)
  ·
    rw [if_pos g1]
    have g1r := v_needReg g1
    by_cases g2 : (F_NH_needRegister x2 x4) = (0 : Int32)
    ·
      rw [if_pos g2]
      have g2r := v_needReg g2
      by_cases g3 : x2 = (0 : Int32)
      ·
        rw [if_pos g3]
        have g3i : x2.toInt = 0 := q_eqI g3
        refine And.intro (by omega) ?_
        refine And.intro (by omega) ?_
        refine And.intro (by omega) ?_
        refine And.intro (by omega) ?_
        exact trivial
      ·
        rw [if_neg g3]
        have g3i : x2.toInt ≠ 0 := q_neI g3
        by_cases g4 : x2 = (1 : Int32)
        ·
          rw [if_pos g4]
          have g4i : x2.toInt = 1 := q_eqI g4
          refine And.intro (by omega) ?_
          refine And.intro (by omega) ?_
          refine And.intro (by omega) ?_
          refine And.intro (by omega) ?_
          generalize F_DW_order (108 : Int32) (108 : Int32) t0_0 t0_1 t1_0 t2_0 t2_1 t3_0 t8_0 t8_1 t9_0 t9_1 t10_0 t13_0 t13_1 t14_0 t14_1 t15_0 = p1054
          unfold S_NH_compare_c51
          exact trivial
        ·
          rw [if_neg g4]
          have g4i : x2.toInt ≠ 1 := q_neI g4
          by_cases g5 : x2 = (2 : Int32)
          ·
            rw [if_pos g5]
            have g5i : x2.toInt = 2 := q_eqI g5
            rw [if_pos g5]
            refine And.intro (by omega) ?_
            refine And.intro (by omega) ?_
            rw [if_pos g5]
            refine And.intro (by omega) ?_
            refine And.intro (by omega) ?_
            by_cases g6 : ((F_Flo_isNoNumber (52 : Int32) (1075 : Int32) (2047 : Int32) (t4_0 x3.toNatClampNeg : Int64)) : Int32) = (0 : Int32)
            ·
              rw [if_pos g6]
              by_cases g7 : ((F_Flo_isNoNumber (52 : Int32) (1075 : Int32) (2047 : Int32) (t4_0 x4.toNatClampNeg : Int64)) : Int32) = (0 : Int32)
              ·
                rw [if_pos g7]
                have g8 : ((F_NH_canHave (1 : Int32)) = (0 : Int32)) := (by decide)
                rw [if_pos g8]
                exact trivial
              ·
                rw [if_neg g7]
                have g9 : ¬ ((F_NH_canHave (0 : Int32)) = (0 : Int32)) := (by decide)
                rw [if_neg g9]
                exact trivial
            ·
              rw [if_neg g6]
              have g10 : ¬ ((F_NH_canHave (0 : Int32)) = (0 : Int32)) := (by decide)
              rw [if_neg g10]
              exact trivial
          ·
            rw [if_neg g5]
            have g5i : x2.toInt ≠ 2 := q_neI g5
            rw [if_neg g5]
            refine And.intro (by omega) ?_
            refine And.intro (by omega) ?_
            rw [if_neg g5]
            refine And.intro (by omega) ?_
            refine And.intro (by omega) ?_
            by_cases g11 : ((F_Flo_isNoNumber (23 : Int32) (150 : Int32) (255 : Int32) (t5_0 x3.toNatClampNeg : Int64)) : Int32) = (0 : Int32)
            ·
              rw [if_pos g11]
              by_cases g12 : ((F_Flo_isNoNumber (23 : Int32) (150 : Int32) (255 : Int32) (t5_0 x4.toNatClampNeg : Int64)) : Int32) = (0 : Int32)
              ·
                rw [if_pos g12]
                have g13 : ((F_NH_canHave (1 : Int32)) = (0 : Int32)) := (by decide)
                rw [if_pos g13]
                exact trivial
              ·
                rw [if_neg g12]
                have g14 : ¬ ((F_NH_canHave (0 : Int32)) = (0 : Int32)) := (by decide)
                rw [if_neg g14]
                exact trivial
            ·
              rw [if_neg g11]
              have g15 : ¬ ((F_NH_canHave (0 : Int32)) = (0 : Int32)) := (by decide)
              rw [if_neg g15]
              exact trivial
    ·
      rw [if_neg g2]
      exact trivial
  ·
    rw [if_neg g1]
    exact trivial
theorem T_print {x2 : Int32} {x3 : Int32} {x4 : Int32} {t0_0 : Int32} {t1_0 : (Nat → Int64)} {t2_0 : Int32} {t2_1 : Int32} {t3_0 : (Nat → Int32)} {t4_0 : Int32} {t4_1 : Int32} {t5_0 : (Nat → Int32)} {t6_0 : (Nat → Int64)} {t7_0 : (Nat → Int64)} {t8_0 : Int32} {t8_1 : Int32} {t9_0 : (Nat → Int32)} {t10_0 : Int32} {t10_1 : Int32} {t11_0 : (Nat → Int32)} {t12_0 : Int32} {t12_1 : Int32} {t13_0 : (Nat → Int32)} {t14_0 : Int32} {t14_1 : Int32} {t15_0 : (Nat → Int32)} {t16_0 : Int64} {t16_1 : Int32} {t16_2 : Int32} {t17_0 : Int64} {t17_1 : Int32} {t17_2 : Int32} {t18_0 : Int32} {t18_1 : Int32} {t19_0 : (Nat → Int32)} {t20_0 : Int32} {t20_1 : Int32} {t21_0 : Int32} {t21_1 : Int32} {t22_0 : (Nat → Int32)} {vw vd : Int} (hw : bO 68 t18_0 t18_1 t19_0 vw) (hd : dO 108 t21_0 t21_1 t22_0 t20_0 t20_1 vd) : (S_NH_print x2 x3 x4 t0_0 t1_0 t2_0 t2_1 t3_0 t4_0 t4_1 t5_0 t6_0 t7_0 t8_0 t8_1 t9_0 t10_0 t10_1 t11_0 t12_0 t12_1 t13_0 t14_0 t14_1 t15_0 t16_0 t16_1 t16_2 t17_0 t17_1 t17_2 t18_0 t18_1 t19_0 t20_0 t20_1 t21_0 t21_1 t22_0) := by
  have e0 : (0 : Int32).toInt = 0 := rfl
  have e1 : (1 : Int32).toInt = 1 := rfl
  have hs := hd.2.2
  obtain ⟨hc, hc1, hc2, hc3⟩ := hd.2.1
  have hc4 := hc2.1
  unfold S_NH_print
  by_cases g1 : (F_NH_needRegister x2 x3) = (0 : Int32)
  ·
    rw [if_pos g1]
    have g1r := v_needReg g1
    by_cases g2 : x2 = (0 : Int32)
    ·
      rw [if_pos g2]
      have g2i : x2.toInt = 0 := q_eqI g2
      by_cases g3 : x4 < (2 : Int32)
      ·
        rw [if_pos g3]
        have g3i : x4.toInt < 2 := q_ltI g3
        unfold S_NH_print_J24
        unfold S_NH_print_J25
        have g4 : ¬ ((F_NH_need (0 : Int32)) = (0 : Int32)) := (by decide)
        rw [if_neg g4]
        exact trivial
      ·
        rw [if_neg g3]
        have g3i : 2 ≤ x4.toInt := q_nltI g3
        by_cases g5 : (36 : Int32) < x4
        ·
          rw [if_pos g5]
          have g5i : 36 < x4.toInt := q_ltI g5
          unfold S_NH_print_J24
          unfold S_NH_print_J25
          have g6 : ¬ ((F_NH_need (0 : Int32)) = (0 : Int32)) := (by decide)
          rw [if_neg g6]
          exact trivial
        ·
          rw [if_neg g5]
          have g5i : x4.toInt ≤ 36 := q_nltI g5
          unfold S_NH_print_J25
          have g7 : ((F_NH_need (1 : Int32)) = (0 : Int32)) := (by decide)
          rw [if_pos g7]
          refine And.intro (by omega) ?_
          refine And.intro (by omega) ?_
          have h8 := S_wholeText2 (R := (68 : Int32)) (x3 := x4) (t0_0 := t0_0) (t1_0 := t1_0) (t2_0 := t2_0) (t2_1 := t2_1) (t3_0 := t3_0) (t4_0 := t18_0) (t4_1 := t18_1) (t5_0 := t19_0) hw.J (by omega) (by omega)
          refine v_oweS h8 ?_
          generalize F_Wri_wholeText (68 : Int32) x4 t0_0 t1_0 t2_0 t2_1 t3_0 t18_0 t18_1 t19_0 = p1317
          unfold S_NH_print_c39
          exact trivial
    ·
      rw [if_neg g2]
      have g2i : x2.toInt ≠ 0 := q_neI g2
      by_cases g9 : x2 = (1 : Int32)
      ·
        rw [if_pos g9]
        have g9i : x2.toInt = 1 := q_eqI g9
        by_cases g10 : x4 < (0 : Int32)
        ·
          rw [if_pos g10]
          have g10i : x4.toInt < 0 := q_ltI g10
          unfold S_NH_print_J63
          unfold S_NH_print_J64
          have g11 : ¬ ((F_NH_need (0 : Int32)) = (0 : Int32)) := (by decide)
          rw [if_neg g11]
          exact trivial
        ·
          rw [if_neg g10]
          have g10i : 0 ≤ x4.toInt := q_nltI g10
          by_cases g12 : (2 : Int32) < x4
          ·
            rw [if_pos g12]
            have g12i : 2 < x4.toInt := q_ltI g12
            unfold S_NH_print_J63
            unfold S_NH_print_J64
            have g13 : ¬ ((F_NH_need (0 : Int32)) = (0 : Int32)) := (by decide)
            rw [if_neg g13]
            exact trivial
          ·
            rw [if_neg g12]
            have g12i : x4.toInt ≤ 2 := q_nltI g12
            unfold S_NH_print_J64
            have g14 : ((F_NH_need (1 : Int32)) = (0 : Int32)) := (by decide)
            rw [if_pos g14]
            refine And.intro (by omega) ?_
            refine And.intro (by omega) ?_
            have h15 := T_decimalText2 (R := (108 : Int32)) (x3 := x4) (t0_0 := t0_0) (t1_0 := t1_0) (t2_0 := t4_0) (t2_1 := t4_1) (t3_0 := t5_0) (t4_0 := t2_0) (t4_1 := t2_1) (t5_0 := t3_0) (t6_0 := t20_0) (t6_1 := t20_1) (t7_0 := t21_0) (t7_1 := t21_1) (t8_0 := t22_0) hs ⟨by omega, by omega⟩
            refine v_oweS h15 ?_
            generalize F_Wri_decimalText (108 : Int32) x4 t0_0 t1_0 t4_0 t4_1 t5_0 t2_0 t2_1 t3_0 t20_0 t20_1 t21_0 t21_1 t22_0 = p1199
            unfold S_NH_print_c78
            exact trivial
      ·
        rw [if_neg g9]
        have g9i : x2.toInt ≠ 1 := q_neI g9
        by_cases g16 : x4 < (0 : Int32)
        ·
          rw [if_pos g16]
          have g16i : x4.toInt < 0 := q_ltI g16
          unfold S_NH_print_J97
          unfold S_NH_print_J98
          have g17 : ¬ ((F_NH_need (0 : Int32)) = (0 : Int32)) := (by decide)
          rw [if_neg g17]
          exact trivial
        ·
          rw [if_neg g16]
          have g16i : 0 ≤ x4.toInt := q_nltI g16
          by_cases g18 : (1 : Int32) < x4
          ·
            rw [if_pos g18]
            have g18i : 1 < x4.toInt := q_ltI g18
            unfold S_NH_print_J97
            unfold S_NH_print_J98
            have g19 : ¬ ((F_NH_need (0 : Int32)) = (0 : Int32)) := (by decide)
            rw [if_neg g19]
            exact trivial
          ·
            rw [if_neg g18]
            have g18i : x4.toInt ≤ 1 := q_nltI g18
            unfold S_NH_print_J98
            have g20 : ((F_NH_need (1 : Int32)) = (0 : Int32)) := (by decide)
            rw [if_pos g20]
            by_cases g21 : x2 = (2 : Int32)
            ·
              rw [if_pos g21]
              have g21i : x2.toInt = 2 := q_eqI g21
              rw [if_pos g21]
              refine And.intro (by omega) ?_
              refine And.intro (by omega) ?_
              by_cases g22 : x4 = (1 : Int32)
              ·
                rw [if_pos g22]
                have g22i : x4.toInt = 1 := q_eqI g22
                have h23 := T_floatText2 (A := (52 : Int32)) (B := (1075 : Int32)) (C := (2047 : Int32)) (x3 := (t6_0 x3.toNatClampNeg : Int64)) (x4 := (1 : Int32)) (t0_0 := t0_0) (t1_0 := t1_0) (t2_0 := t4_0) (t2_1 := t4_1) (t3_0 := t5_0) (t4_0 := t2_0) (t4_1 := t2_1) (t5_0 := t3_0) (t6_0 := t8_0) (t6_1 := t8_1) (t7_0 := t9_0) (t8_0 := t10_0) (t8_1 := t10_1) (t9_0 := t11_0) (t10_0 := t12_0) (t10_1 := t12_1) (t11_0 := t13_0) (t12_0 := t14_0) (t12_1 := t14_1) (t13_0 := t15_0) (t14_0 := t16_0) (t14_1 := t16_1) (t14_2 := t16_2) (by decide) (by decide) (by decide)
                refine v_oweS h23 ?_
                generalize F_Wri_floatText (52 : Int32) (1075 : Int32) (2047 : Int32) (t6_0 x3.toNatClampNeg : Int64) (1 : Int32) t0_0 t1_0 t4_0 t4_1 t5_0 t2_0 t2_1 t3_0 t8_0 t8_1 t9_0 t10_0 t10_1 t11_0 t12_0 t12_1 t13_0 t14_0 t14_1 t15_0 t16_0 t16_1 t16_2 = p355
                unfold S_NH_print_c127_3
                exact trivial
              ·
                rw [if_neg g22]
                have g22i : x4.toInt ≠ 1 := q_neI g22
                have h24 := T_floatText2 (A := (52 : Int32)) (B := (1075 : Int32)) (C := (2047 : Int32)) (x3 := (t6_0 x3.toNatClampNeg : Int64)) (x4 := (0 : Int32)) (t0_0 := t0_0) (t1_0 := t1_0) (t2_0 := t4_0) (t2_1 := t4_1) (t3_0 := t5_0) (t4_0 := t2_0) (t4_1 := t2_1) (t5_0 := t3_0) (t6_0 := t8_0) (t6_1 := t8_1) (t7_0 := t9_0) (t8_0 := t10_0) (t8_1 := t10_1) (t9_0 := t11_0) (t10_0 := t12_0) (t10_1 := t12_1) (t11_0 := t13_0) (t12_0 := t14_0) (t12_1 := t14_1) (t13_0 := t15_0) (t14_0 := t16_0) (t14_1 := t16_1) (t14_2 := t16_2) (by decide) (by decide) (by decide)
                refine v_oweS h24 ?_
                generalize F_Wri_floatText (52 : Int32) (1075 : Int32) (2047 : Int32) (t6_0 x3.toNatClampNeg : Int64) (0 : Int32) t0_0 t1_0 t4_0 t4_1 t5_0 t2_0 t2_1 t3_0 t8_0 t8_1 t9_0 t10_0 t10_1 t11_0 t12_0 t12_1 t13_0 t14_0 t14_1 t15_0 t16_0 t16_1 t16_2 = p243
                unfold S_NH_print_c127
                exact trivial
            ·
              rw [if_neg g21]
              have g21i : x2.toInt ≠ 2 := q_neI g21
              rw [if_neg g21]
              refine And.intro (by omega) ?_
              refine And.intro (by omega) ?_
              by_cases g25 : x4 = (1 : Int32)
              ·
                rw [if_pos g25]
                have g25i : x4.toInt = 1 := q_eqI g25
                have h26 := T_floatText2 (A := (23 : Int32)) (B := (150 : Int32)) (C := (255 : Int32)) (x3 := (t7_0 x3.toNatClampNeg : Int64)) (x4 := (1 : Int32)) (t0_0 := t0_0) (t1_0 := t1_0) (t2_0 := t4_0) (t2_1 := t4_1) (t3_0 := t5_0) (t4_0 := t2_0) (t4_1 := t2_1) (t5_0 := t3_0) (t6_0 := t8_0) (t6_1 := t8_1) (t7_0 := t9_0) (t8_0 := t10_0) (t8_1 := t10_1) (t9_0 := t11_0) (t10_0 := t12_0) (t10_1 := t12_1) (t11_0 := t13_0) (t12_0 := t14_0) (t12_1 := t14_1) (t13_0 := t15_0) (t14_0 := t17_0) (t14_1 := t17_1) (t14_2 := t17_2) (by decide) (by decide) (by decide)
                refine v_oweS h26 ?_
                generalize F_Wri_floatText (23 : Int32) (150 : Int32) (255 : Int32) (t7_0 x3.toNatClampNeg : Int64) (1 : Int32) t0_0 t1_0 t4_0 t4_1 t5_0 t2_0 t2_1 t3_0 t8_0 t8_1 t9_0 t10_0 t10_1 t11_0 t12_0 t12_1 t13_0 t14_0 t14_1 t15_0 t17_0 t17_1 t17_2 = p1055
                unfold S_NH_print_c127_9
                exact trivial
              ·
                rw [if_neg g25]
                have g25i : x4.toInt ≠ 1 := q_neI g25
                have h27 := T_floatText2 (A := (23 : Int32)) (B := (150 : Int32)) (C := (255 : Int32)) (x3 := (t7_0 x3.toNatClampNeg : Int64)) (x4 := (0 : Int32)) (t0_0 := t0_0) (t1_0 := t1_0) (t2_0 := t4_0) (t2_1 := t4_1) (t3_0 := t5_0) (t4_0 := t2_0) (t4_1 := t2_1) (t5_0 := t3_0) (t6_0 := t8_0) (t6_1 := t8_1) (t7_0 := t9_0) (t8_0 := t10_0) (t8_1 := t10_1) (t9_0 := t11_0) (t10_0 := t12_0) (t10_1 := t12_1) (t11_0 := t13_0) (t12_0 := t14_0) (t12_1 := t14_1) (t13_0 := t15_0) (t14_0 := t17_0) (t14_1 := t17_1) (t14_2 := t17_2) (by decide) (by decide) (by decide)
                refine v_oweS h27 ?_
                generalize F_Wri_floatText (23 : Int32) (150 : Int32) (255 : Int32) (t7_0 x3.toNatClampNeg : Int64) (0 : Int32) t0_0 t1_0 t4_0 t4_1 t5_0 t2_0 t2_1 t3_0 t8_0 t8_1 t9_0 t10_0 t10_1 t11_0 t12_0 t12_1 t13_0 t14_0 t14_1 t15_0 t17_0 t17_1 t17_2 = p943
                unfold S_NH_print_c127_8
                exact trivial
  ·
    rw [if_neg g1]
    exact trivial
theorem T_figures {x2 : Int32} {x3 : Int32} {x4 : Int32} {x5 : Int32} {x6 : Int32} {t0_0 : Int32} {t1_0 : (Nat → Int64)} {t2_0 : Int32} {t2_1 : Int32} {t3_0 : (Nat → Int32)} {t4_0 : Int32} {t4_1 : Int32} {t5_0 : (Nat → Int32)} {t6_0 : (Nat → Int64)} {t7_0 : (Nat → Int64)} {t8_0 : Int64} {t8_1 : Int32} {t8_2 : Int32} {t9_0 : Int64} {t9_1 : Int32} {t9_2 : Int32}  : (S_NH_figures x2 x3 x4 x5 x6 t0_0 t1_0 t2_0 t2_1 t3_0 t4_0 t4_1 t5_0 t6_0 t7_0 t8_0 t8_1 t8_2 t9_0 t9_1 t9_2) := by
  have e0 : (0 : Int32).toInt = 0 := rfl
  have e1 : (1 : Int32).toInt = 1 := rfl
  unfold S_NH_figures
  by_cases g1 : x2 = (2 : Int32)
  ·
    rw [if_pos g1]
    have g1i : x2.toInt = 2 := q_eqI g1
    unfold S_NH_figures_J10
    by_cases g2 : ((F_NH_isRegister x3) : Int32) = (0 : Int32)
    ·
      rw [if_pos g2]
      unfold S_NH_figures_J32
      unfold S_NH_figures_J33
      have g3 : ¬ ((F_NH_need (0 : Int32)) = (0 : Int32)) := (by decide)
      rw [if_neg g3]
      exact trivial
    ·
      rw [if_neg g2]
      have g2r := v_isReg g2
      by_cases g4 : x6 < (0 : Int32)
      ·
        rw [if_pos g4]
        have g4i : x6.toInt < 0 := q_ltI g4
        unfold S_NH_figures_J32
        unfold S_NH_figures_J33
        have g5 : ¬ ((F_NH_need (0 : Int32)) = (0 : Int32)) := (by decide)
        rw [if_neg g5]
        exact trivial
      ·
        rw [if_neg g4]
        have g4i : 0 ≤ x6.toInt := q_nltI g4
        by_cases g6 : (3 : Int32) < x6
        ·
          rw [if_pos g6]
          have g6i : 3 < x6.toInt := q_ltI g6
          unfold S_NH_figures_J32
          unfold S_NH_figures_J33
          have g7 : ¬ ((F_NH_need (0 : Int32)) = (0 : Int32)) := (by decide)
          rw [if_neg g7]
          exact trivial
        ·
          rw [if_neg g6]
          have g6i : x6.toInt ≤ 3 := q_nltI g6
          unfold S_NH_figures_J33
          have g8 : ((F_NH_need (1 : Int32)) = (0 : Int32)) := (by decide)
          rw [if_pos g8]
          by_cases g9 : x4 = (0 : Int32)
          ·
            rw [if_pos g9]
            have g9i : x4.toInt = 0 := q_eqI g9
            by_cases g10 : x5 < (0 : Int32)
            ·
              rw [if_pos g10]
              have g10i : x5.toInt < 0 := q_ltI g10
              unfold S_NH_figures_J79
              unfold S_NH_figures_J80
              have g11 : ¬ ((F_NH_need (0 : Int32)) = (0 : Int32)) := (by decide)
              rw [if_neg g11]
              exact trivial
            ·
              rw [if_neg g10]
              have g10i : 0 ≤ x5.toInt := q_nltI g10
              by_cases g12 : (1100 : Int32) < x5
              ·
                rw [if_pos g12]
                have g12i : 1100 < x5.toInt := q_ltI g12
                unfold S_NH_figures_J79
                unfold S_NH_figures_J80
                have g13 : ¬ ((F_NH_need (0 : Int32)) = (0 : Int32)) := (by decide)
                rw [if_neg g13]
                exact trivial
              ·
                rw [if_neg g12]
                have g12i : x5.toInt ≤ 1100 := q_nltI g12
                unfold S_NH_figures_J80
                have g14 : ((F_NH_need (1 : Int32)) = (0 : Int32)) := (by decide)
                rw [if_pos g14]
                rw [if_pos g1]
                rw [if_pos g1]
                refine And.intro (by omega) ?_
                refine And.intro (by omega) ?_
                by_cases g15 : (F_NH_canHave ((F_Flo_isFinite (52 : Int32) (1075 : Int32) (2047 : Int32) (t6_0 x3.toNatClampNeg : Int64)) : Int32)) = (0 : Int32)
                ·
                  rw [if_pos g15]
                  refine And.intro (by omega) ?_
                  refine And.intro (by omega) ?_
                  have h16 := T_exactText (A := (52 : Int32)) (B := (1075 : Int32)) (C := (2047 : Int32)) (x3 := (t6_0 x3.toNatClampNeg : Int64)) (x4 := x4) (x5 := x5) (x6 := x6) (t0_0 := t0_0) (t1_0 := t1_0) (t2_0 := t4_0) (t2_1 := t4_1) (t3_0 := t5_0) (t4_0 := t2_0) (t4_1 := t2_1) (t5_0 := t3_0) (t6_0 := t8_0) (t6_1 := t8_1) (t6_2 := t8_2) (by decide) (by decide) (by decide) ⟨by omega, by omega⟩
                  refine v_oweS h16 ?_
                  generalize F_Wri_exactText (52 : Int32) (1075 : Int32) (2047 : Int32) (t6_0 x3.toNatClampNeg : Int64) x4 x5 x6 t0_0 t1_0 t4_0 t4_1 t5_0 t2_0 t2_1 t3_0 t8_0 t8_1 t8_2 = p160
                  unfold S_NH_figures_c122
                  exact trivial
                ·
                  rw [if_neg g15]
                  exact trivial
          ·
            rw [if_neg g9]
            have g9i : x4.toInt ≠ 0 := q_neI g9
            by_cases g17 : x5 < (1 : Int32)
            ·
              rw [if_pos g17]
              have g17i : x5.toInt < 1 := q_ltI g17
              unfold S_NH_figures_J58
              unfold S_NH_figures_J80
              have g18 : ¬ ((F_NH_need (0 : Int32)) = (0 : Int32)) := (by decide)
              rw [if_neg g18]
              exact trivial
            ·
              rw [if_neg g17]
              have g17i : 1 ≤ x5.toInt := q_nltI g17
              by_cases g19 : (800 : Int32) < x5
              ·
                rw [if_pos g19]
                have g19i : 800 < x5.toInt := q_ltI g19
                unfold S_NH_figures_J58
                unfold S_NH_figures_J80
                have g20 : ¬ ((F_NH_need (0 : Int32)) = (0 : Int32)) := (by decide)
                rw [if_neg g20]
                exact trivial
              ·
                rw [if_neg g19]
                have g19i : x5.toInt ≤ 800 := q_nltI g19
                unfold S_NH_figures_J80
                have g21 : ((F_NH_need (1 : Int32)) = (0 : Int32)) := (by decide)
                rw [if_pos g21]
                rw [if_pos g1]
                rw [if_pos g1]
                refine And.intro (by omega) ?_
                refine And.intro (by omega) ?_
                by_cases g22 : (F_NH_canHave ((F_Flo_isFinite (52 : Int32) (1075 : Int32) (2047 : Int32) (t6_0 x3.toNatClampNeg : Int64)) : Int32)) = (0 : Int32)
                ·
                  rw [if_pos g22]
                  refine And.intro (by omega) ?_
                  refine And.intro (by omega) ?_
                  have h23 := T_exactText (A := (52 : Int32)) (B := (1075 : Int32)) (C := (2047 : Int32)) (x3 := (t6_0 x3.toNatClampNeg : Int64)) (x4 := x4) (x5 := x5) (x6 := x6) (t0_0 := t0_0) (t1_0 := t1_0) (t2_0 := t4_0) (t2_1 := t4_1) (t3_0 := t5_0) (t4_0 := t2_0) (t4_1 := t2_1) (t5_0 := t3_0) (t6_0 := t8_0) (t6_1 := t8_1) (t6_2 := t8_2) (by decide) (by decide) (by decide) ⟨by omega, by omega⟩
                  refine v_oweS h23 ?_
                  generalize F_Wri_exactText (52 : Int32) (1075 : Int32) (2047 : Int32) (t6_0 x3.toNatClampNeg : Int64) x4 x5 x6 t0_0 t1_0 t4_0 t4_1 t5_0 t2_0 t2_1 t3_0 t8_0 t8_1 t8_2 = p160
                  unfold S_NH_figures_c122
                  exact trivial
                ·
                  rw [if_neg g22]
                  exact trivial
  ·
    rw [if_neg g1]
    have g1i : x2.toInt ≠ 2 := q_neI g1
    by_cases g24 : x2 = (3 : Int32)
    ·
      rw [if_pos g24]
      have g24i : x2.toInt = 3 := q_eqI g24
      unfold S_NH_figures_J10
      by_cases g25 : ((F_NH_isRegister x3) : Int32) = (0 : Int32)
      ·
        rw [if_pos g25]
        unfold S_NH_figures_J32
        unfold S_NH_figures_J33
        have g26 : ¬ ((F_NH_need (0 : Int32)) = (0 : Int32)) := (by decide)
        rw [if_neg g26]
        exact trivial
      ·
        rw [if_neg g25]
        have g25r := v_isReg g25
        by_cases g27 : x6 < (0 : Int32)
        ·
          rw [if_pos g27]
          have g27i : x6.toInt < 0 := q_ltI g27
          unfold S_NH_figures_J32
          unfold S_NH_figures_J33
          have g28 : ¬ ((F_NH_need (0 : Int32)) = (0 : Int32)) := (by decide)
          rw [if_neg g28]
          exact trivial
        ·
          rw [if_neg g27]
          have g27i : 0 ≤ x6.toInt := q_nltI g27
          by_cases g29 : (3 : Int32) < x6
          ·
            rw [if_pos g29]
            have g29i : 3 < x6.toInt := q_ltI g29
            unfold S_NH_figures_J32
            unfold S_NH_figures_J33
            have g30 : ¬ ((F_NH_need (0 : Int32)) = (0 : Int32)) := (by decide)
            rw [if_neg g30]
            exact trivial
          ·
            rw [if_neg g29]
            have g29i : x6.toInt ≤ 3 := q_nltI g29
            unfold S_NH_figures_J33
            have g31 : ((F_NH_need (1 : Int32)) = (0 : Int32)) := (by decide)
            rw [if_pos g31]
            by_cases g32 : x4 = (0 : Int32)
            ·
              rw [if_pos g32]
              have g32i : x4.toInt = 0 := q_eqI g32
              by_cases g33 : x5 < (0 : Int32)
              ·
                rw [if_pos g33]
                have g33i : x5.toInt < 0 := q_ltI g33
                unfold S_NH_figures_J79
                unfold S_NH_figures_J80
                have g34 : ¬ ((F_NH_need (0 : Int32)) = (0 : Int32)) := (by decide)
                rw [if_neg g34]
                exact trivial
              ·
                rw [if_neg g33]
                have g33i : 0 ≤ x5.toInt := q_nltI g33
                by_cases g35 : (1100 : Int32) < x5
                ·
                  rw [if_pos g35]
                  have g35i : 1100 < x5.toInt := q_ltI g35
                  unfold S_NH_figures_J79
                  unfold S_NH_figures_J80
                  have g36 : ¬ ((F_NH_need (0 : Int32)) = (0 : Int32)) := (by decide)
                  rw [if_neg g36]
                  exact trivial
                ·
                  rw [if_neg g35]
                  have g35i : x5.toInt ≤ 1100 := q_nltI g35
                  unfold S_NH_figures_J80
                  have g37 : ((F_NH_need (1 : Int32)) = (0 : Int32)) := (by decide)
                  rw [if_pos g37]
                  rw [if_neg g1]
                  rw [if_neg g1]
                  refine And.intro (by omega) ?_
                  refine And.intro (by omega) ?_
                  by_cases g38 : (F_NH_canHave ((F_Flo_isFinite (23 : Int32) (150 : Int32) (255 : Int32) (t7_0 x3.toNatClampNeg : Int64)) : Int32)) = (0 : Int32)
                  ·
                    rw [if_pos g38]
                    refine And.intro (by omega) ?_
                    refine And.intro (by omega) ?_
                    have h39 := T_exactText (A := (23 : Int32)) (B := (150 : Int32)) (C := (255 : Int32)) (x3 := (t7_0 x3.toNatClampNeg : Int64)) (x4 := x4) (x5 := x5) (x6 := x6) (t0_0 := t0_0) (t1_0 := t1_0) (t2_0 := t4_0) (t2_1 := t4_1) (t3_0 := t5_0) (t4_0 := t2_0) (t4_1 := t2_1) (t5_0 := t3_0) (t6_0 := t9_0) (t6_1 := t9_1) (t6_2 := t9_2) (by decide) (by decide) (by decide) ⟨by omega, by omega⟩
                    refine v_oweS h39 ?_
                    generalize F_Wri_exactText (23 : Int32) (150 : Int32) (255 : Int32) (t7_0 x3.toNatClampNeg : Int64) x4 x5 x6 t0_0 t1_0 t4_0 t4_1 t5_0 t2_0 t2_1 t3_0 t9_0 t9_1 t9_2 = p383
                    unfold S_NH_figures_c122_6
                    exact trivial
                  ·
                    rw [if_neg g38]
                    exact trivial
            ·
              rw [if_neg g32]
              have g32i : x4.toInt ≠ 0 := q_neI g32
              by_cases g40 : x5 < (1 : Int32)
              ·
                rw [if_pos g40]
                have g40i : x5.toInt < 1 := q_ltI g40
                unfold S_NH_figures_J58
                unfold S_NH_figures_J80
                have g41 : ¬ ((F_NH_need (0 : Int32)) = (0 : Int32)) := (by decide)
                rw [if_neg g41]
                exact trivial
              ·
                rw [if_neg g40]
                have g40i : 1 ≤ x5.toInt := q_nltI g40
                by_cases g42 : (800 : Int32) < x5
                ·
                  rw [if_pos g42]
                  have g42i : 800 < x5.toInt := q_ltI g42
                  unfold S_NH_figures_J58
                  unfold S_NH_figures_J80
                  have g43 : ¬ ((F_NH_need (0 : Int32)) = (0 : Int32)) := (by decide)
                  rw [if_neg g43]
                  exact trivial
                ·
                  rw [if_neg g42]
                  have g42i : x5.toInt ≤ 800 := q_nltI g42
                  unfold S_NH_figures_J80
                  have g44 : ((F_NH_need (1 : Int32)) = (0 : Int32)) := (by decide)
                  rw [if_pos g44]
                  rw [if_neg g1]
                  rw [if_neg g1]
                  refine And.intro (by omega) ?_
                  refine And.intro (by omega) ?_
                  by_cases g45 : (F_NH_canHave ((F_Flo_isFinite (23 : Int32) (150 : Int32) (255 : Int32) (t7_0 x3.toNatClampNeg : Int64)) : Int32)) = (0 : Int32)
                  ·
                    rw [if_pos g45]
                    refine And.intro (by omega) ?_
                    refine And.intro (by omega) ?_
                    have h46 := T_exactText (A := (23 : Int32)) (B := (150 : Int32)) (C := (255 : Int32)) (x3 := (t7_0 x3.toNatClampNeg : Int64)) (x4 := x4) (x5 := x5) (x6 := x6) (t0_0 := t0_0) (t1_0 := t1_0) (t2_0 := t4_0) (t2_1 := t4_1) (t3_0 := t5_0) (t4_0 := t2_0) (t4_1 := t2_1) (t5_0 := t3_0) (t6_0 := t9_0) (t6_1 := t9_1) (t6_2 := t9_2) (by decide) (by decide) (by decide) ⟨by omega, by omega⟩
                    refine v_oweS h46 ?_
                    generalize F_Wri_exactText (23 : Int32) (150 : Int32) (255 : Int32) (t7_0 x3.toNatClampNeg : Int64) x4 x5 x6 t0_0 t1_0 t4_0 t4_1 t5_0 t2_0 t2_1 t3_0 t9_0 t9_1 t9_2 = p383
                    unfold S_NH_figures_c122_6
                    exact trivial
                  ·
                    rw [if_neg g45]
                    exact trivial
    ·
      rw [if_neg g24]
      have g24i : x2.toInt ≠ 3 := q_neI g24
      unfold S_NH_figures_J32
      unfold S_NH_figures_J33
      have g47 : ¬ ((F_NH_need (0 : Int32)) = (0 : Int32)) := (by decide)
      rw [if_neg g47]
      exact trivial
theorem v_feL {x2 : Int32} {x3 : Int64} {t0_0 : Int32} {t1_0 : (Nat → Int64)} {lx6 : Int32} (ht : 0 ≤ t0_0.toInt) (ht2 : t0_0.toInt + x2.toInt ≤ 4100) (hx : x2.toInt ≤ 8) : ∀ (n : Nat) (lx32 : Int32) (lx33 : Int32) (lx34 : (Nat → Int64)), (0 ≤ lx32.toInt ∧ lx32.toInt ≤ x2.toInt) → (x2.toInt - lx32.toInt < (n : Int)) → (lx33.toInt = t0_0.toInt + lx32.toInt) → (S_NH_feed_L39 x2 x3 t0_0 t1_0 lx6 n lx32 lx33 lx34) := by
  intro n
  induction n with
  | zero => intro lx32 lx33 lx34 h0 hm hc; exact absurd (show False by omega) id
  | succ n ih =>
    intro lx32 lx33 lx34 h0 hm hc
    have e0 : (0 : Int32).toInt = 0 := rfl
    have e1 : (1 : Int32).toInt = 1 := rfl
    rw [S_NH_feed_L39.eq_2]
    by_cases g1 : x2 ≤ lx32
    ·
      rw [if_pos g1]
      have g1i : x2.toInt ≤ lx32.toInt := q_leI g1
      exact trivial
    ·
      rw [if_neg g1]
      have g1i : lx32.toInt < x2.toInt := q_nleI g1
      refine And.intro (by omega) ?_
      have h2 := v_addp1  (R := (4100 : Int32)) (N := (513 : Int32)) (K := (4100 : Int32)) (x := ((((x3.toUInt64 >>> ((8 * lx32 : Int32).toInt64.toUInt64 &&& Int64.toUInt64 63)).toInt64 : Int64).toInt32 : Int32) &&& 255 : Int32)) (t0 := lx33) (t1 := lx34) (by omega) (by omega)
      generalize F_She_add_p (4100 : Int32) (513 : Int32) (4100 : Int32) ((((x3.toUInt64 >>> ((8 * lx32 : Int32).toInt64.toUInt64 &&& Int64.toUInt64 63)).toInt64 : Int64).toInt32 : Int32) &&& 255 : Int32) lx33 lx34 = p74 at h2 ⊢
      unfold S_NH_feed_c61
      obtain ⟨a3, e4⟩ := q_nm (lx32 + 1 : Int32)
      rw [e4]
      have a3i : a3.toInt = lx32.toInt + 1 := by rw [← e4]; exact q_addI (x := lx32.toInt) (y := 1) rfl (by decide) (by omega) (by omega)
      exact ih _ _ _ (by first | assumption | omega | trivial | decide) (by first | assumption | omega | trivial | decide) (by first | assumption | omega | trivial | decide)
theorem T_feed {x2 : Int32} {x3 : Int64} {t0_0 : Int32} {t1_0 : (Nat → Int64)} (ht : 0 ≤ t0_0.toInt ∧ t0_0.toInt ≤ 4100) : (S_NH_feed x2 x3 t0_0 t1_0) := by
  have e0 : (0 : Int32).toInt = 0 := rfl
  have e1 : (1 : Int32).toInt = 1 := rfl
  unfold S_NH_feed
  by_cases g1 : x2 < (1 : Int32)
  ·
    rw [if_pos g1]
    have g1i : x2.toInt < 1 := q_ltI g1
    unfold S_NH_feed_J15
    unfold S_NH_feed_J16
    have g2 : ¬ ((F_NH_need (0 : Int32)) = (0 : Int32)) := (by decide)
    rw [if_neg g2]
    exact trivial
  ·
    rw [if_neg g1]
    have g1i : 1 ≤ x2.toInt := q_nltI g1
    by_cases g3 : (8 : Int32) < x2
    ·
      rw [if_pos g3]
      have g3i : 8 < x2.toInt := q_ltI g3
      unfold S_NH_feed_J15
      unfold S_NH_feed_J16
      have g4 : ¬ ((F_NH_need (0 : Int32)) = (0 : Int32)) := (by decide)
      rw [if_neg g4]
      exact trivial
    ·
      rw [if_neg g3]
      have g3i : x2.toInt ≤ 8 := q_nltI g3
      unfold S_NH_feed_J16
      have g5 : ((F_NH_need (1 : Int32)) = (0 : Int32)) := (by decide)
      rw [if_pos g5]
      by_cases g6 : (t0_0 + x2 : Int32) ≤ (4100 : Int32)
      ·
        rw [if_pos g6]
        have g6i : t0_0.toInt + x2.toInt ≤ 4100 := by have z := q_leI g6; rw [q_addI rfl rfl (by omega) (by omega)] at z; exact z
        exact v_feL (by omega) (by omega) (by omega) _ _ _ _ (by rw [e0]; omega) (by rw [e0]; omega) (by rw [e0]; omega)
      ·
        rw [if_neg g6]
        exact trivial

