/-! what the calls keep: shape, convert -/
theorem v_needP {x : Int32} (h : F_NH_need x = 0) : ¬ x = 0 := fun e => by rw [e] at h; exact absurd h (by decide)
theorem v_digs {R s n sc fc : Int32} {f : Nat → Int32} {v : Int} (h : dO R s n f sc fc v) : v.natAbs < 10 ^ 1001 := by
  obtain ⟨c, _, hc, hc2⟩ := h.2.1
  exact Nat.lt_of_lt_of_le hc.2.1 (Nat.pow_le_pow_right (by decide) (by omega))
def Q_shape (sc fc : Int32) (p : Int32 × Int64 × Int32 × Int32 × Int32 × (Nat → Int32) × Int32 × Int32 × (Nat → Int32) × Int32 × Int32 × (Nat → Int32) × Int32 × Int32 × (Nat → Int32) × Int32 × Int32 × (Nat → Int32) × Int32 × Int32 × (Nat → Int32) × Int32 × Int32 × (Nat → Int32) × Int32 × Int32 × (Nat → Int32) × Int32 × Int32 × (Nat → Int32) × Int32 × Int32 × Int32 × Int32 × (Nat → Int32)) : Prop := rD p.2.2.2.2.2.2.2.2.2.2.2.2.2.2.2.2.2.2.2.2.2.2.2.2.2.2.2.2.2.2.2.2.1 p.2.2.2.2.2.2.2.2.2.2.2.2.2.2.2.2.2.2.2.2.2.2.2.2.2.2.2.2.2.2.2.2.2.1 p.2.2.2.2.2.2.2.2.2.2.2.2.2.2.2.2.2.2.2.2.2.2.2.2.2.2.2.2.2.2.2.2.2.2 p.2.2.2.2.2.2.2.2.2.2.2.2.2.2.2.2.2.2.2.2.2.2.2.2.2.2.2.2.2.2.1 p.2.2.2.2.2.2.2.2.2.2.2.2.2.2.2.2.2.2.2.2.2.2.2.2.2.2.2.2.2.2.2.1 ∧ dO 3 p.2.2.2.1 p.2.2.2.2.1 p.2.2.2.2.2.1 sc fc 1
theorem T_shape {x2 : Int32} {x3 : Int32} {x4 : Int32} {x5 : Int32} {x6 : Int32} {t0_0 : Int64} {t0_1 : Int32} {t1_0 : Int32} {t1_1 : Int32} {t2_0 : Int32} {t2_1 : Int32} {t3_0 : (Nat → Int32)} {t4_0 : Int32} {t4_1 : Int32} {t5_0 : (Nat → Int32)} {t6_0 : Int32} {t6_1 : Int32} {t7_0 : (Nat → Int32)} {t8_0 : Int32} {t8_1 : Int32} {t9_0 : (Nat → Int32)} {t10_0 : Int32} {t10_1 : Int32} {t11_0 : (Nat → Int32)} {t12_0 : Int32} {t12_1 : Int32} {t13_0 : (Nat → Int32)} {t14_0 : Int32} {t14_1 : Int32} {t15_0 : (Nat → Int32)} {t16_0 : Int32} {t16_1 : Int32} {t17_0 : (Nat → Int32)} {t18_0 : Int32} {t18_1 : Int32} {t19_0 : (Nat → Int32)} {t20_0 : Int32} {t20_1 : Int32} {t21_0 : Int32} {t21_1 : Int32} {t22_0 : (Nat → Int32)} {t23_0 : Int32} {t23_1 : Int32} {t24_0 : Int32} {t24_1 : Int32} {t25_0 : (Nat → Int32)} {va : Int} (ha : dO 108 t21_0 t21_1 t22_0 t20_0 t20_1 va) (h1 : dO 3 t2_0 t2_1 t3_0 t1_0 t1_1 1) (hd : rD t24_0 t24_1 t25_0 t23_0 t23_1) : (S_NH_shape x2 x3 x4 x5 x6 t0_0 t0_1 t1_0 t1_1 t2_0 t2_1 t3_0 t4_0 t4_1 t5_0 t6_0 t6_1 t7_0 t8_0 t8_1 t9_0 t10_0 t10_1 t11_0 t12_0 t12_1 t13_0 t14_0 t14_1 t15_0 t16_0 t16_1 t17_0 t18_0 t18_1 t19_0 t20_0 t20_1 t21_0 t21_1 t22_0 t23_0 t23_1 t24_0 t24_1 t25_0) ∧ Q_shape t1_0 t1_1 (F_NH_shape x2 x3 x4 x5 x6 t0_0 t0_1 t1_0 t1_1 t2_0 t2_1 t3_0 t4_0 t4_1 t5_0 t6_0 t6_1 t7_0 t8_0 t8_1 t9_0 t10_0 t10_1 t11_0 t12_0 t12_1 t13_0 t14_0 t14_1 t15_0 t16_0 t16_1 t17_0 t18_0 t18_1 t19_0 t20_0 t20_1 t21_0 t21_1 t22_0 t23_0 t23_1 t24_0 t24_1 t25_0) := by
  have e0 : (0 : Int32).toInt = 0 := rfl
  unfold S_NH_shape F_NH_shape
  by_cases g1 : x2 < (0 : Int32)
  ·
    rw [if_pos g1, if_pos g1]
    have g1i : x2.toInt < 0 := q_ltI g1
    unfold S_NH_shape_J35 F_NH_shape_J35
    unfold S_NH_shape_J36 F_NH_shape_J36
    have g2 : ¬ ((F_NH_need (0 : Int32)) = (0 : Int32)) := (by decide)
    rw [if_neg g2, if_neg g2]
    refine ⟨trivial, ?_⟩
    first | exact ⟨hd, h1⟩ | exact ⟨hd, h12⟩ | exact ⟨hkd, h1⟩ | exact ⟨hkd, h12⟩
  ·
    rw [if_neg g1, if_neg g1]
    have g1i : 0 ≤ x2.toInt := q_nltI g1
    by_cases g3 : (2 : Int32) < x2
    ·
      rw [if_pos g3, if_pos g3]
      have g3i : 2 < x2.toInt := q_ltI g3
      unfold S_NH_shape_J35 F_NH_shape_J35
      unfold S_NH_shape_J36 F_NH_shape_J36
      have g4 : ¬ ((F_NH_need (0 : Int32)) = (0 : Int32)) := (by decide)
      rw [if_neg g4, if_neg g4]
      refine ⟨trivial, ?_⟩
      first | exact ⟨hd, h1⟩ | exact ⟨hd, h12⟩ | exact ⟨hkd, h1⟩ | exact ⟨hkd, h12⟩
    ·
      rw [if_neg g3, if_neg g3]
      have g3i : x2.toInt ≤ 2 := q_nltI g3
      by_cases g5 : ((F_NH_isRegister x3) : Int32) = (0 : Int32)
      ·
        rw [if_pos g5, if_pos g5]
        unfold S_NH_shape_J35 F_NH_shape_J35
        unfold S_NH_shape_J36 F_NH_shape_J36
        have g6 : ¬ ((F_NH_need (0 : Int32)) = (0 : Int32)) := (by decide)
        rw [if_neg g6, if_neg g6]
        refine ⟨trivial, ?_⟩
        first | exact ⟨hd, h1⟩ | exact ⟨hd, h12⟩ | exact ⟨hkd, h1⟩ | exact ⟨hkd, h12⟩
      ·
        rw [if_neg g5, if_neg g5]
        have g5r := v_isReg g5
        by_cases g7 : ((F_NH_isRegister x4) : Int32) = (0 : Int32)
        ·
          rw [if_pos g7, if_pos g7]
          unfold S_NH_shape_J35 F_NH_shape_J35
          unfold S_NH_shape_J36 F_NH_shape_J36
          have g8 : ¬ ((F_NH_need (0 : Int32)) = (0 : Int32)) := (by decide)
          rw [if_neg g8, if_neg g8]
          refine ⟨trivial, ?_⟩
          first | exact ⟨hd, h1⟩ | exact ⟨hd, h12⟩ | exact ⟨hkd, h1⟩ | exact ⟨hkd, h12⟩
        ·
          rw [if_neg g7, if_neg g7]
          have g7r := v_isReg g7
          by_cases g9 : ((F_NH_isMode x6) : Int32) = (0 : Int32)
          ·
            rw [if_pos g9, if_pos g9]
            unfold S_NH_shape_J35 F_NH_shape_J35
            unfold S_NH_shape_J36 F_NH_shape_J36
            have g10 : ¬ ((F_NH_need (0 : Int32)) = (0 : Int32)) := (by decide)
            rw [if_neg g10, if_neg g10]
            refine ⟨trivial, ?_⟩
            first | exact ⟨hd, h1⟩ | exact ⟨hd, h12⟩ | exact ⟨hkd, h1⟩ | exact ⟨hkd, h12⟩
          ·
            rw [if_neg g9, if_neg g9]
            unfold S_NH_shape_J36 F_NH_shape_J36
            have g11 : ((F_NH_need (1 : Int32)) = (0 : Int32)) := (by decide)
            rw [if_pos g11, if_pos g11]
            by_cases g12 : x2 = (0 : Int32)
            ·
              rw [if_pos g12, if_pos g12]
              have g12i : x2.toInt = 0 := q_eqI g12
              unfold S_NH_shape_J70 F_NH_shape_J70
              by_cases g13 : (F_NH_need ((F_NH_isScale x5) : Int32)) = (0 : Int32)
              ·
                rw [if_pos g13, if_pos g13]
                have g13r := v_isScale (v_needP g13)
                refine v_cons (by omega) ?_
                refine v_cons (by omega) ?_
                rw [if_pos g12, if_pos g12]
                have h14 := T_divideToScale_o (R := (108 : Int32)) (R2 := (3 : Int32)) (x4 := x5) (x5 := x6) (t0_0 := t0_0) (t0_1 := t0_1) (t1_0 := t4_0) (t1_1 := t4_1) (t2_0 := t5_0) (t3_0 := t6_0) (t3_1 := t6_1) (t4_0 := t7_0) (t5_0 := t14_0) (t5_1 := t14_1) (t6_0 := t15_0) (t7_0 := t20_0) (t7_1 := t20_1) (t8_0 := t21_0) (t8_1 := t21_1) (t9_0 := t22_0) (t10_0 := t1_0) (t10_1 := t1_1) (t11_0 := t2_0) (t11_1 := t2_1) (t12_0 := t3_0) ha h1 (by decide) (by omega) (by omega) trivial trivial trivial
                refine v_owe h14.1 ?_
                replace h14 := h14.2
                generalize F_DW_divideToScale_o (108 : Int32) (3 : Int32) x5 x6 t0_0 t0_1 t4_0 t4_1 t5_0 t6_0 t6_1 t7_0 t14_0 t14_1 t15_0 t20_0 t20_1 t21_0 t21_1 t22_0 t1_0 t1_1 t2_0 t2_1 t3_0 = p912 at h14 ⊢
                unfold S_NH_shape_c102 F_NH_shape_c102
                rcases h14 with ⟨h140 | ⟨h141, hk⟩, h14g⟩
                ·
                  have h12 : dO 3 p912.2.2.2.2.2.2.2.2.2.2.2.2.1 p912.2.2.2.2.2.2.2.2.2.2.2.2.2.1 p912.2.2.2.2.2.2.2.2.2.2.2.2.2.2 t1_0 t1_1 1 := ⟨h14g.2.2.2, h1.2⟩
                  have g15 : ¬ ((F_NH_canHave (p912.1 : Int32)) = (0 : Int32)) := (by rw [h140]; decide)
                  rw [if_neg g15, if_neg g15]
                  refine ⟨trivial, ?_⟩
                  first | exact ⟨hd, h1⟩ | exact ⟨hd, h12⟩ | exact ⟨hkd, h1⟩ | exact ⟨hkd, h12⟩
                ·
                  have h12 : dO 3 p912.2.2.2.2.2.2.2.2.2.2.2.2.1 p912.2.2.2.2.2.2.2.2.2.2.2.2.2.1 p912.2.2.2.2.2.2.2.2.2.2.2.2.2.2 t1_0 t1_1 1 := ⟨h14g.2.2.2, h1.2⟩
                  have g16 : ((F_NH_canHave (p912.1 : Int32)) = (0 : Int32)) := (by rw [h141]; decide)
                  rw [if_pos g16, if_pos g16]
                  have h17 := T_keepDecimal (x2 := x4) (t0_0 := (p912.2.1 : Int64)) (t0_1 := (p912.2.2.1 : Int32)) (t1_0 := (p912.2.2.2.1 : Int32)) (t1_1 := (p912.2.2.2.2.1 : Int32)) (t2_0 := (p912.2.2.2.2.2.1 : (Nat → Int32))) (t3_0 := t18_0) (t3_1 := t18_1) (t4_0 := t19_0) (t5_0 := t23_0) (t5_1 := t23_1) (t6_0 := t24_0) (t6_1 := t24_1) (t7_0 := t25_0) hk hd (by first | assumption | omega | trivial | decide) (by first | assumption | omega | trivial | decide)
                  refine v_owe h17.1 ?_
                  replace h17 := h17.2
                  generalize F_NH_keepDecimal x4 (p912.2.1 : Int64) (p912.2.2.1 : Int32) (p912.2.2.2.1 : Int32) (p912.2.2.2.2.1 : Int32) (p912.2.2.2.2.2.1 : (Nat → Int32)) t18_0 t18_1 t19_0 t23_0 t23_1 t24_0 t24_1 t25_0 = p964 at h17 ⊢
                  have hkd := h17
                  unfold S_NH_shape_c179_10 F_NH_shape_c179_10
                  by_cases g18 : p964.1 = (0 : Int32)
                  ·
                    rw [if_pos g18, if_pos g18]
                    have g18i : p964.1.toInt = 0 := q_eqI g18
                    refine ⟨trivial, ?_⟩
                    first | exact ⟨hd, h1⟩ | exact ⟨hd, h12⟩ | exact ⟨hkd, h1⟩ | exact ⟨hkd, h12⟩
                  ·
                    rw [if_neg g18, if_neg g18]
                    have g18i : p964.1.toInt ≠ 0 := q_neI g18
                    refine ⟨trivial, ?_⟩
                    first | exact ⟨hd, h1⟩ | exact ⟨hd, h12⟩ | exact ⟨hkd, h1⟩ | exact ⟨hkd, h12⟩
              ·
                rw [if_neg g13, if_neg g13]
                refine ⟨trivial, ?_⟩
                first | exact ⟨hd, h1⟩ | exact ⟨hd, h12⟩ | exact ⟨hkd, h1⟩ | exact ⟨hkd, h12⟩
            ·
              rw [if_neg g12, if_neg g12]
              have g12i : x2.toInt ≠ 0 := q_neI g12
              by_cases g19 : x5 < (1 : Int32)
              ·
                rw [if_pos g19, if_pos g19]
                have g19i : x5.toInt < 1 := q_ltI g19
                unfold S_NH_shape_J69 F_NH_shape_J69
                unfold S_NH_shape_J70 F_NH_shape_J70
                have g20 : ¬ ((F_NH_need (0 : Int32)) = (0 : Int32)) := (by decide)
                rw [if_neg g20, if_neg g20]
                refine ⟨trivial, ?_⟩
                first | exact ⟨hd, h1⟩ | exact ⟨hd, h12⟩ | exact ⟨hkd, h1⟩ | exact ⟨hkd, h12⟩
              ·
                rw [if_neg g19, if_neg g19]
                have g19i : 1 ≤ x5.toInt := q_nltI g19
                by_cases g21 : (1000 : Int32) < x5
                ·
                  rw [if_pos g21, if_pos g21]
                  have g21i : 1000 < x5.toInt := q_ltI g21
                  unfold S_NH_shape_J69 F_NH_shape_J69
                  unfold S_NH_shape_J70 F_NH_shape_J70
                  have g22 : ¬ ((F_NH_need (0 : Int32)) = (0 : Int32)) := (by decide)
                  rw [if_neg g22, if_neg g22]
                  refine ⟨trivial, ?_⟩
                  first | exact ⟨hd, h1⟩ | exact ⟨hd, h12⟩ | exact ⟨hkd, h1⟩ | exact ⟨hkd, h12⟩
                ·
                  rw [if_neg g21, if_neg g21]
                  have g21i : x5.toInt ≤ 1000 := q_nltI g21
                  unfold S_NH_shape_J70 F_NH_shape_J70
                  have g23 : ((F_NH_need (1 : Int32)) = (0 : Int32)) := (by decide)
                  rw [if_pos g23, if_pos g23]
                  refine v_cons (by omega) ?_
                  refine v_cons (by omega) ?_
                  rw [if_neg g12, if_neg g12]
                  by_cases g24 : x2 = (1 : Int32)
                  ·
                    rw [if_pos g24, if_pos g24]
                    have g24i : x2.toInt = 1 := q_eqI g24
                    have h25 := T_divideToPrecision_o (R := (108 : Int32)) (R2 := (3 : Int32)) (x4 := x5) (x5 := x6) (t0_0 := t0_0) (t0_1 := t0_1) (t1_0 := t4_0) (t1_1 := t4_1) (t2_0 := t5_0) (t3_0 := t6_0) (t3_1 := t6_1) (t4_0 := t7_0) (t5_0 := t14_0) (t5_1 := t14_1) (t6_0 := t15_0) (t7_0 := t18_0) (t7_1 := t18_1) (t8_0 := t19_0) (t9_0 := t20_0) (t9_1 := t20_1) (t10_0 := t21_0) (t10_1 := t21_1) (t11_0 := t22_0) (t12_0 := t1_0) (t12_1 := t1_1) (t13_0 := t2_0) (t13_1 := t2_1) (t14_0 := t3_0) ha h1 (by decide) (by omega) (by omega) trivial trivial trivial
                    refine v_owe h25.1 ?_
                    replace h25 := h25.2
                    generalize F_DW_divideToPrecision_o (108 : Int32) (3 : Int32) x5 x6 t0_0 t0_1 t4_0 t4_1 t5_0 t6_0 t6_1 t7_0 t14_0 t14_1 t15_0 t18_0 t18_1 t19_0 t20_0 t20_1 t21_0 t21_1 t22_0 t1_0 t1_1 t2_0 t2_1 t3_0 = p735 at h25 ⊢
                    unfold S_NH_shape_c133 F_NH_shape_c133
                    rcases h25 with ⟨h250 | ⟨h251, hk⟩, h25g⟩
                    ·
                      have h12 : dO 3 p735.2.2.2.2.2.2.2.2.2.2.2.2.2.2.2.1 p735.2.2.2.2.2.2.2.2.2.2.2.2.2.2.2.2.1 p735.2.2.2.2.2.2.2.2.2.2.2.2.2.2.2.2.2 t1_0 t1_1 1 := ⟨h25g.2.2.2.2, h1.2⟩
                      have g26 : ¬ ((F_NH_canHave (p735.1 : Int32)) = (0 : Int32)) := (by rw [h250]; decide)
                      rw [if_neg g26, if_neg g26]
                      refine ⟨trivial, ?_⟩
                      first | exact ⟨hd, h1⟩ | exact ⟨hd, h12⟩ | exact ⟨hkd, h1⟩ | exact ⟨hkd, h12⟩
                    ·
                      have h12 : dO 3 p735.2.2.2.2.2.2.2.2.2.2.2.2.2.2.2.1 p735.2.2.2.2.2.2.2.2.2.2.2.2.2.2.2.2.1 p735.2.2.2.2.2.2.2.2.2.2.2.2.2.2.2.2.2 t1_0 t1_1 1 := ⟨h25g.2.2.2.2, h1.2⟩
                      have g27 : ((F_NH_canHave (p735.1 : Int32)) = (0 : Int32)) := (by rw [h251]; decide)
                      rw [if_pos g27, if_pos g27]
                      have h28 := T_keepDecimal (x2 := x4) (t0_0 := (p735.2.1 : Int64)) (t0_1 := (p735.2.2.1 : Int32)) (t1_0 := (p735.2.2.2.1 : Int32)) (t1_1 := (p735.2.2.2.2.1 : Int32)) (t2_0 := (p735.2.2.2.2.2.1 : (Nat → Int32))) (t3_0 := (p735.2.2.2.2.2.2.2.2.2.2.2.2.1 : Int32)) (t3_1 := (p735.2.2.2.2.2.2.2.2.2.2.2.2.2.1 : Int32)) (t4_0 := (p735.2.2.2.2.2.2.2.2.2.2.2.2.2.2.1 : (Nat → Int32))) (t5_0 := t23_0) (t5_1 := t23_1) (t6_0 := t24_0) (t6_1 := t24_1) (t7_0 := t25_0) hk hd (by first | assumption | omega | trivial | decide) (by first | assumption | omega | trivial | decide)
                      refine v_owe h28.1 ?_
                      replace h28 := h28.2
                      generalize F_NH_keepDecimal x4 (p735.2.1 : Int64) (p735.2.2.1 : Int32) (p735.2.2.2.1 : Int32) (p735.2.2.2.2.1 : Int32) (p735.2.2.2.2.2.1 : (Nat → Int32)) (p735.2.2.2.2.2.2.2.2.2.2.2.2.1 : Int32) (p735.2.2.2.2.2.2.2.2.2.2.2.2.2.1 : Int32) (p735.2.2.2.2.2.2.2.2.2.2.2.2.2.2.1 : (Nat → Int32)) t23_0 t23_1 t24_0 t24_1 t25_0 = p790 at h28 ⊢
                      have hkd := h28
                      unfold S_NH_shape_c179_8 F_NH_shape_c179_8
                      by_cases g29 : p790.1 = (0 : Int32)
                      ·
                        rw [if_pos g29, if_pos g29]
                        have g29i : p790.1.toInt = 0 := q_eqI g29
                        refine ⟨trivial, ?_⟩
                        first | exact ⟨hd, h1⟩ | exact ⟨hd, h12⟩ | exact ⟨hkd, h1⟩ | exact ⟨hkd, h12⟩
                      ·
                        rw [if_neg g29, if_neg g29]
                        have g29i : p790.1.toInt ≠ 0 := q_neI g29
                        refine ⟨trivial, ?_⟩
                        first | exact ⟨hd, h1⟩ | exact ⟨hd, h12⟩ | exact ⟨hkd, h1⟩ | exact ⟨hkd, h12⟩
                  ·
                    rw [if_neg g24, if_neg g24]
                    have g24i : x2.toInt ≠ 1 := q_neI g24
                    by_cases g30 : ((F_Big_sign (108 : Int32) t21_0 t21_1) : Int32) < (0 : Int32)
                    ·
                      rw [if_pos g30, if_pos g30]
                      have g31 : ¬ ((F_NH_canHave (0 : Int32)) = (0 : Int32)) := (by decide)
                      rw [if_neg g31, if_neg g31]
                      refine ⟨trivial, ?_⟩
                      first | exact ⟨hd, h1⟩ | exact ⟨hd, h12⟩ | exact ⟨hkd, h1⟩ | exact ⟨hkd, h12⟩
                    ·
                      rw [if_neg g30, if_neg g30]
                      have hvs := v_sgnN ha.1 g30
                      have g32 : ((F_NH_canHave (1 : Int32)) = (0 : Int32)) := (by decide)
                      rw [if_pos g32, if_pos g32]
                      have h33 := T_squareRoot (R := (108 : Int32)) (x3 := x5) (x4 := x6) (t0_0 := t0_0) (t0_1 := t0_1) (t1_0 := t4_0) (t1_1 := t4_1) (t2_0 := t5_0) (t3_0 := t6_0) (t3_1 := t6_1) (t4_0 := t7_0) (t5_0 := t8_0) (t5_1 := t8_1) (t6_0 := t9_0) (t7_0 := t10_0) (t7_1 := t10_1) (t8_0 := t11_0) (t9_0 := t12_0) (t9_1 := t12_1) (t10_0 := t13_0) (t11_0 := t14_0) (t11_1 := t14_1) (t12_0 := t15_0) (t13_0 := t16_0) (t13_1 := t16_1) (t14_0 := t17_0) (t15_0 := t18_0) (t15_1 := t18_1) (t16_0 := t19_0) (t17_0 := t20_0) (t17_1 := t20_1) (t18_0 := t21_0) (t18_1 := t21_1) (t19_0 := t22_0) ha hvs (by omega) (by omega) trivial trivial trivial trivial trivial trivial trivial
                      refine v_owe h33.1 ?_
                      replace h33 := h33.2
                      generalize F_DW_squareRoot (108 : Int32) x5 x6 t0_0 t0_1 t4_0 t4_1 t5_0 t6_0 t6_1 t7_0 t8_0 t8_1 t9_0 t10_0 t10_1 t11_0 t12_0 t12_1 t13_0 t14_0 t14_1 t15_0 t16_0 t16_1 t17_0 t18_0 t18_1 t19_0 t20_0 t20_1 t21_0 t21_1 t22_0 = p541 at h33 ⊢
                      unfold S_NH_shape_c171_5 F_NH_shape_c171_5
                      rcases h33 with ⟨h330 | ⟨h331, hk⟩, _⟩
                      ·
                        have g34 : ¬ ((F_NH_canHave (p541.1 : Int32)) = (0 : Int32)) := (by rw [h330]; decide)
                        rw [if_neg g34, if_neg g34]
                        refine ⟨trivial, ?_⟩
                        first | exact ⟨hd, h1⟩ | exact ⟨hd, h12⟩ | exact ⟨hkd, h1⟩ | exact ⟨hkd, h12⟩
                      ·
                        have g35 : ((F_NH_canHave (p541.1 : Int32)) = (0 : Int32)) := (by rw [h331]; decide)
                        rw [if_pos g35, if_pos g35]
                        have h36 := T_keepDecimal (x2 := x4) (t0_0 := (p541.2.1 : Int64)) (t0_1 := (p541.2.2.1 : Int32)) (t1_0 := (p541.2.2.2.1 : Int32)) (t1_1 := (p541.2.2.2.2.1 : Int32)) (t2_0 := (p541.2.2.2.2.2.1 : (Nat → Int32))) (t3_0 := (p541.2.2.2.2.2.2.2.2.2.2.2.2.2.2.2.2.2.2.2.2.2.2.2.2.1 : Int32)) (t3_1 := (p541.2.2.2.2.2.2.2.2.2.2.2.2.2.2.2.2.2.2.2.2.2.2.2.2.2.1 : Int32)) (t4_0 := (p541.2.2.2.2.2.2.2.2.2.2.2.2.2.2.2.2.2.2.2.2.2.2.2.2.2.2 : (Nat → Int32))) (t5_0 := t23_0) (t5_1 := t23_1) (t6_0 := t24_0) (t6_1 := t24_1) (t7_0 := t25_0) hk hd (by first | assumption | omega | trivial | decide) (by first | assumption | omega | trivial | decide)
                        refine v_owe h36.1 ?_
                        replace h36 := h36.2
                        generalize F_NH_keepDecimal x4 (p541.2.1 : Int64) (p541.2.2.1 : Int32) (p541.2.2.2.1 : Int32) (p541.2.2.2.2.1 : Int32) (p541.2.2.2.2.2.1 : (Nat → Int32)) (p541.2.2.2.2.2.2.2.2.2.2.2.2.2.2.2.2.2.2.2.2.2.2.2.2.1 : Int32) (p541.2.2.2.2.2.2.2.2.2.2.2.2.2.2.2.2.2.2.2.2.2.2.2.2.2.1 : Int32) (p541.2.2.2.2.2.2.2.2.2.2.2.2.2.2.2.2.2.2.2.2.2.2.2.2.2.2 : (Nat → Int32)) t23_0 t23_1 t24_0 t24_1 t25_0 = p605 at h36 ⊢
                        have hkd := h36
                        unfold S_NH_shape_c179_6 F_NH_shape_c179_6
                        by_cases g37 : p605.1 = (0 : Int32)
                        ·
                          rw [if_pos g37, if_pos g37]
                          have g37i : p605.1.toInt = 0 := q_eqI g37
                          refine ⟨trivial, ?_⟩
                          first | exact ⟨hd, h1⟩ | exact ⟨hd, h12⟩ | exact ⟨hkd, h1⟩ | exact ⟨hkd, h12⟩
                        ·
                          rw [if_neg g37, if_neg g37]
                          have g37i : p605.1.toInt ≠ 0 := q_neI g37
                          refine ⟨trivial, ?_⟩
                          first | exact ⟨hd, h1⟩ | exact ⟨hd, h12⟩ | exact ⟨hkd, h1⟩ | exact ⟨hkd, h12⟩
def Q_makeWhole (p : Int32 × Int32 × Int32 × (Nat → Int32)) : Prop := ¬ p.1 = 0 ∨ (p.1 = 0 ∧ ∃ v : Int, bO 220 p.2.1 p.2.2.1 p.2.2.2 v)
theorem T_makeWhole {x2 : Int32} {x3 : Int32} {t0_0 : Int64} {t0_1 : Int32} {t1_0 : Int32} {t1_1 : Int32} {t2_0 : (Nat → Int32)} {t3_0 : (Nat → Int64)} {t4_0 : (Nat → Int64)} {t5_0 : Int32} {t5_1 : Int32} {t6_0 : (Nat → Int32)} {t7_0 : Int32} {t7_1 : Int32} {t8_0 : Int32} {t8_1 : Int32} {t9_0 : (Nat → Int32)} {vw vd : Int} (hw : bO 68 t5_0 t5_1 t6_0 vw) (hW : bB 67 vw) (hd : dO 108 t8_0 t8_1 t9_0 t7_0 t7_1 vd) (r0 : 0 ≤ x3.toInt) (r9 : x3.toInt ≤ 9) : (S_NH_makeWhole x2 x3 t0_0 t0_1 t1_0 t1_1 t2_0 t3_0 t4_0 t5_0 t5_1 t6_0 t7_0 t7_1 t8_0 t8_1 t9_0) ∧ Q_makeWhole (F_NH_makeWhole x2 x3 t0_0 t0_1 t1_0 t1_1 t2_0 t3_0 t4_0 t5_0 t5_1 t6_0 t7_0 t7_1 t8_0 t8_1 t9_0) := by
  have e0 : (0 : Int32).toInt = 0 := rfl
  have e220 : (220 : Int32).toInt = 220 := rfl
  have e68 : (68 : Int32).toInt = 68 := rfl
  unfold S_NH_makeWhole F_NH_makeWhole
  by_cases g1 : x2 = (0 : Int32)
  ·
    rw [if_pos g1, if_pos g1]
    have g1i : x2.toInt = 0 := q_eqI g1
    refine v_cons (by omega) ?_
    refine v_cons (by omega) ?_
    have h2 := W_copy  (R := (220 : Int32)) (s := t1_0) (neg := t1_1) (f := t2_0) hw (by have z := hw.2.2.2.1; omega) (by decide)
    generalize F_Big_copy (220 : Int32) (68 : Int32) t1_0 t1_1 t2_0 t5_0 t5_1 t6_0 = p325 at h2 ⊢
    have hn := h2
    unfold S_NH_makeWhole_c17 F_NH_makeWhole_c17
    refine ⟨trivial, ?_⟩
    first | exact Or.inr ⟨rfl, _, hn⟩ | exact Or.inl (by assumption)
  ·
    rw [if_neg g1, if_neg g1]
    have g1i : x2.toInt ≠ 0 := q_neI g1
    by_cases g3 : x2 = (1 : Int32)
    ·
      rw [if_pos g3, if_pos g3]
      have g3i : x2.toInt = 1 := q_eqI g3
      refine v_cons (by omega) ?_
      refine v_cons (by omega) ?_
      have h4 := T_towardsZero (R := (108 : Int32)) (t0_0 := t0_0) (t0_1 := t0_1) (t1_0 := t1_0) (t1_1 := t1_1) (t2_0 := t2_0) (t3_0 := t7_0) (t3_1 := t7_1) (t4_0 := t8_0) (t4_1 := t8_1) (t5_0 := t9_0) hd
      generalize F_DW_towardsZero (108 : Int32) t0_0 t0_1 t1_0 t1_1 t2_0 t7_0 t7_1 t8_0 t8_1 t9_0 = p283 at h4 ⊢
      obtain ⟨_, hn, _⟩ := h4.2
      unfold S_NH_makeWhole_c38 F_NH_makeWhole_c38
      by_cases g5 : (F_NH_canHave (p283.1 : Int32)) = (0 : Int32)
      ·
        rw [if_pos g5, if_pos g5]
        refine ⟨trivial, ?_⟩
        first | exact Or.inr ⟨rfl, _, hn⟩ | exact Or.inl (by assumption)
      ·
        rw [if_neg g5, if_neg g5]
        refine ⟨trivial, ?_⟩
        first | exact Or.inr ⟨rfl, _, hn⟩ | exact Or.inl (by assumption)
    ·
      rw [if_neg g3, if_neg g3]
      have g3i : x2.toInt ≠ 1 := q_neI g3
      by_cases g6 : x2 = (2 : Int32)
      ·
        rw [if_pos g6, if_pos g6]
        have g6i : x2.toInt = 2 := q_eqI g6
        rw [if_pos g6, if_pos g6]
        refine v_cons (by omega) ?_
        refine v_cons (by omega) ?_
        by_cases g7 : (F_NH_canHave ((F_Flo_isFinite (52 : Int32) (1075 : Int32) (2047 : Int32) (t3_0 x3.toNatClampNeg : Int64)) : Int32)) = (0 : Int32)
        ·
          rw [if_pos g7, if_pos g7]
          have h8 := T_towards (A := (52 : Int32)) (B := (1075 : Int32)) (C := (2047 : Int32)) (x2 := (t3_0 x3.toNatClampNeg : Int64)) (t0_0 := t1_0) (t0_1 := t1_1) (t1_0 := t2_0) (by decide) (by decide) (by decide)
          generalize F_Flo_towardsZero (52 : Int32) (1075 : Int32) (2047 : Int32) (t3_0 x3.toNatClampNeg : Int64) t1_0 t1_1 t2_0 = p94 at h8 ⊢
          obtain ⟨_, hn, _⟩ := h8
          unfold S_NH_makeWhole_c74 F_NH_makeWhole_c74
          refine ⟨trivial, ?_⟩
          first | exact Or.inr ⟨rfl, _, hn⟩ | exact Or.inl (by assumption)
        ·
          rw [if_neg g7, if_neg g7]
          refine ⟨trivial, ?_⟩
          first | exact Or.inr ⟨rfl, _, hn⟩ | exact Or.inl (by assumption)
      ·
        rw [if_neg g6, if_neg g6]
        have g6i : x2.toInt ≠ 2 := q_neI g6
        rw [if_neg g6, if_neg g6]
        refine v_cons (by omega) ?_
        refine v_cons (by omega) ?_
        by_cases g9 : (F_NH_canHave ((F_Flo_isFinite (23 : Int32) (150 : Int32) (255 : Int32) (t4_0 x3.toNatClampNeg : Int64)) : Int32)) = (0 : Int32)
        ·
          rw [if_pos g9, if_pos g9]
          have h10 := T_towards (A := (23 : Int32)) (B := (150 : Int32)) (C := (255 : Int32)) (x2 := (t4_0 x3.toNatClampNeg : Int64)) (t0_0 := t1_0) (t0_1 := t1_1) (t1_0 := t2_0) (by decide) (by decide) (by decide)
          generalize F_Flo_towardsZero (23 : Int32) (150 : Int32) (255 : Int32) (t4_0 x3.toNatClampNeg : Int64) t1_0 t1_1 t2_0 = p248 at h10 ⊢
          obtain ⟨_, hn, _⟩ := h10
          unfold S_NH_makeWhole_c74_4 F_NH_makeWhole_c74_4
          refine ⟨trivial, ?_⟩
          first | exact Or.inr ⟨rfl, _, hn⟩ | exact Or.inl (by assumption)
        ·
          rw [if_neg g9, if_neg g9]
          refine ⟨trivial, ?_⟩
          first | exact Or.inr ⟨rfl, _, hn⟩ | exact Or.inl (by assumption)
def Q_makeDecimal (p : Int32 × Int64 × Int32 × Int32 × Int32 × (Nat → Int32)) : Prop := ¬ p.1 = 0 ∨ (p.1 = 0 ∧ bK p.2.2.2.1 p.2.2.2.2.1 p.2.2.2.2.2)
theorem T_makeDecimal {x2 : Int32} {x3 : Int32} {t0_0 : Int64} {t0_1 : Int32} {t1_0 : Int32} {t1_1 : Int32} {t2_0 : (Nat → Int32)} {t3_0 : (Nat → Int64)} {t4_0 : (Nat → Int64)} {t5_0 : Int32} {t5_1 : Int32} {t6_0 : (Nat → Int32)} {t7_0 : Int32} {t7_1 : Int32} {t8_0 : Int32} {t8_1 : Int32} {t9_0 : (Nat → Int32)} {vw vd : Int} (hw : bO 68 t5_0 t5_1 t6_0 vw) (hW : bB 67 vw) (hd : dO 108 t8_0 t8_1 t9_0 t7_0 t7_1 vd) (r0 : 0 ≤ x3.toInt) (r9 : x3.toInt ≤ 9) : (S_NH_makeDecimal x2 x3 t0_0 t0_1 t1_0 t1_1 t2_0 t3_0 t4_0 t5_0 t5_1 t6_0 t7_0 t7_1 t8_0 t8_1 t9_0) ∧ Q_makeDecimal (F_NH_makeDecimal x2 x3 t0_0 t0_1 t1_0 t1_1 t2_0 t3_0 t4_0 t5_0 t5_1 t6_0 t7_0 t7_1 t8_0 t8_1 t9_0) := by
  have e0 : (0 : Int32).toInt = 0 := rfl
  have e220 : (220 : Int32).toInt = 220 := rfl
  have e68 : (68 : Int32).toInt = 68 := rfl
  unfold S_NH_makeDecimal F_NH_makeDecimal
  by_cases g1 : x2 = (1 : Int32)
  ·
    rw [if_pos g1, if_pos g1]
    have g1i : x2.toInt = 1 := q_eqI g1
    refine v_cons (by omega) ?_
    refine v_cons (by omega) ?_
    have h2 := T_take (R := (108 : Int32)) (t0_0 := t0_0) (t0_1 := t0_1) (t1_0 := t1_0) (t1_1 := t1_1) (t2_0 := t2_0) (t3_0 := t7_0) (t3_1 := t7_1) (t4_0 := t8_0) (t4_1 := t8_1) (t5_0 := t9_0) hd.1
    generalize F_DW_take (108 : Int32) t0_0 t0_1 t1_0 t1_1 t2_0 t7_0 t7_1 t8_0 t8_1 t9_0 = p351 at h2 ⊢
    have hk := bO.K h2.2 hd.B (by decide)
    unfold S_NH_makeDecimal_c15 F_NH_makeDecimal_c15
    refine ⟨trivial, ?_⟩
    first | exact Or.inr ⟨rfl, hk⟩ | exact Or.inl (by assumption)
  ·
    rw [if_neg g1, if_neg g1]
    have g1i : x2.toInt ≠ 1 := q_neI g1
    by_cases g3 : x2 = (0 : Int32)
    ·
      rw [if_pos g3, if_pos g3]
      have g3i : x2.toInt = 0 := q_eqI g3
      refine v_cons (by omega) ?_
      refine v_cons (by omega) ?_
      have h4 := W_copy  (R := (220 : Int32)) (s := t1_0) (neg := t1_1) (f := t2_0) hw (by have z := hw.2.2.2.1; omega) (by decide)
      generalize F_Big_copy (220 : Int32) (68 : Int32) t1_0 t1_1 t2_0 t5_0 t5_1 t6_0 = p312 at h4 ⊢
      have hk := bO.K h4 hW (by decide)
      unfold S_NH_makeDecimal_c38 F_NH_makeDecimal_c38
      refine ⟨trivial, ?_⟩
      first | exact Or.inr ⟨rfl, hk⟩ | exact Or.inl (by assumption)
    ·
      rw [if_neg g3, if_neg g3]
      have g3i : x2.toInt ≠ 0 := q_neI g3
      by_cases g5 : x2 = (2 : Int32)
      ·
        rw [if_pos g5, if_pos g5]
        have g5i : x2.toInt = 2 := q_eqI g5
        rw [if_pos g5, if_pos g5]
        refine v_cons (by omega) ?_
        refine v_cons (by omega) ?_
        by_cases g6 : (F_NH_canHave ((F_Flo_isFinite (52 : Int32) (1075 : Int32) (2047 : Int32) (t3_0 x3.toNatClampNeg : Int64)) : Int32)) = (0 : Int32)
        ·
          rw [if_pos g6, if_pos g6]
          have h7 := T_exactly (A := (52 : Int32)) (B := (1075 : Int32)) (C := (2047 : Int32)) (x2 := (t3_0 x3.toNatClampNeg : Int64)) (t0_0 := t1_0) (t0_1 := t1_1) (t1_0 := t2_0) (by decide) (by decide) (by decide)
          generalize F_Flo_exactly (52 : Int32) (1075 : Int32) (2047 : Int32) (t3_0 x3.toNatClampNeg : Int64) t1_0 t1_1 t2_0 = p96 at h7 ⊢
          have hk := h7
          unfold S_NH_makeDecimal_c83 F_NH_makeDecimal_c83
          refine ⟨trivial, ?_⟩
          first | exact Or.inr ⟨rfl, hk⟩ | exact Or.inl (by assumption)
        ·
          rw [if_neg g6, if_neg g6]
          refine ⟨trivial, ?_⟩
          first | exact Or.inr ⟨rfl, hk⟩ | exact Or.inl (by assumption)
      ·
        rw [if_neg g5, if_neg g5]
        have g5i : x2.toInt ≠ 2 := q_neI g5
        rw [if_neg g5, if_neg g5]
        refine v_cons (by omega) ?_
        refine v_cons (by omega) ?_
        by_cases g8 : (F_NH_canHave ((F_Flo_isFinite (23 : Int32) (150 : Int32) (255 : Int32) (t4_0 x3.toNatClampNeg : Int64)) : Int32)) = (0 : Int32)
        ·
          rw [if_pos g8, if_pos g8]
          have h9 := T_exactly (A := (23 : Int32)) (B := (150 : Int32)) (C := (255 : Int32)) (x2 := (t4_0 x3.toNatClampNeg : Int64)) (t0_0 := t1_0) (t0_1 := t1_1) (t1_0 := t2_0) (by decide) (by decide) (by decide)
          generalize F_Flo_exactly (23 : Int32) (150 : Int32) (255 : Int32) (t4_0 x3.toNatClampNeg : Int64) t1_0 t1_1 t2_0 = p274 at h9 ⊢
          have hk := h9
          unfold S_NH_makeDecimal_c83_4 F_NH_makeDecimal_c83_4
          refine ⟨trivial, ?_⟩
          first | exact Or.inr ⟨rfl, hk⟩ | exact Or.inl (by assumption)
        ·
          rw [if_neg g8, if_neg g8]
          refine ⟨trivial, ?_⟩
          first | exact Or.inr ⟨rfl, hk⟩ | exact Or.inl (by assumption)
theorem T_madeFloat_w {x2 : Int32} {x3 : Int32} {t0_0 : Int32} {t0_1 : Int32} {t1_0 : (Nat → Int32)} {t2_0 : Int32} {t2_1 : Int32} {t3_0 : (Nat → Int32)} {t4_0 : Int32} {t4_1 : Int32} {t5_0 : (Nat → Int32)} {t6_0 : Int32} {t6_1 : Int32} {t7_0 : (Nat → Int32)} {t8_0 : Int32} {t8_1 : Int32} {t9_0 : (Nat → Int32)} {t10_0 : (Nat → Int64)} {t11_0 : (Nat → Int64)} {t12_0 : Int32} {t12_1 : Int32} {t13_0 : (Nat → Int32)} {t14_0 : Int32} {t14_1 : Int32} {t15_0 : Int32} {t15_1 : Int32} {t16_0 : (Nat → Int32)} {vd : Int} (hd : dO 108 t15_0 t15_1 t16_0 t14_0 t14_1 vd) (r0 : 0 ≤ x3.toInt) (r9 : x3.toInt ≤ 9) : (S_NH_madeFloat_w x2 x3 t0_0 t0_1 t1_0 t2_0 t2_1 t3_0 t4_0 t4_1 t5_0 t6_0 t6_1 t7_0 t8_0 t8_1 t9_0 t10_0 t11_0 t12_0 t12_1 t13_0 t14_0 t14_1 t15_0 t15_1 t16_0) := by
  have e0 : (0 : Int32).toInt = 0 := rfl
  have e220 : (220 : Int32).toInt = 220 := rfl
  have e68 : (68 : Int32).toInt = 68 := rfl
  unfold S_NH_madeFloat_w
  by_cases g1 : x2 = (0 : Int32)
  ·
    rw [if_pos g1]
    have g1i : x2.toInt = 0 := q_eqI g1
    refine And.intro (by omega) ?_
    refine And.intro (by omega) ?_
    exact trivial
  ·
    rw [if_neg g1]
    have g1i : x2.toInt ≠ 0 := q_neI g1
    by_cases g2 : x2 = (1 : Int32)
    ·
      rw [if_pos g2]
      have g2i : x2.toInt = 1 := q_eqI g2
      refine And.intro (by omega) ?_
      refine And.intro (by omega) ?_
      have h3 := S_near (A := (52 : Int32)) (B := (1075 : Int32)) (C := (2047 : Int32)) (R2 := (108 : Int32)) (x3 := (t14_0.toInt64 : Int64)) (t0_0 := t6_0) (t0_1 := t6_1) (t1_0 := t7_0) (t2_0 := t8_0) (t2_1 := t8_1) (t3_0 := t9_0) (t4_0 := t2_0) (t4_1 := t2_1) (t5_0 := t3_0) (t6_0 := t4_0) (t6_1 := t4_1) (t7_0 := t5_0) (t8_0 := t15_0) (t8_1 := t15_1) (t9_0 := t16_0) hd.1 (v_digs hd) (by rw [q_i2l rfl]; have z := hd.2.2; omega) (by rw [q_i2l rfl]; have z := hd.2.2; omega)
      refine v_oweS h3 ?_
      generalize F_Flo_nearestDecimal (52 : Int32) (1075 : Int32) (2047 : Int32) (108 : Int32) (t14_0.toInt64 : Int64) t6_0 t6_1 t7_0 t8_0 t8_1 t9_0 t2_0 t2_1 t3_0 t4_0 t4_1 t5_0 t15_0 t15_1 t16_0 = p244
      unfold S_NH_madeFloat_w_c56
      exact trivial
    ·
      rw [if_neg g2]
      have g2i : x2.toInt ≠ 1 := q_neI g2
      by_cases g4 : x2 = (2 : Int32)
      ·
        rw [if_pos g4]
        have g4i : x2.toInt = 2 := q_eqI g4
        refine And.intro (by omega) ?_
        refine And.intro (by omega) ?_
        rw [if_pos g4]
        exact trivial
      ·
        rw [if_neg g4]
        have g4i : x2.toInt ≠ 2 := q_neI g4
        refine And.intro (by omega) ?_
        refine And.intro (by omega) ?_
        rw [if_neg g4]
        generalize F_Flo_changed (52 : Int32) (1075 : Int32) (2047 : Int32) (t11_0 x3.toNatClampNeg : Int64) (23 : Int32) (150 : Int32) (255 : Int32) t0_0 t0_1 t1_0 = p177
        unfold S_NH_madeFloat_w_c86_2
        exact trivial
theorem T_madeFloat_n {x2 : Int32} {x3 : Int32} {t0_0 : Int32} {t0_1 : Int32} {t1_0 : (Nat → Int32)} {t2_0 : Int32} {t2_1 : Int32} {t3_0 : (Nat → Int32)} {t4_0 : Int32} {t4_1 : Int32} {t5_0 : (Nat → Int32)} {t6_0 : Int32} {t6_1 : Int32} {t7_0 : (Nat → Int32)} {t8_0 : Int32} {t8_1 : Int32} {t9_0 : (Nat → Int32)} {t10_0 : (Nat → Int64)} {t11_0 : (Nat → Int64)} {t12_0 : Int32} {t12_1 : Int32} {t13_0 : (Nat → Int32)} {t14_0 : Int32} {t14_1 : Int32} {t15_0 : Int32} {t15_1 : Int32} {t16_0 : (Nat → Int32)} {vd : Int} (hd : dO 108 t15_0 t15_1 t16_0 t14_0 t14_1 vd) (r0 : 0 ≤ x3.toInt) (r9 : x3.toInt ≤ 9) : (S_NH_madeFloat_n x2 x3 t0_0 t0_1 t1_0 t2_0 t2_1 t3_0 t4_0 t4_1 t5_0 t6_0 t6_1 t7_0 t8_0 t8_1 t9_0 t10_0 t11_0 t12_0 t12_1 t13_0 t14_0 t14_1 t15_0 t15_1 t16_0) := by
  have e0 : (0 : Int32).toInt = 0 := rfl
  have e220 : (220 : Int32).toInt = 220 := rfl
  have e68 : (68 : Int32).toInt = 68 := rfl
  unfold S_NH_madeFloat_n
  by_cases g1 : x2 = (0 : Int32)
  ·
    rw [if_pos g1]
    have g1i : x2.toInt = 0 := q_eqI g1
    refine And.intro (by omega) ?_
    refine And.intro (by omega) ?_
    exact trivial
  ·
    rw [if_neg g1]
    have g1i : x2.toInt ≠ 0 := q_neI g1
    by_cases g2 : x2 = (1 : Int32)
    ·
      rw [if_pos g2]
      have g2i : x2.toInt = 1 := q_eqI g2
      refine And.intro (by omega) ?_
      refine And.intro (by omega) ?_
      have h3 := S_near (A := (23 : Int32)) (B := (150 : Int32)) (C := (255 : Int32)) (R2 := (108 : Int32)) (x3 := (t14_0.toInt64 : Int64)) (t0_0 := t6_0) (t0_1 := t6_1) (t1_0 := t7_0) (t2_0 := t8_0) (t2_1 := t8_1) (t3_0 := t9_0) (t4_0 := t2_0) (t4_1 := t2_1) (t5_0 := t3_0) (t6_0 := t4_0) (t6_1 := t4_1) (t7_0 := t5_0) (t8_0 := t15_0) (t8_1 := t15_1) (t9_0 := t16_0) hd.1 (v_digs hd) (by rw [q_i2l rfl]; have z := hd.2.2; omega) (by rw [q_i2l rfl]; have z := hd.2.2; omega)
      refine v_oweS h3 ?_
      generalize F_Flo_nearestDecimal (23 : Int32) (150 : Int32) (255 : Int32) (108 : Int32) (t14_0.toInt64 : Int64) t6_0 t6_1 t7_0 t8_0 t8_1 t9_0 t2_0 t2_1 t3_0 t4_0 t4_1 t5_0 t15_0 t15_1 t16_0 = p244
      unfold S_NH_madeFloat_n_c56
      exact trivial
    ·
      rw [if_neg g2]
      have g2i : x2.toInt ≠ 1 := q_neI g2
      by_cases g4 : x2 = (2 : Int32)
      ·
        rw [if_pos g4]
        have g4i : x2.toInt = 2 := q_eqI g4
        refine And.intro (by omega) ?_
        refine And.intro (by omega) ?_
        rw [if_pos g4]
        generalize F_Flo_changed (23 : Int32) (150 : Int32) (255 : Int32) (t10_0 x3.toNatClampNeg : Int64) (52 : Int32) (1075 : Int32) (2047 : Int32) t0_0 t0_1 t1_0 = p108
        unfold S_NH_madeFloat_n_c86
        exact trivial
      ·
        rw [if_neg g4]
        have g4i : x2.toInt ≠ 2 := q_neI g4
        refine And.intro (by omega) ?_
        refine And.intro (by omega) ?_
        rw [if_neg g4]
        exact trivial
def Q_convert (p : Int32 × Int64 × Int32 × Int32 × Int32 × (Nat → Int32) × Int32 × Int32 × (Nat → Int32) × Int32 × Int32 × (Nat → Int32) × Int32 × Int32 × (Nat → Int32) × Int32 × Int32 × (Nat → Int32) × (Nat → Int64) × (Nat → Int64) × Int32 × Int32 × (Nat → Int32) × Int32 × Int32 × Int32 × Int32 × (Nat → Int32)) : Prop := rW p.2.2.2.2.2.2.2.2.2.2.2.2.2.2.2.2.2.2.2.2.1 p.2.2.2.2.2.2.2.2.2.2.2.2.2.2.2.2.2.2.2.2.2.1 p.2.2.2.2.2.2.2.2.2.2.2.2.2.2.2.2.2.2.2.2.2.2.1 ∧ rD p.2.2.2.2.2.2.2.2.2.2.2.2.2.2.2.2.2.2.2.2.2.2.2.2.2.1 p.2.2.2.2.2.2.2.2.2.2.2.2.2.2.2.2.2.2.2.2.2.2.2.2.2.2.1 p.2.2.2.2.2.2.2.2.2.2.2.2.2.2.2.2.2.2.2.2.2.2.2.2.2.2.2 p.2.2.2.2.2.2.2.2.2.2.2.2.2.2.2.2.2.2.2.2.2.2.2.1 p.2.2.2.2.2.2.2.2.2.2.2.2.2.2.2.2.2.2.2.2.2.2.2.2.1
theorem T_convert {x2 : Int32} {x3 : Int32} {x4 : Int32} {x5 : Int32} {t0_0 : Int64} {t0_1 : Int32} {t1_0 : Int32} {t1_1 : Int32} {t2_0 : (Nat → Int32)} {t3_0 : Int32} {t3_1 : Int32} {t4_0 : (Nat → Int32)} {t5_0 : Int32} {t5_1 : Int32} {t6_0 : (Nat → Int32)} {t7_0 : Int32} {t7_1 : Int32} {t8_0 : (Nat → Int32)} {t9_0 : Int32} {t9_1 : Int32} {t10_0 : (Nat → Int32)} {t11_0 : (Nat → Int64)} {t12_0 : (Nat → Int64)} {t13_0 : Int32} {t13_1 : Int32} {t14_0 : (Nat → Int32)} {t15_0 : Int32} {t15_1 : Int32} {t16_0 : Int32} {t16_1 : Int32} {t17_0 : (Nat → Int32)} {t18_0 : Int32} {t18_1 : Int32} {t19_0 : (Nat → Int32)} {t20_0 : Int32} {t20_1 : Int32} {t21_0 : Int32} {t21_1 : Int32} {t22_0 : (Nat → Int32)} {vw vd : Int} (hw : bO 68 t13_0 t13_1 t14_0 vw) (hW : bB 67 vw) (hd : dO 108 t16_0 t16_1 t17_0 t15_0 t15_1 vd) (hw5 : rW t18_0 t18_1 t19_0) (hd5 : rD t21_0 t21_1 t22_0 t20_0 t20_1) : (S_NH_convert x2 x3 x4 x5 t0_0 t0_1 t1_0 t1_1 t2_0 t3_0 t3_1 t4_0 t5_0 t5_1 t6_0 t7_0 t7_1 t8_0 t9_0 t9_1 t10_0 t11_0 t12_0 t13_0 t13_1 t14_0 t15_0 t15_1 t16_0 t16_1 t17_0 t18_0 t18_1 t19_0 t20_0 t20_1 t21_0 t21_1 t22_0) ∧ Q_convert (F_NH_convert x2 x3 x4 x5 t0_0 t0_1 t1_0 t1_1 t2_0 t3_0 t3_1 t4_0 t5_0 t5_1 t6_0 t7_0 t7_1 t8_0 t9_0 t9_1 t10_0 t11_0 t12_0 t13_0 t13_1 t14_0 t15_0 t15_1 t16_0 t16_1 t17_0 t18_0 t18_1 t19_0 t20_0 t20_1 t21_0 t21_1 t22_0) := by
  have e0 : (0 : Int32).toInt = 0 := rfl
  have e220 : (220 : Int32).toInt = 220 := rfl
  have e68 : (68 : Int32).toInt = 68 := rfl
  unfold S_NH_convert F_NH_convert
  by_cases g1 : (F_NH_needRegister x2 x3) = (0 : Int32)
  ·
    rw [if_pos g1, if_pos g1]
    have g1r := v_needReg g1
    by_cases g2 : (F_NH_needRegister x4 x5) = (0 : Int32)
    ·
      rw [if_pos g2, if_pos g2]
      have g2r := v_needReg g2
      by_cases g3 : x4 = (0 : Int32)
      ·
        rw [if_pos g3, if_pos g3]
        have g3i : x4.toInt = 0 := q_eqI g3
        have h4 := T_makeWhole (x2 := x2) (x3 := x3) (t0_0 := t0_0) (t0_1 := t0_1) (t1_0 := t1_0) (t1_1 := t1_1) (t2_0 := t2_0) (t3_0 := t11_0) (t4_0 := t12_0) (t5_0 := t13_0) (t5_1 := t13_1) (t6_0 := t14_0) (t7_0 := t15_0) (t7_1 := t15_1) (t8_0 := t16_0) (t8_1 := t16_1) (t9_0 := t17_0) hw hW hd (by omega) (by omega)
        refine v_owe h4.1 ?_
        replace h4 := h4.2
        generalize F_NH_makeWhole x2 x3 t0_0 t0_1 t1_0 t1_1 t2_0 t11_0 t12_0 t13_0 t13_1 t14_0 t15_0 t15_1 t16_0 t16_1 t17_0 = p717 at h4 ⊢
        unfold S_NH_convert_c18 F_NH_convert_c18
        rcases h4 with h40 | ⟨h41, _, hn⟩
        ·
          rw [if_neg h40, if_neg h40]
          refine ⟨trivial, ?_⟩
          first | exact ⟨hw5, hd5⟩ | exact ⟨hkw, hd5⟩ | exact ⟨hw5, hkd⟩
        ·
          rw [if_pos h41, if_pos h41]
          have h5 := T_keepWhole (x2 := x5) (t0_0 := (p717.2.1 : Int32)) (t0_1 := (p717.2.2.1 : Int32)) (t1_0 := (p717.2.2.2 : (Nat → Int32))) (t2_0 := t18_0) (t2_1 := t18_1) (t3_0 := t19_0) hn hw5 (by omega) (by omega)
          refine v_owe h5.1 ?_
          replace h5 := h5.2
          generalize F_NH_keepWhole x5 (p717.2.1 : Int32) (p717.2.2.1 : Int32) (p717.2.2.2 : (Nat → Int32)) t18_0 t18_1 t19_0 = p760 at h5 ⊢
          have hkw := h5
          unfold S_NH_convert_c24 F_NH_convert_c24
          by_cases g6 : p760.1 = (0 : Int32)
          ·
            rw [if_pos g6, if_pos g6]
            have g6i : p760.1.toInt = 0 := q_eqI g6
            refine ⟨trivial, ?_⟩
            first | exact ⟨hw5, hd5⟩ | exact ⟨hkw, hd5⟩ | exact ⟨hw5, hkd⟩
          ·
            rw [if_neg g6, if_neg g6]
            have g6i : p760.1.toInt ≠ 0 := q_neI g6
            refine ⟨trivial, ?_⟩
            first | exact ⟨hw5, hd5⟩ | exact ⟨hkw, hd5⟩ | exact ⟨hw5, hkd⟩
      ·
        rw [if_neg g3, if_neg g3]
        have g3i : x4.toInt ≠ 0 := q_neI g3
        by_cases g7 : x4 = (1 : Int32)
        ·
          rw [if_pos g7, if_pos g7]
          have g7i : x4.toInt = 1 := q_eqI g7
          have h8 := T_makeDecimal (x2 := x2) (x3 := x3) (t0_0 := t0_0) (t0_1 := t0_1) (t1_0 := t1_0) (t1_1 := t1_1) (t2_0 := t2_0) (t3_0 := t11_0) (t4_0 := t12_0) (t5_0 := t13_0) (t5_1 := t13_1) (t6_0 := t14_0) (t7_0 := t15_0) (t7_1 := t15_1) (t8_0 := t16_0) (t8_1 := t16_1) (t9_0 := t17_0) hw hW hd (by omega) (by omega)
          refine v_owe h8.1 ?_
          replace h8 := h8.2
          generalize F_NH_makeDecimal x2 x3 t0_0 t0_1 t1_0 t1_1 t2_0 t11_0 t12_0 t13_0 t13_1 t14_0 t15_0 t15_1 t16_0 t16_1 t17_0 = p571 at h8 ⊢
          unfold S_NH_convert_c38 F_NH_convert_c38
          rcases h8 with h80 | ⟨h81, hk⟩
          ·
            rw [if_neg h80, if_neg h80]
            refine ⟨trivial, ?_⟩
            first | exact ⟨hw5, hd5⟩ | exact ⟨hkw, hd5⟩ | exact ⟨hw5, hkd⟩
          ·
            rw [if_pos h81, if_pos h81]
            have h9 := T_keepDecimal (x2 := x5) (t0_0 := (p571.2.1 : Int64)) (t0_1 := (p571.2.2.1 : Int32)) (t1_0 := (p571.2.2.2.1 : Int32)) (t1_1 := (p571.2.2.2.2.1 : Int32)) (t2_0 := (p571.2.2.2.2.2 : (Nat → Int32))) (t3_0 := t5_0) (t3_1 := t5_1) (t4_0 := t6_0) (t5_0 := t20_0) (t5_1 := t20_1) (t6_0 := t21_0) (t6_1 := t21_1) (t7_0 := t22_0) hk hd5 (by omega) (by omega)
            refine v_owe h9.1 ?_
            replace h9 := h9.2
            generalize F_NH_keepDecimal x5 (p571.2.1 : Int64) (p571.2.2.1 : Int32) (p571.2.2.2.1 : Int32) (p571.2.2.2.2.1 : Int32) (p571.2.2.2.2.2 : (Nat → Int32)) t5_0 t5_1 t6_0 t20_0 t20_1 t21_0 t21_1 t22_0 = p638 at h9 ⊢
            have hkd := h9
            unfold S_NH_convert_c44 F_NH_convert_c44
            by_cases g10 : p638.1 = (0 : Int32)
            ·
              rw [if_pos g10, if_pos g10]
              have g10i : p638.1.toInt = 0 := q_eqI g10
              refine ⟨trivial, ?_⟩
              first | exact ⟨hw5, hd5⟩ | exact ⟨hkw, hd5⟩ | exact ⟨hw5, hkd⟩
            ·
              rw [if_neg g10, if_neg g10]
              have g10i : p638.1.toInt ≠ 0 := q_neI g10
              refine ⟨trivial, ?_⟩
              first | exact ⟨hw5, hd5⟩ | exact ⟨hkw, hd5⟩ | exact ⟨hw5, hkd⟩
        ·
          rw [if_neg g7, if_neg g7]
          have g7i : x4.toInt ≠ 1 := q_neI g7
          by_cases g11 : x4 = (2 : Int32)
          ·
            rw [if_pos g11, if_pos g11]
            have g11i : x4.toInt = 2 := q_eqI g11
            rw [if_pos g11, if_pos g11]
            have h12 := T_madeFloat_w (x2 := x2) (x3 := x3) (t0_0 := t1_0) (t0_1 := t1_1) (t1_0 := t2_0) (t2_0 := t3_0) (t2_1 := t3_1) (t3_0 := t4_0) (t4_0 := t5_0) (t4_1 := t5_1) (t5_0 := t6_0) (t6_0 := t7_0) (t6_1 := t7_1) (t7_0 := t8_0) (t8_0 := t9_0) (t8_1 := t9_1) (t9_0 := t10_0) (t10_0 := t11_0) (t11_0 := t12_0) (t12_0 := t13_0) (t12_1 := t13_1) (t13_0 := t14_0) (t14_0 := t15_0) (t14_1 := t15_1) (t15_0 := t16_0) (t15_1 := t16_1) (t16_0 := t17_0) hd (by omega) (by omega)
            refine v_owe h12 ?_
            generalize F_NH_madeFloat_w x2 x3 t1_0 t1_1 t2_0 t3_0 t3_1 t4_0 t5_0 t5_1 t6_0 t7_0 t7_1 t8_0 t9_0 t9_1 t10_0 t11_0 t12_0 t13_0 t13_1 t14_0 t15_0 t15_1 t16_0 t16_1 t17_0 = p202
            unfold S_NH_convert_c65 F_NH_convert_c65
            refine v_cons (by omega) ?_
            refine v_cons (by omega) ?_
            refine ⟨trivial, ?_⟩
            first | exact ⟨hw5, hd5⟩ | exact ⟨hkw, hd5⟩ | exact ⟨hw5, hkd⟩
          ·
            rw [if_neg g11, if_neg g11]
            have g11i : x4.toInt ≠ 2 := q_neI g11
            rw [if_neg g11, if_neg g11]
            have h13 := T_madeFloat_n (x2 := x2) (x3 := x3) (t0_0 := t1_0) (t0_1 := t1_1) (t1_0 := t2_0) (t2_0 := t3_0) (t2_1 := t3_1) (t3_0 := t4_0) (t4_0 := t5_0) (t4_1 := t5_1) (t5_0 := t6_0) (t6_0 := t7_0) (t6_1 := t7_1) (t7_0 := t8_0) (t8_0 := t9_0) (t8_1 := t9_1) (t9_0 := t10_0) (t10_0 := t11_0) (t11_0 := t12_0) (t12_0 := t13_0) (t12_1 := t13_1) (t13_0 := t14_0) (t14_0 := t15_0) (t14_1 := t15_1) (t15_0 := t16_0) (t15_1 := t16_1) (t16_0 := t17_0) hd (by omega) (by omega)
            refine v_owe h13 ?_
            generalize F_NH_madeFloat_n x2 x3 t1_0 t1_1 t2_0 t3_0 t3_1 t4_0 t5_0 t5_1 t6_0 t7_0 t7_1 t8_0 t9_0 t9_1 t10_0 t11_0 t12_0 t13_0 t13_1 t14_0 t15_0 t15_1 t16_0 t16_1 t17_0 = p524
            unfold S_NH_convert_c65_4 F_NH_convert_c65_4
            refine v_cons (by omega) ?_
            refine v_cons (by omega) ?_
            refine ⟨trivial, ?_⟩
            first | exact ⟨hw5, hd5⟩ | exact ⟨hkw, hd5⟩ | exact ⟨hw5, hkd⟩
    ·
      rw [if_neg g2, if_neg g2]
      refine ⟨trivial, ?_⟩
      first | exact ⟨hw5, hd5⟩ | exact ⟨hkw, hd5⟩ | exact ⟨hw5, hkd⟩
  ·
    rw [if_neg g1, if_neg g1]
    refine ⟨trivial, ?_⟩
    first | exact ⟨hw5, hd5⟩ | exact ⟨hkw, hd5⟩ | exact ⟨hw5, hkd⟩
