/-! what the calls keep: read -/
def Q_read (p : Int32 × Int32 × Int64 × Int64 × Int32 × Int32 × Int32 × Int32 × Int32 × Int32 × Int32 × Int64 × Int32 × Int32 × Int32 × (Nat → Int32) × Int32 × Int32 × (Nat → Int32) × Int32 × Int32 × (Nat → Int32) × Int32 × Int32 × (Nat → Int32) × Int32 × Int32 × (Nat → Int32) × (Nat → Int64) × (Nat → Int64) × Int32 × Int32 × (Nat → Int32) × Int32 × Int32 × Int32 × Int32 × (Nat → Int32)) : Prop := rW p.2.2.2.2.2.2.2.2.2.2.2.2.2.2.2.2.2.2.2.2.2.2.2.2.2.2.2.2.2.2.1 p.2.2.2.2.2.2.2.2.2.2.2.2.2.2.2.2.2.2.2.2.2.2.2.2.2.2.2.2.2.2.2.1 p.2.2.2.2.2.2.2.2.2.2.2.2.2.2.2.2.2.2.2.2.2.2.2.2.2.2.2.2.2.2.2.2.1 ∧ rD p.2.2.2.2.2.2.2.2.2.2.2.2.2.2.2.2.2.2.2.2.2.2.2.2.2.2.2.2.2.2.2.2.2.2.2.1 p.2.2.2.2.2.2.2.2.2.2.2.2.2.2.2.2.2.2.2.2.2.2.2.2.2.2.2.2.2.2.2.2.2.2.2.2.1 p.2.2.2.2.2.2.2.2.2.2.2.2.2.2.2.2.2.2.2.2.2.2.2.2.2.2.2.2.2.2.2.2.2.2.2.2.2 p.2.2.2.2.2.2.2.2.2.2.2.2.2.2.2.2.2.2.2.2.2.2.2.2.2.2.2.2.2.2.2.2.2.1 p.2.2.2.2.2.2.2.2.2.2.2.2.2.2.2.2.2.2.2.2.2.2.2.2.2.2.2.2.2.2.2.2.2.2.1
theorem T_read {x2 : Int32} {x3 : Int32} {x4 : Int32} {t0_0 : Int64} {t0_1 : Int32} {t1_0 : Int64} {t1_1 : Int64} {t1_2 : Int32} {t1_3 : Int32} {t1_4 : Int32} {t1_5 : Int32} {t1_6 : Int32} {t1_7 : Int32} {t1_8 : Int32} {t1_9 : Int64} {t2_0 : Int32} {t3_0 : (Nat → Int64)} {t4_0 : Int32} {t4_1 : Int32} {t5_0 : (Nat → Int32)} {t6_0 : Int32} {t6_1 : Int32} {t7_0 : (Nat → Int32)} {t8_0 : Int32} {t8_1 : Int32} {t9_0 : (Nat → Int32)} {t10_0 : Int32} {t10_1 : Int32} {t11_0 : (Nat → Int32)} {t12_0 : Int32} {t12_1 : Int32} {t13_0 : (Nat → Int32)} {t14_0 : (Nat → Int64)} {t15_0 : (Nat → Int64)} {t16_0 : Int32} {t16_1 : Int32} {t17_0 : (Nat → Int32)} {t18_0 : Int32} {t18_1 : Int32} {t19_0 : Int32} {t19_1 : Int32} {t20_0 : (Nat → Int32)} (hw : rW t16_0 t16_1 t17_0) (hd : rD t19_0 t19_1 t20_0 t18_0 t18_1) (ht0 : 0 ≤ t2_0.toInt) (ht : t2_0.toInt ≤ 4100) (h8 : 0 ≤ t1_8.toInt ∧ t1_8.toInt ≤ 1) : (S_NH_read x2 x3 x4 t0_0 t0_1 t1_0 t1_1 t1_2 t1_3 t1_4 t1_5 t1_6 t1_7 t1_8 t1_9 t2_0 t3_0 t4_0 t4_1 t5_0 t6_0 t6_1 t7_0 t8_0 t8_1 t9_0 t10_0 t10_1 t11_0 t12_0 t12_1 t13_0 t14_0 t15_0 t16_0 t16_1 t17_0 t18_0 t18_1 t19_0 t19_1 t20_0) ∧ Q_read (F_NH_read x2 x3 x4 t0_0 t0_1 t1_0 t1_1 t1_2 t1_3 t1_4 t1_5 t1_6 t1_7 t1_8 t1_9 t2_0 t3_0 t4_0 t4_1 t5_0 t6_0 t6_1 t7_0 t8_0 t8_1 t9_0 t10_0 t10_1 t11_0 t12_0 t12_1 t13_0 t14_0 t15_0 t16_0 t16_1 t17_0 t18_0 t18_1 t19_0 t19_1 t20_0) := by
  have e0 : (0 : Int32).toInt = 0 := rfl
  have e68 : (68 : Int32).toInt = 68 := rfl
  unfold S_NH_read F_NH_read
  by_cases g1 : (F_NH_needRegister x2 x3) = (0 : Int32)
  ·
    rw [if_pos g1, if_pos g1]
    have g1r := v_needReg g1
    by_cases g2 : x2 = (0 : Int32)
    ·
      rw [if_pos g2, if_pos g2]
      have g2i : x2.toInt = 0 := q_eqI g2
      by_cases g3 : x4 < (2 : Int32)
      ·
        rw [if_pos g3, if_pos g3]
        have g3i : x4.toInt < 2 := q_ltI g3
        unfold S_NH_read_J24 F_NH_read_J24
        unfold S_NH_read_J39 F_NH_read_J39
        have g4 : ¬ ((F_NH_need (0 : Int32)) = (0 : Int32)) := (by decide)
        rw [if_neg g4, if_neg g4]
        refine ⟨trivial, ?_⟩
        first | exact ⟨hw, hd⟩ | exact ⟨hw3, hd⟩ | exact ⟨hw, hd3⟩
      ·
        rw [if_neg g3, if_neg g3]
        have g3i : 2 ≤ x4.toInt := q_nltI g3
        by_cases g5 : (36 : Int32) < x4
        ·
          rw [if_pos g5, if_pos g5]
          have g5i : 36 < x4.toInt := q_ltI g5
          unfold S_NH_read_J24 F_NH_read_J24
          unfold S_NH_read_J39 F_NH_read_J39
          have g6 : ¬ ((F_NH_need (0 : Int32)) = (0 : Int32)) := (by decide)
          rw [if_neg g6, if_neg g6]
          refine ⟨trivial, ?_⟩
          first | exact ⟨hw, hd⟩ | exact ⟨hw3, hd⟩ | exact ⟨hw, hd3⟩
        ·
          rw [if_neg g5, if_neg g5]
          have g5i : x4.toInt ≤ 36 := q_nltI g5
          unfold S_NH_read_J39 F_NH_read_J39
          have g7 : ((F_NH_need (1 : Int32)) = (0 : Int32)) := (by decide)
          rw [if_pos g7, if_pos g7]
          rw [if_pos g2, if_pos g2]
          have h8 := T_wholeText (b := x4.toInt.toNat) (x2 := x4) (t0_0 := t1_0) (t0_1 := t1_1) (t0_2 := t1_2) (t0_3 := t1_3) (t0_4 := t1_4) (t0_5 := t1_5) (t0_6 := t1_6) (t0_7 := t1_7) (t0_8 := t1_8) (t0_9 := t1_9) (t1_0 := t2_0) (t2_0 := t3_0) (t3_0 := t4_0) (t3_1 := t4_1) (t4_0 := t5_0) (by omega) (by omega) (by omega) (by omega) (by omega)
          refine v_owe h8.1 ?_
          replace h8 := h8.2
          generalize F_Rea_wholeText x4 t1_0 t1_1 t1_2 t1_3 t1_4 t1_5 t1_6 t1_7 t1_8 t1_9 t2_0 t3_0 t4_0 t4_1 t5_0 = p694 at h8 ⊢
          unfold S_NH_read_c51 F_NH_read_c51
          rcases h8 with h80 | h82 | ⟨h81, w, hB, hn⟩
          ·
            rw [if_pos h80, if_pos h80]
            refine ⟨trivial, ?_⟩
            first | exact ⟨hw, hd⟩ | exact ⟨hw3, hd⟩ | exact ⟨hw, hd3⟩
          ·
            have g9 : ¬ ((p694.1 : Int32) = (0 : Int32)) := (by rw [h82]; decide)
            rw [if_neg g9, if_neg g9]
            have g10 : ¬ ((p694.1 : Int32) = (1 : Int32)) := (by rw [h82]; decide)
            rw [if_neg g10, if_neg g10]
            unfold S_NH_read_J108_8 F_NH_read_J108_8
            have g11 : ¬ ((F_NH_canHave (0 : Int32)) = (0 : Int32)) := (by decide)
            rw [if_neg g11, if_neg g11]
            refine ⟨trivial, ?_⟩
            first | exact ⟨hw, hd⟩ | exact ⟨hw3, hd⟩ | exact ⟨hw, hd3⟩
          ·
            have g12 : ¬ ((p694.1 : Int32) = (0 : Int32)) := (by rw [h81]; decide)
            rw [if_neg g12, if_neg g12]
            rw [if_pos h81, if_pos h81]
            unfold S_NH_read_J108_8 F_NH_read_J108_8
            have g13 : ((F_NH_canHave (1 : Int32)) = (0 : Int32)) := (by decide)
            rw [if_pos g13, if_pos g13]
            refine v_cons (by omega) ?_
            refine v_cons (by omega) ?_
            have h14 := W_copy  (R := (68 : Int32)) (s := t16_0) (neg := t16_1) (f := t17_0) hn (by have z := hn.sB hB; omega) (by decide)
            generalize F_Big_copy (68 : Int32) (220 : Int32) t16_0 t16_1 t17_0 (p694.2.2.2.2.2.2.2.2.2.2.2.1 : Int32) (p694.2.2.2.2.2.2.2.2.2.2.2.2.1 : Int32) (p694.2.2.2.2.2.2.2.2.2.2.2.2.2 : (Nat → Int32)) = p777 at h14 ⊢
            have hw3 : rW p777.1 p777.2.1 p777.2.2 := ⟨w, h14, hB⟩
            unfold S_NH_read_c128 F_NH_read_c128
            refine ⟨trivial, ?_⟩
            first | exact ⟨hw, hd⟩ | exact ⟨hw3, hd⟩ | exact ⟨hw, hd3⟩
    ·
      rw [if_neg g2, if_neg g2]
      have g2i : x2.toInt ≠ 0 := q_neI g2
      by_cases g15 : x4 = (10 : Int32)
      ·
        rw [if_pos g15, if_pos g15]
        have g15i : x4.toInt = 10 := q_eqI g15
        unfold S_NH_read_J39 F_NH_read_J39
        have g16 : ((F_NH_need (1 : Int32)) = (0 : Int32)) := (by decide)
        rw [if_pos g16, if_pos g16]
        rw [if_neg g2, if_neg g2]
        by_cases g17 : x2 = (1 : Int32)
        ·
          rw [if_pos g17, if_pos g17]
          have g17i : x2.toInt = 1 := q_eqI g17
          have h18 := T_decimalText (t0_0 := t1_0) (t0_1 := t1_1) (t0_2 := t1_2) (t0_3 := t1_3) (t0_4 := t1_4) (t0_5 := t1_5) (t0_6 := t1_6) (t0_7 := t1_7) (t0_8 := t1_8) (t0_9 := t1_9) (t1_0 := t2_0) (t2_0 := t3_0) (t3_0 := t4_0) (t3_1 := t4_1) (t4_0 := t5_0) (by omega) (by omega)
          refine v_owe h18.1 ?_
          replace h18 := h18.2
          generalize F_Rea_decimalText t1_0 t1_1 t1_2 t1_3 t1_4 t1_5 t1_6 t1_7 t1_8 t1_9 t2_0 t3_0 t4_0 t4_1 t5_0 = p506 at h18 ⊢
          unfold S_NH_read_c68 F_NH_read_c68
          rcases h18 with h180 | ⟨vk, hk, hK⟩
          ·
            rw [if_pos h180, if_pos h180]
            refine ⟨trivial, ?_⟩
            first | exact ⟨hw, hd⟩ | exact ⟨hw3, hd⟩ | exact ⟨hw, hd3⟩
          ·
            by_cases g19 : (p506.1 : Int32) = (0 : Int32)
            ·
              rw [if_pos g19, if_pos g19]
              have g19i : p506.1.toInt = 0 := q_eqI g19
              refine ⟨trivial, ?_⟩
              first | exact ⟨hw, hd⟩ | exact ⟨hw3, hd⟩ | exact ⟨hw, hd3⟩
            ·
              rw [if_neg g19, if_neg g19]
              have g19i : p506.1.toInt ≠ 0 := q_neI g19
              by_cases g20 : (p506.1 : Int32) = (1 : Int32)
              ·
                rw [if_pos g20, if_pos g20]
                have g20i : p506.1.toInt = 1 := q_eqI g20
                unfold S_NH_read_J108 F_NH_read_J108
                have g21 : ((F_NH_canHave (1 : Int32)) = (0 : Int32)) := (by decide)
                rw [if_pos g21, if_pos g21]
                refine v_cons (by omega) ?_
                refine v_cons (by omega) ?_
                have h22 := T_settle (R := (220 : Int32)) (x3 := (p506.2.1 : Int64)) (R2 := (108 : Int32)) (t0_0 := t12_0) (t0_1 := t12_1) (t1_0 := t13_0) (t2_0 := (p506.2.2.2.2.2.2.2.2.2.2.2.1 : Int32)) (t2_1 := (p506.2.2.2.2.2.2.2.2.2.2.2.2.1 : Int32)) (t3_0 := (p506.2.2.2.2.2.2.2.2.2.2.2.2.2 : (Nat → Int32))) (t4_0 := t18_0) (t4_1 := t18_1) (t5_0 := t19_0) (t5_1 := t19_1) (t6_0 := t20_0) hk hK (by decide) trivial (by decide) (by decide) hd
                refine v_owe h22.1 ?_
                replace h22 := h22.2
                generalize F_DW_settle (220 : Int32) (p506.2.1 : Int64) (108 : Int32) t12_0 t12_1 t13_0 (p506.2.2.2.2.2.2.2.2.2.2.2.1 : Int32) (p506.2.2.2.2.2.2.2.2.2.2.2.2.1 : Int32) (p506.2.2.2.2.2.2.2.2.2.2.2.2.2 : (Nat → Int32)) t18_0 t18_1 t19_0 t19_1 t20_0 = p609 at h22 ⊢
                have hd3 := h22.2.2
                unfold S_NH_read_c163 F_NH_read_c163
                by_cases g23 : (F_NH_canHave (p609.1 : Int32)) = (0 : Int32)
                ·
                  rw [if_pos g23, if_pos g23]
                  refine ⟨trivial, ?_⟩
                  first | exact ⟨hw, hd⟩ | exact ⟨hw3, hd⟩ | exact ⟨hw, hd3⟩
                ·
                  rw [if_neg g23, if_neg g23]
                  refine ⟨trivial, ?_⟩
                  first | exact ⟨hw, hd⟩ | exact ⟨hw3, hd⟩ | exact ⟨hw, hd3⟩
              ·
                rw [if_neg g20, if_neg g20]
                have g20i : p506.1.toInt ≠ 1 := q_neI g20
                unfold S_NH_read_J108 F_NH_read_J108
                have g24 : ¬ ((F_NH_canHave (0 : Int32)) = (0 : Int32)) := (by decide)
                rw [if_neg g24, if_neg g24]
                refine ⟨trivial, ?_⟩
                first | exact ⟨hw, hd⟩ | exact ⟨hw3, hd⟩ | exact ⟨hw, hd3⟩
        ·
          rw [if_neg g17, if_neg g17]
          have g17i : x2.toInt ≠ 1 := q_neI g17
          by_cases g25 : x2 = (2 : Int32)
          ·
            rw [if_pos g25, if_pos g25]
            have g25i : x2.toInt = 2 := q_eqI g25
            have h26 := S_floatText (A := (52 : Int32)) (B := (1075 : Int32)) (C := (2047 : Int32)) (t0_0 := t1_0) (t0_1 := t1_1) (t0_2 := t1_2) (t0_3 := t1_3) (t0_4 := t1_4) (t0_5 := t1_5) (t0_6 := t1_6) (t0_7 := t1_7) (t0_8 := t1_8) (t0_9 := t1_9) (t1_0 := t2_0) (t2_0 := t3_0) (t3_0 := t4_0) (t3_1 := t4_1) (t4_0 := t5_0) (t5_0 := t6_0) (t5_1 := t6_1) (t6_0 := t7_0) (t7_0 := t8_0) (t7_1 := t8_1) (t8_0 := t9_0) (t9_0 := t10_0) (t9_1 := t10_1) (t10_0 := t11_0) (t11_0 := t12_0) (t11_1 := t12_1) (t12_0 := t13_0) (by omega) (by omega) h8
            refine v_owe h26 ?_
            generalize F_Rea_floatText (52 : Int32) (1075 : Int32) (2047 : Int32) t1_0 t1_1 t1_2 t1_3 t1_4 t1_5 t1_6 t1_7 t1_8 t1_9 t2_0 t3_0 t4_0 t4_1 t5_0 t6_0 t6_1 t7_0 t8_0 t8_1 t9_0 t10_0 t10_1 t11_0 t12_0 t12_1 t13_0 = p220
            unfold S_NH_read_c85 F_NH_read_c85
            by_cases g27 : (p220.1 : Int32) = (0 : Int32)
            ·
              rw [if_pos g27, if_pos g27]
              have g27i : p220.1.toInt = 0 := q_eqI g27
              refine ⟨trivial, ?_⟩
              first | exact ⟨hw, hd⟩ | exact ⟨hw3, hd⟩ | exact ⟨hw, hd3⟩
            ·
              rw [if_neg g27, if_neg g27]
              have g27i : p220.1.toInt ≠ 0 := q_neI g27
              have g28 : ((F_NH_canHave (1 : Int32)) = (0 : Int32)) := (by decide)
              rw [if_pos g28, if_pos g28]
              rw [if_pos g25, if_pos g25]
              refine v_cons (by omega) ?_
              refine v_cons (by omega) ?_
              refine ⟨trivial, ?_⟩
              first | exact ⟨hw, hd⟩ | exact ⟨hw3, hd⟩ | exact ⟨hw, hd3⟩
          ·
            rw [if_neg g25, if_neg g25]
            have g25i : x2.toInt ≠ 2 := q_neI g25
            have h29 := S_floatText (A := (23 : Int32)) (B := (150 : Int32)) (C := (255 : Int32)) (t0_0 := t1_0) (t0_1 := t1_1) (t0_2 := t1_2) (t0_3 := t1_3) (t0_4 := t1_4) (t0_5 := t1_5) (t0_6 := t1_6) (t0_7 := t1_7) (t0_8 := t1_8) (t0_9 := t1_9) (t1_0 := t2_0) (t2_0 := t3_0) (t3_0 := t4_0) (t3_1 := t4_1) (t4_0 := t5_0) (t5_0 := t6_0) (t5_1 := t6_1) (t6_0 := t7_0) (t7_0 := t8_0) (t7_1 := t8_1) (t8_0 := t9_0) (t9_0 := t10_0) (t9_1 := t10_1) (t10_0 := t11_0) (t11_0 := t12_0) (t11_1 := t12_1) (t12_0 := t13_0) (by omega) (by omega) h8
            refine v_owe h29 ?_
            generalize F_Rea_floatText (23 : Int32) (150 : Int32) (255 : Int32) t1_0 t1_1 t1_2 t1_3 t1_4 t1_5 t1_6 t1_7 t1_8 t1_9 t2_0 t3_0 t4_0 t4_1 t5_0 t6_0 t6_1 t7_0 t8_0 t8_1 t9_0 t10_0 t10_1 t11_0 t12_0 t12_1 t13_0 = p381
            unfold S_NH_read_c85_3 F_NH_read_c85_3
            by_cases g30 : (p381.1 : Int32) = (0 : Int32)
            ·
              rw [if_pos g30, if_pos g30]
              have g30i : p381.1.toInt = 0 := q_eqI g30
              refine ⟨trivial, ?_⟩
              first | exact ⟨hw, hd⟩ | exact ⟨hw3, hd⟩ | exact ⟨hw, hd3⟩
            ·
              rw [if_neg g30, if_neg g30]
              have g30i : p381.1.toInt ≠ 0 := q_neI g30
              have g31 : ((F_NH_canHave (1 : Int32)) = (0 : Int32)) := (by decide)
              rw [if_pos g31, if_pos g31]
              rw [if_neg g25, if_neg g25]
              refine v_cons (by omega) ?_
              refine v_cons (by omega) ?_
              refine ⟨trivial, ?_⟩
              first | exact ⟨hw, hd⟩ | exact ⟨hw3, hd⟩ | exact ⟨hw, hd3⟩
      ·
        rw [if_neg g15, if_neg g15]
        have g15i : x4.toInt ≠ 10 := q_neI g15
        unfold S_NH_read_J39 F_NH_read_J39
        have g32 : ¬ ((F_NH_need (0 : Int32)) = (0 : Int32)) := (by decide)
        rw [if_neg g32, if_neg g32]
        refine ⟨trivial, ?_⟩
        first | exact ⟨hw, hd⟩ | exact ⟨hw3, hd⟩ | exact ⟨hw, hd3⟩
  ·
    rw [if_neg g1, if_neg g1]
    refine ⟨trivial, ?_⟩
    first | exact ⟨hw, hd⟩ | exact ⟨hw3, hd⟩ | exact ⟨hw, hd3⟩
