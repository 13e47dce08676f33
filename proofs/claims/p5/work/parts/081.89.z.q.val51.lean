/-! what the calls keep: whole, wholeBy, powerModulo -/
theorem v_sgnP {R s n : Int32} {f : Nat → Int32} {v : Int} (h : bO R s n f v) (hs : ¬ F_Big_sign R s n ≤ 0) : 0 < v := by
  unfold F_Big_sign at hs
  have hn := h.nil
  by_cases h1 : s = 0
  · rw [if_pos h1] at hs
    exact absurd (by decide) hs
  rw [if_neg h1] at hs
  have h2 : v ≠ 0 := fun e => h1 (hn.mpr e)
  rcases h.sgn with ⟨e, k⟩ | ⟨e, k⟩
  · omega
  · rw [e, if_neg (by decide)] at hs
    exact absurd (by decide) hs
theorem v_sgnN {R s n : Int32} {f : Nat → Int32} {v : Int} (h : bO R s n f v) (hs : ¬ F_Big_sign R s n < 0) : 0 ≤ v := by
  unfold F_Big_sign at hs
  have hn := h.nil
  by_cases h1 : s = 0
  · have := hn.mp h1
    omega
  rw [if_neg h1] at hs
  rcases h.sgn with ⟨e, k⟩ | ⟨e, k⟩
  · exact k
  · rw [e, if_neg (by decide)] at hs
    exact absurd (by decide) hs
theorem v_modB {va vb : Int} {M : Nat} (h : 0 < vb) (hB : bB M vb) : bB M (if va.tmod vb < 0 then va.tmod vb + vb else va.tmod vb) := by
  have h1 : (va.tmod vb).natAbs < vb.natAbs := v_tmU (by omega)
  split
  · exact hB.le (by omega)
  · exact hB.le (by omega)
def Q_whole (vb : Int) (p : Int32 × Int32 × Int32 × (Nat → Int32) × Int32 × Int32 × (Nat → Int32) × Int32 × Int32 × (Nat → Int32) × Int32 × Int32 × (Nat → Int32) × Int32 × Int32 × (Nat → Int32) × Int32 × Int32 × (Nat → Int32) × Int32 × Int32 × (Nat → Int32) × Int32 × Int32 × (Nat → Int32) × Int32 × Int32 × (Nat → Int32)) : Prop := rW p.2.2.2.2.2.2.2.2.2.2.2.2.2.2.2.2.2.2.2.2.2.2.2.2.2.1 p.2.2.2.2.2.2.2.2.2.2.2.2.2.2.2.2.2.2.2.2.2.2.2.2.2.2.1 p.2.2.2.2.2.2.2.2.2.2.2.2.2.2.2.2.2.2.2.2.2.2.2.2.2.2.2 ∧ bO 68 p.2.2.2.2.2.2.2.2.2.2.2.2.2.2.2.2.2.2.2.2.2.2.1 p.2.2.2.2.2.2.2.2.2.2.2.2.2.2.2.2.2.2.2.2.2.2.2.1 p.2.2.2.2.2.2.2.2.2.2.2.2.2.2.2.2.2.2.2.2.2.2.2.2.1 vb
theorem T_whole {x2 : Int32} {x3 : Int32} {x4 : Int32} {x5 : Int32} {t0_0 : Int32} {t0_1 : Int32} {t1_0 : (Nat → Int32)} {t2_0 : Int32} {t2_1 : Int32} {t3_0 : (Nat → Int32)} {t4_0 : Int32} {t4_1 : Int32} {t5_0 : (Nat → Int32)} {t6_0 : Int32} {t6_1 : Int32} {t7_0 : (Nat → Int32)} {t8_0 : Int32} {t8_1 : Int32} {t9_0 : (Nat → Int32)} {t10_0 : Int32} {t10_1 : Int32} {t11_0 : (Nat → Int32)} {t12_0 : Int32} {t12_1 : Int32} {t13_0 : (Nat → Int32)} {t14_0 : Int32} {t14_1 : Int32} {t15_0 : (Nat → Int32)} {t16_0 : Int32} {t16_1 : Int32} {t17_0 : (Nat → Int32)} {t18_0 : Int32} {t18_1 : Int32} {t19_0 : (Nat → Int32)} {va vb : Int} (ha : bO 68 t14_0 t14_1 t15_0 va) (hA : bB 67 va) (hb : bO 68 t16_0 t16_1 t17_0 vb) (hB : bB 67 vb) (hw : rW t18_0 t18_1 t19_0) : (S_NH_whole x2 x3 x4 x5 t0_0 t0_1 t1_0 t2_0 t2_1 t3_0 t4_0 t4_1 t5_0 t6_0 t6_1 t7_0 t8_0 t8_1 t9_0 t10_0 t10_1 t11_0 t12_0 t12_1 t13_0 t14_0 t14_1 t15_0 t16_0 t16_1 t17_0 t18_0 t18_1 t19_0) ∧ Q_whole vb (F_NH_whole x2 x3 x4 x5 t0_0 t0_1 t1_0 t2_0 t2_1 t3_0 t4_0 t4_1 t5_0 t6_0 t6_1 t7_0 t8_0 t8_1 t9_0 t10_0 t10_1 t11_0 t12_0 t12_1 t13_0 t14_0 t14_1 t15_0 t16_0 t16_1 t17_0 t18_0 t18_1 t19_0) := by
  have e0 : (0 : Int32).toInt = 0 := rfl
  have e220 : (220 : Int32).toInt = 220 := rfl
  have e68 : (68 : Int32).toInt = 68 := rfl
  have sa : t14_0.toInt ≤ 68 := ha.2.2.2.1
  have sb : t16_0.toInt ≤ 68 := hb.2.2.2.1
  unfold S_NH_whole F_NH_whole
  by_cases g1 : x2 < (0 : Int32)
  ·
    rw [if_pos g1, if_pos g1]
    have g1i : x2.toInt < 0 := q_ltI g1
    unfold S_NH_whole_J36 F_NH_whole_J36
    unfold S_NH_whole_J37 F_NH_whole_J37
    have g2 : ¬ ((F_NH_need (0 : Int32)) = (0 : Int32)) := (by decide)
    rw [if_neg g2, if_neg g2]
    refine ⟨trivial, ?_⟩
    first | exact ⟨hw, hb⟩ | exact ⟨hw, hb2⟩ | exact ⟨hkw, hb⟩ | exact ⟨hkw, hb2⟩
  ·
    rw [if_neg g1, if_neg g1]
    have g1i : 0 ≤ x2.toInt := q_nltI g1
    by_cases g3 : (11 : Int32) < x2
    ·
      rw [if_pos g3, if_pos g3]
      have g3i : 11 < x2.toInt := q_ltI g3
      unfold S_NH_whole_J36 F_NH_whole_J36
      unfold S_NH_whole_J37 F_NH_whole_J37
      have g4 : ¬ ((F_NH_need (0 : Int32)) = (0 : Int32)) := (by decide)
      rw [if_neg g4, if_neg g4]
      refine ⟨trivial, ?_⟩
      first | exact ⟨hw, hb⟩ | exact ⟨hw, hb2⟩ | exact ⟨hkw, hb⟩ | exact ⟨hkw, hb2⟩
    ·
      rw [if_neg g3, if_neg g3]
      have g3i : x2.toInt ≤ 11 := q_nltI g3
      by_cases g5 : ((F_NH_isRegister x3) : Int32) = (0 : Int32)
      ·
        rw [if_pos g5, if_pos g5]
        unfold S_NH_whole_J36 F_NH_whole_J36
        unfold S_NH_whole_J37 F_NH_whole_J37
        have g6 : ¬ ((F_NH_need (0 : Int32)) = (0 : Int32)) := (by decide)
        rw [if_neg g6, if_neg g6]
        refine ⟨trivial, ?_⟩
        first | exact ⟨hw, hb⟩ | exact ⟨hw, hb2⟩ | exact ⟨hkw, hb⟩ | exact ⟨hkw, hb2⟩
      ·
        rw [if_neg g5, if_neg g5]
        have g5r := v_isReg g5
        by_cases g7 : ((F_NH_isRegister x4) : Int32) = (0 : Int32)
        ·
          rw [if_pos g7, if_pos g7]
          unfold S_NH_whole_J36 F_NH_whole_J36
          unfold S_NH_whole_J37 F_NH_whole_J37
          have g8 : ¬ ((F_NH_need (0 : Int32)) = (0 : Int32)) := (by decide)
          rw [if_neg g8, if_neg g8]
          refine ⟨trivial, ?_⟩
          first | exact ⟨hw, hb⟩ | exact ⟨hw, hb2⟩ | exact ⟨hkw, hb⟩ | exact ⟨hkw, hb2⟩
        ·
          rw [if_neg g7, if_neg g7]
          have g7r := v_isReg g7
          by_cases g9 : ((F_NH_isRegister x5) : Int32) = (0 : Int32)
          ·
            rw [if_pos g9, if_pos g9]
            unfold S_NH_whole_J36 F_NH_whole_J36
            unfold S_NH_whole_J37 F_NH_whole_J37
            have g10 : ¬ ((F_NH_need (0 : Int32)) = (0 : Int32)) := (by decide)
            rw [if_neg g10, if_neg g10]
            refine ⟨trivial, ?_⟩
            first | exact ⟨hw, hb⟩ | exact ⟨hw, hb2⟩ | exact ⟨hkw, hb⟩ | exact ⟨hkw, hb2⟩
          ·
            rw [if_neg g9, if_neg g9]
            have g9r := v_isReg g9
            unfold S_NH_whole_J37 F_NH_whole_J37
            have g11 : ((F_NH_need (1 : Int32)) = (0 : Int32)) := (by decide)
            rw [if_pos g11, if_pos g11]
            refine v_cons (by omega) ?_
            refine v_cons (by omega) ?_
            refine v_cons (by omega) ?_
            refine v_cons (by omega) ?_
            by_cases g12 : (2 : Int32) < x2
            ·
              rw [if_pos g12, if_pos g12]
              have g12i : 2 < x2.toInt := q_ltI g12
              by_cases g13 : (4 : Int32) < x2
              ·
                rw [if_pos g13, if_pos g13]
                have g13i : 4 < x2.toInt := q_ltI g13
                by_cases g14 : x2 = (5 : Int32)
                ·
                  rw [if_pos g14, if_pos g14]
                  have g14i : x2.toInt = 5 := q_eqI g14
                  by_cases g15 : ((F_Big_sign (68 : Int32) t16_0 t16_1) : Int32) ≤ (0 : Int32)
                  ·
                    rw [if_pos g15, if_pos g15]
                    unfold S_NH_whole_J139 F_NH_whole_J139
                    have g16 : ¬ ((F_NH_canHave (0 : Int32)) = (0 : Int32)) := (by decide)
                    rw [if_neg g16, if_neg g16]
                    refine ⟨trivial, ?_⟩
                    first | exact ⟨hw, hb⟩ | exact ⟨hw, hb2⟩ | exact ⟨hkw, hb⟩ | exact ⟨hkw, hb2⟩
                  ·
                    rw [if_neg g15, if_neg g15]
                    have hvs := v_sgnP hb g15
                    unfold S_NH_whole_J139 F_NH_whole_J139
                    have g17 : ((F_NH_canHave (1 : Int32)) = (0 : Int32)) := (by decide)
                    rw [if_pos g17, if_pos g17]
                    have h18 := T_modulo (R := (68 : Int32)) (R2 := (68 : Int32)) (R3 := (220 : Int32)) (t0_0 := t2_0) (t0_1 := t2_1) (t1_0 := t3_0) (t2_0 := t14_0) (t2_1 := t14_1) (t3_0 := t15_0) (t4_0 := t16_0) (t4_1 := t16_1) (t5_0 := t17_0) (t6_0 := t0_0) (t6_1 := t0_1) (t7_0 := t1_0) ha hb (by omega) hA (by decide) (by omega) (by decide)
                    refine v_owe h18.1 ?_
                    replace h18 := h18.2
                    generalize F_Mil_modulo (68 : Int32) (68 : Int32) (220 : Int32) t2_0 t2_1 t3_0 t14_0 t14_1 t15_0 t16_0 t16_1 t17_0 t0_0 t0_1 t1_0 = p771 at h18 ⊢
                    have hn := h18.2.2
                    have hb2 := h18.2.1
                    unfold S_NH_whole_c157 F_NH_whole_c157
                    have h19 := T_keepWhole (x2 := x5) (t0_0 := (p771.2.2.2.2.2.2.1 : Int32)) (t0_1 := (p771.2.2.2.2.2.2.2.1 : Int32)) (t1_0 := (p771.2.2.2.2.2.2.2.2 : (Nat → Int32))) (t2_0 := t18_0) (t2_1 := t18_1) (t3_0 := t19_0) hn (by first | exact hw2 | exact hw) (by first | assumption | omega | trivial | decide) (by first | assumption | omega | trivial | decide)
                    refine v_owe h19.1 ?_
                    replace h19 := h19.2
                    generalize F_NH_keepWhole x5 (p771.2.2.2.2.2.2.1 : Int32) (p771.2.2.2.2.2.2.2.1 : Int32) (p771.2.2.2.2.2.2.2.2 : (Nat → Int32)) t18_0 t18_1 t19_0 = p800 at h19 ⊢
                    have hkw := h19
                    unfold S_NH_whole_c237_12 F_NH_whole_c237_12
                    by_cases g20 : p800.1 = (0 : Int32)
                    ·
                      rw [if_pos g20, if_pos g20]
                      have g20i : p800.1.toInt = 0 := q_eqI g20
                      refine ⟨trivial, ?_⟩
                      first | exact ⟨hw, hb⟩ | exact ⟨hw, hb2⟩ | exact ⟨hkw, hb⟩ | exact ⟨hkw, hb2⟩
                    ·
                      rw [if_neg g20, if_neg g20]
                      have g20i : p800.1.toInt ≠ 0 := q_neI g20
                      refine ⟨trivial, ?_⟩
                      first | exact ⟨hw, hb⟩ | exact ⟨hw, hb2⟩ | exact ⟨hkw, hb⟩ | exact ⟨hkw, hb2⟩
                ·
                  rw [if_neg g14, if_neg g14]
                  have g14i : x2.toInt ≠ 5 := q_neI g14
                  by_cases g21 : x2 = (6 : Int32)
                  ·
                    rw [if_pos g21, if_pos g21]
                    have g21i : x2.toInt = 6 := q_eqI g21
                    have h22 := T_commonDivisor (M := 67) (R := (68 : Int32)) (R2 := (68 : Int32)) (t0_0 := t0_0) (t0_1 := t0_1) (t1_0 := t1_0) (t2_0 := t2_0) (t2_1 := t2_1) (t3_0 := t3_0) (t4_0 := t6_0) (t4_1 := t6_1) (t5_0 := t7_0) (t6_0 := t8_0) (t6_1 := t8_1) (t7_0 := t9_0) (t8_0 := t14_0) (t8_1 := t14_1) (t9_0 := t15_0) (t10_0 := t16_0) (t10_1 := t16_1) (t11_0 := t17_0) (by decide) ha hb trivial hA hB
                    refine v_owe h22.1 ?_
                    replace h22 := h22.2
                    generalize F_Mil_commonDivisor (68 : Int32) (68 : Int32) t0_0 t0_1 t1_0 t2_0 t2_1 t3_0 t6_0 t6_1 t7_0 t8_0 t8_1 t9_0 t14_0 t14_1 t15_0 t16_0 t16_1 t17_0 = p625 at h22 ⊢
                    obtain ⟨_, _, _, hn⟩ := h22.1
                    unfold S_NH_whole_c177 F_NH_whole_c177
                    have h23 := T_keepWhole (x2 := x5) (t0_0 := (p625.1 : Int32)) (t0_1 := (p625.2.1 : Int32)) (t1_0 := (p625.2.2.1 : (Nat → Int32))) (t2_0 := t18_0) (t2_1 := t18_1) (t3_0 := t19_0) hn (by first | exact hw2 | exact hw) (by first | assumption | omega | trivial | decide) (by first | assumption | omega | trivial | decide)
                    refine v_owe h23.1 ?_
                    replace h23 := h23.2
                    generalize F_NH_keepWhole x5 (p625.1 : Int32) (p625.2.1 : Int32) (p625.2.2.1 : (Nat → Int32)) t18_0 t18_1 t19_0 = p657 at h23 ⊢
                    have hkw := h23
                    unfold S_NH_whole_c237_9 F_NH_whole_c237_9
                    by_cases g24 : p657.1 = (0 : Int32)
                    ·
                      rw [if_pos g24, if_pos g24]
                      have g24i : p657.1.toInt = 0 := q_eqI g24
                      refine ⟨trivial, ?_⟩
                      first | exact ⟨hw, hb⟩ | exact ⟨hw, hb2⟩ | exact ⟨hkw, hb⟩ | exact ⟨hkw, hb2⟩
                    ·
                      rw [if_neg g24, if_neg g24]
                      have g24i : p657.1.toInt ≠ 0 := q_neI g24
                      refine ⟨trivial, ?_⟩
                      first | exact ⟨hw, hb⟩ | exact ⟨hw, hb2⟩ | exact ⟨hkw, hb⟩ | exact ⟨hkw, hb2⟩
                  ·
                    rw [if_neg g21, if_neg g21]
                    have g21i : x2.toInt ≠ 6 := q_neI g21
                    by_cases g25 : x2 = (7 : Int32)
                    ·
                      rw [if_pos g25, if_pos g25]
                      have g25i : x2.toInt = 7 := q_eqI g25
                      by_cases g26 : ((F_Big_sign (68 : Int32) t16_0 t16_1) : Int32) ≤ (0 : Int32)
                      ·
                        rw [if_pos g26, if_pos g26]
                        have g27 : ¬ ((F_NH_canHave (0 : Int32)) = (0 : Int32)) := (by decide)
                        rw [if_neg g27, if_neg g27]
                        refine ⟨trivial, ?_⟩
                        first | exact ⟨hw, hb⟩ | exact ⟨hw, hb2⟩ | exact ⟨hkw, hb⟩ | exact ⟨hkw, hb2⟩
                      ·
                        rw [if_neg g26, if_neg g26]
                        have hvs := v_sgnP hb g26
                        have g28 : ((F_NH_canHave (1 : Int32)) = (0 : Int32)) := (by decide)
                        rw [if_pos g28, if_pos g28]
                        have h29 := T_inverse (R := (68 : Int32)) (R2 := (68 : Int32)) (t0_0 := t0_0) (t0_1 := t0_1) (t1_0 := t1_0) (t2_0 := t2_0) (t2_1 := t2_1) (t3_0 := t3_0) (t4_0 := t4_0) (t4_1 := t4_1) (t5_0 := t5_0) (t6_0 := t6_0) (t6_1 := t6_1) (t7_0 := t7_0) (t8_0 := t8_0) (t8_1 := t8_1) (t9_0 := t9_0) (t10_0 := t10_0) (t10_1 := t10_1) (t11_0 := t11_0) (t12_0 := t12_0) (t12_1 := t12_1) (t13_0 := t13_0) (t14_0 := t14_0) (t14_1 := t14_1) (t15_0 := t15_0) (t16_0 := t16_0) (t16_1 := t16_1) (t17_0 := t17_0) ha hb hvs hA hB (by decide) trivial
                        refine v_owe h29.1 ?_
                        replace h29 := h29.2
                        generalize F_Mil_inverse (68 : Int32) (68 : Int32) t0_0 t0_1 t1_0 t2_0 t2_1 t3_0 t4_0 t4_1 t5_0 t6_0 t6_1 t7_0 t8_0 t8_1 t9_0 t10_0 t10_1 t11_0 t12_0 t12_1 t13_0 t14_0 t14_1 t15_0 t16_0 t16_1 t17_0 = p497 at h29 ⊢
                        obtain ⟨_, _, _, hn⟩ := h29.1
                        have hb2 := h29.2.2.2.2.2.2.2
                        unfold S_NH_whole_c213_6 F_NH_whole_c213_6
                        by_cases g30 : (F_NH_canHave (p497.1 : Int32)) = (0 : Int32)
                        ·
                          rw [if_pos g30, if_pos g30]
                          have h31 := T_keepWhole (x2 := x5) (t0_0 := (p497.2.1 : Int32)) (t0_1 := (p497.2.2.1 : Int32)) (t1_0 := (p497.2.2.2.1 : (Nat → Int32))) (t2_0 := t18_0) (t2_1 := t18_1) (t3_0 := t19_0) hn (by first | exact hw2 | exact hw) (by first | assumption | omega | trivial | decide) (by first | assumption | omega | trivial | decide)
                          refine v_owe h31.1 ?_
                          replace h31 := h31.2
                          generalize F_NH_keepWhole x5 (p497.2.1 : Int32) (p497.2.2.1 : Int32) (p497.2.2.2.1 : (Nat → Int32)) t18_0 t18_1 t19_0 = p551 at h31 ⊢
                          have hkw := h31
                          unfold S_NH_whole_c237_7 F_NH_whole_c237_7
                          by_cases g32 : p551.1 = (0 : Int32)
                          ·
                            rw [if_pos g32, if_pos g32]
                            have g32i : p551.1.toInt = 0 := q_eqI g32
                            refine ⟨trivial, ?_⟩
                            first | exact ⟨hw, hb⟩ | exact ⟨hw, hb2⟩ | exact ⟨hkw, hb⟩ | exact ⟨hkw, hb2⟩
                          ·
                            rw [if_neg g32, if_neg g32]
                            have g32i : p551.1.toInt ≠ 0 := q_neI g32
                            refine ⟨trivial, ?_⟩
                            first | exact ⟨hw, hb⟩ | exact ⟨hw, hb2⟩ | exact ⟨hkw, hb⟩ | exact ⟨hkw, hb2⟩
                        ·
                          rw [if_neg g30, if_neg g30]
                          refine ⟨trivial, ?_⟩
                          first | exact ⟨hw, hb⟩ | exact ⟨hw, hb2⟩ | exact ⟨hkw, hb⟩ | exact ⟨hkw, hb2⟩
                    ·
                      rw [if_neg g25, if_neg g25]
                      have g25i : x2.toInt ≠ 7 := q_neI g25
                      have h33 := T_mixBits (x2 := x2) (R := (68 : Int32)) (R2 := (68 : Int32)) (t0_0 := t0_0) (t0_1 := t0_1) (t1_0 := t1_0) (t2_0 := t14_0) (t2_1 := t14_1) (t3_0 := t15_0) (t4_0 := t16_0) (t4_1 := t16_1) (t5_0 := t17_0) ha hb (by omega) (by omega)
                      generalize F_Mil_mixBits x2 (68 : Int32) (68 : Int32) t0_0 t0_1 t1_0 t14_0 t14_1 t15_0 t16_0 t16_1 t17_0 = p154 at h33 ⊢
                      obtain ⟨_, hn⟩ := h33
                      unfold S_NH_whole_c231 F_NH_whole_c231
                      have h34 := T_keepWhole (x2 := x5) (t0_0 := (p154.1 : Int32)) (t0_1 := (p154.2.1 : Int32)) (t1_0 := (p154.2.2 : (Nat → Int32))) (t2_0 := t18_0) (t2_1 := t18_1) (t3_0 := t19_0) hn (by first | exact hw2 | exact hw) (by first | assumption | omega | trivial | decide) (by first | assumption | omega | trivial | decide)
                      refine v_owe h34.1 ?_
                      replace h34 := h34.2
                      generalize F_NH_keepWhole x5 (p154.1 : Int32) (p154.2.1 : Int32) (p154.2.2 : (Nat → Int32)) t18_0 t18_1 t19_0 = p177 at h34 ⊢
                      have hkw := h34
                      unfold S_NH_whole_c237 F_NH_whole_c237
                      by_cases g35 : p177.1 = (0 : Int32)
                      ·
                        rw [if_pos g35, if_pos g35]
                        have g35i : p177.1.toInt = 0 := q_eqI g35
                        refine ⟨trivial, ?_⟩
                        first | exact ⟨hw, hb⟩ | exact ⟨hw, hb2⟩ | exact ⟨hkw, hb⟩ | exact ⟨hkw, hb2⟩
                      ·
                        rw [if_neg g35, if_neg g35]
                        have g35i : p177.1.toInt ≠ 0 := q_neI g35
                        refine ⟨trivial, ?_⟩
                        first | exact ⟨hw, hb⟩ | exact ⟨hw, hb2⟩ | exact ⟨hkw, hb⟩ | exact ⟨hkw, hb2⟩
              ·
                rw [if_neg g13, if_neg g13]
                have g13i : x2.toInt ≤ 4 := q_nltI g13
                by_cases g36 : t16_0 ≤ (0 : Int32)
                ·
                  rw [if_pos g36, if_pos g36]
                  have g36i : t16_0.toInt ≤ 0 := q_leI g36
                  unfold S_NH_whole_J94 F_NH_whole_J94
                  have g37 : ¬ ((F_NH_canHave (0 : Int32)) = (0 : Int32)) := (by decide)
                  rw [if_neg g37, if_neg g37]
                  refine ⟨trivial, ?_⟩
                  first | exact ⟨hw, hb⟩ | exact ⟨hw, hb2⟩ | exact ⟨hkw, hb⟩ | exact ⟨hkw, hb2⟩
                ·
                  rw [if_neg g36, if_neg g36]
                  have g36i : 0 < t16_0.toInt := q_nleI g36
                  unfold S_NH_whole_J94 F_NH_whole_J94
                  have g38 : ((F_NH_canHave (1 : Int32)) = (0 : Int32)) := (by decide)
                  rw [if_pos g38, if_pos g38]
                  by_cases g39 : x2 = (3 : Int32)
                  ·
                    rw [if_pos g39, if_pos g39]
                    have g39i : x2.toInt = 3 := q_eqI g39
                    have h40 := T_quotientOrRest (x2 := (1 : Int32)) (R := (68 : Int32)) (R2 := (68 : Int32)) (t0_0 := t0_0) (t0_1 := t0_1) (t1_0 := t1_0) (t2_0 := t2_0) (t2_1 := t2_1) (t3_0 := t3_0) (t4_0 := t14_0) (t4_1 := t14_1) (t5_0 := t15_0) (t6_0 := t16_0) (t6_1 := t16_1) (t7_0 := t17_0) ha hb (hb.pos.mp (by omega)) (hA.mono (by decide))
                    refine v_owe h40.1 ?_
                    replace h40 := h40.2
                    generalize F_Mil_quotientOrRest (1 : Int32) (68 : Int32) (68 : Int32) t0_0 t0_1 t1_0 t2_0 t2_1 t3_0 t14_0 t14_1 t15_0 t16_0 t16_1 t17_0 = p1006 at h40 ⊢
                    have hn := h40.1
                    have hb2 := h40.2.2
                    unfold S_NH_whole_c115_16 F_NH_whole_c115_16
                    have h41 := T_keepWhole (x2 := x5) (t0_0 := (p1006.1 : Int32)) (t0_1 := (p1006.2.1 : Int32)) (t1_0 := (p1006.2.2.1 : (Nat → Int32))) (t2_0 := t18_0) (t2_1 := t18_1) (t3_0 := t19_0) hn (by first | exact hw2 | exact hw) (by first | assumption | omega | trivial | decide) (by first | assumption | omega | trivial | decide)
                    refine v_owe h41.1 ?_
                    replace h41 := h41.2
                    generalize F_NH_keepWhole x5 (p1006.1 : Int32) (p1006.2.1 : Int32) (p1006.2.2.1 : (Nat → Int32)) t18_0 t18_1 t19_0 = p1035 at h41 ⊢
                    have hkw := h41
                    unfold S_NH_whole_c237_17 F_NH_whole_c237_17
                    by_cases g42 : p1035.1 = (0 : Int32)
                    ·
                      rw [if_pos g42, if_pos g42]
                      have g42i : p1035.1.toInt = 0 := q_eqI g42
                      refine ⟨trivial, ?_⟩
                      first | exact ⟨hw, hb⟩ | exact ⟨hw, hb2⟩ | exact ⟨hkw, hb⟩ | exact ⟨hkw, hb2⟩
                    ·
                      rw [if_neg g42, if_neg g42]
                      have g42i : p1035.1.toInt ≠ 0 := q_neI g42
                      refine ⟨trivial, ?_⟩
                      first | exact ⟨hw, hb⟩ | exact ⟨hw, hb2⟩ | exact ⟨hkw, hb⟩ | exact ⟨hkw, hb2⟩
                  ·
                    rw [if_neg g39, if_neg g39]
                    have g39i : x2.toInt ≠ 3 := q_neI g39
                    have h43 := T_quotientOrRest (x2 := (0 : Int32)) (R := (68 : Int32)) (R2 := (68 : Int32)) (t0_0 := t0_0) (t0_1 := t0_1) (t1_0 := t1_0) (t2_0 := t2_0) (t2_1 := t2_1) (t3_0 := t3_0) (t4_0 := t14_0) (t4_1 := t14_1) (t5_0 := t15_0) (t6_0 := t16_0) (t6_1 := t16_1) (t7_0 := t17_0) ha hb (hb.pos.mp (by omega)) (hA.mono (by decide))
                    refine v_owe h43.1 ?_
                    replace h43 := h43.2
                    generalize F_Mil_quotientOrRest (0 : Int32) (68 : Int32) (68 : Int32) t0_0 t0_1 t1_0 t2_0 t2_1 t3_0 t14_0 t14_1 t15_0 t16_0 t16_1 t17_0 = p910 at h43 ⊢
                    have hn := h43.1
                    have hb2 := h43.2.2
                    unfold S_NH_whole_c115 F_NH_whole_c115
                    have h44 := T_keepWhole (x2 := x5) (t0_0 := (p910.1 : Int32)) (t0_1 := (p910.2.1 : Int32)) (t1_0 := (p910.2.2.1 : (Nat → Int32))) (t2_0 := t18_0) (t2_1 := t18_1) (t3_0 := t19_0) hn (by first | exact hw2 | exact hw) (by first | assumption | omega | trivial | decide) (by first | assumption | omega | trivial | decide)
                    refine v_owe h44.1 ?_
                    replace h44 := h44.2
                    generalize F_NH_keepWhole x5 (p910.1 : Int32) (p910.2.1 : Int32) (p910.2.2.1 : (Nat → Int32)) t18_0 t18_1 t19_0 = p939 at h44 ⊢
                    have hkw := h44
                    unfold S_NH_whole_c237_15 F_NH_whole_c237_15
                    by_cases g45 : p939.1 = (0 : Int32)
                    ·
                      rw [if_pos g45, if_pos g45]
                      have g45i : p939.1.toInt = 0 := q_eqI g45
                      refine ⟨trivial, ?_⟩
                      first | exact ⟨hw, hb⟩ | exact ⟨hw, hb2⟩ | exact ⟨hkw, hb⟩ | exact ⟨hkw, hb2⟩
                    ·
                      rw [if_neg g45, if_neg g45]
                      have g45i : p939.1.toInt ≠ 0 := q_neI g45
                      refine ⟨trivial, ?_⟩
                      first | exact ⟨hw, hb⟩ | exact ⟨hw, hb2⟩ | exact ⟨hkw, hb⟩ | exact ⟨hkw, hb2⟩
            ·
              rw [if_neg g12, if_neg g12]
              have g12i : x2.toInt ≤ 2 := q_nltI g12
              have h46 := T_addOrMultiply (x2 := x2) (R := (68 : Int32)) (R2 := (68 : Int32)) (t0_0 := t0_0) (t0_1 := t0_1) (t1_0 := t1_0) (t2_0 := t14_0) (t2_1 := t14_1) (t3_0 := t15_0) (t4_0 := t16_0) (t4_1 := t16_1) (t5_0 := t17_0) ha hb (by first | assumption | omega | trivial | decide)
              generalize F_Mil_addOrMultiply x2 (68 : Int32) (68 : Int32) t0_0 t0_1 t1_0 t14_0 t14_1 t15_0 t16_0 t16_1 t17_0 = p1084 at h46 ⊢
              have hn := h46
              unfold S_NH_whole_c70 F_NH_whole_c70
              have h47 := T_keepWhole (x2 := x5) (t0_0 := (p1084.1 : Int32)) (t0_1 := (p1084.2.1 : Int32)) (t1_0 := (p1084.2.2 : (Nat → Int32))) (t2_0 := t18_0) (t2_1 := t18_1) (t3_0 := t19_0) hn (by first | exact hw2 | exact hw) (by first | assumption | omega | trivial | decide) (by first | assumption | omega | trivial | decide)
              refine v_owe h47.1 ?_
              replace h47 := h47.2
              generalize F_NH_keepWhole x5 (p1084.1 : Int32) (p1084.2.1 : Int32) (p1084.2.2 : (Nat → Int32)) t18_0 t18_1 t19_0 = p1107 at h47 ⊢
              have hkw := h47
              unfold S_NH_whole_c237_19 F_NH_whole_c237_19
              by_cases g48 : p1107.1 = (0 : Int32)
              ·
                rw [if_pos g48, if_pos g48]
                have g48i : p1107.1.toInt = 0 := q_eqI g48
                refine ⟨trivial, ?_⟩
                first | exact ⟨hw, hb⟩ | exact ⟨hw, hb2⟩ | exact ⟨hkw, hb⟩ | exact ⟨hkw, hb2⟩
              ·
                rw [if_neg g48, if_neg g48]
                have g48i : p1107.1.toInt ≠ 0 := q_neI g48
                refine ⟨trivial, ?_⟩
                first | exact ⟨hw, hb⟩ | exact ⟨hw, hb2⟩ | exact ⟨hkw, hb⟩ | exact ⟨hkw, hb2⟩
def Q_whole_ab (vb : Int) (p : Int32 × Int32 × Int32 × (Nat → Int32) × Int32 × Int32 × (Nat → Int32) × Int32 × Int32 × (Nat → Int32) × Int32 × Int32 × (Nat → Int32) × Int32 × Int32 × (Nat → Int32) × Int32 × Int32 × (Nat → Int32) × Int32 × Int32 × (Nat → Int32) × Int32 × Int32 × (Nat → Int32) × Int32 × Int32 × (Nat → Int32)) : Prop := rW p.2.2.2.2.2.2.2.2.2.2.2.2.2.2.2.2.2.2.2.2.2.2.2.2.2.1 p.2.2.2.2.2.2.2.2.2.2.2.2.2.2.2.2.2.2.2.2.2.2.2.2.2.2.1 p.2.2.2.2.2.2.2.2.2.2.2.2.2.2.2.2.2.2.2.2.2.2.2.2.2.2.2 ∧ bO 68 p.2.2.2.2.2.2.2.2.2.2.2.2.2.2.2.2.2.2.2.2.2.2.1 p.2.2.2.2.2.2.2.2.2.2.2.2.2.2.2.2.2.2.2.2.2.2.2.1 p.2.2.2.2.2.2.2.2.2.2.2.2.2.2.2.2.2.2.2.2.2.2.2.2.1 vb
theorem T_whole_ab {x2 : Int32} {x3 : Int32} {x4 : Int32} {x5 : Int32} {t0_0 : Int32} {t0_1 : Int32} {t1_0 : (Nat → Int32)} {t2_0 : Int32} {t2_1 : Int32} {t3_0 : (Nat → Int32)} {t4_0 : Int32} {t4_1 : Int32} {t5_0 : (Nat → Int32)} {t6_0 : Int32} {t6_1 : Int32} {t7_0 : (Nat → Int32)} {t8_0 : Int32} {t8_1 : Int32} {t9_0 : (Nat → Int32)} {t10_0 : Int32} {t10_1 : Int32} {t11_0 : (Nat → Int32)} {t12_0 : Int32} {t12_1 : Int32} {t13_0 : (Nat → Int32)} {t14_0 : Int32} {t14_1 : Int32} {t15_0 : (Nat → Int32)} {t16_0 : Int32} {t16_1 : Int32} {t17_0 : (Nat → Int32)} {vb : Int} (hb : bO 68 t14_0 t14_1 t15_0 vb) (hB : bB 67 vb) (hw : rW t16_0 t16_1 t17_0) : (S_NH_whole_ab x2 x3 x4 x5 t0_0 t0_1 t1_0 t2_0 t2_1 t3_0 t4_0 t4_1 t5_0 t6_0 t6_1 t7_0 t8_0 t8_1 t9_0 t10_0 t10_1 t11_0 t12_0 t12_1 t13_0 t14_0 t14_1 t15_0 t16_0 t16_1 t17_0) ∧ Q_whole_ab vb (F_NH_whole_ab x2 x3 x4 x5 t0_0 t0_1 t1_0 t2_0 t2_1 t3_0 t4_0 t4_1 t5_0 t6_0 t6_1 t7_0 t8_0 t8_1 t9_0 t10_0 t10_1 t11_0 t12_0 t12_1 t13_0 t14_0 t14_1 t15_0 t16_0 t16_1 t17_0) := by
  have e0 : (0 : Int32).toInt = 0 := rfl
  have e220 : (220 : Int32).toInt = 220 := rfl
  have e68 : (68 : Int32).toInt = 68 := rfl
  have sa : t14_0.toInt ≤ 68 := hb.2.2.2.1
  have sb : t14_0.toInt ≤ 68 := hb.2.2.2.1
  unfold S_NH_whole_ab F_NH_whole_ab
  by_cases g1 : x2 < (0 : Int32)
  ·
    rw [if_pos g1, if_pos g1]
    have g1i : x2.toInt < 0 := q_ltI g1
    unfold S_NH_whole_ab_J36 F_NH_whole_ab_J36
    unfold S_NH_whole_ab_J37 F_NH_whole_ab_J37
    have g2 : ¬ ((F_NH_need (0 : Int32)) = (0 : Int32)) := (by decide)
    rw [if_neg g2, if_neg g2]
    refine ⟨trivial, ?_⟩
    first | exact ⟨hw, hb⟩ | exact ⟨hw, hb2⟩ | exact ⟨hkw, hb⟩ | exact ⟨hkw, hb2⟩
  ·
    rw [if_neg g1, if_neg g1]
    have g1i : 0 ≤ x2.toInt := q_nltI g1
    by_cases g3 : (11 : Int32) < x2
    ·
      rw [if_pos g3, if_pos g3]
      have g3i : 11 < x2.toInt := q_ltI g3
      unfold S_NH_whole_ab_J36 F_NH_whole_ab_J36
      unfold S_NH_whole_ab_J37 F_NH_whole_ab_J37
      have g4 : ¬ ((F_NH_need (0 : Int32)) = (0 : Int32)) := (by decide)
      rw [if_neg g4, if_neg g4]
      refine ⟨trivial, ?_⟩
      first | exact ⟨hw, hb⟩ | exact ⟨hw, hb2⟩ | exact ⟨hkw, hb⟩ | exact ⟨hkw, hb2⟩
    ·
      rw [if_neg g3, if_neg g3]
      have g3i : x2.toInt ≤ 11 := q_nltI g3
      by_cases g5 : ((F_NH_isRegister x3) : Int32) = (0 : Int32)
      ·
        rw [if_pos g5, if_pos g5]
        unfold S_NH_whole_ab_J36 F_NH_whole_ab_J36
        unfold S_NH_whole_ab_J37 F_NH_whole_ab_J37
        have g6 : ¬ ((F_NH_need (0 : Int32)) = (0 : Int32)) := (by decide)
        rw [if_neg g6, if_neg g6]
        refine ⟨trivial, ?_⟩
        first | exact ⟨hw, hb⟩ | exact ⟨hw, hb2⟩ | exact ⟨hkw, hb⟩ | exact ⟨hkw, hb2⟩
      ·
        rw [if_neg g5, if_neg g5]
        have g5r := v_isReg g5
        by_cases g7 : ((F_NH_isRegister x4) : Int32) = (0 : Int32)
        ·
          rw [if_pos g7, if_pos g7]
          unfold S_NH_whole_ab_J36 F_NH_whole_ab_J36
          unfold S_NH_whole_ab_J37 F_NH_whole_ab_J37
          have g8 : ¬ ((F_NH_need (0 : Int32)) = (0 : Int32)) := (by decide)
          rw [if_neg g8, if_neg g8]
          refine ⟨trivial, ?_⟩
          first | exact ⟨hw, hb⟩ | exact ⟨hw, hb2⟩ | exact ⟨hkw, hb⟩ | exact ⟨hkw, hb2⟩
        ·
          rw [if_neg g7, if_neg g7]
          have g7r := v_isReg g7
          by_cases g9 : ((F_NH_isRegister x5) : Int32) = (0 : Int32)
          ·
            rw [if_pos g9, if_pos g9]
            unfold S_NH_whole_ab_J36 F_NH_whole_ab_J36
            unfold S_NH_whole_ab_J37 F_NH_whole_ab_J37
            have g10 : ¬ ((F_NH_need (0 : Int32)) = (0 : Int32)) := (by decide)
            rw [if_neg g10, if_neg g10]
            refine ⟨trivial, ?_⟩
            first | exact ⟨hw, hb⟩ | exact ⟨hw, hb2⟩ | exact ⟨hkw, hb⟩ | exact ⟨hkw, hb2⟩
          ·
            rw [if_neg g9, if_neg g9]
            have g9r := v_isReg g9
            unfold S_NH_whole_ab_J37 F_NH_whole_ab_J37
            have g11 : ((F_NH_need (1 : Int32)) = (0 : Int32)) := (by decide)
            rw [if_pos g11, if_pos g11]
            refine v_cons (by omega) ?_
            refine v_cons (by omega) ?_
            refine v_cons (by omega) ?_
            refine v_cons (by omega) ?_
            by_cases g12 : (2 : Int32) < x2
            ·
              rw [if_pos g12, if_pos g12]
              have g12i : 2 < x2.toInt := q_ltI g12
              by_cases g13 : (4 : Int32) < x2
              ·
                rw [if_pos g13, if_pos g13]
                have g13i : 4 < x2.toInt := q_ltI g13
                by_cases g14 : x2 = (5 : Int32)
                ·
                  rw [if_pos g14, if_pos g14]
                  have g14i : x2.toInt = 5 := q_eqI g14
                  by_cases g15 : ((F_Big_sign (68 : Int32) t14_0 t14_1) : Int32) ≤ (0 : Int32)
                  ·
                    rw [if_pos g15, if_pos g15]
                    unfold S_NH_whole_ab_J139 F_NH_whole_ab_J139
                    have g16 : ¬ ((F_NH_canHave (0 : Int32)) = (0 : Int32)) := (by decide)
                    rw [if_neg g16, if_neg g16]
                    refine ⟨trivial, ?_⟩
                    first | exact ⟨hw, hb⟩ | exact ⟨hw, hb2⟩ | exact ⟨hkw, hb⟩ | exact ⟨hkw, hb2⟩
                  ·
                    rw [if_neg g15, if_neg g15]
                    have hvs := v_sgnP hb g15
                    unfold S_NH_whole_ab_J139 F_NH_whole_ab_J139
                    have g17 : ((F_NH_canHave (1 : Int32)) = (0 : Int32)) := (by decide)
                    rw [if_pos g17, if_pos g17]
                    have h18 := T_modulo_a (R2 := (68 : Int32)) (R4 := (220 : Int32)) (t0_0 := t2_0) (t0_1 := t2_1) (t1_0 := t3_0) (t2_0 := t14_0) (t2_1 := t14_1) (t3_0 := t15_0) (t4_0 := t0_0) (t4_1 := t0_1) (t5_0 := t1_0) hb (by omega) hB (by decide) (by decide)
                    refine v_owe h18.1 ?_
                    replace h18 := h18.2
                    generalize F_Mil_modulo_a (68 : Int32) (220 : Int32) t2_0 t2_1 t3_0 t14_0 t14_1 t15_0 t0_0 t0_1 t1_0 = p753 at h18 ⊢
                    have hn := h18.2.2
                    have hb2 := h18.2.1
                    unfold S_NH_whole_ab_c157 F_NH_whole_ab_c157
                    have h19 := T_keepWhole (x2 := x5) (t0_0 := (p753.2.2.2.2.2.2.1 : Int32)) (t0_1 := (p753.2.2.2.2.2.2.2.1 : Int32)) (t1_0 := (p753.2.2.2.2.2.2.2.2 : (Nat → Int32))) (t2_0 := t16_0) (t2_1 := t16_1) (t3_0 := t17_0) hn (by first | exact hw2 | exact hw) (by first | assumption | omega | trivial | decide) (by first | assumption | omega | trivial | decide)
                    refine v_owe h19.1 ?_
                    replace h19 := h19.2
                    generalize F_NH_keepWhole x5 (p753.2.2.2.2.2.2.1 : Int32) (p753.2.2.2.2.2.2.2.1 : Int32) (p753.2.2.2.2.2.2.2.2 : (Nat → Int32)) t16_0 t16_1 t17_0 = p782 at h19 ⊢
                    have hkw := h19
                    unfold S_NH_whole_ab_c237_12 F_NH_whole_ab_c237_12
                    by_cases g20 : p782.1 = (0 : Int32)
                    ·
                      rw [if_pos g20, if_pos g20]
                      have g20i : p782.1.toInt = 0 := q_eqI g20
                      refine ⟨trivial, ?_⟩
                      first | exact ⟨hw, hb⟩ | exact ⟨hw, hb2⟩ | exact ⟨hkw, hb⟩ | exact ⟨hkw, hb2⟩
                    ·
                      rw [if_neg g20, if_neg g20]
                      have g20i : p782.1.toInt ≠ 0 := q_neI g20
                      refine ⟨trivial, ?_⟩
                      first | exact ⟨hw, hb⟩ | exact ⟨hw, hb2⟩ | exact ⟨hkw, hb⟩ | exact ⟨hkw, hb2⟩
                ·
                  rw [if_neg g14, if_neg g14]
                  have g14i : x2.toInt ≠ 5 := q_neI g14
                  by_cases g21 : x2 = (6 : Int32)
                  ·
                    rw [if_pos g21, if_pos g21]
                    have g21i : x2.toInt = 6 := q_eqI g21
                    have h22 := T_commonDivisor (M := 67) (R := (68 : Int32)) (R2 := (68 : Int32)) (t0_0 := t0_0) (t0_1 := t0_1) (t1_0 := t1_0) (t2_0 := t2_0) (t2_1 := t2_1) (t3_0 := t3_0) (t4_0 := t6_0) (t4_1 := t6_1) (t5_0 := t7_0) (t6_0 := t8_0) (t6_1 := t8_1) (t7_0 := t9_0) (t8_0 := t14_0) (t8_1 := t14_1) (t9_0 := t15_0) (t10_0 := t14_0) (t10_1 := t14_1) (t11_0 := t15_0) (by decide) hb hb trivial hB hB
                    refine v_owe h22.1 ?_
                    replace h22 := h22.2
                    generalize F_Mil_commonDivisor (68 : Int32) (68 : Int32) t0_0 t0_1 t1_0 t2_0 t2_1 t3_0 t6_0 t6_1 t7_0 t8_0 t8_1 t9_0 t14_0 t14_1 t15_0 t14_0 t14_1 t15_0 = p609 at h22 ⊢
                    obtain ⟨_, _, _, hn⟩ := h22.1
                    unfold S_NH_whole_ab_c177 F_NH_whole_ab_c177
                    have h23 := T_keepWhole (x2 := x5) (t0_0 := (p609.1 : Int32)) (t0_1 := (p609.2.1 : Int32)) (t1_0 := (p609.2.2.1 : (Nat → Int32))) (t2_0 := t16_0) (t2_1 := t16_1) (t3_0 := t17_0) hn (by first | exact hw2 | exact hw) (by first | assumption | omega | trivial | decide) (by first | assumption | omega | trivial | decide)
                    refine v_owe h23.1 ?_
                    replace h23 := h23.2
                    generalize F_NH_keepWhole x5 (p609.1 : Int32) (p609.2.1 : Int32) (p609.2.2.1 : (Nat → Int32)) t16_0 t16_1 t17_0 = p641 at h23 ⊢
                    have hkw := h23
                    unfold S_NH_whole_ab_c237_9 F_NH_whole_ab_c237_9
                    by_cases g24 : p641.1 = (0 : Int32)
                    ·
                      rw [if_pos g24, if_pos g24]
                      have g24i : p641.1.toInt = 0 := q_eqI g24
                      refine ⟨trivial, ?_⟩
                      first | exact ⟨hw, hb⟩ | exact ⟨hw, hb2⟩ | exact ⟨hkw, hb⟩ | exact ⟨hkw, hb2⟩
                    ·
                      rw [if_neg g24, if_neg g24]
                      have g24i : p641.1.toInt ≠ 0 := q_neI g24
                      refine ⟨trivial, ?_⟩
                      first | exact ⟨hw, hb⟩ | exact ⟨hw, hb2⟩ | exact ⟨hkw, hb⟩ | exact ⟨hkw, hb2⟩
                  ·
                    rw [if_neg g21, if_neg g21]
                    have g21i : x2.toInt ≠ 6 := q_neI g21
                    by_cases g25 : x2 = (7 : Int32)
                    ·
                      rw [if_pos g25, if_pos g25]
                      have g25i : x2.toInt = 7 := q_eqI g25
                      by_cases g26 : ((F_Big_sign (68 : Int32) t14_0 t14_1) : Int32) ≤ (0 : Int32)
                      ·
                        rw [if_pos g26, if_pos g26]
                        have g27 : ¬ ((F_NH_canHave (0 : Int32)) = (0 : Int32)) := (by decide)
                        rw [if_neg g27, if_neg g27]
                        refine ⟨trivial, ?_⟩
                        first | exact ⟨hw, hb⟩ | exact ⟨hw, hb2⟩ | exact ⟨hkw, hb⟩ | exact ⟨hkw, hb2⟩
                      ·
                        rw [if_neg g26, if_neg g26]
                        have hvs := v_sgnP hb g26
                        have g28 : ((F_NH_canHave (1 : Int32)) = (0 : Int32)) := (by decide)
                        rw [if_pos g28, if_pos g28]
                        have h29 := T_inverse_a (R2 := (68 : Int32)) (t0_0 := t0_0) (t0_1 := t0_1) (t1_0 := t1_0) (t2_0 := t2_0) (t2_1 := t2_1) (t3_0 := t3_0) (t4_0 := t4_0) (t4_1 := t4_1) (t5_0 := t5_0) (t6_0 := t6_0) (t6_1 := t6_1) (t7_0 := t7_0) (t8_0 := t8_0) (t8_1 := t8_1) (t9_0 := t9_0) (t10_0 := t10_0) (t10_1 := t10_1) (t11_0 := t11_0) (t12_0 := t12_0) (t12_1 := t12_1) (t13_0 := t13_0) (t14_0 := t14_0) (t14_1 := t14_1) (t15_0 := t15_0) hb hvs hB (by decide) trivial
                        refine v_owe h29.1 ?_
                        replace h29 := h29.2
                        generalize F_Mil_inverse_a (68 : Int32) t0_0 t0_1 t1_0 t2_0 t2_1 t3_0 t4_0 t4_1 t5_0 t6_0 t6_1 t7_0 t8_0 t8_1 t9_0 t10_0 t10_1 t11_0 t12_0 t12_1 t13_0 t14_0 t14_1 t15_0 = p481 at h29 ⊢
                        obtain ⟨_, _, _, hn⟩ := h29.1
                        have hb2 := h29.2.2.2.2.2.2.2
                        unfold S_NH_whole_ab_c213_6 F_NH_whole_ab_c213_6
                        by_cases g30 : (F_NH_canHave (p481.1 : Int32)) = (0 : Int32)
                        ·
                          rw [if_pos g30, if_pos g30]
                          have h31 := T_keepWhole (x2 := x5) (t0_0 := (p481.2.1 : Int32)) (t0_1 := (p481.2.2.1 : Int32)) (t1_0 := (p481.2.2.2.1 : (Nat → Int32))) (t2_0 := t16_0) (t2_1 := t16_1) (t3_0 := t17_0) hn (by first | exact hw2 | exact hw) (by first | assumption | omega | trivial | decide) (by first | assumption | omega | trivial | decide)
                          refine v_owe h31.1 ?_
                          replace h31 := h31.2
                          generalize F_NH_keepWhole x5 (p481.2.1 : Int32) (p481.2.2.1 : Int32) (p481.2.2.2.1 : (Nat → Int32)) t16_0 t16_1 t17_0 = p535 at h31 ⊢
                          have hkw := h31
                          unfold S_NH_whole_ab_c237_7 F_NH_whole_ab_c237_7
                          by_cases g32 : p535.1 = (0 : Int32)
                          ·
                            rw [if_pos g32, if_pos g32]
                            have g32i : p535.1.toInt = 0 := q_eqI g32
                            refine ⟨trivial, ?_⟩
                            first | exact ⟨hw, hb⟩ | exact ⟨hw, hb2⟩ | exact ⟨hkw, hb⟩ | exact ⟨hkw, hb2⟩
                          ·
                            rw [if_neg g32, if_neg g32]
                            have g32i : p535.1.toInt ≠ 0 := q_neI g32
                            refine ⟨trivial, ?_⟩
                            first | exact ⟨hw, hb⟩ | exact ⟨hw, hb2⟩ | exact ⟨hkw, hb⟩ | exact ⟨hkw, hb2⟩
                        ·
                          rw [if_neg g30, if_neg g30]
                          refine ⟨trivial, ?_⟩
                          first | exact ⟨hw, hb⟩ | exact ⟨hw, hb2⟩ | exact ⟨hkw, hb⟩ | exact ⟨hkw, hb2⟩
                    ·
                      rw [if_neg g25, if_neg g25]
                      have g25i : x2.toInt ≠ 7 := q_neI g25
                      have h33 := T_mixBits (x2 := x2) (R := (68 : Int32)) (R2 := (68 : Int32)) (t0_0 := t0_0) (t0_1 := t0_1) (t1_0 := t1_0) (t2_0 := t14_0) (t2_1 := t14_1) (t3_0 := t15_0) (t4_0 := t14_0) (t4_1 := t14_1) (t5_0 := t15_0) hb hb (by omega) (by omega)
                      generalize F_Mil_mixBits x2 (68 : Int32) (68 : Int32) t0_0 t0_1 t1_0 t14_0 t14_1 t15_0 t14_0 t14_1 t15_0 = p144 at h33 ⊢
                      obtain ⟨_, hn⟩ := h33
                      unfold S_NH_whole_ab_c231 F_NH_whole_ab_c231
                      have h34 := T_keepWhole (x2 := x5) (t0_0 := (p144.1 : Int32)) (t0_1 := (p144.2.1 : Int32)) (t1_0 := (p144.2.2 : (Nat → Int32))) (t2_0 := t16_0) (t2_1 := t16_1) (t3_0 := t17_0) hn (by first | exact hw2 | exact hw) (by first | assumption | omega | trivial | decide) (by first | assumption | omega | trivial | decide)
                      refine v_owe h34.1 ?_
                      replace h34 := h34.2
                      generalize F_NH_keepWhole x5 (p144.1 : Int32) (p144.2.1 : Int32) (p144.2.2 : (Nat → Int32)) t16_0 t16_1 t17_0 = p167 at h34 ⊢
                      have hkw := h34
                      unfold S_NH_whole_ab_c237 F_NH_whole_ab_c237
                      by_cases g35 : p167.1 = (0 : Int32)
                      ·
                        rw [if_pos g35, if_pos g35]
                        have g35i : p167.1.toInt = 0 := q_eqI g35
                        refine ⟨trivial, ?_⟩
                        first | exact ⟨hw, hb⟩ | exact ⟨hw, hb2⟩ | exact ⟨hkw, hb⟩ | exact ⟨hkw, hb2⟩
                      ·
                        rw [if_neg g35, if_neg g35]
                        have g35i : p167.1.toInt ≠ 0 := q_neI g35
                        refine ⟨trivial, ?_⟩
                        first | exact ⟨hw, hb⟩ | exact ⟨hw, hb2⟩ | exact ⟨hkw, hb⟩ | exact ⟨hkw, hb2⟩
              ·
                rw [if_neg g13, if_neg g13]
                have g13i : x2.toInt ≤ 4 := q_nltI g13
                by_cases g36 : t14_0 ≤ (0 : Int32)
                ·
                  rw [if_pos g36, if_pos g36]
                  have g36i : t14_0.toInt ≤ 0 := q_leI g36
                  unfold S_NH_whole_ab_J94 F_NH_whole_ab_J94
                  have g37 : ¬ ((F_NH_canHave (0 : Int32)) = (0 : Int32)) := (by decide)
                  rw [if_neg g37, if_neg g37]
                  refine ⟨trivial, ?_⟩
                  first | exact ⟨hw, hb⟩ | exact ⟨hw, hb2⟩ | exact ⟨hkw, hb⟩ | exact ⟨hkw, hb2⟩
                ·
                  rw [if_neg g36, if_neg g36]
                  have g36i : 0 < t14_0.toInt := q_nleI g36
                  unfold S_NH_whole_ab_J94 F_NH_whole_ab_J94
                  have g38 : ((F_NH_canHave (1 : Int32)) = (0 : Int32)) := (by decide)
                  rw [if_pos g38, if_pos g38]
                  by_cases g39 : x2 = (3 : Int32)
                  ·
                    rw [if_pos g39, if_pos g39]
                    have g39i : x2.toInt = 3 := q_eqI g39
                    have h40 := T_quotientOrRest_a (x2 := (1 : Int32)) (R3 := (68 : Int32)) (t0_0 := t0_0) (t0_1 := t0_1) (t1_0 := t1_0) (t2_0 := t2_0) (t2_1 := t2_1) (t3_0 := t3_0) (t4_0 := t14_0) (t4_1 := t14_1) (t5_0 := t15_0) hb (hb.pos.mp (by omega)) (hB.mono (by decide))
                    refine v_owe h40.1 ?_
                    replace h40 := h40.2
                    generalize F_Mil_quotientOrRest_a (1 : Int32) (68 : Int32) t0_0 t0_1 t1_0 t2_0 t2_1 t3_0 t14_0 t14_1 t15_0 = p986 at h40 ⊢
                    have hn := h40.1
                    have hb2 := h40.2.2
                    unfold S_NH_whole_ab_c115_16 F_NH_whole_ab_c115_16
                    have h41 := T_keepWhole (x2 := x5) (t0_0 := (p986.1 : Int32)) (t0_1 := (p986.2.1 : Int32)) (t1_0 := (p986.2.2.1 : (Nat → Int32))) (t2_0 := t16_0) (t2_1 := t16_1) (t3_0 := t17_0) hn (by first | exact hw2 | exact hw) (by first | assumption | omega | trivial | decide) (by first | assumption | omega | trivial | decide)
                    refine v_owe h41.1 ?_
                    replace h41 := h41.2
                    generalize F_NH_keepWhole x5 (p986.1 : Int32) (p986.2.1 : Int32) (p986.2.2.1 : (Nat → Int32)) t16_0 t16_1 t17_0 = p1015 at h41 ⊢
                    have hkw := h41
                    unfold S_NH_whole_ab_c237_17 F_NH_whole_ab_c237_17
                    by_cases g42 : p1015.1 = (0 : Int32)
                    ·
                      rw [if_pos g42, if_pos g42]
                      have g42i : p1015.1.toInt = 0 := q_eqI g42
                      refine ⟨trivial, ?_⟩
                      first | exact ⟨hw, hb⟩ | exact ⟨hw, hb2⟩ | exact ⟨hkw, hb⟩ | exact ⟨hkw, hb2⟩
                    ·
                      rw [if_neg g42, if_neg g42]
                      have g42i : p1015.1.toInt ≠ 0 := q_neI g42
                      refine ⟨trivial, ?_⟩
                      first | exact ⟨hw, hb⟩ | exact ⟨hw, hb2⟩ | exact ⟨hkw, hb⟩ | exact ⟨hkw, hb2⟩
                  ·
                    rw [if_neg g39, if_neg g39]
                    have g39i : x2.toInt ≠ 3 := q_neI g39
                    have h43 := T_quotientOrRest_a (x2 := (0 : Int32)) (R3 := (68 : Int32)) (t0_0 := t0_0) (t0_1 := t0_1) (t1_0 := t1_0) (t2_0 := t2_0) (t2_1 := t2_1) (t3_0 := t3_0) (t4_0 := t14_0) (t4_1 := t14_1) (t5_0 := t15_0) hb (hb.pos.mp (by omega)) (hB.mono (by decide))
                    refine v_owe h43.1 ?_
                    replace h43 := h43.2
                    generalize F_Mil_quotientOrRest_a (0 : Int32) (68 : Int32) t0_0 t0_1 t1_0 t2_0 t2_1 t3_0 t14_0 t14_1 t15_0 = p890 at h43 ⊢
                    have hn := h43.1
                    have hb2 := h43.2.2
                    unfold S_NH_whole_ab_c115 F_NH_whole_ab_c115
                    have h44 := T_keepWhole (x2 := x5) (t0_0 := (p890.1 : Int32)) (t0_1 := (p890.2.1 : Int32)) (t1_0 := (p890.2.2.1 : (Nat → Int32))) (t2_0 := t16_0) (t2_1 := t16_1) (t3_0 := t17_0) hn (by first | exact hw2 | exact hw) (by first | assumption | omega | trivial | decide) (by first | assumption | omega | trivial | decide)
                    refine v_owe h44.1 ?_
                    replace h44 := h44.2
                    generalize F_NH_keepWhole x5 (p890.1 : Int32) (p890.2.1 : Int32) (p890.2.2.1 : (Nat → Int32)) t16_0 t16_1 t17_0 = p919 at h44 ⊢
                    have hkw := h44
                    unfold S_NH_whole_ab_c237_15 F_NH_whole_ab_c237_15
                    by_cases g45 : p919.1 = (0 : Int32)
                    ·
                      rw [if_pos g45, if_pos g45]
                      have g45i : p919.1.toInt = 0 := q_eqI g45
                      refine ⟨trivial, ?_⟩
                      first | exact ⟨hw, hb⟩ | exact ⟨hw, hb2⟩ | exact ⟨hkw, hb⟩ | exact ⟨hkw, hb2⟩
                    ·
                      rw [if_neg g45, if_neg g45]
                      have g45i : p919.1.toInt ≠ 0 := q_neI g45
                      refine ⟨trivial, ?_⟩
                      first | exact ⟨hw, hb⟩ | exact ⟨hw, hb2⟩ | exact ⟨hkw, hb⟩ | exact ⟨hkw, hb2⟩
            ·
              rw [if_neg g12, if_neg g12]
              have g12i : x2.toInt ≤ 2 := q_nltI g12
              have h46 := T_addOrMultiply (x2 := x2) (R := (68 : Int32)) (R2 := (68 : Int32)) (t0_0 := t0_0) (t0_1 := t0_1) (t1_0 := t1_0) (t2_0 := t14_0) (t2_1 := t14_1) (t3_0 := t15_0) (t4_0 := t14_0) (t4_1 := t14_1) (t5_0 := t15_0) hb hb (by first | assumption | omega | trivial | decide)
              generalize F_Mil_addOrMultiply x2 (68 : Int32) (68 : Int32) t0_0 t0_1 t1_0 t14_0 t14_1 t15_0 t14_0 t14_1 t15_0 = p1064 at h46 ⊢
              have hn := h46
              unfold S_NH_whole_ab_c70 F_NH_whole_ab_c70
              have h47 := T_keepWhole (x2 := x5) (t0_0 := (p1064.1 : Int32)) (t0_1 := (p1064.2.1 : Int32)) (t1_0 := (p1064.2.2 : (Nat → Int32))) (t2_0 := t16_0) (t2_1 := t16_1) (t3_0 := t17_0) hn (by first | exact hw2 | exact hw) (by first | assumption | omega | trivial | decide) (by first | assumption | omega | trivial | decide)
              refine v_owe h47.1 ?_
              replace h47 := h47.2
              generalize F_NH_keepWhole x5 (p1064.1 : Int32) (p1064.2.1 : Int32) (p1064.2.2 : (Nat → Int32)) t16_0 t16_1 t17_0 = p1087 at h47 ⊢
              have hkw := h47
              unfold S_NH_whole_ab_c237_19 F_NH_whole_ab_c237_19
              by_cases g48 : p1087.1 = (0 : Int32)
              ·
                rw [if_pos g48, if_pos g48]
                have g48i : p1087.1.toInt = 0 := q_eqI g48
                refine ⟨trivial, ?_⟩
                first | exact ⟨hw, hb⟩ | exact ⟨hw, hb2⟩ | exact ⟨hkw, hb⟩ | exact ⟨hkw, hb2⟩
              ·
                rw [if_neg g48, if_neg g48]
                have g48i : p1087.1.toInt ≠ 0 := q_neI g48
                refine ⟨trivial, ?_⟩
                first | exact ⟨hw, hb⟩ | exact ⟨hw, hb2⟩ | exact ⟨hkw, hb⟩ | exact ⟨hkw, hb2⟩
def Q_whole_bt (p : Int32 × Int32 × Int32 × (Nat → Int32) × Int32 × Int32 × (Nat → Int32) × Int32 × Int32 × (Nat → Int32) × Int32 × Int32 × (Nat → Int32) × Int32 × Int32 × (Nat → Int32) × Int32 × Int32 × (Nat → Int32) × Int32 × Int32 × (Nat → Int32) × Int32 × Int32 × (Nat → Int32)) : Prop := rW p.2.2.2.2.2.2.2.2.2.2.2.2.2.2.2.2.2.2.2.2.2.2.1 p.2.2.2.2.2.2.2.2.2.2.2.2.2.2.2.2.2.2.2.2.2.2.2.1 p.2.2.2.2.2.2.2.2.2.2.2.2.2.2.2.2.2.2.2.2.2.2.2.2
theorem T_whole_bt {x2 : Int32} {x3 : Int32} {x4 : Int32} {x5 : Int32} {t0_0 : Int32} {t0_1 : Int32} {t1_0 : (Nat → Int32)} {t2_0 : Int32} {t2_1 : Int32} {t3_0 : (Nat → Int32)} {t4_0 : Int32} {t4_1 : Int32} {t5_0 : (Nat → Int32)} {t6_0 : Int32} {t6_1 : Int32} {t7_0 : (Nat → Int32)} {t8_0 : Int32} {t8_1 : Int32} {t9_0 : (Nat → Int32)} {t10_0 : Int32} {t10_1 : Int32} {t11_0 : (Nat → Int32)} {t12_0 : Int32} {t12_1 : Int32} {t13_0 : (Nat → Int32)} {t14_0 : Int32} {t14_1 : Int32} {t15_0 : (Nat → Int32)} {t16_0 : Int32} {t16_1 : Int32} {t17_0 : (Nat → Int32)} {va vb : Int} (ha : bO 68 t14_0 t14_1 t15_0 va) (hA : bB 67 va) (hb : bO 68 t16_0 t16_1 t17_0 vb) (hB : bB 67 vb) : (S_NH_whole_bt x2 x3 x4 x5 t0_0 t0_1 t1_0 t2_0 t2_1 t3_0 t4_0 t4_1 t5_0 t6_0 t6_1 t7_0 t8_0 t8_1 t9_0 t10_0 t10_1 t11_0 t12_0 t12_1 t13_0 t14_0 t14_1 t15_0 t16_0 t16_1 t17_0) ∧ Q_whole_bt (F_NH_whole_bt x2 x3 x4 x5 t0_0 t0_1 t1_0 t2_0 t2_1 t3_0 t4_0 t4_1 t5_0 t6_0 t6_1 t7_0 t8_0 t8_1 t9_0 t10_0 t10_1 t11_0 t12_0 t12_1 t13_0 t14_0 t14_1 t15_0 t16_0 t16_1 t17_0) := by
  have e0 : (0 : Int32).toInt = 0 := rfl
  have e220 : (220 : Int32).toInt = 220 := rfl
  have e68 : (68 : Int32).toInt = 68 := rfl
  have sa : t14_0.toInt ≤ 68 := ha.2.2.2.1
  have sb : t16_0.toInt ≤ 68 := hb.2.2.2.1
  have hw : rW t16_0 t16_1 t17_0 := ⟨vb, hb, hB⟩
  unfold S_NH_whole_bt F_NH_whole_bt
  by_cases g1 : x2 < (0 : Int32)
  ·
    rw [if_pos g1, if_pos g1]
    have g1i : x2.toInt < 0 := q_ltI g1
    unfold S_NH_whole_bt_J36 F_NH_whole_bt_J36
    unfold S_NH_whole_bt_J37 F_NH_whole_bt_J37
    have g2 : ¬ ((F_NH_need (0 : Int32)) = (0 : Int32)) := (by decide)
    rw [if_neg g2, if_neg g2]
    refine ⟨trivial, ?_⟩
    first | exact hw | exact hw2 | exact hkw
  ·
    rw [if_neg g1, if_neg g1]
    have g1i : 0 ≤ x2.toInt := q_nltI g1
    by_cases g3 : (11 : Int32) < x2
    ·
      rw [if_pos g3, if_pos g3]
      have g3i : 11 < x2.toInt := q_ltI g3
      unfold S_NH_whole_bt_J36 F_NH_whole_bt_J36
      unfold S_NH_whole_bt_J37 F_NH_whole_bt_J37
      have g4 : ¬ ((F_NH_need (0 : Int32)) = (0 : Int32)) := (by decide)
      rw [if_neg g4, if_neg g4]
      refine ⟨trivial, ?_⟩
      first | exact hw | exact hw2 | exact hkw
    ·
      rw [if_neg g3, if_neg g3]
      have g3i : x2.toInt ≤ 11 := q_nltI g3
      by_cases g5 : ((F_NH_isRegister x3) : Int32) = (0 : Int32)
      ·
        rw [if_pos g5, if_pos g5]
        unfold S_NH_whole_bt_J36 F_NH_whole_bt_J36
        unfold S_NH_whole_bt_J37 F_NH_whole_bt_J37
        have g6 : ¬ ((F_NH_need (0 : Int32)) = (0 : Int32)) := (by decide)
        rw [if_neg g6, if_neg g6]
        refine ⟨trivial, ?_⟩
        first | exact hw | exact hw2 | exact hkw
      ·
        rw [if_neg g5, if_neg g5]
        have g5r := v_isReg g5
        by_cases g7 : ((F_NH_isRegister x4) : Int32) = (0 : Int32)
        ·
          rw [if_pos g7, if_pos g7]
          unfold S_NH_whole_bt_J36 F_NH_whole_bt_J36
          unfold S_NH_whole_bt_J37 F_NH_whole_bt_J37
          have g8 : ¬ ((F_NH_need (0 : Int32)) = (0 : Int32)) := (by decide)
          rw [if_neg g8, if_neg g8]
          refine ⟨trivial, ?_⟩
          first | exact hw | exact hw2 | exact hkw
        ·
          rw [if_neg g7, if_neg g7]
          have g7r := v_isReg g7
          by_cases g9 : ((F_NH_isRegister x5) : Int32) = (0 : Int32)
          ·
            rw [if_pos g9, if_pos g9]
            unfold S_NH_whole_bt_J36 F_NH_whole_bt_J36
            unfold S_NH_whole_bt_J37 F_NH_whole_bt_J37
            have g10 : ¬ ((F_NH_need (0 : Int32)) = (0 : Int32)) := (by decide)
            rw [if_neg g10, if_neg g10]
            refine ⟨trivial, ?_⟩
            first | exact hw | exact hw2 | exact hkw
          ·
            rw [if_neg g9, if_neg g9]
            have g9r := v_isReg g9
            unfold S_NH_whole_bt_J37 F_NH_whole_bt_J37
            have g11 : ((F_NH_need (1 : Int32)) = (0 : Int32)) := (by decide)
            rw [if_pos g11, if_pos g11]
            refine v_cons (by omega) ?_
            refine v_cons (by omega) ?_
            refine v_cons (by omega) ?_
            refine v_cons (by omega) ?_
            by_cases g12 : (2 : Int32) < x2
            ·
              rw [if_pos g12, if_pos g12]
              have g12i : 2 < x2.toInt := q_ltI g12
              by_cases g13 : (4 : Int32) < x2
              ·
                rw [if_pos g13, if_pos g13]
                have g13i : 4 < x2.toInt := q_ltI g13
                by_cases g14 : x2 = (5 : Int32)
                ·
                  rw [if_pos g14, if_pos g14]
                  have g14i : x2.toInt = 5 := q_eqI g14
                  by_cases g15 : ((F_Big_sign (68 : Int32) t16_0 t16_1) : Int32) ≤ (0 : Int32)
                  ·
                    rw [if_pos g15, if_pos g15]
                    unfold S_NH_whole_bt_J139 F_NH_whole_bt_J139
                    have g16 : ¬ ((F_NH_canHave (0 : Int32)) = (0 : Int32)) := (by decide)
                    rw [if_neg g16, if_neg g16]
                    refine ⟨trivial, ?_⟩
                    first | exact hw | exact hw2 | exact hkw
                  ·
                    rw [if_neg g15, if_neg g15]
                    have hvs := v_sgnP hb g15
                    unfold S_NH_whole_bt_J139 F_NH_whole_bt_J139
                    have g17 : ((F_NH_canHave (1 : Int32)) = (0 : Int32)) := (by decide)
                    rw [if_pos g17, if_pos g17]
                    have h18 := T_modulo (R := (68 : Int32)) (R2 := (68 : Int32)) (R3 := (220 : Int32)) (t0_0 := t2_0) (t0_1 := t2_1) (t1_0 := t3_0) (t2_0 := t14_0) (t2_1 := t14_1) (t3_0 := t15_0) (t4_0 := t16_0) (t4_1 := t16_1) (t5_0 := t17_0) (t6_0 := t0_0) (t6_1 := t0_1) (t7_0 := t1_0) ha hb (by omega) hA (by decide) (by omega) (by decide)
                    refine v_owe h18.1 ?_
                    replace h18 := h18.2
                    generalize F_Mil_modulo (68 : Int32) (68 : Int32) (220 : Int32) t2_0 t2_1 t3_0 t14_0 t14_1 t15_0 t16_0 t16_1 t17_0 t0_0 t0_1 t1_0 = p765 at h18 ⊢
                    have hn := h18.2.2
                    have hb2 := h18.2.1
                    have hw2 : rW p765.2.2.2.1 p765.2.2.2.2.1 p765.2.2.2.2.2.1 := ⟨vb, hb2, hB⟩
                    unfold S_NH_whole_bt_c157 F_NH_whole_bt_c157
                    have h19 := T_keepWhole (x2 := x5) (t0_0 := (p765.2.2.2.2.2.2.1 : Int32)) (t0_1 := (p765.2.2.2.2.2.2.2.1 : Int32)) (t1_0 := (p765.2.2.2.2.2.2.2.2 : (Nat → Int32))) (t2_0 := (p765.2.2.2.1 : Int32)) (t2_1 := (p765.2.2.2.2.1 : Int32)) (t3_0 := (p765.2.2.2.2.2.1 : (Nat → Int32))) hn (by first | exact hw2 | exact hw) (by first | assumption | omega | trivial | decide) (by first | assumption | omega | trivial | decide)
                    refine v_owe h19.1 ?_
                    replace h19 := h19.2
                    generalize F_NH_keepWhole x5 (p765.2.2.2.2.2.2.1 : Int32) (p765.2.2.2.2.2.2.2.1 : Int32) (p765.2.2.2.2.2.2.2.2 : (Nat → Int32)) (p765.2.2.2.1 : Int32) (p765.2.2.2.2.1 : Int32) (p765.2.2.2.2.2.1 : (Nat → Int32)) = p794 at h19 ⊢
                    have hkw := h19
                    unfold S_NH_whole_bt_c237_12 F_NH_whole_bt_c237_12
                    by_cases g20 : p794.1 = (0 : Int32)
                    ·
                      rw [if_pos g20, if_pos g20]
                      have g20i : p794.1.toInt = 0 := q_eqI g20
                      refine ⟨trivial, ?_⟩
                      first | exact hw | exact hw2 | exact hkw
                    ·
                      rw [if_neg g20, if_neg g20]
                      have g20i : p794.1.toInt ≠ 0 := q_neI g20
                      refine ⟨trivial, ?_⟩
                      first | exact hw | exact hw2 | exact hkw
                ·
                  rw [if_neg g14, if_neg g14]
                  have g14i : x2.toInt ≠ 5 := q_neI g14
                  by_cases g21 : x2 = (6 : Int32)
                  ·
                    rw [if_pos g21, if_pos g21]
                    have g21i : x2.toInt = 6 := q_eqI g21
                    have h22 := T_commonDivisor (M := 67) (R := (68 : Int32)) (R2 := (68 : Int32)) (t0_0 := t0_0) (t0_1 := t0_1) (t1_0 := t1_0) (t2_0 := t2_0) (t2_1 := t2_1) (t3_0 := t3_0) (t4_0 := t6_0) (t4_1 := t6_1) (t5_0 := t7_0) (t6_0 := t8_0) (t6_1 := t8_1) (t7_0 := t9_0) (t8_0 := t14_0) (t8_1 := t14_1) (t9_0 := t15_0) (t10_0 := t16_0) (t10_1 := t16_1) (t11_0 := t17_0) (by decide) ha hb trivial hA hB
                    refine v_owe h22.1 ?_
                    replace h22 := h22.2
                    generalize F_Mil_commonDivisor (68 : Int32) (68 : Int32) t0_0 t0_1 t1_0 t2_0 t2_1 t3_0 t6_0 t6_1 t7_0 t8_0 t8_1 t9_0 t14_0 t14_1 t15_0 t16_0 t16_1 t17_0 = p619 at h22 ⊢
                    obtain ⟨_, _, _, hn⟩ := h22.1
                    unfold S_NH_whole_bt_c177 F_NH_whole_bt_c177
                    have h23 := T_keepWhole (x2 := x5) (t0_0 := (p619.1 : Int32)) (t0_1 := (p619.2.1 : Int32)) (t1_0 := (p619.2.2.1 : (Nat → Int32))) (t2_0 := t16_0) (t2_1 := t16_1) (t3_0 := t17_0) hn (by first | exact hw2 | exact hw) (by first | assumption | omega | trivial | decide) (by first | assumption | omega | trivial | decide)
                    refine v_owe h23.1 ?_
                    replace h23 := h23.2
                    generalize F_NH_keepWhole x5 (p619.1 : Int32) (p619.2.1 : Int32) (p619.2.2.1 : (Nat → Int32)) t16_0 t16_1 t17_0 = p651 at h23 ⊢
                    have hkw := h23
                    unfold S_NH_whole_bt_c237_9 F_NH_whole_bt_c237_9
                    by_cases g24 : p651.1 = (0 : Int32)
                    ·
                      rw [if_pos g24, if_pos g24]
                      have g24i : p651.1.toInt = 0 := q_eqI g24
                      refine ⟨trivial, ?_⟩
                      first | exact hw | exact hw2 | exact hkw
                    ·
                      rw [if_neg g24, if_neg g24]
                      have g24i : p651.1.toInt ≠ 0 := q_neI g24
                      refine ⟨trivial, ?_⟩
                      first | exact hw | exact hw2 | exact hkw
                  ·
                    rw [if_neg g21, if_neg g21]
                    have g21i : x2.toInt ≠ 6 := q_neI g21
                    by_cases g25 : x2 = (7 : Int32)
                    ·
                      rw [if_pos g25, if_pos g25]
                      have g25i : x2.toInt = 7 := q_eqI g25
                      by_cases g26 : ((F_Big_sign (68 : Int32) t16_0 t16_1) : Int32) ≤ (0 : Int32)
                      ·
                        rw [if_pos g26, if_pos g26]
                        have g27 : ¬ ((F_NH_canHave (0 : Int32)) = (0 : Int32)) := (by decide)
                        rw [if_neg g27, if_neg g27]
                        refine ⟨trivial, ?_⟩
                        first | exact hw | exact hw2 | exact hkw
                      ·
                        rw [if_neg g26, if_neg g26]
                        have hvs := v_sgnP hb g26
                        have g28 : ((F_NH_canHave (1 : Int32)) = (0 : Int32)) := (by decide)
                        rw [if_pos g28, if_pos g28]
                        have h29 := T_inverse (R := (68 : Int32)) (R2 := (68 : Int32)) (t0_0 := t0_0) (t0_1 := t0_1) (t1_0 := t1_0) (t2_0 := t2_0) (t2_1 := t2_1) (t3_0 := t3_0) (t4_0 := t4_0) (t4_1 := t4_1) (t5_0 := t5_0) (t6_0 := t6_0) (t6_1 := t6_1) (t7_0 := t7_0) (t8_0 := t8_0) (t8_1 := t8_1) (t9_0 := t9_0) (t10_0 := t10_0) (t10_1 := t10_1) (t11_0 := t11_0) (t12_0 := t12_0) (t12_1 := t12_1) (t13_0 := t13_0) (t14_0 := t14_0) (t14_1 := t14_1) (t15_0 := t15_0) (t16_0 := t16_0) (t16_1 := t16_1) (t17_0 := t17_0) ha hb hvs hA hB (by decide) trivial
                        refine v_owe h29.1 ?_
                        replace h29 := h29.2
                        generalize F_Mil_inverse (68 : Int32) (68 : Int32) t0_0 t0_1 t1_0 t2_0 t2_1 t3_0 t4_0 t4_1 t5_0 t6_0 t6_1 t7_0 t8_0 t8_1 t9_0 t10_0 t10_1 t11_0 t12_0 t12_1 t13_0 t14_0 t14_1 t15_0 t16_0 t16_1 t17_0 = p491 at h29 ⊢
                        obtain ⟨_, _, _, hn⟩ := h29.1
                        have hb2 := h29.2.2.2.2.2.2.2
                        have hw2 : rW p491.2.2.2.2.2.2.2.2.2.2.2.2.2.2.2.2.2.2.2.2.2.2.1 p491.2.2.2.2.2.2.2.2.2.2.2.2.2.2.2.2.2.2.2.2.2.2.2.1 p491.2.2.2.2.2.2.2.2.2.2.2.2.2.2.2.2.2.2.2.2.2.2.2.2 := ⟨vb, hb2, hB⟩
                        unfold S_NH_whole_bt_c213_6 F_NH_whole_bt_c213_6
                        by_cases g30 : (F_NH_canHave (p491.1 : Int32)) = (0 : Int32)
                        ·
                          rw [if_pos g30, if_pos g30]
                          have h31 := T_keepWhole (x2 := x5) (t0_0 := (p491.2.1 : Int32)) (t0_1 := (p491.2.2.1 : Int32)) (t1_0 := (p491.2.2.2.1 : (Nat → Int32))) (t2_0 := (p491.2.2.2.2.2.2.2.2.2.2.2.2.2.2.2.2.2.2.2.2.2.2.1 : Int32)) (t2_1 := (p491.2.2.2.2.2.2.2.2.2.2.2.2.2.2.2.2.2.2.2.2.2.2.2.1 : Int32)) (t3_0 := (p491.2.2.2.2.2.2.2.2.2.2.2.2.2.2.2.2.2.2.2.2.2.2.2.2 : (Nat → Int32))) hn (by first | exact hw2 | exact hw) (by first | assumption | omega | trivial | decide) (by first | assumption | omega | trivial | decide)
                          refine v_owe h31.1 ?_
                          replace h31 := h31.2
                          generalize F_NH_keepWhole x5 (p491.2.1 : Int32) (p491.2.2.1 : Int32) (p491.2.2.2.1 : (Nat → Int32)) (p491.2.2.2.2.2.2.2.2.2.2.2.2.2.2.2.2.2.2.2.2.2.2.1 : Int32) (p491.2.2.2.2.2.2.2.2.2.2.2.2.2.2.2.2.2.2.2.2.2.2.2.1 : Int32) (p491.2.2.2.2.2.2.2.2.2.2.2.2.2.2.2.2.2.2.2.2.2.2.2.2 : (Nat → Int32)) = p545 at h31 ⊢
                          have hkw := h31
                          unfold S_NH_whole_bt_c237_7 F_NH_whole_bt_c237_7
                          by_cases g32 : p545.1 = (0 : Int32)
                          ·
                            rw [if_pos g32, if_pos g32]
                            have g32i : p545.1.toInt = 0 := q_eqI g32
                            refine ⟨trivial, ?_⟩
                            first | exact hw | exact hw2 | exact hkw
                          ·
                            rw [if_neg g32, if_neg g32]
                            have g32i : p545.1.toInt ≠ 0 := q_neI g32
                            refine ⟨trivial, ?_⟩
                            first | exact hw | exact hw2 | exact hkw
                        ·
                          rw [if_neg g30, if_neg g30]
                          refine ⟨trivial, ?_⟩
                          first | exact hw | exact hw2 | exact hkw
                    ·
                      rw [if_neg g25, if_neg g25]
                      have g25i : x2.toInt ≠ 7 := q_neI g25
                      have h33 := T_mixBits (x2 := x2) (R := (68 : Int32)) (R2 := (68 : Int32)) (t0_0 := t0_0) (t0_1 := t0_1) (t1_0 := t1_0) (t2_0 := t14_0) (t2_1 := t14_1) (t3_0 := t15_0) (t4_0 := t16_0) (t4_1 := t16_1) (t5_0 := t17_0) ha hb (by omega) (by omega)
                      generalize F_Mil_mixBits x2 (68 : Int32) (68 : Int32) t0_0 t0_1 t1_0 t14_0 t14_1 t15_0 t16_0 t16_1 t17_0 = p144 at h33 ⊢
                      obtain ⟨_, hn⟩ := h33
                      unfold S_NH_whole_bt_c231 F_NH_whole_bt_c231
                      have h34 := T_keepWhole (x2 := x5) (t0_0 := (p144.1 : Int32)) (t0_1 := (p144.2.1 : Int32)) (t1_0 := (p144.2.2 : (Nat → Int32))) (t2_0 := t16_0) (t2_1 := t16_1) (t3_0 := t17_0) hn (by first | exact hw2 | exact hw) (by first | assumption | omega | trivial | decide) (by first | assumption | omega | trivial | decide)
                      refine v_owe h34.1 ?_
                      replace h34 := h34.2
                      generalize F_NH_keepWhole x5 (p144.1 : Int32) (p144.2.1 : Int32) (p144.2.2 : (Nat → Int32)) t16_0 t16_1 t17_0 = p167 at h34 ⊢
                      have hkw := h34
                      unfold S_NH_whole_bt_c237 F_NH_whole_bt_c237
                      by_cases g35 : p167.1 = (0 : Int32)
                      ·
                        rw [if_pos g35, if_pos g35]
                        have g35i : p167.1.toInt = 0 := q_eqI g35
                        refine ⟨trivial, ?_⟩
                        first | exact hw | exact hw2 | exact hkw
                      ·
                        rw [if_neg g35, if_neg g35]
                        have g35i : p167.1.toInt ≠ 0 := q_neI g35
                        refine ⟨trivial, ?_⟩
                        first | exact hw | exact hw2 | exact hkw
              ·
                rw [if_neg g13, if_neg g13]
                have g13i : x2.toInt ≤ 4 := q_nltI g13
                by_cases g36 : t16_0 ≤ (0 : Int32)
                ·
                  rw [if_pos g36, if_pos g36]
                  have g36i : t16_0.toInt ≤ 0 := q_leI g36
                  unfold S_NH_whole_bt_J94 F_NH_whole_bt_J94
                  have g37 : ¬ ((F_NH_canHave (0 : Int32)) = (0 : Int32)) := (by decide)
                  rw [if_neg g37, if_neg g37]
                  refine ⟨trivial, ?_⟩
                  first | exact hw | exact hw2 | exact hkw
                ·
                  rw [if_neg g36, if_neg g36]
                  have g36i : 0 < t16_0.toInt := q_nleI g36
                  unfold S_NH_whole_bt_J94 F_NH_whole_bt_J94
                  have g38 : ((F_NH_canHave (1 : Int32)) = (0 : Int32)) := (by decide)
                  rw [if_pos g38, if_pos g38]
                  by_cases g39 : x2 = (3 : Int32)
                  ·
                    rw [if_pos g39, if_pos g39]
                    have g39i : x2.toInt = 3 := q_eqI g39
                    have h40 := T_quotientOrRest (x2 := (1 : Int32)) (R := (68 : Int32)) (R2 := (68 : Int32)) (t0_0 := t0_0) (t0_1 := t0_1) (t1_0 := t1_0) (t2_0 := t2_0) (t2_1 := t2_1) (t3_0 := t3_0) (t4_0 := t14_0) (t4_1 := t14_1) (t5_0 := t15_0) (t6_0 := t16_0) (t6_1 := t16_1) (t7_0 := t17_0) ha hb (hb.pos.mp (by omega)) (hA.mono (by decide))
                    refine v_owe h40.1 ?_
                    replace h40 := h40.2
                    generalize F_Mil_quotientOrRest (1 : Int32) (68 : Int32) (68 : Int32) t0_0 t0_1 t1_0 t2_0 t2_1 t3_0 t14_0 t14_1 t15_0 t16_0 t16_1 t17_0 = p1002 at h40 ⊢
                    have hn := h40.1
                    have hb2 := h40.2.2
                    have hw2 : rW p1002.2.2.2.2.2.2.1 p1002.2.2.2.2.2.2.2.1 p1002.2.2.2.2.2.2.2.2 := ⟨vb, hb2, hB⟩
                    unfold S_NH_whole_bt_c115_16 F_NH_whole_bt_c115_16
                    have h41 := T_keepWhole (x2 := x5) (t0_0 := (p1002.1 : Int32)) (t0_1 := (p1002.2.1 : Int32)) (t1_0 := (p1002.2.2.1 : (Nat → Int32))) (t2_0 := (p1002.2.2.2.2.2.2.1 : Int32)) (t2_1 := (p1002.2.2.2.2.2.2.2.1 : Int32)) (t3_0 := (p1002.2.2.2.2.2.2.2.2 : (Nat → Int32))) hn (by first | exact hw2 | exact hw) (by first | assumption | omega | trivial | decide) (by first | assumption | omega | trivial | decide)
                    refine v_owe h41.1 ?_
                    replace h41 := h41.2
                    generalize F_NH_keepWhole x5 (p1002.1 : Int32) (p1002.2.1 : Int32) (p1002.2.2.1 : (Nat → Int32)) (p1002.2.2.2.2.2.2.1 : Int32) (p1002.2.2.2.2.2.2.2.1 : Int32) (p1002.2.2.2.2.2.2.2.2 : (Nat → Int32)) = p1031 at h41 ⊢
                    have hkw := h41
                    unfold S_NH_whole_bt_c237_17 F_NH_whole_bt_c237_17
                    by_cases g42 : p1031.1 = (0 : Int32)
                    ·
                      rw [if_pos g42, if_pos g42]
                      have g42i : p1031.1.toInt = 0 := q_eqI g42
                      refine ⟨trivial, ?_⟩
                      first | exact hw | exact hw2 | exact hkw
                    ·
                      rw [if_neg g42, if_neg g42]
                      have g42i : p1031.1.toInt ≠ 0 := q_neI g42
                      refine ⟨trivial, ?_⟩
                      first | exact hw | exact hw2 | exact hkw
                  ·
                    rw [if_neg g39, if_neg g39]
                    have g39i : x2.toInt ≠ 3 := q_neI g39
                    have h43 := T_quotientOrRest (x2 := (0 : Int32)) (R := (68 : Int32)) (R2 := (68 : Int32)) (t0_0 := t0_0) (t0_1 := t0_1) (t1_0 := t1_0) (t2_0 := t2_0) (t2_1 := t2_1) (t3_0 := t3_0) (t4_0 := t14_0) (t4_1 := t14_1) (t5_0 := t15_0) (t6_0 := t16_0) (t6_1 := t16_1) (t7_0 := t17_0) ha hb (hb.pos.mp (by omega)) (hA.mono (by decide))
                    refine v_owe h43.1 ?_
                    replace h43 := h43.2
                    generalize F_Mil_quotientOrRest (0 : Int32) (68 : Int32) (68 : Int32) t0_0 t0_1 t1_0 t2_0 t2_1 t3_0 t14_0 t14_1 t15_0 t16_0 t16_1 t17_0 = p904 at h43 ⊢
                    have hn := h43.1
                    have hb2 := h43.2.2
                    have hw2 : rW p904.2.2.2.2.2.2.1 p904.2.2.2.2.2.2.2.1 p904.2.2.2.2.2.2.2.2 := ⟨vb, hb2, hB⟩
                    unfold S_NH_whole_bt_c115 F_NH_whole_bt_c115
                    have h44 := T_keepWhole (x2 := x5) (t0_0 := (p904.1 : Int32)) (t0_1 := (p904.2.1 : Int32)) (t1_0 := (p904.2.2.1 : (Nat → Int32))) (t2_0 := (p904.2.2.2.2.2.2.1 : Int32)) (t2_1 := (p904.2.2.2.2.2.2.2.1 : Int32)) (t3_0 := (p904.2.2.2.2.2.2.2.2 : (Nat → Int32))) hn (by first | exact hw2 | exact hw) (by first | assumption | omega | trivial | decide) (by first | assumption | omega | trivial | decide)
                    refine v_owe h44.1 ?_
                    replace h44 := h44.2
                    generalize F_NH_keepWhole x5 (p904.1 : Int32) (p904.2.1 : Int32) (p904.2.2.1 : (Nat → Int32)) (p904.2.2.2.2.2.2.1 : Int32) (p904.2.2.2.2.2.2.2.1 : Int32) (p904.2.2.2.2.2.2.2.2 : (Nat → Int32)) = p933 at h44 ⊢
                    have hkw := h44
                    unfold S_NH_whole_bt_c237_15 F_NH_whole_bt_c237_15
                    by_cases g45 : p933.1 = (0 : Int32)
                    ·
                      rw [if_pos g45, if_pos g45]
                      have g45i : p933.1.toInt = 0 := q_eqI g45
                      refine ⟨trivial, ?_⟩
                      first | exact hw | exact hw2 | exact hkw
                    ·
                      rw [if_neg g45, if_neg g45]
                      have g45i : p933.1.toInt ≠ 0 := q_neI g45
                      refine ⟨trivial, ?_⟩
                      first | exact hw | exact hw2 | exact hkw
            ·
              rw [if_neg g12, if_neg g12]
              have g12i : x2.toInt ≤ 2 := q_nltI g12
              have h46 := T_addOrMultiply (x2 := x2) (R := (68 : Int32)) (R2 := (68 : Int32)) (t0_0 := t0_0) (t0_1 := t0_1) (t1_0 := t1_0) (t2_0 := t14_0) (t2_1 := t14_1) (t3_0 := t15_0) (t4_0 := t16_0) (t4_1 := t16_1) (t5_0 := t17_0) ha hb (by first | assumption | omega | trivial | decide)
              generalize F_Mil_addOrMultiply x2 (68 : Int32) (68 : Int32) t0_0 t0_1 t1_0 t14_0 t14_1 t15_0 t16_0 t16_1 t17_0 = p1080 at h46 ⊢
              have hn := h46
              unfold S_NH_whole_bt_c70 F_NH_whole_bt_c70
              have h47 := T_keepWhole (x2 := x5) (t0_0 := (p1080.1 : Int32)) (t0_1 := (p1080.2.1 : Int32)) (t1_0 := (p1080.2.2 : (Nat → Int32))) (t2_0 := t16_0) (t2_1 := t16_1) (t3_0 := t17_0) hn (by first | exact hw2 | exact hw) (by first | assumption | omega | trivial | decide) (by first | assumption | omega | trivial | decide)
              refine v_owe h47.1 ?_
              replace h47 := h47.2
              generalize F_NH_keepWhole x5 (p1080.1 : Int32) (p1080.2.1 : Int32) (p1080.2.2 : (Nat → Int32)) t16_0 t16_1 t17_0 = p1103 at h47 ⊢
              have hkw := h47
              unfold S_NH_whole_bt_c237_19 F_NH_whole_bt_c237_19
              by_cases g48 : p1103.1 = (0 : Int32)
              ·
                rw [if_pos g48, if_pos g48]
                have g48i : p1103.1.toInt = 0 := q_eqI g48
                refine ⟨trivial, ?_⟩
                first | exact hw | exact hw2 | exact hkw
              ·
                rw [if_neg g48, if_neg g48]
                have g48i : p1103.1.toInt ≠ 0 := q_neI g48
                refine ⟨trivial, ?_⟩
                first | exact hw | exact hw2 | exact hkw
def Q_whole_abt (p : Int32 × Int32 × Int32 × (Nat → Int32) × Int32 × Int32 × (Nat → Int32) × Int32 × Int32 × (Nat → Int32) × Int32 × Int32 × (Nat → Int32) × Int32 × Int32 × (Nat → Int32) × Int32 × Int32 × (Nat → Int32) × Int32 × Int32 × (Nat → Int32) × Int32 × Int32 × (Nat → Int32)) : Prop := rW p.2.2.2.2.2.2.2.2.2.2.2.2.2.2.2.2.2.2.2.2.2.2.1 p.2.2.2.2.2.2.2.2.2.2.2.2.2.2.2.2.2.2.2.2.2.2.2.1 p.2.2.2.2.2.2.2.2.2.2.2.2.2.2.2.2.2.2.2.2.2.2.2.2
theorem T_whole_abt {x2 : Int32} {x3 : Int32} {x4 : Int32} {x5 : Int32} {t0_0 : Int32} {t0_1 : Int32} {t1_0 : (Nat → Int32)} {t2_0 : Int32} {t2_1 : Int32} {t3_0 : (Nat → Int32)} {t4_0 : Int32} {t4_1 : Int32} {t5_0 : (Nat → Int32)} {t6_0 : Int32} {t6_1 : Int32} {t7_0 : (Nat → Int32)} {t8_0 : Int32} {t8_1 : Int32} {t9_0 : (Nat → Int32)} {t10_0 : Int32} {t10_1 : Int32} {t11_0 : (Nat → Int32)} {t12_0 : Int32} {t12_1 : Int32} {t13_0 : (Nat → Int32)} {t14_0 : Int32} {t14_1 : Int32} {t15_0 : (Nat → Int32)} {vb : Int} (hb : bO 68 t14_0 t14_1 t15_0 vb) (hB : bB 67 vb) : (S_NH_whole_abt x2 x3 x4 x5 t0_0 t0_1 t1_0 t2_0 t2_1 t3_0 t4_0 t4_1 t5_0 t6_0 t6_1 t7_0 t8_0 t8_1 t9_0 t10_0 t10_1 t11_0 t12_0 t12_1 t13_0 t14_0 t14_1 t15_0) ∧ Q_whole_abt (F_NH_whole_abt x2 x3 x4 x5 t0_0 t0_1 t1_0 t2_0 t2_1 t3_0 t4_0 t4_1 t5_0 t6_0 t6_1 t7_0 t8_0 t8_1 t9_0 t10_0 t10_1 t11_0 t12_0 t12_1 t13_0 t14_0 t14_1 t15_0) := by
  have e0 : (0 : Int32).toInt = 0 := rfl
  have e220 : (220 : Int32).toInt = 220 := rfl
  have e68 : (68 : Int32).toInt = 68 := rfl
  have sa : t14_0.toInt ≤ 68 := hb.2.2.2.1
  have sb : t14_0.toInt ≤ 68 := hb.2.2.2.1
  have hw : rW t14_0 t14_1 t15_0 := ⟨vb, hb, hB⟩
  unfold S_NH_whole_abt F_NH_whole_abt
  by_cases g1 : x2 < (0 : Int32)
  ·
    rw [if_pos g1, if_pos g1]
    have g1i : x2.toInt < 0 := q_ltI g1
    unfold S_NH_whole_abt_J36 F_NH_whole_abt_J36
    unfold S_NH_whole_abt_J37 F_NH_whole_abt_J37
    have g2 : ¬ ((F_NH_need (0 : Int32)) = (0 : Int32)) := (by decide)
    rw [if_neg g2, if_neg g2]
    refine ⟨trivial, ?_⟩
    first | exact hw | exact hw2 | exact hkw
  ·
    rw [if_neg g1, if_neg g1]
    have g1i : 0 ≤ x2.toInt := q_nltI g1
    by_cases g3 : (11 : Int32) < x2
    ·
      rw [if_pos g3, if_pos g3]
      have g3i : 11 < x2.toInt := q_ltI g3
      unfold S_NH_whole_abt_J36 F_NH_whole_abt_J36
      unfold S_NH_whole_abt_J37 F_NH_whole_abt_J37
      have g4 : ¬ ((F_NH_need (0 : Int32)) = (0 : Int32)) := (by decide)
      rw [if_neg g4, if_neg g4]
      refine ⟨trivial, ?_⟩
      first | exact hw | exact hw2 | exact hkw
    ·
      rw [if_neg g3, if_neg g3]
      have g3i : x2.toInt ≤ 11 := q_nltI g3
      by_cases g5 : ((F_NH_isRegister x3) : Int32) = (0 : Int32)
      ·
        rw [if_pos g5, if_pos g5]
        unfold S_NH_whole_abt_J36 F_NH_whole_abt_J36
        unfold S_NH_whole_abt_J37 F_NH_whole_abt_J37
        have g6 : ¬ ((F_NH_need (0 : Int32)) = (0 : Int32)) := (by decide)
        rw [if_neg g6, if_neg g6]
        refine ⟨trivial, ?_⟩
        first | exact hw | exact hw2 | exact hkw
      ·
        rw [if_neg g5, if_neg g5]
        have g5r := v_isReg g5
        by_cases g7 : ((F_NH_isRegister x4) : Int32) = (0 : Int32)
        ·
          rw [if_pos g7, if_pos g7]
          unfold S_NH_whole_abt_J36 F_NH_whole_abt_J36
          unfold S_NH_whole_abt_J37 F_NH_whole_abt_J37
          have g8 : ¬ ((F_NH_need (0 : Int32)) = (0 : Int32)) := (by decide)
          rw [if_neg g8, if_neg g8]
          refine ⟨trivial, ?_⟩
          first | exact hw | exact hw2 | exact hkw
        ·
          rw [if_neg g7, if_neg g7]
          have g7r := v_isReg g7
          by_cases g9 : ((F_NH_isRegister x5) : Int32) = (0 : Int32)
          ·
            rw [if_pos g9, if_pos g9]
            unfold S_NH_whole_abt_J36 F_NH_whole_abt_J36
            unfold S_NH_whole_abt_J37 F_NH_whole_abt_J37
            have g10 : ¬ ((F_NH_need (0 : Int32)) = (0 : Int32)) := (by decide)
            rw [if_neg g10, if_neg g10]
            refine ⟨trivial, ?_⟩
            first | exact hw | exact hw2 | exact hkw
          ·
            rw [if_neg g9, if_neg g9]
            have g9r := v_isReg g9
            unfold S_NH_whole_abt_J37 F_NH_whole_abt_J37
            have g11 : ((F_NH_need (1 : Int32)) = (0 : Int32)) := (by decide)
            rw [if_pos g11, if_pos g11]
            refine v_cons (by omega) ?_
            refine v_cons (by omega) ?_
            refine v_cons (by omega) ?_
            refine v_cons (by omega) ?_
            by_cases g12 : (2 : Int32) < x2
            ·
              rw [if_pos g12, if_pos g12]
              have g12i : 2 < x2.toInt := q_ltI g12
              by_cases g13 : (4 : Int32) < x2
              ·
                rw [if_pos g13, if_pos g13]
                have g13i : 4 < x2.toInt := q_ltI g13
                by_cases g14 : x2 = (5 : Int32)
                ·
                  rw [if_pos g14, if_pos g14]
                  have g14i : x2.toInt = 5 := q_eqI g14
                  by_cases g15 : ((F_Big_sign (68 : Int32) t14_0 t14_1) : Int32) ≤ (0 : Int32)
                  ·
                    rw [if_pos g15, if_pos g15]
                    unfold S_NH_whole_abt_J139 F_NH_whole_abt_J139
                    have g16 : ¬ ((F_NH_canHave (0 : Int32)) = (0 : Int32)) := (by decide)
                    rw [if_neg g16, if_neg g16]
                    refine ⟨trivial, ?_⟩
                    first | exact hw | exact hw2 | exact hkw
                  ·
                    rw [if_neg g15, if_neg g15]
                    have hvs := v_sgnP hb g15
                    unfold S_NH_whole_abt_J139 F_NH_whole_abt_J139
                    have g17 : ((F_NH_canHave (1 : Int32)) = (0 : Int32)) := (by decide)
                    rw [if_pos g17, if_pos g17]
                    have h18 := T_modulo_a (R2 := (68 : Int32)) (R4 := (220 : Int32)) (t0_0 := t2_0) (t0_1 := t2_1) (t1_0 := t3_0) (t2_0 := t14_0) (t2_1 := t14_1) (t3_0 := t15_0) (t4_0 := t0_0) (t4_1 := t0_1) (t5_0 := t1_0) hb (by omega) hB (by decide) (by decide)
                    refine v_owe h18.1 ?_
                    replace h18 := h18.2
                    generalize F_Mil_modulo_a (68 : Int32) (220 : Int32) t2_0 t2_1 t3_0 t14_0 t14_1 t15_0 t0_0 t0_1 t1_0 = p741 at h18 ⊢
                    have hn := h18.2.2
                    have hb2 := h18.2.1
                    have hw2 : rW p741.2.2.2.1 p741.2.2.2.2.1 p741.2.2.2.2.2.1 := ⟨vb, hb2, hB⟩
                    unfold S_NH_whole_abt_c157 F_NH_whole_abt_c157
                    have h19 := T_keepWhole (x2 := x5) (t0_0 := (p741.2.2.2.2.2.2.1 : Int32)) (t0_1 := (p741.2.2.2.2.2.2.2.1 : Int32)) (t1_0 := (p741.2.2.2.2.2.2.2.2 : (Nat → Int32))) (t2_0 := (p741.2.2.2.1 : Int32)) (t2_1 := (p741.2.2.2.2.1 : Int32)) (t3_0 := (p741.2.2.2.2.2.1 : (Nat → Int32))) hn (by first | exact hw2 | exact hw) (by first | assumption | omega | trivial | decide) (by first | assumption | omega | trivial | decide)
                    refine v_owe h19.1 ?_
                    replace h19 := h19.2
                    generalize F_NH_keepWhole x5 (p741.2.2.2.2.2.2.1 : Int32) (p741.2.2.2.2.2.2.2.1 : Int32) (p741.2.2.2.2.2.2.2.2 : (Nat → Int32)) (p741.2.2.2.1 : Int32) (p741.2.2.2.2.1 : Int32) (p741.2.2.2.2.2.1 : (Nat → Int32)) = p770 at h19 ⊢
                    have hkw := h19
                    unfold S_NH_whole_abt_c237_12 F_NH_whole_abt_c237_12
                    by_cases g20 : p770.1 = (0 : Int32)
                    ·
                      rw [if_pos g20, if_pos g20]
                      have g20i : p770.1.toInt = 0 := q_eqI g20
                      refine ⟨trivial, ?_⟩
                      first | exact hw | exact hw2 | exact hkw
                    ·
                      rw [if_neg g20, if_neg g20]
                      have g20i : p770.1.toInt ≠ 0 := q_neI g20
                      refine ⟨trivial, ?_⟩
                      first | exact hw | exact hw2 | exact hkw
                ·
                  rw [if_neg g14, if_neg g14]
                  have g14i : x2.toInt ≠ 5 := q_neI g14
                  by_cases g21 : x2 = (6 : Int32)
                  ·
                    rw [if_pos g21, if_pos g21]
                    have g21i : x2.toInt = 6 := q_eqI g21
                    have h22 := T_commonDivisor (M := 67) (R := (68 : Int32)) (R2 := (68 : Int32)) (t0_0 := t0_0) (t0_1 := t0_1) (t1_0 := t1_0) (t2_0 := t2_0) (t2_1 := t2_1) (t3_0 := t3_0) (t4_0 := t6_0) (t4_1 := t6_1) (t5_0 := t7_0) (t6_0 := t8_0) (t6_1 := t8_1) (t7_0 := t9_0) (t8_0 := t14_0) (t8_1 := t14_1) (t9_0 := t15_0) (t10_0 := t14_0) (t10_1 := t14_1) (t11_0 := t15_0) (by decide) hb hb trivial hB hB
                    refine v_owe h22.1 ?_
                    replace h22 := h22.2
                    generalize F_Mil_commonDivisor (68 : Int32) (68 : Int32) t0_0 t0_1 t1_0 t2_0 t2_1 t3_0 t6_0 t6_1 t7_0 t8_0 t8_1 t9_0 t14_0 t14_1 t15_0 t14_0 t14_1 t15_0 = p599 at h22 ⊢
                    obtain ⟨_, _, _, hn⟩ := h22.1
                    unfold S_NH_whole_abt_c177 F_NH_whole_abt_c177
                    have h23 := T_keepWhole (x2 := x5) (t0_0 := (p599.1 : Int32)) (t0_1 := (p599.2.1 : Int32)) (t1_0 := (p599.2.2.1 : (Nat → Int32))) (t2_0 := t14_0) (t2_1 := t14_1) (t3_0 := t15_0) hn (by first | exact hw2 | exact hw) (by first | assumption | omega | trivial | decide) (by first | assumption | omega | trivial | decide)
                    refine v_owe h23.1 ?_
                    replace h23 := h23.2
                    generalize F_NH_keepWhole x5 (p599.1 : Int32) (p599.2.1 : Int32) (p599.2.2.1 : (Nat → Int32)) t14_0 t14_1 t15_0 = p631 at h23 ⊢
                    have hkw := h23
                    unfold S_NH_whole_abt_c237_9 F_NH_whole_abt_c237_9
                    by_cases g24 : p631.1 = (0 : Int32)
                    ·
                      rw [if_pos g24, if_pos g24]
                      have g24i : p631.1.toInt = 0 := q_eqI g24
                      refine ⟨trivial, ?_⟩
                      first | exact hw | exact hw2 | exact hkw
                    ·
                      rw [if_neg g24, if_neg g24]
                      have g24i : p631.1.toInt ≠ 0 := q_neI g24
                      refine ⟨trivial, ?_⟩
                      first | exact hw | exact hw2 | exact hkw
                  ·
                    rw [if_neg g21, if_neg g21]
                    have g21i : x2.toInt ≠ 6 := q_neI g21
                    by_cases g25 : x2 = (7 : Int32)
                    ·
                      rw [if_pos g25, if_pos g25]
                      have g25i : x2.toInt = 7 := q_eqI g25
                      by_cases g26 : ((F_Big_sign (68 : Int32) t14_0 t14_1) : Int32) ≤ (0 : Int32)
                      ·
                        rw [if_pos g26, if_pos g26]
                        have g27 : ¬ ((F_NH_canHave (0 : Int32)) = (0 : Int32)) := (by decide)
                        rw [if_neg g27, if_neg g27]
                        refine ⟨trivial, ?_⟩
                        first | exact hw | exact hw2 | exact hkw
                      ·
                        rw [if_neg g26, if_neg g26]
                        have hvs := v_sgnP hb g26
                        have g28 : ((F_NH_canHave (1 : Int32)) = (0 : Int32)) := (by decide)
                        rw [if_pos g28, if_pos g28]
                        have h29 := T_inverse_a (R2 := (68 : Int32)) (t0_0 := t0_0) (t0_1 := t0_1) (t1_0 := t1_0) (t2_0 := t2_0) (t2_1 := t2_1) (t3_0 := t3_0) (t4_0 := t4_0) (t4_1 := t4_1) (t5_0 := t5_0) (t6_0 := t6_0) (t6_1 := t6_1) (t7_0 := t7_0) (t8_0 := t8_0) (t8_1 := t8_1) (t9_0 := t9_0) (t10_0 := t10_0) (t10_1 := t10_1) (t11_0 := t11_0) (t12_0 := t12_0) (t12_1 := t12_1) (t13_0 := t13_0) (t14_0 := t14_0) (t14_1 := t14_1) (t15_0 := t15_0) hb hvs hB (by decide) trivial
                        refine v_owe h29.1 ?_
                        replace h29 := h29.2
                        generalize F_Mil_inverse_a (68 : Int32) t0_0 t0_1 t1_0 t2_0 t2_1 t3_0 t4_0 t4_1 t5_0 t6_0 t6_1 t7_0 t8_0 t8_1 t9_0 t10_0 t10_1 t11_0 t12_0 t12_1 t13_0 t14_0 t14_1 t15_0 = p471 at h29 ⊢
                        obtain ⟨_, _, _, hn⟩ := h29.1
                        have hb2 := h29.2.2.2.2.2.2.2
                        have hw2 : rW p471.2.2.2.2.2.2.2.2.2.2.2.2.2.2.2.2.2.2.2.2.2.2.1 p471.2.2.2.2.2.2.2.2.2.2.2.2.2.2.2.2.2.2.2.2.2.2.2.1 p471.2.2.2.2.2.2.2.2.2.2.2.2.2.2.2.2.2.2.2.2.2.2.2.2 := ⟨vb, hb2, hB⟩
                        unfold S_NH_whole_abt_c213_6 F_NH_whole_abt_c213_6
                        by_cases g30 : (F_NH_canHave (p471.1 : Int32)) = (0 : Int32)
                        ·
                          rw [if_pos g30, if_pos g30]
                          have h31 := T_keepWhole (x2 := x5) (t0_0 := (p471.2.1 : Int32)) (t0_1 := (p471.2.2.1 : Int32)) (t1_0 := (p471.2.2.2.1 : (Nat → Int32))) (t2_0 := (p471.2.2.2.2.2.2.2.2.2.2.2.2.2.2.2.2.2.2.2.2.2.2.1 : Int32)) (t2_1 := (p471.2.2.2.2.2.2.2.2.2.2.2.2.2.2.2.2.2.2.2.2.2.2.2.1 : Int32)) (t3_0 := (p471.2.2.2.2.2.2.2.2.2.2.2.2.2.2.2.2.2.2.2.2.2.2.2.2 : (Nat → Int32))) hn (by first | exact hw2 | exact hw) (by first | assumption | omega | trivial | decide) (by first | assumption | omega | trivial | decide)
                          refine v_owe h31.1 ?_
                          replace h31 := h31.2
                          generalize F_NH_keepWhole x5 (p471.2.1 : Int32) (p471.2.2.1 : Int32) (p471.2.2.2.1 : (Nat → Int32)) (p471.2.2.2.2.2.2.2.2.2.2.2.2.2.2.2.2.2.2.2.2.2.2.1 : Int32) (p471.2.2.2.2.2.2.2.2.2.2.2.2.2.2.2.2.2.2.2.2.2.2.2.1 : Int32) (p471.2.2.2.2.2.2.2.2.2.2.2.2.2.2.2.2.2.2.2.2.2.2.2.2 : (Nat → Int32)) = p525 at h31 ⊢
                          have hkw := h31
                          unfold S_NH_whole_abt_c237_7 F_NH_whole_abt_c237_7
                          by_cases g32 : p525.1 = (0 : Int32)
                          ·
                            rw [if_pos g32, if_pos g32]
                            have g32i : p525.1.toInt = 0 := q_eqI g32
                            refine ⟨trivial, ?_⟩
                            first | exact hw | exact hw2 | exact hkw
                          ·
                            rw [if_neg g32, if_neg g32]
                            have g32i : p525.1.toInt ≠ 0 := q_neI g32
                            refine ⟨trivial, ?_⟩
                            first | exact hw | exact hw2 | exact hkw
                        ·
                          rw [if_neg g30, if_neg g30]
                          refine ⟨trivial, ?_⟩
                          first | exact hw | exact hw2 | exact hkw
                    ·
                      rw [if_neg g25, if_neg g25]
                      have g25i : x2.toInt ≠ 7 := q_neI g25
                      have h33 := T_mixBits (x2 := x2) (R := (68 : Int32)) (R2 := (68 : Int32)) (t0_0 := t0_0) (t0_1 := t0_1) (t1_0 := t1_0) (t2_0 := t14_0) (t2_1 := t14_1) (t3_0 := t15_0) (t4_0 := t14_0) (t4_1 := t14_1) (t5_0 := t15_0) hb hb (by omega) (by omega)
                      generalize F_Mil_mixBits x2 (68 : Int32) (68 : Int32) t0_0 t0_1 t1_0 t14_0 t14_1 t15_0 t14_0 t14_1 t15_0 = p134 at h33 ⊢
                      obtain ⟨_, hn⟩ := h33
                      unfold S_NH_whole_abt_c231 F_NH_whole_abt_c231
                      have h34 := T_keepWhole (x2 := x5) (t0_0 := (p134.1 : Int32)) (t0_1 := (p134.2.1 : Int32)) (t1_0 := (p134.2.2 : (Nat → Int32))) (t2_0 := t14_0) (t2_1 := t14_1) (t3_0 := t15_0) hn (by first | exact hw2 | exact hw) (by first | assumption | omega | trivial | decide) (by first | assumption | omega | trivial | decide)
                      refine v_owe h34.1 ?_
                      replace h34 := h34.2
                      generalize F_NH_keepWhole x5 (p134.1 : Int32) (p134.2.1 : Int32) (p134.2.2 : (Nat → Int32)) t14_0 t14_1 t15_0 = p157 at h34 ⊢
                      have hkw := h34
                      unfold S_NH_whole_abt_c237 F_NH_whole_abt_c237
                      by_cases g35 : p157.1 = (0 : Int32)
                      ·
                        rw [if_pos g35, if_pos g35]
                        have g35i : p157.1.toInt = 0 := q_eqI g35
                        refine ⟨trivial, ?_⟩
                        first | exact hw | exact hw2 | exact hkw
                      ·
                        rw [if_neg g35, if_neg g35]
                        have g35i : p157.1.toInt ≠ 0 := q_neI g35
                        refine ⟨trivial, ?_⟩
                        first | exact hw | exact hw2 | exact hkw
              ·
                rw [if_neg g13, if_neg g13]
                have g13i : x2.toInt ≤ 4 := q_nltI g13
                by_cases g36 : t14_0 ≤ (0 : Int32)
                ·
                  rw [if_pos g36, if_pos g36]
                  have g36i : t14_0.toInt ≤ 0 := q_leI g36
                  unfold S_NH_whole_abt_J94 F_NH_whole_abt_J94
                  have g37 : ¬ ((F_NH_canHave (0 : Int32)) = (0 : Int32)) := (by decide)
                  rw [if_neg g37, if_neg g37]
                  refine ⟨trivial, ?_⟩
                  first | exact hw | exact hw2 | exact hkw
                ·
                  rw [if_neg g36, if_neg g36]
                  have g36i : 0 < t14_0.toInt := q_nleI g36
                  unfold S_NH_whole_abt_J94 F_NH_whole_abt_J94
                  have g38 : ((F_NH_canHave (1 : Int32)) = (0 : Int32)) := (by decide)
                  rw [if_pos g38, if_pos g38]
                  by_cases g39 : x2 = (3 : Int32)
                  ·
                    rw [if_pos g39, if_pos g39]
                    have g39i : x2.toInt = 3 := q_eqI g39
                    have h40 := T_quotientOrRest_a (x2 := (1 : Int32)) (R3 := (68 : Int32)) (t0_0 := t0_0) (t0_1 := t0_1) (t1_0 := t1_0) (t2_0 := t2_0) (t2_1 := t2_1) (t3_0 := t3_0) (t4_0 := t14_0) (t4_1 := t14_1) (t5_0 := t15_0) hb (hb.pos.mp (by omega)) (hB.mono (by decide))
                    refine v_owe h40.1 ?_
                    replace h40 := h40.2
                    generalize F_Mil_quotientOrRest_a (1 : Int32) (68 : Int32) t0_0 t0_1 t1_0 t2_0 t2_1 t3_0 t14_0 t14_1 t15_0 = p972 at h40 ⊢
                    have hn := h40.1
                    have hb2 := h40.2.2
                    have hw2 : rW p972.2.2.2.2.2.2.1 p972.2.2.2.2.2.2.2.1 p972.2.2.2.2.2.2.2.2 := ⟨vb, hb2, hB⟩
                    unfold S_NH_whole_abt_c115_16 F_NH_whole_abt_c115_16
                    have h41 := T_keepWhole (x2 := x5) (t0_0 := (p972.1 : Int32)) (t0_1 := (p972.2.1 : Int32)) (t1_0 := (p972.2.2.1 : (Nat → Int32))) (t2_0 := (p972.2.2.2.2.2.2.1 : Int32)) (t2_1 := (p972.2.2.2.2.2.2.2.1 : Int32)) (t3_0 := (p972.2.2.2.2.2.2.2.2 : (Nat → Int32))) hn (by first | exact hw2 | exact hw) (by first | assumption | omega | trivial | decide) (by first | assumption | omega | trivial | decide)
                    refine v_owe h41.1 ?_
                    replace h41 := h41.2
                    generalize F_NH_keepWhole x5 (p972.1 : Int32) (p972.2.1 : Int32) (p972.2.2.1 : (Nat → Int32)) (p972.2.2.2.2.2.2.1 : Int32) (p972.2.2.2.2.2.2.2.1 : Int32) (p972.2.2.2.2.2.2.2.2 : (Nat → Int32)) = p1001 at h41 ⊢
                    have hkw := h41
                    unfold S_NH_whole_abt_c237_17 F_NH_whole_abt_c237_17
                    by_cases g42 : p1001.1 = (0 : Int32)
                    ·
                      rw [if_pos g42, if_pos g42]
                      have g42i : p1001.1.toInt = 0 := q_eqI g42
                      refine ⟨trivial, ?_⟩
                      first | exact hw | exact hw2 | exact hkw
                    ·
                      rw [if_neg g42, if_neg g42]
                      have g42i : p1001.1.toInt ≠ 0 := q_neI g42
                      refine ⟨trivial, ?_⟩
                      first | exact hw | exact hw2 | exact hkw
                  ·
                    rw [if_neg g39, if_neg g39]
                    have g39i : x2.toInt ≠ 3 := q_neI g39
                    have h43 := T_quotientOrRest_a (x2 := (0 : Int32)) (R3 := (68 : Int32)) (t0_0 := t0_0) (t0_1 := t0_1) (t1_0 := t1_0) (t2_0 := t2_0) (t2_1 := t2_1) (t3_0 := t3_0) (t4_0 := t14_0) (t4_1 := t14_1) (t5_0 := t15_0) hb (hb.pos.mp (by omega)) (hB.mono (by decide))
                    refine v_owe h43.1 ?_
                    replace h43 := h43.2
                    generalize F_Mil_quotientOrRest_a (0 : Int32) (68 : Int32) t0_0 t0_1 t1_0 t2_0 t2_1 t3_0 t14_0 t14_1 t15_0 = p876 at h43 ⊢
                    have hn := h43.1
                    have hb2 := h43.2.2
                    have hw2 : rW p876.2.2.2.2.2.2.1 p876.2.2.2.2.2.2.2.1 p876.2.2.2.2.2.2.2.2 := ⟨vb, hb2, hB⟩
                    unfold S_NH_whole_abt_c115 F_NH_whole_abt_c115
                    have h44 := T_keepWhole (x2 := x5) (t0_0 := (p876.1 : Int32)) (t0_1 := (p876.2.1 : Int32)) (t1_0 := (p876.2.2.1 : (Nat → Int32))) (t2_0 := (p876.2.2.2.2.2.2.1 : Int32)) (t2_1 := (p876.2.2.2.2.2.2.2.1 : Int32)) (t3_0 := (p876.2.2.2.2.2.2.2.2 : (Nat → Int32))) hn (by first | exact hw2 | exact hw) (by first | assumption | omega | trivial | decide) (by first | assumption | omega | trivial | decide)
                    refine v_owe h44.1 ?_
                    replace h44 := h44.2
                    generalize F_NH_keepWhole x5 (p876.1 : Int32) (p876.2.1 : Int32) (p876.2.2.1 : (Nat → Int32)) (p876.2.2.2.2.2.2.1 : Int32) (p876.2.2.2.2.2.2.2.1 : Int32) (p876.2.2.2.2.2.2.2.2 : (Nat → Int32)) = p905 at h44 ⊢
                    have hkw := h44
                    unfold S_NH_whole_abt_c237_15 F_NH_whole_abt_c237_15
                    by_cases g45 : p905.1 = (0 : Int32)
                    ·
                      rw [if_pos g45, if_pos g45]
                      have g45i : p905.1.toInt = 0 := q_eqI g45
                      refine ⟨trivial, ?_⟩
                      first | exact hw | exact hw2 | exact hkw
                    ·
                      rw [if_neg g45, if_neg g45]
                      have g45i : p905.1.toInt ≠ 0 := q_neI g45
                      refine ⟨trivial, ?_⟩
                      first | exact hw | exact hw2 | exact hkw
            ·
              rw [if_neg g12, if_neg g12]
              have g12i : x2.toInt ≤ 2 := q_nltI g12
              have h46 := T_addOrMultiply (x2 := x2) (R := (68 : Int32)) (R2 := (68 : Int32)) (t0_0 := t0_0) (t0_1 := t0_1) (t1_0 := t1_0) (t2_0 := t14_0) (t2_1 := t14_1) (t3_0 := t15_0) (t4_0 := t14_0) (t4_1 := t14_1) (t5_0 := t15_0) hb hb (by first | assumption | omega | trivial | decide)
              generalize F_Mil_addOrMultiply x2 (68 : Int32) (68 : Int32) t0_0 t0_1 t1_0 t14_0 t14_1 t15_0 t14_0 t14_1 t15_0 = p1050 at h46 ⊢
              have hn := h46
              unfold S_NH_whole_abt_c70 F_NH_whole_abt_c70
              have h47 := T_keepWhole (x2 := x5) (t0_0 := (p1050.1 : Int32)) (t0_1 := (p1050.2.1 : Int32)) (t1_0 := (p1050.2.2 : (Nat → Int32))) (t2_0 := t14_0) (t2_1 := t14_1) (t3_0 := t15_0) hn (by first | exact hw2 | exact hw) (by first | assumption | omega | trivial | decide) (by first | assumption | omega | trivial | decide)
              refine v_owe h47.1 ?_
              replace h47 := h47.2
              generalize F_NH_keepWhole x5 (p1050.1 : Int32) (p1050.2.1 : Int32) (p1050.2.2 : (Nat → Int32)) t14_0 t14_1 t15_0 = p1073 at h47 ⊢
              have hkw := h47
              unfold S_NH_whole_abt_c237_19 F_NH_whole_abt_c237_19
              by_cases g48 : p1073.1 = (0 : Int32)
              ·
                rw [if_pos g48, if_pos g48]
                have g48i : p1073.1.toInt = 0 := q_eqI g48
                refine ⟨trivial, ?_⟩
                first | exact hw | exact hw2 | exact hkw
              ·
                rw [if_neg g48, if_neg g48]
                have g48i : p1073.1.toInt ≠ 0 := q_neI g48
                refine ⟨trivial, ?_⟩
                first | exact hw | exact hw2 | exact hkw
def Q_wholeBy (p : Int32 × Int32 × Int32 × (Nat → Int32) × Int32 × Int32 × (Nat → Int32) × Int32 × Int32 × (Nat → Int32) × Int32 × Int32 × (Nat → Int32) × Int32 × Int32 × (Nat → Int32) × Int32 × Int32 × (Nat → Int32) × Int32 × Int32 × (Nat → Int32) × Int32 × Int32 × (Nat → Int32)) : Prop := rW p.2.2.2.2.2.2.2.2.2.2.2.2.2.2.2.2.2.2.2.2.2.2.1 p.2.2.2.2.2.2.2.2.2.2.2.2.2.2.2.2.2.2.2.2.2.2.2.1 p.2.2.2.2.2.2.2.2.2.2.2.2.2.2.2.2.2.2.2.2.2.2.2.2
theorem T_wholeBy {x2 : Int32} {x3 : Int32} {x4 : Int32} {x5 : Int32} {t0_0 : Int32} {t0_1 : Int32} {t1_0 : (Nat → Int32)} {t2_0 : Int32} {t2_1 : Int32} {t3_0 : (Nat → Int32)} {t4_0 : Int32} {t4_1 : Int32} {t5_0 : (Nat → Int32)} {t6_0 : Int32} {t6_1 : Int32} {t7_0 : (Nat → Int32)} {t8_0 : Int32} {t8_1 : Int32} {t9_0 : (Nat → Int32)} {t10_0 : Int32} {t10_1 : Int32} {t11_0 : (Nat → Int32)} {t12_0 : Int32} {t12_1 : Int32} {t13_0 : (Nat → Int32)} {t14_0 : Int32} {t14_1 : Int32} {t15_0 : (Nat → Int32)} {t16_0 : Int32} {t16_1 : Int32} {t17_0 : (Nat → Int32)} {va : Int} (ha : bO 68 t14_0 t14_1 t15_0 va) (hA : bB 67 va) (hw : rW t16_0 t16_1 t17_0) : (S_NH_wholeBy x2 x3 x4 x5 t0_0 t0_1 t1_0 t2_0 t2_1 t3_0 t4_0 t4_1 t5_0 t6_0 t6_1 t7_0 t8_0 t8_1 t9_0 t10_0 t10_1 t11_0 t12_0 t12_1 t13_0 t14_0 t14_1 t15_0 t16_0 t16_1 t17_0) ∧ Q_wholeBy (F_NH_wholeBy x2 x3 x4 x5 t0_0 t0_1 t1_0 t2_0 t2_1 t3_0 t4_0 t4_1 t5_0 t6_0 t6_1 t7_0 t8_0 t8_1 t9_0 t10_0 t10_1 t11_0 t12_0 t12_1 t13_0 t14_0 t14_1 t15_0 t16_0 t16_1 t17_0) := by
  have e0 : (0 : Int32).toInt = 0 := rfl
  have e220 : (220 : Int32).toInt = 220 := rfl
  have e68 : (68 : Int32).toInt = 68 := rfl
  have sa : t14_0.toInt ≤ 68 := ha.2.2.2.1
  unfold S_NH_wholeBy F_NH_wholeBy
  by_cases g1 : x2 < (0 : Int32)
  ·
    rw [if_pos g1, if_pos g1]
    have g1i : x2.toInt < 0 := q_ltI g1
    unfold S_NH_wholeBy_J28 F_NH_wholeBy_J28
    unfold S_NH_wholeBy_J29 F_NH_wholeBy_J29
    have g2 : ¬ ((F_NH_need (0 : Int32)) = (0 : Int32)) := (by decide)
    rw [if_neg g2, if_neg g2]
    refine ⟨trivial, ?_⟩
    first | exact hw | exact hkw
  ·
    rw [if_neg g1, if_neg g1]
    have g1i : 0 ≤ x2.toInt := q_nltI g1
    by_cases g3 : (2 : Int32) < x2
    ·
      rw [if_pos g3, if_pos g3]
      have g3i : 2 < x2.toInt := q_ltI g3
      unfold S_NH_wholeBy_J28 F_NH_wholeBy_J28
      unfold S_NH_wholeBy_J29 F_NH_wholeBy_J29
      have g4 : ¬ ((F_NH_need (0 : Int32)) = (0 : Int32)) := (by decide)
      rw [if_neg g4, if_neg g4]
      refine ⟨trivial, ?_⟩
      first | exact hw | exact hkw
    ·
      rw [if_neg g3, if_neg g3]
      have g3i : x2.toInt ≤ 2 := q_nltI g3
      by_cases g5 : ((F_NH_isRegister x3) : Int32) = (0 : Int32)
      ·
        rw [if_pos g5, if_pos g5]
        unfold S_NH_wholeBy_J28 F_NH_wholeBy_J28
        unfold S_NH_wholeBy_J29 F_NH_wholeBy_J29
        have g6 : ¬ ((F_NH_need (0 : Int32)) = (0 : Int32)) := (by decide)
        rw [if_neg g6, if_neg g6]
        refine ⟨trivial, ?_⟩
        first | exact hw | exact hkw
      ·
        rw [if_neg g5, if_neg g5]
        have g5r := v_isReg g5
        by_cases g7 : ((F_NH_isRegister x5) : Int32) = (0 : Int32)
        ·
          rw [if_pos g7, if_pos g7]
          unfold S_NH_wholeBy_J28 F_NH_wholeBy_J28
          unfold S_NH_wholeBy_J29 F_NH_wholeBy_J29
          have g8 : ¬ ((F_NH_need (0 : Int32)) = (0 : Int32)) := (by decide)
          rw [if_neg g8, if_neg g8]
          refine ⟨trivial, ?_⟩
          first | exact hw | exact hkw
        ·
          rw [if_neg g7, if_neg g7]
          have g7r := v_isReg g7
          unfold S_NH_wholeBy_J29 F_NH_wholeBy_J29
          have g9 : ((F_NH_need (1 : Int32)) = (0 : Int32)) := (by decide)
          rw [if_pos g9, if_pos g9]
          by_cases g10 : x2 = (0 : Int32)
          ·
            rw [if_pos g10, if_pos g10]
            have g10i : x2.toInt = 0 := q_eqI g10
            by_cases g11 : x4 < (0 : Int32)
            ·
              rw [if_pos g11, if_pos g11]
              have g11i : x4.toInt < 0 := q_ltI g11
              unfold S_NH_wholeBy_J45 F_NH_wholeBy_J45
              have g12 : ¬ ((F_NH_need (0 : Int32)) = (0 : Int32)) := (by decide)
              rw [if_neg g12, if_neg g12]
              refine ⟨trivial, ?_⟩
              first | exact hw | exact hkw
            ·
              rw [if_neg g11, if_neg g11]
              have g11i : 0 ≤ x4.toInt := q_nltI g11
              unfold S_NH_wholeBy_J40 F_NH_wholeBy_J40
              unfold S_NH_wholeBy_J45 F_NH_wholeBy_J45
              have g13 : ((F_NH_need (1 : Int32)) = (0 : Int32)) := (by decide)
              rw [if_pos g13, if_pos g13]
              by_cases g14 : x2 = (1 : Int32)
              ·
                rw [if_pos g14, if_pos g14]
                have g14i : x2.toInt = 1 := q_eqI g14
                by_cases g15 : x4 < (1 : Int32)
                ·
                  rw [if_pos g15, if_pos g15]
                  have g15i : x4.toInt < 1 := q_ltI g15
                  unfold S_NH_wholeBy_J68 F_NH_wholeBy_J68
                  unfold S_NH_wholeBy_J69 F_NH_wholeBy_J69
                  have g16 : ¬ ((F_NH_need (0 : Int32)) = (0 : Int32)) := (by decide)
                  rw [if_neg g16, if_neg g16]
                  refine ⟨trivial, ?_⟩
                  first | exact hw | exact hkw
                ·
                  rw [if_neg g15, if_neg g15]
                  have g15i : 1 ≤ x4.toInt := q_nltI g15
                  by_cases g17 : (64 : Int32) < x4
                  ·
                    rw [if_pos g17, if_pos g17]
                    have g17i : 64 < x4.toInt := q_ltI g17
                    unfold S_NH_wholeBy_J68 F_NH_wholeBy_J68
                    unfold S_NH_wholeBy_J69 F_NH_wholeBy_J69
                    have g18 : ¬ ((F_NH_need (0 : Int32)) = (0 : Int32)) := (by decide)
                    rw [if_neg g18, if_neg g18]
                    refine ⟨trivial, ?_⟩
                    first | exact hw | exact hkw
                  ·
                    rw [if_neg g17, if_neg g17]
                    have g17i : x4.toInt ≤ 64 := q_nltI g17
                    unfold S_NH_wholeBy_J64 F_NH_wholeBy_J64
                    unfold S_NH_wholeBy_J69 F_NH_wholeBy_J69
                    have g19 : ((F_NH_need (1 : Int32)) = (0 : Int32)) := (by decide)
                    rw [if_pos g19, if_pos g19]
                    refine v_cons (by omega) ?_
                    refine v_cons (by omega) ?_
                    rw [if_pos g10, if_pos g10]
                    have h20 := T_power (N := 67) (R := (68 : Int32)) (x3 := x4) (x4 := (2048 : Int32)) (t0_0 := t4_0) (t0_1 := t4_1) (t1_0 := t5_0) (t2_0 := t8_0) (t2_1 := t8_1) (t3_0 := t9_0) (t4_0 := t14_0) (t4_1 := t14_1) (t5_0 := t15_0) ha (by omega) (by decide) trivial (by decide) (by decide) (by omega)
                    generalize F_Mil_power (68 : Int32) x4 (2048 : Int32) t4_0 t4_1 t5_0 t8_0 t8_1 t9_0 t14_0 t14_1 t15_0 = p517 at h20 ⊢
                    unfold S_NH_wholeBy_c94 F_NH_wholeBy_c94
                    rcases h20 with ⟨_, ⟨h200, _⟩ | ⟨h201, _, _⟩, h20n⟩
                    ·
                      have g21 : ¬ ((F_NH_canHave (p517.1 : Int32)) = (0 : Int32)) := (by rw [h200]; decide)
                      rw [if_neg g21, if_neg g21]
                      refine ⟨trivial, ?_⟩
                      first | exact hw | exact hkw
                    ·
                      have hn := h20n
                      have g22 : ((F_NH_canHave (p517.1 : Int32)) = (0 : Int32)) := (by rw [h201]; decide)
                      rw [if_pos g22, if_pos g22]
                      have h23 := W_copy  (R := (220 : Int32)) (s := t0_0) (neg := t0_1) (f := t1_0) hn (by have z := hn.fit; omega) (by decide)
                      generalize F_Big_copy (220 : Int32) (220 : Int32) t0_0 t0_1 t1_0 (p517.2.1 : Int32) (p517.2.2.1 : Int32) (p517.2.2.2.1 : (Nat → Int32)) = p554 at h23 ⊢
                      have hn := h23
                      unfold S_NH_wholeBy_c114 F_NH_wholeBy_c114
                      have h24 := T_keepWhole (x2 := x5) (t0_0 := (p554.1 : Int32)) (t0_1 := (p554.2.1 : Int32)) (t1_0 := (p554.2.2 : (Nat → Int32))) (t2_0 := t16_0) (t2_1 := t16_1) (t3_0 := t17_0) hn hw (by first | assumption | omega | trivial | decide) (by first | assumption | omega | trivial | decide)
                      refine v_owe h24.1 ?_
                      replace h24 := h24.2
                      generalize F_NH_keepWhole x5 (p554.1 : Int32) (p554.2.1 : Int32) (p554.2.2 : (Nat → Int32)) t16_0 t16_1 t17_0 = p577 at h24 ⊢
                      have hkw := h24
                      unfold S_NH_wholeBy_c187_12 F_NH_wholeBy_c187_12
                      by_cases g25 : p577.1 = (0 : Int32)
                      ·
                        rw [if_pos g25, if_pos g25]
                        have g25i : p577.1.toInt = 0 := q_eqI g25
                        refine ⟨trivial, ?_⟩
                        first | exact hw | exact hkw
                      ·
                        rw [if_neg g25, if_neg g25]
                        have g25i : p577.1.toInt ≠ 0 := q_neI g25
                        refine ⟨trivial, ?_⟩
                        first | exact hw | exact hkw
              ·
                rw [if_neg g14, if_neg g14]
                have g14i : x2.toInt ≠ 1 := q_neI g14
                unfold S_NH_wholeBy_J64 F_NH_wholeBy_J64
                unfold S_NH_wholeBy_J69 F_NH_wholeBy_J69
                have g26 : ((F_NH_need (1 : Int32)) = (0 : Int32)) := (by decide)
                rw [if_pos g26, if_pos g26]
                refine v_cons (by omega) ?_
                refine v_cons (by omega) ?_
                rw [if_pos g10, if_pos g10]
                have h27 := T_power (N := 67) (R := (68 : Int32)) (x3 := x4) (x4 := (2048 : Int32)) (t0_0 := t4_0) (t0_1 := t4_1) (t1_0 := t5_0) (t2_0 := t8_0) (t2_1 := t8_1) (t3_0 := t9_0) (t4_0 := t14_0) (t4_1 := t14_1) (t5_0 := t15_0) ha (by omega) (by decide) trivial (by decide) (by decide) (by omega)
                generalize F_Mil_power (68 : Int32) x4 (2048 : Int32) t4_0 t4_1 t5_0 t8_0 t8_1 t9_0 t14_0 t14_1 t15_0 = p517_28 at h27 ⊢
                unfold S_NH_wholeBy_c94 F_NH_wholeBy_c94
                rcases h27 with ⟨_, ⟨h270, _⟩ | ⟨h271, _, _⟩, h27n⟩
                ·
                  have g29 : ¬ ((F_NH_canHave (p517_28.1 : Int32)) = (0 : Int32)) := (by rw [h270]; decide)
                  rw [if_neg g29, if_neg g29]
                  refine ⟨trivial, ?_⟩
                  first | exact hw | exact hkw
                ·
                  have hn := h27n
                  have g30 : ((F_NH_canHave (p517_28.1 : Int32)) = (0 : Int32)) := (by rw [h271]; decide)
                  rw [if_pos g30, if_pos g30]
                  have h31 := W_copy  (R := (220 : Int32)) (s := t0_0) (neg := t0_1) (f := t1_0) hn (by have z := hn.fit; omega) (by decide)
                  generalize F_Big_copy (220 : Int32) (220 : Int32) t0_0 t0_1 t1_0 (p517_28.2.1 : Int32) (p517_28.2.2.1 : Int32) (p517_28.2.2.2.1 : (Nat → Int32)) = p554 at h31 ⊢
                  have hn := h31
                  unfold S_NH_wholeBy_c114 F_NH_wholeBy_c114
                  have h32 := T_keepWhole (x2 := x5) (t0_0 := (p554.1 : Int32)) (t0_1 := (p554.2.1 : Int32)) (t1_0 := (p554.2.2 : (Nat → Int32))) (t2_0 := t16_0) (t2_1 := t16_1) (t3_0 := t17_0) hn hw (by first | assumption | omega | trivial | decide) (by first | assumption | omega | trivial | decide)
                  refine v_owe h32.1 ?_
                  replace h32 := h32.2
                  generalize F_NH_keepWhole x5 (p554.1 : Int32) (p554.2.1 : Int32) (p554.2.2 : (Nat → Int32)) t16_0 t16_1 t17_0 = p577 at h32 ⊢
                  have hkw := h32
                  unfold S_NH_wholeBy_c187_12 F_NH_wholeBy_c187_12
                  by_cases g33 : p577.1 = (0 : Int32)
                  ·
                    rw [if_pos g33, if_pos g33]
                    have g33i : p577.1.toInt = 0 := q_eqI g33
                    refine ⟨trivial, ?_⟩
                    first | exact hw | exact hkw
                  ·
                    rw [if_neg g33, if_neg g33]
                    have g33i : p577.1.toInt ≠ 0 := q_neI g33
                    refine ⟨trivial, ?_⟩
                    first | exact hw | exact hkw
          ·
            rw [if_neg g10, if_neg g10]
            have g10i : x2.toInt ≠ 0 := q_neI g10
            unfold S_NH_wholeBy_J40 F_NH_wholeBy_J40
            unfold S_NH_wholeBy_J45 F_NH_wholeBy_J45
            have g34 : ((F_NH_need (1 : Int32)) = (0 : Int32)) := (by decide)
            rw [if_pos g34, if_pos g34]
            by_cases g35 : x2 = (1 : Int32)
            ·
              rw [if_pos g35, if_pos g35]
              have g35i : x2.toInt = 1 := q_eqI g35
              by_cases g36 : x4 < (1 : Int32)
              ·
                rw [if_pos g36, if_pos g36]
                have g36i : x4.toInt < 1 := q_ltI g36
                unfold S_NH_wholeBy_J68 F_NH_wholeBy_J68
                unfold S_NH_wholeBy_J69 F_NH_wholeBy_J69
                have g37 : ¬ ((F_NH_need (0 : Int32)) = (0 : Int32)) := (by decide)
                rw [if_neg g37, if_neg g37]
                refine ⟨trivial, ?_⟩
                first | exact hw | exact hkw
              ·
                rw [if_neg g36, if_neg g36]
                have g36i : 1 ≤ x4.toInt := q_nltI g36
                by_cases g38 : (64 : Int32) < x4
                ·
                  rw [if_pos g38, if_pos g38]
                  have g38i : 64 < x4.toInt := q_ltI g38
                  unfold S_NH_wholeBy_J68 F_NH_wholeBy_J68
                  unfold S_NH_wholeBy_J69 F_NH_wholeBy_J69
                  have g39 : ¬ ((F_NH_need (0 : Int32)) = (0 : Int32)) := (by decide)
                  rw [if_neg g39, if_neg g39]
                  refine ⟨trivial, ?_⟩
                  first | exact hw | exact hkw
                ·
                  rw [if_neg g38, if_neg g38]
                  have g38i : x4.toInt ≤ 64 := q_nltI g38
                  unfold S_NH_wholeBy_J64 F_NH_wholeBy_J64
                  unfold S_NH_wholeBy_J69 F_NH_wholeBy_J69
                  have g40 : ((F_NH_need (1 : Int32)) = (0 : Int32)) := (by decide)
                  rw [if_pos g40, if_pos g40]
                  refine v_cons (by omega) ?_
                  refine v_cons (by omega) ?_
                  rw [if_neg g10, if_neg g10]
                  rw [if_pos g35, if_pos g35]
                  by_cases g41 : ((F_Big_sign (68 : Int32) t14_0 t14_1) : Int32) < (0 : Int32)
                  ·
                    rw [if_pos g41, if_pos g41]
                    unfold S_NH_wholeBy_J138 F_NH_wholeBy_J138
                    have g42 : ¬ ((F_NH_canHave (0 : Int32)) = (0 : Int32)) := (by decide)
                    rw [if_neg g42, if_neg g42]
                    refine ⟨trivial, ?_⟩
                    first | exact hw | exact hkw
                  ·
                    rw [if_neg g41, if_neg g41]
                    have hvs := v_sgnN ha g41
                    unfold S_NH_wholeBy_J138 F_NH_wholeBy_J138
                    have g43 : ((F_NH_canHave (1 : Int32)) = (0 : Int32)) := (by decide)
                    rw [if_pos g43, if_pos g43]
                    have h44 := T_root (Ma := 67) (R := (68 : Int32)) (x3 := x4) (t0_0 := t6_0) (t0_1 := t6_1) (t1_0 := t7_0) (t2_0 := t4_0) (t2_1 := t4_1) (t3_0 := t5_0) (t4_0 := t8_0) (t4_1 := t8_1) (t5_0 := t9_0) (t6_0 := t10_0) (t6_1 := t10_1) (t7_0 := t11_0) (t8_0 := t12_0) (t8_1 := t12_1) (t9_0 := t13_0) (t10_0 := t2_0) (t10_1 := t2_1) (t11_0 := t3_0) (t12_0 := t14_0) (t12_1 := t14_1) (t13_0 := t15_0) ha hA (by decide) (by decide) (by omega) (by omega) trivial trivial trivial trivial trivial
                    refine v_owe h44.1 ?_
                    replace h44 := h44.2
                    generalize F_Mil_root (68 : Int32) x4 t6_0 t6_1 t7_0 t4_0 t4_1 t5_0 t8_0 t8_1 t9_0 t10_0 t10_1 t11_0 t12_0 t12_1 t13_0 t2_0 t2_1 t3_0 t14_0 t14_1 t15_0 = p394 at h44 ⊢
                    obtain ⟨_, _, hn⟩ := h44.1
                    unfold S_NH_wholeBy_c148 F_NH_wholeBy_c148
                    have h45 := W_copy  (R := (220 : Int32)) (s := t0_0) (neg := t0_1) (f := t1_0) hn (by have z := hn.fit; omega) (by decide)
                    generalize F_Big_copy (220 : Int32) (220 : Int32) t0_0 t0_1 t1_0 (p394.1 : Int32) (p394.2.1 : Int32) (p394.2.2.1 : (Nat → Int32)) = p433 at h45 ⊢
                    have hn := h45
                    unfold S_NH_wholeBy_c165 F_NH_wholeBy_c165
                    have h46 := T_keepWhole (x2 := x5) (t0_0 := (p433.1 : Int32)) (t0_1 := (p433.2.1 : Int32)) (t1_0 := (p433.2.2 : (Nat → Int32))) (t2_0 := t16_0) (t2_1 := t16_1) (t3_0 := t17_0) hn hw (by first | assumption | omega | trivial | decide) (by first | assumption | omega | trivial | decide)
                    refine v_owe h46.1 ?_
                    replace h46 := h46.2
                    generalize F_NH_keepWhole x5 (p433.1 : Int32) (p433.2.1 : Int32) (p433.2.2 : (Nat → Int32)) t16_0 t16_1 t17_0 = p456 at h46 ⊢
                    have hkw := h46
                    unfold S_NH_wholeBy_c187_9 F_NH_wholeBy_c187_9
                    by_cases g47 : p456.1 = (0 : Int32)
                    ·
                      rw [if_pos g47, if_pos g47]
                      have g47i : p456.1.toInt = 0 := q_eqI g47
                      refine ⟨trivial, ?_⟩
                      first | exact hw | exact hkw
                    ·
                      rw [if_neg g47, if_neg g47]
                      have g47i : p456.1.toInt ≠ 0 := q_neI g47
                      refine ⟨trivial, ?_⟩
                      first | exact hw | exact hkw
            ·
              rw [if_neg g35, if_neg g35]
              have g35i : x2.toInt ≠ 1 := q_neI g35
              unfold S_NH_wholeBy_J64 F_NH_wholeBy_J64
              unfold S_NH_wholeBy_J69 F_NH_wholeBy_J69
              have g48 : ((F_NH_need (1 : Int32)) = (0 : Int32)) := (by decide)
              rw [if_pos g48, if_pos g48]
              refine v_cons (by omega) ?_
              refine v_cons (by omega) ?_
              rw [if_neg g10, if_neg g10]
              rw [if_neg g35, if_neg g35]
              have h49 := T_shifted (M := 67) (R := (68 : Int32)) (x3 := x4) (t0_0 := t0_0) (t0_1 := t0_1) (t1_0 := t1_0) (t2_0 := t12_0) (t2_1 := t12_1) (t3_0 := t13_0) (t4_0 := t14_0) (t4_1 := t14_1) (t5_0 := t15_0) ha hA (by decide) trivial
              generalize F_Mil_shifted (68 : Int32) x4 t0_0 t0_1 t1_0 t12_0 t12_1 t13_0 t14_0 t14_1 t15_0 = p219 at h49 ⊢
              obtain ⟨_, hn⟩ := h49.2.1
              unfold S_NH_wholeBy_c178 F_NH_wholeBy_c178
              by_cases g50 : (F_NH_canHave (p219.1 : Int32)) = (0 : Int32)
              ·
                rw [if_pos g50, if_pos g50]
                have h51 := T_keepWhole (x2 := x5) (t0_0 := (p219.2.1 : Int32)) (t0_1 := (p219.2.2.1 : Int32)) (t1_0 := (p219.2.2.2.1 : (Nat → Int32))) (t2_0 := t16_0) (t2_1 := t16_1) (t3_0 := t17_0) hn hw (by first | assumption | omega | trivial | decide) (by first | assumption | omega | trivial | decide)
                refine v_owe h51.1 ?_
                replace h51 := h51.2
                generalize F_NH_keepWhole x5 (p219.2.1 : Int32) (p219.2.2.1 : Int32) (p219.2.2.2.1 : (Nat → Int32)) t16_0 t16_1 t17_0 = p255 at h51 ⊢
                have hkw := h51
                unfold S_NH_wholeBy_c187 F_NH_wholeBy_c187
                by_cases g52 : p255.1 = (0 : Int32)
                ·
                  rw [if_pos g52, if_pos g52]
                  have g52i : p255.1.toInt = 0 := q_eqI g52
                  refine ⟨trivial, ?_⟩
                  first | exact hw | exact hkw
                ·
                  rw [if_neg g52, if_neg g52]
                  have g52i : p255.1.toInt ≠ 0 := q_neI g52
                  refine ⟨trivial, ?_⟩
                  first | exact hw | exact hkw
              ·
                rw [if_neg g50, if_neg g50]
                refine ⟨trivial, ?_⟩
                first | exact hw | exact hkw
def Q_powerModulo (vm : Int) (p : Int32 × Int32 × Int32 × (Nat → Int32) × Int32 × Int32 × (Nat → Int32) × Int32 × Int32 × (Nat → Int32) × Int32 × Int32 × (Nat → Int32) × Int32 × Int32 × (Nat → Int32) × Int32 × Int32 × (Nat → Int32) × Int32 × Int32 × (Nat → Int32) × Int32 × Int32 × (Nat → Int32) × Int32 × Int32 × (Nat → Int32) × Int32 × Int32 × (Nat → Int32)) : Prop := rW p.2.2.2.2.2.2.2.2.2.2.2.2.2.2.2.2.2.2.2.2.2.2.2.2.2.2.2.2.1 p.2.2.2.2.2.2.2.2.2.2.2.2.2.2.2.2.2.2.2.2.2.2.2.2.2.2.2.2.2.1 p.2.2.2.2.2.2.2.2.2.2.2.2.2.2.2.2.2.2.2.2.2.2.2.2.2.2.2.2.2.2 ∧ bO 68 p.2.2.2.2.2.2.2.2.2.2.2.2.2.2.2.2.2.2.2.2.2.2.2.2.2.1 p.2.2.2.2.2.2.2.2.2.2.2.2.2.2.2.2.2.2.2.2.2.2.2.2.2.2.1 p.2.2.2.2.2.2.2.2.2.2.2.2.2.2.2.2.2.2.2.2.2.2.2.2.2.2.2.1 vm
theorem T_powerModulo {x2 : Int32} {x3 : Int32} {x4 : Int32} {x5 : Int32} {t0_0 : Int32} {t0_1 : Int32} {t1_0 : (Nat → Int32)} {t2_0 : Int32} {t2_1 : Int32} {t3_0 : (Nat → Int32)} {t4_0 : Int32} {t4_1 : Int32} {t5_0 : (Nat → Int32)} {t6_0 : Int32} {t6_1 : Int32} {t7_0 : (Nat → Int32)} {t8_0 : Int32} {t8_1 : Int32} {t9_0 : (Nat → Int32)} {t10_0 : Int32} {t10_1 : Int32} {t11_0 : (Nat → Int32)} {t12_0 : Int32} {t12_1 : Int32} {t13_0 : (Nat → Int32)} {t14_0 : Int32} {t14_1 : Int32} {t15_0 : (Nat → Int32)} {t16_0 : Int32} {t16_1 : Int32} {t17_0 : (Nat → Int32)} {t18_0 : Int32} {t18_1 : Int32} {t19_0 : (Nat → Int32)} {t20_0 : Int32} {t20_1 : Int32} {t21_0 : (Nat → Int32)} {t22_0 : Int32} {t22_1 : Int32} {t23_0 : (Nat → Int32)} {va ve vm : Int} (ha : bO 68 t16_0 t16_1 t17_0 va) (hA : bB 67 va) (he : bO 68 t18_0 t18_1 t19_0 ve) (hm : bO 68 t20_0 t20_1 t21_0 vm) (hM : bB 67 vm) (hw : rW t22_0 t22_1 t23_0) : (S_NH_powerModulo x2 x3 x4 x5 t0_0 t0_1 t1_0 t2_0 t2_1 t3_0 t4_0 t4_1 t5_0 t6_0 t6_1 t7_0 t8_0 t8_1 t9_0 t10_0 t10_1 t11_0 t12_0 t12_1 t13_0 t14_0 t14_1 t15_0 t16_0 t16_1 t17_0 t18_0 t18_1 t19_0 t20_0 t20_1 t21_0 t22_0 t22_1 t23_0) ∧ Q_powerModulo vm (F_NH_powerModulo x2 x3 x4 x5 t0_0 t0_1 t1_0 t2_0 t2_1 t3_0 t4_0 t4_1 t5_0 t6_0 t6_1 t7_0 t8_0 t8_1 t9_0 t10_0 t10_1 t11_0 t12_0 t12_1 t13_0 t14_0 t14_1 t15_0 t16_0 t16_1 t17_0 t18_0 t18_1 t19_0 t20_0 t20_1 t21_0 t22_0 t22_1 t23_0) := by
  have e0 : (0 : Int32).toInt = 0 := rfl
  have e220 : (220 : Int32).toInt = 220 := rfl
  have e68 : (68 : Int32).toInt = 68 := rfl
  have sm : t20_0.toInt ≤ 68 := hm.2.2.2.1
  unfold S_NH_powerModulo F_NH_powerModulo
  by_cases g1 : ((F_NH_isRegister x2) : Int32) = (0 : Int32)
  ·
    rw [if_pos g1, if_pos g1]
    unfold S_NH_powerModulo_J33 F_NH_powerModulo_J33
    unfold S_NH_powerModulo_J34 F_NH_powerModulo_J34
    have g2 : ¬ ((F_NH_need (0 : Int32)) = (0 : Int32)) := (by decide)
    rw [if_neg g2, if_neg g2]
    refine ⟨trivial, ?_⟩
    first | exact ⟨hw, hm⟩ | exact ⟨hw, hm2⟩ | exact ⟨hkw, hm2⟩
  ·
    rw [if_neg g1, if_neg g1]
    have g1r := v_isReg g1
    by_cases g3 : ((F_NH_isRegister x3) : Int32) = (0 : Int32)
    ·
      rw [if_pos g3, if_pos g3]
      unfold S_NH_powerModulo_J33 F_NH_powerModulo_J33
      unfold S_NH_powerModulo_J34 F_NH_powerModulo_J34
      have g4 : ¬ ((F_NH_need (0 : Int32)) = (0 : Int32)) := (by decide)
      rw [if_neg g4, if_neg g4]
      refine ⟨trivial, ?_⟩
      first | exact ⟨hw, hm⟩ | exact ⟨hw, hm2⟩ | exact ⟨hkw, hm2⟩
    ·
      rw [if_neg g3, if_neg g3]
      have g3r := v_isReg g3
      by_cases g5 : ((F_NH_isRegister x4) : Int32) = (0 : Int32)
      ·
        rw [if_pos g5, if_pos g5]
        unfold S_NH_powerModulo_J33 F_NH_powerModulo_J33
        unfold S_NH_powerModulo_J34 F_NH_powerModulo_J34
        have g6 : ¬ ((F_NH_need (0 : Int32)) = (0 : Int32)) := (by decide)
        rw [if_neg g6, if_neg g6]
        refine ⟨trivial, ?_⟩
        first | exact ⟨hw, hm⟩ | exact ⟨hw, hm2⟩ | exact ⟨hkw, hm2⟩
      ·
        rw [if_neg g5, if_neg g5]
        have g5r := v_isReg g5
        by_cases g7 : ((F_NH_isRegister x5) : Int32) = (0 : Int32)
        ·
          rw [if_pos g7, if_pos g7]
          unfold S_NH_powerModulo_J33 F_NH_powerModulo_J33
          unfold S_NH_powerModulo_J34 F_NH_powerModulo_J34
          have g8 : ¬ ((F_NH_need (0 : Int32)) = (0 : Int32)) := (by decide)
          rw [if_neg g8, if_neg g8]
          refine ⟨trivial, ?_⟩
          first | exact ⟨hw, hm⟩ | exact ⟨hw, hm2⟩ | exact ⟨hkw, hm2⟩
        ·
          rw [if_neg g7, if_neg g7]
          have g7r := v_isReg g7
          unfold S_NH_powerModulo_J34 F_NH_powerModulo_J34
          have g9 : ((F_NH_need (1 : Int32)) = (0 : Int32)) := (by decide)
          rw [if_pos g9, if_pos g9]
          refine v_cons (by omega) ?_
          refine v_cons (by omega) ?_
          by_cases g10 : ((F_Big_sign (68 : Int32) t20_0 t20_1) : Int32) ≤ (0 : Int32)
          ·
            rw [if_pos g10, if_pos g10]
            unfold S_NH_powerModulo_J54 F_NH_powerModulo_J54
            have g11 : ¬ ((F_NH_canHave (0 : Int32)) = (0 : Int32)) := (by decide)
            rw [if_neg g11, if_neg g11]
            refine ⟨trivial, ?_⟩
            first | exact ⟨hw, hm⟩ | exact ⟨hw, hm2⟩ | exact ⟨hkw, hm2⟩
          ·
            rw [if_neg g10, if_neg g10]
            have hvs := v_sgnP hm g10
            unfold S_NH_powerModulo_J54 F_NH_powerModulo_J54
            have g12 : ((F_NH_canHave (1 : Int32)) = (0 : Int32)) := (by decide)
            rw [if_pos g12, if_pos g12]
            refine v_cons (by omega) ?_
            refine v_cons (by omega) ?_
            by_cases g13 : t18_1 = (0 : Int32)
            ·
              rw [if_pos g13, if_pos g13]
              have g13i : t18_1.toInt = 0 := q_eqI g13
              refine v_cons (by omega) ?_
              refine v_cons (by omega) ?_
              have h14 := T_modulo (R := (68 : Int32)) (R2 := (68 : Int32)) (R3 := (220 : Int32)) (t0_0 := t2_0) (t0_1 := t2_1) (t1_0 := t3_0) (t2_0 := t16_0) (t2_1 := t16_1) (t3_0 := t17_0) (t4_0 := t20_0) (t4_1 := t20_1) (t5_0 := t21_0) (t6_0 := t0_0) (t6_1 := t0_1) (t7_0 := t1_0) ha hm (by omega) hA (by decide) (by omega) (by decide)
              refine v_owe h14.1 ?_
              replace h14 := h14.2
              generalize F_Mil_modulo (68 : Int32) (68 : Int32) (220 : Int32) t2_0 t2_1 t3_0 t16_0 t16_1 t17_0 t20_0 t20_1 t21_0 t0_0 t0_1 t1_0 = p253 at h14 ⊢
              have hn := h14.2.2
              have hnB := v_modB (va := va) hvs hM
              have hm2 := h14.2.1
              unfold S_NH_powerModulo_c117 F_NH_powerModulo_c117
              have h15 := T_powerBelow (R := (68 : Int32)) (R2 := (68 : Int32)) (t0_0 := (p253.2.2.2.2.2.2.1 : Int32)) (t0_1 := (p253.2.2.2.2.2.2.2.1 : Int32)) (t1_0 := (p253.2.2.2.2.2.2.2.2 : (Nat → Int32))) (t2_0 := (p253.1 : Int32)) (t2_1 := (p253.2.1 : Int32)) (t3_0 := (p253.2.2.1 : (Nat → Int32))) (t4_0 := t4_0) (t4_1 := t4_1) (t5_0 := t5_0) (t6_0 := t6_0) (t6_1 := t6_1) (t7_0 := t7_0) (t8_0 := t18_0) (t8_1 := t18_1) (t9_0 := t19_0) (t10_0 := (p253.2.2.2.1 : Int32)) (t10_1 := (p253.2.2.2.2.1 : Int32)) (t11_0 := (p253.2.2.2.2.2.1 : (Nat → Int32))) hn trivial hm2 he.J (by omega) hnB hM (by decide)
              refine v_owe h15.1 ?_
              replace h15 := h15.2
              generalize F_Mil_powerBelow (68 : Int32) (68 : Int32) (p253.2.2.2.2.2.2.1 : Int32) (p253.2.2.2.2.2.2.2.1 : Int32) (p253.2.2.2.2.2.2.2.2 : (Nat → Int32)) (p253.1 : Int32) (p253.2.1 : Int32) (p253.2.2.1 : (Nat → Int32)) t4_0 t4_1 t5_0 t6_0 t6_1 t7_0 t18_0 t18_1 t19_0 (p253.2.2.2.1 : Int32) (p253.2.2.2.2.1 : Int32) (p253.2.2.2.2.2.1 : (Nat → Int32)) = p324 at h15 ⊢
              obtain ⟨_, _, _, hn⟩ := h15.1
              have hm2 := h15.2.2.2.2
              unfold S_NH_powerModulo_c136 F_NH_powerModulo_c136
              have h16 := T_keepWhole (x2 := x5) (t0_0 := (p324.1 : Int32)) (t0_1 := (p324.2.1 : Int32)) (t1_0 := (p324.2.2.1 : (Nat → Int32))) (t2_0 := t22_0) (t2_1 := t22_1) (t3_0 := t23_0) hn (by first | exact hw2 | exact hw) (by first | assumption | omega | trivial | decide) (by first | assumption | omega | trivial | decide)
              refine v_owe h16.1 ?_
              replace h16 := h16.2
              generalize F_NH_keepWhole x5 (p324.1 : Int32) (p324.2.1 : Int32) (p324.2.2.1 : (Nat → Int32)) t22_0 t22_1 t23_0 = p359 at h16 ⊢
              have hkw := h16
              unfold S_NH_powerModulo_c142 F_NH_powerModulo_c142
              by_cases g17 : p359.1 = (0 : Int32)
              ·
                rw [if_pos g17, if_pos g17]
                have g17i : p359.1.toInt = 0 := q_eqI g17
                refine ⟨trivial, ?_⟩
                first | exact ⟨hw, hm⟩ | exact ⟨hw, hm2⟩ | exact ⟨hkw, hm2⟩
              ·
                rw [if_neg g17, if_neg g17]
                have g17i : p359.1.toInt ≠ 0 := q_neI g17
                refine ⟨trivial, ?_⟩
                first | exact ⟨hw, hm⟩ | exact ⟨hw, hm2⟩ | exact ⟨hkw, hm2⟩
            ·
              rw [if_neg g13, if_neg g13]
              have g13i : t18_1.toInt ≠ 0 := q_neI g13
              refine v_cons (by omega) ?_
              refine v_cons (by omega) ?_
              have h18 := T_inverse (R := (68 : Int32)) (R2 := (68 : Int32)) (t0_0 := t0_0) (t0_1 := t0_1) (t1_0 := t1_0) (t2_0 := t2_0) (t2_1 := t2_1) (t3_0 := t3_0) (t4_0 := t6_0) (t4_1 := t6_1) (t5_0 := t7_0) (t6_0 := t8_0) (t6_1 := t8_1) (t7_0 := t9_0) (t8_0 := t10_0) (t8_1 := t10_1) (t9_0 := t11_0) (t10_0 := t12_0) (t10_1 := t12_1) (t11_0 := t13_0) (t12_0 := t14_0) (t12_1 := t14_1) (t13_0 := t15_0) (t14_0 := t16_0) (t14_1 := t16_1) (t15_0 := t17_0) (t16_0 := t20_0) (t16_1 := t20_1) (t17_0 := t21_0) ha hm hvs hA hM (by decide) trivial
              refine v_owe h18.1 ?_
              replace h18 := h18.2
              generalize F_Mil_inverse (68 : Int32) (68 : Int32) t0_0 t0_1 t1_0 t2_0 t2_1 t3_0 t6_0 t6_1 t7_0 t8_0 t8_1 t9_0 t10_0 t10_1 t11_0 t12_0 t12_1 t13_0 t14_0 t14_1 t15_0 t16_0 t16_1 t17_0 t20_0 t20_1 t21_0 = p486 at h18 ⊢
              obtain ⟨_, hlt, _, hn⟩ := h18.1
              have hnB := hM.le (Nat.le_of_lt hlt)
              have hm2 := h18.2.2.2.2.2.2.2
              unfold S_NH_powerModulo_c85 F_NH_powerModulo_c85
              by_cases g19 : (F_NH_canHave (p486.1 : Int32)) = (0 : Int32)
              ·
                rw [if_pos g19, if_pos g19]
                have h20 := T_powerBelow (R := (68 : Int32)) (R2 := (68 : Int32)) (t0_0 := (p486.2.1 : Int32)) (t0_1 := (p486.2.2.1 : Int32)) (t1_0 := (p486.2.2.2.1 : (Nat → Int32))) (t2_0 := (p486.2.2.2.2.1 : Int32)) (t2_1 := (p486.2.2.2.2.2.1 : Int32)) (t3_0 := (p486.2.2.2.2.2.2.1 : (Nat → Int32))) (t4_0 := t4_0) (t4_1 := t4_1) (t5_0 := t5_0) (t6_0 := (p486.2.2.2.2.2.2.2.1 : Int32)) (t6_1 := (p486.2.2.2.2.2.2.2.2.1 : Int32)) (t7_0 := (p486.2.2.2.2.2.2.2.2.2.1 : (Nat → Int32))) (t8_0 := t18_0) (t8_1 := t18_1) (t9_0 := t19_0) (t10_0 := (p486.2.2.2.2.2.2.2.2.2.2.2.2.2.2.2.2.2.2.2.2.2.2.1 : Int32)) (t10_1 := (p486.2.2.2.2.2.2.2.2.2.2.2.2.2.2.2.2.2.2.2.2.2.2.2.1 : Int32)) (t11_0 := (p486.2.2.2.2.2.2.2.2.2.2.2.2.2.2.2.2.2.2.2.2.2.2.2.2 : (Nat → Int32))) hn trivial hm2 he.J (by omega) hnB hM (by decide)
                refine v_owe h20.1 ?_
                replace h20 := h20.2
                generalize F_Mil_powerBelow (68 : Int32) (68 : Int32) (p486.2.1 : Int32) (p486.2.2.1 : Int32) (p486.2.2.2.1 : (Nat → Int32)) (p486.2.2.2.2.1 : Int32) (p486.2.2.2.2.2.1 : Int32) (p486.2.2.2.2.2.2.1 : (Nat → Int32)) t4_0 t4_1 t5_0 (p486.2.2.2.2.2.2.2.1 : Int32) (p486.2.2.2.2.2.2.2.2.1 : Int32) (p486.2.2.2.2.2.2.2.2.2.1 : (Nat → Int32)) t18_0 t18_1 t19_0 (p486.2.2.2.2.2.2.2.2.2.2.2.2.2.2.2.2.2.2.2.2.2.2.1 : Int32) (p486.2.2.2.2.2.2.2.2.2.2.2.2.2.2.2.2.2.2.2.2.2.2.2.1 : Int32) (p486.2.2.2.2.2.2.2.2.2.2.2.2.2.2.2.2.2.2.2.2.2.2.2.2 : (Nat → Int32)) = p582 at h20 ⊢
                obtain ⟨_, _, _, hn⟩ := h20.1
                have hm2 := h20.2.2.2.2
                unfold S_NH_powerModulo_c136_7 F_NH_powerModulo_c136_7
                have h21 := T_keepWhole (x2 := x5) (t0_0 := (p582.1 : Int32)) (t0_1 := (p582.2.1 : Int32)) (t1_0 := (p582.2.2.1 : (Nat → Int32))) (t2_0 := t22_0) (t2_1 := t22_1) (t3_0 := t23_0) hn (by first | exact hw2 | exact hw) (by first | assumption | omega | trivial | decide) (by first | assumption | omega | trivial | decide)
                refine v_owe h21.1 ?_
                replace h21 := h21.2
                generalize F_NH_keepWhole x5 (p582.1 : Int32) (p582.2.1 : Int32) (p582.2.2.1 : (Nat → Int32)) t22_0 t22_1 t23_0 = p617 at h21 ⊢
                have hkw := h21
                unfold S_NH_powerModulo_c142_8 F_NH_powerModulo_c142_8
                by_cases g22 : p617.1 = (0 : Int32)
                ·
                  rw [if_pos g22, if_pos g22]
                  have g22i : p617.1.toInt = 0 := q_eqI g22
                  refine ⟨trivial, ?_⟩
                  first | exact ⟨hw, hm⟩ | exact ⟨hw, hm2⟩ | exact ⟨hkw, hm2⟩
                ·
                  rw [if_neg g22, if_neg g22]
                  have g22i : p617.1.toInt ≠ 0 := q_neI g22
                  refine ⟨trivial, ?_⟩
                  first | exact ⟨hw, hm⟩ | exact ⟨hw, hm2⟩ | exact ⟨hkw, hm2⟩
              ·
                rw [if_neg g19, if_neg g19]
                refine ⟨trivial, ?_⟩
                first | exact ⟨hw, hm⟩ | exact ⟨hw, hm2⟩ | exact ⟨hkw, hm2⟩
def Q_powerModulo_a (vm : Int) (p : Int32 × Int32 × Int32 × (Nat → Int32) × Int32 × Int32 × (Nat → Int32) × Int32 × Int32 × (Nat → Int32) × Int32 × Int32 × (Nat → Int32) × Int32 × Int32 × (Nat → Int32) × Int32 × Int32 × (Nat → Int32) × Int32 × Int32 × (Nat → Int32) × Int32 × Int32 × (Nat → Int32) × Int32 × Int32 × (Nat → Int32) × Int32 × Int32 × (Nat → Int32)) : Prop := rW p.2.2.2.2.2.2.2.2.2.2.2.2.2.2.2.2.2.2.2.2.2.2.2.2.2.2.2.2.1 p.2.2.2.2.2.2.2.2.2.2.2.2.2.2.2.2.2.2.2.2.2.2.2.2.2.2.2.2.2.1 p.2.2.2.2.2.2.2.2.2.2.2.2.2.2.2.2.2.2.2.2.2.2.2.2.2.2.2.2.2.2 ∧ bO 68 p.2.2.2.2.2.2.2.2.2.2.2.2.2.2.2.2.2.2.2.2.2.2.2.2.2.1 p.2.2.2.2.2.2.2.2.2.2.2.2.2.2.2.2.2.2.2.2.2.2.2.2.2.2.1 p.2.2.2.2.2.2.2.2.2.2.2.2.2.2.2.2.2.2.2.2.2.2.2.2.2.2.2.1 vm
theorem T_powerModulo_a {x2 : Int32} {x3 : Int32} {x4 : Int32} {x5 : Int32} {t0_0 : Int32} {t0_1 : Int32} {t1_0 : (Nat → Int32)} {t2_0 : Int32} {t2_1 : Int32} {t3_0 : (Nat → Int32)} {t4_0 : Int32} {t4_1 : Int32} {t5_0 : (Nat → Int32)} {t6_0 : Int32} {t6_1 : Int32} {t7_0 : (Nat → Int32)} {t8_0 : Int32} {t8_1 : Int32} {t9_0 : (Nat → Int32)} {t10_0 : Int32} {t10_1 : Int32} {t11_0 : (Nat → Int32)} {t12_0 : Int32} {t12_1 : Int32} {t13_0 : (Nat → Int32)} {t14_0 : Int32} {t14_1 : Int32} {t15_0 : (Nat → Int32)} {t16_0 : Int32} {t16_1 : Int32} {t17_0 : (Nat → Int32)} {t18_0 : Int32} {t18_1 : Int32} {t19_0 : (Nat → Int32)} {t20_0 : Int32} {t20_1 : Int32} {t21_0 : (Nat → Int32)} {ve vm : Int} (he : bO 68 t18_0 t18_1 t19_0 ve) (hm : bO 68 t16_0 t16_1 t17_0 vm) (hM : bB 67 vm) (hw : rW t20_0 t20_1 t21_0) : (S_NH_powerModulo_a x2 x3 x4 x5 t0_0 t0_1 t1_0 t2_0 t2_1 t3_0 t4_0 t4_1 t5_0 t6_0 t6_1 t7_0 t8_0 t8_1 t9_0 t10_0 t10_1 t11_0 t12_0 t12_1 t13_0 t14_0 t14_1 t15_0 t16_0 t16_1 t17_0 t18_0 t18_1 t19_0 t20_0 t20_1 t21_0) ∧ Q_powerModulo_a vm (F_NH_powerModulo_a x2 x3 x4 x5 t0_0 t0_1 t1_0 t2_0 t2_1 t3_0 t4_0 t4_1 t5_0 t6_0 t6_1 t7_0 t8_0 t8_1 t9_0 t10_0 t10_1 t11_0 t12_0 t12_1 t13_0 t14_0 t14_1 t15_0 t16_0 t16_1 t17_0 t18_0 t18_1 t19_0 t20_0 t20_1 t21_0) := by
  have e0 : (0 : Int32).toInt = 0 := rfl
  have e220 : (220 : Int32).toInt = 220 := rfl
  have e68 : (68 : Int32).toInt = 68 := rfl
  have sm : t16_0.toInt ≤ 68 := hm.2.2.2.1
  unfold S_NH_powerModulo_a F_NH_powerModulo_a
  by_cases g1 : ((F_NH_isRegister x2) : Int32) = (0 : Int32)
  ·
    rw [if_pos g1, if_pos g1]
    unfold S_NH_powerModulo_a_J33 F_NH_powerModulo_a_J33
    unfold S_NH_powerModulo_a_J34 F_NH_powerModulo_a_J34
    have g2 : ¬ ((F_NH_need (0 : Int32)) = (0 : Int32)) := (by decide)
    rw [if_neg g2, if_neg g2]
    refine ⟨trivial, ?_⟩
    first | exact ⟨hw, hm⟩ | exact ⟨hw, hm2⟩ | exact ⟨hkw, hm2⟩
  ·
    rw [if_neg g1, if_neg g1]
    have g1r := v_isReg g1
    by_cases g3 : ((F_NH_isRegister x3) : Int32) = (0 : Int32)
    ·
      rw [if_pos g3, if_pos g3]
      unfold S_NH_powerModulo_a_J33 F_NH_powerModulo_a_J33
      unfold S_NH_powerModulo_a_J34 F_NH_powerModulo_a_J34
      have g4 : ¬ ((F_NH_need (0 : Int32)) = (0 : Int32)) := (by decide)
      rw [if_neg g4, if_neg g4]
      refine ⟨trivial, ?_⟩
      first | exact ⟨hw, hm⟩ | exact ⟨hw, hm2⟩ | exact ⟨hkw, hm2⟩
    ·
      rw [if_neg g3, if_neg g3]
      have g3r := v_isReg g3
      by_cases g5 : ((F_NH_isRegister x4) : Int32) = (0 : Int32)
      ·
        rw [if_pos g5, if_pos g5]
        unfold S_NH_powerModulo_a_J33 F_NH_powerModulo_a_J33
        unfold S_NH_powerModulo_a_J34 F_NH_powerModulo_a_J34
        have g6 : ¬ ((F_NH_need (0 : Int32)) = (0 : Int32)) := (by decide)
        rw [if_neg g6, if_neg g6]
        refine ⟨trivial, ?_⟩
        first | exact ⟨hw, hm⟩ | exact ⟨hw, hm2⟩ | exact ⟨hkw, hm2⟩
      ·
        rw [if_neg g5, if_neg g5]
        have g5r := v_isReg g5
        by_cases g7 : ((F_NH_isRegister x5) : Int32) = (0 : Int32)
        ·
          rw [if_pos g7, if_pos g7]
          unfold S_NH_powerModulo_a_J33 F_NH_powerModulo_a_J33
          unfold S_NH_powerModulo_a_J34 F_NH_powerModulo_a_J34
          have g8 : ¬ ((F_NH_need (0 : Int32)) = (0 : Int32)) := (by decide)
          rw [if_neg g8, if_neg g8]
          refine ⟨trivial, ?_⟩
          first | exact ⟨hw, hm⟩ | exact ⟨hw, hm2⟩ | exact ⟨hkw, hm2⟩
        ·
          rw [if_neg g7, if_neg g7]
          have g7r := v_isReg g7
          unfold S_NH_powerModulo_a_J34 F_NH_powerModulo_a_J34
          have g9 : ((F_NH_need (1 : Int32)) = (0 : Int32)) := (by decide)
          rw [if_pos g9, if_pos g9]
          refine v_cons (by omega) ?_
          refine v_cons (by omega) ?_
          by_cases g10 : ((F_Big_sign (68 : Int32) t16_0 t16_1) : Int32) ≤ (0 : Int32)
          ·
            rw [if_pos g10, if_pos g10]
            unfold S_NH_powerModulo_a_J54 F_NH_powerModulo_a_J54
            have g11 : ¬ ((F_NH_canHave (0 : Int32)) = (0 : Int32)) := (by decide)
            rw [if_neg g11, if_neg g11]
            refine ⟨trivial, ?_⟩
            first | exact ⟨hw, hm⟩ | exact ⟨hw, hm2⟩ | exact ⟨hkw, hm2⟩
          ·
            rw [if_neg g10, if_neg g10]
            have hvs := v_sgnP hm g10
            unfold S_NH_powerModulo_a_J54 F_NH_powerModulo_a_J54
            have g12 : ((F_NH_canHave (1 : Int32)) = (0 : Int32)) := (by decide)
            rw [if_pos g12, if_pos g12]
            refine v_cons (by omega) ?_
            refine v_cons (by omega) ?_
            by_cases g13 : t18_1 = (0 : Int32)
            ·
              rw [if_pos g13, if_pos g13]
              have g13i : t18_1.toInt = 0 := q_eqI g13
              refine v_cons (by omega) ?_
              refine v_cons (by omega) ?_
              have h14 := T_modulo_a (R2 := (68 : Int32)) (R4 := (220 : Int32)) (t0_0 := t2_0) (t0_1 := t2_1) (t1_0 := t3_0) (t2_0 := t16_0) (t2_1 := t16_1) (t3_0 := t17_0) (t4_0 := t0_0) (t4_1 := t0_1) (t5_0 := t1_0) hm (by omega) hM (by decide) (by decide)
              refine v_owe h14.1 ?_
              replace h14 := h14.2
              generalize F_Mil_modulo_a (68 : Int32) (220 : Int32) t2_0 t2_1 t3_0 t16_0 t16_1 t17_0 t0_0 t0_1 t1_0 = p241 at h14 ⊢
              have hn := h14.2.2
              have hnB : bB 67 0 := hM.le (Nat.zero_le _)
              have hm2 := h14.2.1
              unfold S_NH_powerModulo_a_c117 F_NH_powerModulo_a_c117
              have h15 := T_powerBelow (R := (68 : Int32)) (R2 := (68 : Int32)) (t0_0 := (p241.2.2.2.2.2.2.1 : Int32)) (t0_1 := (p241.2.2.2.2.2.2.2.1 : Int32)) (t1_0 := (p241.2.2.2.2.2.2.2.2 : (Nat → Int32))) (t2_0 := (p241.1 : Int32)) (t2_1 := (p241.2.1 : Int32)) (t3_0 := (p241.2.2.1 : (Nat → Int32))) (t4_0 := t4_0) (t4_1 := t4_1) (t5_0 := t5_0) (t6_0 := t6_0) (t6_1 := t6_1) (t7_0 := t7_0) (t8_0 := t18_0) (t8_1 := t18_1) (t9_0 := t19_0) (t10_0 := (p241.2.2.2.1 : Int32)) (t10_1 := (p241.2.2.2.2.1 : Int32)) (t11_0 := (p241.2.2.2.2.2.1 : (Nat → Int32))) hn trivial hm2 he.J (by omega) hnB hM (by decide)
              refine v_owe h15.1 ?_
              replace h15 := h15.2
              generalize F_Mil_powerBelow (68 : Int32) (68 : Int32) (p241.2.2.2.2.2.2.1 : Int32) (p241.2.2.2.2.2.2.2.1 : Int32) (p241.2.2.2.2.2.2.2.2 : (Nat → Int32)) (p241.1 : Int32) (p241.2.1 : Int32) (p241.2.2.1 : (Nat → Int32)) t4_0 t4_1 t5_0 t6_0 t6_1 t7_0 t18_0 t18_1 t19_0 (p241.2.2.2.1 : Int32) (p241.2.2.2.2.1 : Int32) (p241.2.2.2.2.2.1 : (Nat → Int32)) = p312 at h15 ⊢
              obtain ⟨_, _, _, hn⟩ := h15.1
              have hm2 := h15.2.2.2.2
              unfold S_NH_powerModulo_a_c136 F_NH_powerModulo_a_c136
              have h16 := T_keepWhole (x2 := x5) (t0_0 := (p312.1 : Int32)) (t0_1 := (p312.2.1 : Int32)) (t1_0 := (p312.2.2.1 : (Nat → Int32))) (t2_0 := t20_0) (t2_1 := t20_1) (t3_0 := t21_0) hn (by first | exact hw2 | exact hw) (by first | assumption | omega | trivial | decide) (by first | assumption | omega | trivial | decide)
              refine v_owe h16.1 ?_
              replace h16 := h16.2
              generalize F_NH_keepWhole x5 (p312.1 : Int32) (p312.2.1 : Int32) (p312.2.2.1 : (Nat → Int32)) t20_0 t20_1 t21_0 = p347 at h16 ⊢
              have hkw := h16
              unfold S_NH_powerModulo_a_c142 F_NH_powerModulo_a_c142
              by_cases g17 : p347.1 = (0 : Int32)
              ·
                rw [if_pos g17, if_pos g17]
                have g17i : p347.1.toInt = 0 := q_eqI g17
                refine ⟨trivial, ?_⟩
                first | exact ⟨hw, hm⟩ | exact ⟨hw, hm2⟩ | exact ⟨hkw, hm2⟩
              ·
                rw [if_neg g17, if_neg g17]
                have g17i : p347.1.toInt ≠ 0 := q_neI g17
                refine ⟨trivial, ?_⟩
                first | exact ⟨hw, hm⟩ | exact ⟨hw, hm2⟩ | exact ⟨hkw, hm2⟩
            ·
              rw [if_neg g13, if_neg g13]
              have g13i : t18_1.toInt ≠ 0 := q_neI g13
              refine v_cons (by omega) ?_
              refine v_cons (by omega) ?_
              have h18 := T_inverse_a (R2 := (68 : Int32)) (t0_0 := t0_0) (t0_1 := t0_1) (t1_0 := t1_0) (t2_0 := t2_0) (t2_1 := t2_1) (t3_0 := t3_0) (t4_0 := t6_0) (t4_1 := t6_1) (t5_0 := t7_0) (t6_0 := t8_0) (t6_1 := t8_1) (t7_0 := t9_0) (t8_0 := t10_0) (t8_1 := t10_1) (t9_0 := t11_0) (t10_0 := t12_0) (t10_1 := t12_1) (t11_0 := t13_0) (t12_0 := t14_0) (t12_1 := t14_1) (t13_0 := t15_0) (t14_0 := t16_0) (t14_1 := t16_1) (t15_0 := t17_0) hm hvs hM (by decide) trivial
              refine v_owe h18.1 ?_
              replace h18 := h18.2
              generalize F_Mil_inverse_a (68 : Int32) t0_0 t0_1 t1_0 t2_0 t2_1 t3_0 t6_0 t6_1 t7_0 t8_0 t8_1 t9_0 t10_0 t10_1 t11_0 t12_0 t12_1 t13_0 t14_0 t14_1 t15_0 t16_0 t16_1 t17_0 = p471 at h18 ⊢
              obtain ⟨_, hlt, _, hn⟩ := h18.1
              have hnB := hM.le (Nat.le_of_lt hlt)
              have hm2 := h18.2.2.2.2.2.2.2
              unfold S_NH_powerModulo_a_c85 F_NH_powerModulo_a_c85
              by_cases g19 : (F_NH_canHave (p471.1 : Int32)) = (0 : Int32)
              ·
                rw [if_pos g19, if_pos g19]
                have h20 := T_powerBelow (R := (68 : Int32)) (R2 := (68 : Int32)) (t0_0 := (p471.2.1 : Int32)) (t0_1 := (p471.2.2.1 : Int32)) (t1_0 := (p471.2.2.2.1 : (Nat → Int32))) (t2_0 := (p471.2.2.2.2.1 : Int32)) (t2_1 := (p471.2.2.2.2.2.1 : Int32)) (t3_0 := (p471.2.2.2.2.2.2.1 : (Nat → Int32))) (t4_0 := t4_0) (t4_1 := t4_1) (t5_0 := t5_0) (t6_0 := (p471.2.2.2.2.2.2.2.1 : Int32)) (t6_1 := (p471.2.2.2.2.2.2.2.2.1 : Int32)) (t7_0 := (p471.2.2.2.2.2.2.2.2.2.1 : (Nat → Int32))) (t8_0 := t18_0) (t8_1 := t18_1) (t9_0 := t19_0) (t10_0 := (p471.2.2.2.2.2.2.2.2.2.2.2.2.2.2.2.2.2.2.2.2.2.2.1 : Int32)) (t10_1 := (p471.2.2.2.2.2.2.2.2.2.2.2.2.2.2.2.2.2.2.2.2.2.2.2.1 : Int32)) (t11_0 := (p471.2.2.2.2.2.2.2.2.2.2.2.2.2.2.2.2.2.2.2.2.2.2.2.2 : (Nat → Int32))) hn trivial hm2 he.J (by omega) hnB hM (by decide)
                refine v_owe h20.1 ?_
                replace h20 := h20.2
                generalize F_Mil_powerBelow (68 : Int32) (68 : Int32) (p471.2.1 : Int32) (p471.2.2.1 : Int32) (p471.2.2.2.1 : (Nat → Int32)) (p471.2.2.2.2.1 : Int32) (p471.2.2.2.2.2.1 : Int32) (p471.2.2.2.2.2.2.1 : (Nat → Int32)) t4_0 t4_1 t5_0 (p471.2.2.2.2.2.2.2.1 : Int32) (p471.2.2.2.2.2.2.2.2.1 : Int32) (p471.2.2.2.2.2.2.2.2.2.1 : (Nat → Int32)) t18_0 t18_1 t19_0 (p471.2.2.2.2.2.2.2.2.2.2.2.2.2.2.2.2.2.2.2.2.2.2.1 : Int32) (p471.2.2.2.2.2.2.2.2.2.2.2.2.2.2.2.2.2.2.2.2.2.2.2.1 : Int32) (p471.2.2.2.2.2.2.2.2.2.2.2.2.2.2.2.2.2.2.2.2.2.2.2.2 : (Nat → Int32)) = p567 at h20 ⊢
                obtain ⟨_, _, _, hn⟩ := h20.1
                have hm2 := h20.2.2.2.2
                unfold S_NH_powerModulo_a_c136_7 F_NH_powerModulo_a_c136_7
                have h21 := T_keepWhole (x2 := x5) (t0_0 := (p567.1 : Int32)) (t0_1 := (p567.2.1 : Int32)) (t1_0 := (p567.2.2.1 : (Nat → Int32))) (t2_0 := t20_0) (t2_1 := t20_1) (t3_0 := t21_0) hn (by first | exact hw2 | exact hw) (by first | assumption | omega | trivial | decide) (by first | assumption | omega | trivial | decide)
                refine v_owe h21.1 ?_
                replace h21 := h21.2
                generalize F_NH_keepWhole x5 (p567.1 : Int32) (p567.2.1 : Int32) (p567.2.2.1 : (Nat → Int32)) t20_0 t20_1 t21_0 = p602 at h21 ⊢
                have hkw := h21
                unfold S_NH_powerModulo_a_c142_8 F_NH_powerModulo_a_c142_8
                by_cases g22 : p602.1 = (0 : Int32)
                ·
                  rw [if_pos g22, if_pos g22]
                  have g22i : p602.1.toInt = 0 := q_eqI g22
                  refine ⟨trivial, ?_⟩
                  first | exact ⟨hw, hm⟩ | exact ⟨hw, hm2⟩ | exact ⟨hkw, hm2⟩
                ·
                  rw [if_neg g22, if_neg g22]
                  have g22i : p602.1.toInt ≠ 0 := q_neI g22
                  refine ⟨trivial, ?_⟩
                  first | exact ⟨hw, hm⟩ | exact ⟨hw, hm2⟩ | exact ⟨hkw, hm2⟩
              ·
                rw [if_neg g19, if_neg g19]
                refine ⟨trivial, ?_⟩
                first | exact ⟨hw, hm⟩ | exact ⟨hw, hm2⟩ | exact ⟨hkw, hm2⟩
def Q_powerModulo_e (vm : Int) (p : Int32 × Int32 × Int32 × (Nat → Int32) × Int32 × Int32 × (Nat → Int32) × Int32 × Int32 × (Nat → Int32) × Int32 × Int32 × (Nat → Int32) × Int32 × Int32 × (Nat → Int32) × Int32 × Int32 × (Nat → Int32) × Int32 × Int32 × (Nat → Int32) × Int32 × Int32 × (Nat → Int32) × Int32 × Int32 × (Nat → Int32) × Int32 × Int32 × (Nat → Int32)) : Prop := rW p.2.2.2.2.2.2.2.2.2.2.2.2.2.2.2.2.2.2.2.2.2.2.2.2.2.2.2.2.1 p.2.2.2.2.2.2.2.2.2.2.2.2.2.2.2.2.2.2.2.2.2.2.2.2.2.2.2.2.2.1 p.2.2.2.2.2.2.2.2.2.2.2.2.2.2.2.2.2.2.2.2.2.2.2.2.2.2.2.2.2.2 ∧ bO 68 p.2.2.2.2.2.2.2.2.2.2.2.2.2.2.2.2.2.2.2.2.2.2.2.2.2.1 p.2.2.2.2.2.2.2.2.2.2.2.2.2.2.2.2.2.2.2.2.2.2.2.2.2.2.1 p.2.2.2.2.2.2.2.2.2.2.2.2.2.2.2.2.2.2.2.2.2.2.2.2.2.2.2.1 vm
theorem T_powerModulo_e {x2 : Int32} {x3 : Int32} {x4 : Int32} {x5 : Int32} {t0_0 : Int32} {t0_1 : Int32} {t1_0 : (Nat → Int32)} {t2_0 : Int32} {t2_1 : Int32} {t3_0 : (Nat → Int32)} {t4_0 : Int32} {t4_1 : Int32} {t5_0 : (Nat → Int32)} {t6_0 : Int32} {t6_1 : Int32} {t7_0 : (Nat → Int32)} {t8_0 : Int32} {t8_1 : Int32} {t9_0 : (Nat → Int32)} {t10_0 : Int32} {t10_1 : Int32} {t11_0 : (Nat → Int32)} {t12_0 : Int32} {t12_1 : Int32} {t13_0 : (Nat → Int32)} {t14_0 : Int32} {t14_1 : Int32} {t15_0 : (Nat → Int32)} {t16_0 : Int32} {t16_1 : Int32} {t17_0 : (Nat → Int32)} {t18_0 : Int32} {t18_1 : Int32} {t19_0 : (Nat → Int32)} {t20_0 : Int32} {t20_1 : Int32} {t21_0 : (Nat → Int32)} {va vm : Int} (ha : bO 68 t16_0 t16_1 t17_0 va) (hA : bB 67 va) (hm : bO 68 t18_0 t18_1 t19_0 vm) (hM : bB 67 vm) (hw : rW t20_0 t20_1 t21_0) : (S_NH_powerModulo_e x2 x3 x4 x5 t0_0 t0_1 t1_0 t2_0 t2_1 t3_0 t4_0 t4_1 t5_0 t6_0 t6_1 t7_0 t8_0 t8_1 t9_0 t10_0 t10_1 t11_0 t12_0 t12_1 t13_0 t14_0 t14_1 t15_0 t16_0 t16_1 t17_0 t18_0 t18_1 t19_0 t20_0 t20_1 t21_0) ∧ Q_powerModulo_e vm (F_NH_powerModulo_e x2 x3 x4 x5 t0_0 t0_1 t1_0 t2_0 t2_1 t3_0 t4_0 t4_1 t5_0 t6_0 t6_1 t7_0 t8_0 t8_1 t9_0 t10_0 t10_1 t11_0 t12_0 t12_1 t13_0 t14_0 t14_1 t15_0 t16_0 t16_1 t17_0 t18_0 t18_1 t19_0 t20_0 t20_1 t21_0) := by
  have e0 : (0 : Int32).toInt = 0 := rfl
  have e220 : (220 : Int32).toInt = 220 := rfl
  have e68 : (68 : Int32).toInt = 68 := rfl
  have sm : t18_0.toInt ≤ 68 := hm.2.2.2.1
  unfold S_NH_powerModulo_e F_NH_powerModulo_e
  by_cases g1 : ((F_NH_isRegister x2) : Int32) = (0 : Int32)
  ·
    rw [if_pos g1, if_pos g1]
    unfold S_NH_powerModulo_e_J33 F_NH_powerModulo_e_J33
    unfold S_NH_powerModulo_e_J34 F_NH_powerModulo_e_J34
    have g2 : ¬ ((F_NH_need (0 : Int32)) = (0 : Int32)) := (by decide)
    rw [if_neg g2, if_neg g2]
    refine ⟨trivial, ?_⟩
    first | exact ⟨hw, hm⟩ | exact ⟨hw, hm2⟩ | exact ⟨hkw, hm2⟩
  ·
    rw [if_neg g1, if_neg g1]
    have g1r := v_isReg g1
    by_cases g3 : ((F_NH_isRegister x3) : Int32) = (0 : Int32)
    ·
      rw [if_pos g3, if_pos g3]
      unfold S_NH_powerModulo_e_J33 F_NH_powerModulo_e_J33
      unfold S_NH_powerModulo_e_J34 F_NH_powerModulo_e_J34
      have g4 : ¬ ((F_NH_need (0 : Int32)) = (0 : Int32)) := (by decide)
      rw [if_neg g4, if_neg g4]
      refine ⟨trivial, ?_⟩
      first | exact ⟨hw, hm⟩ | exact ⟨hw, hm2⟩ | exact ⟨hkw, hm2⟩
    ·
      rw [if_neg g3, if_neg g3]
      have g3r := v_isReg g3
      by_cases g5 : ((F_NH_isRegister x4) : Int32) = (0 : Int32)
      ·
        rw [if_pos g5, if_pos g5]
        unfold S_NH_powerModulo_e_J33 F_NH_powerModulo_e_J33
        unfold S_NH_powerModulo_e_J34 F_NH_powerModulo_e_J34
        have g6 : ¬ ((F_NH_need (0 : Int32)) = (0 : Int32)) := (by decide)
        rw [if_neg g6, if_neg g6]
        refine ⟨trivial, ?_⟩
        first | exact ⟨hw, hm⟩ | exact ⟨hw, hm2⟩ | exact ⟨hkw, hm2⟩
      ·
        rw [if_neg g5, if_neg g5]
        have g5r := v_isReg g5
        by_cases g7 : ((F_NH_isRegister x5) : Int32) = (0 : Int32)
        ·
          rw [if_pos g7, if_pos g7]
          unfold S_NH_powerModulo_e_J33 F_NH_powerModulo_e_J33
          unfold S_NH_powerModulo_e_J34 F_NH_powerModulo_e_J34
          have g8 : ¬ ((F_NH_need (0 : Int32)) = (0 : Int32)) := (by decide)
          rw [if_neg g8, if_neg g8]
          refine ⟨trivial, ?_⟩
          first | exact ⟨hw, hm⟩ | exact ⟨hw, hm2⟩ | exact ⟨hkw, hm2⟩
        ·
          rw [if_neg g7, if_neg g7]
          have g7r := v_isReg g7
          unfold S_NH_powerModulo_e_J34 F_NH_powerModulo_e_J34
          have g9 : ((F_NH_need (1 : Int32)) = (0 : Int32)) := (by decide)
          rw [if_pos g9, if_pos g9]
          refine v_cons (by omega) ?_
          refine v_cons (by omega) ?_
          by_cases g10 : ((F_Big_sign (68 : Int32) t18_0 t18_1) : Int32) ≤ (0 : Int32)
          ·
            rw [if_pos g10, if_pos g10]
            unfold S_NH_powerModulo_e_J54 F_NH_powerModulo_e_J54
            have g11 : ¬ ((F_NH_canHave (0 : Int32)) = (0 : Int32)) := (by decide)
            rw [if_neg g11, if_neg g11]
            refine ⟨trivial, ?_⟩
            first | exact ⟨hw, hm⟩ | exact ⟨hw, hm2⟩ | exact ⟨hkw, hm2⟩
          ·
            rw [if_neg g10, if_neg g10]
            have hvs := v_sgnP hm g10
            unfold S_NH_powerModulo_e_J54 F_NH_powerModulo_e_J54
            have g12 : ((F_NH_canHave (1 : Int32)) = (0 : Int32)) := (by decide)
            rw [if_pos g12, if_pos g12]
            refine v_cons (by omega) ?_
            refine v_cons (by omega) ?_
            by_cases g13 : t18_1 = (0 : Int32)
            ·
              rw [if_pos g13, if_pos g13]
              have g13i : t18_1.toInt = 0 := q_eqI g13
              refine v_cons (by omega) ?_
              refine v_cons (by omega) ?_
              have h14 := T_modulo (R := (68 : Int32)) (R2 := (68 : Int32)) (R3 := (220 : Int32)) (t0_0 := t2_0) (t0_1 := t2_1) (t1_0 := t3_0) (t2_0 := t16_0) (t2_1 := t16_1) (t3_0 := t17_0) (t4_0 := t18_0) (t4_1 := t18_1) (t5_0 := t19_0) (t6_0 := t0_0) (t6_1 := t0_1) (t7_0 := t1_0) ha hm (by omega) hA (by decide) (by omega) (by decide)
              refine v_owe h14.1 ?_
              replace h14 := h14.2
              generalize F_Mil_modulo (68 : Int32) (68 : Int32) (220 : Int32) t2_0 t2_1 t3_0 t16_0 t16_1 t17_0 t18_0 t18_1 t19_0 t0_0 t0_1 t1_0 = p241 at h14 ⊢
              have hn := h14.2.2
              have hnB := v_modB (va := va) hvs hM
              have hm2 := h14.2.1
              unfold S_NH_powerModulo_e_c117 F_NH_powerModulo_e_c117
              have h15 := T_powerBelow_a (R2 := (68 : Int32)) (t0_0 := (p241.2.2.2.2.2.2.1 : Int32)) (t0_1 := (p241.2.2.2.2.2.2.2.1 : Int32)) (t1_0 := (p241.2.2.2.2.2.2.2.2 : (Nat → Int32))) (t2_0 := (p241.1 : Int32)) (t2_1 := (p241.2.1 : Int32)) (t3_0 := (p241.2.2.1 : (Nat → Int32))) (t4_0 := t4_0) (t4_1 := t4_1) (t5_0 := t5_0) (t6_0 := t6_0) (t6_1 := t6_1) (t7_0 := t7_0) (t8_0 := (p241.2.2.2.1 : Int32)) (t8_1 := (p241.2.2.2.2.1 : Int32)) (t9_0 := (p241.2.2.2.2.2.1 : (Nat → Int32))) hn trivial hm2 (by omega) hnB hM (by decide)
              refine v_owe h15.1 ?_
              replace h15 := h15.2
              generalize F_Mil_powerBelow_a (68 : Int32) (p241.2.2.2.2.2.2.1 : Int32) (p241.2.2.2.2.2.2.2.1 : Int32) (p241.2.2.2.2.2.2.2.2 : (Nat → Int32)) (p241.1 : Int32) (p241.2.1 : Int32) (p241.2.2.1 : (Nat → Int32)) t4_0 t4_1 t5_0 t6_0 t6_1 t7_0 (p241.2.2.2.1 : Int32) (p241.2.2.2.2.1 : Int32) (p241.2.2.2.2.2.1 : (Nat → Int32)) = p312 at h15 ⊢
              obtain ⟨_, _, _, hn⟩ := h15.1
              have hm2 := h15.2.2.2.2
              unfold S_NH_powerModulo_e_c136 F_NH_powerModulo_e_c136
              have h16 := T_keepWhole (x2 := x5) (t0_0 := (p312.1 : Int32)) (t0_1 := (p312.2.1 : Int32)) (t1_0 := (p312.2.2.1 : (Nat → Int32))) (t2_0 := t20_0) (t2_1 := t20_1) (t3_0 := t21_0) hn (by first | exact hw2 | exact hw) (by first | assumption | omega | trivial | decide) (by first | assumption | omega | trivial | decide)
              refine v_owe h16.1 ?_
              replace h16 := h16.2
              generalize F_NH_keepWhole x5 (p312.1 : Int32) (p312.2.1 : Int32) (p312.2.2.1 : (Nat → Int32)) t20_0 t20_1 t21_0 = p347 at h16 ⊢
              have hkw := h16
              unfold S_NH_powerModulo_e_c142 F_NH_powerModulo_e_c142
              by_cases g17 : p347.1 = (0 : Int32)
              ·
                rw [if_pos g17, if_pos g17]
                have g17i : p347.1.toInt = 0 := q_eqI g17
                refine ⟨trivial, ?_⟩
                first | exact ⟨hw, hm⟩ | exact ⟨hw, hm2⟩ | exact ⟨hkw, hm2⟩
              ·
                rw [if_neg g17, if_neg g17]
                have g17i : p347.1.toInt ≠ 0 := q_neI g17
                refine ⟨trivial, ?_⟩
                first | exact ⟨hw, hm⟩ | exact ⟨hw, hm2⟩ | exact ⟨hkw, hm2⟩
            ·
              rw [if_neg g13, if_neg g13]
              have g13i : t18_1.toInt ≠ 0 := q_neI g13
              refine v_cons (by omega) ?_
              refine v_cons (by omega) ?_
              have h18 := T_inverse (R := (68 : Int32)) (R2 := (68 : Int32)) (t0_0 := t0_0) (t0_1 := t0_1) (t1_0 := t1_0) (t2_0 := t2_0) (t2_1 := t2_1) (t3_0 := t3_0) (t4_0 := t6_0) (t4_1 := t6_1) (t5_0 := t7_0) (t6_0 := t8_0) (t6_1 := t8_1) (t7_0 := t9_0) (t8_0 := t10_0) (t8_1 := t10_1) (t9_0 := t11_0) (t10_0 := t12_0) (t10_1 := t12_1) (t11_0 := t13_0) (t12_0 := t14_0) (t12_1 := t14_1) (t13_0 := t15_0) (t14_0 := t16_0) (t14_1 := t16_1) (t15_0 := t17_0) (t16_0 := t18_0) (t16_1 := t18_1) (t17_0 := t19_0) ha hm hvs hA hM (by decide) trivial
              refine v_owe h18.1 ?_
              replace h18 := h18.2
              generalize F_Mil_inverse (68 : Int32) (68 : Int32) t0_0 t0_1 t1_0 t2_0 t2_1 t3_0 t6_0 t6_1 t7_0 t8_0 t8_1 t9_0 t10_0 t10_1 t11_0 t12_0 t12_1 t13_0 t14_0 t14_1 t15_0 t16_0 t16_1 t17_0 t18_0 t18_1 t19_0 = p474 at h18 ⊢
              obtain ⟨_, hlt, _, hn⟩ := h18.1
              have hnB := hM.le (Nat.le_of_lt hlt)
              have hm2 := h18.2.2.2.2.2.2.2
              unfold S_NH_powerModulo_e_c85 F_NH_powerModulo_e_c85
              by_cases g19 : (F_NH_canHave (p474.1 : Int32)) = (0 : Int32)
              ·
                rw [if_pos g19, if_pos g19]
                have h20 := T_powerBelow_a (R2 := (68 : Int32)) (t0_0 := (p474.2.1 : Int32)) (t0_1 := (p474.2.2.1 : Int32)) (t1_0 := (p474.2.2.2.1 : (Nat → Int32))) (t2_0 := (p474.2.2.2.2.1 : Int32)) (t2_1 := (p474.2.2.2.2.2.1 : Int32)) (t3_0 := (p474.2.2.2.2.2.2.1 : (Nat → Int32))) (t4_0 := t4_0) (t4_1 := t4_1) (t5_0 := t5_0) (t6_0 := (p474.2.2.2.2.2.2.2.1 : Int32)) (t6_1 := (p474.2.2.2.2.2.2.2.2.1 : Int32)) (t7_0 := (p474.2.2.2.2.2.2.2.2.2.1 : (Nat → Int32))) (t8_0 := (p474.2.2.2.2.2.2.2.2.2.2.2.2.2.2.2.2.2.2.2.2.2.2.1 : Int32)) (t8_1 := (p474.2.2.2.2.2.2.2.2.2.2.2.2.2.2.2.2.2.2.2.2.2.2.2.1 : Int32)) (t9_0 := (p474.2.2.2.2.2.2.2.2.2.2.2.2.2.2.2.2.2.2.2.2.2.2.2.2 : (Nat → Int32))) hn trivial hm2 (by omega) hnB hM (by decide)
                refine v_owe h20.1 ?_
                replace h20 := h20.2
                generalize F_Mil_powerBelow_a (68 : Int32) (p474.2.1 : Int32) (p474.2.2.1 : Int32) (p474.2.2.2.1 : (Nat → Int32)) (p474.2.2.2.2.1 : Int32) (p474.2.2.2.2.2.1 : Int32) (p474.2.2.2.2.2.2.1 : (Nat → Int32)) t4_0 t4_1 t5_0 (p474.2.2.2.2.2.2.2.1 : Int32) (p474.2.2.2.2.2.2.2.2.1 : Int32) (p474.2.2.2.2.2.2.2.2.2.1 : (Nat → Int32)) (p474.2.2.2.2.2.2.2.2.2.2.2.2.2.2.2.2.2.2.2.2.2.2.1 : Int32) (p474.2.2.2.2.2.2.2.2.2.2.2.2.2.2.2.2.2.2.2.2.2.2.2.1 : Int32) (p474.2.2.2.2.2.2.2.2.2.2.2.2.2.2.2.2.2.2.2.2.2.2.2.2 : (Nat → Int32)) = p570 at h20 ⊢
                obtain ⟨_, _, _, hn⟩ := h20.1
                have hm2 := h20.2.2.2.2
                unfold S_NH_powerModulo_e_c136_7 F_NH_powerModulo_e_c136_7
                have h21 := T_keepWhole (x2 := x5) (t0_0 := (p570.1 : Int32)) (t0_1 := (p570.2.1 : Int32)) (t1_0 := (p570.2.2.1 : (Nat → Int32))) (t2_0 := t20_0) (t2_1 := t20_1) (t3_0 := t21_0) hn (by first | exact hw2 | exact hw) (by first | assumption | omega | trivial | decide) (by first | assumption | omega | trivial | decide)
                refine v_owe h21.1 ?_
                replace h21 := h21.2
                generalize F_NH_keepWhole x5 (p570.1 : Int32) (p570.2.1 : Int32) (p570.2.2.1 : (Nat → Int32)) t20_0 t20_1 t21_0 = p605 at h21 ⊢
                have hkw := h21
                unfold S_NH_powerModulo_e_c142_8 F_NH_powerModulo_e_c142_8
                by_cases g22 : p605.1 = (0 : Int32)
                ·
                  rw [if_pos g22, if_pos g22]
                  have g22i : p605.1.toInt = 0 := q_eqI g22
                  refine ⟨trivial, ?_⟩
                  first | exact ⟨hw, hm⟩ | exact ⟨hw, hm2⟩ | exact ⟨hkw, hm2⟩
                ·
                  rw [if_neg g22, if_neg g22]
                  have g22i : p605.1.toInt ≠ 0 := q_neI g22
                  refine ⟨trivial, ?_⟩
                  first | exact ⟨hw, hm⟩ | exact ⟨hw, hm2⟩ | exact ⟨hkw, hm2⟩
              ·
                rw [if_neg g19, if_neg g19]
                refine ⟨trivial, ?_⟩
                first | exact ⟨hw, hm⟩ | exact ⟨hw, hm2⟩ | exact ⟨hkw, hm2⟩
def Q_powerModulo_ae (vm : Int) (p : Int32 × Int32 × Int32 × (Nat → Int32) × Int32 × Int32 × (Nat → Int32) × Int32 × Int32 × (Nat → Int32) × Int32 × Int32 × (Nat → Int32) × Int32 × Int32 × (Nat → Int32) × Int32 × Int32 × (Nat → Int32) × Int32 × Int32 × (Nat → Int32) × Int32 × Int32 × (Nat → Int32) × Int32 × Int32 × (Nat → Int32) × Int32 × Int32 × (Nat → Int32)) : Prop := rW p.2.2.2.2.2.2.2.2.2.2.2.2.2.2.2.2.2.2.2.2.2.2.2.2.2.2.2.2.1 p.2.2.2.2.2.2.2.2.2.2.2.2.2.2.2.2.2.2.2.2.2.2.2.2.2.2.2.2.2.1 p.2.2.2.2.2.2.2.2.2.2.2.2.2.2.2.2.2.2.2.2.2.2.2.2.2.2.2.2.2.2 ∧ bO 68 p.2.2.2.2.2.2.2.2.2.2.2.2.2.2.2.2.2.2.2.2.2.2.2.2.2.1 p.2.2.2.2.2.2.2.2.2.2.2.2.2.2.2.2.2.2.2.2.2.2.2.2.2.2.1 p.2.2.2.2.2.2.2.2.2.2.2.2.2.2.2.2.2.2.2.2.2.2.2.2.2.2.2.1 vm
theorem T_powerModulo_ae {x2 : Int32} {x3 : Int32} {x4 : Int32} {x5 : Int32} {t0_0 : Int32} {t0_1 : Int32} {t1_0 : (Nat → Int32)} {t2_0 : Int32} {t2_1 : Int32} {t3_0 : (Nat → Int32)} {t4_0 : Int32} {t4_1 : Int32} {t5_0 : (Nat → Int32)} {t6_0 : Int32} {t6_1 : Int32} {t7_0 : (Nat → Int32)} {t8_0 : Int32} {t8_1 : Int32} {t9_0 : (Nat → Int32)} {t10_0 : Int32} {t10_1 : Int32} {t11_0 : (Nat → Int32)} {t12_0 : Int32} {t12_1 : Int32} {t13_0 : (Nat → Int32)} {t14_0 : Int32} {t14_1 : Int32} {t15_0 : (Nat → Int32)} {t16_0 : Int32} {t16_1 : Int32} {t17_0 : (Nat → Int32)} {t18_0 : Int32} {t18_1 : Int32} {t19_0 : (Nat → Int32)} {vm : Int} (hm : bO 68 t16_0 t16_1 t17_0 vm) (hM : bB 67 vm) (hw : rW t18_0 t18_1 t19_0) : (S_NH_powerModulo_ae x2 x3 x4 x5 t0_0 t0_1 t1_0 t2_0 t2_1 t3_0 t4_0 t4_1 t5_0 t6_0 t6_1 t7_0 t8_0 t8_1 t9_0 t10_0 t10_1 t11_0 t12_0 t12_1 t13_0 t14_0 t14_1 t15_0 t16_0 t16_1 t17_0 t18_0 t18_1 t19_0) ∧ Q_powerModulo_ae vm (F_NH_powerModulo_ae x2 x3 x4 x5 t0_0 t0_1 t1_0 t2_0 t2_1 t3_0 t4_0 t4_1 t5_0 t6_0 t6_1 t7_0 t8_0 t8_1 t9_0 t10_0 t10_1 t11_0 t12_0 t12_1 t13_0 t14_0 t14_1 t15_0 t16_0 t16_1 t17_0 t18_0 t18_1 t19_0) := by
  have e0 : (0 : Int32).toInt = 0 := rfl
  have e220 : (220 : Int32).toInt = 220 := rfl
  have e68 : (68 : Int32).toInt = 68 := rfl
  have sm : t16_0.toInt ≤ 68 := hm.2.2.2.1
  unfold S_NH_powerModulo_ae F_NH_powerModulo_ae
  by_cases g1 : ((F_NH_isRegister x2) : Int32) = (0 : Int32)
  ·
    rw [if_pos g1, if_pos g1]
    unfold S_NH_powerModulo_ae_J33 F_NH_powerModulo_ae_J33
    unfold S_NH_powerModulo_ae_J34 F_NH_powerModulo_ae_J34
    have g2 : ¬ ((F_NH_need (0 : Int32)) = (0 : Int32)) := (by decide)
    rw [if_neg g2, if_neg g2]
    refine ⟨trivial, ?_⟩
    first | exact ⟨hw, hm⟩ | exact ⟨hw, hm2⟩ | exact ⟨hkw, hm2⟩
  ·
    rw [if_neg g1, if_neg g1]
    have g1r := v_isReg g1
    by_cases g3 : ((F_NH_isRegister x3) : Int32) = (0 : Int32)
    ·
      rw [if_pos g3, if_pos g3]
      unfold S_NH_powerModulo_ae_J33 F_NH_powerModulo_ae_J33
      unfold S_NH_powerModulo_ae_J34 F_NH_powerModulo_ae_J34
      have g4 : ¬ ((F_NH_need (0 : Int32)) = (0 : Int32)) := (by decide)
      rw [if_neg g4, if_neg g4]
      refine ⟨trivial, ?_⟩
      first | exact ⟨hw, hm⟩ | exact ⟨hw, hm2⟩ | exact ⟨hkw, hm2⟩
    ·
      rw [if_neg g3, if_neg g3]
      have g3r := v_isReg g3
      by_cases g5 : ((F_NH_isRegister x4) : Int32) = (0 : Int32)
      ·
        rw [if_pos g5, if_pos g5]
        unfold S_NH_powerModulo_ae_J33 F_NH_powerModulo_ae_J33
        unfold S_NH_powerModulo_ae_J34 F_NH_powerModulo_ae_J34
        have g6 : ¬ ((F_NH_need (0 : Int32)) = (0 : Int32)) := (by decide)
        rw [if_neg g6, if_neg g6]
        refine ⟨trivial, ?_⟩
        first | exact ⟨hw, hm⟩ | exact ⟨hw, hm2⟩ | exact ⟨hkw, hm2⟩
      ·
        rw [if_neg g5, if_neg g5]
        have g5r := v_isReg g5
        by_cases g7 : ((F_NH_isRegister x5) : Int32) = (0 : Int32)
        ·
          rw [if_pos g7, if_pos g7]
          unfold S_NH_powerModulo_ae_J33 F_NH_powerModulo_ae_J33
          unfold S_NH_powerModulo_ae_J34 F_NH_powerModulo_ae_J34
          have g8 : ¬ ((F_NH_need (0 : Int32)) = (0 : Int32)) := (by decide)
          rw [if_neg g8, if_neg g8]
          refine ⟨trivial, ?_⟩
          first | exact ⟨hw, hm⟩ | exact ⟨hw, hm2⟩ | exact ⟨hkw, hm2⟩
        ·
          rw [if_neg g7, if_neg g7]
          have g7r := v_isReg g7
          unfold S_NH_powerModulo_ae_J34 F_NH_powerModulo_ae_J34
          have g9 : ((F_NH_need (1 : Int32)) = (0 : Int32)) := (by decide)
          rw [if_pos g9, if_pos g9]
          refine v_cons (by omega) ?_
          refine v_cons (by omega) ?_
          by_cases g10 : ((F_Big_sign (68 : Int32) t16_0 t16_1) : Int32) ≤ (0 : Int32)
          ·
            rw [if_pos g10, if_pos g10]
            unfold S_NH_powerModulo_ae_J54 F_NH_powerModulo_ae_J54
            have g11 : ¬ ((F_NH_canHave (0 : Int32)) = (0 : Int32)) := (by decide)
            rw [if_neg g11, if_neg g11]
            refine ⟨trivial, ?_⟩
            first | exact ⟨hw, hm⟩ | exact ⟨hw, hm2⟩ | exact ⟨hkw, hm2⟩
          ·
            rw [if_neg g10, if_neg g10]
            have hvs := v_sgnP hm g10
            unfold S_NH_powerModulo_ae_J54 F_NH_powerModulo_ae_J54
            have g12 : ((F_NH_canHave (1 : Int32)) = (0 : Int32)) := (by decide)
            rw [if_pos g12, if_pos g12]
            refine v_cons (by omega) ?_
            refine v_cons (by omega) ?_
            by_cases g13 : t16_1 = (0 : Int32)
            ·
              rw [if_pos g13, if_pos g13]
              have g13i : t16_1.toInt = 0 := q_eqI g13
              refine v_cons (by omega) ?_
              refine v_cons (by omega) ?_
              have h14 := T_modulo_a (R2 := (68 : Int32)) (R4 := (220 : Int32)) (t0_0 := t2_0) (t0_1 := t2_1) (t1_0 := t3_0) (t2_0 := t16_0) (t2_1 := t16_1) (t3_0 := t17_0) (t4_0 := t0_0) (t4_1 := t0_1) (t5_0 := t1_0) hm (by omega) hM (by decide) (by decide)
              refine v_owe h14.1 ?_
              replace h14 := h14.2
              generalize F_Mil_modulo_a (68 : Int32) (220 : Int32) t2_0 t2_1 t3_0 t16_0 t16_1 t17_0 t0_0 t0_1 t1_0 = p229 at h14 ⊢
              have hn := h14.2.2
              have hnB : bB 67 0 := hM.le (Nat.zero_le _)
              have hm2 := h14.2.1
              unfold S_NH_powerModulo_ae_c117 F_NH_powerModulo_ae_c117
              have h15 := T_powerBelow_a (R2 := (68 : Int32)) (t0_0 := (p229.2.2.2.2.2.2.1 : Int32)) (t0_1 := (p229.2.2.2.2.2.2.2.1 : Int32)) (t1_0 := (p229.2.2.2.2.2.2.2.2 : (Nat → Int32))) (t2_0 := (p229.1 : Int32)) (t2_1 := (p229.2.1 : Int32)) (t3_0 := (p229.2.2.1 : (Nat → Int32))) (t4_0 := t4_0) (t4_1 := t4_1) (t5_0 := t5_0) (t6_0 := t6_0) (t6_1 := t6_1) (t7_0 := t7_0) (t8_0 := (p229.2.2.2.1 : Int32)) (t8_1 := (p229.2.2.2.2.1 : Int32)) (t9_0 := (p229.2.2.2.2.2.1 : (Nat → Int32))) hn trivial hm2 (by omega) hnB hM (by decide)
              refine v_owe h15.1 ?_
              replace h15 := h15.2
              generalize F_Mil_powerBelow_a (68 : Int32) (p229.2.2.2.2.2.2.1 : Int32) (p229.2.2.2.2.2.2.2.1 : Int32) (p229.2.2.2.2.2.2.2.2 : (Nat → Int32)) (p229.1 : Int32) (p229.2.1 : Int32) (p229.2.2.1 : (Nat → Int32)) t4_0 t4_1 t5_0 t6_0 t6_1 t7_0 (p229.2.2.2.1 : Int32) (p229.2.2.2.2.1 : Int32) (p229.2.2.2.2.2.1 : (Nat → Int32)) = p300 at h15 ⊢
              obtain ⟨_, _, _, hn⟩ := h15.1
              have hm2 := h15.2.2.2.2
              unfold S_NH_powerModulo_ae_c136 F_NH_powerModulo_ae_c136
              have h16 := T_keepWhole (x2 := x5) (t0_0 := (p300.1 : Int32)) (t0_1 := (p300.2.1 : Int32)) (t1_0 := (p300.2.2.1 : (Nat → Int32))) (t2_0 := t18_0) (t2_1 := t18_1) (t3_0 := t19_0) hn (by first | exact hw2 | exact hw) (by first | assumption | omega | trivial | decide) (by first | assumption | omega | trivial | decide)
              refine v_owe h16.1 ?_
              replace h16 := h16.2
              generalize F_NH_keepWhole x5 (p300.1 : Int32) (p300.2.1 : Int32) (p300.2.2.1 : (Nat → Int32)) t18_0 t18_1 t19_0 = p335 at h16 ⊢
              have hkw := h16
              unfold S_NH_powerModulo_ae_c142 F_NH_powerModulo_ae_c142
              by_cases g17 : p335.1 = (0 : Int32)
              ·
                rw [if_pos g17, if_pos g17]
                have g17i : p335.1.toInt = 0 := q_eqI g17
                refine ⟨trivial, ?_⟩
                first | exact ⟨hw, hm⟩ | exact ⟨hw, hm2⟩ | exact ⟨hkw, hm2⟩
              ·
                rw [if_neg g17, if_neg g17]
                have g17i : p335.1.toInt ≠ 0 := q_neI g17
                refine ⟨trivial, ?_⟩
                first | exact ⟨hw, hm⟩ | exact ⟨hw, hm2⟩ | exact ⟨hkw, hm2⟩
            ·
              rw [if_neg g13, if_neg g13]
              have g13i : t16_1.toInt ≠ 0 := q_neI g13
              refine v_cons (by omega) ?_
              refine v_cons (by omega) ?_
              have h18 := T_inverse_a (R2 := (68 : Int32)) (t0_0 := t0_0) (t0_1 := t0_1) (t1_0 := t1_0) (t2_0 := t2_0) (t2_1 := t2_1) (t3_0 := t3_0) (t4_0 := t6_0) (t4_1 := t6_1) (t5_0 := t7_0) (t6_0 := t8_0) (t6_1 := t8_1) (t7_0 := t9_0) (t8_0 := t10_0) (t8_1 := t10_1) (t9_0 := t11_0) (t10_0 := t12_0) (t10_1 := t12_1) (t11_0 := t13_0) (t12_0 := t14_0) (t12_1 := t14_1) (t13_0 := t15_0) (t14_0 := t16_0) (t14_1 := t16_1) (t15_0 := t17_0) hm hvs hM (by decide) trivial
              refine v_owe h18.1 ?_
              replace h18 := h18.2
              generalize F_Mil_inverse_a (68 : Int32) t0_0 t0_1 t1_0 t2_0 t2_1 t3_0 t6_0 t6_1 t7_0 t8_0 t8_1 t9_0 t10_0 t10_1 t11_0 t12_0 t12_1 t13_0 t14_0 t14_1 t15_0 t16_0 t16_1 t17_0 = p459 at h18 ⊢
              obtain ⟨_, hlt, _, hn⟩ := h18.1
              have hnB := hM.le (Nat.le_of_lt hlt)
              have hm2 := h18.2.2.2.2.2.2.2
              unfold S_NH_powerModulo_ae_c85 F_NH_powerModulo_ae_c85
              by_cases g19 : (F_NH_canHave (p459.1 : Int32)) = (0 : Int32)
              ·
                rw [if_pos g19, if_pos g19]
                have h20 := T_powerBelow_a (R2 := (68 : Int32)) (t0_0 := (p459.2.1 : Int32)) (t0_1 := (p459.2.2.1 : Int32)) (t1_0 := (p459.2.2.2.1 : (Nat → Int32))) (t2_0 := (p459.2.2.2.2.1 : Int32)) (t2_1 := (p459.2.2.2.2.2.1 : Int32)) (t3_0 := (p459.2.2.2.2.2.2.1 : (Nat → Int32))) (t4_0 := t4_0) (t4_1 := t4_1) (t5_0 := t5_0) (t6_0 := (p459.2.2.2.2.2.2.2.1 : Int32)) (t6_1 := (p459.2.2.2.2.2.2.2.2.1 : Int32)) (t7_0 := (p459.2.2.2.2.2.2.2.2.2.1 : (Nat → Int32))) (t8_0 := (p459.2.2.2.2.2.2.2.2.2.2.2.2.2.2.2.2.2.2.2.2.2.2.1 : Int32)) (t8_1 := (p459.2.2.2.2.2.2.2.2.2.2.2.2.2.2.2.2.2.2.2.2.2.2.2.1 : Int32)) (t9_0 := (p459.2.2.2.2.2.2.2.2.2.2.2.2.2.2.2.2.2.2.2.2.2.2.2.2 : (Nat → Int32))) hn trivial hm2 (by omega) hnB hM (by decide)
                refine v_owe h20.1 ?_
                replace h20 := h20.2
                generalize F_Mil_powerBelow_a (68 : Int32) (p459.2.1 : Int32) (p459.2.2.1 : Int32) (p459.2.2.2.1 : (Nat → Int32)) (p459.2.2.2.2.1 : Int32) (p459.2.2.2.2.2.1 : Int32) (p459.2.2.2.2.2.2.1 : (Nat → Int32)) t4_0 t4_1 t5_0 (p459.2.2.2.2.2.2.2.1 : Int32) (p459.2.2.2.2.2.2.2.2.1 : Int32) (p459.2.2.2.2.2.2.2.2.2.1 : (Nat → Int32)) (p459.2.2.2.2.2.2.2.2.2.2.2.2.2.2.2.2.2.2.2.2.2.2.1 : Int32) (p459.2.2.2.2.2.2.2.2.2.2.2.2.2.2.2.2.2.2.2.2.2.2.2.1 : Int32) (p459.2.2.2.2.2.2.2.2.2.2.2.2.2.2.2.2.2.2.2.2.2.2.2.2 : (Nat → Int32)) = p555 at h20 ⊢
                obtain ⟨_, _, _, hn⟩ := h20.1
                have hm2 := h20.2.2.2.2
                unfold S_NH_powerModulo_ae_c136_7 F_NH_powerModulo_ae_c136_7
                have h21 := T_keepWhole (x2 := x5) (t0_0 := (p555.1 : Int32)) (t0_1 := (p555.2.1 : Int32)) (t1_0 := (p555.2.2.1 : (Nat → Int32))) (t2_0 := t18_0) (t2_1 := t18_1) (t3_0 := t19_0) hn (by first | exact hw2 | exact hw) (by first | assumption | omega | trivial | decide) (by first | assumption | omega | trivial | decide)
                refine v_owe h21.1 ?_
                replace h21 := h21.2
                generalize F_NH_keepWhole x5 (p555.1 : Int32) (p555.2.1 : Int32) (p555.2.2.1 : (Nat → Int32)) t18_0 t18_1 t19_0 = p590 at h21 ⊢
                have hkw := h21
                unfold S_NH_powerModulo_ae_c142_8 F_NH_powerModulo_ae_c142_8
                by_cases g22 : p590.1 = (0 : Int32)
                ·
                  rw [if_pos g22, if_pos g22]
                  have g22i : p590.1.toInt = 0 := q_eqI g22
                  refine ⟨trivial, ?_⟩
                  first | exact ⟨hw, hm⟩ | exact ⟨hw, hm2⟩ | exact ⟨hkw, hm2⟩
                ·
                  rw [if_neg g22, if_neg g22]
                  have g22i : p590.1.toInt ≠ 0 := q_neI g22
                  refine ⟨trivial, ?_⟩
                  first | exact ⟨hw, hm⟩ | exact ⟨hw, hm2⟩ | exact ⟨hkw, hm2⟩
              ·
                rw [if_neg g19, if_neg g19]
                refine ⟨trivial, ?_⟩
                first | exact ⟨hw, hm⟩ | exact ⟨hw, hm2⟩ | exact ⟨hkw, hm2⟩
def Q_powerModulo_t (p : Int32 × Int32 × Int32 × (Nat → Int32) × Int32 × Int32 × (Nat → Int32) × Int32 × Int32 × (Nat → Int32) × Int32 × Int32 × (Nat → Int32) × Int32 × Int32 × (Nat → Int32) × Int32 × Int32 × (Nat → Int32) × Int32 × Int32 × (Nat → Int32) × Int32 × Int32 × (Nat → Int32) × Int32 × Int32 × (Nat → Int32)) : Prop := rW p.2.2.2.2.2.2.2.2.2.2.2.2.2.2.2.2.2.2.2.2.2.2.2.2.2.1 p.2.2.2.2.2.2.2.2.2.2.2.2.2.2.2.2.2.2.2.2.2.2.2.2.2.2.1 p.2.2.2.2.2.2.2.2.2.2.2.2.2.2.2.2.2.2.2.2.2.2.2.2.2.2.2
theorem T_powerModulo_t {x2 : Int32} {x3 : Int32} {x4 : Int32} {x5 : Int32} {t0_0 : Int32} {t0_1 : Int32} {t1_0 : (Nat → Int32)} {t2_0 : Int32} {t2_1 : Int32} {t3_0 : (Nat → Int32)} {t4_0 : Int32} {t4_1 : Int32} {t5_0 : (Nat → Int32)} {t6_0 : Int32} {t6_1 : Int32} {t7_0 : (Nat → Int32)} {t8_0 : Int32} {t8_1 : Int32} {t9_0 : (Nat → Int32)} {t10_0 : Int32} {t10_1 : Int32} {t11_0 : (Nat → Int32)} {t12_0 : Int32} {t12_1 : Int32} {t13_0 : (Nat → Int32)} {t14_0 : Int32} {t14_1 : Int32} {t15_0 : (Nat → Int32)} {t16_0 : Int32} {t16_1 : Int32} {t17_0 : (Nat → Int32)} {t18_0 : Int32} {t18_1 : Int32} {t19_0 : (Nat → Int32)} {t20_0 : Int32} {t20_1 : Int32} {t21_0 : (Nat → Int32)} {va ve vm : Int} (ha : bO 68 t16_0 t16_1 t17_0 va) (hA : bB 67 va) (he : bO 68 t18_0 t18_1 t19_0 ve) (hm : bO 68 t20_0 t20_1 t21_0 vm) (hM : bB 67 vm) : (S_NH_powerModulo_t x2 x3 x4 x5 t0_0 t0_1 t1_0 t2_0 t2_1 t3_0 t4_0 t4_1 t5_0 t6_0 t6_1 t7_0 t8_0 t8_1 t9_0 t10_0 t10_1 t11_0 t12_0 t12_1 t13_0 t14_0 t14_1 t15_0 t16_0 t16_1 t17_0 t18_0 t18_1 t19_0 t20_0 t20_1 t21_0) ∧ Q_powerModulo_t (F_NH_powerModulo_t x2 x3 x4 x5 t0_0 t0_1 t1_0 t2_0 t2_1 t3_0 t4_0 t4_1 t5_0 t6_0 t6_1 t7_0 t8_0 t8_1 t9_0 t10_0 t10_1 t11_0 t12_0 t12_1 t13_0 t14_0 t14_1 t15_0 t16_0 t16_1 t17_0 t18_0 t18_1 t19_0 t20_0 t20_1 t21_0) := by
  have e0 : (0 : Int32).toInt = 0 := rfl
  have e220 : (220 : Int32).toInt = 220 := rfl
  have e68 : (68 : Int32).toInt = 68 := rfl
  have sm : t20_0.toInt ≤ 68 := hm.2.2.2.1
  have hw : rW t20_0 t20_1 t21_0 := ⟨vm, hm, hM⟩
  unfold S_NH_powerModulo_t F_NH_powerModulo_t
  by_cases g1 : ((F_NH_isRegister x2) : Int32) = (0 : Int32)
  ·
    rw [if_pos g1, if_pos g1]
    unfold S_NH_powerModulo_t_J33 F_NH_powerModulo_t_J33
    unfold S_NH_powerModulo_t_J34 F_NH_powerModulo_t_J34
    have g2 : ¬ ((F_NH_need (0 : Int32)) = (0 : Int32)) := (by decide)
    rw [if_neg g2, if_neg g2]
    refine ⟨trivial, ?_⟩
    first | exact hw | exact hw2 | exact hkw
  ·
    rw [if_neg g1, if_neg g1]
    have g1r := v_isReg g1
    by_cases g3 : ((F_NH_isRegister x3) : Int32) = (0 : Int32)
    ·
      rw [if_pos g3, if_pos g3]
      unfold S_NH_powerModulo_t_J33 F_NH_powerModulo_t_J33
      unfold S_NH_powerModulo_t_J34 F_NH_powerModulo_t_J34
      have g4 : ¬ ((F_NH_need (0 : Int32)) = (0 : Int32)) := (by decide)
      rw [if_neg g4, if_neg g4]
      refine ⟨trivial, ?_⟩
      first | exact hw | exact hw2 | exact hkw
    ·
      rw [if_neg g3, if_neg g3]
      have g3r := v_isReg g3
      by_cases g5 : ((F_NH_isRegister x4) : Int32) = (0 : Int32)
      ·
        rw [if_pos g5, if_pos g5]
        unfold S_NH_powerModulo_t_J33 F_NH_powerModulo_t_J33
        unfold S_NH_powerModulo_t_J34 F_NH_powerModulo_t_J34
        have g6 : ¬ ((F_NH_need (0 : Int32)) = (0 : Int32)) := (by decide)
        rw [if_neg g6, if_neg g6]
        refine ⟨trivial, ?_⟩
        first | exact hw | exact hw2 | exact hkw
      ·
        rw [if_neg g5, if_neg g5]
        have g5r := v_isReg g5
        by_cases g7 : ((F_NH_isRegister x5) : Int32) = (0 : Int32)
        ·
          rw [if_pos g7, if_pos g7]
          unfold S_NH_powerModulo_t_J33 F_NH_powerModulo_t_J33
          unfold S_NH_powerModulo_t_J34 F_NH_powerModulo_t_J34
          have g8 : ¬ ((F_NH_need (0 : Int32)) = (0 : Int32)) := (by decide)
          rw [if_neg g8, if_neg g8]
          refine ⟨trivial, ?_⟩
          first | exact hw | exact hw2 | exact hkw
        ·
          rw [if_neg g7, if_neg g7]
          have g7r := v_isReg g7
          unfold S_NH_powerModulo_t_J34 F_NH_powerModulo_t_J34
          have g9 : ((F_NH_need (1 : Int32)) = (0 : Int32)) := (by decide)
          rw [if_pos g9, if_pos g9]
          refine v_cons (by omega) ?_
          refine v_cons (by omega) ?_
          by_cases g10 : ((F_Big_sign (68 : Int32) t20_0 t20_1) : Int32) ≤ (0 : Int32)
          ·
            rw [if_pos g10, if_pos g10]
            unfold S_NH_powerModulo_t_J54 F_NH_powerModulo_t_J54
            have g11 : ¬ ((F_NH_canHave (0 : Int32)) = (0 : Int32)) := (by decide)
            rw [if_neg g11, if_neg g11]
            refine ⟨trivial, ?_⟩
            first | exact hw | exact hw2 | exact hkw
          ·
            rw [if_neg g10, if_neg g10]
            have hvs := v_sgnP hm g10
            unfold S_NH_powerModulo_t_J54 F_NH_powerModulo_t_J54
            have g12 : ((F_NH_canHave (1 : Int32)) = (0 : Int32)) := (by decide)
            rw [if_pos g12, if_pos g12]
            refine v_cons (by omega) ?_
            refine v_cons (by omega) ?_
            by_cases g13 : t18_1 = (0 : Int32)
            ·
              rw [if_pos g13, if_pos g13]
              have g13i : t18_1.toInt = 0 := q_eqI g13
              refine v_cons (by omega) ?_
              refine v_cons (by omega) ?_
              have h14 := T_modulo (R := (68 : Int32)) (R2 := (68 : Int32)) (R3 := (220 : Int32)) (t0_0 := t2_0) (t0_1 := t2_1) (t1_0 := t3_0) (t2_0 := t16_0) (t2_1 := t16_1) (t3_0 := t17_0) (t4_0 := t20_0) (t4_1 := t20_1) (t5_0 := t21_0) (t6_0 := t0_0) (t6_1 := t0_1) (t7_0 := t1_0) ha hm (by omega) hA (by decide) (by omega) (by decide)
              refine v_owe h14.1 ?_
              replace h14 := h14.2
              generalize F_Mil_modulo (68 : Int32) (68 : Int32) (220 : Int32) t2_0 t2_1 t3_0 t16_0 t16_1 t17_0 t20_0 t20_1 t21_0 t0_0 t0_1 t1_0 = p241 at h14 ⊢
              have hn := h14.2.2
              have hnB := v_modB (va := va) hvs hM
              have hm2 := h14.2.1
              have hw2 : rW p241.2.2.2.1 p241.2.2.2.2.1 p241.2.2.2.2.2.1 := ⟨vm, hm2, hM⟩
              unfold S_NH_powerModulo_t_c117 F_NH_powerModulo_t_c117
              have h15 := T_powerBelow (R := (68 : Int32)) (R2 := (68 : Int32)) (t0_0 := (p241.2.2.2.2.2.2.1 : Int32)) (t0_1 := (p241.2.2.2.2.2.2.2.1 : Int32)) (t1_0 := (p241.2.2.2.2.2.2.2.2 : (Nat → Int32))) (t2_0 := (p241.1 : Int32)) (t2_1 := (p241.2.1 : Int32)) (t3_0 := (p241.2.2.1 : (Nat → Int32))) (t4_0 := t4_0) (t4_1 := t4_1) (t5_0 := t5_0) (t6_0 := t6_0) (t6_1 := t6_1) (t7_0 := t7_0) (t8_0 := t18_0) (t8_1 := t18_1) (t9_0 := t19_0) (t10_0 := (p241.2.2.2.1 : Int32)) (t10_1 := (p241.2.2.2.2.1 : Int32)) (t11_0 := (p241.2.2.2.2.2.1 : (Nat → Int32))) hn trivial hm2 he.J (by omega) hnB hM (by decide)
              refine v_owe h15.1 ?_
              replace h15 := h15.2
              generalize F_Mil_powerBelow (68 : Int32) (68 : Int32) (p241.2.2.2.2.2.2.1 : Int32) (p241.2.2.2.2.2.2.2.1 : Int32) (p241.2.2.2.2.2.2.2.2 : (Nat → Int32)) (p241.1 : Int32) (p241.2.1 : Int32) (p241.2.2.1 : (Nat → Int32)) t4_0 t4_1 t5_0 t6_0 t6_1 t7_0 t18_0 t18_1 t19_0 (p241.2.2.2.1 : Int32) (p241.2.2.2.2.1 : Int32) (p241.2.2.2.2.2.1 : (Nat → Int32)) = p312 at h15 ⊢
              obtain ⟨_, _, _, hn⟩ := h15.1
              have hm2 := h15.2.2.2.2
              have hw2 : rW p312.2.2.2.2.2.2.2.2.2.2.2.2.1 p312.2.2.2.2.2.2.2.2.2.2.2.2.2.1 p312.2.2.2.2.2.2.2.2.2.2.2.2.2.2 := ⟨vm, hm2, hM⟩
              unfold S_NH_powerModulo_t_c136 F_NH_powerModulo_t_c136
              have h16 := T_keepWhole (x2 := x5) (t0_0 := (p312.1 : Int32)) (t0_1 := (p312.2.1 : Int32)) (t1_0 := (p312.2.2.1 : (Nat → Int32))) (t2_0 := (p312.2.2.2.2.2.2.2.2.2.2.2.2.1 : Int32)) (t2_1 := (p312.2.2.2.2.2.2.2.2.2.2.2.2.2.1 : Int32)) (t3_0 := (p312.2.2.2.2.2.2.2.2.2.2.2.2.2.2 : (Nat → Int32))) hn (by first | exact hw2 | exact hw) (by first | assumption | omega | trivial | decide) (by first | assumption | omega | trivial | decide)
              refine v_owe h16.1 ?_
              replace h16 := h16.2
              generalize F_NH_keepWhole x5 (p312.1 : Int32) (p312.2.1 : Int32) (p312.2.2.1 : (Nat → Int32)) (p312.2.2.2.2.2.2.2.2.2.2.2.2.1 : Int32) (p312.2.2.2.2.2.2.2.2.2.2.2.2.2.1 : Int32) (p312.2.2.2.2.2.2.2.2.2.2.2.2.2.2 : (Nat → Int32)) = p347 at h16 ⊢
              have hkw := h16
              unfold S_NH_powerModulo_t_c142 F_NH_powerModulo_t_c142
              by_cases g17 : p347.1 = (0 : Int32)
              ·
                rw [if_pos g17, if_pos g17]
                have g17i : p347.1.toInt = 0 := q_eqI g17
                refine ⟨trivial, ?_⟩
                first | exact hw | exact hw2 | exact hkw
              ·
                rw [if_neg g17, if_neg g17]
                have g17i : p347.1.toInt ≠ 0 := q_neI g17
                refine ⟨trivial, ?_⟩
                first | exact hw | exact hw2 | exact hkw
            ·
              rw [if_neg g13, if_neg g13]
              have g13i : t18_1.toInt ≠ 0 := q_neI g13
              refine v_cons (by omega) ?_
              refine v_cons (by omega) ?_
              have h18 := T_inverse (R := (68 : Int32)) (R2 := (68 : Int32)) (t0_0 := t0_0) (t0_1 := t0_1) (t1_0 := t1_0) (t2_0 := t2_0) (t2_1 := t2_1) (t3_0 := t3_0) (t4_0 := t6_0) (t4_1 := t6_1) (t5_0 := t7_0) (t6_0 := t8_0) (t6_1 := t8_1) (t7_0 := t9_0) (t8_0 := t10_0) (t8_1 := t10_1) (t9_0 := t11_0) (t10_0 := t12_0) (t10_1 := t12_1) (t11_0 := t13_0) (t12_0 := t14_0) (t12_1 := t14_1) (t13_0 := t15_0) (t14_0 := t16_0) (t14_1 := t16_1) (t15_0 := t17_0) (t16_0 := t20_0) (t16_1 := t20_1) (t17_0 := t21_0) ha hm hvs hA hM (by decide) trivial
              refine v_owe h18.1 ?_
              replace h18 := h18.2
              generalize F_Mil_inverse (68 : Int32) (68 : Int32) t0_0 t0_1 t1_0 t2_0 t2_1 t3_0 t6_0 t6_1 t7_0 t8_0 t8_1 t9_0 t10_0 t10_1 t11_0 t12_0 t12_1 t13_0 t14_0 t14_1 t15_0 t16_0 t16_1 t17_0 t20_0 t20_1 t21_0 = p474 at h18 ⊢
              obtain ⟨_, hlt, _, hn⟩ := h18.1
              have hnB := hM.le (Nat.le_of_lt hlt)
              have hm2 := h18.2.2.2.2.2.2.2
              have hw2 : rW p474.2.2.2.2.2.2.2.2.2.2.2.2.2.2.2.2.2.2.2.2.2.2.1 p474.2.2.2.2.2.2.2.2.2.2.2.2.2.2.2.2.2.2.2.2.2.2.2.1 p474.2.2.2.2.2.2.2.2.2.2.2.2.2.2.2.2.2.2.2.2.2.2.2.2 := ⟨vm, hm2, hM⟩
              unfold S_NH_powerModulo_t_c85 F_NH_powerModulo_t_c85
              by_cases g19 : (F_NH_canHave (p474.1 : Int32)) = (0 : Int32)
              ·
                rw [if_pos g19, if_pos g19]
                have h20 := T_powerBelow (R := (68 : Int32)) (R2 := (68 : Int32)) (t0_0 := (p474.2.1 : Int32)) (t0_1 := (p474.2.2.1 : Int32)) (t1_0 := (p474.2.2.2.1 : (Nat → Int32))) (t2_0 := (p474.2.2.2.2.1 : Int32)) (t2_1 := (p474.2.2.2.2.2.1 : Int32)) (t3_0 := (p474.2.2.2.2.2.2.1 : (Nat → Int32))) (t4_0 := t4_0) (t4_1 := t4_1) (t5_0 := t5_0) (t6_0 := (p474.2.2.2.2.2.2.2.1 : Int32)) (t6_1 := (p474.2.2.2.2.2.2.2.2.1 : Int32)) (t7_0 := (p474.2.2.2.2.2.2.2.2.2.1 : (Nat → Int32))) (t8_0 := t18_0) (t8_1 := t18_1) (t9_0 := t19_0) (t10_0 := (p474.2.2.2.2.2.2.2.2.2.2.2.2.2.2.2.2.2.2.2.2.2.2.1 : Int32)) (t10_1 := (p474.2.2.2.2.2.2.2.2.2.2.2.2.2.2.2.2.2.2.2.2.2.2.2.1 : Int32)) (t11_0 := (p474.2.2.2.2.2.2.2.2.2.2.2.2.2.2.2.2.2.2.2.2.2.2.2.2 : (Nat → Int32))) hn trivial hm2 he.J (by omega) hnB hM (by decide)
                refine v_owe h20.1 ?_
                replace h20 := h20.2
                generalize F_Mil_powerBelow (68 : Int32) (68 : Int32) (p474.2.1 : Int32) (p474.2.2.1 : Int32) (p474.2.2.2.1 : (Nat → Int32)) (p474.2.2.2.2.1 : Int32) (p474.2.2.2.2.2.1 : Int32) (p474.2.2.2.2.2.2.1 : (Nat → Int32)) t4_0 t4_1 t5_0 (p474.2.2.2.2.2.2.2.1 : Int32) (p474.2.2.2.2.2.2.2.2.1 : Int32) (p474.2.2.2.2.2.2.2.2.2.1 : (Nat → Int32)) t18_0 t18_1 t19_0 (p474.2.2.2.2.2.2.2.2.2.2.2.2.2.2.2.2.2.2.2.2.2.2.1 : Int32) (p474.2.2.2.2.2.2.2.2.2.2.2.2.2.2.2.2.2.2.2.2.2.2.2.1 : Int32) (p474.2.2.2.2.2.2.2.2.2.2.2.2.2.2.2.2.2.2.2.2.2.2.2.2 : (Nat → Int32)) = p570 at h20 ⊢
                obtain ⟨_, _, _, hn⟩ := h20.1
                have hm2 := h20.2.2.2.2
                have hw2 : rW p570.2.2.2.2.2.2.2.2.2.2.2.2.1 p570.2.2.2.2.2.2.2.2.2.2.2.2.2.1 p570.2.2.2.2.2.2.2.2.2.2.2.2.2.2 := ⟨vm, hm2, hM⟩
                unfold S_NH_powerModulo_t_c136_7 F_NH_powerModulo_t_c136_7
                have h21 := T_keepWhole (x2 := x5) (t0_0 := (p570.1 : Int32)) (t0_1 := (p570.2.1 : Int32)) (t1_0 := (p570.2.2.1 : (Nat → Int32))) (t2_0 := (p570.2.2.2.2.2.2.2.2.2.2.2.2.1 : Int32)) (t2_1 := (p570.2.2.2.2.2.2.2.2.2.2.2.2.2.1 : Int32)) (t3_0 := (p570.2.2.2.2.2.2.2.2.2.2.2.2.2.2 : (Nat → Int32))) hn (by first | exact hw2 | exact hw) (by first | assumption | omega | trivial | decide) (by first | assumption | omega | trivial | decide)
                refine v_owe h21.1 ?_
                replace h21 := h21.2
                generalize F_NH_keepWhole x5 (p570.1 : Int32) (p570.2.1 : Int32) (p570.2.2.1 : (Nat → Int32)) (p570.2.2.2.2.2.2.2.2.2.2.2.2.1 : Int32) (p570.2.2.2.2.2.2.2.2.2.2.2.2.2.1 : Int32) (p570.2.2.2.2.2.2.2.2.2.2.2.2.2.2 : (Nat → Int32)) = p605 at h21 ⊢
                have hkw := h21
                unfold S_NH_powerModulo_t_c142_8 F_NH_powerModulo_t_c142_8
                by_cases g22 : p605.1 = (0 : Int32)
                ·
                  rw [if_pos g22, if_pos g22]
                  have g22i : p605.1.toInt = 0 := q_eqI g22
                  refine ⟨trivial, ?_⟩
                  first | exact hw | exact hw2 | exact hkw
                ·
                  rw [if_neg g22, if_neg g22]
                  have g22i : p605.1.toInt ≠ 0 := q_neI g22
                  refine ⟨trivial, ?_⟩
                  first | exact hw | exact hw2 | exact hkw
              ·
                rw [if_neg g19, if_neg g19]
                refine ⟨trivial, ?_⟩
                first | exact hw | exact hw2 | exact hkw
def Q_powerModulo_at (p : Int32 × Int32 × Int32 × (Nat → Int32) × Int32 × Int32 × (Nat → Int32) × Int32 × Int32 × (Nat → Int32) × Int32 × Int32 × (Nat → Int32) × Int32 × Int32 × (Nat → Int32) × Int32 × Int32 × (Nat → Int32) × Int32 × Int32 × (Nat → Int32) × Int32 × Int32 × (Nat → Int32) × Int32 × Int32 × (Nat → Int32)) : Prop := rW p.2.2.2.2.2.2.2.2.2.2.2.2.2.2.2.2.2.2.2.2.2.2.2.2.2.1 p.2.2.2.2.2.2.2.2.2.2.2.2.2.2.2.2.2.2.2.2.2.2.2.2.2.2.1 p.2.2.2.2.2.2.2.2.2.2.2.2.2.2.2.2.2.2.2.2.2.2.2.2.2.2.2
theorem T_powerModulo_at {x2 : Int32} {x3 : Int32} {x4 : Int32} {x5 : Int32} {t0_0 : Int32} {t0_1 : Int32} {t1_0 : (Nat → Int32)} {t2_0 : Int32} {t2_1 : Int32} {t3_0 : (Nat → Int32)} {t4_0 : Int32} {t4_1 : Int32} {t5_0 : (Nat → Int32)} {t6_0 : Int32} {t6_1 : Int32} {t7_0 : (Nat → Int32)} {t8_0 : Int32} {t8_1 : Int32} {t9_0 : (Nat → Int32)} {t10_0 : Int32} {t10_1 : Int32} {t11_0 : (Nat → Int32)} {t12_0 : Int32} {t12_1 : Int32} {t13_0 : (Nat → Int32)} {t14_0 : Int32} {t14_1 : Int32} {t15_0 : (Nat → Int32)} {t16_0 : Int32} {t16_1 : Int32} {t17_0 : (Nat → Int32)} {t18_0 : Int32} {t18_1 : Int32} {t19_0 : (Nat → Int32)} {ve vm : Int} (he : bO 68 t18_0 t18_1 t19_0 ve) (hm : bO 68 t16_0 t16_1 t17_0 vm) (hM : bB 67 vm) : (S_NH_powerModulo_at x2 x3 x4 x5 t0_0 t0_1 t1_0 t2_0 t2_1 t3_0 t4_0 t4_1 t5_0 t6_0 t6_1 t7_0 t8_0 t8_1 t9_0 t10_0 t10_1 t11_0 t12_0 t12_1 t13_0 t14_0 t14_1 t15_0 t16_0 t16_1 t17_0 t18_0 t18_1 t19_0) ∧ Q_powerModulo_at (F_NH_powerModulo_at x2 x3 x4 x5 t0_0 t0_1 t1_0 t2_0 t2_1 t3_0 t4_0 t4_1 t5_0 t6_0 t6_1 t7_0 t8_0 t8_1 t9_0 t10_0 t10_1 t11_0 t12_0 t12_1 t13_0 t14_0 t14_1 t15_0 t16_0 t16_1 t17_0 t18_0 t18_1 t19_0) := by
  have e0 : (0 : Int32).toInt = 0 := rfl
  have e220 : (220 : Int32).toInt = 220 := rfl
  have e68 : (68 : Int32).toInt = 68 := rfl
  have sm : t16_0.toInt ≤ 68 := hm.2.2.2.1
  have hw : rW t16_0 t16_1 t17_0 := ⟨vm, hm, hM⟩
  unfold S_NH_powerModulo_at F_NH_powerModulo_at
  by_cases g1 : ((F_NH_isRegister x2) : Int32) = (0 : Int32)
  ·
    rw [if_pos g1, if_pos g1]
    unfold S_NH_powerModulo_at_J33 F_NH_powerModulo_at_J33
    unfold S_NH_powerModulo_at_J34 F_NH_powerModulo_at_J34
    have g2 : ¬ ((F_NH_need (0 : Int32)) = (0 : Int32)) := (by decide)
    rw [if_neg g2, if_neg g2]
    refine ⟨trivial, ?_⟩
    first | exact hw | exact hw2 | exact hkw
  ·
    rw [if_neg g1, if_neg g1]
    have g1r := v_isReg g1
    by_cases g3 : ((F_NH_isRegister x3) : Int32) = (0 : Int32)
    ·
      rw [if_pos g3, if_pos g3]
      unfold S_NH_powerModulo_at_J33 F_NH_powerModulo_at_J33
      unfold S_NH_powerModulo_at_J34 F_NH_powerModulo_at_J34
      have g4 : ¬ ((F_NH_need (0 : Int32)) = (0 : Int32)) := (by decide)
      rw [if_neg g4, if_neg g4]
      refine ⟨trivial, ?_⟩
      first | exact hw | exact hw2 | exact hkw
    ·
      rw [if_neg g3, if_neg g3]
      have g3r := v_isReg g3
      by_cases g5 : ((F_NH_isRegister x4) : Int32) = (0 : Int32)
      ·
        rw [if_pos g5, if_pos g5]
        unfold S_NH_powerModulo_at_J33 F_NH_powerModulo_at_J33
        unfold S_NH_powerModulo_at_J34 F_NH_powerModulo_at_J34
        have g6 : ¬ ((F_NH_need (0 : Int32)) = (0 : Int32)) := (by decide)
        rw [if_neg g6, if_neg g6]
        refine ⟨trivial, ?_⟩
        first | exact hw | exact hw2 | exact hkw
      ·
        rw [if_neg g5, if_neg g5]
        have g5r := v_isReg g5
        by_cases g7 : ((F_NH_isRegister x5) : Int32) = (0 : Int32)
        ·
          rw [if_pos g7, if_pos g7]
          unfold S_NH_powerModulo_at_J33 F_NH_powerModulo_at_J33
          unfold S_NH_powerModulo_at_J34 F_NH_powerModulo_at_J34
          have g8 : ¬ ((F_NH_need (0 : Int32)) = (0 : Int32)) := (by decide)
          rw [if_neg g8, if_neg g8]
          refine ⟨trivial, ?_⟩
          first | exact hw | exact hw2 | exact hkw
        ·
          rw [if_neg g7, if_neg g7]
          have g7r := v_isReg g7
          unfold S_NH_powerModulo_at_J34 F_NH_powerModulo_at_J34
          have g9 : ((F_NH_need (1 : Int32)) = (0 : Int32)) := (by decide)
          rw [if_pos g9, if_pos g9]
          refine v_cons (by omega) ?_
          refine v_cons (by omega) ?_
          by_cases g10 : ((F_Big_sign (68 : Int32) t16_0 t16_1) : Int32) ≤ (0 : Int32)
          ·
            rw [if_pos g10, if_pos g10]
            unfold S_NH_powerModulo_at_J54 F_NH_powerModulo_at_J54
            have g11 : ¬ ((F_NH_canHave (0 : Int32)) = (0 : Int32)) := (by decide)
            rw [if_neg g11, if_neg g11]
            refine ⟨trivial, ?_⟩
            first | exact hw | exact hw2 | exact hkw
          ·
            rw [if_neg g10, if_neg g10]
            have hvs := v_sgnP hm g10
            unfold S_NH_powerModulo_at_J54 F_NH_powerModulo_at_J54
            have g12 : ((F_NH_canHave (1 : Int32)) = (0 : Int32)) := (by decide)
            rw [if_pos g12, if_pos g12]
            refine v_cons (by omega) ?_
            refine v_cons (by omega) ?_
            by_cases g13 : t18_1 = (0 : Int32)
            ·
              rw [if_pos g13, if_pos g13]
              have g13i : t18_1.toInt = 0 := q_eqI g13
              refine v_cons (by omega) ?_
              refine v_cons (by omega) ?_
              have h14 := T_modulo_a (R2 := (68 : Int32)) (R4 := (220 : Int32)) (t0_0 := t2_0) (t0_1 := t2_1) (t1_0 := t3_0) (t2_0 := t16_0) (t2_1 := t16_1) (t3_0 := t17_0) (t4_0 := t0_0) (t4_1 := t0_1) (t5_0 := t1_0) hm (by omega) hM (by decide) (by decide)
              refine v_owe h14.1 ?_
              replace h14 := h14.2
              generalize F_Mil_modulo_a (68 : Int32) (220 : Int32) t2_0 t2_1 t3_0 t16_0 t16_1 t17_0 t0_0 t0_1 t1_0 = p229 at h14 ⊢
              have hn := h14.2.2
              have hnB : bB 67 0 := hM.le (Nat.zero_le _)
              have hm2 := h14.2.1
              have hw2 : rW p229.2.2.2.1 p229.2.2.2.2.1 p229.2.2.2.2.2.1 := ⟨vm, hm2, hM⟩
              unfold S_NH_powerModulo_at_c117 F_NH_powerModulo_at_c117
              have h15 := T_powerBelow (R := (68 : Int32)) (R2 := (68 : Int32)) (t0_0 := (p229.2.2.2.2.2.2.1 : Int32)) (t0_1 := (p229.2.2.2.2.2.2.2.1 : Int32)) (t1_0 := (p229.2.2.2.2.2.2.2.2 : (Nat → Int32))) (t2_0 := (p229.1 : Int32)) (t2_1 := (p229.2.1 : Int32)) (t3_0 := (p229.2.2.1 : (Nat → Int32))) (t4_0 := t4_0) (t4_1 := t4_1) (t5_0 := t5_0) (t6_0 := t6_0) (t6_1 := t6_1) (t7_0 := t7_0) (t8_0 := t18_0) (t8_1 := t18_1) (t9_0 := t19_0) (t10_0 := (p229.2.2.2.1 : Int32)) (t10_1 := (p229.2.2.2.2.1 : Int32)) (t11_0 := (p229.2.2.2.2.2.1 : (Nat → Int32))) hn trivial hm2 he.J (by omega) hnB hM (by decide)
              refine v_owe h15.1 ?_
              replace h15 := h15.2
              generalize F_Mil_powerBelow (68 : Int32) (68 : Int32) (p229.2.2.2.2.2.2.1 : Int32) (p229.2.2.2.2.2.2.2.1 : Int32) (p229.2.2.2.2.2.2.2.2 : (Nat → Int32)) (p229.1 : Int32) (p229.2.1 : Int32) (p229.2.2.1 : (Nat → Int32)) t4_0 t4_1 t5_0 t6_0 t6_1 t7_0 t18_0 t18_1 t19_0 (p229.2.2.2.1 : Int32) (p229.2.2.2.2.1 : Int32) (p229.2.2.2.2.2.1 : (Nat → Int32)) = p300 at h15 ⊢
              obtain ⟨_, _, _, hn⟩ := h15.1
              have hm2 := h15.2.2.2.2
              have hw2 : rW p300.2.2.2.2.2.2.2.2.2.2.2.2.1 p300.2.2.2.2.2.2.2.2.2.2.2.2.2.1 p300.2.2.2.2.2.2.2.2.2.2.2.2.2.2 := ⟨vm, hm2, hM⟩
              unfold S_NH_powerModulo_at_c136 F_NH_powerModulo_at_c136
              have h16 := T_keepWhole (x2 := x5) (t0_0 := (p300.1 : Int32)) (t0_1 := (p300.2.1 : Int32)) (t1_0 := (p300.2.2.1 : (Nat → Int32))) (t2_0 := (p300.2.2.2.2.2.2.2.2.2.2.2.2.1 : Int32)) (t2_1 := (p300.2.2.2.2.2.2.2.2.2.2.2.2.2.1 : Int32)) (t3_0 := (p300.2.2.2.2.2.2.2.2.2.2.2.2.2.2 : (Nat → Int32))) hn (by first | exact hw2 | exact hw) (by first | assumption | omega | trivial | decide) (by first | assumption | omega | trivial | decide)
              refine v_owe h16.1 ?_
              replace h16 := h16.2
              generalize F_NH_keepWhole x5 (p300.1 : Int32) (p300.2.1 : Int32) (p300.2.2.1 : (Nat → Int32)) (p300.2.2.2.2.2.2.2.2.2.2.2.2.1 : Int32) (p300.2.2.2.2.2.2.2.2.2.2.2.2.2.1 : Int32) (p300.2.2.2.2.2.2.2.2.2.2.2.2.2.2 : (Nat → Int32)) = p335 at h16 ⊢
              have hkw := h16
              unfold S_NH_powerModulo_at_c142 F_NH_powerModulo_at_c142
              by_cases g17 : p335.1 = (0 : Int32)
              ·
                rw [if_pos g17, if_pos g17]
                have g17i : p335.1.toInt = 0 := q_eqI g17
                refine ⟨trivial, ?_⟩
                first | exact hw | exact hw2 | exact hkw
              ·
                rw [if_neg g17, if_neg g17]
                have g17i : p335.1.toInt ≠ 0 := q_neI g17
                refine ⟨trivial, ?_⟩
                first | exact hw | exact hw2 | exact hkw
            ·
              rw [if_neg g13, if_neg g13]
              have g13i : t18_1.toInt ≠ 0 := q_neI g13
              refine v_cons (by omega) ?_
              refine v_cons (by omega) ?_
              have h18 := T_inverse_a (R2 := (68 : Int32)) (t0_0 := t0_0) (t0_1 := t0_1) (t1_0 := t1_0) (t2_0 := t2_0) (t2_1 := t2_1) (t3_0 := t3_0) (t4_0 := t6_0) (t4_1 := t6_1) (t5_0 := t7_0) (t6_0 := t8_0) (t6_1 := t8_1) (t7_0 := t9_0) (t8_0 := t10_0) (t8_1 := t10_1) (t9_0 := t11_0) (t10_0 := t12_0) (t10_1 := t12_1) (t11_0 := t13_0) (t12_0 := t14_0) (t12_1 := t14_1) (t13_0 := t15_0) (t14_0 := t16_0) (t14_1 := t16_1) (t15_0 := t17_0) hm hvs hM (by decide) trivial
              refine v_owe h18.1 ?_
              replace h18 := h18.2
              generalize F_Mil_inverse_a (68 : Int32) t0_0 t0_1 t1_0 t2_0 t2_1 t3_0 t6_0 t6_1 t7_0 t8_0 t8_1 t9_0 t10_0 t10_1 t11_0 t12_0 t12_1 t13_0 t14_0 t14_1 t15_0 t16_0 t16_1 t17_0 = p459 at h18 ⊢
              obtain ⟨_, hlt, _, hn⟩ := h18.1
              have hnB := hM.le (Nat.le_of_lt hlt)
              have hm2 := h18.2.2.2.2.2.2.2
              have hw2 : rW p459.2.2.2.2.2.2.2.2.2.2.2.2.2.2.2.2.2.2.2.2.2.2.1 p459.2.2.2.2.2.2.2.2.2.2.2.2.2.2.2.2.2.2.2.2.2.2.2.1 p459.2.2.2.2.2.2.2.2.2.2.2.2.2.2.2.2.2.2.2.2.2.2.2.2 := ⟨vm, hm2, hM⟩
              unfold S_NH_powerModulo_at_c85 F_NH_powerModulo_at_c85
              by_cases g19 : (F_NH_canHave (p459.1 : Int32)) = (0 : Int32)
              ·
                rw [if_pos g19, if_pos g19]
                have h20 := T_powerBelow (R := (68 : Int32)) (R2 := (68 : Int32)) (t0_0 := (p459.2.1 : Int32)) (t0_1 := (p459.2.2.1 : Int32)) (t1_0 := (p459.2.2.2.1 : (Nat → Int32))) (t2_0 := (p459.2.2.2.2.1 : Int32)) (t2_1 := (p459.2.2.2.2.2.1 : Int32)) (t3_0 := (p459.2.2.2.2.2.2.1 : (Nat → Int32))) (t4_0 := t4_0) (t4_1 := t4_1) (t5_0 := t5_0) (t6_0 := (p459.2.2.2.2.2.2.2.1 : Int32)) (t6_1 := (p459.2.2.2.2.2.2.2.2.1 : Int32)) (t7_0 := (p459.2.2.2.2.2.2.2.2.2.1 : (Nat → Int32))) (t8_0 := t18_0) (t8_1 := t18_1) (t9_0 := t19_0) (t10_0 := (p459.2.2.2.2.2.2.2.2.2.2.2.2.2.2.2.2.2.2.2.2.2.2.1 : Int32)) (t10_1 := (p459.2.2.2.2.2.2.2.2.2.2.2.2.2.2.2.2.2.2.2.2.2.2.2.1 : Int32)) (t11_0 := (p459.2.2.2.2.2.2.2.2.2.2.2.2.2.2.2.2.2.2.2.2.2.2.2.2 : (Nat → Int32))) hn trivial hm2 he.J (by omega) hnB hM (by decide)
                refine v_owe h20.1 ?_
                replace h20 := h20.2
                generalize F_Mil_powerBelow (68 : Int32) (68 : Int32) (p459.2.1 : Int32) (p459.2.2.1 : Int32) (p459.2.2.2.1 : (Nat → Int32)) (p459.2.2.2.2.1 : Int32) (p459.2.2.2.2.2.1 : Int32) (p459.2.2.2.2.2.2.1 : (Nat → Int32)) t4_0 t4_1 t5_0 (p459.2.2.2.2.2.2.2.1 : Int32) (p459.2.2.2.2.2.2.2.2.1 : Int32) (p459.2.2.2.2.2.2.2.2.2.1 : (Nat → Int32)) t18_0 t18_1 t19_0 (p459.2.2.2.2.2.2.2.2.2.2.2.2.2.2.2.2.2.2.2.2.2.2.1 : Int32) (p459.2.2.2.2.2.2.2.2.2.2.2.2.2.2.2.2.2.2.2.2.2.2.2.1 : Int32) (p459.2.2.2.2.2.2.2.2.2.2.2.2.2.2.2.2.2.2.2.2.2.2.2.2 : (Nat → Int32)) = p555 at h20 ⊢
                obtain ⟨_, _, _, hn⟩ := h20.1
                have hm2 := h20.2.2.2.2
                have hw2 : rW p555.2.2.2.2.2.2.2.2.2.2.2.2.1 p555.2.2.2.2.2.2.2.2.2.2.2.2.2.1 p555.2.2.2.2.2.2.2.2.2.2.2.2.2.2 := ⟨vm, hm2, hM⟩
                unfold S_NH_powerModulo_at_c136_7 F_NH_powerModulo_at_c136_7
                have h21 := T_keepWhole (x2 := x5) (t0_0 := (p555.1 : Int32)) (t0_1 := (p555.2.1 : Int32)) (t1_0 := (p555.2.2.1 : (Nat → Int32))) (t2_0 := (p555.2.2.2.2.2.2.2.2.2.2.2.2.1 : Int32)) (t2_1 := (p555.2.2.2.2.2.2.2.2.2.2.2.2.2.1 : Int32)) (t3_0 := (p555.2.2.2.2.2.2.2.2.2.2.2.2.2.2 : (Nat → Int32))) hn (by first | exact hw2 | exact hw) (by first | assumption | omega | trivial | decide) (by first | assumption | omega | trivial | decide)
                refine v_owe h21.1 ?_
                replace h21 := h21.2
                generalize F_NH_keepWhole x5 (p555.1 : Int32) (p555.2.1 : Int32) (p555.2.2.1 : (Nat → Int32)) (p555.2.2.2.2.2.2.2.2.2.2.2.2.1 : Int32) (p555.2.2.2.2.2.2.2.2.2.2.2.2.2.1 : Int32) (p555.2.2.2.2.2.2.2.2.2.2.2.2.2.2 : (Nat → Int32)) = p590 at h21 ⊢
                have hkw := h21
                unfold S_NH_powerModulo_at_c142_8 F_NH_powerModulo_at_c142_8
                by_cases g22 : p590.1 = (0 : Int32)
                ·
                  rw [if_pos g22, if_pos g22]
                  have g22i : p590.1.toInt = 0 := q_eqI g22
                  refine ⟨trivial, ?_⟩
                  first | exact hw | exact hw2 | exact hkw
                ·
                  rw [if_neg g22, if_neg g22]
                  have g22i : p590.1.toInt ≠ 0 := q_neI g22
                  refine ⟨trivial, ?_⟩
                  first | exact hw | exact hw2 | exact hkw
              ·
                rw [if_neg g19, if_neg g19]
                refine ⟨trivial, ?_⟩
                first | exact hw | exact hw2 | exact hkw
def Q_powerModulo_et (p : Int32 × Int32 × Int32 × (Nat → Int32) × Int32 × Int32 × (Nat → Int32) × Int32 × Int32 × (Nat → Int32) × Int32 × Int32 × (Nat → Int32) × Int32 × Int32 × (Nat → Int32) × Int32 × Int32 × (Nat → Int32) × Int32 × Int32 × (Nat → Int32) × Int32 × Int32 × (Nat → Int32) × Int32 × Int32 × (Nat → Int32)) : Prop := rW p.2.2.2.2.2.2.2.2.2.2.2.2.2.2.2.2.2.2.2.2.2.2.2.2.2.1 p.2.2.2.2.2.2.2.2.2.2.2.2.2.2.2.2.2.2.2.2.2.2.2.2.2.2.1 p.2.2.2.2.2.2.2.2.2.2.2.2.2.2.2.2.2.2.2.2.2.2.2.2.2.2.2
theorem T_powerModulo_et {x2 : Int32} {x3 : Int32} {x4 : Int32} {x5 : Int32} {t0_0 : Int32} {t0_1 : Int32} {t1_0 : (Nat → Int32)} {t2_0 : Int32} {t2_1 : Int32} {t3_0 : (Nat → Int32)} {t4_0 : Int32} {t4_1 : Int32} {t5_0 : (Nat → Int32)} {t6_0 : Int32} {t6_1 : Int32} {t7_0 : (Nat → Int32)} {t8_0 : Int32} {t8_1 : Int32} {t9_0 : (Nat → Int32)} {t10_0 : Int32} {t10_1 : Int32} {t11_0 : (Nat → Int32)} {t12_0 : Int32} {t12_1 : Int32} {t13_0 : (Nat → Int32)} {t14_0 : Int32} {t14_1 : Int32} {t15_0 : (Nat → Int32)} {t16_0 : Int32} {t16_1 : Int32} {t17_0 : (Nat → Int32)} {t18_0 : Int32} {t18_1 : Int32} {t19_0 : (Nat → Int32)} {va vm : Int} (ha : bO 68 t16_0 t16_1 t17_0 va) (hA : bB 67 va) (hm : bO 68 t18_0 t18_1 t19_0 vm) (hM : bB 67 vm) : (S_NH_powerModulo_et x2 x3 x4 x5 t0_0 t0_1 t1_0 t2_0 t2_1 t3_0 t4_0 t4_1 t5_0 t6_0 t6_1 t7_0 t8_0 t8_1 t9_0 t10_0 t10_1 t11_0 t12_0 t12_1 t13_0 t14_0 t14_1 t15_0 t16_0 t16_1 t17_0 t18_0 t18_1 t19_0) ∧ Q_powerModulo_et (F_NH_powerModulo_et x2 x3 x4 x5 t0_0 t0_1 t1_0 t2_0 t2_1 t3_0 t4_0 t4_1 t5_0 t6_0 t6_1 t7_0 t8_0 t8_1 t9_0 t10_0 t10_1 t11_0 t12_0 t12_1 t13_0 t14_0 t14_1 t15_0 t16_0 t16_1 t17_0 t18_0 t18_1 t19_0) := by
  have e0 : (0 : Int32).toInt = 0 := rfl
  have e220 : (220 : Int32).toInt = 220 := rfl
  have e68 : (68 : Int32).toInt = 68 := rfl
  have sm : t18_0.toInt ≤ 68 := hm.2.2.2.1
  have hw : rW t18_0 t18_1 t19_0 := ⟨vm, hm, hM⟩
  unfold S_NH_powerModulo_et F_NH_powerModulo_et
  by_cases g1 : ((F_NH_isRegister x2) : Int32) = (0 : Int32)
  ·
    rw [if_pos g1, if_pos g1]
    unfold S_NH_powerModulo_et_J33 F_NH_powerModulo_et_J33
    unfold S_NH_powerModulo_et_J34 F_NH_powerModulo_et_J34
    have g2 : ¬ ((F_NH_need (0 : Int32)) = (0 : Int32)) := (by decide)
    rw [if_neg g2, if_neg g2]
    refine ⟨trivial, ?_⟩
    first | exact hw | exact hw2 | exact hkw
  ·
    rw [if_neg g1, if_neg g1]
    have g1r := v_isReg g1
    by_cases g3 : ((F_NH_isRegister x3) : Int32) = (0 : Int32)
    ·
      rw [if_pos g3, if_pos g3]
      unfold S_NH_powerModulo_et_J33 F_NH_powerModulo_et_J33
      unfold S_NH_powerModulo_et_J34 F_NH_powerModulo_et_J34
      have g4 : ¬ ((F_NH_need (0 : Int32)) = (0 : Int32)) := (by decide)
      rw [if_neg g4, if_neg g4]
      refine ⟨trivial, ?_⟩
      first | exact hw | exact hw2 | exact hkw
    ·
      rw [if_neg g3, if_neg g3]
      have g3r := v_isReg g3
      by_cases g5 : ((F_NH_isRegister x4) : Int32) = (0 : Int32)
      ·
        rw [if_pos g5, if_pos g5]
        unfold S_NH_powerModulo_et_J33 F_NH_powerModulo_et_J33
        unfold S_NH_powerModulo_et_J34 F_NH_powerModulo_et_J34
        have g6 : ¬ ((F_NH_need (0 : Int32)) = (0 : Int32)) := (by decide)
        rw [if_neg g6, if_neg g6]
        refine ⟨trivial, ?_⟩
        first | exact hw | exact hw2 | exact hkw
      ·
        rw [if_neg g5, if_neg g5]
        have g5r := v_isReg g5
        by_cases g7 : ((F_NH_isRegister x5) : Int32) = (0 : Int32)
        ·
          rw [if_pos g7, if_pos g7]
          unfold S_NH_powerModulo_et_J33 F_NH_powerModulo_et_J33
          unfold S_NH_powerModulo_et_J34 F_NH_powerModulo_et_J34
          have g8 : ¬ ((F_NH_need (0 : Int32)) = (0 : Int32)) := (by decide)
          rw [if_neg g8, if_neg g8]
          refine ⟨trivial, ?_⟩
          first | exact hw | exact hw2 | exact hkw
        ·
          rw [if_neg g7, if_neg g7]
          have g7r := v_isReg g7
          unfold S_NH_powerModulo_et_J34 F_NH_powerModulo_et_J34
          have g9 : ((F_NH_need (1 : Int32)) = (0 : Int32)) := (by decide)
          rw [if_pos g9, if_pos g9]
          refine v_cons (by omega) ?_
          refine v_cons (by omega) ?_
          by_cases g10 : ((F_Big_sign (68 : Int32) t18_0 t18_1) : Int32) ≤ (0 : Int32)
          ·
            rw [if_pos g10, if_pos g10]
            unfold S_NH_powerModulo_et_J54 F_NH_powerModulo_et_J54
            have g11 : ¬ ((F_NH_canHave (0 : Int32)) = (0 : Int32)) := (by decide)
            rw [if_neg g11, if_neg g11]
            refine ⟨trivial, ?_⟩
            first | exact hw | exact hw2 | exact hkw
          ·
            rw [if_neg g10, if_neg g10]
            have hvs := v_sgnP hm g10
            unfold S_NH_powerModulo_et_J54 F_NH_powerModulo_et_J54
            have g12 : ((F_NH_canHave (1 : Int32)) = (0 : Int32)) := (by decide)
            rw [if_pos g12, if_pos g12]
            refine v_cons (by omega) ?_
            refine v_cons (by omega) ?_
            by_cases g13 : t18_1 = (0 : Int32)
            ·
              rw [if_pos g13, if_pos g13]
              have g13i : t18_1.toInt = 0 := q_eqI g13
              refine v_cons (by omega) ?_
              refine v_cons (by omega) ?_
              have h14 := T_modulo (R := (68 : Int32)) (R2 := (68 : Int32)) (R3 := (220 : Int32)) (t0_0 := t2_0) (t0_1 := t2_1) (t1_0 := t3_0) (t2_0 := t16_0) (t2_1 := t16_1) (t3_0 := t17_0) (t4_0 := t18_0) (t4_1 := t18_1) (t5_0 := t19_0) (t6_0 := t0_0) (t6_1 := t0_1) (t7_0 := t1_0) ha hm (by omega) hA (by decide) (by omega) (by decide)
              refine v_owe h14.1 ?_
              replace h14 := h14.2
              generalize F_Mil_modulo (68 : Int32) (68 : Int32) (220 : Int32) t2_0 t2_1 t3_0 t16_0 t16_1 t17_0 t18_0 t18_1 t19_0 t0_0 t0_1 t1_0 = p229 at h14 ⊢
              have hn := h14.2.2
              have hnB := v_modB (va := va) hvs hM
              have hm2 := h14.2.1
              have hw2 : rW p229.2.2.2.1 p229.2.2.2.2.1 p229.2.2.2.2.2.1 := ⟨vm, hm2, hM⟩
              unfold S_NH_powerModulo_et_c117 F_NH_powerModulo_et_c117
              have h15 := T_powerBelow_a (R2 := (68 : Int32)) (t0_0 := (p229.2.2.2.2.2.2.1 : Int32)) (t0_1 := (p229.2.2.2.2.2.2.2.1 : Int32)) (t1_0 := (p229.2.2.2.2.2.2.2.2 : (Nat → Int32))) (t2_0 := (p229.1 : Int32)) (t2_1 := (p229.2.1 : Int32)) (t3_0 := (p229.2.2.1 : (Nat → Int32))) (t4_0 := t4_0) (t4_1 := t4_1) (t5_0 := t5_0) (t6_0 := t6_0) (t6_1 := t6_1) (t7_0 := t7_0) (t8_0 := (p229.2.2.2.1 : Int32)) (t8_1 := (p229.2.2.2.2.1 : Int32)) (t9_0 := (p229.2.2.2.2.2.1 : (Nat → Int32))) hn trivial hm2 (by omega) hnB hM (by decide)
              refine v_owe h15.1 ?_
              replace h15 := h15.2
              generalize F_Mil_powerBelow_a (68 : Int32) (p229.2.2.2.2.2.2.1 : Int32) (p229.2.2.2.2.2.2.2.1 : Int32) (p229.2.2.2.2.2.2.2.2 : (Nat → Int32)) (p229.1 : Int32) (p229.2.1 : Int32) (p229.2.2.1 : (Nat → Int32)) t4_0 t4_1 t5_0 t6_0 t6_1 t7_0 (p229.2.2.2.1 : Int32) (p229.2.2.2.2.1 : Int32) (p229.2.2.2.2.2.1 : (Nat → Int32)) = p300 at h15 ⊢
              obtain ⟨_, _, _, hn⟩ := h15.1
              have hm2 := h15.2.2.2.2
              have hw2 : rW p300.2.2.2.2.2.2.2.2.2.2.2.2.1 p300.2.2.2.2.2.2.2.2.2.2.2.2.2.1 p300.2.2.2.2.2.2.2.2.2.2.2.2.2.2 := ⟨vm, hm2, hM⟩
              unfold S_NH_powerModulo_et_c136 F_NH_powerModulo_et_c136
              have h16 := T_keepWhole (x2 := x5) (t0_0 := (p300.1 : Int32)) (t0_1 := (p300.2.1 : Int32)) (t1_0 := (p300.2.2.1 : (Nat → Int32))) (t2_0 := (p300.2.2.2.2.2.2.2.2.2.2.2.2.1 : Int32)) (t2_1 := (p300.2.2.2.2.2.2.2.2.2.2.2.2.2.1 : Int32)) (t3_0 := (p300.2.2.2.2.2.2.2.2.2.2.2.2.2.2 : (Nat → Int32))) hn (by first | exact hw2 | exact hw) (by first | assumption | omega | trivial | decide) (by first | assumption | omega | trivial | decide)
              refine v_owe h16.1 ?_
              replace h16 := h16.2
              generalize F_NH_keepWhole x5 (p300.1 : Int32) (p300.2.1 : Int32) (p300.2.2.1 : (Nat → Int32)) (p300.2.2.2.2.2.2.2.2.2.2.2.2.1 : Int32) (p300.2.2.2.2.2.2.2.2.2.2.2.2.2.1 : Int32) (p300.2.2.2.2.2.2.2.2.2.2.2.2.2.2 : (Nat → Int32)) = p335 at h16 ⊢
              have hkw := h16
              unfold S_NH_powerModulo_et_c142 F_NH_powerModulo_et_c142
              by_cases g17 : p335.1 = (0 : Int32)
              ·
                rw [if_pos g17, if_pos g17]
                have g17i : p335.1.toInt = 0 := q_eqI g17
                refine ⟨trivial, ?_⟩
                first | exact hw | exact hw2 | exact hkw
              ·
                rw [if_neg g17, if_neg g17]
                have g17i : p335.1.toInt ≠ 0 := q_neI g17
                refine ⟨trivial, ?_⟩
                first | exact hw | exact hw2 | exact hkw
            ·
              rw [if_neg g13, if_neg g13]
              have g13i : t18_1.toInt ≠ 0 := q_neI g13
              refine v_cons (by omega) ?_
              refine v_cons (by omega) ?_
              have h18 := T_inverse (R := (68 : Int32)) (R2 := (68 : Int32)) (t0_0 := t0_0) (t0_1 := t0_1) (t1_0 := t1_0) (t2_0 := t2_0) (t2_1 := t2_1) (t3_0 := t3_0) (t4_0 := t6_0) (t4_1 := t6_1) (t5_0 := t7_0) (t6_0 := t8_0) (t6_1 := t8_1) (t7_0 := t9_0) (t8_0 := t10_0) (t8_1 := t10_1) (t9_0 := t11_0) (t10_0 := t12_0) (t10_1 := t12_1) (t11_0 := t13_0) (t12_0 := t14_0) (t12_1 := t14_1) (t13_0 := t15_0) (t14_0 := t16_0) (t14_1 := t16_1) (t15_0 := t17_0) (t16_0 := t18_0) (t16_1 := t18_1) (t17_0 := t19_0) ha hm hvs hA hM (by decide) trivial
              refine v_owe h18.1 ?_
              replace h18 := h18.2
              generalize F_Mil_inverse (68 : Int32) (68 : Int32) t0_0 t0_1 t1_0 t2_0 t2_1 t3_0 t6_0 t6_1 t7_0 t8_0 t8_1 t9_0 t10_0 t10_1 t11_0 t12_0 t12_1 t13_0 t14_0 t14_1 t15_0 t16_0 t16_1 t17_0 t18_0 t18_1 t19_0 = p462 at h18 ⊢
              obtain ⟨_, hlt, _, hn⟩ := h18.1
              have hnB := hM.le (Nat.le_of_lt hlt)
              have hm2 := h18.2.2.2.2.2.2.2
              have hw2 : rW p462.2.2.2.2.2.2.2.2.2.2.2.2.2.2.2.2.2.2.2.2.2.2.1 p462.2.2.2.2.2.2.2.2.2.2.2.2.2.2.2.2.2.2.2.2.2.2.2.1 p462.2.2.2.2.2.2.2.2.2.2.2.2.2.2.2.2.2.2.2.2.2.2.2.2 := ⟨vm, hm2, hM⟩
              unfold S_NH_powerModulo_et_c85 F_NH_powerModulo_et_c85
              by_cases g19 : (F_NH_canHave (p462.1 : Int32)) = (0 : Int32)
              ·
                rw [if_pos g19, if_pos g19]
                have h20 := T_powerBelow_a (R2 := (68 : Int32)) (t0_0 := (p462.2.1 : Int32)) (t0_1 := (p462.2.2.1 : Int32)) (t1_0 := (p462.2.2.2.1 : (Nat → Int32))) (t2_0 := (p462.2.2.2.2.1 : Int32)) (t2_1 := (p462.2.2.2.2.2.1 : Int32)) (t3_0 := (p462.2.2.2.2.2.2.1 : (Nat → Int32))) (t4_0 := t4_0) (t4_1 := t4_1) (t5_0 := t5_0) (t6_0 := (p462.2.2.2.2.2.2.2.1 : Int32)) (t6_1 := (p462.2.2.2.2.2.2.2.2.1 : Int32)) (t7_0 := (p462.2.2.2.2.2.2.2.2.2.1 : (Nat → Int32))) (t8_0 := (p462.2.2.2.2.2.2.2.2.2.2.2.2.2.2.2.2.2.2.2.2.2.2.1 : Int32)) (t8_1 := (p462.2.2.2.2.2.2.2.2.2.2.2.2.2.2.2.2.2.2.2.2.2.2.2.1 : Int32)) (t9_0 := (p462.2.2.2.2.2.2.2.2.2.2.2.2.2.2.2.2.2.2.2.2.2.2.2.2 : (Nat → Int32))) hn trivial hm2 (by omega) hnB hM (by decide)
                refine v_owe h20.1 ?_
                replace h20 := h20.2
                generalize F_Mil_powerBelow_a (68 : Int32) (p462.2.1 : Int32) (p462.2.2.1 : Int32) (p462.2.2.2.1 : (Nat → Int32)) (p462.2.2.2.2.1 : Int32) (p462.2.2.2.2.2.1 : Int32) (p462.2.2.2.2.2.2.1 : (Nat → Int32)) t4_0 t4_1 t5_0 (p462.2.2.2.2.2.2.2.1 : Int32) (p462.2.2.2.2.2.2.2.2.1 : Int32) (p462.2.2.2.2.2.2.2.2.2.1 : (Nat → Int32)) (p462.2.2.2.2.2.2.2.2.2.2.2.2.2.2.2.2.2.2.2.2.2.2.1 : Int32) (p462.2.2.2.2.2.2.2.2.2.2.2.2.2.2.2.2.2.2.2.2.2.2.2.1 : Int32) (p462.2.2.2.2.2.2.2.2.2.2.2.2.2.2.2.2.2.2.2.2.2.2.2.2 : (Nat → Int32)) = p558 at h20 ⊢
                obtain ⟨_, _, _, hn⟩ := h20.1
                have hm2 := h20.2.2.2.2
                have hw2 : rW p558.2.2.2.2.2.2.2.2.2.2.2.2.1 p558.2.2.2.2.2.2.2.2.2.2.2.2.2.1 p558.2.2.2.2.2.2.2.2.2.2.2.2.2.2 := ⟨vm, hm2, hM⟩
                unfold S_NH_powerModulo_et_c136_7 F_NH_powerModulo_et_c136_7
                have h21 := T_keepWhole (x2 := x5) (t0_0 := (p558.1 : Int32)) (t0_1 := (p558.2.1 : Int32)) (t1_0 := (p558.2.2.1 : (Nat → Int32))) (t2_0 := (p558.2.2.2.2.2.2.2.2.2.2.2.2.1 : Int32)) (t2_1 := (p558.2.2.2.2.2.2.2.2.2.2.2.2.2.1 : Int32)) (t3_0 := (p558.2.2.2.2.2.2.2.2.2.2.2.2.2.2 : (Nat → Int32))) hn (by first | exact hw2 | exact hw) (by first | assumption | omega | trivial | decide) (by first | assumption | omega | trivial | decide)
                refine v_owe h21.1 ?_
                replace h21 := h21.2
                generalize F_NH_keepWhole x5 (p558.1 : Int32) (p558.2.1 : Int32) (p558.2.2.1 : (Nat → Int32)) (p558.2.2.2.2.2.2.2.2.2.2.2.2.1 : Int32) (p558.2.2.2.2.2.2.2.2.2.2.2.2.2.1 : Int32) (p558.2.2.2.2.2.2.2.2.2.2.2.2.2.2 : (Nat → Int32)) = p593 at h21 ⊢
                have hkw := h21
                unfold S_NH_powerModulo_et_c142_8 F_NH_powerModulo_et_c142_8
                by_cases g22 : p593.1 = (0 : Int32)
                ·
                  rw [if_pos g22, if_pos g22]
                  have g22i : p593.1.toInt = 0 := q_eqI g22
                  refine ⟨trivial, ?_⟩
                  first | exact hw | exact hw2 | exact hkw
                ·
                  rw [if_neg g22, if_neg g22]
                  have g22i : p593.1.toInt ≠ 0 := q_neI g22
                  refine ⟨trivial, ?_⟩
                  first | exact hw | exact hw2 | exact hkw
              ·
                rw [if_neg g19, if_neg g19]
                refine ⟨trivial, ?_⟩
                first | exact hw | exact hw2 | exact hkw
def Q_powerModulo_aet (p : Int32 × Int32 × Int32 × (Nat → Int32) × Int32 × Int32 × (Nat → Int32) × Int32 × Int32 × (Nat → Int32) × Int32 × Int32 × (Nat → Int32) × Int32 × Int32 × (Nat → Int32) × Int32 × Int32 × (Nat → Int32) × Int32 × Int32 × (Nat → Int32) × Int32 × Int32 × (Nat → Int32) × Int32 × Int32 × (Nat → Int32)) : Prop := rW p.2.2.2.2.2.2.2.2.2.2.2.2.2.2.2.2.2.2.2.2.2.2.2.2.2.1 p.2.2.2.2.2.2.2.2.2.2.2.2.2.2.2.2.2.2.2.2.2.2.2.2.2.2.1 p.2.2.2.2.2.2.2.2.2.2.2.2.2.2.2.2.2.2.2.2.2.2.2.2.2.2.2
theorem T_powerModulo_aet {x2 : Int32} {x3 : Int32} {x4 : Int32} {x5 : Int32} {t0_0 : Int32} {t0_1 : Int32} {t1_0 : (Nat → Int32)} {t2_0 : Int32} {t2_1 : Int32} {t3_0 : (Nat → Int32)} {t4_0 : Int32} {t4_1 : Int32} {t5_0 : (Nat → Int32)} {t6_0 : Int32} {t6_1 : Int32} {t7_0 : (Nat → Int32)} {t8_0 : Int32} {t8_1 : Int32} {t9_0 : (Nat → Int32)} {t10_0 : Int32} {t10_1 : Int32} {t11_0 : (Nat → Int32)} {t12_0 : Int32} {t12_1 : Int32} {t13_0 : (Nat → Int32)} {t14_0 : Int32} {t14_1 : Int32} {t15_0 : (Nat → Int32)} {t16_0 : Int32} {t16_1 : Int32} {t17_0 : (Nat → Int32)} {vm : Int} (hm : bO 68 t16_0 t16_1 t17_0 vm) (hM : bB 67 vm) : (S_NH_powerModulo_aet x2 x3 x4 x5 t0_0 t0_1 t1_0 t2_0 t2_1 t3_0 t4_0 t4_1 t5_0 t6_0 t6_1 t7_0 t8_0 t8_1 t9_0 t10_0 t10_1 t11_0 t12_0 t12_1 t13_0 t14_0 t14_1 t15_0 t16_0 t16_1 t17_0) ∧ Q_powerModulo_aet (F_NH_powerModulo_aet x2 x3 x4 x5 t0_0 t0_1 t1_0 t2_0 t2_1 t3_0 t4_0 t4_1 t5_0 t6_0 t6_1 t7_0 t8_0 t8_1 t9_0 t10_0 t10_1 t11_0 t12_0 t12_1 t13_0 t14_0 t14_1 t15_0 t16_0 t16_1 t17_0) := by
  have e0 : (0 : Int32).toInt = 0 := rfl
  have e220 : (220 : Int32).toInt = 220 := rfl
  have e68 : (68 : Int32).toInt = 68 := rfl
  have sm : t16_0.toInt ≤ 68 := hm.2.2.2.1
  have hw : rW t16_0 t16_1 t17_0 := ⟨vm, hm, hM⟩
  unfold S_NH_powerModulo_aet F_NH_powerModulo_aet
  by_cases g1 : ((F_NH_isRegister x2) : Int32) = (0 : Int32)
  ·
    rw [if_pos g1, if_pos g1]
    unfold S_NH_powerModulo_aet_J33 F_NH_powerModulo_aet_J33
    unfold S_NH_powerModulo_aet_J34 F_NH_powerModulo_aet_J34
    have g2 : ¬ ((F_NH_need (0 : Int32)) = (0 : Int32)) := (by decide)
    rw [if_neg g2, if_neg g2]
    refine ⟨trivial, ?_⟩
    first | exact hw | exact hw2 | exact hkw
  ·
    rw [if_neg g1, if_neg g1]
    have g1r := v_isReg g1
    by_cases g3 : ((F_NH_isRegister x3) : Int32) = (0 : Int32)
    ·
      rw [if_pos g3, if_pos g3]
      unfold S_NH_powerModulo_aet_J33 F_NH_powerModulo_aet_J33
      unfold S_NH_powerModulo_aet_J34 F_NH_powerModulo_aet_J34
      have g4 : ¬ ((F_NH_need (0 : Int32)) = (0 : Int32)) := (by decide)
      rw [if_neg g4, if_neg g4]
      refine ⟨trivial, ?_⟩
      first | exact hw | exact hw2 | exact hkw
    ·
      rw [if_neg g3, if_neg g3]
      have g3r := v_isReg g3
      by_cases g5 : ((F_NH_isRegister x4) : Int32) = (0 : Int32)
      ·
        rw [if_pos g5, if_pos g5]
        unfold S_NH_powerModulo_aet_J33 F_NH_powerModulo_aet_J33
        unfold S_NH_powerModulo_aet_J34 F_NH_powerModulo_aet_J34
        have g6 : ¬ ((F_NH_need (0 : Int32)) = (0 : Int32)) := (by decide)
        rw [if_neg g6, if_neg g6]
        refine ⟨trivial, ?_⟩
        first | exact hw | exact hw2 | exact hkw
      ·
        rw [if_neg g5, if_neg g5]
        have g5r := v_isReg g5
        by_cases g7 : ((F_NH_isRegister x5) : Int32) = (0 : Int32)
        ·
          rw [if_pos g7, if_pos g7]
          unfold S_NH_powerModulo_aet_J33 F_NH_powerModulo_aet_J33
          unfold S_NH_powerModulo_aet_J34 F_NH_powerModulo_aet_J34
          have g8 : ¬ ((F_NH_need (0 : Int32)) = (0 : Int32)) := (by decide)
          rw [if_neg g8, if_neg g8]
          refine ⟨trivial, ?_⟩
          first | exact hw | exact hw2 | exact hkw
        ·
          rw [if_neg g7, if_neg g7]
          have g7r := v_isReg g7
          unfold S_NH_powerModulo_aet_J34 F_NH_powerModulo_aet_J34
          have g9 : ((F_NH_need (1 : Int32)) = (0 : Int32)) := (by decide)
          rw [if_pos g9, if_pos g9]
          refine v_cons (by omega) ?_
          refine v_cons (by omega) ?_
          by_cases g10 : ((F_Big_sign (68 : Int32) t16_0 t16_1) : Int32) ≤ (0 : Int32)
          ·
            rw [if_pos g10, if_pos g10]
            unfold S_NH_powerModulo_aet_J54 F_NH_powerModulo_aet_J54
            have g11 : ¬ ((F_NH_canHave (0 : Int32)) = (0 : Int32)) := (by decide)
            rw [if_neg g11, if_neg g11]
            refine ⟨trivial, ?_⟩
            first | exact hw | exact hw2 | exact hkw
          ·
            rw [if_neg g10, if_neg g10]
            have hvs := v_sgnP hm g10
            unfold S_NH_powerModulo_aet_J54 F_NH_powerModulo_aet_J54
            have g12 : ((F_NH_canHave (1 : Int32)) = (0 : Int32)) := (by decide)
            rw [if_pos g12, if_pos g12]
            refine v_cons (by omega) ?_
            refine v_cons (by omega) ?_
            by_cases g13 : t16_1 = (0 : Int32)
            ·
              rw [if_pos g13, if_pos g13]
              have g13i : t16_1.toInt = 0 := q_eqI g13
              refine v_cons (by omega) ?_
              refine v_cons (by omega) ?_
              have h14 := T_modulo_a (R2 := (68 : Int32)) (R4 := (220 : Int32)) (t0_0 := t2_0) (t0_1 := t2_1) (t1_0 := t3_0) (t2_0 := t16_0) (t2_1 := t16_1) (t3_0 := t17_0) (t4_0 := t0_0) (t4_1 := t0_1) (t5_0 := t1_0) hm (by omega) hM (by decide) (by decide)
              refine v_owe h14.1 ?_
              replace h14 := h14.2
              generalize F_Mil_modulo_a (68 : Int32) (220 : Int32) t2_0 t2_1 t3_0 t16_0 t16_1 t17_0 t0_0 t0_1 t1_0 = p217 at h14 ⊢
              have hn := h14.2.2
              have hnB : bB 67 0 := hM.le (Nat.zero_le _)
              have hm2 := h14.2.1
              have hw2 : rW p217.2.2.2.1 p217.2.2.2.2.1 p217.2.2.2.2.2.1 := ⟨vm, hm2, hM⟩
              unfold S_NH_powerModulo_aet_c117 F_NH_powerModulo_aet_c117
              have h15 := T_powerBelow_a (R2 := (68 : Int32)) (t0_0 := (p217.2.2.2.2.2.2.1 : Int32)) (t0_1 := (p217.2.2.2.2.2.2.2.1 : Int32)) (t1_0 := (p217.2.2.2.2.2.2.2.2 : (Nat → Int32))) (t2_0 := (p217.1 : Int32)) (t2_1 := (p217.2.1 : Int32)) (t3_0 := (p217.2.2.1 : (Nat → Int32))) (t4_0 := t4_0) (t4_1 := t4_1) (t5_0 := t5_0) (t6_0 := t6_0) (t6_1 := t6_1) (t7_0 := t7_0) (t8_0 := (p217.2.2.2.1 : Int32)) (t8_1 := (p217.2.2.2.2.1 : Int32)) (t9_0 := (p217.2.2.2.2.2.1 : (Nat → Int32))) hn trivial hm2 (by omega) hnB hM (by decide)
              refine v_owe h15.1 ?_
              replace h15 := h15.2
              generalize F_Mil_powerBelow_a (68 : Int32) (p217.2.2.2.2.2.2.1 : Int32) (p217.2.2.2.2.2.2.2.1 : Int32) (p217.2.2.2.2.2.2.2.2 : (Nat → Int32)) (p217.1 : Int32) (p217.2.1 : Int32) (p217.2.2.1 : (Nat → Int32)) t4_0 t4_1 t5_0 t6_0 t6_1 t7_0 (p217.2.2.2.1 : Int32) (p217.2.2.2.2.1 : Int32) (p217.2.2.2.2.2.1 : (Nat → Int32)) = p288 at h15 ⊢
              obtain ⟨_, _, _, hn⟩ := h15.1
              have hm2 := h15.2.2.2.2
              have hw2 : rW p288.2.2.2.2.2.2.2.2.2.2.2.2.1 p288.2.2.2.2.2.2.2.2.2.2.2.2.2.1 p288.2.2.2.2.2.2.2.2.2.2.2.2.2.2 := ⟨vm, hm2, hM⟩
              unfold S_NH_powerModulo_aet_c136 F_NH_powerModulo_aet_c136
              have h16 := T_keepWhole (x2 := x5) (t0_0 := (p288.1 : Int32)) (t0_1 := (p288.2.1 : Int32)) (t1_0 := (p288.2.2.1 : (Nat → Int32))) (t2_0 := (p288.2.2.2.2.2.2.2.2.2.2.2.2.1 : Int32)) (t2_1 := (p288.2.2.2.2.2.2.2.2.2.2.2.2.2.1 : Int32)) (t3_0 := (p288.2.2.2.2.2.2.2.2.2.2.2.2.2.2 : (Nat → Int32))) hn (by first | exact hw2 | exact hw) (by first | assumption | omega | trivial | decide) (by first | assumption | omega | trivial | decide)
              refine v_owe h16.1 ?_
              replace h16 := h16.2
              generalize F_NH_keepWhole x5 (p288.1 : Int32) (p288.2.1 : Int32) (p288.2.2.1 : (Nat → Int32)) (p288.2.2.2.2.2.2.2.2.2.2.2.2.1 : Int32) (p288.2.2.2.2.2.2.2.2.2.2.2.2.2.1 : Int32) (p288.2.2.2.2.2.2.2.2.2.2.2.2.2.2 : (Nat → Int32)) = p323 at h16 ⊢
              have hkw := h16
              unfold S_NH_powerModulo_aet_c142 F_NH_powerModulo_aet_c142
              by_cases g17 : p323.1 = (0 : Int32)
              ·
                rw [if_pos g17, if_pos g17]
                have g17i : p323.1.toInt = 0 := q_eqI g17
                refine ⟨trivial, ?_⟩
                first | exact hw | exact hw2 | exact hkw
              ·
                rw [if_neg g17, if_neg g17]
                have g17i : p323.1.toInt ≠ 0 := q_neI g17
                refine ⟨trivial, ?_⟩
                first | exact hw | exact hw2 | exact hkw
            ·
              rw [if_neg g13, if_neg g13]
              have g13i : t16_1.toInt ≠ 0 := q_neI g13
              refine v_cons (by omega) ?_
              refine v_cons (by omega) ?_
              have h18 := T_inverse_a (R2 := (68 : Int32)) (t0_0 := t0_0) (t0_1 := t0_1) (t1_0 := t1_0) (t2_0 := t2_0) (t2_1 := t2_1) (t3_0 := t3_0) (t4_0 := t6_0) (t4_1 := t6_1) (t5_0 := t7_0) (t6_0 := t8_0) (t6_1 := t8_1) (t7_0 := t9_0) (t8_0 := t10_0) (t8_1 := t10_1) (t9_0 := t11_0) (t10_0 := t12_0) (t10_1 := t12_1) (t11_0 := t13_0) (t12_0 := t14_0) (t12_1 := t14_1) (t13_0 := t15_0) (t14_0 := t16_0) (t14_1 := t16_1) (t15_0 := t17_0) hm hvs hM (by decide) trivial
              refine v_owe h18.1 ?_
              replace h18 := h18.2
              generalize F_Mil_inverse_a (68 : Int32) t0_0 t0_1 t1_0 t2_0 t2_1 t3_0 t6_0 t6_1 t7_0 t8_0 t8_1 t9_0 t10_0 t10_1 t11_0 t12_0 t12_1 t13_0 t14_0 t14_1 t15_0 t16_0 t16_1 t17_0 = p447 at h18 ⊢
              obtain ⟨_, hlt, _, hn⟩ := h18.1
              have hnB := hM.le (Nat.le_of_lt hlt)
              have hm2 := h18.2.2.2.2.2.2.2
              have hw2 : rW p447.2.2.2.2.2.2.2.2.2.2.2.2.2.2.2.2.2.2.2.2.2.2.1 p447.2.2.2.2.2.2.2.2.2.2.2.2.2.2.2.2.2.2.2.2.2.2.2.1 p447.2.2.2.2.2.2.2.2.2.2.2.2.2.2.2.2.2.2.2.2.2.2.2.2 := ⟨vm, hm2, hM⟩
              unfold S_NH_powerModulo_aet_c85 F_NH_powerModulo_aet_c85
              by_cases g19 : (F_NH_canHave (p447.1 : Int32)) = (0 : Int32)
              ·
                rw [if_pos g19, if_pos g19]
                have h20 := T_powerBelow_a (R2 := (68 : Int32)) (t0_0 := (p447.2.1 : Int32)) (t0_1 := (p447.2.2.1 : Int32)) (t1_0 := (p447.2.2.2.1 : (Nat → Int32))) (t2_0 := (p447.2.2.2.2.1 : Int32)) (t2_1 := (p447.2.2.2.2.2.1 : Int32)) (t3_0 := (p447.2.2.2.2.2.2.1 : (Nat → Int32))) (t4_0 := t4_0) (t4_1 := t4_1) (t5_0 := t5_0) (t6_0 := (p447.2.2.2.2.2.2.2.1 : Int32)) (t6_1 := (p447.2.2.2.2.2.2.2.2.1 : Int32)) (t7_0 := (p447.2.2.2.2.2.2.2.2.2.1 : (Nat → Int32))) (t8_0 := (p447.2.2.2.2.2.2.2.2.2.2.2.2.2.2.2.2.2.2.2.2.2.2.1 : Int32)) (t8_1 := (p447.2.2.2.2.2.2.2.2.2.2.2.2.2.2.2.2.2.2.2.2.2.2.2.1 : Int32)) (t9_0 := (p447.2.2.2.2.2.2.2.2.2.2.2.2.2.2.2.2.2.2.2.2.2.2.2.2 : (Nat → Int32))) hn trivial hm2 (by omega) hnB hM (by decide)
                refine v_owe h20.1 ?_
                replace h20 := h20.2
                generalize F_Mil_powerBelow_a (68 : Int32) (p447.2.1 : Int32) (p447.2.2.1 : Int32) (p447.2.2.2.1 : (Nat → Int32)) (p447.2.2.2.2.1 : Int32) (p447.2.2.2.2.2.1 : Int32) (p447.2.2.2.2.2.2.1 : (Nat → Int32)) t4_0 t4_1 t5_0 (p447.2.2.2.2.2.2.2.1 : Int32) (p447.2.2.2.2.2.2.2.2.1 : Int32) (p447.2.2.2.2.2.2.2.2.2.1 : (Nat → Int32)) (p447.2.2.2.2.2.2.2.2.2.2.2.2.2.2.2.2.2.2.2.2.2.2.1 : Int32) (p447.2.2.2.2.2.2.2.2.2.2.2.2.2.2.2.2.2.2.2.2.2.2.2.1 : Int32) (p447.2.2.2.2.2.2.2.2.2.2.2.2.2.2.2.2.2.2.2.2.2.2.2.2 : (Nat → Int32)) = p543 at h20 ⊢
                obtain ⟨_, _, _, hn⟩ := h20.1
                have hm2 := h20.2.2.2.2
                have hw2 : rW p543.2.2.2.2.2.2.2.2.2.2.2.2.1 p543.2.2.2.2.2.2.2.2.2.2.2.2.2.1 p543.2.2.2.2.2.2.2.2.2.2.2.2.2.2 := ⟨vm, hm2, hM⟩
                unfold S_NH_powerModulo_aet_c136_7 F_NH_powerModulo_aet_c136_7
                have h21 := T_keepWhole (x2 := x5) (t0_0 := (p543.1 : Int32)) (t0_1 := (p543.2.1 : Int32)) (t1_0 := (p543.2.2.1 : (Nat → Int32))) (t2_0 := (p543.2.2.2.2.2.2.2.2.2.2.2.2.1 : Int32)) (t2_1 := (p543.2.2.2.2.2.2.2.2.2.2.2.2.2.1 : Int32)) (t3_0 := (p543.2.2.2.2.2.2.2.2.2.2.2.2.2.2 : (Nat → Int32))) hn (by first | exact hw2 | exact hw) (by first | assumption | omega | trivial | decide) (by first | assumption | omega | trivial | decide)
                refine v_owe h21.1 ?_
                replace h21 := h21.2
                generalize F_NH_keepWhole x5 (p543.1 : Int32) (p543.2.1 : Int32) (p543.2.2.1 : (Nat → Int32)) (p543.2.2.2.2.2.2.2.2.2.2.2.2.1 : Int32) (p543.2.2.2.2.2.2.2.2.2.2.2.2.2.1 : Int32) (p543.2.2.2.2.2.2.2.2.2.2.2.2.2.2 : (Nat → Int32)) = p578 at h21 ⊢
                have hkw := h21
                unfold S_NH_powerModulo_aet_c142_8 F_NH_powerModulo_aet_c142_8
                by_cases g22 : p578.1 = (0 : Int32)
                ·
                  rw [if_pos g22, if_pos g22]
                  have g22i : p578.1.toInt = 0 := q_eqI g22
                  refine ⟨trivial, ?_⟩
                  first | exact hw | exact hw2 | exact hkw
                ·
                  rw [if_neg g22, if_neg g22]
                  have g22i : p578.1.toInt ≠ 0 := q_neI g22
                  refine ⟨trivial, ?_⟩
                  first | exact hw | exact hw2 | exact hkw
              ·
                rw [if_neg g19, if_neg g19]
                refine ⟨trivial, ?_⟩
                first | exact hw | exact hw2 | exact hkw

/-! what the calls keep: read -/
def Q_read (p : Int32 × Int32 × Int64 × Int64 × Int32 × Int32 × Int32 × Int32 × Int32 × Int32 × Int32 × Int64 × Int32 × Int32 × Int32 × (Nat → Int32) × Int32 × Int32 × (Nat → Int32) × Int32 × Int32 × (Nat → Int32) × Int32 × Int32 × (Nat → Int32) × Int32 × Int32 × (Nat → Int32) × (Nat → Int64) × (Nat → Int64) × Int32 × Int32 × (Nat → Int32) × Int32 × Int32 × Int32 × Int32 × (Nat → Int32)) : Prop := rW p.2.2.2.2.2.2.2.2.2.2.2.2.2.2.2.2.2.2.2.2.2.2.2.2.2.2.2.2.2.2.1 p.2.2.2.2.2.2.2.2.2.2.2.2.2.2.2.2.2.2.2.2.2.2.2.2.2.2.2.2.2.2.2.1 p.2.2.2.2.2.2.2.2.2.2.2.2.2.2.2.2.2.2.2.2.2.2.2.2.2.2.2.2.2.2.2.2.1 ∧ rD p.2.2.2.2.2.2.2.2.2.2.2.2.2.2.2.2.2.2.2.2.2.2.2.2.2.2.2.2.2.2.2.2.2.2.2.1 p.2.2.2.2.2.2.2.2.2.2.2.2.2.2.2.2.2.2.2.2.2.2.2.2.2.2.2.2.2.2.2.2.2.2.2.2.1 p.2.2.2.2.2.2.2.2.2.2.2.2.2.2.2.2.2.2.2.2.2.2.2.2.2.2.2.2.2.2.2.2.2.2.2.2.2 p.2.2.2.2.2.2.2.2.2.2.2.2.2.2.2.2.2.2.2.2.2.2.2.2.2.2.2.2.2.2.2.2.2.1 p.2.2.2.2.2.2.2.2.2.2.2.2.2.2.2.2.2.2.2.2.2.2.2.2.2.2.2.2.2.2.2.2.2.2.1
theorem T_read {x2 : Int32} {x3 : Int32} {x4 : Int32} {t0_0 : Int64} {t0_1 : Int32} {t1_0 : Int64} {t1_1 : Int64} {t1_2 : Int32} {t1_3 : Int32} {t1_4 : Int32} {t1_5 : Int32} {t1_6 : Int32} {t1_7 : Int32} {t1_8 : Int32} {t1_9 : Int64} {t2_0 : Int32} {t3_0 : (Nat → Int64)} {t4_0 : Int32} {t4_1 : Int32} {t5_0 : (Nat → Int32)} {t6_0 : Int32} {t6_1 : Int32} {t7_0 : (Nat → Int32)} {t8_0 : Int32} {t8_1 : Int32} {t9_0 : (Nat → Int32)} {t10_0 : Int32} {t10_1 : Int32} {t11_0 : (Nat → Int32)} {t12_0 : Int32} {t12_1 : Int32} {t13_0 : (Nat → Int32)} {t14_0 : (Nat → Int64)} {t15_0 : (Nat → Int64)} {t16_0 : Int32} {t16_1 : Int32} {t17_0 : (Nat → Int32)} {t18_0 : Int32} {t18_1 : Int32} {t19_0 : Int32} {t19_1 : Int32} {t20_0 : (Nat → Int32)} (hw : rW t16_0 t16_1 t17_0) (hd : rD t19_0 t19_1 t20_0 t18_0 t18_1) (ht0 : 0 ≤ t2_0.toInt) (ht : t2_0.toInt ≤ 4100) (h8 : 0 ≤ t1_8.toInt ∧ t1_8.toInt ≤ 1) : (S_NH_read x2 x3 x4 t0_0 t0_1 t1_0 t1_1 t1_2 t1_3 t1_4 t1_5 t1_6 t1_7 t1_8 t1_9 t2_0 t3_0 t4_0 t4_1 t5_0 t6_0 t6_1 t7_0 t8_0 t8_1 t9_0 t10_0 t10_1 t11_0 t12_0 t12_1 t13_0 t14_0 t15_0 t16_0 t16_1 t17_0 t18_0 t18_1 t19_0 t19_1 t20_0) ∧ Q_read (F_NH_read x2 x3 x4 t0_0 t0_1 t1_0 t1_1 t1_2 t1_3 t1_4 t1_5 t1_6 t1_7 t1_8 t1_9 t2_0 t3_0 t4_0 t4_1 t5_0 t6_0 t6_1 t7_0 t8_0 t8_1 t9_0 t10_0 t10_1 t11_0 t12_0 t12_1 t13_0 t14_0 t15_0 t16_0 t16_1 t17_0 t18_0 t18_1 t19_0 t19_1 t20_0) := by
  have e0 : (0 : Int32).toInt = 0 := rfl
  have e68 : (68 : Int32).toInt = 68 := rfl
  unfold S_NH_read F_NH_read
  by_cases g1 : (F_NH_needRegister x2 x3) = (0 : Int32)
  ·
    rw [if_pos g1, if_pos g1]
    have g1r := v_needReg g1
    by_cases g2 : x2 = (0 : Int32)
    ·
      rw [if_pos g2, if_pos g2]
      have g2i : x2.toInt = 0 := q_eqI g2
      by_cases g3 : x4 < (2 : Int32)
      ·
        rw [if_pos g3, if_pos g3]
        have g3i : x4.toInt < 2 := q_ltI g3
        unfold S_NH_read_J24 F_NH_read_J24
        unfold S_NH_read_J39 F_NH_read_J39
        have g4 : ¬ ((F_NH_need (0 : Int32)) = (0 : Int32)) := (by decide)
        rw [if_neg g4, if_neg g4]
        refine ⟨trivial, ?_⟩
        first | exact ⟨hw, hd⟩ | exact ⟨hw3, hd⟩ | exact ⟨hw, hd3⟩
      ·
        rw [if_neg g3, if_neg g3]
        have g3i : 2 ≤ x4.toInt := q_nltI g3
        by_cases g5 : (36 : Int32) < x4
        ·
          rw [if_pos g5, if_pos g5]
          have g5i : 36 < x4.toInt := q_ltI g5
          unfold S_NH_read_J24 F_NH_read_J24
          unfold S_NH_read_J39 F_NH_read_J39
          have g6 : ¬ ((F_NH_need (0 : Int32)) = (0 : Int32)) := (by decide)
          rw [if_neg g6, if_neg g6]
          refine ⟨trivial, ?_⟩
          first | exact ⟨hw, hd⟩ | exact ⟨hw3, hd⟩ | exact ⟨hw, hd3⟩
        ·
          rw [if_neg g5, if_neg g5]
          have g5i : x4.toInt ≤ 36 := q_nltI g5
          unfold S_NH_read_J39 F_NH_read_J39
          have g7 : ((F_NH_need (1 : Int32)) = (0 : Int32)) := (by decide)
          rw [if_pos g7, if_pos g7]
          rw [if_pos g2, if_pos g2]
          have h8 := T_wholeText (b := x4.toInt.toNat) (x2 := x4) (t0_0 := t1_0) (t0_1 := t1_1) (t0_2 := t1_2) (t0_3 := t1_3) (t0_4 := t1_4) (t0_5 := t1_5) (t0_6 := t1_6) (t0_7 := t1_7) (t0_8 := t1_8) (t0_9 := t1_9) (t1_0 := t2_0) (t2_0 := t3_0) (t3_0 := t4_0) (t3_1 := t4_1) (t4_0 := t5_0) (by omega) (by omega) (by omega) (by omega) (by omega)
          refine v_owe h8.1 ?_
          replace h8 := h8.2
          generalize F_Rea_wholeText x4 t1_0 t1_1 t1_2 t1_3 t1_4 t1_5 t1_6 t1_7 t1_8 t1_9 t2_0 t3_0 t4_0 t4_1 t5_0 = p694 at h8 ⊢
          unfold S_NH_read_c51 F_NH_read_c51
          rcases h8 with h80 | h82 | ⟨h81, w, hB, hn⟩
          ·
            rw [if_pos h80, if_pos h80]
            refine ⟨trivial, ?_⟩
            first | exact ⟨hw, hd⟩ | exact ⟨hw3, hd⟩ | exact ⟨hw, hd3⟩
          ·
            have g9 : ¬ ((p694.1 : Int32) = (0 : Int32)) := (by rw [h82]; decide)
            rw [if_neg g9, if_neg g9]
            have g10 : ¬ ((p694.1 : Int32) = (1 : Int32)) := (by rw [h82]; decide)
            rw [if_neg g10, if_neg g10]
            unfold S_NH_read_J108_8 F_NH_read_J108_8
            have g11 : ¬ ((F_NH_canHave (0 : Int32)) = (0 : Int32)) := (by decide)
            rw [if_neg g11, if_neg g11]
            refine ⟨trivial, ?_⟩
            first | exact ⟨hw, hd⟩ | exact ⟨hw3, hd⟩ | exact ⟨hw, hd3⟩
          ·
            have g12 : ¬ ((p694.1 : Int32) = (0 : Int32)) := (by rw [h81]; decide)
            rw [if_neg g12, if_neg g12]
            rw [if_pos h81, if_pos h81]
            unfold S_NH_read_J108_8 F_NH_read_J108_8
            have g13 : ((F_NH_canHave (1 : Int32)) = (0 : Int32)) := (by decide)
            rw [if_pos g13, if_pos g13]
            refine v_cons (by omega) ?_
            refine v_cons (by omega) ?_
            have h14 := W_copy  (R := (68 : Int32)) (s := t16_0) (neg := t16_1) (f := t17_0) hn (by have z := hn.sB hB; omega) (by decide)
            generalize F_Big_copy (68 : Int32) (220 : Int32) t16_0 t16_1 t17_0 (p694.2.2.2.2.2.2.2.2.2.2.2.1 : Int32) (p694.2.2.2.2.2.2.2.2.2.2.2.2.1 : Int32) (p694.2.2.2.2.2.2.2.2.2.2.2.2.2 : (Nat → Int32)) = p777 at h14 ⊢
            have hw3 : rW p777.1 p777.2.1 p777.2.2 := ⟨w, h14, hB⟩
            unfold S_NH_read_c128 F_NH_read_c128
            refine ⟨trivial, ?_⟩
            first | exact ⟨hw, hd⟩ | exact ⟨hw3, hd⟩ | exact ⟨hw, hd3⟩
    ·
      rw [if_neg g2, if_neg g2]
      have g2i : x2.toInt ≠ 0 := q_neI g2
      by_cases g15 : x4 = (10 : Int32)
      ·
        rw [if_pos g15, if_pos g15]
        have g15i : x4.toInt = 10 := q_eqI g15
        unfold S_NH_read_J39 F_NH_read_J39
        have g16 : ((F_NH_need (1 : Int32)) = (0 : Int32)) := (by decide)
        rw [if_pos g16, if_pos g16]
        rw [if_neg g2, if_neg g2]
        by_cases g17 : x2 = (1 : Int32)
        ·
          rw [if_pos g17, if_pos g17]
          have g17i : x2.toInt = 1 := q_eqI g17
          have h18 := T_decimalText (t0_0 := t1_0) (t0_1 := t1_1) (t0_2 := t1_2) (t0_3 := t1_3) (t0_4 := t1_4) (t0_5 := t1_5) (t0_6 := t1_6) (t0_7 := t1_7) (t0_8 := t1_8) (t0_9 := t1_9) (t1_0 := t2_0) (t2_0 := t3_0) (t3_0 := t4_0) (t3_1 := t4_1) (t4_0 := t5_0) (by omega) (by omega)
          refine v_owe h18.1 ?_
          replace h18 := h18.2
          generalize F_Rea_decimalText t1_0 t1_1 t1_2 t1_3 t1_4 t1_5 t1_6 t1_7 t1_8 t1_9 t2_0 t3_0 t4_0 t4_1 t5_0 = p506 at h18 ⊢
          unfold S_NH_read_c68 F_NH_read_c68
          rcases h18 with h180 | ⟨vk, hk, hK⟩
          ·
            rw [if_pos h180, if_pos h180]
            refine ⟨trivial, ?_⟩
            first | exact ⟨hw, hd⟩ | exact ⟨hw3, hd⟩ | exact ⟨hw, hd3⟩
          ·
            by_cases g19 : (p506.1 : Int32) = (0 : Int32)
            ·
              rw [if_pos g19, if_pos g19]
              have g19i : p506.1.toInt = 0 := q_eqI g19
              refine ⟨trivial, ?_⟩
              first | exact ⟨hw, hd⟩ | exact ⟨hw3, hd⟩ | exact ⟨hw, hd3⟩
            ·
              rw [if_neg g19, if_neg g19]
              have g19i : p506.1.toInt ≠ 0 := q_neI g19
              by_cases g20 : (p506.1 : Int32) = (1 : Int32)
              ·
                rw [if_pos g20, if_pos g20]
                have g20i : p506.1.toInt = 1 := q_eqI g20
                unfold S_NH_read_J108 F_NH_read_J108
                have g21 : ((F_NH_canHave (1 : Int32)) = (0 : Int32)) := (by decide)
                rw [if_pos g21, if_pos g21]
                refine v_cons (by omega) ?_
                refine v_cons (by omega) ?_
                have h22 := T_settle (R := (220 : Int32)) (x3 := (p506.2.1 : Int64)) (R2 := (108 : Int32)) (t0_0 := t12_0) (t0_1 := t12_1) (t1_0 := t13_0) (t2_0 := (p506.2.2.2.2.2.2.2.2.2.2.2.1 : Int32)) (t2_1 := (p506.2.2.2.2.2.2.2.2.2.2.2.2.1 : Int32)) (t3_0 := (p506.2.2.2.2.2.2.2.2.2.2.2.2.2 : (Nat → Int32))) (t4_0 := t18_0) (t4_1 := t18_1) (t5_0 := t19_0) (t5_1 := t19_1) (t6_0 := t20_0) hk hK (by decide) trivial (by decide) (by decide) hd
                refine v_owe h22.1 ?_
                replace h22 := h22.2
                generalize F_DW_settle (220 : Int32) (p506.2.1 : Int64) (108 : Int32) t12_0 t12_1 t13_0 (p506.2.2.2.2.2.2.2.2.2.2.2.1 : Int32) (p506.2.2.2.2.2.2.2.2.2.2.2.2.1 : Int32) (p506.2.2.2.2.2.2.2.2.2.2.2.2.2 : (Nat → Int32)) t18_0 t18_1 t19_0 t19_1 t20_0 = p609 at h22 ⊢
                have hd3 := h22.2.2
                unfold S_NH_read_c163 F_NH_read_c163
                by_cases g23 : (F_NH_canHave (p609.1 : Int32)) = (0 : Int32)
                ·
                  rw [if_pos g23, if_pos g23]
                  refine ⟨trivial, ?_⟩
                  first | exact ⟨hw, hd⟩ | exact ⟨hw3, hd⟩ | exact ⟨hw, hd3⟩
                ·
                  rw [if_neg g23, if_neg g23]
                  refine ⟨trivial, ?_⟩
                  first | exact ⟨hw, hd⟩ | exact ⟨hw3, hd⟩ | exact ⟨hw, hd3⟩
              ·
                rw [if_neg g20, if_neg g20]
                have g20i : p506.1.toInt ≠ 1 := q_neI g20
                unfold S_NH_read_J108 F_NH_read_J108
                have g24 : ¬ ((F_NH_canHave (0 : Int32)) = (0 : Int32)) := (by decide)
                rw [if_neg g24, if_neg g24]
                refine ⟨trivial, ?_⟩
                first | exact ⟨hw, hd⟩ | exact ⟨hw3, hd⟩ | exact ⟨hw, hd3⟩
        ·
          rw [if_neg g17, if_neg g17]
          have g17i : x2.toInt ≠ 1 := q_neI g17
          by_cases g25 : x2 = (2 : Int32)
          ·
            rw [if_pos g25, if_pos g25]
            have g25i : x2.toInt = 2 := q_eqI g25
            have h26 := S_floatText (A := (52 : Int32)) (B := (1075 : Int32)) (C := (2047 : Int32)) (t0_0 := t1_0) (t0_1 := t1_1) (t0_2 := t1_2) (t0_3 := t1_3) (t0_4 := t1_4) (t0_5 := t1_5) (t0_6 := t1_6) (t0_7 := t1_7) (t0_8 := t1_8) (t0_9 := t1_9) (t1_0 := t2_0) (t2_0 := t3_0) (t3_0 := t4_0) (t3_1 := t4_1) (t4_0 := t5_0) (t5_0 := t6_0) (t5_1 := t6_1) (t6_0 := t7_0) (t7_0 := t8_0) (t7_1 := t8_1) (t8_0 := t9_0) (t9_0 := t10_0) (t9_1 := t10_1) (t10_0 := t11_0) (t11_0 := t12_0) (t11_1 := t12_1) (t12_0 := t13_0) (by omega) (by omega) h8
            refine v_owe h26 ?_
            generalize F_Rea_floatText (52 : Int32) (1075 : Int32) (2047 : Int32) t1_0 t1_1 t1_2 t1_3 t1_4 t1_5 t1_6 t1_7 t1_8 t1_9 t2_0 t3_0 t4_0 t4_1 t5_0 t6_0 t6_1 t7_0 t8_0 t8_1 t9_0 t10_0 t10_1 t11_0 t12_0 t12_1 t13_0 = p220
            unfold S_NH_read_c85 F_NH_read_c85
            by_cases g27 : (p220.1 : Int32) = (0 : Int32)
            ·
              rw [if_pos g27, if_pos g27]
              have g27i : p220.1.toInt = 0 := q_eqI g27
              refine ⟨trivial, ?_⟩
              first | exact ⟨hw, hd⟩ | exact ⟨hw3, hd⟩ | exact ⟨hw, hd3⟩
            ·
              rw [if_neg g27, if_neg g27]
              have g27i : p220.1.toInt ≠ 0 := q_neI g27
              have g28 : ((F_NH_canHave (1 : Int32)) = (0 : Int32)) := (by decide)
              rw [if_pos g28, if_pos g28]
              rw [if_pos g25, if_pos g25]
              refine v_cons (by omega) ?_
              refine v_cons (by omega) ?_
              refine ⟨trivial, ?_⟩
              first | exact ⟨hw, hd⟩ | exact ⟨hw3, hd⟩ | exact ⟨hw, hd3⟩
          ·
            rw [if_neg g25, if_neg g25]
            have g25i : x2.toInt ≠ 2 := q_neI g25
            have h29 := S_floatText (A := (23 : Int32)) (B := (150 : Int32)) (C := (255 : Int32)) (t0_0 := t1_0) (t0_1 := t1_1) (t0_2 := t1_2) (t0_3 := t1_3) (t0_4 := t1_4) (t0_5 := t1_5) (t0_6 := t1_6) (t0_7 := t1_7) (t0_8 := t1_8) (t0_9 := t1_9) (t1_0 := t2_0) (t2_0 := t3_0) (t3_0 := t4_0) (t3_1 := t4_1) (t4_0 := t5_0) (t5_0 := t6_0) (t5_1 := t6_1) (t6_0 := t7_0) (t7_0 := t8_0) (t7_1 := t8_1) (t8_0 := t9_0) (t9_0 := t10_0) (t9_1 := t10_1) (t10_0 := t11_0) (t11_0 := t12_0) (t11_1 := t12_1) (t12_0 := t13_0) (by omega) (by omega) h8
            refine v_owe h29 ?_
            generalize F_Rea_floatText (23 : Int32) (150 : Int32) (255 : Int32) t1_0 t1_1 t1_2 t1_3 t1_4 t1_5 t1_6 t1_7 t1_8 t1_9 t2_0 t3_0 t4_0 t4_1 t5_0 t6_0 t6_1 t7_0 t8_0 t8_1 t9_0 t10_0 t10_1 t11_0 t12_0 t12_1 t13_0 = p381
            unfold S_NH_read_c85_3 F_NH_read_c85_3
            by_cases g30 : (p381.1 : Int32) = (0 : Int32)
            ·
              rw [if_pos g30, if_pos g30]
              have g30i : p381.1.toInt = 0 := q_eqI g30
              refine ⟨trivial, ?_⟩
              first | exact ⟨hw, hd⟩ | exact ⟨hw3, hd⟩ | exact ⟨hw, hd3⟩
            ·
              rw [if_neg g30, if_neg g30]
              have g30i : p381.1.toInt ≠ 0 := q_neI g30
              have g31 : ((F_NH_canHave (1 : Int32)) = (0 : Int32)) := (by decide)
              rw [if_pos g31, if_pos g31]
              rw [if_neg g25, if_neg g25]
              refine v_cons (by omega) ?_
              refine v_cons (by omega) ?_
              refine ⟨trivial, ?_⟩
              first | exact ⟨hw, hd⟩ | exact ⟨hw3, hd⟩ | exact ⟨hw, hd3⟩
      ·
        rw [if_neg g15, if_neg g15]
        have g15i : x4.toInt ≠ 10 := q_neI g15
        unfold S_NH_read_J39 F_NH_read_J39
        have g32 : ¬ ((F_NH_need (0 : Int32)) = (0 : Int32)) := (by decide)
        rw [if_neg g32, if_neg g32]
        refine ⟨trivial, ?_⟩
        first | exact ⟨hw, hd⟩ | exact ⟨hw3, hd⟩ | exact ⟨hw, hd3⟩
  ·
    rw [if_neg g1, if_neg g1]
    refine ⟨trivial, ?_⟩
    first | exact ⟨hw, hd⟩ | exact ⟨hw3, hd⟩ | exact ⟨hw, hd3⟩

/-! DecimalWork by its own one: the same rows -/
theorem T_divideRaised_o {R : Int32} {R2 : Int32} {x4 : Int32} {t0_0 : Int64} {t0_1 : Int32} {t1_0 : Int32} {t1_1 : Int32} {t2_0 : (Nat → Int32)} {t3_0 : Int32} {t3_1 : Int32} {t4_0 : (Nat → Int32)} {t5_0 : Int32} {t5_1 : Int32} {t6_0 : (Nat → Int32)} {t7_0 : Int32} {t7_1 : Int32} {t8_0 : Int32} {t8_1 : Int32} {t9_0 : (Nat → Int32)} {t10_0 : Int32} {t10_1 : Int32} {t11_0 : Int32} {t11_1 : Int32} {t12_0 : (Nat → Int32)} {va vb : Int} {M : Nat} (ha : bO R t8_0 t8_1 t9_0 va) (hb : bO R2 t11_0 t11_1 t12_0 vb) (hv : vb ≠ 0) (hm : va.natAbs * 10 ^ x4.toNatClampNeg < 2147483648 ^ M) (hM : M ≤ 218) : (S_DW_divideRaised_o R R2 x4 t0_0 t0_1 t1_0 t1_1 t2_0 t3_0 t3_1 t4_0 t5_0 t5_1 t6_0 t7_0 t7_1 t8_0 t8_1 t9_0 t10_0 t10_1 t11_0 t11_1 t12_0) ∧ ((F_DW_divideRaised_o R R2 x4 t0_0 t0_1 t1_0 t1_1 t2_0 t3_0 t3_1 t4_0 t5_0 t5_1 t6_0 t7_0 t7_1 t8_0 t8_1 t9_0 t10_0 t10_1 t11_0 t11_1 t12_0).2.1 = 0 ∨ (F_DW_divideRaised_o R R2 x4 t0_0 t0_1 t1_0 t1_1 t2_0 t3_0 t3_1 t4_0 t5_0 t5_1 t6_0 t7_0 t7_1 t8_0 t8_1 t9_0 t10_0 t10_1 t11_0 t11_1 t12_0).2.1 = 1) ∧ G4 (bP 220 M) (bI 220) (bI 220) (bW R2 vb) (F_DW_divideRaised_o R R2 x4 t0_0 t0_1 t1_0 t1_1 t2_0 t3_0 t3_1 t4_0 t5_0 t5_1 t6_0 t7_0 t7_1 t8_0 t8_1 t9_0 t10_0 t10_1 t11_0 t11_1 t12_0).2.2 := by
  have e := e220
  unfold S_DW_divideRaised_o F_DW_divideRaised_o
  have h1 : P1 220 va (F_Big_copy (220 : Int32) R t5_0 t5_1 t6_0 t8_0 t8_1 t9_0) := W_copy ha ha.fit (by decide)
  generalize (F_Big_copy (220 : Int32) R t5_0 t5_1 t6_0 t8_0 t8_1 t9_0) = p70 at h1 ⊢
  unfold S_DW_divideRaised_o_c11 F_DW_divideRaised_o_c11
  have h2 : P1 220 (va * 10 ^ x4.toNatClampNeg) (F_Big_timesTen (220 : Int32) x4 (p70.1 : Int32) (p70.2.1 : Int32) (p70.2.2 : (Nat → Int32))) := W_ten (M := M) h1 (by omega) hm
  generalize (F_Big_timesTen (220 : Int32) x4 (p70.1 : Int32) (p70.2.1 : Int32) (p70.2.2 : (Nat → Int32))) = p93 at h2 ⊢
  unfold S_DW_divideRaised_o_c22 F_DW_divideRaised_o_c22
  obtain ⟨w, w1, w2, w3, w4, w5⟩ := W_drop (x2 := -x4) h2
  have hB : bB M w := (v_abT hm).le (by rw [w1]; exact Nat.div_le_self _ _)
  generalize F_Big_dropFigures 220 (-x4) p93.1 p93.2.1 p93.2.2 = p122 at w4 w5 ⊢
  unfold S_DW_divideRaised_o_c35 F_DW_divideRaised_o_c35
  have sw := w5.sB hB
  have h3 : S_Big_divideBy (220 : Int32) R2 (220 : Int32) (p122.2.1 : Int32) (p122.2.2.1 : Int32) (p122.2.2.2 : (Nat → Int32)) t11_0 t11_1 t12_0 t3_0 t3_1 t4_0 ∧ P3 220 R2 220 (w.tmod vb) vb ((w.natAbs / vb.natAbs : Nat) : Int) (F_Big_divideBy (220 : Int32) R2 (220 : Int32) (p122.2.1 : Int32) (p122.2.2.1 : Int32) (p122.2.2.2 : (Nat → Int32)) t11_0 t11_1 t12_0 t3_0 t3_1 t4_0) := W_divideBy w5 hb hv (by omega) (by omega) (by decide)
  refine v_owe h3.1 ?_
  replace h3 := h3.2
  generalize (F_Big_divideBy (220 : Int32) R2 (220 : Int32) (p122.2.1 : Int32) (p122.2.2.1 : Int32) (p122.2.2.2 : (Nat → Int32)) t11_0 t11_1 t12_0 t3_0 t3_1 t4_0) = p170 at h3 ⊢
  unfold S_DW_divideRaised_o_c59 F_DW_divideRaised_o_c59
  have hq : bP 220 M _ _ _ := ⟨_, Int.natCast_nonneg _, hB.ndiv, W_copy (R := 220) (s := t1_0) (neg := t1_1) (f := t2_0) h3.2.2 h3.2.2.fit (by decide)⟩
  split
  · exact ⟨trivial, (v_oi _ w4).1, hq, h3.2.2.I, h3.1.I, h3.2.1⟩
  · exact ⟨trivial, (v_oi _ w4).2, hq, h3.2.2.I, h3.1.I, h3.2.1⟩
theorem T_divideToScale_o {R : Int32} {R2 : Int32} {x4 : Int32} {x5 : Int32} {t0_0 : Int64} {t0_1 : Int32} {t1_0 : Int32} {t1_1 : Int32} {t2_0 : (Nat → Int32)} {t3_0 : Int32} {t3_1 : Int32} {t4_0 : (Nat → Int32)} {t5_0 : Int32} {t5_1 : Int32} {t6_0 : (Nat → Int32)} {t7_0 : Int32} {t7_1 : Int32} {t8_0 : Int32} {t8_1 : Int32} {t9_0 : (Nat → Int32)} {t10_0 : Int32} {t10_1 : Int32} {t11_0 : Int32} {t11_1 : Int32} {t12_0 : (Nat → Int32)} {va vb : Int} (ha : dO R t8_0 t8_1 t9_0 t7_0 t7_1 va) (hb : dO R2 t11_0 t11_1 t12_0 t10_0 t10_1 vb) (hv : vb ≠ 0) (hx : -10000 ≤ x4.toInt) (hx2 : x4.toInt ≤ 10000) (i0 : bI 220 t1_0 t1_1 t2_0) (i1 : bI 220 t3_0 t3_1 t4_0) (i2 : bI 220 t5_0 t5_1 t6_0) : (S_DW_divideToScale_o R R2 x4 x5 t0_0 t0_1 t1_0 t1_1 t2_0 t3_0 t3_1 t4_0 t5_0 t5_1 t6_0 t7_0 t7_1 t8_0 t8_1 t9_0 t10_0 t10_1 t11_0 t11_1 t12_0) ∧ Dq (F_DW_divideToScale_o R R2 x4 x5 t0_0 t0_1 t1_0 t1_1 t2_0 t3_0 t3_1 t4_0 t5_0 t5_1 t6_0 t7_0 t7_1 t8_0 t8_1 t9_0 t10_0 t10_1 t11_0 t11_1 t12_0).1 (F_DW_divideToScale_o R R2 x4 x5 t0_0 t0_1 t1_0 t1_1 t2_0 t3_0 t3_1 t4_0 t5_0 t5_1 t6_0 t7_0 t7_1 t8_0 t8_1 t9_0 t10_0 t10_1 t11_0 t11_1 t12_0).2.2.2.1 (F_DW_divideToScale_o R R2 x4 x5 t0_0 t0_1 t1_0 t1_1 t2_0 t3_0 t3_1 t4_0 t5_0 t5_1 t6_0 t7_0 t7_1 t8_0 t8_1 t9_0 t10_0 t10_1 t11_0 t11_1 t12_0).2.2.2.2.1 (F_DW_divideToScale_o R R2 x4 x5 t0_0 t0_1 t1_0 t1_1 t2_0 t3_0 t3_1 t4_0 t5_0 t5_1 t6_0 t7_0 t7_1 t8_0 t8_1 t9_0 t10_0 t10_1 t11_0 t11_1 t12_0).2.2.2.2.2.1 ∧ G4 (bI 220) (bI 220) (bI 220) (bW R2 vb) (F_DW_divideToScale_o R R2 x4 x5 t0_0 t0_1 t1_0 t1_1 t2_0 t3_0 t3_1 t4_0 t5_0 t5_1 t6_0 t7_0 t7_1 t8_0 t8_1 t9_0 t10_0 t10_1 t11_0 t11_1 t12_0).2.2.2 := by
  have e := e220
  have eK : (1000 : Int32).toInt = 1000 := rfl
  obtain ⟨ha1, ⟨ca, ca1, ca2, ca3⟩, ha3, ha4⟩ := ha
  obtain ⟨hb1, ⟨cb, cb1, cb2, cb3⟩, hb3, hb4⟩ := hb
  have q1 : (x4 + t10_0 : Int32).toInt = x4.toInt + t10_0.toInt := q_addI rfl rfl (by omega) (by omega)
  have q2 : (x4 + t10_0 - t7_0 : Int32).toInt = x4.toInt + t10_0.toInt - t7_0.toInt := q_subI q1 rfl (by omega) (by omega)
  unfold S_DW_divideToScale_o F_DW_divideToScale_o
  by_cases g : t8_0 = 0
  · rw [if_pos g, if_pos g]
    have h1 : bO 220 (F_Big_clear 220 t1_0 t1_1).1 (F_Big_clear 220 t1_0 t1_1).2 t2_0 0 := W_clear (by decide) (by decide)
    exact ⟨trivial, Or.inr ⟨rfl, h1.K (M := 0) (by show 0 < _; decide) (by decide)⟩, h1.I, i1, i2, hb1⟩
  rw [if_neg g, if_neg g]
  obtain ⟨a62, ea⟩ := q_nm (x4 + t10_0 - t7_0 : Int32)
  rw [ea] at q2 ⊢
  by_cases g2 : (t7_1 + a62 - t10_1 : Int32) ≤ 1000
  · rw [if_pos g2, if_pos g2]
    have g3 := q_leI g2
    have q5 : (t7_1 + a62 : Int32).toInt = (ca : Int) + a62.toInt := q_addI ca1 rfl (by omega) (by omega)
    rw [q_subI q5 cb1 (by omega) (by omega)] at g3
    have q6 : (a62 + 1 : Int32).toInt = a62.toInt + 1 := q_addI rfl v_e1 (by omega) (by omega)
    have d := T_divideRaised_o (x4 := a62 + 1) (t0_0 := x4.toInt64) (t0_1 := t0_1) (t1_0 := t1_0) (t1_1 := t1_1) (t2_0 := t2_0) (t3_0 := t3_0) (t3_1 := t3_1) (t4_0 := t4_0) (t5_0 := t5_0) (t5_1 := t5_1) (t6_0 := t6_0) (t7_0 := t7_0) (t7_1 := t7_1) (t10_0 := t10_0) (t10_1 := t10_1) (M := 215) ha1 hb1 hv (v_rf ca2.2.1 ca3 (by omega)) (by decide)
    refine v_owe d.1 ?_
    replace d := d.2
    generalize F_DW_divideRaised_o R R2 (a62 + 1) x4.toInt64 t0_1 t1_0 t1_1 t2_0 t3_0 t3_1 t4_0 t5_0 t5_1 t6_0 t7_0 t7_1 t8_0 t8_1 t9_0 t10_0 t10_1 t11_0 t11_1 t12_0 = p123 at d ⊢
    obtain ⟨_, ⟨w, w1, w2, w3⟩, d2, d3, d4⟩ := d
    unfold S_DW_divideToScale_o_c68 F_DW_divideToScale_o_c68
    split
    · have r := T_roundLast (x2 := 0) (x3 := x5) (t0_0 := p123.1) (t0_1 := p123.2.1) w3 w1 w2 (by decide) d3
      exact ⟨trivial, Dq.mk r.1 r.2.1, r.2.1.I, d2, r.2.2, d4⟩
    · have r := T_roundLast (x2 := 1) (x3 := x5) (t0_0 := p123.1) (t0_1 := p123.2.1) w3 w1 w2 (by decide) d3
      exact ⟨trivial, Dq.mk r.1 r.2.1, r.2.1.I, d2, r.2.2, d4⟩
  · rw [if_neg g2, if_neg g2]
    exact ⟨trivial, Or.inl rfl, i0, i1, i2, hb1⟩
theorem T_dpJ_o {R : Int32} {R2 : Int32} {x4 : Int32} {x5 : Int32} {t0_0 : Int64} {t0_1 : Int32} {t1_0 : Int32} {t1_1 : Int32} {t2_0 : (Nat → Int32)} {t3_0 : Int32} {t3_1 : Int32} {t4_0 : (Nat → Int32)} {t5_0 : Int32} {t5_1 : Int32} {t6_0 : (Nat → Int32)} {t7_0 : Int32} {t7_1 : Int32} {t8_0 : (Nat → Int32)} {t9_0 : Int32} {t9_1 : Int32} {t10_0 : Int32} {t10_1 : Int32} {t11_0 : (Nat → Int32)} {t12_0 : Int32} {t12_1 : Int32} {t13_0 : Int32} {t13_1 : Int32} {t14_0 : (Nat → Int32)} {j69 : Int64} {lx74 : Int32} {a102 : Int32} {p153 : (Int64 × Int32 × Int32 × Int32 × (Nat → Int32) × Int32 × Int32 × (Nat → Int32) × Int32 × Int32 × (Nat → Int32) × Int32 × Int32 × (Nat → Int32))} {j180 : Int64} {y109 : Int32} {y111 : Int32} {y112 : Int32} {f113 : (Nat → Int32)} {y116 : Int32} {y117 : Int32} {f118 : (Nat → Int32)} {y121 : Int32} {y122 : Int32} {f123 : (Nat → Int32)} {y126 : Int32} {y127 : Int32} {f128 : (Nat → Int32)} {p200 : (Int32 × Int32 × Int32 × (Nat → Int32))} {y190 : Int32} {y191 : Int32} {f192 : (Nat → Int32)} {lx213 : Int64} {lx214 : Int32} {lx215 : Int32} {lx216 : Int32} {lx217 : (Nat → Int32)} {v vb : Int} {M : Nat} (h : bO 220 lx215 lx216 lx217 v) (hv : 0 ≤ v) (hM : bB M v) (hM2 : M + 1 ≤ 218) (i1 : bI 220 y116 y117 f118) (i2 : bI 220 y190 y191 f192) (hb : bO R2 y126 y127 f128 vb) : (S_DW_divideToPrecision_o_J141 R R2 x4 x5 t0_0 t0_1 t1_0 t1_1 t2_0 t3_0 t3_1 t4_0 t5_0 t5_1 t6_0 t7_0 t7_1 t8_0 t9_0 t9_1 t10_0 t10_1 t11_0 t12_0 t12_1 t13_0 t13_1 t14_0 j69 lx74 a102 p153 j180 y109 y111 y112 f113 y116 y117 f118 y121 y122 f123 y126 y127 f128 p200 y190 y191 f192 lx213 lx214 lx215 lx216 lx217) ∧ Dq (F_DW_divideToPrecision_o_J141 R R2 x4 x5 t0_0 t0_1 t1_0 t1_1 t2_0 t3_0 t3_1 t4_0 t5_0 t5_1 t6_0 t7_0 t7_1 t8_0 t9_0 t9_1 t10_0 t10_1 t11_0 t12_0 t12_1 t13_0 t13_1 t14_0 j69 lx74 a102 p153 j180 y109 y111 y112 f113 y116 y117 f118 y121 y122 f123 y126 y127 f128 p200 y190 y191 f192 lx213 lx214 lx215 lx216 lx217).1 (F_DW_divideToPrecision_o_J141 R R2 x4 x5 t0_0 t0_1 t1_0 t1_1 t2_0 t3_0 t3_1 t4_0 t5_0 t5_1 t6_0 t7_0 t7_1 t8_0 t9_0 t9_1 t10_0 t10_1 t11_0 t12_0 t12_1 t13_0 t13_1 t14_0 j69 lx74 a102 p153 j180 y109 y111 y112 f113 y116 y117 f118 y121 y122 f123 y126 y127 f128 p200 y190 y191 f192 lx213 lx214 lx215 lx216 lx217).2.2.2.1 (F_DW_divideToPrecision_o_J141 R R2 x4 x5 t0_0 t0_1 t1_0 t1_1 t2_0 t3_0 t3_1 t4_0 t5_0 t5_1 t6_0 t7_0 t7_1 t8_0 t9_0 t9_1 t10_0 t10_1 t11_0 t12_0 t12_1 t13_0 t13_1 t14_0 j69 lx74 a102 p153 j180 y109 y111 y112 f113 y116 y117 f118 y121 y122 f123 y126 y127 f128 p200 y190 y191 f192 lx213 lx214 lx215 lx216 lx217).2.2.2.2.1 (F_DW_divideToPrecision_o_J141 R R2 x4 x5 t0_0 t0_1 t1_0 t1_1 t2_0 t3_0 t3_1 t4_0 t5_0 t5_1 t6_0 t7_0 t7_1 t8_0 t9_0 t9_1 t10_0 t10_1 t11_0 t12_0 t12_1 t13_0 t13_1 t14_0 j69 lx74 a102 p153 j180 y109 y111 y112 f113 y116 y117 f118 y121 y122 f123 y126 y127 f128 p200 y190 y191 f192 lx213 lx214 lx215 lx216 lx217).2.2.2.2.2.1 ∧ G5 (bI 220) (bI 220) (bI 220) (bI 220) (bW R2 vb) (F_DW_divideToPrecision_o_J141 R R2 x4 x5 t0_0 t0_1 t1_0 t1_1 t2_0 t3_0 t3_1 t4_0 t5_0 t5_1 t6_0 t7_0 t7_1 t8_0 t9_0 t9_1 t10_0 t10_1 t11_0 t12_0 t12_1 t13_0 t13_1 t14_0 j69 lx74 a102 p153 j180 y109 y111 y112 f113 y116 y117 f118 y121 y122 f123 y126 y127 f128 p200 y190 y191 f192 lx213 lx214 lx215 lx216 lx217).2.2.2 := by
  have J : ∀ lx246 : Int32, S_DW_divideToPrecision_o_J163 R R2 x4 x5 t0_0 t0_1 t1_0 t1_1 t2_0 t3_0 t3_1 t4_0 t5_0 t5_1 t6_0 t7_0 t7_1 t8_0 t9_0 t9_1 t10_0 t10_1 t11_0 t12_0 t12_1 t13_0 t13_1 t14_0 j69 lx74 a102 p153 j180 y109 y111 y112 f113 y116 y117 f118 y121 y122 f123 y126 y127 f128 p200 y190 y191 f192 lx213 lx214 lx215 lx216 lx217 lx246 ∧ (fun p : Int32 × Int64 × Int32 × Int32 × Int32 × (Nat → Int32) × Int32 × Int32 × (Nat → Int32) × Int32 × Int32 × (Nat → Int32) × Int32 × Int32 × (Nat → Int32) × Int32 × Int32 × (Nat → Int32) => Dq p.1 p.2.2.2.1 p.2.2.2.2.1 p.2.2.2.2.2.1 ∧ G5 (bI 220) (bI 220) (bI 220) (bI 220) (bW R2 vb) p.2.2.2) (F_DW_divideToPrecision_o_J163 R R2 x4 x5 t0_0 t0_1 t1_0 t1_1 t2_0 t3_0 t3_1 t4_0 t5_0 t5_1 t6_0 t7_0 t7_1 t8_0 t9_0 t9_1 t10_0 t10_1 t11_0 t12_0 t12_1 t13_0 t13_1 t14_0 j69 lx74 a102 p153 j180 y109 y111 y112 f113 y116 y117 f118 y121 y122 f123 y126 y127 f128 p200 y190 y191 f192 lx213 lx214 lx215 lx216 lx217 lx246) := by
    intro lx246
    unfold S_DW_divideToPrecision_o_J163 F_DW_divideToPrecision_o_J163
    by_cases g : x4 = 0
    · rw [if_pos g, if_pos g]
      have r := T_shorten (x2 := lx246) (x3 := lx74) (x4 := j69) (x5 := 7) (t0_0 := lx213) (t0_1 := lx214) (t3_0 := y121) (t3_1 := y122) (t4_0 := f123) h hv hM hM2 i2
      exact ⟨trivial, Dq.mk r.1 r.2.1, r.2.1.I, i1, r.2.2.1, r.2.2.2, hb⟩
    · rw [if_neg g, if_neg g]
      have r := T_shorten (x2 := lx246) (x3 := lx74) (x4 := j69) (x5 := x5) (t0_0 := lx213) (t0_1 := lx214) (t3_0 := y121) (t3_1 := y122) (t4_0 := f123) h hv hM hM2 i2
      exact ⟨trivial, Dq.mk r.1 r.2.1, r.2.1.I, i1, r.2.2.1, r.2.2.2, hb⟩
  unfold S_DW_divideToPrecision_o_J141 F_DW_divideToPrecision_o_J141
  by_cases g : t10_1 = y127
  · rw [if_pos g, if_pos g]
    exact J 0
  · rw [if_neg g, if_neg g]
    exact J 1
theorem T_divideToPrecision_oJ {R : Int32} {R2 : Int32} {x4 : Int32} {x5 : Int32} {t0_0 : Int64} {t0_1 : Int32} {t1_0 : Int32} {t1_1 : Int32} {t2_0 : (Nat → Int32)} {t3_0 : Int32} {t3_1 : Int32} {t4_0 : (Nat → Int32)} {t5_0 : Int32} {t5_1 : Int32} {t6_0 : (Nat → Int32)} {t7_0 : Int32} {t7_1 : Int32} {t8_0 : (Nat → Int32)} {t9_0 : Int32} {t9_1 : Int32} {t10_0 : Int32} {t10_1 : Int32} {t11_0 : (Nat → Int32)} {t12_0 : Int32} {t12_1 : Int32} {t13_0 : Int32} {t13_1 : Int32} {t14_0 : (Nat → Int32)} {j69 : Int64} {lx74 : Int32} {va vb : Int} (ha : dO R t10_0 t10_1 t11_0 t9_0 t9_1 va) (hb : dO R2 t13_0 t13_1 t14_0 t12_0 t12_1 vb) (hv : vb ≠ 0) (hx : 0 ≤ lx74.toInt) (hx2 : lx74.toInt ≤ 1000) (i2 : bI 220 t7_0 t7_1 t8_0) : (S_DW_divideToPrecision_o_J52 R R2 x4 x5 t0_0 t0_1 t1_0 t1_1 t2_0 t3_0 t3_1 t4_0 t5_0 t5_1 t6_0 t7_0 t7_1 t8_0 t9_0 t9_1 t10_0 t10_1 t11_0 t12_0 t12_1 t13_0 t13_1 t14_0 j69 lx74) ∧ Dq (F_DW_divideToPrecision_o_J52 R R2 x4 x5 t0_0 t0_1 t1_0 t1_1 t2_0 t3_0 t3_1 t4_0 t5_0 t5_1 t6_0 t7_0 t7_1 t8_0 t9_0 t9_1 t10_0 t10_1 t11_0 t12_0 t12_1 t13_0 t13_1 t14_0 j69 lx74).1 (F_DW_divideToPrecision_o_J52 R R2 x4 x5 t0_0 t0_1 t1_0 t1_1 t2_0 t3_0 t3_1 t4_0 t5_0 t5_1 t6_0 t7_0 t7_1 t8_0 t9_0 t9_1 t10_0 t10_1 t11_0 t12_0 t12_1 t13_0 t13_1 t14_0 j69 lx74).2.2.2.1 (F_DW_divideToPrecision_o_J52 R R2 x4 x5 t0_0 t0_1 t1_0 t1_1 t2_0 t3_0 t3_1 t4_0 t5_0 t5_1 t6_0 t7_0 t7_1 t8_0 t9_0 t9_1 t10_0 t10_1 t11_0 t12_0 t12_1 t13_0 t13_1 t14_0 j69 lx74).2.2.2.2.1 (F_DW_divideToPrecision_o_J52 R R2 x4 x5 t0_0 t0_1 t1_0 t1_1 t2_0 t3_0 t3_1 t4_0 t5_0 t5_1 t6_0 t7_0 t7_1 t8_0 t9_0 t9_1 t10_0 t10_1 t11_0 t12_0 t12_1 t13_0 t13_1 t14_0 j69 lx74).2.2.2.2.2.1 ∧ G5 (bI 220) (bI 220) (bI 220) (bI 220) (bW R2 vb) (F_DW_divideToPrecision_o_J52 R R2 x4 x5 t0_0 t0_1 t1_0 t1_1 t2_0 t3_0 t3_1 t4_0 t5_0 t5_1 t6_0 t7_0 t7_1 t8_0 t9_0 t9_1 t10_0 t10_1 t11_0 t12_0 t12_1 t13_0 t13_1 t14_0 j69 lx74).2.2.2 := by
  have e := e220
  obtain ⟨ha1, ⟨ca, ca1, ca2, ca3⟩, ha3, ha4⟩ := ha
  obtain ⟨hb1, ⟨cb, cb1, cb2, cb3⟩, hb3, hb4⟩ := hb
  have q1 : (lx74 + 1 : Int32).toInt = lx74.toInt + 1 := q_addI rfl v_e1 (by omega) (by omega)
  have q2 : (lx74 + 1 - t9_1 : Int32).toInt = lx74.toInt + 1 - (ca : Int) := q_subI q1 ca1 (by omega) (by omega)
  have q3 : (lx74 + 1 - t9_1 + t12_1 : Int32).toInt = lx74.toInt + 1 - (ca : Int) + (cb : Int) := q_addI q2 cb1 (by omega) (by omega)
  unfold S_DW_divideToPrecision_o_J52 F_DW_divideToPrecision_o_J52
  have d : S_DW_divideRaised_o R R2 (((lx74 + 1 : Int32) - t9_1 : Int32) + t12_1 : Int32) t0_0 t0_1 t1_0 t1_1 t2_0 t3_0 t3_1 t4_0 t5_0 t5_1 t6_0 t9_0 t9_1 t10_0 t10_1 t11_0 t12_0 t12_1 t13_0 t13_1 t14_0 ∧ (fun p => (p.2.1 = 0 ∨ p.2.1 = 1) ∧ G4 (bP 220 215) (bI 220) (bI 220) (bW R2 vb) p.2.2) (F_DW_divideRaised_o R R2 (((lx74 + 1 : Int32) - t9_1 : Int32) + t12_1 : Int32) t0_0 t0_1 t1_0 t1_1 t2_0 t3_0 t3_1 t4_0 t5_0 t5_1 t6_0 t9_0 t9_1 t10_0 t10_1 t11_0 t12_0 t12_1 t13_0 t13_1 t14_0) := T_divideRaised_o (M := 215) ha1 hb1 hv (v_rf ca2.2.1 ca3 (by rw [q3]; omega)) (by decide)
  refine v_owe d.1 ?_
  replace d := d.2
  generalize (F_DW_divideRaised_o R R2 (((lx74 + 1 : Int32) - t9_1 : Int32) + t12_1 : Int32) t0_0 t0_1 t1_0 t1_1 t2_0 t3_0 t3_1 t4_0 t5_0 t5_1 t6_0 t9_0 t9_1 t10_0 t10_1 t11_0 t12_0 t12_1 t13_0 t13_1 t14_0) = p153 at d ⊢
  unfold S_DW_divideToPrecision_o_c75 F_DW_divideToPrecision_o_c75
  obtain ⟨_, ⟨w, w1, w2, w3⟩, d2, d3, d4⟩ := d
  have h101 : (fun p => (∃ d : Nat, p.1.toInt = (d : Int) ∧ vF w d) ∧ G1 (bI 220) p.2) (F_Mil_countFigures (220 : Int32) t7_0 t7_1 t8_0 (p153.2.2.1 : Int32) (p153.2.2.2.1 : Int32) (p153.2.2.2.2.1 : (Nat → Int32))) := T_countFigures w3 w2 (by decide) i2
  generalize (F_Mil_countFigures (220 : Int32) t7_0 t7_1 t8_0 (p153.2.2.1 : Int32) (p153.2.2.2.1 : Int32) (p153.2.2.2.2.1 : (Nat → Int32))) = p200 at h101 ⊢
  unfold S_DW_divideToPrecision_o_c101 F_DW_divideToPrecision_o_c101
  by_cases g : p200.1 ≤ lx74 + 1
  · rw [if_pos g, if_pos g]
    exact T_dpJ_o w3 w1 w2 (by decide) d2 h101.2 d4
  · rw [if_neg g, if_neg g]
    obtain ⟨u, u1, u2, u3, u4⟩ := W_drop (x2 := 1) w3
    have h124 : (Gr1 (fun r => r = 0 ∨ r = 1) (bW 220 u)) (F_Big_dropFigures (220 : Int32) (1 : Int32) (p153.2.2.1 : Int32) (p153.2.2.2.1 : Int32) (p153.2.2.2.2.1 : (Nat → Int32))) := u4
    generalize (F_Big_dropFigures (220 : Int32) (1 : Int32) (p153.2.2.1 : Int32) (p153.2.2.2.1 : Int32) (p153.2.2.2.2.1 : (Nat → Int32))) = p414 at h124 ⊢
    unfold S_DW_divideToPrecision_o_c124 F_DW_divideToPrecision_o_c124
    exact T_dpJ_o h124.2 (u2 w1) (w2.le (by rw [u1]; exact Nat.div_le_self _ _)) (by decide) d2 h101.2 d4
theorem T_divideToPrecision_o {R : Int32} {R2 : Int32} {x4 : Int32} {x5 : Int32} {t0_0 : Int64} {t0_1 : Int32} {t1_0 : Int32} {t1_1 : Int32} {t2_0 : (Nat → Int32)} {t3_0 : Int32} {t3_1 : Int32} {t4_0 : (Nat → Int32)} {t5_0 : Int32} {t5_1 : Int32} {t6_0 : (Nat → Int32)} {t7_0 : Int32} {t7_1 : Int32} {t8_0 : (Nat → Int32)} {t9_0 : Int32} {t9_1 : Int32} {t10_0 : Int32} {t10_1 : Int32} {t11_0 : (Nat → Int32)} {t12_0 : Int32} {t12_1 : Int32} {t13_0 : Int32} {t13_1 : Int32} {t14_0 : (Nat → Int32)} {va vb : Int} (ha : dO R t10_0 t10_1 t11_0 t9_0 t9_1 va) (hb : dO R2 t13_0 t13_1 t14_0 t12_0 t12_1 vb) (hv : vb ≠ 0) (hx : 0 ≤ x4.toInt) (hx2 : x4.toInt ≤ 1000) (i0 : bI 220 t3_0 t3_1 t4_0) (i1 : bI 220 t5_0 t5_1 t6_0) (i2 : bI 220 t7_0 t7_1 t8_0) : (S_DW_divideToPrecision_o R R2 x4 x5 t0_0 t0_1 t1_0 t1_1 t2_0 t3_0 t3_1 t4_0 t5_0 t5_1 t6_0 t7_0 t7_1 t8_0 t9_0 t9_1 t10_0 t10_1 t11_0 t12_0 t12_1 t13_0 t13_1 t14_0) ∧ Dq (F_DW_divideToPrecision_o R R2 x4 x5 t0_0 t0_1 t1_0 t1_1 t2_0 t3_0 t3_1 t4_0 t5_0 t5_1 t6_0 t7_0 t7_1 t8_0 t9_0 t9_1 t10_0 t10_1 t11_0 t12_0 t12_1 t13_0 t13_1 t14_0).1 (F_DW_divideToPrecision_o R R2 x4 x5 t0_0 t0_1 t1_0 t1_1 t2_0 t3_0 t3_1 t4_0 t5_0 t5_1 t6_0 t7_0 t7_1 t8_0 t9_0 t9_1 t10_0 t10_1 t11_0 t12_0 t12_1 t13_0 t13_1 t14_0).2.2.2.1 (F_DW_divideToPrecision_o R R2 x4 x5 t0_0 t0_1 t1_0 t1_1 t2_0 t3_0 t3_1 t4_0 t5_0 t5_1 t6_0 t7_0 t7_1 t8_0 t9_0 t9_1 t10_0 t10_1 t11_0 t12_0 t12_1 t13_0 t13_1 t14_0).2.2.2.2.1 (F_DW_divideToPrecision_o R R2 x4 x5 t0_0 t0_1 t1_0 t1_1 t2_0 t3_0 t3_1 t4_0 t5_0 t5_1 t6_0 t7_0 t7_1 t8_0 t9_0 t9_1 t10_0 t10_1 t11_0 t12_0 t12_1 t13_0 t13_1 t14_0).2.2.2.2.2.1 ∧ G5 (bI 220) (bI 220) (bI 220) (bI 220) (bW R2 vb) (F_DW_divideToPrecision_o R R2 x4 x5 t0_0 t0_1 t1_0 t1_1 t2_0 t3_0 t3_1 t4_0 t5_0 t5_1 t6_0 t7_0 t7_1 t8_0 t9_0 t9_1 t10_0 t10_1 t11_0 t12_0 t12_1 t13_0 t13_1 t14_0).2.2.2 := by
  unfold S_DW_divideToPrecision_o F_DW_divideToPrecision_o
  by_cases g : t10_0 = 0
  · rw [if_pos g, if_pos g]
    have h1 : bO 220 (F_Big_clear 220 t1_0 t1_1).1 (F_Big_clear 220 t1_0 t1_1).2 t2_0 0 := W_clear (by decide) (by decide)
    exact ⟨trivial, Or.inr ⟨rfl, h1.K (M := 0) (by show 0 < _; decide) (by decide)⟩, h1.I, i0, i1, i2, hb.1⟩
  · rw [if_neg g, if_neg g]
    by_cases g2 : x4 = 0
    · rw [if_pos g2, if_pos g2]
      exact T_divideToPrecision_oJ ha hb hv (by decide) (by decide) i2
    · rw [if_neg g2, if_neg g2]
      exact T_divideToPrecision_oJ ha hb hv hx hx2 i2

