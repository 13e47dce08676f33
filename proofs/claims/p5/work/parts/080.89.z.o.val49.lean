/-! what the calls keep: divide, quotient -/
theorem v_cons {A B C : Prop} (h : A) (k : B ∧ C) : (A ∧ B) ∧ C := ⟨⟨h, k.1⟩, k.2⟩
theorem v_oweS {A B : Prop} (h : A) (k : B) : (True ∧ A) ∧ B := ⟨⟨trivial, h⟩, k⟩
theorem v_isScale {x : Int32} (h : ¬ F_NH_isScale x = 0) : -10000 ≤ x.toInt ∧ x.toInt ≤ 10000 := by
  have e0 : (-10000 : Int32).toInt = -10000 := rfl
  have e10 : (10000 : Int32).toInt = 10000 := rfl
  unfold F_NH_isScale at h
  by_cases h1 : x < -10000
  · rw [if_pos h1] at h
    exact absurd rfl h
  · rw [if_neg h1] at h
    by_cases h2 : 10000 < x
    · rw [if_pos h2] at h
      exact absurd rfl h
    · have a := q_nltI h1
      have b := q_nltI h2
      omega
def Q_divide (sc fc : Int32) (vb : Int) (p : Int32 × Int64 × Int32 × Int32 × Int32 × (Nat → Int32) × Int32 × Int32 × (Nat → Int32) × Int32 × Int32 × (Nat → Int32) × Int32 × Int32 × (Nat → Int32) × Int32 × Int32 × (Nat → Int32) × Int32 × Int32 × Int32 × Int32 × (Nat → Int32)) : Prop := rD p.2.2.2.2.2.2.2.2.2.2.2.2.2.2.2.2.2.2.2.2.1 p.2.2.2.2.2.2.2.2.2.2.2.2.2.2.2.2.2.2.2.2.2.1 p.2.2.2.2.2.2.2.2.2.2.2.2.2.2.2.2.2.2.2.2.2.2 p.2.2.2.2.2.2.2.2.2.2.2.2.2.2.2.2.2.2.1 p.2.2.2.2.2.2.2.2.2.2.2.2.2.2.2.2.2.2.2.1 ∧ dO 108 p.2.2.2.2.2.2.2.2.2.2.2.2.2.2.2.1 p.2.2.2.2.2.2.2.2.2.2.2.2.2.2.2.2.1 p.2.2.2.2.2.2.2.2.2.2.2.2.2.2.2.2.2.1 sc fc vb
theorem T_divide {x2 : Int32} {x3 : Int32} {x4 : Int32} {x5 : Int32} {x6 : Int32} {t0_0 : Int64} {t0_1 : Int32} {t1_0 : Int32} {t1_1 : Int32} {t2_0 : (Nat → Int32)} {t3_0 : Int32} {t3_1 : Int32} {t4_0 : (Nat → Int32)} {t5_0 : Int32} {t5_1 : Int32} {t6_0 : (Nat → Int32)} {t7_0 : Int32} {t7_1 : Int32} {t8_0 : (Nat → Int32)} {t9_0 : Int32} {t9_1 : Int32} {t10_0 : Int32} {t10_1 : Int32} {t11_0 : (Nat → Int32)} {t12_0 : Int32} {t12_1 : Int32} {t13_0 : Int32} {t13_1 : Int32} {t14_0 : (Nat → Int32)} {t15_0 : Int32} {t15_1 : Int32} {t16_0 : Int32} {t16_1 : Int32} {t17_0 : (Nat → Int32)} {va vb : Int} (ha : dO 108 t10_0 t10_1 t11_0 t9_0 t9_1 va) (hb : dO 108 t13_0 t13_1 t14_0 t12_0 t12_1 vb) (hd : rD t16_0 t16_1 t17_0 t15_0 t15_1) : (S_NH_divide x2 x3 x4 x5 x6 t0_0 t0_1 t1_0 t1_1 t2_0 t3_0 t3_1 t4_0 t5_0 t5_1 t6_0 t7_0 t7_1 t8_0 t9_0 t9_1 t10_0 t10_1 t11_0 t12_0 t12_1 t13_0 t13_1 t14_0 t15_0 t15_1 t16_0 t16_1 t17_0) ∧ Q_divide t12_0 t12_1 vb (F_NH_divide x2 x3 x4 x5 x6 t0_0 t0_1 t1_0 t1_1 t2_0 t3_0 t3_1 t4_0 t5_0 t5_1 t6_0 t7_0 t7_1 t8_0 t9_0 t9_1 t10_0 t10_1 t11_0 t12_0 t12_1 t13_0 t13_1 t14_0 t15_0 t15_1 t16_0 t16_1 t17_0) := by
  have e0 : (0 : Int32).toInt = 0 := rfl
  unfold S_NH_divide F_NH_divide
  by_cases g1 : ((F_NH_isRegister x2) : Int32) = (0 : Int32)
  ·
    rw [if_pos g1, if_pos g1]
    unfold S_NH_divide_J41 F_NH_divide_J41
    unfold S_NH_divide_J42 F_NH_divide_J42
    have g2 : ¬ ((F_NH_need (0 : Int32)) = (0 : Int32)) := (by decide)
    rw [if_neg g2, if_neg g2]
    refine ⟨trivial, ?_⟩
    first | exact ⟨hd, hb⟩ | exact ⟨hd, hb2⟩ | exact ⟨hkd, hb2⟩
  ·
    rw [if_neg g1, if_neg g1]
    have g1r := v_isReg g1
    by_cases g3 : ((F_NH_isRegister x3) : Int32) = (0 : Int32)
    ·
      rw [if_pos g3, if_pos g3]
      unfold S_NH_divide_J41 F_NH_divide_J41
      unfold S_NH_divide_J42 F_NH_divide_J42
      have g4 : ¬ ((F_NH_need (0 : Int32)) = (0 : Int32)) := (by decide)
      rw [if_neg g4, if_neg g4]
      refine ⟨trivial, ?_⟩
      first | exact ⟨hd, hb⟩ | exact ⟨hd, hb2⟩ | exact ⟨hkd, hb2⟩
    ·
      rw [if_neg g3, if_neg g3]
      have g3r := v_isReg g3
      by_cases g5 : ((F_NH_isRegister x4) : Int32) = (0 : Int32)
      ·
        rw [if_pos g5, if_pos g5]
        unfold S_NH_divide_J41 F_NH_divide_J41
        unfold S_NH_divide_J42 F_NH_divide_J42
        have g6 : ¬ ((F_NH_need (0 : Int32)) = (0 : Int32)) := (by decide)
        rw [if_neg g6, if_neg g6]
        refine ⟨trivial, ?_⟩
        first | exact ⟨hd, hb⟩ | exact ⟨hd, hb2⟩ | exact ⟨hkd, hb2⟩
      ·
        rw [if_neg g5, if_neg g5]
        have g5r := v_isReg g5
        by_cases g7 : ((F_NH_isMode x6) : Int32) = (0 : Int32)
        ·
          rw [if_pos g7, if_pos g7]
          unfold S_NH_divide_J41 F_NH_divide_J41
          unfold S_NH_divide_J42 F_NH_divide_J42
          have g8 : ¬ ((F_NH_need (0 : Int32)) = (0 : Int32)) := (by decide)
          rw [if_neg g8, if_neg g8]
          refine ⟨trivial, ?_⟩
          first | exact ⟨hd, hb⟩ | exact ⟨hd, hb2⟩ | exact ⟨hkd, hb2⟩
        ·
          rw [if_neg g7, if_neg g7]
          by_cases g9 : ((F_NH_isScale x5) : Int32) = (0 : Int32)
          ·
            rw [if_pos g9, if_pos g9]
            unfold S_NH_divide_J41 F_NH_divide_J41
            unfold S_NH_divide_J42 F_NH_divide_J42
            have g10 : ¬ ((F_NH_need (0 : Int32)) = (0 : Int32)) := (by decide)
            rw [if_neg g10, if_neg g10]
            refine ⟨trivial, ?_⟩
            first | exact ⟨hd, hb⟩ | exact ⟨hd, hb2⟩ | exact ⟨hkd, hb2⟩
          ·
            rw [if_neg g9, if_neg g9]
            have g9r := v_isScale g9
            unfold S_NH_divide_J42 F_NH_divide_J42
            have g11 : ((F_NH_need (1 : Int32)) = (0 : Int32)) := (by decide)
            rw [if_pos g11, if_pos g11]
            refine v_cons (by omega) ?_
            refine v_cons (by omega) ?_
            by_cases g12 : t13_0 ≤ (0 : Int32)
            ·
              rw [if_pos g12, if_pos g12]
              have g12i : t13_0.toInt ≤ 0 := q_leI g12
              unfold S_NH_divide_J65 F_NH_divide_J65
              have g13 : ¬ ((F_NH_canHave (0 : Int32)) = (0 : Int32)) := (by decide)
              rw [if_neg g13, if_neg g13]
              refine ⟨trivial, ?_⟩
              first | exact ⟨hd, hb⟩ | exact ⟨hd, hb2⟩ | exact ⟨hkd, hb2⟩
            ·
              rw [if_neg g12, if_neg g12]
              have g12i : 0 < t13_0.toInt := q_nleI g12
              unfold S_NH_divide_J65 F_NH_divide_J65
              have g14 : ((F_NH_canHave (1 : Int32)) = (0 : Int32)) := (by decide)
              rw [if_pos g14, if_pos g14]
              refine v_cons (by omega) ?_
              refine v_cons (by omega) ?_
              have h15 := T_divideToScale (R := (108 : Int32)) (R2 := (108 : Int32)) (x4 := x5) (x5 := x6) (t0_0 := t0_0) (t0_1 := t0_1) (t1_0 := t1_0) (t1_1 := t1_1) (t2_0 := t2_0) (t3_0 := t3_0) (t3_1 := t3_1) (t4_0 := t4_0) (t5_0 := t5_0) (t5_1 := t5_1) (t6_0 := t6_0) (t7_0 := t9_0) (t7_1 := t9_1) (t8_0 := t10_0) (t8_1 := t10_1) (t9_0 := t11_0) (t10_0 := t12_0) (t10_1 := t12_1) (t11_0 := t13_0) (t11_1 := t13_1) (t12_0 := t14_0) ha hb (hb.1.pos.mp (by omega)) (by first | assumption | omega | trivial | decide) (by first | assumption | omega | trivial | decide) trivial trivial trivial
              refine v_owe h15.1 ?_
              replace h15 := h15.2
              generalize F_DW_divideToScale (108 : Int32) (108 : Int32) x5 x6 t0_0 t0_1 t1_0 t1_1 t2_0 t3_0 t3_1 t4_0 t5_0 t5_1 t6_0 t9_0 t9_1 t10_0 t10_1 t11_0 t12_0 t12_1 t13_0 t13_1 t14_0 = p226 at h15 ⊢
              unfold S_NH_divide_c88 F_NH_divide_c88
              rcases h15 with ⟨h150 | ⟨h151, h15k⟩, h15g⟩
              ·
                have hb2 : dO 108 p226.2.2.2.2.2.2.2.2.2.2.2.2.1 p226.2.2.2.2.2.2.2.2.2.2.2.2.2.1 p226.2.2.2.2.2.2.2.2.2.2.2.2.2.2 t12_0 t12_1 vb := ⟨h15g.2.2.2, hb.2⟩
                have g16 : ¬ ((F_NH_canHave (p226.1 : Int32)) = (0 : Int32)) := (by rw [h150]; decide)
                rw [if_neg g16, if_neg g16]
                refine ⟨trivial, ?_⟩
                first | exact ⟨hd, hb⟩ | exact ⟨hd, hb2⟩ | exact ⟨hkd, hb2⟩
              ·
                have hb2 : dO 108 p226.2.2.2.2.2.2.2.2.2.2.2.2.1 p226.2.2.2.2.2.2.2.2.2.2.2.2.2.1 p226.2.2.2.2.2.2.2.2.2.2.2.2.2.2 t12_0 t12_1 vb := ⟨h15g.2.2.2, hb.2⟩
                have g17 : ((F_NH_canHave (p226.1 : Int32)) = (0 : Int32)) := (by rw [h151]; decide)
                rw [if_pos g17, if_pos g17]
                have h18 := T_keepDecimal (x2 := x4) (t0_0 := (p226.2.1 : Int64)) (t0_1 := (p226.2.2.1 : Int32)) (t1_0 := (p226.2.2.2.1 : Int32)) (t1_1 := (p226.2.2.2.2.1 : Int32)) (t2_0 := (p226.2.2.2.2.2.1 : (Nat → Int32))) (t3_0 := t7_0) (t3_1 := t7_1) (t4_0 := t8_0) (t5_0 := t15_0) (t5_1 := t15_1) (t6_0 := t16_0) (t6_1 := t16_1) (t7_0 := t17_0) (by first | assumption | omega | trivial | decide) hd (by first | assumption | omega | trivial | decide) (by first | assumption | omega | trivial | decide)
                refine v_owe h18.1 ?_
                replace h18 := h18.2
                generalize F_NH_keepDecimal x4 (p226.2.1 : Int64) (p226.2.2.1 : Int32) (p226.2.2.2.1 : Int32) (p226.2.2.2.2.1 : Int32) (p226.2.2.2.2.2.1 : (Nat → Int32)) t7_0 t7_1 t8_0 t15_0 t15_1 t16_0 t16_1 t17_0 = p278 at h18 ⊢
                have hkd := h18
                unfold S_NH_divide_c96 F_NH_divide_c96
                by_cases g19 : p278.1 = (0 : Int32)
                ·
                  rw [if_pos g19, if_pos g19]
                  have g19i : p278.1.toInt = 0 := q_eqI g19
                  refine ⟨trivial, ?_⟩
                  first | exact ⟨hd, hb⟩ | exact ⟨hd, hb2⟩ | exact ⟨hkd, hb2⟩
                ·
                  rw [if_neg g19, if_neg g19]
                  have g19i : p278.1.toInt ≠ 0 := q_neI g19
                  refine ⟨trivial, ?_⟩
                  first | exact ⟨hd, hb⟩ | exact ⟨hd, hb2⟩ | exact ⟨hkd, hb2⟩
def Q_divide_ab (sc fc : Int32) (vb : Int) (p : Int32 × Int64 × Int32 × Int32 × Int32 × (Nat → Int32) × Int32 × Int32 × (Nat → Int32) × Int32 × Int32 × (Nat → Int32) × Int32 × Int32 × (Nat → Int32) × Int32 × Int32 × (Nat → Int32) × Int32 × Int32 × Int32 × Int32 × (Nat → Int32)) : Prop := rD p.2.2.2.2.2.2.2.2.2.2.2.2.2.2.2.2.2.2.2.2.1 p.2.2.2.2.2.2.2.2.2.2.2.2.2.2.2.2.2.2.2.2.2.1 p.2.2.2.2.2.2.2.2.2.2.2.2.2.2.2.2.2.2.2.2.2.2 p.2.2.2.2.2.2.2.2.2.2.2.2.2.2.2.2.2.2.1 p.2.2.2.2.2.2.2.2.2.2.2.2.2.2.2.2.2.2.2.1 ∧ dO 108 p.2.2.2.2.2.2.2.2.2.2.2.2.2.2.2.1 p.2.2.2.2.2.2.2.2.2.2.2.2.2.2.2.2.1 p.2.2.2.2.2.2.2.2.2.2.2.2.2.2.2.2.2.1 sc fc vb
theorem T_divide_ab {x2 : Int32} {x3 : Int32} {x4 : Int32} {x5 : Int32} {x6 : Int32} {t0_0 : Int64} {t0_1 : Int32} {t1_0 : Int32} {t1_1 : Int32} {t2_0 : (Nat → Int32)} {t3_0 : Int32} {t3_1 : Int32} {t4_0 : (Nat → Int32)} {t5_0 : Int32} {t5_1 : Int32} {t6_0 : (Nat → Int32)} {t7_0 : Int32} {t7_1 : Int32} {t8_0 : (Nat → Int32)} {t9_0 : Int32} {t9_1 : Int32} {t10_0 : Int32} {t10_1 : Int32} {t11_0 : (Nat → Int32)} {t12_0 : Int32} {t12_1 : Int32} {t13_0 : Int32} {t13_1 : Int32} {t14_0 : (Nat → Int32)} {vb : Int} (hb : dO 108 t10_0 t10_1 t11_0 t9_0 t9_1 vb) (hd : rD t13_0 t13_1 t14_0 t12_0 t12_1) : (S_NH_divide_ab x2 x3 x4 x5 x6 t0_0 t0_1 t1_0 t1_1 t2_0 t3_0 t3_1 t4_0 t5_0 t5_1 t6_0 t7_0 t7_1 t8_0 t9_0 t9_1 t10_0 t10_1 t11_0 t12_0 t12_1 t13_0 t13_1 t14_0) ∧ Q_divide_ab t9_0 t9_1 vb (F_NH_divide_ab x2 x3 x4 x5 x6 t0_0 t0_1 t1_0 t1_1 t2_0 t3_0 t3_1 t4_0 t5_0 t5_1 t6_0 t7_0 t7_1 t8_0 t9_0 t9_1 t10_0 t10_1 t11_0 t12_0 t12_1 t13_0 t13_1 t14_0) := by
  have e0 : (0 : Int32).toInt = 0 := rfl
  unfold S_NH_divide_ab F_NH_divide_ab
  by_cases g1 : ((F_NH_isRegister x2) : Int32) = (0 : Int32)
  ·
    rw [if_pos g1, if_pos g1]
    unfold S_NH_divide_ab_J41 F_NH_divide_ab_J41
    unfold S_NH_divide_ab_J42 F_NH_divide_ab_J42
    have g2 : ¬ ((F_NH_need (0 : Int32)) = (0 : Int32)) := (by decide)
    rw [if_neg g2, if_neg g2]
    refine ⟨trivial, ?_⟩
    first | exact ⟨hd, hb⟩ | exact ⟨hd, hb2⟩ | exact ⟨hkd, hb2⟩
  ·
    rw [if_neg g1, if_neg g1]
    have g1r := v_isReg g1
    by_cases g3 : ((F_NH_isRegister x3) : Int32) = (0 : Int32)
    ·
      rw [if_pos g3, if_pos g3]
      unfold S_NH_divide_ab_J41 F_NH_divide_ab_J41
      unfold S_NH_divide_ab_J42 F_NH_divide_ab_J42
      have g4 : ¬ ((F_NH_need (0 : Int32)) = (0 : Int32)) := (by decide)
      rw [if_neg g4, if_neg g4]
      refine ⟨trivial, ?_⟩
      first | exact ⟨hd, hb⟩ | exact ⟨hd, hb2⟩ | exact ⟨hkd, hb2⟩
    ·
      rw [if_neg g3, if_neg g3]
      have g3r := v_isReg g3
      by_cases g5 : ((F_NH_isRegister x4) : Int32) = (0 : Int32)
      ·
        rw [if_pos g5, if_pos g5]
        unfold S_NH_divide_ab_J41 F_NH_divide_ab_J41
        unfold S_NH_divide_ab_J42 F_NH_divide_ab_J42
        have g6 : ¬ ((F_NH_need (0 : Int32)) = (0 : Int32)) := (by decide)
        rw [if_neg g6, if_neg g6]
        refine ⟨trivial, ?_⟩
        first | exact ⟨hd, hb⟩ | exact ⟨hd, hb2⟩ | exact ⟨hkd, hb2⟩
      ·
        rw [if_neg g5, if_neg g5]
        have g5r := v_isReg g5
        by_cases g7 : ((F_NH_isMode x6) : Int32) = (0 : Int32)
        ·
          rw [if_pos g7, if_pos g7]
          unfold S_NH_divide_ab_J41 F_NH_divide_ab_J41
          unfold S_NH_divide_ab_J42 F_NH_divide_ab_J42
          have g8 : ¬ ((F_NH_need (0 : Int32)) = (0 : Int32)) := (by decide)
          rw [if_neg g8, if_neg g8]
          refine ⟨trivial, ?_⟩
          first | exact ⟨hd, hb⟩ | exact ⟨hd, hb2⟩ | exact ⟨hkd, hb2⟩
        ·
          rw [if_neg g7, if_neg g7]
          by_cases g9 : ((F_NH_isScale x5) : Int32) = (0 : Int32)
          ·
            rw [if_pos g9, if_pos g9]
            unfold S_NH_divide_ab_J41 F_NH_divide_ab_J41
            unfold S_NH_divide_ab_J42 F_NH_divide_ab_J42
            have g10 : ¬ ((F_NH_need (0 : Int32)) = (0 : Int32)) := (by decide)
            rw [if_neg g10, if_neg g10]
            refine ⟨trivial, ?_⟩
            first | exact ⟨hd, hb⟩ | exact ⟨hd, hb2⟩ | exact ⟨hkd, hb2⟩
          ·
            rw [if_neg g9, if_neg g9]
            have g9r := v_isScale g9
            unfold S_NH_divide_ab_J42 F_NH_divide_ab_J42
            have g11 : ((F_NH_need (1 : Int32)) = (0 : Int32)) := (by decide)
            rw [if_pos g11, if_pos g11]
            refine v_cons (by omega) ?_
            refine v_cons (by omega) ?_
            by_cases g12 : t10_0 ≤ (0 : Int32)
            ·
              rw [if_pos g12, if_pos g12]
              have g12i : t10_0.toInt ≤ 0 := q_leI g12
              unfold S_NH_divide_ab_J65 F_NH_divide_ab_J65
              have g13 : ¬ ((F_NH_canHave (0 : Int32)) = (0 : Int32)) := (by decide)
              rw [if_neg g13, if_neg g13]
              refine ⟨trivial, ?_⟩
              first | exact ⟨hd, hb⟩ | exact ⟨hd, hb2⟩ | exact ⟨hkd, hb2⟩
            ·
              rw [if_neg g12, if_neg g12]
              have g12i : 0 < t10_0.toInt := q_nleI g12
              unfold S_NH_divide_ab_J65 F_NH_divide_ab_J65
              have g14 : ((F_NH_canHave (1 : Int32)) = (0 : Int32)) := (by decide)
              rw [if_pos g14, if_pos g14]
              refine v_cons (by omega) ?_
              refine v_cons (by omega) ?_
              have h15 := T_divideToScale_a (R2 := (108 : Int32)) (x4 := x5) (x5 := x6) (t0_0 := t0_0) (t0_1 := t0_1) (t1_0 := t1_0) (t1_1 := t1_1) (t2_0 := t2_0) (t3_0 := t3_0) (t3_1 := t3_1) (t4_0 := t4_0) (t5_0 := t5_0) (t5_1 := t5_1) (t6_0 := t6_0) (t7_0 := t9_0) (t7_1 := t9_1) (t8_0 := t10_0) (t8_1 := t10_1) (t9_0 := t11_0) hb (by first | assumption | omega | trivial | decide) (by first | assumption | omega | trivial | decide) trivial trivial trivial
              refine v_owe h15.1 ?_
              replace h15 := h15.2
              generalize F_DW_divideToScale_a (108 : Int32) x5 x6 t0_0 t0_1 t1_0 t1_1 t2_0 t3_0 t3_1 t4_0 t5_0 t5_1 t6_0 t9_0 t9_1 t10_0 t10_1 t11_0 = p204 at h15 ⊢
              unfold S_NH_divide_ab_c88 F_NH_divide_ab_c88
              rcases h15 with ⟨h150 | ⟨h151, h15k⟩, h15g⟩
              ·
                have hb2 : dO 108 p204.2.2.2.2.2.2.2.2.2.2.2.2.1 p204.2.2.2.2.2.2.2.2.2.2.2.2.2.1 p204.2.2.2.2.2.2.2.2.2.2.2.2.2.2 t9_0 t9_1 vb := ⟨h15g.2.2.2, hb.2⟩
                have g16 : ¬ ((F_NH_canHave (p204.1 : Int32)) = (0 : Int32)) := (by rw [h150]; decide)
                rw [if_neg g16, if_neg g16]
                refine ⟨trivial, ?_⟩
                first | exact ⟨hd, hb⟩ | exact ⟨hd, hb2⟩ | exact ⟨hkd, hb2⟩
              ·
                have hb2 : dO 108 p204.2.2.2.2.2.2.2.2.2.2.2.2.1 p204.2.2.2.2.2.2.2.2.2.2.2.2.2.1 p204.2.2.2.2.2.2.2.2.2.2.2.2.2.2 t9_0 t9_1 vb := ⟨h15g.2.2.2, hb.2⟩
                have g17 : ((F_NH_canHave (p204.1 : Int32)) = (0 : Int32)) := (by rw [h151]; decide)
                rw [if_pos g17, if_pos g17]
                have h18 := T_keepDecimal (x2 := x4) (t0_0 := (p204.2.1 : Int64)) (t0_1 := (p204.2.2.1 : Int32)) (t1_0 := (p204.2.2.2.1 : Int32)) (t1_1 := (p204.2.2.2.2.1 : Int32)) (t2_0 := (p204.2.2.2.2.2.1 : (Nat → Int32))) (t3_0 := t7_0) (t3_1 := t7_1) (t4_0 := t8_0) (t5_0 := t12_0) (t5_1 := t12_1) (t6_0 := t13_0) (t6_1 := t13_1) (t7_0 := t14_0) (by first | assumption | omega | trivial | decide) hd (by first | assumption | omega | trivial | decide) (by first | assumption | omega | trivial | decide)
                refine v_owe h18.1 ?_
                replace h18 := h18.2
                generalize F_NH_keepDecimal x4 (p204.2.1 : Int64) (p204.2.2.1 : Int32) (p204.2.2.2.1 : Int32) (p204.2.2.2.2.1 : Int32) (p204.2.2.2.2.2.1 : (Nat → Int32)) t7_0 t7_1 t8_0 t12_0 t12_1 t13_0 t13_1 t14_0 = p256 at h18 ⊢
                have hkd := h18
                unfold S_NH_divide_ab_c96 F_NH_divide_ab_c96
                by_cases g19 : p256.1 = (0 : Int32)
                ·
                  rw [if_pos g19, if_pos g19]
                  have g19i : p256.1.toInt = 0 := q_eqI g19
                  refine ⟨trivial, ?_⟩
                  first | exact ⟨hd, hb⟩ | exact ⟨hd, hb2⟩ | exact ⟨hkd, hb2⟩
                ·
                  rw [if_neg g19, if_neg g19]
                  have g19i : p256.1.toInt ≠ 0 := q_neI g19
                  refine ⟨trivial, ?_⟩
                  first | exact ⟨hd, hb⟩ | exact ⟨hd, hb2⟩ | exact ⟨hkd, hb2⟩
def Q_divide_bt (p : Int32 × Int64 × Int32 × Int32 × Int32 × (Nat → Int32) × Int32 × Int32 × (Nat → Int32) × Int32 × Int32 × (Nat → Int32) × Int32 × Int32 × (Nat → Int32) × Int32 × Int32 × Int32 × Int32 × (Nat → Int32)) : Prop := rD p.2.2.2.2.2.2.2.2.2.2.2.2.2.2.2.2.2.1 p.2.2.2.2.2.2.2.2.2.2.2.2.2.2.2.2.2.2.1 p.2.2.2.2.2.2.2.2.2.2.2.2.2.2.2.2.2.2.2 p.2.2.2.2.2.2.2.2.2.2.2.2.2.2.2.1 p.2.2.2.2.2.2.2.2.2.2.2.2.2.2.2.2.1
theorem T_divide_bt {x2 : Int32} {x3 : Int32} {x4 : Int32} {x5 : Int32} {x6 : Int32} {t0_0 : Int64} {t0_1 : Int32} {t1_0 : Int32} {t1_1 : Int32} {t2_0 : (Nat → Int32)} {t3_0 : Int32} {t3_1 : Int32} {t4_0 : (Nat → Int32)} {t5_0 : Int32} {t5_1 : Int32} {t6_0 : (Nat → Int32)} {t7_0 : Int32} {t7_1 : Int32} {t8_0 : (Nat → Int32)} {t9_0 : Int32} {t9_1 : Int32} {t10_0 : Int32} {t10_1 : Int32} {t11_0 : (Nat → Int32)} {t12_0 : Int32} {t12_1 : Int32} {t13_0 : Int32} {t13_1 : Int32} {t14_0 : (Nat → Int32)} {va vb : Int} (ha : dO 108 t10_0 t10_1 t11_0 t9_0 t9_1 va) (hb : dO 108 t13_0 t13_1 t14_0 t12_0 t12_1 vb) : (S_NH_divide_bt x2 x3 x4 x5 x6 t0_0 t0_1 t1_0 t1_1 t2_0 t3_0 t3_1 t4_0 t5_0 t5_1 t6_0 t7_0 t7_1 t8_0 t9_0 t9_1 t10_0 t10_1 t11_0 t12_0 t12_1 t13_0 t13_1 t14_0) ∧ Q_divide_bt (F_NH_divide_bt x2 x3 x4 x5 x6 t0_0 t0_1 t1_0 t1_1 t2_0 t3_0 t3_1 t4_0 t5_0 t5_1 t6_0 t7_0 t7_1 t8_0 t9_0 t9_1 t10_0 t10_1 t11_0 t12_0 t12_1 t13_0 t13_1 t14_0) := by
  have e0 : (0 : Int32).toInt = 0 := rfl
  unfold S_NH_divide_bt F_NH_divide_bt
  by_cases g1 : ((F_NH_isRegister x2) : Int32) = (0 : Int32)
  ·
    rw [if_pos g1, if_pos g1]
    unfold S_NH_divide_bt_J41 F_NH_divide_bt_J41
    unfold S_NH_divide_bt_J42 F_NH_divide_bt_J42
    have g2 : ¬ ((F_NH_need (0 : Int32)) = (0 : Int32)) := (by decide)
    rw [if_neg g2, if_neg g2]
    refine ⟨trivial, ?_⟩
    first | exact ⟨vb, hb⟩ | exact hd2 | exact hkd
  ·
    rw [if_neg g1, if_neg g1]
    have g1r := v_isReg g1
    by_cases g3 : ((F_NH_isRegister x3) : Int32) = (0 : Int32)
    ·
      rw [if_pos g3, if_pos g3]
      unfold S_NH_divide_bt_J41 F_NH_divide_bt_J41
      unfold S_NH_divide_bt_J42 F_NH_divide_bt_J42
      have g4 : ¬ ((F_NH_need (0 : Int32)) = (0 : Int32)) := (by decide)
      rw [if_neg g4, if_neg g4]
      refine ⟨trivial, ?_⟩
      first | exact ⟨vb, hb⟩ | exact hd2 | exact hkd
    ·
      rw [if_neg g3, if_neg g3]
      have g3r := v_isReg g3
      by_cases g5 : ((F_NH_isRegister x4) : Int32) = (0 : Int32)
      ·
        rw [if_pos g5, if_pos g5]
        unfold S_NH_divide_bt_J41 F_NH_divide_bt_J41
        unfold S_NH_divide_bt_J42 F_NH_divide_bt_J42
        have g6 : ¬ ((F_NH_need (0 : Int32)) = (0 : Int32)) := (by decide)
        rw [if_neg g6, if_neg g6]
        refine ⟨trivial, ?_⟩
        first | exact ⟨vb, hb⟩ | exact hd2 | exact hkd
      ·
        rw [if_neg g5, if_neg g5]
        have g5r := v_isReg g5
        by_cases g7 : ((F_NH_isMode x6) : Int32) = (0 : Int32)
        ·
          rw [if_pos g7, if_pos g7]
          unfold S_NH_divide_bt_J41 F_NH_divide_bt_J41
          unfold S_NH_divide_bt_J42 F_NH_divide_bt_J42
          have g8 : ¬ ((F_NH_need (0 : Int32)) = (0 : Int32)) := (by decide)
          rw [if_neg g8, if_neg g8]
          refine ⟨trivial, ?_⟩
          first | exact ⟨vb, hb⟩ | exact hd2 | exact hkd
        ·
          rw [if_neg g7, if_neg g7]
          by_cases g9 : ((F_NH_isScale x5) : Int32) = (0 : Int32)
          ·
            rw [if_pos g9, if_pos g9]
            unfold S_NH_divide_bt_J41 F_NH_divide_bt_J41
            unfold S_NH_divide_bt_J42 F_NH_divide_bt_J42
            have g10 : ¬ ((F_NH_need (0 : Int32)) = (0 : Int32)) := (by decide)
            rw [if_neg g10, if_neg g10]
            refine ⟨trivial, ?_⟩
            first | exact ⟨vb, hb⟩ | exact hd2 | exact hkd
          ·
            rw [if_neg g9, if_neg g9]
            have g9r := v_isScale g9
            unfold S_NH_divide_bt_J42 F_NH_divide_bt_J42
            have g11 : ((F_NH_need (1 : Int32)) = (0 : Int32)) := (by decide)
            rw [if_pos g11, if_pos g11]
            refine v_cons (by omega) ?_
            refine v_cons (by omega) ?_
            by_cases g12 : t13_0 ≤ (0 : Int32)
            ·
              rw [if_pos g12, if_pos g12]
              have g12i : t13_0.toInt ≤ 0 := q_leI g12
              unfold S_NH_divide_bt_J65 F_NH_divide_bt_J65
              have g13 : ¬ ((F_NH_canHave (0 : Int32)) = (0 : Int32)) := (by decide)
              rw [if_neg g13, if_neg g13]
              refine ⟨trivial, ?_⟩
              first | exact ⟨vb, hb⟩ | exact hd2 | exact hkd
            ·
              rw [if_neg g12, if_neg g12]
              have g12i : 0 < t13_0.toInt := q_nleI g12
              unfold S_NH_divide_bt_J65 F_NH_divide_bt_J65
              have g14 : ((F_NH_canHave (1 : Int32)) = (0 : Int32)) := (by decide)
              rw [if_pos g14, if_pos g14]
              refine v_cons (by omega) ?_
              refine v_cons (by omega) ?_
              have h15 := T_divideToScale (R := (108 : Int32)) (R2 := (108 : Int32)) (x4 := x5) (x5 := x6) (t0_0 := t0_0) (t0_1 := t0_1) (t1_0 := t1_0) (t1_1 := t1_1) (t2_0 := t2_0) (t3_0 := t3_0) (t3_1 := t3_1) (t4_0 := t4_0) (t5_0 := t5_0) (t5_1 := t5_1) (t6_0 := t6_0) (t7_0 := t9_0) (t7_1 := t9_1) (t8_0 := t10_0) (t8_1 := t10_1) (t9_0 := t11_0) (t10_0 := t12_0) (t10_1 := t12_1) (t11_0 := t13_0) (t11_1 := t13_1) (t12_0 := t14_0) ha hb (hb.1.pos.mp (by omega)) (by first | assumption | omega | trivial | decide) (by first | assumption | omega | trivial | decide) trivial trivial trivial
              refine v_owe h15.1 ?_
              replace h15 := h15.2
              generalize F_DW_divideToScale (108 : Int32) (108 : Int32) x5 x6 t0_0 t0_1 t1_0 t1_1 t2_0 t3_0 t3_1 t4_0 t5_0 t5_1 t6_0 t9_0 t9_1 t10_0 t10_1 t11_0 t12_0 t12_1 t13_0 t13_1 t14_0 = p207 at h15 ⊢
              unfold S_NH_divide_bt_c88 F_NH_divide_bt_c88
              rcases h15 with ⟨h150 | ⟨h151, h15k⟩, h15g⟩
              ·
                have hb2 : dO 108 p207.2.2.2.2.2.2.2.2.2.2.2.2.1 p207.2.2.2.2.2.2.2.2.2.2.2.2.2.1 p207.2.2.2.2.2.2.2.2.2.2.2.2.2.2 t12_0 t12_1 vb := ⟨h15g.2.2.2, hb.2⟩
                have hd2 : rD p207.2.2.2.2.2.2.2.2.2.2.2.2.1 p207.2.2.2.2.2.2.2.2.2.2.2.2.2.1 p207.2.2.2.2.2.2.2.2.2.2.2.2.2.2 t12_0 t12_1 := ⟨vb, hb2⟩
                have g16 : ¬ ((F_NH_canHave (p207.1 : Int32)) = (0 : Int32)) := (by rw [h150]; decide)
                rw [if_neg g16, if_neg g16]
                refine ⟨trivial, ?_⟩
                first | exact ⟨vb, hb⟩ | exact hd2 | exact hkd
              ·
                have hb2 : dO 108 p207.2.2.2.2.2.2.2.2.2.2.2.2.1 p207.2.2.2.2.2.2.2.2.2.2.2.2.2.1 p207.2.2.2.2.2.2.2.2.2.2.2.2.2.2 t12_0 t12_1 vb := ⟨h15g.2.2.2, hb.2⟩
                have hd2 : rD p207.2.2.2.2.2.2.2.2.2.2.2.2.1 p207.2.2.2.2.2.2.2.2.2.2.2.2.2.1 p207.2.2.2.2.2.2.2.2.2.2.2.2.2.2 t12_0 t12_1 := ⟨vb, hb2⟩
                have g17 : ((F_NH_canHave (p207.1 : Int32)) = (0 : Int32)) := (by rw [h151]; decide)
                rw [if_pos g17, if_pos g17]
                have h18 := T_keepDecimal (x2 := x4) (t0_0 := (p207.2.1 : Int64)) (t0_1 := (p207.2.2.1 : Int32)) (t1_0 := (p207.2.2.2.1 : Int32)) (t1_1 := (p207.2.2.2.2.1 : Int32)) (t2_0 := (p207.2.2.2.2.2.1 : (Nat → Int32))) (t3_0 := t7_0) (t3_1 := t7_1) (t4_0 := t8_0) (t5_0 := t12_0) (t5_1 := t12_1) (t6_0 := (p207.2.2.2.2.2.2.2.2.2.2.2.2.1 : Int32)) (t6_1 := (p207.2.2.2.2.2.2.2.2.2.2.2.2.2.1 : Int32)) (t7_0 := (p207.2.2.2.2.2.2.2.2.2.2.2.2.2.2 : (Nat → Int32))) (by first | assumption | omega | trivial | decide) hd2 (by first | assumption | omega | trivial | decide) (by first | assumption | omega | trivial | decide)
                refine v_owe h18.1 ?_
                replace h18 := h18.2
                generalize F_NH_keepDecimal x4 (p207.2.1 : Int64) (p207.2.2.1 : Int32) (p207.2.2.2.1 : Int32) (p207.2.2.2.2.1 : Int32) (p207.2.2.2.2.2.1 : (Nat → Int32)) t7_0 t7_1 t8_0 t12_0 t12_1 (p207.2.2.2.2.2.2.2.2.2.2.2.2.1 : Int32) (p207.2.2.2.2.2.2.2.2.2.2.2.2.2.1 : Int32) (p207.2.2.2.2.2.2.2.2.2.2.2.2.2.2 : (Nat → Int32)) = p259 at h18 ⊢
                have hkd := h18
                unfold S_NH_divide_bt_c96 F_NH_divide_bt_c96
                by_cases g19 : p259.1 = (0 : Int32)
                ·
                  rw [if_pos g19, if_pos g19]
                  have g19i : p259.1.toInt = 0 := q_eqI g19
                  refine ⟨trivial, ?_⟩
                  first | exact ⟨vb, hb⟩ | exact hd2 | exact hkd
                ·
                  rw [if_neg g19, if_neg g19]
                  have g19i : p259.1.toInt ≠ 0 := q_neI g19
                  refine ⟨trivial, ?_⟩
                  first | exact ⟨vb, hb⟩ | exact hd2 | exact hkd
def Q_divide_abt (p : Int32 × Int64 × Int32 × Int32 × Int32 × (Nat → Int32) × Int32 × Int32 × (Nat → Int32) × Int32 × Int32 × (Nat → Int32) × Int32 × Int32 × (Nat → Int32) × Int32 × Int32 × Int32 × Int32 × (Nat → Int32)) : Prop := rD p.2.2.2.2.2.2.2.2.2.2.2.2.2.2.2.2.2.1 p.2.2.2.2.2.2.2.2.2.2.2.2.2.2.2.2.2.2.1 p.2.2.2.2.2.2.2.2.2.2.2.2.2.2.2.2.2.2.2 p.2.2.2.2.2.2.2.2.2.2.2.2.2.2.2.1 p.2.2.2.2.2.2.2.2.2.2.2.2.2.2.2.2.1
theorem T_divide_abt {x2 : Int32} {x3 : Int32} {x4 : Int32} {x5 : Int32} {x6 : Int32} {t0_0 : Int64} {t0_1 : Int32} {t1_0 : Int32} {t1_1 : Int32} {t2_0 : (Nat → Int32)} {t3_0 : Int32} {t3_1 : Int32} {t4_0 : (Nat → Int32)} {t5_0 : Int32} {t5_1 : Int32} {t6_0 : (Nat → Int32)} {t7_0 : Int32} {t7_1 : Int32} {t8_0 : (Nat → Int32)} {t9_0 : Int32} {t9_1 : Int32} {t10_0 : Int32} {t10_1 : Int32} {t11_0 : (Nat → Int32)} {vb : Int} (hb : dO 108 t10_0 t10_1 t11_0 t9_0 t9_1 vb) : (S_NH_divide_abt x2 x3 x4 x5 x6 t0_0 t0_1 t1_0 t1_1 t2_0 t3_0 t3_1 t4_0 t5_0 t5_1 t6_0 t7_0 t7_1 t8_0 t9_0 t9_1 t10_0 t10_1 t11_0) ∧ Q_divide_abt (F_NH_divide_abt x2 x3 x4 x5 x6 t0_0 t0_1 t1_0 t1_1 t2_0 t3_0 t3_1 t4_0 t5_0 t5_1 t6_0 t7_0 t7_1 t8_0 t9_0 t9_1 t10_0 t10_1 t11_0) := by
  have e0 : (0 : Int32).toInt = 0 := rfl
  unfold S_NH_divide_abt F_NH_divide_abt
  by_cases g1 : ((F_NH_isRegister x2) : Int32) = (0 : Int32)
  ·
    rw [if_pos g1, if_pos g1]
    unfold S_NH_divide_abt_J41 F_NH_divide_abt_J41
    unfold S_NH_divide_abt_J42 F_NH_divide_abt_J42
    have g2 : ¬ ((F_NH_need (0 : Int32)) = (0 : Int32)) := (by decide)
    rw [if_neg g2, if_neg g2]
    refine ⟨trivial, ?_⟩
    first | exact ⟨vb, hb⟩ | exact hd2 | exact hkd
  ·
    rw [if_neg g1, if_neg g1]
    have g1r := v_isReg g1
    by_cases g3 : ((F_NH_isRegister x3) : Int32) = (0 : Int32)
    ·
      rw [if_pos g3, if_pos g3]
      unfold S_NH_divide_abt_J41 F_NH_divide_abt_J41
      unfold S_NH_divide_abt_J42 F_NH_divide_abt_J42
      have g4 : ¬ ((F_NH_need (0 : Int32)) = (0 : Int32)) := (by decide)
      rw [if_neg g4, if_neg g4]
      refine ⟨trivial, ?_⟩
      first | exact ⟨vb, hb⟩ | exact hd2 | exact hkd
    ·
      rw [if_neg g3, if_neg g3]
      have g3r := v_isReg g3
      by_cases g5 : ((F_NH_isRegister x4) : Int32) = (0 : Int32)
      ·
        rw [if_pos g5, if_pos g5]
        unfold S_NH_divide_abt_J41 F_NH_divide_abt_J41
        unfold S_NH_divide_abt_J42 F_NH_divide_abt_J42
        have g6 : ¬ ((F_NH_need (0 : Int32)) = (0 : Int32)) := (by decide)
        rw [if_neg g6, if_neg g6]
        refine ⟨trivial, ?_⟩
        first | exact ⟨vb, hb⟩ | exact hd2 | exact hkd
      ·
        rw [if_neg g5, if_neg g5]
        have g5r := v_isReg g5
        by_cases g7 : ((F_NH_isMode x6) : Int32) = (0 : Int32)
        ·
          rw [if_pos g7, if_pos g7]
          unfold S_NH_divide_abt_J41 F_NH_divide_abt_J41
          unfold S_NH_divide_abt_J42 F_NH_divide_abt_J42
          have g8 : ¬ ((F_NH_need (0 : Int32)) = (0 : Int32)) := (by decide)
          rw [if_neg g8, if_neg g8]
          refine ⟨trivial, ?_⟩
          first | exact ⟨vb, hb⟩ | exact hd2 | exact hkd
        ·
          rw [if_neg g7, if_neg g7]
          by_cases g9 : ((F_NH_isScale x5) : Int32) = (0 : Int32)
          ·
            rw [if_pos g9, if_pos g9]
            unfold S_NH_divide_abt_J41 F_NH_divide_abt_J41
            unfold S_NH_divide_abt_J42 F_NH_divide_abt_J42
            have g10 : ¬ ((F_NH_need (0 : Int32)) = (0 : Int32)) := (by decide)
            rw [if_neg g10, if_neg g10]
            refine ⟨trivial, ?_⟩
            first | exact ⟨vb, hb⟩ | exact hd2 | exact hkd
          ·
            rw [if_neg g9, if_neg g9]
            have g9r := v_isScale g9
            unfold S_NH_divide_abt_J42 F_NH_divide_abt_J42
            have g11 : ((F_NH_need (1 : Int32)) = (0 : Int32)) := (by decide)
            rw [if_pos g11, if_pos g11]
            refine v_cons (by omega) ?_
            refine v_cons (by omega) ?_
            by_cases g12 : t10_0 ≤ (0 : Int32)
            ·
              rw [if_pos g12, if_pos g12]
              have g12i : t10_0.toInt ≤ 0 := q_leI g12
              unfold S_NH_divide_abt_J65 F_NH_divide_abt_J65
              have g13 : ¬ ((F_NH_canHave (0 : Int32)) = (0 : Int32)) := (by decide)
              rw [if_neg g13, if_neg g13]
              refine ⟨trivial, ?_⟩
              first | exact ⟨vb, hb⟩ | exact hd2 | exact hkd
            ·
              rw [if_neg g12, if_neg g12]
              have g12i : 0 < t10_0.toInt := q_nleI g12
              unfold S_NH_divide_abt_J65 F_NH_divide_abt_J65
              have g14 : ((F_NH_canHave (1 : Int32)) = (0 : Int32)) := (by decide)
              rw [if_pos g14, if_pos g14]
              refine v_cons (by omega) ?_
              refine v_cons (by omega) ?_
              have h15 := T_divideToScale_a (R2 := (108 : Int32)) (x4 := x5) (x5 := x6) (t0_0 := t0_0) (t0_1 := t0_1) (t1_0 := t1_0) (t1_1 := t1_1) (t2_0 := t2_0) (t3_0 := t3_0) (t3_1 := t3_1) (t4_0 := t4_0) (t5_0 := t5_0) (t5_1 := t5_1) (t6_0 := t6_0) (t7_0 := t9_0) (t7_1 := t9_1) (t8_0 := t10_0) (t8_1 := t10_1) (t9_0 := t11_0) hb (by first | assumption | omega | trivial | decide) (by first | assumption | omega | trivial | decide) trivial trivial trivial
              refine v_owe h15.1 ?_
              replace h15 := h15.2
              generalize F_DW_divideToScale_a (108 : Int32) x5 x6 t0_0 t0_1 t1_0 t1_1 t2_0 t3_0 t3_1 t4_0 t5_0 t5_1 t6_0 t9_0 t9_1 t10_0 t10_1 t11_0 = p185 at h15 ⊢
              unfold S_NH_divide_abt_c88 F_NH_divide_abt_c88
              rcases h15 with ⟨h150 | ⟨h151, h15k⟩, h15g⟩
              ·
                have hb2 : dO 108 p185.2.2.2.2.2.2.2.2.2.2.2.2.1 p185.2.2.2.2.2.2.2.2.2.2.2.2.2.1 p185.2.2.2.2.2.2.2.2.2.2.2.2.2.2 t9_0 t9_1 vb := ⟨h15g.2.2.2, hb.2⟩
                have hd2 : rD p185.2.2.2.2.2.2.2.2.2.2.2.2.1 p185.2.2.2.2.2.2.2.2.2.2.2.2.2.1 p185.2.2.2.2.2.2.2.2.2.2.2.2.2.2 t9_0 t9_1 := ⟨vb, hb2⟩
                have g16 : ¬ ((F_NH_canHave (p185.1 : Int32)) = (0 : Int32)) := (by rw [h150]; decide)
                rw [if_neg g16, if_neg g16]
                refine ⟨trivial, ?_⟩
                first | exact ⟨vb, hb⟩ | exact hd2 | exact hkd
              ·
                have hb2 : dO 108 p185.2.2.2.2.2.2.2.2.2.2.2.2.1 p185.2.2.2.2.2.2.2.2.2.2.2.2.2.1 p185.2.2.2.2.2.2.2.2.2.2.2.2.2.2 t9_0 t9_1 vb := ⟨h15g.2.2.2, hb.2⟩
                have hd2 : rD p185.2.2.2.2.2.2.2.2.2.2.2.2.1 p185.2.2.2.2.2.2.2.2.2.2.2.2.2.1 p185.2.2.2.2.2.2.2.2.2.2.2.2.2.2 t9_0 t9_1 := ⟨vb, hb2⟩
                have g17 : ((F_NH_canHave (p185.1 : Int32)) = (0 : Int32)) := (by rw [h151]; decide)
                rw [if_pos g17, if_pos g17]
                have h18 := T_keepDecimal (x2 := x4) (t0_0 := (p185.2.1 : Int64)) (t0_1 := (p185.2.2.1 : Int32)) (t1_0 := (p185.2.2.2.1 : Int32)) (t1_1 := (p185.2.2.2.2.1 : Int32)) (t2_0 := (p185.2.2.2.2.2.1 : (Nat → Int32))) (t3_0 := t7_0) (t3_1 := t7_1) (t4_0 := t8_0) (t5_0 := t9_0) (t5_1 := t9_1) (t6_0 := (p185.2.2.2.2.2.2.2.2.2.2.2.2.1 : Int32)) (t6_1 := (p185.2.2.2.2.2.2.2.2.2.2.2.2.2.1 : Int32)) (t7_0 := (p185.2.2.2.2.2.2.2.2.2.2.2.2.2.2 : (Nat → Int32))) (by first | assumption | omega | trivial | decide) hd2 (by first | assumption | omega | trivial | decide) (by first | assumption | omega | trivial | decide)
                refine v_owe h18.1 ?_
                replace h18 := h18.2
                generalize F_NH_keepDecimal x4 (p185.2.1 : Int64) (p185.2.2.1 : Int32) (p185.2.2.2.1 : Int32) (p185.2.2.2.2.1 : Int32) (p185.2.2.2.2.2.1 : (Nat → Int32)) t7_0 t7_1 t8_0 t9_0 t9_1 (p185.2.2.2.2.2.2.2.2.2.2.2.2.1 : Int32) (p185.2.2.2.2.2.2.2.2.2.2.2.2.2.1 : Int32) (p185.2.2.2.2.2.2.2.2.2.2.2.2.2.2 : (Nat → Int32)) = p237 at h18 ⊢
                have hkd := h18
                unfold S_NH_divide_abt_c96 F_NH_divide_abt_c96
                by_cases g19 : p237.1 = (0 : Int32)
                ·
                  rw [if_pos g19, if_pos g19]
                  have g19i : p237.1.toInt = 0 := q_eqI g19
                  refine ⟨trivial, ?_⟩
                  first | exact ⟨vb, hb⟩ | exact hd2 | exact hkd
                ·
                  rw [if_neg g19, if_neg g19]
                  have g19i : p237.1.toInt ≠ 0 := q_neI g19
                  refine ⟨trivial, ?_⟩
                  first | exact ⟨vb, hb⟩ | exact hd2 | exact hkd
def Q_quotient (sc fc : Int32) (vb : Int) (p : Int32 × Int64 × Int32 × Int32 × Int32 × (Nat → Int32) × Int32 × Int32 × (Nat → Int32) × Int32 × Int32 × (Nat → Int32) × Int32 × Int32 × (Nat → Int32) × Int32 × Int32 × (Nat → Int32) × Int32 × Int32 × Int32 × Int32 × (Nat → Int32)) : Prop := rD p.2.2.2.2.2.2.2.2.2.2.2.2.2.2.2.2.2.2.2.2.1 p.2.2.2.2.2.2.2.2.2.2.2.2.2.2.2.2.2.2.2.2.2.1 p.2.2.2.2.2.2.2.2.2.2.2.2.2.2.2.2.2.2.2.2.2.2 p.2.2.2.2.2.2.2.2.2.2.2.2.2.2.2.2.2.2.1 p.2.2.2.2.2.2.2.2.2.2.2.2.2.2.2.2.2.2.2.1 ∧ dO 108 p.2.2.2.2.2.2.2.2.2.2.2.2.2.2.2.1 p.2.2.2.2.2.2.2.2.2.2.2.2.2.2.2.2.1 p.2.2.2.2.2.2.2.2.2.2.2.2.2.2.2.2.2.1 sc fc vb
theorem T_quotient {x2 : Int32} {x3 : Int32} {x4 : Int32} {x5 : Int32} {x6 : Int32} {t0_0 : Int64} {t0_1 : Int32} {t1_0 : Int32} {t1_1 : Int32} {t2_0 : (Nat → Int32)} {t3_0 : Int32} {t3_1 : Int32} {t4_0 : (Nat → Int32)} {t5_0 : Int32} {t5_1 : Int32} {t6_0 : (Nat → Int32)} {t7_0 : Int32} {t7_1 : Int32} {t8_0 : (Nat → Int32)} {t9_0 : Int32} {t9_1 : Int32} {t10_0 : Int32} {t10_1 : Int32} {t11_0 : (Nat → Int32)} {t12_0 : Int32} {t12_1 : Int32} {t13_0 : Int32} {t13_1 : Int32} {t14_0 : (Nat → Int32)} {t15_0 : Int32} {t15_1 : Int32} {t16_0 : Int32} {t16_1 : Int32} {t17_0 : (Nat → Int32)} {va vb : Int} (ha : dO 108 t10_0 t10_1 t11_0 t9_0 t9_1 va) (hb : dO 108 t13_0 t13_1 t14_0 t12_0 t12_1 vb) (hd : rD t16_0 t16_1 t17_0 t15_0 t15_1) : (S_NH_quotient x2 x3 x4 x5 x6 t0_0 t0_1 t1_0 t1_1 t2_0 t3_0 t3_1 t4_0 t5_0 t5_1 t6_0 t7_0 t7_1 t8_0 t9_0 t9_1 t10_0 t10_1 t11_0 t12_0 t12_1 t13_0 t13_1 t14_0 t15_0 t15_1 t16_0 t16_1 t17_0) ∧ Q_quotient t12_0 t12_1 vb (F_NH_quotient x2 x3 x4 x5 x6 t0_0 t0_1 t1_0 t1_1 t2_0 t3_0 t3_1 t4_0 t5_0 t5_1 t6_0 t7_0 t7_1 t8_0 t9_0 t9_1 t10_0 t10_1 t11_0 t12_0 t12_1 t13_0 t13_1 t14_0 t15_0 t15_1 t16_0 t16_1 t17_0) := by
  have e0 : (0 : Int32).toInt = 0 := rfl
  unfold S_NH_quotient F_NH_quotient
  by_cases g1 : ((F_NH_isRegister x2) : Int32) = (0 : Int32)
  ·
    rw [if_pos g1, if_pos g1]
    unfold S_NH_quotient_J33 F_NH_quotient_J33
    unfold S_NH_quotient_J34 F_NH_quotient_J34
    have g2 : ¬ ((F_NH_need (0 : Int32)) = (0 : Int32)) := (by decide)
    rw [if_neg g2, if_neg g2]
    refine ⟨trivial, ?_⟩
    first | exact ⟨hd, hb⟩ | exact ⟨hd, hb2⟩ | exact ⟨hkd, hb2⟩
  ·
    rw [if_neg g1, if_neg g1]
    have g1r := v_isReg g1
    by_cases g3 : ((F_NH_isRegister x3) : Int32) = (0 : Int32)
    ·
      rw [if_pos g3, if_pos g3]
      unfold S_NH_quotient_J33 F_NH_quotient_J33
      unfold S_NH_quotient_J34 F_NH_quotient_J34
      have g4 : ¬ ((F_NH_need (0 : Int32)) = (0 : Int32)) := (by decide)
      rw [if_neg g4, if_neg g4]
      refine ⟨trivial, ?_⟩
      first | exact ⟨hd, hb⟩ | exact ⟨hd, hb2⟩ | exact ⟨hkd, hb2⟩
    ·
      rw [if_neg g3, if_neg g3]
      have g3r := v_isReg g3
      by_cases g5 : ((F_NH_isRegister x4) : Int32) = (0 : Int32)
      ·
        rw [if_pos g5, if_pos g5]
        unfold S_NH_quotient_J33 F_NH_quotient_J33
        unfold S_NH_quotient_J34 F_NH_quotient_J34
        have g6 : ¬ ((F_NH_need (0 : Int32)) = (0 : Int32)) := (by decide)
        rw [if_neg g6, if_neg g6]
        refine ⟨trivial, ?_⟩
        first | exact ⟨hd, hb⟩ | exact ⟨hd, hb2⟩ | exact ⟨hkd, hb2⟩
      ·
        rw [if_neg g5, if_neg g5]
        have g5r := v_isReg g5
        by_cases g7 : ((F_NH_isMode x6) : Int32) = (0 : Int32)
        ·
          rw [if_pos g7, if_pos g7]
          unfold S_NH_quotient_J33 F_NH_quotient_J33
          unfold S_NH_quotient_J34 F_NH_quotient_J34
          have g8 : ¬ ((F_NH_need (0 : Int32)) = (0 : Int32)) := (by decide)
          rw [if_neg g8, if_neg g8]
          refine ⟨trivial, ?_⟩
          first | exact ⟨hd, hb⟩ | exact ⟨hd, hb2⟩ | exact ⟨hkd, hb2⟩
        ·
          rw [if_neg g7, if_neg g7]
          unfold S_NH_quotient_J34 F_NH_quotient_J34
          have g9 : ((F_NH_need (1 : Int32)) = (0 : Int32)) := (by decide)
          rw [if_pos g9, if_pos g9]
          by_cases g10 : x5 < (0 : Int32)
          ·
            rw [if_pos g10, if_pos g10]
            have g10i : x5.toInt < 0 := q_ltI g10
            unfold S_NH_quotient_J54 F_NH_quotient_J54
            unfold S_NH_quotient_J55 F_NH_quotient_J55
            have g11 : ¬ ((F_NH_need (0 : Int32)) = (0 : Int32)) := (by decide)
            rw [if_neg g11, if_neg g11]
            refine ⟨trivial, ?_⟩
            first | exact ⟨hd, hb⟩ | exact ⟨hd, hb2⟩ | exact ⟨hkd, hb2⟩
          ·
            rw [if_neg g10, if_neg g10]
            have g10i : 0 ≤ x5.toInt := q_nltI g10
            by_cases g12 : (1000 : Int32) < x5
            ·
              rw [if_pos g12, if_pos g12]
              have g12i : 1000 < x5.toInt := q_ltI g12
              unfold S_NH_quotient_J54 F_NH_quotient_J54
              unfold S_NH_quotient_J55 F_NH_quotient_J55
              have g13 : ¬ ((F_NH_need (0 : Int32)) = (0 : Int32)) := (by decide)
              rw [if_neg g13, if_neg g13]
              refine ⟨trivial, ?_⟩
              first | exact ⟨hd, hb⟩ | exact ⟨hd, hb2⟩ | exact ⟨hkd, hb2⟩
            ·
              rw [if_neg g12, if_neg g12]
              have g12i : x5.toInt ≤ 1000 := q_nltI g12
              unfold S_NH_quotient_J55 F_NH_quotient_J55
              have g14 : ((F_NH_need (1 : Int32)) = (0 : Int32)) := (by decide)
              rw [if_pos g14, if_pos g14]
              refine v_cons (by omega) ?_
              refine v_cons (by omega) ?_
              by_cases g15 : t13_0 ≤ (0 : Int32)
              ·
                rw [if_pos g15, if_pos g15]
                have g15i : t13_0.toInt ≤ 0 := q_leI g15
                unfold S_NH_quotient_J78 F_NH_quotient_J78
                have g16 : ¬ ((F_NH_canHave (0 : Int32)) = (0 : Int32)) := (by decide)
                rw [if_neg g16, if_neg g16]
                refine ⟨trivial, ?_⟩
                first | exact ⟨hd, hb⟩ | exact ⟨hd, hb2⟩ | exact ⟨hkd, hb2⟩
              ·
                rw [if_neg g15, if_neg g15]
                have g15i : 0 < t13_0.toInt := q_nleI g15
                unfold S_NH_quotient_J78 F_NH_quotient_J78
                have g17 : ((F_NH_canHave (1 : Int32)) = (0 : Int32)) := (by decide)
                rw [if_pos g17, if_pos g17]
                refine v_cons (by omega) ?_
                refine v_cons (by omega) ?_
                have h18 := T_divideToPrecision (R := (108 : Int32)) (R2 := (108 : Int32)) (x4 := x5) (x5 := x6) (t0_0 := t0_0) (t0_1 := t0_1) (t1_0 := t1_0) (t1_1 := t1_1) (t2_0 := t2_0) (t3_0 := t3_0) (t3_1 := t3_1) (t4_0 := t4_0) (t5_0 := t5_0) (t5_1 := t5_1) (t6_0 := t6_0) (t7_0 := t7_0) (t7_1 := t7_1) (t8_0 := t8_0) (t9_0 := t9_0) (t9_1 := t9_1) (t10_0 := t10_0) (t10_1 := t10_1) (t11_0 := t11_0) (t12_0 := t12_0) (t12_1 := t12_1) (t13_0 := t13_0) (t13_1 := t13_1) (t14_0 := t14_0) ha hb (hb.1.pos.mp (by omega)) (by first | assumption | omega | trivial | decide) (by first | assumption | omega | trivial | decide) trivial trivial trivial
                refine v_owe h18.1 ?_
                replace h18 := h18.2
                generalize F_DW_divideToPrecision (108 : Int32) (108 : Int32) x5 x6 t0_0 t0_1 t1_0 t1_1 t2_0 t3_0 t3_1 t4_0 t5_0 t5_1 t6_0 t7_0 t7_1 t8_0 t9_0 t9_1 t10_0 t10_1 t11_0 t12_0 t12_1 t13_0 t13_1 t14_0 = p270 at h18 ⊢
                unfold S_NH_quotient_c101 F_NH_quotient_c101
                rcases h18 with ⟨h180 | ⟨h181, h18k⟩, h18g⟩
                ·
                  have hb2 : dO 108 p270.2.2.2.2.2.2.2.2.2.2.2.2.2.2.2.1 p270.2.2.2.2.2.2.2.2.2.2.2.2.2.2.2.2.1 p270.2.2.2.2.2.2.2.2.2.2.2.2.2.2.2.2.2 t12_0 t12_1 vb := ⟨h18g.2.2.2.2, hb.2⟩
                  have g19 : ¬ ((F_NH_canHave (p270.1 : Int32)) = (0 : Int32)) := (by rw [h180]; decide)
                  rw [if_neg g19, if_neg g19]
                  refine ⟨trivial, ?_⟩
                  first | exact ⟨hd, hb⟩ | exact ⟨hd, hb2⟩ | exact ⟨hkd, hb2⟩
                ·
                  have hb2 : dO 108 p270.2.2.2.2.2.2.2.2.2.2.2.2.2.2.2.1 p270.2.2.2.2.2.2.2.2.2.2.2.2.2.2.2.2.1 p270.2.2.2.2.2.2.2.2.2.2.2.2.2.2.2.2.2 t12_0 t12_1 vb := ⟨h18g.2.2.2.2, hb.2⟩
                  have g20 : ((F_NH_canHave (p270.1 : Int32)) = (0 : Int32)) := (by rw [h181]; decide)
                  rw [if_pos g20, if_pos g20]
                  have h21 := T_keepDecimal (x2 := x4) (t0_0 := (p270.2.1 : Int64)) (t0_1 := (p270.2.2.1 : Int32)) (t1_0 := (p270.2.2.2.1 : Int32)) (t1_1 := (p270.2.2.2.2.1 : Int32)) (t2_0 := (p270.2.2.2.2.2.1 : (Nat → Int32))) (t3_0 := (p270.2.2.2.2.2.2.2.2.2.2.2.2.1 : Int32)) (t3_1 := (p270.2.2.2.2.2.2.2.2.2.2.2.2.2.1 : Int32)) (t4_0 := (p270.2.2.2.2.2.2.2.2.2.2.2.2.2.2.1 : (Nat → Int32))) (t5_0 := t15_0) (t5_1 := t15_1) (t6_0 := t16_0) (t6_1 := t16_1) (t7_0 := t17_0) (by first | assumption | omega | trivial | decide) hd (by first | assumption | omega | trivial | decide) (by first | assumption | omega | trivial | decide)
                  refine v_owe h21.1 ?_
                  replace h21 := h21.2
                  generalize F_NH_keepDecimal x4 (p270.2.1 : Int64) (p270.2.2.1 : Int32) (p270.2.2.2.1 : Int32) (p270.2.2.2.2.1 : Int32) (p270.2.2.2.2.2.1 : (Nat → Int32)) (p270.2.2.2.2.2.2.2.2.2.2.2.2.1 : Int32) (p270.2.2.2.2.2.2.2.2.2.2.2.2.2.1 : Int32) (p270.2.2.2.2.2.2.2.2.2.2.2.2.2.2.1 : (Nat → Int32)) t15_0 t15_1 t16_0 t16_1 t17_0 = p325 at h21 ⊢
                  have hkd := h21
                  unfold S_NH_quotient_c109 F_NH_quotient_c109
                  by_cases g22 : p325.1 = (0 : Int32)
                  ·
                    rw [if_pos g22, if_pos g22]
                    have g22i : p325.1.toInt = 0 := q_eqI g22
                    refine ⟨trivial, ?_⟩
                    first | exact ⟨hd, hb⟩ | exact ⟨hd, hb2⟩ | exact ⟨hkd, hb2⟩
                  ·
                    rw [if_neg g22, if_neg g22]
                    have g22i : p325.1.toInt ≠ 0 := q_neI g22
                    refine ⟨trivial, ?_⟩
                    first | exact ⟨hd, hb⟩ | exact ⟨hd, hb2⟩ | exact ⟨hkd, hb2⟩
def Q_quotient_ab (sc fc : Int32) (vb : Int) (p : Int32 × Int64 × Int32 × Int32 × Int32 × (Nat → Int32) × Int32 × Int32 × (Nat → Int32) × Int32 × Int32 × (Nat → Int32) × Int32 × Int32 × (Nat → Int32) × Int32 × Int32 × (Nat → Int32) × Int32 × Int32 × Int32 × Int32 × (Nat → Int32)) : Prop := rD p.2.2.2.2.2.2.2.2.2.2.2.2.2.2.2.2.2.2.2.2.1 p.2.2.2.2.2.2.2.2.2.2.2.2.2.2.2.2.2.2.2.2.2.1 p.2.2.2.2.2.2.2.2.2.2.2.2.2.2.2.2.2.2.2.2.2.2 p.2.2.2.2.2.2.2.2.2.2.2.2.2.2.2.2.2.2.1 p.2.2.2.2.2.2.2.2.2.2.2.2.2.2.2.2.2.2.2.1 ∧ dO 108 p.2.2.2.2.2.2.2.2.2.2.2.2.2.2.2.1 p.2.2.2.2.2.2.2.2.2.2.2.2.2.2.2.2.1 p.2.2.2.2.2.2.2.2.2.2.2.2.2.2.2.2.2.1 sc fc vb
theorem T_quotient_ab {x2 : Int32} {x3 : Int32} {x4 : Int32} {x5 : Int32} {x6 : Int32} {t0_0 : Int64} {t0_1 : Int32} {t1_0 : Int32} {t1_1 : Int32} {t2_0 : (Nat → Int32)} {t3_0 : Int32} {t3_1 : Int32} {t4_0 : (Nat → Int32)} {t5_0 : Int32} {t5_1 : Int32} {t6_0 : (Nat → Int32)} {t7_0 : Int32} {t7_1 : Int32} {t8_0 : (Nat → Int32)} {t9_0 : Int32} {t9_1 : Int32} {t10_0 : Int32} {t10_1 : Int32} {t11_0 : (Nat → Int32)} {t12_0 : Int32} {t12_1 : Int32} {t13_0 : Int32} {t13_1 : Int32} {t14_0 : (Nat → Int32)} {vb : Int} (hb : dO 108 t10_0 t10_1 t11_0 t9_0 t9_1 vb) (hd : rD t13_0 t13_1 t14_0 t12_0 t12_1) : (S_NH_quotient_ab x2 x3 x4 x5 x6 t0_0 t0_1 t1_0 t1_1 t2_0 t3_0 t3_1 t4_0 t5_0 t5_1 t6_0 t7_0 t7_1 t8_0 t9_0 t9_1 t10_0 t10_1 t11_0 t12_0 t12_1 t13_0 t13_1 t14_0) ∧ Q_quotient_ab t9_0 t9_1 vb (F_NH_quotient_ab x2 x3 x4 x5 x6 t0_0 t0_1 t1_0 t1_1 t2_0 t3_0 t3_1 t4_0 t5_0 t5_1 t6_0 t7_0 t7_1 t8_0 t9_0 t9_1 t10_0 t10_1 t11_0 t12_0 t12_1 t13_0 t13_1 t14_0) := by
  have e0 : (0 : Int32).toInt = 0 := rfl
  unfold S_NH_quotient_ab F_NH_quotient_ab
  by_cases g1 : ((F_NH_isRegister x2) : Int32) = (0 : Int32)
  ·
    rw [if_pos g1, if_pos g1]
    unfold S_NH_quotient_ab_J33 F_NH_quotient_ab_J33
    unfold S_NH_quotient_ab_J34 F_NH_quotient_ab_J34
    have g2 : ¬ ((F_NH_need (0 : Int32)) = (0 : Int32)) := (by decide)
    rw [if_neg g2, if_neg g2]
    refine ⟨trivial, ?_⟩
    first | exact ⟨hd, hb⟩ | exact ⟨hd, hb2⟩ | exact ⟨hkd, hb2⟩
  ·
    rw [if_neg g1, if_neg g1]
    have g1r := v_isReg g1
    by_cases g3 : ((F_NH_isRegister x3) : Int32) = (0 : Int32)
    ·
      rw [if_pos g3, if_pos g3]
      unfold S_NH_quotient_ab_J33 F_NH_quotient_ab_J33
      unfold S_NH_quotient_ab_J34 F_NH_quotient_ab_J34
      have g4 : ¬ ((F_NH_need (0 : Int32)) = (0 : Int32)) := (by decide)
      rw [if_neg g4, if_neg g4]
      refine ⟨trivial, ?_⟩
      first | exact ⟨hd, hb⟩ | exact ⟨hd, hb2⟩ | exact ⟨hkd, hb2⟩
    ·
      rw [if_neg g3, if_neg g3]
      have g3r := v_isReg g3
      by_cases g5 : ((F_NH_isRegister x4) : Int32) = (0 : Int32)
      ·
        rw [if_pos g5, if_pos g5]
        unfold S_NH_quotient_ab_J33 F_NH_quotient_ab_J33
        unfold S_NH_quotient_ab_J34 F_NH_quotient_ab_J34
        have g6 : ¬ ((F_NH_need (0 : Int32)) = (0 : Int32)) := (by decide)
        rw [if_neg g6, if_neg g6]
        refine ⟨trivial, ?_⟩
        first | exact ⟨hd, hb⟩ | exact ⟨hd, hb2⟩ | exact ⟨hkd, hb2⟩
      ·
        rw [if_neg g5, if_neg g5]
        have g5r := v_isReg g5
        by_cases g7 : ((F_NH_isMode x6) : Int32) = (0 : Int32)
        ·
          rw [if_pos g7, if_pos g7]
          unfold S_NH_quotient_ab_J33 F_NH_quotient_ab_J33
          unfold S_NH_quotient_ab_J34 F_NH_quotient_ab_J34
          have g8 : ¬ ((F_NH_need (0 : Int32)) = (0 : Int32)) := (by decide)
          rw [if_neg g8, if_neg g8]
          refine ⟨trivial, ?_⟩
          first | exact ⟨hd, hb⟩ | exact ⟨hd, hb2⟩ | exact ⟨hkd, hb2⟩
        ·
          rw [if_neg g7, if_neg g7]
          unfold S_NH_quotient_ab_J34 F_NH_quotient_ab_J34
          have g9 : ((F_NH_need (1 : Int32)) = (0 : Int32)) := (by decide)
          rw [if_pos g9, if_pos g9]
          by_cases g10 : x5 < (0 : Int32)
          ·
            rw [if_pos g10, if_pos g10]
            have g10i : x5.toInt < 0 := q_ltI g10
            unfold S_NH_quotient_ab_J54 F_NH_quotient_ab_J54
            unfold S_NH_quotient_ab_J55 F_NH_quotient_ab_J55
            have g11 : ¬ ((F_NH_need (0 : Int32)) = (0 : Int32)) := (by decide)
            rw [if_neg g11, if_neg g11]
            refine ⟨trivial, ?_⟩
            first | exact ⟨hd, hb⟩ | exact ⟨hd, hb2⟩ | exact ⟨hkd, hb2⟩
          ·
            rw [if_neg g10, if_neg g10]
            have g10i : 0 ≤ x5.toInt := q_nltI g10
            by_cases g12 : (1000 : Int32) < x5
            ·
              rw [if_pos g12, if_pos g12]
              have g12i : 1000 < x5.toInt := q_ltI g12
              unfold S_NH_quotient_ab_J54 F_NH_quotient_ab_J54
              unfold S_NH_quotient_ab_J55 F_NH_quotient_ab_J55
              have g13 : ¬ ((F_NH_need (0 : Int32)) = (0 : Int32)) := (by decide)
              rw [if_neg g13, if_neg g13]
              refine ⟨trivial, ?_⟩
              first | exact ⟨hd, hb⟩ | exact ⟨hd, hb2⟩ | exact ⟨hkd, hb2⟩
            ·
              rw [if_neg g12, if_neg g12]
              have g12i : x5.toInt ≤ 1000 := q_nltI g12
              unfold S_NH_quotient_ab_J55 F_NH_quotient_ab_J55
              have g14 : ((F_NH_need (1 : Int32)) = (0 : Int32)) := (by decide)
              rw [if_pos g14, if_pos g14]
              refine v_cons (by omega) ?_
              refine v_cons (by omega) ?_
              by_cases g15 : t10_0 ≤ (0 : Int32)
              ·
                rw [if_pos g15, if_pos g15]
                have g15i : t10_0.toInt ≤ 0 := q_leI g15
                unfold S_NH_quotient_ab_J78 F_NH_quotient_ab_J78
                have g16 : ¬ ((F_NH_canHave (0 : Int32)) = (0 : Int32)) := (by decide)
                rw [if_neg g16, if_neg g16]
                refine ⟨trivial, ?_⟩
                first | exact ⟨hd, hb⟩ | exact ⟨hd, hb2⟩ | exact ⟨hkd, hb2⟩
              ·
                rw [if_neg g15, if_neg g15]
                have g15i : 0 < t10_0.toInt := q_nleI g15
                unfold S_NH_quotient_ab_J78 F_NH_quotient_ab_J78
                have g17 : ((F_NH_canHave (1 : Int32)) = (0 : Int32)) := (by decide)
                rw [if_pos g17, if_pos g17]
                refine v_cons (by omega) ?_
                refine v_cons (by omega) ?_
                have h18 := T_divideToPrecision_a (R2 := (108 : Int32)) (x4 := x5) (x5 := x6) (t0_0 := t0_0) (t0_1 := t0_1) (t1_0 := t1_0) (t1_1 := t1_1) (t2_0 := t2_0) (t3_0 := t3_0) (t3_1 := t3_1) (t4_0 := t4_0) (t5_0 := t5_0) (t5_1 := t5_1) (t6_0 := t6_0) (t7_0 := t7_0) (t7_1 := t7_1) (t8_0 := t8_0) (t9_0 := t9_0) (t9_1 := t9_1) (t10_0 := t10_0) (t10_1 := t10_1) (t11_0 := t11_0) hb (by first | assumption | omega | trivial | decide) (by first | assumption | omega | trivial | decide) trivial trivial trivial
                refine v_owe h18.1 ?_
                replace h18 := h18.2
                generalize F_DW_divideToPrecision_a (108 : Int32) x5 x6 t0_0 t0_1 t1_0 t1_1 t2_0 t3_0 t3_1 t4_0 t5_0 t5_1 t6_0 t7_0 t7_1 t8_0 t9_0 t9_1 t10_0 t10_1 t11_0 = p248 at h18 ⊢
                unfold S_NH_quotient_ab_c101 F_NH_quotient_ab_c101
                rcases h18 with ⟨h180 | ⟨h181, h18k⟩, h18g⟩
                ·
                  have hb2 : dO 108 p248.2.2.2.2.2.2.2.2.2.2.2.2.2.2.2.1 p248.2.2.2.2.2.2.2.2.2.2.2.2.2.2.2.2.1 p248.2.2.2.2.2.2.2.2.2.2.2.2.2.2.2.2.2 t9_0 t9_1 vb := ⟨h18g.2.2.2.2, hb.2⟩
                  have g19 : ¬ ((F_NH_canHave (p248.1 : Int32)) = (0 : Int32)) := (by rw [h180]; decide)
                  rw [if_neg g19, if_neg g19]
                  refine ⟨trivial, ?_⟩
                  first | exact ⟨hd, hb⟩ | exact ⟨hd, hb2⟩ | exact ⟨hkd, hb2⟩
                ·
                  have hb2 : dO 108 p248.2.2.2.2.2.2.2.2.2.2.2.2.2.2.2.1 p248.2.2.2.2.2.2.2.2.2.2.2.2.2.2.2.2.1 p248.2.2.2.2.2.2.2.2.2.2.2.2.2.2.2.2.2 t9_0 t9_1 vb := ⟨h18g.2.2.2.2, hb.2⟩
                  have g20 : ((F_NH_canHave (p248.1 : Int32)) = (0 : Int32)) := (by rw [h181]; decide)
                  rw [if_pos g20, if_pos g20]
                  have h21 := T_keepDecimal (x2 := x4) (t0_0 := (p248.2.1 : Int64)) (t0_1 := (p248.2.2.1 : Int32)) (t1_0 := (p248.2.2.2.1 : Int32)) (t1_1 := (p248.2.2.2.2.1 : Int32)) (t2_0 := (p248.2.2.2.2.2.1 : (Nat → Int32))) (t3_0 := (p248.2.2.2.2.2.2.2.2.2.2.2.2.1 : Int32)) (t3_1 := (p248.2.2.2.2.2.2.2.2.2.2.2.2.2.1 : Int32)) (t4_0 := (p248.2.2.2.2.2.2.2.2.2.2.2.2.2.2.1 : (Nat → Int32))) (t5_0 := t12_0) (t5_1 := t12_1) (t6_0 := t13_0) (t6_1 := t13_1) (t7_0 := t14_0) (by first | assumption | omega | trivial | decide) hd (by first | assumption | omega | trivial | decide) (by first | assumption | omega | trivial | decide)
                  refine v_owe h21.1 ?_
                  replace h21 := h21.2
                  generalize F_NH_keepDecimal x4 (p248.2.1 : Int64) (p248.2.2.1 : Int32) (p248.2.2.2.1 : Int32) (p248.2.2.2.2.1 : Int32) (p248.2.2.2.2.2.1 : (Nat → Int32)) (p248.2.2.2.2.2.2.2.2.2.2.2.2.1 : Int32) (p248.2.2.2.2.2.2.2.2.2.2.2.2.2.1 : Int32) (p248.2.2.2.2.2.2.2.2.2.2.2.2.2.2.1 : (Nat → Int32)) t12_0 t12_1 t13_0 t13_1 t14_0 = p303 at h21 ⊢
                  have hkd := h21
                  unfold S_NH_quotient_ab_c109 F_NH_quotient_ab_c109
                  by_cases g22 : p303.1 = (0 : Int32)
                  ·
                    rw [if_pos g22, if_pos g22]
                    have g22i : p303.1.toInt = 0 := q_eqI g22
                    refine ⟨trivial, ?_⟩
                    first | exact ⟨hd, hb⟩ | exact ⟨hd, hb2⟩ | exact ⟨hkd, hb2⟩
                  ·
                    rw [if_neg g22, if_neg g22]
                    have g22i : p303.1.toInt ≠ 0 := q_neI g22
                    refine ⟨trivial, ?_⟩
                    first | exact ⟨hd, hb⟩ | exact ⟨hd, hb2⟩ | exact ⟨hkd, hb2⟩
def Q_quotient_bt (p : Int32 × Int64 × Int32 × Int32 × Int32 × (Nat → Int32) × Int32 × Int32 × (Nat → Int32) × Int32 × Int32 × (Nat → Int32) × Int32 × Int32 × (Nat → Int32) × Int32 × Int32 × Int32 × Int32 × (Nat → Int32)) : Prop := rD p.2.2.2.2.2.2.2.2.2.2.2.2.2.2.2.2.2.1 p.2.2.2.2.2.2.2.2.2.2.2.2.2.2.2.2.2.2.1 p.2.2.2.2.2.2.2.2.2.2.2.2.2.2.2.2.2.2.2 p.2.2.2.2.2.2.2.2.2.2.2.2.2.2.2.1 p.2.2.2.2.2.2.2.2.2.2.2.2.2.2.2.2.1
theorem T_quotient_bt {x2 : Int32} {x3 : Int32} {x4 : Int32} {x5 : Int32} {x6 : Int32} {t0_0 : Int64} {t0_1 : Int32} {t1_0 : Int32} {t1_1 : Int32} {t2_0 : (Nat → Int32)} {t3_0 : Int32} {t3_1 : Int32} {t4_0 : (Nat → Int32)} {t5_0 : Int32} {t5_1 : Int32} {t6_0 : (Nat → Int32)} {t7_0 : Int32} {t7_1 : Int32} {t8_0 : (Nat → Int32)} {t9_0 : Int32} {t9_1 : Int32} {t10_0 : Int32} {t10_1 : Int32} {t11_0 : (Nat → Int32)} {t12_0 : Int32} {t12_1 : Int32} {t13_0 : Int32} {t13_1 : Int32} {t14_0 : (Nat → Int32)} {va vb : Int} (ha : dO 108 t10_0 t10_1 t11_0 t9_0 t9_1 va) (hb : dO 108 t13_0 t13_1 t14_0 t12_0 t12_1 vb) : (S_NH_quotient_bt x2 x3 x4 x5 x6 t0_0 t0_1 t1_0 t1_1 t2_0 t3_0 t3_1 t4_0 t5_0 t5_1 t6_0 t7_0 t7_1 t8_0 t9_0 t9_1 t10_0 t10_1 t11_0 t12_0 t12_1 t13_0 t13_1 t14_0) ∧ Q_quotient_bt (F_NH_quotient_bt x2 x3 x4 x5 x6 t0_0 t0_1 t1_0 t1_1 t2_0 t3_0 t3_1 t4_0 t5_0 t5_1 t6_0 t7_0 t7_1 t8_0 t9_0 t9_1 t10_0 t10_1 t11_0 t12_0 t12_1 t13_0 t13_1 t14_0) := by
  have e0 : (0 : Int32).toInt = 0 := rfl
  unfold S_NH_quotient_bt F_NH_quotient_bt
  by_cases g1 : ((F_NH_isRegister x2) : Int32) = (0 : Int32)
  ·
    rw [if_pos g1, if_pos g1]
    unfold S_NH_quotient_bt_J33 F_NH_quotient_bt_J33
    unfold S_NH_quotient_bt_J34 F_NH_quotient_bt_J34
    have g2 : ¬ ((F_NH_need (0 : Int32)) = (0 : Int32)) := (by decide)
    rw [if_neg g2, if_neg g2]
    refine ⟨trivial, ?_⟩
    first | exact ⟨vb, hb⟩ | exact hd2 | exact hkd
  ·
    rw [if_neg g1, if_neg g1]
    have g1r := v_isReg g1
    by_cases g3 : ((F_NH_isRegister x3) : Int32) = (0 : Int32)
    ·
      rw [if_pos g3, if_pos g3]
      unfold S_NH_quotient_bt_J33 F_NH_quotient_bt_J33
      unfold S_NH_quotient_bt_J34 F_NH_quotient_bt_J34
      have g4 : ¬ ((F_NH_need (0 : Int32)) = (0 : Int32)) := (by decide)
      rw [if_neg g4, if_neg g4]
      refine ⟨trivial, ?_⟩
      first | exact ⟨vb, hb⟩ | exact hd2 | exact hkd
    ·
      rw [if_neg g3, if_neg g3]
      have g3r := v_isReg g3
      by_cases g5 : ((F_NH_isRegister x4) : Int32) = (0 : Int32)
      ·
        rw [if_pos g5, if_pos g5]
        unfold S_NH_quotient_bt_J33 F_NH_quotient_bt_J33
        unfold S_NH_quotient_bt_J34 F_NH_quotient_bt_J34
        have g6 : ¬ ((F_NH_need (0 : Int32)) = (0 : Int32)) := (by decide)
        rw [if_neg g6, if_neg g6]
        refine ⟨trivial, ?_⟩
        first | exact ⟨vb, hb⟩ | exact hd2 | exact hkd
      ·
        rw [if_neg g5, if_neg g5]
        have g5r := v_isReg g5
        by_cases g7 : ((F_NH_isMode x6) : Int32) = (0 : Int32)
        ·
          rw [if_pos g7, if_pos g7]
          unfold S_NH_quotient_bt_J33 F_NH_quotient_bt_J33
          unfold S_NH_quotient_bt_J34 F_NH_quotient_bt_J34
          have g8 : ¬ ((F_NH_need (0 : Int32)) = (0 : Int32)) := (by decide)
          rw [if_neg g8, if_neg g8]
          refine ⟨trivial, ?_⟩
          first | exact ⟨vb, hb⟩ | exact hd2 | exact hkd
        ·
          rw [if_neg g7, if_neg g7]
          unfold S_NH_quotient_bt_J34 F_NH_quotient_bt_J34
          have g9 : ((F_NH_need (1 : Int32)) = (0 : Int32)) := (by decide)
          rw [if_pos g9, if_pos g9]
          by_cases g10 : x5 < (0 : Int32)
          ·
            rw [if_pos g10, if_pos g10]
            have g10i : x5.toInt < 0 := q_ltI g10
            unfold S_NH_quotient_bt_J54 F_NH_quotient_bt_J54
            unfold S_NH_quotient_bt_J55 F_NH_quotient_bt_J55
            have g11 : ¬ ((F_NH_need (0 : Int32)) = (0 : Int32)) := (by decide)
            rw [if_neg g11, if_neg g11]
            refine ⟨trivial, ?_⟩
            first | exact ⟨vb, hb⟩ | exact hd2 | exact hkd
          ·
            rw [if_neg g10, if_neg g10]
            have g10i : 0 ≤ x5.toInt := q_nltI g10
            by_cases g12 : (1000 : Int32) < x5
            ·
              rw [if_pos g12, if_pos g12]
              have g12i : 1000 < x5.toInt := q_ltI g12
              unfold S_NH_quotient_bt_J54 F_NH_quotient_bt_J54
              unfold S_NH_quotient_bt_J55 F_NH_quotient_bt_J55
              have g13 : ¬ ((F_NH_need (0 : Int32)) = (0 : Int32)) := (by decide)
              rw [if_neg g13, if_neg g13]
              refine ⟨trivial, ?_⟩
              first | exact ⟨vb, hb⟩ | exact hd2 | exact hkd
            ·
              rw [if_neg g12, if_neg g12]
              have g12i : x5.toInt ≤ 1000 := q_nltI g12
              unfold S_NH_quotient_bt_J55 F_NH_quotient_bt_J55
              have g14 : ((F_NH_need (1 : Int32)) = (0 : Int32)) := (by decide)
              rw [if_pos g14, if_pos g14]
              refine v_cons (by omega) ?_
              refine v_cons (by omega) ?_
              by_cases g15 : t13_0 ≤ (0 : Int32)
              ·
                rw [if_pos g15, if_pos g15]
                have g15i : t13_0.toInt ≤ 0 := q_leI g15
                unfold S_NH_quotient_bt_J78 F_NH_quotient_bt_J78
                have g16 : ¬ ((F_NH_canHave (0 : Int32)) = (0 : Int32)) := (by decide)
                rw [if_neg g16, if_neg g16]
                refine ⟨trivial, ?_⟩
                first | exact ⟨vb, hb⟩ | exact hd2 | exact hkd
              ·
                rw [if_neg g15, if_neg g15]
                have g15i : 0 < t13_0.toInt := q_nleI g15
                unfold S_NH_quotient_bt_J78 F_NH_quotient_bt_J78
                have g17 : ((F_NH_canHave (1 : Int32)) = (0 : Int32)) := (by decide)
                rw [if_pos g17, if_pos g17]
                refine v_cons (by omega) ?_
                refine v_cons (by omega) ?_
                have h18 := T_divideToPrecision (R := (108 : Int32)) (R2 := (108 : Int32)) (x4 := x5) (x5 := x6) (t0_0 := t0_0) (t0_1 := t0_1) (t1_0 := t1_0) (t1_1 := t1_1) (t2_0 := t2_0) (t3_0 := t3_0) (t3_1 := t3_1) (t4_0 := t4_0) (t5_0 := t5_0) (t5_1 := t5_1) (t6_0 := t6_0) (t7_0 := t7_0) (t7_1 := t7_1) (t8_0 := t8_0) (t9_0 := t9_0) (t9_1 := t9_1) (t10_0 := t10_0) (t10_1 := t10_1) (t11_0 := t11_0) (t12_0 := t12_0) (t12_1 := t12_1) (t13_0 := t13_0) (t13_1 := t13_1) (t14_0 := t14_0) ha hb (hb.1.pos.mp (by omega)) (by first | assumption | omega | trivial | decide) (by first | assumption | omega | trivial | decide) trivial trivial trivial
                refine v_owe h18.1 ?_
                replace h18 := h18.2
                generalize F_DW_divideToPrecision (108 : Int32) (108 : Int32) x5 x6 t0_0 t0_1 t1_0 t1_1 t2_0 t3_0 t3_1 t4_0 t5_0 t5_1 t6_0 t7_0 t7_1 t8_0 t9_0 t9_1 t10_0 t10_1 t11_0 t12_0 t12_1 t13_0 t13_1 t14_0 = p248 at h18 ⊢
                unfold S_NH_quotient_bt_c101 F_NH_quotient_bt_c101
                rcases h18 with ⟨h180 | ⟨h181, h18k⟩, h18g⟩
                ·
                  have hb2 : dO 108 p248.2.2.2.2.2.2.2.2.2.2.2.2.2.2.2.1 p248.2.2.2.2.2.2.2.2.2.2.2.2.2.2.2.2.1 p248.2.2.2.2.2.2.2.2.2.2.2.2.2.2.2.2.2 t12_0 t12_1 vb := ⟨h18g.2.2.2.2, hb.2⟩
                  have hd2 : rD p248.2.2.2.2.2.2.2.2.2.2.2.2.2.2.2.1 p248.2.2.2.2.2.2.2.2.2.2.2.2.2.2.2.2.1 p248.2.2.2.2.2.2.2.2.2.2.2.2.2.2.2.2.2 t12_0 t12_1 := ⟨vb, hb2⟩
                  have g19 : ¬ ((F_NH_canHave (p248.1 : Int32)) = (0 : Int32)) := (by rw [h180]; decide)
                  rw [if_neg g19, if_neg g19]
                  refine ⟨trivial, ?_⟩
                  first | exact ⟨vb, hb⟩ | exact hd2 | exact hkd
                ·
                  have hb2 : dO 108 p248.2.2.2.2.2.2.2.2.2.2.2.2.2.2.2.1 p248.2.2.2.2.2.2.2.2.2.2.2.2.2.2.2.2.1 p248.2.2.2.2.2.2.2.2.2.2.2.2.2.2.2.2.2 t12_0 t12_1 vb := ⟨h18g.2.2.2.2, hb.2⟩
                  have hd2 : rD p248.2.2.2.2.2.2.2.2.2.2.2.2.2.2.2.1 p248.2.2.2.2.2.2.2.2.2.2.2.2.2.2.2.2.1 p248.2.2.2.2.2.2.2.2.2.2.2.2.2.2.2.2.2 t12_0 t12_1 := ⟨vb, hb2⟩
                  have g20 : ((F_NH_canHave (p248.1 : Int32)) = (0 : Int32)) := (by rw [h181]; decide)
                  rw [if_pos g20, if_pos g20]
                  have h21 := T_keepDecimal (x2 := x4) (t0_0 := (p248.2.1 : Int64)) (t0_1 := (p248.2.2.1 : Int32)) (t1_0 := (p248.2.2.2.1 : Int32)) (t1_1 := (p248.2.2.2.2.1 : Int32)) (t2_0 := (p248.2.2.2.2.2.1 : (Nat → Int32))) (t3_0 := (p248.2.2.2.2.2.2.2.2.2.2.2.2.1 : Int32)) (t3_1 := (p248.2.2.2.2.2.2.2.2.2.2.2.2.2.1 : Int32)) (t4_0 := (p248.2.2.2.2.2.2.2.2.2.2.2.2.2.2.1 : (Nat → Int32))) (t5_0 := t12_0) (t5_1 := t12_1) (t6_0 := (p248.2.2.2.2.2.2.2.2.2.2.2.2.2.2.2.1 : Int32)) (t6_1 := (p248.2.2.2.2.2.2.2.2.2.2.2.2.2.2.2.2.1 : Int32)) (t7_0 := (p248.2.2.2.2.2.2.2.2.2.2.2.2.2.2.2.2.2 : (Nat → Int32))) (by first | assumption | omega | trivial | decide) hd2 (by first | assumption | omega | trivial | decide) (by first | assumption | omega | trivial | decide)
                  refine v_owe h21.1 ?_
                  replace h21 := h21.2
                  generalize F_NH_keepDecimal x4 (p248.2.1 : Int64) (p248.2.2.1 : Int32) (p248.2.2.2.1 : Int32) (p248.2.2.2.2.1 : Int32) (p248.2.2.2.2.2.1 : (Nat → Int32)) (p248.2.2.2.2.2.2.2.2.2.2.2.2.1 : Int32) (p248.2.2.2.2.2.2.2.2.2.2.2.2.2.1 : Int32) (p248.2.2.2.2.2.2.2.2.2.2.2.2.2.2.1 : (Nat → Int32)) t12_0 t12_1 (p248.2.2.2.2.2.2.2.2.2.2.2.2.2.2.2.1 : Int32) (p248.2.2.2.2.2.2.2.2.2.2.2.2.2.2.2.2.1 : Int32) (p248.2.2.2.2.2.2.2.2.2.2.2.2.2.2.2.2.2 : (Nat → Int32)) = p303 at h21 ⊢
                  have hkd := h21
                  unfold S_NH_quotient_bt_c109 F_NH_quotient_bt_c109
                  by_cases g22 : p303.1 = (0 : Int32)
                  ·
                    rw [if_pos g22, if_pos g22]
                    have g22i : p303.1.toInt = 0 := q_eqI g22
                    refine ⟨trivial, ?_⟩
                    first | exact ⟨vb, hb⟩ | exact hd2 | exact hkd
                  ·
                    rw [if_neg g22, if_neg g22]
                    have g22i : p303.1.toInt ≠ 0 := q_neI g22
                    refine ⟨trivial, ?_⟩
                    first | exact ⟨vb, hb⟩ | exact hd2 | exact hkd
def Q_quotient_abt (p : Int32 × Int64 × Int32 × Int32 × Int32 × (Nat → Int32) × Int32 × Int32 × (Nat → Int32) × Int32 × Int32 × (Nat → Int32) × Int32 × Int32 × (Nat → Int32) × Int32 × Int32 × Int32 × Int32 × (Nat → Int32)) : Prop := rD p.2.2.2.2.2.2.2.2.2.2.2.2.2.2.2.2.2.1 p.2.2.2.2.2.2.2.2.2.2.2.2.2.2.2.2.2.2.1 p.2.2.2.2.2.2.2.2.2.2.2.2.2.2.2.2.2.2.2 p.2.2.2.2.2.2.2.2.2.2.2.2.2.2.2.1 p.2.2.2.2.2.2.2.2.2.2.2.2.2.2.2.2.1
theorem T_quotient_abt {x2 : Int32} {x3 : Int32} {x4 : Int32} {x5 : Int32} {x6 : Int32} {t0_0 : Int64} {t0_1 : Int32} {t1_0 : Int32} {t1_1 : Int32} {t2_0 : (Nat → Int32)} {t3_0 : Int32} {t3_1 : Int32} {t4_0 : (Nat → Int32)} {t5_0 : Int32} {t5_1 : Int32} {t6_0 : (Nat → Int32)} {t7_0 : Int32} {t7_1 : Int32} {t8_0 : (Nat → Int32)} {t9_0 : Int32} {t9_1 : Int32} {t10_0 : Int32} {t10_1 : Int32} {t11_0 : (Nat → Int32)} {vb : Int} (hb : dO 108 t10_0 t10_1 t11_0 t9_0 t9_1 vb) : (S_NH_quotient_abt x2 x3 x4 x5 x6 t0_0 t0_1 t1_0 t1_1 t2_0 t3_0 t3_1 t4_0 t5_0 t5_1 t6_0 t7_0 t7_1 t8_0 t9_0 t9_1 t10_0 t10_1 t11_0) ∧ Q_quotient_abt (F_NH_quotient_abt x2 x3 x4 x5 x6 t0_0 t0_1 t1_0 t1_1 t2_0 t3_0 t3_1 t4_0 t5_0 t5_1 t6_0 t7_0 t7_1 t8_0 t9_0 t9_1 t10_0 t10_1 t11_0) := by
  have e0 : (0 : Int32).toInt = 0 := rfl
  unfold S_NH_quotient_abt F_NH_quotient_abt
  by_cases g1 : ((F_NH_isRegister x2) : Int32) = (0 : Int32)
  ·
    rw [if_pos g1, if_pos g1]
    unfold S_NH_quotient_abt_J33 F_NH_quotient_abt_J33
    unfold S_NH_quotient_abt_J34 F_NH_quotient_abt_J34
    have g2 : ¬ ((F_NH_need (0 : Int32)) = (0 : Int32)) := (by decide)
    rw [if_neg g2, if_neg g2]
    refine ⟨trivial, ?_⟩
    first | exact ⟨vb, hb⟩ | exact hd2 | exact hkd
  ·
    rw [if_neg g1, if_neg g1]
    have g1r := v_isReg g1
    by_cases g3 : ((F_NH_isRegister x3) : Int32) = (0 : Int32)
    ·
      rw [if_pos g3, if_pos g3]
      unfold S_NH_quotient_abt_J33 F_NH_quotient_abt_J33
      unfold S_NH_quotient_abt_J34 F_NH_quotient_abt_J34
      have g4 : ¬ ((F_NH_need (0 : Int32)) = (0 : Int32)) := (by decide)
      rw [if_neg g4, if_neg g4]
      refine ⟨trivial, ?_⟩
      first | exact ⟨vb, hb⟩ | exact hd2 | exact hkd
    ·
      rw [if_neg g3, if_neg g3]
      have g3r := v_isReg g3
      by_cases g5 : ((F_NH_isRegister x4) : Int32) = (0 : Int32)
      ·
        rw [if_pos g5, if_pos g5]
        unfold S_NH_quotient_abt_J33 F_NH_quotient_abt_J33
        unfold S_NH_quotient_abt_J34 F_NH_quotient_abt_J34
        have g6 : ¬ ((F_NH_need (0 : Int32)) = (0 : Int32)) := (by decide)
        rw [if_neg g6, if_neg g6]
        refine ⟨trivial, ?_⟩
        first | exact ⟨vb, hb⟩ | exact hd2 | exact hkd
      ·
        rw [if_neg g5, if_neg g5]
        have g5r := v_isReg g5
        by_cases g7 : ((F_NH_isMode x6) : Int32) = (0 : Int32)
        ·
          rw [if_pos g7, if_pos g7]
          unfold S_NH_quotient_abt_J33 F_NH_quotient_abt_J33
          unfold S_NH_quotient_abt_J34 F_NH_quotient_abt_J34
          have g8 : ¬ ((F_NH_need (0 : Int32)) = (0 : Int32)) := (by decide)
          rw [if_neg g8, if_neg g8]
          refine ⟨trivial, ?_⟩
          first | exact ⟨vb, hb⟩ | exact hd2 | exact hkd
        ·
          rw [if_neg g7, if_neg g7]
          unfold S_NH_quotient_abt_J34 F_NH_quotient_abt_J34
          have g9 : ((F_NH_need (1 : Int32)) = (0 : Int32)) := (by decide)
          rw [if_pos g9, if_pos g9]
          by_cases g10 : x5 < (0 : Int32)
          ·
            rw [if_pos g10, if_pos g10]
            have g10i : x5.toInt < 0 := q_ltI g10
            unfold S_NH_quotient_abt_J54 F_NH_quotient_abt_J54
            unfold S_NH_quotient_abt_J55 F_NH_quotient_abt_J55
            have g11 : ¬ ((F_NH_need (0 : Int32)) = (0 : Int32)) := (by decide)
            rw [if_neg g11, if_neg g11]
            refine ⟨trivial, ?_⟩
            first | exact ⟨vb, hb⟩ | exact hd2 | exact hkd
          ·
            rw [if_neg g10, if_neg g10]
            have g10i : 0 ≤ x5.toInt := q_nltI g10
            by_cases g12 : (1000 : Int32) < x5
            ·
              rw [if_pos g12, if_pos g12]
              have g12i : 1000 < x5.toInt := q_ltI g12
              unfold S_NH_quotient_abt_J54 F_NH_quotient_abt_J54
              unfold S_NH_quotient_abt_J55 F_NH_quotient_abt_J55
              have g13 : ¬ ((F_NH_need (0 : Int32)) = (0 : Int32)) := (by decide)
              rw [if_neg g13, if_neg g13]
              refine ⟨trivial, ?_⟩
              first | exact ⟨vb, hb⟩ | exact hd2 | exact hkd
            ·
              rw [if_neg g12, if_neg g12]
              have g12i : x5.toInt ≤ 1000 := q_nltI g12
              unfold S_NH_quotient_abt_J55 F_NH_quotient_abt_J55
              have g14 : ((F_NH_need (1 : Int32)) = (0 : Int32)) := (by decide)
              rw [if_pos g14, if_pos g14]
              refine v_cons (by omega) ?_
              refine v_cons (by omega) ?_
              by_cases g15 : t10_0 ≤ (0 : Int32)
              ·
                rw [if_pos g15, if_pos g15]
                have g15i : t10_0.toInt ≤ 0 := q_leI g15
                unfold S_NH_quotient_abt_J78 F_NH_quotient_abt_J78
                have g16 : ¬ ((F_NH_canHave (0 : Int32)) = (0 : Int32)) := (by decide)
                rw [if_neg g16, if_neg g16]
                refine ⟨trivial, ?_⟩
                first | exact ⟨vb, hb⟩ | exact hd2 | exact hkd
              ·
                rw [if_neg g15, if_neg g15]
                have g15i : 0 < t10_0.toInt := q_nleI g15
                unfold S_NH_quotient_abt_J78 F_NH_quotient_abt_J78
                have g17 : ((F_NH_canHave (1 : Int32)) = (0 : Int32)) := (by decide)
                rw [if_pos g17, if_pos g17]
                refine v_cons (by omega) ?_
                refine v_cons (by omega) ?_
                have h18 := T_divideToPrecision_a (R2 := (108 : Int32)) (x4 := x5) (x5 := x6) (t0_0 := t0_0) (t0_1 := t0_1) (t1_0 := t1_0) (t1_1 := t1_1) (t2_0 := t2_0) (t3_0 := t3_0) (t3_1 := t3_1) (t4_0 := t4_0) (t5_0 := t5_0) (t5_1 := t5_1) (t6_0 := t6_0) (t7_0 := t7_0) (t7_1 := t7_1) (t8_0 := t8_0) (t9_0 := t9_0) (t9_1 := t9_1) (t10_0 := t10_0) (t10_1 := t10_1) (t11_0 := t11_0) hb (by first | assumption | omega | trivial | decide) (by first | assumption | omega | trivial | decide) trivial trivial trivial
                refine v_owe h18.1 ?_
                replace h18 := h18.2
                generalize F_DW_divideToPrecision_a (108 : Int32) x5 x6 t0_0 t0_1 t1_0 t1_1 t2_0 t3_0 t3_1 t4_0 t5_0 t5_1 t6_0 t7_0 t7_1 t8_0 t9_0 t9_1 t10_0 t10_1 t11_0 = p226 at h18 ⊢
                unfold S_NH_quotient_abt_c101 F_NH_quotient_abt_c101
                rcases h18 with ⟨h180 | ⟨h181, h18k⟩, h18g⟩
                ·
                  have hb2 : dO 108 p226.2.2.2.2.2.2.2.2.2.2.2.2.2.2.2.1 p226.2.2.2.2.2.2.2.2.2.2.2.2.2.2.2.2.1 p226.2.2.2.2.2.2.2.2.2.2.2.2.2.2.2.2.2 t9_0 t9_1 vb := ⟨h18g.2.2.2.2, hb.2⟩
                  have hd2 : rD p226.2.2.2.2.2.2.2.2.2.2.2.2.2.2.2.1 p226.2.2.2.2.2.2.2.2.2.2.2.2.2.2.2.2.1 p226.2.2.2.2.2.2.2.2.2.2.2.2.2.2.2.2.2 t9_0 t9_1 := ⟨vb, hb2⟩
                  have g19 : ¬ ((F_NH_canHave (p226.1 : Int32)) = (0 : Int32)) := (by rw [h180]; decide)
                  rw [if_neg g19, if_neg g19]
                  refine ⟨trivial, ?_⟩
                  first | exact ⟨vb, hb⟩ | exact hd2 | exact hkd
                ·
                  have hb2 : dO 108 p226.2.2.2.2.2.2.2.2.2.2.2.2.2.2.2.1 p226.2.2.2.2.2.2.2.2.2.2.2.2.2.2.2.2.1 p226.2.2.2.2.2.2.2.2.2.2.2.2.2.2.2.2.2 t9_0 t9_1 vb := ⟨h18g.2.2.2.2, hb.2⟩
                  have hd2 : rD p226.2.2.2.2.2.2.2.2.2.2.2.2.2.2.2.1 p226.2.2.2.2.2.2.2.2.2.2.2.2.2.2.2.2.1 p226.2.2.2.2.2.2.2.2.2.2.2.2.2.2.2.2.2 t9_0 t9_1 := ⟨vb, hb2⟩
                  have g20 : ((F_NH_canHave (p226.1 : Int32)) = (0 : Int32)) := (by rw [h181]; decide)
                  rw [if_pos g20, if_pos g20]
                  have h21 := T_keepDecimal (x2 := x4) (t0_0 := (p226.2.1 : Int64)) (t0_1 := (p226.2.2.1 : Int32)) (t1_0 := (p226.2.2.2.1 : Int32)) (t1_1 := (p226.2.2.2.2.1 : Int32)) (t2_0 := (p226.2.2.2.2.2.1 : (Nat → Int32))) (t3_0 := (p226.2.2.2.2.2.2.2.2.2.2.2.2.1 : Int32)) (t3_1 := (p226.2.2.2.2.2.2.2.2.2.2.2.2.2.1 : Int32)) (t4_0 := (p226.2.2.2.2.2.2.2.2.2.2.2.2.2.2.1 : (Nat → Int32))) (t5_0 := t9_0) (t5_1 := t9_1) (t6_0 := (p226.2.2.2.2.2.2.2.2.2.2.2.2.2.2.2.1 : Int32)) (t6_1 := (p226.2.2.2.2.2.2.2.2.2.2.2.2.2.2.2.2.1 : Int32)) (t7_0 := (p226.2.2.2.2.2.2.2.2.2.2.2.2.2.2.2.2.2 : (Nat → Int32))) (by first | assumption | omega | trivial | decide) hd2 (by first | assumption | omega | trivial | decide) (by first | assumption | omega | trivial | decide)
                  refine v_owe h21.1 ?_
                  replace h21 := h21.2
                  generalize F_NH_keepDecimal x4 (p226.2.1 : Int64) (p226.2.2.1 : Int32) (p226.2.2.2.1 : Int32) (p226.2.2.2.2.1 : Int32) (p226.2.2.2.2.2.1 : (Nat → Int32)) (p226.2.2.2.2.2.2.2.2.2.2.2.2.1 : Int32) (p226.2.2.2.2.2.2.2.2.2.2.2.2.2.1 : Int32) (p226.2.2.2.2.2.2.2.2.2.2.2.2.2.2.1 : (Nat → Int32)) t9_0 t9_1 (p226.2.2.2.2.2.2.2.2.2.2.2.2.2.2.2.1 : Int32) (p226.2.2.2.2.2.2.2.2.2.2.2.2.2.2.2.2.1 : Int32) (p226.2.2.2.2.2.2.2.2.2.2.2.2.2.2.2.2.2 : (Nat → Int32)) = p281 at h21 ⊢
                  have hkd := h21
                  unfold S_NH_quotient_abt_c109 F_NH_quotient_abt_c109
                  by_cases g22 : p281.1 = (0 : Int32)
                  ·
                    rw [if_pos g22, if_pos g22]
                    have g22i : p281.1.toInt = 0 := q_eqI g22
                    refine ⟨trivial, ?_⟩
                    first | exact ⟨vb, hb⟩ | exact hd2 | exact hkd
                  ·
                    rw [if_neg g22, if_neg g22]
                    have g22i : p281.1.toInt ≠ 0 := q_neI g22
                    refine ⟨trivial, ?_⟩
                    first | exact ⟨vb, hb⟩ | exact hd2 | exact hkd

/-! what the calls keep: decimal -/
def Q_decimal (sc fc : Int32) (vb : Int) (p : Int32 × Int64 × Int32 × Int32 × Int32 × (Nat → Int32) × Int32 × Int32 × (Nat → Int32) × Int32 × Int32 × (Nat → Int32) × Int32 × Int32 × (Nat → Int32) × Int32 × Int32 × (Nat → Int32) × Int32 × Int32 × (Nat → Int32) × Int32 × Int32 × Int32 × Int32 × (Nat → Int32)) : Prop := rD p.2.2.2.2.2.2.2.2.2.2.2.2.2.2.2.2.2.2.2.2.2.2.2.1 p.2.2.2.2.2.2.2.2.2.2.2.2.2.2.2.2.2.2.2.2.2.2.2.2.1 p.2.2.2.2.2.2.2.2.2.2.2.2.2.2.2.2.2.2.2.2.2.2.2.2.2 p.2.2.2.2.2.2.2.2.2.2.2.2.2.2.2.2.2.2.2.2.2.1 p.2.2.2.2.2.2.2.2.2.2.2.2.2.2.2.2.2.2.2.2.2.2.1 ∧ dO 108 p.2.2.2.2.2.2.2.2.2.2.2.2.2.2.2.2.2.2.1 p.2.2.2.2.2.2.2.2.2.2.2.2.2.2.2.2.2.2.2.1 p.2.2.2.2.2.2.2.2.2.2.2.2.2.2.2.2.2.2.2.2.1 sc fc vb
theorem T_decimal {x2 : Int32} {x3 : Int32} {x4 : Int32} {x5 : Int32} {t0_0 : Int64} {t0_1 : Int32} {t1_0 : Int32} {t1_1 : Int32} {t2_0 : (Nat → Int32)} {t3_0 : Int32} {t3_1 : Int32} {t4_0 : (Nat → Int32)} {t5_0 : Int32} {t5_1 : Int32} {t6_0 : (Nat → Int32)} {t7_0 : Int32} {t7_1 : Int32} {t8_0 : (Nat → Int32)} {t9_0 : Int32} {t9_1 : Int32} {t10_0 : (Nat → Int32)} {t11_0 : Int32} {t11_1 : Int32} {t12_0 : Int32} {t12_1 : Int32} {t13_0 : (Nat → Int32)} {t14_0 : Int32} {t14_1 : Int32} {t15_0 : Int32} {t15_1 : Int32} {t16_0 : (Nat → Int32)} {t17_0 : Int32} {t17_1 : Int32} {t18_0 : Int32} {t18_1 : Int32} {t19_0 : (Nat → Int32)} {va vb : Int} (ha : dO 108 t12_0 t12_1 t13_0 t11_0 t11_1 va) (hb : dO 108 t15_0 t15_1 t16_0 t14_0 t14_1 vb) (hd : rD t18_0 t18_1 t19_0 t17_0 t17_1) : (S_NH_decimal x2 x3 x4 x5 t0_0 t0_1 t1_0 t1_1 t2_0 t3_0 t3_1 t4_0 t5_0 t5_1 t6_0 t7_0 t7_1 t8_0 t9_0 t9_1 t10_0 t11_0 t11_1 t12_0 t12_1 t13_0 t14_0 t14_1 t15_0 t15_1 t16_0 t17_0 t17_1 t18_0 t18_1 t19_0) ∧ Q_decimal t14_0 t14_1 vb (F_NH_decimal x2 x3 x4 x5 t0_0 t0_1 t1_0 t1_1 t2_0 t3_0 t3_1 t4_0 t5_0 t5_1 t6_0 t7_0 t7_1 t8_0 t9_0 t9_1 t10_0 t11_0 t11_1 t12_0 t12_1 t13_0 t14_0 t14_1 t15_0 t15_1 t16_0 t17_0 t17_1 t18_0 t18_1 t19_0) := by
  have e0 : (0 : Int32).toInt = 0 := rfl
  unfold S_NH_decimal F_NH_decimal
  by_cases g1 : x2 < (0 : Int32)
  ·
    rw [if_pos g1, if_pos g1]
    have g1i : x2.toInt < 0 := q_ltI g1
    unfold S_NH_decimal_J35 F_NH_decimal_J35
    unfold S_NH_decimal_J36 F_NH_decimal_J36
    have g2 : ¬ ((F_NH_need (0 : Int32)) = (0 : Int32)) := (by decide)
    rw [if_neg g2, if_neg g2]
    refine ⟨trivial, ?_⟩
    first | exact ⟨hd, hb⟩ | exact ⟨hkd, hb⟩ | exact ⟨hkd, hb2⟩
  ·
    rw [if_neg g1, if_neg g1]
    have g1i : 0 ≤ x2.toInt := q_nltI g1
    by_cases g3 : (3 : Int32) < x2
    ·
      rw [if_pos g3, if_pos g3]
      have g3i : 3 < x2.toInt := q_ltI g3
      unfold S_NH_decimal_J35 F_NH_decimal_J35
      unfold S_NH_decimal_J36 F_NH_decimal_J36
      have g4 : ¬ ((F_NH_need (0 : Int32)) = (0 : Int32)) := (by decide)
      rw [if_neg g4, if_neg g4]
      refine ⟨trivial, ?_⟩
      first | exact ⟨hd, hb⟩ | exact ⟨hkd, hb⟩ | exact ⟨hkd, hb2⟩
    ·
      rw [if_neg g3, if_neg g3]
      have g3i : x2.toInt ≤ 3 := q_nltI g3
      by_cases g5 : ((F_NH_isRegister x3) : Int32) = (0 : Int32)
      ·
        rw [if_pos g5, if_pos g5]
        unfold S_NH_decimal_J35 F_NH_decimal_J35
        unfold S_NH_decimal_J36 F_NH_decimal_J36
        have g6 : ¬ ((F_NH_need (0 : Int32)) = (0 : Int32)) := (by decide)
        rw [if_neg g6, if_neg g6]
        refine ⟨trivial, ?_⟩
        first | exact ⟨hd, hb⟩ | exact ⟨hkd, hb⟩ | exact ⟨hkd, hb2⟩
      ·
        rw [if_neg g5, if_neg g5]
        have g5r := v_isReg g5
        by_cases g7 : ((F_NH_isRegister x4) : Int32) = (0 : Int32)
        ·
          rw [if_pos g7, if_pos g7]
          unfold S_NH_decimal_J35 F_NH_decimal_J35
          unfold S_NH_decimal_J36 F_NH_decimal_J36
          have g8 : ¬ ((F_NH_need (0 : Int32)) = (0 : Int32)) := (by decide)
          rw [if_neg g8, if_neg g8]
          refine ⟨trivial, ?_⟩
          first | exact ⟨hd, hb⟩ | exact ⟨hkd, hb⟩ | exact ⟨hkd, hb2⟩
        ·
          rw [if_neg g7, if_neg g7]
          have g7r := v_isReg g7
          by_cases g9 : ((F_NH_isRegister x5) : Int32) = (0 : Int32)
          ·
            rw [if_pos g9, if_pos g9]
            unfold S_NH_decimal_J35 F_NH_decimal_J35
            unfold S_NH_decimal_J36 F_NH_decimal_J36
            have g10 : ¬ ((F_NH_need (0 : Int32)) = (0 : Int32)) := (by decide)
            rw [if_neg g10, if_neg g10]
            refine ⟨trivial, ?_⟩
            first | exact ⟨hd, hb⟩ | exact ⟨hkd, hb⟩ | exact ⟨hkd, hb2⟩
          ·
            rw [if_neg g9, if_neg g9]
            have g9r := v_isReg g9
            unfold S_NH_decimal_J36 F_NH_decimal_J36
            have g11 : ((F_NH_need (1 : Int32)) = (0 : Int32)) := (by decide)
            rw [if_pos g11, if_pos g11]
            refine v_cons (by omega) ?_
            refine v_cons (by omega) ?_
            refine v_cons (by omega) ?_
            refine v_cons (by omega) ?_
            by_cases g12 : (1 : Int32) < x2
            ·
              rw [if_pos g12, if_pos g12]
              have g12i : 1 < x2.toInt := q_ltI g12
              by_cases g13 : x2 = (2 : Int32)
              ·
                rw [if_pos g13, if_pos g13]
                have g13i : x2.toInt = 2 := q_eqI g13
                have h14 := T_multiply (R := (108 : Int32)) (R2 := (108 : Int32)) (t0_0 := t0_0) (t0_1 := t0_1) (t1_0 := t1_0) (t1_1 := t1_1) (t2_0 := t2_0) (t3_0 := t11_0) (t3_1 := t11_1) (t4_0 := t12_0) (t4_1 := t12_1) (t5_0 := t13_0) (t6_0 := t14_0) (t6_1 := t14_1) (t7_0 := t15_0) (t7_1 := t15_1) (t8_0 := t16_0) ha hb
                generalize F_DW_multiply (108 : Int32) (108 : Int32) t0_0 t0_1 t1_0 t1_1 t2_0 t11_0 t11_1 t12_0 t12_1 t13_0 t14_0 t14_1 t15_0 t15_1 t16_0 = p527 at h14 ⊢
                have hk := h14
                unfold S_NH_decimal_c100 F_NH_decimal_c100
                have h15 := T_keepDecimal (x2 := x5) (t0_0 := (p527.1 : Int64)) (t0_1 := (p527.2.1 : Int32)) (t1_0 := (p527.2.2.1 : Int32)) (t1_1 := (p527.2.2.2.1 : Int32)) (t2_0 := (p527.2.2.2.2 : (Nat → Int32))) (t3_0 := t9_0) (t3_1 := t9_1) (t4_0 := t10_0) (t5_0 := t17_0) (t5_1 := t17_1) (t6_0 := t18_0) (t6_1 := t18_1) (t7_0 := t19_0) hk (by first | exact hd | exact hd2) (by first | assumption | omega | trivial | decide) (by first | assumption | omega | trivial | decide)
                refine v_owe h15.1 ?_
                replace h15 := h15.2
                generalize F_NH_keepDecimal x5 (p527.1 : Int64) (p527.2.1 : Int32) (p527.2.2.1 : Int32) (p527.2.2.2.1 : Int32) (p527.2.2.2.2 : (Nat → Int32)) t9_0 t9_1 t10_0 t17_0 t17_1 t18_0 t18_1 t19_0 = p560 at h15 ⊢
                have hkd := h15
                unfold S_NH_decimal_c139_7 F_NH_decimal_c139_7
                by_cases g16 : p560.1 = (0 : Int32)
                ·
                  rw [if_pos g16, if_pos g16]
                  have g16i : p560.1.toInt = 0 := q_eqI g16
                  refine ⟨trivial, ?_⟩
                  first | exact ⟨hd, hb⟩ | exact ⟨hkd, hb⟩ | exact ⟨hkd, hb2⟩
                ·
                  rw [if_neg g16, if_neg g16]
                  have g16i : p560.1.toInt ≠ 0 := q_neI g16
                  refine ⟨trivial, ?_⟩
                  first | exact ⟨hd, hb⟩ | exact ⟨hkd, hb⟩ | exact ⟨hkd, hb2⟩
              ·
                rw [if_neg g13, if_neg g13]
                have g13i : x2.toInt ≠ 2 := q_neI g13
                by_cases g17 : t15_0 ≤ (0 : Int32)
                ·
                  rw [if_pos g17, if_pos g17]
                  have g17i : t15_0.toInt ≤ 0 := q_leI g17
                  have g18 : ¬ ((F_NH_canHave (0 : Int32)) = (0 : Int32)) := (by decide)
                  rw [if_neg g18, if_neg g18]
                  refine ⟨trivial, ?_⟩
                  first | exact ⟨hd, hb⟩ | exact ⟨hkd, hb⟩ | exact ⟨hkd, hb2⟩
                ·
                  rw [if_neg g17, if_neg g17]
                  have g17i : 0 < t15_0.toInt := q_nleI g17
                  have g19 : ((F_NH_canHave (1 : Int32)) = (0 : Int32)) := (by decide)
                  rw [if_pos g19, if_pos g19]
                  have h20 := T_rest (R := (108 : Int32)) (R2 := (108 : Int32)) (t0_0 := t0_0) (t0_1 := t0_1) (t1_0 := t1_0) (t1_1 := t1_1) (t2_0 := t2_0) (t3_0 := t3_0) (t3_1 := t3_1) (t4_0 := t4_0) (t5_0 := t5_0) (t5_1 := t5_1) (t6_0 := t6_0) (t7_0 := t7_0) (t7_1 := t7_1) (t8_0 := t8_0) (t9_0 := t11_0) (t9_1 := t11_1) (t10_0 := t12_0) (t10_1 := t12_1) (t11_0 := t13_0) (t12_0 := t14_0) (t12_1 := t14_1) (t13_0 := t15_0) (t13_1 := t15_1) (t14_0 := t16_0) ha hb (hb.1.pos.mp (by omega)) trivial trivial trivial
                  refine v_owe h20.1 ?_
                  replace h20 := h20.2
                  generalize F_DW_rest (108 : Int32) (108 : Int32) t0_0 t0_1 t1_0 t1_1 t2_0 t3_0 t3_1 t4_0 t5_0 t5_1 t6_0 t7_0 t7_1 t8_0 t11_0 t11_1 t12_0 t12_1 t13_0 t14_0 t14_1 t15_0 t15_1 t16_0 = p395 at h20 ⊢
                  have hk := h20.1
                  have hb2 : dO 108 p395.2.2.2.2.2.2.2.2.2.2.2.2.2.2.1 p395.2.2.2.2.2.2.2.2.2.2.2.2.2.2.2.1 p395.2.2.2.2.2.2.2.2.2.2.2.2.2.2.2.2 t14_0 t14_1 vb := ⟨h20.2.2.2.2, hb.2⟩
                  have hd2 : rD p395.2.2.2.2.2.2.2.2.2.2.2.2.2.2.1 p395.2.2.2.2.2.2.2.2.2.2.2.2.2.2.2.1 p395.2.2.2.2.2.2.2.2.2.2.2.2.2.2.2.2 t14_0 t14_1 := ⟨vb, hb2⟩
                  unfold S_NH_decimal_c133_4 F_NH_decimal_c133_4
                  have h21 := T_keepDecimal (x2 := x5) (t0_0 := (p395.1 : Int64)) (t0_1 := (p395.2.1 : Int32)) (t1_0 := (p395.2.2.1 : Int32)) (t1_1 := (p395.2.2.2.1 : Int32)) (t2_0 := (p395.2.2.2.2.1 : (Nat → Int32))) (t3_0 := t9_0) (t3_1 := t9_1) (t4_0 := t10_0) (t5_0 := t17_0) (t5_1 := t17_1) (t6_0 := t18_0) (t6_1 := t18_1) (t7_0 := t19_0) hk (by first | exact hd | exact hd2) (by first | assumption | omega | trivial | decide) (by first | assumption | omega | trivial | decide)
                  refine v_owe h21.1 ?_
                  replace h21 := h21.2
                  generalize F_NH_keepDecimal x5 (p395.1 : Int64) (p395.2.1 : Int32) (p395.2.2.1 : Int32) (p395.2.2.2.1 : Int32) (p395.2.2.2.2.1 : (Nat → Int32)) t9_0 t9_1 t10_0 t17_0 t17_1 t18_0 t18_1 t19_0 = p440 at h21 ⊢
                  have hkd := h21
                  unfold S_NH_decimal_c139_5 F_NH_decimal_c139_5
                  by_cases g22 : p440.1 = (0 : Int32)
                  ·
                    rw [if_pos g22, if_pos g22]
                    have g22i : p440.1.toInt = 0 := q_eqI g22
                    refine ⟨trivial, ?_⟩
                    first | exact ⟨hd, hb⟩ | exact ⟨hkd, hb⟩ | exact ⟨hkd, hb2⟩
                  ·
                    rw [if_neg g22, if_neg g22]
                    have g22i : p440.1.toInt ≠ 0 := q_neI g22
                    refine ⟨trivial, ?_⟩
                    first | exact ⟨hd, hb⟩ | exact ⟨hkd, hb⟩ | exact ⟨hkd, hb2⟩
            ·
              rw [if_neg g12, if_neg g12]
              have g12i : x2.toInt ≤ 1 := q_nltI g12
              by_cases g23 : x2 = (1 : Int32)
              ·
                rw [if_pos g23, if_pos g23]
                have g23i : x2.toInt = 1 := q_eqI g23
                have h24 := T_sum (R := (108 : Int32)) (R2 := (108 : Int32)) (x4 := (1 : Int32)) (t0_0 := t0_0) (t0_1 := t0_1) (t1_0 := t1_0) (t1_1 := t1_1) (t2_0 := t2_0) (t3_0 := t5_0) (t3_1 := t5_1) (t4_0 := t6_0) (t5_0 := t11_0) (t5_1 := t11_1) (t6_0 := t12_0) (t6_1 := t12_1) (t7_0 := t13_0) (t8_0 := t14_0) (t8_1 := t14_1) (t9_0 := t15_0) (t9_1 := t15_1) (t10_0 := t16_0) ha hb (by decide) trivial trivial
                generalize F_DW_sum (108 : Int32) (108 : Int32) (1 : Int32) t0_0 t0_1 t1_0 t1_1 t2_0 t5_0 t5_1 t6_0 t11_0 t11_1 t12_0 t12_1 t13_0 t14_0 t14_1 t15_0 t15_1 t16_0 = p804 at h24 ⊢
                unfold S_NH_decimal_c78_10 F_NH_decimal_c78_10
                rcases h24 with ⟨h240, _⟩ | ⟨h241, h24k, _⟩
                ·
                  have g25 : ¬ ((F_NH_canHave (p804.1 : Int32)) = (0 : Int32)) := (by rw [h240]; decide)
                  rw [if_neg g25, if_neg g25]
                  refine ⟨trivial, ?_⟩
                  first | exact ⟨hd, hb⟩ | exact ⟨hkd, hb⟩ | exact ⟨hkd, hb2⟩
                ·
                  have hk := h24k
                  have g26 : ((F_NH_canHave (p804.1 : Int32)) = (0 : Int32)) := (by rw [h241]; decide)
                  rw [if_pos g26, if_pos g26]
                  have h27 := T_keepDecimal (x2 := x5) (t0_0 := (p804.2.1 : Int64)) (t0_1 := (p804.2.2.1 : Int32)) (t1_0 := (p804.2.2.2.1 : Int32)) (t1_1 := (p804.2.2.2.2.1 : Int32)) (t2_0 := (p804.2.2.2.2.2.1 : (Nat → Int32))) (t3_0 := t9_0) (t3_1 := t9_1) (t4_0 := t10_0) (t5_0 := t17_0) (t5_1 := t17_1) (t6_0 := t18_0) (t6_1 := t18_1) (t7_0 := t19_0) hk (by first | exact hd | exact hd2) (by first | assumption | omega | trivial | decide) (by first | assumption | omega | trivial | decide)
                  refine v_owe h27.1 ?_
                  replace h27 := h27.2
                  generalize F_NH_keepDecimal x5 (p804.2.1 : Int64) (p804.2.2.1 : Int32) (p804.2.2.2.1 : Int32) (p804.2.2.2.2.1 : Int32) (p804.2.2.2.2.2.1 : (Nat → Int32)) t9_0 t9_1 t10_0 t17_0 t17_1 t18_0 t18_1 t19_0 = p850 at h27 ⊢
                  have hkd := h27
                  unfold S_NH_decimal_c139_11 F_NH_decimal_c139_11
                  by_cases g28 : p850.1 = (0 : Int32)
                  ·
                    rw [if_pos g28, if_pos g28]
                    have g28i : p850.1.toInt = 0 := q_eqI g28
                    refine ⟨trivial, ?_⟩
                    first | exact ⟨hd, hb⟩ | exact ⟨hkd, hb⟩ | exact ⟨hkd, hb2⟩
                  ·
                    rw [if_neg g28, if_neg g28]
                    have g28i : p850.1.toInt ≠ 0 := q_neI g28
                    refine ⟨trivial, ?_⟩
                    first | exact ⟨hd, hb⟩ | exact ⟨hkd, hb⟩ | exact ⟨hkd, hb2⟩
              ·
                rw [if_neg g23, if_neg g23]
                have g23i : x2.toInt ≠ 1 := q_neI g23
                have h29 := T_sum (R := (108 : Int32)) (R2 := (108 : Int32)) (x4 := (0 : Int32)) (t0_0 := t0_0) (t0_1 := t0_1) (t1_0 := t1_0) (t1_1 := t1_1) (t2_0 := t2_0) (t3_0 := t5_0) (t3_1 := t5_1) (t4_0 := t6_0) (t5_0 := t11_0) (t5_1 := t11_1) (t6_0 := t12_0) (t6_1 := t12_1) (t7_0 := t13_0) (t8_0 := t14_0) (t8_1 := t14_1) (t9_0 := t15_0) (t9_1 := t15_1) (t10_0 := t16_0) ha hb (by decide) trivial trivial
                generalize F_DW_sum (108 : Int32) (108 : Int32) (0 : Int32) t0_0 t0_1 t1_0 t1_1 t2_0 t5_0 t5_1 t6_0 t11_0 t11_1 t12_0 t12_1 t13_0 t14_0 t14_1 t15_0 t15_1 t16_0 = p660 at h29 ⊢
                unfold S_NH_decimal_c78 F_NH_decimal_c78
                rcases h29 with ⟨h290, _⟩ | ⟨h291, h29k, _⟩
                ·
                  have g30 : ¬ ((F_NH_canHave (p660.1 : Int32)) = (0 : Int32)) := (by rw [h290]; decide)
                  rw [if_neg g30, if_neg g30]
                  refine ⟨trivial, ?_⟩
                  first | exact ⟨hd, hb⟩ | exact ⟨hkd, hb⟩ | exact ⟨hkd, hb2⟩
                ·
                  have hk := h29k
                  have g31 : ((F_NH_canHave (p660.1 : Int32)) = (0 : Int32)) := (by rw [h291]; decide)
                  rw [if_pos g31, if_pos g31]
                  have h32 := T_keepDecimal (x2 := x5) (t0_0 := (p660.2.1 : Int64)) (t0_1 := (p660.2.2.1 : Int32)) (t1_0 := (p660.2.2.2.1 : Int32)) (t1_1 := (p660.2.2.2.2.1 : Int32)) (t2_0 := (p660.2.2.2.2.2.1 : (Nat → Int32))) (t3_0 := t9_0) (t3_1 := t9_1) (t4_0 := t10_0) (t5_0 := t17_0) (t5_1 := t17_1) (t6_0 := t18_0) (t6_1 := t18_1) (t7_0 := t19_0) hk (by first | exact hd | exact hd2) (by first | assumption | omega | trivial | decide) (by first | assumption | omega | trivial | decide)
                  refine v_owe h32.1 ?_
                  replace h32 := h32.2
                  generalize F_NH_keepDecimal x5 (p660.2.1 : Int64) (p660.2.2.1 : Int32) (p660.2.2.2.1 : Int32) (p660.2.2.2.2.1 : Int32) (p660.2.2.2.2.2.1 : (Nat → Int32)) t9_0 t9_1 t10_0 t17_0 t17_1 t18_0 t18_1 t19_0 = p706 at h32 ⊢
                  have hkd := h32
                  unfold S_NH_decimal_c139_9 F_NH_decimal_c139_9
                  by_cases g33 : p706.1 = (0 : Int32)
                  ·
                    rw [if_pos g33, if_pos g33]
                    have g33i : p706.1.toInt = 0 := q_eqI g33
                    refine ⟨trivial, ?_⟩
                    first | exact ⟨hd, hb⟩ | exact ⟨hkd, hb⟩ | exact ⟨hkd, hb2⟩
                  ·
                    rw [if_neg g33, if_neg g33]
                    have g33i : p706.1.toInt ≠ 0 := q_neI g33
                    refine ⟨trivial, ?_⟩
                    first | exact ⟨hd, hb⟩ | exact ⟨hkd, hb⟩ | exact ⟨hkd, hb2⟩
def Q_decimal_ab (p : Int32 × Int64 × Int32 × Int32 × Int32 × (Nat → Int32) × Int32 × Int32 × (Nat → Int32) × Int32 × Int32 × (Nat → Int32) × Int32 × Int32 × (Nat → Int32) × Int32 × Int32 × Int32 × Int32 × (Nat → Int32)) : Prop := rD p.2.2.2.2.2.2.2.2.2.2.2.2.2.2.2.2.2.1 p.2.2.2.2.2.2.2.2.2.2.2.2.2.2.2.2.2.2.1 p.2.2.2.2.2.2.2.2.2.2.2.2.2.2.2.2.2.2.2 p.2.2.2.2.2.2.2.2.2.2.2.2.2.2.2.1 p.2.2.2.2.2.2.2.2.2.2.2.2.2.2.2.2.1
theorem T_decimal_ab {x2 : Int32} {x3 : Int32} {x4 : Int32} {x5 : Int32} {t0_0 : Int64} {t0_1 : Int32} {t1_0 : Int32} {t1_1 : Int32} {t2_0 : (Nat → Int32)} {t3_0 : Int32} {t3_1 : Int32} {t4_0 : (Nat → Int32)} {t5_0 : Int32} {t5_1 : Int32} {t6_0 : (Nat → Int32)} {t7_0 : Int32} {t7_1 : Int32} {t8_0 : (Nat → Int32)} {t9_0 : Int32} {t9_1 : Int32} {t10_0 : (Nat → Int32)} {t11_0 : Int32} {t11_1 : Int32} {t12_0 : Int32} {t12_1 : Int32} {t13_0 : (Nat → Int32)} {t14_0 : Int32} {t14_1 : Int32} {t15_0 : Int32} {t15_1 : Int32} {t16_0 : (Nat → Int32)} {vb : Int} (hb : dO 108 t12_0 t12_1 t13_0 t11_0 t11_1 vb) (hd : rD t15_0 t15_1 t16_0 t14_0 t14_1) : (S_NH_decimal_ab x2 x3 x4 x5 t0_0 t0_1 t1_0 t1_1 t2_0 t3_0 t3_1 t4_0 t5_0 t5_1 t6_0 t7_0 t7_1 t8_0 t9_0 t9_1 t10_0 t11_0 t11_1 t12_0 t12_1 t13_0 t14_0 t14_1 t15_0 t15_1 t16_0) ∧ Q_decimal_ab (F_NH_decimal_ab x2 x3 x4 x5 t0_0 t0_1 t1_0 t1_1 t2_0 t3_0 t3_1 t4_0 t5_0 t5_1 t6_0 t7_0 t7_1 t8_0 t9_0 t9_1 t10_0 t11_0 t11_1 t12_0 t12_1 t13_0 t14_0 t14_1 t15_0 t15_1 t16_0) := by
  have e0 : (0 : Int32).toInt = 0 := rfl
  unfold S_NH_decimal_ab F_NH_decimal_ab
  by_cases g1 : x2 < (0 : Int32)
  ·
    rw [if_pos g1, if_pos g1]
    have g1i : x2.toInt < 0 := q_ltI g1
    unfold S_NH_decimal_ab_J35 F_NH_decimal_ab_J35
    unfold S_NH_decimal_ab_J36 F_NH_decimal_ab_J36
    have g2 : ¬ ((F_NH_need (0 : Int32)) = (0 : Int32)) := (by decide)
    rw [if_neg g2, if_neg g2]
    refine ⟨trivial, ?_⟩
    first | exact hd | exact hkd
  ·
    rw [if_neg g1, if_neg g1]
    have g1i : 0 ≤ x2.toInt := q_nltI g1
    by_cases g3 : (3 : Int32) < x2
    ·
      rw [if_pos g3, if_pos g3]
      have g3i : 3 < x2.toInt := q_ltI g3
      unfold S_NH_decimal_ab_J35 F_NH_decimal_ab_J35
      unfold S_NH_decimal_ab_J36 F_NH_decimal_ab_J36
      have g4 : ¬ ((F_NH_need (0 : Int32)) = (0 : Int32)) := (by decide)
      rw [if_neg g4, if_neg g4]
      refine ⟨trivial, ?_⟩
      first | exact hd | exact hkd
    ·
      rw [if_neg g3, if_neg g3]
      have g3i : x2.toInt ≤ 3 := q_nltI g3
      by_cases g5 : ((F_NH_isRegister x3) : Int32) = (0 : Int32)
      ·
        rw [if_pos g5, if_pos g5]
        unfold S_NH_decimal_ab_J35 F_NH_decimal_ab_J35
        unfold S_NH_decimal_ab_J36 F_NH_decimal_ab_J36
        have g6 : ¬ ((F_NH_need (0 : Int32)) = (0 : Int32)) := (by decide)
        rw [if_neg g6, if_neg g6]
        refine ⟨trivial, ?_⟩
        first | exact hd | exact hkd
      ·
        rw [if_neg g5, if_neg g5]
        have g5r := v_isReg g5
        by_cases g7 : ((F_NH_isRegister x4) : Int32) = (0 : Int32)
        ·
          rw [if_pos g7, if_pos g7]
          unfold S_NH_decimal_ab_J35 F_NH_decimal_ab_J35
          unfold S_NH_decimal_ab_J36 F_NH_decimal_ab_J36
          have g8 : ¬ ((F_NH_need (0 : Int32)) = (0 : Int32)) := (by decide)
          rw [if_neg g8, if_neg g8]
          refine ⟨trivial, ?_⟩
          first | exact hd | exact hkd
        ·
          rw [if_neg g7, if_neg g7]
          have g7r := v_isReg g7
          by_cases g9 : ((F_NH_isRegister x5) : Int32) = (0 : Int32)
          ·
            rw [if_pos g9, if_pos g9]
            unfold S_NH_decimal_ab_J35 F_NH_decimal_ab_J35
            unfold S_NH_decimal_ab_J36 F_NH_decimal_ab_J36
            have g10 : ¬ ((F_NH_need (0 : Int32)) = (0 : Int32)) := (by decide)
            rw [if_neg g10, if_neg g10]
            refine ⟨trivial, ?_⟩
            first | exact hd | exact hkd
          ·
            rw [if_neg g9, if_neg g9]
            have g9r := v_isReg g9
            unfold S_NH_decimal_ab_J36 F_NH_decimal_ab_J36
            have g11 : ((F_NH_need (1 : Int32)) = (0 : Int32)) := (by decide)
            rw [if_pos g11, if_pos g11]
            refine v_cons (by omega) ?_
            refine v_cons (by omega) ?_
            refine v_cons (by omega) ?_
            refine v_cons (by omega) ?_
            by_cases g12 : (1 : Int32) < x2
            ·
              rw [if_pos g12, if_pos g12]
              have g12i : 1 < x2.toInt := q_ltI g12
              by_cases g13 : x2 = (2 : Int32)
              ·
                rw [if_pos g13, if_pos g13]
                have g13i : x2.toInt = 2 := q_eqI g13
                have h14 := T_multiply (R := (108 : Int32)) (R2 := (108 : Int32)) (t0_0 := t0_0) (t0_1 := t0_1) (t1_0 := t1_0) (t1_1 := t1_1) (t2_0 := t2_0) (t3_0 := t11_0) (t3_1 := t11_1) (t4_0 := t12_0) (t4_1 := t12_1) (t5_0 := t13_0) (t6_0 := t11_0) (t6_1 := t11_1) (t7_0 := t12_0) (t7_1 := t12_1) (t8_0 := t13_0) hb hb
                generalize F_DW_multiply (108 : Int32) (108 : Int32) t0_0 t0_1 t1_0 t1_1 t2_0 t11_0 t11_1 t12_0 t12_1 t13_0 t11_0 t11_1 t12_0 t12_1 t13_0 = p449 at h14 ⊢
                have hk := h14
                unfold S_NH_decimal_ab_c100 F_NH_decimal_ab_c100
                have h15 := T_keepDecimal (x2 := x5) (t0_0 := (p449.1 : Int64)) (t0_1 := (p449.2.1 : Int32)) (t1_0 := (p449.2.2.1 : Int32)) (t1_1 := (p449.2.2.2.1 : Int32)) (t2_0 := (p449.2.2.2.2 : (Nat → Int32))) (t3_0 := t9_0) (t3_1 := t9_1) (t4_0 := t10_0) (t5_0 := t14_0) (t5_1 := t14_1) (t6_0 := t15_0) (t6_1 := t15_1) (t7_0 := t16_0) hk (by first | exact hd | exact hd2) (by first | assumption | omega | trivial | decide) (by first | assumption | omega | trivial | decide)
                refine v_owe h15.1 ?_
                replace h15 := h15.2
                generalize F_NH_keepDecimal x5 (p449.1 : Int64) (p449.2.1 : Int32) (p449.2.2.1 : Int32) (p449.2.2.2.1 : Int32) (p449.2.2.2.2 : (Nat → Int32)) t9_0 t9_1 t10_0 t14_0 t14_1 t15_0 t15_1 t16_0 = p482 at h15 ⊢
                have hkd := h15
                unfold S_NH_decimal_ab_c139_7 F_NH_decimal_ab_c139_7
                by_cases g16 : p482.1 = (0 : Int32)
                ·
                  rw [if_pos g16, if_pos g16]
                  have g16i : p482.1.toInt = 0 := q_eqI g16
                  refine ⟨trivial, ?_⟩
                  first | exact hd | exact hkd
                ·
                  rw [if_neg g16, if_neg g16]
                  have g16i : p482.1.toInt ≠ 0 := q_neI g16
                  refine ⟨trivial, ?_⟩
                  first | exact hd | exact hkd
              ·
                rw [if_neg g13, if_neg g13]
                have g13i : x2.toInt ≠ 2 := q_neI g13
                by_cases g17 : t12_0 ≤ (0 : Int32)
                ·
                  rw [if_pos g17, if_pos g17]
                  have g17i : t12_0.toInt ≤ 0 := q_leI g17
                  have g18 : ¬ ((F_NH_canHave (0 : Int32)) = (0 : Int32)) := (by decide)
                  rw [if_neg g18, if_neg g18]
                  refine ⟨trivial, ?_⟩
                  first | exact hd | exact hkd
                ·
                  rw [if_neg g17, if_neg g17]
                  have g17i : 0 < t12_0.toInt := q_nleI g17
                  have g19 : ((F_NH_canHave (1 : Int32)) = (0 : Int32)) := (by decide)
                  rw [if_pos g19, if_pos g19]
                  have h20 := T_rest_a (R2 := (108 : Int32)) (t0_0 := t0_0) (t0_1 := t0_1) (t1_0 := t1_0) (t1_1 := t1_1) (t2_0 := t2_0) (t3_0 := t3_0) (t3_1 := t3_1) (t4_0 := t4_0) (t5_0 := t5_0) (t5_1 := t5_1) (t6_0 := t6_0) (t7_0 := t7_0) (t7_1 := t7_1) (t8_0 := t8_0) (t9_0 := t11_0) (t9_1 := t11_1) (t10_0 := t12_0) (t10_1 := t12_1) (t11_0 := t13_0) hb (hb.1.pos.mp (by omega)) trivial trivial
                  refine v_owe h20.1 ?_
                  replace h20 := h20.2
                  generalize F_DW_rest_a (108 : Int32) t0_0 t0_1 t1_0 t1_1 t2_0 t3_0 t3_1 t4_0 t5_0 t5_1 t6_0 t7_0 t7_1 t8_0 t11_0 t11_1 t12_0 t12_1 t13_0 = p323 at h20 ⊢
                  have hk := h20.1
                  unfold S_NH_decimal_ab_c133_4 F_NH_decimal_ab_c133_4
                  have h21 := T_keepDecimal (x2 := x5) (t0_0 := (p323.1 : Int64)) (t0_1 := (p323.2.1 : Int32)) (t1_0 := (p323.2.2.1 : Int32)) (t1_1 := (p323.2.2.2.1 : Int32)) (t2_0 := (p323.2.2.2.2.1 : (Nat → Int32))) (t3_0 := t9_0) (t3_1 := t9_1) (t4_0 := t10_0) (t5_0 := t14_0) (t5_1 := t14_1) (t6_0 := t15_0) (t6_1 := t15_1) (t7_0 := t16_0) hk (by first | exact hd | exact hd2) (by first | assumption | omega | trivial | decide) (by first | assumption | omega | trivial | decide)
                  refine v_owe h21.1 ?_
                  replace h21 := h21.2
                  generalize F_NH_keepDecimal x5 (p323.1 : Int64) (p323.2.1 : Int32) (p323.2.2.1 : Int32) (p323.2.2.2.1 : Int32) (p323.2.2.2.2.1 : (Nat → Int32)) t9_0 t9_1 t10_0 t14_0 t14_1 t15_0 t15_1 t16_0 = p362 at h21 ⊢
                  have hkd := h21
                  unfold S_NH_decimal_ab_c139_5 F_NH_decimal_ab_c139_5
                  by_cases g22 : p362.1 = (0 : Int32)
                  ·
                    rw [if_pos g22, if_pos g22]
                    have g22i : p362.1.toInt = 0 := q_eqI g22
                    refine ⟨trivial, ?_⟩
                    first | exact hd | exact hkd
                  ·
                    rw [if_neg g22, if_neg g22]
                    have g22i : p362.1.toInt ≠ 0 := q_neI g22
                    refine ⟨trivial, ?_⟩
                    first | exact hd | exact hkd
            ·
              rw [if_neg g12, if_neg g12]
              have g12i : x2.toInt ≤ 1 := q_nltI g12
              by_cases g23 : x2 = (1 : Int32)
              ·
                rw [if_pos g23, if_pos g23]
                have g23i : x2.toInt = 1 := q_eqI g23
                have h24 := T_sum (R := (108 : Int32)) (R2 := (108 : Int32)) (x4 := (1 : Int32)) (t0_0 := t0_0) (t0_1 := t0_1) (t1_0 := t1_0) (t1_1 := t1_1) (t2_0 := t2_0) (t3_0 := t5_0) (t3_1 := t5_1) (t4_0 := t6_0) (t5_0 := t11_0) (t5_1 := t11_1) (t6_0 := t12_0) (t6_1 := t12_1) (t7_0 := t13_0) (t8_0 := t11_0) (t8_1 := t11_1) (t9_0 := t12_0) (t9_1 := t12_1) (t10_0 := t13_0) hb hb (by decide) trivial trivial
                generalize F_DW_sum (108 : Int32) (108 : Int32) (1 : Int32) t0_0 t0_1 t1_0 t1_1 t2_0 t5_0 t5_1 t6_0 t11_0 t11_1 t12_0 t12_1 t13_0 t11_0 t11_1 t12_0 t12_1 t13_0 = p726 at h24 ⊢
                unfold S_NH_decimal_ab_c78_10 F_NH_decimal_ab_c78_10
                rcases h24 with ⟨h240, _⟩ | ⟨h241, h24k, _⟩
                ·
                  have g25 : ¬ ((F_NH_canHave (p726.1 : Int32)) = (0 : Int32)) := (by rw [h240]; decide)
                  rw [if_neg g25, if_neg g25]
                  refine ⟨trivial, ?_⟩
                  first | exact hd | exact hkd
                ·
                  have hk := h24k
                  have g26 : ((F_NH_canHave (p726.1 : Int32)) = (0 : Int32)) := (by rw [h241]; decide)
                  rw [if_pos g26, if_pos g26]
                  have h27 := T_keepDecimal (x2 := x5) (t0_0 := (p726.2.1 : Int64)) (t0_1 := (p726.2.2.1 : Int32)) (t1_0 := (p726.2.2.2.1 : Int32)) (t1_1 := (p726.2.2.2.2.1 : Int32)) (t2_0 := (p726.2.2.2.2.2.1 : (Nat → Int32))) (t3_0 := t9_0) (t3_1 := t9_1) (t4_0 := t10_0) (t5_0 := t14_0) (t5_1 := t14_1) (t6_0 := t15_0) (t6_1 := t15_1) (t7_0 := t16_0) hk (by first | exact hd | exact hd2) (by first | assumption | omega | trivial | decide) (by first | assumption | omega | trivial | decide)
                  refine v_owe h27.1 ?_
                  replace h27 := h27.2
                  generalize F_NH_keepDecimal x5 (p726.2.1 : Int64) (p726.2.2.1 : Int32) (p726.2.2.2.1 : Int32) (p726.2.2.2.2.1 : Int32) (p726.2.2.2.2.2.1 : (Nat → Int32)) t9_0 t9_1 t10_0 t14_0 t14_1 t15_0 t15_1 t16_0 = p772 at h27 ⊢
                  have hkd := h27
                  unfold S_NH_decimal_ab_c139_11 F_NH_decimal_ab_c139_11
                  by_cases g28 : p772.1 = (0 : Int32)
                  ·
                    rw [if_pos g28, if_pos g28]
                    have g28i : p772.1.toInt = 0 := q_eqI g28
                    refine ⟨trivial, ?_⟩
                    first | exact hd | exact hkd
                  ·
                    rw [if_neg g28, if_neg g28]
                    have g28i : p772.1.toInt ≠ 0 := q_neI g28
                    refine ⟨trivial, ?_⟩
                    first | exact hd | exact hkd
              ·
                rw [if_neg g23, if_neg g23]
                have g23i : x2.toInt ≠ 1 := q_neI g23
                have h29 := T_sum (R := (108 : Int32)) (R2 := (108 : Int32)) (x4 := (0 : Int32)) (t0_0 := t0_0) (t0_1 := t0_1) (t1_0 := t1_0) (t1_1 := t1_1) (t2_0 := t2_0) (t3_0 := t5_0) (t3_1 := t5_1) (t4_0 := t6_0) (t5_0 := t11_0) (t5_1 := t11_1) (t6_0 := t12_0) (t6_1 := t12_1) (t7_0 := t13_0) (t8_0 := t11_0) (t8_1 := t11_1) (t9_0 := t12_0) (t9_1 := t12_1) (t10_0 := t13_0) hb hb (by decide) trivial trivial
                generalize F_DW_sum (108 : Int32) (108 : Int32) (0 : Int32) t0_0 t0_1 t1_0 t1_1 t2_0 t5_0 t5_1 t6_0 t11_0 t11_1 t12_0 t12_1 t13_0 t11_0 t11_1 t12_0 t12_1 t13_0 = p582 at h29 ⊢
                unfold S_NH_decimal_ab_c78 F_NH_decimal_ab_c78
                rcases h29 with ⟨h290, _⟩ | ⟨h291, h29k, _⟩
                ·
                  have g30 : ¬ ((F_NH_canHave (p582.1 : Int32)) = (0 : Int32)) := (by rw [h290]; decide)
                  rw [if_neg g30, if_neg g30]
                  refine ⟨trivial, ?_⟩
                  first | exact hd | exact hkd
                ·
                  have hk := h29k
                  have g31 : ((F_NH_canHave (p582.1 : Int32)) = (0 : Int32)) := (by rw [h291]; decide)
                  rw [if_pos g31, if_pos g31]
                  have h32 := T_keepDecimal (x2 := x5) (t0_0 := (p582.2.1 : Int64)) (t0_1 := (p582.2.2.1 : Int32)) (t1_0 := (p582.2.2.2.1 : Int32)) (t1_1 := (p582.2.2.2.2.1 : Int32)) (t2_0 := (p582.2.2.2.2.2.1 : (Nat → Int32))) (t3_0 := t9_0) (t3_1 := t9_1) (t4_0 := t10_0) (t5_0 := t14_0) (t5_1 := t14_1) (t6_0 := t15_0) (t6_1 := t15_1) (t7_0 := t16_0) hk (by first | exact hd | exact hd2) (by first | assumption | omega | trivial | decide) (by first | assumption | omega | trivial | decide)
                  refine v_owe h32.1 ?_
                  replace h32 := h32.2
                  generalize F_NH_keepDecimal x5 (p582.2.1 : Int64) (p582.2.2.1 : Int32) (p582.2.2.2.1 : Int32) (p582.2.2.2.2.1 : Int32) (p582.2.2.2.2.2.1 : (Nat → Int32)) t9_0 t9_1 t10_0 t14_0 t14_1 t15_0 t15_1 t16_0 = p628 at h32 ⊢
                  have hkd := h32
                  unfold S_NH_decimal_ab_c139_9 F_NH_decimal_ab_c139_9
                  by_cases g33 : p628.1 = (0 : Int32)
                  ·
                    rw [if_pos g33, if_pos g33]
                    have g33i : p628.1.toInt = 0 := q_eqI g33
                    refine ⟨trivial, ?_⟩
                    first | exact hd | exact hkd
                  ·
                    rw [if_neg g33, if_neg g33]
                    have g33i : p628.1.toInt ≠ 0 := q_neI g33
                    refine ⟨trivial, ?_⟩
                    first | exact hd | exact hkd
def Q_decimal_bt (p : Int32 × Int64 × Int32 × Int32 × Int32 × (Nat → Int32) × Int32 × Int32 × (Nat → Int32) × Int32 × Int32 × (Nat → Int32) × Int32 × Int32 × (Nat → Int32) × Int32 × Int32 × (Nat → Int32) × Int32 × Int32 × Int32 × Int32 × (Nat → Int32)) : Prop := rD p.2.2.2.2.2.2.2.2.2.2.2.2.2.2.2.2.2.2.2.2.1 p.2.2.2.2.2.2.2.2.2.2.2.2.2.2.2.2.2.2.2.2.2.1 p.2.2.2.2.2.2.2.2.2.2.2.2.2.2.2.2.2.2.2.2.2.2 p.2.2.2.2.2.2.2.2.2.2.2.2.2.2.2.2.2.2.1 p.2.2.2.2.2.2.2.2.2.2.2.2.2.2.2.2.2.2.2.1
theorem T_decimal_bt {x2 : Int32} {x3 : Int32} {x4 : Int32} {x5 : Int32} {t0_0 : Int64} {t0_1 : Int32} {t1_0 : Int32} {t1_1 : Int32} {t2_0 : (Nat → Int32)} {t3_0 : Int32} {t3_1 : Int32} {t4_0 : (Nat → Int32)} {t5_0 : Int32} {t5_1 : Int32} {t6_0 : (Nat → Int32)} {t7_0 : Int32} {t7_1 : Int32} {t8_0 : (Nat → Int32)} {t9_0 : Int32} {t9_1 : Int32} {t10_0 : (Nat → Int32)} {t11_0 : Int32} {t11_1 : Int32} {t12_0 : Int32} {t12_1 : Int32} {t13_0 : (Nat → Int32)} {t14_0 : Int32} {t14_1 : Int32} {t15_0 : Int32} {t15_1 : Int32} {t16_0 : (Nat → Int32)} {va vb : Int} (ha : dO 108 t12_0 t12_1 t13_0 t11_0 t11_1 va) (hb : dO 108 t15_0 t15_1 t16_0 t14_0 t14_1 vb) : (S_NH_decimal_bt x2 x3 x4 x5 t0_0 t0_1 t1_0 t1_1 t2_0 t3_0 t3_1 t4_0 t5_0 t5_1 t6_0 t7_0 t7_1 t8_0 t9_0 t9_1 t10_0 t11_0 t11_1 t12_0 t12_1 t13_0 t14_0 t14_1 t15_0 t15_1 t16_0) ∧ Q_decimal_bt (F_NH_decimal_bt x2 x3 x4 x5 t0_0 t0_1 t1_0 t1_1 t2_0 t3_0 t3_1 t4_0 t5_0 t5_1 t6_0 t7_0 t7_1 t8_0 t9_0 t9_1 t10_0 t11_0 t11_1 t12_0 t12_1 t13_0 t14_0 t14_1 t15_0 t15_1 t16_0) := by
  have e0 : (0 : Int32).toInt = 0 := rfl
  have hd : rD t15_0 t15_1 t16_0 t14_0 t14_1 := ⟨vb, hb⟩
  unfold S_NH_decimal_bt F_NH_decimal_bt
  by_cases g1 : x2 < (0 : Int32)
  ·
    rw [if_pos g1, if_pos g1]
    have g1i : x2.toInt < 0 := q_ltI g1
    unfold S_NH_decimal_bt_J35 F_NH_decimal_bt_J35
    unfold S_NH_decimal_bt_J36 F_NH_decimal_bt_J36
    have g2 : ¬ ((F_NH_need (0 : Int32)) = (0 : Int32)) := (by decide)
    rw [if_neg g2, if_neg g2]
    refine ⟨trivial, ?_⟩
    first | exact hd | exact hkd
  ·
    rw [if_neg g1, if_neg g1]
    have g1i : 0 ≤ x2.toInt := q_nltI g1
    by_cases g3 : (3 : Int32) < x2
    ·
      rw [if_pos g3, if_pos g3]
      have g3i : 3 < x2.toInt := q_ltI g3
      unfold S_NH_decimal_bt_J35 F_NH_decimal_bt_J35
      unfold S_NH_decimal_bt_J36 F_NH_decimal_bt_J36
      have g4 : ¬ ((F_NH_need (0 : Int32)) = (0 : Int32)) := (by decide)
      rw [if_neg g4, if_neg g4]
      refine ⟨trivial, ?_⟩
      first | exact hd | exact hkd
    ·
      rw [if_neg g3, if_neg g3]
      have g3i : x2.toInt ≤ 3 := q_nltI g3
      by_cases g5 : ((F_NH_isRegister x3) : Int32) = (0 : Int32)
      ·
        rw [if_pos g5, if_pos g5]
        unfold S_NH_decimal_bt_J35 F_NH_decimal_bt_J35
        unfold S_NH_decimal_bt_J36 F_NH_decimal_bt_J36
        have g6 : ¬ ((F_NH_need (0 : Int32)) = (0 : Int32)) := (by decide)
        rw [if_neg g6, if_neg g6]
        refine ⟨trivial, ?_⟩
        first | exact hd | exact hkd
      ·
        rw [if_neg g5, if_neg g5]
        have g5r := v_isReg g5
        by_cases g7 : ((F_NH_isRegister x4) : Int32) = (0 : Int32)
        ·
          rw [if_pos g7, if_pos g7]
          unfold S_NH_decimal_bt_J35 F_NH_decimal_bt_J35
          unfold S_NH_decimal_bt_J36 F_NH_decimal_bt_J36
          have g8 : ¬ ((F_NH_need (0 : Int32)) = (0 : Int32)) := (by decide)
          rw [if_neg g8, if_neg g8]
          refine ⟨trivial, ?_⟩
          first | exact hd | exact hkd
        ·
          rw [if_neg g7, if_neg g7]
          have g7r := v_isReg g7
          by_cases g9 : ((F_NH_isRegister x5) : Int32) = (0 : Int32)
          ·
            rw [if_pos g9, if_pos g9]
            unfold S_NH_decimal_bt_J35 F_NH_decimal_bt_J35
            unfold S_NH_decimal_bt_J36 F_NH_decimal_bt_J36
            have g10 : ¬ ((F_NH_need (0 : Int32)) = (0 : Int32)) := (by decide)
            rw [if_neg g10, if_neg g10]
            refine ⟨trivial, ?_⟩
            first | exact hd | exact hkd
          ·
            rw [if_neg g9, if_neg g9]
            have g9r := v_isReg g9
            unfold S_NH_decimal_bt_J36 F_NH_decimal_bt_J36
            have g11 : ((F_NH_need (1 : Int32)) = (0 : Int32)) := (by decide)
            rw [if_pos g11, if_pos g11]
            refine v_cons (by omega) ?_
            refine v_cons (by omega) ?_
            refine v_cons (by omega) ?_
            refine v_cons (by omega) ?_
            by_cases g12 : (1 : Int32) < x2
            ·
              rw [if_pos g12, if_pos g12]
              have g12i : 1 < x2.toInt := q_ltI g12
              by_cases g13 : x2 = (2 : Int32)
              ·
                rw [if_pos g13, if_pos g13]
                have g13i : x2.toInt = 2 := q_eqI g13
                have h14 := T_multiply (R := (108 : Int32)) (R2 := (108 : Int32)) (t0_0 := t0_0) (t0_1 := t0_1) (t1_0 := t1_0) (t1_1 := t1_1) (t2_0 := t2_0) (t3_0 := t11_0) (t3_1 := t11_1) (t4_0 := t12_0) (t4_1 := t12_1) (t5_0 := t13_0) (t6_0 := t14_0) (t6_1 := t14_1) (t7_0 := t15_0) (t7_1 := t15_1) (t8_0 := t16_0) ha hb
                generalize F_DW_multiply (108 : Int32) (108 : Int32) t0_0 t0_1 t1_0 t1_1 t2_0 t11_0 t11_1 t12_0 t12_1 t13_0 t14_0 t14_1 t15_0 t15_1 t16_0 = p511 at h14 ⊢
                have hk := h14
                unfold S_NH_decimal_bt_c100 F_NH_decimal_bt_c100
                have h15 := T_keepDecimal (x2 := x5) (t0_0 := (p511.1 : Int64)) (t0_1 := (p511.2.1 : Int32)) (t1_0 := (p511.2.2.1 : Int32)) (t1_1 := (p511.2.2.2.1 : Int32)) (t2_0 := (p511.2.2.2.2 : (Nat → Int32))) (t3_0 := t9_0) (t3_1 := t9_1) (t4_0 := t10_0) (t5_0 := t14_0) (t5_1 := t14_1) (t6_0 := t15_0) (t6_1 := t15_1) (t7_0 := t16_0) hk (by first | exact hd | exact hd2) (by first | assumption | omega | trivial | decide) (by first | assumption | omega | trivial | decide)
                refine v_owe h15.1 ?_
                replace h15 := h15.2
                generalize F_NH_keepDecimal x5 (p511.1 : Int64) (p511.2.1 : Int32) (p511.2.2.1 : Int32) (p511.2.2.2.1 : Int32) (p511.2.2.2.2 : (Nat → Int32)) t9_0 t9_1 t10_0 t14_0 t14_1 t15_0 t15_1 t16_0 = p544 at h15 ⊢
                have hkd := h15
                unfold S_NH_decimal_bt_c139_7 F_NH_decimal_bt_c139_7
                by_cases g16 : p544.1 = (0 : Int32)
                ·
                  rw [if_pos g16, if_pos g16]
                  have g16i : p544.1.toInt = 0 := q_eqI g16
                  refine ⟨trivial, ?_⟩
                  first | exact hd | exact hkd
                ·
                  rw [if_neg g16, if_neg g16]
                  have g16i : p544.1.toInt ≠ 0 := q_neI g16
                  refine ⟨trivial, ?_⟩
                  first | exact hd | exact hkd
              ·
                rw [if_neg g13, if_neg g13]
                have g13i : x2.toInt ≠ 2 := q_neI g13
                by_cases g17 : t15_0 ≤ (0 : Int32)
                ·
                  rw [if_pos g17, if_pos g17]
                  have g17i : t15_0.toInt ≤ 0 := q_leI g17
                  have g18 : ¬ ((F_NH_canHave (0 : Int32)) = (0 : Int32)) := (by decide)
                  rw [if_neg g18, if_neg g18]
                  refine ⟨trivial, ?_⟩
                  first | exact hd | exact hkd
                ·
                  rw [if_neg g17, if_neg g17]
                  have g17i : 0 < t15_0.toInt := q_nleI g17
                  have g19 : ((F_NH_canHave (1 : Int32)) = (0 : Int32)) := (by decide)
                  rw [if_pos g19, if_pos g19]
                  have h20 := T_rest (R := (108 : Int32)) (R2 := (108 : Int32)) (t0_0 := t0_0) (t0_1 := t0_1) (t1_0 := t1_0) (t1_1 := t1_1) (t2_0 := t2_0) (t3_0 := t3_0) (t3_1 := t3_1) (t4_0 := t4_0) (t5_0 := t5_0) (t5_1 := t5_1) (t6_0 := t6_0) (t7_0 := t7_0) (t7_1 := t7_1) (t8_0 := t8_0) (t9_0 := t11_0) (t9_1 := t11_1) (t10_0 := t12_0) (t10_1 := t12_1) (t11_0 := t13_0) (t12_0 := t14_0) (t12_1 := t14_1) (t13_0 := t15_0) (t13_1 := t15_1) (t14_0 := t16_0) ha hb (hb.1.pos.mp (by omega)) trivial trivial trivial
                  refine v_owe h20.1 ?_
                  replace h20 := h20.2
                  generalize F_DW_rest (108 : Int32) (108 : Int32) t0_0 t0_1 t1_0 t1_1 t2_0 t3_0 t3_1 t4_0 t5_0 t5_1 t6_0 t7_0 t7_1 t8_0 t11_0 t11_1 t12_0 t12_1 t13_0 t14_0 t14_1 t15_0 t15_1 t16_0 = p379 at h20 ⊢
                  have hk := h20.1
                  have hb2 : dO 108 p379.2.2.2.2.2.2.2.2.2.2.2.2.2.2.1 p379.2.2.2.2.2.2.2.2.2.2.2.2.2.2.2.1 p379.2.2.2.2.2.2.2.2.2.2.2.2.2.2.2.2 t14_0 t14_1 vb := ⟨h20.2.2.2.2, hb.2⟩
                  have hd2 : rD p379.2.2.2.2.2.2.2.2.2.2.2.2.2.2.1 p379.2.2.2.2.2.2.2.2.2.2.2.2.2.2.2.1 p379.2.2.2.2.2.2.2.2.2.2.2.2.2.2.2.2 t14_0 t14_1 := ⟨vb, hb2⟩
                  unfold S_NH_decimal_bt_c133_4 F_NH_decimal_bt_c133_4
                  have h21 := T_keepDecimal (x2 := x5) (t0_0 := (p379.1 : Int64)) (t0_1 := (p379.2.1 : Int32)) (t1_0 := (p379.2.2.1 : Int32)) (t1_1 := (p379.2.2.2.1 : Int32)) (t2_0 := (p379.2.2.2.2.1 : (Nat → Int32))) (t3_0 := t9_0) (t3_1 := t9_1) (t4_0 := t10_0) (t5_0 := t14_0) (t5_1 := t14_1) (t6_0 := (p379.2.2.2.2.2.2.2.2.2.2.2.2.2.2.1 : Int32)) (t6_1 := (p379.2.2.2.2.2.2.2.2.2.2.2.2.2.2.2.1 : Int32)) (t7_0 := (p379.2.2.2.2.2.2.2.2.2.2.2.2.2.2.2.2 : (Nat → Int32))) hk (by first | exact hd | exact hd2) (by first | assumption | omega | trivial | decide) (by first | assumption | omega | trivial | decide)
                  refine v_owe h21.1 ?_
                  replace h21 := h21.2
                  generalize F_NH_keepDecimal x5 (p379.1 : Int64) (p379.2.1 : Int32) (p379.2.2.1 : Int32) (p379.2.2.2.1 : Int32) (p379.2.2.2.2.1 : (Nat → Int32)) t9_0 t9_1 t10_0 t14_0 t14_1 (p379.2.2.2.2.2.2.2.2.2.2.2.2.2.2.1 : Int32) (p379.2.2.2.2.2.2.2.2.2.2.2.2.2.2.2.1 : Int32) (p379.2.2.2.2.2.2.2.2.2.2.2.2.2.2.2.2 : (Nat → Int32)) = p424 at h21 ⊢
                  have hkd := h21
                  unfold S_NH_decimal_bt_c139_5 F_NH_decimal_bt_c139_5
                  by_cases g22 : p424.1 = (0 : Int32)
                  ·
                    rw [if_pos g22, if_pos g22]
                    have g22i : p424.1.toInt = 0 := q_eqI g22
                    refine ⟨trivial, ?_⟩
                    first | exact hd | exact hkd
                  ·
                    rw [if_neg g22, if_neg g22]
                    have g22i : p424.1.toInt ≠ 0 := q_neI g22
                    refine ⟨trivial, ?_⟩
                    first | exact hd | exact hkd
            ·
              rw [if_neg g12, if_neg g12]
              have g12i : x2.toInt ≤ 1 := q_nltI g12
              by_cases g23 : x2 = (1 : Int32)
              ·
                rw [if_pos g23, if_pos g23]
                have g23i : x2.toInt = 1 := q_eqI g23
                have h24 := T_sum (R := (108 : Int32)) (R2 := (108 : Int32)) (x4 := (1 : Int32)) (t0_0 := t0_0) (t0_1 := t0_1) (t1_0 := t1_0) (t1_1 := t1_1) (t2_0 := t2_0) (t3_0 := t5_0) (t3_1 := t5_1) (t4_0 := t6_0) (t5_0 := t11_0) (t5_1 := t11_1) (t6_0 := t12_0) (t6_1 := t12_1) (t7_0 := t13_0) (t8_0 := t14_0) (t8_1 := t14_1) (t9_0 := t15_0) (t9_1 := t15_1) (t10_0 := t16_0) ha hb (by decide) trivial trivial
                generalize F_DW_sum (108 : Int32) (108 : Int32) (1 : Int32) t0_0 t0_1 t1_0 t1_1 t2_0 t5_0 t5_1 t6_0 t11_0 t11_1 t12_0 t12_1 t13_0 t14_0 t14_1 t15_0 t15_1 t16_0 = p788 at h24 ⊢
                unfold S_NH_decimal_bt_c78_10 F_NH_decimal_bt_c78_10
                rcases h24 with ⟨h240, _⟩ | ⟨h241, h24k, _⟩
                ·
                  have g25 : ¬ ((F_NH_canHave (p788.1 : Int32)) = (0 : Int32)) := (by rw [h240]; decide)
                  rw [if_neg g25, if_neg g25]
                  refine ⟨trivial, ?_⟩
                  first | exact hd | exact hkd
                ·
                  have hk := h24k
                  have g26 : ((F_NH_canHave (p788.1 : Int32)) = (0 : Int32)) := (by rw [h241]; decide)
                  rw [if_pos g26, if_pos g26]
                  have h27 := T_keepDecimal (x2 := x5) (t0_0 := (p788.2.1 : Int64)) (t0_1 := (p788.2.2.1 : Int32)) (t1_0 := (p788.2.2.2.1 : Int32)) (t1_1 := (p788.2.2.2.2.1 : Int32)) (t2_0 := (p788.2.2.2.2.2.1 : (Nat → Int32))) (t3_0 := t9_0) (t3_1 := t9_1) (t4_0 := t10_0) (t5_0 := t14_0) (t5_1 := t14_1) (t6_0 := t15_0) (t6_1 := t15_1) (t7_0 := t16_0) hk (by first | exact hd | exact hd2) (by first | assumption | omega | trivial | decide) (by first | assumption | omega | trivial | decide)
                  refine v_owe h27.1 ?_
                  replace h27 := h27.2
                  generalize F_NH_keepDecimal x5 (p788.2.1 : Int64) (p788.2.2.1 : Int32) (p788.2.2.2.1 : Int32) (p788.2.2.2.2.1 : Int32) (p788.2.2.2.2.2.1 : (Nat → Int32)) t9_0 t9_1 t10_0 t14_0 t14_1 t15_0 t15_1 t16_0 = p834 at h27 ⊢
                  have hkd := h27
                  unfold S_NH_decimal_bt_c139_11 F_NH_decimal_bt_c139_11
                  by_cases g28 : p834.1 = (0 : Int32)
                  ·
                    rw [if_pos g28, if_pos g28]
                    have g28i : p834.1.toInt = 0 := q_eqI g28
                    refine ⟨trivial, ?_⟩
                    first | exact hd | exact hkd
                  ·
                    rw [if_neg g28, if_neg g28]
                    have g28i : p834.1.toInt ≠ 0 := q_neI g28
                    refine ⟨trivial, ?_⟩
                    first | exact hd | exact hkd
              ·
                rw [if_neg g23, if_neg g23]
                have g23i : x2.toInt ≠ 1 := q_neI g23
                have h29 := T_sum (R := (108 : Int32)) (R2 := (108 : Int32)) (x4 := (0 : Int32)) (t0_0 := t0_0) (t0_1 := t0_1) (t1_0 := t1_0) (t1_1 := t1_1) (t2_0 := t2_0) (t3_0 := t5_0) (t3_1 := t5_1) (t4_0 := t6_0) (t5_0 := t11_0) (t5_1 := t11_1) (t6_0 := t12_0) (t6_1 := t12_1) (t7_0 := t13_0) (t8_0 := t14_0) (t8_1 := t14_1) (t9_0 := t15_0) (t9_1 := t15_1) (t10_0 := t16_0) ha hb (by decide) trivial trivial
                generalize F_DW_sum (108 : Int32) (108 : Int32) (0 : Int32) t0_0 t0_1 t1_0 t1_1 t2_0 t5_0 t5_1 t6_0 t11_0 t11_1 t12_0 t12_1 t13_0 t14_0 t14_1 t15_0 t15_1 t16_0 = p644 at h29 ⊢
                unfold S_NH_decimal_bt_c78 F_NH_decimal_bt_c78
                rcases h29 with ⟨h290, _⟩ | ⟨h291, h29k, _⟩
                ·
                  have g30 : ¬ ((F_NH_canHave (p644.1 : Int32)) = (0 : Int32)) := (by rw [h290]; decide)
                  rw [if_neg g30, if_neg g30]
                  refine ⟨trivial, ?_⟩
                  first | exact hd | exact hkd
                ·
                  have hk := h29k
                  have g31 : ((F_NH_canHave (p644.1 : Int32)) = (0 : Int32)) := (by rw [h291]; decide)
                  rw [if_pos g31, if_pos g31]
                  have h32 := T_keepDecimal (x2 := x5) (t0_0 := (p644.2.1 : Int64)) (t0_1 := (p644.2.2.1 : Int32)) (t1_0 := (p644.2.2.2.1 : Int32)) (t1_1 := (p644.2.2.2.2.1 : Int32)) (t2_0 := (p644.2.2.2.2.2.1 : (Nat → Int32))) (t3_0 := t9_0) (t3_1 := t9_1) (t4_0 := t10_0) (t5_0 := t14_0) (t5_1 := t14_1) (t6_0 := t15_0) (t6_1 := t15_1) (t7_0 := t16_0) hk (by first | exact hd | exact hd2) (by first | assumption | omega | trivial | decide) (by first | assumption | omega | trivial | decide)
                  refine v_owe h32.1 ?_
                  replace h32 := h32.2
                  generalize F_NH_keepDecimal x5 (p644.2.1 : Int64) (p644.2.2.1 : Int32) (p644.2.2.2.1 : Int32) (p644.2.2.2.2.1 : Int32) (p644.2.2.2.2.2.1 : (Nat → Int32)) t9_0 t9_1 t10_0 t14_0 t14_1 t15_0 t15_1 t16_0 = p690 at h32 ⊢
                  have hkd := h32
                  unfold S_NH_decimal_bt_c139_9 F_NH_decimal_bt_c139_9
                  by_cases g33 : p690.1 = (0 : Int32)
                  ·
                    rw [if_pos g33, if_pos g33]
                    have g33i : p690.1.toInt = 0 := q_eqI g33
                    refine ⟨trivial, ?_⟩
                    first | exact hd | exact hkd
                  ·
                    rw [if_neg g33, if_neg g33]
                    have g33i : p690.1.toInt ≠ 0 := q_neI g33
                    refine ⟨trivial, ?_⟩
                    first | exact hd | exact hkd
def Q_decimal_abt (p : Int32 × Int64 × Int32 × Int32 × Int32 × (Nat → Int32) × Int32 × Int32 × (Nat → Int32) × Int32 × Int32 × (Nat → Int32) × Int32 × Int32 × (Nat → Int32) × Int32 × Int32 × Int32 × Int32 × (Nat → Int32)) : Prop := rD p.2.2.2.2.2.2.2.2.2.2.2.2.2.2.2.2.2.1 p.2.2.2.2.2.2.2.2.2.2.2.2.2.2.2.2.2.2.1 p.2.2.2.2.2.2.2.2.2.2.2.2.2.2.2.2.2.2.2 p.2.2.2.2.2.2.2.2.2.2.2.2.2.2.2.1 p.2.2.2.2.2.2.2.2.2.2.2.2.2.2.2.2.1
theorem T_decimal_abt {x2 : Int32} {x3 : Int32} {x4 : Int32} {x5 : Int32} {t0_0 : Int64} {t0_1 : Int32} {t1_0 : Int32} {t1_1 : Int32} {t2_0 : (Nat → Int32)} {t3_0 : Int32} {t3_1 : Int32} {t4_0 : (Nat → Int32)} {t5_0 : Int32} {t5_1 : Int32} {t6_0 : (Nat → Int32)} {t7_0 : Int32} {t7_1 : Int32} {t8_0 : (Nat → Int32)} {t9_0 : Int32} {t9_1 : Int32} {t10_0 : (Nat → Int32)} {t11_0 : Int32} {t11_1 : Int32} {t12_0 : Int32} {t12_1 : Int32} {t13_0 : (Nat → Int32)} {vb : Int} (hb : dO 108 t12_0 t12_1 t13_0 t11_0 t11_1 vb) : (S_NH_decimal_abt x2 x3 x4 x5 t0_0 t0_1 t1_0 t1_1 t2_0 t3_0 t3_1 t4_0 t5_0 t5_1 t6_0 t7_0 t7_1 t8_0 t9_0 t9_1 t10_0 t11_0 t11_1 t12_0 t12_1 t13_0) ∧ Q_decimal_abt (F_NH_decimal_abt x2 x3 x4 x5 t0_0 t0_1 t1_0 t1_1 t2_0 t3_0 t3_1 t4_0 t5_0 t5_1 t6_0 t7_0 t7_1 t8_0 t9_0 t9_1 t10_0 t11_0 t11_1 t12_0 t12_1 t13_0) := by
  have e0 : (0 : Int32).toInt = 0 := rfl
  have hd : rD t12_0 t12_1 t13_0 t11_0 t11_1 := ⟨vb, hb⟩
  unfold S_NH_decimal_abt F_NH_decimal_abt
  by_cases g1 : x2 < (0 : Int32)
  ·
    rw [if_pos g1, if_pos g1]
    have g1i : x2.toInt < 0 := q_ltI g1
    unfold S_NH_decimal_abt_J35 F_NH_decimal_abt_J35
    unfold S_NH_decimal_abt_J36 F_NH_decimal_abt_J36
    have g2 : ¬ ((F_NH_need (0 : Int32)) = (0 : Int32)) := (by decide)
    rw [if_neg g2, if_neg g2]
    refine ⟨trivial, ?_⟩
    first | exact hd | exact hkd
  ·
    rw [if_neg g1, if_neg g1]
    have g1i : 0 ≤ x2.toInt := q_nltI g1
    by_cases g3 : (3 : Int32) < x2
    ·
      rw [if_pos g3, if_pos g3]
      have g3i : 3 < x2.toInt := q_ltI g3
      unfold S_NH_decimal_abt_J35 F_NH_decimal_abt_J35
      unfold S_NH_decimal_abt_J36 F_NH_decimal_abt_J36
      have g4 : ¬ ((F_NH_need (0 : Int32)) = (0 : Int32)) := (by decide)
      rw [if_neg g4, if_neg g4]
      refine ⟨trivial, ?_⟩
      first | exact hd | exact hkd
    ·
      rw [if_neg g3, if_neg g3]
      have g3i : x2.toInt ≤ 3 := q_nltI g3
      by_cases g5 : ((F_NH_isRegister x3) : Int32) = (0 : Int32)
      ·
        rw [if_pos g5, if_pos g5]
        unfold S_NH_decimal_abt_J35 F_NH_decimal_abt_J35
        unfold S_NH_decimal_abt_J36 F_NH_decimal_abt_J36
        have g6 : ¬ ((F_NH_need (0 : Int32)) = (0 : Int32)) := (by decide)
        rw [if_neg g6, if_neg g6]
        refine ⟨trivial, ?_⟩
        first | exact hd | exact hkd
      ·
        rw [if_neg g5, if_neg g5]
        have g5r := v_isReg g5
        by_cases g7 : ((F_NH_isRegister x4) : Int32) = (0 : Int32)
        ·
          rw [if_pos g7, if_pos g7]
          unfold S_NH_decimal_abt_J35 F_NH_decimal_abt_J35
          unfold S_NH_decimal_abt_J36 F_NH_decimal_abt_J36
          have g8 : ¬ ((F_NH_need (0 : Int32)) = (0 : Int32)) := (by decide)
          rw [if_neg g8, if_neg g8]
          refine ⟨trivial, ?_⟩
          first | exact hd | exact hkd
        ·
          rw [if_neg g7, if_neg g7]
          have g7r := v_isReg g7
          by_cases g9 : ((F_NH_isRegister x5) : Int32) = (0 : Int32)
          ·
            rw [if_pos g9, if_pos g9]
            unfold S_NH_decimal_abt_J35 F_NH_decimal_abt_J35
            unfold S_NH_decimal_abt_J36 F_NH_decimal_abt_J36
            have g10 : ¬ ((F_NH_need (0 : Int32)) = (0 : Int32)) := (by decide)
            rw [if_neg g10, if_neg g10]
            refine ⟨trivial, ?_⟩
            first | exact hd | exact hkd
          ·
            rw [if_neg g9, if_neg g9]
            have g9r := v_isReg g9
            unfold S_NH_decimal_abt_J36 F_NH_decimal_abt_J36
            have g11 : ((F_NH_need (1 : Int32)) = (0 : Int32)) := (by decide)
            rw [if_pos g11, if_pos g11]
            refine v_cons (by omega) ?_
            refine v_cons (by omega) ?_
            refine v_cons (by omega) ?_
            refine v_cons (by omega) ?_
            by_cases g12 : (1 : Int32) < x2
            ·
              rw [if_pos g12, if_pos g12]
              have g12i : 1 < x2.toInt := q_ltI g12
              by_cases g13 : x2 = (2 : Int32)
              ·
                rw [if_pos g13, if_pos g13]
                have g13i : x2.toInt = 2 := q_eqI g13
                have h14 := T_multiply (R := (108 : Int32)) (R2 := (108 : Int32)) (t0_0 := t0_0) (t0_1 := t0_1) (t1_0 := t1_0) (t1_1 := t1_1) (t2_0 := t2_0) (t3_0 := t11_0) (t3_1 := t11_1) (t4_0 := t12_0) (t4_1 := t12_1) (t5_0 := t13_0) (t6_0 := t11_0) (t6_1 := t11_1) (t7_0 := t12_0) (t7_1 := t12_1) (t8_0 := t13_0) hb hb
                generalize F_DW_multiply (108 : Int32) (108 : Int32) t0_0 t0_1 t1_0 t1_1 t2_0 t11_0 t11_1 t12_0 t12_1 t13_0 t11_0 t11_1 t12_0 t12_1 t13_0 = p433 at h14 ⊢
                have hk := h14
                unfold S_NH_decimal_abt_c100 F_NH_decimal_abt_c100
                have h15 := T_keepDecimal (x2 := x5) (t0_0 := (p433.1 : Int64)) (t0_1 := (p433.2.1 : Int32)) (t1_0 := (p433.2.2.1 : Int32)) (t1_1 := (p433.2.2.2.1 : Int32)) (t2_0 := (p433.2.2.2.2 : (Nat → Int32))) (t3_0 := t9_0) (t3_1 := t9_1) (t4_0 := t10_0) (t5_0 := t11_0) (t5_1 := t11_1) (t6_0 := t12_0) (t6_1 := t12_1) (t7_0 := t13_0) hk (by first | exact hd | exact hd2) (by first | assumption | omega | trivial | decide) (by first | assumption | omega | trivial | decide)
                refine v_owe h15.1 ?_
                replace h15 := h15.2
                generalize F_NH_keepDecimal x5 (p433.1 : Int64) (p433.2.1 : Int32) (p433.2.2.1 : Int32) (p433.2.2.2.1 : Int32) (p433.2.2.2.2 : (Nat → Int32)) t9_0 t9_1 t10_0 t11_0 t11_1 t12_0 t12_1 t13_0 = p466 at h15 ⊢
                have hkd := h15
                unfold S_NH_decimal_abt_c139_7 F_NH_decimal_abt_c139_7
                by_cases g16 : p466.1 = (0 : Int32)
                ·
                  rw [if_pos g16, if_pos g16]
                  have g16i : p466.1.toInt = 0 := q_eqI g16
                  refine ⟨trivial, ?_⟩
                  first | exact hd | exact hkd
                ·
                  rw [if_neg g16, if_neg g16]
                  have g16i : p466.1.toInt ≠ 0 := q_neI g16
                  refine ⟨trivial, ?_⟩
                  first | exact hd | exact hkd
              ·
                rw [if_neg g13, if_neg g13]
                have g13i : x2.toInt ≠ 2 := q_neI g13
                by_cases g17 : t12_0 ≤ (0 : Int32)
                ·
                  rw [if_pos g17, if_pos g17]
                  have g17i : t12_0.toInt ≤ 0 := q_leI g17
                  have g18 : ¬ ((F_NH_canHave (0 : Int32)) = (0 : Int32)) := (by decide)
                  rw [if_neg g18, if_neg g18]
                  refine ⟨trivial, ?_⟩
                  first | exact hd | exact hkd
                ·
                  rw [if_neg g17, if_neg g17]
                  have g17i : 0 < t12_0.toInt := q_nleI g17
                  have g19 : ((F_NH_canHave (1 : Int32)) = (0 : Int32)) := (by decide)
                  rw [if_pos g19, if_pos g19]
                  have h20 := T_rest_a (R2 := (108 : Int32)) (t0_0 := t0_0) (t0_1 := t0_1) (t1_0 := t1_0) (t1_1 := t1_1) (t2_0 := t2_0) (t3_0 := t3_0) (t3_1 := t3_1) (t4_0 := t4_0) (t5_0 := t5_0) (t5_1 := t5_1) (t6_0 := t6_0) (t7_0 := t7_0) (t7_1 := t7_1) (t8_0 := t8_0) (t9_0 := t11_0) (t9_1 := t11_1) (t10_0 := t12_0) (t10_1 := t12_1) (t11_0 := t13_0) hb (hb.1.pos.mp (by omega)) trivial trivial
                  refine v_owe h20.1 ?_
                  replace h20 := h20.2
                  generalize F_DW_rest_a (108 : Int32) t0_0 t0_1 t1_0 t1_1 t2_0 t3_0 t3_1 t4_0 t5_0 t5_1 t6_0 t7_0 t7_1 t8_0 t11_0 t11_1 t12_0 t12_1 t13_0 = p307 at h20 ⊢
                  have hk := h20.1
                  unfold S_NH_decimal_abt_c133_4 F_NH_decimal_abt_c133_4
                  have h21 := T_keepDecimal (x2 := x5) (t0_0 := (p307.1 : Int64)) (t0_1 := (p307.2.1 : Int32)) (t1_0 := (p307.2.2.1 : Int32)) (t1_1 := (p307.2.2.2.1 : Int32)) (t2_0 := (p307.2.2.2.2.1 : (Nat → Int32))) (t3_0 := t9_0) (t3_1 := t9_1) (t4_0 := t10_0) (t5_0 := t11_0) (t5_1 := t11_1) (t6_0 := t12_0) (t6_1 := t12_1) (t7_0 := t13_0) hk (by first | exact hd | exact hd2) (by first | assumption | omega | trivial | decide) (by first | assumption | omega | trivial | decide)
                  refine v_owe h21.1 ?_
                  replace h21 := h21.2
                  generalize F_NH_keepDecimal x5 (p307.1 : Int64) (p307.2.1 : Int32) (p307.2.2.1 : Int32) (p307.2.2.2.1 : Int32) (p307.2.2.2.2.1 : (Nat → Int32)) t9_0 t9_1 t10_0 t11_0 t11_1 t12_0 t12_1 t13_0 = p346 at h21 ⊢
                  have hkd := h21
                  unfold S_NH_decimal_abt_c139_5 F_NH_decimal_abt_c139_5
                  by_cases g22 : p346.1 = (0 : Int32)
                  ·
                    rw [if_pos g22, if_pos g22]
                    have g22i : p346.1.toInt = 0 := q_eqI g22
                    refine ⟨trivial, ?_⟩
                    first | exact hd | exact hkd
                  ·
                    rw [if_neg g22, if_neg g22]
                    have g22i : p346.1.toInt ≠ 0 := q_neI g22
                    refine ⟨trivial, ?_⟩
                    first | exact hd | exact hkd
            ·
              rw [if_neg g12, if_neg g12]
              have g12i : x2.toInt ≤ 1 := q_nltI g12
              by_cases g23 : x2 = (1 : Int32)
              ·
                rw [if_pos g23, if_pos g23]
                have g23i : x2.toInt = 1 := q_eqI g23
                have h24 := T_sum (R := (108 : Int32)) (R2 := (108 : Int32)) (x4 := (1 : Int32)) (t0_0 := t0_0) (t0_1 := t0_1) (t1_0 := t1_0) (t1_1 := t1_1) (t2_0 := t2_0) (t3_0 := t5_0) (t3_1 := t5_1) (t4_0 := t6_0) (t5_0 := t11_0) (t5_1 := t11_1) (t6_0 := t12_0) (t6_1 := t12_1) (t7_0 := t13_0) (t8_0 := t11_0) (t8_1 := t11_1) (t9_0 := t12_0) (t9_1 := t12_1) (t10_0 := t13_0) hb hb (by decide) trivial trivial
                generalize F_DW_sum (108 : Int32) (108 : Int32) (1 : Int32) t0_0 t0_1 t1_0 t1_1 t2_0 t5_0 t5_1 t6_0 t11_0 t11_1 t12_0 t12_1 t13_0 t11_0 t11_1 t12_0 t12_1 t13_0 = p710 at h24 ⊢
                unfold S_NH_decimal_abt_c78_10 F_NH_decimal_abt_c78_10
                rcases h24 with ⟨h240, _⟩ | ⟨h241, h24k, _⟩
                ·
                  have g25 : ¬ ((F_NH_canHave (p710.1 : Int32)) = (0 : Int32)) := (by rw [h240]; decide)
                  rw [if_neg g25, if_neg g25]
                  refine ⟨trivial, ?_⟩
                  first | exact hd | exact hkd
                ·
                  have hk := h24k
                  have g26 : ((F_NH_canHave (p710.1 : Int32)) = (0 : Int32)) := (by rw [h241]; decide)
                  rw [if_pos g26, if_pos g26]
                  have h27 := T_keepDecimal (x2 := x5) (t0_0 := (p710.2.1 : Int64)) (t0_1 := (p710.2.2.1 : Int32)) (t1_0 := (p710.2.2.2.1 : Int32)) (t1_1 := (p710.2.2.2.2.1 : Int32)) (t2_0 := (p710.2.2.2.2.2.1 : (Nat → Int32))) (t3_0 := t9_0) (t3_1 := t9_1) (t4_0 := t10_0) (t5_0 := t11_0) (t5_1 := t11_1) (t6_0 := t12_0) (t6_1 := t12_1) (t7_0 := t13_0) hk (by first | exact hd | exact hd2) (by first | assumption | omega | trivial | decide) (by first | assumption | omega | trivial | decide)
                  refine v_owe h27.1 ?_
                  replace h27 := h27.2
                  generalize F_NH_keepDecimal x5 (p710.2.1 : Int64) (p710.2.2.1 : Int32) (p710.2.2.2.1 : Int32) (p710.2.2.2.2.1 : Int32) (p710.2.2.2.2.2.1 : (Nat → Int32)) t9_0 t9_1 t10_0 t11_0 t11_1 t12_0 t12_1 t13_0 = p756 at h27 ⊢
                  have hkd := h27
                  unfold S_NH_decimal_abt_c139_11 F_NH_decimal_abt_c139_11
                  by_cases g28 : p756.1 = (0 : Int32)
                  ·
                    rw [if_pos g28, if_pos g28]
                    have g28i : p756.1.toInt = 0 := q_eqI g28
                    refine ⟨trivial, ?_⟩
                    first | exact hd | exact hkd
                  ·
                    rw [if_neg g28, if_neg g28]
                    have g28i : p756.1.toInt ≠ 0 := q_neI g28
                    refine ⟨trivial, ?_⟩
                    first | exact hd | exact hkd
              ·
                rw [if_neg g23, if_neg g23]
                have g23i : x2.toInt ≠ 1 := q_neI g23
                have h29 := T_sum (R := (108 : Int32)) (R2 := (108 : Int32)) (x4 := (0 : Int32)) (t0_0 := t0_0) (t0_1 := t0_1) (t1_0 := t1_0) (t1_1 := t1_1) (t2_0 := t2_0) (t3_0 := t5_0) (t3_1 := t5_1) (t4_0 := t6_0) (t5_0 := t11_0) (t5_1 := t11_1) (t6_0 := t12_0) (t6_1 := t12_1) (t7_0 := t13_0) (t8_0 := t11_0) (t8_1 := t11_1) (t9_0 := t12_0) (t9_1 := t12_1) (t10_0 := t13_0) hb hb (by decide) trivial trivial
                generalize F_DW_sum (108 : Int32) (108 : Int32) (0 : Int32) t0_0 t0_1 t1_0 t1_1 t2_0 t5_0 t5_1 t6_0 t11_0 t11_1 t12_0 t12_1 t13_0 t11_0 t11_1 t12_0 t12_1 t13_0 = p566 at h29 ⊢
                unfold S_NH_decimal_abt_c78 F_NH_decimal_abt_c78
                rcases h29 with ⟨h290, _⟩ | ⟨h291, h29k, _⟩
                ·
                  have g30 : ¬ ((F_NH_canHave (p566.1 : Int32)) = (0 : Int32)) := (by rw [h290]; decide)
                  rw [if_neg g30, if_neg g30]
                  refine ⟨trivial, ?_⟩
                  first | exact hd | exact hkd
                ·
                  have hk := h29k
                  have g31 : ((F_NH_canHave (p566.1 : Int32)) = (0 : Int32)) := (by rw [h291]; decide)
                  rw [if_pos g31, if_pos g31]
                  have h32 := T_keepDecimal (x2 := x5) (t0_0 := (p566.2.1 : Int64)) (t0_1 := (p566.2.2.1 : Int32)) (t1_0 := (p566.2.2.2.1 : Int32)) (t1_1 := (p566.2.2.2.2.1 : Int32)) (t2_0 := (p566.2.2.2.2.2.1 : (Nat → Int32))) (t3_0 := t9_0) (t3_1 := t9_1) (t4_0 := t10_0) (t5_0 := t11_0) (t5_1 := t11_1) (t6_0 := t12_0) (t6_1 := t12_1) (t7_0 := t13_0) hk (by first | exact hd | exact hd2) (by first | assumption | omega | trivial | decide) (by first | assumption | omega | trivial | decide)
                  refine v_owe h32.1 ?_
                  replace h32 := h32.2
                  generalize F_NH_keepDecimal x5 (p566.2.1 : Int64) (p566.2.2.1 : Int32) (p566.2.2.2.1 : Int32) (p566.2.2.2.2.1 : Int32) (p566.2.2.2.2.2.1 : (Nat → Int32)) t9_0 t9_1 t10_0 t11_0 t11_1 t12_0 t12_1 t13_0 = p612 at h32 ⊢
                  have hkd := h32
                  unfold S_NH_decimal_abt_c139_9 F_NH_decimal_abt_c139_9
                  by_cases g33 : p612.1 = (0 : Int32)
                  ·
                    rw [if_pos g33, if_pos g33]
                    have g33i : p612.1.toInt = 0 := q_eqI g33
                    refine ⟨trivial, ?_⟩
                    first | exact hd | exact hkd
                  ·
                    rw [if_neg g33, if_neg g33]
                    have g33i : p612.1.toInt ≠ 0 := q_neI g33
                    refine ⟨trivial, ?_⟩
                    first | exact hd | exact hkd

