/-! NumberHouseModel: read, put, told, compare -/
theorem nm_and32 {y : Int64} : 0 ≤ (y &&& 4294967295 : Int64).toInt ∧ (y &&& 4294967295 : Int64).toInt < 4294967296 := by
  have h := nm_and (y := y) (m := 4294967295) (by decide)
  have e : (4294967295 : Int64).toInt = 4294967295 := by decide
  omega
def Q_NM_read (p : Int32 × Int32 × Int32 × Int32 × Int32 × Int32 × Int32 × Int32 × Int32 × Int32 × (Nat → Int32) × (Nat → Int32) × (Nat → Int32) × (Nat → Int32) × Int32 × Int32 × Int32 × Int64 × Int32 × Int32 × Int32 × Int32 × Int32 × Int32 × Int32 × (Nat → Int32) × (Nat → Int32) × (Nat → Int32) × (Nat → Int32) × (Nat → Int32) × (Nat → Int32) × Int32 × Int32 × Int32 × Int32 × Int32 × Int32 × Int32 × Int64 × Int32 × Int32 × Int64 × Int64 × Int32 × Int32 × (Nat → Int32) × (Nat → Int32) × (Nat → Int32) × (Nat → Int64)) : Prop := wR p.2.2.2.2.2.2.2.2.2.2.2.1 p.2.2.2.2.2.2.2.2.2.2.2.2.1 ∧ gR p.2.2.2.2.2.2.2.2.2.2.2.2.2.2.2.2.2.2.2.2.2.2.2.2.2.2.1 p.2.2.2.2.2.2.2.2.2.2.2.2.2.2.2.2.2.2.2.2.2.2.2.2.2.2.2.1 p.2.2.2.2.2.2.2.2.2.2.2.2.2.2.2.2.2.2.2.2.2.2.2.2.2.2.2.2.1 p.2.2.2.2.2.2.2.2.2.2.2.2.2.2.2.2.2.2.2.2.2.2.2.2.2.2.2.2.2.1 ∧ nmB p.2.2.2.2.2.2.2.2.2.2.2.2.2.2.2.2.2.2.2.2.2.2.2.2.2.2.2.2.2.2.2.2.2.2.2.2.2.2.2.2.2.2.2.2.2.2.2.2
theorem nm_readA {c0 : Int32} {c1 : Int32} {c2 : Int32} {c3 : Int32} {c4 : Int32} {c5 : Int32} {c6 : Int32} {c7 : Int32} {c8 : Int32} {c9 : Int32} {c10 : (Nat → Int32)} {c11 : (Nat → Int32)} {c12 : (Nat → Int32)} {c13 : (Nat → Int32)} {c14 : Int32} {c15 : Int32} {c16 : Int32} {c17 : Int64} {c18 : Int32} {c19 : Int32} {c20 : Int32} {c21 : Int32} {c22 : Int32} {c23 : Int32} {c24 : Int32} {c25 : (Nat → Int32)} {c26 : (Nat → Int32)} {c27 : (Nat → Int32)} {c28 : (Nat → Int32)} {c29 : (Nat → Int32)} {c30 : (Nat → Int32)} {c31 : Int32} {c32 : Int32} {c33 : Int32} {c34 : Int32} {c35 : Int32} {c36 : Int32} {c37 : Int32} {c38 : Int64} {c39 : Int32} {c40 : Int32} {c41 : Int64} {c42 : Int64} {c43 : Int32} {c44 : Int32} {c45 : (Nat → Int32)} {c46 : (Nat → Int32)} {c47 : (Nat → Int32)} {c48 : (Nat → Int64)} (h0 : wR c11 c12) (h1 : gR c26 c27 c28 c29) (h2 : nmB c48) : Q_NM_read (c0, c1, c2, c3, c4, c5, c6, c7, c8, c9, c10, c11, c12, c13, c14, c15, c16, c17, c18, c19, c20, c21, c22, c23, c24, c25, c26, c27, c28, c29, c30, c31, c32, c33, c34, c35, c36, c37, c38, c39, c40, c41, c42, c43, c44, c45, c46, c47, c48) := ⟨h0, h1, h2⟩
theorem T_NM_readJ {x2 : Int32} {x3 : Int32} {x4 : Int32} {t0_0 : Int32} {t0_1 : Int32} {t0_2 : Int32} {t1_0 : Int32} {t1_1 : Int32} {t1_2 : Int32} {t1_3 : Int32} {t1_4 : Int32} {t1_5 : Int32} {t1_6 : Int32} {t2_0 : (Nat → Int32)} {t3_0 : (Nat → Int32)} {t4_0 : (Nat → Int32)} {t5_0 : (Nat → Int32)} {t6_0 : Int32} {t6_1 : Int32} {t6_2 : Int32} {t6_3 : Int64} {t6_4 : Int32} {t6_5 : Int32} {t6_6 : Int32} {t6_7 : Int32} {t6_8 : Int32} {t6_9 : Int32} {t6_10 : Int32} {t7_0 : (Nat → Int32)} {t8_0 : (Nat → Int32)} {t9_0 : (Nat → Int32)} {t10_0 : (Nat → Int32)} {t11_0 : (Nat → Int32)} {t12_0 : (Nat → Int32)} {t13_0 : Int32} {t13_1 : Int32} {t13_2 : Int32} {t13_3 : Int32} {t13_4 : Int32} {t13_5 : Int32} {t13_6 : Int32} {t13_7 : Int64} {t13_8 : Int32} {t13_9 : Int32} {t13_10 : Int64} {t13_11 : Int64} {t13_12 : Int32} {t13_13 : Int32} {t14_0 : (Nat → Int32)} {t15_0 : (Nat → Int32)} {t16_0 : (Nat → Int32)} {t17_0 : (Nat → Int32)} {t18_0 : (Nat → Int64)} {lx105 : Int32} {lx133 : Int32} (h01 : 0 ≤ t0_1.toInt ∧ t0_1.toInt ≤ 4100) (hW : wR t3_0 t4_0) (hD : gR t8_0 t9_0 t10_0 t11_0) (hB : nmB t18_0) (hx : lx105 = 0 → 0 ≤ x3.toInt ∧ x3.toInt ≤ 9)  : (S_NM_read_J50 x2 x3 x4 t0_0 t0_1 t0_2 t1_0 t1_1 t1_2 t1_3 t1_4 t1_5 t1_6 t2_0 t3_0 t4_0 t5_0 t6_0 t6_1 t6_2 t6_3 t6_4 t6_5 t6_6 t6_7 t6_8 t6_9 t6_10 t7_0 t8_0 t9_0 t10_0 t11_0 t12_0 t13_0 t13_1 t13_2 t13_3 t13_4 t13_5 t13_6 t13_7 t13_8 t13_9 t13_10 t13_11 t13_12 t13_13 t14_0 t15_0 t16_0 t17_0 t18_0 lx105 lx133) ∧ Q_NM_read (F_NM_read_J50 x2 x3 x4 t0_0 t0_1 t0_2 t1_0 t1_1 t1_2 t1_3 t1_4 t1_5 t1_6 t2_0 t3_0 t4_0 t5_0 t6_0 t6_1 t6_2 t6_3 t6_4 t6_5 t6_6 t6_7 t6_8 t6_9 t6_10 t7_0 t8_0 t9_0 t10_0 t11_0 t12_0 t13_0 t13_1 t13_2 t13_3 t13_4 t13_5 t13_6 t13_7 t13_8 t13_9 t13_10 t13_11 t13_12 t13_13 t14_0 t15_0 t16_0 t17_0 t18_0 lx105 lx133) := by
  have e0 : (0 : Int32).toInt = 0 := rfl
  have e1 : (1 : Int32).toInt = 1 := rfl
  have eL0 : (0 : Int64).toInt = 0 := rfl
  have em : (-1 : Int32).toInt = -1 := rfl
  have e4100 : (4100 : Int32).toInt = 4100 := rfl
  unfold S_NM_read_J50 F_NM_read_J50
  by_cases g1 : lx105 = (0 : Int32)
  ·
    rw [if_pos g1, if_pos g1]
    have hx3 := hx g1
    by_cases g2 : x2 = (0 : Int32)
    ·
      rw [if_pos g2, if_pos g2]
      have h3 := T_NM_load (N1 := (4100 : Int32)) (x2 := t0_1) (N3 := (4100 : Int32)) (t0_0 := t17_0) (t1_0 := t2_0) (by first | omega | decide) (by first | omega | decide) (by first | omega | decide)
      with_reducible refine v_owe h3.1 ?_
      replace h3 := h3.2
      generalize F_NM_load (4100 : Int32) t0_1 (4100 : Int32) t17_0 t2_0 = p574 at *
      have qL := h3
      have eL := congrArg Int32.toInt h3.1
      unfold S_NM_read_c86 F_NM_read_c86
      have h4 := T_WR_read (x2 := x3) (x3 := x4) (t0_0 := t1_0) (t0_1 := t1_1) (t0_2 := (p574.1 : Int32)) (t0_3 := t1_3) (t0_4 := t1_4) (t0_5 := t1_5) (t0_6 := t1_6) (t1_0 := (p574.2 : (Nat → Int32))) (t2_0 := t3_0) (t3_0 := t4_0) (t4_0 := t5_0) (by with_reducible assumption) ⟨by omega, by omega⟩
      with_reducible refine v_owe h4.1 ?_
      replace h4 := h4.2
      generalize F_WR_read x3 x4 t1_0 t1_1 (p574.1 : Int32) t1_3 t1_4 t1_5 t1_6 (p574.2 : (Nat → Int32)) t3_0 t4_0 t5_0 = p616 at *
      unfold Q_WR_read at h4
      unfold S_NM_read_c98 F_NM_read_c98
      by_cases g5 : (p616.1 : Int32) = (3 : Int32)
      ·
        rw [if_pos g5, if_pos g5]
        unfold S_NM_read_J260_13 F_NM_read_J260_13
        by_cases g6 : (p616.1 : Int32) = (0 : Int32)
        ·
          rw [if_pos g6, if_pos g6]
          refine ⟨trivial, ?_⟩
          exact nm_readA (by with_reducible assumption) (by with_reducible assumption) (by with_reducible assumption)
        ·
          rw [if_neg g6, if_neg g6]
          refine ⟨trivial, ?_⟩
          exact nm_readA (by with_reducible assumption) (by with_reducible assumption) (by with_reducible assumption)
      ·
        rw [if_neg g5, if_neg g5]
        unfold S_NM_read_J260_13 F_NM_read_J260_13
        by_cases g7 : (p616.1 : Int32) = (0 : Int32)
        ·
          rw [if_pos g7, if_pos g7]
          refine ⟨trivial, ?_⟩
          exact nm_readA (by with_reducible assumption) (by with_reducible assumption) (by with_reducible assumption)
        ·
          rw [if_neg g7, if_neg g7]
          refine ⟨trivial, ?_⟩
          exact nm_readA (by with_reducible assumption) (by with_reducible assumption) (by with_reducible assumption)
    ·
      rw [if_neg g2, if_neg g2]
      by_cases g8 : x2 = (1 : Int32)
      ·
        rw [if_pos g8, if_pos g8]
        have h9 := T_NM_load (N1 := (4100 : Int32)) (x2 := t0_1) (N3 := (4100 : Int32)) (t0_0 := t17_0) (t1_0 := t7_0) (by first | omega | decide) (by first | omega | decide) (by first | omega | decide)
        with_reducible refine v_owe h9.1 ?_
        replace h9 := h9.2
        generalize F_NM_load (4100 : Int32) t0_1 (4100 : Int32) t17_0 t7_0 = p444 at *
        have qL := h9
        have eL := congrArg Int32.toInt h9.1
        unfold S_NM_read_c137 F_NM_read_c137
        have h10 := T_DR_read (x2 := x3) (t0_0 := t6_0) (t0_1 := (p444.1 : Int32)) (t0_2 := t6_2) (t0_3 := t6_3) (t0_4 := t6_4) (t0_5 := t6_5) (t0_6 := t6_6) (t0_7 := t6_7) (t0_8 := t6_8) (t0_9 := t6_9) (t0_10 := t6_10) (t1_0 := (p444.2 : (Nat → Int32))) (t2_0 := t8_0) (t3_0 := t9_0) (t4_0 := t10_0) (t5_0 := t11_0) (t6_0 := t12_0) (by with_reducible assumption) ⟨by omega, by omega⟩
        with_reducible refine v_owe h10.1 ?_
        replace h10 := h10.2
        generalize F_DR_read x3 t6_0 (p444.1 : Int32) t6_2 t6_3 t6_4 t6_5 t6_6 t6_7 t6_8 t6_9 t6_10 (p444.2 : (Nat → Int32)) t8_0 t9_0 t10_0 t11_0 t12_0 = p496 at *
        unfold Q_DR_read at h10
        unfold S_NM_read_c148 F_NM_read_c148
        by_cases g11 : (p496.1 : Int32) = (3 : Int32)
        ·
          rw [if_pos g11, if_pos g11]
          unfold S_NM_read_J260 F_NM_read_J260
          by_cases g12 : (p496.1 : Int32) = (0 : Int32)
          ·
            rw [if_pos g12, if_pos g12]
            refine ⟨trivial, ?_⟩
            exact nm_readA (by with_reducible assumption) (by with_reducible assumption) (by with_reducible assumption)
          ·
            rw [if_neg g12, if_neg g12]
            refine ⟨trivial, ?_⟩
            exact nm_readA (by with_reducible assumption) (by with_reducible assumption) (by with_reducible assumption)
        ·
          rw [if_neg g11, if_neg g11]
          unfold S_NM_read_J260 F_NM_read_J260
          by_cases g13 : (p496.1 : Int32) = (0 : Int32)
          ·
            rw [if_pos g13, if_pos g13]
            refine ⟨trivial, ?_⟩
            exact nm_readA (by with_reducible assumption) (by with_reducible assumption) (by with_reducible assumption)
          ·
            rw [if_neg g13, if_neg g13]
            refine ⟨trivial, ?_⟩
            exact nm_readA (by with_reducible assumption) (by with_reducible assumption) (by with_reducible assumption)
      ·
        rw [if_neg g8, if_neg g8]
        have h14 := T_NM_load (N1 := (4100 : Int32)) (x2 := t0_1) (N3 := (4100 : Int32)) (t0_0 := t17_0) (t1_0 := t14_0) (by first | omega | decide) (by first | omega | decide) (by first | omega | decide)
        with_reducible refine v_owe h14.1 ?_
        replace h14 := h14.2
        generalize F_NM_load (4100 : Int32) t0_1 (4100 : Int32) t17_0 t14_0 = p181 at *
        have qL := h14
        have eL := congrArg Int32.toInt h14.1
        unfold S_NM_read_c182 F_NM_read_c182
        by_cases g15 : x2 = (2 : Int32)
        ·
          rw [if_pos g15, if_pos g15]
          have g2 := g15
          have h16 := T_TR_bits (t0_0 := t13_0) (t0_1 := (p181.1 : Int32)) (t0_2 := t13_2) (t0_3 := t13_3) (t0_4 := t13_4) (t0_5 := t13_5) (t0_6 := t13_6) (t0_7 := t13_7) (t0_8 := t13_8) (t0_9 := t13_9) (t0_10 := t13_10) (t0_11 := t13_11) (t0_12 := t13_12) (t0_13 := t13_13) (t1_0 := (p181.2 : (Nat → Int32))) (t2_0 := t15_0) (t3_0 := t16_0) trivial ⟨by omega, by omega⟩
          with_reducible refine v_owe h16 ?_
          generalize F_TR_bits t13_0 (p181.1 : Int32) t13_2 t13_3 t13_4 t13_5 t13_6 t13_7 t13_8 t13_9 t13_10 t13_11 t13_12 t13_13 (p181.2 : (Nat → Int32)) t15_0 t16_0 = p351 at *
          unfold S_NM_read_c197 F_NM_read_c197
          by_cases g17 : (p351.2.1 : Int32) = (1 : Int32)
          ·
            rw [if_pos g17, if_pos g17]
            unfold S_NM_read_J233_7 F_NM_read_J233_7
            have g18 : ¬ ((2 : Int32) = (0 : Int32)) := (by decide)
            rw [if_neg g18, if_neg g18]
            refine ⟨trivial, ?_⟩
            exact nm_readA (by with_reducible assumption) (by with_reducible assumption) (by with_reducible assumption)
          ·
            rw [if_neg g17, if_neg g17]
            unfold S_NM_read_J233_7 F_NM_read_J233_7
            have g19 : ((0 : Int32) = (0 : Int32)) := (by decide)
            rw [if_pos g19, if_pos g19]
            have h20 := T_NM_setBits (x2 := x2) (x3 := x3) (x4 := (p351.1 : Int64)) (t0_0 := lx133) (t0_1 := t0_1) (t0_2 := t0_2) (t1_0 := t18_0) hx3 hB (fun z => absurd (g2.symm.trans z) (by decide))
            have h20B := h20.2
            with_reducible refine v_owe h20.1 ?_
            refine ⟨trivial, ?_⟩
            exact nm_readA (by with_reducible assumption) (by with_reducible assumption) (by with_reducible assumption)
        ·
          rw [if_neg g15, if_neg g15]
          have h21 := T_TR_floatBits (t0_0 := t13_0) (t0_1 := (p181.1 : Int32)) (t0_2 := t13_2) (t0_3 := t13_3) (t0_4 := t13_4) (t0_5 := t13_5) (t0_6 := t13_6) (t0_7 := t13_7) (t0_8 := t13_8) (t0_9 := t13_9) (t0_10 := t13_10) (t0_11 := t13_11) (t0_12 := t13_12) (t0_13 := t13_13) (t1_0 := (p181.2 : (Nat → Int32))) (t2_0 := t15_0) (t3_0 := t16_0) trivial ⟨by omega, by omega⟩
          with_reducible refine v_owe h21 ?_
          generalize F_TR_floatBits t13_0 (p181.1 : Int32) t13_2 t13_3 t13_4 t13_5 t13_6 t13_7 t13_8 t13_9 t13_10 t13_11 t13_12 t13_13 (p181.2 : (Nat → Int32)) t15_0 t16_0 = p229 at *
          unfold S_NM_read_c207 F_NM_read_c207
          by_cases g22 : (p229.2.1 : Int32) = (1 : Int32)
          ·
            rw [if_pos g22, if_pos g22]
            unfold S_NM_read_J233 F_NM_read_J233
            have g23 : ¬ ((2 : Int32) = (0 : Int32)) := (by decide)
            rw [if_neg g23, if_neg g23]
            refine ⟨trivial, ?_⟩
            exact nm_readA (by with_reducible assumption) (by with_reducible assumption) (by with_reducible assumption)
          ·
            rw [if_neg g22, if_neg g22]
            unfold S_NM_read_J233 F_NM_read_J233
            have g24 : ((0 : Int32) = (0 : Int32)) := (by decide)
            rw [if_pos g24, if_pos g24]
            have h25 := T_NM_setBits (x2 := x2) (x3 := x3) (x4 := (((p229.1 : Int32).toInt64 : Int64) &&& 4294967295 : Int64)) (t0_0 := lx133) (t0_1 := t0_1) (t0_2 := t0_2) (t1_0 := t18_0) hx3 hB (fun _ => nm_and32)
            have h25B := h25.2
            with_reducible refine v_owe h25.1 ?_
            refine ⟨trivial, ?_⟩
            exact nm_readA (by with_reducible assumption) (by with_reducible assumption) (by with_reducible assumption)
  ·
    rw [if_neg g1, if_neg g1]
    refine ⟨trivial, ?_⟩
    exact nm_readA (by with_reducible assumption) (by with_reducible assumption) (by with_reducible assumption)
theorem T_NM_read {x2 : Int32} {x3 : Int32} {x4 : Int32} {t0_0 : Int32} {t0_1 : Int32} {t0_2 : Int32} {t1_0 : Int32} {t1_1 : Int32} {t1_2 : Int32} {t1_3 : Int32} {t1_4 : Int32} {t1_5 : Int32} {t1_6 : Int32} {t2_0 : (Nat → Int32)} {t3_0 : (Nat → Int32)} {t4_0 : (Nat → Int32)} {t5_0 : (Nat → Int32)} {t6_0 : Int32} {t6_1 : Int32} {t6_2 : Int32} {t6_3 : Int64} {t6_4 : Int32} {t6_5 : Int32} {t6_6 : Int32} {t6_7 : Int32} {t6_8 : Int32} {t6_9 : Int32} {t6_10 : Int32} {t7_0 : (Nat → Int32)} {t8_0 : (Nat → Int32)} {t9_0 : (Nat → Int32)} {t10_0 : (Nat → Int32)} {t11_0 : (Nat → Int32)} {t12_0 : (Nat → Int32)} {t13_0 : Int32} {t13_1 : Int32} {t13_2 : Int32} {t13_3 : Int32} {t13_4 : Int32} {t13_5 : Int32} {t13_6 : Int32} {t13_7 : Int64} {t13_8 : Int32} {t13_9 : Int32} {t13_10 : Int64} {t13_11 : Int64} {t13_12 : Int32} {t13_13 : Int32} {t14_0 : (Nat → Int32)} {t15_0 : (Nat → Int32)} {t16_0 : (Nat → Int32)} {t17_0 : (Nat → Int32)} {t18_0 : (Nat → Int64)} (h01 : 0 ≤ t0_1.toInt ∧ t0_1.toInt ≤ 4100) (hW : wR t3_0 t4_0) (hD : gR t8_0 t9_0 t10_0 t11_0) (hB : nmB t18_0)  : (S_NM_read x2 x3 x4 t0_0 t0_1 t0_2 t1_0 t1_1 t1_2 t1_3 t1_4 t1_5 t1_6 t2_0 t3_0 t4_0 t5_0 t6_0 t6_1 t6_2 t6_3 t6_4 t6_5 t6_6 t6_7 t6_8 t6_9 t6_10 t7_0 t8_0 t9_0 t10_0 t11_0 t12_0 t13_0 t13_1 t13_2 t13_3 t13_4 t13_5 t13_6 t13_7 t13_8 t13_9 t13_10 t13_11 t13_12 t13_13 t14_0 t15_0 t16_0 t17_0 t18_0) ∧ Q_NM_read (F_NM_read x2 x3 x4 t0_0 t0_1 t0_2 t1_0 t1_1 t1_2 t1_3 t1_4 t1_5 t1_6 t2_0 t3_0 t4_0 t5_0 t6_0 t6_1 t6_2 t6_3 t6_4 t6_5 t6_6 t6_7 t6_8 t6_9 t6_10 t7_0 t8_0 t9_0 t10_0 t11_0 t12_0 t13_0 t13_1 t13_2 t13_3 t13_4 t13_5 t13_6 t13_7 t13_8 t13_9 t13_10 t13_11 t13_12 t13_13 t14_0 t15_0 t16_0 t17_0 t18_0) := by
  have e0 : (0 : Int32).toInt = 0 := rfl
  have e1 : (1 : Int32).toInt = 1 := rfl
  have eL0 : (0 : Int64).toInt = 0 := rfl
  have em : (-1 : Int32).toInt = -1 := rfl
  unfold S_NM_read F_NM_read
  by_cases g1 : ((F_NM_no_IIZ x2 x3) : Int32) = (0 : Int32)
  ·
    rw [if_pos g1, if_pos g1]
    have hno := (nm_no2 g1).2
    by_cases g2 : x2 = (0 : Int32)
    ·
      rw [if_pos g2, if_pos g2]
      by_cases g3 : x4 < (2 : Int32)
      ·
        rw [if_pos g3, if_pos g3]
        unfold S_NM_read_J32 F_NM_read_J32
        unfold S_NM_read_J37 F_NM_read_J37
        have g4 : ¬ ((1 : Int32) = (0 : Int32)) := (by decide)
        rw [if_neg g4, if_neg g4]
        exact T_NM_readJ h01 hW hD hB (fun z => by first | exact hno | exact absurd z (by decide))
      ·
        rw [if_neg g3, if_neg g3]
        by_cases g5 : x4 ≤ (36 : Int32)
        ·
          rw [if_pos g5, if_pos g5]
          unfold S_NM_read_J36 F_NM_read_J36
          unfold S_NM_read_J37 F_NM_read_J37
          have g6 : ((0 : Int32) = (0 : Int32)) := (by decide)
          rw [if_pos g6, if_pos g6]
          exact T_NM_readJ h01 hW hD hB (fun z => by first | exact hno | exact absurd z (by decide))
        ·
          rw [if_neg g5, if_neg g5]
          unfold S_NM_read_J32 F_NM_read_J32
          unfold S_NM_read_J37 F_NM_read_J37
          have g7 : ¬ ((1 : Int32) = (0 : Int32)) := (by decide)
          rw [if_neg g7, if_neg g7]
          exact T_NM_readJ h01 hW hD hB (fun z => by first | exact hno | exact absurd z (by decide))
    ·
      rw [if_neg g2, if_neg g2]
      by_cases g8 : x4 = (10 : Int32)
      ·
        rw [if_pos g8, if_pos g8]
        unfold S_NM_read_J36 F_NM_read_J36
        unfold S_NM_read_J37 F_NM_read_J37
        have g9 : ((0 : Int32) = (0 : Int32)) := (by decide)
        rw [if_pos g9, if_pos g9]
        exact T_NM_readJ h01 hW hD hB (fun z => by first | exact hno | exact absurd z (by decide))
      ·
        rw [if_neg g8, if_neg g8]
        unfold S_NM_read_J32 F_NM_read_J32
        unfold S_NM_read_J37 F_NM_read_J37
        have g10 : ¬ ((1 : Int32) = (0 : Int32)) := (by decide)
        rw [if_neg g10, if_neg g10]
        exact T_NM_readJ h01 hW hD hB (fun z => by first | exact hno | exact absurd z (by decide))
  ·
    rw [if_neg g1, if_neg g1]
    unfold S_NM_read_J32 F_NM_read_J32
    unfold S_NM_read_J37 F_NM_read_J37
    have g11 : ¬ ((1 : Int32) = (0 : Int32)) := (by decide)
    rw [if_neg g11, if_neg g11]
    exact T_NM_readJ h01 hW hD hB (fun z => by first | exact hno | exact absurd z (by decide))
def Q_NM_put (p : Int32 × Int32 × Int32 × Int32 × Int32 × Int32 × Int32 × Int32 × (Nat → Int32) × (Nat → Int32) × (Nat → Int32) × Int32 × Int32 × Int32 × Int64 × Int32 × Int32 × Int32 × Int32 × Int32 × Int32 × Int32 × (Nat → Int32) × (Nat → Int32) × (Nat → Int32) × (Nat → Int32) × (Nat → Int32) × (Nat → Int64)) : Prop := wR p.2.2.2.2.2.2.2.2.1 p.2.2.2.2.2.2.2.2.2.1 ∧ gR p.2.2.2.2.2.2.2.2.2.2.2.2.2.2.2.2.2.2.2.2.2.2.1 p.2.2.2.2.2.2.2.2.2.2.2.2.2.2.2.2.2.2.2.2.2.2.2.1 p.2.2.2.2.2.2.2.2.2.2.2.2.2.2.2.2.2.2.2.2.2.2.2.2.1 p.2.2.2.2.2.2.2.2.2.2.2.2.2.2.2.2.2.2.2.2.2.2.2.2.2.1 ∧ nmB p.2.2.2.2.2.2.2.2.2.2.2.2.2.2.2.2.2.2.2.2.2.2.2.2.2.2.2
theorem nm_putA {c0 : Int32} {c1 : Int32} {c2 : Int32} {c3 : Int32} {c4 : Int32} {c5 : Int32} {c6 : Int32} {c7 : Int32} {c8 : (Nat → Int32)} {c9 : (Nat → Int32)} {c10 : (Nat → Int32)} {c11 : Int32} {c12 : Int32} {c13 : Int32} {c14 : Int64} {c15 : Int32} {c16 : Int32} {c17 : Int32} {c18 : Int32} {c19 : Int32} {c20 : Int32} {c21 : Int32} {c22 : (Nat → Int32)} {c23 : (Nat → Int32)} {c24 : (Nat → Int32)} {c25 : (Nat → Int32)} {c26 : (Nat → Int32)} {c27 : (Nat → Int64)} (h0 : wR c8 c9) (h1 : gR c22 c23 c24 c25) (h2 : nmB c27) : Q_NM_put (c0, c1, c2, c3, c4, c5, c6, c7, c8, c9, c10, c11, c12, c13, c14, c15, c16, c17, c18, c19, c20, c21, c22, c23, c24, c25, c26, c27) := ⟨h0, h1, h2⟩
theorem T_NM_putJ {x2 : Int32} {x3 : Int32} {x4 : Int64} {t0_0 : Int32} {t0_1 : Int32} {t0_2 : Int32} {t1_0 : Int32} {t1_1 : Int32} {t1_2 : Int32} {t1_3 : Int32} {t1_4 : Int32} {t1_5 : Int32} {t1_6 : Int32} {t2_0 : (Nat → Int32)} {t3_0 : (Nat → Int32)} {t4_0 : (Nat → Int32)} {t5_0 : Int32} {t5_1 : Int32} {t5_2 : Int32} {t5_3 : Int64} {t5_4 : Int32} {t5_5 : Int32} {t5_6 : Int32} {t5_7 : Int32} {t5_8 : Int32} {t5_9 : Int32} {t5_10 : Int32} {t6_0 : (Nat → Int32)} {t7_0 : (Nat → Int32)} {t8_0 : (Nat → Int32)} {t9_0 : (Nat → Int32)} {t10_0 : (Nat → Int32)} {t11_0 : (Nat → Int64)} {lx69 : Int32} (hW : wR t2_0 t3_0) (hD : gR t6_0 t7_0 t8_0 t9_0) (hB : nmB t11_0) (hx : lx69.toInt ≤ 0 → 0 ≤ x3.toInt ∧ x3.toInt ≤ 9) (hv : lx69.toInt ≤ 0 → x2 = 3 → 0 ≤ x4.toInt ∧ x4.toInt < 4294967296)  : (S_NM_put_J28 x2 x3 x4 t0_0 t0_1 t0_2 t1_0 t1_1 t1_2 t1_3 t1_4 t1_5 t1_6 t2_0 t3_0 t4_0 t5_0 t5_1 t5_2 t5_3 t5_4 t5_5 t5_6 t5_7 t5_8 t5_9 t5_10 t6_0 t7_0 t8_0 t9_0 t10_0 t11_0 lx69) ∧ Q_NM_put (F_NM_put_J28 x2 x3 x4 t0_0 t0_1 t0_2 t1_0 t1_1 t1_2 t1_3 t1_4 t1_5 t1_6 t2_0 t3_0 t4_0 t5_0 t5_1 t5_2 t5_3 t5_4 t5_5 t5_6 t5_7 t5_8 t5_9 t5_10 t6_0 t7_0 t8_0 t9_0 t10_0 t11_0 lx69) := by
  have e0 : (0 : Int32).toInt = 0 := rfl
  have e1 : (1 : Int32).toInt = 1 := rfl
  have eL0 : (0 : Int64).toInt = 0 := rfl
  have em : (-1 : Int32).toInt = -1 := rfl
  unfold S_NM_put_J28 F_NM_put_J28
  by_cases g1 : lx69 ≤ (0 : Int32)
  ·
    rw [if_pos g1, if_pos g1]
    have hx3 := hx (q_leI g1)
    have hv4 := hv (q_leI g1)
    by_cases g2 : x2 = (0 : Int32)
    ·
      rw [if_pos g2, if_pos g2]
      have h3 := T_WR_put (x2 := x3) (x3 := x4) (t0_0 := t1_0) (t0_1 := t1_1) (t0_2 := t1_2) (t0_3 := t1_3) (t0_4 := t1_4) (t0_5 := t1_5) (t0_6 := t1_6) (t1_0 := t2_0) (t2_0 := t3_0) (t3_0 := t4_0) (by with_reducible assumption)
      with_reducible refine v_owe h3.1 ?_
      replace h3 := h3.2
      generalize F_WR_put x3 x4 t1_0 t1_1 t1_2 t1_3 t1_4 t1_5 t1_6 t2_0 t3_0 t4_0 = p203 at *
      unfold Q_WR_put at h3
      unfold S_NM_put_c49 F_NM_put_c49
      refine ⟨trivial, ?_⟩
      exact nm_putA (by with_reducible assumption) (by with_reducible assumption) (by with_reducible assumption)
    ·
      rw [if_neg g2, if_neg g2]
      by_cases g4 : x2 = (1 : Int32)
      ·
        rw [if_pos g4, if_pos g4]
        have h5 := T_DR_put (x2 := x3) (x3 := x4) (x4 := (0 : Int32)) (t0_0 := t5_0) (t0_1 := t5_1) (t0_2 := t5_2) (t0_3 := t5_3) (t0_4 := t5_4) (t0_5 := t5_5) (t0_6 := t5_6) (t0_7 := t5_7) (t0_8 := t5_8) (t0_9 := t5_9) (t0_10 := t5_10) (t1_0 := t6_0) (t2_0 := t7_0) (t3_0 := t8_0) (t4_0 := t9_0) (t5_0 := t10_0) (by with_reducible assumption)
        with_reducible refine v_owe h5.1 ?_
        replace h5 := h5.2
        generalize F_DR_put x3 x4 (0 : Int32) t5_0 t5_1 t5_2 t5_3 t5_4 t5_5 t5_6 t5_7 t5_8 t5_9 t5_10 t6_0 t7_0 t8_0 t9_0 t10_0 = p148 at *
        unfold Q_DR_put at h5
        unfold S_NM_put_c67 F_NM_put_c67
        refine ⟨trivial, ?_⟩
        exact nm_putA (by with_reducible assumption) (by with_reducible assumption) (by with_reducible assumption)
      ·
        rw [if_neg g4, if_neg g4]
        have h6 := T_NM_setBits (x2 := x2) (x3 := x3) (x4 := x4) (t0_0 := lx69) (t0_1 := t0_1) (t0_2 := t0_2) (t1_0 := t11_0) hx3 hB hv4
        have h6B := h6.2
        with_reducible refine v_owe h6.1 ?_
        refine ⟨trivial, ?_⟩
        exact nm_putA (by with_reducible assumption) (by with_reducible assumption) (by with_reducible assumption)
  ·
    rw [if_neg g1, if_neg g1]
    refine ⟨trivial, ?_⟩
    exact nm_putA (by with_reducible assumption) (by with_reducible assumption) (by with_reducible assumption)
theorem nm_ush {x : Int64} (h : lg_cmp ((x.toUInt64 >>> ((32 : Int32).toInt64.toUInt64 &&& Int64.toUInt64 63)).toInt64) 0 = 0) : 0 ≤ x.toInt ∧ x.toInt < 4294967296 := by
  have h1 : ((x.toUInt64 >>> ((32 : Int32).toInt64.toUInt64 &&& Int64.toUInt64 63)).toInt64).toBitVec.toNat = x.toBitVec.toNat / 4294967296 := by
    show (x.toUInt64 >>> ((32 : Int32).toInt64.toUInt64 &&& Int64.toUInt64 63)).toBitVec.toNat = _
    rw [UInt64.toBitVec_shiftRight, BitVec.ushiftRight_eq', BitVec.toNat_ushiftRight, show (((32 : Int32).toInt64.toUInt64 &&& Int64.toUInt64 63).toBitVec % 64).toNat = 32 by decide, Nat.shiftRight_eq_div_pow]
    rfl
  have h2 := x.toBitVec.isLt
  have h3 := s_ofL h1 (by omega)
  have h4 := fl_lz h
  have h5 := s_ofL (x := x) rfl (by omega)
  omega
theorem T_NM_put {x2 : Int32} {x3 : Int32} {x4 : Int64} {t0_0 : Int32} {t0_1 : Int32} {t0_2 : Int32} {t1_0 : Int32} {t1_1 : Int32} {t1_2 : Int32} {t1_3 : Int32} {t1_4 : Int32} {t1_5 : Int32} {t1_6 : Int32} {t2_0 : (Nat → Int32)} {t3_0 : (Nat → Int32)} {t4_0 : (Nat → Int32)} {t5_0 : Int32} {t5_1 : Int32} {t5_2 : Int32} {t5_3 : Int64} {t5_4 : Int32} {t5_5 : Int32} {t5_6 : Int32} {t5_7 : Int32} {t5_8 : Int32} {t5_9 : Int32} {t5_10 : Int32} {t6_0 : (Nat → Int32)} {t7_0 : (Nat → Int32)} {t8_0 : (Nat → Int32)} {t9_0 : (Nat → Int32)} {t10_0 : (Nat → Int32)} {t11_0 : (Nat → Int64)} (hW : wR t2_0 t3_0) (hD : gR t6_0 t7_0 t8_0 t9_0) (hB : nmB t11_0)  : (S_NM_put x2 x3 x4 t0_0 t0_1 t0_2 t1_0 t1_1 t1_2 t1_3 t1_4 t1_5 t1_6 t2_0 t3_0 t4_0 t5_0 t5_1 t5_2 t5_3 t5_4 t5_5 t5_6 t5_7 t5_8 t5_9 t5_10 t6_0 t7_0 t8_0 t9_0 t10_0 t11_0) ∧ Q_NM_put (F_NM_put x2 x3 x4 t0_0 t0_1 t0_2 t1_0 t1_1 t1_2 t1_3 t1_4 t1_5 t1_6 t2_0 t3_0 t4_0 t5_0 t5_1 t5_2 t5_3 t5_4 t5_5 t5_6 t5_7 t5_8 t5_9 t5_10 t6_0 t7_0 t8_0 t9_0 t10_0 t11_0) := by
  have e0 : (0 : Int32).toInt = 0 := rfl
  have e1 : (1 : Int32).toInt = 1 := rfl
  have eL0 : (0 : Int64).toInt = 0 := rfl
  have em : (-1 : Int32).toInt = -1 := rfl
  unfold S_NM_put F_NM_put
  by_cases g1 : ((F_NM_no_IIZ x2 x3) : Int32) = (0 : Int32)
  ·
    rw [if_pos g1, if_pos g1]
    have hno := (nm_no2 g1).2
    by_cases g2 : x2 = (3 : Int32)
    ·
      rw [if_pos g2, if_pos g2]
      by_cases g3 : (lg_cmp ((x4.toUInt64 >>> ((32 : Int32).toInt64.toUInt64 &&& Int64.toUInt64 63)).toInt64 : Int64) 0 : Int32) = (0 : Int32)
      ·
        rw [if_pos g3, if_pos g3]
        have gl := g3
        unfold S_NM_put_J27 F_NM_put_J27
        exact T_NM_putJ hW hD hB (fun _ => hno) (fun _ _ => nm_ush gl)
      ·
        rw [if_neg g3, if_neg g3]
        unfold S_NM_put_J23 F_NM_put_J23
        exact T_NM_putJ hW hD hB (fun z => absurd z (by decide)) (fun z => absurd z (by decide))
    ·
      rw [if_neg g2, if_neg g2]
      unfold S_NM_put_J27 F_NM_put_J27
      exact T_NM_putJ hW hD hB (fun _ => hno) (fun _ z => absurd z g2)
  ·
    rw [if_neg g1, if_neg g1]
    unfold S_NM_put_J23 F_NM_put_J23
    exact T_NM_putJ hW hD hB (fun z => absurd z (by decide)) (fun z => absurd z (by decide))
theorem T_NM_toldJ {x2 : Int32} {x3 : Int32} {x4 : Int32} {t0_0 : Int32} {t0_1 : Int32} {t0_2 : Int32} {t1_0 : Int32} {t1_1 : Int32} {t1_2 : Int32} {t1_3 : Int32} {t1_4 : Int32} {t1_5 : Int32} {t1_6 : Int32} {t2_0 : (Nat → Int32)} {t3_0 : (Nat → Int32)} {t4_0 : Int32} {t4_1 : Int32} {t4_2 : Int32} {t4_3 : Int64} {t4_4 : Int32} {t4_5 : Int32} {t4_6 : Int32} {t4_7 : Int32} {t4_8 : Int32} {t4_9 : Int32} {t4_10 : Int32} {t5_0 : (Nat → Int32)} {t6_0 : (Nat → Int32)} {t7_0 : (Nat → Int32)} {t8_0 : (Nat → Int32)} {t9_0 : Int32} {t9_1 : Int32} {t9_2 : Int32} {t9_3 : Int32} {t9_4 : Int64} {t9_5 : Int32} {t9_6 : Int32} {t9_7 : Int64} {t9_8 : Int32} {t9_9 : Int64} {t9_10 : Int32} {t10_0 : (Nat → Int32)} {t11_0 : (Nat → Int32)} {t12_0 : (Nat → Int32)} {t13_0 : (Nat → Int32)} {t14_0 : (Nat → Int32)} {t15_0 : (Nat → Int32)} {t16_0 : (Nat → Int64)} {lx94 : Int32} (hW : wR t2_0 t3_0) (hD : gR t5_0 t6_0 t7_0 t8_0) (hB : nmB t16_0) (hx : lx94.toInt ≤ 0 → 0 ≤ x3.toInt ∧ x3.toInt ≤ 9)  : (S_NM_told_J18 x2 x3 x4 t0_0 t0_1 t0_2 t1_0 t1_1 t1_2 t1_3 t1_4 t1_5 t1_6 t2_0 t3_0 t4_0 t4_1 t4_2 t4_3 t4_4 t4_5 t4_6 t4_7 t4_8 t4_9 t4_10 t5_0 t6_0 t7_0 t8_0 t9_0 t9_1 t9_2 t9_3 t9_4 t9_5 t9_6 t9_7 t9_8 t9_9 t9_10 t10_0 t11_0 t12_0 t13_0 t14_0 t15_0 t16_0 lx94) := by
  have e0 : (0 : Int32).toInt = 0 := rfl
  have e1 : (1 : Int32).toInt = 1 := rfl
  have eL0 : (0 : Int64).toInt = 0 := rfl
  have em : (-1 : Int32).toInt = -1 := rfl
  unfold S_NM_told_J18
  by_cases g1 : lx94 ≤ (0 : Int32)
  ·
    rw [if_pos g1]
    have hx3 := hx (q_leI g1)
    by_cases g2 : x2 = (0 : Int32)
    ·
      rw [if_pos g2]
      have h3 := T_WR_told (x2 := x3) (x3 := x4) (t0_0 := t1_0) (t0_1 := t1_1) (t0_2 := t1_2) (t0_3 := t1_3) (t0_4 := t1_4) (t0_5 := t1_5) (t0_6 := t1_6) (t1_0 := t2_0) (t2_0 := t3_0) (by with_reducible assumption)
      with_reducible refine v_oweS h3 ?_
      generalize F_WR_told x3 x4 t1_0 t1_1 t1_2 t1_3 t1_4 t1_5 t1_6 t2_0 t3_0 = p612 at *
      unfold S_NM_told_c40
      exact trivial
    ·
      rw [if_neg g2]
      by_cases g4 : x2 = (1 : Int32)
      ·
        rw [if_pos g4]
        have h5 := T_DR_told (x2 := x3) (x3 := x4) (t0_0 := t4_0) (t0_1 := t4_1) (t0_2 := t4_2) (t0_3 := t4_3) (t0_4 := t4_4) (t0_5 := t4_5) (t0_6 := t4_6) (t0_7 := t4_7) (t0_8 := t4_8) (t0_9 := t4_9) (t0_10 := t4_10) (t1_0 := t5_0) (t2_0 := t6_0) (t3_0 := t7_0) (t4_0 := t8_0) (by with_reducible assumption)
        with_reducible refine v_oweS h5 ?_
        generalize F_DR_told x3 x4 t4_0 t4_1 t4_2 t4_3 t4_4 t4_5 t4_6 t4_7 t4_8 t4_9 t4_10 t5_0 t6_0 t7_0 t8_0 = p551 at *
        unfold S_NM_told_c70
        by_cases g6 : (p551.2.1 : Int32) ≤ (0 : Int32)
        ·
          rw [if_pos g6]
          exact trivial
        ·
          rw [if_neg g6]
          exact trivial
      ·
        rw [if_neg g4]
        have h7 := T_NM_bitsOf (x2 := x2) (x3 := x3) (t0_0 := lx94) (t0_1 := t0_1) (t0_2 := t0_2) (t1_0 := t16_0) (by first | with_reducible exact hx3 | with_reducible exact hx4)
        with_reducible refine v_oweS h7 ?_
        by_cases g8 : x4 ≤ (2 : Int32)
        ·
          rw [if_pos g8]
          by_cases g9 : x4 ≤ (0 : Int32)
          ·
            rw [if_pos g9]
            unfold S_NM_told_J133
            unfold S_NM_told_J134
            have g10 : ((0 : Int32) ≤ (0 : Int32)) := (by decide)
            rw [if_pos g10]
            by_cases g11 : x4 = (0 : Int32)
            ·
              rw [if_pos g11]
              exact trivial
            ·
              rw [if_neg g11]
              by_cases g12 : x4 = (1 : Int32)
              ·
                rw [if_pos g12]
                by_cases g13 : x2 = (3 : Int32)
                ·
                  rw [if_pos g13]
                  have h14 := T_FR_digits (x2 := ((F_NM_bitsOf x2 x3 lx94 t0_1 t0_2 t16_0) : Int64)) (x3 := (1 : Int32)) (t0_0 := t9_0) (t0_1 := t9_1) (t0_2 := t9_2) (t0_3 := t9_3) (t0_4 := t9_4) (t0_5 := t9_5) (t0_6 := t9_6) (t0_7 := t9_7) (t0_8 := t9_8) (t0_9 := t9_9) (t0_10 := t9_10) (t1_0 := t10_0) (t2_0 := t11_0) (t3_0 := t12_0) (t4_0 := t13_0) (t5_0 := t14_0) (t6_0 := t15_0) 
                  with_reducible refine v_oweS h14.1 ?_
                  replace h14 := h14.2
                  generalize F_FR_digits ((F_NM_bitsOf x2 x3 lx94 t0_1 t0_2 t16_0) : Int64) (1 : Int32) t9_0 t9_1 t9_2 t9_3 t9_4 t9_5 t9_6 t9_7 t9_8 t9_9 t9_10 t10_0 t11_0 t12_0 t13_0 t14_0 t15_0 = p444 at *
                  unfold Q_FR_digits at h14
                  unfold S_NM_told_c178_6
                  exact trivial
                ·
                  rw [if_neg g13]
                  have h15 := T_FR_digits (x2 := ((F_NM_bitsOf x2 x3 lx94 t0_1 t0_2 t16_0) : Int64)) (x3 := (0 : Int32)) (t0_0 := t9_0) (t0_1 := t9_1) (t0_2 := t9_2) (t0_3 := t9_3) (t0_4 := t9_4) (t0_5 := t9_5) (t0_6 := t9_6) (t0_7 := t9_7) (t0_8 := t9_8) (t0_9 := t9_9) (t0_10 := t9_10) (t1_0 := t10_0) (t2_0 := t11_0) (t3_0 := t12_0) (t4_0 := t13_0) (t5_0 := t14_0) (t6_0 := t15_0) 
                  with_reducible refine v_oweS h15.1 ?_
                  replace h15 := h15.2
                  generalize F_FR_digits ((F_NM_bitsOf x2 x3 lx94 t0_1 t0_2 t16_0) : Int64) (0 : Int32) t9_0 t9_1 t9_2 t9_3 t9_4 t9_5 t9_6 t9_7 t9_8 t9_9 t9_10 t10_0 t11_0 t12_0 t13_0 t14_0 t15_0 = p371 at *
                  unfold Q_FR_digits at h15
                  unfold S_NM_told_c178
                  exact trivial
              ·
                rw [if_neg g12]
                by_cases g16 : x2 = (3 : Int32)
                ·
                  rw [if_pos g16]
                  have h17 := T_FR_power (x2 := ((F_NM_bitsOf x2 x3 lx94 t0_1 t0_2 t16_0) : Int64)) (x3 := (1 : Int32)) (t0_0 := t9_0) (t0_1 := t9_1) (t0_2 := t9_2) (t0_3 := t9_3) (t0_4 := t9_4) (t0_5 := t9_5) (t0_6 := t9_6) (t0_7 := t9_7) (t0_8 := t9_8) (t0_9 := t9_9) (t0_10 := t9_10) (t1_0 := t10_0) (t2_0 := t11_0) (t3_0 := t12_0) (t4_0 := t13_0) (t5_0 := t14_0) (t6_0 := t15_0) 
                  with_reducible refine v_oweS h17.1 ?_
                  replace h17 := h17.2
                  generalize F_FR_power ((F_NM_bitsOf x2 x3 lx94 t0_1 t0_2 t16_0) : Int64) (1 : Int32) t9_0 t9_1 t9_2 t9_3 t9_4 t9_5 t9_6 t9_7 t9_8 t9_9 t9_10 t10_0 t11_0 t12_0 t13_0 t14_0 t15_0 = p293 at *
                  unfold Q_FR_power at h17
                  unfold S_NM_told_c200_4
                  exact trivial
                ·
                  rw [if_neg g16]
                  have h18 := T_FR_power (x2 := ((F_NM_bitsOf x2 x3 lx94 t0_1 t0_2 t16_0) : Int64)) (x3 := (0 : Int32)) (t0_0 := t9_0) (t0_1 := t9_1) (t0_2 := t9_2) (t0_3 := t9_3) (t0_4 := t9_4) (t0_5 := t9_5) (t0_6 := t9_6) (t0_7 := t9_7) (t0_8 := t9_8) (t0_9 := t9_9) (t0_10 := t9_10) (t1_0 := t10_0) (t2_0 := t11_0) (t3_0 := t12_0) (t4_0 := t13_0) (t5_0 := t14_0) (t6_0 := t15_0) 
                  with_reducible refine v_oweS h18.1 ?_
                  replace h18 := h18.2
                  generalize F_FR_power ((F_NM_bitsOf x2 x3 lx94 t0_1 t0_2 t16_0) : Int64) (0 : Int32) t9_0 t9_1 t9_2 t9_3 t9_4 t9_5 t9_6 t9_7 t9_8 t9_9 t9_10 t10_0 t11_0 t12_0 t13_0 t14_0 t15_0 = p217 at *
                  unfold Q_FR_power at h18
                  unfold S_NM_told_c200
                  exact trivial
          ·
            rw [if_neg g9]
            by_cases g19 : ((F_NM_isFinite x2 ((F_NM_bitsOf x2 x3 lx94 t0_1 t0_2 t16_0) : Int64)) : Int32) = (0 : Int32)
            ·
              rw [if_pos g19]
              unfold S_NM_told_J134
              have g20 : ¬ ((2 : Int32) ≤ (0 : Int32)) := (by decide)
              rw [if_neg g20]
              exact trivial
            ·
              rw [if_neg g19]
              unfold S_NM_told_J133
              unfold S_NM_told_J134
              have g21 : ((0 : Int32) ≤ (0 : Int32)) := (by decide)
              rw [if_pos g21]
              by_cases g22 : x4 = (0 : Int32)
              ·
                rw [if_pos g22]
                exact trivial
              ·
                rw [if_neg g22]
                by_cases g23 : x4 = (1 : Int32)
                ·
                  rw [if_pos g23]
                  by_cases g24 : x2 = (3 : Int32)
                  ·
                    rw [if_pos g24]
                    have h25 := T_FR_digits (x2 := ((F_NM_bitsOf x2 x3 lx94 t0_1 t0_2 t16_0) : Int64)) (x3 := (1 : Int32)) (t0_0 := t9_0) (t0_1 := t9_1) (t0_2 := t9_2) (t0_3 := t9_3) (t0_4 := t9_4) (t0_5 := t9_5) (t0_6 := t9_6) (t0_7 := t9_7) (t0_8 := t9_8) (t0_9 := t9_9) (t0_10 := t9_10) (t1_0 := t10_0) (t2_0 := t11_0) (t3_0 := t12_0) (t4_0 := t13_0) (t5_0 := t14_0) (t6_0 := t15_0) 
                    with_reducible refine v_oweS h25.1 ?_
                    replace h25 := h25.2
                    generalize F_FR_digits ((F_NM_bitsOf x2 x3 lx94 t0_1 t0_2 t16_0) : Int64) (1 : Int32) t9_0 t9_1 t9_2 t9_3 t9_4 t9_5 t9_6 t9_7 t9_8 t9_9 t9_10 t10_0 t11_0 t12_0 t13_0 t14_0 t15_0 = p444 at *
                    unfold Q_FR_digits at h25
                    unfold S_NM_told_c178_6
                    exact trivial
                  ·
                    rw [if_neg g24]
                    have h26 := T_FR_digits (x2 := ((F_NM_bitsOf x2 x3 lx94 t0_1 t0_2 t16_0) : Int64)) (x3 := (0 : Int32)) (t0_0 := t9_0) (t0_1 := t9_1) (t0_2 := t9_2) (t0_3 := t9_3) (t0_4 := t9_4) (t0_5 := t9_5) (t0_6 := t9_6) (t0_7 := t9_7) (t0_8 := t9_8) (t0_9 := t9_9) (t0_10 := t9_10) (t1_0 := t10_0) (t2_0 := t11_0) (t3_0 := t12_0) (t4_0 := t13_0) (t5_0 := t14_0) (t6_0 := t15_0) 
                    with_reducible refine v_oweS h26.1 ?_
                    replace h26 := h26.2
                    generalize F_FR_digits ((F_NM_bitsOf x2 x3 lx94 t0_1 t0_2 t16_0) : Int64) (0 : Int32) t9_0 t9_1 t9_2 t9_3 t9_4 t9_5 t9_6 t9_7 t9_8 t9_9 t9_10 t10_0 t11_0 t12_0 t13_0 t14_0 t15_0 = p371 at *
                    unfold Q_FR_digits at h26
                    unfold S_NM_told_c178
                    exact trivial
                ·
                  rw [if_neg g23]
                  by_cases g27 : x2 = (3 : Int32)
                  ·
                    rw [if_pos g27]
                    have h28 := T_FR_power (x2 := ((F_NM_bitsOf x2 x3 lx94 t0_1 t0_2 t16_0) : Int64)) (x3 := (1 : Int32)) (t0_0 := t9_0) (t0_1 := t9_1) (t0_2 := t9_2) (t0_3 := t9_3) (t0_4 := t9_4) (t0_5 := t9_5) (t0_6 := t9_6) (t0_7 := t9_7) (t0_8 := t9_8) (t0_9 := t9_9) (t0_10 := t9_10) (t1_0 := t10_0) (t2_0 := t11_0) (t3_0 := t12_0) (t4_0 := t13_0) (t5_0 := t14_0) (t6_0 := t15_0) 
                    with_reducible refine v_oweS h28.1 ?_
                    replace h28 := h28.2
                    generalize F_FR_power ((F_NM_bitsOf x2 x3 lx94 t0_1 t0_2 t16_0) : Int64) (1 : Int32) t9_0 t9_1 t9_2 t9_3 t9_4 t9_5 t9_6 t9_7 t9_8 t9_9 t9_10 t10_0 t11_0 t12_0 t13_0 t14_0 t15_0 = p293 at *
                    unfold Q_FR_power at h28
                    unfold S_NM_told_c200_4
                    exact trivial
                  ·
                    rw [if_neg g27]
                    have h29 := T_FR_power (x2 := ((F_NM_bitsOf x2 x3 lx94 t0_1 t0_2 t16_0) : Int64)) (x3 := (0 : Int32)) (t0_0 := t9_0) (t0_1 := t9_1) (t0_2 := t9_2) (t0_3 := t9_3) (t0_4 := t9_4) (t0_5 := t9_5) (t0_6 := t9_6) (t0_7 := t9_7) (t0_8 := t9_8) (t0_9 := t9_9) (t0_10 := t9_10) (t1_0 := t10_0) (t2_0 := t11_0) (t3_0 := t12_0) (t4_0 := t13_0) (t5_0 := t14_0) (t6_0 := t15_0) 
                    with_reducible refine v_oweS h29.1 ?_
                    replace h29 := h29.2
                    generalize F_FR_power ((F_NM_bitsOf x2 x3 lx94 t0_1 t0_2 t16_0) : Int64) (0 : Int32) t9_0 t9_1 t9_2 t9_3 t9_4 t9_5 t9_6 t9_7 t9_8 t9_9 t9_10 t10_0 t11_0 t12_0 t13_0 t14_0 t15_0 = p217 at *
                    unfold Q_FR_power at h29
                    unfold S_NM_told_c200
                    exact trivial
        ·
          rw [if_neg g8]
          unfold S_NM_told_J134
          have g30 : ¬ ((1 : Int32) ≤ (0 : Int32)) := (by decide)
          rw [if_neg g30]
          exact trivial
  ·
    rw [if_neg g1]
    exact trivial
theorem T_NM_told {x2 : Int32} {x3 : Int32} {x4 : Int32} {t0_0 : Int32} {t0_1 : Int32} {t0_2 : Int32} {t1_0 : Int32} {t1_1 : Int32} {t1_2 : Int32} {t1_3 : Int32} {t1_4 : Int32} {t1_5 : Int32} {t1_6 : Int32} {t2_0 : (Nat → Int32)} {t3_0 : (Nat → Int32)} {t4_0 : Int32} {t4_1 : Int32} {t4_2 : Int32} {t4_3 : Int64} {t4_4 : Int32} {t4_5 : Int32} {t4_6 : Int32} {t4_7 : Int32} {t4_8 : Int32} {t4_9 : Int32} {t4_10 : Int32} {t5_0 : (Nat → Int32)} {t6_0 : (Nat → Int32)} {t7_0 : (Nat → Int32)} {t8_0 : (Nat → Int32)} {t9_0 : Int32} {t9_1 : Int32} {t9_2 : Int32} {t9_3 : Int32} {t9_4 : Int64} {t9_5 : Int32} {t9_6 : Int32} {t9_7 : Int64} {t9_8 : Int32} {t9_9 : Int64} {t9_10 : Int32} {t10_0 : (Nat → Int32)} {t11_0 : (Nat → Int32)} {t12_0 : (Nat → Int32)} {t13_0 : (Nat → Int32)} {t14_0 : (Nat → Int32)} {t15_0 : (Nat → Int32)} {t16_0 : (Nat → Int64)} (hW : wR t2_0 t3_0) (hD : gR t5_0 t6_0 t7_0 t8_0) (hB : nmB t16_0)  : (S_NM_told x2 x3 x4 t0_0 t0_1 t0_2 t1_0 t1_1 t1_2 t1_3 t1_4 t1_5 t1_6 t2_0 t3_0 t4_0 t4_1 t4_2 t4_3 t4_4 t4_5 t4_6 t4_7 t4_8 t4_9 t4_10 t5_0 t6_0 t7_0 t8_0 t9_0 t9_1 t9_2 t9_3 t9_4 t9_5 t9_6 t9_7 t9_8 t9_9 t9_10 t10_0 t11_0 t12_0 t13_0 t14_0 t15_0 t16_0) := by
  have e0 : (0 : Int32).toInt = 0 := rfl
  have e1 : (1 : Int32).toInt = 1 := rfl
  have eL0 : (0 : Int64).toInt = 0 := rfl
  have em : (-1 : Int32).toInt = -1 := rfl
  unfold S_NM_told
  by_cases g1 : ((F_NM_no_IIZ x2 x3) : Int32) = (0 : Int32)
  ·
    rw [if_pos g1]
    have hno := (nm_no2 g1).2
    by_cases g2 : (0 : Int32) ≤ x4
    ·
      rw [if_pos g2]
      exact T_NM_toldJ hW hD hB (fun _ => hno)
    ·
      rw [if_neg g2]
      unfold S_NM_told_J13
      exact T_NM_toldJ hW hD hB (fun z => absurd z (by decide))
  ·
    rw [if_neg g1]
    unfold S_NM_told_J13
    exact T_NM_toldJ hW hD hB (fun z => absurd z (by decide))
theorem T_NM_compareJ {x2 : Int32} {x3 : Int32} {x4 : Int32} {t0_0 : Int32} {t0_1 : Int32} {t0_2 : Int32} {t1_0 : Int32} {t1_1 : Int32} {t1_2 : Int32} {t1_3 : Int32} {t1_4 : Int32} {t1_5 : Int32} {t1_6 : Int32} {t2_0 : (Nat → Int32)} {t3_0 : (Nat → Int32)} {t4_0 : (Nat → Int32)} {t5_0 : (Nat → Int32)} {t6_0 : Int32} {t6_1 : Int32} {t6_2 : Int32} {t6_3 : Int64} {t6_4 : Int32} {t6_5 : Int32} {t6_6 : Int32} {t6_7 : Int32} {t6_8 : Int32} {t6_9 : Int32} {t6_10 : Int32} {t7_0 : (Nat → Int32)} {t8_0 : (Nat → Int32)} {t9_0 : (Nat → Int32)} {t10_0 : (Nat → Int32)} {t11_0 : (Nat → Int64)} {lx69 : Int32} (hW : wR t2_0 t3_0) (hD : gR t7_0 t8_0 t9_0 t10_0) (hB : nmB t11_0) (hx : lx69.toInt ≤ 0 → (0 ≤ x3.toInt ∧ x3.toInt ≤ 9) ∧ 0 ≤ x4.toInt ∧ x4.toInt ≤ 9)  : (S_NM_compare_J21 x2 x3 x4 t0_0 t0_1 t0_2 t1_0 t1_1 t1_2 t1_3 t1_4 t1_5 t1_6 t2_0 t3_0 t4_0 t5_0 t6_0 t6_1 t6_2 t6_3 t6_4 t6_5 t6_6 t6_7 t6_8 t6_9 t6_10 t7_0 t8_0 t9_0 t10_0 t11_0 lx69) := by
  have e0 : (0 : Int32).toInt = 0 := rfl
  have e1 : (1 : Int32).toInt = 1 := rfl
  have eL0 : (0 : Int64).toInt = 0 := rfl
  have em : (-1 : Int32).toInt = -1 := rfl
  unfold S_NM_compare_J21
  by_cases g1 : lx69 ≤ (0 : Int32)
  ·
    rw [if_pos g1]
    have hx3 := (hx (q_leI g1)).1
    have hx4 := (hx (q_leI g1)).2
    by_cases g2 : (2 : Int32) ≤ x2
    ·
      rw [if_pos g2]
      have h3 := T_NM_bitsOf (x2 := x2) (x3 := x3) (t0_0 := lx69) (t0_1 := t0_1) (t0_2 := t0_2) (t1_0 := t11_0) (by first | with_reducible exact hx3 | with_reducible exact hx4)
      with_reducible refine v_oweS h3 ?_
      have h4 := T_NM_bitsOf (x2 := x2) (x3 := x4) (t0_0 := lx69) (t0_1 := t0_1) (t0_2 := t0_2) (t1_0 := t11_0) (by first | with_reducible exact hx3 | with_reducible exact hx4)
      with_reducible refine v_oweS h4 ?_
      by_cases g5 : ((F_NM_isNumber x2 ((F_NM_bitsOf x2 x3 lx69 t0_1 t0_2 t11_0) : Int64)) : Int32) = (0 : Int32)
      ·
        rw [if_pos g5]
        unfold S_NM_compare_J99
        unfold S_NM_compare_J104
        have g6 : ¬ ((2 : Int32) ≤ (0 : Int32)) := (by decide)
        rw [if_neg g6]
        exact trivial
      ·
        rw [if_neg g5]
        by_cases g7 : ((F_NM_isNumber x2 ((F_NM_bitsOf x2 x4 lx69 t0_1 t0_2 t11_0) : Int64)) : Int32) = (0 : Int32)
        ·
          rw [if_pos g7]
          unfold S_NM_compare_J99
          unfold S_NM_compare_J104
          have g8 : ¬ ((2 : Int32) ≤ (0 : Int32)) := (by decide)
          rw [if_neg g8]
          exact trivial
        ·
          rw [if_neg g7]
          unfold S_NM_compare_J104
          have g9 : ((0 : Int32) ≤ (0 : Int32)) := (by decide)
          rw [if_pos g9]
          by_cases g10 : (0 : Int32) ≤ (lg_cmp ((F_NM_placeOf x2 ((F_NM_bitsOf x2 x3 lx69 t0_1 t0_2 t11_0) : Int64)) : Int64) ((F_NM_placeOf x2 ((F_NM_bitsOf x2 x4 lx69 t0_1 t0_2 t11_0) : Int64)) : Int64) : Int32)
          ·
            rw [if_pos g10]
            by_cases g11 : (lg_cmp ((F_NM_placeOf x2 ((F_NM_bitsOf x2 x3 lx69 t0_1 t0_2 t11_0) : Int64)) : Int64) ((F_NM_placeOf x2 ((F_NM_bitsOf x2 x4 lx69 t0_1 t0_2 t11_0) : Int64)) : Int64) : Int32) ≤ (0 : Int32)
            ·
              rw [if_pos g11]
              exact trivial
            ·
              rw [if_neg g11]
              exact trivial
          ·
            rw [if_neg g10]
            exact trivial
    ·
      rw [if_neg g2]
      by_cases g12 : x2 = (0 : Int32)
      ·
        rw [if_pos g12]
        have h13 := T_WR_compare (x2 := x3) (x3 := x4) (t0_0 := t1_0) (t0_1 := t1_1) (t0_2 := t1_2) (t0_3 := t1_3) (t0_4 := t1_4) (t0_5 := t1_5) (t0_6 := t1_6) (t1_0 := t2_0) (t2_0 := t3_0) (t3_0 := t4_0) (t4_0 := t5_0) (by with_reducible assumption)
        with_reducible refine v_oweS h13 ?_
        generalize F_WR_compare x3 x4 t1_0 t1_1 t1_2 t1_3 t1_4 t1_5 t1_6 t2_0 t3_0 t4_0 t5_0 = p291 at *
        unfold S_NM_compare_c48
        exact trivial
      ·
        rw [if_neg g12]
        have h14 := T_DR_compare (x2 := x3) (x3 := x4) (t0_0 := t6_0) (t0_1 := t6_1) (t0_2 := t6_2) (t0_3 := t6_3) (t0_4 := t6_4) (t0_5 := t6_5) (t0_6 := t6_6) (t0_7 := t6_7) (t0_8 := t6_8) (t0_9 := t6_9) (t0_10 := t6_10) (t1_0 := t7_0) (t2_0 := t8_0) (t3_0 := t9_0) (t4_0 := t10_0) (by with_reducible assumption)
        with_reducible refine v_oweS h14 ?_
        generalize F_DR_compare x3 x4 t6_0 t6_1 t6_2 t6_3 t6_4 t6_5 t6_6 t6_7 t6_8 t6_9 t6_10 t7_0 t8_0 t9_0 t10_0 = p237 at *
        unfold S_NM_compare_c60
        exact trivial
  ·
    rw [if_neg g1]
    exact trivial
theorem T_NM_compare {x2 : Int32} {x3 : Int32} {x4 : Int32} {t0_0 : Int32} {t0_1 : Int32} {t0_2 : Int32} {t1_0 : Int32} {t1_1 : Int32} {t1_2 : Int32} {t1_3 : Int32} {t1_4 : Int32} {t1_5 : Int32} {t1_6 : Int32} {t2_0 : (Nat → Int32)} {t3_0 : (Nat → Int32)} {t4_0 : (Nat → Int32)} {t5_0 : (Nat → Int32)} {t6_0 : Int32} {t6_1 : Int32} {t6_2 : Int32} {t6_3 : Int64} {t6_4 : Int32} {t6_5 : Int32} {t6_6 : Int32} {t6_7 : Int32} {t6_8 : Int32} {t6_9 : Int32} {t6_10 : Int32} {t7_0 : (Nat → Int32)} {t8_0 : (Nat → Int32)} {t9_0 : (Nat → Int32)} {t10_0 : (Nat → Int32)} {t11_0 : (Nat → Int64)} (hW : wR t2_0 t3_0) (hD : gR t7_0 t8_0 t9_0 t10_0) (hB : nmB t11_0)  : (S_NM_compare x2 x3 x4 t0_0 t0_1 t0_2 t1_0 t1_1 t1_2 t1_3 t1_4 t1_5 t1_6 t2_0 t3_0 t4_0 t5_0 t6_0 t6_1 t6_2 t6_3 t6_4 t6_5 t6_6 t6_7 t6_8 t6_9 t6_10 t7_0 t8_0 t9_0 t10_0 t11_0) := by
  have e0 : (0 : Int32).toInt = 0 := rfl
  have e1 : (1 : Int32).toInt = 1 := rfl
  have eL0 : (0 : Int64).toInt = 0 := rfl
  have em : (-1 : Int32).toInt = -1 := rfl
  unfold S_NM_compare
  by_cases g1 : ((F_NM_no_IIZ x2 x3) : Int32) = (0 : Int32)
  ·
    rw [if_pos g1]
    have hno := (nm_no2 g1).2
    by_cases g2 : ((F_NM_no_IZ x4) : Int32) = (0 : Int32)
    ·
      rw [if_pos g2]
      have hno4 := nm_no1 g2
      exact T_NM_compareJ hW hD hB (fun _ => ⟨hno, hno4⟩)
    ·
      rw [if_neg g2]
      unfold S_NM_compare_J16
      exact T_NM_compareJ hW hD hB (fun z => absurd z (by decide))
  ·
    rw [if_neg g1]
    unfold S_NM_compare_J16
    exact T_NM_compareJ hW hD hB (fun z => absurd z (by decide))
theorem nm_pa {x k p : Int32} (hp : 0 ≤ p.toInt ∧ p.toInt ≤ 12200) (hk : 0 ≤ k.toInt ∧ k.toInt ≤ 8) (h1 : ¬ lg_cmp (x.toInt64 + k.toInt64) 0 < 0) (h2 : ¬ 0 ≤ lg_cmp (x.toInt64 + k.toInt64) p.toInt64) : 0 ≤ ((x.toInt64 + k.toInt64 : Int64).toInt32).toInt ∧ ((x.toInt64 + k.toInt64 : Int64).toInt32).toInt ≤ 12199 := by
  have a := g_lc2 h1
  have b := g_lc6 h2
  have e : p.toInt64.toInt = p.toInt := q_i2l rfl
  have z : (0 : Int64).toInt = 0 := rfl
  have c : ((x.toInt64 + k.toInt64 : Int64).toInt32).toInt = (x.toInt64 + k.toInt64 : Int64).toInt := by
    rw [Int64.toInt_toInt32]; exact Int.bmod_eq_of_le (by omega) (by omega)
  omega
theorem vm_pa {x2 : Int32} {t0_0 : Int32} {t0_1 : Int32} {t0_2 : Int32} {t1_0 : (Nat → Int32)} (h02 : 0 ≤ t0_2.toInt ∧ t0_2.toInt ≤ 12200)  : ∀ (n : Nat) (lx14 : Int32) (lx15 : Int64), (0 ≤ lx14.toInt ∧ lx14.toInt ≤ 8) → (8 - lx14.toInt < (n : Int)) → (S_NM_paperAt_L10 x2 t0_0 t0_1 t0_2 t1_0 n lx14 lx15) := by
  intro n
  induction n with
  | zero => intro lx14 lx15 hA0 hm; exact absurd (show False by omega) id
  | succ n ih =>
    intro lx14 lx15 hA0 hm
    have e0 : (0 : Int32).toInt = 0 := rfl
    have e1 : (1 : Int32).toInt = 1 := rfl
    have eL0 : (0 : Int64).toInt = 0 := rfl
    have em : (-1 : Int32).toInt = -1 := rfl
    rw [S_NM_paperAt_L10.eq_2]
    by_cases g1 : (8 : Int32) ≤ lx14
    ·
      rw [if_pos g1]
      have g1i : 8 ≤ lx14.toInt := q_leI g1
      exact trivial
    ·
      rw [if_neg g1]
      have g1i : lx14.toInt < 8 := q_nleI g1
      by_cases g2 : (lg_cmp ((x2.toInt64 : Int64) + (lx14.toInt64 : Int64) : Int64) 0 : Int32) < (0 : Int32)
      ·
        rw [if_pos g2]
        obtain ⟨a3, e4⟩ := q_nm (lx14 + 1 : Int32)
        rw [e4]
        have a3i : a3.toInt = lx14.toInt + 1 := by rw [← e4]; exact q_addI (x := lx14.toInt) (y := 1) rfl (by decide) (by omega) (by omega)
        exact ih _ _ ⟨by omega, by omega⟩ (by omega)
      ·
        rw [if_neg g2]
        have gA := g2
        by_cases g5 : (0 : Int32) ≤ (lg_cmp ((x2.toInt64 : Int64) + (lx14.toInt64 : Int64) : Int64) (t0_2.toInt64 : Int64) : Int32)
        ·
          rw [if_pos g5]
          obtain ⟨a6, e7⟩ := q_nm (lx14 + 1 : Int32)
          rw [e7]
          have a6i : a6.toInt = lx14.toInt + 1 := by rw [← e7]; exact q_addI (x := lx14.toInt) (y := 1) rfl (by decide) (by omega) (by omega)
          exact ih _ _ ⟨by omega, by omega⟩ (by omega)
        ·
          rw [if_neg g5]
          have gB := g5
          refine And.intro (by first | exact (nm_pa h02 ⟨by omega, by omega⟩ gA gB).1 | exact (nm_pa h02 ⟨by omega, by omega⟩ gA gB).2) ?_
          obtain ⟨a8, e9⟩ := q_nm (lx14 + 1 : Int32)
          rw [e9]
          have a8i : a8.toInt = lx14.toInt + 1 := by rw [← e9]; exact q_addI (x := lx14.toInt) (y := 1) rfl (by decide) (by omega) (by omega)
          exact ih _ _ ⟨by omega, by omega⟩ (by omega)
theorem T_NM_paperAt {x2 : Int32} {t0_0 : Int32} {t0_1 : Int32} {t0_2 : Int32} {t1_0 : (Nat → Int32)} (h02 : 0 ≤ t0_2.toInt ∧ t0_2.toInt ≤ 12200)  : (S_NM_paperAt x2 t0_0 t0_1 t0_2 t1_0) := by
  have e0 : (0 : Int32).toInt = 0 := rfl
  have e1 : (1 : Int32).toInt = 1 := rfl
  have eL0 : (0 : Int64).toInt = 0 := rfl
  have em : (-1 : Int32).toInt = -1 := rfl
  unfold S_NM_paperAt
  exact vm_pa h02 _ _ _ (by decide) (by decide)
