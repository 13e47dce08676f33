/-! NumberHouseModel: toFloat, convert -/
theorem T_FZ_narrowed {x2 : Int64} {t0_0 : Int32} {t0_1 : Int32} {t0_2 : Int32} {t0_3 : Int32} {t0_4 : Int64} {t0_5 : Int32} {t0_6 : Int32} {t0_7 : Int64} {t0_8 : Int32} {t0_9 : Int64} {t0_10 : Int32} : (S_FR_narrowed x2 t0_0 t0_1 t0_2 t0_3 t0_4 t0_5 t0_6 t0_7 t0_8 t0_9 t0_10) ∧ Q_FX_nar (F_FR_narrowed x2 t0_0 t0_1 t0_2 t0_3 t0_4 t0_5 t0_6 t0_7 t0_8 t0_9 t0_10) := ⟨T_FR_narrowed, T_FX_narrowed⟩
def Q_NM_toFloat (p : Int32 × Int32 × Int32 × Int32 × Int32 × Int32 × Int32 × (Nat → Int32) × (Nat → Int32) × Int32 × Int32 × Int32 × Int64 × Int32 × Int32 × Int32 × Int32 × Int32 × Int32 × Int32 × (Nat → Int32) × Int32 × Int32 × Int32 × Int32 × Int64 × Int32 × Int32 × Int64 × Int32 × Int64 × Int32 × Int32 × Int32 × Int32 × Int32 × Int32 × Int32 × Int32 × Int64 × Int32 × Int32 × Int64 × Int64 × Int32 × Int32 × (Nat → Int32) × (Nat → Int32) × (Nat → Int32) × (Nat → Int64)) : Prop := nmB p.2.2.2.2.2.2.2.2.2.2.2.2.2.2.2.2.2.2.2.2.2.2.2.2.2.2.2.2.2.2.2.2.2.2.2.2.2.2.2.2.2.2.2.2.2.2.2.2.2
theorem nm_toFloatA {c0 : Int32} {c1 : Int32} {c2 : Int32} {c3 : Int32} {c4 : Int32} {c5 : Int32} {c6 : Int32} {c7 : (Nat → Int32)} {c8 : (Nat → Int32)} {c9 : Int32} {c10 : Int32} {c11 : Int32} {c12 : Int64} {c13 : Int32} {c14 : Int32} {c15 : Int32} {c16 : Int32} {c17 : Int32} {c18 : Int32} {c19 : Int32} {c20 : (Nat → Int32)} {c21 : Int32} {c22 : Int32} {c23 : Int32} {c24 : Int32} {c25 : Int64} {c26 : Int32} {c27 : Int32} {c28 : Int64} {c29 : Int32} {c30 : Int64} {c31 : Int32} {c32 : Int32} {c33 : Int32} {c34 : Int32} {c35 : Int32} {c36 : Int32} {c37 : Int32} {c38 : Int32} {c39 : Int64} {c40 : Int32} {c41 : Int32} {c42 : Int64} {c43 : Int64} {c44 : Int32} {c45 : Int32} {c46 : (Nat → Int32)} {c47 : (Nat → Int32)} {c48 : (Nat → Int32)} {c49 : (Nat → Int64)} (h0 : nmB c49) : Q_NM_toFloat (c0, c1, c2, c3, c4, c5, c6, c7, c8, c9, c10, c11, c12, c13, c14, c15, c16, c17, c18, c19, c20, c21, c22, c23, c24, c25, c26, c27, c28, c29, c30, c31, c32, c33, c34, c35, c36, c37, c38, c39, c40, c41, c42, c43, c44, c45, c46, c47, c48, c49) := h0
theorem T_NM_toFloat {x2 : Int32} {x3 : Int32} {x4 : Int32} {x5 : Int32} {t0_0 : Int32} {t0_1 : Int32} {t0_2 : Int32} {t1_0 : Int32} {t1_1 : Int32} {t1_2 : Int32} {t1_3 : Int32} {t1_4 : Int32} {t1_5 : Int32} {t1_6 : Int32} {t2_0 : (Nat → Int32)} {t3_0 : (Nat → Int32)} {t4_0 : (Nat → Int32)} {t5_0 : (Nat → Int32)} {t6_0 : Int32} {t6_1 : Int32} {t6_2 : Int32} {t6_3 : Int64} {t6_4 : Int32} {t6_5 : Int32} {t6_6 : Int32} {t6_7 : Int32} {t6_8 : Int32} {t6_9 : Int32} {t6_10 : Int32} {t7_0 : (Nat → Int32)} {t8_0 : (Nat → Int32)} {t9_0 : (Nat → Int32)} {t10_0 : (Nat → Int32)} {t11_0 : (Nat → Int32)} {t12_0 : Int32} {t12_1 : Int32} {t12_2 : Int32} {t12_3 : Int32} {t12_4 : Int64} {t12_5 : Int32} {t12_6 : Int32} {t12_7 : Int64} {t12_8 : Int32} {t12_9 : Int64} {t12_10 : Int32} {t13_0 : Int32} {t13_1 : Int32} {t13_2 : Int32} {t13_3 : Int32} {t13_4 : Int32} {t13_5 : Int32} {t13_6 : Int32} {t13_7 : Int64} {t13_8 : Int32} {t13_9 : Int32} {t13_10 : Int64} {t13_11 : Int64} {t13_12 : Int32} {t13_13 : Int32} {t14_0 : (Nat → Int32)} {t15_0 : (Nat → Int32)} {t16_0 : (Nat → Int32)} {t17_0 : (Nat → Int64)} (hW : wR t2_0 t3_0) (hD : gR t7_0 t8_0 t9_0 t10_0) (hB : nmB t17_0) (hx2 : 0 ≤ x2.toInt ∧ x2.toInt ≤ 3) (hx3 : 0 ≤ x3.toInt ∧ x3.toInt ≤ 9) (hx5 : 0 ≤ x5.toInt ∧ x5.toInt ≤ 9)  : (S_NM_toFloat x2 x3 x4 x5 t0_0 t0_1 t0_2 t1_0 t1_1 t1_2 t1_3 t1_4 t1_5 t1_6 t2_0 t3_0 t4_0 t5_0 t6_0 t6_1 t6_2 t6_3 t6_4 t6_5 t6_6 t6_7 t6_8 t6_9 t6_10 t7_0 t8_0 t9_0 t10_0 t11_0 t12_0 t12_1 t12_2 t12_3 t12_4 t12_5 t12_6 t12_7 t12_8 t12_9 t12_10 t13_0 t13_1 t13_2 t13_3 t13_4 t13_5 t13_6 t13_7 t13_8 t13_9 t13_10 t13_11 t13_12 t13_13 t14_0 t15_0 t16_0 t17_0) ∧ Q_NM_toFloat (F_NM_toFloat x2 x3 x4 x5 t0_0 t0_1 t0_2 t1_0 t1_1 t1_2 t1_3 t1_4 t1_5 t1_6 t2_0 t3_0 t4_0 t5_0 t6_0 t6_1 t6_2 t6_3 t6_4 t6_5 t6_6 t6_7 t6_8 t6_9 t6_10 t7_0 t8_0 t9_0 t10_0 t11_0 t12_0 t12_1 t12_2 t12_3 t12_4 t12_5 t12_6 t12_7 t12_8 t12_9 t12_10 t13_0 t13_1 t13_2 t13_3 t13_4 t13_5 t13_6 t13_7 t13_8 t13_9 t13_10 t13_11 t13_12 t13_13 t14_0 t15_0 t16_0 t17_0) := by
  have e0 : (0 : Int32).toInt = 0 := rfl
  have e1 : (1 : Int32).toInt = 1 := rfl
  have eL0 : (0 : Int64).toInt = 0 := rfl
  have em : (-1 : Int32).toInt = -1 := rfl
  have n1600 : (1600 : Int32).toInt = 1600 := rfl
  have n2100 : (2100 : Int32).toInt = 2100 := rfl
  have n4100 : (4100 : Int32).toInt = 4100 := rfl
  have n12200 : (12200 : Int32).toInt = 12200 := rfl
  have n2 : (2 : Int32).toInt = 2 := rfl
  have n3 : (3 : Int32).toInt = 3 := rfl
  unfold S_NM_toFloat F_NM_toFloat
  by_cases g1 : ((F_NM_isFloat x2) : Int32) = (0 : Int32)
  ·
    rw [if_pos g1, if_pos g1]
    by_cases g2 : x2 = (0 : Int32)
    ·
      rw [if_pos g2, if_pos g2]
      have h3 := T_WR_written (x2 := x3) (x3 := (10 : Int32)) (t0_0 := t1_0) (t0_1 := t1_1) (t0_2 := t1_2) (t0_3 := t1_3) (t0_4 := t1_4) (t0_5 := t1_5) (t0_6 := t1_6) (t1_0 := t2_0) (t2_0 := t3_0) (t3_0 := t4_0) (t4_0 := t5_0) (by with_reducible assumption)
      with_reducible refine v_owe h3.1 ?_
      replace h3 := h3.2
      generalize F_WR_written x3 (10 : Int32) t1_0 t1_1 t1_2 t1_3 t1_4 t1_5 t1_6 t2_0 t3_0 t4_0 t5_0 = p383 at *
      unfold Q_WR_written at h3
      unfold S_NM_toFloat_c70 F_NM_toFloat_c70
      have h4 := T_NM_load (N1 := (2100 : Int32)) (x2 := (p383.1 : Int32)) (N3 := (4100 : Int32)) (t0_0 := (p383.2.2.2.2.2.2.2.2.2 : (Nat → Int32))) (t1_0 := t14_0) (by first | omega | decide) (by first | omega | decide) (by first | omega | decide)
      with_reducible refine v_owe h4.1 ?_
      replace h4 := h4.2
      generalize F_NM_load (2100 : Int32) (p383.1 : Int32) (4100 : Int32) (p383.2.2.2.2.2.2.2.2.2 : (Nat → Int32)) t14_0 = p413 at *
      have qL := h4
      have eL := congrArg Int32.toInt h4.1
      unfold S_NM_toFloat_c121_6 F_NM_toFloat_c121_6
      by_cases g5 : x4 = (2 : Int32)
      ·
        rw [if_pos g5, if_pos g5]
        have g4 := g5
        have h6 := T_TR_bits (t0_0 := t13_0) (t0_1 := (p413.1 : Int32)) (t0_2 := t13_2) (t0_3 := t13_3) (t0_4 := t13_4) (t0_5 := t13_5) (t0_6 := t13_6) (t0_7 := t13_7) (t0_8 := t13_8) (t0_9 := t13_9) (t0_10 := t13_10) (t0_11 := t13_11) (t0_12 := t13_12) (t0_13 := t13_13) (t1_0 := (p413.2 : (Nat → Int32))) (t2_0 := t15_0) (t3_0 := t16_0) trivial ⟨by omega, by omega⟩
        with_reducible refine v_owe h6 ?_
        generalize F_TR_bits t13_0 (p413.1 : Int32) t13_2 t13_3 t13_4 t13_5 t13_6 t13_7 t13_8 t13_9 t13_10 t13_11 t13_12 t13_13 (p413.2 : (Nat → Int32)) t15_0 t16_0 = p537 at *
        unfold S_NM_toFloat_c136_8 F_NM_toFloat_c136_8
        have h7 := T_NM_setBits (x2 := x4) (x3 := x5) (x4 := (p537.1 : Int64)) (t0_0 := t0_0) (t0_1 := t0_1) (t0_2 := t0_2) (t1_0 := t17_0) hx5 hB (fun z => absurd (g4.symm.trans z) (by decide))
        have h7B := h7.2
        with_reducible refine v_owe h7.1 ?_
        refine ⟨trivial, ?_⟩
        exact nm_toFloatA (by with_reducible assumption)
      ·
        rw [if_neg g5, if_neg g5]
        have h8 := T_TR_floatBits (t0_0 := t13_0) (t0_1 := (p413.1 : Int32)) (t0_2 := t13_2) (t0_3 := t13_3) (t0_4 := t13_4) (t0_5 := t13_5) (t0_6 := t13_6) (t0_7 := t13_7) (t0_8 := t13_8) (t0_9 := t13_9) (t0_10 := t13_10) (t0_11 := t13_11) (t0_12 := t13_12) (t0_13 := t13_13) (t1_0 := (p413.2 : (Nat → Int32))) (t2_0 := t15_0) (t3_0 := t16_0) trivial ⟨by omega, by omega⟩
        with_reducible refine v_owe h8 ?_
        generalize F_TR_floatBits t13_0 (p413.1 : Int32) t13_2 t13_3 t13_4 t13_5 t13_6 t13_7 t13_8 t13_9 t13_10 t13_11 t13_12 t13_13 (p413.2 : (Nat → Int32)) t15_0 t16_0 = p461 at *
        unfold S_NM_toFloat_c146_7 F_NM_toFloat_c146_7
        have h9 := T_NM_setBits (x2 := x4) (x3 := x5) (x4 := (((p461.1 : Int32).toInt64 : Int64) &&& 4294967295 : Int64)) (t0_0 := t0_0) (t0_1 := t0_1) (t0_2 := t0_2) (t1_0 := t17_0) hx5 hB (fun _ => nm_and32)
        have h9B := h9.2
        with_reducible refine v_owe h9.1 ?_
        refine ⟨trivial, ?_⟩
        exact nm_toFloatA (by with_reducible assumption)
    ·
      rw [if_neg g2, if_neg g2]
      have h10 := T_DR_written (x2 := x3) (x3 := (0 : Int32)) (t0_0 := t6_0) (t0_1 := t6_1) (t0_2 := t6_2) (t0_3 := t6_3) (t0_4 := t6_4) (t0_5 := t6_5) (t0_6 := t6_6) (t0_7 := t6_7) (t0_8 := t6_8) (t0_9 := t6_9) (t0_10 := t6_10) (t1_0 := t7_0) (t2_0 := t8_0) (t3_0 := t9_0) (t4_0 := t10_0) (t5_0 := t11_0) (by with_reducible assumption)
      with_reducible refine v_owe h10.1 ?_
      replace h10 := h10.2
      generalize F_DR_written x3 (0 : Int32) t6_0 t6_1 t6_2 t6_3 t6_4 t6_5 t6_6 t6_7 t6_8 t6_9 t6_10 t7_0 t8_0 t9_0 t10_0 t11_0 = p157 at *
      unfold Q_DR_written at h10
      unfold S_NM_toFloat_c82 F_NM_toFloat_c82
      have h11 := T_NM_load (N1 := (12200 : Int32)) (x2 := (p157.1 : Int32)) (N3 := (4100 : Int32)) (t0_0 := (p157.2.2.2.2.2.2.2.2.2.2.2.2 : (Nat → Int32))) (t1_0 := t14_0) (by first | omega | decide) (by first | omega | decide) (by first | omega | decide)
      with_reducible refine v_owe h11.1 ?_
      replace h11 := h11.2
      generalize F_NM_load (12200 : Int32) (p157.1 : Int32) (4100 : Int32) (p157.2.2.2.2.2.2.2.2.2.2.2.2 : (Nat → Int32)) t14_0 = p190 at *
      have qL := h11
      have eL := congrArg Int32.toInt h11.1
      unfold S_NM_toFloat_c121 F_NM_toFloat_c121
      by_cases g12 : x4 = (2 : Int32)
      ·
        rw [if_pos g12, if_pos g12]
        have g4 := g12
        have h13 := T_TR_bits (t0_0 := t13_0) (t0_1 := (p190.1 : Int32)) (t0_2 := t13_2) (t0_3 := t13_3) (t0_4 := t13_4) (t0_5 := t13_5) (t0_6 := t13_6) (t0_7 := t13_7) (t0_8 := t13_8) (t0_9 := t13_9) (t0_10 := t13_10) (t0_11 := t13_11) (t0_12 := t13_12) (t0_13 := t13_13) (t1_0 := (p190.2 : (Nat → Int32))) (t2_0 := t15_0) (t3_0 := t16_0) trivial ⟨by omega, by omega⟩
        with_reducible refine v_owe h13 ?_
        generalize F_TR_bits t13_0 (p190.1 : Int32) t13_2 t13_3 t13_4 t13_5 t13_6 t13_7 t13_8 t13_9 t13_10 t13_11 t13_12 t13_13 (p190.2 : (Nat → Int32)) t15_0 t16_0 = p314 at *
        unfold S_NM_toFloat_c136 F_NM_toFloat_c136
        have h14 := T_NM_setBits (x2 := x4) (x3 := x5) (x4 := (p314.1 : Int64)) (t0_0 := t0_0) (t0_1 := t0_1) (t0_2 := t0_2) (t1_0 := t17_0) hx5 hB (fun z => absurd (g4.symm.trans z) (by decide))
        have h14B := h14.2
        with_reducible refine v_owe h14.1 ?_
        refine ⟨trivial, ?_⟩
        exact nm_toFloatA (by with_reducible assumption)
      ·
        rw [if_neg g12, if_neg g12]
        have h15 := T_TR_floatBits (t0_0 := t13_0) (t0_1 := (p190.1 : Int32)) (t0_2 := t13_2) (t0_3 := t13_3) (t0_4 := t13_4) (t0_5 := t13_5) (t0_6 := t13_6) (t0_7 := t13_7) (t0_8 := t13_8) (t0_9 := t13_9) (t0_10 := t13_10) (t0_11 := t13_11) (t0_12 := t13_12) (t0_13 := t13_13) (t1_0 := (p190.2 : (Nat → Int32))) (t2_0 := t15_0) (t3_0 := t16_0) trivial ⟨by omega, by omega⟩
        with_reducible refine v_owe h15 ?_
        generalize F_TR_floatBits t13_0 (p190.1 : Int32) t13_2 t13_3 t13_4 t13_5 t13_6 t13_7 t13_8 t13_9 t13_10 t13_11 t13_12 t13_13 (p190.2 : (Nat → Int32)) t15_0 t16_0 = p238 at *
        unfold S_NM_toFloat_c146 F_NM_toFloat_c146
        have h16 := T_NM_setBits (x2 := x4) (x3 := x5) (x4 := (((p238.1 : Int32).toInt64 : Int64) &&& 4294967295 : Int64)) (t0_0 := t0_0) (t0_1 := t0_1) (t0_2 := t0_2) (t1_0 := t17_0) hx5 hB (fun _ => nm_and32)
        have h16B := h16.2
        with_reducible refine v_owe h16.1 ?_
        refine ⟨trivial, ?_⟩
        exact nm_toFloatA (by with_reducible assumption)
  ·
    rw [if_neg g1, if_neg g1]
    have gI := g1
    have h17 := T_NM_bitsOf (x2 := x2) (x3 := x3) (t0_0 := t0_0) (t0_1 := t0_1) (t0_2 := t0_2) (t1_0 := t17_0) hx3
    with_reducible refine v_owe h17 ?_
    by_cases g18 : x2 = x4
    ·
      rw [if_pos g18, if_pos g18]
      have gE := g18
      have h19 := T_NM_setBits (x2 := x4) (x3 := x5) (x4 := ((F_NM_bitsOf x2 x3 t0_0 t0_1 t0_2 t17_0) : Int64)) (t0_0 := t0_0) (t0_1 := t0_1) (t0_2 := t0_2) (t1_0 := t17_0) hx5 hB (fun z => nm_bo hB hx3 (gE.trans z))
      have h19B := h19.2
      with_reducible refine v_owe h19.1 ?_
      refine ⟨trivial, ?_⟩
      exact nm_toFloatA (by with_reducible assumption)
    ·
      rw [if_neg g18, if_neg g18]
      have gE := g18
      by_cases g20 : x2 = (2 : Int32)
      ·
        rw [if_pos g20, if_pos g20]
        have h21 := T_FZ_narrowed (x2 := ((F_NM_bitsOf x2 x3 t0_0 t0_1 t0_2 t17_0) : Int64)) (t0_0 := t12_0) (t0_1 := t12_1) (t0_2 := t12_2) (t0_3 := t12_3) (t0_4 := t12_4) (t0_5 := t12_5) (t0_6 := t12_6) (t0_7 := t12_7) (t0_8 := t12_8) (t0_9 := t12_9) (t0_10 := t12_10) 
        have h21N := h21.2
        with_reducible refine v_owe h21.1 ?_
        replace h21 := h21.2
        generalize F_FR_narrowed ((F_NM_bitsOf x2 x3 t0_0 t0_1 t0_2 t17_0) : Int64) t12_0 t12_1 t12_2 t12_3 t12_4 t12_5 t12_6 t12_7 t12_8 t12_9 t12_10 = p677 at *
        unfold Q_FX_nar at h21
        have nN := h21
        unfold S_NM_toFloat_c39 F_NM_toFloat_c39
        have h22 := T_NM_setBits (x2 := x4) (x3 := x5) (x4 := (p677.1 : Int64)) (t0_0 := t0_0) (t0_1 := t0_1) (t0_2 := t0_2) (t1_0 := t17_0) hx5 hB (fun _ => by first | with_reducible assumption | exact nN)
        have h22B := h22.2
        with_reducible refine v_owe h22.1 ?_
        refine ⟨trivial, ?_⟩
        exact nm_toFloatA (by with_reducible assumption)
      ·
        rw [if_neg g20, if_neg g20]
        have gN2 := g20
        have h23 := T_FR_widened (x2 := ((F_NM_bitsOf x2 x3 t0_0 t0_1 t0_2 t17_0) : Int64)) (t0_0 := t12_0) (t0_1 := t12_1) (t0_2 := t12_2) (t0_3 := t12_3) (t0_4 := t12_4) (t0_5 := t12_5) (t0_6 := t12_6) (t0_7 := t12_7) (t0_8 := t12_8) (t0_9 := t12_9) (t0_10 := t12_10) 
        with_reducible refine v_owe h23 ?_
        generalize F_FR_widened ((F_NM_bitsOf x2 x3 t0_0 t0_1 t0_2 t17_0) : Int64) t12_0 t12_1 t12_2 t12_3 t12_4 t12_5 t12_6 t12_7 t12_8 t12_9 t12_10 = p610 at *
        unfold S_NM_toFloat_c51 F_NM_toFloat_c51
        have h24 := T_NM_setBits (x2 := x4) (x3 := x5) (x4 := (p610.1 : Int64)) (t0_0 := t0_0) (t0_1 := t0_1) (t0_2 := t0_2) (t1_0 := t17_0) hx5 hB (fun z => absurd (q_Ieq (x := x2.toInt) (y := x4.toInt) rfl rfl (by have e4 := q_eqI z; have := nm_if1 gI; have := q_neI gN2; omega)) gE)
        have h24B := h24.2
        with_reducible refine v_owe h24.1 ?_
        refine ⟨trivial, ?_⟩
        exact nm_toFloatA (by with_reducible assumption)
def Q_NM_convert (p : Int32 × Int32 × Int32 × Int32 × Int32 × Int32 × Int32 × Int32 × (Nat → Int32) × (Nat → Int32) × (Nat → Int32) × (Nat → Int32) × (Nat → Int32) × (Nat → Int32) × (Nat → Int32) × Int32 × Int32 × Int32 × Int64 × Int32 × Int32 × Int32 × Int32 × Int32 × Int32 × Int32 × (Nat → Int32) × (Nat → Int32) × (Nat → Int32) × (Nat → Int32) × (Nat → Int32) × (Nat → Int32) × (Nat → Int32) × Int32 × Int32 × Int32 × Int32 × Int64 × Int32 × Int32 × Int64 × Int32 × Int64 × Int32 × (Nat → Int32) × (Nat → Int32) × (Nat → Int32) × (Nat → Int32) × (Nat → Int32) × Int32 × Int32 × Int32 × Int32 × Int32 × Int32 × Int32 × Int64 × Int32 × Int32 × Int64 × Int64 × Int32 × Int32 × (Nat → Int32) × (Nat → Int32) × (Nat → Int32) × (Nat → Int64)) : Prop := wR p.2.2.2.2.2.2.2.2.2.1 p.2.2.2.2.2.2.2.2.2.2.1 ∧ gR p.2.2.2.2.2.2.2.2.2.2.2.2.2.2.2.2.2.2.2.2.2.2.2.2.2.2.2.1 p.2.2.2.2.2.2.2.2.2.2.2.2.2.2.2.2.2.2.2.2.2.2.2.2.2.2.2.2.1 p.2.2.2.2.2.2.2.2.2.2.2.2.2.2.2.2.2.2.2.2.2.2.2.2.2.2.2.2.2.1 p.2.2.2.2.2.2.2.2.2.2.2.2.2.2.2.2.2.2.2.2.2.2.2.2.2.2.2.2.2.2.1 ∧ nmB p.2.2.2.2.2.2.2.2.2.2.2.2.2.2.2.2.2.2.2.2.2.2.2.2.2.2.2.2.2.2.2.2.2.2.2.2.2.2.2.2.2.2.2.2.2.2.2.2.2.2.2.2.2.2.2.2.2.2.2.2.2.2.2.2.2.2
theorem nm_convertA {c0 : Int32} {c1 : Int32} {c2 : Int32} {c3 : Int32} {c4 : Int32} {c5 : Int32} {c6 : Int32} {c7 : Int32} {c8 : (Nat → Int32)} {c9 : (Nat → Int32)} {c10 : (Nat → Int32)} {c11 : (Nat → Int32)} {c12 : (Nat → Int32)} {c13 : (Nat → Int32)} {c14 : (Nat → Int32)} {c15 : Int32} {c16 : Int32} {c17 : Int32} {c18 : Int64} {c19 : Int32} {c20 : Int32} {c21 : Int32} {c22 : Int32} {c23 : Int32} {c24 : Int32} {c25 : Int32} {c26 : (Nat → Int32)} {c27 : (Nat → Int32)} {c28 : (Nat → Int32)} {c29 : (Nat → Int32)} {c30 : (Nat → Int32)} {c31 : (Nat → Int32)} {c32 : (Nat → Int32)} {c33 : Int32} {c34 : Int32} {c35 : Int32} {c36 : Int32} {c37 : Int64} {c38 : Int32} {c39 : Int32} {c40 : Int64} {c41 : Int32} {c42 : Int64} {c43 : Int32} {c44 : (Nat → Int32)} {c45 : (Nat → Int32)} {c46 : (Nat → Int32)} {c47 : (Nat → Int32)} {c48 : (Nat → Int32)} {c49 : Int32} {c50 : Int32} {c51 : Int32} {c52 : Int32} {c53 : Int32} {c54 : Int32} {c55 : Int32} {c56 : Int64} {c57 : Int32} {c58 : Int32} {c59 : Int64} {c60 : Int64} {c61 : Int32} {c62 : Int32} {c63 : (Nat → Int32)} {c64 : (Nat → Int32)} {c65 : (Nat → Int32)} {c66 : (Nat → Int64)} (h0 : wR c9 c10) (h1 : gR c27 c28 c29 c30) (h2 : nmB c66) : Q_NM_convert (c0, c1, c2, c3, c4, c5, c6, c7, c8, c9, c10, c11, c12, c13, c14, c15, c16, c17, c18, c19, c20, c21, c22, c23, c24, c25, c26, c27, c28, c29, c30, c31, c32, c33, c34, c35, c36, c37, c38, c39, c40, c41, c42, c43, c44, c45, c46, c47, c48, c49, c50, c51, c52, c53, c54, c55, c56, c57, c58, c59, c60, c61, c62, c63, c64, c65, c66) := ⟨h0, h1, h2⟩
theorem T_NM_cv81 {x2 : Int32} {x3 : Int32} {x4 : Int32} {x5 : Int32} {t0_0 : Int32} {t0_1 : Int32} {t0_2 : Int32} {t1_0 : Int32} {t1_1 : Int32} {t1_2 : Int32} {t1_3 : Int32} {t1_4 : Int32} {t1_5 : Int32} {t1_6 : Int32} {t2_0 : (Nat → Int32)} {t3_0 : (Nat → Int32)} {t4_0 : (Nat → Int32)} {t5_0 : (Nat → Int32)} {t6_0 : (Nat → Int32)} {t7_0 : (Nat → Int32)} {t8_0 : (Nat → Int32)} {t9_0 : Int32} {t9_1 : Int32} {t9_2 : Int32} {t9_3 : Int64} {t9_4 : Int32} {t9_5 : Int32} {t9_6 : Int32} {t9_7 : Int32} {t9_8 : Int32} {t9_9 : Int32} {t9_10 : Int32} {t10_0 : (Nat → Int32)} {t11_0 : (Nat → Int32)} {t12_0 : (Nat → Int32)} {t13_0 : (Nat → Int32)} {t14_0 : (Nat → Int32)} {t15_0 : (Nat → Int32)} {t16_0 : (Nat → Int32)} {t17_0 : Int32} {t17_1 : Int32} {t17_2 : Int32} {t17_3 : Int32} {t17_4 : Int64} {t17_5 : Int32} {t17_6 : Int32} {t17_7 : Int64} {t17_8 : Int32} {t17_9 : Int64} {t17_10 : Int32} {t18_0 : (Nat → Int32)} {t19_0 : (Nat → Int32)} {t20_0 : (Nat → Int32)} {t21_0 : (Nat → Int32)} {t22_0 : (Nat → Int32)} {t23_0 : Int32} {t23_1 : Int32} {t23_2 : Int32} {t23_3 : Int32} {t23_4 : Int32} {t23_5 : Int32} {t23_6 : Int32} {t23_7 : Int64} {t23_8 : Int32} {t23_9 : Int32} {t23_10 : Int64} {t23_11 : Int64} {t23_12 : Int32} {t23_13 : Int32} {t24_0 : (Nat → Int32)} {t25_0 : (Nat → Int32)} {t26_0 : (Nat → Int32)} {t27_0 : (Nat → Int64)} {lx142 : Int32} (hW : wR t3_0 t4_0) (hD : gR t11_0 t12_0 t13_0 t14_0) (hB : nmB t27_0) (hxx : (0 ≤ x2.toInt ∧ x2.toInt ≤ 3) ∧ (0 ≤ x3.toInt ∧ x3.toInt ≤ 9) ∧ 0 ≤ x5.toInt ∧ x5.toInt ≤ 9) (hV : ¬ x2 = 0 → ¬ x2 = x4 → ¬ x4 = 0 → nmV x2 (F_NM_bitsOf x2 x3 lx142 t0_1 t0_2 t27_0))  : (S_NM_convert_J81 x2 x3 x4 x5 t0_0 t0_1 t0_2 t1_0 t1_1 t1_2 t1_3 t1_4 t1_5 t1_6 t2_0 t3_0 t4_0 t5_0 t6_0 t7_0 t8_0 t9_0 t9_1 t9_2 t9_3 t9_4 t9_5 t9_6 t9_7 t9_8 t9_9 t9_10 t10_0 t11_0 t12_0 t13_0 t14_0 t15_0 t16_0 t17_0 t17_1 t17_2 t17_3 t17_4 t17_5 t17_6 t17_7 t17_8 t17_9 t17_10 t18_0 t19_0 t20_0 t21_0 t22_0 t23_0 t23_1 t23_2 t23_3 t23_4 t23_5 t23_6 t23_7 t23_8 t23_9 t23_10 t23_11 t23_12 t23_13 t24_0 t25_0 t26_0 t27_0 lx142) ∧ Q_NM_convert (F_NM_convert_J81 x2 x3 x4 x5 t0_0 t0_1 t0_2 t1_0 t1_1 t1_2 t1_3 t1_4 t1_5 t1_6 t2_0 t3_0 t4_0 t5_0 t6_0 t7_0 t8_0 t9_0 t9_1 t9_2 t9_3 t9_4 t9_5 t9_6 t9_7 t9_8 t9_9 t9_10 t10_0 t11_0 t12_0 t13_0 t14_0 t15_0 t16_0 t17_0 t17_1 t17_2 t17_3 t17_4 t17_5 t17_6 t17_7 t17_8 t17_9 t17_10 t18_0 t19_0 t20_0 t21_0 t22_0 t23_0 t23_1 t23_2 t23_3 t23_4 t23_5 t23_6 t23_7 t23_8 t23_9 t23_10 t23_11 t23_12 t23_13 t24_0 t25_0 t26_0 t27_0 lx142) := by
  have e0 : (0 : Int32).toInt = 0 := rfl
  have e1 : (1 : Int32).toInt = 1 := rfl
  have eL0 : (0 : Int64).toInt = 0 := rfl
  have em : (-1 : Int32).toInt = -1 := rfl
  unfold S_NM_convert_J81 F_NM_convert_J81
  by_cases g1 : x2 = x4
  ·
    rw [if_pos g1, if_pos g1]
    by_cases g2 : x2 = (0 : Int32)
    ·
      rw [if_pos g2, if_pos g2]
      have h3 := T_WR_shift (x2 := x3) (x3 := (0 : Int32)) (x4 := x5) (t0_0 := t1_0) (t0_1 := t1_1) (t0_2 := t1_2) (t0_3 := t1_3) (t0_4 := t1_4) (t0_5 := t1_5) (t0_6 := t1_6) (t1_0 := t3_0) (t2_0 := t4_0) (t3_0 := t5_0) (t4_0 := t6_0) (t5_0 := t7_0) (by with_reducible assumption)
      with_reducible refine v_owe h3.1 ?_
      replace h3 := h3.2
      generalize F_WR_shift x3 (0 : Int32) x5 t1_0 t1_1 t1_2 t1_3 t1_4 t1_5 t1_6 t3_0 t4_0 t5_0 t6_0 t7_0 = p632 at *
      unfold Q_WR_shift at h3
      unfold S_NM_convert_c98 F_NM_convert_c98
      refine ⟨trivial, ?_⟩
      exact nm_convertA (by with_reducible assumption) (by with_reducible assumption) (by with_reducible assumption)
    ·
      rw [if_neg g2, if_neg g2]
      have h4 := T_DR_shift (x2 := x3) (x3 := x5) (x4 := (0 : Int32)) (t0_0 := t9_0) (t0_1 := t9_1) (t0_2 := t9_2) (t0_3 := t9_3) (t0_4 := t9_4) (t0_5 := t9_5) (t0_6 := t9_6) (t0_7 := t9_7) (t0_8 := t9_8) (t0_9 := t9_9) (t0_10 := t9_10) (t1_0 := t11_0) (t2_0 := t12_0) (t3_0 := t13_0) (t4_0 := t14_0) (t5_0 := t15_0) (by with_reducible assumption)
      with_reducible refine v_owe h4.1 ?_
      replace h4 := h4.2
      generalize F_DR_shift x3 x5 (0 : Int32) t9_0 t9_1 t9_2 t9_3 t9_4 t9_5 t9_6 t9_7 t9_8 t9_9 t9_10 t11_0 t12_0 t13_0 t14_0 t15_0 = p575 at *
      unfold Q_DR_shift at h4
      unfold S_NM_convert_c112 F_NM_convert_c112
      refine ⟨trivial, ?_⟩
      exact nm_convertA (by with_reducible assumption) (by with_reducible assumption) (by with_reducible assumption)
  ·
    rw [if_neg g1, if_neg g1]
    have gE := g1
    by_cases g5 : x4 = (0 : Int32)
    ·
      rw [if_pos g5, if_pos g5]
      have h6 := T_NM_toWhole (x2 := x2) (x3 := x3) (x4 := x5) (t0_0 := lx142) (t0_1 := t0_1) (t0_2 := t0_2) (t1_0 := t1_0) (t1_1 := t1_1) (t1_2 := t1_2) (t1_3 := t1_3) (t1_4 := t1_4) (t1_5 := t1_5) (t1_6 := t1_6) (t2_0 := t2_0) (t3_0 := t3_0) (t4_0 := t4_0) (t5_0 := t5_0) (t6_0 := t9_0) (t6_1 := t9_1) (t6_2 := t9_2) (t6_3 := t9_3) (t6_4 := t9_4) (t6_5 := t9_5) (t6_6 := t9_6) (t6_7 := t9_7) (t6_8 := t9_8) (t6_9 := t9_9) (t6_10 := t9_10) (t7_0 := t11_0) (t8_0 := t12_0) (t9_0 := t13_0) (t10_0 := t14_0) (t11_0 := t16_0) (t12_0 := t17_0) (t12_1 := t17_1) (t12_2 := t17_2) (t12_3 := t17_3) (t12_4 := t17_4) (t12_5 := t17_5) (t12_6 := t17_6) (t12_7 := t17_7) (t12_8 := t17_8) (t12_9 := t17_9) (t12_10 := t17_10) (t13_0 := t18_0) (t14_0 := t19_0) (t15_0 := t20_0) (t16_0 := t21_0) (t17_0 := t22_0) (t18_0 := t27_0) hW hD hB hxx.2.1
      with_reducible refine v_owe h6.1 ?_
      replace h6 := h6.2
      generalize F_NM_toWhole x2 x3 x5 lx142 t0_1 t0_2 t1_0 t1_1 t1_2 t1_3 t1_4 t1_5 t1_6 t2_0 t3_0 t4_0 t5_0 t9_0 t9_1 t9_2 t9_3 t9_4 t9_5 t9_6 t9_7 t9_8 t9_9 t9_10 t11_0 t12_0 t13_0 t14_0 t16_0 t17_0 t17_1 t17_2 t17_3 t17_4 t17_5 t17_6 t17_7 t17_8 t17_9 t17_10 t18_0 t19_0 t20_0 t21_0 t22_0 t27_0 = p484 at *
      unfold Q_NM_toWhole at h6
      unfold S_NM_convert_c127 F_NM_convert_c127
      refine ⟨trivial, ?_⟩
      exact nm_convertA (by with_reducible assumption) (by with_reducible assumption) (by with_reducible assumption)
    ·
      rw [if_neg g5, if_neg g5]
      have gZ := g5
      have h7 := T_NM_toDecimal (x2 := x2) (x3 := x3) (x4 := x5) (t0_0 := lx142) (t0_1 := t0_1) (t0_2 := t0_2) (t1_0 := t1_0) (t1_1 := t1_1) (t1_2 := t1_2) (t1_3 := t1_3) (t1_4 := t1_4) (t1_5 := t1_5) (t1_6 := t1_6) (t2_0 := t3_0) (t3_0 := t4_0) (t4_0 := t7_0) (t5_0 := t8_0) (t6_0 := t9_0) (t6_1 := t9_1) (t6_2 := t9_2) (t6_3 := t9_3) (t6_4 := t9_4) (t6_5 := t9_5) (t6_6 := t9_6) (t6_7 := t9_7) (t6_8 := t9_8) (t6_9 := t9_9) (t6_10 := t9_10) (t7_0 := t10_0) (t8_0 := t11_0) (t9_0 := t12_0) (t10_0 := t13_0) (t11_0 := t14_0) (t12_0 := t15_0) (t13_0 := t17_0) (t13_1 := t17_1) (t13_2 := t17_2) (t13_3 := t17_3) (t13_4 := t17_4) (t13_5 := t17_5) (t13_6 := t17_6) (t13_7 := t17_7) (t13_8 := t17_8) (t13_9 := t17_9) (t13_10 := t17_10) (t14_0 := t18_0) (t15_0 := t19_0) (t16_0 := t20_0) (t17_0 := t21_0) (t18_0 := t22_0) (t19_0 := t27_0) hW hD hB hxx.2.1 (fun z => hV z gE gZ)
      with_reducible refine v_owe h7.1 ?_
      replace h7 := h7.2
      generalize F_NM_toDecimal x2 x3 x5 lx142 t0_1 t0_2 t1_0 t1_1 t1_2 t1_3 t1_4 t1_5 t1_6 t3_0 t4_0 t7_0 t8_0 t9_0 t9_1 t9_2 t9_3 t9_4 t9_5 t9_6 t9_7 t9_8 t9_9 t9_10 t10_0 t11_0 t12_0 t13_0 t14_0 t15_0 t17_0 t17_1 t17_2 t17_3 t17_4 t17_5 t17_6 t17_7 t17_8 t17_9 t17_10 t18_0 t19_0 t20_0 t21_0 t22_0 t27_0 = p335 at *
      unfold Q_NM_toDecimal at h7
      unfold S_NM_convert_c138 F_NM_convert_c138
      refine ⟨trivial, ?_⟩
      exact nm_convertA (by with_reducible assumption) (by with_reducible assumption) (by with_reducible assumption)
theorem T_NM_cv23 {x2 : Int32} {x3 : Int32} {x4 : Int32} {x5 : Int32} {t0_0 : Int32} {t0_1 : Int32} {t0_2 : Int32} {t1_0 : Int32} {t1_1 : Int32} {t1_2 : Int32} {t1_3 : Int32} {t1_4 : Int32} {t1_5 : Int32} {t1_6 : Int32} {t2_0 : (Nat → Int32)} {t3_0 : (Nat → Int32)} {t4_0 : (Nat → Int32)} {t5_0 : (Nat → Int32)} {t6_0 : (Nat → Int32)} {t7_0 : (Nat → Int32)} {t8_0 : (Nat → Int32)} {t9_0 : Int32} {t9_1 : Int32} {t9_2 : Int32} {t9_3 : Int64} {t9_4 : Int32} {t9_5 : Int32} {t9_6 : Int32} {t9_7 : Int32} {t9_8 : Int32} {t9_9 : Int32} {t9_10 : Int32} {t10_0 : (Nat → Int32)} {t11_0 : (Nat → Int32)} {t12_0 : (Nat → Int32)} {t13_0 : (Nat → Int32)} {t14_0 : (Nat → Int32)} {t15_0 : (Nat → Int32)} {t16_0 : (Nat → Int32)} {t17_0 : Int32} {t17_1 : Int32} {t17_2 : Int32} {t17_3 : Int32} {t17_4 : Int64} {t17_5 : Int32} {t17_6 : Int32} {t17_7 : Int64} {t17_8 : Int32} {t17_9 : Int64} {t17_10 : Int32} {t18_0 : (Nat → Int32)} {t19_0 : (Nat → Int32)} {t20_0 : (Nat → Int32)} {t21_0 : (Nat → Int32)} {t22_0 : (Nat → Int32)} {t23_0 : Int32} {t23_1 : Int32} {t23_2 : Int32} {t23_3 : Int32} {t23_4 : Int32} {t23_5 : Int32} {t23_6 : Int32} {t23_7 : Int64} {t23_8 : Int32} {t23_9 : Int32} {t23_10 : Int64} {t23_11 : Int64} {t23_12 : Int32} {t23_13 : Int32} {t24_0 : (Nat → Int32)} {t25_0 : (Nat → Int32)} {t26_0 : (Nat → Int32)} {t27_0 : (Nat → Int64)} {lx142 : Int32} (hW : wR t3_0 t4_0) (hD : gR t11_0 t12_0 t13_0 t14_0) (hB : nmB t27_0) (hx : lx142.toInt ≤ 0 → ((0 ≤ x2.toInt ∧ x2.toInt ≤ 3) ∧ (0 ≤ x3.toInt ∧ x3.toInt ≤ 9) ∧ 0 ≤ x5.toInt ∧ x5.toInt ≤ 9) ∧ 0 ≤ x4.toInt)  : (S_NM_convert_J23 x2 x3 x4 x5 t0_0 t0_1 t0_2 t1_0 t1_1 t1_2 t1_3 t1_4 t1_5 t1_6 t2_0 t3_0 t4_0 t5_0 t6_0 t7_0 t8_0 t9_0 t9_1 t9_2 t9_3 t9_4 t9_5 t9_6 t9_7 t9_8 t9_9 t9_10 t10_0 t11_0 t12_0 t13_0 t14_0 t15_0 t16_0 t17_0 t17_1 t17_2 t17_3 t17_4 t17_5 t17_6 t17_7 t17_8 t17_9 t17_10 t18_0 t19_0 t20_0 t21_0 t22_0 t23_0 t23_1 t23_2 t23_3 t23_4 t23_5 t23_6 t23_7 t23_8 t23_9 t23_10 t23_11 t23_12 t23_13 t24_0 t25_0 t26_0 t27_0 lx142) ∧ Q_NM_convert (F_NM_convert_J23 x2 x3 x4 x5 t0_0 t0_1 t0_2 t1_0 t1_1 t1_2 t1_3 t1_4 t1_5 t1_6 t2_0 t3_0 t4_0 t5_0 t6_0 t7_0 t8_0 t9_0 t9_1 t9_2 t9_3 t9_4 t9_5 t9_6 t9_7 t9_8 t9_9 t9_10 t10_0 t11_0 t12_0 t13_0 t14_0 t15_0 t16_0 t17_0 t17_1 t17_2 t17_3 t17_4 t17_5 t17_6 t17_7 t17_8 t17_9 t17_10 t18_0 t19_0 t20_0 t21_0 t22_0 t23_0 t23_1 t23_2 t23_3 t23_4 t23_5 t23_6 t23_7 t23_8 t23_9 t23_10 t23_11 t23_12 t23_13 t24_0 t25_0 t26_0 t27_0 lx142) := by
  have e0 : (0 : Int32).toInt = 0 := rfl
  have e1 : (1 : Int32).toInt = 1 := rfl
  have eL0 : (0 : Int64).toInt = 0 := rfl
  have em : (-1 : Int32).toInt = -1 := rfl
  unfold S_NM_convert_J23 F_NM_convert_J23
  by_cases g1 : lx142 ≤ (0 : Int32)
  ·
    rw [if_pos g1, if_pos g1]
    have hxx := hx (q_leI g1)
    by_cases g2 : ((F_NM_isFloat x4) : Int32) = (0 : Int32)
    ·
      rw [if_pos g2, if_pos g2]
      have gI4 := g2
      by_cases g3 : ((F_NM_isFloat x2) : Int32) = (0 : Int32)
      ·
        rw [if_pos g3, if_pos g3]
        have gI2 := g3
        exact T_NM_cv81 hW hD hB hxx.1 (fun z1 z2 z3 => absurd (q_Ieq (x := x2.toInt) (y := x4.toInt) rfl rfl (by have a1 := q_neI z1; have a2 := q_neI z3; have a3 := nm_if0 gI2; have a4 := nm_if0 gI4; omega)) z2)
      ·
        rw [if_neg g3, if_neg g3]
        have h4 := T_NM_bitsOf (x2 := x2) (x3 := x3) (t0_0 := lx142) (t0_1 := t0_1) (t0_2 := t0_2) (t1_0 := t27_0) hxx.1.2.1
        with_reducible refine v_owe h4 ?_
        by_cases g5 : ((F_NM_isFinite x2 ((F_NM_bitsOf x2 x3 lx142 t0_1 t0_2 t27_0) : Int64)) : Int32) = (0 : Int32)
        ·
          rw [if_pos g5, if_pos g5]
          refine ⟨trivial, ?_⟩
          exact nm_convertA (by with_reducible assumption) (by with_reducible assumption) (by with_reducible assumption)
        ·
          rw [if_neg g5, if_neg g5]
          have gF := g5
          exact T_NM_cv81 hW hD hB hxx.1 (fun _ _ _ => ⟨fun e => nm_bo hB hxx.1.2.1 e, gF⟩)
    ·
      rw [if_neg g2, if_neg g2]
      have h6 := T_NM_toFloat (x2 := x2) (x3 := x3) (x4 := x4) (x5 := x5) (t0_0 := lx142) (t0_1 := t0_1) (t0_2 := t0_2) (t1_0 := t1_0) (t1_1 := t1_1) (t1_2 := t1_2) (t1_3 := t1_3) (t1_4 := t1_4) (t1_5 := t1_5) (t1_6 := t1_6) (t2_0 := t3_0) (t3_0 := t4_0) (t4_0 := t7_0) (t5_0 := t8_0) (t6_0 := t9_0) (t6_1 := t9_1) (t6_2 := t9_2) (t6_3 := t9_3) (t6_4 := t9_4) (t6_5 := t9_5) (t6_6 := t9_6) (t6_7 := t9_7) (t6_8 := t9_8) (t6_9 := t9_9) (t6_10 := t9_10) (t7_0 := t11_0) (t8_0 := t12_0) (t9_0 := t13_0) (t10_0 := t14_0) (t11_0 := t16_0) (t12_0 := t17_0) (t12_1 := t17_1) (t12_2 := t17_2) (t12_3 := t17_3) (t12_4 := t17_4) (t12_5 := t17_5) (t12_6 := t17_6) (t12_7 := t17_7) (t12_8 := t17_8) (t12_9 := t17_9) (t12_10 := t17_10) (t13_0 := t23_0) (t13_1 := t23_1) (t13_2 := t23_2) (t13_3 := t23_3) (t13_4 := t23_4) (t13_5 := t23_5) (t13_6 := t23_6) (t13_7 := t23_7) (t13_8 := t23_8) (t13_9 := t23_9) (t13_10 := t23_10) (t13_11 := t23_11) (t13_12 := t23_12) (t13_13 := t23_13) (t14_0 := t24_0) (t15_0 := t25_0) (t16_0 := t26_0) (t17_0 := t27_0) hW hD hB hxx.1.1 hxx.1.2.1 hxx.1.2.2
      with_reducible refine v_owe h6.1 ?_
      replace h6 := h6.2
      generalize F_NM_toFloat x2 x3 x4 x5 lx142 t0_1 t0_2 t1_0 t1_1 t1_2 t1_3 t1_4 t1_5 t1_6 t3_0 t4_0 t7_0 t8_0 t9_0 t9_1 t9_2 t9_3 t9_4 t9_5 t9_6 t9_7 t9_8 t9_9 t9_10 t11_0 t12_0 t13_0 t14_0 t16_0 t17_0 t17_1 t17_2 t17_3 t17_4 t17_5 t17_6 t17_7 t17_8 t17_9 t17_10 t23_0 t23_1 t23_2 t23_3 t23_4 t23_5 t23_6 t23_7 t23_8 t23_9 t23_10 t23_11 t23_12 t23_13 t24_0 t25_0 t26_0 t27_0 = p801 at *
      unfold Q_NM_toFloat at h6
      unfold S_NM_convert_c47 F_NM_convert_c47
      refine ⟨trivial, ?_⟩
      exact nm_convertA (by with_reducible assumption) (by with_reducible assumption) (by with_reducible assumption)
  ·
    rw [if_neg g1, if_neg g1]
    refine ⟨trivial, ?_⟩
    exact nm_convertA (by with_reducible assumption) (by with_reducible assumption) (by with_reducible assumption)
theorem T_NM_convert {x2 : Int32} {x3 : Int32} {x4 : Int32} {x5 : Int32} {t0_0 : Int32} {t0_1 : Int32} {t0_2 : Int32} {t1_0 : Int32} {t1_1 : Int32} {t1_2 : Int32} {t1_3 : Int32} {t1_4 : Int32} {t1_5 : Int32} {t1_6 : Int32} {t2_0 : (Nat → Int32)} {t3_0 : (Nat → Int32)} {t4_0 : (Nat → Int32)} {t5_0 : (Nat → Int32)} {t6_0 : (Nat → Int32)} {t7_0 : (Nat → Int32)} {t8_0 : (Nat → Int32)} {t9_0 : Int32} {t9_1 : Int32} {t9_2 : Int32} {t9_3 : Int64} {t9_4 : Int32} {t9_5 : Int32} {t9_6 : Int32} {t9_7 : Int32} {t9_8 : Int32} {t9_9 : Int32} {t9_10 : Int32} {t10_0 : (Nat → Int32)} {t11_0 : (Nat → Int32)} {t12_0 : (Nat → Int32)} {t13_0 : (Nat → Int32)} {t14_0 : (Nat → Int32)} {t15_0 : (Nat → Int32)} {t16_0 : (Nat → Int32)} {t17_0 : Int32} {t17_1 : Int32} {t17_2 : Int32} {t17_3 : Int32} {t17_4 : Int64} {t17_5 : Int32} {t17_6 : Int32} {t17_7 : Int64} {t17_8 : Int32} {t17_9 : Int64} {t17_10 : Int32} {t18_0 : (Nat → Int32)} {t19_0 : (Nat → Int32)} {t20_0 : (Nat → Int32)} {t21_0 : (Nat → Int32)} {t22_0 : (Nat → Int32)} {t23_0 : Int32} {t23_1 : Int32} {t23_2 : Int32} {t23_3 : Int32} {t23_4 : Int32} {t23_5 : Int32} {t23_6 : Int32} {t23_7 : Int64} {t23_8 : Int32} {t23_9 : Int32} {t23_10 : Int64} {t23_11 : Int64} {t23_12 : Int32} {t23_13 : Int32} {t24_0 : (Nat → Int32)} {t25_0 : (Nat → Int32)} {t26_0 : (Nat → Int32)} {t27_0 : (Nat → Int64)} (hW : wR t3_0 t4_0) (hD : gR t11_0 t12_0 t13_0 t14_0) (hB : nmB t27_0)  : (S_NM_convert x2 x3 x4 x5 t0_0 t0_1 t0_2 t1_0 t1_1 t1_2 t1_3 t1_4 t1_5 t1_6 t2_0 t3_0 t4_0 t5_0 t6_0 t7_0 t8_0 t9_0 t9_1 t9_2 t9_3 t9_4 t9_5 t9_6 t9_7 t9_8 t9_9 t9_10 t10_0 t11_0 t12_0 t13_0 t14_0 t15_0 t16_0 t17_0 t17_1 t17_2 t17_3 t17_4 t17_5 t17_6 t17_7 t17_8 t17_9 t17_10 t18_0 t19_0 t20_0 t21_0 t22_0 t23_0 t23_1 t23_2 t23_3 t23_4 t23_5 t23_6 t23_7 t23_8 t23_9 t23_10 t23_11 t23_12 t23_13 t24_0 t25_0 t26_0 t27_0) ∧ Q_NM_convert (F_NM_convert x2 x3 x4 x5 t0_0 t0_1 t0_2 t1_0 t1_1 t1_2 t1_3 t1_4 t1_5 t1_6 t2_0 t3_0 t4_0 t5_0 t6_0 t7_0 t8_0 t9_0 t9_1 t9_2 t9_3 t9_4 t9_5 t9_6 t9_7 t9_8 t9_9 t9_10 t10_0 t11_0 t12_0 t13_0 t14_0 t15_0 t16_0 t17_0 t17_1 t17_2 t17_3 t17_4 t17_5 t17_6 t17_7 t17_8 t17_9 t17_10 t18_0 t19_0 t20_0 t21_0 t22_0 t23_0 t23_1 t23_2 t23_3 t23_4 t23_5 t23_6 t23_7 t23_8 t23_9 t23_10 t23_11 t23_12 t23_13 t24_0 t25_0 t26_0 t27_0) := by
  have e0 : (0 : Int32).toInt = 0 := rfl
  have e1 : (1 : Int32).toInt = 1 := rfl
  have eL0 : (0 : Int64).toInt = 0 := rfl
  have em : (-1 : Int32).toInt = -1 := rfl
  unfold S_NM_convert F_NM_convert
  by_cases g1 : ((F_NM_no_IIZ x2 x3) : Int32) = (0 : Int32)
  ·
    rw [if_pos g1, if_pos g1]
    have hA := nm_no2 g1
    by_cases g2 : ((F_NM_no_IIZ x4 x5) : Int32) = (0 : Int32)
    ·
      rw [if_pos g2, if_pos g2]
      have hA4 := nm_no2 g2
      exact T_NM_cv23 hW hD hB (fun _ => ⟨⟨hA.1, hA.2, hA4.2⟩, hA4.1.1⟩)
    ·
      rw [if_neg g2, if_neg g2]
      unfold S_NM_convert_J18 F_NM_convert_J18
      exact T_NM_cv23 hW hD hB (fun z => absurd z (by decide))
  ·
    rw [if_neg g1, if_neg g1]
    unfold S_NM_convert_J18 F_NM_convert_J18
    exact T_NM_cv23 hW hD hB (fun z => absurd z (by decide))
