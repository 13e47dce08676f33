/-! DecimalRows: bring, toPrecision, and what rests on them -/
theorem g_kp {a : Int32} {b c : Int64} (ha : 0 ≤ a.toInt ∧ a.toInt ≤ 4400) (hb : -100000 ≤ b.toInt ∧ b.toInt ≤ 100000) (hc : -100000 ≤ c.toInt ∧ c.toInt ≤ 100000) (h1 : (-1 : Int64).toInt ≤ (a.toInt64 - (b - c) : Int64).toInt) (h2 : c.toInt < b.toInt) : -1 ≤ ((a.toInt64 - (b - c) : Int64).toInt32).toInt ∧ ((a.toInt64 - (b - c) : Int64).toInt32).toInt ≤ a.toInt := by
  have e1 : (b - c : Int64).toInt = b.toInt - c.toInt := q_subL rfl rfl (by omega) (by omega)
  have e2 : (a.toInt64 - (b - c) : Int64).toInt = a.toInt - (b.toInt - c.toInt) := q_subL (q_i2l rfl) e1 (by omega) (by omega)
  have e3 : (-1 : Int64).toInt = -1 := rfl
  rw [s_l2i (by omega) (by omega), e2]
  omega
theorem g_sL {b c : Int64} (hb : -100000 ≤ b.toInt ∧ b.toInt ≤ 100000) (hc : -100000 ≤ c.toInt ∧ c.toInt ≤ 100000) : (b - c : Int64).toInt = b.toInt - c.toInt := q_subL rfl rfl (by omega) (by omega)
theorem g_sI {b c : Int32} (hb : 0 ≤ b.toInt ∧ b.toInt ≤ 100000) (hc : 0 ≤ c.toInt ∧ c.toInt ≤ 100000) : ((b - c : Int32).toInt64).toInt = b.toInt - c.toInt := q_i2l (q_subI rfl rfl (by omega) (by omega))
theorem R_need {t0_0 t0_1 t0_2 : Int32} {t0_3 : Int64} {t0_4 t0_5 t0_6 t0_7 t0_8 t0_9 t0_10 : Int32} {t1_0 : Nat → Int32} (h2 : 1 ≤ t0_2.toInt ∧ t0_2.toInt ≤ 4400) : S_DR_needed t0_0 t0_1 t0_2 t0_3 t0_4 t0_5 t0_6 t0_7 t0_8 t0_9 t0_10 t1_0 ∧ (1 ≤ (F_DR_needed t0_0 t0_1 t0_2 t0_3 t0_4 t0_5 t0_6 t0_7 t0_8 t0_9 t0_10 t1_0).toInt ∧ (F_DR_needed t0_0 t0_1 t0_2 t0_3 t0_4 t0_5 t0_6 t0_7 t0_8 t0_9 t0_10 t1_0).toInt ≤ t0_2.toInt) := T_DR_needed h2
def Q_DR_bring (p : Int32 × Int32 × Int32 × Int64 × Int32 × Int32 × Int32 × Int32 × Int32 × Int32 × Int32 × (Nat → Int32) × (Nat → Int32) × (Nat → Int32) × (Nat → Int32) × (Nat → Int32)) : Prop := gR p.2.2.2.2.2.2.2.2.2.2.2.1 p.2.2.2.2.2.2.2.2.2.2.2.2.1 p.2.2.2.2.2.2.2.2.2.2.2.2.2.1 p.2.2.2.2.2.2.2.2.2.2.2.2.2.2.1
theorem T_DR_bring {x2 : Int64} {x3 : Int32} {x4 : Int32} {t0_0 : Int32} {t0_1 : Int32} {t0_2 : Int32} {t0_3 : Int64} {t0_4 : Int32} {t0_5 : Int32} {t0_6 : Int32} {t0_7 : Int32} {t0_8 : Int32} {t0_9 : Int32} {t0_10 : Int32} {t1_0 : (Nat → Int32)} {t2_0 : (Nat → Int32)} {t3_0 : (Nat → Int32)} {t4_0 : (Nat → Int32)} {t5_0 : (Nat → Int32)} (hR : gR t1_0 t2_0 t3_0 t4_0)(hx : 0 ≤ x4.toInt ∧ x4.toInt ≤ 9) (hw : -20000 ≤ x2.toInt ∧ x2.toInt ≤ 20000)(h2 : 0 ≤ t0_2.toInt ∧ t0_2.toInt ≤ 1000) (hg : gO t5_0 t0_2.toNatClampNeg) (h3 : -20000 ≤ t0_3.toInt ∧ t0_3.toInt ≤ 20000) : (S_DR_bring x2 x3 x4 t0_0 t0_1 t0_2 t0_3 t0_4 t0_5 t0_6 t0_7 t0_8 t0_9 t0_10 t1_0 t2_0 t3_0 t4_0 t5_0) ∧ Q_DR_bring (F_DR_bring x2 x3 x4 t0_0 t0_1 t0_2 t0_3 t0_4 t0_5 t0_6 t0_7 t0_8 t0_9 t0_10 t1_0 t2_0 t3_0 t4_0 t5_0) := by
  have e0 : (0 : Int32).toInt = 0 := rfl
  have eL0 : (0 : Int64).toInt = 0 := rfl
  have eL1 : (10000 : Int64).toInt = 10000 := rfl
  have eL2 : (-10000 : Int64).toInt = -10000 := rfl
  have eL3 : (1000 : Int64).toInt = 1000 := rfl
  have eL4 : (-1 : Int64).toInt = -1 := rfl
  have eI3 : (1000 : Int32).toInt = 1000 := rfl
  unfold S_DR_bring F_DR_bring
  have h1 := T_DR_trim (t0_0 := t0_0) (t0_1 := t0_1) (t0_2 := t0_2) (t0_3 := t0_3) (t0_4 := t0_4) (t0_5 := t0_5) (t0_6 := t0_6) (t0_7 := t0_7) (t0_8 := t0_8) (t0_9 := t0_9) (t0_10 := t0_10) (t1_0 := t5_0) ⟨by omega, by omega⟩ (by first | with_reducible assumption | exact g_cl (by with_reducible assumption) (by omega) (by omega) | omega | decide)
  with_reducible refine v_owe h1.1 ?_
  replace h1 := h1.2
  generalize F_DR_trim t0_0 t0_1 t0_2 t0_3 t0_4 t0_5 t0_6 t0_7 t0_8 t0_9 t0_10 t5_0 = p75 at *
  unfold Q_DR_trim at h1
  obtain ⟨⟨h11, h12, h13, h19⟩, h1g, h15, h1a, h1b, h1s, h1m, h1x6, h1x7, h1x8, h1x9, h1x10⟩ := h1
  have trim9 := h19
  have h1si := congrArg Int64.toInt h1s
  have h1mi := congrArg Int32.toInt h1m
  unfold S_DR_bring_c1 F_DR_bring_c1
  by_cases g2 : ((p75.2.2.2.2.2.2.2.2.2.2.2 : (Nat → Int32)) (0 : Int32).toNatClampNeg : Int32) = (0 : Int32)
  ·
    rw [if_pos g2, if_pos g2]
    by_cases g3 : (p75.2.2.2.2.1 : Int32) = (0 : Int32)
    ·
      rw [if_pos g3, if_pos g3]
      have h4 := T_DR_store (x2 := x4) (t0_0 := (p75.1 : Int32)) (t0_1 := (p75.2.1 : Int32)) (t0_2 := (p75.2.2.1 : Int32)) (t0_3 := x2) (t0_4 := (p75.2.2.2.2.1 : Int32)) (t0_5 := (p75.2.2.2.2.2.1 : Int32)) (t0_6 := (p75.2.2.2.2.2.2.1 : Int32)) (t0_7 := (p75.2.2.2.2.2.2.2.1 : Int32)) (t0_8 := (p75.2.2.2.2.2.2.2.2.1 : Int32)) (t0_9 := (p75.2.2.2.2.2.2.2.2.2.1 : Int32)) (t0_10 := (p75.2.2.2.2.2.2.2.2.2.2.1 : Int32)) (t1_0 := t1_0) (t2_0 := t2_0) (t3_0 := t3_0) (t4_0 := t4_0) (t5_0 := (p75.2.2.2.2.2.2.2.2.2.2.2 : (Nat → Int32))) (by with_reducible assumption) (by with_reducible assumption) ⟨by first | omega | decide, by first | omega | decide⟩ (by first | with_reducible assumption | exact g_cl (by with_reducible assumption) (by omega) (by omega) | omega | decide)
      with_reducible refine v_owe h4.1 ?_
      replace h4 := h4.2
      generalize F_DR_store x4 (p75.1 : Int32) (p75.2.1 : Int32) (p75.2.2.1 : Int32) x2 (p75.2.2.2.2.1 : Int32) (p75.2.2.2.2.2.1 : Int32) (p75.2.2.2.2.2.2.1 : Int32) (p75.2.2.2.2.2.2.2.1 : Int32) (p75.2.2.2.2.2.2.2.2.1 : Int32) (p75.2.2.2.2.2.2.2.2.2.1 : Int32) (p75.2.2.2.2.2.2.2.2.2.2.1 : Int32) t1_0 t2_0 t3_0 t4_0 (p75.2.2.2.2.2.2.2.2.2.2.2 : (Nat → Int32)) = p597 at *
      unfold Q_DR_store at h4
      unfold S_DR_bring_c119_9 F_DR_bring_c119_9
      refine ⟨trivial, ?_⟩
      (unfold Q_DR_bring; dsimp only; with_reducible assumption)
    ·
      rw [if_neg g3, if_neg g3]
      unfold S_DR_bring_J28 F_DR_bring_J28
      by_cases g5 : (lg_cmp x2 (p75.2.2.2.1 : Int64) : Int32) < (0 : Int32)
      ·
        rw [if_pos g5, if_pos g5]
        have g5l := g_lc1 g5
        by_cases g6 : (0 : Int32) ≤ (lg_cmp (((p75.2.2.1 : Int32).toInt64 : Int64) - ((p75.2.2.2.1 : Int64) - x2 : Int64) : Int64) (-1) : Int32)
        ·
          rw [if_pos g6, if_pos g6]
          have g6l := g_lc5 g6
          have h7 := T_DR_cut (x2 := ((((p75.2.2.1 : Int32).toInt64 : Int64) - ((p75.2.2.2.1 : Int64) - x2 : Int64) : Int64).toInt32 : Int32)) (x3 := x3) (t0_0 := (p75.1 : Int32)) (t0_1 := (p75.2.1 : Int32)) (t0_2 := (p75.2.2.1 : Int32)) (t0_3 := (p75.2.2.2.1 : Int64)) (t0_4 := (p75.2.2.2.2.1 : Int32)) (t0_5 := (p75.2.2.2.2.2.1 : Int32)) (t0_6 := (p75.2.2.2.2.2.2.1 : Int32)) (t0_7 := (p75.2.2.2.2.2.2.2.1 : Int32)) (t0_8 := (p75.2.2.2.2.2.2.2.2.1 : Int32)) (t0_9 := (p75.2.2.2.2.2.2.2.2.2.1 : Int32)) (t0_10 := (p75.2.2.2.2.2.2.2.2.2.2.1 : Int32)) (t1_0 := (p75.2.2.2.2.2.2.2.2.2.2.2 : (Nat → Int32))) ⟨by omega, by omega⟩ (by omega) (by first | exact ⟨by omega, by omega⟩ | exact ⟨by decide, by have ez : (-1 : Int32).toInt = -1 := rfl; omega⟩ | exact g_kp ⟨by omega, by omega⟩ ⟨by omega, by omega⟩ ⟨by omega, by omega⟩ (by with_reducible assumption) (by omega)) (by with_reducible assumption)
          with_reducible refine v_owe h7.1 ?_
          replace h7 := h7.2
          generalize F_DR_cut ((((p75.2.2.1 : Int32).toInt64 : Int64) - ((p75.2.2.2.1 : Int64) - x2 : Int64) : Int64).toInt32 : Int32) x3 (p75.1 : Int32) (p75.2.1 : Int32) (p75.2.2.1 : Int32) (p75.2.2.2.1 : Int64) (p75.2.2.2.2.1 : Int32) (p75.2.2.2.2.2.1 : Int32) (p75.2.2.2.2.2.2.1 : Int32) (p75.2.2.2.2.2.2.2.1 : Int32) (p75.2.2.2.2.2.2.2.2.1 : Int32) (p75.2.2.2.2.2.2.2.2.2.1 : Int32) (p75.2.2.2.2.2.2.2.2.2.2.1 : Int32) (p75.2.2.2.2.2.2.2.2.2.2.2 : (Nat → Int32)) = p165 at *
          unfold Q_DR_cut at h7
          obtain ⟨h71, h7g, h76⟩ := h7
          unfold S_DR_bring_c104 F_DR_bring_c104
          by_cases g8 : (p165.1 : Int32) = (0 : Int32)
          ·
            rw [if_pos g8, if_pos g8]
            refine ⟨trivial, ?_⟩
            (unfold Q_DR_bring; dsimp only; with_reducible assumption)
          ·
            rw [if_neg g8, if_neg g8]
            have h9 := T_DR_store (x2 := x4) (t0_0 := (p165.2.1 : Int32)) (t0_1 := (p165.2.2.1 : Int32)) (t0_2 := (p165.2.2.2.1 : Int32)) (t0_3 := x2) (t0_4 := (p165.2.2.2.2.2.1 : Int32)) (t0_5 := (p165.2.2.2.2.2.2.1 : Int32)) (t0_6 := (p165.2.2.2.2.2.2.2.1 : Int32)) (t0_7 := (p165.2.2.2.2.2.2.2.2.1 : Int32)) (t0_8 := (p165.2.2.2.2.2.2.2.2.2.1 : Int32)) (t0_9 := (p165.2.2.2.2.2.2.2.2.2.2.1 : Int32)) (t0_10 := (p165.2.2.2.2.2.2.2.2.2.2.2.1 : Int32)) (t1_0 := t1_0) (t2_0 := t2_0) (t3_0 := t3_0) (t4_0 := t4_0) (t5_0 := (p165.2.2.2.2.2.2.2.2.2.2.2.2 : (Nat → Int32))) (by with_reducible assumption) (by with_reducible assumption) ⟨by first | omega | decide, by first | omega | decide⟩ (by first | with_reducible assumption | exact g_cl (by with_reducible assumption) (by omega) (by omega) | omega | decide)
            with_reducible refine v_owe h9.1 ?_
            replace h9 := h9.2
            generalize F_DR_store x4 (p165.2.1 : Int32) (p165.2.2.1 : Int32) (p165.2.2.2.1 : Int32) x2 (p165.2.2.2.2.2.1 : Int32) (p165.2.2.2.2.2.2.1 : Int32) (p165.2.2.2.2.2.2.2.1 : Int32) (p165.2.2.2.2.2.2.2.2.1 : Int32) (p165.2.2.2.2.2.2.2.2.2.1 : Int32) (p165.2.2.2.2.2.2.2.2.2.2.1 : Int32) (p165.2.2.2.2.2.2.2.2.2.2.2.1 : Int32) t1_0 t2_0 t3_0 t4_0 (p165.2.2.2.2.2.2.2.2.2.2.2.2 : (Nat → Int32)) = p238 at *
            unfold Q_DR_store at h9
            unfold S_DR_bring_c119 F_DR_bring_c119
            refine ⟨trivial, ?_⟩
            (unfold Q_DR_bring; dsimp only; with_reducible assumption)
        ·
          rw [if_neg g6, if_neg g6]
          have g6l := g_lc6 g6
          have h10 := T_DR_cut (x2 := (-1 : Int32)) (x3 := x3) (t0_0 := (p75.1 : Int32)) (t0_1 := (p75.2.1 : Int32)) (t0_2 := (p75.2.2.1 : Int32)) (t0_3 := (p75.2.2.2.1 : Int64)) (t0_4 := (p75.2.2.2.2.1 : Int32)) (t0_5 := (p75.2.2.2.2.2.1 : Int32)) (t0_6 := (p75.2.2.2.2.2.2.1 : Int32)) (t0_7 := (p75.2.2.2.2.2.2.2.1 : Int32)) (t0_8 := (p75.2.2.2.2.2.2.2.2.1 : Int32)) (t0_9 := (p75.2.2.2.2.2.2.2.2.2.1 : Int32)) (t0_10 := (p75.2.2.2.2.2.2.2.2.2.2.1 : Int32)) (t1_0 := (p75.2.2.2.2.2.2.2.2.2.2.2 : (Nat → Int32))) ⟨by omega, by omega⟩ (by omega) (by first | exact ⟨by omega, by omega⟩ | exact ⟨by decide, by have ez : (-1 : Int32).toInt = -1 := rfl; omega⟩ | exact g_kp ⟨by omega, by omega⟩ ⟨by omega, by omega⟩ ⟨by omega, by omega⟩ (by with_reducible assumption) (by omega)) (by with_reducible assumption)
          with_reducible refine v_owe h10.1 ?_
          replace h10 := h10.2
          generalize F_DR_cut (-1 : Int32) x3 (p75.1 : Int32) (p75.2.1 : Int32) (p75.2.2.1 : Int32) (p75.2.2.2.1 : Int64) (p75.2.2.2.2.1 : Int32) (p75.2.2.2.2.2.1 : Int32) (p75.2.2.2.2.2.2.1 : Int32) (p75.2.2.2.2.2.2.2.1 : Int32) (p75.2.2.2.2.2.2.2.2.1 : Int32) (p75.2.2.2.2.2.2.2.2.2.1 : Int32) (p75.2.2.2.2.2.2.2.2.2.2.1 : Int32) (p75.2.2.2.2.2.2.2.2.2.2.2 : (Nat → Int32)) = p301 at *
          unfold Q_DR_cut at h10
          obtain ⟨h101, h10g, h106⟩ := h10
          unfold S_DR_bring_c104_5 F_DR_bring_c104_5
          by_cases g11 : (p301.1 : Int32) = (0 : Int32)
          ·
            rw [if_pos g11, if_pos g11]
            refine ⟨trivial, ?_⟩
            (unfold Q_DR_bring; dsimp only; with_reducible assumption)
          ·
            rw [if_neg g11, if_neg g11]
            have h12 := T_DR_store (x2 := x4) (t0_0 := (p301.2.1 : Int32)) (t0_1 := (p301.2.2.1 : Int32)) (t0_2 := (p301.2.2.2.1 : Int32)) (t0_3 := x2) (t0_4 := (p301.2.2.2.2.2.1 : Int32)) (t0_5 := (p301.2.2.2.2.2.2.1 : Int32)) (t0_6 := (p301.2.2.2.2.2.2.2.1 : Int32)) (t0_7 := (p301.2.2.2.2.2.2.2.2.1 : Int32)) (t0_8 := (p301.2.2.2.2.2.2.2.2.2.1 : Int32)) (t0_9 := (p301.2.2.2.2.2.2.2.2.2.2.1 : Int32)) (t0_10 := (p301.2.2.2.2.2.2.2.2.2.2.2.1 : Int32)) (t1_0 := t1_0) (t2_0 := t2_0) (t3_0 := t3_0) (t4_0 := t4_0) (t5_0 := (p301.2.2.2.2.2.2.2.2.2.2.2.2 : (Nat → Int32))) (by with_reducible assumption) (by with_reducible assumption) ⟨by first | omega | decide, by first | omega | decide⟩ (by first | with_reducible assumption | exact g_cl (by with_reducible assumption) (by omega) (by omega) | omega | decide)
            with_reducible refine v_owe h12.1 ?_
            replace h12 := h12.2
            generalize F_DR_store x4 (p301.2.1 : Int32) (p301.2.2.1 : Int32) (p301.2.2.2.1 : Int32) x2 (p301.2.2.2.2.2.1 : Int32) (p301.2.2.2.2.2.2.1 : Int32) (p301.2.2.2.2.2.2.2.1 : Int32) (p301.2.2.2.2.2.2.2.2.1 : Int32) (p301.2.2.2.2.2.2.2.2.2.1 : Int32) (p301.2.2.2.2.2.2.2.2.2.2.1 : Int32) (p301.2.2.2.2.2.2.2.2.2.2.2.1 : Int32) t1_0 t2_0 t3_0 t4_0 (p301.2.2.2.2.2.2.2.2.2.2.2.2 : (Nat → Int32)) = p374 at *
            unfold Q_DR_store at h12
            unfold S_DR_bring_c119_6 F_DR_bring_c119_6
            refine ⟨trivial, ?_⟩
            (unfold Q_DR_bring; dsimp only; with_reducible assumption)
      ·
        rw [if_neg g5, if_neg g5]
        have g5l := g_lc2 g5
        by_cases g13 : (lg_cmp (x2 - (p75.2.2.2.1 : Int64) : Int64) 1000 : Int32) ≤ (0 : Int32)
        ·
          rw [if_pos g13, if_pos g13]
          have g13l := g_lc3 g13
          have g13s := g_sL (b := x2) (c := p75.2.2.2.1) ⟨by omega, by omega⟩ ⟨by omega, by omega⟩
          have h14 := T_DR_lengthen (x2 := (x2 - (p75.2.2.2.1 : Int64) : Int64)) (t0_0 := (p75.1 : Int32)) (t0_1 := (p75.2.1 : Int32)) (t0_2 := (p75.2.2.1 : Int32)) (t0_3 := (p75.2.2.2.1 : Int64)) (t0_4 := (p75.2.2.2.2.1 : Int32)) (t0_5 := (p75.2.2.2.2.2.1 : Int32)) (t0_6 := (p75.2.2.2.2.2.2.1 : Int32)) (t0_7 := (p75.2.2.2.2.2.2.2.1 : Int32)) (t0_8 := (p75.2.2.2.2.2.2.2.2.1 : Int32)) (t0_9 := (p75.2.2.2.2.2.2.2.2.2.1 : Int32)) (t0_10 := (p75.2.2.2.2.2.2.2.2.2.2.1 : Int32)) (t1_0 := (p75.2.2.2.2.2.2.2.2.2.2.2 : (Nat → Int32))) ⟨by omega, by omega⟩ (by first | omega | decide) (by first | omega | (have ez : (0 : Int64).toInt = 0 := rfl; omega)) (by first | with_reducible assumption | exact g_cl (by with_reducible assumption) (by omega) (by omega) | omega | decide)
          with_reducible refine v_owe h14.1 ?_
          replace h14 := h14.2
          generalize F_DR_lengthen (x2 - (p75.2.2.2.1 : Int64) : Int64) (p75.1 : Int32) (p75.2.1 : Int32) (p75.2.2.1 : Int32) (p75.2.2.2.1 : Int64) (p75.2.2.2.2.1 : Int32) (p75.2.2.2.2.2.1 : Int32) (p75.2.2.2.2.2.2.1 : Int32) (p75.2.2.2.2.2.2.2.1 : Int32) (p75.2.2.2.2.2.2.2.2.1 : Int32) (p75.2.2.2.2.2.2.2.2.2.1 : Int32) (p75.2.2.2.2.2.2.2.2.2.2.1 : Int32) (p75.2.2.2.2.2.2.2.2.2.2.2 : (Nat → Int32)) = p446 at *
          unfold Q_DR_lengthen at h14
          obtain ⟨h141, h14g⟩ := h14
          unfold S_DR_bring_c66 F_DR_bring_c66
          have h15 := T_DR_store (x2 := x4) (t0_0 := (p446.1 : Int32)) (t0_1 := (p446.2.1 : Int32)) (t0_2 := (p446.2.2.1 : Int32)) (t0_3 := (p446.2.2.2.1 : Int64)) (t0_4 := (p446.2.2.2.2.1 : Int32)) (t0_5 := (p446.2.2.2.2.2.1 : Int32)) (t0_6 := (p446.2.2.2.2.2.2.1 : Int32)) (t0_7 := (p446.2.2.2.2.2.2.2.1 : Int32)) (t0_8 := (p446.2.2.2.2.2.2.2.2.1 : Int32)) (t0_9 := (p446.2.2.2.2.2.2.2.2.2.1 : Int32)) (t0_10 := (p446.2.2.2.2.2.2.2.2.2.2.1 : Int32)) (t1_0 := t1_0) (t2_0 := t2_0) (t3_0 := t3_0) (t4_0 := t4_0) (t5_0 := (p446.2.2.2.2.2.2.2.2.2.2.2 : (Nat → Int32))) (by with_reducible assumption) (by with_reducible assumption) ⟨by first | omega | decide, by first | omega | decide⟩ (by first | with_reducible assumption | exact g_cl (by with_reducible assumption) (by omega) (by omega) | omega | decide)
          with_reducible refine v_owe h15.1 ?_
          replace h15 := h15.2
          generalize F_DR_store x4 (p446.1 : Int32) (p446.2.1 : Int32) (p446.2.2.1 : Int32) (p446.2.2.2.1 : Int64) (p446.2.2.2.2.1 : Int32) (p446.2.2.2.2.2.1 : Int32) (p446.2.2.2.2.2.2.1 : Int32) (p446.2.2.2.2.2.2.2.1 : Int32) (p446.2.2.2.2.2.2.2.2.1 : Int32) (p446.2.2.2.2.2.2.2.2.2.1 : Int32) (p446.2.2.2.2.2.2.2.2.2.2.1 : Int32) t1_0 t2_0 t3_0 t4_0 (p446.2.2.2.2.2.2.2.2.2.2.2 : (Nat → Int32)) = p514 at *
          unfold Q_DR_store at h15
          unfold S_DR_bring_c119_8 F_DR_bring_c119_8
          refine ⟨trivial, ?_⟩
          (unfold Q_DR_bring; dsimp only; with_reducible assumption)
        ·
          rw [if_neg g13, if_neg g13]
          refine ⟨trivial, ?_⟩
          (unfold Q_DR_bring; dsimp only; with_reducible assumption)
  ·
    rw [if_neg g2, if_neg g2]
    unfold S_DR_bring_J28 F_DR_bring_J28
    by_cases g16 : (lg_cmp x2 (p75.2.2.2.1 : Int64) : Int32) < (0 : Int32)
    ·
      rw [if_pos g16, if_pos g16]
      have g16l := g_lc1 g16
      by_cases g17 : (0 : Int32) ≤ (lg_cmp (((p75.2.2.1 : Int32).toInt64 : Int64) - ((p75.2.2.2.1 : Int64) - x2 : Int64) : Int64) (-1) : Int32)
      ·
        rw [if_pos g17, if_pos g17]
        have g17l := g_lc5 g17
        have h18 := T_DR_cut (x2 := ((((p75.2.2.1 : Int32).toInt64 : Int64) - ((p75.2.2.2.1 : Int64) - x2 : Int64) : Int64).toInt32 : Int32)) (x3 := x3) (t0_0 := (p75.1 : Int32)) (t0_1 := (p75.2.1 : Int32)) (t0_2 := (p75.2.2.1 : Int32)) (t0_3 := (p75.2.2.2.1 : Int64)) (t0_4 := (p75.2.2.2.2.1 : Int32)) (t0_5 := (p75.2.2.2.2.2.1 : Int32)) (t0_6 := (p75.2.2.2.2.2.2.1 : Int32)) (t0_7 := (p75.2.2.2.2.2.2.2.1 : Int32)) (t0_8 := (p75.2.2.2.2.2.2.2.2.1 : Int32)) (t0_9 := (p75.2.2.2.2.2.2.2.2.2.1 : Int32)) (t0_10 := (p75.2.2.2.2.2.2.2.2.2.2.1 : Int32)) (t1_0 := (p75.2.2.2.2.2.2.2.2.2.2.2 : (Nat → Int32))) ⟨by omega, by omega⟩ (by omega) (by first | exact ⟨by omega, by omega⟩ | exact ⟨by decide, by have ez : (-1 : Int32).toInt = -1 := rfl; omega⟩ | exact g_kp ⟨by omega, by omega⟩ ⟨by omega, by omega⟩ ⟨by omega, by omega⟩ (by with_reducible assumption) (by omega)) (by with_reducible assumption)
        with_reducible refine v_owe h18.1 ?_
        replace h18 := h18.2
        generalize F_DR_cut ((((p75.2.2.1 : Int32).toInt64 : Int64) - ((p75.2.2.2.1 : Int64) - x2 : Int64) : Int64).toInt32 : Int32) x3 (p75.1 : Int32) (p75.2.1 : Int32) (p75.2.2.1 : Int32) (p75.2.2.2.1 : Int64) (p75.2.2.2.2.1 : Int32) (p75.2.2.2.2.2.1 : Int32) (p75.2.2.2.2.2.2.1 : Int32) (p75.2.2.2.2.2.2.2.1 : Int32) (p75.2.2.2.2.2.2.2.2.1 : Int32) (p75.2.2.2.2.2.2.2.2.2.1 : Int32) (p75.2.2.2.2.2.2.2.2.2.2.1 : Int32) (p75.2.2.2.2.2.2.2.2.2.2.2 : (Nat → Int32)) = p165 at *
        unfold Q_DR_cut at h18
        obtain ⟨h181, h18g, h186⟩ := h18
        unfold S_DR_bring_c104 F_DR_bring_c104
        by_cases g19 : (p165.1 : Int32) = (0 : Int32)
        ·
          rw [if_pos g19, if_pos g19]
          refine ⟨trivial, ?_⟩
          (unfold Q_DR_bring; dsimp only; with_reducible assumption)
        ·
          rw [if_neg g19, if_neg g19]
          have h20 := T_DR_store (x2 := x4) (t0_0 := (p165.2.1 : Int32)) (t0_1 := (p165.2.2.1 : Int32)) (t0_2 := (p165.2.2.2.1 : Int32)) (t0_3 := x2) (t0_4 := (p165.2.2.2.2.2.1 : Int32)) (t0_5 := (p165.2.2.2.2.2.2.1 : Int32)) (t0_6 := (p165.2.2.2.2.2.2.2.1 : Int32)) (t0_7 := (p165.2.2.2.2.2.2.2.2.1 : Int32)) (t0_8 := (p165.2.2.2.2.2.2.2.2.2.1 : Int32)) (t0_9 := (p165.2.2.2.2.2.2.2.2.2.2.1 : Int32)) (t0_10 := (p165.2.2.2.2.2.2.2.2.2.2.2.1 : Int32)) (t1_0 := t1_0) (t2_0 := t2_0) (t3_0 := t3_0) (t4_0 := t4_0) (t5_0 := (p165.2.2.2.2.2.2.2.2.2.2.2.2 : (Nat → Int32))) (by with_reducible assumption) (by with_reducible assumption) ⟨by first | omega | decide, by first | omega | decide⟩ (by first | with_reducible assumption | exact g_cl (by with_reducible assumption) (by omega) (by omega) | omega | decide)
          with_reducible refine v_owe h20.1 ?_
          replace h20 := h20.2
          generalize F_DR_store x4 (p165.2.1 : Int32) (p165.2.2.1 : Int32) (p165.2.2.2.1 : Int32) x2 (p165.2.2.2.2.2.1 : Int32) (p165.2.2.2.2.2.2.1 : Int32) (p165.2.2.2.2.2.2.2.1 : Int32) (p165.2.2.2.2.2.2.2.2.1 : Int32) (p165.2.2.2.2.2.2.2.2.2.1 : Int32) (p165.2.2.2.2.2.2.2.2.2.2.1 : Int32) (p165.2.2.2.2.2.2.2.2.2.2.2.1 : Int32) t1_0 t2_0 t3_0 t4_0 (p165.2.2.2.2.2.2.2.2.2.2.2.2 : (Nat → Int32)) = p238 at *
          unfold Q_DR_store at h20
          unfold S_DR_bring_c119 F_DR_bring_c119
          refine ⟨trivial, ?_⟩
          (unfold Q_DR_bring; dsimp only; with_reducible assumption)
      ·
        rw [if_neg g17, if_neg g17]
        have g17l := g_lc6 g17
        have h21 := T_DR_cut (x2 := (-1 : Int32)) (x3 := x3) (t0_0 := (p75.1 : Int32)) (t0_1 := (p75.2.1 : Int32)) (t0_2 := (p75.2.2.1 : Int32)) (t0_3 := (p75.2.2.2.1 : Int64)) (t0_4 := (p75.2.2.2.2.1 : Int32)) (t0_5 := (p75.2.2.2.2.2.1 : Int32)) (t0_6 := (p75.2.2.2.2.2.2.1 : Int32)) (t0_7 := (p75.2.2.2.2.2.2.2.1 : Int32)) (t0_8 := (p75.2.2.2.2.2.2.2.2.1 : Int32)) (t0_9 := (p75.2.2.2.2.2.2.2.2.2.1 : Int32)) (t0_10 := (p75.2.2.2.2.2.2.2.2.2.2.1 : Int32)) (t1_0 := (p75.2.2.2.2.2.2.2.2.2.2.2 : (Nat → Int32))) ⟨by omega, by omega⟩ (by omega) (by first | exact ⟨by omega, by omega⟩ | exact ⟨by decide, by have ez : (-1 : Int32).toInt = -1 := rfl; omega⟩ | exact g_kp ⟨by omega, by omega⟩ ⟨by omega, by omega⟩ ⟨by omega, by omega⟩ (by with_reducible assumption) (by omega)) (by with_reducible assumption)
        with_reducible refine v_owe h21.1 ?_
        replace h21 := h21.2
        generalize F_DR_cut (-1 : Int32) x3 (p75.1 : Int32) (p75.2.1 : Int32) (p75.2.2.1 : Int32) (p75.2.2.2.1 : Int64) (p75.2.2.2.2.1 : Int32) (p75.2.2.2.2.2.1 : Int32) (p75.2.2.2.2.2.2.1 : Int32) (p75.2.2.2.2.2.2.2.1 : Int32) (p75.2.2.2.2.2.2.2.2.1 : Int32) (p75.2.2.2.2.2.2.2.2.2.1 : Int32) (p75.2.2.2.2.2.2.2.2.2.2.1 : Int32) (p75.2.2.2.2.2.2.2.2.2.2.2 : (Nat → Int32)) = p301 at *
        unfold Q_DR_cut at h21
        obtain ⟨h211, h21g, h216⟩ := h21
        unfold S_DR_bring_c104_5 F_DR_bring_c104_5
        by_cases g22 : (p301.1 : Int32) = (0 : Int32)
        ·
          rw [if_pos g22, if_pos g22]
          refine ⟨trivial, ?_⟩
          (unfold Q_DR_bring; dsimp only; with_reducible assumption)
        ·
          rw [if_neg g22, if_neg g22]
          have h23 := T_DR_store (x2 := x4) (t0_0 := (p301.2.1 : Int32)) (t0_1 := (p301.2.2.1 : Int32)) (t0_2 := (p301.2.2.2.1 : Int32)) (t0_3 := x2) (t0_4 := (p301.2.2.2.2.2.1 : Int32)) (t0_5 := (p301.2.2.2.2.2.2.1 : Int32)) (t0_6 := (p301.2.2.2.2.2.2.2.1 : Int32)) (t0_7 := (p301.2.2.2.2.2.2.2.2.1 : Int32)) (t0_8 := (p301.2.2.2.2.2.2.2.2.2.1 : Int32)) (t0_9 := (p301.2.2.2.2.2.2.2.2.2.2.1 : Int32)) (t0_10 := (p301.2.2.2.2.2.2.2.2.2.2.2.1 : Int32)) (t1_0 := t1_0) (t2_0 := t2_0) (t3_0 := t3_0) (t4_0 := t4_0) (t5_0 := (p301.2.2.2.2.2.2.2.2.2.2.2.2 : (Nat → Int32))) (by with_reducible assumption) (by with_reducible assumption) ⟨by first | omega | decide, by first | omega | decide⟩ (by first | with_reducible assumption | exact g_cl (by with_reducible assumption) (by omega) (by omega) | omega | decide)
          with_reducible refine v_owe h23.1 ?_
          replace h23 := h23.2
          generalize F_DR_store x4 (p301.2.1 : Int32) (p301.2.2.1 : Int32) (p301.2.2.2.1 : Int32) x2 (p301.2.2.2.2.2.1 : Int32) (p301.2.2.2.2.2.2.1 : Int32) (p301.2.2.2.2.2.2.2.1 : Int32) (p301.2.2.2.2.2.2.2.2.1 : Int32) (p301.2.2.2.2.2.2.2.2.2.1 : Int32) (p301.2.2.2.2.2.2.2.2.2.2.1 : Int32) (p301.2.2.2.2.2.2.2.2.2.2.2.1 : Int32) t1_0 t2_0 t3_0 t4_0 (p301.2.2.2.2.2.2.2.2.2.2.2.2 : (Nat → Int32)) = p374 at *
          unfold Q_DR_store at h23
          unfold S_DR_bring_c119_6 F_DR_bring_c119_6
          refine ⟨trivial, ?_⟩
          (unfold Q_DR_bring; dsimp only; with_reducible assumption)
    ·
      rw [if_neg g16, if_neg g16]
      have g16l := g_lc2 g16
      by_cases g24 : (lg_cmp (x2 - (p75.2.2.2.1 : Int64) : Int64) 1000 : Int32) ≤ (0 : Int32)
      ·
        rw [if_pos g24, if_pos g24]
        have g24l := g_lc3 g24
        have g24s := g_sL (b := x2) (c := p75.2.2.2.1) ⟨by omega, by omega⟩ ⟨by omega, by omega⟩
        have h25 := T_DR_lengthen (x2 := (x2 - (p75.2.2.2.1 : Int64) : Int64)) (t0_0 := (p75.1 : Int32)) (t0_1 := (p75.2.1 : Int32)) (t0_2 := (p75.2.2.1 : Int32)) (t0_3 := (p75.2.2.2.1 : Int64)) (t0_4 := (p75.2.2.2.2.1 : Int32)) (t0_5 := (p75.2.2.2.2.2.1 : Int32)) (t0_6 := (p75.2.2.2.2.2.2.1 : Int32)) (t0_7 := (p75.2.2.2.2.2.2.2.1 : Int32)) (t0_8 := (p75.2.2.2.2.2.2.2.2.1 : Int32)) (t0_9 := (p75.2.2.2.2.2.2.2.2.2.1 : Int32)) (t0_10 := (p75.2.2.2.2.2.2.2.2.2.2.1 : Int32)) (t1_0 := (p75.2.2.2.2.2.2.2.2.2.2.2 : (Nat → Int32))) ⟨by omega, by omega⟩ (by first | omega | decide) (by first | omega | (have ez : (0 : Int64).toInt = 0 := rfl; omega)) (by first | with_reducible assumption | exact g_cl (by with_reducible assumption) (by omega) (by omega) | omega | decide)
        with_reducible refine v_owe h25.1 ?_
        replace h25 := h25.2
        generalize F_DR_lengthen (x2 - (p75.2.2.2.1 : Int64) : Int64) (p75.1 : Int32) (p75.2.1 : Int32) (p75.2.2.1 : Int32) (p75.2.2.2.1 : Int64) (p75.2.2.2.2.1 : Int32) (p75.2.2.2.2.2.1 : Int32) (p75.2.2.2.2.2.2.1 : Int32) (p75.2.2.2.2.2.2.2.1 : Int32) (p75.2.2.2.2.2.2.2.2.1 : Int32) (p75.2.2.2.2.2.2.2.2.2.1 : Int32) (p75.2.2.2.2.2.2.2.2.2.2.1 : Int32) (p75.2.2.2.2.2.2.2.2.2.2.2 : (Nat → Int32)) = p446 at *
        unfold Q_DR_lengthen at h25
        obtain ⟨h251, h25g⟩ := h25
        unfold S_DR_bring_c66 F_DR_bring_c66
        have h26 := T_DR_store (x2 := x4) (t0_0 := (p446.1 : Int32)) (t0_1 := (p446.2.1 : Int32)) (t0_2 := (p446.2.2.1 : Int32)) (t0_3 := (p446.2.2.2.1 : Int64)) (t0_4 := (p446.2.2.2.2.1 : Int32)) (t0_5 := (p446.2.2.2.2.2.1 : Int32)) (t0_6 := (p446.2.2.2.2.2.2.1 : Int32)) (t0_7 := (p446.2.2.2.2.2.2.2.1 : Int32)) (t0_8 := (p446.2.2.2.2.2.2.2.2.1 : Int32)) (t0_9 := (p446.2.2.2.2.2.2.2.2.2.1 : Int32)) (t0_10 := (p446.2.2.2.2.2.2.2.2.2.2.1 : Int32)) (t1_0 := t1_0) (t2_0 := t2_0) (t3_0 := t3_0) (t4_0 := t4_0) (t5_0 := (p446.2.2.2.2.2.2.2.2.2.2.2 : (Nat → Int32))) (by with_reducible assumption) (by with_reducible assumption) ⟨by first | omega | decide, by first | omega | decide⟩ (by first | with_reducible assumption | exact g_cl (by with_reducible assumption) (by omega) (by omega) | omega | decide)
        with_reducible refine v_owe h26.1 ?_
        replace h26 := h26.2
        generalize F_DR_store x4 (p446.1 : Int32) (p446.2.1 : Int32) (p446.2.2.1 : Int32) (p446.2.2.2.1 : Int64) (p446.2.2.2.2.1 : Int32) (p446.2.2.2.2.2.1 : Int32) (p446.2.2.2.2.2.2.1 : Int32) (p446.2.2.2.2.2.2.2.1 : Int32) (p446.2.2.2.2.2.2.2.2.1 : Int32) (p446.2.2.2.2.2.2.2.2.2.1 : Int32) (p446.2.2.2.2.2.2.2.2.2.2.1 : Int32) t1_0 t2_0 t3_0 t4_0 (p446.2.2.2.2.2.2.2.2.2.2.2 : (Nat → Int32)) = p514 at *
        unfold Q_DR_store at h26
        unfold S_DR_bring_c119_8 F_DR_bring_c119_8
        refine ⟨trivial, ?_⟩
        (unfold Q_DR_bring; dsimp only; with_reducible assumption)
      ·
        rw [if_neg g24, if_neg g24]
        refine ⟨trivial, ?_⟩
        (unfold Q_DR_bring; dsimp only; with_reducible assumption)
def Q_DR_toPrecision (p : Int32 × Int32 × Int32 × Int64 × Int32 × Int32 × Int32 × Int32 × Int32 × Int32 × Int32 × (Nat → Int32) × (Nat → Int32) × (Nat → Int32) × (Nat → Int32) × (Nat → Int32)) : Prop := gR p.2.2.2.2.2.2.2.2.2.2.2.1 p.2.2.2.2.2.2.2.2.2.2.2.2.1 p.2.2.2.2.2.2.2.2.2.2.2.2.2.1 p.2.2.2.2.2.2.2.2.2.2.2.2.2.2.1
theorem T_DR_toPrecision {x2 : Int32} {x3 : Int64} {x4 : Int32} {x5 : Int32} {t0_0 : Int32} {t0_1 : Int32} {t0_2 : Int32} {t0_3 : Int64} {t0_4 : Int32} {t0_5 : Int32} {t0_6 : Int32} {t0_7 : Int32} {t0_8 : Int32} {t0_9 : Int32} {t0_10 : Int32} {t1_0 : (Nat → Int32)} {t2_0 : (Nat → Int32)} {t3_0 : (Nat → Int32)} {t4_0 : (Nat → Int32)} {t5_0 : (Nat → Int32)} (hR : gR t1_0 t2_0 t3_0 t4_0)(hx : 0 ≤ x5.toInt ∧ x5.toInt ≤ 9) (hp : 1 ≤ x2.toInt ∧ x2.toInt ≤ 1000) (h2 : 0 ≤ t0_2.toInt ∧ t0_2.toInt ≤ 4399) (hg : gO t5_0 t0_2.toNatClampNeg) (hmo : t0_4.toInt ≠ 0 → x2.toInt < t0_2.toInt ∧ t5_0 0 ≠ 0) : (S_DR_toPrecision x2 x3 x4 x5 t0_0 t0_1 t0_2 t0_3 t0_4 t0_5 t0_6 t0_7 t0_8 t0_9 t0_10 t1_0 t2_0 t3_0 t4_0 t5_0) ∧ Q_DR_toPrecision (F_DR_toPrecision x2 x3 x4 x5 t0_0 t0_1 t0_2 t0_3 t0_4 t0_5 t0_6 t0_7 t0_8 t0_9 t0_10 t1_0 t2_0 t3_0 t4_0 t5_0) := by
  have e0 : (0 : Int32).toInt = 0 := rfl
  have eL0 : (0 : Int64).toInt = 0 := rfl
  have eL1 : (10000 : Int64).toInt = 10000 := rfl
  have eL2 : (-10000 : Int64).toInt = -10000 := rfl
  have eL3 : (1000 : Int64).toInt = 1000 := rfl
  have eL4 : (-1 : Int64).toInt = -1 := rfl
  have eI3 : (1000 : Int32).toInt = 1000 := rfl
  unfold S_DR_toPrecision F_DR_toPrecision
  have h1 := T_DR_trim (t0_0 := t0_0) (t0_1 := t0_1) (t0_2 := t0_2) (t0_3 := t0_3) (t0_4 := t0_4) (t0_5 := t0_5) (t0_6 := t0_6) (t0_7 := t0_7) (t0_8 := t0_8) (t0_9 := t0_9) (t0_10 := t0_10) (t1_0 := t5_0) ⟨by omega, by omega⟩ (by first | with_reducible assumption | exact g_cl (by with_reducible assumption) (by omega) (by omega) | omega | decide)
  with_reducible refine v_owe h1.1 ?_
  replace h1 := h1.2
  generalize F_DR_trim t0_0 t0_1 t0_2 t0_3 t0_4 t0_5 t0_6 t0_7 t0_8 t0_9 t0_10 t5_0 = p75 at *
  unfold Q_DR_trim at h1
  obtain ⟨⟨h11, h12, h13, h19⟩, h1g, h15, h1a, h1b, h1s, h1m, h1x6, h1x7, h1x8, h1x9, h1x10⟩ := h1
  have trim9 := h19
  have h1si := congrArg Int64.toInt h1s
  have h1mi := congrArg Int32.toInt h1m
  unfold S_DR_toPrecision_c1 F_DR_toPrecision_c1
  by_cases g2 : ((p75.2.2.2.2.2.2.2.2.2.2.2 : (Nat → Int32)) (0 : Int32).toNatClampNeg : Int32) = (0 : Int32)
  ·
    rw [if_pos g2, if_pos g2]
    by_cases g3 : (p75.2.2.2.2.1 : Int32) = (0 : Int32)
    ·
      rw [if_pos g3, if_pos g3]
      have h4 := T_DR_store (x2 := x5) (t0_0 := (p75.1 : Int32)) (t0_1 := (p75.2.1 : Int32)) (t0_2 := (p75.2.2.1 : Int32)) (t0_3 := x3) (t0_4 := (p75.2.2.2.2.1 : Int32)) (t0_5 := (p75.2.2.2.2.2.1 : Int32)) (t0_6 := (p75.2.2.2.2.2.2.1 : Int32)) (t0_7 := (p75.2.2.2.2.2.2.2.1 : Int32)) (t0_8 := (p75.2.2.2.2.2.2.2.2.1 : Int32)) (t0_9 := (p75.2.2.2.2.2.2.2.2.2.1 : Int32)) (t0_10 := (p75.2.2.2.2.2.2.2.2.2.2.1 : Int32)) (t1_0 := t1_0) (t2_0 := t2_0) (t3_0 := t3_0) (t4_0 := t4_0) (t5_0 := (p75.2.2.2.2.2.2.2.2.2.2.2 : (Nat → Int32))) (by with_reducible assumption) (by with_reducible assumption) ⟨by first | omega | decide, by first | omega | decide⟩ (by first | with_reducible assumption | exact g_cl (by with_reducible assumption) (by omega) (by omega) | omega | decide)
      with_reducible refine v_owe h4.1 ?_
      replace h4 := h4.2
      generalize F_DR_store x5 (p75.1 : Int32) (p75.2.1 : Int32) (p75.2.2.1 : Int32) x3 (p75.2.2.2.2.1 : Int32) (p75.2.2.2.2.2.1 : Int32) (p75.2.2.2.2.2.2.1 : Int32) (p75.2.2.2.2.2.2.2.1 : Int32) (p75.2.2.2.2.2.2.2.2.1 : Int32) (p75.2.2.2.2.2.2.2.2.2.1 : Int32) (p75.2.2.2.2.2.2.2.2.2.2.1 : Int32) t1_0 t2_0 t3_0 t4_0 (p75.2.2.2.2.2.2.2.2.2.2.2 : (Nat → Int32)) = p830 at *
      unfold Q_DR_store at h4
      unfold S_DR_toPrecision_c28 F_DR_toPrecision_c28
      refine ⟨trivial, ?_⟩
      (unfold Q_DR_toPrecision; dsimp only; with_reducible assumption)
    ·
      rw [if_neg g3, if_neg g3]
      have g3i := q_neI g3
      have g3w := hmo (by omega)
      have g3q := congrArg Int32.toInt (trim9 g3w.2 (by omega))
      unfold S_DR_toPrecision_J32 F_DR_toPrecision_J32
      have h5 := R_need (t0_0 := (p75.1 : Int32)) (t0_1 := (p75.2.1 : Int32)) (t0_2 := (p75.2.2.1 : Int32)) (t0_3 := (p75.2.2.2.1 : Int64)) (t0_4 := (p75.2.2.2.2.1 : Int32)) (t0_5 := (p75.2.2.2.2.2.1 : Int32)) (t0_6 := (p75.2.2.2.2.2.2.1 : Int32)) (t0_7 := (p75.2.2.2.2.2.2.2.1 : Int32)) (t0_8 := (p75.2.2.2.2.2.2.2.2.1 : Int32)) (t0_9 := (p75.2.2.2.2.2.2.2.2.2.1 : Int32)) (t0_10 := (p75.2.2.2.2.2.2.2.2.2.2.1 : Int32)) (t1_0 := (p75.2.2.2.2.2.2.2.2.2.2.2 : (Nat → Int32))) ⟨by omega, by omega⟩
      have h5b := h5.2
      with_reducible refine v_owe h5.1 ?_
      rw [if_neg g3, if_neg g3]
      unfold S_DR_toPrecision_J129 F_DR_toPrecision_J129
      have h6 := T_DR_cut (x2 := x2) (x3 := x4) (t0_0 := (p75.1 : Int32)) (t0_1 := (p75.2.1 : Int32)) (t0_2 := (p75.2.2.1 : Int32)) (t0_3 := (p75.2.2.2.1 : Int64)) (t0_4 := (p75.2.2.2.2.1 : Int32)) (t0_5 := (p75.2.2.2.2.2.1 : Int32)) (t0_6 := (p75.2.2.2.2.2.2.1 : Int32)) (t0_7 := (p75.2.2.2.2.2.2.2.1 : Int32)) (t0_8 := (p75.2.2.2.2.2.2.2.2.1 : Int32)) (t0_9 := (p75.2.2.2.2.2.2.2.2.2.1 : Int32)) (t0_10 := (p75.2.2.2.2.2.2.2.2.2.2.1 : Int32)) (t1_0 := (p75.2.2.2.2.2.2.2.2.2.2.2 : (Nat → Int32))) ⟨by omega, by omega⟩ (by omega) (by first | exact ⟨by omega, by omega⟩ | exact ⟨by decide, by have ez : (-1 : Int32).toInt = -1 := rfl; omega⟩ | exact g_kp ⟨by omega, by omega⟩ ⟨by omega, by omega⟩ ⟨by omega, by omega⟩ (by with_reducible assumption) (by omega)) (by with_reducible assumption)
      with_reducible refine v_owe h6.1 ?_
      replace h6 := h6.2
      generalize F_DR_cut x2 x4 (p75.1 : Int32) (p75.2.1 : Int32) (p75.2.2.1 : Int32) (p75.2.2.2.1 : Int64) (p75.2.2.2.2.1 : Int32) (p75.2.2.2.2.2.1 : Int32) (p75.2.2.2.2.2.2.1 : Int32) (p75.2.2.2.2.2.2.2.1 : Int32) (p75.2.2.2.2.2.2.2.2.1 : Int32) (p75.2.2.2.2.2.2.2.2.2.1 : Int32) (p75.2.2.2.2.2.2.2.2.2.2.1 : Int32) (p75.2.2.2.2.2.2.2.2.2.2.2 : (Nat → Int32)) = p166 at *
      unfold Q_DR_cut at h6
      obtain ⟨h61, h6g, h66⟩ := h6
      unfold S_DR_toPrecision_c133 F_DR_toPrecision_c133
      by_cases g7 : (p166.1 : Int32) = (0 : Int32)
      ·
        rw [if_pos g7, if_pos g7]
        refine ⟨trivial, ?_⟩
        (unfold Q_DR_toPrecision; dsimp only; with_reducible assumption)
      ·
        rw [if_neg g7, if_neg g7]
        by_cases g8 : (p166.2.2.2.1 : Int32) ≤ x2
        ·
          rw [if_pos g8, if_pos g8]
          have h9 := T_DR_store (x2 := x5) (t0_0 := (p166.2.1 : Int32)) (t0_1 := (p166.2.2.1 : Int32)) (t0_2 := (p166.2.2.2.1 : Int32)) (t0_3 := (p166.2.2.2.2.1 : Int64)) (t0_4 := (p166.2.2.2.2.2.1 : Int32)) (t0_5 := (p166.2.2.2.2.2.2.1 : Int32)) (t0_6 := (p166.2.2.2.2.2.2.2.1 : Int32)) (t0_7 := (p166.2.2.2.2.2.2.2.2.1 : Int32)) (t0_8 := (p166.2.2.2.2.2.2.2.2.2.1 : Int32)) (t0_9 := (p166.2.2.2.2.2.2.2.2.2.2.1 : Int32)) (t0_10 := (p166.2.2.2.2.2.2.2.2.2.2.2.1 : Int32)) (t1_0 := t1_0) (t2_0 := t2_0) (t3_0 := t3_0) (t4_0 := t4_0) (t5_0 := (p166.2.2.2.2.2.2.2.2.2.2.2.2 : (Nat → Int32))) (by with_reducible assumption) (by with_reducible assumption) ⟨by first | omega | decide, by first | omega | decide⟩ (by first | with_reducible assumption | exact g_cl (by with_reducible assumption) (by omega) (by omega) | omega | decide)
          with_reducible refine v_owe h9.1 ?_
          replace h9 := h9.2
          generalize F_DR_store x5 (p166.2.1 : Int32) (p166.2.2.1 : Int32) (p166.2.2.2.1 : Int32) (p166.2.2.2.2.1 : Int64) (p166.2.2.2.2.2.1 : Int32) (p166.2.2.2.2.2.2.1 : Int32) (p166.2.2.2.2.2.2.2.1 : Int32) (p166.2.2.2.2.2.2.2.2.1 : Int32) (p166.2.2.2.2.2.2.2.2.2.1 : Int32) (p166.2.2.2.2.2.2.2.2.2.2.1 : Int32) (p166.2.2.2.2.2.2.2.2.2.2.2.1 : Int32) t1_0 t2_0 t3_0 t4_0 (p166.2.2.2.2.2.2.2.2.2.2.2.2 : (Nat → Int32)) = p240 at *
          unfold Q_DR_store at h9
          unfold S_DR_toPrecision_c170 F_DR_toPrecision_c170
          refine ⟨trivial, ?_⟩
          (unfold Q_DR_toPrecision; dsimp only; with_reducible assumption)
        ·
          rw [if_neg g8, if_neg g8]
          have g8i := q_nleI g8
          have g8e : (p166.2.2.2.1 - 1 : Int32).toInt = p166.2.2.2.1.toInt - 1 := q_subI (y := 1) rfl (by decide) (by omega) (by omega)
          have h10 := T_DR_store (x2 := x5) (t0_0 := (p166.2.1 : Int32)) (t0_1 := (p166.2.2.1 : Int32)) (t0_2 := ((p166.2.2.2.1 : Int32) - 1 : Int32)) (t0_3 := ((p166.2.2.2.2.1 : Int64) - 1 : Int64)) (t0_4 := (p166.2.2.2.2.2.1 : Int32)) (t0_5 := (p166.2.2.2.2.2.2.1 : Int32)) (t0_6 := (p166.2.2.2.2.2.2.2.1 : Int32)) (t0_7 := (p166.2.2.2.2.2.2.2.2.1 : Int32)) (t0_8 := (p166.2.2.2.2.2.2.2.2.2.1 : Int32)) (t0_9 := (p166.2.2.2.2.2.2.2.2.2.2.1 : Int32)) (t0_10 := (p166.2.2.2.2.2.2.2.2.2.2.2.1 : Int32)) (t1_0 := t1_0) (t2_0 := t2_0) (t3_0 := t3_0) (t4_0 := t4_0) (t5_0 := (p166.2.2.2.2.2.2.2.2.2.2.2.2 : (Nat → Int32))) (by with_reducible assumption) (by with_reducible assumption) ⟨by first | omega | decide, by first | omega | decide⟩ (by first | with_reducible assumption | exact g_cl (by with_reducible assumption) (by omega) (by omega) | omega | decide)
          with_reducible refine v_owe h10.1 ?_
          replace h10 := h10.2
          generalize F_DR_store x5 (p166.2.1 : Int32) (p166.2.2.1 : Int32) ((p166.2.2.2.1 : Int32) - 1 : Int32) ((p166.2.2.2.2.1 : Int64) - 1 : Int64) (p166.2.2.2.2.2.1 : Int32) (p166.2.2.2.2.2.2.1 : Int32) (p166.2.2.2.2.2.2.2.1 : Int32) (p166.2.2.2.2.2.2.2.2.1 : Int32) (p166.2.2.2.2.2.2.2.2.2.1 : Int32) (p166.2.2.2.2.2.2.2.2.2.2.1 : Int32) (p166.2.2.2.2.2.2.2.2.2.2.2.1 : Int32) t1_0 t2_0 t3_0 t4_0 (p166.2.2.2.2.2.2.2.2.2.2.2.2 : (Nat → Int32)) = p322 at *
          unfold Q_DR_store at h10
          unfold S_DR_toPrecision_c170_6 F_DR_toPrecision_c170_6
          refine ⟨trivial, ?_⟩
          (unfold Q_DR_toPrecision; dsimp only; with_reducible assumption)
  ·
    rw [if_neg g2, if_neg g2]
    unfold S_DR_toPrecision_J32 F_DR_toPrecision_J32
    have h11 := R_need (t0_0 := (p75.1 : Int32)) (t0_1 := (p75.2.1 : Int32)) (t0_2 := (p75.2.2.1 : Int32)) (t0_3 := (p75.2.2.2.1 : Int64)) (t0_4 := (p75.2.2.2.2.1 : Int32)) (t0_5 := (p75.2.2.2.2.2.1 : Int32)) (t0_6 := (p75.2.2.2.2.2.2.1 : Int32)) (t0_7 := (p75.2.2.2.2.2.2.2.1 : Int32)) (t0_8 := (p75.2.2.2.2.2.2.2.2.1 : Int32)) (t0_9 := (p75.2.2.2.2.2.2.2.2.2.1 : Int32)) (t0_10 := (p75.2.2.2.2.2.2.2.2.2.2.1 : Int32)) (t1_0 := (p75.2.2.2.2.2.2.2.2.2.2.2 : (Nat → Int32))) ⟨by omega, by omega⟩
    have h11b := h11.2
    with_reducible refine v_owe h11.1 ?_
    by_cases g12 : (p75.2.2.2.2.1 : Int32) = (0 : Int32)
    ·
      rw [if_pos g12, if_pos g12]
      by_cases g13 : x2 < ((F_DR_needed (p75.1 : Int32) (p75.2.1 : Int32) (p75.2.2.1 : Int32) (p75.2.2.2.1 : Int64) (p75.2.2.2.2.1 : Int32) (p75.2.2.2.2.2.1 : Int32) (p75.2.2.2.2.2.2.1 : Int32) (p75.2.2.2.2.2.2.2.1 : Int32) (p75.2.2.2.2.2.2.2.2.1 : Int32) (p75.2.2.2.2.2.2.2.2.2.1 : Int32) (p75.2.2.2.2.2.2.2.2.2.2.1 : Int32) (p75.2.2.2.2.2.2.2.2.2.2.2 : (Nat → Int32))) : Int32)
      ·
        rw [if_pos g13, if_pos g13]
        have g13i := q_ltI g13
        unfold S_DR_toPrecision_J129 F_DR_toPrecision_J129
        have h14 := T_DR_cut (x2 := x2) (x3 := x4) (t0_0 := (p75.1 : Int32)) (t0_1 := (p75.2.1 : Int32)) (t0_2 := (p75.2.2.1 : Int32)) (t0_3 := (p75.2.2.2.1 : Int64)) (t0_4 := (p75.2.2.2.2.1 : Int32)) (t0_5 := (p75.2.2.2.2.2.1 : Int32)) (t0_6 := (p75.2.2.2.2.2.2.1 : Int32)) (t0_7 := (p75.2.2.2.2.2.2.2.1 : Int32)) (t0_8 := (p75.2.2.2.2.2.2.2.2.1 : Int32)) (t0_9 := (p75.2.2.2.2.2.2.2.2.2.1 : Int32)) (t0_10 := (p75.2.2.2.2.2.2.2.2.2.2.1 : Int32)) (t1_0 := (p75.2.2.2.2.2.2.2.2.2.2.2 : (Nat → Int32))) ⟨by omega, by omega⟩ (by omega) (by first | exact ⟨by omega, by omega⟩ | exact ⟨by decide, by have ez : (-1 : Int32).toInt = -1 := rfl; omega⟩ | exact g_kp ⟨by omega, by omega⟩ ⟨by omega, by omega⟩ ⟨by omega, by omega⟩ (by with_reducible assumption) (by omega)) (by with_reducible assumption)
        with_reducible refine v_owe h14.1 ?_
        replace h14 := h14.2
        generalize F_DR_cut x2 x4 (p75.1 : Int32) (p75.2.1 : Int32) (p75.2.2.1 : Int32) (p75.2.2.2.1 : Int64) (p75.2.2.2.2.1 : Int32) (p75.2.2.2.2.2.1 : Int32) (p75.2.2.2.2.2.2.1 : Int32) (p75.2.2.2.2.2.2.2.1 : Int32) (p75.2.2.2.2.2.2.2.2.1 : Int32) (p75.2.2.2.2.2.2.2.2.2.1 : Int32) (p75.2.2.2.2.2.2.2.2.2.2.1 : Int32) (p75.2.2.2.2.2.2.2.2.2.2.2 : (Nat → Int32)) = p166 at *
        unfold Q_DR_cut at h14
        obtain ⟨h141, h14g, h146⟩ := h14
        unfold S_DR_toPrecision_c133 F_DR_toPrecision_c133
        by_cases g15 : (p166.1 : Int32) = (0 : Int32)
        ·
          rw [if_pos g15, if_pos g15]
          refine ⟨trivial, ?_⟩
          (unfold Q_DR_toPrecision; dsimp only; with_reducible assumption)
        ·
          rw [if_neg g15, if_neg g15]
          by_cases g16 : (p166.2.2.2.1 : Int32) ≤ x2
          ·
            rw [if_pos g16, if_pos g16]
            have h17 := T_DR_store (x2 := x5) (t0_0 := (p166.2.1 : Int32)) (t0_1 := (p166.2.2.1 : Int32)) (t0_2 := (p166.2.2.2.1 : Int32)) (t0_3 := (p166.2.2.2.2.1 : Int64)) (t0_4 := (p166.2.2.2.2.2.1 : Int32)) (t0_5 := (p166.2.2.2.2.2.2.1 : Int32)) (t0_6 := (p166.2.2.2.2.2.2.2.1 : Int32)) (t0_7 := (p166.2.2.2.2.2.2.2.2.1 : Int32)) (t0_8 := (p166.2.2.2.2.2.2.2.2.2.1 : Int32)) (t0_9 := (p166.2.2.2.2.2.2.2.2.2.2.1 : Int32)) (t0_10 := (p166.2.2.2.2.2.2.2.2.2.2.2.1 : Int32)) (t1_0 := t1_0) (t2_0 := t2_0) (t3_0 := t3_0) (t4_0 := t4_0) (t5_0 := (p166.2.2.2.2.2.2.2.2.2.2.2.2 : (Nat → Int32))) (by with_reducible assumption) (by with_reducible assumption) ⟨by first | omega | decide, by first | omega | decide⟩ (by first | with_reducible assumption | exact g_cl (by with_reducible assumption) (by omega) (by omega) | omega | decide)
            with_reducible refine v_owe h17.1 ?_
            replace h17 := h17.2
            generalize F_DR_store x5 (p166.2.1 : Int32) (p166.2.2.1 : Int32) (p166.2.2.2.1 : Int32) (p166.2.2.2.2.1 : Int64) (p166.2.2.2.2.2.1 : Int32) (p166.2.2.2.2.2.2.1 : Int32) (p166.2.2.2.2.2.2.2.1 : Int32) (p166.2.2.2.2.2.2.2.2.1 : Int32) (p166.2.2.2.2.2.2.2.2.2.1 : Int32) (p166.2.2.2.2.2.2.2.2.2.2.1 : Int32) (p166.2.2.2.2.2.2.2.2.2.2.2.1 : Int32) t1_0 t2_0 t3_0 t4_0 (p166.2.2.2.2.2.2.2.2.2.2.2.2 : (Nat → Int32)) = p240 at *
            unfold Q_DR_store at h17
            unfold S_DR_toPrecision_c170 F_DR_toPrecision_c170
            refine ⟨trivial, ?_⟩
            (unfold Q_DR_toPrecision; dsimp only; with_reducible assumption)
          ·
            rw [if_neg g16, if_neg g16]
            have g16i := q_nleI g16
            have g16e : (p166.2.2.2.1 - 1 : Int32).toInt = p166.2.2.2.1.toInt - 1 := q_subI (y := 1) rfl (by decide) (by omega) (by omega)
            have h18 := T_DR_store (x2 := x5) (t0_0 := (p166.2.1 : Int32)) (t0_1 := (p166.2.2.1 : Int32)) (t0_2 := ((p166.2.2.2.1 : Int32) - 1 : Int32)) (t0_3 := ((p166.2.2.2.2.1 : Int64) - 1 : Int64)) (t0_4 := (p166.2.2.2.2.2.1 : Int32)) (t0_5 := (p166.2.2.2.2.2.2.1 : Int32)) (t0_6 := (p166.2.2.2.2.2.2.2.1 : Int32)) (t0_7 := (p166.2.2.2.2.2.2.2.2.1 : Int32)) (t0_8 := (p166.2.2.2.2.2.2.2.2.2.1 : Int32)) (t0_9 := (p166.2.2.2.2.2.2.2.2.2.2.1 : Int32)) (t0_10 := (p166.2.2.2.2.2.2.2.2.2.2.2.1 : Int32)) (t1_0 := t1_0) (t2_0 := t2_0) (t3_0 := t3_0) (t4_0 := t4_0) (t5_0 := (p166.2.2.2.2.2.2.2.2.2.2.2.2 : (Nat → Int32))) (by with_reducible assumption) (by with_reducible assumption) ⟨by first | omega | decide, by first | omega | decide⟩ (by first | with_reducible assumption | exact g_cl (by with_reducible assumption) (by omega) (by omega) | omega | decide)
            with_reducible refine v_owe h18.1 ?_
            replace h18 := h18.2
            generalize F_DR_store x5 (p166.2.1 : Int32) (p166.2.2.1 : Int32) ((p166.2.2.2.1 : Int32) - 1 : Int32) ((p166.2.2.2.2.1 : Int64) - 1 : Int64) (p166.2.2.2.2.2.1 : Int32) (p166.2.2.2.2.2.2.1 : Int32) (p166.2.2.2.2.2.2.2.1 : Int32) (p166.2.2.2.2.2.2.2.2.1 : Int32) (p166.2.2.2.2.2.2.2.2.2.1 : Int32) (p166.2.2.2.2.2.2.2.2.2.2.1 : Int32) (p166.2.2.2.2.2.2.2.2.2.2.2.1 : Int32) t1_0 t2_0 t3_0 t4_0 (p166.2.2.2.2.2.2.2.2.2.2.2.2 : (Nat → Int32)) = p322 at *
            unfold Q_DR_store at h18
            unfold S_DR_toPrecision_c170_6 F_DR_toPrecision_c170_6
            refine ⟨trivial, ?_⟩
            (unfold Q_DR_toPrecision; dsimp only; with_reducible assumption)
      ·
        rw [if_neg g13, if_neg g13]
        have g13i := q_nltI g13
        by_cases g19 : (0 : Int32) ≤ (lg_cmp (x3 - ((p75.2.2.2.1 : Int64) - (((p75.2.2.1 : Int32) - ((F_DR_needed (p75.1 : Int32) (p75.2.1 : Int32) (p75.2.2.1 : Int32) (p75.2.2.2.1 : Int64) (p75.2.2.2.2.1 : Int32) (p75.2.2.2.2.2.1 : Int32) (p75.2.2.2.2.2.2.1 : Int32) (p75.2.2.2.2.2.2.2.1 : Int32) (p75.2.2.2.2.2.2.2.2.1 : Int32) (p75.2.2.2.2.2.2.2.2.2.1 : Int32) (p75.2.2.2.2.2.2.2.2.2.2.1 : Int32) (p75.2.2.2.2.2.2.2.2.2.2.2 : (Nat → Int32))) : Int32) : Int32).toInt64 : Int64) : Int64) : Int64) 0 : Int32)
        ·
          rw [if_pos g19, if_pos g19]
          have g19l := g_lc5 g19
          by_cases g20 : (lg_cmp (x3 - ((p75.2.2.2.1 : Int64) - (((p75.2.2.1 : Int32) - ((F_DR_needed (p75.1 : Int32) (p75.2.1 : Int32) (p75.2.2.1 : Int32) (p75.2.2.2.1 : Int64) (p75.2.2.2.2.1 : Int32) (p75.2.2.2.2.2.1 : Int32) (p75.2.2.2.2.2.2.1 : Int32) (p75.2.2.2.2.2.2.2.1 : Int32) (p75.2.2.2.2.2.2.2.2.1 : Int32) (p75.2.2.2.2.2.2.2.2.2.1 : Int32) (p75.2.2.2.2.2.2.2.2.2.2.1 : Int32) (p75.2.2.2.2.2.2.2.2.2.2.2 : (Nat → Int32))) : Int32) : Int32).toInt64 : Int64) : Int64) : Int64) ((x2 - ((F_DR_needed (p75.1 : Int32) (p75.2.1 : Int32) (p75.2.2.1 : Int32) (p75.2.2.2.1 : Int64) (p75.2.2.2.2.1 : Int32) (p75.2.2.2.2.2.1 : Int32) (p75.2.2.2.2.2.2.1 : Int32) (p75.2.2.2.2.2.2.2.1 : Int32) (p75.2.2.2.2.2.2.2.2.1 : Int32) (p75.2.2.2.2.2.2.2.2.2.1 : Int32) (p75.2.2.2.2.2.2.2.2.2.2.1 : Int32) (p75.2.2.2.2.2.2.2.2.2.2.2 : (Nat → Int32))) : Int32) : Int32).toInt64 : Int64) : Int32) ≤ (0 : Int32)
          ·
            rw [if_pos g20, if_pos g20]
            have g20l := g_lc3 g20
            have g20s := g_sI (b := x2) (c := (F_DR_needed p75.1 p75.2.1 p75.2.2.1 p75.2.2.2.1 p75.2.2.2.2.1 p75.2.2.2.2.2.1 p75.2.2.2.2.2.2.1 p75.2.2.2.2.2.2.2.1 p75.2.2.2.2.2.2.2.2.1 p75.2.2.2.2.2.2.2.2.2.1 p75.2.2.2.2.2.2.2.2.2.2.1 p75.2.2.2.2.2.2.2.2.2.2.2)) ⟨by omega, by omega⟩ ⟨by omega, by omega⟩
            have h21 := T_DR_lengthen (x2 := (x3 - ((p75.2.2.2.1 : Int64) - (((p75.2.2.1 : Int32) - ((F_DR_needed (p75.1 : Int32) (p75.2.1 : Int32) (p75.2.2.1 : Int32) (p75.2.2.2.1 : Int64) (p75.2.2.2.2.1 : Int32) (p75.2.2.2.2.2.1 : Int32) (p75.2.2.2.2.2.2.1 : Int32) (p75.2.2.2.2.2.2.2.1 : Int32) (p75.2.2.2.2.2.2.2.2.1 : Int32) (p75.2.2.2.2.2.2.2.2.2.1 : Int32) (p75.2.2.2.2.2.2.2.2.2.2.1 : Int32) (p75.2.2.2.2.2.2.2.2.2.2.2 : (Nat → Int32))) : Int32) : Int32).toInt64 : Int64) : Int64) : Int64)) (t0_0 := (p75.1 : Int32)) (t0_1 := (p75.2.1 : Int32)) (t0_2 := ((F_DR_needed (p75.1 : Int32) (p75.2.1 : Int32) (p75.2.2.1 : Int32) (p75.2.2.2.1 : Int64) (p75.2.2.2.2.1 : Int32) (p75.2.2.2.2.2.1 : Int32) (p75.2.2.2.2.2.2.1 : Int32) (p75.2.2.2.2.2.2.2.1 : Int32) (p75.2.2.2.2.2.2.2.2.1 : Int32) (p75.2.2.2.2.2.2.2.2.2.1 : Int32) (p75.2.2.2.2.2.2.2.2.2.2.1 : Int32) (p75.2.2.2.2.2.2.2.2.2.2.2 : (Nat → Int32))) : Int32)) (t0_3 := ((p75.2.2.2.1 : Int64) - (((p75.2.2.1 : Int32) - ((F_DR_needed (p75.1 : Int32) (p75.2.1 : Int32) (p75.2.2.1 : Int32) (p75.2.2.2.1 : Int64) (p75.2.2.2.2.1 : Int32) (p75.2.2.2.2.2.1 : Int32) (p75.2.2.2.2.2.2.1 : Int32) (p75.2.2.2.2.2.2.2.1 : Int32) (p75.2.2.2.2.2.2.2.2.1 : Int32) (p75.2.2.2.2.2.2.2.2.2.1 : Int32) (p75.2.2.2.2.2.2.2.2.2.2.1 : Int32) (p75.2.2.2.2.2.2.2.2.2.2.2 : (Nat → Int32))) : Int32) : Int32).toInt64 : Int64) : Int64)) (t0_4 := (p75.2.2.2.2.1 : Int32)) (t0_5 := (p75.2.2.2.2.2.1 : Int32)) (t0_6 := (p75.2.2.2.2.2.2.1 : Int32)) (t0_7 := (p75.2.2.2.2.2.2.2.1 : Int32)) (t0_8 := (p75.2.2.2.2.2.2.2.2.1 : Int32)) (t0_9 := (p75.2.2.2.2.2.2.2.2.2.1 : Int32)) (t0_10 := (p75.2.2.2.2.2.2.2.2.2.2.1 : Int32)) (t1_0 := (p75.2.2.2.2.2.2.2.2.2.2.2 : (Nat → Int32))) ⟨by omega, by omega⟩ (by first | omega | decide) (by first | omega | (have ez : (0 : Int64).toInt = 0 := rfl; omega)) (by first | with_reducible assumption | exact g_cl (by with_reducible assumption) (by omega) (by omega) | omega | decide)
            with_reducible refine v_owe h21.1 ?_
            replace h21 := h21.2
            generalize F_DR_lengthen (x3 - ((p75.2.2.2.1 : Int64) - (((p75.2.2.1 : Int32) - ((F_DR_needed (p75.1 : Int32) (p75.2.1 : Int32) (p75.2.2.1 : Int32) (p75.2.2.2.1 : Int64) (p75.2.2.2.2.1 : Int32) (p75.2.2.2.2.2.1 : Int32) (p75.2.2.2.2.2.2.1 : Int32) (p75.2.2.2.2.2.2.2.1 : Int32) (p75.2.2.2.2.2.2.2.2.1 : Int32) (p75.2.2.2.2.2.2.2.2.2.1 : Int32) (p75.2.2.2.2.2.2.2.2.2.2.1 : Int32) (p75.2.2.2.2.2.2.2.2.2.2.2 : (Nat → Int32))) : Int32) : Int32).toInt64 : Int64) : Int64) : Int64) (p75.1 : Int32) (p75.2.1 : Int32) ((F_DR_needed (p75.1 : Int32) (p75.2.1 : Int32) (p75.2.2.1 : Int32) (p75.2.2.2.1 : Int64) (p75.2.2.2.2.1 : Int32) (p75.2.2.2.2.2.1 : Int32) (p75.2.2.2.2.2.2.1 : Int32) (p75.2.2.2.2.2.2.2.1 : Int32) (p75.2.2.2.2.2.2.2.2.1 : Int32) (p75.2.2.2.2.2.2.2.2.2.1 : Int32) (p75.2.2.2.2.2.2.2.2.2.2.1 : Int32) (p75.2.2.2.2.2.2.2.2.2.2.2 : (Nat → Int32))) : Int32) ((p75.2.2.2.1 : Int64) - (((p75.2.2.1 : Int32) - ((F_DR_needed (p75.1 : Int32) (p75.2.1 : Int32) (p75.2.2.1 : Int32) (p75.2.2.2.1 : Int64) (p75.2.2.2.2.1 : Int32) (p75.2.2.2.2.2.1 : Int32) (p75.2.2.2.2.2.2.1 : Int32) (p75.2.2.2.2.2.2.2.1 : Int32) (p75.2.2.2.2.2.2.2.2.1 : Int32) (p75.2.2.2.2.2.2.2.2.2.1 : Int32) (p75.2.2.2.2.2.2.2.2.2.2.1 : Int32) (p75.2.2.2.2.2.2.2.2.2.2.2 : (Nat → Int32))) : Int32) : Int32).toInt64 : Int64) : Int64) (p75.2.2.2.2.1 : Int32) (p75.2.2.2.2.2.1 : Int32) (p75.2.2.2.2.2.2.1 : Int32) (p75.2.2.2.2.2.2.2.1 : Int32) (p75.2.2.2.2.2.2.2.2.1 : Int32) (p75.2.2.2.2.2.2.2.2.2.1 : Int32) (p75.2.2.2.2.2.2.2.2.2.2.1 : Int32) (p75.2.2.2.2.2.2.2.2.2.2.2 : (Nat → Int32)) = p417 at *
            unfold Q_DR_lengthen at h21
            obtain ⟨h211, h21g⟩ := h21
            unfold S_DR_toPrecision_c119 F_DR_toPrecision_c119
            have h22 := T_DR_store (x2 := x5) (t0_0 := (p417.1 : Int32)) (t0_1 := (p417.2.1 : Int32)) (t0_2 := (p417.2.2.1 : Int32)) (t0_3 := (p417.2.2.2.1 : Int64)) (t0_4 := (p417.2.2.2.2.1 : Int32)) (t0_5 := (p417.2.2.2.2.2.1 : Int32)) (t0_6 := (p417.2.2.2.2.2.2.1 : Int32)) (t0_7 := (p417.2.2.2.2.2.2.2.1 : Int32)) (t0_8 := (p417.2.2.2.2.2.2.2.2.1 : Int32)) (t0_9 := (p417.2.2.2.2.2.2.2.2.2.1 : Int32)) (t0_10 := (p417.2.2.2.2.2.2.2.2.2.2.1 : Int32)) (t1_0 := t1_0) (t2_0 := t2_0) (t3_0 := t3_0) (t4_0 := t4_0) (t5_0 := (p417.2.2.2.2.2.2.2.2.2.2.2 : (Nat → Int32))) (by with_reducible assumption) (by with_reducible assumption) ⟨by first | omega | decide, by first | omega | decide⟩ (by first | with_reducible assumption | exact g_cl (by with_reducible assumption) (by omega) (by omega) | omega | decide)
            with_reducible refine v_owe h22.1 ?_
            replace h22 := h22.2
            generalize F_DR_store x5 (p417.1 : Int32) (p417.2.1 : Int32) (p417.2.2.1 : Int32) (p417.2.2.2.1 : Int64) (p417.2.2.2.2.1 : Int32) (p417.2.2.2.2.2.1 : Int32) (p417.2.2.2.2.2.2.1 : Int32) (p417.2.2.2.2.2.2.2.1 : Int32) (p417.2.2.2.2.2.2.2.2.1 : Int32) (p417.2.2.2.2.2.2.2.2.2.1 : Int32) (p417.2.2.2.2.2.2.2.2.2.2.1 : Int32) t1_0 t2_0 t3_0 t4_0 (p417.2.2.2.2.2.2.2.2.2.2.2 : (Nat → Int32)) = p485 at *
            unfold Q_DR_store at h22
            unfold S_DR_toPrecision_c125 F_DR_toPrecision_c125
            refine ⟨trivial, ?_⟩
            (unfold Q_DR_toPrecision; dsimp only; with_reducible assumption)
          ·
            rw [if_neg g20, if_neg g20]
            have g20s := g_sI (b := x2) (c := (F_DR_needed p75.1 p75.2.1 p75.2.2.1 p75.2.2.2.1 p75.2.2.2.2.1 p75.2.2.2.2.2.1 p75.2.2.2.2.2.2.1 p75.2.2.2.2.2.2.2.1 p75.2.2.2.2.2.2.2.2.1 p75.2.2.2.2.2.2.2.2.2.1 p75.2.2.2.2.2.2.2.2.2.2.1 p75.2.2.2.2.2.2.2.2.2.2.2)) ⟨by omega, by omega⟩ ⟨by omega, by omega⟩
            have h23 := T_DR_lengthen (x2 := ((x2 - ((F_DR_needed (p75.1 : Int32) (p75.2.1 : Int32) (p75.2.2.1 : Int32) (p75.2.2.2.1 : Int64) (p75.2.2.2.2.1 : Int32) (p75.2.2.2.2.2.1 : Int32) (p75.2.2.2.2.2.2.1 : Int32) (p75.2.2.2.2.2.2.2.1 : Int32) (p75.2.2.2.2.2.2.2.2.1 : Int32) (p75.2.2.2.2.2.2.2.2.2.1 : Int32) (p75.2.2.2.2.2.2.2.2.2.2.1 : Int32) (p75.2.2.2.2.2.2.2.2.2.2.2 : (Nat → Int32))) : Int32) : Int32).toInt64 : Int64)) (t0_0 := (p75.1 : Int32)) (t0_1 := (p75.2.1 : Int32)) (t0_2 := ((F_DR_needed (p75.1 : Int32) (p75.2.1 : Int32) (p75.2.2.1 : Int32) (p75.2.2.2.1 : Int64) (p75.2.2.2.2.1 : Int32) (p75.2.2.2.2.2.1 : Int32) (p75.2.2.2.2.2.2.1 : Int32) (p75.2.2.2.2.2.2.2.1 : Int32) (p75.2.2.2.2.2.2.2.2.1 : Int32) (p75.2.2.2.2.2.2.2.2.2.1 : Int32) (p75.2.2.2.2.2.2.2.2.2.2.1 : Int32) (p75.2.2.2.2.2.2.2.2.2.2.2 : (Nat → Int32))) : Int32)) (t0_3 := ((p75.2.2.2.1 : Int64) - (((p75.2.2.1 : Int32) - ((F_DR_needed (p75.1 : Int32) (p75.2.1 : Int32) (p75.2.2.1 : Int32) (p75.2.2.2.1 : Int64) (p75.2.2.2.2.1 : Int32) (p75.2.2.2.2.2.1 : Int32) (p75.2.2.2.2.2.2.1 : Int32) (p75.2.2.2.2.2.2.2.1 : Int32) (p75.2.2.2.2.2.2.2.2.1 : Int32) (p75.2.2.2.2.2.2.2.2.2.1 : Int32) (p75.2.2.2.2.2.2.2.2.2.2.1 : Int32) (p75.2.2.2.2.2.2.2.2.2.2.2 : (Nat → Int32))) : Int32) : Int32).toInt64 : Int64) : Int64)) (t0_4 := (p75.2.2.2.2.1 : Int32)) (t0_5 := (p75.2.2.2.2.2.1 : Int32)) (t0_6 := (p75.2.2.2.2.2.2.1 : Int32)) (t0_7 := (p75.2.2.2.2.2.2.2.1 : Int32)) (t0_8 := (p75.2.2.2.2.2.2.2.2.1 : Int32)) (t0_9 := (p75.2.2.2.2.2.2.2.2.2.1 : Int32)) (t0_10 := (p75.2.2.2.2.2.2.2.2.2.2.1 : Int32)) (t1_0 := (p75.2.2.2.2.2.2.2.2.2.2.2 : (Nat → Int32))) ⟨by omega, by omega⟩ (by first | omega | decide) (by first | omega | (have ez : (0 : Int64).toInt = 0 := rfl; omega)) (by first | with_reducible assumption | exact g_cl (by with_reducible assumption) (by omega) (by omega) | omega | decide)
            with_reducible refine v_owe h23.1 ?_
            replace h23 := h23.2
            generalize F_DR_lengthen ((x2 - ((F_DR_needed (p75.1 : Int32) (p75.2.1 : Int32) (p75.2.2.1 : Int32) (p75.2.2.2.1 : Int64) (p75.2.2.2.2.1 : Int32) (p75.2.2.2.2.2.1 : Int32) (p75.2.2.2.2.2.2.1 : Int32) (p75.2.2.2.2.2.2.2.1 : Int32) (p75.2.2.2.2.2.2.2.2.1 : Int32) (p75.2.2.2.2.2.2.2.2.2.1 : Int32) (p75.2.2.2.2.2.2.2.2.2.2.1 : Int32) (p75.2.2.2.2.2.2.2.2.2.2.2 : (Nat → Int32))) : Int32) : Int32).toInt64 : Int64) (p75.1 : Int32) (p75.2.1 : Int32) ((F_DR_needed (p75.1 : Int32) (p75.2.1 : Int32) (p75.2.2.1 : Int32) (p75.2.2.2.1 : Int64) (p75.2.2.2.2.1 : Int32) (p75.2.2.2.2.2.1 : Int32) (p75.2.2.2.2.2.2.1 : Int32) (p75.2.2.2.2.2.2.2.1 : Int32) (p75.2.2.2.2.2.2.2.2.1 : Int32) (p75.2.2.2.2.2.2.2.2.2.1 : Int32) (p75.2.2.2.2.2.2.2.2.2.2.1 : Int32) (p75.2.2.2.2.2.2.2.2.2.2.2 : (Nat → Int32))) : Int32) ((p75.2.2.2.1 : Int64) - (((p75.2.2.1 : Int32) - ((F_DR_needed (p75.1 : Int32) (p75.2.1 : Int32) (p75.2.2.1 : Int32) (p75.2.2.2.1 : Int64) (p75.2.2.2.2.1 : Int32) (p75.2.2.2.2.2.1 : Int32) (p75.2.2.2.2.2.2.1 : Int32) (p75.2.2.2.2.2.2.2.1 : Int32) (p75.2.2.2.2.2.2.2.2.1 : Int32) (p75.2.2.2.2.2.2.2.2.2.1 : Int32) (p75.2.2.2.2.2.2.2.2.2.2.1 : Int32) (p75.2.2.2.2.2.2.2.2.2.2.2 : (Nat → Int32))) : Int32) : Int32).toInt64 : Int64) : Int64) (p75.2.2.2.2.1 : Int32) (p75.2.2.2.2.2.1 : Int32) (p75.2.2.2.2.2.2.1 : Int32) (p75.2.2.2.2.2.2.2.1 : Int32) (p75.2.2.2.2.2.2.2.2.1 : Int32) (p75.2.2.2.2.2.2.2.2.2.1 : Int32) (p75.2.2.2.2.2.2.2.2.2.2.1 : Int32) (p75.2.2.2.2.2.2.2.2.2.2.2 : (Nat → Int32)) = p552 at *
            unfold Q_DR_lengthen at h23
            obtain ⟨h231, h23g⟩ := h23
            unfold S_DR_toPrecision_c119_9 F_DR_toPrecision_c119_9
            have h24 := T_DR_store (x2 := x5) (t0_0 := (p552.1 : Int32)) (t0_1 := (p552.2.1 : Int32)) (t0_2 := (p552.2.2.1 : Int32)) (t0_3 := (p552.2.2.2.1 : Int64)) (t0_4 := (p552.2.2.2.2.1 : Int32)) (t0_5 := (p552.2.2.2.2.2.1 : Int32)) (t0_6 := (p552.2.2.2.2.2.2.1 : Int32)) (t0_7 := (p552.2.2.2.2.2.2.2.1 : Int32)) (t0_8 := (p552.2.2.2.2.2.2.2.2.1 : Int32)) (t0_9 := (p552.2.2.2.2.2.2.2.2.2.1 : Int32)) (t0_10 := (p552.2.2.2.2.2.2.2.2.2.2.1 : Int32)) (t1_0 := t1_0) (t2_0 := t2_0) (t3_0 := t3_0) (t4_0 := t4_0) (t5_0 := (p552.2.2.2.2.2.2.2.2.2.2.2 : (Nat → Int32))) (by with_reducible assumption) (by with_reducible assumption) ⟨by first | omega | decide, by first | omega | decide⟩ (by first | with_reducible assumption | exact g_cl (by with_reducible assumption) (by omega) (by omega) | omega | decide)
            with_reducible refine v_owe h24.1 ?_
            replace h24 := h24.2
            generalize F_DR_store x5 (p552.1 : Int32) (p552.2.1 : Int32) (p552.2.2.1 : Int32) (p552.2.2.2.1 : Int64) (p552.2.2.2.2.1 : Int32) (p552.2.2.2.2.2.1 : Int32) (p552.2.2.2.2.2.2.1 : Int32) (p552.2.2.2.2.2.2.2.1 : Int32) (p552.2.2.2.2.2.2.2.2.1 : Int32) (p552.2.2.2.2.2.2.2.2.2.1 : Int32) (p552.2.2.2.2.2.2.2.2.2.2.1 : Int32) t1_0 t2_0 t3_0 t4_0 (p552.2.2.2.2.2.2.2.2.2.2.2 : (Nat → Int32)) = p620 at *
            unfold Q_DR_store at h24
            unfold S_DR_toPrecision_c125_10 F_DR_toPrecision_c125_10
            refine ⟨trivial, ?_⟩
            (unfold Q_DR_toPrecision; dsimp only; with_reducible assumption)
        ·
          rw [if_neg g19, if_neg g19]
          have h25 := T_DR_lengthen (x2 := (0 : Int64)) (t0_0 := (p75.1 : Int32)) (t0_1 := (p75.2.1 : Int32)) (t0_2 := ((F_DR_needed (p75.1 : Int32) (p75.2.1 : Int32) (p75.2.2.1 : Int32) (p75.2.2.2.1 : Int64) (p75.2.2.2.2.1 : Int32) (p75.2.2.2.2.2.1 : Int32) (p75.2.2.2.2.2.2.1 : Int32) (p75.2.2.2.2.2.2.2.1 : Int32) (p75.2.2.2.2.2.2.2.2.1 : Int32) (p75.2.2.2.2.2.2.2.2.2.1 : Int32) (p75.2.2.2.2.2.2.2.2.2.2.1 : Int32) (p75.2.2.2.2.2.2.2.2.2.2.2 : (Nat → Int32))) : Int32)) (t0_3 := ((p75.2.2.2.1 : Int64) - (((p75.2.2.1 : Int32) - ((F_DR_needed (p75.1 : Int32) (p75.2.1 : Int32) (p75.2.2.1 : Int32) (p75.2.2.2.1 : Int64) (p75.2.2.2.2.1 : Int32) (p75.2.2.2.2.2.1 : Int32) (p75.2.2.2.2.2.2.1 : Int32) (p75.2.2.2.2.2.2.2.1 : Int32) (p75.2.2.2.2.2.2.2.2.1 : Int32) (p75.2.2.2.2.2.2.2.2.2.1 : Int32) (p75.2.2.2.2.2.2.2.2.2.2.1 : Int32) (p75.2.2.2.2.2.2.2.2.2.2.2 : (Nat → Int32))) : Int32) : Int32).toInt64 : Int64) : Int64)) (t0_4 := (p75.2.2.2.2.1 : Int32)) (t0_5 := (p75.2.2.2.2.2.1 : Int32)) (t0_6 := (p75.2.2.2.2.2.2.1 : Int32)) (t0_7 := (p75.2.2.2.2.2.2.2.1 : Int32)) (t0_8 := (p75.2.2.2.2.2.2.2.2.1 : Int32)) (t0_9 := (p75.2.2.2.2.2.2.2.2.2.1 : Int32)) (t0_10 := (p75.2.2.2.2.2.2.2.2.2.2.1 : Int32)) (t1_0 := (p75.2.2.2.2.2.2.2.2.2.2.2 : (Nat → Int32))) ⟨by omega, by omega⟩ (by first | omega | decide) (by first | omega | (have ez : (0 : Int64).toInt = 0 := rfl; omega)) (by first | with_reducible assumption | exact g_cl (by with_reducible assumption) (by omega) (by omega) | omega | decide)
          with_reducible refine v_owe h25.1 ?_
          replace h25 := h25.2
          generalize F_DR_lengthen (0 : Int64) (p75.1 : Int32) (p75.2.1 : Int32) ((F_DR_needed (p75.1 : Int32) (p75.2.1 : Int32) (p75.2.2.1 : Int32) (p75.2.2.2.1 : Int64) (p75.2.2.2.2.1 : Int32) (p75.2.2.2.2.2.1 : Int32) (p75.2.2.2.2.2.2.1 : Int32) (p75.2.2.2.2.2.2.2.1 : Int32) (p75.2.2.2.2.2.2.2.2.1 : Int32) (p75.2.2.2.2.2.2.2.2.2.1 : Int32) (p75.2.2.2.2.2.2.2.2.2.2.1 : Int32) (p75.2.2.2.2.2.2.2.2.2.2.2 : (Nat → Int32))) : Int32) ((p75.2.2.2.1 : Int64) - (((p75.2.2.1 : Int32) - ((F_DR_needed (p75.1 : Int32) (p75.2.1 : Int32) (p75.2.2.1 : Int32) (p75.2.2.2.1 : Int64) (p75.2.2.2.2.1 : Int32) (p75.2.2.2.2.2.1 : Int32) (p75.2.2.2.2.2.2.1 : Int32) (p75.2.2.2.2.2.2.2.1 : Int32) (p75.2.2.2.2.2.2.2.2.1 : Int32) (p75.2.2.2.2.2.2.2.2.2.1 : Int32) (p75.2.2.2.2.2.2.2.2.2.2.1 : Int32) (p75.2.2.2.2.2.2.2.2.2.2.2 : (Nat → Int32))) : Int32) : Int32).toInt64 : Int64) : Int64) (p75.2.2.2.2.1 : Int32) (p75.2.2.2.2.2.1 : Int32) (p75.2.2.2.2.2.2.1 : Int32) (p75.2.2.2.2.2.2.2.1 : Int32) (p75.2.2.2.2.2.2.2.2.1 : Int32) (p75.2.2.2.2.2.2.2.2.2.1 : Int32) (p75.2.2.2.2.2.2.2.2.2.2.1 : Int32) (p75.2.2.2.2.2.2.2.2.2.2.2 : (Nat → Int32)) = p682 at *
          unfold Q_DR_lengthen at h25
          obtain ⟨h251, h25g⟩ := h25
          unfold S_DR_toPrecision_c119_11 F_DR_toPrecision_c119_11
          have h26 := T_DR_store (x2 := x5) (t0_0 := (p682.1 : Int32)) (t0_1 := (p682.2.1 : Int32)) (t0_2 := (p682.2.2.1 : Int32)) (t0_3 := (p682.2.2.2.1 : Int64)) (t0_4 := (p682.2.2.2.2.1 : Int32)) (t0_5 := (p682.2.2.2.2.2.1 : Int32)) (t0_6 := (p682.2.2.2.2.2.2.1 : Int32)) (t0_7 := (p682.2.2.2.2.2.2.2.1 : Int32)) (t0_8 := (p682.2.2.2.2.2.2.2.2.1 : Int32)) (t0_9 := (p682.2.2.2.2.2.2.2.2.2.1 : Int32)) (t0_10 := (p682.2.2.2.2.2.2.2.2.2.2.1 : Int32)) (t1_0 := t1_0) (t2_0 := t2_0) (t3_0 := t3_0) (t4_0 := t4_0) (t5_0 := (p682.2.2.2.2.2.2.2.2.2.2.2 : (Nat → Int32))) (by with_reducible assumption) (by with_reducible assumption) ⟨by first | omega | decide, by first | omega | decide⟩ (by first | with_reducible assumption | exact g_cl (by with_reducible assumption) (by omega) (by omega) | omega | decide)
          with_reducible refine v_owe h26.1 ?_
          replace h26 := h26.2
          generalize F_DR_store x5 (p682.1 : Int32) (p682.2.1 : Int32) (p682.2.2.1 : Int32) (p682.2.2.2.1 : Int64) (p682.2.2.2.2.1 : Int32) (p682.2.2.2.2.2.1 : Int32) (p682.2.2.2.2.2.2.1 : Int32) (p682.2.2.2.2.2.2.2.1 : Int32) (p682.2.2.2.2.2.2.2.2.1 : Int32) (p682.2.2.2.2.2.2.2.2.2.1 : Int32) (p682.2.2.2.2.2.2.2.2.2.2.1 : Int32) t1_0 t2_0 t3_0 t4_0 (p682.2.2.2.2.2.2.2.2.2.2.2 : (Nat → Int32)) = p750 at *
          unfold Q_DR_store at h26
          unfold S_DR_toPrecision_c125_12 F_DR_toPrecision_c125_12
          refine ⟨trivial, ?_⟩
          (unfold Q_DR_toPrecision; dsimp only; with_reducible assumption)
    ·
      rw [if_neg g12, if_neg g12]
      have g12i := q_neI g12
      have g12w := hmo (by omega)
      have g12q := congrArg Int32.toInt (trim9 g12w.2 (by omega))
      unfold S_DR_toPrecision_J129 F_DR_toPrecision_J129
      have h27 := T_DR_cut (x2 := x2) (x3 := x4) (t0_0 := (p75.1 : Int32)) (t0_1 := (p75.2.1 : Int32)) (t0_2 := (p75.2.2.1 : Int32)) (t0_3 := (p75.2.2.2.1 : Int64)) (t0_4 := (p75.2.2.2.2.1 : Int32)) (t0_5 := (p75.2.2.2.2.2.1 : Int32)) (t0_6 := (p75.2.2.2.2.2.2.1 : Int32)) (t0_7 := (p75.2.2.2.2.2.2.2.1 : Int32)) (t0_8 := (p75.2.2.2.2.2.2.2.2.1 : Int32)) (t0_9 := (p75.2.2.2.2.2.2.2.2.2.1 : Int32)) (t0_10 := (p75.2.2.2.2.2.2.2.2.2.2.1 : Int32)) (t1_0 := (p75.2.2.2.2.2.2.2.2.2.2.2 : (Nat → Int32))) ⟨by omega, by omega⟩ (by omega) (by first | exact ⟨by omega, by omega⟩ | exact ⟨by decide, by have ez : (-1 : Int32).toInt = -1 := rfl; omega⟩ | exact g_kp ⟨by omega, by omega⟩ ⟨by omega, by omega⟩ ⟨by omega, by omega⟩ (by with_reducible assumption) (by omega)) (by with_reducible assumption)
      with_reducible refine v_owe h27.1 ?_
      replace h27 := h27.2
      generalize F_DR_cut x2 x4 (p75.1 : Int32) (p75.2.1 : Int32) (p75.2.2.1 : Int32) (p75.2.2.2.1 : Int64) (p75.2.2.2.2.1 : Int32) (p75.2.2.2.2.2.1 : Int32) (p75.2.2.2.2.2.2.1 : Int32) (p75.2.2.2.2.2.2.2.1 : Int32) (p75.2.2.2.2.2.2.2.2.1 : Int32) (p75.2.2.2.2.2.2.2.2.2.1 : Int32) (p75.2.2.2.2.2.2.2.2.2.2.1 : Int32) (p75.2.2.2.2.2.2.2.2.2.2.2 : (Nat → Int32)) = p166 at *
      unfold Q_DR_cut at h27
      obtain ⟨h271, h27g, h276⟩ := h27
      unfold S_DR_toPrecision_c133 F_DR_toPrecision_c133
      by_cases g28 : (p166.1 : Int32) = (0 : Int32)
      ·
        rw [if_pos g28, if_pos g28]
        refine ⟨trivial, ?_⟩
        (unfold Q_DR_toPrecision; dsimp only; with_reducible assumption)
      ·
        rw [if_neg g28, if_neg g28]
        by_cases g29 : (p166.2.2.2.1 : Int32) ≤ x2
        ·
          rw [if_pos g29, if_pos g29]
          have h30 := T_DR_store (x2 := x5) (t0_0 := (p166.2.1 : Int32)) (t0_1 := (p166.2.2.1 : Int32)) (t0_2 := (p166.2.2.2.1 : Int32)) (t0_3 := (p166.2.2.2.2.1 : Int64)) (t0_4 := (p166.2.2.2.2.2.1 : Int32)) (t0_5 := (p166.2.2.2.2.2.2.1 : Int32)) (t0_6 := (p166.2.2.2.2.2.2.2.1 : Int32)) (t0_7 := (p166.2.2.2.2.2.2.2.2.1 : Int32)) (t0_8 := (p166.2.2.2.2.2.2.2.2.2.1 : Int32)) (t0_9 := (p166.2.2.2.2.2.2.2.2.2.2.1 : Int32)) (t0_10 := (p166.2.2.2.2.2.2.2.2.2.2.2.1 : Int32)) (t1_0 := t1_0) (t2_0 := t2_0) (t3_0 := t3_0) (t4_0 := t4_0) (t5_0 := (p166.2.2.2.2.2.2.2.2.2.2.2.2 : (Nat → Int32))) (by with_reducible assumption) (by with_reducible assumption) ⟨by first | omega | decide, by first | omega | decide⟩ (by first | with_reducible assumption | exact g_cl (by with_reducible assumption) (by omega) (by omega) | omega | decide)
          with_reducible refine v_owe h30.1 ?_
          replace h30 := h30.2
          generalize F_DR_store x5 (p166.2.1 : Int32) (p166.2.2.1 : Int32) (p166.2.2.2.1 : Int32) (p166.2.2.2.2.1 : Int64) (p166.2.2.2.2.2.1 : Int32) (p166.2.2.2.2.2.2.1 : Int32) (p166.2.2.2.2.2.2.2.1 : Int32) (p166.2.2.2.2.2.2.2.2.1 : Int32) (p166.2.2.2.2.2.2.2.2.2.1 : Int32) (p166.2.2.2.2.2.2.2.2.2.2.1 : Int32) (p166.2.2.2.2.2.2.2.2.2.2.2.1 : Int32) t1_0 t2_0 t3_0 t4_0 (p166.2.2.2.2.2.2.2.2.2.2.2.2 : (Nat → Int32)) = p240 at *
          unfold Q_DR_store at h30
          unfold S_DR_toPrecision_c170 F_DR_toPrecision_c170
          refine ⟨trivial, ?_⟩
          (unfold Q_DR_toPrecision; dsimp only; with_reducible assumption)
        ·
          rw [if_neg g29, if_neg g29]
          have g29i := q_nleI g29
          have g29e : (p166.2.2.2.1 - 1 : Int32).toInt = p166.2.2.2.1.toInt - 1 := q_subI (y := 1) rfl (by decide) (by omega) (by omega)
          have h31 := T_DR_store (x2 := x5) (t0_0 := (p166.2.1 : Int32)) (t0_1 := (p166.2.2.1 : Int32)) (t0_2 := ((p166.2.2.2.1 : Int32) - 1 : Int32)) (t0_3 := ((p166.2.2.2.2.1 : Int64) - 1 : Int64)) (t0_4 := (p166.2.2.2.2.2.1 : Int32)) (t0_5 := (p166.2.2.2.2.2.2.1 : Int32)) (t0_6 := (p166.2.2.2.2.2.2.2.1 : Int32)) (t0_7 := (p166.2.2.2.2.2.2.2.2.1 : Int32)) (t0_8 := (p166.2.2.2.2.2.2.2.2.2.1 : Int32)) (t0_9 := (p166.2.2.2.2.2.2.2.2.2.2.1 : Int32)) (t0_10 := (p166.2.2.2.2.2.2.2.2.2.2.2.1 : Int32)) (t1_0 := t1_0) (t2_0 := t2_0) (t3_0 := t3_0) (t4_0 := t4_0) (t5_0 := (p166.2.2.2.2.2.2.2.2.2.2.2.2 : (Nat → Int32))) (by with_reducible assumption) (by with_reducible assumption) ⟨by first | omega | decide, by first | omega | decide⟩ (by first | with_reducible assumption | exact g_cl (by with_reducible assumption) (by omega) (by omega) | omega | decide)
          with_reducible refine v_owe h31.1 ?_
          replace h31 := h31.2
          generalize F_DR_store x5 (p166.2.1 : Int32) (p166.2.2.1 : Int32) ((p166.2.2.2.1 : Int32) - 1 : Int32) ((p166.2.2.2.2.1 : Int64) - 1 : Int64) (p166.2.2.2.2.2.1 : Int32) (p166.2.2.2.2.2.2.1 : Int32) (p166.2.2.2.2.2.2.2.1 : Int32) (p166.2.2.2.2.2.2.2.2.1 : Int32) (p166.2.2.2.2.2.2.2.2.2.1 : Int32) (p166.2.2.2.2.2.2.2.2.2.2.1 : Int32) (p166.2.2.2.2.2.2.2.2.2.2.2.1 : Int32) t1_0 t2_0 t3_0 t4_0 (p166.2.2.2.2.2.2.2.2.2.2.2.2 : (Nat → Int32)) = p322 at *
          unfold Q_DR_store at h31
          unfold S_DR_toPrecision_c170_6 F_DR_toPrecision_c170_6
          refine ⟨trivial, ?_⟩
          (unfold Q_DR_toPrecision; dsimp only; with_reducible assumption)
def Q_DR_toScale (p : Int32 × Int32 × Int32 × Int64 × Int32 × Int32 × Int32 × Int32 × Int32 × Int32 × Int32 × (Nat → Int32) × (Nat → Int32) × (Nat → Int32) × (Nat → Int32) × (Nat → Int32)) : Prop := gR p.2.2.2.2.2.2.2.2.2.2.2.1 p.2.2.2.2.2.2.2.2.2.2.2.2.1 p.2.2.2.2.2.2.2.2.2.2.2.2.2.1 p.2.2.2.2.2.2.2.2.2.2.2.2.2.2.1
theorem T_DR_toScale {x2 : Int32} {x3 : Int32} {x4 : Int32} {x5 : Int32} {t0_0 : Int32} {t0_1 : Int32} {t0_2 : Int32} {t0_3 : Int64} {t0_4 : Int32} {t0_5 : Int32} {t0_6 : Int32} {t0_7 : Int32} {t0_8 : Int32} {t0_9 : Int32} {t0_10 : Int32} {t1_0 : (Nat → Int32)} {t2_0 : (Nat → Int32)} {t3_0 : (Nat → Int32)} {t4_0 : (Nat → Int32)} {t5_0 : (Nat → Int32)} (hR : gR t1_0 t2_0 t3_0 t4_0) : (S_DR_toScale x2 x3 x4 x5 t0_0 t0_1 t0_2 t0_3 t0_4 t0_5 t0_6 t0_7 t0_8 t0_9 t0_10 t1_0 t2_0 t3_0 t4_0 t5_0) ∧ Q_DR_toScale (F_DR_toScale x2 x3 x4 x5 t0_0 t0_1 t0_2 t0_3 t0_4 t0_5 t0_6 t0_7 t0_8 t0_9 t0_10 t1_0 t2_0 t3_0 t4_0 t5_0) := by
  have e0 : (0 : Int32).toInt = 0 := rfl
  have eL0 : (0 : Int64).toInt = 0 := rfl
  have eL1 : (10000 : Int64).toInt = 10000 := rfl
  have eL2 : (-10000 : Int64).toInt = -10000 := rfl
  have eL3 : (1000 : Int64).toInt = 1000 := rfl
  have eL4 : (-1 : Int64).toInt = -1 := rfl
  have eI3 : (1000 : Int32).toInt = 1000 := rfl
  have eM : (-10000 : Int32).toInt = -10000 := rfl
  have eP : (10000 : Int32).toInt = 10000 := rfl
  have eO : (1 : Int32).toInt = 1 := rfl
  unfold S_DR_toScale F_DR_toScale
  by_cases g1 : ((F_DR_no x2) : Int32) = (0 : Int32)
  ·
    rw [if_pos g1, if_pos g1]
    have g1r := g_no g1
    by_cases g2 : ((F_DR_no x3) : Int32) = (0 : Int32)
    ·
      rw [if_pos g2, if_pos g2]
      have g2r := g_no g2
      by_cases g3 : ((F_DR_noMode x5) : Int32) = (0 : Int32)
      ·
        rw [if_pos g3, if_pos g3]
        by_cases g4 : x4 < (-10000 : Int32)
        ·
          rw [if_pos g4, if_pos g4]
          have g4i : x4.toInt < -10000 := q_ltI g4
          unfold S_DR_toScale_J37 F_DR_toScale_J37
          unfold S_DR_toScale_J42 F_DR_toScale_J42
          have g5 : ¬ ((1 : Int32) = (0 : Int32)) := (by decide)
          rw [if_neg g5, if_neg g5]
          refine ⟨trivial, ?_⟩
          (unfold Q_DR_toScale; dsimp only; with_reducible assumption)
        ·
          rw [if_neg g4, if_neg g4]
          have g4i : -10000 ≤ x4.toInt := q_nltI g4
          by_cases g6 : x4 ≤ (10000 : Int32)
          ·
            rw [if_pos g6, if_pos g6]
            have g6i : x4.toInt ≤ 10000 := q_leI g6
            unfold S_DR_toScale_J42 F_DR_toScale_J42
            have g7 : ((0 : Int32) = (0 : Int32)) := (by decide)
            rw [if_pos g7, if_pos g7]
            have h8 := T_DR_load (x2 := x2) (t0_0 := (0 : Int32)) (t0_1 := t0_1) (t0_2 := t0_2) (t0_3 := t0_3) (t0_4 := t0_4) (t0_5 := t0_5) (t0_6 := t0_6) (t0_7 := t0_7) (t0_8 := t0_8) (t0_9 := t0_9) (t0_10 := (2 : Int32)) (t1_0 := t1_0) (t2_0 := t2_0) (t3_0 := t3_0) (t4_0 := t4_0) (t5_0 := t5_0) (by with_reducible assumption) (by with_reducible assumption)
            with_reducible refine v_owe h8.1 ?_
            replace h8 := h8.2
            generalize F_DR_load x2 (0 : Int32) t0_1 t0_2 t0_3 t0_4 t0_5 t0_6 t0_7 t0_8 t0_9 (2 : Int32) t1_0 t2_0 t3_0 t4_0 t5_0 = p103 at *
            unfold Q_DR_load at h8
            obtain ⟨h81, h8g, h83, h84, h85, h86, h87⟩ := h8
            have h84i := congrArg Int32.toInt h84
            unfold S_DR_toScale_c59 F_DR_toScale_c59
            have h9 := T_DR_bring (x2 := (x4.toInt64 : Int64)) (x3 := x5) (x4 := x3) (t0_0 := (p103.1 : Int32)) (t0_1 := (p103.2.1 : Int32)) (t0_2 := (p103.2.2.1 : Int32)) (t0_3 := (p103.2.2.2.1 : Int64)) (t0_4 := (p103.2.2.2.2.1 : Int32)) (t0_5 := (p103.2.2.2.2.2.1 : Int32)) (t0_6 := (p103.2.2.2.2.2.2.1 : Int32)) (t0_7 := (p103.2.2.2.2.2.2.2.1 : Int32)) (t0_8 := (p103.2.2.2.2.2.2.2.2.1 : Int32)) (t0_9 := (p103.2.2.2.2.2.2.2.2.2.1 : Int32)) (t0_10 := (p103.2.2.2.2.2.2.2.2.2.2.1 : Int32)) (t1_0 := t1_0) (t2_0 := t2_0) (t3_0 := t3_0) (t4_0 := t4_0) (t5_0 := (p103.2.2.2.2.2.2.2.2.2.2.2 : (Nat → Int32))) (by with_reducible assumption) (by with_reducible assumption) ⟨by first | omega | (rw [q_i2l rfl]; omega), by first | omega | (rw [q_i2l rfl]; omega)⟩ ⟨by omega, by omega⟩ (by with_reducible assumption) ⟨by omega, by omega⟩
            with_reducible refine v_owe h9.1 ?_
            replace h9 := h9.2
            generalize F_DR_bring (x4.toInt64 : Int64) x5 x3 (p103.1 : Int32) (p103.2.1 : Int32) (p103.2.2.1 : Int32) (p103.2.2.2.1 : Int64) (p103.2.2.2.2.1 : Int32) (p103.2.2.2.2.2.1 : Int32) (p103.2.2.2.2.2.2.1 : Int32) (p103.2.2.2.2.2.2.2.1 : Int32) (p103.2.2.2.2.2.2.2.2.1 : Int32) (p103.2.2.2.2.2.2.2.2.2.1 : Int32) (p103.2.2.2.2.2.2.2.2.2.2.1 : Int32) t1_0 t2_0 t3_0 t4_0 (p103.2.2.2.2.2.2.2.2.2.2.2 : (Nat → Int32)) = p172 at *
            unfold Q_DR_bring at h9
            unfold S_DR_toScale_c68 F_DR_toScale_c68
            refine ⟨trivial, ?_⟩
            (unfold Q_DR_toScale; dsimp only; with_reducible assumption)
          ·
            rw [if_neg g6, if_neg g6]
            have g6i : 10000 < x4.toInt := q_nleI g6
            unfold S_DR_toScale_J37 F_DR_toScale_J37
            unfold S_DR_toScale_J42 F_DR_toScale_J42
            have g10 : ¬ ((1 : Int32) = (0 : Int32)) := (by decide)
            rw [if_neg g10, if_neg g10]
            refine ⟨trivial, ?_⟩
            (unfold Q_DR_toScale; dsimp only; with_reducible assumption)
      ·
        rw [if_neg g3, if_neg g3]
        unfold S_DR_toScale_J37 F_DR_toScale_J37
        unfold S_DR_toScale_J42 F_DR_toScale_J42
        have g11 : ¬ ((1 : Int32) = (0 : Int32)) := (by decide)
        rw [if_neg g11, if_neg g11]
        refine ⟨trivial, ?_⟩
        (unfold Q_DR_toScale; dsimp only; with_reducible assumption)
    ·
      rw [if_neg g2, if_neg g2]
      unfold S_DR_toScale_J37 F_DR_toScale_J37
      unfold S_DR_toScale_J42 F_DR_toScale_J42
      have g12 : ¬ ((1 : Int32) = (0 : Int32)) := (by decide)
      rw [if_neg g12, if_neg g12]
      refine ⟨trivial, ?_⟩
      (unfold Q_DR_toScale; dsimp only; with_reducible assumption)
  ·
    rw [if_neg g1, if_neg g1]
    unfold S_DR_toScale_J37 F_DR_toScale_J37
    unfold S_DR_toScale_J42 F_DR_toScale_J42
    have g13 : ¬ ((1 : Int32) = (0 : Int32)) := (by decide)
    rw [if_neg g13, if_neg g13]
    refine ⟨trivial, ?_⟩
    (unfold Q_DR_toScale; dsimp only; with_reducible assumption)
def Q_DR_round (p : Int32 × Int32 × Int32 × Int64 × Int32 × Int32 × Int32 × Int32 × Int32 × Int32 × Int32 × (Nat → Int32) × (Nat → Int32) × (Nat → Int32) × (Nat → Int32) × (Nat → Int32)) : Prop := gR p.2.2.2.2.2.2.2.2.2.2.2.1 p.2.2.2.2.2.2.2.2.2.2.2.2.1 p.2.2.2.2.2.2.2.2.2.2.2.2.2.1 p.2.2.2.2.2.2.2.2.2.2.2.2.2.2.1
theorem T_DR_round {x2 : Int32} {x3 : Int32} {x4 : Int32} {x5 : Int32} {t0_0 : Int32} {t0_1 : Int32} {t0_2 : Int32} {t0_3 : Int64} {t0_4 : Int32} {t0_5 : Int32} {t0_6 : Int32} {t0_7 : Int32} {t0_8 : Int32} {t0_9 : Int32} {t0_10 : Int32} {t1_0 : (Nat → Int32)} {t2_0 : (Nat → Int32)} {t3_0 : (Nat → Int32)} {t4_0 : (Nat → Int32)} {t5_0 : (Nat → Int32)} (hR : gR t1_0 t2_0 t3_0 t4_0) : (S_DR_round x2 x3 x4 x5 t0_0 t0_1 t0_2 t0_3 t0_4 t0_5 t0_6 t0_7 t0_8 t0_9 t0_10 t1_0 t2_0 t3_0 t4_0 t5_0) ∧ Q_DR_round (F_DR_round x2 x3 x4 x5 t0_0 t0_1 t0_2 t0_3 t0_4 t0_5 t0_6 t0_7 t0_8 t0_9 t0_10 t1_0 t2_0 t3_0 t4_0 t5_0) := by
  have e0 : (0 : Int32).toInt = 0 := rfl
  have eL0 : (0 : Int64).toInt = 0 := rfl
  have eL1 : (10000 : Int64).toInt = 10000 := rfl
  have eL2 : (-10000 : Int64).toInt = -10000 := rfl
  have eL3 : (1000 : Int64).toInt = 1000 := rfl
  have eL4 : (-1 : Int64).toInt = -1 := rfl
  have eI3 : (1000 : Int32).toInt = 1000 := rfl
  have eM : (-10000 : Int32).toInt = -10000 := rfl
  have eP : (10000 : Int32).toInt = 10000 := rfl
  have eO : (1 : Int32).toInt = 1 := rfl
  unfold S_DR_round F_DR_round
  by_cases g1 : ((F_DR_no x2) : Int32) = (0 : Int32)
  ·
    rw [if_pos g1, if_pos g1]
    have g1r := g_no g1
    by_cases g2 : ((F_DR_no x3) : Int32) = (0 : Int32)
    ·
      rw [if_pos g2, if_pos g2]
      have g2r := g_no g2
      by_cases g3 : ((F_DR_noMode x5) : Int32) = (0 : Int32)
      ·
        rw [if_pos g3, if_pos g3]
        by_cases g4 : x4 < (1 : Int32)
        ·
          rw [if_pos g4, if_pos g4]
          have g4i : x4.toInt < 1 := q_ltI g4
          unfold S_DR_round_J35 F_DR_round_J35
          unfold S_DR_round_J40 F_DR_round_J40
          have g5 : ¬ ((1 : Int32) = (0 : Int32)) := (by decide)
          rw [if_neg g5, if_neg g5]
          refine ⟨trivial, ?_⟩
          (unfold Q_DR_round; dsimp only; with_reducible assumption)
        ·
          rw [if_neg g4, if_neg g4]
          have g4i : 1 ≤ x4.toInt := q_nltI g4
          by_cases g6 : x4 ≤ (1000 : Int32)
          ·
            rw [if_pos g6, if_pos g6]
            have g6i : x4.toInt ≤ 1000 := q_leI g6
            unfold S_DR_round_J40 F_DR_round_J40
            have g7 : ((0 : Int32) = (0 : Int32)) := (by decide)
            rw [if_pos g7, if_pos g7]
            have h8 := T_DR_load (x2 := x2) (t0_0 := (0 : Int32)) (t0_1 := t0_1) (t0_2 := t0_2) (t0_3 := t0_3) (t0_4 := t0_4) (t0_5 := t0_5) (t0_6 := t0_6) (t0_7 := t0_7) (t0_8 := t0_8) (t0_9 := t0_9) (t0_10 := (2 : Int32)) (t1_0 := t1_0) (t2_0 := t2_0) (t3_0 := t3_0) (t4_0 := t4_0) (t5_0 := t5_0) (by with_reducible assumption) (by with_reducible assumption)
            with_reducible refine v_owe h8.1 ?_
            replace h8 := h8.2
            generalize F_DR_load x2 (0 : Int32) t0_1 t0_2 t0_3 t0_4 t0_5 t0_6 t0_7 t0_8 t0_9 (2 : Int32) t1_0 t2_0 t3_0 t4_0 t5_0 = p103 at *
            unfold Q_DR_load at h8
            obtain ⟨h81, h8g, h83, h84, h85, h86, h87⟩ := h8
            have h84i := congrArg Int32.toInt h84
            unfold S_DR_round_c57 F_DR_round_c57
            have h9 := T_DR_toPrecision (x2 := x4) (x3 := ((t4_0 x2.toNatClampNeg : Int32).toInt64 : Int64)) (x4 := x5) (x5 := x3) (t0_0 := (p103.1 : Int32)) (t0_1 := (p103.2.1 : Int32)) (t0_2 := (p103.2.2.1 : Int32)) (t0_3 := (p103.2.2.2.1 : Int64)) (t0_4 := (p103.2.2.2.2.1 : Int32)) (t0_5 := (p103.2.2.2.2.2.1 : Int32)) (t0_6 := (p103.2.2.2.2.2.2.1 : Int32)) (t0_7 := (p103.2.2.2.2.2.2.2.1 : Int32)) (t0_8 := (p103.2.2.2.2.2.2.2.2.1 : Int32)) (t0_9 := (p103.2.2.2.2.2.2.2.2.2.1 : Int32)) (t0_10 := (p103.2.2.2.2.2.2.2.2.2.2.1 : Int32)) (t1_0 := t1_0) (t2_0 := t2_0) (t3_0 := t3_0) (t4_0 := t4_0) (t5_0 := (p103.2.2.2.2.2.2.2.2.2.2.2 : (Nat → Int32))) (by with_reducible assumption) (by with_reducible assumption) ⟨by omega, by omega⟩ ⟨by omega, by omega⟩ (by with_reducible assumption) (fun hne => by omega)
            with_reducible refine v_owe h9.1 ?_
            replace h9 := h9.2
            generalize F_DR_toPrecision x4 ((t4_0 x2.toNatClampNeg : Int32).toInt64 : Int64) x5 x3 (p103.1 : Int32) (p103.2.1 : Int32) (p103.2.2.1 : Int32) (p103.2.2.2.1 : Int64) (p103.2.2.2.2.1 : Int32) (p103.2.2.2.2.2.1 : Int32) (p103.2.2.2.2.2.2.1 : Int32) (p103.2.2.2.2.2.2.2.1 : Int32) (p103.2.2.2.2.2.2.2.2.1 : Int32) (p103.2.2.2.2.2.2.2.2.2.1 : Int32) (p103.2.2.2.2.2.2.2.2.2.2.1 : Int32) t1_0 t2_0 t3_0 t4_0 (p103.2.2.2.2.2.2.2.2.2.2.2 : (Nat → Int32)) = p174 at *
            unfold Q_DR_toPrecision at h9
            unfold S_DR_round_c72 F_DR_round_c72
            refine ⟨trivial, ?_⟩
            (unfold Q_DR_round; dsimp only; with_reducible assumption)
          ·
            rw [if_neg g6, if_neg g6]
            have g6i : 1000 < x4.toInt := q_nleI g6
            unfold S_DR_round_J35 F_DR_round_J35
            unfold S_DR_round_J40 F_DR_round_J40
            have g10 : ¬ ((1 : Int32) = (0 : Int32)) := (by decide)
            rw [if_neg g10, if_neg g10]
            refine ⟨trivial, ?_⟩
            (unfold Q_DR_round; dsimp only; with_reducible assumption)
      ·
        rw [if_neg g3, if_neg g3]
        unfold S_DR_round_J35 F_DR_round_J35
        unfold S_DR_round_J40 F_DR_round_J40
        have g11 : ¬ ((1 : Int32) = (0 : Int32)) := (by decide)
        rw [if_neg g11, if_neg g11]
        refine ⟨trivial, ?_⟩
        (unfold Q_DR_round; dsimp only; with_reducible assumption)
    ·
      rw [if_neg g2, if_neg g2]
      unfold S_DR_round_J35 F_DR_round_J35
      unfold S_DR_round_J40 F_DR_round_J40
      have g12 : ¬ ((1 : Int32) = (0 : Int32)) := (by decide)
      rw [if_neg g12, if_neg g12]
      refine ⟨trivial, ?_⟩
      (unfold Q_DR_round; dsimp only; with_reducible assumption)
  ·
    rw [if_neg g1, if_neg g1]
    unfold S_DR_round_J35 F_DR_round_J35
    unfold S_DR_round_J40 F_DR_round_J40
    have g13 : ¬ ((1 : Int32) = (0 : Int32)) := (by decide)
    rw [if_neg g13, if_neg g13]
    refine ⟨trivial, ?_⟩
    (unfold Q_DR_round; dsimp only; with_reducible assumption)
def Q_DR_strip (p : Int32 × Int32 × Int32 × Int64 × Int32 × Int32 × Int32 × Int32 × Int32 × Int32 × Int32 × (Nat → Int32) × (Nat → Int32) × (Nat → Int32) × (Nat → Int32) × (Nat → Int32)) : Prop := gR p.2.2.2.2.2.2.2.2.2.2.2.1 p.2.2.2.2.2.2.2.2.2.2.2.2.1 p.2.2.2.2.2.2.2.2.2.2.2.2.2.1 p.2.2.2.2.2.2.2.2.2.2.2.2.2.2.1
theorem T_DR_strip {x2 : Int32} {x3 : Int32} {t0_0 : Int32} {t0_1 : Int32} {t0_2 : Int32} {t0_3 : Int64} {t0_4 : Int32} {t0_5 : Int32} {t0_6 : Int32} {t0_7 : Int32} {t0_8 : Int32} {t0_9 : Int32} {t0_10 : Int32} {t1_0 : (Nat → Int32)} {t2_0 : (Nat → Int32)} {t3_0 : (Nat → Int32)} {t4_0 : (Nat → Int32)} {t5_0 : (Nat → Int32)} (hR : gR t1_0 t2_0 t3_0 t4_0) : (S_DR_strip x2 x3 t0_0 t0_1 t0_2 t0_3 t0_4 t0_5 t0_6 t0_7 t0_8 t0_9 t0_10 t1_0 t2_0 t3_0 t4_0 t5_0) ∧ Q_DR_strip (F_DR_strip x2 x3 t0_0 t0_1 t0_2 t0_3 t0_4 t0_5 t0_6 t0_7 t0_8 t0_9 t0_10 t1_0 t2_0 t3_0 t4_0 t5_0) := by
  have e0 : (0 : Int32).toInt = 0 := rfl
  have eL0 : (0 : Int64).toInt = 0 := rfl
  have eL1 : (10000 : Int64).toInt = 10000 := rfl
  have eL2 : (-10000 : Int64).toInt = -10000 := rfl
  have eL3 : (1000 : Int64).toInt = 1000 := rfl
  have eL4 : (-1 : Int64).toInt = -1 := rfl
  have eI3 : (1000 : Int32).toInt = 1000 := rfl
  have eM : (-10000 : Int32).toInt = -10000 := rfl
  have eP : (10000 : Int32).toInt = 10000 := rfl
  have eO : (1 : Int32).toInt = 1 := rfl
  unfold S_DR_strip F_DR_strip
  by_cases g1 : ((F_DR_no x2) : Int32) = (0 : Int32)
  ·
    rw [if_pos g1, if_pos g1]
    have g1r := g_no g1
    by_cases g2 : ((F_DR_no x3) : Int32) = (0 : Int32)
    ·
      rw [if_pos g2, if_pos g2]
      have g2r := g_no g2
      unfold S_DR_strip_J20 F_DR_strip_J20
      have g3 : ((0 : Int32) ≤ (0 : Int32)) := (by decide)
      rw [if_pos g3, if_pos g3]
      have h4 := T_DR_load (x2 := x2) (t0_0 := (0 : Int32)) (t0_1 := t0_1) (t0_2 := t0_2) (t0_3 := t0_3) (t0_4 := t0_4) (t0_5 := t0_5) (t0_6 := t0_6) (t0_7 := t0_7) (t0_8 := t0_8) (t0_9 := t0_9) (t0_10 := (2 : Int32)) (t1_0 := t1_0) (t2_0 := t2_0) (t3_0 := t3_0) (t4_0 := t4_0) (t5_0 := t5_0) (by with_reducible assumption) (by with_reducible assumption)
      with_reducible refine v_owe h4.1 ?_
      replace h4 := h4.2
      generalize F_DR_load x2 (0 : Int32) t0_1 t0_2 t0_3 t0_4 t0_5 t0_6 t0_7 t0_8 t0_9 (2 : Int32) t1_0 t2_0 t3_0 t4_0 t5_0 = p102 at *
      unfold Q_DR_load at h4
      obtain ⟨h41, h4g, h43, h44, h45, h46, h47⟩ := h4
      have h44i := congrArg Int32.toInt h44
      unfold S_DR_strip_c38 F_DR_strip_c38
      by_cases g5 : ((p102.2.2.2.2.2.2.2.2.2.2.2 : (Nat → Int32)) (0 : Int32).toNatClampNeg : Int32) = (0 : Int32)
      ·
        rw [if_pos g5, if_pos g5]
        have h6 := T_DR_store (x2 := x3) (t0_0 := (p102.1 : Int32)) (t0_1 := (p102.2.1 : Int32)) (t0_2 := (p102.2.2.1 : Int32)) (t0_3 := (0 : Int64)) (t0_4 := (p102.2.2.2.2.1 : Int32)) (t0_5 := (p102.2.2.2.2.2.1 : Int32)) (t0_6 := (p102.2.2.2.2.2.2.1 : Int32)) (t0_7 := (p102.2.2.2.2.2.2.2.1 : Int32)) (t0_8 := (p102.2.2.2.2.2.2.2.2.1 : Int32)) (t0_9 := (p102.2.2.2.2.2.2.2.2.2.1 : Int32)) (t0_10 := (p102.2.2.2.2.2.2.2.2.2.2.1 : Int32)) (t1_0 := t1_0) (t2_0 := t2_0) (t3_0 := t3_0) (t4_0 := t4_0) (t5_0 := (p102.2.2.2.2.2.2.2.2.2.2.2 : (Nat → Int32))) (by with_reducible assumption) (by with_reducible assumption) ⟨by first | omega | decide, by first | omega | decide⟩ (by first | with_reducible assumption | exact g_cl (by with_reducible assumption) (by omega) (by omega) | omega | decide)
        with_reducible refine v_owe h6.1 ?_
        replace h6 := h6.2
        generalize F_DR_store x3 (p102.1 : Int32) (p102.2.1 : Int32) (p102.2.2.1 : Int32) (0 : Int64) (p102.2.2.2.2.1 : Int32) (p102.2.2.2.2.2.1 : Int32) (p102.2.2.2.2.2.2.1 : Int32) (p102.2.2.2.2.2.2.2.1 : Int32) (p102.2.2.2.2.2.2.2.2.1 : Int32) (p102.2.2.2.2.2.2.2.2.2.1 : Int32) (p102.2.2.2.2.2.2.2.2.2.2.1 : Int32) t1_0 t2_0 t3_0 t4_0 (p102.2.2.2.2.2.2.2.2.2.2.2 : (Nat → Int32)) = p269 at *
        unfold Q_DR_store at h6
        unfold S_DR_strip_c86_4 F_DR_strip_c86_4
        refine ⟨trivial, ?_⟩
        (unfold Q_DR_strip; dsimp only; with_reducible assumption)
      ·
        rw [if_neg g5, if_neg g5]
        have h7 := R_need (t0_0 := (p102.1 : Int32)) (t0_1 := (p102.2.1 : Int32)) (t0_2 := (p102.2.2.1 : Int32)) (t0_3 := (p102.2.2.2.1 : Int64)) (t0_4 := (p102.2.2.2.2.1 : Int32)) (t0_5 := (p102.2.2.2.2.2.1 : Int32)) (t0_6 := (p102.2.2.2.2.2.2.1 : Int32)) (t0_7 := (p102.2.2.2.2.2.2.2.1 : Int32)) (t0_8 := (p102.2.2.2.2.2.2.2.2.1 : Int32)) (t0_9 := (p102.2.2.2.2.2.2.2.2.2.1 : Int32)) (t0_10 := (p102.2.2.2.2.2.2.2.2.2.2.1 : Int32)) (t1_0 := (p102.2.2.2.2.2.2.2.2.2.2.2 : (Nat → Int32))) ⟨by omega, by omega⟩
        have h7b := h7.2
        with_reducible refine v_owe h7.1 ?_
        have h8 := T_DR_store (x2 := x3) (t0_0 := (p102.1 : Int32)) (t0_1 := (p102.2.1 : Int32)) (t0_2 := ((F_DR_needed (p102.1 : Int32) (p102.2.1 : Int32) (p102.2.2.1 : Int32) (p102.2.2.2.1 : Int64) (p102.2.2.2.2.1 : Int32) (p102.2.2.2.2.2.1 : Int32) (p102.2.2.2.2.2.2.1 : Int32) (p102.2.2.2.2.2.2.2.1 : Int32) (p102.2.2.2.2.2.2.2.2.1 : Int32) (p102.2.2.2.2.2.2.2.2.2.1 : Int32) (p102.2.2.2.2.2.2.2.2.2.2.1 : Int32) (p102.2.2.2.2.2.2.2.2.2.2.2 : (Nat → Int32))) : Int32)) (t0_3 := ((p102.2.2.2.1 : Int64) - (((p102.2.2.1 : Int32) - ((F_DR_needed (p102.1 : Int32) (p102.2.1 : Int32) (p102.2.2.1 : Int32) (p102.2.2.2.1 : Int64) (p102.2.2.2.2.1 : Int32) (p102.2.2.2.2.2.1 : Int32) (p102.2.2.2.2.2.2.1 : Int32) (p102.2.2.2.2.2.2.2.1 : Int32) (p102.2.2.2.2.2.2.2.2.1 : Int32) (p102.2.2.2.2.2.2.2.2.2.1 : Int32) (p102.2.2.2.2.2.2.2.2.2.2.1 : Int32) (p102.2.2.2.2.2.2.2.2.2.2.2 : (Nat → Int32))) : Int32) : Int32).toInt64 : Int64) : Int64)) (t0_4 := (p102.2.2.2.2.1 : Int32)) (t0_5 := (p102.2.2.2.2.2.1 : Int32)) (t0_6 := (p102.2.2.2.2.2.2.1 : Int32)) (t0_7 := (p102.2.2.2.2.2.2.2.1 : Int32)) (t0_8 := (p102.2.2.2.2.2.2.2.2.1 : Int32)) (t0_9 := (p102.2.2.2.2.2.2.2.2.2.1 : Int32)) (t0_10 := (p102.2.2.2.2.2.2.2.2.2.2.1 : Int32)) (t1_0 := t1_0) (t2_0 := t2_0) (t3_0 := t3_0) (t4_0 := t4_0) (t5_0 := (p102.2.2.2.2.2.2.2.2.2.2.2 : (Nat → Int32))) (by with_reducible assumption) (by with_reducible assumption) ⟨by first | omega | decide, by first | omega | decide⟩ (by first | with_reducible assumption | exact g_cl (by with_reducible assumption) (by omega) (by omega) | omega | decide)
        with_reducible refine v_owe h8.1 ?_
        replace h8 := h8.2
        generalize F_DR_store x3 (p102.1 : Int32) (p102.2.1 : Int32) ((F_DR_needed (p102.1 : Int32) (p102.2.1 : Int32) (p102.2.2.1 : Int32) (p102.2.2.2.1 : Int64) (p102.2.2.2.2.1 : Int32) (p102.2.2.2.2.2.1 : Int32) (p102.2.2.2.2.2.2.1 : Int32) (p102.2.2.2.2.2.2.2.1 : Int32) (p102.2.2.2.2.2.2.2.2.1 : Int32) (p102.2.2.2.2.2.2.2.2.2.1 : Int32) (p102.2.2.2.2.2.2.2.2.2.2.1 : Int32) (p102.2.2.2.2.2.2.2.2.2.2.2 : (Nat → Int32))) : Int32) ((p102.2.2.2.1 : Int64) - (((p102.2.2.1 : Int32) - ((F_DR_needed (p102.1 : Int32) (p102.2.1 : Int32) (p102.2.2.1 : Int32) (p102.2.2.2.1 : Int64) (p102.2.2.2.2.1 : Int32) (p102.2.2.2.2.2.1 : Int32) (p102.2.2.2.2.2.2.1 : Int32) (p102.2.2.2.2.2.2.2.1 : Int32) (p102.2.2.2.2.2.2.2.2.1 : Int32) (p102.2.2.2.2.2.2.2.2.2.1 : Int32) (p102.2.2.2.2.2.2.2.2.2.2.1 : Int32) (p102.2.2.2.2.2.2.2.2.2.2.2 : (Nat → Int32))) : Int32) : Int32).toInt64 : Int64) : Int64) (p102.2.2.2.2.1 : Int32) (p102.2.2.2.2.2.1 : Int32) (p102.2.2.2.2.2.2.1 : Int32) (p102.2.2.2.2.2.2.2.1 : Int32) (p102.2.2.2.2.2.2.2.2.1 : Int32) (p102.2.2.2.2.2.2.2.2.2.1 : Int32) (p102.2.2.2.2.2.2.2.2.2.2.1 : Int32) t1_0 t2_0 t3_0 t4_0 (p102.2.2.2.2.2.2.2.2.2.2.2 : (Nat → Int32)) = p194 at *
        unfold Q_DR_store at h8
        unfold S_DR_strip_c86 F_DR_strip_c86
        refine ⟨trivial, ?_⟩
        (unfold Q_DR_strip; dsimp only; with_reducible assumption)
    ·
      rw [if_neg g2, if_neg g2]
      unfold S_DR_strip_J15 F_DR_strip_J15
      unfold S_DR_strip_J20 F_DR_strip_J20
      have g9 : ¬ ((1 : Int32) ≤ (0 : Int32)) := (by decide)
      rw [if_neg g9, if_neg g9]
      refine ⟨trivial, ?_⟩
      (unfold Q_DR_strip; dsimp only; with_reducible assumption)
  ·
    rw [if_neg g1, if_neg g1]
    unfold S_DR_strip_J15 F_DR_strip_J15
    unfold S_DR_strip_J20 F_DR_strip_J20
    have g10 : ¬ ((1 : Int32) ≤ (0 : Int32)) := (by decide)
    rw [if_neg g10, if_neg g10]
    refine ⟨trivial, ?_⟩
    (unfold Q_DR_strip; dsimp only; with_reducible assumption)
def Q_DR_shift (p : Int32 × Int32 × Int32 × Int64 × Int32 × Int32 × Int32 × Int32 × Int32 × Int32 × Int32 × (Nat → Int32) × (Nat → Int32) × (Nat → Int32) × (Nat → Int32) × (Nat → Int32)) : Prop := gR p.2.2.2.2.2.2.2.2.2.2.2.1 p.2.2.2.2.2.2.2.2.2.2.2.2.1 p.2.2.2.2.2.2.2.2.2.2.2.2.2.1 p.2.2.2.2.2.2.2.2.2.2.2.2.2.2.1
theorem T_DR_shift {x2 : Int32} {x3 : Int32} {x4 : Int32} {t0_0 : Int32} {t0_1 : Int32} {t0_2 : Int32} {t0_3 : Int64} {t0_4 : Int32} {t0_5 : Int32} {t0_6 : Int32} {t0_7 : Int32} {t0_8 : Int32} {t0_9 : Int32} {t0_10 : Int32} {t1_0 : (Nat → Int32)} {t2_0 : (Nat → Int32)} {t3_0 : (Nat → Int32)} {t4_0 : (Nat → Int32)} {t5_0 : (Nat → Int32)} (hR : gR t1_0 t2_0 t3_0 t4_0) : (S_DR_shift x2 x3 x4 t0_0 t0_1 t0_2 t0_3 t0_4 t0_5 t0_6 t0_7 t0_8 t0_9 t0_10 t1_0 t2_0 t3_0 t4_0 t5_0) ∧ Q_DR_shift (F_DR_shift x2 x3 x4 t0_0 t0_1 t0_2 t0_3 t0_4 t0_5 t0_6 t0_7 t0_8 t0_9 t0_10 t1_0 t2_0 t3_0 t4_0 t5_0) := by
  have e0 : (0 : Int32).toInt = 0 := rfl
  have eL0 : (0 : Int64).toInt = 0 := rfl
  have eL1 : (10000 : Int64).toInt = 10000 := rfl
  have eL2 : (-10000 : Int64).toInt = -10000 := rfl
  have eL3 : (1000 : Int64).toInt = 1000 := rfl
  have eL4 : (-1 : Int64).toInt = -1 := rfl
  have eI3 : (1000 : Int32).toInt = 1000 := rfl
  have eM : (-10000 : Int32).toInt = -10000 := rfl
  have eP : (10000 : Int32).toInt = 10000 := rfl
  have eO : (1 : Int32).toInt = 1 := rfl
  unfold S_DR_shift F_DR_shift
  by_cases g1 : ((F_DR_no x2) : Int32) = (0 : Int32)
  ·
    rw [if_pos g1, if_pos g1]
    have g1r := g_no g1
    by_cases g2 : ((F_DR_no x3) : Int32) = (0 : Int32)
    ·
      rw [if_pos g2, if_pos g2]
      have g2r := g_no g2
      unfold S_DR_shift_J20 F_DR_shift_J20
      have g3 : ((0 : Int32) = (0 : Int32)) := (by decide)
      rw [if_pos g3, if_pos g3]
      have h4 := T_DR_load (x2 := x2) (t0_0 := (0 : Int32)) (t0_1 := t0_1) (t0_2 := t0_2) (t0_3 := t0_3) (t0_4 := t0_4) (t0_5 := t0_5) (t0_6 := t0_6) (t0_7 := t0_7) (t0_8 := t0_8) (t0_9 := t0_9) (t0_10 := (2 : Int32)) (t1_0 := t1_0) (t2_0 := t2_0) (t3_0 := t3_0) (t4_0 := t4_0) (t5_0 := t5_0) (by with_reducible assumption) (by with_reducible assumption)
      with_reducible refine v_owe h4.1 ?_
      replace h4 := h4.2
      generalize F_DR_load x2 (0 : Int32) t0_1 t0_2 t0_3 t0_4 t0_5 t0_6 t0_7 t0_8 t0_9 (2 : Int32) t1_0 t2_0 t3_0 t4_0 t5_0 = p103 at *
      unfold Q_DR_load at h4
      obtain ⟨h41, h4g, h43, h44, h45, h46, h47⟩ := h4
      have h44i := congrArg Int32.toInt h44
      unfold S_DR_shift_c37 F_DR_shift_c37
      have h5 := T_DR_store (x2 := x3) (t0_0 := (p103.1 : Int32)) (t0_1 := (p103.2.1 : Int32)) (t0_2 := (p103.2.2.1 : Int32)) (t0_3 := ((p103.2.2.2.1 : Int64) - (x4.toInt64 : Int64) : Int64)) (t0_4 := (p103.2.2.2.2.1 : Int32)) (t0_5 := (p103.2.2.2.2.2.1 : Int32)) (t0_6 := (p103.2.2.2.2.2.2.1 : Int32)) (t0_7 := (p103.2.2.2.2.2.2.2.1 : Int32)) (t0_8 := (p103.2.2.2.2.2.2.2.2.1 : Int32)) (t0_9 := (p103.2.2.2.2.2.2.2.2.2.1 : Int32)) (t0_10 := (p103.2.2.2.2.2.2.2.2.2.2.1 : Int32)) (t1_0 := t1_0) (t2_0 := t2_0) (t3_0 := t3_0) (t4_0 := t4_0) (t5_0 := (p103.2.2.2.2.2.2.2.2.2.2.2 : (Nat → Int32))) (by with_reducible assumption) (by with_reducible assumption) ⟨by first | omega | decide, by first | omega | decide⟩ (by first | with_reducible assumption | exact g_cl (by with_reducible assumption) (by omega) (by omega) | omega | decide)
      with_reducible refine v_owe h5.1 ?_
      replace h5 := h5.2
      generalize F_DR_store x3 (p103.1 : Int32) (p103.2.1 : Int32) (p103.2.2.1 : Int32) ((p103.2.2.2.1 : Int64) - (x4.toInt64 : Int64) : Int64) (p103.2.2.2.2.1 : Int32) (p103.2.2.2.2.2.1 : Int32) (p103.2.2.2.2.2.2.1 : Int32) (p103.2.2.2.2.2.2.2.1 : Int32) (p103.2.2.2.2.2.2.2.2.1 : Int32) (p103.2.2.2.2.2.2.2.2.2.1 : Int32) (p103.2.2.2.2.2.2.2.2.2.2.1 : Int32) t1_0 t2_0 t3_0 t4_0 (p103.2.2.2.2.2.2.2.2.2.2.2 : (Nat → Int32)) = p179 at *
      unfold Q_DR_store at h5
      unfold S_DR_shift_c53 F_DR_shift_c53
      refine ⟨trivial, ?_⟩
      (unfold Q_DR_shift; dsimp only; with_reducible assumption)
    ·
      rw [if_neg g2, if_neg g2]
      unfold S_DR_shift_J15 F_DR_shift_J15
      unfold S_DR_shift_J20 F_DR_shift_J20
      have g6 : ¬ ((1 : Int32) = (0 : Int32)) := (by decide)
      rw [if_neg g6, if_neg g6]
      refine ⟨trivial, ?_⟩
      (unfold Q_DR_shift; dsimp only; with_reducible assumption)
  ·
    rw [if_neg g1, if_neg g1]
    unfold S_DR_shift_J15 F_DR_shift_J15
    unfold S_DR_shift_J20 F_DR_shift_J20
    have g7 : ¬ ((1 : Int32) = (0 : Int32)) := (by decide)
    rw [if_neg g7, if_neg g7]
    refine ⟨trivial, ?_⟩
    (unfold Q_DR_shift; dsimp only; with_reducible assumption)
