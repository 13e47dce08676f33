/-! DecimalRows: exponent, written -/
theorem g_e1 {v b : Int32} (hv : 0 ≤ v.toInt ∧ v.toInt ≤ 50000) (hb : 1 ≤ b.toInt) : (v / b).toInt = v.toInt / b.toInt := q_divI rfl rfl hv.1 (by omega)
theorem g_down3 {a : Int32} (h : -50000 ≤ a.toInt ∧ a.toInt ≤ 50000) : a.toInt - 2 ≤ (F_DR_down3 a).toInt ∧ (F_DR_down3 a).toInt ≤ a.toInt := by
  have e0 : (0 : Int32).toInt = 0 := rfl
  unfold F_DR_down3
  by_cases c : a < 0
  · rw [if_pos c]
    have c2 := q_ltI c
    have e1 : (2 - a : Int32).toInt = 2 - a.toInt := q_subI (x := 2) (by decide) rfl (by omega) (by omega)
    have e2 : ((2 - a) / 3 : Int32).toInt = (2 - a.toInt) / 3 := q_divI e1 (by decide) (by omega) (by decide)
    have e3 : ((2 - a) / 3 * 3 : Int32).toInt = (2 - a.toInt) / 3 * 3 := q_mulI (y := 3) e2 (by decide) (by omega) (by omega)
    have e4 := q_negI e3 (by omega)
    omega
  · rw [if_neg c]
    have c2 := q_nltI c
    have e2 : (a / 3 : Int32).toInt = a.toInt / 3 := q_divI rfl (by decide) (by omega) (by decide)
    have e3 : (a / 3 * 3 : Int32).toInt = a.toInt / 3 * 3 := q_mulI (y := 3) e2 (by decide) (by omega) (by omega)
    omega
theorem v_exp1 {x2 : Int32} {t0_0 : Int32} {t0_1 : Int32} {t0_2 : Int32} {t0_3 : Int64} {t0_4 : Int32} {t0_5 : Int32} {t0_6 : Int32} {t0_7 : Int32} {t0_8 : Int32} {t0_9 : Int32} {t0_10 : Int32} {t1_0 : (Nat → Int32)} {p62 : (Int32 × Int32 × Int32 × Int64 × Int32 × Int32 × Int32 × Int32 × Int32 × Int32 × Int32 × (Nat → Int32))} {y24 : Int32} {y25 : Int32} {y26 : Int32} {y27 : Int64} {y28 : Int32} {y29 : Int32} {y30 : Int32} {y31 : Int32} {y32 : Int32} {y33 : Int32} {y34 : Int32} {f35 : (Nat → Int32)} {lx81 : Int32} {p134 : (Int32 × Int32 × Int32 × Int64 × Int32 × Int32 × Int32 × Int32 × Int32 × Int32 × Int32 × (Nat → Int32))} {y96 : Int32} {y97 : Int32} {y98 : Int32} {y99 : Int64} {y100 : Int32} {y101 : Int32} {y102 : Int32} {y103 : Int32} {y104 : Int32} {y105 : Int32} {y106 : Int32} {f107 : (Nat → Int32)} {lx153 : Int32} (h9 : 0 ≤ t0_9.toInt ∧ t0_9.toInt ≤ 12100) (h153 : 0 ≤ lx153.toInt ∧ lx153.toInt ≤ 50000) (h105 : y105.toInt = t0_9.toInt + 2) : ∀ (n : Nat) (lx163 : Int32), ((lx163.toInt = 1 ∧ 5 ≤ (n : Int)) ∨ (lx163.toInt = 10 ∧ 4 ≤ (n : Int)) ∨ (lx163.toInt = 100 ∧ 3 ≤ (n : Int)) ∨ (lx163.toInt = 1000 ∧ 2 ≤ (n : Int)) ∨ (lx163.toInt = 10000 ∧ 1 ≤ (n : Int))) → (S_DR_exponent_L34 x2 t0_0 t0_1 t0_2 t0_3 t0_4 t0_5 t0_6 t0_7 t0_8 t0_9 t0_10 t1_0 p62 y24 y25 y26 y27 y28 y29 y30 y31 y32 y33 y34 f35 lx81 p134 y96 y97 y98 y99 y100 y101 y102 y103 y104 y105 y106 f107 lx153 n lx163) ∧ Q_DR_exponent t0_9 (F_DR_exponent_L34 x2 t0_0 t0_1 t0_2 t0_3 t0_4 t0_5 t0_6 t0_7 t0_8 t0_9 t0_10 t1_0 p62 y24 y25 y26 y27 y28 y29 y30 y31 y32 y33 y34 f35 lx81 p134 y96 y97 y98 y99 y100 y101 y102 y103 y104 y105 y106 f107 lx153 n lx163) := by
  intro n
  induction n with
  | zero => intro lx163 h0; exact absurd (show False by omega) id
  | succ n ih =>
    intro lx163 h0
    have e0 : (0 : Int32).toInt = 0 := rfl
    have e9 : (9 : Int32).toInt = 9 := rfl
    rw [S_DR_exponent_L34.eq_2, F_DR_exponent_L34.eq_2]
    refine v_cons (by omega) ?_
    by_cases g1 : (lx153 / lx163 : Int32) ≤ (9 : Int32)
    ·
      rw [if_pos g1, if_pos g1]
      exact v_exp2 h9 h153 _ _ _ _ _ _ _ _ _ _ _ _ _ _ (by omega) (by omega) (by omega)
    ·
      rw [if_neg g1, if_neg g1]
      have g1i := q_nleI g1
      rcases h0 with ⟨b1, b2⟩ | ⟨b1, b2⟩ | ⟨b1, b2⟩ | ⟨b1, b2⟩ | ⟨b1, b2⟩ <;> (have ed := g_e1 h153 (b := lx163) (by omega); rw [b1] at ed; have em : (lx163 * 10 : Int32).toInt = lx163.toInt * 10 := q_mulI (y := 10) rfl (by decide) (by omega) (by omega); exact ih _ (by omega))
theorem T_DR_exponent {x2 : Int32} {t0_0 : Int32} {t0_1 : Int32} {t0_2 : Int32} {t0_3 : Int64} {t0_4 : Int32} {t0_5 : Int32} {t0_6 : Int32} {t0_7 : Int32} {t0_8 : Int32} {t0_9 : Int32} {t0_10 : Int32} {t1_0 : (Nat → Int32)} (h9 : 0 ≤ t0_9.toInt ∧ t0_9.toInt ≤ 12100) (hx : -50000 ≤ x2.toInt ∧ x2.toInt ≤ 50000) : (S_DR_exponent x2 t0_0 t0_1 t0_2 t0_3 t0_4 t0_5 t0_6 t0_7 t0_8 t0_9 t0_10 t1_0) ∧ Q_DR_exponent t0_9 (F_DR_exponent x2 t0_0 t0_1 t0_2 t0_3 t0_4 t0_5 t0_6 t0_7 t0_8 t0_9 t0_10 t1_0) := by
  have e0 : (0 : Int32).toInt = 0 := rfl
  unfold S_DR_exponent F_DR_exponent
  have h1 := R_print (x2 := (69 : Int32)) (t0_0 := t0_0) (t0_1 := t0_1) (t0_2 := t0_2) (t0_3 := t0_3) (t0_4 := t0_4) (t0_5 := t0_5) (t0_6 := t0_6) (t0_7 := t0_7) (t0_8 := t0_8) (t0_9 := t0_9) (t0_10 := t0_10) (t1_0 := t1_0) ⟨by first | omega | decide, by first | omega | decide⟩
  with_reducible refine v_owe h1.1 ?_
  replace h1 := h1.2
  generalize F_DR_print (69 : Int32) t0_0 t0_1 t0_2 t0_3 t0_4 t0_5 t0_6 t0_7 t0_8 t0_9 t0_10 t1_0 = p62 at *
  unfold S_DR_exponent_c3 F_DR_exponent_c3
  by_cases g2 : (0 : Int32) ≤ x2
  ·
    rw [if_pos g2, if_pos g2]
    have g2i : 0 ≤ x2.toInt := q_leI g2
    unfold S_DR_exponent_J18 F_DR_exponent_J18
    have h3 := R_print (x2 := (43 : Int32)) (t0_0 := (p62.1 : Int32)) (t0_1 := (p62.2.1 : Int32)) (t0_2 := (p62.2.2.1 : Int32)) (t0_3 := (p62.2.2.2.1 : Int64)) (t0_4 := (p62.2.2.2.2.1 : Int32)) (t0_5 := (p62.2.2.2.2.2.1 : Int32)) (t0_6 := (p62.2.2.2.2.2.2.1 : Int32)) (t0_7 := (p62.2.2.2.2.2.2.2.1 : Int32)) (t0_8 := (p62.2.2.2.2.2.2.2.2.1 : Int32)) (t0_9 := (p62.2.2.2.2.2.2.2.2.2.1 : Int32)) (t0_10 := (p62.2.2.2.2.2.2.2.2.2.2.1 : Int32)) (t1_0 := (p62.2.2.2.2.2.2.2.2.2.2.2 : (Nat → Int32))) ⟨by first | omega | decide, by first | omega | decide⟩
    with_reducible refine v_owe h3.1 ?_
    replace h3 := h3.2
    generalize F_DR_print (43 : Int32) (p62.1 : Int32) (p62.2.1 : Int32) (p62.2.2.1 : Int32) (p62.2.2.2.1 : Int64) (p62.2.2.2.2.1 : Int32) (p62.2.2.2.2.2.1 : Int32) (p62.2.2.2.2.2.2.1 : Int32) (p62.2.2.2.2.2.2.2.1 : Int32) (p62.2.2.2.2.2.2.2.2.1 : Int32) (p62.2.2.2.2.2.2.2.2.2.1 : Int32) (p62.2.2.2.2.2.2.2.2.2.2.1 : Int32) (p62.2.2.2.2.2.2.2.2.2.2.2 : (Nat → Int32)) = p134 at *
    unfold S_DR_exponent_c18 F_DR_exponent_c18
    rw [if_pos g2, if_pos g2]
    unfold S_DR_exponent_J31 F_DR_exponent_J31
    exact v_exp1 h9 ⟨by omega, by omega⟩ (by omega) _ _ (by left; exact ⟨by decide, by decide⟩)
  ·
    rw [if_neg g2, if_neg g2]
    have g2i : x2.toInt < 0 := q_nleI g2
    unfold S_DR_exponent_J18 F_DR_exponent_J18
    have h4 := R_print (x2 := (45 : Int32)) (t0_0 := (p62.1 : Int32)) (t0_1 := (p62.2.1 : Int32)) (t0_2 := (p62.2.2.1 : Int32)) (t0_3 := (p62.2.2.2.1 : Int64)) (t0_4 := (p62.2.2.2.2.1 : Int32)) (t0_5 := (p62.2.2.2.2.2.1 : Int32)) (t0_6 := (p62.2.2.2.2.2.2.1 : Int32)) (t0_7 := (p62.2.2.2.2.2.2.2.1 : Int32)) (t0_8 := (p62.2.2.2.2.2.2.2.2.1 : Int32)) (t0_9 := (p62.2.2.2.2.2.2.2.2.2.1 : Int32)) (t0_10 := (p62.2.2.2.2.2.2.2.2.2.2.1 : Int32)) (t1_0 := (p62.2.2.2.2.2.2.2.2.2.2.2 : (Nat → Int32))) ⟨by first | omega | decide, by first | omega | decide⟩
    with_reducible refine v_owe h4.1 ?_
    replace h4 := h4.2
    generalize F_DR_print (45 : Int32) (p62.1 : Int32) (p62.2.1 : Int32) (p62.2.2.1 : Int32) (p62.2.2.2.1 : Int64) (p62.2.2.2.2.1 : Int32) (p62.2.2.2.2.2.1 : Int32) (p62.2.2.2.2.2.2.1 : Int32) (p62.2.2.2.2.2.2.2.1 : Int32) (p62.2.2.2.2.2.2.2.2.1 : Int32) (p62.2.2.2.2.2.2.2.2.2.1 : Int32) (p62.2.2.2.2.2.2.2.2.2.2.1 : Int32) (p62.2.2.2.2.2.2.2.2.2.2.2 : (Nat → Int32)) = p134 at *
    unfold S_DR_exponent_c18 F_DR_exponent_c18
    rw [if_neg g2, if_neg g2]
    obtain ⟨lx153, e5⟩ := q_nm ((-x2 : Int32) : Int32)
    rw [e5]
    have l153 : lx153.toInt = -x2.toInt := by rw [← e5]; exact q_negI rfl (by omega)
    unfold S_DR_exponent_J31 F_DR_exponent_J31
    exact v_exp1 h9 ⟨by omega, by omega⟩ (by omega) _ _ (by left; exact ⟨by decide, by decide⟩)
def Q_DR_written (x3 : Int32) (p : Int32 × Int32 × Int32 × Int32 × Int64 × Int32 × Int32 × Int32 × Int32 × Int32 × Int32 × Int32 × (Nat → Int32)) : Prop := 0 ≤ p.1.toInt ∧ p.1.toInt ≤ 12200 ∧ (x3.toInt = 0 → p.1.toInt ≤ 4100)
theorem T_DR_written {x2 : Int32} {x3 : Int32} {t0_0 : Int32} {t0_1 : Int32} {t0_2 : Int32} {t0_3 : Int64} {t0_4 : Int32} {t0_5 : Int32} {t0_6 : Int32} {t0_7 : Int32} {t0_8 : Int32} {t0_9 : Int32} {t0_10 : Int32} {t1_0 : (Nat → Int32)} {t2_0 : (Nat → Int32)} {t3_0 : (Nat → Int32)} {t4_0 : (Nat → Int32)} {t5_0 : (Nat → Int32)} (hR : gR t1_0 t2_0 t3_0 t4_0) : (S_DR_written x2 x3 t0_0 t0_1 t0_2 t0_3 t0_4 t0_5 t0_6 t0_7 t0_8 t0_9 t0_10 t1_0 t2_0 t3_0 t4_0 t5_0) ∧ Q_DR_written x3 (F_DR_written x2 x3 t0_0 t0_1 t0_2 t0_3 t0_4 t0_5 t0_6 t0_7 t0_8 t0_9 t0_10 t1_0 t2_0 t3_0 t4_0 t5_0) := by
  have e0 : (0 : Int32).toInt = 0 := rfl
  have eL0 : (0 : Int64).toInt = 0 := rfl
  have eL1 : (10000 : Int64).toInt = 10000 := rfl
  have eL2 : (-10000 : Int64).toInt = -10000 := rfl
  have eL3 : (1000 : Int64).toInt = 1000 := rfl
  have eL4 : (-1 : Int64).toInt = -1 := rfl
  have eI3 : (1000 : Int32).toInt = 1000 := rfl
  have i1 : (1 : Int32).toInt = 1 := rfl
  have i6 : (-6 : Int32).toInt = -6 := rfl
  have im : (-1 : Int32).toInt = -1 := rfl
  have i2 : (2 : Int32).toInt = 2 := rfl
  unfold S_DR_written F_DR_written
  by_cases g1 : ((F_DR_no x2) : Int32) = (0 : Int32)
  ·
    rw [if_pos g1, if_pos g1]
    have g1r := g_no g1
    by_cases g2 : x3 < (0 : Int32)
    ·
      rw [if_pos g2, if_pos g2]
      have g2i : x3.toInt < 0 := q_ltI g2
      unfold S_DR_written_J17 F_DR_written_J17
      unfold S_DR_written_J22 F_DR_written_J22
      have g3 : ¬ ((1 : Int32) ≤ (0 : Int32)) := (by decide)
      rw [if_neg g3, if_neg g3]
      refine ⟨trivial, ?_⟩
      (unfold Q_DR_written; dsimp only; first | omega | exact ⟨by decide, by decide, fun _ => by decide⟩)
    ·
      rw [if_neg g2, if_neg g2]
      have g2i : 0 ≤ x3.toInt := q_nltI g2
      by_cases g4 : x3 ≤ (2 : Int32)
      ·
        rw [if_pos g4, if_pos g4]
        have g4i : x3.toInt ≤ 2 := q_leI g4
        unfold S_DR_written_J22 F_DR_written_J22
        have g5 : ((0 : Int32) ≤ (0 : Int32)) := (by decide)
        rw [if_pos g5, if_pos g5]
        refine v_cons (by omega) ?_
        refine v_cons (by omega) ?_
        by_cases g6 : (t3_0 x2.toNatClampNeg : Int32) = (0 : Int32)
        ·
          rw [if_pos g6, if_pos g6]
          have m2 := gR.at hR (by with_reducible assumption : 0 ≤ x2.toInt ∧ x2.toInt ≤ 9)
          unfold S_DR_written_J54 F_DR_written_J54
          by_cases g7 : x3 = (1 : Int32)
          ·
            rw [if_pos g7, if_pos g7]
            have g7i : x3.toInt = 1 := q_eqI g7
            by_cases g8 : (0 : Int32) < (t4_0 x2.toNatClampNeg : Int32)
            ·
              rw [if_pos g8, if_pos g8]
              have g8i := q_ltI g8
              obtain ⟨a117, e9⟩ := q_nm ((((t2_0 x2.toNatClampNeg : Int32) - 1 : Int32) - (t4_0 x2.toNatClampNeg : Int32) : Int32) : Int32)
              rw [e9]
              have a117i : a117.toInt = (t2_0 x2.toNatClampNeg).toInt - 1 - (t4_0 x2.toNatClampNeg).toInt := by rw [← e9]; exact q_subI (q_subI (y := 1) rfl (by decide) (by omega) (by omega)) rfl (by omega) (by omega)
              unfold S_DR_written_J113 F_DR_written_J113
              by_cases g10 : (t4_0 x2.toNatClampNeg : Int32) < (0 : Int32)
              ·
                rw [if_pos g10, if_pos g10]
                have g10i := q_ltI g10
                unfold S_DR_written_J170 F_DR_written_J170
                by_cases g11 : x3 = (0 : Int32)
                ·
                  rw [if_pos g11, if_pos g11]
                  have g11i : x3.toInt = 0 := q_eqI g11
                  have h12 := T_DR_figures (x2 := x2) (x3 := (0 : Int32)) (x4 := (t2_0 x2.toNatClampNeg : Int32)) (x5 := (1 : Int32)) (t0_0 := (0 : Int32)) (t0_1 := t0_1) (t0_2 := t0_2) (t0_3 := t0_3) (t0_4 := t0_4) (t0_5 := t0_5) (t0_6 := t0_6) (t0_7 := t0_7) (t0_8 := t0_8) (t0_9 := (0 : Int32)) (t0_10 := t0_10) (t1_0 := t1_0) (t2_0 := t2_0) (t3_0 := t5_0) (by with_reducible assumption) m2.1 ⟨(by first | omega | decide), (by first | omega | decide), (by first | omega | decide), (by first | omega | decide)⟩ (by first | omega | decide) (by first | omega | decide) (by first | omega | decide)
                  with_reducible refine v_owe h12.1 ?_
                  replace h12 := h12.2
                  generalize F_DR_figures x2 (0 : Int32) (t2_0 x2.toNatClampNeg : Int32) (1 : Int32) (0 : Int32) t0_1 t0_2 t0_3 t0_4 t0_5 t0_6 t0_7 t0_8 (0 : Int32) t0_10 t1_0 t2_0 t5_0 = p496 at *
                  unfold Q_DR_figures at h12
                  unfold S_DR_written_c179 F_DR_written_c179
                  have h13 := T_DR_exponent (x2 := a117) (t0_0 := (p496.1 : Int32)) (t0_1 := (p496.2.1 : Int32)) (t0_2 := (p496.2.2.1 : Int32)) (t0_3 := (p496.2.2.2.1 : Int64)) (t0_4 := (p496.2.2.2.2.1 : Int32)) (t0_5 := (p496.2.2.2.2.2.1 : Int32)) (t0_6 := (p496.2.2.2.2.2.2.1 : Int32)) (t0_7 := (p496.2.2.2.2.2.2.2.1 : Int32)) (t0_8 := (p496.2.2.2.2.2.2.2.2.1 : Int32)) (t0_9 := (p496.2.2.2.2.2.2.2.2.2.1 : Int32)) (t0_10 := (p496.2.2.2.2.2.2.2.2.2.2.1 : Int32)) (t1_0 := (p496.2.2.2.2.2.2.2.2.2.2.2 : (Nat → Int32))) ⟨(by first | omega | decide), (by first | omega | decide)⟩ ⟨(by first | omega | decide), (by first | omega | decide)⟩
                  with_reducible refine v_owe h13.1 ?_
                  replace h13 := h13.2
                  generalize F_DR_exponent a117 (p496.1 : Int32) (p496.2.1 : Int32) (p496.2.2.1 : Int32) (p496.2.2.2.1 : Int64) (p496.2.2.2.2.1 : Int32) (p496.2.2.2.2.2.1 : Int32) (p496.2.2.2.2.2.2.1 : Int32) (p496.2.2.2.2.2.2.2.1 : Int32) (p496.2.2.2.2.2.2.2.2.1 : Int32) (p496.2.2.2.2.2.2.2.2.2.1 : Int32) (p496.2.2.2.2.2.2.2.2.2.2.1 : Int32) (p496.2.2.2.2.2.2.2.2.2.2.2 : (Nat → Int32)) = p556 at *
                  unfold Q_DR_exponent at h13
                  unfold S_DR_written_c185 F_DR_written_c185
                  refine ⟨trivial, ?_⟩
                  (unfold Q_DR_written; dsimp only; first | omega | exact ⟨by decide, by decide, fun _ => by decide⟩)
                ·
                  rw [if_neg g11, if_neg g11]
                  have g11i : x3.toInt ≠ 0 := q_neI g11
                  have h14 := R_dz (x2 := x2) (t0_0 := (0 : Int32)) (t0_1 := t0_1) (t0_2 := t0_2) (t0_3 := t0_3) (t0_4 := t0_4) (t0_5 := t0_5) (t0_6 := t0_6) (t0_7 := t0_7) (t0_8 := t0_8) (t0_9 := (0 : Int32)) (t0_10 := t0_10) (t1_0 := t1_0) (by with_reducible assumption)
                  with_reducible refine v_owe h14.1 ?_
                  by_cases g15 : ((F_DR_isZero x2 (0 : Int32) t0_1 t0_2 t0_3 t0_4 t0_5 t0_6 t0_7 t0_8 (0 : Int32) t0_10 t1_0) : Int32) = (0 : Int32)
                  ·
                    rw [if_pos g15, if_pos g15]
                    try have hdn := g_down3 (a := a117) ⟨by omega, by omega⟩
                    try have ed1 : (a117 - F_DR_down3 a117 : Int32).toInt = a117.toInt - (F_DR_down3 a117).toInt := q_subI rfl rfl (by omega) (by omega)
                    try have ed2 : (a117 - F_DR_down3 a117 + 1 : Int32).toInt = (a117.toInt - (F_DR_down3 a117).toInt) + 1 := q_addI (y := 1) ed1 (by decide) (by omega) (by omega)
                    by_cases g16 : (t2_0 x2.toNatClampNeg : Int32) ≤ ((a117 - ((F_DR_down3 a117) : Int32) : Int32) + 1 : Int32)
                    ·
                      rw [if_pos g16, if_pos g16]
                      have g16i := q_leI g16
                      unfold S_DR_written_J268 F_DR_written_J268
                      have h17 := T_DR_figures (x2 := x2) (x3 := (0 : Int32)) (x4 := ((a117 - ((F_DR_down3 a117) : Int32) : Int32) + 1 : Int32)) (x5 := ((a117 - ((F_DR_down3 a117) : Int32) : Int32) + 1 : Int32)) (t0_0 := (0 : Int32)) (t0_1 := t0_1) (t0_2 := t0_2) (t0_3 := t0_3) (t0_4 := t0_4) (t0_5 := t0_5) (t0_6 := t0_6) (t0_7 := t0_7) (t0_8 := t0_8) (t0_9 := (0 : Int32)) (t0_10 := t0_10) (t1_0 := t1_0) (t2_0 := t2_0) (t3_0 := t5_0) (by with_reducible assumption) m2.1 ⟨(by first | omega | decide), (by first | omega | decide), (by first | omega | decide), (by first | omega | decide)⟩ (by first | omega | decide) (by first | omega | decide) (by first | omega | decide)
                      with_reducible refine v_owe h17.1 ?_
                      replace h17 := h17.2
                      generalize F_DR_figures x2 (0 : Int32) ((a117 - ((F_DR_down3 a117) : Int32) : Int32) + 1 : Int32) ((a117 - ((F_DR_down3 a117) : Int32) : Int32) + 1 : Int32) (0 : Int32) t0_1 t0_2 t0_3 t0_4 t0_5 t0_6 t0_7 t0_8 (0 : Int32) t0_10 t1_0 t2_0 t5_0 = p224 at *
                      unfold Q_DR_figures at h17
                      unfold S_DR_written_c275 F_DR_written_c275
                      by_cases g18 : ((F_DR_down3 a117) : Int32) = (0 : Int32)
                      ·
                        rw [if_pos g18, if_pos g18]
                        refine ⟨trivial, ?_⟩
                        (unfold Q_DR_written; dsimp only; first | omega | exact ⟨by decide, by decide, fun _ => by decide⟩)
                      ·
                        rw [if_neg g18, if_neg g18]
                        have h19 := T_DR_exponent (x2 := ((F_DR_down3 a117) : Int32)) (t0_0 := (p224.1 : Int32)) (t0_1 := (p224.2.1 : Int32)) (t0_2 := (p224.2.2.1 : Int32)) (t0_3 := (p224.2.2.2.1 : Int64)) (t0_4 := (p224.2.2.2.2.1 : Int32)) (t0_5 := (p224.2.2.2.2.2.1 : Int32)) (t0_6 := (p224.2.2.2.2.2.2.1 : Int32)) (t0_7 := (p224.2.2.2.2.2.2.2.1 : Int32)) (t0_8 := (p224.2.2.2.2.2.2.2.2.1 : Int32)) (t0_9 := (p224.2.2.2.2.2.2.2.2.2.1 : Int32)) (t0_10 := (p224.2.2.2.2.2.2.2.2.2.2.1 : Int32)) (t1_0 := (p224.2.2.2.2.2.2.2.2.2.2.2 : (Nat → Int32))) ⟨(by first | omega | decide), (by first | omega | decide)⟩ ⟨(by first | omega | decide), (by first | omega | decide)⟩
                        with_reducible refine v_owe h19.1 ?_
                        replace h19 := h19.2
                        generalize F_DR_exponent ((F_DR_down3 a117) : Int32) (p224.1 : Int32) (p224.2.1 : Int32) (p224.2.2.1 : Int32) (p224.2.2.2.1 : Int64) (p224.2.2.2.2.1 : Int32) (p224.2.2.2.2.2.1 : Int32) (p224.2.2.2.2.2.2.1 : Int32) (p224.2.2.2.2.2.2.2.1 : Int32) (p224.2.2.2.2.2.2.2.2.1 : Int32) (p224.2.2.2.2.2.2.2.2.2.1 : Int32) (p224.2.2.2.2.2.2.2.2.2.2.1 : Int32) (p224.2.2.2.2.2.2.2.2.2.2.2 : (Nat → Int32)) = p287 at *
                        unfold Q_DR_exponent at h19
                        unfold S_DR_written_c286 F_DR_written_c286
                        refine ⟨trivial, ?_⟩
                        (unfold Q_DR_written; dsimp only; first | omega | exact ⟨by decide, by decide, fun _ => by decide⟩)
                    ·
                      rw [if_neg g16, if_neg g16]
                      have g16i := q_nleI g16
                      unfold S_DR_written_J268 F_DR_written_J268
                      have h20 := T_DR_figures (x2 := x2) (x3 := (0 : Int32)) (x4 := (t2_0 x2.toNatClampNeg : Int32)) (x5 := ((a117 - ((F_DR_down3 a117) : Int32) : Int32) + 1 : Int32)) (t0_0 := (0 : Int32)) (t0_1 := t0_1) (t0_2 := t0_2) (t0_3 := t0_3) (t0_4 := t0_4) (t0_5 := t0_5) (t0_6 := t0_6) (t0_7 := t0_7) (t0_8 := t0_8) (t0_9 := (0 : Int32)) (t0_10 := t0_10) (t1_0 := t1_0) (t2_0 := t2_0) (t3_0 := t5_0) (by with_reducible assumption) m2.1 ⟨(by first | omega | decide), (by first | omega | decide), (by first | omega | decide), (by first | omega | decide)⟩ (by first | omega | decide) (by first | omega | decide) (by first | omega | decide)
                      with_reducible refine v_owe h20.1 ?_
                      replace h20 := h20.2
                      generalize F_DR_figures x2 (0 : Int32) (t2_0 x2.toNatClampNeg : Int32) ((a117 - ((F_DR_down3 a117) : Int32) : Int32) + 1 : Int32) (0 : Int32) t0_1 t0_2 t0_3 t0_4 t0_5 t0_6 t0_7 t0_8 (0 : Int32) t0_10 t1_0 t2_0 t5_0 = p224 at *
                      unfold Q_DR_figures at h20
                      unfold S_DR_written_c275 F_DR_written_c275
                      by_cases g21 : ((F_DR_down3 a117) : Int32) = (0 : Int32)
                      ·
                        rw [if_pos g21, if_pos g21]
                        refine ⟨trivial, ?_⟩
                        (unfold Q_DR_written; dsimp only; first | omega | exact ⟨by decide, by decide, fun _ => by decide⟩)
                      ·
                        rw [if_neg g21, if_neg g21]
                        have h22 := T_DR_exponent (x2 := ((F_DR_down3 a117) : Int32)) (t0_0 := (p224.1 : Int32)) (t0_1 := (p224.2.1 : Int32)) (t0_2 := (p224.2.2.1 : Int32)) (t0_3 := (p224.2.2.2.1 : Int64)) (t0_4 := (p224.2.2.2.2.1 : Int32)) (t0_5 := (p224.2.2.2.2.2.1 : Int32)) (t0_6 := (p224.2.2.2.2.2.2.1 : Int32)) (t0_7 := (p224.2.2.2.2.2.2.2.1 : Int32)) (t0_8 := (p224.2.2.2.2.2.2.2.2.1 : Int32)) (t0_9 := (p224.2.2.2.2.2.2.2.2.2.1 : Int32)) (t0_10 := (p224.2.2.2.2.2.2.2.2.2.2.1 : Int32)) (t1_0 := (p224.2.2.2.2.2.2.2.2.2.2.2 : (Nat → Int32))) ⟨(by first | omega | decide), (by first | omega | decide)⟩ ⟨(by first | omega | decide), (by first | omega | decide)⟩
                        with_reducible refine v_owe h22.1 ?_
                        replace h22 := h22.2
                        generalize F_DR_exponent ((F_DR_down3 a117) : Int32) (p224.1 : Int32) (p224.2.1 : Int32) (p224.2.2.1 : Int32) (p224.2.2.2.1 : Int64) (p224.2.2.2.2.1 : Int32) (p224.2.2.2.2.2.1 : Int32) (p224.2.2.2.2.2.2.1 : Int32) (p224.2.2.2.2.2.2.2.1 : Int32) (p224.2.2.2.2.2.2.2.2.1 : Int32) (p224.2.2.2.2.2.2.2.2.2.1 : Int32) (p224.2.2.2.2.2.2.2.2.2.2.1 : Int32) (p224.2.2.2.2.2.2.2.2.2.2.2 : (Nat → Int32)) = p287 at *
                        unfold Q_DR_exponent at h22
                        unfold S_DR_written_c286 F_DR_written_c286
                        refine ⟨trivial, ?_⟩
                        (unfold Q_DR_written; dsimp only; first | omega | exact ⟨by decide, by decide, fun _ => by decide⟩)
                  ·
                    rw [if_neg g15, if_neg g15]
                    try have en : (-a117 : Int32).toInt = -a117.toInt := q_negI rfl (by omega)
                    try have hdm := g_down3 (a := -a117) ⟨by omega, by omega⟩
                    try have eb : (-(F_DR_down3 (-a117)) : Int32).toInt = -(F_DR_down3 (-a117)).toInt := q_negI rfl (by omega)
                    try have ec : (1 + (-(F_DR_down3 (-a117))) : Int32).toInt = 1 + -(F_DR_down3 (-a117)).toInt := q_addI (x := 1) (by decide) eb (by omega) (by omega)
                    try have ee : (1 + (-(F_DR_down3 (-a117))) - a117 : Int32).toInt = (1 + -(F_DR_down3 (-a117)).toInt) - a117.toInt := q_subI ec rfl (by omega) (by omega)
                    have h23 := T_DR_figures (x2 := x2) (x3 := (0 : Int32)) (x4 := ((1 + (-((F_DR_down3 (-a117 : Int32)) : Int32) : Int32) : Int32) - a117 : Int32)) (x5 := (1 : Int32)) (t0_0 := (0 : Int32)) (t0_1 := t0_1) (t0_2 := t0_2) (t0_3 := t0_3) (t0_4 := t0_4) (t0_5 := t0_5) (t0_6 := t0_6) (t0_7 := t0_7) (t0_8 := t0_8) (t0_9 := (0 : Int32)) (t0_10 := t0_10) (t1_0 := t1_0) (t2_0 := t2_0) (t3_0 := t5_0) (by with_reducible assumption) m2.1 ⟨(by first | omega | decide), (by first | omega | decide), (by first | omega | decide), (by first | omega | decide)⟩ (by first | omega | decide) (by first | omega | decide) (by first | omega | decide)
                    with_reducible refine v_owe h23.1 ?_
                    replace h23 := h23.2
                    generalize F_DR_figures x2 (0 : Int32) ((1 + (-((F_DR_down3 (-a117 : Int32)) : Int32) : Int32) : Int32) - a117 : Int32) (1 : Int32) (0 : Int32) t0_1 t0_2 t0_3 t0_4 t0_5 t0_6 t0_7 t0_8 (0 : Int32) t0_10 t1_0 t2_0 t5_0 = p372 at *
                    unfold Q_DR_figures at h23
                    unfold S_DR_written_c219 F_DR_written_c219
                    by_cases g24 : (-((F_DR_down3 (-a117 : Int32)) : Int32) : Int32) = (0 : Int32)
                    ·
                      rw [if_pos g24, if_pos g24]
                      refine ⟨trivial, ?_⟩
                      (unfold Q_DR_written; dsimp only; first | omega | exact ⟨by decide, by decide, fun _ => by decide⟩)
                    ·
                      rw [if_neg g24, if_neg g24]
                      have h25 := T_DR_exponent (x2 := (-((F_DR_down3 (-a117 : Int32)) : Int32) : Int32)) (t0_0 := (p372.1 : Int32)) (t0_1 := (p372.2.1 : Int32)) (t0_2 := (p372.2.2.1 : Int32)) (t0_3 := (p372.2.2.2.1 : Int64)) (t0_4 := (p372.2.2.2.2.1 : Int32)) (t0_5 := (p372.2.2.2.2.2.1 : Int32)) (t0_6 := (p372.2.2.2.2.2.2.1 : Int32)) (t0_7 := (p372.2.2.2.2.2.2.2.1 : Int32)) (t0_8 := (p372.2.2.2.2.2.2.2.2.1 : Int32)) (t0_9 := (p372.2.2.2.2.2.2.2.2.2.1 : Int32)) (t0_10 := (p372.2.2.2.2.2.2.2.2.2.2.1 : Int32)) (t1_0 := (p372.2.2.2.2.2.2.2.2.2.2.2 : (Nat → Int32))) ⟨(by first | omega | decide), (by first | omega | decide)⟩ ⟨(by first | omega | decide), (by first | omega | decide)⟩
                      with_reducible refine v_owe h25.1 ?_
                      replace h25 := h25.2
                      generalize F_DR_exponent (-((F_DR_down3 (-a117 : Int32)) : Int32) : Int32) (p372.1 : Int32) (p372.2.1 : Int32) (p372.2.2.1 : Int32) (p372.2.2.2.1 : Int64) (p372.2.2.2.2.1 : Int32) (p372.2.2.2.2.2.1 : Int32) (p372.2.2.2.2.2.2.1 : Int32) (p372.2.2.2.2.2.2.2.1 : Int32) (p372.2.2.2.2.2.2.2.2.1 : Int32) (p372.2.2.2.2.2.2.2.2.2.1 : Int32) (p372.2.2.2.2.2.2.2.2.2.2.1 : Int32) (p372.2.2.2.2.2.2.2.2.2.2.2 : (Nat → Int32)) = p435 at *
                      unfold Q_DR_exponent at h25
                      unfold S_DR_written_c230 F_DR_written_c230
                      refine ⟨trivial, ?_⟩
                      (unfold Q_DR_written; dsimp only; first | omega | exact ⟨by decide, by decide, fun _ => by decide⟩)
              ·
                rw [if_neg g10, if_neg g10]
                have g10i := q_nltI g10
                rw [if_pos g7, if_pos g7]
                unfold S_DR_written_J130 F_DR_written_J130
                by_cases g26 : (1 : Int32) ≤ ((t2_0 x2.toNatClampNeg : Int32) - (t4_0 x2.toNatClampNeg : Int32) : Int32)
                ·
                  rw [if_pos g26, if_pos g26]
                  have emc : ((t2_0 x2.toNatClampNeg) - (t4_0 x2.toNatClampNeg) : Int32).toInt = (t2_0 x2.toNatClampNeg).toInt - (t4_0 x2.toNatClampNeg).toInt := q_subI rfl rfl (by omega) (by omega)
                  have g26i := q_leI g26
                  unfold S_DR_written_J150 F_DR_written_J150
                  by_cases g27 : (t4_0 x2.toNatClampNeg : Int32) = (0 : Int32)
                  ·
                    rw [if_pos g27, if_pos g27]
                    have g27i := q_eqI g27
                    have h28 := T_DR_figures (x2 := x2) (x3 := (0 : Int32)) (x4 := (t2_0 x2.toNatClampNeg : Int32)) (x5 := (-1 : Int32)) (t0_0 := (0 : Int32)) (t0_1 := t0_1) (t0_2 := t0_2) (t0_3 := t0_3) (t0_4 := t0_4) (t0_5 := t0_5) (t0_6 := t0_6) (t0_7 := t0_7) (t0_8 := t0_8) (t0_9 := (0 : Int32)) (t0_10 := t0_10) (t1_0 := t1_0) (t2_0 := t2_0) (t3_0 := t5_0) (by with_reducible assumption) m2.1 ⟨(by first | omega | decide), (by first | omega | decide), (by first | omega | decide), (by first | omega | decide)⟩ (by first | omega | decide) (by first | omega | decide) (by first | omega | decide)
                    with_reducible refine v_owe h28.1 ?_
                    replace h28 := h28.2
                    generalize F_DR_figures x2 (0 : Int32) (t2_0 x2.toNatClampNeg : Int32) (-1 : Int32) (0 : Int32) t0_1 t0_2 t0_3 t0_4 t0_5 t0_6 t0_7 t0_8 (0 : Int32) t0_10 t1_0 t2_0 t5_0 = p711 at *
                    unfold Q_DR_figures at h28
                    unfold S_DR_written_c164_15 F_DR_written_c164_15
                    refine ⟨trivial, ?_⟩
                    (unfold Q_DR_written; dsimp only; first | omega | exact ⟨by decide, by decide, fun _ => by decide⟩)
                  ·
                    rw [if_neg g27, if_neg g27]
                    have g27i := q_neI g27
                    have h29 := T_DR_figures (x2 := x2) (x3 := (0 : Int32)) (x4 := (t2_0 x2.toNatClampNeg : Int32)) (x5 := ((t2_0 x2.toNatClampNeg : Int32) - (t4_0 x2.toNatClampNeg : Int32) : Int32)) (t0_0 := (0 : Int32)) (t0_1 := t0_1) (t0_2 := t0_2) (t0_3 := t0_3) (t0_4 := t0_4) (t0_5 := t0_5) (t0_6 := t0_6) (t0_7 := t0_7) (t0_8 := t0_8) (t0_9 := (0 : Int32)) (t0_10 := t0_10) (t1_0 := t1_0) (t2_0 := t2_0) (t3_0 := t5_0) (by with_reducible assumption) m2.1 ⟨(by first | omega | decide), (by first | omega | decide), (by first | omega | decide), (by first | omega | decide)⟩ (by first | omega | decide) (by first | omega | decide) (by first | omega | decide)
                    with_reducible refine v_owe h29.1 ?_
                    replace h29 := h29.2
                    generalize F_DR_figures x2 (0 : Int32) (t2_0 x2.toNatClampNeg : Int32) ((t2_0 x2.toNatClampNeg : Int32) - (t4_0 x2.toNatClampNeg : Int32) : Int32) (0 : Int32) t0_1 t0_2 t0_3 t0_4 t0_5 t0_6 t0_7 t0_8 (0 : Int32) t0_10 t1_0 t2_0 t5_0 = p650 at *
                    unfold Q_DR_figures at h29
                    unfold S_DR_written_c164 F_DR_written_c164
                    refine ⟨trivial, ?_⟩
                    (unfold Q_DR_written; dsimp only; first | omega | exact ⟨by decide, by decide, fun _ => by decide⟩)
                ·
                  rw [if_neg g26, if_neg g26]
                  have emc : ((t2_0 x2.toNatClampNeg) - (t4_0 x2.toNatClampNeg) : Int32).toInt = (t2_0 x2.toNatClampNeg).toInt - (t4_0 x2.toNatClampNeg).toInt := q_subI rfl rfl (by omega) (by omega)
                  have g26i := q_nleI g26
                  obtain ⟨lx592, e30⟩ := q_nm ((((t2_0 x2.toNatClampNeg : Int32) - (t4_0 x2.toNatClampNeg : Int32) : Int32) - 1 : Int32) : Int32)
                  rw [e30]
                  have l592 : lx592.toInt = (t2_0 x2.toNatClampNeg).toInt - (t4_0 x2.toNatClampNeg).toInt - 1 := by rw [← e30]; exact q_subI (y := 1) emc rfl (by omega) (by omega)
                  unfold S_DR_written_J150 F_DR_written_J150
                  by_cases g31 : (t4_0 x2.toNatClampNeg : Int32) = (0 : Int32)
                  ·
                    rw [if_pos g31, if_pos g31]
                    have g31i := q_eqI g31
                    have h32 := T_DR_figures (x2 := x2) (x3 := lx592) (x4 := (t2_0 x2.toNatClampNeg : Int32)) (x5 := (-1 : Int32)) (t0_0 := (0 : Int32)) (t0_1 := t0_1) (t0_2 := t0_2) (t0_3 := t0_3) (t0_4 := t0_4) (t0_5 := t0_5) (t0_6 := t0_6) (t0_7 := t0_7) (t0_8 := t0_8) (t0_9 := (0 : Int32)) (t0_10 := t0_10) (t1_0 := t1_0) (t2_0 := t2_0) (t3_0 := t5_0) (by with_reducible assumption) m2.1 ⟨(by first | omega | decide), (by first | omega | decide), (by first | omega | decide), (by first | omega | decide)⟩ (by first | omega | decide) (by first | omega | decide) (by first | omega | decide)
                    with_reducible refine v_owe h32.1 ?_
                    replace h32 := h32.2
                    generalize F_DR_figures x2 lx592 (t2_0 x2.toNatClampNeg : Int32) (-1 : Int32) (0 : Int32) t0_1 t0_2 t0_3 t0_4 t0_5 t0_6 t0_7 t0_8 (0 : Int32) t0_10 t1_0 t2_0 t5_0 = p711 at *
                    unfold Q_DR_figures at h32
                    unfold S_DR_written_c164_15 F_DR_written_c164_15
                    refine ⟨trivial, ?_⟩
                    (unfold Q_DR_written; dsimp only; first | omega | exact ⟨by decide, by decide, fun _ => by decide⟩)
                  ·
                    rw [if_neg g31, if_neg g31]
                    have g31i := q_neI g31
                    have h33 := T_DR_figures (x2 := x2) (x3 := lx592) (x4 := (t2_0 x2.toNatClampNeg : Int32)) (x5 := ((t2_0 x2.toNatClampNeg : Int32) - (t4_0 x2.toNatClampNeg : Int32) : Int32)) (t0_0 := (0 : Int32)) (t0_1 := t0_1) (t0_2 := t0_2) (t0_3 := t0_3) (t0_4 := t0_4) (t0_5 := t0_5) (t0_6 := t0_6) (t0_7 := t0_7) (t0_8 := t0_8) (t0_9 := (0 : Int32)) (t0_10 := t0_10) (t1_0 := t1_0) (t2_0 := t2_0) (t3_0 := t5_0) (by with_reducible assumption) m2.1 ⟨(by first | omega | decide), (by first | omega | decide), (by first | omega | decide), (by first | omega | decide)⟩ (by first | omega | decide) (by first | omega | decide) (by first | omega | decide)
                    with_reducible refine v_owe h33.1 ?_
                    replace h33 := h33.2
                    generalize F_DR_figures x2 lx592 (t2_0 x2.toNatClampNeg : Int32) ((t2_0 x2.toNatClampNeg : Int32) - (t4_0 x2.toNatClampNeg : Int32) : Int32) (0 : Int32) t0_1 t0_2 t0_3 t0_4 t0_5 t0_6 t0_7 t0_8 (0 : Int32) t0_10 t1_0 t2_0 t5_0 = p650 at *
                    unfold Q_DR_figures at h33
                    unfold S_DR_written_c164 F_DR_written_c164
                    refine ⟨trivial, ?_⟩
                    (unfold Q_DR_written; dsimp only; first | omega | exact ⟨by decide, by decide, fun _ => by decide⟩)
            ·
              rw [if_neg g8, if_neg g8]
              have g8i := q_nltI g8
              have emc : ((t2_0 x2.toNatClampNeg) - (t4_0 x2.toNatClampNeg) : Int32).toInt = (t2_0 x2.toNatClampNeg).toInt - (t4_0 x2.toNatClampNeg).toInt := q_subI rfl rfl (by omega) (by omega)
              have h34 := R_dz (x2 := x2) (t0_0 := (0 : Int32)) (t0_1 := t0_1) (t0_2 := t0_2) (t0_3 := t0_3) (t0_4 := t0_4) (t0_5 := t0_5) (t0_6 := t0_6) (t0_7 := t0_7) (t0_8 := t0_8) (t0_9 := (0 : Int32)) (t0_10 := t0_10) (t1_0 := t1_0) (by with_reducible assumption)
              with_reducible refine v_owe h34.1 ?_
              by_cases g35 : ((F_DR_isZero x2 (0 : Int32) t0_1 t0_2 t0_3 t0_4 t0_5 t0_6 t0_7 t0_8 (0 : Int32) t0_10 t1_0) : Int32) = (0 : Int32)
              ·
                rw [if_pos g35, if_pos g35]
                try have hdn := g_down3 (a := a117) ⟨by omega, by omega⟩
                try have ed1 : (a117 - F_DR_down3 a117 : Int32).toInt = a117.toInt - (F_DR_down3 a117).toInt := q_subI rfl rfl (by omega) (by omega)
                try have ed2 : (a117 - F_DR_down3 a117 + 1 : Int32).toInt = (a117.toInt - (F_DR_down3 a117).toInt) + 1 := q_addI (y := 1) ed1 (by decide) (by omega) (by omega)
                have h36 := T_DR_figures (x2 := x2) (x3 := (0 : Int32)) (x4 := ((t2_0 x2.toNatClampNeg : Int32) - (t4_0 x2.toNatClampNeg : Int32) : Int32)) (x5 := (-1 : Int32)) (t0_0 := (0 : Int32)) (t0_1 := t0_1) (t0_2 := t0_2) (t0_3 := t0_3) (t0_4 := t0_4) (t0_5 := t0_5) (t0_6 := t0_6) (t0_7 := t0_7) (t0_8 := t0_8) (t0_9 := (0 : Int32)) (t0_10 := t0_10) (t1_0 := t1_0) (t2_0 := t2_0) (t3_0 := t5_0) (by with_reducible assumption) m2.1 ⟨(by first | omega | decide), (by first | omega | decide), (by first | omega | decide), (by first | omega | decide)⟩ (by first | omega | decide) (by first | omega | decide) (by first | omega | decide)
                with_reducible refine v_owe h36.1 ?_
                obtain ⟨a117, e37⟩ := q_nm ((((t2_0 x2.toNatClampNeg : Int32) - 1 : Int32) - (t4_0 x2.toNatClampNeg : Int32) : Int32) : Int32)
                rw [e37]
                have a117i : a117.toInt = (t2_0 x2.toNatClampNeg).toInt - 1 - (t4_0 x2.toNatClampNeg).toInt := by rw [← e37]; exact q_subI (q_subI (y := 1) rfl (by decide) (by omega) (by omega)) rfl (by omega) (by omega)
                replace h36 := h36.2
                generalize F_DR_figures x2 (0 : Int32) ((t2_0 x2.toNatClampNeg : Int32) - (t4_0 x2.toNatClampNeg : Int32) : Int32) (-1 : Int32) (0 : Int32) t0_1 t0_2 t0_3 t0_4 t0_5 t0_6 t0_7 t0_8 (0 : Int32) t0_10 t1_0 t2_0 t5_0 = p802 at *
                unfold Q_DR_figures at h36
                unfold S_DR_written_c107 F_DR_written_c107
                refine ⟨trivial, ?_⟩
                (unfold Q_DR_written; dsimp only; first | omega | exact ⟨by decide, by decide, fun _ => by decide⟩)
              ·
                rw [if_neg g35, if_neg g35]
                try have en : (-a117 : Int32).toInt = -a117.toInt := q_negI rfl (by omega)
                try have hdm := g_down3 (a := -a117) ⟨by omega, by omega⟩
                try have eb : (-(F_DR_down3 (-a117)) : Int32).toInt = -(F_DR_down3 (-a117)).toInt := q_negI rfl (by omega)
                try have ec : (1 + (-(F_DR_down3 (-a117))) : Int32).toInt = 1 + -(F_DR_down3 (-a117)).toInt := q_addI (x := 1) (by decide) eb (by omega) (by omega)
                try have ee : (1 + (-(F_DR_down3 (-a117))) - a117 : Int32).toInt = (1 + -(F_DR_down3 (-a117)).toInt) - a117.toInt := q_subI ec rfl (by omega) (by omega)
                have h38 := T_DR_figures (x2 := x2) (x3 := (0 : Int32)) (x4 := (1 : Int32)) (x5 := (-1 : Int32)) (t0_0 := (0 : Int32)) (t0_1 := t0_1) (t0_2 := t0_2) (t0_3 := t0_3) (t0_4 := t0_4) (t0_5 := t0_5) (t0_6 := t0_6) (t0_7 := t0_7) (t0_8 := t0_8) (t0_9 := (0 : Int32)) (t0_10 := t0_10) (t1_0 := t1_0) (t2_0 := t2_0) (t3_0 := t5_0) (by with_reducible assumption) m2.1 ⟨(by first | omega | decide), (by first | omega | decide), (by first | omega | decide), (by first | omega | decide)⟩ (by first | omega | decide) (by first | omega | decide) (by first | omega | decide)
                with_reducible refine v_owe h38.1 ?_
                obtain ⟨a117, e39⟩ := q_nm ((((t2_0 x2.toNatClampNeg : Int32) - 1 : Int32) - (t4_0 x2.toNatClampNeg : Int32) : Int32) : Int32)
                rw [e39]
                have a117i : a117.toInt = (t2_0 x2.toNatClampNeg).toInt - 1 - (t4_0 x2.toNatClampNeg).toInt := by rw [← e39]; exact q_subI (q_subI (y := 1) rfl (by decide) (by omega) (by omega)) rfl (by omega) (by omega)
                replace h38 := h38.2
                generalize F_DR_figures x2 (0 : Int32) (1 : Int32) (-1 : Int32) (0 : Int32) t0_1 t0_2 t0_3 t0_4 t0_5 t0_6 t0_7 t0_8 (0 : Int32) t0_10 t1_0 t2_0 t5_0 = p863 at *
                unfold Q_DR_figures at h38
                unfold S_DR_written_c107_17 F_DR_written_c107_17
                refine ⟨trivial, ?_⟩
                (unfold Q_DR_written; dsimp only; first | omega | exact ⟨by decide, by decide, fun _ => by decide⟩)
          ·
            rw [if_neg g7, if_neg g7]
            have g7i : x3.toInt ≠ 1 := q_neI g7
            obtain ⟨a117, e40⟩ := q_nm ((((t2_0 x2.toNatClampNeg : Int32) - 1 : Int32) - (t4_0 x2.toNatClampNeg : Int32) : Int32) : Int32)
            rw [e40]
            have a117i : a117.toInt = (t2_0 x2.toNatClampNeg).toInt - 1 - (t4_0 x2.toNatClampNeg).toInt := by rw [← e40]; exact q_subI (q_subI (y := 1) rfl (by decide) (by omega) (by omega)) rfl (by omega) (by omega)
            unfold S_DR_written_J113 F_DR_written_J113
            by_cases g41 : (t4_0 x2.toNatClampNeg : Int32) < (0 : Int32)
            ·
              rw [if_pos g41, if_pos g41]
              have g41i := q_ltI g41
              unfold S_DR_written_J170 F_DR_written_J170
              by_cases g42 : x3 = (0 : Int32)
              ·
                rw [if_pos g42, if_pos g42]
                have g42i : x3.toInt = 0 := q_eqI g42
                have h43 := T_DR_figures (x2 := x2) (x3 := (0 : Int32)) (x4 := (t2_0 x2.toNatClampNeg : Int32)) (x5 := (1 : Int32)) (t0_0 := (0 : Int32)) (t0_1 := t0_1) (t0_2 := t0_2) (t0_3 := t0_3) (t0_4 := t0_4) (t0_5 := t0_5) (t0_6 := t0_6) (t0_7 := t0_7) (t0_8 := t0_8) (t0_9 := (0 : Int32)) (t0_10 := t0_10) (t1_0 := t1_0) (t2_0 := t2_0) (t3_0 := t5_0) (by with_reducible assumption) m2.1 ⟨(by first | omega | decide), (by first | omega | decide), (by first | omega | decide), (by first | omega | decide)⟩ (by first | omega | decide) (by first | omega | decide) (by first | omega | decide)
                with_reducible refine v_owe h43.1 ?_
                replace h43 := h43.2
                generalize F_DR_figures x2 (0 : Int32) (t2_0 x2.toNatClampNeg : Int32) (1 : Int32) (0 : Int32) t0_1 t0_2 t0_3 t0_4 t0_5 t0_6 t0_7 t0_8 (0 : Int32) t0_10 t1_0 t2_0 t5_0 = p496 at *
                unfold Q_DR_figures at h43
                unfold S_DR_written_c179 F_DR_written_c179
                have h44 := T_DR_exponent (x2 := a117) (t0_0 := (p496.1 : Int32)) (t0_1 := (p496.2.1 : Int32)) (t0_2 := (p496.2.2.1 : Int32)) (t0_3 := (p496.2.2.2.1 : Int64)) (t0_4 := (p496.2.2.2.2.1 : Int32)) (t0_5 := (p496.2.2.2.2.2.1 : Int32)) (t0_6 := (p496.2.2.2.2.2.2.1 : Int32)) (t0_7 := (p496.2.2.2.2.2.2.2.1 : Int32)) (t0_8 := (p496.2.2.2.2.2.2.2.2.1 : Int32)) (t0_9 := (p496.2.2.2.2.2.2.2.2.2.1 : Int32)) (t0_10 := (p496.2.2.2.2.2.2.2.2.2.2.1 : Int32)) (t1_0 := (p496.2.2.2.2.2.2.2.2.2.2.2 : (Nat → Int32))) ⟨(by first | omega | decide), (by first | omega | decide)⟩ ⟨(by first | omega | decide), (by first | omega | decide)⟩
                with_reducible refine v_owe h44.1 ?_
                replace h44 := h44.2
                generalize F_DR_exponent a117 (p496.1 : Int32) (p496.2.1 : Int32) (p496.2.2.1 : Int32) (p496.2.2.2.1 : Int64) (p496.2.2.2.2.1 : Int32) (p496.2.2.2.2.2.1 : Int32) (p496.2.2.2.2.2.2.1 : Int32) (p496.2.2.2.2.2.2.2.1 : Int32) (p496.2.2.2.2.2.2.2.2.1 : Int32) (p496.2.2.2.2.2.2.2.2.2.1 : Int32) (p496.2.2.2.2.2.2.2.2.2.2.1 : Int32) (p496.2.2.2.2.2.2.2.2.2.2.2 : (Nat → Int32)) = p556 at *
                unfold Q_DR_exponent at h44
                unfold S_DR_written_c185 F_DR_written_c185
                refine ⟨trivial, ?_⟩
                (unfold Q_DR_written; dsimp only; first | omega | exact ⟨by decide, by decide, fun _ => by decide⟩)
              ·
                rw [if_neg g42, if_neg g42]
                have g42i : x3.toInt ≠ 0 := q_neI g42
                have h45 := R_dz (x2 := x2) (t0_0 := (0 : Int32)) (t0_1 := t0_1) (t0_2 := t0_2) (t0_3 := t0_3) (t0_4 := t0_4) (t0_5 := t0_5) (t0_6 := t0_6) (t0_7 := t0_7) (t0_8 := t0_8) (t0_9 := (0 : Int32)) (t0_10 := t0_10) (t1_0 := t1_0) (by with_reducible assumption)
                with_reducible refine v_owe h45.1 ?_
                by_cases g46 : ((F_DR_isZero x2 (0 : Int32) t0_1 t0_2 t0_3 t0_4 t0_5 t0_6 t0_7 t0_8 (0 : Int32) t0_10 t1_0) : Int32) = (0 : Int32)
                ·
                  rw [if_pos g46, if_pos g46]
                  try have hdn := g_down3 (a := a117) ⟨by omega, by omega⟩
                  try have ed1 : (a117 - F_DR_down3 a117 : Int32).toInt = a117.toInt - (F_DR_down3 a117).toInt := q_subI rfl rfl (by omega) (by omega)
                  try have ed2 : (a117 - F_DR_down3 a117 + 1 : Int32).toInt = (a117.toInt - (F_DR_down3 a117).toInt) + 1 := q_addI (y := 1) ed1 (by decide) (by omega) (by omega)
                  by_cases g47 : (t2_0 x2.toNatClampNeg : Int32) ≤ ((a117 - ((F_DR_down3 a117) : Int32) : Int32) + 1 : Int32)
                  ·
                    rw [if_pos g47, if_pos g47]
                    have g47i := q_leI g47
                    unfold S_DR_written_J268 F_DR_written_J268
                    have h48 := T_DR_figures (x2 := x2) (x3 := (0 : Int32)) (x4 := ((a117 - ((F_DR_down3 a117) : Int32) : Int32) + 1 : Int32)) (x5 := ((a117 - ((F_DR_down3 a117) : Int32) : Int32) + 1 : Int32)) (t0_0 := (0 : Int32)) (t0_1 := t0_1) (t0_2 := t0_2) (t0_3 := t0_3) (t0_4 := t0_4) (t0_5 := t0_5) (t0_6 := t0_6) (t0_7 := t0_7) (t0_8 := t0_8) (t0_9 := (0 : Int32)) (t0_10 := t0_10) (t1_0 := t1_0) (t2_0 := t2_0) (t3_0 := t5_0) (by with_reducible assumption) m2.1 ⟨(by first | omega | decide), (by first | omega | decide), (by first | omega | decide), (by first | omega | decide)⟩ (by first | omega | decide) (by first | omega | decide) (by first | omega | decide)
                    with_reducible refine v_owe h48.1 ?_
                    replace h48 := h48.2
                    generalize F_DR_figures x2 (0 : Int32) ((a117 - ((F_DR_down3 a117) : Int32) : Int32) + 1 : Int32) ((a117 - ((F_DR_down3 a117) : Int32) : Int32) + 1 : Int32) (0 : Int32) t0_1 t0_2 t0_3 t0_4 t0_5 t0_6 t0_7 t0_8 (0 : Int32) t0_10 t1_0 t2_0 t5_0 = p224 at *
                    unfold Q_DR_figures at h48
                    unfold S_DR_written_c275 F_DR_written_c275
                    by_cases g49 : ((F_DR_down3 a117) : Int32) = (0 : Int32)
                    ·
                      rw [if_pos g49, if_pos g49]
                      refine ⟨trivial, ?_⟩
                      (unfold Q_DR_written; dsimp only; first | omega | exact ⟨by decide, by decide, fun _ => by decide⟩)
                    ·
                      rw [if_neg g49, if_neg g49]
                      have h50 := T_DR_exponent (x2 := ((F_DR_down3 a117) : Int32)) (t0_0 := (p224.1 : Int32)) (t0_1 := (p224.2.1 : Int32)) (t0_2 := (p224.2.2.1 : Int32)) (t0_3 := (p224.2.2.2.1 : Int64)) (t0_4 := (p224.2.2.2.2.1 : Int32)) (t0_5 := (p224.2.2.2.2.2.1 : Int32)) (t0_6 := (p224.2.2.2.2.2.2.1 : Int32)) (t0_7 := (p224.2.2.2.2.2.2.2.1 : Int32)) (t0_8 := (p224.2.2.2.2.2.2.2.2.1 : Int32)) (t0_9 := (p224.2.2.2.2.2.2.2.2.2.1 : Int32)) (t0_10 := (p224.2.2.2.2.2.2.2.2.2.2.1 : Int32)) (t1_0 := (p224.2.2.2.2.2.2.2.2.2.2.2 : (Nat → Int32))) ⟨(by first | omega | decide), (by first | omega | decide)⟩ ⟨(by first | omega | decide), (by first | omega | decide)⟩
                      with_reducible refine v_owe h50.1 ?_
                      replace h50 := h50.2
                      generalize F_DR_exponent ((F_DR_down3 a117) : Int32) (p224.1 : Int32) (p224.2.1 : Int32) (p224.2.2.1 : Int32) (p224.2.2.2.1 : Int64) (p224.2.2.2.2.1 : Int32) (p224.2.2.2.2.2.1 : Int32) (p224.2.2.2.2.2.2.1 : Int32) (p224.2.2.2.2.2.2.2.1 : Int32) (p224.2.2.2.2.2.2.2.2.1 : Int32) (p224.2.2.2.2.2.2.2.2.2.1 : Int32) (p224.2.2.2.2.2.2.2.2.2.2.1 : Int32) (p224.2.2.2.2.2.2.2.2.2.2.2 : (Nat → Int32)) = p287 at *
                      unfold Q_DR_exponent at h50
                      unfold S_DR_written_c286 F_DR_written_c286
                      refine ⟨trivial, ?_⟩
                      (unfold Q_DR_written; dsimp only; first | omega | exact ⟨by decide, by decide, fun _ => by decide⟩)
                  ·
                    rw [if_neg g47, if_neg g47]
                    have g47i := q_nleI g47
                    unfold S_DR_written_J268 F_DR_written_J268
                    have h51 := T_DR_figures (x2 := x2) (x3 := (0 : Int32)) (x4 := (t2_0 x2.toNatClampNeg : Int32)) (x5 := ((a117 - ((F_DR_down3 a117) : Int32) : Int32) + 1 : Int32)) (t0_0 := (0 : Int32)) (t0_1 := t0_1) (t0_2 := t0_2) (t0_3 := t0_3) (t0_4 := t0_4) (t0_5 := t0_5) (t0_6 := t0_6) (t0_7 := t0_7) (t0_8 := t0_8) (t0_9 := (0 : Int32)) (t0_10 := t0_10) (t1_0 := t1_0) (t2_0 := t2_0) (t3_0 := t5_0) (by with_reducible assumption) m2.1 ⟨(by first | omega | decide), (by first | omega | decide), (by first | omega | decide), (by first | omega | decide)⟩ (by first | omega | decide) (by first | omega | decide) (by first | omega | decide)
                    with_reducible refine v_owe h51.1 ?_
                    replace h51 := h51.2
                    generalize F_DR_figures x2 (0 : Int32) (t2_0 x2.toNatClampNeg : Int32) ((a117 - ((F_DR_down3 a117) : Int32) : Int32) + 1 : Int32) (0 : Int32) t0_1 t0_2 t0_3 t0_4 t0_5 t0_6 t0_7 t0_8 (0 : Int32) t0_10 t1_0 t2_0 t5_0 = p224 at *
                    unfold Q_DR_figures at h51
                    unfold S_DR_written_c275 F_DR_written_c275
                    by_cases g52 : ((F_DR_down3 a117) : Int32) = (0 : Int32)
                    ·
                      rw [if_pos g52, if_pos g52]
                      refine ⟨trivial, ?_⟩
                      (unfold Q_DR_written; dsimp only; first | omega | exact ⟨by decide, by decide, fun _ => by decide⟩)
                    ·
                      rw [if_neg g52, if_neg g52]
                      have h53 := T_DR_exponent (x2 := ((F_DR_down3 a117) : Int32)) (t0_0 := (p224.1 : Int32)) (t0_1 := (p224.2.1 : Int32)) (t0_2 := (p224.2.2.1 : Int32)) (t0_3 := (p224.2.2.2.1 : Int64)) (t0_4 := (p224.2.2.2.2.1 : Int32)) (t0_5 := (p224.2.2.2.2.2.1 : Int32)) (t0_6 := (p224.2.2.2.2.2.2.1 : Int32)) (t0_7 := (p224.2.2.2.2.2.2.2.1 : Int32)) (t0_8 := (p224.2.2.2.2.2.2.2.2.1 : Int32)) (t0_9 := (p224.2.2.2.2.2.2.2.2.2.1 : Int32)) (t0_10 := (p224.2.2.2.2.2.2.2.2.2.2.1 : Int32)) (t1_0 := (p224.2.2.2.2.2.2.2.2.2.2.2 : (Nat → Int32))) ⟨(by first | omega | decide), (by first | omega | decide)⟩ ⟨(by first | omega | decide), (by first | omega | decide)⟩
                      with_reducible refine v_owe h53.1 ?_
                      replace h53 := h53.2
                      generalize F_DR_exponent ((F_DR_down3 a117) : Int32) (p224.1 : Int32) (p224.2.1 : Int32) (p224.2.2.1 : Int32) (p224.2.2.2.1 : Int64) (p224.2.2.2.2.1 : Int32) (p224.2.2.2.2.2.1 : Int32) (p224.2.2.2.2.2.2.1 : Int32) (p224.2.2.2.2.2.2.2.1 : Int32) (p224.2.2.2.2.2.2.2.2.1 : Int32) (p224.2.2.2.2.2.2.2.2.2.1 : Int32) (p224.2.2.2.2.2.2.2.2.2.2.1 : Int32) (p224.2.2.2.2.2.2.2.2.2.2.2 : (Nat → Int32)) = p287 at *
                      unfold Q_DR_exponent at h53
                      unfold S_DR_written_c286 F_DR_written_c286
                      refine ⟨trivial, ?_⟩
                      (unfold Q_DR_written; dsimp only; first | omega | exact ⟨by decide, by decide, fun _ => by decide⟩)
                ·
                  rw [if_neg g46, if_neg g46]
                  try have en : (-a117 : Int32).toInt = -a117.toInt := q_negI rfl (by omega)
                  try have hdm := g_down3 (a := -a117) ⟨by omega, by omega⟩
                  try have eb : (-(F_DR_down3 (-a117)) : Int32).toInt = -(F_DR_down3 (-a117)).toInt := q_negI rfl (by omega)
                  try have ec : (1 + (-(F_DR_down3 (-a117))) : Int32).toInt = 1 + -(F_DR_down3 (-a117)).toInt := q_addI (x := 1) (by decide) eb (by omega) (by omega)
                  try have ee : (1 + (-(F_DR_down3 (-a117))) - a117 : Int32).toInt = (1 + -(F_DR_down3 (-a117)).toInt) - a117.toInt := q_subI ec rfl (by omega) (by omega)
                  have h54 := T_DR_figures (x2 := x2) (x3 := (0 : Int32)) (x4 := ((1 + (-((F_DR_down3 (-a117 : Int32)) : Int32) : Int32) : Int32) - a117 : Int32)) (x5 := (1 : Int32)) (t0_0 := (0 : Int32)) (t0_1 := t0_1) (t0_2 := t0_2) (t0_3 := t0_3) (t0_4 := t0_4) (t0_5 := t0_5) (t0_6 := t0_6) (t0_7 := t0_7) (t0_8 := t0_8) (t0_9 := (0 : Int32)) (t0_10 := t0_10) (t1_0 := t1_0) (t2_0 := t2_0) (t3_0 := t5_0) (by with_reducible assumption) m2.1 ⟨(by first | omega | decide), (by first | omega | decide), (by first | omega | decide), (by first | omega | decide)⟩ (by first | omega | decide) (by first | omega | decide) (by first | omega | decide)
                  with_reducible refine v_owe h54.1 ?_
                  replace h54 := h54.2
                  generalize F_DR_figures x2 (0 : Int32) ((1 + (-((F_DR_down3 (-a117 : Int32)) : Int32) : Int32) : Int32) - a117 : Int32) (1 : Int32) (0 : Int32) t0_1 t0_2 t0_3 t0_4 t0_5 t0_6 t0_7 t0_8 (0 : Int32) t0_10 t1_0 t2_0 t5_0 = p372 at *
                  unfold Q_DR_figures at h54
                  unfold S_DR_written_c219 F_DR_written_c219
                  by_cases g55 : (-((F_DR_down3 (-a117 : Int32)) : Int32) : Int32) = (0 : Int32)
                  ·
                    rw [if_pos g55, if_pos g55]
                    refine ⟨trivial, ?_⟩
                    (unfold Q_DR_written; dsimp only; first | omega | exact ⟨by decide, by decide, fun _ => by decide⟩)
                  ·
                    rw [if_neg g55, if_neg g55]
                    have h56 := T_DR_exponent (x2 := (-((F_DR_down3 (-a117 : Int32)) : Int32) : Int32)) (t0_0 := (p372.1 : Int32)) (t0_1 := (p372.2.1 : Int32)) (t0_2 := (p372.2.2.1 : Int32)) (t0_3 := (p372.2.2.2.1 : Int64)) (t0_4 := (p372.2.2.2.2.1 : Int32)) (t0_5 := (p372.2.2.2.2.2.1 : Int32)) (t0_6 := (p372.2.2.2.2.2.2.1 : Int32)) (t0_7 := (p372.2.2.2.2.2.2.2.1 : Int32)) (t0_8 := (p372.2.2.2.2.2.2.2.2.1 : Int32)) (t0_9 := (p372.2.2.2.2.2.2.2.2.2.1 : Int32)) (t0_10 := (p372.2.2.2.2.2.2.2.2.2.2.1 : Int32)) (t1_0 := (p372.2.2.2.2.2.2.2.2.2.2.2 : (Nat → Int32))) ⟨(by first | omega | decide), (by first | omega | decide)⟩ ⟨(by first | omega | decide), (by first | omega | decide)⟩
                    with_reducible refine v_owe h56.1 ?_
                    replace h56 := h56.2
                    generalize F_DR_exponent (-((F_DR_down3 (-a117 : Int32)) : Int32) : Int32) (p372.1 : Int32) (p372.2.1 : Int32) (p372.2.2.1 : Int32) (p372.2.2.2.1 : Int64) (p372.2.2.2.2.1 : Int32) (p372.2.2.2.2.2.1 : Int32) (p372.2.2.2.2.2.2.1 : Int32) (p372.2.2.2.2.2.2.2.1 : Int32) (p372.2.2.2.2.2.2.2.2.1 : Int32) (p372.2.2.2.2.2.2.2.2.2.1 : Int32) (p372.2.2.2.2.2.2.2.2.2.2.1 : Int32) (p372.2.2.2.2.2.2.2.2.2.2.2 : (Nat → Int32)) = p435 at *
                    unfold Q_DR_exponent at h56
                    unfold S_DR_written_c230 F_DR_written_c230
                    refine ⟨trivial, ?_⟩
                    (unfold Q_DR_written; dsimp only; first | omega | exact ⟨by decide, by decide, fun _ => by decide⟩)
            ·
              rw [if_neg g41, if_neg g41]
              have g41i := q_nltI g41
              rw [if_neg g7, if_neg g7]
              by_cases g57 : a117 < (-6 : Int32)
              ·
                rw [if_pos g57, if_pos g57]
                have g57i : a117.toInt < -6 := q_ltI g57
                unfold S_DR_written_J170 F_DR_written_J170
                by_cases g58 : x3 = (0 : Int32)
                ·
                  rw [if_pos g58, if_pos g58]
                  have g58i : x3.toInt = 0 := q_eqI g58
                  have h59 := T_DR_figures (x2 := x2) (x3 := (0 : Int32)) (x4 := (t2_0 x2.toNatClampNeg : Int32)) (x5 := (1 : Int32)) (t0_0 := (0 : Int32)) (t0_1 := t0_1) (t0_2 := t0_2) (t0_3 := t0_3) (t0_4 := t0_4) (t0_5 := t0_5) (t0_6 := t0_6) (t0_7 := t0_7) (t0_8 := t0_8) (t0_9 := (0 : Int32)) (t0_10 := t0_10) (t1_0 := t1_0) (t2_0 := t2_0) (t3_0 := t5_0) (by with_reducible assumption) m2.1 ⟨(by first | omega | decide), (by first | omega | decide), (by first | omega | decide), (by first | omega | decide)⟩ (by first | omega | decide) (by first | omega | decide) (by first | omega | decide)
                  with_reducible refine v_owe h59.1 ?_
                  replace h59 := h59.2
                  generalize F_DR_figures x2 (0 : Int32) (t2_0 x2.toNatClampNeg : Int32) (1 : Int32) (0 : Int32) t0_1 t0_2 t0_3 t0_4 t0_5 t0_6 t0_7 t0_8 (0 : Int32) t0_10 t1_0 t2_0 t5_0 = p496 at *
                  unfold Q_DR_figures at h59
                  unfold S_DR_written_c179 F_DR_written_c179
                  have h60 := T_DR_exponent (x2 := a117) (t0_0 := (p496.1 : Int32)) (t0_1 := (p496.2.1 : Int32)) (t0_2 := (p496.2.2.1 : Int32)) (t0_3 := (p496.2.2.2.1 : Int64)) (t0_4 := (p496.2.2.2.2.1 : Int32)) (t0_5 := (p496.2.2.2.2.2.1 : Int32)) (t0_6 := (p496.2.2.2.2.2.2.1 : Int32)) (t0_7 := (p496.2.2.2.2.2.2.2.1 : Int32)) (t0_8 := (p496.2.2.2.2.2.2.2.2.1 : Int32)) (t0_9 := (p496.2.2.2.2.2.2.2.2.2.1 : Int32)) (t0_10 := (p496.2.2.2.2.2.2.2.2.2.2.1 : Int32)) (t1_0 := (p496.2.2.2.2.2.2.2.2.2.2.2 : (Nat → Int32))) ⟨(by first | omega | decide), (by first | omega | decide)⟩ ⟨(by first | omega | decide), (by first | omega | decide)⟩
                  with_reducible refine v_owe h60.1 ?_
                  replace h60 := h60.2
                  generalize F_DR_exponent a117 (p496.1 : Int32) (p496.2.1 : Int32) (p496.2.2.1 : Int32) (p496.2.2.2.1 : Int64) (p496.2.2.2.2.1 : Int32) (p496.2.2.2.2.2.1 : Int32) (p496.2.2.2.2.2.2.1 : Int32) (p496.2.2.2.2.2.2.2.1 : Int32) (p496.2.2.2.2.2.2.2.2.1 : Int32) (p496.2.2.2.2.2.2.2.2.2.1 : Int32) (p496.2.2.2.2.2.2.2.2.2.2.1 : Int32) (p496.2.2.2.2.2.2.2.2.2.2.2 : (Nat → Int32)) = p556 at *
                  unfold Q_DR_exponent at h60
                  unfold S_DR_written_c185 F_DR_written_c185
                  refine ⟨trivial, ?_⟩
                  (unfold Q_DR_written; dsimp only; first | omega | exact ⟨by decide, by decide, fun _ => by decide⟩)
                ·
                  rw [if_neg g58, if_neg g58]
                  have g58i : x3.toInt ≠ 0 := q_neI g58
                  have h61 := R_dz (x2 := x2) (t0_0 := (0 : Int32)) (t0_1 := t0_1) (t0_2 := t0_2) (t0_3 := t0_3) (t0_4 := t0_4) (t0_5 := t0_5) (t0_6 := t0_6) (t0_7 := t0_7) (t0_8 := t0_8) (t0_9 := (0 : Int32)) (t0_10 := t0_10) (t1_0 := t1_0) (by with_reducible assumption)
                  with_reducible refine v_owe h61.1 ?_
                  by_cases g62 : ((F_DR_isZero x2 (0 : Int32) t0_1 t0_2 t0_3 t0_4 t0_5 t0_6 t0_7 t0_8 (0 : Int32) t0_10 t1_0) : Int32) = (0 : Int32)
                  ·
                    rw [if_pos g62, if_pos g62]
                    try have hdn := g_down3 (a := a117) ⟨by omega, by omega⟩
                    try have ed1 : (a117 - F_DR_down3 a117 : Int32).toInt = a117.toInt - (F_DR_down3 a117).toInt := q_subI rfl rfl (by omega) (by omega)
                    try have ed2 : (a117 - F_DR_down3 a117 + 1 : Int32).toInt = (a117.toInt - (F_DR_down3 a117).toInt) + 1 := q_addI (y := 1) ed1 (by decide) (by omega) (by omega)
                    by_cases g63 : (t2_0 x2.toNatClampNeg : Int32) ≤ ((a117 - ((F_DR_down3 a117) : Int32) : Int32) + 1 : Int32)
                    ·
                      rw [if_pos g63, if_pos g63]
                      have g63i := q_leI g63
                      unfold S_DR_written_J268 F_DR_written_J268
                      have h64 := T_DR_figures (x2 := x2) (x3 := (0 : Int32)) (x4 := ((a117 - ((F_DR_down3 a117) : Int32) : Int32) + 1 : Int32)) (x5 := ((a117 - ((F_DR_down3 a117) : Int32) : Int32) + 1 : Int32)) (t0_0 := (0 : Int32)) (t0_1 := t0_1) (t0_2 := t0_2) (t0_3 := t0_3) (t0_4 := t0_4) (t0_5 := t0_5) (t0_6 := t0_6) (t0_7 := t0_7) (t0_8 := t0_8) (t0_9 := (0 : Int32)) (t0_10 := t0_10) (t1_0 := t1_0) (t2_0 := t2_0) (t3_0 := t5_0) (by with_reducible assumption) m2.1 ⟨(by first | omega | decide), (by first | omega | decide), (by first | omega | decide), (by first | omega | decide)⟩ (by first | omega | decide) (by first | omega | decide) (by first | omega | decide)
                      with_reducible refine v_owe h64.1 ?_
                      replace h64 := h64.2
                      generalize F_DR_figures x2 (0 : Int32) ((a117 - ((F_DR_down3 a117) : Int32) : Int32) + 1 : Int32) ((a117 - ((F_DR_down3 a117) : Int32) : Int32) + 1 : Int32) (0 : Int32) t0_1 t0_2 t0_3 t0_4 t0_5 t0_6 t0_7 t0_8 (0 : Int32) t0_10 t1_0 t2_0 t5_0 = p224 at *
                      unfold Q_DR_figures at h64
                      unfold S_DR_written_c275 F_DR_written_c275
                      by_cases g65 : ((F_DR_down3 a117) : Int32) = (0 : Int32)
                      ·
                        rw [if_pos g65, if_pos g65]
                        refine ⟨trivial, ?_⟩
                        (unfold Q_DR_written; dsimp only; first | omega | exact ⟨by decide, by decide, fun _ => by decide⟩)
                      ·
                        rw [if_neg g65, if_neg g65]
                        have h66 := T_DR_exponent (x2 := ((F_DR_down3 a117) : Int32)) (t0_0 := (p224.1 : Int32)) (t0_1 := (p224.2.1 : Int32)) (t0_2 := (p224.2.2.1 : Int32)) (t0_3 := (p224.2.2.2.1 : Int64)) (t0_4 := (p224.2.2.2.2.1 : Int32)) (t0_5 := (p224.2.2.2.2.2.1 : Int32)) (t0_6 := (p224.2.2.2.2.2.2.1 : Int32)) (t0_7 := (p224.2.2.2.2.2.2.2.1 : Int32)) (t0_8 := (p224.2.2.2.2.2.2.2.2.1 : Int32)) (t0_9 := (p224.2.2.2.2.2.2.2.2.2.1 : Int32)) (t0_10 := (p224.2.2.2.2.2.2.2.2.2.2.1 : Int32)) (t1_0 := (p224.2.2.2.2.2.2.2.2.2.2.2 : (Nat → Int32))) ⟨(by first | omega | decide), (by first | omega | decide)⟩ ⟨(by first | omega | decide), (by first | omega | decide)⟩
                        with_reducible refine v_owe h66.1 ?_
                        replace h66 := h66.2
                        generalize F_DR_exponent ((F_DR_down3 a117) : Int32) (p224.1 : Int32) (p224.2.1 : Int32) (p224.2.2.1 : Int32) (p224.2.2.2.1 : Int64) (p224.2.2.2.2.1 : Int32) (p224.2.2.2.2.2.1 : Int32) (p224.2.2.2.2.2.2.1 : Int32) (p224.2.2.2.2.2.2.2.1 : Int32) (p224.2.2.2.2.2.2.2.2.1 : Int32) (p224.2.2.2.2.2.2.2.2.2.1 : Int32) (p224.2.2.2.2.2.2.2.2.2.2.1 : Int32) (p224.2.2.2.2.2.2.2.2.2.2.2 : (Nat → Int32)) = p287 at *
                        unfold Q_DR_exponent at h66
                        unfold S_DR_written_c286 F_DR_written_c286
                        refine ⟨trivial, ?_⟩
                        (unfold Q_DR_written; dsimp only; first | omega | exact ⟨by decide, by decide, fun _ => by decide⟩)
                    ·
                      rw [if_neg g63, if_neg g63]
                      have g63i := q_nleI g63
                      unfold S_DR_written_J268 F_DR_written_J268
                      have h67 := T_DR_figures (x2 := x2) (x3 := (0 : Int32)) (x4 := (t2_0 x2.toNatClampNeg : Int32)) (x5 := ((a117 - ((F_DR_down3 a117) : Int32) : Int32) + 1 : Int32)) (t0_0 := (0 : Int32)) (t0_1 := t0_1) (t0_2 := t0_2) (t0_3 := t0_3) (t0_4 := t0_4) (t0_5 := t0_5) (t0_6 := t0_6) (t0_7 := t0_7) (t0_8 := t0_8) (t0_9 := (0 : Int32)) (t0_10 := t0_10) (t1_0 := t1_0) (t2_0 := t2_0) (t3_0 := t5_0) (by with_reducible assumption) m2.1 ⟨(by first | omega | decide), (by first | omega | decide), (by first | omega | decide), (by first | omega | decide)⟩ (by first | omega | decide) (by first | omega | decide) (by first | omega | decide)
                      with_reducible refine v_owe h67.1 ?_
                      replace h67 := h67.2
                      generalize F_DR_figures x2 (0 : Int32) (t2_0 x2.toNatClampNeg : Int32) ((a117 - ((F_DR_down3 a117) : Int32) : Int32) + 1 : Int32) (0 : Int32) t0_1 t0_2 t0_3 t0_4 t0_5 t0_6 t0_7 t0_8 (0 : Int32) t0_10 t1_0 t2_0 t5_0 = p224 at *
                      unfold Q_DR_figures at h67
                      unfold S_DR_written_c275 F_DR_written_c275
                      by_cases g68 : ((F_DR_down3 a117) : Int32) = (0 : Int32)
                      ·
                        rw [if_pos g68, if_pos g68]
                        refine ⟨trivial, ?_⟩
                        (unfold Q_DR_written; dsimp only; first | omega | exact ⟨by decide, by decide, fun _ => by decide⟩)
                      ·
                        rw [if_neg g68, if_neg g68]
                        have h69 := T_DR_exponent (x2 := ((F_DR_down3 a117) : Int32)) (t0_0 := (p224.1 : Int32)) (t0_1 := (p224.2.1 : Int32)) (t0_2 := (p224.2.2.1 : Int32)) (t0_3 := (p224.2.2.2.1 : Int64)) (t0_4 := (p224.2.2.2.2.1 : Int32)) (t0_5 := (p224.2.2.2.2.2.1 : Int32)) (t0_6 := (p224.2.2.2.2.2.2.1 : Int32)) (t0_7 := (p224.2.2.2.2.2.2.2.1 : Int32)) (t0_8 := (p224.2.2.2.2.2.2.2.2.1 : Int32)) (t0_9 := (p224.2.2.2.2.2.2.2.2.2.1 : Int32)) (t0_10 := (p224.2.2.2.2.2.2.2.2.2.2.1 : Int32)) (t1_0 := (p224.2.2.2.2.2.2.2.2.2.2.2 : (Nat → Int32))) ⟨(by first | omega | decide), (by first | omega | decide)⟩ ⟨(by first | omega | decide), (by first | omega | decide)⟩
                        with_reducible refine v_owe h69.1 ?_
                        replace h69 := h69.2
                        generalize F_DR_exponent ((F_DR_down3 a117) : Int32) (p224.1 : Int32) (p224.2.1 : Int32) (p224.2.2.1 : Int32) (p224.2.2.2.1 : Int64) (p224.2.2.2.2.1 : Int32) (p224.2.2.2.2.2.1 : Int32) (p224.2.2.2.2.2.2.1 : Int32) (p224.2.2.2.2.2.2.2.1 : Int32) (p224.2.2.2.2.2.2.2.2.1 : Int32) (p224.2.2.2.2.2.2.2.2.2.1 : Int32) (p224.2.2.2.2.2.2.2.2.2.2.1 : Int32) (p224.2.2.2.2.2.2.2.2.2.2.2 : (Nat → Int32)) = p287 at *
                        unfold Q_DR_exponent at h69
                        unfold S_DR_written_c286 F_DR_written_c286
                        refine ⟨trivial, ?_⟩
                        (unfold Q_DR_written; dsimp only; first | omega | exact ⟨by decide, by decide, fun _ => by decide⟩)
                  ·
                    rw [if_neg g62, if_neg g62]
                    try have en : (-a117 : Int32).toInt = -a117.toInt := q_negI rfl (by omega)
                    try have hdm := g_down3 (a := -a117) ⟨by omega, by omega⟩
                    try have eb : (-(F_DR_down3 (-a117)) : Int32).toInt = -(F_DR_down3 (-a117)).toInt := q_negI rfl (by omega)
                    try have ec : (1 + (-(F_DR_down3 (-a117))) : Int32).toInt = 1 + -(F_DR_down3 (-a117)).toInt := q_addI (x := 1) (by decide) eb (by omega) (by omega)
                    try have ee : (1 + (-(F_DR_down3 (-a117))) - a117 : Int32).toInt = (1 + -(F_DR_down3 (-a117)).toInt) - a117.toInt := q_subI ec rfl (by omega) (by omega)
                    have h70 := T_DR_figures (x2 := x2) (x3 := (0 : Int32)) (x4 := ((1 + (-((F_DR_down3 (-a117 : Int32)) : Int32) : Int32) : Int32) - a117 : Int32)) (x5 := (1 : Int32)) (t0_0 := (0 : Int32)) (t0_1 := t0_1) (t0_2 := t0_2) (t0_3 := t0_3) (t0_4 := t0_4) (t0_5 := t0_5) (t0_6 := t0_6) (t0_7 := t0_7) (t0_8 := t0_8) (t0_9 := (0 : Int32)) (t0_10 := t0_10) (t1_0 := t1_0) (t2_0 := t2_0) (t3_0 := t5_0) (by with_reducible assumption) m2.1 ⟨(by first | omega | decide), (by first | omega | decide), (by first | omega | decide), (by first | omega | decide)⟩ (by first | omega | decide) (by first | omega | decide) (by first | omega | decide)
                    with_reducible refine v_owe h70.1 ?_
                    replace h70 := h70.2
                    generalize F_DR_figures x2 (0 : Int32) ((1 + (-((F_DR_down3 (-a117 : Int32)) : Int32) : Int32) : Int32) - a117 : Int32) (1 : Int32) (0 : Int32) t0_1 t0_2 t0_3 t0_4 t0_5 t0_6 t0_7 t0_8 (0 : Int32) t0_10 t1_0 t2_0 t5_0 = p372 at *
                    unfold Q_DR_figures at h70
                    unfold S_DR_written_c219 F_DR_written_c219
                    by_cases g71 : (-((F_DR_down3 (-a117 : Int32)) : Int32) : Int32) = (0 : Int32)
                    ·
                      rw [if_pos g71, if_pos g71]
                      refine ⟨trivial, ?_⟩
                      (unfold Q_DR_written; dsimp only; first | omega | exact ⟨by decide, by decide, fun _ => by decide⟩)
                    ·
                      rw [if_neg g71, if_neg g71]
                      have h72 := T_DR_exponent (x2 := (-((F_DR_down3 (-a117 : Int32)) : Int32) : Int32)) (t0_0 := (p372.1 : Int32)) (t0_1 := (p372.2.1 : Int32)) (t0_2 := (p372.2.2.1 : Int32)) (t0_3 := (p372.2.2.2.1 : Int64)) (t0_4 := (p372.2.2.2.2.1 : Int32)) (t0_5 := (p372.2.2.2.2.2.1 : Int32)) (t0_6 := (p372.2.2.2.2.2.2.1 : Int32)) (t0_7 := (p372.2.2.2.2.2.2.2.1 : Int32)) (t0_8 := (p372.2.2.2.2.2.2.2.2.1 : Int32)) (t0_9 := (p372.2.2.2.2.2.2.2.2.2.1 : Int32)) (t0_10 := (p372.2.2.2.2.2.2.2.2.2.2.1 : Int32)) (t1_0 := (p372.2.2.2.2.2.2.2.2.2.2.2 : (Nat → Int32))) ⟨(by first | omega | decide), (by first | omega | decide)⟩ ⟨(by first | omega | decide), (by first | omega | decide)⟩
                      with_reducible refine v_owe h72.1 ?_
                      replace h72 := h72.2
                      generalize F_DR_exponent (-((F_DR_down3 (-a117 : Int32)) : Int32) : Int32) (p372.1 : Int32) (p372.2.1 : Int32) (p372.2.2.1 : Int32) (p372.2.2.2.1 : Int64) (p372.2.2.2.2.1 : Int32) (p372.2.2.2.2.2.1 : Int32) (p372.2.2.2.2.2.2.1 : Int32) (p372.2.2.2.2.2.2.2.1 : Int32) (p372.2.2.2.2.2.2.2.2.1 : Int32) (p372.2.2.2.2.2.2.2.2.2.1 : Int32) (p372.2.2.2.2.2.2.2.2.2.2.1 : Int32) (p372.2.2.2.2.2.2.2.2.2.2.2 : (Nat → Int32)) = p435 at *
                      unfold Q_DR_exponent at h72
                      unfold S_DR_written_c230 F_DR_written_c230
                      refine ⟨trivial, ?_⟩
                      (unfold Q_DR_written; dsimp only; first | omega | exact ⟨by decide, by decide, fun _ => by decide⟩)
              ·
                rw [if_neg g57, if_neg g57]
                have g57i : -6 ≤ a117.toInt := q_nltI g57
                unfold S_DR_written_J130 F_DR_written_J130
                by_cases g73 : (1 : Int32) ≤ ((t2_0 x2.toNatClampNeg : Int32) - (t4_0 x2.toNatClampNeg : Int32) : Int32)
                ·
                  rw [if_pos g73, if_pos g73]
                  have emc : ((t2_0 x2.toNatClampNeg) - (t4_0 x2.toNatClampNeg) : Int32).toInt = (t2_0 x2.toNatClampNeg).toInt - (t4_0 x2.toNatClampNeg).toInt := q_subI rfl rfl (by omega) (by omega)
                  have g73i := q_leI g73
                  unfold S_DR_written_J150 F_DR_written_J150
                  by_cases g74 : (t4_0 x2.toNatClampNeg : Int32) = (0 : Int32)
                  ·
                    rw [if_pos g74, if_pos g74]
                    have g74i := q_eqI g74
                    have h75 := T_DR_figures (x2 := x2) (x3 := (0 : Int32)) (x4 := (t2_0 x2.toNatClampNeg : Int32)) (x5 := (-1 : Int32)) (t0_0 := (0 : Int32)) (t0_1 := t0_1) (t0_2 := t0_2) (t0_3 := t0_3) (t0_4 := t0_4) (t0_5 := t0_5) (t0_6 := t0_6) (t0_7 := t0_7) (t0_8 := t0_8) (t0_9 := (0 : Int32)) (t0_10 := t0_10) (t1_0 := t1_0) (t2_0 := t2_0) (t3_0 := t5_0) (by with_reducible assumption) m2.1 ⟨(by first | omega | decide), (by first | omega | decide), (by first | omega | decide), (by first | omega | decide)⟩ (by first | omega | decide) (by first | omega | decide) (by first | omega | decide)
                    with_reducible refine v_owe h75.1 ?_
                    replace h75 := h75.2
                    generalize F_DR_figures x2 (0 : Int32) (t2_0 x2.toNatClampNeg : Int32) (-1 : Int32) (0 : Int32) t0_1 t0_2 t0_3 t0_4 t0_5 t0_6 t0_7 t0_8 (0 : Int32) t0_10 t1_0 t2_0 t5_0 = p711 at *
                    unfold Q_DR_figures at h75
                    unfold S_DR_written_c164_15 F_DR_written_c164_15
                    refine ⟨trivial, ?_⟩
                    (unfold Q_DR_written; dsimp only; first | omega | exact ⟨by decide, by decide, fun _ => by decide⟩)
                  ·
                    rw [if_neg g74, if_neg g74]
                    have g74i := q_neI g74
                    have h76 := T_DR_figures (x2 := x2) (x3 := (0 : Int32)) (x4 := (t2_0 x2.toNatClampNeg : Int32)) (x5 := ((t2_0 x2.toNatClampNeg : Int32) - (t4_0 x2.toNatClampNeg : Int32) : Int32)) (t0_0 := (0 : Int32)) (t0_1 := t0_1) (t0_2 := t0_2) (t0_3 := t0_3) (t0_4 := t0_4) (t0_5 := t0_5) (t0_6 := t0_6) (t0_7 := t0_7) (t0_8 := t0_8) (t0_9 := (0 : Int32)) (t0_10 := t0_10) (t1_0 := t1_0) (t2_0 := t2_0) (t3_0 := t5_0) (by with_reducible assumption) m2.1 ⟨(by first | omega | decide), (by first | omega | decide), (by first | omega | decide), (by first | omega | decide)⟩ (by first | omega | decide) (by first | omega | decide) (by first | omega | decide)
                    with_reducible refine v_owe h76.1 ?_
                    replace h76 := h76.2
                    generalize F_DR_figures x2 (0 : Int32) (t2_0 x2.toNatClampNeg : Int32) ((t2_0 x2.toNatClampNeg : Int32) - (t4_0 x2.toNatClampNeg : Int32) : Int32) (0 : Int32) t0_1 t0_2 t0_3 t0_4 t0_5 t0_6 t0_7 t0_8 (0 : Int32) t0_10 t1_0 t2_0 t5_0 = p650 at *
                    unfold Q_DR_figures at h76
                    unfold S_DR_written_c164 F_DR_written_c164
                    refine ⟨trivial, ?_⟩
                    (unfold Q_DR_written; dsimp only; first | omega | exact ⟨by decide, by decide, fun _ => by decide⟩)
                ·
                  rw [if_neg g73, if_neg g73]
                  have emc : ((t2_0 x2.toNatClampNeg) - (t4_0 x2.toNatClampNeg) : Int32).toInt = (t2_0 x2.toNatClampNeg).toInt - (t4_0 x2.toNatClampNeg).toInt := q_subI rfl rfl (by omega) (by omega)
                  have g73i := q_nleI g73
                  obtain ⟨lx592, e77⟩ := q_nm ((((t2_0 x2.toNatClampNeg : Int32) - (t4_0 x2.toNatClampNeg : Int32) : Int32) - 1 : Int32) : Int32)
                  rw [e77]
                  have l592 : lx592.toInt = (t2_0 x2.toNatClampNeg).toInt - (t4_0 x2.toNatClampNeg).toInt - 1 := by rw [← e77]; exact q_subI (y := 1) emc rfl (by omega) (by omega)
                  unfold S_DR_written_J150 F_DR_written_J150
                  by_cases g78 : (t4_0 x2.toNatClampNeg : Int32) = (0 : Int32)
                  ·
                    rw [if_pos g78, if_pos g78]
                    have g78i := q_eqI g78
                    have h79 := T_DR_figures (x2 := x2) (x3 := lx592) (x4 := (t2_0 x2.toNatClampNeg : Int32)) (x5 := (-1 : Int32)) (t0_0 := (0 : Int32)) (t0_1 := t0_1) (t0_2 := t0_2) (t0_3 := t0_3) (t0_4 := t0_4) (t0_5 := t0_5) (t0_6 := t0_6) (t0_7 := t0_7) (t0_8 := t0_8) (t0_9 := (0 : Int32)) (t0_10 := t0_10) (t1_0 := t1_0) (t2_0 := t2_0) (t3_0 := t5_0) (by with_reducible assumption) m2.1 ⟨(by first | omega | decide), (by first | omega | decide), (by first | omega | decide), (by first | omega | decide)⟩ (by first | omega | decide) (by first | omega | decide) (by first | omega | decide)
                    with_reducible refine v_owe h79.1 ?_
                    replace h79 := h79.2
                    generalize F_DR_figures x2 lx592 (t2_0 x2.toNatClampNeg : Int32) (-1 : Int32) (0 : Int32) t0_1 t0_2 t0_3 t0_4 t0_5 t0_6 t0_7 t0_8 (0 : Int32) t0_10 t1_0 t2_0 t5_0 = p711 at *
                    unfold Q_DR_figures at h79
                    unfold S_DR_written_c164_15 F_DR_written_c164_15
                    refine ⟨trivial, ?_⟩
                    (unfold Q_DR_written; dsimp only; first | omega | exact ⟨by decide, by decide, fun _ => by decide⟩)
                  ·
                    rw [if_neg g78, if_neg g78]
                    have g78i := q_neI g78
                    have h80 := T_DR_figures (x2 := x2) (x3 := lx592) (x4 := (t2_0 x2.toNatClampNeg : Int32)) (x5 := ((t2_0 x2.toNatClampNeg : Int32) - (t4_0 x2.toNatClampNeg : Int32) : Int32)) (t0_0 := (0 : Int32)) (t0_1 := t0_1) (t0_2 := t0_2) (t0_3 := t0_3) (t0_4 := t0_4) (t0_5 := t0_5) (t0_6 := t0_6) (t0_7 := t0_7) (t0_8 := t0_8) (t0_9 := (0 : Int32)) (t0_10 := t0_10) (t1_0 := t1_0) (t2_0 := t2_0) (t3_0 := t5_0) (by with_reducible assumption) m2.1 ⟨(by first | omega | decide), (by first | omega | decide), (by first | omega | decide), (by first | omega | decide)⟩ (by first | omega | decide) (by first | omega | decide) (by first | omega | decide)
                    with_reducible refine v_owe h80.1 ?_
                    replace h80 := h80.2
                    generalize F_DR_figures x2 lx592 (t2_0 x2.toNatClampNeg : Int32) ((t2_0 x2.toNatClampNeg : Int32) - (t4_0 x2.toNatClampNeg : Int32) : Int32) (0 : Int32) t0_1 t0_2 t0_3 t0_4 t0_5 t0_6 t0_7 t0_8 (0 : Int32) t0_10 t1_0 t2_0 t5_0 = p650 at *
                    unfold Q_DR_figures at h80
                    unfold S_DR_written_c164 F_DR_written_c164
                    refine ⟨trivial, ?_⟩
                    (unfold Q_DR_written; dsimp only; first | omega | exact ⟨by decide, by decide, fun _ => by decide⟩)
        ·
          rw [if_neg g6, if_neg g6]
          have m2 := gR.at hR (by with_reducible assumption : 0 ≤ x2.toInt ∧ x2.toInt ≤ 9)
          have h81 := R_print (x2 := (45 : Int32)) (t0_0 := (0 : Int32)) (t0_1 := t0_1) (t0_2 := t0_2) (t0_3 := t0_3) (t0_4 := t0_4) (t0_5 := t0_5) (t0_6 := t0_6) (t0_7 := t0_7) (t0_8 := t0_8) (t0_9 := (0 : Int32)) (t0_10 := t0_10) (t1_0 := t5_0) ⟨by first | omega | decide, by first | omega | decide⟩
          with_reducible refine v_owe h81.1 ?_
          replace h81 := h81.2
          generalize F_DR_print (45 : Int32) (0 : Int32) t0_1 t0_2 t0_3 t0_4 t0_5 t0_6 t0_7 t0_8 (0 : Int32) t0_10 t5_0 = p927 at *
          unfold S_DR_written_c51 F_DR_written_c51
          unfold S_DR_written_J54 F_DR_written_J54
          by_cases g82 : x3 = (1 : Int32)
          ·
            rw [if_pos g82, if_pos g82]
            have g82i : x3.toInt = 1 := q_eqI g82
            by_cases g83 : (0 : Int32) < (t4_0 x2.toNatClampNeg : Int32)
            ·
              rw [if_pos g83, if_pos g83]
              have g83i := q_ltI g83
              obtain ⟨a117, e84⟩ := q_nm ((((t2_0 x2.toNatClampNeg : Int32) - 1 : Int32) - (t4_0 x2.toNatClampNeg : Int32) : Int32) : Int32)
              rw [e84]
              have a117i : a117.toInt = (t2_0 x2.toNatClampNeg).toInt - 1 - (t4_0 x2.toNatClampNeg).toInt := by rw [← e84]; exact q_subI (q_subI (y := 1) rfl (by decide) (by omega) (by omega)) rfl (by omega) (by omega)
              unfold S_DR_written_J113 F_DR_written_J113
              by_cases g85 : (t4_0 x2.toNatClampNeg : Int32) < (0 : Int32)
              ·
                rw [if_pos g85, if_pos g85]
                have g85i := q_ltI g85
                unfold S_DR_written_J170 F_DR_written_J170
                by_cases g86 : x3 = (0 : Int32)
                ·
                  rw [if_pos g86, if_pos g86]
                  have g86i : x3.toInt = 0 := q_eqI g86
                  have h87 := T_DR_figures (x2 := x2) (x3 := (0 : Int32)) (x4 := (t2_0 x2.toNatClampNeg : Int32)) (x5 := (1 : Int32)) (t0_0 := (p927.1 : Int32)) (t0_1 := (p927.2.1 : Int32)) (t0_2 := (p927.2.2.1 : Int32)) (t0_3 := (p927.2.2.2.1 : Int64)) (t0_4 := (p927.2.2.2.2.1 : Int32)) (t0_5 := (p927.2.2.2.2.2.1 : Int32)) (t0_6 := (p927.2.2.2.2.2.2.1 : Int32)) (t0_7 := (p927.2.2.2.2.2.2.2.1 : Int32)) (t0_8 := (p927.2.2.2.2.2.2.2.2.1 : Int32)) (t0_9 := (p927.2.2.2.2.2.2.2.2.2.1 : Int32)) (t0_10 := (p927.2.2.2.2.2.2.2.2.2.2.1 : Int32)) (t1_0 := t1_0) (t2_0 := t2_0) (t3_0 := (p927.2.2.2.2.2.2.2.2.2.2.2 : (Nat → Int32))) (by with_reducible assumption) m2.1 ⟨(by first | omega | decide), (by first | omega | decide), (by first | omega | decide), (by first | omega | decide)⟩ (by first | omega | decide) (by first | omega | decide) (by first | omega | decide)
                  with_reducible refine v_owe h87.1 ?_
                  replace h87 := h87.2
                  generalize F_DR_figures x2 (0 : Int32) (t2_0 x2.toNatClampNeg : Int32) (1 : Int32) (p927.1 : Int32) (p927.2.1 : Int32) (p927.2.2.1 : Int32) (p927.2.2.2.1 : Int64) (p927.2.2.2.2.1 : Int32) (p927.2.2.2.2.2.1 : Int32) (p927.2.2.2.2.2.2.1 : Int32) (p927.2.2.2.2.2.2.2.1 : Int32) (p927.2.2.2.2.2.2.2.2.1 : Int32) (p927.2.2.2.2.2.2.2.2.2.1 : Int32) (p927.2.2.2.2.2.2.2.2.2.2.1 : Int32) t1_0 t2_0 (p927.2.2.2.2.2.2.2.2.2.2.2 : (Nat → Int32)) = p496 at *
                  unfold Q_DR_figures at h87
                  unfold S_DR_written_c179 F_DR_written_c179
                  have h88 := T_DR_exponent (x2 := a117) (t0_0 := (p496.1 : Int32)) (t0_1 := (p496.2.1 : Int32)) (t0_2 := (p496.2.2.1 : Int32)) (t0_3 := (p496.2.2.2.1 : Int64)) (t0_4 := (p496.2.2.2.2.1 : Int32)) (t0_5 := (p496.2.2.2.2.2.1 : Int32)) (t0_6 := (p496.2.2.2.2.2.2.1 : Int32)) (t0_7 := (p496.2.2.2.2.2.2.2.1 : Int32)) (t0_8 := (p496.2.2.2.2.2.2.2.2.1 : Int32)) (t0_9 := (p496.2.2.2.2.2.2.2.2.2.1 : Int32)) (t0_10 := (p496.2.2.2.2.2.2.2.2.2.2.1 : Int32)) (t1_0 := (p496.2.2.2.2.2.2.2.2.2.2.2 : (Nat → Int32))) ⟨(by first | omega | decide), (by first | omega | decide)⟩ ⟨(by first | omega | decide), (by first | omega | decide)⟩
                  with_reducible refine v_owe h88.1 ?_
                  replace h88 := h88.2
                  generalize F_DR_exponent a117 (p496.1 : Int32) (p496.2.1 : Int32) (p496.2.2.1 : Int32) (p496.2.2.2.1 : Int64) (p496.2.2.2.2.1 : Int32) (p496.2.2.2.2.2.1 : Int32) (p496.2.2.2.2.2.2.1 : Int32) (p496.2.2.2.2.2.2.2.1 : Int32) (p496.2.2.2.2.2.2.2.2.1 : Int32) (p496.2.2.2.2.2.2.2.2.2.1 : Int32) (p496.2.2.2.2.2.2.2.2.2.2.1 : Int32) (p496.2.2.2.2.2.2.2.2.2.2.2 : (Nat → Int32)) = p556 at *
                  unfold Q_DR_exponent at h88
                  unfold S_DR_written_c185 F_DR_written_c185
                  refine ⟨trivial, ?_⟩
                  (unfold Q_DR_written; dsimp only; first | omega | exact ⟨by decide, by decide, fun _ => by decide⟩)
                ·
                  rw [if_neg g86, if_neg g86]
                  have g86i : x3.toInt ≠ 0 := q_neI g86
                  have h89 := R_dz (x2 := x2) (t0_0 := (p927.1 : Int32)) (t0_1 := (p927.2.1 : Int32)) (t0_2 := (p927.2.2.1 : Int32)) (t0_3 := (p927.2.2.2.1 : Int64)) (t0_4 := (p927.2.2.2.2.1 : Int32)) (t0_5 := (p927.2.2.2.2.2.1 : Int32)) (t0_6 := (p927.2.2.2.2.2.2.1 : Int32)) (t0_7 := (p927.2.2.2.2.2.2.2.1 : Int32)) (t0_8 := (p927.2.2.2.2.2.2.2.2.1 : Int32)) (t0_9 := (p927.2.2.2.2.2.2.2.2.2.1 : Int32)) (t0_10 := (p927.2.2.2.2.2.2.2.2.2.2.1 : Int32)) (t1_0 := t1_0) (by with_reducible assumption)
                  with_reducible refine v_owe h89.1 ?_
                  by_cases g90 : ((F_DR_isZero x2 (p927.1 : Int32) (p927.2.1 : Int32) (p927.2.2.1 : Int32) (p927.2.2.2.1 : Int64) (p927.2.2.2.2.1 : Int32) (p927.2.2.2.2.2.1 : Int32) (p927.2.2.2.2.2.2.1 : Int32) (p927.2.2.2.2.2.2.2.1 : Int32) (p927.2.2.2.2.2.2.2.2.1 : Int32) (p927.2.2.2.2.2.2.2.2.2.1 : Int32) (p927.2.2.2.2.2.2.2.2.2.2.1 : Int32) t1_0) : Int32) = (0 : Int32)
                  ·
                    rw [if_pos g90, if_pos g90]
                    try have hdn := g_down3 (a := a117) ⟨by omega, by omega⟩
                    try have ed1 : (a117 - F_DR_down3 a117 : Int32).toInt = a117.toInt - (F_DR_down3 a117).toInt := q_subI rfl rfl (by omega) (by omega)
                    try have ed2 : (a117 - F_DR_down3 a117 + 1 : Int32).toInt = (a117.toInt - (F_DR_down3 a117).toInt) + 1 := q_addI (y := 1) ed1 (by decide) (by omega) (by omega)
                    by_cases g91 : (t2_0 x2.toNatClampNeg : Int32) ≤ ((a117 - ((F_DR_down3 a117) : Int32) : Int32) + 1 : Int32)
                    ·
                      rw [if_pos g91, if_pos g91]
                      have g91i := q_leI g91
                      unfold S_DR_written_J268 F_DR_written_J268
                      have h92 := T_DR_figures (x2 := x2) (x3 := (0 : Int32)) (x4 := ((a117 - ((F_DR_down3 a117) : Int32) : Int32) + 1 : Int32)) (x5 := ((a117 - ((F_DR_down3 a117) : Int32) : Int32) + 1 : Int32)) (t0_0 := (p927.1 : Int32)) (t0_1 := (p927.2.1 : Int32)) (t0_2 := (p927.2.2.1 : Int32)) (t0_3 := (p927.2.2.2.1 : Int64)) (t0_4 := (p927.2.2.2.2.1 : Int32)) (t0_5 := (p927.2.2.2.2.2.1 : Int32)) (t0_6 := (p927.2.2.2.2.2.2.1 : Int32)) (t0_7 := (p927.2.2.2.2.2.2.2.1 : Int32)) (t0_8 := (p927.2.2.2.2.2.2.2.2.1 : Int32)) (t0_9 := (p927.2.2.2.2.2.2.2.2.2.1 : Int32)) (t0_10 := (p927.2.2.2.2.2.2.2.2.2.2.1 : Int32)) (t1_0 := t1_0) (t2_0 := t2_0) (t3_0 := (p927.2.2.2.2.2.2.2.2.2.2.2 : (Nat → Int32))) (by with_reducible assumption) m2.1 ⟨(by first | omega | decide), (by first | omega | decide), (by first | omega | decide), (by first | omega | decide)⟩ (by first | omega | decide) (by first | omega | decide) (by first | omega | decide)
                      with_reducible refine v_owe h92.1 ?_
                      replace h92 := h92.2
                      generalize F_DR_figures x2 (0 : Int32) ((a117 - ((F_DR_down3 a117) : Int32) : Int32) + 1 : Int32) ((a117 - ((F_DR_down3 a117) : Int32) : Int32) + 1 : Int32) (p927.1 : Int32) (p927.2.1 : Int32) (p927.2.2.1 : Int32) (p927.2.2.2.1 : Int64) (p927.2.2.2.2.1 : Int32) (p927.2.2.2.2.2.1 : Int32) (p927.2.2.2.2.2.2.1 : Int32) (p927.2.2.2.2.2.2.2.1 : Int32) (p927.2.2.2.2.2.2.2.2.1 : Int32) (p927.2.2.2.2.2.2.2.2.2.1 : Int32) (p927.2.2.2.2.2.2.2.2.2.2.1 : Int32) t1_0 t2_0 (p927.2.2.2.2.2.2.2.2.2.2.2 : (Nat → Int32)) = p224 at *
                      unfold Q_DR_figures at h92
                      unfold S_DR_written_c275 F_DR_written_c275
                      by_cases g93 : ((F_DR_down3 a117) : Int32) = (0 : Int32)
                      ·
                        rw [if_pos g93, if_pos g93]
                        refine ⟨trivial, ?_⟩
                        (unfold Q_DR_written; dsimp only; first | omega | exact ⟨by decide, by decide, fun _ => by decide⟩)
                      ·
                        rw [if_neg g93, if_neg g93]
                        have h94 := T_DR_exponent (x2 := ((F_DR_down3 a117) : Int32)) (t0_0 := (p224.1 : Int32)) (t0_1 := (p224.2.1 : Int32)) (t0_2 := (p224.2.2.1 : Int32)) (t0_3 := (p224.2.2.2.1 : Int64)) (t0_4 := (p224.2.2.2.2.1 : Int32)) (t0_5 := (p224.2.2.2.2.2.1 : Int32)) (t0_6 := (p224.2.2.2.2.2.2.1 : Int32)) (t0_7 := (p224.2.2.2.2.2.2.2.1 : Int32)) (t0_8 := (p224.2.2.2.2.2.2.2.2.1 : Int32)) (t0_9 := (p224.2.2.2.2.2.2.2.2.2.1 : Int32)) (t0_10 := (p224.2.2.2.2.2.2.2.2.2.2.1 : Int32)) (t1_0 := (p224.2.2.2.2.2.2.2.2.2.2.2 : (Nat → Int32))) ⟨(by first | omega | decide), (by first | omega | decide)⟩ ⟨(by first | omega | decide), (by first | omega | decide)⟩
                        with_reducible refine v_owe h94.1 ?_
                        replace h94 := h94.2
                        generalize F_DR_exponent ((F_DR_down3 a117) : Int32) (p224.1 : Int32) (p224.2.1 : Int32) (p224.2.2.1 : Int32) (p224.2.2.2.1 : Int64) (p224.2.2.2.2.1 : Int32) (p224.2.2.2.2.2.1 : Int32) (p224.2.2.2.2.2.2.1 : Int32) (p224.2.2.2.2.2.2.2.1 : Int32) (p224.2.2.2.2.2.2.2.2.1 : Int32) (p224.2.2.2.2.2.2.2.2.2.1 : Int32) (p224.2.2.2.2.2.2.2.2.2.2.1 : Int32) (p224.2.2.2.2.2.2.2.2.2.2.2 : (Nat → Int32)) = p287 at *
                        unfold Q_DR_exponent at h94
                        unfold S_DR_written_c286 F_DR_written_c286
                        refine ⟨trivial, ?_⟩
                        (unfold Q_DR_written; dsimp only; first | omega | exact ⟨by decide, by decide, fun _ => by decide⟩)
                    ·
                      rw [if_neg g91, if_neg g91]
                      have g91i := q_nleI g91
                      unfold S_DR_written_J268 F_DR_written_J268
                      have h95 := T_DR_figures (x2 := x2) (x3 := (0 : Int32)) (x4 := (t2_0 x2.toNatClampNeg : Int32)) (x5 := ((a117 - ((F_DR_down3 a117) : Int32) : Int32) + 1 : Int32)) (t0_0 := (p927.1 : Int32)) (t0_1 := (p927.2.1 : Int32)) (t0_2 := (p927.2.2.1 : Int32)) (t0_3 := (p927.2.2.2.1 : Int64)) (t0_4 := (p927.2.2.2.2.1 : Int32)) (t0_5 := (p927.2.2.2.2.2.1 : Int32)) (t0_6 := (p927.2.2.2.2.2.2.1 : Int32)) (t0_7 := (p927.2.2.2.2.2.2.2.1 : Int32)) (t0_8 := (p927.2.2.2.2.2.2.2.2.1 : Int32)) (t0_9 := (p927.2.2.2.2.2.2.2.2.2.1 : Int32)) (t0_10 := (p927.2.2.2.2.2.2.2.2.2.2.1 : Int32)) (t1_0 := t1_0) (t2_0 := t2_0) (t3_0 := (p927.2.2.2.2.2.2.2.2.2.2.2 : (Nat → Int32))) (by with_reducible assumption) m2.1 ⟨(by first | omega | decide), (by first | omega | decide), (by first | omega | decide), (by first | omega | decide)⟩ (by first | omega | decide) (by first | omega | decide) (by first | omega | decide)
                      with_reducible refine v_owe h95.1 ?_
                      replace h95 := h95.2
                      generalize F_DR_figures x2 (0 : Int32) (t2_0 x2.toNatClampNeg : Int32) ((a117 - ((F_DR_down3 a117) : Int32) : Int32) + 1 : Int32) (p927.1 : Int32) (p927.2.1 : Int32) (p927.2.2.1 : Int32) (p927.2.2.2.1 : Int64) (p927.2.2.2.2.1 : Int32) (p927.2.2.2.2.2.1 : Int32) (p927.2.2.2.2.2.2.1 : Int32) (p927.2.2.2.2.2.2.2.1 : Int32) (p927.2.2.2.2.2.2.2.2.1 : Int32) (p927.2.2.2.2.2.2.2.2.2.1 : Int32) (p927.2.2.2.2.2.2.2.2.2.2.1 : Int32) t1_0 t2_0 (p927.2.2.2.2.2.2.2.2.2.2.2 : (Nat → Int32)) = p224 at *
                      unfold Q_DR_figures at h95
                      unfold S_DR_written_c275 F_DR_written_c275
                      by_cases g96 : ((F_DR_down3 a117) : Int32) = (0 : Int32)
                      ·
                        rw [if_pos g96, if_pos g96]
                        refine ⟨trivial, ?_⟩
                        (unfold Q_DR_written; dsimp only; first | omega | exact ⟨by decide, by decide, fun _ => by decide⟩)
                      ·
                        rw [if_neg g96, if_neg g96]
                        have h97 := T_DR_exponent (x2 := ((F_DR_down3 a117) : Int32)) (t0_0 := (p224.1 : Int32)) (t0_1 := (p224.2.1 : Int32)) (t0_2 := (p224.2.2.1 : Int32)) (t0_3 := (p224.2.2.2.1 : Int64)) (t0_4 := (p224.2.2.2.2.1 : Int32)) (t0_5 := (p224.2.2.2.2.2.1 : Int32)) (t0_6 := (p224.2.2.2.2.2.2.1 : Int32)) (t0_7 := (p224.2.2.2.2.2.2.2.1 : Int32)) (t0_8 := (p224.2.2.2.2.2.2.2.2.1 : Int32)) (t0_9 := (p224.2.2.2.2.2.2.2.2.2.1 : Int32)) (t0_10 := (p224.2.2.2.2.2.2.2.2.2.2.1 : Int32)) (t1_0 := (p224.2.2.2.2.2.2.2.2.2.2.2 : (Nat → Int32))) ⟨(by first | omega | decide), (by first | omega | decide)⟩ ⟨(by first | omega | decide), (by first | omega | decide)⟩
                        with_reducible refine v_owe h97.1 ?_
                        replace h97 := h97.2
                        generalize F_DR_exponent ((F_DR_down3 a117) : Int32) (p224.1 : Int32) (p224.2.1 : Int32) (p224.2.2.1 : Int32) (p224.2.2.2.1 : Int64) (p224.2.2.2.2.1 : Int32) (p224.2.2.2.2.2.1 : Int32) (p224.2.2.2.2.2.2.1 : Int32) (p224.2.2.2.2.2.2.2.1 : Int32) (p224.2.2.2.2.2.2.2.2.1 : Int32) (p224.2.2.2.2.2.2.2.2.2.1 : Int32) (p224.2.2.2.2.2.2.2.2.2.2.1 : Int32) (p224.2.2.2.2.2.2.2.2.2.2.2 : (Nat → Int32)) = p287 at *
                        unfold Q_DR_exponent at h97
                        unfold S_DR_written_c286 F_DR_written_c286
                        refine ⟨trivial, ?_⟩
                        (unfold Q_DR_written; dsimp only; first | omega | exact ⟨by decide, by decide, fun _ => by decide⟩)
                  ·
                    rw [if_neg g90, if_neg g90]
                    try have en : (-a117 : Int32).toInt = -a117.toInt := q_negI rfl (by omega)
                    try have hdm := g_down3 (a := -a117) ⟨by omega, by omega⟩
                    try have eb : (-(F_DR_down3 (-a117)) : Int32).toInt = -(F_DR_down3 (-a117)).toInt := q_negI rfl (by omega)
                    try have ec : (1 + (-(F_DR_down3 (-a117))) : Int32).toInt = 1 + -(F_DR_down3 (-a117)).toInt := q_addI (x := 1) (by decide) eb (by omega) (by omega)
                    try have ee : (1 + (-(F_DR_down3 (-a117))) - a117 : Int32).toInt = (1 + -(F_DR_down3 (-a117)).toInt) - a117.toInt := q_subI ec rfl (by omega) (by omega)
                    have h98 := T_DR_figures (x2 := x2) (x3 := (0 : Int32)) (x4 := ((1 + (-((F_DR_down3 (-a117 : Int32)) : Int32) : Int32) : Int32) - a117 : Int32)) (x5 := (1 : Int32)) (t0_0 := (p927.1 : Int32)) (t0_1 := (p927.2.1 : Int32)) (t0_2 := (p927.2.2.1 : Int32)) (t0_3 := (p927.2.2.2.1 : Int64)) (t0_4 := (p927.2.2.2.2.1 : Int32)) (t0_5 := (p927.2.2.2.2.2.1 : Int32)) (t0_6 := (p927.2.2.2.2.2.2.1 : Int32)) (t0_7 := (p927.2.2.2.2.2.2.2.1 : Int32)) (t0_8 := (p927.2.2.2.2.2.2.2.2.1 : Int32)) (t0_9 := (p927.2.2.2.2.2.2.2.2.2.1 : Int32)) (t0_10 := (p927.2.2.2.2.2.2.2.2.2.2.1 : Int32)) (t1_0 := t1_0) (t2_0 := t2_0) (t3_0 := (p927.2.2.2.2.2.2.2.2.2.2.2 : (Nat → Int32))) (by with_reducible assumption) m2.1 ⟨(by first | omega | decide), (by first | omega | decide), (by first | omega | decide), (by first | omega | decide)⟩ (by first | omega | decide) (by first | omega | decide) (by first | omega | decide)
                    with_reducible refine v_owe h98.1 ?_
                    replace h98 := h98.2
                    generalize F_DR_figures x2 (0 : Int32) ((1 + (-((F_DR_down3 (-a117 : Int32)) : Int32) : Int32) : Int32) - a117 : Int32) (1 : Int32) (p927.1 : Int32) (p927.2.1 : Int32) (p927.2.2.1 : Int32) (p927.2.2.2.1 : Int64) (p927.2.2.2.2.1 : Int32) (p927.2.2.2.2.2.1 : Int32) (p927.2.2.2.2.2.2.1 : Int32) (p927.2.2.2.2.2.2.2.1 : Int32) (p927.2.2.2.2.2.2.2.2.1 : Int32) (p927.2.2.2.2.2.2.2.2.2.1 : Int32) (p927.2.2.2.2.2.2.2.2.2.2.1 : Int32) t1_0 t2_0 (p927.2.2.2.2.2.2.2.2.2.2.2 : (Nat → Int32)) = p372 at *
                    unfold Q_DR_figures at h98
                    unfold S_DR_written_c219 F_DR_written_c219
                    by_cases g99 : (-((F_DR_down3 (-a117 : Int32)) : Int32) : Int32) = (0 : Int32)
                    ·
                      rw [if_pos g99, if_pos g99]
                      refine ⟨trivial, ?_⟩
                      (unfold Q_DR_written; dsimp only; first | omega | exact ⟨by decide, by decide, fun _ => by decide⟩)
                    ·
                      rw [if_neg g99, if_neg g99]
                      have h100 := T_DR_exponent (x2 := (-((F_DR_down3 (-a117 : Int32)) : Int32) : Int32)) (t0_0 := (p372.1 : Int32)) (t0_1 := (p372.2.1 : Int32)) (t0_2 := (p372.2.2.1 : Int32)) (t0_3 := (p372.2.2.2.1 : Int64)) (t0_4 := (p372.2.2.2.2.1 : Int32)) (t0_5 := (p372.2.2.2.2.2.1 : Int32)) (t0_6 := (p372.2.2.2.2.2.2.1 : Int32)) (t0_7 := (p372.2.2.2.2.2.2.2.1 : Int32)) (t0_8 := (p372.2.2.2.2.2.2.2.2.1 : Int32)) (t0_9 := (p372.2.2.2.2.2.2.2.2.2.1 : Int32)) (t0_10 := (p372.2.2.2.2.2.2.2.2.2.2.1 : Int32)) (t1_0 := (p372.2.2.2.2.2.2.2.2.2.2.2 : (Nat → Int32))) ⟨(by first | omega | decide), (by first | omega | decide)⟩ ⟨(by first | omega | decide), (by first | omega | decide)⟩
                      with_reducible refine v_owe h100.1 ?_
                      replace h100 := h100.2
                      generalize F_DR_exponent (-((F_DR_down3 (-a117 : Int32)) : Int32) : Int32) (p372.1 : Int32) (p372.2.1 : Int32) (p372.2.2.1 : Int32) (p372.2.2.2.1 : Int64) (p372.2.2.2.2.1 : Int32) (p372.2.2.2.2.2.1 : Int32) (p372.2.2.2.2.2.2.1 : Int32) (p372.2.2.2.2.2.2.2.1 : Int32) (p372.2.2.2.2.2.2.2.2.1 : Int32) (p372.2.2.2.2.2.2.2.2.2.1 : Int32) (p372.2.2.2.2.2.2.2.2.2.2.1 : Int32) (p372.2.2.2.2.2.2.2.2.2.2.2 : (Nat → Int32)) = p435 at *
                      unfold Q_DR_exponent at h100
                      unfold S_DR_written_c230 F_DR_written_c230
                      refine ⟨trivial, ?_⟩
                      (unfold Q_DR_written; dsimp only; first | omega | exact ⟨by decide, by decide, fun _ => by decide⟩)
              ·
                rw [if_neg g85, if_neg g85]
                have g85i := q_nltI g85
                rw [if_pos g82, if_pos g82]
                unfold S_DR_written_J130 F_DR_written_J130
                by_cases g101 : (1 : Int32) ≤ ((t2_0 x2.toNatClampNeg : Int32) - (t4_0 x2.toNatClampNeg : Int32) : Int32)
                ·
                  rw [if_pos g101, if_pos g101]
                  have emc : ((t2_0 x2.toNatClampNeg) - (t4_0 x2.toNatClampNeg) : Int32).toInt = (t2_0 x2.toNatClampNeg).toInt - (t4_0 x2.toNatClampNeg).toInt := q_subI rfl rfl (by omega) (by omega)
                  have g101i := q_leI g101
                  unfold S_DR_written_J150 F_DR_written_J150
                  by_cases g102 : (t4_0 x2.toNatClampNeg : Int32) = (0 : Int32)
                  ·
                    rw [if_pos g102, if_pos g102]
                    have g102i := q_eqI g102
                    have h103 := T_DR_figures (x2 := x2) (x3 := (0 : Int32)) (x4 := (t2_0 x2.toNatClampNeg : Int32)) (x5 := (-1 : Int32)) (t0_0 := (p927.1 : Int32)) (t0_1 := (p927.2.1 : Int32)) (t0_2 := (p927.2.2.1 : Int32)) (t0_3 := (p927.2.2.2.1 : Int64)) (t0_4 := (p927.2.2.2.2.1 : Int32)) (t0_5 := (p927.2.2.2.2.2.1 : Int32)) (t0_6 := (p927.2.2.2.2.2.2.1 : Int32)) (t0_7 := (p927.2.2.2.2.2.2.2.1 : Int32)) (t0_8 := (p927.2.2.2.2.2.2.2.2.1 : Int32)) (t0_9 := (p927.2.2.2.2.2.2.2.2.2.1 : Int32)) (t0_10 := (p927.2.2.2.2.2.2.2.2.2.2.1 : Int32)) (t1_0 := t1_0) (t2_0 := t2_0) (t3_0 := (p927.2.2.2.2.2.2.2.2.2.2.2 : (Nat → Int32))) (by with_reducible assumption) m2.1 ⟨(by first | omega | decide), (by first | omega | decide), (by first | omega | decide), (by first | omega | decide)⟩ (by first | omega | decide) (by first | omega | decide) (by first | omega | decide)
                    with_reducible refine v_owe h103.1 ?_
                    replace h103 := h103.2
                    generalize F_DR_figures x2 (0 : Int32) (t2_0 x2.toNatClampNeg : Int32) (-1 : Int32) (p927.1 : Int32) (p927.2.1 : Int32) (p927.2.2.1 : Int32) (p927.2.2.2.1 : Int64) (p927.2.2.2.2.1 : Int32) (p927.2.2.2.2.2.1 : Int32) (p927.2.2.2.2.2.2.1 : Int32) (p927.2.2.2.2.2.2.2.1 : Int32) (p927.2.2.2.2.2.2.2.2.1 : Int32) (p927.2.2.2.2.2.2.2.2.2.1 : Int32) (p927.2.2.2.2.2.2.2.2.2.2.1 : Int32) t1_0 t2_0 (p927.2.2.2.2.2.2.2.2.2.2.2 : (Nat → Int32)) = p711 at *
                    unfold Q_DR_figures at h103
                    unfold S_DR_written_c164_15 F_DR_written_c164_15
                    refine ⟨trivial, ?_⟩
                    (unfold Q_DR_written; dsimp only; first | omega | exact ⟨by decide, by decide, fun _ => by decide⟩)
                  ·
                    rw [if_neg g102, if_neg g102]
                    have g102i := q_neI g102
                    have h104 := T_DR_figures (x2 := x2) (x3 := (0 : Int32)) (x4 := (t2_0 x2.toNatClampNeg : Int32)) (x5 := ((t2_0 x2.toNatClampNeg : Int32) - (t4_0 x2.toNatClampNeg : Int32) : Int32)) (t0_0 := (p927.1 : Int32)) (t0_1 := (p927.2.1 : Int32)) (t0_2 := (p927.2.2.1 : Int32)) (t0_3 := (p927.2.2.2.1 : Int64)) (t0_4 := (p927.2.2.2.2.1 : Int32)) (t0_5 := (p927.2.2.2.2.2.1 : Int32)) (t0_6 := (p927.2.2.2.2.2.2.1 : Int32)) (t0_7 := (p927.2.2.2.2.2.2.2.1 : Int32)) (t0_8 := (p927.2.2.2.2.2.2.2.2.1 : Int32)) (t0_9 := (p927.2.2.2.2.2.2.2.2.2.1 : Int32)) (t0_10 := (p927.2.2.2.2.2.2.2.2.2.2.1 : Int32)) (t1_0 := t1_0) (t2_0 := t2_0) (t3_0 := (p927.2.2.2.2.2.2.2.2.2.2.2 : (Nat → Int32))) (by with_reducible assumption) m2.1 ⟨(by first | omega | decide), (by first | omega | decide), (by first | omega | decide), (by first | omega | decide)⟩ (by first | omega | decide) (by first | omega | decide) (by first | omega | decide)
                    with_reducible refine v_owe h104.1 ?_
                    replace h104 := h104.2
                    generalize F_DR_figures x2 (0 : Int32) (t2_0 x2.toNatClampNeg : Int32) ((t2_0 x2.toNatClampNeg : Int32) - (t4_0 x2.toNatClampNeg : Int32) : Int32) (p927.1 : Int32) (p927.2.1 : Int32) (p927.2.2.1 : Int32) (p927.2.2.2.1 : Int64) (p927.2.2.2.2.1 : Int32) (p927.2.2.2.2.2.1 : Int32) (p927.2.2.2.2.2.2.1 : Int32) (p927.2.2.2.2.2.2.2.1 : Int32) (p927.2.2.2.2.2.2.2.2.1 : Int32) (p927.2.2.2.2.2.2.2.2.2.1 : Int32) (p927.2.2.2.2.2.2.2.2.2.2.1 : Int32) t1_0 t2_0 (p927.2.2.2.2.2.2.2.2.2.2.2 : (Nat → Int32)) = p650 at *
                    unfold Q_DR_figures at h104
                    unfold S_DR_written_c164 F_DR_written_c164
                    refine ⟨trivial, ?_⟩
                    (unfold Q_DR_written; dsimp only; first | omega | exact ⟨by decide, by decide, fun _ => by decide⟩)
                ·
                  rw [if_neg g101, if_neg g101]
                  have emc : ((t2_0 x2.toNatClampNeg) - (t4_0 x2.toNatClampNeg) : Int32).toInt = (t2_0 x2.toNatClampNeg).toInt - (t4_0 x2.toNatClampNeg).toInt := q_subI rfl rfl (by omega) (by omega)
                  have g101i := q_nleI g101
                  obtain ⟨lx592, e105⟩ := q_nm ((((t2_0 x2.toNatClampNeg : Int32) - (t4_0 x2.toNatClampNeg : Int32) : Int32) - 1 : Int32) : Int32)
                  rw [e105]
                  have l592 : lx592.toInt = (t2_0 x2.toNatClampNeg).toInt - (t4_0 x2.toNatClampNeg).toInt - 1 := by rw [← e105]; exact q_subI (y := 1) emc rfl (by omega) (by omega)
                  unfold S_DR_written_J150 F_DR_written_J150
                  by_cases g106 : (t4_0 x2.toNatClampNeg : Int32) = (0 : Int32)
                  ·
                    rw [if_pos g106, if_pos g106]
                    have g106i := q_eqI g106
                    have h107 := T_DR_figures (x2 := x2) (x3 := lx592) (x4 := (t2_0 x2.toNatClampNeg : Int32)) (x5 := (-1 : Int32)) (t0_0 := (p927.1 : Int32)) (t0_1 := (p927.2.1 : Int32)) (t0_2 := (p927.2.2.1 : Int32)) (t0_3 := (p927.2.2.2.1 : Int64)) (t0_4 := (p927.2.2.2.2.1 : Int32)) (t0_5 := (p927.2.2.2.2.2.1 : Int32)) (t0_6 := (p927.2.2.2.2.2.2.1 : Int32)) (t0_7 := (p927.2.2.2.2.2.2.2.1 : Int32)) (t0_8 := (p927.2.2.2.2.2.2.2.2.1 : Int32)) (t0_9 := (p927.2.2.2.2.2.2.2.2.2.1 : Int32)) (t0_10 := (p927.2.2.2.2.2.2.2.2.2.2.1 : Int32)) (t1_0 := t1_0) (t2_0 := t2_0) (t3_0 := (p927.2.2.2.2.2.2.2.2.2.2.2 : (Nat → Int32))) (by with_reducible assumption) m2.1 ⟨(by first | omega | decide), (by first | omega | decide), (by first | omega | decide), (by first | omega | decide)⟩ (by first | omega | decide) (by first | omega | decide) (by first | omega | decide)
                    with_reducible refine v_owe h107.1 ?_
                    replace h107 := h107.2
                    generalize F_DR_figures x2 lx592 (t2_0 x2.toNatClampNeg : Int32) (-1 : Int32) (p927.1 : Int32) (p927.2.1 : Int32) (p927.2.2.1 : Int32) (p927.2.2.2.1 : Int64) (p927.2.2.2.2.1 : Int32) (p927.2.2.2.2.2.1 : Int32) (p927.2.2.2.2.2.2.1 : Int32) (p927.2.2.2.2.2.2.2.1 : Int32) (p927.2.2.2.2.2.2.2.2.1 : Int32) (p927.2.2.2.2.2.2.2.2.2.1 : Int32) (p927.2.2.2.2.2.2.2.2.2.2.1 : Int32) t1_0 t2_0 (p927.2.2.2.2.2.2.2.2.2.2.2 : (Nat → Int32)) = p711 at *
                    unfold Q_DR_figures at h107
                    unfold S_DR_written_c164_15 F_DR_written_c164_15
                    refine ⟨trivial, ?_⟩
                    (unfold Q_DR_written; dsimp only; first | omega | exact ⟨by decide, by decide, fun _ => by decide⟩)
                  ·
                    rw [if_neg g106, if_neg g106]
                    have g106i := q_neI g106
                    have h108 := T_DR_figures (x2 := x2) (x3 := lx592) (x4 := (t2_0 x2.toNatClampNeg : Int32)) (x5 := ((t2_0 x2.toNatClampNeg : Int32) - (t4_0 x2.toNatClampNeg : Int32) : Int32)) (t0_0 := (p927.1 : Int32)) (t0_1 := (p927.2.1 : Int32)) (t0_2 := (p927.2.2.1 : Int32)) (t0_3 := (p927.2.2.2.1 : Int64)) (t0_4 := (p927.2.2.2.2.1 : Int32)) (t0_5 := (p927.2.2.2.2.2.1 : Int32)) (t0_6 := (p927.2.2.2.2.2.2.1 : Int32)) (t0_7 := (p927.2.2.2.2.2.2.2.1 : Int32)) (t0_8 := (p927.2.2.2.2.2.2.2.2.1 : Int32)) (t0_9 := (p927.2.2.2.2.2.2.2.2.2.1 : Int32)) (t0_10 := (p927.2.2.2.2.2.2.2.2.2.2.1 : Int32)) (t1_0 := t1_0) (t2_0 := t2_0) (t3_0 := (p927.2.2.2.2.2.2.2.2.2.2.2 : (Nat → Int32))) (by with_reducible assumption) m2.1 ⟨(by first | omega | decide), (by first | omega | decide), (by first | omega | decide), (by first | omega | decide)⟩ (by first | omega | decide) (by first | omega | decide) (by first | omega | decide)
                    with_reducible refine v_owe h108.1 ?_
                    replace h108 := h108.2
                    generalize F_DR_figures x2 lx592 (t2_0 x2.toNatClampNeg : Int32) ((t2_0 x2.toNatClampNeg : Int32) - (t4_0 x2.toNatClampNeg : Int32) : Int32) (p927.1 : Int32) (p927.2.1 : Int32) (p927.2.2.1 : Int32) (p927.2.2.2.1 : Int64) (p927.2.2.2.2.1 : Int32) (p927.2.2.2.2.2.1 : Int32) (p927.2.2.2.2.2.2.1 : Int32) (p927.2.2.2.2.2.2.2.1 : Int32) (p927.2.2.2.2.2.2.2.2.1 : Int32) (p927.2.2.2.2.2.2.2.2.2.1 : Int32) (p927.2.2.2.2.2.2.2.2.2.2.1 : Int32) t1_0 t2_0 (p927.2.2.2.2.2.2.2.2.2.2.2 : (Nat → Int32)) = p650 at *
                    unfold Q_DR_figures at h108
                    unfold S_DR_written_c164 F_DR_written_c164
                    refine ⟨trivial, ?_⟩
                    (unfold Q_DR_written; dsimp only; first | omega | exact ⟨by decide, by decide, fun _ => by decide⟩)
            ·
              rw [if_neg g83, if_neg g83]
              have g83i := q_nltI g83
              have emc : ((t2_0 x2.toNatClampNeg) - (t4_0 x2.toNatClampNeg) : Int32).toInt = (t2_0 x2.toNatClampNeg).toInt - (t4_0 x2.toNatClampNeg).toInt := q_subI rfl rfl (by omega) (by omega)
              have h109 := R_dz (x2 := x2) (t0_0 := (p927.1 : Int32)) (t0_1 := (p927.2.1 : Int32)) (t0_2 := (p927.2.2.1 : Int32)) (t0_3 := (p927.2.2.2.1 : Int64)) (t0_4 := (p927.2.2.2.2.1 : Int32)) (t0_5 := (p927.2.2.2.2.2.1 : Int32)) (t0_6 := (p927.2.2.2.2.2.2.1 : Int32)) (t0_7 := (p927.2.2.2.2.2.2.2.1 : Int32)) (t0_8 := (p927.2.2.2.2.2.2.2.2.1 : Int32)) (t0_9 := (p927.2.2.2.2.2.2.2.2.2.1 : Int32)) (t0_10 := (p927.2.2.2.2.2.2.2.2.2.2.1 : Int32)) (t1_0 := t1_0) (by with_reducible assumption)
              with_reducible refine v_owe h109.1 ?_
              by_cases g110 : ((F_DR_isZero x2 (p927.1 : Int32) (p927.2.1 : Int32) (p927.2.2.1 : Int32) (p927.2.2.2.1 : Int64) (p927.2.2.2.2.1 : Int32) (p927.2.2.2.2.2.1 : Int32) (p927.2.2.2.2.2.2.1 : Int32) (p927.2.2.2.2.2.2.2.1 : Int32) (p927.2.2.2.2.2.2.2.2.1 : Int32) (p927.2.2.2.2.2.2.2.2.2.1 : Int32) (p927.2.2.2.2.2.2.2.2.2.2.1 : Int32) t1_0) : Int32) = (0 : Int32)
              ·
                rw [if_pos g110, if_pos g110]
                try have hdn := g_down3 (a := a117) ⟨by omega, by omega⟩
                try have ed1 : (a117 - F_DR_down3 a117 : Int32).toInt = a117.toInt - (F_DR_down3 a117).toInt := q_subI rfl rfl (by omega) (by omega)
                try have ed2 : (a117 - F_DR_down3 a117 + 1 : Int32).toInt = (a117.toInt - (F_DR_down3 a117).toInt) + 1 := q_addI (y := 1) ed1 (by decide) (by omega) (by omega)
                have h111 := T_DR_figures (x2 := x2) (x3 := (0 : Int32)) (x4 := ((t2_0 x2.toNatClampNeg : Int32) - (t4_0 x2.toNatClampNeg : Int32) : Int32)) (x5 := (-1 : Int32)) (t0_0 := (p927.1 : Int32)) (t0_1 := (p927.2.1 : Int32)) (t0_2 := (p927.2.2.1 : Int32)) (t0_3 := (p927.2.2.2.1 : Int64)) (t0_4 := (p927.2.2.2.2.1 : Int32)) (t0_5 := (p927.2.2.2.2.2.1 : Int32)) (t0_6 := (p927.2.2.2.2.2.2.1 : Int32)) (t0_7 := (p927.2.2.2.2.2.2.2.1 : Int32)) (t0_8 := (p927.2.2.2.2.2.2.2.2.1 : Int32)) (t0_9 := (p927.2.2.2.2.2.2.2.2.2.1 : Int32)) (t0_10 := (p927.2.2.2.2.2.2.2.2.2.2.1 : Int32)) (t1_0 := t1_0) (t2_0 := t2_0) (t3_0 := (p927.2.2.2.2.2.2.2.2.2.2.2 : (Nat → Int32))) (by with_reducible assumption) m2.1 ⟨(by first | omega | decide), (by first | omega | decide), (by first | omega | decide), (by first | omega | decide)⟩ (by first | omega | decide) (by first | omega | decide) (by first | omega | decide)
                with_reducible refine v_owe h111.1 ?_
                obtain ⟨a117, e112⟩ := q_nm ((((t2_0 x2.toNatClampNeg : Int32) - 1 : Int32) - (t4_0 x2.toNatClampNeg : Int32) : Int32) : Int32)
                rw [e112]
                have a117i : a117.toInt = (t2_0 x2.toNatClampNeg).toInt - 1 - (t4_0 x2.toNatClampNeg).toInt := by rw [← e112]; exact q_subI (q_subI (y := 1) rfl (by decide) (by omega) (by omega)) rfl (by omega) (by omega)
                replace h111 := h111.2
                generalize F_DR_figures x2 (0 : Int32) ((t2_0 x2.toNatClampNeg : Int32) - (t4_0 x2.toNatClampNeg : Int32) : Int32) (-1 : Int32) (p927.1 : Int32) (p927.2.1 : Int32) (p927.2.2.1 : Int32) (p927.2.2.2.1 : Int64) (p927.2.2.2.2.1 : Int32) (p927.2.2.2.2.2.1 : Int32) (p927.2.2.2.2.2.2.1 : Int32) (p927.2.2.2.2.2.2.2.1 : Int32) (p927.2.2.2.2.2.2.2.2.1 : Int32) (p927.2.2.2.2.2.2.2.2.2.1 : Int32) (p927.2.2.2.2.2.2.2.2.2.2.1 : Int32) t1_0 t2_0 (p927.2.2.2.2.2.2.2.2.2.2.2 : (Nat → Int32)) = p802 at *
                unfold Q_DR_figures at h111
                unfold S_DR_written_c107 F_DR_written_c107
                refine ⟨trivial, ?_⟩
                (unfold Q_DR_written; dsimp only; first | omega | exact ⟨by decide, by decide, fun _ => by decide⟩)
              ·
                rw [if_neg g110, if_neg g110]
                try have en : (-a117 : Int32).toInt = -a117.toInt := q_negI rfl (by omega)
                try have hdm := g_down3 (a := -a117) ⟨by omega, by omega⟩
                try have eb : (-(F_DR_down3 (-a117)) : Int32).toInt = -(F_DR_down3 (-a117)).toInt := q_negI rfl (by omega)
                try have ec : (1 + (-(F_DR_down3 (-a117))) : Int32).toInt = 1 + -(F_DR_down3 (-a117)).toInt := q_addI (x := 1) (by decide) eb (by omega) (by omega)
                try have ee : (1 + (-(F_DR_down3 (-a117))) - a117 : Int32).toInt = (1 + -(F_DR_down3 (-a117)).toInt) - a117.toInt := q_subI ec rfl (by omega) (by omega)
                have h113 := T_DR_figures (x2 := x2) (x3 := (0 : Int32)) (x4 := (1 : Int32)) (x5 := (-1 : Int32)) (t0_0 := (p927.1 : Int32)) (t0_1 := (p927.2.1 : Int32)) (t0_2 := (p927.2.2.1 : Int32)) (t0_3 := (p927.2.2.2.1 : Int64)) (t0_4 := (p927.2.2.2.2.1 : Int32)) (t0_5 := (p927.2.2.2.2.2.1 : Int32)) (t0_6 := (p927.2.2.2.2.2.2.1 : Int32)) (t0_7 := (p927.2.2.2.2.2.2.2.1 : Int32)) (t0_8 := (p927.2.2.2.2.2.2.2.2.1 : Int32)) (t0_9 := (p927.2.2.2.2.2.2.2.2.2.1 : Int32)) (t0_10 := (p927.2.2.2.2.2.2.2.2.2.2.1 : Int32)) (t1_0 := t1_0) (t2_0 := t2_0) (t3_0 := (p927.2.2.2.2.2.2.2.2.2.2.2 : (Nat → Int32))) (by with_reducible assumption) m2.1 ⟨(by first | omega | decide), (by first | omega | decide), (by first | omega | decide), (by first | omega | decide)⟩ (by first | omega | decide) (by first | omega | decide) (by first | omega | decide)
                with_reducible refine v_owe h113.1 ?_
                obtain ⟨a117, e114⟩ := q_nm ((((t2_0 x2.toNatClampNeg : Int32) - 1 : Int32) - (t4_0 x2.toNatClampNeg : Int32) : Int32) : Int32)
                rw [e114]
                have a117i : a117.toInt = (t2_0 x2.toNatClampNeg).toInt - 1 - (t4_0 x2.toNatClampNeg).toInt := by rw [← e114]; exact q_subI (q_subI (y := 1) rfl (by decide) (by omega) (by omega)) rfl (by omega) (by omega)
                replace h113 := h113.2
                generalize F_DR_figures x2 (0 : Int32) (1 : Int32) (-1 : Int32) (p927.1 : Int32) (p927.2.1 : Int32) (p927.2.2.1 : Int32) (p927.2.2.2.1 : Int64) (p927.2.2.2.2.1 : Int32) (p927.2.2.2.2.2.1 : Int32) (p927.2.2.2.2.2.2.1 : Int32) (p927.2.2.2.2.2.2.2.1 : Int32) (p927.2.2.2.2.2.2.2.2.1 : Int32) (p927.2.2.2.2.2.2.2.2.2.1 : Int32) (p927.2.2.2.2.2.2.2.2.2.2.1 : Int32) t1_0 t2_0 (p927.2.2.2.2.2.2.2.2.2.2.2 : (Nat → Int32)) = p863 at *
                unfold Q_DR_figures at h113
                unfold S_DR_written_c107_17 F_DR_written_c107_17
                refine ⟨trivial, ?_⟩
                (unfold Q_DR_written; dsimp only; first | omega | exact ⟨by decide, by decide, fun _ => by decide⟩)
          ·
            rw [if_neg g82, if_neg g82]
            have g82i : x3.toInt ≠ 1 := q_neI g82
            obtain ⟨a117, e115⟩ := q_nm ((((t2_0 x2.toNatClampNeg : Int32) - 1 : Int32) - (t4_0 x2.toNatClampNeg : Int32) : Int32) : Int32)
            rw [e115]
            have a117i : a117.toInt = (t2_0 x2.toNatClampNeg).toInt - 1 - (t4_0 x2.toNatClampNeg).toInt := by rw [← e115]; exact q_subI (q_subI (y := 1) rfl (by decide) (by omega) (by omega)) rfl (by omega) (by omega)
            unfold S_DR_written_J113 F_DR_written_J113
            by_cases g116 : (t4_0 x2.toNatClampNeg : Int32) < (0 : Int32)
            ·
              rw [if_pos g116, if_pos g116]
              have g116i := q_ltI g116
              unfold S_DR_written_J170 F_DR_written_J170
              by_cases g117 : x3 = (0 : Int32)
              ·
                rw [if_pos g117, if_pos g117]
                have g117i : x3.toInt = 0 := q_eqI g117
                have h118 := T_DR_figures (x2 := x2) (x3 := (0 : Int32)) (x4 := (t2_0 x2.toNatClampNeg : Int32)) (x5 := (1 : Int32)) (t0_0 := (p927.1 : Int32)) (t0_1 := (p927.2.1 : Int32)) (t0_2 := (p927.2.2.1 : Int32)) (t0_3 := (p927.2.2.2.1 : Int64)) (t0_4 := (p927.2.2.2.2.1 : Int32)) (t0_5 := (p927.2.2.2.2.2.1 : Int32)) (t0_6 := (p927.2.2.2.2.2.2.1 : Int32)) (t0_7 := (p927.2.2.2.2.2.2.2.1 : Int32)) (t0_8 := (p927.2.2.2.2.2.2.2.2.1 : Int32)) (t0_9 := (p927.2.2.2.2.2.2.2.2.2.1 : Int32)) (t0_10 := (p927.2.2.2.2.2.2.2.2.2.2.1 : Int32)) (t1_0 := t1_0) (t2_0 := t2_0) (t3_0 := (p927.2.2.2.2.2.2.2.2.2.2.2 : (Nat → Int32))) (by with_reducible assumption) m2.1 ⟨(by first | omega | decide), (by first | omega | decide), (by first | omega | decide), (by first | omega | decide)⟩ (by first | omega | decide) (by first | omega | decide) (by first | omega | decide)
                with_reducible refine v_owe h118.1 ?_
                replace h118 := h118.2
                generalize F_DR_figures x2 (0 : Int32) (t2_0 x2.toNatClampNeg : Int32) (1 : Int32) (p927.1 : Int32) (p927.2.1 : Int32) (p927.2.2.1 : Int32) (p927.2.2.2.1 : Int64) (p927.2.2.2.2.1 : Int32) (p927.2.2.2.2.2.1 : Int32) (p927.2.2.2.2.2.2.1 : Int32) (p927.2.2.2.2.2.2.2.1 : Int32) (p927.2.2.2.2.2.2.2.2.1 : Int32) (p927.2.2.2.2.2.2.2.2.2.1 : Int32) (p927.2.2.2.2.2.2.2.2.2.2.1 : Int32) t1_0 t2_0 (p927.2.2.2.2.2.2.2.2.2.2.2 : (Nat → Int32)) = p496 at *
                unfold Q_DR_figures at h118
                unfold S_DR_written_c179 F_DR_written_c179
                have h119 := T_DR_exponent (x2 := a117) (t0_0 := (p496.1 : Int32)) (t0_1 := (p496.2.1 : Int32)) (t0_2 := (p496.2.2.1 : Int32)) (t0_3 := (p496.2.2.2.1 : Int64)) (t0_4 := (p496.2.2.2.2.1 : Int32)) (t0_5 := (p496.2.2.2.2.2.1 : Int32)) (t0_6 := (p496.2.2.2.2.2.2.1 : Int32)) (t0_7 := (p496.2.2.2.2.2.2.2.1 : Int32)) (t0_8 := (p496.2.2.2.2.2.2.2.2.1 : Int32)) (t0_9 := (p496.2.2.2.2.2.2.2.2.2.1 : Int32)) (t0_10 := (p496.2.2.2.2.2.2.2.2.2.2.1 : Int32)) (t1_0 := (p496.2.2.2.2.2.2.2.2.2.2.2 : (Nat → Int32))) ⟨(by first | omega | decide), (by first | omega | decide)⟩ ⟨(by first | omega | decide), (by first | omega | decide)⟩
                with_reducible refine v_owe h119.1 ?_
                replace h119 := h119.2
                generalize F_DR_exponent a117 (p496.1 : Int32) (p496.2.1 : Int32) (p496.2.2.1 : Int32) (p496.2.2.2.1 : Int64) (p496.2.2.2.2.1 : Int32) (p496.2.2.2.2.2.1 : Int32) (p496.2.2.2.2.2.2.1 : Int32) (p496.2.2.2.2.2.2.2.1 : Int32) (p496.2.2.2.2.2.2.2.2.1 : Int32) (p496.2.2.2.2.2.2.2.2.2.1 : Int32) (p496.2.2.2.2.2.2.2.2.2.2.1 : Int32) (p496.2.2.2.2.2.2.2.2.2.2.2 : (Nat → Int32)) = p556 at *
                unfold Q_DR_exponent at h119
                unfold S_DR_written_c185 F_DR_written_c185
                refine ⟨trivial, ?_⟩
                (unfold Q_DR_written; dsimp only; first | omega | exact ⟨by decide, by decide, fun _ => by decide⟩)
              ·
                rw [if_neg g117, if_neg g117]
                have g117i : x3.toInt ≠ 0 := q_neI g117
                have h120 := R_dz (x2 := x2) (t0_0 := (p927.1 : Int32)) (t0_1 := (p927.2.1 : Int32)) (t0_2 := (p927.2.2.1 : Int32)) (t0_3 := (p927.2.2.2.1 : Int64)) (t0_4 := (p927.2.2.2.2.1 : Int32)) (t0_5 := (p927.2.2.2.2.2.1 : Int32)) (t0_6 := (p927.2.2.2.2.2.2.1 : Int32)) (t0_7 := (p927.2.2.2.2.2.2.2.1 : Int32)) (t0_8 := (p927.2.2.2.2.2.2.2.2.1 : Int32)) (t0_9 := (p927.2.2.2.2.2.2.2.2.2.1 : Int32)) (t0_10 := (p927.2.2.2.2.2.2.2.2.2.2.1 : Int32)) (t1_0 := t1_0) (by with_reducible assumption)
                with_reducible refine v_owe h120.1 ?_
                by_cases g121 : ((F_DR_isZero x2 (p927.1 : Int32) (p927.2.1 : Int32) (p927.2.2.1 : Int32) (p927.2.2.2.1 : Int64) (p927.2.2.2.2.1 : Int32) (p927.2.2.2.2.2.1 : Int32) (p927.2.2.2.2.2.2.1 : Int32) (p927.2.2.2.2.2.2.2.1 : Int32) (p927.2.2.2.2.2.2.2.2.1 : Int32) (p927.2.2.2.2.2.2.2.2.2.1 : Int32) (p927.2.2.2.2.2.2.2.2.2.2.1 : Int32) t1_0) : Int32) = (0 : Int32)
                ·
                  rw [if_pos g121, if_pos g121]
                  try have hdn := g_down3 (a := a117) ⟨by omega, by omega⟩
                  try have ed1 : (a117 - F_DR_down3 a117 : Int32).toInt = a117.toInt - (F_DR_down3 a117).toInt := q_subI rfl rfl (by omega) (by omega)
                  try have ed2 : (a117 - F_DR_down3 a117 + 1 : Int32).toInt = (a117.toInt - (F_DR_down3 a117).toInt) + 1 := q_addI (y := 1) ed1 (by decide) (by omega) (by omega)
                  by_cases g122 : (t2_0 x2.toNatClampNeg : Int32) ≤ ((a117 - ((F_DR_down3 a117) : Int32) : Int32) + 1 : Int32)
                  ·
                    rw [if_pos g122, if_pos g122]
                    have g122i := q_leI g122
                    unfold S_DR_written_J268 F_DR_written_J268
                    have h123 := T_DR_figures (x2 := x2) (x3 := (0 : Int32)) (x4 := ((a117 - ((F_DR_down3 a117) : Int32) : Int32) + 1 : Int32)) (x5 := ((a117 - ((F_DR_down3 a117) : Int32) : Int32) + 1 : Int32)) (t0_0 := (p927.1 : Int32)) (t0_1 := (p927.2.1 : Int32)) (t0_2 := (p927.2.2.1 : Int32)) (t0_3 := (p927.2.2.2.1 : Int64)) (t0_4 := (p927.2.2.2.2.1 : Int32)) (t0_5 := (p927.2.2.2.2.2.1 : Int32)) (t0_6 := (p927.2.2.2.2.2.2.1 : Int32)) (t0_7 := (p927.2.2.2.2.2.2.2.1 : Int32)) (t0_8 := (p927.2.2.2.2.2.2.2.2.1 : Int32)) (t0_9 := (p927.2.2.2.2.2.2.2.2.2.1 : Int32)) (t0_10 := (p927.2.2.2.2.2.2.2.2.2.2.1 : Int32)) (t1_0 := t1_0) (t2_0 := t2_0) (t3_0 := (p927.2.2.2.2.2.2.2.2.2.2.2 : (Nat → Int32))) (by with_reducible assumption) m2.1 ⟨(by first | omega | decide), (by first | omega | decide), (by first | omega | decide), (by first | omega | decide)⟩ (by first | omega | decide) (by first | omega | decide) (by first | omega | decide)
                    with_reducible refine v_owe h123.1 ?_
                    replace h123 := h123.2
                    generalize F_DR_figures x2 (0 : Int32) ((a117 - ((F_DR_down3 a117) : Int32) : Int32) + 1 : Int32) ((a117 - ((F_DR_down3 a117) : Int32) : Int32) + 1 : Int32) (p927.1 : Int32) (p927.2.1 : Int32) (p927.2.2.1 : Int32) (p927.2.2.2.1 : Int64) (p927.2.2.2.2.1 : Int32) (p927.2.2.2.2.2.1 : Int32) (p927.2.2.2.2.2.2.1 : Int32) (p927.2.2.2.2.2.2.2.1 : Int32) (p927.2.2.2.2.2.2.2.2.1 : Int32) (p927.2.2.2.2.2.2.2.2.2.1 : Int32) (p927.2.2.2.2.2.2.2.2.2.2.1 : Int32) t1_0 t2_0 (p927.2.2.2.2.2.2.2.2.2.2.2 : (Nat → Int32)) = p224 at *
                    unfold Q_DR_figures at h123
                    unfold S_DR_written_c275 F_DR_written_c275
                    by_cases g124 : ((F_DR_down3 a117) : Int32) = (0 : Int32)
                    ·
                      rw [if_pos g124, if_pos g124]
                      refine ⟨trivial, ?_⟩
                      (unfold Q_DR_written; dsimp only; first | omega | exact ⟨by decide, by decide, fun _ => by decide⟩)
                    ·
                      rw [if_neg g124, if_neg g124]
                      have h125 := T_DR_exponent (x2 := ((F_DR_down3 a117) : Int32)) (t0_0 := (p224.1 : Int32)) (t0_1 := (p224.2.1 : Int32)) (t0_2 := (p224.2.2.1 : Int32)) (t0_3 := (p224.2.2.2.1 : Int64)) (t0_4 := (p224.2.2.2.2.1 : Int32)) (t0_5 := (p224.2.2.2.2.2.1 : Int32)) (t0_6 := (p224.2.2.2.2.2.2.1 : Int32)) (t0_7 := (p224.2.2.2.2.2.2.2.1 : Int32)) (t0_8 := (p224.2.2.2.2.2.2.2.2.1 : Int32)) (t0_9 := (p224.2.2.2.2.2.2.2.2.2.1 : Int32)) (t0_10 := (p224.2.2.2.2.2.2.2.2.2.2.1 : Int32)) (t1_0 := (p224.2.2.2.2.2.2.2.2.2.2.2 : (Nat → Int32))) ⟨(by first | omega | decide), (by first | omega | decide)⟩ ⟨(by first | omega | decide), (by first | omega | decide)⟩
                      with_reducible refine v_owe h125.1 ?_
                      replace h125 := h125.2
                      generalize F_DR_exponent ((F_DR_down3 a117) : Int32) (p224.1 : Int32) (p224.2.1 : Int32) (p224.2.2.1 : Int32) (p224.2.2.2.1 : Int64) (p224.2.2.2.2.1 : Int32) (p224.2.2.2.2.2.1 : Int32) (p224.2.2.2.2.2.2.1 : Int32) (p224.2.2.2.2.2.2.2.1 : Int32) (p224.2.2.2.2.2.2.2.2.1 : Int32) (p224.2.2.2.2.2.2.2.2.2.1 : Int32) (p224.2.2.2.2.2.2.2.2.2.2.1 : Int32) (p224.2.2.2.2.2.2.2.2.2.2.2 : (Nat → Int32)) = p287 at *
                      unfold Q_DR_exponent at h125
                      unfold S_DR_written_c286 F_DR_written_c286
                      refine ⟨trivial, ?_⟩
                      (unfold Q_DR_written; dsimp only; first | omega | exact ⟨by decide, by decide, fun _ => by decide⟩)
                  ·
                    rw [if_neg g122, if_neg g122]
                    have g122i := q_nleI g122
                    unfold S_DR_written_J268 F_DR_written_J268
                    have h126 := T_DR_figures (x2 := x2) (x3 := (0 : Int32)) (x4 := (t2_0 x2.toNatClampNeg : Int32)) (x5 := ((a117 - ((F_DR_down3 a117) : Int32) : Int32) + 1 : Int32)) (t0_0 := (p927.1 : Int32)) (t0_1 := (p927.2.1 : Int32)) (t0_2 := (p927.2.2.1 : Int32)) (t0_3 := (p927.2.2.2.1 : Int64)) (t0_4 := (p927.2.2.2.2.1 : Int32)) (t0_5 := (p927.2.2.2.2.2.1 : Int32)) (t0_6 := (p927.2.2.2.2.2.2.1 : Int32)) (t0_7 := (p927.2.2.2.2.2.2.2.1 : Int32)) (t0_8 := (p927.2.2.2.2.2.2.2.2.1 : Int32)) (t0_9 := (p927.2.2.2.2.2.2.2.2.2.1 : Int32)) (t0_10 := (p927.2.2.2.2.2.2.2.2.2.2.1 : Int32)) (t1_0 := t1_0) (t2_0 := t2_0) (t3_0 := (p927.2.2.2.2.2.2.2.2.2.2.2 : (Nat → Int32))) (by with_reducible assumption) m2.1 ⟨(by first | omega | decide), (by first | omega | decide), (by first | omega | decide), (by first | omega | decide)⟩ (by first | omega | decide) (by first | omega | decide) (by first | omega | decide)
                    with_reducible refine v_owe h126.1 ?_
                    replace h126 := h126.2
                    generalize F_DR_figures x2 (0 : Int32) (t2_0 x2.toNatClampNeg : Int32) ((a117 - ((F_DR_down3 a117) : Int32) : Int32) + 1 : Int32) (p927.1 : Int32) (p927.2.1 : Int32) (p927.2.2.1 : Int32) (p927.2.2.2.1 : Int64) (p927.2.2.2.2.1 : Int32) (p927.2.2.2.2.2.1 : Int32) (p927.2.2.2.2.2.2.1 : Int32) (p927.2.2.2.2.2.2.2.1 : Int32) (p927.2.2.2.2.2.2.2.2.1 : Int32) (p927.2.2.2.2.2.2.2.2.2.1 : Int32) (p927.2.2.2.2.2.2.2.2.2.2.1 : Int32) t1_0 t2_0 (p927.2.2.2.2.2.2.2.2.2.2.2 : (Nat → Int32)) = p224 at *
                    unfold Q_DR_figures at h126
                    unfold S_DR_written_c275 F_DR_written_c275
                    by_cases g127 : ((F_DR_down3 a117) : Int32) = (0 : Int32)
                    ·
                      rw [if_pos g127, if_pos g127]
                      refine ⟨trivial, ?_⟩
                      (unfold Q_DR_written; dsimp only; first | omega | exact ⟨by decide, by decide, fun _ => by decide⟩)
                    ·
                      rw [if_neg g127, if_neg g127]
                      have h128 := T_DR_exponent (x2 := ((F_DR_down3 a117) : Int32)) (t0_0 := (p224.1 : Int32)) (t0_1 := (p224.2.1 : Int32)) (t0_2 := (p224.2.2.1 : Int32)) (t0_3 := (p224.2.2.2.1 : Int64)) (t0_4 := (p224.2.2.2.2.1 : Int32)) (t0_5 := (p224.2.2.2.2.2.1 : Int32)) (t0_6 := (p224.2.2.2.2.2.2.1 : Int32)) (t0_7 := (p224.2.2.2.2.2.2.2.1 : Int32)) (t0_8 := (p224.2.2.2.2.2.2.2.2.1 : Int32)) (t0_9 := (p224.2.2.2.2.2.2.2.2.2.1 : Int32)) (t0_10 := (p224.2.2.2.2.2.2.2.2.2.2.1 : Int32)) (t1_0 := (p224.2.2.2.2.2.2.2.2.2.2.2 : (Nat → Int32))) ⟨(by first | omega | decide), (by first | omega | decide)⟩ ⟨(by first | omega | decide), (by first | omega | decide)⟩
                      with_reducible refine v_owe h128.1 ?_
                      replace h128 := h128.2
                      generalize F_DR_exponent ((F_DR_down3 a117) : Int32) (p224.1 : Int32) (p224.2.1 : Int32) (p224.2.2.1 : Int32) (p224.2.2.2.1 : Int64) (p224.2.2.2.2.1 : Int32) (p224.2.2.2.2.2.1 : Int32) (p224.2.2.2.2.2.2.1 : Int32) (p224.2.2.2.2.2.2.2.1 : Int32) (p224.2.2.2.2.2.2.2.2.1 : Int32) (p224.2.2.2.2.2.2.2.2.2.1 : Int32) (p224.2.2.2.2.2.2.2.2.2.2.1 : Int32) (p224.2.2.2.2.2.2.2.2.2.2.2 : (Nat → Int32)) = p287 at *
                      unfold Q_DR_exponent at h128
                      unfold S_DR_written_c286 F_DR_written_c286
                      refine ⟨trivial, ?_⟩
                      (unfold Q_DR_written; dsimp only; first | omega | exact ⟨by decide, by decide, fun _ => by decide⟩)
                ·
                  rw [if_neg g121, if_neg g121]
                  try have en : (-a117 : Int32).toInt = -a117.toInt := q_negI rfl (by omega)
                  try have hdm := g_down3 (a := -a117) ⟨by omega, by omega⟩
                  try have eb : (-(F_DR_down3 (-a117)) : Int32).toInt = -(F_DR_down3 (-a117)).toInt := q_negI rfl (by omega)
                  try have ec : (1 + (-(F_DR_down3 (-a117))) : Int32).toInt = 1 + -(F_DR_down3 (-a117)).toInt := q_addI (x := 1) (by decide) eb (by omega) (by omega)
                  try have ee : (1 + (-(F_DR_down3 (-a117))) - a117 : Int32).toInt = (1 + -(F_DR_down3 (-a117)).toInt) - a117.toInt := q_subI ec rfl (by omega) (by omega)
                  have h129 := T_DR_figures (x2 := x2) (x3 := (0 : Int32)) (x4 := ((1 + (-((F_DR_down3 (-a117 : Int32)) : Int32) : Int32) : Int32) - a117 : Int32)) (x5 := (1 : Int32)) (t0_0 := (p927.1 : Int32)) (t0_1 := (p927.2.1 : Int32)) (t0_2 := (p927.2.2.1 : Int32)) (t0_3 := (p927.2.2.2.1 : Int64)) (t0_4 := (p927.2.2.2.2.1 : Int32)) (t0_5 := (p927.2.2.2.2.2.1 : Int32)) (t0_6 := (p927.2.2.2.2.2.2.1 : Int32)) (t0_7 := (p927.2.2.2.2.2.2.2.1 : Int32)) (t0_8 := (p927.2.2.2.2.2.2.2.2.1 : Int32)) (t0_9 := (p927.2.2.2.2.2.2.2.2.2.1 : Int32)) (t0_10 := (p927.2.2.2.2.2.2.2.2.2.2.1 : Int32)) (t1_0 := t1_0) (t2_0 := t2_0) (t3_0 := (p927.2.2.2.2.2.2.2.2.2.2.2 : (Nat → Int32))) (by with_reducible assumption) m2.1 ⟨(by first | omega | decide), (by first | omega | decide), (by first | omega | decide), (by first | omega | decide)⟩ (by first | omega | decide) (by first | omega | decide) (by first | omega | decide)
                  with_reducible refine v_owe h129.1 ?_
                  replace h129 := h129.2
                  generalize F_DR_figures x2 (0 : Int32) ((1 + (-((F_DR_down3 (-a117 : Int32)) : Int32) : Int32) : Int32) - a117 : Int32) (1 : Int32) (p927.1 : Int32) (p927.2.1 : Int32) (p927.2.2.1 : Int32) (p927.2.2.2.1 : Int64) (p927.2.2.2.2.1 : Int32) (p927.2.2.2.2.2.1 : Int32) (p927.2.2.2.2.2.2.1 : Int32) (p927.2.2.2.2.2.2.2.1 : Int32) (p927.2.2.2.2.2.2.2.2.1 : Int32) (p927.2.2.2.2.2.2.2.2.2.1 : Int32) (p927.2.2.2.2.2.2.2.2.2.2.1 : Int32) t1_0 t2_0 (p927.2.2.2.2.2.2.2.2.2.2.2 : (Nat → Int32)) = p372 at *
                  unfold Q_DR_figures at h129
                  unfold S_DR_written_c219 F_DR_written_c219
                  by_cases g130 : (-((F_DR_down3 (-a117 : Int32)) : Int32) : Int32) = (0 : Int32)
                  ·
                    rw [if_pos g130, if_pos g130]
                    refine ⟨trivial, ?_⟩
                    (unfold Q_DR_written; dsimp only; first | omega | exact ⟨by decide, by decide, fun _ => by decide⟩)
                  ·
                    rw [if_neg g130, if_neg g130]
                    have h131 := T_DR_exponent (x2 := (-((F_DR_down3 (-a117 : Int32)) : Int32) : Int32)) (t0_0 := (p372.1 : Int32)) (t0_1 := (p372.2.1 : Int32)) (t0_2 := (p372.2.2.1 : Int32)) (t0_3 := (p372.2.2.2.1 : Int64)) (t0_4 := (p372.2.2.2.2.1 : Int32)) (t0_5 := (p372.2.2.2.2.2.1 : Int32)) (t0_6 := (p372.2.2.2.2.2.2.1 : Int32)) (t0_7 := (p372.2.2.2.2.2.2.2.1 : Int32)) (t0_8 := (p372.2.2.2.2.2.2.2.2.1 : Int32)) (t0_9 := (p372.2.2.2.2.2.2.2.2.2.1 : Int32)) (t0_10 := (p372.2.2.2.2.2.2.2.2.2.2.1 : Int32)) (t1_0 := (p372.2.2.2.2.2.2.2.2.2.2.2 : (Nat → Int32))) ⟨(by first | omega | decide), (by first | omega | decide)⟩ ⟨(by first | omega | decide), (by first | omega | decide)⟩
                    with_reducible refine v_owe h131.1 ?_
                    replace h131 := h131.2
                    generalize F_DR_exponent (-((F_DR_down3 (-a117 : Int32)) : Int32) : Int32) (p372.1 : Int32) (p372.2.1 : Int32) (p372.2.2.1 : Int32) (p372.2.2.2.1 : Int64) (p372.2.2.2.2.1 : Int32) (p372.2.2.2.2.2.1 : Int32) (p372.2.2.2.2.2.2.1 : Int32) (p372.2.2.2.2.2.2.2.1 : Int32) (p372.2.2.2.2.2.2.2.2.1 : Int32) (p372.2.2.2.2.2.2.2.2.2.1 : Int32) (p372.2.2.2.2.2.2.2.2.2.2.1 : Int32) (p372.2.2.2.2.2.2.2.2.2.2.2 : (Nat → Int32)) = p435 at *
                    unfold Q_DR_exponent at h131
                    unfold S_DR_written_c230 F_DR_written_c230
                    refine ⟨trivial, ?_⟩
                    (unfold Q_DR_written; dsimp only; first | omega | exact ⟨by decide, by decide, fun _ => by decide⟩)
            ·
              rw [if_neg g116, if_neg g116]
              have g116i := q_nltI g116
              rw [if_neg g82, if_neg g82]
              by_cases g132 : a117 < (-6 : Int32)
              ·
                rw [if_pos g132, if_pos g132]
                have g132i : a117.toInt < -6 := q_ltI g132
                unfold S_DR_written_J170 F_DR_written_J170
                by_cases g133 : x3 = (0 : Int32)
                ·
                  rw [if_pos g133, if_pos g133]
                  have g133i : x3.toInt = 0 := q_eqI g133
                  have h134 := T_DR_figures (x2 := x2) (x3 := (0 : Int32)) (x4 := (t2_0 x2.toNatClampNeg : Int32)) (x5 := (1 : Int32)) (t0_0 := (p927.1 : Int32)) (t0_1 := (p927.2.1 : Int32)) (t0_2 := (p927.2.2.1 : Int32)) (t0_3 := (p927.2.2.2.1 : Int64)) (t0_4 := (p927.2.2.2.2.1 : Int32)) (t0_5 := (p927.2.2.2.2.2.1 : Int32)) (t0_6 := (p927.2.2.2.2.2.2.1 : Int32)) (t0_7 := (p927.2.2.2.2.2.2.2.1 : Int32)) (t0_8 := (p927.2.2.2.2.2.2.2.2.1 : Int32)) (t0_9 := (p927.2.2.2.2.2.2.2.2.2.1 : Int32)) (t0_10 := (p927.2.2.2.2.2.2.2.2.2.2.1 : Int32)) (t1_0 := t1_0) (t2_0 := t2_0) (t3_0 := (p927.2.2.2.2.2.2.2.2.2.2.2 : (Nat → Int32))) (by with_reducible assumption) m2.1 ⟨(by first | omega | decide), (by first | omega | decide), (by first | omega | decide), (by first | omega | decide)⟩ (by first | omega | decide) (by first | omega | decide) (by first | omega | decide)
                  with_reducible refine v_owe h134.1 ?_
                  replace h134 := h134.2
                  generalize F_DR_figures x2 (0 : Int32) (t2_0 x2.toNatClampNeg : Int32) (1 : Int32) (p927.1 : Int32) (p927.2.1 : Int32) (p927.2.2.1 : Int32) (p927.2.2.2.1 : Int64) (p927.2.2.2.2.1 : Int32) (p927.2.2.2.2.2.1 : Int32) (p927.2.2.2.2.2.2.1 : Int32) (p927.2.2.2.2.2.2.2.1 : Int32) (p927.2.2.2.2.2.2.2.2.1 : Int32) (p927.2.2.2.2.2.2.2.2.2.1 : Int32) (p927.2.2.2.2.2.2.2.2.2.2.1 : Int32) t1_0 t2_0 (p927.2.2.2.2.2.2.2.2.2.2.2 : (Nat → Int32)) = p496 at *
                  unfold Q_DR_figures at h134
                  unfold S_DR_written_c179 F_DR_written_c179
                  have h135 := T_DR_exponent (x2 := a117) (t0_0 := (p496.1 : Int32)) (t0_1 := (p496.2.1 : Int32)) (t0_2 := (p496.2.2.1 : Int32)) (t0_3 := (p496.2.2.2.1 : Int64)) (t0_4 := (p496.2.2.2.2.1 : Int32)) (t0_5 := (p496.2.2.2.2.2.1 : Int32)) (t0_6 := (p496.2.2.2.2.2.2.1 : Int32)) (t0_7 := (p496.2.2.2.2.2.2.2.1 : Int32)) (t0_8 := (p496.2.2.2.2.2.2.2.2.1 : Int32)) (t0_9 := (p496.2.2.2.2.2.2.2.2.2.1 : Int32)) (t0_10 := (p496.2.2.2.2.2.2.2.2.2.2.1 : Int32)) (t1_0 := (p496.2.2.2.2.2.2.2.2.2.2.2 : (Nat → Int32))) ⟨(by first | omega | decide), (by first | omega | decide)⟩ ⟨(by first | omega | decide), (by first | omega | decide)⟩
                  with_reducible refine v_owe h135.1 ?_
                  replace h135 := h135.2
                  generalize F_DR_exponent a117 (p496.1 : Int32) (p496.2.1 : Int32) (p496.2.2.1 : Int32) (p496.2.2.2.1 : Int64) (p496.2.2.2.2.1 : Int32) (p496.2.2.2.2.2.1 : Int32) (p496.2.2.2.2.2.2.1 : Int32) (p496.2.2.2.2.2.2.2.1 : Int32) (p496.2.2.2.2.2.2.2.2.1 : Int32) (p496.2.2.2.2.2.2.2.2.2.1 : Int32) (p496.2.2.2.2.2.2.2.2.2.2.1 : Int32) (p496.2.2.2.2.2.2.2.2.2.2.2 : (Nat → Int32)) = p556 at *
                  unfold Q_DR_exponent at h135
                  unfold S_DR_written_c185 F_DR_written_c185
                  refine ⟨trivial, ?_⟩
                  (unfold Q_DR_written; dsimp only; first | omega | exact ⟨by decide, by decide, fun _ => by decide⟩)
                ·
                  rw [if_neg g133, if_neg g133]
                  have g133i : x3.toInt ≠ 0 := q_neI g133
                  have h136 := R_dz (x2 := x2) (t0_0 := (p927.1 : Int32)) (t0_1 := (p927.2.1 : Int32)) (t0_2 := (p927.2.2.1 : Int32)) (t0_3 := (p927.2.2.2.1 : Int64)) (t0_4 := (p927.2.2.2.2.1 : Int32)) (t0_5 := (p927.2.2.2.2.2.1 : Int32)) (t0_6 := (p927.2.2.2.2.2.2.1 : Int32)) (t0_7 := (p927.2.2.2.2.2.2.2.1 : Int32)) (t0_8 := (p927.2.2.2.2.2.2.2.2.1 : Int32)) (t0_9 := (p927.2.2.2.2.2.2.2.2.2.1 : Int32)) (t0_10 := (p927.2.2.2.2.2.2.2.2.2.2.1 : Int32)) (t1_0 := t1_0) (by with_reducible assumption)
                  with_reducible refine v_owe h136.1 ?_
                  by_cases g137 : ((F_DR_isZero x2 (p927.1 : Int32) (p927.2.1 : Int32) (p927.2.2.1 : Int32) (p927.2.2.2.1 : Int64) (p927.2.2.2.2.1 : Int32) (p927.2.2.2.2.2.1 : Int32) (p927.2.2.2.2.2.2.1 : Int32) (p927.2.2.2.2.2.2.2.1 : Int32) (p927.2.2.2.2.2.2.2.2.1 : Int32) (p927.2.2.2.2.2.2.2.2.2.1 : Int32) (p927.2.2.2.2.2.2.2.2.2.2.1 : Int32) t1_0) : Int32) = (0 : Int32)
                  ·
                    rw [if_pos g137, if_pos g137]
                    try have hdn := g_down3 (a := a117) ⟨by omega, by omega⟩
                    try have ed1 : (a117 - F_DR_down3 a117 : Int32).toInt = a117.toInt - (F_DR_down3 a117).toInt := q_subI rfl rfl (by omega) (by omega)
                    try have ed2 : (a117 - F_DR_down3 a117 + 1 : Int32).toInt = (a117.toInt - (F_DR_down3 a117).toInt) + 1 := q_addI (y := 1) ed1 (by decide) (by omega) (by omega)
                    by_cases g138 : (t2_0 x2.toNatClampNeg : Int32) ≤ ((a117 - ((F_DR_down3 a117) : Int32) : Int32) + 1 : Int32)
                    ·
                      rw [if_pos g138, if_pos g138]
                      have g138i := q_leI g138
                      unfold S_DR_written_J268 F_DR_written_J268
                      have h139 := T_DR_figures (x2 := x2) (x3 := (0 : Int32)) (x4 := ((a117 - ((F_DR_down3 a117) : Int32) : Int32) + 1 : Int32)) (x5 := ((a117 - ((F_DR_down3 a117) : Int32) : Int32) + 1 : Int32)) (t0_0 := (p927.1 : Int32)) (t0_1 := (p927.2.1 : Int32)) (t0_2 := (p927.2.2.1 : Int32)) (t0_3 := (p927.2.2.2.1 : Int64)) (t0_4 := (p927.2.2.2.2.1 : Int32)) (t0_5 := (p927.2.2.2.2.2.1 : Int32)) (t0_6 := (p927.2.2.2.2.2.2.1 : Int32)) (t0_7 := (p927.2.2.2.2.2.2.2.1 : Int32)) (t0_8 := (p927.2.2.2.2.2.2.2.2.1 : Int32)) (t0_9 := (p927.2.2.2.2.2.2.2.2.2.1 : Int32)) (t0_10 := (p927.2.2.2.2.2.2.2.2.2.2.1 : Int32)) (t1_0 := t1_0) (t2_0 := t2_0) (t3_0 := (p927.2.2.2.2.2.2.2.2.2.2.2 : (Nat → Int32))) (by with_reducible assumption) m2.1 ⟨(by first | omega | decide), (by first | omega | decide), (by first | omega | decide), (by first | omega | decide)⟩ (by first | omega | decide) (by first | omega | decide) (by first | omega | decide)
                      with_reducible refine v_owe h139.1 ?_
                      replace h139 := h139.2
                      generalize F_DR_figures x2 (0 : Int32) ((a117 - ((F_DR_down3 a117) : Int32) : Int32) + 1 : Int32) ((a117 - ((F_DR_down3 a117) : Int32) : Int32) + 1 : Int32) (p927.1 : Int32) (p927.2.1 : Int32) (p927.2.2.1 : Int32) (p927.2.2.2.1 : Int64) (p927.2.2.2.2.1 : Int32) (p927.2.2.2.2.2.1 : Int32) (p927.2.2.2.2.2.2.1 : Int32) (p927.2.2.2.2.2.2.2.1 : Int32) (p927.2.2.2.2.2.2.2.2.1 : Int32) (p927.2.2.2.2.2.2.2.2.2.1 : Int32) (p927.2.2.2.2.2.2.2.2.2.2.1 : Int32) t1_0 t2_0 (p927.2.2.2.2.2.2.2.2.2.2.2 : (Nat → Int32)) = p224 at *
                      unfold Q_DR_figures at h139
                      unfold S_DR_written_c275 F_DR_written_c275
                      by_cases g140 : ((F_DR_down3 a117) : Int32) = (0 : Int32)
                      ·
                        rw [if_pos g140, if_pos g140]
                        refine ⟨trivial, ?_⟩
                        (unfold Q_DR_written; dsimp only; first | omega | exact ⟨by decide, by decide, fun _ => by decide⟩)
                      ·
                        rw [if_neg g140, if_neg g140]
                        have h141 := T_DR_exponent (x2 := ((F_DR_down3 a117) : Int32)) (t0_0 := (p224.1 : Int32)) (t0_1 := (p224.2.1 : Int32)) (t0_2 := (p224.2.2.1 : Int32)) (t0_3 := (p224.2.2.2.1 : Int64)) (t0_4 := (p224.2.2.2.2.1 : Int32)) (t0_5 := (p224.2.2.2.2.2.1 : Int32)) (t0_6 := (p224.2.2.2.2.2.2.1 : Int32)) (t0_7 := (p224.2.2.2.2.2.2.2.1 : Int32)) (t0_8 := (p224.2.2.2.2.2.2.2.2.1 : Int32)) (t0_9 := (p224.2.2.2.2.2.2.2.2.2.1 : Int32)) (t0_10 := (p224.2.2.2.2.2.2.2.2.2.2.1 : Int32)) (t1_0 := (p224.2.2.2.2.2.2.2.2.2.2.2 : (Nat → Int32))) ⟨(by first | omega | decide), (by first | omega | decide)⟩ ⟨(by first | omega | decide), (by first | omega | decide)⟩
                        with_reducible refine v_owe h141.1 ?_
                        replace h141 := h141.2
                        generalize F_DR_exponent ((F_DR_down3 a117) : Int32) (p224.1 : Int32) (p224.2.1 : Int32) (p224.2.2.1 : Int32) (p224.2.2.2.1 : Int64) (p224.2.2.2.2.1 : Int32) (p224.2.2.2.2.2.1 : Int32) (p224.2.2.2.2.2.2.1 : Int32) (p224.2.2.2.2.2.2.2.1 : Int32) (p224.2.2.2.2.2.2.2.2.1 : Int32) (p224.2.2.2.2.2.2.2.2.2.1 : Int32) (p224.2.2.2.2.2.2.2.2.2.2.1 : Int32) (p224.2.2.2.2.2.2.2.2.2.2.2 : (Nat → Int32)) = p287 at *
                        unfold Q_DR_exponent at h141
                        unfold S_DR_written_c286 F_DR_written_c286
                        refine ⟨trivial, ?_⟩
                        (unfold Q_DR_written; dsimp only; first | omega | exact ⟨by decide, by decide, fun _ => by decide⟩)
                    ·
                      rw [if_neg g138, if_neg g138]
                      have g138i := q_nleI g138
                      unfold S_DR_written_J268 F_DR_written_J268
                      have h142 := T_DR_figures (x2 := x2) (x3 := (0 : Int32)) (x4 := (t2_0 x2.toNatClampNeg : Int32)) (x5 := ((a117 - ((F_DR_down3 a117) : Int32) : Int32) + 1 : Int32)) (t0_0 := (p927.1 : Int32)) (t0_1 := (p927.2.1 : Int32)) (t0_2 := (p927.2.2.1 : Int32)) (t0_3 := (p927.2.2.2.1 : Int64)) (t0_4 := (p927.2.2.2.2.1 : Int32)) (t0_5 := (p927.2.2.2.2.2.1 : Int32)) (t0_6 := (p927.2.2.2.2.2.2.1 : Int32)) (t0_7 := (p927.2.2.2.2.2.2.2.1 : Int32)) (t0_8 := (p927.2.2.2.2.2.2.2.2.1 : Int32)) (t0_9 := (p927.2.2.2.2.2.2.2.2.2.1 : Int32)) (t0_10 := (p927.2.2.2.2.2.2.2.2.2.2.1 : Int32)) (t1_0 := t1_0) (t2_0 := t2_0) (t3_0 := (p927.2.2.2.2.2.2.2.2.2.2.2 : (Nat → Int32))) (by with_reducible assumption) m2.1 ⟨(by first | omega | decide), (by first | omega | decide), (by first | omega | decide), (by first | omega | decide)⟩ (by first | omega | decide) (by first | omega | decide) (by first | omega | decide)
                      with_reducible refine v_owe h142.1 ?_
                      replace h142 := h142.2
                      generalize F_DR_figures x2 (0 : Int32) (t2_0 x2.toNatClampNeg : Int32) ((a117 - ((F_DR_down3 a117) : Int32) : Int32) + 1 : Int32) (p927.1 : Int32) (p927.2.1 : Int32) (p927.2.2.1 : Int32) (p927.2.2.2.1 : Int64) (p927.2.2.2.2.1 : Int32) (p927.2.2.2.2.2.1 : Int32) (p927.2.2.2.2.2.2.1 : Int32) (p927.2.2.2.2.2.2.2.1 : Int32) (p927.2.2.2.2.2.2.2.2.1 : Int32) (p927.2.2.2.2.2.2.2.2.2.1 : Int32) (p927.2.2.2.2.2.2.2.2.2.2.1 : Int32) t1_0 t2_0 (p927.2.2.2.2.2.2.2.2.2.2.2 : (Nat → Int32)) = p224 at *
                      unfold Q_DR_figures at h142
                      unfold S_DR_written_c275 F_DR_written_c275
                      by_cases g143 : ((F_DR_down3 a117) : Int32) = (0 : Int32)
                      ·
                        rw [if_pos g143, if_pos g143]
                        refine ⟨trivial, ?_⟩
                        (unfold Q_DR_written; dsimp only; first | omega | exact ⟨by decide, by decide, fun _ => by decide⟩)
                      ·
                        rw [if_neg g143, if_neg g143]
                        have h144 := T_DR_exponent (x2 := ((F_DR_down3 a117) : Int32)) (t0_0 := (p224.1 : Int32)) (t0_1 := (p224.2.1 : Int32)) (t0_2 := (p224.2.2.1 : Int32)) (t0_3 := (p224.2.2.2.1 : Int64)) (t0_4 := (p224.2.2.2.2.1 : Int32)) (t0_5 := (p224.2.2.2.2.2.1 : Int32)) (t0_6 := (p224.2.2.2.2.2.2.1 : Int32)) (t0_7 := (p224.2.2.2.2.2.2.2.1 : Int32)) (t0_8 := (p224.2.2.2.2.2.2.2.2.1 : Int32)) (t0_9 := (p224.2.2.2.2.2.2.2.2.2.1 : Int32)) (t0_10 := (p224.2.2.2.2.2.2.2.2.2.2.1 : Int32)) (t1_0 := (p224.2.2.2.2.2.2.2.2.2.2.2 : (Nat → Int32))) ⟨(by first | omega | decide), (by first | omega | decide)⟩ ⟨(by first | omega | decide), (by first | omega | decide)⟩
                        with_reducible refine v_owe h144.1 ?_
                        replace h144 := h144.2
                        generalize F_DR_exponent ((F_DR_down3 a117) : Int32) (p224.1 : Int32) (p224.2.1 : Int32) (p224.2.2.1 : Int32) (p224.2.2.2.1 : Int64) (p224.2.2.2.2.1 : Int32) (p224.2.2.2.2.2.1 : Int32) (p224.2.2.2.2.2.2.1 : Int32) (p224.2.2.2.2.2.2.2.1 : Int32) (p224.2.2.2.2.2.2.2.2.1 : Int32) (p224.2.2.2.2.2.2.2.2.2.1 : Int32) (p224.2.2.2.2.2.2.2.2.2.2.1 : Int32) (p224.2.2.2.2.2.2.2.2.2.2.2 : (Nat → Int32)) = p287 at *
                        unfold Q_DR_exponent at h144
                        unfold S_DR_written_c286 F_DR_written_c286
                        refine ⟨trivial, ?_⟩
                        (unfold Q_DR_written; dsimp only; first | omega | exact ⟨by decide, by decide, fun _ => by decide⟩)
                  ·
                    rw [if_neg g137, if_neg g137]
                    try have en : (-a117 : Int32).toInt = -a117.toInt := q_negI rfl (by omega)
                    try have hdm := g_down3 (a := -a117) ⟨by omega, by omega⟩
                    try have eb : (-(F_DR_down3 (-a117)) : Int32).toInt = -(F_DR_down3 (-a117)).toInt := q_negI rfl (by omega)
                    try have ec : (1 + (-(F_DR_down3 (-a117))) : Int32).toInt = 1 + -(F_DR_down3 (-a117)).toInt := q_addI (x := 1) (by decide) eb (by omega) (by omega)
                    try have ee : (1 + (-(F_DR_down3 (-a117))) - a117 : Int32).toInt = (1 + -(F_DR_down3 (-a117)).toInt) - a117.toInt := q_subI ec rfl (by omega) (by omega)
                    have h145 := T_DR_figures (x2 := x2) (x3 := (0 : Int32)) (x4 := ((1 + (-((F_DR_down3 (-a117 : Int32)) : Int32) : Int32) : Int32) - a117 : Int32)) (x5 := (1 : Int32)) (t0_0 := (p927.1 : Int32)) (t0_1 := (p927.2.1 : Int32)) (t0_2 := (p927.2.2.1 : Int32)) (t0_3 := (p927.2.2.2.1 : Int64)) (t0_4 := (p927.2.2.2.2.1 : Int32)) (t0_5 := (p927.2.2.2.2.2.1 : Int32)) (t0_6 := (p927.2.2.2.2.2.2.1 : Int32)) (t0_7 := (p927.2.2.2.2.2.2.2.1 : Int32)) (t0_8 := (p927.2.2.2.2.2.2.2.2.1 : Int32)) (t0_9 := (p927.2.2.2.2.2.2.2.2.2.1 : Int32)) (t0_10 := (p927.2.2.2.2.2.2.2.2.2.2.1 : Int32)) (t1_0 := t1_0) (t2_0 := t2_0) (t3_0 := (p927.2.2.2.2.2.2.2.2.2.2.2 : (Nat → Int32))) (by with_reducible assumption) m2.1 ⟨(by first | omega | decide), (by first | omega | decide), (by first | omega | decide), (by first | omega | decide)⟩ (by first | omega | decide) (by first | omega | decide) (by first | omega | decide)
                    with_reducible refine v_owe h145.1 ?_
                    replace h145 := h145.2
                    generalize F_DR_figures x2 (0 : Int32) ((1 + (-((F_DR_down3 (-a117 : Int32)) : Int32) : Int32) : Int32) - a117 : Int32) (1 : Int32) (p927.1 : Int32) (p927.2.1 : Int32) (p927.2.2.1 : Int32) (p927.2.2.2.1 : Int64) (p927.2.2.2.2.1 : Int32) (p927.2.2.2.2.2.1 : Int32) (p927.2.2.2.2.2.2.1 : Int32) (p927.2.2.2.2.2.2.2.1 : Int32) (p927.2.2.2.2.2.2.2.2.1 : Int32) (p927.2.2.2.2.2.2.2.2.2.1 : Int32) (p927.2.2.2.2.2.2.2.2.2.2.1 : Int32) t1_0 t2_0 (p927.2.2.2.2.2.2.2.2.2.2.2 : (Nat → Int32)) = p372 at *
                    unfold Q_DR_figures at h145
                    unfold S_DR_written_c219 F_DR_written_c219
                    by_cases g146 : (-((F_DR_down3 (-a117 : Int32)) : Int32) : Int32) = (0 : Int32)
                    ·
                      rw [if_pos g146, if_pos g146]
                      refine ⟨trivial, ?_⟩
                      (unfold Q_DR_written; dsimp only; first | omega | exact ⟨by decide, by decide, fun _ => by decide⟩)
                    ·
                      rw [if_neg g146, if_neg g146]
                      have h147 := T_DR_exponent (x2 := (-((F_DR_down3 (-a117 : Int32)) : Int32) : Int32)) (t0_0 := (p372.1 : Int32)) (t0_1 := (p372.2.1 : Int32)) (t0_2 := (p372.2.2.1 : Int32)) (t0_3 := (p372.2.2.2.1 : Int64)) (t0_4 := (p372.2.2.2.2.1 : Int32)) (t0_5 := (p372.2.2.2.2.2.1 : Int32)) (t0_6 := (p372.2.2.2.2.2.2.1 : Int32)) (t0_7 := (p372.2.2.2.2.2.2.2.1 : Int32)) (t0_8 := (p372.2.2.2.2.2.2.2.2.1 : Int32)) (t0_9 := (p372.2.2.2.2.2.2.2.2.2.1 : Int32)) (t0_10 := (p372.2.2.2.2.2.2.2.2.2.2.1 : Int32)) (t1_0 := (p372.2.2.2.2.2.2.2.2.2.2.2 : (Nat → Int32))) ⟨(by first | omega | decide), (by first | omega | decide)⟩ ⟨(by first | omega | decide), (by first | omega | decide)⟩
                      with_reducible refine v_owe h147.1 ?_
                      replace h147 := h147.2
                      generalize F_DR_exponent (-((F_DR_down3 (-a117 : Int32)) : Int32) : Int32) (p372.1 : Int32) (p372.2.1 : Int32) (p372.2.2.1 : Int32) (p372.2.2.2.1 : Int64) (p372.2.2.2.2.1 : Int32) (p372.2.2.2.2.2.1 : Int32) (p372.2.2.2.2.2.2.1 : Int32) (p372.2.2.2.2.2.2.2.1 : Int32) (p372.2.2.2.2.2.2.2.2.1 : Int32) (p372.2.2.2.2.2.2.2.2.2.1 : Int32) (p372.2.2.2.2.2.2.2.2.2.2.1 : Int32) (p372.2.2.2.2.2.2.2.2.2.2.2 : (Nat → Int32)) = p435 at *
                      unfold Q_DR_exponent at h147
                      unfold S_DR_written_c230 F_DR_written_c230
                      refine ⟨trivial, ?_⟩
                      (unfold Q_DR_written; dsimp only; first | omega | exact ⟨by decide, by decide, fun _ => by decide⟩)
              ·
                rw [if_neg g132, if_neg g132]
                have g132i : -6 ≤ a117.toInt := q_nltI g132
                unfold S_DR_written_J130 F_DR_written_J130
                by_cases g148 : (1 : Int32) ≤ ((t2_0 x2.toNatClampNeg : Int32) - (t4_0 x2.toNatClampNeg : Int32) : Int32)
                ·
                  rw [if_pos g148, if_pos g148]
                  have emc : ((t2_0 x2.toNatClampNeg) - (t4_0 x2.toNatClampNeg) : Int32).toInt = (t2_0 x2.toNatClampNeg).toInt - (t4_0 x2.toNatClampNeg).toInt := q_subI rfl rfl (by omega) (by omega)
                  have g148i := q_leI g148
                  unfold S_DR_written_J150 F_DR_written_J150
                  by_cases g149 : (t4_0 x2.toNatClampNeg : Int32) = (0 : Int32)
                  ·
                    rw [if_pos g149, if_pos g149]
                    have g149i := q_eqI g149
                    have h150 := T_DR_figures (x2 := x2) (x3 := (0 : Int32)) (x4 := (t2_0 x2.toNatClampNeg : Int32)) (x5 := (-1 : Int32)) (t0_0 := (p927.1 : Int32)) (t0_1 := (p927.2.1 : Int32)) (t0_2 := (p927.2.2.1 : Int32)) (t0_3 := (p927.2.2.2.1 : Int64)) (t0_4 := (p927.2.2.2.2.1 : Int32)) (t0_5 := (p927.2.2.2.2.2.1 : Int32)) (t0_6 := (p927.2.2.2.2.2.2.1 : Int32)) (t0_7 := (p927.2.2.2.2.2.2.2.1 : Int32)) (t0_8 := (p927.2.2.2.2.2.2.2.2.1 : Int32)) (t0_9 := (p927.2.2.2.2.2.2.2.2.2.1 : Int32)) (t0_10 := (p927.2.2.2.2.2.2.2.2.2.2.1 : Int32)) (t1_0 := t1_0) (t2_0 := t2_0) (t3_0 := (p927.2.2.2.2.2.2.2.2.2.2.2 : (Nat → Int32))) (by with_reducible assumption) m2.1 ⟨(by first | omega | decide), (by first | omega | decide), (by first | omega | decide), (by first | omega | decide)⟩ (by first | omega | decide) (by first | omega | decide) (by first | omega | decide)
                    with_reducible refine v_owe h150.1 ?_
                    replace h150 := h150.2
                    generalize F_DR_figures x2 (0 : Int32) (t2_0 x2.toNatClampNeg : Int32) (-1 : Int32) (p927.1 : Int32) (p927.2.1 : Int32) (p927.2.2.1 : Int32) (p927.2.2.2.1 : Int64) (p927.2.2.2.2.1 : Int32) (p927.2.2.2.2.2.1 : Int32) (p927.2.2.2.2.2.2.1 : Int32) (p927.2.2.2.2.2.2.2.1 : Int32) (p927.2.2.2.2.2.2.2.2.1 : Int32) (p927.2.2.2.2.2.2.2.2.2.1 : Int32) (p927.2.2.2.2.2.2.2.2.2.2.1 : Int32) t1_0 t2_0 (p927.2.2.2.2.2.2.2.2.2.2.2 : (Nat → Int32)) = p711 at *
                    unfold Q_DR_figures at h150
                    unfold S_DR_written_c164_15 F_DR_written_c164_15
                    refine ⟨trivial, ?_⟩
                    (unfold Q_DR_written; dsimp only; first | omega | exact ⟨by decide, by decide, fun _ => by decide⟩)
                  ·
                    rw [if_neg g149, if_neg g149]
                    have g149i := q_neI g149
                    have h151 := T_DR_figures (x2 := x2) (x3 := (0 : Int32)) (x4 := (t2_0 x2.toNatClampNeg : Int32)) (x5 := ((t2_0 x2.toNatClampNeg : Int32) - (t4_0 x2.toNatClampNeg : Int32) : Int32)) (t0_0 := (p927.1 : Int32)) (t0_1 := (p927.2.1 : Int32)) (t0_2 := (p927.2.2.1 : Int32)) (t0_3 := (p927.2.2.2.1 : Int64)) (t0_4 := (p927.2.2.2.2.1 : Int32)) (t0_5 := (p927.2.2.2.2.2.1 : Int32)) (t0_6 := (p927.2.2.2.2.2.2.1 : Int32)) (t0_7 := (p927.2.2.2.2.2.2.2.1 : Int32)) (t0_8 := (p927.2.2.2.2.2.2.2.2.1 : Int32)) (t0_9 := (p927.2.2.2.2.2.2.2.2.2.1 : Int32)) (t0_10 := (p927.2.2.2.2.2.2.2.2.2.2.1 : Int32)) (t1_0 := t1_0) (t2_0 := t2_0) (t3_0 := (p927.2.2.2.2.2.2.2.2.2.2.2 : (Nat → Int32))) (by with_reducible assumption) m2.1 ⟨(by first | omega | decide), (by first | omega | decide), (by first | omega | decide), (by first | omega | decide)⟩ (by first | omega | decide) (by first | omega | decide) (by first | omega | decide)
                    with_reducible refine v_owe h151.1 ?_
                    replace h151 := h151.2
                    generalize F_DR_figures x2 (0 : Int32) (t2_0 x2.toNatClampNeg : Int32) ((t2_0 x2.toNatClampNeg : Int32) - (t4_0 x2.toNatClampNeg : Int32) : Int32) (p927.1 : Int32) (p927.2.1 : Int32) (p927.2.2.1 : Int32) (p927.2.2.2.1 : Int64) (p927.2.2.2.2.1 : Int32) (p927.2.2.2.2.2.1 : Int32) (p927.2.2.2.2.2.2.1 : Int32) (p927.2.2.2.2.2.2.2.1 : Int32) (p927.2.2.2.2.2.2.2.2.1 : Int32) (p927.2.2.2.2.2.2.2.2.2.1 : Int32) (p927.2.2.2.2.2.2.2.2.2.2.1 : Int32) t1_0 t2_0 (p927.2.2.2.2.2.2.2.2.2.2.2 : (Nat → Int32)) = p650 at *
                    unfold Q_DR_figures at h151
                    unfold S_DR_written_c164 F_DR_written_c164
                    refine ⟨trivial, ?_⟩
                    (unfold Q_DR_written; dsimp only; first | omega | exact ⟨by decide, by decide, fun _ => by decide⟩)
                ·
                  rw [if_neg g148, if_neg g148]
                  have emc : ((t2_0 x2.toNatClampNeg) - (t4_0 x2.toNatClampNeg) : Int32).toInt = (t2_0 x2.toNatClampNeg).toInt - (t4_0 x2.toNatClampNeg).toInt := q_subI rfl rfl (by omega) (by omega)
                  have g148i := q_nleI g148
                  obtain ⟨lx592, e152⟩ := q_nm ((((t2_0 x2.toNatClampNeg : Int32) - (t4_0 x2.toNatClampNeg : Int32) : Int32) - 1 : Int32) : Int32)
                  rw [e152]
                  have l592 : lx592.toInt = (t2_0 x2.toNatClampNeg).toInt - (t4_0 x2.toNatClampNeg).toInt - 1 := by rw [← e152]; exact q_subI (y := 1) emc rfl (by omega) (by omega)
                  unfold S_DR_written_J150 F_DR_written_J150
                  by_cases g153 : (t4_0 x2.toNatClampNeg : Int32) = (0 : Int32)
                  ·
                    rw [if_pos g153, if_pos g153]
                    have g153i := q_eqI g153
                    have h154 := T_DR_figures (x2 := x2) (x3 := lx592) (x4 := (t2_0 x2.toNatClampNeg : Int32)) (x5 := (-1 : Int32)) (t0_0 := (p927.1 : Int32)) (t0_1 := (p927.2.1 : Int32)) (t0_2 := (p927.2.2.1 : Int32)) (t0_3 := (p927.2.2.2.1 : Int64)) (t0_4 := (p927.2.2.2.2.1 : Int32)) (t0_5 := (p927.2.2.2.2.2.1 : Int32)) (t0_6 := (p927.2.2.2.2.2.2.1 : Int32)) (t0_7 := (p927.2.2.2.2.2.2.2.1 : Int32)) (t0_8 := (p927.2.2.2.2.2.2.2.2.1 : Int32)) (t0_9 := (p927.2.2.2.2.2.2.2.2.2.1 : Int32)) (t0_10 := (p927.2.2.2.2.2.2.2.2.2.2.1 : Int32)) (t1_0 := t1_0) (t2_0 := t2_0) (t3_0 := (p927.2.2.2.2.2.2.2.2.2.2.2 : (Nat → Int32))) (by with_reducible assumption) m2.1 ⟨(by first | omega | decide), (by first | omega | decide), (by first | omega | decide), (by first | omega | decide)⟩ (by first | omega | decide) (by first | omega | decide) (by first | omega | decide)
                    with_reducible refine v_owe h154.1 ?_
                    replace h154 := h154.2
                    generalize F_DR_figures x2 lx592 (t2_0 x2.toNatClampNeg : Int32) (-1 : Int32) (p927.1 : Int32) (p927.2.1 : Int32) (p927.2.2.1 : Int32) (p927.2.2.2.1 : Int64) (p927.2.2.2.2.1 : Int32) (p927.2.2.2.2.2.1 : Int32) (p927.2.2.2.2.2.2.1 : Int32) (p927.2.2.2.2.2.2.2.1 : Int32) (p927.2.2.2.2.2.2.2.2.1 : Int32) (p927.2.2.2.2.2.2.2.2.2.1 : Int32) (p927.2.2.2.2.2.2.2.2.2.2.1 : Int32) t1_0 t2_0 (p927.2.2.2.2.2.2.2.2.2.2.2 : (Nat → Int32)) = p711 at *
                    unfold Q_DR_figures at h154
                    unfold S_DR_written_c164_15 F_DR_written_c164_15
                    refine ⟨trivial, ?_⟩
                    (unfold Q_DR_written; dsimp only; first | omega | exact ⟨by decide, by decide, fun _ => by decide⟩)
                  ·
                    rw [if_neg g153, if_neg g153]
                    have g153i := q_neI g153
                    have h155 := T_DR_figures (x2 := x2) (x3 := lx592) (x4 := (t2_0 x2.toNatClampNeg : Int32)) (x5 := ((t2_0 x2.toNatClampNeg : Int32) - (t4_0 x2.toNatClampNeg : Int32) : Int32)) (t0_0 := (p927.1 : Int32)) (t0_1 := (p927.2.1 : Int32)) (t0_2 := (p927.2.2.1 : Int32)) (t0_3 := (p927.2.2.2.1 : Int64)) (t0_4 := (p927.2.2.2.2.1 : Int32)) (t0_5 := (p927.2.2.2.2.2.1 : Int32)) (t0_6 := (p927.2.2.2.2.2.2.1 : Int32)) (t0_7 := (p927.2.2.2.2.2.2.2.1 : Int32)) (t0_8 := (p927.2.2.2.2.2.2.2.2.1 : Int32)) (t0_9 := (p927.2.2.2.2.2.2.2.2.2.1 : Int32)) (t0_10 := (p927.2.2.2.2.2.2.2.2.2.2.1 : Int32)) (t1_0 := t1_0) (t2_0 := t2_0) (t3_0 := (p927.2.2.2.2.2.2.2.2.2.2.2 : (Nat → Int32))) (by with_reducible assumption) m2.1 ⟨(by first | omega | decide), (by first | omega | decide), (by first | omega | decide), (by first | omega | decide)⟩ (by first | omega | decide) (by first | omega | decide) (by first | omega | decide)
                    with_reducible refine v_owe h155.1 ?_
                    replace h155 := h155.2
                    generalize F_DR_figures x2 lx592 (t2_0 x2.toNatClampNeg : Int32) ((t2_0 x2.toNatClampNeg : Int32) - (t4_0 x2.toNatClampNeg : Int32) : Int32) (p927.1 : Int32) (p927.2.1 : Int32) (p927.2.2.1 : Int32) (p927.2.2.2.1 : Int64) (p927.2.2.2.2.1 : Int32) (p927.2.2.2.2.2.1 : Int32) (p927.2.2.2.2.2.2.1 : Int32) (p927.2.2.2.2.2.2.2.1 : Int32) (p927.2.2.2.2.2.2.2.2.1 : Int32) (p927.2.2.2.2.2.2.2.2.2.1 : Int32) (p927.2.2.2.2.2.2.2.2.2.2.1 : Int32) t1_0 t2_0 (p927.2.2.2.2.2.2.2.2.2.2.2 : (Nat → Int32)) = p650 at *
                    unfold Q_DR_figures at h155
                    unfold S_DR_written_c164 F_DR_written_c164
                    refine ⟨trivial, ?_⟩
                    (unfold Q_DR_written; dsimp only; first | omega | exact ⟨by decide, by decide, fun _ => by decide⟩)
      ·
        rw [if_neg g4, if_neg g4]
        have g4i : 2 < x3.toInt := q_nleI g4
        unfold S_DR_written_J17 F_DR_written_J17
        unfold S_DR_written_J22 F_DR_written_J22
        have g156 : ¬ ((1 : Int32) ≤ (0 : Int32)) := (by decide)
        rw [if_neg g156, if_neg g156]
        refine ⟨trivial, ?_⟩
        (unfold Q_DR_written; dsimp only; first | omega | exact ⟨by decide, by decide, fun _ => by decide⟩)
  ·
    rw [if_neg g1, if_neg g1]
    unfold S_DR_written_J17 F_DR_written_J17
    unfold S_DR_written_J22 F_DR_written_J22
    have g157 : ¬ ((1 : Int32) ≤ (0 : Int32)) := (by decide)
    rw [if_neg g157, if_neg g157]
    refine ⟨trivial, ?_⟩
    (unfold Q_DR_written; dsimp only; first | omega | exact ⟨by decide, by decide, fun _ => by decide⟩)

/-! DecimalRows: quotient -/
theorem u_islL {t0_0 : Int32} {t0_1 : Int32} {t0_2 : Int32} {t0_3 : Int64} {t0_4 : Int32} {t0_5 : Int32} {t0_6 : Int32} {t0_7 : Int32} {t0_8 : Int32} {t0_9 : Int32} {t0_10 : Int32} {t1_0 : (Nat → Int32)} (h7 : 0 ≤ t0_7.toInt ∧ t0_7.toInt ≤ 2200) : ∀ (n : Nat) (k b : Int32), 0 ≤ k.toInt → k.toInt ≤ t0_7.toInt + 1 → (b = 0 ∨ ∃ i : Nat, (i : Int) ≤ t0_7.toInt ∧ t1_0 i ≠ 0) → F_DR_isLeft_L4 t0_0 t0_1 t0_2 t0_3 t0_4 t0_5 t0_6 t0_7 t0_8 t0_9 t0_10 t1_0 n k b = 0 ∨ ∃ i : Nat, (i : Int) ≤ t0_7.toInt ∧ t1_0 i ≠ 0 := by
  intro n
  induction n with
  | zero => intro k b h0 h1 hb; exact Or.inl rfl
  | succ n ih =>
    intro k b h0 h1 hb
    rw [F_DR_isLeft_L4.eq_2]
    by_cases c : t0_7 < k
    · rw [if_pos c]; exact hb
    · rw [if_neg c]
      have c2 := q_nltI c
      have ek := q_clI (i := k) rfl h0
      have e2 : (k + 1 : Int32).toInt = k.toInt + 1 := q_addI (y := 1) rfl (by decide) (by omega) (by omega)
      by_cases d : b = 0
      · rw [if_pos d]
        by_cases z : t1_0 k.toNatClampNeg = 0
        · rw [if_pos z]
          exact ih _ _ (by omega) (by omega) (Or.inl rfl)
        · exact Or.inr ⟨k.toNatClampNeg, by omega, z⟩
      · rcases hb with h | h
        · exact absurd h d
        · exact Or.inr h
theorem u_pI {f : Nat → Int32} {i : Nat} : ∀ {n : Nat}, gO f n → i < n → f i ≠ 0 → 0 < uV f n
  | 0, _, h, _ => by omega
  | n + 1, hg, h, hi => by
    show 0 < uV f n * 10 + (f n).toInt
    have a := (hg n (by omega)).1
    by_cases c : i = n
    · subst c
      have b : (f i).toInt ≠ 0 := fun e => hi (Int32.toInt_inj.mp (by rw [e]; rfl))
      have d := u_nn (hg.mono (show i ≤ i + 1 by omega))
      omega
    · have := u_pI (n := n) (hg.mono (by omega)) (by omega) hi
      omega
theorem R_isl {t0_0 : Int32} {t0_1 : Int32} {t0_2 : Int32} {t0_3 : Int64} {t0_4 : Int32} {t0_5 : Int32} {t0_6 : Int32} {t0_7 : Int32} {t0_8 : Int32} {t0_9 : Int32} {t0_10 : Int32} {t1_0 : (Nat → Int32)} (h7 : 0 ≤ t0_7.toInt ∧ t0_7.toInt ≤ 2200) (hg : gO t1_0 (t0_7.toNatClampNeg + 1)) : S_DR_isLeft t0_0 t0_1 t0_2 t0_3 t0_4 t0_5 t0_6 t0_7 t0_8 t0_9 t0_10 t1_0 ∧ (¬ F_DR_isLeft t0_0 t0_1 t0_2 t0_3 t0_4 t0_5 t0_6 t0_7 t0_8 t0_9 t0_10 t1_0 = 0 → wL 0 (uV t1_0 (t0_7.toNatClampNeg + 1))) := by
  refine ⟨T_DR_isLeft h7, fun h => ?_⟩
  have e := q_clI (i := t0_7) rfl h7.1
  have e0 : (0 : Int32).toInt = 0 := rfl
  unfold F_DR_isLeft at h
  rcases u_islL h7 1000000 0 0 (by decide) (by omega) (Or.inl rfl) with h1 | ⟨i, h1, h2⟩
  · exact absurd h1 h
  · exact u_pI hg (by omega) h2
theorem u_hz {a : Int} {P : Prop} (h : a = 0 ∨ P) (h2 : a ≠ 0) : P := by
  rcases h with h | h
  · exact absurd h h2
  · exact h
/-- enough turns are left -/
def uP (n : Nat) (s z : Int32) (le : Nat → Int32) : Prop := (1 ≤ s.toInt ∧ 1002 - s.toInt < (n : Int)) ∨ (s.toInt = 0 ∧ ∃ j : Nat, (uV le (z.toNatClampNeg + 1) = 0 ∨ 10 ^ j ≤ uV le (z.toNatClampNeg + 1)) ∧ j ≤ z.toNatClampNeg ∧ 1003 + z.toNatClampNeg < n + j)
theorem uP.ge {s z : Int32} {le : Nat → Int32} (h : uP 0 s z le) (hs : s.toInt ≤ 1001) : False := by
  rcases h with ⟨-, h⟩ | ⟨-, j, -, h1, h2⟩ <;> omega
theorem u_p10 {j u : Nat} {v : Int} (h : 10 ^ j ≤ v) (h2 : v < 10 ^ u) : j < u := by
  by_cases c : j < u
  · exact c
  · obtain ⟨d, rfl⟩ := Nat.exists_eq_add_of_le (show u ≤ j by omega)
    rw [Int.pow_add] at h
    have a := u_pos u
    have b := u_pos d
    have e := Int.mul_le_mul_of_nonneg_left (show 1 ≤ (10 : Int) ^ d by omega) (Int.le_of_lt a)
    rw [Int.mul_one] at e
    exact absurd (Int.lt_of_le_of_lt (Int.le_trans e h) h2) (Int.lt_irrefl _)
theorem uP.step {n : Nat} {s s1 z d : Int32} {un le le1 : Nat → Int32} (h : uP (n + 1) s z le) (hw : uW z un le) (hp : wL 0 (uV le (z.toNatClampNeg + 1))) (he : wE (d.toInt * uV un z.toNatClampNeg + uV le1 (z.toNatClampNeg + 1)) (uV le (z.toNatClampNeg + 1) * 10 + (0 : Int32).toInt)) (hs : s.toInt ≤ s1.toInt ∧ s1.toInt ≤ s.toInt + 1) (h1 : 0 < s.toInt → s1.toInt = s.toInt + 1) (h2 : s1.toInt = 0 → d.toInt = 0) : uP n s1 z le1 := by
  have e0 : (0 : Int32).toInt = 0 := rfl
  rcases h with ⟨a, b⟩ | ⟨a, j, b, c, f⟩
  · exact Or.inl ⟨by omega, by have := h1 (by omega); omega⟩
  · by_cases w : s1.toInt = 0
    · have hd := h2 w
      have hp : (0 : Int) < uV le (z.toNatClampNeg + 1) := hp
      have b2 : (10 : Int) ^ j ≤ uV le (z.toNatClampNeg + 1) := by
        rcases b with b | b
        · rw [b] at hp; exact absurd hp (by decide)
        · exact b
      have jl : j < z.toNatClampNeg := u_p10 b2 (Int.lt_trans hw.2.2.2 (u_lt hw.2.1))
      refine Or.inr ⟨w, j + 1, Or.inr ?_, by omega, by omega⟩
      have he : _ = _ := he
      rw [hd, e0, Int.zero_mul, Int.zero_add, Int.add_zero] at he
      rw [he, u_pw]
      omega
    · exact Or.inl ⟨by omega, by omega⟩
theorem uP.start {s z : Int32} {un le : Nat → Int32} (hw : uW z un le) (hs : 0 ≤ s.toInt) : uP 1000000 s z le := by
  have e := q_clI (i := z) rfl (by have := hw.1; omega)
  have h1 := hw.1
  by_cases c : s.toInt = 0
  · refine Or.inr ⟨c, 0, ?_, by omega, by omega⟩
    have h2 := u_nn hw.2.2.1
    rw [Int.pow_zero]
    by_cases d : uV le (z.toNatClampNeg + 1) = 0
    · exact Or.inl d
    · exact Or.inr (by omega)
  · exact Or.inl ⟨by omega, by omega⟩
theorem R_app {x2 : Int32} {t0_0 : Int32} {t0_1 : Int32} {t0_2 : Int32} {t0_3 : Int64} {t0_4 : Int32} {t0_5 : Int32} {t0_6 : Int32} {t0_7 : Int32} {t0_8 : Int32} {t0_9 : Int32} {t0_10 : Int32} {t1_0 : (Nat → Int32)} (h2 : 0 ≤ t0_2.toInt ∧ t0_2.toInt ≤ 4398) (hg : gO t1_0 t0_2.toNatClampNeg) (hx : 0 ≤ x2.toInt ∧ x2.toInt ≤ 9) (hz : t0_2.toInt = 0 ∨ t1_0 0 ≠ 0) : S_DR_append x2 t0_0 t0_1 t0_2 t0_3 t0_4 t0_5 t0_6 t0_7 t0_8 t0_9 t0_10 t1_0 ∧ (Q_DR_append t0_0 t0_1 t0_2 t0_3 t0_4 t0_5 t0_7 t0_10 (F_DR_append x2 t0_0 t0_1 t0_2 t0_3 t0_4 t0_5 t0_6 t0_7 t0_8 t0_9 t0_10 t1_0) ∧ (0 < t0_2.toInt → (F_DR_append x2 t0_0 t0_1 t0_2 t0_3 t0_4 t0_5 t0_6 t0_7 t0_8 t0_9 t0_10 t1_0).2.2.1.toInt = t0_2.toInt + 1) ∧ ((F_DR_append x2 t0_0 t0_1 t0_2 t0_3 t0_4 t0_5 t0_6 t0_7 t0_8 t0_9 t0_10 t1_0).2.2.1.toInt = 0 → x2.toInt = 0)) := by
  have h := T_DR_append (t0_0 := t0_0) (t0_1 := t0_1) (t0_3 := t0_3) (t0_4 := t0_4) (t0_5 := t0_5) (t0_6 := t0_6) (t0_7 := t0_7) (t0_8 := t0_8) (t0_9 := t0_9) (t0_10 := t0_10) h2 hg hx hz
  have e0 : (0 : Int32).toInt = 0 := rfl
  have e1 : (t0_2 + 1 : Int32).toInt = t0_2.toInt + 1 := q_addI (y := 1) rfl (by decide) (by omega) (by omega)
  refine ⟨h.1, h.2, ?_⟩
  clear h
  unfold F_DR_append
  by_cases c : 0 < t0_2
  · rw [if_pos c]
    dsimp only
    exact ⟨fun _ => e1, fun h => by omega⟩
  · rw [if_neg c]
    have c2 := q_nltI c
    by_cases d : x2 ≤ 0
    · rw [if_pos d]
      have d2 := q_leI d
      dsimp only
      exact ⟨fun h => by omega, fun _ => by omega⟩
    · rw [if_neg d]
      dsimp only
      exact ⟨fun h => by omega, fun h => by omega⟩
def Q_DR_quotient (p : Int32 × Int32 × Int32 × Int64 × Int32 × Int32 × Int32 × Int32 × Int32 × Int32 × Int32 × (Nat → Int32) × (Nat → Int32) × (Nat → Int32) × (Nat → Int32) × (Nat → Int32) × (Nat → Int32) × (Nat → Int32)) : Prop := gR p.2.2.2.2.2.2.2.2.2.2.2.1 p.2.2.2.2.2.2.2.2.2.2.2.2.1 p.2.2.2.2.2.2.2.2.2.2.2.2.2.1 p.2.2.2.2.2.2.2.2.2.2.2.2.2.2.1
theorem u_nif {P : Prop} {b : Int32} (g : ¬ b = 0) (h : ¬ b = 0 → P) : P := h g
theorem v_qu2 {K_F_DR_quotient_L127 : Int32 → Int32 → Int32 → Int32 → Int64 → Int32 → Int32 → Int32 → Int32 → Int32 → Int32 → Int32 → (Nat → Int32) → (Nat → Int32) → (Int32 × Int32 × Int32 × Int64 × Int32 × Int32 × Int32 × Int32 × Int32 × Int32 × Int32 × (Nat → Int32) × (Nat → Int32) × (Nat → Int32) × (Nat → Int32) × (Nat → Int32) × (Nat → Int32) × (Nat → Int32))} {x2 : Int32} {x3 : Int32} {x4 : Int32} {x5 : Int32} {x6 : Int32} {t0_0 : Int32} {t0_1 : Int32} {t0_2 : Int32} {t0_3 : Int64} {t0_4 : Int32} {t0_5 : Int32} {t0_6 : Int32} {t0_7 : Int32} {t0_8 : Int32} {t0_9 : Int32} {t0_10 : Int32} {t1_0 : (Nat → Int32)} {t2_0 : (Nat → Int32)} {t3_0 : (Nat → Int32)} {t4_0 : (Nat → Int32)} {t5_0 : (Nat → Int32)} {t6_0 : (Nat → Int32)} {t7_0 : (Nat → Int32)} {lx45 : Int32} {j82 : Int64} {lx85 : Int32} {p151 : (Int32 × Int32 × Int32 × Int64 × Int32 × Int32 × Int32 × Int32 × Int32 × Int32 × Int32 × (Nat → Int32))} {f117 : (Nat → Int32)} {p212 : (Int32 × Int32 × Int32 × Int64 × Int32 × Int32 × Int32 × Int32 × Int32 × Int32 × Int32 × (Nat → Int32))} {lx234 : Int32} {lx235 : Int32} {lx236 : Int32} {lx237 : Int32} {lx238 : Int64} {lx239 : Int32} {lx240 : Int32} {lx241 : Int32} {lx242 : Int32} {lx243 : Int32} {lx244 : Int32} {lx245 : Int32} {lx246 : (Nat → Int32)} {lx247 : (Nat → Int32)} {K_S_DR_quotient_L127 : Int32 → Int32 → Int32 → Int32 → Int64 → Int32 → Int32 → Int32 → Int32 → Int32 → Int32 → Int32 → (Nat → Int32) → (Nat → Int32) → Prop} (hR : gR t1_0 t2_0 t3_0 t4_0)(hx2 : 0 ≤ x2.toInt ∧ x2.toInt ≤ 9) (hx4 : 0 ≤ x4.toInt ∧ x4.toInt ≤ 9) (h85 : 1 ≤ lx85.toInt ∧ lx85.toInt ≤ 1000) (hx5 : 0 ≤ x5.toInt ∧ x5.toInt ≤ 1000) (h58 : 0 < x5.toInt → lx85.toInt = x5.toInt) : ∀ (n : Nat) (lx298 : Int32) (lx299 : Int32) (lx300 : Int32) (lx301 : Int64) (lx302 : Int32) (lx303 : Int32) (lx304 : Int32) (lx305 : Int32) (lx306 : Int32) (lx307 : Int32) (lx308 : Int32) (lx309 : (Nat → Int32)) (lx310 : (Nat → Int32)), (0 ≤ lx300.toInt ∧ lx300.toInt ≤ 1001) → (uW lx305 f117 lx310) → (wL 0 (uV f117 lx305.toNatClampNeg)) → (gO lx309 lx300.toNatClampNeg) → (lx300.toInt = 0 ∨ lx309 0 ≠ 0) → (uP n lx300 lx305 lx310) → (S_DR_quotient_L165 K_S_DR_quotient_L127 x2 x3 x4 x5 x6 t0_0 t0_1 t0_2 t0_3 t0_4 t0_5 t0_6 t0_7 t0_8 t0_9 t0_10 t1_0 t2_0 t3_0 t4_0 t5_0 t6_0 t7_0 lx45 j82 lx85 p151 f117 p212 lx234 lx235 lx236 lx237 lx238 lx239 lx240 lx241 lx242 lx243 lx244 lx245 lx246 lx247 n lx298 lx299 lx300 lx301 lx302 lx303 lx304 lx305 lx306 lx307 lx308 lx309 lx310) ∧ Q_DR_quotient (F_DR_quotient_L165 K_F_DR_quotient_L127 x2 x3 x4 x5 x6 t0_0 t0_1 t0_2 t0_3 t0_4 t0_5 t0_6 t0_7 t0_8 t0_9 t0_10 t1_0 t2_0 t3_0 t4_0 t5_0 t6_0 t7_0 lx45 j82 lx85 p151 f117 p212 lx234 lx235 lx236 lx237 lx238 lx239 lx240 lx241 lx242 lx243 lx244 lx245 lx246 lx247 n lx298 lx299 lx300 lx301 lx302 lx303 lx304 lx305 lx306 lx307 lx308 lx309 lx310) := by
  intro n
  induction n with
  | zero => intro lx298 lx299 lx300 lx301 lx302 lx303 lx304 lx305 lx306 lx307 lx308 lx309 lx310 h1 hw hU ho hz hP; exact (hP.ge h1.2).elim
  | succ n ih =>
    intro lx298 lx299 lx300 lx301 lx302 lx303 lx304 lx305 lx306 lx307 lx308 lx309 lx310 h1 hw hU ho hz hP
    have e0 : (0 : Int32).toInt = 0 := rfl
    have eL0 : (0 : Int64).toInt = 0 := rfl
    have eL1 : (10000 : Int64).toInt = 10000 := rfl
    have eL2 : (-10000 : Int64).toInt = -10000 := rfl
    have eL3 : (1000 : Int64).toInt = 1000 := rfl
    have eL4 : (-1 : Int64).toInt = -1 := rfl
    have eI3 : (1000 : Int32).toInt = 1000 := rfl
    have hu1 := hw.1
    have i1 : (1 : Int32).toInt = 1 := rfl
    rw [S_DR_quotient_L165.eq_2, F_DR_quotient_L165.eq_2]
    have h1 := R_isl (t0_0 := lx298) (t0_1 := lx299) (t0_2 := lx300) (t0_3 := lx301) (t0_4 := lx302) (t0_5 := lx303) (t0_6 := lx304) (t0_7 := lx305) (t0_8 := lx306) (t0_9 := lx307) (t0_10 := lx308) (t1_0 := lx310) ⟨by omega, by omega⟩ hw.2.2.1
    have h1p := h1.2
    with_reducible refine v_owe h1.1 ?_
    by_cases g2 : ((F_DR_isLeft lx298 lx299 lx300 lx301 lx302 lx303 lx304 lx305 lx306 lx307 lx308 lx310) : Int32) = (0 : Int32)
    ·
      rw [if_pos g2, if_pos g2]
      have g2i := q_eqI g2
      unfold S_DR_quotient_J203 F_DR_quotient_J203
      with_reducible refine v_owe h1.1 ?_
      by_cases g3 : (t3_0 x2.toNatClampNeg : Int32) = (t3_0 x3.toNatClampNeg : Int32)
      ·
        rw [if_pos g3, if_pos g3]
        unfold S_DR_quotient_J232 F_DR_quotient_J232
        by_cases g4 : lx300 = (0 : Int32)
        ·
          rw [if_pos g4, if_pos g4]
          have g4i := q_eqI g4
          unfold S_DR_quotient_J254 F_DR_quotient_J254
          by_cases g5 : x5 ≤ (0 : Int32)
          ·
            rw [if_pos g5, if_pos g5]
            have g5i := q_leI g5
            rw [if_pos g2, if_pos g2]
            by_cases g6 : ((upd lx309 (0 : Int32).toNatClampNeg 0 : (Nat → Int32)) (0 : Int32).toNatClampNeg : Int32) = (0 : Int32)
            ·
              rw [if_pos g6, if_pos g6]
              have h7 := T_DR_store (x2 := x4) (t0_0 := lx298) (t0_1 := lx299) (t0_2 := (1 : Int32)) (t0_3 := j82) (t0_4 := ((F_DR_isLeft lx298 lx299 lx300 lx301 lx302 lx303 lx304 lx305 lx306 lx307 lx308 lx310) : Int32)) (t0_5 := (0 : Int32)) (t0_6 := lx304) (t0_7 := lx305) (t0_8 := lx306) (t0_9 := lx307) (t0_10 := lx308) (t1_0 := t1_0) (t2_0 := t2_0) (t3_0 := t3_0) (t4_0 := t4_0) (t5_0 := (upd lx309 (0 : Int32).toNatClampNeg 0 : (Nat → Int32))) (by with_reducible assumption) (by with_reducible assumption) ⟨by first | omega | decide, by first | omega | decide⟩ (by first | with_reducible assumption | exact g_one | exact g_cl (by with_reducible assumption) (by omega) (by omega))
              with_reducible refine v_owe h7.1 ?_
              replace h7 := h7.2
              generalize F_DR_store x4 lx298 lx299 (1 : Int32) j82 ((F_DR_isLeft lx298 lx299 lx300 lx301 lx302 lx303 lx304 lx305 lx306 lx307 lx308 lx310) : Int32) (0 : Int32) lx304 lx305 lx306 lx307 lx308 t1_0 t2_0 t3_0 t4_0 (upd lx309 (0 : Int32).toNatClampNeg 0 : (Nat → Int32)) = p776 at *
              unfold Q_DR_store at h7
              unfold S_DR_quotient_c374_14 F_DR_quotient_c374_14
              refine ⟨trivial, ?_⟩
              (unfold Q_DR_quotient; dsimp only; with_reducible assumption)
            ·
              rw [if_neg g6, if_neg g6]
              have h8 := R_need (t0_0 := lx298) (t0_1 := lx299) (t0_2 := (1 : Int32)) (t0_3 := lx301) (t0_4 := ((F_DR_isLeft lx298 lx299 lx300 lx301 lx302 lx303 lx304 lx305 lx306 lx307 lx308 lx310) : Int32)) (t0_5 := (0 : Int32)) (t0_6 := lx304) (t0_7 := lx305) (t0_8 := lx306) (t0_9 := lx307) (t0_10 := lx308) (t1_0 := (upd lx309 (0 : Int32).toNatClampNeg 0 : (Nat → Int32))) ⟨by first | omega | decide, by first | omega | decide⟩
              have h8b := h8.2
              with_reducible refine v_owe h8.1 ?_
              by_cases g9 : (lg_cmp (j82 - (lx301 - (((1 : Int32) - ((F_DR_needed lx298 lx299 (1 : Int32) lx301 ((F_DR_isLeft lx298 lx299 lx300 lx301 lx302 lx303 lx304 lx305 lx306 lx307 lx308 lx310) : Int32) (0 : Int32) lx304 lx305 lx306 lx307 lx308 (upd lx309 (0 : Int32).toNatClampNeg 0 : (Nat → Int32))) : Int32) : Int32).toInt64 : Int64) : Int64) : Int64) 1000 : Int32) ≤ (0 : Int32)
              ·
                rw [if_pos g9, if_pos g9]
                have g9l := g_lc3 g9
                by_cases g10 : (0 : Int32) ≤ (lg_cmp (j82 - (lx301 - (((1 : Int32) - ((F_DR_needed lx298 lx299 (1 : Int32) lx301 ((F_DR_isLeft lx298 lx299 lx300 lx301 lx302 lx303 lx304 lx305 lx306 lx307 lx308 lx310) : Int32) (0 : Int32) lx304 lx305 lx306 lx307 lx308 (upd lx309 (0 : Int32).toNatClampNeg 0 : (Nat → Int32))) : Int32) : Int32).toInt64 : Int64) : Int64) : Int64) 0 : Int32)
                ·
                  rw [if_pos g10, if_pos g10]
                  have g10l := g_lc5 g10
                  have h11 := T_DR_lengthen (x2 := (j82 - (lx301 - (((1 : Int32) - ((F_DR_needed lx298 lx299 (1 : Int32) lx301 ((F_DR_isLeft lx298 lx299 lx300 lx301 lx302 lx303 lx304 lx305 lx306 lx307 lx308 lx310) : Int32) (0 : Int32) lx304 lx305 lx306 lx307 lx308 (upd lx309 (0 : Int32).toNatClampNeg 0 : (Nat → Int32))) : Int32) : Int32).toInt64 : Int64) : Int64) : Int64)) (t0_0 := lx298) (t0_1 := lx299) (t0_2 := ((F_DR_needed lx298 lx299 (1 : Int32) lx301 ((F_DR_isLeft lx298 lx299 lx300 lx301 lx302 lx303 lx304 lx305 lx306 lx307 lx308 lx310) : Int32) (0 : Int32) lx304 lx305 lx306 lx307 lx308 (upd lx309 (0 : Int32).toNatClampNeg 0 : (Nat → Int32))) : Int32)) (t0_3 := (lx301 - (((1 : Int32) - ((F_DR_needed lx298 lx299 (1 : Int32) lx301 ((F_DR_isLeft lx298 lx299 lx300 lx301 lx302 lx303 lx304 lx305 lx306 lx307 lx308 lx310) : Int32) (0 : Int32) lx304 lx305 lx306 lx307 lx308 (upd lx309 (0 : Int32).toNatClampNeg 0 : (Nat → Int32))) : Int32) : Int32).toInt64 : Int64) : Int64)) (t0_4 := ((F_DR_isLeft lx298 lx299 lx300 lx301 lx302 lx303 lx304 lx305 lx306 lx307 lx308 lx310) : Int32)) (t0_5 := (0 : Int32)) (t0_6 := lx304) (t0_7 := lx305) (t0_8 := lx306) (t0_9 := lx307) (t0_10 := lx308) (t1_0 := (upd lx309 (0 : Int32).toNatClampNeg 0 : (Nat → Int32))) ⟨by omega, by omega⟩ (by first | omega | decide) (by first | omega | (have ez : (0 : Int64).toInt = 0 := rfl; omega)) (by first | exact g_cl (by with_reducible assumption) (by omega) (by omega) | exact g_cl g_one (by omega) (by omega))
                  with_reducible refine v_owe h11.1 ?_
                  replace h11 := h11.2
                  generalize F_DR_lengthen (j82 - (lx301 - (((1 : Int32) - ((F_DR_needed lx298 lx299 (1 : Int32) lx301 ((F_DR_isLeft lx298 lx299 lx300 lx301 lx302 lx303 lx304 lx305 lx306 lx307 lx308 lx310) : Int32) (0 : Int32) lx304 lx305 lx306 lx307 lx308 (upd lx309 (0 : Int32).toNatClampNeg 0 : (Nat → Int32))) : Int32) : Int32).toInt64 : Int64) : Int64) : Int64) lx298 lx299 ((F_DR_needed lx298 lx299 (1 : Int32) lx301 ((F_DR_isLeft lx298 lx299 lx300 lx301 lx302 lx303 lx304 lx305 lx306 lx307 lx308 lx310) : Int32) (0 : Int32) lx304 lx305 lx306 lx307 lx308 (upd lx309 (0 : Int32).toNatClampNeg 0 : (Nat → Int32))) : Int32) (lx301 - (((1 : Int32) - ((F_DR_needed lx298 lx299 (1 : Int32) lx301 ((F_DR_isLeft lx298 lx299 lx300 lx301 lx302 lx303 lx304 lx305 lx306 lx307 lx308 lx310) : Int32) (0 : Int32) lx304 lx305 lx306 lx307 lx308 (upd lx309 (0 : Int32).toNatClampNeg 0 : (Nat → Int32))) : Int32) : Int32).toInt64 : Int64) : Int64) ((F_DR_isLeft lx298 lx299 lx300 lx301 lx302 lx303 lx304 lx305 lx306 lx307 lx308 lx310) : Int32) (0 : Int32) lx304 lx305 lx306 lx307 lx308 (upd lx309 (0 : Int32).toNatClampNeg 0 : (Nat → Int32)) = p500 at *
                  unfold Q_DR_lengthen at h11
                  obtain ⟨h111, h11g⟩ := h11
                  unfold S_DR_quotient_c369 F_DR_quotient_c369
                  have h12 := T_DR_store (x2 := x4) (t0_0 := (p500.1 : Int32)) (t0_1 := (p500.2.1 : Int32)) (t0_2 := (p500.2.2.1 : Int32)) (t0_3 := (p500.2.2.2.1 : Int64)) (t0_4 := (p500.2.2.2.2.1 : Int32)) (t0_5 := (p500.2.2.2.2.2.1 : Int32)) (t0_6 := (p500.2.2.2.2.2.2.1 : Int32)) (t0_7 := (p500.2.2.2.2.2.2.2.1 : Int32)) (t0_8 := (p500.2.2.2.2.2.2.2.2.1 : Int32)) (t0_9 := (p500.2.2.2.2.2.2.2.2.2.1 : Int32)) (t0_10 := (p500.2.2.2.2.2.2.2.2.2.2.1 : Int32)) (t1_0 := t1_0) (t2_0 := t2_0) (t3_0 := t3_0) (t4_0 := t4_0) (t5_0 := (p500.2.2.2.2.2.2.2.2.2.2.2 : (Nat → Int32))) (by with_reducible assumption) (by with_reducible assumption) ⟨by first | omega | decide, by first | omega | decide⟩ (by first | with_reducible assumption | exact g_one | exact g_cl (by with_reducible assumption) (by omega) (by omega))
                  with_reducible refine v_owe h12.1 ?_
                  replace h12 := h12.2
                  generalize F_DR_store x4 (p500.1 : Int32) (p500.2.1 : Int32) (p500.2.2.1 : Int32) (p500.2.2.2.1 : Int64) (p500.2.2.2.2.1 : Int32) (p500.2.2.2.2.2.1 : Int32) (p500.2.2.2.2.2.2.1 : Int32) (p500.2.2.2.2.2.2.2.1 : Int32) (p500.2.2.2.2.2.2.2.2.1 : Int32) (p500.2.2.2.2.2.2.2.2.2.1 : Int32) (p500.2.2.2.2.2.2.2.2.2.2.1 : Int32) t1_0 t2_0 t3_0 t4_0 (p500.2.2.2.2.2.2.2.2.2.2.2 : (Nat → Int32)) = p568 at *
                  unfold Q_DR_store at h12
                  unfold S_DR_quotient_c374 F_DR_quotient_c374
                  refine ⟨trivial, ?_⟩
                  (unfold Q_DR_quotient; dsimp only; with_reducible assumption)
                ·
                  rw [if_neg g10, if_neg g10]
                  have g10l := g_lc6 g10
                  have h13 := T_DR_lengthen (x2 := (0 : Int64)) (t0_0 := lx298) (t0_1 := lx299) (t0_2 := ((F_DR_needed lx298 lx299 (1 : Int32) lx301 ((F_DR_isLeft lx298 lx299 lx300 lx301 lx302 lx303 lx304 lx305 lx306 lx307 lx308 lx310) : Int32) (0 : Int32) lx304 lx305 lx306 lx307 lx308 (upd lx309 (0 : Int32).toNatClampNeg 0 : (Nat → Int32))) : Int32)) (t0_3 := (lx301 - (((1 : Int32) - ((F_DR_needed lx298 lx299 (1 : Int32) lx301 ((F_DR_isLeft lx298 lx299 lx300 lx301 lx302 lx303 lx304 lx305 lx306 lx307 lx308 lx310) : Int32) (0 : Int32) lx304 lx305 lx306 lx307 lx308 (upd lx309 (0 : Int32).toNatClampNeg 0 : (Nat → Int32))) : Int32) : Int32).toInt64 : Int64) : Int64)) (t0_4 := ((F_DR_isLeft lx298 lx299 lx300 lx301 lx302 lx303 lx304 lx305 lx306 lx307 lx308 lx310) : Int32)) (t0_5 := (0 : Int32)) (t0_6 := lx304) (t0_7 := lx305) (t0_8 := lx306) (t0_9 := lx307) (t0_10 := lx308) (t1_0 := (upd lx309 (0 : Int32).toNatClampNeg 0 : (Nat → Int32))) ⟨by omega, by omega⟩ (by first | omega | decide) (by first | omega | (have ez : (0 : Int64).toInt = 0 := rfl; omega)) (by first | exact g_cl (by with_reducible assumption) (by omega) (by omega) | exact g_cl g_one (by omega) (by omega))
                  with_reducible refine v_owe h13.1 ?_
                  replace h13 := h13.2
                  generalize F_DR_lengthen (0 : Int64) lx298 lx299 ((F_DR_needed lx298 lx299 (1 : Int32) lx301 ((F_DR_isLeft lx298 lx299 lx300 lx301 lx302 lx303 lx304 lx305 lx306 lx307 lx308 lx310) : Int32) (0 : Int32) lx304 lx305 lx306 lx307 lx308 (upd lx309 (0 : Int32).toNatClampNeg 0 : (Nat → Int32))) : Int32) (lx301 - (((1 : Int32) - ((F_DR_needed lx298 lx299 (1 : Int32) lx301 ((F_DR_isLeft lx298 lx299 lx300 lx301 lx302 lx303 lx304 lx305 lx306 lx307 lx308 lx310) : Int32) (0 : Int32) lx304 lx305 lx306 lx307 lx308 (upd lx309 (0 : Int32).toNatClampNeg 0 : (Nat → Int32))) : Int32) : Int32).toInt64 : Int64) : Int64) ((F_DR_isLeft lx298 lx299 lx300 lx301 lx302 lx303 lx304 lx305 lx306 lx307 lx308 lx310) : Int32) (0 : Int32) lx304 lx305 lx306 lx307 lx308 (upd lx309 (0 : Int32).toNatClampNeg 0 : (Nat → Int32)) = p630 at *
                  unfold Q_DR_lengthen at h13
                  obtain ⟨h131, h13g⟩ := h13
                  unfold S_DR_quotient_c369_12 F_DR_quotient_c369_12
                  have h14 := T_DR_store (x2 := x4) (t0_0 := (p630.1 : Int32)) (t0_1 := (p630.2.1 : Int32)) (t0_2 := (p630.2.2.1 : Int32)) (t0_3 := (p630.2.2.2.1 : Int64)) (t0_4 := (p630.2.2.2.2.1 : Int32)) (t0_5 := (p630.2.2.2.2.2.1 : Int32)) (t0_6 := (p630.2.2.2.2.2.2.1 : Int32)) (t0_7 := (p630.2.2.2.2.2.2.2.1 : Int32)) (t0_8 := (p630.2.2.2.2.2.2.2.2.1 : Int32)) (t0_9 := (p630.2.2.2.2.2.2.2.2.2.1 : Int32)) (t0_10 := (p630.2.2.2.2.2.2.2.2.2.2.1 : Int32)) (t1_0 := t1_0) (t2_0 := t2_0) (t3_0 := t3_0) (t4_0 := t4_0) (t5_0 := (p630.2.2.2.2.2.2.2.2.2.2.2 : (Nat → Int32))) (by with_reducible assumption) (by with_reducible assumption) ⟨by first | omega | decide, by first | omega | decide⟩ (by first | with_reducible assumption | exact g_one | exact g_cl (by with_reducible assumption) (by omega) (by omega))
                  with_reducible refine v_owe h14.1 ?_
                  replace h14 := h14.2
                  generalize F_DR_store x4 (p630.1 : Int32) (p630.2.1 : Int32) (p630.2.2.1 : Int32) (p630.2.2.2.1 : Int64) (p630.2.2.2.2.1 : Int32) (p630.2.2.2.2.2.1 : Int32) (p630.2.2.2.2.2.2.1 : Int32) (p630.2.2.2.2.2.2.2.1 : Int32) (p630.2.2.2.2.2.2.2.2.1 : Int32) (p630.2.2.2.2.2.2.2.2.2.1 : Int32) (p630.2.2.2.2.2.2.2.2.2.2.1 : Int32) t1_0 t2_0 t3_0 t4_0 (p630.2.2.2.2.2.2.2.2.2.2.2 : (Nat → Int32)) = p698 at *
                  unfold Q_DR_store at h14
                  unfold S_DR_quotient_c374_13 F_DR_quotient_c374_13
                  refine ⟨trivial, ?_⟩
                  (unfold Q_DR_quotient; dsimp only; with_reducible assumption)
              ·
                rw [if_neg g9, if_neg g9]
                have g9l := g_lc4 g9
                refine ⟨trivial, ?_⟩
                (unfold Q_DR_quotient; dsimp only; with_reducible assumption)
          ·
            rw [if_neg g5, if_neg g5]
            have g5i := q_nleI g5
            have h15 := T_DR_toPrecision (x2 := x5) (x3 := j82) (x4 := x6) (x5 := x4) (t0_0 := lx298) (t0_1 := lx299) (t0_2 := (1 : Int32)) (t0_3 := lx301) (t0_4 := ((F_DR_isLeft lx298 lx299 lx300 lx301 lx302 lx303 lx304 lx305 lx306 lx307 lx308 lx310) : Int32)) (t0_5 := (0 : Int32)) (t0_6 := lx304) (t0_7 := lx305) (t0_8 := lx306) (t0_9 := lx307) (t0_10 := lx308) (t1_0 := t1_0) (t2_0 := t2_0) (t3_0 := t3_0) (t4_0 := t4_0) (t5_0 := (upd lx309 (0 : Int32).toNatClampNeg 0 : (Nat → Int32))) (by with_reducible assumption) (by with_reducible assumption) ⟨by omega, by omega⟩ ⟨by first | omega | decide, by first | omega | decide⟩ (by first | with_reducible assumption | exact g_one) (fun hne => by first | exact ⟨by omega, u_hz hz (by omega)⟩ | (exfalso; omega))
            with_reducible refine v_owe h15.1 ?_
            replace h15 := h15.2
            generalize F_DR_toPrecision x5 j82 x6 x4 lx298 lx299 (1 : Int32) lx301 ((F_DR_isLeft lx298 lx299 lx300 lx301 lx302 lx303 lx304 lx305 lx306 lx307 lx308 lx310) : Int32) (0 : Int32) lx304 lx305 lx306 lx307 lx308 t1_0 t2_0 t3_0 t4_0 (upd lx309 (0 : Int32).toNatClampNeg 0 : (Nat → Int32)) = p850 at *
            unfold Q_DR_toPrecision at h15
            unfold S_DR_quotient_c267 F_DR_quotient_c267
            refine ⟨trivial, ?_⟩
            (unfold Q_DR_quotient; dsimp only; with_reducible assumption)
        ·
          rw [if_neg g4, if_neg g4]
          have g4i := q_neI g4
          unfold S_DR_quotient_J254 F_DR_quotient_J254
          by_cases g16 : x5 ≤ (0 : Int32)
          ·
            rw [if_pos g16, if_pos g16]
            have g16i := q_leI g16
            rw [if_pos g2, if_pos g2]
            by_cases g17 : (lx309 (0 : Int32).toNatClampNeg : Int32) = (0 : Int32)
            ·
              rw [if_pos g17, if_pos g17]
              have h18 := T_DR_store (x2 := x4) (t0_0 := lx298) (t0_1 := lx299) (t0_2 := lx300) (t0_3 := j82) (t0_4 := ((F_DR_isLeft lx298 lx299 lx300 lx301 lx302 lx303 lx304 lx305 lx306 lx307 lx308 lx310) : Int32)) (t0_5 := (0 : Int32)) (t0_6 := lx304) (t0_7 := lx305) (t0_8 := lx306) (t0_9 := lx307) (t0_10 := lx308) (t1_0 := t1_0) (t2_0 := t2_0) (t3_0 := t3_0) (t4_0 := t4_0) (t5_0 := lx309) (by with_reducible assumption) (by with_reducible assumption) ⟨by first | omega | decide, by first | omega | decide⟩ (by first | with_reducible assumption | exact g_one | exact g_cl (by with_reducible assumption) (by omega) (by omega))
              with_reducible refine v_owe h18.1 ?_
              replace h18 := h18.2
              generalize F_DR_store x4 lx298 lx299 lx300 j82 ((F_DR_isLeft lx298 lx299 lx300 lx301 lx302 lx303 lx304 lx305 lx306 lx307 lx308 lx310) : Int32) (0 : Int32) lx304 lx305 lx306 lx307 lx308 t1_0 t2_0 t3_0 t4_0 lx309 = p776 at *
              unfold Q_DR_store at h18
              unfold S_DR_quotient_c374_14 F_DR_quotient_c374_14
              refine ⟨trivial, ?_⟩
              (unfold Q_DR_quotient; dsimp only; with_reducible assumption)
            ·
              rw [if_neg g17, if_neg g17]
              have h19 := R_need (t0_0 := lx298) (t0_1 := lx299) (t0_2 := lx300) (t0_3 := lx301) (t0_4 := ((F_DR_isLeft lx298 lx299 lx300 lx301 lx302 lx303 lx304 lx305 lx306 lx307 lx308 lx310) : Int32)) (t0_5 := (0 : Int32)) (t0_6 := lx304) (t0_7 := lx305) (t0_8 := lx306) (t0_9 := lx307) (t0_10 := lx308) (t1_0 := lx309) ⟨by first | omega | decide, by first | omega | decide⟩
              have h19b := h19.2
              with_reducible refine v_owe h19.1 ?_
              by_cases g20 : (lg_cmp (j82 - (lx301 - ((lx300 - ((F_DR_needed lx298 lx299 lx300 lx301 ((F_DR_isLeft lx298 lx299 lx300 lx301 lx302 lx303 lx304 lx305 lx306 lx307 lx308 lx310) : Int32) (0 : Int32) lx304 lx305 lx306 lx307 lx308 lx309) : Int32) : Int32).toInt64 : Int64) : Int64) : Int64) 1000 : Int32) ≤ (0 : Int32)
              ·
                rw [if_pos g20, if_pos g20]
                have g20l := g_lc3 g20
                by_cases g21 : (0 : Int32) ≤ (lg_cmp (j82 - (lx301 - ((lx300 - ((F_DR_needed lx298 lx299 lx300 lx301 ((F_DR_isLeft lx298 lx299 lx300 lx301 lx302 lx303 lx304 lx305 lx306 lx307 lx308 lx310) : Int32) (0 : Int32) lx304 lx305 lx306 lx307 lx308 lx309) : Int32) : Int32).toInt64 : Int64) : Int64) : Int64) 0 : Int32)
                ·
                  rw [if_pos g21, if_pos g21]
                  have g21l := g_lc5 g21
                  have h22 := T_DR_lengthen (x2 := (j82 - (lx301 - ((lx300 - ((F_DR_needed lx298 lx299 lx300 lx301 ((F_DR_isLeft lx298 lx299 lx300 lx301 lx302 lx303 lx304 lx305 lx306 lx307 lx308 lx310) : Int32) (0 : Int32) lx304 lx305 lx306 lx307 lx308 lx309) : Int32) : Int32).toInt64 : Int64) : Int64) : Int64)) (t0_0 := lx298) (t0_1 := lx299) (t0_2 := ((F_DR_needed lx298 lx299 lx300 lx301 ((F_DR_isLeft lx298 lx299 lx300 lx301 lx302 lx303 lx304 lx305 lx306 lx307 lx308 lx310) : Int32) (0 : Int32) lx304 lx305 lx306 lx307 lx308 lx309) : Int32)) (t0_3 := (lx301 - ((lx300 - ((F_DR_needed lx298 lx299 lx300 lx301 ((F_DR_isLeft lx298 lx299 lx300 lx301 lx302 lx303 lx304 lx305 lx306 lx307 lx308 lx310) : Int32) (0 : Int32) lx304 lx305 lx306 lx307 lx308 lx309) : Int32) : Int32).toInt64 : Int64) : Int64)) (t0_4 := ((F_DR_isLeft lx298 lx299 lx300 lx301 lx302 lx303 lx304 lx305 lx306 lx307 lx308 lx310) : Int32)) (t0_5 := (0 : Int32)) (t0_6 := lx304) (t0_7 := lx305) (t0_8 := lx306) (t0_9 := lx307) (t0_10 := lx308) (t1_0 := lx309) ⟨by omega, by omega⟩ (by first | omega | decide) (by first | omega | (have ez : (0 : Int64).toInt = 0 := rfl; omega)) (by first | exact g_cl (by with_reducible assumption) (by omega) (by omega) | exact g_cl g_one (by omega) (by omega))
                  with_reducible refine v_owe h22.1 ?_
                  replace h22 := h22.2
                  generalize F_DR_lengthen (j82 - (lx301 - ((lx300 - ((F_DR_needed lx298 lx299 lx300 lx301 ((F_DR_isLeft lx298 lx299 lx300 lx301 lx302 lx303 lx304 lx305 lx306 lx307 lx308 lx310) : Int32) (0 : Int32) lx304 lx305 lx306 lx307 lx308 lx309) : Int32) : Int32).toInt64 : Int64) : Int64) : Int64) lx298 lx299 ((F_DR_needed lx298 lx299 lx300 lx301 ((F_DR_isLeft lx298 lx299 lx300 lx301 lx302 lx303 lx304 lx305 lx306 lx307 lx308 lx310) : Int32) (0 : Int32) lx304 lx305 lx306 lx307 lx308 lx309) : Int32) (lx301 - ((lx300 - ((F_DR_needed lx298 lx299 lx300 lx301 ((F_DR_isLeft lx298 lx299 lx300 lx301 lx302 lx303 lx304 lx305 lx306 lx307 lx308 lx310) : Int32) (0 : Int32) lx304 lx305 lx306 lx307 lx308 lx309) : Int32) : Int32).toInt64 : Int64) : Int64) ((F_DR_isLeft lx298 lx299 lx300 lx301 lx302 lx303 lx304 lx305 lx306 lx307 lx308 lx310) : Int32) (0 : Int32) lx304 lx305 lx306 lx307 lx308 lx309 = p500 at *
                  unfold Q_DR_lengthen at h22
                  obtain ⟨h221, h22g⟩ := h22
                  unfold S_DR_quotient_c369 F_DR_quotient_c369
                  have h23 := T_DR_store (x2 := x4) (t0_0 := (p500.1 : Int32)) (t0_1 := (p500.2.1 : Int32)) (t0_2 := (p500.2.2.1 : Int32)) (t0_3 := (p500.2.2.2.1 : Int64)) (t0_4 := (p500.2.2.2.2.1 : Int32)) (t0_5 := (p500.2.2.2.2.2.1 : Int32)) (t0_6 := (p500.2.2.2.2.2.2.1 : Int32)) (t0_7 := (p500.2.2.2.2.2.2.2.1 : Int32)) (t0_8 := (p500.2.2.2.2.2.2.2.2.1 : Int32)) (t0_9 := (p500.2.2.2.2.2.2.2.2.2.1 : Int32)) (t0_10 := (p500.2.2.2.2.2.2.2.2.2.2.1 : Int32)) (t1_0 := t1_0) (t2_0 := t2_0) (t3_0 := t3_0) (t4_0 := t4_0) (t5_0 := (p500.2.2.2.2.2.2.2.2.2.2.2 : (Nat → Int32))) (by with_reducible assumption) (by with_reducible assumption) ⟨by first | omega | decide, by first | omega | decide⟩ (by first | with_reducible assumption | exact g_one | exact g_cl (by with_reducible assumption) (by omega) (by omega))
                  with_reducible refine v_owe h23.1 ?_
                  replace h23 := h23.2
                  generalize F_DR_store x4 (p500.1 : Int32) (p500.2.1 : Int32) (p500.2.2.1 : Int32) (p500.2.2.2.1 : Int64) (p500.2.2.2.2.1 : Int32) (p500.2.2.2.2.2.1 : Int32) (p500.2.2.2.2.2.2.1 : Int32) (p500.2.2.2.2.2.2.2.1 : Int32) (p500.2.2.2.2.2.2.2.2.1 : Int32) (p500.2.2.2.2.2.2.2.2.2.1 : Int32) (p500.2.2.2.2.2.2.2.2.2.2.1 : Int32) t1_0 t2_0 t3_0 t4_0 (p500.2.2.2.2.2.2.2.2.2.2.2 : (Nat → Int32)) = p568 at *
                  unfold Q_DR_store at h23
                  unfold S_DR_quotient_c374 F_DR_quotient_c374
                  refine ⟨trivial, ?_⟩
                  (unfold Q_DR_quotient; dsimp only; with_reducible assumption)
                ·
                  rw [if_neg g21, if_neg g21]
                  have g21l := g_lc6 g21
                  have h24 := T_DR_lengthen (x2 := (0 : Int64)) (t0_0 := lx298) (t0_1 := lx299) (t0_2 := ((F_DR_needed lx298 lx299 lx300 lx301 ((F_DR_isLeft lx298 lx299 lx300 lx301 lx302 lx303 lx304 lx305 lx306 lx307 lx308 lx310) : Int32) (0 : Int32) lx304 lx305 lx306 lx307 lx308 lx309) : Int32)) (t0_3 := (lx301 - ((lx300 - ((F_DR_needed lx298 lx299 lx300 lx301 ((F_DR_isLeft lx298 lx299 lx300 lx301 lx302 lx303 lx304 lx305 lx306 lx307 lx308 lx310) : Int32) (0 : Int32) lx304 lx305 lx306 lx307 lx308 lx309) : Int32) : Int32).toInt64 : Int64) : Int64)) (t0_4 := ((F_DR_isLeft lx298 lx299 lx300 lx301 lx302 lx303 lx304 lx305 lx306 lx307 lx308 lx310) : Int32)) (t0_5 := (0 : Int32)) (t0_6 := lx304) (t0_7 := lx305) (t0_8 := lx306) (t0_9 := lx307) (t0_10 := lx308) (t1_0 := lx309) ⟨by omega, by omega⟩ (by first | omega | decide) (by first | omega | (have ez : (0 : Int64).toInt = 0 := rfl; omega)) (by first | exact g_cl (by with_reducible assumption) (by omega) (by omega) | exact g_cl g_one (by omega) (by omega))
                  with_reducible refine v_owe h24.1 ?_
                  replace h24 := h24.2
                  generalize F_DR_lengthen (0 : Int64) lx298 lx299 ((F_DR_needed lx298 lx299 lx300 lx301 ((F_DR_isLeft lx298 lx299 lx300 lx301 lx302 lx303 lx304 lx305 lx306 lx307 lx308 lx310) : Int32) (0 : Int32) lx304 lx305 lx306 lx307 lx308 lx309) : Int32) (lx301 - ((lx300 - ((F_DR_needed lx298 lx299 lx300 lx301 ((F_DR_isLeft lx298 lx299 lx300 lx301 lx302 lx303 lx304 lx305 lx306 lx307 lx308 lx310) : Int32) (0 : Int32) lx304 lx305 lx306 lx307 lx308 lx309) : Int32) : Int32).toInt64 : Int64) : Int64) ((F_DR_isLeft lx298 lx299 lx300 lx301 lx302 lx303 lx304 lx305 lx306 lx307 lx308 lx310) : Int32) (0 : Int32) lx304 lx305 lx306 lx307 lx308 lx309 = p630 at *
                  unfold Q_DR_lengthen at h24
                  obtain ⟨h241, h24g⟩ := h24
                  unfold S_DR_quotient_c369_12 F_DR_quotient_c369_12
                  have h25 := T_DR_store (x2 := x4) (t0_0 := (p630.1 : Int32)) (t0_1 := (p630.2.1 : Int32)) (t0_2 := (p630.2.2.1 : Int32)) (t0_3 := (p630.2.2.2.1 : Int64)) (t0_4 := (p630.2.2.2.2.1 : Int32)) (t0_5 := (p630.2.2.2.2.2.1 : Int32)) (t0_6 := (p630.2.2.2.2.2.2.1 : Int32)) (t0_7 := (p630.2.2.2.2.2.2.2.1 : Int32)) (t0_8 := (p630.2.2.2.2.2.2.2.2.1 : Int32)) (t0_9 := (p630.2.2.2.2.2.2.2.2.2.1 : Int32)) (t0_10 := (p630.2.2.2.2.2.2.2.2.2.2.1 : Int32)) (t1_0 := t1_0) (t2_0 := t2_0) (t3_0 := t3_0) (t4_0 := t4_0) (t5_0 := (p630.2.2.2.2.2.2.2.2.2.2.2 : (Nat → Int32))) (by with_reducible assumption) (by with_reducible assumption) ⟨by first | omega | decide, by first | omega | decide⟩ (by first | with_reducible assumption | exact g_one | exact g_cl (by with_reducible assumption) (by omega) (by omega))
                  with_reducible refine v_owe h25.1 ?_
                  replace h25 := h25.2
                  generalize F_DR_store x4 (p630.1 : Int32) (p630.2.1 : Int32) (p630.2.2.1 : Int32) (p630.2.2.2.1 : Int64) (p630.2.2.2.2.1 : Int32) (p630.2.2.2.2.2.1 : Int32) (p630.2.2.2.2.2.2.1 : Int32) (p630.2.2.2.2.2.2.2.1 : Int32) (p630.2.2.2.2.2.2.2.2.1 : Int32) (p630.2.2.2.2.2.2.2.2.2.1 : Int32) (p630.2.2.2.2.2.2.2.2.2.2.1 : Int32) t1_0 t2_0 t3_0 t4_0 (p630.2.2.2.2.2.2.2.2.2.2.2 : (Nat → Int32)) = p698 at *
                  unfold Q_DR_store at h25
                  unfold S_DR_quotient_c374_13 F_DR_quotient_c374_13
                  refine ⟨trivial, ?_⟩
                  (unfold Q_DR_quotient; dsimp only; with_reducible assumption)
              ·
                rw [if_neg g20, if_neg g20]
                have g20l := g_lc4 g20
                refine ⟨trivial, ?_⟩
                (unfold Q_DR_quotient; dsimp only; with_reducible assumption)
          ·
            rw [if_neg g16, if_neg g16]
            have g16i := q_nleI g16
            have h26 := T_DR_toPrecision (x2 := x5) (x3 := j82) (x4 := x6) (x5 := x4) (t0_0 := lx298) (t0_1 := lx299) (t0_2 := lx300) (t0_3 := lx301) (t0_4 := ((F_DR_isLeft lx298 lx299 lx300 lx301 lx302 lx303 lx304 lx305 lx306 lx307 lx308 lx310) : Int32)) (t0_5 := (0 : Int32)) (t0_6 := lx304) (t0_7 := lx305) (t0_8 := lx306) (t0_9 := lx307) (t0_10 := lx308) (t1_0 := t1_0) (t2_0 := t2_0) (t3_0 := t3_0) (t4_0 := t4_0) (t5_0 := lx309) (by with_reducible assumption) (by with_reducible assumption) ⟨by omega, by omega⟩ ⟨by first | omega | decide, by first | omega | decide⟩ (by first | with_reducible assumption | exact g_one) (fun hne => by first | exact ⟨by omega, u_hz hz (by omega)⟩ | (exfalso; omega))
            with_reducible refine v_owe h26.1 ?_
            replace h26 := h26.2
            generalize F_DR_toPrecision x5 j82 x6 x4 lx298 lx299 lx300 lx301 ((F_DR_isLeft lx298 lx299 lx300 lx301 lx302 lx303 lx304 lx305 lx306 lx307 lx308 lx310) : Int32) (0 : Int32) lx304 lx305 lx306 lx307 lx308 t1_0 t2_0 t3_0 t4_0 lx309 = p850 at *
            unfold Q_DR_toPrecision at h26
            unfold S_DR_quotient_c267 F_DR_quotient_c267
            refine ⟨trivial, ?_⟩
            (unfold Q_DR_quotient; dsimp only; with_reducible assumption)
      ·
        rw [if_neg g3, if_neg g3]
        unfold S_DR_quotient_J232 F_DR_quotient_J232
        by_cases g27 : lx300 = (0 : Int32)
        ·
          rw [if_pos g27, if_pos g27]
          have g27i := q_eqI g27
          unfold S_DR_quotient_J254 F_DR_quotient_J254
          by_cases g28 : x5 ≤ (0 : Int32)
          ·
            rw [if_pos g28, if_pos g28]
            have g28i := q_leI g28
            rw [if_pos g2, if_pos g2]
            by_cases g29 : ((upd lx309 (0 : Int32).toNatClampNeg 0 : (Nat → Int32)) (0 : Int32).toNatClampNeg : Int32) = (0 : Int32)
            ·
              rw [if_pos g29, if_pos g29]
              have h30 := T_DR_store (x2 := x4) (t0_0 := lx298) (t0_1 := lx299) (t0_2 := (1 : Int32)) (t0_3 := j82) (t0_4 := ((F_DR_isLeft lx298 lx299 lx300 lx301 lx302 lx303 lx304 lx305 lx306 lx307 lx308 lx310) : Int32)) (t0_5 := (1 : Int32)) (t0_6 := lx304) (t0_7 := lx305) (t0_8 := lx306) (t0_9 := lx307) (t0_10 := lx308) (t1_0 := t1_0) (t2_0 := t2_0) (t3_0 := t3_0) (t4_0 := t4_0) (t5_0 := (upd lx309 (0 : Int32).toNatClampNeg 0 : (Nat → Int32))) (by with_reducible assumption) (by with_reducible assumption) ⟨by first | omega | decide, by first | omega | decide⟩ (by first | with_reducible assumption | exact g_one | exact g_cl (by with_reducible assumption) (by omega) (by omega))
              with_reducible refine v_owe h30.1 ?_
              replace h30 := h30.2
              generalize F_DR_store x4 lx298 lx299 (1 : Int32) j82 ((F_DR_isLeft lx298 lx299 lx300 lx301 lx302 lx303 lx304 lx305 lx306 lx307 lx308 lx310) : Int32) (1 : Int32) lx304 lx305 lx306 lx307 lx308 t1_0 t2_0 t3_0 t4_0 (upd lx309 (0 : Int32).toNatClampNeg 0 : (Nat → Int32)) = p776 at *
              unfold Q_DR_store at h30
              unfold S_DR_quotient_c374_14 F_DR_quotient_c374_14
              refine ⟨trivial, ?_⟩
              (unfold Q_DR_quotient; dsimp only; with_reducible assumption)
            ·
              rw [if_neg g29, if_neg g29]
              have h31 := R_need (t0_0 := lx298) (t0_1 := lx299) (t0_2 := (1 : Int32)) (t0_3 := lx301) (t0_4 := ((F_DR_isLeft lx298 lx299 lx300 lx301 lx302 lx303 lx304 lx305 lx306 lx307 lx308 lx310) : Int32)) (t0_5 := (1 : Int32)) (t0_6 := lx304) (t0_7 := lx305) (t0_8 := lx306) (t0_9 := lx307) (t0_10 := lx308) (t1_0 := (upd lx309 (0 : Int32).toNatClampNeg 0 : (Nat → Int32))) ⟨by first | omega | decide, by first | omega | decide⟩
              have h31b := h31.2
              with_reducible refine v_owe h31.1 ?_
              by_cases g32 : (lg_cmp (j82 - (lx301 - (((1 : Int32) - ((F_DR_needed lx298 lx299 (1 : Int32) lx301 ((F_DR_isLeft lx298 lx299 lx300 lx301 lx302 lx303 lx304 lx305 lx306 lx307 lx308 lx310) : Int32) (1 : Int32) lx304 lx305 lx306 lx307 lx308 (upd lx309 (0 : Int32).toNatClampNeg 0 : (Nat → Int32))) : Int32) : Int32).toInt64 : Int64) : Int64) : Int64) 1000 : Int32) ≤ (0 : Int32)
              ·
                rw [if_pos g32, if_pos g32]
                have g32l := g_lc3 g32
                by_cases g33 : (0 : Int32) ≤ (lg_cmp (j82 - (lx301 - (((1 : Int32) - ((F_DR_needed lx298 lx299 (1 : Int32) lx301 ((F_DR_isLeft lx298 lx299 lx300 lx301 lx302 lx303 lx304 lx305 lx306 lx307 lx308 lx310) : Int32) (1 : Int32) lx304 lx305 lx306 lx307 lx308 (upd lx309 (0 : Int32).toNatClampNeg 0 : (Nat → Int32))) : Int32) : Int32).toInt64 : Int64) : Int64) : Int64) 0 : Int32)
                ·
                  rw [if_pos g33, if_pos g33]
                  have g33l := g_lc5 g33
                  have h34 := T_DR_lengthen (x2 := (j82 - (lx301 - (((1 : Int32) - ((F_DR_needed lx298 lx299 (1 : Int32) lx301 ((F_DR_isLeft lx298 lx299 lx300 lx301 lx302 lx303 lx304 lx305 lx306 lx307 lx308 lx310) : Int32) (1 : Int32) lx304 lx305 lx306 lx307 lx308 (upd lx309 (0 : Int32).toNatClampNeg 0 : (Nat → Int32))) : Int32) : Int32).toInt64 : Int64) : Int64) : Int64)) (t0_0 := lx298) (t0_1 := lx299) (t0_2 := ((F_DR_needed lx298 lx299 (1 : Int32) lx301 ((F_DR_isLeft lx298 lx299 lx300 lx301 lx302 lx303 lx304 lx305 lx306 lx307 lx308 lx310) : Int32) (1 : Int32) lx304 lx305 lx306 lx307 lx308 (upd lx309 (0 : Int32).toNatClampNeg 0 : (Nat → Int32))) : Int32)) (t0_3 := (lx301 - (((1 : Int32) - ((F_DR_needed lx298 lx299 (1 : Int32) lx301 ((F_DR_isLeft lx298 lx299 lx300 lx301 lx302 lx303 lx304 lx305 lx306 lx307 lx308 lx310) : Int32) (1 : Int32) lx304 lx305 lx306 lx307 lx308 (upd lx309 (0 : Int32).toNatClampNeg 0 : (Nat → Int32))) : Int32) : Int32).toInt64 : Int64) : Int64)) (t0_4 := ((F_DR_isLeft lx298 lx299 lx300 lx301 lx302 lx303 lx304 lx305 lx306 lx307 lx308 lx310) : Int32)) (t0_5 := (1 : Int32)) (t0_6 := lx304) (t0_7 := lx305) (t0_8 := lx306) (t0_9 := lx307) (t0_10 := lx308) (t1_0 := (upd lx309 (0 : Int32).toNatClampNeg 0 : (Nat → Int32))) ⟨by omega, by omega⟩ (by first | omega | decide) (by first | omega | (have ez : (0 : Int64).toInt = 0 := rfl; omega)) (by first | exact g_cl (by with_reducible assumption) (by omega) (by omega) | exact g_cl g_one (by omega) (by omega))
                  with_reducible refine v_owe h34.1 ?_
                  replace h34 := h34.2
                  generalize F_DR_lengthen (j82 - (lx301 - (((1 : Int32) - ((F_DR_needed lx298 lx299 (1 : Int32) lx301 ((F_DR_isLeft lx298 lx299 lx300 lx301 lx302 lx303 lx304 lx305 lx306 lx307 lx308 lx310) : Int32) (1 : Int32) lx304 lx305 lx306 lx307 lx308 (upd lx309 (0 : Int32).toNatClampNeg 0 : (Nat → Int32))) : Int32) : Int32).toInt64 : Int64) : Int64) : Int64) lx298 lx299 ((F_DR_needed lx298 lx299 (1 : Int32) lx301 ((F_DR_isLeft lx298 lx299 lx300 lx301 lx302 lx303 lx304 lx305 lx306 lx307 lx308 lx310) : Int32) (1 : Int32) lx304 lx305 lx306 lx307 lx308 (upd lx309 (0 : Int32).toNatClampNeg 0 : (Nat → Int32))) : Int32) (lx301 - (((1 : Int32) - ((F_DR_needed lx298 lx299 (1 : Int32) lx301 ((F_DR_isLeft lx298 lx299 lx300 lx301 lx302 lx303 lx304 lx305 lx306 lx307 lx308 lx310) : Int32) (1 : Int32) lx304 lx305 lx306 lx307 lx308 (upd lx309 (0 : Int32).toNatClampNeg 0 : (Nat → Int32))) : Int32) : Int32).toInt64 : Int64) : Int64) ((F_DR_isLeft lx298 lx299 lx300 lx301 lx302 lx303 lx304 lx305 lx306 lx307 lx308 lx310) : Int32) (1 : Int32) lx304 lx305 lx306 lx307 lx308 (upd lx309 (0 : Int32).toNatClampNeg 0 : (Nat → Int32)) = p500 at *
                  unfold Q_DR_lengthen at h34
                  obtain ⟨h341, h34g⟩ := h34
                  unfold S_DR_quotient_c369 F_DR_quotient_c369
                  have h35 := T_DR_store (x2 := x4) (t0_0 := (p500.1 : Int32)) (t0_1 := (p500.2.1 : Int32)) (t0_2 := (p500.2.2.1 : Int32)) (t0_3 := (p500.2.2.2.1 : Int64)) (t0_4 := (p500.2.2.2.2.1 : Int32)) (t0_5 := (p500.2.2.2.2.2.1 : Int32)) (t0_6 := (p500.2.2.2.2.2.2.1 : Int32)) (t0_7 := (p500.2.2.2.2.2.2.2.1 : Int32)) (t0_8 := (p500.2.2.2.2.2.2.2.2.1 : Int32)) (t0_9 := (p500.2.2.2.2.2.2.2.2.2.1 : Int32)) (t0_10 := (p500.2.2.2.2.2.2.2.2.2.2.1 : Int32)) (t1_0 := t1_0) (t2_0 := t2_0) (t3_0 := t3_0) (t4_0 := t4_0) (t5_0 := (p500.2.2.2.2.2.2.2.2.2.2.2 : (Nat → Int32))) (by with_reducible assumption) (by with_reducible assumption) ⟨by first | omega | decide, by first | omega | decide⟩ (by first | with_reducible assumption | exact g_one | exact g_cl (by with_reducible assumption) (by omega) (by omega))
                  with_reducible refine v_owe h35.1 ?_
                  replace h35 := h35.2
                  generalize F_DR_store x4 (p500.1 : Int32) (p500.2.1 : Int32) (p500.2.2.1 : Int32) (p500.2.2.2.1 : Int64) (p500.2.2.2.2.1 : Int32) (p500.2.2.2.2.2.1 : Int32) (p500.2.2.2.2.2.2.1 : Int32) (p500.2.2.2.2.2.2.2.1 : Int32) (p500.2.2.2.2.2.2.2.2.1 : Int32) (p500.2.2.2.2.2.2.2.2.2.1 : Int32) (p500.2.2.2.2.2.2.2.2.2.2.1 : Int32) t1_0 t2_0 t3_0 t4_0 (p500.2.2.2.2.2.2.2.2.2.2.2 : (Nat → Int32)) = p568 at *
                  unfold Q_DR_store at h35
                  unfold S_DR_quotient_c374 F_DR_quotient_c374
                  refine ⟨trivial, ?_⟩
                  (unfold Q_DR_quotient; dsimp only; with_reducible assumption)
                ·
                  rw [if_neg g33, if_neg g33]
                  have g33l := g_lc6 g33
                  have h36 := T_DR_lengthen (x2 := (0 : Int64)) (t0_0 := lx298) (t0_1 := lx299) (t0_2 := ((F_DR_needed lx298 lx299 (1 : Int32) lx301 ((F_DR_isLeft lx298 lx299 lx300 lx301 lx302 lx303 lx304 lx305 lx306 lx307 lx308 lx310) : Int32) (1 : Int32) lx304 lx305 lx306 lx307 lx308 (upd lx309 (0 : Int32).toNatClampNeg 0 : (Nat → Int32))) : Int32)) (t0_3 := (lx301 - (((1 : Int32) - ((F_DR_needed lx298 lx299 (1 : Int32) lx301 ((F_DR_isLeft lx298 lx299 lx300 lx301 lx302 lx303 lx304 lx305 lx306 lx307 lx308 lx310) : Int32) (1 : Int32) lx304 lx305 lx306 lx307 lx308 (upd lx309 (0 : Int32).toNatClampNeg 0 : (Nat → Int32))) : Int32) : Int32).toInt64 : Int64) : Int64)) (t0_4 := ((F_DR_isLeft lx298 lx299 lx300 lx301 lx302 lx303 lx304 lx305 lx306 lx307 lx308 lx310) : Int32)) (t0_5 := (1 : Int32)) (t0_6 := lx304) (t0_7 := lx305) (t0_8 := lx306) (t0_9 := lx307) (t0_10 := lx308) (t1_0 := (upd lx309 (0 : Int32).toNatClampNeg 0 : (Nat → Int32))) ⟨by omega, by omega⟩ (by first | omega | decide) (by first | omega | (have ez : (0 : Int64).toInt = 0 := rfl; omega)) (by first | exact g_cl (by with_reducible assumption) (by omega) (by omega) | exact g_cl g_one (by omega) (by omega))
                  with_reducible refine v_owe h36.1 ?_
                  replace h36 := h36.2
                  generalize F_DR_lengthen (0 : Int64) lx298 lx299 ((F_DR_needed lx298 lx299 (1 : Int32) lx301 ((F_DR_isLeft lx298 lx299 lx300 lx301 lx302 lx303 lx304 lx305 lx306 lx307 lx308 lx310) : Int32) (1 : Int32) lx304 lx305 lx306 lx307 lx308 (upd lx309 (0 : Int32).toNatClampNeg 0 : (Nat → Int32))) : Int32) (lx301 - (((1 : Int32) - ((F_DR_needed lx298 lx299 (1 : Int32) lx301 ((F_DR_isLeft lx298 lx299 lx300 lx301 lx302 lx303 lx304 lx305 lx306 lx307 lx308 lx310) : Int32) (1 : Int32) lx304 lx305 lx306 lx307 lx308 (upd lx309 (0 : Int32).toNatClampNeg 0 : (Nat → Int32))) : Int32) : Int32).toInt64 : Int64) : Int64) ((F_DR_isLeft lx298 lx299 lx300 lx301 lx302 lx303 lx304 lx305 lx306 lx307 lx308 lx310) : Int32) (1 : Int32) lx304 lx305 lx306 lx307 lx308 (upd lx309 (0 : Int32).toNatClampNeg 0 : (Nat → Int32)) = p630 at *
                  unfold Q_DR_lengthen at h36
                  obtain ⟨h361, h36g⟩ := h36
                  unfold S_DR_quotient_c369_12 F_DR_quotient_c369_12
                  have h37 := T_DR_store (x2 := x4) (t0_0 := (p630.1 : Int32)) (t0_1 := (p630.2.1 : Int32)) (t0_2 := (p630.2.2.1 : Int32)) (t0_3 := (p630.2.2.2.1 : Int64)) (t0_4 := (p630.2.2.2.2.1 : Int32)) (t0_5 := (p630.2.2.2.2.2.1 : Int32)) (t0_6 := (p630.2.2.2.2.2.2.1 : Int32)) (t0_7 := (p630.2.2.2.2.2.2.2.1 : Int32)) (t0_8 := (p630.2.2.2.2.2.2.2.2.1 : Int32)) (t0_9 := (p630.2.2.2.2.2.2.2.2.2.1 : Int32)) (t0_10 := (p630.2.2.2.2.2.2.2.2.2.2.1 : Int32)) (t1_0 := t1_0) (t2_0 := t2_0) (t3_0 := t3_0) (t4_0 := t4_0) (t5_0 := (p630.2.2.2.2.2.2.2.2.2.2.2 : (Nat → Int32))) (by with_reducible assumption) (by with_reducible assumption) ⟨by first | omega | decide, by first | omega | decide⟩ (by first | with_reducible assumption | exact g_one | exact g_cl (by with_reducible assumption) (by omega) (by omega))
                  with_reducible refine v_owe h37.1 ?_
                  replace h37 := h37.2
                  generalize F_DR_store x4 (p630.1 : Int32) (p630.2.1 : Int32) (p630.2.2.1 : Int32) (p630.2.2.2.1 : Int64) (p630.2.2.2.2.1 : Int32) (p630.2.2.2.2.2.1 : Int32) (p630.2.2.2.2.2.2.1 : Int32) (p630.2.2.2.2.2.2.2.1 : Int32) (p630.2.2.2.2.2.2.2.2.1 : Int32) (p630.2.2.2.2.2.2.2.2.2.1 : Int32) (p630.2.2.2.2.2.2.2.2.2.2.1 : Int32) t1_0 t2_0 t3_0 t4_0 (p630.2.2.2.2.2.2.2.2.2.2.2 : (Nat → Int32)) = p698 at *
                  unfold Q_DR_store at h37
                  unfold S_DR_quotient_c374_13 F_DR_quotient_c374_13
                  refine ⟨trivial, ?_⟩
                  (unfold Q_DR_quotient; dsimp only; with_reducible assumption)
              ·
                rw [if_neg g32, if_neg g32]
                have g32l := g_lc4 g32
                refine ⟨trivial, ?_⟩
                (unfold Q_DR_quotient; dsimp only; with_reducible assumption)
          ·
            rw [if_neg g28, if_neg g28]
            have g28i := q_nleI g28
            have h38 := T_DR_toPrecision (x2 := x5) (x3 := j82) (x4 := x6) (x5 := x4) (t0_0 := lx298) (t0_1 := lx299) (t0_2 := (1 : Int32)) (t0_3 := lx301) (t0_4 := ((F_DR_isLeft lx298 lx299 lx300 lx301 lx302 lx303 lx304 lx305 lx306 lx307 lx308 lx310) : Int32)) (t0_5 := (1 : Int32)) (t0_6 := lx304) (t0_7 := lx305) (t0_8 := lx306) (t0_9 := lx307) (t0_10 := lx308) (t1_0 := t1_0) (t2_0 := t2_0) (t3_0 := t3_0) (t4_0 := t4_0) (t5_0 := (upd lx309 (0 : Int32).toNatClampNeg 0 : (Nat → Int32))) (by with_reducible assumption) (by with_reducible assumption) ⟨by omega, by omega⟩ ⟨by first | omega | decide, by first | omega | decide⟩ (by first | with_reducible assumption | exact g_one) (fun hne => by first | exact ⟨by omega, u_hz hz (by omega)⟩ | (exfalso; omega))
            with_reducible refine v_owe h38.1 ?_
            replace h38 := h38.2
            generalize F_DR_toPrecision x5 j82 x6 x4 lx298 lx299 (1 : Int32) lx301 ((F_DR_isLeft lx298 lx299 lx300 lx301 lx302 lx303 lx304 lx305 lx306 lx307 lx308 lx310) : Int32) (1 : Int32) lx304 lx305 lx306 lx307 lx308 t1_0 t2_0 t3_0 t4_0 (upd lx309 (0 : Int32).toNatClampNeg 0 : (Nat → Int32)) = p850 at *
            unfold Q_DR_toPrecision at h38
            unfold S_DR_quotient_c267 F_DR_quotient_c267
            refine ⟨trivial, ?_⟩
            (unfold Q_DR_quotient; dsimp only; with_reducible assumption)
        ·
          rw [if_neg g27, if_neg g27]
          have g27i := q_neI g27
          unfold S_DR_quotient_J254 F_DR_quotient_J254
          by_cases g39 : x5 ≤ (0 : Int32)
          ·
            rw [if_pos g39, if_pos g39]
            have g39i := q_leI g39
            rw [if_pos g2, if_pos g2]
            by_cases g40 : (lx309 (0 : Int32).toNatClampNeg : Int32) = (0 : Int32)
            ·
              rw [if_pos g40, if_pos g40]
              have h41 := T_DR_store (x2 := x4) (t0_0 := lx298) (t0_1 := lx299) (t0_2 := lx300) (t0_3 := j82) (t0_4 := ((F_DR_isLeft lx298 lx299 lx300 lx301 lx302 lx303 lx304 lx305 lx306 lx307 lx308 lx310) : Int32)) (t0_5 := (1 : Int32)) (t0_6 := lx304) (t0_7 := lx305) (t0_8 := lx306) (t0_9 := lx307) (t0_10 := lx308) (t1_0 := t1_0) (t2_0 := t2_0) (t3_0 := t3_0) (t4_0 := t4_0) (t5_0 := lx309) (by with_reducible assumption) (by with_reducible assumption) ⟨by first | omega | decide, by first | omega | decide⟩ (by first | with_reducible assumption | exact g_one | exact g_cl (by with_reducible assumption) (by omega) (by omega))
              with_reducible refine v_owe h41.1 ?_
              replace h41 := h41.2
              generalize F_DR_store x4 lx298 lx299 lx300 j82 ((F_DR_isLeft lx298 lx299 lx300 lx301 lx302 lx303 lx304 lx305 lx306 lx307 lx308 lx310) : Int32) (1 : Int32) lx304 lx305 lx306 lx307 lx308 t1_0 t2_0 t3_0 t4_0 lx309 = p776 at *
              unfold Q_DR_store at h41
              unfold S_DR_quotient_c374_14 F_DR_quotient_c374_14
              refine ⟨trivial, ?_⟩
              (unfold Q_DR_quotient; dsimp only; with_reducible assumption)
            ·
              rw [if_neg g40, if_neg g40]
              have h42 := R_need (t0_0 := lx298) (t0_1 := lx299) (t0_2 := lx300) (t0_3 := lx301) (t0_4 := ((F_DR_isLeft lx298 lx299 lx300 lx301 lx302 lx303 lx304 lx305 lx306 lx307 lx308 lx310) : Int32)) (t0_5 := (1 : Int32)) (t0_6 := lx304) (t0_7 := lx305) (t0_8 := lx306) (t0_9 := lx307) (t0_10 := lx308) (t1_0 := lx309) ⟨by first | omega | decide, by first | omega | decide⟩
              have h42b := h42.2
              with_reducible refine v_owe h42.1 ?_
              by_cases g43 : (lg_cmp (j82 - (lx301 - ((lx300 - ((F_DR_needed lx298 lx299 lx300 lx301 ((F_DR_isLeft lx298 lx299 lx300 lx301 lx302 lx303 lx304 lx305 lx306 lx307 lx308 lx310) : Int32) (1 : Int32) lx304 lx305 lx306 lx307 lx308 lx309) : Int32) : Int32).toInt64 : Int64) : Int64) : Int64) 1000 : Int32) ≤ (0 : Int32)
              ·
                rw [if_pos g43, if_pos g43]
                have g43l := g_lc3 g43
                by_cases g44 : (0 : Int32) ≤ (lg_cmp (j82 - (lx301 - ((lx300 - ((F_DR_needed lx298 lx299 lx300 lx301 ((F_DR_isLeft lx298 lx299 lx300 lx301 lx302 lx303 lx304 lx305 lx306 lx307 lx308 lx310) : Int32) (1 : Int32) lx304 lx305 lx306 lx307 lx308 lx309) : Int32) : Int32).toInt64 : Int64) : Int64) : Int64) 0 : Int32)
                ·
                  rw [if_pos g44, if_pos g44]
                  have g44l := g_lc5 g44
                  have h45 := T_DR_lengthen (x2 := (j82 - (lx301 - ((lx300 - ((F_DR_needed lx298 lx299 lx300 lx301 ((F_DR_isLeft lx298 lx299 lx300 lx301 lx302 lx303 lx304 lx305 lx306 lx307 lx308 lx310) : Int32) (1 : Int32) lx304 lx305 lx306 lx307 lx308 lx309) : Int32) : Int32).toInt64 : Int64) : Int64) : Int64)) (t0_0 := lx298) (t0_1 := lx299) (t0_2 := ((F_DR_needed lx298 lx299 lx300 lx301 ((F_DR_isLeft lx298 lx299 lx300 lx301 lx302 lx303 lx304 lx305 lx306 lx307 lx308 lx310) : Int32) (1 : Int32) lx304 lx305 lx306 lx307 lx308 lx309) : Int32)) (t0_3 := (lx301 - ((lx300 - ((F_DR_needed lx298 lx299 lx300 lx301 ((F_DR_isLeft lx298 lx299 lx300 lx301 lx302 lx303 lx304 lx305 lx306 lx307 lx308 lx310) : Int32) (1 : Int32) lx304 lx305 lx306 lx307 lx308 lx309) : Int32) : Int32).toInt64 : Int64) : Int64)) (t0_4 := ((F_DR_isLeft lx298 lx299 lx300 lx301 lx302 lx303 lx304 lx305 lx306 lx307 lx308 lx310) : Int32)) (t0_5 := (1 : Int32)) (t0_6 := lx304) (t0_7 := lx305) (t0_8 := lx306) (t0_9 := lx307) (t0_10 := lx308) (t1_0 := lx309) ⟨by omega, by omega⟩ (by first | omega | decide) (by first | omega | (have ez : (0 : Int64).toInt = 0 := rfl; omega)) (by first | exact g_cl (by with_reducible assumption) (by omega) (by omega) | exact g_cl g_one (by omega) (by omega))
                  with_reducible refine v_owe h45.1 ?_
                  replace h45 := h45.2
                  generalize F_DR_lengthen (j82 - (lx301 - ((lx300 - ((F_DR_needed lx298 lx299 lx300 lx301 ((F_DR_isLeft lx298 lx299 lx300 lx301 lx302 lx303 lx304 lx305 lx306 lx307 lx308 lx310) : Int32) (1 : Int32) lx304 lx305 lx306 lx307 lx308 lx309) : Int32) : Int32).toInt64 : Int64) : Int64) : Int64) lx298 lx299 ((F_DR_needed lx298 lx299 lx300 lx301 ((F_DR_isLeft lx298 lx299 lx300 lx301 lx302 lx303 lx304 lx305 lx306 lx307 lx308 lx310) : Int32) (1 : Int32) lx304 lx305 lx306 lx307 lx308 lx309) : Int32) (lx301 - ((lx300 - ((F_DR_needed lx298 lx299 lx300 lx301 ((F_DR_isLeft lx298 lx299 lx300 lx301 lx302 lx303 lx304 lx305 lx306 lx307 lx308 lx310) : Int32) (1 : Int32) lx304 lx305 lx306 lx307 lx308 lx309) : Int32) : Int32).toInt64 : Int64) : Int64) ((F_DR_isLeft lx298 lx299 lx300 lx301 lx302 lx303 lx304 lx305 lx306 lx307 lx308 lx310) : Int32) (1 : Int32) lx304 lx305 lx306 lx307 lx308 lx309 = p500 at *
                  unfold Q_DR_lengthen at h45
                  obtain ⟨h451, h45g⟩ := h45
                  unfold S_DR_quotient_c369 F_DR_quotient_c369
                  have h46 := T_DR_store (x2 := x4) (t0_0 := (p500.1 : Int32)) (t0_1 := (p500.2.1 : Int32)) (t0_2 := (p500.2.2.1 : Int32)) (t0_3 := (p500.2.2.2.1 : Int64)) (t0_4 := (p500.2.2.2.2.1 : Int32)) (t0_5 := (p500.2.2.2.2.2.1 : Int32)) (t0_6 := (p500.2.2.2.2.2.2.1 : Int32)) (t0_7 := (p500.2.2.2.2.2.2.2.1 : Int32)) (t0_8 := (p500.2.2.2.2.2.2.2.2.1 : Int32)) (t0_9 := (p500.2.2.2.2.2.2.2.2.2.1 : Int32)) (t0_10 := (p500.2.2.2.2.2.2.2.2.2.2.1 : Int32)) (t1_0 := t1_0) (t2_0 := t2_0) (t3_0 := t3_0) (t4_0 := t4_0) (t5_0 := (p500.2.2.2.2.2.2.2.2.2.2.2 : (Nat → Int32))) (by with_reducible assumption) (by with_reducible assumption) ⟨by first | omega | decide, by first | omega | decide⟩ (by first | with_reducible assumption | exact g_one | exact g_cl (by with_reducible assumption) (by omega) (by omega))
                  with_reducible refine v_owe h46.1 ?_
                  replace h46 := h46.2
                  generalize F_DR_store x4 (p500.1 : Int32) (p500.2.1 : Int32) (p500.2.2.1 : Int32) (p500.2.2.2.1 : Int64) (p500.2.2.2.2.1 : Int32) (p500.2.2.2.2.2.1 : Int32) (p500.2.2.2.2.2.2.1 : Int32) (p500.2.2.2.2.2.2.2.1 : Int32) (p500.2.2.2.2.2.2.2.2.1 : Int32) (p500.2.2.2.2.2.2.2.2.2.1 : Int32) (p500.2.2.2.2.2.2.2.2.2.2.1 : Int32) t1_0 t2_0 t3_0 t4_0 (p500.2.2.2.2.2.2.2.2.2.2.2 : (Nat → Int32)) = p568 at *
                  unfold Q_DR_store at h46
                  unfold S_DR_quotient_c374 F_DR_quotient_c374
                  refine ⟨trivial, ?_⟩
                  (unfold Q_DR_quotient; dsimp only; with_reducible assumption)
                ·
                  rw [if_neg g44, if_neg g44]
                  have g44l := g_lc6 g44
                  have h47 := T_DR_lengthen (x2 := (0 : Int64)) (t0_0 := lx298) (t0_1 := lx299) (t0_2 := ((F_DR_needed lx298 lx299 lx300 lx301 ((F_DR_isLeft lx298 lx299 lx300 lx301 lx302 lx303 lx304 lx305 lx306 lx307 lx308 lx310) : Int32) (1 : Int32) lx304 lx305 lx306 lx307 lx308 lx309) : Int32)) (t0_3 := (lx301 - ((lx300 - ((F_DR_needed lx298 lx299 lx300 lx301 ((F_DR_isLeft lx298 lx299 lx300 lx301 lx302 lx303 lx304 lx305 lx306 lx307 lx308 lx310) : Int32) (1 : Int32) lx304 lx305 lx306 lx307 lx308 lx309) : Int32) : Int32).toInt64 : Int64) : Int64)) (t0_4 := ((F_DR_isLeft lx298 lx299 lx300 lx301 lx302 lx303 lx304 lx305 lx306 lx307 lx308 lx310) : Int32)) (t0_5 := (1 : Int32)) (t0_6 := lx304) (t0_7 := lx305) (t0_8 := lx306) (t0_9 := lx307) (t0_10 := lx308) (t1_0 := lx309) ⟨by omega, by omega⟩ (by first | omega | decide) (by first | omega | (have ez : (0 : Int64).toInt = 0 := rfl; omega)) (by first | exact g_cl (by with_reducible assumption) (by omega) (by omega) | exact g_cl g_one (by omega) (by omega))
                  with_reducible refine v_owe h47.1 ?_
                  replace h47 := h47.2
                  generalize F_DR_lengthen (0 : Int64) lx298 lx299 ((F_DR_needed lx298 lx299 lx300 lx301 ((F_DR_isLeft lx298 lx299 lx300 lx301 lx302 lx303 lx304 lx305 lx306 lx307 lx308 lx310) : Int32) (1 : Int32) lx304 lx305 lx306 lx307 lx308 lx309) : Int32) (lx301 - ((lx300 - ((F_DR_needed lx298 lx299 lx300 lx301 ((F_DR_isLeft lx298 lx299 lx300 lx301 lx302 lx303 lx304 lx305 lx306 lx307 lx308 lx310) : Int32) (1 : Int32) lx304 lx305 lx306 lx307 lx308 lx309) : Int32) : Int32).toInt64 : Int64) : Int64) ((F_DR_isLeft lx298 lx299 lx300 lx301 lx302 lx303 lx304 lx305 lx306 lx307 lx308 lx310) : Int32) (1 : Int32) lx304 lx305 lx306 lx307 lx308 lx309 = p630 at *
                  unfold Q_DR_lengthen at h47
                  obtain ⟨h471, h47g⟩ := h47
                  unfold S_DR_quotient_c369_12 F_DR_quotient_c369_12
                  have h48 := T_DR_store (x2 := x4) (t0_0 := (p630.1 : Int32)) (t0_1 := (p630.2.1 : Int32)) (t0_2 := (p630.2.2.1 : Int32)) (t0_3 := (p630.2.2.2.1 : Int64)) (t0_4 := (p630.2.2.2.2.1 : Int32)) (t0_5 := (p630.2.2.2.2.2.1 : Int32)) (t0_6 := (p630.2.2.2.2.2.2.1 : Int32)) (t0_7 := (p630.2.2.2.2.2.2.2.1 : Int32)) (t0_8 := (p630.2.2.2.2.2.2.2.2.1 : Int32)) (t0_9 := (p630.2.2.2.2.2.2.2.2.2.1 : Int32)) (t0_10 := (p630.2.2.2.2.2.2.2.2.2.2.1 : Int32)) (t1_0 := t1_0) (t2_0 := t2_0) (t3_0 := t3_0) (t4_0 := t4_0) (t5_0 := (p630.2.2.2.2.2.2.2.2.2.2.2 : (Nat → Int32))) (by with_reducible assumption) (by with_reducible assumption) ⟨by first | omega | decide, by first | omega | decide⟩ (by first | with_reducible assumption | exact g_one | exact g_cl (by with_reducible assumption) (by omega) (by omega))
                  with_reducible refine v_owe h48.1 ?_
                  replace h48 := h48.2
                  generalize F_DR_store x4 (p630.1 : Int32) (p630.2.1 : Int32) (p630.2.2.1 : Int32) (p630.2.2.2.1 : Int64) (p630.2.2.2.2.1 : Int32) (p630.2.2.2.2.2.1 : Int32) (p630.2.2.2.2.2.2.1 : Int32) (p630.2.2.2.2.2.2.2.1 : Int32) (p630.2.2.2.2.2.2.2.2.1 : Int32) (p630.2.2.2.2.2.2.2.2.2.1 : Int32) (p630.2.2.2.2.2.2.2.2.2.2.1 : Int32) t1_0 t2_0 t3_0 t4_0 (p630.2.2.2.2.2.2.2.2.2.2.2 : (Nat → Int32)) = p698 at *
                  unfold Q_DR_store at h48
                  unfold S_DR_quotient_c374_13 F_DR_quotient_c374_13
                  refine ⟨trivial, ?_⟩
                  (unfold Q_DR_quotient; dsimp only; with_reducible assumption)
              ·
                rw [if_neg g43, if_neg g43]
                have g43l := g_lc4 g43
                refine ⟨trivial, ?_⟩
                (unfold Q_DR_quotient; dsimp only; with_reducible assumption)
          ·
            rw [if_neg g39, if_neg g39]
            have g39i := q_nleI g39
            have h49 := T_DR_toPrecision (x2 := x5) (x3 := j82) (x4 := x6) (x5 := x4) (t0_0 := lx298) (t0_1 := lx299) (t0_2 := lx300) (t0_3 := lx301) (t0_4 := ((F_DR_isLeft lx298 lx299 lx300 lx301 lx302 lx303 lx304 lx305 lx306 lx307 lx308 lx310) : Int32)) (t0_5 := (1 : Int32)) (t0_6 := lx304) (t0_7 := lx305) (t0_8 := lx306) (t0_9 := lx307) (t0_10 := lx308) (t1_0 := t1_0) (t2_0 := t2_0) (t3_0 := t3_0) (t4_0 := t4_0) (t5_0 := lx309) (by with_reducible assumption) (by with_reducible assumption) ⟨by omega, by omega⟩ ⟨by first | omega | decide, by first | omega | decide⟩ (by first | with_reducible assumption | exact g_one) (fun hne => by first | exact ⟨by omega, u_hz hz (by omega)⟩ | (exfalso; omega))
            with_reducible refine v_owe h49.1 ?_
            replace h49 := h49.2
            generalize F_DR_toPrecision x5 j82 x6 x4 lx298 lx299 lx300 lx301 ((F_DR_isLeft lx298 lx299 lx300 lx301 lx302 lx303 lx304 lx305 lx306 lx307 lx308 lx310) : Int32) (1 : Int32) lx304 lx305 lx306 lx307 lx308 t1_0 t2_0 t3_0 t4_0 lx309 = p850 at *
            unfold Q_DR_toPrecision at h49
            unfold S_DR_quotient_c267 F_DR_quotient_c267
            refine ⟨trivial, ?_⟩
            (unfold Q_DR_quotient; dsimp only; with_reducible assumption)
    ·
      rw [if_neg g2, if_neg g2]
      have isp := u_nif g2 (by with_reducible assumption)
      by_cases g50 : lx85 < lx300
      ·
        rw [if_pos g50, if_pos g50]
        have g50i := q_ltI g50
        unfold S_DR_quotient_J203 F_DR_quotient_J203
        with_reducible refine v_owe h1.1 ?_
        by_cases g51 : (t3_0 x2.toNatClampNeg : Int32) = (t3_0 x3.toNatClampNeg : Int32)
        ·
          rw [if_pos g51, if_pos g51]
          unfold S_DR_quotient_J232 F_DR_quotient_J232
          by_cases g52 : lx300 = (0 : Int32)
          ·
            rw [if_pos g52, if_pos g52]
            have g52i := q_eqI g52
            unfold S_DR_quotient_J254 F_DR_quotient_J254
            by_cases g53 : x5 ≤ (0 : Int32)
            ·
              rw [if_pos g53, if_pos g53]
              have g53i := q_leI g53
              rw [if_neg g2, if_neg g2]
              refine ⟨trivial, ?_⟩
              (unfold Q_DR_quotient; dsimp only; with_reducible assumption)
            ·
              rw [if_neg g53, if_neg g53]
              have g53i := q_nleI g53
              have h54 := T_DR_toPrecision (x2 := x5) (x3 := j82) (x4 := x6) (x5 := x4) (t0_0 := lx298) (t0_1 := lx299) (t0_2 := (1 : Int32)) (t0_3 := lx301) (t0_4 := ((F_DR_isLeft lx298 lx299 lx300 lx301 lx302 lx303 lx304 lx305 lx306 lx307 lx308 lx310) : Int32)) (t0_5 := (0 : Int32)) (t0_6 := lx304) (t0_7 := lx305) (t0_8 := lx306) (t0_9 := lx307) (t0_10 := lx308) (t1_0 := t1_0) (t2_0 := t2_0) (t3_0 := t3_0) (t4_0 := t4_0) (t5_0 := (upd lx309 (0 : Int32).toNatClampNeg 0 : (Nat → Int32))) (by with_reducible assumption) (by with_reducible assumption) ⟨by omega, by omega⟩ ⟨by first | omega | decide, by first | omega | decide⟩ (by first | with_reducible assumption | exact g_one) (fun hne => by first | exact ⟨by omega, u_hz hz (by omega)⟩ | (exfalso; omega))
              with_reducible refine v_owe h54.1 ?_
              replace h54 := h54.2
              generalize F_DR_toPrecision x5 j82 x6 x4 lx298 lx299 (1 : Int32) lx301 ((F_DR_isLeft lx298 lx299 lx300 lx301 lx302 lx303 lx304 lx305 lx306 lx307 lx308 lx310) : Int32) (0 : Int32) lx304 lx305 lx306 lx307 lx308 t1_0 t2_0 t3_0 t4_0 (upd lx309 (0 : Int32).toNatClampNeg 0 : (Nat → Int32)) = p850 at *
              unfold Q_DR_toPrecision at h54
              unfold S_DR_quotient_c267 F_DR_quotient_c267
              refine ⟨trivial, ?_⟩
              (unfold Q_DR_quotient; dsimp only; with_reducible assumption)
          ·
            rw [if_neg g52, if_neg g52]
            have g52i := q_neI g52
            unfold S_DR_quotient_J254 F_DR_quotient_J254
            by_cases g55 : x5 ≤ (0 : Int32)
            ·
              rw [if_pos g55, if_pos g55]
              have g55i := q_leI g55
              rw [if_neg g2, if_neg g2]
              refine ⟨trivial, ?_⟩
              (unfold Q_DR_quotient; dsimp only; with_reducible assumption)
            ·
              rw [if_neg g55, if_neg g55]
              have g55i := q_nleI g55
              have h56 := T_DR_toPrecision (x2 := x5) (x3 := j82) (x4 := x6) (x5 := x4) (t0_0 := lx298) (t0_1 := lx299) (t0_2 := lx300) (t0_3 := lx301) (t0_4 := ((F_DR_isLeft lx298 lx299 lx300 lx301 lx302 lx303 lx304 lx305 lx306 lx307 lx308 lx310) : Int32)) (t0_5 := (0 : Int32)) (t0_6 := lx304) (t0_7 := lx305) (t0_8 := lx306) (t0_9 := lx307) (t0_10 := lx308) (t1_0 := t1_0) (t2_0 := t2_0) (t3_0 := t3_0) (t4_0 := t4_0) (t5_0 := lx309) (by with_reducible assumption) (by with_reducible assumption) ⟨by omega, by omega⟩ ⟨by first | omega | decide, by first | omega | decide⟩ (by first | with_reducible assumption | exact g_one) (fun hne => by first | exact ⟨by omega, u_hz hz (by omega)⟩ | (exfalso; omega))
              with_reducible refine v_owe h56.1 ?_
              replace h56 := h56.2
              generalize F_DR_toPrecision x5 j82 x6 x4 lx298 lx299 lx300 lx301 ((F_DR_isLeft lx298 lx299 lx300 lx301 lx302 lx303 lx304 lx305 lx306 lx307 lx308 lx310) : Int32) (0 : Int32) lx304 lx305 lx306 lx307 lx308 t1_0 t2_0 t3_0 t4_0 lx309 = p850 at *
              unfold Q_DR_toPrecision at h56
              unfold S_DR_quotient_c267 F_DR_quotient_c267
              refine ⟨trivial, ?_⟩
              (unfold Q_DR_quotient; dsimp only; with_reducible assumption)
        ·
          rw [if_neg g51, if_neg g51]
          unfold S_DR_quotient_J232 F_DR_quotient_J232
          by_cases g57 : lx300 = (0 : Int32)
          ·
            rw [if_pos g57, if_pos g57]
            have g57i := q_eqI g57
            unfold S_DR_quotient_J254 F_DR_quotient_J254
            by_cases g58 : x5 ≤ (0 : Int32)
            ·
              rw [if_pos g58, if_pos g58]
              have g58i := q_leI g58
              rw [if_neg g2, if_neg g2]
              refine ⟨trivial, ?_⟩
              (unfold Q_DR_quotient; dsimp only; with_reducible assumption)
            ·
              rw [if_neg g58, if_neg g58]
              have g58i := q_nleI g58
              have h59 := T_DR_toPrecision (x2 := x5) (x3 := j82) (x4 := x6) (x5 := x4) (t0_0 := lx298) (t0_1 := lx299) (t0_2 := (1 : Int32)) (t0_3 := lx301) (t0_4 := ((F_DR_isLeft lx298 lx299 lx300 lx301 lx302 lx303 lx304 lx305 lx306 lx307 lx308 lx310) : Int32)) (t0_5 := (1 : Int32)) (t0_6 := lx304) (t0_7 := lx305) (t0_8 := lx306) (t0_9 := lx307) (t0_10 := lx308) (t1_0 := t1_0) (t2_0 := t2_0) (t3_0 := t3_0) (t4_0 := t4_0) (t5_0 := (upd lx309 (0 : Int32).toNatClampNeg 0 : (Nat → Int32))) (by with_reducible assumption) (by with_reducible assumption) ⟨by omega, by omega⟩ ⟨by first | omega | decide, by first | omega | decide⟩ (by first | with_reducible assumption | exact g_one) (fun hne => by first | exact ⟨by omega, u_hz hz (by omega)⟩ | (exfalso; omega))
              with_reducible refine v_owe h59.1 ?_
              replace h59 := h59.2
              generalize F_DR_toPrecision x5 j82 x6 x4 lx298 lx299 (1 : Int32) lx301 ((F_DR_isLeft lx298 lx299 lx300 lx301 lx302 lx303 lx304 lx305 lx306 lx307 lx308 lx310) : Int32) (1 : Int32) lx304 lx305 lx306 lx307 lx308 t1_0 t2_0 t3_0 t4_0 (upd lx309 (0 : Int32).toNatClampNeg 0 : (Nat → Int32)) = p850 at *
              unfold Q_DR_toPrecision at h59
              unfold S_DR_quotient_c267 F_DR_quotient_c267
              refine ⟨trivial, ?_⟩
              (unfold Q_DR_quotient; dsimp only; with_reducible assumption)
          ·
            rw [if_neg g57, if_neg g57]
            have g57i := q_neI g57
            unfold S_DR_quotient_J254 F_DR_quotient_J254
            by_cases g60 : x5 ≤ (0 : Int32)
            ·
              rw [if_pos g60, if_pos g60]
              have g60i := q_leI g60
              rw [if_neg g2, if_neg g2]
              refine ⟨trivial, ?_⟩
              (unfold Q_DR_quotient; dsimp only; with_reducible assumption)
            ·
              rw [if_neg g60, if_neg g60]
              have g60i := q_nleI g60
              have h61 := T_DR_toPrecision (x2 := x5) (x3 := j82) (x4 := x6) (x5 := x4) (t0_0 := lx298) (t0_1 := lx299) (t0_2 := lx300) (t0_3 := lx301) (t0_4 := ((F_DR_isLeft lx298 lx299 lx300 lx301 lx302 lx303 lx304 lx305 lx306 lx307 lx308 lx310) : Int32)) (t0_5 := (1 : Int32)) (t0_6 := lx304) (t0_7 := lx305) (t0_8 := lx306) (t0_9 := lx307) (t0_10 := lx308) (t1_0 := t1_0) (t2_0 := t2_0) (t3_0 := t3_0) (t4_0 := t4_0) (t5_0 := lx309) (by with_reducible assumption) (by with_reducible assumption) ⟨by omega, by omega⟩ ⟨by first | omega | decide, by first | omega | decide⟩ (by first | with_reducible assumption | exact g_one) (fun hne => by first | exact ⟨by omega, u_hz hz (by omega)⟩ | (exfalso; omega))
              with_reducible refine v_owe h61.1 ?_
              replace h61 := h61.2
              generalize F_DR_toPrecision x5 j82 x6 x4 lx298 lx299 lx300 lx301 ((F_DR_isLeft lx298 lx299 lx300 lx301 lx302 lx303 lx304 lx305 lx306 lx307 lx308 lx310) : Int32) (1 : Int32) lx304 lx305 lx306 lx307 lx308 t1_0 t2_0 t3_0 t4_0 lx309 = p850 at *
              unfold Q_DR_toPrecision at h61
              unfold S_DR_quotient_c267 F_DR_quotient_c267
              refine ⟨trivial, ?_⟩
              (unfold Q_DR_quotient; dsimp only; with_reducible assumption)
      ·
        rw [if_neg g50, if_neg g50]
        have g50i := q_nltI g50
        have h62 := R_next  (x2 := (0 : Int32)) (t0_0 := lx298) (t0_1 := lx299) (t0_2 := lx300) (t0_3 := lx301) (t0_4 := lx302) (t0_5 := lx303) (t0_6 := lx304) (t0_7 := lx305) (t0_8 := lx306) (t0_9 := lx307) (t0_10 := lx308) (un := f117) (l0 := lx310) hw hU (by first | decide | exact g_kx hR.1 hx2 (by omega) (by omega))
        with_reducible refine v_owe h62.1 ?_
        replace h62 := h62.2
        generalize F_DR_nextFigure (0 : Int32) lx298 lx299 lx300 lx301 lx302 lx303 lx304 lx305 lx306 lx307 lx308 f117 lx310 = p899 at *
        obtain ⟨nxd, nxw, nxe⟩ := h62
        unfold S_DR_quotient_c184 F_DR_quotient_c184
        have h63 := R_app (x2 := (p899.1 : Int32)) (t0_0 := lx298) (t0_1 := lx299) (t0_2 := lx300) (t0_3 := lx301) (t0_4 := lx302) (t0_5 := lx303) (t0_6 := lx304) (t0_7 := lx305) (t0_8 := lx306) (t0_9 := lx307) (t0_10 := lx308) (t1_0 := lx309) ⟨by omega, by omega⟩ (by with_reducible assumption) (by with_reducible assumption) (by with_reducible assumption)
        with_reducible refine v_owe h63.1 ?_
        replace h63 := h63.2
        generalize F_DR_append (p899.1 : Int32) lx298 lx299 lx300 lx301 lx302 lx303 lx304 lx305 lx306 lx307 lx308 lx309 = p954 at *
        obtain ⟨h63q, ap1, ap2⟩ := h63
        unfold Q_DR_append at h63q
        obtain ⟨h632, h63g, h63z, h63a, h63b, h63d, h63e, h635, h637, h63k⟩ := h63q
        have app7 := h637
        have app7i := congrArg Int32.toInt h637
        unfold S_DR_quotient_c187 F_DR_quotient_c187
        exact ih _ _ _ _ _ _ _ _ _ _ _ _ _ ⟨by omega, by omega⟩ (by rw [app7]; exact nxw) (by rw [app7]; exact hU) (by with_reducible assumption) (by with_reducible assumption) (by rw [app7]; exact hP.step hw isp nxe (by with_reducible assumption) ap1 ap2)
theorem v_qu1 {x2 : Int32} {x3 : Int32} {x4 : Int32} {x5 : Int32} {x6 : Int32} {t0_0 : Int32} {t0_1 : Int32} {t0_2 : Int32} {t0_3 : Int64} {t0_4 : Int32} {t0_5 : Int32} {t0_6 : Int32} {t0_7 : Int32} {t0_8 : Int32} {t0_9 : Int32} {t0_10 : Int32} {t1_0 : (Nat → Int32)} {t2_0 : (Nat → Int32)} {t3_0 : (Nat → Int32)} {t4_0 : (Nat → Int32)} {t5_0 : (Nat → Int32)} {t6_0 : (Nat → Int32)} {t7_0 : (Nat → Int32)} {lx45 : Int32} {j82 : Int64} {lx85 : Int32} {p151 : (Int32 × Int32 × Int32 × Int64 × Int32 × Int32 × Int32 × Int32 × Int32 × Int32 × Int32 × (Nat → Int32))} {f117 : (Nat → Int32)} {p212 : (Int32 × Int32 × Int32 × Int64 × Int32 × Int32 × Int32 × Int32 × Int32 × Int32 × Int32 × (Nat → Int32))} (hR : gR t1_0 t2_0 t3_0 t4_0)(hx2 : 0 ≤ x2.toInt ∧ x2.toInt ≤ 9) (hx4 : 0 ≤ x4.toInt ∧ x4.toInt ≤ 9) (h85 : 1 ≤ lx85.toInt ∧ lx85.toInt ≤ 1000) (hx5 : 0 ≤ x5.toInt ∧ x5.toInt ≤ 1000) (h58 : 0 < x5.toInt → lx85.toInt = x5.toInt) : ∀ (n : Nat) (lx234 : Int32) (lx235 : Int32) (lx236 : Int32) (lx237 : Int32) (lx238 : Int64) (lx239 : Int32) (lx240 : Int32) (lx241 : Int32) (lx242 : Int32) (lx243 : Int32) (lx244 : Int32) (lx245 : Int32) (lx246 : (Nat → Int32)) (lx247 : (Nat → Int32)), (0 ≤ lx234.toInt ∧ lx234.toInt ≤ 1000) → (1001 - lx234.toInt < (n : Int)) → (0 ≤ lx237.toInt ∧ lx237.toInt ≤ lx234.toInt) → (uW lx242 f117 lx247) → (wL 0 (uV f117 lx242.toNatClampNeg)) → (gO lx246 lx237.toNatClampNeg) → (lx237.toInt = 0 ∨ lx246 0 ≠ 0) → (S_DR_quotient_L127 x2 x3 x4 x5 x6 t0_0 t0_1 t0_2 t0_3 t0_4 t0_5 t0_6 t0_7 t0_8 t0_9 t0_10 t1_0 t2_0 t3_0 t4_0 t5_0 t6_0 t7_0 lx45 j82 lx85 p151 f117 p212 n lx234 lx235 lx236 lx237 lx238 lx239 lx240 lx241 lx242 lx243 lx244 lx245 lx246 lx247) ∧ Q_DR_quotient (F_DR_quotient_L127 x2 x3 x4 x5 x6 t0_0 t0_1 t0_2 t0_3 t0_4 t0_5 t0_6 t0_7 t0_8 t0_9 t0_10 t1_0 t2_0 t3_0 t4_0 t5_0 t6_0 t7_0 lx45 j82 lx85 p151 f117 p212 n lx234 lx235 lx236 lx237 lx238 lx239 lx240 lx241 lx242 lx243 lx244 lx245 lx246 lx247) := by
  intro n
  induction n with
  | zero => intro lx234 lx235 lx236 lx237 lx238 lx239 lx240 lx241 lx242 lx243 lx244 lx245 lx246 lx247 h0 hm h1 hw hU ho hz; exact absurd (show False by omega) id
  | succ n ih =>
    intro lx234 lx235 lx236 lx237 lx238 lx239 lx240 lx241 lx242 lx243 lx244 lx245 lx246 lx247 h0 hm h1 hw hU ho hz
    have e0 : (0 : Int32).toInt = 0 := rfl
    have eL0 : (0 : Int64).toInt = 0 := rfl
    have eL1 : (10000 : Int64).toInt = 10000 := rfl
    have eL2 : (-10000 : Int64).toInt = -10000 := rfl
    have eL3 : (1000 : Int64).toInt = 1000 := rfl
    have eL4 : (-1 : Int64).toInt = -1 := rfl
    have eI3 : (1000 : Int32).toInt = 1000 := rfl
    have hu1 := hw.1
    have hmn := (gR.at hR hx2).1
    rw [S_DR_quotient_L127.eq_2, F_DR_quotient_L127.eq_2]
    by_cases g1 : (t2_0 x2.toNatClampNeg : Int32) ≤ lx234
    ·
      rw [if_pos g1, if_pos g1]
      have g1i := q_leI g1
      exact v_qu2 hR hx2 hx4 h85 hx5 h58 1000000 _ _ _ _ _ _ _ _ _ _ _ _ _ ⟨by omega, by omega⟩ hw hU ho hz (uP.start hw (by omega))
    ·
      rw [if_neg g1, if_neg g1]
      have g1i := q_nleI g1
      refine v_cons (by have := (g_ix (x := x2) (k := lx234) (by with_reducible assumption) ⟨by omega, by omega⟩).1; omega) ?_
      refine v_cons (by have := (g_ix (x := x2) (k := lx234) (by with_reducible assumption) ⟨by omega, by omega⟩).1; omega) ?_
      have h2 := R_next  (x2 := (t1_0 ((1000 * x2 : Int32) + lx234 : Int32).toNatClampNeg : Int32)) (t0_0 := lx235) (t0_1 := lx236) (t0_2 := lx237) (t0_3 := lx238) (t0_4 := lx239) (t0_5 := lx240) (t0_6 := lx241) (t0_7 := lx242) (t0_8 := lx243) (t0_9 := lx244) (t0_10 := lx245) (un := f117) (l0 := lx247) hw hU (by first | decide | exact g_kx hR.1 hx2 (by omega) (by omega))
      with_reducible refine v_owe h2.1 ?_
      replace h2 := h2.2
      generalize F_DR_nextFigure (t1_0 ((1000 * x2 : Int32) + lx234 : Int32).toNatClampNeg : Int32) lx235 lx236 lx237 lx238 lx239 lx240 lx241 lx242 lx243 lx244 lx245 f117 lx247 = p995 at *
      obtain ⟨nxd, nxw, nxe⟩ := h2
      unfold S_DR_quotient_c153 F_DR_quotient_c153
      have h3 := R_app (x2 := (p995.1 : Int32)) (t0_0 := lx235) (t0_1 := lx236) (t0_2 := lx237) (t0_3 := lx238) (t0_4 := lx239) (t0_5 := lx240) (t0_6 := lx241) (t0_7 := lx242) (t0_8 := lx243) (t0_9 := lx244) (t0_10 := lx245) (t1_0 := lx246) ⟨by omega, by omega⟩ (by with_reducible assumption) (by with_reducible assumption) (by with_reducible assumption)
      with_reducible refine v_owe h3.1 ?_
      replace h3 := h3.2
      generalize F_DR_append (p995.1 : Int32) lx235 lx236 lx237 lx238 lx239 lx240 lx241 lx242 lx243 lx244 lx245 lx246 = p1050 at *
      obtain ⟨h3q, ap1, ap2⟩ := h3
      unfold Q_DR_append at h3q
      obtain ⟨h32, h3g, h3z, h3a, h3b, h3d, h3e, h35, h37, h3k⟩ := h3q
      have app7 := h37
      have app7i := congrArg Int32.toInt h37
      unfold S_DR_quotient_c156 F_DR_quotient_c156
      obtain ⟨a4, e5⟩ := q_nm (lx234 + 1 : Int32)
      rw [e5]
      have a4i : a4.toInt = lx234.toInt + 1 := by rw [← e5]; exact q_addI (x := lx234.toInt) (y := 1) rfl (by decide) (by omega) (by omega)
      exact ih _ _ _ _ _ _ _ _ _ _ _ _ _ _ ⟨by omega, by omega⟩ (by omega) ⟨by omega, by omega⟩ (by rw [app7]; exact nxw) (by rw [app7]; exact hU) (by with_reducible assumption) (by with_reducible assumption)
theorem T_DR_quotient {x2 : Int32} {x3 : Int32} {x4 : Int32} {x5 : Int32} {x6 : Int32} {t0_0 : Int32} {t0_1 : Int32} {t0_2 : Int32} {t0_3 : Int64} {t0_4 : Int32} {t0_5 : Int32} {t0_6 : Int32} {t0_7 : Int32} {t0_8 : Int32} {t0_9 : Int32} {t0_10 : Int32} {t1_0 : (Nat → Int32)} {t2_0 : (Nat → Int32)} {t3_0 : (Nat → Int32)} {t4_0 : (Nat → Int32)} {t5_0 : (Nat → Int32)} {t6_0 : (Nat → Int32)} {t7_0 : (Nat → Int32)} (hR : gR t1_0 t2_0 t3_0 t4_0) : (S_DR_quotient x2 x3 x4 x5 x6 t0_0 t0_1 t0_2 t0_3 t0_4 t0_5 t0_6 t0_7 t0_8 t0_9 t0_10 t1_0 t2_0 t3_0 t4_0 t5_0 t6_0 t7_0) ∧ Q_DR_quotient (F_DR_quotient x2 x3 x4 x5 x6 t0_0 t0_1 t0_2 t0_3 t0_4 t0_5 t0_6 t0_7 t0_8 t0_9 t0_10 t1_0 t2_0 t3_0 t4_0 t5_0 t6_0 t7_0) := by
  have e0 : (0 : Int32).toInt = 0 := rfl
  have eL0 : (0 : Int64).toInt = 0 := rfl
  have eL1 : (10000 : Int64).toInt = 10000 := rfl
  have eL2 : (-10000 : Int64).toInt = -10000 := rfl
  have eL3 : (1000 : Int64).toInt = 1000 := rfl
  have eL4 : (-1 : Int64).toInt = -1 := rfl
  have eI3 : (1000 : Int32).toInt = 1000 := rfl
  have i1 : (1 : Int32).toInt = 1 := rfl
  unfold S_DR_quotient F_DR_quotient
  by_cases g1 : ((F_DR_no x2) : Int32) = (0 : Int32)
  ·
    rw [if_pos g1, if_pos g1]
    have g1r := g_no g1
    by_cases g2 : ((F_DR_no x3) : Int32) = (0 : Int32)
    ·
      rw [if_pos g2, if_pos g2]
      have g2r := g_no g2
      by_cases g3 : ((F_DR_no x4) : Int32) = (0 : Int32)
      ·
        rw [if_pos g3, if_pos g3]
        have g3r := g_no g3
        by_cases g4 : ((F_DR_noMode x6) : Int32) = (0 : Int32)
        ·
          rw [if_pos g4, if_pos g4]
          by_cases g5 : x5 < (0 : Int32)
          ·
            rw [if_pos g5, if_pos g5]
            have g5i : x5.toInt < 0 := q_ltI g5
            unfold S_DR_quotient_J43 F_DR_quotient_J43
            unfold S_DR_quotient_J60 F_DR_quotient_J60
            have g6 : ¬ ((1 : Int32) ≤ (0 : Int32)) := (by decide)
            rw [if_neg g6, if_neg g6]
            refine ⟨trivial, ?_⟩
            (unfold Q_DR_quotient; dsimp only; with_reducible assumption)
          ·
            rw [if_neg g5, if_neg g5]
            have g5i : 0 ≤ x5.toInt := q_nltI g5
            by_cases g7 : x5 ≤ (1000 : Int32)
            ·
              rw [if_pos g7, if_pos g7]
              have g7i : x5.toInt ≤ 1000 := q_leI g7
              have h8 := R_dz (x2 := x3) (t0_0 := t0_0) (t0_1 := t0_1) (t0_2 := t0_2) (t0_3 := t0_3) (t0_4 := t0_4) (t0_5 := t0_5) (t0_6 := t0_6) (t0_7 := t0_7) (t0_8 := t0_8) (t0_9 := t0_9) (t0_10 := t0_10) (t1_0 := t1_0) (by with_reducible assumption)
              have h8z := h8.2
              with_reducible refine v_owe h8.1 ?_
              by_cases g9 : ((F_DR_isZero x3 t0_0 t0_1 t0_2 t0_3 t0_4 t0_5 t0_6 t0_7 t0_8 t0_9 t0_10 t1_0) : Int32) = (0 : Int32)
              ·
                rw [if_pos g9, if_pos g9]
                have nz3 := u_if g9 (by with_reducible assumption)
                have m2 := gR.at hR (by with_reducible assumption : 0 ≤ x2.toInt ∧ x2.toInt ≤ 9)
                have m3 := gR.at hR (by with_reducible assumption : 0 ≤ x3.toInt ∧ x3.toInt ≤ 9)
                unfold S_DR_quotient_J60 F_DR_quotient_J60
                have g10 : ((0 : Int32) ≤ (0 : Int32)) := (by decide)
                rw [if_pos g10, if_pos g10]
                refine v_cons (by omega) ?_
                refine v_cons (by omega) ?_
                refine v_cons (by omega) ?_
                refine v_cons (by omega) ?_
                by_cases g11 : x5 = (0 : Int32)
                ·
                  rw [if_pos g11, if_pos g11]
                  have g11i := q_eqI g11
                  unfold S_DR_quotient_J106 F_DR_quotient_J106
                  have h12 := T_DR_loadUnder (x2 := x3) (x3 := (0 : Int32)) (t0_0 := (0 : Int32)) (t0_1 := t0_1) (t0_2 := t0_2) (t0_3 := t0_3) (t0_4 := t0_4) (t0_5 := t0_5) (t0_6 := t0_6) (t0_7 := t0_7) (t0_8 := t0_8) (t0_9 := t0_9) (t0_10 := (2 : Int32)) (t1_0 := t1_0) (t2_0 := t2_0) (t3_0 := t6_0) hR.1 (gR.at hR (by with_reducible assumption)).1 (by with_reducible assumption) ⟨by decide, by omega⟩
                  with_reducible refine v_owe h12.1 ?_
                  replace h12 := h12.2
                  generalize F_DR_loadUnder x3 (0 : Int32) (0 : Int32) t0_1 t0_2 t0_3 t0_4 t0_5 t0_6 t0_7 t0_8 t0_9 (2 : Int32) t1_0 t2_0 t6_0 = p151 at *
                  unfold Q_DR_loadUnder at h12
                  obtain ⟨h127, h12g, h12z, h12a, h12b, h12c, h12d, h12e, h12f, h12k⟩ := h12
                  have unz := h12z
                  have unf := congrArg Int32.toInt h12f
                  have unp := u_p1 h12g (by have e9 := q_clI (i := p151.2.2.2.2.2.2.2.1) rfl (by omega); omega) (by rw [unz]; exact nz3)
                  unfold S_DR_quotient_c111 F_DR_quotient_c111
                  have h13 := T_DR_beginQuotient (t0_0 := (p151.1 : Int32)) (t0_1 := (p151.2.1 : Int32)) (t0_2 := (p151.2.2.1 : Int32)) (t0_3 := (p151.2.2.2.1 : Int64)) (t0_4 := (p151.2.2.2.2.1 : Int32)) (t0_5 := (p151.2.2.2.2.2.1 : Int32)) (t0_6 := (p151.2.2.2.2.2.2.1 : Int32)) (t0_7 := (p151.2.2.2.2.2.2.2.1 : Int32)) (t0_8 := (p151.2.2.2.2.2.2.2.2.1 : Int32)) (t0_9 := (p151.2.2.2.2.2.2.2.2.2.1 : Int32)) (t0_10 := (p151.2.2.2.2.2.2.2.2.2.2.1 : Int32)) (t1_0 := t7_0) ⟨by omega, by omega⟩
                  with_reducible refine v_owe h13.1 ?_
                  replace h13 := h13.2
                  generalize F_DR_beginQuotient (p151.1 : Int32) (p151.2.1 : Int32) (p151.2.2.1 : Int32) (p151.2.2.2.1 : Int64) (p151.2.2.2.2.1 : Int32) (p151.2.2.2.2.2.1 : Int32) (p151.2.2.2.2.2.2.1 : Int32) (p151.2.2.2.2.2.2.2.1 : Int32) (p151.2.2.2.2.2.2.2.2.1 : Int32) (p151.2.2.2.2.2.2.2.2.2.1 : Int32) (p151.2.2.2.2.2.2.2.2.2.2.1 : Int32) t7_0 = p212 at *
                  unfold Q_DR_beginQuotient at h13
                  obtain ⟨h13o, h13a, h13b, h132, h13d, h13e, h135, h137, h13k⟩ := h13
                  have beg0 := h13o
                  have beg2 := congrArg Int32.toInt h132
                  have beg5 := congrArg Int32.toInt h135
                  have beg7 := congrArg Int32.toInt h137
                  have beq7 := h137
                  have beq2 := h132
                  unfold S_DR_quotient_c115 F_DR_quotient_c115
                  exact v_qu1 hR (by with_reducible assumption) (by with_reducible assumption) ⟨by first | omega | decide, by first | omega | decide⟩ ⟨by omega, by omega⟩ (fun h => by first | rfl | omega) _ _ _ _ _ _ _ _ _ _ _ _ _ _ _ (by decide) (by decide) ⟨by omega, by omega⟩ (by rw [beq7]; exact u_w0 ⟨by omega, by omega⟩ (by with_reducible assumption) unp beg0) (by rw [beq7]; exact unp) (u_gz beq2) (Or.inl (by omega))
                ·
                  rw [if_neg g11, if_neg g11]
                  have g11i := q_neI g11
                  unfold S_DR_quotient_J106 F_DR_quotient_J106
                  have h14 := T_DR_loadUnder (x2 := x3) (x3 := (0 : Int32)) (t0_0 := (0 : Int32)) (t0_1 := t0_1) (t0_2 := t0_2) (t0_3 := t0_3) (t0_4 := t0_4) (t0_5 := t0_5) (t0_6 := t0_6) (t0_7 := t0_7) (t0_8 := t0_8) (t0_9 := t0_9) (t0_10 := (2 : Int32)) (t1_0 := t1_0) (t2_0 := t2_0) (t3_0 := t6_0) hR.1 (gR.at hR (by with_reducible assumption)).1 (by with_reducible assumption) ⟨by decide, by omega⟩
                  with_reducible refine v_owe h14.1 ?_
                  replace h14 := h14.2
                  generalize F_DR_loadUnder x3 (0 : Int32) (0 : Int32) t0_1 t0_2 t0_3 t0_4 t0_5 t0_6 t0_7 t0_8 t0_9 (2 : Int32) t1_0 t2_0 t6_0 = p151 at *
                  unfold Q_DR_loadUnder at h14
                  obtain ⟨h147, h14g, h14z, h14a, h14b, h14c, h14d, h14e, h14f, h14k⟩ := h14
                  have unz := h14z
                  have unf := congrArg Int32.toInt h14f
                  have unp := u_p1 h14g (by have e9 := q_clI (i := p151.2.2.2.2.2.2.2.1) rfl (by omega); omega) (by rw [unz]; exact nz3)
                  unfold S_DR_quotient_c111 F_DR_quotient_c111
                  have h15 := T_DR_beginQuotient (t0_0 := (p151.1 : Int32)) (t0_1 := (p151.2.1 : Int32)) (t0_2 := (p151.2.2.1 : Int32)) (t0_3 := (p151.2.2.2.1 : Int64)) (t0_4 := (p151.2.2.2.2.1 : Int32)) (t0_5 := (p151.2.2.2.2.2.1 : Int32)) (t0_6 := (p151.2.2.2.2.2.2.1 : Int32)) (t0_7 := (p151.2.2.2.2.2.2.2.1 : Int32)) (t0_8 := (p151.2.2.2.2.2.2.2.2.1 : Int32)) (t0_9 := (p151.2.2.2.2.2.2.2.2.2.1 : Int32)) (t0_10 := (p151.2.2.2.2.2.2.2.2.2.2.1 : Int32)) (t1_0 := t7_0) ⟨by omega, by omega⟩
                  with_reducible refine v_owe h15.1 ?_
                  replace h15 := h15.2
                  generalize F_DR_beginQuotient (p151.1 : Int32) (p151.2.1 : Int32) (p151.2.2.1 : Int32) (p151.2.2.2.1 : Int64) (p151.2.2.2.2.1 : Int32) (p151.2.2.2.2.2.1 : Int32) (p151.2.2.2.2.2.2.1 : Int32) (p151.2.2.2.2.2.2.2.1 : Int32) (p151.2.2.2.2.2.2.2.2.1 : Int32) (p151.2.2.2.2.2.2.2.2.2.1 : Int32) (p151.2.2.2.2.2.2.2.2.2.2.1 : Int32) t7_0 = p212 at *
                  unfold Q_DR_beginQuotient at h15
                  obtain ⟨h15o, h15a, h15b, h152, h15d, h15e, h155, h157, h15k⟩ := h15
                  have beg0 := h15o
                  have beg2 := congrArg Int32.toInt h152
                  have beg5 := congrArg Int32.toInt h155
                  have beg7 := congrArg Int32.toInt h157
                  have beq7 := h157
                  have beq2 := h152
                  unfold S_DR_quotient_c115 F_DR_quotient_c115
                  exact v_qu1 hR (by with_reducible assumption) (by with_reducible assumption) ⟨by first | omega | decide, by first | omega | decide⟩ ⟨by omega, by omega⟩ (fun h => by first | rfl | omega) _ _ _ _ _ _ _ _ _ _ _ _ _ _ _ (by decide) (by decide) ⟨by omega, by omega⟩ (by rw [beq7]; exact u_w0 ⟨by omega, by omega⟩ (by with_reducible assumption) unp beg0) (by rw [beq7]; exact unp) (u_gz beq2) (Or.inl (by omega))
              ·
                rw [if_neg g9, if_neg g9]
                unfold S_DR_quotient_J60 F_DR_quotient_J60
                have g16 : ¬ ((2 : Int32) ≤ (0 : Int32)) := (by decide)
                rw [if_neg g16, if_neg g16]
                refine ⟨trivial, ?_⟩
                (unfold Q_DR_quotient; dsimp only; with_reducible assumption)
            ·
              rw [if_neg g7, if_neg g7]
              have g7i : 1000 < x5.toInt := q_nleI g7
              unfold S_DR_quotient_J43 F_DR_quotient_J43
              unfold S_DR_quotient_J60 F_DR_quotient_J60
              have g17 : ¬ ((1 : Int32) ≤ (0 : Int32)) := (by decide)
              rw [if_neg g17, if_neg g17]
              refine ⟨trivial, ?_⟩
              (unfold Q_DR_quotient; dsimp only; with_reducible assumption)
        ·
          rw [if_neg g4, if_neg g4]
          unfold S_DR_quotient_J43 F_DR_quotient_J43
          unfold S_DR_quotient_J60 F_DR_quotient_J60
          have g18 : ¬ ((1 : Int32) ≤ (0 : Int32)) := (by decide)
          rw [if_neg g18, if_neg g18]
          refine ⟨trivial, ?_⟩
          (unfold Q_DR_quotient; dsimp only; with_reducible assumption)
      ·
        rw [if_neg g3, if_neg g3]
        unfold S_DR_quotient_J43 F_DR_quotient_J43
        unfold S_DR_quotient_J60 F_DR_quotient_J60
        have g19 : ¬ ((1 : Int32) ≤ (0 : Int32)) := (by decide)
        rw [if_neg g19, if_neg g19]
        refine ⟨trivial, ?_⟩
        (unfold Q_DR_quotient; dsimp only; with_reducible assumption)
    ·
      rw [if_neg g2, if_neg g2]
      unfold S_DR_quotient_J43 F_DR_quotient_J43
      unfold S_DR_quotient_J60 F_DR_quotient_J60
      have g20 : ¬ ((1 : Int32) ≤ (0 : Int32)) := (by decide)
      rw [if_neg g20, if_neg g20]
      refine ⟨trivial, ?_⟩
      (unfold Q_DR_quotient; dsimp only; with_reducible assumption)
  ·
    rw [if_neg g1, if_neg g1]
    unfold S_DR_quotient_J43 F_DR_quotient_J43
    unfold S_DR_quotient_J60 F_DR_quotient_J60
    have g21 : ¬ ((1 : Int32) ≤ (0 : Int32)) := (by decide)
    rw [if_neg g21, if_neg g21]
    refine ⟨trivial, ?_⟩
    (unfold Q_DR_quotient; dsimp only; with_reducible assumption)

/-! DecimalRows: takesRoot, nextRoot -/
theorem g_dbl {b c : Int32} (hb : 0 ≤ b.toInt ∧ b.toInt ≤ 9) (hc : 0 ≤ c.toInt ∧ c.toInt ≤ 9) : (0 ≤ (2 * b * c : Int32).toInt ∧ (2 * b * c : Int32).toInt ≤ 162) ∧ (c.toInt = 0 → (2 * b * c : Int32).toInt = 0) := by
  have e1 : (2 * b : Int32).toInt = 2 * b.toInt := q_mulI (x := 2) (by decide) rfl (by omega) (by omega)
  have h1 : 0 ≤ (2 * b.toInt) * c.toInt := Int.mul_nonneg (by omega) hc.1
  have h2 : (2 * b.toInt) * c.toInt ≤ 18 * 9 := Int.mul_le_mul (by omega) hc.2 hc.1 (by decide)
  have e : (2 * b * c : Int32).toInt = (2 * b.toInt) * c.toInt := q_mulI e1 rfl (by omega) (by omega)
  refine ⟨by omega, fun h => ?_⟩
  rw [e, h, Int.mul_zero]
theorem g_c17 {v : Int32} (h : 0 ≤ v.toInt ∧ v.toInt ≤ 179) : 0 ≤ (v / 10).toInt ∧ (v / 10).toInt ≤ 17 := by rw [g_q10 h.1]; omega
theorem g_c0 {v : Int32} (h : v.toInt = 0) : (v / 10).toInt = 0 := by rw [g_q10 (by omega)]; omega
theorem g_m0 {v : Int32} (h : v.toInt = 0) : (v - v / 10 * 10 : Int32).toInt = 0 := by
  have e : v = 0 := Int32.toInt_inj.mp (by rw [h]; rfl)
  rw [e]; decide
theorem g_und {f : Nat → Int32} {A k k1 s w x : Int32} (hA : A.toInt = s.toInt - 1 - k.toInt) (h0 : 0 ≤ A.toInt) (hk1 : k1.toInt = k.toInt + 1) (ho : ∀ i : Nat, s.toInt - k.toInt ≤ (i : Int) → (i : Int) < s.toInt → (0 ≤ (f i).toInt ∧ (f i).toInt ≤ 9) ∧ (x.toInt = 0 → (f i).toInt = 0)) (hw : (0 ≤ w.toInt ∧ w.toInt ≤ 9) ∧ (x.toInt = 0 → w.toInt = 0)) : ∀ i : Nat, s.toInt - k1.toInt ≤ (i : Int) → (i : Int) < s.toInt → (0 ≤ (upd f A.toNatClampNeg w i).toInt ∧ (upd f A.toNatClampNeg w i).toInt ≤ 9) ∧ (x.toInt = 0 → (upd f A.toNatClampNeg w i).toInt = 0) := fun i h1 h2 => by
  have e7 := q_clI (i := A) rfl h0
  by_cases c : i = A.toNatClampNeg
  · rw [c, v_eq]; exact hw
  · rw [v_ne c]; exact ho i (by omega) h2
theorem g_sbE {l u b : Int32} (hl : 0 ≤ l.toInt ∧ l.toInt ≤ 9) (hu : 0 ≤ u.toInt ∧ u.toInt ≤ 9) (hb : 0 ≤ b.toInt ∧ b.toInt ≤ 1) : (l - u - b : Int32).toInt = l.toInt - u.toInt - b.toInt := by
  have e : (l - u : Int32).toInt = l.toInt - u.toInt := q_subI rfl rfl (by omega) (by omega)
  exact q_subI e rfl (by omega) (by omega)
theorem g_sb1 {l u b : Int32} (hl : 0 ≤ l.toInt ∧ l.toInt ≤ 9) (hu : 0 ≤ u.toInt ∧ u.toInt ≤ 9) (hb : 0 ≤ b.toInt ∧ b.toInt ≤ 1) (g : (0 : Int32) ≤ (l - u - b : Int32)) : 0 ≤ (l - u - b : Int32).toInt ∧ (l - u - b : Int32).toInt ≤ 9 := by
  have g2 := q_leI g
  have e0 : (0 : Int32).toInt = 0 := rfl
  have e := g_sbE hl hu hb
  omega
theorem g_sb2 {l u b : Int32} (hl : 0 ≤ l.toInt ∧ l.toInt ≤ 9) (hu : 0 ≤ u.toInt ∧ u.toInt ≤ 9) (hb : 0 ≤ b.toInt ∧ b.toInt ≤ 1) (g : ¬ (0 : Int32) ≤ (l - u - b : Int32)) : 0 ≤ (l - u - b + 10 : Int32).toInt ∧ (l - u - b + 10 : Int32).toInt ≤ 9 := by
  have g2 := q_nleI g
  have e0 : (0 : Int32).toInt = 0 := rfl
  have e := g_sbE hl hu hb
  have e2 : (l - u - b + 10 : Int32).toInt = (l.toInt - u.toInt - b.toInt) + 10 := q_addI e (by decide) (by omega) (by omega)
  omega
/-- the fields that takesRoot and nextRoot leave -/
def gK (a0 a1 : Int32) (a3 : Int64) (a4 a5 a6 a9 a10 b0 b1 : Int32) (b3 : Int64) (b4 b5 b6 b9 b10 : Int32) : Prop := a0 = b0 ∧ a1 = b1 ∧ a3 = b3 ∧ a4 = b4 ∧ a5 = b5 ∧ a6 = b6 ∧ a9 = b9 ∧ a10 = b10
theorem gK.rfl' {a0 a1 : Int32} {a3 : Int64} {a4 a5 a6 a9 a10 : Int32} : gK a0 a1 a3 a4 a5 a6 a9 a10 a0 a1 a3 a4 a5 a6 a9 a10 := ⟨rfl, rfl, rfl, rfl, rfl, rfl, rfl, rfl⟩
theorem gK.trans {a0 a1 : Int32} {a3 : Int64} {a4 a5 a6 a9 a10 b0 b1 : Int32} {b3 : Int64} {b4 b5 b6 b9 b10 c0 c1 : Int32} {c3 : Int64} {c4 c5 c6 c9 c10 : Int32} (h : gK a0 a1 a3 a4 a5 a6 a9 a10 b0 b1 b3 b4 b5 b6 b9 b10) (h2 : gK b0 b1 b3 b4 b5 b6 b9 b10 c0 c1 c3 c4 c5 c6 c9 c10) : gK a0 a1 a3 a4 a5 a6 a9 a10 c0 c1 c3 c4 c5 c6 c9 c10 :=
  ⟨h.1.trans h2.1, h.2.1.trans h2.2.1, h.2.2.1.trans h2.2.2.1, h.2.2.2.1.trans h2.2.2.2.1, h.2.2.2.2.1.trans h2.2.2.2.2.1, h.2.2.2.2.2.1.trans h2.2.2.2.2.2.1, h.2.2.2.2.2.2.1.trans h2.2.2.2.2.2.2.1, h.2.2.2.2.2.2.2.trans h2.2.2.2.2.2.2.2⟩
def Q_DR_takesRoot (x2 t0_0 t0_1 t0_2 : Int32) (t0_3 : Int64) (t0_4 t0_5 t0_6 t0_8 t0_9 t0_10 : Int32) (t3_0 : Nat → Int32) (p : Int32 × Int32 × Int32 × Int32 × Int64 × Int32 × Int32 × Int32 × Int32 × Int32 × Int32 × Int32 × (Nat → Int32) × (Nat → Int32)) : Prop := gK p.2.1 p.2.2.1 p.2.2.2.2.1 p.2.2.2.2.2.1 p.2.2.2.2.2.2.1 p.2.2.2.2.2.2.2.1 p.2.2.2.2.2.2.2.2.2.2.1 p.2.2.2.2.2.2.2.2.2.2.2.1 t0_0 t0_1 t0_3 t0_4 t0_5 t0_6 t0_9 t0_10 ∧ p.2.2.2.1 = t0_2 ∧ p.2.2.2.2.2.2.2.2.2.1 = t0_8 ∧ gO p.2.2.2.2.2.2.2.2.2.2.2.2.2 t0_8.toNatClampNeg ∧ (x2.toInt = 0 → p.1 ≠ 0) ∧ (p.1 = 0 → p.2.2.2.2.2.2.2.2.2.2.2.2.2 = t3_0)
theorem v_tr3 {K_F_DR_takesRoot_L34 : Int32 → Int32 → (Nat → Int32) → (Int32 × Int32 × Int32 × Int32 × Int64 × Int32 × Int32 × Int32 × Int32 × Int32 × Int32 × Int32 × (Nat → Int32) × (Nat → Int32))} {K_F_DR_takesRoot_L141 : Int32 → (Int32 × Int32 × Int32 × Int32 × Int64 × Int32 × Int32 × Int32 × Int32 × Int32 × Int32 × Int32 × (Nat → Int32) × (Nat → Int32))} {x2 : Int32} {t0_0 : Int32} {t0_1 : Int32} {t0_2 : Int32} {t0_3 : Int64} {t0_4 : Int32} {t0_5 : Int32} {t0_6 : Int32} {t0_7 : Int32} {t0_8 : Int32} {t0_9 : Int32} {t0_10 : Int32} {t1_0 : (Nat → Int32)} {t2_0 : (Nat → Int32)} {t3_0 : (Nat → Int32)} {a38 : Int32} {lx42 : Int32} {lx43 : Int32} {lx44 : (Nat → Int32)} {lx62 : Int32} {K_S_DR_takesRoot_L34 : Int32 → Int32 → (Nat → Int32) → Prop} {K_S_DR_takesRoot_L141 : Int32 → Prop} (h2 : 0 ≤ t0_2.toInt ∧ t0_2.toInt ≤ 1000) (h8 : 0 ≤ t0_8.toInt ∧ t0_8.toInt ≤ 2200) (hr : gO t1_0 t0_2.toNatClampNeg) (hl : gO t3_0 t0_8.toNatClampNeg) (hx : 0 ≤ x2.toInt ∧ x2.toInt ≤ 9)(hu : ∀ i : Nat, (i : Int) < t0_8.toInt → (0 ≤ (lx44 i).toInt ∧ (lx44 i).toInt ≤ 9) ∧ (x2.toInt = 0 → (lx44 i).toInt = 0)) : ∀ (n : Nat) (lx75 : Int32) (lx76 : Int32) (lx77 : (Nat → Int32)), (-1 ≤ lx75.toInt ∧ lx75.toInt < t0_8.toInt) → (lx75.toInt + 1 < (n : Int)) → (0 ≤ lx76.toInt ∧ lx76.toInt ≤ 1) → (gO lx77 t0_8.toNatClampNeg) → (S_DR_takesRoot_L209 K_S_DR_takesRoot_L34 K_S_DR_takesRoot_L141 x2 t0_0 t0_1 t0_2 t0_3 t0_4 t0_5 t0_6 t0_7 t0_8 t0_9 t0_10 t1_0 t2_0 t3_0 a38 lx42 lx43 lx44 lx62 n lx75 lx76 lx77) ∧ (fun p => Q_DR_takesRoot x2 t0_0 t0_1 t0_2 t0_3 t0_4 t0_5 t0_6 t0_8 t0_9 t0_10 t3_0 p ∧ p.1 = 1) (F_DR_takesRoot_L209 K_F_DR_takesRoot_L34 K_F_DR_takesRoot_L141 x2 t0_0 t0_1 t0_2 t0_3 t0_4 t0_5 t0_6 t0_7 t0_8 t0_9 t0_10 t1_0 t2_0 t3_0 a38 lx42 lx43 lx44 lx62 n lx75 lx76 lx77) := by
  intro n
  induction n with
  | zero => intro lx75 lx76 lx77 h0 hm hb ho; exact absurd (show False by omega) id
  | succ n ih =>
    intro lx75 lx76 lx77 h0 hm hb ho
    have e0 : (0 : Int32).toInt = 0 := rfl
    have eL0 : (0 : Int64).toInt = 0 := rfl
    have eL1 : (10000 : Int64).toInt = 10000 := rfl
    have eL2 : (-10000 : Int64).toInt = -10000 := rfl
    have eL3 : (1000 : Int64).toInt = 1000 := rfl
    have eL4 : (-1 : Int64).toInt = -1 := rfl
    have eI3 : (1000 : Int32).toInt = 1000 := rfl
    rw [S_DR_takesRoot_L209.eq_2, F_DR_takesRoot_L209.eq_2]
    by_cases g1 : lx75 < (0 : Int32)
    ·
      rw [if_pos g1, if_pos g1]
      have g1i : lx75.toInt < 0 := q_ltI g1
      refine ⟨trivial, ?_⟩
      (refine ⟨?_, rfl⟩; unfold Q_DR_takesRoot; dsimp only; exact ⟨gK.rfl', rfl, rfl, by with_reducible assumption, fun _ => by decide, fun h => absurd h (by decide)⟩)
    ·
      rw [if_neg g1, if_neg g1]
      have g1i : 0 ≤ lx75.toInt := q_nltI g1
      refine v_cons (by omega) ?_
      refine v_cons (by omega) ?_
      by_cases g2 : (0 : Int32) ≤ (((lx77 lx75.toNatClampNeg : Int32) - (lx44 lx75.toNatClampNeg : Int32) : Int32) - lx76 : Int32)
      ·
        rw [if_pos g2, if_pos g2]
        obtain ⟨a3, e4⟩ := q_nm (lx75 + (-1) : Int32)
        rw [e4]
        have a3i : a3.toInt = lx75.toInt + (-1) := by rw [← e4]; exact q_addI (x := lx75.toInt) (y := (-1)) rfl (by decide) (by omega) (by omega)
        have e75 := q_clI (i := lx75) rfl (by omega); have q1 := g_at9 ho (i := lx75) (by omega) (by omega); have q2 := (hu lx75.toNatClampNeg (by omega)).1; exact ih _ _ _ ⟨by omega, by omega⟩ (by omega) (by decide) (gO_upd ho (g_sb1 q1 q2 hb g2))
      ·
        rw [if_neg g2, if_neg g2]
        obtain ⟨a5, e6⟩ := q_nm (lx75 + (-1) : Int32)
        rw [e6]
        have a5i : a5.toInt = lx75.toInt + (-1) := by rw [← e6]; exact q_addI (x := lx75.toInt) (y := (-1)) rfl (by decide) (by omega) (by omega)
        have e75 := q_clI (i := lx75) rfl (by omega); have q1 := g_at9 ho (i := lx75) (by omega) (by omega); have q2 := (hu lx75.toNatClampNeg (by omega)).1; exact ih _ _ _ ⟨by omega, by omega⟩ (by omega) (by decide) (gO_upd ho (g_sb2 q1 q2 hb g2))
theorem q_leI2 {a b : Int32} (h : a.toInt ≤ b.toInt) : a ≤ b := Int32.le_iff_toInt_le.mpr h
theorem v_tr2 {K_F_DR_takesRoot_L34 : Int32 → Int32 → (Nat → Int32) → (Int32 × Int32 × Int32 × Int32 × Int64 × Int32 × Int32 × Int32 × Int32 × Int32 × Int32 × Int32 × (Nat → Int32) × (Nat → Int32))} {x2 : Int32} {t0_0 : Int32} {t0_1 : Int32} {t0_2 : Int32} {t0_3 : Int64} {t0_4 : Int32} {t0_5 : Int32} {t0_6 : Int32} {t0_7 : Int32} {t0_8 : Int32} {t0_9 : Int32} {t0_10 : Int32} {t1_0 : (Nat → Int32)} {t2_0 : (Nat → Int32)} {t3_0 : (Nat → Int32)} {a38 : Int32} {lx42 : Int32} {lx43 : Int32} {lx44 : (Nat → Int32)} {K_S_DR_takesRoot_L34 : Int32 → Int32 → (Nat → Int32) → Prop} (h2 : 0 ≤ t0_2.toInt ∧ t0_2.toInt ≤ 1000) (h8 : 0 ≤ t0_8.toInt ∧ t0_8.toInt ≤ 2200) (hr : gO t1_0 t0_2.toNatClampNeg) (hl : gO t3_0 t0_8.toNatClampNeg) (hx : 0 ≤ x2.toInt ∧ x2.toInt ≤ 9)(hu : ∀ i : Nat, (i : Int) < t0_8.toInt → (0 ≤ (lx44 i).toInt ∧ (lx44 i).toInt ≤ 9) ∧ (x2.toInt = 0 → (lx44 i).toInt = 0)) : ∀ (n : Nat) (lx62 : Int32), (0 ≤ lx62.toInt ∧ lx62.toInt ≤ t0_8.toInt + 1) → (t0_8.toInt + 1 - lx62.toInt < (n : Int)) → (S_DR_takesRoot_L141 K_S_DR_takesRoot_L34 x2 t0_0 t0_1 t0_2 t0_3 t0_4 t0_5 t0_6 t0_7 t0_8 t0_9 t0_10 t1_0 t2_0 t3_0 a38 lx42 lx43 lx44 n lx62) ∧ Q_DR_takesRoot x2 t0_0 t0_1 t0_2 t0_3 t0_4 t0_5 t0_6 t0_8 t0_9 t0_10 t3_0 (F_DR_takesRoot_L141 K_F_DR_takesRoot_L34 x2 t0_0 t0_1 t0_2 t0_3 t0_4 t0_5 t0_6 t0_7 t0_8 t0_9 t0_10 t1_0 t2_0 t3_0 a38 lx42 lx43 lx44 n lx62) := by
  intro n
  induction n with
  | zero => intro lx62 h0 hm; exact absurd (show False by omega) id
  | succ n ih =>
    intro lx62 h0 hm
    have e0 : (0 : Int32).toInt = 0 := rfl
    have eL0 : (0 : Int64).toInt = 0 := rfl
    have eL1 : (10000 : Int64).toInt = 10000 := rfl
    have eL2 : (-10000 : Int64).toInt = -10000 := rfl
    have eL3 : (1000 : Int64).toInt = 1000 := rfl
    have eL4 : (-1 : Int64).toInt = -1 := rfl
    have eI3 : (1000 : Int32).toInt = 1000 := rfl
    have e62 := q_clI (i := lx62) rfl h0.1
    rw [S_DR_takesRoot_L141.eq_2, F_DR_takesRoot_L141.eq_2]
    by_cases g1 : t0_8 ≤ lx62
    ·
      rw [if_pos g1, if_pos g1]
      have g1i : t0_8.toInt ≤ lx62.toInt := q_leI g1
      have e5 : (t0_8 - 1 : Int32).toInt = t0_8.toInt - 1 := q_subI (y := 1) rfl (by decide) (by omega) (by omega); exact And.imp id And.left (v_tr3 h2 h8 hr hl hx hu (((t0_8 - 1 : Int32).toInt - (-1)).toNat + 1) (t0_8 - 1) 0 t3_0 ⟨by omega, by omega⟩ (by omega) (by decide) hl)
    ·
      rw [if_neg g1, if_neg g1]
      have g1i : lx62.toInt < t0_8.toInt := q_nleI g1
      refine v_cons (by omega) ?_
      refine v_cons (by omega) ?_
      refine v_cons (by omega) ?_
      by_cases g2 : (t3_0 lx62.toNatClampNeg : Int32) = (lx44 lx62.toNatClampNeg : Int32)
      ·
        rw [if_pos g2, if_pos g2]
        obtain ⟨a3, e4⟩ := q_nm (lx62 + 1 : Int32)
        rw [e4]
        have a3i : a3.toInt = lx62.toInt + 1 := by rw [← e4]; exact q_addI (x := lx62.toInt) (y := 1) rfl (by decide) (by omega) (by omega)
        exact ih _ (by first | with_reducible assumption | omega | decide) (by first | with_reducible assumption | omega | decide)
      ·
        rw [if_neg g2, if_neg g2]
        by_cases g5 : (lx44 lx62.toNatClampNeg : Int32) ≤ (t3_0 lx62.toNatClampNeg : Int32)
        ·
          rw [if_pos g5, if_pos g5]
          obtain ⟨a6, e7⟩ := q_nm (t0_8 + 1 : Int32)
          rw [e7]
          have a6i : a6.toInt = t0_8.toInt + 1 := by rw [← e7]; exact q_addI (x := t0_8.toInt) (y := 1) rfl (by decide) (by omega) (by omega)
          exact ih _ (by first | with_reducible assumption | omega | decide) (by first | with_reducible assumption | omega | decide)
        ·
          rw [if_neg g5, if_neg g5]
          refine ⟨trivial, ?_⟩
          (unfold Q_DR_takesRoot; dsimp only; exact ⟨gK.rfl', rfl, rfl, hl, fun h => absurd (q_leI2 (by have q1 := (g_at9 hl h0.1 (by omega)).1; have q2 := (hu lx62.toNatClampNeg (by omega)).2 h; omega)) g5, fun _ => rfl⟩)
theorem v_tr1 {x2 : Int32} {t0_0 : Int32} {t0_1 : Int32} {t0_2 : Int32} {t0_3 : Int64} {t0_4 : Int32} {t0_5 : Int32} {t0_6 : Int32} {t0_7 : Int32} {t0_8 : Int32} {t0_9 : Int32} {t0_10 : Int32} {t1_0 : (Nat → Int32)} {t2_0 : (Nat → Int32)} {t3_0 : (Nat → Int32)} {a38 : Int32} (h2 : 0 ≤ t0_2.toInt ∧ t0_2.toInt ≤ 1000) (h8 : 0 ≤ t0_8.toInt ∧ t0_8.toInt ≤ 2200) (hr : gO t1_0 t0_2.toNatClampNeg) (hl : gO t3_0 t0_8.toNatClampNeg) (hx : 0 ≤ x2.toInt ∧ x2.toInt ≤ 9)(h38 : (0 ≤ a38.toInt ∧ a38.toInt ≤ 162) ∧ (x2.toInt = 0 → a38.toInt = 0)) : ∀ (n : Nat) (lx42 : Int32) (lx43 : Int32) (lx44 : (Nat → Int32)), (0 ≤ lx42.toInt ∧ lx42.toInt ≤ t0_8.toInt) → (t0_8.toInt - lx42.toInt < (n : Int)) → ((0 ≤ lx43.toInt ∧ lx43.toInt ≤ 17) ∧ (x2.toInt = 0 → lx43.toInt = 0)) → (∀ i : Nat, t0_8.toInt - lx42.toInt ≤ (i : Int) → (i : Int) < t0_8.toInt → (0 ≤ (lx44 i).toInt ∧ (lx44 i).toInt ≤ 9) ∧ (x2.toInt = 0 → (lx44 i).toInt = 0)) → (S_DR_takesRoot_L34 x2 t0_0 t0_1 t0_2 t0_3 t0_4 t0_5 t0_6 t0_7 t0_8 t0_9 t0_10 t1_0 t2_0 t3_0 a38 n lx42 lx43 lx44) ∧ Q_DR_takesRoot x2 t0_0 t0_1 t0_2 t0_3 t0_4 t0_5 t0_6 t0_8 t0_9 t0_10 t3_0 (F_DR_takesRoot_L34 x2 t0_0 t0_1 t0_2 t0_3 t0_4 t0_5 t0_6 t0_7 t0_8 t0_9 t0_10 t1_0 t2_0 t3_0 a38 n lx42 lx43 lx44) := by
  intro n
  induction n with
  | zero => intro lx42 lx43 lx44 h0 hm hc ho; exact absurd (show False by omega) id
  | succ n ih =>
    intro lx42 lx43 lx44 h0 hm hc ho
    have e0 : (0 : Int32).toInt = 0 := rfl
    have eL0 : (0 : Int64).toInt = 0 := rfl
    have eL1 : (10000 : Int64).toInt = 10000 := rfl
    have eL2 : (-10000 : Int64).toInt = -10000 := rfl
    have eL3 : (1000 : Int64).toInt = 1000 := rfl
    have eL4 : (-1 : Int64).toInt = -1 := rfl
    have eI3 : (1000 : Int32).toInt = 1000 := rfl
    rw [S_DR_takesRoot_L34.eq_2, F_DR_takesRoot_L34.eq_2]
    by_cases g1 : t0_8 ≤ lx42
    ·
      rw [if_pos g1, if_pos g1]
      have g1i : t0_8.toInt ≤ lx42.toInt := q_leI g1
      by_cases g2 : lx43 ≤ (0 : Int32)
      ·
        rw [if_pos g2, if_pos g2]
        have g2i : lx43.toInt ≤ 0 := q_leI g2
        exact v_tr2 h2 h8 hr hl hx (fun i hi => ho i (by omega) hi) 1000000 0 ⟨by decide, by omega⟩ (by omega)
      ·
        rw [if_neg g2, if_neg g2]
        have g2i : 0 < lx43.toInt := q_nleI g2
        refine ⟨trivial, ?_⟩
        (unfold Q_DR_takesRoot; dsimp only; exact ⟨gK.rfl', rfl, rfl, hl, fun h => by have := hc.2 h; omega, fun _ => rfl⟩)
    ·
      rw [if_neg g1, if_neg g1]
      have g1i : lx42.toInt < t0_8.toInt := q_nleI g1
      by_cases g3 : lx42 < (1 : Int32)
      ·
        rw [if_pos g3, if_pos g3]
        have g3i : lx42.toInt < 1 := q_ltI g3
        obtain ⟨a155, e4⟩ := q_nm (((t0_8 - 1 : Int32) - lx42 : Int32) : Int32)
        rw [e4]
        have a155i : a155.toInt = t0_8.toInt - 1 - lx42.toInt := by rw [← e4]; exact q_subI (q_subI (y := 1) rfl (by decide) (by omega) (by omega)) rfl (by omega) (by omega)
        unfold S_DR_takesRoot_J86 F_DR_takesRoot_J86
        unfold S_DR_takesRoot_J87 F_DR_takesRoot_J87
        by_cases g5 : lx42 = (0 : Int32)
        ·
          rw [if_pos g5, if_pos g5]
          have g5i : lx42.toInt = 0 := q_eqI g5
          unfold S_DR_takesRoot_J104 F_DR_takesRoot_J104
          refine v_cons (by omega) ?_
          obtain ⟨a6, e7⟩ := q_nm (lx42 + 1 : Int32)
          rw [e7]
          have a6i : a6.toInt = lx42.toInt + 1 := by rw [← e7]; exact q_addI (x := lx42.toInt) (y := 1) rfl (by decide) (by omega) (by omega)
          obtain ⟨a8, e9⟩ := q_nm (a38 + lx43 : Int32)
          rw [e9]
          have a8i : a8.toInt = a38.toInt + lx43.toInt := by rw [← e9]; exact q_addI (x := a38.toInt) (y := lx43.toInt) rfl rfl (by omega) (by omega)
          exact ih _ _ _ ⟨by omega, by omega⟩ (by omega) ⟨g_c17 ⟨by omega, by omega⟩, fun h => g_c0 (by have z1 := hc.2 h; first | (have z2 := lx169b.2 h; omega) | (have z2 := h38.2 h; omega))⟩ (g_und (by omega) (by omega) (by omega) ho ⟨g_m10 (by omega), fun h => g_m0 (by have z1 := hc.2 h; first | (have z2 := lx169b.2 h; omega) | (have z2 := h38.2 h; omega))⟩)
        ·
          rw [if_neg g5, if_neg g5]
          have g5i : lx42.toInt ≠ 0 := q_neI g5
          obtain ⟨lx169, e10⟩ := q_nm (((2 * (0 : Int32) : Int32) * x2 : Int32) : Int32)
          rw [e10]
          have lx169b := g_dbl (b := (0 : Int32)) (c := x2) (by decide) hx
          rw [e10] at lx169b
          unfold S_DR_takesRoot_J104 F_DR_takesRoot_J104
          refine v_cons (by omega) ?_
          obtain ⟨a11, e12⟩ := q_nm (lx42 + 1 : Int32)
          rw [e12]
          have a11i : a11.toInt = lx42.toInt + 1 := by rw [← e12]; exact q_addI (x := lx42.toInt) (y := 1) rfl (by decide) (by omega) (by omega)
          obtain ⟨a13, e14⟩ := q_nm (lx169 + lx43 : Int32)
          rw [e14]
          have a13i : a13.toInt = lx169.toInt + lx43.toInt := by rw [← e14]; exact q_addI (x := lx169.toInt) (y := lx43.toInt) rfl rfl (by omega) (by omega)
          exact ih _ _ _ ⟨by omega, by omega⟩ (by omega) ⟨g_c17 ⟨by omega, by omega⟩, fun h => g_c0 (by have z1 := hc.2 h; first | (have z2 := lx169b.2 h; omega) | (have z2 := h38.2 h; omega))⟩ (g_und (by omega) (by omega) (by omega) ho ⟨g_m10 (by omega), fun h => g_m0 (by have z1 := hc.2 h; first | (have z2 := lx169b.2 h; omega) | (have z2 := h38.2 h; omega))⟩)
      ·
        rw [if_neg g3, if_neg g3]
        have g3i : 1 ≤ lx42.toInt := q_nltI g3
        obtain ⟨a15, e16⟩ := q_nm (lx42 - 1 : Int32)
        rw [e16]
        have a15i : a15.toInt = lx42.toInt - 1 := by rw [← e16]; exact q_subI (x := lx42.toInt) (y := 1) rfl (by decide) (by omega) (by omega)
        by_cases g17 : t0_2 ≤ a15
        ·
          rw [if_pos g17, if_pos g17]
          have g17i : t0_2.toInt ≤ a15.toInt := q_leI g17
          obtain ⟨a155, e18⟩ := q_nm (((t0_8 - 1 : Int32) - lx42 : Int32) : Int32)
          rw [e18]
          have a155i : a155.toInt = t0_8.toInt - 1 - lx42.toInt := by rw [← e18]; exact q_subI (q_subI (y := 1) rfl (by decide) (by omega) (by omega)) rfl (by omega) (by omega)
          unfold S_DR_takesRoot_J86 F_DR_takesRoot_J86
          unfold S_DR_takesRoot_J87 F_DR_takesRoot_J87
          by_cases g19 : lx42 = (0 : Int32)
          ·
            rw [if_pos g19, if_pos g19]
            have g19i : lx42.toInt = 0 := q_eqI g19
            unfold S_DR_takesRoot_J104 F_DR_takesRoot_J104
            refine v_cons (by omega) ?_
            obtain ⟨a20, e21⟩ := q_nm (lx42 + 1 : Int32)
            rw [e21]
            have a20i : a20.toInt = lx42.toInt + 1 := by rw [← e21]; exact q_addI (x := lx42.toInt) (y := 1) rfl (by decide) (by omega) (by omega)
            obtain ⟨a22, e23⟩ := q_nm (a38 + lx43 : Int32)
            rw [e23]
            have a22i : a22.toInt = a38.toInt + lx43.toInt := by rw [← e23]; exact q_addI (x := a38.toInt) (y := lx43.toInt) rfl rfl (by omega) (by omega)
            exact ih _ _ _ ⟨by omega, by omega⟩ (by omega) ⟨g_c17 ⟨by omega, by omega⟩, fun h => g_c0 (by have z1 := hc.2 h; first | (have z2 := lx169b.2 h; omega) | (have z2 := h38.2 h; omega))⟩ (g_und (by omega) (by omega) (by omega) ho ⟨g_m10 (by omega), fun h => g_m0 (by have z1 := hc.2 h; first | (have z2 := lx169b.2 h; omega) | (have z2 := h38.2 h; omega))⟩)
          ·
            rw [if_neg g19, if_neg g19]
            have g19i : lx42.toInt ≠ 0 := q_neI g19
            obtain ⟨lx169, e24⟩ := q_nm (((2 * (0 : Int32) : Int32) * x2 : Int32) : Int32)
            rw [e24]
            have lx169b := g_dbl (b := (0 : Int32)) (c := x2) (by decide) hx
            rw [e24] at lx169b
            unfold S_DR_takesRoot_J104 F_DR_takesRoot_J104
            refine v_cons (by omega) ?_
            obtain ⟨a25, e26⟩ := q_nm (lx42 + 1 : Int32)
            rw [e26]
            have a25i : a25.toInt = lx42.toInt + 1 := by rw [← e26]; exact q_addI (x := lx42.toInt) (y := 1) rfl (by decide) (by omega) (by omega)
            obtain ⟨a27, e28⟩ := q_nm (lx169 + lx43 : Int32)
            rw [e28]
            have a27i : a27.toInt = lx169.toInt + lx43.toInt := by rw [← e28]; exact q_addI (x := lx169.toInt) (y := lx43.toInt) rfl rfl (by omega) (by omega)
            exact ih _ _ _ ⟨by omega, by omega⟩ (by omega) ⟨g_c17 ⟨by omega, by omega⟩, fun h => g_c0 (by have z1 := hc.2 h; first | (have z2 := lx169b.2 h; omega) | (have z2 := h38.2 h; omega))⟩ (g_und (by omega) (by omega) (by omega) ho ⟨g_m10 (by omega), fun h => g_m0 (by have z1 := hc.2 h; first | (have z2 := lx169b.2 h; omega) | (have z2 := h38.2 h; omega))⟩)
        ·
          rw [if_neg g17, if_neg g17]
          have g17i : a15.toInt < t0_2.toInt := q_nleI g17
          obtain ⟨a29, e30⟩ := q_nm (t0_2 - lx42 : Int32)
          rw [e30]
          have a29i : a29.toInt = t0_2.toInt - lx42.toInt := by rw [← e30]; exact q_subI (x := t0_2.toInt) (y := lx42.toInt) rfl rfl (by omega) (by omega)
          refine v_cons (by omega) ?_
          obtain ⟨a155, e31⟩ := q_nm (((t0_8 - 1 : Int32) - lx42 : Int32) : Int32)
          rw [e31]
          have a155i : a155.toInt = t0_8.toInt - 1 - lx42.toInt := by rw [← e31]; exact q_subI (q_subI (y := 1) rfl (by decide) (by omega) (by omega)) rfl (by omega) (by omega)
          obtain ⟨lx158, e32⟩ := q_nm ((t1_0 a29.toNatClampNeg : Int32) : Int32)
          rw [e32]
          have lx158b : 0 ≤ lx158.toInt ∧ lx158.toInt ≤ 9 := by rw [← e32]; exact g_at9 hr (i := a29) (by omega) (by omega)
          unfold S_DR_takesRoot_J87 F_DR_takesRoot_J87
          by_cases g33 : lx42 = (0 : Int32)
          ·
            rw [if_pos g33, if_pos g33]
            have g33i : lx42.toInt = 0 := q_eqI g33
            unfold S_DR_takesRoot_J104 F_DR_takesRoot_J104
            refine v_cons (by omega) ?_
            obtain ⟨a34, e35⟩ := q_nm (lx42 + 1 : Int32)
            rw [e35]
            have a34i : a34.toInt = lx42.toInt + 1 := by rw [← e35]; exact q_addI (x := lx42.toInt) (y := 1) rfl (by decide) (by omega) (by omega)
            obtain ⟨a36, e37⟩ := q_nm (a38 + lx43 : Int32)
            rw [e37]
            have a36i : a36.toInt = a38.toInt + lx43.toInt := by rw [← e37]; exact q_addI (x := a38.toInt) (y := lx43.toInt) rfl rfl (by omega) (by omega)
            exact ih _ _ _ ⟨by omega, by omega⟩ (by omega) ⟨g_c17 ⟨by omega, by omega⟩, fun h => g_c0 (by have z1 := hc.2 h; first | (have z2 := lx169b.2 h; omega) | (have z2 := h38.2 h; omega))⟩ (g_und (by omega) (by omega) (by omega) ho ⟨g_m10 (by omega), fun h => g_m0 (by have z1 := hc.2 h; first | (have z2 := lx169b.2 h; omega) | (have z2 := h38.2 h; omega))⟩)
          ·
            rw [if_neg g33, if_neg g33]
            have g33i : lx42.toInt ≠ 0 := q_neI g33
            obtain ⟨lx169, e38⟩ := q_nm (((2 * lx158 : Int32) * x2 : Int32) : Int32)
            rw [e38]
            have lx169b := g_dbl (b := lx158) (c := x2) lx158b hx
            rw [e38] at lx169b
            unfold S_DR_takesRoot_J104 F_DR_takesRoot_J104
            refine v_cons (by omega) ?_
            obtain ⟨a39, e40⟩ := q_nm (lx42 + 1 : Int32)
            rw [e40]
            have a39i : a39.toInt = lx42.toInt + 1 := by rw [← e40]; exact q_addI (x := lx42.toInt) (y := 1) rfl (by decide) (by omega) (by omega)
            obtain ⟨a41, e42⟩ := q_nm (lx169 + lx43 : Int32)
            rw [e42]
            have a41i : a41.toInt = lx169.toInt + lx43.toInt := by rw [← e42]; exact q_addI (x := lx169.toInt) (y := lx43.toInt) rfl rfl (by omega) (by omega)
            exact ih _ _ _ ⟨by omega, by omega⟩ (by omega) ⟨g_c17 ⟨by omega, by omega⟩, fun h => g_c0 (by have z1 := hc.2 h; first | (have z2 := lx169b.2 h; omega) | (have z2 := h38.2 h; omega))⟩ (g_und (by omega) (by omega) (by omega) ho ⟨g_m10 (by omega), fun h => g_m0 (by have z1 := hc.2 h; first | (have z2 := lx169b.2 h; omega) | (have z2 := h38.2 h; omega))⟩)
theorem T_DR_takesRoot {x2 : Int32} {t0_0 : Int32} {t0_1 : Int32} {t0_2 : Int32} {t0_3 : Int64} {t0_4 : Int32} {t0_5 : Int32} {t0_6 : Int32} {t0_7 : Int32} {t0_8 : Int32} {t0_9 : Int32} {t0_10 : Int32} {t1_0 : (Nat → Int32)} {t2_0 : (Nat → Int32)} {t3_0 : (Nat → Int32)} (h2 : 0 ≤ t0_2.toInt ∧ t0_2.toInt ≤ 1000) (h8 : 0 ≤ t0_8.toInt ∧ t0_8.toInt ≤ 2200) (hr : gO t1_0 t0_2.toNatClampNeg) (hl : gO t3_0 t0_8.toNatClampNeg) (hx : 0 ≤ x2.toInt ∧ x2.toInt ≤ 9) : (S_DR_takesRoot x2 t0_0 t0_1 t0_2 t0_3 t0_4 t0_5 t0_6 t0_7 t0_8 t0_9 t0_10 t1_0 t2_0 t3_0) ∧ Q_DR_takesRoot x2 t0_0 t0_1 t0_2 t0_3 t0_4 t0_5 t0_6 t0_8 t0_9 t0_10 t3_0 (F_DR_takesRoot x2 t0_0 t0_1 t0_2 t0_3 t0_4 t0_5 t0_6 t0_7 t0_8 t0_9 t0_10 t1_0 t2_0 t3_0) := by
  have e0 : (0 : Int32).toInt = 0 := rfl
  have eL0 : (0 : Int64).toInt = 0 := rfl
  have eL1 : (10000 : Int64).toInt = 10000 := rfl
  have eL2 : (-10000 : Int64).toInt = -10000 := rfl
  have eL3 : (1000 : Int64).toInt = 1000 := rfl
  have eL4 : (-1 : Int64).toInt = -1 := rfl
  have eI3 : (1000 : Int32).toInt = 1000 := rfl
  have eq := g_mul9 hx hx
  have eq0 : x2.toInt = 0 → (x2 * x2 : Int32).toInt = 0 := fun h => by rw [Int32.toInt_inj.mp (show x2.toInt = (0 : Int32).toInt by rw [h]; rfl)]; decide
  unfold S_DR_takesRoot F_DR_takesRoot
  by_cases g1 : x2 ≤ (0 : Int32)
  ·
    rw [if_pos g1, if_pos g1]
    have g1i : x2.toInt ≤ 0 := q_leI g1
    unfold S_DR_takesRoot_J17 F_DR_takesRoot_J17
    exact v_tr1 h2 h8 hr hl hx ⟨⟨by omega, by omega⟩, eq0⟩ _ _ _ _ ⟨by decide, by omega⟩ (by omega) ⟨by decide, fun _ => rfl⟩ (fun i h1 h3 => by omega)
  ·
    rw [if_neg g1, if_neg g1]
    have g1i : 0 < x2.toInt := q_nleI g1
    by_cases g2 : t0_2 < t0_8
    ·
      rw [if_pos g2, if_pos g2]
      have g2i : t0_2.toInt < t0_8.toInt := q_ltI g2
      unfold S_DR_takesRoot_J17 F_DR_takesRoot_J17
      exact v_tr1 h2 h8 hr hl hx ⟨⟨by omega, by omega⟩, eq0⟩ _ _ _ _ ⟨by decide, by omega⟩ (by omega) ⟨by decide, fun _ => rfl⟩ (fun i h1 h3 => by omega)
    ·
      rw [if_neg g2, if_neg g2]
      have g2i : t0_8.toInt ≤ t0_2.toInt := q_nltI g2
      refine ⟨trivial, ?_⟩
      (unfold Q_DR_takesRoot; dsimp only; exact ⟨gK.rfl', rfl, rfl, hl, fun h => by omega, fun _ => rfl⟩)
theorem R_tr1 {t0_0 : Int32} {t0_1 : Int32} {t0_3 : Int64} {t0_4 : Int32} {t0_5 : Int32} {t0_6 : Int32} {t0_7 : Int32} {t0_9 : Int32} {t0_10 : Int32} {t1_0 : (Nat → Int32)} {t2_0 : (Nat → Int32)} {t3_0 : (Nat → Int32)} (hr : gO t1_0 (0 : Int32).toNatClampNeg) (hl : gO t3_0 (2 : Int32).toNatClampNeg) (hz : t3_0 0 ≠ 0 ∨ t3_0 1 ≠ 0) : ¬ (F_DR_takesRoot 1 t0_0 t0_1 0 t0_3 t0_4 t0_5 t0_6 t0_7 2 t0_9 t0_10 t1_0 t2_0 t3_0).1 = 0 := by
  have eF : ((2 : Int32).toInt - (0 : Int32).toInt).toNat + 1 = 2 + 1 := by decide
  unfold F_DR_takesRoot
  rw [if_neg (by decide : ¬ (1 : Int32) ≤ 0), if_pos (by decide : (0 : Int32) < 2)]
  unfold F_DR_takesRoot_J17
  rw [eF, F_DR_takesRoot_L34.eq_2, if_neg (by decide : ¬ (2 : Int32) ≤ 0), if_pos (by decide : (0 : Int32) < 1)]
  unfold F_DR_takesRoot_J86 F_DR_takesRoot_J87
  rw [if_pos rfl]
  unfold F_DR_takesRoot_J104
  rw [show (0 + 1 : Int32) = 1 from rfl, F_DR_takesRoot_L34.eq_2, if_neg (by decide : ¬ (2 : Int32) ≤ 1), if_neg (by decide : ¬ (1 : Int32) < 1), if_pos (by decide : (0 : Int32) ≤ 1 - 1)]
  unfold F_DR_takesRoot_J86 F_DR_takesRoot_J87
  rw [if_neg (by decide : ¬ (1 : Int32) = 0)]
  unfold F_DR_takesRoot_J104
  rw [show (1 + 1 : Int32) = 2 from rfl, F_DR_takesRoot_L34.eq_2, if_pos (by decide : (2 : Int32) ≤ 2), if_pos (by decide)]
  generalize ef : (upd (upd t2_0 (2 - 1 - 0 : Int32).toNatClampNeg _) (2 - 1 - 1 : Int32).toNatClampNeg _) = f
  have f0 : f (0 : Int32).toNatClampNeg = 0 := by rw [← ef]; exact v_eq
  have f1 : f (1 : Int32).toNatClampNeg = 1 := by rw [← ef, v_ne (by decide)]; exact v_eq
  have hu : ∀ i : Nat, (i : Int) < (2 : Int32).toInt → (0 ≤ (f i).toInt ∧ (f i).toInt ≤ 9) ∧ ((1 : Int32).toInt = 0 → (f i).toInt = 0) := fun i hi => by
    have e2 : (2 : Int32).toInt = 2 := rfl
    refine ⟨?_, fun h => absurd h (by decide)⟩
    by_cases c : i = 0
    · subst c; rw [show f 0 = 0 from f0]; decide
    · have c2 : i = 1 := by omega
      subst c2; rw [show f 1 = 1 from f1]; decide
  have fin : ∀ (m : Nat) (k : Int32) (K : Int32 → Int32 → (Nat → Int32) → _) (v w : Int32), (2 : Int32) ≤ k → ¬ (F_DR_takesRoot_L141 K 1 t0_0 t0_1 0 t0_3 t0_4 t0_5 t0_6 t0_7 2 t0_9 t0_10 t1_0 t2_0 t3_0 (1 * 1) v w f (m + 1) k).1 = 0 := by
    intro m k K v w hk
    rw [F_DR_takesRoot_L141.eq_2, if_pos hk]
    have h3 := v_tr3 (K_F_DR_takesRoot_L34 := K) (K_F_DR_takesRoot_L141 := F_DR_takesRoot_L141 K 1 t0_0 t0_1 0 t0_3 t0_4 t0_5 t0_6 t0_7 2 t0_9 t0_10 t1_0 t2_0 t3_0 (1 * 1) v w f m) (K_S_DR_takesRoot_L34 := fun _ _ _ => True) (K_S_DR_takesRoot_L141 := fun _ => True) (a38 := 1 * 1) (lx42 := v) (lx43 := w) (lx62 := k) (t0_0 := t0_0) (t0_1 := t0_1) (t0_3 := t0_3) (t0_4 := t0_4) (t0_5 := t0_5) (t0_6 := t0_6) (t0_7 := t0_7) (t0_9 := t0_9) (t0_10 := t0_10) (t2_0 := t2_0) (t1_0 := t1_0) (x2 := 1) (t0_2 := 0) (t0_8 := 2) (by decide) (by decide) hr hl (by decide) hu (((2 - 1 : Int32).toInt - (-1)).toNat + 1) (2 - 1) 0 t3_0 (by decide) (by decide) (by decide) hl
    rw [h3.2.2]; decide
  have h0 := (hl 0 (by decide)).1
  have h1 := (hl 1 (by decide)).1
  show ¬ (F_DR_takesRoot_L141 _ 1 t0_0 t0_1 0 t0_3 t0_4 t0_5 t0_6 t0_7 2 t0_9 t0_10 t1_0 t2_0 t3_0 (1 * 1) _ _ f (999997 + 1 + 1 + 1) 0).1 = 0
  rw [F_DR_takesRoot_L141.eq_2, if_neg (by decide : ¬ (2 : Int32) ≤ 0)]
  by_cases c : t3_0 (0 : Int32).toNatClampNeg = f (0 : Int32).toNatClampNeg
  · rw [if_pos c, show (0 + 1 : Int32) = 1 from rfl, F_DR_takesRoot_L141.eq_2, if_neg (by decide : ¬ (2 : Int32) ≤ 1)]
    by_cases d : t3_0 (1 : Int32).toNatClampNeg = f (1 : Int32).toNatClampNeg
    · rw [if_pos d]
      exact fin _ _ _ _ _ (by decide)
    · rw [if_neg d, if_pos]
      · exact fin _ _ _ _ _ (by decide)
      · rw [f1]
        rw [f0] at c
        have z : t3_0 1 ≠ 0 := by
          rcases hz with h | h
          · exact absurd c h
          · exact h
        refine q_leI2 ?_
        have z2 := q_neI z
        have e0 : (0 : Int32).toInt = 0 := rfl
        have e1 : (1 : Int32).toInt = 1 := rfl
        show (1 : Int32).toInt ≤ (t3_0 1).toInt
        omega
  · rw [if_neg c, if_pos]
    · exact fin _ _ _ _ _ (by decide)
    · rw [f0]; exact q_leI2 h0
theorem R_tkr {x2 : Int32} {t0_0 : Int32} {t0_1 : Int32} {t0_2 : Int32} {t0_3 : Int64} {t0_4 : Int32} {t0_5 : Int32} {t0_6 : Int32} {t0_7 : Int32} {t0_8 : Int32} {t0_9 : Int32} {t0_10 : Int32} {t1_0 : (Nat → Int32)} {t2_0 : (Nat → Int32)} {t3_0 : (Nat → Int32)} (h2 : 0 ≤ t0_2.toInt ∧ t0_2.toInt ≤ 1000) (h8 : 0 ≤ t0_8.toInt ∧ t0_8.toInt ≤ 2200) (hr : gO t1_0 t0_2.toNatClampNeg) (hl : gO t3_0 t0_8.toNatClampNeg) (hx : 0 ≤ x2.toInt ∧ x2.toInt ≤ 9) : S_DR_takesRoot x2 t0_0 t0_1 t0_2 t0_3 t0_4 t0_5 t0_6 t0_7 t0_8 t0_9 t0_10 t1_0 t2_0 t3_0 ∧ (Q_DR_takesRoot x2 t0_0 t0_1 t0_2 t0_3 t0_4 t0_5 t0_6 t0_8 t0_9 t0_10 t3_0 (F_DR_takesRoot x2 t0_0 t0_1 t0_2 t0_3 t0_4 t0_5 t0_6 t0_7 t0_8 t0_9 t0_10 t1_0 t2_0 t3_0) ∧ (x2.toInt = 1 → t0_2.toInt = 0 → t0_8.toInt = 2 → (t3_0 0 ≠ 0 ∨ t3_0 1 ≠ 0) → ¬ (F_DR_takesRoot x2 t0_0 t0_1 t0_2 t0_3 t0_4 t0_5 t0_6 t0_7 t0_8 t0_9 t0_10 t1_0 t2_0 t3_0).1 = 0)) := by
  have h := T_DR_takesRoot (t0_0 := t0_0) (t0_1 := t0_1) (t0_3 := t0_3) (t0_4 := t0_4) (t0_5 := t0_5) (t0_6 := t0_6) (t0_7 := t0_7) (t0_9 := t0_9) (t0_10 := t0_10) (t2_0 := t2_0) h2 h8 hr hl hx
  refine ⟨h.1, h.2, fun a b c d => ?_⟩
  clear h
  have a1 : x2 = 1 := Int32.toInt_inj.mp (by rw [a]; rfl)
  have b1 : t0_2 = 0 := Int32.toInt_inj.mp (by rw [b]; rfl)
  have c1 : t0_8 = 2 := Int32.toInt_inj.mp (by rw [c]; rfl)
  subst a1 b1 c1
  exact R_tr1 hr hl d
theorem g_apd {f : Nat → Int32} {s s1 d : Int32} (h : gO f s.toNatClampNeg) (h0 : 0 ≤ s.toInt) (e : s1.toInt = s.toInt + 1) (hd : 0 ≤ d.toInt ∧ d.toInt ≤ 9) : gO (upd f s.toNatClampNeg d) s1.toNatClampNeg := fun i hi => by
  have a := q_clI (i := s) rfl h0
  have b := q_clI (i := s1) rfl (by omega)
  by_cases c : i = s.toNatClampNeg
  · rw [c, v_eq]; exact hd
  · rw [v_ne c]; exact h i (by omega)
theorem g_two {f : Nat → Int32} {t A B C x y : Int32} (h : gO f t.toNatClampNeg) (h0 : 0 ≤ A.toInt) (ht : A.toInt ≤ t.toInt) (eB : B.toInt = A.toInt + 1) (eC : C.toInt = A.toInt + 2) (hx : 0 ≤ x.toInt ∧ x.toInt ≤ 9) (hy : 0 ≤ y.toInt ∧ y.toInt ≤ 9) : gO (upd (upd f A.toNatClampNeg x) B.toNatClampNeg y) C.toNatClampNeg := by
  have h1 : gO f A.toNatClampNeg := g_cl h h0 ht
  exact g_apd (g_apd h1 h0 eB hx) (by omega) (by omega) hy
theorem g_two1 {f : Nat → Int32} {A B x y : Int32} (h0 : A.toInt = 0) (eB : B.toInt = A.toInt + 1) (h : x ≠ 0 ∨ y ≠ 0) : upd (upd f A.toNatClampNeg x) B.toNatClampNeg y 0 ≠ 0 ∨ upd (upd f A.toNatClampNeg x) B.toNatClampNeg y 1 ≠ 0 := by
  have a := q_clI (i := A) rfl (by omega)
  have b := q_clI (i := B) rfl (by omega)
  have a0 : A.toNatClampNeg = 0 := by omega
  have b0 : B.toNatClampNeg = 1 := by omega
  rw [a0, b0]
  rcases h with h | h
  · exact Or.inl (by rw [v_ne (by decide), v_eq]; exact h)
  · exact Or.inr (by rw [v_eq]; exact h)
def Q_DR_nextRoot (x2 x3 t0_0 t0_1 t0_2 : Int32) (t0_3 : Int64) (t0_4 t0_5 t0_6 t0_8 t0_9 t0_10 : Int32) (t1_0 : Nat → Int32) (p : Int32 × Int32 × Int32 × Int64 × Int32 × Int32 × Int32 × Int32 × Int32 × Int32 × Int32 × (Nat → Int32) × (Nat → Int32) × (Nat → Int32)) : Prop := gK p.1 p.2.1 p.2.2.2.1 p.2.2.2.2.1 p.2.2.2.2.2.1 p.2.2.2.2.2.2.1 p.2.2.2.2.2.2.2.2.2.1 p.2.2.2.2.2.2.2.2.2.2.1 t0_0 t0_1 t0_3 t0_4 t0_5 t0_6 t0_9 t0_10 ∧ p.2.2.1.toInt = t0_2.toInt + 1 ∧ (0 ≤ p.2.2.2.2.2.2.2.2.1.toInt ∧ p.2.2.2.2.2.2.2.2.1.toInt ≤ t0_8.toInt + 2) ∧ gO p.2.2.2.2.2.2.2.2.2.2.2.1 p.2.2.1.toNatClampNeg ∧ gO p.2.2.2.2.2.2.2.2.2.2.2.2.2 p.2.2.2.2.2.2.2.2.1.toNatClampNeg ∧ (0 < t0_2.toInt → p.2.2.2.2.2.2.2.2.2.2.2.1 0 = t1_0 0) ∧ (t0_2.toInt = 0 → t0_8.toInt = 0 → (x2 ≠ 0 ∨ x3 ≠ 0) → p.2.2.2.2.2.2.2.2.2.2.2.1 0 ≠ 0)
theorem v_nr3 {K_F_DR_nextRoot_L2 : Int32 → (Int32 × Int32 × Int32 × Int64 × Int32 × Int32 × Int32 × Int32 × Int32 × Int32 × Int32 × (Nat → Int32) × (Nat → Int32) × (Nat → Int32))} {K_F_DR_nextRoot_L28 : Int32 → (Nat → Int32) → (Int32 × Int32 × Int32 × Int64 × Int32 × Int32 × Int32 × Int32 × Int32 × Int32 × Int32 × (Nat → Int32) × (Nat → Int32) × (Nat → Int32))} {x2 : Int32} {x3 : Int32} {t0_0 : Int32} {t0_1 : Int32} {t0_2 : Int32} {t0_3 : Int64} {t0_4 : Int32} {t0_5 : Int32} {t0_6 : Int32} {t0_7 : Int32} {t0_8 : Int32} {t0_9 : Int32} {t0_10 : Int32} {t1_0 : (Nat → Int32)} {t2_0 : (Nat → Int32)} {t3_0 : (Nat → Int32)} {lx27 : Int32} {lx47 : Int32} {lx48 : (Nat → Int32)} {K_S_DR_nextRoot_L2 : Int32 → Prop} {K_S_DR_nextRoot_L28 : Int32 → (Nat → Int32) → Prop} (h2 : 0 ≤ t0_2.toInt ∧ t0_2.toInt ≤ 1000) (h8 : 0 ≤ t0_8.toInt ∧ t0_8.toInt ≤ 2198) (hr : gO t1_0 t0_2.toNatClampNeg) (hl : gO t3_0 t0_8.toNatClampNeg) (hx : 0 ≤ x2.toInt ∧ x2.toInt ≤ 9) (hy : 0 ≤ x3.toInt ∧ x3.toInt ≤ 9)(h27 : 0 ≤ lx27.toInt ∧ lx27.toInt ≤ t0_8.toInt) : ∀ (n : Nat) (lx91 : Int32) (lx92 : Int32) (lx93 : Int32) (lx94 : Int32) (lx95 : Int64) (lx96 : Int32) (lx97 : Int32) (lx98 : Int32) (lx99 : Int32) (lx100 : Int32) (lx101 : Int32) (lx102 : Int32) (lx103 : (Nat → Int32)) (lx104 : (Nat → Int32)), (0 ≤ lx91.toInt ∧ lx91.toInt ≤ 9) → (lx91.toInt < (n : Int)) → (gK lx92 lx93 lx95 lx96 lx97 lx98 lx101 lx102 t0_0 t0_1 t0_3 t0_4 t0_5 t0_6 t0_9 t0_10) → (lx94 = t0_2) → (lx100.toInt = t0_8.toInt - lx27.toInt + 2) → (gO lx104 lx100.toNatClampNeg) → (t0_2.toInt = 0 → t0_8.toInt = 0 → (x2 ≠ 0 ∨ x3 ≠ 0) → 1 ≤ lx91.toInt ∧ (lx104 0 ≠ 0 ∨ lx104 1 ≠ 0)) → (S_DR_nextRoot_L107 K_S_DR_nextRoot_L2 K_S_DR_nextRoot_L28 x2 x3 t0_0 t0_1 t0_2 t0_3 t0_4 t0_5 t0_6 t0_7 t0_8 t0_9 t0_10 t1_0 t2_0 t3_0 lx27 lx47 lx48 n lx91 lx92 lx93 lx94 lx95 lx96 lx97 lx98 lx99 lx100 lx101 lx102 lx103 lx104) ∧ Q_DR_nextRoot x2 x3 t0_0 t0_1 t0_2 t0_3 t0_4 t0_5 t0_6 t0_8 t0_9 t0_10 t1_0 (F_DR_nextRoot_L107 K_F_DR_nextRoot_L2 K_F_DR_nextRoot_L28 x2 x3 t0_0 t0_1 t0_2 t0_3 t0_4 t0_5 t0_6 t0_7 t0_8 t0_9 t0_10 t1_0 t2_0 t3_0 lx27 lx47 lx48 n lx91 lx92 lx93 lx94 lx95 lx96 lx97 lx98 lx99 lx100 lx101 lx102 lx103 lx104) := by
  intro n
  induction n with
  | zero => intro lx91 lx92 lx93 lx94 lx95 lx96 lx97 lx98 lx99 lx100 lx101 lx102 lx103 lx104 hd hm hk h3e h9e hll hq; exact absurd (show False by omega) id
  | succ n ih =>
    intro lx91 lx92 lx93 lx94 lx95 lx96 lx97 lx98 lx99 lx100 lx101 lx102 lx103 lx104 hd hm hk h3e h9e hll hq
    have e0 : (0 : Int32).toInt = 0 := rfl
    have eL0 : (0 : Int64).toInt = 0 := rfl
    have eL1 : (10000 : Int64).toInt = 10000 := rfl
    have eL2 : (-10000 : Int64).toInt = -10000 := rfl
    have eL3 : (1000 : Int64).toInt = 1000 := rfl
    have eL4 : (-1 : Int64).toInt = -1 := rfl
    have eI3 : (1000 : Int32).toInt = 1000 := rfl
    rw [S_DR_nextRoot_L107.eq_2, F_DR_nextRoot_L107.eq_2]
    have h1 := R_tkr (x2 := lx91) (t0_0 := lx92) (t0_1 := lx93) (t0_2 := lx94) (t0_3 := lx95) (t0_4 := lx96) (t0_5 := lx97) (t0_6 := lx98) (t0_7 := lx99) (t0_8 := lx100) (t0_9 := lx101) (t0_10 := lx102) (t1_0 := t1_0) (t2_0 := lx103) (t3_0 := lx104) (by rw [h3e]; exact h2) ⟨by omega, by omega⟩ (by rw [h3e]; exact hr) hll hd
    with_reducible refine v_owe h1.1 ?_
    replace h1 := h1.2
    generalize F_DR_takesRoot lx91 lx92 lx93 lx94 lx95 lx96 lx97 lx98 lx99 lx100 lx101 lx102 t1_0 lx103 lx104 = p181 at *
    obtain ⟨h1q, tk1⟩ := h1
    unfold Q_DR_takesRoot at h1q
    obtain ⟨tkK, tk3, tk9, tkg, tkz, tku⟩ := h1q
    unfold S_DR_nextRoot_c110 F_DR_nextRoot_c110
    by_cases g2 : (p181.1 : Int32) = (0 : Int32)
    ·
      rw [if_pos g2, if_pos g2]
      obtain ⟨a3, e4⟩ := q_nm (lx91 + (-1) : Int32)
      rw [e4]
      have a3i : a3.toInt = lx91.toInt + (-1) := by rw [← e4]; exact q_addI (x := lx91.toInt) (y := (-1)) rfl (by decide) (by omega) (by omega)
      have hd0 : lx91.toInt ≠ 0 := fun h => tkz h g2; exact ih _ _ _ _ _ _ _ _ _ _ _ _ _ _ ⟨by omega, by omega⟩ (by omega) (tkK.trans hk) (tk3.trans h3e) (by rw [tk9]; exact h9e) (by rw [tk9]; exact tkg) (fun a b c => ⟨by have u1 := hq a b c; have u2 : lx91.toInt ≠ 1 := fun h => tk1 h (by rw [h3e]; exact a) (by omega) u1.2 g2; omega, by rw [tku g2]; exact (hq a b c).2⟩)
    ·
      rw [if_neg g2, if_neg g2]
      refine v_cons (by rw [tk3, h3e]; omega) ?_
      refine v_cons (by rw [tk3, h3e]; omega) ?_
      refine ⟨trivial, ?_⟩
      (unfold Q_DR_nextRoot; dsimp only; rw [tk3, h3e]; have e1 : (t0_2 + 1 : Int32).toInt = t0_2.toInt + 1 := q_addI (y := 1) rfl (by decide) (by omega) (by omega); have e2 := q_clI (i := t0_2) rfl h2.1; refine ⟨tkK.trans hk, e1, ⟨by rw [tk9]; omega, by rw [tk9]; omega⟩, g_apd hr h2.1 e1 hd, by rw [tk9]; exact tkg, fun h => v_ne (by omega), fun a b c => ?_⟩; rw [show t0_2.toNatClampNeg = 0 by omega, v_eq]; exact fun e => by have e5 := q_eqI e; have := (hq a b c).1; omega)
theorem v_nr2 {K_F_DR_nextRoot_L2 : Int32 → (Int32 × Int32 × Int32 × Int64 × Int32 × Int32 × Int32 × Int32 × Int32 × Int32 × Int32 × (Nat → Int32) × (Nat → Int32) × (Nat → Int32))} {x2 : Int32} {x3 : Int32} {t0_0 : Int32} {t0_1 : Int32} {t0_2 : Int32} {t0_3 : Int64} {t0_4 : Int32} {t0_5 : Int32} {t0_6 : Int32} {t0_7 : Int32} {t0_8 : Int32} {t0_9 : Int32} {t0_10 : Int32} {t1_0 : (Nat → Int32)} {t2_0 : (Nat → Int32)} {t3_0 : (Nat → Int32)} {lx27 : Int32} {K_S_DR_nextRoot_L2 : Int32 → Prop} (h2 : 0 ≤ t0_2.toInt ∧ t0_2.toInt ≤ 1000) (h8 : 0 ≤ t0_8.toInt ∧ t0_8.toInt ≤ 2198) (hr : gO t1_0 t0_2.toNatClampNeg) (hl : gO t3_0 t0_8.toNatClampNeg) (hx : 0 ≤ x2.toInt ∧ x2.toInt ≤ 9) (hy : 0 ≤ x3.toInt ∧ x3.toInt ≤ 9)(h27 : 0 ≤ lx27.toInt ∧ lx27.toInt ≤ t0_8.toInt) : ∀ (n : Nat) (lx47 : Int32) (lx48 : (Nat → Int32)), (0 ≤ lx47.toInt ∧ lx47.toInt + lx27.toInt ≤ t0_8.toInt) → (4100 - lx47.toInt < (n : Int)) → (gO lx48 t0_8.toNatClampNeg) → (S_DR_nextRoot_L28 K_S_DR_nextRoot_L2 x2 x3 t0_0 t0_1 t0_2 t0_3 t0_4 t0_5 t0_6 t0_7 t0_8 t0_9 t0_10 t1_0 t2_0 t3_0 lx27 n lx47 lx48) ∧ Q_DR_nextRoot x2 x3 t0_0 t0_1 t0_2 t0_3 t0_4 t0_5 t0_6 t0_8 t0_9 t0_10 t1_0 (F_DR_nextRoot_L28 K_F_DR_nextRoot_L2 x2 x3 t0_0 t0_1 t0_2 t0_3 t0_4 t0_5 t0_6 t0_7 t0_8 t0_9 t0_10 t1_0 t2_0 t3_0 lx27 n lx47 lx48) := by
  intro n
  induction n with
  | zero => intro lx47 lx48 h0 hm ho; exact absurd (show False by omega) id
  | succ n ih =>
    intro lx47 lx48 h0 hm ho
    have e0 : (0 : Int32).toInt = 0 := rfl
    have eL0 : (0 : Int64).toInt = 0 := rfl
    have eL1 : (10000 : Int64).toInt = 10000 := rfl
    have eL2 : (-10000 : Int64).toInt = -10000 := rfl
    have eL3 : (1000 : Int64).toInt = 1000 := rfl
    have eL4 : (-1 : Int64).toInt = -1 := rfl
    have eI3 : (1000 : Int32).toInt = 1000 := rfl
    rw [S_DR_nextRoot_L28.eq_2, F_DR_nextRoot_L28.eq_2]
    obtain ⟨a1, e2⟩ := q_nm (lx47 + lx27 : Int32)
    rw [e2]
    have a1i : a1.toInt = lx47.toInt + lx27.toInt := by rw [← e2]; exact q_addI (x := lx47.toInt) (y := lx27.toInt) rfl rfl (by omega) (by omega)
    by_cases g3 : t0_8 ≤ a1
    ·
      rw [if_pos g3, if_pos g3]
      have g3i : t0_8.toInt ≤ a1.toInt := q_leI g3
      obtain ⟨a4, e5⟩ := q_nm (t0_8 - lx27 : Int32)
      rw [e5]
      have a4i : a4.toInt = t0_8.toInt - lx27.toInt := by rw [← e5]; exact q_subI (x := t0_8.toInt) (y := lx27.toInt) rfl rfl (by omega) (by omega)
      refine v_cons (by omega) ?_
      refine v_cons (by omega) ?_
      obtain ⟨a6, e7⟩ := q_nm (a4 + 1 : Int32)
      rw [e7]
      have a6i : a6.toInt = a4.toInt + 1 := by rw [← e7]; exact q_addI (x := a4.toInt) (y := 1) rfl (by decide) (by omega) (by omega)
      refine v_cons (by omega) ?_
      obtain ⟨a8, e9⟩ := q_nm (a4 + 2 : Int32)
      rw [e9]
      have a8i : a8.toInt = a4.toInt + 2 := by rw [← e9]; exact q_addI (x := a4.toInt) (y := 2) rfl (by decide) (by omega) (by omega)
      exact v_nr3 h2 h8 hr hl hx hy h27 1000000 9 _ _ _ _ _ _ _ _ _ _ _ _ _ (by decide) (by decide) gK.rfl' rfl (by omega) (g_two ho (by omega) (by omega) (by omega) (by omega) hx hy) (fun a b c => ⟨by decide, g_two1 (by omega) (by omega) c⟩)
    ·
      rw [if_neg g3, if_neg g3]
      have g3i : a1.toInt < t0_8.toInt := q_nleI g3
      refine v_cons (by omega) ?_
      obtain ⟨a10, e11⟩ := q_nm (lx47 + 1 : Int32)
      rw [e11]
      have a10i : a10.toInt = lx47.toInt + 1 := by rw [← e11]; exact q_addI (x := lx47.toInt) (y := 1) rfl (by decide) (by omega) (by omega)
      exact ih _ _ ⟨by omega, by omega⟩ (by omega) (gO_upd ho (g_at9 ho (by omega) (by omega)))
theorem v_nr1 {x2 : Int32} {x3 : Int32} {t0_0 : Int32} {t0_1 : Int32} {t0_2 : Int32} {t0_3 : Int64} {t0_4 : Int32} {t0_5 : Int32} {t0_6 : Int32} {t0_7 : Int32} {t0_8 : Int32} {t0_9 : Int32} {t0_10 : Int32} {t1_0 : (Nat → Int32)} {t2_0 : (Nat → Int32)} {t3_0 : (Nat → Int32)} (h2 : 0 ≤ t0_2.toInt ∧ t0_2.toInt ≤ 1000) (h8 : 0 ≤ t0_8.toInt ∧ t0_8.toInt ≤ 2198) (hr : gO t1_0 t0_2.toNatClampNeg) (hl : gO t3_0 t0_8.toNatClampNeg) (hx : 0 ≤ x2.toInt ∧ x2.toInt ≤ 9) (hy : 0 ≤ x3.toInt ∧ x3.toInt ≤ 9) : ∀ (n : Nat) (lx27 : Int32), (0 ≤ lx27.toInt ∧ lx27.toInt ≤ t0_8.toInt) → (4100 - lx27.toInt < (n : Int)) → (S_DR_nextRoot_L2 x2 x3 t0_0 t0_1 t0_2 t0_3 t0_4 t0_5 t0_6 t0_7 t0_8 t0_9 t0_10 t1_0 t2_0 t3_0 n lx27) ∧ Q_DR_nextRoot x2 x3 t0_0 t0_1 t0_2 t0_3 t0_4 t0_5 t0_6 t0_8 t0_9 t0_10 t1_0 (F_DR_nextRoot_L2 x2 x3 t0_0 t0_1 t0_2 t0_3 t0_4 t0_5 t0_6 t0_7 t0_8 t0_9 t0_10 t1_0 t2_0 t3_0 n lx27) := by
  intro n
  induction n with
  | zero => intro lx27 h0 hm; exact absurd (show False by omega) id
  | succ n ih =>
    intro lx27 h0 hm
    have e0 : (0 : Int32).toInt = 0 := rfl
    have eL0 : (0 : Int64).toInt = 0 := rfl
    have eL1 : (10000 : Int64).toInt = 10000 := rfl
    have eL2 : (-10000 : Int64).toInt = -10000 := rfl
    have eL3 : (1000 : Int64).toInt = 1000 := rfl
    have eL4 : (-1 : Int64).toInt = -1 := rfl
    have eI3 : (1000 : Int32).toInt = 1000 := rfl
    rw [S_DR_nextRoot_L2.eq_2, F_DR_nextRoot_L2.eq_2]
    by_cases g1 : t0_8 ≤ lx27
    ·
      rw [if_pos g1, if_pos g1]
      have g1i : t0_8.toInt ≤ lx27.toInt := q_leI g1
      unfold S_DR_nextRoot_J25 F_DR_nextRoot_J25
      exact v_nr2 h2 h8 hr hl hx hy ⟨by omega, by omega⟩ _ _ _ ⟨by decide, by omega⟩ (by decide) hl
    ·
      rw [if_neg g1, if_neg g1]
      have g1i : lx27.toInt < t0_8.toInt := q_nleI g1
      refine v_cons (by omega) ?_
      by_cases g2 : (t3_0 lx27.toNatClampNeg : Int32) = (0 : Int32)
      ·
        rw [if_pos g2, if_pos g2]
        obtain ⟨a3, e4⟩ := q_nm (lx27 + 1 : Int32)
        rw [e4]
        have a3i : a3.toInt = lx27.toInt + 1 := by rw [← e4]; exact q_addI (x := lx27.toInt) (y := 1) rfl (by decide) (by omega) (by omega)
        exact ih _ (by first | with_reducible assumption | omega | decide) (by first | with_reducible assumption | omega | decide)
      ·
        rw [if_neg g2, if_neg g2]
        unfold S_DR_nextRoot_J25 F_DR_nextRoot_J25
        exact v_nr2 h2 h8 hr hl hx hy ⟨by omega, by omega⟩ _ _ _ ⟨by decide, by omega⟩ (by decide) hl
theorem T_DR_nextRoot {x2 : Int32} {x3 : Int32} {t0_0 : Int32} {t0_1 : Int32} {t0_2 : Int32} {t0_3 : Int64} {t0_4 : Int32} {t0_5 : Int32} {t0_6 : Int32} {t0_7 : Int32} {t0_8 : Int32} {t0_9 : Int32} {t0_10 : Int32} {t1_0 : (Nat → Int32)} {t2_0 : (Nat → Int32)} {t3_0 : (Nat → Int32)} (h2 : 0 ≤ t0_2.toInt ∧ t0_2.toInt ≤ 1000) (h8 : 0 ≤ t0_8.toInt ∧ t0_8.toInt ≤ 2198) (hr : gO t1_0 t0_2.toNatClampNeg) (hl : gO t3_0 t0_8.toNatClampNeg) (hx : 0 ≤ x2.toInt ∧ x2.toInt ≤ 9) (hy : 0 ≤ x3.toInt ∧ x3.toInt ≤ 9) : (S_DR_nextRoot x2 x3 t0_0 t0_1 t0_2 t0_3 t0_4 t0_5 t0_6 t0_7 t0_8 t0_9 t0_10 t1_0 t2_0 t3_0) ∧ Q_DR_nextRoot x2 x3 t0_0 t0_1 t0_2 t0_3 t0_4 t0_5 t0_6 t0_8 t0_9 t0_10 t1_0 (F_DR_nextRoot x2 x3 t0_0 t0_1 t0_2 t0_3 t0_4 t0_5 t0_6 t0_7 t0_8 t0_9 t0_10 t1_0 t2_0 t3_0) := by
  have e0 : (0 : Int32).toInt = 0 := rfl
  have eL0 : (0 : Int64).toInt = 0 := rfl
  have eL1 : (10000 : Int64).toInt = 10000 := rfl
  have eL2 : (-10000 : Int64).toInt = -10000 := rfl
  have eL3 : (1000 : Int64).toInt = 1000 := rfl
  have eL4 : (-1 : Int64).toInt = -1 := rfl
  have eI3 : (1000 : Int32).toInt = 1000 := rfl
  unfold S_DR_nextRoot F_DR_nextRoot
  exact v_nr1 h2 h8 hr hl hx hy _ _ ⟨by decide, by omega⟩ (by decide)

