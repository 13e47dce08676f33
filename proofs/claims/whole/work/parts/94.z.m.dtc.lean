/-! DecimalRows: exponent, written -/
theorem g_e1 {v b : Int32} (hv : 0 ≤ v.toInt ∧ v.toInt ≤ 50000) (hb : 1 ≤ b.toInt) : (v / b).toInt = v.toInt / b.toInt := q_divI rfl rfl hv.1 (by omega)
theorem g_down3 {a : Int32} (h : -50000 ≤ a.toInt ∧ a.toInt ≤ 50000) : a.toInt - 2 ≤ (F_DR_down3 a).toInt ∧ (F_DR_down3 a).toInt ≤ a.toInt := by
  have e0 : (0 : Int32).toInt = 0 := rfl
  unfold F_DR_down3
  by_cases c : a < 0
  · rw [if_pos c]
    have c2 := q_ltI c
    have e1 : (2 - a : Int32).toInt = 2 - a.toInt := q_subI (x := 2) (by decide) rfl (by omega) (by omega)
    have e2 : ((2 - a) / 3 : Int32).toInt = (2 - a.toInt) / 3 := q_divI e1 (by decide) (by omega) (by decide)
    have e3 : ((2 - a) / 3 * 3 : Int32).toInt = (2 - a.toInt) / 3 * 3 := q_mulI (y := 3) e2 (by decide) (by omega) (by omega)
    have e4 := q_negI e3 (by omega)
    omega
  · rw [if_neg c]
    have c2 := q_nltI c
    have e2 : (a / 3 : Int32).toInt = a.toInt / 3 := q_divI rfl (by decide) (by omega) (by decide)
    have e3 : (a / 3 * 3 : Int32).toInt = a.toInt / 3 * 3 := q_mulI (y := 3) e2 (by decide) (by omega) (by omega)
    omega
theorem v_exp1 {x2 : Int32} {t0_0 : Int32} {t0_1 : Int32} {t0_2 : Int32} {t0_3 : Int64} {t0_4 : Int32} {t0_5 : Int32} {t0_6 : Int32} {t0_7 : Int32} {t0_8 : Int32} {t0_9 : Int32} {t0_10 : Int32} {t1_0 : (Nat → Int32)} {p62 : (Int32 × Int32 × Int32 × Int64 × Int32 × Int32 × Int32 × Int32 × Int32 × Int32 × Int32 × (Nat → Int32))} {y24 : Int32} {y25 : Int32} {y26 : Int32} {y27 : Int64} {y28 : Int32} {y29 : Int32} {y30 : Int32} {y31 : Int32} {y32 : Int32} {y33 : Int32} {y34 : Int32} {f35 : (Nat → Int32)} {lx81 : Int32} {p134 : (Int32 × Int32 × Int32 × Int64 × Int32 × Int32 × Int32 × Int32 × Int32 × Int32 × Int32 × (Nat → Int32))} {y96 : Int32} {y97 : Int32} {y98 : Int32} {y99 : Int64} {y100 : Int32} {y101 : Int32} {y102 : Int32} {y103 : Int32} {y104 : Int32} {y105 : Int32} {y106 : Int32} {f107 : (Nat → Int32)} {lx153 : Int32} (h9 : 0 ≤ t0_9.toInt ∧ t0_9.toInt ≤ 12100) (h153 : 0 ≤ lx153.toInt ∧ lx153.toInt ≤ 50000) (h105 : y105.toInt = t0_9.toInt + 2) : ∀ (n : Nat) (lx163 : Int32), ((lx163.toInt = 1 ∧ 5 ≤ (n : Int)) ∨ (lx163.toInt = 10 ∧ 4 ≤ (n : Int)) ∨ (lx163.toInt = 100 ∧ 3 ≤ (n : Int)) ∨ (lx163.toInt = 1000 ∧ 2 ≤ (n : Int)) ∨ (lx163.toInt = 10000 ∧ 1 ≤ (n : Int))) → (S_DR_exponent_L34 x2 t0_0 t0_1 t0_2 t0_3 t0_4 t0_5 t0_6 t0_7 t0_8 t0_9 t0_10 t1_0 p62 y24 y25 y26 y27 y28 y29 y30 y31 y32 y33 y34 f35 lx81 p134 y96 y97 y98 y99 y100 y101 y102 y103 y104 y105 y106 f107 lx153 n lx163) ∧ Q_DR_exponent t0_9 (F_DR_exponent_L34 x2 t0_0 t0_1 t0_2 t0_3 t0_4 t0_5 t0_6 t0_7 t0_8 t0_9 t0_10 t1_0 p62 y24 y25 y26 y27 y28 y29 y30 y31 y32 y33 y34 f35 lx81 p134 y96 y97 y98 y99 y100 y101 y102 y103 y104 y105 y106 f107 lx153 n lx163) := by
  intro n
  induction n with
  | zero => intro lx163 h0; exact absurd (show False by omega) id
  | succ n ih =>
    intro lx163 h0
    have e0 : (0 : Int32).toInt = 0 := rfl
    have e9 : (9 : Int32).toInt = 9 := rfl
    rw [S_DR_exponent_L34.eq_2, F_DR_exponent_L34.eq_2]
    refine v_cons (by omega) ?_
    by_cases g1 : (lx153 / lx163 : Int32) ≤ (9 : Int32)
    ·
      rw [if_pos g1, if_pos g1]
      exact v_exp2 h9 h153 _ _ _ _ _ _ _ _ _ _ _ _ _ _ (by omega) (by omega) (by omega)
    ·
      rw [if_neg g1, if_neg g1]
      have g1i := q_nleI g1
      rcases h0 with ⟨b1, b2⟩ | ⟨b1, b2⟩ | ⟨b1, b2⟩ | ⟨b1, b2⟩ | ⟨b1, b2⟩ <;> (have ed := g_e1 h153 (b := lx163) (by omega); rw [b1] at ed; have em : (lx163 * 10 : Int32).toInt = lx163.toInt * 10 := q_mulI (y := 10) rfl (by decide) (by omega) (by omega); exact ih _ (by omega))
theorem T_DR_exponent {x2 : Int32} {t0_0 : Int32} {t0_1 : Int32} {t0_2 : Int32} {t0_3 : Int64} {t0_4 : Int32} {t0_5 : Int32} {t0_6 : Int32} {t0_7 : Int32} {t0_8 : Int32} {t0_9 : Int32} {t0_10 : Int32} {t1_0 : (Nat → Int32)} (h9 : 0 ≤ t0_9.toInt ∧ t0_9.toInt ≤ 12100) (hx : -50000 ≤ x2.toInt ∧ x2.toInt ≤ 50000) : (S_DR_exponent x2 t0_0 t0_1 t0_2 t0_3 t0_4 t0_5 t0_6 t0_7 t0_8 t0_9 t0_10 t1_0) ∧ Q_DR_exponent t0_9 (F_DR_exponent x2 t0_0 t0_1 t0_2 t0_3 t0_4 t0_5 t0_6 t0_7 t0_8 t0_9 t0_10 t1_0) := by
  have e0 : (0 : Int32).toInt = 0 := rfl
  unfold S_DR_exponent F_DR_exponent
  have h1 := R_print (x2 := (69 : Int32)) (t0_0 := t0_0) (t0_1 := t0_1) (t0_2 := t0_2) (t0_3 := t0_3) (t0_4 := t0_4) (t0_5 := t0_5) (t0_6 := t0_6) (t0_7 := t0_7) (t0_8 := t0_8) (t0_9 := t0_9) (t0_10 := t0_10) (t1_0 := t1_0) ⟨by first | omega | decide, by first | omega | decide⟩
  with_reducible refine v_owe h1.1 ?_
  replace h1 := h1.2
  generalize F_DR_print (69 : Int32) t0_0 t0_1 t0_2 t0_3 t0_4 t0_5 t0_6 t0_7 t0_8 t0_9 t0_10 t1_0 = p62 at *
  unfold S_DR_exponent_c3 F_DR_exponent_c3
  by_cases g2 : (0 : Int32) ≤ x2
  ·
    rw [if_pos g2, if_pos g2]
    have g2i : 0 ≤ x2.toInt := q_leI g2
    unfold S_DR_exponent_J18 F_DR_exponent_J18
    have h3 := R_print (x2 := (43 : Int32)) (t0_0 := (p62.1 : Int32)) (t0_1 := (p62.2.1 : Int32)) (t0_2 := (p62.2.2.1 : Int32)) (t0_3 := (p62.2.2.2.1 : Int64)) (t0_4 := (p62.2.2.2.2.1 : Int32)) (t0_5 := (p62.2.2.2.2.2.1 : Int32)) (t0_6 := (p62.2.2.2.2.2.2.1 : Int32)) (t0_7 := (p62.2.2.2.2.2.2.2.1 : Int32)) (t0_8 := (p62.2.2.2.2.2.2.2.2.1 : Int32)) (t0_9 := (p62.2.2.2.2.2.2.2.2.2.1 : Int32)) (t0_10 := (p62.2.2.2.2.2.2.2.2.2.2.1 : Int32)) (t1_0 := (p62.2.2.2.2.2.2.2.2.2.2.2 : (Nat → Int32))) ⟨by first | omega | decide, by first | omega | decide⟩
    with_reducible refine v_owe h3.1 ?_
    replace h3 := h3.2
    generalize F_DR_print (43 : Int32) (p62.1 : Int32) (p62.2.1 : Int32) (p62.2.2.1 : Int32) (p62.2.2.2.1 : Int64) (p62.2.2.2.2.1 : Int32) (p62.2.2.2.2.2.1 : Int32) (p62.2.2.2.2.2.2.1 : Int32) (p62.2.2.2.2.2.2.2.1 : Int32) (p62.2.2.2.2.2.2.2.2.1 : Int32) (p62.2.2.2.2.2.2.2.2.2.1 : Int32) (p62.2.2.2.2.2.2.2.2.2.2.1 : Int32) (p62.2.2.2.2.2.2.2.2.2.2.2 : (Nat → Int32)) = p134 at *
    unfold S_DR_exponent_c18 F_DR_exponent_c18
    rw [if_pos g2, if_pos g2]
    unfold S_DR_exponent_J31 F_DR_exponent_J31
    exact v_exp1 h9 ⟨by omega, by omega⟩ (by omega) _ _ (by left; exact ⟨by decide, by decide⟩)
  ·
    rw [if_neg g2, if_neg g2]
    have g2i : x2.toInt < 0 := q_nleI g2
    unfold S_DR_exponent_J18 F_DR_exponent_J18
    have h4 := R_print (x2 := (45 : Int32)) (t0_0 := (p62.1 : Int32)) (t0_1 := (p62.2.1 : Int32)) (t0_2 := (p62.2.2.1 : Int32)) (t0_3 := (p62.2.2.2.1 : Int64)) (t0_4 := (p62.2.2.2.2.1 : Int32)) (t0_5 := (p62.2.2.2.2.2.1 : Int32)) (t0_6 := (p62.2.2.2.2.2.2.1 : Int32)) (t0_7 := (p62.2.2.2.2.2.2.2.1 : Int32)) (t0_8 := (p62.2.2.2.2.2.2.2.2.1 : Int32)) (t0_9 := (p62.2.2.2.2.2.2.2.2.2.1 : Int32)) (t0_10 := (p62.2.2.2.2.2.2.2.2.2.2.1 : Int32)) (t1_0 := (p62.2.2.2.2.2.2.2.2.2.2.2 : (Nat → Int32))) ⟨by first | omega | decide, by first | omega | decide⟩
    with_reducible refine v_owe h4.1 ?_
    replace h4 := h4.2
    generalize F_DR_print (45 : Int32) (p62.1 : Int32) (p62.2.1 : Int32) (p62.2.2.1 : Int32) (p62.2.2.2.1 : Int64) (p62.2.2.2.2.1 : Int32) (p62.2.2.2.2.2.1 : Int32) (p62.2.2.2.2.2.2.1 : Int32) (p62.2.2.2.2.2.2.2.1 : Int32) (p62.2.2.2.2.2.2.2.2.1 : Int32) (p62.2.2.2.2.2.2.2.2.2.1 : Int32) (p62.2.2.2.2.2.2.2.2.2.2.1 : Int32) (p62.2.2.2.2.2.2.2.2.2.2.2 : (Nat → Int32)) = p134 at *
    unfold S_DR_exponent_c18 F_DR_exponent_c18
    rw [if_neg g2, if_neg g2]
    obtain ⟨lx153, e5⟩ := q_nm ((-x2 : Int32) : Int32)
    rw [e5]
    have l153 : lx153.toInt = -x2.toInt := by rw [← e5]; exact q_negI rfl (by omega)
    unfold S_DR_exponent_J31 F_DR_exponent_J31
    exact v_exp1 h9 ⟨by omega, by omega⟩ (by omega) _ _ (by left; exact ⟨by decide, by decide⟩)
def Q_DR_written (x3 : Int32) (p : Int32 × Int32 × Int32 × Int32 × Int64 × Int32 × Int32 × Int32 × Int32 × Int32 × Int32 × Int32 × (Nat → Int32)) : Prop := 0 ≤ p.1.toInt ∧ p.1.toInt ≤ 12200 ∧ (x3.toInt = 0 → p.1.toInt ≤ 4100)
theorem T_DR_written {x2 : Int32} {x3 : Int32} {t0_0 : Int32} {t0_1 : Int32} {t0_2 : Int32} {t0_3 : Int64} {t0_4 : Int32} {t0_5 : Int32} {t0_6 : Int32} {t0_7 : Int32} {t0_8 : Int32} {t0_9 : Int32} {t0_10 : Int32} {t1_0 : (Nat → Int32)} {t2_0 : (Nat → Int32)} {t3_0 : (Nat → Int32)} {t4_0 : (Nat → Int32)} {t5_0 : (Nat → Int32)} (hR : gR t1_0 t2_0 t3_0 t4_0) : (S_DR_written x2 x3 t0_0 t0_1 t0_2 t0_3 t0_4 t0_5 t0_6 t0_7 t0_8 t0_9 t0_10 t1_0 t2_0 t3_0 t4_0 t5_0) ∧ Q_DR_written x3 (F_DR_written x2 x3 t0_0 t0_1 t0_2 t0_3 t0_4 t0_5 t0_6 t0_7 t0_8 t0_9 t0_10 t1_0 t2_0 t3_0 t4_0 t5_0) := by
  have e0 : (0 : Int32).toInt = 0 := rfl
  have eL0 : (0 : Int64).toInt = 0 := rfl
  have eL1 : (10000 : Int64).toInt = 10000 := rfl
  have eL2 : (-10000 : Int64).toInt = -10000 := rfl
  have eL3 : (1000 : Int64).toInt = 1000 := rfl
  have eL4 : (-1 : Int64).toInt = -1 := rfl
  have eI3 : (1000 : Int32).toInt = 1000 := rfl
  have i1 : (1 : Int32).toInt = 1 := rfl
  have i6 : (-6 : Int32).toInt = -6 := rfl
  have im : (-1 : Int32).toInt = -1 := rfl
  have i2 : (2 : Int32).toInt = 2 := rfl
  unfold S_DR_written F_DR_written
  by_cases g1 : ((F_DR_no x2) : Int32) = (0 : Int32)
  ·
    rw [if_pos g1, if_pos g1]
    have g1r := g_no g1
    by_cases g2 : x3 < (0 : Int32)
    ·
      rw [if_pos g2, if_pos g2]
      have g2i : x3.toInt < 0 := q_ltI g2
      unfold S_DR_written_J17 F_DR_written_J17
      unfold S_DR_written_J22 F_DR_written_J22
      have g3 : ¬ ((1 : Int32) ≤ (0 : Int32)) := (by decide)
      rw [if_neg g3, if_neg g3]
      refine ⟨trivial, ?_⟩
      (unfold Q_DR_written; dsimp only; first | omega | exact ⟨by decide, by decide, fun _ => by decide⟩)
    ·
      rw [if_neg g2, if_neg g2]
      have g2i : 0 ≤ x3.toInt := q_nltI g2
      by_cases g4 : x3 ≤ (2 : Int32)
      ·
        rw [if_pos g4, if_pos g4]
        have g4i : x3.toInt ≤ 2 := q_leI g4
        unfold S_DR_written_J22 F_DR_written_J22
        have g5 : ((0 : Int32) ≤ (0 : Int32)) := (by decide)
        rw [if_pos g5, if_pos g5]
        refine v_cons (by omega) ?_
        refine v_cons (by omega) ?_
        by_cases g6 : (t3_0 x2.toNatClampNeg : Int32) = (0 : Int32)
        ·
          rw [if_pos g6, if_pos g6]
          have m2 := gR.at hR (by with_reducible assumption : 0 ≤ x2.toInt ∧ x2.toInt ≤ 9)
          unfold S_DR_written_J54 F_DR_written_J54
          by_cases g7 : x3 = (1 : Int32)
          ·
            rw [if_pos g7, if_pos g7]
            have g7i : x3.toInt = 1 := q_eqI g7
            by_cases g8 : (0 : Int32) < (t4_0 x2.toNatClampNeg : Int32)
            ·
              rw [if_pos g8, if_pos g8]
              have g8i := q_ltI g8
              obtain ⟨a117, e9⟩ := q_nm ((((t2_0 x2.toNatClampNeg : Int32) - 1 : Int32) - (t4_0 x2.toNatClampNeg : Int32) : Int32) : Int32)
              rw [e9]
              have a117i : a117.toInt = (t2_0 x2.toNatClampNeg).toInt - 1 - (t4_0 x2.toNatClampNeg).toInt := by rw [← e9]; exact q_subI (q_subI (y := 1) rfl (by decide) (by omega) (by omega)) rfl (by omega) (by omega)
              unfold S_DR_written_J113 F_DR_written_J113
              by_cases g10 : (t4_0 x2.toNatClampNeg : Int32) < (0 : Int32)
              ·
                rw [if_pos g10, if_pos g10]
                have g10i := q_ltI g10
                unfold S_DR_written_J170 F_DR_written_J170
                by_cases g11 : x3 = (0 : Int32)
                ·
                  rw [if_pos g11, if_pos g11]
                  have g11i : x3.toInt = 0 := q_eqI g11
                  have h12 := T_DR_figures (x2 := x2) (x3 := (0 : Int32)) (x4 := (t2_0 x2.toNatClampNeg : Int32)) (x5 := (1 : Int32)) (t0_0 := (0 : Int32)) (t0_1 := t0_1) (t0_2 := t0_2) (t0_3 := t0_3) (t0_4 := t0_4) (t0_5 := t0_5) (t0_6 := t0_6) (t0_7 := t0_7) (t0_8 := t0_8) (t0_9 := (0 : Int32)) (t0_10 := t0_10) (t1_0 := t1_0) (t2_0 := t2_0) (t3_0 := t5_0) (by with_reducible assumption) m2.1 ⟨(by first | omega | decide), (by first | omega | decide), (by first | omega | decide), (by first | omega | decide)⟩ (by first | omega | decide) (by first | omega | decide) (by first | omega | decide)
                  with_reducible refine v_owe h12.1 ?_
                  replace h12 := h12.2
                  generalize F_DR_figures x2 (0 : Int32) (t2_0 x2.toNatClampNeg : Int32) (1 : Int32) (0 : Int32) t0_1 t0_2 t0_3 t0_4 t0_5 t0_6 t0_7 t0_8 (0 : Int32) t0_10 t1_0 t2_0 t5_0 = p496 at *
                  unfold Q_DR_figures at h12
                  unfold S_DR_written_c179 F_DR_written_c179
                  have h13 := T_DR_exponent (x2 := a117) (t0_0 := (p496.1 : Int32)) (t0_1 := (p496.2.1 : Int32)) (t0_2 := (p496.2.2.1 : Int32)) (t0_3 := (p496.2.2.2.1 : Int64)) (t0_4 := (p496.2.2.2.2.1 : Int32)) (t0_5 := (p496.2.2.2.2.2.1 : Int32)) (t0_6 := (p496.2.2.2.2.2.2.1 : Int32)) (t0_7 := (p496.2.2.2.2.2.2.2.1 : Int32)) (t0_8 := (p496.2.2.2.2.2.2.2.2.1 : Int32)) (t0_9 := (p496.2.2.2.2.2.2.2.2.2.1 : Int32)) (t0_10 := (p496.2.2.2.2.2.2.2.2.2.2.1 : Int32)) (t1_0 := (p496.2.2.2.2.2.2.2.2.2.2.2 : (Nat → Int32))) ⟨(by first | omega | decide), (by first | omega | decide)⟩ ⟨(by first | omega | decide), (by first | omega | decide)⟩
                  with_reducible refine v_owe h13.1 ?_
                  replace h13 := h13.2
                  generalize F_DR_exponent a117 (p496.1 : Int32) (p496.2.1 : Int32) (p496.2.2.1 : Int32) (p496.2.2.2.1 : Int64) (p496.2.2.2.2.1 : Int32) (p496.2.2.2.2.2.1 : Int32) (p496.2.2.2.2.2.2.1 : Int32) (p496.2.2.2.2.2.2.2.1 : Int32) (p496.2.2.2.2.2.2.2.2.1 : Int32) (p496.2.2.2.2.2.2.2.2.2.1 : Int32) (p496.2.2.2.2.2.2.2.2.2.2.1 : Int32) (p496.2.2.2.2.2.2.2.2.2.2.2 : (Nat → Int32)) = p556 at *
                  unfold Q_DR_exponent at h13
                  unfold S_DR_written_c185 F_DR_written_c185
                  refine ⟨trivial, ?_⟩
                  (unfold Q_DR_written; dsimp only; first | omega | exact ⟨by decide, by decide, fun _ => by decide⟩)
                ·
                  rw [if_neg g11, if_neg g11]
                  have g11i : x3.toInt ≠ 0 := q_neI g11
                  have h14 := R_dz (x2 := x2) (t0_0 := (0 : Int32)) (t0_1 := t0_1) (t0_2 := t0_2) (t0_3 := t0_3) (t0_4 := t0_4) (t0_5 := t0_5) (t0_6 := t0_6) (t0_7 := t0_7) (t0_8 := t0_8) (t0_9 := (0 : Int32)) (t0_10 := t0_10) (t1_0 := t1_0) (by with_reducible assumption)
                  with_reducible refine v_owe h14.1 ?_
                  by_cases g15 : ((F_DR_isZero x2 (0 : Int32) t0_1 t0_2 t0_3 t0_4 t0_5 t0_6 t0_7 t0_8 (0 : Int32) t0_10 t1_0) : Int32) = (0 : Int32)
                  ·
                    rw [if_pos g15, if_pos g15]
                    try have hdn := g_down3 (a := a117) ⟨by omega, by omega⟩
                    try have ed1 : (a117 - F_DR_down3 a117 : Int32).toInt = a117.toInt - (F_DR_down3 a117).toInt := q_subI rfl rfl (by omega) (by omega)
                    try have ed2 : (a117 - F_DR_down3 a117 + 1 : Int32).toInt = (a117.toInt - (F_DR_down3 a117).toInt) + 1 := q_addI (y := 1) ed1 (by decide) (by omega) (by omega)
                    by_cases g16 : (t2_0 x2.toNatClampNeg : Int32) ≤ ((a117 - ((F_DR_down3 a117) : Int32) : Int32) + 1 : Int32)
                    ·
                      rw [if_pos g16, if_pos g16]
                      have g16i := q_leI g16
                      unfold S_DR_written_J268 F_DR_written_J268
                      have h17 := T_DR_figures (x2 := x2) (x3 := (0 : Int32)) (x4 := ((a117 - ((F_DR_down3 a117) : Int32) : Int32) + 1 : Int32)) (x5 := ((a117 - ((F_DR_down3 a117) : Int32) : Int32) + 1 : Int32)) (t0_0 := (0 : Int32)) (t0_1 := t0_1) (t0_2 := t0_2) (t0_3 := t0_3) (t0_4 := t0_4) (t0_5 := t0_5) (t0_6 := t0_6) (t0_7 := t0_7) (t0_8 := t0_8) (t0_9 := (0 : Int32)) (t0_10 := t0_10) (t1_0 := t1_0) (t2_0 := t2_0) (t3_0 := t5_0) (by with_reducible assumption) m2.1 ⟨(by first | omega | decide), (by first | omega | decide), (by first | omega | decide), (by first | omega | decide)⟩ (by first | omega | decide) (by first | omega | decide) (by first | omega | decide)
                      with_reducible refine v_owe h17.1 ?_
                      replace h17 := h17.2
                      generalize F_DR_figures x2 (0 : Int32) ((a117 - ((F_DR_down3 a117) : Int32) : Int32) + 1 : Int32) ((a117 - ((F_DR_down3 a117) : Int32) : Int32) + 1 : Int32) (0 : Int32) t0_1 t0_2 t0_3 t0_4 t0_5 t0_6 t0_7 t0_8 (0 : Int32) t0_10 t1_0 t2_0 t5_0 = p224 at *
                      unfold Q_DR_figures at h17
                      unfold S_DR_written_c275 F_DR_written_c275
                      by_cases g18 : ((F_DR_down3 a117) : Int32) = (0 : Int32)
                      ·
                        rw [if_pos g18, if_pos g18]
                        refine ⟨trivial, ?_⟩
                        (unfold Q_DR_written; dsimp only; first | omega | exact ⟨by decide, by decide, fun _ => by decide⟩)
                      ·
                        rw [if_neg g18, if_neg g18]
                        have h19 := T_DR_exponent (x2 := ((F_DR_down3 a117) : Int32)) (t0_0 := (p224.1 : Int32)) (t0_1 := (p224.2.1 : Int32)) (t0_2 := (p224.2.2.1 : Int32)) (t0_3 := (p224.2.2.2.1 : Int64)) (t0_4 := (p224.2.2.2.2.1 : Int32)) (t0_5 := (p224.2.2.2.2.2.1 : Int32)) (t0_6 := (p224.2.2.2.2.2.2.1 : Int32)) (t0_7 := (p224.2.2.2.2.2.2.2.1 : Int32)) (t0_8 := (p224.2.2.2.2.2.2.2.2.1 : Int32)) (t0_9 := (p224.2.2.2.2.2.2.2.2.2.1 : Int32)) (t0_10 := (p224.2.2.2.2.2.2.2.2.2.2.1 : Int32)) (t1_0 := (p224.2.2.2.2.2.2.2.2.2.2.2 : (Nat → Int32))) ⟨(by first | omega | decide), (by first | omega | decide)⟩ ⟨(by first | omega | decide), (by first | omega | decide)⟩
                        with_reducible refine v_owe h19.1 ?_
                        replace h19 := h19.2
                        generalize F_DR_exponent ((F_DR_down3 a117) : Int32) (p224.1 : Int32) (p224.2.1 : Int32) (p224.2.2.1 : Int32) (p224.2.2.2.1 : Int64) (p224.2.2.2.2.1 : Int32) (p224.2.2.2.2.2.1 : Int32) (p224.2.2.2.2.2.2.1 : Int32) (p224.2.2.2.2.2.2.2.1 : Int32) (p224.2.2.2.2.2.2.2.2.1 : Int32) (p224.2.2.2.2.2.2.2.2.2.1 : Int32) (p224.2.2.2.2.2.2.2.2.2.2.1 : Int32) (p224.2.2.2.2.2.2.2.2.2.2.2 : (Nat → Int32)) = p287 at *
                        unfold Q_DR_exponent at h19
                        unfold S_DR_written_c286 F_DR_written_c286
                        refine ⟨trivial, ?_⟩
                        (unfold Q_DR_written; dsimp only; first | omega | exact ⟨by decide, by decide, fun _ => by decide⟩)
                    ·
                      rw [if_neg g16, if_neg g16]
                      have g16i := q_nleI g16
                      unfold S_DR_written_J268 F_DR_written_J268
                      have h20 := T_DR_figures (x2 := x2) (x3 := (0 : Int32)) (x4 := (t2_0 x2.toNatClampNeg : Int32)) (x5 := ((a117 - ((F_DR_down3 a117) : Int32) : Int32) + 1 : Int32)) (t0_0 := (0 : Int32)) (t0_1 := t0_1) (t0_2 := t0_2) (t0_3 := t0_3) (t0_4 := t0_4) (t0_5 := t0_5) (t0_6 := t0_6) (t0_7 := t0_7) (t0_8 := t0_8) (t0_9 := (0 : Int32)) (t0_10 := t0_10) (t1_0 := t1_0) (t2_0 := t2_0) (t3_0 := t5_0) (by with_reducible assumption) m2.1 ⟨(by first | omega | decide), (by first | omega | decide), (by first | omega | decide), (by first | omega | decide)⟩ (by first | omega | decide) (by first | omega | decide) (by first | omega | decide)
                      with_reducible refine v_owe h20.1 ?_
                      replace h20 := h20.2
                      generalize F_DR_figures x2 (0 : Int32) (t2_0 x2.toNatClampNeg : Int32) ((a117 - ((F_DR_down3 a117) : Int32) : Int32) + 1 : Int32) (0 : Int32) t0_1 t0_2 t0_3 t0_4 t0_5 t0_6 t0_7 t0_8 (0 : Int32) t0_10 t1_0 t2_0 t5_0 = p224 at *
                      unfold Q_DR_figures at h20
                      unfold S_DR_written_c275 F_DR_written_c275
                      by_cases g21 : ((F_DR_down3 a117) : Int32) = (0 : Int32)
                      ·
                        rw [if_pos g21, if_pos g21]
                        refine ⟨trivial, ?_⟩
                        (unfold Q_DR_written; dsimp only; first | omega | exact ⟨by decide, by decide, fun _ => by decide⟩)
                      ·
                        rw [if_neg g21, if_neg g21]
                        have h22 := T_DR_exponent (x2 := ((F_DR_down3 a117) : Int32)) (t0_0 := (p224.1 : Int32)) (t0_1 := (p224.2.1 : Int32)) (t0_2 := (p224.2.2.1 : Int32)) (t0_3 := (p224.2.2.2.1 : Int64)) (t0_4 := (p224.2.2.2.2.1 : Int32)) (t0_5 := (p224.2.2.2.2.2.1 : Int32)) (t0_6 := (p224.2.2.2.2.2.2.1 : Int32)) (t0_7 := (p224.2.2.2.2.2.2.2.1 : Int32)) (t0_8 := (p224.2.2.2.2.2.2.2.2.1 : Int32)) (t0_9 := (p224.2.2.2.2.2.2.2.2.2.1 : Int32)) (t0_10 := (p224.2.2.2.2.2.2.2.2.2.2.1 : Int32)) (t1_0 := (p224.2.2.2.2.2.2.2.2.2.2.2 : (Nat → Int32))) ⟨(by first | omega | decide), (by first | omega | decide)⟩ ⟨(by first | omega | decide), (by first | omega | decide)⟩
                        with_reducible refine v_owe h22.1 ?_
                        replace h22 := h22.2
                        generalize F_DR_exponent ((F_DR_down3 a117) : Int32) (p224.1 : Int32) (p224.2.1 : Int32) (p224.2.2.1 : Int32) (p224.2.2.2.1 : Int64) (p224.2.2.2.2.1 : Int32) (p224.2.2.2.2.2.1 : Int32) (p224.2.2.2.2.2.2.1 : Int32) (p224.2.2.2.2.2.2.2.1 : Int32) (p224.2.2.2.2.2.2.2.2.1 : Int32) (p224.2.2.2.2.2.2.2.2.2.1 : Int32) (p224.2.2.2.2.2.2.2.2.2.2.1 : Int32) (p224.2.2.2.2.2.2.2.2.2.2.2 : (Nat → Int32)) = p287 at *
                        unfold Q_DR_exponent at h22
                        unfold S_DR_written_c286 F_DR_written_c286
                        refine ⟨trivial, ?_⟩
                        (unfold Q_DR_written; dsimp only; first | omega | exact ⟨by decide, by decide, fun _ => by decide⟩)
                  ·
                    rw [if_neg g15, if_neg g15]
                    try have en : (-a117 : Int32).toInt = -a117.toInt := q_negI rfl (by omega)
                    try have hdm := g_down3 (a := -a117) ⟨by omega, by omega⟩
                    try have eb : (-(F_DR_down3 (-a117)) : Int32).toInt = -(F_DR_down3 (-a117)).toInt := q_negI rfl (by omega)
                    try have ec : (1 + (-(F_DR_down3 (-a117))) : Int32).toInt = 1 + -(F_DR_down3 (-a117)).toInt := q_addI (x := 1) (by decide) eb (by omega) (by omega)
                    try have ee : (1 + (-(F_DR_down3 (-a117))) - a117 : Int32).toInt = (1 + -(F_DR_down3 (-a117)).toInt) - a117.toInt := q_subI ec rfl (by omega) (by omega)
                    have h23 := T_DR_figures (x2 := x2) (x3 := (0 : Int32)) (x4 := ((1 + (-((F_DR_down3 (-a117 : Int32)) : Int32) : Int32) : Int32) - a117 : Int32)) (x5 := (1 : Int32)) (t0_0 := (0 : Int32)) (t0_1 := t0_1) (t0_2 := t0_2) (t0_3 := t0_3) (t0_4 := t0_4) (t0_5 := t0_5) (t0_6 := t0_6) (t0_7 := t0_7) (t0_8 := t0_8) (t0_9 := (0 : Int32)) (t0_10 := t0_10) (t1_0 := t1_0) (t2_0 := t2_0) (t3_0 := t5_0) (by with_reducible assumption) m2.1 ⟨(by first | omega | decide), (by first | omega | decide), (by first | omega | decide), (by first | omega | decide)⟩ (by first | omega | decide) (by first | omega | decide) (by first | omega | decide)
                    with_reducible refine v_owe h23.1 ?_
                    replace h23 := h23.2
                    generalize F_DR_figures x2 (0 : Int32) ((1 + (-((F_DR_down3 (-a117 : Int32)) : Int32) : Int32) : Int32) - a117 : Int32) (1 : Int32) (0 : Int32) t0_1 t0_2 t0_3 t0_4 t0_5 t0_6 t0_7 t0_8 (0 : Int32) t0_10 t1_0 t2_0 t5_0 = p372 at *
                    unfold Q_DR_figures at h23
                    unfold S_DR_written_c219 F_DR_written_c219
                    by_cases g24 : (-((F_DR_down3 (-a117 : Int32)) : Int32) : Int32) = (0 : Int32)
                    ·
                      rw [if_pos g24, if_pos g24]
                      refine ⟨trivial, ?_⟩
                      (unfold Q_DR_written; dsimp only; first | omega | exact ⟨by decide, by decide, fun _ => by decide⟩)
                    ·
                      rw [if_neg g24, if_neg g24]
                      have h25 := T_DR_exponent (x2 := (-((F_DR_down3 (-a117 : Int32)) : Int32) : Int32)) (t0_0 := (p372.1 : Int32)) (t0_1 := (p372.2.1 : Int32)) (t0_2 := (p372.2.2.1 : Int32)) (t0_3 := (p372.2.2.2.1 : Int64)) (t0_4 := (p372.2.2.2.2.1 : Int32)) (t0_5 := (p372.2.2.2.2.2.1 : Int32)) (t0_6 := (p372.2.2.2.2.2.2.1 : Int32)) (t0_7 := (p372.2.2.2.2.2.2.2.1 : Int32)) (t0_8 := (p372.2.2.2.2.2.2.2.2.1 : Int32)) (t0_9 := (p372.2.2.2.2.2.2.2.2.2.1 : Int32)) (t0_10 := (p372.2.2.2.2.2.2.2.2.2.2.1 : Int32)) (t1_0 := (p372.2.2.2.2.2.2.2.2.2.2.2 : (Nat → Int32))) ⟨(by first | omega | decide), (by first | omega | decide)⟩ ⟨(by first | omega | decide), (by first | omega | decide)⟩
                      with_reducible refine v_owe h25.1 ?_
                      replace h25 := h25.2
                      generalize F_DR_exponent (-((F_DR_down3 (-a117 : Int32)) : Int32) : Int32) (p372.1 : Int32) (p372.2.1 : Int32) (p372.2.2.1 : Int32) (p372.2.2.2.1 : Int64) (p372.2.2.2.2.1 : Int32) (p372.2.2.2.2.2.1 : Int32) (p372.2.2.2.2.2.2.1 : Int32) (p372.2.2.2.2.2.2.2.1 : Int32) (p372.2.2.2.2.2.2.2.2.1 : Int32) (p372.2.2.2.2.2.2.2.2.2.1 : Int32) (p372.2.2.2.2.2.2.2.2.2.2.1 : Int32) (p372.2.2.2.2.2.2.2.2.2.2.2 : (Nat → Int32)) = p435 at *
                      unfold Q_DR_exponent at h25
                      unfold S_DR_written_c230 F_DR_written_c230
                      refine ⟨trivial, ?_⟩
                      (unfold Q_DR_written; dsimp only; first | omega | exact ⟨by decide, by decide, fun _ => by decide⟩)
              ·
                rw [if_neg g10, if_neg g10]
                have g10i := q_nltI g10
                rw [if_pos g7, if_pos g7]
                unfold S_DR_written_J130 F_DR_written_J130
                by_cases g26 : (1 : Int32) ≤ ((t2_0 x2.toNatClampNeg : Int32) - (t4_0 x2.toNatClampNeg : Int32) : Int32)
                ·
                  rw [if_pos g26, if_pos g26]
                  have emc : ((t2_0 x2.toNatClampNeg) - (t4_0 x2.toNatClampNeg) : Int32).toInt = (t2_0 x2.toNatClampNeg).toInt - (t4_0 x2.toNatClampNeg).toInt := q_subI rfl rfl (by omega) (by omega)
                  have g26i := q_leI g26
                  unfold S_DR_written_J150 F_DR_written_J150
                  by_cases g27 : (t4_0 x2.toNatClampNeg : Int32) = (0 : Int32)
                  ·
                    rw [if_pos g27, if_pos g27]
                    have g27i := q_eqI g27
                    have h28 := T_DR_figures (x2 := x2) (x3 := (0 : Int32)) (x4 := (t2_0 x2.toNatClampNeg : Int32)) (x5 := (-1 : Int32)) (t0_0 := (0 : Int32)) (t0_1 := t0_1) (t0_2 := t0_2) (t0_3 := t0_3) (t0_4 := t0_4) (t0_5 := t0_5) (t0_6 := t0_6) (t0_7 := t0_7) (t0_8 := t0_8) (t0_9 := (0 : Int32)) (t0_10 := t0_10) (t1_0 := t1_0) (t2_0 := t2_0) (t3_0 := t5_0) (by with_reducible assumption) m2.1 ⟨(by first | omega | decide), (by first | omega | decide), (by first | omega | decide), (by first | omega | decide)⟩ (by first | omega | decide) (by first | omega | decide) (by first | omega | decide)
                    with_reducible refine v_owe h28.1 ?_
                    replace h28 := h28.2
                    generalize F_DR_figures x2 (0 : Int32) (t2_0 x2.toNatClampNeg : Int32) (-1 : Int32) (0 : Int32) t0_1 t0_2 t0_3 t0_4 t0_5 t0_6 t0_7 t0_8 (0 : Int32) t0_10 t1_0 t2_0 t5_0 = p711 at *
                    unfold Q_DR_figures at h28
                    unfold S_DR_written_c164_15 F_DR_written_c164_15
                    refine ⟨trivial, ?_⟩
                    (unfold Q_DR_written; dsimp only; first | omega | exact ⟨by decide, by decide, fun _ => by decide⟩)
                  ·
                    rw [if_neg g27, if_neg g27]
                    have g27i := q_neI g27
                    have h29 := T_DR_figures (x2 := x2) (x3 := (0 : Int32)) (x4 := (t2_0 x2.toNatClampNeg : Int32)) (x5 := ((t2_0 x2.toNatClampNeg : Int32) - (t4_0 x2.toNatClampNeg : Int32) : Int32)) (t0_0 := (0 : Int32)) (t0_1 := t0_1) (t0_2 := t0_2) (t0_3 := t0_3) (t0_4 := t0_4) (t0_5 := t0_5) (t0_6 := t0_6) (t0_7 := t0_7) (t0_8 := t0_8) (t0_9 := (0 : Int32)) (t0_10 := t0_10) (t1_0 := t1_0) (t2_0 := t2_0) (t3_0 := t5_0) (by with_reducible assumption) m2.1 ⟨(by first | omega | decide), (by first | omega | decide), (by first | omega | decide), (by first | omega | decide)⟩ (by first | omega | decide) (by first | omega | decide) (by first | omega | decide)
                    with_reducible refine v_owe h29.1 ?_
                    replace h29 := h29.2
                    generalize F_DR_figures x2 (0 : Int32) (t2_0 x2.toNatClampNeg : Int32) ((t2_0 x2.toNatClampNeg : Int32) - (t4_0 x2.toNatClampNeg : Int32) : Int32) (0 : Int32) t0_1 t0_2 t0_3 t0_4 t0_5 t0_6 t0_7 t0_8 (0 : Int32) t0_10 t1_0 t2_0 t5_0 = p650 at *
                    unfold Q_DR_figures at h29
                    unfold S_DR_written_c164 F_DR_written_c164
                    refine ⟨trivial, ?_⟩
                    (unfold Q_DR_written; dsimp only; first | omega | exact ⟨by decide, by decide, fun _ => by decide⟩)
                ·
                  rw [if_neg g26, if_neg g26]
                  have emc : ((t2_0 x2.toNatClampNeg) - (t4_0 x2.toNatClampNeg) : Int32).toInt = (t2_0 x2.toNatClampNeg).toInt - (t4_0 x2.toNatClampNeg).toInt := q_subI rfl rfl (by omega) (by omega)
                  have g26i := q_nleI g26
                  obtain ⟨lx592, e30⟩ := q_nm ((((t2_0 x2.toNatClampNeg : Int32) - (t4_0 x2.toNatClampNeg : Int32) : Int32) - 1 : Int32) : Int32)
                  rw [e30]
                  have l592 : lx592.toInt = (t2_0 x2.toNatClampNeg).toInt - (t4_0 x2.toNatClampNeg).toInt - 1 := by rw [← e30]; exact q_subI (y := 1) emc rfl (by omega) (by omega)
                  unfold S_DR_written_J150 F_DR_written_J150
                  by_cases g31 : (t4_0 x2.toNatClampNeg : Int32) = (0 : Int32)
                  ·
                    rw [if_pos g31, if_pos g31]
                    have g31i := q_eqI g31
                    have h32 := T_DR_figures (x2 := x2) (x3 := lx592) (x4 := (t2_0 x2.toNatClampNeg : Int32)) (x5 := (-1 : Int32)) (t0_0 := (0 : Int32)) (t0_1 := t0_1) (t0_2 := t0_2) (t0_3 := t0_3) (t0_4 := t0_4) (t0_5 := t0_5) (t0_6 := t0_6) (t0_7 := t0_7) (t0_8 := t0_8) (t0_9 := (0 : Int32)) (t0_10 := t0_10) (t1_0 := t1_0) (t2_0 := t2_0) (t3_0 := t5_0) (by with_reducible assumption) m2.1 ⟨(by first | omega | decide), (by first | omega | decide), (by first | omega | decide), (by first | omega | decide)⟩ (by first | omega | decide) (by first | omega | decide) (by first | omega | decide)
                    with_reducible refine v_owe h32.1 ?_
                    replace h32 := h32.2
                    generalize F_DR_figures x2 lx592 (t2_0 x2.toNatClampNeg : Int32) (-1 : Int32) (0 : Int32) t0_1 t0_2 t0_3 t0_4 t0_5 t0_6 t0_7 t0_8 (0 : Int32) t0_10 t1_0 t2_0 t5_0 = p711 at *
                    unfold Q_DR_figures at h32
                    unfold S_DR_written_c164_15 F_DR_written_c164_15
                    refine ⟨trivial, ?_⟩
                    (unfold Q_DR_written; dsimp only; first | omega | exact ⟨by decide, by decide, fun _ => by decide⟩)
                  ·
                    rw [if_neg g31, if_neg g31]
                    have g31i := q_neI g31
                    have h33 := T_DR_figures (x2 := x2) (x3 := lx592) (x4 := (t2_0 x2.toNatClampNeg : Int32)) (x5 := ((t2_0 x2.toNatClampNeg : Int32) - (t4_0 x2.toNatClampNeg : Int32) : Int32)) (t0_0 := (0 : Int32)) (t0_1 := t0_1) (t0_2 := t0_2) (t0_3 := t0_3) (t0_4 := t0_4) (t0_5 := t0_5) (t0_6 := t0_6) (t0_7 := t0_7) (t0_8 := t0_8) (t0_9 := (0 : Int32)) (t0_10 := t0_10) (t1_0 := t1_0) (t2_0 := t2_0) (t3_0 := t5_0) (by with_reducible assumption) m2.1 ⟨(by first | omega | decide), (by first | omega | decide), (by first | omega | decide), (by first | omega | decide)⟩ (by first | omega | decide) (by first | omega | decide) (by first | omega | decide)
                    with_reducible refine v_owe h33.1 ?_
                    replace h33 := h33.2
                    generalize F_DR_figures x2 lx592 (t2_0 x2.toNatClampNeg : Int32) ((t2_0 x2.toNatClampNeg : Int32) - (t4_0 x2.toNatClampNeg : Int32) : Int32) (0 : Int32) t0_1 t0_2 t0_3 t0_4 t0_5 t0_6 t0_7 t0_8 (0 : Int32) t0_10 t1_0 t2_0 t5_0 = p650 at *
                    unfold Q_DR_figures at h33
                    unfold S_DR_written_c164 F_DR_written_c164
                    refine ⟨trivial, ?_⟩
                    (unfold Q_DR_written; dsimp only; first | omega | exact ⟨by decide, by decide, fun _ => by decide⟩)
            ·
              rw [if_neg g8, if_neg g8]
              have g8i := q_nltI g8
              have emc : ((t2_0 x2.toNatClampNeg) - (t4_0 x2.toNatClampNeg) : Int32).toInt = (t2_0 x2.toNatClampNeg).toInt - (t4_0 x2.toNatClampNeg).toInt := q_subI rfl rfl (by omega) (by omega)
              have h34 := R_dz (x2 := x2) (t0_0 := (0 : Int32)) (t0_1 := t0_1) (t0_2 := t0_2) (t0_3 := t0_3) (t0_4 := t0_4) (t0_5 := t0_5) (t0_6 := t0_6) (t0_7 := t0_7) (t0_8 := t0_8) (t0_9 := (0 : Int32)) (t0_10 := t0_10) (t1_0 := t1_0) (by with_reducible assumption)
              with_reducible refine v_owe h34.1 ?_
              by_cases g35 : ((F_DR_isZero x2 (0 : Int32) t0_1 t0_2 t0_3 t0_4 t0_5 t0_6 t0_7 t0_8 (0 : Int32) t0_10 t1_0) : Int32) = (0 : Int32)
              ·
                rw [if_pos g35, if_pos g35]
                try have hdn := g_down3 (a := a117) ⟨by omega, by omega⟩
                try have ed1 : (a117 - F_DR_down3 a117 : Int32).toInt = a117.toInt - (F_DR_down3 a117).toInt := q_subI rfl rfl (by omega) (by omega)
                try have ed2 : (a117 - F_DR_down3 a117 + 1 : Int32).toInt = (a117.toInt - (F_DR_down3 a117).toInt) + 1 := q_addI (y := 1) ed1 (by decide) (by omega) (by omega)
                have h36 := T_DR_figures (x2 := x2) (x3 := (0 : Int32)) (x4 := ((t2_0 x2.toNatClampNeg : Int32) - (t4_0 x2.toNatClampNeg : Int32) : Int32)) (x5 := (-1 : Int32)) (t0_0 := (0 : Int32)) (t0_1 := t0_1) (t0_2 := t0_2) (t0_3 := t0_3) (t0_4 := t0_4) (t0_5 := t0_5) (t0_6 := t0_6) (t0_7 := t0_7) (t0_8 := t0_8) (t0_9 := (0 : Int32)) (t0_10 := t0_10) (t1_0 := t1_0) (t2_0 := t2_0) (t3_0 := t5_0) (by with_reducible assumption) m2.1 ⟨(by first | omega | decide), (by first | omega | decide), (by first | omega | decide), (by first | omega | decide)⟩ (by first | omega | decide) (by first | omega | decide) (by first | omega | decide)
                with_reducible refine v_owe h36.1 ?_
                obtain ⟨a117, e37⟩ := q_nm ((((t2_0 x2.toNatClampNeg : Int32) - 1 : Int32) - (t4_0 x2.toNatClampNeg : Int32) : Int32) : Int32)
                rw [e37]
                have a117i : a117.toInt = (t2_0 x2.toNatClampNeg).toInt - 1 - (t4_0 x2.toNatClampNeg).toInt := by rw [← e37]; exact q_subI (q_subI (y := 1) rfl (by decide) (by omega) (by omega)) rfl (by omega) (by omega)
                replace h36 := h36.2
                generalize F_DR_figures x2 (0 : Int32) ((t2_0 x2.toNatClampNeg : Int32) - (t4_0 x2.toNatClampNeg : Int32) : Int32) (-1 : Int32) (0 : Int32) t0_1 t0_2 t0_3 t0_4 t0_5 t0_6 t0_7 t0_8 (0 : Int32) t0_10 t1_0 t2_0 t5_0 = p802 at *
                unfold Q_DR_figures at h36
                unfold S_DR_written_c107 F_DR_written_c107
                refine ⟨trivial, ?_⟩
                (unfold Q_DR_written; dsimp only; first | omega | exact ⟨by decide, by decide, fun _ => by decide⟩)
              ·
                rw [if_neg g35, if_neg g35]
                try have en : (-a117 : Int32).toInt = -a117.toInt := q_negI rfl (by omega)
                try have hdm := g_down3 (a := -a117) ⟨by omega, by omega⟩
                try have eb : (-(F_DR_down3 (-a117)) : Int32).toInt = -(F_DR_down3 (-a117)).toInt := q_negI rfl (by omega)
                try have ec : (1 + (-(F_DR_down3 (-a117))) : Int32).toInt = 1 + -(F_DR_down3 (-a117)).toInt := q_addI (x := 1) (by decide) eb (by omega) (by omega)
                try have ee : (1 + (-(F_DR_down3 (-a117))) - a117 : Int32).toInt = (1 + -(F_DR_down3 (-a117)).toInt) - a117.toInt := q_subI ec rfl (by omega) (by omega)
                have h38 := T_DR_figures (x2 := x2) (x3 := (0 : Int32)) (x4 := (1 : Int32)) (x5 := (-1 : Int32)) (t0_0 := (0 : Int32)) (t0_1 := t0_1) (t0_2 := t0_2) (t0_3 := t0_3) (t0_4 := t0_4) (t0_5 := t0_5) (t0_6 := t0_6) (t0_7 := t0_7) (t0_8 := t0_8) (t0_9 := (0 : Int32)) (t0_10 := t0_10) (t1_0 := t1_0) (t2_0 := t2_0) (t3_0 := t5_0) (by with_reducible assumption) m2.1 ⟨(by first | omega | decide), (by first | omega | decide), (by first | omega | decide), (by first | omega | decide)⟩ (by first | omega | decide) (by first | omega | decide) (by first | omega | decide)
                with_reducible refine v_owe h38.1 ?_
                obtain ⟨a117, e39⟩ := q_nm ((((t2_0 x2.toNatClampNeg : Int32) - 1 : Int32) - (t4_0 x2.toNatClampNeg : Int32) : Int32) : Int32)
                rw [e39]
                have a117i : a117.toInt = (t2_0 x2.toNatClampNeg).toInt - 1 - (t4_0 x2.toNatClampNeg).toInt := by rw [← e39]; exact q_subI (q_subI (y := 1) rfl (by decide) (by omega) (by omega)) rfl (by omega) (by omega)
                replace h38 := h38.2
                generalize F_DR_figures x2 (0 : Int32) (1 : Int32) (-1 : Int32) (0 : Int32) t0_1 t0_2 t0_3 t0_4 t0_5 t0_6 t0_7 t0_8 (0 : Int32) t0_10 t1_0 t2_0 t5_0 = p863 at *
                unfold Q_DR_figures at h38
                unfold S_DR_written_c107_17 F_DR_written_c107_17
                refine ⟨trivial, ?_⟩
                (unfold Q_DR_written; dsimp only; first | omega | exact ⟨by decide, by decide, fun _ => by decide⟩)
          ·
            rw [if_neg g7, if_neg g7]
            have g7i : x3.toInt ≠ 1 := q_neI g7
            obtain ⟨a117, e40⟩ := q_nm ((((t2_0 x2.toNatClampNeg : Int32) - 1 : Int32) - (t4_0 x2.toNatClampNeg : Int32) : Int32) : Int32)
            rw [e40]
            have a117i : a117.toInt = (t2_0 x2.toNatClampNeg).toInt - 1 - (t4_0 x2.toNatClampNeg).toInt := by rw [← e40]; exact q_subI (q_subI (y := 1) rfl (by decide) (by omega) (by omega)) rfl (by omega) (by omega)
            unfold S_DR_written_J113 F_DR_written_J113
            by_cases g41 : (t4_0 x2.toNatClampNeg : Int32) < (0 : Int32)
            ·
              rw [if_pos g41, if_pos g41]
              have g41i := q_ltI g41
              unfold S_DR_written_J170 F_DR_written_J170
              by_cases g42 : x3 = (0 : Int32)
              ·
                rw [if_pos g42, if_pos g42]
                have g42i : x3.toInt = 0 := q_eqI g42
                have h43 := T_DR_figures (x2 := x2) (x3 := (0 : Int32)) (x4 := (t2_0 x2.toNatClampNeg : Int32)) (x5 := (1 : Int32)) (t0_0 := (0 : Int32)) (t0_1 := t0_1) (t0_2 := t0_2) (t0_3 := t0_3) (t0_4 := t0_4) (t0_5 := t0_5) (t0_6 := t0_6) (t0_7 := t0_7) (t0_8 := t0_8) (t0_9 := (0 : Int32)) (t0_10 := t0_10) (t1_0 := t1_0) (t2_0 := t2_0) (t3_0 := t5_0) (by with_reducible assumption) m2.1 ⟨(by first | omega | decide), (by first | omega | decide), (by first | omega | decide), (by first | omega | decide)⟩ (by first | omega | decide) (by first | omega | decide) (by first | omega | decide)
                with_reducible refine v_owe h43.1 ?_
                replace h43 := h43.2
                generalize F_DR_figures x2 (0 : Int32) (t2_0 x2.toNatClampNeg : Int32) (1 : Int32) (0 : Int32) t0_1 t0_2 t0_3 t0_4 t0_5 t0_6 t0_7 t0_8 (0 : Int32) t0_10 t1_0 t2_0 t5_0 = p496 at *
                unfold Q_DR_figures at h43
                unfold S_DR_written_c179 F_DR_written_c179
                have h44 := T_DR_exponent (x2 := a117) (t0_0 := (p496.1 : Int32)) (t0_1 := (p496.2.1 : Int32)) (t0_2 := (p496.2.2.1 : Int32)) (t0_3 := (p496.2.2.2.1 : Int64)) (t0_4 := (p496.2.2.2.2.1 : Int32)) (t0_5 := (p496.2.2.2.2.2.1 : Int32)) (t0_6 := (p496.2.2.2.2.2.2.1 : Int32)) (t0_7 := (p496.2.2.2.2.2.2.2.1 : Int32)) (t0_8 := (p496.2.2.2.2.2.2.2.2.1 : Int32)) (t0_9 := (p496.2.2.2.2.2.2.2.2.2.1 : Int32)) (t0_10 := (p496.2.2.2.2.2.2.2.2.2.2.1 : Int32)) (t1_0 := (p496.2.2.2.2.2.2.2.2.2.2.2 : (Nat → Int32))) ⟨(by first | omega | decide), (by first | omega | decide)⟩ ⟨(by first | omega | decide), (by first | omega | decide)⟩
                with_reducible refine v_owe h44.1 ?_
                replace h44 := h44.2
                generalize F_DR_exponent a117 (p496.1 : Int32) (p496.2.1 : Int32) (p496.2.2.1 : Int32) (p496.2.2.2.1 : Int64) (p496.2.2.2.2.1 : Int32) (p496.2.2.2.2.2.1 : Int32) (p496.2.2.2.2.2.2.1 : Int32) (p496.2.2.2.2.2.2.2.1 : Int32) (p496.2.2.2.2.2.2.2.2.1 : Int32) (p496.2.2.2.2.2.2.2.2.2.1 : Int32) (p496.2.2.2.2.2.2.2.2.2.2.1 : Int32) (p496.2.2.2.2.2.2.2.2.2.2.2 : (Nat → Int32)) = p556 at *
                unfold Q_DR_exponent at h44
                unfold S_DR_written_c185 F_DR_written_c185
                refine ⟨trivial, ?_⟩
                (unfold Q_DR_written; dsimp only; first | omega | exact ⟨by decide, by decide, fun _ => by decide⟩)
              ·
                rw [if_neg g42, if_neg g42]
                have g42i : x3.toInt ≠ 0 := q_neI g42
                have h45 := R_dz (x2 := x2) (t0_0 := (0 : Int32)) (t0_1 := t0_1) (t0_2 := t0_2) (t0_3 := t0_3) (t0_4 := t0_4) (t0_5 := t0_5) (t0_6 := t0_6) (t0_7 := t0_7) (t0_8 := t0_8) (t0_9 := (0 : Int32)) (t0_10 := t0_10) (t1_0 := t1_0) (by with_reducible assumption)
                with_reducible refine v_owe h45.1 ?_
                by_cases g46 : ((F_DR_isZero x2 (0 : Int32) t0_1 t0_2 t0_3 t0_4 t0_5 t0_6 t0_7 t0_8 (0 : Int32) t0_10 t1_0) : Int32) = (0 : Int32)
                ·
                  rw [if_pos g46, if_pos g46]
                  try have hdn := g_down3 (a := a117) ⟨by omega, by omega⟩
                  try have ed1 : (a117 - F_DR_down3 a117 : Int32).toInt = a117.toInt - (F_DR_down3 a117).toInt := q_subI rfl rfl (by omega) (by omega)
                  try have ed2 : (a117 - F_DR_down3 a117 + 1 : Int32).toInt = (a117.toInt - (F_DR_down3 a117).toInt) + 1 := q_addI (y := 1) ed1 (by decide) (by omega) (by omega)
                  by_cases g47 : (t2_0 x2.toNatClampNeg : Int32) ≤ ((a117 - ((F_DR_down3 a117) : Int32) : Int32) + 1 : Int32)
                  ·
                    rw [if_pos g47, if_pos g47]
                    have g47i := q_leI g47
                    unfold S_DR_written_J268 F_DR_written_J268
                    have h48 := T_DR_figures (x2 := x2) (x3 := (0 : Int32)) (x4 := ((a117 - ((F_DR_down3 a117) : Int32) : Int32) + 1 : Int32)) (x5 := ((a117 - ((F_DR_down3 a117) : Int32) : Int32) + 1 : Int32)) (t0_0 := (0 : Int32)) (t0_1 := t0_1) (t0_2 := t0_2) (t0_3 := t0_3) (t0_4 := t0_4) (t0_5 := t0_5) (t0_6 := t0_6) (t0_7 := t0_7) (t0_8 := t0_8) (t0_9 := (0 : Int32)) (t0_10 := t0_10) (t1_0 := t1_0) (t2_0 := t2_0) (t3_0 := t5_0) (by with_reducible assumption) m2.1 ⟨(by first | omega | decide), (by first | omega | decide), (by first | omega | decide), (by first | omega | decide)⟩ (by first | omega | decide) (by first | omega | decide) (by first | omega | decide)
                    with_reducible refine v_owe h48.1 ?_
                    replace h48 := h48.2
                    generalize F_DR_figures x2 (0 : Int32) ((a117 - ((F_DR_down3 a117) : Int32) : Int32) + 1 : Int32) ((a117 - ((F_DR_down3 a117) : Int32) : Int32) + 1 : Int32) (0 : Int32) t0_1 t0_2 t0_3 t0_4 t0_5 t0_6 t0_7 t0_8 (0 : Int32) t0_10 t1_0 t2_0 t5_0 = p224 at *
                    unfold Q_DR_figures at h48
                    unfold S_DR_written_c275 F_DR_written_c275
                    by_cases g49 : ((F_DR_down3 a117) : Int32) = (0 : Int32)
                    ·
                      rw [if_pos g49, if_pos g49]
                      refine ⟨trivial, ?_⟩
                      (unfold Q_DR_written; dsimp only; first | omega | exact ⟨by decide, by decide, fun _ => by decide⟩)
                    ·
                      rw [if_neg g49, if_neg g49]
                      have h50 := T_DR_exponent (x2 := ((F_DR_down3 a117) : Int32)) (t0_0 := (p224.1 : Int32)) (t0_1 := (p224.2.1 : Int32)) (t0_2 := (p224.2.2.1 : Int32)) (t0_3 := (p224.2.2.2.1 : Int64)) (t0_4 := (p224.2.2.2.2.1 : Int32)) (t0_5 := (p224.2.2.2.2.2.1 : Int32)) (t0_6 := (p224.2.2.2.2.2.2.1 : Int32)) (t0_7 := (p224.2.2.2.2.2.2.2.1 : Int32)) (t0_8 := (p224.2.2.2.2.2.2.2.2.1 : Int32)) (t0_9 := (p224.2.2.2.2.2.2.2.2.2.1 : Int32)) (t0_10 := (p224.2.2.2.2.2.2.2.2.2.2.1 : Int32)) (t1_0 := (p224.2.2.2.2.2.2.2.2.2.2.2 : (Nat → Int32))) ⟨(by first | omega | decide), (by first | omega | decide)⟩ ⟨(by first | omega | decide), (by first | omega | decide)⟩
                      with_reducible refine v_owe h50.1 ?_
                      replace h50 := h50.2
                      generalize F_DR_exponent ((F_DR_down3 a117) : Int32) (p224.1 : Int32) (p224.2.1 : Int32) (p224.2.2.1 : Int32) (p224.2.2.2.1 : Int64) (p224.2.2.2.2.1 : Int32) (p224.2.2.2.2.2.1 : Int32) (p224.2.2.2.2.2.2.1 : Int32) (p224.2.2.2.2.2.2.2.1 : Int32) (p224.2.2.2.2.2.2.2.2.1 : Int32) (p224.2.2.2.2.2.2.2.2.2.1 : Int32) (p224.2.2.2.2.2.2.2.2.2.2.1 : Int32) (p224.2.2.2.2.2.2.2.2.2.2.2 : (Nat → Int32)) = p287 at *
                      unfold Q_DR_exponent at h50
                      unfold S_DR_written_c286 F_DR_written_c286
                      refine ⟨trivial, ?_⟩
                      (unfold Q_DR_written; dsimp only; first | omega | exact ⟨by decide, by decide, fun _ => by decide⟩)
                  ·
                    rw [if_neg g47, if_neg g47]
                    have g47i := q_nleI g47
                    unfold S_DR_written_J268 F_DR_written_J268
                    have h51 := T_DR_figures (x2 := x2) (x3 := (0 : Int32)) (x4 := (t2_0 x2.toNatClampNeg : Int32)) (x5 := ((a117 - ((F_DR_down3 a117) : Int32) : Int32) + 1 : Int32)) (t0_0 := (0 : Int32)) (t0_1 := t0_1) (t0_2 := t0_2) (t0_3 := t0_3) (t0_4 := t0_4) (t0_5 := t0_5) (t0_6 := t0_6) (t0_7 := t0_7) (t0_8 := t0_8) (t0_9 := (0 : Int32)) (t0_10 := t0_10) (t1_0 := t1_0) (t2_0 := t2_0) (t3_0 := t5_0) (by with_reducible assumption) m2.1 ⟨(by first | omega | decide), (by first | omega | decide), (by first | omega | decide), (by first | omega | decide)⟩ (by first | omega | decide) (by first | omega | decide) (by first | omega | decide)
                    with_reducible refine v_owe h51.1 ?_
                    replace h51 := h51.2
                    generalize F_DR_figures x2 (0 : Int32) (t2_0 x2.toNatClampNeg : Int32) ((a117 - ((F_DR_down3 a117) : Int32) : Int32) + 1 : Int32) (0 : Int32) t0_1 t0_2 t0_3 t0_4 t0_5 t0_6 t0_7 t0_8 (0 : Int32) t0_10 t1_0 t2_0 t5_0 = p224 at *
                    unfold Q_DR_figures at h51
                    unfold S_DR_written_c275 F_DR_written_c275
                    by_cases g52 : ((F_DR_down3 a117) : Int32) = (0 : Int32)
                    ·
                      rw [if_pos g52, if_pos g52]
                      refine ⟨trivial, ?_⟩
                      (unfold Q_DR_written; dsimp only; first | omega | exact ⟨by decide, by decide, fun _ => by decide⟩)
                    ·
                      rw [if_neg g52, if_neg g52]
                      have h53 := T_DR_exponent (x2 := ((F_DR_down3 a117) : Int32)) (t0_0 := (p224.1 : Int32)) (t0_1 := (p224.2.1 : Int32)) (t0_2 := (p224.2.2.1 : Int32)) (t0_3 := (p224.2.2.2.1 : Int64)) (t0_4 := (p224.2.2.2.2.1 : Int32)) (t0_5 := (p224.2.2.2.2.2.1 : Int32)) (t0_6 := (p224.2.2.2.2.2.2.1 : Int32)) (t0_7 := (p224.2.2.2.2.2.2.2.1 : Int32)) (t0_8 := (p224.2.2.2.2.2.2.2.2.1 : Int32)) (t0_9 := (p224.2.2.2.2.2.2.2.2.2.1 : Int32)) (t0_10 := (p224.2.2.2.2.2.2.2.2.2.2.1 : Int32)) (t1_0 := (p224.2.2.2.2.2.2.2.2.2.2.2 : (Nat → Int32))) ⟨(by first | omega | decide), (by first | omega | decide)⟩ ⟨(by first | omega | decide), (by first | omega | decide)⟩
                      with_reducible refine v_owe h53.1 ?_
                      replace h53 := h53.2
                      generalize F_DR_exponent ((F_DR_down3 a117) : Int32) (p224.1 : Int32) (p224.2.1 : Int32) (p224.2.2.1 : Int32) (p224.2.2.2.1 : Int64) (p224.2.2.2.2.1 : Int32) (p224.2.2.2.2.2.1 : Int32) (p224.2.2.2.2.2.2.1 : Int32) (p224.2.2.2.2.2.2.2.1 : Int32) (p224.2.2.2.2.2.2.2.2.1 : Int32) (p224.2.2.2.2.2.2.2.2.2.1 : Int32) (p224.2.2.2.2.2.2.2.2.2.2.1 : Int32) (p224.2.2.2.2.2.2.2.2.2.2.2 : (Nat → Int32)) = p287 at *
                      unfold Q_DR_exponent at h53
                      unfold S_DR_written_c286 F_DR_written_c286
                      refine ⟨trivial, ?_⟩
                      (unfold Q_DR_written; dsimp only; first | omega | exact ⟨by decide, by decide, fun _ => by decide⟩)
                ·
                  rw [if_neg g46, if_neg g46]
                  try have en : (-a117 : Int32).toInt = -a117.toInt := q_negI rfl (by omega)
                  try have hdm := g_down3 (a := -a117) ⟨by omega, by omega⟩
                  try have eb : (-(F_DR_down3 (-a117)) : Int32).toInt = -(F_DR_down3 (-a117)).toInt := q_negI rfl (by omega)
                  try have ec : (1 + (-(F_DR_down3 (-a117))) : Int32).toInt = 1 + -(F_DR_down3 (-a117)).toInt := q_addI (x := 1) (by decide) eb (by omega) (by omega)
                  try have ee : (1 + (-(F_DR_down3 (-a117))) - a117 : Int32).toInt = (1 + -(F_DR_down3 (-a117)).toInt) - a117.toInt := q_subI ec rfl (by omega) (by omega)
                  have h54 := T_DR_figures (x2 := x2) (x3 := (0 : Int32)) (x4 := ((1 + (-((F_DR_down3 (-a117 : Int32)) : Int32) : Int32) : Int32) - a117 : Int32)) (x5 := (1 : Int32)) (t0_0 := (0 : Int32)) (t0_1 := t0_1) (t0_2 := t0_2) (t0_3 := t0_3) (t0_4 := t0_4) (t0_5 := t0_5) (t0_6 := t0_6) (t0_7 := t0_7) (t0_8 := t0_8) (t0_9 := (0 : Int32)) (t0_10 := t0_10) (t1_0 := t1_0) (t2_0 := t2_0) (t3_0 := t5_0) (by with_reducible assumption) m2.1 ⟨(by first | omega | decide), (by first | omega | decide), (by first | omega | decide), (by first | omega | decide)⟩ (by first | omega | decide) (by first | omega | decide) (by first | omega | decide)
                  with_reducible refine v_owe h54.1 ?_
                  replace h54 := h54.2
                  generalize F_DR_figures x2 (0 : Int32) ((1 + (-((F_DR_down3 (-a117 : Int32)) : Int32) : Int32) : Int32) - a117 : Int32) (1 : Int32) (0 : Int32) t0_1 t0_2 t0_3 t0_4 t0_5 t0_6 t0_7 t0_8 (0 : Int32) t0_10 t1_0 t2_0 t5_0 = p372 at *
                  unfold Q_DR_figures at h54
                  unfold S_DR_written_c219 F_DR_written_c219
                  by_cases g55 : (-((F_DR_down3 (-a117 : Int32)) : Int32) : Int32) = (0 : Int32)
                  ·
                    rw [if_pos g55, if_pos g55]
                    refine ⟨trivial, ?_⟩
                    (unfold Q_DR_written; dsimp only; first | omega | exact ⟨by decide, by decide, fun _ => by decide⟩)
                  ·
                    rw [if_neg g55, if_neg g55]
                    have h56 := T_DR_exponent (x2 := (-((F_DR_down3 (-a117 : Int32)) : Int32) : Int32)) (t0_0 := (p372.1 : Int32)) (t0_1 := (p372.2.1 : Int32)) (t0_2 := (p372.2.2.1 : Int32)) (t0_3 := (p372.2.2.2.1 : Int64)) (t0_4 := (p372.2.2.2.2.1 : Int32)) (t0_5 := (p372.2.2.2.2.2.1 : Int32)) (t0_6 := (p372.2.2.2.2.2.2.1 : Int32)) (t0_7 := (p372.2.2.2.2.2.2.2.1 : Int32)) (t0_8 := (p372.2.2.2.2.2.2.2.2.1 : Int32)) (t0_9 := (p372.2.2.2.2.2.2.2.2.2.1 : Int32)) (t0_10 := (p372.2.2.2.2.2.2.2.2.2.2.1 : Int32)) (t1_0 := (p372.2.2.2.2.2.2.2.2.2.2.2 : (Nat → Int32))) ⟨(by first | omega | decide), (by first | omega | decide)⟩ ⟨(by first | omega | decide), (by first | omega | decide)⟩
                    with_reducible refine v_owe h56.1 ?_
                    replace h56 := h56.2
                    generalize F_DR_exponent (-((F_DR_down3 (-a117 : Int32)) : Int32) : Int32) (p372.1 : Int32) (p372.2.1 : Int32) (p372.2.2.1 : Int32) (p372.2.2.2.1 : Int64) (p372.2.2.2.2.1 : Int32) (p372.2.2.2.2.2.1 : Int32) (p372.2.2.2.2.2.2.1 : Int32) (p372.2.2.2.2.2.2.2.1 : Int32) (p372.2.2.2.2.2.2.2.2.1 : Int32) (p372.2.2.2.2.2.2.2.2.2.1 : Int32) (p372.2.2.2.2.2.2.2.2.2.2.1 : Int32) (p372.2.2.2.2.2.2.2.2.2.2.2 : (Nat → Int32)) = p435 at *
                    unfold Q_DR_exponent at h56
                    unfold S_DR_written_c230 F_DR_written_c230
                    refine ⟨trivial, ?_⟩
                    (unfold Q_DR_written; dsimp only; first | omega | exact ⟨by decide, by decide, fun _ => by decide⟩)
            ·
              rw [if_neg g41, if_neg g41]
              have g41i := q_nltI g41
              rw [if_neg g7, if_neg g7]
              by_cases g57 : a117 < (-6 : Int32)
              ·
                rw [if_pos g57, if_pos g57]
                have g57i : a117.toInt < -6 := q_ltI g57
                unfold S_DR_written_J170 F_DR_written_J170
                by_cases g58 : x3 = (0 : Int32)
                ·
                  rw [if_pos g58, if_pos g58]
                  have g58i : x3.toInt = 0 := q_eqI g58
                  have h59 := T_DR_figures (x2 := x2) (x3 := (0 : Int32)) (x4 := (t2_0 x2.toNatClampNeg : Int32)) (x5 := (1 : Int32)) (t0_0 := (0 : Int32)) (t0_1 := t0_1) (t0_2 := t0_2) (t0_3 := t0_3) (t0_4 := t0_4) (t0_5 := t0_5) (t0_6 := t0_6) (t0_7 := t0_7) (t0_8 := t0_8) (t0_9 := (0 : Int32)) (t0_10 := t0_10) (t1_0 := t1_0) (t2_0 := t2_0) (t3_0 := t5_0) (by with_reducible assumption) m2.1 ⟨(by first | omega | decide), (by first | omega | decide), (by first | omega | decide), (by first | omega | decide)⟩ (by first | omega | decide) (by first | omega | decide) (by first | omega | decide)
                  with_reducible refine v_owe h59.1 ?_
                  replace h59 := h59.2
                  generalize F_DR_figures x2 (0 : Int32) (t2_0 x2.toNatClampNeg : Int32) (1 : Int32) (0 : Int32) t0_1 t0_2 t0_3 t0_4 t0_5 t0_6 t0_7 t0_8 (0 : Int32) t0_10 t1_0 t2_0 t5_0 = p496 at *
                  unfold Q_DR_figures at h59
                  unfold S_DR_written_c179 F_DR_written_c179
                  have h60 := T_DR_exponent (x2 := a117) (t0_0 := (p496.1 : Int32)) (t0_1 := (p496.2.1 : Int32)) (t0_2 := (p496.2.2.1 : Int32)) (t0_3 := (p496.2.2.2.1 : Int64)) (t0_4 := (p496.2.2.2.2.1 : Int32)) (t0_5 := (p496.2.2.2.2.2.1 : Int32)) (t0_6 := (p496.2.2.2.2.2.2.1 : Int32)) (t0_7 := (p496.2.2.2.2.2.2.2.1 : Int32)) (t0_8 := (p496.2.2.2.2.2.2.2.2.1 : Int32)) (t0_9 := (p496.2.2.2.2.2.2.2.2.2.1 : Int32)) (t0_10 := (p496.2.2.2.2.2.2.2.2.2.2.1 : Int32)) (t1_0 := (p496.2.2.2.2.2.2.2.2.2.2.2 : (Nat → Int32))) ⟨(by first | omega | decide), (by first | omega | decide)⟩ ⟨(by first | omega | decide), (by first | omega | decide)⟩
                  with_reducible refine v_owe h60.1 ?_
                  replace h60 := h60.2
                  generalize F_DR_exponent a117 (p496.1 : Int32) (p496.2.1 : Int32) (p496.2.2.1 : Int32) (p496.2.2.2.1 : Int64) (p496.2.2.2.2.1 : Int32) (p496.2.2.2.2.2.1 : Int32) (p496.2.2.2.2.2.2.1 : Int32) (p496.2.2.2.2.2.2.2.1 : Int32) (p496.2.2.2.2.2.2.2.2.1 : Int32) (p496.2.2.2.2.2.2.2.2.2.1 : Int32) (p496.2.2.2.2.2.2.2.2.2.2.1 : Int32) (p496.2.2.2.2.2.2.2.2.2.2.2 : (Nat → Int32)) = p556 at *
                  unfold Q_DR_exponent at h60
                  unfold S_DR_written_c185 F_DR_written_c185
                  refine ⟨trivial, ?_⟩
                  (unfold Q_DR_written; dsimp only; first | omega | exact ⟨by decide, by decide, fun _ => by decide⟩)
                ·
                  rw [if_neg g58, if_neg g58]
                  have g58i : x3.toInt ≠ 0 := q_neI g58
                  have h61 := R_dz (x2 := x2) (t0_0 := (0 : Int32)) (t0_1 := t0_1) (t0_2 := t0_2) (t0_3 := t0_3) (t0_4 := t0_4) (t0_5 := t0_5) (t0_6 := t0_6) (t0_7 := t0_7) (t0_8 := t0_8) (t0_9 := (0 : Int32)) (t0_10 := t0_10) (t1_0 := t1_0) (by with_reducible assumption)
                  with_reducible refine v_owe h61.1 ?_
                  by_cases g62 : ((F_DR_isZero x2 (0 : Int32) t0_1 t0_2 t0_3 t0_4 t0_5 t0_6 t0_7 t0_8 (0 : Int32) t0_10 t1_0) : Int32) = (0 : Int32)
                  ·
                    rw [if_pos g62, if_pos g62]
                    try have hdn := g_down3 (a := a117) ⟨by omega, by omega⟩
                    try have ed1 : (a117 - F_DR_down3 a117 : Int32).toInt = a117.toInt - (F_DR_down3 a117).toInt := q_subI rfl rfl (by omega) (by omega)
                    try have ed2 : (a117 - F_DR_down3 a117 + 1 : Int32).toInt = (a117.toInt - (F_DR_down3 a117).toInt) + 1 := q_addI (y := 1) ed1 (by decide) (by omega) (by omega)
                    by_cases g63 : (t2_0 x2.toNatClampNeg : Int32) ≤ ((a117 - ((F_DR_down3 a117) : Int32) : Int32) + 1 : Int32)
                    ·
                      rw [if_pos g63, if_pos g63]
                      have g63i := q_leI g63
                      unfold S_DR_written_J268 F_DR_written_J268
                      have h64 := T_DR_figures (x2 := x2) (x3 := (0 : Int32)) (x4 := ((a117 - ((F_DR_down3 a117) : Int32) : Int32) + 1 : Int32)) (x5 := ((a117 - ((F_DR_down3 a117) : Int32) : Int32) + 1 : Int32)) (t0_0 := (0 : Int32)) (t0_1 := t0_1) (t0_2 := t0_2) (t0_3 := t0_3) (t0_4 := t0_4) (t0_5 := t0_5) (t0_6 := t0_6) (t0_7 := t0_7) (t0_8 := t0_8) (t0_9 := (0 : Int32)) (t0_10 := t0_10) (t1_0 := t1_0) (t2_0 := t2_0) (t3_0 := t5_0) (by with_reducible assumption) m2.1 ⟨(by first | omega | decide), (by first | omega | decide), (by first | omega | decide), (by first | omega | decide)⟩ (by first | omega | decide) (by first | omega | decide) (by first | omega | decide)
                      with_reducible refine v_owe h64.1 ?_
                      replace h64 := h64.2
                      generalize F_DR_figures x2 (0 : Int32) ((a117 - ((F_DR_down3 a117) : Int32) : Int32) + 1 : Int32) ((a117 - ((F_DR_down3 a117) : Int32) : Int32) + 1 : Int32) (0 : Int32) t0_1 t0_2 t0_3 t0_4 t0_5 t0_6 t0_7 t0_8 (0 : Int32) t0_10 t1_0 t2_0 t5_0 = p224 at *
                      unfold Q_DR_figures at h64
                      unfold S_DR_written_c275 F_DR_written_c275
                      by_cases g65 : ((F_DR_down3 a117) : Int32) = (0 : Int32)
                      ·
                        rw [if_pos g65, if_pos g65]
                        refine ⟨trivial, ?_⟩
                        (unfold Q_DR_written; dsimp only; first | omega | exact ⟨by decide, by decide, fun _ => by decide⟩)
                      ·
                        rw [if_neg g65, if_neg g65]
                        have h66 := T_DR_exponent (x2 := ((F_DR_down3 a117) : Int32)) (t0_0 := (p224.1 : Int32)) (t0_1 := (p224.2.1 : Int32)) (t0_2 := (p224.2.2.1 : Int32)) (t0_3 := (p224.2.2.2.1 : Int64)) (t0_4 := (p224.2.2.2.2.1 : Int32)) (t0_5 := (p224.2.2.2.2.2.1 : Int32)) (t0_6 := (p224.2.2.2.2.2.2.1 : Int32)) (t0_7 := (p224.2.2.2.2.2.2.2.1 : Int32)) (t0_8 := (p224.2.2.2.2.2.2.2.2.1 : Int32)) (t0_9 := (p224.2.2.2.2.2.2.2.2.2.1 : Int32)) (t0_10 := (p224.2.2.2.2.2.2.2.2.2.2.1 : Int32)) (t1_0 := (p224.2.2.2.2.2.2.2.2.2.2.2 : (Nat → Int32))) ⟨(by first | omega | decide), (by first | omega | decide)⟩ ⟨(by first | omega | decide), (by first | omega | decide)⟩
                        with_reducible refine v_owe h66.1 ?_
                        replace h66 := h66.2
                        generalize F_DR_exponent ((F_DR_down3 a117) : Int32) (p224.1 : Int32) (p224.2.1 : Int32) (p224.2.2.1 : Int32) (p224.2.2.2.1 : Int64) (p224.2.2.2.2.1 : Int32) (p224.2.2.2.2.2.1 : Int32) (p224.2.2.2.2.2.2.1 : Int32) (p224.2.2.2.2.2.2.2.1 : Int32) (p224.2.2.2.2.2.2.2.2.1 : Int32) (p224.2.2.2.2.2.2.2.2.2.1 : Int32) (p224.2.2.2.2.2.2.2.2.2.2.1 : Int32) (p224.2.2.2.2.2.2.2.2.2.2.2 : (Nat → Int32)) = p287 at *
                        unfold Q_DR_exponent at h66
                        unfold S_DR_written_c286 F_DR_written_c286
                        refine ⟨trivial, ?_⟩
                        (unfold Q_DR_written; dsimp only; first | omega | exact ⟨by decide, by decide, fun _ => by decide⟩)
                    ·
                      rw [if_neg g63, if_neg g63]
                      have g63i := q_nleI g63
                      unfold S_DR_written_J268 F_DR_written_J268
                      have h67 := T_DR_figures (x2 := x2) (x3 := (0 : Int32)) (x4 := (t2_0 x2.toNatClampNeg : Int32)) (x5 := ((a117 - ((F_DR_down3 a117) : Int32) : Int32) + 1 : Int32)) (t0_0 := (0 : Int32)) (t0_1 := t0_1) (t0_2 := t0_2) (t0_3 := t0_3) (t0_4 := t0_4) (t0_5 := t0_5) (t0_6 := t0_6) (t0_7 := t0_7) (t0_8 := t0_8) (t0_9 := (0 : Int32)) (t0_10 := t0_10) (t1_0 := t1_0) (t2_0 := t2_0) (t3_0 := t5_0) (by with_reducible assumption) m2.1 ⟨(by first | omega | decide), (by first | omega | decide), (by first | omega | decide), (by first | omega | decide)⟩ (by first | omega | decide) (by first | omega | decide) (by first | omega | decide)
                      with_reducible refine v_owe h67.1 ?_
                      replace h67 := h67.2
                      generalize F_DR_figures x2 (0 : Int32) (t2_0 x2.toNatClampNeg : Int32) ((a117 - ((F_DR_down3 a117) : Int32) : Int32) + 1 : Int32) (0 : Int32) t0_1 t0_2 t0_3 t0_4 t0_5 t0_6 t0_7 t0_8 (0 : Int32) t0_10 t1_0 t2_0 t5_0 = p224 at *
                      unfold Q_DR_figures at h67
                      unfold S_DR_written_c275 F_DR_written_c275
                      by_cases g68 : ((F_DR_down3 a117) : Int32) = (0 : Int32)
                      ·
                        rw [if_pos g68, if_pos g68]
                        refine ⟨trivial, ?_⟩
                        (unfold Q_DR_written; dsimp only; first | omega | exact ⟨by decide, by decide, fun _ => by decide⟩)
                      ·
                        rw [if_neg g68, if_neg g68]
                        have h69 := T_DR_exponent (x2 := ((F_DR_down3 a117) : Int32)) (t0_0 := (p224.1 : Int32)) (t0_1 := (p224.2.1 : Int32)) (t0_2 := (p224.2.2.1 : Int32)) (t0_3 := (p224.2.2.2.1 : Int64)) (t0_4 := (p224.2.2.2.2.1 : Int32)) (t0_5 := (p224.2.2.2.2.2.1 : Int32)) (t0_6 := (p224.2.2.2.2.2.2.1 : Int32)) (t0_7 := (p224.2.2.2.2.2.2.2.1 : Int32)) (t0_8 := (p224.2.2.2.2.2.2.2.2.1 : Int32)) (t0_9 := (p224.2.2.2.2.2.2.2.2.2.1 : Int32)) (t0_10 := (p224.2.2.2.2.2.2.2.2.2.2.1 : Int32)) (t1_0 := (p224.2.2.2.2.2.2.2.2.2.2.2 : (Nat → Int32))) ⟨(by first | omega | decide), (by first | omega | decide)⟩ ⟨(by first | omega | decide), (by first | omega | decide)⟩
                        with_reducible refine v_owe h69.1 ?_
                        replace h69 := h69.2
                        generalize F_DR_exponent ((F_DR_down3 a117) : Int32) (p224.1 : Int32) (p224.2.1 : Int32) (p224.2.2.1 : Int32) (p224.2.2.2.1 : Int64) (p224.2.2.2.2.1 : Int32) (p224.2.2.2.2.2.1 : Int32) (p224.2.2.2.2.2.2.1 : Int32) (p224.2.2.2.2.2.2.2.1 : Int32) (p224.2.2.2.2.2.2.2.2.1 : Int32) (p224.2.2.2.2.2.2.2.2.2.1 : Int32) (p224.2.2.2.2.2.2.2.2.2.2.1 : Int32) (p224.2.2.2.2.2.2.2.2.2.2.2 : (Nat → Int32)) = p287 at *
                        unfold Q_DR_exponent at h69
                        unfold S_DR_written_c286 F_DR_written_c286
                        refine ⟨trivial, ?_⟩
                        (unfold Q_DR_written; dsimp only; first | omega | exact ⟨by decide, by decide, fun _ => by decide⟩)
                  ·
                    rw [if_neg g62, if_neg g62]
                    try have en : (-a117 : Int32).toInt = -a117.toInt := q_negI rfl (by omega)
                    try have hdm := g_down3 (a := -a117) ⟨by omega, by omega⟩
                    try have eb : (-(F_DR_down3 (-a117)) : Int32).toInt = -(F_DR_down3 (-a117)).toInt := q_negI rfl (by omega)
                    try have ec : (1 + (-(F_DR_down3 (-a117))) : Int32).toInt = 1 + -(F_DR_down3 (-a117)).toInt := q_addI (x := 1) (by decide) eb (by omega) (by omega)
                    try have ee : (1 + (-(F_DR_down3 (-a117))) - a117 : Int32).toInt = (1 + -(F_DR_down3 (-a117)).toInt) - a117.toInt := q_subI ec rfl (by omega) (by omega)
                    have h70 := T_DR_figures (x2 := x2) (x3 := (0 : Int32)) (x4 := ((1 + (-((F_DR_down3 (-a117 : Int32)) : Int32) : Int32) : Int32) - a117 : Int32)) (x5 := (1 : Int32)) (t0_0 := (0 : Int32)) (t0_1 := t0_1) (t0_2 := t0_2) (t0_3 := t0_3) (t0_4 := t0_4) (t0_5 := t0_5) (t0_6 := t0_6) (t0_7 := t0_7) (t0_8 := t0_8) (t0_9 := (0 : Int32)) (t0_10 := t0_10) (t1_0 := t1_0) (t2_0 := t2_0) (t3_0 := t5_0) (by with_reducible assumption) m2.1 ⟨(by first | omega | decide), (by first | omega | decide), (by first | omega | decide), (by first | omega | decide)⟩ (by first | omega | decide) (by first | omega | decide) (by first | omega | decide)
                    with_reducible refine v_owe h70.1 ?_
                    replace h70 := h70.2
                    generalize F_DR_figures x2 (0 : Int32) ((1 + (-((F_DR_down3 (-a117 : Int32)) : Int32) : Int32) : Int32) - a117 : Int32) (1 : Int32) (0 : Int32) t0_1 t0_2 t0_3 t0_4 t0_5 t0_6 t0_7 t0_8 (0 : Int32) t0_10 t1_0 t2_0 t5_0 = p372 at *
                    unfold Q_DR_figures at h70
                    unfold S_DR_written_c219 F_DR_written_c219
                    by_cases g71 : (-((F_DR_down3 (-a117 : Int32)) : Int32) : Int32) = (0 : Int32)
                    ·
                      rw [if_pos g71, if_pos g71]
                      refine ⟨trivial, ?_⟩
                      (unfold Q_DR_written; dsimp only; first | omega | exact ⟨by decide, by decide, fun _ => by decide⟩)
                    ·
                      rw [if_neg g71, if_neg g71]
                      have h72 := T_DR_exponent (x2 := (-((F_DR_down3 (-a117 : Int32)) : Int32) : Int32)) (t0_0 := (p372.1 : Int32)) (t0_1 := (p372.2.1 : Int32)) (t0_2 := (p372.2.2.1 : Int32)) (t0_3 := (p372.2.2.2.1 : Int64)) (t0_4 := (p372.2.2.2.2.1 : Int32)) (t0_5 := (p372.2.2.2.2.2.1 : Int32)) (t0_6 := (p372.2.2.2.2.2.2.1 : Int32)) (t0_7 := (p372.2.2.2.2.2.2.2.1 : Int32)) (t0_8 := (p372.2.2.2.2.2.2.2.2.1 : Int32)) (t0_9 := (p372.2.2.2.2.2.2.2.2.2.1 : Int32)) (t0_10 := (p372.2.2.2.2.2.2.2.2.2.2.1 : Int32)) (t1_0 := (p372.2.2.2.2.2.2.2.2.2.2.2 : (Nat → Int32))) ⟨(by first | omega | decide), (by first | omega | decide)⟩ ⟨(by first | omega | decide), (by first | omega | decide)⟩
                      with_reducible refine v_owe h72.1 ?_
                      replace h72 := h72.2
                      generalize F_DR_exponent (-((F_DR_down3 (-a117 : Int32)) : Int32) : Int32) (p372.1 : Int32) (p372.2.1 : Int32) (p372.2.2.1 : Int32) (p372.2.2.2.1 : Int64) (p372.2.2.2.2.1 : Int32) (p372.2.2.2.2.2.1 : Int32) (p372.2.2.2.2.2.2.1 : Int32) (p372.2.2.2.2.2.2.2.1 : Int32) (p372.2.2.2.2.2.2.2.2.1 : Int32) (p372.2.2.2.2.2.2.2.2.2.1 : Int32) (p372.2.2.2.2.2.2.2.2.2.2.1 : Int32) (p372.2.2.2.2.2.2.2.2.2.2.2 : (Nat → Int32)) = p435 at *
                      unfold Q_DR_exponent at h72
                      unfold S_DR_written_c230 F_DR_written_c230
                      refine ⟨trivial, ?_⟩
                      (unfold Q_DR_written; dsimp only; first | omega | exact ⟨by decide, by decide, fun _ => by decide⟩)
              ·
                rw [if_neg g57, if_neg g57]
                have g57i : -6 ≤ a117.toInt := q_nltI g57
                unfold S_DR_written_J130 F_DR_written_J130
                by_cases g73 : (1 : Int32) ≤ ((t2_0 x2.toNatClampNeg : Int32) - (t4_0 x2.toNatClampNeg : Int32) : Int32)
                ·
                  rw [if_pos g73, if_pos g73]
                  have emc : ((t2_0 x2.toNatClampNeg) - (t4_0 x2.toNatClampNeg) : Int32).toInt = (t2_0 x2.toNatClampNeg).toInt - (t4_0 x2.toNatClampNeg).toInt := q_subI rfl rfl (by omega) (by omega)
                  have g73i := q_leI g73
                  unfold S_DR_written_J150 F_DR_written_J150
                  by_cases g74 : (t4_0 x2.toNatClampNeg : Int32) = (0 : Int32)
                  ·
                    rw [if_pos g74, if_pos g74]
                    have g74i := q_eqI g74
                    have h75 := T_DR_figures (x2 := x2) (x3 := (0 : Int32)) (x4 := (t2_0 x2.toNatClampNeg : Int32)) (x5 := (-1 : Int32)) (t0_0 := (0 : Int32)) (t0_1 := t0_1) (t0_2 := t0_2) (t0_3 := t0_3) (t0_4 := t0_4) (t0_5 := t0_5) (t0_6 := t0_6) (t0_7 := t0_7) (t0_8 := t0_8) (t0_9 := (0 : Int32)) (t0_10 := t0_10) (t1_0 := t1_0) (t2_0 := t2_0) (t3_0 := t5_0) (by with_reducible assumption) m2.1 ⟨(by first | omega | decide), (by first | omega | decide), (by first | omega | decide), (by first | omega | decide)⟩ (by first | omega | decide) (by first | omega | decide) (by first | omega | decide)
                    with_reducible refine v_owe h75.1 ?_
                    replace h75 := h75.2
                    generalize F_DR_figures x2 (0 : Int32) (t2_0 x2.toNatClampNeg : Int32) (-1 : Int32) (0 : Int32) t0_1 t0_2 t0_3 t0_4 t0_5 t0_6 t0_7 t0_8 (0 : Int32) t0_10 t1_0 t2_0 t5_0 = p711 at *
                    unfold Q_DR_figures at h75
                    unfold S_DR_written_c164_15 F_DR_written_c164_15
                    refine ⟨trivial, ?_⟩
                    (unfold Q_DR_written; dsimp only; first | omega | exact ⟨by decide, by decide, fun _ => by decide⟩)
                  ·
                    rw [if_neg g74, if_neg g74]
                    have g74i := q_neI g74
                    have h76 := T_DR_figures (x2 := x2) (x3 := (0 : Int32)) (x4 := (t2_0 x2.toNatClampNeg : Int32)) (x5 := ((t2_0 x2.toNatClampNeg : Int32) - (t4_0 x2.toNatClampNeg : Int32) : Int32)) (t0_0 := (0 : Int32)) (t0_1 := t0_1) (t0_2 := t0_2) (t0_3 := t0_3) (t0_4 := t0_4) (t0_5 := t0_5) (t0_6 := t0_6) (t0_7 := t0_7) (t0_8 := t0_8) (t0_9 := (0 : Int32)) (t0_10 := t0_10) (t1_0 := t1_0) (t2_0 := t2_0) (t3_0 := t5_0) (by with_reducible assumption) m2.1 ⟨(by first | omega | decide), (by first | omega | decide), (by first | omega | decide), (by first | omega | decide)⟩ (by first | omega | decide) (by first | omega | decide) (by first | omega | decide)
                    with_reducible refine v_owe h76.1 ?_
                    replace h76 := h76.2
                    generalize F_DR_figures x2 (0 : Int32) (t2_0 x2.toNatClampNeg : Int32) ((t2_0 x2.toNatClampNeg : Int32) - (t4_0 x2.toNatClampNeg : Int32) : Int32) (0 : Int32) t0_1 t0_2 t0_3 t0_4 t0_5 t0_6 t0_7 t0_8 (0 : Int32) t0_10 t1_0 t2_0 t5_0 = p650 at *
                    unfold Q_DR_figures at h76
                    unfold S_DR_written_c164 F_DR_written_c164
                    refine ⟨trivial, ?_⟩
                    (unfold Q_DR_written; dsimp only; first | omega | exact ⟨by decide, by decide, fun _ => by decide⟩)
                ·
                  rw [if_neg g73, if_neg g73]
                  have emc : ((t2_0 x2.toNatClampNeg) - (t4_0 x2.toNatClampNeg) : Int32).toInt = (t2_0 x2.toNatClampNeg).toInt - (t4_0 x2.toNatClampNeg).toInt := q_subI rfl rfl (by omega) (by omega)
                  have g73i := q_nleI g73
                  obtain ⟨lx592, e77⟩ := q_nm ((((t2_0 x2.toNatClampNeg : Int32) - (t4_0 x2.toNatClampNeg : Int32) : Int32) - 1 : Int32) : Int32)
                  rw [e77]
                  have l592 : lx592.toInt = (t2_0 x2.toNatClampNeg).toInt - (t4_0 x2.toNatClampNeg).toInt - 1 := by rw [← e77]; exact q_subI (y := 1) emc rfl (by omega) (by omega)
                  unfold S_DR_written_J150 F_DR_written_J150
                  by_cases g78 : (t4_0 x2.toNatClampNeg : Int32) = (0 : Int32)
                  ·
                    rw [if_pos g78, if_pos g78]
                    have g78i := q_eqI g78
                    have h79 := T_DR_figures (x2 := x2) (x3 := lx592) (x4 := (t2_0 x2.toNatClampNeg : Int32)) (x5 := (-1 : Int32)) (t0_0 := (0 : Int32)) (t0_1 := t0_1) (t0_2 := t0_2) (t0_3 := t0_3) (t0_4 := t0_4) (t0_5 := t0_5) (t0_6 := t0_6) (t0_7 := t0_7) (t0_8 := t0_8) (t0_9 := (0 : Int32)) (t0_10 := t0_10) (t1_0 := t1_0) (t2_0 := t2_0) (t3_0 := t5_0) (by with_reducible assumption) m2.1 ⟨(by first | omega | decide), (by first | omega | decide), (by first | omega | decide), (by first | omega | decide)⟩ (by first | omega | decide) (by first | omega | decide) (by first | omega | decide)
                    with_reducible refine v_owe h79.1 ?_
                    replace h79 := h79.2
                    generalize F_DR_figures x2 lx592 (t2_0 x2.toNatClampNeg : Int32) (-1 : Int32) (0 : Int32) t0_1 t0_2 t0_3 t0_4 t0_5 t0_6 t0_7 t0_8 (0 : Int32) t0_10 t1_0 t2_0 t5_0 = p711 at *
                    unfold Q_DR_figures at h79
                    unfold S_DR_written_c164_15 F_DR_written_c164_15
                    refine ⟨trivial, ?_⟩
                    (unfold Q_DR_written; dsimp only; first | omega | exact ⟨by decide, by decide, fun _ => by decide⟩)
                  ·
                    rw [if_neg g78, if_neg g78]
                    have g78i := q_neI g78
                    have h80 := T_DR_figures (x2 := x2) (x3 := lx592) (x4 := (t2_0 x2.toNatClampNeg : Int32)) (x5 := ((t2_0 x2.toNatClampNeg : Int32) - (t4_0 x2.toNatClampNeg : Int32) : Int32)) (t0_0 := (0 : Int32)) (t0_1 := t0_1) (t0_2 := t0_2) (t0_3 := t0_3) (t0_4 := t0_4) (t0_5 := t0_5) (t0_6 := t0_6) (t0_7 := t0_7) (t0_8 := t0_8) (t0_9 := (0 : Int32)) (t0_10 := t0_10) (t1_0 := t1_0) (t2_0 := t2_0) (t3_0 := t5_0) (by with_reducible assumption) m2.1 ⟨(by first | omega | decide), (by first | omega | decide), (by first | omega | decide), (by first | omega | decide)⟩ (by first | omega | decide) (by first | omega | decide) (by first | omega | decide)
                    with_reducible refine v_owe h80.1 ?_
                    replace h80 := h80.2
                    generalize F_DR_figures x2 lx592 (t2_0 x2.toNatClampNeg : Int32) ((t2_0 x2.toNatClampNeg : Int32) - (t4_0 x2.toNatClampNeg : Int32) : Int32) (0 : Int32) t0_1 t0_2 t0_3 t0_4 t0_5 t0_6 t0_7 t0_8 (0 : Int32) t0_10 t1_0 t2_0 t5_0 = p650 at *
                    unfold Q_DR_figures at h80
                    unfold S_DR_written_c164 F_DR_written_c164
                    refine ⟨trivial, ?_⟩
                    (unfold Q_DR_written; dsimp only; first | omega | exact ⟨by decide, by decide, fun _ => by decide⟩)
        ·
          rw [if_neg g6, if_neg g6]
          have m2 := gR.at hR (by with_reducible assumption : 0 ≤ x2.toInt ∧ x2.toInt ≤ 9)
          have h81 := R_print (x2 := (45 : Int32)) (t0_0 := (0 : Int32)) (t0_1 := t0_1) (t0_2 := t0_2) (t0_3 := t0_3) (t0_4 := t0_4) (t0_5 := t0_5) (t0_6 := t0_6) (t0_7 := t0_7) (t0_8 := t0_8) (t0_9 := (0 : Int32)) (t0_10 := t0_10) (t1_0 := t5_0) ⟨by first | omega | decide, by first | omega | decide⟩
          with_reducible refine v_owe h81.1 ?_
          replace h81 := h81.2
          generalize F_DR_print (45 : Int32) (0 : Int32) t0_1 t0_2 t0_3 t0_4 t0_5 t0_6 t0_7 t0_8 (0 : Int32) t0_10 t5_0 = p927 at *
          unfold S_DR_written_c51 F_DR_written_c51
          unfold S_DR_written_J54 F_DR_written_J54
          by_cases g82 : x3 = (1 : Int32)
          ·
            rw [if_pos g82, if_pos g82]
            have g82i : x3.toInt = 1 := q_eqI g82
            by_cases g83 : (0 : Int32) < (t4_0 x2.toNatClampNeg : Int32)
            ·
              rw [if_pos g83, if_pos g83]
              have g83i := q_ltI g83
              obtain ⟨a117, e84⟩ := q_nm ((((t2_0 x2.toNatClampNeg : Int32) - 1 : Int32) - (t4_0 x2.toNatClampNeg : Int32) : Int32) : Int32)
              rw [e84]
              have a117i : a117.toInt = (t2_0 x2.toNatClampNeg).toInt - 1 - (t4_0 x2.toNatClampNeg).toInt := by rw [← e84]; exact q_subI (q_subI (y := 1) rfl (by decide) (by omega) (by omega)) rfl (by omega) (by omega)
              unfold S_DR_written_J113 F_DR_written_J113
              by_cases g85 : (t4_0 x2.toNatClampNeg : Int32) < (0 : Int32)
              ·
                rw [if_pos g85, if_pos g85]
                have g85i := q_ltI g85
                unfold S_DR_written_J170 F_DR_written_J170
                by_cases g86 : x3 = (0 : Int32)
                ·
                  rw [if_pos g86, if_pos g86]
                  have g86i : x3.toInt = 0 := q_eqI g86
                  have h87 := T_DR_figures (x2 := x2) (x3 := (0 : Int32)) (x4 := (t2_0 x2.toNatClampNeg : Int32)) (x5 := (1 : Int32)) (t0_0 := (p927.1 : Int32)) (t0_1 := (p927.2.1 : Int32)) (t0_2 := (p927.2.2.1 : Int32)) (t0_3 := (p927.2.2.2.1 : Int64)) (t0_4 := (p927.2.2.2.2.1 : Int32)) (t0_5 := (p927.2.2.2.2.2.1 : Int32)) (t0_6 := (p927.2.2.2.2.2.2.1 : Int32)) (t0_7 := (p927.2.2.2.2.2.2.2.1 : Int32)) (t0_8 := (p927.2.2.2.2.2.2.2.2.1 : Int32)) (t0_9 := (p927.2.2.2.2.2.2.2.2.2.1 : Int32)) (t0_10 := (p927.2.2.2.2.2.2.2.2.2.2.1 : Int32)) (t1_0 := t1_0) (t2_0 := t2_0) (t3_0 := (p927.2.2.2.2.2.2.2.2.2.2.2 : (Nat → Int32))) (by with_reducible assumption) m2.1 ⟨(by first | omega | decide), (by first | omega | decide), (by first | omega | decide), (by first | omega | decide)⟩ (by first | omega | decide) (by first | omega | decide) (by first | omega | decide)
                  with_reducible refine v_owe h87.1 ?_
                  replace h87 := h87.2
                  generalize F_DR_figures x2 (0 : Int32) (t2_0 x2.toNatClampNeg : Int32) (1 : Int32) (p927.1 : Int32) (p927.2.1 : Int32) (p927.2.2.1 : Int32) (p927.2.2.2.1 : Int64) (p927.2.2.2.2.1 : Int32) (p927.2.2.2.2.2.1 : Int32) (p927.2.2.2.2.2.2.1 : Int32) (p927.2.2.2.2.2.2.2.1 : Int32) (p927.2.2.2.2.2.2.2.2.1 : Int32) (p927.2.2.2.2.2.2.2.2.2.1 : Int32) (p927.2.2.2.2.2.2.2.2.2.2.1 : Int32) t1_0 t2_0 (p927.2.2.2.2.2.2.2.2.2.2.2 : (Nat → Int32)) = p496 at *
                  unfold Q_DR_figures at h87
                  unfold S_DR_written_c179 F_DR_written_c179
                  have h88 := T_DR_exponent (x2 := a117) (t0_0 := (p496.1 : Int32)) (t0_1 := (p496.2.1 : Int32)) (t0_2 := (p496.2.2.1 : Int32)) (t0_3 := (p496.2.2.2.1 : Int64)) (t0_4 := (p496.2.2.2.2.1 : Int32)) (t0_5 := (p496.2.2.2.2.2.1 : Int32)) (t0_6 := (p496.2.2.2.2.2.2.1 : Int32)) (t0_7 := (p496.2.2.2.2.2.2.2.1 : Int32)) (t0_8 := (p496.2.2.2.2.2.2.2.2.1 : Int32)) (t0_9 := (p496.2.2.2.2.2.2.2.2.2.1 : Int32)) (t0_10 := (p496.2.2.2.2.2.2.2.2.2.2.1 : Int32)) (t1_0 := (p496.2.2.2.2.2.2.2.2.2.2.2 : (Nat → Int32))) ⟨(by first | omega | decide), (by first | omega | decide)⟩ ⟨(by first | omega | decide), (by first | omega | decide)⟩
                  with_reducible refine v_owe h88.1 ?_
                  replace h88 := h88.2
                  generalize F_DR_exponent a117 (p496.1 : Int32) (p496.2.1 : Int32) (p496.2.2.1 : Int32) (p496.2.2.2.1 : Int64) (p496.2.2.2.2.1 : Int32) (p496.2.2.2.2.2.1 : Int32) (p496.2.2.2.2.2.2.1 : Int32) (p496.2.2.2.2.2.2.2.1 : Int32) (p496.2.2.2.2.2.2.2.2.1 : Int32) (p496.2.2.2.2.2.2.2.2.2.1 : Int32) (p496.2.2.2.2.2.2.2.2.2.2.1 : Int32) (p496.2.2.2.2.2.2.2.2.2.2.2 : (Nat → Int32)) = p556 at *
                  unfold Q_DR_exponent at h88
                  unfold S_DR_written_c185 F_DR_written_c185
                  refine ⟨trivial, ?_⟩
                  (unfold Q_DR_written; dsimp only; first | omega | exact ⟨by decide, by decide, fun _ => by decide⟩)
                ·
                  rw [if_neg g86, if_neg g86]
                  have g86i : x3.toInt ≠ 0 := q_neI g86
                  have h89 := R_dz (x2 := x2) (t0_0 := (p927.1 : Int32)) (t0_1 := (p927.2.1 : Int32)) (t0_2 := (p927.2.2.1 : Int32)) (t0_3 := (p927.2.2.2.1 : Int64)) (t0_4 := (p927.2.2.2.2.1 : Int32)) (t0_5 := (p927.2.2.2.2.2.1 : Int32)) (t0_6 := (p927.2.2.2.2.2.2.1 : Int32)) (t0_7 := (p927.2.2.2.2.2.2.2.1 : Int32)) (t0_8 := (p927.2.2.2.2.2.2.2.2.1 : Int32)) (t0_9 := (p927.2.2.2.2.2.2.2.2.2.1 : Int32)) (t0_10 := (p927.2.2.2.2.2.2.2.2.2.2.1 : Int32)) (t1_0 := t1_0) (by with_reducible assumption)
                  with_reducible refine v_owe h89.1 ?_
                  by_cases g90 : ((F_DR_isZero x2 (p927.1 : Int32) (p927.2.1 : Int32) (p927.2.2.1 : Int32) (p927.2.2.2.1 : Int64) (p927.2.2.2.2.1 : Int32) (p927.2.2.2.2.2.1 : Int32) (p927.2.2.2.2.2.2.1 : Int32) (p927.2.2.2.2.2.2.2.1 : Int32) (p927.2.2.2.2.2.2.2.2.1 : Int32) (p927.2.2.2.2.2.2.2.2.2.1 : Int32) (p927.2.2.2.2.2.2.2.2.2.2.1 : Int32) t1_0) : Int32) = (0 : Int32)
                  ·
                    rw [if_pos g90, if_pos g90]
                    try have hdn := g_down3 (a := a117) ⟨by omega, by omega⟩
                    try have ed1 : (a117 - F_DR_down3 a117 : Int32).toInt = a117.toInt - (F_DR_down3 a117).toInt := q_subI rfl rfl (by omega) (by omega)
                    try have ed2 : (a117 - F_DR_down3 a117 + 1 : Int32).toInt = (a117.toInt - (F_DR_down3 a117).toInt) + 1 := q_addI (y := 1) ed1 (by decide) (by omega) (by omega)
                    by_cases g91 : (t2_0 x2.toNatClampNeg : Int32) ≤ ((a117 - ((F_DR_down3 a117) : Int32) : Int32) + 1 : Int32)
                    ·
                      rw [if_pos g91, if_pos g91]
                      have g91i := q_leI g91
                      unfold S_DR_written_J268 F_DR_written_J268
                      have h92 := T_DR_figures (x2 := x2) (x3 := (0 : Int32)) (x4 := ((a117 - ((F_DR_down3 a117) : Int32) : Int32) + 1 : Int32)) (x5 := ((a117 - ((F_DR_down3 a117) : Int32) : Int32) + 1 : Int32)) (t0_0 := (p927.1 : Int32)) (t0_1 := (p927.2.1 : Int32)) (t0_2 := (p927.2.2.1 : Int32)) (t0_3 := (p927.2.2.2.1 : Int64)) (t0_4 := (p927.2.2.2.2.1 : Int32)) (t0_5 := (p927.2.2.2.2.2.1 : Int32)) (t0_6 := (p927.2.2.2.2.2.2.1 : Int32)) (t0_7 := (p927.2.2.2.2.2.2.2.1 : Int32)) (t0_8 := (p927.2.2.2.2.2.2.2.2.1 : Int32)) (t0_9 := (p927.2.2.2.2.2.2.2.2.2.1 : Int32)) (t0_10 := (p927.2.2.2.2.2.2.2.2.2.2.1 : Int32)) (t1_0 := t1_0) (t2_0 := t2_0) (t3_0 := (p927.2.2.2.2.2.2.2.2.2.2.2 : (Nat → Int32))) (by with_reducible assumption) m2.1 ⟨(by first | omega | decide), (by first | omega | decide), (by first | omega | decide), (by first | omega | decide)⟩ (by first | omega | decide) (by first | omega | decide) (by first | omega | decide)
                      with_reducible refine v_owe h92.1 ?_
                      replace h92 := h92.2
                      generalize F_DR_figures x2 (0 : Int32) ((a117 - ((F_DR_down3 a117) : Int32) : Int32) + 1 : Int32) ((a117 - ((F_DR_down3 a117) : Int32) : Int32) + 1 : Int32) (p927.1 : Int32) (p927.2.1 : Int32) (p927.2.2.1 : Int32) (p927.2.2.2.1 : Int64) (p927.2.2.2.2.1 : Int32) (p927.2.2.2.2.2.1 : Int32) (p927.2.2.2.2.2.2.1 : Int32) (p927.2.2.2.2.2.2.2.1 : Int32) (p927.2.2.2.2.2.2.2.2.1 : Int32) (p927.2.2.2.2.2.2.2.2.2.1 : Int32) (p927.2.2.2.2.2.2.2.2.2.2.1 : Int32) t1_0 t2_0 (p927.2.2.2.2.2.2.2.2.2.2.2 : (Nat → Int32)) = p224 at *
                      unfold Q_DR_figures at h92
                      unfold S_DR_written_c275 F_DR_written_c275
                      by_cases g93 : ((F_DR_down3 a117) : Int32) = (0 : Int32)
                      ·
                        rw [if_pos g93, if_pos g93]
                        refine ⟨trivial, ?_⟩
                        (unfold Q_DR_written; dsimp only; first | omega | exact ⟨by decide, by decide, fun _ => by decide⟩)
                      ·
                        rw [if_neg g93, if_neg g93]
                        have h94 := T_DR_exponent (x2 := ((F_DR_down3 a117) : Int32)) (t0_0 := (p224.1 : Int32)) (t0_1 := (p224.2.1 : Int32)) (t0_2 := (p224.2.2.1 : Int32)) (t0_3 := (p224.2.2.2.1 : Int64)) (t0_4 := (p224.2.2.2.2.1 : Int32)) (t0_5 := (p224.2.2.2.2.2.1 : Int32)) (t0_6 := (p224.2.2.2.2.2.2.1 : Int32)) (t0_7 := (p224.2.2.2.2.2.2.2.1 : Int32)) (t0_8 := (p224.2.2.2.2.2.2.2.2.1 : Int32)) (t0_9 := (p224.2.2.2.2.2.2.2.2.2.1 : Int32)) (t0_10 := (p224.2.2.2.2.2.2.2.2.2.2.1 : Int32)) (t1_0 := (p224.2.2.2.2.2.2.2.2.2.2.2 : (Nat → Int32))) ⟨(by first | omega | decide), (by first | omega | decide)⟩ ⟨(by first | omega | decide), (by first | omega | decide)⟩
                        with_reducible refine v_owe h94.1 ?_
                        replace h94 := h94.2
                        generalize F_DR_exponent ((F_DR_down3 a117) : Int32) (p224.1 : Int32) (p224.2.1 : Int32) (p224.2.2.1 : Int32) (p224.2.2.2.1 : Int64) (p224.2.2.2.2.1 : Int32) (p224.2.2.2.2.2.1 : Int32) (p224.2.2.2.2.2.2.1 : Int32) (p224.2.2.2.2.2.2.2.1 : Int32) (p224.2.2.2.2.2.2.2.2.1 : Int32) (p224.2.2.2.2.2.2.2.2.2.1 : Int32) (p224.2.2.2.2.2.2.2.2.2.2.1 : Int32) (p224.2.2.2.2.2.2.2.2.2.2.2 : (Nat → Int32)) = p287 at *
                        unfold Q_DR_exponent at h94
                        unfold S_DR_written_c286 F_DR_written_c286
                        refine ⟨trivial, ?_⟩
                        (unfold Q_DR_written; dsimp only; first | omega | exact ⟨by decide, by decide, fun _ => by decide⟩)
                    ·
                      rw [if_neg g91, if_neg g91]
                      have g91i := q_nleI g91
                      unfold S_DR_written_J268 F_DR_written_J268
                      have h95 := T_DR_figures (x2 := x2) (x3 := (0 : Int32)) (x4 := (t2_0 x2.toNatClampNeg : Int32)) (x5 := ((a117 - ((F_DR_down3 a117) : Int32) : Int32) + 1 : Int32)) (t0_0 := (p927.1 : Int32)) (t0_1 := (p927.2.1 : Int32)) (t0_2 := (p927.2.2.1 : Int32)) (t0_3 := (p927.2.2.2.1 : Int64)) (t0_4 := (p927.2.2.2.2.1 : Int32)) (t0_5 := (p927.2.2.2.2.2.1 : Int32)) (t0_6 := (p927.2.2.2.2.2.2.1 : Int32)) (t0_7 := (p927.2.2.2.2.2.2.2.1 : Int32)) (t0_8 := (p927.2.2.2.2.2.2.2.2.1 : Int32)) (t0_9 := (p927.2.2.2.2.2.2.2.2.2.1 : Int32)) (t0_10 := (p927.2.2.2.2.2.2.2.2.2.2.1 : Int32)) (t1_0 := t1_0) (t2_0 := t2_0) (t3_0 := (p927.2.2.2.2.2.2.2.2.2.2.2 : (Nat → Int32))) (by with_reducible assumption) m2.1 ⟨(by first | omega | decide), (by first | omega | decide), (by first | omega | decide), (by first | omega | decide)⟩ (by first | omega | decide) (by first | omega | decide) (by first | omega | decide)
                      with_reducible refine v_owe h95.1 ?_
                      replace h95 := h95.2
                      generalize F_DR_figures x2 (0 : Int32) (t2_0 x2.toNatClampNeg : Int32) ((a117 - ((F_DR_down3 a117) : Int32) : Int32) + 1 : Int32) (p927.1 : Int32) (p927.2.1 : Int32) (p927.2.2.1 : Int32) (p927.2.2.2.1 : Int64) (p927.2.2.2.2.1 : Int32) (p927.2.2.2.2.2.1 : Int32) (p927.2.2.2.2.2.2.1 : Int32) (p927.2.2.2.2.2.2.2.1 : Int32) (p927.2.2.2.2.2.2.2.2.1 : Int32) (p927.2.2.2.2.2.2.2.2.2.1 : Int32) (p927.2.2.2.2.2.2.2.2.2.2.1 : Int32) t1_0 t2_0 (p927.2.2.2.2.2.2.2.2.2.2.2 : (Nat → Int32)) = p224 at *
                      unfold Q_DR_figures at h95
                      unfold S_DR_written_c275 F_DR_written_c275
                      by_cases g96 : ((F_DR_down3 a117) : Int32) = (0 : Int32)
                      ·
                        rw [if_pos g96, if_pos g96]
                        refine ⟨trivial, ?_⟩
                        (unfold Q_DR_written; dsimp only; first | omega | exact ⟨by decide, by decide, fun _ => by decide⟩)
                      ·
                        rw [if_neg g96, if_neg g96]
                        have h97 := T_DR_exponent (x2 := ((F_DR_down3 a117) : Int32)) (t0_0 := (p224.1 : Int32)) (t0_1 := (p224.2.1 : Int32)) (t0_2 := (p224.2.2.1 : Int32)) (t0_3 := (p224.2.2.2.1 : Int64)) (t0_4 := (p224.2.2.2.2.1 : Int32)) (t0_5 := (p224.2.2.2.2.2.1 : Int32)) (t0_6 := (p224.2.2.2.2.2.2.1 : Int32)) (t0_7 := (p224.2.2.2.2.2.2.2.1 : Int32)) (t0_8 := (p224.2.2.2.2.2.2.2.2.1 : Int32)) (t0_9 := (p224.2.2.2.2.2.2.2.2.2.1 : Int32)) (t0_10 := (p224.2.2.2.2.2.2.2.2.2.2.1 : Int32)) (t1_0 := (p224.2.2.2.2.2.2.2.2.2.2.2 : (Nat → Int32))) ⟨(by first | omega | decide), (by first | omega | decide)⟩ ⟨(by first | omega | decide), (by first | omega | decide)⟩
                        with_reducible refine v_owe h97.1 ?_
                        replace h97 := h97.2
                        generalize F_DR_exponent ((F_DR_down3 a117) : Int32) (p224.1 : Int32) (p224.2.1 : Int32) (p224.2.2.1 : Int32) (p224.2.2.2.1 : Int64) (p224.2.2.2.2.1 : Int32) (p224.2.2.2.2.2.1 : Int32) (p224.2.2.2.2.2.2.1 : Int32) (p224.2.2.2.2.2.2.2.1 : Int32) (p224.2.2.2.2.2.2.2.2.1 : Int32) (p224.2.2.2.2.2.2.2.2.2.1 : Int32) (p224.2.2.2.2.2.2.2.2.2.2.1 : Int32) (p224.2.2.2.2.2.2.2.2.2.2.2 : (Nat → Int32)) = p287 at *
                        unfold Q_DR_exponent at h97
                        unfold S_DR_written_c286 F_DR_written_c286
                        refine ⟨trivial, ?_⟩
                        (unfold Q_DR_written; dsimp only; first | omega | exact ⟨by decide, by decide, fun _ => by decide⟩)
                  ·
                    rw [if_neg g90, if_neg g90]
                    try have en : (-a117 : Int32).toInt = -a117.toInt := q_negI rfl (by omega)
                    try have hdm := g_down3 (a := -a117) ⟨by omega, by omega⟩
                    try have eb : (-(F_DR_down3 (-a117)) : Int32).toInt = -(F_DR_down3 (-a117)).toInt := q_negI rfl (by omega)
                    try have ec : (1 + (-(F_DR_down3 (-a117))) : Int32).toInt = 1 + -(F_DR_down3 (-a117)).toInt := q_addI (x := 1) (by decide) eb (by omega) (by omega)
                    try have ee : (1 + (-(F_DR_down3 (-a117))) - a117 : Int32).toInt = (1 + -(F_DR_down3 (-a117)).toInt) - a117.toInt := q_subI ec rfl (by omega) (by omega)
                    have h98 := T_DR_figures (x2 := x2) (x3 := (0 : Int32)) (x4 := ((1 + (-((F_DR_down3 (-a117 : Int32)) : Int32) : Int32) : Int32) - a117 : Int32)) (x5 := (1 : Int32)) (t0_0 := (p927.1 : Int32)) (t0_1 := (p927.2.1 : Int32)) (t0_2 := (p927.2.2.1 : Int32)) (t0_3 := (p927.2.2.2.1 : Int64)) (t0_4 := (p927.2.2.2.2.1 : Int32)) (t0_5 := (p927.2.2.2.2.2.1 : Int32)) (t0_6 := (p927.2.2.2.2.2.2.1 : Int32)) (t0_7 := (p927.2.2.2.2.2.2.2.1 : Int32)) (t0_8 := (p927.2.2.2.2.2.2.2.2.1 : Int32)) (t0_9 := (p927.2.2.2.2.2.2.2.2.2.1 : Int32)) (t0_10 := (p927.2.2.2.2.2.2.2.2.2.2.1 : Int32)) (t1_0 := t1_0) (t2_0 := t2_0) (t3_0 := (p927.2.2.2.2.2.2.2.2.2.2.2 : (Nat → Int32))) (by with_reducible assumption) m2.1 ⟨(by first | omega | decide), (by first | omega | decide), (by first | omega | decide), (by first | omega | decide)⟩ (by first | omega | decide) (by first | omega | decide) (by first | omega | decide)
                    with_reducible refine v_owe h98.1 ?_
                    replace h98 := h98.2
                    generalize F_DR_figures x2 (0 : Int32) ((1 + (-((F_DR_down3 (-a117 : Int32)) : Int32) : Int32) : Int32) - a117 : Int32) (1 : Int32) (p927.1 : Int32) (p927.2.1 : Int32) (p927.2.2.1 : Int32) (p927.2.2.2.1 : Int64) (p927.2.2.2.2.1 : Int32) (p927.2.2.2.2.2.1 : Int32) (p927.2.2.2.2.2.2.1 : Int32) (p927.2.2.2.2.2.2.2.1 : Int32) (p927.2.2.2.2.2.2.2.2.1 : Int32) (p927.2.2.2.2.2.2.2.2.2.1 : Int32) (p927.2.2.2.2.2.2.2.2.2.2.1 : Int32) t1_0 t2_0 (p927.2.2.2.2.2.2.2.2.2.2.2 : (Nat → Int32)) = p372 at *
                    unfold Q_DR_figures at h98
                    unfold S_DR_written_c219 F_DR_written_c219
                    by_cases g99 : (-((F_DR_down3 (-a117 : Int32)) : Int32) : Int32) = (0 : Int32)
                    ·
                      rw [if_pos g99, if_pos g99]
                      refine ⟨trivial, ?_⟩
                      (unfold Q_DR_written; dsimp only; first | omega | exact ⟨by decide, by decide, fun _ => by decide⟩)
                    ·
                      rw [if_neg g99, if_neg g99]
                      have h100 := T_DR_exponent (x2 := (-((F_DR_down3 (-a117 : Int32)) : Int32) : Int32)) (t0_0 := (p372.1 : Int32)) (t0_1 := (p372.2.1 : Int32)) (t0_2 := (p372.2.2.1 : Int32)) (t0_3 := (p372.2.2.2.1 : Int64)) (t0_4 := (p372.2.2.2.2.1 : Int32)) (t0_5 := (p372.2.2.2.2.2.1 : Int32)) (t0_6 := (p372.2.2.2.2.2.2.1 : Int32)) (t0_7 := (p372.2.2.2.2.2.2.2.1 : Int32)) (t0_8 := (p372.2.2.2.2.2.2.2.2.1 : Int32)) (t0_9 := (p372.2.2.2.2.2.2.2.2.2.1 : Int32)) (t0_10 := (p372.2.2.2.2.2.2.2.2.2.2.1 : Int32)) (t1_0 := (p372.2.2.2.2.2.2.2.2.2.2.2 : (Nat → Int32))) ⟨(by first | omega | decide), (by first | omega | decide)⟩ ⟨(by first | omega | decide), (by first | omega | decide)⟩
                      with_reducible refine v_owe h100.1 ?_
                      replace h100 := h100.2
                      generalize F_DR_exponent (-((F_DR_down3 (-a117 : Int32)) : Int32) : Int32) (p372.1 : Int32) (p372.2.1 : Int32) (p372.2.2.1 : Int32) (p372.2.2.2.1 : Int64) (p372.2.2.2.2.1 : Int32) (p372.2.2.2.2.2.1 : Int32) (p372.2.2.2.2.2.2.1 : Int32) (p372.2.2.2.2.2.2.2.1 : Int32) (p372.2.2.2.2.2.2.2.2.1 : Int32) (p372.2.2.2.2.2.2.2.2.2.1 : Int32) (p372.2.2.2.2.2.2.2.2.2.2.1 : Int32) (p372.2.2.2.2.2.2.2.2.2.2.2 : (Nat → Int32)) = p435 at *
                      unfold Q_DR_exponent at h100
                      unfold S_DR_written_c230 F_DR_written_c230
                      refine ⟨trivial, ?_⟩
                      (unfold Q_DR_written; dsimp only; first | omega | exact ⟨by decide, by decide, fun _ => by decide⟩)
              ·
                rw [if_neg g85, if_neg g85]
                have g85i := q_nltI g85
                rw [if_pos g82, if_pos g82]
                unfold S_DR_written_J130 F_DR_written_J130
                by_cases g101 : (1 : Int32) ≤ ((t2_0 x2.toNatClampNeg : Int32) - (t4_0 x2.toNatClampNeg : Int32) : Int32)
                ·
                  rw [if_pos g101, if_pos g101]
                  have emc : ((t2_0 x2.toNatClampNeg) - (t4_0 x2.toNatClampNeg) : Int32).toInt = (t2_0 x2.toNatClampNeg).toInt - (t4_0 x2.toNatClampNeg).toInt := q_subI rfl rfl (by omega) (by omega)
                  have g101i := q_leI g101
                  unfold S_DR_written_J150 F_DR_written_J150
                  by_cases g102 : (t4_0 x2.toNatClampNeg : Int32) = (0 : Int32)
                  ·
                    rw [if_pos g102, if_pos g102]
                    have g102i := q_eqI g102
                    have h103 := T_DR_figures (x2 := x2) (x3 := (0 : Int32)) (x4 := (t2_0 x2.toNatClampNeg : Int32)) (x5 := (-1 : Int32)) (t0_0 := (p927.1 : Int32)) (t0_1 := (p927.2.1 : Int32)) (t0_2 := (p927.2.2.1 : Int32)) (t0_3 := (p927.2.2.2.1 : Int64)) (t0_4 := (p927.2.2.2.2.1 : Int32)) (t0_5 := (p927.2.2.2.2.2.1 : Int32)) (t0_6 := (p927.2.2.2.2.2.2.1 : Int32)) (t0_7 := (p927.2.2.2.2.2.2.2.1 : Int32)) (t0_8 := (p927.2.2.2.2.2.2.2.2.1 : Int32)) (t0_9 := (p927.2.2.2.2.2.2.2.2.2.1 : Int32)) (t0_10 := (p927.2.2.2.2.2.2.2.2.2.2.1 : Int32)) (t1_0 := t1_0) (t2_0 := t2_0) (t3_0 := (p927.2.2.2.2.2.2.2.2.2.2.2 : (Nat → Int32))) (by with_reducible assumption) m2.1 ⟨(by first | omega | decide), (by first | omega | decide), (by first | omega | decide), (by first | omega | decide)⟩ (by first | omega | decide) (by first | omega | decide) (by first | omega | decide)
                    with_reducible refine v_owe h103.1 ?_
                    replace h103 := h103.2
                    generalize F_DR_figures x2 (0 : Int32) (t2_0 x2.toNatClampNeg : Int32) (-1 : Int32) (p927.1 : Int32) (p927.2.1 : Int32) (p927.2.2.1 : Int32) (p927.2.2.2.1 : Int64) (p927.2.2.2.2.1 : Int32) (p927.2.2.2.2.2.1 : Int32) (p927.2.2.2.2.2.2.1 : Int32) (p927.2.2.2.2.2.2.2.1 : Int32) (p927.2.2.2.2.2.2.2.2.1 : Int32) (p927.2.2.2.2.2.2.2.2.2.1 : Int32) (p927.2.2.2.2.2.2.2.2.2.2.1 : Int32) t1_0 t2_0 (p927.2.2.2.2.2.2.2.2.2.2.2 : (Nat → Int32)) = p711 at *
                    unfold Q_DR_figures at h103
                    unfold S_DR_written_c164_15 F_DR_written_c164_15
                    refine ⟨trivial, ?_⟩
                    (unfold Q_DR_written; dsimp only; first | omega | exact ⟨by decide, by decide, fun _ => by decide⟩)
                  ·
                    rw [if_neg g102, if_neg g102]
                    have g102i := q_neI g102
                    have h104 := T_DR_figures (x2 := x2) (x3 := (0 : Int32)) (x4 := (t2_0 x2.toNatClampNeg : Int32)) (x5 := ((t2_0 x2.toNatClampNeg : Int32) - (t4_0 x2.toNatClampNeg : Int32) : Int32)) (t0_0 := (p927.1 : Int32)) (t0_1 := (p927.2.1 : Int32)) (t0_2 := (p927.2.2.1 : Int32)) (t0_3 := (p927.2.2.2.1 : Int64)) (t0_4 := (p927.2.2.2.2.1 : Int32)) (t0_5 := (p927.2.2.2.2.2.1 : Int32)) (t0_6 := (p927.2.2.2.2.2.2.1 : Int32)) (t0_7 := (p927.2.2.2.2.2.2.2.1 : Int32)) (t0_8 := (p927.2.2.2.2.2.2.2.2.1 : Int32)) (t0_9 := (p927.2.2.2.2.2.2.2.2.2.1 : Int32)) (t0_10 := (p927.2.2.2.2.2.2.2.2.2.2.1 : Int32)) (t1_0 := t1_0) (t2_0 := t2_0) (t3_0 := (p927.2.2.2.2.2.2.2.2.2.2.2 : (Nat → Int32))) (by with_reducible assumption) m2.1 ⟨(by first | omega | decide), (by first | omega | decide), (by first | omega | decide), (by first | omega | decide)⟩ (by first | omega | decide) (by first | omega | decide) (by first | omega | decide)
                    with_reducible refine v_owe h104.1 ?_
                    replace h104 := h104.2
                    generalize F_DR_figures x2 (0 : Int32) (t2_0 x2.toNatClampNeg : Int32) ((t2_0 x2.toNatClampNeg : Int32) - (t4_0 x2.toNatClampNeg : Int32) : Int32) (p927.1 : Int32) (p927.2.1 : Int32) (p927.2.2.1 : Int32) (p927.2.2.2.1 : Int64) (p927.2.2.2.2.1 : Int32) (p927.2.2.2.2.2.1 : Int32) (p927.2.2.2.2.2.2.1 : Int32) (p927.2.2.2.2.2.2.2.1 : Int32) (p927.2.2.2.2.2.2.2.2.1 : Int32) (p927.2.2.2.2.2.2.2.2.2.1 : Int32) (p927.2.2.2.2.2.2.2.2.2.2.1 : Int32) t1_0 t2_0 (p927.2.2.2.2.2.2.2.2.2.2.2 : (Nat → Int32)) = p650 at *
                    unfold Q_DR_figures at h104
                    unfold S_DR_written_c164 F_DR_written_c164
                    refine ⟨trivial, ?_⟩
                    (unfold Q_DR_written; dsimp only; first | omega | exact ⟨by decide, by decide, fun _ => by decide⟩)
                ·
                  rw [if_neg g101, if_neg g101]
                  have emc : ((t2_0 x2.toNatClampNeg) - (t4_0 x2.toNatClampNeg) : Int32).toInt = (t2_0 x2.toNatClampNeg).toInt - (t4_0 x2.toNatClampNeg).toInt := q_subI rfl rfl (by omega) (by omega)
                  have g101i := q_nleI g101
                  obtain ⟨lx592, e105⟩ := q_nm ((((t2_0 x2.toNatClampNeg : Int32) - (t4_0 x2.toNatClampNeg : Int32) : Int32) - 1 : Int32) : Int32)
                  rw [e105]
                  have l592 : lx592.toInt = (t2_0 x2.toNatClampNeg).toInt - (t4_0 x2.toNatClampNeg).toInt - 1 := by rw [← e105]; exact q_subI (y := 1) emc rfl (by omega) (by omega)
                  unfold S_DR_written_J150 F_DR_written_J150
                  by_cases g106 : (t4_0 x2.toNatClampNeg : Int32) = (0 : Int32)
                  ·
                    rw [if_pos g106, if_pos g106]
                    have g106i := q_eqI g106
                    have h107 := T_DR_figures (x2 := x2) (x3 := lx592) (x4 := (t2_0 x2.toNatClampNeg : Int32)) (x5 := (-1 : Int32)) (t0_0 := (p927.1 : Int32)) (t0_1 := (p927.2.1 : Int32)) (t0_2 := (p927.2.2.1 : Int32)) (t0_3 := (p927.2.2.2.1 : Int64)) (t0_4 := (p927.2.2.2.2.1 : Int32)) (t0_5 := (p927.2.2.2.2.2.1 : Int32)) (t0_6 := (p927.2.2.2.2.2.2.1 : Int32)) (t0_7 := (p927.2.2.2.2.2.2.2.1 : Int32)) (t0_8 := (p927.2.2.2.2.2.2.2.2.1 : Int32)) (t0_9 := (p927.2.2.2.2.2.2.2.2.2.1 : Int32)) (t0_10 := (p927.2.2.2.2.2.2.2.2.2.2.1 : Int32)) (t1_0 := t1_0) (t2_0 := t2_0) (t3_0 := (p927.2.2.2.2.2.2.2.2.2.2.2 : (Nat → Int32))) (by with_reducible assumption) m2.1 ⟨(by first | omega | decide), (by first | omega | decide), (by first | omega | decide), (by first | omega | decide)⟩ (by first | omega | decide) (by first | omega | decide) (by first | omega | decide)
                    with_reducible refine v_owe h107.1 ?_
                    replace h107 := h107.2
                    generalize F_DR_figures x2 lx592 (t2_0 x2.toNatClampNeg : Int32) (-1 : Int32) (p927.1 : Int32) (p927.2.1 : Int32) (p927.2.2.1 : Int32) (p927.2.2.2.1 : Int64) (p927.2.2.2.2.1 : Int32) (p927.2.2.2.2.2.1 : Int32) (p927.2.2.2.2.2.2.1 : Int32) (p927.2.2.2.2.2.2.2.1 : Int32) (p927.2.2.2.2.2.2.2.2.1 : Int32) (p927.2.2.2.2.2.2.2.2.2.1 : Int32) (p927.2.2.2.2.2.2.2.2.2.2.1 : Int32) t1_0 t2_0 (p927.2.2.2.2.2.2.2.2.2.2.2 : (Nat → Int32)) = p711 at *
                    unfold Q_DR_figures at h107
                    unfold S_DR_written_c164_15 F_DR_written_c164_15
                    refine ⟨trivial, ?_⟩
                    (unfold Q_DR_written; dsimp only; first | omega | exact ⟨by decide, by decide, fun _ => by decide⟩)
                  ·
                    rw [if_neg g106, if_neg g106]
                    have g106i := q_neI g106
                    have h108 := T_DR_figures (x2 := x2) (x3 := lx592) (x4 := (t2_0 x2.toNatClampNeg : Int32)) (x5 := ((t2_0 x2.toNatClampNeg : Int32) - (t4_0 x2.toNatClampNeg : Int32) : Int32)) (t0_0 := (p927.1 : Int32)) (t0_1 := (p927.2.1 : Int32)) (t0_2 := (p927.2.2.1 : Int32)) (t0_3 := (p927.2.2.2.1 : Int64)) (t0_4 := (p927.2.2.2.2.1 : Int32)) (t0_5 := (p927.2.2.2.2.2.1 : Int32)) (t0_6 := (p927.2.2.2.2.2.2.1 : Int32)) (t0_7 := (p927.2.2.2.2.2.2.2.1 : Int32)) (t0_8 := (p927.2.2.2.2.2.2.2.2.1 : Int32)) (t0_9 := (p927.2.2.2.2.2.2.2.2.2.1 : Int32)) (t0_10 := (p927.2.2.2.2.2.2.2.2.2.2.1 : Int32)) (t1_0 := t1_0) (t2_0 := t2_0) (t3_0 := (p927.2.2.2.2.2.2.2.2.2.2.2 : (Nat → Int32))) (by with_reducible assumption) m2.1 ⟨(by first | omega | decide), (by first | omega | decide), (by first | omega | decide), (by first | omega | decide)⟩ (by first | omega | decide) (by first | omega | decide) (by first | omega | decide)
                    with_reducible refine v_owe h108.1 ?_
                    replace h108 := h108.2
                    generalize F_DR_figures x2 lx592 (t2_0 x2.toNatClampNeg : Int32) ((t2_0 x2.toNatClampNeg : Int32) - (t4_0 x2.toNatClampNeg : Int32) : Int32) (p927.1 : Int32) (p927.2.1 : Int32) (p927.2.2.1 : Int32) (p927.2.2.2.1 : Int64) (p927.2.2.2.2.1 : Int32) (p927.2.2.2.2.2.1 : Int32) (p927.2.2.2.2.2.2.1 : Int32) (p927.2.2.2.2.2.2.2.1 : Int32) (p927.2.2.2.2.2.2.2.2.1 : Int32) (p927.2.2.2.2.2.2.2.2.2.1 : Int32) (p927.2.2.2.2.2.2.2.2.2.2.1 : Int32) t1_0 t2_0 (p927.2.2.2.2.2.2.2.2.2.2.2 : (Nat → Int32)) = p650 at *
                    unfold Q_DR_figures at h108
                    unfold S_DR_written_c164 F_DR_written_c164
                    refine ⟨trivial, ?_⟩
                    (unfold Q_DR_written; dsimp only; first | omega | exact ⟨by decide, by decide, fun _ => by decide⟩)
            ·
              rw [if_neg g83, if_neg g83]
              have g83i := q_nltI g83
              have emc : ((t2_0 x2.toNatClampNeg) - (t4_0 x2.toNatClampNeg) : Int32).toInt = (t2_0 x2.toNatClampNeg).toInt - (t4_0 x2.toNatClampNeg).toInt := q_subI rfl rfl (by omega) (by omega)
              have h109 := R_dz (x2 := x2) (t0_0 := (p927.1 : Int32)) (t0_1 := (p927.2.1 : Int32)) (t0_2 := (p927.2.2.1 : Int32)) (t0_3 := (p927.2.2.2.1 : Int64)) (t0_4 := (p927.2.2.2.2.1 : Int32)) (t0_5 := (p927.2.2.2.2.2.1 : Int32)) (t0_6 := (p927.2.2.2.2.2.2.1 : Int32)) (t0_7 := (p927.2.2.2.2.2.2.2.1 : Int32)) (t0_8 := (p927.2.2.2.2.2.2.2.2.1 : Int32)) (t0_9 := (p927.2.2.2.2.2.2.2.2.2.1 : Int32)) (t0_10 := (p927.2.2.2.2.2.2.2.2.2.2.1 : Int32)) (t1_0 := t1_0) (by with_reducible assumption)
              with_reducible refine v_owe h109.1 ?_
              by_cases g110 : ((F_DR_isZero x2 (p927.1 : Int32) (p927.2.1 : Int32) (p927.2.2.1 : Int32) (p927.2.2.2.1 : Int64) (p927.2.2.2.2.1 : Int32) (p927.2.2.2.2.2.1 : Int32) (p927.2.2.2.2.2.2.1 : Int32) (p927.2.2.2.2.2.2.2.1 : Int32) (p927.2.2.2.2.2.2.2.2.1 : Int32) (p927.2.2.2.2.2.2.2.2.2.1 : Int32) (p927.2.2.2.2.2.2.2.2.2.2.1 : Int32) t1_0) : Int32) = (0 : Int32)
              ·
                rw [if_pos g110, if_pos g110]
                try have hdn := g_down3 (a := a117) ⟨by omega, by omega⟩
                try have ed1 : (a117 - F_DR_down3 a117 : Int32).toInt = a117.toInt - (F_DR_down3 a117).toInt := q_subI rfl rfl (by omega) (by omega)
                try have ed2 : (a117 - F_DR_down3 a117 + 1 : Int32).toInt = (a117.toInt - (F_DR_down3 a117).toInt) + 1 := q_addI (y := 1) ed1 (by decide) (by omega) (by omega)
                have h111 := T_DR_figures (x2 := x2) (x3 := (0 : Int32)) (x4 := ((t2_0 x2.toNatClampNeg : Int32) - (t4_0 x2.toNatClampNeg : Int32) : Int32)) (x5 := (-1 : Int32)) (t0_0 := (p927.1 : Int32)) (t0_1 := (p927.2.1 : Int32)) (t0_2 := (p927.2.2.1 : Int32)) (t0_3 := (p927.2.2.2.1 : Int64)) (t0_4 := (p927.2.2.2.2.1 : Int32)) (t0_5 := (p927.2.2.2.2.2.1 : Int32)) (t0_6 := (p927.2.2.2.2.2.2.1 : Int32)) (t0_7 := (p927.2.2.2.2.2.2.2.1 : Int32)) (t0_8 := (p927.2.2.2.2.2.2.2.2.1 : Int32)) (t0_9 := (p927.2.2.2.2.2.2.2.2.2.1 : Int32)) (t0_10 := (p927.2.2.2.2.2.2.2.2.2.2.1 : Int32)) (t1_0 := t1_0) (t2_0 := t2_0) (t3_0 := (p927.2.2.2.2.2.2.2.2.2.2.2 : (Nat → Int32))) (by with_reducible assumption) m2.1 ⟨(by first | omega | decide), (by first | omega | decide), (by first | omega | decide), (by first | omega | decide)⟩ (by first | omega | decide) (by first | omega | decide) (by first | omega | decide)
                with_reducible refine v_owe h111.1 ?_
                obtain ⟨a117, e112⟩ := q_nm ((((t2_0 x2.toNatClampNeg : Int32) - 1 : Int32) - (t4_0 x2.toNatClampNeg : Int32) : Int32) : Int32)
                rw [e112]
                have a117i : a117.toInt = (t2_0 x2.toNatClampNeg).toInt - 1 - (t4_0 x2.toNatClampNeg).toInt := by rw [← e112]; exact q_subI (q_subI (y := 1) rfl (by decide) (by omega) (by omega)) rfl (by omega) (by omega)
                replace h111 := h111.2
                generalize F_DR_figures x2 (0 : Int32) ((t2_0 x2.toNatClampNeg : Int32) - (t4_0 x2.toNatClampNeg : Int32) : Int32) (-1 : Int32) (p927.1 : Int32) (p927.2.1 : Int32) (p927.2.2.1 : Int32) (p927.2.2.2.1 : Int64) (p927.2.2.2.2.1 : Int32) (p927.2.2.2.2.2.1 : Int32) (p927.2.2.2.2.2.2.1 : Int32) (p927.2.2.2.2.2.2.2.1 : Int32) (p927.2.2.2.2.2.2.2.2.1 : Int32) (p927.2.2.2.2.2.2.2.2.2.1 : Int32) (p927.2.2.2.2.2.2.2.2.2.2.1 : Int32) t1_0 t2_0 (p927.2.2.2.2.2.2.2.2.2.2.2 : (Nat → Int32)) = p802 at *
                unfold Q_DR_figures at h111
                unfold S_DR_written_c107 F_DR_written_c107
                refine ⟨trivial, ?_⟩
                (unfold Q_DR_written; dsimp only; first | omega | exact ⟨by decide, by decide, fun _ => by decide⟩)
              ·
                rw [if_neg g110, if_neg g110]
                try have en : (-a117 : Int32).toInt = -a117.toInt := q_negI rfl (by omega)
                try have hdm := g_down3 (a := -a117) ⟨by omega, by omega⟩
                try have eb : (-(F_DR_down3 (-a117)) : Int32).toInt = -(F_DR_down3 (-a117)).toInt := q_negI rfl (by omega)
                try have ec : (1 + (-(F_DR_down3 (-a117))) : Int32).toInt = 1 + -(F_DR_down3 (-a117)).toInt := q_addI (x := 1) (by decide) eb (by omega) (by omega)
                try have ee : (1 + (-(F_DR_down3 (-a117))) - a117 : Int32).toInt = (1 + -(F_DR_down3 (-a117)).toInt) - a117.toInt := q_subI ec rfl (by omega) (by omega)
                have h113 := T_DR_figures (x2 := x2) (x3 := (0 : Int32)) (x4 := (1 : Int32)) (x5 := (-1 : Int32)) (t0_0 := (p927.1 : Int32)) (t0_1 := (p927.2.1 : Int32)) (t0_2 := (p927.2.2.1 : Int32)) (t0_3 := (p927.2.2.2.1 : Int64)) (t0_4 := (p927.2.2.2.2.1 : Int32)) (t0_5 := (p927.2.2.2.2.2.1 : Int32)) (t0_6 := (p927.2.2.2.2.2.2.1 : Int32)) (t0_7 := (p927.2.2.2.2.2.2.2.1 : Int32)) (t0_8 := (p927.2.2.2.2.2.2.2.2.1 : Int32)) (t0_9 := (p927.2.2.2.2.2.2.2.2.2.1 : Int32)) (t0_10 := (p927.2.2.2.2.2.2.2.2.2.2.1 : Int32)) (t1_0 := t1_0) (t2_0 := t2_0) (t3_0 := (p927.2.2.2.2.2.2.2.2.2.2.2 : (Nat → Int32))) (by with_reducible assumption) m2.1 ⟨(by first | omega | decide), (by first | omega | decide), (by first | omega | decide), (by first | omega | decide)⟩ (by first | omega | decide) (by first | omega | decide) (by first | omega | decide)
                with_reducible refine v_owe h113.1 ?_
                obtain ⟨a117, e114⟩ := q_nm ((((t2_0 x2.toNatClampNeg : Int32) - 1 : Int32) - (t4_0 x2.toNatClampNeg : Int32) : Int32) : Int32)
                rw [e114]
                have a117i : a117.toInt = (t2_0 x2.toNatClampNeg).toInt - 1 - (t4_0 x2.toNatClampNeg).toInt := by rw [← e114]; exact q_subI (q_subI (y := 1) rfl (by decide) (by omega) (by omega)) rfl (by omega) (by omega)
                replace h113 := h113.2
                generalize F_DR_figures x2 (0 : Int32) (1 : Int32) (-1 : Int32) (p927.1 : Int32) (p927.2.1 : Int32) (p927.2.2.1 : Int32) (p927.2.2.2.1 : Int64) (p927.2.2.2.2.1 : Int32) (p927.2.2.2.2.2.1 : Int32) (p927.2.2.2.2.2.2.1 : Int32) (p927.2.2.2.2.2.2.2.1 : Int32) (p927.2.2.2.2.2.2.2.2.1 : Int32) (p927.2.2.2.2.2.2.2.2.2.1 : Int32) (p927.2.2.2.2.2.2.2.2.2.2.1 : Int32) t1_0 t2_0 (p927.2.2.2.2.2.2.2.2.2.2.2 : (Nat → Int32)) = p863 at *
                unfold Q_DR_figures at h113
                unfold S_DR_written_c107_17 F_DR_written_c107_17
                refine ⟨trivial, ?_⟩
                (unfold Q_DR_written; dsimp only; first | omega | exact ⟨by decide, by decide, fun _ => by decide⟩)
          ·
            rw [if_neg g82, if_neg g82]
            have g82i : x3.toInt ≠ 1 := q_neI g82
            obtain ⟨a117, e115⟩ := q_nm ((((t2_0 x2.toNatClampNeg : Int32) - 1 : Int32) - (t4_0 x2.toNatClampNeg : Int32) : Int32) : Int32)
            rw [e115]
            have a117i : a117.toInt = (t2_0 x2.toNatClampNeg).toInt - 1 - (t4_0 x2.toNatClampNeg).toInt := by rw [← e115]; exact q_subI (q_subI (y := 1) rfl (by decide) (by omega) (by omega)) rfl (by omega) (by omega)
            unfold S_DR_written_J113 F_DR_written_J113
            by_cases g116 : (t4_0 x2.toNatClampNeg : Int32) < (0 : Int32)
            ·
              rw [if_pos g116, if_pos g116]
              have g116i := q_ltI g116
              unfold S_DR_written_J170 F_DR_written_J170
              by_cases g117 : x3 = (0 : Int32)
              ·
                rw [if_pos g117, if_pos g117]
                have g117i : x3.toInt = 0 := q_eqI g117
                have h118 := T_DR_figures (x2 := x2) (x3 := (0 : Int32)) (x4 := (t2_0 x2.toNatClampNeg : Int32)) (x5 := (1 : Int32)) (t0_0 := (p927.1 : Int32)) (t0_1 := (p927.2.1 : Int32)) (t0_2 := (p927.2.2.1 : Int32)) (t0_3 := (p927.2.2.2.1 : Int64)) (t0_4 := (p927.2.2.2.2.1 : Int32)) (t0_5 := (p927.2.2.2.2.2.1 : Int32)) (t0_6 := (p927.2.2.2.2.2.2.1 : Int32)) (t0_7 := (p927.2.2.2.2.2.2.2.1 : Int32)) (t0_8 := (p927.2.2.2.2.2.2.2.2.1 : Int32)) (t0_9 := (p927.2.2.2.2.2.2.2.2.2.1 : Int32)) (t0_10 := (p927.2.2.2.2.2.2.2.2.2.2.1 : Int32)) (t1_0 := t1_0) (t2_0 := t2_0) (t3_0 := (p927.2.2.2.2.2.2.2.2.2.2.2 : (Nat → Int32))) (by with_reducible assumption) m2.1 ⟨(by first | omega | decide), (by first | omega | decide), (by first | omega | decide), (by first | omega | decide)⟩ (by first | omega | decide) (by first | omega | decide) (by first | omega | decide)
                with_reducible refine v_owe h118.1 ?_
                replace h118 := h118.2
                generalize F_DR_figures x2 (0 : Int32) (t2_0 x2.toNatClampNeg : Int32) (1 : Int32) (p927.1 : Int32) (p927.2.1 : Int32) (p927.2.2.1 : Int32) (p927.2.2.2.1 : Int64) (p927.2.2.2.2.1 : Int32) (p927.2.2.2.2.2.1 : Int32) (p927.2.2.2.2.2.2.1 : Int32) (p927.2.2.2.2.2.2.2.1 : Int32) (p927.2.2.2.2.2.2.2.2.1 : Int32) (p927.2.2.2.2.2.2.2.2.2.1 : Int32) (p927.2.2.2.2.2.2.2.2.2.2.1 : Int32) t1_0 t2_0 (p927.2.2.2.2.2.2.2.2.2.2.2 : (Nat → Int32)) = p496 at *
                unfold Q_DR_figures at h118
                unfold S_DR_written_c179 F_DR_written_c179
                have h119 := T_DR_exponent (x2 := a117) (t0_0 := (p496.1 : Int32)) (t0_1 := (p496.2.1 : Int32)) (t0_2 := (p496.2.2.1 : Int32)) (t0_3 := (p496.2.2.2.1 : Int64)) (t0_4 := (p496.2.2.2.2.1 : Int32)) (t0_5 := (p496.2.2.2.2.2.1 : Int32)) (t0_6 := (p496.2.2.2.2.2.2.1 : Int32)) (t0_7 := (p496.2.2.2.2.2.2.2.1 : Int32)) (t0_8 := (p496.2.2.2.2.2.2.2.2.1 : Int32)) (t0_9 := (p496.2.2.2.2.2.2.2.2.2.1 : Int32)) (t0_10 := (p496.2.2.2.2.2.2.2.2.2.2.1 : Int32)) (t1_0 := (p496.2.2.2.2.2.2.2.2.2.2.2 : (Nat → Int32))) ⟨(by first | omega | decide), (by first | omega | decide)⟩ ⟨(by first | omega | decide), (by first | omega | decide)⟩
                with_reducible refine v_owe h119.1 ?_
                replace h119 := h119.2
                generalize F_DR_exponent a117 (p496.1 : Int32) (p496.2.1 : Int32) (p496.2.2.1 : Int32) (p496.2.2.2.1 : Int64) (p496.2.2.2.2.1 : Int32) (p496.2.2.2.2.2.1 : Int32) (p496.2.2.2.2.2.2.1 : Int32) (p496.2.2.2.2.2.2.2.1 : Int32) (p496.2.2.2.2.2.2.2.2.1 : Int32) (p496.2.2.2.2.2.2.2.2.2.1 : Int32) (p496.2.2.2.2.2.2.2.2.2.2.1 : Int32) (p496.2.2.2.2.2.2.2.2.2.2.2 : (Nat → Int32)) = p556 at *
                unfold Q_DR_exponent at h119
                unfold S_DR_written_c185 F_DR_written_c185
                refine ⟨trivial, ?_⟩
                (unfold Q_DR_written; dsimp only; first | omega | exact ⟨by decide, by decide, fun _ => by decide⟩)
              ·
                rw [if_neg g117, if_neg g117]
                have g117i : x3.toInt ≠ 0 := q_neI g117
                have h120 := R_dz (x2 := x2) (t0_0 := (p927.1 : Int32)) (t0_1 := (p927.2.1 : Int32)) (t0_2 := (p927.2.2.1 : Int32)) (t0_3 := (p927.2.2.2.1 : Int64)) (t0_4 := (p927.2.2.2.2.1 : Int32)) (t0_5 := (p927.2.2.2.2.2.1 : Int32)) (t0_6 := (p927.2.2.2.2.2.2.1 : Int32)) (t0_7 := (p927.2.2.2.2.2.2.2.1 : Int32)) (t0_8 := (p927.2.2.2.2.2.2.2.2.1 : Int32)) (t0_9 := (p927.2.2.2.2.2.2.2.2.2.1 : Int32)) (t0_10 := (p927.2.2.2.2.2.2.2.2.2.2.1 : Int32)) (t1_0 := t1_0) (by with_reducible assumption)
                with_reducible refine v_owe h120.1 ?_
                by_cases g121 : ((F_DR_isZero x2 (p927.1 : Int32) (p927.2.1 : Int32) (p927.2.2.1 : Int32) (p927.2.2.2.1 : Int64) (p927.2.2.2.2.1 : Int32) (p927.2.2.2.2.2.1 : Int32) (p927.2.2.2.2.2.2.1 : Int32) (p927.2.2.2.2.2.2.2.1 : Int32) (p927.2.2.2.2.2.2.2.2.1 : Int32) (p927.2.2.2.2.2.2.2.2.2.1 : Int32) (p927.2.2.2.2.2.2.2.2.2.2.1 : Int32) t1_0) : Int32) = (0 : Int32)
                ·
                  rw [if_pos g121, if_pos g121]
                  try have hdn := g_down3 (a := a117) ⟨by omega, by omega⟩
                  try have ed1 : (a117 - F_DR_down3 a117 : Int32).toInt = a117.toInt - (F_DR_down3 a117).toInt := q_subI rfl rfl (by omega) (by omega)
                  try have ed2 : (a117 - F_DR_down3 a117 + 1 : Int32).toInt = (a117.toInt - (F_DR_down3 a117).toInt) + 1 := q_addI (y := 1) ed1 (by decide) (by omega) (by omega)
                  by_cases g122 : (t2_0 x2.toNatClampNeg : Int32) ≤ ((a117 - ((F_DR_down3 a117) : Int32) : Int32) + 1 : Int32)
                  ·
                    rw [if_pos g122, if_pos g122]
                    have g122i := q_leI g122
                    unfold S_DR_written_J268 F_DR_written_J268
                    have h123 := T_DR_figures (x2 := x2) (x3 := (0 : Int32)) (x4 := ((a117 - ((F_DR_down3 a117) : Int32) : Int32) + 1 : Int32)) (x5 := ((a117 - ((F_DR_down3 a117) : Int32) : Int32) + 1 : Int32)) (t0_0 := (p927.1 : Int32)) (t0_1 := (p927.2.1 : Int32)) (t0_2 := (p927.2.2.1 : Int32)) (t0_3 := (p927.2.2.2.1 : Int64)) (t0_4 := (p927.2.2.2.2.1 : Int32)) (t0_5 := (p927.2.2.2.2.2.1 : Int32)) (t0_6 := (p927.2.2.2.2.2.2.1 : Int32)) (t0_7 := (p927.2.2.2.2.2.2.2.1 : Int32)) (t0_8 := (p927.2.2.2.2.2.2.2.2.1 : Int32)) (t0_9 := (p927.2.2.2.2.2.2.2.2.2.1 : Int32)) (t0_10 := (p927.2.2.2.2.2.2.2.2.2.2.1 : Int32)) (t1_0 := t1_0) (t2_0 := t2_0) (t3_0 := (p927.2.2.2.2.2.2.2.2.2.2.2 : (Nat → Int32))) (by with_reducible assumption) m2.1 ⟨(by first | omega | decide), (by first | omega | decide), (by first | omega | decide), (by first | omega | decide)⟩ (by first | omega | decide) (by first | omega | decide) (by first | omega | decide)
                    with_reducible refine v_owe h123.1 ?_
                    replace h123 := h123.2
                    generalize F_DR_figures x2 (0 : Int32) ((a117 - ((F_DR_down3 a117) : Int32) : Int32) + 1 : Int32) ((a117 - ((F_DR_down3 a117) : Int32) : Int32) + 1 : Int32) (p927.1 : Int32) (p927.2.1 : Int32) (p927.2.2.1 : Int32) (p927.2.2.2.1 : Int64) (p927.2.2.2.2.1 : Int32) (p927.2.2.2.2.2.1 : Int32) (p927.2.2.2.2.2.2.1 : Int32) (p927.2.2.2.2.2.2.2.1 : Int32) (p927.2.2.2.2.2.2.2.2.1 : Int32) (p927.2.2.2.2.2.2.2.2.2.1 : Int32) (p927.2.2.2.2.2.2.2.2.2.2.1 : Int32) t1_0 t2_0 (p927.2.2.2.2.2.2.2.2.2.2.2 : (Nat → Int32)) = p224 at *
                    unfold Q_DR_figures at h123
                    unfold S_DR_written_c275 F_DR_written_c275
                    by_cases g124 : ((F_DR_down3 a117) : Int32) = (0 : Int32)
                    ·
                      rw [if_pos g124, if_pos g124]
                      refine ⟨trivial, ?_⟩
                      (unfold Q_DR_written; dsimp only; first | omega | exact ⟨by decide, by decide, fun _ => by decide⟩)
                    ·
                      rw [if_neg g124, if_neg g124]
                      have h125 := T_DR_exponent (x2 := ((F_DR_down3 a117) : Int32)) (t0_0 := (p224.1 : Int32)) (t0_1 := (p224.2.1 : Int32)) (t0_2 := (p224.2.2.1 : Int32)) (t0_3 := (p224.2.2.2.1 : Int64)) (t0_4 := (p224.2.2.2.2.1 : Int32)) (t0_5 := (p224.2.2.2.2.2.1 : Int32)) (t0_6 := (p224.2.2.2.2.2.2.1 : Int32)) (t0_7 := (p224.2.2.2.2.2.2.2.1 : Int32)) (t0_8 := (p224.2.2.2.2.2.2.2.2.1 : Int32)) (t0_9 := (p224.2.2.2.2.2.2.2.2.2.1 : Int32)) (t0_10 := (p224.2.2.2.2.2.2.2.2.2.2.1 : Int32)) (t1_0 := (p224.2.2.2.2.2.2.2.2.2.2.2 : (Nat → Int32))) ⟨(by first | omega | decide), (by first | omega | decide)⟩ ⟨(by first | omega | decide), (by first | omega | decide)⟩
                      with_reducible refine v_owe h125.1 ?_
                      replace h125 := h125.2
                      generalize F_DR_exponent ((F_DR_down3 a117) : Int32) (p224.1 : Int32) (p224.2.1 : Int32) (p224.2.2.1 : Int32) (p224.2.2.2.1 : Int64) (p224.2.2.2.2.1 : Int32) (p224.2.2.2.2.2.1 : Int32) (p224.2.2.2.2.2.2.1 : Int32) (p224.2.2.2.2.2.2.2.1 : Int32) (p224.2.2.2.2.2.2.2.2.1 : Int32) (p224.2.2.2.2.2.2.2.2.2.1 : Int32) (p224.2.2.2.2.2.2.2.2.2.2.1 : Int32) (p224.2.2.2.2.2.2.2.2.2.2.2 : (Nat → Int32)) = p287 at *
                      unfold Q_DR_exponent at h125
                      unfold S_DR_written_c286 F_DR_written_c286
                      refine ⟨trivial, ?_⟩
                      (unfold Q_DR_written; dsimp only; first | omega | exact ⟨by decide, by decide, fun _ => by decide⟩)
                  ·
                    rw [if_neg g122, if_neg g122]
                    have g122i := q_nleI g122
                    unfold S_DR_written_J268 F_DR_written_J268
                    have h126 := T_DR_figures (x2 := x2) (x3 := (0 : Int32)) (x4 := (t2_0 x2.toNatClampNeg : Int32)) (x5 := ((a117 - ((F_DR_down3 a117) : Int32) : Int32) + 1 : Int32)) (t0_0 := (p927.1 : Int32)) (t0_1 := (p927.2.1 : Int32)) (t0_2 := (p927.2.2.1 : Int32)) (t0_3 := (p927.2.2.2.1 : Int64)) (t0_4 := (p927.2.2.2.2.1 : Int32)) (t0_5 := (p927.2.2.2.2.2.1 : Int32)) (t0_6 := (p927.2.2.2.2.2.2.1 : Int32)) (t0_7 := (p927.2.2.2.2.2.2.2.1 : Int32)) (t0_8 := (p927.2.2.2.2.2.2.2.2.1 : Int32)) (t0_9 := (p927.2.2.2.2.2.2.2.2.2.1 : Int32)) (t0_10 := (p927.2.2.2.2.2.2.2.2.2.2.1 : Int32)) (t1_0 := t1_0) (t2_0 := t2_0) (t3_0 := (p927.2.2.2.2.2.2.2.2.2.2.2 : (Nat → Int32))) (by with_reducible assumption) m2.1 ⟨(by first | omega | decide), (by first | omega | decide), (by first | omega | decide), (by first | omega | decide)⟩ (by first | omega | decide) (by first | omega | decide) (by first | omega | decide)
                    with_reducible refine v_owe h126.1 ?_
                    replace h126 := h126.2
                    generalize F_DR_figures x2 (0 : Int32) (t2_0 x2.toNatClampNeg : Int32) ((a117 - ((F_DR_down3 a117) : Int32) : Int32) + 1 : Int32) (p927.1 : Int32) (p927.2.1 : Int32) (p927.2.2.1 : Int32) (p927.2.2.2.1 : Int64) (p927.2.2.2.2.1 : Int32) (p927.2.2.2.2.2.1 : Int32) (p927.2.2.2.2.2.2.1 : Int32) (p927.2.2.2.2.2.2.2.1 : Int32) (p927.2.2.2.2.2.2.2.2.1 : Int32) (p927.2.2.2.2.2.2.2.2.2.1 : Int32) (p927.2.2.2.2.2.2.2.2.2.2.1 : Int32) t1_0 t2_0 (p927.2.2.2.2.2.2.2.2.2.2.2 : (Nat → Int32)) = p224 at *
                    unfold Q_DR_figures at h126
                    unfold S_DR_written_c275 F_DR_written_c275
                    by_cases g127 : ((F_DR_down3 a117) : Int32) = (0 : Int32)
                    ·
                      rw [if_pos g127, if_pos g127]
                      refine ⟨trivial, ?_⟩
                      (unfold Q_DR_written; dsimp only; first | omega | exact ⟨by decide, by decide, fun _ => by decide⟩)
                    ·
                      rw [if_neg g127, if_neg g127]
                      have h128 := T_DR_exponent (x2 := ((F_DR_down3 a117) : Int32)) (t0_0 := (p224.1 : Int32)) (t0_1 := (p224.2.1 : Int32)) (t0_2 := (p224.2.2.1 : Int32)) (t0_3 := (p224.2.2.2.1 : Int64)) (t0_4 := (p224.2.2.2.2.1 : Int32)) (t0_5 := (p224.2.2.2.2.2.1 : Int32)) (t0_6 := (p224.2.2.2.2.2.2.1 : Int32)) (t0_7 := (p224.2.2.2.2.2.2.2.1 : Int32)) (t0_8 := (p224.2.2.2.2.2.2.2.2.1 : Int32)) (t0_9 := (p224.2.2.2.2.2.2.2.2.2.1 : Int32)) (t0_10 := (p224.2.2.2.2.2.2.2.2.2.2.1 : Int32)) (t1_0 := (p224.2.2.2.2.2.2.2.2.2.2.2 : (Nat → Int32))) ⟨(by first | omega | decide), (by first | omega | decide)⟩ ⟨(by first | omega | decide), (by first | omega | decide)⟩
                      with_reducible refine v_owe h128.1 ?_
                      replace h128 := h128.2
                      generalize F_DR_exponent ((F_DR_down3 a117) : Int32) (p224.1 : Int32) (p224.2.1 : Int32) (p224.2.2.1 : Int32) (p224.2.2.2.1 : Int64) (p224.2.2.2.2.1 : Int32) (p224.2.2.2.2.2.1 : Int32) (p224.2.2.2.2.2.2.1 : Int32) (p224.2.2.2.2.2.2.2.1 : Int32) (p224.2.2.2.2.2.2.2.2.1 : Int32) (p224.2.2.2.2.2.2.2.2.2.1 : Int32) (p224.2.2.2.2.2.2.2.2.2.2.1 : Int32) (p224.2.2.2.2.2.2.2.2.2.2.2 : (Nat → Int32)) = p287 at *
                      unfold Q_DR_exponent at h128
                      unfold S_DR_written_c286 F_DR_written_c286
                      refine ⟨trivial, ?_⟩
                      (unfold Q_DR_written; dsimp only; first | omega | exact ⟨by decide, by decide, fun _ => by decide⟩)
                ·
                  rw [if_neg g121, if_neg g121]
                  try have en : (-a117 : Int32).toInt = -a117.toInt := q_negI rfl (by omega)
                  try have hdm := g_down3 (a := -a117) ⟨by omega, by omega⟩
                  try have eb : (-(F_DR_down3 (-a117)) : Int32).toInt = -(F_DR_down3 (-a117)).toInt := q_negI rfl (by omega)
                  try have ec : (1 + (-(F_DR_down3 (-a117))) : Int32).toInt = 1 + -(F_DR_down3 (-a117)).toInt := q_addI (x := 1) (by decide) eb (by omega) (by omega)
                  try have ee : (1 + (-(F_DR_down3 (-a117))) - a117 : Int32).toInt = (1 + -(F_DR_down3 (-a117)).toInt) - a117.toInt := q_subI ec rfl (by omega) (by omega)
                  have h129 := T_DR_figures (x2 := x2) (x3 := (0 : Int32)) (x4 := ((1 + (-((F_DR_down3 (-a117 : Int32)) : Int32) : Int32) : Int32) - a117 : Int32)) (x5 := (1 : Int32)) (t0_0 := (p927.1 : Int32)) (t0_1 := (p927.2.1 : Int32)) (t0_2 := (p927.2.2.1 : Int32)) (t0_3 := (p927.2.2.2.1 : Int64)) (t0_4 := (p927.2.2.2.2.1 : Int32)) (t0_5 := (p927.2.2.2.2.2.1 : Int32)) (t0_6 := (p927.2.2.2.2.2.2.1 : Int32)) (t0_7 := (p927.2.2.2.2.2.2.2.1 : Int32)) (t0_8 := (p927.2.2.2.2.2.2.2.2.1 : Int32)) (t0_9 := (p927.2.2.2.2.2.2.2.2.2.1 : Int32)) (t0_10 := (p927.2.2.2.2.2.2.2.2.2.2.1 : Int32)) (t1_0 := t1_0) (t2_0 := t2_0) (t3_0 := (p927.2.2.2.2.2.2.2.2.2.2.2 : (Nat → Int32))) (by with_reducible assumption) m2.1 ⟨(by first | omega | decide), (by first | omega | decide), (by first | omega | decide), (by first | omega | decide)⟩ (by first | omega | decide) (by first | omega | decide) (by first | omega | decide)
                  with_reducible refine v_owe h129.1 ?_
                  replace h129 := h129.2
                  generalize F_DR_figures x2 (0 : Int32) ((1 + (-((F_DR_down3 (-a117 : Int32)) : Int32) : Int32) : Int32) - a117 : Int32) (1 : Int32) (p927.1 : Int32) (p927.2.1 : Int32) (p927.2.2.1 : Int32) (p927.2.2.2.1 : Int64) (p927.2.2.2.2.1 : Int32) (p927.2.2.2.2.2.1 : Int32) (p927.2.2.2.2.2.2.1 : Int32) (p927.2.2.2.2.2.2.2.1 : Int32) (p927.2.2.2.2.2.2.2.2.1 : Int32) (p927.2.2.2.2.2.2.2.2.2.1 : Int32) (p927.2.2.2.2.2.2.2.2.2.2.1 : Int32) t1_0 t2_0 (p927.2.2.2.2.2.2.2.2.2.2.2 : (Nat → Int32)) = p372 at *
                  unfold Q_DR_figures at h129
                  unfold S_DR_written_c219 F_DR_written_c219
                  by_cases g130 : (-((F_DR_down3 (-a117 : Int32)) : Int32) : Int32) = (0 : Int32)
                  ·
                    rw [if_pos g130, if_pos g130]
                    refine ⟨trivial, ?_⟩
                    (unfold Q_DR_written; dsimp only; first | omega | exact ⟨by decide, by decide, fun _ => by decide⟩)
                  ·
                    rw [if_neg g130, if_neg g130]
                    have h131 := T_DR_exponent (x2 := (-((F_DR_down3 (-a117 : Int32)) : Int32) : Int32)) (t0_0 := (p372.1 : Int32)) (t0_1 := (p372.2.1 : Int32)) (t0_2 := (p372.2.2.1 : Int32)) (t0_3 := (p372.2.2.2.1 : Int64)) (t0_4 := (p372.2.2.2.2.1 : Int32)) (t0_5 := (p372.2.2.2.2.2.1 : Int32)) (t0_6 := (p372.2.2.2.2.2.2.1 : Int32)) (t0_7 := (p372.2.2.2.2.2.2.2.1 : Int32)) (t0_8 := (p372.2.2.2.2.2.2.2.2.1 : Int32)) (t0_9 := (p372.2.2.2.2.2.2.2.2.2.1 : Int32)) (t0_10 := (p372.2.2.2.2.2.2.2.2.2.2.1 : Int32)) (t1_0 := (p372.2.2.2.2.2.2.2.2.2.2.2 : (Nat → Int32))) ⟨(by first | omega | decide), (by first | omega | decide)⟩ ⟨(by first | omega | decide), (by first | omega | decide)⟩
                    with_reducible refine v_owe h131.1 ?_
                    replace h131 := h131.2
                    generalize F_DR_exponent (-((F_DR_down3 (-a117 : Int32)) : Int32) : Int32) (p372.1 : Int32) (p372.2.1 : Int32) (p372.2.2.1 : Int32) (p372.2.2.2.1 : Int64) (p372.2.2.2.2.1 : Int32) (p372.2.2.2.2.2.1 : Int32) (p372.2.2.2.2.2.2.1 : Int32) (p372.2.2.2.2.2.2.2.1 : Int32) (p372.2.2.2.2.2.2.2.2.1 : Int32) (p372.2.2.2.2.2.2.2.2.2.1 : Int32) (p372.2.2.2.2.2.2.2.2.2.2.1 : Int32) (p372.2.2.2.2.2.2.2.2.2.2.2 : (Nat → Int32)) = p435 at *
                    unfold Q_DR_exponent at h131
                    unfold S_DR_written_c230 F_DR_written_c230
                    refine ⟨trivial, ?_⟩
                    (unfold Q_DR_written; dsimp only; first | omega | exact ⟨by decide, by decide, fun _ => by decide⟩)
            ·
              rw [if_neg g116, if_neg g116]
              have g116i := q_nltI g116
              rw [if_neg g82, if_neg g82]
              by_cases g132 : a117 < (-6 : Int32)
              ·
                rw [if_pos g132, if_pos g132]
                have g132i : a117.toInt < -6 := q_ltI g132
                unfold S_DR_written_J170 F_DR_written_J170
                by_cases g133 : x3 = (0 : Int32)
                ·
                  rw [if_pos g133, if_pos g133]
                  have g133i : x3.toInt = 0 := q_eqI g133
                  have h134 := T_DR_figures (x2 := x2) (x3 := (0 : Int32)) (x4 := (t2_0 x2.toNatClampNeg : Int32)) (x5 := (1 : Int32)) (t0_0 := (p927.1 : Int32)) (t0_1 := (p927.2.1 : Int32)) (t0_2 := (p927.2.2.1 : Int32)) (t0_3 := (p927.2.2.2.1 : Int64)) (t0_4 := (p927.2.2.2.2.1 : Int32)) (t0_5 := (p927.2.2.2.2.2.1 : Int32)) (t0_6 := (p927.2.2.2.2.2.2.1 : Int32)) (t0_7 := (p927.2.2.2.2.2.2.2.1 : Int32)) (t0_8 := (p927.2.2.2.2.2.2.2.2.1 : Int32)) (t0_9 := (p927.2.2.2.2.2.2.2.2.2.1 : Int32)) (t0_10 := (p927.2.2.2.2.2.2.2.2.2.2.1 : Int32)) (t1_0 := t1_0) (t2_0 := t2_0) (t3_0 := (p927.2.2.2.2.2.2.2.2.2.2.2 : (Nat → Int32))) (by with_reducible assumption) m2.1 ⟨(by first | omega | decide), (by first | omega | decide), (by first | omega | decide), (by first | omega | decide)⟩ (by first | omega | decide) (by first | omega | decide) (by first | omega | decide)
                  with_reducible refine v_owe h134.1 ?_
                  replace h134 := h134.2
                  generalize F_DR_figures x2 (0 : Int32) (t2_0 x2.toNatClampNeg : Int32) (1 : Int32) (p927.1 : Int32) (p927.2.1 : Int32) (p927.2.2.1 : Int32) (p927.2.2.2.1 : Int64) (p927.2.2.2.2.1 : Int32) (p927.2.2.2.2.2.1 : Int32) (p927.2.2.2.2.2.2.1 : Int32) (p927.2.2.2.2.2.2.2.1 : Int32) (p927.2.2.2.2.2.2.2.2.1 : Int32) (p927.2.2.2.2.2.2.2.2.2.1 : Int32) (p927.2.2.2.2.2.2.2.2.2.2.1 : Int32) t1_0 t2_0 (p927.2.2.2.2.2.2.2.2.2.2.2 : (Nat → Int32)) = p496 at *
                  unfold Q_DR_figures at h134
                  unfold S_DR_written_c179 F_DR_written_c179
                  have h135 := T_DR_exponent (x2 := a117) (t0_0 := (p496.1 : Int32)) (t0_1 := (p496.2.1 : Int32)) (t0_2 := (p496.2.2.1 : Int32)) (t0_3 := (p496.2.2.2.1 : Int64)) (t0_4 := (p496.2.2.2.2.1 : Int32)) (t0_5 := (p496.2.2.2.2.2.1 : Int32)) (t0_6 := (p496.2.2.2.2.2.2.1 : Int32)) (t0_7 := (p496.2.2.2.2.2.2.2.1 : Int32)) (t0_8 := (p496.2.2.2.2.2.2.2.2.1 : Int32)) (t0_9 := (p496.2.2.2.2.2.2.2.2.2.1 : Int32)) (t0_10 := (p496.2.2.2.2.2.2.2.2.2.2.1 : Int32)) (t1_0 := (p496.2.2.2.2.2.2.2.2.2.2.2 : (Nat → Int32))) ⟨(by first | omega | decide), (by first | omega | decide)⟩ ⟨(by first | omega | decide), (by first | omega | decide)⟩
                  with_reducible refine v_owe h135.1 ?_
                  replace h135 := h135.2
                  generalize F_DR_exponent a117 (p496.1 : Int32) (p496.2.1 : Int32) (p496.2.2.1 : Int32) (p496.2.2.2.1 : Int64) (p496.2.2.2.2.1 : Int32) (p496.2.2.2.2.2.1 : Int32) (p496.2.2.2.2.2.2.1 : Int32) (p496.2.2.2.2.2.2.2.1 : Int32) (p496.2.2.2.2.2.2.2.2.1 : Int32) (p496.2.2.2.2.2.2.2.2.2.1 : Int32) (p496.2.2.2.2.2.2.2.2.2.2.1 : Int32) (p496.2.2.2.2.2.2.2.2.2.2.2 : (Nat → Int32)) = p556 at *
                  unfold Q_DR_exponent at h135
                  unfold S_DR_written_c185 F_DR_written_c185
                  refine ⟨trivial, ?_⟩
                  (unfold Q_DR_written; dsimp only; first | omega | exact ⟨by decide, by decide, fun _ => by decide⟩)
                ·
                  rw [if_neg g133, if_neg g133]
                  have g133i : x3.toInt ≠ 0 := q_neI g133
                  have h136 := R_dz (x2 := x2) (t0_0 := (p927.1 : Int32)) (t0_1 := (p927.2.1 : Int32)) (t0_2 := (p927.2.2.1 : Int32)) (t0_3 := (p927.2.2.2.1 : Int64)) (t0_4 := (p927.2.2.2.2.1 : Int32)) (t0_5 := (p927.2.2.2.2.2.1 : Int32)) (t0_6 := (p927.2.2.2.2.2.2.1 : Int32)) (t0_7 := (p927.2.2.2.2.2.2.2.1 : Int32)) (t0_8 := (p927.2.2.2.2.2.2.2.2.1 : Int32)) (t0_9 := (p927.2.2.2.2.2.2.2.2.2.1 : Int32)) (t0_10 := (p927.2.2.2.2.2.2.2.2.2.2.1 : Int32)) (t1_0 := t1_0) (by with_reducible assumption)
                  with_reducible refine v_owe h136.1 ?_
                  by_cases g137 : ((F_DR_isZero x2 (p927.1 : Int32) (p927.2.1 : Int32) (p927.2.2.1 : Int32) (p927.2.2.2.1 : Int64) (p927.2.2.2.2.1 : Int32) (p927.2.2.2.2.2.1 : Int32) (p927.2.2.2.2.2.2.1 : Int32) (p927.2.2.2.2.2.2.2.1 : Int32) (p927.2.2.2.2.2.2.2.2.1 : Int32) (p927.2.2.2.2.2.2.2.2.2.1 : Int32) (p927.2.2.2.2.2.2.2.2.2.2.1 : Int32) t1_0) : Int32) = (0 : Int32)
                  ·
                    rw [if_pos g137, if_pos g137]
                    try have hdn := g_down3 (a := a117) ⟨by omega, by omega⟩
                    try have ed1 : (a117 - F_DR_down3 a117 : Int32).toInt = a117.toInt - (F_DR_down3 a117).toInt := q_subI rfl rfl (by omega) (by omega)
                    try have ed2 : (a117 - F_DR_down3 a117 + 1 : Int32).toInt = (a117.toInt - (F_DR_down3 a117).toInt) + 1 := q_addI (y := 1) ed1 (by decide) (by omega) (by omega)
                    by_cases g138 : (t2_0 x2.toNatClampNeg : Int32) ≤ ((a117 - ((F_DR_down3 a117) : Int32) : Int32) + 1 : Int32)
                    ·
                      rw [if_pos g138, if_pos g138]
                      have g138i := q_leI g138
                      unfold S_DR_written_J268 F_DR_written_J268
                      have h139 := T_DR_figures (x2 := x2) (x3 := (0 : Int32)) (x4 := ((a117 - ((F_DR_down3 a117) : Int32) : Int32) + 1 : Int32)) (x5 := ((a117 - ((F_DR_down3 a117) : Int32) : Int32) + 1 : Int32)) (t0_0 := (p927.1 : Int32)) (t0_1 := (p927.2.1 : Int32)) (t0_2 := (p927.2.2.1 : Int32)) (t0_3 := (p927.2.2.2.1 : Int64)) (t0_4 := (p927.2.2.2.2.1 : Int32)) (t0_5 := (p927.2.2.2.2.2.1 : Int32)) (t0_6 := (p927.2.2.2.2.2.2.1 : Int32)) (t0_7 := (p927.2.2.2.2.2.2.2.1 : Int32)) (t0_8 := (p927.2.2.2.2.2.2.2.2.1 : Int32)) (t0_9 := (p927.2.2.2.2.2.2.2.2.2.1 : Int32)) (t0_10 := (p927.2.2.2.2.2.2.2.2.2.2.1 : Int32)) (t1_0 := t1_0) (t2_0 := t2_0) (t3_0 := (p927.2.2.2.2.2.2.2.2.2.2.2 : (Nat → Int32))) (by with_reducible assumption) m2.1 ⟨(by first | omega | decide), (by first | omega | decide), (by first | omega | decide), (by first | omega | decide)⟩ (by first | omega | decide) (by first | omega | decide) (by first | omega | decide)
                      with_reducible refine v_owe h139.1 ?_
                      replace h139 := h139.2
                      generalize F_DR_figures x2 (0 : Int32) ((a117 - ((F_DR_down3 a117) : Int32) : Int32) + 1 : Int32) ((a117 - ((F_DR_down3 a117) : Int32) : Int32) + 1 : Int32) (p927.1 : Int32) (p927.2.1 : Int32) (p927.2.2.1 : Int32) (p927.2.2.2.1 : Int64) (p927.2.2.2.2.1 : Int32) (p927.2.2.2.2.2.1 : Int32) (p927.2.2.2.2.2.2.1 : Int32) (p927.2.2.2.2.2.2.2.1 : Int32) (p927.2.2.2.2.2.2.2.2.1 : Int32) (p927.2.2.2.2.2.2.2.2.2.1 : Int32) (p927.2.2.2.2.2.2.2.2.2.2.1 : Int32) t1_0 t2_0 (p927.2.2.2.2.2.2.2.2.2.2.2 : (Nat → Int32)) = p224 at *
                      unfold Q_DR_figures at h139
                      unfold S_DR_written_c275 F_DR_written_c275
                      by_cases g140 : ((F_DR_down3 a117) : Int32) = (0 : Int32)
                      ·
                        rw [if_pos g140, if_pos g140]
                        refine ⟨trivial, ?_⟩
                        (unfold Q_DR_written; dsimp only; first | omega | exact ⟨by decide, by decide, fun _ => by decide⟩)
                      ·
                        rw [if_neg g140, if_neg g140]
                        have h141 := T_DR_exponent (x2 := ((F_DR_down3 a117) : Int32)) (t0_0 := (p224.1 : Int32)) (t0_1 := (p224.2.1 : Int32)) (t0_2 := (p224.2.2.1 : Int32)) (t0_3 := (p224.2.2.2.1 : Int64)) (t0_4 := (p224.2.2.2.2.1 : Int32)) (t0_5 := (p224.2.2.2.2.2.1 : Int32)) (t0_6 := (p224.2.2.2.2.2.2.1 : Int32)) (t0_7 := (p224.2.2.2.2.2.2.2.1 : Int32)) (t0_8 := (p224.2.2.2.2.2.2.2.2.1 : Int32)) (t0_9 := (p224.2.2.2.2.2.2.2.2.2.1 : Int32)) (t0_10 := (p224.2.2.2.2.2.2.2.2.2.2.1 : Int32)) (t1_0 := (p224.2.2.2.2.2.2.2.2.2.2.2 : (Nat → Int32))) ⟨(by first | omega | decide), (by first | omega | decide)⟩ ⟨(by first | omega | decide), (by first | omega | decide)⟩
                        with_reducible refine v_owe h141.1 ?_
                        replace h141 := h141.2
                        generalize F_DR_exponent ((F_DR_down3 a117) : Int32) (p224.1 : Int32) (p224.2.1 : Int32) (p224.2.2.1 : Int32) (p224.2.2.2.1 : Int64) (p224.2.2.2.2.1 : Int32) (p224.2.2.2.2.2.1 : Int32) (p224.2.2.2.2.2.2.1 : Int32) (p224.2.2.2.2.2.2.2.1 : Int32) (p224.2.2.2.2.2.2.2.2.1 : Int32) (p224.2.2.2.2.2.2.2.2.2.1 : Int32) (p224.2.2.2.2.2.2.2.2.2.2.1 : Int32) (p224.2.2.2.2.2.2.2.2.2.2.2 : (Nat → Int32)) = p287 at *
                        unfold Q_DR_exponent at h141
                        unfold S_DR_written_c286 F_DR_written_c286
                        refine ⟨trivial, ?_⟩
                        (unfold Q_DR_written; dsimp only; first | omega | exact ⟨by decide, by decide, fun _ => by decide⟩)
                    ·
                      rw [if_neg g138, if_neg g138]
                      have g138i := q_nleI g138
                      unfold S_DR_written_J268 F_DR_written_J268
                      have h142 := T_DR_figures (x2 := x2) (x3 := (0 : Int32)) (x4 := (t2_0 x2.toNatClampNeg : Int32)) (x5 := ((a117 - ((F_DR_down3 a117) : Int32) : Int32) + 1 : Int32)) (t0_0 := (p927.1 : Int32)) (t0_1 := (p927.2.1 : Int32)) (t0_2 := (p927.2.2.1 : Int32)) (t0_3 := (p927.2.2.2.1 : Int64)) (t0_4 := (p927.2.2.2.2.1 : Int32)) (t0_5 := (p927.2.2.2.2.2.1 : Int32)) (t0_6 := (p927.2.2.2.2.2.2.1 : Int32)) (t0_7 := (p927.2.2.2.2.2.2.2.1 : Int32)) (t0_8 := (p927.2.2.2.2.2.2.2.2.1 : Int32)) (t0_9 := (p927.2.2.2.2.2.2.2.2.2.1 : Int32)) (t0_10 := (p927.2.2.2.2.2.2.2.2.2.2.1 : Int32)) (t1_0 := t1_0) (t2_0 := t2_0) (t3_0 := (p927.2.2.2.2.2.2.2.2.2.2.2 : (Nat → Int32))) (by with_reducible assumption) m2.1 ⟨(by first | omega | decide), (by first | omega | decide), (by first | omega | decide), (by first | omega | decide)⟩ (by first | omega | decide) (by first | omega | decide) (by first | omega | decide)
                      with_reducible refine v_owe h142.1 ?_
                      replace h142 := h142.2
                      generalize F_DR_figures x2 (0 : Int32) (t2_0 x2.toNatClampNeg : Int32) ((a117 - ((F_DR_down3 a117) : Int32) : Int32) + 1 : Int32) (p927.1 : Int32) (p927.2.1 : Int32) (p927.2.2.1 : Int32) (p927.2.2.2.1 : Int64) (p927.2.2.2.2.1 : Int32) (p927.2.2.2.2.2.1 : Int32) (p927.2.2.2.2.2.2.1 : Int32) (p927.2.2.2.2.2.2.2.1 : Int32) (p927.2.2.2.2.2.2.2.2.1 : Int32) (p927.2.2.2.2.2.2.2.2.2.1 : Int32) (p927.2.2.2.2.2.2.2.2.2.2.1 : Int32) t1_0 t2_0 (p927.2.2.2.2.2.2.2.2.2.2.2 : (Nat → Int32)) = p224 at *
                      unfold Q_DR_figures at h142
                      unfold S_DR_written_c275 F_DR_written_c275
                      by_cases g143 : ((F_DR_down3 a117) : Int32) = (0 : Int32)
                      ·
                        rw [if_pos g143, if_pos g143]
                        refine ⟨trivial, ?_⟩
                        (unfold Q_DR_written; dsimp only; first | omega | exact ⟨by decide, by decide, fun _ => by decide⟩)
                      ·
                        rw [if_neg g143, if_neg g143]
                        have h144 := T_DR_exponent (x2 := ((F_DR_down3 a117) : Int32)) (t0_0 := (p224.1 : Int32)) (t0_1 := (p224.2.1 : Int32)) (t0_2 := (p224.2.2.1 : Int32)) (t0_3 := (p224.2.2.2.1 : Int64)) (t0_4 := (p224.2.2.2.2.1 : Int32)) (t0_5 := (p224.2.2.2.2.2.1 : Int32)) (t0_6 := (p224.2.2.2.2.2.2.1 : Int32)) (t0_7 := (p224.2.2.2.2.2.2.2.1 : Int32)) (t0_8 := (p224.2.2.2.2.2.2.2.2.1 : Int32)) (t0_9 := (p224.2.2.2.2.2.2.2.2.2.1 : Int32)) (t0_10 := (p224.2.2.2.2.2.2.2.2.2.2.1 : Int32)) (t1_0 := (p224.2.2.2.2.2.2.2.2.2.2.2 : (Nat → Int32))) ⟨(by first | omega | decide), (by first | omega | decide)⟩ ⟨(by first | omega | decide), (by first | omega | decide)⟩
                        with_reducible refine v_owe h144.1 ?_
                        replace h144 := h144.2
                        generalize F_DR_exponent ((F_DR_down3 a117) : Int32) (p224.1 : Int32) (p224.2.1 : Int32) (p224.2.2.1 : Int32) (p224.2.2.2.1 : Int64) (p224.2.2.2.2.1 : Int32) (p224.2.2.2.2.2.1 : Int32) (p224.2.2.2.2.2.2.1 : Int32) (p224.2.2.2.2.2.2.2.1 : Int32) (p224.2.2.2.2.2.2.2.2.1 : Int32) (p224.2.2.2.2.2.2.2.2.2.1 : Int32) (p224.2.2.2.2.2.2.2.2.2.2.1 : Int32) (p224.2.2.2.2.2.2.2.2.2.2.2 : (Nat → Int32)) = p287 at *
                        unfold Q_DR_exponent at h144
                        unfold S_DR_written_c286 F_DR_written_c286
                        refine ⟨trivial, ?_⟩
                        (unfold Q_DR_written; dsimp only; first | omega | exact ⟨by decide, by decide, fun _ => by decide⟩)
                  ·
                    rw [if_neg g137, if_neg g137]
                    try have en : (-a117 : Int32).toInt = -a117.toInt := q_negI rfl (by omega)
                    try have hdm := g_down3 (a := -a117) ⟨by omega, by omega⟩
                    try have eb : (-(F_DR_down3 (-a117)) : Int32).toInt = -(F_DR_down3 (-a117)).toInt := q_negI rfl (by omega)
                    try have ec : (1 + (-(F_DR_down3 (-a117))) : Int32).toInt = 1 + -(F_DR_down3 (-a117)).toInt := q_addI (x := 1) (by decide) eb (by omega) (by omega)
                    try have ee : (1 + (-(F_DR_down3 (-a117))) - a117 : Int32).toInt = (1 + -(F_DR_down3 (-a117)).toInt) - a117.toInt := q_subI ec rfl (by omega) (by omega)
                    have h145 := T_DR_figures (x2 := x2) (x3 := (0 : Int32)) (x4 := ((1 + (-((F_DR_down3 (-a117 : Int32)) : Int32) : Int32) : Int32) - a117 : Int32)) (x5 := (1 : Int32)) (t0_0 := (p927.1 : Int32)) (t0_1 := (p927.2.1 : Int32)) (t0_2 := (p927.2.2.1 : Int32)) (t0_3 := (p927.2.2.2.1 : Int64)) (t0_4 := (p927.2.2.2.2.1 : Int32)) (t0_5 := (p927.2.2.2.2.2.1 : Int32)) (t0_6 := (p927.2.2.2.2.2.2.1 : Int32)) (t0_7 := (p927.2.2.2.2.2.2.2.1 : Int32)) (t0_8 := (p927.2.2.2.2.2.2.2.2.1 : Int32)) (t0_9 := (p927.2.2.2.2.2.2.2.2.2.1 : Int32)) (t0_10 := (p927.2.2.2.2.2.2.2.2.2.2.1 : Int32)) (t1_0 := t1_0) (t2_0 := t2_0) (t3_0 := (p927.2.2.2.2.2.2.2.2.2.2.2 : (Nat → Int32))) (by with_reducible assumption) m2.1 ⟨(by first | omega | decide), (by first | omega | decide), (by first | omega | decide), (by first | omega | decide)⟩ (by first | omega | decide) (by first | omega | decide) (by first | omega | decide)
                    with_reducible refine v_owe h145.1 ?_
                    replace h145 := h145.2
                    generalize F_DR_figures x2 (0 : Int32) ((1 + (-((F_DR_down3 (-a117 : Int32)) : Int32) : Int32) : Int32) - a117 : Int32) (1 : Int32) (p927.1 : Int32) (p927.2.1 : Int32) (p927.2.2.1 : Int32) (p927.2.2.2.1 : Int64) (p927.2.2.2.2.1 : Int32) (p927.2.2.2.2.2.1 : Int32) (p927.2.2.2.2.2.2.1 : Int32) (p927.2.2.2.2.2.2.2.1 : Int32) (p927.2.2.2.2.2.2.2.2.1 : Int32) (p927.2.2.2.2.2.2.2.2.2.1 : Int32) (p927.2.2.2.2.2.2.2.2.2.2.1 : Int32) t1_0 t2_0 (p927.2.2.2.2.2.2.2.2.2.2.2 : (Nat → Int32)) = p372 at *
                    unfold Q_DR_figures at h145
                    unfold S_DR_written_c219 F_DR_written_c219
                    by_cases g146 : (-((F_DR_down3 (-a117 : Int32)) : Int32) : Int32) = (0 : Int32)
                    ·
                      rw [if_pos g146, if_pos g146]
                      refine ⟨trivial, ?_⟩
                      (unfold Q_DR_written; dsimp only; first | omega | exact ⟨by decide, by decide, fun _ => by decide⟩)
                    ·
                      rw [if_neg g146, if_neg g146]
                      have h147 := T_DR_exponent (x2 := (-((F_DR_down3 (-a117 : Int32)) : Int32) : Int32)) (t0_0 := (p372.1 : Int32)) (t0_1 := (p372.2.1 : Int32)) (t0_2 := (p372.2.2.1 : Int32)) (t0_3 := (p372.2.2.2.1 : Int64)) (t0_4 := (p372.2.2.2.2.1 : Int32)) (t0_5 := (p372.2.2.2.2.2.1 : Int32)) (t0_6 := (p372.2.2.2.2.2.2.1 : Int32)) (t0_7 := (p372.2.2.2.2.2.2.2.1 : Int32)) (t0_8 := (p372.2.2.2.2.2.2.2.2.1 : Int32)) (t0_9 := (p372.2.2.2.2.2.2.2.2.2.1 : Int32)) (t0_10 := (p372.2.2.2.2.2.2.2.2.2.2.1 : Int32)) (t1_0 := (p372.2.2.2.2.2.2.2.2.2.2.2 : (Nat → Int32))) ⟨(by first | omega | decide), (by first | omega | decide)⟩ ⟨(by first | omega | decide), (by first | omega | decide)⟩
                      with_reducible refine v_owe h147.1 ?_
                      replace h147 := h147.2
                      generalize F_DR_exponent (-((F_DR_down3 (-a117 : Int32)) : Int32) : Int32) (p372.1 : Int32) (p372.2.1 : Int32) (p372.2.2.1 : Int32) (p372.2.2.2.1 : Int64) (p372.2.2.2.2.1 : Int32) (p372.2.2.2.2.2.1 : Int32) (p372.2.2.2.2.2.2.1 : Int32) (p372.2.2.2.2.2.2.2.1 : Int32) (p372.2.2.2.2.2.2.2.2.1 : Int32) (p372.2.2.2.2.2.2.2.2.2.1 : Int32) (p372.2.2.2.2.2.2.2.2.2.2.1 : Int32) (p372.2.2.2.2.2.2.2.2.2.2.2 : (Nat → Int32)) = p435 at *
                      unfold Q_DR_exponent at h147
                      unfold S_DR_written_c230 F_DR_written_c230
                      refine ⟨trivial, ?_⟩
                      (unfold Q_DR_written; dsimp only; first | omega | exact ⟨by decide, by decide, fun _ => by decide⟩)
              ·
                rw [if_neg g132, if_neg g132]
                have g132i : -6 ≤ a117.toInt := q_nltI g132
                unfold S_DR_written_J130 F_DR_written_J130
                by_cases g148 : (1 : Int32) ≤ ((t2_0 x2.toNatClampNeg : Int32) - (t4_0 x2.toNatClampNeg : Int32) : Int32)
                ·
                  rw [if_pos g148, if_pos g148]
                  have emc : ((t2_0 x2.toNatClampNeg) - (t4_0 x2.toNatClampNeg) : Int32).toInt = (t2_0 x2.toNatClampNeg).toInt - (t4_0 x2.toNatClampNeg).toInt := q_subI rfl rfl (by omega) (by omega)
                  have g148i := q_leI g148
                  unfold S_DR_written_J150 F_DR_written_J150
                  by_cases g149 : (t4_0 x2.toNatClampNeg : Int32) = (0 : Int32)
                  ·
                    rw [if_pos g149, if_pos g149]
                    have g149i := q_eqI g149
                    have h150 := T_DR_figures (x2 := x2) (x3 := (0 : Int32)) (x4 := (t2_0 x2.toNatClampNeg : Int32)) (x5 := (-1 : Int32)) (t0_0 := (p927.1 : Int32)) (t0_1 := (p927.2.1 : Int32)) (t0_2 := (p927.2.2.1 : Int32)) (t0_3 := (p927.2.2.2.1 : Int64)) (t0_4 := (p927.2.2.2.2.1 : Int32)) (t0_5 := (p927.2.2.2.2.2.1 : Int32)) (t0_6 := (p927.2.2.2.2.2.2.1 : Int32)) (t0_7 := (p927.2.2.2.2.2.2.2.1 : Int32)) (t0_8 := (p927.2.2.2.2.2.2.2.2.1 : Int32)) (t0_9 := (p927.2.2.2.2.2.2.2.2.2.1 : Int32)) (t0_10 := (p927.2.2.2.2.2.2.2.2.2.2.1 : Int32)) (t1_0 := t1_0) (t2_0 := t2_0) (t3_0 := (p927.2.2.2.2.2.2.2.2.2.2.2 : (Nat → Int32))) (by with_reducible assumption) m2.1 ⟨(by first | omega | decide), (by first | omega | decide), (by first | omega | decide), (by first | omega | decide)⟩ (by first | omega | decide) (by first | omega | decide) (by first | omega | decide)
                    with_reducible refine v_owe h150.1 ?_
                    replace h150 := h150.2
                    generalize F_DR_figures x2 (0 : Int32) (t2_0 x2.toNatClampNeg : Int32) (-1 : Int32) (p927.1 : Int32) (p927.2.1 : Int32) (p927.2.2.1 : Int32) (p927.2.2.2.1 : Int64) (p927.2.2.2.2.1 : Int32) (p927.2.2.2.2.2.1 : Int32) (p927.2.2.2.2.2.2.1 : Int32) (p927.2.2.2.2.2.2.2.1 : Int32) (p927.2.2.2.2.2.2.2.2.1 : Int32) (p927.2.2.2.2.2.2.2.2.2.1 : Int32) (p927.2.2.2.2.2.2.2.2.2.2.1 : Int32) t1_0 t2_0 (p927.2.2.2.2.2.2.2.2.2.2.2 : (Nat → Int32)) = p711 at *
                    unfold Q_DR_figures at h150
                    unfold S_DR_written_c164_15 F_DR_written_c164_15
                    refine ⟨trivial, ?_⟩
                    (unfold Q_DR_written; dsimp only; first | omega | exact ⟨by decide, by decide, fun _ => by decide⟩)
                  ·
                    rw [if_neg g149, if_neg g149]
                    have g149i := q_neI g149
                    have h151 := T_DR_figures (x2 := x2) (x3 := (0 : Int32)) (x4 := (t2_0 x2.toNatClampNeg : Int32)) (x5 := ((t2_0 x2.toNatClampNeg : Int32) - (t4_0 x2.toNatClampNeg : Int32) : Int32)) (t0_0 := (p927.1 : Int32)) (t0_1 := (p927.2.1 : Int32)) (t0_2 := (p927.2.2.1 : Int32)) (t0_3 := (p927.2.2.2.1 : Int64)) (t0_4 := (p927.2.2.2.2.1 : Int32)) (t0_5 := (p927.2.2.2.2.2.1 : Int32)) (t0_6 := (p927.2.2.2.2.2.2.1 : Int32)) (t0_7 := (p927.2.2.2.2.2.2.2.1 : Int32)) (t0_8 := (p927.2.2.2.2.2.2.2.2.1 : Int32)) (t0_9 := (p927.2.2.2.2.2.2.2.2.2.1 : Int32)) (t0_10 := (p927.2.2.2.2.2.2.2.2.2.2.1 : Int32)) (t1_0 := t1_0) (t2_0 := t2_0) (t3_0 := (p927.2.2.2.2.2.2.2.2.2.2.2 : (Nat → Int32))) (by with_reducible assumption) m2.1 ⟨(by first | omega | decide), (by first | omega | decide), (by first | omega | decide), (by first | omega | decide)⟩ (by first | omega | decide) (by first | omega | decide) (by first | omega | decide)
                    with_reducible refine v_owe h151.1 ?_
                    replace h151 := h151.2
                    generalize F_DR_figures x2 (0 : Int32) (t2_0 x2.toNatClampNeg : Int32) ((t2_0 x2.toNatClampNeg : Int32) - (t4_0 x2.toNatClampNeg : Int32) : Int32) (p927.1 : Int32) (p927.2.1 : Int32) (p927.2.2.1 : Int32) (p927.2.2.2.1 : Int64) (p927.2.2.2.2.1 : Int32) (p927.2.2.2.2.2.1 : Int32) (p927.2.2.2.2.2.2.1 : Int32) (p927.2.2.2.2.2.2.2.1 : Int32) (p927.2.2.2.2.2.2.2.2.1 : Int32) (p927.2.2.2.2.2.2.2.2.2.1 : Int32) (p927.2.2.2.2.2.2.2.2.2.2.1 : Int32) t1_0 t2_0 (p927.2.2.2.2.2.2.2.2.2.2.2 : (Nat → Int32)) = p650 at *
                    unfold Q_DR_figures at h151
                    unfold S_DR_written_c164 F_DR_written_c164
                    refine ⟨trivial, ?_⟩
                    (unfold Q_DR_written; dsimp only; first | omega | exact ⟨by decide, by decide, fun _ => by decide⟩)
                ·
                  rw [if_neg g148, if_neg g148]
                  have emc : ((t2_0 x2.toNatClampNeg) - (t4_0 x2.toNatClampNeg) : Int32).toInt = (t2_0 x2.toNatClampNeg).toInt - (t4_0 x2.toNatClampNeg).toInt := q_subI rfl rfl (by omega) (by omega)
                  have g148i := q_nleI g148
                  obtain ⟨lx592, e152⟩ := q_nm ((((t2_0 x2.toNatClampNeg : Int32) - (t4_0 x2.toNatClampNeg : Int32) : Int32) - 1 : Int32) : Int32)
                  rw [e152]
                  have l592 : lx592.toInt = (t2_0 x2.toNatClampNeg).toInt - (t4_0 x2.toNatClampNeg).toInt - 1 := by rw [← e152]; exact q_subI (y := 1) emc rfl (by omega) (by omega)
                  unfold S_DR_written_J150 F_DR_written_J150
                  by_cases g153 : (t4_0 x2.toNatClampNeg : Int32) = (0 : Int32)
                  ·
                    rw [if_pos g153, if_pos g153]
                    have g153i := q_eqI g153
                    have h154 := T_DR_figures (x2 := x2) (x3 := lx592) (x4 := (t2_0 x2.toNatClampNeg : Int32)) (x5 := (-1 : Int32)) (t0_0 := (p927.1 : Int32)) (t0_1 := (p927.2.1 : Int32)) (t0_2 := (p927.2.2.1 : Int32)) (t0_3 := (p927.2.2.2.1 : Int64)) (t0_4 := (p927.2.2.2.2.1 : Int32)) (t0_5 := (p927.2.2.2.2.2.1 : Int32)) (t0_6 := (p927.2.2.2.2.2.2.1 : Int32)) (t0_7 := (p927.2.2.2.2.2.2.2.1 : Int32)) (t0_8 := (p927.2.2.2.2.2.2.2.2.1 : Int32)) (t0_9 := (p927.2.2.2.2.2.2.2.2.2.1 : Int32)) (t0_10 := (p927.2.2.2.2.2.2.2.2.2.2.1 : Int32)) (t1_0 := t1_0) (t2_0 := t2_0) (t3_0 := (p927.2.2.2.2.2.2.2.2.2.2.2 : (Nat → Int32))) (by with_reducible assumption) m2.1 ⟨(by first | omega | decide), (by first | omega | decide), (by first | omega | decide), (by first | omega | decide)⟩ (by first | omega | decide) (by first | omega | decide) (by first | omega | decide)
                    with_reducible refine v_owe h154.1 ?_
                    replace h154 := h154.2
                    generalize F_DR_figures x2 lx592 (t2_0 x2.toNatClampNeg : Int32) (-1 : Int32) (p927.1 : Int32) (p927.2.1 : Int32) (p927.2.2.1 : Int32) (p927.2.2.2.1 : Int64) (p927.2.2.2.2.1 : Int32) (p927.2.2.2.2.2.1 : Int32) (p927.2.2.2.2.2.2.1 : Int32) (p927.2.2.2.2.2.2.2.1 : Int32) (p927.2.2.2.2.2.2.2.2.1 : Int32) (p927.2.2.2.2.2.2.2.2.2.1 : Int32) (p927.2.2.2.2.2.2.2.2.2.2.1 : Int32) t1_0 t2_0 (p927.2.2.2.2.2.2.2.2.2.2.2 : (Nat → Int32)) = p711 at *
                    unfold Q_DR_figures at h154
                    unfold S_DR_written_c164_15 F_DR_written_c164_15
                    refine ⟨trivial, ?_⟩
                    (unfold Q_DR_written; dsimp only; first | omega | exact ⟨by decide, by decide, fun _ => by decide⟩)
                  ·
                    rw [if_neg g153, if_neg g153]
                    have g153i := q_neI g153
                    have h155 := T_DR_figures (x2 := x2) (x3 := lx592) (x4 := (t2_0 x2.toNatClampNeg : Int32)) (x5 := ((t2_0 x2.toNatClampNeg : Int32) - (t4_0 x2.toNatClampNeg : Int32) : Int32)) (t0_0 := (p927.1 : Int32)) (t0_1 := (p927.2.1 : Int32)) (t0_2 := (p927.2.2.1 : Int32)) (t0_3 := (p927.2.2.2.1 : Int64)) (t0_4 := (p927.2.2.2.2.1 : Int32)) (t0_5 := (p927.2.2.2.2.2.1 : Int32)) (t0_6 := (p927.2.2.2.2.2.2.1 : Int32)) (t0_7 := (p927.2.2.2.2.2.2.2.1 : Int32)) (t0_8 := (p927.2.2.2.2.2.2.2.2.1 : Int32)) (t0_9 := (p927.2.2.2.2.2.2.2.2.2.1 : Int32)) (t0_10 := (p927.2.2.2.2.2.2.2.2.2.2.1 : Int32)) (t1_0 := t1_0) (t2_0 := t2_0) (t3_0 := (p927.2.2.2.2.2.2.2.2.2.2.2 : (Nat → Int32))) (by with_reducible assumption) m2.1 ⟨(by first | omega | decide), (by first | omega | decide), (by first | omega | decide), (by first | omega | decide)⟩ (by first | omega | decide) (by first | omega | decide) (by first | omega | decide)
                    with_reducible refine v_owe h155.1 ?_
                    replace h155 := h155.2
                    generalize F_DR_figures x2 lx592 (t2_0 x2.toNatClampNeg : Int32) ((t2_0 x2.toNatClampNeg : Int32) - (t4_0 x2.toNatClampNeg : Int32) : Int32) (p927.1 : Int32) (p927.2.1 : Int32) (p927.2.2.1 : Int32) (p927.2.2.2.1 : Int64) (p927.2.2.2.2.1 : Int32) (p927.2.2.2.2.2.1 : Int32) (p927.2.2.2.2.2.2.1 : Int32) (p927.2.2.2.2.2.2.2.1 : Int32) (p927.2.2.2.2.2.2.2.2.1 : Int32) (p927.2.2.2.2.2.2.2.2.2.1 : Int32) (p927.2.2.2.2.2.2.2.2.2.2.1 : Int32) t1_0 t2_0 (p927.2.2.2.2.2.2.2.2.2.2.2 : (Nat → Int32)) = p650 at *
                    unfold Q_DR_figures at h155
                    unfold S_DR_written_c164 F_DR_written_c164
                    refine ⟨trivial, ?_⟩
                    (unfold Q_DR_written; dsimp only; first | omega | exact ⟨by decide, by decide, fun _ => by decide⟩)
      ·
        rw [if_neg g4, if_neg g4]
        have g4i : 2 < x3.toInt := q_nleI g4
        unfold S_DR_written_J17 F_DR_written_J17
        unfold S_DR_written_J22 F_DR_written_J22
        have g156 : ¬ ((1 : Int32) ≤ (0 : Int32)) := (by decide)
        rw [if_neg g156, if_neg g156]
        refine ⟨trivial, ?_⟩
        (unfold Q_DR_written; dsimp only; first | omega | exact ⟨by decide, by decide, fun _ => by decide⟩)
  ·
    rw [if_neg g1, if_neg g1]
    unfold S_DR_written_J17 F_DR_written_J17
    unfold S_DR_written_J22 F_DR_written_J22
    have g157 : ¬ ((1 : Int32) ≤ (0 : Int32)) := (by decide)
    rw [if_neg g157, if_neg g157]
    refine ⟨trivial, ?_⟩
    (unfold Q_DR_written; dsimp only; first | omega | exact ⟨by decide, by decide, fun _ => by decide⟩)
