/-! DecimalRows: print, figures, exponent -/
theorem R_print {x2 : Int32} {t0_0 : Int32} {t0_1 : Int32} {t0_2 : Int32} {t0_3 : Int64} {t0_4 : Int32} {t0_5 : Int32} {t0_6 : Int32} {t0_7 : Int32} {t0_8 : Int32} {t0_9 : Int32} {t0_10 : Int32} {t1_0 : (Nat → Int32)} (h : 0 ≤ t0_9.toInt ∧ t0_9.toInt ≤ 12199) : S_DR_print x2 t0_0 t0_1 t0_2 t0_3 t0_4 t0_5 t0_6 t0_7 t0_8 t0_9 t0_10 t1_0 ∧ (F_DR_print x2 t0_0 t0_1 t0_2 t0_3 t0_4 t0_5 t0_6 t0_7 t0_8 t0_9 t0_10 t1_0).2.2.2.2.2.2.2.2.2.1.toInt = t0_9.toInt + 1 := by
  unfold S_DR_print F_DR_print
  exact ⟨⟨h.2, trivial⟩, q_addI (y := 1) rfl (by decide) (by omega) (by omega)⟩
def Q_DR_figures (x3 x4 t0_9 : Int32) (p : Int32 × Int32 × Int32 × Int64 × Int32 × Int32 × Int32 × Int32 × Int32 × Int32 × Int32 × (Nat → Int32)) : Prop := t0_9.toInt ≤ p.2.2.2.2.2.2.2.2.2.1.toInt ∧ (p.2.2.2.2.2.2.2.2.2.1.toInt ≤ t0_9.toInt + 1 ∨ p.2.2.2.2.2.2.2.2.2.1.toInt ≤ t0_9.toInt + (x4.toInt - x3.toInt) + 1)
theorem v_fig {x2 : Int32} {x3 : Int32} {x4 : Int32} {x5 : Int32} {t0_0 : Int32} {t0_1 : Int32} {t0_2 : Int32} {t0_3 : Int64} {t0_4 : Int32} {t0_5 : Int32} {t0_6 : Int32} {t0_7 : Int32} {t0_8 : Int32} {t0_9 : Int32} {t0_10 : Int32} {t1_0 : (Nat → Int32)} {t2_0 : (Nat → Int32)} {t3_0 : (Nat → Int32)} (hx : 0 ≤ x2.toInt ∧ x2.toInt ≤ 9) (hm1 : 1 ≤ (t2_0 x2.toNatClampNeg).toInt ∧ (t2_0 x2.toNatClampNeg).toInt ≤ 1000) (h34 : -30000 ≤ x3.toInt ∧ x3.toInt ≤ 30000 ∧ -30000 ≤ x4.toInt ∧ x4.toInt ≤ 30000) (h9 : 0 ≤ t0_9.toInt) (hr : x4.toInt - x3.toInt ≤ 12000 - t0_9.toInt) (hr0 : t0_9.toInt ≤ 12000) : ∀ (n : Nat) (lx40 : Int32) (lx41 : Int32) (lx42 : Int32) (lx43 : Int32) (lx44 : Int64) (lx45 : Int32) (lx46 : Int32) (lx47 : Int32) (lx48 : Int32) (lx49 : Int32) (lx50 : Int32) (lx51 : Int32) (lx52 : (Nat → Int32)), (x3.toInt ≤ lx40.toInt ∧ lx40.toInt ≤ 30000 ∧ (lx40.toInt ≤ x4.toInt ∨ lx40.toInt = x3.toInt)) → (x4.toInt - lx40.toInt < (n : Int)) → ((1 : Int) ≤ n ∨ lx40.toInt ≤ x4.toInt) → (t0_9.toInt ≤ lx50.toInt ∧ ((lx50.toInt ≤ t0_9.toInt + (lx40.toInt - x3.toInt) ∧ lx40.toInt ≤ x5.toInt) ∨ (lx50.toInt ≤ t0_9.toInt + (lx40.toInt - x3.toInt) ∧ x5.toInt < x3.toInt) ∨ (lx50.toInt ≤ t0_9.toInt + (lx40.toInt - x3.toInt) + 1 ∧ x5.toInt < lx40.toInt))) → (S_DR_figures_L3 x2 x3 x4 x5 t0_0 t0_1 t0_2 t0_3 t0_4 t0_5 t0_6 t0_7 t0_8 t0_9 t0_10 t1_0 t2_0 t3_0 n lx40 lx41 lx42 lx43 lx44 lx45 lx46 lx47 lx48 lx49 lx50 lx51 lx52) ∧ Q_DR_figures x3 x4 t0_9 (F_DR_figures_L3 x2 x3 x4 x5 t0_0 t0_1 t0_2 t0_3 t0_4 t0_5 t0_6 t0_7 t0_8 t0_9 t0_10 t1_0 t2_0 t3_0 n lx40 lx41 lx42 lx43 lx44 lx45 lx46 lx47 lx48 lx49 lx50 lx51 lx52) := by
  intro n
  induction n with
  | zero => intro lx40 lx41 lx42 lx43 lx44 lx45 lx46 lx47 lx48 lx49 lx50 lx51 lx52 h0 hm hn hp; exact absurd (show False by omega) id
  | succ n ih =>
    intro lx40 lx41 lx42 lx43 lx44 lx45 lx46 lx47 lx48 lx49 lx50 lx51 lx52 h0 hm hn hp
    have e0 : (0 : Int32).toInt = 0 := rfl
    rw [S_DR_figures_L3.eq_2, F_DR_figures_L3.eq_2]
    by_cases g1 : x4 ≤ lx40
    ·
      rw [if_pos g1, if_pos g1]
      have g1i : x4.toInt ≤ lx40.toInt := q_leI g1
      refine ⟨trivial, ?_⟩
      (unfold Q_DR_figures; dsimp only; omega)
    ·
      rw [if_neg g1, if_neg g1]
      have g1i : lx40.toInt < x4.toInt := q_nleI g1
      by_cases g2 : lx40 = x5
      ·
        rw [if_pos g2, if_pos g2]
        have g2i : lx40.toInt = x5.toInt := q_eqI g2
        have h3 := R_print (x2 := (46 : Int32)) (t0_0 := lx41) (t0_1 := lx42) (t0_2 := lx43) (t0_3 := lx44) (t0_4 := lx45) (t0_5 := lx46) (t0_6 := lx47) (t0_7 := lx48) (t0_8 := lx49) (t0_9 := lx50) (t0_10 := lx51) (t1_0 := lx52) ⟨by first | omega | decide, by first | omega | decide⟩
        with_reducible refine v_owe h3.1 ?_
        replace h3 := h3.2
        generalize F_DR_print (46 : Int32) lx41 lx42 lx43 lx44 lx45 lx46 lx47 lx48 lx49 lx50 lx51 lx52 = p394 at *
        unfold S_DR_figures_c19 F_DR_figures_c19
        unfold S_DR_figures_J22 F_DR_figures_J22
        by_cases g4 : lx40 < (0 : Int32)
        ·
          rw [if_pos g4, if_pos g4]
          have g4i : lx40.toInt < 0 := q_ltI g4
          have h5 := R_print (x2 := (48 : Int32)) (t0_0 := (p394.1 : Int32)) (t0_1 := (p394.2.1 : Int32)) (t0_2 := (p394.2.2.1 : Int32)) (t0_3 := (p394.2.2.2.1 : Int64)) (t0_4 := (p394.2.2.2.2.1 : Int32)) (t0_5 := (p394.2.2.2.2.2.1 : Int32)) (t0_6 := (p394.2.2.2.2.2.2.1 : Int32)) (t0_7 := (p394.2.2.2.2.2.2.2.1 : Int32)) (t0_8 := (p394.2.2.2.2.2.2.2.2.1 : Int32)) (t0_9 := (p394.2.2.2.2.2.2.2.2.2.1 : Int32)) (t0_10 := (p394.2.2.2.2.2.2.2.2.2.2.1 : Int32)) (t1_0 := (p394.2.2.2.2.2.2.2.2.2.2.2 : (Nat → Int32))) ⟨by first | omega | decide, by first | omega | decide⟩
          with_reducible refine v_owe h5.1 ?_
          replace h5 := h5.2
          generalize F_DR_print (48 : Int32) (p394.1 : Int32) (p394.2.1 : Int32) (p394.2.2.1 : Int32) (p394.2.2.2.1 : Int64) (p394.2.2.2.2.1 : Int32) (p394.2.2.2.2.2.1 : Int32) (p394.2.2.2.2.2.2.1 : Int32) (p394.2.2.2.2.2.2.2.1 : Int32) (p394.2.2.2.2.2.2.2.2.1 : Int32) (p394.2.2.2.2.2.2.2.2.2.1 : Int32) (p394.2.2.2.2.2.2.2.2.2.2.1 : Int32) (p394.2.2.2.2.2.2.2.2.2.2.2 : (Nat → Int32)) = p180 at *
          unfold S_DR_figures_c59 F_DR_figures_c59
          obtain ⟨a6, e7⟩ := q_nm (lx40 + 1 : Int32)
          rw [e7]
          have a6i : a6.toInt = lx40.toInt + 1 := by rw [← e7]; exact q_addI (x := lx40.toInt) (y := 1) rfl (by decide) (by omega) (by omega)
          exact ih _ _ _ _ _ _ _ _ _ _ _ _ _ (by first | omega | decide) (by first | omega | decide) (by first | omega | decide) (by first | omega | decide)
        ·
          rw [if_neg g4, if_neg g4]
          have g4i : 0 ≤ lx40.toInt := q_nltI g4
          refine v_cons (by omega) ?_
          refine v_cons (by omega) ?_
          by_cases g8 : (t2_0 x2.toNatClampNeg : Int32) ≤ lx40
          ·
            rw [if_pos g8, if_pos g8]
            have g8i := q_leI g8
            have h9 := R_print (x2 := (48 : Int32)) (t0_0 := (p394.1 : Int32)) (t0_1 := (p394.2.1 : Int32)) (t0_2 := (p394.2.2.1 : Int32)) (t0_3 := (p394.2.2.2.1 : Int64)) (t0_4 := (p394.2.2.2.2.1 : Int32)) (t0_5 := (p394.2.2.2.2.2.1 : Int32)) (t0_6 := (p394.2.2.2.2.2.2.1 : Int32)) (t0_7 := (p394.2.2.2.2.2.2.2.1 : Int32)) (t0_8 := (p394.2.2.2.2.2.2.2.2.1 : Int32)) (t0_9 := (p394.2.2.2.2.2.2.2.2.2.1 : Int32)) (t0_10 := (p394.2.2.2.2.2.2.2.2.2.2.1 : Int32)) (t1_0 := (p394.2.2.2.2.2.2.2.2.2.2.2 : (Nat → Int32))) ⟨by first | omega | decide, by first | omega | decide⟩
            with_reducible refine v_owe h9.1 ?_
            replace h9 := h9.2
            generalize F_DR_print (48 : Int32) (p394.1 : Int32) (p394.2.1 : Int32) (p394.2.2.1 : Int32) (p394.2.2.2.1 : Int64) (p394.2.2.2.2.1 : Int32) (p394.2.2.2.2.2.1 : Int32) (p394.2.2.2.2.2.2.1 : Int32) (p394.2.2.2.2.2.2.2.1 : Int32) (p394.2.2.2.2.2.2.2.2.1 : Int32) (p394.2.2.2.2.2.2.2.2.2.1 : Int32) (p394.2.2.2.2.2.2.2.2.2.2.1 : Int32) (p394.2.2.2.2.2.2.2.2.2.2.2 : (Nat → Int32)) = p251 at *
            unfold S_DR_figures_c59_4 F_DR_figures_c59_4
            obtain ⟨a10, e11⟩ := q_nm (lx40 + 1 : Int32)
            rw [e11]
            have a10i : a10.toInt = lx40.toInt + 1 := by rw [← e11]; exact q_addI (x := lx40.toInt) (y := 1) rfl (by decide) (by omega) (by omega)
            exact ih _ _ _ _ _ _ _ _ _ _ _ _ _ (by first | omega | decide) (by first | omega | decide) (by first | omega | decide) (by first | omega | decide)
          ·
            rw [if_neg g8, if_neg g8]
            have g8i := q_nleI g8
            refine v_cons (by have := (g_ix (x := x2) (k := lx40) (by with_reducible assumption) ⟨by omega, by omega⟩).1; omega) ?_
            refine v_cons (by have := (g_ix (x := x2) (k := lx40) (by with_reducible assumption) ⟨by omega, by omega⟩).1; omega) ?_
            have h12 := R_print (x2 := (48 + (t1_0 ((1000 * x2 : Int32) + lx40 : Int32).toNatClampNeg : Int32) : Int32)) (t0_0 := (p394.1 : Int32)) (t0_1 := (p394.2.1 : Int32)) (t0_2 := (p394.2.2.1 : Int32)) (t0_3 := (p394.2.2.2.1 : Int64)) (t0_4 := (p394.2.2.2.2.1 : Int32)) (t0_5 := (p394.2.2.2.2.2.1 : Int32)) (t0_6 := (p394.2.2.2.2.2.2.1 : Int32)) (t0_7 := (p394.2.2.2.2.2.2.2.1 : Int32)) (t0_8 := (p394.2.2.2.2.2.2.2.2.1 : Int32)) (t0_9 := (p394.2.2.2.2.2.2.2.2.2.1 : Int32)) (t0_10 := (p394.2.2.2.2.2.2.2.2.2.2.1 : Int32)) (t1_0 := (p394.2.2.2.2.2.2.2.2.2.2.2 : (Nat → Int32))) ⟨by first | omega | decide, by first | omega | decide⟩
            with_reducible refine v_owe h12.1 ?_
            replace h12 := h12.2
            generalize F_DR_print (48 + (t1_0 ((1000 * x2 : Int32) + lx40 : Int32).toNatClampNeg : Int32) : Int32) (p394.1 : Int32) (p394.2.1 : Int32) (p394.2.2.1 : Int32) (p394.2.2.2.1 : Int64) (p394.2.2.2.2.1 : Int32) (p394.2.2.2.2.2.1 : Int32) (p394.2.2.2.2.2.2.1 : Int32) (p394.2.2.2.2.2.2.2.1 : Int32) (p394.2.2.2.2.2.2.2.2.1 : Int32) (p394.2.2.2.2.2.2.2.2.2.1 : Int32) (p394.2.2.2.2.2.2.2.2.2.2.1 : Int32) (p394.2.2.2.2.2.2.2.2.2.2.2 : (Nat → Int32)) = p327 at *
            unfold S_DR_figures_c59_5 F_DR_figures_c59_5
            obtain ⟨a13, e14⟩ := q_nm (lx40 + 1 : Int32)
            rw [e14]
            have a13i : a13.toInt = lx40.toInt + 1 := by rw [← e14]; exact q_addI (x := lx40.toInt) (y := 1) rfl (by decide) (by omega) (by omega)
            exact ih _ _ _ _ _ _ _ _ _ _ _ _ _ (by first | omega | decide) (by first | omega | decide) (by first | omega | decide) (by first | omega | decide)
      ·
        rw [if_neg g2, if_neg g2]
        have g2i : lx40.toInt ≠ x5.toInt := q_neI g2
        unfold S_DR_figures_J22 F_DR_figures_J22
        by_cases g15 : lx40 < (0 : Int32)
        ·
          rw [if_pos g15, if_pos g15]
          have g15i : lx40.toInt < 0 := q_ltI g15
          have h16 := R_print (x2 := (48 : Int32)) (t0_0 := lx41) (t0_1 := lx42) (t0_2 := lx43) (t0_3 := lx44) (t0_4 := lx45) (t0_5 := lx46) (t0_6 := lx47) (t0_7 := lx48) (t0_8 := lx49) (t0_9 := lx50) (t0_10 := lx51) (t1_0 := lx52) ⟨by first | omega | decide, by first | omega | decide⟩
          with_reducible refine v_owe h16.1 ?_
          replace h16 := h16.2
          generalize F_DR_print (48 : Int32) lx41 lx42 lx43 lx44 lx45 lx46 lx47 lx48 lx49 lx50 lx51 lx52 = p180 at *
          unfold S_DR_figures_c59 F_DR_figures_c59
          obtain ⟨a17, e18⟩ := q_nm (lx40 + 1 : Int32)
          rw [e18]
          have a17i : a17.toInt = lx40.toInt + 1 := by rw [← e18]; exact q_addI (x := lx40.toInt) (y := 1) rfl (by decide) (by omega) (by omega)
          exact ih _ _ _ _ _ _ _ _ _ _ _ _ _ (by first | omega | decide) (by first | omega | decide) (by first | omega | decide) (by first | omega | decide)
        ·
          rw [if_neg g15, if_neg g15]
          have g15i : 0 ≤ lx40.toInt := q_nltI g15
          refine v_cons (by omega) ?_
          refine v_cons (by omega) ?_
          by_cases g19 : (t2_0 x2.toNatClampNeg : Int32) ≤ lx40
          ·
            rw [if_pos g19, if_pos g19]
            have g19i := q_leI g19
            have h20 := R_print (x2 := (48 : Int32)) (t0_0 := lx41) (t0_1 := lx42) (t0_2 := lx43) (t0_3 := lx44) (t0_4 := lx45) (t0_5 := lx46) (t0_6 := lx47) (t0_7 := lx48) (t0_8 := lx49) (t0_9 := lx50) (t0_10 := lx51) (t1_0 := lx52) ⟨by first | omega | decide, by first | omega | decide⟩
            with_reducible refine v_owe h20.1 ?_
            replace h20 := h20.2
            generalize F_DR_print (48 : Int32) lx41 lx42 lx43 lx44 lx45 lx46 lx47 lx48 lx49 lx50 lx51 lx52 = p251 at *
            unfold S_DR_figures_c59_4 F_DR_figures_c59_4
            obtain ⟨a21, e22⟩ := q_nm (lx40 + 1 : Int32)
            rw [e22]
            have a21i : a21.toInt = lx40.toInt + 1 := by rw [← e22]; exact q_addI (x := lx40.toInt) (y := 1) rfl (by decide) (by omega) (by omega)
            exact ih _ _ _ _ _ _ _ _ _ _ _ _ _ (by first | omega | decide) (by first | omega | decide) (by first | omega | decide) (by first | omega | decide)
          ·
            rw [if_neg g19, if_neg g19]
            have g19i := q_nleI g19
            refine v_cons (by have := (g_ix (x := x2) (k := lx40) (by with_reducible assumption) ⟨by omega, by omega⟩).1; omega) ?_
            refine v_cons (by have := (g_ix (x := x2) (k := lx40) (by with_reducible assumption) ⟨by omega, by omega⟩).1; omega) ?_
            have h23 := R_print (x2 := (48 + (t1_0 ((1000 * x2 : Int32) + lx40 : Int32).toNatClampNeg : Int32) : Int32)) (t0_0 := lx41) (t0_1 := lx42) (t0_2 := lx43) (t0_3 := lx44) (t0_4 := lx45) (t0_5 := lx46) (t0_6 := lx47) (t0_7 := lx48) (t0_8 := lx49) (t0_9 := lx50) (t0_10 := lx51) (t1_0 := lx52) ⟨by first | omega | decide, by first | omega | decide⟩
            with_reducible refine v_owe h23.1 ?_
            replace h23 := h23.2
            generalize F_DR_print (48 + (t1_0 ((1000 * x2 : Int32) + lx40 : Int32).toNatClampNeg : Int32) : Int32) lx41 lx42 lx43 lx44 lx45 lx46 lx47 lx48 lx49 lx50 lx51 lx52 = p327 at *
            unfold S_DR_figures_c59_5 F_DR_figures_c59_5
            obtain ⟨a24, e25⟩ := q_nm (lx40 + 1 : Int32)
            rw [e25]
            have a24i : a24.toInt = lx40.toInt + 1 := by rw [← e25]; exact q_addI (x := lx40.toInt) (y := 1) rfl (by decide) (by omega) (by omega)
            exact ih _ _ _ _ _ _ _ _ _ _ _ _ _ (by first | omega | decide) (by first | omega | decide) (by first | omega | decide) (by first | omega | decide)
theorem T_DR_figures {x2 : Int32} {x3 : Int32} {x4 : Int32} {x5 : Int32} {t0_0 : Int32} {t0_1 : Int32} {t0_2 : Int32} {t0_3 : Int64} {t0_4 : Int32} {t0_5 : Int32} {t0_6 : Int32} {t0_7 : Int32} {t0_8 : Int32} {t0_9 : Int32} {t0_10 : Int32} {t1_0 : (Nat → Int32)} {t2_0 : (Nat → Int32)} {t3_0 : (Nat → Int32)} (hx : 0 ≤ x2.toInt ∧ x2.toInt ≤ 9) (hm1 : 1 ≤ (t2_0 x2.toNatClampNeg).toInt ∧ (t2_0 x2.toNatClampNeg).toInt ≤ 1000) (h34 : -30000 ≤ x3.toInt ∧ x3.toInt ≤ 30000 ∧ -30000 ≤ x4.toInt ∧ x4.toInt ≤ 30000) (h9 : 0 ≤ t0_9.toInt) (hr : x4.toInt - x3.toInt ≤ 12000 - t0_9.toInt) (hr0 : t0_9.toInt ≤ 12000) : (S_DR_figures x2 x3 x4 x5 t0_0 t0_1 t0_2 t0_3 t0_4 t0_5 t0_6 t0_7 t0_8 t0_9 t0_10 t1_0 t2_0 t3_0) ∧ Q_DR_figures x3 x4 t0_9 (F_DR_figures x2 x3 x4 x5 t0_0 t0_1 t0_2 t0_3 t0_4 t0_5 t0_6 t0_7 t0_8 t0_9 t0_10 t1_0 t2_0 t3_0) := by
  have e0 : (0 : Int32).toInt = 0 := rfl
  unfold S_DR_figures F_DR_figures
  exact v_fig hx hm1 h34 h9 hr hr0 _ _ _ _ _ _ _ _ _ _ _ _ _ _ (by omega) (by omega) (by omega) (by omega)
theorem g_d10 {v : Int32} (h : 0 ≤ v.toInt) : (v / 10).toInt = v.toInt / 10 := g_q10 h
def Q_DR_exponent (t0_9 : Int32) (p : Int32 × Int32 × Int32 × Int64 × Int32 × Int32 × Int32 × Int32 × Int32 × Int32 × Int32 × (Nat → Int32)) : Prop := t0_9.toInt ≤ p.2.2.2.2.2.2.2.2.2.1.toInt ∧ p.2.2.2.2.2.2.2.2.2.1.toInt ≤ t0_9.toInt + 9
theorem v_exp2 {K_F_DR_exponent_L34 : Int32 → (Int32 × Int32 × Int32 × Int64 × Int32 × Int32 × Int32 × Int32 × Int32 × Int32 × Int32 × (Nat → Int32))} {x2 : Int32} {t0_0 : Int32} {t0_1 : Int32} {t0_2 : Int32} {t0_3 : Int64} {t0_4 : Int32} {t0_5 : Int32} {t0_6 : Int32} {t0_7 : Int32} {t0_8 : Int32} {t0_9 : Int32} {t0_10 : Int32} {t1_0 : (Nat → Int32)} {p62 : (Int32 × Int32 × Int32 × Int64 × Int32 × Int32 × Int32 × Int32 × Int32 × Int32 × Int32 × (Nat → Int32))} {y24 : Int32} {y25 : Int32} {y26 : Int32} {y27 : Int64} {y28 : Int32} {y29 : Int32} {y30 : Int32} {y31 : Int32} {y32 : Int32} {y33 : Int32} {y34 : Int32} {f35 : (Nat → Int32)} {lx81 : Int32} {p134 : (Int32 × Int32 × Int32 × Int64 × Int32 × Int32 × Int32 × Int32 × Int32 × Int32 × Int32 × (Nat → Int32))} {y96 : Int32} {y97 : Int32} {y98 : Int32} {y99 : Int64} {y100 : Int32} {y101 : Int32} {y102 : Int32} {y103 : Int32} {y104 : Int32} {y105 : Int32} {y106 : Int32} {f107 : (Nat → Int32)} {lx153 : Int32} {lx163 : Int32} {K_S_DR_exponent_L34 : Int32 → Prop} (h9 : 0 ≤ t0_9.toInt ∧ t0_9.toInt ≤ 12100) (h153 : 0 ≤ lx153.toInt ∧ lx153.toInt ≤ 50000) : ∀ (n : Nat) (lx176 : Int32) (lx177 : Int32) (lx178 : Int32) (lx179 : Int32) (lx180 : Int64) (lx181 : Int32) (lx182 : Int32) (lx183 : Int32) (lx184 : Int32) (lx185 : Int32) (lx186 : Int32) (lx187 : Int32) (lx188 : (Nat → Int32)), (0 ≤ lx176.toInt ∧ lx176.toInt ≤ 100000) → (lx176.toInt < (n : Int)) → (t0_9.toInt ≤ lx186.toInt ∧ ((lx176.toInt < 1 ∧ lx186.toInt ≤ t0_9.toInt + 8) ∨ (lx176.toInt < 10 ∧ lx186.toInt ≤ t0_9.toInt + 7) ∨ (lx176.toInt < 100 ∧ lx186.toInt ≤ t0_9.toInt + 6) ∨ (lx176.toInt < 1000 ∧ lx186.toInt ≤ t0_9.toInt + 5) ∨ (lx176.toInt < 10000 ∧ lx186.toInt ≤ t0_9.toInt + 4) ∨ (lx176.toInt < 100000 ∧ lx186.toInt ≤ t0_9.toInt + 3))) → (S_DR_exponent_L50 K_S_DR_exponent_L34 x2 t0_0 t0_1 t0_2 t0_3 t0_4 t0_5 t0_6 t0_7 t0_8 t0_9 t0_10 t1_0 p62 y24 y25 y26 y27 y28 y29 y30 y31 y32 y33 y34 f35 lx81 p134 y96 y97 y98 y99 y100 y101 y102 y103 y104 y105 y106 f107 lx153 lx163 n lx176 lx177 lx178 lx179 lx180 lx181 lx182 lx183 lx184 lx185 lx186 lx187 lx188) ∧ Q_DR_exponent t0_9 (F_DR_exponent_L50 K_F_DR_exponent_L34 x2 t0_0 t0_1 t0_2 t0_3 t0_4 t0_5 t0_6 t0_7 t0_8 t0_9 t0_10 t1_0 p62 y24 y25 y26 y27 y28 y29 y30 y31 y32 y33 y34 f35 lx81 p134 y96 y97 y98 y99 y100 y101 y102 y103 y104 y105 y106 f107 lx153 lx163 n lx176 lx177 lx178 lx179 lx180 lx181 lx182 lx183 lx184 lx185 lx186 lx187 lx188) := by
  intro n
  induction n with
  | zero => intro lx176 lx177 lx178 lx179 lx180 lx181 lx182 lx183 lx184 lx185 lx186 lx187 lx188 h0 hm hp; exact absurd (show False by omega) id
  | succ n ih =>
    intro lx176 lx177 lx178 lx179 lx180 lx181 lx182 lx183 lx184 lx185 lx186 lx187 lx188 h0 hm hp
    have e0 : (0 : Int32).toInt = 0 := rfl
    rw [S_DR_exponent_L50.eq_2, F_DR_exponent_L50.eq_2]
    by_cases g1 : lx176 ≤ (0 : Int32)
    ·
      rw [if_pos g1, if_pos g1]
      have g1i : lx176.toInt ≤ 0 := q_leI g1
      refine ⟨trivial, ?_⟩
      (unfold Q_DR_exponent; dsimp only; omega)
    ·
      rw [if_neg g1, if_neg g1]
      have g1i : 0 < lx176.toInt := q_nleI g1
      have h2 := R_print (x2 := (48 + ((lx153 / lx176 : Int32) - (lx153 / lx176 : Int32) / 10 * 10 : Int32) : Int32)) (t0_0 := lx177) (t0_1 := lx178) (t0_2 := lx179) (t0_3 := lx180) (t0_4 := lx181) (t0_5 := lx182) (t0_6 := lx183) (t0_7 := lx184) (t0_8 := lx185) (t0_9 := lx186) (t0_10 := lx187) (t1_0 := lx188) ⟨by first | omega | decide, by first | omega | decide⟩
      with_reducible refine v_owe h2.1 ?_
      replace h2 := h2.2
      generalize F_DR_print (48 + ((lx153 / lx176 : Int32) - (lx153 / lx176 : Int32) / 10 * 10 : Int32) : Int32) lx177 lx178 lx179 lx180 lx181 lx182 lx183 lx184 lx185 lx186 lx187 lx188 = p280 at *
      unfold S_DR_exponent_c64 F_DR_exponent_c64
      have e9 := g_d10 (v := lx176) (by omega); exact ih _ _ _ _ _ _ _ _ _ _ _ _ _ (by omega) (by omega) (by omega)
