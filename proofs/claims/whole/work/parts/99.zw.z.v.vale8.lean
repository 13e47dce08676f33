/-! values, for whole: figures of the reference -/
theorem V_mf85 {x2 : Int32} {x3 : Int32} {x4 : Int32} {x5 : Int32} {x6 : Int32} {t0_0 : Int32} {t0_1 : Int32} {t0_2 : Int32} {t1_0 : Int32} {t1_1 : Int32} {t1_2 : Int32} {t1_3 : Int32} {t1_4 : Int64} {t1_5 : Int32} {t1_6 : Int32} {t1_7 : Int64} {t1_8 : Int32} {t1_9 : Int64} {t1_10 : Int32} {t2_0 : (Nat → Int32)} {t3_0 : (Nat → Int32)} {t4_0 : (Nat → Int32)} {t5_0 : (Nat → Int32)} {t6_0 : (Nat → Int32)} {t7_0 : (Nat → Int32)} {t8_0 : (Nat → Int64)} {lx40 : Int32} {j65 : Int64} {lx70 : Int32} {P T : Nat} {l0 : Int} (hk : yG lx70 P T l0) (hb : yBit P T (yu j65)) (h4 : x4 = 0) : (((0 ≤ x5.toInt ∧ x5.toInt ≤ 1100) ∧ 0 ≤ x6.toInt ∧ x6.toInt ≤ 3) ∧ yEx P T (yu j65) ≠ T ∧ (F_NM_figures_J85 x2 x3 x4 x5 x6 t0_0 t0_1 t0_2 t1_0 t1_1 t1_2 t1_3 t1_4 t1_5 t1_6 t1_7 t1_8 t1_9 t1_10 t2_0 t3_0 t4_0 t5_0 t6_0 t7_0 t8_0 lx40 j65 lx70).2.1 = 0 ∧ (F_NM_figures_J85 x2 x3 x4 x5 x6 t0_0 t0_1 t0_2 t1_0 t1_1 t1_2 t1_3 t1_4 t1_5 t1_6 t1_7 t1_8 t1_9 t1_10 t2_0 t3_0 t4_0 t5_0 t6_0 t7_0 t8_0 lx40 j65 lx70).1 = (F_NM_figures_J85 x2 x3 x4 x5 x6 t0_0 t0_1 t0_2 t1_0 t1_1 t1_2 t1_3 t1_4 t1_5 t1_6 t1_7 t1_8 t1_9 t1_10 t2_0 t3_0 t4_0 t5_0 t6_0 t7_0 t8_0 lx40 j65 lx70).2.2.1 ∧ ∀ t, yFiT P T l0 (yu j65) x4 x5 x6 t → yRt (F_NM_figures_J85 x2 x3 x4 x5 x6 t0_0 t0_1 t0_2 t1_0 t1_1 t1_2 t1_3 t1_4 t1_5 t1_6 t1_7 t1_8 t1_9 t1_10 t2_0 t3_0 t4_0 t5_0 t6_0 t7_0 t8_0 lx40 j65 lx70).2.2.1 (F_NM_figures_J85 x2 x3 x4 x5 x6 t0_0 t0_1 t0_2 t1_0 t1_1 t1_2 t1_3 t1_4 t1_5 t1_6 t1_7 t1_8 t1_9 t1_10 t2_0 t3_0 t4_0 t5_0 t6_0 t7_0 t8_0 lx40 j65 lx70).2.2.2.2.2.2.2.2.2.2.2.2.2.2.2.2.2.2.2 t ∧ t.length ≤ 1600) ∨ (¬ ((0 ≤ x5.toInt ∧ x5.toInt ≤ 1100) ∧ 0 ≤ x6.toInt ∧ x6.toInt ≤ 3) ∧ (F_NM_figures_J85 x2 x3 x4 x5 x6 t0_0 t0_1 t0_2 t1_0 t1_1 t1_2 t1_3 t1_4 t1_5 t1_6 t1_7 t1_8 t1_9 t1_10 t2_0 t3_0 t4_0 t5_0 t6_0 t7_0 t8_0 lx40 j65 lx70).2.1 = 1 ∧ (F_NM_figures_J85 x2 x3 x4 x5 x6 t0_0 t0_1 t0_2 t1_0 t1_1 t1_2 t1_3 t1_4 t1_5 t1_6 t1_7 t1_8 t1_9 t1_10 t2_0 t3_0 t4_0 t5_0 t6_0 t7_0 t8_0 lx40 j65 lx70).2.2.1 = t0_2 ∧ (F_NM_figures_J85 x2 x3 x4 x5 x6 t0_0 t0_1 t0_2 t1_0 t1_1 t1_2 t1_3 t1_4 t1_5 t1_6 t1_7 t1_8 t1_9 t1_10 t2_0 t3_0 t4_0 t5_0 t6_0 t7_0 t8_0 lx40 j65 lx70).2.2.2.2.2.2.2.2.2.2.2.2.2.2.2.2.2.2.2 = t7_0) ∨ (((0 ≤ x5.toInt ∧ x5.toInt ≤ 1100) ∧ 0 ≤ x6.toInt ∧ x6.toInt ≤ 3) ∧ yEx P T (yu j65) = T ∧ (F_NM_figures_J85 x2 x3 x4 x5 x6 t0_0 t0_1 t0_2 t1_0 t1_1 t1_2 t1_3 t1_4 t1_5 t1_6 t1_7 t1_8 t1_9 t1_10 t2_0 t3_0 t4_0 t5_0 t6_0 t7_0 t8_0 lx40 j65 lx70).2.1 = 2 ∧ (F_NM_figures_J85 x2 x3 x4 x5 x6 t0_0 t0_1 t0_2 t1_0 t1_1 t1_2 t1_3 t1_4 t1_5 t1_6 t1_7 t1_8 t1_9 t1_10 t2_0 t3_0 t4_0 t5_0 t6_0 t7_0 t8_0 lx40 j65 lx70).2.2.1 = t0_2 ∧ (F_NM_figures_J85 x2 x3 x4 x5 x6 t0_0 t0_1 t0_2 t1_0 t1_1 t1_2 t1_3 t1_4 t1_5 t1_6 t1_7 t1_8 t1_9 t1_10 t2_0 t3_0 t4_0 t5_0 t6_0 t7_0 t8_0 lx40 j65 lx70).2.2.2.2.2.2.2.2.2.2.2.2.2.2.2.2.2.2.2 = t7_0) := by
  unfold F_NM_figures_J85
  by_cases h : ¬ ((0 ≤ x5.toInt ∧ x5.toInt ≤ 1100) ∧ 0 ≤ x6.toInt ∧ x6.toInt ≤ 3) ∨ yEx P T (yu j65) = T
  · have r := V_fxRN (x2 := j65) (x3 := lx70) (x4 := x5) (x5 := x6) (t0_0 := t1_0) (t0_1 := t1_1) (t0_2 := t1_2) (t0_3 := t1_3) (t0_4 := t1_4) (t0_5 := t1_5) (t0_6 := t1_6) (t0_7 := t1_7) (t0_8 := t1_8) (t0_9 := t1_9) (t0_10 := t1_10) (t1_0 := t2_0) (t2_0 := t3_0) (t3_0 := t4_0) (t4_0 := t5_0) (t5_0 := t6_0) hk hb h
    revert r
    generalize F_FR_fixed j65 lx70 x5 x6 t1_0 t1_1 t1_2 t1_3 t1_4 t1_5 t1_6 t1_7 t1_8 t1_9 t1_10 t2_0 t3_0 t4_0 t5_0 t6_0 = p
    intro r
    unfold F_NM_figures_c89
    rcases r with ⟨r1, r2⟩ | ⟨r1, r2, r3, r4⟩
    · rw [if_neg (by rw [r2]; decide)]
      exact Or.inr (Or.inl ⟨r1, r2, rfl, rfl⟩)
    · rw [if_neg (by rw [r4]; decide)]
      exact Or.inr (Or.inr ⟨⟨r1, r2⟩, r3, r4, rfl, rfl⟩)
  · have o : ((0 ≤ x5.toInt ∧ x5.toInt ≤ 1100) ∧ 0 ≤ x6.toInt ∧ x6.toInt ≤ 3) := Classical.byContradiction (fun q => h (Or.inl q))
    have f : yEx P T (yu j65) ≠ T := fun q => h (Or.inr q)
    obtain ⟨A, B, C, hF⟩ := yG_F hk
    have all : ∀ t, yFiT P T l0 (yu j65) x4 x5 x6 t → (F_FR_fixed j65 lx70 x5 x6 t1_0 t1_1 t1_2 t1_3 t1_4 t1_5 t1_6 t1_7 t1_8 t1_9 t1_10 t2_0 t3_0 t4_0 t5_0 t6_0).2.1 = 0 ∧ yRt (F_FR_fixed j65 lx70 x5 x6 t1_0 t1_1 t1_2 t1_3 t1_4 t1_5 t1_6 t1_7 t1_8 t1_9 t1_10 t2_0 t3_0 t4_0 t5_0 t6_0).1 (F_FR_fixed j65 lx70 x5 x6 t1_0 t1_1 t1_2 t1_3 t1_4 t1_5 t1_6 t1_7 t1_8 t1_9 t1_10 t2_0 t3_0 t4_0 t5_0 t6_0).2.2.2.2.2.2.2.2.2.2.2.2.2.2.2.2 t := by
      intro t ht
      obtain ⟨k, u, s, c, d, b0, b1, b2, b3, b4⟩ := ht
      rcases b4 with ⟨_, q1, rfl⟩ | ⟨q, _⟩
      · exact V_FRfx (x2 := j65) (x3 := lx70) (x4 := x5) (x5 := x6) (t0_0 := t1_0) (t0_1 := t1_1) (t0_2 := t1_2) (t0_3 := t1_3) (t0_4 := t1_4) (t0_5 := t1_5) (t0_6 := t1_6) (t0_7 := t1_7) (t0_8 := t1_8) (t0_9 := t1_9) (t0_10 := t1_10) (t1_0 := t2_0) (t2_0 := t3_0) (t3_0 := t4_0) (t4_0 := t5_0) (t5_0 := t6_0) hk hb f b0 (by omega) (by omega) b1 b2 rfl q1
      · exact absurd h4 q
    have q := (T_FR_fixed (x2 := j65) (x3 := lx70) (x4 := x5) (x5 := x6) (t0_0 := t1_0) (t0_1 := t1_1) (t0_2 := t1_2) (t0_3 := t1_3) (t0_4 := t1_4) (t0_5 := t1_5) (t0_6 := t1_6) (t0_7 := t1_7) (t0_8 := t1_8) (t0_9 := t1_9) (t0_10 := t1_10) (t1_0 := t2_0) (t2_0 := t3_0) (t3_0 := t4_0) (t4_0 := t5_0) (t5_0 := t6_0)).2
    obtain ⟨t0, ht0⟩ := yFiT_ex (x := j65) (x4 := x4) (x5 := x5) (x6 := x6) hF f (Or.inl ⟨h4, by omega, by omega⟩) (by omega)
    have z := (all t0 ht0).1
    revert all q z
    generalize F_FR_fixed j65 lx70 x5 x6 t1_0 t1_1 t1_2 t1_3 t1_4 t1_5 t1_6 t1_7 t1_8 t1_9 t1_10 t2_0 t3_0 t4_0 t5_0 t6_0 = p
    intro all q z
    unfold F_NM_figures_c89
    rw [if_pos (by rw [z]; decide)]
    unfold F_NM_figures_c126
    have sh : ∀ t, yFiT P T l0 (yu j65) x4 x5 x6 t → (F_NM_show 1600 p.1 p.2.1 t0_1 t0_2 t7_0 p.2.2.2.2.2.2.2.2.2.2.2.2.2.2.2.2).1 = p.1 ∧ (F_NM_show 1600 p.1 p.2.1 t0_1 t0_2 t7_0 p.2.2.2.2.2.2.2.2.2.2.2.2.2.2.2.2).2.1 = p.1 ∧ yRt (F_NM_show 1600 p.1 p.2.1 t0_1 t0_2 t7_0 p.2.2.2.2.2.2.2.2.2.2.2.2.2.2.2.2).2.1 (F_NM_show 1600 p.1 p.2.1 t0_1 t0_2 t7_0 p.2.2.2.2.2.2.2.2.2.2.2.2.2.2.2.2).2.2 t := fun t ht => V_show (all t ht).2 (by have a := (all t ht).2.1; have b := q.2; omega)
    have s0 := sh t0 ht0
    exact Or.inl ⟨o, f, z, s0.1.trans s0.2.1.symm, fun t ht => ⟨(sh t ht).2.2, by have a := (all t ht).2.1; have b := q.2; omega⟩⟩
theorem V_mf59 {x2 : Int32} {x3 : Int32} {x4 : Int32} {x5 : Int32} {x6 : Int32} {t0_0 : Int32} {t0_1 : Int32} {t0_2 : Int32} {t1_0 : Int32} {t1_1 : Int32} {t1_2 : Int32} {t1_3 : Int32} {t1_4 : Int64} {t1_5 : Int32} {t1_6 : Int32} {t1_7 : Int64} {t1_8 : Int32} {t1_9 : Int64} {t1_10 : Int32} {t2_0 : (Nat → Int32)} {t3_0 : (Nat → Int32)} {t4_0 : (Nat → Int32)} {t5_0 : (Nat → Int32)} {t6_0 : (Nat → Int32)} {t7_0 : (Nat → Int32)} {t8_0 : (Nat → Int64)} {lx40 : Int32} {j65 : Int64} {lx183 : Int32} {P T : Nat} {l0 : Int} (hk : yG lx183 P T l0) (hb : yBit P T (yu j65)) (h4 : ¬ x4 = 0) : (((1 ≤ x5.toInt ∧ x5.toInt ≤ 800) ∧ 0 ≤ x6.toInt ∧ x6.toInt ≤ 3) ∧ yEx P T (yu j65) ≠ T ∧ (F_NM_figures_J59 x2 x3 x4 x5 x6 t0_0 t0_1 t0_2 t1_0 t1_1 t1_2 t1_3 t1_4 t1_5 t1_6 t1_7 t1_8 t1_9 t1_10 t2_0 t3_0 t4_0 t5_0 t6_0 t7_0 t8_0 lx40 j65 lx183).2.1 = 0 ∧ (F_NM_figures_J59 x2 x3 x4 x5 x6 t0_0 t0_1 t0_2 t1_0 t1_1 t1_2 t1_3 t1_4 t1_5 t1_6 t1_7 t1_8 t1_9 t1_10 t2_0 t3_0 t4_0 t5_0 t6_0 t7_0 t8_0 lx40 j65 lx183).1 = (F_NM_figures_J59 x2 x3 x4 x5 x6 t0_0 t0_1 t0_2 t1_0 t1_1 t1_2 t1_3 t1_4 t1_5 t1_6 t1_7 t1_8 t1_9 t1_10 t2_0 t3_0 t4_0 t5_0 t6_0 t7_0 t8_0 lx40 j65 lx183).2.2.1 ∧ ∀ t, yFiT P T l0 (yu j65) x4 x5 x6 t → yRt (F_NM_figures_J59 x2 x3 x4 x5 x6 t0_0 t0_1 t0_2 t1_0 t1_1 t1_2 t1_3 t1_4 t1_5 t1_6 t1_7 t1_8 t1_9 t1_10 t2_0 t3_0 t4_0 t5_0 t6_0 t7_0 t8_0 lx40 j65 lx183).2.2.1 (F_NM_figures_J59 x2 x3 x4 x5 x6 t0_0 t0_1 t0_2 t1_0 t1_1 t1_2 t1_3 t1_4 t1_5 t1_6 t1_7 t1_8 t1_9 t1_10 t2_0 t3_0 t4_0 t5_0 t6_0 t7_0 t8_0 lx40 j65 lx183).2.2.2.2.2.2.2.2.2.2.2.2.2.2.2.2.2.2.2 t ∧ t.length ≤ 1600) ∨ (¬ ((1 ≤ x5.toInt ∧ x5.toInt ≤ 800) ∧ 0 ≤ x6.toInt ∧ x6.toInt ≤ 3) ∧ (F_NM_figures_J59 x2 x3 x4 x5 x6 t0_0 t0_1 t0_2 t1_0 t1_1 t1_2 t1_3 t1_4 t1_5 t1_6 t1_7 t1_8 t1_9 t1_10 t2_0 t3_0 t4_0 t5_0 t6_0 t7_0 t8_0 lx40 j65 lx183).2.1 = 1 ∧ (F_NM_figures_J59 x2 x3 x4 x5 x6 t0_0 t0_1 t0_2 t1_0 t1_1 t1_2 t1_3 t1_4 t1_5 t1_6 t1_7 t1_8 t1_9 t1_10 t2_0 t3_0 t4_0 t5_0 t6_0 t7_0 t8_0 lx40 j65 lx183).2.2.1 = t0_2 ∧ (F_NM_figures_J59 x2 x3 x4 x5 x6 t0_0 t0_1 t0_2 t1_0 t1_1 t1_2 t1_3 t1_4 t1_5 t1_6 t1_7 t1_8 t1_9 t1_10 t2_0 t3_0 t4_0 t5_0 t6_0 t7_0 t8_0 lx40 j65 lx183).2.2.2.2.2.2.2.2.2.2.2.2.2.2.2.2.2.2.2 = t7_0) ∨ (((1 ≤ x5.toInt ∧ x5.toInt ≤ 800) ∧ 0 ≤ x6.toInt ∧ x6.toInt ≤ 3) ∧ yEx P T (yu j65) = T ∧ (F_NM_figures_J59 x2 x3 x4 x5 x6 t0_0 t0_1 t0_2 t1_0 t1_1 t1_2 t1_3 t1_4 t1_5 t1_6 t1_7 t1_8 t1_9 t1_10 t2_0 t3_0 t4_0 t5_0 t6_0 t7_0 t8_0 lx40 j65 lx183).2.1 = 2 ∧ (F_NM_figures_J59 x2 x3 x4 x5 x6 t0_0 t0_1 t0_2 t1_0 t1_1 t1_2 t1_3 t1_4 t1_5 t1_6 t1_7 t1_8 t1_9 t1_10 t2_0 t3_0 t4_0 t5_0 t6_0 t7_0 t8_0 lx40 j65 lx183).2.2.1 = t0_2 ∧ (F_NM_figures_J59 x2 x3 x4 x5 x6 t0_0 t0_1 t0_2 t1_0 t1_1 t1_2 t1_3 t1_4 t1_5 t1_6 t1_7 t1_8 t1_9 t1_10 t2_0 t3_0 t4_0 t5_0 t6_0 t7_0 t8_0 lx40 j65 lx183).2.2.2.2.2.2.2.2.2.2.2.2.2.2.2.2.2.2.2 = t7_0) := by
  unfold F_NM_figures_J59
  by_cases h : ¬ ((1 ≤ x5.toInt ∧ x5.toInt ≤ 800) ∧ 0 ≤ x6.toInt ∧ x6.toInt ≤ 3) ∨ yEx P T (yu j65) = T
  · have r := V_scRN (x2 := j65) (x3 := lx183) (x4 := x5) (x5 := x6) (t0_0 := t1_0) (t0_1 := t1_1) (t0_2 := t1_2) (t0_3 := t1_3) (t0_4 := t1_4) (t0_5 := t1_5) (t0_6 := t1_6) (t0_7 := t1_7) (t0_8 := t1_8) (t0_9 := t1_9) (t0_10 := t1_10) (t1_0 := t2_0) (t2_0 := t3_0) (t3_0 := t4_0) (t4_0 := t5_0) (t5_0 := t6_0) hk hb h
    revert r
    generalize F_FR_scientific j65 lx183 x5 x6 t1_0 t1_1 t1_2 t1_3 t1_4 t1_5 t1_6 t1_7 t1_8 t1_9 t1_10 t2_0 t3_0 t4_0 t5_0 t6_0 = p
    intro r
    unfold F_NM_figures_c63
    rcases r with ⟨r1, r2⟩ | ⟨r1, r2, r3, r4⟩
    · rw [if_neg (by rw [r2]; decide)]
      exact Or.inr (Or.inl ⟨r1, r2, rfl, rfl⟩)
    · rw [if_neg (by rw [r4]; decide)]
      exact Or.inr (Or.inr ⟨⟨r1, r2⟩, r3, r4, rfl, rfl⟩)
  · have o : ((1 ≤ x5.toInt ∧ x5.toInt ≤ 800) ∧ 0 ≤ x6.toInt ∧ x6.toInt ≤ 3) := Classical.byContradiction (fun q => h (Or.inl q))
    have f : yEx P T (yu j65) ≠ T := fun q => h (Or.inr q)
    obtain ⟨A, B, C, hF⟩ := yG_F hk
    have all : ∀ t, yFiT P T l0 (yu j65) x4 x5 x6 t → (F_FR_scientific j65 lx183 x5 x6 t1_0 t1_1 t1_2 t1_3 t1_4 t1_5 t1_6 t1_7 t1_8 t1_9 t1_10 t2_0 t3_0 t4_0 t5_0 t6_0).2.1 = 0 ∧ yRt (F_FR_scientific j65 lx183 x5 x6 t1_0 t1_1 t1_2 t1_3 t1_4 t1_5 t1_6 t1_7 t1_8 t1_9 t1_10 t2_0 t3_0 t4_0 t5_0 t6_0).1 (F_FR_scientific j65 lx183 x5 x6 t1_0 t1_1 t1_2 t1_3 t1_4 t1_5 t1_6 t1_7 t1_8 t1_9 t1_10 t2_0 t3_0 t4_0 t5_0 t6_0).2.2.2.2.2.2.2.2.2.2.2.2.2.2.2.2 t := by
      intro t ht
      obtain ⟨k, u, s, c, d, b0, b1, b2, b3, b4⟩ := ht
      rcases b4 with ⟨q, _⟩ | ⟨_, q1, rfl⟩
      · exact absurd q h4
      · exact V_FRsc (x2 := j65) (x3 := lx183) (x4 := x5) (x5 := x6) (t0_0 := t1_0) (t0_1 := t1_1) (t0_2 := t1_2) (t0_3 := t1_3) (t0_4 := t1_4) (t0_5 := t1_5) (t0_6 := t1_6) (t0_7 := t1_7) (t0_8 := t1_8) (t0_9 := t1_9) (t0_10 := t1_10) (t1_0 := t2_0) (t2_0 := t3_0) (t3_0 := t4_0) (t4_0 := t5_0) (t5_0 := t6_0) hk hb f b0 (by omega) (by omega) (by omega) b1 b2 b3 rfl q1
    have q := (T_FR_scientific (x2 := j65) (x3 := lx183) (x4 := x5) (x5 := x6) (t0_0 := t1_0) (t0_1 := t1_1) (t0_2 := t1_2) (t0_3 := t1_3) (t0_4 := t1_4) (t0_5 := t1_5) (t0_6 := t1_6) (t0_7 := t1_7) (t0_8 := t1_8) (t0_9 := t1_9) (t0_10 := t1_10) (t1_0 := t2_0) (t2_0 := t3_0) (t3_0 := t4_0) (t4_0 := t5_0) (t5_0 := t6_0)).2
    obtain ⟨t0, ht0⟩ := yFiT_ex (x := j65) (x4 := x4) (x5 := x5) (x6 := x6) hF f (Or.inr ⟨h4, by omega, by omega⟩) (by omega)
    have z := (all t0 ht0).1
    revert all q z
    generalize F_FR_scientific j65 lx183 x5 x6 t1_0 t1_1 t1_2 t1_3 t1_4 t1_5 t1_6 t1_7 t1_8 t1_9 t1_10 t2_0 t3_0 t4_0 t5_0 t6_0 = p
    intro all q z
    unfold F_NM_figures_c63
    rw [if_pos (by rw [z]; decide)]
    unfold F_NM_figures_c126_7
    have sh : ∀ t, yFiT P T l0 (yu j65) x4 x5 x6 t → (F_NM_show 1600 p.1 p.2.1 t0_1 t0_2 t7_0 p.2.2.2.2.2.2.2.2.2.2.2.2.2.2.2.2).1 = p.1 ∧ (F_NM_show 1600 p.1 p.2.1 t0_1 t0_2 t7_0 p.2.2.2.2.2.2.2.2.2.2.2.2.2.2.2.2).2.1 = p.1 ∧ yRt (F_NM_show 1600 p.1 p.2.1 t0_1 t0_2 t7_0 p.2.2.2.2.2.2.2.2.2.2.2.2.2.2.2.2).2.1 (F_NM_show 1600 p.1 p.2.1 t0_1 t0_2 t7_0 p.2.2.2.2.2.2.2.2.2.2.2.2.2.2.2.2).2.2 t := fun t ht => V_show (all t ht).2 (by have a := (all t ht).2.1; have b := q.2; omega)
    have s0 := sh t0 ht0
    exact Or.inl ⟨o, f, z, s0.1.trans s0.2.1.symm, fun t ht => ⟨(sh t ht).2.2, by have a := (all t ht).2.1; have b := q.2; omega⟩⟩
