/-! values, for whole: the reference's wholeBy and powerModulo -/
theorem y_noZ2 {x : Int32} (h : ¬ F_NM_no_IZ x = 0) : ¬ yReg x := fun c => h (m_no0 c)
theorem y_wn_power {x2 : Int32} {x3 : Int32} {x4 : Int32} {t0_0 : Int32} {t0_1 : Int32} {t0_2 : Int32} {t0_3 : Int32} {t0_4 : Int32} {t0_5 : Int32} {t0_6 : Int32} {t1_0 : (Nat → Int32)} {t2_0 : (Nat → Int32)} {t3_0 : (Nat → Int32)} {t4_0 : (Nat → Int32)} {t5_0 : (Nat → Int32)}  : (F_WR_power_J19 x2 x3 x4 t0_0 t0_1 t0_2 t0_3 t0_4 t0_5 t0_6 t1_0 t2_0 t3_0 t4_0 t5_0).1 = 1 ∧ (F_WR_power_J19 x2 x3 x4 t0_0 t0_1 t0_2 t0_3 t0_4 t0_5 t0_6 t1_0 t2_0 t3_0 t4_0 t5_0).2.2.2.2.2.2.2.1 = t1_0 ∧ (F_WR_power_J19 x2 x3 x4 t0_0 t0_1 t0_2 t0_3 t0_4 t0_5 t0_6 t1_0 t2_0 t3_0 t4_0 t5_0).2.2.2.2.2.2.2.2.1 = t2_0 := by
  unfold F_WR_power_J19 F_WR_power_J24
  rw [if_neg (show ¬ (1 : Int32) ≤ 0 by decide)]
  exact ⟨rfl, rfl, rfl⟩
theorem y_wno_power {x2 : Int32} {x3 : Int32} {x4 : Int32} {t0_0 : Int32} {t0_1 : Int32} {t0_2 : Int32} {t0_3 : Int32} {t0_4 : Int32} {t0_5 : Int32} {t0_6 : Int32} {t1_0 : (Nat → Int32)} {t2_0 : (Nat → Int32)} {t3_0 : (Nat → Int32)} {t4_0 : (Nat → Int32)} {t5_0 : (Nat → Int32)} (hn : x3.toInt < 0) : (F_WR_power x2 x3 x4 t0_0 t0_1 t0_2 t0_3 t0_4 t0_5 t0_6 t1_0 t2_0 t3_0 t4_0 t5_0).1 = 1 ∧ (F_WR_power x2 x3 x4 t0_0 t0_1 t0_2 t0_3 t0_4 t0_5 t0_6 t1_0 t2_0 t3_0 t4_0 t5_0).2.2.2.2.2.2.2.1 = t1_0 ∧ (F_WR_power x2 x3 x4 t0_0 t0_1 t0_2 t0_3 t0_4 t0_5 t0_6 t1_0 t2_0 t3_0 t4_0 t5_0).2.2.2.2.2.2.2.2.1 = t2_0 := by
  have e0 : (0 : Int32).toInt = 0 := rfl
  unfold F_WR_power
  by_cases c1 : F_WR_no x2 = 0
  · rw [if_pos c1]
    by_cases c2 : F_WR_no x4 = 0
    · rw [if_pos c2]
      rw [if_neg (show ¬ (0 : Int32) ≤ x3 from fun c => by have := q_leI c; omega)]
      exact y_wn_power
    · rw [if_neg c2]
      exact y_wn_power
  · rw [if_neg c1]
    exact y_wn_power
theorem y_wn_root {x2 : Int32} {x3 : Int32} {x4 : Int32} {t0_0 : Int32} {t0_1 : Int32} {t0_2 : Int32} {t0_3 : Int32} {t0_4 : Int32} {t0_5 : Int32} {t0_6 : Int32} {t1_0 : (Nat → Int32)} {t2_0 : (Nat → Int32)} {t3_0 : (Nat → Int32)} {t4_0 : (Nat → Int32)} {t5_0 : (Nat → Int32)} {t6_0 : (Nat → Int32)}  : (F_WR_root_J26 x2 x3 x4 t0_0 t0_1 t0_2 t0_3 t0_4 t0_5 t0_6 t1_0 t2_0 t3_0 t4_0 t5_0 t6_0).1 = 1 ∧ (F_WR_root_J26 x2 x3 x4 t0_0 t0_1 t0_2 t0_3 t0_4 t0_5 t0_6 t1_0 t2_0 t3_0 t4_0 t5_0 t6_0).2.2.2.2.2.2.2.1 = t1_0 ∧ (F_WR_root_J26 x2 x3 x4 t0_0 t0_1 t0_2 t0_3 t0_4 t0_5 t0_6 t1_0 t2_0 t3_0 t4_0 t5_0 t6_0).2.2.2.2.2.2.2.2.1 = t2_0 := by
  unfold F_WR_root_J26 F_WR_root_J44
  rw [if_neg (show ¬ (1 : Int32) ≤ 0 by decide)]
  exact ⟨rfl, rfl, rfl⟩
theorem y_wno_root {x2 : Int32} {x3 : Int32} {x4 : Int32} {t0_0 : Int32} {t0_1 : Int32} {t0_2 : Int32} {t0_3 : Int32} {t0_4 : Int32} {t0_5 : Int32} {t0_6 : Int32} {t1_0 : (Nat → Int32)} {t2_0 : (Nat → Int32)} {t3_0 : (Nat → Int32)} {t4_0 : (Nat → Int32)} {t5_0 : (Nat → Int32)} {t6_0 : (Nat → Int32)} (hn : ¬ (1 ≤ x3.toInt ∧ x3.toInt ≤ 64)) : (F_WR_root x2 x3 x4 t0_0 t0_1 t0_2 t0_3 t0_4 t0_5 t0_6 t1_0 t2_0 t3_0 t4_0 t5_0 t6_0).1 = 1 ∧ (F_WR_root x2 x3 x4 t0_0 t0_1 t0_2 t0_3 t0_4 t0_5 t0_6 t1_0 t2_0 t3_0 t4_0 t5_0 t6_0).2.2.2.2.2.2.2.1 = t1_0 ∧ (F_WR_root x2 x3 x4 t0_0 t0_1 t0_2 t0_3 t0_4 t0_5 t0_6 t1_0 t2_0 t3_0 t4_0 t5_0 t6_0).2.2.2.2.2.2.2.2.1 = t2_0 := by
  have e1 : (1 : Int32).toInt = 1 := rfl
  have e64 : (64 : Int32).toInt = 64 := rfl
  unfold F_WR_root
  by_cases c1 : F_WR_no x2 = 0
  · rw [if_pos c1]
    by_cases c2 : F_WR_no x4 = 0
    · rw [if_pos c2]
      by_cases c3 : x3 < 1
      · rw [if_pos c3]
        exact y_wn_root
      · rw [if_neg c3]
        have c3 := q_nltI c3
        rw [if_neg (show ¬ x3 ≤ 64 from fun c => by have := q_leI c; omega)]
        exact y_wn_root
    · rw [if_neg c2]
      exact y_wn_root
  · rw [if_neg c1]
    exact y_wn_root
def yWbOk (h x : Int32) : Prop := (h = 0 → 0 ≤ x.toInt) ∧ (h = 1 → 1 ≤ x.toInt ∧ x.toInt ≤ 64)
theorem y_mwbno {x2 : Int32} {x3 : Int32} {x4 : Int32} {x5 : Int32} {t0_0 : Int32} {t0_1 : Int32} {t0_2 : Int32} {t1_0 : Int32} {t1_1 : Int32} {t1_2 : Int32} {t1_3 : Int32} {t1_4 : Int32} {t1_5 : Int32} {t1_6 : Int32} {t2_0 : (Nat → Int32)} {t3_0 : (Nat → Int32)} {t4_0 : (Nat → Int32)} {t5_0 : (Nat → Int32)} {t6_0 : (Nat → Int32)} {t7_0 : (Nat → Int32)} {lx38 : Int32} (h2 : x2 = 0 ∨ x2 = 1 ∨ x2 = 2) (hl : lx38 = 0) (hn : ¬ yWbOk x2 x4) : (F_NM_wholeBy_J30 x2 x3 x4 x5 t0_0 t0_1 t0_2 t1_0 t1_1 t1_2 t1_3 t1_4 t1_5 t1_6 t2_0 t3_0 t4_0 t5_0 t6_0 t7_0 lx38).1 = 1 ∧ (F_NM_wholeBy_J30 x2 x3 x4 x5 t0_0 t0_1 t0_2 t1_0 t1_1 t1_2 t1_3 t1_4 t1_5 t1_6 t2_0 t3_0 t4_0 t5_0 t6_0 t7_0 lx38).2.2.2.2.2.2.2.2.1 = t2_0 ∧ (F_NM_wholeBy_J30 x2 x3 x4 x5 t0_0 t0_1 t0_2 t1_0 t1_1 t1_2 t1_3 t1_4 t1_5 t1_6 t2_0 t3_0 t4_0 t5_0 t6_0 t7_0 lx38).2.2.2.2.2.2.2.2.2.1 = t3_0 := by
  unfold F_NM_wholeBy_J30
  rw [if_pos (show lx38 ≤ 0 by rw [hl]; decide)]
  rcases h2 with h2 | h2 | h2
  · rw [if_pos h2]
    have h := y_wno_power (x2 := x3) (x3 := x4) (x4 := x5) (t0_0 := t1_0) (t0_1 := t1_1) (t0_2 := t1_2) (t0_3 := t1_3) (t0_4 := t1_4) (t0_5 := t1_5) (t0_6 := t1_6) (t1_0 := t2_0) (t2_0 := t3_0) (t3_0 := t4_0) (t4_0 := t6_0) (t5_0 := t7_0) (by
      rcases Int.lt_or_le x4.toInt 0 with c | c
      · exact c
      · exact absurd ⟨fun _ => c, fun h1 => by rw [h2] at h1; exact absurd h1 (by decide)⟩ hn)
    revert h
    generalize F_WR_power x3 x4 x5 t1_0 t1_1 t1_2 t1_3 t1_4 t1_5 t1_6 t2_0 t3_0 t4_0 t6_0 t7_0 = p
    intro h
    unfold F_NM_wholeBy_c53
    exact h
  · rw [if_neg (show ¬ x2 = 0 by rw [h2]; decide), if_pos h2]
    have h := y_wno_root (x2 := x3) (x3 := x4) (x4 := x5) (t0_0 := t1_0) (t0_1 := t1_1) (t0_2 := t1_2) (t0_3 := t1_3) (t0_4 := t1_4) (t0_5 := t1_5) (t0_6 := t1_6) (t1_0 := t2_0) (t2_0 := t3_0) (t3_0 := t4_0) (t4_0 := t5_0) (t5_0 := t6_0) (t6_0 := t7_0) (fun c => hn ⟨fun h1 => by rw [h2] at h1; exact absurd h1 (by decide), fun _ => c⟩)
    revert h
    generalize F_WR_root x3 x4 x5 t1_0 t1_1 t1_2 t1_3 t1_4 t1_5 t1_6 t2_0 t3_0 t4_0 t5_0 t6_0 t7_0 = p
    intro h
    unfold F_NM_wholeBy_c72
    exact h
  · exact absurd ⟨fun h1 => by rw [h2] at h1; exact absurd h1 (by decide), fun h1 => by rw [h2] at h1; exact absurd h1 (by decide)⟩ hn
theorem V_NM_wholeByK {x2 : Int32} {x3 : Int32} {x4 : Int32} {x5 : Int32} {t0_0 : Int32} {t0_1 : Int32} {t0_2 : Int32} {t1_0 : Int32} {t1_1 : Int32} {t1_2 : Int32} {t1_3 : Int32} {t1_4 : Int32} {t1_5 : Int32} {t1_6 : Int32} {t2_0 : (Nat → Int32)} {t3_0 : (Nat → Int32)} {t4_0 : (Nat → Int32)} {t5_0 : (Nat → Int32)} {t6_0 : (Nat → Int32)} {t7_0 : (Nat → Int32)} {lx38 : Int32} {W : Nat → Int} (hw : wRw t2_0 t3_0 W) (h3 : yReg x3) (h5 : yReg x5) (h2 : x2 = 0 ∨ x2 = 1 ∨ x2 = 2) (hl : lx38 = 0) (hn : yWbOk x2 x4) : wAn x5 W (sWB x2 (W x3.toNatClampNeg) x4.toInt) (F_NM_wholeBy_J30 x2 x3 x4 x5 t0_0 t0_1 t0_2 t1_0 t1_1 t1_2 t1_3 t1_4 t1_5 t1_6 t2_0 t3_0 t4_0 t5_0 t6_0 t7_0 lx38).1 (F_NM_wholeBy_J30 x2 x3 x4 x5 t0_0 t0_1 t0_2 t1_0 t1_1 t1_2 t1_3 t1_4 t1_5 t1_6 t2_0 t3_0 t4_0 t5_0 t6_0 t7_0 lx38).2.2.2.2.2.2.2.2.1 (F_NM_wholeBy_J30 x2 x3 x4 x5 t0_0 t0_1 t0_2 t1_0 t1_1 t1_2 t1_3 t1_4 t1_5 t1_6 t2_0 t3_0 t4_0 t5_0 t6_0 t7_0 lx38).2.2.2.2.2.2.2.2.2.1 := by
  obtain ⟨W2, hr, hE⟩ := hw
  have hy3 : 0 ≤ x3.toInt ∧ x3.toInt ≤ 10 := ⟨h3.1, by have := h3.2; omega⟩
  have hy5 : 0 ≤ x5.toInt ∧ x5.toInt ≤ 10 := ⟨h5.1, by have := h5.2; omega⟩
  have ea := hE _ (w_ne10 h3).1
  rw [← ea]
  refine wAn_w hE ?_
  unfold F_NM_wholeBy_J30
  rw [if_pos (show lx38 ≤ 0 by rw [hl]; decide)]
  rcases h2 with h2 | h2 | h2
  · rw [if_pos h2]
    have c := hn.1 h2
    have h := V_WR_power (x2 := x3) (x3 := x4) (x4 := x5) (t0_0 := t1_0) (t0_1 := t1_1) (t0_2 := t1_2) (t0_3 := t1_3) (t0_4 := t1_4) (t0_5 := t1_5) (t0_6 := t1_6) (t1_0 := t2_0) (t2_0 := t3_0) (t3_0 := t4_0) (t4_0 := t6_0) (t5_0 := t7_0) (N := x4.toInt.toNat) hr hy3 hy5 (Int.toNat_of_nonneg c).symm
    revert h
    generalize F_WR_power x3 x4 x5 t1_0 t1_1 t1_2 t1_3 t1_4 t1_5 t1_6 t2_0 t3_0 t4_0 t6_0 t7_0 = p
    intro h
    unfold F_NM_wholeBy_c53
    refine wAn_o h ?_
    unfold sWB
    rw [if_pos h2]
  · rw [if_neg (show ¬ x2 = 0 by rw [h2]; decide), if_pos h2]
    obtain ⟨c, d⟩ := hn.2 h2
    have hrt := sRoot_R (x4.toInt.toNat - 1) (W2 x3.toNatClampNeg).natAbs
    have h := V_WR_root (x2 := x3) (x3 := x4) (x4 := x5) (t0_0 := t1_0) (t0_1 := t1_1) (t0_2 := t1_2) (t0_3 := t1_3) (t0_4 := t1_4) (t0_5 := t1_5) (t0_6 := t1_6) (t1_0 := t2_0) (t2_0 := t3_0) (t3_0 := t4_0) (t4_0 := t5_0) (t5_0 := t6_0) (t6_0 := t7_0) (N := x4.toInt.toNat - 1) hr hy3 hy5 (by omega) (by omega) hrt
    revert h
    generalize F_WR_root x3 x4 x5 t1_0 t1_1 t1_2 t1_3 t1_4 t1_5 t1_6 t2_0 t3_0 t4_0 t5_0 t6_0 t7_0 = p
    intro h
    unfold F_NM_wholeBy_c72
    refine wAn_o h ?_
    unfold sWB
    rw [if_neg (show ¬ x2 = 0 by rw [h2]; decide), if_pos h2]
  · rw [if_neg (show ¬ x2 = 0 by rw [h2]; decide), if_neg (show ¬ x2 = 1 by rw [h2]; decide)]
    have h := V_WR_shift (x2 := x3) (x3 := x4) (x4 := x5) (t0_0 := t1_0) (t0_1 := t1_1) (t0_2 := t1_2) (t0_3 := t1_3) (t0_4 := t1_4) (t0_5 := t1_5) (t0_6 := t1_6) (t1_0 := t2_0) (t2_0 := t3_0) (t3_0 := t4_0) (t4_0 := t5_0) (t5_0 := t7_0) hr hy3 hy5
    revert h
    generalize F_WR_shift x3 x4 x5 t1_0 t1_1 t1_2 t1_3 t1_4 t1_5 t1_6 t2_0 t3_0 t4_0 t5_0 t7_0 = p
    intro h
    unfold F_NM_wholeBy_c86
    refine wAn_o h ?_
    unfold sWB
    rw [if_neg (show ¬ x2 = 0 by rw [h2]; decide), if_neg (show ¬ x2 = 1 by rw [h2]; decide)]
theorem y_mn_wholeBy {x2 : Int32} {x3 : Int32} {x4 : Int32} {x5 : Int32} {t0_0 : Int32} {t0_1 : Int32} {t0_2 : Int32} {t1_0 : Int32} {t1_1 : Int32} {t1_2 : Int32} {t1_3 : Int32} {t1_4 : Int32} {t1_5 : Int32} {t1_6 : Int32} {t2_0 : (Nat → Int32)} {t3_0 : (Nat → Int32)} {t4_0 : (Nat → Int32)} {t5_0 : (Nat → Int32)} {t6_0 : (Nat → Int32)} {t7_0 : (Nat → Int32)}  : (F_NM_wholeBy_J25 x2 x3 x4 x5 t0_0 t0_1 t0_2 t1_0 t1_1 t1_2 t1_3 t1_4 t1_5 t1_6 t2_0 t3_0 t4_0 t5_0 t6_0 t7_0).1 = 1 ∧ (F_NM_wholeBy_J25 x2 x3 x4 x5 t0_0 t0_1 t0_2 t1_0 t1_1 t1_2 t1_3 t1_4 t1_5 t1_6 t2_0 t3_0 t4_0 t5_0 t6_0 t7_0).2.2.2.2.2.2.2.2.1 = t2_0 ∧ (F_NM_wholeBy_J25 x2 x3 x4 x5 t0_0 t0_1 t0_2 t1_0 t1_1 t1_2 t1_3 t1_4 t1_5 t1_6 t2_0 t3_0 t4_0 t5_0 t6_0 t7_0).2.2.2.2.2.2.2.2.2.1 = t3_0 := by
  unfold F_NM_wholeBy_J25 F_NM_wholeBy_J30
  rw [if_neg (show ¬ (1 : Int32) ≤ 0 by decide)]
  exact ⟨rfl, rfl, rfl⟩
theorem V_NM_wholeBy {x2 : Int32} {x3 : Int32} {x4 : Int32} {x5 : Int32} {t0_0 : Int32} {t0_1 : Int32} {t0_2 : Int32} {t1_0 : Int32} {t1_1 : Int32} {t1_2 : Int32} {t1_3 : Int32} {t1_4 : Int32} {t1_5 : Int32} {t1_6 : Int32} {t2_0 : (Nat → Int32)} {t3_0 : (Nat → Int32)} {t4_0 : (Nat → Int32)} {t5_0 : (Nat → Int32)} {t6_0 : (Nat → Int32)} {t7_0 : (Nat → Int32)} {W : Nat → Int} (hw : wRw t2_0 t3_0 W) : (((x2 = 0 ∨ x2 = 1 ∨ x2 = 2) ∧ yReg x3 ∧ yReg x5 ∧ yWbOk x2 x4) ∧ wAn x5 W (sWB x2 (W x3.toNatClampNeg) x4.toInt) (F_NM_wholeBy x2 x3 x4 x5 t0_0 t0_1 t0_2 t1_0 t1_1 t1_2 t1_3 t1_4 t1_5 t1_6 t2_0 t3_0 t4_0 t5_0 t6_0 t7_0).1 (F_NM_wholeBy x2 x3 x4 x5 t0_0 t0_1 t0_2 t1_0 t1_1 t1_2 t1_3 t1_4 t1_5 t1_6 t2_0 t3_0 t4_0 t5_0 t6_0 t7_0).2.2.2.2.2.2.2.2.1 (F_NM_wholeBy x2 x3 x4 x5 t0_0 t0_1 t0_2 t1_0 t1_1 t1_2 t1_3 t1_4 t1_5 t1_6 t2_0 t3_0 t4_0 t5_0 t6_0 t7_0).2.2.2.2.2.2.2.2.2.1) ∨ (¬ ((x2 = 0 ∨ x2 = 1 ∨ x2 = 2) ∧ yReg x3 ∧ yReg x5 ∧ yWbOk x2 x4) ∧ (F_NM_wholeBy x2 x3 x4 x5 t0_0 t0_1 t0_2 t1_0 t1_1 t1_2 t1_3 t1_4 t1_5 t1_6 t2_0 t3_0 t4_0 t5_0 t6_0 t7_0).1 = 1 ∧ wRw (F_NM_wholeBy x2 x3 x4 x5 t0_0 t0_1 t0_2 t1_0 t1_1 t1_2 t1_3 t1_4 t1_5 t1_6 t2_0 t3_0 t4_0 t5_0 t6_0 t7_0).2.2.2.2.2.2.2.2.1 (F_NM_wholeBy x2 x3 x4 x5 t0_0 t0_1 t0_2 t1_0 t1_1 t1_2 t1_3 t1_4 t1_5 t1_6 t2_0 t3_0 t4_0 t5_0 t6_0 t7_0).2.2.2.2.2.2.2.2.2.1 W) := by
  have key : ∀ {c : Int32} {k m : Nat → Int32}, (c = 1 ∧ k = t2_0 ∧ m = t3_0) → c = 1 ∧ wRw k m W := fun h => ⟨h.1, by rw [h.2.1, h.2.2]; exact hw⟩
  have e0 : (0 : Int32).toInt = 0 := rfl
  have e1 : (1 : Int32).toInt = 1 := rfl
  have e2 : (2 : Int32).toInt = 2 := rfl
  unfold F_NM_wholeBy
  by_cases c1 : x2 < 0
  · rw [if_pos c1]
    have c1 := q_ltI c1
    refine Or.inr ⟨fun h => ?_, key y_mn_wholeBy⟩
    rcases h.1 with h | h | h <;> rw [h] at c1 <;> omega
  · rw [if_neg c1]
    by_cases c2 : (2 : Int32) < x2
    · rw [if_pos c2]
      have c2 := q_ltI c2
      refine Or.inr ⟨fun h => ?_, key y_mn_wholeBy⟩
      rcases h.1 with h | h | h <;> rw [h] at c2 <;> omega
    · rw [if_neg c2]
      have h2 : x2 = 0 ∨ x2 = 1 ∨ x2 = 2 := by
        have c1 := q_nltI c1
        have c2 := q_nltI c2
        have : x2.toInt = 0 ∨ x2.toInt = 1 ∨ x2.toInt = 2 := by omega
        rcases this with h | h | h
        · exact Or.inl (Int32.toInt.inj (by rw [h, e0]))
        · exact Or.inr (Or.inl (Int32.toInt.inj (by rw [h, e1])))
        · exact Or.inr (Or.inr (Int32.toInt.inj (by rw [h, e2])))
      rcases y_noZ (x := x3) with ⟨r, d⟩ | ⟨r, d⟩
      · rw [if_pos r]
        rcases y_noZ (x := x5) with ⟨r, g⟩ | ⟨r, g⟩
        · rw [if_pos r]
          by_cases hn : yWbOk x2 x4
          · exact Or.inl ⟨⟨h2, d, g, hn⟩, V_NM_wholeByK hw d g h2 rfl hn⟩
          · exact Or.inr ⟨fun h => hn h.2.2.2, key (y_mwbno h2 rfl hn)⟩
        · rw [if_neg (show ¬ F_NM_no_IZ x5 = 0 by rw [r]; decide)]
          exact Or.inr ⟨fun h => g h.2.2.1, key y_mn_wholeBy⟩
      · rw [if_neg (show ¬ F_NM_no_IZ x3 = 0 by rw [r]; decide)]
        exact Or.inr ⟨fun h => d h.2.1, key y_mn_wholeBy⟩
theorem y_mn_powerModulo {x2 : Int32} {x3 : Int32} {x4 : Int32} {x5 : Int32} {t0_0 : Int32} {t0_1 : Int32} {t0_2 : Int32} {t1_0 : Int32} {t1_1 : Int32} {t1_2 : Int32} {t1_3 : Int32} {t1_4 : Int32} {t1_5 : Int32} {t1_6 : Int32} {t2_0 : (Nat → Int32)} {t3_0 : (Nat → Int32)} {t4_0 : (Nat → Int32)} {t5_0 : (Nat → Int32)} {t6_0 : (Nat → Int32)} {t7_0 : (Nat → Int32)} {t8_0 : (Nat → Int32)} {t9_0 : (Nat → Int32)} {t10_0 : (Nat → Int32)} {t11_0 : (Nat → Int32)} {t12_0 : (Nat → Int32)} {t13_0 : (Nat → Int32)}  : (F_NM_powerModulo_J30 x2 x3 x4 x5 t0_0 t0_1 t0_2 t1_0 t1_1 t1_2 t1_3 t1_4 t1_5 t1_6 t2_0 t3_0 t4_0 t5_0 t6_0 t7_0 t8_0 t9_0 t10_0 t11_0 t12_0 t13_0).1 = 1 ∧ (F_NM_powerModulo_J30 x2 x3 x4 x5 t0_0 t0_1 t0_2 t1_0 t1_1 t1_2 t1_3 t1_4 t1_5 t1_6 t2_0 t3_0 t4_0 t5_0 t6_0 t7_0 t8_0 t9_0 t10_0 t11_0 t12_0 t13_0).2.2.2.2.2.2.2.2.1 = t2_0 ∧ (F_NM_powerModulo_J30 x2 x3 x4 x5 t0_0 t0_1 t0_2 t1_0 t1_1 t1_2 t1_3 t1_4 t1_5 t1_6 t2_0 t3_0 t4_0 t5_0 t6_0 t7_0 t8_0 t9_0 t10_0 t11_0 t12_0 t13_0).2.2.2.2.2.2.2.2.2.1 = t3_0 := by
  unfold F_NM_powerModulo_J30 F_NM_powerModulo_J35
  rw [if_neg (show ¬ (1 : Int32) = 0 by decide)]
  exact ⟨rfl, rfl, rfl⟩
theorem V_NM_powerModulo {x2 : Int32} {x3 : Int32} {x4 : Int32} {x5 : Int32} {t0_0 : Int32} {t0_1 : Int32} {t0_2 : Int32} {t1_0 : Int32} {t1_1 : Int32} {t1_2 : Int32} {t1_3 : Int32} {t1_4 : Int32} {t1_5 : Int32} {t1_6 : Int32} {t2_0 : (Nat → Int32)} {t3_0 : (Nat → Int32)} {t4_0 : (Nat → Int32)} {t5_0 : (Nat → Int32)} {t6_0 : (Nat → Int32)} {t7_0 : (Nat → Int32)} {t8_0 : (Nat → Int32)} {t9_0 : (Nat → Int32)} {t10_0 : (Nat → Int32)} {t11_0 : (Nat → Int32)} {t12_0 : (Nat → Int32)} {t13_0 : (Nat → Int32)} {W : Nat → Int} (hw : wRw t2_0 t3_0 W) : ((yReg x2 ∧ yReg x3 ∧ yReg x4 ∧ yReg x5) ∧ wAn x5 W (sPM (W x2.toNatClampNeg) (W x3.toNatClampNeg) (W x4.toNatClampNeg)) (F_NM_powerModulo x2 x3 x4 x5 t0_0 t0_1 t0_2 t1_0 t1_1 t1_2 t1_3 t1_4 t1_5 t1_6 t2_0 t3_0 t4_0 t5_0 t6_0 t7_0 t8_0 t9_0 t10_0 t11_0 t12_0 t13_0).1 (F_NM_powerModulo x2 x3 x4 x5 t0_0 t0_1 t0_2 t1_0 t1_1 t1_2 t1_3 t1_4 t1_5 t1_6 t2_0 t3_0 t4_0 t5_0 t6_0 t7_0 t8_0 t9_0 t10_0 t11_0 t12_0 t13_0).2.2.2.2.2.2.2.2.1 (F_NM_powerModulo x2 x3 x4 x5 t0_0 t0_1 t0_2 t1_0 t1_1 t1_2 t1_3 t1_4 t1_5 t1_6 t2_0 t3_0 t4_0 t5_0 t6_0 t7_0 t8_0 t9_0 t10_0 t11_0 t12_0 t13_0).2.2.2.2.2.2.2.2.2.1) ∨ (¬ (yReg x2 ∧ yReg x3 ∧ yReg x4 ∧ yReg x5) ∧ (F_NM_powerModulo x2 x3 x4 x5 t0_0 t0_1 t0_2 t1_0 t1_1 t1_2 t1_3 t1_4 t1_5 t1_6 t2_0 t3_0 t4_0 t5_0 t6_0 t7_0 t8_0 t9_0 t10_0 t11_0 t12_0 t13_0).1 = 1 ∧ wRw (F_NM_powerModulo x2 x3 x4 x5 t0_0 t0_1 t0_2 t1_0 t1_1 t1_2 t1_3 t1_4 t1_5 t1_6 t2_0 t3_0 t4_0 t5_0 t6_0 t7_0 t8_0 t9_0 t10_0 t11_0 t12_0 t13_0).2.2.2.2.2.2.2.2.1 (F_NM_powerModulo x2 x3 x4 x5 t0_0 t0_1 t0_2 t1_0 t1_1 t1_2 t1_3 t1_4 t1_5 t1_6 t2_0 t3_0 t4_0 t5_0 t6_0 t7_0 t8_0 t9_0 t10_0 t11_0 t12_0 t13_0).2.2.2.2.2.2.2.2.2.1 W) := by
  have key : ∀ {c : Int32} {k m : Nat → Int32}, (c = 1 ∧ k = t2_0 ∧ m = t3_0) → c = 1 ∧ wRw k m W := fun h => ⟨h.1, by rw [h.2.1, h.2.2]; exact hw⟩
  unfold F_NM_powerModulo
  rcases y_noZ (x := x2) with ⟨r, a⟩ | ⟨r, a⟩
  · rw [if_pos r]
    rcases y_noZ (x := x3) with ⟨r, b⟩ | ⟨r, b⟩
    · rw [if_pos r]
      rcases y_noZ (x := x4) with ⟨r, c⟩ | ⟨r, c⟩
      · rw [if_pos r]
        rcases y_noZ (x := x5) with ⟨r, d⟩ | ⟨r, d⟩
        · rw [if_pos r]
          refine Or.inl ⟨⟨a, b, c, d⟩, ?_⟩
          obtain ⟨W2, hr, hE⟩ := hw
          have ea := hE _ (w_ne10 a).1
          have eb := hE _ (w_ne10 b).1
          have ec := hE _ (w_ne10 c).1
          rw [← ea, ← eb, ← ec]
          refine wAn_w hE ?_
          unfold F_NM_powerModulo_J35
          rw [if_pos (rfl : (0 : Int32) = 0)]
          have h := V_WR_powerModulo (x2 := x2) (x3 := x3) (x4 := x4) (x5 := x5) (t0_0 := t1_0) (t0_1 := t1_1) (t0_2 := t1_2) (t0_3 := t1_3) (t0_4 := t1_4) (t0_5 := t1_5) (t0_6 := t1_6) (t1_0 := t2_0) (t2_0 := t3_0) (t3_0 := t4_0) (t4_0 := t5_0) (t5_0 := t6_0) (t6_0 := t7_0) (t7_0 := t8_0) (t8_0 := t9_0) (t9_0 := t10_0) (t10_0 := t11_0) (t11_0 := t12_0) (t12_0 := t13_0) hr ⟨a.1, by have := a.2; omega⟩ ⟨b.1, by have := b.2; omega⟩ ⟨c.1, by have := c.2; omega⟩ ⟨d.1, by have := d.2; omega⟩
          revert h
          generalize F_WR_powerModulo x2 x3 x4 x5 t1_0 t1_1 t1_2 t1_3 t1_4 t1_5 t1_6 t2_0 t3_0 t4_0 t5_0 t6_0 t7_0 t8_0 t9_0 t10_0 t11_0 t12_0 t13_0 = p
          intro h
          unfold F_NM_powerModulo_c54
          exact h
        · rw [if_neg (show ¬ F_NM_no_IZ x5 = 0 by rw [r]; decide)]
          exact Or.inr ⟨fun h => d h.2.2.2, key y_mn_powerModulo⟩
      · rw [if_neg (show ¬ F_NM_no_IZ x4 = 0 by rw [r]; decide)]
        exact Or.inr ⟨fun h => c h.2.2.1, key y_mn_powerModulo⟩
    · rw [if_neg (show ¬ F_NM_no_IZ x3 = 0 by rw [r]; decide)]
      exact Or.inr ⟨fun h => b h.2.1, key y_mn_powerModulo⟩
  · rw [if_neg (show ¬ F_NM_no_IZ x2 = 0 by rw [r]; decide)]
    exact Or.inr ⟨fun h => a h.1, key y_mn_powerModulo⟩
