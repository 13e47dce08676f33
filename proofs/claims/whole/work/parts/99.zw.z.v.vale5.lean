/-! values, for whole: figures of the class, the call -/
theorem V_fi32 {x2 : Int32} {x3 : Int32} {x4 : Int32} {x5 : Int32} {x6 : Int32} {t0_0 : Int32} {t1_0 : (Nat → Int64)} {t2_0 : Int32} {t2_1 : Int32} {t3_0 : (Nat → Int32)} {t4_0 : Int32} {t4_1 : Int32} {t5_0 : (Nat → Int32)} {t6_0 : (Nat → Int64)} {t7_0 : (Nat → Int64)} {t8_0 : Int64} {t8_1 : Int32} {t8_2 : Int32} {t9_0 : Int64} {t9_1 : Int32} {t9_2 : Int32} (h : ¬ yFiOk x2 x3 x4 x5 x6) : (yFiOk x2 x3 x4 x5 x6 ∧ (F_NH_figures_J32 x2 x3 x4 x5 x6 t0_0 t1_0 t2_0 t2_1 t3_0 t4_0 t4_1 t5_0 t6_0 t7_0 t8_0 t8_1 t8_2 t9_0 t9_1 t9_2).1 = 0 ∧ (F_NH_figures_J32 x2 x3 x4 x5 x6 t0_0 t1_0 t2_0 t2_1 t3_0 t4_0 t4_1 t5_0 t6_0 t7_0 t8_0 t8_1 t8_2 t9_0 t9_1 t9_2).2.1 = (F_NH_figures_J32 x2 x3 x4 x5 x6 t0_0 t1_0 t2_0 t2_1 t3_0 t4_0 t4_1 t5_0 t6_0 t7_0 t8_0 t8_1 t8_2 t9_0 t9_1 t9_2).2.2.1 ∧ (x2.toInt = 2 → yEx 52 2047 (yu (t6_0 x3.toNatClampNeg)) ≠ 2047) ∧ (x2.toInt = 3 → yEx 23 255 (yu (t7_0 x3.toNatClampNeg)) ≠ 255) ∧ ∃ t, (x2.toInt = 2 → yFiT 52 2047 (-1074) (yu (t6_0 x3.toNatClampNeg)) x4 x5 x6 t) ∧ (x2.toInt = 3 → yFiT 23 255 (-149) (yu (t7_0 x3.toNatClampNeg)) x4 x5 x6 t) ∧ yPa (F_NH_figures_J32 x2 x3 x4 x5 x6 t0_0 t1_0 t2_0 t2_1 t3_0 t4_0 t4_1 t5_0 t6_0 t7_0 t8_0 t8_1 t8_2 t9_0 t9_1 t9_2).2.2.1 (F_NH_figures_J32 x2 x3 x4 x5 x6 t0_0 t1_0 t2_0 t2_1 t3_0 t4_0 t4_1 t5_0 t6_0 t7_0 t8_0 t8_1 t8_2 t9_0 t9_1 t9_2).2.2.2.1 t) ∨ (¬ yFiOk x2 x3 x4 x5 x6 ∧ (F_NH_figures_J32 x2 x3 x4 x5 x6 t0_0 t1_0 t2_0 t2_1 t3_0 t4_0 t4_1 t5_0 t6_0 t7_0 t8_0 t8_1 t8_2 t9_0 t9_1 t9_2).1 = 1 ∧ (F_NH_figures_J32 x2 x3 x4 x5 x6 t0_0 t1_0 t2_0 t2_1 t3_0 t4_0 t4_1 t5_0 t6_0 t7_0 t8_0 t8_1 t8_2 t9_0 t9_1 t9_2).2.2.1 = t0_0 ∧ (F_NH_figures_J32 x2 x3 x4 x5 x6 t0_0 t1_0 t2_0 t2_1 t3_0 t4_0 t4_1 t5_0 t6_0 t7_0 t8_0 t8_1 t8_2 t9_0 t9_1 t9_2).2.2.2.1 = t1_0) ∨ (yFiOk x2 x3 x4 x5 x6 ∧ (F_NH_figures_J32 x2 x3 x4 x5 x6 t0_0 t1_0 t2_0 t2_1 t3_0 t4_0 t4_1 t5_0 t6_0 t7_0 t8_0 t8_1 t8_2 t9_0 t9_1 t9_2).1 = 2 ∧ (x2.toInt = 2 → yEx 52 2047 (yu (t6_0 x3.toNatClampNeg)) = 2047) ∧ (x2.toInt = 3 → yEx 23 255 (yu (t7_0 x3.toNatClampNeg)) = 255) ∧ (F_NH_figures_J32 x2 x3 x4 x5 x6 t0_0 t1_0 t2_0 t2_1 t3_0 t4_0 t4_1 t5_0 t6_0 t7_0 t8_0 t8_1 t8_2 t9_0 t9_1 t9_2).2.2.1 = t0_0 ∧ (F_NH_figures_J32 x2 x3 x4 x5 x6 t0_0 t1_0 t2_0 t2_1 t3_0 t4_0 t4_1 t5_0 t6_0 t7_0 t8_0 t8_1 t8_2 t9_0 t9_1 t9_2).2.2.2.1 = t1_0) := by
  have n0 : F_NH_need 0 = 1 := by decide
  unfold F_NH_figures_J32 F_NH_figures_J33
  rw [n0, if_neg (by decide : ¬ (1 : Int32) = 0)]
  exact Or.inr (Or.inl ⟨h, rfl, rfl, rfl⟩)
theorem V_fi33 {x2 : Int32} {x3 : Int32} {x4 : Int32} {x5 : Int32} {x6 : Int32} {t0_0 : Int32} {t1_0 : (Nat → Int64)} {t2_0 : Int32} {t2_1 : Int32} {t3_0 : (Nat → Int32)} {t4_0 : Int32} {t4_1 : Int32} {t5_0 : (Nat → Int32)} {t6_0 : (Nat → Int64)} {t7_0 : (Nat → Int64)} {t8_0 : Int64} {t8_1 : Int32} {t8_2 : Int32} {t9_0 : Int64} {t9_1 : Int32} {t9_2 : Int32} {lx34 : Int32} (hr : yReg x3) (hx : x2.toInt = 2 ∨ x2.toInt = 3) (hmd : 0 ≤ x6.toInt ∧ x6.toInt ≤ 3) (hl : lx34 = 1) : (yFiOk x2 x3 x4 x5 x6 ∧ (F_NH_figures_J33 x2 x3 x4 x5 x6 t0_0 t1_0 t2_0 t2_1 t3_0 t4_0 t4_1 t5_0 t6_0 t7_0 t8_0 t8_1 t8_2 t9_0 t9_1 t9_2 lx34).1 = 0 ∧ (F_NH_figures_J33 x2 x3 x4 x5 x6 t0_0 t1_0 t2_0 t2_1 t3_0 t4_0 t4_1 t5_0 t6_0 t7_0 t8_0 t8_1 t8_2 t9_0 t9_1 t9_2 lx34).2.1 = (F_NH_figures_J33 x2 x3 x4 x5 x6 t0_0 t1_0 t2_0 t2_1 t3_0 t4_0 t4_1 t5_0 t6_0 t7_0 t8_0 t8_1 t8_2 t9_0 t9_1 t9_2 lx34).2.2.1 ∧ (x2.toInt = 2 → yEx 52 2047 (yu (t6_0 x3.toNatClampNeg)) ≠ 2047) ∧ (x2.toInt = 3 → yEx 23 255 (yu (t7_0 x3.toNatClampNeg)) ≠ 255) ∧ ∃ t, (x2.toInt = 2 → yFiT 52 2047 (-1074) (yu (t6_0 x3.toNatClampNeg)) x4 x5 x6 t) ∧ (x2.toInt = 3 → yFiT 23 255 (-149) (yu (t7_0 x3.toNatClampNeg)) x4 x5 x6 t) ∧ yPa (F_NH_figures_J33 x2 x3 x4 x5 x6 t0_0 t1_0 t2_0 t2_1 t3_0 t4_0 t4_1 t5_0 t6_0 t7_0 t8_0 t8_1 t8_2 t9_0 t9_1 t9_2 lx34).2.2.1 (F_NH_figures_J33 x2 x3 x4 x5 x6 t0_0 t1_0 t2_0 t2_1 t3_0 t4_0 t4_1 t5_0 t6_0 t7_0 t8_0 t8_1 t8_2 t9_0 t9_1 t9_2 lx34).2.2.2.1 t) ∨ (¬ yFiOk x2 x3 x4 x5 x6 ∧ (F_NH_figures_J33 x2 x3 x4 x5 x6 t0_0 t1_0 t2_0 t2_1 t3_0 t4_0 t4_1 t5_0 t6_0 t7_0 t8_0 t8_1 t8_2 t9_0 t9_1 t9_2 lx34).1 = 1 ∧ (F_NH_figures_J33 x2 x3 x4 x5 x6 t0_0 t1_0 t2_0 t2_1 t3_0 t4_0 t4_1 t5_0 t6_0 t7_0 t8_0 t8_1 t8_2 t9_0 t9_1 t9_2 lx34).2.2.1 = t0_0 ∧ (F_NH_figures_J33 x2 x3 x4 x5 x6 t0_0 t1_0 t2_0 t2_1 t3_0 t4_0 t4_1 t5_0 t6_0 t7_0 t8_0 t8_1 t8_2 t9_0 t9_1 t9_2 lx34).2.2.2.1 = t1_0) ∨ (yFiOk x2 x3 x4 x5 x6 ∧ (F_NH_figures_J33 x2 x3 x4 x5 x6 t0_0 t1_0 t2_0 t2_1 t3_0 t4_0 t4_1 t5_0 t6_0 t7_0 t8_0 t8_1 t8_2 t9_0 t9_1 t9_2 lx34).1 = 2 ∧ (x2.toInt = 2 → yEx 52 2047 (yu (t6_0 x3.toNatClampNeg)) = 2047) ∧ (x2.toInt = 3 → yEx 23 255 (yu (t7_0 x3.toNatClampNeg)) = 255) ∧ (F_NH_figures_J33 x2 x3 x4 x5 x6 t0_0 t1_0 t2_0 t2_1 t3_0 t4_0 t4_1 t5_0 t6_0 t7_0 t8_0 t8_1 t8_2 t9_0 t9_1 t9_2 lx34).2.2.1 = t0_0 ∧ (F_NH_figures_J33 x2 x3 x4 x5 x6 t0_0 t1_0 t2_0 t2_1 t3_0 t4_0 t4_1 t5_0 t6_0 t7_0 t8_0 t8_1 t8_2 t9_0 t9_1 t9_2 lx34).2.2.2.1 = t1_0) := by
  have n1 : F_NH_need 1 = 0 := by decide
  have e0 : (0 : Int32).toInt = 0 := rfl
  have e1 : (1 : Int32).toInt = 1 := rfl
  have eC : (1100 : Int32).toInt = 1100 := rfl
  have eD : (800 : Int32).toInt = 800 := rfl
  unfold F_NH_figures_J33
  rw [hl, n1, if_pos (rfl : (0 : Int32) = 0)]
  by_cases z : x4 = 0
  · rw [if_pos z]
    by_cases a : x5 < 0
    · rw [if_pos a]
      have a := q_ltI a
      unfold F_NH_figures_J79
      exact V_fi80 hr hx hmd (Or.inr ⟨rfl, fun q => by rcases q with w | w
                                                       · omega
                                                       · exact w.1 z⟩)
    · rw [if_neg a]
      have a := q_nltI a
      by_cases b : 1100 < x5
      · rw [if_pos b]
        have b := q_ltI b
        unfold F_NH_figures_J79
        exact V_fi80 hr hx hmd (Or.inr ⟨rfl, fun q => by rcases q with w | w
                                                         · omega
                                                         · exact w.1 z⟩)
      · rw [if_neg b]
        have b := q_nltI b
        exact V_fi80 hr hx hmd (Or.inl ⟨rfl, Or.inl ⟨z, by omega, by omega⟩⟩)
  · rw [if_neg z]
    by_cases a : x5 < 1
    · rw [if_pos a]
      have a := q_ltI a
      unfold F_NH_figures_J58
      exact V_fi80 hr hx hmd (Or.inr ⟨rfl, fun q => by rcases q with w | w
                                                       · exact z w.1
                                                       · omega⟩)
    · rw [if_neg a]
      have a := q_nltI a
      by_cases b : 800 < x5
      · rw [if_pos b]
        have b := q_ltI b
        unfold F_NH_figures_J58
        exact V_fi80 hr hx hmd (Or.inr ⟨rfl, fun q => by rcases q with w | w
                                                         · exact z w.1
                                                         · omega⟩)
      · rw [if_neg b]
        have b := q_nltI b
        exact V_fi80 hr hx hmd (Or.inl ⟨rfl, Or.inr ⟨z, by omega, by omega⟩⟩)
theorem V_fi10 {x2 : Int32} {x3 : Int32} {x4 : Int32} {x5 : Int32} {x6 : Int32} {t0_0 : Int32} {t1_0 : (Nat → Int64)} {t2_0 : Int32} {t2_1 : Int32} {t3_0 : (Nat → Int32)} {t4_0 : Int32} {t4_1 : Int32} {t5_0 : (Nat → Int32)} {t6_0 : (Nat → Int64)} {t7_0 : (Nat → Int64)} {t8_0 : Int64} {t8_1 : Int32} {t8_2 : Int32} {t9_0 : Int64} {t9_1 : Int32} {t9_2 : Int32} (hx : x2.toInt = 2 ∨ x2.toInt = 3) : (yFiOk x2 x3 x4 x5 x6 ∧ (F_NH_figures_J10 x2 x3 x4 x5 x6 t0_0 t1_0 t2_0 t2_1 t3_0 t4_0 t4_1 t5_0 t6_0 t7_0 t8_0 t8_1 t8_2 t9_0 t9_1 t9_2).1 = 0 ∧ (F_NH_figures_J10 x2 x3 x4 x5 x6 t0_0 t1_0 t2_0 t2_1 t3_0 t4_0 t4_1 t5_0 t6_0 t7_0 t8_0 t8_1 t8_2 t9_0 t9_1 t9_2).2.1 = (F_NH_figures_J10 x2 x3 x4 x5 x6 t0_0 t1_0 t2_0 t2_1 t3_0 t4_0 t4_1 t5_0 t6_0 t7_0 t8_0 t8_1 t8_2 t9_0 t9_1 t9_2).2.2.1 ∧ (x2.toInt = 2 → yEx 52 2047 (yu (t6_0 x3.toNatClampNeg)) ≠ 2047) ∧ (x2.toInt = 3 → yEx 23 255 (yu (t7_0 x3.toNatClampNeg)) ≠ 255) ∧ ∃ t, (x2.toInt = 2 → yFiT 52 2047 (-1074) (yu (t6_0 x3.toNatClampNeg)) x4 x5 x6 t) ∧ (x2.toInt = 3 → yFiT 23 255 (-149) (yu (t7_0 x3.toNatClampNeg)) x4 x5 x6 t) ∧ yPa (F_NH_figures_J10 x2 x3 x4 x5 x6 t0_0 t1_0 t2_0 t2_1 t3_0 t4_0 t4_1 t5_0 t6_0 t7_0 t8_0 t8_1 t8_2 t9_0 t9_1 t9_2).2.2.1 (F_NH_figures_J10 x2 x3 x4 x5 x6 t0_0 t1_0 t2_0 t2_1 t3_0 t4_0 t4_1 t5_0 t6_0 t7_0 t8_0 t8_1 t8_2 t9_0 t9_1 t9_2).2.2.2.1 t) ∨ (¬ yFiOk x2 x3 x4 x5 x6 ∧ (F_NH_figures_J10 x2 x3 x4 x5 x6 t0_0 t1_0 t2_0 t2_1 t3_0 t4_0 t4_1 t5_0 t6_0 t7_0 t8_0 t8_1 t8_2 t9_0 t9_1 t9_2).1 = 1 ∧ (F_NH_figures_J10 x2 x3 x4 x5 x6 t0_0 t1_0 t2_0 t2_1 t3_0 t4_0 t4_1 t5_0 t6_0 t7_0 t8_0 t8_1 t8_2 t9_0 t9_1 t9_2).2.2.1 = t0_0 ∧ (F_NH_figures_J10 x2 x3 x4 x5 x6 t0_0 t1_0 t2_0 t2_1 t3_0 t4_0 t4_1 t5_0 t6_0 t7_0 t8_0 t8_1 t8_2 t9_0 t9_1 t9_2).2.2.2.1 = t1_0) ∨ (yFiOk x2 x3 x4 x5 x6 ∧ (F_NH_figures_J10 x2 x3 x4 x5 x6 t0_0 t1_0 t2_0 t2_1 t3_0 t4_0 t4_1 t5_0 t6_0 t7_0 t8_0 t8_1 t8_2 t9_0 t9_1 t9_2).1 = 2 ∧ (x2.toInt = 2 → yEx 52 2047 (yu (t6_0 x3.toNatClampNeg)) = 2047) ∧ (x2.toInt = 3 → yEx 23 255 (yu (t7_0 x3.toNatClampNeg)) = 255) ∧ (F_NH_figures_J10 x2 x3 x4 x5 x6 t0_0 t1_0 t2_0 t2_1 t3_0 t4_0 t4_1 t5_0 t6_0 t7_0 t8_0 t8_1 t8_2 t9_0 t9_1 t9_2).2.2.1 = t0_0 ∧ (F_NH_figures_J10 x2 x3 x4 x5 x6 t0_0 t1_0 t2_0 t2_1 t3_0 t4_0 t4_1 t5_0 t6_0 t7_0 t8_0 t8_1 t8_2 t9_0 t9_1 t9_2).2.2.2.1 = t1_0) := by
  have e0 : (0 : Int32).toInt = 0 := rfl
  have e3 : (3 : Int32).toInt = 3 := rfl
  unfold F_NH_figures_J10
  rcases y_isR (x := x3) with ⟨g, k⟩ | ⟨g, k⟩
  · rw [if_pos g]
    exact V_fi32 (fun q => k q.2.1)
  · rw [if_neg (by rw [g]; decide)]
    by_cases a : x6 < 0
    · rw [if_pos a]
      have a := q_ltI a
      exact V_fi32 (fun q => by have := q.2.2.1; omega)
    · rw [if_neg a]
      have a := q_nltI a
      by_cases b : 3 < x6
      · rw [if_pos b]
        have b := q_ltI b
        exact V_fi32 (fun q => by have := q.2.2.1; omega)
      · rw [if_neg b]
        have b := q_nltI b
        exact V_fi33 k hx (by omega) rfl
theorem V_NH_figures {x2 : Int32} {x3 : Int32} {x4 : Int32} {x5 : Int32} {x6 : Int32} {t0_0 : Int32} {t1_0 : (Nat → Int64)} {t2_0 : Int32} {t2_1 : Int32} {t3_0 : (Nat → Int32)} {t4_0 : Int32} {t4_1 : Int32} {t5_0 : (Nat → Int32)} {t6_0 : (Nat → Int64)} {t7_0 : (Nat → Int64)} {t8_0 : Int64} {t8_1 : Int32} {t8_2 : Int32} {t9_0 : Int64} {t9_1 : Int32} {t9_2 : Int32}  : (yFiOk x2 x3 x4 x5 x6 ∧ (F_NH_figures x2 x3 x4 x5 x6 t0_0 t1_0 t2_0 t2_1 t3_0 t4_0 t4_1 t5_0 t6_0 t7_0 t8_0 t8_1 t8_2 t9_0 t9_1 t9_2).1 = 0 ∧ (F_NH_figures x2 x3 x4 x5 x6 t0_0 t1_0 t2_0 t2_1 t3_0 t4_0 t4_1 t5_0 t6_0 t7_0 t8_0 t8_1 t8_2 t9_0 t9_1 t9_2).2.1 = (F_NH_figures x2 x3 x4 x5 x6 t0_0 t1_0 t2_0 t2_1 t3_0 t4_0 t4_1 t5_0 t6_0 t7_0 t8_0 t8_1 t8_2 t9_0 t9_1 t9_2).2.2.1 ∧ (x2.toInt = 2 → yEx 52 2047 (yu (t6_0 x3.toNatClampNeg)) ≠ 2047) ∧ (x2.toInt = 3 → yEx 23 255 (yu (t7_0 x3.toNatClampNeg)) ≠ 255) ∧ ∃ t, (x2.toInt = 2 → yFiT 52 2047 (-1074) (yu (t6_0 x3.toNatClampNeg)) x4 x5 x6 t) ∧ (x2.toInt = 3 → yFiT 23 255 (-149) (yu (t7_0 x3.toNatClampNeg)) x4 x5 x6 t) ∧ yPa (F_NH_figures x2 x3 x4 x5 x6 t0_0 t1_0 t2_0 t2_1 t3_0 t4_0 t4_1 t5_0 t6_0 t7_0 t8_0 t8_1 t8_2 t9_0 t9_1 t9_2).2.2.1 (F_NH_figures x2 x3 x4 x5 x6 t0_0 t1_0 t2_0 t2_1 t3_0 t4_0 t4_1 t5_0 t6_0 t7_0 t8_0 t8_1 t8_2 t9_0 t9_1 t9_2).2.2.2.1 t) ∨ (¬ yFiOk x2 x3 x4 x5 x6 ∧ (F_NH_figures x2 x3 x4 x5 x6 t0_0 t1_0 t2_0 t2_1 t3_0 t4_0 t4_1 t5_0 t6_0 t7_0 t8_0 t8_1 t8_2 t9_0 t9_1 t9_2).1 = 1 ∧ (F_NH_figures x2 x3 x4 x5 x6 t0_0 t1_0 t2_0 t2_1 t3_0 t4_0 t4_1 t5_0 t6_0 t7_0 t8_0 t8_1 t8_2 t9_0 t9_1 t9_2).2.2.1 = t0_0 ∧ (F_NH_figures x2 x3 x4 x5 x6 t0_0 t1_0 t2_0 t2_1 t3_0 t4_0 t4_1 t5_0 t6_0 t7_0 t8_0 t8_1 t8_2 t9_0 t9_1 t9_2).2.2.2.1 = t1_0) ∨ (yFiOk x2 x3 x4 x5 x6 ∧ (F_NH_figures x2 x3 x4 x5 x6 t0_0 t1_0 t2_0 t2_1 t3_0 t4_0 t4_1 t5_0 t6_0 t7_0 t8_0 t8_1 t8_2 t9_0 t9_1 t9_2).1 = 2 ∧ (x2.toInt = 2 → yEx 52 2047 (yu (t6_0 x3.toNatClampNeg)) = 2047) ∧ (x2.toInt = 3 → yEx 23 255 (yu (t7_0 x3.toNatClampNeg)) = 255) ∧ (F_NH_figures x2 x3 x4 x5 x6 t0_0 t1_0 t2_0 t2_1 t3_0 t4_0 t4_1 t5_0 t6_0 t7_0 t8_0 t8_1 t8_2 t9_0 t9_1 t9_2).2.2.1 = t0_0 ∧ (F_NH_figures x2 x3 x4 x5 x6 t0_0 t1_0 t2_0 t2_1 t3_0 t4_0 t4_1 t5_0 t6_0 t7_0 t8_0 t8_1 t8_2 t9_0 t9_1 t9_2).2.2.2.1 = t1_0) := by
  unfold F_NH_figures
  by_cases a : x2 = 2
  · rw [if_pos a]
    exact V_fi10 (Or.inl (by rw [a]; rfl))
  · rw [if_neg a]
    by_cases b : x2 = 3
    · rw [if_pos b]
      exact V_fi10 (Or.inr (by rw [b]; rfl))
    · rw [if_neg b]
      exact V_fi32 (fun q => by rcases q.1 with w | w
                                · exact a (Int32.toInt_inj.mp w)
                                · exact b (Int32.toInt_inj.mp w))
