/-! values, for whole: figures of the reference, the call -/
theorem V_mf14 {x2 : Int32} {x3 : Int32} {x4 : Int32} {x5 : Int32} {x6 : Int32} {t0_0 : Int32} {t0_1 : Int32} {t0_2 : Int32} {t1_0 : Int32} {t1_1 : Int32} {t1_2 : Int32} {t1_3 : Int32} {t1_4 : Int64} {t1_5 : Int32} {t1_6 : Int32} {t1_7 : Int64} {t1_8 : Int32} {t1_9 : Int64} {t1_10 : Int32} {t2_0 : (Nat → Int32)} {t3_0 : (Nat → Int32)} {t4_0 : (Nat → Int32)} {t5_0 : (Nat → Int32)} {t6_0 : (Nat → Int32)} {t7_0 : (Nat → Int32)} {t8_0 : (Nat → Int64)} {wd nr : Nat} (h : ¬ yFiOk x2 x3 x4 x5 x6) : (yFiOk x2 x3 x4 x5 x6 ∧ (F_NM_figures_J14 x2 x3 x4 x5 x6 t0_0 t0_1 t0_2 t1_0 t1_1 t1_2 t1_3 t1_4 t1_5 t1_6 t1_7 t1_8 t1_9 t1_10 t2_0 t3_0 t4_0 t5_0 t6_0 t7_0 t8_0).2.1 = 0 ∧ (F_NM_figures_J14 x2 x3 x4 x5 x6 t0_0 t0_1 t0_2 t1_0 t1_1 t1_2 t1_3 t1_4 t1_5 t1_6 t1_7 t1_8 t1_9 t1_10 t2_0 t3_0 t4_0 t5_0 t6_0 t7_0 t8_0).1 = (F_NM_figures_J14 x2 x3 x4 x5 x6 t0_0 t0_1 t0_2 t1_0 t1_1 t1_2 t1_3 t1_4 t1_5 t1_6 t1_7 t1_8 t1_9 t1_10 t2_0 t3_0 t4_0 t5_0 t6_0 t7_0 t8_0).2.2.1 ∧ (x2.toInt = 2 → yEx 52 2047 wd ≠ 2047) ∧ (x2.toInt = 3 → yEx 23 255 nr ≠ 255) ∧ ∀ t, (x2.toInt = 2 → yFiT 52 2047 (-1074) wd x4 x5 x6 t) → (x2.toInt = 3 → yFiT 23 255 (-149) nr x4 x5 x6 t) → yRt (F_NM_figures_J14 x2 x3 x4 x5 x6 t0_0 t0_1 t0_2 t1_0 t1_1 t1_2 t1_3 t1_4 t1_5 t1_6 t1_7 t1_8 t1_9 t1_10 t2_0 t3_0 t4_0 t5_0 t6_0 t7_0 t8_0).2.2.1 (F_NM_figures_J14 x2 x3 x4 x5 x6 t0_0 t0_1 t0_2 t1_0 t1_1 t1_2 t1_3 t1_4 t1_5 t1_6 t1_7 t1_8 t1_9 t1_10 t2_0 t3_0 t4_0 t5_0 t6_0 t7_0 t8_0).2.2.2.2.2.2.2.2.2.2.2.2.2.2.2.2.2.2.2 t ∧ t.length ≤ 1600) ∨ (¬ yFiOk x2 x3 x4 x5 x6 ∧ (F_NM_figures_J14 x2 x3 x4 x5 x6 t0_0 t0_1 t0_2 t1_0 t1_1 t1_2 t1_3 t1_4 t1_5 t1_6 t1_7 t1_8 t1_9 t1_10 t2_0 t3_0 t4_0 t5_0 t6_0 t7_0 t8_0).2.1 = 1 ∧ (F_NM_figures_J14 x2 x3 x4 x5 x6 t0_0 t0_1 t0_2 t1_0 t1_1 t1_2 t1_3 t1_4 t1_5 t1_6 t1_7 t1_8 t1_9 t1_10 t2_0 t3_0 t4_0 t5_0 t6_0 t7_0 t8_0).2.2.1 = t0_2 ∧ (F_NM_figures_J14 x2 x3 x4 x5 x6 t0_0 t0_1 t0_2 t1_0 t1_1 t1_2 t1_3 t1_4 t1_5 t1_6 t1_7 t1_8 t1_9 t1_10 t2_0 t3_0 t4_0 t5_0 t6_0 t7_0 t8_0).2.2.2.2.2.2.2.2.2.2.2.2.2.2.2.2.2.2.2 = t7_0) ∨ (yFiOk x2 x3 x4 x5 x6 ∧ (F_NM_figures_J14 x2 x3 x4 x5 x6 t0_0 t0_1 t0_2 t1_0 t1_1 t1_2 t1_3 t1_4 t1_5 t1_6 t1_7 t1_8 t1_9 t1_10 t2_0 t3_0 t4_0 t5_0 t6_0 t7_0 t8_0).2.1 = 2 ∧ (x2.toInt = 2 → yEx 52 2047 wd = 2047) ∧ (x2.toInt = 3 → yEx 23 255 nr = 255) ∧ (F_NM_figures_J14 x2 x3 x4 x5 x6 t0_0 t0_1 t0_2 t1_0 t1_1 t1_2 t1_3 t1_4 t1_5 t1_6 t1_7 t1_8 t1_9 t1_10 t2_0 t3_0 t4_0 t5_0 t6_0 t7_0 t8_0).2.2.1 = t0_2 ∧ (F_NM_figures_J14 x2 x3 x4 x5 x6 t0_0 t0_1 t0_2 t1_0 t1_1 t1_2 t1_3 t1_4 t1_5 t1_6 t1_7 t1_8 t1_9 t1_10 t2_0 t3_0 t4_0 t5_0 t6_0 t7_0 t8_0).2.2.2.2.2.2.2.2.2.2.2.2.2.2.2.2.2.2.2 = t7_0) := by
  unfold F_NM_figures_J14 F_NM_figures_J19
  rw [if_neg (by decide : ¬ (1 : Int32) ≤ 0)]
  exact Or.inr (Or.inl ⟨h, rfl, rfl, rfl⟩)
theorem V_NM_figures {x2 : Int32} {x3 : Int32} {x4 : Int32} {x5 : Int32} {x6 : Int32} {t0_0 : Int32} {t0_1 : Int32} {t0_2 : Int32} {t1_0 : Int32} {t1_1 : Int32} {t1_2 : Int32} {t1_3 : Int32} {t1_4 : Int64} {t1_5 : Int32} {t1_6 : Int32} {t1_7 : Int64} {t1_8 : Int32} {t1_9 : Int64} {t1_10 : Int32} {t2_0 : (Nat → Int32)} {t3_0 : (Nat → Int32)} {t4_0 : (Nat → Int32)} {t5_0 : (Nat → Int32)} {t6_0 : (Nat → Int32)} {t7_0 : (Nat → Int32)} {t8_0 : (Nat → Int64)} {wd nr : Nat} (h2 : yReg x3 → x2.toInt = 2 → ∀ a b c, yu (F_NM_bitsOf x2 x3 a b c t8_0) = wd ∧ yBit 52 2047 wd) (h3 : yReg x3 → x2.toInt = 3 → ∀ a b c, yu (F_NM_bitsOf x2 x3 a b c t8_0) = nr ∧ yBit 23 255 nr) : (yFiOk x2 x3 x4 x5 x6 ∧ (F_NM_figures x2 x3 x4 x5 x6 t0_0 t0_1 t0_2 t1_0 t1_1 t1_2 t1_3 t1_4 t1_5 t1_6 t1_7 t1_8 t1_9 t1_10 t2_0 t3_0 t4_0 t5_0 t6_0 t7_0 t8_0).2.1 = 0 ∧ (F_NM_figures x2 x3 x4 x5 x6 t0_0 t0_1 t0_2 t1_0 t1_1 t1_2 t1_3 t1_4 t1_5 t1_6 t1_7 t1_8 t1_9 t1_10 t2_0 t3_0 t4_0 t5_0 t6_0 t7_0 t8_0).1 = (F_NM_figures x2 x3 x4 x5 x6 t0_0 t0_1 t0_2 t1_0 t1_1 t1_2 t1_3 t1_4 t1_5 t1_6 t1_7 t1_8 t1_9 t1_10 t2_0 t3_0 t4_0 t5_0 t6_0 t7_0 t8_0).2.2.1 ∧ (x2.toInt = 2 → yEx 52 2047 wd ≠ 2047) ∧ (x2.toInt = 3 → yEx 23 255 nr ≠ 255) ∧ ∀ t, (x2.toInt = 2 → yFiT 52 2047 (-1074) wd x4 x5 x6 t) → (x2.toInt = 3 → yFiT 23 255 (-149) nr x4 x5 x6 t) → yRt (F_NM_figures x2 x3 x4 x5 x6 t0_0 t0_1 t0_2 t1_0 t1_1 t1_2 t1_3 t1_4 t1_5 t1_6 t1_7 t1_8 t1_9 t1_10 t2_0 t3_0 t4_0 t5_0 t6_0 t7_0 t8_0).2.2.1 (F_NM_figures x2 x3 x4 x5 x6 t0_0 t0_1 t0_2 t1_0 t1_1 t1_2 t1_3 t1_4 t1_5 t1_6 t1_7 t1_8 t1_9 t1_10 t2_0 t3_0 t4_0 t5_0 t6_0 t7_0 t8_0).2.2.2.2.2.2.2.2.2.2.2.2.2.2.2.2.2.2.2 t ∧ t.length ≤ 1600) ∨ (¬ yFiOk x2 x3 x4 x5 x6 ∧ (F_NM_figures x2 x3 x4 x5 x6 t0_0 t0_1 t0_2 t1_0 t1_1 t1_2 t1_3 t1_4 t1_5 t1_6 t1_7 t1_8 t1_9 t1_10 t2_0 t3_0 t4_0 t5_0 t6_0 t7_0 t8_0).2.1 = 1 ∧ (F_NM_figures x2 x3 x4 x5 x6 t0_0 t0_1 t0_2 t1_0 t1_1 t1_2 t1_3 t1_4 t1_5 t1_6 t1_7 t1_8 t1_9 t1_10 t2_0 t3_0 t4_0 t5_0 t6_0 t7_0 t8_0).2.2.1 = t0_2 ∧ (F_NM_figures x2 x3 x4 x5 x6 t0_0 t0_1 t0_2 t1_0 t1_1 t1_2 t1_3 t1_4 t1_5 t1_6 t1_7 t1_8 t1_9 t1_10 t2_0 t3_0 t4_0 t5_0 t6_0 t7_0 t8_0).2.2.2.2.2.2.2.2.2.2.2.2.2.2.2.2.2.2.2 = t7_0) ∨ (yFiOk x2 x3 x4 x5 x6 ∧ (F_NM_figures x2 x3 x4 x5 x6 t0_0 t0_1 t0_2 t1_0 t1_1 t1_2 t1_3 t1_4 t1_5 t1_6 t1_7 t1_8 t1_9 t1_10 t2_0 t3_0 t4_0 t5_0 t6_0 t7_0 t8_0).2.1 = 2 ∧ (x2.toInt = 2 → yEx 52 2047 wd = 2047) ∧ (x2.toInt = 3 → yEx 23 255 nr = 255) ∧ (F_NM_figures x2 x3 x4 x5 x6 t0_0 t0_1 t0_2 t1_0 t1_1 t1_2 t1_3 t1_4 t1_5 t1_6 t1_7 t1_8 t1_9 t1_10 t2_0 t3_0 t4_0 t5_0 t6_0 t7_0 t8_0).2.2.1 = t0_2 ∧ (F_NM_figures x2 x3 x4 x5 x6 t0_0 t0_1 t0_2 t1_0 t1_1 t1_2 t1_3 t1_4 t1_5 t1_6 t1_7 t1_8 t1_9 t1_10 t2_0 t3_0 t4_0 t5_0 t6_0 t7_0 t8_0).2.2.2.2.2.2.2.2.2.2.2.2.2.2.2.2.2.2.2 = t7_0) := by
  have e2 : (2 : Int32).toInt = 2 := rfl
  unfold F_NM_figures
  by_cases a : x2 < 2
  · rw [if_pos a]
    have a := q_ltI a
    exact V_mf14 (fun q => by have := q.1; omega)
  · rw [if_neg a]
    have a := q_nltI a
    rcases y_noII (x := x2) (y := x3) with ⟨g, k, hr⟩ | ⟨g, k⟩
    · rw [if_pos g]
      unfold F_NM_figures_J19
      rw [if_pos (show (0 : Int32) ≤ 0 by decide)]
      by_cases h4 : x4 = 0
      · rw [if_pos h4]
        by_cases y : x2 = 3
        · have yi : x2.toInt = 3 := by rw [y]; rfl
          rw [if_pos y]
          obtain ⟨u1, u2⟩ := h3 hr yi 0 t0_1 t0_2
          have v := V_mf85 (x2 := x2) (x3 := x3) (x4 := x4) (x5 := x5) (x6 := x6) (t0_0 := t0_0) (t0_1 := t0_1) (t0_2 := t0_2) (t1_0 := t1_0) (t1_1 := t1_1) (t1_2 := t1_2) (t1_3 := t1_3) (t1_4 := t1_4) (t1_5 := t1_5) (t1_6 := t1_6) (t1_7 := t1_7) (t1_8 := t1_8) (t1_9 := t1_9) (t1_10 := t1_10) (t2_0 := t2_0) (t3_0 := t3_0) (t4_0 := t4_0) (t5_0 := t5_0) (t6_0 := t6_0) (t7_0 := t7_0) (t8_0 := t8_0) (lx40 := 0) (j65 := F_NM_bitsOf x2 x3 0 t0_1 t0_2 t8_0) (Or.inr ⟨rfl, rfl, rfl, rfl⟩) (by rw [u1]; exact u2) h4
          rw [u1] at v
          rcases v with ⟨a, f, z, e, r⟩ | ⟨a, z, e, r⟩ | ⟨a, f, z, e, r⟩
          · exact Or.inl ⟨⟨Or.inr yi, hr, a.2, Or.inl ⟨h4, a.1.1, a.1.2⟩⟩, z, e, fun q => by omega, fun _ => f, fun t _ q => r t (q yi)⟩
          · exact Or.inr (Or.inl ⟨fun q => a ⟨q.2.2.2.elim (fun z => z.2) (fun z => absurd h4 z.1), q.2.2.1⟩, z, e, r⟩)
          · exact Or.inr (Or.inr ⟨⟨Or.inr yi, hr, a.2, Or.inl ⟨h4, a.1.1, a.1.2⟩⟩, z, fun q => by omega, fun _ => f, e, r⟩)
        · have yi : x2.toInt = 2 := by
            have : x2.toInt ≠ 3 := fun q => y (Int32.toInt_inj.mp q)
            omega
          rw [if_neg y]
          obtain ⟨u1, u2⟩ := h2 hr yi 0 t0_1 t0_2
          have v := V_mf85 (x2 := x2) (x3 := x3) (x4 := x4) (x5 := x5) (x6 := x6) (t0_0 := t0_0) (t0_1 := t0_1) (t0_2 := t0_2) (t1_0 := t1_0) (t1_1 := t1_1) (t1_2 := t1_2) (t1_3 := t1_3) (t1_4 := t1_4) (t1_5 := t1_5) (t1_6 := t1_6) (t1_7 := t1_7) (t1_8 := t1_8) (t1_9 := t1_9) (t1_10 := t1_10) (t2_0 := t2_0) (t3_0 := t3_0) (t4_0 := t4_0) (t5_0 := t5_0) (t6_0 := t6_0) (t7_0 := t7_0) (t8_0 := t8_0) (lx40 := 0) (j65 := F_NM_bitsOf x2 x3 0 t0_1 t0_2 t8_0) (Or.inl ⟨rfl, rfl, rfl, rfl⟩) (by rw [u1]; exact u2) h4
          rw [u1] at v
          rcases v with ⟨a, f, z, e, r⟩ | ⟨a, z, e, r⟩ | ⟨a, f, z, e, r⟩
          · exact Or.inl ⟨⟨Or.inl yi, hr, a.2, Or.inl ⟨h4, a.1.1, a.1.2⟩⟩, z, e, fun _ => f, fun q => by omega, fun t q _ => r t (q yi)⟩
          · exact Or.inr (Or.inl ⟨fun q => a ⟨q.2.2.2.elim (fun z => z.2) (fun z => absurd h4 z.1), q.2.2.1⟩, z, e, r⟩)
          · exact Or.inr (Or.inr ⟨⟨Or.inl yi, hr, a.2, Or.inl ⟨h4, a.1.1, a.1.2⟩⟩, z, fun _ => f, fun q => by omega, e, r⟩)
      · rw [if_neg h4]
        by_cases y : x2 = 3
        · have yi : x2.toInt = 3 := by rw [y]; rfl
          rw [if_pos y]
          obtain ⟨u1, u2⟩ := h3 hr yi 0 t0_1 t0_2
          have v := V_mf59 (x2 := x2) (x3 := x3) (x4 := x4) (x5 := x5) (x6 := x6) (t0_0 := t0_0) (t0_1 := t0_1) (t0_2 := t0_2) (t1_0 := t1_0) (t1_1 := t1_1) (t1_2 := t1_2) (t1_3 := t1_3) (t1_4 := t1_4) (t1_5 := t1_5) (t1_6 := t1_6) (t1_7 := t1_7) (t1_8 := t1_8) (t1_9 := t1_9) (t1_10 := t1_10) (t2_0 := t2_0) (t3_0 := t3_0) (t4_0 := t4_0) (t5_0 := t5_0) (t6_0 := t6_0) (t7_0 := t7_0) (t8_0 := t8_0) (lx40 := 0) (j65 := F_NM_bitsOf x2 x3 0 t0_1 t0_2 t8_0) (Or.inr ⟨rfl, rfl, rfl, rfl⟩) (by rw [u1]; exact u2) h4
          rw [u1] at v
          rcases v with ⟨a, f, z, e, r⟩ | ⟨a, z, e, r⟩ | ⟨a, f, z, e, r⟩
          · exact Or.inl ⟨⟨Or.inr yi, hr, a.2, Or.inr ⟨h4, a.1.1, a.1.2⟩⟩, z, e, fun q => by omega, fun _ => f, fun t _ q => r t (q yi)⟩
          · exact Or.inr (Or.inl ⟨fun q => a ⟨q.2.2.2.elim (fun z => absurd z.1 h4) (fun z => z.2), q.2.2.1⟩, z, e, r⟩)
          · exact Or.inr (Or.inr ⟨⟨Or.inr yi, hr, a.2, Or.inr ⟨h4, a.1.1, a.1.2⟩⟩, z, fun q => by omega, fun _ => f, e, r⟩)
        · have yi : x2.toInt = 2 := by
            have : x2.toInt ≠ 3 := fun q => y (Int32.toInt_inj.mp q)
            omega
          rw [if_neg y]
          obtain ⟨u1, u2⟩ := h2 hr yi 0 t0_1 t0_2
          have v := V_mf59 (x2 := x2) (x3 := x3) (x4 := x4) (x5 := x5) (x6 := x6) (t0_0 := t0_0) (t0_1 := t0_1) (t0_2 := t0_2) (t1_0 := t1_0) (t1_1 := t1_1) (t1_2 := t1_2) (t1_3 := t1_3) (t1_4 := t1_4) (t1_5 := t1_5) (t1_6 := t1_6) (t1_7 := t1_7) (t1_8 := t1_8) (t1_9 := t1_9) (t1_10 := t1_10) (t2_0 := t2_0) (t3_0 := t3_0) (t4_0 := t4_0) (t5_0 := t5_0) (t6_0 := t6_0) (t7_0 := t7_0) (t8_0 := t8_0) (lx40 := 0) (j65 := F_NM_bitsOf x2 x3 0 t0_1 t0_2 t8_0) (Or.inl ⟨rfl, rfl, rfl, rfl⟩) (by rw [u1]; exact u2) h4
          rw [u1] at v
          rcases v with ⟨a, f, z, e, r⟩ | ⟨a, z, e, r⟩ | ⟨a, f, z, e, r⟩
          · exact Or.inl ⟨⟨Or.inl yi, hr, a.2, Or.inr ⟨h4, a.1.1, a.1.2⟩⟩, z, e, fun _ => f, fun q => by omega, fun t q _ => r t (q yi)⟩
          · exact Or.inr (Or.inl ⟨fun q => a ⟨q.2.2.2.elim (fun z => absurd z.1 h4) (fun z => z.2), q.2.2.1⟩, z, e, r⟩)
          · exact Or.inr (Or.inr ⟨⟨Or.inl yi, hr, a.2, Or.inr ⟨h4, a.1.1, a.1.2⟩⟩, z, fun _ => f, fun q => by omega, e, r⟩)
    · rw [if_neg (by rw [g]; decide)]
      exact V_mf14 (fun q => k ⟨by have := q.1; omega, q.2.1⟩)
