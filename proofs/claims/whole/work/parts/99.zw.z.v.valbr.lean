/-! values, for whole: shape, as a call of the reference, with arguments that it takes -/
theorem V_NM_shapeK {x2 : Int32} {x3 : Int32} {x4 : Int32} {x5 : Int32} {x6 : Int32} {t0_0 : Int32} {t0_1 : Int32} {t0_2 : Int32} {t1_0 : Int32} {t1_1 : Int32} {t1_2 : Int32} {t1_3 : Int64} {t1_4 : Int32} {t1_5 : Int32} {t1_6 : Int32} {t1_7 : Int32} {t1_8 : Int32} {t1_9 : Int32} {t1_10 : Int32} {t2_0 : (Nat → Int32)} {t3_0 : (Nat → Int32)} {t4_0 : (Nat → Int32)} {t5_0 : (Nat → Int32)} {t6_0 : (Nat → Int32)} {t7_0 : (Nat → Int32)} {t8_0 : (Nat → Int32)} {t9_0 : (Nat → Int32)} {lx47 : Int32} {D : Nat → Int × Int} (hD : dRv t2_0 t3_0 t4_0 t5_0 D) (h2 : x2 = 0 ∨ x2 = 1 ∨ x2 = 2) (h3 : yReg x3) (h4 : yReg x4) (h6 : yMod x6) (h5 : (x2 = 0 → yScl x5) ∧ (x2 ≠ 0 → 1 ≤ x5.toInt ∧ x5.toInt ≤ 1000)) (hl : lx47 = 0) : ∃ o, sSh x2 (D x3.toNatClampNeg) x5 x6 o ∧ dAn x4 D o 0 2 (F_NM_shape_J15 x2 x3 x4 x5 x6 t0_0 t0_1 t0_2 t1_0 t1_1 t1_2 t1_3 t1_4 t1_5 t1_6 t1_7 t1_8 t1_9 t1_10 t2_0 t3_0 t4_0 t5_0 t6_0 t7_0 t8_0 t9_0 lx47).1 (F_NM_shape_J15 x2 x3 x4 x5 x6 t0_0 t0_1 t0_2 t1_0 t1_1 t1_2 t1_3 t1_4 t1_5 t1_6 t1_7 t1_8 t1_9 t1_10 t2_0 t3_0 t4_0 t5_0 t6_0 t7_0 t8_0 t9_0 lx47).2.2.2.2.2.2.2.2.2.2.2.2.1 (F_NM_shape_J15 x2 x3 x4 x5 x6 t0_0 t0_1 t0_2 t1_0 t1_1 t1_2 t1_3 t1_4 t1_5 t1_6 t1_7 t1_8 t1_9 t1_10 t2_0 t3_0 t4_0 t5_0 t6_0 t7_0 t8_0 t9_0 lx47).2.2.2.2.2.2.2.2.2.2.2.2.2.1 (F_NM_shape_J15 x2 x3 x4 x5 x6 t0_0 t0_1 t0_2 t1_0 t1_1 t1_2 t1_3 t1_4 t1_5 t1_6 t1_7 t1_8 t1_9 t1_10 t2_0 t3_0 t4_0 t5_0 t6_0 t7_0 t8_0 t9_0 lx47).2.2.2.2.2.2.2.2.2.2.2.2.2.2.1 (F_NM_shape_J15 x2 x3 x4 x5 x6 t0_0 t0_1 t0_2 t1_0 t1_1 t1_2 t1_3 t1_4 t1_5 t1_6 t1_7 t1_8 t1_9 t1_10 t2_0 t3_0 t4_0 t5_0 t6_0 t7_0 t8_0 t9_0 lx47).2.2.2.2.2.2.2.2.2.2.2.2.2.2.2.1 := by
  unfold F_NM_shape_J15
  rw [if_pos (show lx47 ≤ 0 by rw [hl]; decide)]
  by_cases c0 : x2 = 0
  · rw [if_pos c0]
    unfold F_NM_shape_c40
    refine ⟨_, Or.inl ⟨c0, rfl⟩, ?_⟩
    rw [y_toS]
    exact V_DR_toScale hD h3 h4 (h5.1 c0) (y_noMd h6)
  · rw [if_neg c0]
    have h5 := h5.2 c0
    by_cases c1 : x2 = 1
    · rw [if_pos c1]
      unfold F_NM_shape_c61
      obtain ⟨o, o1, o2⟩ := V_DR_round (x2 := x3) (x3 := x4) (x4 := x5) (x5 := x6) (t0_0 := t1_0) (t0_1 := t1_1) (t0_2 := t1_2) (t0_3 := t1_3) (t0_4 := t1_4) (t0_5 := t1_5) (t0_6 := t1_6) (t0_7 := t1_7) (t0_8 := t1_8) (t0_9 := t1_9) (t0_10 := t1_10) (t5_0 := t6_0) hD h3 h4 h5 (y_noMd h6)
      refine ⟨o, Or.inr (Or.inl ⟨c1, ?_⟩), o2⟩
      unfold qP qM
      rw [if_neg (by omega), if_neg (by omega)]
      exact o1
    · rw [if_neg c1]
      have c2 : x2 = 2 := h2.resolve_left c0 |>.resolve_left c1
      unfold F_NM_shape_c77
      obtain ⟨o, o1, o2⟩ := V_DR_root (x2 := x3) (x3 := x4) (x4 := x5) (x5 := x6) (t0_0 := t1_0) (t0_1 := t1_1) (t0_2 := t1_2) (t0_3 := t1_3) (t0_4 := t1_4) (t0_5 := t1_5) (t0_6 := t1_6) (t0_7 := t1_7) (t0_8 := t1_8) (t0_9 := t1_9) (t0_10 := t1_10) (t5_0 := t6_0) (t6_0 := t7_0) (t7_0 := t8_0) (t8_0 := t9_0) hD h3 h4 h5 (y_noMd h6)
      refine ⟨o, Or.inr (Or.inr ⟨c2, ?_⟩), o2⟩
      rcases Int.lt_or_le (D x3.toNatClampNeg).1 0 with z | z
      · left
        rcases o1 with ⟨_, o1⟩ | ⟨o1, _⟩ | ⟨o1, _⟩
        · exact ⟨z, o1⟩
        · omega
        · omega
      · exact Or.inr ⟨z, o1⟩
