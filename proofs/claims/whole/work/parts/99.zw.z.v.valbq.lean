/-! values, for whole: divide, quotient, decimalBy, as calls of the reference, with arguments that they take -/
theorem y_noMd {x : Int32} (h : yMod x) : F_DR_noMode x = 0 := by
  have e0 : (0 : Int32).toInt = 0 := rfl
  have e7 : (7 : Int32).toInt = 7 := rfl
  unfold F_DR_noMode
  unfold yMod at h
  rw [if_neg (fun c => by have := q_ltI c; omega), if_pos (q_leI2 (by omega))]
theorem V_NM_divideK {x2 : Int32} {x3 : Int32} {x4 : Int32} {x5 : Int32} {x6 : Int32} {t0_0 : Int32} {t0_1 : Int32} {t0_2 : Int32} {t1_0 : Int32} {t1_1 : Int32} {t1_2 : Int32} {t1_3 : Int64} {t1_4 : Int32} {t1_5 : Int32} {t1_6 : Int32} {t1_7 : Int32} {t1_8 : Int32} {t1_9 : Int32} {t1_10 : Int32} {t2_0 : (Nat → Int32)} {t3_0 : (Nat → Int32)} {t4_0 : (Nat → Int32)} {t5_0 : (Nat → Int32)} {t6_0 : (Nat → Int32)} {t7_0 : (Nat → Int32)} {t8_0 : (Nat → Int32)} {D : Nat → Int × Int} (hD : dRv t2_0 t3_0 t4_0 t5_0 D) (h2 : yReg x2) (h3 : yReg x3) (h4 : yReg x4) (h5 : yScl x5) (h6 : yMod x6) : dAn x4 D (sDiv x6 (D x2.toNatClampNeg) (D x3.toNatClampNeg) x5.toInt) 0 2 (F_NM_divide x2 x3 x4 x5 x6 t0_0 t0_1 t0_2 t1_0 t1_1 t1_2 t1_3 t1_4 t1_5 t1_6 t1_7 t1_8 t1_9 t1_10 t2_0 t3_0 t4_0 t5_0 t6_0 t7_0 t8_0).1 (F_NM_divide x2 x3 x4 x5 x6 t0_0 t0_1 t0_2 t1_0 t1_1 t1_2 t1_3 t1_4 t1_5 t1_6 t1_7 t1_8 t1_9 t1_10 t2_0 t3_0 t4_0 t5_0 t6_0 t7_0 t8_0).2.2.2.2.2.2.2.2.2.2.2.2.1 (F_NM_divide x2 x3 x4 x5 x6 t0_0 t0_1 t0_2 t1_0 t1_1 t1_2 t1_3 t1_4 t1_5 t1_6 t1_7 t1_8 t1_9 t1_10 t2_0 t3_0 t4_0 t5_0 t6_0 t7_0 t8_0).2.2.2.2.2.2.2.2.2.2.2.2.2.1 (F_NM_divide x2 x3 x4 x5 x6 t0_0 t0_1 t0_2 t1_0 t1_1 t1_2 t1_3 t1_4 t1_5 t1_6 t1_7 t1_8 t1_9 t1_10 t2_0 t3_0 t4_0 t5_0 t6_0 t7_0 t8_0).2.2.2.2.2.2.2.2.2.2.2.2.2.2.1 (F_NM_divide x2 x3 x4 x5 x6 t0_0 t0_1 t0_2 t1_0 t1_1 t1_2 t1_3 t1_4 t1_5 t1_6 t1_7 t1_8 t1_9 t1_10 t2_0 t3_0 t4_0 t5_0 t6_0 t7_0 t8_0).2.2.2.2.2.2.2.2.2.2.2.2.2.2.2.1 := by
  unfold F_NM_divide F_NM_divide_c11
  exact V_DR_divide hD h2 h3 h4 h5 (y_noMd h6)
theorem V_NM_quotientK {x2 : Int32} {x3 : Int32} {x4 : Int32} {x5 : Int32} {x6 : Int32} {t0_0 : Int32} {t0_1 : Int32} {t0_2 : Int32} {t1_0 : Int32} {t1_1 : Int32} {t1_2 : Int32} {t1_3 : Int64} {t1_4 : Int32} {t1_5 : Int32} {t1_6 : Int32} {t1_7 : Int32} {t1_8 : Int32} {t1_9 : Int32} {t1_10 : Int32} {t2_0 : (Nat → Int32)} {t3_0 : (Nat → Int32)} {t4_0 : (Nat → Int32)} {t5_0 : (Nat → Int32)} {t6_0 : (Nat → Int32)} {t7_0 : (Nat → Int32)} {t8_0 : (Nat → Int32)} {D : Nat → Int × Int} (hD : dRv t2_0 t3_0 t4_0 t5_0 D) (h2 : yReg x2) (h3 : yReg x3) (h4 : yReg x4) (h5 : 0 ≤ x5.toInt ∧ x5.toInt ≤ 1000) (h6 : yMod x6) : ∃ o, sQ (qP x5) (qM x5 x6) (D x2.toNatClampNeg) (D x3.toNatClampNeg) o ∧ dAn x4 D o 0 2 (F_NM_quotient x2 x3 x4 x5 x6 t0_0 t0_1 t0_2 t1_0 t1_1 t1_2 t1_3 t1_4 t1_5 t1_6 t1_7 t1_8 t1_9 t1_10 t2_0 t3_0 t4_0 t5_0 t6_0 t7_0 t8_0).1 (F_NM_quotient x2 x3 x4 x5 x6 t0_0 t0_1 t0_2 t1_0 t1_1 t1_2 t1_3 t1_4 t1_5 t1_6 t1_7 t1_8 t1_9 t1_10 t2_0 t3_0 t4_0 t5_0 t6_0 t7_0 t8_0).2.2.2.2.2.2.2.2.2.2.2.2.1 (F_NM_quotient x2 x3 x4 x5 x6 t0_0 t0_1 t0_2 t1_0 t1_1 t1_2 t1_3 t1_4 t1_5 t1_6 t1_7 t1_8 t1_9 t1_10 t2_0 t3_0 t4_0 t5_0 t6_0 t7_0 t8_0).2.2.2.2.2.2.2.2.2.2.2.2.2.1 (F_NM_quotient x2 x3 x4 x5 x6 t0_0 t0_1 t0_2 t1_0 t1_1 t1_2 t1_3 t1_4 t1_5 t1_6 t1_7 t1_8 t1_9 t1_10 t2_0 t3_0 t4_0 t5_0 t6_0 t7_0 t8_0).2.2.2.2.2.2.2.2.2.2.2.2.2.2.1 (F_NM_quotient x2 x3 x4 x5 x6 t0_0 t0_1 t0_2 t1_0 t1_1 t1_2 t1_3 t1_4 t1_5 t1_6 t1_7 t1_8 t1_9 t1_10 t2_0 t3_0 t4_0 t5_0 t6_0 t7_0 t8_0).2.2.2.2.2.2.2.2.2.2.2.2.2.2.2.1 := by
  unfold F_NM_quotient F_NM_quotient_c11
  exact V_DR_quotient hD h2 h3 h4 h5 (y_noMd h6)
theorem V_NM_decimalByK {x2 : Int32} {x3 : Int32} {x4 : Int32} {x5 : Int32} {t0_0 : Int32} {t0_1 : Int32} {t0_2 : Int32} {t1_0 : Int32} {t1_1 : Int32} {t1_2 : Int32} {t1_3 : Int64} {t1_4 : Int32} {t1_5 : Int32} {t1_6 : Int32} {t1_7 : Int32} {t1_8 : Int32} {t1_9 : Int32} {t1_10 : Int32} {t2_0 : (Nat → Int32)} {t3_0 : (Nat → Int32)} {t4_0 : (Nat → Int32)} {t5_0 : (Nat → Int32)} {t6_0 : (Nat → Int32)} {t7_0 : (Nat → Int32)} {lx41 : Int32} {D : Nat → Int × Int} (hD : dRv t2_0 t3_0 t4_0 t5_0 D) (h2 : x2 = 0 ∨ x2 = 1 ∨ x2 = 2) (h3 : yReg x3) (h5 : yReg x5) (h4 : x2 = 0 → 0 ≤ x4.toInt ∧ x4.toInt ≤ 999) (hl : lx41 = 0) : ∃ o, sBy x2 (D x3.toNatClampNeg) x4.toInt o ∧ dAn x5 D o 0 2 (F_NM_decimalBy_J30 x2 x3 x4 x5 t0_0 t0_1 t0_2 t1_0 t1_1 t1_2 t1_3 t1_4 t1_5 t1_6 t1_7 t1_8 t1_9 t1_10 t2_0 t3_0 t4_0 t5_0 t6_0 t7_0 lx41).1 (F_NM_decimalBy_J30 x2 x3 x4 x5 t0_0 t0_1 t0_2 t1_0 t1_1 t1_2 t1_3 t1_4 t1_5 t1_6 t1_7 t1_8 t1_9 t1_10 t2_0 t3_0 t4_0 t5_0 t6_0 t7_0 lx41).2.2.2.2.2.2.2.2.2.2.2.2.1 (F_NM_decimalBy_J30 x2 x3 x4 x5 t0_0 t0_1 t0_2 t1_0 t1_1 t1_2 t1_3 t1_4 t1_5 t1_6 t1_7 t1_8 t1_9 t1_10 t2_0 t3_0 t4_0 t5_0 t6_0 t7_0 lx41).2.2.2.2.2.2.2.2.2.2.2.2.2.1 (F_NM_decimalBy_J30 x2 x3 x4 x5 t0_0 t0_1 t0_2 t1_0 t1_1 t1_2 t1_3 t1_4 t1_5 t1_6 t1_7 t1_8 t1_9 t1_10 t2_0 t3_0 t4_0 t5_0 t6_0 t7_0 lx41).2.2.2.2.2.2.2.2.2.2.2.2.2.2.1 (F_NM_decimalBy_J30 x2 x3 x4 x5 t0_0 t0_1 t0_2 t1_0 t1_1 t1_2 t1_3 t1_4 t1_5 t1_6 t1_7 t1_8 t1_9 t1_10 t2_0 t3_0 t4_0 t5_0 t6_0 t7_0 lx41).2.2.2.2.2.2.2.2.2.2.2.2.2.2.2.1 := by
  unfold F_NM_decimalBy_J30
  rw [if_pos (show lx41 ≤ 0 by rw [hl]; decide)]
  by_cases c0 : x2 = 0
  · rw [if_pos c0]
    have h4 := h4 c0
    unfold F_NM_decimalBy_c53
    exact ⟨_, Or.inl ⟨c0, rfl⟩, V_DR_power (e := x4.toInt.toNat) hD h3 h5 (by omega) (by omega)⟩
  · rw [if_neg c0]
    by_cases c1 : x2 = 1
    · rw [if_pos c1]
      unfold F_NM_decimalBy_c72
      exact ⟨_, Or.inr (Or.inl ⟨c1, rfl⟩), V_DR_shift hD h3 h5⟩
    · rw [if_neg c1]
      have c2 : x2 = 2 := h2.resolve_left c0 |>.resolve_left c1
      unfold F_NM_decimalBy_c85
      obtain ⟨r, r1, r2⟩ := V_DR_strip (x2 := x3) (x3 := x5) (t0_0 := t1_0) (t0_1 := t1_1) (t0_2 := t1_2) (t0_3 := t1_3) (t0_4 := t1_4) (t0_5 := t1_5) (t0_6 := t1_6) (t0_7 := t1_7) (t0_8 := t1_8) (t0_9 := t1_9) (t0_10 := t1_10) (t5_0 := t6_0) hD h3 h5
      exact ⟨_, Or.inr (Or.inr ⟨c2, r, r1, rfl⟩), r2⟩
