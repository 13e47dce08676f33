/-! values, for whole: decimal, as a call of the reference -/
theorem y_noZ {x : Int32} : (F_NM_no_IZ x = 0 ∧ yReg x) ∨ (F_NM_no_IZ x = 1 ∧ ¬ yReg x) := by
  have e0 : (0 : Int32).toInt = 0 := rfl
  have e9 : (9 : Int32).toInt = 9 := rfl
  unfold F_NM_no_IZ yReg
  by_cases c1 : x < 0
  · rw [if_pos c1]
    have := q_ltI c1
    exact Or.inr ⟨rfl, by omega⟩
  · rw [if_neg c1]
    have := q_nltI c1
    by_cases c2 : x ≤ 9
    · rw [if_pos c2]
      have := q_leI c2
      exact Or.inl ⟨rfl, by omega⟩
    · rw [if_neg c2]
      have := q_nleI c2
      exact Or.inr ⟨rfl, by omega⟩
theorem V_NM_decimalK {x2 : Int32} {x3 : Int32} {x4 : Int32} {x5 : Int32} {t0_0 : Int32} {t0_1 : Int32} {t0_2 : Int32} {t1_0 : Int32} {t1_1 : Int32} {t1_2 : Int32} {t1_3 : Int64} {t1_4 : Int32} {t1_5 : Int32} {t1_6 : Int32} {t1_7 : Int32} {t1_8 : Int32} {t1_9 : Int32} {t1_10 : Int32} {t2_0 : (Nat → Int32)} {t3_0 : (Nat → Int32)} {t4_0 : (Nat → Int32)} {t5_0 : (Nat → Int32)} {t6_0 : (Nat → Int32)} {t7_0 : (Nat → Int32)} {t8_0 : (Nat → Int32)} {t9_0 : (Nat → Int32)} {lx47 : Int32} {D : Nat → Int × Int} (hD : dRv t2_0 t3_0 t4_0 t5_0 D) (h2 : 0 ≤ x2.toInt ∧ x2.toInt ≤ 3) (h3 : yReg x3) (h4 : yReg x4) (h5 : yReg x5) (hl : lx47 = 0) : dAn x5 D (sDc x2 (D x3.toNatClampNeg) (D x4.toNatClampNeg)) 0 2 (F_NM_decimal_J37 x2 x3 x4 x5 t0_0 t0_1 t0_2 t1_0 t1_1 t1_2 t1_3 t1_4 t1_5 t1_6 t1_7 t1_8 t1_9 t1_10 t2_0 t3_0 t4_0 t5_0 t6_0 t7_0 t8_0 t9_0 lx47).1 (F_NM_decimal_J37 x2 x3 x4 x5 t0_0 t0_1 t0_2 t1_0 t1_1 t1_2 t1_3 t1_4 t1_5 t1_6 t1_7 t1_8 t1_9 t1_10 t2_0 t3_0 t4_0 t5_0 t6_0 t7_0 t8_0 t9_0 lx47).2.2.2.2.2.2.2.2.2.2.2.2.1 (F_NM_decimal_J37 x2 x3 x4 x5 t0_0 t0_1 t0_2 t1_0 t1_1 t1_2 t1_3 t1_4 t1_5 t1_6 t1_7 t1_8 t1_9 t1_10 t2_0 t3_0 t4_0 t5_0 t6_0 t7_0 t8_0 t9_0 lx47).2.2.2.2.2.2.2.2.2.2.2.2.2.1 (F_NM_decimal_J37 x2 x3 x4 x5 t0_0 t0_1 t0_2 t1_0 t1_1 t1_2 t1_3 t1_4 t1_5 t1_6 t1_7 t1_8 t1_9 t1_10 t2_0 t3_0 t4_0 t5_0 t6_0 t7_0 t8_0 t9_0 lx47).2.2.2.2.2.2.2.2.2.2.2.2.2.2.1 (F_NM_decimal_J37 x2 x3 x4 x5 t0_0 t0_1 t0_2 t1_0 t1_1 t1_2 t1_3 t1_4 t1_5 t1_6 t1_7 t1_8 t1_9 t1_10 t2_0 t3_0 t4_0 t5_0 t6_0 t7_0 t8_0 t9_0 lx47).2.2.2.2.2.2.2.2.2.2.2.2.2.2.2.1 := by
  have e2 : (2 : Int32).toInt = 2 := rfl
  unfold F_NM_decimal_J37
  rw [if_pos (show lx47 ≤ 0 by rw [hl]; decide)]
  by_cases c1 : (2 : Int32) ≤ x2
  · rw [if_pos c1]
    have c1 := q_leI c1
    by_cases c2 : x2 = 2
    · rw [if_pos c2]
      have es : sDc x2 (D x3.toNatClampNeg) (D x4.toNatClampNeg) = some ((D x3.toNatClampNeg).1 * (D x4.toNatClampNeg).1, (D x3.toNatClampNeg).2 + (D x4.toNatClampNeg).2) := by
        unfold sDc
        rw [if_neg (by rw [c2]; decide), if_pos c2]
      rw [es]
      unfold F_NM_decimal_c90
      exact V_DR_multiply hD h3 h4 h5
    · rw [if_neg c2]
      have c3 : x2 = 3 := Int32.toInt_inj.mp (by
        have : x2.toInt ≠ 2 := fun h => c2 (Int32.toInt_inj.mp (by rw [h]; rfl))
        show x2.toInt = 3
        omega)
      have es : sDc x2 (D x3.toNatClampNeg) (D x4.toNatClampNeg) = if (D x4.toNatClampNeg).1 = 0 then none else some (sRem (D x3.toNatClampNeg) (D x4.toNatClampNeg)) := by
        unfold sDc
        rw [if_pos c3]
      rw [es]
      unfold F_NM_decimal_c104
      exact V_DR_remainder hD h3 h4 h5
  · rw [if_neg c1]
    have c1 := q_nleI c1
    by_cases c2 : x2 = 1
    · rw [if_pos c2]
      have es : sDc x2 (D x3.toNatClampNeg) (D x4.toNatClampNeg) = some (sAdd 1 (D x3.toNatClampNeg) (D x4.toNatClampNeg)) := by
        unfold sDc
        rw [if_neg (by rw [c2]; decide), if_neg (by rw [c2]; decide), c2]
      rw [es]
      unfold F_NM_decimal_c71_5
      exact V_DR_add hD h3 h4 h5 (Or.inr rfl)
    · rw [if_neg c2]
      have c3 : x2 = 0 := Int32.toInt_inj.mp (by
        have : x2.toInt ≠ 1 := fun h => c2 (Int32.toInt_inj.mp (by rw [h]; rfl))
        show x2.toInt = 0
        omega)
      have es : sDc x2 (D x3.toNatClampNeg) (D x4.toNatClampNeg) = some (sAdd 0 (D x3.toNatClampNeg) (D x4.toNatClampNeg)) := by
        unfold sDc
        rw [if_neg (by rw [c3]; decide), if_neg (by rw [c3]; decide), c3]
      rw [es]
      unfold F_NM_decimal_c71
      exact V_DR_add hD h3 h4 h5 (Or.inl rfl)
