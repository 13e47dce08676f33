/-! values, for whole: the reference's DecimalRows: divide with its needs met -/
theorem V_DR_divide {x2 : Int32} {x3 : Int32} {x4 : Int32} {x5 : Int32} {x6 : Int32} {t0_0 : Int32} {t0_1 : Int32} {t0_2 : Int32} {t0_3 : Int64} {t0_4 : Int32} {t0_5 : Int32} {t0_6 : Int32} {t0_7 : Int32} {t0_8 : Int32} {t0_9 : Int32} {t0_10 : Int32} {t1_0 : (Nat → Int32)} {t2_0 : (Nat → Int32)} {t3_0 : (Nat → Int32)} {t4_0 : (Nat → Int32)} {t5_0 : (Nat → Int32)} {t6_0 : (Nat → Int32)} {t7_0 : (Nat → Int32)} {D : Nat → Int × Int} (hD : dRv t1_0 t2_0 t3_0 t4_0 D) (hx2 : 0 ≤ x2.toInt ∧ x2.toInt ≤ 9) (hx3 : 0 ≤ x3.toInt ∧ x3.toInt ≤ 9) (hx4 : 0 ≤ x4.toInt ∧ x4.toInt ≤ 9) (h5 : -10000 ≤ x5.toInt ∧ x5.toInt ≤ 10000) (h6 : F_DR_noMode x6 = 0) : dAn x4 D (sDiv x6 (D x2.toNatClampNeg) (D x3.toNatClampNeg) x5.toInt) 0 2 (F_DR_divide x2 x3 x4 x5 x6 t0_0 t0_1 t0_2 t0_3 t0_4 t0_5 t0_6 t0_7 t0_8 t0_9 t0_10 t1_0 t2_0 t3_0 t4_0 t5_0 t6_0 t7_0).1 (F_DR_divide x2 x3 x4 x5 x6 t0_0 t0_1 t0_2 t0_3 t0_4 t0_5 t0_6 t0_7 t0_8 t0_9 t0_10 t1_0 t2_0 t3_0 t4_0 t5_0 t6_0 t7_0).2.2.2.2.2.2.2.2.2.2.2.1 (F_DR_divide x2 x3 x4 x5 x6 t0_0 t0_1 t0_2 t0_3 t0_4 t0_5 t0_6 t0_7 t0_8 t0_9 t0_10 t1_0 t2_0 t3_0 t4_0 t5_0 t6_0 t7_0).2.2.2.2.2.2.2.2.2.2.2.2.1 (F_DR_divide x2 x3 x4 x5 x6 t0_0 t0_1 t0_2 t0_3 t0_4 t0_5 t0_6 t0_7 t0_8 t0_9 t0_10 t1_0 t2_0 t3_0 t4_0 t5_0 t6_0 t7_0).2.2.2.2.2.2.2.2.2.2.2.2.2.1 (F_DR_divide x2 x3 x4 x5 x6 t0_0 t0_1 t0_2 t0_3 t0_4 t0_5 t0_6 t0_7 t0_8 t0_9 t0_10 t1_0 t2_0 t3_0 t4_0 t5_0 t6_0 t7_0).2.2.2.2.2.2.2.2.2.2.2.2.2.2.1 := by
  have eA : (-10000 : Int32).toInt = -10000 := rfl
  have eB : (10000 : Int32).toInt = 10000 := rfl
  have h2c := q_clI (i := x2) rfl hx2.1
  have h3c := q_clI (i := x3) rfl hx3.1
  obtain ⟨a1, a2, a3, a4, a5, a6⟩ := hD.2 x2.toNatClampNeg (by omega)
  obtain ⟨b1, b2, b3, b4, b5, b6⟩ := hD.2 x3.toNatClampNeg (by omega)
  have a4' : t3_0 x2.toNatClampNeg = sF (D x2.toNatClampNeg).1 := a4
  have b4' : t3_0 x3.toNatClampNeg = sF (D x3.toNatClampNeg).1 := b4
  unfold F_DR_divide
  rw [if_pos (g_no0 hx2), if_pos (g_no0 hx3), if_pos (g_no0 hx4), if_pos h6, if_neg (fun c => by have := q_ltI c; omega), if_pos (Int32.le_iff_toInt_le.mpr (by omega)), d_iz hD hx3]
  by_cases zb : (D x3.toNatClampNeg).1 = 0
  · rw [if_pos zb, if_neg (show ¬ (1 : Int32) = 0 by decide)]
    unfold F_DR_divide_J63
    rw [if_neg (by decide)]
    exact Or.inr ⟨Or.inl (if_pos zb), rfl, hD⟩
  · rw [if_neg zb, if_pos rfl]
    have e1 : (x5.toInt64 + (t4_0 x3.toNatClampNeg).toInt64 : Int64).toInt = x5.toInt + (D x3.toNatClampNeg).2 := q_addL (Int32.toInt_toInt64 _) ((Int32.toInt_toInt64 _).trans b5) (by omega) (by omega)
    have e2 : ((x5.toInt64 + (t4_0 x3.toNatClampNeg).toInt64) - (t4_0 x2.toNatClampNeg).toInt64 : Int64).toInt = x5.toInt + (D x3.toNatClampNeg).2 - (D x2.toNatClampNeg).2 := q_subL e1 ((Int32.toInt_toInt64 _).trans a5) (by omega) (by omega)
    have e3 : (t2_0 x2.toNatClampNeg - t2_0 x3.toNatClampNeg : Int32).toInt = (t2_0 x2.toNatClampNeg).toInt - (t2_0 x3.toNatClampNeg).toInt := q_subI rfl rfl (by omega) (by omega)
    have e4 : ((t2_0 x2.toNatClampNeg - t2_0 x3.toNatClampNeg).toInt64 + ((x5.toInt64 + (t4_0 x3.toNatClampNeg).toInt64) - (t4_0 x2.toNatClampNeg).toInt64) : Int64).toInt = (t2_0 x2.toNatClampNeg).toInt - (t2_0 x3.toNatClampNeg).toInt + (x5.toInt + (D x3.toNatClampNeg).2 - (D x2.toNatClampNeg).2) := q_addL ((Int32.toInt_toInt64 _).trans e3) e2 (by omega) (by omega)
    unfold F_DR_divide_J63
    rw [if_pos (by decide)]
    by_cases s : t3_0 x2.toNatClampNeg = t3_0 x3.toNatClampNeg
    · rw [if_pos s]
      refine V_dv140 hD hx2 hx3 hx4 h5 zb rfl e2 e4 ?_
      rw [← a4', ← b4']
      unfold sXor
      rw [if_pos s]
    · rw [if_neg s]
      refine V_dv140 hD hx2 hx3 hx4 h5 zb rfl e2 e4 ?_
      rw [← a4', ← b4']
      unfold sXor
      rw [if_neg s]
