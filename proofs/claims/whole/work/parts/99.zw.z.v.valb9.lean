/-! values, for whole: read, as a call of the reference -/
theorem y_65k : (65536 : Nat) ^ 128 = 2 ^ 2048 := by decide +kernel
theorem V_DR_read {x2 : Int32} {t0_0 : Int32} {t0_1 : Int32} {t0_2 : Int32} {t0_3 : Int64} {t0_4 : Int32} {t0_5 : Int32} {t0_6 : Int32} {t0_7 : Int32} {t0_8 : Int32} {t0_9 : Int32} {t0_10 : Int32} {t1_0 : (Nat → Int32)} {t2_0 : (Nat → Int32)} {t3_0 : (Nat → Int32)} {t4_0 : (Nat → Int32)} {t5_0 : (Nat → Int32)} {t6_0 : (Nat → Int32)} {L : Nat} {B : Nat → Int} {D : Nat → Int × Int} (hT : yTr t1_0 L B) (h1 : t0_1.toInt = (L : Int)) (hL : L ≤ 4100) (hx : 0 ≤ x2.toInt ∧ x2.toInt ≤ 9) (hD : dRv t2_0 t3_0 t4_0 t5_0 D) : ∃ o, yRD B L o ∧ ((o = none ∧ (F_DR_read x2 t0_0 t0_1 t0_2 t0_3 t0_4 t0_5 t0_6 t0_7 t0_8 t0_9 t0_10 t1_0 t2_0 t3_0 t4_0 t5_0 t6_0).1 = 2 ∧ dRv (F_DR_read x2 t0_0 t0_1 t0_2 t0_3 t0_4 t0_5 t0_6 t0_7 t0_8 t0_9 t0_10 t1_0 t2_0 t3_0 t4_0 t5_0 t6_0).2.2.2.2.2.2.2.2.2.2.2.1 (F_DR_read x2 t0_0 t0_1 t0_2 t0_3 t0_4 t0_5 t0_6 t0_7 t0_8 t0_9 t0_10 t1_0 t2_0 t3_0 t4_0 t5_0 t6_0).2.2.2.2.2.2.2.2.2.2.2.2.1 (F_DR_read x2 t0_0 t0_1 t0_2 t0_3 t0_4 t0_5 t0_6 t0_7 t0_8 t0_9 t0_10 t1_0 t2_0 t3_0 t4_0 t5_0 t6_0).2.2.2.2.2.2.2.2.2.2.2.2.2.1 (F_DR_read x2 t0_0 t0_1 t0_2 t0_3 t0_4 t0_5 t0_6 t0_7 t0_8 t0_9 t0_10 t1_0 t2_0 t3_0 t4_0 t5_0 t6_0).2.2.2.2.2.2.2.2.2.2.2.2.2.2.1 D) ∨ (∃ q, o = some q ∧ ((dFit q ∧ (F_DR_read x2 t0_0 t0_1 t0_2 t0_3 t0_4 t0_5 t0_6 t0_7 t0_8 t0_9 t0_10 t1_0 t2_0 t3_0 t4_0 t5_0 t6_0).1 = 0 ∧ dRv (F_DR_read x2 t0_0 t0_1 t0_2 t0_3 t0_4 t0_5 t0_6 t0_7 t0_8 t0_9 t0_10 t1_0 t2_0 t3_0 t4_0 t5_0 t6_0).2.2.2.2.2.2.2.2.2.2.2.1 (F_DR_read x2 t0_0 t0_1 t0_2 t0_3 t0_4 t0_5 t0_6 t0_7 t0_8 t0_9 t0_10 t1_0 t2_0 t3_0 t4_0 t5_0 t6_0).2.2.2.2.2.2.2.2.2.2.2.2.1 (F_DR_read x2 t0_0 t0_1 t0_2 t0_3 t0_4 t0_5 t0_6 t0_7 t0_8 t0_9 t0_10 t1_0 t2_0 t3_0 t4_0 t5_0 t6_0).2.2.2.2.2.2.2.2.2.2.2.2.2.1 (F_DR_read x2 t0_0 t0_1 t0_2 t0_3 t0_4 t0_5 t0_6 t0_7 t0_8 t0_9 t0_10 t1_0 t2_0 t3_0 t4_0 t5_0 t6_0).2.2.2.2.2.2.2.2.2.2.2.2.2.2.1 (updD D x2.toNatClampNeg q)) ∨ (¬ dFit q ∧ (F_DR_read x2 t0_0 t0_1 t0_2 t0_3 t0_4 t0_5 t0_6 t0_7 t0_8 t0_9 t0_10 t1_0 t2_0 t3_0 t4_0 t5_0 t6_0).1 = 3 ∧ dRv (F_DR_read x2 t0_0 t0_1 t0_2 t0_3 t0_4 t0_5 t0_6 t0_7 t0_8 t0_9 t0_10 t1_0 t2_0 t3_0 t4_0 t5_0 t6_0).2.2.2.2.2.2.2.2.2.2.2.1 (F_DR_read x2 t0_0 t0_1 t0_2 t0_3 t0_4 t0_5 t0_6 t0_7 t0_8 t0_9 t0_10 t1_0 t2_0 t3_0 t4_0 t5_0 t6_0).2.2.2.2.2.2.2.2.2.2.2.2.1 (F_DR_read x2 t0_0 t0_1 t0_2 t0_3 t0_4 t0_5 t0_6 t0_7 t0_8 t0_9 t0_10 t1_0 t2_0 t3_0 t4_0 t5_0 t6_0).2.2.2.2.2.2.2.2.2.2.2.2.2.1 (F_DR_read x2 t0_0 t0_1 t0_2 t0_3 t0_4 t0_5 t0_6 t0_7 t0_8 t0_9 t0_10 t1_0 t2_0 t3_0 t4_0 t5_0 t6_0).2.2.2.2.2.2.2.2.2.2.2.2.2.2.1 D)))) := by
  have e0 : (0 : Int32).toInt = 0 := rfl
  have e10 : (10 : Int32).toInt = 10 := rfl
  have no : F_DR_no x2 = 0 := by
    unfold F_DR_no
    rw [if_neg (fun h => by have := q_ltI h; omega), if_pos (Int32.lt_iff_toInt_lt.mpr (by omega))]
  unfold F_DR_read
  rw [if_pos no]
  obtain ⟨bl, hbl, c, sz, sc, row, z, y1, y2, y3⟩ := V_DR_says (t0_0 := t0_0) (t0_2 := t0_2) (t0_3 := t0_3) (t0_4 := t0_4) (t0_5 := t0_5) (t0_6 := t0_6) (t0_7 := t0_7) (t0_8 := t0_8) (t0_9 := t0_9) (t0_10 := t0_10) (t2_0 := t6_0) hT h1 hL
  rw [y1]
  unfold F_DR_read_c13
  rcases y3 with ⟨c1, c2⟩ | ⟨c1, M, f, x, c2, c3, c4, c5, c6, c7⟩
  · rw [if_pos c1]
    unfold F_DR_read_J24
    rw [if_neg (show ¬ (2 : Int32) = 0 by decide)]
    exact ⟨none, ⟨z, y2, Or.inl ⟨c2, rfl⟩⟩, Or.inl ⟨rfl, rfl, hD⟩⟩
  · rw [if_neg (show ¬ c = 0 by rw [c1]; decide)]
    unfold F_DR_read_J24
    rw [if_pos rfl]
    have ec := q_clI c3 (by omega)
    have em : sz.toNatClampNeg = M := by omega
    have hg : gO row sz.toNatClampNeg := by
      rw [em]
      intro i hi
      rw [c7 i hi]
      have := c6 i hi
      omega
    have hv : uV row sz.toNatClampNeg = ((yuB 10 f M : Nat) : Int) := by
      rw [em]
      exact y_uV c7 (fun j hj => (c6 j hj).1)
    have st := V_DR_store (x2 := x2) (t0_0 := 0) (t0_1 := t0_1) (t0_2 := sz) (t0_3 := sc) (t0_4 := 0) (t0_5 := bl) (t0_6 := t0_6) (t0_7 := t0_7) (t0_8 := t0_8) (t0_9 := t0_9) (t0_10 := 3) (t5_0 := row) hD hx (hbl.imp (fun h => h.1) (fun h => h.1)) ⟨by omega, by omega⟩ hg hv
    generalize F_DR_store x2 0 t0_1 sz sc 0 bl t0_6 t0_7 t0_8 t0_9 3 t2_0 t3_0 t4_0 t5_0 row = p145 at st ⊢
    obtain ⟨g, hg1, hg2⟩ : ∃ g, ySn B L g ∧ sgI bl ((yuB 10 f M : Nat) : Int) = g * ((yuB 10 f M : Nat) : Int) := by
      rcases hbl with ⟨b1, b2⟩ | ⟨b1, b2⟩
      · refine ⟨1, Or.inr ⟨b2, rfl⟩, ?_⟩
        unfold sgI
        rw [if_pos b1, Int.one_mul]
      · refine ⟨-1, Or.inl ⟨b2, rfl⟩, ?_⟩
        unfold sgI
        rw [if_neg (show ¬ bl = 0 by rw [b1]; decide)]
        omega
    rw [hg2, c5] at st
    unfold F_DR_read_c41
    refine ⟨_, ⟨z, y2, Or.inr ⟨M, f, x, g, c2, hg1, rfl⟩⟩, Or.inr ⟨_, rfl, ?_⟩⟩
    rcases st with ⟨s1, s2, s3⟩ | ⟨s1, s2, s3⟩
    · rw [if_pos s2]
      exact Or.inl ⟨s1, s2, s3⟩
    · rw [if_neg (show ¬ p145.1 = 0 by rw [s2]; decide)]
      exact Or.inr ⟨s1, s2, s3⟩
theorem y_noI {x1 x2 : Int32} : (F_NM_no_IIZ x1 x2 = 0 ∧ (0 ≤ x1.toInt ∧ x1.toInt ≤ 3) ∧ (0 ≤ x2.toInt ∧ x2.toInt ≤ 9)) ∨ (F_NM_no_IIZ x1 x2 = 1 ∧ ¬ ((0 ≤ x1.toInt ∧ x1.toInt ≤ 3) ∧ (0 ≤ x2.toInt ∧ x2.toInt ≤ 9))) := by
  have e0 : (0 : Int32).toInt = 0 := rfl
  have e3 : (3 : Int32).toInt = 3 := rfl
  have e9 : (9 : Int32).toInt = 9 := rfl
  unfold F_NM_no_IIZ
  by_cases c1 : x1 < 0
  · rw [if_pos c1]
    have := q_ltI c1
    exact Or.inr ⟨rfl, by omega⟩
  · rw [if_neg c1]
    have := q_nltI c1
    by_cases c2 : (3 : Int32) < x1
    · rw [if_pos c2]
      have := q_ltI c2
      exact Or.inr ⟨rfl, by omega⟩
    · rw [if_neg c2]
      have := q_nltI c2
      unfold F_NM_no_IZ
      by_cases c3 : x2 < 0
      · rw [if_pos c3, if_neg (show ¬ (1 : Int32) = 0 by decide)]
        have := q_ltI c3
        exact Or.inr ⟨rfl, by omega⟩
      · rw [if_neg c3]
        have := q_nltI c3
        by_cases c4 : x2 ≤ 9
        · rw [if_pos c4, if_pos rfl]
          have := q_leI c4
          exact Or.inl ⟨rfl, by omega, by omega⟩
        · rw [if_neg c4, if_neg (show ¬ (1 : Int32) = 0 by decide)]
          have := q_nleI c4
          exact Or.inr ⟨rfl, by omega⟩
theorem y_mrd {x2 : Int32} {x3 : Int32} {x4 : Int32} {t0_0 : Int32} {t0_1 : Int32} {t0_2 : Int32} {t1_0 : Int32} {t1_1 : Int32} {t1_2 : Int32} {t1_3 : Int32} {t1_4 : Int32} {t1_5 : Int32} {t1_6 : Int32} {t2_0 : (Nat → Int32)} {t3_0 : (Nat → Int32)} {t4_0 : (Nat → Int32)} {t5_0 : (Nat → Int32)} {t6_0 : Int32} {t6_1 : Int32} {t6_2 : Int32} {t6_3 : Int64} {t6_4 : Int32} {t6_5 : Int32} {t6_6 : Int32} {t6_7 : Int32} {t6_8 : Int32} {t6_9 : Int32} {t6_10 : Int32} {t7_0 : (Nat → Int32)} {t8_0 : (Nat → Int32)} {t9_0 : (Nat → Int32)} {t10_0 : (Nat → Int32)} {t11_0 : (Nat → Int32)} {t12_0 : (Nat → Int32)} {t13_0 : Int32} {t13_1 : Int32} {t13_2 : Int32} {t13_3 : Int32} {t13_4 : Int32} {t13_5 : Int32} {t13_6 : Int32} {t13_7 : Int64} {t13_8 : Int32} {t13_9 : Int32} {t13_10 : Int64} {t13_11 : Int64} {t13_12 : Int32} {t13_13 : Int32} {t14_0 : (Nat → Int32)} {t15_0 : (Nat → Int32)} {t16_0 : (Nat → Int32)} {t17_0 : (Nat → Int32)} {t18_0 : (Nat → Int64)}  : (yOk x2.toInt x3.toInt x4.toInt ∧ (F_NM_read x2 x3 x4 t0_0 t0_1 t0_2 t1_0 t1_1 t1_2 t1_3 t1_4 t1_5 t1_6 t2_0 t3_0 t4_0 t5_0 t6_0 t6_1 t6_2 t6_3 t6_4 t6_5 t6_6 t6_7 t6_8 t6_9 t6_10 t7_0 t8_0 t9_0 t10_0 t11_0 t12_0 t13_0 t13_1 t13_2 t13_3 t13_4 t13_5 t13_6 t13_7 t13_8 t13_9 t13_10 t13_11 t13_12 t13_13 t14_0 t15_0 t16_0 t17_0 t18_0) = F_NM_read_J36 x2 x3 x4 t0_0 t0_1 t0_2 t1_0 t1_1 t1_2 t1_3 t1_4 t1_5 t1_6 t2_0 t3_0 t4_0 t5_0 t6_0 t6_1 t6_2 t6_3 t6_4 t6_5 t6_6 t6_7 t6_8 t6_9 t6_10 t7_0 t8_0 t9_0 t10_0 t11_0 t12_0 t13_0 t13_1 t13_2 t13_3 t13_4 t13_5 t13_6 t13_7 t13_8 t13_9 t13_10 t13_11 t13_12 t13_13 t14_0 t15_0 t16_0 t17_0 t18_0) ∨ (¬ yOk x2.toInt x3.toInt x4.toInt ∧ (F_NM_read x2 x3 x4 t0_0 t0_1 t0_2 t1_0 t1_1 t1_2 t1_3 t1_4 t1_5 t1_6 t2_0 t3_0 t4_0 t5_0 t6_0 t6_1 t6_2 t6_3 t6_4 t6_5 t6_6 t6_7 t6_8 t6_9 t6_10 t7_0 t8_0 t9_0 t10_0 t11_0 t12_0 t13_0 t13_1 t13_2 t13_3 t13_4 t13_5 t13_6 t13_7 t13_8 t13_9 t13_10 t13_11 t13_12 t13_13 t14_0 t15_0 t16_0 t17_0 t18_0) = F_NM_read_J32 x2 x3 x4 t0_0 t0_1 t0_2 t1_0 t1_1 t1_2 t1_3 t1_4 t1_5 t1_6 t2_0 t3_0 t4_0 t5_0 t6_0 t6_1 t6_2 t6_3 t6_4 t6_5 t6_6 t6_7 t6_8 t6_9 t6_10 t7_0 t8_0 t9_0 t10_0 t11_0 t12_0 t13_0 t13_1 t13_2 t13_3 t13_4 t13_5 t13_6 t13_7 t13_8 t13_9 t13_10 t13_11 t13_12 t13_13 t14_0 t15_0 t16_0 t17_0 t18_0) := by
  have e0 : (0 : Int32).toInt = 0 := rfl
  have e2 : (2 : Int32).toInt = 2 := rfl
  have e36 : (36 : Int32).toInt = 36 := rfl
  unfold F_NM_read
  rcases y_noI (x1 := x2) (x2 := x3) with ⟨r1, r2, r3⟩ | ⟨r1, r2⟩
  · rw [if_pos r1]
    by_cases c0 : x2 = 0
    · rw [if_pos c0]
      have k0 : x2.toInt = 0 := by rw [c0]; rfl
      by_cases c1 : x4 < 2
      · rw [if_pos c1]
        have c1 := q_ltI c1
        refine Or.inr ⟨fun h => ?_, rfl⟩
        rcases h.2.2 with u | u
        · omega
        · exact u.1 k0
      · rw [if_neg c1]
        have c1 := q_nltI c1
        by_cases c2 : x4 ≤ 36
        · rw [if_pos c2]
          have c2 := q_leI c2
          exact Or.inl ⟨⟨r2, r3, Or.inl ⟨k0, by omega, by omega⟩⟩, rfl⟩
        · rw [if_neg c2]
          have c2 := q_nleI c2
          refine Or.inr ⟨fun h => ?_, rfl⟩
          rcases h.2.2 with u | u
          · omega
          · exact u.1 k0
    · rw [if_neg c0]
      have k0 : x2.toInt ≠ 0 := fun k => c0 (Int32.toInt_inj.mp (by rw [k]; rfl))
      by_cases c1 : x4 = 10
      · rw [if_pos c1]
        exact Or.inl ⟨⟨r2, r3, Or.inr ⟨k0, by rw [c1]; rfl⟩⟩, rfl⟩
      · rw [if_neg c1]
        refine Or.inr ⟨fun h => ?_, rfl⟩
        rcases h.2.2 with u | u
        · exact k0 u.1
        · exact c1 (Int32.toInt_inj.mp (by rw [u.2]; rfl))
  · rw [if_neg (show ¬ F_NM_no_IIZ x2 x3 = 0 by rw [r1]; decide)]
    exact Or.inr ⟨fun h => r2 ⟨h.1, h.2.1⟩, rfl⟩
