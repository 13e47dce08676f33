/-! values, for whole: the reference's told of wholes and decimals -/
theorem y_mtn {x2 : Int32} {x3 : Int32} {x4 : Int32} {t0_0 : Int32} {t0_1 : Int32} {t0_2 : Int32} {t1_0 : Int32} {t1_1 : Int32} {t1_2 : Int32} {t1_3 : Int32} {t1_4 : Int32} {t1_5 : Int32} {t1_6 : Int32} {t2_0 : (Nat → Int32)} {t3_0 : (Nat → Int32)} {t4_0 : Int32} {t4_1 : Int32} {t4_2 : Int32} {t4_3 : Int64} {t4_4 : Int32} {t4_5 : Int32} {t4_6 : Int32} {t4_7 : Int32} {t4_8 : Int32} {t4_9 : Int32} {t4_10 : Int32} {t5_0 : (Nat → Int32)} {t6_0 : (Nat → Int32)} {t7_0 : (Nat → Int32)} {t8_0 : (Nat → Int32)} {t9_0 : Int32} {t9_1 : Int32} {t9_2 : Int32} {t9_3 : Int32} {t9_4 : Int64} {t9_5 : Int32} {t9_6 : Int32} {t9_7 : Int64} {t9_8 : Int32} {t9_9 : Int64} {t9_10 : Int32} {t10_0 : (Nat → Int32)} {t11_0 : (Nat → Int32)} {t12_0 : (Nat → Int32)} {t13_0 : (Nat → Int32)} {t14_0 : (Nat → Int32)} {t15_0 : (Nat → Int32)} {t16_0 : (Nat → Int64)}  : (F_NM_told_J13 x2 x3 x4 t0_0 t0_1 t0_2 t1_0 t1_1 t1_2 t1_3 t1_4 t1_5 t1_6 t2_0 t3_0 t4_0 t4_1 t4_2 t4_3 t4_4 t4_5 t4_6 t4_7 t4_8 t4_9 t4_10 t5_0 t6_0 t7_0 t8_0 t9_0 t9_1 t9_2 t9_3 t9_4 t9_5 t9_6 t9_7 t9_8 t9_9 t9_10 t10_0 t11_0 t12_0 t13_0 t14_0 t15_0 t16_0).2.1 = 1 := by
  unfold F_NM_told_J13 F_NM_told_J18
  rw [if_neg (show ¬ (1 : Int32) ≤ 0 by decide)]
theorem y_mtN {x2 : Int32} {x3 : Int32} {x4 : Int32} {t0_0 : Int32} {t0_1 : Int32} {t0_2 : Int32} {t1_0 : Int32} {t1_1 : Int32} {t1_2 : Int32} {t1_3 : Int32} {t1_4 : Int32} {t1_5 : Int32} {t1_6 : Int32} {t2_0 : (Nat → Int32)} {t3_0 : (Nat → Int32)} {t4_0 : Int32} {t4_1 : Int32} {t4_2 : Int32} {t4_3 : Int64} {t4_4 : Int32} {t4_5 : Int32} {t4_6 : Int32} {t4_7 : Int32} {t4_8 : Int32} {t4_9 : Int32} {t4_10 : Int32} {t5_0 : (Nat → Int32)} {t6_0 : (Nat → Int32)} {t7_0 : (Nat → Int32)} {t8_0 : (Nat → Int32)} {t9_0 : Int32} {t9_1 : Int32} {t9_2 : Int32} {t9_3 : Int32} {t9_4 : Int64} {t9_5 : Int32} {t9_6 : Int32} {t9_7 : Int64} {t9_8 : Int32} {t9_9 : Int64} {t9_10 : Int32} {t10_0 : (Nat → Int32)} {t11_0 : (Nat → Int32)} {t12_0 : (Nat → Int32)} {t13_0 : (Nat → Int32)} {t14_0 : (Nat → Int32)} {t15_0 : (Nat → Int32)} {t16_0 : (Nat → Int64)} (h : ¬ ((0 ≤ x2.toInt ∧ x2.toInt ≤ 3) ∧ yReg x3)) : (F_NM_told x2 x3 x4 t0_0 t0_1 t0_2 t1_0 t1_1 t1_2 t1_3 t1_4 t1_5 t1_6 t2_0 t3_0 t4_0 t4_1 t4_2 t4_3 t4_4 t4_5 t4_6 t4_7 t4_8 t4_9 t4_10 t5_0 t6_0 t7_0 t8_0 t9_0 t9_1 t9_2 t9_3 t9_4 t9_5 t9_6 t9_7 t9_8 t9_9 t9_10 t10_0 t11_0 t12_0 t13_0 t14_0 t15_0 t16_0).2.1 = 1 := by
  unfold F_NM_told
  rcases y_noII (x := x2) (y := x3) with ⟨r, h2, h3⟩ | ⟨r, h2⟩
  · exact absurd ⟨h2, h3⟩ h
  · rw [if_neg (show ¬ F_NM_no_IIZ x2 x3 = 0 by rw [r]; decide)]
    exact y_mtn
theorem V_NM_told0 {x2 : Int32} {x3 : Int32} {x4 : Int32} {t0_0 : Int32} {t0_1 : Int32} {t0_2 : Int32} {t1_0 : Int32} {t1_1 : Int32} {t1_2 : Int32} {t1_3 : Int32} {t1_4 : Int32} {t1_5 : Int32} {t1_6 : Int32} {t2_0 : (Nat → Int32)} {t3_0 : (Nat → Int32)} {t4_0 : Int32} {t4_1 : Int32} {t4_2 : Int32} {t4_3 : Int64} {t4_4 : Int32} {t4_5 : Int32} {t4_6 : Int32} {t4_7 : Int32} {t4_8 : Int32} {t4_9 : Int32} {t4_10 : Int32} {t5_0 : (Nat → Int32)} {t6_0 : (Nat → Int32)} {t7_0 : (Nat → Int32)} {t8_0 : (Nat → Int32)} {t9_0 : Int32} {t9_1 : Int32} {t9_2 : Int32} {t9_3 : Int32} {t9_4 : Int64} {t9_5 : Int32} {t9_6 : Int32} {t9_7 : Int64} {t9_8 : Int32} {t9_9 : Int64} {t9_10 : Int32} {t10_0 : (Nat → Int32)} {t11_0 : (Nat → Int32)} {t12_0 : (Nat → Int32)} {t13_0 : (Nat → Int32)} {t14_0 : (Nat → Int32)} {t15_0 : (Nat → Int32)} {t16_0 : (Nat → Int64)} {W : Nat → Int} (hw : wRw t2_0 t3_0 W) (h2 : x2 = 0) (h3 : yReg x3) : yTl0 x4 (W x3.toNatClampNeg) (F_NM_told x2 x3 x4 t0_0 t0_1 t0_2 t1_0 t1_1 t1_2 t1_3 t1_4 t1_5 t1_6 t2_0 t3_0 t4_0 t4_1 t4_2 t4_3 t4_4 t4_5 t4_6 t4_7 t4_8 t4_9 t4_10 t5_0 t6_0 t7_0 t8_0 t9_0 t9_1 t9_2 t9_3 t9_4 t9_5 t9_6 t9_7 t9_8 t9_9 t9_10 t10_0 t11_0 t12_0 t13_0 t14_0 t15_0 t16_0).2.1 (F_NM_told x2 x3 x4 t0_0 t0_1 t0_2 t1_0 t1_1 t1_2 t1_3 t1_4 t1_5 t1_6 t2_0 t3_0 t4_0 t4_1 t4_2 t4_3 t4_4 t4_5 t4_6 t4_7 t4_8 t4_9 t4_10 t5_0 t6_0 t7_0 t8_0 t9_0 t9_1 t9_2 t9_3 t9_4 t9_5 t9_6 t9_7 t9_8 t9_9 t9_10 t10_0 t11_0 t12_0 t13_0 t14_0 t15_0 t16_0).1 := by
  have e0 : (0 : Int32).toInt = 0 := rfl
  have e4 : (4 : Int32).toInt = 4 := rfl
  obtain ⟨W2, hr, hE⟩ := hw
  have ea := hE _ (w_ne10 h3).1
  rw [← ea]
  have hy : 0 ≤ x3.toInt ∧ x3.toInt ≤ 10 := ⟨h3.1, by have := h3.2; omega⟩
  unfold F_NM_told
  rcases y_noII (x := x2) (y := x3) with ⟨r, _, _⟩ | ⟨r, k⟩
  · rw [if_pos r]
    by_cases c : 0 ≤ x4
    · rw [if_pos c]
      have c := q_leI c
      unfold F_NM_told_J18
      rw [if_pos (show (0 : Int32) ≤ 0 by decide), if_pos h2]
      by_cases z : x4 = 0
      · subst z
        have h := V_WR_told0 (x2 := x3) (t0_0 := t1_0) (t0_1 := t1_1) (t0_2 := t1_2) (t0_3 := t1_3) (t0_4 := t1_4) (t0_5 := t1_5) (t0_6 := t1_6) (t1_0 := t2_0) (t2_0 := t3_0) hr hy
        revert h
        generalize F_WR_told x3 0 t1_0 t1_1 t1_2 t1_3 t1_4 t1_5 t1_6 t2_0 t3_0 = p
        intro h
        unfold F_NM_told_c40
        exact Or.inr (Or.inl ⟨rfl, h.1, h.2⟩)
      · have z1 : x4.toInt ≠ 0 := fun k => z (Int32.toInt_inj.mp k)
        by_cases d : x4.toInt ≤ 4
        · have h := V_WR_told (x2 := x3) (x3 := x4) (t0_0 := t1_0) (t0_1 := t1_1) (t0_2 := t1_2) (t0_3 := t1_3) (t0_4 := t1_4) (t0_5 := t1_5) (t0_6 := t1_6) (t1_0 := t2_0) (t2_0 := t3_0) hr hy ⟨by omega, d⟩
          revert h
          generalize F_WR_told x3 x4 t1_0 t1_1 t1_2 t1_3 t1_4 t1_5 t1_6 t2_0 t3_0 = p
          intro h
          unfold F_NM_told_c40
          exact Or.inr (Or.inr ⟨⟨by omega, d⟩, h.1, h.2⟩)
        · have h := y_wtn (x2 := x3) (x3 := x4) (t0_0 := t1_0) (t0_1 := t1_1) (t0_2 := t1_2) (t0_3 := t1_3) (t0_4 := t1_4) (t0_5 := t1_5) (t0_6 := t1_6) (t1_0 := t2_0) (t2_0 := t3_0) (by omega)
          revert h
          generalize F_WR_told x3 x4 t1_0 t1_1 t1_2 t1_3 t1_4 t1_5 t1_6 t2_0 t3_0 = p
          intro h
          unfold F_NM_told_c40
          exact Or.inl ⟨fun k => d k.2, h⟩
    · rw [if_neg c]
      have c := q_nleI c
      exact Or.inl ⟨fun k => by have := k.1; omega, y_mtn⟩
  · refine absurd ⟨?_, h3⟩ k
    rw [h2]
    decide
theorem V_NM_told1 {x2 : Int32} {x3 : Int32} {x4 : Int32} {t0_0 : Int32} {t0_1 : Int32} {t0_2 : Int32} {t1_0 : Int32} {t1_1 : Int32} {t1_2 : Int32} {t1_3 : Int32} {t1_4 : Int32} {t1_5 : Int32} {t1_6 : Int32} {t2_0 : (Nat → Int32)} {t3_0 : (Nat → Int32)} {t4_0 : Int32} {t4_1 : Int32} {t4_2 : Int32} {t4_3 : Int64} {t4_4 : Int32} {t4_5 : Int32} {t4_6 : Int32} {t4_7 : Int32} {t4_8 : Int32} {t4_9 : Int32} {t4_10 : Int32} {t5_0 : (Nat → Int32)} {t6_0 : (Nat → Int32)} {t7_0 : (Nat → Int32)} {t8_0 : (Nat → Int32)} {t9_0 : Int32} {t9_1 : Int32} {t9_2 : Int32} {t9_3 : Int32} {t9_4 : Int64} {t9_5 : Int32} {t9_6 : Int32} {t9_7 : Int64} {t9_8 : Int32} {t9_9 : Int64} {t9_10 : Int32} {t10_0 : (Nat → Int32)} {t11_0 : (Nat → Int32)} {t12_0 : (Nat → Int32)} {t13_0 : (Nat → Int32)} {t14_0 : (Nat → Int32)} {t15_0 : (Nat → Int32)} {t16_0 : (Nat → Int64)} {D : Nat → Int × Int} (hD : dRv t5_0 t6_0 t7_0 t8_0 D) (h2 : x2 = 1) (h3 : yReg x3) : yTl1 x4 (D x3.toNatClampNeg) (F_NM_told x2 x3 x4 t0_0 t0_1 t0_2 t1_0 t1_1 t1_2 t1_3 t1_4 t1_5 t1_6 t2_0 t3_0 t4_0 t4_1 t4_2 t4_3 t4_4 t4_5 t4_6 t4_7 t4_8 t4_9 t4_10 t5_0 t6_0 t7_0 t8_0 t9_0 t9_1 t9_2 t9_3 t9_4 t9_5 t9_6 t9_7 t9_8 t9_9 t9_10 t10_0 t11_0 t12_0 t13_0 t14_0 t15_0 t16_0).2.1 (F_NM_told x2 x3 x4 t0_0 t0_1 t0_2 t1_0 t1_1 t1_2 t1_3 t1_4 t1_5 t1_6 t2_0 t3_0 t4_0 t4_1 t4_2 t4_3 t4_4 t4_5 t4_6 t4_7 t4_8 t4_9 t4_10 t5_0 t6_0 t7_0 t8_0 t9_0 t9_1 t9_2 t9_3 t9_4 t9_5 t9_6 t9_7 t9_8 t9_9 t9_10 t10_0 t11_0 t12_0 t13_0 t14_0 t15_0 t16_0).1 := by
  have e0 : (0 : Int32).toInt = 0 := rfl
  intro n hn
  unfold F_NM_told
  rcases y_noII (x := x2) (y := x3) with ⟨r, _, _⟩ | ⟨r, k⟩
  · rw [if_pos r]
    by_cases c : 0 ≤ x4
    · rw [if_pos c]
      have c := q_leI c
      unfold F_NM_told_J18
      rw [if_pos (show (0 : Int32) ≤ 0 by decide), if_neg (show ¬ x2 = 0 by rw [h2]; decide), if_pos h2]
      have h := V_DR_told (x2 := x3) (x3 := x4) (t0_0 := t4_0) (t0_1 := t4_1) (t0_2 := t4_2) (t0_3 := t4_3) (t0_4 := t4_4) (t0_5 := t4_5) (t0_6 := t4_6) (t0_7 := t4_7) (t0_8 := t4_8) (t0_9 := t4_9) (t0_10 := t4_10) (t1_0 := t5_0) (t2_0 := t6_0) (t3_0 := t7_0) (t4_0 := t8_0) hD h3 (by omega) hn
      revert h
      generalize F_DR_told x3 x4 t4_0 t4_1 t4_2 t4_3 t4_4 t4_5 t4_6 t4_7 t4_8 t4_9 t4_10 t5_0 t6_0 t7_0 t8_0 = p
      intro h
      unfold F_NM_told_c70
      rcases h with ⟨h1, h4⟩ | ⟨h1, h4, h5⟩
      · rw [if_neg (show ¬ p.2.1 ≤ 0 by rw [h4]; decide)]
        exact Or.inl ⟨fun k => h1 k.2, rfl⟩
      · rw [if_pos (show p.2.1 ≤ 0 by rw [h4]; decide)]
        refine Or.inr ⟨⟨by omega, h1⟩, rfl, ?_⟩
        show yTd x4 _ n p.1.toInt64.toInt
        rw [q_i2l rfl]
        exact h5
    · rw [if_neg c]
      have c := q_nleI c
      exact Or.inl ⟨fun k => by have := k.1; omega, y_mtn⟩
  · refine absurd ⟨?_, h3⟩ k
    rw [h2]
    decide
