/-! values, for whole: print of the reference, the call -/
theorem V_m62 {x2 : Int32} {x3 : Int32} {x4 : Int32} {t0_0 : Int32} {t0_1 : Int32} {t0_2 : Int32} {t1_0 : Int32} {t1_1 : Int32} {t1_2 : Int32} {t1_3 : Int32} {t1_4 : Int32} {t1_5 : Int32} {t1_6 : Int32} {t2_0 : (Nat → Int32)} {t3_0 : (Nat → Int32)} {t4_0 : (Nat → Int32)} {t5_0 : (Nat → Int32)} {t6_0 : Int32} {t6_1 : Int32} {t6_2 : Int32} {t6_3 : Int64} {t6_4 : Int32} {t6_5 : Int32} {t6_6 : Int32} {t6_7 : Int32} {t6_8 : Int32} {t6_9 : Int32} {t6_10 : Int32} {t7_0 : (Nat → Int32)} {t8_0 : (Nat → Int32)} {t9_0 : (Nat → Int32)} {t10_0 : (Nat → Int32)} {t11_0 : (Nat → Int32)} {t12_0 : Int32} {t12_1 : Int32} {t12_2 : Int32} {t12_3 : Int32} {t12_4 : Int64} {t12_5 : Int32} {t12_6 : Int32} {t12_7 : Int64} {t12_8 : Int32} {t12_9 : Int64} {t12_10 : Int32} {t13_0 : (Nat → Int32)} {t14_0 : (Nat → Int32)} {t15_0 : (Nat → Int32)} {t16_0 : (Nat → Int32)} {t17_0 : (Nat → Int32)} {t18_0 : (Nat → Int32)} {t19_0 : (Nat → Int32)} {t20_0 : (Nat → Int32)} {t21_0 : (Nat → Int64)} {lx109 : Int32}  : (F_NM_print_J62 x2 x3 x4 t0_0 t0_1 t0_2 t1_0 t1_1 t1_2 t1_3 t1_4 t1_5 t1_6 t2_0 t3_0 t4_0 t5_0 t6_0 t6_1 t6_2 t6_3 t6_4 t6_5 t6_6 t6_7 t6_8 t6_9 t6_10 t7_0 t8_0 t9_0 t10_0 t11_0 t12_0 t12_1 t12_2 t12_3 t12_4 t12_5 t12_6 t12_7 t12_8 t12_9 t12_10 t13_0 t14_0 t15_0 t16_0 t17_0 t18_0 t19_0 t20_0 t21_0 lx109).2.1 = 1 ∧ (F_NM_print_J62 x2 x3 x4 t0_0 t0_1 t0_2 t1_0 t1_1 t1_2 t1_3 t1_4 t1_5 t1_6 t2_0 t3_0 t4_0 t5_0 t6_0 t6_1 t6_2 t6_3 t6_4 t6_5 t6_6 t6_7 t6_8 t6_9 t6_10 t7_0 t8_0 t9_0 t10_0 t11_0 t12_0 t12_1 t12_2 t12_3 t12_4 t12_5 t12_6 t12_7 t12_8 t12_9 t12_10 t13_0 t14_0 t15_0 t16_0 t17_0 t18_0 t19_0 t20_0 t21_0 lx109).2.2.1 = t0_2 ∧ (F_NM_print_J62 x2 x3 x4 t0_0 t0_1 t0_2 t1_0 t1_1 t1_2 t1_3 t1_4 t1_5 t1_6 t2_0 t3_0 t4_0 t5_0 t6_0 t6_1 t6_2 t6_3 t6_4 t6_5 t6_6 t6_7 t6_8 t6_9 t6_10 t7_0 t8_0 t9_0 t10_0 t11_0 t12_0 t12_1 t12_2 t12_3 t12_4 t12_5 t12_6 t12_7 t12_8 t12_9 t12_10 t13_0 t14_0 t15_0 t16_0 t17_0 t18_0 t19_0 t20_0 t21_0 lx109).2.2.2.2.2.2.2.2.2.2.2.2.2.2.2.2.2.2.2.2.2.2.2.2.2.2.2.2.2.2.2.2.2.2.2.2.2.2.2.2.2.2 = t20_0 := by
  unfold F_NM_print_J62 F_NM_print_J67
  rw [if_neg (by decide : ¬ (1 : Int32) ≤ 0)]
  exact ⟨rfl, rfl, rfl⟩
theorem V_m34 {x2 : Int32} {x3 : Int32} {x4 : Int32} {t0_0 : Int32} {t0_1 : Int32} {t0_2 : Int32} {t1_0 : Int32} {t1_1 : Int32} {t1_2 : Int32} {t1_3 : Int32} {t1_4 : Int32} {t1_5 : Int32} {t1_6 : Int32} {t2_0 : (Nat → Int32)} {t3_0 : (Nat → Int32)} {t4_0 : (Nat → Int32)} {t5_0 : (Nat → Int32)} {t6_0 : Int32} {t6_1 : Int32} {t6_2 : Int32} {t6_3 : Int64} {t6_4 : Int32} {t6_5 : Int32} {t6_6 : Int32} {t6_7 : Int32} {t6_8 : Int32} {t6_9 : Int32} {t6_10 : Int32} {t7_0 : (Nat → Int32)} {t8_0 : (Nat → Int32)} {t9_0 : (Nat → Int32)} {t10_0 : (Nat → Int32)} {t11_0 : (Nat → Int32)} {t12_0 : Int32} {t12_1 : Int32} {t12_2 : Int32} {t12_3 : Int32} {t12_4 : Int64} {t12_5 : Int32} {t12_6 : Int32} {t12_7 : Int64} {t12_8 : Int32} {t12_9 : Int64} {t12_10 : Int32} {t13_0 : (Nat → Int32)} {t14_0 : (Nat → Int32)} {t15_0 : (Nat → Int32)} {t16_0 : (Nat → Int32)} {t17_0 : (Nat → Int32)} {t18_0 : (Nat → Int32)} {t19_0 : (Nat → Int32)} {t20_0 : (Nat → Int32)} {t21_0 : (Nat → Int64)}  : (F_NM_print_J34 x2 x3 x4 t0_0 t0_1 t0_2 t1_0 t1_1 t1_2 t1_3 t1_4 t1_5 t1_6 t2_0 t3_0 t4_0 t5_0 t6_0 t6_1 t6_2 t6_3 t6_4 t6_5 t6_6 t6_7 t6_8 t6_9 t6_10 t7_0 t8_0 t9_0 t10_0 t11_0 t12_0 t12_1 t12_2 t12_3 t12_4 t12_5 t12_6 t12_7 t12_8 t12_9 t12_10 t13_0 t14_0 t15_0 t16_0 t17_0 t18_0 t19_0 t20_0 t21_0).2.1 = 1 ∧ (F_NM_print_J34 x2 x3 x4 t0_0 t0_1 t0_2 t1_0 t1_1 t1_2 t1_3 t1_4 t1_5 t1_6 t2_0 t3_0 t4_0 t5_0 t6_0 t6_1 t6_2 t6_3 t6_4 t6_5 t6_6 t6_7 t6_8 t6_9 t6_10 t7_0 t8_0 t9_0 t10_0 t11_0 t12_0 t12_1 t12_2 t12_3 t12_4 t12_5 t12_6 t12_7 t12_8 t12_9 t12_10 t13_0 t14_0 t15_0 t16_0 t17_0 t18_0 t19_0 t20_0 t21_0).2.2.1 = t0_2 ∧ (F_NM_print_J34 x2 x3 x4 t0_0 t0_1 t0_2 t1_0 t1_1 t1_2 t1_3 t1_4 t1_5 t1_6 t2_0 t3_0 t4_0 t5_0 t6_0 t6_1 t6_2 t6_3 t6_4 t6_5 t6_6 t6_7 t6_8 t6_9 t6_10 t7_0 t8_0 t9_0 t10_0 t11_0 t12_0 t12_1 t12_2 t12_3 t12_4 t12_5 t12_6 t12_7 t12_8 t12_9 t12_10 t13_0 t14_0 t15_0 t16_0 t17_0 t18_0 t19_0 t20_0 t21_0).2.2.2.2.2.2.2.2.2.2.2.2.2.2.2.2.2.2.2.2.2.2.2.2.2.2.2.2.2.2.2.2.2.2.2.2.2.2.2.2.2.2 = t20_0 := by
  unfold F_NM_print_J34 F_NM_print_J39
  rw [if_neg (by decide : ¬ (1 : Int32) = 0)]
  exact V_m62
theorem V_m24 {x2 : Int32} {x3 : Int32} {x4 : Int32} {t0_0 : Int32} {t0_1 : Int32} {t0_2 : Int32} {t1_0 : Int32} {t1_1 : Int32} {t1_2 : Int32} {t1_3 : Int32} {t1_4 : Int32} {t1_5 : Int32} {t1_6 : Int32} {t2_0 : (Nat → Int32)} {t3_0 : (Nat → Int32)} {t4_0 : (Nat → Int32)} {t5_0 : (Nat → Int32)} {t6_0 : Int32} {t6_1 : Int32} {t6_2 : Int32} {t6_3 : Int64} {t6_4 : Int32} {t6_5 : Int32} {t6_6 : Int32} {t6_7 : Int32} {t6_8 : Int32} {t6_9 : Int32} {t6_10 : Int32} {t7_0 : (Nat → Int32)} {t8_0 : (Nat → Int32)} {t9_0 : (Nat → Int32)} {t10_0 : (Nat → Int32)} {t11_0 : (Nat → Int32)} {t12_0 : Int32} {t12_1 : Int32} {t12_2 : Int32} {t12_3 : Int32} {t12_4 : Int64} {t12_5 : Int32} {t12_6 : Int32} {t12_7 : Int64} {t12_8 : Int32} {t12_9 : Int64} {t12_10 : Int32} {t13_0 : (Nat → Int32)} {t14_0 : (Nat → Int32)} {t15_0 : (Nat → Int32)} {t16_0 : (Nat → Int32)} {t17_0 : (Nat → Int32)} {t18_0 : (Nat → Int32)} {t19_0 : (Nat → Int32)} {t20_0 : (Nat → Int32)} {t21_0 : (Nat → Int64)} {W : Nat → Int} {D : Nat → Int × Int} {wd nr : Nat} (hw : wRv t2_0 t3_0 W) (hD : dRv t7_0 t8_0 t9_0 t10_0 D) (h2 : x2.toInt = 2 → ∀ a b c, yu (F_NM_bitsOf x2 x3 a b c t21_0) = wd ∧ yBit 52 2047 wd) (h3 : x2.toInt = 3 → ∀ a b c, yu (F_NM_bitsOf x2 x3 a b c t21_0) = nr ∧ yBit 23 255 nr) (hk : (0 ≤ x2.toInt ∧ x2.toInt ≤ 3) ∧ yReg x3) (h4 : 0 ≤ x4.toInt) (h5 : 2 ≤ x2.toInt → x4.toInt ≤ 1) : (yPrOk x2 x3 x4 ∧ ∃ t, yPrT x2 x4 (W x3.toNatClampNeg) (D x3.toNatClampNeg) wd nr t ∧ t.length ≤ 11008 ∧ (F_NM_print_J24 x2 x3 x4 t0_0 t0_1 t0_2 t1_0 t1_1 t1_2 t1_3 t1_4 t1_5 t1_6 t2_0 t3_0 t4_0 t5_0 t6_0 t6_1 t6_2 t6_3 t6_4 t6_5 t6_6 t6_7 t6_8 t6_9 t6_10 t7_0 t8_0 t9_0 t10_0 t11_0 t12_0 t12_1 t12_2 t12_3 t12_4 t12_5 t12_6 t12_7 t12_8 t12_9 t12_10 t13_0 t14_0 t15_0 t16_0 t17_0 t18_0 t19_0 t20_0 t21_0).2.1 = 0 ∧ (F_NM_print_J24 x2 x3 x4 t0_0 t0_1 t0_2 t1_0 t1_1 t1_2 t1_3 t1_4 t1_5 t1_6 t2_0 t3_0 t4_0 t5_0 t6_0 t6_1 t6_2 t6_3 t6_4 t6_5 t6_6 t6_7 t6_8 t6_9 t6_10 t7_0 t8_0 t9_0 t10_0 t11_0 t12_0 t12_1 t12_2 t12_3 t12_4 t12_5 t12_6 t12_7 t12_8 t12_9 t12_10 t13_0 t14_0 t15_0 t16_0 t17_0 t18_0 t19_0 t20_0 t21_0).1 = (F_NM_print_J24 x2 x3 x4 t0_0 t0_1 t0_2 t1_0 t1_1 t1_2 t1_3 t1_4 t1_5 t1_6 t2_0 t3_0 t4_0 t5_0 t6_0 t6_1 t6_2 t6_3 t6_4 t6_5 t6_6 t6_7 t6_8 t6_9 t6_10 t7_0 t8_0 t9_0 t10_0 t11_0 t12_0 t12_1 t12_2 t12_3 t12_4 t12_5 t12_6 t12_7 t12_8 t12_9 t12_10 t13_0 t14_0 t15_0 t16_0 t17_0 t18_0 t19_0 t20_0 t21_0).2.2.1 ∧ yRt (F_NM_print_J24 x2 x3 x4 t0_0 t0_1 t0_2 t1_0 t1_1 t1_2 t1_3 t1_4 t1_5 t1_6 t2_0 t3_0 t4_0 t5_0 t6_0 t6_1 t6_2 t6_3 t6_4 t6_5 t6_6 t6_7 t6_8 t6_9 t6_10 t7_0 t8_0 t9_0 t10_0 t11_0 t12_0 t12_1 t12_2 t12_3 t12_4 t12_5 t12_6 t12_7 t12_8 t12_9 t12_10 t13_0 t14_0 t15_0 t16_0 t17_0 t18_0 t19_0 t20_0 t21_0).2.2.1 (F_NM_print_J24 x2 x3 x4 t0_0 t0_1 t0_2 t1_0 t1_1 t1_2 t1_3 t1_4 t1_5 t1_6 t2_0 t3_0 t4_0 t5_0 t6_0 t6_1 t6_2 t6_3 t6_4 t6_5 t6_6 t6_7 t6_8 t6_9 t6_10 t7_0 t8_0 t9_0 t10_0 t11_0 t12_0 t12_1 t12_2 t12_3 t12_4 t12_5 t12_6 t12_7 t12_8 t12_9 t12_10 t13_0 t14_0 t15_0 t16_0 t17_0 t18_0 t19_0 t20_0 t21_0).2.2.2.2.2.2.2.2.2.2.2.2.2.2.2.2.2.2.2.2.2.2.2.2.2.2.2.2.2.2.2.2.2.2.2.2.2.2.2.2.2.2 t) ∨ (¬ yPrOk x2 x3 x4 ∧ (F_NM_print_J24 x2 x3 x4 t0_0 t0_1 t0_2 t1_0 t1_1 t1_2 t1_3 t1_4 t1_5 t1_6 t2_0 t3_0 t4_0 t5_0 t6_0 t6_1 t6_2 t6_3 t6_4 t6_5 t6_6 t6_7 t6_8 t6_9 t6_10 t7_0 t8_0 t9_0 t10_0 t11_0 t12_0 t12_1 t12_2 t12_3 t12_4 t12_5 t12_6 t12_7 t12_8 t12_9 t12_10 t13_0 t14_0 t15_0 t16_0 t17_0 t18_0 t19_0 t20_0 t21_0).2.1 = 1 ∧ (F_NM_print_J24 x2 x3 x4 t0_0 t0_1 t0_2 t1_0 t1_1 t1_2 t1_3 t1_4 t1_5 t1_6 t2_0 t3_0 t4_0 t5_0 t6_0 t6_1 t6_2 t6_3 t6_4 t6_5 t6_6 t6_7 t6_8 t6_9 t6_10 t7_0 t8_0 t9_0 t10_0 t11_0 t12_0 t12_1 t12_2 t12_3 t12_4 t12_5 t12_6 t12_7 t12_8 t12_9 t12_10 t13_0 t14_0 t15_0 t16_0 t17_0 t18_0 t19_0 t20_0 t21_0).2.2.1 = t0_2 ∧ (F_NM_print_J24 x2 x3 x4 t0_0 t0_1 t0_2 t1_0 t1_1 t1_2 t1_3 t1_4 t1_5 t1_6 t2_0 t3_0 t4_0 t5_0 t6_0 t6_1 t6_2 t6_3 t6_4 t6_5 t6_6 t6_7 t6_8 t6_9 t6_10 t7_0 t8_0 t9_0 t10_0 t11_0 t12_0 t12_1 t12_2 t12_3 t12_4 t12_5 t12_6 t12_7 t12_8 t12_9 t12_10 t13_0 t14_0 t15_0 t16_0 t17_0 t18_0 t19_0 t20_0 t21_0).2.2.2.2.2.2.2.2.2.2.2.2.2.2.2.2.2.2.2.2.2.2.2.2.2.2.2.2.2.2.2.2.2.2.2.2.2.2.2.2.2.2 = t20_0) := by
  have e0 : (0 : Int32).toInt = 0 := rfl
  have e1 : (1 : Int32).toInt = 1 := rfl
  have e2 : (2 : Int32).toInt = 2 := rfl
  have e36 : (36 : Int32).toInt = 36 := rfl
  unfold F_NM_print_J24
  by_cases x1 : x2 = 1
  · have x1i : x2.toInt = 1 := by rw [x1]; rfl
    have x0 : ¬ x2 = 0 := fun q => by rw [q, e0] at x1i; omega
    rw [if_pos x1]
    by_cases a : x4 ≤ 2
    · rw [if_pos a]
      have a := q_leI a
      have ok : yPrOk x2 x3 x4 := ⟨hk, Or.inr (Or.inl ⟨x1i, by omega, by omega⟩)⟩
      refine Or.inl ⟨ok, ?_⟩
      unfold F_NM_print_J38 F_NM_print_J39
      rw [if_pos (rfl : (0 : Int32) = 0), if_neg x0]
      unfold F_NM_print_J66
      exact V_mpr67 hw hD h2 h3 ok rfl
    · rw [if_neg a]
      have a := q_nleI a
      exact Or.inr ⟨fun q => by obtain ⟨_, q⟩ := q; omega, V_m34⟩
  · rw [if_neg x1]
    have x1i : x2.toInt ≠ 1 := fun q => x1 (Int32.toInt_inj.mp q)
    unfold F_NM_print_J38 F_NM_print_J39
    rw [if_pos (rfl : (0 : Int32) = 0)]
    by_cases x0 : x2 = 0
    · have x0i : x2.toInt = 0 := by rw [x0]; rfl
      rw [if_pos x0]
      by_cases a : x4 < 2
      · rw [if_pos a]
        have a := q_ltI a
        exact Or.inr ⟨fun q => by obtain ⟨_, q⟩ := q; omega, V_m62⟩
      · rw [if_neg a]
        have a := q_nltI a
        by_cases b : x4 ≤ 36
        · rw [if_pos b]
          have b := q_leI b
          have ok : yPrOk x2 x3 x4 := ⟨hk, Or.inl ⟨x0i, by omega, by omega⟩⟩
          refine Or.inl ⟨ok, ?_⟩
          unfold F_NM_print_J66
          exact V_mpr67 hw hD h2 h3 ok rfl
        · rw [if_neg b]
          have b := q_nleI b
          exact Or.inr ⟨fun q => by obtain ⟨_, q⟩ := q; omega, V_m62⟩
    · have x0i : x2.toInt ≠ 0 := fun q => x0 (Int32.toInt_inj.mp q)
      rw [if_neg x0]
      have ok : yPrOk x2 x3 x4 := ⟨hk, Or.inr (Or.inr ⟨by omega, by omega, h5 (by omega)⟩)⟩
      refine Or.inl ⟨ok, ?_⟩
      unfold F_NM_print_J66
      exact V_mpr67 hw hD h2 h3 ok rfl
theorem V_NM_print {x2 : Int32} {x3 : Int32} {x4 : Int32} {t0_0 : Int32} {t0_1 : Int32} {t0_2 : Int32} {t1_0 : Int32} {t1_1 : Int32} {t1_2 : Int32} {t1_3 : Int32} {t1_4 : Int32} {t1_5 : Int32} {t1_6 : Int32} {t2_0 : (Nat → Int32)} {t3_0 : (Nat → Int32)} {t4_0 : (Nat → Int32)} {t5_0 : (Nat → Int32)} {t6_0 : Int32} {t6_1 : Int32} {t6_2 : Int32} {t6_3 : Int64} {t6_4 : Int32} {t6_5 : Int32} {t6_6 : Int32} {t6_7 : Int32} {t6_8 : Int32} {t6_9 : Int32} {t6_10 : Int32} {t7_0 : (Nat → Int32)} {t8_0 : (Nat → Int32)} {t9_0 : (Nat → Int32)} {t10_0 : (Nat → Int32)} {t11_0 : (Nat → Int32)} {t12_0 : Int32} {t12_1 : Int32} {t12_2 : Int32} {t12_3 : Int32} {t12_4 : Int64} {t12_5 : Int32} {t12_6 : Int32} {t12_7 : Int64} {t12_8 : Int32} {t12_9 : Int64} {t12_10 : Int32} {t13_0 : (Nat → Int32)} {t14_0 : (Nat → Int32)} {t15_0 : (Nat → Int32)} {t16_0 : (Nat → Int32)} {t17_0 : (Nat → Int32)} {t18_0 : (Nat → Int32)} {t19_0 : (Nat → Int32)} {t20_0 : (Nat → Int32)} {t21_0 : (Nat → Int64)} {W : Nat → Int} {D : Nat → Int × Int} {wd nr : Nat} (hw : wRv t2_0 t3_0 W) (hD : dRv t7_0 t8_0 t9_0 t10_0 D) (h2 : yReg x3 → x2.toInt = 2 → ∀ a b c, yu (F_NM_bitsOf x2 x3 a b c t21_0) = wd ∧ yBit 52 2047 wd) (h3 : yReg x3 → x2.toInt = 3 → ∀ a b c, yu (F_NM_bitsOf x2 x3 a b c t21_0) = nr ∧ yBit 23 255 nr) : (yPrOk x2 x3 x4 ∧ ∃ t, yPrT x2 x4 (W x3.toNatClampNeg) (D x3.toNatClampNeg) wd nr t ∧ t.length ≤ 11008 ∧ (F_NM_print x2 x3 x4 t0_0 t0_1 t0_2 t1_0 t1_1 t1_2 t1_3 t1_4 t1_5 t1_6 t2_0 t3_0 t4_0 t5_0 t6_0 t6_1 t6_2 t6_3 t6_4 t6_5 t6_6 t6_7 t6_8 t6_9 t6_10 t7_0 t8_0 t9_0 t10_0 t11_0 t12_0 t12_1 t12_2 t12_3 t12_4 t12_5 t12_6 t12_7 t12_8 t12_9 t12_10 t13_0 t14_0 t15_0 t16_0 t17_0 t18_0 t19_0 t20_0 t21_0).2.1 = 0 ∧ (F_NM_print x2 x3 x4 t0_0 t0_1 t0_2 t1_0 t1_1 t1_2 t1_3 t1_4 t1_5 t1_6 t2_0 t3_0 t4_0 t5_0 t6_0 t6_1 t6_2 t6_3 t6_4 t6_5 t6_6 t6_7 t6_8 t6_9 t6_10 t7_0 t8_0 t9_0 t10_0 t11_0 t12_0 t12_1 t12_2 t12_3 t12_4 t12_5 t12_6 t12_7 t12_8 t12_9 t12_10 t13_0 t14_0 t15_0 t16_0 t17_0 t18_0 t19_0 t20_0 t21_0).1 = (F_NM_print x2 x3 x4 t0_0 t0_1 t0_2 t1_0 t1_1 t1_2 t1_3 t1_4 t1_5 t1_6 t2_0 t3_0 t4_0 t5_0 t6_0 t6_1 t6_2 t6_3 t6_4 t6_5 t6_6 t6_7 t6_8 t6_9 t6_10 t7_0 t8_0 t9_0 t10_0 t11_0 t12_0 t12_1 t12_2 t12_3 t12_4 t12_5 t12_6 t12_7 t12_8 t12_9 t12_10 t13_0 t14_0 t15_0 t16_0 t17_0 t18_0 t19_0 t20_0 t21_0).2.2.1 ∧ yRt (F_NM_print x2 x3 x4 t0_0 t0_1 t0_2 t1_0 t1_1 t1_2 t1_3 t1_4 t1_5 t1_6 t2_0 t3_0 t4_0 t5_0 t6_0 t6_1 t6_2 t6_3 t6_4 t6_5 t6_6 t6_7 t6_8 t6_9 t6_10 t7_0 t8_0 t9_0 t10_0 t11_0 t12_0 t12_1 t12_2 t12_3 t12_4 t12_5 t12_6 t12_7 t12_8 t12_9 t12_10 t13_0 t14_0 t15_0 t16_0 t17_0 t18_0 t19_0 t20_0 t21_0).2.2.1 (F_NM_print x2 x3 x4 t0_0 t0_1 t0_2 t1_0 t1_1 t1_2 t1_3 t1_4 t1_5 t1_6 t2_0 t3_0 t4_0 t5_0 t6_0 t6_1 t6_2 t6_3 t6_4 t6_5 t6_6 t6_7 t6_8 t6_9 t6_10 t7_0 t8_0 t9_0 t10_0 t11_0 t12_0 t12_1 t12_2 t12_3 t12_4 t12_5 t12_6 t12_7 t12_8 t12_9 t12_10 t13_0 t14_0 t15_0 t16_0 t17_0 t18_0 t19_0 t20_0 t21_0).2.2.2.2.2.2.2.2.2.2.2.2.2.2.2.2.2.2.2.2.2.2.2.2.2.2.2.2.2.2.2.2.2.2.2.2.2.2.2.2.2.2 t) ∨ (¬ yPrOk x2 x3 x4 ∧ (F_NM_print x2 x3 x4 t0_0 t0_1 t0_2 t1_0 t1_1 t1_2 t1_3 t1_4 t1_5 t1_6 t2_0 t3_0 t4_0 t5_0 t6_0 t6_1 t6_2 t6_3 t6_4 t6_5 t6_6 t6_7 t6_8 t6_9 t6_10 t7_0 t8_0 t9_0 t10_0 t11_0 t12_0 t12_1 t12_2 t12_3 t12_4 t12_5 t12_6 t12_7 t12_8 t12_9 t12_10 t13_0 t14_0 t15_0 t16_0 t17_0 t18_0 t19_0 t20_0 t21_0).2.1 = 1 ∧ (F_NM_print x2 x3 x4 t0_0 t0_1 t0_2 t1_0 t1_1 t1_2 t1_3 t1_4 t1_5 t1_6 t2_0 t3_0 t4_0 t5_0 t6_0 t6_1 t6_2 t6_3 t6_4 t6_5 t6_6 t6_7 t6_8 t6_9 t6_10 t7_0 t8_0 t9_0 t10_0 t11_0 t12_0 t12_1 t12_2 t12_3 t12_4 t12_5 t12_6 t12_7 t12_8 t12_9 t12_10 t13_0 t14_0 t15_0 t16_0 t17_0 t18_0 t19_0 t20_0 t21_0).2.2.1 = t0_2 ∧ (F_NM_print x2 x3 x4 t0_0 t0_1 t0_2 t1_0 t1_1 t1_2 t1_3 t1_4 t1_5 t1_6 t2_0 t3_0 t4_0 t5_0 t6_0 t6_1 t6_2 t6_3 t6_4 t6_5 t6_6 t6_7 t6_8 t6_9 t6_10 t7_0 t8_0 t9_0 t10_0 t11_0 t12_0 t12_1 t12_2 t12_3 t12_4 t12_5 t12_6 t12_7 t12_8 t12_9 t12_10 t13_0 t14_0 t15_0 t16_0 t17_0 t18_0 t19_0 t20_0 t21_0).2.2.2.2.2.2.2.2.2.2.2.2.2.2.2.2.2.2.2.2.2.2.2.2.2.2.2.2.2.2.2.2.2.2.2.2.2.2.2.2.2.2 = t20_0) := by
  have e0 : (0 : Int32).toInt = 0 := rfl
  have e1 : (1 : Int32).toInt = 1 := rfl
  unfold F_NM_print
  rcases y_noII (x := x2) (y := x3) with ⟨g, k⟩ | ⟨g, k⟩
  · rw [if_pos g]
    by_cases a : x4 < 0
    · rw [if_pos a]
      have a := q_ltI a
      exact Or.inr ⟨fun q => by obtain ⟨_, q⟩ := q; omega, V_m34⟩
    · rw [if_neg a]
      have a := q_nltI a
      by_cases f : F_NM_isFloat x2 = 0
      · rw [if_pos f]
        have fi : x2.toInt ≤ 1 := by
          unfold F_NM_isFloat at f
          by_cases c : x2 ≤ 1
          · have := q_leI c
            omega
          · rw [if_neg c] at f
            exact absurd f (by decide)
        exact V_m24 hw hD (h2 k.2) (h3 k.2) k (by omega) (fun q => by omega)
      · rw [if_neg f]
        have fi : 2 ≤ x2.toInt := by
          unfold F_NM_isFloat at f
          by_cases c : x2 ≤ 1
          · rw [if_pos c] at f
            exact absurd rfl f
          · have := q_nleI c
            omega
        by_cases b : 1 < x4
        · rw [if_pos b]
          have b := q_ltI b
          exact Or.inr ⟨fun q => by obtain ⟨_, q⟩ := q; omega, V_m34⟩
        · rw [if_neg b]
          have b := q_nltI b
          exact V_m24 hw hD (h2 k.2) (h3 k.2) k (by omega) (fun q => by omega)
  · rw [if_neg (by rw [g]; decide)]
    exact Or.inr ⟨fun q => k q.1, V_m34⟩
