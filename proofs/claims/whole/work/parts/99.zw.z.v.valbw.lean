/-! values, for whole: the class's wholeBy with its checks; put on both sides -/
theorem y_wb69n {x2 : Int32} {x3 : Int32} {x4 : Int32} {x5 : Int32} {t0_0 : Int32} {t0_1 : Int32} {t1_0 : (Nat → Int32)} {t2_0 : Int32} {t2_1 : Int32} {t3_0 : (Nat → Int32)} {t4_0 : Int32} {t4_1 : Int32} {t5_0 : (Nat → Int32)} {t6_0 : Int32} {t6_1 : Int32} {t7_0 : (Nat → Int32)} {t8_0 : Int32} {t8_1 : Int32} {t9_0 : (Nat → Int32)} {t10_0 : Int32} {t10_1 : Int32} {t11_0 : (Nat → Int32)} {t12_0 : Int32} {t12_1 : Int32} {t13_0 : (Nat → Int32)} {t14_0 : Int32} {t14_1 : Int32} {t15_0 : (Nat → Int32)} {t16_0 : Int32} {t16_1 : Int32} {t17_0 : (Nat → Int32)} {lx73 : Int32} {lx109 : Int32} {lx145 : Int32} (hl : lx145 = 0) : (F_NH_wholeBy_J69 x2 x3 x4 x5 t0_0 t0_1 t1_0 t2_0 t2_1 t3_0 t4_0 t4_1 t5_0 t6_0 t6_1 t7_0 t8_0 t8_1 t9_0 t10_0 t10_1 t11_0 t12_0 t12_1 t13_0 t14_0 t14_1 t15_0 t16_0 t16_1 t17_0 lx73 lx109 lx145).1 = 1 ∧ (F_NH_wholeBy_J69 x2 x3 x4 x5 t0_0 t0_1 t1_0 t2_0 t2_1 t3_0 t4_0 t4_1 t5_0 t6_0 t6_1 t7_0 t8_0 t8_1 t9_0 t10_0 t10_1 t11_0 t12_0 t12_1 t13_0 t14_0 t14_1 t15_0 t16_0 t16_1 t17_0 lx73 lx109 lx145).2.2.2.2.2.2.2.2.2.2.2.2.2.2.2.2.2.2.2.2.2.2.1 = t16_0 ∧ (F_NH_wholeBy_J69 x2 x3 x4 x5 t0_0 t0_1 t1_0 t2_0 t2_1 t3_0 t4_0 t4_1 t5_0 t6_0 t6_1 t7_0 t8_0 t8_1 t9_0 t10_0 t10_1 t11_0 t12_0 t12_1 t13_0 t14_0 t14_1 t15_0 t16_0 t16_1 t17_0 lx73 lx109 lx145).2.2.2.2.2.2.2.2.2.2.2.2.2.2.2.2.2.2.2.2.2.2.2.1 = t16_1 ∧ (F_NH_wholeBy_J69 x2 x3 x4 x5 t0_0 t0_1 t1_0 t2_0 t2_1 t3_0 t4_0 t4_1 t5_0 t6_0 t6_1 t7_0 t8_0 t8_1 t9_0 t10_0 t10_1 t11_0 t12_0 t12_1 t13_0 t14_0 t14_1 t15_0 t16_0 t16_1 t17_0 lx73 lx109 lx145).2.2.2.2.2.2.2.2.2.2.2.2.2.2.2.2.2.2.2.2.2.2.2.2 = t17_0 := by
  unfold F_NH_wholeBy_J69
  rw [hl, if_neg (show ¬ F_NH_need 0 = 0 by decide)]
  exact ⟨by show F_NH_need 0 = 1; decide, rfl, rfl, rfl⟩
theorem y_wb45n {x2 : Int32} {x3 : Int32} {x4 : Int32} {x5 : Int32} {t0_0 : Int32} {t0_1 : Int32} {t1_0 : (Nat → Int32)} {t2_0 : Int32} {t2_1 : Int32} {t3_0 : (Nat → Int32)} {t4_0 : Int32} {t4_1 : Int32} {t5_0 : (Nat → Int32)} {t6_0 : Int32} {t6_1 : Int32} {t7_0 : (Nat → Int32)} {t8_0 : Int32} {t8_1 : Int32} {t9_0 : (Nat → Int32)} {t10_0 : Int32} {t10_1 : Int32} {t11_0 : (Nat → Int32)} {t12_0 : Int32} {t12_1 : Int32} {t13_0 : (Nat → Int32)} {t14_0 : Int32} {t14_1 : Int32} {t15_0 : (Nat → Int32)} {t16_0 : Int32} {t16_1 : Int32} {t17_0 : (Nat → Int32)} {lx73 : Int32} {lx109 : Int32} (hl : lx109 = 0) : (F_NH_wholeBy_J45 x2 x3 x4 x5 t0_0 t0_1 t1_0 t2_0 t2_1 t3_0 t4_0 t4_1 t5_0 t6_0 t6_1 t7_0 t8_0 t8_1 t9_0 t10_0 t10_1 t11_0 t12_0 t12_1 t13_0 t14_0 t14_1 t15_0 t16_0 t16_1 t17_0 lx73 lx109).1 = 1 ∧ (F_NH_wholeBy_J45 x2 x3 x4 x5 t0_0 t0_1 t1_0 t2_0 t2_1 t3_0 t4_0 t4_1 t5_0 t6_0 t6_1 t7_0 t8_0 t8_1 t9_0 t10_0 t10_1 t11_0 t12_0 t12_1 t13_0 t14_0 t14_1 t15_0 t16_0 t16_1 t17_0 lx73 lx109).2.2.2.2.2.2.2.2.2.2.2.2.2.2.2.2.2.2.2.2.2.2.1 = t16_0 ∧ (F_NH_wholeBy_J45 x2 x3 x4 x5 t0_0 t0_1 t1_0 t2_0 t2_1 t3_0 t4_0 t4_1 t5_0 t6_0 t6_1 t7_0 t8_0 t8_1 t9_0 t10_0 t10_1 t11_0 t12_0 t12_1 t13_0 t14_0 t14_1 t15_0 t16_0 t16_1 t17_0 lx73 lx109).2.2.2.2.2.2.2.2.2.2.2.2.2.2.2.2.2.2.2.2.2.2.2.1 = t16_1 ∧ (F_NH_wholeBy_J45 x2 x3 x4 x5 t0_0 t0_1 t1_0 t2_0 t2_1 t3_0 t4_0 t4_1 t5_0 t6_0 t6_1 t7_0 t8_0 t8_1 t9_0 t10_0 t10_1 t11_0 t12_0 t12_1 t13_0 t14_0 t14_1 t15_0 t16_0 t16_1 t17_0 lx73 lx109).2.2.2.2.2.2.2.2.2.2.2.2.2.2.2.2.2.2.2.2.2.2.2.2 = t17_0 := by
  unfold F_NH_wholeBy_J45
  rw [hl, if_neg (show ¬ F_NH_need 0 = 0 by decide)]
  exact ⟨by show F_NH_need 0 = 1; decide, rfl, rfl, rfl⟩
theorem y_wb29n {x2 : Int32} {x3 : Int32} {x4 : Int32} {x5 : Int32} {t0_0 : Int32} {t0_1 : Int32} {t1_0 : (Nat → Int32)} {t2_0 : Int32} {t2_1 : Int32} {t3_0 : (Nat → Int32)} {t4_0 : Int32} {t4_1 : Int32} {t5_0 : (Nat → Int32)} {t6_0 : Int32} {t6_1 : Int32} {t7_0 : (Nat → Int32)} {t8_0 : Int32} {t8_1 : Int32} {t9_0 : (Nat → Int32)} {t10_0 : Int32} {t10_1 : Int32} {t11_0 : (Nat → Int32)} {t12_0 : Int32} {t12_1 : Int32} {t13_0 : (Nat → Int32)} {t14_0 : Int32} {t14_1 : Int32} {t15_0 : (Nat → Int32)} {t16_0 : Int32} {t16_1 : Int32} {t17_0 : (Nat → Int32)} {lx73 : Int32} (hl : lx73 = 0) : (F_NH_wholeBy_J29 x2 x3 x4 x5 t0_0 t0_1 t1_0 t2_0 t2_1 t3_0 t4_0 t4_1 t5_0 t6_0 t6_1 t7_0 t8_0 t8_1 t9_0 t10_0 t10_1 t11_0 t12_0 t12_1 t13_0 t14_0 t14_1 t15_0 t16_0 t16_1 t17_0 lx73).1 = 1 ∧ (F_NH_wholeBy_J29 x2 x3 x4 x5 t0_0 t0_1 t1_0 t2_0 t2_1 t3_0 t4_0 t4_1 t5_0 t6_0 t6_1 t7_0 t8_0 t8_1 t9_0 t10_0 t10_1 t11_0 t12_0 t12_1 t13_0 t14_0 t14_1 t15_0 t16_0 t16_1 t17_0 lx73).2.2.2.2.2.2.2.2.2.2.2.2.2.2.2.2.2.2.2.2.2.2.1 = t16_0 ∧ (F_NH_wholeBy_J29 x2 x3 x4 x5 t0_0 t0_1 t1_0 t2_0 t2_1 t3_0 t4_0 t4_1 t5_0 t6_0 t6_1 t7_0 t8_0 t8_1 t9_0 t10_0 t10_1 t11_0 t12_0 t12_1 t13_0 t14_0 t14_1 t15_0 t16_0 t16_1 t17_0 lx73).2.2.2.2.2.2.2.2.2.2.2.2.2.2.2.2.2.2.2.2.2.2.2.1 = t16_1 ∧ (F_NH_wholeBy_J29 x2 x3 x4 x5 t0_0 t0_1 t1_0 t2_0 t2_1 t3_0 t4_0 t4_1 t5_0 t6_0 t6_1 t7_0 t8_0 t8_1 t9_0 t10_0 t10_1 t11_0 t12_0 t12_1 t13_0 t14_0 t14_1 t15_0 t16_0 t16_1 t17_0 lx73).2.2.2.2.2.2.2.2.2.2.2.2.2.2.2.2.2.2.2.2.2.2.2.2 = t17_0 := by
  unfold F_NH_wholeBy_J29
  rw [hl, if_neg (show ¬ F_NH_need 0 = 0 by decide)]
  exact ⟨by show F_NH_need 0 = 1; decide, rfl, rfl, rfl⟩
theorem y_wb45 {x2 : Int32} {x3 : Int32} {x4 : Int32} {x5 : Int32} {t0_0 : Int32} {t0_1 : Int32} {t1_0 : (Nat → Int32)} {t2_0 : Int32} {t2_1 : Int32} {t3_0 : (Nat → Int32)} {t4_0 : Int32} {t4_1 : Int32} {t5_0 : (Nat → Int32)} {t6_0 : Int32} {t6_1 : Int32} {t7_0 : (Nat → Int32)} {t8_0 : Int32} {t8_1 : Int32} {t9_0 : (Nat → Int32)} {t10_0 : Int32} {t10_1 : Int32} {t11_0 : (Nat → Int32)} {t12_0 : Int32} {t12_1 : Int32} {t13_0 : (Nat → Int32)} {t14_0 : Int32} {t14_1 : Int32} {t15_0 : (Nat → Int32)} {t16_0 : Int32} {t16_1 : Int32} {t17_0 : (Nat → Int32)} {lx73 : Int32} {lx109 : Int32} {va vt : Int} (ha : bO 68 t14_0 t14_1 t15_0 va) (hA : bB 67 va) (ht : bO 68 t16_0 t16_1 t17_0 vt) (h0 : x2 = 0 → 0 ≤ x4.toInt) (hl : lx109 = 1) : ((x2 = 1 → 1 ≤ x4.toInt ∧ x4.toInt ≤ 64) ∧ cAn (sWB x2 va x4.toInt) vt (F_NH_wholeBy_J45 x2 x3 x4 x5 t0_0 t0_1 t1_0 t2_0 t2_1 t3_0 t4_0 t4_1 t5_0 t6_0 t6_1 t7_0 t8_0 t8_1 t9_0 t10_0 t10_1 t11_0 t12_0 t12_1 t13_0 t14_0 t14_1 t15_0 t16_0 t16_1 t17_0 lx73 lx109).1 (F_NH_wholeBy_J45 x2 x3 x4 x5 t0_0 t0_1 t1_0 t2_0 t2_1 t3_0 t4_0 t4_1 t5_0 t6_0 t6_1 t7_0 t8_0 t8_1 t9_0 t10_0 t10_1 t11_0 t12_0 t12_1 t13_0 t14_0 t14_1 t15_0 t16_0 t16_1 t17_0 lx73 lx109).2.2.2.2.2.2.2.2.2.2.2.2.2.2.2.2.2.2.2.2.2.2.1 (F_NH_wholeBy_J45 x2 x3 x4 x5 t0_0 t0_1 t1_0 t2_0 t2_1 t3_0 t4_0 t4_1 t5_0 t6_0 t6_1 t7_0 t8_0 t8_1 t9_0 t10_0 t10_1 t11_0 t12_0 t12_1 t13_0 t14_0 t14_1 t15_0 t16_0 t16_1 t17_0 lx73 lx109).2.2.2.2.2.2.2.2.2.2.2.2.2.2.2.2.2.2.2.2.2.2.2.1 (F_NH_wholeBy_J45 x2 x3 x4 x5 t0_0 t0_1 t1_0 t2_0 t2_1 t3_0 t4_0 t4_1 t5_0 t6_0 t6_1 t7_0 t8_0 t8_1 t9_0 t10_0 t10_1 t11_0 t12_0 t12_1 t13_0 t14_0 t14_1 t15_0 t16_0 t16_1 t17_0 lx73 lx109).2.2.2.2.2.2.2.2.2.2.2.2.2.2.2.2.2.2.2.2.2.2.2.2) ∨ (¬ (x2 = 1 → 1 ≤ x4.toInt ∧ x4.toInt ≤ 64) ∧ (F_NH_wholeBy_J45 x2 x3 x4 x5 t0_0 t0_1 t1_0 t2_0 t2_1 t3_0 t4_0 t4_1 t5_0 t6_0 t6_1 t7_0 t8_0 t8_1 t9_0 t10_0 t10_1 t11_0 t12_0 t12_1 t13_0 t14_0 t14_1 t15_0 t16_0 t16_1 t17_0 lx73 lx109).1 = 1 ∧ (F_NH_wholeBy_J45 x2 x3 x4 x5 t0_0 t0_1 t1_0 t2_0 t2_1 t3_0 t4_0 t4_1 t5_0 t6_0 t6_1 t7_0 t8_0 t8_1 t9_0 t10_0 t10_1 t11_0 t12_0 t12_1 t13_0 t14_0 t14_1 t15_0 t16_0 t16_1 t17_0 lx73 lx109).2.2.2.2.2.2.2.2.2.2.2.2.2.2.2.2.2.2.2.2.2.2.1 = t16_0 ∧ (F_NH_wholeBy_J45 x2 x3 x4 x5 t0_0 t0_1 t1_0 t2_0 t2_1 t3_0 t4_0 t4_1 t5_0 t6_0 t6_1 t7_0 t8_0 t8_1 t9_0 t10_0 t10_1 t11_0 t12_0 t12_1 t13_0 t14_0 t14_1 t15_0 t16_0 t16_1 t17_0 lx73 lx109).2.2.2.2.2.2.2.2.2.2.2.2.2.2.2.2.2.2.2.2.2.2.2.1 = t16_1 ∧ (F_NH_wholeBy_J45 x2 x3 x4 x5 t0_0 t0_1 t1_0 t2_0 t2_1 t3_0 t4_0 t4_1 t5_0 t6_0 t6_1 t7_0 t8_0 t8_1 t9_0 t10_0 t10_1 t11_0 t12_0 t12_1 t13_0 t14_0 t14_1 t15_0 t16_0 t16_1 t17_0 lx73 lx109).2.2.2.2.2.2.2.2.2.2.2.2.2.2.2.2.2.2.2.2.2.2.2.2 = t17_0) := by
  have e1 : (1 : Int32).toInt = 1 := rfl
  have e64 : (64 : Int32).toInt = 64 := rfl
  unfold F_NH_wholeBy_J45
  rw [hl, if_pos (show F_NH_need 1 = 0 by decide)]
  by_cases c1 : x2 = 1
  · rw [if_pos c1]
    by_cases c2 : x4 < 1
    · rw [if_pos c2]
      have c2 := q_ltI c2
      refine Or.inr ⟨fun h => by have := h c1; omega, ?_⟩
      unfold F_NH_wholeBy_J68
      exact y_wb69n rfl
    · rw [if_neg c2]
      have c2 := q_nltI c2
      by_cases c3 : (64 : Int32) < x4
      · rw [if_pos c3]
        have c3 := q_ltI c3
        refine Or.inr ⟨fun h => by have := h c1; omega, ?_⟩
        unfold F_NH_wholeBy_J68
        exact y_wb69n rfl
      · rw [if_neg c3]
        have c3 := q_nltI c3
        have hr : x2 = 1 → 1 ≤ x4.toInt ∧ x4.toInt ≤ 64 := fun _ => ⟨by omega, by omega⟩
        refine Or.inl ⟨hr, ?_⟩
        unfold F_NH_wholeBy_J64
        exact V_wbJ69 ha hA ht h0 hr rfl
  · rw [if_neg c1]
    have hr : x2 = 1 → 1 ≤ x4.toInt ∧ x4.toInt ≤ 64 := fun c => absurd c c1
    refine Or.inl ⟨hr, ?_⟩
    unfold F_NH_wholeBy_J64
    exact V_wbJ69 ha hA ht h0 hr rfl
theorem y_wb29 {x2 : Int32} {x3 : Int32} {x4 : Int32} {x5 : Int32} {t0_0 : Int32} {t0_1 : Int32} {t1_0 : (Nat → Int32)} {t2_0 : Int32} {t2_1 : Int32} {t3_0 : (Nat → Int32)} {t4_0 : Int32} {t4_1 : Int32} {t5_0 : (Nat → Int32)} {t6_0 : Int32} {t6_1 : Int32} {t7_0 : (Nat → Int32)} {t8_0 : Int32} {t8_1 : Int32} {t9_0 : (Nat → Int32)} {t10_0 : Int32} {t10_1 : Int32} {t11_0 : (Nat → Int32)} {t12_0 : Int32} {t12_1 : Int32} {t13_0 : (Nat → Int32)} {t14_0 : Int32} {t14_1 : Int32} {t15_0 : (Nat → Int32)} {t16_0 : Int32} {t16_1 : Int32} {t17_0 : (Nat → Int32)} {lx73 : Int32} {va vt : Int} (ha : bO 68 t14_0 t14_1 t15_0 va) (hA : bB 67 va) (ht : bO 68 t16_0 t16_1 t17_0 vt) (hl : lx73 = 1) : (yWbOk x2 x4 ∧ cAn (sWB x2 va x4.toInt) vt (F_NH_wholeBy_J29 x2 x3 x4 x5 t0_0 t0_1 t1_0 t2_0 t2_1 t3_0 t4_0 t4_1 t5_0 t6_0 t6_1 t7_0 t8_0 t8_1 t9_0 t10_0 t10_1 t11_0 t12_0 t12_1 t13_0 t14_0 t14_1 t15_0 t16_0 t16_1 t17_0 lx73).1 (F_NH_wholeBy_J29 x2 x3 x4 x5 t0_0 t0_1 t1_0 t2_0 t2_1 t3_0 t4_0 t4_1 t5_0 t6_0 t6_1 t7_0 t8_0 t8_1 t9_0 t10_0 t10_1 t11_0 t12_0 t12_1 t13_0 t14_0 t14_1 t15_0 t16_0 t16_1 t17_0 lx73).2.2.2.2.2.2.2.2.2.2.2.2.2.2.2.2.2.2.2.2.2.2.1 (F_NH_wholeBy_J29 x2 x3 x4 x5 t0_0 t0_1 t1_0 t2_0 t2_1 t3_0 t4_0 t4_1 t5_0 t6_0 t6_1 t7_0 t8_0 t8_1 t9_0 t10_0 t10_1 t11_0 t12_0 t12_1 t13_0 t14_0 t14_1 t15_0 t16_0 t16_1 t17_0 lx73).2.2.2.2.2.2.2.2.2.2.2.2.2.2.2.2.2.2.2.2.2.2.2.1 (F_NH_wholeBy_J29 x2 x3 x4 x5 t0_0 t0_1 t1_0 t2_0 t2_1 t3_0 t4_0 t4_1 t5_0 t6_0 t6_1 t7_0 t8_0 t8_1 t9_0 t10_0 t10_1 t11_0 t12_0 t12_1 t13_0 t14_0 t14_1 t15_0 t16_0 t16_1 t17_0 lx73).2.2.2.2.2.2.2.2.2.2.2.2.2.2.2.2.2.2.2.2.2.2.2.2) ∨ (¬ yWbOk x2 x4 ∧ (F_NH_wholeBy_J29 x2 x3 x4 x5 t0_0 t0_1 t1_0 t2_0 t2_1 t3_0 t4_0 t4_1 t5_0 t6_0 t6_1 t7_0 t8_0 t8_1 t9_0 t10_0 t10_1 t11_0 t12_0 t12_1 t13_0 t14_0 t14_1 t15_0 t16_0 t16_1 t17_0 lx73).1 = 1 ∧ (F_NH_wholeBy_J29 x2 x3 x4 x5 t0_0 t0_1 t1_0 t2_0 t2_1 t3_0 t4_0 t4_1 t5_0 t6_0 t6_1 t7_0 t8_0 t8_1 t9_0 t10_0 t10_1 t11_0 t12_0 t12_1 t13_0 t14_0 t14_1 t15_0 t16_0 t16_1 t17_0 lx73).2.2.2.2.2.2.2.2.2.2.2.2.2.2.2.2.2.2.2.2.2.2.1 = t16_0 ∧ (F_NH_wholeBy_J29 x2 x3 x4 x5 t0_0 t0_1 t1_0 t2_0 t2_1 t3_0 t4_0 t4_1 t5_0 t6_0 t6_1 t7_0 t8_0 t8_1 t9_0 t10_0 t10_1 t11_0 t12_0 t12_1 t13_0 t14_0 t14_1 t15_0 t16_0 t16_1 t17_0 lx73).2.2.2.2.2.2.2.2.2.2.2.2.2.2.2.2.2.2.2.2.2.2.2.1 = t16_1 ∧ (F_NH_wholeBy_J29 x2 x3 x4 x5 t0_0 t0_1 t1_0 t2_0 t2_1 t3_0 t4_0 t4_1 t5_0 t6_0 t6_1 t7_0 t8_0 t8_1 t9_0 t10_0 t10_1 t11_0 t12_0 t12_1 t13_0 t14_0 t14_1 t15_0 t16_0 t16_1 t17_0 lx73).2.2.2.2.2.2.2.2.2.2.2.2.2.2.2.2.2.2.2.2.2.2.2.2 = t17_0) := by
  have e0 : (0 : Int32).toInt = 0 := rfl
  unfold F_NH_wholeBy_J29
  rw [hl, if_pos (show F_NH_need 1 = 0 by decide)]
  by_cases c1 : x2 = 0
  · rw [if_pos c1]
    by_cases c2 : x4 < 0
    · rw [if_pos c2]
      have c2 := q_ltI c2
      refine Or.inr ⟨fun h => by have := h.1 c1; omega, ?_⟩
      exact y_wb45n rfl
    · rw [if_neg c2]
      have c2 := q_nltI c2
      unfold F_NH_wholeBy_J40
      rcases y_wb45 ha hA ht (fun _ => (by omega : 0 ≤ x4.toInt)) rfl with ⟨h, k⟩ | ⟨h, k⟩
      · exact Or.inl ⟨⟨fun _ => by omega, h⟩, k⟩
      · exact Or.inr ⟨fun g => h g.2, k⟩
  · rw [if_neg c1]
    unfold F_NH_wholeBy_J40
    rcases y_wb45 ha hA ht (fun c => absurd c c1) rfl with ⟨h, k⟩ | ⟨h, k⟩
    · exact Or.inl ⟨⟨fun c => absurd c c1, h⟩, k⟩
    · exact Or.inr ⟨fun g => h g.2, k⟩
theorem y_x012 {x : Int32} (c1 : 0 ≤ x.toInt) (c2 : x.toInt ≤ 2) : x = 0 ∨ x = 1 ∨ x = 2 := by
  have e0 : (0 : Int32).toInt = 0 := rfl
  have e1 : (1 : Int32).toInt = 1 := rfl
  have e2 : (2 : Int32).toInt = 2 := rfl
  have : x.toInt = 0 ∨ x.toInt = 1 ∨ x.toInt = 2 := by omega
  rcases this with h | h | h
  · exact Or.inl (Int32.toInt.inj (by rw [h, e0]))
  · exact Or.inr (Or.inl (Int32.toInt.inj (by rw [h, e1])))
  · exact Or.inr (Or.inr (Int32.toInt.inj (by rw [h, e2])))
theorem y_x012n {x : Int32} (c : x.toInt < 0 ∨ 2 < x.toInt) : ¬ (x = 0 ∨ x = 1 ∨ x = 2) := by
  have e0 : (0 : Int32).toInt = 0 := rfl
  have e1 : (1 : Int32).toInt = 1 := rfl
  have e2 : (2 : Int32).toInt = 2 := rfl
  rintro (h | h | h) <;> rw [h] at c <;> omega
theorem V_NH_wholeBy {x2 : Int32} {x3 : Int32} {x4 : Int32} {x5 : Int32} {t0_0 : Int32} {t0_1 : Int32} {t1_0 : (Nat → Int32)} {t2_0 : Int32} {t2_1 : Int32} {t3_0 : (Nat → Int32)} {t4_0 : Int32} {t4_1 : Int32} {t5_0 : (Nat → Int32)} {t6_0 : Int32} {t6_1 : Int32} {t7_0 : (Nat → Int32)} {t8_0 : Int32} {t8_1 : Int32} {t9_0 : (Nat → Int32)} {t10_0 : Int32} {t10_1 : Int32} {t11_0 : (Nat → Int32)} {t12_0 : Int32} {t12_1 : Int32} {t13_0 : (Nat → Int32)} {t14_0 : Int32} {t14_1 : Int32} {t15_0 : (Nat → Int32)} {t16_0 : Int32} {t16_1 : Int32} {t17_0 : (Nat → Int32)} {va vt : Int} (ha : bO 68 t14_0 t14_1 t15_0 va) (hA : bB 67 va) (ht : bO 68 t16_0 t16_1 t17_0 vt) : (((x2 = 0 ∨ x2 = 1 ∨ x2 = 2) ∧ yReg x3 ∧ yReg x5 ∧ yWbOk x2 x4) ∧ cAn (sWB x2 va x4.toInt) vt (F_NH_wholeBy x2 x3 x4 x5 t0_0 t0_1 t1_0 t2_0 t2_1 t3_0 t4_0 t4_1 t5_0 t6_0 t6_1 t7_0 t8_0 t8_1 t9_0 t10_0 t10_1 t11_0 t12_0 t12_1 t13_0 t14_0 t14_1 t15_0 t16_0 t16_1 t17_0).1 (F_NH_wholeBy x2 x3 x4 x5 t0_0 t0_1 t1_0 t2_0 t2_1 t3_0 t4_0 t4_1 t5_0 t6_0 t6_1 t7_0 t8_0 t8_1 t9_0 t10_0 t10_1 t11_0 t12_0 t12_1 t13_0 t14_0 t14_1 t15_0 t16_0 t16_1 t17_0).2.2.2.2.2.2.2.2.2.2.2.2.2.2.2.2.2.2.2.2.2.2.1 (F_NH_wholeBy x2 x3 x4 x5 t0_0 t0_1 t1_0 t2_0 t2_1 t3_0 t4_0 t4_1 t5_0 t6_0 t6_1 t7_0 t8_0 t8_1 t9_0 t10_0 t10_1 t11_0 t12_0 t12_1 t13_0 t14_0 t14_1 t15_0 t16_0 t16_1 t17_0).2.2.2.2.2.2.2.2.2.2.2.2.2.2.2.2.2.2.2.2.2.2.2.1 (F_NH_wholeBy x2 x3 x4 x5 t0_0 t0_1 t1_0 t2_0 t2_1 t3_0 t4_0 t4_1 t5_0 t6_0 t6_1 t7_0 t8_0 t8_1 t9_0 t10_0 t10_1 t11_0 t12_0 t12_1 t13_0 t14_0 t14_1 t15_0 t16_0 t16_1 t17_0).2.2.2.2.2.2.2.2.2.2.2.2.2.2.2.2.2.2.2.2.2.2.2.2) ∨ (¬ ((x2 = 0 ∨ x2 = 1 ∨ x2 = 2) ∧ yReg x3 ∧ yReg x5 ∧ yWbOk x2 x4) ∧ (F_NH_wholeBy x2 x3 x4 x5 t0_0 t0_1 t1_0 t2_0 t2_1 t3_0 t4_0 t4_1 t5_0 t6_0 t6_1 t7_0 t8_0 t8_1 t9_0 t10_0 t10_1 t11_0 t12_0 t12_1 t13_0 t14_0 t14_1 t15_0 t16_0 t16_1 t17_0).1 = 1 ∧ (F_NH_wholeBy x2 x3 x4 x5 t0_0 t0_1 t1_0 t2_0 t2_1 t3_0 t4_0 t4_1 t5_0 t6_0 t6_1 t7_0 t8_0 t8_1 t9_0 t10_0 t10_1 t11_0 t12_0 t12_1 t13_0 t14_0 t14_1 t15_0 t16_0 t16_1 t17_0).2.2.2.2.2.2.2.2.2.2.2.2.2.2.2.2.2.2.2.2.2.2.1 = t16_0 ∧ (F_NH_wholeBy x2 x3 x4 x5 t0_0 t0_1 t1_0 t2_0 t2_1 t3_0 t4_0 t4_1 t5_0 t6_0 t6_1 t7_0 t8_0 t8_1 t9_0 t10_0 t10_1 t11_0 t12_0 t12_1 t13_0 t14_0 t14_1 t15_0 t16_0 t16_1 t17_0).2.2.2.2.2.2.2.2.2.2.2.2.2.2.2.2.2.2.2.2.2.2.2.1 = t16_1 ∧ (F_NH_wholeBy x2 x3 x4 x5 t0_0 t0_1 t1_0 t2_0 t2_1 t3_0 t4_0 t4_1 t5_0 t6_0 t6_1 t7_0 t8_0 t8_1 t9_0 t10_0 t10_1 t11_0 t12_0 t12_1 t13_0 t14_0 t14_1 t15_0 t16_0 t16_1 t17_0).2.2.2.2.2.2.2.2.2.2.2.2.2.2.2.2.2.2.2.2.2.2.2.2 = t17_0) := by
  have e0 : (0 : Int32).toInt = 0 := rfl
  have e2 : (2 : Int32).toInt = 2 := rfl
  unfold F_NH_wholeBy
  by_cases c1 : x2 < 0
  · rw [if_pos c1]
    refine Or.inr ⟨fun h => y_x012n (Or.inl (by have := q_ltI c1; omega)) h.1, ?_⟩
    unfold F_NH_wholeBy_J28
    exact y_wb29n rfl
  · rw [if_neg c1]
    by_cases c2 : (2 : Int32) < x2
    · rw [if_pos c2]
      refine Or.inr ⟨fun h => y_x012n (Or.inr (by have := q_ltI c2; omega)) h.1, ?_⟩
      unfold F_NH_wholeBy_J28
      exact y_wb29n rfl
    · rw [if_neg c2]
      have h2 := y_x012 (x := x2) (by have := q_nltI c1; omega) (by have := q_nltI c2; omega)
      rcases y_isR (x := x3) with ⟨r, d⟩ | ⟨r, d⟩
      · rw [if_pos r]
        refine Or.inr ⟨fun h => d h.2.1, ?_⟩
        unfold F_NH_wholeBy_J28
        exact y_wb29n rfl
      · rw [if_neg (show ¬ F_NH_isRegister x3 = 0 by rw [r]; decide)]
        rcases y_isR (x := x5) with ⟨r, g⟩ | ⟨r, g⟩
        · rw [if_pos r]
          refine Or.inr ⟨fun h => g h.2.2.1, ?_⟩
          unfold F_NH_wholeBy_J28
          exact y_wb29n rfl
        · rw [if_neg (show ¬ F_NH_isRegister x5 = 0 by rw [r]; decide)]
          rcases y_wb29 ha hA ht rfl with ⟨h, k⟩ | ⟨h, k⟩
          · exact Or.inl ⟨⟨h2, d, g, h⟩, k⟩
          · exact Or.inr ⟨fun q => h q.2.2.2, k⟩
