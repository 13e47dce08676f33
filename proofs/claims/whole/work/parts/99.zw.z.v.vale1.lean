/-! values, for whole: print of the class -/
def yPrOk (x2 x3 x4 : Int32) : Prop := ((0 ≤ x2.toInt ∧ x2.toInt ≤ 3) ∧ yReg x3) ∧ ((x2.toInt = 0 ∧ 2 ≤ x4.toInt ∧ x4.toInt ≤ 36) ∨ (x2.toInt = 1 ∧ 0 ≤ x4.toInt ∧ x4.toInt ≤ 2) ∨ (2 ≤ x2.toInt ∧ 0 ≤ x4.toInt ∧ x4.toInt ≤ 1))
/-- t is the text of the register that print is asked for -/
def yPrT (x2 x4 : Int32) (v : Int) (q : Int × Int) (wd nr : Nat) (t : List Nat) : Prop := (x2.toInt = 0 → ∃ b c : Nat, x4.toInt = (b : Int) ∧ yDB b v.natAbs c ∧ t = yWtx b v c) ∧ (x2.toInt = 1 → ∃ c : Nat, vG q.1 c ∧ t = yDtx x4 q.1 q.2 c) ∧ (x2.toInt = 2 → (x4.toInt = 0 → yFtxt 52 2047 (-1074) wd t) ∧ (x4.toInt = 1 → t = yHtxt 52 2047 (-1074) wd)) ∧ (x2.toInt = 3 → (x4.toInt = 0 → yFtxt 23 255 (-149) nr t) ∧ (x4.toInt = 1 → t = yHtxt 23 255 (-149) nr))
theorem V_NH_print {x2 : Int32} {x3 : Int32} {x4 : Int32} {t0_0 : Int32} {t1_0 : (Nat → Int64)} {t2_0 : Int32} {t2_1 : Int32} {t3_0 : (Nat → Int32)} {t4_0 : Int32} {t4_1 : Int32} {t5_0 : (Nat → Int32)} {t6_0 : (Nat → Int64)} {t7_0 : (Nat → Int64)} {t8_0 : Int32} {t8_1 : Int32} {t9_0 : (Nat → Int32)} {t10_0 : Int32} {t10_1 : Int32} {t11_0 : (Nat → Int32)} {t12_0 : Int32} {t12_1 : Int32} {t13_0 : (Nat → Int32)} {t14_0 : Int32} {t14_1 : Int32} {t15_0 : (Nat → Int32)} {t16_0 : Int64} {t16_1 : Int32} {t16_2 : Int32} {t17_0 : Int64} {t17_1 : Int32} {t17_2 : Int32} {t18_0 : Int32} {t18_1 : Int32} {t19_0 : (Nat → Int32)} {t20_0 : Int32} {t20_1 : Int32} {t21_0 : Int32} {t21_1 : Int32} {t22_0 : (Nat → Int32)} {vt : Int} {qt : Int × Int} (hw : bO 68 t18_0 t18_1 t19_0 vt) (hN : vt.natAbs < 2 ^ 2048) (hd : dP 108 t21_0 t21_1 t22_0 t20_0 t20_1 qt) : (yPrOk x2 x3 x4 ∧ (F_NH_print x2 x3 x4 t0_0 t1_0 t2_0 t2_1 t3_0 t4_0 t4_1 t5_0 t6_0 t7_0 t8_0 t8_1 t9_0 t10_0 t10_1 t11_0 t12_0 t12_1 t13_0 t14_0 t14_1 t15_0 t16_0 t16_1 t16_2 t17_0 t17_1 t17_2 t18_0 t18_1 t19_0 t20_0 t20_1 t21_0 t21_1 t22_0).1 = 0 ∧ (F_NH_print x2 x3 x4 t0_0 t1_0 t2_0 t2_1 t3_0 t4_0 t4_1 t5_0 t6_0 t7_0 t8_0 t8_1 t9_0 t10_0 t10_1 t11_0 t12_0 t12_1 t13_0 t14_0 t14_1 t15_0 t16_0 t16_1 t16_2 t17_0 t17_1 t17_2 t18_0 t18_1 t19_0 t20_0 t20_1 t21_0 t21_1 t22_0).2.1 = (F_NH_print x2 x3 x4 t0_0 t1_0 t2_0 t2_1 t3_0 t4_0 t4_1 t5_0 t6_0 t7_0 t8_0 t8_1 t9_0 t10_0 t10_1 t11_0 t12_0 t12_1 t13_0 t14_0 t14_1 t15_0 t16_0 t16_1 t16_2 t17_0 t17_1 t17_2 t18_0 t18_1 t19_0 t20_0 t20_1 t21_0 t21_1 t22_0).2.2.1 ∧ ∀ t, yPrT x2 x4 vt qt (yu (t6_0 x3.toNatClampNeg)) (yu (t7_0 x3.toNatClampNeg)) t → yPa (F_NH_print x2 x3 x4 t0_0 t1_0 t2_0 t2_1 t3_0 t4_0 t4_1 t5_0 t6_0 t7_0 t8_0 t8_1 t9_0 t10_0 t10_1 t11_0 t12_0 t12_1 t13_0 t14_0 t14_1 t15_0 t16_0 t16_1 t16_2 t17_0 t17_1 t17_2 t18_0 t18_1 t19_0 t20_0 t20_1 t21_0 t21_1 t22_0).2.2.1 (F_NH_print x2 x3 x4 t0_0 t1_0 t2_0 t2_1 t3_0 t4_0 t4_1 t5_0 t6_0 t7_0 t8_0 t8_1 t9_0 t10_0 t10_1 t11_0 t12_0 t12_1 t13_0 t14_0 t14_1 t15_0 t16_0 t16_1 t16_2 t17_0 t17_1 t17_2 t18_0 t18_1 t19_0 t20_0 t20_1 t21_0 t21_1 t22_0).2.2.2.1 t) ∨ (¬ yPrOk x2 x3 x4 ∧ (F_NH_print x2 x3 x4 t0_0 t1_0 t2_0 t2_1 t3_0 t4_0 t4_1 t5_0 t6_0 t7_0 t8_0 t8_1 t9_0 t10_0 t10_1 t11_0 t12_0 t12_1 t13_0 t14_0 t14_1 t15_0 t16_0 t16_1 t16_2 t17_0 t17_1 t17_2 t18_0 t18_1 t19_0 t20_0 t20_1 t21_0 t21_1 t22_0).1 = 1 ∧ (F_NH_print x2 x3 x4 t0_0 t1_0 t2_0 t2_1 t3_0 t4_0 t4_1 t5_0 t6_0 t7_0 t8_0 t8_1 t9_0 t10_0 t10_1 t11_0 t12_0 t12_1 t13_0 t14_0 t14_1 t15_0 t16_0 t16_1 t16_2 t17_0 t17_1 t17_2 t18_0 t18_1 t19_0 t20_0 t20_1 t21_0 t21_1 t22_0).2.2.1 = t0_0 ∧ (F_NH_print x2 x3 x4 t0_0 t1_0 t2_0 t2_1 t3_0 t4_0 t4_1 t5_0 t6_0 t7_0 t8_0 t8_1 t9_0 t10_0 t10_1 t11_0 t12_0 t12_1 t13_0 t14_0 t14_1 t15_0 t16_0 t16_1 t16_2 t17_0 t17_1 t17_2 t18_0 t18_1 t19_0 t20_0 t20_1 t21_0 t21_1 t22_0).2.2.2.1 = t1_0) := by
  have e0 : (0 : Int32).toInt = 0 := rfl
  have e1 : (1 : Int32).toInt = 1 := rfl
  have e2 : (2 : Int32).toInt = 2 := rfl
  have e36 : (36 : Int32).toInt = 36 := rfl
  have n0 : F_NH_need 0 = 1 := by decide
  have n1 : F_NH_need 1 = 0 := by decide
  have f64 : yF 52 1075 2047 52 2047 (-1074) := Or.inl ⟨rfl, rfl, rfl, rfl, rfl, rfl⟩
  have f32 : yF 23 150 255 23 255 (-149) := Or.inr ⟨rfl, rfl, rfl, rfl, rfl, rfl⟩
  unfold F_NH_print
  rcases y_needR (x := x2) (y := x3) with ⟨g, k⟩ | ⟨g, k⟩
  · rw [if_pos g]
    by_cases x0 : x2 = 0
    · have x0i : x2.toInt = 0 := by rw [x0]; rfl
      rw [if_pos x0]
      have bad : ¬ (2 ≤ x4.toInt ∧ x4.toInt ≤ 36) → ∀ r, r = F_NH_print_J24 x2 x3 x4 t0_0 t1_0 t2_0 t2_1 t3_0 t4_0 t4_1 t5_0 t6_0 t7_0 t8_0 t8_1 t9_0 t10_0 t10_1 t11_0 t12_0 t12_1 t13_0 t14_0 t14_1 t15_0 t16_0 t16_1 t16_2 t17_0 t17_1 t17_2 t18_0 t18_1 t19_0 t20_0 t20_1 t21_0 t21_1 t22_0 → ¬ yPrOk x2 x3 x4 ∧ r.1 = 1 ∧ r.2.2.1 = t0_0 ∧ r.2.2.2.1 = t1_0 := by
        intro b r hr
        rw [hr]
        unfold F_NH_print_J24 F_NH_print_J25
        rw [n0, if_neg (by decide : ¬ (1 : Int32) = 0)]
        exact ⟨fun q => by obtain ⟨_, q⟩ := q; omega, rfl, rfl, rfl⟩
      by_cases a : x4 < 2
      · rw [if_pos a]
        have a := q_ltI a
        exact Or.inr (bad (fun q => by omega) _ rfl)
      · rw [if_neg a]
        have a := q_nltI a
        by_cases b : 36 < x4
        · rw [if_pos b]
          have b := q_ltI b
          exact Or.inr (bad (fun q => by omega) _ rfl)
        · rw [if_neg b]
          have b := q_nltI b
          refine Or.inl ⟨⟨k, Or.inl ⟨x0i, by omega, by omega⟩⟩, ?_⟩
          unfold F_NH_print_J25
          rw [n1, if_pos (rfl : (0 : Int32) = 0)]
          unfold F_NH_print_c39
          refine ⟨rfl, rfl, fun t ht => ?_⟩
          obtain ⟨bb, c, t1, t2, rfl⟩ := ht.1 x0i
          exact V_Wwhole hw (by decide) t1 (by omega) hN t2
    · rw [if_neg x0]
      have x0i : x2.toInt ≠ 0 := fun q => x0 (Int32.toInt_inj.mp q)
      by_cases x1 : x2 = 1
      · have x1i : x2.toInt = 1 := by rw [x1]; rfl
        rw [if_pos x1]
        have bad : ¬ (0 ≤ x4.toInt ∧ x4.toInt ≤ 2) → ∀ r, r = F_NH_print_J63 x2 x3 x4 t0_0 t1_0 t2_0 t2_1 t3_0 t4_0 t4_1 t5_0 t6_0 t7_0 t8_0 t8_1 t9_0 t10_0 t10_1 t11_0 t12_0 t12_1 t13_0 t14_0 t14_1 t15_0 t16_0 t16_1 t16_2 t17_0 t17_1 t17_2 t18_0 t18_1 t19_0 t20_0 t20_1 t21_0 t21_1 t22_0 → ¬ yPrOk x2 x3 x4 ∧ r.1 = 1 ∧ r.2.2.1 = t0_0 ∧ r.2.2.2.1 = t1_0 := by
          intro b r hr
          rw [hr]
          unfold F_NH_print_J63 F_NH_print_J64
          rw [n0, if_neg (by decide : ¬ (1 : Int32) = 0)]
          exact ⟨fun q => by obtain ⟨_, q⟩ := q; omega, rfl, rfl, rfl⟩
        by_cases a : x4 < 0
        · rw [if_pos a]
          have a := q_ltI a
          exact Or.inr (bad (fun q => by omega) _ rfl)
        · rw [if_neg a]
          have a := q_nltI a
          by_cases b : 2 < x4
          · rw [if_pos b]
            have b := q_ltI b
            exact Or.inr (bad (fun q => by omega) _ rfl)
          · rw [if_neg b]
            have b := q_nltI b
            refine Or.inl ⟨⟨k, Or.inr (Or.inl ⟨x1i, by omega, by omega⟩)⟩, ?_⟩
            unfold F_NH_print_J64
            rw [n1, if_pos (rfl : (0 : Int32) = 0)]
            unfold F_NH_print_c78
            refine ⟨rfl, rfl, fun t ht => ?_⟩
            obtain ⟨c, t2, rfl⟩ := ht.2.1 x1i
            exact V_Wdec hd rfl t2
      · rw [if_neg x1]
        have x1i : x2.toInt ≠ 1 := fun q => x1 (Int32.toInt_inj.mp q)
        have bad : ¬ (0 ≤ x4.toInt ∧ x4.toInt ≤ 1) → ∀ r, r = F_NH_print_J97 x2 x3 x4 t0_0 t1_0 t2_0 t2_1 t3_0 t4_0 t4_1 t5_0 t6_0 t7_0 t8_0 t8_1 t9_0 t10_0 t10_1 t11_0 t12_0 t12_1 t13_0 t14_0 t14_1 t15_0 t16_0 t16_1 t16_2 t17_0 t17_1 t17_2 t18_0 t18_1 t19_0 t20_0 t20_1 t21_0 t21_1 t22_0 → ¬ yPrOk x2 x3 x4 ∧ r.1 = 1 ∧ r.2.2.1 = t0_0 ∧ r.2.2.2.1 = t1_0 := by
          intro b r hr
          rw [hr]
          unfold F_NH_print_J97 F_NH_print_J98
          rw [n0, if_neg (by decide : ¬ (1 : Int32) = 0)]
          exact ⟨fun q => by obtain ⟨_, q⟩ := q; omega, rfl, rfl, rfl⟩
        by_cases a : x4 < 0
        · rw [if_pos a]
          have a := q_ltI a
          exact Or.inr (bad (fun q => by omega) _ rfl)
        · rw [if_neg a]
          have a := q_nltI a
          by_cases b : 1 < x4
          · rw [if_pos b]
            have b := q_ltI b
            exact Or.inr (bad (fun q => by omega) _ rfl)
          · rw [if_neg b]
            have b := q_nltI b
            refine Or.inl ⟨⟨k, Or.inr (Or.inr ⟨by omega, by omega, by omega⟩)⟩, ?_⟩
            unfold F_NH_print_J98
            rw [n1, if_pos (rfl : (0 : Int32) = 0)]
            by_cases x2' : x2 = 2
            · have x2i : x2.toInt = 2 := by rw [x2']; rfl
              rw [if_pos x2', if_pos x2']
              by_cases f : x4 = 1
              · have fi : x4.toInt = 1 := by rw [f]; rfl
                rw [if_pos f]
                unfold F_NH_print_c127_3
                refine ⟨rfl, rfl, fun t ht => ?_⟩
                rw [(ht.2.2.1 x2i).2 fi]
                exact V_flHx f64 (by decide)
              · have fi : x4.toInt ≠ 1 := fun q => f (Int32.toInt_inj.mp q)
                rw [if_neg f]
                unfold F_NH_print_c127
                refine ⟨rfl, rfl, fun t ht => ?_⟩
                exact V_flTx f64 rfl ((ht.2.2.1 x2i).1 (by omega))
            · have x2i : x2.toInt ≠ 2 := fun q => x2' (Int32.toInt_inj.mp q)
              rw [if_neg x2', if_neg x2']
              by_cases f : x4 = 1
              · have fi : x4.toInt = 1 := by rw [f]; rfl
                rw [if_pos f]
                unfold F_NH_print_c127_9
                refine ⟨rfl, rfl, fun t ht => ?_⟩
                rw [(ht.2.2.2 (by omega)).2 fi]
                exact V_flHx f32 (by decide)
              · have fi : x4.toInt ≠ 1 := fun q => f (Int32.toInt_inj.mp q)
                rw [if_neg f]
                unfold F_NH_print_c127_8
                refine ⟨rfl, rfl, fun t ht => ?_⟩
                exact V_flTx f32 rfl ((ht.2.2.2 (by omega)).1 (by omega))
  · rw [if_neg (by rw [g]; decide)]
    exact Or.inr ⟨fun q => k q.1, g, rfl, rfl⟩
