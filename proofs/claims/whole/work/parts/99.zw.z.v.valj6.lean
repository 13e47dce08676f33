/-! values, for whole: the printer's bodies, the method -/
theorem zCut_n {sc : Int32} {pr : Int} {t : List Nat} (h : ¬ (sc = 98 ∨ sc = 115)) : zCut sc pr t = t := by
  unfold zCut
  rw [if_neg h]
theorem V_b89 {t0_0 : Int32} {t0_1 : Int32} {t0_2 : Int32} {t0_3 : Int32} {t1_0 : (Nat → Int32)} {t2_0 : (Nat → Int64)} {t3_0 : (Nat → Int32)} {t4_0 : Int32} {t4_1 : Int32} {t5_0 : (Nat → Int32)} {t6_0 : Int32} {t7_0 : (Nat → Int64)} {t8_0 : Int32} {t8_1 : Int32} {t8_2 : Int32} {t8_3 : Int32} {t8_4 : Int32} {t8_5 : Int32} {t8_6 : Int32} {t9_0 : Int32} {t10_0 : (Nat → Int64)} {t11_0 : Int32} {t12_0 : (Nat → Int64)} {t13_0 : Int32} {t14_0 : (Nat → Int64)} {t15_0 : Int32} {t16_0 : (Nat → Int64)} {t17_0 : Int32} {t18_0 : (Nat → Int64)} {t19_0 : Int32} {t20_0 : (Nat → Int64)} {t21_0 : Int32} {t22_0 : (Nat → Int64)} {t23_0 : Int32} {t24_0 : (Nat → Int64)} {t25_0 : Int32} {t26_0 : (Nat → Int64)} {lx445 : Int32} {a : yA} {pr : Int} (hf : t0_1 = -1) (h3 : t8_3.toInt = pr) (hpr : -1 ≤ pr ∧ pr ≤ 9999) (hl : yShl 4104 t6_0 t7_0 []) (hb : zSm t8_4 = 98) (hx : lx445 = if a.1 = 0 ∨ (a.1 = 1 ∧ a.2.1 = 0) then 1 else 0) : (F_Pri_writeBody_J89 t0_0 t0_1 t0_2 t0_3 t1_0 t2_0 t3_0 t4_0 t4_1 t5_0 t6_0 t7_0 t8_0 t8_1 t8_2 t8_3 t8_4 t8_5 t8_6 t9_0 t10_0 t11_0 t12_0 t13_0 t14_0 t15_0 t16_0 t17_0 t18_0 t19_0 t20_0 t21_0 t22_0 t23_0 t24_0 t25_0 t26_0 lx445).1 = t0_0 ∧ (F_Pri_writeBody_J89 t0_0 t0_1 t0_2 t0_3 t1_0 t2_0 t3_0 t4_0 t4_1 t5_0 t6_0 t7_0 t8_0 t8_1 t8_2 t8_3 t8_4 t8_5 t8_6 t9_0 t10_0 t11_0 t12_0 t13_0 t14_0 t15_0 t16_0 t17_0 t18_0 t19_0 t20_0 t21_0 t22_0 t23_0 t24_0 t25_0 t26_0 lx445).2.2.1 = t0_2 ∧ (F_Pri_writeBody_J89 t0_0 t0_1 t0_2 t0_3 t1_0 t2_0 t3_0 t4_0 t4_1 t5_0 t6_0 t7_0 t8_0 t8_1 t8_2 t8_3 t8_4 t8_5 t8_6 t9_0 t10_0 t11_0 t12_0 t13_0 t14_0 t15_0 t16_0 t17_0 t18_0 t19_0 t20_0 t21_0 t22_0 t23_0 t24_0 t25_0 t26_0 lx445).2.2.2.1 = t0_3 ∧ QV_bd t8_4 t8_1 pr a (F_Pri_writeBody_J89 t0_0 t0_1 t0_2 t0_3 t1_0 t2_0 t3_0 t4_0 t4_1 t5_0 t6_0 t7_0 t8_0 t8_1 t8_2 t8_3 t8_4 t8_5 t8_6 t9_0 t10_0 t11_0 t12_0 t13_0 t14_0 t15_0 t16_0 t17_0 t18_0 t19_0 t20_0 t21_0 t22_0 t23_0 t24_0 t25_0 t26_0 lx445).2.1 (F_Pri_writeBody_J89 t0_0 t0_1 t0_2 t0_3 t1_0 t2_0 t3_0 t4_0 t4_1 t5_0 t6_0 t7_0 t8_0 t8_1 t8_2 t8_3 t8_4 t8_5 t8_6 t9_0 t10_0 t11_0 t12_0 t13_0 t14_0 t15_0 t16_0 t17_0 t18_0 t19_0 t20_0 t21_0 t22_0 t23_0 t24_0 t25_0 t26_0 lx445).2.2.2.2.2.2.2.1 (F_Pri_writeBody_J89 t0_0 t0_1 t0_2 t0_3 t1_0 t2_0 t3_0 t4_0 t4_1 t5_0 t6_0 t7_0 t8_0 t8_1 t8_2 t8_3 t8_4 t8_5 t8_6 t9_0 t10_0 t11_0 t12_0 t13_0 t14_0 t15_0 t16_0 t17_0 t18_0 t19_0 t20_0 t21_0 t22_0 t23_0 t24_0 t25_0 t26_0 lx445).2.2.2.2.2.2.2.2 := by
  unfold F_Pri_writeBody_J89
  have fin : ∀ (t : List Nat) (size : Int32) (row : Nat → Int64), t = (if a.1 = 0 ∨ (a.1 = 1 ∧ a.2.1 = 0) then zFal else zTru) → yShl 4104 size row t → QV_bd t8_4 t8_1 pr a t0_1 (F_Pri_cutBody size row t8_0 t8_1 t8_2 t8_3 t8_4 t8_5 t8_6) row := by
    intro t size row ht hs
    refine ⟨t, 0, 0, Or.inr (Or.inr (Or.inl ⟨hb, ht, rfl, rfl⟩)), ?_, Or.inl ⟨hf, rfl, rfl⟩⟩
    have w := V_cutB (t2_0 := t8_0) (t2_1 := t8_1) (t2_2 := t8_2) (t2_4 := t8_4) (t2_5 := t8_5) (t2_6 := t8_6) h3 hpr.1 hs
    unfold zCut
    rw [if_pos (Or.inl hb)]
    exact w
  by_cases c : a.1 = 0 ∨ (a.1 = 1 ∧ a.2.1 = 0)
  · rw [if_pos c] at hx
    rw [if_neg (show ¬ lx445 = 0 by rw [hx]; decide)]
    have p := V_at124 (N := 513) (K := 1000000) rfl hl (by decide)
    rw [List.nil_append] at p
    revert p
    generalize F_She_addText_12 4104 513 1000000 t6_0 t7_0 = q
    intro p
    unfold F_Pri_writeBody_c105_12
    exact ⟨rfl, rfl, rfl, fin yW12 _ _ (by rw [if_pos c]; rfl) p⟩
  · rw [if_neg c] at hx
    rw [if_pos hx]
    have p := V_at134 (N := 513) (K := 1000000) rfl hl (by decide)
    rw [List.nil_append] at p
    revert p
    generalize F_She_addText_13 4104 513 1000000 t6_0 t7_0 = q
    intro p
    unfold F_Pri_writeBody_c105
    exact ⟨rfl, rfl, rfl, fin yW13 _ _ (by rw [if_neg c]; rfl) p⟩
theorem V_body0 {t0_0 : Int32} {t0_1 : Int32} {t0_2 : Int32} {t0_3 : Int32} {t1_0 : (Nat → Int32)} {t2_0 : (Nat → Int64)} {t3_0 : (Nat → Int32)} {t4_0 : Int32} {t4_1 : Int32} {t5_0 : (Nat → Int32)} {t6_0 : Int32} {t7_0 : (Nat → Int64)} {t8_0 : Int32} {t8_1 : Int32} {t8_2 : Int32} {t8_3 : Int32} {t8_4 : Int32} {t8_5 : Int32} {t8_6 : Int32} {t9_0 : Int32} {t10_0 : (Nat → Int64)} {t11_0 : Int32} {t12_0 : (Nat → Int64)} {t13_0 : Int32} {t14_0 : (Nat → Int64)} {t15_0 : Int32} {t16_0 : (Nat → Int64)} {t17_0 : Int32} {t18_0 : (Nat → Int64)} {t19_0 : Int32} {t20_0 : (Nat → Int64)} {t21_0 : Int32} {t22_0 : (Nat → Int64)} {t23_0 : Int32} {t24_0 : (Nat → Int64)} {t25_0 : Int32} {t26_0 : (Nat → Int64)} {a : yA} {pr : Int} (hf : t0_1 = -1) (h4 : 0 ≤ t8_4.toInt ∧ t8_4.toInt ≤ 255) (hl : yShl 4104 t6_0 t7_0 []) (h7 : zSm t8_4 = 37 ∨ zSm t8_4 = 110) : (F_Pri_writeBody t0_0 t0_1 t0_2 t0_3 t1_0 t2_0 t3_0 t4_0 t4_1 t5_0 t6_0 t7_0 t8_0 t8_1 t8_2 t8_3 t8_4 t8_5 t8_6 t9_0 t10_0 t11_0 t12_0 t13_0 t14_0 t15_0 t16_0 t17_0 t18_0 t19_0 t20_0 t21_0 t22_0 t23_0 t24_0 t25_0 t26_0).1 = t0_0 ∧ (F_Pri_writeBody t0_0 t0_1 t0_2 t0_3 t1_0 t2_0 t3_0 t4_0 t4_1 t5_0 t6_0 t7_0 t8_0 t8_1 t8_2 t8_3 t8_4 t8_5 t8_6 t9_0 t10_0 t11_0 t12_0 t13_0 t14_0 t15_0 t16_0 t17_0 t18_0 t19_0 t20_0 t21_0 t22_0 t23_0 t24_0 t25_0 t26_0).2.2.1 = t0_2 ∧ (F_Pri_writeBody t0_0 t0_1 t0_2 t0_3 t1_0 t2_0 t3_0 t4_0 t4_1 t5_0 t6_0 t7_0 t8_0 t8_1 t8_2 t8_3 t8_4 t8_5 t8_6 t9_0 t10_0 t11_0 t12_0 t13_0 t14_0 t15_0 t16_0 t17_0 t18_0 t19_0 t20_0 t21_0 t22_0 t23_0 t24_0 t25_0 t26_0).2.2.2.1 = t0_3 ∧ QV_bd t8_4 t8_1 pr a (F_Pri_writeBody t0_0 t0_1 t0_2 t0_3 t1_0 t2_0 t3_0 t4_0 t4_1 t5_0 t6_0 t7_0 t8_0 t8_1 t8_2 t8_3 t8_4 t8_5 t8_6 t9_0 t10_0 t11_0 t12_0 t13_0 t14_0 t15_0 t16_0 t17_0 t18_0 t19_0 t20_0 t21_0 t22_0 t23_0 t24_0 t25_0 t26_0).2.1 (F_Pri_writeBody t0_0 t0_1 t0_2 t0_3 t1_0 t2_0 t3_0 t4_0 t4_1 t5_0 t6_0 t7_0 t8_0 t8_1 t8_2 t8_3 t8_4 t8_5 t8_6 t9_0 t10_0 t11_0 t12_0 t13_0 t14_0 t15_0 t16_0 t17_0 t18_0 t19_0 t20_0 t21_0 t22_0 t23_0 t24_0 t25_0 t26_0).2.2.2.2.2.2.2.1 (F_Pri_writeBody t0_0 t0_1 t0_2 t0_3 t1_0 t2_0 t3_0 t4_0 t4_1 t5_0 t6_0 t7_0 t8_0 t8_1 t8_2 t8_3 t8_4 t8_5 t8_6 t9_0 t10_0 t11_0 t12_0 t13_0 t14_0 t15_0 t16_0 t17_0 t18_0 t19_0 t20_0 t21_0 t22_0 t23_0 t24_0 t25_0 t26_0).2.2.2.2.2.2.2.2 := by
  have nb : ¬ (zSm t8_4 = 98 ∨ zSm t8_4 = 115) := by rcases h7 with w | w <;> rw [w] <;> decide
  unfold F_Pri_writeBody
  rw [y_one7 h4, if_pos ((V_sm7 h4).1.mpr h7), if_neg (show ¬ (1 : Int32) = 0 by decide)]
  by_cases c : t8_4 = 110
  · rw [if_pos c]
    have p := V_paP4 (N := 513) (K := 1000000) (x2 := 10) (v := 10) hl (by decide) rfl (by decide)
    rw [List.nil_append] at p
    revert p
    generalize F_She_add_p 4104 513 1000000 10 t6_0 t7_0 = q
    intro p
    unfold F_Pri_writeBody_c35_16
    exact ⟨rfl, rfl, rfl, [10], 0, 0, Or.inr (Or.inl ⟨(V_sm16 h4).2.2.mp c, rfl, rfl, rfl⟩), by rw [zCut_n nb]; exact p, Or.inl ⟨hf, rfl, rfl⟩⟩
  · rw [if_neg c]
    have s37 : zSm t8_4 = 37 := h7.resolve_right (fun w => c ((V_sm16 h4).2.2.mpr w))
    have p := V_paP4 (N := 513) (K := 1000000) (x2 := 37) (v := 37) hl (by decide) rfl (by decide)
    rw [List.nil_append] at p
    revert p
    generalize F_She_add_p 4104 513 1000000 37 t6_0 t7_0 = q
    intro p
    unfold F_Pri_writeBody_c35
    exact ⟨rfl, rfl, rfl, [37], 0, 0, Or.inl ⟨s37, rfl, rfl, rfl⟩, by rw [zCut_n nb]; exact p, Or.inl ⟨hf, rfl, rfl⟩⟩
theorem V_body {t0_0 : Int32} {t0_1 : Int32} {t0_2 : Int32} {t0_3 : Int32} {t1_0 : (Nat → Int32)} {t2_0 : (Nat → Int64)} {t3_0 : (Nat → Int32)} {t4_0 : Int32} {t4_1 : Int32} {t5_0 : (Nat → Int32)} {t6_0 : Int32} {t7_0 : (Nat → Int64)} {t8_0 : Int32} {t8_1 : Int32} {t8_2 : Int32} {t8_3 : Int32} {t8_4 : Int32} {t8_5 : Int32} {t8_6 : Int32} {t9_0 : Int32} {t10_0 : (Nat → Int64)} {t11_0 : Int32} {t12_0 : (Nat → Int64)} {t13_0 : Int32} {t14_0 : (Nat → Int64)} {t15_0 : Int32} {t16_0 : (Nat → Int64)} {t17_0 : Int32} {t18_0 : (Nat → Int64)} {t19_0 : Int32} {t20_0 : (Nat → Int64)} {t21_0 : Int32} {t22_0 : (Nat → Int64)} {t23_0 : Int32} {t24_0 : (Nat → Int64)} {t25_0 : Int32} {t26_0 : (Nat → Int64)} {a : yA} {i : Nat} {pr : Int} (hf : t0_1 = -1) (hi : t0_3.toInt = (i : Int)) (hi2 : i ≤ 8) (ha : zCa (t1_0 t0_3.toNatClampNeg) (t2_0 t0_3.toNatClampNeg) (t3_0 t0_3.toNatClampNeg) (yTx9 t9_0 t10_0 t11_0 t12_0 t13_0 t14_0 t15_0 t16_0 t17_0 t18_0 t19_0 t20_0 t21_0 t22_0 t23_0 t24_0 t25_0 t26_0 i) a) (h3 : t8_3.toInt = pr) (hpr : -1 ≤ pr ∧ pr ≤ 9999) (h4 : 0 ≤ t8_4.toInt ∧ t8_4.toInt ≤ 255) (hl : yShl 4104 t6_0 t7_0 []) (hO : t8_4 ∈ yO1) (hk : zTk t8_4 a.1) (n7 : ¬ (zSm t8_4 = 37 ∨ zSm t8_4 = 110)) : (F_Pri_writeBody t0_0 t0_1 t0_2 t0_3 t1_0 t2_0 t3_0 t4_0 t4_1 t5_0 t6_0 t7_0 t8_0 t8_1 t8_2 t8_3 t8_4 t8_5 t8_6 t9_0 t10_0 t11_0 t12_0 t13_0 t14_0 t15_0 t16_0 t17_0 t18_0 t19_0 t20_0 t21_0 t22_0 t23_0 t24_0 t25_0 t26_0).1 = t0_0 ∧ (F_Pri_writeBody t0_0 t0_1 t0_2 t0_3 t1_0 t2_0 t3_0 t4_0 t4_1 t5_0 t6_0 t7_0 t8_0 t8_1 t8_2 t8_3 t8_4 t8_5 t8_6 t9_0 t10_0 t11_0 t12_0 t13_0 t14_0 t15_0 t16_0 t17_0 t18_0 t19_0 t20_0 t21_0 t22_0 t23_0 t24_0 t25_0 t26_0).2.2.1 = t0_2 ∧ (F_Pri_writeBody t0_0 t0_1 t0_2 t0_3 t1_0 t2_0 t3_0 t4_0 t4_1 t5_0 t6_0 t7_0 t8_0 t8_1 t8_2 t8_3 t8_4 t8_5 t8_6 t9_0 t10_0 t11_0 t12_0 t13_0 t14_0 t15_0 t16_0 t17_0 t18_0 t19_0 t20_0 t21_0 t22_0 t23_0 t24_0 t25_0 t26_0).2.2.2.1 = t0_3 ∧ QV_bd t8_4 t8_1 pr a (F_Pri_writeBody t0_0 t0_1 t0_2 t0_3 t1_0 t2_0 t3_0 t4_0 t4_1 t5_0 t6_0 t7_0 t8_0 t8_1 t8_2 t8_3 t8_4 t8_5 t8_6 t9_0 t10_0 t11_0 t12_0 t13_0 t14_0 t15_0 t16_0 t17_0 t18_0 t19_0 t20_0 t21_0 t22_0 t23_0 t24_0 t25_0 t26_0).2.1 (F_Pri_writeBody t0_0 t0_1 t0_2 t0_3 t1_0 t2_0 t3_0 t4_0 t4_1 t5_0 t6_0 t7_0 t8_0 t8_1 t8_2 t8_3 t8_4 t8_5 t8_6 t9_0 t10_0 t11_0 t12_0 t13_0 t14_0 t15_0 t16_0 t17_0 t18_0 t19_0 t20_0 t21_0 t22_0 t23_0 t24_0 t25_0 t26_0).2.2.2.2.2.2.2.1 (F_Pri_writeBody t0_0 t0_1 t0_2 t0_3 t1_0 t2_0 t3_0 t4_0 t4_1 t5_0 t6_0 t7_0 t8_0 t8_1 t8_2 t8_3 t8_4 t8_5 t8_6 t9_0 t10_0 t11_0 t12_0 t13_0 t14_0 t15_0 t16_0 t17_0 t18_0 t19_0 t20_0 t21_0 t22_0 t23_0 t24_0 t25_0 t26_0).2.2.2.2.2.2.2.2 := by
  have e0 : (0 : Int32).toInt = 0 := rfl
  have e1 : (1 : Int32).toInt = 1 := rfl
  have e2 : (2 : Int32).toInt = 2 := rfl
  have e0L : (0 : Int64).toInt = 0 := rfl
  have ha' := ha
  obtain ⟨a1, a2, a3, a4, aw⟩ := ha'
  have K : ∀ (x : Int32) (n : Nat), x.toInt = (n : Int) → (t1_0 t0_3.toNatClampNeg = x ↔ a.1 = n) := by
    intro x n hx
    rw [← Int32.toInt_inj, a1, hx]
    omega
  have t7 := V_sm7 h4
  have t16 := V_sm16 h4
  have tk := fun k0 => Z_tkS h4 aw.1 hk k0 hO
  unfold F_Pri_writeBody
  rw [y_one7 h4, if_neg (fun w => n7 (t7.1.mp w)), if_pos (rfl : (0 : Int32) = 0), y_one11 h4]
  by_cases b : zSm t8_4 = 98
  · rw [if_pos (t7.2.1.mpr b), if_neg (show ¬ (1 : Int32) = 0 by decide)]
    by_cases k0 : a.1 = 0
    · rw [if_pos ((K 0 0 rfl).mpr k0)]
      unfold F_Pri_writeBody_J84
      exact V_b89 hf h3 hpr hl b (by rw [if_pos (Or.inl k0)])
    · rw [if_neg (fun w => k0 ((K 0 0 rfl).mp w))]
      by_cases k1 : a.1 = 1
      · rw [if_pos ((K 1 1 rfl).mpr k1)]
        by_cases v : lg_cmp (t2_0 t0_3.toNatClampNeg) 0 = 0
        · rw [if_pos v]
          have v' := q_k9 v
          rw [a2] at v'
          unfold F_Pri_writeBody_J84
          exact V_b89 hf h3 hpr hl b (by rw [if_pos (Or.inr ⟨k1, Int64.toInt_inj.mp v'⟩)])
        · rw [if_neg v]
          have v' := q_k10 v
          rw [a2] at v'
          unfold F_Pri_writeBody_J88
          exact V_b89 hf h3 hpr hl b (by rw [if_neg (by rintro (w | w); exact k0 w; exact v' (by rw [w.2]))])
      · rw [if_neg (fun w => k1 ((K 1 1 rfl).mp w))]
        unfold F_Pri_writeBody_J88
        exact V_b89 hf h3 hpr hl b (by rw [if_neg (by rintro (w | w); exact k0 w; exact k1 w.1)])
  · rw [if_neg (fun w => b (t7.2.1.mp w)), if_pos (rfl : (0 : Int32) = 0), y_one14 h4]
    by_cases s : zSm t8_4 = 115
    · rw [if_pos (t7.2.2.mpr s), if_neg (show ¬ (1 : Int32) = 0 by decide)]
      obtain ⟨u, w1, w2⟩ := V_any (x2 := t0_3) (t0_0 := t0_0) (t0_1 := t0_1) (t0_2 := t0_2) (t0_3 := t0_3) (t4_0 := t4_0) (t4_1 := t4_1) (t5_0 := t5_0) (t8_0 := t9_0) (t9_0 := t10_0) (t10_0 := t11_0) (t11_0 := t12_0) (t12_0 := t13_0) (t13_0 := t14_0) (t14_0 := t15_0) (t15_0 := t16_0) (t16_0 := t17_0) (t17_0 := t18_0) (t18_0 := t19_0) (t19_0 := t20_0) (t20_0 := t21_0) (t21_0 := t22_0) (t22_0 := t23_0) (t23_0 := t24_0) (t24_0 := t25_0) (t25_0 := t26_0) hi hi2 a1 a2 a3 aw a4 hl
      revert w2
      generalize F_Pri_writeAnything t0_3 t0_0 t0_1 t0_2 t0_3 t1_0 t2_0 t3_0 t4_0 t4_1 t5_0 t6_0 t7_0 t9_0 t10_0 t11_0 t12_0 t13_0 t14_0 t15_0 t16_0 t17_0 t18_0 t19_0 t20_0 t21_0 t22_0 t23_0 t24_0 t25_0 t26_0 = q
      intro w2
      unfold F_Pri_writeBody_c132
      have w := V_cutB (t2_0 := t8_0) (t2_1 := t8_1) (t2_2 := t8_2) (t2_4 := t8_4) (t2_5 := t8_5) (t2_6 := t8_6) h3 hpr.1 w2
      refine ⟨rfl, rfl, rfl, u, 0, 0, ?_, by unfold zCut; rw [if_pos (Or.inr s)]; exact w, Or.inl ⟨hf, rfl, rfl⟩⟩
      by_cases k0 : a.1 = 0
      · refine Or.inr (Or.inr (Or.inr (Or.inl ⟨by rw [s]; decide, k0, ?_, rfl, rfl⟩)))
        rcases w1 with ⟨_, z⟩ | ⟨z, _⟩ | ⟨z, _⟩ | ⟨z, _⟩ | ⟨z, _⟩
        · exact z
        all_goals omega
      · exact Or.inr (Or.inr (Or.inr (Or.inr (Or.inl ⟨s, k0, w1, rfl, rfl⟩))))
    · rw [if_neg (fun w => s (t7.2.2.mp w)), if_pos (rfl : (0 : Int32) = 0)]
      have nb : ¬ (zSm t8_4 = 98 ∨ zSm t8_4 = 115) := fun w => w.elim b s
      by_cases k0 : a.1 = 0
      · rw [if_pos ((K 0 0 rfl).mpr k0)]
        have p := V_at154 (N := 513) (K := 1000000) rfl hl (by decide)
        rw [List.nil_append] at p
        revert p
        generalize F_She_addText_15 4104 513 1000000 t6_0 t7_0 = q
        intro p
        unfold F_Pri_writeBody_c152
        exact ⟨rfl, rfl, rfl, zNul, 0, 0, Or.inr (Or.inr (Or.inr (Or.inl ⟨by rintro (w | w | w); exact n7 (Or.inl w); exact n7 (Or.inr w); exact b w, k0, rfl, rfl, rfl⟩))), by rw [zCut_n nb]; exact p, Or.inl ⟨hf, rfl, rfl⟩⟩
      · rw [if_neg (fun w => k0 ((K 0 0 rfl).mp w))]
        have tk := tk k0
        by_cases k2 : a.1 = 2
        · rw [if_pos ((K 2 2 rfl).mpr k2)]
          have c99 : zSm t8_4 = 99 := by
            rcases tk with x | x | x | x | x | x | x
            · exact absurd (Or.inl x) n7
            · exact absurd (Or.inr x) n7
            · exact absurd x b
            · exact absurd x s
            · exact x.1
            · omega
            · omega
          have vb := aw.2.2.2.2.2.2.1 k2
          have p := V_paP4 (N := 513) (K := 1000000) (x2 := (t2_0 t0_3.toNatClampNeg).toInt32) (v := a.2.1.toInt.toNat) hl (by decide) (by
            rw [a2, Int64.toInt_toInt32, Int.bmod_eq_of_le (by omega) (by omega)]
            omega) (by omega)
          rw [List.nil_append] at p
          revert p
          generalize F_She_add_p 4104 513 1000000 (t2_0 t0_3.toNatClampNeg).toInt32 t6_0 t7_0 = q
          intro p
          unfold F_Pri_writeBody_c177
          exact ⟨rfl, rfl, rfl, [a.2.1.toInt.toNat], 0, 0, Or.inr (Or.inr (Or.inr (Or.inr (Or.inr (Or.inl ⟨c99, k0, rfl, rfl, rfl⟩))))), by rw [zCut_n nb]; exact p, Or.inl ⟨hf, rfl, rfl⟩⟩
        · rw [if_neg (fun w => k2 ((K 2 2 rfl).mp w)), y_one16 h4]
          have nu : ((zSm t8_4 = 111 ∨ zSm t8_4 = 120 ∨ zSm t8_4 = 100) ∧ a.1 = 3) ∨ ((zSm t8_4 = 102 ∨ zSm t8_4 = 101 ∨ zSm t8_4 = 103) ∧ a.1 = 5) := by
            rcases tk with x | x | x | x | x | x | x
            · exact absurd (Or.inl x) n7
            · exact absurd (Or.inr x) n7
            · exact absurd x b
            · exact absurd x s
            · exact absurd x.2 k2
            · exact Or.inl x
            · exact Or.inr x
          by_cases x : zSm t8_4 = 111 ∨ zSm t8_4 = 120
          · rw [if_pos (t16.1.mpr x), if_neg (show ¬ (1 : Int32) = 0 by decide)]
            obtain ⟨u, w1, w2, w3, w4, w5, w6⟩ := V_toB (x2 := t2_0 t0_3.toNatClampNeg) (t0_0 := t0_0) (t0_1 := t0_1) (t0_2 := t0_2) (t0_3 := t0_3) (t3_0 := t8_0) (t3_1 := t8_1) (t3_2 := t8_2) (t3_3 := t8_3) (t3_4 := t8_4) (t3_5 := t8_5) (t3_6 := t8_6) hl (x.imp (fun w => t16.2.1.mpr w) id)
            rw [a2] at w1
            revert w2 w3 w4 w5 w6
            generalize F_Pri_writeToBase (t2_0 t0_3.toNatClampNeg) t0_0 t0_1 t0_2 t0_3 t6_0 t7_0 t8_0 t8_1 t8_2 t8_3 t8_4 t8_5 t8_6 = q
            intro w2 w3 w4 w5 w6
            unfold F_Pri_writeBody_c205
            have e : (if t8_4 = 111 then 8 else 16) = (if zSm t8_4 = 111 then 8 else 16) := by
              by_cases o : t8_4 = 111
              · rw [if_pos o, if_pos (t16.2.1.mp o)]
              · rw [if_neg o, if_neg (fun w => o (t16.2.1.mpr w))]
            rw [e] at w1
            obtain ⟨dg, hdg⟩ := yDt_ex a.2.1.toInt.natAbs
            refine ⟨w3, w4, w5, zPre (zSm t8_4) t8_1 ++ u, (zPre (zSm t8_4) t8_1).length, if t8_1 &&& 8 = 0 then 0 else 1, Or.inr (Or.inr (Or.inr (Or.inr (Or.inr (Or.inr ⟨x.elim Or.inl (fun w => Or.inr (Or.inl w)), k0, ⟨dg, hdg, Or.inl ⟨x, u, w1, rfl, rfl⟩⟩, rfl⟩))))), by rw [zCut_n nb]; exact w6, Or.inr ⟨w2, by rw [List.length_append]; omega, nb, rfl⟩⟩
          · rw [if_neg (fun w => x (t16.1.mp w)), if_pos (rfl : (0 : Int32) = 0)]
            have hk2 : (zSm t8_4 = 100 ∧ a.1 = 3) ∨ ((zSm t8_4 = 102 ∨ zSm t8_4 = 101 ∨ zSm t8_4 = 103) ∧ a.1 = 5) := by
              rcases nu with ⟨w, v⟩ | w
              · exact Or.inl ⟨(w.resolve_left (fun z => x (Or.inl z))).resolve_left (fun z => x (Or.inr z)), v⟩
              · exact Or.inr w
            by_cases v : 0 ≤ lg_cmp (t2_0 t0_3.toNatClampNeg) 0
            · rw [if_pos v]
              have v' := q_k7 v
              rw [a2, e0L] at v'
              exact V_b231 hi hi2 ha h3 hpr h4 hl k0 (by rw [if_neg (by omega)]) hk2
            · rw [if_neg v]
              have v' := q_k8 v
              rw [a2, e0L] at v'
              exact V_b231 hi hi2 ha h3 hpr h4 hl k0 (by rw [if_pos (by omega)]) hk2

