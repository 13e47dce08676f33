/-! what the calls keep: decimalBy -/
theorem T_decimalBy {x2 : Int32} {x3 : Int32} {x4 : Int32} {x5 : Int32} {t0_0 : Int64} {t0_1 : Int32} {t1_0 : Int32} {t1_1 : Int32} {t2_0 : (Nat → Int32)} {t3_0 : Int32} {t3_1 : Int32} {t4_0 : (Nat → Int32)} {t5_0 : Int32} {t5_1 : Int32} {t6_0 : (Nat → Int32)} {t7_0 : Int32} {t7_1 : Int32} {t8_0 : (Nat → Int32)} {t9_0 : Int32} {t9_1 : Int32} {t10_0 : Int32} {t10_1 : Int32} {t11_0 : (Nat → Int32)} {t12_0 : Int32} {t12_1 : Int32} {t13_0 : Int32} {t13_1 : Int32} {t14_0 : (Nat → Int32)} (ha : rD t10_0 t10_1 t11_0 t9_0 t9_1) (hd : rD t13_0 t13_1 t14_0 t12_0 t12_1) : (S_NH_decimalBy x2 x3 x4 x5 t0_0 t0_1 t1_0 t1_1 t2_0 t3_0 t3_1 t4_0 t5_0 t5_1 t6_0 t7_0 t7_1 t8_0 t9_0 t9_1 t10_0 t10_1 t11_0 t12_0 t12_1 t13_0 t13_1 t14_0) ∧ (fun p : Int32 × Int64 × Int32 × Int32 × Int32 × (Nat → Int32) × Int32 × Int32 × (Nat → Int32) × Int32 × Int32 × (Nat → Int32) × Int32 × Int32 × (Nat → Int32) × Int32 × Int32 × Int32 × Int32 × (Nat → Int32) => rD p.2.2.2.2.2.2.2.2.2.2.2.2.2.2.2.2.2.1 p.2.2.2.2.2.2.2.2.2.2.2.2.2.2.2.2.2.2.1 p.2.2.2.2.2.2.2.2.2.2.2.2.2.2.2.2.2.2.2 p.2.2.2.2.2.2.2.2.2.2.2.2.2.2.2.1 p.2.2.2.2.2.2.2.2.2.2.2.2.2.2.2.2.1) (F_NH_decimalBy x2 x3 x4 x5 t0_0 t0_1 t1_0 t1_1 t2_0 t3_0 t3_1 t4_0 t5_0 t5_1 t6_0 t7_0 t7_1 t8_0 t9_0 t9_1 t10_0 t10_1 t11_0 t12_0 t12_1 t13_0 t13_1 t14_0) := by
  have e0 : (0 : Int32).toInt = 0 := rfl
  obtain ⟨va, ha⟩ := ha
  have J52 : ∀ lx63 lx96 : Int32, (0 ≤ x3.toInt ∧ x3.toInt ≤ 9) → (0 ≤ x5.toInt ∧ x5.toInt ≤ 9) → (x2 = 0 → F_NH_need lx96 = 0 → 0 ≤ x4.toInt) → S_NH_decimalBy_J52 x2 x3 x4 x5 t0_0 t0_1 t1_0 t1_1 t2_0 t3_0 t3_1 t4_0 t5_0 t5_1 t6_0 t7_0 t7_1 t8_0 t9_0 t9_1 t10_0 t10_1 t11_0 t12_0 t12_1 t13_0 t13_1 t14_0 lx63 lx96 ∧ (fun p : Int32 × Int64 × Int32 × Int32 × Int32 × (Nat → Int32) × Int32 × Int32 × (Nat → Int32) × Int32 × Int32 × (Nat → Int32) × Int32 × Int32 × (Nat → Int32) × Int32 × Int32 × Int32 × Int32 × (Nat → Int32) => rD p.2.2.2.2.2.2.2.2.2.2.2.2.2.2.2.2.2.1 p.2.2.2.2.2.2.2.2.2.2.2.2.2.2.2.2.2.2.1 p.2.2.2.2.2.2.2.2.2.2.2.2.2.2.2.2.2.2.2 p.2.2.2.2.2.2.2.2.2.2.2.2.2.2.2.1 p.2.2.2.2.2.2.2.2.2.2.2.2.2.2.2.2.1) (F_NH_decimalBy_J52 x2 x3 x4 x5 t0_0 t0_1 t1_0 t1_1 t2_0 t3_0 t3_1 t4_0 t5_0 t5_1 t6_0 t7_0 t7_1 t8_0 t9_0 t9_1 t10_0 t10_1 t11_0 t12_0 t12_1 t13_0 t13_1 t14_0 lx63 lx96) := by
    intro lx63 lx96 r3 r5 hx
    unfold S_NH_decimalBy_J52 F_NH_decimalBy_J52
    by_cases g : F_NH_need lx96 = 0
    · rw [if_pos g, if_pos g]
      by_cases g2 : x2 = 0
      · rw [if_pos g2, if_pos g2]
        have h := T_raise (x3 := x4) (t0_0 := t0_0) (t0_1 := t0_1) (t1_0 := t1_0) (t1_1 := t1_1) (t2_0 := t2_0) (t3_0 := t3_0) (t3_1 := t3_1) (t4_0 := t4_0) (t5_0 := t5_0) (t5_1 := t5_1) (t6_0 := t6_0) ha (hx g2 g) trivial
        generalize F_DW_raise 108 x4 t0_0 t0_1 t1_0 t1_1 t2_0 t3_0 t3_1 t4_0 t5_0 t5_1 t6_0 t9_0 t9_1 t10_0 t10_1 t11_0 = p447 at h ⊢
        unfold S_NH_decimalBy_c70 F_NH_decimalBy_c70
        rcases h with ⟨h1, _⟩ | ⟨h1, h2, _⟩
        · rw [h1, v_canH0, if_neg (by decide), if_neg (by decide)]
          exact ⟨⟨r3.1, r3.2, trivial⟩, hd⟩
        · rw [h1, v_canH1, if_pos rfl, if_pos rfl]
          have k := T_keepDecimal (x2 := x5) (t0_0 := p447.2.1) (t0_1 := p447.2.2.1) (t3_0 := t7_0) (t3_1 := t7_1) (t4_0 := t8_0) h2 hd r5.1 r5.2
          refine ⟨⟨r3.1, r3.2, ⟨trivial, k.1⟩, ?_⟩, ?_⟩
          · unfold S_NH_decimalBy_c130_8
            split <;> trivial
          · replace k := k.2
            generalize F_NH_keepDecimal x5 p447.2.1 p447.2.2.1 p447.2.2.2.1 p447.2.2.2.2.1 p447.2.2.2.2.2.1 t7_0 t7_1 t8_0 t12_0 t12_1 t13_0 t13_1 t14_0 = p496 at k ⊢
            unfold F_NH_decimalBy_c130_8
            split <;> exact k
      rw [if_neg g2, if_neg g2]
      by_cases g3 : x2 = 1
      · rw [if_pos g3, if_pos g3]
        have h := T_take (t0_0 := t0_0) (t0_1 := t0_1) (t1_0 := t1_0) (t1_1 := t1_1) (t2_0 := t2_0) (t3_0 := t9_0) (t3_1 := t9_1) ha.1
        generalize F_DW_take 108 t0_0 t0_1 t1_0 t1_1 t2_0 t9_0 t9_1 t10_0 t10_1 t11_0 = p297 at h ⊢
        unfold S_NH_decimalBy_c94 F_NH_decimalBy_c94
        have k := T_keepDecimal (x2 := x5) (t0_0 := p297.1 - x4.toInt64) (t0_1 := p297.2.1) (t3_0 := t7_0) (t3_1 := t7_1) (t4_0 := t8_0) (h.2.K ha.B (by decide)) hd r5.1 r5.2
        refine ⟨⟨r3.1, r3.2, ⟨trivial, k.1⟩, ?_⟩, ?_⟩
        · unfold S_NH_decimalBy_c130_6
          split <;> trivial
        · replace k := k.2
          generalize F_NH_keepDecimal x5 (p297.1 - x4.toInt64) p297.2.1 p297.2.2.1 p297.2.2.2.1 p297.2.2.2.2 t7_0 t7_1 t8_0 t12_0 t12_1 t13_0 t13_1 t14_0 = p338 at k ⊢
          unfold F_NH_decimalBy_c130_6
          split <;> exact k
      rw [if_neg g3, if_neg g3]
      have h := T_strip (t0_0 := t0_0) (t0_1 := t0_1) (t1_0 := t1_0) (t1_1 := t1_1) (t2_0 := t2_0) (t3_0 := t7_0) (t3_1 := t7_1) (t4_0 := t8_0) ha trivial
      generalize F_DW_strip 108 t0_0 t0_1 t1_0 t1_1 t2_0 t7_0 t7_1 t8_0 t9_0 t9_1 t10_0 t10_1 t11_0 = p170 at h ⊢
      unfold S_NH_decimalBy_c124 F_NH_decimalBy_c124
      have k := T_keepDecimal (x2 := x5) (t0_0 := p170.1) (t0_1 := p170.2.1) (t3_0 := p170.2.2.2.2.2.1) (t3_1 := p170.2.2.2.2.2.2.1) (t4_0 := p170.2.2.2.2.2.2.2) h.1 hd r5.1 r5.2
      refine ⟨⟨r3.1, r3.2, ⟨trivial, k.1⟩, ?_⟩, ?_⟩
      · unfold S_NH_decimalBy_c130
        split <;> trivial
      · replace k := k.2
        generalize F_NH_keepDecimal x5 p170.1 p170.2.1 p170.2.2.1 p170.2.2.2.1 p170.2.2.2.2.1 p170.2.2.2.2.2.1 p170.2.2.2.2.2.2.1 p170.2.2.2.2.2.2.2 t12_0 t12_1 t13_0 t13_1 t14_0 = p206 at k ⊢
        unfold F_NH_decimalBy_c130
        split <;> exact k
    · rw [if_neg g, if_neg g]
      exact ⟨trivial, hd⟩
  have J28 : S_NH_decimalBy_J28 x2 x3 x4 x5 t0_0 t0_1 t1_0 t1_1 t2_0 t3_0 t3_1 t4_0 t5_0 t5_1 t6_0 t7_0 t7_1 t8_0 t9_0 t9_1 t10_0 t10_1 t11_0 t12_0 t12_1 t13_0 t13_1 t14_0 ∧ (fun p : Int32 × Int64 × Int32 × Int32 × Int32 × (Nat → Int32) × Int32 × Int32 × (Nat → Int32) × Int32 × Int32 × (Nat → Int32) × Int32 × Int32 × (Nat → Int32) × Int32 × Int32 × Int32 × Int32 × (Nat → Int32) => rD p.2.2.2.2.2.2.2.2.2.2.2.2.2.2.2.2.2.1 p.2.2.2.2.2.2.2.2.2.2.2.2.2.2.2.2.2.2.1 p.2.2.2.2.2.2.2.2.2.2.2.2.2.2.2.2.2.2.2 p.2.2.2.2.2.2.2.2.2.2.2.2.2.2.2.1 p.2.2.2.2.2.2.2.2.2.2.2.2.2.2.2.2.1) (F_NH_decimalBy_J28 x2 x3 x4 x5 t0_0 t0_1 t1_0 t1_1 t2_0 t3_0 t3_1 t4_0 t5_0 t5_1 t6_0 t7_0 t7_1 t8_0 t9_0 t9_1 t10_0 t10_1 t11_0 t12_0 t12_1 t13_0 t13_1 t14_0) := by
    unfold S_NH_decimalBy_J28 F_NH_decimalBy_J28 S_NH_decimalBy_J29 F_NH_decimalBy_J29
    rw [v_need0, if_neg (by decide), if_neg (by decide)]
    exact ⟨trivial, hd⟩
  unfold S_NH_decimalBy F_NH_decimalBy
  by_cases g1 : x2 < 0
  · rw [if_pos g1, if_pos g1]
    exact J28
  rw [if_neg g1, if_neg g1]
  by_cases g2 : 2 < x2
  · rw [if_pos g2, if_pos g2]
    exact J28
  rw [if_neg g2, if_neg g2]
  by_cases g3 : F_NH_isRegister x3 = 0
  · rw [if_pos g3, if_pos g3]
    exact J28
  rw [if_neg g3, if_neg g3]
  by_cases g4 : F_NH_isRegister x5 = 0
  · rw [if_pos g4, if_pos g4]
    exact J28
  rw [if_neg g4, if_neg g4]
  have r3 := v_isReg g3
  have r5 := v_isReg g4
  unfold S_NH_decimalBy_J29 F_NH_decimalBy_J29 S_NH_decimalBy_J47 F_NH_decimalBy_J47 S_NH_decimalBy_J51 F_NH_decimalBy_J51
  rw [v_need1, if_pos rfl, if_pos rfl]
  by_cases g5 : x2 = 0
  · rw [if_pos g5, if_pos g5]
    by_cases g6 : x4 < 0
    · rw [if_pos g6, if_pos g6]
      exact J52 _ _ r3 r5 (fun _ h => absurd h (by rw [v_need0]; decide))
    rw [if_neg g6, if_neg g6]
    have g7 := q_nltI g6
    split
    · exact J52 _ _ r3 r5 (fun _ _ => by omega)
    · exact J52 _ _ r3 r5 (fun _ _ => by omega)
  · rw [if_neg g5, if_neg g5]
    exact J52 _ _ r3 r5 (fun h => absurd h g5)
