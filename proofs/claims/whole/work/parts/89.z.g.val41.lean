/-! values: Reader 3 -/
/-- what figures and exponent leave behind -/
abbrev RD (hi : Int) (ng : Int32) (b : Nat) (p : Int32 × Int64 × Int64 × Int32 × Int32 × Int32 × Int32 × Int32 × Int32 × Int32 × Int64 × Int32 × Int32 × (Nat → Int32)) : Prop := p.1 = 0 ∨ (-2000000000000 ≤ p.2.2.2.2.2.2.2.2.2.2.1.toInt ∧ p.2.2.2.2.2.2.2.2.2.2.1.toInt ≤ 2000000000000 ∧ p.2.2.2.2.1.toInt = hi ∧ p.2.2.2.2.2.1 = ng ∧ ∃ v : Int, 0 ≤ v ∧ v.natAbs < b ∧ bO 220 p.2.2.2.2.2.2.2.2.2.2.2.1 p.2.2.2.2.2.2.2.2.2.2.2.2.1 p.2.2.2.2.2.2.2.2.2.2.2.2.2 v)
theorem e1640 : (16 : Nat) ^ 40 ≤ 2147483648 ^ 6 := by decide +kernel
theorem e1080 : (10 : Nat) ^ 800 ≤ 2147483648 ^ 86 := v_tB (by decide)
theorem e10k : (10 : Nat) ^ 1000 ≤ 2147483648 ^ 108 := v_tB (by decide)
theorem T_takeHexadecimal {t0_0 : Int64} {t0_1 : Int64} {t0_2 : Int32} {t0_3 : Int32} {t0_4 : Int32} {t0_5 : Int32} {t0_6 : Int32} {t0_7 : Int32} {t0_8 : Int32} {t0_9 : Int64} {t1_0 : Int32} {t2_0 : (Nat → Int64)} {t3_0 : Int32} {t3_1 : Int32} {t4_0 : (Nat → Int32)} (h0 : 0 ≤ t0_2.toInt) (h1 : t0_2.toInt ≤ t0_3.toInt) (h2 : t0_3.toInt ≤ 100000) : (S_Rea_takeHexadecimal t0_0 t0_1 t0_2 t0_3 t0_4 t0_5 t0_6 t0_7 t0_8 t0_9 t1_0 t2_0 t3_0 t3_1 t4_0) ∧ RD t0_3.toInt t0_4 (16 ^ 40) (F_Rea_takeHexadecimal t0_0 t0_1 t0_2 t0_3 t0_4 t0_5 t0_6 t0_7 t0_8 t0_9 t1_0 t2_0 t3_0 t3_1 t4_0) := by
  unfold S_Rea_takeHexadecimal F_Rea_takeHexadecimal
  have h5 : S_Rea_takeFigures (16 : Int32) (40 : Int32) t0_0 t0_1 t0_2 t0_3 t0_4 t0_5 t0_6 t0_7 t0_8 t0_9 t1_0 t2_0 t3_0 t3_1 t4_0 ∧ RP t0_2.toInt t0_3.toInt t0_4 (16 ^ 40) (F_Rea_takeFigures (16 : Int32) (40 : Int32) t0_0 t0_1 t0_2 t0_3 t0_4 t0_5 t0_6 t0_7 t0_8 t0_9 t1_0 t2_0 t3_0 t3_1 t4_0) := T_takeFigures (m := 40) (b := 16) (M := 6) rfl (by decide) rfl (by decide) e1640 (by decide) h0 h1 h2
  refine v_owe h5.1 ?_
  replace h5 := h5.2
  generalize (F_Rea_takeFigures (16 : Int32) (40 : Int32) t0_0 t0_1 t0_2 t0_3 t0_4 t0_5 t0_6 t0_7 t0_8 t0_9 t1_0 t2_0 t3_0 t3_1 t4_0) = p69 at h5 ⊢
  unfold S_Rea_takeHexadecimal_c5 F_Rea_takeHexadecimal_c5
  obtain ⟨a1, a2, a3, an, v, a4, a5, a6⟩ := h5
  by_cases g : p69.1 = 0
  · rw [if_pos g, if_pos g]
    exact ⟨trivial, Or.inl rfl⟩
  rw [if_neg g, if_neg g]
  refine v_owe v_here ?_
  by_cases g2 : (F_Rea_here p69.2.1 p69.2.2.1 p69.2.2.2.1 p69.2.2.2.2.1 p69.2.2.2.2.2.1 p69.2.2.2.2.2.2.1 p69.2.2.2.2.2.2.2.1 p69.2.2.2.2.2.2.2.2.1 p69.2.2.2.2.2.2.2.2.2.1 p69.2.2.2.2.2.2.2.2.2.2.1 t1_0 t2_0 ||| 32) = 112
  · rw [if_pos g2, if_pos g2]
    have hl := v_herelt2 g2 (by decide)
    have h27 : S_Rea_takeExponent (4100 : Int32) (p69.2.1 : Int64) (p69.2.2.1 : Int64) (p69.2.2.2.1 : Int32) (p69.2.2.2.2.1 : Int32) (p69.2.2.2.2.2.1 : Int32) (p69.2.2.2.2.2.2.1 : Int32) (p69.2.2.2.2.2.2.2.1 : Int32) (p69.2.2.2.2.2.2.2.2.1 : Int32) (p69.2.2.2.2.2.2.2.2.2.1 : Int32) (p69.2.2.2.2.2.2.2.2.2.2.1 : Int64) t1_0 t2_0 ∧ RE p69.2.2.2.1.toInt p69.2.2.2.2.1.toInt p69.2.2.2.2.2.1 (F_Rea_takeExponent (4100 : Int32) (p69.2.1 : Int64) (p69.2.2.1 : Int64) (p69.2.2.2.1 : Int32) (p69.2.2.2.2.1 : Int32) (p69.2.2.2.2.2.1 : Int32) (p69.2.2.2.2.2.2.1 : Int32) (p69.2.2.2.2.2.2.2.1 : Int32) (p69.2.2.2.2.2.2.2.2.1 : Int32) (p69.2.2.2.2.2.2.2.2.2.1 : Int32) (p69.2.2.2.2.2.2.2.2.2.2.1 : Int64) t1_0 t2_0) := T_takeExponent (by omega) hl (by omega)
    refine v_owe h27.1 ?_
    replace h27 := h27.2
    generalize (F_Rea_takeExponent (4100 : Int32) (p69.2.1 : Int64) (p69.2.2.1 : Int64) (p69.2.2.2.1 : Int32) (p69.2.2.2.2.1 : Int32) (p69.2.2.2.2.2.1 : Int32) (p69.2.2.2.2.2.2.1 : Int32) (p69.2.2.2.2.2.2.2.1 : Int32) (p69.2.2.2.2.2.2.2.2.1 : Int32) (p69.2.2.2.2.2.2.2.2.2.1 : Int32) (p69.2.2.2.2.2.2.2.2.2.2.1 : Int64) t1_0 t2_0) = p141 at h27 ⊢
    unfold S_Rea_takeHexadecimal_c27 F_Rea_takeHexadecimal_c27
    obtain ⟨b1, b2, b3, bn, b4, b5⟩ := h27
    split
    · exact ⟨trivial, Or.inl rfl⟩
    · exact ⟨trivial, Or.inr ⟨b4, b5, b3.trans a3, bn.trans an, v, a4, a5, a6⟩⟩
  · rw [if_neg g2, if_neg g2]
    exact ⟨trivial, Or.inl rfl⟩
theorem v_801 {v : Int} (hv : 0 ≤ v) (h : v.natAbs < 10 ^ 800) : ((10 : Int32).toInt * v + (1 : Int32).toInt).natAbs < 10 ^ 801 := by
  have := v_kf (b := 10) (k := 800) (d := 1) hv h (by decide) (by decide)
  exact this
theorem T_tdJ {t0_0 : Int64} {t0_1 : Int64} {t0_2 : Int32} {t0_3 : Int32} {t0_4 : Int32} {t0_5 : Int32} {t0_6 : Int32} {t0_7 : Int32} {t0_8 : Int32} {t0_9 : Int64} {t1_0 : Int32} {t2_0 : (Nat → Int64)} {t3_0 : Int32} {t3_1 : Int32} {t4_0 : (Nat → Int32)} {p69 : (Int32 × Int64 × Int64 × Int32 × Int32 × Int32 × Int32 × Int32 × Int32 × Int32 × Int64 × Int32 × Int32 × (Nat → Int32))} {y32 : Int64} {y33 : Int64} {y34 : Int32} {y35 : Int32} {y36 : Int32} {y37 : Int32} {y38 : Int32} {y40 : Int32} {y41 : Int64} {lx92 : Int32} {lx93 : Int32} {lx94 : Int32} {lx95 : (Nat → Int32)} {v : Int} {lo : Int} (h0 : 0 ≤ y34.toInt) (h1 : y34.toInt ≤ y35.toInt) (h2 : y35.toInt ≤ 100000) (hv : 0 ≤ v) (hl : v.natAbs < 10 ^ 801) (h : bO 220 lx93 lx94 lx95 v) : (S_Rea_takeDecimal_J44 t0_0 t0_1 t0_2 t0_3 t0_4 t0_5 t0_6 t0_7 t0_8 t0_9 t1_0 t2_0 t3_0 t3_1 t4_0 p69 y32 y33 y34 y35 y36 y37 y38 y40 y41 lx92 lx93 lx94 lx95) ∧ RD y35.toInt y36 (10 ^ 801) (F_Rea_takeDecimal_J44 t0_0 t0_1 t0_2 t0_3 t0_4 t0_5 t0_6 t0_7 t0_8 t0_9 t1_0 t2_0 t3_0 t3_1 t4_0 p69 y32 y33 y34 y35 y36 y37 y38 y40 y41 lx92 lx93 lx94 lx95) := by
  unfold S_Rea_takeDecimal_J44 F_Rea_takeDecimal_J44
  refine v_owe v_here ?_
  by_cases g2 : (F_Rea_here y32 y33 y34 y35 y36 y37 y38 lx92 y40 0 t1_0 t2_0 ||| 32) = 101
  · rw [if_pos g2, if_pos g2]
    have hlt := v_herelt2 g2 (by decide)
    have h27 := T_takeExponent (x2 := 4100) (t0_0 := y32) (t0_1 := y33) (t0_2 := y34) (t0_3 := y35) (t0_4 := y36) (t0_5 := y37) (t0_6 := y38) (t0_7 := lx92) (t0_8 := y40) (t0_9 := 0) (t1_0 := t1_0) (t2_0 := t2_0) h0 hlt h2
    refine v_owe h27.1 ?_
    replace h27 := h27.2
    generalize F_Rea_takeExponent 4100 y32 y33 y34 y35 y36 y37 y38 lx92 y40 0 t1_0 t2_0 = p163 at h27 ⊢
    obtain ⟨b1, b2, b3, bn, b4, b5⟩ := h27
    unfold S_Rea_takeDecimal_c65 F_Rea_takeDecimal_c65
    split
    · exact ⟨trivial, Or.inl rfl⟩
    · exact ⟨trivial, Or.inr ⟨b4, b5, b3, bn, v, hv, hl, h⟩⟩
  · rw [if_neg g2, if_neg g2]
    exact ⟨trivial, Or.inr ⟨show -2000000000000 ≤ (0 : Int64).toInt by decide, show (0 : Int64).toInt ≤ 2000000000000 by decide, rfl, rfl, v, hv, hl, h⟩⟩
theorem T_takeDecimal {t0_0 : Int64} {t0_1 : Int64} {t0_2 : Int32} {t0_3 : Int32} {t0_4 : Int32} {t0_5 : Int32} {t0_6 : Int32} {t0_7 : Int32} {t0_8 : Int32} {t0_9 : Int64} {t1_0 : Int32} {t2_0 : (Nat → Int64)} {t3_0 : Int32} {t3_1 : Int32} {t4_0 : (Nat → Int32)} (h0 : 0 ≤ t0_2.toInt) (h1 : t0_2.toInt ≤ t0_3.toInt) (h2 : t0_3.toInt ≤ 100000) : (S_Rea_takeDecimal t0_0 t0_1 t0_2 t0_3 t0_4 t0_5 t0_6 t0_7 t0_8 t0_9 t1_0 t2_0 t3_0 t3_1 t4_0) ∧ RD t0_3.toInt t0_4 (10 ^ 801) (F_Rea_takeDecimal t0_0 t0_1 t0_2 t0_3 t0_4 t0_5 t0_6 t0_7 t0_8 t0_9 t1_0 t2_0 t3_0 t3_1 t4_0) := by
  have e := e220
  unfold S_Rea_takeDecimal F_Rea_takeDecimal
  have h5 : S_Rea_takeFigures (10 : Int32) (800 : Int32) t0_0 t0_1 t0_2 t0_3 t0_4 t0_5 t0_6 t0_7 t0_8 t0_9 t1_0 t2_0 t3_0 t3_1 t4_0 ∧ RP t0_2.toInt t0_3.toInt t0_4 (10 ^ 800) (F_Rea_takeFigures (10 : Int32) (800 : Int32) t0_0 t0_1 t0_2 t0_3 t0_4 t0_5 t0_6 t0_7 t0_8 t0_9 t1_0 t2_0 t3_0 t3_1 t4_0) := T_takeFigures (m := 800) (b := 10) (M := 86) rfl (by decide) rfl (by decide) e1080 (by decide) h0 h1 h2
  refine v_owe h5.1 ?_
  replace h5 := h5.2
  generalize (F_Rea_takeFigures (10 : Int32) (800 : Int32) t0_0 t0_1 t0_2 t0_3 t0_4 t0_5 t0_6 t0_7 t0_8 t0_9 t1_0 t2_0 t3_0 t3_1 t4_0) = p69 at h5 ⊢
  unfold S_Rea_takeDecimal_c6 F_Rea_takeDecimal_c6
  obtain ⟨a1, a2, a3, an, v, a4, a5, a6⟩ := h5
  rw [← a3] at h1 h2 a2 ⊢
  rw [← an]
  by_cases g : p69.1 = 0
  · rw [if_pos g, if_pos g]
    exact ⟨trivial, Or.inl rfl⟩
  rw [if_neg g, if_neg g]
  by_cases g2 : p69.2.2.2.2.2.2.2.2.2.1 = 0
  · rw [if_pos g2, if_pos g2]
    exact T_tdJ (lo := 0) (by omega) a2 h2 a4 (Nat.lt_of_lt_of_le a5 (Nat.pow_le_pow_right (by decide) (by decide))) a6
  · rw [if_neg g2, if_neg g2]
    have s := a6.sB (show bB 86 v from Nat.lt_of_lt_of_le a5 e1080)
    have h31 : P1 220 ((10 : Int32).toInt * v + (1 : Int32).toInt) (F_Big_multiplySmall (220 : Int32) (10 : Int32) (1 : Int32) (p69.2.2.2.2.2.2.2.2.2.2.2.1 : Int32) (p69.2.2.2.2.2.2.2.2.2.2.2.2.1 : Int32) (p69.2.2.2.2.2.2.2.2.2.2.2.2.2 : (Nat → Int32))) := W_mulS a6 a4 (by decide) (by decide) (by omega)
    generalize (F_Big_multiplySmall (220 : Int32) (10 : Int32) (1 : Int32) (p69.2.2.2.2.2.2.2.2.2.2.2.1 : Int32) (p69.2.2.2.2.2.2.2.2.2.2.2.2.1 : Int32) (p69.2.2.2.2.2.2.2.2.2.2.2.2.2 : (Nat → Int32))) = p202 at h31 ⊢
    unfold S_Rea_takeDecimal_c31 F_Rea_takeDecimal_c31
    refine T_tdJ (lo := 0) (by omega) a2 h2 ?_ (v_801 a4 a5) h31
    exact Int.add_nonneg (Int.mul_nonneg (by decide) a4) (by decide)
theorem T_decimalText {t0_0 : Int64} {t0_1 : Int64} {t0_2 : Int32} {t0_3 : Int32} {t0_4 : Int32} {t0_5 : Int32} {t0_6 : Int32} {t0_7 : Int32} {t0_8 : Int32} {t0_9 : Int64} {t1_0 : Int32} {t2_0 : (Nat → Int64)} {t3_0 : Int32} {t3_1 : Int32} {t4_0 : (Nat → Int32)} (h2 : t1_0.toInt ≤ 100000) (h3 : 0 ≤ t1_0.toInt) : (S_Rea_decimalText t0_0 t0_1 t0_2 t0_3 t0_4 t0_5 t0_6 t0_7 t0_8 t0_9 t1_0 t2_0 t3_0 t3_1 t4_0) ∧ ((F_Rea_decimalText t0_0 t0_1 t0_2 t0_3 t0_4 t0_5 t0_6 t0_7 t0_8 t0_9 t1_0 t2_0 t3_0 t3_1 t4_0).1 = 0 ∨ G1 bK (F_Rea_decimalText t0_0 t0_1 t0_2 t0_3 t0_4 t0_5 t0_6 t0_7 t0_8 t0_9 t1_0 t2_0 t3_0 t3_1 t4_0).2.2.2.2.2.2.2.2.2.2.2) := by
  unfold S_Rea_decimalText F_Rea_decimalText
  have hb : RT 0 t1_0.toInt t0_8 (F_Rea_begin t0_0 t0_1 t0_2 t0_3 t0_4 t0_5 t0_6 t0_7 t0_8 t0_9 t1_0 t2_0) := ⟨show (0 : Int) ≤ (0 : Int32).toInt by decide, h3, Int.le_refl _, rfl⟩
  generalize F_Rea_begin t0_0 t0_1 t0_2 t0_3 t0_4 t0_5 t0_6 t0_7 t0_8 t0_9 t1_0 t2_0 = p62 at hb ⊢
  obtain ⟨b1, b2, b3, b8⟩ := hb
  unfold S_Rea_decimalText_c1 F_Rea_decimalText_c1
  have h5 : S_Rea_takeSign (p62.1 : Int64) (p62.2.1 : Int64) (p62.2.2.1 : Int32) (p62.2.2.2.1 : Int32) (p62.2.2.2.2.1 : Int32) (p62.2.2.2.2.2.1 : Int32) (p62.2.2.2.2.2.2.1 : Int32) (p62.2.2.2.2.2.2.2.1 : Int32) (p62.2.2.2.2.2.2.2.2.1 : Int32) (p62.2.2.2.2.2.2.2.2.2 : Int64) t1_0 t2_0 ∧ (fun p => RT p62.2.2.1.toInt p62.2.2.2.1.toInt p62.2.2.2.2.2.2.2.2.1 p ∧ (p.2.2.2.2.1 = 0 ∨ p.2.2.2.2.1 = 1)) (F_Rea_takeSign (p62.1 : Int64) (p62.2.1 : Int64) (p62.2.2.1 : Int32) (p62.2.2.2.1 : Int32) (p62.2.2.2.2.1 : Int32) (p62.2.2.2.2.2.1 : Int32) (p62.2.2.2.2.2.2.1 : Int32) (p62.2.2.2.2.2.2.2.1 : Int32) (p62.2.2.2.2.2.2.2.2.1 : Int32) (p62.2.2.2.2.2.2.2.2.2 : Int64) t1_0 t2_0) := T_takeSign b1 b2 (by omega)
  refine v_owe h5.1 ?_
  replace h5 := h5.2
  generalize (F_Rea_takeSign (p62.1 : Int64) (p62.2.1 : Int64) (p62.2.2.1 : Int32) (p62.2.2.2.1 : Int32) (p62.2.2.2.2.1 : Int32) (p62.2.2.2.2.2.1 : Int32) (p62.2.2.2.2.2.2.1 : Int32) (p62.2.2.2.2.2.2.2.1 : Int32) (p62.2.2.2.2.2.2.2.2.1 : Int32) (p62.2.2.2.2.2.2.2.2.2 : Int64) t1_0 t2_0) = p113 at h5 ⊢
  unfold S_Rea_decimalText_c5 F_Rea_decimalText_c5
  obtain ⟨⟨s1, s2, s3, s8⟩, s9⟩ := h5
  have h14 : S_Rea_takeFigures (10 : Int32) (1000 : Int32) (p113.1 : Int64) (p113.2.1 : Int64) (p113.2.2.1 : Int32) (p113.2.2.2.1 : Int32) (p113.2.2.2.2.1 : Int32) (p113.2.2.2.2.2.1 : Int32) (p113.2.2.2.2.2.2.1 : Int32) (p113.2.2.2.2.2.2.2.1 : Int32) (p113.2.2.2.2.2.2.2.2.1 : Int32) (p113.2.2.2.2.2.2.2.2.2 : Int64) t1_0 t2_0 t3_0 t3_1 t4_0 ∧ RP p113.2.2.1.toInt p113.2.2.2.1.toInt p113.2.2.2.2.1 (10 ^ 1000) (F_Rea_takeFigures (10 : Int32) (1000 : Int32) (p113.1 : Int64) (p113.2.1 : Int64) (p113.2.2.1 : Int32) (p113.2.2.2.1 : Int32) (p113.2.2.2.2.1 : Int32) (p113.2.2.2.2.2.1 : Int32) (p113.2.2.2.2.2.2.1 : Int32) (p113.2.2.2.2.2.2.2.1 : Int32) (p113.2.2.2.2.2.2.2.2.1 : Int32) (p113.2.2.2.2.2.2.2.2.2 : Int64) t1_0 t2_0 t3_0 t3_1 t4_0) := T_takeFigures (m := 1000) (b := 10) (M := 108) rfl (by decide) rfl (by decide) e10k (by decide) (by omega) s2 (by omega)
  refine v_owe h14.1 ?_
  replace h14 := h14.2
  generalize (F_Rea_takeFigures (10 : Int32) (1000 : Int32) (p113.1 : Int64) (p113.2.1 : Int64) (p113.2.2.1 : Int32) (p113.2.2.2.1 : Int32) (p113.2.2.2.2.1 : Int32) (p113.2.2.2.2.2.1 : Int32) (p113.2.2.2.2.2.2.1 : Int32) (p113.2.2.2.2.2.2.2.1 : Int32) (p113.2.2.2.2.2.2.2.2.1 : Int32) (p113.2.2.2.2.2.2.2.2.2 : Int64) t1_0 t2_0 t3_0 t3_1 t4_0) = p172 at h14 ⊢
  unfold S_Rea_decimalText_c14 F_Rea_decimalText_c14
  obtain ⟨a1, a2, a3, an, v, a4, a5, a6⟩ := h14
  have hB : bB 108 v := Nat.lt_of_lt_of_le a5 e10k
  have J50 : ∀ (lx207 lx208 : Int64) (lx209 lx210 lx211 lx212 lx213 lx214 lx215 : Int32) (lx216 : Int64), S_Rea_decimalText_J50 t0_0 t0_1 t0_2 t0_3 t0_4 t0_5 t0_6 t0_7 t0_8 t0_9 t1_0 t2_0 t3_0 t3_1 t4_0 p62 p113 p172 p172.2.2.2.2.2.2.2.2.2.2.2.1 p172.2.2.2.2.2.2.2.2.2.2.2.2.1 p172.2.2.2.2.2.2.2.2.2.2.2.2.2 lx207 lx208 lx209 lx210 lx211 lx212 lx213 lx214 lx215 lx216 ∧ ((F_Rea_decimalText_J50 t0_0 t0_1 t0_2 t0_3 t0_4 t0_5 t0_6 t0_7 t0_8 t0_9 t1_0 t2_0 t3_0 t3_1 t4_0 p62 p113 p172 p172.2.2.2.2.2.2.2.2.2.2.2.1 p172.2.2.2.2.2.2.2.2.2.2.2.2.1 p172.2.2.2.2.2.2.2.2.2.2.2.2.2 lx207 lx208 lx209 lx210 lx211 lx212 lx213 lx214 lx215 lx216).1 = 0 ∨ G1 bK (F_Rea_decimalText_J50 t0_0 t0_1 t0_2 t0_3 t0_4 t0_5 t0_6 t0_7 t0_8 t0_9 t1_0 t2_0 t3_0 t3_1 t4_0 p62 p113 p172 p172.2.2.2.2.2.2.2.2.2.2.2.1 p172.2.2.2.2.2.2.2.2.2.2.2.2.1 p172.2.2.2.2.2.2.2.2.2.2.2.2.2 lx207 lx208 lx209 lx210 lx211 lx212 lx213 lx214 lx215 lx216).2.2.2.2.2.2.2.2.2.2.2) := by
    intro lx207 lx208 lx209 lx210 lx211 lx212 lx213 lx214 lx215 lx216
    have k0 : bK p172.2.2.2.2.2.2.2.2.2.2.2.1 0 p172.2.2.2.2.2.2.2.2.2.2.2.2.2 := a6.abs0.K hB.a0 (by decide)
    unfold S_Rea_decimalText_J50 F_Rea_decimalText_J50 S_Rea_decimalText_J94 F_Rea_decimalText_J94 S_Rea_decimalText_J95 F_Rea_decimalText_J95
    split
    · split
      · split
        · exact ⟨⟨a6.fit, trivial⟩, Or.inr k0⟩
        · exact ⟨⟨a6.fit, trivial⟩, Or.inr k0⟩
      · split
        · split
          · exact ⟨⟨a6.fit, trivial⟩, Or.inr k0⟩
          · exact ⟨⟨a6.fit, trivial⟩, Or.inr k0⟩
        · rename_i g
          have k1 : bK p172.2.2.2.2.2.2.2.2.2.2.2.1 1 p172.2.2.2.2.2.2.2.2.2.2.2.2.2 := (a6.abs1 (v_nle0 g)).K hB.a1 (by decide)
          split
          · exact ⟨⟨a6.fit, trivial⟩, Or.inr k1⟩
          · exact ⟨⟨a6.fit, trivial⟩, Or.inr k1⟩
    · exact ⟨trivial, Or.inl rfl⟩
  by_cases g : p172.1 = 0
  · rw [if_pos g, if_pos g]
    exact ⟨trivial, Or.inl rfl⟩
  rw [if_neg g, if_neg g]
  refine v_owe v_here ?_
  by_cases g2 : (F_Rea_here p172.2.1 p172.2.2.1 p172.2.2.2.1 p172.2.2.2.2.1 p172.2.2.2.2.2.1 p172.2.2.2.2.2.2.1 p172.2.2.2.2.2.2.2.1 p172.2.2.2.2.2.2.2.2.1 p172.2.2.2.2.2.2.2.2.2.1 0 t1_0 t2_0 ||| 32) = 101
  · rw [if_pos g2, if_pos g2]
    have hl := v_herelt2 g2 (by decide)
    have h42 : S_Rea_takeExponent (10 : Int32) (p172.2.1 : Int64) (p172.2.2.1 : Int64) (p172.2.2.2.1 : Int32) (p172.2.2.2.2.1 : Int32) (p172.2.2.2.2.2.1 : Int32) (p172.2.2.2.2.2.2.1 : Int32) (p172.2.2.2.2.2.2.2.1 : Int32) (p172.2.2.2.2.2.2.2.2.1 : Int32) (p172.2.2.2.2.2.2.2.2.2.1 : Int32) (0 : Int64) t1_0 t2_0 ∧ RE p172.2.2.2.1.toInt p172.2.2.2.2.1.toInt p172.2.2.2.2.2.1 (F_Rea_takeExponent (10 : Int32) (p172.2.1 : Int64) (p172.2.2.1 : Int64) (p172.2.2.2.1 : Int32) (p172.2.2.2.2.1 : Int32) (p172.2.2.2.2.2.1 : Int32) (p172.2.2.2.2.2.2.1 : Int32) (p172.2.2.2.2.2.2.2.1 : Int32) (p172.2.2.2.2.2.2.2.2.1 : Int32) (p172.2.2.2.2.2.2.2.2.2.1 : Int32) (0 : Int64) t1_0 t2_0) := T_takeExponent (by omega) hl (by omega)
    refine v_owe h42.1 ?_
    replace h42 := h42.2
    generalize (F_Rea_takeExponent (10 : Int32) (p172.2.1 : Int64) (p172.2.2.1 : Int64) (p172.2.2.2.1 : Int32) (p172.2.2.2.2.1 : Int32) (p172.2.2.2.2.2.1 : Int32) (p172.2.2.2.2.2.2.1 : Int32) (p172.2.2.2.2.2.2.2.1 : Int32) (p172.2.2.2.2.2.2.2.2.1 : Int32) (p172.2.2.2.2.2.2.2.2.2.1 : Int32) (0 : Int64) t1_0 t2_0) = p333 at h42 ⊢
    unfold S_Rea_decimalText_c42 F_Rea_decimalText_c42
    split
    · exact ⟨trivial, Or.inl rfl⟩
    · exact J50 _ _ _ _ _ _ _ _ _ _
  · rw [if_neg g2, if_neg g2]
    exact J50 _ _ _ _ _ _ _ _ _ _

theorem e2048b {v : Int} (h : v.natAbs < 2 ^ 2048) : bB 67 v := v_pB (N := 67) (x := 2048) (by decide) h
theorem v_mul2048 {v d : Int} {b : Nat} (hv : 0 ≤ v) (h : v.natAbs < 2 ^ 2048) (d0 : 0 ≤ d) (hd : d < (b : Int)) (hb : b ≤ 36) : bB 68 ((b : Int) * v + d) := by
  have h2 : bB 67 v := e2048b h
  unfold bB at h2 ⊢
  rw [Nat.pow_succ]
  generalize (2147483648 : Nat) ^ 67 = P at h2 ⊢
  have h3 : (b : Int) * v ≤ 36 * v := Int.mul_le_mul_of_nonneg_right (by omega) hv
  have h4 : 0 ≤ (b : Int) * v := Int.mul_nonneg (by omega) hv
  omega
theorem T_wtL {x2 : Int32} {t0_0 : Int64} {t0_1 : Int64} {t0_2 : Int32} {t0_3 : Int32} {t0_4 : Int32} {t0_5 : Int32} {t0_6 : Int32} {t0_7 : Int32} {t0_8 : Int32} {t0_9 : Int64} {t1_0 : Int32} {t2_0 : (Nat → Int64)} {t3_0 : Int32} {t3_1 : Int32} {t4_0 : (Nat → Int32)} {p62 : (Int64 × Int64 × Int32 × Int32 × Int32 × Int32 × Int32 × Int32 × Int32 × Int64)} {p113 : (Int64 × Int64 × Int32 × Int32 × Int32 × Int32 × Int32 × Int32 × Int32 × Int64)} {y83 : Int64} {y84 : Int64} {y85 : Int32} {y86 : Int32} {y87 : Int32} {y88 : Int32} {y89 : Int32} {y90 : Int32} {y91 : Int32} {y92 : Int64} {p142 : (Int32 × Int32)} {b : Nat} (hb : x2.toInt = (b : Int)) (hb2 : 2 ≤ b) (hb3 : b ≤ 36) (hhi : y86.toInt ≤ 100000) : ∀ (n : Nat) (lx154 : Int32) (lx155 : Int32) (lx156 : Int32) (lx157 : Int32) (lx158 : (Nat → Int32)), ∀ v : Int, y86.toInt - lx155.toInt < (n : Int) → 0 < n → 0 ≤ lx155.toInt → lx155.toInt ≤ 100001 → 0 ≤ v → bB 68 v → (lx154 = 0 ∨ (lx154 = 1 ∧ v.natAbs < 2 ^ 2048)) → bO 220 lx156 lx157 lx158 v → (S_Rea_wholeText_L35 x2 t0_0 t0_1 t0_2 t0_3 t0_4 t0_5 t0_6 t0_7 t0_8 t0_9 t1_0 t2_0 t3_0 t3_1 t4_0 p62 p113 y83 y84 y85 y86 y87 y88 y89 y90 y91 y92 p142 n lx154 lx155 lx156 lx157 lx158) ∧ ((F_Rea_wholeText_L35 x2 t0_0 t0_1 t0_2 t0_3 t0_4 t0_5 t0_6 t0_7 t0_8 t0_9 t1_0 t2_0 t3_0 t3_1 t4_0 p62 p113 y83 y84 y85 y86 y87 y88 y89 y90 y91 y92 p142 n lx154 lx155 lx156 lx157 lx158).1 = 0 ∨ (F_Rea_wholeText_L35 x2 t0_0 t0_1 t0_2 t0_3 t0_4 t0_5 t0_6 t0_7 t0_8 t0_9 t1_0 t2_0 t3_0 t3_1 t4_0 p62 p113 y83 y84 y85 y86 y87 y88 y89 y90 y91 y92 p142 n lx154 lx155 lx156 lx157 lx158).1 = 2 ∨ ((F_Rea_wholeText_L35 x2 t0_0 t0_1 t0_2 t0_3 t0_4 t0_5 t0_6 t0_7 t0_8 t0_9 t1_0 t2_0 t3_0 t3_1 t4_0 p62 p113 y83 y84 y85 y86 y87 y88 y89 y90 y91 y92 p142 n lx154 lx155 lx156 lx157 lx158).1 = 1 ∧ ∃ w : Int, bB 67 w ∧ bO 220 (F_Rea_wholeText_L35 x2 t0_0 t0_1 t0_2 t0_3 t0_4 t0_5 t0_6 t0_7 t0_8 t0_9 t1_0 t2_0 t3_0 t3_1 t4_0 p62 p113 y83 y84 y85 y86 y87 y88 y89 y90 y91 y92 p142 n lx154 lx155 lx156 lx157 lx158).2.2.2.2.2.2.2.2.2.2.2.1 (F_Rea_wholeText_L35 x2 t0_0 t0_1 t0_2 t0_3 t0_4 t0_5 t0_6 t0_7 t0_8 t0_9 t1_0 t2_0 t3_0 t3_1 t4_0 p62 p113 y83 y84 y85 y86 y87 y88 y89 y90 y91 y92 p142 n lx154 lx155 lx156 lx157 lx158).2.2.2.2.2.2.2.2.2.2.2.2.1 (F_Rea_wholeText_L35 x2 t0_0 t0_1 t0_2 t0_3 t0_4 t0_5 t0_6 t0_7 t0_8 t0_9 t1_0 t2_0 t3_0 t3_1 t4_0 p62 p113 y83 y84 y85 y86 y87 y88 y89 y90 y91 y92 p142 n lx154 lx155 lx156 lx157 lx158).2.2.2.2.2.2.2.2.2.2.2.2.2 w)) := by
  have e := e220
  have e2 := e2048
  intro n
  induction n with
  | zero => intros; omega
  | succ n ih =>
    intro lx154 lx155 lx156 lx157 lx158 v hn hn0 hl hl2 hv hB hf h
    rw [S_Rea_wholeText_L35.eq_2, F_Rea_wholeText_L35.eq_2]
    have s := h.sB hB
    by_cases g : y86 ≤ lx155
    · rw [if_pos g, if_pos g]
      have b67 : lx154 ≠ 0 → bB 67 v := fun h9 => by
        rcases hf with h10 | ⟨_, h10⟩
        · exact absurd h10 h9
        · exact e2048b h10
      by_cases g1 : y87 = 0
      · rw [if_pos g1, if_pos g1]
        by_cases g3 : lx154 = 0
        · rw [if_pos g3, if_pos g3]
          exact ⟨⟨h.fit, trivial⟩, Or.inr (Or.inl rfl)⟩
        · rw [if_neg g3, if_neg g3]
          exact ⟨⟨h.fit, trivial⟩, Or.inr (Or.inr ⟨rfl, _, (b67 g3).a0, h.abs0⟩)⟩
      rw [if_neg g1, if_neg g1]
      by_cases g2 : lx156 ≤ 0
      · rw [if_pos g2, if_pos g2]
        by_cases g3 : lx154 = 0
        · rw [if_pos g3, if_pos g3]
          exact ⟨trivial, Or.inr (Or.inl rfl)⟩
        · rw [if_neg g3, if_neg g3]
          exact ⟨trivial, Or.inr (Or.inr ⟨rfl, _, (b67 g3).a0, h.abs0⟩)⟩
      rw [if_neg g2, if_neg g2]
      by_cases g3 : lx154 = 0
      · rw [if_pos g3, if_pos g3]
        exact ⟨⟨h.fit, trivial⟩, Or.inr (Or.inl rfl)⟩
      · rw [if_neg g3, if_neg g3]
        exact ⟨⟨h.fit, trivial⟩, Or.inr (Or.inr ⟨rfl, _, (b67 g3).a1, h.abs1 (v_nle0 g2)⟩)⟩
    rw [if_neg g, if_neg g]
    have g' := q_nleI g
    have ej := v_sc (i := lx155) (by omega) (by omega)
    refine v_owe v_dig ?_
    have d0 := v_digB (t0_0 := y83) (t0_1 := y84) (t0_2 := lx155) (t0_3 := y86) (t0_4 := y87) (t0_5 := y88) (t0_6 := y89) (t0_7 := y90) (t0_8 := y91) (t0_9 := y92) (t1_0 := t1_0) (t2_0 := t2_0)
    generalize F_Rea_digitHere y83 y84 lx155 y86 y87 y88 y89 y90 y91 y92 t1_0 t2_0 = dg at d0 ⊢
    by_cases g2 : dg < x2
    · rw [if_pos g2, if_pos g2]
      have g2' := q_ltI g2
      by_cases g3 : lx154 = 0
      · rw [if_pos g3, if_pos g3]
        exact ih _ _ _ _ _ v (by omega) (by omega) (by omega) (by omega) hv hB (Or.inl g3) h
      · rw [if_neg g3, if_neg g3]
        have hf2 : v.natAbs < 2 ^ 2048 := by
          rcases hf with h10 | ⟨_, h10⟩
          · exact absurd h10 g3
          · exact h10
        have h68 := W_mulS (x := x2) (y := dg) h hv (by omega) d0 (by omega)
        rw [hb] at h68
        have hB2 := v_mul2048 hv hf2 d0 (by omega) hb3
        have hv2 : 0 ≤ (b : Int) * v + dg.toInt := Int.add_nonneg (Int.mul_nonneg (by omega) hv) d0
        generalize (b : Int) * v + dg.toInt = w at h68 hB2 hv2
        generalize F_Big_multiplySmall 220 x2 dg lx156 lx157 lx158 = p237 at h68 ⊢
        unfold S_Rea_wholeText_c68 F_Rea_wholeText_c68
        by_cases g4 : 2048 < F_Big_bitLength 220 p237.1 p237.2.1 p237.2.2
        · rw [if_pos g4, if_pos g4]
          exact ih _ _ _ _ _ w (by omega) (by omega) (by omega) (by omega) hv2 hB2 (Or.inl rfl) h68
        · rw [if_neg g4, if_neg g4]
          have g5 := q_nltI g4
          have g6 := W_bits (x := 2048) h68 g5
          exact ih _ _ _ _ _ w (by omega) (by omega) (by omega) (by omega) hv2 hB2 (Or.inr ⟨rfl, g6⟩) h68
    · rw [if_neg g2, if_neg g2]
      exact ⟨trivial, Or.inl rfl⟩
theorem T_wholeText {x2 : Int32} {t0_0 : Int64} {t0_1 : Int64} {t0_2 : Int32} {t0_3 : Int32} {t0_4 : Int32} {t0_5 : Int32} {t0_6 : Int32} {t0_7 : Int32} {t0_8 : Int32} {t0_9 : Int64} {t1_0 : Int32} {t2_0 : (Nat → Int64)} {t3_0 : Int32} {t3_1 : Int32} {t4_0 : (Nat → Int32)} {b : Nat} (hb : x2.toInt = (b : Int)) (hb2 : 2 ≤ b) (hb3 : b ≤ 36) (h2 : t1_0.toInt ≤ 100000) (h3 : 0 ≤ t1_0.toInt) : (S_Rea_wholeText x2 t0_0 t0_1 t0_2 t0_3 t0_4 t0_5 t0_6 t0_7 t0_8 t0_9 t1_0 t2_0 t3_0 t3_1 t4_0) ∧ ((F_Rea_wholeText x2 t0_0 t0_1 t0_2 t0_3 t0_4 t0_5 t0_6 t0_7 t0_8 t0_9 t1_0 t2_0 t3_0 t3_1 t4_0).1 = 0 ∨ (F_Rea_wholeText x2 t0_0 t0_1 t0_2 t0_3 t0_4 t0_5 t0_6 t0_7 t0_8 t0_9 t1_0 t2_0 t3_0 t3_1 t4_0).1 = 2 ∨ ((F_Rea_wholeText x2 t0_0 t0_1 t0_2 t0_3 t0_4 t0_5 t0_6 t0_7 t0_8 t0_9 t1_0 t2_0 t3_0 t3_1 t4_0).1 = 1 ∧ ∃ w : Int, bB 67 w ∧ bO 220 (F_Rea_wholeText x2 t0_0 t0_1 t0_2 t0_3 t0_4 t0_5 t0_6 t0_7 t0_8 t0_9 t1_0 t2_0 t3_0 t3_1 t4_0).2.2.2.2.2.2.2.2.2.2.2.1 (F_Rea_wholeText x2 t0_0 t0_1 t0_2 t0_3 t0_4 t0_5 t0_6 t0_7 t0_8 t0_9 t1_0 t2_0 t3_0 t3_1 t4_0).2.2.2.2.2.2.2.2.2.2.2.2.1 (F_Rea_wholeText x2 t0_0 t0_1 t0_2 t0_3 t0_4 t0_5 t0_6 t0_7 t0_8 t0_9 t1_0 t2_0 t3_0 t3_1 t4_0).2.2.2.2.2.2.2.2.2.2.2.2.2 w)) := by
  unfold S_Rea_wholeText F_Rea_wholeText
  have hbg : RT 0 t1_0.toInt t0_8 (F_Rea_begin t0_0 t0_1 t0_2 t0_3 t0_4 t0_5 t0_6 t0_7 t0_8 t0_9 t1_0 t2_0) := ⟨show (0 : Int) ≤ (0 : Int32).toInt by decide, h3, Int.le_refl _, rfl⟩
  generalize F_Rea_begin t0_0 t0_1 t0_2 t0_3 t0_4 t0_5 t0_6 t0_7 t0_8 t0_9 t1_0 t2_0 = p62 at hbg ⊢
  obtain ⟨b1, b2, b3, b8⟩ := hbg
  unfold S_Rea_wholeText_c1 F_Rea_wholeText_c1
  have h5 : S_Rea_takeSign (p62.1 : Int64) (p62.2.1 : Int64) (p62.2.2.1 : Int32) (p62.2.2.2.1 : Int32) (p62.2.2.2.2.1 : Int32) (p62.2.2.2.2.2.1 : Int32) (p62.2.2.2.2.2.2.1 : Int32) (p62.2.2.2.2.2.2.2.1 : Int32) (p62.2.2.2.2.2.2.2.2.1 : Int32) (p62.2.2.2.2.2.2.2.2.2 : Int64) t1_0 t2_0 ∧ (fun p => RT p62.2.2.1.toInt p62.2.2.2.1.toInt p62.2.2.2.2.2.2.2.2.1 p ∧ (p.2.2.2.2.1 = 0 ∨ p.2.2.2.2.1 = 1)) (F_Rea_takeSign (p62.1 : Int64) (p62.2.1 : Int64) (p62.2.2.1 : Int32) (p62.2.2.2.1 : Int32) (p62.2.2.2.2.1 : Int32) (p62.2.2.2.2.2.1 : Int32) (p62.2.2.2.2.2.2.1 : Int32) (p62.2.2.2.2.2.2.2.1 : Int32) (p62.2.2.2.2.2.2.2.2.1 : Int32) (p62.2.2.2.2.2.2.2.2.2 : Int64) t1_0 t2_0) := T_takeSign b1 b2 (by omega)
  refine v_owe h5.1 ?_
  replace h5 := h5.2
  generalize (F_Rea_takeSign (p62.1 : Int64) (p62.2.1 : Int64) (p62.2.2.1 : Int32) (p62.2.2.2.1 : Int32) (p62.2.2.2.2.1 : Int32) (p62.2.2.2.2.2.1 : Int32) (p62.2.2.2.2.2.2.1 : Int32) (p62.2.2.2.2.2.2.2.1 : Int32) (p62.2.2.2.2.2.2.2.2.1 : Int32) (p62.2.2.2.2.2.2.2.2.2 : Int64) t1_0 t2_0) = p113 at h5 ⊢
  unfold S_Rea_wholeText_c5 F_Rea_wholeText_c5
  obtain ⟨⟨s1, s2, s3, s8⟩, s9⟩ := h5
  have h17 : (fun p => bO 220 p.1 p.2 t4_0 0) (F_Big_clear (220 : Int32) t3_0 t3_1) := W_clear (by decide) (by decide)
  generalize (F_Big_clear (220 : Int32) t3_0 t3_1) = p142 at h17 ⊢
  unfold S_Rea_wholeText_c17 F_Rea_wholeText_c17
  split
  · exact T_wtL hb hb2 hb3 (by omega) _ _ _ _ _ _ 0 (by omega) (by omega) (by omega) (by omega) (by decide) (by show 0 < _; exact Nat.pow_pos (by decide)) (Or.inr ⟨rfl, by show 0 < _; exact Nat.pow_pos (by decide)⟩) h17
  · exact ⟨trivial, Or.inl rfl⟩
theorem S_floatText {A : Int32} {B : Int32} {C : Int32} {t0_0 : Int64} {t0_1 : Int64} {t0_2 : Int32} {t0_3 : Int32} {t0_4 : Int32} {t0_5 : Int32} {t0_6 : Int32} {t0_7 : Int32} {t0_8 : Int32} {t0_9 : Int64} {t1_0 : Int32} {t2_0 : (Nat → Int64)} {t3_0 : Int32} {t3_1 : Int32} {t4_0 : (Nat → Int32)} {t5_0 : Int32} {t5_1 : Int32} {t6_0 : (Nat → Int32)} {t7_0 : Int32} {t7_1 : Int32} {t8_0 : (Nat → Int32)} {t9_0 : Int32} {t9_1 : Int32} {t10_0 : (Nat → Int32)} {t11_0 : Int32} {t11_1 : Int32} {t12_0 : (Nat → Int32)} (h2 : t1_0.toInt ≤ 100000) (h3 : 0 ≤ t1_0.toInt) (h8 : 0 ≤ t0_8.toInt ∧ t0_8.toInt ≤ 1) : (S_Rea_floatText A B C t0_0 t0_1 t0_2 t0_3 t0_4 t0_5 t0_6 t0_7 t0_8 t0_9 t1_0 t2_0 t3_0 t3_1 t4_0 t5_0 t5_1 t6_0 t7_0 t7_1 t8_0 t9_0 t9_1 t10_0 t11_0 t11_1 t12_0) := by
  unfold S_Rea_floatText
  have hbg : RT 0 t1_0.toInt t0_8 (F_Rea_begin t0_0 t0_1 t0_2 t0_3 t0_4 t0_5 t0_6 t0_7 t0_8 t0_9 t1_0 t2_0) := ⟨show (0 : Int) ≤ (0 : Int32).toInt by decide, h3, Int.le_refl _, rfl⟩
  generalize F_Rea_begin t0_0 t0_1 t0_2 t0_3 t0_4 t0_5 t0_6 t0_7 t0_8 t0_9 t1_0 t2_0 = p94 at hbg ⊢
  obtain ⟨b1, b2, b3, b8⟩ := hbg
  unfold S_Rea_floatText_c1
  obtain ⟨f1, f2⟩ := T_trimBlanks (t0_0 := p94.1) (t0_1 := p94.2.1) (t0_4 := p94.2.2.2.2.1) (t0_5 := p94.2.2.2.2.2.1) (t0_6 := p94.2.2.2.2.2.2.1) (t0_7 := p94.2.2.2.2.2.2.2.1) (t0_8 := p94.2.2.2.2.2.2.2.2.1) (t0_9 := p94.2.2.2.2.2.2.2.2.2) (t1_0 := t1_0) (t2_0 := t2_0) b1 b2 (by omega)
  refine ⟨⟨trivial, f1⟩, ?_⟩
  generalize F_Rea_trimBlanks p94.1 p94.2.1 p94.2.2.1 p94.2.2.2.1 p94.2.2.2.2.1 p94.2.2.2.2.2.1 p94.2.2.2.2.2.2.1 p94.2.2.2.2.2.2.2.1 p94.2.2.2.2.2.2.2.2.1 p94.2.2.2.2.2.2.2.2.2 t1_0 t2_0 = p145 at f2 ⊢
  obtain ⟨c1, c2, c3, c8⟩ := f2
  unfold S_Rea_floatText_c5
  obtain ⟨g1, g2⟩ := T_takeSign (t0_0 := p145.1) (t0_1 := p145.2.1) (t0_4 := p145.2.2.2.2.1) (t0_5 := p145.2.2.2.2.2.1) (t0_6 := p145.2.2.2.2.2.2.1) (t0_7 := p145.2.2.2.2.2.2.2.1) (t0_8 := p145.2.2.2.2.2.2.2.2.1) (t0_9 := p145.2.2.2.2.2.2.2.2.2) (t1_0 := t1_0) (t2_0 := t2_0) (Int.le_trans b1 c1) c2 (by omega)
  refine ⟨⟨trivial, g1⟩, ?_⟩
  generalize F_Rea_takeSign p145.1 p145.2.1 p145.2.2.1 p145.2.2.2.1 p145.2.2.2.2.1 p145.2.2.2.2.2.1 p145.2.2.2.2.2.2.1 p145.2.2.2.2.2.2.2.1 p145.2.2.2.2.2.2.2.2.1 p145.2.2.2.2.2.2.2.2.2 t1_0 t2_0 = p196 at g2 ⊢
  obtain ⟨⟨d1, d2, d3, d8⟩, dn⟩ := g2
  have d8' : 0 ≤ p196.2.2.2.2.2.2.2.2.1.toInt ∧ p196.2.2.2.2.2.2.2.2.1.toInt ≤ 1 := by
    rw [d8, c8, b8]
    exact h8
  unfold S_Rea_floatText_c9
  refine ⟨⟨trivial, S_says20⟩, ?_⟩
  split
  · refine ⟨⟨trivial, S_says21⟩, ?_⟩
    split
    · obtain ⟨m1, m2, m3, m4, mn⟩ := T_takeHexMark (t0_0 := p196.1) (t0_1 := p196.2.1) (t0_4 := p196.2.2.2.2.1) (t0_5 := p196.2.2.2.2.2.1) (t0_6 := p196.2.2.2.2.2.2.1) (t0_7 := p196.2.2.2.2.2.2.2.1) (t0_8 := p196.2.2.2.2.2.2.2.2.1) (t0_9 := p196.2.2.2.2.2.2.2.2.2) (t1_0 := t1_0) (t2_0 := t2_0) (Int.le_trans b1 (Int.le_trans c1 d1)) d2 (by omega)
      refine ⟨⟨trivial, m1⟩, ?_⟩
      generalize F_Rea_takeHexadecimalMark p196.1 p196.2.1 p196.2.2.1 p196.2.2.2.1 p196.2.2.2.2.1 p196.2.2.2.2.2.1 p196.2.2.2.2.2.2.1 p196.2.2.2.2.2.2.2.1 p196.2.2.2.2.2.2.2.2.1 p196.2.2.2.2.2.2.2.2.2 t1_0 t2_0 = p279 at m2 m3 m4 mn ⊢
      rw [← m4] at m3
      generalize F_Flo_signBit A B C p196.2.2.2.2.1 = j229
      unfold S_Rea_floatText_c62
      have fin : ∀ (a245 : Int32) (p : Int32 × Int64 × Int64 × Int32 × Int32 × Int32 × Int32 × Int32 × Int32 × Int32 × Int64 × Int32 × Int32 × (Nat → Int32)) (M : Nat), M ≤ 10 ^ 801 → RD p279.2.2.2.2.1.toInt p279.2.2.2.2.2.1 M p → p.1 ≠ 0 → S_Rea_floatText_J89 A B C t0_0 t0_1 t0_2 t0_3 t0_4 t0_5 t0_6 t0_7 t0_8 t0_9 t1_0 t2_0 t3_0 t3_1 t4_0 t5_0 t5_1 t6_0 t7_0 t7_1 t8_0 t9_0 t9_1 t10_0 t11_0 t11_1 t12_0 p94 p145 p196 j229 p279 a245 p.2.1 p.2.2.1 p.2.2.2.1 p.2.2.2.2.1 p.2.2.2.2.2.1 p.2.2.2.2.2.2.1 p.2.2.2.2.2.2.2.1 p.2.2.2.2.2.2.2.2.1 p.2.2.2.2.2.2.2.2.2.1 p.2.2.2.2.2.2.2.2.2.2.1 p.2.2.2.2.2.2.2.2.2.2.2.1 p.2.2.2.2.2.2.2.2.2.2.2.2.1 p.2.2.2.2.2.2.2.2.2.2.2.2.2 := by
        intro a245 p M hM hp hp0
        rcases hp with hp | ⟨r1, r2, r3, rn, v, r4, r5, r6⟩
        · exact absurd hp hp0
        unfold S_Rea_floatText_J89
        obtain ⟨n1, n2, n3⟩ := T_takeEnding (t0_0 := p.2.1) (t0_1 := p.2.2.1) (t0_2 := p.2.2.2.1) (t0_3 := p.2.2.2.2.1) (t0_4 := p.2.2.2.2.2.1) (t0_5 := p.2.2.2.2.2.2.1) (t0_6 := p.2.2.2.2.2.2.2.1) (t0_7 := p.2.2.2.2.2.2.2.2.1) (t0_8 := p.2.2.2.2.2.2.2.2.2.1) (t1_0 := t1_0) (t2_0 := t2_0) ⟨r1, r2⟩
        refine ⟨⟨trivial, n1⟩, ?_⟩
        generalize F_Rea_takeEnding p.2.1 p.2.2.1 p.2.2.2.1 p.2.2.2.2.1 p.2.2.2.2.2.1 p.2.2.2.2.2.2.1 p.2.2.2.2.2.2.2.1 p.2.2.2.2.2.2.2.2.1 p.2.2.2.2.2.2.2.2.2.1 p.2.2.2.2.2.2.2.2.2.2.1 t1_0 t2_0 = p382 at n2 n3 ⊢
        have ng : 0 ≤ p382.2.2.2.2.2.1.toInt ∧ p382.2.2.2.2.2.1.toInt ≤ 1 := by
          rw [n3, rn, mn]
          rcases dn with h | h <;> rw [h] <;> decide
        unfold S_Rea_floatText_c90
        split
        · trivial
        · split
          · have lo := Int32.le_toInt (p382.2.2.2.2.2.2.1 - p382.2.2.2.2.2.2.2.2.1)
            have hi := Int32.toInt_lt (p382.2.2.2.2.2.2.1 - p382.2.2.2.2.2.2.2.2.1)
            have q1 : ((p382.2.2.2.2.2.2.1 - p382.2.2.2.2.2.2.2.2.1 : Int32).toInt64 - p382.2.2.2.2.2.2.2.2.2.2 : Int64).toInt = (p382.2.2.2.2.2.2.1 - p382.2.2.2.2.2.2.2.2.1 : Int32).toInt - p.2.2.2.2.2.2.2.2.2.2.1.toInt := q_subL (q_i2l rfl) (by rw [n2]) (by omega) (by omega)
            refine ⟨⟨trivial, S_near r6 (Nat.lt_of_lt_of_le r5 (Nat.le_trans hM (Nat.pow_le_pow_right (by decide) (by decide)))) (by rw [q1]; omega) (by rw [q1]; omega)⟩, ?_⟩
            exact ⟨ng.1, ng.2, trivial⟩
          · exact ⟨ng.1, ng.2, trivial⟩
      have o0 : 0 ≤ p279.2.2.2.1.toInt := Int.le_trans b1 (Int.le_trans c1 (Int.le_trans d1 m2))
      have o2 : p279.2.2.2.2.1.toInt ≤ 100000 := by omega
      by_cases g : p279.1 = 0
      · rw [if_pos g]
        obtain ⟨k1, k2⟩ := T_takeDecimal (t0_0 := p279.2.1) (t0_1 := p279.2.2.1) (t0_4 := p279.2.2.2.2.2.1) (t0_5 := p279.2.2.2.2.2.2.1) (t0_6 := p279.2.2.2.2.2.2.2.1) (t0_7 := p279.2.2.2.2.2.2.2.2.1) (t0_8 := p279.2.2.2.2.2.2.2.2.2.1) (t0_9 := p279.2.2.2.2.2.2.2.2.2.2) (t1_0 := t1_0) (t2_0 := t2_0) (t3_0 := t3_0) (t3_1 := t3_1) (t4_0 := t4_0) o0 m3 o2
        refine ⟨⟨trivial, k1⟩, ?_⟩
        generalize F_Rea_takeDecimal p279.2.1 p279.2.2.1 p279.2.2.2.1 p279.2.2.2.2.1 p279.2.2.2.2.2.1 p279.2.2.2.2.2.2.1 p279.2.2.2.2.2.2.2.1 p279.2.2.2.2.2.2.2.2.1 p279.2.2.2.2.2.2.2.2.2.1 p279.2.2.2.2.2.2.2.2.2.2 t1_0 t2_0 t3_0 t3_1 t4_0 = p553 at k2 ⊢
        unfold S_Rea_floatText_c83
        split
        · trivial
        · rename_i hh
          exact fin _ _ _ (Nat.le_refl _) k2 hh
      · rw [if_neg g]
        obtain ⟨k1, k2⟩ := T_takeHexadecimal (t0_0 := p279.2.1) (t0_1 := p279.2.2.1) (t0_4 := p279.2.2.2.2.2.1) (t0_5 := p279.2.2.2.2.2.2.1) (t0_6 := p279.2.2.2.2.2.2.2.1) (t0_7 := p279.2.2.2.2.2.2.2.2.1) (t0_8 := p279.2.2.2.2.2.2.2.2.2.1) (t0_9 := p279.2.2.2.2.2.2.2.2.2.2) (t1_0 := t1_0) (t2_0 := t2_0) (t3_0 := t3_0) (t3_1 := t3_1) (t4_0 := t4_0) o0 m3 o2
        refine ⟨⟨trivial, k1⟩, ?_⟩
        generalize F_Rea_takeHexadecimal p279.2.1 p279.2.2.1 p279.2.2.2.1 p279.2.2.2.2.1 p279.2.2.2.2.2.1 p279.2.2.2.2.2.2.1 p279.2.2.2.2.2.2.2.1 p279.2.2.2.2.2.2.2.2.1 p279.2.2.2.2.2.2.2.2.2.1 p279.2.2.2.2.2.2.2.2.2.2 t1_0 t2_0 t3_0 t3_1 t4_0 = p617 at k2 ⊢
        unfold S_Rea_floatText_c73
        split
        · trivial
        · rename_i hh
          exact fin _ _ (16 ^ 40) (by decide +kernel) k2 hh
    · exact ⟨d8'.1, d8'.2, trivial⟩
  · exact ⟨d8'.1, d8'.2, trivial⟩
