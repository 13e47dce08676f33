/-! DecimalWork by its own one: the same rows -/
theorem T_divideRaised_o {R : Int32} {R2 : Int32} {x4 : Int32} {t0_0 : Int64} {t0_1 : Int32} {t1_0 : Int32} {t1_1 : Int32} {t2_0 : (Nat → Int32)} {t3_0 : Int32} {t3_1 : Int32} {t4_0 : (Nat → Int32)} {t5_0 : Int32} {t5_1 : Int32} {t6_0 : (Nat → Int32)} {t7_0 : Int32} {t7_1 : Int32} {t8_0 : Int32} {t8_1 : Int32} {t9_0 : (Nat → Int32)} {t10_0 : Int32} {t10_1 : Int32} {t11_0 : Int32} {t11_1 : Int32} {t12_0 : (Nat → Int32)} {va vb : Int} {M : Nat} (ha : bO R t8_0 t8_1 t9_0 va) (hb : bO R2 t11_0 t11_1 t12_0 vb) (hv : vb ≠ 0) (hm : va.natAbs * 10 ^ x4.toNatClampNeg < 2147483648 ^ M) (hM : M ≤ 218) : (S_DW_divideRaised_o R R2 x4 t0_0 t0_1 t1_0 t1_1 t2_0 t3_0 t3_1 t4_0 t5_0 t5_1 t6_0 t7_0 t7_1 t8_0 t8_1 t9_0 t10_0 t10_1 t11_0 t11_1 t12_0) ∧ ((F_DW_divideRaised_o R R2 x4 t0_0 t0_1 t1_0 t1_1 t2_0 t3_0 t3_1 t4_0 t5_0 t5_1 t6_0 t7_0 t7_1 t8_0 t8_1 t9_0 t10_0 t10_1 t11_0 t11_1 t12_0).2.1 = 0 ∨ (F_DW_divideRaised_o R R2 x4 t0_0 t0_1 t1_0 t1_1 t2_0 t3_0 t3_1 t4_0 t5_0 t5_1 t6_0 t7_0 t7_1 t8_0 t8_1 t9_0 t10_0 t10_1 t11_0 t11_1 t12_0).2.1 = 1) ∧ G4 (bP 220 M) (bI 220) (bI 220) (bW R2 vb) (F_DW_divideRaised_o R R2 x4 t0_0 t0_1 t1_0 t1_1 t2_0 t3_0 t3_1 t4_0 t5_0 t5_1 t6_0 t7_0 t7_1 t8_0 t8_1 t9_0 t10_0 t10_1 t11_0 t11_1 t12_0).2.2 := by
  have e := e220
  unfold S_DW_divideRaised_o F_DW_divideRaised_o
  have h1 : P1 220 va (F_Big_copy (220 : Int32) R t5_0 t5_1 t6_0 t8_0 t8_1 t9_0) := W_copy ha ha.fit (by decide)
  generalize (F_Big_copy (220 : Int32) R t5_0 t5_1 t6_0 t8_0 t8_1 t9_0) = p70 at h1 ⊢
  unfold S_DW_divideRaised_o_c11 F_DW_divideRaised_o_c11
  have h2 : P1 220 (va * 10 ^ x4.toNatClampNeg) (F_Big_timesTen (220 : Int32) x4 (p70.1 : Int32) (p70.2.1 : Int32) (p70.2.2 : (Nat → Int32))) := W_ten (M := M) h1 (by omega) hm
  generalize (F_Big_timesTen (220 : Int32) x4 (p70.1 : Int32) (p70.2.1 : Int32) (p70.2.2 : (Nat → Int32))) = p93 at h2 ⊢
  unfold S_DW_divideRaised_o_c22 F_DW_divideRaised_o_c22
  obtain ⟨w, w1, w2, w3, w4, w5⟩ := W_drop (x2 := -x4) h2
  have hB : bB M w := (v_abT hm).le (by rw [w1]; exact Nat.div_le_self _ _)
  generalize F_Big_dropFigures 220 (-x4) p93.1 p93.2.1 p93.2.2 = p122 at w4 w5 ⊢
  unfold S_DW_divideRaised_o_c35 F_DW_divideRaised_o_c35
  have sw := w5.sB hB
  have h3 : S_Big_divideBy (220 : Int32) R2 (220 : Int32) (p122.2.1 : Int32) (p122.2.2.1 : Int32) (p122.2.2.2 : (Nat → Int32)) t11_0 t11_1 t12_0 t3_0 t3_1 t4_0 ∧ P3 220 R2 220 (w.tmod vb) vb ((w.natAbs / vb.natAbs : Nat) : Int) (F_Big_divideBy (220 : Int32) R2 (220 : Int32) (p122.2.1 : Int32) (p122.2.2.1 : Int32) (p122.2.2.2 : (Nat → Int32)) t11_0 t11_1 t12_0 t3_0 t3_1 t4_0) := W_divideBy w5 hb hv (by omega) (by omega) (by decide)
  refine v_owe h3.1 ?_
  replace h3 := h3.2
  generalize (F_Big_divideBy (220 : Int32) R2 (220 : Int32) (p122.2.1 : Int32) (p122.2.2.1 : Int32) (p122.2.2.2 : (Nat → Int32)) t11_0 t11_1 t12_0 t3_0 t3_1 t4_0) = p170 at h3 ⊢
  unfold S_DW_divideRaised_o_c59 F_DW_divideRaised_o_c59
  have hq : bP 220 M _ _ _ := ⟨_, Int.natCast_nonneg _, hB.ndiv, W_copy (R := 220) (s := t1_0) (neg := t1_1) (f := t2_0) h3.2.2 h3.2.2.fit (by decide)⟩
  split
  · exact ⟨trivial, (v_oi _ w4).1, hq, h3.2.2.I, h3.1.I, h3.2.1⟩
  · exact ⟨trivial, (v_oi _ w4).2, hq, h3.2.2.I, h3.1.I, h3.2.1⟩
theorem T_divideToScale_o {R : Int32} {R2 : Int32} {x4 : Int32} {x5 : Int32} {t0_0 : Int64} {t0_1 : Int32} {t1_0 : Int32} {t1_1 : Int32} {t2_0 : (Nat → Int32)} {t3_0 : Int32} {t3_1 : Int32} {t4_0 : (Nat → Int32)} {t5_0 : Int32} {t5_1 : Int32} {t6_0 : (Nat → Int32)} {t7_0 : Int32} {t7_1 : Int32} {t8_0 : Int32} {t8_1 : Int32} {t9_0 : (Nat → Int32)} {t10_0 : Int32} {t10_1 : Int32} {t11_0 : Int32} {t11_1 : Int32} {t12_0 : (Nat → Int32)} {va vb : Int} (ha : dO R t8_0 t8_1 t9_0 t7_0 t7_1 va) (hb : dO R2 t11_0 t11_1 t12_0 t10_0 t10_1 vb) (hv : vb ≠ 0) (hx : -10000 ≤ x4.toInt) (hx2 : x4.toInt ≤ 10000) (i0 : bI 220 t1_0 t1_1 t2_0) (i1 : bI 220 t3_0 t3_1 t4_0) (i2 : bI 220 t5_0 t5_1 t6_0) : (S_DW_divideToScale_o R R2 x4 x5 t0_0 t0_1 t1_0 t1_1 t2_0 t3_0 t3_1 t4_0 t5_0 t5_1 t6_0 t7_0 t7_1 t8_0 t8_1 t9_0 t10_0 t10_1 t11_0 t11_1 t12_0) ∧ Dq (F_DW_divideToScale_o R R2 x4 x5 t0_0 t0_1 t1_0 t1_1 t2_0 t3_0 t3_1 t4_0 t5_0 t5_1 t6_0 t7_0 t7_1 t8_0 t8_1 t9_0 t10_0 t10_1 t11_0 t11_1 t12_0).1 (F_DW_divideToScale_o R R2 x4 x5 t0_0 t0_1 t1_0 t1_1 t2_0 t3_0 t3_1 t4_0 t5_0 t5_1 t6_0 t7_0 t7_1 t8_0 t8_1 t9_0 t10_0 t10_1 t11_0 t11_1 t12_0).2.2.2.1 (F_DW_divideToScale_o R R2 x4 x5 t0_0 t0_1 t1_0 t1_1 t2_0 t3_0 t3_1 t4_0 t5_0 t5_1 t6_0 t7_0 t7_1 t8_0 t8_1 t9_0 t10_0 t10_1 t11_0 t11_1 t12_0).2.2.2.2.1 (F_DW_divideToScale_o R R2 x4 x5 t0_0 t0_1 t1_0 t1_1 t2_0 t3_0 t3_1 t4_0 t5_0 t5_1 t6_0 t7_0 t7_1 t8_0 t8_1 t9_0 t10_0 t10_1 t11_0 t11_1 t12_0).2.2.2.2.2.1 ∧ G4 (bI 220) (bI 220) (bI 220) (bW R2 vb) (F_DW_divideToScale_o R R2 x4 x5 t0_0 t0_1 t1_0 t1_1 t2_0 t3_0 t3_1 t4_0 t5_0 t5_1 t6_0 t7_0 t7_1 t8_0 t8_1 t9_0 t10_0 t10_1 t11_0 t11_1 t12_0).2.2.2 := by
  have e := e220
  have eK : (1000 : Int32).toInt = 1000 := rfl
  obtain ⟨ha1, ⟨ca, ca1, ca2, ca3⟩, ha3, ha4⟩ := ha
  obtain ⟨hb1, ⟨cb, cb1, cb2, cb3⟩, hb3, hb4⟩ := hb
  have q1 : (x4 + t10_0 : Int32).toInt = x4.toInt + t10_0.toInt := q_addI rfl rfl (by omega) (by omega)
  have q2 : (x4 + t10_0 - t7_0 : Int32).toInt = x4.toInt + t10_0.toInt - t7_0.toInt := q_subI q1 rfl (by omega) (by omega)
  unfold S_DW_divideToScale_o F_DW_divideToScale_o
  by_cases g : t8_0 = 0
  · rw [if_pos g, if_pos g]
    have h1 : bO 220 (F_Big_clear 220 t1_0 t1_1).1 (F_Big_clear 220 t1_0 t1_1).2 t2_0 0 := W_clear (by decide) (by decide)
    exact ⟨trivial, Or.inr ⟨rfl, h1.K (M := 0) (by show 0 < _; decide) (by decide)⟩, h1.I, i1, i2, hb1⟩
  rw [if_neg g, if_neg g]
  obtain ⟨a62, ea⟩ := q_nm (x4 + t10_0 - t7_0 : Int32)
  rw [ea] at q2 ⊢
  by_cases g2 : (t7_1 + a62 - t10_1 : Int32) ≤ 1000
  · rw [if_pos g2, if_pos g2]
    have g3 := q_leI g2
    have q5 : (t7_1 + a62 : Int32).toInt = (ca : Int) + a62.toInt := q_addI ca1 rfl (by omega) (by omega)
    rw [q_subI q5 cb1 (by omega) (by omega)] at g3
    have q6 : (a62 + 1 : Int32).toInt = a62.toInt + 1 := q_addI rfl v_e1 (by omega) (by omega)
    have d := T_divideRaised_o (x4 := a62 + 1) (t0_0 := x4.toInt64) (t0_1 := t0_1) (t1_0 := t1_0) (t1_1 := t1_1) (t2_0 := t2_0) (t3_0 := t3_0) (t3_1 := t3_1) (t4_0 := t4_0) (t5_0 := t5_0) (t5_1 := t5_1) (t6_0 := t6_0) (t7_0 := t7_0) (t7_1 := t7_1) (t10_0 := t10_0) (t10_1 := t10_1) (M := 215) ha1 hb1 hv (v_rf ca2.2.1 ca3 (by omega)) (by decide)
    refine v_owe d.1 ?_
    replace d := d.2
    generalize F_DW_divideRaised_o R R2 (a62 + 1) x4.toInt64 t0_1 t1_0 t1_1 t2_0 t3_0 t3_1 t4_0 t5_0 t5_1 t6_0 t7_0 t7_1 t8_0 t8_1 t9_0 t10_0 t10_1 t11_0 t11_1 t12_0 = p123 at d ⊢
    obtain ⟨_, ⟨w, w1, w2, w3⟩, d2, d3, d4⟩ := d
    unfold S_DW_divideToScale_o_c68 F_DW_divideToScale_o_c68
    split
    · have r := T_roundLast (x2 := 0) (x3 := x5) (t0_0 := p123.1) (t0_1 := p123.2.1) w3 w1 w2 (by decide) d3
      exact ⟨trivial, Dq.mk r.1 r.2.1, r.2.1.I, d2, r.2.2, d4⟩
    · have r := T_roundLast (x2 := 1) (x3 := x5) (t0_0 := p123.1) (t0_1 := p123.2.1) w3 w1 w2 (by decide) d3
      exact ⟨trivial, Dq.mk r.1 r.2.1, r.2.1.I, d2, r.2.2, d4⟩
  · rw [if_neg g2, if_neg g2]
    exact ⟨trivial, Or.inl rfl, i0, i1, i2, hb1⟩
theorem T_dpJ_o {R : Int32} {R2 : Int32} {x4 : Int32} {x5 : Int32} {t0_0 : Int64} {t0_1 : Int32} {t1_0 : Int32} {t1_1 : Int32} {t2_0 : (Nat → Int32)} {t3_0 : Int32} {t3_1 : Int32} {t4_0 : (Nat → Int32)} {t5_0 : Int32} {t5_1 : Int32} {t6_0 : (Nat → Int32)} {t7_0 : Int32} {t7_1 : Int32} {t8_0 : (Nat → Int32)} {t9_0 : Int32} {t9_1 : Int32} {t10_0 : Int32} {t10_1 : Int32} {t11_0 : (Nat → Int32)} {t12_0 : Int32} {t12_1 : Int32} {t13_0 : Int32} {t13_1 : Int32} {t14_0 : (Nat → Int32)} {j69 : Int64} {lx74 : Int32} {a102 : Int32} {p153 : (Int64 × Int32 × Int32 × Int32 × (Nat → Int32) × Int32 × Int32 × (Nat → Int32) × Int32 × Int32 × (Nat → Int32) × Int32 × Int32 × (Nat → Int32))} {j180 : Int64} {y109 : Int32} {y111 : Int32} {y112 : Int32} {f113 : (Nat → Int32)} {y116 : Int32} {y117 : Int32} {f118 : (Nat → Int32)} {y121 : Int32} {y122 : Int32} {f123 : (Nat → Int32)} {y126 : Int32} {y127 : Int32} {f128 : (Nat → Int32)} {p200 : (Int32 × Int32 × Int32 × (Nat → Int32))} {y190 : Int32} {y191 : Int32} {f192 : (Nat → Int32)} {lx213 : Int64} {lx214 : Int32} {lx215 : Int32} {lx216 : Int32} {lx217 : (Nat → Int32)} {v vb : Int} {M : Nat} (h : bO 220 lx215 lx216 lx217 v) (hv : 0 ≤ v) (hM : bB M v) (hM2 : M + 1 ≤ 218) (i1 : bI 220 y116 y117 f118) (i2 : bI 220 y190 y191 f192) (hb : bO R2 y126 y127 f128 vb) : (S_DW_divideToPrecision_o_J141 R R2 x4 x5 t0_0 t0_1 t1_0 t1_1 t2_0 t3_0 t3_1 t4_0 t5_0 t5_1 t6_0 t7_0 t7_1 t8_0 t9_0 t9_1 t10_0 t10_1 t11_0 t12_0 t12_1 t13_0 t13_1 t14_0 j69 lx74 a102 p153 j180 y109 y111 y112 f113 y116 y117 f118 y121 y122 f123 y126 y127 f128 p200 y190 y191 f192 lx213 lx214 lx215 lx216 lx217) ∧ Dq (F_DW_divideToPrecision_o_J141 R R2 x4 x5 t0_0 t0_1 t1_0 t1_1 t2_0 t3_0 t3_1 t4_0 t5_0 t5_1 t6_0 t7_0 t7_1 t8_0 t9_0 t9_1 t10_0 t10_1 t11_0 t12_0 t12_1 t13_0 t13_1 t14_0 j69 lx74 a102 p153 j180 y109 y111 y112 f113 y116 y117 f118 y121 y122 f123 y126 y127 f128 p200 y190 y191 f192 lx213 lx214 lx215 lx216 lx217).1 (F_DW_divideToPrecision_o_J141 R R2 x4 x5 t0_0 t0_1 t1_0 t1_1 t2_0 t3_0 t3_1 t4_0 t5_0 t5_1 t6_0 t7_0 t7_1 t8_0 t9_0 t9_1 t10_0 t10_1 t11_0 t12_0 t12_1 t13_0 t13_1 t14_0 j69 lx74 a102 p153 j180 y109 y111 y112 f113 y116 y117 f118 y121 y122 f123 y126 y127 f128 p200 y190 y191 f192 lx213 lx214 lx215 lx216 lx217).2.2.2.1 (F_DW_divideToPrecision_o_J141 R R2 x4 x5 t0_0 t0_1 t1_0 t1_1 t2_0 t3_0 t3_1 t4_0 t5_0 t5_1 t6_0 t7_0 t7_1 t8_0 t9_0 t9_1 t10_0 t10_1 t11_0 t12_0 t12_1 t13_0 t13_1 t14_0 j69 lx74 a102 p153 j180 y109 y111 y112 f113 y116 y117 f118 y121 y122 f123 y126 y127 f128 p200 y190 y191 f192 lx213 lx214 lx215 lx216 lx217).2.2.2.2.1 (F_DW_divideToPrecision_o_J141 R R2 x4 x5 t0_0 t0_1 t1_0 t1_1 t2_0 t3_0 t3_1 t4_0 t5_0 t5_1 t6_0 t7_0 t7_1 t8_0 t9_0 t9_1 t10_0 t10_1 t11_0 t12_0 t12_1 t13_0 t13_1 t14_0 j69 lx74 a102 p153 j180 y109 y111 y112 f113 y116 y117 f118 y121 y122 f123 y126 y127 f128 p200 y190 y191 f192 lx213 lx214 lx215 lx216 lx217).2.2.2.2.2.1 ∧ G5 (bI 220) (bI 220) (bI 220) (bI 220) (bW R2 vb) (F_DW_divideToPrecision_o_J141 R R2 x4 x5 t0_0 t0_1 t1_0 t1_1 t2_0 t3_0 t3_1 t4_0 t5_0 t5_1 t6_0 t7_0 t7_1 t8_0 t9_0 t9_1 t10_0 t10_1 t11_0 t12_0 t12_1 t13_0 t13_1 t14_0 j69 lx74 a102 p153 j180 y109 y111 y112 f113 y116 y117 f118 y121 y122 f123 y126 y127 f128 p200 y190 y191 f192 lx213 lx214 lx215 lx216 lx217).2.2.2 := by
  have J : ∀ lx246 : Int32, S_DW_divideToPrecision_o_J163 R R2 x4 x5 t0_0 t0_1 t1_0 t1_1 t2_0 t3_0 t3_1 t4_0 t5_0 t5_1 t6_0 t7_0 t7_1 t8_0 t9_0 t9_1 t10_0 t10_1 t11_0 t12_0 t12_1 t13_0 t13_1 t14_0 j69 lx74 a102 p153 j180 y109 y111 y112 f113 y116 y117 f118 y121 y122 f123 y126 y127 f128 p200 y190 y191 f192 lx213 lx214 lx215 lx216 lx217 lx246 ∧ (fun p : Int32 × Int64 × Int32 × Int32 × Int32 × (Nat → Int32) × Int32 × Int32 × (Nat → Int32) × Int32 × Int32 × (Nat → Int32) × Int32 × Int32 × (Nat → Int32) × Int32 × Int32 × (Nat → Int32) => Dq p.1 p.2.2.2.1 p.2.2.2.2.1 p.2.2.2.2.2.1 ∧ G5 (bI 220) (bI 220) (bI 220) (bI 220) (bW R2 vb) p.2.2.2) (F_DW_divideToPrecision_o_J163 R R2 x4 x5 t0_0 t0_1 t1_0 t1_1 t2_0 t3_0 t3_1 t4_0 t5_0 t5_1 t6_0 t7_0 t7_1 t8_0 t9_0 t9_1 t10_0 t10_1 t11_0 t12_0 t12_1 t13_0 t13_1 t14_0 j69 lx74 a102 p153 j180 y109 y111 y112 f113 y116 y117 f118 y121 y122 f123 y126 y127 f128 p200 y190 y191 f192 lx213 lx214 lx215 lx216 lx217 lx246) := by
    intro lx246
    unfold S_DW_divideToPrecision_o_J163 F_DW_divideToPrecision_o_J163
    by_cases g : x4 = 0
    · rw [if_pos g, if_pos g]
      have r := T_shorten (x2 := lx246) (x3 := lx74) (x4 := j69) (x5 := 7) (t0_0 := lx213) (t0_1 := lx214) (t3_0 := y121) (t3_1 := y122) (t4_0 := f123) h hv hM hM2 i2
      exact ⟨trivial, Dq.mk r.1 r.2.1, r.2.1.I, i1, r.2.2.1, r.2.2.2, hb⟩
    · rw [if_neg g, if_neg g]
      have r := T_shorten (x2 := lx246) (x3 := lx74) (x4 := j69) (x5 := x5) (t0_0 := lx213) (t0_1 := lx214) (t3_0 := y121) (t3_1 := y122) (t4_0 := f123) h hv hM hM2 i2
      exact ⟨trivial, Dq.mk r.1 r.2.1, r.2.1.I, i1, r.2.2.1, r.2.2.2, hb⟩
  unfold S_DW_divideToPrecision_o_J141 F_DW_divideToPrecision_o_J141
  by_cases g : t10_1 = y127
  · rw [if_pos g, if_pos g]
    exact J 0
  · rw [if_neg g, if_neg g]
    exact J 1
theorem T_divideToPrecision_oJ {R : Int32} {R2 : Int32} {x4 : Int32} {x5 : Int32} {t0_0 : Int64} {t0_1 : Int32} {t1_0 : Int32} {t1_1 : Int32} {t2_0 : (Nat → Int32)} {t3_0 : Int32} {t3_1 : Int32} {t4_0 : (Nat → Int32)} {t5_0 : Int32} {t5_1 : Int32} {t6_0 : (Nat → Int32)} {t7_0 : Int32} {t7_1 : Int32} {t8_0 : (Nat → Int32)} {t9_0 : Int32} {t9_1 : Int32} {t10_0 : Int32} {t10_1 : Int32} {t11_0 : (Nat → Int32)} {t12_0 : Int32} {t12_1 : Int32} {t13_0 : Int32} {t13_1 : Int32} {t14_0 : (Nat → Int32)} {j69 : Int64} {lx74 : Int32} {va vb : Int} (ha : dO R t10_0 t10_1 t11_0 t9_0 t9_1 va) (hb : dO R2 t13_0 t13_1 t14_0 t12_0 t12_1 vb) (hv : vb ≠ 0) (hx : 0 ≤ lx74.toInt) (hx2 : lx74.toInt ≤ 1000) (i2 : bI 220 t7_0 t7_1 t8_0) : (S_DW_divideToPrecision_o_J52 R R2 x4 x5 t0_0 t0_1 t1_0 t1_1 t2_0 t3_0 t3_1 t4_0 t5_0 t5_1 t6_0 t7_0 t7_1 t8_0 t9_0 t9_1 t10_0 t10_1 t11_0 t12_0 t12_1 t13_0 t13_1 t14_0 j69 lx74) ∧ Dq (F_DW_divideToPrecision_o_J52 R R2 x4 x5 t0_0 t0_1 t1_0 t1_1 t2_0 t3_0 t3_1 t4_0 t5_0 t5_1 t6_0 t7_0 t7_1 t8_0 t9_0 t9_1 t10_0 t10_1 t11_0 t12_0 t12_1 t13_0 t13_1 t14_0 j69 lx74).1 (F_DW_divideToPrecision_o_J52 R R2 x4 x5 t0_0 t0_1 t1_0 t1_1 t2_0 t3_0 t3_1 t4_0 t5_0 t5_1 t6_0 t7_0 t7_1 t8_0 t9_0 t9_1 t10_0 t10_1 t11_0 t12_0 t12_1 t13_0 t13_1 t14_0 j69 lx74).2.2.2.1 (F_DW_divideToPrecision_o_J52 R R2 x4 x5 t0_0 t0_1 t1_0 t1_1 t2_0 t3_0 t3_1 t4_0 t5_0 t5_1 t6_0 t7_0 t7_1 t8_0 t9_0 t9_1 t10_0 t10_1 t11_0 t12_0 t12_1 t13_0 t13_1 t14_0 j69 lx74).2.2.2.2.1 (F_DW_divideToPrecision_o_J52 R R2 x4 x5 t0_0 t0_1 t1_0 t1_1 t2_0 t3_0 t3_1 t4_0 t5_0 t5_1 t6_0 t7_0 t7_1 t8_0 t9_0 t9_1 t10_0 t10_1 t11_0 t12_0 t12_1 t13_0 t13_1 t14_0 j69 lx74).2.2.2.2.2.1 ∧ G5 (bI 220) (bI 220) (bI 220) (bI 220) (bW R2 vb) (F_DW_divideToPrecision_o_J52 R R2 x4 x5 t0_0 t0_1 t1_0 t1_1 t2_0 t3_0 t3_1 t4_0 t5_0 t5_1 t6_0 t7_0 t7_1 t8_0 t9_0 t9_1 t10_0 t10_1 t11_0 t12_0 t12_1 t13_0 t13_1 t14_0 j69 lx74).2.2.2 := by
  have e := e220
  obtain ⟨ha1, ⟨ca, ca1, ca2, ca3⟩, ha3, ha4⟩ := ha
  obtain ⟨hb1, ⟨cb, cb1, cb2, cb3⟩, hb3, hb4⟩ := hb
  have q1 : (lx74 + 1 : Int32).toInt = lx74.toInt + 1 := q_addI rfl v_e1 (by omega) (by omega)
  have q2 : (lx74 + 1 - t9_1 : Int32).toInt = lx74.toInt + 1 - (ca : Int) := q_subI q1 ca1 (by omega) (by omega)
  have q3 : (lx74 + 1 - t9_1 + t12_1 : Int32).toInt = lx74.toInt + 1 - (ca : Int) + (cb : Int) := q_addI q2 cb1 (by omega) (by omega)
  unfold S_DW_divideToPrecision_o_J52 F_DW_divideToPrecision_o_J52
  have d : S_DW_divideRaised_o R R2 (((lx74 + 1 : Int32) - t9_1 : Int32) + t12_1 : Int32) t0_0 t0_1 t1_0 t1_1 t2_0 t3_0 t3_1 t4_0 t5_0 t5_1 t6_0 t9_0 t9_1 t10_0 t10_1 t11_0 t12_0 t12_1 t13_0 t13_1 t14_0 ∧ (fun p => (p.2.1 = 0 ∨ p.2.1 = 1) ∧ G4 (bP 220 215) (bI 220) (bI 220) (bW R2 vb) p.2.2) (F_DW_divideRaised_o R R2 (((lx74 + 1 : Int32) - t9_1 : Int32) + t12_1 : Int32) t0_0 t0_1 t1_0 t1_1 t2_0 t3_0 t3_1 t4_0 t5_0 t5_1 t6_0 t9_0 t9_1 t10_0 t10_1 t11_0 t12_0 t12_1 t13_0 t13_1 t14_0) := T_divideRaised_o (M := 215) ha1 hb1 hv (v_rf ca2.2.1 ca3 (by rw [q3]; omega)) (by decide)
  refine v_owe d.1 ?_
  replace d := d.2
  generalize (F_DW_divideRaised_o R R2 (((lx74 + 1 : Int32) - t9_1 : Int32) + t12_1 : Int32) t0_0 t0_1 t1_0 t1_1 t2_0 t3_0 t3_1 t4_0 t5_0 t5_1 t6_0 t9_0 t9_1 t10_0 t10_1 t11_0 t12_0 t12_1 t13_0 t13_1 t14_0) = p153 at d ⊢
  unfold S_DW_divideToPrecision_o_c75 F_DW_divideToPrecision_o_c75
  obtain ⟨_, ⟨w, w1, w2, w3⟩, d2, d3, d4⟩ := d
  have h101 : (fun p => (∃ d : Nat, p.1.toInt = (d : Int) ∧ vF w d) ∧ G1 (bI 220) p.2) (F_Mil_countFigures (220 : Int32) t7_0 t7_1 t8_0 (p153.2.2.1 : Int32) (p153.2.2.2.1 : Int32) (p153.2.2.2.2.1 : (Nat → Int32))) := T_countFigures w3 w2 (by decide) i2
  generalize (F_Mil_countFigures (220 : Int32) t7_0 t7_1 t8_0 (p153.2.2.1 : Int32) (p153.2.2.2.1 : Int32) (p153.2.2.2.2.1 : (Nat → Int32))) = p200 at h101 ⊢
  unfold S_DW_divideToPrecision_o_c101 F_DW_divideToPrecision_o_c101
  by_cases g : p200.1 ≤ lx74 + 1
  · rw [if_pos g, if_pos g]
    exact T_dpJ_o w3 w1 w2 (by decide) d2 h101.2 d4
  · rw [if_neg g, if_neg g]
    obtain ⟨u, u1, u2, u3, u4⟩ := W_drop (x2 := 1) w3
    have h124 : (Gr1 (fun r => r = 0 ∨ r = 1) (bW 220 u)) (F_Big_dropFigures (220 : Int32) (1 : Int32) (p153.2.2.1 : Int32) (p153.2.2.2.1 : Int32) (p153.2.2.2.2.1 : (Nat → Int32))) := u4
    generalize (F_Big_dropFigures (220 : Int32) (1 : Int32) (p153.2.2.1 : Int32) (p153.2.2.2.1 : Int32) (p153.2.2.2.2.1 : (Nat → Int32))) = p414 at h124 ⊢
    unfold S_DW_divideToPrecision_o_c124 F_DW_divideToPrecision_o_c124
    exact T_dpJ_o h124.2 (u2 w1) (w2.le (by rw [u1]; exact Nat.div_le_self _ _)) (by decide) d2 h101.2 d4
theorem T_divideToPrecision_o {R : Int32} {R2 : Int32} {x4 : Int32} {x5 : Int32} {t0_0 : Int64} {t0_1 : Int32} {t1_0 : Int32} {t1_1 : Int32} {t2_0 : (Nat → Int32)} {t3_0 : Int32} {t3_1 : Int32} {t4_0 : (Nat → Int32)} {t5_0 : Int32} {t5_1 : Int32} {t6_0 : (Nat → Int32)} {t7_0 : Int32} {t7_1 : Int32} {t8_0 : (Nat → Int32)} {t9_0 : Int32} {t9_1 : Int32} {t10_0 : Int32} {t10_1 : Int32} {t11_0 : (Nat → Int32)} {t12_0 : Int32} {t12_1 : Int32} {t13_0 : Int32} {t13_1 : Int32} {t14_0 : (Nat → Int32)} {va vb : Int} (ha : dO R t10_0 t10_1 t11_0 t9_0 t9_1 va) (hb : dO R2 t13_0 t13_1 t14_0 t12_0 t12_1 vb) (hv : vb ≠ 0) (hx : 0 ≤ x4.toInt) (hx2 : x4.toInt ≤ 1000) (i0 : bI 220 t3_0 t3_1 t4_0) (i1 : bI 220 t5_0 t5_1 t6_0) (i2 : bI 220 t7_0 t7_1 t8_0) : (S_DW_divideToPrecision_o R R2 x4 x5 t0_0 t0_1 t1_0 t1_1 t2_0 t3_0 t3_1 t4_0 t5_0 t5_1 t6_0 t7_0 t7_1 t8_0 t9_0 t9_1 t10_0 t10_1 t11_0 t12_0 t12_1 t13_0 t13_1 t14_0) ∧ Dq (F_DW_divideToPrecision_o R R2 x4 x5 t0_0 t0_1 t1_0 t1_1 t2_0 t3_0 t3_1 t4_0 t5_0 t5_1 t6_0 t7_0 t7_1 t8_0 t9_0 t9_1 t10_0 t10_1 t11_0 t12_0 t12_1 t13_0 t13_1 t14_0).1 (F_DW_divideToPrecision_o R R2 x4 x5 t0_0 t0_1 t1_0 t1_1 t2_0 t3_0 t3_1 t4_0 t5_0 t5_1 t6_0 t7_0 t7_1 t8_0 t9_0 t9_1 t10_0 t10_1 t11_0 t12_0 t12_1 t13_0 t13_1 t14_0).2.2.2.1 (F_DW_divideToPrecision_o R R2 x4 x5 t0_0 t0_1 t1_0 t1_1 t2_0 t3_0 t3_1 t4_0 t5_0 t5_1 t6_0 t7_0 t7_1 t8_0 t9_0 t9_1 t10_0 t10_1 t11_0 t12_0 t12_1 t13_0 t13_1 t14_0).2.2.2.2.1 (F_DW_divideToPrecision_o R R2 x4 x5 t0_0 t0_1 t1_0 t1_1 t2_0 t3_0 t3_1 t4_0 t5_0 t5_1 t6_0 t7_0 t7_1 t8_0 t9_0 t9_1 t10_0 t10_1 t11_0 t12_0 t12_1 t13_0 t13_1 t14_0).2.2.2.2.2.1 ∧ G5 (bI 220) (bI 220) (bI 220) (bI 220) (bW R2 vb) (F_DW_divideToPrecision_o R R2 x4 x5 t0_0 t0_1 t1_0 t1_1 t2_0 t3_0 t3_1 t4_0 t5_0 t5_1 t6_0 t7_0 t7_1 t8_0 t9_0 t9_1 t10_0 t10_1 t11_0 t12_0 t12_1 t13_0 t13_1 t14_0).2.2.2 := by
  unfold S_DW_divideToPrecision_o F_DW_divideToPrecision_o
  by_cases g : t10_0 = 0
  · rw [if_pos g, if_pos g]
    have h1 : bO 220 (F_Big_clear 220 t1_0 t1_1).1 (F_Big_clear 220 t1_0 t1_1).2 t2_0 0 := W_clear (by decide) (by decide)
    exact ⟨trivial, Or.inr ⟨rfl, h1.K (M := 0) (by show 0 < _; decide) (by decide)⟩, h1.I, i0, i1, i2, hb.1⟩
  · rw [if_neg g, if_neg g]
    by_cases g2 : x4 = 0
    · rw [if_pos g2, if_pos g2]
      exact T_divideToPrecision_oJ ha hb hv (by decide) (by decide) i2
    · rw [if_neg g2, if_neg g2]
      exact T_divideToPrecision_oJ ha hb hv hx hx2 i2
