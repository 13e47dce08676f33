/-! values: DecimalWork 2 -/
theorem bO.abs1 {R s n : Int32} {f : Nat → Int32} {v : Int} (h : bO R s n f v) (hs : 0 < s.toInt) : bO R s 1 f (-(v.natAbs : Int)) := ⟨h.1, Or.inr ⟨rfl, hs⟩, by rw [bS_1, h.abs], h.2.2.2.1, h.2.2.2.2⟩
theorem bB.a0 {M : Nat} {v : Int} (h : bB M v) : bB M (v.natAbs : Int) := h.le (by omega)
theorem bB.a1 {M : Nat} {v : Int} (h : bB M v) : bB M (-(v.natAbs : Int)) := h.le (by omega)
/-- a sign put on a number -/
theorem T_roundJ {x2 : Int32} {x3 : Int32} {t0_0 : Int64} {t0_1 : Int32} {t1_0 : Int32} {t1_1 : Int32} {t2_0 : (Nat → Int32)} {t3_0 : Int32} {t3_1 : Int32} {t4_0 : (Nat → Int32)} {p36 : (Int32 × Int32 × Int32 × (Nat → Int32))} {a24 : Int32} {y26 : Int32} {y27 : Int32} {f28 : (Nat → Int32)} {lx47 : Int32} {lx72 : Int32} {lx73 : Int32} {lx74 : (Nat → Int32)} {lx75 : Int32} {lx76 : Int32} {lx77 : (Nat → Int32)} {v : Int} (h : bO 220 lx72 lx73 lx74 v) (hM : bB 218 v) (i : bI 220 lx75 lx76 lx77) : (F_DW_roundLast_J87 x2 x3 t0_0 t0_1 t1_0 t1_1 t2_0 t3_0 t3_1 t4_0 p36 a24 y26 y27 f28 lx47 lx72 lx73 lx74 lx75 lx76 lx77).1 = 1 ∧ G2 bK (bI 220) (F_DW_roundLast_J87 x2 x3 t0_0 t0_1 t1_0 t1_1 t2_0 t3_0 t3_1 t4_0 p36 a24 y26 y27 f28 lx47 lx72 lx73 lx74 lx75 lx76 lx77).2 := by
  unfold F_DW_roundLast_J87
  split
  · exact ⟨rfl, ⟨_, h.abs0, hM.a0⟩, i⟩
  · split
    · exact ⟨rfl, ⟨_, h.abs0, hM.a0⟩, i⟩
    · rename_i h2
      exact ⟨rfl, ⟨_, h.abs1 (v_nle0 h2), hM.a1⟩, i⟩
theorem T_roundLast {x2 : Int32} {x3 : Int32} {t0_0 : Int64} {t0_1 : Int32} {t1_0 : Int32} {t1_1 : Int32} {t2_0 : (Nat → Int32)} {t3_0 : Int32} {t3_1 : Int32} {t4_0 : (Nat → Int32)} {v : Int} {M : Nat} (h : bO 220 t1_0 t1_1 t2_0 v) (hv : 0 ≤ v) (hM : bB M v) (hM2 : M + 1 ≤ 218) (i : bI 220 t3_0 t3_1 t4_0) : ((F_DW_roundLast x2 x3 t0_0 t0_1 t1_0 t1_1 t2_0 t3_0 t3_1 t4_0).1 = 0 ∨ (F_DW_roundLast x2 x3 t0_0 t0_1 t1_0 t1_1 t2_0 t3_0 t3_1 t4_0).1 = 1) ∧ G2 bK (bI 220) (F_DW_roundLast x2 x3 t0_0 t0_1 t1_0 t1_1 t2_0 t3_0 t3_1 t4_0).2 := by
  have e := e220
  unfold F_DW_roundLast
  obtain ⟨_, w, d2, d3, d4, d5⟩ := W_divS (x := 10) h (by decide)
  generalize F_Big_divideSmall 220 10 t1_0 t1_1 t2_0 = p36 at d5 ⊢
  have hw := d3 hv
  have hB : bB M w := hM.le (by rw [d2]; exact Nat.div_le_self _ _)
  have sw := d5.sB hB
  have J44 : ∀ lx47 : Int32, (F_DW_roundLast_J44 x2 x3 t0_0 t0_1 t1_0 t1_1 t2_0 t3_0 t3_1 t4_0 p36 p36.1 p36.2.1 p36.2.2.1 p36.2.2.2 lx47).1 = 1 ∧ G2 bK (bI 220) (F_DW_roundLast_J44 x2 x3 t0_0 t0_1 t1_0 t1_1 t2_0 t3_0 t3_1 t4_0 p36 p36.1 p36.2.1 p36.2.2.1 p36.2.2.2 lx47).2 := by
    intro lx47
    unfold F_DW_roundLast_J44
    split
    · exact T_roundJ d5 (hB.mono (by omega)) i
    · split
      · exact T_roundJ d5 (hB.mono (by omega)) i
      · have h1 : P1 220 1 (F_Big_setLong (220 : Int32) (1 : Int64) t3_0 t3_1 t4_0) := W_setLong (x := 1) (by decide) (by decide)
        generalize (F_Big_setLong (220 : Int32) (1 : Int64) t3_0 t3_1 t4_0) = p144 at h1 ⊢
        unfold F_DW_roundLast_c67
        have s1 := h1.sB v_one
        have h2 := W_addSize d5 hw h1 (by omega) (by omega)
        generalize F_Big_addSize 220 220 p36.2.1 p36.2.2.1 p36.2.2.2 p144.1 p144.2.1 p144.2.2 = p167 at h2 ⊢
        unfold F_DW_roundLast_c84
        refine T_roundJ h2 ?_ h1.I
        have h3 : bB (M + 1) (w + ((1 : Int).natAbs : Int)) := by
          unfold bB at hB ⊢
          rw [Nat.pow_succ]
          show (w + 1).natAbs < _
          omega
        exact h3.mono hM2
  have J29 : ∀ lx47 : Int32, ((F_DW_roundLast_J29 x2 x3 t0_0 t0_1 t1_0 t1_1 t2_0 t3_0 t3_1 t4_0 p36 p36.1 p36.2.1 p36.2.2.1 p36.2.2.2 lx47).1 = 0 ∨ (F_DW_roundLast_J29 x2 x3 t0_0 t0_1 t1_0 t1_1 t2_0 t3_0 t3_1 t4_0 p36 p36.1 p36.2.1 p36.2.2.1 p36.2.2.2 lx47).1 = 1) ∧ G2 bK (bI 220) (F_DW_roundLast_J29 x2 x3 t0_0 t0_1 t1_0 t1_1 t2_0 t3_0 t3_1 t4_0 p36 p36.1 p36.2.1 p36.2.2.1 p36.2.2.2 lx47).2 := by
    intro lx47
    unfold F_DW_roundLast_J29
    split
    · exact ⟨Or.inr (J44 _).1, (J44 _).2⟩
    · split
      · exact ⟨Or.inl rfl, ⟨_, d5, hB.mono (by omega)⟩, i⟩
      · exact ⟨Or.inr (J44 _).1, (J44 _).2⟩
  unfold F_DW_roundLast_c9 F_DW_roundLast_J24
  split
  · split
    · exact J29 _
    · exact J29 _
  · exact J29 _
theorem T_divideRaised {R : Int32} {R2 : Int32} {x4 : Int32} {t0_0 : Int64} {t0_1 : Int32} {t1_0 : Int32} {t1_1 : Int32} {t2_0 : (Nat → Int32)} {t3_0 : Int32} {t3_1 : Int32} {t4_0 : (Nat → Int32)} {t5_0 : Int32} {t5_1 : Int32} {t6_0 : (Nat → Int32)} {t7_0 : Int32} {t7_1 : Int32} {t8_0 : Int32} {t8_1 : Int32} {t9_0 : (Nat → Int32)} {t10_0 : Int32} {t10_1 : Int32} {t11_0 : Int32} {t11_1 : Int32} {t12_0 : (Nat → Int32)} {va vb : Int} {M : Nat} (ha : bO R t8_0 t8_1 t9_0 va) (hb : bO R2 t11_0 t11_1 t12_0 vb) (hv : vb ≠ 0) (hm : va.natAbs * 10 ^ x4.toNatClampNeg < 2147483648 ^ M) (hM : M ≤ 218) : (S_DW_divideRaised R R2 x4 t0_0 t0_1 t1_0 t1_1 t2_0 t3_0 t3_1 t4_0 t5_0 t5_1 t6_0 t7_0 t7_1 t8_0 t8_1 t9_0 t10_0 t10_1 t11_0 t11_1 t12_0) ∧ ((F_DW_divideRaised R R2 x4 t0_0 t0_1 t1_0 t1_1 t2_0 t3_0 t3_1 t4_0 t5_0 t5_1 t6_0 t7_0 t7_1 t8_0 t8_1 t9_0 t10_0 t10_1 t11_0 t11_1 t12_0).2.1 = 0 ∨ (F_DW_divideRaised R R2 x4 t0_0 t0_1 t1_0 t1_1 t2_0 t3_0 t3_1 t4_0 t5_0 t5_1 t6_0 t7_0 t7_1 t8_0 t8_1 t9_0 t10_0 t10_1 t11_0 t11_1 t12_0).2.1 = 1) ∧ G4 (bP 220 M) (bI 220) (bI 220) (bW R2 vb) (F_DW_divideRaised R R2 x4 t0_0 t0_1 t1_0 t1_1 t2_0 t3_0 t3_1 t4_0 t5_0 t5_1 t6_0 t7_0 t7_1 t8_0 t8_1 t9_0 t10_0 t10_1 t11_0 t11_1 t12_0).2.2 := by
  have e := e220
  unfold S_DW_divideRaised F_DW_divideRaised
  have h1 : P1 220 va (F_Big_copy (220 : Int32) R t5_0 t5_1 t6_0 t8_0 t8_1 t9_0) := W_copy ha ha.fit (by decide)
  generalize (F_Big_copy (220 : Int32) R t5_0 t5_1 t6_0 t8_0 t8_1 t9_0) = p70 at h1 ⊢
  unfold S_DW_divideRaised_c11 F_DW_divideRaised_c11
  have h2 : P1 220 (va * 10 ^ x4.toNatClampNeg) (F_Big_timesTen (220 : Int32) x4 (p70.1 : Int32) (p70.2.1 : Int32) (p70.2.2 : (Nat → Int32))) := W_ten (M := M) h1 (by omega) hm
  generalize (F_Big_timesTen (220 : Int32) x4 (p70.1 : Int32) (p70.2.1 : Int32) (p70.2.2 : (Nat → Int32))) = p93 at h2 ⊢
  unfold S_DW_divideRaised_c22 F_DW_divideRaised_c22
  obtain ⟨w, w1, w2, w3, w4, w5⟩ := W_drop (x2 := -x4) h2
  have hB : bB M w := (v_abT hm).le (by rw [w1]; exact Nat.div_le_self _ _)
  generalize F_Big_dropFigures 220 (-x4) p93.1 p93.2.1 p93.2.2 = p122 at w4 w5 ⊢
  unfold S_DW_divideRaised_c35 F_DW_divideRaised_c35
  have sw := w5.sB hB
  have h3 : S_Big_divideBy (220 : Int32) R2 (220 : Int32) (p122.2.1 : Int32) (p122.2.2.1 : Int32) (p122.2.2.2 : (Nat → Int32)) t11_0 t11_1 t12_0 t3_0 t3_1 t4_0 ∧ P3 220 R2 220 (w.tmod vb) vb ((w.natAbs / vb.natAbs : Nat) : Int) (F_Big_divideBy (220 : Int32) R2 (220 : Int32) (p122.2.1 : Int32) (p122.2.2.1 : Int32) (p122.2.2.2 : (Nat → Int32)) t11_0 t11_1 t12_0 t3_0 t3_1 t4_0) := W_divideBy w5 hb hv (by omega) (by omega) (by decide)
  refine v_owe h3.1 ?_
  replace h3 := h3.2
  generalize (F_Big_divideBy (220 : Int32) R2 (220 : Int32) (p122.2.1 : Int32) (p122.2.2.1 : Int32) (p122.2.2.2 : (Nat → Int32)) t11_0 t11_1 t12_0 t3_0 t3_1 t4_0) = p170 at h3 ⊢
  unfold S_DW_divideRaised_c59 F_DW_divideRaised_c59
  have hq : bP 220 M _ _ _ := ⟨_, Int.natCast_nonneg _, hB.ndiv, W_copy (R := 220) (s := t1_0) (neg := t1_1) (f := t2_0) h3.2.2 h3.2.2.fit (by decide)⟩
  split
  · exact ⟨trivial, (v_oi _ w4).1, hq, h3.2.2.I, h3.1.I, h3.2.1⟩
  · exact ⟨trivial, (v_oi _ w4).2, hq, h3.2.2.I, h3.1.I, h3.2.1⟩
theorem T_divideRaised_a {R2 : Int32} {x4 : Int32} {t0_0 : Int64} {t0_1 : Int32} {t1_0 : Int32} {t1_1 : Int32} {t2_0 : (Nat → Int32)} {t3_0 : Int32} {t3_1 : Int32} {t4_0 : (Nat → Int32)} {t5_0 : Int32} {t5_1 : Int32} {t6_0 : (Nat → Int32)} {t7_0 : Int32} {t7_1 : Int32} {t8_0 : Int32} {t8_1 : Int32} {t9_0 : (Nat → Int32)} {va vb : Int} {M : Nat} (ha : bO R2 t8_0 t8_1 t9_0 va) (hb : bO R2 t8_0 t8_1 t9_0 vb) (hv : vb ≠ 0) (hm : va.natAbs * 10 ^ x4.toNatClampNeg < 2147483648 ^ M) (hM : M ≤ 218) : (S_DW_divideRaised_a R2 x4 t0_0 t0_1 t1_0 t1_1 t2_0 t3_0 t3_1 t4_0 t5_0 t5_1 t6_0 t7_0 t7_1 t8_0 t8_1 t9_0) ∧ ((F_DW_divideRaised_a R2 x4 t0_0 t0_1 t1_0 t1_1 t2_0 t3_0 t3_1 t4_0 t5_0 t5_1 t6_0 t7_0 t7_1 t8_0 t8_1 t9_0).2.1 = 0 ∨ (F_DW_divideRaised_a R2 x4 t0_0 t0_1 t1_0 t1_1 t2_0 t3_0 t3_1 t4_0 t5_0 t5_1 t6_0 t7_0 t7_1 t8_0 t8_1 t9_0).2.1 = 1) ∧ G4 (bP 220 M) (bI 220) (bI 220) (bW R2 vb) (F_DW_divideRaised_a R2 x4 t0_0 t0_1 t1_0 t1_1 t2_0 t3_0 t3_1 t4_0 t5_0 t5_1 t6_0 t7_0 t7_1 t8_0 t8_1 t9_0).2.2 := by
  have e := e220
  unfold S_DW_divideRaised_a F_DW_divideRaised_a
  have h1 : P1 220 va (F_Big_copy (220 : Int32) R2 t5_0 t5_1 t6_0 t8_0 t8_1 t9_0) := W_copy ha ha.fit (by decide)
  generalize (F_Big_copy (220 : Int32) R2 t5_0 t5_1 t6_0 t8_0 t8_1 t9_0) = p57 at h1 ⊢
  unfold S_DW_divideRaised_a_c11 F_DW_divideRaised_a_c11
  have h2 : P1 220 (va * 10 ^ x4.toNatClampNeg) (F_Big_timesTen (220 : Int32) x4 (p57.1 : Int32) (p57.2.1 : Int32) (p57.2.2 : (Nat → Int32))) := W_ten (M := M) h1 (by omega) hm
  generalize (F_Big_timesTen (220 : Int32) x4 (p57.1 : Int32) (p57.2.1 : Int32) (p57.2.2 : (Nat → Int32))) = p80 at h2 ⊢
  unfold S_DW_divideRaised_a_c22 F_DW_divideRaised_a_c22
  obtain ⟨w, w1, w2, w3, w4, w5⟩ := W_drop (x2 := -x4) h2
  have hB : bB M w := (v_abT hm).le (by rw [w1]; exact Nat.div_le_self _ _)
  generalize F_Big_dropFigures 220 (-x4) p80.1 p80.2.1 p80.2.2 = p109 at w4 w5 ⊢
  unfold S_DW_divideRaised_a_c35 F_DW_divideRaised_a_c35
  have sw := w5.sB hB
  have h3 : S_Big_divideBy (220 : Int32) R2 (220 : Int32) (p109.2.1 : Int32) (p109.2.2.1 : Int32) (p109.2.2.2 : (Nat → Int32)) t8_0 t8_1 t9_0 t3_0 t3_1 t4_0 ∧ P3 220 R2 220 (w.tmod vb) vb ((w.natAbs / vb.natAbs : Nat) : Int) (F_Big_divideBy (220 : Int32) R2 (220 : Int32) (p109.2.1 : Int32) (p109.2.2.1 : Int32) (p109.2.2.2 : (Nat → Int32)) t8_0 t8_1 t9_0 t3_0 t3_1 t4_0) := W_divideBy w5 hb hv (by omega) (by omega) (by decide)
  refine v_owe h3.1 ?_
  replace h3 := h3.2
  generalize (F_Big_divideBy (220 : Int32) R2 (220 : Int32) (p109.2.1 : Int32) (p109.2.2.1 : Int32) (p109.2.2.2 : (Nat → Int32)) t8_0 t8_1 t9_0 t3_0 t3_1 t4_0) = p157 at h3 ⊢
  unfold S_DW_divideRaised_a_c59 F_DW_divideRaised_a_c59
  have hq : bP 220 M _ _ _ := ⟨_, Int.natCast_nonneg _, hB.ndiv, W_copy (R := 220) (s := t1_0) (neg := t1_1) (f := t2_0) h3.2.2 h3.2.2.fit (by decide)⟩
  split
  · exact ⟨trivial, (v_oi _ w4).1, hq, h3.2.2.I, h3.1.I, h3.2.1⟩
  · exact ⟨trivial, (v_oi _ w4).2, hq, h3.2.2.I, h3.1.I, h3.2.1⟩
/-- shortened -/
theorem T_shortenJ {x2 : Int32} {x3 : Int32} {x4 : Int64} {x5 : Int32} {t0_0 : Int64} {t0_1 : Int32} {t1_0 : Int32} {t1_1 : Int32} {t2_0 : (Nat → Int32)} {t3_0 : Int32} {t3_1 : Int32} {t4_0 : (Nat → Int32)} {t5_0 : Int32} {t5_1 : Int32} {t6_0 : (Nat → Int32)} {p44 : (Int32 × Int32 × (Nat → Int32))} {lx54 : Int32} {lx55 : Int32} {lx56 : Int32} {lx57 : (Nat → Int32)} {v : Int} {M : Nat} (h : bO 220 t1_0 t1_1 t2_0 v) (hv : 0 ≤ v) (hM : bB M v) (hM2 : M + 1 ≤ 218) (i : bI 220 lx55 lx56 lx57) (i2 : bI 220 t5_0 t5_1 t6_0) : ((F_DW_shorten_J44 x2 x3 x4 x5 t0_0 t0_1 t1_0 t1_1 t2_0 t3_0 t3_1 t4_0 t5_0 t5_1 t6_0 p44 lx54 lx55 lx56 lx57).1 = 0 ∨ (F_DW_shorten_J44 x2 x3 x4 x5 t0_0 t0_1 t1_0 t1_1 t2_0 t3_0 t3_1 t4_0 t5_0 t5_1 t6_0 p44 lx54 lx55 lx56 lx57).1 = 1) ∧ G3 bK (bI 220) (bI 220) (F_DW_shorten_J44 x2 x3 x4 x5 t0_0 t0_1 t1_0 t1_1 t2_0 t3_0 t3_1 t4_0 t5_0 t5_1 t6_0 p44 lx54 lx55 lx56 lx57).2.2.2 := by
  unfold F_DW_shorten_J44
  have h1 : (fun p => (p.1 = 0 ∨ p.1 = 1) ∧ G2 bK (bI 220) p.2) (F_DW_roundLast x2 x5 t0_0 t0_1 t1_0 t1_1 t2_0 lx55 lx56 lx57) := T_roundLast h hv hM hM2 i
  generalize (F_DW_roundLast x2 x5 t0_0 t0_1 t1_0 t1_1 t2_0 lx55 lx56 lx57) = p106 at h1 ⊢
  unfold F_DW_shorten_c50
  obtain ⟨_, ⟨w, w1, w2⟩, h3⟩ := h1
  split
  · exact ⟨Or.inl rfl, ⟨w, w1, w2⟩, h3, i2⟩
  · split
    · have h4 := T_countFigures w1 w2 (by decide) i2
      generalize F_Mil_countFigures 220 t5_0 t5_1 t6_0 p106.2.1 p106.2.2.1 p106.2.2.2.1 = p139 at h4 ⊢
      unfold F_DW_shorten_c107
      split
      · exact ⟨Or.inr rfl, ⟨w, w1, w2⟩, h3, h4.2⟩
      · obtain ⟨u, u1, u2, u3, u4, u5⟩ := W_drop (x2 := 1) w1
        generalize F_Big_dropFigures 220 1 p106.2.1 p106.2.2.1 p106.2.2.2.1 = p170 at u4 u5 ⊢
        unfold F_DW_shorten_c122
        exact ⟨Or.inr rfl, ⟨u, u5, w2.le (by rw [u1]; exact Nat.div_le_self _ _)⟩, h3, h4.2⟩
    · have h4 := T_dropZeros (x3 := t0_0 - x4) w1 i2
      generalize F_Mil_dropZeros 220 (t0_0 - x4) t5_0 t5_1 t6_0 p106.2.1 p106.2.2.1 p106.2.2.2.1 = p214 at h4 ⊢
      unfold F_DW_shorten_c85
      obtain ⟨u, u1, u2, u3, u4, u5, u6, u7⟩ := h4
      refine ⟨Or.inr rfl, ⟨u, u7, w2.le ?_⟩, h3, u6⟩
      rw [← u1]
      exact Nat.le_mul_of_pos_right _ (Nat.pow_pos (by decide))
theorem T_shorten {x2 : Int32} {x3 : Int32} {x4 : Int64} {x5 : Int32} {t0_0 : Int64} {t0_1 : Int32} {t1_0 : Int32} {t1_1 : Int32} {t2_0 : (Nat → Int32)} {t3_0 : Int32} {t3_1 : Int32} {t4_0 : (Nat → Int32)} {t5_0 : Int32} {t5_1 : Int32} {t6_0 : (Nat → Int32)} {v : Int} {M : Nat} (h : bO 220 t1_0 t1_1 t2_0 v) (hv : 0 ≤ v) (hM : bB M v) (hM2 : M + 1 ≤ 218) (i2 : bI 220 t5_0 t5_1 t6_0) : ((F_DW_shorten x2 x3 x4 x5 t0_0 t0_1 t1_0 t1_1 t2_0 t3_0 t3_1 t4_0 t5_0 t5_1 t6_0).1 = 0 ∨ (F_DW_shorten x2 x3 x4 x5 t0_0 t0_1 t1_0 t1_1 t2_0 t3_0 t3_1 t4_0 t5_0 t5_1 t6_0).1 = 1) ∧ G3 bK (bI 220) (bI 220) (F_DW_shorten x2 x3 x4 x5 t0_0 t0_1 t1_0 t1_1 t2_0 t3_0 t3_1 t4_0 t5_0 t5_1 t6_0).2.2.2 := by
  unfold F_DW_shorten
  have h1 : P1 220 v (F_Big_copy (220 : Int32) (220 : Int32) t3_0 t3_1 t4_0 t1_0 t1_1 t2_0) := W_copy h h.fit (by decide)
  generalize (F_Big_copy (220 : Int32) (220 : Int32) t3_0 t3_1 t4_0 t1_0 t1_1 t2_0) = p44 at h1 ⊢
  unfold F_DW_shorten_c14
  split
  · obtain ⟨_, w, d2, d3, d4, d5⟩ := W_divS (x := 10) h1 (by decide)
    generalize F_Big_divideSmall 220 10 p44.1 p44.2.1 p44.2.2 = p275 at d5 ⊢
    unfold F_DW_shorten_c33 F_DW_shorten_J43
    split
    · exact T_shortenJ h hv hM hM2 d5.I i2
    · exact T_shortenJ h hv hM hM2 d5.I i2
  · unfold F_DW_shorten_J43
    exact T_shortenJ h hv hM hM2 h1.I i2
theorem T_towardsZero {R : Int32} {t0_0 : Int64} {t0_1 : Int32} {t1_0 : Int32} {t1_1 : Int32} {t2_0 : (Nat → Int32)} {t3_0 : Int32} {t3_1 : Int32} {t4_0 : Int32} {t4_1 : Int32} {t5_0 : (Nat → Int32)} {va : Int} (ha : dO R t4_0 t4_1 t5_0 t3_0 t3_1 va) : ((F_DW_towardsZero R t0_0 t0_1 t1_0 t1_1 t2_0 t3_0 t3_1 t4_0 t4_1 t5_0).1 = 0 ∨ (F_DW_towardsZero R t0_0 t0_1 t1_0 t1_1 t2_0 t3_0 t3_1 t4_0 t4_1 t5_0).1 = 1) ∧ G1 bK (F_DW_towardsZero R t0_0 t0_1 t1_0 t1_1 t2_0 t3_0 t3_1 t4_0 t4_1 t5_0).2 := by
  have e := e220
  have e0 : (0 : Int32).toInt = 0 := rfl
  have eK : (1000 : Int32).toInt = 1000 := rfl
  have hB := ha.B
  obtain ⟨ha1, ⟨ca, ca1, ca2, ca3⟩, ha3, ha4⟩ := ha
  unfold F_DW_towardsZero
  have h1 : P1 220 va (F_Big_copy (220 : Int32) R t1_0 t1_1 t2_0 t4_0 t4_1 t5_0) := W_copy ha1 ha1.fit (by decide)
  generalize (F_Big_copy (220 : Int32) R t1_0 t1_1 t2_0 t4_0 t4_1 t5_0) = p41 at h1 ⊢
  unfold F_DW_towardsZero_c11
  have J : t4_0 ≤ 0 ∨ (ca : Int) - t3_0.toInt ≤ 1000 → ((F_DW_towardsZero_J41 R t0_0 t0_1 t1_0 t1_1 t2_0 t3_0 t3_1 t4_0 t4_1 t5_0 p41 p41.1 p41.2.1 p41.2.2).1 = 0 ∨ (F_DW_towardsZero_J41 R t0_0 t0_1 t1_0 t1_1 t2_0 t3_0 t3_1 t4_0 t4_1 t5_0 p41 p41.1 p41.2.1 p41.2.2).1 = 1) ∧ G1 bK (F_DW_towardsZero_J41 R t0_0 t0_1 t1_0 t1_1 t2_0 t3_0 t3_1 t4_0 t4_1 t5_0 p41 p41.1 p41.2.1 p41.2.2).2 := by
    intro hh
    unfold F_DW_towardsZero_J41
    by_cases g : t4_0 ≤ 0
    · rw [if_pos g]
      exact ⟨Or.inr rfl, ⟨va, h1, hB.mono (by decide)⟩⟩
    · rw [if_neg g]
      have hh2 : (ca : Int) - t3_0.toInt ≤ 1000 := hh.resolve_left g
      have q3 : (-t3_0 : Int32).toInt = -t3_0.toInt := by
        have := q_subI (a := 0) (b := t3_0) e0 rfl (by omega) (by omega)
        rw [Int32.zero_sub] at this
        omega
      have m1 : va.natAbs * 10 ^ (-t3_0 : Int32).toNatClampNeg < 2147483648 ^ 108 := by
        by_cases hx : -t3_0.toInt < 0
        · rw [v_cn, q3, show (-t3_0.toInt).toNat = 0 by omega, Nat.pow_zero, Nat.mul_one]
          exact hB
        · exact Nat.lt_of_lt_of_le (v_rt (k := 1000) ca2.2.1 (by rw [v_cn, q3]; omega)) (v_tB (by decide))
      have h2 := W_ten (M := 108) h1 (by decide) m1
      generalize F_Big_timesTen 220 (-t3_0) p41.1 p41.2.1 p41.2.2 = p82 at h2 ⊢
      unfold F_DW_towardsZero_c63
      obtain ⟨u, u1, u2, u3, u4, u5⟩ := W_drop (x2 := t3_0) h2
      generalize F_Big_dropFigures 220 t3_0 p82.1 p82.2.1 p82.2.2 = p109 at u4 u5 ⊢
      exact ⟨Or.inr rfl, ⟨u, u5, ((v_abT m1).le (by rw [u1]; exact Nat.div_le_self _ _)).mono (by decide)⟩⟩
  by_cases g : t4_0 ≤ 0
  · rw [if_pos g]
    exact J (Or.inl g)
  · rw [if_neg g]
    by_cases g2 : (t3_1 - t3_0 : Int32) ≤ 1000
    · rw [if_pos g2]
      have g3 := q_leI g2
      rw [q_subI ca1 rfl (by omega) (by omega)] at g3
      exact J (Or.inr (by omega))
    · rw [if_neg g2]
      exact ⟨Or.inl rfl, ⟨va, h1, hB.mono (by decide)⟩⟩
