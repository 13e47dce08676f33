/-! values: Mill's shifts, figures, zeros, roots -/
abbrev Gr1 (q : Int32 → Prop) (a : bT) (p : Int32 × Int32 × Int32 × (Nat → Int32)) : Prop := q p.1 ∧ G1 a p.2
abbrev Gr2 (q : Int32 → Prop) (a b : bT) (p : Int32 × Int32 × Int32 × (Nat → Int32) × Int32 × Int32 × (Nat → Int32)) : Prop := q p.1 ∧ G2 a b p.2
theorem e2048 : (2048 : Int32).toInt = 2048 := rfl
theorem T_shiftedJ {R : Int32} {x3 : Int32} {t0_0 : Int32} {t0_1 : Int32} {t1_0 : (Nat → Int32)} {t2_0 : Int32} {t2_1 : Int32} {t3_0 : (Nat → Int32)} {t4_0 : Int32} {t4_1 : Int32} {t5_0 : (Nat → Int32)} {p40 : (Int32 × Int32 × (Nat → Int32))} {y29 : Int32} {y30 : Int32} {f31 : (Nat → Int32)} {lx52 : Int32} {v : Int} {M : Nat} (h : bO 220 y29 y30 f31 v) (hM : bB M v) (hM2 : M + 1 ≤ 219) (hw : bI 220 t2_0 t2_1 t3_0) : Gr2 (fun r => r = 0 ∨ r = 1) (bJ 220) (bI 220) (F_Mil_shifted_J53 R x3 t0_0 t0_1 t1_0 t2_0 t2_1 t3_0 t4_0 t4_1 t5_0 p40 y29 y30 f31 lx52) := by
  have e := e220
  unfold F_Mil_shifted_J53
  obtain ⟨w, w1, w2⟩ := W_shr (x := lx52) h
  have h59 : (fun p => bO 220 p.2.1 p.2.2.1 p.2.2.2 w) (F_Big_shiftRight (220 : Int32) lx52 y29 y30 f31) := w2
  generalize (F_Big_shiftRight (220 : Int32) lx52 y29 y30 f31) = p84 at h59 ⊢
  unfold F_Mil_shifted_c59
  have s1 := h59.sB (hM.le w1)
  split
  · exact ⟨Or.inr rfl, h59.J, hw⟩
  · split
    · exact ⟨Or.inr rfl, h59.J, hw⟩
    · have h79 : P1 220 (-1) (F_Big_setLong (220 : Int32) (-1 : Int64) t2_0 t2_1 t3_0) := W_setLong (x := -1) (by decide) (by decide)
      generalize (F_Big_setLong (220 : Int32) (-1 : Int64) t2_0 t2_1 t3_0) = p115 at h79 ⊢
      unfold F_Mil_shifted_c79
      have s2 := h79.sB (M := 1) (by show 1 < 2147483648 ^ 1; decide)
      exact ⟨Or.inr rfl, (W_add (x := 0) h59 h79 (Or.inl rfl) (by omega) (by omega)).J, h79.I⟩
theorem T_shifted {R : Int32} {x3 : Int32} {t0_0 : Int32} {t0_1 : Int32} {t1_0 : (Nat → Int32)} {t2_0 : Int32} {t2_1 : Int32} {t3_0 : (Nat → Int32)} {t4_0 : Int32} {t4_1 : Int32} {t5_0 : (Nat → Int32)} {v : Int} {M : Nat} (h : bO R t4_0 t4_1 t5_0 v) (hM : bB M v) (hM2 : M + 67 ≤ 219) (hw : bI 220 t2_0 t2_1 t3_0) : Gr2 (fun r => r = 0 ∨ r = 1) (bJ 220) (bI 220) (F_Mil_shifted R x3 t0_0 t0_1 t1_0 t2_0 t2_1 t3_0 t4_0 t4_1 t5_0) := by
  have e := e220
  have e2 := e2048
  have e0 : (0 : Int32).toInt = 0 := rfl
  unfold F_Mil_shifted
  have hss := (W_copyS (R := 220) (s := t0_0) (neg := t0_1) (f := t1_0) h h.fit).1
  have h1 : P1 220 v (F_Big_copy (220 : Int32) R t0_0 t0_1 t1_0 t4_0 t4_1 t5_0) := W_copy h h.fit (by decide)
  generalize F_Big_copy (220 : Int32) R t0_0 t0_1 t1_0 t4_0 t4_1 t5_0 = p40 at h1 hss ⊢
  have s1 := h1.sB hM
  unfold F_Mil_shifted_c5
  split
  · split
    · exact T_shiftedJ h1 hM (by omega) hw
    · exact T_shiftedJ h1 hM (by omega) hw
  · split
    · rename_i h3
      have h4 := q_leI h3
      exact ⟨Or.inr rfl, (W_shl h1 (fun h5 => by rw [hss] at h5; omega)).J, hw⟩
    · split
      · rename_i h3
        have h4 := q_leI h3
        exact ⟨Or.inr rfl, (W_shl h1 (fun h5 h6 => by omega)).J, hw⟩
      · exact ⟨Or.inl rfl, h1.J, hw⟩
/-- the number of figures of v -/
def vF (v : Int) (c : Nat) : Prop := 1 ≤ c ∧ v.natAbs < 10 ^ c ∧ (v ≠ 0 → 10 ^ (c - 1) ≤ v.natAbs)
theorem v_3 : (3 : Int32).toInt = 3 := rfl
theorem T_cfL {R : Int32} {t0_0 : Int32} {t0_1 : Int32} {t1_0 : (Nat → Int32)} {t2_0 : Int32} {t2_1 : Int32} {t3_0 : (Nat → Int32)} {a40 : Int32} {p57 : (Int32 × Int32 × (Nat → Int32))} {p80 : (Int32 × Int32 × (Nat → Int32))} {v : Int} {M : Nat} (h : bO R t2_0 t2_1 t3_0 v) (hM : bB M v) (hM2 : M < 220) (hv : v ≠ 0) : ∀ (n : Nat) (lx92 : Int32) (lx93 : Int32) (lx94 : Int32) (lx95 : Int32) (lx96 : (Nat → Int32)), ∀ c k : Nat, lx92.toInt = (k : Int) → k ≤ 3 → 3 - k < n → lx93.toInt = (c : Int) → c ≤ 3000 + k → 1 ≤ c → bO 220 lx94 lx95 lx96 (10 ^ c) → 10 ^ (c - 1) ≤ v.natAbs → v.natAbs < 10 ^ (c + (3 - k)) → (∃ d : Nat, (F_Mil_countFigures_L46 R t0_0 t0_1 t1_0 t2_0 t2_1 t3_0 a40 p57 p80 n lx92 lx93 lx94 lx95 lx96).1.toInt = (d : Int) ∧ vF v d) ∧ G1 (bI 220) (F_Mil_countFigures_L46 R t0_0 t0_1 t1_0 t2_0 t2_1 t3_0 a40 p57 p80 n lx92 lx93 lx94 lx95 lx96).2 := by
  have e := e220
  have e0 : (0 : Int32).toInt = 0 := rfl
  intro n
  induction n with
  | zero => intros; omega
  | succ n ih =>
    intro lx92 lx93 lx94 lx95 lx96 c k hk hk3 hn hc hc0 hc1 hs hlo hhi
    rw [F_Mil_countFigures_L46.eq_2]
    have v3 := v_3
    have hcm := W_cmp (R := R) (R2 := 220) h hs
    have e10 : ((10 : Int) ^ c).natAbs = 10 ^ c := by rw [Int.natAbs_pow]; rfl
    rw [e10] at hcm
    by_cases hj : 3 ≤ lx92
    · rw [if_pos hj]
      have := q_leI hj
      have hk0 : 3 - k = 0 := by omega
      rw [hk0] at hhi
      exact ⟨⟨c, hc, hc1, hhi, fun _ => hlo⟩, hs.I⟩
    · rw [if_neg hj]
      have hj2 := q_nleI hj
      by_cases hl : F_Big_compareSize R 220 t2_0 t2_1 t3_0 lx94 lx95 lx96 < 0
      · rw [if_pos hl]
        have := q_ltI hl
        exact ⟨⟨c, hc, hc1, by omega, fun _ => hlo⟩, hs.I⟩
      · rw [if_neg hl]
        have hl2 := q_nltI hl
        have hge : 10 ^ c ≤ v.natAbs := by omega
        have s1 := hs.sB (hM.le (by rw [e10]; exact hge))
        have h69 : P1 220 (10 * 10 ^ c + 0) (F_Big_multiplySmall (220 : Int32) (10 : Int32) (0 : Int32) lx94 lx95 lx96) := W_mulS hs (Int.le_of_lt (v_t10 c)) (x := 10) (y := 0) (by decide) (by decide) (by omega)
        generalize (F_Big_multiplySmall (220 : Int32) (10 : Int32) (0 : Int32) lx94 lx95 lx96) = p143 at h69 ⊢
        unfold F_Mil_countFigures_c69
        have e3 : (10 * 10 ^ c + 0 : Int) = 10 ^ (c + 1) := by rw [Int.pow_succ]; omega
        rw [e3] at h69
        exact ih _ _ _ _ _ (c + 1) (k + 1) (by rw [q_addI hk v_e1 (by omega) (by omega)]; omega) (by omega) (by omega) (by rw [q_addI hc v_e1 (by omega) (by omega)]; omega) (by omega) (by omega) h69 hge (by rw [show c + 1 + (3 - (k + 1)) = c + (3 - k) by omega]; exact hhi)
theorem T_countFigures {R : Int32} {t0_0 : Int32} {t0_1 : Int32} {t1_0 : (Nat → Int32)} {t2_0 : Int32} {t2_1 : Int32} {t3_0 : (Nat → Int32)} {v : Int} {M : Nat} (h : bO R t2_0 t2_1 t3_0 v) (hM : bB M v) (hM2 : M + 1 < 220) (hw : bI 220 t0_0 t0_1 t1_0) : (∃ d : Nat, (F_Mil_countFigures R t0_0 t0_1 t1_0 t2_0 t2_1 t3_0).1.toInt = (d : Int) ∧ vF v d) ∧ G1 (bI 220) (F_Mil_countFigures R t0_0 t0_1 t1_0 t2_0 t2_1 t3_0).2 := by
  have e := e220
  unfold F_Mil_countFigures
  by_cases h0 : t2_0 = 0
  · rw [if_pos h0]
    have hv := h.nil.mp h0
    exact ⟨⟨1, rfl, Nat.le_refl 1, by rw [hv]; decide, fun h9 => absurd hv h9⟩, hw⟩
  rw [if_neg h0]
  have hv : v ≠ 0 := fun h9 => h0 (h.nil.mpr h9)
  have hs := h.pos.mpr hv
  obtain ⟨b, b1, b2, b3, b4⟩ := V_bits (R := R) (neg := t2_1) h.1 h.fit
  have hcl := q_clI (i := t2_0) rfl h.s0
  have hf := h.fit
  obtain ⟨b5, b6⟩ := b4 hs
  rw [h.abs] at b3 b6
  have b3' : v.natAbs < 2 ^ b := by
    apply Int.ofNat_lt.mp
    rw [Int.natCast_pow]
    exact b3
  have b6' : 2 ^ (b - 1) ≤ v.natAbs := by
    apply Int.ofNat_le.mp
    rw [Int.natCast_pow]
    exact b6
  have k1 : (F_Big_bitLength R t2_0 t2_1 t3_0 - 1 : Int32).toInt = ((b - 1 : Nat) : Int) := by
    rw [q_subI (y := 1) b1 rfl (by omega) (by omega)]
    omega
  obtain ⟨c, c1, c2, c3⟩ := v_gInt k1 (by omega)
  have lo := v_gLo c2
  have hi := v_gHi (b := b) (c := c) (by omega) c3
  have h33 : P1 220 1 (F_Big_setLong (220 : Int32) (1 : Int64) t0_0 t0_1 t1_0) := W_setLong (x := 1) (by decide) (by decide)
  generalize (F_Big_setLong (220 : Int32) (1 : Int64) t0_0 t0_1 t1_0) = p57 at h33 ⊢
  unfold F_Mil_countFigures_c33
  generalize (((((F_Big_bitLength R t2_0 t2_1 t3_0) : Int32) - 1 : Int32).toInt64 * 301029995 / 1000000000).toInt32 + 1 : Int32) = a40 at c1 ⊢
  have cl := q_clI (i := a40) c1 (by omega)
  have cl2 : a40.toNatClampNeg = c + 1 := by omega
  have hlt : 10 ^ c < 2147483648 ^ M := by
    unfold bB at hM
    omega
  have h10 : (1 : Int).natAbs * 10 ^ a40.toNatClampNeg < 2147483648 ^ (M + 1) := by
    rw [cl2, Nat.pow_succ, Nat.pow_succ, show (1 : Int).natAbs = 1 from rfl]
    omega
  have h41 : P1 220 (1 * 10 ^ a40.toNatClampNeg) (F_Big_timesTen 220 a40 p57.1 p57.2.1 p57.2.2) := W_ten (M := M + 1) h33 (by omega) h10
  generalize F_Big_timesTen 220 a40 p57.1 p57.2.1 p57.2.2 = p80 at h41 ⊢
  unfold F_Mil_countFigures_c41
  rw [cl2, Int.one_mul] at h41
  exact T_cfL h hM (by omega) hv _ _ _ _ _ _ (c + 1) 0 rfl (by omega) (by decide) (by omega) (by omega) (by omega) h41 (by rw [show c + 1 - 1 = c by omega]; omega) (by rw [show c + 1 + (3 - 0) = c + 4 by omega]; omega)
theorem T_dzL {R : Int32} {x3 : Int64} {t0_0 : Int32} {t0_1 : Int32} {t1_0 : (Nat → Int32)} {t2_0 : Int32} {t2_1 : Int32} {t3_0 : (Nat → Int32)} {M : Nat} (hR : R.toInt ≤ 220) : ∀ (n : Nat) (lx18 : Int32) (lx19 : Int32) (lx20 : Int32) (lx21 : (Nat → Int32)) (lx22 : Int32) (lx23 : Int32) (lx24 : (Nat → Int32)), ∀ v : Int, 10000 - lx18.toInt < (n : Int) → 0 ≤ lx18.toInt → lx18.toInt ≤ 10000 → bI 220 lx19 lx20 lx21 → bO R lx22 lx23 lx24 v → ∃ w : Int, w.natAbs * 10 ^ ((F_Mil_dropZeros_L3 R x3 t0_0 t0_1 t1_0 t2_0 t2_1 t3_0 n lx18 lx19 lx20 lx21 lx22 lx23 lx24).1.toInt - lx18.toInt).toNat = v.natAbs ∧ (0 ≤ v → 0 ≤ w) ∧ lx18.toInt ≤ (F_Mil_dropZeros_L3 R x3 t0_0 t0_1 t1_0 t2_0 t2_1 t3_0 n lx18 lx19 lx20 lx21 lx22 lx23 lx24).1.toInt ∧ ((F_Mil_dropZeros_L3 R x3 t0_0 t0_1 t1_0 t2_0 t2_1 t3_0 n lx18 lx19 lx20 lx21 lx22 lx23 lx24).1.toInt ≤ x3.toInt ∨ (F_Mil_dropZeros_L3 R x3 t0_0 t0_1 t1_0 t2_0 t2_1 t3_0 n lx18 lx19 lx20 lx21 lx22 lx23 lx24).1 = lx18) ∧ (F_Mil_dropZeros_L3 R x3 t0_0 t0_1 t1_0 t2_0 t2_1 t3_0 n lx18 lx19 lx20 lx21 lx22 lx23 lx24).1.toInt ≤ 10000 ∧ G2 (bI 220) (bW R w) (F_Mil_dropZeros_L3 R x3 t0_0 t0_1 t1_0 t2_0 t2_1 t3_0 n lx18 lx19 lx20 lx21 lx22 lx23 lx24).2 := by
  have e := e220
  have e0 : (0 : Int32).toInt = 0 := rfl
  have eT := v_eTT
  intro n
  induction n with
  | zero => intros; omega
  | succ n ih =>
    intro lx18 lx19 lx20 lx21 lx22 lx23 lx24 v hn hl hl2 hw hv
    have stop : ∃ w : Int, w.natAbs * 10 ^ (lx18.toInt - lx18.toInt).toNat = v.natAbs ∧ (0 ≤ v → 0 ≤ w) ∧ lx18.toInt ≤ lx18.toInt ∧ (lx18.toInt ≤ x3.toInt ∨ lx18 = lx18) ∧ lx18.toInt ≤ 10000 ∧ G2 (bI 220) (bW R w) (lx19, lx20, lx21, lx22, lx23, lx24) := ⟨v, by rw [show (lx18.toInt - lx18.toInt).toNat = 0 by omega, Nat.pow_zero, Nat.mul_one], id, by omega, Or.inr rfl, hl2, hw, hv⟩
    rw [F_Mil_dropZeros_L3.eq_2]
    by_cases g1 : 0 ≤ lg_cmp lx18.toInt64 x3
    · rw [if_pos g1]
      exact stop
    rw [if_neg g1]
    have g1' := q_k8 g1
    rw [q_i2l rfl] at g1'
    by_cases g2 : lx22 ≤ 0
    · rw [if_pos g2]
      exact stop
    rw [if_neg g2]
    by_cases g3 : 10000 ≤ lx18
    · rw [if_pos g3]
      exact stop
    rw [if_neg g3]
    have g3' := q_nleI g3
    have h31 : P1 220 v (F_Big_copy (220 : Int32) R lx19 lx20 lx21 lx22 lx23 lx24) := W_copy hv hv.fit (by decide)
    generalize (F_Big_copy (220 : Int32) R lx19 lx20 lx21 lx22 lx23 lx24) = p81 at h31 ⊢
    unfold F_Mil_dropZeros_c31
    have hd := W_divS (x := 10) h31 (by decide)
    have hR2 := hv.2.2.2.1
    have hsz := (h31.szE hv)
    generalize F_Big_divideSmall 220 10 p81.1 p81.2.1 p81.2.2 = p105 at hd ⊢
    obtain ⟨d1, w, d2, d3, d4, d5⟩ := hd
    unfold F_Mil_dropZeros_c40
    by_cases g4 : p105.1 = 0
    · rw [if_pos g4]
      have hws : p105.2.1.toInt ≤ p81.1.toInt := by
        refine d5.1.szL h31.1 ?_
        rw [d5.abs, h31.abs, d2]
        exact Int.ofNat_le.mpr (Nat.div_le_self _ _)
      have h54 : P1 R w (F_Big_copy R (220 : Int32) lx22 lx23 lx24 (p105.2.1 : Int32) (p105.2.2.1 : Int32) (p105.2.2.2 : (Nat → Int32))) := W_copy d5 (by omega) hR
      generalize (F_Big_copy R (220 : Int32) lx22 lx23 lx24 (p105.2.1 : Int32) (p105.2.2.1 : Int32) (p105.2.2.2 : (Nat → Int32))) = p132 at h54 ⊢
      unfold F_Mil_dropZeros_c54
      have ej : (lx18 + 1 : Int32).toInt = lx18.toInt + 1 := q_addI rfl v_e1 (by omega) (by omega)
      obtain ⟨u, u1, u2, u3, u4, u5, u6⟩ := ih (lx18 + 1) p105.2.1 p105.2.2.1 p105.2.2.2 p132.1 p132.2.1 p132.2.2 w (by omega) (by omega) (by omega) d5.I h54
      refine ⟨u, ?_, fun h => u2 (d3 h), by omega, ?_, u5, u6⟩
      · rw [g4, e0] at d1
        have d2' : w.natAbs = v.natAbs / 10 := d2
        have d1' : (0 : Int) = (v.natAbs : Int) % 10 := d1
        have hw10 : w.natAbs * 10 = v.natAbs := by omega
        rw [← hw10, ← u1, Nat.mul_assoc, ← Nat.pow_succ]
        congr 2
        omega
      · rcases u4 with u4 | u4
        · exact Or.inl u4
        · left
          rw [u4, ej]
          omega
    · rw [if_neg g4]
      refine ⟨v, ?_, id, Int.le_refl _, Or.inr rfl, hl2, d5.I, hv⟩
      show _ * 10 ^ (lx18.toInt - lx18.toInt).toNat = _
      rw [show (lx18.toInt - lx18.toInt).toNat = 0 by omega, Nat.pow_zero, Nat.mul_one]
theorem T_dropZeros {R : Int32} {x3 : Int64} {t0_0 : Int32} {t0_1 : Int32} {t1_0 : (Nat → Int32)} {t2_0 : Int32} {t2_1 : Int32} {t3_0 : (Nat → Int32)} {v : Int} (hv : bO R t2_0 t2_1 t3_0 v) (hw : bI 220 t0_0 t0_1 t1_0) : ∃ w : Int, w.natAbs * 10 ^ (F_Mil_dropZeros R x3 t0_0 t0_1 t1_0 t2_0 t2_1 t3_0).1.toInt.toNat = v.natAbs ∧ (0 ≤ v → 0 ≤ w) ∧ 0 ≤ (F_Mil_dropZeros R x3 t0_0 t0_1 t1_0 t2_0 t2_1 t3_0).1.toInt ∧ ((F_Mil_dropZeros R x3 t0_0 t0_1 t1_0 t2_0 t2_1 t3_0).1.toInt ≤ x3.toInt ∨ (F_Mil_dropZeros R x3 t0_0 t0_1 t1_0 t2_0 t2_1 t3_0).1 = 0) ∧ (F_Mil_dropZeros R x3 t0_0 t0_1 t1_0 t2_0 t2_1 t3_0).1.toInt ≤ 10000 ∧ G2 (bI 220) (bW R w) (F_Mil_dropZeros R x3 t0_0 t0_1 t1_0 t2_0 t2_1 t3_0).2 := by
  unfold F_Mil_dropZeros
  have h := T_dzL (M := 0) (x3 := x3) (t0_0 := t0_0) (t0_1 := t0_1) (t1_0 := t1_0) (t2_0 := t2_0) (t2_1 := t2_1) (t3_0 := t3_0) hv.2.2.2.2 ((10000 - (0 : Int32).toInt).toNat + 1) 0 t0_0 t0_1 t1_0 t2_0 t2_1 t3_0 v (by decide) (by decide) (by decide) hw hv
  rw [show ((0 : Int32).toInt) = 0 from rfl, Int.sub_zero] at h
  exact h
