/-! values: Mill's powers -/
theorem v_pB {x : Int} {N : Nat} {v : Int} (hx : x ≤ 31 * (N : Int)) (h : v.natAbs < 2 ^ x.toNat) : bB N v := by
  unfold bB
  have e : (2147483648 : Nat) ^ N = 2 ^ (31 * N) := by rw [Nat.pow_mul]
  rw [e]
  exact Nat.lt_of_lt_of_le h (Nat.pow_le_pow_right (by decide) (by omega))
theorem v_bofn {x : Int32} (hx : 0 ≤ x.toInt) : ∃ b : Nat, (F_Big_bitsOf x).toInt = (b : Int) ∧ b ≤ 31 ∧ x.toInt.toNat < 2 ^ b := by
  by_cases h0 : x.toInt = 0
  · refine ⟨0, ?_, by omega, by omega⟩
    have : x = 0 := Int32.toInt_inj.mp h0
    rw [this]
    rfl
  · obtain ⟨b, b1, b2, b3, b4, b5⟩ := v_bits (x := x) (by omega)
    refine ⟨b, b3, b2, ?_⟩
    apply Int.ofNat_lt.mp
    rw [Int.natCast_pow]
    have : ((x.toInt.toNat : Nat) : Int) = x.toInt := by omega
    rw [this]
    exact b5
/-- a power, whatever keeps its steps small -/
theorem T_powerG {R : Int32} {x3 : Int32} {x4 : Int32} {t0_0 : Int32} {t0_1 : Int32} {t1_0 : (Nat → Int32)} {t2_0 : Int32} {t2_1 : Int32} {t3_0 : (Nat → Int32)} {t4_0 : Int32} {t4_1 : Int32} {t5_0 : (Nat → Int32)} {vb : Int} (hb : bO R t4_0 t4_1 t5_0 vb) (hx : 0 ≤ x3.toInt) (hx4 : 1 ≤ x4.toInt) (hw : bI 220 t2_0 t2_1 t3_0) (g1 : ∀ e : Nat, ((2 * e : Nat) : Int) ≤ x3.toInt → (vb ^ e).natAbs < 2 ^ x4.toInt.toNat → ∃ M : Nat, bB M (vb ^ e) ∧ 2 * M ≤ 220) (g2 : ∀ e : Nat, ((e + 1 : Nat) : Int) ≤ x3.toInt → (vb ^ e).natAbs < 2 ^ x4.toInt.toNat → ∃ M : Nat, bB M (vb ^ e) ∧ (M : Int) + t4_0.toInt ≤ 220) : ∃ v : Int, Pr2 (fun r => (r = 0 ∧ ∃ e : Nat, e ≤ x3.toInt.toNat ∧ 2 ^ x4.toInt.toNat ≤ (vb ^ e).natAbs) ∨ r = 1 ∧ v = vb ^ x3.toInt.toNat ∧ v.natAbs < 2 ^ x4.toInt.toNat) 220 v (F_Mil_power R x3 x4 t0_0 t0_1 t1_0 t2_0 t2_1 t3_0 t4_0 t4_1 t5_0) := by
  unfold F_Mil_power
  have h5 : P1 220 1 (F_Big_setLong (220 : Int32) (1 : Int64) t0_0 t0_1 t1_0) := W_setLong (x := 1) (by decide) (by decide)
  generalize (F_Big_setLong (220 : Int32) (1 : Int64) t0_0 t0_1 t1_0) = p40 at h5 ⊢
  unfold F_Mil_power_c5
  obtain ⟨b, b1, b2, b3⟩ := v_bofn hx
  have k1 : (F_Big_bitsOf x3 - 1 : Int32).toInt = (b : Int) - 1 := q_subI (y := 1) b1 rfl (by omega) (by omega)
  have h0 : x3.toInt.toNat / 2 ^ b = 0 := Nat.div_eq_of_lt b3
  refine T_powerL hb hx hx4 g1 g2 _ _ _ _ _ _ _ _ b b2 k1 (by omega) ?_ ?_ hw
  · rw [h0, Int.pow_zero]
    exact h5
  · rw [h0, Int.pow_zero]
    exact Nat.one_lt_two_pow (by omega)
/-- .. since the bits are bounded -/
theorem T_power {R : Int32} {x3 : Int32} {x4 : Int32} {t0_0 : Int32} {t0_1 : Int32} {t1_0 : (Nat → Int32)} {t2_0 : Int32} {t2_1 : Int32} {t3_0 : (Nat → Int32)} {t4_0 : Int32} {t4_1 : Int32} {t5_0 : (Nat → Int32)} {vb : Int} {N : Nat} (hb : bO R t4_0 t4_1 t5_0 vb) (hx : 0 ≤ x3.toInt) (hx4 : 1 ≤ x4.toInt) (hw : bI 220 t2_0 t2_1 t3_0) (hN : x4.toInt ≤ 31 * (N : Int)) (hN2 : 2 * N ≤ 220) (hN3 : (N : Int) + t4_0.toInt ≤ 220) : ∃ v : Int, Pr2 (fun r => (r = 0 ∧ ∃ e : Nat, e ≤ x3.toInt.toNat ∧ 2 ^ x4.toInt.toNat ≤ (vb ^ e).natAbs) ∨ r = 1 ∧ v = vb ^ x3.toInt.toNat ∧ v.natAbs < 2 ^ x4.toInt.toNat) 220 v (F_Mil_power R x3 x4 t0_0 t0_1 t1_0 t2_0 t2_1 t3_0 t4_0 t4_1 t5_0) := by
  exact T_powerG hb hx hx4 hw (fun e _ h => ⟨N, v_pB hN h, hN2⟩) (fun e _ h => ⟨N, v_pB hN h, hN3⟩)
theorem v_powA {v : Int} {e n : Nat} (hv : v ≠ 0) (h : e ≤ n) : (v ^ e).natAbs ≤ (v ^ n).natAbs := by
  rw [Int.natAbs_pow, Int.natAbs_pow]
  exact Nat.pow_le_pow_right (by omega) h
theorem v_sqrt {a M : Nat} (h : a * a < 2147483648 ^ M) : a < 2147483648 ^ ((M + 1) / 2) := by
  apply Nat.not_le.mp
  intro h2
  have h3 := Nat.mul_le_mul h2 h2
  rw [← Nat.pow_add] at h3
  have h4 : (2147483648 : Nat) ^ M ≤ 2147483648 ^ ((M + 1) / 2 + (M + 1) / 2) := Nat.pow_le_pow_right (by decide) (by omega)
  omega
theorem bO.pS {R s n : Int32} {f : Nat → Int32} {v : Int} {k M : Nat} (h : bO R s n f v) (hs : s.toInt = (k : Int) + 1) (u : Int) (hu : bB (M + 1) (u * v)) : bB (M + 1 - k) u := by
  have h1 := h.1.ge hs
  rw [h.abs] at h1
  have h2 : 2147483648 ^ k ≤ v.natAbs := by
    apply Int.ofNat_le.mp
    rw [Int.natCast_pow]
    exact h1
  unfold bB at *
  rw [Int.natAbs_mul] at hu
  have h3 := Nat.mul_le_mul_left u.natAbs h2
  apply Nat.not_le.mp
  intro h4
  have h5 := Nat.mul_le_mul_right (2147483648 ^ k) h4
  rw [← Nat.pow_add] at h5
  have h6 : (2147483648 : Nat) ^ (M + 1) ≤ 2147483648 ^ (M + 1 - k + k) := Nat.pow_le_pow_right (by decide) (by omega)
  omega
/-- .. since the whole power is small -/
theorem T_powerR {R : Int32} {x3 : Int32} {x4 : Int32} {t0_0 : Int32} {t0_1 : Int32} {t1_0 : (Nat → Int32)} {t2_0 : Int32} {t2_1 : Int32} {t3_0 : (Nat → Int32)} {t4_0 : Int32} {t4_1 : Int32} {t5_0 : (Nat → Int32)} {vb : Int} {M : Nat} (hb : bO R t4_0 t4_1 t5_0 vb) (hv : vb ≠ 0) (hx : 0 ≤ x3.toInt) (hx4 : 1 ≤ x4.toInt) (hw : bI 220 t2_0 t2_1 t3_0) (hM : bB (M + 1) (vb ^ x3.toInt.toNat)) (hM2 : M + 2 ≤ 220) : ∃ v : Int, Pr2 (fun r => (r = 0 ∧ ∃ e : Nat, e ≤ x3.toInt.toNat ∧ 2 ^ x4.toInt.toNat ≤ (vb ^ e).natAbs) ∨ r = 1 ∧ v = vb ^ x3.toInt.toNat ∧ v.natAbs < 2 ^ x4.toInt.toNat) 220 v (F_Mil_power R x3 x4 t0_0 t0_1 t1_0 t2_0 t2_1 t3_0 t4_0 t4_1 t5_0) := by
  refine T_powerG hb hx hx4 hw (fun e he h => ⟨(M + 1 + 1) / 2, ?_, by omega⟩) (fun e he h => ?_)
  · apply v_sqrt
    have h1 := v_powA hv (e := e + e) (n := x3.toInt.toNat) (by omega)
    rw [Int.pow_add, Int.natAbs_mul] at h1
    exact Nat.lt_of_le_of_lt h1 hM
  · have h1 := v_powA hv (e := e + 1) (n := x3.toInt.toNat) (by omega)
    have h2 : bB (M + 1) (vb ^ e * vb) := by
      rw [← Int.pow_succ]
      exact hM.le h1
    have h3 := hb.pos.mpr hv
    obtain ⟨k, hk⟩ : ∃ k : Nat, t4_0.toInt = (k : Int) + 1 := ⟨(t4_0.toInt - 1).toNat, by omega⟩
    have h4 := hb.pS hk _ h2
    have h5 := hb.fit
    by_cases h6 : k ≤ M + 1
    · exact ⟨M + 1 - k, h4, by omega⟩
    · refine ⟨0, ?_, by omega⟩
      have h7 : M + 1 - k = 0 := by omega
      rw [h7] at h4
      exact h4
abbrev bT : Type := Int32 → Int32 → (Nat → Int32) → Prop
abbrev bW (R : Int32) (v : Int) : bT := fun s n f => bO R s n f v
abbrev G1 (a : bT) (p : Int32 × Int32 × (Nat → Int32)) : Prop := a p.1 p.2.1 p.2.2
abbrev G2 (a b : bT) (p : Int32 × Int32 × (Nat → Int32) × Int32 × Int32 × (Nat → Int32)) : Prop := a p.1 p.2.1 p.2.2.1 ∧ G1 b p.2.2.2
abbrev G3 (a b c : bT) (p : Int32 × Int32 × (Nat → Int32) × Int32 × Int32 × (Nat → Int32) × Int32 × Int32 × (Nat → Int32)) : Prop := a p.1 p.2.1 p.2.2.1 ∧ G2 b c p.2.2.2
abbrev G4 (a b c d : bT) (p : Int32 × Int32 × (Nat → Int32) × Int32 × Int32 × (Nat → Int32) × Int32 × Int32 × (Nat → Int32) × Int32 × Int32 × (Nat → Int32)) : Prop := a p.1 p.2.1 p.2.2.1 ∧ G3 b c d p.2.2.2
abbrev G5 (a b c d e : bT) (p : Int32 × Int32 × (Nat → Int32) × Int32 × Int32 × (Nat → Int32) × Int32 × Int32 × (Nat → Int32) × Int32 × Int32 × (Nat → Int32) × Int32 × Int32 × (Nat → Int32)) : Prop := a p.1 p.2.1 p.2.2.1 ∧ G4 b c d e p.2.2.2
abbrev G6 (a b c d e f : bT) (p : Int32 × Int32 × (Nat → Int32) × Int32 × Int32 × (Nat → Int32) × Int32 × Int32 × (Nat → Int32) × Int32 × Int32 × (Nat → Int32) × Int32 × Int32 × (Nat → Int32) × Int32 × Int32 × (Nat → Int32)) : Prop := a p.1 p.2.1 p.2.2.1 ∧ G5 b c d e f p.2.2.2
/-- a number below m -/
abbrev bU (R : Int32) (vm vn : Int) : bT := fun s n f => ∃ v : Int, v.natAbs < vm.natAbs ∧ (0 ≤ vn → 0 ≤ v) ∧ bO R s n f v
theorem bU.B {R s n : Int32} {f : Nat → Int32} {vm vn : Int} {M : Nat} (h : bU R vm vn s n f) (hM : bB M vm) : s.toInt ≤ (M : Int) := by
  obtain ⟨v, h1, h2, h3⟩ := h
  exact h3.sB (hM.le (by omega))
theorem bO.I {R s n : Int32} {f : Nat → Int32} {v : Int} (_ : bO R s n f v) : bI R s n f := trivial
theorem bO.J {R s n : Int32} {f : Nat → Int32} {v : Int} (h : bO R s n f v) : bJ R s n f := ⟨v, h⟩
theorem v_blF {R s n : Int32} {f : Nat → Int32} (h : bJ R s n f) : -1 ≤ (F_Big_bitLength R s n f - 1 : Int32).toInt ∧ (F_Big_bitLength R s n f - 1 : Int32).toInt ≤ 6819 := by
  obtain ⟨ve, he⟩ := h
  obtain ⟨b, b1, b2, b3, b4⟩ := V_bits (R := R) (neg := n) he.1 he.fit
  have hf := he.fit
  have hcl := q_clI rfl he.s0
  have k1 : (F_Big_bitLength R s n f - 1 : Int32).toInt = (b : Int) - 1 := q_subI (y := 1) b1 rfl (by omega) (by omega)
  omega
theorem v_sq0 (v : Int) : 0 ≤ v * v := by
  rw [← Int.natAbs_mul_self]
  exact Int.natCast_nonneg _
theorem v_tmU {u m : Int} (h : m ≠ 0) : (u.tmod m).natAbs < m.natAbs := by
  rw [Int.natAbs_tmod]
  exact Nat.mod_lt _ (by omega)
theorem v_tm0 {u m : Int} (h : 0 ≤ u) : 0 ≤ u.tmod m := Int.tmod_nonneg m h
theorem T_powerBelowL {R : Int32} {R2 : Int32} {t0_0 : Int32} {t0_1 : Int32} {t1_0 : (Nat → Int32)} {t2_0 : Int32} {t2_1 : Int32} {t3_0 : (Nat → Int32)} {t4_0 : Int32} {t4_1 : Int32} {t5_0 : (Nat → Int32)} {t6_0 : Int32} {t6_1 : Int32} {t7_0 : (Nat → Int32)} {t8_0 : Int32} {t8_1 : Int32} {t9_0 : (Nat → Int32)} {t10_0 : Int32} {t10_1 : Int32} {t11_0 : (Nat → Int32)} {p64 : (Int32 × Int32 × (Nat → Int32))} {p111 : (Int32 × Int32 × (Nat → Int32) × Int32 × Int32 × (Nat → Int32) × Int32 × Int32 × (Nat → Int32))} {vn vm : Int} {M : Nat} (hn : bO 220 t0_0 t0_1 t1_0 vn) (hv : vm ≠ 0) (hMn : bB M vn) (hMm : bB M vm) (hM : 2 * M + 2 ≤ 220) : ∀ (n : Nat) (lx139 : Int32) (lx140 : Int32) (lx141 : Int32) (lx142 : (Nat → Int32)) (lx143 : Int32) (lx144 : Int32) (lx145 : (Nat → Int32)) (lx146 : Int32) (lx147 : Int32) (lx148 : (Nat → Int32)) (lx149 : Int32) (lx150 : Int32) (lx151 : (Nat → Int32)), lx139.toInt + 1 < (n : Int) → -1 ≤ lx139.toInt → bI 220 lx140 lx141 lx142 → bU 220 vm vn lx143 lx144 lx145 → bI 220 lx146 lx147 lx148 → bO R2 lx149 lx150 lx151 vm → (S_Mil_powerBelow_L27 R R2 t0_0 t0_1 t1_0 t2_0 t2_1 t3_0 t4_0 t4_1 t5_0 t6_0 t6_1 t7_0 t8_0 t8_1 t9_0 t10_0 t10_1 t11_0 p64 p111 n lx139 lx140 lx141 lx142 lx143 lx144 lx145 lx146 lx147 lx148 lx149 lx150 lx151) ∧ G5 (bU 220 vm vn) (bI 220) (bI 220) (bI 220) (bW R2 vm) (F_Mil_powerBelow_L27 R R2 t0_0 t0_1 t1_0 t2_0 t2_1 t3_0 t4_0 t4_1 t5_0 t6_0 t6_1 t7_0 t8_0 t8_1 t9_0 t10_0 t10_1 t11_0 p64 p111 n lx139 lx140 lx141 lx142 lx143 lx144 lx145 lx146 lx147 lx148 lx149 lx150 lx151) := by
  have e := e220
  have e0 : (0 : Int32).toInt = 0 := rfl
  have sn := hn.sB hMn
  intro n
  induction n with
  | zero => intros; omega
  | succ n ih =>
    intro lx139 lx140 lx141 lx142 lx143 lx144 lx145 lx146 lx147 lx148 lx149 lx150 lx151 hl hl0 hq hp hw hm
    rw [S_Mil_powerBelow_L27.eq_2, F_Mil_powerBelow_L27.eq_2]
    have sp := hp.B hMm
    obtain ⟨v, v1, v2, v3⟩ := hp
    by_cases hj : lx139 < 0
    · rw [if_pos hj, if_pos hj]
      have h122 : P1 220 v (F_Big_copy (220 : Int32) (220 : Int32) t0_0 t0_1 t1_0 lx143 lx144 lx145) := W_copy v3 v3.fit (by decide)
      generalize (F_Big_copy (220 : Int32) (220 : Int32) t0_0 t0_1 t1_0 lx143 lx144 lx145) = p210 at h122 ⊢
      unfold S_Mil_powerBelow_c122 F_Mil_powerBelow_c122
      exact ⟨trivial, ⟨v, v1, v2, h122⟩, hq, trivial, hw, hm⟩
    · rw [if_neg hj, if_neg hj]
      have hj2 := q_nltI hj
      have jt := Int32.toInt_lt lx139
      have ej : (lx139 + (-1) : Int32).toInt = lx139.toInt + (-1) := q_addI (b := -1) (y := -1) rfl (by decide) (by omega) (by omega)
      have h43 : P1 220 (v * v) (F_Big_product (220 : Int32) (220 : Int32) (220 : Int32) lx146 lx147 lx148 lx143 lx144 lx145 lx143 lx144 lx145) := W_product v3 v3 (by decide) (by omega)
      generalize (F_Big_product (220 : Int32) (220 : Int32) (220 : Int32) lx146 lx147 lx148 lx143 lx144 lx145 lx143 lx144 lx145) = p235 at h43 ⊢
      unfold S_Mil_powerBelow_c43 F_Mil_powerBelow_c43
      have s43 := h43.sB ((hMm.le (by omega : v.natAbs ≤ vm.natAbs)).mul (hMm.le (by omega : v.natAbs ≤ vm.natAbs)))
      have h55 : S_Big_divideBy (220 : Int32) R2 (220 : Int32) (p235.1 : Int32) (p235.2.1 : Int32) (p235.2.2 : (Nat → Int32)) lx149 lx150 lx151 lx140 lx141 lx142 ∧ P3 220 R2 220 ((v * v).tmod vm) vm (((v * v).natAbs / vm.natAbs : Nat) : Int) (F_Big_divideBy (220 : Int32) R2 (220 : Int32) (p235.1 : Int32) (p235.2.1 : Int32) (p235.2.2 : (Nat → Int32)) lx149 lx150 lx151 lx140 lx141 lx142) := W_divideBy h43 hm hv (by omega) (by omega) (by decide)
      refine v_owe h55.1 ?_
      replace h55 := h55.2
      generalize (F_Big_divideBy (220 : Int32) R2 (220 : Int32) (p235.1 : Int32) (p235.2.1 : Int32) (p235.2.2 : (Nat → Int32)) lx149 lx150 lx151 lx140 lx141 lx142) = p282 at h55 ⊢
      unfold S_Mil_powerBelow_c55 F_Mil_powerBelow_c55
      have t1 := v_tmU (u := v * v) hv
      have t2 : 0 ≤ (v * v).tmod vm := v_tm0 (v_sq0 v)
      have s55 := h55.1.sB (hMm.le (by omega : ((v * v).tmod vm).natAbs ≤ vm.natAbs))
      generalize (v * v).tmod vm = w at h55 t1 t2 s55
      split
      · have h79 : P1 220 (w * vn) (F_Big_product (220 : Int32) (220 : Int32) (220 : Int32) lx143 lx144 lx145 (p282.1 : Int32) (p282.2.1 : Int32) (p282.2.2.1 : (Nat → Int32)) t0_0 t0_1 t1_0) := W_product h55.1 hn (by decide) (by omega)
        generalize (F_Big_product (220 : Int32) (220 : Int32) (220 : Int32) lx143 lx144 lx145 (p282.1 : Int32) (p282.2.1 : Int32) (p282.2.2.1 : (Nat → Int32)) t0_0 t0_1 t1_0) = p348 at h79 ⊢
        unfold S_Mil_powerBelow_c79 F_Mil_powerBelow_c79
        have s79 := h79.sB ((hMm.le (by omega : w.natAbs ≤ vm.natAbs)).mul hMn)
        have h91 : S_Big_divideBy (220 : Int32) R2 (220 : Int32) (p348.1 : Int32) (p348.2.1 : Int32) (p348.2.2 : (Nat → Int32)) (p282.2.2.2.1 : Int32) (p282.2.2.2.2.1 : Int32) (p282.2.2.2.2.2.1 : (Nat → Int32)) (p282.2.2.2.2.2.2.1 : Int32) (p282.2.2.2.2.2.2.2.1 : Int32) (p282.2.2.2.2.2.2.2.2 : (Nat → Int32)) ∧ P3 220 R2 220 ((w * vn).tmod vm) vm (((w * vn).natAbs / vm.natAbs : Nat) : Int) (F_Big_divideBy (220 : Int32) R2 (220 : Int32) (p348.1 : Int32) (p348.2.1 : Int32) (p348.2.2 : (Nat → Int32)) (p282.2.2.2.1 : Int32) (p282.2.2.2.2.1 : Int32) (p282.2.2.2.2.2.1 : (Nat → Int32)) (p282.2.2.2.2.2.2.1 : Int32) (p282.2.2.2.2.2.2.2.1 : Int32) (p282.2.2.2.2.2.2.2.2 : (Nat → Int32))) := W_divideBy h79 h55.2.1 hv (by omega) (by omega) (by decide)
        refine v_owe h91.1 ?_
        replace h91 := h91.2
        generalize (F_Big_divideBy (220 : Int32) R2 (220 : Int32) (p348.1 : Int32) (p348.2.1 : Int32) (p348.2.2 : (Nat → Int32)) (p282.2.2.2.1 : Int32) (p282.2.2.2.2.1 : Int32) (p282.2.2.2.2.2.1 : (Nat → Int32)) (p282.2.2.2.2.2.2.1 : Int32) (p282.2.2.2.2.2.2.2.1 : Int32) (p282.2.2.2.2.2.2.2.2 : (Nat → Int32))) = p395 at h91 ⊢
        unfold S_Mil_powerBelow_c91 F_Mil_powerBelow_c91
        exact ih _ _ _ _ _ _ _ _ _ _ _ _ _ (by rw [ej]; omega) (by rw [ej]; omega) trivial ⟨_, v_tmU hv, fun h => v_tm0 (Int.mul_nonneg t2 h), h91.1⟩ trivial h91.2.1
      · have h105 : P1 220 w (F_Big_copy (220 : Int32) (220 : Int32) lx143 lx144 lx145 (p282.1 : Int32) (p282.2.1 : Int32) (p282.2.2.1 : (Nat → Int32))) := W_copy h55.1 h55.1.fit (by decide)
        generalize (F_Big_copy (220 : Int32) (220 : Int32) lx143 lx144 lx145 (p282.1 : Int32) (p282.2.1 : Int32) (p282.2.2.1 : (Nat → Int32))) = p321 at h105 ⊢
        unfold S_Mil_powerBelow_c105 F_Mil_powerBelow_c105
        exact ih _ _ _ _ _ _ _ _ _ _ _ _ _ (by rw [ej]; omega) (by rw [ej]; omega) trivial ⟨w, t1, fun _ => t2, h105⟩ trivial h55.2.1
theorem T_powerBelow_aL {R2 : Int32} {t0_0 : Int32} {t0_1 : Int32} {t1_0 : (Nat → Int32)} {t2_0 : Int32} {t2_1 : Int32} {t3_0 : (Nat → Int32)} {t4_0 : Int32} {t4_1 : Int32} {t5_0 : (Nat → Int32)} {t6_0 : Int32} {t6_1 : Int32} {t7_0 : (Nat → Int32)} {t8_0 : Int32} {t8_1 : Int32} {t9_0 : (Nat → Int32)} {p56 : (Int32 × Int32 × (Nat → Int32))} {p101 : (Int32 × Int32 × (Nat → Int32) × Int32 × Int32 × (Nat → Int32) × Int32 × Int32 × (Nat → Int32))} {vn vm : Int} {M : Nat} (hn : bO 220 t0_0 t0_1 t1_0 vn) (hv : vm ≠ 0) (hMn : bB M vn) (hMm : bB M vm) (hM : 2 * M + 2 ≤ 220) : ∀ (n : Nat) (lx129 : Int32) (lx130 : Int32) (lx131 : Int32) (lx132 : (Nat → Int32)) (lx133 : Int32) (lx134 : Int32) (lx135 : (Nat → Int32)) (lx136 : Int32) (lx137 : Int32) (lx138 : (Nat → Int32)) (lx139 : Int32) (lx140 : Int32) (lx141 : (Nat → Int32)), lx129.toInt + 1 < (n : Int) → -1 ≤ lx129.toInt → bI 220 lx130 lx131 lx132 → bU 220 vm vn lx133 lx134 lx135 → bI 220 lx136 lx137 lx138 → bO R2 lx139 lx140 lx141 vm → (S_Mil_powerBelow_a_L27 R2 t0_0 t0_1 t1_0 t2_0 t2_1 t3_0 t4_0 t4_1 t5_0 t6_0 t6_1 t7_0 t8_0 t8_1 t9_0 p56 p101 n lx129 lx130 lx131 lx132 lx133 lx134 lx135 lx136 lx137 lx138 lx139 lx140 lx141) ∧ G5 (bU 220 vm vn) (bI 220) (bI 220) (bI 220) (bW R2 vm) (F_Mil_powerBelow_a_L27 R2 t0_0 t0_1 t1_0 t2_0 t2_1 t3_0 t4_0 t4_1 t5_0 t6_0 t6_1 t7_0 t8_0 t8_1 t9_0 p56 p101 n lx129 lx130 lx131 lx132 lx133 lx134 lx135 lx136 lx137 lx138 lx139 lx140 lx141) := by
  have e := e220
  have e0 : (0 : Int32).toInt = 0 := rfl
  have sn := hn.sB hMn
  intro n
  induction n with
  | zero => intros; omega
  | succ n ih =>
    intro lx129 lx130 lx131 lx132 lx133 lx134 lx135 lx136 lx137 lx138 lx139 lx140 lx141 hl hl0 hq hp hw hm
    rw [S_Mil_powerBelow_a_L27.eq_2, F_Mil_powerBelow_a_L27.eq_2]
    have sp := hp.B hMm
    obtain ⟨v, v1, v2, v3⟩ := hp
    by_cases hj : lx129 < 0
    · rw [if_pos hj, if_pos hj]
      have h122 : P1 220 v (F_Big_copy (220 : Int32) (220 : Int32) t0_0 t0_1 t1_0 lx133 lx134 lx135) := W_copy v3 v3.fit (by decide)
      generalize (F_Big_copy (220 : Int32) (220 : Int32) t0_0 t0_1 t1_0 lx133 lx134 lx135) = p198 at h122 ⊢
      unfold S_Mil_powerBelow_a_c122 F_Mil_powerBelow_a_c122
      exact ⟨trivial, ⟨v, v1, v2, h122⟩, hq, trivial, hw, hm⟩
    · rw [if_neg hj, if_neg hj]
      have hj2 := q_nltI hj
      have jt := Int32.toInt_lt lx129
      have ej : (lx129 + (-1) : Int32).toInt = lx129.toInt + (-1) := q_addI (b := -1) (y := -1) rfl (by decide) (by omega) (by omega)
      have h43 : P1 220 (v * v) (F_Big_product (220 : Int32) (220 : Int32) (220 : Int32) lx136 lx137 lx138 lx133 lx134 lx135 lx133 lx134 lx135) := W_product v3 v3 (by decide) (by omega)
      generalize (F_Big_product (220 : Int32) (220 : Int32) (220 : Int32) lx136 lx137 lx138 lx133 lx134 lx135 lx133 lx134 lx135) = p223 at h43 ⊢
      unfold S_Mil_powerBelow_a_c43 F_Mil_powerBelow_a_c43
      have s43 := h43.sB ((hMm.le (by omega : v.natAbs ≤ vm.natAbs)).mul (hMm.le (by omega : v.natAbs ≤ vm.natAbs)))
      have h55 : S_Big_divideBy (220 : Int32) R2 (220 : Int32) (p223.1 : Int32) (p223.2.1 : Int32) (p223.2.2 : (Nat → Int32)) lx139 lx140 lx141 lx130 lx131 lx132 ∧ P3 220 R2 220 ((v * v).tmod vm) vm (((v * v).natAbs / vm.natAbs : Nat) : Int) (F_Big_divideBy (220 : Int32) R2 (220 : Int32) (p223.1 : Int32) (p223.2.1 : Int32) (p223.2.2 : (Nat → Int32)) lx139 lx140 lx141 lx130 lx131 lx132) := W_divideBy h43 hm hv (by omega) (by omega) (by decide)
      refine v_owe h55.1 ?_
      replace h55 := h55.2
      generalize (F_Big_divideBy (220 : Int32) R2 (220 : Int32) (p223.1 : Int32) (p223.2.1 : Int32) (p223.2.2 : (Nat → Int32)) lx139 lx140 lx141 lx130 lx131 lx132) = p268 at h55 ⊢
      unfold S_Mil_powerBelow_a_c55 F_Mil_powerBelow_a_c55
      have t1 := v_tmU (u := v * v) hv
      have t2 : 0 ≤ (v * v).tmod vm := v_tm0 (v_sq0 v)
      have s55 := h55.1.sB (hMm.le (by omega : ((v * v).tmod vm).natAbs ≤ vm.natAbs))
      generalize (v * v).tmod vm = w at h55 t1 t2 s55
      split
      · have h79 : P1 220 (w * vn) (F_Big_product (220 : Int32) (220 : Int32) (220 : Int32) lx133 lx134 lx135 (p268.1 : Int32) (p268.2.1 : Int32) (p268.2.2.1 : (Nat → Int32)) t0_0 t0_1 t1_0) := W_product h55.1 hn (by decide) (by omega)
        generalize (F_Big_product (220 : Int32) (220 : Int32) (220 : Int32) lx133 lx134 lx135 (p268.1 : Int32) (p268.2.1 : Int32) (p268.2.2.1 : (Nat → Int32)) t0_0 t0_1 t1_0) = p334 at h79 ⊢
        unfold S_Mil_powerBelow_a_c79 F_Mil_powerBelow_a_c79
        have s79 := h79.sB ((hMm.le (by omega : w.natAbs ≤ vm.natAbs)).mul hMn)
        have h91 : S_Big_divideBy (220 : Int32) R2 (220 : Int32) (p334.1 : Int32) (p334.2.1 : Int32) (p334.2.2 : (Nat → Int32)) (p268.2.2.2.1 : Int32) (p268.2.2.2.2.1 : Int32) (p268.2.2.2.2.2.1 : (Nat → Int32)) (p268.2.2.2.2.2.2.1 : Int32) (p268.2.2.2.2.2.2.2.1 : Int32) (p268.2.2.2.2.2.2.2.2 : (Nat → Int32)) ∧ P3 220 R2 220 ((w * vn).tmod vm) vm (((w * vn).natAbs / vm.natAbs : Nat) : Int) (F_Big_divideBy (220 : Int32) R2 (220 : Int32) (p334.1 : Int32) (p334.2.1 : Int32) (p334.2.2 : (Nat → Int32)) (p268.2.2.2.1 : Int32) (p268.2.2.2.2.1 : Int32) (p268.2.2.2.2.2.1 : (Nat → Int32)) (p268.2.2.2.2.2.2.1 : Int32) (p268.2.2.2.2.2.2.2.1 : Int32) (p268.2.2.2.2.2.2.2.2 : (Nat → Int32))) := W_divideBy h79 h55.2.1 hv (by omega) (by omega) (by decide)
        refine v_owe h91.1 ?_
        replace h91 := h91.2
        generalize (F_Big_divideBy (220 : Int32) R2 (220 : Int32) (p334.1 : Int32) (p334.2.1 : Int32) (p334.2.2 : (Nat → Int32)) (p268.2.2.2.1 : Int32) (p268.2.2.2.2.1 : Int32) (p268.2.2.2.2.2.1 : (Nat → Int32)) (p268.2.2.2.2.2.2.1 : Int32) (p268.2.2.2.2.2.2.2.1 : Int32) (p268.2.2.2.2.2.2.2.2 : (Nat → Int32))) = p379 at h91 ⊢
        unfold S_Mil_powerBelow_a_c91 F_Mil_powerBelow_a_c91
        exact ih _ _ _ _ _ _ _ _ _ _ _ _ _ (by rw [ej]; omega) (by rw [ej]; omega) trivial ⟨_, v_tmU hv, fun h => v_tm0 (Int.mul_nonneg t2 h), h91.1⟩ trivial h91.2.1
      · have h105 : P1 220 w (F_Big_copy (220 : Int32) (220 : Int32) lx133 lx134 lx135 (p268.1 : Int32) (p268.2.1 : Int32) (p268.2.2.1 : (Nat → Int32))) := W_copy h55.1 h55.1.fit (by decide)
        generalize (F_Big_copy (220 : Int32) (220 : Int32) lx133 lx134 lx135 (p268.1 : Int32) (p268.2.1 : Int32) (p268.2.2.1 : (Nat → Int32))) = p307 at h105 ⊢
        unfold S_Mil_powerBelow_a_c105 F_Mil_powerBelow_a_c105
        exact ih _ _ _ _ _ _ _ _ _ _ _ _ _ (by rw [ej]; omega) (by rw [ej]; omega) trivial ⟨w, t1, fun _ => t2, h105⟩ trivial h55.2.1
theorem T_powerBelow {R : Int32} {R2 : Int32} {t0_0 : Int32} {t0_1 : Int32} {t1_0 : (Nat → Int32)} {t2_0 : Int32} {t2_1 : Int32} {t3_0 : (Nat → Int32)} {t4_0 : Int32} {t4_1 : Int32} {t5_0 : (Nat → Int32)} {t6_0 : Int32} {t6_1 : Int32} {t7_0 : (Nat → Int32)} {t8_0 : Int32} {t8_1 : Int32} {t9_0 : (Nat → Int32)} {t10_0 : Int32} {t10_1 : Int32} {t11_0 : (Nat → Int32)} {vn vm : Int} {M : Nat} (hn : bO 220 t0_0 t0_1 t1_0 vn) (hw : bI 220 t6_0 t6_1 t7_0) (hm : bO R2 t10_0 t10_1 t11_0 vm) (he : bJ R t8_0 t8_1 t9_0) (hv : vm ≠ 0) (hMn : bB M vn) (hMm : bB M vm) (hM : 2 * M + 2 ≤ 220) : (S_Mil_powerBelow R R2 t0_0 t0_1 t1_0 t2_0 t2_1 t3_0 t4_0 t4_1 t5_0 t6_0 t6_1 t7_0 t8_0 t8_1 t9_0 t10_0 t10_1 t11_0) ∧ G5 (bU 220 vm vn) (bI 220) (bI 220) (bI 220) (bW R2 vm) (F_Mil_powerBelow R R2 t0_0 t0_1 t1_0 t2_0 t2_1 t3_0 t4_0 t4_1 t5_0 t6_0 t6_1 t7_0 t8_0 t8_1 t9_0 t10_0 t10_1 t11_0) := by
  have e := e220
  unfold S_Mil_powerBelow F_Mil_powerBelow
  have h5 : P1 220 1 (F_Big_setLong (220 : Int32) (1 : Int64) t4_0 t4_1 t5_0) := W_setLong (x := 1) (by decide) (by decide)
  generalize (F_Big_setLong (220 : Int32) (1 : Int64) t4_0 t4_1 t5_0) = p64 at h5 ⊢
  unfold S_Mil_powerBelow_c5 F_Mil_powerBelow_c5
  have b1 : bB 1 1 := by
    show 1 < 2147483648 ^ 1
    decide
  have s5 := h5.sB b1
  have h17 : S_Big_divideBy (220 : Int32) R2 (220 : Int32) (p64.1 : Int32) (p64.2.1 : Int32) (p64.2.2 : (Nat → Int32)) t10_0 t10_1 t11_0 t2_0 t2_1 t3_0 ∧ P3 220 R2 220 ((1 : Int).tmod vm) vm (((1 : Int).natAbs / vm.natAbs : Nat) : Int) (F_Big_divideBy (220 : Int32) R2 (220 : Int32) (p64.1 : Int32) (p64.2.1 : Int32) (p64.2.2 : (Nat → Int32)) t10_0 t10_1 t11_0 t2_0 t2_1 t3_0) := W_divideBy h5 hm hv (by omega) (by omega) (by decide)
  refine v_owe h17.1 ?_
  replace h17 := h17.2
  generalize (F_Big_divideBy (220 : Int32) R2 (220 : Int32) (p64.1 : Int32) (p64.2.1 : Int32) (p64.2.2 : (Nat → Int32)) t10_0 t10_1 t11_0 t2_0 t2_1 t3_0) = p111 at h17 ⊢
  unfold S_Mil_powerBelow_c17 F_Mil_powerBelow_c17
  have k1 := v_blF he
  exact T_powerBelowL hn hv hMn hMm hM _ _ _ _ _ _ _ _ _ _ _ _ _ _ (by omega) (by omega) trivial ⟨_, v_tmU hv, fun _ => v_tm0 (by decide), h17.1⟩ hw h17.2.1
theorem T_powerBelow_a {R2 : Int32} {t0_0 : Int32} {t0_1 : Int32} {t1_0 : (Nat → Int32)} {t2_0 : Int32} {t2_1 : Int32} {t3_0 : (Nat → Int32)} {t4_0 : Int32} {t4_1 : Int32} {t5_0 : (Nat → Int32)} {t6_0 : Int32} {t6_1 : Int32} {t7_0 : (Nat → Int32)} {t8_0 : Int32} {t8_1 : Int32} {t9_0 : (Nat → Int32)} {vn vm : Int} {M : Nat} (hn : bO 220 t0_0 t0_1 t1_0 vn) (hw : bI 220 t6_0 t6_1 t7_0) (hm : bO R2 t8_0 t8_1 t9_0 vm)  (hv : vm ≠ 0) (hMn : bB M vn) (hMm : bB M vm) (hM : 2 * M + 2 ≤ 220) : (S_Mil_powerBelow_a R2 t0_0 t0_1 t1_0 t2_0 t2_1 t3_0 t4_0 t4_1 t5_0 t6_0 t6_1 t7_0 t8_0 t8_1 t9_0) ∧ G5 (bU 220 vm vn) (bI 220) (bI 220) (bI 220) (bW R2 vm) (F_Mil_powerBelow_a R2 t0_0 t0_1 t1_0 t2_0 t2_1 t3_0 t4_0 t4_1 t5_0 t6_0 t6_1 t7_0 t8_0 t8_1 t9_0) := by
  have e := e220
  unfold S_Mil_powerBelow_a F_Mil_powerBelow_a
  have h5 : P1 220 1 (F_Big_setLong (220 : Int32) (1 : Int64) t4_0 t4_1 t5_0) := W_setLong (x := 1) (by decide) (by decide)
  generalize (F_Big_setLong (220 : Int32) (1 : Int64) t4_0 t4_1 t5_0) = p56 at h5 ⊢
  unfold S_Mil_powerBelow_a_c5 F_Mil_powerBelow_a_c5
  have b1 : bB 1 1 := by
    show 1 < 2147483648 ^ 1
    decide
  have s5 := h5.sB b1
  have h17 : S_Big_divideBy (220 : Int32) R2 (220 : Int32) (p56.1 : Int32) (p56.2.1 : Int32) (p56.2.2 : (Nat → Int32)) t8_0 t8_1 t9_0 t2_0 t2_1 t3_0 ∧ P3 220 R2 220 ((1 : Int).tmod vm) vm (((1 : Int).natAbs / vm.natAbs : Nat) : Int) (F_Big_divideBy (220 : Int32) R2 (220 : Int32) (p56.1 : Int32) (p56.2.1 : Int32) (p56.2.2 : (Nat → Int32)) t8_0 t8_1 t9_0 t2_0 t2_1 t3_0) := W_divideBy h5 hm hv (by omega) (by omega) (by decide)
  refine v_owe h17.1 ?_
  replace h17 := h17.2
  generalize (F_Big_divideBy (220 : Int32) R2 (220 : Int32) (p56.1 : Int32) (p56.2.1 : Int32) (p56.2.2 : (Nat → Int32)) t8_0 t8_1 t9_0 t2_0 t2_1 t3_0) = p101 at h17 ⊢
  unfold S_Mil_powerBelow_a_c17 F_Mil_powerBelow_a_c17
  have k1 := v_blF h17.2.1.J
  exact T_powerBelow_aL hn hv hMn hMm hM _ _ _ _ _ _ _ _ _ _ _ _ _ _ (by omega) (by omega) trivial ⟨_, v_tmU hv, fun _ => v_tm0 (by decide), h17.1⟩ hw h17.2.1
