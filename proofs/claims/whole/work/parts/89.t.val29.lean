/-! values: shifts, small factors, counting figures -/
theorem W_shl {R x s neg : Int32} {f : Nat → Int32} {v : Int} (h : bO R s neg f v) (hfit : 0 < s.toInt → 0 < x.toInt → s.toInt + x.toInt / 31 + 1 ≤ R.toInt) : P1 R (v * 2 ^ x.toNatClampNeg) (F_Big_shiftLeft R x s neg f) := by
  have e0 : (0 : Int32).toInt = 0 := rfl
  by_cases hx : x.toInt ≤ 0
  · have hz : x.toNatClampNeg = 0 := by
      show x.toInt.toNat = 0
      omega
    unfold F_Big_shiftLeft
    rw [if_pos (Int32.le_iff_toInt_le.mpr (by rw [e0]; exact hx)), hz, Int.pow_zero, Int.mul_one]
    exact h
  · by_cases hs : s = 0
    · unfold F_Big_shiftLeft
      rw [if_neg (fun hh => by have := q_leI hh; omega), if_pos hs, h.nil.mp hs, Int.zero_mul]
      have := h
      rw [h.nil.mp hs] at this
      exact this
    · have hs2 : 0 < s.toInt := by
        have h1 : s.toInt ≠ (0 : Int32).toInt := fun h9 => hs (Int32.toInt_inj.mp h9)
        have h2 := h.s0
        omega
      have hx2 : 0 < x.toInt := by omega
      obtain ⟨z, g, c1, c2, c3, c4⟩ := V_shlB (R := R) (x := x) (neg := neg) h.1 hx2 hs2 h.2.2.2.2 (hfit hs2 hx2)
      rw [c1]
      have hf := hfit hs2 hx2
      refine bO.mkI c3 h.sg ?_ (by show z.toInt ≤ _; omega) h.2.2.2.2
      have h3 := h.2.2.1
      unfold bS at h3 ⊢
      rw [c4]
      split at h3
      · rename_i hn
        rw [if_pos hn, h3]
      · rename_i hn
        rw [if_neg hn, ← h3, Int.neg_mul]
theorem W_shr {R x s neg : Int32} {f : Nat → Int32} {v : Int} (h : bO R s neg f v) : ∃ w : Int, w.natAbs ≤ v.natAbs ∧ bO R (F_Big_shiftRight R x s neg f).2.1 (F_Big_shiftRight R x s neg f).2.2.1 (F_Big_shiftRight R x s neg f).2.2.2 w := by
  have e0 : (0 : Int32).toInt = 0 := rfl
  by_cases hx : x.toInt ≤ 0
  · unfold F_Big_shiftRight
    rw [if_pos (Int32.le_iff_toInt_le.mpr (by rw [e0]; exact hx))]
    exact ⟨v, Nat.le_refl _, h⟩
  · by_cases hs : s = 0
    · unfold F_Big_shiftRight
      rw [if_neg (fun hh => by have := q_leI hh; omega), if_pos hs]
      exact ⟨v, Nat.le_refl _, h⟩
    · have hs2 : 0 < s.toInt := by
        have h1 : s.toInt ≠ (0 : Int32).toInt := fun h9 => hs (Int32.toInt_inj.mp h9)
        have h2 := h.s0
        omega
      have hx2 : 0 < x.toInt := by omega
      obtain ⟨lost, z, g, c1, c2, c3, c4⟩ := V_shrB (R := R) (x := x) (neg := neg) h.1 hx2 hs2 h.fit
      rw [c1]
      have hR := h.2.2.2.1
      refine ⟨_, ?_, bO.mkI c3 h.sg rfl (by show z.toInt ≤ _; omega) h.2.2.2.2⟩
      have h4 : (bS neg z g).natAbs = (bV z g).natAbs := by
        unfold bS
        split
        · rfl
        · rw [Int.natAbs_neg]
      rw [h4, c4, h.abs]
      have : ((2 : Int) ^ x.toNatClampNeg) = ((2 ^ x.toNatClampNeg : Nat) : Int) := by rw [Int.natCast_pow]; rfl
      rw [this, ← Int.natCast_ediv, Int.natAbs_natCast]
      exact Nat.div_le_self _ _
theorem W_mulS {R x y s neg : Int32} {f : Nat → Int32} {v : Int} (h : bO R s neg f v) (hv : 0 ≤ v) (hx : 1 ≤ x.toInt) (hy : 0 ≤ y.toInt) (hs : s.toInt < R.toInt) : P1 R (x.toInt * v + y.toInt) (F_Big_multiplySmall R x y s neg f) := by
  obtain ⟨z, g, c1, c2, c3, c4, c5⟩ := V_mul (R := R) (x := x) (y := y) (neg := neg) h.1 hx hy hs h.2.2.2.2
  rw [c1]
  have h1 : neg = 0 := by
    rcases h.sgn with h1 | h1
    · exact h1.1
    · omega
  have h2 := h.abs
  subst h1
  refine ⟨c4, Or.inl rfl, ?_, by show z.toInt ≤ _; omega, h.2.2.2.2⟩
  rw [bS_0, c5, h2]
  congr 2
  omega
theorem W_divS {R x s neg : Int32} {f : Nat → Int32} {v : Int} (h : bO R s neg f v) (hx : 1 ≤ x.toInt) : (F_Big_divideSmall R x s neg f).1.toInt = (v.natAbs : Int) % x.toInt ∧ ∃ w : Int, w.natAbs = v.natAbs / x.toInt.toNat ∧ (0 ≤ v → 0 ≤ w) ∧ (v ≤ 0 → w ≤ 0) ∧ bO R (F_Big_divideSmall R x s neg f).2.1 (F_Big_divideSmall R x s neg f).2.2.1 (F_Big_divideSmall R x s neg f).2.2.2 w := by
  obtain ⟨r, z, g, c1, c2, c3, c4, c5, c6⟩ := V_div (R := R) (x := x) (neg := neg) h.1 hx h.fit
  rw [c1]
  have hR := h.2.2.2.1
  have h1 := h.abs
  have e1 : x.toInt = ((x.toInt.toNat : Nat) : Int) := by omega
  have h3 : bV z g = ((v.natAbs / x.toInt.toNat : Nat) : Int) := by
    rw [c5, h1, Int.natCast_ediv, ← e1]
  refine ⟨by show r.toInt = _; rw [c6, h1], bS neg z g, ?_, ?_, ?_, bO.mkI c4 h.sg rfl (by show z.toInt ≤ _; omega) h.2.2.2.2⟩
  · have h5 : (bV z g).natAbs = v.natAbs / x.toInt.toNat := by rw [h3, Int.natAbs_natCast]
    rw [← h5]
    unfold bS
    split
    · rfl
    · rw [Int.natAbs_neg]
  · intro hv
    rcases h.sgn with h2 | h2
    · rw [h2.1, bS_0, h3]
      exact Int.natCast_nonneg _
    · omega
  · intro hv
    rcases h.sgn with h2 | h2
    · have hv0 : v = 0 := by omega
      rw [h2.1, bS_0, h3, hv0]
      show ((0 / _ : Nat) : Int) ≤ 0
      rw [Nat.zero_div]
      exact Int.le_refl _
    · rw [h2.1, bS_1, h3]
      have := Int.natCast_nonneg (v.natAbs / x.toInt.toNat)
      omega
theorem W_addSize {R R2 s neg s2 neg2 : Int32} {f g : Nat → Int32} {v v2 : Int} (h : bO R s neg f v) (hv : 0 ≤ v) (h2 : bO R2 s2 neg2 g v2) (hs : s.toInt < R.toInt) (hs2 : s2.toInt < R.toInt) : P1 R (v + (v2.natAbs : Int)) (F_Big_addSize R R2 s neg f s2 neg2 g) := by
  obtain ⟨z, k, c1, c2, c3, c4, c5, c6⟩ := V_add (R := R) (R2 := R2) (neg := neg) (neg2 := neg2) h.1 h2.1 hs hs2 h.2.2.2.2
  rw [c1]
  have h1 : neg = 0 := by
    rcases h.sgn with h1 | h1
    · exact h1.1
    · omega
  have a1 := h.abs
  have a2 := h2.abs
  subst h1
  refine ⟨c5, Or.inl rfl, ?_, by show z.toInt ≤ _; omega, h.2.2.2.2⟩
  rw [bS_0, c6, a1, a2]
  omega
theorem W_cmp {R R2 s neg s2 neg2 : Int32} {f g : Nat → Int32} {v v2 : Int} (h : bO R s neg f v) (h2 : bO R2 s2 neg2 g v2) :
    ((F_Big_compareSize R R2 s neg f s2 neg2 g).toInt = 0 ∧ v.natAbs = v2.natAbs) ∨ ((F_Big_compareSize R R2 s neg f s2 neg2 g).toInt < 0 ∧ v.natAbs < v2.natAbs) ∨ (0 < (F_Big_compareSize R R2 s neg f s2 neg2 g).toInt ∧ v2.natAbs < v.natAbs) := by
  have h3 := V_cmp (R := R) (R2 := R2) (neg := neg) (neg2 := neg2) h.1 h2.1
  have a1 := h.abs
  have a2 := h2.abs
  omega
theorem W_ten {R x s neg : Int32} {f : Nat → Int32} {v : Int} {M : Nat} (h : bO R s neg f v) (hM : (M : Int) < R.toInt) (hv : v.natAbs * 10 ^ x.toNatClampNeg < 2147483648 ^ M) : P1 R (v * 10 ^ x.toNatClampNeg) (F_Big_timesTen R x s neg f) := by
  have a1 := h.abs
  have hv2 : bV s f * 10 ^ x.toNatClampNeg < 2147483648 ^ M := by
    rw [a1]
    have h1 := Int.ofNat_lt.mpr hv
    rw [Int.natCast_mul, Int.natCast_pow, Int.natCast_pow] at h1
    exact h1
  obtain ⟨z, g, c1, c2, c3⟩ := V_ten (R := R) (x := x) (neg := neg) h.1 h.2.2.2.2 hM hv2
  rw [c1]
  have hz : z.toInt ≤ (M : Int) := c2.sz (by rw [c3]; exact hv2)
  refine ⟨c2, ?_, ?_, by show z.toInt ≤ _; omega, h.2.2.2.2⟩
  · rcases h.2.1 with h1 | ⟨h1, h3⟩
    · exact Or.inl h1
    · refine Or.inr ⟨h1, ?_⟩
      apply c2.pos.mpr
      show 0 < bV z g
      rw [c3]
      exact Int.mul_pos (h.1.pos.mp h3) (v_t10 _)
  · have h3 := h.2.2.1
    show bS neg z g = _
    unfold bS at h3 ⊢
    rw [c3]
    split at h3
    · rename_i hn
      rw [if_pos hn, h3]
    · rename_i hn
      rw [if_neg hn, ← h3, Int.neg_mul]
/-- how many figures: the guess -/
theorem v_gLo {b c : Nat} (h : 1000000000 * c ≤ 301029995 * b) : 10 ^ c ≤ 2 ^ b := by
  have k : (10 : Nat) ^ 8651 ≤ 2 ^ 28738 := by decide +kernel
  have h1 : 28738 * c ≤ 8651 * b := by omega
  have h2 : (10 ^ 8651) ^ c ≤ (2 ^ 28738) ^ c := Nat.pow_le_pow_left k c
  rw [← Nat.pow_mul, ← Nat.pow_mul] at h2
  have h3 : (2 : Nat) ^ (28738 * c) ≤ 2 ^ (8651 * b) := Nat.pow_le_pow_right (by decide) h1
  have h4 : (10 ^ c) ^ 8651 ≤ (2 ^ b) ^ 8651 := by
    rw [← Nat.pow_mul, ← Nat.pow_mul, Nat.mul_comm c, Nat.mul_comm b]
    exact Nat.le_trans h2 h3
  exact (Nat.pow_le_pow_iff_left (by decide)).mp h4
theorem v_gHi {b c : Nat} (hb : b ≤ 6820) (h : 301029995 * (b - 1) < 1000000000 * (c + 1)) : 2 ^ b < 10 ^ (c + 4) := by
  have k : (2 : Nat) ^ 93 ≤ 10 ^ 28 := by decide +kernel
  have h1 : 28 * b < 93 * (c + 4) := by omega
  have h2 : (2 ^ 93) ^ (c + 4) ≤ (10 ^ 28) ^ (c + 4) := Nat.pow_le_pow_left k (c + 4)
  rw [← Nat.pow_mul, ← Nat.pow_mul] at h2
  have h3 : (2 : Nat) ^ (28 * b) < 2 ^ (93 * (c + 4)) := Nat.pow_lt_pow_right (by decide) h1
  have h4 : (2 ^ b) ^ 28 < (10 ^ (c + 4)) ^ 28 := by
    rw [← Nat.pow_mul, ← Nat.pow_mul, Nat.mul_comm b, Nat.mul_comm (c + 4)]
    omega
  exact (Nat.pow_lt_pow_iff_left (by decide)).mp h4
theorem v_gInt {x : Int32} {b : Nat} (hx : x.toInt = (b : Int)) (hb : b ≤ 6820) : ∃ c : Nat, ((((x.toInt64 * 301029995) / 1000000000).toInt32) + 1 : Int32).toInt = (c : Int) + 1 ∧ 1000000000 * c ≤ 301029995 * b ∧ 301029995 * b < 1000000000 * (c + 1) := by
  have h1 : (x.toInt64 * 301029995 : Int64).toInt = (b : Int) * 301029995 := q_mulL (q_i2l hx) rfl (by omega) (by omega)
  have h2 : (x.toInt64 * 301029995 / 1000000000 : Int64).toInt = (b : Int) * 301029995 / 1000000000 := by
    have := v_divL (x := x.toInt64 * 301029995) (y := 1000000000) (by rw [h1]; omega) (by decide)
    rw [this, h1]
    rfl
  have h3 := s_l2i (x := x.toInt64 * 301029995 / 1000000000) (by rw [h2]; omega) (by rw [h2]; omega)
  rw [h2] at h3
  refine ⟨b * 301029995 / 1000000000, ?_, by omega, by omega⟩
  have := q_addI h3 v_e1 (by omega) (by omega)
  rw [this]
  omega
