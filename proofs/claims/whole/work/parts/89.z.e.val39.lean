/-! values: the nearest float of a decimal -/
theorem W_five {R x s neg : Int32} {f : Nat → Int32} {v : Int} {M : Nat} (h : bO R s neg f v) (hM : (M : Int) < R.toInt) (hv : v.natAbs * 5 ^ x.toNatClampNeg < 2147483648 ^ M) : P1 R (v * 5 ^ x.toNatClampNeg) (F_Big_timesFive R x s neg f) := by
  have a1 := h.abs
  have hv2 : bV s f * 5 ^ x.toNatClampNeg < 2147483648 ^ M := by
    rw [a1]
    have h1 := Int.ofNat_lt.mpr hv
    rw [Int.natCast_mul, Int.natCast_pow, Int.natCast_pow] at h1
    exact h1
  obtain ⟨z, g, c1, c2, c3⟩ := V_five (R := R) (x := x) (neg := neg) h.1 h.2.2.2.2 hM hv2
  rw [c1]
  have hz : z.toInt ≤ (M : Int) := c2.sz (by rw [c3]; exact hv2)
  refine ⟨c2, ?_, ?_, by show z.toInt ≤ _; omega, h.2.2.2.2⟩
  · rcases h.2.1 with h1 | ⟨h1, h3⟩
    · exact Or.inl h1
    · refine Or.inr ⟨h1, ?_⟩
      apply c2.pos.mpr
      show 0 < bV z g
      rw [c3]
      exact Int.mul_pos (h.1.pos.mp h3) (v_t5 _)
  · have h3 := h.2.2.1
    show bS neg z g = _
    unfold bS at h3 ⊢
    rw [c3]
    split at h3
    · rename_i hn
      rw [if_pos hn, h3]
    · rename_i hn
      rw [if_neg hn, ← h3, Int.neg_mul]
/-- bits and limbs of a number that is not 0 -/
theorem W_bl {R s n : Int32} {f : Nat → Int32} {v : Int} (h : bO R s n f v) (hv : v ≠ 0) : ∃ b : Nat, (F_Big_bitLength R s n f).toInt = (b : Int) ∧ 1 ≤ b ∧ b ≤ 6820 ∧ v.natAbs < 2 ^ b ∧ 31 * (s.toInt - 1) ≤ (b : Int) - 1 := by
  obtain ⟨b, b1, b2, b3, b4⟩ := V_bits (R := R) (neg := n) h.1 h.fit
  have hs := h.pos.mpr hv
  have hcl := q_clI (i := s) rfl h.s0
  have hf := h.fit
  obtain ⟨b5, b6⟩ := b4 hs
  have b7 : v.natAbs < 2 ^ b := by
    apply Int.ofNat_lt.mp
    rw [Int.natCast_pow, ← h.abs]
    exact b3
  refine ⟨b, b1, b5, by omega, b7, ?_⟩
  obtain ⟨k, hk⟩ : ∃ k : Nat, s.toInt = (k : Int) + 1 := ⟨(s.toInt - 1).toNat, by omega⟩
  have g := h.1.ge hk
  rw [h.abs] at g
  have g2 : 2147483648 ^ k ≤ v.natAbs := by
    apply Int.ofNat_le.mp
    rw [Int.natCast_pow]
    exact g
  have e : (2147483648 : Nat) ^ k = 2 ^ (31 * k) := by rw [Nat.pow_mul]
  rw [e] at g2
  have g3 : 2 ^ (31 * k) < 2 ^ b := Nat.lt_of_le_of_lt g2 b7
  have g4 : 31 * k < b := (Nat.pow_lt_pow_iff_right (by decide)).mp g3
  omega
theorem v_5le {k M : Nat} (h : 196 * k ≤ 1829 * M) (hk : 0 < k) : 5 ^ k < 2147483648 ^ M := Nat.lt_of_lt_of_le (Nat.pow_lt_pow_left (by decide) (by omega)) (v_tB h)
theorem v_70 : (70 : Int32).toInt = 70 := rfl
theorem S_near {A : Int32} {B : Int32} {C : Int32} {R2 : Int32} {x3 : Int64} {t0_0 : Int32} {t0_1 : Int32} {t1_0 : (Nat → Int32)} {t2_0 : Int32} {t2_1 : Int32} {t3_0 : (Nat → Int32)} {t4_0 : Int32} {t4_1 : Int32} {t5_0 : (Nat → Int32)} {t6_0 : Int32} {t6_1 : Int32} {t7_0 : (Nat → Int32)} {t8_0 : Int32} {t8_1 : Int32} {t9_0 : (Nat → Int32)} {v : Int} (h : bO R2 t8_0 t8_1 t9_0 v) (hv : v.natAbs < 10 ^ 1001) (hx : -4000000000000000000 ≤ x3.toInt) (hx2 : x3.toInt ≤ 4000000000000000000) : (S_Flo_nearestDecimal A B C R2 x3 t0_0 t0_1 t1_0 t2_0 t2_1 t3_0 t4_0 t4_1 t5_0 t6_0 t6_1 t7_0 t8_0 t8_1 t9_0) := by
  have e := e220
  have e0 : (0 : Int32).toInt = 0 := rfl
  have l0 : (0 : Int64).toInt = 0 := rfl
  have l4 : (400 : Int64).toInt = 400 := rfl
  have l5 : (-400 : Int64).toInt = -400 := rfl
  have hB : bB 108 v := v_tBB hv (by decide)
  unfold S_Flo_nearestDecimal
  by_cases g0 : t8_0 = 0
  · rw [if_pos g0]
    trivial
  rw [if_neg g0]
  have v0 : v ≠ 0 := fun h9 => g0 (h.nil.mpr h9)
  obtain ⟨⟨c, c1, c2, c3, c4⟩, _⟩ := T_countFigures h hB (by decide) (show bI 220 t6_0 t6_1 t7_0 from trivial)
  have c5 : c ≤ 1001 := by
    have h1 := c4 v0
    have h2 : 10 ^ (c - 1) < 10 ^ 1001 := Nat.lt_of_le_of_lt h1 hv
    have h3 := (Nat.pow_lt_pow_iff_right (by decide)).mp h2
    omega
  generalize F_Mil_countFigures R2 t6_0 t6_1 t7_0 t8_0 t8_1 t9_0 = p62 at c1 ⊢
  unfold S_Flo_nearestDecimal_c14
  have q1 : (p62.1.toInt64 - x3 : Int64).toInt = (c : Int) - x3.toInt := q_subL (q_i2l c1) rfl (by omega) (by omega)
  by_cases g1 : 0 < lg_cmp (p62.1.toInt64 - x3) 400
  · rw [if_pos g1]
    trivial
  rw [if_neg g1]
  by_cases g2 : 0 ≤ lg_cmp (p62.1.toInt64 - x3) (-400)
  · rw [if_pos g2]
    have g2' := q_k7 g2
    rw [q1] at g2'
    have h1 : P1 220 v (F_Big_copy 220 R2 t0_0 t0_1 t1_0 t8_0 t8_1 t9_0) := W_copy h h.fit (by decide)
    generalize F_Big_copy 220 R2 t0_0 t0_1 t1_0 t8_0 t8_1 t9_0 = p112 at h1 ⊢
    unfold S_Flo_nearestDecimal_c68
    by_cases g3 : 0 < lg_cmp x3 0
    · rw [if_pos g3]
      have g3' := q_k3 g3
      have h2 : P1 220 1 (F_Big_setLong 220 1 t2_0 t2_1 t3_0) := W_setLong (x := 1) (by decide) (by decide)
      generalize F_Big_setLong 220 1 t2_0 t2_1 t3_0 = p141 at h2 ⊢
      unfold S_Flo_nearestDecimal_c107
      have lx := s_l2i (x := x3) (by omega) (by omega)
      have hk : x3.toInt32.toNatClampNeg = x3.toInt.toNat := by rw [v_cn, lx]
      have m1 : (1 : Int).natAbs * 5 ^ x3.toInt32.toNatClampNeg < 2147483648 ^ 151 := by
        rw [hk, show (1 : Int).natAbs = 1 from rfl, Nat.one_mul]
        exact v_5le (by omega) (by omega)
      have h3 := W_five (M := 151) h2 (by decide) m1
      have n3 : (1 : Int) * 5 ^ x3.toInt32.toNatClampNeg ≠ 0 := by
        have := v_t5 x3.toInt32.toNatClampNeg
        omega
      have b3 : bB 151 ((1 : Int) * 5 ^ x3.toInt32.toNatClampNeg) := by
        unfold bB
        rw [Int.natAbs_mul, Int.natAbs_pow]
        exact m1
      generalize (1 : Int) * 5 ^ x3.toInt32.toNatClampNeg = d at h3 n3 b3
      generalize F_Big_timesFive 220 x3.toInt32 p141.1 p141.2.1 p141.2.2 = p166 at h3 ⊢
      unfold S_Flo_nearestDecimal_c114
      obtain ⟨bu, u1, u2, u3, u4, u5⟩ := W_bl h1 v0
      obtain ⟨bd, d1, d2, d3, d4, d5⟩ := W_bl h3 n3
      have sd := h3.sB b3
      have su := h1.sB hB
      obtain ⟨cd, cd1, cd2, cd3, cd4⟩ := V_bits (R := 220) (neg := p166.2.1) h3.1 h3.fit
      have hcl := q_clI (i := p166.1) rfl h3.s0
      have bdl : bd ≤ 31 * 151 := by omega
      have q2 : (F_Big_bitLength 220 p166.1 p166.2.1 p166.2.2 - F_Big_bitLength 220 p112.1 p112.2.1 p112.2.2 : Int32).toInt = (bd : Int) - bu := q_subI d1 u1 (by omega) (by omega)
      have q3 : (F_Big_bitLength 220 p166.1 p166.2.1 p166.2.2 - F_Big_bitLength 220 p112.1 p112.2.1 p112.2.2 + 70 : Int32).toInt = (bd : Int) - bu + 70 := q_addI q2 v_70 (by omega) (by omega)
      obtain ⟨sh, es⟩ := q_nm (F_Big_bitLength 220 p166.1 p166.2.1 p166.2.2 - F_Big_bitLength 220 p112.1 p112.2.1 p112.2.2 + 70 : Int32)
      rw [es] at q3 ⊢
      have hs : (if 0 < sh then sh else 0 : Int32).toInt = (if 0 < sh.toInt then sh.toInt else 0) := by
        split
        · rename_i h9
          have := q_ltI h9
          rw [if_pos (by omega)]
        · rename_i h9
          rw [if_neg (by have := q_nltI h9; omega)]
          rfl
      obtain ⟨sf, esf⟩ := q_nm (if 0 < sh then sh else 0 : Int32)
      rw [esf] at hs ⊢
      have hs2 : 0 ≤ sf.toInt ∧ sf.toInt ≤ 31 * 154 ∧ ((bu : Int) + sf.toInt ≤ 31 * 154 ∨ sf.toInt = 0) := by
        rw [hs]
        split <;> omega
      have h4 := W_shl (x := sf) h1 (fun _ _ => by omega)
      have b4 : bB 154 (v * 2 ^ sf.toNatClampNeg) := by
        unfold bB
        rw [Int.natAbs_mul, Int.natAbs_pow, v_cn]
        have k1 : v.natAbs * 2 ^ sf.toInt.toNat < 2 ^ bu * 2 ^ sf.toInt.toNat := Nat.mul_lt_mul_of_pos_right u4 (Nat.pow_pos (by decide))
        rw [← Nat.pow_add] at k1
        rcases hs2.2.2 with k2 | k2
        · have e3 : (2147483648 : Nat) ^ 154 = 2 ^ (31 * 154) := by rw [Nat.pow_mul]
          rw [e3]
          exact Nat.lt_of_lt_of_le k1 (Nat.pow_le_pow_right (by decide) (by omega))
        · rw [k2]
          show v.natAbs * 2 ^ 0 < _
          rw [Nat.pow_zero, Nat.mul_one]
          exact hB.mono (by decide)
      generalize v * 2 ^ sf.toNatClampNeg = w at h4 b4
      generalize F_Big_shiftLeft 220 sf p112.1 p112.2.1 p112.2.2 = p215 at h4 ⊢
      have s4 := h4.sB b4
      unfold S_Flo_nearestDecimal_c141
      have dd := W_divideBy (R3 := 220) (sq := t4_0) (nq := t4_1) (fq := t5_0) h4 h3 n3 (by omega) (by omega) (by decide)
      refine ⟨⟨trivial, dd.1⟩, ?_⟩
      unfold S_Flo_nearestDecimal_c155
      split <;> trivial
    · rw [if_neg g3]
      trivial
  · rw [if_neg g2]
    trivial
