/-! operations, as far as bounds go -/
def q_F (p : Prop) : Prop := p
theorem q_nm {α : Type} (t : α) : ∃ v, t = v := ⟨t, rfl⟩
theorem s_nn {x : Int32} (h : 0 ≤ x.toInt) : x.toInt = (x.toBitVec.toNat : Int) ∧ x.toBitVec.toNat < 2147483648 ∧ x.toBitVec.msb = false := by
  have h0 : x.toBitVec.msb = false := by
    rw [BitVec.msb_eq_toInt, decide_eq_false_iff_not]
    show ¬ x.toInt < 0
    omega
  have h1 : x.toInt = (x.toBitVec.toNat : Int) := BitVec.toInt_eq_toNat_of_msb h0
  have h2 := Int32.toInt_lt x
  exact ⟨h1, by omega, h0⟩
theorem s_of {x : Int32} {n : Nat} (h : x.toBitVec.toNat = n) (hn : n < 2147483648) : x.toInt = (n : Int) := by
  have h0 : x.toBitVec.msb = false := by
    rw [BitVec.msb_eq_decide]
    simp
    omega
  rw [← h]
  exact BitVec.toInt_eq_toNat_of_msb h0
theorem s_and {x m : Int32} (hm : 0 ≤ m.toInt) : 0 ≤ (x &&& m).toInt ∧ (x &&& m).toInt ≤ m.toInt := by
  obtain ⟨h1, h2, -⟩ := s_nn hm
  have h3 := Nat.and_le_right (n := x.toBitVec.toNat) (m := m.toBitVec.toNat)
  have h4 : (x &&& m).toBitVec.toNat = x.toBitVec.toNat &&& m.toBitVec.toNat := by rw [Int32.toBitVec_and, BitVec.toNat_and]
  have h5 := s_of h4 (by omega)
  omega
theorem s_andL {x m : Int32} (hm : 0 ≤ x.toInt) : 0 ≤ (x &&& m).toInt ∧ (x &&& m).toInt ≤ x.toInt := by
  obtain ⟨h1, h2, -⟩ := s_nn hm
  have h3 := Nat.and_le_left (n := x.toBitVec.toNat) (m := m.toBitVec.toNat)
  have h4 : (x &&& m).toBitVec.toNat = x.toBitVec.toNat &&& m.toBitVec.toNat := by rw [Int32.toBitVec_and, BitVec.toNat_and]
  have h5 := s_of h4 (by omega)
  omega
theorem s_or {x y : Int32} (k : Nat) (hk : k ≤ 31) (hx : 0 ≤ x.toInt ∧ x.toInt < 2 ^ k) (hy : 0 ≤ y.toInt ∧ y.toInt < 2 ^ k) : 0 ≤ (x ||| y).toInt ∧ (x ||| y).toInt < 2 ^ k := by
  obtain ⟨h1, h2, -⟩ := s_nn hx.1
  obtain ⟨h3, h4, -⟩ := s_nn hy.1
  have e : ((2 : Int) ^ k) = ((2 ^ k : Nat) : Int) := by norm_cast
  have h5 := Nat.or_lt_two_pow (x := x.toBitVec.toNat) (y := y.toBitVec.toNat) (n := k) (by omega) (by omega)
  have h6 : (x ||| y).toBitVec.toNat = x.toBitVec.toNat ||| y.toBitVec.toNat := by rw [Int32.toBitVec_or, BitVec.toNat_or]
  have h7 : 2 ^ k ≤ 2 ^ 31 := Nat.pow_le_pow_right (by omega) hk
  have h8 := s_of h6 (by omega)
  omega
theorem s_xor {x y : Int32} (k : Nat) (hk : k ≤ 31) (hx : 0 ≤ x.toInt ∧ x.toInt < 2 ^ k) (hy : 0 ≤ y.toInt ∧ y.toInt < 2 ^ k) : 0 ≤ (x ^^^ y).toInt ∧ (x ^^^ y).toInt < 2 ^ k := by
  obtain ⟨h1, h2, -⟩ := s_nn hx.1
  obtain ⟨h3, h4, -⟩ := s_nn hy.1
  have e : ((2 : Int) ^ k) = ((2 ^ k : Nat) : Int) := by norm_cast
  have h5 := Nat.xor_lt_two_pow (x := x.toBitVec.toNat) (y := y.toBitVec.toNat) (n := k) (by omega) (by omega)
  have h6 : (x ^^^ y).toBitVec.toNat = x.toBitVec.toNat ^^^ y.toBitVec.toNat := by rw [Int32.toBitVec_xor, BitVec.toNat_xor]
  have h7 : 2 ^ k ≤ 2 ^ 31 := Nat.pow_le_pow_right (by omega) hk
  have h8 := s_of h6 (by omega)
  omega
theorem s_ushr {x c : Int32} (k : Nat) (hc : ((c.toUInt32 &&& Int32.toUInt32 31).toBitVec % 32).toNat = k) (hk : 1 ≤ k) : 0 ≤ ((x.toUInt32 >>> (c.toUInt32 &&& Int32.toUInt32 31)).toInt32).toInt ∧ ((x.toUInt32 >>> (c.toUInt32 &&& Int32.toUInt32 31)).toInt32).toInt < 2 ^ (32 - k) ∧ (0 ≤ x.toInt → ((x.toUInt32 >>> (c.toUInt32 &&& Int32.toUInt32 31)).toInt32).toInt = x.toInt / 2 ^ k) := by
  have h1 : ((x.toUInt32 >>> (c.toUInt32 &&& Int32.toUInt32 31)).toInt32).toBitVec.toNat = x.toBitVec.toNat / 2 ^ k := by
    show (x.toUInt32 >>> (c.toUInt32 &&& Int32.toUInt32 31)).toBitVec.toNat = _
    rw [UInt32.toBitVec_shiftRight, BitVec.ushiftRight_eq', BitVec.toNat_ushiftRight, hc, Nat.shiftRight_eq_div_pow]
    rfl
  have h2 := x.toBitVec.isLt
  have h3 : x.toBitVec.toNat / 2 ^ k < 2 ^ (32 - k) := by
    rw [Nat.div_lt_iff_lt_mul (Nat.two_pow_pos k)]
    by_cases h : k ≤ 32
    · rw [← Nat.pow_add, Nat.sub_add_cancel h]; exact h2
    · have h9 := Nat.pow_le_pow_right (n := 2) (by omega) (show 32 ≤ k by omega); have h8 := Nat.two_pow_pos (32 - k)
      calc x.toBitVec.toNat < 2 ^ 32 := h2
        _ ≤ 2 ^ k := h9
        _ ≤ 2 ^ (32 - k) * 2 ^ k := Nat.le_mul_of_pos_left _ h8
  have h4 : 2 ^ (32 - k) ≤ 2 ^ 31 := Nat.pow_le_pow_right (by omega) (by omega)
  have h5 := s_of h1 (by omega)
  have e : ((2 : Int) ^ (32 - k)) = ((2 ^ (32 - k) : Nat) : Int) := by norm_cast
  refine ⟨by omega, by rw [e]; omega, fun h => ?_⟩
  obtain ⟨h6, -, -⟩ := s_nn h
  rw [h5, h6]
  norm_cast
theorem s_shr {x c : Int32} (k : Nat) (hc : (c &&& 31).toBitVec.smod 32 = BitVec.ofNat 32 k) (hk : k ≤ 31) (h0 : 0 ≤ x.toInt) : (x >>> (c &&& 31)).toInt = x.toInt / 2 ^ k := by
  obtain ⟨h1, h2, h3⟩ := s_nn h0
  have e : (x >>> (c &&& 31)).toBitVec.toNat = x.toBitVec.toNat / 2 ^ k := by
    rw [Int32.toBitVec_shiftRight, hc, BitVec.sshiftRight_eq', BitVec.sshiftRight_eq_of_msb_false h3, BitVec.toNat_ushiftRight, Nat.shiftRight_eq_div_pow, BitVec.toNat_ofNat, Nat.mod_eq_of_lt (by omega)]
  have h4 : x.toBitVec.toNat / 2 ^ k ≤ x.toBitVec.toNat := Nat.div_le_self _ _
  have h5 := s_of e (by omega)
  rw [h5, h1]
  norm_cast
theorem s_rem {x b : Int32} (hx : 0 ≤ x.toInt) (hb : 0 < b.toInt) : (x - x / b * b).toInt = x.toInt % b.toInt := by
  have h1 := q_divI (a := x) (b := b) rfl rfl hx hb
  have h2 := Int.mul_ediv_self_le (x := x.toInt) (k := b.toInt) (by omega)
  have h3 := Int.lt_mul_ediv_self_add (x := x.toInt) (k := b.toInt) hb
  have h4 := Int32.toInt_lt x
  have h5 := Int32.toInt_lt b
  have h6 : 0 ≤ x.toInt / b.toInt := Int.ediv_nonneg hx (by omega)
  have h7 : 0 ≤ x.toInt / b.toInt * b.toInt := Int.mul_nonneg h6 (by omega)
  have h8 : x.toInt / b.toInt * b.toInt = b.toInt * (x.toInt / b.toInt) := Int.mul_comm _ _
  have h9 := q_mulI h1 (rfl : b.toInt = b.toInt) (by omega) (by omega)
  have h10 := q_subI (a := x) rfl h9 (by omega) (by omega)
  rw [h10, Int.emod_def]
  omega
theorem s_rem' {x b : Int32} (hx : 0 ≤ x.toInt) (hb : 0 < b.toInt) : 0 ≤ (x - x / b * b).toInt ∧ (x - x / b * b).toInt < b.toInt ∧ (x - x / b * b).toInt ≤ x.toInt := by
  rw [s_rem hx hb]
  exact ⟨Int.emod_nonneg _ (by omega), Int.emod_lt_of_pos _ hb, by have := Int.emod_add_ediv_mul x.toInt b.toInt; have h6 : 0 ≤ x.toInt / b.toInt * b.toInt := Int.mul_nonneg (Int.ediv_nonneg hx (by omega)) (by omega); omega⟩
theorem s_l2i {x : Int64} (h1 : -2147483648 ≤ x.toInt) (h2 : x.toInt ≤ 2147483647) : x.toInt32.toInt = x.toInt := by
  rw [Int64.toInt_toInt32]
  simp only [Int.bmod_def]
  omega
theorem s_nnL {x : Int64} (h : 0 ≤ x.toInt) : x.toInt = (x.toBitVec.toNat : Int) ∧ x.toBitVec.toNat < 9223372036854775808 ∧ x.toBitVec.msb = false := by
  have h0 : x.toBitVec.msb = false := by
    rw [BitVec.msb_eq_toInt, decide_eq_false_iff_not]
    show ¬ x.toInt < 0
    omega
  have h1 : x.toInt = (x.toBitVec.toNat : Int) := BitVec.toInt_eq_toNat_of_msb h0
  have h2 := Int64.toInt_lt x
  exact ⟨h1, by omega, h0⟩
theorem s_ofL {x : Int64} {n : Nat} (h : x.toBitVec.toNat = n) (hn : n < 9223372036854775808) : x.toInt = (n : Int) := by
  have h0 : x.toBitVec.msb = false := by
    rw [BitVec.msb_eq_decide]
    simp
    omega
  rw [← h]
  exact BitVec.toInt_eq_toNat_of_msb h0
theorem s_andJ {x m : Int64} (hm : 0 ≤ m.toInt) : 0 ≤ (x &&& m).toInt ∧ (x &&& m).toInt ≤ m.toInt := by
  obtain ⟨h1, h2, -⟩ := s_nnL hm
  have h3 := Nat.and_le_right (n := x.toBitVec.toNat) (m := m.toBitVec.toNat)
  have h4 : (x &&& m).toBitVec.toNat = x.toBitVec.toNat &&& m.toBitVec.toNat := by rw [Int64.toBitVec_and, BitVec.toNat_and]
  have h5 := s_ofL h4 (by omega)
  omega
theorem s_orJ {x y : Int64} (k : Nat) (hk : k ≤ 63) (hx : 0 ≤ x.toInt ∧ x.toInt < 2 ^ k) (hy : 0 ≤ y.toInt ∧ y.toInt < 2 ^ k) : 0 ≤ (x ||| y).toInt ∧ (x ||| y).toInt < 2 ^ k := by
  obtain ⟨h1, h2, -⟩ := s_nnL hx.1
  obtain ⟨h3, h4, -⟩ := s_nnL hy.1
  have e : ((2 : Int) ^ k) = ((2 ^ k : Nat) : Int) := by norm_cast
  have h5 := Nat.or_lt_two_pow (x := x.toBitVec.toNat) (y := y.toBitVec.toNat) (n := k) (by omega) (by omega)
  have h6 : (x ||| y).toBitVec.toNat = x.toBitVec.toNat ||| y.toBitVec.toNat := by rw [Int64.toBitVec_or, BitVec.toNat_or]
  have h7 : 2 ^ k ≤ 2 ^ 63 := Nat.pow_le_pow_right (by omega) hk
  have h8 := s_ofL h6 (by omega)
  omega
theorem s_ushrJ {x : Int64} {c : Int32} (k : Nat) (hc : ((c.toInt64.toUInt64 &&& Int64.toUInt64 63).toBitVec % 64).toNat = k) (hk : 1 ≤ k) : 0 ≤ ((x.toUInt64 >>> (c.toInt64.toUInt64 &&& Int64.toUInt64 63)).toInt64).toInt ∧ ((x.toUInt64 >>> (c.toInt64.toUInt64 &&& Int64.toUInt64 63)).toInt64).toInt < 2 ^ (64 - k) ∧ (0 ≤ x.toInt → ((x.toUInt64 >>> (c.toInt64.toUInt64 &&& Int64.toUInt64 63)).toInt64).toInt = x.toInt / 2 ^ k) := by
  have h1 : ((x.toUInt64 >>> (c.toInt64.toUInt64 &&& Int64.toUInt64 63)).toInt64).toBitVec.toNat = x.toBitVec.toNat / 2 ^ k := by
    show (x.toUInt64 >>> (c.toInt64.toUInt64 &&& Int64.toUInt64 63)).toBitVec.toNat = _
    rw [UInt64.toBitVec_shiftRight, BitVec.ushiftRight_eq', BitVec.toNat_ushiftRight, hc, Nat.shiftRight_eq_div_pow]
    rfl
  have h2 := x.toBitVec.isLt
  have h3 : x.toBitVec.toNat / 2 ^ k < 2 ^ (64 - k) := by
    rw [Nat.div_lt_iff_lt_mul (Nat.two_pow_pos k)]
    by_cases h : k ≤ 64
    · rw [← Nat.pow_add, Nat.sub_add_cancel h]; exact h2
    · have h9 := Nat.pow_le_pow_right (n := 2) (by omega) (show 64 ≤ k by omega); have h8 := Nat.two_pow_pos (64 - k)
      calc x.toBitVec.toNat < 2 ^ 64 := h2
        _ ≤ 2 ^ k := h9
        _ ≤ 2 ^ (64 - k) * 2 ^ k := Nat.le_mul_of_pos_left _ h8
  have h4 : 2 ^ (64 - k) ≤ 2 ^ 63 := Nat.pow_le_pow_right (by omega) (by omega)
  have h5 := s_ofL h1 (by omega)
  have e : ((2 : Int) ^ (64 - k)) = ((2 ^ (64 - k) : Nat) : Int) := by norm_cast
  refine ⟨by omega, by rw [e]; omega, fun h => ?_⟩
  obtain ⟨h6, -, -⟩ := s_nnL h
  rw [h5, h6]
  norm_cast
theorem t_ushr : ((( (31 : Int32)).toUInt32 &&& Int32.toUInt32 31).toBitVec % 32).toNat = 31 := by decide
theorem t_ushrJ : (((31 : Int32).toInt64.toUInt64 &&& Int64.toUInt64 63).toBitVec % 64).toNat = 31 := by decide
theorem t_shr : ((16 : Int32) &&& 31).toBitVec.smod 32 = BitVec.ofNat 32 16 := by decide
theorem s_len {R : Int32} (h : 0 ≤ R.toInt) : Int32.ofNat R.toNatClampNeg = R := by
  have h1 := q_clI (i := R) rfl h
  have h2 := Int32.toInt_lt R
  refine Int32.toInt_inj.mp ?_
  rw [Int32.toInt_ofNat_of_lt (by omega)]
  exact h1
theorem s_max {a b : Int32} : a.toInt ≤ (if a < b then b else a).toInt ∧ b.toInt ≤ (if a < b then b else a).toInt ∧ ((if a < b then b else a).toInt = a.toInt ∨ (if a < b then b else a).toInt = b.toInt) := by
  split
  · have := q_ltI ‹a < b›; omega
  · have := q_nltI ‹¬ a < b›; omega
theorem s_min {a b : Int32} : (if b < a then b else a).toInt ≤ a.toInt ∧ (if b < a then b else a).toInt ≤ b.toInt ∧ ((if b < a then b else a).toInt = a.toInt ∨ (if b < a then b else a).toInt = b.toInt) := by
  split
  · have := q_ltI ‹b < a›; omega
  · have := q_nltI ‹¬ b < a›; omega
theorem s_lcmp {a b : Int64} : -1 ≤ (lg_cmp a b).toInt ∧ (lg_cmp a b).toInt ≤ 1 ∧ (((lg_cmp a b).toInt = -1 ∧ a.toInt < b.toInt) ∨ ((lg_cmp a b).toInt = 0 ∧ a.toInt = b.toInt) ∨ ((lg_cmp a b).toInt = 1 ∧ b.toInt < a.toInt)) := by
  rcases Int.lt_trichotomy a.toInt b.toInt with h | h | h
  · rw [q_cmL rfl rfl h]; exact ⟨by decide, by decide, Or.inl ⟨by decide, h⟩⟩
  · rw [q_cmE rfl rfl h]; exact ⟨by decide, by decide, Or.inr (Or.inl ⟨by decide, h⟩)⟩
  · rw [q_cmG rfl rfl h]; exact ⟨by decide, by decide, Or.inr (Or.inr ⟨by decide, h⟩)⟩
theorem s_ten {i : Nat} (h : i ≤ 9) : 1 ≤ (Int32.ofNat (10 ^ i)).toInt ∧ (Int32.ofNat (10 ^ i)).toInt ≤ 1000000000 := by
  rcases (show i = 0 ∨ i = 1 ∨ i = 2 ∨ i = 3 ∨ i = 4 ∨ i = 5 ∨ i = 6 ∨ i = 7 ∨ i = 8 ∨ i = 9 by omega) with rfl | rfl | rfl | rfl | rfl | rfl | rfl | rfl | rfl | rfl <;> decide
theorem s_five {i : Nat} (h : i ≤ 13) : 1 ≤ (Int32.ofNat (5 ^ i)).toInt ∧ (Int32.ofNat (5 ^ i)).toInt ≤ 1220703125 := by
  rcases (show i = 0 ∨ i = 1 ∨ i = 2 ∨ i = 3 ∨ i = 4 ∨ i = 5 ∨ i = 6 ∨ i = 7 ∨ i = 8 ∨ i = 9 ∨ i = 10 ∨ i = 11 ∨ i = 12 ∨ i = 13 by omega) with rfl | rfl | rfl | rfl | rfl | rfl | rfl | rfl | rfl | rfl | rfl | rfl | rfl | rfl <;> decide
theorem s_cpy {f f1 : Nat → Int32} {a b c : Nat} {lo hi : Int} (hf : ∀ i, lo ≤ (f i).toInt ∧ (f i).toInt ≤ hi) (hf1 : ∀ i, lo ≤ (f1 i).toInt ∧ (f1 i).toInt ≤ hi) : ∀ j, lo ≤ (va_cpy f f1 a b c j).toInt ∧ (va_cpy f f1 a b c j).toInt ≤ hi := fun j => by
  unfold va_cpy
  split
  · exact hf _
  · exact hf1 _
theorem s_nzL {b : Int64} (h : b.toInt ≠ 0) : b ≠ 0 := fun e => h (by rw [e]; rfl)
theorem s_nzI {b : Int32} (h : b.toInt ≠ 0) : b ≠ 0 := fun e => h (by rw [e]; rfl)
theorem s_bnd {x : Int32} : -2147483648 ≤ x.toInt ∧ x.toInt ≤ 2147483647 := ⟨q_lo32, by have := q_hi32 (x := x); omega⟩
theorem s_or' {x y : Int32} (k : Nat) (hk : k ≤ 31) (n : Int) (hn : n = 2 ^ k - 1) (hx : 0 ≤ x.toInt ∧ x.toInt ≤ n) (hy : 0 ≤ y.toInt ∧ y.toInt ≤ n) : 0 ≤ (x ||| y).toInt ∧ (x ||| y).toInt ≤ n := by
  have h := s_or (x := x) (y := y) k hk ⟨hx.1, by omega⟩ ⟨hy.1, by omega⟩
  omega
theorem s_xor' {x y : Int32} (k : Nat) (hk : k ≤ 31) (n : Int) (hn : n = 2 ^ k - 1) (hx : 0 ≤ x.toInt ∧ x.toInt ≤ n) (hy : 0 ≤ y.toInt ∧ y.toInt ≤ n) : 0 ≤ (x ^^^ y).toInt ∧ (x ^^^ y).toInt ≤ n := by
  have h := s_xor (x := x) (y := y) k hk ⟨hx.1, by omega⟩ ⟨hy.1, by omega⟩
  omega
