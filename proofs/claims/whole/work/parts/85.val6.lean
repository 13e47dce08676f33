/-! values: division by one limb -/
theorem v_shl31 {x : Int64} (h : 0 ≤ x.toInt) (h2 : x.toInt < 2147483648) : (x <<< ((31 : Int32).toInt64 &&& 63)).toBitVec.toNat = x.toBitVec.toNat * 2147483648 := by
  obtain ⟨h1, h3, -⟩ := s_nnL h
  rw [Int64.toBitVec_shiftLeft, show (((31 : Int32).toInt64 &&& 63).toBitVec.smod 64) = BitVec.ofNat 64 31 by decide, BitVec.shiftLeft_eq', BitVec.toNat_shiftLeft, Nat.shiftLeft_eq, show (BitVec.ofNat 64 31).toNat = 31 from rfl]
  have e : (2 : Nat) ^ 31 = 2147483648 := rfl
  rw [e, Nat.mod_eq_of_lt (by omega)]
theorem v_cat {x y : Int64} (hx : 0 ≤ x.toInt) (hx2 : x.toInt < 2147483648) (hy : 0 ≤ y.toInt) (hy2 : y.toInt < 2147483648) : ((x <<< ((31 : Int32).toInt64 &&& 63)) ||| y).toInt = x.toInt * 2147483648 + y.toInt := by
  obtain ⟨h1, -, -⟩ := s_nnL hx
  obtain ⟨h3, -, -⟩ := s_nnL hy
  have h4 := v_shl31 hx hx2
  have h5 : ((x <<< ((31 : Int32).toInt64 &&& 63)) ||| y).toBitVec.toNat = x.toBitVec.toNat * 2147483648 + y.toBitVec.toNat := by
    rw [Int64.toBitVec_or, BitVec.toNat_or, h4, Nat.mul_comm]
    exact (Nat.two_pow_add_eq_or_of_lt (i := 31) (by omega) _).symm
  have h6 := s_ofL h5 (by omega)
  omega
theorem v_divL {x y : Int64} (hx : 0 ≤ x.toInt) (hy : 0 < y.toInt) : (x / y).toInt = x.toInt / y.toInt := by
  have h1 : x.toInt / y.toInt ≤ x.toInt := Int.ediv_le_self _ hx
  have h2 : 0 ≤ x.toInt / y.toInt := Int.ediv_nonneg hx (by omega)
  have h3 := Int64.toInt_lt x
  rw [Int64.toInt_div, Int.tdiv_eq_ediv_of_nonneg hx]
  exact q_bmL (by omega) (by omega)
