/-! values: how many bits a limb has -/
theorem v_smQ {x b w : Nat} (h1 : ∀ i, i < b → b ≤ i + w → x.testBit i = true) (h2 : ∀ i, b ≤ i → x.testBit i = false) : (∀ i, i < b → b ≤ i + 2 * w → (x ||| x / 2 ^ w).testBit i = true) ∧ (∀ i, b ≤ i → (x ||| x / 2 ^ w).testBit i = false) := by
  have e : x / 2 ^ w = x >>> w := (Nat.shiftRight_eq_div_pow x w).symm
  rw [e]
  refine ⟨fun i hi hb => ?_, fun i hi => ?_⟩
  · rw [Nat.testBit_or, Nat.testBit_shiftRight]
    by_cases h : b ≤ i + w
    · rw [h1 i hi h, Bool.true_or]
    · rw [h1 (w + i) (by omega) (by omega), Bool.or_true]
  · rw [Nat.testBit_or, Nat.testBit_shiftRight, h2 i hi, h2 (w + i) (by omega), Bool.or_false]
theorem v_sm32 {x : Int32} {n k : Nat} {a : Int32} (hx : x.toBitVec.toNat = n) (ha : a.toInt = (k : Int)) (hk : k ≤ 31) : (x ||| (x.toUInt32 >>> (a.toUInt32 &&& Int32.toUInt32 31)).toInt32).toBitVec.toNat = n ||| n / 2 ^ k := by
  rw [Int32.toBitVec_or, BitVec.toNat_or, v_ushrN ha hk, hx]
theorem t_cnt : ∀ b : Fin 32, F_jInt_bitCount (Int32.ofNat (2 ^ b.val - 1)) = Int32.ofNat b.val := by decide +kernel
theorem t_ofN : ∀ b : Fin 32, (Int32.ofNat b.val).toInt = (b.val : Int) := by decide +kernel
theorem v_bits {x : Int32} (h : 0 < x.toInt) : ∃ b : Nat, 1 ≤ b ∧ b ≤ 31 ∧ (F_Big_bitsOf x).toInt = (b : Int) ∧ (2 : Int) ^ (b - 1) ≤ x.toInt ∧ x.toInt < 2 ^ b := by
  obtain ⟨x1, x2, -⟩ := s_nn (x := x) (by omega)
  obtain ⟨n, hn⟩ := q_nm x.toBitVec.toNat
  rw [hn] at x1 x2
  have n0 : n ≠ 0 := by omega
  have l1 := Nat.log2_self_le n0
  have l2 := Nat.lt_log2_self (n := n)
  obtain ⟨c, hc⟩ := q_nm n.log2
  rw [hc] at l1 l2
  have c31 : c < 31 := by
    apply Nat.lt_of_not_le
    intro h9
    have := Nat.pow_le_pow_right (n := 2) (by omega) h9
    have e : (2 : Nat) ^ 31 = 2147483648 := rfl
    omega
  have a1 : ∀ i, i < c + 1 → c + 1 ≤ i + 1 → n.testBit i = true := fun i h1 h2 => by
    have e : i = c := by omega
    subst e
    rw [Nat.testBit_eq_decide_div_mod_eq]
    have h3 : n / 2 ^ i = 1 := by
      rw [Nat.pow_succ] at l2
      have h4 : n / 2 ^ i < 2 := by rw [Nat.div_lt_iff_lt_mul (Nat.two_pow_pos i)]; omega
      have h5 : 1 ≤ n / 2 ^ i := by rw [Nat.le_div_iff_mul_le (Nat.two_pow_pos i)]; omega
      omega
    rw [h3]
    rfl
  have a2 : ∀ i, c + 1 ≤ i → n.testBit i = false := fun i h1 => Nat.testBit_lt_two_pow (Nat.lt_of_lt_of_le l2 (Nat.pow_le_pow_right (by omega) h1))
  unfold F_Big_bitsOf
  obtain ⟨e0, h0⟩ := q_nm (x ||| ((x.toUInt32 >>> ((1 : Int32).toUInt32 &&& Int32.toUInt32 31)).toInt32))
  have b0 := v_sm32 (a := 1) (k := 1) hn rfl (by omega)
  rw [h0] at b0 ⊢
  obtain ⟨p1, p2⟩ := v_smQ a1 a2
  obtain ⟨n0', m0⟩ := q_nm (n ||| n / 2 ^ 1)
  rw [m0] at b0 p1 p2
  obtain ⟨e1, h1⟩ := q_nm (e0 ||| ((e0.toUInt32 >>> ((2 : Int32).toUInt32 &&& Int32.toUInt32 31)).toInt32))
  have b1 := v_sm32 (a := 2) (k := 2) b0 rfl (by omega)
  rw [h1] at b1 ⊢
  obtain ⟨p3, p4⟩ := v_smQ p1 p2
  obtain ⟨n1', m1⟩ := q_nm (n0' ||| n0' / 2 ^ (2 * 1))
  rw [m1] at p3 p4
  rw [show n0' ||| n0' / 2 ^ 2 = n1' from m1] at b1
  obtain ⟨e2, h2⟩ := q_nm (e1 ||| ((e1.toUInt32 >>> ((4 : Int32).toUInt32 &&& Int32.toUInt32 31)).toInt32))
  have b2 := v_sm32 (a := 4) (k := 4) b1 rfl (by omega)
  rw [h2] at b2 ⊢
  obtain ⟨p5, p6⟩ := v_smQ p3 p4
  obtain ⟨n2', m2⟩ := q_nm (n1' ||| n1' / 2 ^ (2 * (2 * 1)))
  rw [m2] at p5 p6
  rw [show n1' ||| n1' / 2 ^ 4 = n2' from m2] at b2
  obtain ⟨e3, h3⟩ := q_nm (e2 ||| ((e2.toUInt32 >>> ((8 : Int32).toUInt32 &&& Int32.toUInt32 31)).toInt32))
  have b3 := v_sm32 (a := 8) (k := 8) b2 rfl (by omega)
  rw [h3] at b3 ⊢
  obtain ⟨p7, p8⟩ := v_smQ p5 p6
  obtain ⟨n3', m3⟩ := q_nm (n2' ||| n2' / 2 ^ (2 * (2 * (2 * 1))))
  rw [m3] at p7 p8
  rw [show n2' ||| n2' / 2 ^ 8 = n3' from m3] at b3
  obtain ⟨e4, h4⟩ := q_nm (e3 ||| ((e3.toUInt32 >>> ((16 : Int32).toUInt32 &&& Int32.toUInt32 31)).toInt32))
  have b4 := v_sm32 (a := 16) (k := 16) b3 rfl (by omega)
  rw [h4] at b4 ⊢
  obtain ⟨p9, p10⟩ := v_smQ p7 p8
  obtain ⟨n4', m4⟩ := q_nm (n3' ||| n3' / 2 ^ (2 * (2 * (2 * (2 * 1)))))
  rw [m4] at p9 p10
  rw [show n3' ||| n3' / 2 ^ 16 = n4' from m4] at b4
  have fin : n4' = 2 ^ (c + 1) - 1 := by
    apply Nat.eq_of_testBit_eq
    intro i
    rw [Nat.testBit_two_pow_sub_one]
    by_cases hi : i < c + 1
    · rw [p9 i hi (by omega), decide_eq_true hi]
    · rw [p10 i (by omega), decide_eq_false hi]
  have e5 : e4 = Int32.ofNat (2 ^ (c + 1) - 1) := by
    apply Int32.toBitVec_inj.mp
    apply BitVec.eq_of_toNat_eq
    rw [b4, fin]
    show _ = (BitVec.ofNat 32 (2 ^ (c + 1) - 1)).toNat
    rw [BitVec.toNat_ofNat, Nat.mod_eq_of_lt]
    have := Nat.pow_le_pow_right (n := 2) (by omega) (show c + 1 ≤ 31 by omega)
    have e : (2 : Nat) ^ 31 = 2147483648 := rfl
    have e' : (2 : Nat) ^ 32 = 4294967296 := rfl
    omega
  rw [e5, t_cnt ⟨c + 1, by omega⟩, t_ofN ⟨c + 1, by omega⟩]
  refine ⟨c + 1, by omega, by omega, rfl, ?_, ?_⟩
  · rw [x1, show c + 1 - 1 = c by omega]
    exact_mod_cast l1
  · rw [x1]
    exact_mod_cast l2
