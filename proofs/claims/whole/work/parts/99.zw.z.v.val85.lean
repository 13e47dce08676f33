/-! values, for whole: the low 64 bits of a whole (told with 0), reference and class -/
def tLg (r : Int64) (v : Int) : Prop := ∃ k : Int, r.toInt = v + 18446744073709551616 * k
theorem tLg_inj {r s : Int64} {v : Int} (h : tLg r v) (g : tLg s v) : r = s := by
  obtain ⟨a, h⟩ := h
  obtain ⟨b, g⟩ := g
  have h1 := Int64.toInt_lt r
  have h2 := Int64.le_toInt r
  have h3 := Int64.toInt_lt s
  have h4 := Int64.le_toInt s
  exact Int64.toInt_inj.mp (by omega)
theorem t_uL (x : Int64) : tLg x (x.toBitVec.toNat : Int) := by
  have e : x.toInt = x.toBitVec.toInt := rfl
  rw [BitVec.toInt_eq_toNat_cond] at e
  split at e
  · exact ⟨0, by omega⟩
  · exact ⟨-1, by omega⟩
theorem t_bm (a : Int) : ∃ k : Int, a.bmod (2 ^ 64) = a + 18446744073709551616 * k := by
  unfold Int.bmod
  dsimp only
  split
  · exact ⟨-(a / 18446744073709551616), by omega⟩
  · exact ⟨-(a / 18446744073709551616) - 1, by omega⟩
theorem t_neg {x : Int64} {v : Int} (h : tLg x v) : tLg (-x) (-v) := by
  obtain ⟨k, h⟩ := h
  obtain ⟨j, e⟩ := t_bm (-x.toInt)
  refine ⟨j - k, ?_⟩
  rw [Int64.toInt_neg, e]
  omega
theorem t_or {x y : Int64} {c : Int32} {k : Nat} (hc : ((c.toInt64 &&& 63).toBitVec.smod 64) = BitVec.ofNat 64 k) (hk : k < 64) (hx : x.toBitVec.toNat < 2 ^ k) : ∃ m : Nat, (x ||| (y <<< (c.toInt64 &&& 63))).toBitVec.toNat + 18446744073709551616 * m = x.toBitVec.toNat + y.toBitVec.toNat * 2 ^ k := by
  have mk : (BitVec.ofNat 64 k).toNat = k := by rw [BitVec.toNat_ofNat, Nat.mod_eq_of_lt (by omega)]
  have e2 : (y <<< (c.toInt64 &&& 63)).toBitVec.toNat = y.toBitVec.toNat * 2 ^ k % 2 ^ 64 := by
    rw [Int64.toBitVec_shiftLeft, hc, BitVec.shiftLeft_eq', BitVec.toNat_shiftLeft, mk, Nat.shiftLeft_eq]
  have e3 : (2 : Nat) ^ 64 = 2 ^ k * 2 ^ (64 - k) := by rw [← Nat.pow_add, Nat.add_sub_cancel' (by omega)]
  have e4 : y.toBitVec.toNat * 2 ^ k % 2 ^ 64 = 2 ^ k * (y.toBitVec.toNat % 2 ^ (64 - k)) := by
    rw [e3, Nat.mul_comm y.toBitVec.toNat (2 ^ k), Nat.mul_mod_mul_left]
  have e5 : (x ||| (y <<< (c.toInt64 &&& 63))).toBitVec.toNat = y.toBitVec.toNat * 2 ^ k % 2 ^ 64 + x.toBitVec.toNat := by
    rw [Int64.toBitVec_or, BitVec.toNat_or, e2, e4, Nat.or_comm]
    exact (Nat.two_pow_add_eq_or_of_lt hx _).symm
  generalize y.toBitVec.toNat * 2 ^ k = z at e5 ⊢
  refine ⟨z / 18446744073709551616, ?_⟩
  have e7 : (2 : Nat) ^ 64 = 18446744073709551616 := rfl
  rw [e7] at e5
  omega
theorem t_n64 {l : Int32} (h : 0 ≤ l.toInt) : (l.toInt64.toBitVec.toNat : Int) = l.toInt := by
  have e := Int32.toInt_toInt64 l
  have g := (s_nnL (x := l.toInt64) (by omega)).1
  omega
theorem t_dig (v : Int) : ∃ d : Int, v = v / 65536 ^ 0 % 65536 + (v / 65536 ^ 1 % 65536) * 65536 + (v / 65536 ^ 2 % 65536) * 4294967296 + (v / 65536 ^ 3 % 65536) * 281474976710656 + 18446744073709551616 * d := by
  have p0 : (65536 : Int) ^ 0 = 1 := rfl
  have p1 : (65536 : Int) ^ 1 = 65536 := rfl
  have p2 : (65536 : Int) ^ 2 = 65536 * 65536 := rfl
  have p3 : (65536 : Int) ^ 3 = 65536 * 65536 * 65536 := rfl
  rw [p0, p1, p2, p3, Int.ediv_one, ← Int.ediv_ediv_of_nonneg (x := v) (y := 65536 * 65536) (z := 65536) (by decide), ← Int.ediv_ediv_of_nonneg (x := v) (y := 65536) (z := 65536) (by decide)]
  exact ⟨v / 65536 / 65536 / 65536 / 65536, by omega⟩
theorem t_dig3 (v : Int) : ∃ d : Int, v = v / 2147483648 ^ 0 % 2147483648 + (v / 2147483648 ^ 1 % 2147483648) * 2147483648 + (v / 2147483648 ^ 2 % 2147483648) * 4611686018427387904 + 18446744073709551616 * d := by
  have p0 : (2147483648 : Int) ^ 0 = 1 := rfl
  have p1 : (2147483648 : Int) ^ 1 = 2147483648 := rfl
  have p2 : (2147483648 : Int) ^ 2 = 2147483648 * 2147483648 := rfl
  rw [p0, p1, p2, Int.ediv_one, ← Int.ediv_ediv_of_nonneg (x := v) (y := 2147483648) (z := 2147483648) (by decide)]
  exact ⟨v / 2147483648 / 2147483648 / 2147483648 * 536870912, by omega⟩
theorem t_lr {l : Int32} {v p m : Int} (h : l.toInt = v / p % m) (hm : 0 < m) : 0 ≤ l.toInt ∧ l.toInt < m := by
  rw [h]
  exact ⟨Int.emod_nonneg _ (by omega), Int.emod_lt_of_pos _ hm⟩
theorem t_four {l0 l1 l2 l3 : Int32} {v : Int} (h0 : l0.toInt = v / 65536 ^ 0 % 65536) (h1 : l1.toInt = v / 65536 ^ 1 % 65536) (h2 : l2.toInt = v / 65536 ^ 2 % 65536) (h3 : l3.toInt = v / 65536 ^ 3 % 65536) : tLg (((l0.toInt64 ||| (l1.toInt64 <<< ((16 : Int32).toInt64 &&& 63))) ||| (l2.toInt64 <<< ((32 : Int32).toInt64 &&& 63))) ||| (l3.toInt64 <<< ((48 : Int32).toInt64 &&& 63))) v := by
  have b0 := t_lr h0 (by decide)
  have b1 := t_lr h1 (by decide)
  have b2 := t_lr h2 (by decide)
  have b3 := t_lr h3 (by decide)
  have n0 := t_n64 b0.1
  have n1 := t_n64 b1.1
  have n2 := t_n64 b2.1
  have n3 := t_n64 b3.1
  obtain ⟨d, hd⟩ := t_dig v
  rw [← h0, ← h1, ← h2, ← h3] at hd
  clear h0 h1 h2 h3
  have q1 : (2 : Nat) ^ 16 = 65536 := rfl
  have q2 : (2 : Nat) ^ 32 = 4294967296 := rfl
  have q3 : (2 : Nat) ^ 48 = 281474976710656 := rfl
  obtain ⟨m1, e1⟩ := t_or (x := l0.toInt64) (y := l1.toInt64) (c := 16) (k := 16) (by decide) (by decide) (by rw [q1]; omega)
  rw [q1] at e1
  generalize l0.toInt64 ||| (l1.toInt64 <<< ((16 : Int32).toInt64 &&& 63)) = y1 at e1 ⊢
  obtain ⟨m2, e2⟩ := t_or (x := y1) (y := l2.toInt64) (c := 32) (k := 32) (by decide) (by decide) (by rw [q2]; omega)
  rw [q2] at e2
  generalize y1 ||| (l2.toInt64 <<< ((32 : Int32).toInt64 &&& 63)) = y2 at e2 ⊢
  obtain ⟨m3, e3⟩ := t_or (x := y2) (y := l3.toInt64) (c := 48) (k := 48) (by decide) (by decide) (by rw [q3]; omega)
  rw [q3] at e3
  generalize y2 ||| (l3.toInt64 <<< ((48 : Int32).toInt64 &&& 63)) = y3 at e3 ⊢
  obtain ⟨k, e⟩ := t_uL y3
  exact ⟨k - d - m1 - m2 - m3, by omega⟩
theorem t_three {l0 l1 l2 : Int32} {v : Int} (h0 : l0.toInt = v / 2147483648 ^ 0 % 2147483648) (h1 : l1.toInt = v / 2147483648 ^ 1 % 2147483648) (h2 : l2.toInt = v / 2147483648 ^ 2 % 2147483648) : tLg ((l0.toInt64 ||| (l1.toInt64 <<< ((31 : Int32).toInt64 &&& 63))) ||| (l2.toInt64 <<< ((62 : Int32).toInt64 &&& 63))) v := by
  have b0 := t_lr h0 (by decide)
  have b1 := t_lr h1 (by decide)
  have b2 := t_lr h2 (by decide)
  have n0 := t_n64 b0.1
  have n1 := t_n64 b1.1
  have n2 := t_n64 b2.1
  obtain ⟨d, hd⟩ := t_dig3 v
  rw [← h0, ← h1, ← h2] at hd
  clear h0 h1 h2
  have q1 : (2 : Nat) ^ 31 = 2147483648 := rfl
  have q2 : (2 : Nat) ^ 62 = 4611686018427387904 := rfl
  obtain ⟨m1, e1⟩ := t_or (x := l0.toInt64) (y := l1.toInt64) (c := 31) (k := 31) (by decide) (by decide) (by rw [q1]; omega)
  rw [q1] at e1
  generalize l0.toInt64 ||| (l1.toInt64 <<< ((31 : Int32).toInt64 &&& 63)) = y1 at e1 ⊢
  obtain ⟨m2, e2⟩ := t_or (x := y1) (y := l2.toInt64) (c := 62) (k := 62) (by decide) (by decide) (by rw [q2]; omega)
  rw [q2] at e2
  generalize y1 ||| (l2.toInt64 <<< ((62 : Int32).toInt64 &&& 63)) = y2 at e2 ⊢
  obtain ⟨k, e⟩ := t_uL y2
  exact ⟨k - d - m1 - m2, by omega⟩
theorem V_toLong {R s n : Int32} {f : Nat → Int32} {v : Int} (h : bO R s n f v) : tLg (F_Big_toLong R s n f) v := by
  have l0 := v_limK (R := R) (n := n) (i := 0) (k := 0) h.1 rfl
  have l1 := v_limK (R := R) (n := n) (i := 1) (k := 1) h.1 rfl
  have l2 := v_limK (R := R) (n := n) (i := 2) (k := 2) h.1 rfl
  have h3 : bS n s f = v := h.2.2.1
  have t := t_three l0 l1 l2
  unfold F_Big_toLong
  by_cases hn : n = 0
  · rw [if_pos hn, ← h3, bS, if_pos hn]
    exact t
  · rw [if_neg hn, ← h3, bS, if_neg hn]
    exact t_neg t
theorem V_WR_told0 {x2 t0_0 t0_1 t0_2 t0_3 t0_4 t0_5 t0_6 : Int32} {t1_0 t2_0 : Nat → Int32} {W : Nat → Int} (hr : wRv t1_0 t2_0 W) (hx2 : 0 ≤ x2.toInt ∧ x2.toInt ≤ 10) : (F_WR_told x2 0 t0_0 t0_1 t0_2 t0_3 t0_4 t0_5 t0_6 t1_0 t2_0).2.1 = 0 ∧ tLg (F_WR_told x2 0 t0_0 t0_1 t0_2 t0_3 t0_4 t0_5 t0_6 t1_0 t2_0).1 (W x2.toNatClampNeg) := by
  have h0 := V_limb (x3 := 0) (t0_0 := 0) (t0_1 := t0_1) (t0_2 := t0_2) (t0_3 := t0_3) (t0_4 := t0_4) (t0_5 := t0_5) (t0_6 := t0_6) (k := 0) hr hx2 rfl
  have h1 := V_limb (x3 := 1) (t0_0 := 0) (t0_1 := t0_1) (t0_2 := t0_2) (t0_3 := t0_3) (t0_4 := t0_4) (t0_5 := t0_5) (t0_6 := t0_6) (k := 1) hr hx2 rfl
  have h2 := V_limb (x3 := 2) (t0_0 := 0) (t0_1 := t0_1) (t0_2 := t0_2) (t0_3 := t0_3) (t0_4 := t0_4) (t0_5 := t0_5) (t0_6 := t0_6) (k := 2) hr hx2 rfl
  have h3 := V_limb (x3 := 3) (t0_0 := 0) (t0_1 := t0_1) (t0_2 := t0_2) (t0_3 := t0_3) (t0_4 := t0_4) (t0_5 := t0_5) (t0_6 := t0_6) (k := 3) hr hx2 rfl
  unfold F_WR_told
  rw [if_pos (w_no0 hx2), if_neg (show ¬ (0 : Int32) < 0 by decide), if_pos (show (0 : Int32) ≤ 4 by decide)]
  unfold F_WR_told_J22
  rw [if_pos (show (0 : Int32) ≤ 0 by decide), if_pos rfl]
  generalize F_WR_limb x2 0 0 t0_1 t0_2 t0_3 t0_4 t0_5 t0_6 t1_0 t2_0 = l0 at h0 ⊢
  generalize F_WR_limb x2 1 0 t0_1 t0_2 t0_3 t0_4 t0_5 t0_6 t1_0 t2_0 = l1 at h1 ⊢
  generalize F_WR_limb x2 2 0 t0_1 t0_2 t0_3 t0_4 t0_5 t0_6 t1_0 t2_0 = l2 at h2 ⊢
  generalize F_WR_limb x2 3 0 t0_1 t0_2 t0_3 t0_4 t0_5 t0_6 t1_0 t2_0 = l3 at h3 ⊢
  exact ⟨rfl, t_four h0 h1 h2 h3⟩
