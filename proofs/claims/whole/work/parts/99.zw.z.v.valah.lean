/-! values, for whole: the class: Sheet, byte by byte -/
theorem y_byteB (W V : BitVec 64) (k j : Nat) (hk : k < 8) (hj : j < 8) (hV : V.toNat < 256) : ((W &&& ((255#64 <<< (8 * k)) ^^^ BitVec.allOnes 64)) ||| (V <<< (8 * k))).toNat / 2 ^ (8 * j) % 256 = if j = k then V.toNat else W.toNat / 2 ^ (8 * j) % 256 := by
  have hVb : ∀ t, 8 ≤ t → V.getLsbD t = false := fun t ht => by
    rw [← BitVec.testBit_toNat]
    exact Nat.testBit_lt_two_pow (Nat.lt_of_lt_of_le hV (Nat.pow_le_pow_right (show 2 > 0 by decide) ht))
  have h255 : ∀ t, (255#64).getLsbD t = decide (t < 8) := fun t => by
    rw [← BitVec.testBit_toNat]
    show Nat.testBit 255 t = _
    rw [show 255 = 2 ^ 8 - 1 from rfl, Nat.testBit_two_pow_sub_one]
  refine Nat.eq_of_testBit_eq (fun t => ?_)
  rw [show 256 = 2 ^ 8 from rfl, Nat.testBit_mod_two_pow, Nat.testBit_div_two_pow, BitVec.testBit_toNat]
  by_cases ht : t < 8
  · rw [decide_eq_true ht, Bool.true_and, BitVec.getLsbD_or, BitVec.getLsbD_and, BitVec.getLsbD_xor, BitVec.getLsbD_shiftLeft, BitVec.getLsbD_shiftLeft, BitVec.getLsbD_allOnes, h255]
    by_cases c : j = k
    · subst c
      rw [if_pos rfl, BitVec.testBit_toNat]
      simp [show ¬ t + 8 * j < 8 * j by omega, show t + 8 * j < 64 by omega, show t + 8 * j - 8 * j = t by omega, ht]
    · rw [if_neg c, Nat.testBit_mod_two_pow, Nat.testBit_div_two_pow, decide_eq_true ht, Bool.true_and, BitVec.testBit_toNat]
      rcases Nat.lt_or_ge j k with d | d
      · simp [show t + 8 * j < 8 * k by omega, show t + 8 * j < 64 by omega]
      · have : ¬ t + 8 * j - 8 * k < 8 := by omega
        simp [show ¬ t + 8 * j < 8 * k by omega, show t + 8 * j < 64 by omega, this, hVb (t + 8 * j - 8 * k) (by omega)]
  · rw [decide_eq_false ht, Bool.false_and]
    by_cases c : j = k
    · rw [if_pos c, BitVec.testBit_toNat, hVb t (by omega)]
    · rw [if_neg c, Nat.testBit_mod_two_pow, decide_eq_false ht, Bool.false_and]
/-- byte i of a sheet -/
def ySh (c : Nat → Int64) (i : Nat) : Nat := yu (c (i / 8)) / 2 ^ (8 * (i % 8)) % 256
theorem y_sh3 {z : Int32} {i : Nat} (h : z.toInt = (i : Int)) : (z >>> (3 &&& 31) : Int32).toInt = ((i / 8 : Nat) : Int) ∧ (z &&& 7 : Int32).toInt = ((i % 8 : Nat) : Int) ∧ (8 * (z &&& 7 : Int32) : Int32).toInt = ((8 * (i % 8) : Nat) : Int) ∧ (z >>> (3 &&& 31) : Int32).toNatClampNeg = i / 8 := by
  have n1 : z.toBitVec.toNat = i := by
    have := s_nn (x := z) (by omega)
    omega
  have hb : z.toBitVec.toInt = (i : Int) := h
  have a1 : (z >>> (3 &&& 31) : Int32).toInt = ((i / 8 : Nat) : Int) := by
    have e : (z >>> (3 &&& 31) : Int32).toBitVec = z.toBitVec.sshiftRight 3 := rfl
    show (z >>> (3 &&& 31) : Int32).toBitVec.toInt = _
    rw [e, BitVec.toInt_sshiftRight, hb, Int.shiftRight_eq_div_pow]
    omega
  have a2 : (z &&& 7 : Int32).toInt = ((i % 8 : Nat) : Int) := by
    have n2 : (z &&& 7 : Int32).toBitVec.toNat = i % 8 := by
      rw [Int32.toBitVec_and, BitVec.toNat_and, n1]
      exact Nat.and_two_pow_sub_one_eq_mod i 3
    exact s_of n2 (by omega)
  refine ⟨a1, a2, ?_, ?_⟩
  · rw [q_mulI (show (8 : Int32).toInt = 8 from rfl) a2 (by omega) (by omega)]
    omega
  · have := q_clI a1 (by omega)
    omega
theorem y_lclt {a b : Int64} (h : a.toInt < b.toInt) : lg_cmp a b < 0 := by
  rcases Int.lt_or_le (lg_cmp a b).toInt 0 with e | e
  · exact Int32.lt_iff_toInt_lt.mpr e
  · exfalso
    have := g_lc5 (a := a) (b := b) (Int32.le_iff_toInt_le.mpr e)
    omega
theorem V_She_at {R : Int32} {N : Int32} {K : Int32} {x2 : Int64} {t0_0 : Int32} {t1_0 : (Nat → Int64)} {n r : Nat} {i : Int} (hs : t0_0.toInt = (n : Int)) (hR : R.toInt = (r : Int)) (hr : n ≤ r) (hx : x2.toInt = i) : (F_She_at R N K x2 t0_0 t1_0).toInt = (if 0 ≤ i ∧ i < n then ((ySh t1_0 i.toNat : Nat) : Int) else 0) := by
  have e0 : (0 : Int64).toInt = 0 := rfl
  have hi := q_hi32 (x := t0_0)
  unfold F_She_at
  by_cases g1 : lg_cmp x2 0 < 0
  · rw [if_pos g1]
    have := g_lc1 g1
    rw [if_neg (by omega)]
    rfl
  · rw [if_neg g1]
    have g1i := g_lc2 g1
    by_cases g2 : 0 ≤ lg_cmp x2 t0_0.toInt64
    · rw [if_pos g2]
      have g2i := g_lc5 g2
      rw [q_i2l hs] at g2i
      rw [if_neg (by omega)]
      rfl
    · rw [if_neg g2]
      have g2i := g_lc6 g2
      rw [q_i2l hs] at g2i
      have g3 : lg_cmp x2 R.toInt64 < 0 := y_lclt (by rw [q_i2l hR]; omega)
      rw [if_pos g3, if_pos (by omega)]
      obtain ⟨k, rfl⟩ : ∃ k : Nat, i = (k : Int) := ⟨i.toNat, by omega⟩
      have z1 : x2.toInt32.toInt = (k : Int) := by
        rw [s_l2i (by omega) (by omega), hx]
      obtain ⟨a1, a2, a3, a4⟩ := y_sh3 z1
      rw [a4]
      have w := w_lshr (x := t1_0 (k / 8)) a3 (by omega)
      rw [fx_and (k := 8) w (by decide) (by decide)]
      rfl
theorem y_byteC {W V : Int64} {c : Int32} {k j : Nat} (hc : c.toInt = ((8 * k : Nat) : Int)) (hk : k < 8) (hj : j < 8) (hV : yu V < 256) : yu ((W &&& (((255 : Int64) <<< (c.toInt64 &&& 63)) ^^^ (-1))) ||| (V <<< (c.toInt64 &&& 63))) / 2 ^ (8 * j) % 256 = if j = k then yu V else yu W / 2 ^ (8 * j) % 256 := by
  have key : ((W &&& (((255 : Int64) <<< (c.toInt64 &&& 63)) ^^^ (-1))) ||| (V <<< (c.toInt64 &&& 63))).toBitVec = (W.toBitVec &&& ((255#64 <<< (8 * k)) ^^^ BitVec.allOnes 64)) ||| (V.toBitVec <<< (8 * k)) := by
    have e : c = Int32.ofNat (8 * k) := Int32.toInt_inj.mp (by rw [hc, Int32.toInt_ofNat_of_lt (by omega)])
    subst e
    have k8 : k = 0 ∨ k = 1 ∨ k = 2 ∨ k = 3 ∨ k = 4 ∨ k = 5 ∨ k = 6 ∨ k = 7 := by omega
    rcases k8 with rfl | rfl | rfl | rfl | rfl | rfl | rfl | rfl <;> rfl
  show ((W &&& (((255 : Int64) <<< (c.toInt64 &&& 63)) ^^^ (-1))) ||| (V <<< (c.toInt64 &&& 63))).toBitVec.toNat / 2 ^ (8 * j) % 256 = _
  rw [key]
  exact y_byteB _ _ k j hk hj hV
/-- one byte more -/
theorem V_She_add {R : Int32} {N : Int32} {K : Int32} {x2 : Int32} {t0_0 : Int32} {t1_0 : (Nat → Int64)} {n r v : Nat} (hs : t0_0.toInt = (n : Int)) (hR : R.toInt = (r : Int)) (hr : r < 2147483647) (hnr : n < r) (hx : (x2 &&& 255 : Int32).toInt = (v : Int)) : (F_She_add R N K x2 t0_0 t1_0).1.toInt = ((n + 1 : Nat) : Int) ∧ ∀ i, ySh (F_She_add R N K x2 t0_0 t1_0).2 i = if i = n then v else ySh t1_0 i := by
  unfold F_She_add
  rw [if_neg (fun h => by have := q_leI h; omega)]
  refine ⟨?_, ?_⟩
  · show (t0_0 + 1 : Int32).toInt = _
    rw [q_addI (y := 1) hs rfl (by omega) (by omega)]
    omega
  · intro i
    obtain ⟨a1, a2, a3, a4⟩ := y_sh3 hs
    have vb : (x2 &&& 255 : Int32).toBitVec.toNat < 256 := by
      rw [Int32.toBitVec_and, BitVec.toNat_and]
      exact Nat.lt_of_le_of_lt Nat.and_le_right (by decide)
    have vn : (x2 &&& 255 : Int32).toBitVec.toNat = v := by
      have := s_nn (x := x2 &&& 255) (by omega)
      omega
    have vl : yu (x2 &&& 255 : Int32).toInt64 = v := y_tI (q_i2l hx)
    unfold ySh
    show yu (vp_updL t1_0 (t0_0 >>> (3 &&& 31) : Int32).toNatClampNeg _ (i / 8)) / 2 ^ (8 * (i % 8)) % 256 = _
    rw [a4]
    unfold vp_updL
    by_cases c : i / 8 = n / 8
    · rw [if_pos c, y_byteC a3 (by omega) (by omega) (by rw [vl]; omega), vl]
      by_cases d : i % 8 = n % 8
      · rw [if_pos d, if_pos (by omega)]
      · rw [if_neg d, if_neg (fun h => d (by rw [h])), c]
    · rw [if_neg c, if_neg (fun h => c (by rw [h]))]
