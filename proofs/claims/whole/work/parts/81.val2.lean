/-! values: trim, sums -/
theorem v_sc {i : Int32} (h : 0 ≤ i.toInt) (h2 : i.toInt ≤ 1000000) : (i + 1 : Int32).toInt = i.toInt + 1 ∧ (i + 1 : Int32).toNatClampNeg = i.toNatClampNeg + 1 := by
  have e1 : (i + 1 : Int32).toInt = i.toInt + 1 := q_addI (y := 1) rfl (by decide) (by omega) (by omega)
  have := q_clI (i := i + 1) e1 (by omega)
  have := q_clI (i := i) rfl h
  exact ⟨e1, by omega⟩
theorem v_pc {i : Int32} (h : 0 < i.toInt) : (i - 1 : Int32).toInt = i.toInt - 1 ∧ (i - 1 : Int32).toNatClampNeg + 1 = i.toNatClampNeg ∧ (i + (-1) : Int32).toInt = i.toInt - 1 ∧ (i + (-1) : Int32).toNatClampNeg + 1 = i.toNatClampNeg := by
  have h2 := Int32.toInt_lt i
  have e1 : (i - 1 : Int32).toInt = i.toInt - 1 := q_subI (y := 1) rfl (by decide) (by omega) (by omega)
  have e2 : (i + (-1) : Int32).toInt = i.toInt + (-1) := q_addI (y := -1) rfl (by decide) (by omega) (by omega)
  have h3 := q_clI (i := i - 1) e1 (by omega)
  have h4 := q_clI (i := i + (-1)) e2 (by omega)
  have h5 := q_clI (i := i) rfl (by omega)
  exact ⟨e1, by omega, by omega, by omega⟩
/-- trim: no value is lost, and the first limb is not 0 -/
theorem V_trim {R s neg : Int32} {f : Nat → Int32} : ∀ (n : Nat) (top : Int32), 0 ≤ top.toInt → top.toInt < (n : Int) → ∃ z : Int32, F_Big_trim_L5 R s neg f n top = (z, if neg = 0 then 0 else if z ≤ 0 then 0 else 1) ∧ 0 ≤ z.toInt ∧ z.toInt ≤ top.toInt ∧ (0 < z.toInt → f (z.toNatClampNeg - 1) ≠ 0) ∧ vB f z.toNatClampNeg = vB f top.toNatClampNeg := by
  intro n
  induction n with
  | zero => intro top h1 h2; omega
  | succ n ih =>
    intro top h1 h2
    have key : ∀ z : Int32, F_Big_trim_J26 (F_Big_trim_L5 R s neg f n) R s neg f z = (z, if neg = 0 then 0 else if z ≤ 0 then 0 else 1) := by
      intro z
      unfold F_Big_trim_J26
      by_cases h : neg = 0
      · rw [if_pos h, if_pos h]
      · rw [if_neg h, if_neg h]
        by_cases h3 : z ≤ 0
        · rw [if_pos h3, if_pos h3]
        · rw [if_neg h3, if_neg h3]
    have e : (0 : Int32).toInt = 0 := rfl
    rw [F_Big_trim_L5.eq_2]
    by_cases hc : top ≤ 0
    · rw [if_pos hc, key]
      have := q_leI hc
      exact ⟨top, rfl, h1, Int.le_refl _, fun hh => absurd hh (by omega), rfl⟩
    · rw [if_neg hc]
      have h3 := q_nleI hc
      obtain ⟨p1, p2, p3, p4⟩ := v_pc (i := top) (by omega)
      obtain ⟨M, hM⟩ := q_nm (top - 1 : Int32).toNatClampNeg
      obtain ⟨tp, htp⟩ := q_nm (top + (-1) : Int32)
      rw [htp] at p3 p4 ⊢
      rw [hM] at p2 ⊢
      have p5 : tp.toNatClampNeg = M := by omega
      by_cases hz : f M = 0
      · rw [if_pos hz]
        obtain ⟨z, r1, r2, r3, r4, r5⟩ := ih tp (by omega) (by omega)
        refine ⟨z, r1, r2, by omega, r4, ?_⟩
        have hv : vB f (M + 1) = vB f M + (f M).toInt * 2147483648 ^ M := rfl
        rw [hz, e, Int.zero_mul, Int.add_zero, p2] at hv
        rw [r5, hv, p5]
      · rw [if_neg hz, key]
        refine ⟨top, rfl, h1, Int.le_refl _, fun _ => ?_, rfl⟩
        have h9 : top.toNatClampNeg - 1 = M := by omega
        rw [h9]
        exact hz
/-- the first n limbs of a number of s limbs: 0 behind them -/
def vL (f : Nat → Int32) (s : Nat) : Nat → Int
  | 0 => 0
  | n + 1 => vL f s n + (if n < s then (f n).toInt else 0) * 2147483648 ^ n
theorem vL_le {f : Nat → Int32} {s : Nat} : ∀ {n : Nat}, n ≤ s → vL f s n = vB f n
  | 0, _ => rfl
  | n + 1, h => by
    show vL f s n + (if n < s then (f n).toInt else 0) * _ = vB f n + _
    rw [vL_le (n := n) (by omega), if_pos (by omega)]
theorem vL_ge {f : Nat → Int32} {s : Nat} : ∀ {n : Nat}, s ≤ n → vL f s n = vB f s
  | 0, h => by
    have : s = 0 := by omega
    subst this; rfl
  | n + 1, h => by
    by_cases e : s = n + 1
    · subst e; exact vL_le (Nat.le_refl _)
    · show vL f s n + (if n < s then (f n).toInt else 0) * _ = vB f s
      rw [vL_ge (n := n) (by omega), if_neg (by omega)]
      simp
theorem vL_df {f : Nat → Int32} {s i : Nat} {x : Int32} : ∀ {n : Nat}, i < n → vL (upd f i x) s n - vL (upd f i x) s (i + 1) = vL f s n - vL f s (i + 1)
  | 0, h => by omega
  | n + 1, h => by
    by_cases e : n = i
    · subst e; omega
    · have h1 := vL_df (f := f) (s := s) (x := x) (n := n) (i := i) (by omega)
      show vL (upd f i x) s n + (if n < s then (upd f i x n).toInt else 0) * _ - _ = vL f s n + _ - _
      rw [v_ne (by omega)]
      omega
theorem v_limb {R i s neg : Int32} {f : Nat → Int32} (h : 0 ≤ i.toInt) (hs : 0 ≤ s.toInt) : (F_Big_limb R i s neg f).toInt = if i.toNatClampNeg < s.toNatClampNeg then (f i.toNatClampNeg).toInt else 0 := by
  have e : (0 : Int32).toInt = 0 := rfl
  have h1 := q_clI (i := i) rfl h
  have h2 := q_clI (i := s) rfl hs
  unfold F_Big_limb
  by_cases c : i < 0
  · have := q_ltI c; omega
  · rw [if_neg c]
    by_cases d : s ≤ i
    · have := q_leI d
      rw [if_pos d, if_neg (by omega), e]
    · have := q_nleI d
      rw [if_neg d, if_pos (by omega)]
theorem v_and31I {x : Int32} : 0 ≤ (x &&& 2147483647).toInt ∧ (x &&& 2147483647).toInt = x.toInt % 2147483648 := by
  have h4 : (x &&& 2147483647).toBitVec.toNat = x.toBitVec.toNat % 2147483648 := by
    rw [Int32.toBitVec_and, BitVec.toNat_and]
    exact Nat.and_two_pow_sub_one_eq_mod _ 31
  have h5 := s_of h4 (by omega)
  have h6 : x.toInt = x.toBitVec.toInt := rfl
  have h7 := BitVec.toInt_eq_toNat_bmod x.toBitVec
  have h8 := x.toBitVec.isLt
  rw [h5, h6, h7, Int.bmod_def]
  split <;> omega
theorem v_ushr31I {x : Int32} : ((x.toUInt32 >>> ((31 : Int32).toUInt32 &&& Int32.toUInt32 31)).toInt32).toInt = if 0 ≤ x.toInt then 0 else 1 := by
  have h1 : ((x.toUInt32 >>> ((31 : Int32).toUInt32 &&& Int32.toUInt32 31)).toInt32).toBitVec.toNat = x.toBitVec.toNat / 2147483648 := by
    show (x.toUInt32 >>> ((31 : Int32).toUInt32 &&& Int32.toUInt32 31)).toBitVec.toNat = _
    rw [UInt32.toBitVec_shiftRight, BitVec.ushiftRight_eq', BitVec.toNat_ushiftRight, show (((31 : Int32).toUInt32 &&& Int32.toUInt32 31).toBitVec % 32).toNat = 31 by decide, Nat.shiftRight_eq_div_pow]
    rfl
  have h8 := x.toBitVec.isLt
  have h5 := s_of h1 (by omega)
  have h6 : x.toInt = x.toBitVec.toInt := rfl
  have h7 := BitVec.toInt_eq_toNat_bmod x.toBitVec
  rw [h5, h6, h7, Int.bmod_def]
  split <;> split <;> omega
