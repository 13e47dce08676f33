/-! values, for whole: the class's endless row: one limb; mixed limbs -/
theorem v_dnL {A P : Int} (hA : 0 ≤ A) (hP : 0 < P) : (-A) / P % 2147483648 = if A % P = 0 then (2147483648 - A / P % 2147483648) % 2147483648 else 2147483647 - A / P % 2147483648 := by
  obtain ⟨a, rfl⟩ : ∃ a : Nat, A = (a : Int) := ⟨A.toNat, by omega⟩
  obtain ⟨p, rfl⟩ : ∃ p : Nat, P = (p : Int) := ⟨P.toNat, by omega⟩
  have h := w_dn (A := a) (P := p) (by omega)
  have e1 : (a : Int) % (p : Int) = ((a % p : Nat) : Int) := (Int.natCast_emod a p).symm
  have e2 : (a : Int) / (p : Int) = ((a / p : Nat) : Int) := (Int.natCast_ediv a p).symm
  rw [h, e1, e2]
  by_cases c : a % p = 0
  · rw [if_pos c, if_pos (by omega)]
    omega
  · rw [if_neg c, if_neg (by omega)]
    omega
theorem v_pwleB {k i : Nat} (h : k ≤ i) : (2147483648 : Int) ^ k ≤ 2147483648 ^ i := by
  obtain ⟨d, rfl⟩ := Nat.exists_eq_add_of_le h
  rw [Int.pow_add]
  have hp : (0 : Int) < 2147483648 ^ k := Int.pow_pos (by decide)
  have hq : (0 : Int) < 2147483648 ^ d := Int.pow_pos (by decide)
  have : (2147483648 : Int) ^ k * 1 ≤ 2147483648 ^ k * 2147483648 ^ d := Int.mul_le_mul_of_nonneg_left (by omega) (by omega)
  omega
theorem v_modP {f : Nat → Int32} {n j : Nat} (ho : okL f n) (hj : j ≤ n) : vB f n % 2147483648 ^ j = vB f j := by
  obtain ⟨d, rfl⟩ : ∃ d, n = j + d := ⟨n - j, by omega⟩
  have h1 := v_split (f := f) (p := j) (n := d)
  have h4 : 0 ≤ vB f j := v_nn (fun i hi => ho i (by omega))
  have h5 : vB f j < 2147483648 ^ j := v_lt (fun i hi => ho i (by omega))
  rw [h1, Int.add_mul_emod_self_left, Int.emod_eq_of_lt h4 h5]
/-- the lowest limb that is not 0 -/
def cLo (s : Int32) (f : Nat → Int32) (lo : Int32) : Prop := 0 ≤ lo.toInt ∧ lo.toInt < s.toInt ∧ f lo.toNatClampNeg ≠ 0 ∧ ∀ j, j < lo.toNatClampNeg → f j = 0
theorem V_lowL {R s n : Int32} {f : Nat → Int32} (h : bN s f) (hs : 0 < s.toInt) (hs2 : s.toInt ≤ 220) : ∀ (m : Nat) (j : Int32), 0 ≤ j.toInt → j.toInt < s.toInt → s.toInt - j.toInt < (m : Int) → (∀ i, i < j.toNatClampNeg → f i = 0) → cLo s f (F_Big_lowestLimb_L2 R s n f m j) := by
  intro m
  induction m with
  | zero => intros; omega
  | succ m ih =>
    intro j h1 h2 h3 h0
    have c1 := q_clI (i := j) rfl h1
    have c2 := q_clI (i := s) rfl h.1
    rw [F_Big_lowestLimb_L2.eq_2, if_neg (fun hh => by have := q_leI hh; omega)]
    split
    · rename_i h4
      have ej := v_sc h1 (by omega)
      have c3 := q_clI (i := (j + 1 : Int32)) rfl (by omega)
      have h6 : j.toInt + 1 < s.toInt := by
        by_cases h5 : j.toInt + 1 = s.toInt
        · exact absurd h4 (by rw [show j.toNatClampNeg = s.toNatClampNeg - 1 by omega]; exact h.2.2 hs)
        · omega
      refine ih _ (by omega) (by omega) (by omega) (fun i hi => ?_)
      by_cases e : i = j.toNatClampNeg
      · rw [e]
        exact h4
      · exact h0 i (by omega)
    · rename_i h4
      exact ⟨h1, h2, h4, h0⟩
theorem V_low {R s n : Int32} {f : Nat → Int32} (h : bN s f) (hs : 0 < s.toInt) (hs2 : s.toInt ≤ 220) : cLo s f (F_Big_lowestLimb R s n f) := by
  unfold F_Big_lowestLimb
  exact V_lowL h hs hs2 _ _ (by decide) hs (by rw [show (0 : Int32).toInt = 0 from rfl]; omega) (fun i hi => absurd hi (by rw [show (0 : Int32).toNatClampNeg = 0 from rfl]; omega))
theorem v_limK {R i s n : Int32} {f : Nat → Int32} {k : Nat} (h : bN s f) (hi : i.toInt = (k : Int)) : (F_Big_limb R i s n f).toInt = vB f s.toNatClampNeg / 2147483648 ^ k % 2147483648 := by
  have ic := q_clI hi (by omega)
  rw [v_limb (by omega) h.1, show i.toNatClampNeg = k by omega]
  split
  · rename_i h1
    exact v_limD h.2.1 h1
  · rename_i h1
    have l1 : (2147483648 : Int) ^ s.toNatClampNeg ≤ 2147483648 ^ k := v_pwleB (by omega)
    have l2 := v_lt h.2.1
    have l3 := v_nn h.2.1
    rw [Int.ediv_eq_zero_of_lt l3 (by omega)]
    rfl
theorem V_endless {R i lo s n : Int32} {f : Nat → Int32} {v : Int} {k : Nat} (h : bO R s n f v) (hi : i.toInt = (k : Int)) (hk : k ≤ 1000) (hl : n ≠ 0 → cLo s f lo) : (F_Big_endlessLimb R i lo s n f).toInt = v / 2147483648 ^ k % 2147483648 := by
  have ic := q_clI hi (by omega)
  have lk := v_limK (R := R) (n := n) h.1 hi
  have hp : (0 : Int) < 2147483648 ^ k := Int.pow_pos (by decide)
  have h3 : bS n s f = v := h.2.2.1
  have hA0 : 0 ≤ vB f s.toNatClampNeg := v_nn h.1.2.1
  have hc := q_clI (i := s) rfl h.1.1
  unfold F_Big_endlessLimb
  by_cases hn : n = 0
  · rw [if_pos hn, lk, ← h3, bS, if_pos hn]
    rfl
  · rw [if_neg hn, ← h3, bS, if_neg hn]
    show _ = (-vB f s.toNatClampNeg) / _ % _
    obtain ⟨l0, l1, l2, l4⟩ := hl hn
    have lc := q_clI (i := lo) rfl l0
    have hz : k ≤ lo.toNatClampNeg → vB f s.toNatClampNeg % 2147483648 ^ k = 0 := fun hh => by
      rw [v_modP h.1.2.1 (by omega)]
      exact v_zerB (fun i hi => l4 i (by omega))
    have lN : 0 ≤ (F_Big_limb R i s n f).toInt := v_limN (by omega) h.1
    have lB := Int32.toInt_lt (F_Big_limb R i s n f)
    rw [v_dnL hA0 hp, ← lk]
    by_cases c : lo ≤ i
    · rw [if_pos c]
      have c2 := q_leI c
      by_cases d : i = lo
      · rw [if_pos d, if_pos (hz (by rw [← d]; omega)), v_and31I.2]
        have ng : (-(F_Big_limb R i s n f) : Int32).toInt = -(F_Big_limb R i s n f).toInt := by
          rw [Int32.toInt_neg, Int.bmod_eq_of_le (by omega) (by omega)]
        rw [ng]
        omega
      · rw [if_neg d, v_not31 lN, if_neg]
        have d2 : ¬ i.toInt = lo.toInt := fun e => d (Int32.toInt_inj.mp e)
        intro z
        by_cases ks : k ≤ s.toNatClampNeg
        · rw [v_modP h.1.2.1 ks] at z
          have g := v_vBge (f := f) (n := k) (j := lo.toNatClampNeg) (fun i hi => h.1.2.1 i (by omega)) (by omega)
          have g1 := h.1.2.1 lo.toNatClampNeg (by omega)
          have g2 : ¬ (f lo.toNatClampNeg).toInt = 0 := fun e => l2 (Int32.toInt_inj.mp e)
          have g3 : (0 : Int) < 2147483648 ^ lo.toNatClampNeg := Int.pow_pos (by decide)
          have g4 : 0 < (f lo.toNatClampNeg).toInt * 2147483648 ^ lo.toNatClampNeg := Int.mul_pos (by omega) g3
          omega
        · have g := v_vBge (f := f) (n := s.toNatClampNeg) (j := lo.toNatClampNeg) h.1.2.1 (by omega)
          have g1 := h.1.2.1 lo.toNatClampNeg (by omega)
          have g2 : ¬ (f lo.toNatClampNeg).toInt = 0 := fun e => l2 (Int32.toInt_inj.mp e)
          have g3 : (0 : Int) < 2147483648 ^ lo.toNatClampNeg := Int.pow_pos (by decide)
          have g4 : 0 < (f lo.toNatClampNeg).toInt * 2147483648 ^ lo.toNatClampNeg := Int.mul_pos (by omega) g3
          have l9 : vB f s.toNatClampNeg < 2147483648 ^ k := by
            have e1 := v_lt h.1.2.1
            have e2 : (2147483648 : Int) ^ s.toNatClampNeg ≤ 2147483648 ^ k := v_pwleB (by omega)
            omega
          rw [Int.emod_eq_of_lt hA0 l9] at z
          omega
    · rw [if_neg c]
      have c2 := q_nleI c
      rw [if_pos (hz (by omega))]
      have z : (F_Big_limb R i s n f).toInt = 0 := by
        rw [v_limb (by omega) h.1.1, if_pos (by omega), l4 _ (by omega)]
        rfl
      rw [z]
      rfl
theorem opN_lt31 {h x y : Nat} (hx : x < 2147483648) (hy : y < 2147483648) : opN h x y < 2147483648 := by
  unfold opN
  split
  · exact Nat.lt_of_le_of_lt Nat.and_le_left hx
  · split
    · exact Nat.or_lt_two_pow (n := 31) hx hy
    · split
      · exact Nat.xor_lt_two_pow (n := 31) hx hy
      · exact Nat.lt_of_le_of_lt Nat.and_le_left hx
theorem V_mixed {x p q : Int32} {h : Nat} (hx : x.toInt = ((8 + h : Nat) : Int)) (hh : h ≤ 3) (hp : 0 ≤ p.toInt) (hq : 0 ≤ q.toInt) : (F_Mil_mixed x p q).toInt = ((opN h p.toInt.toNat q.toInt.toNat : Nat) : Int) := by
  have e8 : (8 : Int32).toInt = 8 := rfl
  have e9 : (9 : Int32).toInt = 9 := rfl
  have e10 : (10 : Int32).toInt = 10 := rfl
  have a1 := v_natI (x := p) hp
  have b1 := v_natI (x := q) hq
  have a : p.toBitVec.toNat = p.toInt.toNat := by omega
  have b : q.toBitVec.toNat = q.toInt.toNat := by omega
  have pl := Int32.toInt_lt p
  have ql := Int32.toInt_lt q
  have l := opN_lt31 (h := h) (x := p.toInt.toNat) (y := q.toInt.toNat) (by omega) (by omega)
  unfold F_Mil_mixed
  by_cases c0 : x = 8
  · rw [if_pos c0]
    rw [c0] at hx
    refine w_toI ?_ l
    rw [Int32.toBitVec_and, BitVec.toNat_and, a, b, show h = 0 by omega]
    rfl
  rw [if_neg c0]
  have n0 : ¬ h = 0 := fun e => c0 (Int32.toInt_inj.mp (by omega))
  by_cases c1 : x = 9
  · rw [if_pos c1]
    rw [c1] at hx
    refine w_toI ?_ l
    rw [Int32.toBitVec_or, BitVec.toNat_or, a, b, show h = 1 by omega]
    rfl
  rw [if_neg c1]
  have n1 : ¬ h = 1 := fun e => c1 (Int32.toInt_inj.mp (by omega))
  by_cases c2 : x = 10
  · rw [if_pos c2]
    rw [c2] at hx
    refine w_toI ?_ l
    rw [Int32.toBitVec_xor, BitVec.toNat_xor, a, b, show h = 2 by omega]
    rfl
  rw [if_neg c2]
  have n2 : ¬ h = 2 := fun e => c2 (Int32.toInt_inj.mp (by omega))
  have e1 : (-1 : Int32).toBitVec = BitVec.allOnes 32 := by decide
  have e : (p &&& (q ^^^ (-1)) : Int32).toBitVec = p.toBitVec &&& (p.toBitVec ^^^ q.toBitVec) := by
    rw [Int32.toBitVec_and, Int32.toBitVec_xor, e1, BitVec.xor_allOnes]
    apply BitVec.eq_of_getLsbD_eq
    intro i hi
    rw [BitVec.getLsbD_and, BitVec.getLsbD_and, BitVec.getLsbD_xor, BitVec.getLsbD_not, decide_eq_true hi]
    cases p.toBitVec.getLsbD i <;> cases q.toBitVec.getLsbD i <;> rfl
  refine w_toI ?_ l
  rw [e, BitVec.toNat_and, BitVec.toNat_xor, a, b, show h = 3 by omega]
  rfl
