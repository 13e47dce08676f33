/-! values: signed sums, bits of a number -/
/-- the signed value -/
def bS (neg s : Int32) (f : Nat → Int32) : Int := if neg = 0 then bV s f else -bV s f
theorem bS_nil {neg s : Int32} {f : Nat → Int32} (h : bN s f) (hs : ¬ 0 < s.toInt) : bS neg s f = 0 ∧ bV s f = 0 := by
  have h1 := h.nn
  have h2 : bV s f = 0 := by
    have := h.pos
    omega
  unfold bS
  rw [h2]
  split <;> exact ⟨rfl, rfl⟩
theorem bS_0 {s : Int32} {f : Nat → Int32} : bS 0 s f = bV s f := by unfold bS; rw [if_pos rfl]
theorem bS_1 {s : Int32} {f : Nat → Int32} : bS 1 s f = -bV s f := by unfold bS; rw [if_neg (by decide)]
/-- a sign that a number may have -/
def bG (neg s : Int32) : Prop := neg = 0 ∨ (neg = 1 ∧ 0 < s.toInt)
theorem bG_if {neg z : Int32} : bG (if neg = 0 then 0 else if z ≤ 0 then 0 else 1) z := by
  have e0 : (0 : Int32).toInt = 0 := rfl
  by_cases h : neg = 0
  · rw [if_pos h]
    exact Or.inl rfl
  · rw [if_neg h]
    by_cases h2 : z ≤ 0
    · rw [if_pos h2]
      exact Or.inl rfl
    · rw [if_neg h2]
      have := q_nleI h2
      exact Or.inr ⟨rfl, by omega⟩
theorem bS_if {neg z : Int32} {f : Nat → Int32} (h : bN z f) (hn : neg = 0 ∨ neg = 1) : bS (if neg = 0 then 0 else if z ≤ 0 then 0 else 1) z f = bS neg z f := by
  have e0 : (0 : Int32).toInt = 0 := rfl
  rcases hn with rfl | rfl
  · rw [if_pos rfl]
  · rw [if_neg (by decide)]
    by_cases h2 : z ≤ 0
    · have h3 := q_leI h2
      obtain ⟨h4, h5⟩ := bS_nil (neg := 1) h (by omega)
      rw [if_pos h2, h4, bS_0, h5]
    · rw [if_neg h2]
theorem V_addJ {R R2 x s neg s2 neg2 w : Int32} {f g : Nat → Int32} (h : bN s f) (h2 : bN s2 g) (hg : bG neg s) (hw : w = 0 ∨ w = 1) (hs : s.toInt < R.toInt) (hs2 : s2.toInt < R.toInt) (hR : R.toInt ≤ 220) :
    ∃ (z zn : Int32) (k : Nat → Int32), F_Big_addSigned_J13 R R2 x s neg f s2 neg2 g w = (z, zn, k) ∧ bN z k ∧ bG zn z ∧ bS zn z k = bS neg s f + bS w s2 g ∧ (z.toInt ≤ s.toInt + 1 ∨ z.toInt ≤ s2.toInt + 1) := by
  have e0 : (0 : Int32).toInt = 0 := rfl
  have hneg : neg = 0 ∨ neg = 1 := hg.imp id (fun h => h.1)
  have hs0 := h.1
  have hs20 := h2.1
  unfold F_Big_addSigned_J13
  by_cases c1 : s2 = 0
  · rw [if_pos c1]
    have hz : ¬ 0 < s2.toInt := by rw [c1]; decide
    refine ⟨s, neg, f, rfl, h, hg, ?_, Or.inl (by omega)⟩
    rw [(bS_nil h2 hz).1, Int.add_zero]
  · rw [if_neg c1]
    have hs2p : 0 < s2.toInt := by
      have : s2.toInt ≠ 0 := fun h9 => c1 (Int32.toInt_inj.mp h9)
      omega
    obtain ⟨z, k, r1, r2, r3, r4, r5, r6⟩ := V_add (R := R) (R2 := R2) (neg := neg) (neg2 := neg2) h h2 hs hs2 hR
    have gw : bG w z := hw.imp id (fun e => ⟨e, by omega⟩)
    by_cases c2 : s = 0
    · rw [if_pos c2, r1]
      have hz : ¬ 0 < s.toInt := by rw [c2]; decide
      refine ⟨z, w, k, rfl, r5, gw, ?_, r4⟩
      obtain ⟨q1, q2⟩ := bS_nil (neg := neg) h hz
      rw [q1, Int.zero_add]
      unfold bS
      rw [r6, q2, Int.zero_add]
    · rw [if_neg c2]
      by_cases c3 : neg = w
      · rw [if_pos c3, r1]
        subst c3
        refine ⟨z, neg, k, rfl, r5, gw, ?_, r4⟩
        rcases hw with rfl | rfl
        · rw [bS_0, bS_0, bS_0, r6]
        · rw [bS_1, bS_1, bS_1, r6]
          omega
      · rw [if_neg c3]
        have cm := V_cmp (R := R) (R2 := R2) (neg := neg) (neg2 := neg2) h h2
        obtain ⟨cv, ecv⟩ := q_nm (F_Big_compareSize R R2 s neg f s2 neg2 g)
        rw [ecv] at cm ⊢
        by_cases c4 : cv < 0
        · rw [if_pos c4]
          have c5 := q_ltI c4
          have lt : bV s f < bV s2 g := by omega
          obtain ⟨z, k, r1, r2, r3, r4⟩ := V_sbf (R := R) (R2 := R2) (neg := neg) (neg2 := neg2) h h2 (by omega) (by omega) (by omega)
          rw [r1]
          have zp : 0 < z.toInt := r3.pos.mpr (by omega)
          refine ⟨z, w, k, rfl, r3, hw.imp id (fun e => ⟨e, zp⟩), ?_, Or.inr (by omega)⟩
          rcases hneg with rfl | rfl
          · rcases hw with rfl | rfl
            · exact absurd rfl c3
            · rw [bS_0, bS_1, bS_1, r4]
              omega
          · rcases hw with rfl | rfl
            · rw [bS_0, bS_1, bS_0, r4]
              omega
            · exact absurd rfl c3
        · rw [if_neg c4]
          have c5 := q_nltI c4
          have ge : bV s2 g ≤ bV s f := by omega
          obtain ⟨z, k, r1, r2, r3, r4⟩ := V_sub (R := R) (R2 := R2) (neg := neg) (neg2 := neg2) h h2 ge (by omega)
          rw [r1]
          refine ⟨z, _, k, rfl, r3, bG_if, ?_, Or.inl (by omega)⟩
          rw [bS_if r3 hneg]
          rcases hneg with rfl | rfl
          · rcases hw with rfl | rfl
            · exact absurd rfl c3
            · rw [bS_0, bS_1, bS_0, r4]
              omega
          · rcases hw with rfl | rfl
            · rw [bS_0, bS_1, bS_1, r4]
              omega
            · exact absurd rfl c3
/-- this and other, or this less other (x = 1) -/
theorem V_addS {R R2 x s neg s2 neg2 : Int32} {f g : Nat → Int32} (h : bN s f) (h2 : bN s2 g) (hg : bG neg s) (hg2 : neg2 = 0 ∨ neg2 = 1) (hx : x = 0 ∨ x = 1) (hs : s.toInt < R.toInt) (hs2 : s2.toInt < R.toInt) (hR : R.toInt ≤ 220) :
    ∃ (z zn : Int32) (k : Nat → Int32), F_Big_addSigned R R2 x s neg f s2 neg2 g = (z, zn, k) ∧ bN z k ∧ bG zn z ∧ bS zn z k = (if x = 0 then bS neg s f + bS neg2 s2 g else bS neg s f - bS neg2 s2 g) ∧ (z.toInt ≤ s.toInt + 1 ∨ z.toInt ≤ s2.toInt + 1) := by
  have key : ∀ w : Int32, w = 0 ∨ w = 1 → bS w s2 g = (if x = 0 then bS neg2 s2 g else -bS neg2 s2 g) → ∃ (z zn : Int32) (k : Nat → Int32), F_Big_addSigned_J13 R R2 x s neg f s2 neg2 g w = (z, zn, k) ∧ bN z k ∧ bG zn z ∧ bS zn z k = (if x = 0 then bS neg s f + bS neg2 s2 g else bS neg s f - bS neg2 s2 g) ∧ (z.toInt ≤ s.toInt + 1 ∨ z.toInt ≤ s2.toInt + 1) := fun w hw he => by
    obtain ⟨z, zn, k, r1, r2, r3, r4, r5⟩ := V_addJ (R := R) (R2 := R2) (x := x) (neg2 := neg2) h h2 hg hw hs hs2 hR
    refine ⟨z, zn, k, r1, r2, r3, ?_, r5⟩
    rw [r4, he]
    split
    · rfl
    · rw [Int.sub_eq_add_neg]
  unfold F_Big_addSigned
  rcases hg2 with rfl | rfl
  · rcases hx with rfl | rfl
    · rw [if_pos rfl]
      exact key 0 (Or.inl rfl) (by rw [if_pos rfl])
    · rw [if_neg (by decide)]
      exact key 1 (Or.inr rfl) (by rw [if_neg (by decide), bS_0, bS_1])
  · rcases hx with rfl | rfl
    · rw [if_neg (by decide)]
      exact key 1 (Or.inr rfl) (by rw [if_pos rfl])
    · rw [if_pos rfl]
      exact key 0 (Or.inl rfl) (by rw [if_neg (by decide), bS_0, bS_1, Int.neg_neg])
/-- how many bits a number has -/
theorem V_bits {R s neg : Int32} {f : Nat → Int32} (h : bN s f) (hs : s.toInt ≤ 220) : ∃ b : Nat, (F_Big_bitLength R s neg f).toInt = (b : Int) ∧ b ≤ 31 * s.toNatClampNeg ∧ bV s f < 2 ^ b ∧ (0 < s.toInt → 1 ≤ b ∧ (2 : Int) ^ (b - 1) ≤ bV s f) := by
  have e0 : (0 : Int32).toInt = 0 := rfl
  have hs0 := h.1
  have es := q_clI (i := s) rfl hs0
  unfold F_Big_bitLength
  by_cases c : s = 0
  · rw [if_pos c]
    have hz : ¬ 0 < s.toInt := by rw [c]; decide
    refine ⟨0, rfl, by omega, ?_, fun h9 => absurd h9 hz⟩
    rw [(bS_nil (neg := 0) h hz).2]
    decide
  · rw [if_neg c]
    have sp : 0 < s.toInt := by
      have : s.toInt ≠ 0 := fun h9 => c (Int32.toInt_inj.mp h9)
      omega
    obtain ⟨n, hn⟩ : ∃ n : Nat, s.toNatClampNeg = n + 1 := ⟨s.toNatClampNeg - 1, by omega⟩
    have k1 : (s - 1 : Int32).toInt = s.toInt - 1 := q_subI (y := 1) rfl rfl (by omega) (by omega)
    have k2 := q_clI (i := s - 1) k1 (by omega)
    rw [show (s - 1 : Int32).toNatClampNeg = n by omega]
    have okf := h.2.1
    rw [hn] at okf
    have nz := h.2.2 sp
    rw [hn, show n + 1 - 1 = n by omega] at nz
    have t0 := okf n (by omega)
    have tl : 0 < (f n).toInt := by
      have : (f n).toInt ≠ 0 := fun h9 => nz (Int32.toInt_inj.mp h9)
      omega
    obtain ⟨b, b1, b2, b3, b4, b5⟩ := v_bits tl
    have m1 : ((s - 1) * 31 : Int32).toInt = (s.toInt - 1) * 31 := q_mulI (y := 31) k1 rfl (by omega) (by omega)
    have m2 : ((s - 1) * 31 + F_Big_bitsOf (f n) : Int32).toInt = (s.toInt - 1) * 31 + (b : Int) := q_addI m1 b3 (by omega) (by omega)
    have top : bV s f = vB f n + (f n).toInt * 2147483648 ^ n := by
      unfold bV
      rw [hn]
      rfl
    have f0 := v_nn (okf.mono (Nat.le_succ n))
    have f1 := v_lt (okf.mono (Nat.le_succ n))
    have P0 := v_pos n
    refine ⟨31 * n + b, by rw [m2]; omega, by omega, ?_, fun _ => ⟨by omega, ?_⟩⟩
    · rw [Int.pow_add, v_p31, top]
      have h9 : ((f n).toInt + 1) * 2147483648 ^ n ≤ 2 ^ b * 2147483648 ^ n := Int.mul_le_mul_of_nonneg_right (by omega) (Int.le_of_lt P0)
      rw [Int.add_mul, Int.mul_comm (2 ^ b)] at h9
      omega
    · rw [show 31 * n + b - 1 = 31 * n + (b - 1) by omega, Int.pow_add, v_p31, top]
      have h9 : 2 ^ (b - 1) * 2147483648 ^ n ≤ (f n).toInt * 2147483648 ^ n := Int.mul_le_mul_of_nonneg_right b4 (Int.le_of_lt P0)
      rw [Int.mul_comm (2 ^ (b - 1))] at h9
      omega
