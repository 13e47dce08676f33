/-! values: powers of ten and five -/
theorem v_ten : ∀ i : Fin 10, (Int32.ofNat (10 ^ i.val)).toInt = 10 ^ i.val := by decide +kernel
theorem v_five : ∀ i : Fin 14, (Int32.ofNat (5 ^ i.val)).toInt = 5 ^ i.val := by decide +kernel
theorem v_t10 (k : Nat) : (0 : Int) < 10 ^ k := Int.pow_pos (by decide)
theorem v_t5 (k : Nat) : (0 : Int) < 5 ^ k := Int.pow_pos (by decide)
theorem v_grow {v a b c : Int} (h : v * (a * b) < c) (hv : 0 ≤ v) (ha : 0 < a) (hb : 0 < b) : a * v < c := by
  have h1 : a * v * 1 ≤ a * v * b := Int.mul_le_mul_of_nonneg_left (by omega) (Int.mul_nonneg (by omega) hv)
  have e : v * (a * b) = a * v * b := by ac_rfl
  omega
/-- times a power of ten: while there is room -/
theorem V_tenL {R x s0 n0 neg : Int32} {g0 : Nat → Int32} {M : Nat} (hR : R.toInt ≤ 220) (hM : (M : Int) < R.toInt) :
    ∀ (n : Nat) (j : Int32) (s : Int32) (f : Nat → Int32), 0 < n → j.toInt < (n : Int) → bN s f → bV s f * 10 ^ j.toNatClampNeg < 2147483648 ^ M →
    ∃ (z : Int32) (h : Nat → Int32), F_Big_timesTen_L2 R x s0 n0 g0 n j s neg f = (z, neg, h) ∧ bN z h ∧ bV z h = bV s f * 10 ^ j.toNatClampNeg := by
  have e0 : (0 : Int32).toInt = 0 := rfl
  have e9 : (9 : Int32).toInt = 9 := rfl
  intro n
  induction n with
  | zero => intro j s f h0 h1 h2 h3; omega
  | succ n ih =>
    intro j s f h0 h1 h2 h3
    rw [F_Big_timesTen_L2.eq_2]
    by_cases hc : j ≤ 0
    · rw [if_pos hc]
      have hc2 := q_leI hc
      have hz : j.toNatClampNeg = 0 := by
        show j.toInt.toNat = 0
        omega
      refine ⟨s, f, rfl, h2, ?_⟩
      rw [hz]
      show bV s f = bV s f * 1
      rw [Int.mul_one]
    · rw [if_neg hc]
      have hc2 := q_nleI hc
      have ej := q_clI (i := j) rfl (by omega)
      have hjl := Int32.toInt_lt j
      obtain ⟨t, et⟩ := q_nm (if 9 < j then 9 else j : Int32)
      have ht : t.toInt = (if 9 < j.toInt then 9 else j.toInt) := by
        rw [← et]
        by_cases h9 : 9 < j
        · have := q_ltI h9
          rw [if_pos h9, if_pos (by omega)]
          rfl
        · have := q_nltI h9
          rw [if_neg h9, if_neg (by omega)]
      rw [et]
      have ht2 : 1 ≤ t.toInt ∧ t.toInt ≤ 9 ∧ t.toInt ≤ j.toInt ∧ (t.toInt = 9 ∨ t.toInt = j.toInt) := by
        rw [ht]
        split <;> omega
      have ett := q_clI (i := t) rfl (by omega)
      obtain ⟨m, em⟩ := q_nm t.toNatClampNeg
      rw [em] at ett ⊢
      have hp := v_ten ⟨m, by omega⟩
      have hpos := v_t10 m
      obtain ⟨c, ec⟩ := q_nm (Int32.ofNat (10 ^ m))
      rw [show Int32.ofNat (10 ^ (⟨m, by omega⟩ : Fin 10).val) = c from ec] at hp
      rw [ec]
      have hp2 : c.toInt = 10 ^ m := hp
      obtain ⟨J, eJ⟩ := q_nm j.toNatClampNeg
      rw [eJ] at ej h3 ⊢
      obtain ⟨d, hd⟩ : ∃ d, J = m + d := ⟨J - m, by omega⟩
      subst hd
      rw [Int.pow_add] at h3 ⊢
      have vnn := h2.nn
      have hlt : 10 ^ m * bV s f < 2147483648 ^ M := v_grow h3 vnn hpos (v_t10 d)
      have hle : 1 * bV s f ≤ 10 ^ m * bV s f := Int.mul_le_mul_of_nonneg_right (by omega) vnn
      have hsz := h2.sz (n := M) (by omega)
      obtain ⟨z, g, r1, r2, r3, r4, r5⟩ := V_mul (R := R) (x := c) (y := 0) (neg := neg) h2 (by omega) (by decide) (by omega) hR
      rw [r1]
      dsimp only
      have p1 : (j + (-9) : Int32).toInt = j.toInt + (-9) := q_addI (y := -9) rfl (by decide) (by omega) (by omega)
      obtain ⟨j', ej'⟩ := q_nm (j + (-9) : Int32)
      rw [ej'] at p1 ⊢
      have hd2 : j'.toNatClampNeg = d := by
        show j'.toInt.toNat = d
        omega
      rw [e0, Int.add_zero, hp2] at r5
      obtain ⟨z', g', w1, w2, w3⟩ := ih j' z g (by omega) (by omega) r4 (by
        rw [r5, hd2]
        have e : 10 ^ m * bV s f * 10 ^ d = bV s f * (10 ^ m * 10 ^ d) := by ac_rfl
        rw [e]
        exact h3)
      refine ⟨z', g', w1, w2, ?_⟩
      rw [w3, r5, hd2]
      ac_rfl
theorem V_ten {R x s neg : Int32} {f : Nat → Int32} {M : Nat} (h : bN s f) (hR : R.toInt ≤ 220) (hM : (M : Int) < R.toInt) (hv : bV s f * 10 ^ x.toNatClampNeg < 2147483648 ^ M) :
    ∃ (z : Int32) (g : Nat → Int32), F_Big_timesTen R x s neg f = (z, neg, g) ∧ bN z g ∧ bV z g = bV s f * 10 ^ x.toNatClampNeg := by
  unfold F_Big_timesTen
  exact V_tenL hR hM _ x s f (by omega) (by omega) h hv
/-- times a power of five: while there is room -/
theorem V_fiveL {R x s0 n0 neg : Int32} {g0 : Nat → Int32} {M : Nat} (hR : R.toInt ≤ 220) (hM : (M : Int) < R.toInt) :
    ∀ (n : Nat) (j : Int32) (s : Int32) (f : Nat → Int32), 0 < n → j.toInt < (n : Int) → bN s f → bV s f * 5 ^ j.toNatClampNeg < 2147483648 ^ M →
    ∃ (z : Int32) (h : Nat → Int32), F_Big_timesFive_L2 R x s0 n0 g0 n j s neg f = (z, neg, h) ∧ bN z h ∧ bV z h = bV s f * 5 ^ j.toNatClampNeg := by
  have e0 : (0 : Int32).toInt = 0 := rfl
  have e9 : (13 : Int32).toInt = 13 := rfl
  intro n
  induction n with
  | zero => intro j s f h0 h1 h2 h3; omega
  | succ n ih =>
    intro j s f h0 h1 h2 h3
    rw [F_Big_timesFive_L2.eq_2]
    by_cases hc : j ≤ 0
    · rw [if_pos hc]
      have hc2 := q_leI hc
      have hz : j.toNatClampNeg = 0 := by
        show j.toInt.toNat = 0
        omega
      refine ⟨s, f, rfl, h2, ?_⟩
      rw [hz]
      show bV s f = bV s f * 1
      rw [Int.mul_one]
    · rw [if_neg hc]
      have hc2 := q_nleI hc
      have ej := q_clI (i := j) rfl (by omega)
      have hjl := Int32.toInt_lt j
      obtain ⟨t, et⟩ := q_nm (if 13 < j then 13 else j : Int32)
      have ht : t.toInt = (if 13 < j.toInt then 13 else j.toInt) := by
        rw [← et]
        by_cases h9 : 13 < j
        · have := q_ltI h9
          rw [if_pos h9, if_pos (by omega)]
          rfl
        · have := q_nltI h9
          rw [if_neg h9, if_neg (by omega)]
      rw [et]
      have ht2 : 1 ≤ t.toInt ∧ t.toInt ≤ 13 ∧ t.toInt ≤ j.toInt ∧ (t.toInt = 13 ∨ t.toInt = j.toInt) := by
        rw [ht]
        split <;> omega
      have ett := q_clI (i := t) rfl (by omega)
      obtain ⟨m, em⟩ := q_nm t.toNatClampNeg
      rw [em] at ett ⊢
      have hp := v_five ⟨m, by omega⟩
      have hpos := v_t5 m
      obtain ⟨c, ec⟩ := q_nm (Int32.ofNat (5 ^ m))
      rw [show Int32.ofNat (5 ^ (⟨m, by omega⟩ : Fin 14).val) = c from ec] at hp
      rw [ec]
      have hp2 : c.toInt = 5 ^ m := hp
      obtain ⟨J, eJ⟩ := q_nm j.toNatClampNeg
      rw [eJ] at ej h3 ⊢
      obtain ⟨d, hd⟩ : ∃ d, J = m + d := ⟨J - m, by omega⟩
      subst hd
      rw [Int.pow_add] at h3 ⊢
      have vnn := h2.nn
      have hlt : 5 ^ m * bV s f < 2147483648 ^ M := v_grow h3 vnn hpos (v_t5 d)
      have hle : 1 * bV s f ≤ 5 ^ m * bV s f := Int.mul_le_mul_of_nonneg_right (by omega) vnn
      have hsz := h2.sz (n := M) (by omega)
      obtain ⟨z, g, r1, r2, r3, r4, r5⟩ := V_mul (R := R) (x := c) (y := 0) (neg := neg) h2 (by omega) (by decide) (by omega) hR
      rw [r1]
      dsimp only
      have p1 : (j + (-13) : Int32).toInt = j.toInt + (-13) := q_addI (y := -13) rfl (by decide) (by omega) (by omega)
      obtain ⟨j', ej'⟩ := q_nm (j + (-13) : Int32)
      rw [ej'] at p1 ⊢
      have hd2 : j'.toNatClampNeg = d := by
        show j'.toInt.toNat = d
        omega
      rw [e0, Int.add_zero, hp2] at r5
      obtain ⟨z', g', w1, w2, w3⟩ := ih j' z g (by omega) (by omega) r4 (by
        rw [r5, hd2]
        have e : 5 ^ m * bV s f * 5 ^ d = bV s f * (5 ^ m * 5 ^ d) := by ac_rfl
        rw [e]
        exact h3)
      refine ⟨z', g', w1, w2, ?_⟩
      rw [w3, r5, hd2]
      ac_rfl
theorem V_five {R x s neg : Int32} {f : Nat → Int32} {M : Nat} (h : bN s f) (hR : R.toInt ≤ 220) (hM : (M : Int) < R.toInt) (hv : bV s f * 5 ^ x.toNatClampNeg < 2147483648 ^ M) :
    ∃ (z : Int32) (g : Nat → Int32), F_Big_timesFive R x s neg f = (z, neg, g) ∧ bN z g ∧ bV z g = bV s f * 5 ^ x.toNatClampNeg := by
  unfold F_Big_timesFive
  exact V_fiveL hR hM _ x s f (by omega) (by omega) h hv
