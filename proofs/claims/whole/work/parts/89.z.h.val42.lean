/-! values: the lowest bit -/
theorem v_odd : ∀ (n : Nat), 0 < n → ∃ t m : Nat, n = 2 ^ t * (2 * m + 1) := by
  intro n
  induction n using Nat.strongRecOn with
  | ind n ih =>
    intro h
    by_cases h2 : n % 2 = 1
    · exact ⟨0, n / 2, by rw [Nat.pow_zero, Nat.one_mul]; omega⟩
    · obtain ⟨t, m, e⟩ := ih (n / 2) (by omega) (by omega)
      refine ⟨t + 1, m, ?_⟩
      rw [Nat.pow_succ, Nat.mul_comm (2 ^ t) 2, Nat.mul_assoc, ← e]
      omega
theorem v_tbA (t m i : Nat) : (2 ^ t * (2 * m + 1)).testBit i = (decide (t ≤ i) && (2 * m + 1).testBit (i - t)) := Nat.testBit_two_pow_mul
theorem v_tbB (t m i : Nat) : (2 ^ t * (2 * m + 1) - 1).testBit i = (decide (i < t) || (decide (t < i) && (2 * m).testBit (i - t))) := by
  have hp : 0 < 2 ^ t := Nat.pow_pos (by decide)
  have e : 2 ^ t * (2 * m + 1) - 1 = 2 ^ t * (2 * m) + (2 ^ t - 1) := by
    rw [Nat.mul_add, Nat.mul_one]
    omega
  rw [e, Nat.testBit_two_pow_mul_add _ (by omega)]
  by_cases h : i < t
  · rw [if_pos h, Nat.testBit_two_pow_sub_one]
    simp [h]
  · rw [if_neg h]
    by_cases h2 : t < i
    · simp [h, h2]
    · have : i = t := by omega
      subst this
      simp [Nat.testBit_zero]
theorem v_lowbit {n t m : Nat} (e : n = 2 ^ t * (2 * m + 1)) (hn : n < 2 ^ 31) : n &&& (2 ^ 32 - n) = 2 ^ t := by
  have hp : 0 < 2 ^ t := Nat.pow_pos (by decide)
  have h0 : 0 < n := by rw [e]; exact Nat.mul_pos hp (by omega)
  have ht : t < 31 := by
    apply (Nat.pow_lt_pow_iff_right (a := 2) (by decide)).mp
    have : 2 ^ t * 1 ≤ 2 ^ t * (2 * m + 1) := Nat.mul_le_mul_left _ (by omega)
    omega
  apply Nat.eq_of_testBit_eq
  intro i
  have e2 : 2 ^ 32 - n = 2 ^ 32 - ((n - 1) + 1) := by omega
  rw [Nat.testBit_and, e2, Nat.testBit_two_pow_sub_succ (by omega), Nat.testBit_two_pow]
  rw [e, v_tbA, v_tbB]
  by_cases h1 : i < t
  · have : ¬ t ≤ i := by omega
    have h3 : ¬ t = i := by omega
    simp [this, h3]
  · by_cases h2 : t = i
    · subst h2
      have h4 : t < 32 := by omega
      simp [h4, Nat.testBit_zero]
    · have h5 : t < i := by omega
      have h6 : ¬ i < t := h1
      obtain ⟨j, hj⟩ : ∃ j, i - t = j + 1 := ⟨i - t - 1, by omega⟩
      rw [hj]
      have k1 : (2 * m + 1).testBit (j + 1) = m.testBit j := by
        rw [Nat.testBit_succ]
        congr 1
        omega
      have k2 : (2 * m).testBit (j + 1) = m.testBit j := by
        rw [Nat.testBit_succ]
        congr 1
        omega
      rw [k1, k2]
      simp [h2, h5, h6]
      intro a b
      simp [b]
