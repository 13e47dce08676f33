/-! Newton's root, over Nat -/
theorem n_amgm (s x : Int) (hs : 0 ≤ s) (hx : 0 ≤ x) : ∀ n : Nat, ((n : Int) + 1) * (s * x ^ n) ≤ s ^ (n + 1) + (n : Int) * x ^ (n + 1)
  | 0 => by
    rw [Int.pow_zero, Int.pow_succ, Int.pow_zero]
    omega
  | n + 1 => by
    have ih := n_amgm s x hs hx n
    have e1 : x ^ (n + 1) = x ^ n * x := Int.pow_succ _ _
    have e2 : x ^ (n + 1 + 1) = x ^ n * x * x := by rw [Int.pow_succ, Int.pow_succ]
    have e3 : s ^ (n + 1 + 1) = s ^ (n + 1) * s := Int.pow_succ _ _
    rw [e1] at ih
    rw [e2, e3, e1]
    have hp : 0 ≤ x ^ n := Int.pow_nonneg hx
    generalize x ^ n = p at ih hp
    generalize s ^ (n + 1) = q at ih
    have c : ((n + 1 : Nat) : Int) = (n : Int) + 1 := rfl
    rw [c]
    generalize hm : (n : Int) = m at ih
    have hm0 : 0 ≤ m := by omega
    have h1 := Int.mul_le_mul_of_nonneg_right ih hs
    have h2 : 0 ≤ (m + 1) * p * ((s - x) * (s - x)) := Int.mul_nonneg (Int.mul_nonneg (by omega) hp) (v_sq0 (s - x))
    simp only [Int.add_mul, Int.mul_add, Int.sub_mul, Int.mul_sub, Int.one_mul, Int.mul_one, Int.mul_assoc, Int.mul_comm, Int.mul_left_comm] at h1 h2 ⊢
    omega
/-- the next step from x -/
def nwY (n a x : Nat) : Nat := (n * x + a / x ^ n) / (n + 1)
theorem nw_lo {n a x s : Nat} (hx : 1 ≤ x) (hs : s ^ (n + 1) ≤ a) : s ≤ nwY n a x := by
  have hp : 0 < x ^ n := Nat.pow_pos (by omega)
  have h := n_amgm (s : Int) (x : Int) (by omega) (by omega) n
  have h2 : (n + 1) * (s * x ^ n) ≤ s ^ (n + 1) + n * x ^ (n + 1) := by
    apply Int.ofNat_le.mp
    rw [Int.natCast_add, Int.natCast_mul, Int.natCast_mul, Int.natCast_mul, Int.natCast_pow, Int.natCast_pow, Int.natCast_pow]
    exact h
  unfold nwY
  rw [Nat.le_div_iff_mul_le (by omega)]
  have h3 : s * (n + 1) - n * x ≤ a / x ^ n := by
    rw [Nat.le_div_iff_mul_le hp, Nat.sub_mul]
    have e1 : n * x * x ^ n = n * x ^ (n + 1) := by rw [Nat.pow_succ, Nat.mul_assoc, Nat.mul_comm x]
    have e2 : s * (n + 1) * x ^ n = (n + 1) * (s * x ^ n) := by rw [Nat.mul_comm s, Nat.mul_assoc]
    rw [e1, e2]
    omega
  omega
theorem nw_stop {n a x : Nat} (hx : 1 ≤ x) (h : x ≤ nwY n a x) : x ^ (n + 1) ≤ a := by
  have hp : 0 < x ^ n := Nat.pow_pos (by omega)
  unfold nwY at h
  rw [Nat.le_div_iff_mul_le (by omega)] at h
  have e : x * (n + 1) = n * x + x := by rw [Nat.mul_add, Nat.mul_one, Nat.mul_comm]
  have h2 : x ≤ a / x ^ n := by omega
  rw [Nat.le_div_iff_mul_le hp] at h2
  rw [Nat.pow_succ, Nat.mul_comm]
  exact h2
theorem nw_dec {n a x r : Nat} (ha : a < (r + 1) ^ (n + 1)) (hx : r < x) : (n + 1) * nwY n a x ≤ n * x + r := by
  have hp : 0 < x ^ n := Nat.pow_pos (by omega)
  have h1 : (r + 1) ^ n ≤ x ^ n := Nat.pow_le_pow_left hx n
  have h2 : a / x ^ n < r + 1 := by
    apply Nat.div_lt_of_lt_mul
    rw [Nat.pow_succ] at ha
    exact Nat.lt_of_lt_of_le ha (Nat.mul_le_mul_right _ h1)
  have h3 := Nat.div_mul_le_self (n * x + a / x ^ n) (n + 1)
  unfold nwY
  rw [Nat.mul_comm]
  omega
theorem nw_half (n : Nat) : 2 * n ^ (n + 1) ≤ (n + 1) ^ (n + 1) := by
  have h := n_amgm ((n : Int) + 1) (n : Int) (by omega) (by omega) n
  have h2 : (n + 1) * ((n + 1) * n ^ n) ≤ (n + 1) ^ (n + 1) + n * n ^ (n + 1) := by
    apply Int.ofNat_le.mp
    rw [Int.natCast_add, Int.natCast_mul, Int.natCast_mul, Int.natCast_mul, Int.natCast_pow, Int.natCast_pow, Int.natCast_pow]
    exact h
  have e : n ^ (n + 1) = n * n ^ n := by rw [Nat.pow_succ, Nat.mul_comm]
  have e2 : (n + 1) * ((n + 1) * n ^ n) = n * (n * n ^ n) + 2 * (n * n ^ n) + n ^ n := by
    rw [← Nat.mul_assoc, show (n + 1) * (n + 1) = n * n + 2 * n + 1 by rw [Nat.add_mul, Nat.mul_add]; omega, Nat.add_mul, Nat.add_mul, Nat.one_mul, Nat.mul_assoc, Nat.mul_assoc]
  rw [e2, e] at h2
  rw [e]
  omega
/-- how far the steps still are: k halvings, j of the n + 1 steps of one are done -/
def nwM (n d k j : Nat) : Prop := j ≤ n ∧ d * (n + 1) ^ j < 2 ^ k * n ^ j
def nwS (n d m : Nat) : Prop := ∃ k j, nwM n d k j ∧ m + j = (n + 1) * k
theorem nwS.step {n d d' m : Nat} (h : nwS n d m) (hn : 1 ≤ n) (h1 : 1 ≤ d) (hd : (n + 1) * d' ≤ n * d) : ∃ m', m = m' + 1 ∧ nwS n d' m' := by
  obtain ⟨k, j, ⟨hj, hl⟩, hm⟩ := h
  have hk : 1 ≤ k := by
    apply Classical.byContradiction
    intro hk0
    have k0 : k = 0 := by omega
    rw [k0, Nat.pow_zero, Nat.one_mul] at hl
    have a1 : n ^ j ≤ (n + 1) ^ j := Nat.pow_le_pow_left (by omega) j
    have a2 : 1 * (n + 1) ^ j ≤ d * (n + 1) ^ j := Nat.mul_le_mul_right _ h1
    omega
  have key : d' * (n + 1) ^ (j + 1) < 2 ^ k * n ^ (j + 1) := by
    have a1 : d' * (n + 1) ^ (j + 1) = ((n + 1) * d') * (n + 1) ^ j := by rw [Nat.pow_succ, Nat.mul_comm ((n + 1) ^ j), ← Nat.mul_assoc, Nat.mul_comm d']
    have a2 : 2 ^ k * n ^ (j + 1) = n * (2 ^ k * n ^ j) := by rw [Nat.pow_succ, ← Nat.mul_assoc, Nat.mul_comm]
    rw [a1, a2]
    have a3 := Nat.mul_le_mul_right ((n + 1) ^ j) hd
    have a4 : n * (d * (n + 1) ^ j) < n * (2 ^ k * n ^ j) := Nat.mul_lt_mul_of_pos_left hl (by omega)
    rw [Nat.mul_assoc n d] at a3
    omega
  by_cases hjn : j < n
  · refine ⟨m - 1, ?_, k, j + 1, ⟨by omega, key⟩, ?_⟩
    · have : (n + 1) * 1 ≤ (n + 1) * k := Nat.mul_le_mul_left _ hk
      omega
    · have : (n + 1) * 1 ≤ (n + 1) * k := Nat.mul_le_mul_left _ hk
      omega
  · have jn : j = n := by omega
    subst jn
    obtain ⟨k', rfl⟩ : ∃ k', k = k' + 1 := ⟨k - 1, by omega⟩
    have a5 := nw_half j
    have a6 : d' < 2 ^ k' := by
      have a7 : 2 ^ (k' + 1) * j ^ (j + 1) ≤ 2 ^ k' * (j + 1) ^ (j + 1) := by
        rw [Nat.pow_succ, Nat.mul_assoc]
        exact Nat.mul_le_mul_left _ a5
      have a8 : d' * (j + 1) ^ (j + 1) < 2 ^ k' * (j + 1) ^ (j + 1) := by omega
      exact Nat.lt_of_mul_lt_mul_right a8
    refine ⟨(j + 1) * k', ?_, k', 0, ⟨by omega, ?_⟩, by omega⟩
    · rw [Nat.mul_add, Nat.mul_one] at hm
      omega
    · rw [Nat.pow_zero, Nat.pow_zero, Nat.mul_one, Nat.mul_one]
      exact a6
theorem nwS.ini {n d K : Nat} (h : d < 2 ^ K) : nwS n d ((n + 1) * K) := ⟨K, 0, ⟨by omega, by rw [Nat.pow_zero, Nat.pow_zero, Nat.mul_one, Nat.mul_one]; exact h⟩, by omega⟩
theorem nw_ex (n : Nat) : ∀ a : Nat, ∃ r, r ^ (n + 1) ≤ a ∧ a < (r + 1) ^ (n + 1)
  | 0 => ⟨0, by rw [Nat.pow_succ, Nat.mul_zero]; exact Nat.le_refl 0, Nat.pow_pos (by omega)⟩
  | a + 1 => by
    obtain ⟨r, h1, h2⟩ := nw_ex n a
    by_cases h : (r + 1) ^ (n + 1) ≤ a + 1
    · refine ⟨r + 1, h, ?_⟩
      have := Nat.pow_lt_pow_left (a := r + 1) (b := r + 1 + 1) (by omega) (n := n + 1) (by omega)
      omega
    · exact ⟨r, by omega, by omega⟩
theorem nw_uq {n a r s : Nat} (h1 : r ^ (n + 1) ≤ a) (h2 : a < (r + 1) ^ (n + 1)) (h3 : s ^ (n + 1) ≤ a) (h4 : a < (s + 1) ^ (n + 1)) : r = s := by
  have l1 : ∀ u w : Nat, u < w → (u + 1) ^ (n + 1) ≤ w ^ (n + 1) := fun u w h => Nat.pow_le_pow_left h _
  rcases Nat.lt_trichotomy r s with h | h | h
  · have := l1 r s h
    omega
  · exact h
  · have := l1 s r h
    omega
