/-! values, for whole: what the shortest figures of a float are -/
def yDn (V L : Nat) (ev : Prop) (k : Nat) : Prop := L < V / 10 ^ k * 10 ^ k ∨ (ev ∧ L = V / 10 ^ k * 10 ^ k)
def yUp (V H : Nat) (ev : Prop) (k : Nat) : Prop := (V / 10 ^ k + 1) * 10 ^ k < H ∨ (ev ∧ (V / 10 ^ k + 1) * 10 ^ k = H)
def yMo (V L H : Nat) (ev : Prop) (k : Nat) : Prop := yUp V H ev k ∧ (¬ yDn V L ev k ∨ 10 ^ k < 2 * (V % 10 ^ k) ∨ (2 * (V % 10 ^ k) = 10 ^ k ∧ V / 10 ^ k % 2 = 1))
/-- from the length of two figures on: the first at which the figures so far, or one more, read back -/
def yFst (V L H : Nat) (ev : Prop) (k : Nat) : Prop := ∃ j, 10 ^ j ≤ V ∧ V < 10 ^ (j + 1) ∧ k + 1 ≤ j ∧ (yDn V L ev k ∨ yUp V H ev k) ∧ ∀ i, k < i → i + 1 ≤ j → ¬ (yDn V L ev i ∨ yUp V H ev i)
def yS0 (V L H : Nat) (ev : Prop) (k S : Nat) : Prop := (yMo V L H ev k ∧ S = V / 10 ^ k + 1) ∨ (¬ yMo V L H ev k ∧ S = V / 10 ^ k)
def ySho (V L H : Nat) (ev : Prop) (S q : Nat) : Prop := ∃ k S0 z, yFst V L H ev k ∧ yS0 V L H ev k S0 ∧ S0 = S * 10 ^ z ∧ S % 10 ≠ 0 ∧ q = k + z
theorem y_topU {V i j : Nat} (h1 : 10 ^ i ≤ V) (h2 : V < 10 ^ (i + 1)) (g1 : 10 ^ j ≤ V) (g2 : V < 10 ^ (j + 1)) : i = j := by
  rcases Nat.lt_trichotomy i j with k | k | k
  · exact absurd (Nat.lt_of_le_of_lt (Nat.le_trans (Nat.pow_le_pow_right (by decide) (show i + 1 ≤ j from k)) g1) h2) (Nat.lt_irrefl _)
  · exact k
  · exact absurd (Nat.lt_of_le_of_lt (Nat.le_trans (Nat.pow_le_pow_right (by decide) (show j + 1 ≤ i from k)) h1) g2) (Nat.lt_irrefl _)
theorem yFst_U {V L H k m : Nat} {ev : Prop} (h : yFst V L H ev k) (g : yFst V L H ev m) : k = m := by
  obtain ⟨j, a1, a2, a3, a4, a5⟩ := h
  obtain ⟨i, b1, b2, b3, b4, b5⟩ := g
  have := y_topU a1 a2 b1 b2
  subst this
  rcases Nat.lt_trichotomy k m with q | q | q
  · exact absurd b4 (a5 m q b3)
  · exact q
  · exact absurd a4 (b5 k q a3)
theorem yS0_U {V L H k S T : Nat} {ev : Prop} (h : yS0 V L H ev k S) (g : yS0 V L H ev k T) : S = T := by
  rcases h with ⟨a, rfl⟩ | ⟨a, rfl⟩ <;> rcases g with ⟨b, rfl⟩ | ⟨b, rfl⟩
  · rfl
  · exact absurd a b
  · exact absurd b a
  · rfl
theorem y_st10 {S T y z : Nat} (h : S * 10 ^ y = T * 10 ^ z) (hS : S % 10 ≠ 0) (hT : T % 10 ≠ 0) : S = T ∧ y = z := by
  have key : ∀ {S T : Nat} (d y : Nat), S * 10 ^ y = T * 10 ^ (y + (d + 1)) → S % 10 ≠ 0 → False := by
    intro S T d y e hS
    rw [Nat.pow_add, Nat.mul_comm (10 ^ y), ← Nat.mul_assoc] at e
    have := Nat.eq_of_mul_eq_mul_right (Nat.pow_pos (by decide)) e
    rw [Nat.pow_succ, ← Nat.mul_assoc] at this
    rw [this, Nat.mul_mod_left] at hS
    exact hS rfl
  rcases Nat.lt_trichotomy y z with k | k | k
  · obtain ⟨d, rfl⟩ : ∃ d, z = y + (d + 1) := ⟨z - y - 1, by omega⟩
    exact absurd hS (fun q => key d y h q)
  · subst k
    exact ⟨Nat.eq_of_mul_eq_mul_right (Nat.pow_pos (by decide)) h, rfl⟩
  · obtain ⟨d, rfl⟩ : ∃ d, y = z + (d + 1) := ⟨y - z - 1, by omega⟩
    exact absurd hT (fun q => key d z h.symm q)
theorem ySho_U {V L H S q T r : Nat} {ev : Prop} (h : ySho V L H ev S q) (g : ySho V L H ev T r) : S = T ∧ q = r := by
  obtain ⟨k, A, y, h1, h2, h3, h4, h5⟩ := h
  obtain ⟨m, B, z, g1, g2, g3, g4, g5⟩ := g
  have := yFst_U h1 g1
  subst this
  have := yS0_U h2 g2
  subst this
  rw [h3] at g3
  obtain ⟨e1, e2⟩ := y_st10 g3 h4 g4
  exact ⟨e1, by omega⟩
theorem y_fl1 {V k : Nat} : V / 10 ^ (k + 1) * 10 ^ (k + 1) ≤ V / 10 ^ k * 10 ^ k ∧ (V / 10 ^ k + 1) * 10 ^ k ≤ (V / 10 ^ (k + 1) + 1) * 10 ^ (k + 1) := by
  have e : V / 10 ^ (k + 1) = V / 10 ^ k / 10 := by
    rw [Nat.pow_succ, ← Nat.div_div_eq_div_mul]
  rw [e]
  have hp : 0 < 10 ^ k := Nat.pow_pos (by decide)
  have e2 : 10 ^ (k + 1) = 10 * 10 ^ k := by rw [Nat.pow_succ, Nat.mul_comm]
  rw [e2]
  generalize V / 10 ^ k = t
  constructor
  · rw [← Nat.mul_assoc]
    exact Nat.mul_le_mul_right _ (by omega)
  · rw [← Nat.mul_assoc]
    exact Nat.mul_le_mul_right _ (by omega)
theorem yDn_m {V L k : Nat} {ev : Prop} (h : yDn V L ev (k + 1)) : yDn V L ev k := by
  have f := (y_fl1 (V := V) (k := k)).1
  rcases h with h | ⟨e, h⟩
  · exact Or.inl (Nat.lt_of_lt_of_le h f)
  · rcases Nat.lt_or_ge L (V / 10 ^ k * 10 ^ k) with q | q
    · exact Or.inl q
    · rw [← h] at f
      exact Or.inr ⟨e, Nat.le_antisymm f q⟩
theorem yUp_m {V H k : Nat} {ev : Prop} (h : yUp V H ev (k + 1)) : yUp V H ev k := by
  have f := (y_fl1 (V := V) (k := k)).2
  rcases h with h | ⟨e, h⟩
  · exact Or.inl (Nat.lt_of_le_of_lt f h)
  · rcases Nat.lt_or_ge ((V / 10 ^ k + 1) * 10 ^ k) H with q | q
    · exact Or.inl q
    · rw [h] at f
      exact Or.inr ⟨e, Nat.le_antisymm f q⟩
/-- a float's bounds: V = 4 n Z, half a step up and half a step (or a quarter) down -/
def yBnd (n Z V L H : Nat) (qt : Prop) : Prop := V = 4 * n * Z ∧ H = V + 2 * Z ∧ ((¬ qt ∧ L + 2 * Z = V) ∨ (qt ∧ L + Z = V)) ∧ 0 < n ∧ n < 9007199254740992 ∧ (qt → n ≤ 4503599627370496) ∧ 0 < Z
/-- seventeen figures are enough -/
theorem y_17 {n Z V L H k : Nat} {qt ev : Prop} (h : yBnd n Z V L H qt) (hk : 10 ^ (k + 16) ≤ V) : yDn V L ev k ∨ yUp V H ev k := by
  obtain ⟨h1, h2, h3, h4, h5, h6, h7⟩ := h
  have hp : 0 < 10 ^ k := Nat.pow_pos (by decide)
  have dm := Nat.div_add_mod V (10 ^ k)
  have ml := Nat.mod_lt V hp
  rw [Nat.mul_comm] at dm
  rw [Nat.pow_add] at hk
  unfold yDn yUp
  rw [Nat.add_mul, Nat.one_mul]
  generalize V / 10 ^ k * 10 ^ k = T at dm ⊢
  generalize V % 10 ^ k = r at dm ml
  generalize 10 ^ k = U at hk ml ⊢
  have e16 : (10 : Nat) ^ 16 = 10000000000000000 := rfl
  rw [e16] at hk
  rcases h3 with ⟨_, h3⟩ | ⟨hq, h3⟩
  · have n4 : 4 * n * Z ≤ 36028797018963968 * Z := Nat.mul_le_mul_right _ (by omega)
    by_cases c : r < 2 * Z
    · exact Or.inl (Or.inl (by omega))
    · exact Or.inr (Or.inl (by omega))
  · have n4 : 4 * n * Z ≤ 18014398509481984 * Z := Nat.mul_le_mul_right _ (by have := h6 hq; omega)
    exact Or.inr (Or.inl (by omega))
/-- with twenty figures the figures so far always read back -/
theorem y_20 {n Z V L H k : Nat} {qt ev : Prop} (h : yBnd n Z V L H qt) (hk : 10 ^ (k + 18) ≤ V) : yDn V L ev k := by
  obtain ⟨h1, h2, h3, h4, h5, h6, h7⟩ := h
  have hp : 0 < 10 ^ k := Nat.pow_pos (by decide)
  have dm := Nat.div_add_mod V (10 ^ k)
  have ml := Nat.mod_lt V hp
  rw [Nat.mul_comm] at dm
  rw [Nat.pow_add] at hk
  unfold yDn
  generalize V / 10 ^ k * 10 ^ k = T at dm ⊢
  generalize V % 10 ^ k = r at dm ml
  generalize 10 ^ k = U at hk ml ⊢
  have e18 : (10 : Nat) ^ 18 = 1000000000000000000 := rfl
  rw [e18] at hk
  have n4 : 4 * n * Z ≤ 36028797018963968 * Z := Nat.mul_le_mul_right _ (by omega)
  left
  rcases h3 with ⟨_, h3⟩ | ⟨hq, h3⟩ <;> omega
