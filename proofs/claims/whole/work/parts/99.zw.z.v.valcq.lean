/-! values, for whole: the class's shortest figures: what is carried from figure to figure -/
/-- t = the figures so far, a / u what is behind them, b / u and c / u the half steps; in units of K = 10 ^ k -/
def yCar (V δ Z u t a b c K : Nat) : Prop := V * u = (t * u + a) * K ∧ a < u ∧ 2 * Z * u = b * K ∧ δ * u = c * K
theorem yCar_t {V δ Z u t a b c K : Nat} (h : yCar V δ Z u t a b c K) (hK : 0 < K) : V / K = t ∧ V % K * u = a * K ∧ V % K < K ∧ V = t * K + V % K := by
  obtain ⟨h1, h2, h3, h4⟩ := h
  have hu : 0 < u := by omega
  have l1 : t * K ≤ V := by
    refine Nat.le_of_mul_le_mul_right (c := u) ?_ hu
    rw [h1]
    have : t * K * u = t * u * K := by grind
    rw [this]
    exact Nat.mul_le_mul_right _ (by omega)
  have l2 : V < (t + 1) * K := by
    refine Nat.lt_of_mul_lt_mul_right (a := u) ?_
    rw [h1]
    have : (t + 1) * K * u = (t * u + u) * K := by grind
    rw [this]
    exact Nat.mul_lt_mul_of_pos_right (by omega) hK
  have q : V / K = t := by
    refine Nat.div_eq_of_lt_le ?_ ?_
    · exact l1
    · exact l2
  have dm := Nat.div_add_mod V K
  rw [q, Nat.mul_comm] at dm
  refine ⟨q, ?_, Nat.mod_lt _ hK, dm.symm⟩
  generalize V % K = r at dm
  have : (t * K + r) * u = (t * u + a) * K := by rw [dm]; exact h1
  have e : (t * K + r) * u = t * u * K + r * u := by grind
  have e2 : (t * u + a) * K = t * u * K + a * K := by grind
  omega
theorem yCar_s {V δ Z u t a b c K : Nat} (h : yCar V δ Z u t a b c (10 * K)) : yCar V δ Z u (10 * t + 10 * a / u) (10 * a % u) (10 * b) (10 * c) K := by
  obtain ⟨h1, h2, h3, h4⟩ := h
  have hu : 0 < u := by omega
  have dm := Nat.div_add_mod (10 * a) u
  refine ⟨?_, Nat.mod_lt _ hu, ?_, ?_⟩
  · rw [h1]
    generalize 10 * a / u = d at dm ⊢
    generalize 10 * a % u = r at dm ⊢
    have : (10 * t + d) * u + r = 10 * (t * u + a) := by grind
    rw [this]
    grind
  · rw [h3]
    grind
  · rw [h4]
    grind
theorem yCar_lo {V L δ Z u t a b c K : Nat} (h : yCar V δ Z u t a b c K) (hK : 0 < K) (hL : L + δ = V) : (L < t * K ↔ a < c) ∧ (L = t * K ↔ a = c) := by
  obtain ⟨q, hr, _, hV⟩ := yCar_t h hK
  obtain ⟨h1, h2, h3, h4⟩ := h
  have hu : 0 < u := by omega
  generalize V % K = r at hr hV
  have k1 : r < δ ↔ a < c := by
    constructor
    · intro k
      have := Nat.mul_lt_mul_of_pos_right k hu
      rw [hr, h4] at this
      exact Nat.lt_of_mul_lt_mul_right this
    · intro k
      have := Nat.mul_lt_mul_of_pos_right k hK
      rw [← hr, ← h4] at this
      exact Nat.lt_of_mul_lt_mul_right this
  have k2 : r = δ ↔ a = c := by
    constructor
    · intro k
      rw [k, h4] at hr
      exact (Nat.eq_of_mul_eq_mul_right hK hr).symm
    · intro k
      rw [k, ← h4] at hr
      exact Nat.eq_of_mul_eq_mul_right hu hr
  constructor
  · rw [← k1]
    omega
  · rw [← k2]
    omega
theorem yCar_hi {V H δ Z u t a b c K : Nat} (h : yCar V δ Z u t a b c K) (hK : 0 < K) (hH : H = V + 2 * Z) : ((t + 1) * K < H ↔ u < a + b) ∧ ((t + 1) * K = H ↔ u = a + b) := by
  obtain ⟨q, hr, hl, hV⟩ := yCar_t h hK
  obtain ⟨h1, h2, h3, h4⟩ := h
  have hu : 0 < u := by omega
  rw [Nat.add_mul, Nat.one_mul]
  generalize V % K = r at hr hV hl
  generalize 2 * Z = Y at h3 hH
  have e : (r + Y) * u = (a + b) * K := by
    rw [Nat.add_mul, Nat.add_mul, hr, h3]
  have k1 : K < r + Y ↔ u < a + b := by
    constructor
    · intro k
      have := Nat.mul_lt_mul_of_pos_right k hu
      rw [e, Nat.mul_comm K] at this
      exact Nat.lt_of_mul_lt_mul_right this
    · intro k
      have := Nat.mul_lt_mul_of_pos_right k hK
      rw [← e, Nat.mul_comm u] at this
      exact Nat.lt_of_mul_lt_mul_right this
  have k2 : K = r + Y ↔ u = a + b := by
    constructor
    · intro k
      rw [← k, Nat.mul_comm K] at e
      exact Nat.eq_of_mul_eq_mul_right hK e
    · intro k
      rw [← k, Nat.mul_comm u] at e
      exact (Nat.eq_of_mul_eq_mul_right hu e).symm
  constructor
  · rw [← k1]
    omega
  · rw [← k2]
    omega
theorem yCar_hf {V δ Z u t a b c K : Nat} (h : yCar V δ Z u t a b c K) (hK : 0 < K) : (K < 2 * (V % K) ↔ u < 2 * a) ∧ (2 * (V % K) = K ↔ 2 * a = u) := by
  obtain ⟨q, hr, hl, hV⟩ := yCar_t h hK
  obtain ⟨h1, h2, h3, h4⟩ := h
  have hu : 0 < u := by omega
  generalize V % K = r at hr hl
  have e : 2 * r * u = 2 * a * K := by
    rw [Nat.mul_assoc, hr, Nat.mul_assoc]
  constructor
  · constructor
    · intro k
      have := Nat.mul_lt_mul_of_pos_right k hu
      rw [e, Nat.mul_comm K] at this
      exact Nat.lt_of_mul_lt_mul_right this
    · intro k
      have := Nat.mul_lt_mul_of_pos_right k hK
      rw [← e, Nat.mul_comm u] at this
      exact Nat.lt_of_mul_lt_mul_right this
  · constructor
    · intro k
      rw [k, Nat.mul_comm K] at e
      exact (Nat.eq_of_mul_eq_mul_right hK e).symm
    · intro k
      rw [k, Nat.mul_comm u] at e
      exact Nat.eq_of_mul_eq_mul_right hu e
theorem yCar_dn {V L δ Z u t a b c k : Nat} {ev : Prop} (h : yCar V δ Z u t a b c (10 ^ k)) (hL : L + δ = V) : yDn V L ev k ↔ (a < c ∨ (ev ∧ a = c)) := by
  have hK : 0 < 10 ^ k := Nat.pow_pos (by decide)
  obtain ⟨l1, l2⟩ := yCar_lo h hK hL
  unfold yDn
  rw [(yCar_t h hK).1, l1, l2]
theorem yCar_up {V H δ Z u t a b c k : Nat} {ev : Prop} (h : yCar V δ Z u t a b c (10 ^ k)) (hH : H = V + 2 * Z) : yUp V H ev k ↔ (u < a + b ∨ (ev ∧ u = a + b)) := by
  have hK : 0 < 10 ^ k := Nat.pow_pos (by decide)
  obtain ⟨l1, l2⟩ := yCar_hi h hK hH
  unfold yUp
  rw [(yCar_t h hK).1, l1, l2]
