/-! values, for whole: lengths and counts of bits -/
theorem sBit_cpl (v : Int) (i : Nat) : sBit (-v - 1) i = 1 - sBit v i := by
  unfold sBit
  have hp : (0 : Int) < 2 ^ i := Int.pow_pos (by decide)
  generalize (2 : Int) ^ i = p at hp ⊢
  have e : (-v - 1) / p = -(v / p) - 1 := by
    have h1 := Int.emod_add_mul_ediv v p
    have h2 := Int.emod_nonneg v (Int.ne_of_gt hp)
    have h3 := Int.emod_lt_of_pos v hp
    have h4 : p * (-(v / p) - 1) = -(p * (v / p)) - p := by rw [Int.mul_sub, Int.mul_neg, Int.mul_one]
    exact ((Int.ediv_emod_unique (r := p - 1 - v % p) hp).mpr ⟨by rw [h4]; omega, by omega, by omega⟩).1
  rw [e]
  generalize v / p = z
  omega
theorem tCnt_cpl (v : Int) : ∀ n : Nat, tCnt v 1 n = tCnt (-v - 1) 0 n
  | 0 => rfl
  | n + 1 => by
    have ih := tCnt_cpl v n
    have c := sBit_cpl v n
    show (if sBit v n = 1 then tCnt v 1 n else tCnt v 1 n + 1) = (if sBit (-v - 1) n = 0 then tCnt (-v - 1) 0 n else tCnt (-v - 1) 0 n + 1)
    rw [ih]
    by_cases h : sBit v n = 1
    · rw [if_pos h, if_pos (by omega)]
    · rw [if_neg h, if_neg (by omega)]
theorem tLen_cpl (v : Int) : ∀ n : Nat, tLen v 1 n = tLen (-v - 1) 0 n
  | 0 => rfl
  | n + 1 => by
    have ih := tLen_cpl v n
    have c := sBit_cpl v n
    show (if sBit v n = 1 then tLen v 1 n else n + 1) = (if sBit (-v - 1) n = 0 then tLen (-v - 1) 0 n else n + 1)
    rw [ih]
    by_cases h : sBit v n = 1
    · rw [if_pos h, if_pos (by omega)]
    · rw [if_neg h, if_neg (by omega)]
theorem sBit_nat (m n : Nat) : sBit (m : Int) n = ((m / 2 ^ n % 2 : Nat) : Int) := by
  unfold sBit
  rw [Int.natCast_emod, Int.natCast_ediv, Int.natCast_pow]
  rfl
theorem tLen_nat : ∀ (n m : Nat), m < 2 ^ n → (tLen (m : Int) 0 n = 0 ∧ m = 0) ∨ (1 ≤ tLen (m : Int) 0 n ∧ 2 ^ (tLen (m : Int) 0 n - 1) ≤ m ∧ m < 2 ^ tLen (m : Int) 0 n)
  | 0, m, h => Or.inl ⟨rfl, by rw [Nat.pow_zero] at h; omega⟩
  | n + 1, m, h => by
    have hp : 0 < 2 ^ n := Nat.pow_pos (by decide)
    have hb := sBit_nat m n
    have hd := Nat.div_add_mod m (2 ^ n)
    have hm := Nat.mod_lt m hp
    have hz : m / 2 ^ n < 2 := Nat.div_lt_of_lt_mul (by rw [← Nat.pow_succ]; exact h)
    by_cases c : sBit (m : Int) n = 0
    · have e : tLen (m : Int) 0 (n + 1) = tLen (m : Int) 0 n := by
        show (if sBit (m : Int) n = 0 then tLen (m : Int) 0 n else n + 1) = _
        rw [if_pos c]
      have z : m / 2 ^ n = 0 := by
        rw [hb] at c
        generalize m / 2 ^ n = y at c hz ⊢
        omega
      rw [z, Nat.mul_zero, Nat.zero_add] at hd
      rw [e]
      exact tLen_nat n m (by omega)
    · have e : tLen (m : Int) 0 (n + 1) = n + 1 := by
        show (if sBit (m : Int) n = 0 then tLen (m : Int) 0 n else n + 1) = _
        rw [if_neg c]
      have z : m / 2 ^ n = 1 := by
        rw [hb] at c
        generalize m / 2 ^ n = y at c hz ⊢
        omega
      rw [z, Nat.mul_one] at hd
      rw [e]
      exact Or.inr ⟨by omega, by rw [Nat.add_sub_cancel]; omega, h⟩
theorem t_pwU {a b m : Nat} (h1 : 2 ^ a ≤ m) (h2 : m < 2 ^ (a + 1)) (h3 : 2 ^ b ≤ m) (h4 : m < 2 ^ (b + 1)) : a = b := by
  have e1 := (Nat.pow_lt_pow_iff_right (a := 2) (by decide)).mp (Nat.lt_of_le_of_lt h1 h4)
  have e2 := (Nat.pow_lt_pow_iff_right (a := 2) (by decide)).mp (Nat.lt_of_le_of_lt h3 h2)
  omega
theorem tLen_eq {n m b : Nat} (h : m < 2 ^ n) (h1 : m < 2 ^ b) (h2 : m ≠ 0 → 1 ≤ b ∧ 2 ^ (b - 1) ≤ m) (h0 : m = 0 → b = 0) : tLen (m : Int) 0 n = b := by
  rcases tLen_nat n m h with ⟨e, z⟩ | ⟨e1, e2, e3⟩
  · rw [e, h0 z]
  · have hm : m ≠ 0 := fun z => by
      rw [z] at e2
      have := Nat.pow_pos (a := 2) (n := tLen (m : Int) 0 n - 1) (by decide)
      rw [z] at this
      omega
    obtain ⟨b1, b2⟩ := h2 hm
    have := t_pwU (a := tLen (m : Int) 0 n - 1) (b := b - 1) e2 (by rw [Nat.sub_add_cancel e1]; exact e3) b2 (by rw [Nat.sub_add_cancel b1]; exact h1)
    omega
/-- how many of the n low bits are 1 -/
def pN : Nat → Nat → Nat
  | 0, _ => 0
  | n + 1, m => pN n m + m / 2 ^ n % 2
theorem tCnt_nat (m : Nat) : ∀ n : Nat, tCnt (m : Int) 0 n = pN n m
  | 0 => rfl
  | n + 1 => by
    have ih := tCnt_nat m n
    have hb := sBit_nat m n
    show (if sBit (m : Int) n = 0 then tCnt (m : Int) 0 n else tCnt (m : Int) 0 n + 1) = pN n m + m / 2 ^ n % 2
    rw [ih]
    by_cases c : sBit (m : Int) n = 0
    · rw [if_pos c]
      omega
    · rw [if_neg c]
      omega
theorem pN_add (a m : Nat) : ∀ b : Nat, pN (a + b) m = pN a m + pN b (m / 2 ^ a)
  | 0 => rfl
  | b + 1 => by
    have ih := pN_add a m b
    show pN (a + b) m + m / 2 ^ (a + b) % 2 = pN a m + (pN b (m / 2 ^ a) + m / 2 ^ a / 2 ^ b % 2)
    rw [ih, Nat.div_div_eq_div_mul, ← Nat.pow_add, Nat.add_assoc]
theorem pN_mod {a m : Nat} : ∀ {n : Nat}, n ≤ a → pN n (m % 2 ^ a) = pN n m
  | 0, _ => rfl
  | n + 1, h => by
    have ih := pN_mod (a := a) (m := m) (n := n) (by omega)
    have t := Nat.testBit_mod_two_pow m a n
    rw [Nat.testBit_eq_decide_div_mod_eq, Nat.testBit_eq_decide_div_mod_eq, decide_eq_true (show n < a by omega), Bool.true_and] at t
    have t2 := decide_eq_decide.mp t
    show pN n (m % 2 ^ a) + m % 2 ^ a / 2 ^ n % 2 = pN n m + m / 2 ^ n % 2
    rw [ih]
    omega
theorem pN_zero : ∀ n : Nat, pN n 0 = 0
  | 0 => rfl
  | n + 1 => by
    show pN n 0 + 0 / 2 ^ n % 2 = 0
    rw [pN_zero n, Nat.zero_div]
theorem pN_top {n m : Nat} (h : m < 2 ^ n) (k : Nat) : pN (n + k) m = pN n m := by
  rw [pN_add, Nat.div_eq_of_lt h, pN_zero, Nat.add_zero]
theorem pN_ones {t : Nat} : ∀ {n : Nat}, n ≤ t → pN n (2 ^ t - 1) = n
  | 0, _ => rfl
  | n + 1, h => by
    have ih := pN_ones (t := t) (n := n) (by omega)
    have q := Nat.testBit_two_pow_sub_one t n
    rw [Nat.testBit_eq_decide_div_mod_eq, decide_eq_true (show n < t by omega)] at q
    have q2 := of_decide_eq_true q
    show pN n (2 ^ t - 1) + (2 ^ t - 1) / 2 ^ n % 2 = n + 1
    rw [ih, q2]
theorem pN_pow {t z n : Nat} : pN (t + n) (2 ^ t * z) = pN n z := by
  have hp : 0 < 2 ^ t := Nat.pow_pos (by decide)
  have e := pN_mod (a := t) (m := 2 ^ t * z) (n := t) (Nat.le_refl _)
  rw [Nat.mul_mod_right, pN_zero] at e
  rw [pN_add, ← e, Nat.mul_div_cancel_left _ hp, Nat.zero_add]
theorem pN_powm {t z n : Nat} : pN (t + n) (2 ^ t * z + (2 ^ t - 1)) = t + pN n z := by
  have hp : 0 < 2 ^ t := Nat.pow_pos (by decide)
  have e := pN_mod (a := t) (m := 2 ^ t * z + (2 ^ t - 1)) (n := t) (Nat.le_refl _)
  rw [Nat.mul_add_mod, Nat.mod_eq_of_lt (show 2 ^ t - 1 < 2 ^ t by omega), pN_ones (Nat.le_refl _)] at e
  rw [pN_add, ← e, Nat.mul_add_div hp, Nat.div_eq_of_lt (show 2 ^ t - 1 < 2 ^ t by omega), Nat.add_zero]
theorem pN_odd {k n : Nat} : pN (1 + n) (2 * k + 1) = 1 + pN n k := by
  rw [pN_add, Nat.pow_one, show (2 * k + 1) / 2 = k by omega]
  show (0 + (2 * k + 1) / 2 ^ 0 % 2) + _ = _
  rw [Nat.pow_zero, Nat.div_one, show (2 * k + 1) % 2 = 1 by omega]
theorem pN_even {k n : Nat} : pN (1 + n) (2 * k) = pN n k := by
  rw [pN_add, Nat.pow_one, show (2 * k) / 2 = k by omega]
  show (0 + (2 * k) / 2 ^ 0 % 2) + _ = _
  rw [Nat.pow_zero, Nat.div_one, show (2 * k) % 2 = 0 by omega, Nat.zero_add]
/-- the number before: its ones out of those of the number -/
theorem pN_pred {A t k n : Nat} (h : A = 2 ^ t * (2 * k + 1)) (hn : t < n) : pN n (A - 1) + 1 = pN n A + t := by
  obtain ⟨c, rfl⟩ : ∃ c, n = t + (1 + c) := ⟨n - t - 1, by omega⟩
  have hp : 0 < 2 ^ t := Nat.pow_pos (by decide)
  have e : A - 1 = 2 ^ t * (2 * k) + (2 ^ t - 1) := by
    rw [h, Nat.mul_add, Nat.mul_one]
    omega
  rw [e, pN_powm, pN_even, h, pN_pow, pN_odd]
  omega
