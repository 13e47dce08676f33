/-! an integer is known by its bits -/
/-- bit i of v, in the endless row -/
def sBit (v : Int) (i : Nat) : Int := v / 2 ^ i % 2
theorem sBit_mod (v : Int) (n : Nat) : v % 2 ^ (n + 1) = v % 2 ^ n + 2 ^ n * sBit v n := by
  have hp : (0 : Int) < 2 ^ n := Int.pow_pos (by decide)
  have h1 := Int.emod_add_mul_ediv v (2 ^ n)
  have h2 := Int.emod_add_mul_ediv (v / 2 ^ n) 2
  have h3 := Int.emod_nonneg v (b := 2 ^ n) (by omega)
  have h4 := Int.emod_lt_of_pos v hp
  have e : (2 : Int) ^ (n + 1) = 2 ^ n * 2 := Int.pow_succ _ _
  unfold sBit
  have h5 := Int.emod_nonneg (v / 2 ^ n) (b := 2) (by decide)
  have h6 := Int.emod_lt_of_pos (v / 2 ^ n) (b := 2) (by decide)
  rw [e]
  have h7 : v = (v % 2 ^ n + 2 ^ n * (v / 2 ^ n % 2)) + (v / 2 ^ n / 2) * (2 ^ n * 2) := by
    have h8 : 2 ^ n * (v / 2 ^ n) = 2 ^ n * (v / 2 ^ n % 2) + (v / 2 ^ n / 2) * (2 ^ n * 2) := by
      rw [← h2, Int.mul_add]
      congr 1
      · rw [Int.add_mul_emod_self_left, Int.emod_emod]
      · rw [h2, Int.mul_comm (v / 2 ^ n / 2), Int.mul_assoc]
    omega
  have h9 : (v % 2 ^ n + 2 ^ n * (v / 2 ^ n % 2)) < 2 ^ n * 2 := by
    rcases (by omega : v / 2 ^ n % 2 = 0 ∨ v / 2 ^ n % 2 = 1) with h | h <;> rw [h] <;> omega
  have h10 : 0 ≤ 2 ^ n * (v / 2 ^ n % 2) := Int.mul_nonneg (by omega) h5
  exact ((Int.ediv_emod_unique (a := v) (b := 2 ^ n * 2) (q := v / 2 ^ n / 2) (by omega)).mpr ⟨by rw [Int.mul_comm (2 ^ n * 2)]; exact h7.symm, by omega, h9⟩).2
theorem sBit_mods {u v : Int} (h : ∀ i, sBit u i = sBit v i) : ∀ n : Nat, u % 2 ^ n = v % 2 ^ n
  | 0 => by rw [Int.pow_zero, Int.emod_one, Int.emod_one]
  | n + 1 => by rw [sBit_mod, sBit_mod, sBit_mods h n, h n]
theorem sBit_inj {u v : Int} (h : ∀ i, sBit u i = sBit v i) : u = v := by
  have h1 : u.natAbs < 2 ^ u.natAbs := Nat.lt_two_pow_self
  have h2 : v.natAbs < 2 ^ v.natAbs := Nat.lt_two_pow_self
  have h3 : (2 : Nat) ^ u.natAbs ≤ 2 ^ (u.natAbs + v.natAbs) := Nat.pow_le_pow_right (by decide) (by omega)
  have h4 : (2 : Nat) ^ v.natAbs ≤ 2 ^ (u.natAbs + v.natAbs) := Nat.pow_le_pow_right (by decide) (by omega)
  have h5 := sBit_mods h (u.natAbs + v.natAbs + 1)
  have e : (2 : Int) ^ (u.natAbs + v.natAbs + 1) = ((2 ^ (u.natAbs + v.natAbs) : Nat) : Int) * 2 := by
    rw [Int.pow_succ, Int.natCast_pow]
    rfl
  rw [e] at h5
  generalize 2 ^ (u.natAbs + v.natAbs) = P at *
  have h6 := Int.emod_add_mul_ediv u ((P : Int) * 2)
  have h7 := Int.emod_add_mul_ediv v ((P : Int) * 2)
  have h8 : u - v = (P : Int) * 2 * (u / ((P : Int) * 2) - v / ((P : Int) * 2)) := by
    rw [Int.mul_sub]
    omega
  generalize u / ((P : Int) * 2) - v / ((P : Int) * 2) = q at h8
  have hP : 0 < (P : Int) := by omega
  rcases Int.lt_trichotomy q 0 with hq | hq | hq
  · have : (P : Int) * 2 * q ≤ (P : Int) * 2 * (-1) := Int.mul_le_mul_of_nonneg_left (by omega) (by omega)
    omega
  · rw [hq] at h8
    omega
  · have : (P : Int) * 2 * 1 ≤ (P : Int) * 2 * q := Int.mul_le_mul_of_nonneg_left (by omega) (by omega)
    omega
