/-! bits of integers, mixed -/
def sTb (v : Int) (n : Nat) : Bool := decide (v / 2 ^ n % 2 = 1)
theorem sTb_inj {u v : Int} (h : ∀ n, sTb u n = sTb v n) : u = v := by
  apply sBit_inj
  intro n
  have h1 := decide_eq_decide.mp (h n)
  unfold sBit
  have a := Int.emod_nonneg (u / 2 ^ n) (b := 2) (by decide)
  have b := Int.emod_lt_of_pos (u / 2 ^ n) (b := 2) (by decide)
  have c := Int.emod_nonneg (v / 2 ^ n) (b := 2) (by decide)
  have d := Int.emod_lt_of_pos (v / 2 ^ n) (b := 2) (by decide)
  generalize u / 2 ^ n % 2 = x at *
  generalize v / 2 ^ n % 2 = y at *
  omega
def opB (h : Nat) (p q : Bool) : Bool := if h = 0 then p && q else if h = 1 then p || q else if h = 2 then xor p q else p && !q
def opN (h x y : Nat) : Nat := if h = 0 then x &&& y else if h = 1 then x ||| y else if h = 2 then x ^^^ y else x &&& (x ^^^ y)
theorem opN_tb {h x y j : Nat} : (opN h x y).testBit j = opB h (x.testBit j) (y.testBit j) := by
  unfold opN opB
  split
  · exact Nat.testBit_and _ _ _
  · split
    · exact Nat.testBit_or _ _ _
    · split
      · exact Nat.testBit_xor _ _ _
      · rw [Nat.testBit_and, Nat.testBit_xor]
        cases x.testBit j <;> cases y.testBit j <;> rfl
theorem sTb_limb {v : Int} {e k j : Nat} (hj : j < e) : sTb v (e * k + j) = ((v / (2 ^ e) ^ k % 2 ^ e).toNat).testBit j := by
  have he : (0 : Int) < 2 ^ e := Int.pow_pos (by decide)
  have hp : (0 : Int) < 2 ^ j := Int.pow_pos (by decide)
  have hk : (0 : Int) ≤ (2 ^ e) ^ k := Int.le_of_lt (Int.pow_pos he)
  have e1 : v / 2 ^ (e * k + j) = v / (2 ^ e) ^ k / 2 ^ j := by
    rw [Int.pow_add, Int.pow_mul, Int.ediv_ediv_of_nonneg hk]
  unfold sTb
  rw [e1, Nat.testBit_eq_decide_div_mod_eq]
  generalize v / (2 ^ e) ^ k = u
  have w0 := Int.emod_nonneg u (b := 2 ^ e) (by omega)
  have hu := Int.emod_add_mul_ediv u (2 ^ e)
  obtain ⟨w, hw⟩ : ∃ w : Nat, u % 2 ^ e = (w : Int) := ⟨(u % 2 ^ e).toNat, (Int.toNat_of_nonneg w0).symm⟩
  rw [hw, Int.toNat_natCast]
  rw [hw] at hu
  obtain ⟨d, hd⟩ : ∃ d, e = j + (d + 1) := ⟨e - j - 1, by omega⟩
  have e2 : (2 : Int) ^ e = 2 ^ j * (2 * 2 ^ d) := by
    rw [hd, Int.pow_add, Int.pow_succ']
  have e3 : u / 2 ^ j = (w : Int) / 2 ^ j + 2 * (2 ^ d * (u / 2 ^ e)) := by
    have e4 : u = (w : Int) + 2 ^ j * (2 * (2 ^ d * (u / 2 ^ e))) := by
      rw [← Int.mul_assoc 2, ← Int.mul_assoc (2 ^ j), ← e2]
      exact hu.symm
    have e5 := Int.add_mul_ediv_left (w : Int) (2 * (2 ^ d * (u / 2 ^ e))) (show (2 : Int) ^ j ≠ 0 by omega)
    rw [← e4] at e5
    exact e5
  have e6 : (w : Int) / 2 ^ j = ((w / 2 ^ j : Nat) : Int) := by rw [Int.natCast_ediv, Int.natCast_pow]; rfl
  rw [e3, e6]
  apply decide_eq_decide.mpr
  generalize 2 ^ d * (u / 2 ^ e) = z
  generalize w / 2 ^ j = y
  omega
noncomputable def sMix (h : Nat) (a b : Int) : Int := @dite _ (∃ r : Int, ∀ n, sTb r n = opB h (sTb a n) (sTb b n)) (Classical.propDecidable _) (fun h => h.choose) (fun _ => 0)
theorem sMix_eq {h : Nat} {a b r : Int} (hr : ∀ n, sTb r n = opB h (sTb a n) (sTb b n)) : sMix h a b = r := by
  have hex : ∃ r : Int, ∀ n, sTb r n = opB h (sTb a n) (sTb b n) := ⟨r, hr⟩
  unfold sMix
  rw [dif_pos hex]
  exact sTb_inj (fun n => (hex.choose_spec n).trans (hr n).symm)
theorem sMix_limb {e h : Nat} (he : 1 ≤ e) {a b r : Int} (hl : ∀ k, (r / (2 ^ e) ^ k % 2 ^ e).toNat = opN h (a / (2 ^ e) ^ k % 2 ^ e).toNat (b / (2 ^ e) ^ k % 2 ^ e).toNat) : sMix h a b = r := by
  apply sMix_eq
  intro n
  have hn : n = e * (n / e) + n % e := (Nat.div_add_mod n e).symm
  have hj := Nat.mod_lt n (show 0 < e by omega)
  rw [hn, sTb_limb hj, sTb_limb hj, sTb_limb hj, hl, opN_tb]
/-- limb k of L less s times the row's end -/
theorem n_lbLo {L B s : Int} {n k : Nat} (hB : 0 < B) (hk : k < n) : (L - s * B ^ n) / B ^ k % B = L / B ^ k % B := by
  obtain ⟨d, hd⟩ : ∃ d, n = k + (d + 1) := ⟨n - k - 1, by omega⟩
  have hp : B ^ k ≠ 0 := Int.ne_of_gt (Int.pow_pos hB)
  have e1 : L - s * B ^ n = L + B ^ k * (B * (-s * B ^ d)) := by
    rw [hd, Int.pow_add, Int.pow_succ', Int.neg_mul, Int.mul_neg, Int.mul_neg, ← Int.mul_assoc s, Int.mul_comm s, Int.mul_assoc (B ^ k), Int.mul_left_comm s B]
    omega
  rw [e1, Int.add_mul_ediv_left _ _ hp, Int.add_mul_emod_self_left]
theorem n_lbHi {L B s : Int} {n k : Nat} (hB : 1 < B) (h0 : 0 ≤ L) (h1 : L < B ^ n) (hs : s = 0 ∨ s = 1) (hk : n ≤ k) : (L - s * B ^ n) / B ^ k % B = s * (B - 1) := by
  have hle : B ^ n ≤ B ^ k := by
    have e : B ^ k = B ^ n * B ^ (k - n) := by rw [← Int.pow_add, show n + (k - n) = k by omega]
    have hq : 0 < B ^ (k - n) := Int.pow_pos (by omega)
    have hp : 0 < B ^ n := Int.pow_pos (by omega)
    have : B ^ n * 1 ≤ B ^ n * B ^ (k - n) := Int.mul_le_mul_of_nonneg_left (by omega) (by omega)
    omega
  rcases hs with rfl | rfl
  · rw [Int.zero_mul, Int.sub_zero, Int.zero_mul, Int.ediv_eq_zero_of_lt h0 (by omega)]
    rfl
  · have hq : (L - 1 * B ^ n) / B ^ k = -1 := by
      have hp : 0 < B ^ k := by omega
      exact ((Int.ediv_emod_unique (r := L - B ^ n + B ^ k) hp).mpr ⟨by omega, by omega, by omega⟩).1
    rw [hq, Int.one_mul]
    exact ((Int.ediv_emod_unique (a := -1) (q := -1) (show 0 < B by omega)).mpr ⟨by omega, by omega, by omega⟩).2
