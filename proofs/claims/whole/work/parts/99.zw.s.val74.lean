/-! values, for whole: the reference's shift to the right -/
theorem w_fbit {b : Int32} {f : Nat → Int32} {v : Int} {k : Nat} (h : wK v f) (hb : b.toInt = (k : Int)) (hk : k < 4000) : ((f (b / 16 : Int32).toNatClampNeg) >>> ((b - b / 16 * 16) &&& 31)).toBitVec.toNat % 2 = (v.natAbs / 2 ^ k) % 2 := by
  have e16 : (16 : Int32).toInt = 16 := rfl
  have d1 : (b / 16 : Int32).toInt = ((k / 16 : Nat) : Int) := by
    rw [q_divI hb e16 (by omega) (by omega)]
    omega
  have d2 : (b - b / 16 * 16 : Int32).toInt = ((k % 16 : Nat) : Int) := by
    rw [v_rem (by omega) (by omega), hb, e16]
    omega
  have dc := q_clI d1 (by omega)
  have ev : wV f 264 = v := h.2
  have l1 := w_limD (j := k / 16) h.1 (by omega)
  rw [ev] at l1
  rw [show (b / 16 : Int32).toNatClampNeg = k / 16 by omega]
  have l3 : (f (k / 16)).toInt = ((v.natAbs / 65536 ^ (k / 16) % 65536 : Nat) : Int) := by
    rw [Int.natCast_emod, Int.natCast_ediv, Int.natAbs_of_nonneg h.nn, Int.natCast_pow]
    exact l1
  have l4 := w_sar (x := f (k / 16)) d2 (by omega)
  have l5 : ((f (k / 16)) >>> ((b - b / 16 * 16) &&& 31)).toInt = ((v.natAbs / 65536 ^ (k / 16) % 65536 / 2 ^ (k % 16) : Nat) : Int) := by
    rw [l4, l3, Int.natCast_ediv _ (2 ^ (k % 16)), Int.natCast_pow]
    rfl
  have l6 := v_natI (x := (f (k / 16)) >>> ((b - b / 16 * 16) &&& 31)) (by rw [l5]; exact Int.natCast_nonneg _)
  have l7 : ((f (k / 16)) >>> ((b - b / 16 * 16) &&& 31)).toBitVec.toNat = v.natAbs / 65536 ^ (k / 16) % 65536 / 2 ^ (k % 16) := Int.ofNat_inj.mp (l6.trans l5)
  rw [l7, w_bitM _ _ (by omega), Nat.div_div_eq_div_mul]
  have e : (65536 : Nat) ^ (k / 16) * 2 ^ (k % 16) = 2 ^ k := by
    rw [show (65536 : Nat) = 2 ^ 16 from rfl, ← Nat.pow_mul, ← Nat.pow_add, show 16 * (k / 16) + k % 16 = k by omega]
  rw [e]
/-- bit p goes into a row that is below 2 ^ p -/
theorem w_bitUp {f : Nat → Int32} {jj a : Int32} {p v bt : Nat} (hf : wK (v : Int) f) (hv : v < 2 ^ p) (hj : jj.toInt = (p : Int)) (hp : p < 4000) (ha : a.toBitVec.toNat = bt) (hbt : bt ≤ 1) : wK ((v + bt * 2 ^ p : Nat) : Int) (upd f (jj / 16 : Int32).toNatClampNeg ((f (jj / 16 : Int32).toNatClampNeg) ||| (a <<< ((jj - jj / 16 * 16) &&& 31)))) := by
  have e16 : (16 : Int32).toInt = 16 := rfl
  have d1 : (jj / 16 : Int32).toInt = ((p / 16 : Nat) : Int) := by
    rw [q_divI hj e16 (by omega) (by omega)]
    omega
  have d2 : (jj - jj / 16 * 16 : Int32).toInt = ((p % 16 : Nat) : Int) := by
    rw [v_rem (by omega) (by omega), hj, e16]
    omega
  have dc := q_clI d1 (by omega)
  have ei : (jj / 16 : Int32).toNatClampNeg = p / 16 := by omega
  have ev : wV f 264 = (v : Int) := hf.2
  have hi : p / 16 < 264 := by omega
  have l1 := w_limD (j := p / 16) hf.1 hi
  have l2 := hf.1 (p / 16) hi
  have ek : (2 : Nat) ^ p = 2 ^ (p % 16) * 65536 ^ (p / 16) := by
    rw [show (65536 : Nat) = 2 ^ 16 from rfl, ← Nat.pow_mul, ← Nat.pow_add, show p % 16 + 16 * (p / 16) = p by omega]
  have hpp : 0 < 65536 ^ (p / 16) := Nat.pow_pos (by decide)
  have l3 : (f (p / 16)).toInt = ((v / 65536 ^ (p / 16) % 65536 : Nat) : Int) := by
    rw [l1, ev, Int.natCast_emod, Int.natCast_ediv, Int.natCast_pow]
    rfl
  have l4 : v / 65536 ^ (p / 16) < 2 ^ (p % 16) := by
    apply (Nat.div_lt_iff_lt_mul hpp).mpr
    rw [← ek]
    exact hv
  have hJ : (2 : Int) ^ (p % 16) = ((2 ^ (p % 16) : Nat) : Int) := by rw [Int.natCast_pow]; rfl
  have hJ2 : 2 ^ (p % 16) ≤ 2 ^ 15 := Nat.pow_le_pow_right (by decide) (by omega)
  have l5 : (f (p / 16)).toInt < 2 ^ (p % 16) := by
    rw [l3, hJ]
    have := Nat.mod_le (v / 65536 ^ (p / 16)) 65536
    omega
  have z1 : (a <<< ((jj - jj / 16 * 16) &&& 31)).toBitVec.toNat = 2 ^ (p % 16) * bt := by
    rw [v_shlN d2 (by omega), ha, Nat.mul_comm]
    have : 2 ^ (p % 16) * bt ≤ 2 ^ (p % 16) * 1 := Nat.mul_le_mul_left _ hbt
    exact Nat.mod_eq_of_lt (by omega)
  have z0 : 2 ^ (p % 16) * bt ≤ 32768 := by
    have : 2 ^ (p % 16) * bt ≤ 2 ^ (p % 16) * 1 := Nat.mul_le_mul_left _ hbt
    omega
  have z2 := w_toI z1 (by omega)
  obtain ⟨o1, o2⟩ := w_orLo (by omega) ⟨l2.1, l5⟩ z2 (by omega)
  rw [ei]
  generalize (a <<< ((jj - jj / 16 * 16) &&& 31)) = Z at z2 o1 o2 ⊢
  refine ⟨wO_upd hf.1 ⟨by rw [o1]; omega, by rw [o1]; exact o2⟩, ?_⟩
  show wV (upd f (p / 16) _) 264 = _
  rw [w_upd hi, ev, o1]
  have e7 : (f (p / 16)).toInt + Z.toInt - (f (p / 16)).toInt = Z.toInt := by omega
  rw [e7, z2, ek, Int.natCast_add, Int.natCast_mul bt, Int.natCast_mul (2 ^ (p % 16)) bt, Int.natCast_mul (2 ^ (p % 16)) (65536 ^ (p / 16)), Int.natCast_pow 65536, Int.mul_comm ((2 ^ (p % 16) : Nat) : Int) (bt : Int), Int.mul_assoc]
  rfl
theorem n_modS (A k : Nat) : A % 2 ^ (k + 1) = A % 2 ^ k + (A / 2 ^ k % 2) * 2 ^ k := by
  rw [Nat.pow_succ, Nat.mod_mul, Nat.mul_comm (2 ^ k)]
theorem n_shS {A k m : Nat} (h : m ≤ k) : A % 2 ^ (k + 1) / 2 ^ m = A % 2 ^ k / 2 ^ m + (A / 2 ^ k % 2) * 2 ^ (k - m) := by
  have hp : 0 < 2 ^ m := Nat.pow_pos (by decide)
  rw [n_modS]
  have e : (A / 2 ^ k % 2) * 2 ^ k = (A / 2 ^ k % 2) * 2 ^ (k - m) * 2 ^ m := by
    rw [Nat.mul_assoc, ← Nat.pow_add, show k - m + m = k by omega]
  rw [e, Nat.add_mul_div_right _ _ hp]
theorem n_shL {A k m : Nat} (h : m ≤ k) : A % 2 ^ k / 2 ^ m < 2 ^ (k - m) := by
  have hp : 0 < 2 ^ m := Nat.pow_pos (by decide)
  apply (Nat.div_lt_iff_lt_mul hp).mpr
  rw [← Nat.pow_add, show k - m + m = k by omega]
  exact Nat.mod_lt _ (Nat.pow_pos (by decide))
theorem n_sh0 {A k m : Nat} (h : k ≤ m) : A % 2 ^ k / 2 ^ m = 0 := by
  apply Nat.div_eq_of_lt
  exact Nat.lt_of_lt_of_le (Nat.mod_lt _ (Nat.pow_pos (by decide))) (Nat.pow_le_pow_right (by decide) h)
/-- some bit below m is 1, of those below k -/
def nSo (A k m : Nat) : Prop := A % 2 ^ (if k ≤ m then k else m) ≠ 0
theorem nSo.lo {A k m : Nat} (h : k < m) : nSo A (k + 1) m ↔ (nSo A k m ∨ A / 2 ^ k % 2 = 1) := by
  unfold nSo
  rw [if_pos (by omega), if_pos (by omega), n_modS]
  have hp : 0 < 2 ^ k := Nat.pow_pos (by decide)
  rcases (by omega : A / 2 ^ k % 2 = 0 ∨ A / 2 ^ k % 2 = 1) with h1 | h1 <;> rw [h1]
  · omega
  · omega
theorem nSo.hi {A k m : Nat} (h : m ≤ k) : nSo A (k + 1) m ↔ nSo A k m := by
  unfold nSo
  rw [if_neg (by omega)]
  by_cases h1 : k ≤ m
  · rw [if_pos h1, show k = m by omega]
  · rw [if_neg h1]
