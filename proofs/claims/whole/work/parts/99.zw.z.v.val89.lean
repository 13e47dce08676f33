/-! values, for whole: tellWhole -/
theorem sBit_pow {w : Int} {t j : Nat} (hj : j < t) : sBit (2 ^ t * w) j = 0 := by
  unfold sBit
  have hp : (2 : Int) ^ j ≠ 0 := Int.ne_of_gt (Int.pow_pos (by decide))
  obtain ⟨d, rfl⟩ : ∃ d, t = j + (d + 1) := ⟨t - j - 1, by omega⟩
  have e : (2 : Int) ^ (j + (d + 1)) * w = 2 ^ j * (2 * (2 ^ d * w)) := by
    rw [Int.pow_add, Int.pow_succ, Int.mul_assoc, Int.mul_comm (2 ^ d) 2, Int.mul_assoc]
  rw [e, Int.mul_ediv_cancel_left _ hp]
  exact Int.mul_emod_right 2 _
theorem sBit_powT {w : Int} {t : Nat} (hw : w % 2 = 1) : sBit (2 ^ t * w) t = 1 := by
  unfold sBit
  have hp : (2 : Int) ^ t ≠ 0 := Int.ne_of_gt (Int.pow_pos (by decide))
  rw [Int.mul_ediv_cancel_left _ hp, hw]
theorem tLow_none {v : Int} {t : Nat} (h : ∀ j, j < t → sBit v j = 0) : ∀ n : Nat, n ≤ t → tLow v n = -1
  | 0, _ => rfl
  | n + 1, hn => by
    have ih := tLow_none h n (by omega)
    show (if 0 ≤ tLow v n then tLow v n else if sBit v n = 1 then (n : Int) else -1) = -1
    rw [ih, if_neg (by decide), h n (by omega), if_neg (by decide)]
theorem tLow_some {v : Int} {t : Nat} (h : ∀ j, j < t → sBit v j = 0) (h1 : sBit v t = 1) : ∀ n : Nat, t < n → tLow v n = (t : Int)
  | 0, hn => absurd hn (Nat.not_lt_zero _)
  | n + 1, hn => by
    show (if 0 ≤ tLow v n then tLow v n else if sBit v n = 1 then (n : Int) else -1) = (t : Int)
    by_cases c : t = n
    · rw [← c, tLow_none h t (Nat.le_refl _), if_neg (by decide), if_pos h1]
    · rw [tLow_some h h1 n (by omega), if_pos (Int.natCast_nonneg _)]
theorem V_lowT {R s n : Int32} {f : Nat → Int32} {v : Int} (h : bO R s n f v) (hv : v.natAbs < 2 ^ 2048) (h0 : v ≠ 0) : (F_Big_lowestOne R s n f).toInt = tLow v 2048 := by
  obtain ⟨t, k, l1, l2, l3⟩ := W_lowE h h0
  have hn : t < 2048 := by
    apply (Nat.pow_lt_pow_iff_right (a := 2) (by decide)).mp
    refine Nat.lt_of_le_of_lt ?_ hv
    rw [l3]
    exact Nat.le_mul_of_pos_right _ (by omega)
  obtain ⟨w, hw, e⟩ : ∃ w : Int, w % 2 = 1 ∧ v = 2 ^ t * w := by
    have c : ((v.natAbs : Nat) : Int) = 2 ^ t * (2 * k + 1) := by
      rw [l3, Int.natCast_mul, Int.natCast_pow]
      rfl
    rcases Int.natAbs_eq v with e | e
    · exact ⟨2 * k + 1, by omega, e.trans c⟩
    · refine ⟨-(2 * k + 1), by omega, ?_⟩
      rw [Int.mul_neg, ← c]
      exact e
  rw [l1, e, tLow_some (fun j hj => sBit_pow hj) (sBit_powT hw) 2048 hn]
theorem sBit_zero (n : Nat) : sBit 0 n = 0 := by
  unfold sBit
  rw [Int.zero_ediv]
  rfl
theorem V_tellWhole {R x3 s n : Int32} {f : Nat → Int32} {v : Int} (h : bO R s n f v) (hv : v.natAbs < 2 ^ 2048) (h3 : 1 ≤ x3.toInt ∧ x3.toInt ≤ 4) : (F_NH_tellWhole R x3 s n f).toInt = sTell x3 v := by
  unfold F_NH_tellWhole
  rw [if_neg (fun c => by rw [c] at h3; exact absurd h3.1 (by decide)), sTell]
  by_cases c1 : x3 = 1
  · rw [if_pos c1, if_pos c1, Int32.toInt_toInt64]
    unfold F_Big_sign
    by_cases z : s = 0
    · rw [if_pos z, if_pos (h.nil.mp z)]
      rfl
    · have vz : ¬ v = 0 := fun e => z (h.nil.mpr e)
      rw [if_neg z, if_neg vz]
      rcases h.ngB with ⟨n0, vn⟩ | ⟨n1, vn⟩
      · rw [if_pos n0, if_pos (by omega)]
        rfl
      · rw [n1, if_neg (by decide), if_neg (by omega)]
        rfl
  · rw [if_neg c1, if_neg c1]
    by_cases c2 : x3 = 2
    · rw [if_pos c2, if_pos c2, Int32.toInt_toInt64]
      exact V_lengthInBits h hv
    · rw [if_neg c2, if_neg c2]
      by_cases c3 : x3 = 3
      · rw [if_pos c3, if_pos c3, Int32.toInt_toInt64]
        exact V_otherBits h hv
      · rw [if_neg c3, if_neg c3]
        by_cases z : s = 0
        · have e : tLow v 2048 = -1 := by
            rw [h.nil.mp z]
            exact tLow_none (t := 2048) (fun j _ => sBit_zero j) 2048 (Nat.le_refl _)
          rw [if_pos z, e, if_neg (by decide)]
          rfl
        · have vz : v ≠ 0 := fun e => z (h.nil.mpr e)
          have e := V_lowT h hv vz
          obtain ⟨t, k, l1, l2, l3⟩ := W_lowE h vz
          rw [if_neg z, Int32.toInt_toInt64, ← e, if_pos (by rw [l1]; exact Int.natCast_nonneg _)]
theorem V_tellWhole0 {R s n : Int32} {f : Nat → Int32} {v : Int} (h : bO R s n f v) : tLg (F_NH_tellWhole R 0 s n f) v := by
  unfold F_NH_tellWhole
  rw [if_pos rfl]
  exact V_toLong h
