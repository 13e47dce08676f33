/-! values, for whole: the reference's put of a whole -/
theorem w_lshr {x : Int64} {a : Int32} {k : Nat} (ha : a.toInt = (k : Int)) (hk : k < 64) : ((x.toUInt64 >>> (a.toInt64.toUInt64 &&& Int64.toUInt64 63)).toInt64).toBitVec.toNat = x.toBitVec.toNat / 2 ^ k := by
  have t : ∀ i : Fin 64, (((Int32.ofNat i.val).toInt64.toUInt64 &&& Int64.toUInt64 63).toBitVec % 64).toNat = i.val := by decide +kernel
  rw [v_amt ha]
  show (x.toUInt64 >>> ((Int32.ofNat k).toInt64.toUInt64 &&& Int64.toUInt64 63)).toBitVec.toNat = _
  rw [UInt64.toBitVec_shiftRight, BitVec.ushiftRight_eq', BitVec.toNat_ushiftRight, t ⟨k, hk⟩, Nat.shiftRight_eq_div_pow]
  rfl
theorem w_zmod {z : Int64} : z.toInt % 65536 = ((z.toBitVec.toNat % 65536 : Nat) : Int) := by
  have h6 : z.toInt = z.toBitVec.toInt := rfl
  rw [h6, BitVec.toInt_eq_toNat_cond]
  split <;> omega
theorem V_ptL {x2 : Int32} {x3 : Int64} {t0_0 : Int32} {t0_1 : Int32} {t0_2 : Int32} {t0_3 : Int32} {t0_4 : Int32} {t0_5 : Int32} {t0_6 : Int32} {t1_0 : (Nat → Int32)} {t2_0 : (Nat → Int32)} {t3_0 : (Nat → Int32)} {lx30 : Int32} {f49 : (Nat → Int32)} {lx57 : Int32} {lx72 : Int64} {W : Nat → Int} {V : Nat} (hr : wRv t1_0 t2_0 W) (hx2 : 0 ≤ x2.toInt ∧ x2.toInt ≤ 10) (hV : lx72.toBitVec.toNat = V) : ∀ (n : Nat) (lx84 : Int32) (lx85 : (Nat → Int32)), ∀ k : Nat, lx84.toInt = (k : Int) → k ≤ 4 → 4 - k < n → (wK ((V % 65536 ^ k : Nat) : Int) lx85 ∧ ∀ i, k ≤ i → i < 264 → lx85 i = 0) → (F_WR_put_L64 x2 x3 t0_0 t0_1 t0_2 t0_3 t0_4 t0_5 t0_6 t1_0 t2_0 t3_0 lx30 f49 lx57 lx72 n lx84 lx85).1 = lx30 ∧ wRv (F_WR_put_L64 x2 x3 t0_0 t0_1 t0_2 t0_3 t0_4 t0_5 t0_6 t1_0 t2_0 t3_0 lx30 f49 lx57 lx72 n lx84 lx85).2.2.2.2.2.2.2.1 (F_WR_put_L64 x2 x3 t0_0 t0_1 t0_2 t0_3 t0_4 t0_5 t0_6 t1_0 t2_0 t3_0 lx30 f49 lx57 lx72 n lx84 lx85).2.2.2.2.2.2.2.2.1 (updW W x2.toNatClampNeg (sgI lx57 (V : Int))) := by
  have e1 := v_e1
  have e4 : (4 : Int32).toInt = 4 := rfl
  have e16 : (16 : Int32).toInt = 16 := rfl
  have e0 : (0 : Int32).toInt = 0 := rfl
  have hVb : V < 65536 ^ 4 := by
    rw [← hV]
    exact lx72.toBitVec.isLt
  intro n
  induction n with
  | zero => intros; omega
  | succ n ih =>
    intro lx84 lx85 k hk hk4 hkn hh
    obtain ⟨h1, h2⟩ := hh
    rw [F_WR_put_L64.eq_2]
    by_cases c : 4 ≤ lx84
    · rw [if_pos c]
      have c2 := q_leI c
      rw [show k = 4 by omega, Nat.mod_eq_of_lt hVb] at h1
      have hs : wSv x2 W (V : Int) lx30 t0_1 lx57 (F_WR_store x2 lx30 t0_1 t0_2 lx57 t0_4 t0_5 t0_6 t1_0 t2_0 lx85) := (R_storeV hx2 hr h1).2
      generalize (F_WR_store x2 lx30 t0_1 t0_2 lx57 t0_4 t0_5 t0_6 t1_0 t2_0 lx85) = p130 at hs ⊢
      unfold F_WR_put_c98
      have hb : (V : Int) < 65536 ^ 128 := by
        have l1 : (65536 : Int) ^ 4 ≤ 65536 ^ 128 := w_pwle (by omega)
        have l2 : (65536 : Int) ^ 4 = ((65536 ^ 4 : Nat) : Int) := by rw [Int.natCast_pow]; rfl
        rw [l2] at l1
        have := Int.ofNat_lt.mpr hVb
        omega
      obtain ⟨_, f1, f2⟩ := w_fit hs hb
      exact ⟨f1, f2⟩
    · rw [if_neg c]
      have c2 := q_nleI c
      have ix : lx84.toNatClampNeg = k := by
        have := q_clI hk (by omega)
        omega
      have ea : (16 * lx84 : Int32).toInt = ((16 * k : Nat) : Int) := by
        rw [q_mulI e16 hk (by omega) (by omega)]
        omega
      have z1 := w_lshr (x := lx72) ea (by omega)
      have z2 := w_and' (x := (lx72.toUInt64 >>> ((16 * lx84 : Int32).toInt64.toUInt64 &&& Int64.toUInt64 63)).toInt64)
      rw [w_zmod, z1, hV, show (2 : Nat) ^ (16 * k) = 65536 ^ k by rw [Nat.pow_mul]] at z2
      rw [ix]
      generalize (((lx72.toUInt64 >>> ((16 * lx84 : Int32).toInt64.toUInt64 &&& Int64.toUInt64 63)).toInt64) &&& 65535).toInt32 = L at z2 ⊢
      have ej : (lx84 + 1 : Int32).toInt = ((k + 1 : Nat) : Int) := by
        rw [q_addI hk e1 (by omega) (by omega)]
        omega
      have hlb : V / 65536 ^ k % 65536 < 65536 := Nat.mod_lt _ (by decide)
      have ev : wV lx85 264 = ((V % 65536 ^ k : Nat) : Int) := h1.2
      refine ih _ _ (k + 1) ej (by omega) (by omega) ⟨⟨wO_upd h1.1 ⟨by rw [z2]; exact Int.natCast_nonneg _, by rw [z2]; exact Int.ofNat_lt.mpr hlb⟩, ?_⟩, fun i i1 i2 => ?_⟩
      · show wV (upd lx85 k L) 264 = _
        rw [w_upd (by omega), ev, h2 k (by omega) (by omega), e0, Int.sub_zero, z2, Nat.pow_succ, Nat.mod_mul, Nat.mul_comm (65536 ^ k), Int.natCast_add, Int.natCast_mul, Int.natCast_pow]
        rfl
      · rw [v_ne (by omega)]
        exact h2 i (by omega) i2
theorem V_WR_put {x2 : Int32} {x3 : Int64} {t0_0 : Int32} {t0_1 : Int32} {t0_2 : Int32} {t0_3 : Int32} {t0_4 : Int32} {t0_5 : Int32} {t0_6 : Int32} {t1_0 : (Nat → Int32)} {t2_0 : (Nat → Int32)} {t3_0 : (Nat → Int32)} {W : Nat → Int} (hr : wRv t1_0 t2_0 W) (hx2 : 0 ≤ x2.toInt ∧ x2.toInt ≤ 10) : (F_WR_put x2 x3 t0_0 t0_1 t0_2 t0_3 t0_4 t0_5 t0_6 t1_0 t2_0 t3_0).1 = 0 ∧ wRv (F_WR_put x2 x3 t0_0 t0_1 t0_2 t0_3 t0_4 t0_5 t0_6 t1_0 t2_0 t3_0).2.2.2.2.2.2.2.1 (F_WR_put x2 x3 t0_0 t0_1 t0_2 t0_3 t0_4 t0_5 t0_6 t1_0 t2_0 t3_0).2.2.2.2.2.2.2.2.1 (updW W x2.toNatClampNeg x3.toInt) := by
  have e0 : (0 : Int32).toInt = 0 := rfl
  have e0L : (0 : Int64).toInt = 0 := rfl
  have hcl : ∀ i : Nat, (i : Int) < 264 → F_WR_clear 264 t3_0 i = 0 := fun i hi => R_clear (by decide) (by decide) i hi
  have hi6 : x3.toInt = x3.toBitVec.toInt := rfl
  have hlt := x3.toBitVec.isLt
  rw [BitVec.toInt_eq_toNat_cond] at hi6
  unfold F_WR_put
  rw [if_pos (w_no0 hx2)]
  unfold F_WR_put_J13
  rw [if_pos (show (0 : Int32) ≤ 0 by decide)]
  have st : ∀ V : Nat, (wK ((V % 65536 ^ 0 : Nat) : Int) (F_WR_clear 264 t3_0) ∧ ∀ i, 0 ≤ i → i < 264 → F_WR_clear 264 t3_0 i = 0) := fun V => by
    refine ⟨?_, fun i _ hi => hcl i (by omega)⟩
    rw [Nat.pow_zero, Nat.mod_one]
    exact R_clear4
  by_cases c : 0 ≤ lg_cmp x3 0
  · rw [if_pos c]
    have hge : 0 ≤ x3.toInt := by
      rcases q_cm3 x3 0 with ⟨a, b⟩ | ⟨a, b⟩ | ⟨a, b⟩
      · rw [b] at c
        exact absurd c (by decide)
      · omega
      · omega
    unfold F_WR_put_J43
    rw [if_pos rfl]
    unfold F_WR_put_J59
    have r := V_ptL (x3 := x3) (t0_0 := t0_0) (t0_1 := t0_1) (t0_2 := t0_2) (t0_3 := t0_3) (t0_4 := t0_4) (t0_5 := t0_5) (t0_6 := t0_6) (t3_0 := t3_0) (f49 := F_WR_clear 264 t3_0) (lx30 := 0) (lx57 := 0) (lx72 := x3) hr hx2 rfl ((4 - (0 : Int32).toInt).toNat + 1) 0 (F_WR_clear 264 t3_0) 0 e0 (by omega) (by rw [e0]; omega) (st _)
    rw [sgI0, show ((x3.toBitVec.toNat : Nat) : Int) = x3.toInt by split at hi6 <;> omega] at r
    exact r
  · rw [if_neg c]
    have hlt0 : x3.toInt < 0 := by
      rcases q_cm3 x3 0 with ⟨a, b⟩ | ⟨a, b⟩ | ⟨a, b⟩
      · omega
      · rw [b] at c
        exact absurd (by decide) c
      · rw [b] at c
        exact absurd (by decide) c
    unfold F_WR_put_J43
    rw [if_neg (show ¬ (1 : Int32) = 0 by decide)]
    unfold F_WR_put_J59
    have r := V_ptL (x3 := x3) (t0_0 := t0_0) (t0_1 := t0_1) (t0_2 := t0_2) (t0_3 := t0_3) (t0_4 := t0_4) (t0_5 := t0_5) (t0_6 := t0_6) (t3_0 := t3_0) (f49 := F_WR_clear 264 t3_0) (lx30 := 0) (lx57 := 1) (lx72 := -x3) hr hx2 rfl ((4 - (0 : Int32).toInt).toNat + 1) 0 (F_WR_clear 264 t3_0) 0 e0 (by omega) (by rw [e0]; omega) (st _)
    have en : (((-x3).toBitVec.toNat : Nat) : Int) = -x3.toInt := by
      rw [Int64.toBitVec_neg, BitVec.toNat_neg]
      split at hi6 <;> omega
    rw [sgI, if_neg (by decide), en, Int.neg_neg] at r
    exact r
