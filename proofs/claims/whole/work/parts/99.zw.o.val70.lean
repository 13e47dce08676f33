/-! values, for whole: the reference's root, bit by bit -/
theorem w_clrN {j t : Nat} (hj : j < 16) (hx : 2 ^ (j + 1) * t < 2 ^ 32) : (2 ^ (j + 1) * t ||| 2 ^ j) &&& (2 ^ j ^^^ (2 ^ 32 - 1)) = 2 ^ (j + 1) * t := by
  apply Nat.eq_of_testBit_eq
  intro i
  rw [Nat.testBit_and, Nat.testBit_or, Nat.testBit_xor, Nat.testBit_two_pow, Nat.testBit_two_pow_sub_one]
  by_cases h1 : j = i
  · subst h1
    have h3 : j < 32 := by omega
    rw [Nat.testBit_two_pow_mul]
    simp [h3]
    omega
  · by_cases h2 : i < 32
    · simp [h1, h2]
    · have h4 : (2 ^ (j + 1) * t).testBit i = false := Nat.testBit_lt_two_pow (Nat.lt_of_lt_of_le hx (Nat.pow_le_pow_right (by decide) (by omega)))
      simp [h4, h1]
theorem w_1shl {a : Int32} {j : Nat} (ha : a.toInt = (j : Int)) (hj : j < 16) : ((1 : Int32) <<< (a &&& 31)).toBitVec.toNat = 2 ^ j := by
  have h : (2 : Nat) ^ j < 2 ^ 16 := Nat.pow_lt_pow_right (by decide) hj
  rw [v_shlN ha (by omega)]
  show 1 * 2 ^ j % 4294967296 = 2 ^ j
  rw [Nat.one_mul]
  exact Nat.mod_eq_of_lt (by omega)
theorem w_toI {x : Int32} {n : Nat} (h : x.toBitVec.toNat = n) (hn : n < 2147483648) : x.toInt = (n : Int) := by
  have h5 : x.toInt = x.toBitVec.toInt := rfl
  rw [h5, BitVec.toInt_eq_toNat_cond, h, if_pos (by omega)]
theorem w_or1 {x a : Int32} {j t : Nat} (ha : a.toInt = (j : Int)) (hj : j < 16) (hx : x.toInt = ((2 ^ (j + 1) * t : Nat) : Int)) (hx2 : x.toInt < 65536) : (x ||| ((1 : Int32) <<< (a &&& 31))).toBitVec.toNat = 2 ^ (j + 1) * t ||| 2 ^ j ∧ (x ||| ((1 : Int32) <<< (a &&& 31))).toInt = x.toInt + 2 ^ j ∧ x.toInt + 2 ^ j < 65536 := by
  have h1 := v_natI (x := x) (by omega)
  have hn : x.toBitVec.toNat = 2 ^ (j + 1) * t := by omega
  have h2 : (x ||| ((1 : Int32) <<< (a &&& 31))).toBitVec.toNat = 2 ^ (j + 1) * t ||| 2 ^ j := by
    rw [Int32.toBitVec_or, BitVec.toNat_or, w_1shl ha hj, hn]
  have hlt : (2 : Nat) ^ j < 2 ^ (j + 1) := Nat.pow_lt_pow_right (by decide) (by omega)
  have h3 := Nat.two_pow_add_eq_or_of_lt hlt t
  have h4 : 2 ^ (j + 1) * t + 2 ^ j < 65536 := by
    obtain ⟨d, hd⟩ : ∃ d, 16 = (j + 1) + d := ⟨15 - j, by omega⟩
    have e16 : (65536 : Nat) = 2 ^ (j + 1) * 2 ^ d := by rw [← Nat.pow_add, ← hd]
    have ht : t + 1 ≤ 2 ^ d := by
      apply Classical.byContradiction
      intro h9
      have : 2 ^ (j + 1) * 2 ^ d ≤ 2 ^ (j + 1) * t := Nat.mul_le_mul_left _ (by omega)
      omega
    have h5 : 2 ^ (j + 1) * (t + 1) ≤ 2 ^ (j + 1) * 2 ^ d := Nat.mul_le_mul_left _ ht
    rw [Nat.mul_add, Nat.mul_one] at h5
    omega
  have e2 : ((2 ^ j : Nat) : Int) = (2 : Int) ^ j := by rw [Int.natCast_pow]; rfl
  have h6 := w_toI h2 (by rw [← h3]; omega)
  rw [← h3] at h6
  refine ⟨h2, ?_, ?_⟩
  · rw [h6, hx, ← e2]
    omega
  · rw [hx, ← e2]
    omega
theorem w_clr {x y a : Int32} {j t : Nat} (ha : a.toInt = (j : Int)) (hj : j < 16) (hx : x.toInt = ((2 ^ (j + 1) * t : Nat) : Int)) (hx2 : x.toInt < 65536) (hy : y.toBitVec.toNat = 2 ^ (j + 1) * t ||| 2 ^ j) : (y &&& (((1 : Int32) <<< (a &&& 31)) ^^^ (-1)) : Int32) = x := by
  have h1 := v_natI (x := x) (by omega)
  have hn : x.toBitVec.toNat = 2 ^ (j + 1) * t := by omega
  apply Int32.toBitVec_inj.mp
  apply BitVec.eq_of_toNat_eq
  rw [Int32.toBitVec_and, BitVec.toNat_and, Int32.toBitVec_xor, BitVec.toNat_xor, w_1shl ha hj, hy, hn]
  exact w_clrN hj (by omega)
/-- bit b goes into a row in which it and those below are 0 -/
theorem w_bitS {f : Nat → Int32} {b : Int32} {k t : Nat} (hf : wK ((2 ^ (k + 1) * t : Nat) : Int) f) (hb : b.toInt = (k : Int)) (hk : k < 4000) : ∃ x y : Int32, f (b / 16 : Int32).toNatClampNeg = x ∧ (x ||| ((1 : Int32) <<< ((b - b / 16 * 16) &&& 31))) = y ∧ wK ((2 ^ (k + 1) * t + 2 ^ k : Nat) : Int) (upd f (b / 16 : Int32).toNatClampNeg y) ∧ (y &&& (((1 : Int32) <<< ((b - b / 16 * 16) &&& 31)) ^^^ (-1)) : Int32) = x := by
  have e16 : (16 : Int32).toInt = 16 := rfl
  have d1 : (b / 16 : Int32).toInt = ((k / 16 : Nat) : Int) := by
    rw [q_divI hb e16 (by omega) (by omega)]
    omega
  have d2 : (b - b / 16 * 16 : Int32).toInt = ((k % 16 : Nat) : Int) := by
    rw [v_rem (by omega) (by omega), hb, e16]
    omega
  have dc := q_clI d1 (by omega)
  have ei : (b / 16 : Int32).toNatClampNeg = k / 16 := by omega
  have ev : wV f 264 = ((2 ^ (k + 1) * t : Nat) : Int) := hf.2
  have hi : k / 16 < 264 := by omega
  have l1 := w_limD (j := k / 16) hf.1 hi
  have l2 := hf.1 (k / 16) hi
  have ek : 2 ^ (k + 1) = 65536 ^ (k / 16) * 2 ^ (k % 16 + 1) := by
    rw [show (65536 : Nat) = 2 ^ 16 from rfl, ← Nat.pow_mul, ← Nat.pow_add, show 16 * (k / 16) + (k % 16 + 1) = k + 1 by omega]
  have hp : 0 < 65536 ^ (k / 16) := Nat.pow_pos (by decide)
  have l3 : (f (k / 16)).toInt = ((2 ^ (k % 16 + 1) * (t % 2 ^ (15 - k % 16)) : Nat) : Int) := by
    rw [l1, ev]
    have e5 : ((2 ^ (k + 1) * t : Nat) : Int) / 65536 ^ (k / 16) % 65536 = ((2 ^ (k + 1) * t / 65536 ^ (k / 16) % 65536 : Nat) : Int) := by
      rw [Int.natCast_emod, Int.natCast_ediv, Int.natCast_pow]
      rfl
    rw [e5, ek, Nat.mul_assoc, Nat.mul_div_cancel_left _ hp]
    have e6 : (65536 : Nat) = 2 ^ (k % 16 + 1) * 2 ^ (15 - k % 16) := by
      rw [← Nat.pow_add, show k % 16 + 1 + (15 - k % 16) = 16 by omega]
    rw [e6, Nat.mul_mod_mul_left]
  obtain ⟨o1, o2, o3⟩ := w_or1 d2 (by omega) l3 l2.2
  have hc := w_clr d2 (by omega) l3 l2.2 o1
  rw [ei]
  refine ⟨_, _, rfl, rfl, ?_, hc⟩
  generalize (f (k / 16) ||| ((1 : Int32) <<< ((b - b / 16 * 16) &&& 31))) = y at o2
  refine ⟨wO_upd hf.1 ⟨by rw [o2]; have : (0 : Int) < 2 ^ (k % 16) := Int.pow_pos (by decide); omega, by rw [o2]; exact o3⟩, ?_⟩
  show wV (upd f (k / 16) y) 264 = _
  rw [w_upd hi, ev, o2]
  have e7 : (f (k / 16)).toInt + 2 ^ (k % 16) - (f (k / 16)).toInt = 2 ^ (k % 16) := by omega
  have e8 : (2 : Nat) ^ k = 2 ^ (k % 16) * 65536 ^ (k / 16) := by
    rw [show (65536 : Nat) = 2 ^ 16 from rfl, ← Nat.pow_mul, ← Nat.pow_add, show k % 16 + 16 * (k / 16) = k by omega]
  rw [e7, e8, Int.natCast_add, Int.natCast_mul (2 ^ (k % 16)), Int.natCast_pow, Int.natCast_pow]
  rfl
theorem V_rtL {x2 : Int32} {x3 : Int32} {x4 : Int32} {t0_0 : Int32} {t0_1 : Int32} {t0_2 : Int32} {t0_3 : Int32} {t0_4 : Int32} {t0_5 : Int32} {t0_6 : Int32} {t1_0 : (Nat → Int32)} {t2_0 : (Nat → Int32)} {t3_0 : (Nat → Int32)} {t4_0 : (Nat → Int32)} {t5_0 : (Nat → Int32)} {t6_0 : (Nat → Int32)} {lx39 : Int32} {f64 : (Nat → Int32)} {W : Nat → Int} {A N ρ : Nat} (hr : wRv t1_0 t2_0 W) (hx4 : 0 ≤ x4.toInt ∧ x4.toInt ≤ 10) (hn : x3.toInt = ((N + 1 : Nat) : Int)) (hN2 : N + 1 ≤ 64) (hA : wK (A : Int) f64) (hA1 : (A : Int) < 65536 ^ 128) (hρ : nwR N A ρ) (h39 : lx39 = 0) : ∀ (n : Nat) (lx91 : Int32) (lx92 : (Nat → Int32)) (lx93 : (Nat → Int32)) (lx94 : (Nat → Int32)), ∀ i : Nat, lx91.toInt = (i : Int) - 1 → i ≤ 2049 → i < n → (∃ t : Nat, wK ((2 ^ i * t : Nat) : Int) lx92 ∧ (2 ^ i * t) ^ (N + 1) ≤ A ∧ A < (2 ^ i * t + 2 ^ i) ^ (N + 1)) → wAn x4 W (some (ρ : Int)) (F_WR_root_L90 x2 x3 x4 t0_0 t0_1 t0_2 t0_3 t0_4 t0_5 t0_6 t1_0 t2_0 t3_0 t4_0 t5_0 t6_0 lx39 f64 n lx91 lx92 lx93 lx94).1 (F_WR_root_L90 x2 x3 x4 t0_0 t0_1 t0_2 t0_3 t0_4 t0_5 t0_6 t1_0 t2_0 t3_0 t4_0 t5_0 t6_0 lx39 f64 n lx91 lx92 lx93 lx94).2.2.2.2.2.2.2.1 (F_WR_root_L90 x2 x3 x4 t0_0 t0_1 t0_2 t0_3 t0_4 t0_5 t0_6 t1_0 t2_0 t3_0 t4_0 t5_0 t6_0 lx39 f64 n lx91 lx92 lx93 lx94).2.2.2.2.2.2.2.2.1 := by
  have e0 : (0 : Int32).toInt = 0 := rfl
  have small : ∀ q : Nat, q ^ (N + 1) ≤ A → (q : Int) < 65536 ^ 128 := fun q hq => by
    have h1 : q ≤ A := by
      by_cases h0 : q = 0
      · omega
      · have h2 : q ^ 1 ≤ q ^ (N + 1) := Nat.pow_le_pow_right (by omega) (by omega)
        rw [Nat.pow_one] at h2
        omega
    omega
  have p129 : (65536 : Int) ^ 129 ≤ 65536 ^ 130 := w_pwle (by omega)
  have p128 := w_pw 128
  have q128 := w_pos 128
  have e2048 := w_2048
  intro n
  induction n with
  | zero => intros; omega
  | succ n ih =>
    intro lx91 lx92 lx93 lx94 i hi hi2 hin hh
    obtain ⟨t, h1, h2, h3⟩ := hh
    rw [F_WR_root_L90.eq_2]
    by_cases c : lx91 < 0
    · rw [if_pos c]
      have c2 := q_ltI c
      have i0 : i = 0 := by omega
      rw [i0, Nat.pow_zero, Nat.one_mul] at h1 h2 h3
      have eρ := nw_uq h2 h3 hρ.1 hρ.2
      have hs : wSv x4 W (t : Int) lx39 2 0 (F_WR_store x4 lx39 (2 : Int32) t0_2 (0 : Int32) t0_4 t0_5 t0_6 t1_0 t2_0 lx92) := (R_storeV hx4 hr h1).2
      generalize (F_WR_store x4 lx39 (2 : Int32) t0_2 (0 : Int32) t0_4 t0_5 t0_6 t1_0 t2_0 lx92) = p145 at hs ⊢
      unfold F_WR_root_c174
      rw [← eρ]
      exact wAn_st hs h39 rfl sgI0 (by omega)
    · rw [if_neg c]
      have c2 := q_nltI c
      obtain ⟨k, rfl⟩ : ∃ k : Nat, i = k + 1 := ⟨i - 1, by omega⟩
      have ek : lx91.toInt = (k : Int) := by omega
      have kn : k < n := Nat.lt_of_succ_lt_succ hin
      have k2 : k ≤ 2049 := Nat.le_of_succ_le hi2
      have k3 : k ≤ 2048 := Nat.le_of_succ_le_succ hi2
      have ej : (lx91 + (-1) : Int32).toInt = (k : Int) - 1 := by
        rw [q_addI (b := -1) (y := -1) ek (by decide) (by omega) (by omega)]
        omega
      obtain ⟨x, y, bx, bY, bv, bc⟩ := w_bitS h1 ek (Nat.lt_of_le_of_lt k3 (by decide))
      have b1 := small _ h2
      have hQ1 : ((2 ^ (k + 1) * t + 2 ^ k : Nat) : Int) < 65536 ^ 130 := by
        have h5 : (2 : Nat) ^ k ≤ 2 ^ 2048 := Nat.pow_le_pow_right (by decide) k3
        have h6 := Int.ofNat_le.mpr h5
        rw [← e2048] at h6
        rw [Int.natCast_add]
        generalize ((2 ^ (k + 1) * t : Nat) : Int) = u at b1 ⊢
        generalize ((2 ^ k : Nat) : Int) = w at h6 ⊢
        generalize (65536 : Int) ^ 128 = Z at *
        omega
      have hft := V_fits (x2 := x3) (t0_0 := lx39) (t0_1 := 2) (t0_2 := t0_2) (t0_3 := t0_3) (t0_4 := t0_4) (t0_5 := t0_5) (t0_6 := t0_6) (t2_0 := lx93) (t3_0 := lx94) hn (by omega) hN2 bv hQ1 hA hA1
      rw [bx, bY]
      generalize F_WR_fits x3 lx39 2 t0_2 t0_3 t0_4 t0_5 t0_6 (upd lx92 (lx91 / 16 : Int32).toNatClampNeg y) lx93 lx94 f64 = p194 at hft ⊢
      unfold F_WR_root_c125
      have e9 : 2 ^ (k + 1) * t = 2 ^ k * (2 * t) := by rw [Nat.pow_succ, Nat.mul_assoc]
      rcases hft with ⟨f1, f2⟩ | ⟨f1, f2⟩
      · rw [if_neg (by rw [f1]; decide)]
        have e10 : 2 ^ (k + 1) * t + 2 ^ k = 2 ^ k * (2 * t + 1) := by rw [e9, Nat.mul_add, Nat.mul_one]
        refine ih _ _ _ _ k ej k2 kn ⟨2 * t + 1, by rw [← e10]; exact bv, ?_, ?_⟩
        · rw [← e10]
          rw [← Int.natCast_pow] at f2
          exact Int.ofNat_le.mp f2
        · rw [← e10, Nat.add_assoc, ← Nat.mul_two, ← Nat.pow_succ]
          exact h3
      · rw [if_pos f1, v_eq, bc]
        have ebk : wK ((2 ^ (k + 1) * t : Nat) : Int) (upd (upd lx92 (lx91 / 16 : Int32).toNatClampNeg y) (lx91 / 16 : Int32).toNatClampNeg x) := by
          have hfe : upd (upd lx92 (lx91 / 16 : Int32).toNatClampNeg y) (lx91 / 16 : Int32).toNatClampNeg x = lx92 := by
            funext z
            by_cases hz : z = (lx91 / 16 : Int32).toNatClampNeg
            · rw [hz, v_eq, bx]
            · rw [v_ne hz, v_ne hz]
          rw [hfe]
          exact h1
        refine ih _ _ _ _ k ej k2 kn ⟨2 * t, by rw [← e9]; exact ebk, by rw [← e9]; exact h2, ?_⟩
        rw [← e9]
        rw [← Int.natCast_pow] at f2
        exact Int.ofNat_lt.mp f2
