/-! values, for whole: the reference's shift to the left -/
theorem w_shJ {x : Int32} {k : Int32} {j : Nat} (hx : 0 ≤ x.toInt ∧ x.toInt < 65536) (hk : (k - k / 16 * 16 : Int32).toInt = (j : Int)) (hj : j < 16) : ((x.toInt64) <<< ((k - k / 16 * 16 : Int32).toInt64 &&& 63)).toInt = x.toInt * 2 ^ j := by
  have t : ∀ i : Fin 16, ((Int32.ofNat i.val).toInt64 &&& 63).toBitVec.smod 64 = BitVec.ofNat 64 i.val := by decide +kernel
  rw [v_amt hk]
  have hp : 2 ^ j < 2 ^ 16 := Nat.pow_lt_pow_right (by decide) hj
  have e1 : x.toInt64.toInt = x.toInt := Int32.toInt_toInt64 x
  have e2 : x.toInt64.toBitVec.toNat = x.toInt.toNat := by
    have h1 : x.toInt64.toInt = x.toInt64.toBitVec.toInt := rfl
    rw [BitVec.toInt_eq_toNat_cond, e1] at h1
    have h2 := x.toInt64.toBitVec.isLt
    split at h1 <;> omega
  have hb : x.toInt.toNat * 2 ^ j < 65536 * 65536 := Nat.lt_of_le_of_lt (Nat.mul_le_mul_left _ (Nat.le_of_lt hp)) (Nat.mul_lt_mul_of_pos_right (by omega) (by decide))
  have h3 : ((x.toInt64) <<< ((Int32.ofNat j).toInt64 &&& 63)).toBitVec.toNat = x.toInt.toNat * 2 ^ j := by
    rw [Int64.toBitVec_shiftLeft, t ⟨j, hj⟩, BitVec.shiftLeft_eq', BitVec.toNat_shiftLeft, Nat.shiftLeft_eq, BitVec.toNat_ofNat, Nat.mod_eq_of_lt (show j < 2 ^ 64 by omega), e2, Nat.mod_eq_of_lt (by omega)]
  have h4 : ((x.toInt64) <<< ((Int32.ofNat j).toInt64 &&& 63)).toInt = ((x.toInt64) <<< ((Int32.ofNat j).toInt64 &&& 63)).toBitVec.toInt := rfl
  rw [h4, BitVec.toInt_eq_toNat_cond, h3, if_pos (by omega), Int.natCast_mul, Int.natCast_pow, Int.toNat_of_nonneg hx.1]
  rfl
theorem w_orLo {y z : Int32} {j a : Nat} (hj : j < 16) (hy : 0 ≤ y.toInt ∧ y.toInt < 2 ^ j) (hz : z.toInt = ((2 ^ j * a : Nat) : Int)) (hz2 : z.toInt < 65536) : (y ||| z).toInt = y.toInt + z.toInt ∧ y.toInt + z.toInt < 65536 := by
  have e2 : (2 : Int) ^ j = ((2 ^ j : Nat) : Int) := by rw [Int.natCast_pow]; rfl
  rw [e2] at hy
  have h1 := v_natI (x := y) hy.1
  have h2 := v_natI (x := z) (by omega)
  have hn : z.toBitVec.toNat = 2 ^ j * a := by omega
  have h3 : y.toBitVec.toNat < 2 ^ j := by omega
  have h4 := Nat.two_pow_add_eq_or_of_lt h3 a
  have h5 : (y ||| z).toBitVec.toNat = 2 ^ j * a + y.toBitVec.toNat := by
    rw [Int32.toBitVec_or, BitVec.toNat_or, hn, Nat.or_comm, h4]
  have h6 : 2 ^ j * a + 2 ^ j ≤ 65536 := by
    obtain ⟨d, hd⟩ : ∃ d, 16 = j + d := ⟨16 - j, by omega⟩
    have e16 : (65536 : Nat) = 2 ^ j * 2 ^ d := by rw [← Nat.pow_add, ← hd]
    have ht : a + 1 ≤ 2 ^ d := by
      apply Classical.byContradiction
      intro h9
      have : 2 ^ j * 2 ^ d ≤ 2 ^ j * a := Nat.mul_le_mul_left _ (by omega)
      omega
    have h5 : 2 ^ j * (a + 1) ≤ 2 ^ j * 2 ^ d := Nat.mul_le_mul_left _ ht
    rw [Nat.mul_add, Nat.mul_one] at h5
    omega
  have h7 := w_toI h5 (by omega)
  omega
/-- one limb's turn -/
theorem w_slId {A F P J lo hi g x : Int} (h1 : lo + 65536 * hi = F * J) (h2 : x = g + lo) : A * (J * P) + (x - g) * P + (hi - 0) * (P * 65536) = (A + F) * (J * P) := by
  subst h2
  have e : (g + lo - g) * P + (hi - 0) * (P * 65536) = (lo + 65536 * hi) * P := by
    rw [Int.sub_zero, Int.add_mul lo, Int.mul_comm P 65536, ← Int.mul_assoc hi, Int.mul_comm hi 65536]
    congr 1
    congr 1
    omega
  rw [Int.add_assoc, e, h1, Int.add_mul, Int.mul_assoc F J P]
theorem w_slI2 {V M J C Q P F lo hi g x : Int} (hM : M = J * C) (hP : P = Q * C) (h1 : lo + 65536 * hi = F * J) (h2 : x = g + lo) : V * M + (x - g) * P + (hi - 0) * (P * 65536) = (V + F * Q) * M := by
  have e : (x - g) * P + (hi - 0) * (P * 65536) = (lo + 65536 * hi) * P := by
    rw [Int.sub_zero, Int.add_mul lo, Int.mul_comm P 65536, ← Int.mul_assoc hi, Int.mul_comm hi 65536]
    congr 1
    congr 1
    omega
  rw [Int.add_assoc, e, h1, Int.add_mul, hP, hM, Int.mul_assoc F J, Int.mul_left_comm J Q C, ← Int.mul_assoc F Q]
theorem V_slL {x2 : Int32} {x3 : Int32} {x4 : Int32} {t0_0 : Int32} {t0_1 : Int32} {t0_2 : Int32} {t0_3 : Int32} {t0_4 : Int32} {t0_5 : Int32} {t0_6 : Int32} {t1_0 : (Nat → Int32)} {t2_0 : (Nat → Int32)} {t3_0 : (Nat → Int32)} {t4_0 : (Nat → Int32)} {t5_0 : (Nat → Int32)} {lx36 : Int32} {a67 : Int32} {f75 : (Nat → Int32)} {f60 : (Nat → Int32)} {W : Nat → Int} {A : Int} {m : Nat} (hr : wRv t1_0 t2_0 W) (hx4 : 0 ≤ x4.toInt ∧ x4.toInt ≤ 10) (hF : wK A f60) (hA1 : A < 65536 ^ 128) (hx3 : x3.toInt = (m : Int)) (hm : A = 0 ∨ m ≤ 2048) (h36 : lx36 = 0) : ∀ (n : Nat) (lx396 : Int32) (lx397 : (Nat → Int32)), ∀ k : Nat, lx396.toInt = (k : Int) → k ≤ 128 → 128 - k < n → (wO lx397 264 ∧ wV lx397 264 = wV f60 k * 2 ^ m ∧ (A ≠ 0 → (∀ i, k + m / 16 < i → i < 264 → lx397 i = 0) ∧ (lx397 (k + m / 16)).toInt < 2 ^ (m % 16))) → wAn x4 W (some (sgI a67 (A * 2 ^ m))) (F_WR_shift_L92 x2 x3 x4 t0_0 t0_1 t0_2 t0_3 t0_4 t0_5 t0_6 t1_0 t2_0 t3_0 t4_0 t5_0 lx36 a67 f75 f60 n lx396 lx397).1 (F_WR_shift_L92 x2 x3 x4 t0_0 t0_1 t0_2 t0_3 t0_4 t0_5 t0_6 t1_0 t2_0 t3_0 t4_0 t5_0 lx36 a67 f75 f60 n lx396 lx397).2.2.2.2.2.2.2.1 (F_WR_shift_L92 x2 x3 x4 t0_0 t0_1 t0_2 t0_3 t0_4 t0_5 t0_6 t1_0 t2_0 t3_0 t4_0 t5_0 lx36 a67 f75 f60 n lx396 lx397).2.2.2.2.2.2.2.2.1 := by
  have e1 := v_e1
  have e16 : (16 : Int32).toInt = 16 := rfl
  have eA : wV f60 264 = A := hF.2
  have A0 := hF.nn
  obtain ⟨s, s1, s2, s3⟩ := w_sz2k hF hA1
  have hz := R_size (N := 264) (f := f60) (by decide)
  have hzc := q_clI (i := F_WR_size 264 f60) s1 (by omega)
  have d1 : (x3 / 16 : Int32).toInt = ((m / 16 : Nat) : Int) := by
    rw [q_divI hx3 e16 (by omega) (by omega)]
    omega
  have d2 : (x3 - x3 / 16 * 16 : Int32).toInt = ((m % 16 : Nat) : Int) := by
    rw [v_rem (by omega) (by omega), hx3, e16]
    omega
  intro n
  induction n with
  | zero => intros; omega
  | succ n ih =>
    intro lx396 lx397 k hk hk2 hkn hh
    obtain ⟨g1, g2, g3⟩ := hh
    rw [F_WR_shift_L92.eq_2]
    by_cases c : F_WR_size 264 f60 ≤ lx396
    · rw [if_pos c]
      have c2 := q_leI c
      have ev : wV f60 k = A := by
        have hv := hz.val
        rw [show (264 : Int32).toNatClampNeg = 264 from rfl, eA] at hv
        rw [hv]
        exact w_zer (by omega) (fun i h1 h2 => hz.2.2.1 i (by omega) (by rw [show (264 : Int32).toInt = 264 from rfl]; omega))
      rw [ev] at g2
      have hp : (0 : Int) < 2 ^ m := Int.pow_pos (by decide)
      have hs : wSv x4 W (A * 2 ^ m) lx36 2 a67 (F_WR_store x4 lx36 (2 : Int32) t0_2 a67 t0_4 t0_5 t0_6 t1_0 t2_0 lx397) := (R_storeV hx4 hr ⟨g1, g2⟩).2
      generalize (F_WR_store x4 lx36 (2 : Int32) t0_2 a67 t0_4 t0_5 t0_6 t1_0 t2_0 lx397) = p451 at hs ⊢
      unfold F_WR_shift_c179
      exact wAn_st hs h36 rfl rfl (Int.mul_nonneg A0 (Int.le_of_lt hp))
    · rw [if_neg c]
      have c2 := q_nleI c
      have hk3 : k < s := by omega
      have hA : A ≠ 0 := fun h9 => by
        have hge := hz.ge hF.1 (by omega)
        rw [show (264 : Int32).toNatClampNeg = 264 from rfl, eA, h9] at hge
        have := w_pos ((F_WR_size 264 f60).toNatClampNeg - 1)
        omega
      have hm2 : m ≤ 2048 := hm.resolve_left hA
      obtain ⟨g4, g5⟩ := g3 hA
      obtain ⟨i1, i2⟩ := w_shI (i := lx396) (x := x3) (by omega) (by omega) (by omega) (by omega)
      have q1 := q_clI i1 (by omega)
      have q2 := q_clI i2 (by omega)
      have q0 := q_clI hk (by omega)
      have ix1 : (lx396 + (x3 / 16) : Int32).toNatClampNeg = k + m / 16 := by omega
      have ix2 : ((lx396 + (x3 / 16)) + 1 : Int32).toNatClampNeg = k + m / 16 + 1 := by omega
      have ix0 : lx396.toNatClampNeg = k := by omega
      rw [ix1, ix2, ix0]
      have hFk := hF.1 k (by omega)
      have hx := w_shJ hFk d2 (by omega)
      have hJ : (2 : Int) ^ (m % 16) = ((2 ^ (m % 16) : Nat) : Int) := by rw [Int.natCast_pow]; rfl
      have hJ2 : 2 ^ (m % 16) ≤ 2 ^ 15 := Nat.pow_le_pow_right (by decide) (by omega)
      have hJ0 : 0 < 2 ^ (m % 16) := Nat.pow_pos (by decide)
      have lo := w_and' (x := ((f60 k).toInt64) <<< ((x3 - x3 / 16 * 16 : Int32).toInt64 &&& 63))
      have hi := w_shr (x := ((f60 k).toInt64) <<< ((x3 - x3 / 16 * 16 : Int32).toInt64 &&& 63))
      rw [hx] at lo hi
      obtain ⟨Fk, hFe⟩ : ∃ Fk : Nat, (f60 k).toInt = (Fk : Int) := ⟨(f60 k).toInt.toNat, by omega⟩
      have eX : (f60 k).toInt * 2 ^ (m % 16) = ((Fk * 2 ^ (m % 16) : Nat) : Int) := by rw [hFe, hJ, Int.natCast_mul]
      have hXb : Fk * 2 ^ (m % 16) < 65536 * 2 ^ (m % 16) := Nat.mul_lt_mul_of_pos_right (by omega) hJ0
      have hlo : ((((f60 k).toInt64) <<< ((x3 - x3 / 16 * 16 : Int32).toInt64 &&& 63) &&& 65535).toInt32).toInt = ((2 ^ (m % 16) * (Fk % 2 ^ (16 - m % 16)) : Nat) : Int) := by
        rw [lo, eX]
        have e6 : (65536 : Nat) = 2 ^ (m % 16) * 2 ^ (16 - m % 16) := by
          rw [← Nat.pow_add, show m % 16 + (16 - m % 16) = 16 by omega]
        have e7 : ((Fk * 2 ^ (m % 16) : Nat) : Int) % 65536 = ((Fk * 2 ^ (m % 16) % 65536 : Nat) : Int) := by rw [Int.natCast_emod]; rfl
        rw [e7, e6, Nat.mul_comm Fk, Nat.mul_mod_mul_left]
      have hlo2 : ((((f60 k).toInt64) <<< ((x3 - x3 / 16 * 16 : Int32).toInt64 &&& 63) &&& 65535).toInt32).toInt < 65536 := by
        rw [lo]
        exact Int.emod_lt_of_pos _ (by decide)
      have hhi : ((((f60 k).toInt64) <<< ((x3 - x3 / 16 * 16 : Int32).toInt64 &&& 63)) >>> ((16 : Int32).toInt64 &&& 63)).toInt32.toInt = (f60 k).toInt * 2 ^ (m % 16) / 65536 := by
        rw [s_l2i (by rw [hi, eX]; omega) (by rw [hi, eX]; omega), hi]
      have hhb : (f60 k).toInt * 2 ^ (m % 16) / 65536 < 2 ^ (m % 16) ∧ 0 ≤ (f60 k).toInt * 2 ^ (m % 16) / 65536 := by
        rw [eX, hJ]
        omega
      have hgb := g1 (k + m / 16) (by omega)
      obtain ⟨o1, o2⟩ := w_orLo (by omega) ⟨hgb.1, g5⟩ hlo hlo2
      have hne : ¬ (k + m / 16 + 1 = k + m / 16) := by omega
      generalize ((((f60 k).toInt64) <<< ((x3 - x3 / 16 * 16 : Int32).toInt64 &&& 63) &&& 65535).toInt32) = L at lo hlo hlo2 o1 o2 ⊢
      generalize ((((f60 k).toInt64) <<< ((x3 - x3 / 16 * 16 : Int32).toInt64 &&& 63)) >>> ((16 : Int32).toInt64 &&& 63)).toInt32 = Hh at hhi ⊢
      have ej : (lx396 + 1 : Int32).toInt = ((k + 1 : Nat) : Int) := by
        rw [q_addI hk e1 (by omega) (by omega)]
        omega
      refine ih _ _ (k + 1) ej (by omega) (by omega) ⟨?_, ?_, fun _ => ⟨fun i h1 h2 => ?_, ?_⟩⟩
      · refine wO_upd (wO_upd g1 ⟨by rw [o1]; have := hlo; omega, by rw [o1]; exact o2⟩) ⟨by rw [hhi]; exact hhb.2, ?_⟩
        rw [hhi, eX]
        omega
      · rw [w_upd (by omega), w_upd (by omega), v_ne hne, g4 (k + m / 16 + 1) (by omega) (by omega), g2, hhi, o1]
        have hb : (L.toInt) + 65536 * ((f60 k).toInt * 2 ^ (m % 16) / 65536) = (f60 k).toInt * 2 ^ (m % 16) := by
          rw [lo]
          exact Int.emod_add_mul_ediv _ _
        have hM : (2 : Int) ^ m = 2 ^ (m % 16) * 65536 ^ (m / 16) := by
          rw [w_p16, ← Int.pow_add, show m % 16 + 16 * (m / 16) = m by omega]
        have hP : (65536 : Int) ^ (k + m / 16) = 65536 ^ k * 65536 ^ (m / 16) := Int.pow_add _ _ _
        have h9 := w_slI2 (V := wV f60 k) hM hP hb (rfl : (lx397 (k + m / 16)).toInt + L.toInt = _)
        rw [Int.pow_succ]
        exact h9
      · rw [v_ne (by omega), v_ne (by omega)]
        exact g4 i (by omega) h2
      · rw [show k + 1 + m / 16 = k + m / 16 + 1 by omega, v_eq, hhi]
        exact hhb.1
