/-! values, for whole: the reference's bits, its inverse, its powers modulo m -/
theorem w_sar {x a : Int32} {k : Nat} (ha : a.toInt = (k : Int)) (hk : k ≤ 31) : (x >>> (a &&& 31)).toInt = x.toInt / 2 ^ k := by
  show (x >>> (a &&& 31)).toBitVec.toInt = _
  rw [v_amt ha, Int32.toBitVec_shiftRight, t_amt ⟨k, by omega⟩, BitVec.sshiftRight_eq', BitVec.toInt_sshiftRight, Int.shiftRight_eq_div_pow, BitVec.toNat_ofNat, Nat.mod_eq_of_lt (show k < 2 ^ 32 by omega)]
  rfl
theorem w_and1 {z : Int32} : (z &&& 1 : Int32) = 1 ↔ z.toBitVec.toNat % 2 = 1 := by
  have h : (z &&& 1 : Int32).toBitVec.toNat = z.toBitVec.toNat % 2 := by
    rw [Int32.toBitVec_and, BitVec.toNat_and]
    exact Nat.and_one_is_mod _
  constructor
  · intro e
    rw [e] at h
    exact h.symm
  · intro e
    rw [e] at h
    exact Int32.toBitVec_inj.mp (BitVec.eq_of_toNat_eq h)
theorem w_and0 {z : Int32} : (z &&& 1 : Int32) = 0 ↔ z.toBitVec.toNat % 2 = 0 := by
  have h : (z &&& 1 : Int32).toBitVec.toNat = z.toBitVec.toNat % 2 := by
    rw [Int32.toBitVec_and, BitVec.toNat_and]
    exact Nat.and_one_is_mod _
  constructor
  · intro e
    rw [e] at h
    exact h.symm
  · intro e
    rw [e] at h
    exact Int32.toBitVec_inj.mp (BitVec.eq_of_toNat_eq h)
theorem w_split {f : Nat → Int32} {p : Nat} : ∀ {n : Nat}, wV f (p + n) = wV f p + 65536 ^ p * wV (fun i => f (p + i)) n
  | 0 => by
    show wV f p = wV f p + 65536 ^ p * 0
    omega
  | n + 1 => by
    show wV f (p + n) + (f (p + n)).toInt * 65536 ^ (p + n) = wV f p + 65536 ^ p * (wV (fun i => f (p + i)) n + (f (p + n)).toInt * 65536 ^ n)
    rw [w_split, Int.mul_add, Int.pow_add, ← Int.mul_assoc (f (p + n)).toInt, Int.mul_comm (f (p + n)).toInt (65536 ^ p), Int.mul_assoc (65536 ^ p)]
    omega
theorem w_limD {f : Nat → Int32} {s j : Nat} (ok : wO f s) (hj : j < s) : (f j).toInt = wV f s / 65536 ^ j % 65536 := by
  obtain ⟨m, hm⟩ : ∃ m, s = j + (1 + m) := ⟨s - j - 1, by omega⟩
  subst hm
  have h1 := w_split (f := f) (p := j) (n := 1 + m)
  have h2 := w_split (f := fun i => f (j + i)) (p := 1) (n := m)
  have h3 : wV (fun i => f (j + i)) 1 = (f j).toInt := by
    show 0 + (f (j + 0)).toInt * 65536 ^ 0 = _
    rw [Nat.add_zero]
    omega
  have h4 : 0 ≤ wV f j := w_nn (ok.mono (by omega))
  have h5 : wV f j < 65536 ^ j := w_lt (ok.mono (by omega))
  have h6 := ok j (by omega)
  have hp : (65536 : Int) ^ j ≠ 0 := by omega
  rw [h1, Int.add_mul_ediv_left _ _ hp, Int.ediv_eq_zero_of_lt h4 h5, Int.zero_add, h2, h3, Int.pow_one, Int.add_mul_emod_self_left, Int.emod_eq_of_lt h6.1 h6.2]
theorem w_bitM (D r : Nat) (h : r < 16) : (D % 65536 / 2 ^ r) % 2 = (D / 2 ^ r) % 2 := by
  have h1 : (D % 65536).testBit r = D.testBit r := by
    rw [show (65536 : Nat) = 2 ^ 16 from rfl, Nat.testBit_mod_two_pow]
    simp [h]
  rw [Nat.testBit_eq_decide_div_mod_eq, Nat.testBit_eq_decide_div_mod_eq] at h1
  have h2 := decide_eq_decide.mp h1
  omega
/-- bit k of a register's size -/
theorem w_kbit {x b : Int32} {t1_0 : Nat → Int32} {k : Nat} (hx : 0 ≤ x.toInt ∧ x.toInt ≤ 10) (ho : wO t1_0 1408) (hb : b.toInt = (k : Int)) (hk : k < 2048) : ((t1_0 ((128 * x) + (b / 16) : Int32).toNatClampNeg) >>> ((b - b / 16 * 16) &&& 31)).toBitVec.toNat % 2 = ((wVk t1_0 x).natAbs / 2 ^ k) % 2 := by
  have e16 : (16 : Int32).toInt = 16 := rfl
  have hc := q_clI (i := x) rfl hx.1
  have d1 : (b / 16 : Int32).toInt = ((k / 16 : Nat) : Int) := by
    rw [q_divI hb e16 (by omega) (by omega)]
    omega
  have d2 : (b - b / 16 * 16 : Int32).toInt = ((k % 16 : Nat) : Int) := by
    rw [v_rem (by omega) (by omega), hb, e16]
    omega
  have dc := q_clI d1 (by omega)
  have ix := (w_ix (x := x) (k := b / 16) hx (by omega)).2
  have hE := wVk_nn hx ho
  have ok : wO (fun i => t1_0 (128 * x.toNatClampNeg + i)) 128 := fun i hi => ho _ (by omega)
  have l1 := w_limD (j := k / 16) ok (by omega)
  have l2 := ok (k / 16) (by omega)
  rw [ix, show (b / 16 : Int32).toNatClampNeg = k / 16 by omega]
  have l3 : (t1_0 (128 * x.toNatClampNeg + k / 16)).toInt = (((wVk t1_0 x).natAbs / 65536 ^ (k / 16) % 65536 : Nat) : Int) := by
    rw [Int.natCast_emod, Int.natCast_ediv, Int.natAbs_of_nonneg hE.1, Int.natCast_pow]
    exact l1
  have l4 := w_sar (x := t1_0 (128 * x.toNatClampNeg + k / 16)) d2 (by omega)
  have l5 : ((t1_0 (128 * x.toNatClampNeg + k / 16)) >>> ((b - b / 16 * 16) &&& 31)).toInt = (((wVk t1_0 x).natAbs / 65536 ^ (k / 16) % 65536 / 2 ^ (k % 16) : Nat) : Int) := by
    rw [l4, l3, Int.natCast_ediv _ (2 ^ (k % 16)), Int.natCast_pow]
    rfl
  have l6 := v_natI (x := (t1_0 (128 * x.toNatClampNeg + k / 16)) >>> ((b - b / 16 * 16) &&& 31)) (by rw [l5]; exact Int.natCast_nonneg _)
  have l7 : ((t1_0 (128 * x.toNatClampNeg + k / 16)) >>> ((b - b / 16 * 16) &&& 31)).toBitVec.toNat = (wVk t1_0 x).natAbs / 65536 ^ (k / 16) % 65536 / 2 ^ (k % 16) := Int.ofNat_inj.mp (l6.trans l5)
  rw [l7, w_bitM _ _ (by omega), Nat.div_div_eq_div_mul]
  have e : (65536 : Nat) ^ (k / 16) * 2 ^ (k % 16) = 2 ^ k := by
    rw [show (65536 : Nat) = 2 ^ 16 from rfl, ← Nat.pow_mul, ← Nat.pow_add]
    congr 1
    omega
  rw [e]
/-! the inverse as a function -/
noncomputable def sInv (a m : Int) : Option Int := @dite _ (∃ x, vIv a m 1 x) (Classical.propDecidable _) (fun h => some h.choose) (fun _ => none)
theorem vIv_uq {a m x y : Int} (hm : 0 < m) (hx : vIv a m 1 x) (hy : vIv a m 1 y) : x = y := by
  obtain ⟨x0, x1, x2⟩ := hx
  obtain ⟨y0, y1, y2⟩ := hy
  obtain ⟨s, hs⟩ := x2 rfl
  obtain ⟨t, ht⟩ := y2 rfl
  have e1 : y * (x * a) = x * (y * a) := by rw [← Int.mul_assoc, Int.mul_comm y x, Int.mul_assoc]
  rw [hs, ht, Int.mul_add, Int.mul_add, Int.mul_one, Int.mul_one, ← Int.mul_assoc, ← Int.mul_assoc] at e1
  have e2 : x - y = (y * s - x * t) * m := by
    rw [Int.sub_mul]
    omega
  generalize y * s - x * t = q at e2
  rcases Int.lt_trichotomy q 0 with hq | hq | hq
  · have : q * m ≤ (-1) * m := Int.mul_le_mul_of_nonneg_right (by omega) (by omega)
    omega
  · rw [hq] at e2
    omega
  · have : 1 * m ≤ q * m := Int.mul_le_mul_of_nonneg_right (by omega) (by omega)
    omega
theorem sInv_some {a m x : Int} (hm : 0 < m) (h : vIv a m 1 x) : sInv a m = some x := by
  have hex : ∃ x, vIv a m 1 x := ⟨x, h⟩
  unfold sInv
  rw [dif_pos hex]
  exact congrArg some (vIv_uq hm hex.choose_spec h)
theorem sInv_none {a m : Int} (h : Int.gcd a m ≠ 1) : sInv a m = none := by
  have hno : ¬ ∃ x, vIv a m 1 x := by
    rintro ⟨x, _, _, hx⟩
    obtain ⟨t, ht⟩ := hx rfl
    apply h
    have h1 : (Int.gcd a m : Int) ∣ 1 := by
      have e : (1 : Int) = a * x - m * t := by
        rw [Int.mul_comm a x, ht, Int.mul_comm t m]
        omega
      rw [e]
      exact Int.dvd_sub (Int.dvd_trans (Int.gcd_dvd_left ..) (Int.dvd_mul_right ..)) (Int.dvd_trans (Int.gcd_dvd_right ..) (Int.dvd_mul_right ..))
    exact Nat.dvd_one.mp (Int.ofNat_dvd.mp h1)
  unfold sInv
  rw [dif_neg hno]
def wIn (va vm : Int) (th fa : Int32) (p : Int32 × Int32 × Int32 × Int32 × Int32 × Int32 × Int32 × Int32 × (Nat → Int32) × (Nat → Int32) × (Nat → Int32) × (Nat → Int32) × (Nat → Int32) × (Nat → Int32) × (Nat → Int32) × (Nat → Int32) × (Nat → Int32)) : Prop := p.2.1 = th ∧ p.2.2.1 = fa ∧ ((p.1 = 0 ∧ Int.gcd va vm ≠ 1) ∨ (p.1 = 1 ∧ Int.gcd va vm = 1 ∧ ∃ x, vIv va vm 1 x ∧ wK x p.2.2.2.2.2.2.2.2.2.2.2.2.2.1))
theorem V_invN {t0_0 : Int32} {t0_1 : Int32} {t0_2 : Int32} {t0_3 : Int32} {t0_4 : Int32} {t0_5 : Int32} {t0_6 : Int32} {t1_0 : (Nat → Int32)} {t2_0 : (Nat → Int32)} {t3_0 : (Nat → Int32)} {t4_0 : (Nat → Int32)} {t5_0 : (Nat → Int32)} {t6_0 : (Nat → Int32)} {t7_0 : (Nat → Int32)} {t8_0 : (Nat → Int32)} {t9_0 : (Nat → Int32)} {t10_0 : (Nat → Int32)} {va vm h : Int} (hm0 : 0 < vm) (hm : wK vm t10_0) (hm1 : vm < 65536 ^ 128) (hh : wK h t6_0) (hE : h = va % vm) : wIn va vm t0_0 t0_1 (F_WR_inverts t0_0 t0_1 t0_2 t0_3 t0_4 t0_5 t0_6 t1_0 t2_0 t3_0 t4_0 t5_0 t6_0 t7_0 t8_0 t9_0 t10_0) := V_inverts (t0_0 := t0_0) (t0_1 := t0_1) (t0_2 := t0_2) (t0_3 := t0_3) (t0_4 := t0_4) (t0_5 := t0_5) (t0_6 := t0_6) (t1_0 := t1_0) (t2_0 := t2_0) (t3_0 := t3_0) (t4_0 := t4_0) (t5_0 := t5_0) (t6_0 := t6_0) (t7_0 := t7_0) (t8_0 := t8_0) (t9_0 := t9_0) (t10_0 := t10_0) hm0 hm hm1 hh hE
theorem V_ivC {x2 : Int32} {x3 : Int32} {x4 : Int32} {t0_0 : Int32} {t0_1 : Int32} {t0_2 : Int32} {t0_3 : Int32} {t0_4 : Int32} {t0_5 : Int32} {t0_6 : Int32} {t1_0 : (Nat → Int32)} {t2_0 : (Nat → Int32)} {t3_0 : (Nat → Int32)} {t4_0 : (Nat → Int32)} {t5_0 : (Nat → Int32)} {t6_0 : (Nat → Int32)} {t7_0 : (Nat → Int32)} {t8_0 : (Nat → Int32)} {t9_0 : (Nat → Int32)} {t10_0 : (Nat → Int32)} {t11_0 : (Nat → Int32)} {t12_0 : (Nat → Int32)} {lx57 : Int32} {f86 : (Nat → Int32)} {p104 : ((Nat → Int32) × (Nat → Int32) × (Nat → Int32) × (Nat → Int32))} {W : Nat → Int} {va vm h : Int} (hr : wRv t1_0 t2_0 W) (hx4 : 0 ≤ x4.toInt ∧ x4.toInt ≤ 10) (hm0 : 0 < vm) (hm : wK vm f86) (hm1 : vm < 65536 ^ 128) (hh : wK h p104.2.2.2) (hE : h = va % vm) (h57 : lx57 = 0) : wAn x4 W (sInv va vm) (F_WR_inverse_c65 x2 x3 x4 t0_0 t0_1 t0_2 t0_3 t0_4 t0_5 t0_6 t1_0 t2_0 t3_0 t4_0 t5_0 t6_0 t7_0 t8_0 t9_0 t10_0 t11_0 t12_0 lx57 f86 p104).1 (F_WR_inverse_c65 x2 x3 x4 t0_0 t0_1 t0_2 t0_3 t0_4 t0_5 t0_6 t1_0 t2_0 t3_0 t4_0 t5_0 t6_0 t7_0 t8_0 t9_0 t10_0 t11_0 t12_0 lx57 f86 p104).2.2.2.2.2.2.2.1 (F_WR_inverse_c65 x2 x3 x4 t0_0 t0_1 t0_2 t0_3 t0_4 t0_5 t0_6 t1_0 t2_0 t3_0 t4_0 t5_0 t6_0 t7_0 t8_0 t9_0 t10_0 t11_0 t12_0 lx57 f86 p104).2.2.2.2.2.2.2.2.1 := by
  unfold F_WR_inverse_c65
  have hi : wIn va vm lx57 t0_1 (F_WR_inverts lx57 t0_1 t0_2 t0_3 t0_4 t0_5 t0_6 p104.1 t4_0 t5_0 p104.2.1 p104.2.2.1 p104.2.2.2 t9_0 t10_0 t11_0 f86) := V_invN hm0 hm hm1 hh hE
  generalize F_WR_inverts lx57 t0_1 t0_2 t0_3 t0_4 t0_5 t0_6 p104.1 t4_0 t5_0 p104.2.1 p104.2.2.1 p104.2.2.2 t9_0 t10_0 t11_0 f86 = p163 at hi ⊢
  unfold F_WR_inverse_c69
  obtain ⟨s1, s2, s3⟩ := hi
  rcases s3 with ⟨c, g⟩ | ⟨c, g, x, hx, hk⟩
  · rw [if_pos c]
    exact Or.inr ⟨Or.inl (sInv_none g), rfl, hr.w⟩
  · rw [if_neg (by rw [c]; decide)]
    have h1 : wSv x4 W x p163.2.1 p163.2.2.1 0 (F_WR_store x4 (p163.2.1 : Int32) (p163.2.2.1 : Int32) (p163.2.2.2.1 : Int32) (0 : Int32) (p163.2.2.2.2.2.1 : Int32) (p163.2.2.2.2.2.2.1 : Int32) (p163.2.2.2.2.2.2.2.1 : Int32) t1_0 t2_0 ((F_WR_copy (264 : Int32) (264 : Int32) (p163.2.2.2.2.2.2.2.2.2.2.2.2.2.1 : (Nat → Int32)) (p163.2.2.2.2.2.2.2.2.1 : (Nat → Int32))) : (Nat → Int32))) := (R_storeV hx4 hr (R_copy4 hk)).2
    generalize (F_WR_store x4 (p163.2.1 : Int32) (p163.2.2.1 : Int32) (p163.2.2.2.1 : Int32) (0 : Int32) (p163.2.2.2.2.2.1 : Int32) (p163.2.2.2.2.2.2.1 : Int32) (p163.2.2.2.2.2.2.2.1 : Int32) t1_0 t2_0 ((F_WR_copy (264 : Int32) (264 : Int32) (p163.2.2.2.2.2.2.2.2.2.2.2.2.2.1 : (Nat → Int32)) (p163.2.2.2.2.2.2.2.2.1 : (Nat → Int32))) : (Nat → Int32))) = p227 at h1 ⊢
    unfold F_WR_inverse_c99
    have b1 : x < 65536 ^ 128 := Int.lt_trans hx.2.1 hm1
    obtain ⟨_, f1, f2⟩ := w_fit h1 b1
    rw [sgI0] at f2
    rw [sInv_some hm0 hx]
    exact wAn_ok (f1.trans (s1.trans h57)) f2 hx.1 b1
theorem V_WR_inverse {x2 : Int32} {x3 : Int32} {x4 : Int32} {t0_0 : Int32} {t0_1 : Int32} {t0_2 : Int32} {t0_3 : Int32} {t0_4 : Int32} {t0_5 : Int32} {t0_6 : Int32} {t1_0 : (Nat → Int32)} {t2_0 : (Nat → Int32)} {t3_0 : (Nat → Int32)} {t4_0 : (Nat → Int32)} {t5_0 : (Nat → Int32)} {t6_0 : (Nat → Int32)} {t7_0 : (Nat → Int32)} {t8_0 : (Nat → Int32)} {t9_0 : (Nat → Int32)} {t10_0 : (Nat → Int32)} {t11_0 : (Nat → Int32)} {t12_0 : (Nat → Int32)} {W : Nat → Int} (hr : wRv t1_0 t2_0 W) (hx2 : 0 ≤ x2.toInt ∧ x2.toInt ≤ 10) (hx3 : 0 ≤ x3.toInt ∧ x3.toInt ≤ 10) (hx4 : 0 ≤ x4.toInt ∧ x4.toInt ≤ 10) : wAn x4 W (if W x3.toNatClampNeg ≤ 0 then none else sInv (W x2.toNatClampNeg) (W x3.toNatClampNeg)) (F_WR_inverse x2 x3 x4 t0_0 t0_1 t0_2 t0_3 t0_4 t0_5 t0_6 t1_0 t2_0 t3_0 t4_0 t5_0 t6_0 t7_0 t8_0 t9_0 t10_0 t11_0 t12_0).1 (F_WR_inverse x2 x3 x4 t0_0 t0_1 t0_2 t0_3 t0_4 t0_5 t0_6 t1_0 t2_0 t3_0 t4_0 t5_0 t6_0 t7_0 t8_0 t9_0 t10_0 t11_0 t12_0).2.2.2.2.2.2.2.1 (F_WR_inverse x2 x3 x4 t0_0 t0_1 t0_2 t0_3 t0_4 t0_5 t0_6 t1_0 t2_0 t3_0 t4_0 t5_0 t6_0 t7_0 t8_0 t9_0 t10_0 t11_0 t12_0).2.2.2.2.2.2.2.2.1 := by
  have b1 := (wVk_nn hx3 hr.1).2
  unfold F_WR_inverse
  rw [if_pos (w_no0 hx2), if_pos (w_no0 hx3), if_pos (w_no0 hx4)]
  rcases w_above (t0_0 := t0_0) (t0_1 := t0_1) (t0_2 := t0_2) (t0_3 := t0_3) (t0_4 := t0_4) (t0_5 := t0_5) (t0_6 := t0_6) hx3 hr with ⟨c, h⟩ | ⟨c, h0, hE⟩
  · rw [if_pos c, if_pos h]
    unfold F_WR_inverse_J39
    rw [if_neg (by decide)]
    exact Or.inr ⟨Or.inl rfl, rfl, hr.w⟩
  · rw [if_neg c, if_neg (by omega)]
    unfold F_WR_inverse_J39
    rw [if_pos (by decide)]
    have t2 := (R_take (x2 := x3) (t0_0 := 0) (t0_1 := t0_1) (t0_2 := t0_2) (t0_3 := t0_3) (t0_4 := t0_4) (t0_5 := t0_5) (t0_6 := t0_6) (t1_0 := t1_0) (t2_0 := t12_0) hx3 hr.1).2
    rw [← hE] at t2 b1
    have hp := R_reduceV (t0_0 := 0) (t0_1 := t0_1) (t0_2 := t0_2) (t0_3 := t0_3) (t0_4 := t0_4) (t0_5 := t0_5) (t0_6 := t0_6) (t3_0 := t3_0) (t4_0 := t6_0) (t5_0 := t7_0) (t7_0 := t8_0) hx2 hr t2 h0 (Int.lt_of_lt_of_le b1 w_p128)
    exact V_ivC hr hx4 h0 t2 b1 hp rfl rfl
