/-! values, for whole: the reference's shift, both ways -/
theorem w_clamp {w : Int} {m : Nat} (hw : w.natAbs < 2 ^ 2048) (hm : 2048 ≤ m) : w / 2 ^ m = w / 2 ^ 2048 := by
  have key : ∀ P : Nat, w.natAbs < P → w / (P : Int) = if w < 0 then -1 else 0 := fun P hP => by
    have hp : 0 < (P : Int) := by omega
    split
    · exact ((Int.ediv_emod_unique (r := w + P) hp).mpr ⟨by omega, by omega, by omega⟩).1
    · exact Int.ediv_eq_zero_of_lt (by omega) (by omega)
  have h1 : w.natAbs < 2 ^ m := Nat.lt_of_lt_of_le hw (Nat.pow_le_pow_right (by decide) hm)
  have e1 : (2 : Int) ^ m = ((2 ^ m : Nat) : Int) := by rw [Int.natCast_pow]; rfl
  have e2 : (2 : Int) ^ 2048 = ((2 ^ 2048 : Nat) : Int) := by rw [Int.natCast_pow]; rfl
  rw [e1, e2, key _ h1, key _ hw]
theorem V_slJ {x2 : Int32} {x3 : Int32} {x4 : Int32} {t0_0 : Int32} {t0_1 : Int32} {t0_2 : Int32} {t0_3 : Int32} {t0_4 : Int32} {t0_5 : Int32} {t0_6 : Int32} {t1_0 : (Nat → Int32)} {t2_0 : (Nat → Int32)} {t3_0 : (Nat → Int32)} {t4_0 : (Nat → Int32)} {t5_0 : (Nat → Int32)} {lx36 : Int32} {a67 : Int32} {f75 : (Nat → Int32)} {f60 : (Nat → Int32)} {W : Nat → Int} {A : Int} {m : Nat} (hr : wRv t1_0 t2_0 W) (hx4 : 0 ≤ x4.toInt ∧ x4.toInt ≤ 10) (hF : wK A f60) (hA1 : A < 65536 ^ 128) (hx3 : x3.toInt = (m : Int)) (hm : A = 0 ∨ m ≤ 2048) (h36 : lx36 = 0) (hc : ∀ i : Nat, (i : Int) < 264 → f75 i = 0) (hcK : wK 0 f75) : wAn x4 W (some (sgI a67 (A * 2 ^ m))) (F_WR_shift_J89 x2 x3 x4 t0_0 t0_1 t0_2 t0_3 t0_4 t0_5 t0_6 t1_0 t2_0 t3_0 t4_0 t5_0 lx36 a67 f75 f60).1 (F_WR_shift_J89 x2 x3 x4 t0_0 t0_1 t0_2 t0_3 t0_4 t0_5 t0_6 t1_0 t2_0 t3_0 t4_0 t5_0 lx36 a67 f75 f60).2.2.2.2.2.2.2.1 (F_WR_shift_J89 x2 x3 x4 t0_0 t0_1 t0_2 t0_3 t0_4 t0_5 t0_6 t1_0 t2_0 t3_0 t4_0 t5_0 lx36 a67 f75 f60).2.2.2.2.2.2.2.2.1 := by
  have e0 : (0 : Int32).toInt = 0 := rfl
  have e75 : wV f75 264 = 0 := hcK.2
  unfold F_WR_shift_J89
  refine V_slL hr hx4 hF hA1 hx3 hm h36 _ _ _ 0 e0 (by omega) (by rw [e0]; omega) ⟨hcK.1, ?_, fun hA => ⟨fun i h1 h2 => hc i (by omega), ?_⟩⟩
  · rw [e75]
    show (0 : Int) = 0 * _
    rw [Int.zero_mul]
  · have hm2 := hm.resolve_left hA
    rw [hc (0 + m / 16) (by omega), e0]
    exact Int.pow_pos (by decide)
theorem V_WR_shift {x2 : Int32} {x3 : Int32} {x4 : Int32} {t0_0 : Int32} {t0_1 : Int32} {t0_2 : Int32} {t0_3 : Int32} {t0_4 : Int32} {t0_5 : Int32} {t0_6 : Int32} {t1_0 : (Nat → Int32)} {t2_0 : (Nat → Int32)} {t3_0 : (Nat → Int32)} {t4_0 : (Nat → Int32)} {t5_0 : (Nat → Int32)} {W : Nat → Int} (hr : wRv t1_0 t2_0 W) (hx2 : 0 ≤ x2.toInt ∧ x2.toInt ≤ 10) (hx4 : 0 ≤ x4.toInt ∧ x4.toInt ≤ 10) : wAn x4 W (if W x2.toNatClampNeg ≠ 0 ∧ 2048 < x3.toInt then none else some (sShf (W x2.toNatClampNeg) (if x3.toInt < -2048 then -2048 else x3.toInt))) (F_WR_shift x2 x3 x4 t0_0 t0_1 t0_2 t0_3 t0_4 t0_5 t0_6 t1_0 t2_0 t3_0 t4_0 t5_0).1 (F_WR_shift x2 x3 x4 t0_0 t0_1 t0_2 t0_3 t0_4 t0_5 t0_6 t1_0 t2_0 t3_0 t4_0 t5_0).2.2.2.2.2.2.2.1 (F_WR_shift x2 x3 x4 t0_0 t0_1 t0_2 t0_3 t0_4 t0_5 t0_6 t1_0 t2_0 t3_0 t4_0 t5_0).2.2.2.2.2.2.2.2.1 := by
  have e0 : (0 : Int32).toInt = 0 := rfl
  have e48 : (2048 : Int32).toInt = 2048 := rfl
  have hb := wVk_nn hx2 hr.1
  obtain ⟨hmm, hW⟩ := hr.sg hx2
  have t1 := (R_take (x2 := x2) (t0_0 := 0) (t0_1 := 2) (t0_2 := t0_2) (t0_3 := t0_3) (t0_4 := t0_4) (t0_5 := t0_5) (t0_6 := t0_6) (t1_0 := t1_0) (t2_0 := t5_0) hx2 hr.1).2
  have eA : ((wVk t1_0 x2).natAbs : Int) = wVk t1_0 x2 := Int.natAbs_of_nonneg hb.1
  have hA : (wVk t1_0 x2).natAbs < 2 ^ 2048 := by
    have h3 := hb.2
    rw [w_2048] at h3
    generalize 2 ^ 2048 = Z at h3 ⊢
    omega
  have hW0 : W x2.toNatClampNeg = 0 ↔ wVk t1_0 x2 = 0 := by
    rw [hW]
    unfold sgI
    split <;> omega
  have hcl : ∀ i : Nat, (i : Int) < 264 → F_WR_clear 264 t3_0 i = 0 := fun i hi => R_clear (by decide) (by decide) i hi
  unfold F_WR_shift
  rw [if_pos (w_no0 hx2), if_pos (w_no0 hx4)]
  unfold F_WR_shift_J20
  rw [if_pos (show (0 : Int32) ≤ 0 by decide)]
  by_cases c : x3 < 0
  · rw [if_pos c]
    have c2 := q_ltI c
    rw [if_neg (by omega)]
    obtain ⟨m, hm⟩ : ∃ m : Nat, x3.toInt = -(m : Int) := ⟨(-x3.toInt).toNat, by omega⟩
    have es : sShf (W x2.toNatClampNeg) (if x3.toInt < -2048 then -2048 else x3.toInt) = sgI (t2_0 x2.toNatClampNeg) (((wVk t1_0 x2).natAbs : Nat) : Int) / 2 ^ m := by
      rw [eA, ← hW]
      have hwb : (W x2.toNatClampNeg).natAbs < 2 ^ 2048 := by
        rw [hW, sgI_abs]
        exact hA
      by_cases d : x3.toInt < -2048
      · rw [if_pos d, sShf, if_neg (by decide)]
        exact (w_clamp hwb (by omega)).symm
      · rw [if_neg d, sShf, if_neg (by omega), hm, Int.neg_neg, Int.toNat_natCast]
    rw [es]
    refine V_srL hr hx4 (by rw [eA]; exact t1) hA hm hmm rfl _ _ _ _ 0 e0 (by omega) (by rw [e0]; omega) (Or.inl ⟨rfl, ?_⟩) ?_
    · unfold nSo
      rw [if_pos (Nat.zero_le m), Nat.pow_zero, Nat.mod_one]
      exact fun h => h rfl
    · rw [Nat.pow_zero, Nat.mod_one, Nat.zero_div]
      exact R_clear4
  · rw [if_neg c]
    have c2 := q_nltI c
    obtain ⟨m, hm⟩ : ∃ m : Nat, x3.toInt = (m : Int) := ⟨x3.toInt.toNat, by omega⟩
    have es : sShf (W x2.toNatClampNeg) (if x3.toInt < -2048 then -2048 else x3.toInt) = sgI (t2_0 x2.toNatClampNeg) (wVk t1_0 x2 * 2 ^ m) := by
      rw [if_neg (by omega), sShf, if_pos (by omega), hW, hm, Int.toNat_natCast]
      unfold sgI
      split
      · rfl
      · rw [Int.neg_mul]
    by_cases d : x3 ≤ 2048
    · rw [if_pos d]
      have d2 := q_leI d
      rw [if_neg (by omega), es]
      exact V_slJ hr hx4 t1 hb.2 hm (Or.inr (by omega)) rfl hcl R_clear4
    · rw [if_neg d]
      have d2 := q_nleI d
      by_cases z : F_WR_size 264 (F_WR_take x2 264 0 2 t0_2 t0_3 t0_4 t0_5 t0_6 t1_0 t5_0) ≤ 0
      · rw [if_pos z]
        have z1 := w_sz0 t1.1 z
        have z2 : wVk t1_0 x2 = 0 := t1.2.symm.trans z1
        rw [if_neg (fun h => h.1 (hW0.mpr z2)), es]
        exact V_slJ hr hx4 t1 hb.2 hm (Or.inl z2) rfl hcl R_clear4
      · rw [if_neg z]
        have z1 : 0 < wV (F_WR_take x2 264 0 2 t0_2 t0_3 t0_4 t0_5 t0_6 t1_0 t5_0) 264 := w_sz1 t1.1 z
        have z2 : wV (F_WR_take x2 264 0 2 t0_2 t0_3 t0_4 t0_5 t0_6 t1_0 t5_0) 264 = wVk t1_0 x2 := t1.2
        rw [if_pos ⟨fun h => by have := hW0.mp h; omega, by omega⟩]
        exact Or.inr ⟨Or.inl rfl, rfl, hr.w⟩
