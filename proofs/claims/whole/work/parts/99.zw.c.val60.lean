/-! values, for whole: gcd, inverse, powers modulo m (class) -/
theorem v_gcdS {v w : Int} {g : Nat} (h : Nat.gcd v.natAbs w.natAbs = g) : Nat.gcd w.natAbs (v.tmod w).natAbs = g := by
  rw [Int.natAbs_tmod, Nat.gcd_comm, ← Nat.gcd_rec, Nat.gcd_comm]
  exact h
theorem v_euS {v w : Int} {m : Nat} (h : wEu m (v.natAbs : Int) (w.natAbs : Int)) (hw : w ≠ 0) : ∃ k, m = k + 1 ∧ wEu k (w.natAbs : Int) ((v.tmod w).natAbs : Int) := by
  have hp : 0 < w.natAbs := by omega
  obtain ⟨k, rfl⟩ : ∃ k, m = k + 1 := ⟨m - 1, by have := h.ge; omega⟩
  refine ⟨k, rfl, h.step (q := ((v.natAbs / w.natAbs : Nat) : Int)) (by omega) (by omega) ?_ (by omega) ?_⟩
  · rw [Int.natAbs_tmod, ← Int.natCast_mul, ← Int.natCast_add, Nat.mul_comm, Nat.div_add_mod]
  · rw [Int.natAbs_tmod]
    exact Int.ofNat_lt.mpr (Nat.mod_lt _ hp)
theorem v_sz0 {R s n : Int32} {f : Nat → Int32} {v : Int} (h : bO R s n f v) (hk : s ≤ 0) : v = 0 := by
  have e0 : (0 : Int32).toInt = 0 := rfl
  have h1 := q_leI hk
  exact Classical.byContradiction fun h9 => by
    have := h.pos.mpr h9
    omega
theorem v_gcd0 {v w : Int} {g : Nat} (h : Nat.gcd v.natAbs w.natAbs = g) (hw : w = 0) : (g : Int) = (v.natAbs : Int) := by
  rw [← h, hw, Int.natAbs_zero, Nat.gcd_zero_right]
theorem V_cdL {R : Int32} {R2 : Int32} {t0_0 : Int32} {t0_1 : Int32} {t1_0 : (Nat → Int32)} {t2_0 : Int32} {t2_1 : Int32} {t3_0 : (Nat → Int32)} {t4_0 : Int32} {t4_1 : Int32} {t5_0 : (Nat → Int32)} {t6_0 : Int32} {t6_1 : Int32} {t7_0 : (Nat → Int32)} {t8_0 : Int32} {t8_1 : Int32} {t9_0 : (Nat → Int32)} {t10_0 : Int32} {t10_1 : Int32} {t11_0 : (Nat → Int32)} {p64 : (Int32 × Int32 × (Nat → Int32))} {y53 : Int32} {y54 : Int32} {f55 : (Nat → Int32)} {p88 : (Int32 × Int32 × (Nat → Int32))} {M g : Nat} (hM : M + 2 ≤ 220) : ∀ (n : Nat) (lx109 : Int32) (lx110 : Int32) (lx111 : Int32) (lx112 : (Nat → Int32)) (lx113 : Int32) (lx114 : Int32) (lx115 : (Nat → Int32)) (lx116 : Int32) (lx117 : Int32) (lx118 : (Nat → Int32)), 0 < n → 10000 - lx109.toInt < (n : Int) → 0 ≤ lx109.toInt → lx109.toInt ≤ 10001 → (∃ (v w : Int) (m : Nat), (bO 220 lx113 lx114 lx115 v ∧ bB M v) ∧ (bO 220 lx116 lx117 lx118 w ∧ bB M w) ∧ Nat.gcd v.natAbs w.natAbs = g ∧ wEu m (v.natAbs : Int) (w.natAbs : Int) ∧ (m : Int) = 10000 - lx109.toInt) → (S_Mil_commonDivisor_L25 R R2 t0_0 t0_1 t1_0 t2_0 t2_1 t3_0 t4_0 t4_1 t5_0 t6_0 t6_1 t7_0 t8_0 t8_1 t9_0 t10_0 t10_1 t11_0 p64 y53 y54 f55 p88 n lx109 lx110 lx111 lx112 lx113 lx114 lx115 lx116 lx117 lx118) ∧ G4 (bW 220 (g : Int)) (bI 220) (bI 220) (bI 220) (F_Mil_commonDivisor_L25 R R2 t0_0 t0_1 t1_0 t2_0 t2_1 t3_0 t4_0 t4_1 t5_0 t6_0 t6_1 t7_0 t8_0 t8_1 t9_0 t10_0 t10_1 t11_0 p64 y53 y54 f55 p88 n lx109 lx110 lx111 lx112 lx113 lx114 lx115 lx116 lx117 lx118) := by
  have e := e220
  have e0 : (0 : Int32).toInt = 0 := rfl
  have eT := v_eTT
  intro n
  induction n with
  | zero => intros; omega
  | succ n ih =>
    intro lx109 lx110 lx111 lx112 lx113 lx114 lx115 lx116 lx117 lx118 hn hl hl0 hl1 hh
    rw [S_Mil_commonDivisor_L25.eq_2, F_Mil_commonDivisor_L25.eq_2]
    obtain ⟨v, w, m, ⟨hv, hv2⟩, ⟨hw, hw2⟩, hg, hE, hm⟩ := hh
    have s1 := hv.sB hv2
    have s2 := hw.sB hw2
    have m1 := hE.ge
    by_cases hj : 10000 ≤ lx109
    · have := q_leI hj
      omega
    rw [if_neg hj, if_neg hj]
    have hj2 := q_nleI hj
    by_cases hk : lx116 ≤ 0
    · rw [if_pos hk, if_pos hk]
      have h72 : P1 220 v (F_Big_copy (220 : Int32) (220 : Int32) t0_0 t0_1 t1_0 lx113 lx114 lx115) := W_copy hv hv.fit (by decide)
      generalize (F_Big_copy (220 : Int32) (220 : Int32) t0_0 t0_1 t1_0 lx113 lx114 lx115) = p201 at h72 ⊢
      unfold S_Mil_commonDivisor_c72_5 F_Mil_commonDivisor_c72_5
      have e9 := v_gcd0 hg (v_sz0 hw hk)
      refine ⟨trivial, ?_, trivial, trivial, trivial⟩
      rw [e9]
      exact h72.abs0
    rw [if_neg hk, if_neg hk]
    have w0 := hw.pos.mp (v_nle0 hk)
    have h48 : S_Big_divideBy (220 : Int32) (220 : Int32) (220 : Int32) lx113 lx114 lx115 lx116 lx117 lx118 lx110 lx111 lx112 ∧ P3 220 220 220 (v.tmod w) w ((v.natAbs / w.natAbs : Nat) : Int) (F_Big_divideBy (220 : Int32) (220 : Int32) (220 : Int32) lx113 lx114 lx115 lx116 lx117 lx118 lx110 lx111 lx112) := W_divideBy hv hw w0 (by omega) (by omega) (by decide)
    refine v_owe h48.1 ?_
    replace h48 := h48.2
    generalize (F_Big_divideBy (220 : Int32) (220 : Int32) (220 : Int32) lx113 lx114 lx115 lx116 lx117 lx118 lx110 lx111 lx112) = p250 at h48 ⊢
    unfold S_Mil_commonDivisor_c48 F_Mil_commonDivisor_c48
    have ej : (lx109 + 1 : Int32).toInt = lx109.toInt + 1 := q_addI rfl v_e1 (by omega) (by omega)
    have b1 : bB M (v.tmod w) := hw2.tmod w0
    have s3 := h48.1.sB b1
    have s4 := h48.2.1.sB hw2
    obtain ⟨m2, em2, hE2⟩ := v_euS hE w0
    have hg2 := v_gcdS hg
    have m3 := hE2.ge
    generalize v.tmod w = r at h48 b1 hE2 hg2
    by_cases hj3 : 10000 ≤ (lx109 + 1 : Int32)
    · have := q_leI hj3
      omega
    rw [if_neg hj3, if_neg hj3]
    have hj4 := q_nleI hj3
    by_cases hk2 : p250.1 ≤ 0
    · rw [if_pos hk2, if_pos hk2]
      have h72 : P1 220 w (F_Big_copy (220 : Int32) (220 : Int32) t0_0 t0_1 t1_0 (p250.2.2.2.1 : Int32) (p250.2.2.2.2.1 : Int32) (p250.2.2.2.2.2.1 : (Nat → Int32))) := W_copy h48.2.1 h48.2.1.fit (by decide)
      generalize (F_Big_copy (220 : Int32) (220 : Int32) t0_0 t0_1 t1_0 (p250.2.2.2.1 : Int32) (p250.2.2.2.2.1 : Int32) (p250.2.2.2.2.2.1 : (Nat → Int32))) = p314 at h72 ⊢
      unfold S_Mil_commonDivisor_c72_8 F_Mil_commonDivisor_c72_8
      have e9 := v_gcd0 hg2 (v_sz0 h48.1 hk2)
      refine ⟨trivial, ?_, trivial, trivial, trivial⟩
      rw [e9]
      exact h72.abs0
    rw [if_neg hk2, if_neg hk2]
    have w1 := h48.1.pos.mp (v_nle0 hk2)
    have h49 : S_Big_divideBy (220 : Int32) (220 : Int32) (220 : Int32) (p250.2.2.2.1 : Int32) (p250.2.2.2.2.1 : Int32) (p250.2.2.2.2.2.1 : (Nat → Int32)) (p250.1 : Int32) (p250.2.1 : Int32) (p250.2.2.1 : (Nat → Int32)) (p250.2.2.2.2.2.2.1 : Int32) (p250.2.2.2.2.2.2.2.1 : Int32) (p250.2.2.2.2.2.2.2.2 : (Nat → Int32)) ∧ P3 220 220 220 (w.tmod r) r ((w.natAbs / r.natAbs : Nat) : Int) (F_Big_divideBy (220 : Int32) (220 : Int32) (220 : Int32) (p250.2.2.2.1 : Int32) (p250.2.2.2.2.1 : Int32) (p250.2.2.2.2.2.1 : (Nat → Int32)) (p250.1 : Int32) (p250.2.1 : Int32) (p250.2.2.1 : (Nat → Int32)) (p250.2.2.2.2.2.2.1 : Int32) (p250.2.2.2.2.2.2.2.1 : Int32) (p250.2.2.2.2.2.2.2.2 : (Nat → Int32))) := W_divideBy h48.2.1 h48.1 w1 (by omega) (by omega) (by decide)
    refine v_owe h49.1 ?_
    replace h49 := h49.2
    generalize (F_Big_divideBy (220 : Int32) (220 : Int32) (220 : Int32) (p250.2.2.2.1 : Int32) (p250.2.2.2.2.1 : Int32) (p250.2.2.2.2.2.1 : (Nat → Int32)) (p250.1 : Int32) (p250.2.1 : Int32) (p250.2.2.1 : (Nat → Int32)) (p250.2.2.2.2.2.2.1 : Int32) (p250.2.2.2.2.2.2.2.1 : Int32) (p250.2.2.2.2.2.2.2.2 : (Nat → Int32))) = p362 at h49 ⊢
    unfold S_Mil_commonDivisor_c48_9 F_Mil_commonDivisor_c48_9
    have ej2 : (lx109 + 1 + 1 : Int32).toInt = lx109.toInt + 1 + 1 := q_addI ej v_e1 (by omega) (by omega)
    obtain ⟨m4, em4, hE4⟩ := v_euS hE2 w1
    exact ih _ _ _ _ _ _ _ _ _ _ (by omega) (by omega) (by omega) (by omega) ⟨_, _, m4, ⟨h49.2.1, b1⟩, ⟨h49.1, b1.tmod w1⟩, v_gcdS hg2, hE4, by omega⟩
theorem v_eu0 {a b : Int} {M : Nat} (ha : bB M a) (hb : bB M b) (hM : M ≤ 136) : wEu 10000 (a.natAbs : Int) (b.natAbs : Int) := by
  have h1 : (2147483648 : Nat) ^ M ≤ 65536 ^ 264 := by
    rw [show (2147483648 : Nat) = 2 ^ 31 from rfl, show (65536 : Nat) = 2 ^ 16 from rfl, ← Nat.pow_mul, ← Nat.pow_mul]
    exact Nat.pow_le_pow_right (by decide) (by omega)
  have h2 : ((65536 ^ 264 : Nat) : Int) = (65536 : Int) ^ 264 := Int.natCast_pow _ _
  refine wEu.start (by decide) (by omega) ?_ (by omega) ?_
  · rw [← h2]
    exact Int.ofNat_lt.mpr (Nat.lt_of_lt_of_le ha h1)
  · rw [← h2]
    exact Int.ofNat_lt.mpr (Nat.lt_of_lt_of_le hb h1)
theorem V_commonDivisor {R : Int32} {R2 : Int32} {t0_0 : Int32} {t0_1 : Int32} {t1_0 : (Nat → Int32)} {t2_0 : Int32} {t2_1 : Int32} {t3_0 : (Nat → Int32)} {t4_0 : Int32} {t4_1 : Int32} {t5_0 : (Nat → Int32)} {t6_0 : Int32} {t6_1 : Int32} {t7_0 : (Nat → Int32)} {t8_0 : Int32} {t8_1 : Int32} {t9_0 : (Nat → Int32)} {t10_0 : Int32} {t10_1 : Int32} {t11_0 : (Nat → Int32)} {va vb : Int} {M : Nat} (hM : M ≤ 136) (ha : bO R t8_0 t8_1 t9_0 va) (hb : bO R2 t10_0 t10_1 t11_0 vb) (hMa : bB M va) (hMb : bB M vb) : (S_Mil_commonDivisor R R2 t0_0 t0_1 t1_0 t2_0 t2_1 t3_0 t4_0 t4_1 t5_0 t6_0 t6_1 t7_0 t8_0 t8_1 t9_0 t10_0 t10_1 t11_0) ∧ G4 (bW 220 (Int.gcd va vb : Int)) (bI 220) (bI 220) (bI 220) (F_Mil_commonDivisor R R2 t0_0 t0_1 t1_0 t2_0 t2_1 t3_0 t4_0 t4_1 t5_0 t6_0 t6_1 t7_0 t8_0 t8_1 t9_0 t10_0 t10_1 t11_0) := by
  unfold S_Mil_commonDivisor F_Mil_commonDivisor
  have h13 : P1 220 va (F_Big_copy (220 : Int32) R t4_0 t4_1 t5_0 t8_0 t8_1 t9_0) := W_copy ha ha.fit (by decide)
  generalize (F_Big_copy (220 : Int32) R t4_0 t4_1 t5_0 t8_0 t8_1 t9_0) = p64 at h13 ⊢
  unfold S_Mil_commonDivisor_c13 F_Mil_commonDivisor_c13
  have h19 : P1 220 vb (F_Big_copy (220 : Int32) R2 t6_0 t6_1 t7_0 t10_0 t10_1 t11_0) := W_copy hb hb.fit (by decide)
  generalize (F_Big_copy (220 : Int32) R2 t6_0 t6_1 t7_0 t10_0 t10_1 t11_0) = p88 at h19 ⊢
  unfold S_Mil_commonDivisor_c19 F_Mil_commonDivisor_c19
  exact V_cdL (M := M) (by omega) _ _ _ _ _ _ _ _ _ _ _ (by decide) (by decide) (by decide) (by decide) ⟨_, _, 10000, ⟨h13, hMa⟩, ⟨h19, hMb⟩, rfl, v_eu0 hMa hMb hM, by decide⟩
/-! the inverse -/
def iv (a m h H : Int) : Prop := ∃ t : Int, h = H * a + t * m
theorem iv.step {a m h l H L q r : Int} (e : h = l * q + r) (h1 : iv a m h H) (h2 : iv a m l L) : iv a m r (H - q * L) := by
  obtain ⟨t, h1⟩ := h1
  obtain ⟨u, h2⟩ := h2
  refine ⟨t - q * u, ?_⟩
  have e1 : r = h - l * q := by omega
  rw [e1, h1, h2, Int.sub_mul, Int.sub_mul, Int.add_mul, Int.mul_comm q L, Int.mul_comm q u, Int.mul_assoc L a q, Int.mul_comm a q, ← Int.mul_assoc L q a, Int.mul_assoc u m q, Int.mul_comm m q, ← Int.mul_assoc u q m]
  omega
theorem v_tmE (H m : Int) : ∃ s, (if H.tmod m < 0 then H.tmod m + m else H.tmod m) = H + s * m := by
  have h := Int.tmod_add_mul_tdiv H m
  split
  · refine ⟨1 - H.tdiv m, ?_⟩
    rw [Int.sub_mul, Int.one_mul, Int.mul_comm (H.tdiv m) m]
    omega
  · refine ⟨-H.tdiv m, ?_⟩
    rw [Int.neg_mul, Int.mul_comm (H.tdiv m) m]
    omega
theorem v_modEq {a r m s : Int} (h : r = a + s * m) (h0 : 0 ≤ r) (h1 : r < m) : a % m = r := by
  have e : a = r + (-s) * m := by
    rw [Int.neg_mul]
    omega
  rw [e, Int.add_mul_emod_self_right, Int.emod_eq_of_lt h0 h1]
theorem v_emd {a m : Int} (hm : 0 < m) : (if a.tmod m < 0 then a.tmod m + m else a.tmod m) = a % m := by
  obtain ⟨s, hs⟩ := v_tmE a m
  have h := v_mU (H := a) hm
  exact (v_modEq hs h.1 (by omega)).symm
theorem W_isOne {R s n : Int32} {f : Nat → Int32} {v : Int} (h : bO R s n f v) : F_Big_isOne R s n f = if v = 1 then 1 else 0 := by
  have e0 : (0 : Int32).toInt = 0 := rfl
  have e1 : (1 : Int32).toInt = 1 := rfl
  have z0 : (0 : Int32).toNatClampNeg = 0 := rfl
  have hb : s = 1 → bV s f = (f 0).toInt := fun hs => by
    rw [hs]
    show 0 + (f 0).toInt * 2147483648 ^ 0 = _
    omega
  have ha := h.abs
  have hg := h.sgn
  unfold F_Big_isOne
  by_cases hv : v = 1
  · rw [if_pos hv]
    have hs : s = 1 := by
      have h1 := h.sz (M := 1) (by rw [hv]; decide)
      have h2 := h.pos.mpr (by omega)
      exact Int32.toInt_inj.mp (by omega)
    have h3 := hb hs
    have h4 : f 0 = 1 := Int32.toInt_inj.mp (by omega)
    have h5 : n = 0 := by
      rcases hg with h6 | h6
      · exact h6.1
      · omega
    rw [if_pos hs, z0, if_pos h4, if_pos h5]
  · rw [if_neg hv]
    by_cases hs : s = 1
    · rw [if_pos hs, z0]
      by_cases h4 : f 0 = 1
      · rw [if_pos h4]
        by_cases h5 : n = 0
        · have h3 := hb hs
          rw [h4] at h3
          rcases hg with h6 | h6
          · omega
          · have := h6.1
            rw [h5] at this
            exact absurd this (by decide)
        · rw [if_neg h5]
      · rw [if_neg h4]
    · rw [if_neg hs]
/-- x inverts a modulo m -/
def vIv (a m : Int) (g : Nat) (x : Int) : Prop := 0 ≤ x ∧ x < m ∧ (g = 1 → ∃ t : Int, x * a = 1 + t * m)
theorem v_ivE {a m h H : Int} {g : Nat} (hm : 0 < m) (h0 : 0 ≤ h) (hg : (g : Int) = (h.natAbs : Int)) (hi : iv a m h H) : vIv a m g (if H.tmod m < 0 then H.tmod m + m else H.tmod m) := by
  have h1 := v_mU (H := H) hm
  obtain ⟨s, hs⟩ := v_tmE H m
  refine ⟨h1.1, by omega, fun hg1 => ?_⟩
  obtain ⟨t, ht⟩ := hi
  have hh : h = 1 := by omega
  refine ⟨s * a - t, ?_⟩
  rw [hs, Int.add_mul, Int.sub_mul, Int.mul_assoc s m a, Int.mul_comm m a, ← Int.mul_assoc s a m]
  omega
theorem v_one01 {g : Nat} {h : Int} (h0 : 0 ≤ h) (hg : (g : Int) = (h.natAbs : Int)) : (if h = 1 then (1 : Int32) else 0) = if g = 1 then 1 else 0 := by
  by_cases h1 : h = 1
  · rw [if_pos h1, if_pos (by omega)]
  · rw [if_neg h1, if_neg (by omega)]
theorem V_inverseL {R : Int32} {R2 : Int32} {t0_0 : Int32} {t0_1 : Int32} {t1_0 : (Nat → Int32)} {t2_0 : Int32} {t2_1 : Int32} {t3_0 : (Nat → Int32)} {t4_0 : Int32} {t4_1 : Int32} {t5_0 : (Nat → Int32)} {t6_0 : Int32} {t6_1 : Int32} {t7_0 : (Nat → Int32)} {t8_0 : Int32} {t8_1 : Int32} {t9_0 : (Nat → Int32)} {t10_0 : Int32} {t10_1 : Int32} {t11_0 : (Nat → Int32)} {t12_0 : Int32} {t12_1 : Int32} {t13_0 : (Nat → Int32)} {t14_0 : Int32} {t14_1 : Int32} {t15_0 : (Nat → Int32)} {t16_0 : Int32} {t16_1 : Int32} {t17_0 : (Nat → Int32)} {p88 : (Int32 × Int32 × (Nat → Int32))} {y77 : Int32} {y78 : Int32} {f79 : (Nat → Int32)} {p135 : (Int32 × Int32 × (Nat → Int32) × Int32 × Int32 × (Nat → Int32) × Int32 × Int32 × (Nat → Int32))} {y104 : Int32} {y105 : Int32} {f106 : (Nat → Int32)} {y114 : Int32} {y115 : Int32} {f116 : (Nat → Int32)} {y109 : Int32} {y110 : Int32} {f111 : (Nat → Int32)} {p162 : (Int32 × Int32)} {y154 : Int32} {y155 : Int32} {p185 : (Int32 × Int32 × (Nat → Int32))} {va vm : Int} {M g : Nat} (hm0 : 0 < vm) (hMm : bB M vm) (hM : 2 * M + 2 ≤ 220) (hm : bO R2 y109 y110 f111 vm) : ∀ (n : Nat) (lx215 : Int32) (lx216 : Int32) (lx217 : Int32) (lx218 : (Nat → Int32)) (lx219 : Int32) (lx220 : Int32) (lx221 : (Nat → Int32)) (lx222 : Int32) (lx223 : Int32) (lx224 : (Nat → Int32)) (lx225 : Int32) (lx226 : Int32) (lx227 : (Nat → Int32)) (lx228 : Int32) (lx229 : Int32) (lx230 : (Nat → Int32)) (lx231 : Int32) (lx232 : Int32) (lx233 : (Nat → Int32)), 0 < n → 10000 - lx215.toInt < (n : Int) → 0 ≤ lx215.toInt → lx215.toInt ≤ 10001 → (∃ (h l H L : Int) (m : Nat), bE h l H L vm ∧ bB M h ∧ bO 220 lx222 lx223 lx224 h ∧ bO 220 lx225 lx226 lx227 l ∧ bO 220 lx228 lx229 lx230 H ∧ bO 220 lx231 lx232 lx233 L ∧ Nat.gcd h.natAbs l.natAbs = g ∧ wEu m (h.natAbs : Int) (l.natAbs : Int) ∧ (m : Int) = 10000 - lx215.toInt ∧ iv va vm h H ∧ iv va vm l L) → (S_Mil_inverse_L50 R R2 t0_0 t0_1 t1_0 t2_0 t2_1 t3_0 t4_0 t4_1 t5_0 t6_0 t6_1 t7_0 t8_0 t8_1 t9_0 t10_0 t10_1 t11_0 t12_0 t12_1 t13_0 t14_0 t14_1 t15_0 t16_0 t16_1 t17_0 p88 y77 y78 f79 p135 y104 y105 f106 y114 y115 f116 y109 y110 f111 p162 y154 y155 p185 n lx215 lx216 lx217 lx218 lx219 lx220 lx221 lx222 lx223 lx224 lx225 lx226 lx227 lx228 lx229 lx230 lx231 lx232 lx233) ∧ (F_Mil_inverse_L50 R R2 t0_0 t0_1 t1_0 t2_0 t2_1 t3_0 t4_0 t4_1 t5_0 t6_0 t6_1 t7_0 t8_0 t8_1 t9_0 t10_0 t10_1 t11_0 t12_0 t12_1 t13_0 t14_0 t14_1 t15_0 t16_0 t16_1 t17_0 p88 y77 y78 f79 p135 y104 y105 f106 y114 y115 f116 y109 y110 f111 p162 y154 y155 p185 n lx215 lx216 lx217 lx218 lx219 lx220 lx221 lx222 lx223 lx224 lx225 lx226 lx227 lx228 lx229 lx230 lx231 lx232 lx233).1 = (if g = 1 then 1 else 0) ∧ G8 (fun s n f => ∃ x, vIv va vm g x ∧ bO 220 s n f x) (bI 220) (bI 220) (bI 220) (bI 220) (bI 220) (bI 220) (bW R2 vm) (F_Mil_inverse_L50 R R2 t0_0 t0_1 t1_0 t2_0 t2_1 t3_0 t4_0 t4_1 t5_0 t6_0 t6_1 t7_0 t8_0 t8_1 t9_0 t10_0 t10_1 t11_0 t12_0 t12_1 t13_0 t14_0 t14_1 t15_0 t16_0 t16_1 t17_0 p88 y77 y78 f79 p135 y104 y105 f106 y114 y115 f116 y109 y110 f111 p162 y154 y155 p185 n lx215 lx216 lx217 lx218 lx219 lx220 lx221 lx222 lx223 lx224 lx225 lx226 lx227 lx228 lx229 lx230 lx231 lx232 lx233).2 := by
  have e := e220
  have e0 : (0 : Int32).toInt = 0 := rfl
  have eT := v_eTT
  have sm := hm.sB hMm
  intro n
  induction n with
  | zero => intros; omega
  | succ n ih =>
    intro lx215 lx216 lx217 lx218 lx219 lx220 lx221 lx222 lx223 lx224 lx225 lx226 lx227 lx228 lx229 lx230 lx231 lx232 lx233 hn hl hl0 hl1 hh
    rw [S_Mil_inverse_L50.eq_2, F_Mil_inverse_L50.eq_2]
    obtain ⟨h, l, H, L, m, hE, hB, i1, i2, i3, i4, hg, hU, hmm, v1, v2⟩ := hh
    have hE0 := hE
    obtain ⟨E1, E2, E3, E4, E5⟩ := hE0
    have EL := hE.L
    have s1 := i1.sB hB
    have s2 := i2.sB (hB.le (by omega : l.natAbs ≤ h.natAbs))
    have s3 := i3.sB (hMm.i E4)
    have s4 := i4.sB (hMm.i EL)
    have m1 := hU.ge
    by_cases hj : 10000 ≤ lx215
    · have := q_leI hj
      omega
    rw [if_neg hj, if_neg hj]
    have hj2 := q_nleI hj
    by_cases hk : lx225 ≤ 0
    · rw [if_pos hk, if_pos hk]
      have h135 : S_Mil_modulo (220 : Int32) R2 (220 : Int32) lx216 lx217 lx218 lx228 lx229 lx230 y109 y110 f111 t0_0 t0_1 t1_0 ∧ P3 220 R2 220 ((H.natAbs / vm.natAbs : Nat) : Int) vm (if H.tmod vm < 0 then H.tmod vm + vm else H.tmod vm) (F_Mil_modulo (220 : Int32) R2 (220 : Int32) lx216 lx217 lx218 lx228 lx229 lx230 y109 y110 f111 t0_0 t0_1 t1_0) := T_modulo (M := M) i3 hm (by omega) (hMm.i E4) (by omega) (by omega) (by decide)
      refine v_owe h135.1 ?_
      replace h135 := h135.2
      generalize (F_Mil_modulo (220 : Int32) R2 (220 : Int32) lx216 lx217 lx218 lx228 lx229 lx230 y109 y110 f111 t0_0 t0_1 t1_0) = p396 at h135 ⊢
      unfold S_Mil_inverse_c135_7 F_Mil_inverse_c135_7
      have e9 := v_gcd0 hg (v_sz0 i2 hk)
      exact ⟨trivial, (W_isOne i1).trans (v_one01 (by omega) e9), ⟨_, v_ivE hm0 (by omega) e9 v1, h135.2.2⟩, trivial, trivial, trivial, trivial, trivial, trivial, h135.2.1⟩
    rw [if_neg hk, if_neg hk]
    have w0 := i2.pos.mp (v_nle0 hk)
    have h73 : S_Big_divideBy (220 : Int32) (220 : Int32) (220 : Int32) lx222 lx223 lx224 lx225 lx226 lx227 lx216 lx217 lx218 ∧ P3 220 220 220 (h.tmod l) l ((h.natAbs / l.natAbs : Nat) : Int) (F_Big_divideBy (220 : Int32) (220 : Int32) (220 : Int32) lx222 lx223 lx224 lx225 lx226 lx227 lx216 lx217 lx218) := W_divideBy i1 i2 w0 (by omega) (by omega) (by decide)
    refine v_owe h73.1 ?_
    replace h73 := h73.2
    generalize (F_Big_divideBy (220 : Int32) (220 : Int32) (220 : Int32) lx222 lx223 lx224 lx225 lx226 lx227 lx216 lx217 lx218) = p457 at h73 ⊢
    unfold S_Mil_inverse_c73 F_Mil_inverse_c73
    obtain ⟨hE2, hqL⟩ := hE.step w0
    have sq := h73.2.2.sB (hB.ndiv (v := l))
    have q0 : 0 ≤ ((h.natAbs / l.natAbs : Nat) : Int) := Int.natCast_nonneg _
    have hqr := (v_hqr (h := h) (l := l) (by omega) (by omega)).1
    obtain ⟨m2, em2, hU2⟩ := v_euS hU w0
    have hg2 := v_gcdS hg
    have v3 := v1.step hqr v2
    generalize ((h.natAbs / l.natAbs : Nat) : Int) = q at h73 hE2 hqL sq q0 v3 hqr
    have hB2 : bB M l := hB.le (by omega)
    have h86 : P1 220 (q * L) (F_Big_product (220 : Int32) (220 : Int32) (220 : Int32) lx219 lx220 lx221 (p457.2.2.2.2.2.2.1 : Int32) (p457.2.2.2.2.2.2.2.1 : Int32) (p457.2.2.2.2.2.2.2.2 : (Nat → Int32)) lx231 lx232 lx233) := W_product h73.2.2 i4 (by decide) (by omega)
    generalize (F_Big_product (220 : Int32) (220 : Int32) (220 : Int32) lx219 lx220 lx221 (p457.2.2.2.2.2.2.1 : Int32) (p457.2.2.2.2.2.2.2.1 : Int32) (p457.2.2.2.2.2.2.2.2 : (Nat → Int32)) lx231 lx232 lx233) = p486 at h86 ⊢
    unfold S_Mil_inverse_c86 F_Mil_inverse_c86
    have s86 := h86.sB (hMm.i hqL)
    have h96 : P1 220 (H - q * L) (F_Big_addSigned (220 : Int32) (220 : Int32) (1 : Int32) lx228 lx229 lx230 (p486.1 : Int32) (p486.2.1 : Int32) (p486.2.2 : (Nat → Int32))) := W_add (x := 1) i3 h86 (Or.inr rfl) (by omega) (by omega)
    generalize (F_Big_addSigned (220 : Int32) (220 : Int32) (1 : Int32) lx228 lx229 lx230 (p486.1 : Int32) (p486.2.1 : Int32) (p486.2.2 : (Nat → Int32))) = p509 at h96 ⊢
    unfold S_Mil_inverse_c96 F_Mil_inverse_c96
    have ej : (lx215 + 1 : Int32).toInt = lx215.toInt + 1 := q_addI rfl v_e1 (by omega) (by omega)
    have hE3 := hE2
    obtain ⟨D1, D2, D3, D4, D5⟩ := hE3
    have DL := hE2.L
    generalize h.tmod l = r at h73 hE2 D1 D2 D3 hqr hU2 hg2 v3
    generalize H - q * L = L2 at h96 hE2 D3 D5 DL v3
    have t1 := h73.1.sB (hB2.le (by omega : r.natAbs ≤ l.natAbs))
    have t2 := h73.2.1.sB hB2
    have t4 := h96.sB (hMm.i DL)
    have m3 := hU2.ge
    by_cases hj3 : 10000 ≤ (lx215 + 1 : Int32)
    · have := q_leI hj3
      omega
    rw [if_neg hj3, if_neg hj3]
    have hj4 := q_nleI hj3
    by_cases hk2 : p457.1 ≤ 0
    · rw [if_pos hk2, if_pos hk2]
      have h135 : S_Mil_modulo (220 : Int32) R2 (220 : Int32) (p457.2.2.2.2.2.2.1 : Int32) (p457.2.2.2.2.2.2.2.1 : Int32) (p457.2.2.2.2.2.2.2.2 : (Nat → Int32)) lx231 lx232 lx233 y109 y110 f111 t0_0 t0_1 t1_0 ∧ P3 220 R2 220 ((L.natAbs / vm.natAbs : Nat) : Int) vm (if L.tmod vm < 0 then L.tmod vm + vm else L.tmod vm) (F_Mil_modulo (220 : Int32) R2 (220 : Int32) (p457.2.2.2.2.2.2.1 : Int32) (p457.2.2.2.2.2.2.2.1 : Int32) (p457.2.2.2.2.2.2.2.2 : (Nat → Int32)) lx231 lx232 lx233 y109 y110 f111 t0_0 t0_1 t1_0) := T_modulo (M := M) i4 hm (by omega) (hMm.i EL) (by omega) (by omega) (by decide)
      refine v_owe h135.1 ?_
      replace h135 := h135.2
      generalize (F_Mil_modulo (220 : Int32) R2 (220 : Int32) (p457.2.2.2.2.2.2.1 : Int32) (p457.2.2.2.2.2.2.2.1 : Int32) (p457.2.2.2.2.2.2.2.2 : (Nat → Int32)) lx231 lx232 lx233 y109 y110 f111 t0_0 t0_1 t1_0) = p625 at h135 ⊢
      unfold S_Mil_inverse_c135_12 F_Mil_inverse_c135_12
      have e9 := v_gcd0 hg2 (v_sz0 h73.1 hk2)
      exact ⟨trivial, (W_isOne h73.2.1).trans (v_one01 (by omega) e9), ⟨_, v_ivE hm0 (by omega) e9 v2, h135.2.2⟩, trivial, trivial, trivial, trivial, trivial, trivial, h135.2.1⟩
    rw [if_neg hk2, if_neg hk2]
    have w1 := h73.1.pos.mp (v_nle0 hk2)
    have h13 : S_Big_divideBy (220 : Int32) (220 : Int32) (220 : Int32) (p457.2.2.2.1 : Int32) (p457.2.2.2.2.1 : Int32) (p457.2.2.2.2.2.1 : (Nat → Int32)) (p457.1 : Int32) (p457.2.1 : Int32) (p457.2.2.1 : (Nat → Int32)) (p457.2.2.2.2.2.2.1 : Int32) (p457.2.2.2.2.2.2.2.1 : Int32) (p457.2.2.2.2.2.2.2.2 : (Nat → Int32)) ∧ P3 220 220 220 (l.tmod r) r ((l.natAbs / r.natAbs : Nat) : Int) (F_Big_divideBy (220 : Int32) (220 : Int32) (220 : Int32) (p457.2.2.2.1 : Int32) (p457.2.2.2.2.1 : Int32) (p457.2.2.2.2.2.1 : (Nat → Int32)) (p457.1 : Int32) (p457.2.1 : Int32) (p457.2.2.1 : (Nat → Int32)) (p457.2.2.2.2.2.2.1 : Int32) (p457.2.2.2.2.2.2.2.1 : Int32) (p457.2.2.2.2.2.2.2.2 : (Nat → Int32))) := W_divideBy h73.2.1 h73.1 w1 (by omega) (by omega) (by decide)
    refine v_owe h13.1 ?_
    replace h13 := h13.2
    generalize (F_Big_divideBy (220 : Int32) (220 : Int32) (220 : Int32) (p457.2.2.2.1 : Int32) (p457.2.2.2.2.1 : Int32) (p457.2.2.2.2.2.1 : (Nat → Int32)) (p457.1 : Int32) (p457.2.1 : Int32) (p457.2.2.1 : (Nat → Int32)) (p457.2.2.2.2.2.2.1 : Int32) (p457.2.2.2.2.2.2.2.1 : Int32) (p457.2.2.2.2.2.2.2.2 : (Nat → Int32))) = p685 at h13 ⊢
    unfold S_Mil_inverse_c73_13 F_Mil_inverse_c73_13
    obtain ⟨hE4, hqL2⟩ := hE2.step w1
    have sq2 := h13.2.2.sB (hB2.ndiv (v := r))
    have q02 : 0 ≤ ((l.natAbs / r.natAbs : Nat) : Int) := Int.natCast_nonneg _
    have hqr2 := (v_hqr (h := l) (l := r) (by omega) (by omega)).1
    obtain ⟨m4, em4, hU4⟩ := v_euS hU2 w1
    have v4 := v2.step hqr2 v3
    generalize ((l.natAbs / r.natAbs : Nat) : Int) = q2 at h13 hE4 hqL2 sq2 q02 v4
    have h14 : P1 220 (q2 * L2) (F_Big_product (220 : Int32) (220 : Int32) (220 : Int32) (p486.1 : Int32) (p486.2.1 : Int32) (p486.2.2 : (Nat → Int32)) (p685.2.2.2.2.2.2.1 : Int32) (p685.2.2.2.2.2.2.2.1 : Int32) (p685.2.2.2.2.2.2.2.2 : (Nat → Int32)) (p509.1 : Int32) (p509.2.1 : Int32) (p509.2.2 : (Nat → Int32))) := W_product h13.2.2 h96 (by decide) (by omega)
    generalize (F_Big_product (220 : Int32) (220 : Int32) (220 : Int32) (p486.1 : Int32) (p486.2.1 : Int32) (p486.2.2 : (Nat → Int32)) (p685.2.2.2.2.2.2.1 : Int32) (p685.2.2.2.2.2.2.2.1 : Int32) (p685.2.2.2.2.2.2.2.2 : (Nat → Int32)) (p509.1 : Int32) (p509.2.1 : Int32) (p509.2.2 : (Nat → Int32))) = p714 at h14 ⊢
    unfold S_Mil_inverse_c86_14 F_Mil_inverse_c86_14
    have s14 := h14.sB (hMm.i hqL2)
    have h15 : P1 220 (L - q2 * L2) (F_Big_addSigned (220 : Int32) (220 : Int32) (1 : Int32) lx231 lx232 lx233 (p714.1 : Int32) (p714.2.1 : Int32) (p714.2.2 : (Nat → Int32))) := W_add (x := 1) i4 h14 (Or.inr rfl) (by omega) (by omega)
    generalize (F_Big_addSigned (220 : Int32) (220 : Int32) (1 : Int32) lx231 lx232 lx233 (p714.1 : Int32) (p714.2.1 : Int32) (p714.2.2 : (Nat → Int32))) = p737 at h15 ⊢
    unfold S_Mil_inverse_c96_15 F_Mil_inverse_c96_15
    have ej2 : (lx215 + 1 + 1 : Int32).toInt = lx215.toInt + 1 + 1 := q_addI ej v_e1 (by omega) (by omega)
    exact ih _ _ _ _ _ _ _ _ _ _ _ _ _ _ _ _ _ _ _ (by omega) (by omega) (by omega) (by omega) ⟨_, _, _, _, m4, hE4, hB2.le (by omega : r.natAbs ≤ l.natAbs), h13.2.1, h13.1, h96, h15, v_gcdS hg2, hU4, by omega, v3, v4⟩
theorem V_inverse_aL {R2 : Int32} {t0_0 : Int32} {t0_1 : Int32} {t1_0 : (Nat → Int32)} {t2_0 : Int32} {t2_1 : Int32} {t3_0 : (Nat → Int32)} {t4_0 : Int32} {t4_1 : Int32} {t5_0 : (Nat → Int32)} {t6_0 : Int32} {t6_1 : Int32} {t7_0 : (Nat → Int32)} {t8_0 : Int32} {t8_1 : Int32} {t9_0 : (Nat → Int32)} {t10_0 : Int32} {t10_1 : Int32} {t11_0 : (Nat → Int32)} {t12_0 : Int32} {t12_1 : Int32} {t13_0 : (Nat → Int32)} {t14_0 : Int32} {t14_1 : Int32} {t15_0 : (Nat → Int32)} {p80 : (Int32 × Int32 × (Nat → Int32))} {y69 : Int32} {y70 : Int32} {f71 : (Nat → Int32)} {p125 : (Int32 × Int32 × (Nat → Int32) × Int32 × Int32 × (Nat → Int32) × Int32 × Int32 × (Nat → Int32))} {y94 : Int32} {y95 : Int32} {f96 : (Nat → Int32)} {y104 : Int32} {y105 : Int32} {f106 : (Nat → Int32)} {y99 : Int32} {y100 : Int32} {f101 : (Nat → Int32)} {p152 : (Int32 × Int32)} {y144 : Int32} {y145 : Int32} {p175 : (Int32 × Int32 × (Nat → Int32))} {va vm : Int} {M g : Nat} (hm0 : 0 < vm) (hMm : bB M vm) (hM : 2 * M + 2 ≤ 220) (hm : bO R2 y99 y100 f101 vm) : ∀ (n : Nat) (lx205 : Int32) (lx206 : Int32) (lx207 : Int32) (lx208 : (Nat → Int32)) (lx209 : Int32) (lx210 : Int32) (lx211 : (Nat → Int32)) (lx212 : Int32) (lx213 : Int32) (lx214 : (Nat → Int32)) (lx215 : Int32) (lx216 : Int32) (lx217 : (Nat → Int32)) (lx218 : Int32) (lx219 : Int32) (lx220 : (Nat → Int32)) (lx221 : Int32) (lx222 : Int32) (lx223 : (Nat → Int32)), 0 < n → 10000 - lx205.toInt < (n : Int) → 0 ≤ lx205.toInt → lx205.toInt ≤ 10001 → (∃ (h l H L : Int) (m : Nat), bE h l H L vm ∧ bB M h ∧ bO 220 lx212 lx213 lx214 h ∧ bO 220 lx215 lx216 lx217 l ∧ bO 220 lx218 lx219 lx220 H ∧ bO 220 lx221 lx222 lx223 L ∧ Nat.gcd h.natAbs l.natAbs = g ∧ wEu m (h.natAbs : Int) (l.natAbs : Int) ∧ (m : Int) = 10000 - lx205.toInt ∧ iv va vm h H ∧ iv va vm l L) → (S_Mil_inverse_a_L50 R2 t0_0 t0_1 t1_0 t2_0 t2_1 t3_0 t4_0 t4_1 t5_0 t6_0 t6_1 t7_0 t8_0 t8_1 t9_0 t10_0 t10_1 t11_0 t12_0 t12_1 t13_0 t14_0 t14_1 t15_0 p80 y69 y70 f71 p125 y94 y95 f96 y104 y105 f106 y99 y100 f101 p152 y144 y145 p175 n lx205 lx206 lx207 lx208 lx209 lx210 lx211 lx212 lx213 lx214 lx215 lx216 lx217 lx218 lx219 lx220 lx221 lx222 lx223) ∧ (F_Mil_inverse_a_L50 R2 t0_0 t0_1 t1_0 t2_0 t2_1 t3_0 t4_0 t4_1 t5_0 t6_0 t6_1 t7_0 t8_0 t8_1 t9_0 t10_0 t10_1 t11_0 t12_0 t12_1 t13_0 t14_0 t14_1 t15_0 p80 y69 y70 f71 p125 y94 y95 f96 y104 y105 f106 y99 y100 f101 p152 y144 y145 p175 n lx205 lx206 lx207 lx208 lx209 lx210 lx211 lx212 lx213 lx214 lx215 lx216 lx217 lx218 lx219 lx220 lx221 lx222 lx223).1 = (if g = 1 then 1 else 0) ∧ G8 (fun s n f => ∃ x, vIv va vm g x ∧ bO 220 s n f x) (bI 220) (bI 220) (bI 220) (bI 220) (bI 220) (bI 220) (bW R2 vm) (F_Mil_inverse_a_L50 R2 t0_0 t0_1 t1_0 t2_0 t2_1 t3_0 t4_0 t4_1 t5_0 t6_0 t6_1 t7_0 t8_0 t8_1 t9_0 t10_0 t10_1 t11_0 t12_0 t12_1 t13_0 t14_0 t14_1 t15_0 p80 y69 y70 f71 p125 y94 y95 f96 y104 y105 f106 y99 y100 f101 p152 y144 y145 p175 n lx205 lx206 lx207 lx208 lx209 lx210 lx211 lx212 lx213 lx214 lx215 lx216 lx217 lx218 lx219 lx220 lx221 lx222 lx223).2 := by
  have e := e220
  have e0 : (0 : Int32).toInt = 0 := rfl
  have eT := v_eTT
  have sm := hm.sB hMm
  intro n
  induction n with
  | zero => intros; omega
  | succ n ih =>
    intro lx205 lx206 lx207 lx208 lx209 lx210 lx211 lx212 lx213 lx214 lx215 lx216 lx217 lx218 lx219 lx220 lx221 lx222 lx223 hn hl hl0 hl1 hh
    rw [S_Mil_inverse_a_L50.eq_2, F_Mil_inverse_a_L50.eq_2]
    obtain ⟨h, l, H, L, m, hE, hB, i1, i2, i3, i4, hg, hU, hmm, v1, v2⟩ := hh
    have hE0 := hE
    obtain ⟨E1, E2, E3, E4, E5⟩ := hE0
    have EL := hE.L
    have s1 := i1.sB hB
    have s2 := i2.sB (hB.le (by omega : l.natAbs ≤ h.natAbs))
    have s3 := i3.sB (hMm.i E4)
    have s4 := i4.sB (hMm.i EL)
    have m1 := hU.ge
    by_cases hj : 10000 ≤ lx205
    · have := q_leI hj
      omega
    rw [if_neg hj, if_neg hj]
    have hj2 := q_nleI hj
    by_cases hk : lx215 ≤ 0
    · rw [if_pos hk, if_pos hk]
      have h135 : S_Mil_modulo (220 : Int32) R2 (220 : Int32) lx206 lx207 lx208 lx218 lx219 lx220 y99 y100 f101 t0_0 t0_1 t1_0 ∧ P3 220 R2 220 ((H.natAbs / vm.natAbs : Nat) : Int) vm (if H.tmod vm < 0 then H.tmod vm + vm else H.tmod vm) (F_Mil_modulo (220 : Int32) R2 (220 : Int32) lx206 lx207 lx208 lx218 lx219 lx220 y99 y100 f101 t0_0 t0_1 t1_0) := T_modulo (M := M) i3 hm (by omega) (hMm.i E4) (by omega) (by omega) (by decide)
      refine v_owe h135.1 ?_
      replace h135 := h135.2
      generalize (F_Mil_modulo (220 : Int32) R2 (220 : Int32) lx206 lx207 lx208 lx218 lx219 lx220 y99 y100 f101 t0_0 t0_1 t1_0) = p380 at h135 ⊢
      unfold S_Mil_inverse_a_c135_7 F_Mil_inverse_a_c135_7
      have e9 := v_gcd0 hg (v_sz0 i2 hk)
      exact ⟨trivial, (W_isOne i1).trans (v_one01 (by omega) e9), ⟨_, v_ivE hm0 (by omega) e9 v1, h135.2.2⟩, trivial, trivial, trivial, trivial, trivial, trivial, h135.2.1⟩
    rw [if_neg hk, if_neg hk]
    have w0 := i2.pos.mp (v_nle0 hk)
    have h73 : S_Big_divideBy (220 : Int32) (220 : Int32) (220 : Int32) lx212 lx213 lx214 lx215 lx216 lx217 lx206 lx207 lx208 ∧ P3 220 220 220 (h.tmod l) l ((h.natAbs / l.natAbs : Nat) : Int) (F_Big_divideBy (220 : Int32) (220 : Int32) (220 : Int32) lx212 lx213 lx214 lx215 lx216 lx217 lx206 lx207 lx208) := W_divideBy i1 i2 w0 (by omega) (by omega) (by decide)
    refine v_owe h73.1 ?_
    replace h73 := h73.2
    generalize (F_Big_divideBy (220 : Int32) (220 : Int32) (220 : Int32) lx212 lx213 lx214 lx215 lx216 lx217 lx206 lx207 lx208) = p441 at h73 ⊢
    unfold S_Mil_inverse_a_c73 F_Mil_inverse_a_c73
    obtain ⟨hE2, hqL⟩ := hE.step w0
    have sq := h73.2.2.sB (hB.ndiv (v := l))
    have q0 : 0 ≤ ((h.natAbs / l.natAbs : Nat) : Int) := Int.natCast_nonneg _
    have hqr := (v_hqr (h := h) (l := l) (by omega) (by omega)).1
    obtain ⟨m2, em2, hU2⟩ := v_euS hU w0
    have hg2 := v_gcdS hg
    have v3 := v1.step hqr v2
    generalize ((h.natAbs / l.natAbs : Nat) : Int) = q at h73 hE2 hqL sq q0 v3 hqr
    have hB2 : bB M l := hB.le (by omega)
    have h86 : P1 220 (q * L) (F_Big_product (220 : Int32) (220 : Int32) (220 : Int32) lx209 lx210 lx211 (p441.2.2.2.2.2.2.1 : Int32) (p441.2.2.2.2.2.2.2.1 : Int32) (p441.2.2.2.2.2.2.2.2 : (Nat → Int32)) lx221 lx222 lx223) := W_product h73.2.2 i4 (by decide) (by omega)
    generalize (F_Big_product (220 : Int32) (220 : Int32) (220 : Int32) lx209 lx210 lx211 (p441.2.2.2.2.2.2.1 : Int32) (p441.2.2.2.2.2.2.2.1 : Int32) (p441.2.2.2.2.2.2.2.2 : (Nat → Int32)) lx221 lx222 lx223) = p470 at h86 ⊢
    unfold S_Mil_inverse_a_c86 F_Mil_inverse_a_c86
    have s86 := h86.sB (hMm.i hqL)
    have h96 : P1 220 (H - q * L) (F_Big_addSigned (220 : Int32) (220 : Int32) (1 : Int32) lx218 lx219 lx220 (p470.1 : Int32) (p470.2.1 : Int32) (p470.2.2 : (Nat → Int32))) := W_add (x := 1) i3 h86 (Or.inr rfl) (by omega) (by omega)
    generalize (F_Big_addSigned (220 : Int32) (220 : Int32) (1 : Int32) lx218 lx219 lx220 (p470.1 : Int32) (p470.2.1 : Int32) (p470.2.2 : (Nat → Int32))) = p493 at h96 ⊢
    unfold S_Mil_inverse_a_c96 F_Mil_inverse_a_c96
    have ej : (lx205 + 1 : Int32).toInt = lx205.toInt + 1 := q_addI rfl v_e1 (by omega) (by omega)
    have hE3 := hE2
    obtain ⟨D1, D2, D3, D4, D5⟩ := hE3
    have DL := hE2.L
    generalize h.tmod l = r at h73 hE2 D1 D2 D3 hqr hU2 hg2 v3
    generalize H - q * L = L2 at h96 hE2 D3 D5 DL v3
    have t1 := h73.1.sB (hB2.le (by omega : r.natAbs ≤ l.natAbs))
    have t2 := h73.2.1.sB hB2
    have t4 := h96.sB (hMm.i DL)
    have m3 := hU2.ge
    by_cases hj3 : 10000 ≤ (lx205 + 1 : Int32)
    · have := q_leI hj3
      omega
    rw [if_neg hj3, if_neg hj3]
    have hj4 := q_nleI hj3
    by_cases hk2 : p441.1 ≤ 0
    · rw [if_pos hk2, if_pos hk2]
      have h135 : S_Mil_modulo (220 : Int32) R2 (220 : Int32) (p441.2.2.2.2.2.2.1 : Int32) (p441.2.2.2.2.2.2.2.1 : Int32) (p441.2.2.2.2.2.2.2.2 : (Nat → Int32)) lx221 lx222 lx223 y99 y100 f101 t0_0 t0_1 t1_0 ∧ P3 220 R2 220 ((L.natAbs / vm.natAbs : Nat) : Int) vm (if L.tmod vm < 0 then L.tmod vm + vm else L.tmod vm) (F_Mil_modulo (220 : Int32) R2 (220 : Int32) (p441.2.2.2.2.2.2.1 : Int32) (p441.2.2.2.2.2.2.2.1 : Int32) (p441.2.2.2.2.2.2.2.2 : (Nat → Int32)) lx221 lx222 lx223 y99 y100 f101 t0_0 t0_1 t1_0) := T_modulo (M := M) i4 hm (by omega) (hMm.i EL) (by omega) (by omega) (by decide)
      refine v_owe h135.1 ?_
      replace h135 := h135.2
      generalize (F_Mil_modulo (220 : Int32) R2 (220 : Int32) (p441.2.2.2.2.2.2.1 : Int32) (p441.2.2.2.2.2.2.2.1 : Int32) (p441.2.2.2.2.2.2.2.2 : (Nat → Int32)) lx221 lx222 lx223 y99 y100 f101 t0_0 t0_1 t1_0) = p605 at h135 ⊢
      unfold S_Mil_inverse_a_c135_12 F_Mil_inverse_a_c135_12
      have e9 := v_gcd0 hg2 (v_sz0 h73.1 hk2)
      exact ⟨trivial, (W_isOne h73.2.1).trans (v_one01 (by omega) e9), ⟨_, v_ivE hm0 (by omega) e9 v2, h135.2.2⟩, trivial, trivial, trivial, trivial, trivial, trivial, h135.2.1⟩
    rw [if_neg hk2, if_neg hk2]
    have w1 := h73.1.pos.mp (v_nle0 hk2)
    have h13 : S_Big_divideBy (220 : Int32) (220 : Int32) (220 : Int32) (p441.2.2.2.1 : Int32) (p441.2.2.2.2.1 : Int32) (p441.2.2.2.2.2.1 : (Nat → Int32)) (p441.1 : Int32) (p441.2.1 : Int32) (p441.2.2.1 : (Nat → Int32)) (p441.2.2.2.2.2.2.1 : Int32) (p441.2.2.2.2.2.2.2.1 : Int32) (p441.2.2.2.2.2.2.2.2 : (Nat → Int32)) ∧ P3 220 220 220 (l.tmod r) r ((l.natAbs / r.natAbs : Nat) : Int) (F_Big_divideBy (220 : Int32) (220 : Int32) (220 : Int32) (p441.2.2.2.1 : Int32) (p441.2.2.2.2.1 : Int32) (p441.2.2.2.2.2.1 : (Nat → Int32)) (p441.1 : Int32) (p441.2.1 : Int32) (p441.2.2.1 : (Nat → Int32)) (p441.2.2.2.2.2.2.1 : Int32) (p441.2.2.2.2.2.2.2.1 : Int32) (p441.2.2.2.2.2.2.2.2 : (Nat → Int32))) := W_divideBy h73.2.1 h73.1 w1 (by omega) (by omega) (by decide)
    refine v_owe h13.1 ?_
    replace h13 := h13.2
    generalize (F_Big_divideBy (220 : Int32) (220 : Int32) (220 : Int32) (p441.2.2.2.1 : Int32) (p441.2.2.2.2.1 : Int32) (p441.2.2.2.2.2.1 : (Nat → Int32)) (p441.1 : Int32) (p441.2.1 : Int32) (p441.2.2.1 : (Nat → Int32)) (p441.2.2.2.2.2.2.1 : Int32) (p441.2.2.2.2.2.2.2.1 : Int32) (p441.2.2.2.2.2.2.2.2 : (Nat → Int32))) = p665 at h13 ⊢
    unfold S_Mil_inverse_a_c73_13 F_Mil_inverse_a_c73_13
    obtain ⟨hE4, hqL2⟩ := hE2.step w1
    have sq2 := h13.2.2.sB (hB2.ndiv (v := r))
    have q02 : 0 ≤ ((l.natAbs / r.natAbs : Nat) : Int) := Int.natCast_nonneg _
    have hqr2 := (v_hqr (h := l) (l := r) (by omega) (by omega)).1
    obtain ⟨m4, em4, hU4⟩ := v_euS hU2 w1
    have v4 := v2.step hqr2 v3
    generalize ((l.natAbs / r.natAbs : Nat) : Int) = q2 at h13 hE4 hqL2 sq2 q02 v4
    have h14 : P1 220 (q2 * L2) (F_Big_product (220 : Int32) (220 : Int32) (220 : Int32) (p470.1 : Int32) (p470.2.1 : Int32) (p470.2.2 : (Nat → Int32)) (p665.2.2.2.2.2.2.1 : Int32) (p665.2.2.2.2.2.2.2.1 : Int32) (p665.2.2.2.2.2.2.2.2 : (Nat → Int32)) (p493.1 : Int32) (p493.2.1 : Int32) (p493.2.2 : (Nat → Int32))) := W_product h13.2.2 h96 (by decide) (by omega)
    generalize (F_Big_product (220 : Int32) (220 : Int32) (220 : Int32) (p470.1 : Int32) (p470.2.1 : Int32) (p470.2.2 : (Nat → Int32)) (p665.2.2.2.2.2.2.1 : Int32) (p665.2.2.2.2.2.2.2.1 : Int32) (p665.2.2.2.2.2.2.2.2 : (Nat → Int32)) (p493.1 : Int32) (p493.2.1 : Int32) (p493.2.2 : (Nat → Int32))) = p694 at h14 ⊢
    unfold S_Mil_inverse_a_c86_14 F_Mil_inverse_a_c86_14
    have s14 := h14.sB (hMm.i hqL2)
    have h15 : P1 220 (L - q2 * L2) (F_Big_addSigned (220 : Int32) (220 : Int32) (1 : Int32) lx221 lx222 lx223 (p694.1 : Int32) (p694.2.1 : Int32) (p694.2.2 : (Nat → Int32))) := W_add (x := 1) i4 h14 (Or.inr rfl) (by omega) (by omega)
    generalize (F_Big_addSigned (220 : Int32) (220 : Int32) (1 : Int32) lx221 lx222 lx223 (p694.1 : Int32) (p694.2.1 : Int32) (p694.2.2 : (Nat → Int32))) = p717 at h15 ⊢
    unfold S_Mil_inverse_a_c96_15 F_Mil_inverse_a_c96_15
    have ej2 : (lx205 + 1 + 1 : Int32).toInt = lx205.toInt + 1 + 1 := q_addI ej v_e1 (by omega) (by omega)
    exact ih _ _ _ _ _ _ _ _ _ _ _ _ _ _ _ _ _ _ _ (by omega) (by omega) (by omega) (by omega) ⟨_, _, _, _, m4, hE4, hB2.le (by omega : r.natAbs ≤ l.natAbs), h13.2.1, h13.1, h96, h15, v_gcdS hg2, hU4, by omega, v3, v4⟩
theorem v_iv0 (a m : Int) : iv a m m 0 := ⟨1, by omega⟩
theorem v_iv1 {a m : Int} : iv a m (if a.tmod m < 0 then a.tmod m + m else a.tmod m) 1 := by
  obtain ⟨s, hs⟩ := v_tmE a m
  exact ⟨s, by rw [hs, Int.one_mul]⟩
theorem v_gcdM {a m : Int} : Nat.gcd m.natAbs (if a.tmod m < 0 then a.tmod m + m else a.tmod m).natAbs = Int.gcd a m := by
  obtain ⟨s, hs⟩ := v_tmE a m
  rw [hs]
  show Int.gcd m (a + s * m) = Int.gcd a m
  rw [Int.gcd_add_mul_right_right, Int.gcd_comm]
theorem V_inverse {R : Int32} {R2 : Int32} {t0_0 : Int32} {t0_1 : Int32} {t1_0 : (Nat → Int32)} {t2_0 : Int32} {t2_1 : Int32} {t3_0 : (Nat → Int32)} {t4_0 : Int32} {t4_1 : Int32} {t5_0 : (Nat → Int32)} {t6_0 : Int32} {t6_1 : Int32} {t7_0 : (Nat → Int32)} {t8_0 : Int32} {t8_1 : Int32} {t9_0 : (Nat → Int32)} {t10_0 : Int32} {t10_1 : Int32} {t11_0 : (Nat → Int32)} {t12_0 : Int32} {t12_1 : Int32} {t13_0 : (Nat → Int32)} {t14_0 : Int32} {t14_1 : Int32} {t15_0 : (Nat → Int32)} {t16_0 : Int32} {t16_1 : Int32} {t17_0 : (Nat → Int32)} {va vm : Int} {M : Nat} (ha : bO R t14_0 t14_1 t15_0 va) (hm : bO R2 t16_0 t16_1 t17_0 vm) (hm0 : 0 < vm) (hMa : bB M va) (hMm : bB M vm) (hM : 2 * M + 2 ≤ 220) : (S_Mil_inverse R R2 t0_0 t0_1 t1_0 t2_0 t2_1 t3_0 t4_0 t4_1 t5_0 t6_0 t6_1 t7_0 t8_0 t8_1 t9_0 t10_0 t10_1 t11_0 t12_0 t12_1 t13_0 t14_0 t14_1 t15_0 t16_0 t16_1 t17_0) ∧ (F_Mil_inverse R R2 t0_0 t0_1 t1_0 t2_0 t2_1 t3_0 t4_0 t4_1 t5_0 t6_0 t6_1 t7_0 t8_0 t8_1 t9_0 t10_0 t10_1 t11_0 t12_0 t12_1 t13_0 t14_0 t14_1 t15_0 t16_0 t16_1 t17_0).1 = (if Int.gcd va vm = 1 then 1 else 0) ∧ G8 (fun s n f => ∃ x, vIv va vm (Int.gcd va vm) x ∧ bO 220 s n f x) (bI 220) (bI 220) (bI 220) (bI 220) (bI 220) (bI 220) (bW R2 vm) (F_Mil_inverse R R2 t0_0 t0_1 t1_0 t2_0 t2_1 t3_0 t4_0 t4_1 t5_0 t6_0 t6_1 t7_0 t8_0 t8_1 t9_0 t10_0 t10_1 t11_0 t12_0 t12_1 t13_0 t14_0 t14_1 t15_0 t16_0 t16_1 t17_0).2 := by
  have e := e220
  have sm := hm.sB hMm
  unfold S_Mil_inverse F_Mil_inverse
  have h25 : P1 220 vm (F_Big_copy (220 : Int32) R2 t6_0 t6_1 t7_0 t16_0 t16_1 t17_0) := W_copy hm hm.fit (by decide)
  generalize (F_Big_copy (220 : Int32) R2 t6_0 t6_1 t7_0 t16_0 t16_1 t17_0) = p88 at h25 ⊢
  unfold S_Mil_inverse_c25 F_Mil_inverse_c25
  have h33 : S_Mil_modulo R R2 (220 : Int32) t2_0 t2_1 t3_0 t14_0 t14_1 t15_0 t16_0 t16_1 t17_0 t8_0 t8_1 t9_0 ∧ P3 220 R2 220 ((va.natAbs / vm.natAbs : Nat) : Int) vm (if va.tmod vm < 0 then va.tmod vm + vm else va.tmod vm) (F_Mil_modulo R R2 (220 : Int32) t2_0 t2_1 t3_0 t14_0 t14_1 t15_0 t16_0 t16_1 t17_0 t8_0 t8_1 t9_0) := T_modulo (M := M) ha hm (by omega) hMa (by omega) (by omega) (by decide)
  refine v_owe h33.1 ?_
  replace h33 := h33.2
  generalize (F_Mil_modulo R R2 (220 : Int32) t2_0 t2_1 t3_0 t14_0 t14_1 t15_0 t16_0 t16_1 t17_0 t8_0 t8_1 t9_0) = p135 at h33 ⊢
  unfold S_Mil_inverse_c33 F_Mil_inverse_c33
  have hl := v_mU (H := va) hm0
  have hG := v_gcdM (a := va) (m := vm)
  have hI := v_iv1 (a := va) (m := vm)
  generalize (if va.tmod vm < 0 then va.tmod vm + vm else va.tmod vm) = l at h33 hl hG hI
  have h38 : (fun p => bO 220 p.1 p.2 t11_0 0) (F_Big_clear (220 : Int32) t10_0 t10_1) := W_clear (by decide) (by decide)
  generalize (F_Big_clear (220 : Int32) t10_0 t10_1) = p162 at h38 ⊢
  unfold S_Mil_inverse_c38 F_Mil_inverse_c38
  have h44 : P1 220 1 (F_Big_setLong (220 : Int32) (1 : Int64) t12_0 t12_1 t13_0) := W_setLong (x := 1) (by decide) (by decide)
  generalize (F_Big_setLong (220 : Int32) (1 : Int64) t12_0 t12_1 t13_0) = p185 at h44 ⊢
  unfold S_Mil_inverse_c44 F_Mil_inverse_c44
  exact V_inverseL hm0 hMm hM h33.2.1 _ _ _ _ _ _ _ _ _ _ _ _ _ _ _ _ _ _ _ _ (by decide) (by decide) (by decide) (by decide) ⟨_, _, _, _, 10000, bE.ini hl.1 (by omega), hMm, h25, h33.2.2, h38, h44, hG, v_eu0 hMm (hMm.le (by omega)) (by omega), by decide, v_iv0 va vm, hI⟩
theorem V_inverse_a {R2 : Int32} {t0_0 : Int32} {t0_1 : Int32} {t1_0 : (Nat → Int32)} {t2_0 : Int32} {t2_1 : Int32} {t3_0 : (Nat → Int32)} {t4_0 : Int32} {t4_1 : Int32} {t5_0 : (Nat → Int32)} {t6_0 : Int32} {t6_1 : Int32} {t7_0 : (Nat → Int32)} {t8_0 : Int32} {t8_1 : Int32} {t9_0 : (Nat → Int32)} {t10_0 : Int32} {t10_1 : Int32} {t11_0 : (Nat → Int32)} {t12_0 : Int32} {t12_1 : Int32} {t13_0 : (Nat → Int32)} {t14_0 : Int32} {t14_1 : Int32} {t15_0 : (Nat → Int32)} {vm : Int} {M : Nat} (hm : bO R2 t14_0 t14_1 t15_0 vm) (hm0 : 0 < vm) (hMm : bB M vm) (hM : 2 * M + 2 ≤ 220) : (S_Mil_inverse_a R2 t0_0 t0_1 t1_0 t2_0 t2_1 t3_0 t4_0 t4_1 t5_0 t6_0 t6_1 t7_0 t8_0 t8_1 t9_0 t10_0 t10_1 t11_0 t12_0 t12_1 t13_0 t14_0 t14_1 t15_0) ∧ (F_Mil_inverse_a R2 t0_0 t0_1 t1_0 t2_0 t2_1 t3_0 t4_0 t4_1 t5_0 t6_0 t6_1 t7_0 t8_0 t8_1 t9_0 t10_0 t10_1 t11_0 t12_0 t12_1 t13_0 t14_0 t14_1 t15_0).1 = (if Int.gcd vm vm = 1 then 1 else 0) ∧ G8 (fun s n f => ∃ x, vIv vm vm (Int.gcd vm vm) x ∧ bO 220 s n f x) (bI 220) (bI 220) (bI 220) (bI 220) (bI 220) (bI 220) (bW R2 vm) (F_Mil_inverse_a R2 t0_0 t0_1 t1_0 t2_0 t2_1 t3_0 t4_0 t4_1 t5_0 t6_0 t6_1 t7_0 t8_0 t8_1 t9_0 t10_0 t10_1 t11_0 t12_0 t12_1 t13_0 t14_0 t14_1 t15_0).2 := by
  have e := e220
  have sm := hm.sB hMm
  unfold S_Mil_inverse_a F_Mil_inverse_a
  have h25 : P1 220 vm (F_Big_copy (220 : Int32) R2 t6_0 t6_1 t7_0 t14_0 t14_1 t15_0) := W_copy hm hm.fit (by decide)
  generalize (F_Big_copy (220 : Int32) R2 t6_0 t6_1 t7_0 t14_0 t14_1 t15_0) = p80 at h25 ⊢
  unfold S_Mil_inverse_a_c25 F_Mil_inverse_a_c25
  have h33 : S_Mil_modulo_a R2 (220 : Int32) t2_0 t2_1 t3_0 t14_0 t14_1 t15_0 t8_0 t8_1 t9_0 ∧ P3 220 R2 220 ((vm.natAbs / vm.natAbs : Nat) : Int) vm 0 (F_Mil_modulo_a R2 (220 : Int32) t2_0 t2_1 t3_0 t14_0 t14_1 t15_0 t8_0 t8_1 t9_0) := T_modulo_a (M := M) hm (by omega) hMm (by omega) (by decide)
  refine v_owe h33.1 ?_
  replace h33 := h33.2
  generalize (F_Mil_modulo_a R2 (220 : Int32) t2_0 t2_1 t3_0 t14_0 t14_1 t15_0 t8_0 t8_1 t9_0) = p125 at h33 ⊢
  unfold S_Mil_inverse_a_c33 F_Mil_inverse_a_c33
  have h38 : (fun p => bO 220 p.1 p.2 t11_0 0) (F_Big_clear (220 : Int32) t10_0 t10_1) := W_clear (by decide) (by decide)
  generalize (F_Big_clear (220 : Int32) t10_0 t10_1) = p152 at h38 ⊢
  unfold S_Mil_inverse_a_c38 F_Mil_inverse_a_c38
  have h44 : P1 220 1 (F_Big_setLong (220 : Int32) (1 : Int64) t12_0 t12_1 t13_0) := W_setLong (x := 1) (by decide) (by decide)
  generalize (F_Big_setLong (220 : Int32) (1 : Int64) t12_0 t12_1 t13_0) = p175 at h44 ⊢
  unfold S_Mil_inverse_a_c44 F_Mil_inverse_a_c44
  have hG : Nat.gcd vm.natAbs (0 : Int).natAbs = Int.gcd vm vm := by
    show Nat.gcd vm.natAbs 0 = Nat.gcd vm.natAbs vm.natAbs
    rw [Nat.gcd_zero_right, Nat.gcd_self]
  exact V_inverse_aL hm0 hMm hM h33.2.1 _ _ _ _ _ _ _ _ _ _ _ _ _ _ _ _ _ _ _ _ (by decide) (by decide) (by decide) (by decide) ⟨_, _, _, _, 10000, bE.ini (Int.le_refl 0) hm0, hMm, h25, h33.2.2, h38, h44, hG, v_eu0 hMm (hMm.le (by omega)) (by omega), by decide, v_iv0 vm vm, ⟨-1, by omega⟩⟩
/-! bits, powers modulo m -/
theorem v_limD {f : Nat → Int32} {s j : Nat} (ok : okL f s) (hj : j < s) : (f j).toInt = vB f s / 2147483648 ^ j % 2147483648 := by
  obtain ⟨m, hm⟩ : ∃ m, s = j + (1 + m) := ⟨s - j - 1, by omega⟩
  subst hm
  have h1 := v_split (f := f) (p := j) (n := 1 + m)
  have h2 := v_split (f := fun i => f (j + i)) (p := 1) (n := m)
  have h3 : vB (fun i => f (j + i)) 1 = (f j).toInt := by
    show 0 + (f (j + 0)).toInt * 2147483648 ^ 0 = _
    rw [Nat.add_zero]
    omega
  have h4 : 0 ≤ vB f j := v_nn (ok.mono (by omega))
  have h5 : vB f j < 2147483648 ^ j := v_lt (ok.mono (by omega))
  have h6 := ok j (by omega)
  have h7 := Int32.toInt_lt (f j)
  have hp : (2147483648 : Int) ^ j ≠ 0 := by omega
  rw [h1, Int.add_mul_ediv_left _ _ hp, Int.ediv_eq_zero_of_lt h4 h5, Int.zero_add, h2, h3, Int.pow_one, Int.add_mul_emod_self_left, Int.emod_eq_of_lt h6 (by omega)]
theorem v_bitM (D r : Nat) (h : r < 31) : (D % 2147483648 / 2 ^ r) % 2 = (D / 2 ^ r) % 2 := by
  have h1 : (D % 2147483648).testBit r = D.testBit r := by
    rw [show (2147483648 : Nat) = 2 ^ 31 from rfl, Nat.testBit_mod_two_pow]
    simp [h]
  rw [Nat.testBit_eq_decide_div_mod_eq, Nat.testBit_eq_decide_div_mod_eq] at h1
  have h2 := decide_eq_decide.mp h1
  omega
theorem v_limV {R x s n : Int32} {f : Nat → Int32} {v : Int} {j : Nat} (h : bO R s n f v) (hx : x.toInt = (j : Int)) : (F_Big_limb R x s n f).toInt = ((v.natAbs / 2147483648 ^ j % 2147483648 : Nat) : Int) := by
  have e0 : (0 : Int32).toInt = 0 := rfl
  have hc := q_clI rfl h.s0
  unfold F_Big_limb
  rw [if_neg (fun hh => by have := q_ltI hh; omega)]
  by_cases hs : s ≤ x
  · rw [if_pos hs]
    have h1 := q_leI hs
    have h2 := h.lt (M := s.toNatClampNeg) (by omega)
    have h3 : v.natAbs / 2147483648 ^ j = 0 := Nat.div_eq_of_lt (Nat.lt_of_lt_of_le h2 (Nat.pow_le_pow_right (by decide) (by omega)))
    rw [h3]
    rfl
  · rw [if_neg hs]
    have h1 := q_nleI hs
    have hx2 := q_clI hx (by omega)
    have ej : x.toNatClampNeg = j := by omega
    have c := v_limD (j := j) h.1.2.1 (by omega)
    have ha := h.abs
    unfold bV at ha
    rw [ha] at c
    rw [ej, c, Int.natCast_emod, Int.natCast_ediv, Int.natCast_pow]
    rfl
theorem W_bit {R x s n : Int32} {f : Nat → Int32} {v : Int} {k : Nat} (h : bO R s n f v) (hx : x.toInt = (k : Int)) : F_Big_bit R x s n f = 1 ↔ (v.natAbs / 2 ^ k) % 2 = 1 := by
  have e31 : (31 : Int32).toInt = 31 := rfl
  have d1 : (x / 31 : Int32).toInt = ((k / 31 : Nat) : Int) := by
    rw [q_divI hx e31 (by omega) (by omega)]
    omega
  have d2 : (x - x / 31 * 31 : Int32).toInt = ((k % 31 : Nat) : Int) := by
    rw [v_rem (by omega) (by omega), hx, e31]
    omega
  have hl := v_limV h d1
  have hl2 : (F_Big_limb R (x / 31) s n f).toBitVec.toNat = v.natAbs / 2147483648 ^ (k / 31) % 2147483648 := by
    have := v_natI (x := F_Big_limb R (x / 31) s n f) (by omega)
    omega
  unfold F_Big_bit
  refine (v_bit1 d2 (by omega)).trans ?_
  rw [hl2, v_bitM _ _ (by omega), Nat.div_div_eq_div_mul]
  have e : (2147483648 : Nat) ^ (k / 31) * 2 ^ (k % 31) = 2 ^ k := by
    rw [show (2147483648 : Nat) = 2 ^ 31 from rfl, ← Nat.pow_mul, ← Nat.pow_add]
    congr 1
    omega
  rw [e]
theorem W_blen {R s n : Int32} {f : Nat → Int32} {v : Int} (h : bO R s n f v) : ∃ b : Nat, (F_Big_bitLength R s n f).toInt = (b : Int) ∧ b ≤ 6820 ∧ v.natAbs < 2 ^ b ∧ (v ≠ 0 → 1 ≤ b ∧ 2 ^ (b - 1) ≤ v.natAbs) := by
  obtain ⟨b, b1, b2, b3, b4⟩ := V_bits (R := R) (neg := n) h.1 h.fit
  have hf := h.fit
  have hcl := q_clI rfl h.s0
  have ha := h.abs
  refine ⟨b, b1, by omega, ?_, ?_⟩
  · rw [ha, show (2 : Int) ^ b = ((2 ^ b : Nat) : Int) by rw [Int.natCast_pow]; rfl] at b3
    exact Int.ofNat_lt.mp b3
  · intro hv
    obtain ⟨c1, c2⟩ := b4 (h.pos.mpr hv)
    rw [ha, show (2 : Int) ^ (b - 1) = ((2 ^ (b - 1) : Nat) : Int) by rw [Int.natCast_pow]; rfl] at c2
    exact ⟨c1, Int.ofNat_le.mp c2⟩
theorem v_pmS {vn vm : Int} {h : Nat} {v : Int} (hv : v = vn ^ h % vm) : (v * v).tmod vm = vn ^ (h + h) % vm := by
  rw [Int.tmod_eq_emod_of_nonneg (v_sq0 v), hv, ← Int.mul_emod, ← Int.pow_add]
theorem v_pmM {vn vm w : Int} {h : Nat} (hn : 0 ≤ vn) (hw0 : 0 ≤ w) (hw : w = vn ^ h % vm) : (w * vn).tmod vm = vn ^ (h + 1) % vm := by
  rw [Int.tmod_eq_emod_of_nonneg (Int.mul_nonneg hw0 hn), hw, Int.mul_emod, Int.emod_emod, ← Int.mul_emod, ← Int.pow_succ]
theorem V_powerBelowL {R : Int32} {R2 : Int32} {t0_0 : Int32} {t0_1 : Int32} {t1_0 : (Nat → Int32)} {t2_0 : Int32} {t2_1 : Int32} {t3_0 : (Nat → Int32)} {t4_0 : Int32} {t4_1 : Int32} {t5_0 : (Nat → Int32)} {t6_0 : Int32} {t6_1 : Int32} {t7_0 : (Nat → Int32)} {t8_0 : Int32} {t8_1 : Int32} {t9_0 : (Nat → Int32)} {t10_0 : Int32} {t10_1 : Int32} {t11_0 : (Nat → Int32)} {p64 : (Int32 × Int32 × (Nat → Int32))} {p111 : (Int32 × Int32 × (Nat → Int32) × Int32 × Int32 × (Nat → Int32) × Int32 × Int32 × (Nat → Int32))} {vn vm ve : Int} {M : Nat} (hn : bO 220 t0_0 t0_1 t1_0 vn) (hn0 : 0 ≤ vn) (hv : 0 < vm) (hMn : bB M vn) (hMm : bB M vm) (hM : 2 * M + 2 ≤ 220) (he : bO R t8_0 t8_1 t9_0 ve) : ∀ (n : Nat) (lx139 : Int32) (lx140 : Int32) (lx141 : Int32) (lx142 : (Nat → Int32)) (lx143 : Int32) (lx144 : Int32) (lx145 : (Nat → Int32)) (lx146 : Int32) (lx147 : Int32) (lx148 : (Nat → Int32)) (lx149 : Int32) (lx150 : Int32) (lx151 : (Nat → Int32)), ∀ i : Nat, lx139.toInt = (i : Int) - 1 → i < n → bO 220 lx143 lx144 lx145 (vn ^ (ve.natAbs / 2 ^ i) % vm) → bO R2 lx149 lx150 lx151 vm → (S_Mil_powerBelow_L27 R R2 t0_0 t0_1 t1_0 t2_0 t2_1 t3_0 t4_0 t4_1 t5_0 t6_0 t6_1 t7_0 t8_0 t8_1 t9_0 t10_0 t10_1 t11_0 p64 p111 n lx139 lx140 lx141 lx142 lx143 lx144 lx145 lx146 lx147 lx148 lx149 lx150 lx151) ∧ G5 (bW 220 (vn ^ ve.natAbs % vm)) (bI 220) (bI 220) (bI 220) (bW R2 vm) (F_Mil_powerBelow_L27 R R2 t0_0 t0_1 t1_0 t2_0 t2_1 t3_0 t4_0 t4_1 t5_0 t6_0 t6_1 t7_0 t8_0 t8_1 t9_0 t10_0 t10_1 t11_0 p64 p111 n lx139 lx140 lx141 lx142 lx143 lx144 lx145 lx146 lx147 lx148 lx149 lx150 lx151) := by
  have e := e220
  have e0 : (0 : Int32).toInt = 0 := rfl
  have sn := hn.sB hMn
  have hv0 : vm ≠ 0 := by omega
  intro n
  induction n with
  | zero => intros; omega
  | succ n ih =>
    intro lx139 lx140 lx141 lx142 lx143 lx144 lx145 lx146 lx147 lx148 lx149 lx150 lx151 i hi hin hp hm
    rw [S_Mil_powerBelow_L27.eq_2, F_Mil_powerBelow_L27.eq_2]
    have r0 := Int.emod_nonneg (vn ^ (ve.natAbs / 2 ^ i)) hv0
    have r1 := Int.emod_lt_of_pos (vn ^ (ve.natAbs / 2 ^ i)) hv
    obtain ⟨v, hvE⟩ := q_nm (vn ^ (ve.natAbs / 2 ^ i) % vm)
    rw [hvE] at hp r0 r1
    have sp := hp.sB (hMm.le (by omega : v.natAbs ≤ vm.natAbs))
    by_cases hj : lx139 < 0
    · rw [if_pos hj, if_pos hj]
      have hj2 := q_ltI hj
      have i0 : i = 0 := by omega
      have h122 : P1 220 v (F_Big_copy (220 : Int32) (220 : Int32) t0_0 t0_1 t1_0 lx143 lx144 lx145) := W_copy hp hp.fit (by decide)
      generalize (F_Big_copy (220 : Int32) (220 : Int32) t0_0 t0_1 t1_0 lx143 lx144 lx145) = p210 at h122 ⊢
      unfold S_Mil_powerBelow_c122 F_Mil_powerBelow_c122
      rw [i0, Nat.pow_zero, Nat.div_one] at hvE
      refine ⟨trivial, ?_, trivial, trivial, trivial, hm⟩
      rw [hvE]
      exact h122
    · rw [if_neg hj, if_neg hj]
      have hj2 := q_nltI hj
      obtain ⟨k, rfl⟩ : ∃ k : Nat, i = k + 1 := ⟨i - 1, by omega⟩
      have ek : lx139.toInt = (k : Int) := by omega
      have jt := Int32.toInt_lt lx139
      have ej : (lx139 + (-1) : Int32).toInt = (k : Int) - 1 := by
        rw [q_addI (b := -1) (y := -1) ek (by decide) (by omega) (by omega)]
        omega
      have h43 : P1 220 (v * v) (F_Big_product (220 : Int32) (220 : Int32) (220 : Int32) lx146 lx147 lx148 lx143 lx144 lx145 lx143 lx144 lx145) := W_product hp hp (by decide) (by omega)
      generalize (F_Big_product (220 : Int32) (220 : Int32) (220 : Int32) lx146 lx147 lx148 lx143 lx144 lx145 lx143 lx144 lx145) = p235 at h43 ⊢
      unfold S_Mil_powerBelow_c43 F_Mil_powerBelow_c43
      have s43 := h43.sB ((hMm.le (by omega : v.natAbs ≤ vm.natAbs)).mul (hMm.le (by omega : v.natAbs ≤ vm.natAbs)))
      have h55 : S_Big_divideBy (220 : Int32) R2 (220 : Int32) (p235.1 : Int32) (p235.2.1 : Int32) (p235.2.2 : (Nat → Int32)) lx149 lx150 lx151 lx140 lx141 lx142 ∧ P3 220 R2 220 ((v * v).tmod vm) vm (((v * v).natAbs / vm.natAbs : Nat) : Int) (F_Big_divideBy (220 : Int32) R2 (220 : Int32) (p235.1 : Int32) (p235.2.1 : Int32) (p235.2.2 : (Nat → Int32)) lx149 lx150 lx151 lx140 lx141 lx142) := W_divideBy h43 hm hv0 (by omega) (by omega) (by decide)
      refine v_owe h55.1 ?_
      replace h55 := h55.2
      generalize (F_Big_divideBy (220 : Int32) R2 (220 : Int32) (p235.1 : Int32) (p235.2.1 : Int32) (p235.2.2 : (Nat → Int32)) lx149 lx150 lx151 lx140 lx141 lx142) = p282 at h55 ⊢
      unfold S_Mil_powerBelow_c55 F_Mil_powerBelow_c55
      have t1 := v_tmU (u := v * v) hv0
      have t2 : 0 ≤ (v * v).tmod vm := v_tm0 (v_sq0 v)
      have s55 := h55.1.sB (hMm.le (by omega : ((v * v).tmod vm).natAbs ≤ vm.natAbs))
      have t3 := v_pmS hvE.symm
      generalize (v * v).tmod vm = w at h55 t1 t2 s55 t3
      have hbit := W_bit (x := lx139) he ek
      split
      · rename_i hbt
        have hh := v_halfE (hbit.mp hbt)
        have h79 : P1 220 (w * vn) (F_Big_product (220 : Int32) (220 : Int32) (220 : Int32) lx143 lx144 lx145 (p282.1 : Int32) (p282.2.1 : Int32) (p282.2.2.1 : (Nat → Int32)) t0_0 t0_1 t1_0) := W_product h55.1 hn (by decide) (by omega)
        generalize (F_Big_product (220 : Int32) (220 : Int32) (220 : Int32) lx143 lx144 lx145 (p282.1 : Int32) (p282.2.1 : Int32) (p282.2.2.1 : (Nat → Int32)) t0_0 t0_1 t1_0) = p348 at h79 ⊢
        unfold S_Mil_powerBelow_c79 F_Mil_powerBelow_c79
        have s79 := h79.sB ((hMm.le (by omega : w.natAbs ≤ vm.natAbs)).mul hMn)
        have h91 : S_Big_divideBy (220 : Int32) R2 (220 : Int32) (p348.1 : Int32) (p348.2.1 : Int32) (p348.2.2 : (Nat → Int32)) (p282.2.2.2.1 : Int32) (p282.2.2.2.2.1 : Int32) (p282.2.2.2.2.2.1 : (Nat → Int32)) (p282.2.2.2.2.2.2.1 : Int32) (p282.2.2.2.2.2.2.2.1 : Int32) (p282.2.2.2.2.2.2.2.2 : (Nat → Int32)) ∧ P3 220 R2 220 ((w * vn).tmod vm) vm (((w * vn).natAbs / vm.natAbs : Nat) : Int) (F_Big_divideBy (220 : Int32) R2 (220 : Int32) (p348.1 : Int32) (p348.2.1 : Int32) (p348.2.2 : (Nat → Int32)) (p282.2.2.2.1 : Int32) (p282.2.2.2.2.1 : Int32) (p282.2.2.2.2.2.1 : (Nat → Int32)) (p282.2.2.2.2.2.2.1 : Int32) (p282.2.2.2.2.2.2.2.1 : Int32) (p282.2.2.2.2.2.2.2.2 : (Nat → Int32))) := W_divideBy h79 h55.2.1 hv0 (by omega) (by omega) (by decide)
        refine v_owe h91.1 ?_
        replace h91 := h91.2
        generalize (F_Big_divideBy (220 : Int32) R2 (220 : Int32) (p348.1 : Int32) (p348.2.1 : Int32) (p348.2.2 : (Nat → Int32)) (p282.2.2.2.1 : Int32) (p282.2.2.2.2.1 : Int32) (p282.2.2.2.2.2.1 : (Nat → Int32)) (p282.2.2.2.2.2.2.1 : Int32) (p282.2.2.2.2.2.2.2.1 : Int32) (p282.2.2.2.2.2.2.2.2 : (Nat → Int32))) = p395 at h91 ⊢
        unfold S_Mil_powerBelow_c91 F_Mil_powerBelow_c91
        have t4 := v_pmM hn0 t2 t3
        rw [← hh] at t4
        exact ih _ _ _ _ _ _ _ _ _ _ _ _ _ k ej (Nat.lt_of_succ_lt_succ hin) (by rw [← t4]; exact h91.1) h91.2.1
      · rename_i hbt
        have hh := v_halfO (fun h9 => hbt (hbit.mpr h9))
        have h105 : P1 220 w (F_Big_copy (220 : Int32) (220 : Int32) lx143 lx144 lx145 (p282.1 : Int32) (p282.2.1 : Int32) (p282.2.2.1 : (Nat → Int32))) := W_copy h55.1 h55.1.fit (by decide)
        generalize (F_Big_copy (220 : Int32) (220 : Int32) lx143 lx144 lx145 (p282.1 : Int32) (p282.2.1 : Int32) (p282.2.2.1 : (Nat → Int32))) = p321 at h105 ⊢
        unfold S_Mil_powerBelow_c105 F_Mil_powerBelow_c105
        rw [← hh] at t3
        exact ih _ _ _ _ _ _ _ _ _ _ _ _ _ k ej (Nat.lt_of_succ_lt_succ hin) (by rw [← t3]; exact h105) h55.2.1
theorem V_powerBelow_aL {R2 : Int32} {t0_0 : Int32} {t0_1 : Int32} {t1_0 : (Nat → Int32)} {t2_0 : Int32} {t2_1 : Int32} {t3_0 : (Nat → Int32)} {t4_0 : Int32} {t4_1 : Int32} {t5_0 : (Nat → Int32)} {t6_0 : Int32} {t6_1 : Int32} {t7_0 : (Nat → Int32)} {t8_0 : Int32} {t8_1 : Int32} {t9_0 : (Nat → Int32)} {p56 : (Int32 × Int32 × (Nat → Int32))} {p101 : (Int32 × Int32 × (Nat → Int32) × Int32 × Int32 × (Nat → Int32) × Int32 × Int32 × (Nat → Int32))} {vn vm ve : Int} {M : Nat} (hn : bO 220 t0_0 t0_1 t1_0 vn) (hn0 : 0 ≤ vn) (hv : 0 < vm) (hMn : bB M vn) (hMm : bB M vm) (hM : 2 * M + 2 ≤ 220) (he : ve = vm) : ∀ (n : Nat) (lx129 : Int32) (lx130 : Int32) (lx131 : Int32) (lx132 : (Nat → Int32)) (lx133 : Int32) (lx134 : Int32) (lx135 : (Nat → Int32)) (lx136 : Int32) (lx137 : Int32) (lx138 : (Nat → Int32)) (lx139 : Int32) (lx140 : Int32) (lx141 : (Nat → Int32)), ∀ i : Nat, lx129.toInt = (i : Int) - 1 → i < n → bO 220 lx133 lx134 lx135 (vn ^ (ve.natAbs / 2 ^ i) % vm) → bO R2 lx139 lx140 lx141 vm → (S_Mil_powerBelow_a_L27 R2 t0_0 t0_1 t1_0 t2_0 t2_1 t3_0 t4_0 t4_1 t5_0 t6_0 t6_1 t7_0 t8_0 t8_1 t9_0 p56 p101 n lx129 lx130 lx131 lx132 lx133 lx134 lx135 lx136 lx137 lx138 lx139 lx140 lx141) ∧ G5 (bW 220 (vn ^ ve.natAbs % vm)) (bI 220) (bI 220) (bI 220) (bW R2 vm) (F_Mil_powerBelow_a_L27 R2 t0_0 t0_1 t1_0 t2_0 t2_1 t3_0 t4_0 t4_1 t5_0 t6_0 t6_1 t7_0 t8_0 t8_1 t9_0 p56 p101 n lx129 lx130 lx131 lx132 lx133 lx134 lx135 lx136 lx137 lx138 lx139 lx140 lx141) := by
  have e := e220
  have e0 : (0 : Int32).toInt = 0 := rfl
  have sn := hn.sB hMn
  have hv0 : vm ≠ 0 := by omega
  intro n
  induction n with
  | zero => intros; omega
  | succ n ih =>
    intro lx129 lx130 lx131 lx132 lx133 lx134 lx135 lx136 lx137 lx138 lx139 lx140 lx141 i hi hin hp hm
    rw [S_Mil_powerBelow_a_L27.eq_2, F_Mil_powerBelow_a_L27.eq_2]
    have r0 := Int.emod_nonneg (vn ^ (ve.natAbs / 2 ^ i)) hv0
    have r1 := Int.emod_lt_of_pos (vn ^ (ve.natAbs / 2 ^ i)) hv
    obtain ⟨v, hvE⟩ := q_nm (vn ^ (ve.natAbs / 2 ^ i) % vm)
    rw [hvE] at hp r0 r1
    have sp := hp.sB (hMm.le (by omega : v.natAbs ≤ vm.natAbs))
    by_cases hj : lx129 < 0
    · rw [if_pos hj, if_pos hj]
      have hj2 := q_ltI hj
      have i0 : i = 0 := by omega
      have h122 : P1 220 v (F_Big_copy (220 : Int32) (220 : Int32) t0_0 t0_1 t1_0 lx133 lx134 lx135) := W_copy hp hp.fit (by decide)
      generalize (F_Big_copy (220 : Int32) (220 : Int32) t0_0 t0_1 t1_0 lx133 lx134 lx135) = p198 at h122 ⊢
      unfold S_Mil_powerBelow_a_c122 F_Mil_powerBelow_a_c122
      rw [i0, Nat.pow_zero, Nat.div_one] at hvE
      refine ⟨trivial, ?_, trivial, trivial, trivial, hm⟩
      rw [hvE]
      exact h122
    · rw [if_neg hj, if_neg hj]
      have hj2 := q_nltI hj
      obtain ⟨k, rfl⟩ : ∃ k : Nat, i = k + 1 := ⟨i - 1, by omega⟩
      have ek : lx129.toInt = (k : Int) := by omega
      have jt := Int32.toInt_lt lx129
      have ej : (lx129 + (-1) : Int32).toInt = (k : Int) - 1 := by
        rw [q_addI (b := -1) (y := -1) ek (by decide) (by omega) (by omega)]
        omega
      have h43 : P1 220 (v * v) (F_Big_product (220 : Int32) (220 : Int32) (220 : Int32) lx136 lx137 lx138 lx133 lx134 lx135 lx133 lx134 lx135) := W_product hp hp (by decide) (by omega)
      generalize (F_Big_product (220 : Int32) (220 : Int32) (220 : Int32) lx136 lx137 lx138 lx133 lx134 lx135 lx133 lx134 lx135) = p223 at h43 ⊢
      unfold S_Mil_powerBelow_a_c43 F_Mil_powerBelow_a_c43
      have s43 := h43.sB ((hMm.le (by omega : v.natAbs ≤ vm.natAbs)).mul (hMm.le (by omega : v.natAbs ≤ vm.natAbs)))
      have h55 : S_Big_divideBy (220 : Int32) R2 (220 : Int32) (p223.1 : Int32) (p223.2.1 : Int32) (p223.2.2 : (Nat → Int32)) lx139 lx140 lx141 lx130 lx131 lx132 ∧ P3 220 R2 220 ((v * v).tmod vm) vm (((v * v).natAbs / vm.natAbs : Nat) : Int) (F_Big_divideBy (220 : Int32) R2 (220 : Int32) (p223.1 : Int32) (p223.2.1 : Int32) (p223.2.2 : (Nat → Int32)) lx139 lx140 lx141 lx130 lx131 lx132) := W_divideBy h43 hm hv0 (by omega) (by omega) (by decide)
      refine v_owe h55.1 ?_
      replace h55 := h55.2
      generalize (F_Big_divideBy (220 : Int32) R2 (220 : Int32) (p223.1 : Int32) (p223.2.1 : Int32) (p223.2.2 : (Nat → Int32)) lx139 lx140 lx141 lx130 lx131 lx132) = p268 at h55 ⊢
      unfold S_Mil_powerBelow_a_c55 F_Mil_powerBelow_a_c55
      have t1 := v_tmU (u := v * v) hv0
      have t2 : 0 ≤ (v * v).tmod vm := v_tm0 (v_sq0 v)
      have s55 := h55.1.sB (hMm.le (by omega : ((v * v).tmod vm).natAbs ≤ vm.natAbs))
      have t3 := v_pmS hvE.symm
      generalize (v * v).tmod vm = w at h55 t1 t2 s55 t3
      have hbit := W_bit (x := lx129) (by rw [he]; exact h55.2.1 : bO R2 _ _ _ ve) ek
      split
      · rename_i hbt
        have hh := v_halfE (hbit.mp hbt)
        have h79 : P1 220 (w * vn) (F_Big_product (220 : Int32) (220 : Int32) (220 : Int32) lx133 lx134 lx135 (p268.1 : Int32) (p268.2.1 : Int32) (p268.2.2.1 : (Nat → Int32)) t0_0 t0_1 t1_0) := W_product h55.1 hn (by decide) (by omega)
        generalize (F_Big_product (220 : Int32) (220 : Int32) (220 : Int32) lx133 lx134 lx135 (p268.1 : Int32) (p268.2.1 : Int32) (p268.2.2.1 : (Nat → Int32)) t0_0 t0_1 t1_0) = p334 at h79 ⊢
        unfold S_Mil_powerBelow_a_c79 F_Mil_powerBelow_a_c79
        have s79 := h79.sB ((hMm.le (by omega : w.natAbs ≤ vm.natAbs)).mul hMn)
        have h91 : S_Big_divideBy (220 : Int32) R2 (220 : Int32) (p334.1 : Int32) (p334.2.1 : Int32) (p334.2.2 : (Nat → Int32)) (p268.2.2.2.1 : Int32) (p268.2.2.2.2.1 : Int32) (p268.2.2.2.2.2.1 : (Nat → Int32)) (p268.2.2.2.2.2.2.1 : Int32) (p268.2.2.2.2.2.2.2.1 : Int32) (p268.2.2.2.2.2.2.2.2 : (Nat → Int32)) ∧ P3 220 R2 220 ((w * vn).tmod vm) vm (((w * vn).natAbs / vm.natAbs : Nat) : Int) (F_Big_divideBy (220 : Int32) R2 (220 : Int32) (p334.1 : Int32) (p334.2.1 : Int32) (p334.2.2 : (Nat → Int32)) (p268.2.2.2.1 : Int32) (p268.2.2.2.2.1 : Int32) (p268.2.2.2.2.2.1 : (Nat → Int32)) (p268.2.2.2.2.2.2.1 : Int32) (p268.2.2.2.2.2.2.2.1 : Int32) (p268.2.2.2.2.2.2.2.2 : (Nat → Int32))) := W_divideBy h79 h55.2.1 hv0 (by omega) (by omega) (by decide)
        refine v_owe h91.1 ?_
        replace h91 := h91.2
        generalize (F_Big_divideBy (220 : Int32) R2 (220 : Int32) (p334.1 : Int32) (p334.2.1 : Int32) (p334.2.2 : (Nat → Int32)) (p268.2.2.2.1 : Int32) (p268.2.2.2.2.1 : Int32) (p268.2.2.2.2.2.1 : (Nat → Int32)) (p268.2.2.2.2.2.2.1 : Int32) (p268.2.2.2.2.2.2.2.1 : Int32) (p268.2.2.2.2.2.2.2.2 : (Nat → Int32))) = p379 at h91 ⊢
        unfold S_Mil_powerBelow_a_c91 F_Mil_powerBelow_a_c91
        have t4 := v_pmM hn0 t2 t3
        rw [← hh] at t4
        exact ih _ _ _ _ _ _ _ _ _ _ _ _ _ k ej (Nat.lt_of_succ_lt_succ hin) (by rw [← t4]; exact h91.1) h91.2.1
      · rename_i hbt
        have hh := v_halfO (fun h9 => hbt (hbit.mpr h9))
        have h105 : P1 220 w (F_Big_copy (220 : Int32) (220 : Int32) lx133 lx134 lx135 (p268.1 : Int32) (p268.2.1 : Int32) (p268.2.2.1 : (Nat → Int32))) := W_copy h55.1 h55.1.fit (by decide)
        generalize (F_Big_copy (220 : Int32) (220 : Int32) lx133 lx134 lx135 (p268.1 : Int32) (p268.2.1 : Int32) (p268.2.2.1 : (Nat → Int32))) = p307 at h105 ⊢
        unfold S_Mil_powerBelow_a_c105 F_Mil_powerBelow_a_c105
        rw [← hh] at t3
        exact ih _ _ _ _ _ _ _ _ _ _ _ _ _ k ej (Nat.lt_of_succ_lt_succ hin) (by rw [← t3]; exact h105) h55.2.1
theorem V_powerBelow {R : Int32} {R2 : Int32} {t0_0 : Int32} {t0_1 : Int32} {t1_0 : (Nat → Int32)} {t2_0 : Int32} {t2_1 : Int32} {t3_0 : (Nat → Int32)} {t4_0 : Int32} {t4_1 : Int32} {t5_0 : (Nat → Int32)} {t6_0 : Int32} {t6_1 : Int32} {t7_0 : (Nat → Int32)} {t8_0 : Int32} {t8_1 : Int32} {t9_0 : (Nat → Int32)} {t10_0 : Int32} {t10_1 : Int32} {t11_0 : (Nat → Int32)} {vn vm ve : Int} {M : Nat} (hn : bO 220 t0_0 t0_1 t1_0 vn) (hn0 : 0 ≤ vn) (hm : bO R2 t10_0 t10_1 t11_0 vm) (he : bO R t8_0 t8_1 t9_0 ve) (hv : 0 < vm) (hMn : bB M vn) (hMm : bB M vm) (hM : 2 * M + 2 ≤ 220) : (S_Mil_powerBelow R R2 t0_0 t0_1 t1_0 t2_0 t2_1 t3_0 t4_0 t4_1 t5_0 t6_0 t6_1 t7_0 t8_0 t8_1 t9_0 t10_0 t10_1 t11_0) ∧ G5 (bW 220 (vn ^ ve.natAbs % vm)) (bI 220) (bI 220) (bI 220) (bW R2 vm) (F_Mil_powerBelow R R2 t0_0 t0_1 t1_0 t2_0 t2_1 t3_0 t4_0 t4_1 t5_0 t6_0 t6_1 t7_0 t8_0 t8_1 t9_0 t10_0 t10_1 t11_0) := by
  have e := e220
  unfold S_Mil_powerBelow F_Mil_powerBelow
  have h5 : P1 220 1 (F_Big_setLong (220 : Int32) (1 : Int64) t4_0 t4_1 t5_0) := W_setLong (x := 1) (by decide) (by decide)
  generalize (F_Big_setLong (220 : Int32) (1 : Int64) t4_0 t4_1 t5_0) = p64 at h5 ⊢
  unfold S_Mil_powerBelow_c5 F_Mil_powerBelow_c5
  have b1 : bB 1 1 := by
    show 1 < 2147483648 ^ 1
    decide
  have s5 := h5.sB b1
  have h17 : S_Big_divideBy (220 : Int32) R2 (220 : Int32) (p64.1 : Int32) (p64.2.1 : Int32) (p64.2.2 : (Nat → Int32)) t10_0 t10_1 t11_0 t2_0 t2_1 t3_0 ∧ P3 220 R2 220 ((1 : Int).tmod vm) vm (((1 : Int).natAbs / vm.natAbs : Nat) : Int) (F_Big_divideBy (220 : Int32) R2 (220 : Int32) (p64.1 : Int32) (p64.2.1 : Int32) (p64.2.2 : (Nat → Int32)) t10_0 t10_1 t11_0 t2_0 t2_1 t3_0) := W_divideBy h5 hm (by omega) (by omega) (by omega) (by decide)
  refine v_owe h17.1 ?_
  replace h17 := h17.2
  generalize (F_Big_divideBy (220 : Int32) R2 (220 : Int32) (p64.1 : Int32) (p64.2.1 : Int32) (p64.2.2 : (Nat → Int32)) t10_0 t10_1 t11_0 t2_0 t2_1 t3_0) = p111 at h17 ⊢
  unfold S_Mil_powerBelow_c17 F_Mil_powerBelow_c17
  obtain ⟨b, c1, c2, c3, _⟩ := W_blen he
  have k1 := q_subI (b := 1) (y := 1) c1 rfl (by omega) (by omega)
  have h0 : ve.natAbs / 2 ^ b = 0 := Nat.div_eq_of_lt c3
  refine V_powerBelowL (ve := ve) hn hn0 hv hMn hMm hM he _ _ _ _ _ _ _ _ _ _ _ _ _ _ b k1 (by omega) ?_ h17.2.1
  rw [h0, Int.pow_zero, ← Int.tmod_eq_emod_of_nonneg (by decide)]
  exact h17.1
theorem V_powerBelow_a {R2 : Int32} {t0_0 : Int32} {t0_1 : Int32} {t1_0 : (Nat → Int32)} {t2_0 : Int32} {t2_1 : Int32} {t3_0 : (Nat → Int32)} {t4_0 : Int32} {t4_1 : Int32} {t5_0 : (Nat → Int32)} {t6_0 : Int32} {t6_1 : Int32} {t7_0 : (Nat → Int32)} {t8_0 : Int32} {t8_1 : Int32} {t9_0 : (Nat → Int32)} {vn vm ve : Int} {M : Nat} (hn : bO 220 t0_0 t0_1 t1_0 vn) (hn0 : 0 ≤ vn) (hm : bO R2 t8_0 t8_1 t9_0 vm)  (hv : 0 < vm) (hMn : bB M vn) (hMm : bB M vm) (hM : 2 * M + 2 ≤ 220) : (S_Mil_powerBelow_a R2 t0_0 t0_1 t1_0 t2_0 t2_1 t3_0 t4_0 t4_1 t5_0 t6_0 t6_1 t7_0 t8_0 t8_1 t9_0) ∧ G5 (bW 220 (vn ^ vm.natAbs % vm)) (bI 220) (bI 220) (bI 220) (bW R2 vm) (F_Mil_powerBelow_a R2 t0_0 t0_1 t1_0 t2_0 t2_1 t3_0 t4_0 t4_1 t5_0 t6_0 t6_1 t7_0 t8_0 t8_1 t9_0) := by
  have e := e220
  unfold S_Mil_powerBelow_a F_Mil_powerBelow_a
  have h5 : P1 220 1 (F_Big_setLong (220 : Int32) (1 : Int64) t4_0 t4_1 t5_0) := W_setLong (x := 1) (by decide) (by decide)
  generalize (F_Big_setLong (220 : Int32) (1 : Int64) t4_0 t4_1 t5_0) = p56 at h5 ⊢
  unfold S_Mil_powerBelow_a_c5 F_Mil_powerBelow_a_c5
  have b1 : bB 1 1 := by
    show 1 < 2147483648 ^ 1
    decide
  have s5 := h5.sB b1
  have h17 : S_Big_divideBy (220 : Int32) R2 (220 : Int32) (p56.1 : Int32) (p56.2.1 : Int32) (p56.2.2 : (Nat → Int32)) t8_0 t8_1 t9_0 t2_0 t2_1 t3_0 ∧ P3 220 R2 220 ((1 : Int).tmod vm) vm (((1 : Int).natAbs / vm.natAbs : Nat) : Int) (F_Big_divideBy (220 : Int32) R2 (220 : Int32) (p56.1 : Int32) (p56.2.1 : Int32) (p56.2.2 : (Nat → Int32)) t8_0 t8_1 t9_0 t2_0 t2_1 t3_0) := W_divideBy h5 hm (by omega) (by omega) (by omega) (by decide)
  refine v_owe h17.1 ?_
  replace h17 := h17.2
  generalize (F_Big_divideBy (220 : Int32) R2 (220 : Int32) (p56.1 : Int32) (p56.2.1 : Int32) (p56.2.2 : (Nat → Int32)) t8_0 t8_1 t9_0 t2_0 t2_1 t3_0) = p101 at h17 ⊢
  unfold S_Mil_powerBelow_a_c17 F_Mil_powerBelow_a_c17
  obtain ⟨b, c1, c2, c3, _⟩ := W_blen h17.2.1
  have k1 := q_subI (b := 1) (y := 1) c1 rfl (by omega) (by omega)
  have h0 : vm.natAbs / 2 ^ b = 0 := Nat.div_eq_of_lt c3
  refine V_powerBelow_aL (ve := vm) hn hn0 hv hMn hMm hM rfl _ _ _ _ _ _ _ _ _ _ _ _ _ _ b k1 (by omega) ?_ h17.2.1
  rw [h0, Int.pow_zero, ← Int.tmod_eq_emod_of_nonneg (by decide)]
  exact h17.1
