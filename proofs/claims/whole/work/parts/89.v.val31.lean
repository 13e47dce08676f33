/-! values: Newton's root -/
theorem v_64 : (64 : Int32).toInt = 64 := rfl
theorem v_6820 : (6820 : Int32).toInt = 6820 := rfl
/-- the power of a root that is small enough -/
theorem v_rp {r : Int} {k N M : Nat} (h : r.natAbs ≤ 2 ^ N) (hk : N * k < 31 * M) : bB M (r ^ k) := by
  unfold bB
  rw [Int.natAbs_pow]
  have e : (2147483648 : Nat) ^ M = 2 ^ (31 * M) := by rw [Nat.pow_mul]
  rw [e]
  have h1 : r.natAbs ^ k ≤ (2 ^ N) ^ k := Nat.pow_le_pow_left h k
  rw [← Nat.pow_mul] at h1
  exact Nat.lt_of_le_of_lt h1 (Nat.pow_lt_pow_right (by decide) hk)
theorem v_rB {r : Int} {N M : Nat} (h : r.natAbs ≤ 2 ^ N) (hk : N < 31 * M) : bB M r := by
  have := v_rp (k := 1) (M := M) h (by omega)
  rw [Int.pow_succ, Int.pow_zero, Int.one_mul] at this
  exact this
theorem v_nw1 {n r q a : Nat} {w : Nat} (hn : 2 ≤ n) (hr : 1 ≤ r) (hq : r = 1 → q = a) (ha : 1 ≤ a) (hw : w = ((n - 1) * r + q) / n) : 1 ≤ w := by
  rw [hw]
  apply (Nat.le_div_iff_mul_le (by omega)).mpr
  by_cases h : r = 1
  · rw [hq h, h]
    omega
  · have : (n - 1) * 2 ≤ (n - 1) * r := Nat.mul_le_mul_left _ (by omega)
    omega
theorem T_rootL {R : Int32} {x3 : Int32} {t0_0 : Int32} {t0_1 : Int32} {t1_0 : (Nat → Int32)} {t2_0 : Int32} {t2_1 : Int32} {t3_0 : (Nat → Int32)} {t4_0 : Int32} {t4_1 : Int32} {t5_0 : (Nat → Int32)} {t6_0 : Int32} {t6_1 : Int32} {t7_0 : (Nat → Int32)} {t8_0 : Int32} {t8_1 : Int32} {t9_0 : (Nat → Int32)} {t10_0 : Int32} {t10_1 : Int32} {t11_0 : (Nat → Int32)} {t12_0 : Int32} {t12_1 : Int32} {t13_0 : (Nat → Int32)} {p72 : (Int32 × Int32 × (Nat → Int32))} {p101 : (Int32 × Int32 × (Nat → Int32))} {p140 : (Int32 × Int32 × (Nat → Int32))} {va : Int} {Ma N : Nat} (ha : bO R t12_0 t12_1 t13_0 va) (hva : va ≠ 0) (hMa : bB Ma va) (hM1 : 1 ≤ Ma) (hMa2 : Ma + 4 ≤ 220) (hx : 2 ≤ x3.toInt) (hx2 : x3.toInt ≤ 64) (hN : N * (x3.toInt.toNat - 1) < 31 * (Ma + 3)) (hN2 : N < 31 * (Ma + 1)) : ∀ (n : Nat) (lx151 : Int32) (lx152 : Int32) (lx153 : Int32) (lx154 : (Nat → Int32)) (lx155 : Int32) (lx156 : Int32) (lx157 : (Nat → Int32)) (lx158 : Int32) (lx159 : Int32) (lx160 : (Nat → Int32)) (lx161 : Int32) (lx162 : Int32) (lx163 : (Nat → Int32)) (lx164 : Int32) (lx165 : Int32) (lx166 : (Nat → Int32)) (lx167 : Int32) (lx168 : Int32) (lx169 : (Nat → Int32)), 10000 - lx151.toInt < (n : Int) → 0 ≤ lx151.toInt → lx151.toInt ≤ 10000 → (∃ r : Int, 1 ≤ r ∧ r.natAbs ≤ 2 ^ N ∧ bO 220 lx152 lx153 lx154 r) → bI 220 lx155 lx156 lx157 → bI 220 lx158 lx159 lx160 → bI 220 lx161 lx162 lx163 → bI 220 lx164 lx165 lx166 → bI 220 lx167 lx168 lx169 → (S_Mil_root_L48 R x3 t0_0 t0_1 t1_0 t2_0 t2_1 t3_0 t4_0 t4_1 t5_0 t6_0 t6_1 t7_0 t8_0 t8_1 t9_0 t10_0 t10_1 t11_0 t12_0 t12_1 t13_0 p72 p101 p140 n lx151 lx152 lx153 lx154 lx155 lx156 lx157 lx158 lx159 lx160 lx161 lx162 lx163 lx164 lx165 lx166 lx167 lx168 lx169) ∧ G6 (fun s n f => ∃ r : Int, 1 ≤ r ∧ r.natAbs ≤ 2 ^ N ∧ bO 220 s n f r) (bI 220) (bI 220) (bI 220) (bI 220) (bI 220) (F_Mil_root_L48 R x3 t0_0 t0_1 t1_0 t2_0 t2_1 t3_0 t4_0 t4_1 t5_0 t6_0 t6_1 t7_0 t8_0 t8_1 t9_0 t10_0 t10_1 t11_0 t12_0 t12_1 t13_0 p72 p101 p140 n lx151 lx152 lx153 lx154 lx155 lx156 lx157 lx158 lx159 lx160 lx161 lx162 lx163 lx164 lx165 lx166 lx167 lx168 lx169) := by
  have e := e220
  have e0 : (0 : Int32).toInt = 0 := rfl
  have eT := v_eTT
  have e68 := v_6820
  have sa := ha.sB hMa
  have ex : (x3 - 1 : Int32).toInt = x3.toInt - 1 := q_subI rfl v_e1 (by omega) (by omega)
  have exn : (x3 - 1 : Int32).toInt.toNat = x3.toInt.toNat - 1 := by omega
  intro n
  induction n with
  | zero => intros; omega
  | succ n ih =>
    intro lx151 lx152 lx153 lx154 lx155 lx156 lx157 lx158 lx159 lx160 lx161 lx162 lx163 lx164 lx165 lx166 lx167 lx168 lx169 hn hl hl2 hr i1 i2 i3 i4 i5
    rw [S_Mil_root_L48.eq_2, F_Mil_root_L48.eq_2]
    by_cases hj : 10000 ≤ lx151
    · rw [if_pos hj, if_pos hj]
      exact ⟨trivial, hr, i1, i2, i3, i4, i5⟩
    rw [if_neg hj, if_neg hj]
    have hj2 := q_nleI hj
    obtain ⟨r, r1, r2, r3⟩ := hr
    have hrB : bB (Ma + 1) r := v_rB r2 hN2
    have sr := r3.sB hrB
    have hpB : bB (Ma + 2 + 1) (r ^ (x3 - 1 : Int32).toInt.toNat) := by
      rw [exn]
      exact v_rp r2 hN
    have hp := T_powerR (x3 := x3 - 1) (x4 := 6820) (t0_0 := lx155) (t0_1 := lx156) (t1_0 := lx157) r3 (by omega) (by omega) (by decide) i2 hpB (by omega)
    obtain ⟨v, q0, q1⟩ := hp
    have hv : v = r ^ (x3 - 1 : Int32).toInt.toNat := by
      rcases q0 with ⟨_, e1, he1, he2⟩ | ⟨_, h2, _⟩
      · have h3 := v_powA (v := r) (by omega) he1
        have h4 : (r ^ (x3 - 1 : Int32).toInt.toNat).natAbs < 2 ^ (31 * (Ma + 2 + 1)) := by
          have := hpB
          unfold bB at this
          rw [Nat.pow_mul]
          exact this
        have h5 : (2 : Nat) ^ (31 * (Ma + 2 + 1)) ≤ 2 ^ (6820 : Int32).toInt.toNat := Nat.pow_le_pow_right (by decide) (by rw [e68]; omega)
        omega
      · exact h2
    have hv0 : v ≠ 0 := by
      rw [hv]
      exact Int.pow_ne_zero (by omega)
    have hv1 : r = 1 → v = 1 := fun h => by rw [hv, h, Int.one_pow]
    clear q0
    generalize F_Mil_power 220 (x3 - 1) 6820 lx155 lx156 lx157 lx158 lx159 lx160 lx152 lx153 lx154 = p257 at q1 ⊢
    unfold S_Mil_root_c66 F_Mil_root_c66
    have h75 : P1 220 va (F_Big_copy (220 : Int32) R lx161 lx162 lx163 t12_0 t12_1 t13_0) := W_copy ha ha.fit (by decide)
    generalize (F_Big_copy (220 : Int32) R lx161 lx162 lx163 t12_0 t12_1 t13_0) = p285 at h75 ⊢
    unfold S_Mil_root_c75 F_Mil_root_c75
    have s75 := h75.sB hMa
    have h90 : S_Big_divideBy (220 : Int32) (220 : Int32) (220 : Int32) (p285.1 : Int32) (p285.2.1 : Int32) (p285.2.2 : (Nat → Int32)) (p257.2.1 : Int32) (p257.2.2.1 : Int32) (p257.2.2.2.1 : (Nat → Int32)) lx167 lx168 lx169 ∧ P3 220 220 220 (va.tmod v) v ((va.natAbs / v.natAbs : Nat) : Int) (F_Big_divideBy (220 : Int32) (220 : Int32) (220 : Int32) (p285.1 : Int32) (p285.2.1 : Int32) (p285.2.2 : (Nat → Int32)) (p257.2.1 : Int32) (p257.2.2.1 : Int32) (p257.2.2.2.1 : (Nat → Int32)) lx167 lx168 lx169) := W_divideBy h75 q1 hv0 (by omega) (by omega) (by decide)
    refine v_owe h90.1 ?_
    replace h90 := h90.2
    generalize (F_Big_divideBy (220 : Int32) (220 : Int32) (220 : Int32) (p285.1 : Int32) (p285.2.1 : Int32) (p285.2.2 : (Nat → Int32)) (p257.2.1 : Int32) (p257.2.2.1 : Int32) (p257.2.2.2.1 : (Nat → Int32)) lx167 lx168 lx169) = p330 at h90 ⊢
    unfold S_Mil_root_c90 F_Mil_root_c90
    have hqB := hMa.ndiv (v := v)
    have sq := h90.2.2.sB hqB
    have h101 : P1 220 r (F_Big_copy (220 : Int32) (220 : Int32) lx164 lx165 lx166 lx152 lx153 lx154) := W_copy r3 r3.fit (by decide)
    generalize (F_Big_copy (220 : Int32) (220 : Int32) lx164 lx165 lx166 lx152 lx153 lx154) = p360 at h101 ⊢
    unfold S_Mil_root_c101 F_Mil_root_c101
    have s101 := h101.sB hrB
    have h112 : P1 220 ((x3 - 1 : Int32).toInt * r + (0 : Int32).toInt) (F_Big_multiplySmall (220 : Int32) (x3 - 1 : Int32) (0 : Int32) (p360.1 : Int32) (p360.2.1 : Int32) (p360.2.2 : (Nat → Int32))) := W_mulS h101 (by omega) (by omega) (by decide) (by omega)
    generalize (F_Big_multiplySmall (220 : Int32) (x3 - 1 : Int32) (0 : Int32) (p360.1 : Int32) (p360.2.1 : Int32) (p360.2.2 : (Nat → Int32))) = p387 at h112 ⊢
    unfold S_Mil_root_c112 F_Mil_root_c112
    have hmn : 0 ≤ (x3.toInt - 1) * r := Int.mul_nonneg (by omega) (by omega)
    rw [ex, e0, Int.add_zero] at h112
    have hmB : bB (1 + (Ma + 1)) ((x3.toInt - 1) * r) := bB.mul (show (x3.toInt - 1).natAbs < 2147483648 ^ 1 by omega) hrB
    have s112 := h112.sB hmB
    have h123 : P1 220 ((x3.toInt - 1) * r + (((va.natAbs / v.natAbs : Nat) : Int).natAbs : Int)) (F_Big_addSize (220 : Int32) (220 : Int32) (p387.1 : Int32) (p387.2.1 : Int32) (p387.2.2 : (Nat → Int32)) (p330.2.2.2.2.2.2.1 : Int32) (p330.2.2.2.2.2.2.2.1 : Int32) (p330.2.2.2.2.2.2.2.2 : (Nat → Int32))) := W_addSize h112 hmn h90.2.2 (by omega) (by omega)
    generalize (F_Big_addSize (220 : Int32) (220 : Int32) (p387.1 : Int32) (p387.2.1 : Int32) (p387.2.2 : (Nat → Int32)) (p330.2.2.2.2.2.2.1 : Int32) (p330.2.2.2.2.2.2.2.1 : Int32) (p330.2.2.2.2.2.2.2.2 : (Nat → Int32))) = p410 at h123 ⊢
    unfold S_Mil_root_c123 F_Mil_root_c123
    have hd := W_divS (x := x3) h123 (by omega)
    generalize F_Big_divideSmall 220 x3 p410.1 p410.2.1 p410.2.2 = p434 at hd ⊢
    obtain ⟨_, w2, d2, d3, d4, d5⟩ := hd
    unfold S_Mil_root_c131 F_Mil_root_c131
    have hcm := W_cmp (R := 220) (R2 := 220) d5 r3
    by_cases hc : F_Big_compareSize 220 220 p434.2.1 p434.2.2.1 p434.2.2.2 lx152 lx153 lx154 < 0
    · rw [if_pos hc, if_pos hc]
      have hc2 := q_ltI hc
      have hw1 : 1 ≤ w2.natAbs := by
        refine v_nw1 (n := x3.toInt.toNat) (r := r.natAbs) (q := va.natAbs / v.natAbs) (a := va.natAbs) (by omega) (by omega) (fun h => ?_) (by omega) ?_
        · rw [hv1 (by omega)]
          exact Nat.div_one _
        · rw [d2]
          congr 1
          rw [Int.natAbs_natCast]
          have h8 : (x3.toInt - 1) * r = (((x3.toInt.toNat - 1) * r.natAbs : Nat) : Int) := by
            rw [Int.natCast_mul]
            congr 1
            · omega
            · omega
          rw [h8, ← Int.natCast_add, Int.natAbs_natCast]
      have hw0 : 0 ≤ w2 := d3 (Int.add_nonneg hmn (Int.natCast_nonneg _))
      have h158 : P1 220 w2 (F_Big_copy (220 : Int32) (220 : Int32) lx152 lx153 lx154 (p434.2.1 : Int32) (p434.2.2.1 : Int32) (p434.2.2.2 : (Nat → Int32))) := W_copy d5 d5.fit (by decide)
      generalize (F_Big_copy (220 : Int32) (220 : Int32) lx152 lx153 lx154 (p434.2.1 : Int32) (p434.2.2.1 : Int32) (p434.2.2.2 : (Nat → Int32))) = p468 at h158 ⊢
      unfold S_Mil_root_c158 F_Mil_root_c158
      have ej : (lx151 + 1 : Int32).toInt = lx151.toInt + 1 := q_addI rfl v_e1 (by omega) (by omega)
      exact ih _ _ _ _ _ _ _ _ _ _ _ _ _ _ _ _ _ _ _ (by omega) (by omega) (by omega) ⟨w2, by omega, by omega, h158⟩ h90.2.1.I trivial h90.1.I d5.I h90.2.2.I
    · rw [if_neg hc, if_neg hc]
      exact ⟨trivial, ⟨r, r1, r2, r3⟩, h90.2.1.I, trivial, h90.1.I, d5.I, h90.2.2.I⟩
theorem v_cd {b n : Nat} (hn : 2 ≤ n) : (b + n - 1) / n * (n - 1) ≤ b + n - 1 ∧ (b + n - 1) / n ≤ b ∧ (b + n - 1) / n * n ≤ b + n - 1 := by
  have h1 := Nat.div_mul_le_self (b + n - 1) n
  have h2 : (b + n - 1) / n * (n - 1) ≤ (b + n - 1) / n * n := Nat.mul_le_mul_left _ (by omega)
  refine ⟨by omega, ?_, h1⟩
  by_cases hb : b = 0
  · subst hb
    rw [Nat.div_eq_of_lt (by omega)]
    exact Nat.le_refl _
  · have h3 : (b + n - 1) / n < b + 1 := by
      apply (Nat.div_lt_iff_lt_mul (by omega)).mpr
      have : b * n + 1 * n = (b + 1) * n := (Nat.add_mul b 1 n).symm
      have h4 : b * 2 ≤ b * n := Nat.mul_le_mul_left _ hn
      omega
    omega
theorem T_root {R : Int32} {x3 : Int32} {t0_0 : Int32} {t0_1 : Int32} {t1_0 : (Nat → Int32)} {t2_0 : Int32} {t2_1 : Int32} {t3_0 : (Nat → Int32)} {t4_0 : Int32} {t4_1 : Int32} {t5_0 : (Nat → Int32)} {t6_0 : Int32} {t6_1 : Int32} {t7_0 : (Nat → Int32)} {t8_0 : Int32} {t8_1 : Int32} {t9_0 : (Nat → Int32)} {t10_0 : Int32} {t10_1 : Int32} {t11_0 : (Nat → Int32)} {t12_0 : Int32} {t12_1 : Int32} {t13_0 : (Nat → Int32)} {va : Int} {Ma : Nat} (ha : bO R t12_0 t12_1 t13_0 va) (hMa : bB Ma va) (hM1 : 1 ≤ Ma) (hMa2 : Ma + 4 ≤ 220) (hx : 1 ≤ x3.toInt) (hx2 : x3.toInt ≤ 64) (i1 : bI 220 t2_0 t2_1 t3_0) (i2 : bI 220 t4_0 t4_1 t5_0) (i3 : bI 220 t6_0 t6_1 t7_0) (i4 : bI 220 t8_0 t8_1 t9_0) (i5 : bI 220 t10_0 t10_1 t11_0) : (S_Mil_root R x3 t0_0 t0_1 t1_0 t2_0 t2_1 t3_0 t4_0 t4_1 t5_0 t6_0 t6_1 t7_0 t8_0 t8_1 t9_0 t10_0 t10_1 t11_0 t12_0 t12_1 t13_0) ∧ G6 (fun s n f => ∃ r : Int, ((r = va ∧ (va = 0 ∨ x3 = 1)) ∨ 1 ≤ r ∧ ∃ k : Nat, r.natAbs ≤ 2 ^ k ∧ k * x3.toInt.toNat ≤ 31 * Ma + x3.toInt.toNat - 1) ∧ bO 220 s n f r) (bI 220) (bI 220) (bI 220) (bI 220) (bI 220) (F_Mil_root R x3 t0_0 t0_1 t1_0 t2_0 t2_1 t3_0 t4_0 t4_1 t5_0 t6_0 t6_1 t7_0 t8_0 t8_1 t9_0 t10_0 t10_1 t11_0 t12_0 t12_1 t13_0) := by
  have e := e220
  have sa := ha.sB hMa
  unfold S_Mil_root F_Mil_root
  have h5 : P1 220 va (F_Big_copy (220 : Int32) R t0_0 t0_1 t1_0 t12_0 t12_1 t13_0) := W_copy ha ha.fit (by decide)
  generalize (F_Big_copy (220 : Int32) R t0_0 t0_1 t1_0 t12_0 t12_1 t13_0) = p72 at h5 ⊢
  unfold S_Mil_root_c5 F_Mil_root_c5
  by_cases h0 : t12_0 = 0
  · rw [if_pos h0, if_pos h0]
    exact ⟨trivial, ⟨va, Or.inl ⟨rfl, Or.inl (ha.nil.mp h0)⟩, h5⟩, i1, i2, i3, i4, i5⟩
  rw [if_neg h0, if_neg h0]
  have hva : va ≠ 0 := fun h => h0 (ha.nil.mpr h)
  by_cases h1 : x3 = 1
  · rw [if_pos h1, if_pos h1]
    exact ⟨trivial, ⟨va, Or.inl ⟨rfl, Or.inr h1⟩, h5⟩, i1, i2, i3, i4, i5⟩
  rw [if_neg h1, if_neg h1]
  have hx3 : 2 ≤ x3.toInt := by
    have : x3.toInt ≠ (1 : Int32).toInt := fun h => h1 (Int32.toInt_inj.mp h)
    have e1 := v_e1
    omega
  have h26 : P1 220 1 (F_Big_setLong (220 : Int32) (1 : Int64) (p72.1 : Int32) (p72.2.1 : Int32) (p72.2.2 : (Nat → Int32))) := W_setLong (x := 1) (by decide) (by decide)
  generalize (F_Big_setLong (220 : Int32) (1 : Int64) (p72.1 : Int32) (p72.2.1 : Int32) (p72.2.2 : (Nat → Int32))) = p101 at h26 ⊢
  unfold S_Mil_root_c26 F_Mil_root_c26
  obtain ⟨b, b1, b2, b3, b4⟩ := V_bits (R := R) (neg := t12_1) ha.1 ha.fit
  have hcl := q_clI (i := t12_0) rfl ha.s0
  obtain ⟨n, hn⟩ : ∃ n : Nat, x3.toInt = (n : Int) := ⟨x3.toInt.toNat, by omega⟩
  have k1 : (F_Big_bitLength R t12_0 t12_1 t13_0 + x3 : Int32).toInt = (b : Int) + n := q_addI b1 hn (by omega) (by omega)
  have k2 : (F_Big_bitLength R t12_0 t12_1 t13_0 + x3 - 1 : Int32).toInt = (b : Int) + n - 1 := q_subI k1 v_e1 (by omega) (by omega)
  have k3 : ((F_Big_bitLength R t12_0 t12_1 t13_0 + x3 - 1) / x3 : Int32).toInt = (((b + n - 1) / n : Nat) : Int) := by
    rw [q_divI k2 hn (by omega) (by omega), Int.natCast_ediv]
    congr 1
    omega
  obtain ⟨c1, c2, c3⟩ := v_cd (b := b) (n := n) (by omega)
  obtain ⟨d, ed⟩ := q_nm ((F_Big_bitLength R t12_0 t12_1 t13_0 + x3 - 1) / x3 : Int32)
  rw [ed] at k3 ⊢
  generalize (b + n - 1) / n = k at k3 c1 c2 c3
  have s26 := h26.sB v_one
  have hsh := W_shl (x := d) h26 (fun _ _ => by omega)
  have hcd := q_clI (i := d) k3 (by omega)
  rw [show d.toNatClampNeg = k by omega, Int.one_mul] at hsh
  generalize F_Big_shiftLeft 220 d p101.1 p101.2.1 p101.2.2 = p140 at hsh ⊢
  unfold S_Mil_root_c43 F_Mil_root_c43
  have hk : ((2 : Int) ^ k).natAbs = 2 ^ k := by rw [Int.natAbs_pow]; rfl
  have hk1 : (1 : Int) ≤ 2 ^ k := by
    have := v_p2 k
    omega
  have hnx : x3.toInt.toNat = n := by omega
  obtain ⟨f1, f2, f3⟩ := T_rootL (N := k) (t0_0 := t0_0) (t0_1 := t0_1) (t1_0 := t1_0) (t2_0 := t2_0) (t2_1 := t2_1) (t3_0 := t3_0) (t4_0 := t4_0) (t4_1 := t4_1) (t5_0 := t5_0) (t6_0 := t6_0) (t6_1 := t6_1) (t7_0 := t7_0) (t8_0 := t8_0) (t8_1 := t8_1) (t9_0 := t9_0) (t10_0 := t10_0) (t10_1 := t10_1) (t11_0 := t11_0) (p72 := p72) (p101 := p101) (p140 := p140) ha hva hMa hM1 hMa2 hx3 hx2 (by rw [hnx]; omega) (by omega) ((10000 - (0 : Int32).toInt).toNat + 1) 0 p140.1 p140.2.1 p140.2.2 t2_0 t2_1 t3_0 t4_0 t4_1 t5_0 t6_0 t6_1 t7_0 t8_0 t8_1 t9_0 t10_0 t10_1 t11_0 (by decide) (by decide) (by decide) ⟨_, hk1, by omega, hsh⟩ i1 i2 i3 i4 i5
  refine ⟨⟨hx, f1⟩, ?_, f3⟩
  obtain ⟨r, r1, r2, r3⟩ := f2
  exact ⟨r, Or.inr ⟨r1, k, r2, by rw [hnx]; omega⟩, r3⟩
