/-! values, for whole: Newton's root comes to the root (class) -/
/-- r is the root of a, its power being n + 1 -/
def nwR (n a r : Nat) : Prop := r ^ (n + 1) ≤ a ∧ a < (r + 1) ^ (n + 1)
theorem nw_top {n a r x : Nat} (h : nwR n a r) (hx : x ^ (n + 1) ≤ a) : x ≤ r := by
  apply Classical.byContradiction
  intro h1
  have : (r + 1) ^ (n + 1) ≤ x ^ (n + 1) := Nat.pow_le_pow_left (by omega) _
  have := h.2
  omega
theorem nw_next {n a r x m : Nat} (h : nwR n a r) (hn : 1 ≤ n) (hx : 1 ≤ x) (hr : r ≤ x) (hy : nwY n a x < x) (hs : nwS n (x - r) m) : r ≤ nwY n a x ∧ ∃ m', m = m' + 1 ∧ nwS n (nwY n a x - r) m' := by
  have h1 := nw_lo hx h.1
  refine ⟨h1, hs.step hn (by omega) ?_⟩
  have h2 := nw_dec h.2 (show r < x by omega)
  have e1 : (n + 1) * (nwY n a x - r) = (n + 1) * nwY n a x - (n + 1) * r := Nat.mul_sub _ _ _
  have e2 : n * (x - r) = n * x - n * r := Nat.mul_sub _ _ _
  have e3 : (n + 1) * r = n * r + r := by rw [Nat.add_mul, Nat.one_mul]
  rw [e1, e2, e3]
  omega
theorem V_rootL {R : Int32} {x3 : Int32} {t0_0 : Int32} {t0_1 : Int32} {t1_0 : (Nat → Int32)} {t2_0 : Int32} {t2_1 : Int32} {t3_0 : (Nat → Int32)} {t4_0 : Int32} {t4_1 : Int32} {t5_0 : (Nat → Int32)} {t6_0 : Int32} {t6_1 : Int32} {t7_0 : (Nat → Int32)} {t8_0 : Int32} {t8_1 : Int32} {t9_0 : (Nat → Int32)} {t10_0 : Int32} {t10_1 : Int32} {t11_0 : (Nat → Int32)} {t12_0 : Int32} {t12_1 : Int32} {t13_0 : (Nat → Int32)} {p72 : (Int32 × Int32 × (Nat → Int32))} {p101 : (Int32 × Int32 × (Nat → Int32))} {p140 : (Int32 × Int32 × (Nat → Int32))} {va : Int} {Ma N nn ρ : Nat} (ha : bO R t12_0 t12_1 t13_0 va) (hva : va ≠ 0) (hMa : bB Ma va) (hM1 : 1 ≤ Ma) (hMa2 : Ma + 4 ≤ 220) (hnn : x3.toInt = (nn : Int) + 1) (hnn1 : 1 ≤ nn) (hnn2 : nn ≤ 63) (hN : N * nn < 31 * (Ma + 3)) (hN2 : N < 31 * (Ma + 1)) (hρ : nwR nn va.natAbs ρ) : ∀ (n : Nat) (lx151 : Int32) (lx152 : Int32) (lx153 : Int32) (lx154 : (Nat → Int32)) (lx155 : Int32) (lx156 : Int32) (lx157 : (Nat → Int32)) (lx158 : Int32) (lx159 : Int32) (lx160 : (Nat → Int32)) (lx161 : Int32) (lx162 : Int32) (lx163 : (Nat → Int32)) (lx164 : Int32) (lx165 : Int32) (lx166 : (Nat → Int32)) (lx167 : Int32) (lx168 : Int32) (lx169 : (Nat → Int32)), 10000 - lx151.toInt < (n : Int) → 0 ≤ lx151.toInt → lx151.toInt ≤ 10000 → (∃ x m : Nat, 1 ≤ x ∧ x ≤ 2 ^ N ∧ ρ ≤ x ∧ nwS nn (x - ρ) m ∧ (m : Int) + lx151.toInt ≤ 9999 ∧ bO 220 lx152 lx153 lx154 (x : Int)) → (S_Mil_root_L48 R x3 t0_0 t0_1 t1_0 t2_0 t2_1 t3_0 t4_0 t4_1 t5_0 t6_0 t6_1 t7_0 t8_0 t8_1 t9_0 t10_0 t10_1 t11_0 t12_0 t12_1 t13_0 p72 p101 p140 n lx151 lx152 lx153 lx154 lx155 lx156 lx157 lx158 lx159 lx160 lx161 lx162 lx163 lx164 lx165 lx166 lx167 lx168 lx169) ∧ G6 (bW 220 (ρ : Int)) (bI 220) (bI 220) (bI 220) (bI 220) (bI 220) (F_Mil_root_L48 R x3 t0_0 t0_1 t1_0 t2_0 t2_1 t3_0 t4_0 t4_1 t5_0 t6_0 t6_1 t7_0 t8_0 t8_1 t9_0 t10_0 t10_1 t11_0 t12_0 t12_1 t13_0 p72 p101 p140 n lx151 lx152 lx153 lx154 lx155 lx156 lx157 lx158 lx159 lx160 lx161 lx162 lx163 lx164 lx165 lx166 lx167 lx168 lx169) := by
  have e := e220
  have e0 : (0 : Int32).toInt = 0 := rfl
  have eT := v_eTT
  have e68 := v_6820
  have sa := ha.sB hMa
  have ex : (x3 - 1 : Int32).toInt = (nn : Int) := by
    rw [q_subI hnn v_e1 (by omega) (by omega)]
    omega
  have exn : (x3 - 1 : Int32).toInt.toNat = nn := by omega
  intro n
  induction n with
  | zero => intros; omega
  | succ n ih =>
    intro lx151 lx152 lx153 lx154 lx155 lx156 lx157 lx158 lx159 lx160 lx161 lx162 lx163 lx164 lx165 lx166 lx167 lx168 lx169 hn hl hl2 hr
    rw [S_Mil_root_L48.eq_2, F_Mil_root_L48.eq_2]
    obtain ⟨x, m, x1, x2, x4, x5, x6, r3⟩ := hr
    by_cases hj : 10000 ≤ lx151
    · have := q_leI hj
      omega
    rw [if_neg hj, if_neg hj]
    have hj2 := q_nleI hj
    have hrB : bB (Ma + 1) (x : Int) := v_rB (r := (x : Int)) x2 hN2
    have sr := r3.sB hrB
    have hpB : bB (Ma + 2 + 1) ((x : Int) ^ (x3 - 1 : Int32).toInt.toNat) := by
      rw [exn]
      exact v_rp (r := (x : Int)) x2 hN
    have hp := T_powerR (x3 := x3 - 1) (x4 := 6820) (t0_0 := lx155) (t0_1 := lx156) (t1_0 := lx157) (t2_0 := lx158) (t2_1 := lx159) (t3_0 := lx160) r3 (by omega) (by omega) (by decide) trivial hpB (by omega)
    obtain ⟨v, q0, q1⟩ := hp
    have hv : v = (x : Int) ^ (x3 - 1 : Int32).toInt.toNat := by
      rcases q0 with ⟨_, e1, he1, he2⟩ | ⟨_, h2, _⟩
      · have h3 := v_powA (v := (x : Int)) (by omega) he1
        have h4 : ((x : Int) ^ (x3 - 1 : Int32).toInt.toNat).natAbs < 2 ^ (31 * (Ma + 2 + 1)) := by
          have := hpB
          unfold bB at this
          rw [Nat.pow_mul]
          exact this
        have h5 : (2 : Nat) ^ (31 * (Ma + 2 + 1)) ≤ 2 ^ (6820 : Int32).toInt.toNat := Nat.pow_le_pow_right (by decide) (by rw [e68]; omega)
        omega
      · exact h2
    have hva2 : v.natAbs = x ^ nn := by
      rw [hv, exn, Int.natAbs_pow]
      rfl
    have hv0 : v ≠ 0 := by
      rw [hv]
      exact Int.pow_ne_zero (by omega)
    clear q0 hv
    generalize F_Mil_power 220 (x3 - 1) 6820 lx155 lx156 lx157 lx158 lx159 lx160 lx152 lx153 lx154 = p257 at q1 ⊢
    unfold S_Mil_root_c66 F_Mil_root_c66
    have h75 : P1 220 va (F_Big_copy (220 : Int32) R lx161 lx162 lx163 t12_0 t12_1 t13_0) := W_copy ha ha.fit (by decide)
    generalize (F_Big_copy (220 : Int32) R lx161 lx162 lx163 t12_0 t12_1 t13_0) = p285 at h75 ⊢
    unfold S_Mil_root_c75 F_Mil_root_c75
    have s75 := h75.sB hMa
    have h90 : S_Big_divideBy (220 : Int32) (220 : Int32) (220 : Int32) (p285.1 : Int32) (p285.2.1 : Int32) (p285.2.2 : (Nat → Int32)) (p257.2.1 : Int32) (p257.2.2.1 : Int32) (p257.2.2.2.1 : (Nat → Int32)) lx167 lx168 lx169 ∧ P3 220 220 220 (va.tmod v) v ((va.natAbs / v.natAbs : Nat) : Int) (F_Big_divideBy (220 : Int32) (220 : Int32) (220 : Int32) (p285.1 : Int32) (p285.2.1 : Int32) (p285.2.2 : (Nat → Int32)) (p257.2.1 : Int32) (p257.2.2.1 : Int32) (p257.2.2.2.1 : (Nat → Int32)) lx167 lx168 lx169) := W_divideBy h75 q1 hv0 (by omega) (by omega) (by decide)
    refine v_owe h90.1 ?_
    replace h90 := h90.2
    generalize (F_Big_divideBy (220 : Int32) (220 : Int32) (220 : Int32) (p285.1 : Int32) (p285.2.1 : Int32) (p285.2.2 : (Nat → Int32)) (p257.2.1 : Int32) (p257.2.2.1 : Int32) (p257.2.2.2.1 : (Nat → Int32)) lx167 lx168 lx169) = p330 at h90 ⊢
    unfold S_Mil_root_c90 F_Mil_root_c90
    have hqB := hMa.ndiv (v := v)
    have sq := h90.2.2.sB hqB
    have h101 : P1 220 (x : Int) (F_Big_copy (220 : Int32) (220 : Int32) lx164 lx165 lx166 lx152 lx153 lx154) := W_copy r3 r3.fit (by decide)
    generalize (F_Big_copy (220 : Int32) (220 : Int32) lx164 lx165 lx166 lx152 lx153 lx154) = p360 at h101 ⊢
    unfold S_Mil_root_c101 F_Mil_root_c101
    have s101 := h101.sB hrB
    have h112 : P1 220 ((x3 - 1 : Int32).toInt * (x : Int) + (0 : Int32).toInt) (F_Big_multiplySmall (220 : Int32) (x3 - 1 : Int32) (0 : Int32) (p360.1 : Int32) (p360.2.1 : Int32) (p360.2.2 : (Nat → Int32))) := W_mulS h101 (by omega) (by omega) (by decide) (by omega)
    generalize (F_Big_multiplySmall (220 : Int32) (x3 - 1 : Int32) (0 : Int32) (p360.1 : Int32) (p360.2.1 : Int32) (p360.2.2 : (Nat → Int32))) = p387 at h112 ⊢
    unfold S_Mil_root_c112 F_Mil_root_c112
    have hmn : 0 ≤ (nn : Int) * (x : Int) := Int.mul_nonneg (by omega) (by omega)
    rw [ex, e0, Int.add_zero] at h112
    have hmB : bB (1 + (Ma + 1)) ((nn : Int) * (x : Int)) := bB.mul (show (nn : Int).natAbs < 2147483648 ^ 1 by omega) hrB
    have s112 := h112.sB hmB
    have h123 : P1 220 ((nn : Int) * (x : Int) + (((va.natAbs / v.natAbs : Nat) : Int).natAbs : Int)) (F_Big_addSize (220 : Int32) (220 : Int32) (p387.1 : Int32) (p387.2.1 : Int32) (p387.2.2 : (Nat → Int32)) (p330.2.2.2.2.2.2.1 : Int32) (p330.2.2.2.2.2.2.2.1 : Int32) (p330.2.2.2.2.2.2.2.2 : (Nat → Int32))) := W_addSize h112 hmn h90.2.2 (by omega) (by omega)
    generalize (F_Big_addSize (220 : Int32) (220 : Int32) (p387.1 : Int32) (p387.2.1 : Int32) (p387.2.2 : (Nat → Int32)) (p330.2.2.2.2.2.2.1 : Int32) (p330.2.2.2.2.2.2.2.1 : Int32) (p330.2.2.2.2.2.2.2.2 : (Nat → Int32))) = p410 at h123 ⊢
    unfold S_Mil_root_c123 F_Mil_root_c123
    have hd := W_divS (x := x3) h123 (by omega)
    generalize F_Big_divideSmall 220 x3 p410.1 p410.2.1 p410.2.2 = p434 at hd ⊢
    obtain ⟨_, w2, d2, d3, d4, d5⟩ := hd
    have hw : w2.natAbs = nwY nn va.natAbs x := by
      rw [d2, hva2, Int.natAbs_natCast, ← Int.natCast_mul, ← Int.natCast_add, Int.natAbs_natCast, show x3.toInt.toNat = nn + 1 by omega]
      rfl
    have hw0 : 0 ≤ w2 := d3 (Int.add_nonneg hmn (Int.natCast_nonneg _))
    unfold S_Mil_root_c131 F_Mil_root_c131
    have hcm := W_cmp (R := 220) (R2 := 220) d5 r3
    rw [Int.natAbs_natCast] at hcm
    by_cases hc : F_Big_compareSize 220 220 p434.2.1 p434.2.2.1 p434.2.2.2 lx152 lx153 lx154 < 0
    · rw [if_pos hc, if_pos hc]
      have hc2 := q_ltI hc
      obtain ⟨n1, m', em, n2⟩ := nw_next hρ hnn1 x1 x4 (by omega) x5
      rw [← hw] at n1 n2
      have h158 : P1 220 w2 (F_Big_copy (220 : Int32) (220 : Int32) lx152 lx153 lx154 (p434.2.1 : Int32) (p434.2.2.1 : Int32) (p434.2.2.2 : (Nat → Int32))) := W_copy d5 d5.fit (by decide)
      generalize (F_Big_copy (220 : Int32) (220 : Int32) lx152 lx153 lx154 (p434.2.1 : Int32) (p434.2.2.1 : Int32) (p434.2.2.2 : (Nat → Int32))) = p468 at h158 ⊢
      unfold S_Mil_root_c158 F_Mil_root_c158
      have ej : (lx151 + 1 : Int32).toInt = lx151.toInt + 1 := q_addI rfl v_e1 (by omega) (by omega)
      have r1 : 1 ≤ ρ := nw_top hρ (by rw [Nat.one_pow]; omega)
      refine ih _ _ _ _ _ _ _ _ _ _ _ _ _ _ _ _ _ _ _ (by omega) (by omega) (by omega) ⟨w2.natAbs, m', by omega, by omega, n1, n2, by omega, ?_⟩
      rw [Int.natAbs_of_nonneg hw0]
      exact h158
    · rw [if_neg hc, if_neg hc]
      have hc2 := q_nltI hc
      have h9 := nw_top hρ (nw_stop x1 (by omega : x ≤ nwY nn va.natAbs x))
      have e9 : x = ρ := by omega
      rw [e9] at r3
      exact ⟨trivial, r3, trivial, trivial, trivial, trivial, trivial⟩
theorem nw_start {n b a r : Nat} (h : nwR n a r) (hb : a < 2 ^ b) : r < 2 ^ ((b + (n + 1) - 1) / (n + 1)) := by
  have h1 : b ≤ (b + (n + 1) - 1) / (n + 1) * (n + 1) := by
    have h2 := Nat.div_add_mod (b + (n + 1) - 1) (n + 1)
    have h3 := Nat.mod_lt (b + (n + 1) - 1) (show 0 < n + 1 by omega)
    rw [Nat.mul_comm] at h2
    omega
  have h4 : r ^ (n + 1) < (2 ^ ((b + (n + 1) - 1) / (n + 1))) ^ (n + 1) := by
    rw [← Nat.pow_mul]
    exact Nat.lt_of_le_of_lt h.1 (Nat.lt_of_lt_of_le hb (Nat.pow_le_pow_right (by decide) h1))
  apply Classical.byContradiction
  intro h5
  have := Nat.pow_le_pow_left (Nat.not_lt.mp h5) (n + 1)
  omega
theorem V_root {R : Int32} {x3 : Int32} {t0_0 : Int32} {t0_1 : Int32} {t1_0 : (Nat → Int32)} {t2_0 : Int32} {t2_1 : Int32} {t3_0 : (Nat → Int32)} {t4_0 : Int32} {t4_1 : Int32} {t5_0 : (Nat → Int32)} {t6_0 : Int32} {t6_1 : Int32} {t7_0 : (Nat → Int32)} {t8_0 : Int32} {t8_1 : Int32} {t9_0 : (Nat → Int32)} {t10_0 : Int32} {t10_1 : Int32} {t11_0 : (Nat → Int32)} {t12_0 : Int32} {t12_1 : Int32} {t13_0 : (Nat → Int32)} {va : Int} {Ma nn ρ : Nat} (ha : bO R t12_0 t12_1 t13_0 va) (hva0 : 0 ≤ va) (hMa : bB Ma va) (hM1 : 1 ≤ Ma) (hMa2 : Ma + 4 ≤ 220) (hnn : x3.toInt = (nn : Int) + 1) (hnn2 : nn ≤ 63) (hρ : nwR nn va.natAbs ρ) : (S_Mil_root R x3 t0_0 t0_1 t1_0 t2_0 t2_1 t3_0 t4_0 t4_1 t5_0 t6_0 t6_1 t7_0 t8_0 t8_1 t9_0 t10_0 t10_1 t11_0 t12_0 t12_1 t13_0) ∧ G6 (bW 220 (ρ : Int)) (bI 220) (bI 220) (bI 220) (bI 220) (bI 220) (F_Mil_root R x3 t0_0 t0_1 t1_0 t2_0 t2_1 t3_0 t4_0 t4_1 t5_0 t6_0 t6_1 t7_0 t8_0 t8_1 t9_0 t10_0 t10_1 t11_0 t12_0 t12_1 t13_0) := by
  have e := e220
  have sa := ha.sB hMa
  unfold S_Mil_root F_Mil_root
  have h5 : P1 220 va (F_Big_copy (220 : Int32) R t0_0 t0_1 t1_0 t12_0 t12_1 t13_0) := W_copy ha ha.fit (by decide)
  generalize (F_Big_copy (220 : Int32) R t0_0 t0_1 t1_0 t12_0 t12_1 t13_0) = p72 at h5 ⊢
  unfold S_Mil_root_c5 F_Mil_root_c5
  have hid : (va = 0 ∨ nn = 0) → (ρ : Int) = va := fun h => by
    have h9 : nwR nn va.natAbs va.natAbs := by
      rcases h with h | h
      · rw [h]
        exact ⟨by rw [Int.natAbs_zero, Nat.zero_pow (by omega)]; exact Nat.le_refl 0, by rw [Int.natAbs_zero, Nat.zero_add, Nat.one_pow]; decide⟩
      · rw [h]
        exact ⟨by rw [Nat.zero_add, Nat.pow_one]; exact Nat.le_refl _, by rw [Nat.zero_add, Nat.pow_one]; omega⟩
    have := nw_uq hρ.1 hρ.2 h9.1 h9.2
    omega
  by_cases h0 : t12_0 = 0
  · rw [if_pos h0, if_pos h0]
    refine ⟨trivial, ?_, trivial, trivial, trivial, trivial, trivial⟩
    rw [hid (Or.inl (ha.nil.mp h0))]
    exact h5
  rw [if_neg h0, if_neg h0]
  have hva : va ≠ 0 := fun h => h0 (ha.nil.mpr h)
  by_cases h1 : x3 = 1
  · rw [if_pos h1, if_pos h1]
    refine ⟨trivial, ?_, trivial, trivial, trivial, trivial, trivial⟩
    have e1 := v_e1
    rw [h1, e1] at hnn
    rw [hid (Or.inr (by omega))]
    exact h5
  rw [if_neg h1, if_neg h1]
  have hnn1 : 1 ≤ nn := by
    have : x3.toInt ≠ (1 : Int32).toInt := fun h => h1 (Int32.toInt_inj.mp h)
    have e1 := v_e1
    omega
  have h26 : P1 220 1 (F_Big_setLong (220 : Int32) (1 : Int64) (p72.1 : Int32) (p72.2.1 : Int32) (p72.2.2 : (Nat → Int32))) := W_setLong (x := 1) (by decide) (by decide)
  generalize (F_Big_setLong (220 : Int32) (1 : Int64) (p72.1 : Int32) (p72.2.1 : Int32) (p72.2.2 : (Nat → Int32))) = p101 at h26 ⊢
  unfold S_Mil_root_c26 F_Mil_root_c26
  obtain ⟨b, b1, b2, b3, b4⟩ := W_blen ha
  have hcl := q_clI (i := t12_0) rfl ha.s0
  have b5 : b ≤ 31 * Ma := by
    have h6 := (b4 hva).2
    have h7 : va.natAbs < 2 ^ (31 * Ma) := by
      have := hMa
      unfold bB at this
      rw [Nat.pow_mul]
      exact this
    have h8 := (Nat.pow_lt_pow_iff_right (a := 2) (by decide)).mp (Nat.lt_of_le_of_lt h6 h7)
    omega
  have k1 : (F_Big_bitLength R t12_0 t12_1 t13_0 + x3 : Int32).toInt = (b : Int) + ((nn : Int) + 1) := q_addI b1 hnn (by omega) (by omega)
  have k2 : (F_Big_bitLength R t12_0 t12_1 t13_0 + x3 - 1 : Int32).toInt = (b : Int) + ((nn : Int) + 1) - 1 := q_subI k1 v_e1 (by omega) (by omega)
  have k3 : ((F_Big_bitLength R t12_0 t12_1 t13_0 + x3 - 1) / x3 : Int32).toInt = (((b + (nn + 1) - 1) / (nn + 1) : Nat) : Int) := by
    rw [q_divI k2 hnn (by omega) (by omega), Int.natCast_ediv]
    congr 1
    omega
  obtain ⟨c1, c2, c3⟩ := v_cd (b := b) (n := nn + 1) (by omega)
  have hst := nw_start hρ b3
  obtain ⟨d, ed⟩ := q_nm ((F_Big_bitLength R t12_0 t12_1 t13_0 + x3 - 1) / x3 : Int32)
  rw [ed] at k3 ⊢
  generalize (b + (nn + 1) - 1) / (nn + 1) = k at k3 c1 c2 c3 hst
  have s26 := h26.sB v_one
  have hsh := W_shl (x := d) h26 (fun _ _ => by omega)
  have hcd := q_clI (i := d) k3 (by omega)
  rw [show d.toNatClampNeg = k by omega, Int.one_mul, show (2 : Int) ^ k = ((2 ^ k : Nat) : Int) by rw [Int.natCast_pow]; rfl] at hsh
  generalize F_Big_shiftLeft 220 d p101.1 p101.2.1 p101.2.2 = p140 at hsh ⊢
  unfold S_Mil_root_c43 F_Mil_root_c43
  have hk1 : 1 ≤ 2 ^ k := Nat.one_le_two_pow
  have hS : nwS nn (2 ^ k - ρ) ((nn + 1) * (k + 1)) := nwS.ini (by rw [Nat.pow_succ]; omega)
  have hm : (nn + 1) * (k + 1) ≤ 9999 := by
    rw [Nat.mul_add, Nat.mul_one, Nat.mul_comm]
    omega
  obtain ⟨f1, f2⟩ := V_rootL (N := k) (t0_0 := t0_0) (t0_1 := t0_1) (t1_0 := t1_0) (t2_0 := t2_0) (t2_1 := t2_1) (t3_0 := t3_0) (t4_0 := t4_0) (t4_1 := t4_1) (t5_0 := t5_0) (t6_0 := t6_0) (t6_1 := t6_1) (t7_0 := t7_0) (t8_0 := t8_0) (t8_1 := t8_1) (t9_0 := t9_0) (t10_0 := t10_0) (t10_1 := t10_1) (t11_0 := t11_0) (p72 := p72) (p101 := p101) (p140 := p140) ha hva hMa hM1 hMa2 hnn hnn1 hnn2 (by rw [Nat.add_sub_cancel] at c1; omega) (by omega) hρ ((10000 - (0 : Int32).toInt).toNat + 1) 0 p140.1 p140.2.1 p140.2.2 t2_0 t2_1 t3_0 t4_0 t4_1 t5_0 t6_0 t6_1 t7_0 t8_0 t8_1 t9_0 t10_0 t10_1 t11_0 (by decide) (by decide) (by decide) ⟨2 ^ k, _, hk1, Nat.le_refl _, by omega, hS, by rw [show (0 : Int32).toInt = 0 from rfl]; omega, hsh⟩
  exact ⟨⟨by omega, f1⟩, f2⟩
