/-! values: Mill's sums and products, powers -/
abbrev Pr2 (Q : Int32 → Prop) (R : Int32) (v : Int) (p : Int32 × Int32 × Int32 × (Nat → Int32) × Int32 × Int32 × (Nat → Int32)) : Prop := Q p.1 ∧ bO R p.2.1 p.2.2.1 p.2.2.2.1 v
theorem T_addOrMultiply {x2 : Int32} {R : Int32} {R2 : Int32} {t0_0 : Int32} {t0_1 : Int32} {t1_0 : (Nat → Int32)} {t2_0 : Int32} {t2_1 : Int32} {t3_0 : (Nat → Int32)} {t4_0 : Int32} {t4_1 : Int32} {t5_0 : (Nat → Int32)} {va vb : Int} (ha : bO R t2_0 t2_1 t3_0 va) (hb : bO R2 t4_0 t4_1 t5_0 vb) (hs : t2_0.toInt + t4_0.toInt < 220) : P1 220 (if x2 = 2 then va * vb else if x2 = 1 then va - vb else va + vb) (F_Mil_addOrMultiply x2 R R2 t0_0 t0_1 t1_0 t2_0 t2_1 t3_0 t4_0 t4_1 t5_0) := by
  have e := e220
  have a0 := ha.s0
  have b0 := hb.s0
  unfold F_Mil_addOrMultiply
  by_cases h : x2 = 2
  · rw [if_pos h, if_pos h]
    have h1 : P1 220 (va * vb) (F_Big_product (220 : Int32) R R2 t0_0 t0_1 t1_0 t2_0 t2_1 t3_0 t4_0 t4_1 t5_0) := W_product ha hb (by decide) (by omega)
    generalize (F_Big_product (220 : Int32) R R2 t0_0 t0_1 t1_0 t2_0 t2_1 t3_0 t4_0 t4_1 t5_0) = p116 at h1 ⊢
    unfold F_Mil_addOrMultiply_c11
    exact h1
  · rw [if_neg h, if_neg h]
    have hss := (W_copyS (R := 220) (s := t0_0) (neg := t0_1) (f := t1_0) ha (by omega)).1
    have h1 : P1 220 va (F_Big_copy 220 R t0_0 t0_1 t1_0 t2_0 t2_1 t3_0) := W_copy ha (by omega) (by decide)
    generalize F_Big_copy 220 R t0_0 t0_1 t1_0 t2_0 t2_1 t3_0 = p42 at h1 hss ⊢
    unfold F_Mil_addOrMultiply_c22
    rw [← hss] at hs a0
    by_cases h2 : x2 = 1
    · rw [if_pos h2, if_pos h2]
      exact W_add (x := 1) h1 hb (Or.inr rfl) (by omega) (by omega)
    · rw [if_neg h2, if_neg h2]
      exact W_add (x := 0) h1 hb (Or.inl rfl) (by omega) (by omega)
theorem T_quotientOrRest_a {x2 : Int32} {R3 : Int32} {t0_0 : Int32} {t0_1 : Int32} {t1_0 : (Nat → Int32)} {t2_0 : Int32} {t2_1 : Int32} {t3_0 : (Nat → Int32)} {t4_0 : Int32} {t4_1 : Int32} {t5_0 : (Nat → Int32)} {va : Int} (ha : bO R3 t4_0 t4_1 t5_0 va) (hv : va ≠ 0) (hM : bB 218 va) : (S_Mil_quotientOrRest_a x2 R3 t0_0 t0_1 t1_0 t2_0 t2_1 t3_0 t4_0 t4_1 t5_0) ∧ P3 220 220 R3 (if x2 = 0 then va.tmod va else va.tdiv va) ((va.natAbs / va.natAbs : Nat) : Int) va (F_Mil_quotientOrRest_a x2 R3 t0_0 t0_1 t1_0 t2_0 t2_1 t3_0 t4_0 t4_1 t5_0) := by
  have e := e220
  have q1 : ((va.natAbs / va.natAbs : Nat) : Int) = 1 := by rw [Nat.div_self (by omega)]; rfl
  unfold S_Mil_quotientOrRest_a F_Mil_quotientOrRest_a
  have h2 : P1 220 va (F_Big_copy (220 : Int32) R3 t0_0 t0_1 t1_0 t4_0 t4_1 t5_0) := W_copy ha ha.fit (by decide)
  generalize (F_Big_copy (220 : Int32) R3 t0_0 t0_1 t1_0 t4_0 t4_1 t5_0) = p40 at h2 ⊢
  unfold S_Mil_quotientOrRest_a_c5 F_Mil_quotientOrRest_a_c5
  have hs := h2.sB hM
  have h3 : S_Big_divideBy (220 : Int32) R3 (220 : Int32) (p40.1 : Int32) (p40.2.1 : Int32) (p40.2.2 : (Nat → Int32)) t4_0 t4_1 t5_0 t2_0 t2_1 t3_0 ∧ P3 220 R3 220 (va.tmod va) va ((va.natAbs / va.natAbs : Nat) : Int) (F_Big_divideBy (220 : Int32) R3 (220 : Int32) (p40.1 : Int32) (p40.2.1 : Int32) (p40.2.2 : (Nat → Int32)) t4_0 t4_1 t5_0 t2_0 t2_1 t3_0) := W_divideBy h2 ha hv (by omega) (by omega) (by decide)
  refine v_owe h3.1 ?_
  replace h3 := h3.2
  generalize (F_Big_divideBy (220 : Int32) R3 (220 : Int32) (p40.1 : Int32) (p40.2.1 : Int32) (p40.2.2 : (Nat → Int32)) t4_0 t4_1 t5_0 t2_0 t2_1 t3_0) = p85 at h3 ⊢
  unfold S_Mil_quotientOrRest_a_c17 F_Mil_quotientOrRest_a_c17
  by_cases h : x2 = 0
  · rw [if_pos h, if_pos h, if_pos h]
    exact ⟨trivial, h3.1, h3.2.2, h3.2.1⟩
  · rw [if_neg h, if_neg h, if_neg h]
    have h4 : P1 220 ((va.natAbs / va.natAbs : Nat) : Int) (F_Big_copy (220 : Int32) (220 : Int32) (p85.1 : Int32) (p85.2.1 : Int32) (p85.2.2.1 : (Nat → Int32)) (p85.2.2.2.2.2.2.1 : Int32) (p85.2.2.2.2.2.2.2.1 : Int32) (p85.2.2.2.2.2.2.2.2 : (Nat → Int32))) := W_copy h3.2.2 h3.2.2.fit (by decide)
    generalize (F_Big_copy (220 : Int32) (220 : Int32) (p85.1 : Int32) (p85.2.1 : Int32) (p85.2.2.1 : (Nat → Int32)) (p85.2.2.2.2.2.2.1 : Int32) (p85.2.2.2.2.2.2.2.1 : Int32) (p85.2.2.2.2.2.2.2.2 : (Nat → Int32))) = p118 at h4 ⊢
    unfold S_Mil_quotientOrRest_a_c32 F_Mil_quotientOrRest_a_c32
    rw [Int.tdiv_self hv]
    rw [q1] at h4 ⊢
    rw [q1] at h3
    have h5 := h4.abs0
    split
    · exact ⟨trivial, h5, h3.2.2, h3.2.1⟩
    · exact ⟨trivial, h5, h3.2.2, h3.2.1⟩
theorem T_modulo_a {R2 : Int32} {R4 : Int32} {t0_0 : Int32} {t0_1 : Int32} {t1_0 : (Nat → Int32)} {t2_0 : Int32} {t2_1 : Int32} {t3_0 : (Nat → Int32)} {t4_0 : Int32} {t4_1 : Int32} {t5_0 : (Nat → Int32)} {va : Int} {M : Nat} (ha : bO R2 t2_0 t2_1 t3_0 va) (hv : va ≠ 0) (hM : bB M va) (hM2 : (M : Int) + 2 ≤ R4.toInt) (hR4 : R4.toInt ≤ 220) : (S_Mil_modulo_a R2 R4 t0_0 t0_1 t1_0 t2_0 t2_1 t3_0 t4_0 t4_1 t5_0) ∧ P3 220 R2 R4 ((va.natAbs / va.natAbs : Nat) : Int) va 0 (F_Mil_modulo_a R2 R4 t0_0 t0_1 t1_0 t2_0 t2_1 t3_0 t4_0 t4_1 t5_0) := by
  have e := e220
  have hs := ha.sB hM
  unfold S_Mil_modulo_a F_Mil_modulo_a
  have h2 : P1 R4 va (F_Big_copy R4 R2 t4_0 t4_1 t5_0 t2_0 t2_1 t3_0) := W_copy ha (by omega) (by omega)
  generalize (F_Big_copy R4 R2 t4_0 t4_1 t5_0 t2_0 t2_1 t3_0) = p41 at h2 ⊢
  unfold S_Mil_modulo_a_c2 F_Mil_modulo_a_c2
  have hs2 := h2.sB hM
  have h11 : S_Big_divideBy R4 R2 (220 : Int32) (p41.1 : Int32) (p41.2.1 : Int32) (p41.2.2 : (Nat → Int32)) t2_0 t2_1 t3_0 t0_0 t0_1 t1_0 ∧ P3 R4 R2 220 (va.tmod va) va ((va.natAbs / va.natAbs : Nat) : Int) (F_Big_divideBy R4 R2 (220 : Int32) (p41.1 : Int32) (p41.2.1 : Int32) (p41.2.2 : (Nat → Int32)) t2_0 t2_1 t3_0 t0_0 t0_1 t1_0) := W_divideBy h2 ha hv (by omega) (by omega) (by decide)
  refine v_owe h11.1 ?_
  replace h11 := h11.2
  generalize (F_Big_divideBy R4 R2 (220 : Int32) (p41.1 : Int32) (p41.2.1 : Int32) (p41.2.2 : (Nat → Int32)) t2_0 t2_1 t3_0 t0_0 t0_1 t1_0) = p91 at h11 ⊢
  unfold S_Mil_modulo_a_c11 F_Mil_modulo_a_c11
  rw [Int.tmod_self] at h11
  rcases h11.1.sgn with ⟨n1, n2⟩ | ⟨n1, n2⟩
  · rw [if_pos n1, if_pos n1]
    exact ⟨trivial, h11.2.2, h11.2.1, h11.1⟩
  · omega
/-- bits of an exponent -/
theorem v_bit1 {x a : Int32} {k : Nat} (ha : a.toInt = (k : Int)) (hk : k ≤ 31) : (((x.toUInt32 >>> (a.toUInt32 &&& Int32.toUInt32 31)).toInt32) &&& 1 : Int32) = 1 ↔ (x.toBitVec.toNat / 2 ^ k) % 2 = 1 := by
  have h1 := v_ushrN (x := x) ha hk
  generalize ((x.toUInt32 >>> (a.toUInt32 &&& Int32.toUInt32 31)).toInt32) = y at h1 ⊢
  rw [← Int32.toBitVec_inj, ← BitVec.toNat_inj, Int32.toBitVec_and, BitVec.toNat_and, h1]
  show _ &&& 1 = 1 ↔ _
  rw [Nat.and_one_is_mod]
theorem v_natI {x : Int32} (h : 0 ≤ x.toInt) : ((x.toBitVec.toNat : Nat) : Int) = x.toInt := by
  have h1 : x.toInt = x.toBitVec.toInt := rfl
  rw [h1] at h ⊢
  rw [BitVec.toInt_eq_toNat_of_lt]
  have h2 : x.toBitVec.toNat < 2 ^ 32 := x.toBitVec.isLt
  have h3 := BitVec.toInt_eq_toNat_cond x.toBitVec
  split at h3
  · assumption
  · omega
theorem v_halfE {n i : Nat} (h : (n / 2 ^ i) % 2 = 1) : n / 2 ^ i = n / 2 ^ (i + 1) + n / 2 ^ (i + 1) + 1 := by
  rw [Nat.pow_succ, ← Nat.div_div_eq_div_mul]
  omega
theorem v_halfO {n i : Nat} (h : ¬ (n / 2 ^ i) % 2 = 1) : n / 2 ^ i = n / 2 ^ (i + 1) + n / 2 ^ (i + 1) := by
  rw [Nat.pow_succ, ← Nat.div_div_eq_div_mul]
  omega
theorem W_bits {R s n x : Int32} {f : Nat → Int32} {v : Int} (h : bO R s n f v) (hb : (F_Big_bitLength R s n f).toInt ≤ x.toInt) : v.natAbs < 2 ^ x.toInt.toNat := by
  obtain ⟨b, b1, b2, b3, b4⟩ := V_bits (R := R) (neg := n) h.1 h.fit
  rw [h.abs] at b3
  have h1 : v.natAbs < 2 ^ b := by
    apply Int.ofNat_lt.mp
    rw [Int.natCast_pow]
    exact b3
  exact Nat.lt_of_lt_of_le h1 (Nat.pow_le_pow_right (by decide) (by omega))
theorem W_bitsN {R s n x : Int32} {f : Nat → Int32} {v : Int} (h : bO R s n f v) (hb : x.toInt < (F_Big_bitLength R s n f).toInt) : 2 ^ x.toInt.toNat ≤ v.natAbs ∨ x.toInt < 0 := by
  obtain ⟨b, b1, b2, b3, b4⟩ := V_bits (R := R) (neg := n) h.1 h.fit
  by_cases hx : x.toInt < 0
  · exact Or.inr hx
  · left
    have hs : 0 < s.toInt := by
      have h0 := h.s0
      have hcl := q_clI (i := s) rfl h0
      omega
    obtain ⟨b5, b6⟩ := b4 hs
    rw [h.abs] at b6
    have h1 : 2 ^ (b - 1) ≤ v.natAbs := by
      apply Int.ofNat_le.mp
      rw [Int.natCast_pow]
      exact b6
    exact Nat.le_trans (Nat.pow_le_pow_right (by decide) (by omega)) h1
theorem T_powerL {R : Int32} {x3 : Int32} {x4 : Int32} {t0_0 : Int32} {t0_1 : Int32} {t1_0 : (Nat → Int32)} {t2_0 : Int32} {t2_1 : Int32} {t3_0 : (Nat → Int32)} {t4_0 : Int32} {t4_1 : Int32} {t5_0 : (Nat → Int32)} {p40 : (Int32 × Int32 × (Nat → Int32))} {vb : Int} (hb : bO R t4_0 t4_1 t5_0 vb) (hx : 0 ≤ x3.toInt) (hx4 : 1 ≤ x4.toInt) (g1 : ∀ e : Nat, ((2 * e : Nat) : Int) ≤ x3.toInt → (vb ^ e).natAbs < 2 ^ x4.toInt.toNat → ∃ M : Nat, bB M (vb ^ e) ∧ 2 * M ≤ 220) (g2 : ∀ e : Nat, ((e + 1 : Nat) : Int) ≤ x3.toInt → (vb ^ e).natAbs < 2 ^ x4.toInt.toNat → ∃ M : Nat, bB M (vb ^ e) ∧ (M : Int) + t4_0.toInt ≤ 220) : ∀ (n : Nat) (lx61 : Int32) (lx62 : Int32) (lx63 : Int32) (lx64 : (Nat → Int32)) (lx65 : Int32) (lx66 : Int32) (lx67 : (Nat → Int32)), ∀ i : Nat, i ≤ 31 → lx61.toInt = (i : Int) - 1 → i < n → bO 220 lx62 lx63 lx64 (vb ^ (x3.toInt.toNat / 2 ^ i)) → (vb ^ (x3.toInt.toNat / 2 ^ i)).natAbs < 2 ^ x4.toInt.toNat → bI 220 lx65 lx66 lx67 → ∃ v : Int, Pr2 (fun r => (r = 0 ∧ ∃ e : Nat, e ≤ x3.toInt.toNat ∧ 2 ^ x4.toInt.toNat ≤ (vb ^ e).natAbs) ∨ r = 1 ∧ v = vb ^ x3.toInt.toNat ∧ v.natAbs < 2 ^ x4.toInt.toNat) 220 v (F_Mil_power_L16 R x3 x4 t0_0 t0_1 t1_0 t2_0 t2_1 t3_0 t4_0 t4_1 t5_0 p40 n lx61 lx62 lx63 lx64 lx65 lx66 lx67) := by
  have e := e220
  have e0 : (0 : Int32).toInt = 0 := rfl
  intro n
  induction n with
  | zero => intros; omega
  | succ n ih =>
    intro lx61 lx62 lx63 lx64 lx65 lx66 lx67 i hi hl hn hp hv hw
    rw [F_Mil_power_L16.eq_2]
    by_cases hj : lx61 < 0
    · rw [if_pos hj]
      have hj2 := q_ltI hj
      have i0 : i = 0 := by omega
      subst i0
      rw [show x3.toInt.toNat / 2 ^ 0 = x3.toInt.toNat from Nat.div_one _] at hp hv
      exact ⟨_, Or.inr ⟨rfl, rfl, hv⟩, hp⟩
    · rw [if_neg hj]
      have hj2 := q_nltI hj
      obtain ⟨k, rfl⟩ : ∃ k : Nat, i = k + 1 := ⟨i - 1, by omega⟩
      have ek : lx61.toInt = (k : Int) := by omega
      have ej : (lx61 + (-1) : Int32).toInt = (k : Int) - 1 := by
        have := q_addI (b := -1) (y := -1) ek (by decide) (by omega) (by omega)
        rw [this]
        omega
      have xn : x3.toBitVec.toNat = x3.toInt.toNat := by
        have := v_natI hx
        omega
      obtain ⟨a, ea⟩ : ∃ a, a = x3.toInt.toNat := ⟨_, rfl⟩
      have xa : x3.toInt = (a : Int) := by omega
      rw [← ea] at hp hv xn ih ⊢
      have hle : 2 * (a / 2 ^ (k + 1)) ≤ a := by
        rw [Nat.pow_succ, ← Nat.div_div_eq_div_mul]
        have := Nat.div_le_self a (2 ^ k)
        omega
      obtain ⟨M, m1, m2⟩ := g1 _ (by omega) hv
      have s1 := hp.sB m1
      have h33 : P1 220 (vb ^ (a / 2 ^ (k + 1)) * vb ^ (a / 2 ^ (k + 1))) (F_Big_product (220 : Int32) (220 : Int32) (220 : Int32) lx65 lx66 lx67 lx62 lx63 lx64 lx62 lx63 lx64) := W_product hp hp (by decide) (by omega)
      generalize (F_Big_product (220 : Int32) (220 : Int32) (220 : Int32) lx65 lx66 lx67 lx62 lx63 lx64 lx62 lx63 lx64) = p115 at h33 ⊢
      unfold F_Mil_power_c33
      rw [← Int.pow_add] at h33
      by_cases hb1 : F_Big_bitLength 220 p115.1 p115.2.1 p115.2.2 ≤ x4
      · rw [if_pos hb1]
        have b2 := W_bits h33 (q_leI hb1)
        by_cases hbit : (((x3.toUInt32 >>> (lx61.toUInt32 &&& Int32.toUInt32 31)).toInt32) &&& 1 : Int32) = 1
        · rw [if_pos hbit]
          have hb3 := (v_bit1 ek (by omega)).mp hbit
          rw [xn] at hb3
          have hh := v_halfE hb3
          have hle2 := Nat.div_le_self a (2 ^ k)
          obtain ⟨M2, m3, m4⟩ := g2 _ (by omega) b2
          have s2 := h33.sB m3
          have h68 : P1 220 (vb ^ (a / 2 ^ (k + 1) + a / 2 ^ (k + 1)) * vb) (F_Big_product (220 : Int32) (220 : Int32) R lx62 lx63 lx64 (p115.1 : Int32) (p115.2.1 : Int32) (p115.2.2 : (Nat → Int32)) t4_0 t4_1 t5_0) := W_product h33 hb (by decide) (by omega)
          generalize (F_Big_product (220 : Int32) (220 : Int32) R lx62 lx63 lx64 (p115.1 : Int32) (p115.2.1 : Int32) (p115.2.2 : (Nat → Int32)) t4_0 t4_1 t5_0) = p194 at h68 ⊢
          unfold F_Mil_power_c68
          rw [← Int.pow_succ, show (a / 2 ^ (k + 1) + a / 2 ^ (k + 1)).succ = a / 2 ^ k from hh.symm] at h68
          by_cases hb4 : F_Big_bitLength 220 p194.1 p194.2.1 p194.2.2 ≤ x4
          · rw [if_pos hb4]
            exact ih _ _ _ _ _ _ _ k (by omega) ej (by omega) h68 (W_bits h68 (q_leI hb4)) trivial
          · rw [if_neg hb4]
            exact ⟨_, Or.inl ⟨rfl, a / 2 ^ k, Nat.div_le_self _ _, (W_bitsN h68 (q_nleI hb4)).resolve_right (by omega)⟩, h68⟩
        · rw [if_neg hbit]
          have hb3 : ¬ (a / 2 ^ k) % 2 = 1 := by
            intro h9
            rw [← xn] at h9
            exact hbit ((v_bit1 ek (by omega)).mpr h9)
          have hh := v_halfO hb3
          have h82 : P1 220 (vb ^ (a / 2 ^ (k + 1) + a / 2 ^ (k + 1))) (F_Big_copy (220 : Int32) (220 : Int32) lx62 lx63 lx64 (p115.1 : Int32) (p115.2.1 : Int32) (p115.2.2 : (Nat → Int32))) := W_copy h33 h33.fit (by decide)
          generalize (F_Big_copy (220 : Int32) (220 : Int32) lx62 lx63 lx64 (p115.1 : Int32) (p115.2.1 : Int32) (p115.2.2 : (Nat → Int32))) = p156 at h82 ⊢
          unfold F_Mil_power_c82
          rw [← hh] at h82
          by_cases hb4 : F_Big_bitLength 220 p156.1 p156.2.1 p156.2.2 ≤ x4
          · rw [if_pos hb4]
            exact ih _ _ _ _ _ _ _ k (by omega) ej (by omega) h82 (W_bits h82 (q_leI hb4)) trivial
          · rw [if_neg hb4]
            exact ⟨_, Or.inl ⟨rfl, a / 2 ^ k, Nat.div_le_self _ _, (W_bitsN h82 (q_nleI hb4)).resolve_right (by omega)⟩, h82⟩
      · rw [if_neg hb1]
        exact ⟨_, Or.inl ⟨rfl, a / 2 ^ (k + 1) + a / 2 ^ (k + 1), by omega, (W_bitsN h33 (q_nleI hb1)).resolve_right (by omega)⟩, hp⟩
