/-! values, for whole: the class's strip, raise -/
theorem dzN_max : ∀ (f : Nat) (u : Int), 0 < u → u < 10 ^ f → (u / 10 ^ (dzN u f)) % 10 ≠ 0
  | 0, u, h1, h2 => by
    rw [Int.pow_zero] at h2
    omega
  | f + 1, u, h1, h2 => by
    by_cases c : u % 10 = 0
    · have e : dzN u (f + 1) = dzN (u / 10) f + 1 := if_pos c
      rw [e, u_pw, Int.mul_comm, ← Int.ediv_ediv_of_nonneg (by decide)]
      refine dzN_max f (u / 10) (by omega) ?_
      rw [u_pw] at h2
      omega
    · have e : dzN u (f + 1) = 0 := if_neg c
      rw [e, Int.pow_zero, Int.ediv_one]
      exact c
/-- a factor with the sign -/
theorem v_sgF {u v : Int} {P : Nat} (h : u.natAbs * P = v.natAbs) (h1 : 0 ≤ v → 0 ≤ u) (h2 : v ≤ 0 → u ≤ 0) : u * (P : Int) = v := by
  have e : ((u.natAbs : Int) * (P : Int)) = (v.natAbs : Int) := by
    rw [← Int.natCast_mul, h]
  rcases Int.le_total 0 v with c | c
  · have := h1 c
    rw [Int.natAbs_of_nonneg this, Int.natAbs_of_nonneg c] at e
    exact e
  · have h3 := h2 c
    have e1 : (u.natAbs : Int) = -u := by omega
    have e2 : (v.natAbs : Int) = -v := by omega
    rw [e1, e2, Int.neg_mul] at e
    omega
theorem V_strip {R : Int32} {t0_0 : Int64} {t0_1 : Int32} {t1_0 : Int32} {t1_1 : Int32} {t2_0 : (Nat → Int32)} {t3_0 : Int32} {t3_1 : Int32} {t4_0 : (Nat → Int32)} {t5_0 : Int32} {t5_1 : Int32} {t6_0 : Int32} {t6_1 : Int32} {t7_0 : (Nat → Int32)} {qa : Int × Int} (ha : dP R t6_0 t6_1 t7_0 t5_0 t5_1 qa) (i1 : bI 220 t3_0 t3_1 t4_0) : ∃ r : Int × Int, sStr qa r ∧ (F_DW_strip R t0_0 t0_1 t1_0 t1_1 t2_0 t3_0 t3_1 t4_0 t5_0 t5_1 t6_0 t6_1 t7_0).1.toInt = r.2 ∧ bO 220 (F_DW_strip R t0_0 t0_1 t1_0 t1_1 t2_0 t3_0 t3_1 t4_0 t5_0 t5_1 t6_0 t6_1 t7_0).2.2.1 (F_DW_strip R t0_0 t0_1 t1_0 t1_1 t2_0 t3_0 t3_1 t4_0 t5_0 t5_1 t6_0 t6_1 t7_0).2.2.2.1 (F_DW_strip R t0_0 t0_1 t1_0 t1_1 t2_0 t3_0 t3_1 t4_0 t5_0 t5_1 t6_0 t6_1 t7_0).2.2.2.2.1 r.1 ∧ bB 108 r.1 := by
  have hB := ha.O.B
  obtain ⟨ha1, ⟨ca, ca1, ca2, ca3⟩, ha2, ha3, ha4⟩ := ha
  unfold F_DW_strip
  have h1 := T_take (t0_0 := t0_0) (t0_1 := t0_1) (t1_0 := t1_0) (t1_1 := t1_1) (t2_0 := t2_0) (t3_0 := t5_0) (t3_1 := t5_1) ha1
  generalize F_DW_take R t0_0 t0_1 t1_0 t1_1 t2_0 t5_0 t5_1 t6_0 t6_1 t7_0 = p54 at h1 ⊢
  obtain ⟨h11, h12⟩ := h1
  unfold F_DW_strip_c2
  by_cases c : t6_0 = 0
  · have a0 : qa.1 = 0 := ha1.nil.mp c
    rw [if_pos c]
    refine ⟨(0, 0), Or.inl ⟨a0, rfl⟩, rfl, ?_, ?_⟩
    · rw [a0] at h12
      exact h12
    · rw [a0] at hB
      exact hB
  · have a0 : qa.1 ≠ 0 := fun h => c (ha1.nil.mpr h)
    rw [if_neg c]
    obtain ⟨u, u1, u2, u3, u4, u5, u6⟩ := V_dropZeros (R := 220) (x3 := 1000) (t0_0 := t3_0) (t0_1 := t3_1) (t1_0 := t4_0) h12 hB (by decide) a0 i1
    generalize F_Mil_dropZeros 220 1000 t3_0 t3_1 t4_0 p54.2.2.1 p54.2.2.2.1 p54.2.2.2.2 = p94 at u4 u5 u6 ⊢
    unfold F_DW_strip_c38
    have eK : (1000 : Int64).toInt.toNat = 1000 := rfl
    rw [eK] at u1 u4
    have lt : (qa.1.natAbs : Int) < 10 ^ 1000 := by
      have := (vG_le ca2 (show 1 ≤ 1000 by decide)).mp ca3
      have h9 := Int.ofNat_lt.mpr this
      rw [Int.natCast_pow] at h9
      exact h9
    have mx := dzN_max 1000 (qa.1.natAbs : Int) (by omega) lt
    have kl := dzN_le (qa.1.natAbs : Int) 1000
    generalize dzN (qa.1.natAbs : Int) 1000 = k at *
    have eu := v_sgF u1 u2 u3
    rw [Int.natCast_pow] at eu
    have eu' : u * 10 ^ k = qa.1 := eu
    have m10 : u % 10 ≠ 0 := by
      have h8 : (qa.1.natAbs : Int) / 10 ^ k = (u.natAbs : Int) := by
        have h7 : (qa.1.natAbs : Int) = (u.natAbs : Int) * 10 ^ k := by
          rw [← u1, Int.natCast_mul, Int.natCast_pow]
          rfl
        rw [h7]
        exact Int.mul_ediv_cancel _ (Int.ne_of_gt (u_pos k))
      rw [h8] at mx
      omega
    refine ⟨(u, qa.2 - k), Or.inr ⟨a0, k, eu'.symm, m10, rfl⟩, ?_, u6, hB.le ?_⟩
    · show (p54.1 - p94.1.toInt64 : Int64).toInt = qa.2 - k
      exact q_subL (h11.trans ha2) ((Int32.toInt_toInt64 _).trans u4) (by omega) (by omega)
    · rw [← u1]
      exact Nat.le_mul_of_pos_right _ (Nat.pow_pos (by decide))
theorem v_pwM {v : Int} {e x : Nat} (h : e ≤ x) (hv : v ≠ 0) : (v ^ e).natAbs ≤ (v ^ x).natAbs := by
  rw [Int.natAbs_pow, Int.natAbs_pow]
  exact Nat.pow_le_pow_right (by omega) h
theorem V_raise {R : Int32} {x3 : Int32} {t0_0 : Int64} {t0_1 : Int32} {t1_0 : Int32} {t1_1 : Int32} {t2_0 : (Nat → Int32)} {t3_0 : Int32} {t3_1 : Int32} {t4_0 : (Nat → Int32)} {t5_0 : Int32} {t5_1 : Int32} {t6_0 : (Nat → Int32)} {t7_0 : Int32} {t7_1 : Int32} {t8_0 : Int32} {t8_1 : Int32} {t9_0 : (Nat → Int32)} {qa : Int × Int} {e : Nat} (ha : dP R t8_0 t8_1 t9_0 t7_0 t7_1 qa) (hx : x3.toInt = (e : Int)) (he : e ≤ 100000) (i2 : bI 220 t5_0 t5_1 t6_0) : ((F_DW_raise R x3 t0_0 t0_1 t1_0 t1_1 t2_0 t3_0 t3_1 t4_0 t5_0 t5_1 t6_0 t7_0 t7_1 t8_0 t8_1 t9_0).1 = 0 ∧ ¬ dFit (qa.1 ^ e, qa.2 * e)) ∨ ((F_DW_raise R x3 t0_0 t0_1 t1_0 t1_1 t2_0 t3_0 t3_1 t4_0 t5_0 t5_1 t6_0 t7_0 t7_1 t8_0 t8_1 t9_0).1 = 1 ∧ (F_DW_raise R x3 t0_0 t0_1 t1_0 t1_1 t2_0 t3_0 t3_1 t4_0 t5_0 t5_1 t6_0 t7_0 t7_1 t8_0 t8_1 t9_0).2.1.toInt = qa.2 * e ∧ bO 220 (F_DW_raise R x3 t0_0 t0_1 t1_0 t1_1 t2_0 t3_0 t3_1 t4_0 t5_0 t5_1 t6_0 t7_0 t7_1 t8_0 t8_1 t9_0).2.2.2.1 (F_DW_raise R x3 t0_0 t0_1 t1_0 t1_1 t2_0 t3_0 t3_1 t4_0 t5_0 t5_1 t6_0 t7_0 t7_1 t8_0 t8_1 t9_0).2.2.2.2.1 (F_DW_raise R x3 t0_0 t0_1 t1_0 t1_1 t2_0 t3_0 t3_1 t4_0 t5_0 t5_1 t6_0 t7_0 t7_1 t8_0 t8_1 t9_0).2.2.2.2.2.1 (qa.1 ^ e) ∧ bB 108 (qa.1 ^ e)) := by
  have e2 := e220
  have sa := ha.1.sB ha.O.B
  obtain ⟨ha1, _, ha2, ha3, ha4⟩ := ha
  have hm1 : (-10000) * (e : Int) ≤ qa.2 * e := Int.mul_le_mul_of_nonneg_right ha3 (by omega)
  have hm2 : qa.2 * e ≤ 10000 * (e : Int) := Int.mul_le_mul_of_nonneg_right ha4 (by omega)
  have es : (t7_0.toInt64 * x3.toInt64 : Int64).toInt = qa.2 * e := by
    have h1 := q_mulL ((Int32.toInt_toInt64 t7_0).trans ha2) ((Int32.toInt_toInt64 x3).trans hx) (by omega) (by omega)
    exact h1
  unfold F_DW_raise
  have hp := T_power (x3 := x3) (x4 := 3330) (t0_0 := t3_0) (t0_1 := t3_1) (t1_0 := t4_0) (N := 108) ha1 (by omega) (by decide) i2 (by decide) (by decide) (by omega)
  generalize F_Mil_power R x3 3330 t3_0 t3_1 t4_0 t5_0 t5_1 t6_0 t8_0 t8_1 t9_0 = p78 at hp ⊢
  obtain ⟨v, q0, q1⟩ := hp
  rw [show x3.toInt.toNat = e by omega] at q0
  unfold F_DW_raise_c24
  have h1 : P1 220 v (F_Big_copy 220 220 t1_0 t1_1 t2_0 p78.2.1 p78.2.2.1 p78.2.2.2.1) := W_copy q1 q1.fit (by decide)
  generalize F_Big_copy 220 220 t1_0 t1_1 t2_0 p78.2.1 p78.2.2.1 p78.2.2.2.1 = p106 at h1 ⊢
  unfold F_DW_raise_c42
  rcases q0 with ⟨h2, d, d1, d2⟩ | ⟨h2, h3, h4⟩
  · refine Or.inl ⟨h2, fun hf => ?_⟩
    have hf1 : (qa.1 ^ e).natAbs < 10 ^ 1000 := hf.1
    have v0 : qa.1 ≠ 0 := fun z => by
      rw [z] at d2
      have h5 : 2 ≤ 2 ^ (3330 : Int32).toInt.toNat := by
        show 2 ≤ 2 ^ 3330
        exact Nat.le_self_pow (by decide) 2
      rcases Nat.eq_zero_or_pos d with g | g
      · rw [g, Int.pow_zero] at d2
        have h6 : (1 : Int).natAbs = 1 := rfl
        omega
      · rw [Int.zero_pow (by omega)] at d2
        have h6 : (0 : Int).natAbs = 0 := rfl
        omega
    have h7 := v_pwM d1 v0
    have h8 : 10 ^ 1000 ≤ 2 ^ (3330 : Int32).toInt.toNat := by
      show 10 ^ 1000 ≤ 2 ^ 3330
      have h9 : 10 ^ 1000 = (10 ^ 100) ^ 10 := by rw [← Nat.pow_mul]
      have h10 : (2 ^ 333) ^ 10 = 2 ^ 3330 := by rw [← Nat.pow_mul]
      rw [h9, ← h10]
      exact Nat.pow_le_pow_left (by decide) 10
    exact absurd (Nat.lt_of_lt_of_le hf1 (Nat.le_trans h8 (Nat.le_trans d2 h7))) (Nat.lt_irrefl _)
  · refine Or.inr ⟨h2, es, ?_, ?_⟩
    · rw [← h3]
      exact h1
    · rw [← h3]
      exact v_pB (N := 108) (by decide) h4
