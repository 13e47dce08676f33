/-! values, for whole: e and g of the reference -/
/-- what keep leaves of a number that is not 0 -/
theorem Z_kst {x2 : Int32} {t0_0 : Int32} {t0_1 : Int32} {t0_2 : Int32} {t0_3 : Int32} {t0_4 : Int32} {t0_5 : Int32} {t0_6 : Int32} {t0_7 : Int32} {t0_8 : Int32} {t0_9 : Int32} {t0_10 : Int32} {t0_11 : Int32} {t0_12 : Int32} {t0_13 : Int32} {t0_14 : Int32} {t0_15 : Int32} {t0_16 : Int32} {t0_17 : Int32} {t0_18 : Int32} {t0_19 : Int32} {t0_20 : Int32} {t0_21 : Int32} {t1_0 : (Nat → Int32)} {N m s k : Nat} (h : zFp t0_20 t0_21 t1_0 N m ((m : Int) - s)) (hn : zNf 10 N m) (h0 : N ≠ 0) (hm : m ≤ 22) (hs : s ≤ 60) (hx : x2.toInt = (k : Int)) (hk : 1 ≤ k) : ∃ M m2 d z : Nat, zFp (F_VR_keep x2 t0_0 t0_1 t0_2 t0_3 t0_4 t0_5 t0_6 t0_7 t0_8 t0_9 t0_10 t0_11 t0_12 t0_13 t0_14 t0_15 t0_16 t0_17 t0_18 t0_19 t0_20 t0_21 t1_0).1 (F_VR_keep x2 t0_0 t0_1 t0_2 t0_3 t0_4 t0_5 t0_6 t0_7 t0_8 t0_9 t0_10 t0_11 t0_12 t0_13 t0_14 t0_15 t0_16 t0_17 t0_18 t0_19 t0_20 t0_21 t1_0).2.1 (F_VR_keep x2 t0_0 t0_1 t0_2 t0_3 t0_4 t0_5 t0_6 t0_7 t0_8 t0_9 t0_10 t0_11 t0_12 t0_13 t0_14 t0_15 t0_16 t0_17 t0_18 t0_19 t0_20 t0_21 t1_0).2.2 M m2 ((m : Int) - s + d - k) ∧ M ≠ 0 ∧ yDt (yRk 2 N m k) d ∧ yRk 2 N m k = M * 10 ^ z ∧ d = m2 + z ∧ (k ≤ d ∧ d ≤ k + 1) := by
  have r := Z_keep (x2 := x2) (t0_0 := t0_0) (t0_1 := t0_1) (t0_2 := t0_2) (t0_3 := t0_3) (t0_4 := t0_4) (t0_5 := t0_5) (t0_6 := t0_6) (t0_7 := t0_7) (t0_8 := t0_8) (t0_9 := t0_9) (t0_10 := t0_10) (t0_11 := t0_11) (t0_12 := t0_12) (t0_13 := t0_13) (t0_14 := t0_14) (t0_15 := t0_15) (t0_16 := t0_16) (t0_17 := t0_17) (t0_18 := t0_18) (t0_19 := t0_19) (t0_20 := t0_20) (t0_21 := t0_21) (t1_0 := t1_0) (k := (k : Int)) h (by omega) hn.1 (by omega) hx
  rcases r with ⟨r1, r2⟩ | ⟨r0, r1, m2, r2, r3⟩ | ⟨r1, r2, r3⟩
  · have e : yRk 2 N m (k : Int) = N * 10 ^ (k - m) := by
      unfold yRk
      rw [if_pos r1, show ((k : Int) - m).toNat = k - m by omega]
    refine ⟨N, m, k, k - m, ?_, h0, ?_, e, by omega, by omega, by omega⟩
    · rw [show (m : Int) - s + k - k = (m : Int) - s by omega]
      exact r2
    · have := yDt_sc (z := k - m) (Z_nf hn h0) h0
      rw [show m + (k - m) = k by omega] at this
      rw [e]
      exact this
  · have d := Z_kd (Z_nf hn h0) h0 r0 r1 r3 r2.2.2.2.2.2
    have mb : k ≤ m2 ∧ m2 ≤ k + 1 := by
      rcases r3 with z | z
      · omega
      · have := z.1; omega
    refine ⟨yRk 2 N m k, m2, m2, 0, ?_, ?_, d, by rw [Nat.pow_zero, Nat.mul_one], by omega, by omega, by omega⟩
    · rw [show (m : Int) - s + m2 - k = (m : Int) - s + ((m2 : Int) - k) by omega]
      exact r2
    · intro q
      have w := d.2 (by omega)
      apply w
      unfold yLt10
      rw [q]
      exact Nat.pow_pos (by decide)
  · omega
theorem Z_genl {x2 : Int32} {t0_0 : Int32} {t0_1 : Int32} {t0_2 : Int32} {t0_3 : Int32} {t0_4 : Int32} {t0_5 : Int32} {t0_6 : Int32} {t0_7 : Int32} {t0_8 : Int32} {t0_9 : Int32} {t0_10 : Int32} {t0_11 : Int32} {t0_12 : Int32} {t0_13 : Int32} {t0_14 : Int32} {t0_15 : Int32} {t0_16 : Int32} {t0_17 : Int32} {t0_18 : Int32} {t0_19 : Int32} {t0_20 : Int32} {t0_21 : Int32} {t1_0 : (Nat → Int32)} {t2_0 : (Nat → Int32)} {N m s p : Nat} {l : List Nat} (h : zFp t0_20 t0_21 t2_0 N m ((m : Int) - s)) (hn : zNf 10 N m) (hm : m ≤ 22) (hs : s ≤ 60) (hb : x2.toInt = (p : Int)) (hp : 1 ≤ p) (hb2 : p ≤ 10000) (hl : yRt t0_17 t1_0 l) (hl2 : l.length ≤ 1000) : ∃ t, zTg N m s p (t0_9 &&& 16) (t0_9 &&& 2) t ∧ yRt (F_VR_general x2 t0_0 t0_1 t0_2 t0_3 t0_4 t0_5 t0_6 t0_7 t0_8 t0_9 t0_10 t0_11 t0_12 t0_13 t0_14 t0_15 t0_16 t0_17 t0_18 t0_19 t0_20 t0_21 t1_0 t2_0).1 (F_VR_general x2 t0_0 t0_1 t0_2 t0_3 t0_4 t0_5 t0_6 t0_7 t0_8 t0_9 t0_10 t0_11 t0_12 t0_13 t0_14 t0_15 t0_16 t0_17 t0_18 t0_19 t0_20 t0_21 t1_0 t2_0).2.2.2.1 (l ++ t) := by
  have em4 : (-4 : Int32).toInt = -4 := rfl
  have b1 : (x2 - 1).toInt = ((p - 1 : Nat) : Int) := by
    rw [q_subI (b := 1) (y := 1) hb rfl (by omega) (by omega)]
    omega
  unfold F_VR_general
  rcases Z_isZ (t0_0 := t0_0) (t0_1 := t0_1) (t0_2 := t0_2) (t0_3 := t0_3) (t0_4 := t0_4) (t0_5 := t0_5) (t0_6 := t0_6) (t0_7 := t0_7) (t0_8 := t0_8) (t0_9 := t0_9) (t0_10 := t0_10) (t0_11 := t0_11) (t0_12 := t0_12) (t0_13 := t0_13) (t0_14 := t0_14) (t0_15 := t0_15) (t0_16 := t0_16) (t0_17 := t0_17) (t0_18 := t0_18) (t0_19 := t0_19) (t0_20 := t0_20) (t0_21 := t0_21) (t1_0 := t2_0) h with ⟨z1, z2⟩ | ⟨z1, z2⟩
  · rw [if_neg (by rw [z1]; decide)]
    subst z2
    have m1 := Z_nf0 hn
    have w := Z_plain (x2 := x2 - 1) (t0_0 := t0_0) (t0_1 := t0_1) (t0_2 := t0_2) (t0_3 := t0_3) (t0_4 := t0_4) (t0_5 := t0_5) (t0_6 := t0_6) (t0_7 := t0_7) (t0_8 := t0_8) (t0_9 := t0_9) (t0_10 := t0_10) (t0_11 := t0_11) (t0_12 := t0_12) (t0_13 := t0_13) (t0_14 := t0_14) (t0_15 := t0_15) (t0_16 := t0_16) (t0_17 := t0_17) (t0_18 := t0_18) (t0_19 := t0_19) (t0_20 := t0_20) (t0_21 := t0_21) (t1_0 := t1_0) (t2_0 := t2_0) h (by omega) b1 (by omega) hl hl2
    revert w
    generalize F_VR_plain (x2 - 1) t0_0 t0_1 t0_2 t0_3 t0_4 t0_5 t0_6 t0_7 t0_8 t0_9 t0_10 t0_11 t0_12 t0_13 t0_14 t0_15 t0_16 t0_17 t0_18 t0_19 t0_20 t0_21 t1_0 t2_0 = q
    intro w
    unfold F_VR_general_c11
    refine ⟨_, Or.inl ⟨rfl, ?_⟩, w⟩
    rw [show (max ((m : Int) - s) 1).toNat = 1 by omega, Z_pl0 (w := 0), Z_tl0 (w := 0)]
  · rw [if_pos z1]
    have k := Z_kst (x2 := x2) (t0_0 := t0_0) (t0_1 := t0_1) (t0_2 := t0_2) (t0_3 := t0_3) (t0_4 := t0_4) (t0_5 := t0_5) (t0_6 := t0_6) (t0_7 := t0_7) (t0_8 := t0_8) (t0_9 := t0_9) (t0_10 := t0_10) (t0_11 := t0_11) (t0_12 := t0_12) (t0_13 := t0_13) (t0_14 := t0_14) (t0_15 := t0_15) (t0_16 := t0_16) (t0_17 := t0_17) (t0_18 := t0_18) (t0_19 := t0_19) (t0_20 := t0_20) (t0_21 := t0_21) (t1_0 := t2_0) h hn z2 hm hs hb hp
    revert k
    generalize F_VR_keep x2 t0_0 t0_1 t0_2 t0_3 t0_4 t0_5 t0_6 t0_7 t0_8 t0_9 t0_10 t0_11 t0_12 t0_13 t0_14 t0_15 t0_16 t0_17 t0_18 t0_19 t0_20 t0_21 t2_0 = q
    intro k
    obtain ⟨M, m2, d, z, k1, k2, k3, k4, k5, k6⟩ := k
    have pE := k1.2.1
    have pb := k1.2.2.2.1
    have pm := k1.2.2.1
    have e1 : (q.2.1 - 1).toInt = (m : Int) - s + d - p - 1 := q_subI (b := 1) (y := 1) pE rfl (by omega) (by omega)
    have hd : yHead (yRk 2 N m p) d p (t0_9 &&& 2) = yHead M m2 p (t0_9 &&& 2) := by
      rw [k4, k5, yHead_sc]
    have EX : ¬ (-4 ≤ (m : Int) - s + d - p - 1 ∧ (m : Int) - s + d - p - 1 < p) → ∃ t, zTg N m s p (t0_9 &&& 16) (t0_9 &&& 2) t ∧ yRt (F_VR_exponential (x2 - 1) t0_0 t0_1 t0_2 t0_3 t0_4 t0_5 t0_6 t0_7 t0_8 t0_9 t0_10 t0_11 t0_12 t0_13 t0_14 t0_15 t0_16 t0_17 t0_18 t0_19 q.1 q.2.1 t1_0 q.2.2).1 (F_VR_exponential (x2 - 1) t0_0 t0_1 t0_2 t0_3 t0_4 t0_5 t0_6 t0_7 t0_8 t0_9 t0_10 t0_11 t0_12 t0_13 t0_14 t0_15 t0_16 t0_17 t0_18 t0_19 q.1 q.2.1 t1_0 q.2.2).2 (l ++ t) := by
      intro ng
      have w := Z_expo (x2 := x2 - 1) (t0_0 := t0_0) (t0_1 := t0_1) (t0_2 := t0_2) (t0_3 := t0_3) (t0_4 := t0_4) (t0_5 := t0_5) (t0_6 := t0_6) (t0_7 := t0_7) (t0_8 := t0_8) (t0_9 := t0_9) (t0_10 := t0_10) (t0_11 := t0_11) (t0_12 := t0_12) (t0_13 := t0_13) (t0_14 := t0_14) (t0_15 := t0_15) (t0_16 := t0_16) (t0_17 := t0_17) (t0_18 := t0_18) (t0_19 := t0_19) (t0_20 := q.1) (t0_21 := q.2.1) (t1_0 := t1_0) (t2_0 := q.2.2) k1 (by omega) b1 (by omega) hl hl2
      rw [if_neg k2, show p - 1 + 1 = p by omega, ← hd] at w
      exact ⟨_, Or.inr ⟨z2, d, _, k3, rfl, Or.inr ⟨ng, rfl⟩⟩, w⟩
    unfold F_VR_general_c17
    by_cases c : q.2.1 - 1 < -4
    · rw [if_pos c]
      have c' := q_ltI c
      obtain ⟨t, t1, t2⟩ := EX (by omega)
      revert t2
      generalize F_VR_exponential (x2 - 1) t0_0 t0_1 t0_2 t0_3 t0_4 t0_5 t0_6 t0_7 t0_8 t0_9 t0_10 t0_11 t0_12 t0_13 t0_14 t0_15 t0_16 t0_17 t0_18 t0_19 q.1 q.2.1 t1_0 q.2.2 = g
      intro t2
      unfold F_VR_general_c54
      exact ⟨t, t1, t2⟩
    · rw [if_neg c]
      have c' := q_nltI c
      by_cases c2 : x2 ≤ q.2.1 - 1
      · rw [if_pos c2]
        have c3 := q_leI c2
        obtain ⟨t, t1, t2⟩ := EX (by omega)
        revert t2
        generalize F_VR_exponential (x2 - 1) t0_0 t0_1 t0_2 t0_3 t0_4 t0_5 t0_6 t0_7 t0_8 t0_9 t0_10 t0_11 t0_12 t0_13 t0_14 t0_15 t0_16 t0_17 t0_18 t0_19 q.1 q.2.1 t1_0 q.2.2 = g
        intro t2
        unfold F_VR_general_c54_3
        exact ⟨t, t1, t2⟩
      · rw [if_neg c2]
        have c3 := q_nleI c2
        have b2 : (x2 - 1 - (q.2.1 - 1)).toInt = ((((p : Int) - 1 - ((m : Int) - s + d - p - 1)).toNat : Nat) : Int) := by
          rw [q_subI b1 e1 (by omega) (by omega)]
          omega
        have w := Z_plain (x2 := x2 - 1 - (q.2.1 - 1)) (t0_0 := t0_0) (t0_1 := t0_1) (t0_2 := t0_2) (t0_3 := t0_3) (t0_4 := t0_4) (t0_5 := t0_5) (t0_6 := t0_6) (t0_7 := t0_7) (t0_8 := t0_8) (t0_9 := t0_9) (t0_10 := t0_10) (t0_11 := t0_11) (t0_12 := t0_12) (t0_13 := t0_13) (t0_14 := t0_14) (t0_15 := t0_15) (t0_16 := t0_16) (t0_17 := t0_17) (t0_18 := t0_18) (t0_19 := t0_19) (t0_20 := q.1) (t0_21 := q.2.1) (t1_0 := t1_0) (t2_0 := q.2.2) k1 (by omega) b2 (by omega) hl hl2
        revert w
        generalize F_VR_plain (x2 - 1 - (q.2.1 - 1)) t0_0 t0_1 t0_2 t0_3 t0_4 t0_5 t0_6 t0_7 t0_8 t0_9 t0_10 t0_11 t0_12 t0_13 t0_14 t0_15 t0_16 t0_17 t0_18 t0_19 q.1 q.2.1 t1_0 q.2.2 = g
        intro w
        unfold F_VR_general_c44
        refine ⟨_, Or.inr ⟨z2, d, _, k3, rfl, Or.inl ⟨⟨by omega, by omega⟩, ?_⟩⟩, w⟩
        rw [k4, show (d : Int) - 1 - ((m : Int) - s + d - p - 1) = ((m2 : Int) - ((m : Int) - s + d - p)) + ((z : Nat) : Int) by omega, yPlA_sc, yTail_sc, show (m : Int) - s + d - p - 1 + 1 = (m : Int) - s + d - p by omega]
/-- which text c makes of a decimal -/
def zTx (c : Int32) (N dg s p : Nat) (cm ap : Int32) (t : List Nat) : Prop := (c = 102 ∧ zTf N s p cm ap t) ∨ (c = 101 ∧ zTe N dg s (p + 1) ap t) ∨ (c = 103 ∧ zTg N dg s (max p 1) cm ap t)
theorem Z_dec {x2 : Int32} {t0_0 : Int32} {t0_1 : Int32} {t0_2 : Int32} {t0_3 : Int32} {t0_4 : Int32} {t0_5 : Int32} {t0_6 : Int32} {t0_7 : Int32} {t0_8 : Int32} {t0_9 : Int32} {t0_10 : Int32} {t0_11 : Int32} {t0_12 : Int32} {t0_13 : Int32} {t0_14 : Int32} {t0_15 : Int32} {t0_16 : Int32} {t0_17 : Int32} {t0_18 : Int32} {t0_19 : Int32} {t0_20 : Int32} {t0_21 : Int32} {t1_0 : (Nat → Int32)} {t2_0 : (Nat → Int64)} {t3_0 : (Nat → Int32)} {t4_0 : (Nat → Int32)} {N s p dg : Nat} {l : List Nat} (hN : (t2_0 t0_14.toNatClampNeg).toInt.natAbs = N) (hs : (t1_0 t0_14.toNatClampNeg).toInt = (s : Int)) (hs2 : s ≤ 40) (hc : x2 = 102 ∨ x2 = 101 ∨ x2 = 103) (hp : (t0_12.toInt < 0 ∧ p = 6) ∨ t0_12.toInt = (p : Int)) (hp2 : p ≤ 9999) (hd : N ≠ 0 → yDt N dg) (hl : yRt t0_17 t3_0 l) (hl2 : l.length ≤ 1000) : ∃ t, zTx x2 N dg s p (t0_9 &&& 16) (t0_9 &&& 2) t ∧ yRt (F_VR_decimal_IV x2 t0_0 t0_1 t0_2 t0_3 t0_4 t0_5 t0_6 t0_7 t0_8 t0_9 t0_10 t0_11 t0_12 t0_13 t0_14 t0_15 t0_16 t0_17 t0_18 t0_19 t0_20 t0_21 t1_0 t2_0 t3_0 t4_0).1 (F_VR_decimal_IV x2 t0_0 t0_1 t0_2 t0_3 t0_4 t0_5 t0_6 t0_7 t0_8 t0_9 t0_10 t0_11 t0_12 t0_13 t0_14 t0_15 t0_16 t0_17 t0_18 t0_19 t0_20 t0_21 t1_0 t2_0 t3_0 t4_0).2.2.2.1 (l ++ t) := by
  have e0 : (0 : Int32).toInt = 0 := rfl
  unfold F_VR_decimal_IV
  have sp := Z_spr (x2 := F_VR_size64 (t2_0 t0_14.toNatClampNeg)) (x3 := 10) (t0_0 := t0_0) (t0_1 := t0_1) (t0_2 := t0_2) (t0_3 := t0_3) (t0_4 := t0_4) (t0_5 := t0_5) (t0_6 := t0_6) (t0_7 := t0_7) (t0_8 := t0_8) (t0_9 := t0_9) (t0_10 := t0_10) (t0_11 := t0_11) (t0_12 := t0_12) (t0_13 := t0_13) (t0_14 := t0_14) (t0_15 := t0_15) (t0_16 := t0_16) (t0_17 := t0_17) (t0_18 := t0_18) (t0_19 := t0_19) (t0_20 := t0_20) (t0_21 := t0_21) (t1_0 := t4_0) (b := 10) rfl (by decide)
  rw [Z_size, hN] at sp
  revert sp
  generalize F_VR_spread (F_VR_size64 (t2_0 t0_14.toNatClampNeg)) 10 t0_0 t0_1 t0_2 t0_3 t0_4 t0_5 t0_6 t0_7 t0_8 t0_9 t0_10 t0_11 t0_12 t0_13 t0_14 t0_15 t0_16 t0_17 t0_18 t0_19 t0_20 t0_21 t4_0 = q
  intro sp
  obtain ⟨m, s1, s2, s3, s4, s5⟩ := sp
  unfold F_VR_decimal_IV_c15
  have pt : (q.1 - t1_0 t0_14.toNatClampNeg).toInt = (m : Int) - s := q_subI s1 hs (by omega) (by omega)
  have fp : zFp q.1 (q.1 - t1_0 t0_14.toNatClampNeg) q.2.2 N m ((m : Int) - s) := ⟨s1, pt, by omega, by omega, s5, s4.2.1⟩
  have dm : N ≠ 0 → dg = m := fun z => yDt_U (hd z) (Z_nf s4 z)
  have J : ∀ lx : Int32, lx.toInt = (p : Int) → ∃ t, zTx x2 N dg s p (t0_9 &&& 16) (t0_9 &&& 2) t ∧ yRt (F_VR_decimal_IV_J52 x2 t0_0 t0_1 t0_2 t0_3 t0_4 t0_5 t0_6 t0_7 t0_8 t0_9 t0_10 t0_11 t0_12 t0_13 t0_14 t0_15 t0_16 t0_17 t0_18 t0_19 t0_20 t0_21 t1_0 t2_0 t3_0 t4_0 q q.1 (q.1 - t1_0 t0_14.toNatClampNeg) q.2.2 lx).1 (F_VR_decimal_IV_J52 x2 t0_0 t0_1 t0_2 t0_3 t0_4 t0_5 t0_6 t0_7 t0_8 t0_9 t0_10 t0_11 t0_12 t0_13 t0_14 t0_15 t0_16 t0_17 t0_18 t0_19 t0_20 t0_21 t1_0 t2_0 t3_0 t4_0 q q.1 (q.1 - t1_0 t0_14.toNatClampNeg) q.2.2 lx).2.2.2.1 (l ++ t) := by
    intro lx hlx
    unfold F_VR_decimal_IV_J52
    by_cases c1 : x2 = 102
    · rw [if_pos c1]
      obtain ⟨t, t1, t2⟩ := Z_fixd (x2 := lx) (t0_0 := t0_0) (t0_1 := t0_1) (t0_2 := t0_2) (t0_3 := t0_3) (t0_4 := t0_4) (t0_5 := t0_5) (t0_6 := t0_6) (t0_7 := t0_7) (t0_8 := t0_8) (t0_9 := t0_9) (t0_10 := t0_10) (t0_11 := t0_11) (t0_12 := t0_12) (t0_13 := t0_13) (t0_14 := t0_14) (t0_15 := t0_15) (t0_16 := t0_16) (t0_17 := t0_17) (t0_18 := t0_18) (t0_19 := t0_19) (t0_20 := q.1) (t0_21 := q.1 - t1_0 t0_14.toNatClampNeg) (t1_0 := t3_0) (t2_0 := q.2.2) fp s4 s3 (by omega) hlx (by omega) hl hl2
      revert t2
      generalize F_VR_fixed lx t0_0 t0_1 t0_2 t0_3 t0_4 t0_5 t0_6 t0_7 t0_8 t0_9 t0_10 t0_11 t0_12 t0_13 t0_14 t0_15 t0_16 t0_17 t0_18 t0_19 q.1 (q.1 - t1_0 t0_14.toNatClampNeg) t3_0 q.2.2 = g
      intro t2
      unfold F_VR_decimal_IV_c61
      exact ⟨t, Or.inl ⟨c1, t1⟩, t2⟩
    · rw [if_neg c1]
      by_cases c2 : x2 = 101
      · rw [if_pos c2]
        have k1 : (lx + 1).toInt = ((p + 1 : Nat) : Int) := by
          rw [q_addI (y := 1) hlx rfl (by omega) (by omega)]
          omega
        by_cases n0 : N = 0
        · have m1 : m = 1 := Z_nf0 (by rw [n0] at s4; exact s4)
          have r := Z_keep (x2 := lx + 1) (t0_0 := t0_0) (t0_1 := t0_1) (t0_2 := t0_2) (t0_3 := t0_3) (t0_4 := t0_4) (t0_5 := t0_5) (t0_6 := t0_6) (t0_7 := t0_7) (t0_8 := t0_8) (t0_9 := t0_9) (t0_10 := t0_10) (t0_11 := t0_11) (t0_12 := t0_12) (t0_13 := t0_13) (t0_14 := t0_14) (t0_15 := t0_15) (t0_16 := t0_16) (t0_17 := t0_17) (t0_18 := t0_18) (t0_19 := t0_19) (t0_20 := q.1) (t0_21 := q.1 - t1_0 t0_14.toNatClampNeg) (t1_0 := q.2.2) (k := ((p + 1 : Nat) : Int)) fp (by omega) (by omega) (by omega) k1
          revert r
          generalize F_VR_keep (lx + 1) t0_0 t0_1 t0_2 t0_3 t0_4 t0_5 t0_6 t0_7 t0_8 t0_9 t0_10 t0_11 t0_12 t0_13 t0_14 t0_15 t0_16 t0_17 t0_18 t0_19 q.1 (q.1 - t1_0 t0_14.toNatClampNeg) q.2.2 = g
          intro r
          rcases r with ⟨_, r2⟩ | ⟨_, r1, _⟩ | ⟨r1, _⟩
          · unfold F_VR_decimal_IV_c77
            have w := Z_expo (x2 := lx) (t0_0 := t0_0) (t0_1 := t0_1) (t0_2 := t0_2) (t0_3 := t0_3) (t0_4 := t0_4) (t0_5 := t0_5) (t0_6 := t0_6) (t0_7 := t0_7) (t0_8 := t0_8) (t0_9 := t0_9) (t0_10 := t0_10) (t0_11 := t0_11) (t0_12 := t0_12) (t0_13 := t0_13) (t0_14 := t0_14) (t0_15 := t0_15) (t0_16 := t0_16) (t0_17 := t0_17) (t0_18 := t0_18) (t0_19 := t0_19) (t0_20 := g.1) (t0_21 := g.2.1) (t1_0 := t3_0) (t2_0 := g.2.2) r2 (by omega) hlx (by omega) hl hl2
            rw [if_pos n0] at w
            revert w
            generalize F_VR_exponential lx t0_0 t0_1 t0_2 t0_3 t0_4 t0_5 t0_6 t0_7 t0_8 t0_9 t0_10 t0_11 t0_12 t0_13 t0_14 t0_15 t0_16 t0_17 t0_18 t0_19 g.1 g.2.1 t3_0 g.2.2 = g2
            intro w
            unfold F_VR_decimal_IV_c82
            refine ⟨_, Or.inr (Or.inl ⟨c2, Or.inl ⟨n0, ?_⟩⟩), w⟩
            rw [n0, Z_hd0 (d := 0)]
          · omega
          · omega
        · have k := Z_kst (x2 := lx + 1) (t0_0 := t0_0) (t0_1 := t0_1) (t0_2 := t0_2) (t0_3 := t0_3) (t0_4 := t0_4) (t0_5 := t0_5) (t0_6 := t0_6) (t0_7 := t0_7) (t0_8 := t0_8) (t0_9 := t0_9) (t0_10 := t0_10) (t0_11 := t0_11) (t0_12 := t0_12) (t0_13 := t0_13) (t0_14 := t0_14) (t0_15 := t0_15) (t0_16 := t0_16) (t0_17 := t0_17) (t0_18 := t0_18) (t0_19 := t0_19) (t0_20 := q.1) (t0_21 := q.1 - t1_0 t0_14.toNatClampNeg) (t1_0 := q.2.2) fp s4 n0 s3 (by omega) k1 (by omega)
          revert k
          generalize F_VR_keep (lx + 1) t0_0 t0_1 t0_2 t0_3 t0_4 t0_5 t0_6 t0_7 t0_8 t0_9 t0_10 t0_11 t0_12 t0_13 t0_14 t0_15 t0_16 t0_17 t0_18 t0_19 q.1 (q.1 - t1_0 t0_14.toNatClampNeg) q.2.2 = g
          intro k
          obtain ⟨M, m2, d, z, k1, k2, k3, k4, k5, k6⟩ := k
          unfold F_VR_decimal_IV_c77
          have w := Z_expo (x2 := lx) (t0_0 := t0_0) (t0_1 := t0_1) (t0_2 := t0_2) (t0_3 := t0_3) (t0_4 := t0_4) (t0_5 := t0_5) (t0_6 := t0_6) (t0_7 := t0_7) (t0_8 := t0_8) (t0_9 := t0_9) (t0_10 := t0_10) (t0_11 := t0_11) (t0_12 := t0_12) (t0_13 := t0_13) (t0_14 := t0_14) (t0_15 := t0_15) (t0_16 := t0_16) (t0_17 := t0_17) (t0_18 := t0_18) (t0_19 := t0_19) (t0_20 := g.1) (t0_21 := g.2.1) (t1_0 := t3_0) (t2_0 := g.2.2) k1 (by omega) hlx (by omega) hl hl2
          rw [if_neg k2] at w
          revert w
          generalize F_VR_exponential lx t0_0 t0_1 t0_2 t0_3 t0_4 t0_5 t0_6 t0_7 t0_8 t0_9 t0_10 t0_11 t0_12 t0_13 t0_14 t0_15 t0_16 t0_17 t0_18 t0_19 g.1 g.2.1 t3_0 g.2.2 = g2
          intro w
          unfold F_VR_decimal_IV_c82
          refine ⟨_, Or.inr (Or.inl ⟨c2, Or.inr ⟨n0, d, ?_, ?_⟩⟩), w⟩
          · rw [dm n0]; exact k3
          · rw [dm n0, k4, k5, yHead_sc]
      · rw [if_neg c2]
        have c3 : x2 = 103 := (hc.resolve_left c1).resolve_left c2
        have tg : ∀ {t : List Nat} {r : Nat}, zTg N m s r (t0_9 &&& 16) (t0_9 &&& 2) t → zTg N dg s r (t0_9 &&& 16) (t0_9 &&& 2) t := by
          intro t r g
          by_cases n0 : N = 0
          · rcases g with g | g
            · exact Or.inl g
            · exact absurd n0 g.1
          · rw [dm n0]
            exact g
        by_cases c4 : lx = 0
        · rw [if_pos c4]
          have c5 := q_eqI c4
          have p0 : p = 0 := by omega
          obtain ⟨t, t1, t2⟩ := Z_genl (x2 := 1) (t0_0 := t0_0) (t0_1 := t0_1) (t0_2 := t0_2) (t0_3 := t0_3) (t0_4 := t0_4) (t0_5 := t0_5) (t0_6 := t0_6) (t0_7 := t0_7) (t0_8 := t0_8) (t0_9 := t0_9) (t0_10 := t0_10) (t0_11 := t0_11) (t0_12 := t0_12) (t0_13 := t0_13) (t0_14 := t0_14) (t0_15 := t0_15) (t0_16 := t0_16) (t0_17 := t0_17) (t0_18 := t0_18) (t0_19 := t0_19) (t0_20 := q.1) (t0_21 := q.1 - t1_0 t0_14.toNatClampNeg) (t1_0 := t3_0) (t2_0 := q.2.2) (p := 1) fp s4 s3 (by omega) rfl (by decide) (by decide) hl hl2
          revert t2
          generalize F_VR_general 1 t0_0 t0_1 t0_2 t0_3 t0_4 t0_5 t0_6 t0_7 t0_8 t0_9 t0_10 t0_11 t0_12 t0_13 t0_14 t0_15 t0_16 t0_17 t0_18 t0_19 q.1 (q.1 - t1_0 t0_14.toNatClampNeg) t3_0 q.2.2 = g
          intro t2
          unfold F_VR_decimal_IV_c98_4
          refine ⟨t, Or.inr (Or.inr ⟨c3, ?_⟩), t2⟩
          rw [p0]
          exact tg t1
        · rw [if_neg c4]
          have c5 := q_neI c4
          obtain ⟨t, t1, t2⟩ := Z_genl (x2 := lx) (t0_0 := t0_0) (t0_1 := t0_1) (t0_2 := t0_2) (t0_3 := t0_3) (t0_4 := t0_4) (t0_5 := t0_5) (t0_6 := t0_6) (t0_7 := t0_7) (t0_8 := t0_8) (t0_9 := t0_9) (t0_10 := t0_10) (t0_11 := t0_11) (t0_12 := t0_12) (t0_13 := t0_13) (t0_14 := t0_14) (t0_15 := t0_15) (t0_16 := t0_16) (t0_17 := t0_17) (t0_18 := t0_18) (t0_19 := t0_19) (t0_20 := q.1) (t0_21 := q.1 - t1_0 t0_14.toNatClampNeg) (t1_0 := t3_0) (t2_0 := q.2.2) (p := p) fp s4 s3 (by omega) hlx (by omega) (by omega) hl hl2
          revert t2
          generalize F_VR_general lx t0_0 t0_1 t0_2 t0_3 t0_4 t0_5 t0_6 t0_7 t0_8 t0_9 t0_10 t0_11 t0_12 t0_13 t0_14 t0_15 t0_16 t0_17 t0_18 t0_19 q.1 (q.1 - t1_0 t0_14.toNatClampNeg) t3_0 q.2.2 = g
          intro t2
          unfold F_VR_decimal_IV_c98
          refine ⟨t, Or.inr (Or.inr ⟨c3, ?_⟩), t2⟩
          rw [show max p 1 = p by omega]
          exact tg t1
  by_cases c : 0 ≤ t0_12
  · rw [if_pos c]
    have c' := q_leI c
    refine J _ ?_
    rcases hp with z | z
    · omega
    · exact z
  · rw [if_neg c]
    have c' := q_nleI c
    refine J _ ?_
    rcases hp with z | z
    · rw [z.2]; rfl
    · omega

