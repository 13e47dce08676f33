/-! values, for whole: texts: the reference's bits and floatBits -/
theorem y_natI {x : Int64} {b : Nat} (h : x.toInt = (b : Int)) : x.toBitVec.toNat = b := by
  have hx : x.toBitVec.toInt = (b : Int) := h
  have := BitVec.toInt_eq_toNat_cond x.toBitVec
  have hl := x.toBitVec.isLt
  rw [hx] at this
  split at this <;> omega
theorem y_or63 {x : Int64} {b : Nat} (h : x.toInt = (b : Int)) : (x ||| (-9223372036854775808)).toBitVec.toNat = b + 9223372036854775808 := by
  have hl : b < 2 ^ 63 := by have := Int64.toInt_lt x; omega
  rw [Int64.toBitVec_or, BitVec.toNat_or, y_natI h]
  have e := Nat.two_pow_add_eq_or_of_lt hl 1
  rw [show (-9223372036854775808 : Int64).toBitVec.toNat = 2 ^ 63 * 1 from by decide, Nat.or_comm, ← e]
  omega
theorem y_nat32 {x : Int64} {b : Nat} (h : x.toInt = (b : Int)) (hb : b < 2147483648) : (x.toInt32).toBitVec.toNat = b := by
  rw [Int64.toBitVec_toInt32, BitVec.signExtend_eq_setWidth_of_le _ (by decide), BitVec.toNat_setWidth, y_natI h]
  omega
theorem y_or31 {x : Int64} {b : Nat} (h : x.toInt = (b : Int)) (hb : b < 2147483648) : (x.toInt32 ||| (-2147483648)).toBitVec.toNat = b + 2147483648 := by
  have hl : b < 2 ^ 31 := by omega
  rw [Int32.toBitVec_or, BitVec.toNat_or, y_nat32 h hb]
  have e := Nat.two_pow_add_eq_or_of_lt hl 1
  rw [show (-2147483648 : Int32).toBitVec.toNat = 2 ^ 31 * 1 from by decide, Nat.or_comm, ← e]
  omega
theorem yFl_g {B : Nat → Int} {cap L : Nat} {o : Option (Nat × Nat)} {P T : Nat} {l : Int} (h : yFl B cap L none) (g : yBt P T l none o) : o = none := by
  rcases g with ⟨_, g⟩ | ⟨_, _, _, _, _, _, g, _⟩
  · exact g
  · cases g
theorem V_TR_bits {t0_0 : Int32} {t0_1 : Int32} {t0_2 : Int32} {t0_3 : Int32} {t0_4 : Int32} {t0_5 : Int32} {t0_6 : Int32} {t0_7 : Int64} {t0_8 : Int32} {t0_9 : Int32} {t0_10 : Int64} {t0_11 : Int64} {t0_12 : Int32} {t0_13 : Int32} {t1_0 : (Nat → Int32)} {t2_0 : (Nat → Int32)} {t3_0 : (Nat → Int32)} {L : Nat} {B : Nat → Int} (hT : yTr t1_0 L B) (h1 : t0_1.toInt = (L : Int)) (hL : L ≤ 4100) : ∃ o, yFt 52 2047 (-1074) B 1000000000 L o ∧ ((o = none ∧ (F_TR_bits t0_0 t0_1 t0_2 t0_3 t0_4 t0_5 t0_6 t0_7 t0_8 t0_9 t0_10 t0_11 t0_12 t0_13 t1_0 t2_0 t3_0).2.1 = 1) ∨ (∃ g b : Nat, o = some (g, b) ∧ g ≤ 1 ∧ (F_TR_bits t0_0 t0_1 t0_2 t0_3 t0_4 t0_5 t0_6 t0_7 t0_8 t0_9 t0_10 t0_11 t0_12 t0_13 t1_0 t2_0 t3_0).2.1 = 0 ∧ (F_TR_bits t0_0 t0_1 t0_2 t0_3 t0_4 t0_5 t0_6 t0_7 t0_8 t0_9 t0_10 t0_11 t0_12 t0_13 t1_0 t2_0 t3_0).1.toBitVec.toNat = b + g * 9223372036854775808)) := by
  unfold F_TR_bits
  have hs := V_TR_scan (t0_0 := t0_0) (t0_2 := t0_2) (t0_3 := t0_3) (t0_4 := t0_4) (t0_5 := t0_5) (t0_6 := t0_6) (t0_7 := t0_7) (t0_8 := t0_8) (t0_9 := t0_9) (t0_10 := t0_10) (t0_11 := t0_11) (t0_12 := t0_12) (t0_13 := t0_13) (t2_0 := t2_0) hT h1 hL
  generalize F_TR_scan t0_0 t0_1 t0_2 t0_3 t0_4 t0_5 t0_6 t0_7 t0_8 t0_9 t0_10 t0_11 t0_12 t0_13 t1_0 t2_0 = p73 at hs ⊢
  obtain ⟨s0, s1, z, hz, hs⟩ := hs
  unfold F_TR_bits_c2
  rcases hs with ⟨s2, s3⟩ | ⟨s2, g, k, M, pt, f, e, s3, s4, s5, s6, s7⟩
  · rw [if_pos s2]
    unfold F_TR_bits_J13
    rw [if_neg (show ¬ (1 : Int32) ≤ 0 by decide)]
    exact ⟨none, ⟨z, hz, Or.inl ⟨s3, rfl⟩⟩, Or.inl ⟨rfl, rfl⟩⟩
  · rw [if_neg (show ¬ p73.1 = 0 by rw [s2]; decide)]
    unfold F_TR_bits_J13
    rw [if_pos (show (0 : Int32) ≤ 0 by decide)]
    rw [s3, ← s5] at hz
    rw [← s5] at s7
    have hH : yH 53 (-1074) 52 2047 (-1074) := Or.inl ⟨rfl, rfl, rfl, rfl, rfl⟩
    obtain ⟨b, b1, b2, b3, b4⟩ := V_szS (x2 := 53) (x3 := -1074) (t0_0 := 0) (t0_1 := p73.2.2.1) (t0_2 := p73.2.2.2.1) (t0_3 := p73.2.2.2.2.1) (t0_4 := p73.2.2.2.2.2.1) (t0_5 := p73.2.2.2.2.2.2.1) (t0_6 := p73.2.2.2.2.2.2.2.1) (t0_7 := p73.2.2.2.2.2.2.2.2.1) (t0_8 := p73.2.2.2.2.2.2.2.2.2.1) (t0_9 := p73.2.2.2.2.2.2.2.2.2.2.1) (t0_10 := p73.2.2.2.2.2.2.2.2.2.2.2.1) (t0_11 := p73.2.2.2.2.2.2.2.2.2.2.2.2.1) (t0_12 := p73.2.2.2.2.2.2.2.2.2.2.2.2.2.1) (t0_13 := p73.2.2.2.2.2.2.2.2.2.2.2.2.2.2.1) (t1_0 := p73.2.2.2.2.2.2.2.2.2.2.2.2.2.2.2) (t2_0 := t3_0) hH hL (by rw [s1]; exact h1) hz s4 s6 s7
    have b5 := yz_sizeRead (x2 := 53) (x3 := -1074) (t0_0 := 0) (t0_1 := p73.2.2.1) (t0_2 := p73.2.2.2.1) (t0_3 := p73.2.2.2.2.1) (t0_4 := p73.2.2.2.2.2.1) (t0_5 := p73.2.2.2.2.2.2.1) (t0_6 := p73.2.2.2.2.2.2.2.1) (t0_7 := p73.2.2.2.2.2.2.2.2.1) (t0_8 := p73.2.2.2.2.2.2.2.2.2.1) (t0_9 := p73.2.2.2.2.2.2.2.2.2.2.1) (t0_10 := p73.2.2.2.2.2.2.2.2.2.2.2.1) (t0_11 := p73.2.2.2.2.2.2.2.2.2.2.2.2.1) (t0_12 := p73.2.2.2.2.2.2.2.2.2.2.2.2.2.1) (t0_13 := p73.2.2.2.2.2.2.2.2.2.2.2.2.2.2.1) (t1_0 := p73.2.2.2.2.2.2.2.2.2.2.2.2.2.2.2) (t2_0 := t3_0) rfl
    generalize F_TR_sizeRead 53 (-1074) 0 p73.2.2.1 p73.2.2.2.1 p73.2.2.2.2.1 p73.2.2.2.2.2.1 p73.2.2.2.2.2.2.1 p73.2.2.2.2.2.2.2.1 p73.2.2.2.2.2.2.2.2.1 p73.2.2.2.2.2.2.2.2.2.1 p73.2.2.2.2.2.2.2.2.2.2.1 p73.2.2.2.2.2.2.2.2.2.2.2.1 p73.2.2.2.2.2.2.2.2.2.2.2.2.1 p73.2.2.2.2.2.2.2.2.2.2.2.2.2.1 p73.2.2.2.2.2.2.2.2.2.2.2.2.2.2.1 p73.2.2.2.2.2.2.2.2.2.2.2.2.2.2.2 t3_0 = p154 at b2 b3 b4 b5 ⊢
    rw [s5] at b1 b3
    unfold F_TR_bits_c31
    refine ⟨_, b1, Or.inr ⟨_, b, rfl, ?_, ?_⟩⟩
    · split <;> omega
    · have bn := y_natI b2
      by_cases c1 : p154.2.2.2.2.2.1 = 0
      · rw [if_pos c1]
        have g0 : g = 0 := by
          rw [b4] at c1
          rw [c1] at s6
          have : (0 : Int32).toInt = 0 := rfl
          omega
        refine ⟨b5, ?_⟩
        rw [g0, ite_self]
        exact bn
      · rw [if_neg c1]
        by_cases c2 : (3 : Int32) ≤ p154.2.2.2.1
        · rw [if_pos c2]
          have k3 : k = 3 := by
            rcases yFl_k hz with h | h | ⟨h, _⟩ | ⟨h, _⟩
            · rw [b3, ← s5, h] at c2
              exact absurd c2 (by decide)
            · rw [← s5, h]
            · rw [b3, ← s5, h] at c2
              exact absurd c2 (by decide)
            · rw [b3, ← s5, h] at c2
              exact absurd c2 (by decide)
          refine ⟨b5, ?_⟩
          rw [if_pos k3]
          exact bn
        · rw [if_neg c2]
          have k3 : ¬ k = 3 := fun h => c2 (by rw [b3, h]; decide)
          have g1 : g = 1 := by
            have : g ≠ 0 := fun h => c1 (Int32.toInt_inj.mp (by rw [b4, s6, h]; rfl))
            omega
          refine ⟨b5, ?_⟩
          rw [if_neg k3, g1]
          exact y_or63 b2
theorem V_TR_floatBits {t0_0 : Int32} {t0_1 : Int32} {t0_2 : Int32} {t0_3 : Int32} {t0_4 : Int32} {t0_5 : Int32} {t0_6 : Int32} {t0_7 : Int64} {t0_8 : Int32} {t0_9 : Int32} {t0_10 : Int64} {t0_11 : Int64} {t0_12 : Int32} {t0_13 : Int32} {t1_0 : (Nat → Int32)} {t2_0 : (Nat → Int32)} {t3_0 : (Nat → Int32)} {L : Nat} {B : Nat → Int} (hT : yTr t1_0 L B) (h1 : t0_1.toInt = (L : Int)) (hL : L ≤ 4100) : ∃ o, yFt 23 255 (-149) B 1000000000 L o ∧ ((o = none ∧ (F_TR_floatBits t0_0 t0_1 t0_2 t0_3 t0_4 t0_5 t0_6 t0_7 t0_8 t0_9 t0_10 t0_11 t0_12 t0_13 t1_0 t2_0 t3_0).2.1 = 1) ∨ (∃ g b : Nat, o = some (g, b) ∧ g ≤ 1 ∧ (F_TR_floatBits t0_0 t0_1 t0_2 t0_3 t0_4 t0_5 t0_6 t0_7 t0_8 t0_9 t0_10 t0_11 t0_12 t0_13 t1_0 t2_0 t3_0).2.1 = 0 ∧ (F_TR_floatBits t0_0 t0_1 t0_2 t0_3 t0_4 t0_5 t0_6 t0_7 t0_8 t0_9 t0_10 t0_11 t0_12 t0_13 t1_0 t2_0 t3_0).1.toBitVec.toNat = b + g * 2147483648)) := by
  unfold F_TR_floatBits
  have hs := V_TR_scan (t0_0 := t0_0) (t0_2 := t0_2) (t0_3 := t0_3) (t0_4 := t0_4) (t0_5 := t0_5) (t0_6 := t0_6) (t0_7 := t0_7) (t0_8 := t0_8) (t0_9 := t0_9) (t0_10 := t0_10) (t0_11 := t0_11) (t0_12 := t0_12) (t0_13 := t0_13) (t2_0 := t2_0) hT h1 hL
  generalize F_TR_scan t0_0 t0_1 t0_2 t0_3 t0_4 t0_5 t0_6 t0_7 t0_8 t0_9 t0_10 t0_11 t0_12 t0_13 t1_0 t2_0 = p73 at hs ⊢
  obtain ⟨s0, s1, z, hz, hs⟩ := hs
  unfold F_TR_floatBits_c2
  rcases hs with ⟨s2, s3⟩ | ⟨s2, g, k, M, pt, f, e, s3, s4, s5, s6, s7⟩
  · rw [if_pos s2]
    unfold F_TR_floatBits_J13
    rw [if_neg (show ¬ (1 : Int32) ≤ 0 by decide)]
    exact ⟨none, ⟨z, hz, Or.inl ⟨s3, rfl⟩⟩, Or.inl ⟨rfl, rfl⟩⟩
  · rw [if_neg (show ¬ p73.1 = 0 by rw [s2]; decide)]
    unfold F_TR_floatBits_J13
    rw [if_pos (show (0 : Int32) ≤ 0 by decide)]
    rw [s3, ← s5] at hz
    rw [← s5] at s7
    have hH : yH 24 (-149) 23 255 (-149) := Or.inr ⟨rfl, rfl, rfl, rfl, rfl⟩
    obtain ⟨b, b1, b2, b3, b4⟩ := V_szS (x2 := 24) (x3 := -149) (t0_0 := 0) (t0_1 := p73.2.2.1) (t0_2 := p73.2.2.2.1) (t0_3 := p73.2.2.2.2.1) (t0_4 := p73.2.2.2.2.2.1) (t0_5 := p73.2.2.2.2.2.2.1) (t0_6 := p73.2.2.2.2.2.2.2.1) (t0_7 := p73.2.2.2.2.2.2.2.2.1) (t0_8 := p73.2.2.2.2.2.2.2.2.2.1) (t0_9 := p73.2.2.2.2.2.2.2.2.2.2.1) (t0_10 := p73.2.2.2.2.2.2.2.2.2.2.2.1) (t0_11 := p73.2.2.2.2.2.2.2.2.2.2.2.2.1) (t0_12 := p73.2.2.2.2.2.2.2.2.2.2.2.2.2.1) (t0_13 := p73.2.2.2.2.2.2.2.2.2.2.2.2.2.2.1) (t1_0 := p73.2.2.2.2.2.2.2.2.2.2.2.2.2.2.2) (t2_0 := t3_0) hH hL (by rw [s1]; exact h1) hz s4 s6 s7
    have b5 := yz_sizeRead (x2 := 24) (x3 := -149) (t0_0 := 0) (t0_1 := p73.2.2.1) (t0_2 := p73.2.2.2.1) (t0_3 := p73.2.2.2.2.1) (t0_4 := p73.2.2.2.2.2.1) (t0_5 := p73.2.2.2.2.2.2.1) (t0_6 := p73.2.2.2.2.2.2.2.1) (t0_7 := p73.2.2.2.2.2.2.2.2.1) (t0_8 := p73.2.2.2.2.2.2.2.2.2.1) (t0_9 := p73.2.2.2.2.2.2.2.2.2.2.1) (t0_10 := p73.2.2.2.2.2.2.2.2.2.2.2.1) (t0_11 := p73.2.2.2.2.2.2.2.2.2.2.2.2.1) (t0_12 := p73.2.2.2.2.2.2.2.2.2.2.2.2.2.1) (t0_13 := p73.2.2.2.2.2.2.2.2.2.2.2.2.2.2.1) (t1_0 := p73.2.2.2.2.2.2.2.2.2.2.2.2.2.2.2) (t2_0 := t3_0) rfl
    generalize F_TR_sizeRead 24 (-149) 0 p73.2.2.1 p73.2.2.2.1 p73.2.2.2.2.1 p73.2.2.2.2.2.1 p73.2.2.2.2.2.2.1 p73.2.2.2.2.2.2.2.1 p73.2.2.2.2.2.2.2.2.1 p73.2.2.2.2.2.2.2.2.2.1 p73.2.2.2.2.2.2.2.2.2.2.1 p73.2.2.2.2.2.2.2.2.2.2.2.1 p73.2.2.2.2.2.2.2.2.2.2.2.2.1 p73.2.2.2.2.2.2.2.2.2.2.2.2.2.1 p73.2.2.2.2.2.2.2.2.2.2.2.2.2.2.1 p73.2.2.2.2.2.2.2.2.2.2.2.2.2.2.2 t3_0 = p154 at b2 b3 b4 b5 ⊢
    rw [s5] at b1 b3
    unfold F_TR_floatBits_c31
    refine ⟨_, b1, Or.inr ⟨_, b, rfl, ?_, ?_⟩⟩
    · split <;> omega
    · have bl := yFt_le b1
      have be : 255 * 2 ^ 23 + 2 ^ (23 - 1) < 2147483648 := by decide
      have bb : b < 2147483648 := Nat.lt_of_le_of_lt bl be
      have bn := y_nat32 b2 bb
      by_cases c1 : p154.2.2.2.2.2.1 = 0
      · rw [if_pos c1]
        have g0 : g = 0 := by
          rw [b4] at c1
          rw [c1] at s6
          have : (0 : Int32).toInt = 0 := rfl
          omega
        refine ⟨b5, ?_⟩
        rw [g0, ite_self]
        exact bn
      · rw [if_neg c1]
        by_cases c2 : (3 : Int32) ≤ p154.2.2.2.1
        · rw [if_pos c2]
          have k3 : k = 3 := by
            rcases yFl_k hz with h | h | ⟨h, _⟩ | ⟨h, _⟩
            · rw [b3, ← s5, h] at c2
              exact absurd c2 (by decide)
            · rw [← s5, h]
            · rw [b3, ← s5, h] at c2
              exact absurd c2 (by decide)
            · rw [b3, ← s5, h] at c2
              exact absurd c2 (by decide)
          refine ⟨b5, ?_⟩
          rw [if_pos k3]
          exact bn
        · rw [if_neg c2]
          have k3 : ¬ k = 3 := fun h => c2 (by rw [b3, h]; decide)
          have g1 : g = 1 := by
            have : g ≠ 0 := fun h => c1 (Int32.toInt_inj.mp (by rw [b4, s6, h]; rfl))
            omega
          refine ⟨b5, ?_⟩
          rw [if_neg k3, g1]
          exact y_or31 b2 bb
