/-! values: decimals: figures dropped, numbers settled -/
theorem v_tB {k M : Nat} (h : 196 * k ≤ 1829 * M) : 10 ^ k ≤ 2147483648 ^ M := by
  have e : (2147483648 : Nat) ^ M = 2 ^ (31 * M) := by rw [Nat.pow_mul]
  rw [e]
  have k1 : (10 : Nat) ^ 59 ≤ 2 ^ 196 := by decide +kernel
  have h2 : (10 ^ 59) ^ k ≤ (2 ^ 196) ^ k := Nat.pow_le_pow_left k1 k
  rw [← Nat.pow_mul, ← Nat.pow_mul] at h2
  have h3 : (2 : Nat) ^ (196 * k) ≤ 2 ^ (59 * (31 * M)) := Nat.pow_le_pow_right (by decide) (by omega)
  have h4 : (10 ^ k) ^ 59 ≤ (2 ^ (31 * M)) ^ 59 := by
    rw [← Nat.pow_mul, ← Nat.pow_mul, Nat.mul_comm k, Nat.mul_comm (31 * M)]
    exact Nat.le_trans h2 h3
  exact (Nat.pow_le_pow_iff_left (by decide)).mp h4
theorem v_tBB {k M : Nat} {v : Int} (hv : v.natAbs < 10 ^ k) (h : 196 * k ≤ 1829 * M) : bB M v := Nat.lt_of_lt_of_le hv (v_tB h)
theorem v_rt {v k : Nat} {x c : Nat} (hv : v < 10 ^ c) (hk : c + x ≤ k) : v * 10 ^ x < 10 ^ k := by
  have h1 : v * 10 ^ x < 10 ^ c * 10 ^ x := Nat.mul_lt_mul_of_pos_right hv (Nat.pow_pos (by decide))
  rw [← Nat.pow_add] at h1
  exact Nat.lt_of_lt_of_le h1 (Nat.pow_le_pow_right (by decide) hk)
theorem v_oi (x : Int32) (h : x = 0 ∨ x = 1) : (x ||| 0 = 0 ∨ x ||| 0 = 1) ∧ (x ||| 1 = 0 ∨ x ||| 1 = 1) := by
  rcases h with h | h <;> rw [h] <;> decide
theorem v_dt (x : Int32) (hx : 0 < x.toInt) : 1 ≤ (Int32.ofNat (10 ^ (if 9 < x then 9 else x : Int32).toNatClampNeg)).toInt ∧ (Int32.ofNat (10 ^ (if 9 < x then 9 else x : Int32).toNatClampNeg)).toInt.toNat = 10 ^ (if 9 < x.toInt then 9 else x.toInt.toNat) := by
  have e9 : (9 : Int32).toInt = 9 := rfl
  have ht : (if 9 < x then 9 else x : Int32).toNatClampNeg = (if 9 < x.toInt then 9 else x.toInt.toNat) := by
    by_cases h9 : 9 < x
    · have := q_ltI h9
      rw [if_pos h9, if_pos (by omega)]
      rfl
    · have := q_nltI h9
      rw [if_neg h9, if_neg (by omega)]
      rfl
  rw [ht]
  have hl : (if 9 < x.toInt then 9 else x.toInt.toNat) < 10 := by split <;> omega
  have h10 := v_ten ⟨(if 9 < x.toInt then 9 else x.toInt.toNat), hl⟩
  dsimp only at h10
  rw [h10]
  have hp := v_t10 (if 9 < x.toInt then 9 else x.toInt.toNat)
  refine ⟨by omega, ?_⟩
  apply Int.ofNat_inj.mp
  rw [Int.toNat_of_nonneg (by omega), Int.natCast_pow]
  rfl
/-- figures dropped -/
theorem T_dfL {R : Int32} {x2 : Int32} {t0_0 : Int32} {t0_1 : Int32} {t1_0 : (Nat → Int32)}  : ∀ (n : Nat) (lx16 : Int32) (lx17 : Int32) (lx18 : Int32) (lx19 : Int32) (lx20 : (Nat → Int32)), ∀ v : Int, lx16.toInt < (n : Int) → 0 < n → (lx17 = 0 ∨ lx17 = 1) → bO R lx18 lx19 lx20 v → ∃ w : Int, w.natAbs = v.natAbs / 10 ^ lx16.toInt.toNat ∧ (0 ≤ v → 0 ≤ w) ∧ (v ≤ 0 → w ≤ 0) ∧ Gr1 (fun r => r = 0 ∨ r = 1) (bW R w) (F_Big_dropFigures_L4 R x2 t0_0 t0_1 t1_0 n lx16 lx17 lx18 lx19 lx20) := by
  have e0 : (0 : Int32).toInt = 0 := rfl
  intro n
  induction n with
  | zero => intros; omega
  | succ n ih =>
    intro lx16 lx17 lx18 lx19 lx20 v hn h0 hr hv
    rw [F_Big_dropFigures_L4.eq_2]
    by_cases g1 : lx16 ≤ 0
    · rw [if_pos g1]
      have g2 := q_leI g1
      refine ⟨v, ?_, id, id, hr, hv⟩
      rw [show lx16.toInt.toNat = 0 by omega, Nat.pow_zero, Nat.div_one]
    rw [if_neg g1]
    have g1' := q_nleI g1
    by_cases g2 : lx18 ≤ 0
    · rw [if_pos g2]
      have g3 := q_leI g2
      have hv0 : v = 0 := by
        have := hv.pos
        omega
      refine ⟨v, ?_, id, id, hr, hv⟩
      rw [hv0]
      exact (Nat.zero_div _).symm
    rw [if_neg g2]
    obtain ⟨t1, t2⟩ := v_dt lx16 (by omega)
    generalize Int32.ofNat (10 ^ (if 9 < lx16 then 9 else lx16 : Int32).toNatClampNeg) = t at t1 t2 ⊢
    obtain ⟨d1, w, d2, d3, d4, d5⟩ := W_divS (x := t) hv t1
    generalize F_Big_divideSmall R t lx18 lx19 lx20 = p at d1 d5 ⊢
    have lt := Int32.toInt_lt lx16
    have ej : (lx16 + (-9) : Int32).toInt = lx16.toInt + (-9) := q_addI (b := -9) (y := -9) rfl (by decide) (by omega) (by omega)
    obtain ⟨j, hj⟩ := q_nm (lx16 + (-9) : Int32)
    rw [hj] at ej ⊢
    clear hj
    have fin : ∀ b : Int32, (b = 0 ∨ b = 1) → ∃ w : Int, w.natAbs = v.natAbs / 10 ^ lx16.toInt.toNat ∧ (0 ≤ v → 0 ≤ w) ∧ (v ≤ 0 → w ≤ 0) ∧ Gr1 (fun r => r = 0 ∨ r = 1) (bW R w) (F_Big_dropFigures_L4 R x2 t0_0 t0_1 t1_0 n j b p.2.1 p.2.2.1 p.2.2.2) := by
      intro b hb
      obtain ⟨u, u1, u2, u3, u4⟩ := ih j b p.2.1 p.2.2.1 p.2.2.2 w (by omega) (by omega) hb d5
      refine ⟨u, ?_, fun h => u2 (d3 h), fun h => u3 (d4 h), u4⟩
      have hx : (if 9 < lx16.toInt then 9 else lx16.toInt.toNat) + j.toInt.toNat = lx16.toInt.toNat := by
        split <;> omega
      rw [u1, d2, t2, Nat.div_div_eq_div_mul, ← Nat.pow_add, hx]
    by_cases g3 : p.1 = 0
    · rw [if_pos g3]
      exact fin _ (v_oi _ hr).1
    · rw [if_neg g3]
      exact fin _ (v_oi _ hr).2
theorem W_drop {R : Int32} {x2 : Int32} {t0_0 : Int32} {t0_1 : Int32} {t1_0 : (Nat → Int32)} {v : Int} (hv : bO R t0_0 t0_1 t1_0 v) : ∃ w : Int, w.natAbs = v.natAbs / 10 ^ x2.toInt.toNat ∧ (0 ≤ v → 0 ≤ w) ∧ (v ≤ 0 → w ≤ 0) ∧ Gr1 (fun r => r = 0 ∨ r = 1) (bW R w) (F_Big_dropFigures R x2 t0_0 t0_1 t1_0) := by
  unfold F_Big_dropFigures
  exact T_dfL _ _ _ _ _ _ v (by omega) (by omega) (Or.inl rfl) hv
/-- a decimal: its number of a room R, scale, figures -/
def dO (R s n : Int32) (f : Nat → Int32) (sc fc : Int32) (v : Int) : Prop := bO R s n f v ∧ (∃ c : Nat, fc.toInt = (c : Int) ∧ vF v c ∧ c ≤ 1000) ∧ -10000 ≤ sc.toInt ∧ sc.toInt ≤ 10000
theorem dO.B {R s n sc fc : Int32} {f : Nat → Int32} {v : Int} (h : dO R s n f sc fc v) : bB 108 v := by
  obtain ⟨_, ⟨c, _, h2, h3⟩, _⟩ := h
  exact v_tBB h2.2.1 (by omega)
/-- settled: as it was, or the number with its figures -/
theorem T_settle {R : Int32} {x3 : Int64} {R2 : Int32} {t0_0 : Int32} {t0_1 : Int32} {t1_0 : (Nat → Int32)} {t2_0 : Int32} {t2_1 : Int32} {t3_0 : (Nat → Int32)} {t4_0 : Int32} {t4_1 : Int32} {t5_0 : Int32} {t5_1 : Int32} {t6_0 : (Nat → Int32)} {v : Int} {M : Nat} (h : bO R t2_0 t2_1 t3_0 v) (hM : bB M v) (hM2 : M + 1 < 220) (hw : bI 220 t0_0 t0_1 t1_0) (hR2 : 108 ≤ R2.toInt) (hR3 : R2.toInt ≤ 220) (hd : ∃ u, dO R2 t5_0 t5_1 t6_0 t4_0 t4_1 u) : (S_DW_settle R x3 R2 t0_0 t0_1 t1_0 t2_0 t2_1 t3_0 t4_0 t4_1 t5_0 t5_1 t6_0) ∧ ((F_DW_settle R x3 R2 t0_0 t0_1 t1_0 t2_0 t2_1 t3_0 t4_0 t4_1 t5_0 t5_1 t6_0).1 = 0 ∨ (F_DW_settle R x3 R2 t0_0 t0_1 t1_0 t2_0 t2_1 t3_0 t4_0 t4_1 t5_0 t5_1 t6_0).1 = 1) ∧ bI 220 (F_DW_settle R x3 R2 t0_0 t0_1 t1_0 t2_0 t2_1 t3_0 t4_0 t4_1 t5_0 t5_1 t6_0).2.1 (F_DW_settle R x3 R2 t0_0 t0_1 t1_0 t2_0 t2_1 t3_0 t4_0 t4_1 t5_0 t5_1 t6_0).2.2.1 (F_DW_settle R x3 R2 t0_0 t0_1 t1_0 t2_0 t2_1 t3_0 t4_0 t4_1 t5_0 t5_1 t6_0).2.2.2.1 ∧ (∃ u, dO R2 (F_DW_settle R x3 R2 t0_0 t0_1 t1_0 t2_0 t2_1 t3_0 t4_0 t4_1 t5_0 t5_1 t6_0).2.2.2.2.2.2.1 (F_DW_settle R x3 R2 t0_0 t0_1 t1_0 t2_0 t2_1 t3_0 t4_0 t4_1 t5_0 t5_1 t6_0).2.2.2.2.2.2.2.1 (F_DW_settle R x3 R2 t0_0 t0_1 t1_0 t2_0 t2_1 t3_0 t4_0 t4_1 t5_0 t5_1 t6_0).2.2.2.2.2.2.2.2 (F_DW_settle R x3 R2 t0_0 t0_1 t1_0 t2_0 t2_1 t3_0 t4_0 t4_1 t5_0 t5_1 t6_0).2.2.2.2.1 (F_DW_settle R x3 R2 t0_0 t0_1 t1_0 t2_0 t2_1 t3_0 t4_0 t4_1 t5_0 t5_1 t6_0).2.2.2.2.2.1 u) := by
  have e := e220
  have ek : (1000 : Int32).toInt = 1000 := rfl
  unfold S_DW_settle F_DW_settle
  have h5 := T_countFigures h hM hM2 hw
  generalize F_Mil_countFigures R t0_0 t0_1 t1_0 t2_0 t2_1 t3_0 = p49 at h5 ⊢
  obtain ⟨⟨c, c1, c2⟩, h6⟩ := h5
  unfold S_DW_settle_c5 F_DW_settle_c5
  by_cases g1 : 1000 < p49.1
  · rw [if_pos g1, if_pos g1]
    exact ⟨trivial, Or.inl rfl, h6, hd⟩
  rw [if_neg g1, if_neg g1]
  have g1' := q_nltI g1
  by_cases g2 : lg_cmp x3 (-10000) < 0
  · rw [if_pos g2, if_pos g2]
    exact ⟨trivial, Or.inl rfl, h6, hd⟩
  rw [if_neg g2, if_neg g2]
  have g2' := q_k2 g2
  by_cases g3 : lg_cmp x3 10000 ≤ 0
  · rw [if_pos g3, if_pos g3]
    have g3' := q_k5 g3
    have m1 : (-10000 : Int64).toInt = -10000 := rfl
    have m2 : (10000 : Int64).toInt = 10000 := rfl
    have hB : bB 108 v := v_tBB c2.2.1 (by omega)
    have hs := h.sB hB
    have h42 : P1 R2 v (F_Big_copy R2 R t5_0 t5_1 t6_0 t2_0 t2_1 t3_0) := W_copy h (by omega) hR3
    generalize (F_Big_copy R2 R t5_0 t5_1 t6_0 t2_0 t2_1 t3_0) = p88 at h42 ⊢
    unfold S_DW_settle_c42 F_DW_settle_c42
    have hl := s_l2i (x := x3) (by omega) (by omega)
    refine ⟨⟨?_, trivial⟩, Or.inr rfl, h6, v, h42, ⟨c, c1, c2, by omega⟩, ?_, ?_⟩
    · have := c2.1
      omega
    · show -10000 ≤ x3.toInt32.toInt
      omega
    · show x3.toInt32.toInt ≤ 10000
      omega
  · rw [if_neg g3, if_neg g3]
    exact ⟨trivial, Or.inl rfl, h6, hd⟩
