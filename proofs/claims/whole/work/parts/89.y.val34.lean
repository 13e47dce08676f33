/-! values: DecimalWork -/
abbrev bK : bT := fun s n f => ∃ v : Int, bO 220 s n f v ∧ bB 218 v
theorem bK.I {s n : Int32} {f : Nat → Int32} (_ : bK s n f) : bI 220 s n f := trivial
theorem bO.K {s n : Int32} {f : Nat → Int32} {v : Int} {M : Nat} (h : bO 220 s n f v) (hM : bB M v) (h2 : M ≤ 218) : bK s n f := ⟨v, h, hM.mono h2⟩
theorem v_cn {x : Int32} : x.toNatClampNeg = x.toInt.toNat := rfl
theorem T_take {R : Int32} {t0_0 : Int64} {t0_1 : Int32} {t1_0 : Int32} {t1_1 : Int32} {t2_0 : (Nat → Int32)} {t3_0 : Int32} {t3_1 : Int32} {t4_0 : Int32} {t4_1 : Int32} {t5_0 : (Nat → Int32)} {v : Int} (h : bO R t4_0 t4_1 t5_0 v) : (F_DW_take R t0_0 t0_1 t1_0 t1_1 t2_0 t3_0 t3_1 t4_0 t4_1 t5_0).1.toInt = t3_0.toInt ∧ bO 220 (F_DW_take R t0_0 t0_1 t1_0 t1_1 t2_0 t3_0 t3_1 t4_0 t4_1 t5_0).2.2.1 (F_DW_take R t0_0 t0_1 t1_0 t1_1 t2_0 t3_0 t3_1 t4_0 t4_1 t5_0).2.2.2.1 (F_DW_take R t0_0 t0_1 t1_0 t1_1 t2_0 t3_0 t3_1 t4_0 t4_1 t5_0).2.2.2.2 v := by
  unfold F_DW_take
  have h1 : P1 220 v (F_Big_copy (220 : Int32) R t1_0 t1_1 t2_0 t4_0 t4_1 t5_0) := W_copy h h.fit (by decide)
  generalize (F_Big_copy (220 : Int32) R t1_0 t1_1 t2_0 t4_0 t4_1 t5_0) = p41 at h1 ⊢
  unfold F_DW_take_c11
  exact ⟨q_i2l rfl, h1⟩
theorem T_order {R : Int32} {R2 : Int32} {t0_0 : Int32} {t0_1 : Int32} {t1_0 : (Nat → Int32)} {t2_0 : Int32} {t2_1 : Int32} {t3_0 : (Nat → Int32)} {t4_0 : Int32} {t4_1 : Int32} {t5_0 : Int32} {t5_1 : Int32} {t6_0 : (Nat → Int32)} {t7_0 : Int32} {t7_1 : Int32} {t8_0 : Int32} {t8_1 : Int32} {t9_0 : (Nat → Int32)} {va vb : Int} (ha : dO R t5_0 t5_1 t6_0 t4_0 t4_1 va) (hb : dO R2 t8_0 t8_1 t9_0 t7_0 t7_1 vb) (i1 : bI 220 t0_0 t0_1 t1_0) (i2 : bI 220 t2_0 t2_1 t3_0) : G2 (bI 220) (bI 220) (F_DW_order R R2 t0_0 t0_1 t1_0 t2_0 t2_1 t3_0 t4_0 t4_1 t5_0 t5_1 t6_0 t7_0 t7_1 t8_0 t8_1 t9_0).2 := by
  have e := e220
  obtain ⟨ha1, ⟨ca, ca1, ca2, ca3⟩, ha3, ha4⟩ := ha
  obtain ⟨hb1, ⟨cb, cb1, cb2, cb3⟩, hb3, hb4⟩ := hb
  unfold F_DW_order
  split
  · split
    · exact ⟨i1, i2⟩
    · split
      · rename_i hq
        have q1 : (t4_1 - t4_0 : Int32).toInt = (ca : Int) - t4_0.toInt := q_subI ca1 rfl (by omega) (by omega)
        have q2 : (t7_1 - t7_0 : Int32).toInt = (cb : Int) - t7_0.toInt := q_subI cb1 rfl (by omega) (by omega)
        have q3 : (t7_0 - t4_0 : Int32).toInt = t7_0.toInt - t4_0.toInt := q_subI rfl rfl (by omega) (by omega)
        have q4 : (t4_0 - t7_0 : Int32).toInt = t4_0.toInt - t7_0.toInt := q_subI rfl rfl (by omega) (by omega)
        have q5 : (t4_1 - t4_0 : Int32).toInt = (t7_1 - t7_0 : Int32).toInt := by rw [hq]
        rw [q1, q2] at q5
        have h1 : P1 220 va (F_Big_copy (220 : Int32) R t0_0 t0_1 t1_0 t5_0 t5_1 t6_0) := W_copy ha1 ha1.fit (by decide)
        generalize (F_Big_copy (220 : Int32) R t0_0 t0_1 t1_0 t5_0 t5_1 t6_0) = p122 at h1 ⊢
        unfold F_DW_order_c107
        have h2 : P1 220 vb (F_Big_copy (220 : Int32) R2 t2_0 t2_1 t3_0 t8_0 t8_1 t9_0) := W_copy hb1 hb1.fit (by decide)
        generalize (F_Big_copy (220 : Int32) R2 t2_0 t2_1 t3_0 t8_0 t8_1 t9_0) = p146 at h2 ⊢
        unfold F_DW_order_c121
        have m1 : va.natAbs * 10 ^ (t7_0 - t4_0 : Int32).toNatClampNeg < 2147483648 ^ 108 := by
          by_cases hx : t7_0.toInt - t4_0.toInt < 0
          · rw [v_cn, q3, show (t7_0.toInt - t4_0.toInt).toNat = 0 by omega, Nat.pow_zero, Nat.mul_one]
            exact v_tBB ca2.2.1 (by omega)
          · exact Nat.lt_of_lt_of_le (v_rt (k := 1000) ca2.2.1 (by rw [v_cn, q3]; omega)) (v_tB (by decide))
        have m2 : vb.natAbs * 10 ^ (t4_0 - t7_0 : Int32).toNatClampNeg < 2147483648 ^ 108 := by
          by_cases hx : t4_0.toInt - t7_0.toInt < 0
          · rw [v_cn, q4, show (t4_0.toInt - t7_0.toInt).toNat = 0 by omega, Nat.pow_zero, Nat.mul_one]
            exact v_tBB cb2.2.1 (by omega)
          · exact Nat.lt_of_lt_of_le (v_rt (k := 1000) cb2.2.1 (by rw [v_cn, q4]; omega)) (v_tB (by decide))
        have h3 : P1 220 (va * 10 ^ (t7_0 - t4_0 : Int32).toNatClampNeg) (F_Big_timesTen (220 : Int32) (t7_0 - t4_0 : Int32) (p122.1 : Int32) (p122.2.1 : Int32) (p122.2.2 : (Nat → Int32))) := W_ten (M := 108) h1 (by decide) m1
        generalize (F_Big_timesTen (220 : Int32) (t7_0 - t4_0 : Int32) (p122.1 : Int32) (p122.2.1 : Int32) (p122.2.2 : (Nat → Int32))) = p172 at h3 ⊢
        unfold F_DW_order_c140
        have h4 : P1 220 (vb * 10 ^ (t4_0 - t7_0 : Int32).toNatClampNeg) (F_Big_timesTen (220 : Int32) (t4_0 - t7_0 : Int32) (p146.1 : Int32) (p146.2.1 : Int32) (p146.2.2 : (Nat → Int32))) := W_ten (M := 108) h2 (by decide) m2
        generalize (F_Big_timesTen (220 : Int32) (t4_0 - t7_0 : Int32) (p146.1 : Int32) (p146.2.1 : Int32) (p146.2.2 : (Nat → Int32))) = p198 at h4 ⊢
        unfold F_DW_order_c159
        exact ⟨h3.I, h4.I⟩
      · split
        · exact ⟨i1, i2⟩
        · exact ⟨i1, i2⟩
  · exact ⟨i1, i2⟩
theorem v_abT {v : Int} {x M : Nat} (h : v.natAbs * 10 ^ x < 2147483648 ^ M) : bB M (v * 10 ^ x) := by
  unfold bB
  rw [Int.natAbs_mul, Int.natAbs_pow]
  exact h
theorem T_sumJ {R : Int32} {R2 : Int32} {x4 : Int32} {t0_0 : Int64} {t0_1 : Int32} {t1_0 : Int32} {t1_1 : Int32} {t2_0 : (Nat → Int32)} {t3_0 : Int32} {t3_1 : Int32} {t4_0 : (Nat → Int32)} {t5_0 : Int32} {t5_1 : Int32} {t6_0 : Int32} {t6_1 : Int32} {t7_0 : (Nat → Int32)} {t8_0 : Int32} {t8_1 : Int32} {t9_0 : Int32} {t9_1 : Int32} {t10_0 : (Nat → Int32)} {j64 : Int64} {j58 : Int64} {j50 : Int64} {va vb : Int} (ha : bO R t6_0 t6_1 t7_0 va) (hb : bO R2 t9_0 t9_1 t10_0 vb) (hx : x4 = 0 ∨ x4 = 1) (m1 : va.natAbs * 10 ^ j58.toInt32.toNatClampNeg < 2147483648 ^ 108) (m2 : vb.natAbs * 10 ^ j64.toInt32.toNatClampNeg < 2147483648 ^ 108) : (F_DW_sum_J92 R R2 x4 t0_0 t0_1 t1_0 t1_1 t2_0 t3_0 t3_1 t4_0 t5_0 t5_1 t6_0 t6_1 t7_0 t8_0 t8_1 t9_0 t9_1 t10_0 j64 j58 j50).1 = 1 ∧ G2 bK (bI 220) (F_DW_sum_J92 R R2 x4 t0_0 t0_1 t1_0 t1_1 t2_0 t3_0 t3_1 t4_0 t5_0 t5_1 t6_0 t6_1 t7_0 t8_0 t8_1 t9_0 t9_1 t10_0 j64 j58 j50).2.2.2 := by
  have e := e220
  unfold F_DW_sum_J92
  have h1 : P1 220 va (F_Big_copy (220 : Int32) R t1_0 t1_1 t2_0 t6_0 t6_1 t7_0) := W_copy ha ha.fit (by decide)
  generalize (F_Big_copy (220 : Int32) R t1_0 t1_1 t2_0 t6_0 t6_1 t7_0) = p116 at h1 ⊢
  unfold F_DW_sum_c103
  have h2 : P1 220 (va * 10 ^ j58.toInt32.toNatClampNeg) (F_Big_timesTen (220 : Int32) (j58.toInt32 : Int32) (p116.1 : Int32) (p116.2.1 : Int32) (p116.2.2 : (Nat → Int32))) := W_ten (M := 108) h1 (by decide) m1
  generalize (F_Big_timesTen (220 : Int32) (j58.toInt32 : Int32) (p116.1 : Int32) (p116.2.1 : Int32) (p116.2.2 : (Nat → Int32))) = p142 at h2 ⊢
  unfold F_DW_sum_c116
  have h3 : P1 220 vb (F_Big_copy (220 : Int32) R2 t3_0 t3_1 t4_0 t9_0 t9_1 t10_0) := W_copy hb hb.fit (by decide)
  generalize (F_Big_copy (220 : Int32) R2 t3_0 t3_1 t4_0 t9_0 t9_1 t10_0) = p166 at h3 ⊢
  unfold F_DW_sum_c130
  have h4 : P1 220 (vb * 10 ^ j64.toInt32.toNatClampNeg) (F_Big_timesTen (220 : Int32) (j64.toInt32 : Int32) (p166.1 : Int32) (p166.2.1 : Int32) (p166.2.2 : (Nat → Int32))) := W_ten (M := 108) h3 (by decide) m2
  generalize (F_Big_timesTen (220 : Int32) (j64.toInt32 : Int32) (p166.1 : Int32) (p166.2.1 : Int32) (p166.2.2 : (Nat → Int32))) = p192 at h4 ⊢
  unfold F_DW_sum_c143
  have b2 := v_abT m1
  have b4 := v_abT m2
  have s2 := h2.sB b2
  have s4 := h4.sB b4
  have h5 : P1 220 (if x4 = 0 then va * 10 ^ j58.toInt32.toNatClampNeg + vb * 10 ^ j64.toInt32.toNatClampNeg else va * 10 ^ j58.toInt32.toNatClampNeg - vb * 10 ^ j64.toInt32.toNatClampNeg) (F_Big_addSigned (220 : Int32) (220 : Int32) x4 (p142.1 : Int32) (p142.2.1 : Int32) (p142.2.2 : (Nat → Int32)) (p192.1 : Int32) (p192.2.1 : Int32) (p192.2.2 : (Nat → Int32))) := W_add h2 h4 hx (by omega) (by omega)
  generalize (F_Big_addSigned (220 : Int32) (220 : Int32) x4 (p142.1 : Int32) (p142.2.1 : Int32) (p142.2.2 : (Nat → Int32)) (p192.1 : Int32) (p192.2.1 : Int32) (p192.2.2 : (Nat → Int32))) = p215 at h5 ⊢
  unfold F_DW_sum_c161
  refine ⟨rfl, ⟨_, h5, ?_⟩, h4.I⟩
  split
  · exact (b2.add b4).mono (by decide)
  · exact (b2.sub b4).mono (by decide)
theorem v_sumX {v : Int} {c : Nat} {s f r : Int32} {j : Int64} (hb : bO r s f (fun _ => 0) v ∨ True) (hv : v = 0 ∨ (v.natAbs < 10 ^ c ∧ (c : Int) + j.toInt ≤ 1001)) (j0 : 0 ≤ j.toInt) (j1 : j.toInt ≤ 20000) : v.natAbs * 10 ^ j.toInt32.toNatClampNeg < 2147483648 ^ 108 := by
  rcases hv with h | ⟨h1, h2⟩
  · rw [h, show (0 : Int).natAbs = 0 from rfl, Nat.zero_mul]
    exact Nat.pow_pos (by decide)
  · have hl := s_l2i (x := j) (by omega) (by omega)
    exact Nat.lt_of_lt_of_le (v_rt (k := 1001) h1 (by rw [v_cn, hl]; omega)) (v_tB (by decide))
theorem v_max {a b : Int32} : (if a < b then b else a : Int32).toInt = (if a.toInt < b.toInt then b.toInt else a.toInt) := by
  split
  · rename_i h
    rw [if_pos (q_ltI h)]
  · rename_i h
    rw [if_neg (by have := q_nltI h; omega)]
theorem T_sum {R : Int32} {R2 : Int32} {x4 : Int32} {t0_0 : Int64} {t0_1 : Int32} {t1_0 : Int32} {t1_1 : Int32} {t2_0 : (Nat → Int32)} {t3_0 : Int32} {t3_1 : Int32} {t4_0 : (Nat → Int32)} {t5_0 : Int32} {t5_1 : Int32} {t6_0 : Int32} {t6_1 : Int32} {t7_0 : (Nat → Int32)} {t8_0 : Int32} {t8_1 : Int32} {t9_0 : Int32} {t9_1 : Int32} {t10_0 : (Nat → Int32)} {va vb : Int} (ha : dO R t6_0 t6_1 t7_0 t5_0 t5_1 va) (hb : dO R2 t9_0 t9_1 t10_0 t8_0 t8_1 vb) (hx : x4 = 0 ∨ x4 = 1) (i1 : bI 220 t1_0 t1_1 t2_0) (i2 : bI 220 t3_0 t3_1 t4_0) : ((F_DW_sum R R2 x4 t0_0 t0_1 t1_0 t1_1 t2_0 t3_0 t3_1 t4_0 t5_0 t5_1 t6_0 t6_1 t7_0 t8_0 t8_1 t9_0 t9_1 t10_0).1 = 0 ∧ G2 (bI 220) (bI 220) (F_DW_sum R R2 x4 t0_0 t0_1 t1_0 t1_1 t2_0 t3_0 t3_1 t4_0 t5_0 t5_1 t6_0 t6_1 t7_0 t8_0 t8_1 t9_0 t9_1 t10_0).2.2.2) ∨ ((F_DW_sum R R2 x4 t0_0 t0_1 t1_0 t1_1 t2_0 t3_0 t3_1 t4_0 t5_0 t5_1 t6_0 t6_1 t7_0 t8_0 t8_1 t9_0 t9_1 t10_0).1 = 1 ∧ G2 bK (bI 220) (F_DW_sum R R2 x4 t0_0 t0_1 t1_0 t1_1 t2_0 t3_0 t3_1 t4_0 t5_0 t5_1 t6_0 t6_1 t7_0 t8_0 t8_1 t9_0 t9_1 t10_0).2.2.2) := by
  obtain ⟨ha1, ⟨ca, ca1, ca2, ca3⟩, ha3, ha4⟩ := ha
  obtain ⟨hb1, ⟨cb, cb1, cb2, cb3⟩, hb3, hb4⟩ := hb
  have eK : (1001 : Int64).toInt = 1001 := rfl
  have hm := v_max (a := t5_0) (b := t8_0)
  have hml : (if t5_0 < t8_0 then t8_0 else t5_0 : Int32).toInt64.toInt = (if t5_0.toInt < t8_0.toInt then t8_0.toInt else t5_0.toInt) := q_i2l hm
  have kA : ((if t5_0 < t8_0 then t8_0 else t5_0 : Int32).toInt64 - t5_0.toInt64 : Int64).toInt = (if t5_0.toInt < t8_0.toInt then t8_0.toInt else t5_0.toInt) - t5_0.toInt := q_subL hml (q_i2l rfl) (by split <;> omega) (by split <;> omega)
  have kB : ((if t5_0 < t8_0 then t8_0 else t5_0 : Int32).toInt64 - t8_0.toInt64 : Int64).toInt = (if t5_0.toInt < t8_0.toInt then t8_0.toInt else t5_0.toInt) - t8_0.toInt := q_subL hml (q_i2l rfl) (by split <;> omega) (by split <;> omega)
  unfold F_DW_sum
  generalize ((if t5_0 < t8_0 then t8_0 else t5_0 : Int32).toInt64 - t5_0.toInt64 : Int64) = j58 at kA ⊢
  generalize ((if t5_0 < t8_0 then t8_0 else t5_0 : Int32).toInt64 - t8_0.toInt64 : Int64) = j64 at kB ⊢
  generalize (if t5_0 < t8_0 then t8_0 else t5_0 : Int32).toInt64 = j50
  have a0 : 0 ≤ j58.toInt ∧ j58.toInt ≤ 20000 := by
    rw [kA]
    split <;> omega
  have b0 : 0 ≤ j64.toInt ∧ j64.toInt ≤ 20000 := by
    rw [kB]
    split <;> omega
  have kb : (t8_1.toInt64 + j64 : Int64).toInt = (cb : Int) + j64.toInt := q_addL (q_i2l cb1) rfl (by omega) (by omega)
  have ka : (t5_1.toInt64 + j58 : Int64).toInt = (ca : Int) + j58.toInt := q_addL (q_i2l ca1) rfl (by omega) (by omega)
  have J : (va = 0 ∨ (va.natAbs < 10 ^ ca ∧ (ca : Int) + j58.toInt ≤ 1001)) → (F_DW_sum_J65 R R2 x4 t0_0 t0_1 t1_0 t1_1 t2_0 t3_0 t3_1 t4_0 t5_0 t5_1 t6_0 t6_1 t7_0 t8_0 t8_1 t9_0 t9_1 t10_0 j64 j58 j50).1 = 0 ∧ G2 (bI 220) (bI 220) (F_DW_sum_J65 R R2 x4 t0_0 t0_1 t1_0 t1_1 t2_0 t3_0 t3_1 t4_0 t5_0 t5_1 t6_0 t6_1 t7_0 t8_0 t8_1 t9_0 t9_1 t10_0 j64 j58 j50).2.2.2 ∨ (F_DW_sum_J65 R R2 x4 t0_0 t0_1 t1_0 t1_1 t2_0 t3_0 t3_1 t4_0 t5_0 t5_1 t6_0 t6_1 t7_0 t8_0 t8_1 t9_0 t9_1 t10_0 j64 j58 j50).1 = 1 ∧ G2 bK (bI 220) (F_DW_sum_J65 R R2 x4 t0_0 t0_1 t1_0 t1_1 t2_0 t3_0 t3_1 t4_0 t5_0 t5_1 t6_0 t6_1 t7_0 t8_0 t8_1 t9_0 t9_1 t10_0 j64 j58 j50).2.2.2 := by
    intro hA
    have mA := v_sumX (s := 0) (f := 0) (r := 0) (Or.inr trivial) hA a0.1 a0.2
    unfold F_DW_sum_J65
    by_cases g : t9_0 ≤ 0
    · rw [if_pos g]
      have g' := q_leI g
      have e0 : (0 : Int32).toInt = 0 := rfl
      have vb0 : vb = 0 := by
        have := hb1.pos
        omega
      exact Or.inr (T_sumJ ha1 hb1 hx mA (v_sumX (c := 0) (s := 0) (f := 0) (r := 0) (Or.inr trivial) (Or.inl vb0) b0.1 b0.2))
    · rw [if_neg g]
      by_cases g2 : lg_cmp (t8_1.toInt64 + j64) 1001 ≤ 0
      · rw [if_pos g2]
        have g2' := q_k5 g2
        exact Or.inr (T_sumJ ha1 hb1 hx mA (v_sumX (s := 0) (f := 0) (r := 0) (Or.inr trivial) (Or.inr ⟨cb2.2.1, by omega⟩) b0.1 b0.2))
      · rw [if_neg g2]
        exact Or.inl ⟨rfl, i1, i2⟩
  by_cases g : t6_0 ≤ 0
  · rw [if_pos g]
    have g' := q_leI g
    have e0 : (0 : Int32).toInt = 0 := rfl
    have va0 : va = 0 := by
      have := ha1.pos
      omega
    exact J (Or.inl va0)
  · rw [if_neg g]
    by_cases g2 : 0 < lg_cmp (t5_1.toInt64 + j58) 1001
    · rw [if_pos g2]
      exact Or.inl ⟨rfl, i1, i2⟩
    · rw [if_neg g2]
      have g2' := q_k4 g2
      exact J (Or.inr ⟨ca2.2.1, by omega⟩)
theorem T_multiply {R : Int32} {R2 : Int32} {t0_0 : Int64} {t0_1 : Int32} {t1_0 : Int32} {t1_1 : Int32} {t2_0 : (Nat → Int32)} {t3_0 : Int32} {t3_1 : Int32} {t4_0 : Int32} {t4_1 : Int32} {t5_0 : (Nat → Int32)} {t6_0 : Int32} {t6_1 : Int32} {t7_0 : Int32} {t7_1 : Int32} {t8_0 : (Nat → Int32)} {va vb : Int} (ha : dO R t4_0 t4_1 t5_0 t3_0 t3_1 va) (hb : dO R2 t7_0 t7_1 t8_0 t6_0 t6_1 vb) : G1 bK (F_DW_multiply R R2 t0_0 t0_1 t1_0 t1_1 t2_0 t3_0 t3_1 t4_0 t4_1 t5_0 t6_0 t6_1 t7_0 t7_1 t8_0).2.2 := by
  have e := e220
  have sa := ha.1.sB ha.B
  have sb := hb.1.sB hb.B
  unfold F_DW_multiply
  have h1 : P1 220 (va * vb) (F_Big_product (220 : Int32) R R2 t1_0 t1_1 t2_0 t4_0 t4_1 t5_0 t7_0 t7_1 t8_0) := W_product ha.1 hb.1 (by decide) (by omega)
  generalize (F_Big_product (220 : Int32) R R2 t1_0 t1_1 t2_0 t4_0 t4_1 t5_0 t7_0 t7_1 t8_0) = p53 at h1 ⊢
  unfold F_DW_multiply_c15
  exact h1.K (ha.B.mul hb.B) (by decide)
theorem T_raise {R : Int32} {x3 : Int32} {t0_0 : Int64} {t0_1 : Int32} {t1_0 : Int32} {t1_1 : Int32} {t2_0 : (Nat → Int32)} {t3_0 : Int32} {t3_1 : Int32} {t4_0 : (Nat → Int32)} {t5_0 : Int32} {t5_1 : Int32} {t6_0 : (Nat → Int32)} {t7_0 : Int32} {t7_1 : Int32} {t8_0 : Int32} {t8_1 : Int32} {t9_0 : (Nat → Int32)} {va : Int} (ha : dO R t8_0 t8_1 t9_0 t7_0 t7_1 va) (hx : 0 ≤ x3.toInt) (i2 : bI 220 t5_0 t5_1 t6_0) : ((F_DW_raise R x3 t0_0 t0_1 t1_0 t1_1 t2_0 t3_0 t3_1 t4_0 t5_0 t5_1 t6_0 t7_0 t7_1 t8_0 t8_1 t9_0).1 = 0 ∧ G3 (bI 220) (bI 220) (bI 220) (F_DW_raise R x3 t0_0 t0_1 t1_0 t1_1 t2_0 t3_0 t3_1 t4_0 t5_0 t5_1 t6_0 t7_0 t7_1 t8_0 t8_1 t9_0).2.2.2) ∨ ((F_DW_raise R x3 t0_0 t0_1 t1_0 t1_1 t2_0 t3_0 t3_1 t4_0 t5_0 t5_1 t6_0 t7_0 t7_1 t8_0 t8_1 t9_0).1 = 1 ∧ G3 bK (bI 220) (bI 220) (F_DW_raise R x3 t0_0 t0_1 t1_0 t1_1 t2_0 t3_0 t3_1 t4_0 t5_0 t5_1 t6_0 t7_0 t7_1 t8_0 t8_1 t9_0).2.2.2) := by
  have e := e220
  have sa := ha.1.sB ha.B
  unfold F_DW_raise
  have hp := T_power (x3 := x3) (x4 := 3330) (t0_0 := t3_0) (t0_1 := t3_1) (t1_0 := t4_0) (N := 108) ha.1 hx (by decide) i2 (by decide) (by decide) (by omega)
  generalize F_Mil_power R x3 3330 t3_0 t3_1 t4_0 t5_0 t5_1 t6_0 t8_0 t8_1 t9_0 = p78 at hp ⊢
  obtain ⟨v, q0, q1⟩ := hp
  unfold F_DW_raise_c24
  have h1 : P1 220 v (F_Big_copy (220 : Int32) (220 : Int32) t1_0 t1_1 t2_0 (p78.2.1 : Int32) (p78.2.2.1 : Int32) (p78.2.2.2.1 : (Nat → Int32))) := W_copy q1 q1.fit (by decide)
  generalize (F_Big_copy (220 : Int32) (220 : Int32) t1_0 t1_1 t2_0 (p78.2.1 : Int32) (p78.2.2.1 : Int32) (p78.2.2.2.1 : (Nat → Int32))) = p106 at h1 ⊢
  unfold F_DW_raise_c42
  rcases q0 with ⟨h2, _⟩ | ⟨h2, h3, h4⟩
  · exact Or.inl ⟨h2, h1.I, q1.I, trivial⟩
  · exact Or.inr ⟨h2, h1.K (v_pB (N := 108) (by decide) h4) (by decide), q1.I, trivial⟩
theorem T_strip {R : Int32} {t0_0 : Int64} {t0_1 : Int32} {t1_0 : Int32} {t1_1 : Int32} {t2_0 : (Nat → Int32)} {t3_0 : Int32} {t3_1 : Int32} {t4_0 : (Nat → Int32)} {t5_0 : Int32} {t5_1 : Int32} {t6_0 : Int32} {t6_1 : Int32} {t7_0 : (Nat → Int32)} {va : Int} (ha : dO R t6_0 t6_1 t7_0 t5_0 t5_1 va) (i1 : bI 220 t3_0 t3_1 t4_0) : G2 bK (bI 220) (F_DW_strip R t0_0 t0_1 t1_0 t1_1 t2_0 t3_0 t3_1 t4_0 t5_0 t5_1 t6_0 t6_1 t7_0).2.2 := by
  unfold F_DW_strip
  have h1 := T_take (t0_0 := t0_0) (t0_1 := t0_1) (t1_0 := t1_0) (t1_1 := t1_1) (t2_0 := t2_0) (t3_0 := t5_0) (t3_1 := t5_1) ha.1
  generalize F_DW_take R t0_0 t0_1 t1_0 t1_1 t2_0 t5_0 t5_1 t6_0 t6_1 t7_0 = p54 at h1 ⊢
  unfold F_DW_strip_c2
  split
  · exact ⟨h1.2.K ha.B (by decide), i1⟩
  · have h2 := T_dropZeros (x3 := 1000) h1.2 i1
    generalize F_Mil_dropZeros 220 1000 t3_0 t3_1 t4_0 p54.2.2.1 p54.2.2.2.1 p54.2.2.2.2 = p94 at h2 ⊢
    unfold F_DW_strip_c38
    obtain ⟨w, w1, w2, w3, w4, w5, w6, w7⟩ := h2
    refine ⟨⟨w, w7, (ha.B.le ?_).mono (by decide)⟩, w6⟩
    rw [← w1]
    exact Nat.le_mul_of_pos_right _ (Nat.pow_pos (by decide))
