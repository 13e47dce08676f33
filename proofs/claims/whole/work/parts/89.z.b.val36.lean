/-! values: DecimalWork 3 -/
abbrev Dq (r s n : Int32) (f : Nat → Int32) : Prop := r = 0 ∨ (r = 1 ∧ bK s n f)
theorem Dq.mk {r s n : Int32} {f : Nat → Int32} (h : r = 0 ∨ r = 1) (k : bK s n f) : Dq r s n f := h.imp id (fun h => ⟨h, k⟩)
theorem T_raiseBelowL {x2 : Int32} {R : Int32} {t0_0 : Int32} {t0_1 : Int32} {t1_0 : (Nat → Int32)} {t2_0 : Int32} {t2_1 : Int32} {t3_0 : (Nat → Int32)} {t4_0 : Int32} {t4_1 : Int32} {t5_0 : (Nat → Int32)} {t6_0 : Int32} {t6_1 : Int32} {t7_0 : (Nat → Int32)} {t8_0 : Int32} {t8_1 : Int32} {t9_0 : (Nat → Int32)} {p60 : (Int32 × Int32 × (Nat → Int32))} {p105 : (Int32 × Int32 × (Nat → Int32) × Int32 × Int32 × (Nat → Int32) × Int32 × Int32 × (Nat → Int32))} {vn vm : Int} (hn : bO 220 t0_0 t0_1 t1_0 vn) (hv : vm ≠ 0) (hMn : bB 108 vn) (hMm : bB 108 vm) : ∀ (n : Nat) (lx132 : Int32) (lx133 : Int32) (lx134 : Int32) (lx135 : (Nat → Int32)) (lx136 : Int32) (lx137 : Int32) (lx138 : (Nat → Int32)) (lx139 : Int32) (lx140 : Int32) (lx141 : (Nat → Int32)) (lx142 : Int32) (lx143 : Int32) (lx144 : (Nat → Int32)), lx132.toInt + 1 < (n : Int) → -1 ≤ lx132.toInt → lx132.toInt ≤ 30 → bI 220 lx133 lx134 lx135 → bU 220 vm 0 lx136 lx137 lx138 → bI 220 lx139 lx140 lx141 → bO R lx142 lx143 lx144 vm → (S_DW_raiseBelow_L48 x2 R t0_0 t0_1 t1_0 t2_0 t2_1 t3_0 t4_0 t4_1 t5_0 t6_0 t6_1 t7_0 t8_0 t8_1 t9_0 p60 p105 n lx132 lx133 lx134 lx135 lx136 lx137 lx138 lx139 lx140 lx141 lx142 lx143 lx144) ∧ G5 bK (bI 220) (bI 220) (bI 220) (bW R vm) (F_DW_raiseBelow_L48 x2 R t0_0 t0_1 t1_0 t2_0 t2_1 t3_0 t4_0 t4_1 t5_0 t6_0 t6_1 t7_0 t8_0 t8_1 t9_0 p60 p105 n lx132 lx133 lx134 lx135 lx136 lx137 lx138 lx139 lx140 lx141 lx142 lx143 lx144) := by
  have e := e220
  have e0 : (0 : Int32).toInt = 0 := rfl
  have sn := hn.sB hMn
  intro n
  induction n with
  | zero => intros; omega
  | succ n ih =>
    intro lx132 lx133 lx134 lx135 lx136 lx137 lx138 lx139 lx140 lx141 lx142 lx143 lx144 hl hl0 hl1 hq hp hw hm
    rw [S_DW_raiseBelow_L48.eq_2, F_DW_raiseBelow_L48.eq_2]
    have sp := hp.B hMm
    obtain ⟨v, v1, v2, v3⟩ := hp
    have hvB : bB 108 v := hMm.le (by omega)
    by_cases hj : lx132 < 0
    · rw [if_pos hj, if_pos hj]
      have h149 : S_Big_divideBy (220 : Int32) R (220 : Int32) t0_0 t0_1 t1_0 lx142 lx143 lx144 lx133 lx134 lx135 ∧ P3 220 R 220 (vn.tmod vm) vm ((vn.natAbs / vm.natAbs : Nat) : Int) (F_Big_divideBy (220 : Int32) R (220 : Int32) t0_0 t0_1 t1_0 lx142 lx143 lx144 lx133 lx134 lx135) := W_divideBy hn hm hv (by omega) (by omega) (by decide)
      refine v_owe h149.1 ?_
      replace h149 := h149.2
      generalize (F_Big_divideBy (220 : Int32) R (220 : Int32) t0_0 t0_1 t1_0 lx142 lx143 lx144 lx133 lx134 lx135) = p224 at h149 ⊢
      unfold S_DW_raiseBelow_c149 F_DW_raiseBelow_c149
      have b1 : bB 108 (vn.tmod vm) := hMm.tmod hv
      have s1 := h149.1.sB b1
      have h173 : P1 220 (vn.tmod vm * v) (F_Big_product (220 : Int32) (220 : Int32) (220 : Int32) lx139 lx140 lx141 (p224.1 : Int32) (p224.2.1 : Int32) (p224.2.2.1 : (Nat → Int32)) lx136 lx137 lx138) := W_product h149.1 v3 (by decide) (by omega)
      generalize (F_Big_product (220 : Int32) (220 : Int32) (220 : Int32) lx139 lx140 lx141 (p224.1 : Int32) (p224.2.1 : Int32) (p224.2.2.1 : (Nat → Int32)) lx136 lx137 lx138) = p253 at h173 ⊢
      unfold S_DW_raiseBelow_c173 F_DW_raiseBelow_c173
      have s2 := h173.sB (b1.mul hvB)
      have h191 : S_Big_divideBy (220 : Int32) R (220 : Int32) (p253.1 : Int32) (p253.2.1 : Int32) (p253.2.2 : (Nat → Int32)) (p224.2.2.2.1 : Int32) (p224.2.2.2.2.1 : Int32) (p224.2.2.2.2.2.1 : (Nat → Int32)) (p224.2.2.2.2.2.2.1 : Int32) (p224.2.2.2.2.2.2.2.1 : Int32) (p224.2.2.2.2.2.2.2.2 : (Nat → Int32)) ∧ P3 220 R 220 ((vn.tmod vm * v).tmod vm) vm (((vn.tmod vm * v).natAbs / vm.natAbs : Nat) : Int) (F_Big_divideBy (220 : Int32) R (220 : Int32) (p253.1 : Int32) (p253.2.1 : Int32) (p253.2.2 : (Nat → Int32)) (p224.2.2.2.1 : Int32) (p224.2.2.2.2.1 : Int32) (p224.2.2.2.2.2.1 : (Nat → Int32)) (p224.2.2.2.2.2.2.1 : Int32) (p224.2.2.2.2.2.2.2.1 : Int32) (p224.2.2.2.2.2.2.2.2 : (Nat → Int32))) := W_divideBy h173 h149.2.1 hv (by omega) (by omega) (by decide)
      refine v_owe h191.1 ?_
      replace h191 := h191.2
      generalize (F_Big_divideBy (220 : Int32) R (220 : Int32) (p253.1 : Int32) (p253.2.1 : Int32) (p253.2.2 : (Nat → Int32)) (p224.2.2.2.1 : Int32) (p224.2.2.2.2.1 : Int32) (p224.2.2.2.2.2.1 : (Nat → Int32)) (p224.2.2.2.2.2.2.1 : Int32) (p224.2.2.2.2.2.2.2.1 : Int32) (p224.2.2.2.2.2.2.2.2 : (Nat → Int32))) = p298 at h191 ⊢
      unfold S_DW_raiseBelow_c191 F_DW_raiseBelow_c191
      have b2 : bB 108 ((vn.tmod vm * v).tmod vm) := hMm.tmod hv
      have h208 : P1 220 ((vn.tmod vm * v).tmod vm) (F_Big_copy (220 : Int32) (220 : Int32) (p224.1 : Int32) (p224.2.1 : Int32) (p224.2.2.1 : (Nat → Int32)) (p298.1 : Int32) (p298.2.1 : Int32) (p298.2.2.1 : (Nat → Int32))) := W_copy h191.1 h191.1.fit (by decide)
      generalize (F_Big_copy (220 : Int32) (220 : Int32) (p224.1 : Int32) (p224.2.1 : Int32) (p224.2.2.1 : (Nat → Int32)) (p298.1 : Int32) (p298.2.1 : Int32) (p298.2.2.1 : (Nat → Int32))) = p328 at h208 ⊢
      unfold S_DW_raiseBelow_c208 F_DW_raiseBelow_c208
      have sE := h208.szE h191.1
      split
      · exact ⟨trivial, ⟨_, h208.abs0, (b2.a0).mono (by decide)⟩, h191.2.2.I, trivial, h191.1.I, h191.2.1⟩
      · split
        · exact ⟨trivial, ⟨_, h208.abs0, (b2.a0).mono (by decide)⟩, h191.2.2.I, trivial, h191.1.I, h191.2.1⟩
        · rename_i h9
          have h10 := v_nle0 h9
          exact ⟨trivial, ⟨_, h208.abs1 (by omega), (b2.a1).mono (by decide)⟩, h191.2.2.I, trivial, h191.1.I, h191.2.1⟩
    · rw [if_neg hj, if_neg hj]
      have hj2 := q_nltI hj
      obtain ⟨k, hk⟩ : ∃ k : Nat, lx132.toInt = (k : Int) := ⟨lx132.toInt.toNat, by omega⟩
      have ej : (lx132 + (-1) : Int32).toInt = lx132.toInt + (-1) := q_addI (b := -1) (y := -1) rfl (by decide) (by omega) (by omega)
      obtain ⟨j, ejj⟩ := q_nm (lx132 + (-1) : Int32)
      rw [ejj] at ej
      have h74 : P1 220 (v * v) (F_Big_product (220 : Int32) (220 : Int32) (220 : Int32) lx139 lx140 lx141 lx136 lx137 lx138 lx136 lx137 lx138) := W_product v3 v3 (by decide) (by omega)
      generalize (F_Big_product (220 : Int32) (220 : Int32) (220 : Int32) lx139 lx140 lx141 lx136 lx137 lx138 lx136 lx137 lx138) = p369 at h74 ⊢
      unfold S_DW_raiseBelow_c74 F_DW_raiseBelow_c74
      obtain ⟨bt, hbt⟩ := q_nm (((x2.toUInt32 >>> (lx132.toUInt32 &&& Int32.toUInt32 31)).toInt32) &&& 1 : Int32)
      have hb1 : 0 ≤ bt.toInt ∧ bt.toInt ≤ 1 := by
        rw [← hbt]
        exact s_and (m := 1) (by decide)
      rw [hbt]
      have m1 : (v * v).natAbs * 10 ^ bt.toNatClampNeg < 2147483648 ^ 217 := by
        have h1 : bB 216 (v * v) := hvB.mul hvB
        have h2 : 10 ^ bt.toNatClampNeg ≤ 10 ^ 1 := Nat.pow_le_pow_right (by decide) (by rw [v_cn]; omega)
        unfold bB at h1
        have h3 := Nat.mul_le_mul_left (v * v).natAbs h2
        rw [show (2147483648 : Nat) ^ 217 = 2147483648 ^ 216 * 2147483648 from Nat.pow_succ ..]
        generalize (2147483648 : Nat) ^ 216 = P at h1 ⊢
        omega
      have h90 := W_ten (M := 217) (x := bt) h74 (by decide) m1
      have b90 := v_abT m1
      have hw0 : 0 ≤ v * v * 10 ^ bt.toNatClampNeg := Int.mul_nonneg (v_sq0 v) (Int.le_of_lt (v_t10 _))
      generalize (v * v * 10 ^ bt.toNatClampNeg) = w at h90 b90 hw0
      generalize F_Big_timesTen 220 bt p369.1 p369.2.1 p369.2.2 = p397 at h90 ⊢
      unfold S_DW_raiseBelow_c90 F_DW_raiseBelow_c90
      have s90 := h90.sB b90
      have h108 : S_Big_divideBy (220 : Int32) R (220 : Int32) (p397.1 : Int32) (p397.2.1 : Int32) (p397.2.2 : (Nat → Int32)) lx142 lx143 lx144 lx133 lx134 lx135 ∧ P3 220 R 220 (w.tmod vm) vm ((w.natAbs / vm.natAbs : Nat) : Int) (F_Big_divideBy (220 : Int32) R (220 : Int32) (p397.1 : Int32) (p397.2.1 : Int32) (p397.2.2 : (Nat → Int32)) lx142 lx143 lx144 lx133 lx134 lx135) := W_divideBy h90 hm hv (by omega) (by omega) (by decide)
      refine v_owe h108.1 ?_
      replace h108 := h108.2
      generalize (F_Big_divideBy (220 : Int32) R (220 : Int32) (p397.1 : Int32) (p397.2.1 : Int32) (p397.2.2 : (Nat → Int32)) lx142 lx143 lx144 lx133 lx134 lx135) = p442 at h108 ⊢
      unfold S_DW_raiseBelow_c108 F_DW_raiseBelow_c108
      have h125 : P1 220 (w.tmod vm) (F_Big_copy (220 : Int32) (220 : Int32) lx136 lx137 lx138 (p442.1 : Int32) (p442.2.1 : Int32) (p442.2.2.1 : (Nat → Int32))) := W_copy h108.1 h108.1.fit (by decide)
      generalize (F_Big_copy (220 : Int32) (220 : Int32) lx136 lx137 lx138 (p442.1 : Int32) (p442.2.1 : Int32) (p442.2.2.1 : (Nat → Int32))) = p472 at h125 ⊢
      unfold S_DW_raiseBelow_c125 F_DW_raiseBelow_c125
      rw [ejj]
      have t1 := v_tmU (u := w) hv
      exact ih _ _ _ _ _ _ _ _ _ _ _ _ _ (by omega) (by omega) (by omega) h108.2.2.I ⟨_, t1, fun _ => v_tm0 hw0, h125⟩ h108.1.I h108.2.1

theorem T_raiseBelow {x2 : Int32} {R : Int32} {t0_0 : Int32} {t0_1 : Int32} {t1_0 : (Nat → Int32)} {t2_0 : Int32} {t2_1 : Int32} {t3_0 : (Nat → Int32)} {t4_0 : Int32} {t4_1 : Int32} {t5_0 : (Nat → Int32)} {t6_0 : Int32} {t6_1 : Int32} {t7_0 : (Nat → Int32)} {t8_0 : Int32} {t8_1 : Int32} {t9_0 : (Nat → Int32)} {vn vm : Int} (hn : bO 220 t0_0 t0_1 t1_0 vn) (hm : bO R t8_0 t8_1 t9_0 vm) (hv : vm ≠ 0) (hMn : bB 108 vn) (hMm : bB 108 vm) (hx : 0 ≤ x2.toInt) (hw : bI 220 t6_0 t6_1 t7_0) : (S_DW_raiseBelow x2 R t0_0 t0_1 t1_0 t2_0 t2_1 t3_0 t4_0 t4_1 t5_0 t6_0 t6_1 t7_0 t8_0 t8_1 t9_0) ∧ G5 bK (bI 220) (bI 220) (bI 220) (bW R vm) (F_DW_raiseBelow x2 R t0_0 t0_1 t1_0 t2_0 t2_1 t3_0 t4_0 t4_1 t5_0 t6_0 t6_1 t7_0 t8_0 t8_1 t9_0) := by
  have e := e220
  unfold S_DW_raiseBelow F_DW_raiseBelow
  have h5 : P1 220 1 (F_Big_setLong (220 : Int32) (1 : Int64) t4_0 t4_1 t5_0) := W_setLong (x := 1) (by decide) (by decide)
  generalize (F_Big_setLong (220 : Int32) (1 : Int64) t4_0 t4_1 t5_0) = p60 at h5 ⊢
  unfold S_DW_raiseBelow_c19 F_DW_raiseBelow_c19
  have s5 := h5.sB v_one
  have h17 : S_Big_divideBy (220 : Int32) R (220 : Int32) (p60.1 : Int32) (p60.2.1 : Int32) (p60.2.2 : (Nat → Int32)) t8_0 t8_1 t9_0 t2_0 t2_1 t3_0 ∧ P3 220 R 220 ((1 : Int).tmod vm) vm (((1 : Int).natAbs / vm.natAbs : Nat) : Int) (F_Big_divideBy (220 : Int32) R (220 : Int32) (p60.1 : Int32) (p60.2.1 : Int32) (p60.2.2 : (Nat → Int32)) t8_0 t8_1 t9_0 t2_0 t2_1 t3_0) := W_divideBy h5 hm hv (by omega) (by omega) (by decide)
  refine v_owe h17.1 ?_
  replace h17 := h17.2
  generalize (F_Big_divideBy (220 : Int32) R (220 : Int32) (p60.1 : Int32) (p60.2.1 : Int32) (p60.2.2 : (Nat → Int32)) t8_0 t8_1 t9_0 t2_0 t2_1 t3_0) = p105 at h17 ⊢
  unfold S_DW_raiseBelow_c37 F_DW_raiseBelow_c37
  obtain ⟨b, b1, b2, b3⟩ := v_bofn hx
  have k1 : (F_Big_bitsOf x2 - 1 : Int32).toInt = (b : Int) - 1 := q_subI (y := 1) b1 rfl (by omega) (by omega)
  exact T_raiseBelowL hn hv hMn hMm _ _ _ _ _ _ _ _ _ _ _ _ _ _ (by omega) (by omega) (by omega) h17.2.2.I ⟨_, v_tmU hv, fun _ => v_tm0 (by decide), h17.1⟩ hw h17.2.1
theorem v_absI {x : Int32} (h : -1000000 ≤ x.toInt) (h2 : x.toInt ≤ 1000000) : (F_jMath_abs_II x).toInt = (x.toInt.natAbs : Int) := by
  have e0 : (0 : Int32).toInt = 0 := rfl
  unfold F_jMath_abs_II
  split
  · rename_i h3
    have := q_leI h3
    omega
  · rename_i h3
    have := q_nleI h3
    have q := q_subI (a := 0) (b := x) e0 rfl (by omega) (by omega)
    rw [Int32.zero_sub] at q
    rw [q]
    omega
abbrev G5K (Rb : Int32) (vb : Int) := G5 bK (bI 220) (bI 220) (bI 220) (bW Rb vb)
theorem T_rest {R : Int32} {R2 : Int32} {t0_0 : Int64} {t0_1 : Int32} {t1_0 : Int32} {t1_1 : Int32} {t2_0 : (Nat → Int32)} {t3_0 : Int32} {t3_1 : Int32} {t4_0 : (Nat → Int32)} {t5_0 : Int32} {t5_1 : Int32} {t6_0 : (Nat → Int32)} {t7_0 : Int32} {t7_1 : Int32} {t8_0 : (Nat → Int32)} {t9_0 : Int32} {t9_1 : Int32} {t10_0 : Int32} {t10_1 : Int32} {t11_0 : (Nat → Int32)} {t12_0 : Int32} {t12_1 : Int32} {t13_0 : Int32} {t13_1 : Int32} {t14_0 : (Nat → Int32)} {va vb : Int} (ha : dO R t10_0 t10_1 t11_0 t9_0 t9_1 va) (hb : dO R2 t13_0 t13_1 t14_0 t12_0 t12_1 vb) (hv : vb ≠ 0) (i1 : bI 220 t3_0 t3_1 t4_0) (i2 : bI 220 t5_0 t5_1 t6_0) (i3 : bI 220 t7_0 t7_1 t8_0) : (S_DW_rest R R2 t0_0 t0_1 t1_0 t1_1 t2_0 t3_0 t3_1 t4_0 t5_0 t5_1 t6_0 t7_0 t7_1 t8_0 t9_0 t9_1 t10_0 t10_1 t11_0 t12_0 t12_1 t13_0 t13_1 t14_0) ∧ G5K R2 vb (F_DW_rest R R2 t0_0 t0_1 t1_0 t1_1 t2_0 t3_0 t3_1 t4_0 t5_0 t5_1 t6_0 t7_0 t7_1 t8_0 t9_0 t9_1 t10_0 t10_1 t11_0 t12_0 t12_1 t13_0 t13_1 t14_0).2.2 := by
  have e := e220
  have hBa := ha.B
  have hBb := hb.B
  obtain ⟨ha1, ⟨ca, ca1, ca2, ca3⟩, ha3, ha4⟩ := ha
  obtain ⟨hb1, ⟨cb, cb1, cb2, cb3⟩, hb3, hb4⟩ := hb
  have q3 : (t9_0 - t12_0 : Int32).toInt = t9_0.toInt - t12_0.toInt := q_subI rfl rfl (by omega) (by omega)
  have q4 := v_absI (x := t9_0 - t12_0) (by omega) (by omega)
  rw [q3] at q4
  unfold S_DW_rest F_DW_rest
  have h1 : P1 220 va (F_Big_copy 220 R t1_0 t1_1 t2_0 t10_0 t10_1 t11_0) := W_copy ha1 ha1.fit (by decide)
  generalize F_Big_copy 220 R t1_0 t1_1 t2_0 t10_0 t10_1 t11_0 = p96 at h1 ⊢
  generalize F_jMath_abs_II (t9_0 - t12_0) = a76 at q4 ⊢
  generalize (if t9_0 < t12_0 then t12_0 else t9_0 : Int32).toInt64 = j66
  unfold S_DW_rest_c40 F_DW_rest_c40
  by_cases g : t12_0 ≤ t9_0
  · rw [if_pos g, if_pos g]
    have g' := q_leI g
    by_cases g2 : t9_1 < t12_1 + a76
    · rw [if_pos g2, if_pos g2]
      exact ⟨trivial, h1.K hBa (by decide), i1, i2, i3, hb1⟩
    · rw [if_neg g2, if_neg g2]
      have g3 := q_nltI g2
      rw [q_addI cb1 q4 (by omega) (by omega)] at g3
      have h2 : P1 220 vb (F_Big_copy 220 R2 t5_0 t5_1 t6_0 t13_0 t13_1 t14_0) := W_copy hb1 hb1.fit (by decide)
      generalize F_Big_copy 220 R2 t5_0 t5_1 t6_0 t13_0 t13_1 t14_0 = p127 at h2 ⊢
      unfold S_DW_rest_c90 F_DW_rest_c90
      have m1 : vb.natAbs * 10 ^ a76.toNatClampNeg < 2147483648 ^ 108 := Nat.lt_of_lt_of_le (v_rt (k := 1000) cb2.2.1 (by rw [v_cn, q4]; omega)) (v_tB (by decide))
      have h3 := W_ten (M := 108) h2 (by decide) m1
      have hv2 : vb * 10 ^ a76.toNatClampNeg ≠ 0 := Int.mul_ne_zero hv (by have := v_t10 a76.toNatClampNeg; omega)
      generalize vb * 10 ^ a76.toNatClampNeg = w at h3 hv2
      generalize F_Big_timesTen 220 a76 p127.1 p127.2.1 p127.2.2 = p150 at h3 ⊢
      unfold S_DW_rest_c101 F_DW_rest_c101
      have s1 := h1.sB hBa
      have d := W_divideBy (R3 := 220) (sq := t3_0) (nq := t3_1) (fq := t4_0) h1 h3 hv2 (by omega) (by omega) (by decide)
      exact ⟨⟨⟨trivial, d.1⟩, trivial⟩, d.2.1.K hBa.tmodU (by decide), d.2.2.2.I, d.2.2.1.I, i3, hb1⟩
  · rw [if_neg g, if_neg g]
    have h2 := T_raiseBelow (x2 := a76) (t2_0 := t3_0) (t2_1 := t3_1) (t3_0 := t4_0) (t4_0 := t5_0) (t4_1 := t5_1) (t5_0 := t6_0) h1 hb1 hv hBa hBb (by omega) i3
    exact ⟨⟨⟨trivial, h2.1⟩, trivial⟩, h2.2⟩
theorem T_rest_a {R2 : Int32} {t0_0 : Int64} {t0_1 : Int32} {t1_0 : Int32} {t1_1 : Int32} {t2_0 : (Nat → Int32)} {t3_0 : Int32} {t3_1 : Int32} {t4_0 : (Nat → Int32)} {t5_0 : Int32} {t5_1 : Int32} {t6_0 : (Nat → Int32)} {t7_0 : Int32} {t7_1 : Int32} {t8_0 : (Nat → Int32)} {t9_0 : Int32} {t9_1 : Int32} {t10_0 : Int32} {t10_1 : Int32} {t11_0 : (Nat → Int32)} {va : Int} (ha : dO R2 t10_0 t10_1 t11_0 t9_0 t9_1 va) (hv : va ≠ 0) (i1 : bI 220 t3_0 t3_1 t4_0) (i2 : bI 220 t5_0 t5_1 t6_0) : (S_DW_rest_a R2 t0_0 t0_1 t1_0 t1_1 t2_0 t3_0 t3_1 t4_0 t5_0 t5_1 t6_0 t7_0 t7_1 t8_0 t9_0 t9_1 t10_0 t10_1 t11_0) ∧ G3 bK (bI 220) (bI 220) (F_DW_rest_a R2 t0_0 t0_1 t1_0 t1_1 t2_0 t3_0 t3_1 t4_0 t5_0 t5_1 t6_0 t7_0 t7_1 t8_0 t9_0 t9_1 t10_0 t10_1 t11_0).2.2 := by
  have e := e220
  have hBa := ha.B
  obtain ⟨ha1, ⟨ca, ca1, ca2, ca3⟩, ha3, ha4⟩ := ha
  have q3 : (t9_0 - t9_0 : Int32).toInt = t9_0.toInt - t9_0.toInt := q_subI rfl rfl (by omega) (by omega)
  have q4 := v_absI (x := t9_0 - t9_0) (by omega) (by omega)
  rw [q3] at q4
  unfold S_DW_rest_a F_DW_rest_a
  have h1 : P1 220 va (F_Big_copy 220 R2 t1_0 t1_1 t2_0 t10_0 t10_1 t11_0) := W_copy ha1 ha1.fit (by decide)
  generalize F_Big_copy 220 R2 t1_0 t1_1 t2_0 t10_0 t10_1 t11_0 = p83 at h1 ⊢
  generalize F_jMath_abs_II (t9_0 - t9_0) = a63 at q4 ⊢
  generalize (if t9_0 < t9_0 then t9_0 else t9_0 : Int32).toInt64 = j53
  unfold S_DW_rest_a_c40 F_DW_rest_a_c40
  by_cases g2 : t9_1 < t9_1 + a63
  · rw [if_pos g2, if_pos g2]
    exact ⟨trivial, h1.K hBa (by decide), i1, i2⟩
  · rw [if_neg g2, if_neg g2]
    have h2 : P1 220 va (F_Big_copy 220 R2 t5_0 t5_1 t6_0 t10_0 t10_1 t11_0) := W_copy ha1 ha1.fit (by decide)
    generalize F_Big_copy 220 R2 t5_0 t5_1 t6_0 t10_0 t10_1 t11_0 = p113 at h2 ⊢
    unfold S_DW_rest_a_c90 F_DW_rest_a_c90
    have m1 : va.natAbs * 10 ^ a63.toNatClampNeg < 2147483648 ^ 108 := by
      rw [show a63.toNatClampNeg = 0 by rw [v_cn, q4]; omega, Nat.pow_zero, Nat.mul_one]
      exact hBa
    have h3 := W_ten (M := 108) h2 (by decide) m1
    have hv2 : va * 10 ^ a63.toNatClampNeg ≠ 0 := Int.mul_ne_zero hv (by have := v_t10 a63.toNatClampNeg; omega)
    generalize va * 10 ^ a63.toNatClampNeg = w at h3 hv2
    generalize F_Big_timesTen 220 a63 p113.1 p113.2.1 p113.2.2 = p136 at h3 ⊢
    unfold S_DW_rest_a_c101 F_DW_rest_a_c101
    have s1 := h1.sB hBa
    have d := W_divideBy (R3 := 220) (sq := t3_0) (nq := t3_1) (fq := t4_0) h1 h3 hv2 (by omega) (by omega) (by decide)
    exact ⟨⟨⟨trivial, d.1⟩, trivial⟩, d.2.1.K hBa.tmodU (by decide), d.2.2.2.I, d.2.2.1.I⟩
/-- a raise that fits -/
theorem v_rf {va : Int} {ca : Nat} {x : Int32} (h1 : va.natAbs < 10 ^ ca) (h2 : ca ≤ 1000) (h3 : (ca : Int) + x.toInt ≤ 2004) : va.natAbs * 10 ^ x.toNatClampNeg < 2147483648 ^ 215 := by
  by_cases hx : x.toInt < 0
  · rw [v_cn, show x.toInt.toNat = 0 by omega, Nat.pow_zero, Nat.mul_one]
    exact Nat.lt_of_lt_of_le h1 (v_tB (by omega))
  · exact Nat.lt_of_lt_of_le (v_rt (k := 2004) h1 (by rw [v_cn]; omega)) (v_tB (by decide))
theorem T_divideToScale {R : Int32} {R2 : Int32} {x4 : Int32} {x5 : Int32} {t0_0 : Int64} {t0_1 : Int32} {t1_0 : Int32} {t1_1 : Int32} {t2_0 : (Nat → Int32)} {t3_0 : Int32} {t3_1 : Int32} {t4_0 : (Nat → Int32)} {t5_0 : Int32} {t5_1 : Int32} {t6_0 : (Nat → Int32)} {t7_0 : Int32} {t7_1 : Int32} {t8_0 : Int32} {t8_1 : Int32} {t9_0 : (Nat → Int32)} {t10_0 : Int32} {t10_1 : Int32} {t11_0 : Int32} {t11_1 : Int32} {t12_0 : (Nat → Int32)} {va vb : Int} (ha : dO R t8_0 t8_1 t9_0 t7_0 t7_1 va) (hb : dO R2 t11_0 t11_1 t12_0 t10_0 t10_1 vb) (hv : vb ≠ 0) (hx : -10000 ≤ x4.toInt) (hx2 : x4.toInt ≤ 10000) (i0 : bI 220 t1_0 t1_1 t2_0) (i1 : bI 220 t3_0 t3_1 t4_0) (i2 : bI 220 t5_0 t5_1 t6_0) : (S_DW_divideToScale R R2 x4 x5 t0_0 t0_1 t1_0 t1_1 t2_0 t3_0 t3_1 t4_0 t5_0 t5_1 t6_0 t7_0 t7_1 t8_0 t8_1 t9_0 t10_0 t10_1 t11_0 t11_1 t12_0) ∧ Dq (F_DW_divideToScale R R2 x4 x5 t0_0 t0_1 t1_0 t1_1 t2_0 t3_0 t3_1 t4_0 t5_0 t5_1 t6_0 t7_0 t7_1 t8_0 t8_1 t9_0 t10_0 t10_1 t11_0 t11_1 t12_0).1 (F_DW_divideToScale R R2 x4 x5 t0_0 t0_1 t1_0 t1_1 t2_0 t3_0 t3_1 t4_0 t5_0 t5_1 t6_0 t7_0 t7_1 t8_0 t8_1 t9_0 t10_0 t10_1 t11_0 t11_1 t12_0).2.2.2.1 (F_DW_divideToScale R R2 x4 x5 t0_0 t0_1 t1_0 t1_1 t2_0 t3_0 t3_1 t4_0 t5_0 t5_1 t6_0 t7_0 t7_1 t8_0 t8_1 t9_0 t10_0 t10_1 t11_0 t11_1 t12_0).2.2.2.2.1 (F_DW_divideToScale R R2 x4 x5 t0_0 t0_1 t1_0 t1_1 t2_0 t3_0 t3_1 t4_0 t5_0 t5_1 t6_0 t7_0 t7_1 t8_0 t8_1 t9_0 t10_0 t10_1 t11_0 t11_1 t12_0).2.2.2.2.2.1 ∧ G4 (bI 220) (bI 220) (bI 220) (bW R2 vb) (F_DW_divideToScale R R2 x4 x5 t0_0 t0_1 t1_0 t1_1 t2_0 t3_0 t3_1 t4_0 t5_0 t5_1 t6_0 t7_0 t7_1 t8_0 t8_1 t9_0 t10_0 t10_1 t11_0 t11_1 t12_0).2.2.2 := by
  have e := e220
  have eK : (1000 : Int32).toInt = 1000 := rfl
  obtain ⟨ha1, ⟨ca, ca1, ca2, ca3⟩, ha3, ha4⟩ := ha
  obtain ⟨hb1, ⟨cb, cb1, cb2, cb3⟩, hb3, hb4⟩ := hb
  have q1 : (x4 + t10_0 : Int32).toInt = x4.toInt + t10_0.toInt := q_addI rfl rfl (by omega) (by omega)
  have q2 : (x4 + t10_0 - t7_0 : Int32).toInt = x4.toInt + t10_0.toInt - t7_0.toInt := q_subI q1 rfl (by omega) (by omega)
  unfold S_DW_divideToScale F_DW_divideToScale
  by_cases g : t8_0 = 0
  · rw [if_pos g, if_pos g]
    have h1 : bO 220 (F_Big_clear 220 t1_0 t1_1).1 (F_Big_clear 220 t1_0 t1_1).2 t2_0 0 := W_clear (by decide) (by decide)
    exact ⟨trivial, Or.inr ⟨rfl, h1.K (M := 0) (by show 0 < _; decide) (by decide)⟩, h1.I, i1, i2, hb1⟩
  rw [if_neg g, if_neg g]
  obtain ⟨a62, ea⟩ := q_nm (x4 + t10_0 - t7_0 : Int32)
  rw [ea] at q2 ⊢
  by_cases g2 : (t7_1 + a62 - t10_1 : Int32) ≤ 1000
  · rw [if_pos g2, if_pos g2]
    have g3 := q_leI g2
    have q5 : (t7_1 + a62 : Int32).toInt = (ca : Int) + a62.toInt := q_addI ca1 rfl (by omega) (by omega)
    rw [q_subI q5 cb1 (by omega) (by omega)] at g3
    have q6 : (a62 + 1 : Int32).toInt = a62.toInt + 1 := q_addI rfl v_e1 (by omega) (by omega)
    have d := T_divideRaised (x4 := a62 + 1) (t0_0 := x4.toInt64) (t0_1 := t0_1) (t1_0 := t1_0) (t1_1 := t1_1) (t2_0 := t2_0) (t3_0 := t3_0) (t3_1 := t3_1) (t4_0 := t4_0) (t5_0 := t5_0) (t5_1 := t5_1) (t6_0 := t6_0) (t7_0 := t7_0) (t7_1 := t7_1) (t10_0 := t10_0) (t10_1 := t10_1) (M := 215) ha1 hb1 hv (v_rf ca2.2.1 ca3 (by omega)) (by decide)
    refine v_owe d.1 ?_
    replace d := d.2
    generalize F_DW_divideRaised R R2 (a62 + 1) x4.toInt64 t0_1 t1_0 t1_1 t2_0 t3_0 t3_1 t4_0 t5_0 t5_1 t6_0 t7_0 t7_1 t8_0 t8_1 t9_0 t10_0 t10_1 t11_0 t11_1 t12_0 = p123 at d ⊢
    obtain ⟨_, ⟨w, w1, w2, w3⟩, d2, d3, d4⟩ := d
    unfold S_DW_divideToScale_c68 F_DW_divideToScale_c68
    split
    · have r := T_roundLast (x2 := 0) (x3 := x5) (t0_0 := p123.1) (t0_1 := p123.2.1) w3 w1 w2 (by decide) d3
      exact ⟨trivial, Dq.mk r.1 r.2.1, r.2.1.I, d2, r.2.2, d4⟩
    · have r := T_roundLast (x2 := 1) (x3 := x5) (t0_0 := p123.1) (t0_1 := p123.2.1) w3 w1 w2 (by decide) d3
      exact ⟨trivial, Dq.mk r.1 r.2.1, r.2.1.I, d2, r.2.2, d4⟩
  · rw [if_neg g2, if_neg g2]
    exact ⟨trivial, Or.inl rfl, i0, i1, i2, hb1⟩
theorem T_divideToScale_a {R2 : Int32} {x4 : Int32} {x5 : Int32} {t0_0 : Int64} {t0_1 : Int32} {t1_0 : Int32} {t1_1 : Int32} {t2_0 : (Nat → Int32)} {t3_0 : Int32} {t3_1 : Int32} {t4_0 : (Nat → Int32)} {t5_0 : Int32} {t5_1 : Int32} {t6_0 : (Nat → Int32)} {t7_0 : Int32} {t7_1 : Int32} {t8_0 : Int32} {t8_1 : Int32} {t9_0 : (Nat → Int32)} {va : Int} (ha : dO R2 t8_0 t8_1 t9_0 t7_0 t7_1 va) (hx : -10000 ≤ x4.toInt) (hx2 : x4.toInt ≤ 10000) (i0 : bI 220 t1_0 t1_1 t2_0) (i1 : bI 220 t3_0 t3_1 t4_0) (i2 : bI 220 t5_0 t5_1 t6_0) : (S_DW_divideToScale_a R2 x4 x5 t0_0 t0_1 t1_0 t1_1 t2_0 t3_0 t3_1 t4_0 t5_0 t5_1 t6_0 t7_0 t7_1 t8_0 t8_1 t9_0) ∧ Dq (F_DW_divideToScale_a R2 x4 x5 t0_0 t0_1 t1_0 t1_1 t2_0 t3_0 t3_1 t4_0 t5_0 t5_1 t6_0 t7_0 t7_1 t8_0 t8_1 t9_0).1 (F_DW_divideToScale_a R2 x4 x5 t0_0 t0_1 t1_0 t1_1 t2_0 t3_0 t3_1 t4_0 t5_0 t5_1 t6_0 t7_0 t7_1 t8_0 t8_1 t9_0).2.2.2.1 (F_DW_divideToScale_a R2 x4 x5 t0_0 t0_1 t1_0 t1_1 t2_0 t3_0 t3_1 t4_0 t5_0 t5_1 t6_0 t7_0 t7_1 t8_0 t8_1 t9_0).2.2.2.2.1 (F_DW_divideToScale_a R2 x4 x5 t0_0 t0_1 t1_0 t1_1 t2_0 t3_0 t3_1 t4_0 t5_0 t5_1 t6_0 t7_0 t7_1 t8_0 t8_1 t9_0).2.2.2.2.2.1 ∧ G4 (bI 220) (bI 220) (bI 220) (bW R2 va) (F_DW_divideToScale_a R2 x4 x5 t0_0 t0_1 t1_0 t1_1 t2_0 t3_0 t3_1 t4_0 t5_0 t5_1 t6_0 t7_0 t7_1 t8_0 t8_1 t9_0).2.2.2 := by
  have e := e220
  have eK : (1000 : Int32).toInt = 1000 := rfl
  obtain ⟨ha1, ⟨ca, ca1, ca2, ca3⟩, ha3, ha4⟩ := ha
  have q1 : (x4 + t7_0 : Int32).toInt = x4.toInt + t7_0.toInt := q_addI rfl rfl (by omega) (by omega)
  have q2 : (x4 + t7_0 - t7_0 : Int32).toInt = x4.toInt + t7_0.toInt - t7_0.toInt := q_subI q1 rfl (by omega) (by omega)
  unfold S_DW_divideToScale_a F_DW_divideToScale_a
  by_cases g : t8_0 = 0
  · rw [if_pos g, if_pos g]
    have h1 : bO 220 (F_Big_clear 220 t1_0 t1_1).1 (F_Big_clear 220 t1_0 t1_1).2 t2_0 0 := W_clear (by decide) (by decide)
    exact ⟨trivial, Or.inr ⟨rfl, h1.K (M := 0) (by show 0 < _; decide) (by decide)⟩, h1.I, i1, i2, ha1⟩
  rw [if_neg g, if_neg g]
  have hv : va ≠ 0 := fun h => g (ha1.nil.mpr h)
  obtain ⟨a49, ea⟩ := q_nm (x4 + t7_0 - t7_0 : Int32)
  rw [ea] at q2 ⊢
  by_cases g2 : (t7_1 + a49 - t7_1 : Int32) ≤ 1000
  · rw [if_pos g2, if_pos g2]
    have g3 := q_leI g2
    have q5 : (t7_1 + a49 : Int32).toInt = (ca : Int) + a49.toInt := q_addI ca1 rfl (by omega) (by omega)
    rw [q_subI q5 ca1 (by omega) (by omega)] at g3
    have q6 : (a49 + 1 : Int32).toInt = a49.toInt + 1 := q_addI rfl v_e1 (by omega) (by omega)
    have d := T_divideRaised_a (x4 := a49 + 1) (t0_0 := x4.toInt64) (t0_1 := t0_1) (t1_0 := t1_0) (t1_1 := t1_1) (t2_0 := t2_0) (t3_0 := t3_0) (t3_1 := t3_1) (t4_0 := t4_0) (t5_0 := t5_0) (t5_1 := t5_1) (t6_0 := t6_0) (t7_0 := t7_0) (t7_1 := t7_1) (M := 215) ha1 ha1 hv (v_rf ca2.2.1 ca3 (by omega)) (by decide)
    refine v_owe d.1 ?_
    replace d := d.2
    generalize F_DW_divideRaised_a R2 (a49 + 1) x4.toInt64 t0_1 t1_0 t1_1 t2_0 t3_0 t3_1 t4_0 t5_0 t5_1 t6_0 t7_0 t7_1 t8_0 t8_1 t9_0 = p110 at d ⊢
    obtain ⟨_, ⟨w, w1, w2, w3⟩, d2, d3, d4⟩ := d
    unfold S_DW_divideToScale_a_c68 F_DW_divideToScale_a_c68
    have r := T_roundLast (x2 := 0) (x3 := x5) (t0_0 := p110.1) (t0_1 := p110.2.1) w3 w1 w2 (by decide) d3
    exact ⟨trivial, Dq.mk r.1 r.2.1, r.2.1.I, d2, r.2.2, d4⟩
  · rw [if_neg g2, if_neg g2]
    exact ⟨trivial, Or.inl rfl, i0, i1, i2, ha1⟩
