/-! values, for whole: the class's raiseBelow, rest -/
theorem v_rbS {vm v : Int} {h b : Nat} (hv : v = (10 : Int) ^ h % vm) : (v * v * 10 ^ b).tmod vm = (10 : Int) ^ (h + h + b) % vm := by
  have h0 : 0 ≤ v * v * (10 : Int) ^ b := Int.mul_nonneg (v_sq0 v) (Int.le_of_lt (v_t10 b))
  have e1 : v * v % vm = (10 : Int) ^ (h + h) % vm := by
    rw [hv, ← Int.mul_emod, ← Int.pow_add]
  rw [Int.tmod_eq_emod_of_nonneg h0, Int.mul_emod, e1, ← Int.mul_emod, ← Int.pow_add]
theorem v_ena (x m : Int) : x % (m.natAbs : Int) = x % m := by
  rcases Int.le_total 0 m with h | h
  · rw [Int.natAbs_of_nonneg h]
  · rw [show (m.natAbs : Int) = -m by omega, Int.emod_neg]
/-- the sign of a rest -/
theorem v_rbE {vn vm v : Int} {x : Nat} (hv : v = (10 : Int) ^ x % vm) (v0 : 0 ≤ v) : ((vn.tmod vm * v).tmod vm).natAbs = ((vn * 10 ^ x).tmod vm).natAbs := by
  have e1 : v.natAbs % vm.natAbs = 10 ^ x % vm.natAbs := by
    have h1 : ((v.natAbs % vm.natAbs : Nat) : Int) = ((10 ^ x % vm.natAbs : Nat) : Int) := by
      rw [Int.natCast_emod, Int.natCast_emod, Int.natAbs_of_nonneg v0, Int.natCast_pow, v_ena, v_ena, hv, Int.emod_emod]
      rfl
    exact Int.ofNat_inj.mp h1
  rw [Int.natAbs_tmod, Int.natAbs_tmod, Int.natAbs_mul, Int.natAbs_mul, Int.natAbs_tmod, Int.natAbs_pow, Nat.mul_mod, Nat.mod_mod, e1, ← Nat.mul_mod]
  rfl
theorem V_rbL {x2 : Int32} {R : Int32} {t0_0 : Int32} {t0_1 : Int32} {t1_0 : (Nat → Int32)} {t2_0 : Int32} {t2_1 : Int32} {t3_0 : (Nat → Int32)} {t4_0 : Int32} {t4_1 : Int32} {t5_0 : (Nat → Int32)} {t6_0 : Int32} {t6_1 : Int32} {t7_0 : (Nat → Int32)} {t8_0 : Int32} {t8_1 : Int32} {t9_0 : (Nat → Int32)} {p60 : (Int32 × Int32 × (Nat → Int32))} {p105 : (Int32 × Int32 × (Nat → Int32) × Int32 × Int32 × (Nat → Int32) × Int32 × Int32 × (Nat → Int32))} {vn vm : Int} {X : Nat} (hn : bO 220 t0_0 t0_1 t1_0 vn) (hv : vm ≠ 0) (hMn : bB 108 vn) (hMm : bB 108 vm) (hX : x2.toBitVec.toNat = X) : ∀ (n : Nat) (lx132 : Int32) (lx133 : Int32) (lx134 : Int32) (lx135 : (Nat → Int32)) (lx136 : Int32) (lx137 : Int32) (lx138 : (Nat → Int32)) (lx139 : Int32) (lx140 : Int32) (lx141 : (Nat → Int32)) (lx142 : Int32) (lx143 : Int32) (lx144 : (Nat → Int32)), ∀ i : Nat, lx132.toInt + 1 = (i : Int) → i < n → i ≤ 31 → bO 220 lx136 lx137 lx138 ((10 : Int) ^ (X / 2 ^ i) % vm) → bO R lx142 lx143 lx144 vm → bO 220 (F_DW_raiseBelow_L48 x2 R t0_0 t0_1 t1_0 t2_0 t2_1 t3_0 t4_0 t4_1 t5_0 t6_0 t6_1 t7_0 t8_0 t8_1 t9_0 p60 p105 n lx132 lx133 lx134 lx135 lx136 lx137 lx138 lx139 lx140 lx141 lx142 lx143 lx144).1 (F_DW_raiseBelow_L48 x2 R t0_0 t0_1 t1_0 t2_0 t2_1 t3_0 t4_0 t4_1 t5_0 t6_0 t6_1 t7_0 t8_0 t8_1 t9_0 p60 p105 n lx132 lx133 lx134 lx135 lx136 lx137 lx138 lx139 lx140 lx141 lx142 lx143 lx144).2.1 (F_DW_raiseBelow_L48 x2 R t0_0 t0_1 t1_0 t2_0 t2_1 t3_0 t4_0 t4_1 t5_0 t6_0 t6_1 t7_0 t8_0 t8_1 t9_0 p60 p105 n lx132 lx133 lx134 lx135 lx136 lx137 lx138 lx139 lx140 lx141 lx142 lx143 lx144).2.2.1 ((vn * 10 ^ X).tmod vm) := by
  have e := e220
  have e0 : (0 : Int32).toInt = 0 := rfl
  have sn := hn.sB hMn
  intro n
  induction n with
  | zero => intro _ _ _ _ _ _ _ _ _ _ _ _ _ i _ h; exact absurd h (Nat.not_lt_zero _)
  | succ n ih =>
    intro lx132 lx133 lx134 lx135 lx136 lx137 lx138 lx139 lx140 lx141 lx142 lx143 lx144 i hi hin hi1 hp hm
    rw [F_DW_raiseBelow_L48.eq_2]
    have r0 := Int.emod_nonneg ((10 : Int) ^ (X / 2 ^ i)) hv
    have r1 := Int.emod_lt ((10 : Int) ^ (X / 2 ^ i)) hv
    obtain ⟨v, hvE⟩ := q_nm ((10 : Int) ^ (X / 2 ^ i) % vm)
    rw [hvE] at hp r0 r1
    have vB' : v.natAbs ≤ vm.natAbs := by omega
    have hvB : bB 108 v := hMm.le vB'
    have sp := hp.sB hvB
    by_cases hj : lx132 < 0
    · rw [if_pos hj]
      have hj2 := q_ltI hj
      have i0 : i = 0 := by omega
      rw [i0, Nat.pow_zero, Nat.div_one] at hvE
      have h149 := (W_divideBy (R3 := 220) (sq := lx133) (nq := lx134) (fq := lx135) hn hm hv (by omega) (by omega) (by decide)).2
      generalize F_Big_divideBy 220 R 220 t0_0 t0_1 t1_0 lx142 lx143 lx144 lx133 lx134 lx135 = p224 at h149 ⊢
      unfold F_DW_raiseBelow_c149
      have b1 : bB 108 (vn.tmod vm) := hMm.tmod hv
      have s1 := h149.1.sB b1
      have h173 : P1 220 (vn.tmod vm * v) (F_Big_product 220 220 220 lx139 lx140 lx141 p224.1 p224.2.1 p224.2.2.1 lx136 lx137 lx138) := W_product h149.1 hp (by decide) (by omega)
      generalize F_Big_product 220 220 220 lx139 lx140 lx141 p224.1 p224.2.1 p224.2.2.1 lx136 lx137 lx138 = p253 at h173 ⊢
      unfold F_DW_raiseBelow_c173
      have s2 := h173.sB (b1.mul hvB)
      have h191 := (W_divideBy (R3 := 220) (sq := p224.2.2.2.2.2.2.1) (nq := p224.2.2.2.2.2.2.2.1) (fq := p224.2.2.2.2.2.2.2.2) h173 h149.2.1 hv (by omega) (by omega) (by decide)).2
      generalize F_Big_divideBy 220 R 220 p253.1 p253.2.1 p253.2.2 p224.2.2.2.1 p224.2.2.2.2.1 p224.2.2.2.2.2.1 p224.2.2.2.2.2.2.1 p224.2.2.2.2.2.2.2.1 p224.2.2.2.2.2.2.2.2 = p298 at h191 ⊢
      unfold F_DW_raiseBelow_c191
      have h208 : P1 220 ((vn.tmod vm * v).tmod vm) (F_Big_copy 220 220 p224.1 p224.2.1 p224.2.2.1 p298.1 p298.2.1 p298.2.2.1) := W_copy h191.1 h191.1.fit (by decide)
      generalize F_Big_copy 220 220 p224.1 p224.2.1 p224.2.2.1 p298.1 p298.2.1 p298.2.2.1 = p328 at h208 ⊢
      unfold F_DW_raiseBelow_c208
      have sE := h208.szE h191.1
      have ab := v_rbE (vn := vn) (x := X) hvE.symm r0
      have aP := h208.abs0
      rw [ab] at aP
      rcases hn.sgn with ⟨n0, vn0⟩ | ⟨n1, vn1⟩
      · rw [if_pos n0]
        have t0 : 0 ≤ (vn * 10 ^ X).tmod vm := v_tm0 (Int.mul_nonneg vn0 (Int.le_of_lt (v_t10 X)))
        rw [Int.natAbs_of_nonneg t0] at aP
        exact aP
      · have t0 : (vn * 10 ^ X).tmod vm ≤ 0 := by
          have h1 : 0 ≤ ((-vn) * 10 ^ X).tmod vm := v_tm0 (Int.mul_nonneg (by omega) (Int.le_of_lt (v_t10 X)))
          rw [Int.neg_mul, Int.neg_tmod] at h1
          omega
        rw [if_neg (by rw [n1]; decide)]
        split
        · rename_i h9
          have h10 := q_leI h9
          have z : ((vn.tmod vm * v).tmod vm) = 0 := by
            by_cases c : ((vn.tmod vm * v).tmod vm) = 0
            · exact c
            · have := h191.1.pos.mpr c
              omega
          rw [z] at ab
          have z2 : (vn * 10 ^ X).tmod vm = 0 := by
            have : ((vn * 10 ^ X).tmod vm).natAbs = 0 := ab.symm
            omega
          rw [z2] at aP ⊢
          exact aP
        · rename_i h9
          have h10 := v_nle0 h9
          have aN := h208.abs1 (by omega)
          rw [ab, show -(((vn * 10 ^ X).tmod vm).natAbs : Int) = (vn * 10 ^ X).tmod vm by omega] at aN
          exact aN
    · rw [if_neg hj]
      have hj2 := q_nltI hj
      obtain ⟨k, rfl⟩ : ∃ k : Nat, i = k + 1 := ⟨i - 1, by omega⟩
      have ek : lx132.toInt = (k : Int) := by omega
      have ej : wE ((lx132 + (-1) : Int32).toInt + 1) ((k : Int)) := by
        show (lx132 + (-1) : Int32).toInt + 1 = (k : Int)
        rw [q_addI (b := -1) (y := -1) ek (by decide) (by omega) (by omega)]
        omega
      have h74 : P1 220 (v * v) (F_Big_product 220 220 220 lx139 lx140 lx141 lx136 lx137 lx138 lx136 lx137 lx138) := W_product hp hp (by decide) (by omega)
      generalize F_Big_product 220 220 220 lx139 lx140 lx141 lx136 lx137 lx138 lx136 lx137 lx138 = p369 at h74 ⊢
      unfold F_DW_raiseBelow_c74
      have hbit := v_bit1 (x := x2) (a := lx132) ek (by omega)
      rw [hX] at hbit
      obtain ⟨bt, hbt⟩ := q_nm (((x2.toUInt32 >>> (lx132.toUInt32 &&& Int32.toUInt32 31)).toInt32) &&& 1 : Int32)
      have hb1 : 0 ≤ bt.toInt ∧ bt.toInt ≤ 1 := by
        rw [← hbt]
        exact s_and (m := 1) (by decide)
      rw [hbt] at hbit ⊢
      have eB : X / 2 ^ k = X / 2 ^ (k + 1) + X / 2 ^ (k + 1) + bt.toNatClampNeg := by
        have h1 : X / 2 ^ (k + 1) = X / 2 ^ k / 2 := by
          rw [Nat.pow_succ, Nat.div_div_eq_div_mul]
        rw [h1, v_cn]
        by_cases c : bt = 1
        · have h2 := hbit.mp c
          have h3 : bt.toInt = 1 := by rw [c]; rfl
          rw [h3]
          generalize X / 2 ^ k = Y at h2 ⊢
          show Y = Y / 2 + Y / 2 + 1
          omega
        · have h2 : ¬ (X / 2 ^ k) % 2 = 1 := fun h => c (hbit.mpr h)
          have h3 : bt.toInt ≠ 1 := fun h => c (Int32.toInt_inj.mp h)
          rw [show bt.toInt = 0 by omega]
          generalize X / 2 ^ k = Y at h2 ⊢
          show Y = Y / 2 + Y / 2 + 0
          omega
      have m1 : (v * v).natAbs * 10 ^ bt.toNatClampNeg < 2147483648 ^ 217 := by
        have h1 : bB 216 (v * v) := hvB.mul hvB
        have h2 : 10 ^ bt.toNatClampNeg ≤ 10 ^ 1 := Nat.pow_le_pow_right (by decide) (by rw [v_cn]; omega)
        unfold bB at h1
        have h3 := Nat.mul_le_mul_left (v * v).natAbs h2
        rw [show (2147483648 : Nat) ^ 217 = 2147483648 ^ 216 * 2147483648 from Nat.pow_succ ..]
        generalize (2147483648 : Nat) ^ 216 = P at h1 ⊢
        omega
      have h90 := W_ten (M := 217) (x := bt) h74 (by decide) m1
      have b90 := v_abT m1
      have tE := v_rbS (b := bt.toNatClampNeg) hvE.symm
      rw [← eB] at tE
      generalize (v * v * 10 ^ bt.toNatClampNeg) = w at h90 b90 tE
      generalize F_Big_timesTen 220 bt p369.1 p369.2.1 p369.2.2 = p397 at h90 ⊢
      unfold F_DW_raiseBelow_c90
      have s90 := h90.sB b90
      have h108 := (W_divideBy (R3 := 220) (sq := lx133) (nq := lx134) (fq := lx135) h90 hm hv (by omega) (by omega) (by decide)).2
      generalize F_Big_divideBy 220 R 220 p397.1 p397.2.1 p397.2.2 lx142 lx143 lx144 lx133 lx134 lx135 = p442 at h108 ⊢
      unfold F_DW_raiseBelow_c108
      have h125 : P1 220 (w.tmod vm) (F_Big_copy 220 220 lx136 lx137 lx138 p442.1 p442.2.1 p442.2.2.1) := W_copy h108.1 h108.1.fit (by decide)
      generalize F_Big_copy 220 220 lx136 lx137 lx138 p442.1 p442.2.1 p442.2.2.1 = p472 at h125 ⊢
      unfold F_DW_raiseBelow_c125
      rw [tE] at h125
      exact ih _ _ _ _ _ _ _ _ _ _ _ _ _ k ej (by omega) (by omega) h125 h108.2.1
theorem V_raiseBelow {x2 : Int32} {R : Int32} {t0_0 : Int32} {t0_1 : Int32} {t1_0 : (Nat → Int32)} {t2_0 : Int32} {t2_1 : Int32} {t3_0 : (Nat → Int32)} {t4_0 : Int32} {t4_1 : Int32} {t5_0 : (Nat → Int32)} {t6_0 : Int32} {t6_1 : Int32} {t7_0 : (Nat → Int32)} {t8_0 : Int32} {t8_1 : Int32} {t9_0 : (Nat → Int32)} {vn vm : Int} {X : Nat} (hn : bO 220 t0_0 t0_1 t1_0 vn) (hm : bO R t8_0 t8_1 t9_0 vm) (hv : vm ≠ 0) (hMn : bB 108 vn) (hMm : bB 108 vm) (hx : 0 ≤ x2.toInt) (hX : x2.toInt.toNat = X) : bO 220 (F_DW_raiseBelow x2 R t0_0 t0_1 t1_0 t2_0 t2_1 t3_0 t4_0 t4_1 t5_0 t6_0 t6_1 t7_0 t8_0 t8_1 t9_0).1 (F_DW_raiseBelow x2 R t0_0 t0_1 t1_0 t2_0 t2_1 t3_0 t4_0 t4_1 t5_0 t6_0 t6_1 t7_0 t8_0 t8_1 t9_0).2.1 (F_DW_raiseBelow x2 R t0_0 t0_1 t1_0 t2_0 t2_1 t3_0 t4_0 t4_1 t5_0 t6_0 t6_1 t7_0 t8_0 t8_1 t9_0).2.2.1 ((vn * 10 ^ X).tmod vm) := by
  have e := e220
  have hX2 : x2.toBitVec.toNat = X := by
    rw [← hX]
    have h1 : x2.toInt = (x2.toBitVec.toNat : Int) := by
      show x2.toBitVec.toInt = _
      rw [BitVec.toInt_eq_toNat_cond]
      split
      · rfl
      · rename_i h
        exfalso
        have h2 : x2.toBitVec.toInt = (x2.toBitVec.toNat : Int) - ((2 ^ 32 : Nat) : Int) := by
          rw [BitVec.toInt_eq_toNat_cond, if_neg h]
        have h3 : x2.toInt = x2.toBitVec.toInt := rfl
        have h4 := x2.toBitVec.isLt
        omega
    omega
  unfold F_DW_raiseBelow
  have h5 : P1 220 1 (F_Big_setLong 220 1 t4_0 t4_1 t5_0) := W_setLong (x := 1) (by decide) (by decide)
  generalize F_Big_setLong 220 1 t4_0 t4_1 t5_0 = p60 at h5 ⊢
  unfold F_DW_raiseBelow_c19
  have s5 := h5.sB v_one
  have h17 := (W_divideBy (R3 := 220) (sq := t2_0) (nq := t2_1) (fq := t3_0) h5 hm hv (by omega) (by omega) (by decide)).2
  generalize F_Big_divideBy 220 R 220 p60.1 p60.2.1 p60.2.2 t8_0 t8_1 t9_0 t2_0 t2_1 t3_0 = p105 at h17 ⊢
  unfold F_DW_raiseBelow_c37
  obtain ⟨b, b1, b2, b3⟩ := v_bofn hx
  have k1 : (F_Big_bitsOf x2 - 1 : Int32).toInt = (b : Int) - 1 := q_subI (y := 1) b1 rfl (by omega) (by omega)
  have q1 : (10 : Int) ^ (X / 2 ^ b) % vm = (1 : Int).tmod vm := by
    rw [Nat.div_eq_of_lt (by rw [← hX]; exact b3), Int.pow_zero, Int.tmod_eq_emod_of_nonneg (by decide)]
  exact V_rbL hn hv hMn hMm hX2 _ _ _ _ _ _ _ _ _ _ _ _ _ _ b (by omega) (by omega) b2 (by rw [q1]; exact h17.1) h17.2.1
/-- the rest -/
def sRem (a b : Int × Int) : Int × Int := ((a.1 * 10 ^ (max a.2 b.2 - a.2).toNat).tmod (b.1 * 10 ^ (max a.2 b.2 - b.2).toNat), max a.2 b.2)
theorem v_tmL {a b : Int} (h : a.natAbs < b.natAbs) : a.tmod b = a := by
  have h1 : (a.tdiv b).natAbs = 0 := by
    rw [Int.natAbs_tdiv]
    exact Nat.div_eq_of_lt h
  have h2 : a.tdiv b = 0 := by omega
  rw [Int.tmod_def, h2, Int.mul_zero, Int.sub_zero]
theorem V_rest {R : Int32} {R2 : Int32} {t0_0 : Int64} {t0_1 : Int32} {t1_0 : Int32} {t1_1 : Int32} {t2_0 : (Nat → Int32)} {t3_0 : Int32} {t3_1 : Int32} {t4_0 : (Nat → Int32)} {t5_0 : Int32} {t5_1 : Int32} {t6_0 : (Nat → Int32)} {t7_0 : Int32} {t7_1 : Int32} {t8_0 : (Nat → Int32)} {t9_0 : Int32} {t9_1 : Int32} {t10_0 : Int32} {t10_1 : Int32} {t11_0 : (Nat → Int32)} {t12_0 : Int32} {t12_1 : Int32} {t13_0 : Int32} {t13_1 : Int32} {t14_0 : (Nat → Int32)} {qa qb : Int × Int} (ha : dP R t10_0 t10_1 t11_0 t9_0 t9_1 qa) (hb : dP R2 t13_0 t13_1 t14_0 t12_0 t12_1 qb) (hv : qb.1 ≠ 0) : (F_DW_rest R R2 t0_0 t0_1 t1_0 t1_1 t2_0 t3_0 t3_1 t4_0 t5_0 t5_1 t6_0 t7_0 t7_1 t8_0 t9_0 t9_1 t10_0 t10_1 t11_0 t12_0 t12_1 t13_0 t13_1 t14_0).1.toInt = (sRem qa qb).2 ∧ bO 220 (F_DW_rest R R2 t0_0 t0_1 t1_0 t1_1 t2_0 t3_0 t3_1 t4_0 t5_0 t5_1 t6_0 t7_0 t7_1 t8_0 t9_0 t9_1 t10_0 t10_1 t11_0 t12_0 t12_1 t13_0 t13_1 t14_0).2.2.1 (F_DW_rest R R2 t0_0 t0_1 t1_0 t1_1 t2_0 t3_0 t3_1 t4_0 t5_0 t5_1 t6_0 t7_0 t7_1 t8_0 t9_0 t9_1 t10_0 t10_1 t11_0 t12_0 t12_1 t13_0 t13_1 t14_0).2.2.2.1 (F_DW_rest R R2 t0_0 t0_1 t1_0 t1_1 t2_0 t3_0 t3_1 t4_0 t5_0 t5_1 t6_0 t7_0 t7_1 t8_0 t9_0 t9_1 t10_0 t10_1 t11_0 t12_0 t12_1 t13_0 t13_1 t14_0).2.2.2.2.1 (sRem qa qb).1 ∧ bB 108 (sRem qa qb).1 := by
  have e := e220
  have hBa := ha.O.B
  have hBb := hb.O.B
  obtain ⟨ha1, ⟨ca, ca1, ca2, ca3⟩, ha2, ha3, ha4⟩ := ha
  obtain ⟨hb1, ⟨cb, cb1, cb2, cb3⟩, hb2, hb3, hb4⟩ := hb
  have q3 : (t9_0 - t12_0 : Int32).toInt = qa.2 - qb.2 := q_subI ha2 hb2 (by omega) (by omega)
  have q4 := v_absI (x := t9_0 - t12_0) (by omega) (by omega)
  rw [q3] at q4
  have hj : ((if t9_0 < t12_0 then t12_0 else t9_0 : Int32).toInt64).toInt = max qa.2 qb.2 := by
    rw [Int32.toInt_toInt64]
    by_cases c : t9_0 < t12_0
    · have := q_ltI c
      rw [if_pos c, hb2]
      omega
    · have := q_nltI c
      rw [if_neg c, ha2]
      omega
  unfold F_DW_rest
  have h1 : P1 220 qa.1 (F_Big_copy 220 R t1_0 t1_1 t2_0 t10_0 t10_1 t11_0) := W_copy ha1 ha1.fit (by decide)
  generalize F_Big_copy 220 R t1_0 t1_1 t2_0 t10_0 t10_1 t11_0 = p96 at h1 ⊢
  generalize F_jMath_abs_II (t9_0 - t12_0) = a76 at q4 ⊢
  generalize (if t9_0 < t12_0 then t12_0 else t9_0 : Int32).toInt64 = j66 at hj ⊢
  unfold F_DW_rest_c40
  by_cases g : t12_0 ≤ t9_0
  · rw [if_pos g]
    have g' := q_leI g
    have z1 : (max qa.2 qb.2 - qa.2).toNat = 0 := by omega
    have z2 : (max qa.2 qb.2 - qb.2).toNat = a76.toNatClampNeg := by
      rw [v_cn, q4]
      omega
    have sE : (sRem qa qb).1 = qa.1.tmod (qb.1 * 10 ^ a76.toNatClampNeg) := by
      unfold sRem
      rw [z1, z2, Int.pow_zero, Int.mul_one]
    rw [sE]
    by_cases g2 : t9_1 < t12_1 + a76
    · have g3 := q_ltI g2
      rw [q_addI cb1 q4 (by omega) (by omega), ca1] at g3
      rw [if_pos g2]
      have lt : qa.1.natAbs < (qb.1 * 10 ^ a76.toNatClampNeg).natAbs := by
        obtain ⟨c1, c2⟩ := d_bdI cb2 hv
        have a2 : qa.1.natAbs < 10 ^ ca := ca2.1.2.1
        rw [Int.natAbs_mul, Int.natAbs_pow]
        have c1' : 10 ^ (cb - 1) ≤ qb.1.natAbs := by
          refine Int.ofNat_le.mp ?_
          rw [Int.natCast_pow]
          exact c1
        have k1 : 10 ^ ca ≤ 10 ^ (cb - 1 + a76.toNatClampNeg) := Nat.pow_le_pow_right (by decide) (by have := cb2.1.1; rw [v_cn, q4]; omega)
        rw [Nat.pow_add] at k1
        exact Nat.lt_of_lt_of_le a2 (Nat.le_trans k1 (Nat.mul_le_mul_right _ c1'))
      rw [v_tmL lt]
      exact ⟨hj, h1, hBa⟩
    · rw [if_neg g2]
      have g3 := q_nltI g2
      rw [q_addI cb1 q4 (by omega) (by omega), ca1] at g3
      have h2 : P1 220 qb.1 (F_Big_copy 220 R2 t5_0 t5_1 t6_0 t13_0 t13_1 t14_0) := W_copy hb1 hb1.fit (by decide)
      generalize F_Big_copy 220 R2 t5_0 t5_1 t6_0 t13_0 t13_1 t14_0 = p127 at h2 ⊢
      unfold F_DW_rest_c90
      have m1 : qb.1.natAbs * 10 ^ a76.toNatClampNeg < 2147483648 ^ 108 := Nat.lt_of_lt_of_le (v_rt (k := 1000) cb2.1.2.1 (by rw [v_cn, q4]; omega)) (v_tB (by decide))
      have h3 := W_ten (M := 108) h2 (by decide) m1
      have hv2 : qb.1 * 10 ^ a76.toNatClampNeg ≠ 0 := Int.mul_ne_zero hv (by have := v_t10 a76.toNatClampNeg; omega)
      generalize qb.1 * 10 ^ a76.toNatClampNeg = w at h3 hv2
      generalize F_Big_timesTen 220 a76 p127.1 p127.2.1 p127.2.2 = p150 at h3 ⊢
      unfold F_DW_rest_c101
      have s1 := h1.sB hBa
      have d := (W_divideBy (R3 := 220) (sq := t3_0) (nq := t3_1) (fq := t4_0) h1 h3 hv2 (by omega) (by omega) (by decide)).2
      generalize F_Big_divideBy 220 220 220 p96.1 p96.2.1 p96.2.2 p150.1 p150.2.1 p150.2.2 t3_0 t3_1 t4_0 = p195 at d ⊢
      unfold F_DW_rest_c125
      exact ⟨hj, d.1, hBa.tmodU⟩
  · rw [if_neg g]
    have g' := q_nleI g
    have z1 : (max qa.2 qb.2 - qb.2).toNat = 0 := by omega
    have z2 : (max qa.2 qb.2 - qa.2).toNat = a76.toInt.toNat := by
      rw [q4]
      omega
    have sE : (sRem qa qb).1 = (qa.1 * 10 ^ a76.toInt.toNat).tmod qb.1 := by
      unfold sRem
      rw [z1, z2, Int.pow_zero, Int.mul_one]
    rw [sE]
    have h2 := V_raiseBelow (x2 := a76) (t2_0 := t3_0) (t2_1 := t3_1) (t3_0 := t4_0) (t4_0 := t5_0) (t4_1 := t5_1) (t5_0 := t6_0) (t6_0 := t7_0) (t6_1 := t7_1) (t7_0 := t8_0) h1 hb1 hv hBa hBb (by omega) rfl
    generalize F_DW_raiseBelow a76 R2 p96.1 p96.2.1 p96.2.2 t3_0 t3_1 t4_0 t5_0 t5_1 t6_0 t7_0 t7_1 t8_0 t13_0 t13_1 t14_0 = p262 at h2 ⊢
    unfold F_DW_rest_c60
    exact ⟨hj, h2, hBb.tmod hv⟩
