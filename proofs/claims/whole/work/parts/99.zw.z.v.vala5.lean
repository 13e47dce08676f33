/-! values, for whole: the class's Floats: nearestDecimal -/
theorem y_ten (k : Nat) : (10 : Nat) ^ k = 5 ^ k * 2 ^ k := by
  rw [← Nat.mul_pow]
theorem y_dq {a k sf : Nat} : yfT (-(sf : Int) - k) a (10 ^ k) = a * 2 ^ sf / 5 ^ k ∧ (yfR (-(sf : Int) - k) a (10 ^ k) = 0 ↔ a * 2 ^ sf % 5 ^ k = 0) := by
  unfold yfT yfR
  rw [show (-(-(sf : Int) - k)).toNat = sf + k by omega, show (-(sf : Int) - k).toNat = 0 by omega]
  refine yn_sc (x := 1) (y := 2 ^ k) (by decide) (Nat.pow_pos (by decide)) ?_ ?_
  · rw [Nat.mul_one, Nat.pow_add]
    ac_rfl
  · rw [Nat.pow_zero, Nat.mul_one, Nat.mul_one, y_ten]
theorem y_dm {a k : Nat} : yfT (k : Int) (a * 10 ^ k) 1 = a * 5 ^ k ∧ yfR (k : Int) (a * 10 ^ k) 1 = 0 := by
  unfold yfT yfR
  have e : a * 10 ^ k * 2 ^ (-(k : Int)).toNat = a * 5 ^ k * (1 * 2 ^ (k : Int).toNat) := by
    rw [show (-(k : Int)).toNat = 0 by omega, show ((k : Int)).toNat = k by omega, y_ten]
    grind
  have p : 0 < 1 * 2 ^ ((k : Int)).toNat := by
    rw [Nat.one_mul]
    exact Nat.pow_pos (by decide)
  rw [e]
  exact ⟨Nat.mul_div_cancel _ p, Nat.mul_mod_left _ _⟩
theorem yf_big {q : Int} {N D k m : Nat} (hq : 0 ≤ q) (hD : 0 < D) (h : D * 2 ^ k ≤ N) (hm : (m : Int) + q ≤ k) : 2 ^ m ≤ yfT q N D := by
  unfold yfT
  rw [show (-q).toNat = 0 by omega, Nat.pow_zero, Nat.mul_one]
  refine (Nat.le_div_iff_mul_le (Nat.mul_pos hD (Nat.pow_pos (by decide)))).mpr (Nat.le_trans ?_ h)
  rw [show 2 ^ m * (D * 2 ^ q.toNat) = D * (2 ^ m * 2 ^ q.toNat) by ac_rfl, ← Nat.pow_add]
  exact Nat.mul_le_mul_left _ (Nat.pow_le_pow_right (by decide) (by omega))
theorem yf_small {q : Int} {N D : Nat} (hq : q ≤ 0) (h : N * 2 ^ (-q).toNat < D) : yfT q N D = 0 := by
  unfold yfT
  rw [show q.toNat = 0 by omega, Nat.pow_zero, Nat.mul_one]
  exact Nat.div_eq_of_lt h
theorem y_400 : (2 : Nat) ^ 1100 ≤ 10 ^ 400 := by decide +kernel
/-- a decimal far above or below all floats -/
theorem yf_far {A B C : Int32} {P T : Nat} {l s : Int} {a c : Nat} (hF : yF A B C P T l) (h1 : 10 ^ (c - 1) ≤ a) (hc : 1 ≤ c) (h : 400 < (c : Int) - s) : yfRnd P T l (a * 10 ^ (-s).toNat) (10 ^ s.toNat) (T * 2 ^ P) := by
  obtain ⟨f1, f2, f3, f4, f5, f6, f7⟩ := hF.n
  have b : l + T - 1 - 1 + (P + 1) ≤ 1100 ∧ 0 ≤ l + T - 1 - 1 := by
    rcases hF with ⟨rfl, rfl, rfl, rfl, rfl, rfl⟩ | ⟨rfl, rfl, rfl, rfl, rfl, rfl⟩ <;> decide
  refine yfRnd_i (e := l + T - 1) (by omega) (by omega) (yf_big (k := 1100) (by omega) (Nat.pow_pos (by decide)) ?_ (by omega))
  refine Nat.le_trans (Nat.mul_le_mul_left _ y_400) (Nat.le_trans ?_ (Nat.mul_le_mul_right _ h1))
  rw [← Nat.pow_add, ← Nat.pow_add]
  exact Nat.pow_le_pow_right (by decide) (by omega)
theorem yf_nigh {A B C : Int32} {P T : Nat} {l s : Int} {a c : Nat} (hF : yF A B C P T l) (h1 : a < 10 ^ c) (h : (c : Int) - s < -399) : yfRnd P T l (a * 10 ^ (-s).toNat) (10 ^ s.toNat) 0 := by
  obtain ⟨f1, f2, f3, f4, f5, f6, f7⟩ := hF.n
  refine yfRnd_s (yf_small (by omega) ?_)
  rw [show (-s).toNat = 0 by omega, Nat.pow_zero, Nat.mul_one]
  have h2 : 2 ^ (-(l - 1)).toNat ≤ 10 ^ 400 := Nat.le_trans (Nat.pow_le_pow_right (by decide) (by omega)) y_400
  refine Nat.lt_of_lt_of_le (Nat.mul_lt_mul_of_lt_of_le h1 h2 (Nat.pow_pos (by decide))) ?_
  rw [← Nat.pow_add]
  exact Nat.pow_le_pow_right (by decide) (by omega)
theorem y_sizeP {R s n : Int32} {f : Nat → Int32} {v : Int} (h : bO R s n f v) : s ≤ 0 ↔ v = 0 := by
  rw [← h.nil]
  have h0 := h.s0
  constructor
  · intro c
    have := q_leI c
    have e0 : (0 : Int32).toInt = 0 := rfl
    exact Int32.toInt_inj.mp (by omega)
  · intro c
    rw [c]
    decide
/-- the bits of v / 10 ^ scale -/
theorem V_nearestDecimal {A : Int32} {B : Int32} {C : Int32} {R2 : Int32} {x3 : Int64} {t0_0 : Int32} {t0_1 : Int32} {t1_0 : (Nat → Int32)} {t2_0 : Int32} {t2_1 : Int32} {t3_0 : (Nat → Int32)} {t4_0 : Int32} {t4_1 : Int32} {t5_0 : (Nat → Int32)} {t6_0 : Int32} {t6_1 : Int32} {t7_0 : (Nat → Int32)} {t8_0 : Int32} {t8_1 : Int32} {t9_0 : (Nat → Int32)} {P T : Nat} {l s v : Int} (hF : yF A B C P T l) (h : bO R2 t8_0 t8_1 t9_0 v) (hv : v.natAbs < 10 ^ 1001) (hs : x3.toInt = s) (hsb : -100000000000000 ≤ s ∧ s ≤ 100000000000000) : QV_ne P T l (v.natAbs * 10 ^ (-s).toNat) (10 ^ s.toNat) (F_Flo_nearestDecimal A B C R2 x3 t0_0 t0_1 t1_0 t2_0 t2_1 t3_0 t4_0 t4_1 t5_0 t6_0 t6_1 t7_0 t8_0 t8_1 t9_0).1 := by
  obtain ⟨f1, f2, f3, f4, f5, f6, f7⟩ := hF.n
  have e := e220
  have e0 : (0 : Int32).toInt = 0 := rfl
  have l0 : (0 : Int64).toInt = 0 := rfl
  have l4 : (400 : Int64).toInt = 400 := rfl
  have l5 : (-400 : Int64).toInt = -400 := rfl
  have hB : bB 108 v := v_tBB hv (by decide)
  unfold F_Flo_nearestDecimal
  by_cases g0 : t8_0 = 0
  · rw [if_pos g0]
    have v0 := h.nil.mp g0
    refine ⟨0, rfl, ?_⟩
    rw [v0]
    show yfRnd P T l (0 * _) _ 0
    rw [Nat.zero_mul]
    exact yfRnd_0
  rw [if_neg g0]
  have v0 : v ≠ 0 := fun h9 => g0 (h.nil.mpr h9)
  obtain ⟨⟨c, c1, c2, c3, c4⟩, _⟩ := T_countFigures h hB (by decide) (show bI 220 t6_0 t6_1 t7_0 from trivial)
  have c5 : c ≤ 1001 := by
    have h1 := c4 v0
    have h2 : 10 ^ (c - 1) < 10 ^ 1001 := Nat.lt_of_le_of_lt h1 hv
    have h3 := (Nat.pow_lt_pow_iff_right (by decide)).mp h2
    omega
  generalize F_Mil_countFigures R2 t6_0 t6_1 t7_0 t8_0 t8_1 t9_0 = p62 at c1 ⊢
  unfold F_Flo_nearestDecimal_c14
  have q1 : (p62.1.toInt64 - x3 : Int64).toInt = (c : Int) - s := q_subL (q_i2l c1) hs (by omega) (by omega)
  by_cases g1 : 0 < lg_cmp (p62.1.toInt64 - x3) 400
  · rw [if_pos g1]
    have g1' := g_lc7 g1
    unfold F_Flo_infinity
    exact ⟨_, hF.sh (q_i2l f3) f7, yf_far hF (c4 v0) c2 (by omega)⟩
  rw [if_neg g1]
  have g1' := g_lc8 g1
  by_cases g2 : 0 ≤ lg_cmp (p62.1.toInt64 - x3) (-400)
  · rw [if_pos g2]
    have g2' := g_lc5 g2
    rw [q1] at g1' g2'
    have h1 : P1 220 v (F_Big_copy 220 R2 t0_0 t0_1 t1_0 t8_0 t8_1 t9_0) := W_copy h h.fit (by decide)
    generalize F_Big_copy 220 R2 t0_0 t0_1 t1_0 t8_0 t8_1 t9_0 = p112 at h1 ⊢
    unfold F_Flo_nearestDecimal_c68
    by_cases g3 : 0 < lg_cmp x3 0
    · rw [if_pos g3]
      have g3' := g_lc7 g3
      have h2 : P1 220 1 (F_Big_setLong 220 1 t2_0 t2_1 t3_0) := W_setLong (x := 1) (by decide) (by decide)
      generalize F_Big_setLong 220 1 t2_0 t2_1 t3_0 = p141 at h2 ⊢
      unfold F_Flo_nearestDecimal_c107
      have lx := s_l2i (x := x3) (by omega) (by omega)
      obtain ⟨k, hk0⟩ : ∃ k : Nat, s = (k : Int) := ⟨s.toNat, by omega⟩
      have hk : x3.toInt32.toNatClampNeg = k := by
        rw [v_cn, lx, hs]
        omega
      have m1 : (1 : Int).natAbs * 5 ^ x3.toInt32.toNatClampNeg < 2147483648 ^ 151 := by
        rw [hk, show (1 : Int).natAbs = 1 from rfl, Nat.one_mul]
        exact v_5le (by omega) (by omega)
      have h3 := W_five (M := 151) h2 (by decide) m1
      have d5 : ((1 : Int) * 5 ^ x3.toInt32.toNatClampNeg).natAbs = 5 ^ k := by
        rw [hk, Int.one_mul, Int.natAbs_pow]
        rfl
      have n3 : (1 : Int) * 5 ^ x3.toInt32.toNatClampNeg ≠ 0 := by
        have := v_t5 x3.toInt32.toNatClampNeg
        omega
      have b3 : bB 151 ((1 : Int) * 5 ^ x3.toInt32.toNatClampNeg) := by
        unfold bB
        rw [Int.natAbs_mul, Int.natAbs_pow]
        exact m1
      generalize (1 : Int) * 5 ^ x3.toInt32.toNatClampNeg = d at h3 n3 b3 d5
      generalize F_Big_timesFive 220 x3.toInt32 p141.1 p141.2.1 p141.2.2 = p166 at h3 ⊢
      unfold F_Flo_nearestDecimal_c114
      obtain ⟨bu, u1, u2, u3, u4⟩ := W_blen h1
      obtain ⟨u5, u6⟩ := u4 v0
      obtain ⟨bd, d1, d2, d3, d4⟩ := W_blen h3
      have sd := h3.sB b3
      have su := h1.sB hB
      have bdl : bd ≤ 31 * 151 := by
        have h5 := (d4 n3).2
        have h6 : 2 ^ (bd - 1) < 2 ^ (31 * 151) := by
          rw [Nat.pow_mul]
          exact Nat.lt_of_le_of_lt h5 b3
        have := (Nat.pow_lt_pow_iff_right (a := 2) (by decide)).mp h6
        omega
      have bul : bu ≤ 31 * 108 := by
        have h6 : 2 ^ (bu - 1) < 2 ^ (31 * 108) := by
          rw [Nat.pow_mul]
          exact Nat.lt_of_le_of_lt u6 hB
        have := (Nat.pow_lt_pow_iff_right (a := 2) (by decide)).mp h6
        omega
      have q2 : (F_Big_bitLength 220 p166.1 p166.2.1 p166.2.2 - F_Big_bitLength 220 p112.1 p112.2.1 p112.2.2 : Int32).toInt = (bd : Int) - bu := q_subI d1 u1 (by omega) (by omega)
      have q3 : (F_Big_bitLength 220 p166.1 p166.2.1 p166.2.2 - F_Big_bitLength 220 p112.1 p112.2.1 p112.2.2 + 70 : Int32).toInt = (bd : Int) - bu + 70 := q_addI q2 v_70 (by omega) (by omega)
      clear q2
      obtain ⟨sh, es⟩ := q_nm (F_Big_bitLength 220 p166.1 p166.2.1 p166.2.2 - F_Big_bitLength 220 p112.1 p112.2.1 p112.2.2 + 70 : Int32)
      rw [es] at q3 ⊢
      have hs9 : (if 0 < sh then sh else 0 : Int32).toInt = max 0 ((bd : Int) - bu + 70) := by
        split
        · rename_i h9
          have := q_ltI h9
          omega
        · rename_i h9
          have := q_nltI h9
          rw [e0]
          omega
      obtain ⟨sf, esf⟩ := q_nm (if 0 < sh then sh else 0 : Int32)
      rw [esf] at hs9 ⊢
      obtain ⟨f, hf⟩ : ∃ f : Nat, max 0 ((bd : Int) - bu + 70) = (f : Int) := ⟨(max 0 ((bd : Int) - bu + 70)).toNat, by omega⟩
      rw [hf] at hs9
      have fc : sf.toNatClampNeg = f := by
        rw [v_cn, hs9]
        omega
      obtain ⟨bu2, y1, -, -, -, y5⟩ := W_bl h1 v0
      have h4 := W_shl (x := sf) h1 (fun _ _ => by clear hv; omega)
      rw [fc] at h4
      have wa : (v * 2 ^ f).natAbs = v.natAbs * 2 ^ f := by
        rw [Int.natAbs_mul, Int.natAbs_pow]
        rfl
      have b4 : bB 160 (v * 2 ^ f) := by
        unfold bB
        rw [wa]
        have k1 : v.natAbs * 2 ^ f < 2 ^ bu * 2 ^ f := Nat.mul_lt_mul_of_pos_right u3 (Nat.pow_pos (by decide))
        rw [← Nat.pow_add] at k1
        have e3 : (2147483648 : Nat) ^ 160 = 2 ^ (31 * 160) := by rw [Nat.pow_mul]
        rw [e3]
        exact Nat.lt_of_lt_of_le k1 (Nat.pow_le_pow_right (by decide) (by omega))
      generalize v * 2 ^ f = w at h4 b4 wa
      generalize F_Big_shiftLeft 220 sf p112.1 p112.2.1 p112.2.2 = p215 at h4 ⊢
      have s4 := h4.sB b4
      unfold F_Flo_nearestDecimal_c141
      have dd := (W_divideBy (R3 := 220) (sq := t4_0) (nq := t4_1) (fq := t5_0) h4 h3 n3 (by omega) (by omega) (by decide)).2
      generalize F_Big_divideBy 220 220 220 p215.1 p215.2.1 p215.2.2 p166.1 p166.2.1 p166.2.2 t4_0 t4_1 t5_0 = p260 at dd ⊢
      obtain ⟨r1, r2, r3⟩ := dd
      have rz : w.tmod d = 0 ↔ v.natAbs * 2 ^ f % 5 ^ k = 0 := by
        have : (w.tmod d).natAbs = w.natAbs % d.natAbs := Int.natAbs_tmod _ _
        rw [wa, d5] at this
        omega
      rw [wa, d5] at r3
      obtain ⟨z1, z2⟩ := y_dq (a := v.natAbs) (k := k) (sf := f)
      have np : (-sf : Int32).toInt = -(f : Int) := q_negI hs9 (by omega)
      have pw : ((-sf : Int32).toInt64 - x3 : Int64).toInt = -(f : Int) - k := q_subL (q_i2l np) (by omega) (by omega) (by omega)
      have big : 2 ^ (P + 2) ≤ v.natAbs * 2 ^ f / 5 ^ k := by
        refine (Nat.le_div_iff_mul_le (Nat.pow_pos (by decide))).mpr ?_
        rw [d5] at d3
        have k1 : 2 ^ (P + 2) * 5 ^ k ≤ 2 ^ (P + 2) * 2 ^ bd := Nat.mul_le_mul_left _ (Nat.le_of_lt d3)
        have k2 : 2 ^ (bu - 1) * 2 ^ f ≤ v.natAbs * 2 ^ f := Nat.mul_le_mul_right _ u6
        rw [← Nat.pow_add] at k1 k2
        exact Nat.le_trans k1 (Nat.le_trans (Nat.pow_le_pow_right (by decide) (by omega)) k2)
      have nD : v.natAbs * 10 ^ (-s).toNat = v.natAbs ∧ 10 ^ s.toNat = 10 ^ k := by
        rw [show (-s).toNat = 0 by omega, show s.toNat = k by omega, Nat.pow_zero, Nat.mul_one]
        exact ⟨rfl, rfl⟩
      rw [nD.1, nD.2]
      unfold F_Flo_nearestDecimal_c155
      by_cases g4 : p260.1 ≤ 0
      · rw [if_pos g4]
        have rr := rz.mp ((y_sizeP r1).mp g4)
        exact V_nearest (v := v.natAbs * 2 ^ f / 5 ^ k) hF r3 (Int.natAbs_natCast _) pw ⟨by omega, by omega⟩ (Or.inl rfl) z1 ⟨fun _ => rfl, fun _ => z2.mpr rr⟩ (Or.inl rfl) (Nat.pow_pos (by decide))
      · rw [if_neg g4]
        have rr : ¬ v.natAbs * 2 ^ f % 5 ^ k = 0 := fun hh => g4 ((y_sizeP r1).mpr (rz.mpr hh))
        exact V_nearest (v := v.natAbs * 2 ^ f / 5 ^ k) hF r3 (Int.natAbs_natCast _) pw ⟨by omega, by omega⟩ (Or.inr rfl) z1 ⟨fun hh => absurd (z2.mp hh) rr, fun hh => absurd hh (by decide)⟩ (Or.inr big) (Nat.pow_pos (by decide))
    · rw [if_neg g3]
      have g3' := g_lc8 g3
      obtain ⟨k, hk0⟩ : ∃ k : Nat, s = -(k : Int) := ⟨(-s).toNat, by omega⟩
      have np : (-x3 : Int64).toInt = (k : Int) := by
        rw [Int64.toInt_neg, Int.bmod_eq_of_le (by omega) (by omega)]
        omega
      have lx := s_l2i (x := -x3) (by omega) (by omega)
      have hk : (-x3).toInt32.toNatClampNeg = k := by
        rw [v_cn, lx, np]
        omega
      have m1 : v.natAbs * 5 ^ (-x3).toInt32.toNatClampNeg < 2147483648 ^ 151 := by
        rw [hk]
        have k1 : v.natAbs * 5 ^ k ≤ v.natAbs * 10 ^ k := Nat.mul_le_mul_left _ (Nat.pow_le_pow_left (by decide) k)
        have k2 : v.natAbs * 10 ^ k < 10 ^ c * 10 ^ k := Nat.mul_lt_mul_of_pos_right c3 (Nat.pow_pos (by decide))
        rw [← Nat.pow_add] at k2
        have k3 : (10 : Nat) ^ (c + k) ≤ 10 ^ 400 := Nat.pow_le_pow_right (by decide) (by omega)
        have k4 : (10 : Nat) ^ 400 < 2147483648 ^ 151 := by decide +kernel
        exact Nat.lt_of_le_of_lt k1 (Nat.lt_of_lt_of_le k2 (Nat.le_trans k3 (Nat.le_of_lt k4)))
      have h3 := W_five (M := 151) h1 (by decide) m1
      rw [hk] at h3
      generalize F_Big_timesFive 220 (-x3).toInt32 p112.1 p112.2.1 p112.2.2 = p315 at h3 ⊢
      unfold F_Flo_nearestDecimal_c82
      obtain ⟨z1, z2⟩ := y_dm (a := v.natAbs) (k := k)
      rw [show (-s).toNat = k by omega, show s.toNat = 0 by omega]
      refine V_nearest (v := v.natAbs * 5 ^ k) hF h3 ?_ np ⟨by omega, by omega⟩ (Or.inl rfl) z1 ⟨fun _ => rfl, fun _ => z2⟩ (Or.inl rfl) (by decide)
      rw [Int.natAbs_mul, Int.natAbs_pow]
      rfl
  · rw [if_neg g2]
    have g2' := g_lc6 g2
    rw [q1] at g2'
    exact ⟨0, rfl, yf_nigh hF c3 (by omega)⟩
