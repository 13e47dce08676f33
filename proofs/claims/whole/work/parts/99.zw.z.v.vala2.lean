/-! values, for whole: floorDiv exactly; the class's DecimalWork: the square root -/
theorem q_xorS {x y : Int32} : (0 : Int32) ≤ (x ^^^ y : Int32) ↔ (0 ≤ x.toInt ↔ 0 ≤ y.toInt) := by
  rw [Int32.le_iff_toInt_le]
  have e : (x ^^^ y).toInt = (x.toBitVec ^^^ y.toBitVec).toInt := rfl
  have m : (x.toBitVec ^^^ y.toBitVec).msb = (x.toBitVec.msb ^^ y.toBitVec.msb) := BitVec.msb_xor
  rw [BitVec.msb_eq_toInt, BitVec.msb_eq_toInt, BitVec.msb_eq_toInt] at m
  have ex : x.toInt = x.toBitVec.toInt := rfl
  have ey : y.toInt = y.toBitVec.toInt := rfl
  rw [e, ex, ey, show (0 : Int32).toInt = 0 from rfl]
  generalize (x.toBitVec ^^^ y.toBitVec).toInt = c at m ⊢
  generalize x.toBitVec.toInt = a at m ⊢
  generalize y.toBitVec.toInt = b at m ⊢
  by_cases ha : a < 0 <;> by_cases hb : b < 0 <;> by_cases hc : c < 0 <;> simp_all <;> omega
theorem q_fd {x y : Int32} (hy : 1 < y.toInt) : (F_jMath_floorDiv_III x y).toInt = x.toInt / y.toInt := by
  have b1 := q_lo32 (x := x)
  have b2 := q_hi32 (x := x)
  have t1 := Int.tmod_add_mul_tdiv x.toInt y.toInt
  have d : (x / y : Int32).toInt = x.toInt.tdiv y.toInt := Int32.toInt_div_of_ne_right _ _ (fun h => by
    rw [h] at hy
    exact absurd hy (by decide))
  unfold F_jMath_floorDiv_III
  by_cases c : 0 ≤ x.toInt
  · rw [if_pos (q_xorS.mpr ⟨fun _ => by omega, fun _ => c⟩), d]
    exact Int.tdiv_eq_ediv_of_nonneg c
  · rw [if_neg (fun h => c ((q_xorS.mp h).mpr (by omega)))]
    have t2 : x.toInt.tdiv y.toInt = x.toInt / y.toInt + if y.toInt ∣ x.toInt then 0 else 1 := by
      rw [Int.tdiv_eq_ediv]
      have s1 : y.toInt.sign = 1 := Int.sign_eq_one_of_pos (by omega)
      rw [s1]
      by_cases h : y.toInt ∣ x.toInt
      · rw [if_pos (Or.inr h), if_pos h]
      · rw [if_neg (fun h2 => h2.elim c h), if_neg h]
    have f1 := Int.emod_add_mul_ediv x.toInt y.toInt
    have f2 := Int.emod_lt_of_pos x.toInt (show 0 < y.toInt by omega)
    have f3 := Int.emod_nonneg x.toInt (show y.toInt ≠ 0 by omega)
    have tn : x.toInt.tdiv y.toInt ≤ 0 := by
      have q2 : x.toInt / y.toInt < 0 := Int.ediv_neg_of_neg_of_pos (by omega) (by omega)
      rw [t2]
      split <;> omega
    have q : x.toInt ≤ x.toInt / y.toInt := by
      refine Int.le_ediv_of_mul_le (by omega) ?_
      have h := Int.mul_nonneg (show 0 ≤ -x.toInt by omega) (show 0 ≤ y.toInt - 1 by omega)
      grind
    have tle : x.toInt ≤ x.toInt.tdiv y.toInt * y.toInt ∧ x.toInt.tdiv y.toInt * y.toInt ≤ 0 := by
      have h := Int.mul_nonneg (show 0 ≤ -(x.toInt.tdiv y.toInt) by omega) (show 0 ≤ y.toInt by omega)
      refine ⟨?_, by grind⟩
      rw [t2]
      split
      · rename_i dv
        rw [Int.add_zero, Int.ediv_mul_cancel dv]
        exact Int.le_refl _
      · grind
    have e2 : ((x / y) * y : Int32).toInt = x.toInt.tdiv y.toInt * y.toInt := q_mulI d rfl (by omega) (by omega)
    by_cases g : ((x / y) * y : Int32) = x
    · rw [if_pos g, d]
      rw [g] at e2
      have dv : y.toInt ∣ x.toInt := ⟨x.toInt.tdiv y.toInt, by rw [Int.mul_comm]; exact e2⟩
      rw [t2, if_pos dv]
      omega
    · rw [if_neg g]
      have dv : ¬ y.toInt ∣ x.toInt := fun h => g (Int32.toInt_inj.mp (by rw [e2, Int.tdiv_mul_cancel h]))
      rw [t2, if_neg dv] at d
      have q2 : x.toInt / y.toInt < 0 := Int.ediv_neg_of_neg_of_pos (by omega) (by omega)
      rw [q_subI (y := 1) d (by decide) (by omega) (by omega)]
      omega
/-- the root of Y / M, cut, against Y and M -/
theorem rt_cls {Y M u ρ : Int} (hM : 0 < M) (hu : u = Y / M) (ρ0 : 0 ≤ ρ) (h1 : ρ * ρ ≤ u) (h2 : u < (ρ + 1) * (ρ + 1)) : ρ * ρ * M ≤ Y ∧ Y < (ρ + 1) * (ρ + 1) * M ∧ (ρ * ρ * M = Y ↔ (ρ * ρ = u ∧ Y % M = 0)) := by
  subst hu
  have f1 := Int.emod_add_mul_ediv Y M
  have f2 := Int.emod_lt_of_pos Y hM
  have f3 := Int.emod_nonneg Y (Int.ne_of_gt hM)
  refine ⟨(Int.le_ediv_iff_mul_le hM).mp h1, (Int.ediv_lt_iff_lt_mul hM).mp h2, fun h => ?_, fun h => ?_⟩
  · have e : Y / M = ρ * ρ := by
      rw [← h]
      exact Int.mul_ediv_cancel _ (Int.ne_of_gt hM)
    refine ⟨e.symm, ?_⟩
    rw [← h]
    exact Int.mul_emod_left _ _
  · rw [h.2] at f1
    rw [h.1, Int.mul_comm]
    omega
/-- how many figures the root has -/
theorem rt_fig {a s : Int} {p c : Nat} {Y M : Int} {zp zn : Nat} (ha : vG a c) (a0 : 0 < a) (hz : (zp : Int) - (zn : Int) = 2 * ((p : Int) - 1 - ((c : Int) - 1 - s) / 2 + 1) - s) (hY : Y = a * 10 ^ zp) (hM : M = 10 ^ zn) : (10 : Int) ^ p * 10 ^ p * M ≤ Y ∧ Y < (10 : Int) ^ (p + 1) * 10 ^ (p + 1) * M := by
  obtain ⟨b1, b2⟩ := d_bdI ha (by omega)
  rw [Int.natAbs_of_nonneg (by omega)] at b1 b2
  have c1 : 1 ≤ c := ha.1.1
  subst hY hM
  rw [← Int.pow_add, ← Int.pow_add, ← Int.pow_add, ← Int.pow_add]
  constructor
  · refine Int.le_trans ?_ (Int.mul_le_mul_of_nonneg_right b1 (Int.le_of_lt (u_pos zp)))
    rw [← Int.pow_add]
    exact u_pwle (by omega)
  · refine Int.lt_of_lt_of_le (Int.mul_lt_mul_of_pos_right b2 (u_pos zp)) ?_
    rw [← Int.pow_add]
    exact u_pwle (by omega)
def QV_sr (p : Nat) (m : Int32) (qa : Int × Int) (c : Int32) (s : Int64) (a b : Int32) (f : Nat → Int32) : Prop := ∃ o, sRt p m qa o ∧ ((c = 0 ∧ o = none) ∨ (c = 1 ∧ ∃ q, o = some q ∧ s.toInt = q.2 ∧ bO 220 a b f q.1 ∧ bB 217 q.1))
theorem sr_bo {x y : Int32} (hx : x = 0 ∨ x = 1) (hy : y = 0 ∨ y = 1) : (x ||| y = 0 ∨ x ||| y = 1) ∧ (x ||| y = 0 ↔ (x = 0 ∧ y = 0)) := by
  rcases hx with rfl | rfl <;> rcases hy with rfl | rfl <;> decide
theorem V_DW_squareRoot {R : Int32} {x3 : Int32} {x4 : Int32} {t0_0 : Int64} {t0_1 : Int32} {t1_0 : Int32} {t1_1 : Int32} {t2_0 : (Nat → Int32)} {t3_0 : Int32} {t3_1 : Int32} {t4_0 : (Nat → Int32)} {t5_0 : Int32} {t5_1 : Int32} {t6_0 : (Nat → Int32)} {t7_0 : Int32} {t7_1 : Int32} {t8_0 : (Nat → Int32)} {t9_0 : Int32} {t9_1 : Int32} {t10_0 : (Nat → Int32)} {t11_0 : Int32} {t11_1 : Int32} {t12_0 : (Nat → Int32)} {t13_0 : Int32} {t13_1 : Int32} {t14_0 : (Nat → Int32)} {t15_0 : Int32} {t15_1 : Int32} {t16_0 : (Nat → Int32)} {t17_0 : Int32} {t17_1 : Int32} {t18_0 : Int32} {t18_1 : Int32} {t19_0 : (Nat → Int32)} {qa : Int × Int} {p : Nat} (ha : dP R t18_0 t18_1 t19_0 t17_0 t17_1 qa) (a0 : 0 ≤ qa.1) (hp : x3.toInt = (p : Int)) (hp1 : 1 ≤ p ∧ p ≤ 1000) (h4m : 0 ≤ x4.toInt ∧ x4.toInt ≤ 7) (i7 : bI 220 t15_0 t15_1 t16_0) : QV_sr p x4 qa (F_DW_squareRoot R x3 x4 t0_0 t0_1 t1_0 t1_1 t2_0 t3_0 t3_1 t4_0 t5_0 t5_1 t6_0 t7_0 t7_1 t8_0 t9_0 t9_1 t10_0 t11_0 t11_1 t12_0 t13_0 t13_1 t14_0 t15_0 t15_1 t16_0 t17_0 t17_1 t18_0 t18_1 t19_0).1 (F_DW_squareRoot R x3 x4 t0_0 t0_1 t1_0 t1_1 t2_0 t3_0 t3_1 t4_0 t5_0 t5_1 t6_0 t7_0 t7_1 t8_0 t9_0 t9_1 t10_0 t11_0 t11_1 t12_0 t13_0 t13_1 t14_0 t15_0 t15_1 t16_0 t17_0 t17_1 t18_0 t18_1 t19_0).2.1 (F_DW_squareRoot R x3 x4 t0_0 t0_1 t1_0 t1_1 t2_0 t3_0 t3_1 t4_0 t5_0 t5_1 t6_0 t7_0 t7_1 t8_0 t9_0 t9_1 t10_0 t11_0 t11_1 t12_0 t13_0 t13_1 t14_0 t15_0 t15_1 t16_0 t17_0 t17_1 t18_0 t18_1 t19_0).2.2.2.1 (F_DW_squareRoot R x3 x4 t0_0 t0_1 t1_0 t1_1 t2_0 t3_0 t3_1 t4_0 t5_0 t5_1 t6_0 t7_0 t7_1 t8_0 t9_0 t9_1 t10_0 t11_0 t11_1 t12_0 t13_0 t13_1 t14_0 t15_0 t15_1 t16_0 t17_0 t17_1 t18_0 t18_1 t19_0).2.2.2.2.1 (F_DW_squareRoot R x3 x4 t0_0 t0_1 t1_0 t1_1 t2_0 t3_0 t3_1 t4_0 t5_0 t5_1 t6_0 t7_0 t7_1 t8_0 t9_0 t9_1 t10_0 t11_0 t11_1 t12_0 t13_0 t13_1 t14_0 t15_0 t15_1 t16_0 t17_0 t17_1 t18_0 t18_1 t19_0).2.2.2.2.2.1 := by
  have e := e220
  have e2 : (2 : Int32).toInt = 2 := rfl
  obtain ⟨ha1, ⟨ca, ca1, ca2, ca3⟩, hs, hs2⟩ := ha
  have c1' := ca2.1.1
  have fw := q_fd (x := t17_0) (y := 2) (by decide)
  rw [hs, e2] at fw
  unfold F_DW_squareRoot
  by_cases g : t18_0 = 0
  · rw [if_pos g]
    have h1 : bO 220 (F_Big_clear 220 t1_0 t1_1).1 (F_Big_clear 220 t1_0 t1_1).2 t2_0 0 := W_clear (by decide) (by decide)
    have z : qa.1 = 0 := (ha1.nil).mp g
    refine ⟨_, Or.inr (Or.inl ⟨z, rfl⟩), Or.inr ⟨rfl, _, rfl, ?_, h1, by show 0 < 2147483648 ^ 217; decide⟩⟩
    show (F_jMath_floorDiv_III t17_0 2).toInt64.toInt = _
    rw [Int32.toInt_toInt64, fw]
  rw [if_neg g]
  have ap : 0 < qa.1 := by
    have : qa.1 ≠ 0 := fun z => g ((ha1.nil).mpr z)
    omega
  have q1 : (t17_1 - 1 : Int32).toInt = (ca : Int) - 1 := q_subI ca1 v_e1 (by omega) (by omega)
  have q2 : (t17_1 - 1 - t17_0 : Int32).toInt = (ca : Int) - 1 - qa.2 := q_subI q1 hs (by omega) (by omega)
  have q3 := q_fd (x := t17_1 - 1 - t17_0) (y := 2) (by decide)
  rw [q2, e2] at q3
  clear q1 q2
  have h1 : P1 220 qa.1 (F_Big_copy 220 R t1_0 t1_1 t2_0 t18_0 t18_1 t19_0) := W_copy ha1 ha1.fit (by decide)
  generalize F_Big_copy 220 R t1_0 t1_1 t2_0 t18_0 t18_1 t19_0 = p133 at h1 ⊢
  generalize F_jMath_floorDiv_III (t17_1 - 1 - t17_0) 2 = fd at q3 ⊢
  generalize F_jMath_floorDiv_III t17_0 2 = a84 at fw ⊢
  have q4 : (x3 - 1 : Int32).toInt = (p : Int) - 1 := q_subI hp v_e1 (by omega) (by omega)
  have q5 : (x3 - 1 - fd : Int32).toInt = (p : Int) - 1 - ((ca : Int) - 1 - qa.2) / 2 := q_subI q4 q3 (by omega) (by omega)
  clear q4
  have w2 : -20000 ≤ (p : Int) - 1 - ((ca : Int) - 1 - qa.2) / 2 ∧ (p : Int) - 1 - ((ca : Int) - 1 - qa.2) / 2 ≤ 20000 := by omega
  obtain ⟨w, hw⟩ : ∃ w, (p : Int) - 1 - ((ca : Int) - 1 - qa.2) / 2 = w := ⟨_, rfl⟩
  rw [hw] at q5 w2
  have j1 : ((x3 - 1 - fd : Int32).toInt64).toInt = w := q_i2l q5
  have q6 : ((x3 - 1 - fd : Int32).toInt64.toInt32).toInt = w := by
    rw [s_l2i (by omega) (by omega), j1]
  generalize (x3 - 1 - fd : Int32).toInt64 = j104 at j1 q6 ⊢
  clear q5
  have q7 : (j104.toInt32 + 1 : Int32).toInt = w + 1 := q_addI q6 v_e1 (by omega) (by omega)
  have q8 : (2 * (j104.toInt32 + 1) : Int32).toInt = 2 * (w + 1) := q_mulI e2 q7 (by omega) (by omega)
  have q9 : (2 * (j104.toInt32 + 1) - t17_0 : Int32).toInt = rtZ qa w := q_subI q8 hs (by omega) (by omega)
  generalize (2 * (j104.toInt32 + 1) - t17_0 : Int32) = a116 at q9 ⊢
  clear q6 q7 q8
  have zb : rtZ qa w = 2 * (w + 1) - qa.2 := rfl
  have en : (-a116 : Int32).toInt = -rtZ qa w := q_negI q9 (by omega)
  have zp : a116.toNatClampNeg = (rtZ qa w).toNat := by rw [v_cn, q9]
  unfold F_DW_squareRoot_c90
  have m1 := v_rf (va := qa.1) (x := a116) ca2.1.2.1 ca3 (by omega)
  rw [zp] at m1
  have h2 := W_ten (M := 215) (x := a116) h1 (by decide) (by rw [zp]; exact m1)
  rw [zp] at h2
  have b2 := v_abT m1
  generalize F_Big_timesTen 220 a116 p133.1 p133.2.1 p133.2.2 = p156 at h2 ⊢
  unfold F_DW_squareRoot_c102
  obtain ⟨u, u1, u2, u3, u4, u5⟩ := V_drop (x2 := -a116) h2
  have Y0 : 0 ≤ qa.1 * 10 ^ (rtZ qa w).toNat := Int.mul_nonneg a0 (Int.le_of_lt (u_pos _))
  have bu : bB 215 u := b2.le (by rw [u1]; exact Nat.div_le_self _ _)
  have un := u2 Y0
  rw [en] at u1 u4
  obtain ⟨f1, f2⟩ := rt_fig (p := p) (s := qa.2) (Y := qa.1 * 10 ^ (rtZ qa w).toNat) (M := 10 ^ (-rtZ qa w).toNat) ca2 ap (by omega) rfl rfl
  generalize F_Big_dropFigures 220 (-a116) p156.1 p156.2.1 p156.2.2 = p185 at u4 u5 ⊢
  have M0 := u_pos (-rtZ qa w).toNat
  have mN : (10 : Int) ^ (-rtZ qa w).toNat = ((10 ^ (-rtZ qa w).toNat : Nat) : Int) := by
    rw [Int.natCast_pow]
    rfl
  obtain ⟨Y, hY⟩ : ∃ Y, qa.1 * 10 ^ (rtZ qa w).toNat = Y := ⟨_, rfl⟩
  have hT : rtT qa w = fun t => 0 ≤ t ∧ t * t * 10 ^ (-rtZ qa w).toNat ≤ Y ∧ Y < (t + 1) * (t + 1) * 10 ^ (-rtZ qa w).toNat := by
    unfold rtT
    rw [hY]
  have hX : rtX qa w = fun t => t * t * 10 ^ (-rtZ qa w).toNat = Y := by
    unfold rtX
    rw [hY]
  rw [hY] at u1 u4 f1 f2 Y0
  have uE : u = Y / 10 ^ (-rtZ qa w).toNat := by
    rw [mN]
    have : (u.natAbs : Int) = ((Y.natAbs / 10 ^ (-rtZ qa w).toNat : Nat) : Int) := by rw [u1]
    rw [Int.natCast_ediv, Int.natAbs_of_nonneg un, Int.natAbs_of_nonneg Y0] at this
    exact this
  have rE : Y.natAbs % 10 ^ (-rtZ qa w).toNat = 0 ↔ Y % 10 ^ (-rtZ qa w).toNat = 0 := by
    rw [mN]
    have : ((Y.natAbs % 10 ^ (-rtZ qa w).toNat : Nat) : Int) = Y % ((10 ^ (-rtZ qa w).toNat : Nat) : Int) := by
      rw [Int.natCast_emod, Int.natAbs_of_nonneg Y0]
    omega
  have l1 : (p185.1 = 0 ∨ p185.1 = 1) ∧ (p185.1 = 0 ↔ Y % 10 ^ (-rtZ qa w).toNat = 0) := by
    rw [u4, ← rE]
    by_cases c : Y.natAbs % 10 ^ (-rtZ qa w).toNat = 0
    · rw [if_pos c]
      exact ⟨Or.inl rfl, fun _ => c, fun _ => rfl⟩
    · rw [if_neg c]
      exact ⟨Or.inr rfl, fun h => absurd h (by decide), fun h => absurd h c⟩
  unfold F_DW_squareRoot_c116
  obtain ⟨ρ, hρ⟩ := nw_ex 1 u.natAbs
  have r := (V_root (x3 := 2) (t0_0 := t7_0) (t0_1 := t7_1) (t1_0 := t8_0) (t2_0 := t5_0) (t2_1 := t5_1) (t3_0 := t6_0) (t4_0 := t9_0) (t4_1 := t9_1) (t5_0 := t10_0) (t6_0 := t11_0) (t6_1 := t11_1) (t7_0 := t12_0) (t8_0 := t13_0) (t8_1 := t13_1) (t9_0 := t14_0) (t10_0 := t3_0) (t10_1 := t3_1) (t11_0 := t4_0) (nn := 1) u5 un bu (by decide) (by decide) rfl (by decide) hρ).2.1
  generalize F_Mil_root 220 2 t7_0 t7_1 t8_0 t5_0 t5_1 t6_0 t9_0 t9_1 t10_0 t11_0 t11_1 t12_0 t13_0 t13_1 t14_0 t3_0 t3_1 t4_0 p185.2.1 p185.2.2.1 p185.2.2.2 = p260 at r ⊢
  obtain ⟨n1, n2⟩ := hρ
  have s1 : (ρ : Int) * (ρ : Int) ≤ u := by
    have : ρ ^ (1 + 1) = ρ * ρ := Nat.pow_two ρ
    rw [this] at n1
    have h := Int.ofNat_le.mpr n1
    rw [Int.natCast_mul, Int.natAbs_of_nonneg un] at h
    exact h
  have s2 : u < ((ρ : Int) + 1) * ((ρ : Int) + 1) := by
    have : (ρ + 1) ^ (1 + 1) = (ρ + 1) * (ρ + 1) := Nat.pow_two _
    rw [this] at n2
    have h := Int.ofNat_lt.mpr n2
    rw [Int.natCast_mul, Int.natAbs_of_nonneg un] at h
    exact h
  obtain ⟨k1, k2, k3⟩ := rt_cls M0 uE (by omega) s1 s2
  have t1 : (10 : Int) ^ p ≤ (ρ : Int) := by
    refine rt_lt (Int.le_of_lt (u_pos p)) (by omega) ?_
    exact Int.lt_of_mul_lt_mul_right (Int.lt_of_le_of_lt f1 k2) (Int.le_of_lt M0)
  have t2 : (ρ : Int) < 10 ^ (p + 1) := by
    have h := Int.lt_of_mul_lt_mul_right (Int.lt_of_le_of_lt k1 f2) (Int.le_of_lt M0)
    rcases Int.lt_or_le (ρ : Int) (10 ^ (p + 1)) with c | c
    · exact c
    · exfalso
      exact absurd (Int.lt_of_lt_of_le h (Int.mul_le_mul c c (Int.le_of_lt (u_pos _)) (by omega))) (Int.lt_irrefl _)
  have rB : bB 108 (ρ : Int) := by
    show ((ρ : Int)).natAbs < 2147483648 ^ 108
    have h3 : ((10 : Int) ^ (p + 1)) ≤ 10 ^ 1001 := u_pwle (by omega)
    have h4 : (10 ^ 1001 : Nat) < 2147483648 ^ 108 := by decide +kernel
    have h5 : ((ρ : Nat) : Int) < ((10 ^ 1001 : Nat) : Int) := by
      rw [Int.natCast_pow]
      exact Int.lt_of_lt_of_le t2 h3
    have h6 := Int.ofNat_lt.mp h5
    rw [Int.natAbs_natCast]
    exact Nat.lt_trans h6 h4
  have sr := r.sB rB
  unfold F_DW_squareRoot_c134
  have h3 : P1 220 ((ρ : Int) * (ρ : Int)) (F_Big_product 220 220 220 p260.2.2.2.2.2.2.2.2.2.1 p260.2.2.2.2.2.2.2.2.2.2.1 p260.2.2.2.2.2.2.2.2.2.2.2.1 p260.1 p260.2.1 p260.2.2.1 p260.1 p260.2.1 p260.2.2.1) := W_product r r (by decide) (by omega)
  generalize F_Big_product 220 220 220 p260.2.2.2.2.2.2.2.2.2.1 p260.2.2.2.2.2.2.2.2.2.2.1 p260.2.2.2.2.2.2.2.2.2.2.2.1 p260.1 p260.2.1 p260.2.2.1 p260.1 p260.2.1 p260.2.2.1 = p298 at h3 ⊢
  unfold F_DW_squareRoot_c158
  have cm := W_cmpE h3 u5
  have cE : ((ρ : Int) * (ρ : Int)).natAbs = u.natAbs ↔ (ρ : Int) * (ρ : Int) = u := by
    have := Int.mul_nonneg (show (0 : Int) ≤ (ρ : Int) by omega) (show (0 : Int) ≤ (ρ : Int) by omega)
    omega
  have fin : ∀ b : Int32, (b = 0 ∨ b = 1) → (b = 0 ↔ (ρ : Int) * (ρ : Int) = u) → ∀ y, F_DW_shorten 0 x3 a84.toInt64 x4 j104 (p185.1 ||| b) (F_Big_copy 220 220 p185.2.1 p185.2.2.1 p185.2.2.2 p260.1 p260.2.1 p260.2.2.1).1 (F_Big_copy 220 220 p185.2.1 p185.2.2.1 p185.2.2.2 p260.1 p260.2.1 p260.2.2.1).2.1 (F_Big_copy 220 220 p185.2.1 p185.2.2.1 p185.2.2.2 p260.1 p260.2.1 p260.2.2.1).2.2 p298.1 p298.2.1 p298.2.2 t15_0 t15_1 t16_0 = y → QV_sr p x4 qa y.1 y.2.1 y.2.2.2.1 y.2.2.2.2.1 y.2.2.2.2.2.1 := fun b hb hbE y hy => by
    subst hy
    obtain ⟨o1, o2⟩ := sr_bo l1.1 hb
    have h4 := W_copy (R := 220) (s := p185.2.1) (neg := p185.2.2.1) (f := p185.2.2.2) r r.fit (by decide)
    generalize F_Big_copy 220 220 p185.2.1 p185.2.2.1 p185.2.2.2 p260.1 p260.2.1 p260.2.2.1 = p363 at h4 ⊢
    have hsr : sRt p x4 qa ((sSht x4 0 (p185.1 ||| b) p (ρ : Int) (qa.2 / 2) w).map (fun q => (sgI 0 q.1, q.2))) := by
      refine Or.inr (Or.inr ⟨ap, w, (ρ : Int), _, ?_, t1, t2, o1, ?_, rfl⟩)
      · rw [hT]
        exact ⟨by omega, k1, k2⟩
      · rw [hX, o2, l1.2, hbE]
        show _ ↔ (ρ : Int) * (ρ : Int) * 10 ^ (-rtZ qa w).toNat = Y
        rw [k3]
        exact ⟨fun h => ⟨h.2, h.1⟩, fun h => ⟨h.2, h.1⟩⟩
    have wi : a84.toInt64.toInt = qa.2 / 2 := by
      rw [Int32.toInt_toInt64, fw]
    have sh := V_shorten (x2 := 0) (x3 := x3) (x4 := a84.toInt64) (x5 := x4) (t0_0 := j104) (t0_1 := p185.1 ||| b) (t3_0 := p298.1) (t3_1 := p298.2.1) (t4_0 := p298.2.2) (w := w) (wish := qa.2 / 2) h4 rB (by decide) (Or.inl rfl) hp hp1.1 j1 ⟨by omega, by omega⟩ wi ⟨by omega, by omega⟩ h4m t1 t2 i7
    refine ⟨_, hsr, ?_⟩
    rcases sh with ⟨x1, x2⟩ | ⟨x1, q, x2, x3, x4, x5⟩
    · refine Or.inl ⟨x1, ?_⟩
      rw [x2]
      rfl
    · refine Or.inr ⟨x1, _, ?_, x3, x4, x5⟩
      rw [x2]
      rfl
  by_cases c : F_Big_compareSize 220 220 p298.1 p298.2.1 p298.2.2 p185.2.1 p185.2.2.1 p185.2.2.2 = 0
  · rw [if_pos c]
    unfold F_DW_squareRoot_J191 F_DW_squareRoot_c209 F_DW_squareRoot_c219
    refine fin 0 (Or.inl rfl) ⟨fun _ => ?_, fun _ => rfl⟩ _ rfl
    rcases cm with ⟨_, z⟩ | ⟨z, _⟩ | ⟨z, _⟩
    · exact cE.mp z
    · rw [c] at z
      exact absurd z (by decide)
    · rw [c] at z
      exact absurd z (by decide)
  · rw [if_neg c]
    unfold F_DW_squareRoot_J191 F_DW_squareRoot_c209 F_DW_squareRoot_c219
    refine fin 1 (Or.inr rfl) ⟨fun h => absurd h (by decide), fun h => ?_⟩ _ rfl
    rcases cm with ⟨z, _⟩ | ⟨_, z⟩ | ⟨_, z⟩
    · exact absurd z c
    · have := cE.mpr h
      omega
    · have := cE.mpr h
      omega
