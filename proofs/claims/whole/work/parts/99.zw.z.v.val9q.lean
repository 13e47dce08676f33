/-! values, for whole: the class's divideToPrecision -/
theorem dv_dn {a b z : Int} (b0 : b ≠ 0) : dvN a (z - 1) / dvU b (z - 1) = dvN a z / dvU b z / 10 ∧ (dvN a (z - 1) % dvU b (z - 1) = 0 ↔ (dvN a z % dvU b z = 0 ∧ dvN a z / dvU b z % 10 = 0)) := by
  have hB : 0 < (b.natAbs : Int) := by omega
  have hU : 0 < dvU b z := Int.mul_pos hB (u_pos _)
  have k1 : dvN a (z - 1) * 10 ^ ((-z).toNat + 1) = dvN a z * 10 ^ (-(z - 1)).toNat := by
    unfold dvN
    rw [show 10 * ((a.natAbs : Int) * 10 ^ (z - 1).toNat) * 10 ^ ((-z).toNat + 1) = 10 * (a.natAbs : Int) * (10 ^ (z - 1).toNat * 10 ^ ((-z).toNat + 1)) by ac_rfl, ← Int.pow_add, show (z - 1).toNat + ((-z).toNat + 1) = z.toNat + (-(z - 1)).toNat by omega, Int.pow_add]
    ac_rfl
  have k2 : dvU b (z - 1) * 10 ^ ((-z).toNat + 1) = (dvU b z * 10) * 10 ^ (-(z - 1)).toNat := by
    unfold dvU
    rw [u_pw]
    ac_rfl
  obtain ⟨s1, s2⟩ := s_sc (u_pos _) (u_pos _) k1 k2
  rw [s1, s2, ← Int.ediv_ediv_of_nonneg (Int.le_of_lt hU)]
  refine ⟨rfl, ?_⟩
  obtain ⟨nN, nU⟩ := dv_nat (a := a) (b := b) (z := z)
  rw [nU] at hU
  rw [nN, nU]
  generalize 10 * (a.natAbs * 10 ^ z.toNat) = N
  generalize b.natAbs * 10 ^ (-z).toNat = U at hU ⊢
  have hU' : 0 < U := Int.ofNat_lt.mp hU
  have h := n_modmul (x := N) (a := U) (b := 10) hU'
  have c1 : ((N : Int) % ((U : Int) * 10) = 0) ↔ N % (U * 10) = 0 := by
    have e : (N : Int) % ((U : Int) * 10) = ((N % (U * 10) : Nat) : Int) := by
      rw [Int.natCast_emod, Int.natCast_mul]
      rfl
    rw [e]
    exact Int.natCast_eq_zero
  have c2 : ((N : Int) % (U : Int) = 0) ↔ N % U = 0 := by
    rw [← Int.natCast_emod]
    exact Int.natCast_eq_zero
  have c3 : ((N : Int) / (U : Int) % 10 = 0) ↔ N / U % 10 = 0 := by
    rw [← Int.natCast_ediv]
    omega
  rw [c1, c2, c3]
  exact h
theorem dv_rng {a b z : Int} {ca cb p : Nat} (ha : vG a ca) (hb : vG b cb) (a0 : a ≠ 0) (b0 : b ≠ 0) (hz : z = (p : Int) - (ca : Int) + (cb : Int)) : (10 : Int) ^ p ≤ dvN a z / dvU b z ∧ dvN a z / dvU b z < 10 ^ (p + 2) := by
  obtain ⟨a1, a2⟩ := d_bdI ha a0
  obtain ⟨b1, b2⟩ := d_bdI hb b0
  have ca1 := ha.1.1
  have cb1 := hb.1.1
  have hB : 0 < (b.natAbs : Int) := by omega
  have hU : 0 < dvU b z := Int.mul_pos hB (u_pos _)
  have ea : (10 : Int) ^ ca = 10 ^ (ca - 1) * 10 := by
    obtain ⟨k, rfl⟩ : ∃ k, ca = k + 1 := ⟨ca - 1, by omega⟩
    rw [Nat.add_sub_cancel]
    exact u_pw k
  refine ⟨(Int.le_ediv_iff_mul_le hU).mpr ?_, Int.ediv_lt_of_lt_mul hU ?_⟩
  · have h1 : (10 : Int) ^ p * dvU b z ≤ 10 ^ (p + cb + (-z).toNat) := by
      unfold dvU
      rw [Int.pow_add, Int.pow_add, Int.mul_assoc]
      exact Int.mul_le_mul_of_nonneg_left (Int.mul_le_mul_of_nonneg_right (Int.le_of_lt b2) (Int.le_of_lt (u_pos _))) (Int.le_of_lt (u_pos _))
    have h2 : (10 : Int) ^ (ca + z.toNat) ≤ dvN a z := by
      unfold dvN
      rw [Int.pow_add, ← Int.mul_assoc]
      exact Int.mul_le_mul_of_nonneg_right (by omega) (Int.le_of_lt (u_pos _))
    rw [show p + cb + (-z).toNat = ca + z.toNat by omega] at h1
    exact Int.le_trans h1 h2
  · have h1 : dvN a z < 10 ^ (ca + 1 + z.toNat) := by
      unfold dvN
      rw [Int.pow_add, u_pw, ← Int.mul_assoc]
      exact Int.mul_lt_mul_of_pos_right (by omega) (u_pos _)
    have h2 : (10 : Int) ^ (p + 2 + (cb - 1) + (-z).toNat) ≤ 10 ^ (p + 2) * dvU b z := by
      unfold dvU
      rw [Int.pow_add, Int.pow_add, Int.mul_assoc]
      exact Int.mul_le_mul_of_nonneg_left (Int.mul_le_mul_of_nonneg_right b1 (Int.le_of_lt (u_pos _))) (Int.le_of_lt (u_pos _))
    rw [show p + 2 + (cb - 1) + (-z).toNat = ca + 1 + z.toNat by omega] at h2
    exact Int.lt_of_lt_of_le h1 h2
theorem b_sF {R s n : Int32} {f : Nat → Int32} {v : Int} (h : bO R s n f v) : n = sF v := by
  unfold sF
  rcases h.ngB with ⟨n0, vn⟩ | ⟨n1, vn⟩
  · rw [n0, if_neg vn]
  · rw [n1, if_pos vn]
/-- what is told of a quotient of p figures -/
def QV_q (p : Nat) (m : Int32) (qa qb : Int × Int) (c : Int32) (s : Int64) (a b : Int32) (f : Nat → Int32) : Prop := ∃ o, sQ p m qa qb o ∧ ((c = 0 ∧ o = none) ∨ (c = 1 ∧ ∃ q, o = some q ∧ s.toInt = q.2 ∧ bO 220 a b f q.1 ∧ bB 217 q.1))
theorem V_dt163 {R : Int32} {R2 : Int32} {x4 : Int32} {x5 : Int32} {t0_0 : Int64} {t0_1 : Int32} {t1_0 : Int32} {t1_1 : Int32} {t2_0 : (Nat → Int32)} {t3_0 : Int32} {t3_1 : Int32} {t4_0 : (Nat → Int32)} {t5_0 : Int32} {t5_1 : Int32} {t6_0 : (Nat → Int32)} {t7_0 : Int32} {t7_1 : Int32} {t8_0 : (Nat → Int32)} {t9_0 : Int32} {t9_1 : Int32} {t10_0 : Int32} {t10_1 : Int32} {t11_0 : (Nat → Int32)} {t12_0 : Int32} {t12_1 : Int32} {t13_0 : Int32} {t13_1 : Int32} {t14_0 : (Nat → Int32)} {j69 : Int64} {lx74 : Int32} {a102 : Int32} {p153 : (Int64 × Int32 × Int32 × Int32 × (Nat → Int32) × Int32 × Int32 × (Nat → Int32) × Int32 × Int32 × (Nat → Int32) × Int32 × Int32 × (Nat → Int32))} {j180 : Int64} {y109 : Int32} {y111 : Int32} {y112 : Int32} {f113 : (Nat → Int32)} {y116 : Int32} {y117 : Int32} {f118 : (Nat → Int32)} {y121 : Int32} {y122 : Int32} {f123 : (Nat → Int32)} {y126 : Int32} {y127 : Int32} {f128 : (Nat → Int32)} {p200 : (Int32 × Int32 × Int32 × (Nat → Int32))} {y190 : Int32} {y191 : Int32} {f192 : (Nat → Int32)} {lx213 : Int64} {lx214 : Int32} {lx215 : Int32} {lx216 : Int32} {lx217 : (Nat → Int32)} {lx246 : Int32} {qa qb : Int × Int} {z : Int} {p : Nat} (a0 : qa.1 ≠ 0) (b0 : qb.1 ≠ 0) (hw : -20000 ≤ qa.2 - qb.2 ∧ qa.2 - qb.2 ≤ 20000) (hz : -50000 ≤ z ∧ z ≤ 50000) (h69 : j69.toInt = qa.2 - qb.2) (h74 : lx74.toInt = (p : Int)) (hp1 : 1 ≤ p) (h4 : 0 ≤ x4.toInt ∧ x4.toInt ≤ 1000) (hP : p = qP x4) (h5 : 0 ≤ x5.toInt ∧ x5.toInt ≤ 7) (h213 : lx213.toInt = qa.2 - qb.2 + z) (h214 : lx214 = (if dvN qa.1 z % dvU qb.1 z = 0 then 0 else 1)) (hv : bO 220 lx215 lx216 lx217 (dvN qa.1 z / dvU qb.1 z)) (hM : bB 216 (dvN qa.1 z / dvU qb.1 z)) (r1 : (10 : Int) ^ p ≤ dvN qa.1 z / dvU qb.1 z) (r2 : dvN qa.1 z / dvU qb.1 z < 10 ^ (p + 1)) (i2 : bI 220 y190 y191 f192) (h246 : lx246 = sXor (sF qa.1) (sF qb.1)) : QV_q p (qM x4 x5) qa qb (F_DW_divideToPrecision_J163 R R2 x4 x5 t0_0 t0_1 t1_0 t1_1 t2_0 t3_0 t3_1 t4_0 t5_0 t5_1 t6_0 t7_0 t7_1 t8_0 t9_0 t9_1 t10_0 t10_1 t11_0 t12_0 t12_1 t13_0 t13_1 t14_0 j69 lx74 a102 p153 j180 y109 y111 y112 f113 y116 y117 f118 y121 y122 f123 y126 y127 f128 p200 y190 y191 f192 lx213 lx214 lx215 lx216 lx217 lx246).1 (F_DW_divideToPrecision_J163 R R2 x4 x5 t0_0 t0_1 t1_0 t1_1 t2_0 t3_0 t3_1 t4_0 t5_0 t5_1 t6_0 t7_0 t7_1 t8_0 t9_0 t9_1 t10_0 t10_1 t11_0 t12_0 t12_1 t13_0 t13_1 t14_0 j69 lx74 a102 p153 j180 y109 y111 y112 f113 y116 y117 f118 y121 y122 f123 y126 y127 f128 p200 y190 y191 f192 lx213 lx214 lx215 lx216 lx217 lx246).2.1 (F_DW_divideToPrecision_J163 R R2 x4 x5 t0_0 t0_1 t1_0 t1_1 t2_0 t3_0 t3_1 t4_0 t5_0 t5_1 t6_0 t7_0 t7_1 t8_0 t9_0 t9_1 t10_0 t10_1 t11_0 t12_0 t12_1 t13_0 t13_1 t14_0 j69 lx74 a102 p153 j180 y109 y111 y112 f113 y116 y117 f118 y121 y122 f123 y126 y127 f128 p200 y190 y191 f192 lx213 lx214 lx215 lx216 lx217 lx246).2.2.2.1 (F_DW_divideToPrecision_J163 R R2 x4 x5 t0_0 t0_1 t1_0 t1_1 t2_0 t3_0 t3_1 t4_0 t5_0 t5_1 t6_0 t7_0 t7_1 t8_0 t9_0 t9_1 t10_0 t10_1 t11_0 t12_0 t12_1 t13_0 t13_1 t14_0 j69 lx74 a102 p153 j180 y109 y111 y112 f113 y116 y117 f118 y121 y122 f123 y126 y127 f128 p200 y190 y191 f192 lx213 lx214 lx215 lx216 lx217 lx246).2.2.2.2.1 (F_DW_divideToPrecision_J163 R R2 x4 x5 t0_0 t0_1 t1_0 t1_1 t2_0 t3_0 t3_1 t4_0 t5_0 t5_1 t6_0 t7_0 t7_1 t8_0 t9_0 t9_1 t10_0 t10_1 t11_0 t12_0 t12_1 t13_0 t13_1 t14_0 j69 lx74 a102 p153 j180 y109 y111 y112 f113 y116 y117 f118 y121 y122 f123 y126 y127 f128 p200 y190 y191 f192 lx213 lx214 lx215 lx216 lx217 lx246).2.2.2.2.2.1 := by
  have e0 : (0 : Int32).toInt = 0 := rfl
  have g01 : lx246 = 0 ∨ lx246 = 1 := by
    rw [h246]
    exact sXor_01
  have key : ∀ (m : Int32) (y : Int32 × Int64 × Int32 × Int32 × Int32 × (Nat → Int32) × Int32 × Int32 × (Nat → Int32) × Int32 × Int32 × (Nat → Int32)), m = qM x4 x5 → 0 ≤ m.toInt ∧ m.toInt ≤ 7 → F_DW_shorten lx246 lx74 j69 m lx213 lx214 lx215 lx216 lx217 y121 y122 f123 y190 y191 f192 = y → QV_q p (qM x4 x5) qa qb y.1 y.2.1 y.2.2.2.1 y.2.2.2.2.1 y.2.2.2.2.2.1 := fun m y hm hm7 hy => by
    have h := V_shorten (x2 := lx246) (x3 := lx74) (x4 := j69) (x5 := m) (t0_0 := lx213) (t0_1 := lx214) (t3_0 := y121) (t3_1 := y122) (t4_0 := f123) (t5_0 := y190) (t5_1 := y191) (t6_0 := f192) (w := qa.2 - qb.2 + z) (wish := qa.2 - qb.2) (p := p) (M := 216) hv hM (by decide) g01 h74 hp1 h213 ⟨by omega, by omega⟩ h69 ⟨by omega, by omega⟩ hm7 r1 r2 i2
    rw [hy, hm, h246, h214] at h
    refine ⟨_, Or.inr (Or.inr ⟨b0, a0, z, r1, r2, rfl⟩), ?_⟩
    rcases h with ⟨c, o⟩ | ⟨c, q, o, q1, q2, q3⟩
    · rw [o]
      exact Or.inl ⟨c, rfl⟩
    · rw [o]
      exact Or.inr ⟨c, _, rfl, q1, q2, q3⟩
  unfold F_DW_divideToPrecision_J163
  by_cases c : x4 = 0
  · have c2 := congrArg Int32.toInt c
    rw [if_pos c]
    exact key 7 _ (if_pos c2).symm ⟨by decide, by decide⟩ rfl
  · have c2 : x4.toInt ≠ 0 := fun e => c (Int32.toInt_inj.mp e)
    rw [if_neg c]
    exact key x5 _ (if_neg c2).symm h5 rfl
theorem V_dt141 {R : Int32} {R2 : Int32} {x4 : Int32} {x5 : Int32} {t0_0 : Int64} {t0_1 : Int32} {t1_0 : Int32} {t1_1 : Int32} {t2_0 : (Nat → Int32)} {t3_0 : Int32} {t3_1 : Int32} {t4_0 : (Nat → Int32)} {t5_0 : Int32} {t5_1 : Int32} {t6_0 : (Nat → Int32)} {t7_0 : Int32} {t7_1 : Int32} {t8_0 : (Nat → Int32)} {t9_0 : Int32} {t9_1 : Int32} {t10_0 : Int32} {t10_1 : Int32} {t11_0 : (Nat → Int32)} {t12_0 : Int32} {t12_1 : Int32} {t13_0 : Int32} {t13_1 : Int32} {t14_0 : (Nat → Int32)} {j69 : Int64} {lx74 : Int32} {a102 : Int32} {p153 : (Int64 × Int32 × Int32 × Int32 × (Nat → Int32) × Int32 × Int32 × (Nat → Int32) × Int32 × Int32 × (Nat → Int32) × Int32 × Int32 × (Nat → Int32))} {j180 : Int64} {y109 : Int32} {y111 : Int32} {y112 : Int32} {f113 : (Nat → Int32)} {y116 : Int32} {y117 : Int32} {f118 : (Nat → Int32)} {y121 : Int32} {y122 : Int32} {f123 : (Nat → Int32)} {y126 : Int32} {y127 : Int32} {f128 : (Nat → Int32)} {p200 : (Int32 × Int32 × Int32 × (Nat → Int32))} {y190 : Int32} {y191 : Int32} {f192 : (Nat → Int32)} {lx213 : Int64} {lx214 : Int32} {lx215 : Int32} {lx216 : Int32} {lx217 : (Nat → Int32)} {qa qb : Int × Int} {z : Int} {p : Nat} (a0 : qa.1 ≠ 0) (b0 : qb.1 ≠ 0) (hw : -20000 ≤ qa.2 - qb.2 ∧ qa.2 - qb.2 ≤ 20000) (hz : -50000 ≤ z ∧ z ≤ 50000) (h69 : j69.toInt = qa.2 - qb.2) (h74 : lx74.toInt = (p : Int)) (hp1 : 1 ≤ p) (h4 : 0 ≤ x4.toInt ∧ x4.toInt ≤ 1000) (hP : p = qP x4) (h5 : 0 ≤ x5.toInt ∧ x5.toInt ≤ 7) (h213 : lx213.toInt = qa.2 - qb.2 + z) (h214 : lx214 = (if dvN qa.1 z % dvU qb.1 z = 0 then 0 else 1)) (hv : bO 220 lx215 lx216 lx217 (dvN qa.1 z / dvU qb.1 z)) (hM : bB 216 (dvN qa.1 z / dvU qb.1 z)) (r1 : (10 : Int) ^ p ≤ dvN qa.1 z / dvU qb.1 z) (r2 : dvN qa.1 z / dvU qb.1 z < 10 ^ (p + 1)) (i2 : bI 220 y190 y191 f192) (na : t10_1 = sF qa.1) (nb : y127 = sF qb.1) : QV_q p (qM x4 x5) qa qb (F_DW_divideToPrecision_J141 R R2 x4 x5 t0_0 t0_1 t1_0 t1_1 t2_0 t3_0 t3_1 t4_0 t5_0 t5_1 t6_0 t7_0 t7_1 t8_0 t9_0 t9_1 t10_0 t10_1 t11_0 t12_0 t12_1 t13_0 t13_1 t14_0 j69 lx74 a102 p153 j180 y109 y111 y112 f113 y116 y117 f118 y121 y122 f123 y126 y127 f128 p200 y190 y191 f192 lx213 lx214 lx215 lx216 lx217).1 (F_DW_divideToPrecision_J141 R R2 x4 x5 t0_0 t0_1 t1_0 t1_1 t2_0 t3_0 t3_1 t4_0 t5_0 t5_1 t6_0 t7_0 t7_1 t8_0 t9_0 t9_1 t10_0 t10_1 t11_0 t12_0 t12_1 t13_0 t13_1 t14_0 j69 lx74 a102 p153 j180 y109 y111 y112 f113 y116 y117 f118 y121 y122 f123 y126 y127 f128 p200 y190 y191 f192 lx213 lx214 lx215 lx216 lx217).2.1 (F_DW_divideToPrecision_J141 R R2 x4 x5 t0_0 t0_1 t1_0 t1_1 t2_0 t3_0 t3_1 t4_0 t5_0 t5_1 t6_0 t7_0 t7_1 t8_0 t9_0 t9_1 t10_0 t10_1 t11_0 t12_0 t12_1 t13_0 t13_1 t14_0 j69 lx74 a102 p153 j180 y109 y111 y112 f113 y116 y117 f118 y121 y122 f123 y126 y127 f128 p200 y190 y191 f192 lx213 lx214 lx215 lx216 lx217).2.2.2.1 (F_DW_divideToPrecision_J141 R R2 x4 x5 t0_0 t0_1 t1_0 t1_1 t2_0 t3_0 t3_1 t4_0 t5_0 t5_1 t6_0 t7_0 t7_1 t8_0 t9_0 t9_1 t10_0 t10_1 t11_0 t12_0 t12_1 t13_0 t13_1 t14_0 j69 lx74 a102 p153 j180 y109 y111 y112 f113 y116 y117 f118 y121 y122 f123 y126 y127 f128 p200 y190 y191 f192 lx213 lx214 lx215 lx216 lx217).2.2.2.2.1 (F_DW_divideToPrecision_J141 R R2 x4 x5 t0_0 t0_1 t1_0 t1_1 t2_0 t3_0 t3_1 t4_0 t5_0 t5_1 t6_0 t7_0 t7_1 t8_0 t9_0 t9_1 t10_0 t10_1 t11_0 t12_0 t12_1 t13_0 t13_1 t14_0 j69 lx74 a102 p153 j180 y109 y111 y112 f113 y116 y117 f118 y121 y122 f123 y126 y127 f128 p200 y190 y191 f192 lx213 lx214 lx215 lx216 lx217).2.2.2.2.2.1 := by
  unfold F_DW_divideToPrecision_J141
  by_cases s : t10_1 = y127
  · rw [if_pos s]
    refine V_dt163 a0 b0 hw hz h69 h74 hp1 h4 hP h5 h213 h214 hv hM r1 r2 i2 ?_
    unfold sXor
    rw [if_pos (by rw [← na, ← nb]; exact s)]
  · rw [if_neg s]
    refine V_dt163 a0 b0 hw hz h69 h74 hp1 h4 hP h5 h213 h214 hv hM r1 r2 i2 ?_
    unfold sXor
    rw [if_neg (by rw [← na, ← nb]; exact s)]
theorem V_dt52 {R : Int32} {R2 : Int32} {x4 : Int32} {x5 : Int32} {t0_0 : Int64} {t0_1 : Int32} {t1_0 : Int32} {t1_1 : Int32} {t2_0 : (Nat → Int32)} {t3_0 : Int32} {t3_1 : Int32} {t4_0 : (Nat → Int32)} {t5_0 : Int32} {t5_1 : Int32} {t6_0 : (Nat → Int32)} {t7_0 : Int32} {t7_1 : Int32} {t8_0 : (Nat → Int32)} {t9_0 : Int32} {t9_1 : Int32} {t10_0 : Int32} {t10_1 : Int32} {t11_0 : (Nat → Int32)} {t12_0 : Int32} {t12_1 : Int32} {t13_0 : Int32} {t13_1 : Int32} {t14_0 : (Nat → Int32)} {j69 : Int64} {lx74 : Int32} {qa qb : Int × Int} {p : Nat} (ha : dP R t10_0 t10_1 t11_0 t9_0 t9_1 qa) (hb : dP R2 t13_0 t13_1 t14_0 t12_0 t12_1 qb) (a0 : qa.1 ≠ 0) (b0 : qb.1 ≠ 0) (h69 : j69.toInt = qa.2 - qb.2) (h74 : lx74.toInt = (p : Int)) (hp1 : 1 ≤ p ∧ p ≤ 1000) (h4 : 0 ≤ x4.toInt ∧ x4.toInt ≤ 1000) (hP : p = qP x4) (h5 : 0 ≤ x5.toInt ∧ x5.toInt ≤ 7) (i7 : bI 220 t7_0 t7_1 t8_0) : QV_q p (qM x4 x5) qa qb (F_DW_divideToPrecision_J52 R R2 x4 x5 t0_0 t0_1 t1_0 t1_1 t2_0 t3_0 t3_1 t4_0 t5_0 t5_1 t6_0 t7_0 t7_1 t8_0 t9_0 t9_1 t10_0 t10_1 t11_0 t12_0 t12_1 t13_0 t13_1 t14_0 j69 lx74).1 (F_DW_divideToPrecision_J52 R R2 x4 x5 t0_0 t0_1 t1_0 t1_1 t2_0 t3_0 t3_1 t4_0 t5_0 t5_1 t6_0 t7_0 t7_1 t8_0 t9_0 t9_1 t10_0 t10_1 t11_0 t12_0 t12_1 t13_0 t13_1 t14_0 j69 lx74).2.1 (F_DW_divideToPrecision_J52 R R2 x4 x5 t0_0 t0_1 t1_0 t1_1 t2_0 t3_0 t3_1 t4_0 t5_0 t5_1 t6_0 t7_0 t7_1 t8_0 t9_0 t9_1 t10_0 t10_1 t11_0 t12_0 t12_1 t13_0 t13_1 t14_0 j69 lx74).2.2.2.1 (F_DW_divideToPrecision_J52 R R2 x4 x5 t0_0 t0_1 t1_0 t1_1 t2_0 t3_0 t3_1 t4_0 t5_0 t5_1 t6_0 t7_0 t7_1 t8_0 t9_0 t9_1 t10_0 t10_1 t11_0 t12_0 t12_1 t13_0 t13_1 t14_0 j69 lx74).2.2.2.2.1 (F_DW_divideToPrecision_J52 R R2 x4 x5 t0_0 t0_1 t1_0 t1_1 t2_0 t3_0 t3_1 t4_0 t5_0 t5_1 t6_0 t7_0 t7_1 t8_0 t9_0 t9_1 t10_0 t10_1 t11_0 t12_0 t12_1 t13_0 t13_1 t14_0 j69 lx74).2.2.2.2.2.1 := by
  obtain ⟨ha1, ⟨ca, ca1, ca2, ca3⟩, ha2, ha3, ha4⟩ := ha
  obtain ⟨hb1, ⟨cb, cb1, cb2, cb3⟩, hb2, hb3, hb4⟩ := hb
  have ca0 := ca2.1.1
  have cb0 := cb2.1.1
  have i1 : (lx74 + 1 : Int32).toInt = (p : Int) + 1 := q_addI h74 rfl (by omega) (by omega)
  have i2 : (lx74 + 1 - t9_1 : Int32).toInt = (p : Int) + 1 - ca := q_subI i1 ca1 (by omega) (by omega)
  have i3 : (lx74 + 1 - t9_1 + t12_1 : Int32).toInt = (p : Int) - ca + cb + 1 := by
    rw [q_addI i2 cb1 (by omega) (by omega)]
    omega
  obtain ⟨t1, t2⟩ := dv_rng (p := p) (z := (p : Int) - ca + cb) ca2 cb2 a0 b0 rfl
  have hm : qa.1.natAbs * 10 ^ (lx74 + 1 - t9_1 + t12_1 : Int32).toNatClampNeg < 2147483648 ^ 216 := by
    refine Nat.lt_of_lt_of_le (v_rt (k := 2001) ca2.1.2.1 ?_) (v_tB (by decide))
    rw [v_cn, i3]
    omega
  obtain ⟨r1, r2, r3, r4, r5⟩ := V_divideRaised (R := R) (R2 := R2) (x4 := lx74 + 1 - t9_1 + t12_1) (t0_0 := t0_0) (t0_1 := t0_1) (t1_0 := t1_0) (t1_1 := t1_1) (t2_0 := t2_0) (t3_0 := t3_0) (t3_1 := t3_1) (t4_0 := t4_0) (t5_0 := t5_0) (t5_1 := t5_1) (t6_0 := t6_0) (t7_0 := t9_0) (t7_1 := t9_1) (t10_0 := t12_0) (t10_1 := t12_1) (z := (p : Int) - ca + cb) (M := 216) ha1 hb1 b0 i3 ⟨by omega, by omega⟩ hm (by decide)
  unfold F_DW_divideToPrecision_J52
  generalize F_DW_divideRaised R R2 (lx74 + 1 - t9_1 + t12_1) t0_0 t0_1 t1_0 t1_1 t2_0 t3_0 t3_1 t4_0 t5_0 t5_1 t6_0 t9_0 t9_1 t10_0 t10_1 t11_0 t12_0 t12_1 t13_0 t13_1 t14_0 = y at r1 r2 r3 r4 r5 ⊢
  unfold F_DW_divideToPrecision_c75
  have e1 : (j69 + (lx74 + 1 - t9_1 + t12_1).toInt64 : Int64).toInt = qa.2 - qb.2 + ((p : Int) - ca + cb + 1) := q_addL h69 ((Int32.toInt_toInt64 _).trans i3) (by omega) (by omega)
  have e2 : (j69 + (lx74 + 1 - t9_1 + t12_1).toInt64 - 1 : Int64).toInt = qa.2 - qb.2 + ((p : Int) - ca + cb) := by
    rw [q_subL (y := 1) e1 rfl (by omega) (by omega)]
    omega
  generalize (j69 + (lx74 + 1 - t9_1 + t12_1).toInt64 - 1 : Int64) = sc at e2 ⊢
  generalize hz : (p : Int) - ca + cb = z at *
  obtain ⟨⟨d, d1, d2⟩, d3⟩ := V_countFigures r3 r4 (by decide) i7
  generalize F_Mil_countFigures 220 t7_0 t7_1 t8_0 y.2.2.1 y.2.2.2.1 y.2.2.2.2.1 = u at d1 d3 ⊢
  unfold F_DW_divideToPrecision_c101
  have na := b_sF ha1
  have nb := b_sF r5
  have t0 : 0 ≤ dvN qa.1 z / dvU qb.1 z := Int.le_trans (Int.le_of_lt (u_pos p)) t1
  have hd : d ≤ p + 1 ↔ dvN qa.1 z / dvU qb.1 z < 10 ^ (p + 1) := by
    rw [vG_le d2 (by omega)]
    constructor
    · intro h3
      have h4 := Int.ofNat_lt.mpr h3
      rw [Int.natCast_pow] at h4
      rw [← Int.natAbs_of_nonneg t0]
      exact h4
    · intro h3
      refine Int.ofNat_lt.mp ?_
      rw [Int.natCast_pow, Int.natAbs_of_nonneg t0]
      exact h3
  by_cases c : u.1 ≤ lx74 + 1
  · have c2 := q_leI c
    rw [if_pos c]
    exact V_dt141 a0 b0 (by omega) (by omega) h69 h74 hp1.1 h4 hP h5 e2 r2 r3 r4 t1 (hd.mp (by omega)) d3 na nb
  · have c2 := q_nleI c
    have big : (10 : Int) ^ (p + 1) ≤ dvN qa.1 z / dvU qb.1 z := by
      by_cases g : dvN qa.1 z / dvU qb.1 z < 10 ^ (p + 1)
      · have := hd.mpr g
        omega
      · omega
    obtain ⟨s1, s2⟩ := dv_dn (a := qa.1) (b := qb.1) (z := z) b0
    rw [if_neg c]
    obtain ⟨x, x1, x2, x3, x4', x5'⟩ := V_drop (x2 := 1) r3
    generalize F_Big_dropFigures 220 1 y.2.2.1 y.2.2.2.1 y.2.2.2.2.1 = v at x4' x5' ⊢
    unfold F_DW_divideToPrecision_c124
    have x1' : x.natAbs = (dvN qa.1 z / dvU qb.1 z).natAbs / 10 := x1
    have x0 := x2 t0
    have ex : x = dvN qa.1 (z - 1) / dvU qb.1 (z - 1) := by
      rw [s1]
      omega
    have f4 : v.1 = (if dvN qa.1 z / dvU qb.1 z % 10 = 0 then 0 else 1) := by
      rw [x4']
      refine r_co ?_ _ _
      show (dvN qa.1 z / dvU qb.1 z).natAbs % 10 = 0 ↔ _
      omega
    have st : (y.2.1 ||| v.1 : Int32) = (if dvN qa.1 (z - 1) % dvU qb.1 (z - 1) = 0 then 0 else 1) := by
      have y01 : y.2.1 = 0 ∨ y.2.1 = 1 := by
        rw [r2]
        split
        · exact Or.inl rfl
        · exact Or.inr rfl
      obtain ⟨o1, o2⟩ := v_oi2 y01
      rw [f4]
      by_cases c1 : dvN qa.1 z / dvU qb.1 z % 10 = 0
      · rw [if_pos c1, o1, r2]
        exact r_co ⟨fun h => s2.mpr ⟨h, c1⟩, fun h => (s2.mp h).1⟩ _ _
      · rw [if_neg c1, o2, if_neg (fun h => c1 (s2.mp h).2)]
    have e3 : (sc - 1 : Int64).toInt = qa.2 - qb.2 + (z - 1) := by
      rw [q_subL (y := 1) e2 rfl (by omega) (by omega)]
      omega
    have lo : (10 : Int) ^ p ≤ dvN qa.1 (z - 1) / dvU qb.1 (z - 1) := by
      rw [s1]
      rw [u_pw] at big
      omega
    have hi : dvN qa.1 (z - 1) / dvU qb.1 (z - 1) < 10 ^ (p + 1) := by
      rw [s1]
      rw [show p + 2 = p + 1 + 1 from rfl, u_pw] at t2
      omega
    refine V_dt141 (z := z - 1) a0 b0 (by omega) (by omega) h69 h74 hp1.1 h4 hP h5 e3 st (by rw [← ex]; exact x5') ?_ lo hi d3 na nb
    rw [← ex]
    exact r4.le (by omega)
theorem V_DW_divideToPrecision {R : Int32} {R2 : Int32} {x4 : Int32} {x5 : Int32} {t0_0 : Int64} {t0_1 : Int32} {t1_0 : Int32} {t1_1 : Int32} {t2_0 : (Nat → Int32)} {t3_0 : Int32} {t3_1 : Int32} {t4_0 : (Nat → Int32)} {t5_0 : Int32} {t5_1 : Int32} {t6_0 : (Nat → Int32)} {t7_0 : Int32} {t7_1 : Int32} {t8_0 : (Nat → Int32)} {t9_0 : Int32} {t9_1 : Int32} {t10_0 : Int32} {t10_1 : Int32} {t11_0 : (Nat → Int32)} {t12_0 : Int32} {t12_1 : Int32} {t13_0 : Int32} {t13_1 : Int32} {t14_0 : (Nat → Int32)} {qa qb : Int × Int} (ha : dP R t10_0 t10_1 t11_0 t9_0 t9_1 qa) (hb : dP R2 t13_0 t13_1 t14_0 t12_0 t12_1 qb) (b0 : qb.1 ≠ 0) (h4 : 0 ≤ x4.toInt ∧ x4.toInt ≤ 1000) (h5 : 0 ≤ x5.toInt ∧ x5.toInt ≤ 7) (i7 : bI 220 t7_0 t7_1 t8_0) : QV_q (qP x4) (qM x4 x5) qa qb (F_DW_divideToPrecision R R2 x4 x5 t0_0 t0_1 t1_0 t1_1 t2_0 t3_0 t3_1 t4_0 t5_0 t5_1 t6_0 t7_0 t7_1 t8_0 t9_0 t9_1 t10_0 t10_1 t11_0 t12_0 t12_1 t13_0 t13_1 t14_0).1 (F_DW_divideToPrecision R R2 x4 x5 t0_0 t0_1 t1_0 t1_1 t2_0 t3_0 t3_1 t4_0 t5_0 t5_1 t6_0 t7_0 t7_1 t8_0 t9_0 t9_1 t10_0 t10_1 t11_0 t12_0 t12_1 t13_0 t13_1 t14_0).2.1 (F_DW_divideToPrecision R R2 x4 x5 t0_0 t0_1 t1_0 t1_1 t2_0 t3_0 t3_1 t4_0 t5_0 t5_1 t6_0 t7_0 t7_1 t8_0 t9_0 t9_1 t10_0 t10_1 t11_0 t12_0 t12_1 t13_0 t13_1 t14_0).2.2.2.1 (F_DW_divideToPrecision R R2 x4 x5 t0_0 t0_1 t1_0 t1_1 t2_0 t3_0 t3_1 t4_0 t5_0 t5_1 t6_0 t7_0 t7_1 t8_0 t9_0 t9_1 t10_0 t10_1 t11_0 t12_0 t12_1 t13_0 t13_1 t14_0).2.2.2.2.1 (F_DW_divideToPrecision R R2 x4 x5 t0_0 t0_1 t1_0 t1_1 t2_0 t3_0 t3_1 t4_0 t5_0 t5_1 t6_0 t7_0 t7_1 t8_0 t9_0 t9_1 t10_0 t10_1 t11_0 t12_0 t12_1 t13_0 t13_1 t14_0).2.2.2.2.2.1 := by
  have ha' := ha
  have hb' := hb
  obtain ⟨ha1, _, ha2, ha3, ha4⟩ := ha'
  obtain ⟨hb1, _, hb2, hb3, hb4⟩ := hb'
  have h4c := q_clI (i := x4) rfl h4.1
  have e1 : (t9_0.toInt64 - t12_0.toInt64 : Int64).toInt = qa.2 - qb.2 := q_subL ((Int32.toInt_toInt64 _).trans ha2) ((Int32.toInt_toInt64 _).trans hb2) (by omega) (by omega)
  unfold F_DW_divideToPrecision
  by_cases c : t10_0 = 0
  · have a0 : qa.1 = 0 := ha1.nil.mp c
    rw [if_pos c]
    have hc := W_clear (R := 220) (R2 := 220) (s := t1_0) (n := t1_1) (f := t2_0) (by decide) (by decide)
    generalize F_Big_clear 220 t1_0 t1_1 = y at hc ⊢
    unfold F_DW_divideToPrecision_c30
    refine ⟨_, Or.inr (Or.inl ⟨b0, a0, rfl⟩), Or.inr ⟨rfl, _, rfl, e1, hc, ?_⟩⟩
    unfold bB
    exact Nat.pow_pos (by decide)
  · have a0 : qa.1 ≠ 0 := fun h => c (ha1.nil.mpr h)
    rw [if_neg c]
    by_cases d : x4 = 0
    · have d2 := congrArg Int32.toInt d
      have eP : qP x4 = 1000 := if_pos d2
      rw [if_pos d, eP]
      exact V_dt52 ha hb a0 b0 e1 rfl ⟨by decide, by decide⟩ h4 eP.symm h5 i7
    · have d2 : x4.toInt ≠ 0 := fun e => d (Int32.toInt_inj.mp e)
      have eP : qP x4 = x4.toNatClampNeg := if_neg d2
      rw [if_neg d, eP]
      exact V_dt52 ha hb a0 b0 e1 h4c.symm ⟨by omega, by omega⟩ h4 eP.symm h5 i7
