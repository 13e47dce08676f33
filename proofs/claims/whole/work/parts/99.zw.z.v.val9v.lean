/-! values, for whole: the class's order, towardsZero -/
theorem W_sgn {R s n : Int32} {f : Nat → Int32} {v : Int} (h : bO R s n f v) : (v = 0 ∧ F_Big_sign R s n = 0) ∨ (0 < v ∧ F_Big_sign R s n = 1) ∨ (v < 0 ∧ F_Big_sign R s n = -1) := by
  unfold F_Big_sign
  by_cases c : s = 0
  · rw [if_pos c]
    exact Or.inl ⟨h.nil.mp c, rfl⟩
  · have v0 : v ≠ 0 := fun z => c (h.nil.mpr z)
    rw [if_neg c]
    rcases h.sgn with ⟨n0, vn⟩ | ⟨n1, vn⟩
    · rw [if_pos n0]
      exact Or.inr (Or.inl ⟨by omega, rfl⟩)
    · rw [if_neg (by rw [n1]; decide)]
      exact Or.inr (Or.inr ⟨vn, rfl⟩)
theorem wC_sg {R R2 s n s2 n2 : Int32} {f g : Nat → Int32} {v w : Int} (h : bO R s n f v) (h2 : bO R2 s2 n2 g w) (c : ¬ F_Big_sign R s n = F_Big_sign R2 s2 n2) : wC (F_jInt_compare (F_Big_sign R s n) (F_Big_sign R2 s2 n2)) v w := by
  have a := W_sgn h
  have b := W_sgn h2
  unfold F_jInt_compare
  generalize F_Big_sign R s n = x at *
  generalize F_Big_sign R2 s2 n2 = y at *
  rcases a with ⟨a1, rfl⟩ | ⟨a1, rfl⟩ | ⟨a1, rfl⟩ <;> rcases b with ⟨b1, rfl⟩ | ⟨b1, rfl⟩ | ⟨b1, rfl⟩
  · exact absurd rfl c
  · exact Or.inr (Or.inr ⟨rfl, by omega⟩)
  · exact Or.inr (Or.inl ⟨rfl, by omega⟩)
  · exact Or.inr (Or.inl ⟨rfl, by omega⟩)
  · exact absurd rfl c
  · exact Or.inr (Or.inl ⟨rfl, by omega⟩)
  · exact Or.inr (Or.inr ⟨rfl, by omega⟩)
  · exact Or.inr (Or.inr ⟨rfl, by omega⟩)
  · exact absurd rfl c
/-- the same sign -/
theorem sg_same {R R2 s n s2 n2 : Int32} {f g : Nat → Int32} {v w : Int} (h : bO R s n f v) (h2 : bO R2 s2 n2 g w) (c : F_Big_sign R s n = F_Big_sign R2 s2 n2) : (v = 0 ∧ w = 0) ∨ (0 < v ∧ 0 < w ∧ F_Big_sign R s n = 1) ∨ (v < 0 ∧ w < 0 ∧ F_Big_sign R s n = -1) := by
  have a := W_sgn h
  have b := W_sgn h2
  rw [c] at a ⊢
  generalize F_Big_sign R2 s2 n2 = y at *
  rcases a with ⟨a1, a2⟩ | ⟨a1, a2⟩ | ⟨a1, a2⟩ <;> rcases b with ⟨b1, b2⟩ | ⟨b1, b2⟩ | ⟨b1, b2⟩
  · exact Or.inl ⟨a1, b1⟩
  · rw [a2] at b2
    exact absurd b2 (by decide)
  · rw [a2] at b2
    exact absurd b2 (by decide)
  · rw [a2] at b2
    exact absurd b2 (by decide)
  · exact Or.inr (Or.inl ⟨a1, b1, a2⟩)
  · rw [a2] at b2
    exact absurd b2 (by decide)
  · rw [a2] at b2
    exact absurd b2 (by decide)
  · rw [a2] at b2
    exact absurd b2 (by decide)
  · exact Or.inr (Or.inr ⟨a1, b1, a2⟩)
theorem jc_3 {x y : Int32} : F_jInt_compare x y = 0 ∨ F_jInt_compare x y = 1 ∨ F_jInt_compare x y = -1 := by
  unfold F_jInt_compare
  split
  · split
    · exact Or.inl rfl
    · exact Or.inr (Or.inl rfl)
  · exact Or.inr (Or.inr rfl)
theorem cs_L3 {R : Int32} {R2 : Int32} {t0_0 : Int32} {t0_1 : Int32} {t1_0 : (Nat → Int32)} {t2_0 : Int32} {t2_1 : Int32} {t3_0 : (Nat → Int32)}  : ∀ (n : Nat) (lx23 : Int32),  (F_Big_compareSize_L30 R R2 t0_0 t0_1 t1_0 t2_0 t2_1 t3_0 n lx23) = 0 ∨ (F_Big_compareSize_L30 R R2 t0_0 t0_1 t1_0 t2_0 t2_1 t3_0 n lx23) = 1 ∨ (F_Big_compareSize_L30 R R2 t0_0 t0_1 t1_0 t2_0 t2_1 t3_0 n lx23) = -1 := by
  intro n
  induction n with
  | zero => intro _; exact Or.inl rfl
  | succ n ih =>
    intro lx23
    rw [F_Big_compareSize_L30.eq_2]
    split
    · exact Or.inl rfl
    · split
      · exact ih _
      · exact jc_3
theorem cs_3 {R : Int32} {R2 : Int32} {t0_0 : Int32} {t0_1 : Int32} {t1_0 : (Nat → Int32)} {t2_0 : Int32} {t2_1 : Int32} {t3_0 : (Nat → Int32)}  : (F_Big_compareSize R R2 t0_0 t0_1 t1_0 t2_0 t2_1 t3_0) = 0 ∨ (F_Big_compareSize R R2 t0_0 t0_1 t1_0 t2_0 t2_1 t3_0) = 1 ∨ (F_Big_compareSize R R2 t0_0 t0_1 t1_0 t2_0 t2_1 t3_0) = -1 := by
  unfold F_Big_compareSize
  split
  · exact cs_L3 _ _
  · exact jc_3
theorem W_cmpE {R R2 s n s2 n2 : Int32} {f g : Nat → Int32} {v w : Int} (h : bO R s n f v) (h2 : bO R2 s2 n2 g w) : (F_Big_compareSize R R2 s n f s2 n2 g = 0 ∧ v.natAbs = w.natAbs) ∨ (F_Big_compareSize R R2 s n f s2 n2 g = 1 ∧ w.natAbs < v.natAbs) ∨ (F_Big_compareSize R R2 s n f s2 n2 g = -1 ∧ v.natAbs < w.natAbs) := by
  have hc := W_cmp (R := R) (R2 := R2) h h2
  have h3 := cs_3 (R := R) (R2 := R2) (t0_0 := s) (t0_1 := n) (t1_0 := f) (t2_0 := s2) (t2_1 := n2) (t3_0 := g)
  generalize F_Big_compareSize R R2 s n f s2 n2 g = k at hc h3 ⊢
  have e0 : (0 : Int32).toInt = 0 := rfl
  have e1 : (1 : Int32).toInt = 1 := rfl
  have e2 : (-1 : Int32).toInt = -1 := rfl
  rcases h3 with rfl | rfl | rfl
  · exact Or.inl ⟨rfl, by omega⟩
  · exact Or.inr (Or.inl ⟨rfl, by omega⟩)
  · exact Or.inr (Or.inr ⟨rfl, by omega⟩)
theorem W_order {R R2 s n s2 n2 : Int32} {f g : Nat → Int32} {v w : Int} (h : bO R s n f v) (h2 : bO R2 s2 n2 g w) : wC (F_Big_order R R2 s n f s2 n2 g) v w := by
  unfold F_Big_order
  by_cases c : F_Big_sign R s n = F_Big_sign R2 s2 n2
  · rw [if_pos c]
    have hc := W_cmpE (R := R) (R2 := R2) h h2
    have ss := sg_same h h2 c
    generalize F_Big_compareSize R R2 s n f s2 n2 g = k at hc ⊢
    rcases h.sgn with ⟨n0, vn⟩ | ⟨n1, vn⟩
    · rw [if_pos n0]
      rcases hc with ⟨k1, k2⟩ | ⟨k1, k2⟩ | ⟨k1, k2⟩
      · refine Or.inl ⟨k1, ?_⟩
        omega
      · refine Or.inr (Or.inl ⟨k1, ?_⟩)
        omega
      · refine Or.inr (Or.inr ⟨k1, ?_⟩)
        omega
    · rw [if_neg (by rw [n1]; decide)]
      rcases hc with ⟨k1, k2⟩ | ⟨k1, k2⟩ | ⟨k1, k2⟩
      · rw [k1]
        refine Or.inl ⟨rfl, ?_⟩
        omega
      · rw [k1]
        refine Or.inr (Or.inr ⟨rfl, ?_⟩)
        omega
      · rw [k1]
        refine Or.inr (Or.inl ⟨rfl, ?_⟩)
        omega
  · rw [if_neg c]
    exact wC_sg h h2 c
theorem v_b10 {v : Int} {c d : Nat} (h : v.natAbs < 10 ^ c) (hc : c ≤ 1000) (hd : d = 0 ∨ c + d ≤ 1000) : v.natAbs * 10 ^ d < 2147483648 ^ 108 := by
  rcases hd with z | z
  · rw [z, Nat.pow_zero, Nat.mul_one]
    exact Nat.lt_of_lt_of_le (Nat.lt_of_lt_of_le h (Nat.pow_le_pow_right (by decide) hc)) (v_tB (by decide))
  · exact Nat.lt_of_lt_of_le (v_rt (k := 1000) h z) (v_tB (by decide))
/-- by the place of the first figure -/
theorem v_far {a b : Int} {ca cb dX dY : Nat} (ha : vG a ca) (hb : vG b cb) (a0 : a ≠ 0) (b0 : b ≠ 0) (h : cb + dY < ca + dX) : (b.natAbs : Int) * 10 ^ dY < (a.natAbs : Int) * 10 ^ dX := by
  obtain ⟨a1, a2⟩ := d_bdI ha a0
  obtain ⟨b1, b2⟩ := d_bdI hb b0
  have c1 := ha.1.1
  have k1 := Int.mul_lt_mul_of_pos_right b2 (u_pos dY)
  have k2 := Int.mul_le_mul_of_nonneg_right a1 (Int.le_of_lt (u_pos dX))
  rw [← Int.pow_add] at k1 k2
  have k3 : (10 : Int) ^ (cb + dY) ≤ 10 ^ (ca - 1 + dX) := u_pwle (by omega)
  exact Int.lt_of_lt_of_le k1 (Int.le_trans k3 k2)
theorem V_order {R : Int32} {R2 : Int32} {t0_0 : Int32} {t0_1 : Int32} {t1_0 : (Nat → Int32)} {t2_0 : Int32} {t2_1 : Int32} {t3_0 : (Nat → Int32)} {t4_0 : Int32} {t4_1 : Int32} {t5_0 : Int32} {t5_1 : Int32} {t6_0 : (Nat → Int32)} {t7_0 : Int32} {t7_1 : Int32} {t8_0 : Int32} {t8_1 : Int32} {t9_0 : (Nat → Int32)} {qa qb : Int × Int} {dX dY : Nat} (ha : dP R t5_0 t5_1 t6_0 t4_0 t4_1 qa) (hb : dP R2 t8_0 t8_1 t9_0 t7_0 t7_1 qb) (hX : dX = (qb.2 - qa.2).toNat) (hY : dY = (qa.2 - qb.2).toNat) : wC (F_DW_order R R2 t0_0 t0_1 t1_0 t2_0 t2_1 t3_0 t4_0 t4_1 t5_0 t5_1 t6_0 t7_0 t7_1 t8_0 t8_1 t9_0).1 (qa.1 * 10 ^ dX) (qb.1 * 10 ^ dY) := by
  have e := e220
  obtain ⟨ha1, ⟨ca, ca1, ca2, ca3⟩, ha2, ha3, ha4⟩ := ha
  obtain ⟨hb1, ⟨cb, cb1, cb2, cb3⟩, hb2, hb3, hb4⟩ := hb
  have pX := u_pos dX
  have pY := u_pos dY
  have q1 : (t4_1 - t4_0 : Int32).toInt = (ca : Int) - qa.2 := q_subI ca1 ha2 (by omega) (by omega)
  have q2 : (t7_1 - t7_0 : Int32).toInt = (cb : Int) - qb.2 := q_subI cb1 hb2 (by omega) (by omega)
  have q3 : (t7_0 - t4_0 : Int32).toInt = qb.2 - qa.2 := q_subI hb2 ha2 (by omega) (by omega)
  have q4 : (t4_0 - t7_0 : Int32).toInt = qa.2 - qb.2 := q_subI ha2 hb2 (by omega) (by omega)
  have n3 : (t7_0 - t4_0 : Int32).toNatClampNeg = dX := by
    rw [v_cn, q3, hX]
  have n4 : (t4_0 - t7_0 : Int32).toNatClampNeg = dY := by
    rw [v_cn, q4, hY]
  unfold F_DW_order
  by_cases c : F_Big_sign R t5_0 t5_1 = F_Big_sign R2 t8_0 t8_1
  · have ss := sg_same ha1 hb1 c
    rw [if_pos c]
    by_cases z : t5_0 = 0
    · have a0 := ha1.nil.mp z
      have b0 : qb.1 = 0 := by omega
      rw [if_pos z, a0, b0, Int.zero_mul, Int.zero_mul, c]
      refine Or.inl ⟨?_, rfl⟩
      unfold F_jInt_compare
      rw [if_pos (Int32.le_refl _), if_pos rfl]
    · have a0 : qa.1 ≠ 0 := fun h => z (ha1.nil.mpr h)
      have b0 : qb.1 ≠ 0 := by omega
      rw [if_neg z]
      by_cases hq : (t4_1 - t4_0 : Int32) = (t7_1 - t7_0 : Int32)
      · have q5 : (t4_1 - t4_0 : Int32).toInt = (t7_1 - t7_0 : Int32).toInt := by rw [hq]
        rw [q1, q2] at q5
        rw [if_pos hq]
        have h1 : P1 220 qa.1 (F_Big_copy 220 R t0_0 t0_1 t1_0 t5_0 t5_1 t6_0) := W_copy ha1 ha1.fit (by decide)
        generalize F_Big_copy 220 R t0_0 t0_1 t1_0 t5_0 t5_1 t6_0 = p122 at h1 ⊢
        unfold F_DW_order_c107
        have h2 : P1 220 qb.1 (F_Big_copy 220 R2 t2_0 t2_1 t3_0 t8_0 t8_1 t9_0) := W_copy hb1 hb1.fit (by decide)
        generalize F_Big_copy 220 R2 t2_0 t2_1 t3_0 t8_0 t8_1 t9_0 = p146 at h2 ⊢
        unfold F_DW_order_c121
        have m1 : qa.1.natAbs * 10 ^ (t7_0 - t4_0 : Int32).toNatClampNeg < 2147483648 ^ 108 := by
          rw [n3]
          exact v_b10 ca2.1.2.1 ca3 (by omega)
        have m2 : qb.1.natAbs * 10 ^ (t4_0 - t7_0 : Int32).toNatClampNeg < 2147483648 ^ 108 := by
          rw [n4]
          exact v_b10 cb2.1.2.1 cb3 (by omega)
        have h3 := W_ten (M := 108) (x := t7_0 - t4_0) h1 (by decide) m1
        generalize F_Big_timesTen 220 (t7_0 - t4_0) p122.1 p122.2.1 p122.2.2 = p172 at h3 ⊢
        unfold F_DW_order_c140
        have h4 := W_ten (M := 108) (x := t4_0 - t7_0) h2 (by decide) m2
        generalize F_Big_timesTen 220 (t4_0 - t7_0) p146.1 p146.2.1 p146.2.2 = p198 at h4 ⊢
        unfold F_DW_order_c159
        rw [n3] at h3
        rw [n4] at h4
        exact W_order h3 h4
      · rw [if_neg hq]
        have ne : (ca : Int) - qa.2 ≠ (cb : Int) - qb.2 := fun h => hq (Int32.toInt_inj.mp (by rw [q1, q2]; exact h))
        by_cases g : (t7_1 - t7_0 : Int32) ≤ (t4_1 - t4_0 : Int32)
        · have g2 := q_leI g
          have fr := v_far (dX := dX) (dY := dY) ca2 cb2 a0 b0 (by omega)
          rw [if_pos g]
          rcases ss with ⟨s1, _⟩ | ⟨s1, s2, s3⟩ | ⟨s1, s2, s3⟩
          · exact absurd s1 a0
          · rw [Int.natAbs_of_nonneg (Int.le_of_lt s1), Int.natAbs_of_nonneg (Int.le_of_lt s2)] at fr
            exact Or.inr (Or.inl ⟨s3, fr⟩)
          · have e1 : (qa.1.natAbs : Int) = -qa.1 := by omega
            have e2 : (qb.1.natAbs : Int) = -qb.1 := by omega
            rw [e1, e2, Int.neg_mul, Int.neg_mul] at fr
            exact Or.inr (Or.inr ⟨s3, by omega⟩)
        · have g2 := q_nleI g
          have fr := v_far (dX := dY) (dY := dX) cb2 ca2 b0 a0 (by omega)
          rw [if_neg g]
          rcases ss with ⟨s1, _⟩ | ⟨s1, s2, s3⟩ | ⟨s1, s2, s3⟩
          · exact absurd s1 a0
          · rw [Int.natAbs_of_nonneg (Int.le_of_lt s1), Int.natAbs_of_nonneg (Int.le_of_lt s2)] at fr
            rw [s3]
            exact Or.inr (Or.inr ⟨rfl, fr⟩)
          · have e1 : (qa.1.natAbs : Int) = -qa.1 := by omega
            have e2 : (qb.1.natAbs : Int) = -qb.1 := by omega
            rw [e1, e2, Int.neg_mul, Int.neg_mul] at fr
            rw [s3]
            exact Or.inr (Or.inl ⟨rfl, by omega⟩)
  · rw [if_neg c]
    have hc := wC_sg ha1 hb1 c
    have a := W_sgn ha1
    have b := W_sgn hb1
    have sX : ∀ {t : Int}, (t = 0 → t * 10 ^ dX = 0) ∧ (0 < t → 0 < t * 10 ^ dX) ∧ (t < 0 → t * 10 ^ dX < 0) := fun {t} => ⟨fun h => by rw [h, Int.zero_mul], fun h => Int.mul_pos h pX, fun h => Int.mul_neg_of_neg_of_pos h pX⟩
    have sY : ∀ {t : Int}, (t = 0 → t * 10 ^ dY = 0) ∧ (0 < t → 0 < t * 10 ^ dY) ∧ (t < 0 → t * 10 ^ dY < 0) := fun {t} => ⟨fun h => by rw [h, Int.zero_mul], fun h => Int.mul_pos h pY, fun h => Int.mul_neg_of_neg_of_pos h pY⟩
    have A := sX (t := qa.1)
    have B := sY (t := qb.1)
    rcases hc with ⟨h1, h2⟩ | ⟨h1, h2⟩ | ⟨h1, h2⟩
    · exfalso
      apply c
      rcases a with ⟨a1, a2⟩ | ⟨a1, a2⟩ | ⟨a1, a2⟩ <;> rcases b with ⟨b1, b2⟩ | ⟨b1, b2⟩ | ⟨b1, b2⟩ <;> first | (exfalso; omega) | (rw [a2, b2])
    · refine Or.inr (Or.inl ⟨h1, ?_⟩)
      rcases a with ⟨a1, a2⟩ | ⟨a1, a2⟩ | ⟨a1, a2⟩ <;> rcases b with ⟨b1, b2⟩ | ⟨b1, b2⟩ | ⟨b1, b2⟩ <;> first | (exfalso; exact c (a2.trans b2.symm)) | omega
    · refine Or.inr (Or.inr ⟨h1, ?_⟩)
      rcases a with ⟨a1, a2⟩ | ⟨a1, a2⟩ | ⟨a1, a2⟩ <;> rcases b with ⟨b1, b2⟩ | ⟨b1, b2⟩ | ⟨b1, b2⟩ <;> first | (exfalso; exact c (a2.trans b2.symm)) | omega
