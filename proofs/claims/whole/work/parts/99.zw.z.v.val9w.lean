/-! values, for whole: the class's towardsZero -/
def sTz (q : Int × Int) : Int := (q.1 * 10 ^ (-q.2).toNat).tdiv (10 ^ q.2.toNat)
theorem v_tdS {v w : Int} {P : Nat} (hP : 0 < P) (h : w.natAbs = v.natAbs / P) (h1 : 0 ≤ v → 0 ≤ w) (h2 : v ≤ 0 → w ≤ 0) : w = v.tdiv (P : Int) := by
  have e : (v.tdiv (P : Int)).natAbs = v.natAbs / P := by
    rw [Int.natAbs_tdiv, Int.natAbs_natCast]
    rfl
  rcases Int.le_total 0 v with c | c
  · have k1 := h1 c
    have k2 : 0 ≤ v.tdiv (P : Int) := Int.tdiv_nonneg c (by omega)
    omega
  · have k1 := h2 c
    have k2 : v.tdiv (P : Int) ≤ 0 := by
      have h3 : 0 ≤ (-v).tdiv (P : Int) := Int.tdiv_nonneg (by omega) (by omega)
      rw [Int.neg_tdiv] at h3
      omega
    omega
theorem V_tzJ {R : Int32} {t0_0 : Int64} {t0_1 : Int32} {t1_0 : Int32} {t1_1 : Int32} {t2_0 : (Nat → Int32)} {t3_0 : Int32} {t3_1 : Int32} {t4_0 : Int32} {t4_1 : Int32} {t5_0 : (Nat → Int32)} {p41 : (Int32 × Int32 × (Nat → Int32))} {y30 : Int32} {y31 : Int32} {f32 : (Nat → Int32)} {qa : Int × Int} (ha : bO R t4_0 t4_1 t5_0 qa.1) (h : bO 220 y30 y31 f32 qa.1) (hs : t3_0.toInt = qa.2) (hs2 : -10000 ≤ qa.2 ∧ qa.2 ≤ 10000) (hm : qa.1.natAbs * 10 ^ (-qa.2).toNat < 2147483648 ^ 108) : (F_DW_towardsZero_J41 R t0_0 t0_1 t1_0 t1_1 t2_0 t3_0 t3_1 t4_0 t4_1 t5_0 p41 y30 y31 f32).1 = 1 ∧ bO 220 (F_DW_towardsZero_J41 R t0_0 t0_1 t1_0 t1_1 t2_0 t3_0 t3_1 t4_0 t4_1 t5_0 p41 y30 y31 f32).2.1 (F_DW_towardsZero_J41 R t0_0 t0_1 t1_0 t1_1 t2_0 t3_0 t3_1 t4_0 t4_1 t5_0 p41 y30 y31 f32).2.2.1 (F_DW_towardsZero_J41 R t0_0 t0_1 t1_0 t1_1 t2_0 t3_0 t3_1 t4_0 t4_1 t5_0 p41 y30 y31 f32).2.2.2 (sTz qa) ∧ bB 108 (sTz qa) := by
  have e := e220
  have e0 : (0 : Int32).toInt = 0 := rfl
  have p10 : ∀ k : Nat, ((10 ^ k : Nat) : Int) = 10 ^ k := fun k => Int.natCast_pow 10 k
  unfold F_DW_towardsZero_J41
  by_cases c : t4_0 ≤ 0
  · have c2 := q_leI c
    have a0 : qa.1 = 0 := by
      by_cases z : qa.1 = 0
      · exact z
      · have := ha.pos.mpr z
        omega
    have sz : sTz qa = 0 := by
      unfold sTz
      rw [a0, Int.zero_mul, Int.zero_tdiv]
    rw [if_pos c, sz]
    rw [a0] at h
    exact ⟨rfl, h, Nat.pow_pos (by decide)⟩
  · rw [if_neg c]
    have en : (-t3_0 : Int32).toInt = -qa.2 := by
      have q := q_subI (a := 0) (b := t3_0) e0 hs (by omega) (by omega)
      rw [Int32.zero_sub] at q
      omega
    have cn : (-t3_0 : Int32).toNatClampNeg = (-qa.2).toNat := by
      rw [v_cn, en]
    have h1 := W_ten (M := 108) (x := -t3_0) h (by decide) (by rw [cn]; exact hm)
    rw [cn] at h1
    generalize F_Big_timesTen 220 (-t3_0) y30 y31 f32 = p82 at h1 ⊢
    unfold F_DW_towardsZero_c63
    obtain ⟨w, w1, w2, w3, w4, w5⟩ := V_drop (x2 := t3_0) h1
    generalize F_Big_dropFigures 220 t3_0 p82.1 p82.2.1 p82.2.2 = p109 at w4 w5 ⊢
    unfold F_DW_towardsZero_c77
    rw [hs] at w1
    have ew := v_tdS (P := 10 ^ qa.2.toNat) (Nat.pow_pos (by decide)) w1 w2 w3
    rw [p10] at ew
    have eS : w = sTz qa := ew
    refine ⟨rfl, ?_, ?_⟩
    · rw [← eS]
      exact w5
    · rw [← eS]
      refine (v_abT hm).le ?_
      rw [w1]
      exact Nat.div_le_self _ _
theorem V_towardsZero {R : Int32} {t0_0 : Int64} {t0_1 : Int32} {t1_0 : Int32} {t1_1 : Int32} {t2_0 : (Nat → Int32)} {t3_0 : Int32} {t3_1 : Int32} {t4_0 : Int32} {t4_1 : Int32} {t5_0 : (Nat → Int32)} {qa : Int × Int} (ha : dP R t4_0 t4_1 t5_0 t3_0 t3_1 qa) : ((F_DW_towardsZero R t0_0 t0_1 t1_0 t1_1 t2_0 t3_0 t3_1 t4_0 t4_1 t5_0).1 = 0 ∧ 10 ^ 1000 ≤ (sTz qa).natAbs) ∨ ((F_DW_towardsZero R t0_0 t0_1 t1_0 t1_1 t2_0 t3_0 t3_1 t4_0 t4_1 t5_0).1 = 1 ∧ bO 220 (F_DW_towardsZero R t0_0 t0_1 t1_0 t1_1 t2_0 t3_0 t3_1 t4_0 t4_1 t5_0).2.1 (F_DW_towardsZero R t0_0 t0_1 t1_0 t1_1 t2_0 t3_0 t3_1 t4_0 t4_1 t5_0).2.2.1 (F_DW_towardsZero R t0_0 t0_1 t1_0 t1_1 t2_0 t3_0 t3_1 t4_0 t4_1 t5_0).2.2.2 (sTz qa) ∧ bB 108 (sTz qa)) := by
  have e := e220
  have e0 : (0 : Int32).toInt = 0 := rfl
  have eK : (1000 : Int32).toInt = 1000 := rfl
  obtain ⟨ha1, ⟨ca, ca1, ca2, ca3⟩, ha2, ha3, ha4⟩ := ha
  have q1 : (t3_1 - t3_0 : Int32).toInt = (ca : Int) - qa.2 := q_subI ca1 ha2 (by omega) (by omega)
  unfold F_DW_towardsZero
  have h1 : P1 220 qa.1 (F_Big_copy 220 R t1_0 t1_1 t2_0 t4_0 t4_1 t5_0) := W_copy ha1 ha1.fit (by decide)
  generalize F_Big_copy 220 R t1_0 t1_1 t2_0 t4_0 t4_1 t5_0 = p41 at h1 ⊢
  unfold F_DW_towardsZero_c11
  by_cases c : t4_0 ≤ 0
  · have c2 := q_leI c
    have a0 : qa.1 = 0 := by
      by_cases z : qa.1 = 0
      · exact z
      · have := ha1.pos.mpr z
        omega
    rw [if_pos c]
    refine Or.inr (V_tzJ ha1 h1 ha2 ⟨ha3, ha4⟩ ?_)
    rw [a0]
    show 0 * _ < _
    rw [Nat.zero_mul]
    exact Nat.pow_pos (by decide)
  · have c2 := q_nleI c
    have a0 : qa.1 ≠ 0 := ha1.pos.mp (by omega)
    rw [if_neg c]
    by_cases d : (t3_1 - t3_0 : Int32) ≤ 1000
    · have d2 := q_leI d
      rw [if_pos d]
      refine Or.inr (V_tzJ ha1 h1 ha2 ⟨ha3, ha4⟩ ?_)
      exact v_b10 ca2.1.2.1 ca3 (by omega)
    · have d2 := q_nleI d
      rw [if_neg d]
      refine Or.inl ⟨rfl, ?_⟩
      have b1 : 10 ^ (ca - 1) ≤ qa.1.natAbs := by
        have h9 := (d_bdI ca2 a0).1
        refine Int.ofNat_le.mp ?_
        rw [Int.natCast_pow]
        exact h9
      have n1 := ca2.1.1
      have z0 : qa.2.toNat = 0 := by omega
      unfold sTz
      rw [z0, Int.pow_zero, Int.tdiv_one, Int.natAbs_mul, Int.natAbs_pow]
      have k1 : 10 ^ 1000 ≤ 10 ^ (ca - 1 + (-qa.2).toNat) := Nat.pow_le_pow_right (by decide) (by omega)
      rw [Nat.pow_add] at k1
      exact Nat.le_trans k1 (Nat.mul_le_mul_right _ b1)
