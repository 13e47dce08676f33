/-! NumberHouseModel: exact, toWhole, toDecimal, toFloat, convert -/
theorem nm_fin {k : Int32} {v : Int64} (h : ¬ F_NM_isFinite k v = 0) : (k = 3 → fxE v 1 < fxM 1) ∧ (¬ k = 3 → fxE v 0 < fxM 0) := by
  have m8 : (255 : Int64).toBitVec.toNat = 255 := by decide
  have m11 : (2047 : Int64).toBitVec.toNat = 2047 := by decide
  unfold F_NM_isFinite at h
  refine ⟨fun e => ?_, fun e => ?_⟩
  · rw [if_pos e] at h
    unfold fxE fxM
    rw [if_neg (by decide), if_neg (by decide)]
    by_cases c : 0 ≤ lg_cmp (((v.toUInt64 >>> ((23 : Int32).toInt64.toUInt64 &&& Int64.toUInt64 63)).toInt64) &&& 255) 255
    · rw [if_pos c] at h; exact absurd rfl h
    · have z := g_lc6 c
      have e1 : ((((v.toUInt64 >>> ((23 : Int32).toInt64.toUInt64 &&& Int64.toUInt64 63)).toInt64) &&& 255 : Int64)).toBitVec.toNat = v.toBitVec.toNat / 2 ^ 23 % 2 ^ 8 := by
        rw [Int64.toBitVec_and, BitVec.toNat_and, fx_ush (k := 23) (by decide), m8]; exact Nat.and_two_pow_sub_one_eq_mod _ 8
      have e2 := s_ofL e1 (by omega)
      have e3 : (255 : Int64).toInt = 255 := by decide
      rw [e2, e3] at z
      exact z
  · rw [if_neg e] at h
    unfold fxE fxM
    rw [if_pos rfl, if_pos rfl]
    by_cases c : 0 ≤ lg_cmp (((v.toUInt64 >>> ((52 : Int32).toInt64.toUInt64 &&& Int64.toUInt64 63)).toInt64) &&& 2047) 2047
    · rw [if_pos c] at h; exact absurd rfl h
    · have z := g_lc6 c
      have e1 : ((((v.toUInt64 >>> ((52 : Int32).toInt64.toUInt64 &&& Int64.toUInt64 63)).toInt64) &&& 2047 : Int64)).toBitVec.toNat = v.toBitVec.toNat / 2 ^ 52 % 2 ^ 11 := by
        rw [Int64.toBitVec_and, BitVec.toNat_and, fx_ush (k := 52) (by decide), m11]; exact Nat.and_two_pow_sub_one_eq_mod _ 11
      have e2 := s_ofL e1 (by omega)
      have e3 : (2047 : Int64).toInt = 2047 := by decide
      rw [e2, e3] at z
      exact z
theorem nm_wrong {v : Int64} (h : 0 ≤ v.toInt ∧ v.toInt < 4294967296) : F_FR_isWrong v 1 = 0 := by
  unfold F_FR_isWrong
  rw [if_neg (by decide)]
  have e1 : ((v.toUInt64 >>> ((32 : Int32).toInt64.toUInt64 &&& Int64.toUInt64 63)).toInt64).toBitVec.toNat = v.toBitVec.toNat / 2 ^ 32 := fx_ush (k := 32) (by decide)
  have e2 := s_nnL h.1
  have e3 : v.toBitVec.toNat / 2 ^ 32 = 0 := Nat.div_eq_of_lt (by omega)
  rw [e3] at e1
  have e4 : ((v.toUInt64 >>> ((32 : Int32).toInt64.toUInt64 &&& Int64.toUInt64 63)).toInt64) = 0 := Int64.toBitVec_inj.mp (BitVec.eq_of_toNat_eq (by rw [e1]; rfl))
  rw [e4]
  rfl
def nmV (k : Int32) (v : Int64) : Prop := (k = 3 → 0 ≤ v.toInt ∧ v.toInt < 4294967296) ∧ ¬ F_NM_isFinite k v = 0
def Q_NM_exact (k : Int32) (v : Int64) (w : Int32) (p : Int32 × Int32 × Int32 × Int32 × Int32 × Int64 × Int32 × Int32 × Int64 × Int32 × Int64 × Int32 × (Nat → Int32) × (Nat → Int32) × (Nat → Int32) × (Nat → Int32) × (Nat → Int32) × (Nat → Int32)) : Prop := (0 ≤ p.1.toInt ∧ p.1.toInt ≤ 1600) ∧ (nmV k v → 1 ≤ w.toInt ∧ w.toInt ≤ 1100 → fxK p.2.2.2.2.2.2.2.2.2.2.2.2.2.2.2.2.2 p.1)
theorem nm_fk {x2 : Int32} {f : Nat → Int32} {p : Int32 × (Nat → Int32)} (h : Q_NM_load x2 f p) (k : fxK f x2) : fxK p.2 p.1 := by
  obtain ⟨i, a, b⟩ := k
  exact ⟨i, by rw [h.1]; exact a, by rw [h.2 i a]; exact b⟩
theorem nm_exactA {c0 : Int32} {c1 : Int32} {c2 : Int32} {c3 : Int32} {c4 : Int32} {c5 : Int64} {c6 : Int32} {c7 : Int32} {c8 : Int64} {c9 : Int32} {c10 : Int64} {c11 : Int32} {c12 : (Nat → Int32)} {c13 : (Nat → Int32)} {c14 : (Nat → Int32)} {c15 : (Nat → Int32)} {c16 : (Nat → Int32)} {c17 : (Nat → Int32)} {k : Int32} {v : Int64} {w : Int32} (h0 : 0 ≤ c0.toInt ∧ c0.toInt ≤ 1600) (h1 : nmV k v → 1 ≤ w.toInt ∧ w.toInt ≤ 1100 → fxK c17 c0) : Q_NM_exact k v w (c0, c1, c2, c3, c4, c5, c6, c7, c8, c9, c10, c11, c12, c13, c14, c15, c16, c17) := ⟨h0, h1⟩
theorem T_NM_exact {x2 : Int32} {x3 : Int64} {x4 : Int32} {N5 : Int32} {t0_0 : Int32} {t0_1 : Int32} {t0_2 : Int32} {t1_0 : Int32} {t1_1 : Int32} {t1_2 : Int32} {t1_3 : Int32} {t1_4 : Int64} {t1_5 : Int32} {t1_6 : Int32} {t1_7 : Int64} {t1_8 : Int32} {t1_9 : Int64} {t1_10 : Int32} {t2_0 : (Nat → Int32)} {t3_0 : (Nat → Int32)} {t4_0 : (Nat → Int32)} {t5_0 : (Nat → Int32)} {t6_0 : (Nat → Int32)} {t7_0 : (Nat → Int32)} (hN5 : N5.toInt = 4100)  : (S_NM_exact x2 x3 x4 N5 t0_0 t0_1 t0_2 t1_0 t1_1 t1_2 t1_3 t1_4 t1_5 t1_6 t1_7 t1_8 t1_9 t1_10 t2_0 t3_0 t4_0 t5_0 t6_0 t7_0) ∧ Q_NM_exact x2 x3 x4 (F_NM_exact x2 x3 x4 N5 t0_0 t0_1 t0_2 t1_0 t1_1 t1_2 t1_3 t1_4 t1_5 t1_6 t1_7 t1_8 t1_9 t1_10 t2_0 t3_0 t4_0 t5_0 t6_0 t7_0) := by
  have e0 : (0 : Int32).toInt = 0 := rfl
  have e1 : (1 : Int32).toInt = 1 := rfl
  have eL0 : (0 : Int64).toInt = 0 := rfl
  have em : (-1 : Int32).toInt = -1 := rfl
  have n1600 : (1600 : Int32).toInt = 1600 := rfl
  have n2100 : (2100 : Int32).toInt = 2100 := rfl
  have n4100 : (4100 : Int32).toInt = 4100 := rfl
  have n12200 : (12200 : Int32).toInt = 12200 := rfl
  have n1074 : (1074 : Int32).toInt = 1074 := rfl
  have n46 : (46 : Int32).toInt = 46 := rfl
  have n48 : (48 : Int32).toInt = 48 := rfl
  unfold S_NM_exact F_NM_exact
  by_cases g1 : x2 = (3 : Int32)
  ·
    rw [if_pos g1, if_pos g1]
    have gk := g1
    have qF : nmV x2 x3 → 1 ≤ x4.toInt ∧ x4.toInt ≤ 1100 → Q_FX_fixed (F_FR_fixed x3 1 x4 0 t1_0 t1_1 t1_2 t1_3 t1_4 t1_5 t1_6 t1_7 t1_8 t1_9 t1_10 t2_0 t3_0 t4_0 t5_0 t6_0) := fun z1 z2 => T_FX_fixed (nm_wrong (z1.1 gk)) z2 (by decide) (fun z => absurd z (by decide)) (fun _ => (nm_fin z1.2).1 gk)
    have h2 := T_FR_fixed (x2 := x3) (x3 := (1 : Int32)) (x4 := x4) (x5 := (0 : Int32)) (t0_0 := t1_0) (t0_1 := t1_1) (t0_2 := t1_2) (t0_3 := t1_3) (t0_4 := t1_4) (t0_5 := t1_5) (t0_6 := t1_6) (t0_7 := t1_7) (t0_8 := t1_8) (t0_9 := t1_9) (t0_10 := t1_10) (t1_0 := t2_0) (t2_0 := t3_0) (t3_0 := t4_0) (t4_0 := t5_0) (t5_0 := t6_0) 
    with_reducible refine v_owe h2.1 ?_
    replace h2 := h2.2
    generalize F_FR_fixed x3 (1 : Int32) x4 (0 : Int32) t1_0 t1_1 t1_2 t1_3 t1_4 t1_5 t1_6 t1_7 t1_8 t1_9 t1_10 t2_0 t3_0 t4_0 t5_0 t6_0 = p157 at *
    unfold Q_FR_fixed at h2
    have fp157 := h2
    unfold S_NM_exact_c18_3 F_NM_exact_c18_3
    have h3 := T_NM_load (N1 := (1600 : Int32)) (x2 := (p157.1 : Int32)) (N3 := N5) (t0_0 := (p157.2.2.2.2.2.2.2.2.2.2.2.2.2.2.2.2 : (Nat → Int32))) (t1_0 := t7_0) (by first | omega | decide) (by first | omega | decide) (by first | omega | decide)
    with_reducible refine v_owe h3.1 ?_
    replace h3 := h3.2
    generalize F_NM_load (1600 : Int32) (p157.1 : Int32) N5 (p157.2.2.2.2.2.2.2.2.2.2.2.2.2.2.2.2 : (Nat → Int32)) t7_0 = p194 at *
    have qL := h3
    have eL := congrArg Int32.toInt h3.1
    unfold S_NM_exact_c34_4 F_NM_exact_c34_4
    refine ⟨trivial, ?_⟩
    exact nm_exactA ⟨by omega, by omega⟩ (fun z1 z2 => nm_fk qL (qF z1 z2))
  ·
    rw [if_neg g1, if_neg g1]
    have gk := g1
    have qF : nmV x2 x3 → 1 ≤ x4.toInt ∧ x4.toInt ≤ 1100 → Q_FX_fixed (F_FR_fixed x3 0 x4 0 t1_0 t1_1 t1_2 t1_3 t1_4 t1_5 t1_6 t1_7 t1_8 t1_9 t1_10 t2_0 t3_0 t4_0 t5_0 t6_0) := fun z1 z2 => T_FX_fixed (by unfold F_FR_isWrong; exact if_pos rfl) z2 (by decide) (fun _ => (nm_fin z1.2).2 gk) (fun z => absurd rfl z)
    have h4 := T_FR_fixed (x2 := x3) (x3 := (0 : Int32)) (x4 := x4) (x5 := (0 : Int32)) (t0_0 := t1_0) (t0_1 := t1_1) (t0_2 := t1_2) (t0_3 := t1_3) (t0_4 := t1_4) (t0_5 := t1_5) (t0_6 := t1_6) (t0_7 := t1_7) (t0_8 := t1_8) (t0_9 := t1_9) (t0_10 := t1_10) (t1_0 := t2_0) (t2_0 := t3_0) (t3_0 := t4_0) (t4_0 := t5_0) (t5_0 := t6_0) 
    with_reducible refine v_owe h4.1 ?_
    replace h4 := h4.2
    generalize F_FR_fixed x3 (0 : Int32) x4 (0 : Int32) t1_0 t1_1 t1_2 t1_3 t1_4 t1_5 t1_6 t1_7 t1_8 t1_9 t1_10 t2_0 t3_0 t4_0 t5_0 t6_0 = p75 at *
    unfold Q_FR_fixed at h4
    have fp75 := h4
    unfold S_NM_exact_c18 F_NM_exact_c18
    have h5 := T_NM_load (N1 := (1600 : Int32)) (x2 := (p75.1 : Int32)) (N3 := N5) (t0_0 := (p75.2.2.2.2.2.2.2.2.2.2.2.2.2.2.2.2 : (Nat → Int32))) (t1_0 := t7_0) (by first | omega | decide) (by first | omega | decide) (by first | omega | decide)
    with_reducible refine v_owe h5.1 ?_
    replace h5 := h5.2
    generalize F_NM_load (1600 : Int32) (p75.1 : Int32) N5 (p75.2.2.2.2.2.2.2.2.2.2.2.2.2.2.2.2 : (Nat → Int32)) t7_0 = p112 at *
    have qL := h5
    have eL := congrArg Int32.toInt h5.1
    unfold S_NM_exact_c34 F_NM_exact_c34
    refine ⟨trivial, ?_⟩
    exact nm_exactA ⟨by omega, by omega⟩ (fun z1 z2 => nm_fk qL (qF z1 z2))
def Q_NM_toWhole (p : Int32 × Int32 × Int32 × Int32 × Int32 × Int32 × Int32 × Int32 × (Nat → Int32) × (Nat → Int32) × (Nat → Int32) × (Nat → Int32) × Int32 × Int32 × Int32 × Int64 × Int32 × Int32 × Int32 × Int32 × Int32 × Int32 × Int32 × (Nat → Int32) × Int32 × Int32 × Int32 × Int32 × Int64 × Int32 × Int32 × Int64 × Int32 × Int64 × Int32 × (Nat → Int32) × (Nat → Int32) × (Nat → Int32) × (Nat → Int32) × (Nat → Int32)) : Prop := wR p.2.2.2.2.2.2.2.2.2.1 p.2.2.2.2.2.2.2.2.2.2.1
theorem nm_toWholeA {c0 : Int32} {c1 : Int32} {c2 : Int32} {c3 : Int32} {c4 : Int32} {c5 : Int32} {c6 : Int32} {c7 : Int32} {c8 : (Nat → Int32)} {c9 : (Nat → Int32)} {c10 : (Nat → Int32)} {c11 : (Nat → Int32)} {c12 : Int32} {c13 : Int32} {c14 : Int32} {c15 : Int64} {c16 : Int32} {c17 : Int32} {c18 : Int32} {c19 : Int32} {c20 : Int32} {c21 : Int32} {c22 : Int32} {c23 : (Nat → Int32)} {c24 : Int32} {c25 : Int32} {c26 : Int32} {c27 : Int32} {c28 : Int64} {c29 : Int32} {c30 : Int32} {c31 : Int64} {c32 : Int32} {c33 : Int64} {c34 : Int32} {c35 : (Nat → Int32)} {c36 : (Nat → Int32)} {c37 : (Nat → Int32)} {c38 : (Nat → Int32)} {c39 : (Nat → Int32)} (h0 : wR c9 c10) : Q_NM_toWhole (c0, c1, c2, c3, c4, c5, c6, c7, c8, c9, c10, c11, c12, c13, c14, c15, c16, c17, c18, c19, c20, c21, c22, c23, c24, c25, c26, c27, c28, c29, c30, c31, c32, c33, c34, c35, c36, c37, c38, c39) := h0
theorem vm_tw {x2 : Int32} {x3 : Int32} {x4 : Int32} {t0_0 : Int32} {t0_1 : Int32} {t0_2 : Int32} {t1_0 : Int32} {t1_1 : Int32} {t1_2 : Int32} {t1_3 : Int32} {t1_4 : Int32} {t1_5 : Int32} {t1_6 : Int32} {t2_0 : (Nat → Int32)} {t3_0 : (Nat → Int32)} {t4_0 : (Nat → Int32)} {t5_0 : (Nat → Int32)} {t6_0 : Int32} {t6_1 : Int32} {t6_2 : Int32} {t6_3 : Int64} {t6_4 : Int32} {t6_5 : Int32} {t6_6 : Int32} {t6_7 : Int32} {t6_8 : Int32} {t6_9 : Int32} {t6_10 : Int32} {t7_0 : (Nat → Int32)} {t8_0 : (Nat → Int32)} {t9_0 : (Nat → Int32)} {t10_0 : (Nat → Int32)} {t11_0 : (Nat → Int32)} {t12_0 : Int32} {t12_1 : Int32} {t12_2 : Int32} {t12_3 : Int32} {t12_4 : Int64} {t12_5 : Int32} {t12_6 : Int32} {t12_7 : Int64} {t12_8 : Int32} {t12_9 : Int64} {t12_10 : Int32} {t13_0 : (Nat → Int32)} {t14_0 : (Nat → Int32)} {t15_0 : (Nat → Int32)} {t16_0 : (Nat → Int32)} {t17_0 : (Nat → Int32)} {t18_0 : (Nat → Int64)} {p304 : (Int32 × Int32 × Int32 × Int32 × Int64 × Int32 × Int32 × Int32 × Int32 × Int32 × Int32 × Int32 × (Nat → Int32))} {y268 : Int32} {y269 : Int32} {y270 : Int32} {y271 : Int64} {y272 : Int32} {y273 : Int32} {y274 : Int32} {y275 : Int32} {y276 : Int32} {y277 : Int32} {y278 : Int32} {f279 : (Nat → Int32)} {lx324 : Int32} {p366 : (Int32 × (Nat → Int32))} {a357 : Int32} {f358 : (Nat → Int32)} (hW : wR t3_0 t4_0) (hD : gR t7_0 t8_0 t9_0 t10_0) (hB : nmB t18_0) (ha : a357.toInt ≤ 4100)  : ∀ (n : Nat) (lx376 : Int32), (0 ≤ lx376.toInt ∧ lx376.toInt ≤ 4100) → (4100 - lx376.toInt < (n : Int)) → (S_NM_toWhole_L96 x2 x3 x4 t0_0 t0_1 t0_2 t1_0 t1_1 t1_2 t1_3 t1_4 t1_5 t1_6 t2_0 t3_0 t4_0 t5_0 t6_0 t6_1 t6_2 t6_3 t6_4 t6_5 t6_6 t6_7 t6_8 t6_9 t6_10 t7_0 t8_0 t9_0 t10_0 t11_0 t12_0 t12_1 t12_2 t12_3 t12_4 t12_5 t12_6 t12_7 t12_8 t12_9 t12_10 t13_0 t14_0 t15_0 t16_0 t17_0 t18_0 p304 y268 y269 y270 y271 y272 y273 y274 y275 y276 y277 y278 f279 lx324 p366 a357 f358 n lx376) ∧ Q_NM_toWhole (F_NM_toWhole_L96 x2 x3 x4 t0_0 t0_1 t0_2 t1_0 t1_1 t1_2 t1_3 t1_4 t1_5 t1_6 t2_0 t3_0 t4_0 t5_0 t6_0 t6_1 t6_2 t6_3 t6_4 t6_5 t6_6 t6_7 t6_8 t6_9 t6_10 t7_0 t8_0 t9_0 t10_0 t11_0 t12_0 t12_1 t12_2 t12_3 t12_4 t12_5 t12_6 t12_7 t12_8 t12_9 t12_10 t13_0 t14_0 t15_0 t16_0 t17_0 t18_0 p304 y268 y269 y270 y271 y272 y273 y274 y275 y276 y277 y278 f279 lx324 p366 a357 f358 n lx376) := by
  intro n
  induction n with
  | zero => intro lx376 hA0 hm; exact absurd (show False by omega) id
  | succ n ih =>
    intro lx376 hA0 hm
    have e0 : (0 : Int32).toInt = 0 := rfl
    have e1 : (1 : Int32).toInt = 1 := rfl
    have eL0 : (0 : Int64).toInt = 0 := rfl
    have em : (-1 : Int32).toInt = -1 := rfl
    have n1600 : (1600 : Int32).toInt = 1600 := rfl
    have n2100 : (2100 : Int32).toInt = 2100 := rfl
    have n4100 : (4100 : Int32).toInt = 4100 := rfl
    have n12200 : (12200 : Int32).toInt = 12200 := rfl
    have n1074 : (1074 : Int32).toInt = 1074 := rfl
    have n46 : (46 : Int32).toInt = 46 := rfl
    have n48 : (48 : Int32).toInt = 48 := rfl
    rw [S_NM_toWhole_L96.eq_2, F_NM_toWhole_L96.eq_2]
    by_cases g1 : a357 ≤ lx376
    ·
      rw [if_pos g1, if_pos g1]
      have g1i : a357.toInt ≤ lx376.toInt := q_leI g1
      unfold S_NM_toWhole_J124 F_NM_toWhole_J124
      have h2 := T_WR_read (x2 := x4) (x3 := (10 : Int32)) (t0_0 := t1_0) (t0_1 := t1_1) (t0_2 := lx376) (t0_3 := t1_3) (t0_4 := t1_4) (t0_5 := t1_5) (t0_6 := t1_6) (t1_0 := f358) (t2_0 := t3_0) (t3_0 := t4_0) (t4_0 := t5_0) (by with_reducible assumption) ⟨by omega, by omega⟩
      with_reducible refine v_owe h2.1 ?_
      replace h2 := h2.2
      generalize F_WR_read x4 (10 : Int32) t1_0 t1_1 lx376 t1_3 t1_4 t1_5 t1_6 f358 t3_0 t4_0 t5_0 = p443 at *
      unfold Q_WR_read at h2
      unfold S_NM_toWhole_c168_9 F_NM_toWhole_c168_9
      by_cases g3 : (p443.1 : Int32) ≤ (0 : Int32)
      ·
        rw [if_pos g3, if_pos g3]
        refine ⟨trivial, ?_⟩
        exact nm_toWholeA (by with_reducible assumption)
      ·
        rw [if_neg g3, if_neg g3]
        refine ⟨trivial, ?_⟩
        exact nm_toWholeA (by with_reducible assumption)
    ·
      rw [if_neg g1, if_neg g1]
      have g1i : lx376.toInt < a357.toInt := q_nleI g1
      by_cases g4 : (f358 lx376.toNatClampNeg : Int32) = (46 : Int32)
      ·
        rw [if_pos g4, if_pos g4]
        unfold S_NM_toWhole_J124 F_NM_toWhole_J124
        have h5 := T_WR_read (x2 := x4) (x3 := (10 : Int32)) (t0_0 := t1_0) (t0_1 := t1_1) (t0_2 := lx376) (t0_3 := t1_3) (t0_4 := t1_4) (t0_5 := t1_5) (t0_6 := t1_6) (t1_0 := f358) (t2_0 := t3_0) (t3_0 := t4_0) (t4_0 := t5_0) (by with_reducible assumption) ⟨by omega, by omega⟩
        with_reducible refine v_owe h5.1 ?_
        replace h5 := h5.2
        generalize F_WR_read x4 (10 : Int32) t1_0 t1_1 lx376 t1_3 t1_4 t1_5 t1_6 f358 t3_0 t4_0 t5_0 = p443 at *
        unfold Q_WR_read at h5
        unfold S_NM_toWhole_c168_9 F_NM_toWhole_c168_9
        by_cases g6 : (p443.1 : Int32) ≤ (0 : Int32)
        ·
          rw [if_pos g6, if_pos g6]
          refine ⟨trivial, ?_⟩
          exact nm_toWholeA (by with_reducible assumption)
        ·
          rw [if_neg g6, if_neg g6]
          refine ⟨trivial, ?_⟩
          exact nm_toWholeA (by with_reducible assumption)
      ·
        rw [if_neg g4, if_neg g4]
        obtain ⟨a7, e8⟩ := q_nm (lx376 + 1 : Int32)
        rw [e8]
        have a7i : a7.toInt = lx376.toInt + 1 := by rw [← e8]; exact q_addI (x := lx376.toInt) (y := 1) rfl (by decide) (by omega) (by omega)
        exact ih _ ⟨by omega, by omega⟩ (by omega)
theorem T_NM_toWhole {x2 : Int32} {x3 : Int32} {x4 : Int32} {t0_0 : Int32} {t0_1 : Int32} {t0_2 : Int32} {t1_0 : Int32} {t1_1 : Int32} {t1_2 : Int32} {t1_3 : Int32} {t1_4 : Int32} {t1_5 : Int32} {t1_6 : Int32} {t2_0 : (Nat → Int32)} {t3_0 : (Nat → Int32)} {t4_0 : (Nat → Int32)} {t5_0 : (Nat → Int32)} {t6_0 : Int32} {t6_1 : Int32} {t6_2 : Int32} {t6_3 : Int64} {t6_4 : Int32} {t6_5 : Int32} {t6_6 : Int32} {t6_7 : Int32} {t6_8 : Int32} {t6_9 : Int32} {t6_10 : Int32} {t7_0 : (Nat → Int32)} {t8_0 : (Nat → Int32)} {t9_0 : (Nat → Int32)} {t10_0 : (Nat → Int32)} {t11_0 : (Nat → Int32)} {t12_0 : Int32} {t12_1 : Int32} {t12_2 : Int32} {t12_3 : Int32} {t12_4 : Int64} {t12_5 : Int32} {t12_6 : Int32} {t12_7 : Int64} {t12_8 : Int32} {t12_9 : Int64} {t12_10 : Int32} {t13_0 : (Nat → Int32)} {t14_0 : (Nat → Int32)} {t15_0 : (Nat → Int32)} {t16_0 : (Nat → Int32)} {t17_0 : (Nat → Int32)} {t18_0 : (Nat → Int64)} (hW : wR t3_0 t4_0) (hD : gR t7_0 t8_0 t9_0 t10_0) (hB : nmB t18_0) (hx3 : 0 ≤ x3.toInt ∧ x3.toInt ≤ 9)  : (S_NM_toWhole x2 x3 x4 t0_0 t0_1 t0_2 t1_0 t1_1 t1_2 t1_3 t1_4 t1_5 t1_6 t2_0 t3_0 t4_0 t5_0 t6_0 t6_1 t6_2 t6_3 t6_4 t6_5 t6_6 t6_7 t6_8 t6_9 t6_10 t7_0 t8_0 t9_0 t10_0 t11_0 t12_0 t12_1 t12_2 t12_3 t12_4 t12_5 t12_6 t12_7 t12_8 t12_9 t12_10 t13_0 t14_0 t15_0 t16_0 t17_0 t18_0) ∧ Q_NM_toWhole (F_NM_toWhole x2 x3 x4 t0_0 t0_1 t0_2 t1_0 t1_1 t1_2 t1_3 t1_4 t1_5 t1_6 t2_0 t3_0 t4_0 t5_0 t6_0 t6_1 t6_2 t6_3 t6_4 t6_5 t6_6 t6_7 t6_8 t6_9 t6_10 t7_0 t8_0 t9_0 t10_0 t11_0 t12_0 t12_1 t12_2 t12_3 t12_4 t12_5 t12_6 t12_7 t12_8 t12_9 t12_10 t13_0 t14_0 t15_0 t16_0 t17_0 t18_0) := by
  have e0 : (0 : Int32).toInt = 0 := rfl
  have e1 : (1 : Int32).toInt = 1 := rfl
  have eL0 : (0 : Int64).toInt = 0 := rfl
  have em : (-1 : Int32).toInt = -1 := rfl
  have n1600 : (1600 : Int32).toInt = 1600 := rfl
  have n2100 : (2100 : Int32).toInt = 2100 := rfl
  have n4100 : (4100 : Int32).toInt = 4100 := rfl
  have n12200 : (12200 : Int32).toInt = 12200 := rfl
  have n1074 : (1074 : Int32).toInt = 1074 := rfl
  have n46 : (46 : Int32).toInt = 46 := rfl
  have n48 : (48 : Int32).toInt = 48 := rfl
  unfold S_NM_toWhole F_NM_toWhole
  by_cases g1 : x2 = (1 : Int32)
  ·
    rw [if_pos g1, if_pos g1]
    refine v_cons (by first | omega | decide) ?_
    refine v_cons (by first | omega | decide) ?_
    by_cases g2 : (lg_cmp (-((t10_0 x3.toNatClampNeg : Int32).toInt64 : Int64) : Int64) 1300 : Int32) ≤ (0 : Int32)
    ·
      rw [if_pos g2, if_pos g2]
      unfold S_NM_toWhole_J47 F_NM_toWhole_J47
      have h3 := T_DR_written (x2 := x3) (x3 := (1 : Int32)) (t0_0 := t6_0) (t0_1 := t6_1) (t0_2 := t6_2) (t0_3 := t6_3) (t0_4 := t6_4) (t0_5 := t6_5) (t0_6 := t6_6) (t0_7 := t6_7) (t0_8 := t6_8) (t0_9 := t6_9) (t0_10 := t6_10) (t1_0 := t7_0) (t2_0 := t8_0) (t3_0 := t9_0) (t4_0 := t10_0) (t5_0 := t11_0) (by with_reducible assumption)
      with_reducible refine v_owe h3.1 ?_
      replace h3 := h3.2
      generalize F_DR_written x3 (1 : Int32) t6_0 t6_1 t6_2 t6_3 t6_4 t6_5 t6_6 t6_7 t6_8 t6_9 t6_10 t7_0 t8_0 t9_0 t10_0 t11_0 = p304 at *
      unfold Q_DR_written at h3
      unfold S_NM_toWhole_c53 F_NM_toWhole_c53
      by_cases g4 : (p304.1 : Int32) ≤ (4100 : Int32)
      ·
        rw [if_pos g4, if_pos g4]
        have g4i := q_leI g4
        unfold S_NM_toWhole_J81 F_NM_toWhole_J81
        have h5 := T_NM_load (N1 := (12200 : Int32)) (x2 := (p304.1 : Int32)) (N3 := (4100 : Int32)) (t0_0 := (p304.2.2.2.2.2.2.2.2.2.2.2.2 : (Nat → Int32))) (t1_0 := t2_0) (by first | omega | decide) (by first | omega | decide) (by first | omega | decide)
        with_reducible refine v_owe h5.1 ?_
        replace h5 := h5.2
        generalize F_NM_load (12200 : Int32) (p304.1 : Int32) (4100 : Int32) (p304.2.2.2.2.2.2.2.2.2.2.2.2 : (Nat → Int32)) t2_0 = p366 at *
        have qL := h5
        have eL := congrArg Int32.toInt h5.1
        unfold S_NM_toWhole_c88 F_NM_toWhole_c88
        exact vm_tw hW hD hB (by omega) _ _ (by decide) (by decide)
      ·
        rw [if_neg g4, if_neg g4]
        unfold S_NM_toWhole_J81 F_NM_toWhole_J81
        have h6 := T_NM_load (N1 := (12200 : Int32)) (x2 := (4100 : Int32)) (N3 := (4100 : Int32)) (t0_0 := (p304.2.2.2.2.2.2.2.2.2.2.2.2 : (Nat → Int32))) (t1_0 := t2_0) (by first | omega | decide) (by first | omega | decide) (by first | omega | decide)
        with_reducible refine v_owe h6.1 ?_
        replace h6 := h6.2
        generalize F_NM_load (12200 : Int32) (4100 : Int32) (4100 : Int32) (p304.2.2.2.2.2.2.2.2.2.2.2.2 : (Nat → Int32)) t2_0 = p366 at *
        have qL := h6
        have eL := congrArg Int32.toInt h6.1
        unfold S_NM_toWhole_c88 F_NM_toWhole_c88
        exact vm_tw hW hD hB (by omega) _ _ (by decide) (by decide)
    ·
      rw [if_neg g2, if_neg g2]
      have h7 := R_dz (x2 := x3) (t0_0 := t6_0) (t0_1 := t6_1) (t0_2 := t6_2) (t0_3 := t6_3) (t0_4 := t6_4) (t0_5 := t6_5) (t0_6 := t6_6) (t0_7 := t6_7) (t0_8 := t6_8) (t0_9 := t6_9) (t0_10 := t6_10) (t1_0 := t7_0) hx3
      with_reducible refine v_owe h7.1 ?_
      by_cases g8 : ((F_DR_isZero x3 t6_0 t6_1 t6_2 t6_3 t6_4 t6_5 t6_6 t6_7 t6_8 t6_9 t6_10 t7_0) : Int32) = (0 : Int32)
      ·
        rw [if_pos g8, if_pos g8]
        refine ⟨trivial, ?_⟩
        exact nm_toWholeA (by with_reducible assumption)
      ·
        rw [if_neg g8, if_neg g8]
        unfold S_NM_toWhole_J47 F_NM_toWhole_J47
        have h9 := T_DR_written (x2 := x3) (x3 := (1 : Int32)) (t0_0 := t6_0) (t0_1 := t6_1) (t0_2 := t6_2) (t0_3 := t6_3) (t0_4 := t6_4) (t0_5 := t6_5) (t0_6 := t6_6) (t0_7 := t6_7) (t0_8 := t6_8) (t0_9 := t6_9) (t0_10 := t6_10) (t1_0 := t7_0) (t2_0 := t8_0) (t3_0 := t9_0) (t4_0 := t10_0) (t5_0 := t11_0) (by with_reducible assumption)
        with_reducible refine v_owe h9.1 ?_
        replace h9 := h9.2
        generalize F_DR_written x3 (1 : Int32) t6_0 t6_1 t6_2 t6_3 t6_4 t6_5 t6_6 t6_7 t6_8 t6_9 t6_10 t7_0 t8_0 t9_0 t10_0 t11_0 = p304 at *
        unfold Q_DR_written at h9
        unfold S_NM_toWhole_c53 F_NM_toWhole_c53
        by_cases g10 : (p304.1 : Int32) ≤ (4100 : Int32)
        ·
          rw [if_pos g10, if_pos g10]
          have g10i := q_leI g10
          unfold S_NM_toWhole_J81 F_NM_toWhole_J81
          have h11 := T_NM_load (N1 := (12200 : Int32)) (x2 := (p304.1 : Int32)) (N3 := (4100 : Int32)) (t0_0 := (p304.2.2.2.2.2.2.2.2.2.2.2.2 : (Nat → Int32))) (t1_0 := t2_0) (by first | omega | decide) (by first | omega | decide) (by first | omega | decide)
          with_reducible refine v_owe h11.1 ?_
          replace h11 := h11.2
          generalize F_NM_load (12200 : Int32) (p304.1 : Int32) (4100 : Int32) (p304.2.2.2.2.2.2.2.2.2.2.2.2 : (Nat → Int32)) t2_0 = p366 at *
          have qL := h11
          have eL := congrArg Int32.toInt h11.1
          unfold S_NM_toWhole_c88 F_NM_toWhole_c88
          exact vm_tw hW hD hB (by omega) _ _ (by decide) (by decide)
        ·
          rw [if_neg g10, if_neg g10]
          unfold S_NM_toWhole_J81 F_NM_toWhole_J81
          have h12 := T_NM_load (N1 := (12200 : Int32)) (x2 := (4100 : Int32)) (N3 := (4100 : Int32)) (t0_0 := (p304.2.2.2.2.2.2.2.2.2.2.2.2 : (Nat → Int32))) (t1_0 := t2_0) (by first | omega | decide) (by first | omega | decide) (by first | omega | decide)
          with_reducible refine v_owe h12.1 ?_
          replace h12 := h12.2
          generalize F_NM_load (12200 : Int32) (4100 : Int32) (4100 : Int32) (p304.2.2.2.2.2.2.2.2.2.2.2.2 : (Nat → Int32)) t2_0 = p366 at *
          have qL := h12
          have eL := congrArg Int32.toInt h12.1
          unfold S_NM_toWhole_c88 F_NM_toWhole_c88
          exact vm_tw hW hD hB (by omega) _ _ (by decide) (by decide)
  ·
    rw [if_neg g1, if_neg g1]
    have h13 := T_NM_bitsOf (x2 := x2) (x3 := x3) (t0_0 := t0_0) (t0_1 := t0_1) (t0_2 := t0_2) (t1_0 := t18_0) hx3
    with_reducible refine v_owe h13 ?_
    have h14 := T_NM_exact (x2 := x2) (x3 := ((F_NM_bitsOf x2 x3 t0_0 t0_1 t0_2 t18_0) : Int64)) (x4 := (0 : Int32)) (N5 := (4100 : Int32)) (t0_0 := t0_0) (t0_1 := t0_1) (t0_2 := t0_2) (t1_0 := t12_0) (t1_1 := t12_1) (t1_2 := t12_2) (t1_3 := t12_3) (t1_4 := t12_4) (t1_5 := t12_5) (t1_6 := t12_6) (t1_7 := t12_7) (t1_8 := t12_8) (t1_9 := t12_9) (t1_10 := t12_10) (t2_0 := t13_0) (t3_0 := t14_0) (t4_0 := t15_0) (t5_0 := t16_0) (t6_0 := t17_0) (t7_0 := t2_0) (by decide)
    with_reducible refine v_owe h14.1 ?_
    replace h14 := h14.2
    generalize F_NM_exact x2 ((F_NM_bitsOf x2 x3 t0_0 t0_1 t0_2 t18_0) : Int64) (0 : Int32) (4100 : Int32) t0_0 t0_1 t0_2 t12_0 t12_1 t12_2 t12_3 t12_4 t12_5 t12_6 t12_7 t12_8 t12_9 t12_10 t13_0 t14_0 t15_0 t16_0 t17_0 t2_0 = p139 at *
    unfold Q_NM_exact at h14
    have qE := h14
    unfold S_NM_toWhole_c147 F_NM_toWhole_c147
    refine v_cons (by first | omega | decide) ?_
    have h15 := T_WR_read (x2 := x4) (x3 := (10 : Int32)) (t0_0 := t1_0) (t0_1 := t1_1) (t0_2 := (p139.1 : Int32)) (t0_3 := t1_3) (t0_4 := t1_4) (t0_5 := t1_5) (t0_6 := t1_6) (t1_0 := (p139.2.2.2.2.2.2.2.2.2.2.2.2.2.2.2.2.2 : (Nat → Int32))) (t2_0 := t3_0) (t3_0 := t4_0) (t4_0 := t5_0) (by with_reducible assumption) ⟨by omega, by omega⟩
    with_reducible refine v_owe h15.1 ?_
    replace h15 := h15.2
    generalize F_WR_read x4 (10 : Int32) t1_0 t1_1 (p139.1 : Int32) t1_3 t1_4 t1_5 t1_6 (p139.2.2.2.2.2.2.2.2.2.2.2.2.2.2.2.2.2 : (Nat → Int32)) t3_0 t4_0 t5_0 = p198 at *
    unfold Q_WR_read at h15
    unfold S_NM_toWhole_c168 F_NM_toWhole_c168
    by_cases g16 : (p198.1 : Int32) ≤ (0 : Int32)
    ·
      rw [if_pos g16, if_pos g16]
      refine ⟨trivial, ?_⟩
      exact nm_toWholeA (by with_reducible assumption)
    ·
      rw [if_neg g16, if_neg g16]
      refine ⟨trivial, ?_⟩
      exact nm_toWholeA (by with_reducible assumption)
theorem nm_kp {f : Nat → Int32} {n a m : Int32} (h : fxK f n) (ha : a.toInt = n.toInt - 1) (h0 : 0 ≤ a.toInt) (g : f a.toNatClampNeg = 48) (hm : m.toInt = n.toInt - 1) : fxK f m := by
  obtain ⟨k, x, y⟩ := h
  have c := q_clI (i := a) rfl h0
  refine ⟨k, ?_, y⟩
  by_cases d : k = a.toNatClampNeg
  · rw [d, g] at y; exact absurd y (by decide)
  · omega
theorem fxK.pos {f : Nat → Int32} {n : Int32} (h : fxK f n) : 1 ≤ n.toInt := by
  obtain ⟨k, x, -⟩ := h; omega
theorem nm_if0 {k : Int32} (h : F_NM_isFloat k = 0) : k.toInt ≤ 1 := by
  unfold F_NM_isFloat at h
  by_cases c : k ≤ 1
  · exact q_leI c
  · rw [if_neg c] at h; exact absurd h (by decide)
theorem nm_if1 {k : Int32} (h : ¬ F_NM_isFloat k = 0) : 2 ≤ k.toInt := by
  unfold F_NM_isFloat at h
  by_cases c : k ≤ 1
  · rw [if_pos c] at h; exact absurd rfl h
  · have := q_nleI c; have e : (1 : Int32).toInt = 1 := rfl; omega
theorem nm_bo {k r a b c : Int32} {f : Nat → Int64} (h : nmB f) (hr : 0 ≤ r.toInt ∧ r.toInt ≤ 9) (e : k = 3) : 0 ≤ (F_NM_bitsOf k r a b c f).toInt ∧ (F_NM_bitsOf k r a b c f).toInt < 4294967296 := by
  unfold F_NM_bitsOf
  rw [if_pos e]
  have e1 : (10 + r : Int32).toInt = 10 + r.toInt := q_addI (x := 10) (by decide) rfl (by omega) (by omega)
  have e2 := q_clI (i := 10 + r) rfl (by omega)
  exact h _ (by omega) (by omega)
def Q_NM_toDecimal (p : Int32 × Int32 × Int32 × Int32 × Int32 × Int32 × Int32 × Int32 × (Nat → Int32) × (Nat → Int32) × Int32 × Int32 × Int32 × Int64 × Int32 × Int32 × Int32 × Int32 × Int32 × Int32 × Int32 × (Nat → Int32) × (Nat → Int32) × (Nat → Int32) × (Nat → Int32) × (Nat → Int32) × (Nat → Int32) × Int32 × Int32 × Int32 × Int32 × Int64 × Int32 × Int32 × Int64 × Int32 × Int64 × Int32 × (Nat → Int32) × (Nat → Int32) × (Nat → Int32) × (Nat → Int32) × (Nat → Int32)) : Prop := gR p.2.2.2.2.2.2.2.2.2.2.2.2.2.2.2.2.2.2.2.2.2.2.1 p.2.2.2.2.2.2.2.2.2.2.2.2.2.2.2.2.2.2.2.2.2.2.2.1 p.2.2.2.2.2.2.2.2.2.2.2.2.2.2.2.2.2.2.2.2.2.2.2.2.1 p.2.2.2.2.2.2.2.2.2.2.2.2.2.2.2.2.2.2.2.2.2.2.2.2.2.1
theorem nm_toDecimalA {c0 : Int32} {c1 : Int32} {c2 : Int32} {c3 : Int32} {c4 : Int32} {c5 : Int32} {c6 : Int32} {c7 : Int32} {c8 : (Nat → Int32)} {c9 : (Nat → Int32)} {c10 : Int32} {c11 : Int32} {c12 : Int32} {c13 : Int64} {c14 : Int32} {c15 : Int32} {c16 : Int32} {c17 : Int32} {c18 : Int32} {c19 : Int32} {c20 : Int32} {c21 : (Nat → Int32)} {c22 : (Nat → Int32)} {c23 : (Nat → Int32)} {c24 : (Nat → Int32)} {c25 : (Nat → Int32)} {c26 : (Nat → Int32)} {c27 : Int32} {c28 : Int32} {c29 : Int32} {c30 : Int32} {c31 : Int64} {c32 : Int32} {c33 : Int32} {c34 : Int64} {c35 : Int32} {c36 : Int64} {c37 : Int32} {c38 : (Nat → Int32)} {c39 : (Nat → Int32)} {c40 : (Nat → Int32)} {c41 : (Nat → Int32)} {c42 : (Nat → Int32)} (h0 : gR c22 c23 c24 c25) : Q_NM_toDecimal (c0, c1, c2, c3, c4, c5, c6, c7, c8, c9, c10, c11, c12, c13, c14, c15, c16, c17, c18, c19, c20, c21, c22, c23, c24, c25, c26, c27, c28, c29, c30, c31, c32, c33, c34, c35, c36, c37, c38, c39, c40, c41, c42) := h0
theorem vm_td {x2 : Int32} {x3 : Int32} {x4 : Int32} {t0_0 : Int32} {t0_1 : Int32} {t0_2 : Int32} {t1_0 : Int32} {t1_1 : Int32} {t1_2 : Int32} {t1_3 : Int32} {t1_4 : Int32} {t1_5 : Int32} {t1_6 : Int32} {t2_0 : (Nat → Int32)} {t3_0 : (Nat → Int32)} {t4_0 : (Nat → Int32)} {t5_0 : (Nat → Int32)} {t6_0 : Int32} {t6_1 : Int32} {t6_2 : Int32} {t6_3 : Int64} {t6_4 : Int32} {t6_5 : Int32} {t6_6 : Int32} {t6_7 : Int32} {t6_8 : Int32} {t6_9 : Int32} {t6_10 : Int32} {t7_0 : (Nat → Int32)} {t8_0 : (Nat → Int32)} {t9_0 : (Nat → Int32)} {t10_0 : (Nat → Int32)} {t11_0 : (Nat → Int32)} {t12_0 : (Nat → Int32)} {t13_0 : Int32} {t13_1 : Int32} {t13_2 : Int32} {t13_3 : Int32} {t13_4 : Int64} {t13_5 : Int32} {t13_6 : Int32} {t13_7 : Int64} {t13_8 : Int32} {t13_9 : Int64} {t13_10 : Int32} {t14_0 : (Nat → Int32)} {t15_0 : (Nat → Int32)} {t16_0 : (Nat → Int32)} {t17_0 : (Nat → Int32)} {t18_0 : (Nat → Int32)} {t19_0 : (Nat → Int64)} {p142 : (Int32 × Int32 × Int32 × Int32 × Int32 × Int64 × Int32 × Int32 × Int64 × Int32 × Int64 × Int32 × (Nat → Int32) × (Nat → Int32) × (Nat → Int32) × (Nat → Int32) × (Nat → Int32) × (Nat → Int32))} {f130 : (Nat → Int32)} {y109 : Int32} {y110 : Int32} {y111 : Int32} {y112 : Int32} {y113 : Int64} {y114 : Int32} {y115 : Int32} {y116 : Int64} {y117 : Int32} {y118 : Int64} {y119 : Int32} {f120 : (Nat → Int32)} {f122 : (Nat → Int32)} {f124 : (Nat → Int32)} {f126 : (Nat → Int32)} {f128 : (Nat → Int32)} (hW : wR t2_0 t3_0) (hD : gR t8_0 t9_0 t10_0 t11_0) (hB : nmB t19_0)  : ∀ (n : Nat) (lx168 : Int32), (fxK f130 lx168) → (lx168.toInt ≤ 1600) → (lx168.toInt < (n : Int)) → (S_NM_toDecimal_L62 x2 x3 x4 t0_0 t0_1 t0_2 t1_0 t1_1 t1_2 t1_3 t1_4 t1_5 t1_6 t2_0 t3_0 t4_0 t5_0 t6_0 t6_1 t6_2 t6_3 t6_4 t6_5 t6_6 t6_7 t6_8 t6_9 t6_10 t7_0 t8_0 t9_0 t10_0 t11_0 t12_0 t13_0 t13_1 t13_2 t13_3 t13_4 t13_5 t13_6 t13_7 t13_8 t13_9 t13_10 t14_0 t15_0 t16_0 t17_0 t18_0 t19_0 p142 f130 y109 y110 y111 y112 y113 y114 y115 y116 y117 y118 y119 f120 f122 f124 f126 f128 n lx168) ∧ Q_NM_toDecimal (F_NM_toDecimal_L62 x2 x3 x4 t0_0 t0_1 t0_2 t1_0 t1_1 t1_2 t1_3 t1_4 t1_5 t1_6 t2_0 t3_0 t4_0 t5_0 t6_0 t6_1 t6_2 t6_3 t6_4 t6_5 t6_6 t6_7 t6_8 t6_9 t6_10 t7_0 t8_0 t9_0 t10_0 t11_0 t12_0 t13_0 t13_1 t13_2 t13_3 t13_4 t13_5 t13_6 t13_7 t13_8 t13_9 t13_10 t14_0 t15_0 t16_0 t17_0 t18_0 t19_0 p142 f130 y109 y110 y111 y112 y113 y114 y115 y116 y117 y118 y119 f120 f122 f124 f126 f128 n lx168) := by
  intro n
  induction n with
  | zero => intro lx168 hk hA0 hm; have := hk.pos; exact absurd (show False by omega) id
  | succ n ih =>
    intro lx168 hk hA0 hm
    have e0 : (0 : Int32).toInt = 0 := rfl
    have e1 : (1 : Int32).toInt = 1 := rfl
    have eL0 : (0 : Int64).toInt = 0 := rfl
    have em : (-1 : Int32).toInt = -1 := rfl
    have n1600 : (1600 : Int32).toInt = 1600 := rfl
    have n2100 : (2100 : Int32).toInt = 2100 := rfl
    have n4100 : (4100 : Int32).toInt = 4100 := rfl
    have n12200 : (12200 : Int32).toInt = 12200 := rfl
    have n1074 : (1074 : Int32).toInt = 1074 := rfl
    have n46 : (46 : Int32).toInt = 46 := rfl
    have n48 : (48 : Int32).toInt = 48 := rfl
    have hp1 := hk.pos
    rw [S_NM_toDecimal_L62.eq_2, F_NM_toDecimal_L62.eq_2]
    obtain ⟨a1, e2⟩ := q_nm (lx168 - 1 : Int32)
    rw [e2]
    have a1i : a1.toInt = lx168.toInt - 1 := by rw [← e2]; exact q_subI (x := lx168.toInt) (y := 1) rfl (by decide) (by omega) (by omega)
    refine v_cons (by first | omega | decide) ?_
    refine v_cons (by first | omega | decide) ?_
    by_cases g3 : (f130 a1.toNatClampNeg : Int32) = (48 : Int32)
    ·
      rw [if_pos g3, if_pos g3]
      have g48 := g3
      obtain ⟨a4, e5⟩ := q_nm (lx168 + (-1) : Int32)
      rw [e5]
      have a4i : a4.toInt = lx168.toInt + (-1) := by rw [← e5]; exact q_addI (x := lx168.toInt) (y := (-1)) rfl (by decide) (by omega) (by omega)
      exact ih _ (nm_kp hk (a := a1) (by omega) (by omega) g48 (by omega)) (by omega) (by omega)
    ·
      rw [if_neg g3, if_neg g3]
      refine v_cons (by first | omega | decide) ?_
      refine v_cons (by first | omega | decide) ?_
      by_cases g6 : (f130 a1.toNatClampNeg : Int32) = (46 : Int32)
      ·
        rw [if_pos g6, if_pos g6]
        unfold S_NM_toDecimal_J111 F_NM_toDecimal_J111
        refine v_cons (by first | omega | decide) ?_
        refine v_cons (by first | omega | decide) ?_
        have h7 := T_DR_read (x2 := x4) (t0_0 := t6_0) (t0_1 := a1) (t0_2 := t6_2) (t0_3 := t6_3) (t0_4 := t6_4) (t0_5 := t6_5) (t0_6 := t6_6) (t0_7 := t6_7) (t0_8 := t6_8) (t0_9 := t6_9) (t0_10 := t6_10) (t1_0 := f130) (t2_0 := t8_0) (t3_0 := t9_0) (t4_0 := t10_0) (t5_0 := t11_0) (t6_0 := t12_0) (by with_reducible assumption) ⟨by omega, by omega⟩
        with_reducible refine v_owe h7.1 ?_
        replace h7 := h7.2
        generalize F_DR_read x4 t6_0 a1 t6_2 t6_3 t6_4 t6_5 t6_6 t6_7 t6_8 t6_9 t6_10 f130 t8_0 t9_0 t10_0 t11_0 t12_0 = p261 at *
        unfold Q_DR_read at h7
        unfold S_NM_toDecimal_c127 F_NM_toDecimal_c127
        by_cases g8 : (p261.1 : Int32) ≤ (0 : Int32)
        ·
          rw [if_pos g8, if_pos g8]
          refine ⟨trivial, ?_⟩
          exact nm_toDecimalA (by with_reducible assumption)
        ·
          rw [if_neg g8, if_neg g8]
          refine ⟨trivial, ?_⟩
          exact nm_toDecimalA (by with_reducible assumption)
      ·
        rw [if_neg g6, if_neg g6]
        unfold S_NM_toDecimal_J111 F_NM_toDecimal_J111
        refine v_cons (by first | omega | decide) ?_
        refine v_cons (by first | omega | decide) ?_
        have h9 := T_DR_read (x2 := x4) (t0_0 := t6_0) (t0_1 := lx168) (t0_2 := t6_2) (t0_3 := t6_3) (t0_4 := t6_4) (t0_5 := t6_5) (t0_6 := t6_6) (t0_7 := t6_7) (t0_8 := t6_8) (t0_9 := t6_9) (t0_10 := t6_10) (t1_0 := f130) (t2_0 := t8_0) (t3_0 := t9_0) (t4_0 := t10_0) (t5_0 := t11_0) (t6_0 := t12_0) (by with_reducible assumption) ⟨by omega, by omega⟩
        with_reducible refine v_owe h9.1 ?_
        replace h9 := h9.2
        generalize F_DR_read x4 t6_0 lx168 t6_2 t6_3 t6_4 t6_5 t6_6 t6_7 t6_8 t6_9 t6_10 f130 t8_0 t9_0 t10_0 t11_0 t12_0 = p261 at *
        unfold Q_DR_read at h9
        unfold S_NM_toDecimal_c127 F_NM_toDecimal_c127
        by_cases g10 : (p261.1 : Int32) ≤ (0 : Int32)
        ·
          rw [if_pos g10, if_pos g10]
          refine ⟨trivial, ?_⟩
          exact nm_toDecimalA (by with_reducible assumption)
        ·
          rw [if_neg g10, if_neg g10]
          refine ⟨trivial, ?_⟩
          exact nm_toDecimalA (by with_reducible assumption)
theorem T_NM_toDecimal {x2 : Int32} {x3 : Int32} {x4 : Int32} {t0_0 : Int32} {t0_1 : Int32} {t0_2 : Int32} {t1_0 : Int32} {t1_1 : Int32} {t1_2 : Int32} {t1_3 : Int32} {t1_4 : Int32} {t1_5 : Int32} {t1_6 : Int32} {t2_0 : (Nat → Int32)} {t3_0 : (Nat → Int32)} {t4_0 : (Nat → Int32)} {t5_0 : (Nat → Int32)} {t6_0 : Int32} {t6_1 : Int32} {t6_2 : Int32} {t6_3 : Int64} {t6_4 : Int32} {t6_5 : Int32} {t6_6 : Int32} {t6_7 : Int32} {t6_8 : Int32} {t6_9 : Int32} {t6_10 : Int32} {t7_0 : (Nat → Int32)} {t8_0 : (Nat → Int32)} {t9_0 : (Nat → Int32)} {t10_0 : (Nat → Int32)} {t11_0 : (Nat → Int32)} {t12_0 : (Nat → Int32)} {t13_0 : Int32} {t13_1 : Int32} {t13_2 : Int32} {t13_3 : Int32} {t13_4 : Int64} {t13_5 : Int32} {t13_6 : Int32} {t13_7 : Int64} {t13_8 : Int32} {t13_9 : Int64} {t13_10 : Int32} {t14_0 : (Nat → Int32)} {t15_0 : (Nat → Int32)} {t16_0 : (Nat → Int32)} {t17_0 : (Nat → Int32)} {t18_0 : (Nat → Int32)} {t19_0 : (Nat → Int64)} (hW : wR t2_0 t3_0) (hD : gR t8_0 t9_0 t10_0 t11_0) (hB : nmB t19_0) (hx3 : 0 ≤ x3.toInt ∧ x3.toInt ≤ 9) (hV : ¬ x2 = 0 → nmV x2 (F_NM_bitsOf x2 x3 t0_0 t0_1 t0_2 t19_0))  : (S_NM_toDecimal x2 x3 x4 t0_0 t0_1 t0_2 t1_0 t1_1 t1_2 t1_3 t1_4 t1_5 t1_6 t2_0 t3_0 t4_0 t5_0 t6_0 t6_1 t6_2 t6_3 t6_4 t6_5 t6_6 t6_7 t6_8 t6_9 t6_10 t7_0 t8_0 t9_0 t10_0 t11_0 t12_0 t13_0 t13_1 t13_2 t13_3 t13_4 t13_5 t13_6 t13_7 t13_8 t13_9 t13_10 t14_0 t15_0 t16_0 t17_0 t18_0 t19_0) ∧ Q_NM_toDecimal (F_NM_toDecimal x2 x3 x4 t0_0 t0_1 t0_2 t1_0 t1_1 t1_2 t1_3 t1_4 t1_5 t1_6 t2_0 t3_0 t4_0 t5_0 t6_0 t6_1 t6_2 t6_3 t6_4 t6_5 t6_6 t6_7 t6_8 t6_9 t6_10 t7_0 t8_0 t9_0 t10_0 t11_0 t12_0 t13_0 t13_1 t13_2 t13_3 t13_4 t13_5 t13_6 t13_7 t13_8 t13_9 t13_10 t14_0 t15_0 t16_0 t17_0 t18_0 t19_0) := by
  have e0 : (0 : Int32).toInt = 0 := rfl
  have e1 : (1 : Int32).toInt = 1 := rfl
  have eL0 : (0 : Int64).toInt = 0 := rfl
  have em : (-1 : Int32).toInt = -1 := rfl
  have n1600 : (1600 : Int32).toInt = 1600 := rfl
  have n2100 : (2100 : Int32).toInt = 2100 := rfl
  have n4100 : (4100 : Int32).toInt = 4100 := rfl
  have n12200 : (12200 : Int32).toInt = 12200 := rfl
  have n1074 : (1074 : Int32).toInt = 1074 := rfl
  have n46 : (46 : Int32).toInt = 46 := rfl
  have n48 : (48 : Int32).toInt = 48 := rfl
  unfold S_NM_toDecimal F_NM_toDecimal
  by_cases g1 : x2 = (0 : Int32)
  ·
    rw [if_pos g1, if_pos g1]
    have h2 := T_WR_written (x2 := x3) (x3 := (10 : Int32)) (t0_0 := t1_0) (t0_1 := t1_1) (t0_2 := t1_2) (t0_3 := t1_3) (t0_4 := t1_4) (t0_5 := t1_5) (t0_6 := t1_6) (t1_0 := t2_0) (t2_0 := t3_0) (t3_0 := t4_0) (t4_0 := t5_0) (by with_reducible assumption)
    with_reducible refine v_owe h2.1 ?_
    replace h2 := h2.2
    generalize F_WR_written x3 (10 : Int32) t1_0 t1_1 t1_2 t1_3 t1_4 t1_5 t1_6 t2_0 t3_0 t4_0 t5_0 = p336 at *
    unfold Q_WR_written at h2
    unfold S_NM_toDecimal_c21 F_NM_toDecimal_c21
    have h3 := T_NM_load (N1 := (2100 : Int32)) (x2 := (p336.1 : Int32)) (N3 := (4100 : Int32)) (t0_0 := (p336.2.2.2.2.2.2.2.2.2 : (Nat → Int32))) (t1_0 := t7_0) (by first | omega | decide) (by first | omega | decide) (by first | omega | decide)
    with_reducible refine v_owe h3.1 ?_
    replace h3 := h3.2
    generalize F_NM_load (2100 : Int32) (p336.1 : Int32) (4100 : Int32) (p336.2.2.2.2.2.2.2.2.2 : (Nat → Int32)) t7_0 = p365 at *
    have qL := h3
    have eL := congrArg Int32.toInt h3.1
    unfold S_NM_toDecimal_c31 F_NM_toDecimal_c31
    have h4 := T_DR_read (x2 := x4) (t0_0 := t6_0) (t0_1 := (p365.1 : Int32)) (t0_2 := t6_2) (t0_3 := t6_3) (t0_4 := t6_4) (t0_5 := t6_5) (t0_6 := t6_6) (t0_7 := t6_7) (t0_8 := t6_8) (t0_9 := t6_9) (t0_10 := t6_10) (t1_0 := (p365.2 : (Nat → Int32))) (t2_0 := t8_0) (t3_0 := t9_0) (t4_0 := t10_0) (t5_0 := t11_0) (t6_0 := t12_0) (by with_reducible assumption) ⟨by omega, by omega⟩
    with_reducible refine v_owe h4.1 ?_
    replace h4 := h4.2
    generalize F_DR_read x4 t6_0 (p365.1 : Int32) t6_2 t6_3 t6_4 t6_5 t6_6 t6_7 t6_8 t6_9 t6_10 (p365.2 : (Nat → Int32)) t8_0 t9_0 t10_0 t11_0 t12_0 = p417 at *
    unfold Q_DR_read at h4
    unfold S_NM_toDecimal_c127_7 F_NM_toDecimal_c127_7
    by_cases g5 : (p417.1 : Int32) ≤ (0 : Int32)
    ·
      rw [if_pos g5, if_pos g5]
      refine ⟨trivial, ?_⟩
      exact nm_toDecimalA (by with_reducible assumption)
    ·
      rw [if_neg g5, if_neg g5]
      refine ⟨trivial, ?_⟩
      exact nm_toDecimalA (by with_reducible assumption)
  ·
    rw [if_neg g1, if_neg g1]
    have hv := hV g1
    have h6 := T_NM_bitsOf (x2 := x2) (x3 := x3) (t0_0 := t0_0) (t0_1 := t0_1) (t0_2 := t0_2) (t1_0 := t19_0) hx3
    with_reducible refine v_owe h6 ?_
    have h7 := T_NM_exact (x2 := x2) (x3 := ((F_NM_bitsOf x2 x3 t0_0 t0_1 t0_2 t19_0) : Int64)) (x4 := (1074 : Int32)) (N5 := (4100 : Int32)) (t0_0 := t0_0) (t0_1 := t0_1) (t0_2 := t0_2) (t1_0 := t13_0) (t1_1 := t13_1) (t1_2 := t13_2) (t1_3 := t13_3) (t1_4 := t13_4) (t1_5 := t13_5) (t1_6 := t13_6) (t1_7 := t13_7) (t1_8 := t13_8) (t1_9 := t13_9) (t1_10 := t13_10) (t2_0 := t14_0) (t3_0 := t15_0) (t4_0 := t16_0) (t5_0 := t17_0) (t6_0 := t18_0) (t7_0 := t7_0) (by decide)
    with_reducible refine v_owe h7.1 ?_
    replace h7 := h7.2
    generalize F_NM_exact x2 ((F_NM_bitsOf x2 x3 t0_0 t0_1 t0_2 t19_0) : Int64) (1074 : Int32) (4100 : Int32) t0_0 t0_1 t0_2 t13_0 t13_1 t13_2 t13_3 t13_4 t13_5 t13_6 t13_7 t13_8 t13_9 t13_10 t14_0 t15_0 t16_0 t17_0 t18_0 t7_0 = p142 at *
    unfold Q_NM_exact at h7
    have qE := h7
    unfold S_NM_toDecimal_c57 F_NM_toDecimal_c57
    exact vm_td hW hD hB _ _ (qE.2 hv (by decide)) (by omega) (by omega)

/-! NumberHouseModel: toFloat, convert -/
theorem T_FZ_narrowed {x2 : Int64} {t0_0 : Int32} {t0_1 : Int32} {t0_2 : Int32} {t0_3 : Int32} {t0_4 : Int64} {t0_5 : Int32} {t0_6 : Int32} {t0_7 : Int64} {t0_8 : Int32} {t0_9 : Int64} {t0_10 : Int32} : (S_FR_narrowed x2 t0_0 t0_1 t0_2 t0_3 t0_4 t0_5 t0_6 t0_7 t0_8 t0_9 t0_10) ∧ Q_FX_nar (F_FR_narrowed x2 t0_0 t0_1 t0_2 t0_3 t0_4 t0_5 t0_6 t0_7 t0_8 t0_9 t0_10) := ⟨T_FR_narrowed, T_FX_narrowed⟩
def Q_NM_toFloat (p : Int32 × Int32 × Int32 × Int32 × Int32 × Int32 × Int32 × (Nat → Int32) × (Nat → Int32) × Int32 × Int32 × Int32 × Int64 × Int32 × Int32 × Int32 × Int32 × Int32 × Int32 × Int32 × (Nat → Int32) × Int32 × Int32 × Int32 × Int32 × Int64 × Int32 × Int32 × Int64 × Int32 × Int64 × Int32 × Int32 × Int32 × Int32 × Int32 × Int32 × Int32 × Int32 × Int64 × Int32 × Int32 × Int64 × Int64 × Int32 × Int32 × (Nat → Int32) × (Nat → Int32) × (Nat → Int32) × (Nat → Int64)) : Prop := nmB p.2.2.2.2.2.2.2.2.2.2.2.2.2.2.2.2.2.2.2.2.2.2.2.2.2.2.2.2.2.2.2.2.2.2.2.2.2.2.2.2.2.2.2.2.2.2.2.2.2
theorem nm_toFloatA {c0 : Int32} {c1 : Int32} {c2 : Int32} {c3 : Int32} {c4 : Int32} {c5 : Int32} {c6 : Int32} {c7 : (Nat → Int32)} {c8 : (Nat → Int32)} {c9 : Int32} {c10 : Int32} {c11 : Int32} {c12 : Int64} {c13 : Int32} {c14 : Int32} {c15 : Int32} {c16 : Int32} {c17 : Int32} {c18 : Int32} {c19 : Int32} {c20 : (Nat → Int32)} {c21 : Int32} {c22 : Int32} {c23 : Int32} {c24 : Int32} {c25 : Int64} {c26 : Int32} {c27 : Int32} {c28 : Int64} {c29 : Int32} {c30 : Int64} {c31 : Int32} {c32 : Int32} {c33 : Int32} {c34 : Int32} {c35 : Int32} {c36 : Int32} {c37 : Int32} {c38 : Int32} {c39 : Int64} {c40 : Int32} {c41 : Int32} {c42 : Int64} {c43 : Int64} {c44 : Int32} {c45 : Int32} {c46 : (Nat → Int32)} {c47 : (Nat → Int32)} {c48 : (Nat → Int32)} {c49 : (Nat → Int64)} (h0 : nmB c49) : Q_NM_toFloat (c0, c1, c2, c3, c4, c5, c6, c7, c8, c9, c10, c11, c12, c13, c14, c15, c16, c17, c18, c19, c20, c21, c22, c23, c24, c25, c26, c27, c28, c29, c30, c31, c32, c33, c34, c35, c36, c37, c38, c39, c40, c41, c42, c43, c44, c45, c46, c47, c48, c49) := h0
theorem T_NM_toFloat {x2 : Int32} {x3 : Int32} {x4 : Int32} {x5 : Int32} {t0_0 : Int32} {t0_1 : Int32} {t0_2 : Int32} {t1_0 : Int32} {t1_1 : Int32} {t1_2 : Int32} {t1_3 : Int32} {t1_4 : Int32} {t1_5 : Int32} {t1_6 : Int32} {t2_0 : (Nat → Int32)} {t3_0 : (Nat → Int32)} {t4_0 : (Nat → Int32)} {t5_0 : (Nat → Int32)} {t6_0 : Int32} {t6_1 : Int32} {t6_2 : Int32} {t6_3 : Int64} {t6_4 : Int32} {t6_5 : Int32} {t6_6 : Int32} {t6_7 : Int32} {t6_8 : Int32} {t6_9 : Int32} {t6_10 : Int32} {t7_0 : (Nat → Int32)} {t8_0 : (Nat → Int32)} {t9_0 : (Nat → Int32)} {t10_0 : (Nat → Int32)} {t11_0 : (Nat → Int32)} {t12_0 : Int32} {t12_1 : Int32} {t12_2 : Int32} {t12_3 : Int32} {t12_4 : Int64} {t12_5 : Int32} {t12_6 : Int32} {t12_7 : Int64} {t12_8 : Int32} {t12_9 : Int64} {t12_10 : Int32} {t13_0 : Int32} {t13_1 : Int32} {t13_2 : Int32} {t13_3 : Int32} {t13_4 : Int32} {t13_5 : Int32} {t13_6 : Int32} {t13_7 : Int64} {t13_8 : Int32} {t13_9 : Int32} {t13_10 : Int64} {t13_11 : Int64} {t13_12 : Int32} {t13_13 : Int32} {t14_0 : (Nat → Int32)} {t15_0 : (Nat → Int32)} {t16_0 : (Nat → Int32)} {t17_0 : (Nat → Int64)} (hW : wR t2_0 t3_0) (hD : gR t7_0 t8_0 t9_0 t10_0) (hB : nmB t17_0) (hx2 : 0 ≤ x2.toInt ∧ x2.toInt ≤ 3) (hx3 : 0 ≤ x3.toInt ∧ x3.toInt ≤ 9) (hx5 : 0 ≤ x5.toInt ∧ x5.toInt ≤ 9)  : (S_NM_toFloat x2 x3 x4 x5 t0_0 t0_1 t0_2 t1_0 t1_1 t1_2 t1_3 t1_4 t1_5 t1_6 t2_0 t3_0 t4_0 t5_0 t6_0 t6_1 t6_2 t6_3 t6_4 t6_5 t6_6 t6_7 t6_8 t6_9 t6_10 t7_0 t8_0 t9_0 t10_0 t11_0 t12_0 t12_1 t12_2 t12_3 t12_4 t12_5 t12_6 t12_7 t12_8 t12_9 t12_10 t13_0 t13_1 t13_2 t13_3 t13_4 t13_5 t13_6 t13_7 t13_8 t13_9 t13_10 t13_11 t13_12 t13_13 t14_0 t15_0 t16_0 t17_0) ∧ Q_NM_toFloat (F_NM_toFloat x2 x3 x4 x5 t0_0 t0_1 t0_2 t1_0 t1_1 t1_2 t1_3 t1_4 t1_5 t1_6 t2_0 t3_0 t4_0 t5_0 t6_0 t6_1 t6_2 t6_3 t6_4 t6_5 t6_6 t6_7 t6_8 t6_9 t6_10 t7_0 t8_0 t9_0 t10_0 t11_0 t12_0 t12_1 t12_2 t12_3 t12_4 t12_5 t12_6 t12_7 t12_8 t12_9 t12_10 t13_0 t13_1 t13_2 t13_3 t13_4 t13_5 t13_6 t13_7 t13_8 t13_9 t13_10 t13_11 t13_12 t13_13 t14_0 t15_0 t16_0 t17_0) := by
  have e0 : (0 : Int32).toInt = 0 := rfl
  have e1 : (1 : Int32).toInt = 1 := rfl
  have eL0 : (0 : Int64).toInt = 0 := rfl
  have em : (-1 : Int32).toInt = -1 := rfl
  have n1600 : (1600 : Int32).toInt = 1600 := rfl
  have n2100 : (2100 : Int32).toInt = 2100 := rfl
  have n4100 : (4100 : Int32).toInt = 4100 := rfl
  have n12200 : (12200 : Int32).toInt = 12200 := rfl
  have n2 : (2 : Int32).toInt = 2 := rfl
  have n3 : (3 : Int32).toInt = 3 := rfl
  unfold S_NM_toFloat F_NM_toFloat
  by_cases g1 : ((F_NM_isFloat x2) : Int32) = (0 : Int32)
  ·
    rw [if_pos g1, if_pos g1]
    by_cases g2 : x2 = (0 : Int32)
    ·
      rw [if_pos g2, if_pos g2]
      have h3 := T_WR_written (x2 := x3) (x3 := (10 : Int32)) (t0_0 := t1_0) (t0_1 := t1_1) (t0_2 := t1_2) (t0_3 := t1_3) (t0_4 := t1_4) (t0_5 := t1_5) (t0_6 := t1_6) (t1_0 := t2_0) (t2_0 := t3_0) (t3_0 := t4_0) (t4_0 := t5_0) (by with_reducible assumption)
      with_reducible refine v_owe h3.1 ?_
      replace h3 := h3.2
      generalize F_WR_written x3 (10 : Int32) t1_0 t1_1 t1_2 t1_3 t1_4 t1_5 t1_6 t2_0 t3_0 t4_0 t5_0 = p383 at *
      unfold Q_WR_written at h3
      unfold S_NM_toFloat_c70 F_NM_toFloat_c70
      have h4 := T_NM_load (N1 := (2100 : Int32)) (x2 := (p383.1 : Int32)) (N3 := (4100 : Int32)) (t0_0 := (p383.2.2.2.2.2.2.2.2.2 : (Nat → Int32))) (t1_0 := t14_0) (by first | omega | decide) (by first | omega | decide) (by first | omega | decide)
      with_reducible refine v_owe h4.1 ?_
      replace h4 := h4.2
      generalize F_NM_load (2100 : Int32) (p383.1 : Int32) (4100 : Int32) (p383.2.2.2.2.2.2.2.2.2 : (Nat → Int32)) t14_0 = p413 at *
      have qL := h4
      have eL := congrArg Int32.toInt h4.1
      unfold S_NM_toFloat_c121_6 F_NM_toFloat_c121_6
      by_cases g5 : x4 = (2 : Int32)
      ·
        rw [if_pos g5, if_pos g5]
        have g4 := g5
        have h6 := T_TR_bits (t0_0 := t13_0) (t0_1 := (p413.1 : Int32)) (t0_2 := t13_2) (t0_3 := t13_3) (t0_4 := t13_4) (t0_5 := t13_5) (t0_6 := t13_6) (t0_7 := t13_7) (t0_8 := t13_8) (t0_9 := t13_9) (t0_10 := t13_10) (t0_11 := t13_11) (t0_12 := t13_12) (t0_13 := t13_13) (t1_0 := (p413.2 : (Nat → Int32))) (t2_0 := t15_0) (t3_0 := t16_0) trivial ⟨by omega, by omega⟩
        with_reducible refine v_owe h6 ?_
        generalize F_TR_bits t13_0 (p413.1 : Int32) t13_2 t13_3 t13_4 t13_5 t13_6 t13_7 t13_8 t13_9 t13_10 t13_11 t13_12 t13_13 (p413.2 : (Nat → Int32)) t15_0 t16_0 = p537 at *
        unfold S_NM_toFloat_c136_8 F_NM_toFloat_c136_8
        have h7 := T_NM_setBits (x2 := x4) (x3 := x5) (x4 := (p537.1 : Int64)) (t0_0 := t0_0) (t0_1 := t0_1) (t0_2 := t0_2) (t1_0 := t17_0) hx5 hB (fun z => absurd (g4.symm.trans z) (by decide))
        have h7B := h7.2
        with_reducible refine v_owe h7.1 ?_
        refine ⟨trivial, ?_⟩
        exact nm_toFloatA (by with_reducible assumption)
      ·
        rw [if_neg g5, if_neg g5]
        have h8 := T_TR_floatBits (t0_0 := t13_0) (t0_1 := (p413.1 : Int32)) (t0_2 := t13_2) (t0_3 := t13_3) (t0_4 := t13_4) (t0_5 := t13_5) (t0_6 := t13_6) (t0_7 := t13_7) (t0_8 := t13_8) (t0_9 := t13_9) (t0_10 := t13_10) (t0_11 := t13_11) (t0_12 := t13_12) (t0_13 := t13_13) (t1_0 := (p413.2 : (Nat → Int32))) (t2_0 := t15_0) (t3_0 := t16_0) trivial ⟨by omega, by omega⟩
        with_reducible refine v_owe h8 ?_
        generalize F_TR_floatBits t13_0 (p413.1 : Int32) t13_2 t13_3 t13_4 t13_5 t13_6 t13_7 t13_8 t13_9 t13_10 t13_11 t13_12 t13_13 (p413.2 : (Nat → Int32)) t15_0 t16_0 = p461 at *
        unfold S_NM_toFloat_c146_7 F_NM_toFloat_c146_7
        have h9 := T_NM_setBits (x2 := x4) (x3 := x5) (x4 := (((p461.1 : Int32).toInt64 : Int64) &&& 4294967295 : Int64)) (t0_0 := t0_0) (t0_1 := t0_1) (t0_2 := t0_2) (t1_0 := t17_0) hx5 hB (fun _ => nm_and32)
        have h9B := h9.2
        with_reducible refine v_owe h9.1 ?_
        refine ⟨trivial, ?_⟩
        exact nm_toFloatA (by with_reducible assumption)
    ·
      rw [if_neg g2, if_neg g2]
      have h10 := T_DR_written (x2 := x3) (x3 := (0 : Int32)) (t0_0 := t6_0) (t0_1 := t6_1) (t0_2 := t6_2) (t0_3 := t6_3) (t0_4 := t6_4) (t0_5 := t6_5) (t0_6 := t6_6) (t0_7 := t6_7) (t0_8 := t6_8) (t0_9 := t6_9) (t0_10 := t6_10) (t1_0 := t7_0) (t2_0 := t8_0) (t3_0 := t9_0) (t4_0 := t10_0) (t5_0 := t11_0) (by with_reducible assumption)
      with_reducible refine v_owe h10.1 ?_
      replace h10 := h10.2
      generalize F_DR_written x3 (0 : Int32) t6_0 t6_1 t6_2 t6_3 t6_4 t6_5 t6_6 t6_7 t6_8 t6_9 t6_10 t7_0 t8_0 t9_0 t10_0 t11_0 = p157 at *
      unfold Q_DR_written at h10
      unfold S_NM_toFloat_c82 F_NM_toFloat_c82
      have h11 := T_NM_load (N1 := (12200 : Int32)) (x2 := (p157.1 : Int32)) (N3 := (4100 : Int32)) (t0_0 := (p157.2.2.2.2.2.2.2.2.2.2.2.2 : (Nat → Int32))) (t1_0 := t14_0) (by first | omega | decide) (by first | omega | decide) (by first | omega | decide)
      with_reducible refine v_owe h11.1 ?_
      replace h11 := h11.2
      generalize F_NM_load (12200 : Int32) (p157.1 : Int32) (4100 : Int32) (p157.2.2.2.2.2.2.2.2.2.2.2.2 : (Nat → Int32)) t14_0 = p190 at *
      have qL := h11
      have eL := congrArg Int32.toInt h11.1
      unfold S_NM_toFloat_c121 F_NM_toFloat_c121
      by_cases g12 : x4 = (2 : Int32)
      ·
        rw [if_pos g12, if_pos g12]
        have g4 := g12
        have h13 := T_TR_bits (t0_0 := t13_0) (t0_1 := (p190.1 : Int32)) (t0_2 := t13_2) (t0_3 := t13_3) (t0_4 := t13_4) (t0_5 := t13_5) (t0_6 := t13_6) (t0_7 := t13_7) (t0_8 := t13_8) (t0_9 := t13_9) (t0_10 := t13_10) (t0_11 := t13_11) (t0_12 := t13_12) (t0_13 := t13_13) (t1_0 := (p190.2 : (Nat → Int32))) (t2_0 := t15_0) (t3_0 := t16_0) trivial ⟨by omega, by omega⟩
        with_reducible refine v_owe h13 ?_
        generalize F_TR_bits t13_0 (p190.1 : Int32) t13_2 t13_3 t13_4 t13_5 t13_6 t13_7 t13_8 t13_9 t13_10 t13_11 t13_12 t13_13 (p190.2 : (Nat → Int32)) t15_0 t16_0 = p314 at *
        unfold S_NM_toFloat_c136 F_NM_toFloat_c136
        have h14 := T_NM_setBits (x2 := x4) (x3 := x5) (x4 := (p314.1 : Int64)) (t0_0 := t0_0) (t0_1 := t0_1) (t0_2 := t0_2) (t1_0 := t17_0) hx5 hB (fun z => absurd (g4.symm.trans z) (by decide))
        have h14B := h14.2
        with_reducible refine v_owe h14.1 ?_
        refine ⟨trivial, ?_⟩
        exact nm_toFloatA (by with_reducible assumption)
      ·
        rw [if_neg g12, if_neg g12]
        have h15 := T_TR_floatBits (t0_0 := t13_0) (t0_1 := (p190.1 : Int32)) (t0_2 := t13_2) (t0_3 := t13_3) (t0_4 := t13_4) (t0_5 := t13_5) (t0_6 := t13_6) (t0_7 := t13_7) (t0_8 := t13_8) (t0_9 := t13_9) (t0_10 := t13_10) (t0_11 := t13_11) (t0_12 := t13_12) (t0_13 := t13_13) (t1_0 := (p190.2 : (Nat → Int32))) (t2_0 := t15_0) (t3_0 := t16_0) trivial ⟨by omega, by omega⟩
        with_reducible refine v_owe h15 ?_
        generalize F_TR_floatBits t13_0 (p190.1 : Int32) t13_2 t13_3 t13_4 t13_5 t13_6 t13_7 t13_8 t13_9 t13_10 t13_11 t13_12 t13_13 (p190.2 : (Nat → Int32)) t15_0 t16_0 = p238 at *
        unfold S_NM_toFloat_c146 F_NM_toFloat_c146
        have h16 := T_NM_setBits (x2 := x4) (x3 := x5) (x4 := (((p238.1 : Int32).toInt64 : Int64) &&& 4294967295 : Int64)) (t0_0 := t0_0) (t0_1 := t0_1) (t0_2 := t0_2) (t1_0 := t17_0) hx5 hB (fun _ => nm_and32)
        have h16B := h16.2
        with_reducible refine v_owe h16.1 ?_
        refine ⟨trivial, ?_⟩
        exact nm_toFloatA (by with_reducible assumption)
  ·
    rw [if_neg g1, if_neg g1]
    have gI := g1
    have h17 := T_NM_bitsOf (x2 := x2) (x3 := x3) (t0_0 := t0_0) (t0_1 := t0_1) (t0_2 := t0_2) (t1_0 := t17_0) hx3
    with_reducible refine v_owe h17 ?_
    by_cases g18 : x2 = x4
    ·
      rw [if_pos g18, if_pos g18]
      have gE := g18
      have h19 := T_NM_setBits (x2 := x4) (x3 := x5) (x4 := ((F_NM_bitsOf x2 x3 t0_0 t0_1 t0_2 t17_0) : Int64)) (t0_0 := t0_0) (t0_1 := t0_1) (t0_2 := t0_2) (t1_0 := t17_0) hx5 hB (fun z => nm_bo hB hx3 (gE.trans z))
      have h19B := h19.2
      with_reducible refine v_owe h19.1 ?_
      refine ⟨trivial, ?_⟩
      exact nm_toFloatA (by with_reducible assumption)
    ·
      rw [if_neg g18, if_neg g18]
      have gE := g18
      by_cases g20 : x2 = (2 : Int32)
      ·
        rw [if_pos g20, if_pos g20]
        have h21 := T_FZ_narrowed (x2 := ((F_NM_bitsOf x2 x3 t0_0 t0_1 t0_2 t17_0) : Int64)) (t0_0 := t12_0) (t0_1 := t12_1) (t0_2 := t12_2) (t0_3 := t12_3) (t0_4 := t12_4) (t0_5 := t12_5) (t0_6 := t12_6) (t0_7 := t12_7) (t0_8 := t12_8) (t0_9 := t12_9) (t0_10 := t12_10) 
        have h21N := h21.2
        with_reducible refine v_owe h21.1 ?_
        replace h21 := h21.2
        generalize F_FR_narrowed ((F_NM_bitsOf x2 x3 t0_0 t0_1 t0_2 t17_0) : Int64) t12_0 t12_1 t12_2 t12_3 t12_4 t12_5 t12_6 t12_7 t12_8 t12_9 t12_10 = p677 at *
        unfold Q_FX_nar at h21
        have nN := h21
        unfold S_NM_toFloat_c39 F_NM_toFloat_c39
        have h22 := T_NM_setBits (x2 := x4) (x3 := x5) (x4 := (p677.1 : Int64)) (t0_0 := t0_0) (t0_1 := t0_1) (t0_2 := t0_2) (t1_0 := t17_0) hx5 hB (fun _ => by first | with_reducible assumption | exact nN)
        have h22B := h22.2
        with_reducible refine v_owe h22.1 ?_
        refine ⟨trivial, ?_⟩
        exact nm_toFloatA (by with_reducible assumption)
      ·
        rw [if_neg g20, if_neg g20]
        have gN2 := g20
        have h23 := T_FR_widened (x2 := ((F_NM_bitsOf x2 x3 t0_0 t0_1 t0_2 t17_0) : Int64)) (t0_0 := t12_0) (t0_1 := t12_1) (t0_2 := t12_2) (t0_3 := t12_3) (t0_4 := t12_4) (t0_5 := t12_5) (t0_6 := t12_6) (t0_7 := t12_7) (t0_8 := t12_8) (t0_9 := t12_9) (t0_10 := t12_10) 
        with_reducible refine v_owe h23 ?_
        generalize F_FR_widened ((F_NM_bitsOf x2 x3 t0_0 t0_1 t0_2 t17_0) : Int64) t12_0 t12_1 t12_2 t12_3 t12_4 t12_5 t12_6 t12_7 t12_8 t12_9 t12_10 = p610 at *
        unfold S_NM_toFloat_c51 F_NM_toFloat_c51
        have h24 := T_NM_setBits (x2 := x4) (x3 := x5) (x4 := (p610.1 : Int64)) (t0_0 := t0_0) (t0_1 := t0_1) (t0_2 := t0_2) (t1_0 := t17_0) hx5 hB (fun z => absurd (q_Ieq (x := x2.toInt) (y := x4.toInt) rfl rfl (by have e4 := q_eqI z; have := nm_if1 gI; have := q_neI gN2; omega)) gE)
        have h24B := h24.2
        with_reducible refine v_owe h24.1 ?_
        refine ⟨trivial, ?_⟩
        exact nm_toFloatA (by with_reducible assumption)
def Q_NM_convert (p : Int32 × Int32 × Int32 × Int32 × Int32 × Int32 × Int32 × Int32 × (Nat → Int32) × (Nat → Int32) × (Nat → Int32) × (Nat → Int32) × (Nat → Int32) × (Nat → Int32) × (Nat → Int32) × Int32 × Int32 × Int32 × Int64 × Int32 × Int32 × Int32 × Int32 × Int32 × Int32 × Int32 × (Nat → Int32) × (Nat → Int32) × (Nat → Int32) × (Nat → Int32) × (Nat → Int32) × (Nat → Int32) × (Nat → Int32) × Int32 × Int32 × Int32 × Int32 × Int64 × Int32 × Int32 × Int64 × Int32 × Int64 × Int32 × (Nat → Int32) × (Nat → Int32) × (Nat → Int32) × (Nat → Int32) × (Nat → Int32) × Int32 × Int32 × Int32 × Int32 × Int32 × Int32 × Int32 × Int64 × Int32 × Int32 × Int64 × Int64 × Int32 × Int32 × (Nat → Int32) × (Nat → Int32) × (Nat → Int32) × (Nat → Int64)) : Prop := wR p.2.2.2.2.2.2.2.2.2.1 p.2.2.2.2.2.2.2.2.2.2.1 ∧ gR p.2.2.2.2.2.2.2.2.2.2.2.2.2.2.2.2.2.2.2.2.2.2.2.2.2.2.2.1 p.2.2.2.2.2.2.2.2.2.2.2.2.2.2.2.2.2.2.2.2.2.2.2.2.2.2.2.2.1 p.2.2.2.2.2.2.2.2.2.2.2.2.2.2.2.2.2.2.2.2.2.2.2.2.2.2.2.2.2.1 p.2.2.2.2.2.2.2.2.2.2.2.2.2.2.2.2.2.2.2.2.2.2.2.2.2.2.2.2.2.2.1 ∧ nmB p.2.2.2.2.2.2.2.2.2.2.2.2.2.2.2.2.2.2.2.2.2.2.2.2.2.2.2.2.2.2.2.2.2.2.2.2.2.2.2.2.2.2.2.2.2.2.2.2.2.2.2.2.2.2.2.2.2.2.2.2.2.2.2.2.2.2
theorem nm_convertA {c0 : Int32} {c1 : Int32} {c2 : Int32} {c3 : Int32} {c4 : Int32} {c5 : Int32} {c6 : Int32} {c7 : Int32} {c8 : (Nat → Int32)} {c9 : (Nat → Int32)} {c10 : (Nat → Int32)} {c11 : (Nat → Int32)} {c12 : (Nat → Int32)} {c13 : (Nat → Int32)} {c14 : (Nat → Int32)} {c15 : Int32} {c16 : Int32} {c17 : Int32} {c18 : Int64} {c19 : Int32} {c20 : Int32} {c21 : Int32} {c22 : Int32} {c23 : Int32} {c24 : Int32} {c25 : Int32} {c26 : (Nat → Int32)} {c27 : (Nat → Int32)} {c28 : (Nat → Int32)} {c29 : (Nat → Int32)} {c30 : (Nat → Int32)} {c31 : (Nat → Int32)} {c32 : (Nat → Int32)} {c33 : Int32} {c34 : Int32} {c35 : Int32} {c36 : Int32} {c37 : Int64} {c38 : Int32} {c39 : Int32} {c40 : Int64} {c41 : Int32} {c42 : Int64} {c43 : Int32} {c44 : (Nat → Int32)} {c45 : (Nat → Int32)} {c46 : (Nat → Int32)} {c47 : (Nat → Int32)} {c48 : (Nat → Int32)} {c49 : Int32} {c50 : Int32} {c51 : Int32} {c52 : Int32} {c53 : Int32} {c54 : Int32} {c55 : Int32} {c56 : Int64} {c57 : Int32} {c58 : Int32} {c59 : Int64} {c60 : Int64} {c61 : Int32} {c62 : Int32} {c63 : (Nat → Int32)} {c64 : (Nat → Int32)} {c65 : (Nat → Int32)} {c66 : (Nat → Int64)} (h0 : wR c9 c10) (h1 : gR c27 c28 c29 c30) (h2 : nmB c66) : Q_NM_convert (c0, c1, c2, c3, c4, c5, c6, c7, c8, c9, c10, c11, c12, c13, c14, c15, c16, c17, c18, c19, c20, c21, c22, c23, c24, c25, c26, c27, c28, c29, c30, c31, c32, c33, c34, c35, c36, c37, c38, c39, c40, c41, c42, c43, c44, c45, c46, c47, c48, c49, c50, c51, c52, c53, c54, c55, c56, c57, c58, c59, c60, c61, c62, c63, c64, c65, c66) := ⟨h0, h1, h2⟩
theorem T_NM_cv81 {x2 : Int32} {x3 : Int32} {x4 : Int32} {x5 : Int32} {t0_0 : Int32} {t0_1 : Int32} {t0_2 : Int32} {t1_0 : Int32} {t1_1 : Int32} {t1_2 : Int32} {t1_3 : Int32} {t1_4 : Int32} {t1_5 : Int32} {t1_6 : Int32} {t2_0 : (Nat → Int32)} {t3_0 : (Nat → Int32)} {t4_0 : (Nat → Int32)} {t5_0 : (Nat → Int32)} {t6_0 : (Nat → Int32)} {t7_0 : (Nat → Int32)} {t8_0 : (Nat → Int32)} {t9_0 : Int32} {t9_1 : Int32} {t9_2 : Int32} {t9_3 : Int64} {t9_4 : Int32} {t9_5 : Int32} {t9_6 : Int32} {t9_7 : Int32} {t9_8 : Int32} {t9_9 : Int32} {t9_10 : Int32} {t10_0 : (Nat → Int32)} {t11_0 : (Nat → Int32)} {t12_0 : (Nat → Int32)} {t13_0 : (Nat → Int32)} {t14_0 : (Nat → Int32)} {t15_0 : (Nat → Int32)} {t16_0 : (Nat → Int32)} {t17_0 : Int32} {t17_1 : Int32} {t17_2 : Int32} {t17_3 : Int32} {t17_4 : Int64} {t17_5 : Int32} {t17_6 : Int32} {t17_7 : Int64} {t17_8 : Int32} {t17_9 : Int64} {t17_10 : Int32} {t18_0 : (Nat → Int32)} {t19_0 : (Nat → Int32)} {t20_0 : (Nat → Int32)} {t21_0 : (Nat → Int32)} {t22_0 : (Nat → Int32)} {t23_0 : Int32} {t23_1 : Int32} {t23_2 : Int32} {t23_3 : Int32} {t23_4 : Int32} {t23_5 : Int32} {t23_6 : Int32} {t23_7 : Int64} {t23_8 : Int32} {t23_9 : Int32} {t23_10 : Int64} {t23_11 : Int64} {t23_12 : Int32} {t23_13 : Int32} {t24_0 : (Nat → Int32)} {t25_0 : (Nat → Int32)} {t26_0 : (Nat → Int32)} {t27_0 : (Nat → Int64)} {lx142 : Int32} (hW : wR t3_0 t4_0) (hD : gR t11_0 t12_0 t13_0 t14_0) (hB : nmB t27_0) (hxx : (0 ≤ x2.toInt ∧ x2.toInt ≤ 3) ∧ (0 ≤ x3.toInt ∧ x3.toInt ≤ 9) ∧ 0 ≤ x5.toInt ∧ x5.toInt ≤ 9) (hV : ¬ x2 = 0 → ¬ x2 = x4 → ¬ x4 = 0 → nmV x2 (F_NM_bitsOf x2 x3 lx142 t0_1 t0_2 t27_0))  : (S_NM_convert_J81 x2 x3 x4 x5 t0_0 t0_1 t0_2 t1_0 t1_1 t1_2 t1_3 t1_4 t1_5 t1_6 t2_0 t3_0 t4_0 t5_0 t6_0 t7_0 t8_0 t9_0 t9_1 t9_2 t9_3 t9_4 t9_5 t9_6 t9_7 t9_8 t9_9 t9_10 t10_0 t11_0 t12_0 t13_0 t14_0 t15_0 t16_0 t17_0 t17_1 t17_2 t17_3 t17_4 t17_5 t17_6 t17_7 t17_8 t17_9 t17_10 t18_0 t19_0 t20_0 t21_0 t22_0 t23_0 t23_1 t23_2 t23_3 t23_4 t23_5 t23_6 t23_7 t23_8 t23_9 t23_10 t23_11 t23_12 t23_13 t24_0 t25_0 t26_0 t27_0 lx142) ∧ Q_NM_convert (F_NM_convert_J81 x2 x3 x4 x5 t0_0 t0_1 t0_2 t1_0 t1_1 t1_2 t1_3 t1_4 t1_5 t1_6 t2_0 t3_0 t4_0 t5_0 t6_0 t7_0 t8_0 t9_0 t9_1 t9_2 t9_3 t9_4 t9_5 t9_6 t9_7 t9_8 t9_9 t9_10 t10_0 t11_0 t12_0 t13_0 t14_0 t15_0 t16_0 t17_0 t17_1 t17_2 t17_3 t17_4 t17_5 t17_6 t17_7 t17_8 t17_9 t17_10 t18_0 t19_0 t20_0 t21_0 t22_0 t23_0 t23_1 t23_2 t23_3 t23_4 t23_5 t23_6 t23_7 t23_8 t23_9 t23_10 t23_11 t23_12 t23_13 t24_0 t25_0 t26_0 t27_0 lx142) := by
  have e0 : (0 : Int32).toInt = 0 := rfl
  have e1 : (1 : Int32).toInt = 1 := rfl
  have eL0 : (0 : Int64).toInt = 0 := rfl
  have em : (-1 : Int32).toInt = -1 := rfl
  unfold S_NM_convert_J81 F_NM_convert_J81
  by_cases g1 : x2 = x4
  ·
    rw [if_pos g1, if_pos g1]
    by_cases g2 : x2 = (0 : Int32)
    ·
      rw [if_pos g2, if_pos g2]
      have h3 := T_WR_shift (x2 := x3) (x3 := (0 : Int32)) (x4 := x5) (t0_0 := t1_0) (t0_1 := t1_1) (t0_2 := t1_2) (t0_3 := t1_3) (t0_4 := t1_4) (t0_5 := t1_5) (t0_6 := t1_6) (t1_0 := t3_0) (t2_0 := t4_0) (t3_0 := t5_0) (t4_0 := t6_0) (t5_0 := t7_0) (by with_reducible assumption)
      with_reducible refine v_owe h3.1 ?_
      replace h3 := h3.2
      generalize F_WR_shift x3 (0 : Int32) x5 t1_0 t1_1 t1_2 t1_3 t1_4 t1_5 t1_6 t3_0 t4_0 t5_0 t6_0 t7_0 = p632 at *
      unfold Q_WR_shift at h3
      unfold S_NM_convert_c98 F_NM_convert_c98
      refine ⟨trivial, ?_⟩
      exact nm_convertA (by with_reducible assumption) (by with_reducible assumption) (by with_reducible assumption)
    ·
      rw [if_neg g2, if_neg g2]
      have h4 := T_DR_shift (x2 := x3) (x3 := x5) (x4 := (0 : Int32)) (t0_0 := t9_0) (t0_1 := t9_1) (t0_2 := t9_2) (t0_3 := t9_3) (t0_4 := t9_4) (t0_5 := t9_5) (t0_6 := t9_6) (t0_7 := t9_7) (t0_8 := t9_8) (t0_9 := t9_9) (t0_10 := t9_10) (t1_0 := t11_0) (t2_0 := t12_0) (t3_0 := t13_0) (t4_0 := t14_0) (t5_0 := t15_0) (by with_reducible assumption)
      with_reducible refine v_owe h4.1 ?_
      replace h4 := h4.2
      generalize F_DR_shift x3 x5 (0 : Int32) t9_0 t9_1 t9_2 t9_3 t9_4 t9_5 t9_6 t9_7 t9_8 t9_9 t9_10 t11_0 t12_0 t13_0 t14_0 t15_0 = p575 at *
      unfold Q_DR_shift at h4
      unfold S_NM_convert_c112 F_NM_convert_c112
      refine ⟨trivial, ?_⟩
      exact nm_convertA (by with_reducible assumption) (by with_reducible assumption) (by with_reducible assumption)
  ·
    rw [if_neg g1, if_neg g1]
    have gE := g1
    by_cases g5 : x4 = (0 : Int32)
    ·
      rw [if_pos g5, if_pos g5]
      have h6 := T_NM_toWhole (x2 := x2) (x3 := x3) (x4 := x5) (t0_0 := lx142) (t0_1 := t0_1) (t0_2 := t0_2) (t1_0 := t1_0) (t1_1 := t1_1) (t1_2 := t1_2) (t1_3 := t1_3) (t1_4 := t1_4) (t1_5 := t1_5) (t1_6 := t1_6) (t2_0 := t2_0) (t3_0 := t3_0) (t4_0 := t4_0) (t5_0 := t5_0) (t6_0 := t9_0) (t6_1 := t9_1) (t6_2 := t9_2) (t6_3 := t9_3) (t6_4 := t9_4) (t6_5 := t9_5) (t6_6 := t9_6) (t6_7 := t9_7) (t6_8 := t9_8) (t6_9 := t9_9) (t6_10 := t9_10) (t7_0 := t11_0) (t8_0 := t12_0) (t9_0 := t13_0) (t10_0 := t14_0) (t11_0 := t16_0) (t12_0 := t17_0) (t12_1 := t17_1) (t12_2 := t17_2) (t12_3 := t17_3) (t12_4 := t17_4) (t12_5 := t17_5) (t12_6 := t17_6) (t12_7 := t17_7) (t12_8 := t17_8) (t12_9 := t17_9) (t12_10 := t17_10) (t13_0 := t18_0) (t14_0 := t19_0) (t15_0 := t20_0) (t16_0 := t21_0) (t17_0 := t22_0) (t18_0 := t27_0) hW hD hB hxx.2.1
      with_reducible refine v_owe h6.1 ?_
      replace h6 := h6.2
      generalize F_NM_toWhole x2 x3 x5 lx142 t0_1 t0_2 t1_0 t1_1 t1_2 t1_3 t1_4 t1_5 t1_6 t2_0 t3_0 t4_0 t5_0 t9_0 t9_1 t9_2 t9_3 t9_4 t9_5 t9_6 t9_7 t9_8 t9_9 t9_10 t11_0 t12_0 t13_0 t14_0 t16_0 t17_0 t17_1 t17_2 t17_3 t17_4 t17_5 t17_6 t17_7 t17_8 t17_9 t17_10 t18_0 t19_0 t20_0 t21_0 t22_0 t27_0 = p484 at *
      unfold Q_NM_toWhole at h6
      unfold S_NM_convert_c127 F_NM_convert_c127
      refine ⟨trivial, ?_⟩
      exact nm_convertA (by with_reducible assumption) (by with_reducible assumption) (by with_reducible assumption)
    ·
      rw [if_neg g5, if_neg g5]
      have gZ := g5
      have h7 := T_NM_toDecimal (x2 := x2) (x3 := x3) (x4 := x5) (t0_0 := lx142) (t0_1 := t0_1) (t0_2 := t0_2) (t1_0 := t1_0) (t1_1 := t1_1) (t1_2 := t1_2) (t1_3 := t1_3) (t1_4 := t1_4) (t1_5 := t1_5) (t1_6 := t1_6) (t2_0 := t3_0) (t3_0 := t4_0) (t4_0 := t7_0) (t5_0 := t8_0) (t6_0 := t9_0) (t6_1 := t9_1) (t6_2 := t9_2) (t6_3 := t9_3) (t6_4 := t9_4) (t6_5 := t9_5) (t6_6 := t9_6) (t6_7 := t9_7) (t6_8 := t9_8) (t6_9 := t9_9) (t6_10 := t9_10) (t7_0 := t10_0) (t8_0 := t11_0) (t9_0 := t12_0) (t10_0 := t13_0) (t11_0 := t14_0) (t12_0 := t15_0) (t13_0 := t17_0) (t13_1 := t17_1) (t13_2 := t17_2) (t13_3 := t17_3) (t13_4 := t17_4) (t13_5 := t17_5) (t13_6 := t17_6) (t13_7 := t17_7) (t13_8 := t17_8) (t13_9 := t17_9) (t13_10 := t17_10) (t14_0 := t18_0) (t15_0 := t19_0) (t16_0 := t20_0) (t17_0 := t21_0) (t18_0 := t22_0) (t19_0 := t27_0) hW hD hB hxx.2.1 (fun z => hV z gE gZ)
      with_reducible refine v_owe h7.1 ?_
      replace h7 := h7.2
      generalize F_NM_toDecimal x2 x3 x5 lx142 t0_1 t0_2 t1_0 t1_1 t1_2 t1_3 t1_4 t1_5 t1_6 t3_0 t4_0 t7_0 t8_0 t9_0 t9_1 t9_2 t9_3 t9_4 t9_5 t9_6 t9_7 t9_8 t9_9 t9_10 t10_0 t11_0 t12_0 t13_0 t14_0 t15_0 t17_0 t17_1 t17_2 t17_3 t17_4 t17_5 t17_6 t17_7 t17_8 t17_9 t17_10 t18_0 t19_0 t20_0 t21_0 t22_0 t27_0 = p335 at *
      unfold Q_NM_toDecimal at h7
      unfold S_NM_convert_c138 F_NM_convert_c138
      refine ⟨trivial, ?_⟩
      exact nm_convertA (by with_reducible assumption) (by with_reducible assumption) (by with_reducible assumption)
theorem T_NM_cv23 {x2 : Int32} {x3 : Int32} {x4 : Int32} {x5 : Int32} {t0_0 : Int32} {t0_1 : Int32} {t0_2 : Int32} {t1_0 : Int32} {t1_1 : Int32} {t1_2 : Int32} {t1_3 : Int32} {t1_4 : Int32} {t1_5 : Int32} {t1_6 : Int32} {t2_0 : (Nat → Int32)} {t3_0 : (Nat → Int32)} {t4_0 : (Nat → Int32)} {t5_0 : (Nat → Int32)} {t6_0 : (Nat → Int32)} {t7_0 : (Nat → Int32)} {t8_0 : (Nat → Int32)} {t9_0 : Int32} {t9_1 : Int32} {t9_2 : Int32} {t9_3 : Int64} {t9_4 : Int32} {t9_5 : Int32} {t9_6 : Int32} {t9_7 : Int32} {t9_8 : Int32} {t9_9 : Int32} {t9_10 : Int32} {t10_0 : (Nat → Int32)} {t11_0 : (Nat → Int32)} {t12_0 : (Nat → Int32)} {t13_0 : (Nat → Int32)} {t14_0 : (Nat → Int32)} {t15_0 : (Nat → Int32)} {t16_0 : (Nat → Int32)} {t17_0 : Int32} {t17_1 : Int32} {t17_2 : Int32} {t17_3 : Int32} {t17_4 : Int64} {t17_5 : Int32} {t17_6 : Int32} {t17_7 : Int64} {t17_8 : Int32} {t17_9 : Int64} {t17_10 : Int32} {t18_0 : (Nat → Int32)} {t19_0 : (Nat → Int32)} {t20_0 : (Nat → Int32)} {t21_0 : (Nat → Int32)} {t22_0 : (Nat → Int32)} {t23_0 : Int32} {t23_1 : Int32} {t23_2 : Int32} {t23_3 : Int32} {t23_4 : Int32} {t23_5 : Int32} {t23_6 : Int32} {t23_7 : Int64} {t23_8 : Int32} {t23_9 : Int32} {t23_10 : Int64} {t23_11 : Int64} {t23_12 : Int32} {t23_13 : Int32} {t24_0 : (Nat → Int32)} {t25_0 : (Nat → Int32)} {t26_0 : (Nat → Int32)} {t27_0 : (Nat → Int64)} {lx142 : Int32} (hW : wR t3_0 t4_0) (hD : gR t11_0 t12_0 t13_0 t14_0) (hB : nmB t27_0) (hx : lx142.toInt ≤ 0 → ((0 ≤ x2.toInt ∧ x2.toInt ≤ 3) ∧ (0 ≤ x3.toInt ∧ x3.toInt ≤ 9) ∧ 0 ≤ x5.toInt ∧ x5.toInt ≤ 9) ∧ 0 ≤ x4.toInt)  : (S_NM_convert_J23 x2 x3 x4 x5 t0_0 t0_1 t0_2 t1_0 t1_1 t1_2 t1_3 t1_4 t1_5 t1_6 t2_0 t3_0 t4_0 t5_0 t6_0 t7_0 t8_0 t9_0 t9_1 t9_2 t9_3 t9_4 t9_5 t9_6 t9_7 t9_8 t9_9 t9_10 t10_0 t11_0 t12_0 t13_0 t14_0 t15_0 t16_0 t17_0 t17_1 t17_2 t17_3 t17_4 t17_5 t17_6 t17_7 t17_8 t17_9 t17_10 t18_0 t19_0 t20_0 t21_0 t22_0 t23_0 t23_1 t23_2 t23_3 t23_4 t23_5 t23_6 t23_7 t23_8 t23_9 t23_10 t23_11 t23_12 t23_13 t24_0 t25_0 t26_0 t27_0 lx142) ∧ Q_NM_convert (F_NM_convert_J23 x2 x3 x4 x5 t0_0 t0_1 t0_2 t1_0 t1_1 t1_2 t1_3 t1_4 t1_5 t1_6 t2_0 t3_0 t4_0 t5_0 t6_0 t7_0 t8_0 t9_0 t9_1 t9_2 t9_3 t9_4 t9_5 t9_6 t9_7 t9_8 t9_9 t9_10 t10_0 t11_0 t12_0 t13_0 t14_0 t15_0 t16_0 t17_0 t17_1 t17_2 t17_3 t17_4 t17_5 t17_6 t17_7 t17_8 t17_9 t17_10 t18_0 t19_0 t20_0 t21_0 t22_0 t23_0 t23_1 t23_2 t23_3 t23_4 t23_5 t23_6 t23_7 t23_8 t23_9 t23_10 t23_11 t23_12 t23_13 t24_0 t25_0 t26_0 t27_0 lx142) := by
  have e0 : (0 : Int32).toInt = 0 := rfl
  have e1 : (1 : Int32).toInt = 1 := rfl
  have eL0 : (0 : Int64).toInt = 0 := rfl
  have em : (-1 : Int32).toInt = -1 := rfl
  unfold S_NM_convert_J23 F_NM_convert_J23
  by_cases g1 : lx142 ≤ (0 : Int32)
  ·
    rw [if_pos g1, if_pos g1]
    have hxx := hx (q_leI g1)
    by_cases g2 : ((F_NM_isFloat x4) : Int32) = (0 : Int32)
    ·
      rw [if_pos g2, if_pos g2]
      have gI4 := g2
      by_cases g3 : ((F_NM_isFloat x2) : Int32) = (0 : Int32)
      ·
        rw [if_pos g3, if_pos g3]
        have gI2 := g3
        exact T_NM_cv81 hW hD hB hxx.1 (fun z1 z2 z3 => absurd (q_Ieq (x := x2.toInt) (y := x4.toInt) rfl rfl (by have a1 := q_neI z1; have a2 := q_neI z3; have a3 := nm_if0 gI2; have a4 := nm_if0 gI4; omega)) z2)
      ·
        rw [if_neg g3, if_neg g3]
        have h4 := T_NM_bitsOf (x2 := x2) (x3 := x3) (t0_0 := lx142) (t0_1 := t0_1) (t0_2 := t0_2) (t1_0 := t27_0) hxx.1.2.1
        with_reducible refine v_owe h4 ?_
        by_cases g5 : ((F_NM_isFinite x2 ((F_NM_bitsOf x2 x3 lx142 t0_1 t0_2 t27_0) : Int64)) : Int32) = (0 : Int32)
        ·
          rw [if_pos g5, if_pos g5]
          refine ⟨trivial, ?_⟩
          exact nm_convertA (by with_reducible assumption) (by with_reducible assumption) (by with_reducible assumption)
        ·
          rw [if_neg g5, if_neg g5]
          have gF := g5
          exact T_NM_cv81 hW hD hB hxx.1 (fun _ _ _ => ⟨fun e => nm_bo hB hxx.1.2.1 e, gF⟩)
    ·
      rw [if_neg g2, if_neg g2]
      have h6 := T_NM_toFloat (x2 := x2) (x3 := x3) (x4 := x4) (x5 := x5) (t0_0 := lx142) (t0_1 := t0_1) (t0_2 := t0_2) (t1_0 := t1_0) (t1_1 := t1_1) (t1_2 := t1_2) (t1_3 := t1_3) (t1_4 := t1_4) (t1_5 := t1_5) (t1_6 := t1_6) (t2_0 := t3_0) (t3_0 := t4_0) (t4_0 := t7_0) (t5_0 := t8_0) (t6_0 := t9_0) (t6_1 := t9_1) (t6_2 := t9_2) (t6_3 := t9_3) (t6_4 := t9_4) (t6_5 := t9_5) (t6_6 := t9_6) (t6_7 := t9_7) (t6_8 := t9_8) (t6_9 := t9_9) (t6_10 := t9_10) (t7_0 := t11_0) (t8_0 := t12_0) (t9_0 := t13_0) (t10_0 := t14_0) (t11_0 := t16_0) (t12_0 := t17_0) (t12_1 := t17_1) (t12_2 := t17_2) (t12_3 := t17_3) (t12_4 := t17_4) (t12_5 := t17_5) (t12_6 := t17_6) (t12_7 := t17_7) (t12_8 := t17_8) (t12_9 := t17_9) (t12_10 := t17_10) (t13_0 := t23_0) (t13_1 := t23_1) (t13_2 := t23_2) (t13_3 := t23_3) (t13_4 := t23_4) (t13_5 := t23_5) (t13_6 := t23_6) (t13_7 := t23_7) (t13_8 := t23_8) (t13_9 := t23_9) (t13_10 := t23_10) (t13_11 := t23_11) (t13_12 := t23_12) (t13_13 := t23_13) (t14_0 := t24_0) (t15_0 := t25_0) (t16_0 := t26_0) (t17_0 := t27_0) hW hD hB hxx.1.1 hxx.1.2.1 hxx.1.2.2
      with_reducible refine v_owe h6.1 ?_
      replace h6 := h6.2
      generalize F_NM_toFloat x2 x3 x4 x5 lx142 t0_1 t0_2 t1_0 t1_1 t1_2 t1_3 t1_4 t1_5 t1_6 t3_0 t4_0 t7_0 t8_0 t9_0 t9_1 t9_2 t9_3 t9_4 t9_5 t9_6 t9_7 t9_8 t9_9 t9_10 t11_0 t12_0 t13_0 t14_0 t16_0 t17_0 t17_1 t17_2 t17_3 t17_4 t17_5 t17_6 t17_7 t17_8 t17_9 t17_10 t23_0 t23_1 t23_2 t23_3 t23_4 t23_5 t23_6 t23_7 t23_8 t23_9 t23_10 t23_11 t23_12 t23_13 t24_0 t25_0 t26_0 t27_0 = p801 at *
      unfold Q_NM_toFloat at h6
      unfold S_NM_convert_c47 F_NM_convert_c47
      refine ⟨trivial, ?_⟩
      exact nm_convertA (by with_reducible assumption) (by with_reducible assumption) (by with_reducible assumption)
  ·
    rw [if_neg g1, if_neg g1]
    refine ⟨trivial, ?_⟩
    exact nm_convertA (by with_reducible assumption) (by with_reducible assumption) (by with_reducible assumption)
theorem T_NM_convert {x2 : Int32} {x3 : Int32} {x4 : Int32} {x5 : Int32} {t0_0 : Int32} {t0_1 : Int32} {t0_2 : Int32} {t1_0 : Int32} {t1_1 : Int32} {t1_2 : Int32} {t1_3 : Int32} {t1_4 : Int32} {t1_5 : Int32} {t1_6 : Int32} {t2_0 : (Nat → Int32)} {t3_0 : (Nat → Int32)} {t4_0 : (Nat → Int32)} {t5_0 : (Nat → Int32)} {t6_0 : (Nat → Int32)} {t7_0 : (Nat → Int32)} {t8_0 : (Nat → Int32)} {t9_0 : Int32} {t9_1 : Int32} {t9_2 : Int32} {t9_3 : Int64} {t9_4 : Int32} {t9_5 : Int32} {t9_6 : Int32} {t9_7 : Int32} {t9_8 : Int32} {t9_9 : Int32} {t9_10 : Int32} {t10_0 : (Nat → Int32)} {t11_0 : (Nat → Int32)} {t12_0 : (Nat → Int32)} {t13_0 : (Nat → Int32)} {t14_0 : (Nat → Int32)} {t15_0 : (Nat → Int32)} {t16_0 : (Nat → Int32)} {t17_0 : Int32} {t17_1 : Int32} {t17_2 : Int32} {t17_3 : Int32} {t17_4 : Int64} {t17_5 : Int32} {t17_6 : Int32} {t17_7 : Int64} {t17_8 : Int32} {t17_9 : Int64} {t17_10 : Int32} {t18_0 : (Nat → Int32)} {t19_0 : (Nat → Int32)} {t20_0 : (Nat → Int32)} {t21_0 : (Nat → Int32)} {t22_0 : (Nat → Int32)} {t23_0 : Int32} {t23_1 : Int32} {t23_2 : Int32} {t23_3 : Int32} {t23_4 : Int32} {t23_5 : Int32} {t23_6 : Int32} {t23_7 : Int64} {t23_8 : Int32} {t23_9 : Int32} {t23_10 : Int64} {t23_11 : Int64} {t23_12 : Int32} {t23_13 : Int32} {t24_0 : (Nat → Int32)} {t25_0 : (Nat → Int32)} {t26_0 : (Nat → Int32)} {t27_0 : (Nat → Int64)} (hW : wR t3_0 t4_0) (hD : gR t11_0 t12_0 t13_0 t14_0) (hB : nmB t27_0)  : (S_NM_convert x2 x3 x4 x5 t0_0 t0_1 t0_2 t1_0 t1_1 t1_2 t1_3 t1_4 t1_5 t1_6 t2_0 t3_0 t4_0 t5_0 t6_0 t7_0 t8_0 t9_0 t9_1 t9_2 t9_3 t9_4 t9_5 t9_6 t9_7 t9_8 t9_9 t9_10 t10_0 t11_0 t12_0 t13_0 t14_0 t15_0 t16_0 t17_0 t17_1 t17_2 t17_3 t17_4 t17_5 t17_6 t17_7 t17_8 t17_9 t17_10 t18_0 t19_0 t20_0 t21_0 t22_0 t23_0 t23_1 t23_2 t23_3 t23_4 t23_5 t23_6 t23_7 t23_8 t23_9 t23_10 t23_11 t23_12 t23_13 t24_0 t25_0 t26_0 t27_0) ∧ Q_NM_convert (F_NM_convert x2 x3 x4 x5 t0_0 t0_1 t0_2 t1_0 t1_1 t1_2 t1_3 t1_4 t1_5 t1_6 t2_0 t3_0 t4_0 t5_0 t6_0 t7_0 t8_0 t9_0 t9_1 t9_2 t9_3 t9_4 t9_5 t9_6 t9_7 t9_8 t9_9 t9_10 t10_0 t11_0 t12_0 t13_0 t14_0 t15_0 t16_0 t17_0 t17_1 t17_2 t17_3 t17_4 t17_5 t17_6 t17_7 t17_8 t17_9 t17_10 t18_0 t19_0 t20_0 t21_0 t22_0 t23_0 t23_1 t23_2 t23_3 t23_4 t23_5 t23_6 t23_7 t23_8 t23_9 t23_10 t23_11 t23_12 t23_13 t24_0 t25_0 t26_0 t27_0) := by
  have e0 : (0 : Int32).toInt = 0 := rfl
  have e1 : (1 : Int32).toInt = 1 := rfl
  have eL0 : (0 : Int64).toInt = 0 := rfl
  have em : (-1 : Int32).toInt = -1 := rfl
  unfold S_NM_convert F_NM_convert
  by_cases g1 : ((F_NM_no_IIZ x2 x3) : Int32) = (0 : Int32)
  ·
    rw [if_pos g1, if_pos g1]
    have hA := nm_no2 g1
    by_cases g2 : ((F_NM_no_IIZ x4 x5) : Int32) = (0 : Int32)
    ·
      rw [if_pos g2, if_pos g2]
      have hA4 := nm_no2 g2
      exact T_NM_cv23 hW hD hB (fun _ => ⟨⟨hA.1, hA.2, hA4.2⟩, hA4.1.1⟩)
    ·
      rw [if_neg g2, if_neg g2]
      unfold S_NM_convert_J18 F_NM_convert_J18
      exact T_NM_cv23 hW hD hB (fun z => absurd z (by decide))
  ·
    rw [if_neg g1, if_neg g1]
    unfold S_NM_convert_J18 F_NM_convert_J18
    exact T_NM_cv23 hW hD hB (fun z => absurd z (by decide))

/-! put of the reference: what it says of an exception -/
theorem nm_no2n {k r : Int32} (h : ¬ F_NM_no_IIZ k r = 0) : ¬ ((0 ≤ k.toInt ∧ k.toInt ≤ 3) ∧ 0 ≤ r.toInt ∧ r.toInt ≤ 9) := fun ⟨⟨a, b⟩, c, d⟩ => h (by
  have e3 : (3 : Int32).toInt = 3 := rfl
  have e0 : (0 : Int32).toInt = 0 := rfl
  unfold F_NM_no_IIZ
  rw [if_neg (fun z => by have := q_ltI z; omega), if_neg (fun z => by have := q_ltI z; omega)]
  have e : F_NM_no_IZ r = 0 := by
    unfold F_NM_no_IZ
    rw [if_neg (fun z => by have := q_ltI z; omega), if_pos (q_Ile (x := r.toInt) (y := 9) rfl (by decide) d)]
  rw [if_pos e])
def Q_mp (x2 x3 : Int32) (x4 : Int64) (p : Int32 × Int32 × Int32 × Int32 × Int32 × Int32 × Int32 × Int32 × (Nat → Int32) × (Nat → Int32) × (Nat → Int32) × Int32 × Int32 × Int32 × Int64 × Int32 × Int32 × Int32 × Int32 × Int32 × Int32 × Int32 × (Nat → Int32) × (Nat → Int32) × (Nat → Int32) × (Nat → Int32) × (Nat → Int32) × (Nat → Int64)) : Prop := p.1 = kPut x2 x3 x4
theorem M_put {x2 : Int32} {x3 : Int32} {x4 : Int64} {t0_0 : Int32} {t0_1 : Int32} {t0_2 : Int32} {t1_0 : Int32} {t1_1 : Int32} {t1_2 : Int32} {t1_3 : Int32} {t1_4 : Int32} {t1_5 : Int32} {t1_6 : Int32} {t2_0 : (Nat → Int32)} {t3_0 : (Nat → Int32)} {t4_0 : (Nat → Int32)} {t5_0 : Int32} {t5_1 : Int32} {t5_2 : Int32} {t5_3 : Int64} {t5_4 : Int32} {t5_5 : Int32} {t5_6 : Int32} {t5_7 : Int32} {t5_8 : Int32} {t5_9 : Int32} {t5_10 : Int32} {t6_0 : (Nat → Int32)} {t7_0 : (Nat → Int32)} {t8_0 : (Nat → Int32)} {t9_0 : (Nat → Int32)} {t10_0 : (Nat → Int32)} {t11_0 : (Nat → Int64)}  : Q_mp x2 x3 x4 (F_NM_put x2 x3 x4 t0_0 t0_1 t0_2 t1_0 t1_1 t1_2 t1_3 t1_4 t1_5 t1_6 t2_0 t3_0 t4_0 t5_0 t5_1 t5_2 t5_3 t5_4 t5_5 t5_6 t5_7 t5_8 t5_9 t5_10 t6_0 t7_0 t8_0 t9_0 t10_0 t11_0) := by
  unfold F_NM_put
  by_cases g1 : ((F_NM_no_IIZ x2 x3) : Int32) = (0 : Int32)
  ·
    rw [if_pos g1]
    have hr := nm_no2 g1
    by_cases g2 : x2 = (3 : Int32)
    ·
      rw [if_pos g2]
      have h3 := g2
      by_cases g3 : (lg_cmp ((x4.toUInt64 >>> ((32 : Int32).toInt64.toUInt64 &&& Int64.toUInt64 63)).toInt64 : Int64) 0 : Int32) = (0 : Int32)
      ·
        rw [if_pos g3]
        have hg := g3
        unfold F_NM_put_J27
        unfold F_NM_put_J28
        have g4 : ((0 : Int32) ≤ (0 : Int32)) := (by decide)
        rw [if_pos g4]
        by_cases g5 : x2 = (0 : Int32)
        ·
          rw [if_pos g5]
          generalize F_WR_put x3 x4 t1_0 t1_1 t1_2 t1_3 t1_4 t1_5 t1_6 t2_0 t3_0 t4_0 = p203 at *
          unfold F_NM_put_c49
          exact (show (0 : Int32) = kPut x2 x3 x4 from (if_pos ⟨hr, fun z => by first | exact hg | exact absurd z h3⟩).symm)
        ·
          rw [if_neg g5]
          by_cases g6 : x2 = (1 : Int32)
          ·
            rw [if_pos g6]
            generalize F_DR_put x3 x4 (0 : Int32) t5_0 t5_1 t5_2 t5_3 t5_4 t5_5 t5_6 t5_7 t5_8 t5_9 t5_10 t6_0 t7_0 t8_0 t9_0 t10_0 = p148 at *
            unfold F_NM_put_c67
            exact (show (0 : Int32) = kPut x2 x3 x4 from (if_pos ⟨hr, fun z => by first | exact hg | exact absurd z h3⟩).symm)
          ·
            rw [if_neg g6]
            exact (show (0 : Int32) = kPut x2 x3 x4 from (if_pos ⟨hr, fun z => by first | exact hg | exact absurd z h3⟩).symm)
      ·
        rw [if_neg g3]
        have hg := g3
        unfold F_NM_put_J23
        unfold F_NM_put_J28
        have g7 : ¬ ((1 : Int32) ≤ (0 : Int32)) := (by decide)
        rw [if_neg g7]
        exact (show (1 : Int32) = kPut x2 x3 x4 from (if_neg (fun z => by first | exact hr z.1 | exact hg (z.2 h3))).symm)
    ·
      rw [if_neg g2]
      have h3 := g2
      unfold F_NM_put_J27
      unfold F_NM_put_J28
      have g8 : ((0 : Int32) ≤ (0 : Int32)) := (by decide)
      rw [if_pos g8]
      by_cases g9 : x2 = (0 : Int32)
      ·
        rw [if_pos g9]
        generalize F_WR_put x3 x4 t1_0 t1_1 t1_2 t1_3 t1_4 t1_5 t1_6 t2_0 t3_0 t4_0 = p203 at *
        unfold F_NM_put_c49
        exact (show (0 : Int32) = kPut x2 x3 x4 from (if_pos ⟨hr, fun z => by first | exact hg | exact absurd z h3⟩).symm)
      ·
        rw [if_neg g9]
        by_cases g10 : x2 = (1 : Int32)
        ·
          rw [if_pos g10]
          generalize F_DR_put x3 x4 (0 : Int32) t5_0 t5_1 t5_2 t5_3 t5_4 t5_5 t5_6 t5_7 t5_8 t5_9 t5_10 t6_0 t7_0 t8_0 t9_0 t10_0 = p148 at *
          unfold F_NM_put_c67
          exact (show (0 : Int32) = kPut x2 x3 x4 from (if_pos ⟨hr, fun z => by first | exact hg | exact absurd z h3⟩).symm)
        ·
          rw [if_neg g10]
          exact (show (0 : Int32) = kPut x2 x3 x4 from (if_pos ⟨hr, fun z => by first | exact hg | exact absurd z h3⟩).symm)
  ·
    rw [if_neg g1]
    have hr := nm_no2n g1
    unfold F_NM_put_J23
    unfold F_NM_put_J28
    have g11 : ¬ ((1 : Int32) ≤ (0 : Int32)) := (by decide)
    rw [if_neg g11]
    exact (show (1 : Int32) = kPut x2 x3 x4 from (if_neg (fun z => by first | exact hr z.1 | exact hg (z.2 h3))).symm)

/-! the reference's invariant: the form of its registers -/
def jW (g : Nat → ClassId) (q : Nat → Nat) (u : va_W) : Prop := ∃ f0 f1 : Nat → Int32, u[121]? = (some (q 121, .inl (g 0, (1408 : Int32).toNatClampNeg, .inl f0)) : Option (Nat × va_E)) ∧ u[122]? = (some (q 122, .inl (g 3, 11, .inl f1)) : Option (Nat × va_E)) ∧ wR f0 f1
theorem jW_fr {g : Nat → ClassId} {q : Nat → Nat} {ws u : va_W} (h : jW g q ws) (h0 : u[121]? = ws[121]?) (h1 : u[122]? = ws[122]?) : jW g q u := by
  obtain ⟨f0, f1, a0, a1, c⟩ := h
  exact ⟨f0, f1, h0.trans a0, h1.trans a1, c⟩
def jD (g : Nat → ClassId) (q : Nat → Nat) (u : va_W) : Prop := ∃ f0 f1 f2 f3 : Nat → Int32, u[136]? = (some (q 136, .inl (g 0, (10000 : Int32).toNatClampNeg, .inl f0)) : Option (Nat × va_E)) ∧ u[137]? = (some (q 137, .inl (g 0, (10 : Int32).toNatClampNeg, .inl f1)) : Option (Nat × va_E)) ∧ u[138]? = (some (q 138, .inl (g 3, 10, .inl f2)) : Option (Nat × va_E)) ∧ u[139]? = (some (q 139, .inl (g 0, (10 : Int32).toNatClampNeg, .inl f3)) : Option (Nat × va_E)) ∧ gR f0 f1 f2 f3
theorem jD_fr {g : Nat → ClassId} {q : Nat → Nat} {ws u : va_W} (h : jD g q ws) (h0 : u[136]? = ws[136]?) (h1 : u[137]? = ws[137]?) (h2 : u[138]? = ws[138]?) (h3 : u[139]? = ws[139]?) : jD g q u := by
  obtain ⟨f0, hZ9⟩ := h
  obtain ⟨f1, hZ9⟩ := hZ9
  obtain ⟨f2, hZ9⟩ := hZ9
  obtain ⟨f3, hZ9⟩ := hZ9
  obtain ⟨a0, hZ9⟩ := hZ9
  obtain ⟨a1, hZ9⟩ := hZ9
  obtain ⟨a2, hZ9⟩ := hZ9
  obtain ⟨a3, c⟩ := hZ9
  exact ⟨f0, f1, f2, f3, h0.trans a0, h1.trans a1, h2.trans a2, h3.trans a3, c⟩
def jZ (g : Nat → ClassId) (q : Nat → Nat) (u : va_W) : Prop := ∃ f0 : Nat → Int32, u[160]? = (some (q 160, .inl (g 0, (9 : Int32).toNatClampNeg, .inl f0)) : Option (Nat × va_E)) ∧ vrZ f0
theorem jZ_fr {g : Nat → ClassId} {q : Nat → Nat} {ws u : va_W} (h : jZ g q ws) (h0 : u[160]? = ws[160]?) : jZ g q u := by
  obtain ⟨f0, a0, c⟩ := h
  exact ⟨f0, h0.trans a0, c⟩
def jB (g : Nat → ClassId) (q : Nat → Nat) (u : va_W) : Prop := ∃ f0 : Nat → Int64, u[167]? = (some (q 167, .inl (g 1, 20, .inr (.inl f0))) : Option (Nat × va_E)) ∧ nmB f0
theorem jB_fr {g : Nat → ClassId} {q : Nat → Nat} {ws u : va_W} (h : jB g q ws) (h0 : u[167]? = ws[167]?) : jB g q u := by
  obtain ⟨f0, a0, c⟩ := h
  exact ⟨f0, h0.trans a0, c⟩
def iM (g : Nat → ClassId) (q : Nat → Nat) (u : va_W) : Prop := jW g q u ∧ jD g q u ∧ jZ g q u ∧ jB g q u
def jF (ws u : va_W) : Prop := ∀ i, ¬ (116 ≤ i ∧ i < 169) → u[i]? = ws[i]?
def jP (g : Nat → ClassId) (q : Nat → Nat) (ws u : va_W) : Prop := q_I (msh g q) q u ∧ iM g q u ∧ jF ws u
theorem jF_un {ws u : va_W} {ks : List Nat} (h : q_un ws u ks) (hk : ∀ i ∈ ks, 116 ≤ i ∧ i < 169) : jF ws u := fun i hi => h i (fun z => hi (hk i z))
theorem q_mVw {l : Launch} {y : MethodName} {b : ByteArray} {n d mc ms : Nat} {D : va_G} {g : Nat → ClassId} {av : List Value} {ws : va_W} {P P' : va_W → Prop} (h : q_mV l y b n d mc ms D g av ws P) (hQ : ∀ u, P u → P' u) : q_mV l y b n d mc ms D g av ws P' := fun sz => by
  refine MetFree.mono (h sz) (fun _ _ h => h) (fun _ _ _ _ _ h => h) ?_
  rintro a s o t _ ⟨⟨⟨u, e1, e2, e3⟩, e4⟩, e5⟩
  exact ⟨⟨⟨u, e1, hQ u e2, e3⟩, e4⟩, e5⟩
set_option maxRecDepth 100000 in
theorem CM_feed (l : Launch) (D : va_G) (g : Nat → ClassId) (q : Nat → Nat) (ws : va_W) (x2 : Int32) (x3 : Int64) (hI : q_I (msh g q) q ws) (hM : iM g q ws) : q_mI l y_NM_feed prog_14_method_3_code 5 (.int) 1 0 0 D g [.ref (q 116), .int x2, .long x3] ws (fun _ u => jP g q ws u) := by
  have hM0 := hM
  obtain ⟨t0_0, t0_1, t0_2, hT0, bT0⟩ := n_o116 hI
  obtain ⟨t1_0, hT1, -⟩ := n_ai hI (n_s117 g q)
  have hq := T_NM_feed (x2 := x2) (x3 := x3) (t0_0 := t0_0) (t0_1 := t0_1) (t0_2 := t0_2) (t1_0 := t1_0) (by first | exact bT0 | exact bT0.1 | exact bT0.2 | exact bT0.2.1 | exact bT0.2.2 | exact bT0.2.2.1 | exact bT0.2.2.2)
  refine q_mIw (X_NM_feed l D g q ws x2 x3 hI t0_0 t0_1 t0_2 hT0 t1_0 hT1 ⟨trivial, hq⟩) ?_
  rintro r u hZ9
  obtain ⟨hI2, hZ9⟩ := hZ9
  obtain ⟨hun, hZ9⟩ := hZ9
  obtain ⟨u0_0, hZ9⟩ := hZ9
  obtain ⟨u0_1, hZ9⟩ := hZ9
  obtain ⟨u1_0, hZ9⟩ := hZ9
  obtain ⟨hU0, hZ9⟩ := hZ9
  obtain ⟨hU1, hR⟩ := hZ9
  exact ⟨hI2, ⟨jW_fr hM0.1 (hun 121 (by decide)) (hun 122 (by decide)), jD_fr hM0.2.1 (hun 136 (by decide)) (hun 137 (by decide)) (hun 138 (by decide)) (hun 139 (by decide)), jZ_fr hM0.2.2.1 (hun 160 (by decide)), jB_fr hM0.2.2.2 (hun 167 (by decide))⟩, jF_un hun (by decide)⟩
set_option maxRecDepth 100000 in
theorem CM_wipe (l : Launch) (D : va_G) (g : Nat → ClassId) (q : Nat → Nat) (ws : va_W) (hI : q_I (msh g q) q ws) (hM : iM g q ws) : q_mI l y_NM_wipe prog_14_method_4_code 2 (.int) 1 0 0 D g [.ref (q 116)] ws (fun _ u => jP g q ws u) := by
  have hM0 := hM
  obtain ⟨t0_0, t0_1, t0_2, hT0, bT0⟩ := n_o116 hI
  refine q_mIw (X_NM_wipe l D g q ws hI t0_0 t0_1 t0_2 hT0) ?_
  rintro r u hZ9
  obtain ⟨hI2, hZ9⟩ := hZ9
  obtain ⟨hun, hZ9⟩ := hZ9
  obtain ⟨u0_0, hZ9⟩ := hZ9
  obtain ⟨u0_1, hZ9⟩ := hZ9
  obtain ⟨hU0, hR⟩ := hZ9
  exact ⟨hI2, ⟨jW_fr hM0.1 (hun 121 (by decide)) (hun 122 (by decide)), jD_fr hM0.2.1 (hun 136 (by decide)) (hun 137 (by decide)) (hun 138 (by decide)) (hun 139 (by decide)), jZ_fr hM0.2.2.1 (hun 160 (by decide)), jB_fr hM0.2.2.2 (hun 167 (by decide))⟩, jF_un hun (by decide)⟩
set_option maxRecDepth 100000 in
theorem CM_paperAt (l : Launch) (D : va_G) (g : Nat → ClassId) (q : Nat → Nat) (ws : va_W) (x2 : Int32) (hI : q_I (msh g q) q ws) (hM : iM g q ws) : q_mL l y_NM_paperAt prog_14_method_6_code 7 1 0 0 D g [.ref (q 116), .int x2] ws (fun _ u => jP g q ws u) := by
  have hM0 := hM
  obtain ⟨t0_0, t0_1, t0_2, hT0, bT0⟩ := n_o116 hI
  obtain ⟨t1_0, hT1, -⟩ := n_ai hI (n_s118 g q)
  have hq := T_NM_paperAt (x2 := x2) (t0_0 := t0_0) (t0_1 := t0_1) (t0_2 := t0_2) (t1_0 := t1_0) (by first | exact bT0 | exact bT0.1 | exact bT0.2 | exact bT0.2.1 | exact bT0.2.2 | exact bT0.2.2.1 | exact bT0.2.2.2)
  refine q_mLw (X_NM_paperAt l D g q ws x2 hI t0_0 t0_1 t0_2 hT0 t1_0 hT1 ⟨trivial, hq⟩) ?_
  rintro r u ⟨hI2, hun, u0_0, hU0, hR⟩
  exact ⟨hI2, ⟨jW_fr hM0.1 (hun 121 (by decide)) (hun 122 (by decide)), jD_fr hM0.2.1 (hun 136 (by decide)) (hun 137 (by decide)) (hun 138 (by decide)) (hun 139 (by decide)), jZ_fr hM0.2.2.1 (hun 160 (by decide)), jB_fr hM0.2.2.2 (hun 167 (by decide))⟩, jF_un hun (by decide)⟩
set_option maxRecDepth 100000 in
theorem CM_compare (l : Launch) (D : va_G) (g : Nat → ClassId) (q : Nat → Nat) (ws : va_W) (x2 : Int32) (x3 : Int32) (x4 : Int32) (hI : q_I (msh g q) q ws) (hM : iM g q ws) : q_mI l y_NM_compare prog_14_method_19_code 12 (.int) 3 0 0 D g [.ref (q 116), .int x2, .int x3, .int x4] ws (fun _ u => jP g q ws u) := by
  have hM0 := hM
  obtain ⟨t2_0, t3_0, hT2, hT3, hW⟩ := hM.1
  obtain ⟨t7_0, hZ9⟩ := hM.2.1
  obtain ⟨t8_0, hZ9⟩ := hZ9
  obtain ⟨t9_0, hZ9⟩ := hZ9
  obtain ⟨t10_0, hZ9⟩ := hZ9
  obtain ⟨hT7, hZ9⟩ := hZ9
  obtain ⟨hT8, hZ9⟩ := hZ9
  obtain ⟨hT9, hZ9⟩ := hZ9
  obtain ⟨hT10, hD⟩ := hZ9
  obtain ⟨t11_0, hT11, hB⟩ := hM.2.2.2
  obtain ⟨t0_0, t0_1, t0_2, hT0, bT0⟩ := n_o116 hI
  obtain ⟨t1_0, hZ9⟩ := n_o119 hI
  obtain ⟨t1_1, hZ9⟩ := hZ9
  obtain ⟨t1_2, hZ9⟩ := hZ9
  obtain ⟨t1_3, hZ9⟩ := hZ9
  obtain ⟨t1_4, hZ9⟩ := hZ9
  obtain ⟨t1_5, hZ9⟩ := hZ9
  obtain ⟨t1_6, hZ9⟩ := hZ9
  obtain ⟨hT1, bT1⟩ := hZ9
  obtain ⟨t4_0, hT4, -⟩ := n_ai hI (n_s128 g q)
  obtain ⟨t5_0, hT5, -⟩ := n_ai hI (n_s129 g q)
  obtain ⟨t6_0, hZ9⟩ := n_o134 hI
  obtain ⟨t6_1, hZ9⟩ := hZ9
  obtain ⟨t6_2, hZ9⟩ := hZ9
  obtain ⟨t6_3, hZ9⟩ := hZ9
  obtain ⟨t6_4, hZ9⟩ := hZ9
  obtain ⟨t6_5, hZ9⟩ := hZ9
  obtain ⟨t6_6, hZ9⟩ := hZ9
  obtain ⟨t6_7, hZ9⟩ := hZ9
  obtain ⟨t6_8, hZ9⟩ := hZ9
  obtain ⟨t6_9, hZ9⟩ := hZ9
  obtain ⟨t6_10, hZ9⟩ := hZ9
  obtain ⟨hT6, bT6⟩ := hZ9
  have hq := T_NM_compare (x2 := x2) (x3 := x3) (x4 := x4) (t0_0 := t0_0) (t0_1 := t0_1) (t0_2 := t0_2) (t1_0 := t1_0) (t1_1 := t1_1) (t1_2 := t1_2) (t1_3 := t1_3) (t1_4 := t1_4) (t1_5 := t1_5) (t1_6 := t1_6) (t2_0 := t2_0) (t3_0 := t3_0) (t4_0 := t4_0) (t5_0 := t5_0) (t6_0 := t6_0) (t6_1 := t6_1) (t6_2 := t6_2) (t6_3 := t6_3) (t6_4 := t6_4) (t6_5 := t6_5) (t6_6 := t6_6) (t6_7 := t6_7) (t6_8 := t6_8) (t6_9 := t6_9) (t6_10 := t6_10) (t7_0 := t7_0) (t8_0 := t8_0) (t9_0 := t9_0) (t10_0 := t10_0) (t11_0 := t11_0) hW hD hB
  refine q_mIw (X_NM_compare l D g q ws x2 x3 x4 hI t0_0 t0_1 t0_2 hT0 t1_0 t1_1 t1_2 t1_3 t1_4 t1_5 t1_6 hT1 t2_0 hT2 t3_0 hT3 t4_0 hT4 t5_0 hT5 t6_0 t6_1 t6_2 t6_3 t6_4 t6_5 t6_6 t6_7 t6_8 t6_9 t6_10 hT6 t7_0 hT7 t8_0 hT8 t9_0 hT9 t10_0 hT10 t11_0 hT11 ⟨trivial, hq⟩) ?_
  rintro r u hZ9
  obtain ⟨hI2, hZ9⟩ := hZ9
  obtain ⟨hun, hZ9⟩ := hZ9
  obtain ⟨u0_0, hZ9⟩ := hZ9
  obtain ⟨u1_0, hZ9⟩ := hZ9
  obtain ⟨u1_1, hZ9⟩ := hZ9
  obtain ⟨u1_2, hZ9⟩ := hZ9
  obtain ⟨u1_3, hZ9⟩ := hZ9
  obtain ⟨u1_4, hZ9⟩ := hZ9
  obtain ⟨u1_5, hZ9⟩ := hZ9
  obtain ⟨u1_6, hZ9⟩ := hZ9
  obtain ⟨u4_0, hZ9⟩ := hZ9
  obtain ⟨u5_0, hZ9⟩ := hZ9
  obtain ⟨u6_0, hZ9⟩ := hZ9
  obtain ⟨u6_1, hZ9⟩ := hZ9
  obtain ⟨u6_2, hZ9⟩ := hZ9
  obtain ⟨u6_3, hZ9⟩ := hZ9
  obtain ⟨u6_4, hZ9⟩ := hZ9
  obtain ⟨u6_5, hZ9⟩ := hZ9
  obtain ⟨u6_6, hZ9⟩ := hZ9
  obtain ⟨u6_7, hZ9⟩ := hZ9
  obtain ⟨u6_8, hZ9⟩ := hZ9
  obtain ⟨u6_9, hZ9⟩ := hZ9
  obtain ⟨u6_10, hZ9⟩ := hZ9
  obtain ⟨hU0, hZ9⟩ := hZ9
  obtain ⟨hU1, hZ9⟩ := hZ9
  obtain ⟨hU2, hZ9⟩ := hZ9
  obtain ⟨hU3, hZ9⟩ := hZ9
  obtain ⟨hU4, hR⟩ := hZ9
  exact ⟨hI2, ⟨jW_fr hM0.1 (hun 121 (by decide)) (hun 122 (by decide)), jD_fr hM0.2.1 (hun 136 (by decide)) (hun 137 (by decide)) (hun 138 (by decide)) (hun 139 (by decide)), jZ_fr hM0.2.2.1 (hun 160 (by decide)), jB_fr hM0.2.2.2 (hun 167 (by decide))⟩, jF_un hun (by decide)⟩
set_option maxRecDepth 100000 in
theorem CM_told (l : Launch) (D : va_G) (g : Nat → ClassId) (q : Nat → Nat) (ws : va_W) (x2 : Int32) (x3 : Int32) (x4 : Int32) (hI : q_I (msh g q) q ws) (hM : iM g q ws) : q_mL l y_NM_told prog_14_method_17_code 6 6 0 0 D g [.ref (q 116), .int x2, .int x3, .int x4] ws (fun _ u => jP g q ws u) := by
  have hM0 := hM
  obtain ⟨t2_0, t3_0, hT2, hT3, hW⟩ := hM.1
  obtain ⟨t5_0, hZ9⟩ := hM.2.1
  obtain ⟨t6_0, hZ9⟩ := hZ9
  obtain ⟨t7_0, hZ9⟩ := hZ9
  obtain ⟨t8_0, hZ9⟩ := hZ9
  obtain ⟨hT5, hZ9⟩ := hZ9
  obtain ⟨hT6, hZ9⟩ := hZ9
  obtain ⟨hT7, hZ9⟩ := hZ9
  obtain ⟨hT8, hD⟩ := hZ9
  obtain ⟨t16_0, hT16, hB⟩ := hM.2.2.2
  obtain ⟨t0_0, t0_1, t0_2, hT0, bT0⟩ := n_o116 hI
  obtain ⟨t1_0, hZ9⟩ := n_o119 hI
  obtain ⟨t1_1, hZ9⟩ := hZ9
  obtain ⟨t1_2, hZ9⟩ := hZ9
  obtain ⟨t1_3, hZ9⟩ := hZ9
  obtain ⟨t1_4, hZ9⟩ := hZ9
  obtain ⟨t1_5, hZ9⟩ := hZ9
  obtain ⟨t1_6, hZ9⟩ := hZ9
  obtain ⟨hT1, bT1⟩ := hZ9
  obtain ⟨t4_0, hZ9⟩ := n_o134 hI
  obtain ⟨t4_1, hZ9⟩ := hZ9
  obtain ⟨t4_2, hZ9⟩ := hZ9
  obtain ⟨t4_3, hZ9⟩ := hZ9
  obtain ⟨t4_4, hZ9⟩ := hZ9
  obtain ⟨t4_5, hZ9⟩ := hZ9
  obtain ⟨t4_6, hZ9⟩ := hZ9
  obtain ⟨t4_7, hZ9⟩ := hZ9
  obtain ⟨t4_8, hZ9⟩ := hZ9
  obtain ⟨t4_9, hZ9⟩ := hZ9
  obtain ⟨t4_10, hZ9⟩ := hZ9
  obtain ⟨hT4, bT4⟩ := hZ9
  obtain ⟨t9_0, hZ9⟩ := n_o145 hI
  obtain ⟨t9_1, hZ9⟩ := hZ9
  obtain ⟨t9_2, hZ9⟩ := hZ9
  obtain ⟨t9_3, hZ9⟩ := hZ9
  obtain ⟨t9_4, hZ9⟩ := hZ9
  obtain ⟨t9_5, hZ9⟩ := hZ9
  obtain ⟨t9_6, hZ9⟩ := hZ9
  obtain ⟨t9_7, hZ9⟩ := hZ9
  obtain ⟨t9_8, hZ9⟩ := hZ9
  obtain ⟨t9_9, hZ9⟩ := hZ9
  obtain ⟨t9_10, hZ9⟩ := hZ9
  obtain ⟨hT9, bT9⟩ := hZ9
  obtain ⟨t10_0, hT10, -⟩ := n_ai hI (n_s146 g q)
  obtain ⟨t11_0, hT11, -⟩ := n_ai hI (n_s147 g q)
  obtain ⟨t12_0, hT12, -⟩ := n_ai hI (n_s148 g q)
  obtain ⟨t13_0, hT13, -⟩ := n_ai hI (n_s149 g q)
  obtain ⟨t14_0, hT14, -⟩ := n_ai hI (n_s150 g q)
  obtain ⟨t15_0, hT15, -⟩ := n_ai hI (n_s151 g q)
  have hq := T_NM_told (x2 := x2) (x3 := x3) (x4 := x4) (t0_0 := t0_0) (t0_1 := t0_1) (t0_2 := t0_2) (t1_0 := t1_0) (t1_1 := t1_1) (t1_2 := t1_2) (t1_3 := t1_3) (t1_4 := t1_4) (t1_5 := t1_5) (t1_6 := t1_6) (t2_0 := t2_0) (t3_0 := t3_0) (t4_0 := t4_0) (t4_1 := t4_1) (t4_2 := t4_2) (t4_3 := t4_3) (t4_4 := t4_4) (t4_5 := t4_5) (t4_6 := t4_6) (t4_7 := t4_7) (t4_8 := t4_8) (t4_9 := t4_9) (t4_10 := t4_10) (t5_0 := t5_0) (t6_0 := t6_0) (t7_0 := t7_0) (t8_0 := t8_0) (t9_0 := t9_0) (t9_1 := t9_1) (t9_2 := t9_2) (t9_3 := t9_3) (t9_4 := t9_4) (t9_5 := t9_5) (t9_6 := t9_6) (t9_7 := t9_7) (t9_8 := t9_8) (t9_9 := t9_9) (t9_10 := t9_10) (t10_0 := t10_0) (t11_0 := t11_0) (t12_0 := t12_0) (t13_0 := t13_0) (t14_0 := t14_0) (t15_0 := t15_0) (t16_0 := t16_0) hW hD hB
  refine q_mLw (X_NM_told l D g q ws x2 x3 x4 hI t0_0 t0_1 t0_2 hT0 t1_0 t1_1 t1_2 t1_3 t1_4 t1_5 t1_6 hT1 t2_0 hT2 t3_0 hT3 t4_0 t4_1 t4_2 t4_3 t4_4 t4_5 t4_6 t4_7 t4_8 t4_9 t4_10 hT4 t5_0 hT5 t6_0 hT6 t7_0 hT7 t8_0 hT8 t9_0 t9_1 t9_2 t9_3 t9_4 t9_5 t9_6 t9_7 t9_8 t9_9 t9_10 hT9 t10_0 hT10 t11_0 hT11 t12_0 hT12 t13_0 hT13 t14_0 hT14 t15_0 hT15 t16_0 hT16 ⟨trivial, hq⟩) ?_
  rintro r u hZ9
  obtain ⟨hI2, hZ9⟩ := hZ9
  obtain ⟨hun, hZ9⟩ := hZ9
  obtain ⟨u0_0, hZ9⟩ := hZ9
  obtain ⟨u1_0, hZ9⟩ := hZ9
  obtain ⟨u1_1, hZ9⟩ := hZ9
  obtain ⟨u1_2, hZ9⟩ := hZ9
  obtain ⟨u1_3, hZ9⟩ := hZ9
  obtain ⟨u1_4, hZ9⟩ := hZ9
  obtain ⟨u1_5, hZ9⟩ := hZ9
  obtain ⟨u1_6, hZ9⟩ := hZ9
  obtain ⟨u4_0, hZ9⟩ := hZ9
  obtain ⟨u4_1, hZ9⟩ := hZ9
  obtain ⟨u4_2, hZ9⟩ := hZ9
  obtain ⟨u4_3, hZ9⟩ := hZ9
  obtain ⟨u4_4, hZ9⟩ := hZ9
  obtain ⟨u4_5, hZ9⟩ := hZ9
  obtain ⟨u4_6, hZ9⟩ := hZ9
  obtain ⟨u4_7, hZ9⟩ := hZ9
  obtain ⟨u4_8, hZ9⟩ := hZ9
  obtain ⟨u4_9, hZ9⟩ := hZ9
  obtain ⟨u4_10, hZ9⟩ := hZ9
  obtain ⟨u9_0, hZ9⟩ := hZ9
  obtain ⟨u9_1, hZ9⟩ := hZ9
  obtain ⟨u9_2, hZ9⟩ := hZ9
  obtain ⟨u9_3, hZ9⟩ := hZ9
  obtain ⟨u9_4, hZ9⟩ := hZ9
  obtain ⟨u9_5, hZ9⟩ := hZ9
  obtain ⟨u9_6, hZ9⟩ := hZ9
  obtain ⟨u9_7, hZ9⟩ := hZ9
  obtain ⟨u9_8, hZ9⟩ := hZ9
  obtain ⟨u9_9, hZ9⟩ := hZ9
  obtain ⟨u9_10, hZ9⟩ := hZ9
  obtain ⟨u10_0, hZ9⟩ := hZ9
  obtain ⟨u11_0, hZ9⟩ := hZ9
  obtain ⟨u12_0, hZ9⟩ := hZ9
  obtain ⟨u13_0, hZ9⟩ := hZ9
  obtain ⟨u14_0, hZ9⟩ := hZ9
  obtain ⟨u15_0, hZ9⟩ := hZ9
  obtain ⟨hU0, hZ9⟩ := hZ9
  obtain ⟨hU1, hZ9⟩ := hZ9
  obtain ⟨hU2, hZ9⟩ := hZ9
  obtain ⟨hU3, hZ9⟩ := hZ9
  obtain ⟨hU4, hZ9⟩ := hZ9
  obtain ⟨hU5, hZ9⟩ := hZ9
  obtain ⟨hU6, hZ9⟩ := hZ9
  obtain ⟨hU7, hZ9⟩ := hZ9
  obtain ⟨hU8, hZ9⟩ := hZ9
  obtain ⟨hU9, hR⟩ := hZ9
  exact ⟨hI2, ⟨jW_fr hM0.1 (hun 121 (by decide)) (hun 122 (by decide)), jD_fr hM0.2.1 (hun 136 (by decide)) (hun 137 (by decide)) (hun 138 (by decide)) (hun 139 (by decide)), jZ_fr hM0.2.2.1 (hun 160 (by decide)), jB_fr hM0.2.2.2 (hun 167 (by decide))⟩, jF_un hun (by decide)⟩

set_option maxRecDepth 100000 in
theorem CM_read (l : Launch) (D : va_G) (g : Nat → ClassId) (q : Nat → Nat) (ws : va_W) (x2 : Int32) (x3 : Int32) (x4 : Int32) (hI : q_I (msh g q) q ws) (hM : iM g q ws) : q_mI l y_NM_read prog_14_method_15_code 8 (.boolean) 7 0 0 D g [.ref (q 116), .int x2, .int x3, .int x4] ws (fun _ u => jP g q ws u) := by
  have hM0 := hM
  obtain ⟨t3_0, t4_0, hT3, hT4, hW⟩ := hM.1
  obtain ⟨t8_0, hZ9⟩ := hM.2.1
  obtain ⟨t9_0, hZ9⟩ := hZ9
  obtain ⟨t10_0, hZ9⟩ := hZ9
  obtain ⟨t11_0, hZ9⟩ := hZ9
  obtain ⟨hT8, hZ9⟩ := hZ9
  obtain ⟨hT9, hZ9⟩ := hZ9
  obtain ⟨hT10, hZ9⟩ := hZ9
  obtain ⟨hT11, hD⟩ := hZ9
  obtain ⟨t18_0, hT18, hB⟩ := hM.2.2.2
  obtain ⟨t0_0, t0_1, t0_2, hT0, bT0⟩ := n_o116 hI
  obtain ⟨t1_0, hZ9⟩ := n_o119 hI
  obtain ⟨t1_1, hZ9⟩ := hZ9
  obtain ⟨t1_2, hZ9⟩ := hZ9
  obtain ⟨t1_3, hZ9⟩ := hZ9
  obtain ⟨t1_4, hZ9⟩ := hZ9
  obtain ⟨t1_5, hZ9⟩ := hZ9
  obtain ⟨t1_6, hZ9⟩ := hZ9
  obtain ⟨hT1, bT1⟩ := hZ9
  obtain ⟨t2_0, hT2, -⟩ := n_ai hI (n_s120 g q)
  obtain ⟨t5_0, hT5, -⟩ := n_ai hI (n_s123 g q)
  obtain ⟨t6_0, hZ9⟩ := n_o134 hI
  obtain ⟨t6_1, hZ9⟩ := hZ9
  obtain ⟨t6_2, hZ9⟩ := hZ9
  obtain ⟨t6_3, hZ9⟩ := hZ9
  obtain ⟨t6_4, hZ9⟩ := hZ9
  obtain ⟨t6_5, hZ9⟩ := hZ9
  obtain ⟨t6_6, hZ9⟩ := hZ9
  obtain ⟨t6_7, hZ9⟩ := hZ9
  obtain ⟨t6_8, hZ9⟩ := hZ9
  obtain ⟨t6_9, hZ9⟩ := hZ9
  obtain ⟨t6_10, hZ9⟩ := hZ9
  obtain ⟨hT6, bT6⟩ := hZ9
  obtain ⟨t7_0, hT7, -⟩ := n_ai hI (n_s135 g q)
  obtain ⟨t12_0, hT12, -⟩ := n_ai hI (n_s140 g q)
  obtain ⟨t13_0, hZ9⟩ := n_o153 hI
  obtain ⟨t13_1, hZ9⟩ := hZ9
  obtain ⟨t13_2, hZ9⟩ := hZ9
  obtain ⟨t13_3, hZ9⟩ := hZ9
  obtain ⟨t13_4, hZ9⟩ := hZ9
  obtain ⟨t13_5, hZ9⟩ := hZ9
  obtain ⟨t13_6, hZ9⟩ := hZ9
  obtain ⟨t13_7, hZ9⟩ := hZ9
  obtain ⟨t13_8, hZ9⟩ := hZ9
  obtain ⟨t13_9, hZ9⟩ := hZ9
  obtain ⟨t13_10, hZ9⟩ := hZ9
  obtain ⟨t13_11, hZ9⟩ := hZ9
  obtain ⟨t13_12, hZ9⟩ := hZ9
  obtain ⟨t13_13, hZ9⟩ := hZ9
  obtain ⟨hT13, bT13⟩ := hZ9
  obtain ⟨t14_0, hT14, -⟩ := n_ai hI (n_s154 g q)
  obtain ⟨t15_0, hT15, -⟩ := n_ai hI (n_s155 g q)
  obtain ⟨t16_0, hT16, -⟩ := n_ai hI (n_s156 g q)
  obtain ⟨t17_0, hT17, -⟩ := n_ai hI (n_s117 g q)
  have hq := T_NM_read (x2 := x2) (x3 := x3) (x4 := x4) (t0_0 := t0_0) (t0_1 := t0_1) (t0_2 := t0_2) (t1_0 := t1_0) (t1_1 := t1_1) (t1_2 := t1_2) (t1_3 := t1_3) (t1_4 := t1_4) (t1_5 := t1_5) (t1_6 := t1_6) (t2_0 := t2_0) (t3_0 := t3_0) (t4_0 := t4_0) (t5_0 := t5_0) (t6_0 := t6_0) (t6_1 := t6_1) (t6_2 := t6_2) (t6_3 := t6_3) (t6_4 := t6_4) (t6_5 := t6_5) (t6_6 := t6_6) (t6_7 := t6_7) (t6_8 := t6_8) (t6_9 := t6_9) (t6_10 := t6_10) (t7_0 := t7_0) (t8_0 := t8_0) (t9_0 := t9_0) (t10_0 := t10_0) (t11_0 := t11_0) (t12_0 := t12_0) (t13_0 := t13_0) (t13_1 := t13_1) (t13_2 := t13_2) (t13_3 := t13_3) (t13_4 := t13_4) (t13_5 := t13_5) (t13_6 := t13_6) (t13_7 := t13_7) (t13_8 := t13_8) (t13_9 := t13_9) (t13_10 := t13_10) (t13_11 := t13_11) (t13_12 := t13_12) (t13_13 := t13_13) (t14_0 := t14_0) (t15_0 := t15_0) (t16_0 := t16_0) (t17_0 := t17_0) (t18_0 := t18_0) (by first | exact bT0 | exact bT0.1 | exact bT0.2 | exact bT0.2.1 | exact bT0.2.2 | exact bT0.2.2.1 | exact bT0.2.2.2) hW hD hB
  refine q_mIw (X_NM_read l D g q ws x2 x3 x4 hI t0_0 t0_1 t0_2 hT0 t1_0 t1_1 t1_2 t1_3 t1_4 t1_5 t1_6 hT1 t2_0 hT2 t3_0 hT3 t4_0 hT4 t5_0 hT5 t6_0 t6_1 t6_2 t6_3 t6_4 t6_5 t6_6 t6_7 t6_8 t6_9 t6_10 hT6 t7_0 hT7 t8_0 hT8 t9_0 hT9 t10_0 hT10 t11_0 hT11 t12_0 hT12 t13_0 t13_1 t13_2 t13_3 t13_4 t13_5 t13_6 t13_7 t13_8 t13_9 t13_10 t13_11 t13_12 t13_13 hT13 t14_0 hT14 t15_0 hT15 t16_0 hT16 t17_0 hT17 t18_0 hT18 ⟨trivial, hq.1⟩) ?_
  rintro r u hZ9
  obtain ⟨hI2, hZ9⟩ := hZ9
  obtain ⟨hun, hZ9⟩ := hZ9
  obtain ⟨u0_0, hZ9⟩ := hZ9
  obtain ⟨u0_1, hZ9⟩ := hZ9
  obtain ⟨u1_0, hZ9⟩ := hZ9
  obtain ⟨u1_1, hZ9⟩ := hZ9
  obtain ⟨u1_2, hZ9⟩ := hZ9
  obtain ⟨u1_3, hZ9⟩ := hZ9
  obtain ⟨u1_4, hZ9⟩ := hZ9
  obtain ⟨u1_5, hZ9⟩ := hZ9
  obtain ⟨u1_6, hZ9⟩ := hZ9
  obtain ⟨u2_0, hZ9⟩ := hZ9
  obtain ⟨u3_0, hZ9⟩ := hZ9
  obtain ⟨u4_0, hZ9⟩ := hZ9
  obtain ⟨u5_0, hZ9⟩ := hZ9
  obtain ⟨u6_0, hZ9⟩ := hZ9
  obtain ⟨u6_1, hZ9⟩ := hZ9
  obtain ⟨u6_2, hZ9⟩ := hZ9
  obtain ⟨u6_3, hZ9⟩ := hZ9
  obtain ⟨u6_4, hZ9⟩ := hZ9
  obtain ⟨u6_5, hZ9⟩ := hZ9
  obtain ⟨u6_6, hZ9⟩ := hZ9
  obtain ⟨u6_7, hZ9⟩ := hZ9
  obtain ⟨u6_8, hZ9⟩ := hZ9
  obtain ⟨u6_9, hZ9⟩ := hZ9
  obtain ⟨u6_10, hZ9⟩ := hZ9
  obtain ⟨u7_0, hZ9⟩ := hZ9
  obtain ⟨u8_0, hZ9⟩ := hZ9
  obtain ⟨u9_0, hZ9⟩ := hZ9
  obtain ⟨u10_0, hZ9⟩ := hZ9
  obtain ⟨u11_0, hZ9⟩ := hZ9
  obtain ⟨u12_0, hZ9⟩ := hZ9
  obtain ⟨u13_0, hZ9⟩ := hZ9
  obtain ⟨u13_1, hZ9⟩ := hZ9
  obtain ⟨u13_2, hZ9⟩ := hZ9
  obtain ⟨u13_3, hZ9⟩ := hZ9
  obtain ⟨u13_4, hZ9⟩ := hZ9
  obtain ⟨u13_5, hZ9⟩ := hZ9
  obtain ⟨u13_6, hZ9⟩ := hZ9
  obtain ⟨u13_7, hZ9⟩ := hZ9
  obtain ⟨u13_8, hZ9⟩ := hZ9
  obtain ⟨u13_9, hZ9⟩ := hZ9
  obtain ⟨u13_10, hZ9⟩ := hZ9
  obtain ⟨u13_11, hZ9⟩ := hZ9
  obtain ⟨u13_12, hZ9⟩ := hZ9
  obtain ⟨u13_13, hZ9⟩ := hZ9
  obtain ⟨u14_0, hZ9⟩ := hZ9
  obtain ⟨u15_0, hZ9⟩ := hZ9
  obtain ⟨u16_0, hZ9⟩ := hZ9
  obtain ⟨u18_0, hZ9⟩ := hZ9
  obtain ⟨hU0, hZ9⟩ := hZ9
  obtain ⟨hU1, hZ9⟩ := hZ9
  obtain ⟨hU2, hZ9⟩ := hZ9
  obtain ⟨hU3, hZ9⟩ := hZ9
  obtain ⟨hU4, hZ9⟩ := hZ9
  obtain ⟨hU5, hZ9⟩ := hZ9
  obtain ⟨hU6, hZ9⟩ := hZ9
  obtain ⟨hU7, hZ9⟩ := hZ9
  obtain ⟨hU8, hZ9⟩ := hZ9
  obtain ⟨hU9, hZ9⟩ := hZ9
  obtain ⟨hU10, hZ9⟩ := hZ9
  obtain ⟨hU11, hZ9⟩ := hZ9
  obtain ⟨hU12, hZ9⟩ := hZ9
  obtain ⟨hU13, hZ9⟩ := hZ9
  obtain ⟨hU14, hZ9⟩ := hZ9
  obtain ⟨hU15, hZ9⟩ := hZ9
  obtain ⟨hU16, hZ9⟩ := hZ9
  obtain ⟨hU17, hR⟩ := hZ9
  have hp := hq.2
  rw [← hR.2.2.2.2.2.2.2.2.2.2.2.2.2.2.2.2.2.2.2.2.2.2.2.2.2.2.2.2.2.2.2.2.2.2.2.2.2.2.2.2.2.2.2.2.2.2.2.2] at hp
  exact ⟨hI2, ⟨⟨_, _, hU3, hU4, hp.1⟩, ⟨_, _, _, _, hU8, hU9, hU10, hU11, hp.2.1⟩, jZ_fr hM0.2.2.1 (hun 160 (by decide)), ⟨_, hU17, hp.2.2⟩⟩, jF_un hun (by decide)⟩
set_option maxRecDepth 100000 in
theorem CM_put (l : Launch) (D : va_G) (g : Nat → ClassId) (q : Nat → Nat) (ws : va_W) (x2 : Int32) (x3 : Int32) (x4 : Int64) (hI : q_I (msh g q) q ws) (hM : iM g q ws) : q_mV l y_NM_put prog_14_method_16_code 5 4 0 0 D g [.ref (q 116), .int x2, .int x3, .long x4] ws (fun u => jP g q ws u ∧ ∃ (tA tB tC : Int32), u[116]? = (some (q 116, .inr (12, [.int tA, .ref (q 117), .int tB, .ref (q 118), .int tC, .ref (q 119), .ref (q 134), .ref (q 145), .ref (q 153), .ref (q 157), .ref (q 167), .ref (q 168)])) : Option (Nat × va_E)) ∧ tA = kPut x2 x3 x4) := by
  have hM0 := hM
  obtain ⟨t2_0, t3_0, hT2, hT3, hW⟩ := hM.1
  obtain ⟨t6_0, hZ9⟩ := hM.2.1
  obtain ⟨t7_0, hZ9⟩ := hZ9
  obtain ⟨t8_0, hZ9⟩ := hZ9
  obtain ⟨t9_0, hZ9⟩ := hZ9
  obtain ⟨hT6, hZ9⟩ := hZ9
  obtain ⟨hT7, hZ9⟩ := hZ9
  obtain ⟨hT8, hZ9⟩ := hZ9
  obtain ⟨hT9, hD⟩ := hZ9
  obtain ⟨t11_0, hT11, hB⟩ := hM.2.2.2
  obtain ⟨t0_0, t0_1, t0_2, hT0, bT0⟩ := n_o116 hI
  obtain ⟨t1_0, hZ9⟩ := n_o119 hI
  obtain ⟨t1_1, hZ9⟩ := hZ9
  obtain ⟨t1_2, hZ9⟩ := hZ9
  obtain ⟨t1_3, hZ9⟩ := hZ9
  obtain ⟨t1_4, hZ9⟩ := hZ9
  obtain ⟨t1_5, hZ9⟩ := hZ9
  obtain ⟨t1_6, hZ9⟩ := hZ9
  obtain ⟨hT1, bT1⟩ := hZ9
  obtain ⟨t4_0, hT4, -⟩ := n_ai hI (n_s123 g q)
  obtain ⟨t5_0, hZ9⟩ := n_o134 hI
  obtain ⟨t5_1, hZ9⟩ := hZ9
  obtain ⟨t5_2, hZ9⟩ := hZ9
  obtain ⟨t5_3, hZ9⟩ := hZ9
  obtain ⟨t5_4, hZ9⟩ := hZ9
  obtain ⟨t5_5, hZ9⟩ := hZ9
  obtain ⟨t5_6, hZ9⟩ := hZ9
  obtain ⟨t5_7, hZ9⟩ := hZ9
  obtain ⟨t5_8, hZ9⟩ := hZ9
  obtain ⟨t5_9, hZ9⟩ := hZ9
  obtain ⟨t5_10, hZ9⟩ := hZ9
  obtain ⟨hT5, bT5⟩ := hZ9
  obtain ⟨t10_0, hT10, -⟩ := n_ai hI (n_s140 g q)
  have hq := T_NM_put (x2 := x2) (x3 := x3) (x4 := x4) (t0_0 := t0_0) (t0_1 := t0_1) (t0_2 := t0_2) (t1_0 := t1_0) (t1_1 := t1_1) (t1_2 := t1_2) (t1_3 := t1_3) (t1_4 := t1_4) (t1_5 := t1_5) (t1_6 := t1_6) (t2_0 := t2_0) (t3_0 := t3_0) (t4_0 := t4_0) (t5_0 := t5_0) (t5_1 := t5_1) (t5_2 := t5_2) (t5_3 := t5_3) (t5_4 := t5_4) (t5_5 := t5_5) (t5_6 := t5_6) (t5_7 := t5_7) (t5_8 := t5_8) (t5_9 := t5_9) (t5_10 := t5_10) (t6_0 := t6_0) (t7_0 := t7_0) (t8_0 := t8_0) (t9_0 := t9_0) (t10_0 := t10_0) (t11_0 := t11_0) hW hD hB
  refine q_mVw (X_NM_put l D g q ws x2 x3 x4 hI t0_0 t0_1 t0_2 hT0 t1_0 t1_1 t1_2 t1_3 t1_4 t1_5 t1_6 hT1 t2_0 hT2 t3_0 hT3 t4_0 hT4 t5_0 t5_1 t5_2 t5_3 t5_4 t5_5 t5_6 t5_7 t5_8 t5_9 t5_10 hT5 t6_0 hT6 t7_0 hT7 t8_0 hT8 t9_0 hT9 t10_0 hT10 t11_0 hT11 ⟨trivial, hq.1⟩) ?_
  rintro u hZ9
  obtain ⟨hI2, hZ9⟩ := hZ9
  obtain ⟨hun, hZ9⟩ := hZ9
  obtain ⟨u0_0, hZ9⟩ := hZ9
  obtain ⟨u1_0, hZ9⟩ := hZ9
  obtain ⟨u1_1, hZ9⟩ := hZ9
  obtain ⟨u1_2, hZ9⟩ := hZ9
  obtain ⟨u1_3, hZ9⟩ := hZ9
  obtain ⟨u1_4, hZ9⟩ := hZ9
  obtain ⟨u1_5, hZ9⟩ := hZ9
  obtain ⟨u1_6, hZ9⟩ := hZ9
  obtain ⟨u2_0, hZ9⟩ := hZ9
  obtain ⟨u3_0, hZ9⟩ := hZ9
  obtain ⟨u4_0, hZ9⟩ := hZ9
  obtain ⟨u5_0, hZ9⟩ := hZ9
  obtain ⟨u5_1, hZ9⟩ := hZ9
  obtain ⟨u5_2, hZ9⟩ := hZ9
  obtain ⟨u5_3, hZ9⟩ := hZ9
  obtain ⟨u5_4, hZ9⟩ := hZ9
  obtain ⟨u5_5, hZ9⟩ := hZ9
  obtain ⟨u5_6, hZ9⟩ := hZ9
  obtain ⟨u5_7, hZ9⟩ := hZ9
  obtain ⟨u5_8, hZ9⟩ := hZ9
  obtain ⟨u5_9, hZ9⟩ := hZ9
  obtain ⟨u5_10, hZ9⟩ := hZ9
  obtain ⟨u6_0, hZ9⟩ := hZ9
  obtain ⟨u7_0, hZ9⟩ := hZ9
  obtain ⟨u8_0, hZ9⟩ := hZ9
  obtain ⟨u9_0, hZ9⟩ := hZ9
  obtain ⟨u10_0, hZ9⟩ := hZ9
  obtain ⟨u11_0, hZ9⟩ := hZ9
  obtain ⟨hU0, hZ9⟩ := hZ9
  obtain ⟨hU1, hZ9⟩ := hZ9
  obtain ⟨hU2, hZ9⟩ := hZ9
  obtain ⟨hU3, hZ9⟩ := hZ9
  obtain ⟨hU4, hZ9⟩ := hZ9
  obtain ⟨hU5, hZ9⟩ := hZ9
  obtain ⟨hU6, hZ9⟩ := hZ9
  obtain ⟨hU7, hZ9⟩ := hZ9
  obtain ⟨hU8, hZ9⟩ := hZ9
  obtain ⟨hU9, hZ9⟩ := hZ9
  obtain ⟨hU10, hZ9⟩ := hZ9
  obtain ⟨hU11, hR⟩ := hZ9
  have hp := hq.2
  rw [← hR.2.2.2.2.2.2.2.2.2.2.2.2.2.2.2.2.2.2.2.2.2.2.2.2.2.2.2.2] at hp
  have hz := M_put (x2 := x2) (x3 := x3) (x4 := x4) (t0_0 := t0_0) (t0_1 := t0_1) (t0_2 := t0_2) (t1_0 := t1_0) (t1_1 := t1_1) (t1_2 := t1_2) (t1_3 := t1_3) (t1_4 := t1_4) (t1_5 := t1_5) (t1_6 := t1_6) (t2_0 := t2_0) (t3_0 := t3_0) (t4_0 := t4_0) (t5_0 := t5_0) (t5_1 := t5_1) (t5_2 := t5_2) (t5_3 := t5_3) (t5_4 := t5_4) (t5_5 := t5_5) (t5_6 := t5_6) (t5_7 := t5_7) (t5_8 := t5_8) (t5_9 := t5_9) (t5_10 := t5_10) (t6_0 := t6_0) (t7_0 := t7_0) (t8_0 := t8_0) (t9_0 := t9_0) (t10_0 := t10_0) (t11_0 := t11_0)
  rw [← hR.2.2.2.2.2.2.2.2.2.2.2.2.2.2.2.2.2.2.2.2.2.2.2.2.2.2.2.2] at hz
  replace hz : u0_0 = kPut x2 x3 x4 := hz
  exact ⟨⟨hI2, ⟨⟨_, _, hU2, hU3, hp.1⟩, ⟨_, _, _, _, hU6, hU7, hU8, hU9, hp.2.1⟩, jZ_fr hM0.2.2.1 (hun 160 (by decide)), ⟨_, hU11, hp.2.2⟩⟩, jF_un hun (by decide)⟩, ⟨_, _, _, hU0, hz⟩⟩
set_option maxRecDepth 100000 in
theorem CM_whole (l : Launch) (D : va_G) (g : Nat → ClassId) (q : Nat → Nat) (ws : va_W) (x2 : Int32) (x3 : Int32) (x4 : Int32) (x5 : Int32) (hI : q_I (msh g q) q ws) (hM : iM g q ws) : q_mV l y_NM_whole prog_14_method_20_code 5 5 0 0 D g [.ref (q 116), .int x2, .int x3, .int x4, .int x5] ws (fun u => jP g q ws u) := by
  have hM0 := hM
  obtain ⟨t2_0, t3_0, hT2, hT3, hW⟩ := hM.1
  obtain ⟨t0_0, t0_1, t0_2, hT0, bT0⟩ := n_o116 hI
  obtain ⟨t1_0, hZ9⟩ := n_o119 hI
  obtain ⟨t1_1, hZ9⟩ := hZ9
  obtain ⟨t1_2, hZ9⟩ := hZ9
  obtain ⟨t1_3, hZ9⟩ := hZ9
  obtain ⟨t1_4, hZ9⟩ := hZ9
  obtain ⟨t1_5, hZ9⟩ := hZ9
  obtain ⟨t1_6, hZ9⟩ := hZ9
  obtain ⟨hT1, bT1⟩ := hZ9
  obtain ⟨t4_0, hT4, -⟩ := n_ai hI (n_s123 g q)
  obtain ⟨t5_0, hT5, -⟩ := n_ai hI (n_s124 g q)
  obtain ⟨t6_0, hT6, -⟩ := n_ai hI (n_s125 g q)
  obtain ⟨t7_0, hT7, -⟩ := n_ai hI (n_s126 g q)
  obtain ⟨t8_0, hT8, -⟩ := n_ai hI (n_s127 g q)
  obtain ⟨t9_0, hT9, -⟩ := n_ai hI (n_s128 g q)
  obtain ⟨t10_0, hT10, -⟩ := n_ai hI (n_s129 g q)
  obtain ⟨t11_0, hT11, -⟩ := n_ai hI (n_s130 g q)
  obtain ⟨t12_0, hT12, -⟩ := n_ai hI (n_s131 g q)
  obtain ⟨t13_0, hT13, -⟩ := n_ai hI (n_s132 g q)
  have hq := T_NM_whole (x2 := x2) (x3 := x3) (x4 := x4) (x5 := x5) (t0_0 := t0_0) (t0_1 := t0_1) (t0_2 := t0_2) (t1_0 := t1_0) (t1_1 := t1_1) (t1_2 := t1_2) (t1_3 := t1_3) (t1_4 := t1_4) (t1_5 := t1_5) (t1_6 := t1_6) (t2_0 := t2_0) (t3_0 := t3_0) (t4_0 := t4_0) (t5_0 := t5_0) (t6_0 := t6_0) (t7_0 := t7_0) (t8_0 := t8_0) (t9_0 := t9_0) (t10_0 := t10_0) (t11_0 := t11_0) (t12_0 := t12_0) (t13_0 := t13_0) hW
  refine q_mVw (X_NM_whole l D g q ws x2 x3 x4 x5 hI t0_0 t0_1 t0_2 hT0 t1_0 t1_1 t1_2 t1_3 t1_4 t1_5 t1_6 hT1 t2_0 hT2 t3_0 hT3 t4_0 hT4 t5_0 hT5 t6_0 hT6 t7_0 hT7 t8_0 hT8 t9_0 hT9 t10_0 hT10 t11_0 hT11 t12_0 hT12 t13_0 hT13 ⟨trivial, hq.1⟩) ?_
  rintro u hZ9
  obtain ⟨hI2, hZ9⟩ := hZ9
  obtain ⟨hun, hZ9⟩ := hZ9
  obtain ⟨u0_0, hZ9⟩ := hZ9
  obtain ⟨u1_0, hZ9⟩ := hZ9
  obtain ⟨u1_1, hZ9⟩ := hZ9
  obtain ⟨u1_2, hZ9⟩ := hZ9
  obtain ⟨u1_3, hZ9⟩ := hZ9
  obtain ⟨u1_4, hZ9⟩ := hZ9
  obtain ⟨u1_5, hZ9⟩ := hZ9
  obtain ⟨u1_6, hZ9⟩ := hZ9
  obtain ⟨u2_0, hZ9⟩ := hZ9
  obtain ⟨u3_0, hZ9⟩ := hZ9
  obtain ⟨u4_0, hZ9⟩ := hZ9
  obtain ⟨u5_0, hZ9⟩ := hZ9
  obtain ⟨u6_0, hZ9⟩ := hZ9
  obtain ⟨u7_0, hZ9⟩ := hZ9
  obtain ⟨u8_0, hZ9⟩ := hZ9
  obtain ⟨u9_0, hZ9⟩ := hZ9
  obtain ⟨u10_0, hZ9⟩ := hZ9
  obtain ⟨u11_0, hZ9⟩ := hZ9
  obtain ⟨u12_0, hZ9⟩ := hZ9
  obtain ⟨u13_0, hZ9⟩ := hZ9
  obtain ⟨hU0, hZ9⟩ := hZ9
  obtain ⟨hU1, hZ9⟩ := hZ9
  obtain ⟨hU2, hZ9⟩ := hZ9
  obtain ⟨hU3, hZ9⟩ := hZ9
  obtain ⟨hU4, hZ9⟩ := hZ9
  obtain ⟨hU5, hZ9⟩ := hZ9
  obtain ⟨hU6, hZ9⟩ := hZ9
  obtain ⟨hU7, hZ9⟩ := hZ9
  obtain ⟨hU8, hZ9⟩ := hZ9
  obtain ⟨hU9, hZ9⟩ := hZ9
  obtain ⟨hU10, hZ9⟩ := hZ9
  obtain ⟨hU11, hZ9⟩ := hZ9
  obtain ⟨hU12, hZ9⟩ := hZ9
  obtain ⟨hU13, hR⟩ := hZ9
  have hp := hq.2
  rw [← hR.2.2.2.2.2.2.2.2.2.2] at hp
  exact ⟨hI2, ⟨⟨_, _, hU2, hU3, hp⟩, jD_fr hM0.2.1 (hun 136 (by decide)) (hun 137 (by decide)) (hun 138 (by decide)) (hun 139 (by decide)), jZ_fr hM0.2.2.1 (hun 160 (by decide)), jB_fr hM0.2.2.2 (hun 167 (by decide))⟩, jF_un hun (by decide)⟩
set_option maxRecDepth 100000 in
theorem CM_wholeBy (l : Launch) (D : va_G) (g : Nat → ClassId) (q : Nat → Nat) (ws : va_W) (x2 : Int32) (x3 : Int32) (x4 : Int32) (x5 : Int32) (hI : q_I (msh g q) q ws) (hM : iM g q ws) : q_mV l y_NM_wholeBy prog_14_method_21_code 5 5 0 0 D g [.ref (q 116), .int x2, .int x3, .int x4, .int x5] ws (fun u => jP g q ws u) := by
  have hM0 := hM
  obtain ⟨t2_0, t3_0, hT2, hT3, hW⟩ := hM.1
  obtain ⟨t0_0, t0_1, t0_2, hT0, bT0⟩ := n_o116 hI
  obtain ⟨t1_0, hZ9⟩ := n_o119 hI
  obtain ⟨t1_1, hZ9⟩ := hZ9
  obtain ⟨t1_2, hZ9⟩ := hZ9
  obtain ⟨t1_3, hZ9⟩ := hZ9
  obtain ⟨t1_4, hZ9⟩ := hZ9
  obtain ⟨t1_5, hZ9⟩ := hZ9
  obtain ⟨t1_6, hZ9⟩ := hZ9
  obtain ⟨hT1, bT1⟩ := hZ9
  obtain ⟨t4_0, hT4, -⟩ := n_ai hI (n_s123 g q)
  obtain ⟨t5_0, hT5, -⟩ := n_ai hI (n_s124 g q)
  obtain ⟨t6_0, hT6, -⟩ := n_ai hI (n_s125 g q)
  obtain ⟨t7_0, hT7, -⟩ := n_ai hI (n_s128 g q)
  have hq := T_NM_wholeBy (x2 := x2) (x3 := x3) (x4 := x4) (x5 := x5) (t0_0 := t0_0) (t0_1 := t0_1) (t0_2 := t0_2) (t1_0 := t1_0) (t1_1 := t1_1) (t1_2 := t1_2) (t1_3 := t1_3) (t1_4 := t1_4) (t1_5 := t1_5) (t1_6 := t1_6) (t2_0 := t2_0) (t3_0 := t3_0) (t4_0 := t4_0) (t5_0 := t5_0) (t6_0 := t6_0) (t7_0 := t7_0) hW
  refine q_mVw (X_NM_wholeBy l D g q ws x2 x3 x4 x5 hI t0_0 t0_1 t0_2 hT0 t1_0 t1_1 t1_2 t1_3 t1_4 t1_5 t1_6 hT1 t2_0 hT2 t3_0 hT3 t4_0 hT4 t5_0 hT5 t6_0 hT6 t7_0 hT7 ⟨trivial, hq.1⟩) ?_
  rintro u hZ9
  obtain ⟨hI2, hZ9⟩ := hZ9
  obtain ⟨hun, hZ9⟩ := hZ9
  obtain ⟨u0_0, hZ9⟩ := hZ9
  obtain ⟨u1_0, hZ9⟩ := hZ9
  obtain ⟨u1_1, hZ9⟩ := hZ9
  obtain ⟨u1_2, hZ9⟩ := hZ9
  obtain ⟨u1_3, hZ9⟩ := hZ9
  obtain ⟨u1_4, hZ9⟩ := hZ9
  obtain ⟨u1_5, hZ9⟩ := hZ9
  obtain ⟨u1_6, hZ9⟩ := hZ9
  obtain ⟨u2_0, hZ9⟩ := hZ9
  obtain ⟨u3_0, hZ9⟩ := hZ9
  obtain ⟨u4_0, hZ9⟩ := hZ9
  obtain ⟨u5_0, hZ9⟩ := hZ9
  obtain ⟨u6_0, hZ9⟩ := hZ9
  obtain ⟨u7_0, hZ9⟩ := hZ9
  obtain ⟨hU0, hZ9⟩ := hZ9
  obtain ⟨hU1, hZ9⟩ := hZ9
  obtain ⟨hU2, hZ9⟩ := hZ9
  obtain ⟨hU3, hZ9⟩ := hZ9
  obtain ⟨hU4, hZ9⟩ := hZ9
  obtain ⟨hU5, hZ9⟩ := hZ9
  obtain ⟨hU6, hZ9⟩ := hZ9
  obtain ⟨hU7, hR⟩ := hZ9
  have hp := hq.2
  rw [← hR.2.2.2.2.2.2.2.2.2.2] at hp
  exact ⟨hI2, ⟨⟨_, _, hU2, hU3, hp⟩, jD_fr hM0.2.1 (hun 136 (by decide)) (hun 137 (by decide)) (hun 138 (by decide)) (hun 139 (by decide)), jZ_fr hM0.2.2.1 (hun 160 (by decide)), jB_fr hM0.2.2.2 (hun 167 (by decide))⟩, jF_un hun (by decide)⟩
set_option maxRecDepth 100000 in
theorem CM_powerModulo (l : Launch) (D : va_G) (g : Nat → ClassId) (q : Nat → Nat) (ws : va_W) (x2 : Int32) (x3 : Int32) (x4 : Int32) (x5 : Int32) (hI : q_I (msh g q) q ws) (hM : iM g q ws) : q_mV l y_NM_powerModulo prog_14_method_22_code 5 5 0 0 D g [.ref (q 116), .int x2, .int x3, .int x4, .int x5] ws (fun u => jP g q ws u) := by
  have hM0 := hM
  obtain ⟨t2_0, t3_0, hT2, hT3, hW⟩ := hM.1
  obtain ⟨t0_0, t0_1, t0_2, hT0, bT0⟩ := n_o116 hI
  obtain ⟨t1_0, hZ9⟩ := n_o119 hI
  obtain ⟨t1_1, hZ9⟩ := hZ9
  obtain ⟨t1_2, hZ9⟩ := hZ9
  obtain ⟨t1_3, hZ9⟩ := hZ9
  obtain ⟨t1_4, hZ9⟩ := hZ9
  obtain ⟨t1_5, hZ9⟩ := hZ9
  obtain ⟨t1_6, hZ9⟩ := hZ9
  obtain ⟨hT1, bT1⟩ := hZ9
  obtain ⟨t4_0, hT4, -⟩ := n_ai hI (n_s123 g q)
  obtain ⟨t5_0, hT5, -⟩ := n_ai hI (n_s124 g q)
  obtain ⟨t6_0, hT6, -⟩ := n_ai hI (n_s125 g q)
  obtain ⟨t7_0, hT7, -⟩ := n_ai hI (n_s126 g q)
  obtain ⟨t8_0, hT8, -⟩ := n_ai hI (n_s127 g q)
  obtain ⟨t9_0, hT9, -⟩ := n_ai hI (n_s128 g q)
  obtain ⟨t10_0, hT10, -⟩ := n_ai hI (n_s129 g q)
  obtain ⟨t11_0, hT11, -⟩ := n_ai hI (n_s130 g q)
  obtain ⟨t12_0, hT12, -⟩ := n_ai hI (n_s131 g q)
  obtain ⟨t13_0, hT13, -⟩ := n_ai hI (n_s132 g q)
  have hq := T_NM_powerModulo (x2 := x2) (x3 := x3) (x4 := x4) (x5 := x5) (t0_0 := t0_0) (t0_1 := t0_1) (t0_2 := t0_2) (t1_0 := t1_0) (t1_1 := t1_1) (t1_2 := t1_2) (t1_3 := t1_3) (t1_4 := t1_4) (t1_5 := t1_5) (t1_6 := t1_6) (t2_0 := t2_0) (t3_0 := t3_0) (t4_0 := t4_0) (t5_0 := t5_0) (t6_0 := t6_0) (t7_0 := t7_0) (t8_0 := t8_0) (t9_0 := t9_0) (t10_0 := t10_0) (t11_0 := t11_0) (t12_0 := t12_0) (t13_0 := t13_0) hW
  refine q_mVw (X_NM_powerModulo l D g q ws x2 x3 x4 x5 hI t0_0 t0_1 t0_2 hT0 t1_0 t1_1 t1_2 t1_3 t1_4 t1_5 t1_6 hT1 t2_0 hT2 t3_0 hT3 t4_0 hT4 t5_0 hT5 t6_0 hT6 t7_0 hT7 t8_0 hT8 t9_0 hT9 t10_0 hT10 t11_0 hT11 t12_0 hT12 t13_0 hT13 ⟨trivial, hq.1⟩) ?_
  rintro u hZ9
  obtain ⟨hI2, hZ9⟩ := hZ9
  obtain ⟨hun, hZ9⟩ := hZ9
  obtain ⟨u0_0, hZ9⟩ := hZ9
  obtain ⟨u1_0, hZ9⟩ := hZ9
  obtain ⟨u1_1, hZ9⟩ := hZ9
  obtain ⟨u1_2, hZ9⟩ := hZ9
  obtain ⟨u1_3, hZ9⟩ := hZ9
  obtain ⟨u1_4, hZ9⟩ := hZ9
  obtain ⟨u1_5, hZ9⟩ := hZ9
  obtain ⟨u1_6, hZ9⟩ := hZ9
  obtain ⟨u2_0, hZ9⟩ := hZ9
  obtain ⟨u3_0, hZ9⟩ := hZ9
  obtain ⟨u4_0, hZ9⟩ := hZ9
  obtain ⟨u5_0, hZ9⟩ := hZ9
  obtain ⟨u6_0, hZ9⟩ := hZ9
  obtain ⟨u7_0, hZ9⟩ := hZ9
  obtain ⟨u8_0, hZ9⟩ := hZ9
  obtain ⟨u9_0, hZ9⟩ := hZ9
  obtain ⟨u10_0, hZ9⟩ := hZ9
  obtain ⟨u11_0, hZ9⟩ := hZ9
  obtain ⟨u12_0, hZ9⟩ := hZ9
  obtain ⟨u13_0, hZ9⟩ := hZ9
  obtain ⟨hU0, hZ9⟩ := hZ9
  obtain ⟨hU1, hZ9⟩ := hZ9
  obtain ⟨hU2, hZ9⟩ := hZ9
  obtain ⟨hU3, hZ9⟩ := hZ9
  obtain ⟨hU4, hZ9⟩ := hZ9
  obtain ⟨hU5, hZ9⟩ := hZ9
  obtain ⟨hU6, hZ9⟩ := hZ9
  obtain ⟨hU7, hZ9⟩ := hZ9
  obtain ⟨hU8, hZ9⟩ := hZ9
  obtain ⟨hU9, hZ9⟩ := hZ9
  obtain ⟨hU10, hZ9⟩ := hZ9
  obtain ⟨hU11, hZ9⟩ := hZ9
  obtain ⟨hU12, hZ9⟩ := hZ9
  obtain ⟨hU13, hR⟩ := hZ9
  have hp := hq.2
  rw [← hR.2.2.2.2.2.2.2.2.2.2.2.2] at hp
  exact ⟨hI2, ⟨⟨_, _, hU2, hU3, hp⟩, jD_fr hM0.2.1 (hun 136 (by decide)) (hun 137 (by decide)) (hun 138 (by decide)) (hun 139 (by decide)), jZ_fr hM0.2.2.1 (hun 160 (by decide)), jB_fr hM0.2.2.2 (hun 167 (by decide))⟩, jF_un hun (by decide)⟩

set_option maxRecDepth 100000 in
theorem CM_decimal (l : Launch) (D : va_G) (g : Nat → ClassId) (q : Nat → Nat) (ws : va_W) (x2 : Int32) (x3 : Int32) (x4 : Int32) (x5 : Int32) (hI : q_I (msh g q) q ws) (hM : iM g q ws) : q_mV l y_NM_decimal prog_14_method_23_code 5 6 0 0 D g [.ref (q 116), .int x2, .int x3, .int x4, .int x5] ws (fun u => jP g q ws u) := by
  have hM0 := hM
  obtain ⟨t2_0, hZ9⟩ := hM.2.1
  obtain ⟨t3_0, hZ9⟩ := hZ9
  obtain ⟨t4_0, hZ9⟩ := hZ9
  obtain ⟨t5_0, hZ9⟩ := hZ9
  obtain ⟨hT2, hZ9⟩ := hZ9
  obtain ⟨hT3, hZ9⟩ := hZ9
  obtain ⟨hT4, hZ9⟩ := hZ9
  obtain ⟨hT5, hD⟩ := hZ9
  obtain ⟨t0_0, t0_1, t0_2, hT0, bT0⟩ := n_o116 hI
  obtain ⟨t1_0, hZ9⟩ := n_o134 hI
  obtain ⟨t1_1, hZ9⟩ := hZ9
  obtain ⟨t1_2, hZ9⟩ := hZ9
  obtain ⟨t1_3, hZ9⟩ := hZ9
  obtain ⟨t1_4, hZ9⟩ := hZ9
  obtain ⟨t1_5, hZ9⟩ := hZ9
  obtain ⟨t1_6, hZ9⟩ := hZ9
  obtain ⟨t1_7, hZ9⟩ := hZ9
  obtain ⟨t1_8, hZ9⟩ := hZ9
  obtain ⟨t1_9, hZ9⟩ := hZ9
  obtain ⟨t1_10, hZ9⟩ := hZ9
  obtain ⟨hT1, bT1⟩ := hZ9
  obtain ⟨t6_0, hT6, -⟩ := n_ai hI (n_s140 g q)
  obtain ⟨t7_0, hT7, -⟩ := n_ai hI (n_s141 g q)
  obtain ⟨t8_0, hT8, -⟩ := n_ai hI (n_s142 g q)
  obtain ⟨t9_0, hT9, -⟩ := n_ai hI (n_s143 g q)
  have hq := T_NM_decimal (x2 := x2) (x3 := x3) (x4 := x4) (x5 := x5) (t0_0 := t0_0) (t0_1 := t0_1) (t0_2 := t0_2) (t1_0 := t1_0) (t1_1 := t1_1) (t1_2 := t1_2) (t1_3 := t1_3) (t1_4 := t1_4) (t1_5 := t1_5) (t1_6 := t1_6) (t1_7 := t1_7) (t1_8 := t1_8) (t1_9 := t1_9) (t1_10 := t1_10) (t2_0 := t2_0) (t3_0 := t3_0) (t4_0 := t4_0) (t5_0 := t5_0) (t6_0 := t6_0) (t7_0 := t7_0) (t8_0 := t8_0) (t9_0 := t9_0) hD
  refine q_mVw (X_NM_decimal l D g q ws x2 x3 x4 x5 hI t0_0 t0_1 t0_2 hT0 t1_0 t1_1 t1_2 t1_3 t1_4 t1_5 t1_6 t1_7 t1_8 t1_9 t1_10 hT1 t2_0 hT2 t3_0 hT3 t4_0 hT4 t5_0 hT5 t6_0 hT6 t7_0 hT7 t8_0 hT8 t9_0 hT9 ⟨trivial, hq.1⟩) ?_
  rintro u hZ9
  obtain ⟨hI2, hZ9⟩ := hZ9
  obtain ⟨hun, hZ9⟩ := hZ9
  obtain ⟨u0_0, hZ9⟩ := hZ9
  obtain ⟨u1_0, hZ9⟩ := hZ9
  obtain ⟨u1_1, hZ9⟩ := hZ9
  obtain ⟨u1_2, hZ9⟩ := hZ9
  obtain ⟨u1_3, hZ9⟩ := hZ9
  obtain ⟨u1_4, hZ9⟩ := hZ9
  obtain ⟨u1_5, hZ9⟩ := hZ9
  obtain ⟨u1_6, hZ9⟩ := hZ9
  obtain ⟨u1_7, hZ9⟩ := hZ9
  obtain ⟨u1_8, hZ9⟩ := hZ9
  obtain ⟨u1_9, hZ9⟩ := hZ9
  obtain ⟨u1_10, hZ9⟩ := hZ9
  obtain ⟨u2_0, hZ9⟩ := hZ9
  obtain ⟨u3_0, hZ9⟩ := hZ9
  obtain ⟨u4_0, hZ9⟩ := hZ9
  obtain ⟨u5_0, hZ9⟩ := hZ9
  obtain ⟨u6_0, hZ9⟩ := hZ9
  obtain ⟨u7_0, hZ9⟩ := hZ9
  obtain ⟨u8_0, hZ9⟩ := hZ9
  obtain ⟨u9_0, hZ9⟩ := hZ9
  obtain ⟨hU0, hZ9⟩ := hZ9
  obtain ⟨hU1, hZ9⟩ := hZ9
  obtain ⟨hU2, hZ9⟩ := hZ9
  obtain ⟨hU3, hZ9⟩ := hZ9
  obtain ⟨hU4, hZ9⟩ := hZ9
  obtain ⟨hU5, hZ9⟩ := hZ9
  obtain ⟨hU6, hZ9⟩ := hZ9
  obtain ⟨hU7, hZ9⟩ := hZ9
  obtain ⟨hU8, hZ9⟩ := hZ9
  obtain ⟨hU9, hR⟩ := hZ9
  have hp := hq.2
  rw [← hR.2.2.2.2.2.2.2.2.2.2.2.2] at hp
  exact ⟨hI2, ⟨jW_fr hM0.1 (hun 121 (by decide)) (hun 122 (by decide)), ⟨_, _, _, _, hU2, hU3, hU4, hU5, hp⟩, jZ_fr hM0.2.2.1 (hun 160 (by decide)), jB_fr hM0.2.2.2 (hun 167 (by decide))⟩, jF_un hun (by decide)⟩
set_option maxRecDepth 100000 in
theorem CM_decimalBy (l : Launch) (D : va_G) (g : Nat → ClassId) (q : Nat → Nat) (ws : va_W) (x2 : Int32) (x3 : Int32) (x4 : Int32) (x5 : Int32) (hI : q_I (msh g q) q ws) (hM : iM g q ws) : q_mV l y_NM_decimalBy prog_14_method_24_code 5 4 0 0 D g [.ref (q 116), .int x2, .int x3, .int x4, .int x5] ws (fun u => jP g q ws u) := by
  have hM0 := hM
  obtain ⟨t2_0, hZ9⟩ := hM.2.1
  obtain ⟨t3_0, hZ9⟩ := hZ9
  obtain ⟨t4_0, hZ9⟩ := hZ9
  obtain ⟨t5_0, hZ9⟩ := hZ9
  obtain ⟨hT2, hZ9⟩ := hZ9
  obtain ⟨hT3, hZ9⟩ := hZ9
  obtain ⟨hT4, hZ9⟩ := hZ9
  obtain ⟨hT5, hD⟩ := hZ9
  obtain ⟨t0_0, t0_1, t0_2, hT0, bT0⟩ := n_o116 hI
  obtain ⟨t1_0, hZ9⟩ := n_o134 hI
  obtain ⟨t1_1, hZ9⟩ := hZ9
  obtain ⟨t1_2, hZ9⟩ := hZ9
  obtain ⟨t1_3, hZ9⟩ := hZ9
  obtain ⟨t1_4, hZ9⟩ := hZ9
  obtain ⟨t1_5, hZ9⟩ := hZ9
  obtain ⟨t1_6, hZ9⟩ := hZ9
  obtain ⟨t1_7, hZ9⟩ := hZ9
  obtain ⟨t1_8, hZ9⟩ := hZ9
  obtain ⟨t1_9, hZ9⟩ := hZ9
  obtain ⟨t1_10, hZ9⟩ := hZ9
  obtain ⟨hT1, bT1⟩ := hZ9
  obtain ⟨t6_0, hT6, -⟩ := n_ai hI (n_s140 g q)
  obtain ⟨t7_0, hT7, -⟩ := n_ai hI (n_s141 g q)
  have hq := T_NM_decimalBy (x2 := x2) (x3 := x3) (x4 := x4) (x5 := x5) (t0_0 := t0_0) (t0_1 := t0_1) (t0_2 := t0_2) (t1_0 := t1_0) (t1_1 := t1_1) (t1_2 := t1_2) (t1_3 := t1_3) (t1_4 := t1_4) (t1_5 := t1_5) (t1_6 := t1_6) (t1_7 := t1_7) (t1_8 := t1_8) (t1_9 := t1_9) (t1_10 := t1_10) (t2_0 := t2_0) (t3_0 := t3_0) (t4_0 := t4_0) (t5_0 := t5_0) (t6_0 := t6_0) (t7_0 := t7_0) hD
  refine q_mVw (X_NM_decimalBy l D g q ws x2 x3 x4 x5 hI t0_0 t0_1 t0_2 hT0 t1_0 t1_1 t1_2 t1_3 t1_4 t1_5 t1_6 t1_7 t1_8 t1_9 t1_10 hT1 t2_0 hT2 t3_0 hT3 t4_0 hT4 t5_0 hT5 t6_0 hT6 t7_0 hT7 ⟨trivial, hq.1⟩) ?_
  rintro u hZ9
  obtain ⟨hI2, hZ9⟩ := hZ9
  obtain ⟨hun, hZ9⟩ := hZ9
  obtain ⟨u0_0, hZ9⟩ := hZ9
  obtain ⟨u1_0, hZ9⟩ := hZ9
  obtain ⟨u1_1, hZ9⟩ := hZ9
  obtain ⟨u1_2, hZ9⟩ := hZ9
  obtain ⟨u1_3, hZ9⟩ := hZ9
  obtain ⟨u1_4, hZ9⟩ := hZ9
  obtain ⟨u1_5, hZ9⟩ := hZ9
  obtain ⟨u1_6, hZ9⟩ := hZ9
  obtain ⟨u1_7, hZ9⟩ := hZ9
  obtain ⟨u1_8, hZ9⟩ := hZ9
  obtain ⟨u1_9, hZ9⟩ := hZ9
  obtain ⟨u1_10, hZ9⟩ := hZ9
  obtain ⟨u2_0, hZ9⟩ := hZ9
  obtain ⟨u3_0, hZ9⟩ := hZ9
  obtain ⟨u4_0, hZ9⟩ := hZ9
  obtain ⟨u5_0, hZ9⟩ := hZ9
  obtain ⟨u6_0, hZ9⟩ := hZ9
  obtain ⟨u7_0, hZ9⟩ := hZ9
  obtain ⟨hU0, hZ9⟩ := hZ9
  obtain ⟨hU1, hZ9⟩ := hZ9
  obtain ⟨hU2, hZ9⟩ := hZ9
  obtain ⟨hU3, hZ9⟩ := hZ9
  obtain ⟨hU4, hZ9⟩ := hZ9
  obtain ⟨hU5, hZ9⟩ := hZ9
  obtain ⟨hU6, hZ9⟩ := hZ9
  obtain ⟨hU7, hR⟩ := hZ9
  have hp := hq.2
  rw [← hR.2.2.2.2.2.2.2.2.2.2.2.2.2.2] at hp
  exact ⟨hI2, ⟨jW_fr hM0.1 (hun 121 (by decide)) (hun 122 (by decide)), ⟨_, _, _, _, hU2, hU3, hU4, hU5, hp⟩, jZ_fr hM0.2.2.1 (hun 160 (by decide)), jB_fr hM0.2.2.2 (hun 167 (by decide))⟩, jF_un hun (by decide)⟩
set_option maxRecDepth 100000 in
theorem CM_divide (l : Launch) (D : va_G) (g : Nat → ClassId) (q : Nat → Nat) (ws : va_W) (x2 : Int32) (x3 : Int32) (x4 : Int32) (x5 : Int32) (x6 : Int32) (hI : q_I (msh g q) q ws) (hM : iM g q ws) : q_mV l y_NM_divide prog_14_method_25_code 6 5 0 0 D g [.ref (q 116), .int x2, .int x3, .int x4, .int x5, .int x6] ws (fun u => jP g q ws u) := by
  have hM0 := hM
  obtain ⟨t2_0, hZ9⟩ := hM.2.1
  obtain ⟨t3_0, hZ9⟩ := hZ9
  obtain ⟨t4_0, hZ9⟩ := hZ9
  obtain ⟨t5_0, hZ9⟩ := hZ9
  obtain ⟨hT2, hZ9⟩ := hZ9
  obtain ⟨hT3, hZ9⟩ := hZ9
  obtain ⟨hT4, hZ9⟩ := hZ9
  obtain ⟨hT5, hD⟩ := hZ9
  obtain ⟨t0_0, t0_1, t0_2, hT0, bT0⟩ := n_o116 hI
  obtain ⟨t1_0, hZ9⟩ := n_o134 hI
  obtain ⟨t1_1, hZ9⟩ := hZ9
  obtain ⟨t1_2, hZ9⟩ := hZ9
  obtain ⟨t1_3, hZ9⟩ := hZ9
  obtain ⟨t1_4, hZ9⟩ := hZ9
  obtain ⟨t1_5, hZ9⟩ := hZ9
  obtain ⟨t1_6, hZ9⟩ := hZ9
  obtain ⟨t1_7, hZ9⟩ := hZ9
  obtain ⟨t1_8, hZ9⟩ := hZ9
  obtain ⟨t1_9, hZ9⟩ := hZ9
  obtain ⟨t1_10, hZ9⟩ := hZ9
  obtain ⟨hT1, bT1⟩ := hZ9
  obtain ⟨t6_0, hT6, -⟩ := n_ai hI (n_s140 g q)
  obtain ⟨t7_0, hT7, -⟩ := n_ai hI (n_s142 g q)
  obtain ⟨t8_0, hT8, -⟩ := n_ai hI (n_s143 g q)
  have hq := T_NM_divide (x2 := x2) (x3 := x3) (x4 := x4) (x5 := x5) (x6 := x6) (t0_0 := t0_0) (t0_1 := t0_1) (t0_2 := t0_2) (t1_0 := t1_0) (t1_1 := t1_1) (t1_2 := t1_2) (t1_3 := t1_3) (t1_4 := t1_4) (t1_5 := t1_5) (t1_6 := t1_6) (t1_7 := t1_7) (t1_8 := t1_8) (t1_9 := t1_9) (t1_10 := t1_10) (t2_0 := t2_0) (t3_0 := t3_0) (t4_0 := t4_0) (t5_0 := t5_0) (t6_0 := t6_0) (t7_0 := t7_0) (t8_0 := t8_0) hD
  refine q_mVw (X_NM_divide l D g q ws x2 x3 x4 x5 x6 hI t0_0 t0_1 t0_2 hT0 t1_0 t1_1 t1_2 t1_3 t1_4 t1_5 t1_6 t1_7 t1_8 t1_9 t1_10 hT1 t2_0 hT2 t3_0 hT3 t4_0 hT4 t5_0 hT5 t6_0 hT6 t7_0 hT7 t8_0 hT8 ⟨trivial, hq.1⟩) ?_
  rintro u hZ9
  obtain ⟨hI2, hZ9⟩ := hZ9
  obtain ⟨hun, hZ9⟩ := hZ9
  obtain ⟨u0_0, hZ9⟩ := hZ9
  obtain ⟨u1_0, hZ9⟩ := hZ9
  obtain ⟨u1_1, hZ9⟩ := hZ9
  obtain ⟨u1_2, hZ9⟩ := hZ9
  obtain ⟨u1_3, hZ9⟩ := hZ9
  obtain ⟨u1_4, hZ9⟩ := hZ9
  obtain ⟨u1_5, hZ9⟩ := hZ9
  obtain ⟨u1_6, hZ9⟩ := hZ9
  obtain ⟨u1_7, hZ9⟩ := hZ9
  obtain ⟨u1_8, hZ9⟩ := hZ9
  obtain ⟨u1_9, hZ9⟩ := hZ9
  obtain ⟨u1_10, hZ9⟩ := hZ9
  obtain ⟨u2_0, hZ9⟩ := hZ9
  obtain ⟨u3_0, hZ9⟩ := hZ9
  obtain ⟨u4_0, hZ9⟩ := hZ9
  obtain ⟨u5_0, hZ9⟩ := hZ9
  obtain ⟨u6_0, hZ9⟩ := hZ9
  obtain ⟨u7_0, hZ9⟩ := hZ9
  obtain ⟨u8_0, hZ9⟩ := hZ9
  obtain ⟨hU0, hZ9⟩ := hZ9
  obtain ⟨hU1, hZ9⟩ := hZ9
  obtain ⟨hU2, hZ9⟩ := hZ9
  obtain ⟨hU3, hZ9⟩ := hZ9
  obtain ⟨hU4, hZ9⟩ := hZ9
  obtain ⟨hU5, hZ9⟩ := hZ9
  obtain ⟨hU6, hZ9⟩ := hZ9
  obtain ⟨hU7, hZ9⟩ := hZ9
  obtain ⟨hU8, hR⟩ := hZ9
  have hp := hq.2
  rw [← hR.2.2.2.2.2.2.2.2.2.2.2.2] at hp
  exact ⟨hI2, ⟨jW_fr hM0.1 (hun 121 (by decide)) (hun 122 (by decide)), ⟨_, _, _, _, hU2, hU3, hU4, hU5, hp⟩, jZ_fr hM0.2.2.1 (hun 160 (by decide)), jB_fr hM0.2.2.2 (hun 167 (by decide))⟩, jF_un hun (by decide)⟩
set_option maxRecDepth 100000 in
theorem CM_quotient (l : Launch) (D : va_G) (g : Nat → ClassId) (q : Nat → Nat) (ws : va_W) (x2 : Int32) (x3 : Int32) (x4 : Int32) (x5 : Int32) (x6 : Int32) (hI : q_I (msh g q) q ws) (hM : iM g q ws) : q_mV l y_NM_quotient prog_14_method_26_code 6 6 0 0 D g [.ref (q 116), .int x2, .int x3, .int x4, .int x5, .int x6] ws (fun u => jP g q ws u) := by
  have hM0 := hM
  obtain ⟨t2_0, hZ9⟩ := hM.2.1
  obtain ⟨t3_0, hZ9⟩ := hZ9
  obtain ⟨t4_0, hZ9⟩ := hZ9
  obtain ⟨t5_0, hZ9⟩ := hZ9
  obtain ⟨hT2, hZ9⟩ := hZ9
  obtain ⟨hT3, hZ9⟩ := hZ9
  obtain ⟨hT4, hZ9⟩ := hZ9
  obtain ⟨hT5, hD⟩ := hZ9
  obtain ⟨t0_0, t0_1, t0_2, hT0, bT0⟩ := n_o116 hI
  obtain ⟨t1_0, hZ9⟩ := n_o134 hI
  obtain ⟨t1_1, hZ9⟩ := hZ9
  obtain ⟨t1_2, hZ9⟩ := hZ9
  obtain ⟨t1_3, hZ9⟩ := hZ9
  obtain ⟨t1_4, hZ9⟩ := hZ9
  obtain ⟨t1_5, hZ9⟩ := hZ9
  obtain ⟨t1_6, hZ9⟩ := hZ9
  obtain ⟨t1_7, hZ9⟩ := hZ9
  obtain ⟨t1_8, hZ9⟩ := hZ9
  obtain ⟨t1_9, hZ9⟩ := hZ9
  obtain ⟨t1_10, hZ9⟩ := hZ9
  obtain ⟨hT1, bT1⟩ := hZ9
  obtain ⟨t6_0, hT6, -⟩ := n_ai hI (n_s140 g q)
  obtain ⟨t7_0, hT7, -⟩ := n_ai hI (n_s142 g q)
  obtain ⟨t8_0, hT8, -⟩ := n_ai hI (n_s143 g q)
  have hq := T_NM_quotient (x2 := x2) (x3 := x3) (x4 := x4) (x5 := x5) (x6 := x6) (t0_0 := t0_0) (t0_1 := t0_1) (t0_2 := t0_2) (t1_0 := t1_0) (t1_1 := t1_1) (t1_2 := t1_2) (t1_3 := t1_3) (t1_4 := t1_4) (t1_5 := t1_5) (t1_6 := t1_6) (t1_7 := t1_7) (t1_8 := t1_8) (t1_9 := t1_9) (t1_10 := t1_10) (t2_0 := t2_0) (t3_0 := t3_0) (t4_0 := t4_0) (t5_0 := t5_0) (t6_0 := t6_0) (t7_0 := t7_0) (t8_0 := t8_0) hD
  refine q_mVw (X_NM_quotient l D g q ws x2 x3 x4 x5 x6 hI t0_0 t0_1 t0_2 hT0 t1_0 t1_1 t1_2 t1_3 t1_4 t1_5 t1_6 t1_7 t1_8 t1_9 t1_10 hT1 t2_0 hT2 t3_0 hT3 t4_0 hT4 t5_0 hT5 t6_0 hT6 t7_0 hT7 t8_0 hT8 ⟨trivial, hq.1⟩) ?_
  rintro u hZ9
  obtain ⟨hI2, hZ9⟩ := hZ9
  obtain ⟨hun, hZ9⟩ := hZ9
  obtain ⟨u0_0, hZ9⟩ := hZ9
  obtain ⟨u1_0, hZ9⟩ := hZ9
  obtain ⟨u1_1, hZ9⟩ := hZ9
  obtain ⟨u1_2, hZ9⟩ := hZ9
  obtain ⟨u1_3, hZ9⟩ := hZ9
  obtain ⟨u1_4, hZ9⟩ := hZ9
  obtain ⟨u1_5, hZ9⟩ := hZ9
  obtain ⟨u1_6, hZ9⟩ := hZ9
  obtain ⟨u1_7, hZ9⟩ := hZ9
  obtain ⟨u1_8, hZ9⟩ := hZ9
  obtain ⟨u1_9, hZ9⟩ := hZ9
  obtain ⟨u1_10, hZ9⟩ := hZ9
  obtain ⟨u2_0, hZ9⟩ := hZ9
  obtain ⟨u3_0, hZ9⟩ := hZ9
  obtain ⟨u4_0, hZ9⟩ := hZ9
  obtain ⟨u5_0, hZ9⟩ := hZ9
  obtain ⟨u6_0, hZ9⟩ := hZ9
  obtain ⟨u7_0, hZ9⟩ := hZ9
  obtain ⟨u8_0, hZ9⟩ := hZ9
  obtain ⟨hU0, hZ9⟩ := hZ9
  obtain ⟨hU1, hZ9⟩ := hZ9
  obtain ⟨hU2, hZ9⟩ := hZ9
  obtain ⟨hU3, hZ9⟩ := hZ9
  obtain ⟨hU4, hZ9⟩ := hZ9
  obtain ⟨hU5, hZ9⟩ := hZ9
  obtain ⟨hU6, hZ9⟩ := hZ9
  obtain ⟨hU7, hZ9⟩ := hZ9
  obtain ⟨hU8, hR⟩ := hZ9
  have hp := hq.2
  rw [← hR.2.2.2.2.2.2.2.2.2.2.2.2.2] at hp
  exact ⟨hI2, ⟨jW_fr hM0.1 (hun 121 (by decide)) (hun 122 (by decide)), ⟨_, _, _, _, hU2, hU3, hU4, hU5, hp⟩, jZ_fr hM0.2.2.1 (hun 160 (by decide)), jB_fr hM0.2.2.2 (hun 167 (by decide))⟩, jF_un hun (by decide)⟩
set_option maxRecDepth 100000 in
theorem CM_shape (l : Launch) (D : va_G) (g : Nat → ClassId) (q : Nat → Nat) (ws : va_W) (x2 : Int32) (x3 : Int32) (x4 : Int32) (x5 : Int32) (x6 : Int32) (hI : q_I (msh g q) q ws) (hM : iM g q ws) : q_mV l y_NM_shape prog_14_method_27_code 6 6 0 0 D g [.ref (q 116), .int x2, .int x3, .int x4, .int x5, .int x6] ws (fun u => jP g q ws u) := by
  have hM0 := hM
  obtain ⟨t2_0, hZ9⟩ := hM.2.1
  obtain ⟨t3_0, hZ9⟩ := hZ9
  obtain ⟨t4_0, hZ9⟩ := hZ9
  obtain ⟨t5_0, hZ9⟩ := hZ9
  obtain ⟨hT2, hZ9⟩ := hZ9
  obtain ⟨hT3, hZ9⟩ := hZ9
  obtain ⟨hT4, hZ9⟩ := hZ9
  obtain ⟨hT5, hD⟩ := hZ9
  obtain ⟨t0_0, t0_1, t0_2, hT0, bT0⟩ := n_o116 hI
  obtain ⟨t1_0, hZ9⟩ := n_o134 hI
  obtain ⟨t1_1, hZ9⟩ := hZ9
  obtain ⟨t1_2, hZ9⟩ := hZ9
  obtain ⟨t1_3, hZ9⟩ := hZ9
  obtain ⟨t1_4, hZ9⟩ := hZ9
  obtain ⟨t1_5, hZ9⟩ := hZ9
  obtain ⟨t1_6, hZ9⟩ := hZ9
  obtain ⟨t1_7, hZ9⟩ := hZ9
  obtain ⟨t1_8, hZ9⟩ := hZ9
  obtain ⟨t1_9, hZ9⟩ := hZ9
  obtain ⟨t1_10, hZ9⟩ := hZ9
  obtain ⟨hT1, bT1⟩ := hZ9
  obtain ⟨t6_0, hT6, -⟩ := n_ai hI (n_s140 g q)
  obtain ⟨t7_0, hT7, -⟩ := n_ai hI (n_s141 g q)
  obtain ⟨t8_0, hT8, -⟩ := n_ai hI (n_s142 g q)
  obtain ⟨t9_0, hT9, -⟩ := n_ai hI (n_s143 g q)
  have hq := T_NM_shape (x2 := x2) (x3 := x3) (x4 := x4) (x5 := x5) (x6 := x6) (t0_0 := t0_0) (t0_1 := t0_1) (t0_2 := t0_2) (t1_0 := t1_0) (t1_1 := t1_1) (t1_2 := t1_2) (t1_3 := t1_3) (t1_4 := t1_4) (t1_5 := t1_5) (t1_6 := t1_6) (t1_7 := t1_7) (t1_8 := t1_8) (t1_9 := t1_9) (t1_10 := t1_10) (t2_0 := t2_0) (t3_0 := t3_0) (t4_0 := t4_0) (t5_0 := t5_0) (t6_0 := t6_0) (t7_0 := t7_0) (t8_0 := t8_0) (t9_0 := t9_0) hD (by first | exact bT1 | exact bT1.1 | exact bT1.2 | exact bT1.2.1 | exact bT1.2.2 | exact bT1.2.2.1 | exact bT1.2.2.2)
  refine q_mVw (X_NM_shape l D g q ws x2 x3 x4 x5 x6 hI t0_0 t0_1 t0_2 hT0 t1_0 t1_1 t1_2 t1_3 t1_4 t1_5 t1_6 t1_7 t1_8 t1_9 t1_10 hT1 t2_0 hT2 t3_0 hT3 t4_0 hT4 t5_0 hT5 t6_0 hT6 t7_0 hT7 t8_0 hT8 t9_0 hT9 ⟨trivial, hq.1⟩) ?_
  rintro u hZ9
  obtain ⟨hI2, hZ9⟩ := hZ9
  obtain ⟨hun, hZ9⟩ := hZ9
  obtain ⟨u0_0, hZ9⟩ := hZ9
  obtain ⟨u1_0, hZ9⟩ := hZ9
  obtain ⟨u1_1, hZ9⟩ := hZ9
  obtain ⟨u1_2, hZ9⟩ := hZ9
  obtain ⟨u1_3, hZ9⟩ := hZ9
  obtain ⟨u1_4, hZ9⟩ := hZ9
  obtain ⟨u1_5, hZ9⟩ := hZ9
  obtain ⟨u1_6, hZ9⟩ := hZ9
  obtain ⟨u1_7, hZ9⟩ := hZ9
  obtain ⟨u1_8, hZ9⟩ := hZ9
  obtain ⟨u1_9, hZ9⟩ := hZ9
  obtain ⟨u1_10, hZ9⟩ := hZ9
  obtain ⟨u2_0, hZ9⟩ := hZ9
  obtain ⟨u3_0, hZ9⟩ := hZ9
  obtain ⟨u4_0, hZ9⟩ := hZ9
  obtain ⟨u5_0, hZ9⟩ := hZ9
  obtain ⟨u6_0, hZ9⟩ := hZ9
  obtain ⟨u7_0, hZ9⟩ := hZ9
  obtain ⟨u8_0, hZ9⟩ := hZ9
  obtain ⟨u9_0, hZ9⟩ := hZ9
  obtain ⟨hU0, hZ9⟩ := hZ9
  obtain ⟨hU1, hZ9⟩ := hZ9
  obtain ⟨hU2, hZ9⟩ := hZ9
  obtain ⟨hU3, hZ9⟩ := hZ9
  obtain ⟨hU4, hZ9⟩ := hZ9
  obtain ⟨hU5, hZ9⟩ := hZ9
  obtain ⟨hU6, hZ9⟩ := hZ9
  obtain ⟨hU7, hZ9⟩ := hZ9
  obtain ⟨hU8, hZ9⟩ := hZ9
  obtain ⟨hU9, hR⟩ := hZ9
  have hp := hq.2
  rw [← hR.2.2.2.2.2.2.2.2] at hp
  exact ⟨hI2, ⟨jW_fr hM0.1 (hun 121 (by decide)) (hun 122 (by decide)), ⟨_, _, _, _, hU2, hU3, hU4, hU5, hp⟩, jZ_fr hM0.2.2.1 (hun 160 (by decide)), jB_fr hM0.2.2.2 (hun 167 (by decide))⟩, jF_un hun (by decide)⟩

set_option maxRecDepth 100000 in
theorem CM_print (l : Launch) (D : va_G) (g : Nat → ClassId) (q : Nat → Nat) (ws : va_W) (x2 : Int32) (x3 : Int32) (x4 : Int32) (hI : q_I (msh g q) q ws) (hM : iM g q ws) : q_mI l y_NM_print prog_14_method_33_code 7 (.int) 6 0 0 D g [.ref (q 116), .int x2, .int x3, .int x4] ws (fun _ u => jP g q ws u) := by
  have hM0 := hM
  obtain ⟨t2_0, t3_0, hT2, hT3, hW⟩ := hM.1
  obtain ⟨t7_0, hZ9⟩ := hM.2.1
  obtain ⟨t8_0, hZ9⟩ := hZ9
  obtain ⟨t9_0, hZ9⟩ := hZ9
  obtain ⟨t10_0, hZ9⟩ := hZ9
  obtain ⟨hT7, hZ9⟩ := hZ9
  obtain ⟨hT8, hZ9⟩ := hZ9
  obtain ⟨hT9, hZ9⟩ := hZ9
  obtain ⟨hT10, hD⟩ := hZ9
  obtain ⟨t21_0, hT21, hB⟩ := hM.2.2.2
  obtain ⟨t0_0, t0_1, t0_2, hT0, bT0⟩ := n_o116 hI
  obtain ⟨t1_0, hZ9⟩ := n_o119 hI
  obtain ⟨t1_1, hZ9⟩ := hZ9
  obtain ⟨t1_2, hZ9⟩ := hZ9
  obtain ⟨t1_3, hZ9⟩ := hZ9
  obtain ⟨t1_4, hZ9⟩ := hZ9
  obtain ⟨t1_5, hZ9⟩ := hZ9
  obtain ⟨t1_6, hZ9⟩ := hZ9
  obtain ⟨hT1, bT1⟩ := hZ9
  obtain ⟨t4_0, hT4, -⟩ := n_ai hI (n_s128 g q)
  obtain ⟨t5_0, hT5, -⟩ := n_ai hI (n_s133 g q)
  obtain ⟨t6_0, hZ9⟩ := n_o134 hI
  obtain ⟨t6_1, hZ9⟩ := hZ9
  obtain ⟨t6_2, hZ9⟩ := hZ9
  obtain ⟨t6_3, hZ9⟩ := hZ9
  obtain ⟨t6_4, hZ9⟩ := hZ9
  obtain ⟨t6_5, hZ9⟩ := hZ9
  obtain ⟨t6_6, hZ9⟩ := hZ9
  obtain ⟨t6_7, hZ9⟩ := hZ9
  obtain ⟨t6_8, hZ9⟩ := hZ9
  obtain ⟨t6_9, hZ9⟩ := hZ9
  obtain ⟨t6_10, hZ9⟩ := hZ9
  obtain ⟨hT6, bT6⟩ := hZ9
  obtain ⟨t11_0, hT11, -⟩ := n_ai hI (n_s144 g q)
  obtain ⟨t12_0, hZ9⟩ := n_o145 hI
  obtain ⟨t12_1, hZ9⟩ := hZ9
  obtain ⟨t12_2, hZ9⟩ := hZ9
  obtain ⟨t12_3, hZ9⟩ := hZ9
  obtain ⟨t12_4, hZ9⟩ := hZ9
  obtain ⟨t12_5, hZ9⟩ := hZ9
  obtain ⟨t12_6, hZ9⟩ := hZ9
  obtain ⟨t12_7, hZ9⟩ := hZ9
  obtain ⟨t12_8, hZ9⟩ := hZ9
  obtain ⟨t12_9, hZ9⟩ := hZ9
  obtain ⟨t12_10, hZ9⟩ := hZ9
  obtain ⟨hT12, bT12⟩ := hZ9
  obtain ⟨t13_0, hT13, -⟩ := n_ai hI (n_s146 g q)
  obtain ⟨t14_0, hT14, -⟩ := n_ai hI (n_s147 g q)
  obtain ⟨t15_0, hT15, -⟩ := n_ai hI (n_s148 g q)
  obtain ⟨t16_0, hT16, -⟩ := n_ai hI (n_s149 g q)
  obtain ⟨t17_0, hT17, -⟩ := n_ai hI (n_s150 g q)
  obtain ⟨t18_0, hT18, -⟩ := n_ai hI (n_s151 g q)
  obtain ⟨t19_0, hT19, -⟩ := n_ai hI (n_s152 g q)
  obtain ⟨t20_0, hT20, -⟩ := n_ai hI (n_s118 g q)
  have hq := T_NM_print (x2 := x2) (x3 := x3) (x4 := x4) (t0_0 := t0_0) (t0_1 := t0_1) (t0_2 := t0_2) (t1_0 := t1_0) (t1_1 := t1_1) (t1_2 := t1_2) (t1_3 := t1_3) (t1_4 := t1_4) (t1_5 := t1_5) (t1_6 := t1_6) (t2_0 := t2_0) (t3_0 := t3_0) (t4_0 := t4_0) (t5_0 := t5_0) (t6_0 := t6_0) (t6_1 := t6_1) (t6_2 := t6_2) (t6_3 := t6_3) (t6_4 := t6_4) (t6_5 := t6_5) (t6_6 := t6_6) (t6_7 := t6_7) (t6_8 := t6_8) (t6_9 := t6_9) (t6_10 := t6_10) (t7_0 := t7_0) (t8_0 := t8_0) (t9_0 := t9_0) (t10_0 := t10_0) (t11_0 := t11_0) (t12_0 := t12_0) (t12_1 := t12_1) (t12_2 := t12_2) (t12_3 := t12_3) (t12_4 := t12_4) (t12_5 := t12_5) (t12_6 := t12_6) (t12_7 := t12_7) (t12_8 := t12_8) (t12_9 := t12_9) (t12_10 := t12_10) (t13_0 := t13_0) (t14_0 := t14_0) (t15_0 := t15_0) (t16_0 := t16_0) (t17_0 := t17_0) (t18_0 := t18_0) (t19_0 := t19_0) (t20_0 := t20_0) (t21_0 := t21_0) hW hD hB
  refine q_mIw (X_NM_print l D g q ws x2 x3 x4 hI t0_0 t0_1 t0_2 hT0 t1_0 t1_1 t1_2 t1_3 t1_4 t1_5 t1_6 hT1 t2_0 hT2 t3_0 hT3 t4_0 hT4 t5_0 hT5 t6_0 t6_1 t6_2 t6_3 t6_4 t6_5 t6_6 t6_7 t6_8 t6_9 t6_10 hT6 t7_0 hT7 t8_0 hT8 t9_0 hT9 t10_0 hT10 t11_0 hT11 t12_0 t12_1 t12_2 t12_3 t12_4 t12_5 t12_6 t12_7 t12_8 t12_9 t12_10 hT12 t13_0 hT13 t14_0 hT14 t15_0 hT15 t16_0 hT16 t17_0 hT17 t18_0 hT18 t19_0 hT19 t20_0 hT20 t21_0 hT21 ⟨trivial, hq⟩) ?_
  rintro r u hZ9
  obtain ⟨hI2, hZ9⟩ := hZ9
  obtain ⟨hun, hZ9⟩ := hZ9
  obtain ⟨u0_0, hZ9⟩ := hZ9
  obtain ⟨u0_2, hZ9⟩ := hZ9
  obtain ⟨u1_0, hZ9⟩ := hZ9
  obtain ⟨u1_1, hZ9⟩ := hZ9
  obtain ⟨u1_2, hZ9⟩ := hZ9
  obtain ⟨u1_3, hZ9⟩ := hZ9
  obtain ⟨u1_4, hZ9⟩ := hZ9
  obtain ⟨u1_5, hZ9⟩ := hZ9
  obtain ⟨u1_6, hZ9⟩ := hZ9
  obtain ⟨u4_0, hZ9⟩ := hZ9
  obtain ⟨u5_0, hZ9⟩ := hZ9
  obtain ⟨u6_0, hZ9⟩ := hZ9
  obtain ⟨u6_1, hZ9⟩ := hZ9
  obtain ⟨u6_2, hZ9⟩ := hZ9
  obtain ⟨u6_3, hZ9⟩ := hZ9
  obtain ⟨u6_4, hZ9⟩ := hZ9
  obtain ⟨u6_5, hZ9⟩ := hZ9
  obtain ⟨u6_6, hZ9⟩ := hZ9
  obtain ⟨u6_7, hZ9⟩ := hZ9
  obtain ⟨u6_8, hZ9⟩ := hZ9
  obtain ⟨u6_9, hZ9⟩ := hZ9
  obtain ⟨u6_10, hZ9⟩ := hZ9
  obtain ⟨u11_0, hZ9⟩ := hZ9
  obtain ⟨u12_0, hZ9⟩ := hZ9
  obtain ⟨u12_1, hZ9⟩ := hZ9
  obtain ⟨u12_2, hZ9⟩ := hZ9
  obtain ⟨u12_3, hZ9⟩ := hZ9
  obtain ⟨u12_4, hZ9⟩ := hZ9
  obtain ⟨u12_5, hZ9⟩ := hZ9
  obtain ⟨u12_6, hZ9⟩ := hZ9
  obtain ⟨u12_7, hZ9⟩ := hZ9
  obtain ⟨u12_8, hZ9⟩ := hZ9
  obtain ⟨u12_9, hZ9⟩ := hZ9
  obtain ⟨u12_10, hZ9⟩ := hZ9
  obtain ⟨u13_0, hZ9⟩ := hZ9
  obtain ⟨u14_0, hZ9⟩ := hZ9
  obtain ⟨u15_0, hZ9⟩ := hZ9
  obtain ⟨u16_0, hZ9⟩ := hZ9
  obtain ⟨u17_0, hZ9⟩ := hZ9
  obtain ⟨u18_0, hZ9⟩ := hZ9
  obtain ⟨u19_0, hZ9⟩ := hZ9
  obtain ⟨u20_0, hZ9⟩ := hZ9
  obtain ⟨hU0, hZ9⟩ := hZ9
  obtain ⟨hU1, hZ9⟩ := hZ9
  obtain ⟨hU2, hZ9⟩ := hZ9
  obtain ⟨hU3, hZ9⟩ := hZ9
  obtain ⟨hU4, hZ9⟩ := hZ9
  obtain ⟨hU5, hZ9⟩ := hZ9
  obtain ⟨hU6, hZ9⟩ := hZ9
  obtain ⟨hU7, hZ9⟩ := hZ9
  obtain ⟨hU8, hZ9⟩ := hZ9
  obtain ⟨hU9, hZ9⟩ := hZ9
  obtain ⟨hU10, hZ9⟩ := hZ9
  obtain ⟨hU11, hZ9⟩ := hZ9
  obtain ⟨hU12, hZ9⟩ := hZ9
  obtain ⟨hU13, hZ9⟩ := hZ9
  obtain ⟨hU14, hR⟩ := hZ9
  exact ⟨hI2, ⟨jW_fr hM0.1 (hun 121 (by decide)) (hun 122 (by decide)), jD_fr hM0.2.1 (hun 136 (by decide)) (hun 137 (by decide)) (hun 138 (by decide)) (hun 139 (by decide)), jZ_fr hM0.2.2.1 (hun 160 (by decide)), jB_fr hM0.2.2.2 (hun 167 (by decide))⟩, jF_un hun (by decide)⟩
set_option maxRecDepth 100000 in
theorem CM_figures (l : Launch) (D : va_G) (g : Nat → ClassId) (q : Nat → Nat) (ws : va_W) (x2 : Int32) (x3 : Int32) (x4 : Int32) (x5 : Int32) (x6 : Int32) (hzx4 : 0 ≤ x4.toInt ∧ x4.toInt ≤ 1) (hI : q_I (msh g q) q ws) (hM : iM g q ws) : q_mI l y_NM_figures prog_14_method_34_code 9 (.int) 4 0 0 D g [.ref (q 116), .int x2, .int x3, .int x4, .int x5, .int x6] ws (fun _ u => jP g q ws u) := by
  have hM0 := hM
  obtain ⟨t8_0, hT8, hB⟩ := hM.2.2.2
  obtain ⟨t0_0, t0_1, t0_2, hT0, bT0⟩ := n_o116 hI
  obtain ⟨t1_0, hZ9⟩ := n_o145 hI
  obtain ⟨t1_1, hZ9⟩ := hZ9
  obtain ⟨t1_2, hZ9⟩ := hZ9
  obtain ⟨t1_3, hZ9⟩ := hZ9
  obtain ⟨t1_4, hZ9⟩ := hZ9
  obtain ⟨t1_5, hZ9⟩ := hZ9
  obtain ⟨t1_6, hZ9⟩ := hZ9
  obtain ⟨t1_7, hZ9⟩ := hZ9
  obtain ⟨t1_8, hZ9⟩ := hZ9
  obtain ⟨t1_9, hZ9⟩ := hZ9
  obtain ⟨t1_10, hZ9⟩ := hZ9
  obtain ⟨hT1, bT1⟩ := hZ9
  obtain ⟨t2_0, hT2, -⟩ := n_ai hI (n_s146 g q)
  obtain ⟨t3_0, hT3, -⟩ := n_ai hI (n_s147 g q)
  obtain ⟨t4_0, hT4, -⟩ := n_ai hI (n_s148 g q)
  obtain ⟨t5_0, hT5, -⟩ := n_ai hI (n_s151 g q)
  obtain ⟨t6_0, hT6, -⟩ := n_ai hI (n_s152 g q)
  obtain ⟨t7_0, hT7, -⟩ := n_ai hI (n_s118 g q)
  have hq := T_NM_figures (x2 := x2) (x3 := x3) (x4 := x4) (x5 := x5) (x6 := x6) (t0_0 := t0_0) (t0_1 := t0_1) (t0_2 := t0_2) (t1_0 := t1_0) (t1_1 := t1_1) (t1_2 := t1_2) (t1_3 := t1_3) (t1_4 := t1_4) (t1_5 := t1_5) (t1_6 := t1_6) (t1_7 := t1_7) (t1_8 := t1_8) (t1_9 := t1_9) (t1_10 := t1_10) (t2_0 := t2_0) (t3_0 := t3_0) (t4_0 := t4_0) (t5_0 := t5_0) (t6_0 := t6_0) (t7_0 := t7_0) (t8_0 := t8_0) hB
  refine q_mIw (X_NM_figures l D g q ws x2 x3 x4 x5 x6 hI t0_0 t0_1 t0_2 hT0 t1_0 t1_1 t1_2 t1_3 t1_4 t1_5 t1_6 t1_7 t1_8 t1_9 t1_10 hT1 t2_0 hT2 t3_0 hT3 t4_0 hT4 t5_0 hT5 t6_0 hT6 t7_0 hT7 t8_0 hT8 hzx4 ⟨trivial, hq⟩) ?_
  rintro r u hZ9
  obtain ⟨hI2, hZ9⟩ := hZ9
  obtain ⟨hun, hZ9⟩ := hZ9
  obtain ⟨u0_0, hZ9⟩ := hZ9
  obtain ⟨u0_2, hZ9⟩ := hZ9
  obtain ⟨u1_0, hZ9⟩ := hZ9
  obtain ⟨u1_1, hZ9⟩ := hZ9
  obtain ⟨u1_2, hZ9⟩ := hZ9
  obtain ⟨u1_3, hZ9⟩ := hZ9
  obtain ⟨u1_4, hZ9⟩ := hZ9
  obtain ⟨u1_5, hZ9⟩ := hZ9
  obtain ⟨u1_6, hZ9⟩ := hZ9
  obtain ⟨u1_7, hZ9⟩ := hZ9
  obtain ⟨u1_8, hZ9⟩ := hZ9
  obtain ⟨u1_9, hZ9⟩ := hZ9
  obtain ⟨u1_10, hZ9⟩ := hZ9
  obtain ⟨u2_0, hZ9⟩ := hZ9
  obtain ⟨u3_0, hZ9⟩ := hZ9
  obtain ⟨u4_0, hZ9⟩ := hZ9
  obtain ⟨u5_0, hZ9⟩ := hZ9
  obtain ⟨u6_0, hZ9⟩ := hZ9
  obtain ⟨u7_0, hZ9⟩ := hZ9
  obtain ⟨hU0, hZ9⟩ := hZ9
  obtain ⟨hU1, hZ9⟩ := hZ9
  obtain ⟨hU2, hZ9⟩ := hZ9
  obtain ⟨hU3, hZ9⟩ := hZ9
  obtain ⟨hU4, hZ9⟩ := hZ9
  obtain ⟨hU5, hZ9⟩ := hZ9
  obtain ⟨hU6, hZ9⟩ := hZ9
  obtain ⟨hU7, hR⟩ := hZ9
  exact ⟨hI2, ⟨jW_fr hM0.1 (hun 121 (by decide)) (hun 122 (by decide)), jD_fr hM0.2.1 (hun 136 (by decide)) (hun 137 (by decide)) (hun 138 (by decide)) (hun 139 (by decide)), jZ_fr hM0.2.2.1 (hun 160 (by decide)), jB_fr hM0.2.2.2 (hun 167 (by decide))⟩, jF_un hun (by decide)⟩
set_option maxRecDepth 100000 in
theorem CM_argument (l : Launch) (D : va_G) (g : Nat → ClassId) (q : Nat → Nat) (ws : va_W) (x2 : Int32) (x3 : Int32) (hI : q_I (msh g q) q ws) (hM : iM g q ws) : q_mI l y_NM_argument prog_14_method_37_code 5 (.int) 4 0 0 D g [.ref (q 116), .int x2, .int x3] ws (fun _ u => jP g q ws u) := by
  have hM0 := hM
  obtain ⟨t2_0, t3_0, hT2, hT3, hW⟩ := hM.1
  obtain ⟨t5_0, hZ9⟩ := hM.2.1
  obtain ⟨t6_0, hZ9⟩ := hZ9
  obtain ⟨t7_0, hZ9⟩ := hZ9
  obtain ⟨t8_0, hZ9⟩ := hZ9
  obtain ⟨hT5, hZ9⟩ := hZ9
  obtain ⟨hT6, hZ9⟩ := hZ9
  obtain ⟨hT7, hZ9⟩ := hZ9
  obtain ⟨hT8, hD⟩ := hZ9
  obtain ⟨t12_0, hT12, hZ⟩ := hM.2.2.1
  obtain ⟨t0_0, t0_1, t0_2, hT0, bT0⟩ := n_o116 hI
  obtain ⟨t1_0, hZ9⟩ := n_o119 hI
  obtain ⟨t1_1, hZ9⟩ := hZ9
  obtain ⟨t1_2, hZ9⟩ := hZ9
  obtain ⟨t1_3, hZ9⟩ := hZ9
  obtain ⟨t1_4, hZ9⟩ := hZ9
  obtain ⟨t1_5, hZ9⟩ := hZ9
  obtain ⟨t1_6, hZ9⟩ := hZ9
  obtain ⟨hT1, bT1⟩ := hZ9
  obtain ⟨t4_0, hZ9⟩ := n_o134 hI
  obtain ⟨t4_1, hZ9⟩ := hZ9
  obtain ⟨t4_2, hZ9⟩ := hZ9
  obtain ⟨t4_3, hZ9⟩ := hZ9
  obtain ⟨t4_4, hZ9⟩ := hZ9
  obtain ⟨t4_5, hZ9⟩ := hZ9
  obtain ⟨t4_6, hZ9⟩ := hZ9
  obtain ⟨t4_7, hZ9⟩ := hZ9
  obtain ⟨t4_8, hZ9⟩ := hZ9
  obtain ⟨t4_9, hZ9⟩ := hZ9
  obtain ⟨t4_10, hZ9⟩ := hZ9
  obtain ⟨hT4, bT4⟩ := hZ9
  obtain ⟨t9_0, hZ9⟩ := n_o157 hI
  obtain ⟨t9_1, hZ9⟩ := hZ9
  obtain ⟨t9_2, hZ9⟩ := hZ9
  obtain ⟨t9_3, hZ9⟩ := hZ9
  obtain ⟨t9_4, hZ9⟩ := hZ9
  obtain ⟨t9_5, hZ9⟩ := hZ9
  obtain ⟨t9_6, hZ9⟩ := hZ9
  obtain ⟨t9_7, hZ9⟩ := hZ9
  obtain ⟨t9_8, hZ9⟩ := hZ9
  obtain ⟨t9_9, hZ9⟩ := hZ9
  obtain ⟨t9_10, hZ9⟩ := hZ9
  obtain ⟨t9_11, hZ9⟩ := hZ9
  obtain ⟨t9_12, hZ9⟩ := hZ9
  obtain ⟨t9_13, hZ9⟩ := hZ9
  obtain ⟨t9_14, hZ9⟩ := hZ9
  obtain ⟨t9_15, hZ9⟩ := hZ9
  obtain ⟨t9_16, hZ9⟩ := hZ9
  obtain ⟨t9_17, hZ9⟩ := hZ9
  obtain ⟨t9_18, hZ9⟩ := hZ9
  obtain ⟨t9_19, hZ9⟩ := hZ9
  obtain ⟨t9_20, hZ9⟩ := hZ9
  obtain ⟨t9_21, hZ9⟩ := hZ9
  obtain ⟨hT9, bT9⟩ := hZ9
  obtain ⟨t10_0, hT10, -⟩ := n_ai hI (n_s158 g q)
  obtain ⟨t11_0, hT11, -⟩ := n_ai hI (n_s159 g q)
  obtain ⟨t13_0, hT13⟩ := n_al hI (n_s161 g q)
  obtain ⟨t14_0, hT14, -⟩ := n_ai hI (n_s162 g q)
  obtain ⟨t15_0, hT15, -⟩ := n_ai hI (n_s117 g q)
  obtain ⟨t16_0, hT16⟩ := n_al hI (n_s168 g q)
  have hq := T_NM_argument (x2 := x2) (x3 := x3) (t0_0 := t0_0) (t0_1 := t0_1) (t0_2 := t0_2) (t1_0 := t1_0) (t1_1 := t1_1) (t1_2 := t1_2) (t1_3 := t1_3) (t1_4 := t1_4) (t1_5 := t1_5) (t1_6 := t1_6) (t2_0 := t2_0) (t3_0 := t3_0) (t4_0 := t4_0) (t4_1 := t4_1) (t4_2 := t4_2) (t4_3 := t4_3) (t4_4 := t4_4) (t4_5 := t4_5) (t4_6 := t4_6) (t4_7 := t4_7) (t4_8 := t4_8) (t4_9 := t4_9) (t4_10 := t4_10) (t5_0 := t5_0) (t6_0 := t6_0) (t7_0 := t7_0) (t8_0 := t8_0) (t9_0 := t9_0) (t9_1 := t9_1) (t9_2 := t9_2) (t9_3 := t9_3) (t9_4 := t9_4) (t9_5 := t9_5) (t9_6 := t9_6) (t9_7 := t9_7) (t9_8 := t9_8) (t9_9 := t9_9) (t9_10 := t9_10) (t9_11 := t9_11) (t9_12 := t9_12) (t9_13 := t9_13) (t9_14 := t9_14) (t9_15 := t9_15) (t9_16 := t9_16) (t9_17 := t9_17) (t9_18 := t9_18) (t9_19 := t9_19) (t9_20 := t9_20) (t9_21 := t9_21) (t10_0 := t10_0) (t11_0 := t11_0) (t12_0 := t12_0) (t13_0 := t13_0) (t14_0 := t14_0) (t15_0 := t15_0) (t16_0 := t16_0) hW hD hZ (by first | exact bT0 | exact bT0.1 | exact bT0.2 | exact bT0.2.1 | exact bT0.2.2 | exact bT0.2.2.1 | exact bT0.2.2.2) (by first | exact bT9 | exact bT9.1 | exact bT9.2 | exact bT9.2.1 | exact bT9.2.2 | exact bT9.2.2.1 | exact bT9.2.2.2)
  refine q_mIw (X_NM_argument l D g q ws x2 x3 hI t0_0 t0_1 t0_2 hT0 t1_0 t1_1 t1_2 t1_3 t1_4 t1_5 t1_6 hT1 t2_0 hT2 t3_0 hT3 t4_0 t4_1 t4_2 t4_3 t4_4 t4_5 t4_6 t4_7 t4_8 t4_9 t4_10 hT4 t5_0 hT5 t6_0 hT6 t7_0 hT7 t8_0 hT8 t9_0 t9_1 t9_2 t9_3 t9_4 t9_5 t9_6 t9_7 t9_8 t9_9 t9_10 t9_11 t9_12 t9_13 t9_14 t9_15 t9_16 t9_17 t9_18 t9_19 t9_20 t9_21 hT9 t10_0 hT10 t11_0 hT11 t12_0 hT12 t13_0 hT13 t14_0 hT14 t15_0 hT15 t16_0 hT16 ⟨trivial, hq.1⟩) ?_
  rintro r u hZ9
  obtain ⟨hI2, hZ9⟩ := hZ9
  obtain ⟨hun, hZ9⟩ := hZ9
  obtain ⟨u0_0, hZ9⟩ := hZ9
  obtain ⟨u0_1, hZ9⟩ := hZ9
  obtain ⟨u1_0, hZ9⟩ := hZ9
  obtain ⟨u1_1, hZ9⟩ := hZ9
  obtain ⟨u1_2, hZ9⟩ := hZ9
  obtain ⟨u1_3, hZ9⟩ := hZ9
  obtain ⟨u1_4, hZ9⟩ := hZ9
  obtain ⟨u1_5, hZ9⟩ := hZ9
  obtain ⟨u1_6, hZ9⟩ := hZ9
  obtain ⟨u9_0, hZ9⟩ := hZ9
  obtain ⟨u9_1, hZ9⟩ := hZ9
  obtain ⟨u9_2, hZ9⟩ := hZ9
  obtain ⟨u10_0, hZ9⟩ := hZ9
  obtain ⟨u11_0, hZ9⟩ := hZ9
  obtain ⟨u12_0, hZ9⟩ := hZ9
  obtain ⟨u13_0, hZ9⟩ := hZ9
  obtain ⟨u14_0, hZ9⟩ := hZ9
  obtain ⟨u16_0, hZ9⟩ := hZ9
  obtain ⟨hU0, hZ9⟩ := hZ9
  obtain ⟨hU1, hZ9⟩ := hZ9
  obtain ⟨hU2, hZ9⟩ := hZ9
  obtain ⟨hU3, hZ9⟩ := hZ9
  obtain ⟨hU4, hZ9⟩ := hZ9
  obtain ⟨hU5, hZ9⟩ := hZ9
  obtain ⟨hU6, hZ9⟩ := hZ9
  obtain ⟨hU7, hZ9⟩ := hZ9
  obtain ⟨hU8, hR⟩ := hZ9
  have hp := hq.2
  rw [← hR.2.2.2.2.2.2.2.2.2.2.2.2.2.2.2.2.2.2.2.2.2.2.2.2.2.2.2.2.2.2.2.2.2.2.2.2.2.2.2] at hp
  exact ⟨hI2, ⟨jW_fr hM0.1 (hun 121 (by decide)) (hun 122 (by decide)), jD_fr hM0.2.1 (hun 136 (by decide)) (hun 137 (by decide)) (hun 138 (by decide)) (hun 139 (by decide)), ⟨_, hU5, hp⟩, jB_fr hM0.2.2.2 (hun 167 (by decide))⟩, jF_un hun (by decide)⟩
set_option maxRecDepth 100000 in
theorem CM_format (l : Launch) (D : va_G) (g : Nat → ClassId) (q : Nat → Nat) (ws : va_W) (hI : q_I (msh g q) q ws) (hM : iM g q ws) : q_mI l y_NM_format prog_14_method_38_code 2 (.int) 10 0 0 D g [.ref (q 116)] ws (fun _ u => jP g q ws u) := by
  have hM0 := hM
  obtain ⟨t4_0, hT4, hZ⟩ := hM.2.2.1
  obtain ⟨t0_0, t0_1, t0_2, hT0, bT0⟩ := n_o116 hI
  obtain ⟨t1_0, hZ9⟩ := n_o157 hI
  obtain ⟨t1_1, hZ9⟩ := hZ9
  obtain ⟨t1_2, hZ9⟩ := hZ9
  obtain ⟨t1_3, hZ9⟩ := hZ9
  obtain ⟨t1_4, hZ9⟩ := hZ9
  obtain ⟨t1_5, hZ9⟩ := hZ9
  obtain ⟨t1_6, hZ9⟩ := hZ9
  obtain ⟨t1_7, hZ9⟩ := hZ9
  obtain ⟨t1_8, hZ9⟩ := hZ9
  obtain ⟨t1_9, hZ9⟩ := hZ9
  obtain ⟨t1_10, hZ9⟩ := hZ9
  obtain ⟨t1_11, hZ9⟩ := hZ9
  obtain ⟨t1_12, hZ9⟩ := hZ9
  obtain ⟨t1_13, hZ9⟩ := hZ9
  obtain ⟨t1_14, hZ9⟩ := hZ9
  obtain ⟨t1_15, hZ9⟩ := hZ9
  obtain ⟨t1_16, hZ9⟩ := hZ9
  obtain ⟨t1_17, hZ9⟩ := hZ9
  obtain ⟨t1_18, hZ9⟩ := hZ9
  obtain ⟨t1_19, hZ9⟩ := hZ9
  obtain ⟨t1_20, hZ9⟩ := hZ9
  obtain ⟨t1_21, hZ9⟩ := hZ9
  obtain ⟨hT1, bT1⟩ := hZ9
  obtain ⟨t2_0, hT2, -⟩ := n_ai hI (n_s158 g q)
  obtain ⟨t3_0, hT3, -⟩ := n_ai hI (n_s159 g q)
  obtain ⟨t5_0, hT5⟩ := n_al hI (n_s161 g q)
  obtain ⟨t6_0, hT6, -⟩ := n_ai hI (n_s162 g q)
  obtain ⟨t7_0, hT7, -⟩ := n_ai hI (n_s163 g q)
  obtain ⟨t8_0, hT8, -⟩ := n_ai hI (n_s164 g q)
  obtain ⟨t9_0, hT9, -⟩ := n_ai hI (n_s165 g q)
  obtain ⟨t10_0, hT10, -⟩ := n_ai hI (n_s166 g q)
  obtain ⟨t11_0, hT11, -⟩ := n_ai hI (n_s117 g q)
  obtain ⟨t12_0, hT12, -⟩ := n_ai hI (n_s118 g q)
  have hq := T_NM_format (t0_0 := t0_0) (t0_1 := t0_1) (t0_2 := t0_2) (t1_0 := t1_0) (t1_1 := t1_1) (t1_2 := t1_2) (t1_3 := t1_3) (t1_4 := t1_4) (t1_5 := t1_5) (t1_6 := t1_6) (t1_7 := t1_7) (t1_8 := t1_8) (t1_9 := t1_9) (t1_10 := t1_10) (t1_11 := t1_11) (t1_12 := t1_12) (t1_13 := t1_13) (t1_14 := t1_14) (t1_15 := t1_15) (t1_16 := t1_16) (t1_17 := t1_17) (t1_18 := t1_18) (t1_19 := t1_19) (t1_20 := t1_20) (t1_21 := t1_21) (t2_0 := t2_0) (t3_0 := t3_0) (t4_0 := t4_0) (t5_0 := t5_0) (t6_0 := t6_0) (t7_0 := t7_0) (t8_0 := t8_0) (t9_0 := t9_0) (t10_0 := t10_0) (t11_0 := t11_0) (t12_0 := t12_0) hZ (by first | exact bT0 | exact bT0.1 | exact bT0.2 | exact bT0.2.1 | exact bT0.2.2 | exact bT0.2.2.1 | exact bT0.2.2.2) (by first | exact bT1 | exact bT1.1 | exact bT1.2 | exact bT1.2.1 | exact bT1.2.2 | exact bT1.2.2.1 | exact bT1.2.2.2)
  refine q_mIw (X_NM_format l D g q ws hI t0_0 t0_1 t0_2 hT0 t1_0 t1_1 t1_2 t1_3 t1_4 t1_5 t1_6 t1_7 t1_8 t1_9 t1_10 t1_11 t1_12 t1_13 t1_14 t1_15 t1_16 t1_17 t1_18 t1_19 t1_20 t1_21 hT1 t2_0 hT2 t3_0 hT3 t4_0 hT4 t5_0 hT5 t6_0 hT6 t7_0 hT7 t8_0 hT8 t9_0 hT9 t10_0 hT10 t11_0 hT11 t12_0 hT12 ⟨trivial, hq⟩) ?_
  rintro r u hZ9
  obtain ⟨hI2, hZ9⟩ := hZ9
  obtain ⟨hun, hZ9⟩ := hZ9
  obtain ⟨u0_0, hZ9⟩ := hZ9
  obtain ⟨u0_1, hZ9⟩ := hZ9
  obtain ⟨u0_2, hZ9⟩ := hZ9
  obtain ⟨u1_0, hZ9⟩ := hZ9
  obtain ⟨u1_1, hZ9⟩ := hZ9
  obtain ⟨u1_3, hZ9⟩ := hZ9
  obtain ⟨u1_4, hZ9⟩ := hZ9
  obtain ⟨u1_5, hZ9⟩ := hZ9
  obtain ⟨u1_6, hZ9⟩ := hZ9
  obtain ⟨u1_7, hZ9⟩ := hZ9
  obtain ⟨u1_8, hZ9⟩ := hZ9
  obtain ⟨u1_9, hZ9⟩ := hZ9
  obtain ⟨u1_10, hZ9⟩ := hZ9
  obtain ⟨u1_11, hZ9⟩ := hZ9
  obtain ⟨u1_12, hZ9⟩ := hZ9
  obtain ⟨u1_13, hZ9⟩ := hZ9
  obtain ⟨u1_14, hZ9⟩ := hZ9
  obtain ⟨u1_15, hZ9⟩ := hZ9
  obtain ⟨u1_16, hZ9⟩ := hZ9
  obtain ⟨u1_17, hZ9⟩ := hZ9
  obtain ⟨u1_18, hZ9⟩ := hZ9
  obtain ⟨u1_19, hZ9⟩ := hZ9
  obtain ⟨u1_20, hZ9⟩ := hZ9
  obtain ⟨u1_21, hZ9⟩ := hZ9
  obtain ⟨u2_0, hZ9⟩ := hZ9
  obtain ⟨u7_0, hZ9⟩ := hZ9
  obtain ⟨u8_0, hZ9⟩ := hZ9
  obtain ⟨u9_0, hZ9⟩ := hZ9
  obtain ⟨u10_0, hZ9⟩ := hZ9
  obtain ⟨u12_0, hZ9⟩ := hZ9
  obtain ⟨hU0, hZ9⟩ := hZ9
  obtain ⟨hU1, hZ9⟩ := hZ9
  obtain ⟨hU2, hZ9⟩ := hZ9
  obtain ⟨hU3, hZ9⟩ := hZ9
  obtain ⟨hU4, hZ9⟩ := hZ9
  obtain ⟨hU5, hZ9⟩ := hZ9
  obtain ⟨hU6, hZ9⟩ := hZ9
  obtain ⟨hU7, hR⟩ := hZ9
  exact ⟨hI2, ⟨jW_fr hM0.1 (hun 121 (by decide)) (hun 122 (by decide)), jD_fr hM0.2.1 (hun 136 (by decide)) (hun 137 (by decide)) (hun 138 (by decide)) (hun 139 (by decide)), jZ_fr hM0.2.2.1 (hun 160 (by decide)), jB_fr hM0.2.2.2 (hun 167 (by decide))⟩, jF_un hun (by decide)⟩

set_option maxRecDepth 100000 in
theorem CM_convert (l : Launch) (D : va_G) (g : Nat → ClassId) (q : Nat → Nat) (ws : va_W) (x2 : Int32) (x3 : Int32) (x4 : Int32) (x5 : Int32) (hI : q_I (msh g q) q ws) (hM : iM g q ws) : q_mV l y_NM_convert prog_14_method_32_code 5 8 0 0 D g [.ref (q 116), .int x2, .int x3, .int x4, .int x5] ws (fun u => jP g q ws u) := by
  have hM0 := hM
  obtain ⟨t3_0, t4_0, hT3, hT4, hW⟩ := hM.1
  obtain ⟨t11_0, hZ9⟩ := hM.2.1
  obtain ⟨t12_0, hZ9⟩ := hZ9
  obtain ⟨t13_0, hZ9⟩ := hZ9
  obtain ⟨t14_0, hZ9⟩ := hZ9
  obtain ⟨hT11, hZ9⟩ := hZ9
  obtain ⟨hT12, hZ9⟩ := hZ9
  obtain ⟨hT13, hZ9⟩ := hZ9
  obtain ⟨hT14, hD⟩ := hZ9
  obtain ⟨t27_0, hT27, hB⟩ := hM.2.2.2
  obtain ⟨t0_0, t0_1, t0_2, hT0, bT0⟩ := n_o116 hI
  obtain ⟨t1_0, hZ9⟩ := n_o119 hI
  obtain ⟨t1_1, hZ9⟩ := hZ9
  obtain ⟨t1_2, hZ9⟩ := hZ9
  obtain ⟨t1_3, hZ9⟩ := hZ9
  obtain ⟨t1_4, hZ9⟩ := hZ9
  obtain ⟨t1_5, hZ9⟩ := hZ9
  obtain ⟨t1_6, hZ9⟩ := hZ9
  obtain ⟨hT1, bT1⟩ := hZ9
  obtain ⟨t2_0, hT2, -⟩ := n_ai hI (n_s120 g q)
  obtain ⟨t5_0, hT5, -⟩ := n_ai hI (n_s123 g q)
  obtain ⟨t6_0, hT6, -⟩ := n_ai hI (n_s124 g q)
  obtain ⟨t7_0, hT7, -⟩ := n_ai hI (n_s128 g q)
  obtain ⟨t8_0, hT8, -⟩ := n_ai hI (n_s133 g q)
  obtain ⟨t9_0, hZ9⟩ := n_o134 hI
  obtain ⟨t9_1, hZ9⟩ := hZ9
  obtain ⟨t9_2, hZ9⟩ := hZ9
  obtain ⟨t9_3, hZ9⟩ := hZ9
  obtain ⟨t9_4, hZ9⟩ := hZ9
  obtain ⟨t9_5, hZ9⟩ := hZ9
  obtain ⟨t9_6, hZ9⟩ := hZ9
  obtain ⟨t9_7, hZ9⟩ := hZ9
  obtain ⟨t9_8, hZ9⟩ := hZ9
  obtain ⟨t9_9, hZ9⟩ := hZ9
  obtain ⟨t9_10, hZ9⟩ := hZ9
  obtain ⟨hT9, bT9⟩ := hZ9
  obtain ⟨t10_0, hT10, -⟩ := n_ai hI (n_s135 g q)
  obtain ⟨t15_0, hT15, -⟩ := n_ai hI (n_s140 g q)
  obtain ⟨t16_0, hT16, -⟩ := n_ai hI (n_s144 g q)
  obtain ⟨t17_0, hZ9⟩ := n_o145 hI
  obtain ⟨t17_1, hZ9⟩ := hZ9
  obtain ⟨t17_2, hZ9⟩ := hZ9
  obtain ⟨t17_3, hZ9⟩ := hZ9
  obtain ⟨t17_4, hZ9⟩ := hZ9
  obtain ⟨t17_5, hZ9⟩ := hZ9
  obtain ⟨t17_6, hZ9⟩ := hZ9
  obtain ⟨t17_7, hZ9⟩ := hZ9
  obtain ⟨t17_8, hZ9⟩ := hZ9
  obtain ⟨t17_9, hZ9⟩ := hZ9
  obtain ⟨t17_10, hZ9⟩ := hZ9
  obtain ⟨hT17, bT17⟩ := hZ9
  obtain ⟨t18_0, hT18, -⟩ := n_ai hI (n_s146 g q)
  obtain ⟨t19_0, hT19, -⟩ := n_ai hI (n_s147 g q)
  obtain ⟨t20_0, hT20, -⟩ := n_ai hI (n_s148 g q)
  obtain ⟨t21_0, hT21, -⟩ := n_ai hI (n_s151 g q)
  obtain ⟨t22_0, hT22, -⟩ := n_ai hI (n_s152 g q)
  obtain ⟨t23_0, hZ9⟩ := n_o153 hI
  obtain ⟨t23_1, hZ9⟩ := hZ9
  obtain ⟨t23_2, hZ9⟩ := hZ9
  obtain ⟨t23_3, hZ9⟩ := hZ9
  obtain ⟨t23_4, hZ9⟩ := hZ9
  obtain ⟨t23_5, hZ9⟩ := hZ9
  obtain ⟨t23_6, hZ9⟩ := hZ9
  obtain ⟨t23_7, hZ9⟩ := hZ9
  obtain ⟨t23_8, hZ9⟩ := hZ9
  obtain ⟨t23_9, hZ9⟩ := hZ9
  obtain ⟨t23_10, hZ9⟩ := hZ9
  obtain ⟨t23_11, hZ9⟩ := hZ9
  obtain ⟨t23_12, hZ9⟩ := hZ9
  obtain ⟨t23_13, hZ9⟩ := hZ9
  obtain ⟨hT23, bT23⟩ := hZ9
  obtain ⟨t24_0, hT24, -⟩ := n_ai hI (n_s154 g q)
  obtain ⟨t25_0, hT25, -⟩ := n_ai hI (n_s155 g q)
  obtain ⟨t26_0, hT26, -⟩ := n_ai hI (n_s156 g q)
  have hq := T_NM_convert (x2 := x2) (x3 := x3) (x4 := x4) (x5 := x5) (t0_0 := t0_0) (t0_1 := t0_1) (t0_2 := t0_2) (t1_0 := t1_0) (t1_1 := t1_1) (t1_2 := t1_2) (t1_3 := t1_3) (t1_4 := t1_4) (t1_5 := t1_5) (t1_6 := t1_6) (t2_0 := t2_0) (t3_0 := t3_0) (t4_0 := t4_0) (t5_0 := t5_0) (t6_0 := t6_0) (t7_0 := t7_0) (t8_0 := t8_0) (t9_0 := t9_0) (t9_1 := t9_1) (t9_2 := t9_2) (t9_3 := t9_3) (t9_4 := t9_4) (t9_5 := t9_5) (t9_6 := t9_6) (t9_7 := t9_7) (t9_8 := t9_8) (t9_9 := t9_9) (t9_10 := t9_10) (t10_0 := t10_0) (t11_0 := t11_0) (t12_0 := t12_0) (t13_0 := t13_0) (t14_0 := t14_0) (t15_0 := t15_0) (t16_0 := t16_0) (t17_0 := t17_0) (t17_1 := t17_1) (t17_2 := t17_2) (t17_3 := t17_3) (t17_4 := t17_4) (t17_5 := t17_5) (t17_6 := t17_6) (t17_7 := t17_7) (t17_8 := t17_8) (t17_9 := t17_9) (t17_10 := t17_10) (t18_0 := t18_0) (t19_0 := t19_0) (t20_0 := t20_0) (t21_0 := t21_0) (t22_0 := t22_0) (t23_0 := t23_0) (t23_1 := t23_1) (t23_2 := t23_2) (t23_3 := t23_3) (t23_4 := t23_4) (t23_5 := t23_5) (t23_6 := t23_6) (t23_7 := t23_7) (t23_8 := t23_8) (t23_9 := t23_9) (t23_10 := t23_10) (t23_11 := t23_11) (t23_12 := t23_12) (t23_13 := t23_13) (t24_0 := t24_0) (t25_0 := t25_0) (t26_0 := t26_0) (t27_0 := t27_0) hW hD hB
  refine q_mVw (X_NM_convert l D g q ws x2 x3 x4 x5 hI t0_0 t0_1 t0_2 hT0 t1_0 t1_1 t1_2 t1_3 t1_4 t1_5 t1_6 hT1 t2_0 hT2 t3_0 hT3 t4_0 hT4 t5_0 hT5 t6_0 hT6 t7_0 hT7 t8_0 hT8 t9_0 t9_1 t9_2 t9_3 t9_4 t9_5 t9_6 t9_7 t9_8 t9_9 t9_10 hT9 t10_0 hT10 t11_0 hT11 t12_0 hT12 t13_0 hT13 t14_0 hT14 t15_0 hT15 t16_0 hT16 t17_0 t17_1 t17_2 t17_3 t17_4 t17_5 t17_6 t17_7 t17_8 t17_9 t17_10 hT17 t18_0 hT18 t19_0 hT19 t20_0 hT20 t21_0 hT21 t22_0 hT22 t23_0 t23_1 t23_2 t23_3 t23_4 t23_5 t23_6 t23_7 t23_8 t23_9 t23_10 t23_11 t23_12 t23_13 hT23 t24_0 hT24 t25_0 hT25 t26_0 hT26 t27_0 hT27 ⟨trivial, hq.1⟩) ?_
  rintro u ⟨hI2, hun, hX⟩
  obtain ⟨u0_0, hX⟩ := hX
  obtain ⟨u1_0, hX⟩ := hX
  obtain ⟨u1_1, hX⟩ := hX
  obtain ⟨u1_2, hX⟩ := hX
  obtain ⟨u1_3, hX⟩ := hX
  obtain ⟨u1_4, hX⟩ := hX
  obtain ⟨u1_5, hX⟩ := hX
  obtain ⟨u1_6, hX⟩ := hX
  obtain ⟨u2_0, hX⟩ := hX
  obtain ⟨u3_0, hX⟩ := hX
  obtain ⟨u4_0, hX⟩ := hX
  obtain ⟨u5_0, hX⟩ := hX
  obtain ⟨u6_0, hX⟩ := hX
  obtain ⟨u7_0, hX⟩ := hX
  obtain ⟨u8_0, hX⟩ := hX
  obtain ⟨u9_0, hX⟩ := hX
  obtain ⟨u9_1, hX⟩ := hX
  obtain ⟨u9_2, hX⟩ := hX
  obtain ⟨u9_3, hX⟩ := hX
  obtain ⟨u9_4, hX⟩ := hX
  obtain ⟨u9_5, hX⟩ := hX
  obtain ⟨u9_6, hX⟩ := hX
  obtain ⟨u9_7, hX⟩ := hX
  obtain ⟨u9_8, hX⟩ := hX
  obtain ⟨u9_9, hX⟩ := hX
  obtain ⟨u9_10, hX⟩ := hX
  obtain ⟨u10_0, hX⟩ := hX
  obtain ⟨u11_0, hX⟩ := hX
  obtain ⟨u12_0, hX⟩ := hX
  obtain ⟨u13_0, hX⟩ := hX
  obtain ⟨u14_0, hX⟩ := hX
  obtain ⟨u15_0, hX⟩ := hX
  obtain ⟨u16_0, hX⟩ := hX
  obtain ⟨u17_0, hX⟩ := hX
  obtain ⟨u17_1, hX⟩ := hX
  obtain ⟨u17_2, hX⟩ := hX
  obtain ⟨u17_3, hX⟩ := hX
  obtain ⟨u17_4, hX⟩ := hX
  obtain ⟨u17_5, hX⟩ := hX
  obtain ⟨u17_6, hX⟩ := hX
  obtain ⟨u17_7, hX⟩ := hX
  obtain ⟨u17_8, hX⟩ := hX
  obtain ⟨u17_9, hX⟩ := hX
  obtain ⟨u17_10, hX⟩ := hX
  obtain ⟨u18_0, hX⟩ := hX
  obtain ⟨u19_0, hX⟩ := hX
  obtain ⟨u20_0, hX⟩ := hX
  obtain ⟨u21_0, hX⟩ := hX
  obtain ⟨u22_0, hX⟩ := hX
  obtain ⟨u23_0, hX⟩ := hX
  obtain ⟨u23_1, hX⟩ := hX
  obtain ⟨u23_2, hX⟩ := hX
  obtain ⟨u23_3, hX⟩ := hX
  obtain ⟨u23_4, hX⟩ := hX
  obtain ⟨u23_5, hX⟩ := hX
  obtain ⟨u23_6, hX⟩ := hX
  obtain ⟨u23_7, hX⟩ := hX
  obtain ⟨u23_8, hX⟩ := hX
  obtain ⟨u23_9, hX⟩ := hX
  obtain ⟨u23_10, hX⟩ := hX
  obtain ⟨u23_11, hX⟩ := hX
  obtain ⟨u23_12, hX⟩ := hX
  obtain ⟨u23_13, hX⟩ := hX
  obtain ⟨u24_0, hX⟩ := hX
  obtain ⟨u25_0, hX⟩ := hX
  obtain ⟨u26_0, hX⟩ := hX
  obtain ⟨u27_0, hX⟩ := hX
  have hU3 := hX.2.2.2.1
  have hU4 := hX.2.2.2.2.1
  have hU11 := hX.2.2.2.2.2.2.2.2.2.2.2.1
  have hU12 := hX.2.2.2.2.2.2.2.2.2.2.2.2.1
  have hU13 := hX.2.2.2.2.2.2.2.2.2.2.2.2.2.1
  have hU14 := hX.2.2.2.2.2.2.2.2.2.2.2.2.2.2.1
  have hU27 := hX.2.2.2.2.2.2.2.2.2.2.2.2.2.2.2.2.2.2.2.2.2.2.2.2.2.2.2.1
  have hR := hX.2.2.2.2.2.2.2.2.2.2.2.2.2.2.2.2.2.2.2.2.2.2.2.2.2.2.2.2
  have hp := hq.2
  rw [← hR.2.2.2.2.2.2.2.2.2.2.2.2.2.2.2.2.2.2.2.2.2.2.2.2.2.2.2.2.2.2.2.2.2.2.2.2.2.2.2.2.2.2.2.2.2] at hp
  exact ⟨hI2, ⟨⟨_, _, hU3, hU4, hp.1⟩, ⟨_, _, _, _, hU11, hU12, hU13, hU14, hp.2.1⟩, jZ_fr hM0.2.2.1 (hun 160 (by decide)), ⟨_, hU27, hp.2.2⟩⟩, jF_un hun (by decide)⟩

/-! methods with an exception table: their contracts, their calls, their catch -/
abbrev q_wW (y : MethodName) (b : ByteArray) (n : Nat) (r : Option FieldType) (hh : List (Nat × Nat × Nat × Nat)) : List Cond := Cond.codeWith y b n r hh :: q_tbl
def q_ex (h : ExceptionTableEntry) : Nat × Nat × Nat × Nat := (h.startPc, h.endPc, h.handlerPc, h.catchType)
def q_LW (own : String) (index : Nat) (y : MethodName) (b : ByteArray) (n : Nat) (r : Option FieldType) (hh : List (Nat × Nat × Nat × Nat)) (k : Nat) : Prop :=
  Cond.codeWith y b n r hh ∈ q_tbl ∧ Cond.initialized y.cls ∈ q_tbl ∧ Cond.methodLink own index y ∈ q_tbl ∧ Cond.static y ∈ q_tbl ∧ (y.cls ≠ "java/lang/invoke/MethodHandle" ∧ y.cls ≠ "java/lang/invoke/VarHandle" ∧ (parseMethodDescriptor y.desc).map (fun d => d.parameters.length) = some k)
theorem q_gwW {y : MethodName} {b : ByteArray} {n : Nat} {r : Option FieldType} {hh : List (Nat × Nat × Nat × Nat)} (h : Cond.codeWith y b n r hh ∈ q_tbl) : GoodIn q_tbl (q_wW y b n r hh) := fun w hw => by
  rcases List.mem_cons.mp hw with rfl | hw
  · exact q_gi (fun _ h => h) _ h
  · exact q_gi (fun _ h => h) _ hw
section QWE
variable {l : Launch} {D : va_G} {g : Nat → ClassId}
theorem q_intoW {y : MethodName} {b : ByteArray} {n : Nat} {r : Option FieldType} {hh : List (Nat × Nat × Nat × Nat)} {d mc ms : Nat} {av : List Value} {ws : va_W} {sz : Nat} {Qc : Array Value → State → Outcome → State → Prop} (hy : plainName y.cls = true) (hn : (lg_sl av).length ≤ n)
    (body : ∀ (p : Program) (e : Env) (s : State) (m : MethodId) (below : List Frame) (meth : Method) (c : Code) (ls : Array Slot), s.heap.size = sz → q_At p s m av.toArray meth c y b n r → q_Wd D g (va_A ws sz) s ws s.heap [] → c.exceptionTable.toList.map q_ex = hh → lv_has ls n (lv_args 0 av) →
      W p l e (q_rm d mc ms) s m av.toArray below meth c s.heap [] 0 0 (MQ below Qc av.toArray s mc ms (va_A ws sz)) (F0 m 0 ls [])) :
    Met l y (q_wW y b n r hh) (q_rm d mc ms) (q_P D g av ws sz) Qc mc ms (va_A ws sz) := by
  refine va_MetW (cc := b) (maxL := n) (ret := r) (hh := hh) hy rfl ?_
  intro p e s m args below meth c s₁ B hml hv
  obtain ⟨rfl, hsz, hP, hK, hD, hZ⟩ := hv
  have hts := atoms_spec (ws := q_wW y b n r hh) B.pre
  have hl := lv_entry av (n := n) hn
  obtain ⟨m9, meth9, c9, hn9, h1, h2, -, -, ht, -⟩ := Cond.codeWith_spec (hts _ List.mem_cons_self)
  cases B.named.symm.trans hn9
  cases B.method.symm.trans h1
  cases (Stand.of_body B).code.symm.trans h2
  rw [lg_entry_eq]
  exact body p e s m below meth c _ hsz ⟨B.exec, B.bytes, B.returns, hml, findClass_of_methodNamed B.named, fun w h => hts w (List.mem_cons_of_mem _ h), B.notSynchronized, (name_of_methodNamed B.named B.method).1⟩
    ⟨hP, hD.self, va_S.rf, hK, hZ, fun q h => Or.inr (by rw [← hsz]; exact h)⟩ ht hl
end QWE
section QW
variable {p : Program} {l : Launch} {e : Env} {R : Room} {s : State} {m : MethodId} {args : Array Value} {below : List Frame} {meth : Method} {c : Code} {H : Heap} {locs : List Loc} {cells slots : Nat} {Q : State → Prop}
variable {D : va_G} {g : Nat → ClassId} {A : Nat → Prop} {ws : va_W} {y0 : MethodName} {b0 : ByteArray} {n0 : Nat} {r0 : Option FieldType} {pc : Nat} {ls : Array Slot} {rest st0 As : List Value}
variable {own : String} {index : Nat} {y : MethodName} {b : ByteArray} {n k d mc ms : Nat} {r : Option FieldType} {hh : List (Nat × Nat × Nat × Nat)} {Qc : Array Value → State → Outcome → State → Prop}
theorem q_coreW {av : List Value} {U : State} {f : JFrame} {ig : Instr} {mk : MethodId} (hM : Met l y (q_wW y b n r hh) (q_rm d mc ms) (q_P D g av ws H.size) Qc mc ms (va_A ws H.size)) (X : Stand p l e R s m args below meth c U locs cells slots) (hg : f.method = m) (hsize : f.locals.size = c.maxLocals) (hdg : decode c.code f.pc = .ok (ig, 3)) (hn : U.methodNamed? y = some mk)
    (hW8 : 2 * f.monitorRoom + (f.stack.map fun v => v.category).sum ≤ 8) (hws : ∀ w ∈ q_wW y b n r hh, w.before av.toArray U = true) (hini : (Cond.initialized y.cls).before av.toArray U = true) (hP : q_P D g av ws H.size av.toArray U) (hR : d + 1 ≤ R.frames ∧ 8 + (n + 11) + 64 * d ≤ R.locals) (hf : cells + mc ≤ R.cells ∧ slots + ms ≤ R.slots) :
    ∃ (v : Option Value) (t T' : State) (L : List Loc), Stand p l e R s m args below meth c T' (locs ++ L) (cells + mc) (slots + ms) ∧ T'.heap = t.heap ∧ T'.vm = t.vm ∧ Qc av.toArray (U.calling f mk av.toArray) (.returned v) t ∧ (∀ q ∈ L, va_A ws H.size q.base) ∧
      Steps p.tables e below (doInvoke e (U.setTop f) [] mk av.toArray).1 (T'.setTop { f with pc := f.pc + 3, stack := v.toList ++ f.stack }) := by
  obtain ⟨m9, methY, cY, hn9, hmY, hcY, -, hlY, -⟩ := Cond.codeWith_spec (hws _ List.mem_cons_self)
  cases hn.symm.trans hn9
  obtain ⟨kY, hkY, -⟩ := className_of_methodNamed hn
  have hinitY : kY.init = .initialized := Cond.initialized_spec (findClass_of_methodNamed hn) hkY hini
  have h : At U f.method c below := by rw [hg]; exact X.here
  have happ : (headSpec (q_wW y b n r hh) (q_rm d mc ms)).appliesLoose y e.platform (U.calling f mk av.toArray) = true :=
    Spec.appliesLoose_calling (g := f) h hdg hn hkY hinitY
      (X.room_calling (g := f) (R' := q_rm d mc ms) hsize hmY hcY hR.1 (by rw [hlY]; have := hR.2; show _ + (n + 11) + 64 * d ≤ _; omega) hf.1 hf.2) (atoms_intro hws)
  obtain ⟨mid, hmid⟩ := h.above
  have hfr : (U.setTop f).frames = (.java f :: mid) ++ below := by rw [State.frames_setTop' f h.top, hmid]; rfl
  obtain ⟨o, s₂, hsteps, -, hend, hq⟩ := Steps.callFree hM p X.admits X.cas X.clock (acts := []) hfr happ (q_blind _ _ f mk hP) trivial
  have hft : (U.setTop f).frames = .java f :: below := by rw [State.frames_setTop' f h.top, X.tail]
  rw [hft] at hend
  obtain ⟨hqc, L, hfe, hL⟩ := hq
  obtain ⟨⟨v, rfl⟩, hW₂, hsm⟩ := hfe
  obtain ⟨T', X', hW', hS', rfl⟩ := X.outOf hg hdg hend hW₂ hsm
  exact ⟨v, T'.setTop { f with pc := f.pc + 3, stack := v.toList ++ f.stack }, T', L, X', rfl, rfl, hqc, hL, hsteps⟩
theorem q_wordsW (C0 : q_At p s m args meth c y0 b0 n0 r0) (h1 : Cond.codeWith y b n r hh ∈ q_tbl) {U : State} (hW : s.WarmedH U.vm) {a' : Array Value} : ∀ w ∈ q_wW y b n r hh, w.before a' U = true := fun w hw => pay_in C0.2.2.2.2.2.1 (q_gwW h1) w hw a' U hW
theorem q_runSW (C0 : q_At p s m args meth c y0 b0 n0 r0) (V : q_Wd D g A s ws H locs) (ho : y0.cls = own) (L : q_LW own index y b n r hh k) (hM : Met l y (q_wW y b n r hh) (q_rm d mc ms) (q_P D g As ws H.size) Qc mc ms (va_A ws H.size)) (hn : As.length = k) (hsz : ls.size = n0) (hst : st0 = As.reverse ++ rest) (hcat : (rest.map fun v => v.category).sum ≤ 8) (hR : d + 1 ≤ R.frames ∧ 8 + (n + 11) + 64 * d ≤ R.locals) (hf : cells + mc ≤ R.cells ∧ slots + ms ≤ R.slots) (hdg : decode b0 pc = .ok (.invokestatic index, 3)) :
    va_Run p l e R s m args below meth c H locs cells slots mc ms (F0 m pc ls st0) rest (Qc As.toArray) (va_A ws H.size) := by
  intro T hT X
  have hts := C0.2.2.2.2.2.1
  have hown : s.vm.findClass own = some m.cls := by rw [← ho]; exact C0.2.2.2.2.1
  obtain ⟨mk, methM, cM, hnamed, hmethM, -, -, -, -, -, -, hsigM⟩ := Cond.codeWith_spec (hts _ L.1)
  have hstatic : methM.isStatic = true := Cond.static_spec hnamed hmethM (hts _ L.2.2.2.1)
  obtain ⟨kP, hkP, -⟩ := className_of_methodNamed hnamed
  have hinitP : kP.init = .initialized := Cond.initialized_spec (findClass_of_methodNamed hnamed) hkP (hts _ L.2.1)
  have hlen : As.length = methM.sig.parameters.length := by
    have h2 := L.2.2.2.2.2.2
    rw [hsigM] at h2
    rw [hn]
    exact (Option.some.inj h2).symm
  obtain ⟨vm₁, X₁, st1⟩ := X.invokestatic C0.1 hown (hts _ L.2.2.1) hnamed hmethM hstatic hkP hinitP ⟨L.2.2.2.2.1, L.2.2.2.2.2.1⟩ (g := F0 m pc ls st0) rfl (argsL := As) (rest := rest) hlen hst (by rw [C0.2.1]; exact hdg)
  have hini : (Cond.initialized y.cls).before As.toArray (T.setVm vm₁) = true := q_wordsW C0 L.1 X₁.warmed _ (List.mem_cons_of_mem _ L.2.1)
  obtain ⟨v, t, T', L', X', e1, e2, hq, hL, st⟩ := q_coreW hM X₁ (f := F0 m pc ls rest) rfl (hsz.trans C0.2.2.2.1.symm) (by rw [C0.2.1]; exact hdg) (X₁.named hnamed) (lv_room hcat) (q_wordsW C0 L.1 X₁.warmed) hini (q_pre V (T.setVm vm₁) hT X₁.warmed) hR hf
  exact ⟨v, (T.setVm vm₁).calling (F0 m pc ls rest) mk As.toArray, t, T', L', hT, X', hL, e1, e2, hq, fun tg h => st1 _ fun acts => by rw [doInvoke_state]; exact st.trans h⟩
theorem q_hc {tl : List ExceptionTableEntry} {a b h k : Nat} {hh : List (Nat × Nat × Nat × Nat)} (ht : tl.map q_ex = (a, b, h, k) :: hh) : ∃ x t, tl = x :: t ∧ x.startPc = a ∧ x.endPc = b ∧ x.handlerPc = h ∧ x.catchType = k ∧ t.map q_ex = hh := by
  cases tl with
  | nil => cases ht
  | cons x t =>
    rw [List.map_cons] at ht
    obtain ⟨h1, h2⟩ := List.cons.inj ht
    unfold q_ex at h1
    obtain ⟨e1, e2⟩ := Prod.mk.inj h1
    obtain ⟨e2, e3⟩ := Prod.mk.inj e2
    obtain ⟨e3, e4⟩ := Prod.mk.inj e3
    exact ⟨x, t, rfl, e1, e2, e3, e4, h2⟩
theorem q_hY {tl : List ExceptionTableEntry} {a b h ix : Nat} {hh : List (Nat × Nat × Nat × Nat)} {E : String} {kc : ClassId} (C0 : q_At p s m args meth c y0 b0 n0 r0) (V : q_Wd D g A s ws H locs) (ho : y0.cls = own) (ht : tl.map q_ex = (a, b, h, ix) :: hh) (hp : a ≤ pc ∧ pc < b) (h0 : ix ≠ 0) (hw : Cond.classLink own ix E ∈ q_tbl) (hs : Cond.castable E E ∈ q_odd) (hcl : s.vm.findClass E = some kc) (pl : Platform) (hpl : pl.magicAccessors = ({} : Platform).magicAccessors) : q_hit pl s m.cls pc kc h tl := by
  obtain ⟨x, t, rfl, e1, e2, e3, e4, -⟩ := q_hc ht
  have hd : s.vm.findClass own = some m.cls := by rw [← ho]; exact C0.2.2.2.2.1
  obtain ⟨cE, hc1, hl⟩ := Cond.classLink_spec hd (C0.2.2.2.2.2.1 _ hw) pl hpl
  obtain ⟨c1, c2, g1, g2, g3⟩ := Cond.castable_spec (V.2.2.2.2.1.1.2.2.2.2 _ hs)
  cases hc1.symm.trans g2
  cases hcl.symm.trans g1
  exact Or.inr ⟨by simp [covers, e1, e2, hp.1, hp.2], by rw [e4]; exact h0, _, by rw [e4]; exact hl, Or.inl ⟨g3, e3⟩⟩
theorem q_hN {tl : List ExceptionTableEntry} {a b h h' ix : Nat} {hh : List (Nat × Nat × Nat × Nat)} {E E' : String} {kc : ClassId} (C0 : q_At p s m args meth c y0 b0 n0 r0) (ho : y0.cls = own) (ht : tl.map q_ex = (a, b, h', ix) :: hh) (hp : a ≤ pc ∧ pc < b) (h0 : ix ≠ 0) (hw : Cond.classLink own ix E ∈ q_tbl) (hs : va_Nc E' E s) (hcl : s.vm.findClass E' = some kc) (pl : Platform) (hpl : pl.magicAccessors = ({} : Platform).magicAccessors) (more : ∀ t, t.map q_ex = hh → q_hit pl s m.cls pc kc h t) : q_hit pl s m.cls pc kc h tl := by
  obtain ⟨x, t, rfl, e1, e2, e3, e4, e5⟩ := q_hc ht
  have hd : s.vm.findClass own = some m.cls := by rw [← ho]; exact C0.2.2.2.2.1
  obtain ⟨cE, hc1, hl⟩ := Cond.classLink_spec hd (C0.2.2.2.2.2.1 _ hw) pl hpl
  obtain ⟨c1, c2, g1, g2, g3⟩ := hs
  cases hc1.symm.trans g2
  cases hcl.symm.trans g1
  exact Or.inr ⟨by simp [covers, e1, e2, hp.1, hp.2], by rw [e4]; exact h0, _, by rw [e4]; exact hl, Or.inr ⟨g3, more t e5⟩⟩
end QW
/-- a cell of a family -/
theorem q_fa0 {u l : va_W} {o i : Nat} {x : Nat × va_E} (h : q_fl u o l) (hl : l[i]? = some x) : u[o + i]? = some x := h i x hl
/-! what the law's cases stand on -/
theorem q_Ifr {sh : List q_Ok} {q : Nat → Nat} {ws u : va_W} (h : q_I sh q ws) (hu : ∀ i, i < sh.length → u[i]? = ws[i]?) : q_I sh q u := fun k P hk => by
  obtain ⟨E, a, b⟩ := h k P hk
  exact ⟨E, (hu k (List.getElem?_eq_some_iff.mp hk).1).trans a, b⟩
set_option maxRecDepth 100000 in
theorem n_len (g : Nat → ClassId) (q : Nat → Nat) : (nsh g q).length = 116 := rfl
set_option maxRecDepth 100000 in
theorem m_len (g : Nat → ClassId) (q : Nat → Nat) : (msh g q).length = 169 := rfl
theorem w_iC {g : Nat → ClassId} {q : Nat → Nat} {ws u : va_W} (h : iC g q ws) (hu : ∀ i, i < 116 → u[i]? = ws[i]?) : iC g q u :=
  ⟨fun i hi => iW_fr (h.1 i hi) (hu _ (by omega)) (hu _ (by omega)), fun i hi => iD_fr (h.2.1 i hi) (hu _ (by omega)) (hu _ (by omega)) (hu _ (by omega)), iO_fr h.2.2 (hu _ (by decide)) (hu _ (by decide)) (hu _ (by decide))⟩
theorem w_cC {g : Nat → ClassId} {q : Nat → Nat} {ws u : va_W} (hI : q_I (nsh g q) q ws) (hC : iC g q ws) (hF : ∀ i, i < 116 → u[i]? = ws[i]?) : q_I (nsh g q) q u ∧ iC g q u :=
  ⟨q_Ifr hI (fun i h => hF i (by rw [n_len] at h; exact h)), w_iC hC hF⟩
theorem w_nI {g : Nat → ClassId} {q : Nat → Nat} {ws u : va_W} (h : q_I (nsh g q) q ws) (hu : ∀ i, i ≠ 169 → u[i]? = ws[i]?) : q_I (nsh g q) q u := q_Ifr h (fun i hi => hu i (by rw [n_len] at hi; omega))
theorem w_nC {g : Nat → ClassId} {q : Nat → Nat} {ws u : va_W} (h : iC g q ws) (hu : ∀ i, i ≠ 169 → u[i]? = ws[i]?) : iC g q u := w_iC h (fun i hi => hu i (by omega))
set_option maxRecDepth 100000 in
theorem m_any (g : Nat → ClassId) (q : Nat → Nat) {k : Nat} (hk : k < 116) : (msh g q)[k]? = some k_any := by
  have e : msh g q = List.replicate 116 k_any ++ (msh g q).drop 116 := (List.take_append_drop 116 (msh g q)).symm
  rw [e, List.getElem?_append_left (by rw [List.length_replicate]; exact hk), List.getElem?_replicate, if_pos hk]
theorem n_some (g : Nat → ClassId) (q : Nat → Nat) {k : Nat} (hk : k < 116) : ∃ P, (nsh g q)[k]? = some P := ⟨_, List.getElem?_eq_getElem (by rw [n_len]; exact hk)⟩
theorem w_cM {g : Nat → ClassId} {q : Nat → Nat} {ws u : va_W} (hJ : q_I (msh g q) q ws) (hM : iM g q ws) (hI : q_I (nsh g q) q u) (hF : ∀ i, 116 ≤ i → i ≠ 169 → u[i]? = ws[i]?) : q_I (msh g q) q u ∧ iM g q u := by
  refine ⟨fun k P hk => ?_, jW_fr hM.1 (hF _ (by decide) (by decide)) (hF _ (by decide) (by decide)), jD_fr hM.2.1 (hF _ (by decide) (by decide)) (hF _ (by decide) (by decide)) (hF _ (by decide) (by decide)) (hF _ (by decide) (by decide)), jZ_fr hM.2.2.1 (hF _ (by decide) (by decide)), jB_fr hM.2.2.2 (hF _ (by decide) (by decide))⟩
  by_cases c : k < 116
  · rw [m_any g q c] at hk
    cases hk
    obtain ⟨P', hP'⟩ := n_some g q c
    obtain ⟨E, a, -⟩ := hI k P' hP'
    exact ⟨E, a, trivial⟩
  · have hl := (List.getElem?_eq_some_iff.mp hk).1
    rw [m_len] at hl
    obtain ⟨E, a, b⟩ := hJ k P hk
    exact ⟨E, (hF k (by omega) (by omega)).trans a, b⟩
theorem w_rc {c m : Nat} (h : c ≤ 6500) (hm : m ≤ 100) : c + m ≤ room_1.cells := by
  show c + m ≤ 601024
  omega
theorem w_rs {c m : Nat} (h : c ≤ 310000) (hm : m ≤ 1000) : c + m ≤ room_1.slots := by
  show c + m ≤ 7293034
  omega
theorem w_in {i0 a j : Int32} {L : Nat} (ha : i0 + j = a) (hj : 0 ≤ j.toInt ∧ j.toInt ≤ 5) (hi : 0 ≤ i0.toInt ∧ i0.toInt + 6 ≤ (L : Int) ∧ (L : Int) ≤ 3072) : vp_in a L := by
  subst ha
  have e : (i0 + j : Int32).toInt = i0.toInt + j.toInt := q_addI rfl rfl (by omega) (by omega)
  have cl := q_clI (i := i0 + j) rfl (by omega)
  unfold vp_in
  rintro (h | h)
  · have := q_ltI h
    have e0 : (0 : Int32).toInt = 0 := rfl
    omega
  · omega
theorem w_in0 {i0 : Int32} {L : Nat} (hi : 0 ≤ i0.toInt ∧ i0.toInt + 6 ≤ (L : Int) ∧ (L : Int) ≤ 3072) : vp_in i0 L := by
  have cl := q_clI (i := i0) rfl hi.1
  unfold vp_in
  rintro (h | h)
  · have := q_ltI h
    have e0 : (0 : Int32).toInt = 0 := rfl
    omega
  · omega
theorem w_sub {L : Nat} (h : L ≤ 3072) : (Int32.ofNat L - 6 : Int32).toInt = (L : Int) - 6 := by
  have e : (Int32.ofNat L).toInt = (L : Int) := Int32.toInt_ofNat_of_lt (by omega)
  exact q_subI (y := 6) e (by decide) (by omega) (by omega)
/-! the law's own methods -/
def y_NL_law : MethodName := ⟨"NumberHouseLaw", "law", "([I)Z"⟩
theorem d_3_0 : decode method_3_code 0 = .ok (.aload 4, 2) := by decide +kernel
theorem d_3_2 : decode method_3_code 2 = .ok (.iconst 0, 1) := by decide +kernel
theorem d_3_3 : decode method_3_code 3 = .ok (.aload_n 0, 1) := by decide +kernel
theorem d_3_4 : decode method_3_code 4 = .ok (.iload_n 1, 1) := by decide +kernel
theorem d_3_5 : decode method_3_code 5 = .ok (.lload_n 2, 1) := by decide +kernel
set_option maxRecDepth 100000 in
theorem w_490 : (Cond.code ({ cls := "NumberHouse", name := "feed", desc := "(IJ)I" } : MethodName) prog_1_method_2_code (5 : Nat) (some .int)) ∈ q_tbl := q_of3 10 rfl (by decide +kernel)
set_option maxRecDepth 100000 in
theorem w_487 : (Cond.methodLink "NumberHouseLaw" (7 : Nat) ({ cls := "NumberHouse", name := "feed", desc := "(IJ)I" } : MethodName)) ∈ q_tbl := q_of3 7 rfl (by decide +kernel)
set_option maxRecDepth 100000 in
theorem w_488 : (Cond.instanceMethod ({ cls := "NumberHouse", name := "feed", desc := "(IJ)I" } : MethodName)) ∈ q_tbl := q_of3 8 rfl (by decide +kernel)
set_option maxRecDepth 100000 in
theorem w_489 : (Cond.selects "NumberHouse" ({ cls := "NumberHouse", name := "feed", desc := "(IJ)I" } : MethodName) ({ cls := "NumberHouse", name := "feed", desc := "(IJ)I" } : MethodName)) ∈ q_tbl := q_of3 9 rfl (by decide +kernel)
theorem LV_NL_7 : q_LV "NumberHouseLaw" 7 y_NH_feed prog_1_method_2_code 5 (some .int) 2 := ⟨w_490, w_1, w_487, w_488, w_489, ⟨by decide, by decide, by decide +kernel⟩⟩
theorem d_3_6 : decode method_3_code 6 = .ok (.invokevirtual 7, 3) := by decide +kernel
set_option maxRecDepth 100000 in
theorem w_486 : (Cond.classLink "NumberHouseLaw" (13 : Nat) "java/lang/IllegalArgumentException") ∈ q_tbl := q_of3 6 rfl (by decide +kernel)
set_option maxRecDepth 100000 in
theorem wo_496 : (Cond.castable "java/lang/IllegalArgumentException" "java/lang/IllegalArgumentException") ∈ q_odd := q_oo3 16 rfl (by decide +kernel)
theorem d_3_14 : decode method_3_code 14 = .ok (.astore 5, 2) := by decide +kernel
theorem d_3_16 : decode method_3_code 16 = .ok (.iconst 1, 1) := by decide +kernel
theorem d_3_17 : decode method_3_code 17 = .ok (.ireturn, 1) := by decide +kernel
theorem d_3_9 : decode method_3_code 9 = .ok (.i2l, 1) := by decide +kernel
theorem d_3_10 : decode method_3_code 10 = .ok (.lastore, 1) := by decide +kernel
theorem d_3_11 : decode method_3_code 11 = .ok (.goto 7, 3) := by decide +kernel
theorem d_3_18 : decode method_3_code 18 = .ok (.iconst 0, 1) := by decide +kernel
theorem d_3_19 : decode method_3_code 19 = .ok (.ireturn, 1) := by decide +kernel
def y_NL_feed : MethodName := ⟨"NumberHouseLaw", "feed", "(LNumberHouse;IJ[J)I"⟩
set_option maxRecDepth 100000 in
set_option maxHeartbeats 4000000 in
theorem w_NL_feed (l : Launch) (D : va_G) (g : Nat → ClassId) (q : Nat → Nat) (ws : va_W) (qo : Nat) (fo : Nat → Int64) (x2 : Int32) (x3 : Int64) (hlt : l.stackTraces = false) (hI : q_I (nsh g q) q ws) (hC : iC g q ws) (hO : ws[169]? = (some (qo, .inl (g 1, 1, .inr (.inl fo))) : Option (Nat × va_E))) : ∀ sz, Met l y_NL_feed (q_wW y_NL_feed method_3_code 6 (some .int) [(0, 11, 14, 13)]) (q_rm 9 1 6) (q_P D g [.ref (q 0), .int x2, .long x3, .ref qo] ws sz) (va_Qi (fun _ u => q_I (nsh g q) q u ∧ iC g q u ∧ (∃ f2 : Nat → Int64, u[169]? = (some (qo, .inl (g 1, 1, .inr (.inl f2))) : Option (Nat × va_E))) ∧ ∀ i, 116 ≤ i → i ≠ 169 → u[i]? = ws[i]?) (q_B D g (va_A ws sz)) (va_A ws sz)) 1 6 (va_A ws sz) := by
  intro sz
  refine q_intoW (by decide) (Nat.le_of_ble_eq_true rfl) ?_
  intro p e s m below meth c ls hsz C0 V ht hl
  have hx := C0.1
  have hb := C0.2.1
  have hl : lv_has ls 6 [(0, .ref (q 0)), (1, .int x2), (2, .long x3), (4, .ref qo)] := hl
  obtain ⟨E0, hP0, hE0⟩ := hI 0 _ (n_s0 g q)
  unfold k_0 at hE0
  subst hE0
  refine lv_aload hx hb d_3_0 (lv_at hl 3 rfl) ?_
  refine lv_iconst (v := 0) hx hb d_3_2 (by decide) ?_
  refine lv_aload_n hx hb d_3_3 rfl (lv_at hl 0 rfl) ?_
  refine lv_iload_n hx hb d_3_4 rfl (lv_at hl 1 rfl) ?_
  refine lv_lload_n hx hb d_3_5 rfl (lv_at hl 2 rfl) ?_
  refine q_goxi V (q_runVX (As := [.int x2, .long x3]) (rest := [.int 0, .ref qo]) (d := 8) (mc := 1) (ms := 6) (ci := 0) C0 V rfl LV_NL_7 (C_feed l D g q ws x2 x3 hlt hI hC _) rfl rfl hP0 rfl hl.1 rfl (Nat.le_of_ble_eq_true rfl) ⟨by decide, by decide⟩ ⟨Nat.le_of_ble_eq_true rfl, Nat.le_of_ble_eq_true rfl⟩ d_3_6) (fun qx Ex ce u1 H locs hp V hce hcv hcl => ?_) (fun rv u1 H locs hp V => ?_)
  ·
    obtain ⟨⟨cc, hE, hc⟩, hJ⟩ := hp
    have hO : u1[169]? = (some (qo, .inl (g 1, 1, .inr (.inl fo))) : Option (Nat × va_E)) := (hJ.2.2 169 (Nat.le_of_ble_eq_true rfl)).trans hO
    subst hc
    obtain rfl : Ex = "java/lang/IllegalArgumentException" := hE.trans qE1.symm
    refine q_catch hce hcv hcl (fun pl hpl => q_hY C0 V rfl ht ⟨by decide, by decide⟩ (by decide) w_486 wo_496 hcl pl hpl) ?_
    refine lv_astore (lv' := [(5, .ref qx), (0, .ref (q 0)), (1, .int x2), (2, .long x3), (4, .ref qo)]) hx hb d_3_14 hl (by decide) rfl (fun ls hl => ?_)
    refine lv_iconst (v := 1) hx hb d_3_16 (by decide) ?_
    exact q_reti C0 V (⟨hJ.1, hJ.2.1, ⟨_, hO⟩, fun i h1 _ => hJ.2.2 i h1⟩) d_3_17
  ·
    have hJ := hp
    have hO : u1[169]? = (some (qo, .inl (g 1, 1, .inr (.inl fo))) : Option (Nat × va_E)) := (hJ.2.2 169 (Nat.le_of_ble_eq_true rfl)).trans hO
    refine lv_i2l hx hb d_3_9 rfl ?_
    refine q_last C0 V hO (by unfold vp_in; decide) d_3_10 (fun H locs w1 hu2 hO V => ?_)
    refine lv_goto (tgt := 18) hx hb d_3_11 (by decide) ?_
    refine lv_iconst (v := 0) hx hb d_3_18 (by decide) ?_
    exact q_reti C0 V (⟨w_nI hJ.1 hu2, w_nC hJ.2.1 hu2, ⟨_, hO⟩, fun i h1 h2 => (hu2 i h2).trans (hJ.2.2 i h1)⟩) d_3_19
theorem d_4_0 : decode method_4_code 0 = .ok (.aload 4, 2) := by decide +kernel
theorem d_4_2 : decode method_4_code 2 = .ok (.iconst 0, 1) := by decide +kernel
theorem d_4_3 : decode method_4_code 3 = .ok (.aload_n 0, 1) := by decide +kernel
theorem d_4_4 : decode method_4_code 4 = .ok (.iload_n 1, 1) := by decide +kernel
theorem d_4_5 : decode method_4_code 5 = .ok (.iload_n 2, 1) := by decide +kernel
theorem d_4_6 : decode method_4_code 6 = .ok (.iload_n 3, 1) := by decide +kernel
set_option maxRecDepth 100000 in
theorem w_574 : (Cond.code ({ cls := "NumberHouse", name := "read", desc := "(III)Z" } : MethodName) prog_1_method_4_code (5 : Nat) (some .boolean)) ∈ q_tbl := q_of3 94 rfl (by decide +kernel)
set_option maxRecDepth 100000 in
theorem w_571 : (Cond.methodLink "NumberHouseLaw" (15 : Nat) ({ cls := "NumberHouse", name := "read", desc := "(III)Z" } : MethodName)) ∈ q_tbl := q_of3 91 rfl (by decide +kernel)
set_option maxRecDepth 100000 in
theorem w_572 : (Cond.instanceMethod ({ cls := "NumberHouse", name := "read", desc := "(III)Z" } : MethodName)) ∈ q_tbl := q_of3 92 rfl (by decide +kernel)
set_option maxRecDepth 100000 in
theorem w_573 : (Cond.selects "NumberHouse" ({ cls := "NumberHouse", name := "read", desc := "(III)Z" } : MethodName) ({ cls := "NumberHouse", name := "read", desc := "(III)Z" } : MethodName)) ∈ q_tbl := q_of3 93 rfl (by decide +kernel)
theorem LV_NL_15 : q_LV "NumberHouseLaw" 15 y_NH_read prog_1_method_4_code 5 (some .boolean) 3 := ⟨w_574, w_1, w_571, w_572, w_573, ⟨by decide, by decide, by decide +kernel⟩⟩
theorem d_4_7 : decode method_4_code 7 = .ok (.invokevirtual 15, 3) := by decide +kernel
theorem d_4_22 : decode method_4_code 22 = .ok (.astore 5, 2) := by decide +kernel
theorem d_4_24 : decode method_4_code 24 = .ok (.iconst 1, 1) := by decide +kernel
theorem d_4_25 : decode method_4_code 25 = .ok (.ireturn, 1) := by decide +kernel
set_option maxRecDepth 100000 in
theorem w_570 : (Cond.classLink "NumberHouseLaw" (19 : Nat) "java/lang/ArithmeticException") ∈ q_tbl := q_of3 90 rfl (by decide +kernel)
set_option maxRecDepth 100000 in
theorem wo_1069 : (Cond.castable "java/lang/ArithmeticException" "java/lang/ArithmeticException") ∈ q_odd := q_oo5 109 rfl (by decide +kernel)
theorem d_4_26 : decode method_4_code 26 = .ok (.astore 5, 2) := by decide +kernel
theorem d_4_28 : decode method_4_code 28 = .ok (.iconst 2, 1) := by decide +kernel
theorem d_4_29 : decode method_4_code 29 = .ok (.ireturn, 1) := by decide +kernel
theorem d_4_10 : decode method_4_code 10 = .ok (.ifCond .eq 7, 3) := by decide +kernel
theorem d_4_17 : decode method_4_code 17 = .ok (.lconst 0, 1) := by decide +kernel
theorem d_4_18 : decode method_4_code 18 = .ok (.lastore, 1) := by decide +kernel
theorem d_4_19 : decode method_4_code 19 = .ok (.goto 11, 3) := by decide +kernel
theorem d_4_30 : decode method_4_code 30 = .ok (.iconst 0, 1) := by decide +kernel
theorem d_4_31 : decode method_4_code 31 = .ok (.ireturn, 1) := by decide +kernel
theorem d_4_13 : decode method_4_code 13 = .ok (.lconst 1, 1) := by decide +kernel
theorem d_4_14 : decode method_4_code 14 = .ok (.goto 4, 3) := by decide +kernel
def y_NL_read : MethodName := ⟨"NumberHouseLaw", "read", "(LNumberHouse;III[J)I"⟩
set_option maxRecDepth 100000 in
set_option maxHeartbeats 4000000 in
theorem w_NL_read (l : Launch) (D : va_G) (g : Nat → ClassId) (q : Nat → Nat) (ws : va_W) (qo : Nat) (fo : Nat → Int64) (x2 : Int32) (x3 : Int32) (x4 : Int32) (hlt : l.stackTraces = false) (hI : q_I (nsh g q) q ws) (hC : iC g q ws) (hO : ws[169]? = (some (qo, .inl (g 1, 1, .inr (.inl fo))) : Option (Nat × va_E))) : ∀ sz, Met l y_NL_read (q_wW y_NL_read method_4_code 6 (some .int) [(0, 19, 22, 13), (0, 19, 26, 19)]) (q_rm 10 4 24) (q_P D g [.ref (q 0), .int x2, .int x3, .int x4, .ref qo] ws sz) (va_Qi (fun _ u => q_I (nsh g q) q u ∧ iC g q u ∧ (∃ f2 : Nat → Int64, u[169]? = (some (qo, .inl (g 1, 1, .inr (.inl f2))) : Option (Nat × va_E))) ∧ ∀ i, 116 ≤ i → i ≠ 169 → u[i]? = ws[i]?) (q_B D g (va_A ws sz)) (va_A ws sz)) 4 24 (va_A ws sz) := by
  intro sz
  refine q_intoW (by decide) (Nat.le_of_ble_eq_true rfl) ?_
  intro p e s m below meth c ls hsz C0 V ht hl
  have hx := C0.1
  have hb := C0.2.1
  have hl : lv_has ls 6 [(0, .ref (q 0)), (1, .int x2), (2, .int x3), (3, .int x4), (4, .ref qo)] := hl
  obtain ⟨E0, hP0, hE0⟩ := hI 0 _ (n_s0 g q)
  unfold k_0 at hE0
  subst hE0
  refine lv_aload hx hb d_4_0 (lv_at hl 4 rfl) ?_
  refine lv_iconst (v := 0) hx hb d_4_2 (by decide) ?_
  refine lv_aload_n hx hb d_4_3 rfl (lv_at hl 0 rfl) ?_
  refine lv_iload_n hx hb d_4_4 rfl (lv_at hl 1 rfl) ?_
  refine lv_iload_n hx hb d_4_5 rfl (lv_at hl 2 rfl) ?_
  refine lv_iload_n hx hb d_4_6 rfl (lv_at hl 3 rfl) ?_
  refine q_goxi V (q_runVX (As := [.int x2, .int x3, .int x4]) (rest := [.int 0, .ref qo]) (d := 9) (mc := 4) (ms := 24) (ci := 0) C0 V rfl LV_NL_15 (C_read l D g q ws x2 x3 x4 hlt hI hC _) rfl rfl hP0 rfl hl.1 rfl (Nat.le_of_ble_eq_true rfl) ⟨by decide, by decide⟩ ⟨Nat.le_of_ble_eq_true rfl, Nat.le_of_ble_eq_true rfl⟩ d_4_7) (fun qx Ex ce u1 H locs hp V hce hcv hcl => ?_) (fun rv u1 H locs hp V => ?_)
  ·
    obtain ⟨⟨cc, hE, hc⟩, hJ⟩ := hp
    have hO : u1[169]? = (some (qo, .inl (g 1, 1, .inr (.inl fo))) : Option (Nat × va_E)) := (hJ.2.2 169 (Nat.le_of_ble_eq_true rfl)).trans hO
    rcases hc with rfl | rfl
    ·
      obtain rfl : Ex = "java/lang/IllegalArgumentException" := hE.trans qE1.symm
      refine q_catch hce hcv hcl (fun pl hpl => q_hY C0 V rfl ht ⟨by decide, by decide⟩ (by decide) w_486 wo_496 hcl pl hpl) ?_
      refine lv_astore (lv' := [(5, .ref qx), (0, .ref (q 0)), (1, .int x2), (2, .int x3), (3, .int x4), (4, .ref qo)]) hx hb d_4_22 hl (by decide) rfl (fun ls hl => ?_)
      refine lv_iconst (v := 1) hx hb d_4_24 (by decide) ?_
      exact q_reti C0 V (⟨hJ.1, hJ.2.1, ⟨_, hO⟩, fun i h1 _ => hJ.2.2 i h1⟩) d_4_25
    ·
      obtain rfl : Ex = "java/lang/ArithmeticException" := hE.trans qE2.symm
      refine q_catch hce hcv hcl (fun pl hpl => q_hN C0 rfl ht ⟨by decide, by decide⟩ (by decide) w_486 (V.2.2.2.2.1.2.1.2.2.1) hcl pl hpl (fun t ht2 => q_hY C0 V rfl ht2 ⟨by decide, by decide⟩ (by decide) w_570 wo_1069 hcl pl hpl)) ?_
      refine lv_astore (lv' := [(5, .ref qx), (0, .ref (q 0)), (1, .int x2), (2, .int x3), (3, .int x4), (4, .ref qo)]) hx hb d_4_26 hl (by decide) rfl (fun ls hl => ?_)
      refine lv_iconst (v := 2) hx hb d_4_28 (by decide) ?_
      exact q_reti C0 V (⟨hJ.1, hJ.2.1, ⟨_, hO⟩, fun i h1 _ => hJ.2.2 i h1⟩) d_4_29
  ·
    have hJ := hp
    have hO : u1[169]? = (some (qo, .inl (g 1, 1, .inr (.inl fo))) : Option (Nat × va_E)) := (hJ.2.2 169 (Nat.le_of_ble_eq_true rfl)).trans hO
    refine lv_if_eq (tgt := 17) hx hb d_4_10 (by decide) (fun c1 => ?_) (fun c1 => ?_)
    ·
      refine lv_lconst (v := 0) hx hb d_4_17 (by decide) ?_
      refine q_last C0 V hO (by unfold vp_in; decide) d_4_18 (fun H locs w1 hu2 hO V => ?_)
      refine lv_goto (tgt := 30) hx hb d_4_19 (by decide) ?_
      refine lv_iconst (v := 0) hx hb d_4_30 (by decide) ?_
      exact q_reti C0 V (⟨w_nI hJ.1 hu2, w_nC hJ.2.1 hu2, ⟨_, hO⟩, fun i h1 h2 => (hu2 i h2).trans (hJ.2.2 i h1)⟩) d_4_31
    ·
      refine lv_lconst (v := 1) hx hb d_4_13 (by decide) ?_
      refine lv_goto (tgt := 18) hx hb d_4_14 (by decide) ?_
      refine q_last C0 V hO (by unfold vp_in; decide) d_4_18 (fun H locs w1 hu2 hO V => ?_)
      refine lv_goto (tgt := 30) hx hb d_4_19 (by decide) ?_
      refine lv_iconst (v := 0) hx hb d_4_30 (by decide) ?_
      exact q_reti C0 V (⟨w_nI hJ.1 hu2, w_nC hJ.2.1 hu2, ⟨_, hO⟩, fun i h1 h2 => (hu2 i h2).trans (hJ.2.2 i h1)⟩) d_4_31
theorem d_5_0 : decode method_5_code 0 = .ok (.aload_n 0, 1) := by decide +kernel
theorem d_5_1 : decode method_5_code 1 = .ok (.iload_n 1, 1) := by decide +kernel
theorem d_5_2 : decode method_5_code 2 = .ok (.iload_n 2, 1) := by decide +kernel
theorem d_5_3 : decode method_5_code 3 = .ok (.lload_n 3, 1) := by decide +kernel
set_option maxRecDepth 100000 in
theorem w_1102 : (Cond.code ({ cls := "NumberHouse", name := "put", desc := "(IIJ)V" } : MethodName) prog_1_method_5_code (5 : Nat) (none : Option ClassFile.FieldType)) ∈ q_tbl := q_of5 142 rfl (by decide +kernel)
set_option maxRecDepth 100000 in
theorem w_1099 : (Cond.methodLink "NumberHouseLaw" (21 : Nat) ({ cls := "NumberHouse", name := "put", desc := "(IIJ)V" } : MethodName)) ∈ q_tbl := q_of5 139 rfl (by decide +kernel)
set_option maxRecDepth 100000 in
theorem w_1100 : (Cond.instanceMethod ({ cls := "NumberHouse", name := "put", desc := "(IIJ)V" } : MethodName)) ∈ q_tbl := q_of5 140 rfl (by decide +kernel)
set_option maxRecDepth 100000 in
theorem w_1101 : (Cond.selects "NumberHouse" ({ cls := "NumberHouse", name := "put", desc := "(IIJ)V" } : MethodName) ({ cls := "NumberHouse", name := "put", desc := "(IIJ)V" } : MethodName)) ∈ q_tbl := q_of5 141 rfl (by decide +kernel)
theorem LV_NL_21 : q_LV "NumberHouseLaw" 21 y_NH_put prog_1_method_5_code 5 none 3 := ⟨w_1102, w_1, w_1099, w_1100, w_1101, ⟨by decide, by decide, by decide +kernel⟩⟩
theorem d_5_4 : decode method_5_code 4 = .ok (.invokevirtual 21, 3) := by decide +kernel
theorem d_5_10 : decode method_5_code 10 = .ok (.astore 5, 2) := by decide +kernel
theorem d_5_12 : decode method_5_code 12 = .ok (.iconst 1, 1) := by decide +kernel
theorem d_5_13 : decode method_5_code 13 = .ok (.ireturn, 1) := by decide +kernel
theorem d_5_7 : decode method_5_code 7 = .ok (.goto 7, 3) := by decide +kernel
theorem d_5_14 : decode method_5_code 14 = .ok (.iconst 0, 1) := by decide +kernel
theorem d_5_15 : decode method_5_code 15 = .ok (.ireturn, 1) := by decide +kernel
def y_NL_put : MethodName := ⟨"NumberHouseLaw", "put", "(LNumberHouse;IIJ)I"⟩
set_option maxRecDepth 100000 in
set_option maxHeartbeats 4000000 in
theorem w_NL_put (l : Launch) (D : va_G) (g : Nat → ClassId) (q : Nat → Nat) (ws : va_W) (x2 : Int32) (x3 : Int32) (x4 : Int64) (hlt : l.stackTraces = false) (hI : q_I (nsh g q) q ws) (hC : iC g q ws) : ∀ sz, Met l y_NL_put (q_wW y_NL_put method_5_code 6 (some .int) [(0, 7, 10, 13)]) (q_rm 10 2 12) (q_P D g [.ref (q 0), .int x2, .int x3, .long x4] ws sz) (va_Qi (fun k u => q_I (nsh g q) q u ∧ iC g q u ∧ (∀ i, 116 ≤ i → u[i]? = ws[i]?) ∧ k = kPut x2 x3 x4) (q_B D g (va_A ws sz)) (va_A ws sz)) 2 12 (va_A ws sz) := by
  intro sz
  refine q_intoW (by decide) (Nat.le_of_ble_eq_true rfl) ?_
  intro p e s m below meth c ls hsz C0 V ht hl
  have hx := C0.1
  have hb := C0.2.1
  have hl : lv_has ls 6 [(0, .ref (q 0)), (1, .int x2), (2, .int x3), (3, .long x4)] := hl
  obtain ⟨E0, hP0, hE0⟩ := hI 0 _ (n_s0 g q)
  unfold k_0 at hE0
  subst hE0
  refine lv_aload_n hx hb d_5_0 rfl (lv_at hl 0 rfl) ?_
  refine lv_iload_n hx hb d_5_1 rfl (lv_at hl 1 rfl) ?_
  refine lv_iload_n hx hb d_5_2 rfl (lv_at hl 2 rfl) ?_
  refine lv_lload_n hx hb d_5_3 rfl (lv_at hl 3 rfl) ?_
  refine q_goxv V (q_runVX (As := [.int x2, .int x3, .long x4]) (rest := []) (d := 9) (mc := 2) (ms := 12) (ci := 0) C0 V rfl LV_NL_21 (C_put l D g q ws x2 x3 x4 hlt hI hC _) rfl rfl hP0 rfl hl.1 rfl (Nat.le_of_ble_eq_true rfl) ⟨by decide, by decide⟩ ⟨Nat.le_of_ble_eq_true rfl, Nat.le_of_ble_eq_true rfl⟩ d_5_4) (fun qx Ex ce u1 H locs hp V hce hcv hcl => ?_) (fun u1 H locs hp V => ?_)
  ·
    obtain ⟨⟨cc, hE, hc⟩, hJ, hK⟩ := hp
    subst hc
    obtain rfl : Ex = "java/lang/IllegalArgumentException" := hE.trans qE1.symm
    refine q_catch hce hcv hcl (fun pl hpl => q_hY C0 V rfl ht ⟨by decide, by decide⟩ (by decide) w_486 wo_496 hcl pl hpl) ?_
    refine lv_astore (lv' := [(5, .ref qx), (0, .ref (q 0)), (1, .int x2), (2, .int x3), (3, .long x4)]) hx hb d_5_10 hl (by decide) rfl (fun ls hl => ?_)
    refine lv_iconst (v := 1) hx hb d_5_12 (by decide) ?_
    exact q_reti C0 V (⟨hJ.1, hJ.2.1, fun i h1 => hJ.2.2 i h1, hK.symm⟩) d_5_13
  ·
    obtain ⟨hJ, hK⟩ := hp
    refine lv_goto (tgt := 14) hx hb d_5_7 (by decide) ?_
    refine lv_iconst (v := 0) hx hb d_5_14 (by decide) ?_
    exact q_reti C0 V (⟨hJ.1, hJ.2.1, fun i h1 => hJ.2.2 i h1, hK.symm⟩) d_5_15
theorem d_6_0 : decode method_6_code 0 = .ok (.aload 4, 2) := by decide +kernel
theorem d_6_2 : decode method_6_code 2 = .ok (.iconst 0, 1) := by decide +kernel
theorem d_6_3 : decode method_6_code 3 = .ok (.aload_n 0, 1) := by decide +kernel
theorem d_6_4 : decode method_6_code 4 = .ok (.iload_n 1, 1) := by decide +kernel
theorem d_6_5 : decode method_6_code 5 = .ok (.iload_n 2, 1) := by decide +kernel
theorem d_6_6 : decode method_6_code 6 = .ok (.iload_n 3, 1) := by decide +kernel
set_option maxRecDepth 100000 in
theorem w_1110 : (Cond.code ({ cls := "NumberHouse", name := "told", desc := "(III)J" } : MethodName) prog_1_method_6_code (7 : Nat) (some .long)) ∈ q_tbl := q_of5 150 rfl (by decide +kernel)
set_option maxRecDepth 100000 in
theorem w_1107 : (Cond.methodLink "NumberHouseLaw" (25 : Nat) ({ cls := "NumberHouse", name := "told", desc := "(III)J" } : MethodName)) ∈ q_tbl := q_of5 147 rfl (by decide +kernel)
set_option maxRecDepth 100000 in
theorem w_1108 : (Cond.instanceMethod ({ cls := "NumberHouse", name := "told", desc := "(III)J" } : MethodName)) ∈ q_tbl := q_of5 148 rfl (by decide +kernel)
set_option maxRecDepth 100000 in
theorem w_1109 : (Cond.selects "NumberHouse" ({ cls := "NumberHouse", name := "told", desc := "(III)J" } : MethodName) ({ cls := "NumberHouse", name := "told", desc := "(III)J" } : MethodName)) ∈ q_tbl := q_of5 149 rfl (by decide +kernel)
theorem LV_NL_25 : q_LV "NumberHouseLaw" 25 y_NH_told prog_1_method_6_code 7 (some .long) 3 := ⟨w_1110, w_1, w_1107, w_1108, w_1109, ⟨by decide, by decide, by decide +kernel⟩⟩
theorem d_6_7 : decode method_6_code 7 = .ok (.invokevirtual 25, 3) := by decide +kernel
theorem d_6_14 : decode method_6_code 14 = .ok (.astore 5, 2) := by decide +kernel
theorem d_6_16 : decode method_6_code 16 = .ok (.iconst 1, 1) := by decide +kernel
theorem d_6_17 : decode method_6_code 17 = .ok (.ireturn, 1) := by decide +kernel
theorem d_6_18 : decode method_6_code 18 = .ok (.astore 5, 2) := by decide +kernel
theorem d_6_20 : decode method_6_code 20 = .ok (.iconst 2, 1) := by decide +kernel
theorem d_6_21 : decode method_6_code 21 = .ok (.ireturn, 1) := by decide +kernel
theorem d_6_10 : decode method_6_code 10 = .ok (.lastore, 1) := by decide +kernel
theorem d_6_11 : decode method_6_code 11 = .ok (.goto 11, 3) := by decide +kernel
theorem d_6_22 : decode method_6_code 22 = .ok (.iconst 0, 1) := by decide +kernel
theorem d_6_23 : decode method_6_code 23 = .ok (.ireturn, 1) := by decide +kernel
def y_NL_told : MethodName := ⟨"NumberHouseLaw", "told", "(LNumberHouse;III[J)I"⟩
set_option maxRecDepth 100000 in
set_option maxHeartbeats 4000000 in
theorem w_NL_told (l : Launch) (D : va_G) (g : Nat → ClassId) (q : Nat → Nat) (ws : va_W) (qo : Nat) (fo : Nat → Int64) (x2 : Int32) (x3 : Int32) (x4 : Int32) (hlt : l.stackTraces = false) (hI : q_I (nsh g q) q ws) (hC : iC g q ws) (hO : ws[169]? = (some (qo, .inl (g 1, 1, .inr (.inl fo))) : Option (Nat × va_E))) : ∀ sz, Met l y_NL_told (q_wW y_NL_told method_6_code 6 (some .int) [(0, 11, 14, 13), (0, 11, 18, 19)]) (q_rm 10 4 24) (q_P D g [.ref (q 0), .int x2, .int x3, .int x4, .ref qo] ws sz) (va_Qi (fun _ u => q_I (nsh g q) q u ∧ iC g q u ∧ (∃ f2 : Nat → Int64, u[169]? = (some (qo, .inl (g 1, 1, .inr (.inl f2))) : Option (Nat × va_E))) ∧ ∀ i, 116 ≤ i → i ≠ 169 → u[i]? = ws[i]?) (q_B D g (va_A ws sz)) (va_A ws sz)) 4 24 (va_A ws sz) := by
  intro sz
  refine q_intoW (by decide) (Nat.le_of_ble_eq_true rfl) ?_
  intro p e s m below meth c ls hsz C0 V ht hl
  have hx := C0.1
  have hb := C0.2.1
  have hl : lv_has ls 6 [(0, .ref (q 0)), (1, .int x2), (2, .int x3), (3, .int x4), (4, .ref qo)] := hl
  obtain ⟨E0, hP0, hE0⟩ := hI 0 _ (n_s0 g q)
  unfold k_0 at hE0
  subst hE0
  refine lv_aload hx hb d_6_0 (lv_at hl 4 rfl) ?_
  refine lv_iconst (v := 0) hx hb d_6_2 (by decide) ?_
  refine lv_aload_n hx hb d_6_3 rfl (lv_at hl 0 rfl) ?_
  refine lv_iload_n hx hb d_6_4 rfl (lv_at hl 1 rfl) ?_
  refine lv_iload_n hx hb d_6_5 rfl (lv_at hl 2 rfl) ?_
  refine lv_iload_n hx hb d_6_6 rfl (lv_at hl 3 rfl) ?_
  refine q_goxl V (q_runVX (As := [.int x2, .int x3, .int x4]) (rest := [.int 0, .ref qo]) (d := 9) (mc := 4) (ms := 24) (ci := 0) C0 V rfl LV_NL_25 (C_told l D g q ws x2 x3 x4 hlt hI hC _) rfl rfl hP0 rfl hl.1 rfl (Nat.le_of_ble_eq_true rfl) ⟨by decide, by decide⟩ ⟨Nat.le_of_ble_eq_true rfl, Nat.le_of_ble_eq_true rfl⟩ d_6_7) (fun qx Ex ce u1 H locs hp V hce hcv hcl => ?_) (fun rv u1 H locs hp V => ?_)
  ·
    obtain ⟨⟨cc, hE, hc⟩, hJ⟩ := hp
    have hO : u1[169]? = (some (qo, .inl (g 1, 1, .inr (.inl fo))) : Option (Nat × va_E)) := (hJ.2.2 169 (Nat.le_of_ble_eq_true rfl)).trans hO
    rcases hc with rfl | rfl
    ·
      obtain rfl : Ex = "java/lang/IllegalArgumentException" := hE.trans qE1.symm
      refine q_catch hce hcv hcl (fun pl hpl => q_hY C0 V rfl ht ⟨by decide, by decide⟩ (by decide) w_486 wo_496 hcl pl hpl) ?_
      refine lv_astore (lv' := [(5, .ref qx), (0, .ref (q 0)), (1, .int x2), (2, .int x3), (3, .int x4), (4, .ref qo)]) hx hb d_6_14 hl (by decide) rfl (fun ls hl => ?_)
      refine lv_iconst (v := 1) hx hb d_6_16 (by decide) ?_
      exact q_reti C0 V (⟨hJ.1, hJ.2.1, ⟨_, hO⟩, fun i h1 _ => hJ.2.2 i h1⟩) d_6_17
    ·
      obtain rfl : Ex = "java/lang/ArithmeticException" := hE.trans qE2.symm
      refine q_catch hce hcv hcl (fun pl hpl => q_hN C0 rfl ht ⟨by decide, by decide⟩ (by decide) w_486 (V.2.2.2.2.1.2.1.2.2.1) hcl pl hpl (fun t ht2 => q_hY C0 V rfl ht2 ⟨by decide, by decide⟩ (by decide) w_570 wo_1069 hcl pl hpl)) ?_
      refine lv_astore (lv' := [(5, .ref qx), (0, .ref (q 0)), (1, .int x2), (2, .int x3), (3, .int x4), (4, .ref qo)]) hx hb d_6_18 hl (by decide) rfl (fun ls hl => ?_)
      refine lv_iconst (v := 2) hx hb d_6_20 (by decide) ?_
      exact q_reti C0 V (⟨hJ.1, hJ.2.1, ⟨_, hO⟩, fun i h1 _ => hJ.2.2 i h1⟩) d_6_21
  ·
    have hJ := hp
    have hO : u1[169]? = (some (qo, .inl (g 1, 1, .inr (.inl fo))) : Option (Nat × va_E)) := (hJ.2.2 169 (Nat.le_of_ble_eq_true rfl)).trans hO
    refine q_last C0 V hO (by unfold vp_in; decide) d_6_10 (fun H locs w1 hu2 hO V => ?_)
    refine lv_goto (tgt := 22) hx hb d_6_11 (by decide) ?_
    refine lv_iconst (v := 0) hx hb d_6_22 (by decide) ?_
    exact q_reti C0 V (⟨w_nI hJ.1 hu2, w_nC hJ.2.1 hu2, ⟨_, hO⟩, fun i h1 h2 => (hu2 i h2).trans (hJ.2.2 i h1)⟩) d_6_23
theorem d_7_0 : decode method_7_code 0 = .ok (.aload 4, 2) := by decide +kernel
theorem d_7_2 : decode method_7_code 2 = .ok (.iconst 0, 1) := by decide +kernel
theorem d_7_3 : decode method_7_code 3 = .ok (.aload_n 0, 1) := by decide +kernel
theorem d_7_4 : decode method_7_code 4 = .ok (.iload_n 1, 1) := by decide +kernel
theorem d_7_5 : decode method_7_code 5 = .ok (.iload_n 2, 1) := by decide +kernel
theorem d_7_6 : decode method_7_code 6 = .ok (.iload_n 3, 1) := by decide +kernel
set_option maxRecDepth 100000 in
theorem w_1217 : (Cond.code ({ cls := "NumberHouse", name := "compare", desc := "(III)I" } : MethodName) prog_1_method_7_code (9 : Nat) (some .int)) ∈ q_tbl := q_of6 17 rfl (by decide +kernel)
set_option maxRecDepth 100000 in
theorem w_1214 : (Cond.methodLink "NumberHouseLaw" (29 : Nat) ({ cls := "NumberHouse", name := "compare", desc := "(III)I" } : MethodName)) ∈ q_tbl := q_of6 14 rfl (by decide +kernel)
set_option maxRecDepth 100000 in
theorem w_1215 : (Cond.instanceMethod ({ cls := "NumberHouse", name := "compare", desc := "(III)I" } : MethodName)) ∈ q_tbl := q_of6 15 rfl (by decide +kernel)
set_option maxRecDepth 100000 in
theorem w_1216 : (Cond.selects "NumberHouse" ({ cls := "NumberHouse", name := "compare", desc := "(III)I" } : MethodName) ({ cls := "NumberHouse", name := "compare", desc := "(III)I" } : MethodName)) ∈ q_tbl := q_of6 16 rfl (by decide +kernel)
theorem LV_NL_29 : q_LV "NumberHouseLaw" 29 y_NH_compare prog_1_method_7_code 9 (some .int) 3 := ⟨w_1217, w_1, w_1214, w_1215, w_1216, ⟨by decide, by decide, by decide +kernel⟩⟩
theorem d_7_7 : decode method_7_code 7 = .ok (.invokevirtual 29, 3) := by decide +kernel
theorem d_7_15 : decode method_7_code 15 = .ok (.astore 5, 2) := by decide +kernel
theorem d_7_17 : decode method_7_code 17 = .ok (.iconst 1, 1) := by decide +kernel
theorem d_7_18 : decode method_7_code 18 = .ok (.ireturn, 1) := by decide +kernel
theorem d_7_19 : decode method_7_code 19 = .ok (.astore 5, 2) := by decide +kernel
theorem d_7_21 : decode method_7_code 21 = .ok (.iconst 2, 1) := by decide +kernel
theorem d_7_22 : decode method_7_code 22 = .ok (.ireturn, 1) := by decide +kernel
theorem d_7_10 : decode method_7_code 10 = .ok (.i2l, 1) := by decide +kernel
theorem d_7_11 : decode method_7_code 11 = .ok (.lastore, 1) := by decide +kernel
theorem d_7_12 : decode method_7_code 12 = .ok (.goto 11, 3) := by decide +kernel
theorem d_7_23 : decode method_7_code 23 = .ok (.iconst 0, 1) := by decide +kernel
theorem d_7_24 : decode method_7_code 24 = .ok (.ireturn, 1) := by decide +kernel
def y_NL_compare : MethodName := ⟨"NumberHouseLaw", "compare", "(LNumberHouse;III[J)I"⟩
set_option maxRecDepth 100000 in
set_option maxHeartbeats 4000000 in
theorem w_NL_compare (l : Launch) (D : va_G) (g : Nat → ClassId) (q : Nat → Nat) (ws : va_W) (qo : Nat) (fo : Nat → Int64) (x2 : Int32) (x3 : Int32) (x4 : Int32) (hlt : l.stackTraces = false) (hI : q_I (nsh g q) q ws) (hC : iC g q ws) (hO : ws[169]? = (some (qo, .inl (g 1, 1, .inr (.inl fo))) : Option (Nat × va_E))) : ∀ sz, Met l y_NL_compare (q_wW y_NL_compare method_7_code 6 (some .int) [(0, 12, 15, 13), (0, 12, 19, 19)]) (q_rm 10 3 18) (q_P D g [.ref (q 0), .int x2, .int x3, .int x4, .ref qo] ws sz) (va_Qi (fun _ u => q_I (nsh g q) q u ∧ iC g q u ∧ (∃ f2 : Nat → Int64, u[169]? = (some (qo, .inl (g 1, 1, .inr (.inl f2))) : Option (Nat × va_E))) ∧ ∀ i, 116 ≤ i → i ≠ 169 → u[i]? = ws[i]?) (q_B D g (va_A ws sz)) (va_A ws sz)) 3 18 (va_A ws sz) := by
  intro sz
  refine q_intoW (by decide) (Nat.le_of_ble_eq_true rfl) ?_
  intro p e s m below meth c ls hsz C0 V ht hl
  have hx := C0.1
  have hb := C0.2.1
  have hl : lv_has ls 6 [(0, .ref (q 0)), (1, .int x2), (2, .int x3), (3, .int x4), (4, .ref qo)] := hl
  obtain ⟨E0, hP0, hE0⟩ := hI 0 _ (n_s0 g q)
  unfold k_0 at hE0
  subst hE0
  refine lv_aload hx hb d_7_0 (lv_at hl 4 rfl) ?_
  refine lv_iconst (v := 0) hx hb d_7_2 (by decide) ?_
  refine lv_aload_n hx hb d_7_3 rfl (lv_at hl 0 rfl) ?_
  refine lv_iload_n hx hb d_7_4 rfl (lv_at hl 1 rfl) ?_
  refine lv_iload_n hx hb d_7_5 rfl (lv_at hl 2 rfl) ?_
  refine lv_iload_n hx hb d_7_6 rfl (lv_at hl 3 rfl) ?_
  refine q_goxi V (q_runVX (As := [.int x2, .int x3, .int x4]) (rest := [.int 0, .ref qo]) (d := 9) (mc := 3) (ms := 18) (ci := 0) C0 V rfl LV_NL_29 (C_compare l D g q ws x2 x3 x4 hlt hI hC _) rfl rfl hP0 rfl hl.1 rfl (Nat.le_of_ble_eq_true rfl) ⟨by decide, by decide⟩ ⟨Nat.le_of_ble_eq_true rfl, Nat.le_of_ble_eq_true rfl⟩ d_7_7) (fun qx Ex ce u1 H locs hp V hce hcv hcl => ?_) (fun rv u1 H locs hp V => ?_)
  ·
    obtain ⟨⟨cc, hE, hc⟩, hJ⟩ := hp
    have hO : u1[169]? = (some (qo, .inl (g 1, 1, .inr (.inl fo))) : Option (Nat × va_E)) := (hJ.2.2 169 (Nat.le_of_ble_eq_true rfl)).trans hO
    rcases hc with rfl | rfl
    ·
      obtain rfl : Ex = "java/lang/IllegalArgumentException" := hE.trans qE1.symm
      refine q_catch hce hcv hcl (fun pl hpl => q_hY C0 V rfl ht ⟨by decide, by decide⟩ (by decide) w_486 wo_496 hcl pl hpl) ?_
      refine lv_astore (lv' := [(5, .ref qx), (0, .ref (q 0)), (1, .int x2), (2, .int x3), (3, .int x4), (4, .ref qo)]) hx hb d_7_15 hl (by decide) rfl (fun ls hl => ?_)
      refine lv_iconst (v := 1) hx hb d_7_17 (by decide) ?_
      exact q_reti C0 V (⟨hJ.1, hJ.2.1, ⟨_, hO⟩, fun i h1 _ => hJ.2.2 i h1⟩) d_7_18
    ·
      obtain rfl : Ex = "java/lang/ArithmeticException" := hE.trans qE2.symm
      refine q_catch hce hcv hcl (fun pl hpl => q_hN C0 rfl ht ⟨by decide, by decide⟩ (by decide) w_486 (V.2.2.2.2.1.2.1.2.2.1) hcl pl hpl (fun t ht2 => q_hY C0 V rfl ht2 ⟨by decide, by decide⟩ (by decide) w_570 wo_1069 hcl pl hpl)) ?_
      refine lv_astore (lv' := [(5, .ref qx), (0, .ref (q 0)), (1, .int x2), (2, .int x3), (3, .int x4), (4, .ref qo)]) hx hb d_7_19 hl (by decide) rfl (fun ls hl => ?_)
      refine lv_iconst (v := 2) hx hb d_7_21 (by decide) ?_
      exact q_reti C0 V (⟨hJ.1, hJ.2.1, ⟨_, hO⟩, fun i h1 _ => hJ.2.2 i h1⟩) d_7_22
  ·
    have hJ := hp
    have hO : u1[169]? = (some (qo, .inl (g 1, 1, .inr (.inl fo))) : Option (Nat × va_E)) := (hJ.2.2 169 (Nat.le_of_ble_eq_true rfl)).trans hO
    refine lv_i2l hx hb d_7_10 rfl ?_
    refine q_last C0 V hO (by unfold vp_in; decide) d_7_11 (fun H locs w1 hu2 hO V => ?_)
    refine lv_goto (tgt := 23) hx hb d_7_12 (by decide) ?_
    refine lv_iconst (v := 0) hx hb d_7_23 (by decide) ?_
    exact q_reti C0 V (⟨w_nI hJ.1 hu2, w_nC hJ.2.1 hu2, ⟨_, hO⟩, fun i h1 h2 => (hu2 i h2).trans (hJ.2.2 i h1)⟩) d_7_24
theorem d_8_0 : decode method_8_code 0 = .ok (.aload_n 0, 1) := by decide +kernel
theorem d_8_1 : decode method_8_code 1 = .ok (.iload_n 1, 1) := by decide +kernel
theorem d_8_2 : decode method_8_code 2 = .ok (.iload_n 2, 1) := by decide +kernel
theorem d_8_3 : decode method_8_code 3 = .ok (.iload_n 3, 1) := by decide +kernel
theorem d_8_4 : decode method_8_code 4 = .ok (.iload 4, 2) := by decide +kernel
set_option maxRecDepth 100000 in
theorem w_1254 : (Cond.code ({ cls := "NumberHouse", name := "whole", desc := "(IIII)V" } : MethodName) prog_1_method_8_code (7 : Nat) (none : Option ClassFile.FieldType)) ∈ q_tbl := q_of6 54 rfl (by decide +kernel)
set_option maxRecDepth 100000 in
theorem w_1251 : (Cond.methodLink "NumberHouseLaw" (33 : Nat) ({ cls := "NumberHouse", name := "whole", desc := "(IIII)V" } : MethodName)) ∈ q_tbl := q_of6 51 rfl (by decide +kernel)
set_option maxRecDepth 100000 in
theorem w_1252 : (Cond.instanceMethod ({ cls := "NumberHouse", name := "whole", desc := "(IIII)V" } : MethodName)) ∈ q_tbl := q_of6 52 rfl (by decide +kernel)
set_option maxRecDepth 100000 in
theorem w_1253 : (Cond.selects "NumberHouse" ({ cls := "NumberHouse", name := "whole", desc := "(IIII)V" } : MethodName) ({ cls := "NumberHouse", name := "whole", desc := "(IIII)V" } : MethodName)) ∈ q_tbl := q_of6 53 rfl (by decide +kernel)
theorem LV_NL_33 : q_LV "NumberHouseLaw" 33 y_NH_whole prog_1_method_8_code 7 none 4 := ⟨w_1254, w_1, w_1251, w_1252, w_1253, ⟨by decide, by decide, by decide +kernel⟩⟩
theorem d_8_6 : decode method_8_code 6 = .ok (.invokevirtual 33, 3) := by decide +kernel
theorem d_8_12 : decode method_8_code 12 = .ok (.astore 5, 2) := by decide +kernel
theorem d_8_14 : decode method_8_code 14 = .ok (.iconst 1, 1) := by decide +kernel
theorem d_8_15 : decode method_8_code 15 = .ok (.ireturn, 1) := by decide +kernel
theorem d_8_16 : decode method_8_code 16 = .ok (.astore 5, 2) := by decide +kernel
theorem d_8_18 : decode method_8_code 18 = .ok (.iconst 2, 1) := by decide +kernel
theorem d_8_19 : decode method_8_code 19 = .ok (.ireturn, 1) := by decide +kernel
theorem d_8_9 : decode method_8_code 9 = .ok (.goto 11, 3) := by decide +kernel
theorem d_8_20 : decode method_8_code 20 = .ok (.iconst 0, 1) := by decide +kernel
theorem d_8_21 : decode method_8_code 21 = .ok (.ireturn, 1) := by decide +kernel
def y_NL_whole : MethodName := ⟨"NumberHouseLaw", "whole", "(LNumberHouse;IIII)I"⟩
set_option maxRecDepth 100000 in
set_option maxHeartbeats 4000000 in
theorem w_NL_whole (l : Launch) (D : va_G) (g : Nat → ClassId) (q : Nat → Nat) (ws : va_W) (x2 : Int32) (x3 : Int32) (x4 : Int32) (x5 : Int32) (hlt : l.stackTraces = false) (hI : q_I (nsh g q) q ws) (hC : iC g q ws) : ∀ sz, Met l y_NL_whole (q_wW y_NL_whole method_8_code 6 (some .int) [(0, 9, 12, 13), (0, 9, 16, 19)]) (q_rm 10 4 24) (q_P D g [.ref (q 0), .int x2, .int x3, .int x4, .int x5] ws sz) (va_Qi (fun _ u => q_I (nsh g q) q u ∧ iC g q u ∧ (∀ i, 116 ≤ i → u[i]? = ws[i]?)) (q_B D g (va_A ws sz)) (va_A ws sz)) 4 24 (va_A ws sz) := by
  intro sz
  refine q_intoW (by decide) (Nat.le_of_ble_eq_true rfl) ?_
  intro p e s m below meth c ls hsz C0 V ht hl
  have hx := C0.1
  have hb := C0.2.1
  have hl : lv_has ls 6 [(0, .ref (q 0)), (1, .int x2), (2, .int x3), (3, .int x4), (4, .int x5)] := hl
  obtain ⟨E0, hP0, hE0⟩ := hI 0 _ (n_s0 g q)
  unfold k_0 at hE0
  subst hE0
  refine lv_aload_n hx hb d_8_0 rfl (lv_at hl 0 rfl) ?_
  refine lv_iload_n hx hb d_8_1 rfl (lv_at hl 1 rfl) ?_
  refine lv_iload_n hx hb d_8_2 rfl (lv_at hl 2 rfl) ?_
  refine lv_iload_n hx hb d_8_3 rfl (lv_at hl 3 rfl) ?_
  refine lv_iload hx hb d_8_4 (lv_at hl 4 rfl) ?_
  refine q_goxv V (q_runVX (As := [.int x2, .int x3, .int x4, .int x5]) (rest := []) (d := 9) (mc := 4) (ms := 24) (ci := 0) C0 V rfl LV_NL_33 (C_whole l D g q ws x2 x3 x4 x5 hlt hI hC _) rfl rfl hP0 rfl hl.1 rfl (Nat.le_of_ble_eq_true rfl) ⟨by decide, by decide⟩ ⟨Nat.le_of_ble_eq_true rfl, Nat.le_of_ble_eq_true rfl⟩ d_8_6) (fun qx Ex ce u1 H locs hp V hce hcv hcl => ?_) (fun u1 H locs hp V => ?_)
  ·
    obtain ⟨⟨cc, hE, hc⟩, hJ⟩ := hp
    rcases hc with rfl | rfl
    ·
      obtain rfl : Ex = "java/lang/IllegalArgumentException" := hE.trans qE1.symm
      refine q_catch hce hcv hcl (fun pl hpl => q_hY C0 V rfl ht ⟨by decide, by decide⟩ (by decide) w_486 wo_496 hcl pl hpl) ?_
      refine lv_astore (lv' := [(5, .ref qx), (0, .ref (q 0)), (1, .int x2), (2, .int x3), (3, .int x4), (4, .int x5)]) hx hb d_8_12 hl (by decide) rfl (fun ls hl => ?_)
      refine lv_iconst (v := 1) hx hb d_8_14 (by decide) ?_
      exact q_reti C0 V (⟨hJ.1, hJ.2.1, fun i h1 => hJ.2.2 i h1⟩) d_8_15
    ·
      obtain rfl : Ex = "java/lang/ArithmeticException" := hE.trans qE2.symm
      refine q_catch hce hcv hcl (fun pl hpl => q_hN C0 rfl ht ⟨by decide, by decide⟩ (by decide) w_486 (V.2.2.2.2.1.2.1.2.2.1) hcl pl hpl (fun t ht2 => q_hY C0 V rfl ht2 ⟨by decide, by decide⟩ (by decide) w_570 wo_1069 hcl pl hpl)) ?_
      refine lv_astore (lv' := [(5, .ref qx), (0, .ref (q 0)), (1, .int x2), (2, .int x3), (3, .int x4), (4, .int x5)]) hx hb d_8_16 hl (by decide) rfl (fun ls hl => ?_)
      refine lv_iconst (v := 2) hx hb d_8_18 (by decide) ?_
      exact q_reti C0 V (⟨hJ.1, hJ.2.1, fun i h1 => hJ.2.2 i h1⟩) d_8_19
  ·
    have hJ := hp
    refine lv_goto (tgt := 20) hx hb d_8_9 (by decide) ?_
    refine lv_iconst (v := 0) hx hb d_8_20 (by decide) ?_
    exact q_reti C0 V (⟨hJ.1, hJ.2.1, fun i h1 => hJ.2.2 i h1⟩) d_8_21
theorem d_9_0 : decode method_9_code 0 = .ok (.aload_n 0, 1) := by decide +kernel
theorem d_9_1 : decode method_9_code 1 = .ok (.iload_n 1, 1) := by decide +kernel
theorem d_9_2 : decode method_9_code 2 = .ok (.iload_n 2, 1) := by decide +kernel
theorem d_9_3 : decode method_9_code 3 = .ok (.iload_n 3, 1) := by decide +kernel
theorem d_9_4 : decode method_9_code 4 = .ok (.iload 4, 2) := by decide +kernel
set_option maxRecDepth 100000 in
theorem w_1327 : (Cond.code ({ cls := "NumberHouse", name := "wholeBy", desc := "(IIII)V" } : MethodName) prog_1_method_9_code (6 : Nat) (none : Option ClassFile.FieldType)) ∈ q_tbl := q_of6 127 rfl (by decide +kernel)
set_option maxRecDepth 100000 in
theorem w_1324 : (Cond.methodLink "NumberHouseLaw" (37 : Nat) ({ cls := "NumberHouse", name := "wholeBy", desc := "(IIII)V" } : MethodName)) ∈ q_tbl := q_of6 124 rfl (by decide +kernel)
set_option maxRecDepth 100000 in
theorem w_1325 : (Cond.instanceMethod ({ cls := "NumberHouse", name := "wholeBy", desc := "(IIII)V" } : MethodName)) ∈ q_tbl := q_of6 125 rfl (by decide +kernel)
set_option maxRecDepth 100000 in
theorem w_1326 : (Cond.selects "NumberHouse" ({ cls := "NumberHouse", name := "wholeBy", desc := "(IIII)V" } : MethodName) ({ cls := "NumberHouse", name := "wholeBy", desc := "(IIII)V" } : MethodName)) ∈ q_tbl := q_of6 126 rfl (by decide +kernel)
theorem LV_NL_37 : q_LV "NumberHouseLaw" 37 y_NH_wholeBy prog_1_method_9_code 6 none 4 := ⟨w_1327, w_1, w_1324, w_1325, w_1326, ⟨by decide, by decide, by decide +kernel⟩⟩
theorem d_9_6 : decode method_9_code 6 = .ok (.invokevirtual 37, 3) := by decide +kernel
theorem d_9_12 : decode method_9_code 12 = .ok (.astore 5, 2) := by decide +kernel
theorem d_9_14 : decode method_9_code 14 = .ok (.iconst 1, 1) := by decide +kernel
theorem d_9_15 : decode method_9_code 15 = .ok (.ireturn, 1) := by decide +kernel
theorem d_9_16 : decode method_9_code 16 = .ok (.astore 5, 2) := by decide +kernel
theorem d_9_18 : decode method_9_code 18 = .ok (.iconst 2, 1) := by decide +kernel
theorem d_9_19 : decode method_9_code 19 = .ok (.ireturn, 1) := by decide +kernel
theorem d_9_9 : decode method_9_code 9 = .ok (.goto 11, 3) := by decide +kernel
theorem d_9_20 : decode method_9_code 20 = .ok (.iconst 0, 1) := by decide +kernel
theorem d_9_21 : decode method_9_code 21 = .ok (.ireturn, 1) := by decide +kernel
def y_NL_wholeBy : MethodName := ⟨"NumberHouseLaw", "wholeBy", "(LNumberHouse;IIII)I"⟩
set_option maxRecDepth 100000 in
set_option maxHeartbeats 4000000 in
theorem w_NL_wholeBy (l : Launch) (D : va_G) (g : Nat → ClassId) (q : Nat → Nat) (ws : va_W) (x2 : Int32) (x3 : Int32) (x4 : Int32) (x5 : Int32) (hlt : l.stackTraces = false) (hI : q_I (nsh g q) q ws) (hC : iC g q ws) : ∀ sz, Met l y_NL_wholeBy (q_wW y_NL_wholeBy method_9_code 6 (some .int) [(0, 9, 12, 13), (0, 9, 16, 19)]) (q_rm 10 5 30) (q_P D g [.ref (q 0), .int x2, .int x3, .int x4, .int x5] ws sz) (va_Qi (fun _ u => q_I (nsh g q) q u ∧ iC g q u ∧ (∀ i, 116 ≤ i → u[i]? = ws[i]?)) (q_B D g (va_A ws sz)) (va_A ws sz)) 5 30 (va_A ws sz) := by
  intro sz
  refine q_intoW (by decide) (Nat.le_of_ble_eq_true rfl) ?_
  intro p e s m below meth c ls hsz C0 V ht hl
  have hx := C0.1
  have hb := C0.2.1
  have hl : lv_has ls 6 [(0, .ref (q 0)), (1, .int x2), (2, .int x3), (3, .int x4), (4, .int x5)] := hl
  obtain ⟨E0, hP0, hE0⟩ := hI 0 _ (n_s0 g q)
  unfold k_0 at hE0
  subst hE0
  refine lv_aload_n hx hb d_9_0 rfl (lv_at hl 0 rfl) ?_
  refine lv_iload_n hx hb d_9_1 rfl (lv_at hl 1 rfl) ?_
  refine lv_iload_n hx hb d_9_2 rfl (lv_at hl 2 rfl) ?_
  refine lv_iload_n hx hb d_9_3 rfl (lv_at hl 3 rfl) ?_
  refine lv_iload hx hb d_9_4 (lv_at hl 4 rfl) ?_
  refine q_goxv V (q_runVX (As := [.int x2, .int x3, .int x4, .int x5]) (rest := []) (d := 9) (mc := 5) (ms := 30) (ci := 0) C0 V rfl LV_NL_37 (C_wholeBy l D g q ws x2 x3 x4 x5 hlt hI hC _) rfl rfl hP0 rfl hl.1 rfl (Nat.le_of_ble_eq_true rfl) ⟨by decide, by decide⟩ ⟨Nat.le_of_ble_eq_true rfl, Nat.le_of_ble_eq_true rfl⟩ d_9_6) (fun qx Ex ce u1 H locs hp V hce hcv hcl => ?_) (fun u1 H locs hp V => ?_)
  ·
    obtain ⟨⟨cc, hE, hc⟩, hJ⟩ := hp
    rcases hc with rfl | rfl
    ·
      obtain rfl : Ex = "java/lang/IllegalArgumentException" := hE.trans qE1.symm
      refine q_catch hce hcv hcl (fun pl hpl => q_hY C0 V rfl ht ⟨by decide, by decide⟩ (by decide) w_486 wo_496 hcl pl hpl) ?_
      refine lv_astore (lv' := [(5, .ref qx), (0, .ref (q 0)), (1, .int x2), (2, .int x3), (3, .int x4), (4, .int x5)]) hx hb d_9_12 hl (by decide) rfl (fun ls hl => ?_)
      refine lv_iconst (v := 1) hx hb d_9_14 (by decide) ?_
      exact q_reti C0 V (⟨hJ.1, hJ.2.1, fun i h1 => hJ.2.2 i h1⟩) d_9_15
    ·
      obtain rfl : Ex = "java/lang/ArithmeticException" := hE.trans qE2.symm
      refine q_catch hce hcv hcl (fun pl hpl => q_hN C0 rfl ht ⟨by decide, by decide⟩ (by decide) w_486 (V.2.2.2.2.1.2.1.2.2.1) hcl pl hpl (fun t ht2 => q_hY C0 V rfl ht2 ⟨by decide, by decide⟩ (by decide) w_570 wo_1069 hcl pl hpl)) ?_
      refine lv_astore (lv' := [(5, .ref qx), (0, .ref (q 0)), (1, .int x2), (2, .int x3), (3, .int x4), (4, .int x5)]) hx hb d_9_16 hl (by decide) rfl (fun ls hl => ?_)
      refine lv_iconst (v := 2) hx hb d_9_18 (by decide) ?_
      exact q_reti C0 V (⟨hJ.1, hJ.2.1, fun i h1 => hJ.2.2 i h1⟩) d_9_19
  ·
    have hJ := hp
    refine lv_goto (tgt := 20) hx hb d_9_9 (by decide) ?_
    refine lv_iconst (v := 0) hx hb d_9_20 (by decide) ?_
    exact q_reti C0 V (⟨hJ.1, hJ.2.1, fun i h1 => hJ.2.2 i h1⟩) d_9_21
theorem d_10_0 : decode method_10_code 0 = .ok (.aload_n 0, 1) := by decide +kernel
theorem d_10_1 : decode method_10_code 1 = .ok (.iload_n 1, 1) := by decide +kernel
theorem d_10_2 : decode method_10_code 2 = .ok (.iload_n 2, 1) := by decide +kernel
theorem d_10_3 : decode method_10_code 3 = .ok (.iload_n 3, 1) := by decide +kernel
theorem d_10_4 : decode method_10_code 4 = .ok (.iload 4, 2) := by decide +kernel
set_option maxRecDepth 100000 in
theorem w_1353 : (Cond.code ({ cls := "NumberHouse", name := "powerModulo", desc := "(IIII)V" } : MethodName) prog_1_method_10_code (5 : Nat) (none : Option ClassFile.FieldType)) ∈ q_tbl := q_of6 153 rfl (by decide +kernel)
set_option maxRecDepth 100000 in
theorem w_1350 : (Cond.methodLink "NumberHouseLaw" (40 : Nat) ({ cls := "NumberHouse", name := "powerModulo", desc := "(IIII)V" } : MethodName)) ∈ q_tbl := q_of6 150 rfl (by decide +kernel)
set_option maxRecDepth 100000 in
theorem w_1351 : (Cond.instanceMethod ({ cls := "NumberHouse", name := "powerModulo", desc := "(IIII)V" } : MethodName)) ∈ q_tbl := q_of6 151 rfl (by decide +kernel)
set_option maxRecDepth 100000 in
theorem w_1352 : (Cond.selects "NumberHouse" ({ cls := "NumberHouse", name := "powerModulo", desc := "(IIII)V" } : MethodName) ({ cls := "NumberHouse", name := "powerModulo", desc := "(IIII)V" } : MethodName)) ∈ q_tbl := q_of6 152 rfl (by decide +kernel)
theorem LV_NL_40 : q_LV "NumberHouseLaw" 40 y_NH_powerModulo prog_1_method_10_code 5 none 4 := ⟨w_1353, w_1, w_1350, w_1351, w_1352, ⟨by decide, by decide, by decide +kernel⟩⟩
theorem d_10_6 : decode method_10_code 6 = .ok (.invokevirtual 40, 3) := by decide +kernel
theorem d_10_12 : decode method_10_code 12 = .ok (.astore 5, 2) := by decide +kernel
theorem d_10_14 : decode method_10_code 14 = .ok (.iconst 1, 1) := by decide +kernel
theorem d_10_15 : decode method_10_code 15 = .ok (.ireturn, 1) := by decide +kernel
theorem d_10_16 : decode method_10_code 16 = .ok (.astore 5, 2) := by decide +kernel
theorem d_10_18 : decode method_10_code 18 = .ok (.iconst 2, 1) := by decide +kernel
theorem d_10_19 : decode method_10_code 19 = .ok (.ireturn, 1) := by decide +kernel
theorem d_10_9 : decode method_10_code 9 = .ok (.goto 11, 3) := by decide +kernel
theorem d_10_20 : decode method_10_code 20 = .ok (.iconst 0, 1) := by decide +kernel
theorem d_10_21 : decode method_10_code 21 = .ok (.ireturn, 1) := by decide +kernel
def y_NL_powerModulo : MethodName := ⟨"NumberHouseLaw", "powerModulo", "(LNumberHouse;IIII)I"⟩
set_option maxRecDepth 100000 in
set_option maxHeartbeats 4000000 in
theorem w_NL_powerModulo (l : Launch) (D : va_G) (g : Nat → ClassId) (q : Nat → Nat) (ws : va_W) (x2 : Int32) (x3 : Int32) (x4 : Int32) (x5 : Int32) (hlt : l.stackTraces = false) (hI : q_I (nsh g q) q ws) (hC : iC g q ws) : ∀ sz, Met l y_NL_powerModulo (q_wW y_NL_powerModulo method_10_code 6 (some .int) [(0, 9, 12, 13), (0, 9, 16, 19)]) (q_rm 10 4 24) (q_P D g [.ref (q 0), .int x2, .int x3, .int x4, .int x5] ws sz) (va_Qi (fun _ u => q_I (nsh g q) q u ∧ iC g q u ∧ (∀ i, 116 ≤ i → u[i]? = ws[i]?)) (q_B D g (va_A ws sz)) (va_A ws sz)) 4 24 (va_A ws sz) := by
  intro sz
  refine q_intoW (by decide) (Nat.le_of_ble_eq_true rfl) ?_
  intro p e s m below meth c ls hsz C0 V ht hl
  have hx := C0.1
  have hb := C0.2.1
  have hl : lv_has ls 6 [(0, .ref (q 0)), (1, .int x2), (2, .int x3), (3, .int x4), (4, .int x5)] := hl
  obtain ⟨E0, hP0, hE0⟩ := hI 0 _ (n_s0 g q)
  unfold k_0 at hE0
  subst hE0
  refine lv_aload_n hx hb d_10_0 rfl (lv_at hl 0 rfl) ?_
  refine lv_iload_n hx hb d_10_1 rfl (lv_at hl 1 rfl) ?_
  refine lv_iload_n hx hb d_10_2 rfl (lv_at hl 2 rfl) ?_
  refine lv_iload_n hx hb d_10_3 rfl (lv_at hl 3 rfl) ?_
  refine lv_iload hx hb d_10_4 (lv_at hl 4 rfl) ?_
  refine q_goxv V (q_runVX (As := [.int x2, .int x3, .int x4, .int x5]) (rest := []) (d := 9) (mc := 4) (ms := 24) (ci := 0) C0 V rfl LV_NL_40 (C_powerModulo l D g q ws x2 x3 x4 x5 hlt hI hC _) rfl rfl hP0 rfl hl.1 rfl (Nat.le_of_ble_eq_true rfl) ⟨by decide, by decide⟩ ⟨Nat.le_of_ble_eq_true rfl, Nat.le_of_ble_eq_true rfl⟩ d_10_6) (fun qx Ex ce u1 H locs hp V hce hcv hcl => ?_) (fun u1 H locs hp V => ?_)
  ·
    obtain ⟨⟨cc, hE, hc⟩, hJ⟩ := hp
    rcases hc with rfl | rfl
    ·
      obtain rfl : Ex = "java/lang/IllegalArgumentException" := hE.trans qE1.symm
      refine q_catch hce hcv hcl (fun pl hpl => q_hY C0 V rfl ht ⟨by decide, by decide⟩ (by decide) w_486 wo_496 hcl pl hpl) ?_
      refine lv_astore (lv' := [(5, .ref qx), (0, .ref (q 0)), (1, .int x2), (2, .int x3), (3, .int x4), (4, .int x5)]) hx hb d_10_12 hl (by decide) rfl (fun ls hl => ?_)
      refine lv_iconst (v := 1) hx hb d_10_14 (by decide) ?_
      exact q_reti C0 V (⟨hJ.1, hJ.2.1, fun i h1 => hJ.2.2 i h1⟩) d_10_15
    ·
      obtain rfl : Ex = "java/lang/ArithmeticException" := hE.trans qE2.symm
      refine q_catch hce hcv hcl (fun pl hpl => q_hN C0 rfl ht ⟨by decide, by decide⟩ (by decide) w_486 (V.2.2.2.2.1.2.1.2.2.1) hcl pl hpl (fun t ht2 => q_hY C0 V rfl ht2 ⟨by decide, by decide⟩ (by decide) w_570 wo_1069 hcl pl hpl)) ?_
      refine lv_astore (lv' := [(5, .ref qx), (0, .ref (q 0)), (1, .int x2), (2, .int x3), (3, .int x4), (4, .int x5)]) hx hb d_10_16 hl (by decide) rfl (fun ls hl => ?_)
      refine lv_iconst (v := 2) hx hb d_10_18 (by decide) ?_
      exact q_reti C0 V (⟨hJ.1, hJ.2.1, fun i h1 => hJ.2.2 i h1⟩) d_10_19
  ·
    have hJ := hp
    refine lv_goto (tgt := 20) hx hb d_10_9 (by decide) ?_
    refine lv_iconst (v := 0) hx hb d_10_20 (by decide) ?_
    exact q_reti C0 V (⟨hJ.1, hJ.2.1, fun i h1 => hJ.2.2 i h1⟩) d_10_21
theorem d_11_0 : decode method_11_code 0 = .ok (.aload_n 0, 1) := by decide +kernel
theorem d_11_1 : decode method_11_code 1 = .ok (.iload_n 1, 1) := by decide +kernel
theorem d_11_2 : decode method_11_code 2 = .ok (.iload_n 2, 1) := by decide +kernel
theorem d_11_3 : decode method_11_code 3 = .ok (.iload_n 3, 1) := by decide +kernel
theorem d_11_4 : decode method_11_code 4 = .ok (.iload 4, 2) := by decide +kernel
set_option maxRecDepth 100000 in
theorem w_1365 : (Cond.code ({ cls := "NumberHouse", name := "decimal", desc := "(IIII)V" } : MethodName) prog_1_method_11_code (7 : Nat) (none : Option ClassFile.FieldType)) ∈ q_tbl := q_of6 165 rfl (by decide +kernel)
set_option maxRecDepth 100000 in
theorem w_1362 : (Cond.methodLink "NumberHouseLaw" (43 : Nat) ({ cls := "NumberHouse", name := "decimal", desc := "(IIII)V" } : MethodName)) ∈ q_tbl := q_of6 162 rfl (by decide +kernel)
set_option maxRecDepth 100000 in
theorem w_1363 : (Cond.instanceMethod ({ cls := "NumberHouse", name := "decimal", desc := "(IIII)V" } : MethodName)) ∈ q_tbl := q_of6 163 rfl (by decide +kernel)
set_option maxRecDepth 100000 in
theorem w_1364 : (Cond.selects "NumberHouse" ({ cls := "NumberHouse", name := "decimal", desc := "(IIII)V" } : MethodName) ({ cls := "NumberHouse", name := "decimal", desc := "(IIII)V" } : MethodName)) ∈ q_tbl := q_of6 164 rfl (by decide +kernel)
theorem LV_NL_43 : q_LV "NumberHouseLaw" 43 y_NH_decimal prog_1_method_11_code 7 none 4 := ⟨w_1365, w_1, w_1362, w_1363, w_1364, ⟨by decide, by decide, by decide +kernel⟩⟩
theorem d_11_6 : decode method_11_code 6 = .ok (.invokevirtual 43, 3) := by decide +kernel
theorem d_11_12 : decode method_11_code 12 = .ok (.astore 5, 2) := by decide +kernel
theorem d_11_14 : decode method_11_code 14 = .ok (.iconst 1, 1) := by decide +kernel
theorem d_11_15 : decode method_11_code 15 = .ok (.ireturn, 1) := by decide +kernel
theorem d_11_16 : decode method_11_code 16 = .ok (.astore 5, 2) := by decide +kernel
theorem d_11_18 : decode method_11_code 18 = .ok (.iconst 2, 1) := by decide +kernel
theorem d_11_19 : decode method_11_code 19 = .ok (.ireturn, 1) := by decide +kernel
theorem d_11_9 : decode method_11_code 9 = .ok (.goto 11, 3) := by decide +kernel
theorem d_11_20 : decode method_11_code 20 = .ok (.iconst 0, 1) := by decide +kernel
theorem d_11_21 : decode method_11_code 21 = .ok (.ireturn, 1) := by decide +kernel
def y_NL_decimal : MethodName := ⟨"NumberHouseLaw", "decimal", "(LNumberHouse;IIII)I"⟩
set_option maxRecDepth 100000 in
set_option maxHeartbeats 4000000 in
theorem w_NL_decimal (l : Launch) (D : va_G) (g : Nat → ClassId) (q : Nat → Nat) (ws : va_W) (x2 : Int32) (x3 : Int32) (x4 : Int32) (x5 : Int32) (hlt : l.stackTraces = false) (hI : q_I (nsh g q) q ws) (hC : iC g q ws) : ∀ sz, Met l y_NL_decimal (q_wW y_NL_decimal method_11_code 6 (some .int) [(0, 9, 12, 13), (0, 9, 16, 19)]) (q_rm 10 3 18) (q_P D g [.ref (q 0), .int x2, .int x3, .int x4, .int x5] ws sz) (va_Qi (fun _ u => q_I (nsh g q) q u ∧ iC g q u ∧ (∀ i, 116 ≤ i → u[i]? = ws[i]?)) (q_B D g (va_A ws sz)) (va_A ws sz)) 3 18 (va_A ws sz) := by
  intro sz
  refine q_intoW (by decide) (Nat.le_of_ble_eq_true rfl) ?_
  intro p e s m below meth c ls hsz C0 V ht hl
  have hx := C0.1
  have hb := C0.2.1
  have hl : lv_has ls 6 [(0, .ref (q 0)), (1, .int x2), (2, .int x3), (3, .int x4), (4, .int x5)] := hl
  obtain ⟨E0, hP0, hE0⟩ := hI 0 _ (n_s0 g q)
  unfold k_0 at hE0
  subst hE0
  refine lv_aload_n hx hb d_11_0 rfl (lv_at hl 0 rfl) ?_
  refine lv_iload_n hx hb d_11_1 rfl (lv_at hl 1 rfl) ?_
  refine lv_iload_n hx hb d_11_2 rfl (lv_at hl 2 rfl) ?_
  refine lv_iload_n hx hb d_11_3 rfl (lv_at hl 3 rfl) ?_
  refine lv_iload hx hb d_11_4 (lv_at hl 4 rfl) ?_
  refine q_goxv V (q_runVX (As := [.int x2, .int x3, .int x4, .int x5]) (rest := []) (d := 9) (mc := 3) (ms := 18) (ci := 0) C0 V rfl LV_NL_43 (C_decimal l D g q ws x2 x3 x4 x5 hlt hI hC _) rfl rfl hP0 rfl hl.1 rfl (Nat.le_of_ble_eq_true rfl) ⟨by decide, by decide⟩ ⟨Nat.le_of_ble_eq_true rfl, Nat.le_of_ble_eq_true rfl⟩ d_11_6) (fun qx Ex ce u1 H locs hp V hce hcv hcl => ?_) (fun u1 H locs hp V => ?_)
  ·
    obtain ⟨⟨cc, hE, hc⟩, hJ⟩ := hp
    rcases hc with rfl | rfl
    ·
      obtain rfl : Ex = "java/lang/IllegalArgumentException" := hE.trans qE1.symm
      refine q_catch hce hcv hcl (fun pl hpl => q_hY C0 V rfl ht ⟨by decide, by decide⟩ (by decide) w_486 wo_496 hcl pl hpl) ?_
      refine lv_astore (lv' := [(5, .ref qx), (0, .ref (q 0)), (1, .int x2), (2, .int x3), (3, .int x4), (4, .int x5)]) hx hb d_11_12 hl (by decide) rfl (fun ls hl => ?_)
      refine lv_iconst (v := 1) hx hb d_11_14 (by decide) ?_
      exact q_reti C0 V (⟨hJ.1, hJ.2.1, fun i h1 => hJ.2.2 i h1⟩) d_11_15
    ·
      obtain rfl : Ex = "java/lang/ArithmeticException" := hE.trans qE2.symm
      refine q_catch hce hcv hcl (fun pl hpl => q_hN C0 rfl ht ⟨by decide, by decide⟩ (by decide) w_486 (V.2.2.2.2.1.2.1.2.2.1) hcl pl hpl (fun t ht2 => q_hY C0 V rfl ht2 ⟨by decide, by decide⟩ (by decide) w_570 wo_1069 hcl pl hpl)) ?_
      refine lv_astore (lv' := [(5, .ref qx), (0, .ref (q 0)), (1, .int x2), (2, .int x3), (3, .int x4), (4, .int x5)]) hx hb d_11_16 hl (by decide) rfl (fun ls hl => ?_)
      refine lv_iconst (v := 2) hx hb d_11_18 (by decide) ?_
      exact q_reti C0 V (⟨hJ.1, hJ.2.1, fun i h1 => hJ.2.2 i h1⟩) d_11_19
  ·
    have hJ := hp
    refine lv_goto (tgt := 20) hx hb d_11_9 (by decide) ?_
    refine lv_iconst (v := 0) hx hb d_11_20 (by decide) ?_
    exact q_reti C0 V (⟨hJ.1, hJ.2.1, fun i h1 => hJ.2.2 i h1⟩) d_11_21
theorem d_12_0 : decode method_12_code 0 = .ok (.aload_n 0, 1) := by decide +kernel
theorem d_12_1 : decode method_12_code 1 = .ok (.iload_n 1, 1) := by decide +kernel
theorem d_12_2 : decode method_12_code 2 = .ok (.iload_n 2, 1) := by decide +kernel
theorem d_12_3 : decode method_12_code 3 = .ok (.iload_n 3, 1) := by decide +kernel
theorem d_12_4 : decode method_12_code 4 = .ok (.iload 4, 2) := by decide +kernel
set_option maxRecDepth 100000 in
theorem w_1401 : (Cond.code ({ cls := "NumberHouse", name := "decimalBy", desc := "(IIII)V" } : MethodName) prog_1_method_12_code (5 : Nat) (none : Option ClassFile.FieldType)) ∈ q_tbl := q_of6 201 rfl (by decide +kernel)
set_option maxRecDepth 100000 in
theorem w_1398 : (Cond.methodLink "NumberHouseLaw" (46 : Nat) ({ cls := "NumberHouse", name := "decimalBy", desc := "(IIII)V" } : MethodName)) ∈ q_tbl := q_of6 198 rfl (by decide +kernel)
set_option maxRecDepth 100000 in
theorem w_1399 : (Cond.instanceMethod ({ cls := "NumberHouse", name := "decimalBy", desc := "(IIII)V" } : MethodName)) ∈ q_tbl := q_of6 199 rfl (by decide +kernel)
set_option maxRecDepth 100000 in
theorem w_1400 : (Cond.selects "NumberHouse" ({ cls := "NumberHouse", name := "decimalBy", desc := "(IIII)V" } : MethodName) ({ cls := "NumberHouse", name := "decimalBy", desc := "(IIII)V" } : MethodName)) ∈ q_tbl := q_of6 200 rfl (by decide +kernel)
theorem LV_NL_46 : q_LV "NumberHouseLaw" 46 y_NH_decimalBy prog_1_method_12_code 5 none 4 := ⟨w_1401, w_1, w_1398, w_1399, w_1400, ⟨by decide, by decide, by decide +kernel⟩⟩
theorem d_12_6 : decode method_12_code 6 = .ok (.invokevirtual 46, 3) := by decide +kernel
theorem d_12_12 : decode method_12_code 12 = .ok (.astore 5, 2) := by decide +kernel
theorem d_12_14 : decode method_12_code 14 = .ok (.iconst 1, 1) := by decide +kernel
theorem d_12_15 : decode method_12_code 15 = .ok (.ireturn, 1) := by decide +kernel
theorem d_12_16 : decode method_12_code 16 = .ok (.astore 5, 2) := by decide +kernel
theorem d_12_18 : decode method_12_code 18 = .ok (.iconst 2, 1) := by decide +kernel
theorem d_12_19 : decode method_12_code 19 = .ok (.ireturn, 1) := by decide +kernel
theorem d_12_9 : decode method_12_code 9 = .ok (.goto 11, 3) := by decide +kernel
theorem d_12_20 : decode method_12_code 20 = .ok (.iconst 0, 1) := by decide +kernel
theorem d_12_21 : decode method_12_code 21 = .ok (.ireturn, 1) := by decide +kernel
def y_NL_decimalBy : MethodName := ⟨"NumberHouseLaw", "decimalBy", "(LNumberHouse;IIII)I"⟩
set_option maxRecDepth 100000 in
set_option maxHeartbeats 4000000 in
theorem w_NL_decimalBy (l : Launch) (D : va_G) (g : Nat → ClassId) (q : Nat → Nat) (ws : va_W) (x2 : Int32) (x3 : Int32) (x4 : Int32) (x5 : Int32) (hlt : l.stackTraces = false) (hI : q_I (nsh g q) q ws) (hC : iC g q ws) : ∀ sz, Met l y_NL_decimalBy (q_wW y_NL_decimalBy method_12_code 6 (some .int) [(0, 9, 12, 13), (0, 9, 16, 19)]) (q_rm 10 4 24) (q_P D g [.ref (q 0), .int x2, .int x3, .int x4, .int x5] ws sz) (va_Qi (fun _ u => q_I (nsh g q) q u ∧ iC g q u ∧ (∀ i, 116 ≤ i → u[i]? = ws[i]?)) (q_B D g (va_A ws sz)) (va_A ws sz)) 4 24 (va_A ws sz) := by
  intro sz
  refine q_intoW (by decide) (Nat.le_of_ble_eq_true rfl) ?_
  intro p e s m below meth c ls hsz C0 V ht hl
  have hx := C0.1
  have hb := C0.2.1
  have hl : lv_has ls 6 [(0, .ref (q 0)), (1, .int x2), (2, .int x3), (3, .int x4), (4, .int x5)] := hl
  obtain ⟨E0, hP0, hE0⟩ := hI 0 _ (n_s0 g q)
  unfold k_0 at hE0
  subst hE0
  refine lv_aload_n hx hb d_12_0 rfl (lv_at hl 0 rfl) ?_
  refine lv_iload_n hx hb d_12_1 rfl (lv_at hl 1 rfl) ?_
  refine lv_iload_n hx hb d_12_2 rfl (lv_at hl 2 rfl) ?_
  refine lv_iload_n hx hb d_12_3 rfl (lv_at hl 3 rfl) ?_
  refine lv_iload hx hb d_12_4 (lv_at hl 4 rfl) ?_
  refine q_goxv V (q_runVX (As := [.int x2, .int x3, .int x4, .int x5]) (rest := []) (d := 9) (mc := 4) (ms := 24) (ci := 0) C0 V rfl LV_NL_46 (C_decimalBy l D g q ws x2 x3 x4 x5 hlt hI hC _) rfl rfl hP0 rfl hl.1 rfl (Nat.le_of_ble_eq_true rfl) ⟨by decide, by decide⟩ ⟨Nat.le_of_ble_eq_true rfl, Nat.le_of_ble_eq_true rfl⟩ d_12_6) (fun qx Ex ce u1 H locs hp V hce hcv hcl => ?_) (fun u1 H locs hp V => ?_)
  ·
    obtain ⟨⟨cc, hE, hc⟩, hJ⟩ := hp
    rcases hc with rfl | rfl
    ·
      obtain rfl : Ex = "java/lang/IllegalArgumentException" := hE.trans qE1.symm
      refine q_catch hce hcv hcl (fun pl hpl => q_hY C0 V rfl ht ⟨by decide, by decide⟩ (by decide) w_486 wo_496 hcl pl hpl) ?_
      refine lv_astore (lv' := [(5, .ref qx), (0, .ref (q 0)), (1, .int x2), (2, .int x3), (3, .int x4), (4, .int x5)]) hx hb d_12_12 hl (by decide) rfl (fun ls hl => ?_)
      refine lv_iconst (v := 1) hx hb d_12_14 (by decide) ?_
      exact q_reti C0 V (⟨hJ.1, hJ.2.1, fun i h1 => hJ.2.2 i h1⟩) d_12_15
    ·
      obtain rfl : Ex = "java/lang/ArithmeticException" := hE.trans qE2.symm
      refine q_catch hce hcv hcl (fun pl hpl => q_hN C0 rfl ht ⟨by decide, by decide⟩ (by decide) w_486 (V.2.2.2.2.1.2.1.2.2.1) hcl pl hpl (fun t ht2 => q_hY C0 V rfl ht2 ⟨by decide, by decide⟩ (by decide) w_570 wo_1069 hcl pl hpl)) ?_
      refine lv_astore (lv' := [(5, .ref qx), (0, .ref (q 0)), (1, .int x2), (2, .int x3), (3, .int x4), (4, .int x5)]) hx hb d_12_16 hl (by decide) rfl (fun ls hl => ?_)
      refine lv_iconst (v := 2) hx hb d_12_18 (by decide) ?_
      exact q_reti C0 V (⟨hJ.1, hJ.2.1, fun i h1 => hJ.2.2 i h1⟩) d_12_19
  ·
    have hJ := hp
    refine lv_goto (tgt := 20) hx hb d_12_9 (by decide) ?_
    refine lv_iconst (v := 0) hx hb d_12_20 (by decide) ?_
    exact q_reti C0 V (⟨hJ.1, hJ.2.1, fun i h1 => hJ.2.2 i h1⟩) d_12_21
theorem d_13_0 : decode method_13_code 0 = .ok (.aload_n 0, 1) := by decide +kernel
theorem d_13_1 : decode method_13_code 1 = .ok (.iload_n 1, 1) := by decide +kernel
theorem d_13_2 : decode method_13_code 2 = .ok (.iload_n 2, 1) := by decide +kernel
theorem d_13_3 : decode method_13_code 3 = .ok (.iload_n 3, 1) := by decide +kernel
theorem d_13_4 : decode method_13_code 4 = .ok (.iload 4, 2) := by decide +kernel
theorem d_13_6 : decode method_13_code 6 = .ok (.iload 5, 2) := by decide +kernel
set_option maxRecDepth 100000 in
theorem w_1427 : (Cond.code ({ cls := "NumberHouse", name := "divide", desc := "(IIIII)V" } : MethodName) prog_1_method_13_code (6 : Nat) (none : Option ClassFile.FieldType)) ∈ q_tbl := q_of6 227 rfl (by decide +kernel)
set_option maxRecDepth 100000 in
theorem w_1424 : (Cond.methodLink "NumberHouseLaw" (49 : Nat) ({ cls := "NumberHouse", name := "divide", desc := "(IIIII)V" } : MethodName)) ∈ q_tbl := q_of6 224 rfl (by decide +kernel)
set_option maxRecDepth 100000 in
theorem w_1425 : (Cond.instanceMethod ({ cls := "NumberHouse", name := "divide", desc := "(IIIII)V" } : MethodName)) ∈ q_tbl := q_of6 225 rfl (by decide +kernel)
set_option maxRecDepth 100000 in
theorem w_1426 : (Cond.selects "NumberHouse" ({ cls := "NumberHouse", name := "divide", desc := "(IIIII)V" } : MethodName) ({ cls := "NumberHouse", name := "divide", desc := "(IIIII)V" } : MethodName)) ∈ q_tbl := q_of6 226 rfl (by decide +kernel)
theorem LV_NL_49 : q_LV "NumberHouseLaw" 49 y_NH_divide prog_1_method_13_code 6 none 5 := ⟨w_1427, w_1, w_1424, w_1425, w_1426, ⟨by decide, by decide, by decide +kernel⟩⟩
theorem d_13_8 : decode method_13_code 8 = .ok (.invokevirtual 49, 3) := by decide +kernel
theorem d_13_14 : decode method_13_code 14 = .ok (.astore 6, 2) := by decide +kernel
theorem d_13_16 : decode method_13_code 16 = .ok (.iconst 1, 1) := by decide +kernel
theorem d_13_17 : decode method_13_code 17 = .ok (.ireturn, 1) := by decide +kernel
theorem d_13_18 : decode method_13_code 18 = .ok (.astore 6, 2) := by decide +kernel
theorem d_13_20 : decode method_13_code 20 = .ok (.iconst 2, 1) := by decide +kernel
theorem d_13_21 : decode method_13_code 21 = .ok (.ireturn, 1) := by decide +kernel
theorem d_13_11 : decode method_13_code 11 = .ok (.goto 11, 3) := by decide +kernel
theorem d_13_22 : decode method_13_code 22 = .ok (.iconst 0, 1) := by decide +kernel
theorem d_13_23 : decode method_13_code 23 = .ok (.ireturn, 1) := by decide +kernel
def y_NL_divide : MethodName := ⟨"NumberHouseLaw", "divide", "(LNumberHouse;IIIII)I"⟩
set_option maxRecDepth 100000 in
set_option maxHeartbeats 4000000 in
theorem w_NL_divide (l : Launch) (D : va_G) (g : Nat → ClassId) (q : Nat → Nat) (ws : va_W) (x2 : Int32) (x3 : Int32) (x4 : Int32) (x5 : Int32) (x6 : Int32) (hlt : l.stackTraces = false) (hI : q_I (nsh g q) q ws) (hC : iC g q ws) : ∀ sz, Met l y_NL_divide (q_wW y_NL_divide method_13_code 7 (some .int) [(0, 11, 14, 13), (0, 11, 18, 19)]) (q_rm 10 4 24) (q_P D g [.ref (q 0), .int x2, .int x3, .int x4, .int x5, .int x6] ws sz) (va_Qi (fun _ u => q_I (nsh g q) q u ∧ iC g q u ∧ (∀ i, 116 ≤ i → u[i]? = ws[i]?)) (q_B D g (va_A ws sz)) (va_A ws sz)) 4 24 (va_A ws sz) := by
  intro sz
  refine q_intoW (by decide) (Nat.le_of_ble_eq_true rfl) ?_
  intro p e s m below meth c ls hsz C0 V ht hl
  have hx := C0.1
  have hb := C0.2.1
  have hl : lv_has ls 7 [(0, .ref (q 0)), (1, .int x2), (2, .int x3), (3, .int x4), (4, .int x5), (5, .int x6)] := hl
  obtain ⟨E0, hP0, hE0⟩ := hI 0 _ (n_s0 g q)
  unfold k_0 at hE0
  subst hE0
  refine lv_aload_n hx hb d_13_0 rfl (lv_at hl 0 rfl) ?_
  refine lv_iload_n hx hb d_13_1 rfl (lv_at hl 1 rfl) ?_
  refine lv_iload_n hx hb d_13_2 rfl (lv_at hl 2 rfl) ?_
  refine lv_iload_n hx hb d_13_3 rfl (lv_at hl 3 rfl) ?_
  refine lv_iload hx hb d_13_4 (lv_at hl 4 rfl) ?_
  refine lv_iload hx hb d_13_6 (lv_at hl 5 rfl) ?_
  refine q_goxv V (q_runVX (As := [.int x2, .int x3, .int x4, .int x5, .int x6]) (rest := []) (d := 9) (mc := 4) (ms := 24) (ci := 0) C0 V rfl LV_NL_49 (C_divide l D g q ws x2 x3 x4 x5 x6 hlt hI hC _) rfl rfl hP0 rfl hl.1 rfl (Nat.le_of_ble_eq_true rfl) ⟨by decide, by decide⟩ ⟨Nat.le_of_ble_eq_true rfl, Nat.le_of_ble_eq_true rfl⟩ d_13_8) (fun qx Ex ce u1 H locs hp V hce hcv hcl => ?_) (fun u1 H locs hp V => ?_)
  ·
    obtain ⟨⟨cc, hE, hc⟩, hJ⟩ := hp
    rcases hc with rfl | rfl
    ·
      obtain rfl : Ex = "java/lang/IllegalArgumentException" := hE.trans qE1.symm
      refine q_catch hce hcv hcl (fun pl hpl => q_hY C0 V rfl ht ⟨by decide, by decide⟩ (by decide) w_486 wo_496 hcl pl hpl) ?_
      refine lv_astore (lv' := [(6, .ref qx), (0, .ref (q 0)), (1, .int x2), (2, .int x3), (3, .int x4), (4, .int x5), (5, .int x6)]) hx hb d_13_14 hl (by decide) rfl (fun ls hl => ?_)
      refine lv_iconst (v := 1) hx hb d_13_16 (by decide) ?_
      exact q_reti C0 V (⟨hJ.1, hJ.2.1, fun i h1 => hJ.2.2 i h1⟩) d_13_17
    ·
      obtain rfl : Ex = "java/lang/ArithmeticException" := hE.trans qE2.symm
      refine q_catch hce hcv hcl (fun pl hpl => q_hN C0 rfl ht ⟨by decide, by decide⟩ (by decide) w_486 (V.2.2.2.2.1.2.1.2.2.1) hcl pl hpl (fun t ht2 => q_hY C0 V rfl ht2 ⟨by decide, by decide⟩ (by decide) w_570 wo_1069 hcl pl hpl)) ?_
      refine lv_astore (lv' := [(6, .ref qx), (0, .ref (q 0)), (1, .int x2), (2, .int x3), (3, .int x4), (4, .int x5), (5, .int x6)]) hx hb d_13_18 hl (by decide) rfl (fun ls hl => ?_)
      refine lv_iconst (v := 2) hx hb d_13_20 (by decide) ?_
      exact q_reti C0 V (⟨hJ.1, hJ.2.1, fun i h1 => hJ.2.2 i h1⟩) d_13_21
  ·
    have hJ := hp
    refine lv_goto (tgt := 22) hx hb d_13_11 (by decide) ?_
    refine lv_iconst (v := 0) hx hb d_13_22 (by decide) ?_
    exact q_reti C0 V (⟨hJ.1, hJ.2.1, fun i h1 => hJ.2.2 i h1⟩) d_13_23
theorem d_14_0 : decode method_14_code 0 = .ok (.aload_n 0, 1) := by decide +kernel
theorem d_14_1 : decode method_14_code 1 = .ok (.iload_n 1, 1) := by decide +kernel
theorem d_14_2 : decode method_14_code 2 = .ok (.iload_n 2, 1) := by decide +kernel
theorem d_14_3 : decode method_14_code 3 = .ok (.iload_n 3, 1) := by decide +kernel
theorem d_14_4 : decode method_14_code 4 = .ok (.iload 4, 2) := by decide +kernel
theorem d_14_6 : decode method_14_code 6 = .ok (.iload 5, 2) := by decide +kernel
set_option maxRecDepth 100000 in
theorem w_1464 : (Cond.code ({ cls := "NumberHouse", name := "quotient", desc := "(IIIII)V" } : MethodName) prog_1_method_14_code (6 : Nat) (none : Option ClassFile.FieldType)) ∈ q_tbl := q_of7 24 rfl (by decide +kernel)
set_option maxRecDepth 100000 in
theorem w_1461 : (Cond.methodLink "NumberHouseLaw" (53 : Nat) ({ cls := "NumberHouse", name := "quotient", desc := "(IIIII)V" } : MethodName)) ∈ q_tbl := q_of7 21 rfl (by decide +kernel)
set_option maxRecDepth 100000 in
theorem w_1462 : (Cond.instanceMethod ({ cls := "NumberHouse", name := "quotient", desc := "(IIIII)V" } : MethodName)) ∈ q_tbl := q_of7 22 rfl (by decide +kernel)
set_option maxRecDepth 100000 in
theorem w_1463 : (Cond.selects "NumberHouse" ({ cls := "NumberHouse", name := "quotient", desc := "(IIIII)V" } : MethodName) ({ cls := "NumberHouse", name := "quotient", desc := "(IIIII)V" } : MethodName)) ∈ q_tbl := q_of7 23 rfl (by decide +kernel)
theorem LV_NL_53 : q_LV "NumberHouseLaw" 53 y_NH_quotient prog_1_method_14_code 6 none 5 := ⟨w_1464, w_1, w_1461, w_1462, w_1463, ⟨by decide, by decide, by decide +kernel⟩⟩
theorem d_14_8 : decode method_14_code 8 = .ok (.invokevirtual 53, 3) := by decide +kernel
theorem d_14_14 : decode method_14_code 14 = .ok (.astore 6, 2) := by decide +kernel
theorem d_14_16 : decode method_14_code 16 = .ok (.iconst 1, 1) := by decide +kernel
theorem d_14_17 : decode method_14_code 17 = .ok (.ireturn, 1) := by decide +kernel
theorem d_14_18 : decode method_14_code 18 = .ok (.astore 6, 2) := by decide +kernel
theorem d_14_20 : decode method_14_code 20 = .ok (.iconst 2, 1) := by decide +kernel
theorem d_14_21 : decode method_14_code 21 = .ok (.ireturn, 1) := by decide +kernel
theorem d_14_11 : decode method_14_code 11 = .ok (.goto 11, 3) := by decide +kernel
theorem d_14_22 : decode method_14_code 22 = .ok (.iconst 0, 1) := by decide +kernel
theorem d_14_23 : decode method_14_code 23 = .ok (.ireturn, 1) := by decide +kernel
def y_NL_quotient : MethodName := ⟨"NumberHouseLaw", "quotient", "(LNumberHouse;IIIII)I"⟩
set_option maxRecDepth 100000 in
set_option maxHeartbeats 4000000 in
theorem w_NL_quotient (l : Launch) (D : va_G) (g : Nat → ClassId) (q : Nat → Nat) (ws : va_W) (x2 : Int32) (x3 : Int32) (x4 : Int32) (x5 : Int32) (x6 : Int32) (hlt : l.stackTraces = false) (hI : q_I (nsh g q) q ws) (hC : iC g q ws) : ∀ sz, Met l y_NL_quotient (q_wW y_NL_quotient method_14_code 7 (some .int) [(0, 11, 14, 13), (0, 11, 18, 19)]) (q_rm 10 5 30) (q_P D g [.ref (q 0), .int x2, .int x3, .int x4, .int x5, .int x6] ws sz) (va_Qi (fun _ u => q_I (nsh g q) q u ∧ iC g q u ∧ (∀ i, 116 ≤ i → u[i]? = ws[i]?)) (q_B D g (va_A ws sz)) (va_A ws sz)) 5 30 (va_A ws sz) := by
  intro sz
  refine q_intoW (by decide) (Nat.le_of_ble_eq_true rfl) ?_
  intro p e s m below meth c ls hsz C0 V ht hl
  have hx := C0.1
  have hb := C0.2.1
  have hl : lv_has ls 7 [(0, .ref (q 0)), (1, .int x2), (2, .int x3), (3, .int x4), (4, .int x5), (5, .int x6)] := hl
  obtain ⟨E0, hP0, hE0⟩ := hI 0 _ (n_s0 g q)
  unfold k_0 at hE0
  subst hE0
  refine lv_aload_n hx hb d_14_0 rfl (lv_at hl 0 rfl) ?_
  refine lv_iload_n hx hb d_14_1 rfl (lv_at hl 1 rfl) ?_
  refine lv_iload_n hx hb d_14_2 rfl (lv_at hl 2 rfl) ?_
  refine lv_iload_n hx hb d_14_3 rfl (lv_at hl 3 rfl) ?_
  refine lv_iload hx hb d_14_4 (lv_at hl 4 rfl) ?_
  refine lv_iload hx hb d_14_6 (lv_at hl 5 rfl) ?_
  refine q_goxv V (q_runVX (As := [.int x2, .int x3, .int x4, .int x5, .int x6]) (rest := []) (d := 9) (mc := 5) (ms := 30) (ci := 0) C0 V rfl LV_NL_53 (C_quotient l D g q ws x2 x3 x4 x5 x6 hlt hI hC _) rfl rfl hP0 rfl hl.1 rfl (Nat.le_of_ble_eq_true rfl) ⟨by decide, by decide⟩ ⟨Nat.le_of_ble_eq_true rfl, Nat.le_of_ble_eq_true rfl⟩ d_14_8) (fun qx Ex ce u1 H locs hp V hce hcv hcl => ?_) (fun u1 H locs hp V => ?_)
  ·
    obtain ⟨⟨cc, hE, hc⟩, hJ⟩ := hp
    rcases hc with rfl | rfl
    ·
      obtain rfl : Ex = "java/lang/IllegalArgumentException" := hE.trans qE1.symm
      refine q_catch hce hcv hcl (fun pl hpl => q_hY C0 V rfl ht ⟨by decide, by decide⟩ (by decide) w_486 wo_496 hcl pl hpl) ?_
      refine lv_astore (lv' := [(6, .ref qx), (0, .ref (q 0)), (1, .int x2), (2, .int x3), (3, .int x4), (4, .int x5), (5, .int x6)]) hx hb d_14_14 hl (by decide) rfl (fun ls hl => ?_)
      refine lv_iconst (v := 1) hx hb d_14_16 (by decide) ?_
      exact q_reti C0 V (⟨hJ.1, hJ.2.1, fun i h1 => hJ.2.2 i h1⟩) d_14_17
    ·
      obtain rfl : Ex = "java/lang/ArithmeticException" := hE.trans qE2.symm
      refine q_catch hce hcv hcl (fun pl hpl => q_hN C0 rfl ht ⟨by decide, by decide⟩ (by decide) w_486 (V.2.2.2.2.1.2.1.2.2.1) hcl pl hpl (fun t ht2 => q_hY C0 V rfl ht2 ⟨by decide, by decide⟩ (by decide) w_570 wo_1069 hcl pl hpl)) ?_
      refine lv_astore (lv' := [(6, .ref qx), (0, .ref (q 0)), (1, .int x2), (2, .int x3), (3, .int x4), (4, .int x5), (5, .int x6)]) hx hb d_14_18 hl (by decide) rfl (fun ls hl => ?_)
      refine lv_iconst (v := 2) hx hb d_14_20 (by decide) ?_
      exact q_reti C0 V (⟨hJ.1, hJ.2.1, fun i h1 => hJ.2.2 i h1⟩) d_14_21
  ·
    have hJ := hp
    refine lv_goto (tgt := 22) hx hb d_14_11 (by decide) ?_
    refine lv_iconst (v := 0) hx hb d_14_22 (by decide) ?_
    exact q_reti C0 V (⟨hJ.1, hJ.2.1, fun i h1 => hJ.2.2 i h1⟩) d_14_23
theorem d_15_0 : decode method_15_code 0 = .ok (.aload_n 0, 1) := by decide +kernel
theorem d_15_1 : decode method_15_code 1 = .ok (.iload_n 1, 1) := by decide +kernel
theorem d_15_2 : decode method_15_code 2 = .ok (.iload_n 2, 1) := by decide +kernel
theorem d_15_3 : decode method_15_code 3 = .ok (.iload_n 3, 1) := by decide +kernel
theorem d_15_4 : decode method_15_code 4 = .ok (.iload 4, 2) := by decide +kernel
theorem d_15_6 : decode method_15_code 6 = .ok (.iload 5, 2) := by decide +kernel
set_option maxRecDepth 100000 in
theorem w_1479 : (Cond.code ({ cls := "NumberHouse", name := "shape", desc := "(IIIII)V" } : MethodName) prog_1_method_15_code (7 : Nat) (none : Option ClassFile.FieldType)) ∈ q_tbl := q_of7 39 rfl (by decide +kernel)
set_option maxRecDepth 100000 in
theorem w_1476 : (Cond.methodLink "NumberHouseLaw" (56 : Nat) ({ cls := "NumberHouse", name := "shape", desc := "(IIIII)V" } : MethodName)) ∈ q_tbl := q_of7 36 rfl (by decide +kernel)
set_option maxRecDepth 100000 in
theorem w_1477 : (Cond.instanceMethod ({ cls := "NumberHouse", name := "shape", desc := "(IIIII)V" } : MethodName)) ∈ q_tbl := q_of7 37 rfl (by decide +kernel)
set_option maxRecDepth 100000 in
theorem w_1478 : (Cond.selects "NumberHouse" ({ cls := "NumberHouse", name := "shape", desc := "(IIIII)V" } : MethodName) ({ cls := "NumberHouse", name := "shape", desc := "(IIIII)V" } : MethodName)) ∈ q_tbl := q_of7 38 rfl (by decide +kernel)
theorem LV_NL_56 : q_LV "NumberHouseLaw" 56 y_NH_shape prog_1_method_15_code 7 none 5 := ⟨w_1479, w_1, w_1476, w_1477, w_1478, ⟨by decide, by decide, by decide +kernel⟩⟩
theorem d_15_8 : decode method_15_code 8 = .ok (.invokevirtual 56, 3) := by decide +kernel
theorem d_15_14 : decode method_15_code 14 = .ok (.astore 6, 2) := by decide +kernel
theorem d_15_16 : decode method_15_code 16 = .ok (.iconst 1, 1) := by decide +kernel
theorem d_15_17 : decode method_15_code 17 = .ok (.ireturn, 1) := by decide +kernel
theorem d_15_18 : decode method_15_code 18 = .ok (.astore 6, 2) := by decide +kernel
theorem d_15_20 : decode method_15_code 20 = .ok (.iconst 2, 1) := by decide +kernel
theorem d_15_21 : decode method_15_code 21 = .ok (.ireturn, 1) := by decide +kernel
theorem d_15_11 : decode method_15_code 11 = .ok (.goto 11, 3) := by decide +kernel
theorem d_15_22 : decode method_15_code 22 = .ok (.iconst 0, 1) := by decide +kernel
theorem d_15_23 : decode method_15_code 23 = .ok (.ireturn, 1) := by decide +kernel
def y_NL_shape : MethodName := ⟨"NumberHouseLaw", "shape", "(LNumberHouse;IIIII)I"⟩
set_option maxRecDepth 100000 in
set_option maxHeartbeats 4000000 in
theorem w_NL_shape (l : Launch) (D : va_G) (g : Nat → ClassId) (q : Nat → Nat) (ws : va_W) (x2 : Int32) (x3 : Int32) (x4 : Int32) (x5 : Int32) (x6 : Int32) (hlt : l.stackTraces = false) (hI : q_I (nsh g q) q ws) (hC : iC g q ws) : ∀ sz, Met l y_NL_shape (q_wW y_NL_shape method_15_code 7 (some .int) [(0, 11, 14, 13), (0, 11, 18, 19)]) (q_rm 10 5 30) (q_P D g [.ref (q 0), .int x2, .int x3, .int x4, .int x5, .int x6] ws sz) (va_Qi (fun _ u => q_I (nsh g q) q u ∧ iC g q u ∧ (∀ i, 116 ≤ i → u[i]? = ws[i]?)) (q_B D g (va_A ws sz)) (va_A ws sz)) 5 30 (va_A ws sz) := by
  intro sz
  refine q_intoW (by decide) (Nat.le_of_ble_eq_true rfl) ?_
  intro p e s m below meth c ls hsz C0 V ht hl
  have hx := C0.1
  have hb := C0.2.1
  have hl : lv_has ls 7 [(0, .ref (q 0)), (1, .int x2), (2, .int x3), (3, .int x4), (4, .int x5), (5, .int x6)] := hl
  obtain ⟨E0, hP0, hE0⟩ := hI 0 _ (n_s0 g q)
  unfold k_0 at hE0
  subst hE0
  refine lv_aload_n hx hb d_15_0 rfl (lv_at hl 0 rfl) ?_
  refine lv_iload_n hx hb d_15_1 rfl (lv_at hl 1 rfl) ?_
  refine lv_iload_n hx hb d_15_2 rfl (lv_at hl 2 rfl) ?_
  refine lv_iload_n hx hb d_15_3 rfl (lv_at hl 3 rfl) ?_
  refine lv_iload hx hb d_15_4 (lv_at hl 4 rfl) ?_
  refine lv_iload hx hb d_15_6 (lv_at hl 5 rfl) ?_
  refine q_goxv V (q_runVX (As := [.int x2, .int x3, .int x4, .int x5, .int x6]) (rest := []) (d := 9) (mc := 5) (ms := 30) (ci := 0) C0 V rfl LV_NL_56 (C_shape l D g q ws x2 x3 x4 x5 x6 hlt hI hC _) rfl rfl hP0 rfl hl.1 rfl (Nat.le_of_ble_eq_true rfl) ⟨by decide, by decide⟩ ⟨Nat.le_of_ble_eq_true rfl, Nat.le_of_ble_eq_true rfl⟩ d_15_8) (fun qx Ex ce u1 H locs hp V hce hcv hcl => ?_) (fun u1 H locs hp V => ?_)
  ·
    obtain ⟨⟨cc, hE, hc⟩, hJ⟩ := hp
    rcases hc with rfl | rfl
    ·
      obtain rfl : Ex = "java/lang/IllegalArgumentException" := hE.trans qE1.symm
      refine q_catch hce hcv hcl (fun pl hpl => q_hY C0 V rfl ht ⟨by decide, by decide⟩ (by decide) w_486 wo_496 hcl pl hpl) ?_
      refine lv_astore (lv' := [(6, .ref qx), (0, .ref (q 0)), (1, .int x2), (2, .int x3), (3, .int x4), (4, .int x5), (5, .int x6)]) hx hb d_15_14 hl (by decide) rfl (fun ls hl => ?_)
      refine lv_iconst (v := 1) hx hb d_15_16 (by decide) ?_
      exact q_reti C0 V (⟨hJ.1, hJ.2.1, fun i h1 => hJ.2.2 i h1⟩) d_15_17
    ·
      obtain rfl : Ex = "java/lang/ArithmeticException" := hE.trans qE2.symm
      refine q_catch hce hcv hcl (fun pl hpl => q_hN C0 rfl ht ⟨by decide, by decide⟩ (by decide) w_486 (V.2.2.2.2.1.2.1.2.2.1) hcl pl hpl (fun t ht2 => q_hY C0 V rfl ht2 ⟨by decide, by decide⟩ (by decide) w_570 wo_1069 hcl pl hpl)) ?_
      refine lv_astore (lv' := [(6, .ref qx), (0, .ref (q 0)), (1, .int x2), (2, .int x3), (3, .int x4), (4, .int x5), (5, .int x6)]) hx hb d_15_18 hl (by decide) rfl (fun ls hl => ?_)
      refine lv_iconst (v := 2) hx hb d_15_20 (by decide) ?_
      exact q_reti C0 V (⟨hJ.1, hJ.2.1, fun i h1 => hJ.2.2 i h1⟩) d_15_21
  ·
    have hJ := hp
    refine lv_goto (tgt := 22) hx hb d_15_11 (by decide) ?_
    refine lv_iconst (v := 0) hx hb d_15_22 (by decide) ?_
    exact q_reti C0 V (⟨hJ.1, hJ.2.1, fun i h1 => hJ.2.2 i h1⟩) d_15_23
theorem d_16_0 : decode method_16_code 0 = .ok (.aload_n 0, 1) := by decide +kernel
theorem d_16_1 : decode method_16_code 1 = .ok (.iload_n 1, 1) := by decide +kernel
theorem d_16_2 : decode method_16_code 2 = .ok (.iload_n 2, 1) := by decide +kernel
theorem d_16_3 : decode method_16_code 3 = .ok (.iload_n 3, 1) := by decide +kernel
theorem d_16_4 : decode method_16_code 4 = .ok (.iload 4, 2) := by decide +kernel
set_option maxRecDepth 100000 in
theorem w_1495 : (Cond.code ({ cls := "NumberHouse", name := "convert", desc := "(IIII)V" } : MethodName) prog_1_method_16_code (5 : Nat) (none : Option ClassFile.FieldType)) ∈ q_tbl := q_of7 55 rfl (by decide +kernel)
set_option maxRecDepth 100000 in
theorem w_1492 : (Cond.methodLink "NumberHouseLaw" (59 : Nat) ({ cls := "NumberHouse", name := "convert", desc := "(IIII)V" } : MethodName)) ∈ q_tbl := q_of7 52 rfl (by decide +kernel)
set_option maxRecDepth 100000 in
theorem w_1493 : (Cond.instanceMethod ({ cls := "NumberHouse", name := "convert", desc := "(IIII)V" } : MethodName)) ∈ q_tbl := q_of7 53 rfl (by decide +kernel)
set_option maxRecDepth 100000 in
theorem w_1494 : (Cond.selects "NumberHouse" ({ cls := "NumberHouse", name := "convert", desc := "(IIII)V" } : MethodName) ({ cls := "NumberHouse", name := "convert", desc := "(IIII)V" } : MethodName)) ∈ q_tbl := q_of7 54 rfl (by decide +kernel)
theorem LV_NL_59 : q_LV "NumberHouseLaw" 59 y_NH_convert prog_1_method_16_code 5 none 4 := ⟨w_1495, w_1, w_1492, w_1493, w_1494, ⟨by decide, by decide, by decide +kernel⟩⟩
theorem d_16_6 : decode method_16_code 6 = .ok (.invokevirtual 59, 3) := by decide +kernel
theorem d_16_12 : decode method_16_code 12 = .ok (.astore 5, 2) := by decide +kernel
theorem d_16_14 : decode method_16_code 14 = .ok (.iconst 1, 1) := by decide +kernel
theorem d_16_15 : decode method_16_code 15 = .ok (.ireturn, 1) := by decide +kernel
theorem d_16_16 : decode method_16_code 16 = .ok (.astore 5, 2) := by decide +kernel
theorem d_16_18 : decode method_16_code 18 = .ok (.iconst 2, 1) := by decide +kernel
theorem d_16_19 : decode method_16_code 19 = .ok (.ireturn, 1) := by decide +kernel
theorem d_16_9 : decode method_16_code 9 = .ok (.goto 11, 3) := by decide +kernel
theorem d_16_20 : decode method_16_code 20 = .ok (.iconst 0, 1) := by decide +kernel
theorem d_16_21 : decode method_16_code 21 = .ok (.ireturn, 1) := by decide +kernel
def y_NL_convert : MethodName := ⟨"NumberHouseLaw", "convert", "(LNumberHouse;IIII)I"⟩
set_option maxRecDepth 100000 in
set_option maxHeartbeats 4000000 in
theorem w_NL_convert (l : Launch) (D : va_G) (g : Nat → ClassId) (q : Nat → Nat) (ws : va_W) (x2 : Int32) (x3 : Int32) (x4 : Int32) (x5 : Int32) (hlt : l.stackTraces = false) (hI : q_I (nsh g q) q ws) (hC : iC g q ws) : ∀ sz, Met l y_NL_convert (q_wW y_NL_convert method_16_code 6 (some .int) [(0, 9, 12, 13), (0, 9, 16, 19)]) (q_rm 10 4 24) (q_P D g [.ref (q 0), .int x2, .int x3, .int x4, .int x5] ws sz) (va_Qi (fun _ u => q_I (nsh g q) q u ∧ iC g q u ∧ (∀ i, 116 ≤ i → u[i]? = ws[i]?)) (q_B D g (va_A ws sz)) (va_A ws sz)) 4 24 (va_A ws sz) := by
  intro sz
  refine q_intoW (by decide) (Nat.le_of_ble_eq_true rfl) ?_
  intro p e s m below meth c ls hsz C0 V ht hl
  have hx := C0.1
  have hb := C0.2.1
  have hl : lv_has ls 6 [(0, .ref (q 0)), (1, .int x2), (2, .int x3), (3, .int x4), (4, .int x5)] := hl
  obtain ⟨E0, hP0, hE0⟩ := hI 0 _ (n_s0 g q)
  unfold k_0 at hE0
  subst hE0
  refine lv_aload_n hx hb d_16_0 rfl (lv_at hl 0 rfl) ?_
  refine lv_iload_n hx hb d_16_1 rfl (lv_at hl 1 rfl) ?_
  refine lv_iload_n hx hb d_16_2 rfl (lv_at hl 2 rfl) ?_
  refine lv_iload_n hx hb d_16_3 rfl (lv_at hl 3 rfl) ?_
  refine lv_iload hx hb d_16_4 (lv_at hl 4 rfl) ?_
  refine q_goxv V (q_runVX (As := [.int x2, .int x3, .int x4, .int x5]) (rest := []) (d := 9) (mc := 4) (ms := 24) (ci := 0) C0 V rfl LV_NL_59 (C_convert l D g q ws x2 x3 x4 x5 hlt hI hC _) rfl rfl hP0 rfl hl.1 rfl (Nat.le_of_ble_eq_true rfl) ⟨by decide, by decide⟩ ⟨Nat.le_of_ble_eq_true rfl, Nat.le_of_ble_eq_true rfl⟩ d_16_6) (fun qx Ex ce u1 H locs hp V hce hcv hcl => ?_) (fun u1 H locs hp V => ?_)
  ·
    obtain ⟨⟨cc, hE, hc⟩, hJ⟩ := hp
    rcases hc with rfl | rfl
    ·
      obtain rfl : Ex = "java/lang/IllegalArgumentException" := hE.trans qE1.symm
      refine q_catch hce hcv hcl (fun pl hpl => q_hY C0 V rfl ht ⟨by decide, by decide⟩ (by decide) w_486 wo_496 hcl pl hpl) ?_
      refine lv_astore (lv' := [(5, .ref qx), (0, .ref (q 0)), (1, .int x2), (2, .int x3), (3, .int x4), (4, .int x5)]) hx hb d_16_12 hl (by decide) rfl (fun ls hl => ?_)
      refine lv_iconst (v := 1) hx hb d_16_14 (by decide) ?_
      exact q_reti C0 V (⟨hJ.1, hJ.2.1, fun i h1 => hJ.2.2 i h1⟩) d_16_15
    ·
      obtain rfl : Ex = "java/lang/ArithmeticException" := hE.trans qE2.symm
      refine q_catch hce hcv hcl (fun pl hpl => q_hN C0 rfl ht ⟨by decide, by decide⟩ (by decide) w_486 (V.2.2.2.2.1.2.1.2.2.1) hcl pl hpl (fun t ht2 => q_hY C0 V rfl ht2 ⟨by decide, by decide⟩ (by decide) w_570 wo_1069 hcl pl hpl)) ?_
      refine lv_astore (lv' := [(5, .ref qx), (0, .ref (q 0)), (1, .int x2), (2, .int x3), (3, .int x4), (4, .int x5)]) hx hb d_16_16 hl (by decide) rfl (fun ls hl => ?_)
      refine lv_iconst (v := 2) hx hb d_16_18 (by decide) ?_
      exact q_reti C0 V (⟨hJ.1, hJ.2.1, fun i h1 => hJ.2.2 i h1⟩) d_16_19
  ·
    have hJ := hp
    refine lv_goto (tgt := 20) hx hb d_16_9 (by decide) ?_
    refine lv_iconst (v := 0) hx hb d_16_20 (by decide) ?_
    exact q_reti C0 V (⟨hJ.1, hJ.2.1, fun i h1 => hJ.2.2 i h1⟩) d_16_21
theorem d_17_0 : decode method_17_code 0 = .ok (.aload 4, 2) := by decide +kernel
theorem d_17_2 : decode method_17_code 2 = .ok (.iconst 0, 1) := by decide +kernel
theorem d_17_3 : decode method_17_code 3 = .ok (.aload_n 0, 1) := by decide +kernel
theorem d_17_4 : decode method_17_code 4 = .ok (.iload_n 1, 1) := by decide +kernel
theorem d_17_5 : decode method_17_code 5 = .ok (.iload_n 2, 1) := by decide +kernel
theorem d_17_6 : decode method_17_code 6 = .ok (.iload_n 3, 1) := by decide +kernel
set_option maxRecDepth 100000 in
theorem w_1536 : (Cond.code ({ cls := "NumberHouse", name := "print", desc := "(III)I" } : MethodName) prog_1_method_17_code (4 : Nat) (some .int)) ∈ q_tbl := q_of7 96 rfl (by decide +kernel)
set_option maxRecDepth 100000 in
theorem w_1533 : (Cond.methodLink "NumberHouseLaw" (62 : Nat) ({ cls := "NumberHouse", name := "print", desc := "(III)I" } : MethodName)) ∈ q_tbl := q_of7 93 rfl (by decide +kernel)
set_option maxRecDepth 100000 in
theorem w_1534 : (Cond.instanceMethod ({ cls := "NumberHouse", name := "print", desc := "(III)I" } : MethodName)) ∈ q_tbl := q_of7 94 rfl (by decide +kernel)
set_option maxRecDepth 100000 in
theorem w_1535 : (Cond.selects "NumberHouse" ({ cls := "NumberHouse", name := "print", desc := "(III)I" } : MethodName) ({ cls := "NumberHouse", name := "print", desc := "(III)I" } : MethodName)) ∈ q_tbl := q_of7 95 rfl (by decide +kernel)
theorem LV_NL_62 : q_LV "NumberHouseLaw" 62 y_NH_print prog_1_method_17_code 4 (some .int) 3 := ⟨w_1536, w_1, w_1533, w_1534, w_1535, ⟨by decide, by decide, by decide +kernel⟩⟩
theorem d_17_7 : decode method_17_code 7 = .ok (.invokevirtual 62, 3) := by decide +kernel
theorem d_17_15 : decode method_17_code 15 = .ok (.astore 5, 2) := by decide +kernel
theorem d_17_17 : decode method_17_code 17 = .ok (.iconst 1, 1) := by decide +kernel
theorem d_17_18 : decode method_17_code 18 = .ok (.ireturn, 1) := by decide +kernel
theorem d_17_10 : decode method_17_code 10 = .ok (.i2l, 1) := by decide +kernel
theorem d_17_11 : decode method_17_code 11 = .ok (.lastore, 1) := by decide +kernel
theorem d_17_12 : decode method_17_code 12 = .ok (.goto 7, 3) := by decide +kernel
theorem d_17_19 : decode method_17_code 19 = .ok (.iconst 0, 1) := by decide +kernel
theorem d_17_20 : decode method_17_code 20 = .ok (.ireturn, 1) := by decide +kernel
def y_NL_print : MethodName := ⟨"NumberHouseLaw", "print", "(LNumberHouse;III[J)I"⟩
set_option maxRecDepth 100000 in
set_option maxHeartbeats 4000000 in
theorem w_NL_print (l : Launch) (D : va_G) (g : Nat → ClassId) (q : Nat → Nat) (ws : va_W) (qo : Nat) (fo : Nat → Int64) (x2 : Int32) (x3 : Int32) (x4 : Int32) (hlt : l.stackTraces = false) (hI : q_I (nsh g q) q ws) (hC : iC g q ws) (hO : ws[169]? = (some (qo, .inl (g 1, 1, .inr (.inl fo))) : Option (Nat × va_E))) : ∀ sz, Met l y_NL_print (q_wW y_NL_print method_17_code 6 (some .int) [(0, 12, 15, 13)]) (q_rm 10 2 12) (q_P D g [.ref (q 0), .int x2, .int x3, .int x4, .ref qo] ws sz) (va_Qi (fun _ u => q_I (nsh g q) q u ∧ iC g q u ∧ (∃ f2 : Nat → Int64, u[169]? = (some (qo, .inl (g 1, 1, .inr (.inl f2))) : Option (Nat × va_E))) ∧ ∀ i, 116 ≤ i → i ≠ 169 → u[i]? = ws[i]?) (q_B D g (va_A ws sz)) (va_A ws sz)) 2 12 (va_A ws sz) := by
  intro sz
  refine q_intoW (by decide) (Nat.le_of_ble_eq_true rfl) ?_
  intro p e s m below meth c ls hsz C0 V ht hl
  have hx := C0.1
  have hb := C0.2.1
  have hl : lv_has ls 6 [(0, .ref (q 0)), (1, .int x2), (2, .int x3), (3, .int x4), (4, .ref qo)] := hl
  obtain ⟨E0, hP0, hE0⟩ := hI 0 _ (n_s0 g q)
  unfold k_0 at hE0
  subst hE0
  refine lv_aload hx hb d_17_0 (lv_at hl 4 rfl) ?_
  refine lv_iconst (v := 0) hx hb d_17_2 (by decide) ?_
  refine lv_aload_n hx hb d_17_3 rfl (lv_at hl 0 rfl) ?_
  refine lv_iload_n hx hb d_17_4 rfl (lv_at hl 1 rfl) ?_
  refine lv_iload_n hx hb d_17_5 rfl (lv_at hl 2 rfl) ?_
  refine lv_iload_n hx hb d_17_6 rfl (lv_at hl 3 rfl) ?_
  refine q_goxi V (q_runVX (As := [.int x2, .int x3, .int x4]) (rest := [.int 0, .ref qo]) (d := 9) (mc := 2) (ms := 12) (ci := 0) C0 V rfl LV_NL_62 (C_print l D g q ws x2 x3 x4 hlt hI hC _) rfl rfl hP0 rfl hl.1 rfl (Nat.le_of_ble_eq_true rfl) ⟨by decide, by decide⟩ ⟨Nat.le_of_ble_eq_true rfl, Nat.le_of_ble_eq_true rfl⟩ d_17_7) (fun qx Ex ce u1 H locs hp V hce hcv hcl => ?_) (fun rv u1 H locs hp V => ?_)
  ·
    obtain ⟨⟨cc, hE, hc⟩, hJ⟩ := hp
    have hO : u1[169]? = (some (qo, .inl (g 1, 1, .inr (.inl fo))) : Option (Nat × va_E)) := (hJ.2.2 169 (Nat.le_of_ble_eq_true rfl)).trans hO
    subst hc
    obtain rfl : Ex = "java/lang/IllegalArgumentException" := hE.trans qE1.symm
    refine q_catch hce hcv hcl (fun pl hpl => q_hY C0 V rfl ht ⟨by decide, by decide⟩ (by decide) w_486 wo_496 hcl pl hpl) ?_
    refine lv_astore (lv' := [(5, .ref qx), (0, .ref (q 0)), (1, .int x2), (2, .int x3), (3, .int x4), (4, .ref qo)]) hx hb d_17_15 hl (by decide) rfl (fun ls hl => ?_)
    refine lv_iconst (v := 1) hx hb d_17_17 (by decide) ?_
    exact q_reti C0 V (⟨hJ.1, hJ.2.1, ⟨_, hO⟩, fun i h1 _ => hJ.2.2 i h1⟩) d_17_18
  ·
    have hJ := hp
    have hO : u1[169]? = (some (qo, .inl (g 1, 1, .inr (.inl fo))) : Option (Nat × va_E)) := (hJ.2.2 169 (Nat.le_of_ble_eq_true rfl)).trans hO
    refine lv_i2l hx hb d_17_10 rfl ?_
    refine q_last C0 V hO (by unfold vp_in; decide) d_17_11 (fun H locs w1 hu2 hO V => ?_)
    refine lv_goto (tgt := 19) hx hb d_17_12 (by decide) ?_
    refine lv_iconst (v := 0) hx hb d_17_19 (by decide) ?_
    exact q_reti C0 V (⟨w_nI hJ.1 hu2, w_nC hJ.2.1 hu2, ⟨_, hO⟩, fun i h1 h2 => (hu2 i h2).trans (hJ.2.2 i h1)⟩) d_17_20
theorem d_18_0 : decode method_18_code 0 = .ok (.aload 6, 2) := by decide +kernel
theorem d_18_2 : decode method_18_code 2 = .ok (.iconst 0, 1) := by decide +kernel
theorem d_18_3 : decode method_18_code 3 = .ok (.aload_n 0, 1) := by decide +kernel
theorem d_18_4 : decode method_18_code 4 = .ok (.iload_n 1, 1) := by decide +kernel
theorem d_18_5 : decode method_18_code 5 = .ok (.iload_n 2, 1) := by decide +kernel
theorem d_18_6 : decode method_18_code 6 = .ok (.iload_n 3, 1) := by decide +kernel
theorem d_18_7 : decode method_18_code 7 = .ok (.iload 4, 2) := by decide +kernel
theorem d_18_9 : decode method_18_code 9 = .ok (.iload 5, 2) := by decide +kernel
set_option maxRecDepth 100000 in
theorem w_1646 : (Cond.code ({ cls := "NumberHouse", name := "figures", desc := "(IIZII)I" } : MethodName) prog_1_method_18_code (9 : Nat) (some .int)) ∈ q_tbl := q_of7 206 rfl (by decide +kernel)
set_option maxRecDepth 100000 in
theorem w_1643 : (Cond.methodLink "NumberHouseLaw" (65 : Nat) ({ cls := "NumberHouse", name := "figures", desc := "(IIZII)I" } : MethodName)) ∈ q_tbl := q_of7 203 rfl (by decide +kernel)
set_option maxRecDepth 100000 in
theorem w_1644 : (Cond.instanceMethod ({ cls := "NumberHouse", name := "figures", desc := "(IIZII)I" } : MethodName)) ∈ q_tbl := q_of7 204 rfl (by decide +kernel)
set_option maxRecDepth 100000 in
theorem w_1645 : (Cond.selects "NumberHouse" ({ cls := "NumberHouse", name := "figures", desc := "(IIZII)I" } : MethodName) ({ cls := "NumberHouse", name := "figures", desc := "(IIZII)I" } : MethodName)) ∈ q_tbl := q_of7 205 rfl (by decide +kernel)
theorem LV_NL_65 : q_LV "NumberHouseLaw" 65 y_NH_figures prog_1_method_18_code 9 (some .int) 5 := ⟨w_1646, w_1, w_1643, w_1644, w_1645, ⟨by decide, by decide, by decide +kernel⟩⟩
theorem d_18_11 : decode method_18_code 11 = .ok (.invokevirtual 65, 3) := by decide +kernel
theorem d_18_19 : decode method_18_code 19 = .ok (.astore 7, 2) := by decide +kernel
theorem d_18_21 : decode method_18_code 21 = .ok (.iconst 1, 1) := by decide +kernel
theorem d_18_22 : decode method_18_code 22 = .ok (.ireturn, 1) := by decide +kernel
theorem d_18_23 : decode method_18_code 23 = .ok (.astore 7, 2) := by decide +kernel
theorem d_18_25 : decode method_18_code 25 = .ok (.iconst 2, 1) := by decide +kernel
theorem d_18_26 : decode method_18_code 26 = .ok (.ireturn, 1) := by decide +kernel
theorem d_18_14 : decode method_18_code 14 = .ok (.i2l, 1) := by decide +kernel
theorem d_18_15 : decode method_18_code 15 = .ok (.lastore, 1) := by decide +kernel
theorem d_18_16 : decode method_18_code 16 = .ok (.goto 11, 3) := by decide +kernel
theorem d_18_27 : decode method_18_code 27 = .ok (.iconst 0, 1) := by decide +kernel
theorem d_18_28 : decode method_18_code 28 = .ok (.ireturn, 1) := by decide +kernel
def y_NL_figures : MethodName := ⟨"NumberHouseLaw", "figures", "(LNumberHouse;IIZII[J)I"⟩
set_option maxRecDepth 100000 in
set_option maxHeartbeats 4000000 in
theorem w_NL_figures (l : Launch) (D : va_G) (g : Nat → ClassId) (q : Nat → Nat) (ws : va_W) (qo : Nat) (fo : Nat → Int64) (x2 : Int32) (x3 : Int32) (x4 : Int32) (x5 : Int32) (x6 : Int32) (hz4 : 0 ≤ x4.toInt ∧ x4.toInt ≤ 1) (hlt : l.stackTraces = false) (hI : q_I (nsh g q) q ws) (hC : iC g q ws) (hO : ws[169]? = (some (qo, .inl (g 1, 1, .inr (.inl fo))) : Option (Nat × va_E))) : ∀ sz, Met l y_NL_figures (q_wW y_NL_figures method_18_code 8 (some .int) [(0, 16, 19, 13), (0, 16, 23, 19)]) (q_rm 9 3 18) (q_P D g [.ref (q 0), .int x2, .int x3, .int x4, .int x5, .int x6, .ref qo] ws sz) (va_Qi (fun _ u => q_I (nsh g q) q u ∧ iC g q u ∧ (∃ f2 : Nat → Int64, u[169]? = (some (qo, .inl (g 1, 1, .inr (.inl f2))) : Option (Nat × va_E))) ∧ ∀ i, 116 ≤ i → i ≠ 169 → u[i]? = ws[i]?) (q_B D g (va_A ws sz)) (va_A ws sz)) 3 18 (va_A ws sz) := by
  intro sz
  refine q_intoW (by decide) (Nat.le_of_ble_eq_true rfl) ?_
  intro p e s m below meth c ls hsz C0 V ht hl
  have hx := C0.1
  have hb := C0.2.1
  have hl : lv_has ls 8 [(0, .ref (q 0)), (1, .int x2), (2, .int x3), (3, .int x4), (4, .int x5), (5, .int x6), (6, .ref qo)] := hl
  obtain ⟨E0, hP0, hE0⟩ := hI 0 _ (n_s0 g q)
  unfold k_0 at hE0
  subst hE0
  refine lv_aload hx hb d_18_0 (lv_at hl 6 rfl) ?_
  refine lv_iconst (v := 0) hx hb d_18_2 (by decide) ?_
  refine lv_aload_n hx hb d_18_3 rfl (lv_at hl 0 rfl) ?_
  refine lv_iload_n hx hb d_18_4 rfl (lv_at hl 1 rfl) ?_
  refine lv_iload_n hx hb d_18_5 rfl (lv_at hl 2 rfl) ?_
  refine lv_iload_n hx hb d_18_6 rfl (lv_at hl 3 rfl) ?_
  refine lv_iload hx hb d_18_7 (lv_at hl 4 rfl) ?_
  refine lv_iload hx hb d_18_9 (lv_at hl 5 rfl) ?_
  refine q_goxi V (q_runVX (As := [.int x2, .int x3, .int x4, .int x5, .int x6]) (rest := [.int 0, .ref qo]) (d := 8) (mc := 3) (ms := 18) (ci := 0) C0 V rfl LV_NL_65 (C_figures l D g q ws x2 x3 x4 x5 x6 hz4 hlt hI hC _) rfl rfl hP0 rfl hl.1 rfl (Nat.le_of_ble_eq_true rfl) ⟨by decide, by decide⟩ ⟨Nat.le_of_ble_eq_true rfl, Nat.le_of_ble_eq_true rfl⟩ d_18_11) (fun qx Ex ce u1 H locs hp V hce hcv hcl => ?_) (fun rv u1 H locs hp V => ?_)
  ·
    obtain ⟨⟨cc, hE, hc⟩, hJ⟩ := hp
    have hO : u1[169]? = (some (qo, .inl (g 1, 1, .inr (.inl fo))) : Option (Nat × va_E)) := (hJ.2.2 169 (Nat.le_of_ble_eq_true rfl)).trans hO
    rcases hc with rfl | rfl
    ·
      obtain rfl : Ex = "java/lang/IllegalArgumentException" := hE.trans qE1.symm
      refine q_catch hce hcv hcl (fun pl hpl => q_hY C0 V rfl ht ⟨by decide, by decide⟩ (by decide) w_486 wo_496 hcl pl hpl) ?_
      refine lv_astore (lv' := [(7, .ref qx), (0, .ref (q 0)), (1, .int x2), (2, .int x3), (3, .int x4), (4, .int x5), (5, .int x6), (6, .ref qo)]) hx hb d_18_19 hl (by decide) rfl (fun ls hl => ?_)
      refine lv_iconst (v := 1) hx hb d_18_21 (by decide) ?_
      exact q_reti C0 V (⟨hJ.1, hJ.2.1, ⟨_, hO⟩, fun i h1 _ => hJ.2.2 i h1⟩) d_18_22
    ·
      obtain rfl : Ex = "java/lang/ArithmeticException" := hE.trans qE2.symm
      refine q_catch hce hcv hcl (fun pl hpl => q_hN C0 rfl ht ⟨by decide, by decide⟩ (by decide) w_486 (V.2.2.2.2.1.2.1.2.2.1) hcl pl hpl (fun t ht2 => q_hY C0 V rfl ht2 ⟨by decide, by decide⟩ (by decide) w_570 wo_1069 hcl pl hpl)) ?_
      refine lv_astore (lv' := [(7, .ref qx), (0, .ref (q 0)), (1, .int x2), (2, .int x3), (3, .int x4), (4, .int x5), (5, .int x6), (6, .ref qo)]) hx hb d_18_23 hl (by decide) rfl (fun ls hl => ?_)
      refine lv_iconst (v := 2) hx hb d_18_25 (by decide) ?_
      exact q_reti C0 V (⟨hJ.1, hJ.2.1, ⟨_, hO⟩, fun i h1 _ => hJ.2.2 i h1⟩) d_18_26
  ·
    have hJ := hp
    have hO : u1[169]? = (some (qo, .inl (g 1, 1, .inr (.inl fo))) : Option (Nat × va_E)) := (hJ.2.2 169 (Nat.le_of_ble_eq_true rfl)).trans hO
    refine lv_i2l hx hb d_18_14 rfl ?_
    refine q_last C0 V hO (by unfold vp_in; decide) d_18_15 (fun H locs w1 hu2 hO V => ?_)
    refine lv_goto (tgt := 27) hx hb d_18_16 (by decide) ?_
    refine lv_iconst (v := 0) hx hb d_18_27 (by decide) ?_
    exact q_reti C0 V (⟨w_nI hJ.1 hu2, w_nC hJ.2.1 hu2, ⟨_, hO⟩, fun i h1 h2 => (hu2 i h2).trans (hJ.2.2 i h1)⟩) d_18_28
theorem d_19_0 : decode method_19_code 0 = .ok (.aload_n 3, 1) := by decide +kernel
theorem d_19_1 : decode method_19_code 1 = .ok (.iconst 0, 1) := by decide +kernel
theorem d_19_2 : decode method_19_code 2 = .ok (.aload_n 0, 1) := by decide +kernel
theorem d_19_3 : decode method_19_code 3 = .ok (.iload_n 1, 1) := by decide +kernel
theorem d_19_4 : decode method_19_code 4 = .ok (.iload_n 2, 1) := by decide +kernel
set_option maxRecDepth 100000 in
theorem w_1677 : (Cond.code ({ cls := "NumberHouse", name := "argument", desc := "(II)I" } : MethodName) prog_1_method_19_code (3 : Nat) (some .int)) ∈ q_tbl := q_of7 237 rfl (by decide +kernel)
set_option maxRecDepth 100000 in
theorem w_1674 : (Cond.methodLink "NumberHouseLaw" (69 : Nat) ({ cls := "NumberHouse", name := "argument", desc := "(II)I" } : MethodName)) ∈ q_tbl := q_of7 234 rfl (by decide +kernel)
set_option maxRecDepth 100000 in
theorem w_1675 : (Cond.instanceMethod ({ cls := "NumberHouse", name := "argument", desc := "(II)I" } : MethodName)) ∈ q_tbl := q_of7 235 rfl (by decide +kernel)
set_option maxRecDepth 100000 in
theorem w_1676 : (Cond.selects "NumberHouse" ({ cls := "NumberHouse", name := "argument", desc := "(II)I" } : MethodName) ({ cls := "NumberHouse", name := "argument", desc := "(II)I" } : MethodName)) ∈ q_tbl := q_of7 236 rfl (by decide +kernel)
theorem LV_NL_69 : q_LV "NumberHouseLaw" 69 y_NH_argument prog_1_method_19_code 3 (some .int) 2 := ⟨w_1677, w_1, w_1674, w_1675, w_1676, ⟨by decide, by decide, by decide +kernel⟩⟩
theorem d_19_5 : decode method_19_code 5 = .ok (.invokevirtual 69, 3) := by decide +kernel
theorem d_19_13 : decode method_19_code 13 = .ok (.astore 4, 2) := by decide +kernel
theorem d_19_15 : decode method_19_code 15 = .ok (.iconst 1, 1) := by decide +kernel
theorem d_19_16 : decode method_19_code 16 = .ok (.ireturn, 1) := by decide +kernel
theorem d_19_17 : decode method_19_code 17 = .ok (.astore 4, 2) := by decide +kernel
theorem d_19_19 : decode method_19_code 19 = .ok (.iconst 2, 1) := by decide +kernel
theorem d_19_20 : decode method_19_code 20 = .ok (.ireturn, 1) := by decide +kernel
set_option maxRecDepth 100000 in
theorem w_1673 : (Cond.classLink "NumberHouseLaw" (73 : Nat) "java/lang/IllegalStateException") ∈ q_tbl := q_of7 233 rfl (by decide +kernel)
set_option maxRecDepth 100000 in
theorem wo_1690 : (Cond.castable "java/lang/IllegalStateException" "java/lang/IllegalStateException") ∈ q_odd := q_oo8 10 rfl (by decide +kernel)
theorem d_19_21 : decode method_19_code 21 = .ok (.astore 4, 2) := by decide +kernel
theorem d_19_23 : decode method_19_code 23 = .ok (.iconst 3, 1) := by decide +kernel
theorem d_19_24 : decode method_19_code 24 = .ok (.ireturn, 1) := by decide +kernel
theorem d_19_8 : decode method_19_code 8 = .ok (.i2l, 1) := by decide +kernel
theorem d_19_9 : decode method_19_code 9 = .ok (.lastore, 1) := by decide +kernel
theorem d_19_10 : decode method_19_code 10 = .ok (.goto 15, 3) := by decide +kernel
theorem d_19_25 : decode method_19_code 25 = .ok (.iconst 0, 1) := by decide +kernel
theorem d_19_26 : decode method_19_code 26 = .ok (.ireturn, 1) := by decide +kernel
def y_NL_argument : MethodName := ⟨"NumberHouseLaw", "argument", "(LNumberHouse;II[J)I"⟩
set_option maxRecDepth 100000 in
set_option maxHeartbeats 4000000 in
theorem w_NL_argument (l : Launch) (D : va_G) (g : Nat → ClassId) (q : Nat → Nat) (ws : va_W) (qo : Nat) (fo : Nat → Int64) (x2 : Int32) (x3 : Int32) (hlt : l.stackTraces = false) (hI : q_I (nsh g q) q ws) (hC : iC g q ws) (hO : ws[169]? = (some (qo, .inl (g 1, 1, .inr (.inl fo))) : Option (Nat × va_E))) : ∀ sz, Met l y_NL_argument (q_wW y_NL_argument method_19_code 5 (some .int) [(0, 10, 13, 13), (0, 10, 17, 19), (0, 10, 21, 73)]) (q_rm 9 6 36) (q_P D g [.ref (q 0), .int x2, .int x3, .ref qo] ws sz) (va_Qi (fun _ u => q_I (nsh g q) q u ∧ iC g q u ∧ (∃ f2 : Nat → Int64, u[169]? = (some (qo, .inl (g 1, 1, .inr (.inl f2))) : Option (Nat × va_E))) ∧ ∀ i, 116 ≤ i → i ≠ 169 → u[i]? = ws[i]?) (q_B D g (va_A ws sz)) (va_A ws sz)) 6 36 (va_A ws sz) := by
  intro sz
  refine q_intoW (by decide) (Nat.le_of_ble_eq_true rfl) ?_
  intro p e s m below meth c ls hsz C0 V ht hl
  have hx := C0.1
  have hb := C0.2.1
  have hl : lv_has ls 5 [(0, .ref (q 0)), (1, .int x2), (2, .int x3), (3, .ref qo)] := hl
  obtain ⟨E0, hP0, hE0⟩ := hI 0 _ (n_s0 g q)
  unfold k_0 at hE0
  subst hE0
  refine lv_aload_n hx hb d_19_0 rfl (lv_at hl 3 rfl) ?_
  refine lv_iconst (v := 0) hx hb d_19_1 (by decide) ?_
  refine lv_aload_n hx hb d_19_2 rfl (lv_at hl 0 rfl) ?_
  refine lv_iload_n hx hb d_19_3 rfl (lv_at hl 1 rfl) ?_
  refine lv_iload_n hx hb d_19_4 rfl (lv_at hl 2 rfl) ?_
  refine q_goxi V (q_runVX (As := [.int x2, .int x3]) (rest := [.int 0, .ref qo]) (d := 8) (mc := 6) (ms := 36) (ci := 0) C0 V rfl LV_NL_69 (C_argument l D g q ws x2 x3 hlt hI hC _) rfl rfl hP0 rfl hl.1 rfl (Nat.le_of_ble_eq_true rfl) ⟨by decide, by decide⟩ ⟨Nat.le_of_ble_eq_true rfl, Nat.le_of_ble_eq_true rfl⟩ d_19_5) (fun qx Ex ce u1 H locs hp V hce hcv hcl => ?_) (fun rv u1 H locs hp V => ?_)
  ·
    obtain ⟨⟨cc, hE, hc⟩, hJ⟩ := hp
    have hO : u1[169]? = (some (qo, .inl (g 1, 1, .inr (.inl fo))) : Option (Nat × va_E)) := (hJ.2.2 169 (Nat.le_of_ble_eq_true rfl)).trans hO
    rcases hc with rfl | rfl | rfl
    ·
      obtain rfl : Ex = "java/lang/IllegalArgumentException" := hE.trans qE1.symm
      refine q_catch hce hcv hcl (fun pl hpl => q_hY C0 V rfl ht ⟨by decide, by decide⟩ (by decide) w_486 wo_496 hcl pl hpl) ?_
      refine lv_astore (lv' := [(4, .ref qx), (0, .ref (q 0)), (1, .int x2), (2, .int x3), (3, .ref qo)]) hx hb d_19_13 hl (by decide) rfl (fun ls hl => ?_)
      refine lv_iconst (v := 1) hx hb d_19_15 (by decide) ?_
      exact q_reti C0 V (⟨hJ.1, hJ.2.1, ⟨_, hO⟩, fun i h1 _ => hJ.2.2 i h1⟩) d_19_16
    ·
      obtain rfl : Ex = "java/lang/ArithmeticException" := hE.trans qE2.symm
      refine q_catch hce hcv hcl (fun pl hpl => q_hN C0 rfl ht ⟨by decide, by decide⟩ (by decide) w_486 (V.2.2.2.2.1.2.1.2.2.1) hcl pl hpl (fun t ht2 => q_hY C0 V rfl ht2 ⟨by decide, by decide⟩ (by decide) w_570 wo_1069 hcl pl hpl)) ?_
      refine lv_astore (lv' := [(4, .ref qx), (0, .ref (q 0)), (1, .int x2), (2, .int x3), (3, .ref qo)]) hx hb d_19_17 hl (by decide) rfl (fun ls hl => ?_)
      refine lv_iconst (v := 2) hx hb d_19_19 (by decide) ?_
      exact q_reti C0 V (⟨hJ.1, hJ.2.1, ⟨_, hO⟩, fun i h1 _ => hJ.2.2 i h1⟩) d_19_20
    ·
      obtain rfl : Ex = "java/lang/IllegalStateException" := hE.trans qE3.symm
      refine q_catch hce hcv hcl (fun pl hpl => q_hN C0 rfl ht ⟨by decide, by decide⟩ (by decide) w_486 (V.2.2.2.2.1.2.1.2.2.2.1) hcl pl hpl (fun t ht2 => q_hN C0 rfl ht2 ⟨by decide, by decide⟩ (by decide) w_570 (V.2.2.2.2.1.2.1.2.2.2.2) hcl pl hpl (fun t ht2 => q_hY C0 V rfl ht2 ⟨by decide, by decide⟩ (by decide) w_1673 wo_1690 hcl pl hpl))) ?_
      refine lv_astore (lv' := [(4, .ref qx), (0, .ref (q 0)), (1, .int x2), (2, .int x3), (3, .ref qo)]) hx hb d_19_21 hl (by decide) rfl (fun ls hl => ?_)
      refine lv_iconst (v := 3) hx hb d_19_23 (by decide) ?_
      exact q_reti C0 V (⟨hJ.1, hJ.2.1, ⟨_, hO⟩, fun i h1 _ => hJ.2.2 i h1⟩) d_19_24
  ·
    have hJ := hp
    have hO : u1[169]? = (some (qo, .inl (g 1, 1, .inr (.inl fo))) : Option (Nat × va_E)) := (hJ.2.2 169 (Nat.le_of_ble_eq_true rfl)).trans hO
    refine lv_i2l hx hb d_19_8 rfl ?_
    refine q_last C0 V hO (by unfold vp_in; decide) d_19_9 (fun H locs w1 hu2 hO V => ?_)
    refine lv_goto (tgt := 25) hx hb d_19_10 (by decide) ?_
    refine lv_iconst (v := 0) hx hb d_19_25 (by decide) ?_
    exact q_reti C0 V (⟨w_nI hJ.1 hu2, w_nC hJ.2.1 hu2, ⟨_, hO⟩, fun i h1 h2 => (hu2 i h2).trans (hJ.2.2 i h1)⟩) d_19_26
theorem d_20_0 : decode method_20_code 0 = .ok (.aload_n 1, 1) := by decide +kernel
theorem d_20_1 : decode method_20_code 1 = .ok (.iconst 0, 1) := by decide +kernel
theorem d_20_2 : decode method_20_code 2 = .ok (.aload_n 0, 1) := by decide +kernel
set_option maxRecDepth 100000 in
theorem w_1729 : (Cond.code ({ cls := "NumberHouse", name := "format", desc := "()I" } : MethodName) prog_1_method_20_code (2 : Nat) (some .int)) ∈ q_tbl := q_of8 49 rfl (by decide +kernel)
set_option maxRecDepth 100000 in
theorem w_1726 : (Cond.methodLink "NumberHouseLaw" (75 : Nat) ({ cls := "NumberHouse", name := "format", desc := "()I" } : MethodName)) ∈ q_tbl := q_of8 46 rfl (by decide +kernel)
set_option maxRecDepth 100000 in
theorem w_1727 : (Cond.instanceMethod ({ cls := "NumberHouse", name := "format", desc := "()I" } : MethodName)) ∈ q_tbl := q_of8 47 rfl (by decide +kernel)
set_option maxRecDepth 100000 in
theorem w_1728 : (Cond.selects "NumberHouse" ({ cls := "NumberHouse", name := "format", desc := "()I" } : MethodName) ({ cls := "NumberHouse", name := "format", desc := "()I" } : MethodName)) ∈ q_tbl := q_of8 48 rfl (by decide +kernel)
theorem LV_NL_75 : q_LV "NumberHouseLaw" 75 y_NH_format prog_1_method_20_code 2 (some .int) 0 := ⟨w_1729, w_1, w_1726, w_1727, w_1728, ⟨by decide, by decide, by decide +kernel⟩⟩
theorem d_20_3 : decode method_20_code 3 = .ok (.invokevirtual 75, 3) := by decide +kernel
theorem d_20_11 : decode method_20_code 11 = .ok (.astore_n 2, 1) := by decide +kernel
theorem d_20_12 : decode method_20_code 12 = .ok (.iconst 1, 1) := by decide +kernel
theorem d_20_13 : decode method_20_code 13 = .ok (.ireturn, 1) := by decide +kernel
theorem d_20_6 : decode method_20_code 6 = .ok (.i2l, 1) := by decide +kernel
theorem d_20_7 : decode method_20_code 7 = .ok (.lastore, 1) := by decide +kernel
theorem d_20_8 : decode method_20_code 8 = .ok (.goto 6, 3) := by decide +kernel
theorem d_20_14 : decode method_20_code 14 = .ok (.iconst 0, 1) := by decide +kernel
theorem d_20_15 : decode method_20_code 15 = .ok (.ireturn, 1) := by decide +kernel
def y_NL_format : MethodName := ⟨"NumberHouseLaw", "format", "(LNumberHouse;[J)I"⟩
set_option maxRecDepth 100000 in
set_option maxHeartbeats 4000000 in
theorem w_NL_format (l : Launch) (D : va_G) (g : Nat → ClassId) (q : Nat → Nat) (ws : va_W) (qo : Nat) (fo : Nat → Int64) (hlt : l.stackTraces = false) (hI : q_I (nsh g q) q ws) (hC : iC g q ws) (hO : ws[169]? = (some (qo, .inl (g 1, 1, .inr (.inl fo))) : Option (Nat × va_E))) : ∀ sz, Met l y_NL_format (q_wW y_NL_format method_20_code 3 (some .int) [(0, 8, 11, 73)]) (q_rm 11 1 6) (q_P D g [.ref (q 0), .ref qo] ws sz) (va_Qi (fun _ u => q_I (nsh g q) q u ∧ iC g q u ∧ (∃ f2 : Nat → Int64, u[169]? = (some (qo, .inl (g 1, 1, .inr (.inl f2))) : Option (Nat × va_E))) ∧ ∀ i, 116 ≤ i → i ≠ 169 → u[i]? = ws[i]?) (q_B D g (va_A ws sz)) (va_A ws sz)) 1 6 (va_A ws sz) := by
  intro sz
  refine q_intoW (by decide) (Nat.le_of_ble_eq_true rfl) ?_
  intro p e s m below meth c ls hsz C0 V ht hl
  have hx := C0.1
  have hb := C0.2.1
  have hl : lv_has ls 3 [(0, .ref (q 0)), (1, .ref qo)] := hl
  obtain ⟨E0, hP0, hE0⟩ := hI 0 _ (n_s0 g q)
  unfold k_0 at hE0
  subst hE0
  refine lv_aload_n hx hb d_20_0 rfl (lv_at hl 1 rfl) ?_
  refine lv_iconst (v := 0) hx hb d_20_1 (by decide) ?_
  refine lv_aload_n hx hb d_20_2 rfl (lv_at hl 0 rfl) ?_
  refine q_goxi V (q_runVX (As := []) (rest := [.int 0, .ref qo]) (d := 10) (mc := 1) (ms := 6) (ci := 0) C0 V rfl LV_NL_75 (C_format l D g q ws hlt hI hC _) rfl rfl hP0 rfl hl.1 rfl (Nat.le_of_ble_eq_true rfl) ⟨by decide, by decide⟩ ⟨Nat.le_of_ble_eq_true rfl, Nat.le_of_ble_eq_true rfl⟩ d_20_3) (fun qx Ex ce u1 H locs hp V hce hcv hcl => ?_) (fun rv u1 H locs hp V => ?_)
  ·
    obtain ⟨⟨cc, hE, hc⟩, hJ⟩ := hp
    have hO : u1[169]? = (some (qo, .inl (g 1, 1, .inr (.inl fo))) : Option (Nat × va_E)) := (hJ.2.2 169 (Nat.le_of_ble_eq_true rfl)).trans hO
    subst hc
    obtain rfl : Ex = "java/lang/IllegalStateException" := hE.trans qE3.symm
    refine q_catch hce hcv hcl (fun pl hpl => q_hY C0 V rfl ht ⟨by decide, by decide⟩ (by decide) w_1673 wo_1690 hcl pl hpl) ?_
    refine lv_astore_n (lv' := [(2, .ref qx), (0, .ref (q 0)), (1, .ref qo)]) hx hb d_20_11 rfl hl (by decide) rfl (fun ls hl => ?_)
    refine lv_iconst (v := 1) hx hb d_20_12 (by decide) ?_
    exact q_reti C0 V (⟨hJ.1, hJ.2.1, ⟨_, hO⟩, fun i h1 _ => hJ.2.2 i h1⟩) d_20_13
  ·
    have hJ := hp
    have hO : u1[169]? = (some (qo, .inl (g 1, 1, .inr (.inl fo))) : Option (Nat × va_E)) := (hJ.2.2 169 (Nat.le_of_ble_eq_true rfl)).trans hO
    refine lv_i2l hx hb d_20_6 rfl ?_
    refine q_last C0 V hO (by unfold vp_in; decide) d_20_7 (fun H locs w1 hu2 hO V => ?_)
    refine lv_goto (tgt := 14) hx hb d_20_8 (by decide) ?_
    refine lv_iconst (v := 0) hx hb d_20_14 (by decide) ?_
    exact q_reti C0 V (⟨w_nI hJ.1 hu2, w_nC hJ.2.1 hu2, ⟨_, hO⟩, fun i h1 h2 => (hu2 i h2).trans (hJ.2.2 i h1)⟩) d_20_15
/-! the law, case 0: feed -/
theorem d_136 : decode code 136 = .ok (.aload_n 1, 1) := by decide +kernel
theorem d_137 : decode code 137 = .ok (.aload_n 0, 1) := by decide +kernel
theorem d_138 : decode code 138 = .ok (.iload 4, 2) := by decide +kernel
theorem d_140 : decode code 140 = .ok (.iconst 1, 1) := by decide +kernel
theorem d_141 : decode code 141 = .ok (.iadd, 1) := by decide +kernel
theorem d_142 : decode code 142 = .ok (.iaload, 1) := by decide +kernel
theorem d_143 : decode code 143 = .ok (.aload_n 0, 1) := by decide +kernel
theorem d_144 : decode code 144 = .ok (.iload 4, 2) := by decide +kernel
theorem d_146 : decode code 146 = .ok (.iconst 2, 1) := by decide +kernel
theorem d_147 : decode code 147 = .ok (.iadd, 1) := by decide +kernel
theorem d_148 : decode code 148 = .ok (.iaload, 1) := by decide +kernel
theorem d_149 : decode code 149 = .ok (.i2l, 1) := by decide +kernel
theorem d_150 : decode code 150 = .ok (.bipush 32, 2) := by decide +kernel
theorem d_152 : decode code 152 = .ok (.lshl, 1) := by decide +kernel
theorem d_153 : decode code 153 = .ok (.aload_n 0, 1) := by decide +kernel
theorem d_154 : decode code 154 = .ok (.iload 4, 2) := by decide +kernel
theorem d_156 : decode code 156 = .ok (.iconst 3, 1) := by decide +kernel
theorem d_157 : decode code 157 = .ok (.iadd, 1) := by decide +kernel
theorem d_158 : decode code 158 = .ok (.iaload, 1) := by decide +kernel
theorem d_159 : decode code 159 = .ok (.i2l, 1) := by decide +kernel
set_option maxRecDepth 100000 in
theorem w_3232 : (Cond.constantLong "NumberHouseLaw" (83 : Nat) (4294967295 : Int64)) ∈ q_tbl := q_of14 112 rfl (by decide +kernel)
theorem d_160 : decode code 160 = .ok (.ldc2_w 83, 3) := by decide +kernel
theorem d_163 : decode code 163 = .ok (.land, 1) := by decide +kernel
theorem d_164 : decode code 164 = .ok (.lor, 1) := by decide +kernel
theorem d_165 : decode code 165 = .ok (.aload_n 3, 1) := by decide +kernel
set_option maxRecDepth 100000 in
theorem w_485 : (Cond.codeWith ({ cls := "NumberHouseLaw", name := "feed", desc := "(LNumberHouse;IJ[J)I" } : MethodName) method_3_code (6 : Nat) (some .int) [((0 : Nat), (11 : Nat), (14 : Nat), (13 : Nat))]) ∈ q_tbl := q_of3 5 rfl (by decide +kernel)
set_option maxRecDepth 100000 in
theorem w_0 : (Cond.initialized "NumberHouseLaw") ∈ q_tbl := q_of1 0 rfl (by decide +kernel)
set_option maxRecDepth 100000 in
theorem w_483 : (Cond.methodLink "NumberHouseLaw" (85 : Nat) ({ cls := "NumberHouseLaw", name := "feed", desc := "(LNumberHouse;IJ[J)I" } : MethodName)) ∈ q_tbl := q_of3 3 rfl (by decide +kernel)
set_option maxRecDepth 100000 in
theorem w_484 : (Cond.static ({ cls := "NumberHouseLaw", name := "feed", desc := "(LNumberHouse;IJ[J)I" } : MethodName)) ∈ q_tbl := q_of3 4 rfl (by decide +kernel)
theorem LW_NL_85 : q_LW "NumberHouseLaw" 85 y_NL_feed method_3_code 6 (some .int) [(0, 11, 14, 13)] 4 := ⟨w_485, w_0, w_483, w_484, ⟨by decide, by decide, by decide +kernel⟩⟩
theorem d_166 : decode code 166 = .ok (.invokestatic 85, 3) := by decide +kernel
theorem d_169 : decode code 169 = .ok (.istore 5, 2) := by decide +kernel
theorem d_171 : decode code 171 = .ok (.aload_n 2, 1) := by decide +kernel
theorem d_172 : decode code 172 = .ok (.aload_n 0, 1) := by decide +kernel
theorem d_173 : decode code 173 = .ok (.iload 4, 2) := by decide +kernel
theorem d_175 : decode code 175 = .ok (.iconst 1, 1) := by decide +kernel
theorem d_176 : decode code 176 = .ok (.iadd, 1) := by decide +kernel
theorem d_177 : decode code 177 = .ok (.iaload, 1) := by decide +kernel
theorem d_178 : decode code 178 = .ok (.aload_n 0, 1) := by decide +kernel
theorem d_179 : decode code 179 = .ok (.iload 4, 2) := by decide +kernel
theorem d_181 : decode code 181 = .ok (.iconst 2, 1) := by decide +kernel
theorem d_182 : decode code 182 = .ok (.iadd, 1) := by decide +kernel
theorem d_183 : decode code 183 = .ok (.iaload, 1) := by decide +kernel
theorem d_184 : decode code 184 = .ok (.i2l, 1) := by decide +kernel
theorem d_185 : decode code 185 = .ok (.bipush 32, 2) := by decide +kernel
theorem d_187 : decode code 187 = .ok (.lshl, 1) := by decide +kernel
theorem d_188 : decode code 188 = .ok (.aload_n 0, 1) := by decide +kernel
theorem d_189 : decode code 189 = .ok (.iload 4, 2) := by decide +kernel
theorem d_191 : decode code 191 = .ok (.iconst 3, 1) := by decide +kernel
theorem d_192 : decode code 192 = .ok (.iadd, 1) := by decide +kernel
theorem d_193 : decode code 193 = .ok (.iaload, 1) := by decide +kernel
theorem d_194 : decode code 194 = .ok (.i2l, 1) := by decide +kernel
theorem d_195 : decode code 195 = .ok (.ldc2_w 83, 3) := by decide +kernel
theorem d_198 : decode code 198 = .ok (.land, 1) := by decide +kernel
theorem d_199 : decode code 199 = .ok (.lor, 1) := by decide +kernel
set_option maxRecDepth 100000 in
theorem w_2342 : (Cond.code ({ cls := "NumberHouseModel", name := "feed", desc := "(IJ)I" } : MethodName) prog_14_method_3_code (5 : Nat) (some .int)) ∈ q_tbl := q_of10 182 rfl (by decide +kernel)
set_option maxRecDepth 100000 in
theorem w_2339 : (Cond.methodLink "NumberHouseLaw" (90 : Nat) ({ cls := "NumberHouseModel", name := "feed", desc := "(IJ)I" } : MethodName)) ∈ q_tbl := q_of10 179 rfl (by decide +kernel)
set_option maxRecDepth 100000 in
theorem w_2340 : (Cond.instanceMethod ({ cls := "NumberHouseModel", name := "feed", desc := "(IJ)I" } : MethodName)) ∈ q_tbl := q_of10 180 rfl (by decide +kernel)
set_option maxRecDepth 100000 in
theorem w_2341 : (Cond.selects "NumberHouseModel" ({ cls := "NumberHouseModel", name := "feed", desc := "(IJ)I" } : MethodName) ({ cls := "NumberHouseModel", name := "feed", desc := "(IJ)I" } : MethodName)) ∈ q_tbl := q_of10 181 rfl (by decide +kernel)
theorem LV_NL_90 : q_LV "NumberHouseLaw" 90 y_NM_feed prog_14_method_3_code 5 (some .int) 2 := ⟨w_2342, w_14, w_2339, w_2340, w_2341, ⟨by decide, by decide, by decide +kernel⟩⟩
theorem d_200 : decode code 200 = .ok (.invokevirtual 90, 3) := by decide +kernel
theorem d_203 : decode code 203 = .ok (.istore 6, 2) := by decide +kernel
theorem d_205 : decode code 205 = .ok (.goto 1074, 3) := by decide +kernel
set_option maxRecDepth 100000 in
set_option maxHeartbeats 4000000 in
theorem law_k0 {p : Program} {l : Launch} {e : Env} {s : State} {m : MethodId} {below : List Frame} {meth : Method} {c : Code} {b L : Nat} {xs : Nat → Int32} {D : va_G} {g : Nat → ClassId} {q : Nat → Nat} {qo : Nat} {A : Nat → Prop} {ws : va_W} {H : Heap} {locs : List Loc} {Q : State → Prop} {ls : Array Slot} {fo : Nat → Int64} {i0 : Int32} {cells slots : Nat} (hcb : cells ≤ 6000) (hsb : slots ≤ 300000) (hlt : l.stackTraces = false) (C0 : q_At p s m #[Value.ref b] meth c y_NL_law code 8 (some .boolean)) (hX : va_X b L xs s s.heap) (hbl : b < s.heap.size) (hbA : ¬ A b) (V : q_Wd D g A s ws H locs) (hI : q_I (nsh g q) q ws) (hC : iC g q ws) (hJ : q_I (msh g q) q ws) (hM : iM g q ws) (hO : ws[169]? = (some (qo, .inl (g 1, 1, .inr (.inl fo))) : Option (Nat × va_E))) (hi0 : 0 ≤ i0.toInt ∧ i0.toInt + 6 ≤ (L : Int) ∧ (L : Int) ≤ 3072) (hl : lv_has ls 8 [(4, .int i0), (3, .ref qo), (2, .ref (q 116)), (1, .ref (q 0)), (0, .ref b)]) (kend : ∀ (H : Heap) (locs : List Loc) (u : va_W) (f2 : Nat → Int64) (ls : Array Slot), q_Wd D g A s u H locs → q_I (nsh g q) q u → iC g q u → q_I (msh g q) q u → iM g q u → u[169]? = (some (qo, .inl (g 1, 1, .inr (.inl f2))) : Option (Nat × va_E)) → lv_has ls 8 [(4, .int i0), (3, .ref qo), (2, .ref (q 116)), (1, .ref (q 0)), (0, .ref b)] → W p l e room_1 s m #[Value.ref b] below meth c H locs (cells + 10) (slots + 100) Q (F0 m 1279 ls [])) : W p l e room_1 s m #[Value.ref b] below meth c H locs cells slots Q (F0 m 136 ls []) := by
  have hx := C0.1
  have hb := C0.2.1
  obtain ⟨a1, ha1⟩ : ∃ z : Int32, i0 + 1 = z := ⟨_, rfl⟩
  have hin1 : vp_in a1 L := w_in ha1 (by decide) hi0
  obtain ⟨s1, hs1⟩ : ∃ z : Int32, xs a1.toNatClampNeg = z := ⟨_, rfl⟩
  obtain ⟨a2, ha2⟩ : ∃ z : Int32, i0 + 2 = z := ⟨_, rfl⟩
  have hin2 : vp_in a2 L := w_in ha2 (by decide) hi0
  obtain ⟨s2, hs2⟩ : ∃ z : Int32, xs a2.toNatClampNeg = z := ⟨_, rfl⟩
  obtain ⟨a3, ha3⟩ : ∃ z : Int32, i0 + 3 = z := ⟨_, rfl⟩
  have hin3 : vp_in a3 L := w_in ha3 (by decide) hi0
  obtain ⟨s3, hs3⟩ : ∃ z : Int32, xs a3.toNatClampNeg = z := ⟨_, rfl⟩
  refine lv_aload_n hx hb d_136 rfl (lv_at hl 3 rfl) ?_
  refine lv_aload_n hx hb d_137 rfl (lv_at hl 4 rfl) ?_
  refine lv_iload hx hb d_138 (lv_at hl 0 rfl) ?_
  refine lv_iconst (v := 1) hx hb d_140 (by decide) ?_
  refine lv_iadd hx hb d_141 ?_
  refine q_ti (v := a1) ha1 ?_
  refine va_sld hx hb hX hbl hbA V.2.2.1 hin1 d_142 ?_
  refine q_ti (v := s1) hs1 ?_
  refine lv_aload_n hx hb d_143 rfl (lv_at hl 4 rfl) ?_
  refine lv_iload hx hb d_144 (lv_at hl 0 rfl) ?_
  refine lv_iconst (v := 2) hx hb d_146 (by decide) ?_
  refine lv_iadd hx hb d_147 ?_
  refine q_ti (v := a2) ha2 ?_
  refine va_sld hx hb hX hbl hbA V.2.2.1 hin2 d_148 ?_
  refine q_ti (v := s2) hs2 ?_
  refine lv_i2l hx hb d_149 rfl ?_
  refine lv_bipush (v := 32) hx hb d_150 (by decide) ?_
  refine lv_lshl hx hb d_152 rfl ?_
  refine lv_aload_n hx hb d_153 rfl (lv_at hl 4 rfl) ?_
  refine lv_iload hx hb d_154 (lv_at hl 0 rfl) ?_
  refine lv_iconst (v := 3) hx hb d_156 (by decide) ?_
  refine lv_iadd hx hb d_157 ?_
  refine q_ti (v := a3) ha3 ?_
  refine va_sld hx hb hX hbl hbA V.2.2.1 hin3 d_158 ?_
  refine q_ti (v := s3) hs3 ?_
  refine lv_i2l hx hb d_159 rfl ?_
  refine q_ldc2 C0 rfl w_3232 d_160 ?_
  refine lv_land hx hb d_163 ?_
  refine lv_lor hx hb d_164 ?_
  refine lv_aload_n hx hb d_165 rfl (lv_at hl 1 rfl) ?_
  refine q_goi V (q_runSW (As := [.ref (q 0), .int s1, .long (((s2.toInt64) <<< ((32 : Int32).toInt64 &&& 63)) ||| ((s3.toInt64) &&& 4294967295)), .ref qo]) (rest := []) (d := 9) (mc := 1) (ms := 6) C0 V rfl LW_NL_85 (w_NL_feed l D g q ws qo fo s1 (((s2.toInt64) <<< ((32 : Int32).toInt64 &&& 63)) ||| ((s3.toInt64) &&& 4294967295)) hlt hI hC hO _) rfl hl.1 rfl (Nat.le_of_ble_eq_true rfl) ⟨by decide, by decide⟩ ⟨w_rc (by omega) (by decide), w_rs (by omega) (by decide)⟩ d_166) (fun k1 u1 H locs hp V => ?_)
  obtain ⟨hI, hC, ⟨fo, hO⟩, hF⟩ := hp
  obtain ⟨hJ, hM⟩ : q_I (msh g q) q u1 ∧ iM g q u1 := w_cM hJ hM hI hF
  refine lv_istore (lv' := [(5, .int k1), (4, .int i0), (3, .ref qo), (2, .ref (q 116)), (1, .ref (q 0)), (0, .ref b)]) hx hb d_169 hl (by decide) rfl (fun ls hl => ?_)
  refine lv_aload_n hx hb d_171 rfl (lv_at hl 3 rfl) ?_
  refine lv_aload_n hx hb d_172 rfl (lv_at hl 5 rfl) ?_
  refine lv_iload hx hb d_173 (lv_at hl 1 rfl) ?_
  refine lv_iconst (v := 1) hx hb d_175 (by decide) ?_
  refine lv_iadd hx hb d_176 ?_
  refine q_ti (v := a1) ha1 ?_
  refine va_sld hx hb hX hbl hbA V.2.2.1 hin1 d_177 ?_
  refine q_ti (v := s1) hs1 ?_
  refine lv_aload_n hx hb d_178 rfl (lv_at hl 5 rfl) ?_
  refine lv_iload hx hb d_179 (lv_at hl 1 rfl) ?_
  refine lv_iconst (v := 2) hx hb d_181 (by decide) ?_
  refine lv_iadd hx hb d_182 ?_
  refine q_ti (v := a2) ha2 ?_
  refine va_sld hx hb hX hbl hbA V.2.2.1 hin2 d_183 ?_
  refine q_ti (v := s2) hs2 ?_
  refine lv_i2l hx hb d_184 rfl ?_
  refine lv_bipush (v := 32) hx hb d_185 (by decide) ?_
  refine lv_lshl hx hb d_187 rfl ?_
  refine lv_aload_n hx hb d_188 rfl (lv_at hl 5 rfl) ?_
  refine lv_iload hx hb d_189 (lv_at hl 1 rfl) ?_
  refine lv_iconst (v := 3) hx hb d_191 (by decide) ?_
  refine lv_iadd hx hb d_192 ?_
  refine q_ti (v := a3) ha3 ?_
  refine va_sld hx hb hX hbl hbA V.2.2.1 hin3 d_193 ?_
  refine q_ti (v := s3) hs3 ?_
  refine lv_i2l hx hb d_194 rfl ?_
  refine q_ldc2 C0 rfl w_3232 d_195 ?_
  refine lv_land hx hb d_198 ?_
  refine lv_lor hx hb d_199 ?_
  obtain ⟨rA, rB, rC, hP0, -⟩ := n_o116 hJ
  refine q_goi V (q_runV (As := [.int s1, .long (((s2.toInt64) <<< ((32 : Int32).toInt64 &&& 63)) ||| ((s3.toInt64) &&& 4294967295))]) (rest := []) (d := 1) (mc := 0) (ms := 0) (ci := 12) C0 V rfl LV_NL_90 (CM_feed l D g q u1 s1 (((s2.toInt64) <<< ((32 : Int32).toInt64 &&& 63)) ||| ((s3.toInt64) &&& 4294967295)) hJ hM _) rfl rfl hP0 rfl hl.1 rfl (Nat.le_of_ble_eq_true rfl) ⟨by decide, by decide⟩ ⟨w_rc (by omega) (by decide), w_rs (by omega) (by decide)⟩ d_200) (fun r2 u3 H locs hp V => ?_)
  obtain ⟨hJ, hM, hF⟩ := hp
  obtain ⟨hI, hC⟩ : q_I (nsh g q) q u3 ∧ iC g q u3 := w_cC hI hC (fun i h => hF i (by omega))
  have hO : u3[169]? = (some (qo, .inl (g 1, 1, .inr (.inl fo))) : Option (Nat × va_E)) := (hF 169 (by decide)).trans hO
  refine lv_istore (lv' := [(6, .int r2), (5, .int k1), (4, .int i0), (3, .ref qo), (2, .ref (q 116)), (1, .ref (q 0)), (0, .ref b)]) hx hb d_203 hl (by decide) rfl (fun ls hl => ?_)
  refine lv_goto (tgt := 1279) hx hb d_205 (by decide) ?_
  refine W.widen (k := cells + 10) (n := slots + 100) (by omega) (by omega) ?_
  exact kend _ _ _ _ _ V hI hC hJ hM hO (q_lw hl (q_lw1 2 rfl (q_lw1 3 rfl (q_lw1 4 rfl (q_lw1 5 rfl (q_lw1 6 rfl q_lw0))))))
