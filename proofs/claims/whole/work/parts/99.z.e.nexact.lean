/-! NumberHouseModel: exact, toWhole, toDecimal, toFloat, convert -/
theorem nm_fin {k : Int32} {v : Int64} (h : ¬ F_NM_isFinite k v = 0) : (k = 3 → fxE v 1 < fxM 1) ∧ (¬ k = 3 → fxE v 0 < fxM 0) := by
  have m8 : (255 : Int64).toBitVec.toNat = 255 := by decide
  have m11 : (2047 : Int64).toBitVec.toNat = 2047 := by decide
  unfold F_NM_isFinite at h
  refine ⟨fun e => ?_, fun e => ?_⟩
  · rw [if_pos e] at h
    unfold fxE fxM
    rw [if_neg (by decide), if_neg (by decide)]
    by_cases c : 0 ≤ lg_cmp (((v.toUInt64 >>> ((23 : Int32).toInt64.toUInt64 &&& Int64.toUInt64 63)).toInt64) &&& 255) 255
    · rw [if_pos c] at h; exact absurd rfl h
    · have z := g_lc6 c
      have e1 : ((((v.toUInt64 >>> ((23 : Int32).toInt64.toUInt64 &&& Int64.toUInt64 63)).toInt64) &&& 255 : Int64)).toBitVec.toNat = v.toBitVec.toNat / 2 ^ 23 % 2 ^ 8 := by
        rw [Int64.toBitVec_and, BitVec.toNat_and, fx_ush (k := 23) (by decide), m8]; exact Nat.and_two_pow_sub_one_eq_mod _ 8
      have e2 := s_ofL e1 (by omega)
      have e3 : (255 : Int64).toInt = 255 := by decide
      rw [e2, e3] at z
      exact z
  · rw [if_neg e] at h
    unfold fxE fxM
    rw [if_pos rfl, if_pos rfl]
    by_cases c : 0 ≤ lg_cmp (((v.toUInt64 >>> ((52 : Int32).toInt64.toUInt64 &&& Int64.toUInt64 63)).toInt64) &&& 2047) 2047
    · rw [if_pos c] at h; exact absurd rfl h
    · have z := g_lc6 c
      have e1 : ((((v.toUInt64 >>> ((52 : Int32).toInt64.toUInt64 &&& Int64.toUInt64 63)).toInt64) &&& 2047 : Int64)).toBitVec.toNat = v.toBitVec.toNat / 2 ^ 52 % 2 ^ 11 := by
        rw [Int64.toBitVec_and, BitVec.toNat_and, fx_ush (k := 52) (by decide), m11]; exact Nat.and_two_pow_sub_one_eq_mod _ 11
      have e2 := s_ofL e1 (by omega)
      have e3 : (2047 : Int64).toInt = 2047 := by decide
      rw [e2, e3] at z
      exact z
theorem nm_wrong {v : Int64} (h : 0 ≤ v.toInt ∧ v.toInt < 4294967296) : F_FR_isWrong v 1 = 0 := by
  unfold F_FR_isWrong
  rw [if_neg (by decide)]
  have e1 : ((v.toUInt64 >>> ((32 : Int32).toInt64.toUInt64 &&& Int64.toUInt64 63)).toInt64).toBitVec.toNat = v.toBitVec.toNat / 2 ^ 32 := fx_ush (k := 32) (by decide)
  have e2 := s_nnL h.1
  have e3 : v.toBitVec.toNat / 2 ^ 32 = 0 := Nat.div_eq_of_lt (by omega)
  rw [e3] at e1
  have e4 : ((v.toUInt64 >>> ((32 : Int32).toInt64.toUInt64 &&& Int64.toUInt64 63)).toInt64) = 0 := Int64.toBitVec_inj.mp (BitVec.eq_of_toNat_eq (by rw [e1]; rfl))
  rw [e4]
  rfl
def nmV (k : Int32) (v : Int64) : Prop := (k = 3 → 0 ≤ v.toInt ∧ v.toInt < 4294967296) ∧ ¬ F_NM_isFinite k v = 0
def Q_NM_exact (k : Int32) (v : Int64) (w : Int32) (p : Int32 × Int32 × Int32 × Int32 × Int32 × Int64 × Int32 × Int32 × Int64 × Int32 × Int64 × Int32 × (Nat → Int32) × (Nat → Int32) × (Nat → Int32) × (Nat → Int32) × (Nat → Int32) × (Nat → Int32)) : Prop := (0 ≤ p.1.toInt ∧ p.1.toInt ≤ 1600) ∧ (nmV k v → 1 ≤ w.toInt ∧ w.toInt ≤ 1100 → fxK p.2.2.2.2.2.2.2.2.2.2.2.2.2.2.2.2.2 p.1)
theorem nm_fk {x2 : Int32} {f : Nat → Int32} {p : Int32 × (Nat → Int32)} (h : Q_NM_load x2 f p) (k : fxK f x2) : fxK p.2 p.1 := by
  obtain ⟨i, a, b⟩ := k
  exact ⟨i, by rw [h.1]; exact a, by rw [h.2 i a]; exact b⟩
theorem nm_exactA {c0 : Int32} {c1 : Int32} {c2 : Int32} {c3 : Int32} {c4 : Int32} {c5 : Int64} {c6 : Int32} {c7 : Int32} {c8 : Int64} {c9 : Int32} {c10 : Int64} {c11 : Int32} {c12 : (Nat → Int32)} {c13 : (Nat → Int32)} {c14 : (Nat → Int32)} {c15 : (Nat → Int32)} {c16 : (Nat → Int32)} {c17 : (Nat → Int32)} {k : Int32} {v : Int64} {w : Int32} (h0 : 0 ≤ c0.toInt ∧ c0.toInt ≤ 1600) (h1 : nmV k v → 1 ≤ w.toInt ∧ w.toInt ≤ 1100 → fxK c17 c0) : Q_NM_exact k v w (c0, c1, c2, c3, c4, c5, c6, c7, c8, c9, c10, c11, c12, c13, c14, c15, c16, c17) := ⟨h0, h1⟩
theorem T_NM_exact {x2 : Int32} {x3 : Int64} {x4 : Int32} {N5 : Int32} {t0_0 : Int32} {t0_1 : Int32} {t0_2 : Int32} {t1_0 : Int32} {t1_1 : Int32} {t1_2 : Int32} {t1_3 : Int32} {t1_4 : Int64} {t1_5 : Int32} {t1_6 : Int32} {t1_7 : Int64} {t1_8 : Int32} {t1_9 : Int64} {t1_10 : Int32} {t2_0 : (Nat → Int32)} {t3_0 : (Nat → Int32)} {t4_0 : (Nat → Int32)} {t5_0 : (Nat → Int32)} {t6_0 : (Nat → Int32)} {t7_0 : (Nat → Int32)} (hN5 : N5.toInt = 4100)  : (S_NM_exact x2 x3 x4 N5 t0_0 t0_1 t0_2 t1_0 t1_1 t1_2 t1_3 t1_4 t1_5 t1_6 t1_7 t1_8 t1_9 t1_10 t2_0 t3_0 t4_0 t5_0 t6_0 t7_0) ∧ Q_NM_exact x2 x3 x4 (F_NM_exact x2 x3 x4 N5 t0_0 t0_1 t0_2 t1_0 t1_1 t1_2 t1_3 t1_4 t1_5 t1_6 t1_7 t1_8 t1_9 t1_10 t2_0 t3_0 t4_0 t5_0 t6_0 t7_0) := by
  have e0 : (0 : Int32).toInt = 0 := rfl
  have e1 : (1 : Int32).toInt = 1 := rfl
  have eL0 : (0 : Int64).toInt = 0 := rfl
  have em : (-1 : Int32).toInt = -1 := rfl
  have n1600 : (1600 : Int32).toInt = 1600 := rfl
  have n2100 : (2100 : Int32).toInt = 2100 := rfl
  have n4100 : (4100 : Int32).toInt = 4100 := rfl
  have n12200 : (12200 : Int32).toInt = 12200 := rfl
  have n1074 : (1074 : Int32).toInt = 1074 := rfl
  have n46 : (46 : Int32).toInt = 46 := rfl
  have n48 : (48 : Int32).toInt = 48 := rfl
  unfold S_NM_exact F_NM_exact
  by_cases g1 : x2 = (3 : Int32)
  ·
    rw [if_pos g1, if_pos g1]
    have gk := g1
    have qF : nmV x2 x3 → 1 ≤ x4.toInt ∧ x4.toInt ≤ 1100 → Q_FX_fixed (F_FR_fixed x3 1 x4 0 t1_0 t1_1 t1_2 t1_3 t1_4 t1_5 t1_6 t1_7 t1_8 t1_9 t1_10 t2_0 t3_0 t4_0 t5_0 t6_0) := fun z1 z2 => T_FX_fixed (nm_wrong (z1.1 gk)) z2 (by decide) (fun z => absurd z (by decide)) (fun _ => (nm_fin z1.2).1 gk)
    have h2 := T_FR_fixed (x2 := x3) (x3 := (1 : Int32)) (x4 := x4) (x5 := (0 : Int32)) (t0_0 := t1_0) (t0_1 := t1_1) (t0_2 := t1_2) (t0_3 := t1_3) (t0_4 := t1_4) (t0_5 := t1_5) (t0_6 := t1_6) (t0_7 := t1_7) (t0_8 := t1_8) (t0_9 := t1_9) (t0_10 := t1_10) (t1_0 := t2_0) (t2_0 := t3_0) (t3_0 := t4_0) (t4_0 := t5_0) (t5_0 := t6_0) 
    with_reducible refine v_owe h2.1 ?_
    replace h2 := h2.2
    generalize F_FR_fixed x3 (1 : Int32) x4 (0 : Int32) t1_0 t1_1 t1_2 t1_3 t1_4 t1_5 t1_6 t1_7 t1_8 t1_9 t1_10 t2_0 t3_0 t4_0 t5_0 t6_0 = p157 at *
    unfold Q_FR_fixed at h2
    have fp157 := h2
    unfold S_NM_exact_c18_3 F_NM_exact_c18_3
    have h3 := T_NM_load (N1 := (1600 : Int32)) (x2 := (p157.1 : Int32)) (N3 := N5) (t0_0 := (p157.2.2.2.2.2.2.2.2.2.2.2.2.2.2.2.2 : (Nat → Int32))) (t1_0 := t7_0) (by first | omega | decide) (by first | omega | decide) (by first | omega | decide)
    with_reducible refine v_owe h3.1 ?_
    replace h3 := h3.2
    generalize F_NM_load (1600 : Int32) (p157.1 : Int32) N5 (p157.2.2.2.2.2.2.2.2.2.2.2.2.2.2.2.2 : (Nat → Int32)) t7_0 = p194 at *
    have qL := h3
    have eL := congrArg Int32.toInt h3.1
    unfold S_NM_exact_c34_4 F_NM_exact_c34_4
    refine ⟨trivial, ?_⟩
    exact nm_exactA ⟨by omega, by omega⟩ (fun z1 z2 => nm_fk qL (qF z1 z2))
  ·
    rw [if_neg g1, if_neg g1]
    have gk := g1
    have qF : nmV x2 x3 → 1 ≤ x4.toInt ∧ x4.toInt ≤ 1100 → Q_FX_fixed (F_FR_fixed x3 0 x4 0 t1_0 t1_1 t1_2 t1_3 t1_4 t1_5 t1_6 t1_7 t1_8 t1_9 t1_10 t2_0 t3_0 t4_0 t5_0 t6_0) := fun z1 z2 => T_FX_fixed (by unfold F_FR_isWrong; exact if_pos rfl) z2 (by decide) (fun _ => (nm_fin z1.2).2 gk) (fun z => absurd rfl z)
    have h4 := T_FR_fixed (x2 := x3) (x3 := (0 : Int32)) (x4 := x4) (x5 := (0 : Int32)) (t0_0 := t1_0) (t0_1 := t1_1) (t0_2 := t1_2) (t0_3 := t1_3) (t0_4 := t1_4) (t0_5 := t1_5) (t0_6 := t1_6) (t0_7 := t1_7) (t0_8 := t1_8) (t0_9 := t1_9) (t0_10 := t1_10) (t1_0 := t2_0) (t2_0 := t3_0) (t3_0 := t4_0) (t4_0 := t5_0) (t5_0 := t6_0) 
    with_reducible refine v_owe h4.1 ?_
    replace h4 := h4.2
    generalize F_FR_fixed x3 (0 : Int32) x4 (0 : Int32) t1_0 t1_1 t1_2 t1_3 t1_4 t1_5 t1_6 t1_7 t1_8 t1_9 t1_10 t2_0 t3_0 t4_0 t5_0 t6_0 = p75 at *
    unfold Q_FR_fixed at h4
    have fp75 := h4
    unfold S_NM_exact_c18 F_NM_exact_c18
    have h5 := T_NM_load (N1 := (1600 : Int32)) (x2 := (p75.1 : Int32)) (N3 := N5) (t0_0 := (p75.2.2.2.2.2.2.2.2.2.2.2.2.2.2.2.2 : (Nat → Int32))) (t1_0 := t7_0) (by first | omega | decide) (by first | omega | decide) (by first | omega | decide)
    with_reducible refine v_owe h5.1 ?_
    replace h5 := h5.2
    generalize F_NM_load (1600 : Int32) (p75.1 : Int32) N5 (p75.2.2.2.2.2.2.2.2.2.2.2.2.2.2.2.2 : (Nat → Int32)) t7_0 = p112 at *
    have qL := h5
    have eL := congrArg Int32.toInt h5.1
    unfold S_NM_exact_c34 F_NM_exact_c34
    refine ⟨trivial, ?_⟩
    exact nm_exactA ⟨by omega, by omega⟩ (fun z1 z2 => nm_fk qL (qF z1 z2))
def Q_NM_toWhole (p : Int32 × Int32 × Int32 × Int32 × Int32 × Int32 × Int32 × Int32 × (Nat → Int32) × (Nat → Int32) × (Nat → Int32) × (Nat → Int32) × Int32 × Int32 × Int32 × Int64 × Int32 × Int32 × Int32 × Int32 × Int32 × Int32 × Int32 × (Nat → Int32) × Int32 × Int32 × Int32 × Int32 × Int64 × Int32 × Int32 × Int64 × Int32 × Int64 × Int32 × (Nat → Int32) × (Nat → Int32) × (Nat → Int32) × (Nat → Int32) × (Nat → Int32)) : Prop := wR p.2.2.2.2.2.2.2.2.2.1 p.2.2.2.2.2.2.2.2.2.2.1
theorem nm_toWholeA {c0 : Int32} {c1 : Int32} {c2 : Int32} {c3 : Int32} {c4 : Int32} {c5 : Int32} {c6 : Int32} {c7 : Int32} {c8 : (Nat → Int32)} {c9 : (Nat → Int32)} {c10 : (Nat → Int32)} {c11 : (Nat → Int32)} {c12 : Int32} {c13 : Int32} {c14 : Int32} {c15 : Int64} {c16 : Int32} {c17 : Int32} {c18 : Int32} {c19 : Int32} {c20 : Int32} {c21 : Int32} {c22 : Int32} {c23 : (Nat → Int32)} {c24 : Int32} {c25 : Int32} {c26 : Int32} {c27 : Int32} {c28 : Int64} {c29 : Int32} {c30 : Int32} {c31 : Int64} {c32 : Int32} {c33 : Int64} {c34 : Int32} {c35 : (Nat → Int32)} {c36 : (Nat → Int32)} {c37 : (Nat → Int32)} {c38 : (Nat → Int32)} {c39 : (Nat → Int32)} (h0 : wR c9 c10) : Q_NM_toWhole (c0, c1, c2, c3, c4, c5, c6, c7, c8, c9, c10, c11, c12, c13, c14, c15, c16, c17, c18, c19, c20, c21, c22, c23, c24, c25, c26, c27, c28, c29, c30, c31, c32, c33, c34, c35, c36, c37, c38, c39) := h0
theorem vm_tw {x2 : Int32} {x3 : Int32} {x4 : Int32} {t0_0 : Int32} {t0_1 : Int32} {t0_2 : Int32} {t1_0 : Int32} {t1_1 : Int32} {t1_2 : Int32} {t1_3 : Int32} {t1_4 : Int32} {t1_5 : Int32} {t1_6 : Int32} {t2_0 : (Nat → Int32)} {t3_0 : (Nat → Int32)} {t4_0 : (Nat → Int32)} {t5_0 : (Nat → Int32)} {t6_0 : Int32} {t6_1 : Int32} {t6_2 : Int32} {t6_3 : Int64} {t6_4 : Int32} {t6_5 : Int32} {t6_6 : Int32} {t6_7 : Int32} {t6_8 : Int32} {t6_9 : Int32} {t6_10 : Int32} {t7_0 : (Nat → Int32)} {t8_0 : (Nat → Int32)} {t9_0 : (Nat → Int32)} {t10_0 : (Nat → Int32)} {t11_0 : (Nat → Int32)} {t12_0 : Int32} {t12_1 : Int32} {t12_2 : Int32} {t12_3 : Int32} {t12_4 : Int64} {t12_5 : Int32} {t12_6 : Int32} {t12_7 : Int64} {t12_8 : Int32} {t12_9 : Int64} {t12_10 : Int32} {t13_0 : (Nat → Int32)} {t14_0 : (Nat → Int32)} {t15_0 : (Nat → Int32)} {t16_0 : (Nat → Int32)} {t17_0 : (Nat → Int32)} {t18_0 : (Nat → Int64)} {p304 : (Int32 × Int32 × Int32 × Int32 × Int64 × Int32 × Int32 × Int32 × Int32 × Int32 × Int32 × Int32 × (Nat → Int32))} {y268 : Int32} {y269 : Int32} {y270 : Int32} {y271 : Int64} {y272 : Int32} {y273 : Int32} {y274 : Int32} {y275 : Int32} {y276 : Int32} {y277 : Int32} {y278 : Int32} {f279 : (Nat → Int32)} {lx324 : Int32} {p366 : (Int32 × (Nat → Int32))} {a357 : Int32} {f358 : (Nat → Int32)} (hW : wR t3_0 t4_0) (hD : gR t7_0 t8_0 t9_0 t10_0) (hB : nmB t18_0) (ha : a357.toInt ≤ 4100)  : ∀ (n : Nat) (lx376 : Int32), (0 ≤ lx376.toInt ∧ lx376.toInt ≤ 4100) → (4100 - lx376.toInt < (n : Int)) → (S_NM_toWhole_L96 x2 x3 x4 t0_0 t0_1 t0_2 t1_0 t1_1 t1_2 t1_3 t1_4 t1_5 t1_6 t2_0 t3_0 t4_0 t5_0 t6_0 t6_1 t6_2 t6_3 t6_4 t6_5 t6_6 t6_7 t6_8 t6_9 t6_10 t7_0 t8_0 t9_0 t10_0 t11_0 t12_0 t12_1 t12_2 t12_3 t12_4 t12_5 t12_6 t12_7 t12_8 t12_9 t12_10 t13_0 t14_0 t15_0 t16_0 t17_0 t18_0 p304 y268 y269 y270 y271 y272 y273 y274 y275 y276 y277 y278 f279 lx324 p366 a357 f358 n lx376) ∧ Q_NM_toWhole (F_NM_toWhole_L96 x2 x3 x4 t0_0 t0_1 t0_2 t1_0 t1_1 t1_2 t1_3 t1_4 t1_5 t1_6 t2_0 t3_0 t4_0 t5_0 t6_0 t6_1 t6_2 t6_3 t6_4 t6_5 t6_6 t6_7 t6_8 t6_9 t6_10 t7_0 t8_0 t9_0 t10_0 t11_0 t12_0 t12_1 t12_2 t12_3 t12_4 t12_5 t12_6 t12_7 t12_8 t12_9 t12_10 t13_0 t14_0 t15_0 t16_0 t17_0 t18_0 p304 y268 y269 y270 y271 y272 y273 y274 y275 y276 y277 y278 f279 lx324 p366 a357 f358 n lx376) := by
  intro n
  induction n with
  | zero => intro lx376 hA0 hm; exact absurd (show False by omega) id
  | succ n ih =>
    intro lx376 hA0 hm
    have e0 : (0 : Int32).toInt = 0 := rfl
    have e1 : (1 : Int32).toInt = 1 := rfl
    have eL0 : (0 : Int64).toInt = 0 := rfl
    have em : (-1 : Int32).toInt = -1 := rfl
    have n1600 : (1600 : Int32).toInt = 1600 := rfl
    have n2100 : (2100 : Int32).toInt = 2100 := rfl
    have n4100 : (4100 : Int32).toInt = 4100 := rfl
    have n12200 : (12200 : Int32).toInt = 12200 := rfl
    have n1074 : (1074 : Int32).toInt = 1074 := rfl
    have n46 : (46 : Int32).toInt = 46 := rfl
    have n48 : (48 : Int32).toInt = 48 := rfl
    rw [S_NM_toWhole_L96.eq_2, F_NM_toWhole_L96.eq_2]
    by_cases g1 : a357 ≤ lx376
    ·
      rw [if_pos g1, if_pos g1]
      have g1i : a357.toInt ≤ lx376.toInt := q_leI g1
      unfold S_NM_toWhole_J124 F_NM_toWhole_J124
      have h2 := T_WR_read (x2 := x4) (x3 := (10 : Int32)) (t0_0 := t1_0) (t0_1 := t1_1) (t0_2 := lx376) (t0_3 := t1_3) (t0_4 := t1_4) (t0_5 := t1_5) (t0_6 := t1_6) (t1_0 := f358) (t2_0 := t3_0) (t3_0 := t4_0) (t4_0 := t5_0) (by with_reducible assumption) ⟨by omega, by omega⟩
      with_reducible refine v_owe h2.1 ?_
      replace h2 := h2.2
      generalize F_WR_read x4 (10 : Int32) t1_0 t1_1 lx376 t1_3 t1_4 t1_5 t1_6 f358 t3_0 t4_0 t5_0 = p443 at *
      unfold Q_WR_read at h2
      unfold S_NM_toWhole_c168_9 F_NM_toWhole_c168_9
      by_cases g3 : (p443.1 : Int32) ≤ (0 : Int32)
      ·
        rw [if_pos g3, if_pos g3]
        refine ⟨trivial, ?_⟩
        exact nm_toWholeA (by with_reducible assumption)
      ·
        rw [if_neg g3, if_neg g3]
        refine ⟨trivial, ?_⟩
        exact nm_toWholeA (by with_reducible assumption)
    ·
      rw [if_neg g1, if_neg g1]
      have g1i : lx376.toInt < a357.toInt := q_nleI g1
      by_cases g4 : (f358 lx376.toNatClampNeg : Int32) = (46 : Int32)
      ·
        rw [if_pos g4, if_pos g4]
        unfold S_NM_toWhole_J124 F_NM_toWhole_J124
        have h5 := T_WR_read (x2 := x4) (x3 := (10 : Int32)) (t0_0 := t1_0) (t0_1 := t1_1) (t0_2 := lx376) (t0_3 := t1_3) (t0_4 := t1_4) (t0_5 := t1_5) (t0_6 := t1_6) (t1_0 := f358) (t2_0 := t3_0) (t3_0 := t4_0) (t4_0 := t5_0) (by with_reducible assumption) ⟨by omega, by omega⟩
        with_reducible refine v_owe h5.1 ?_
        replace h5 := h5.2
        generalize F_WR_read x4 (10 : Int32) t1_0 t1_1 lx376 t1_3 t1_4 t1_5 t1_6 f358 t3_0 t4_0 t5_0 = p443 at *
        unfold Q_WR_read at h5
        unfold S_NM_toWhole_c168_9 F_NM_toWhole_c168_9
        by_cases g6 : (p443.1 : Int32) ≤ (0 : Int32)
        ·
          rw [if_pos g6, if_pos g6]
          refine ⟨trivial, ?_⟩
          exact nm_toWholeA (by with_reducible assumption)
        ·
          rw [if_neg g6, if_neg g6]
          refine ⟨trivial, ?_⟩
          exact nm_toWholeA (by with_reducible assumption)
      ·
        rw [if_neg g4, if_neg g4]
        obtain ⟨a7, e8⟩ := q_nm (lx376 + 1 : Int32)
        rw [e8]
        have a7i : a7.toInt = lx376.toInt + 1 := by rw [← e8]; exact q_addI (x := lx376.toInt) (y := 1) rfl (by decide) (by omega) (by omega)
        exact ih _ ⟨by omega, by omega⟩ (by omega)
theorem T_NM_toWhole {x2 : Int32} {x3 : Int32} {x4 : Int32} {t0_0 : Int32} {t0_1 : Int32} {t0_2 : Int32} {t1_0 : Int32} {t1_1 : Int32} {t1_2 : Int32} {t1_3 : Int32} {t1_4 : Int32} {t1_5 : Int32} {t1_6 : Int32} {t2_0 : (Nat → Int32)} {t3_0 : (Nat → Int32)} {t4_0 : (Nat → Int32)} {t5_0 : (Nat → Int32)} {t6_0 : Int32} {t6_1 : Int32} {t6_2 : Int32} {t6_3 : Int64} {t6_4 : Int32} {t6_5 : Int32} {t6_6 : Int32} {t6_7 : Int32} {t6_8 : Int32} {t6_9 : Int32} {t6_10 : Int32} {t7_0 : (Nat → Int32)} {t8_0 : (Nat → Int32)} {t9_0 : (Nat → Int32)} {t10_0 : (Nat → Int32)} {t11_0 : (Nat → Int32)} {t12_0 : Int32} {t12_1 : Int32} {t12_2 : Int32} {t12_3 : Int32} {t12_4 : Int64} {t12_5 : Int32} {t12_6 : Int32} {t12_7 : Int64} {t12_8 : Int32} {t12_9 : Int64} {t12_10 : Int32} {t13_0 : (Nat → Int32)} {t14_0 : (Nat → Int32)} {t15_0 : (Nat → Int32)} {t16_0 : (Nat → Int32)} {t17_0 : (Nat → Int32)} {t18_0 : (Nat → Int64)} (hW : wR t3_0 t4_0) (hD : gR t7_0 t8_0 t9_0 t10_0) (hB : nmB t18_0) (hx3 : 0 ≤ x3.toInt ∧ x3.toInt ≤ 9)  : (S_NM_toWhole x2 x3 x4 t0_0 t0_1 t0_2 t1_0 t1_1 t1_2 t1_3 t1_4 t1_5 t1_6 t2_0 t3_0 t4_0 t5_0 t6_0 t6_1 t6_2 t6_3 t6_4 t6_5 t6_6 t6_7 t6_8 t6_9 t6_10 t7_0 t8_0 t9_0 t10_0 t11_0 t12_0 t12_1 t12_2 t12_3 t12_4 t12_5 t12_6 t12_7 t12_8 t12_9 t12_10 t13_0 t14_0 t15_0 t16_0 t17_0 t18_0) ∧ Q_NM_toWhole (F_NM_toWhole x2 x3 x4 t0_0 t0_1 t0_2 t1_0 t1_1 t1_2 t1_3 t1_4 t1_5 t1_6 t2_0 t3_0 t4_0 t5_0 t6_0 t6_1 t6_2 t6_3 t6_4 t6_5 t6_6 t6_7 t6_8 t6_9 t6_10 t7_0 t8_0 t9_0 t10_0 t11_0 t12_0 t12_1 t12_2 t12_3 t12_4 t12_5 t12_6 t12_7 t12_8 t12_9 t12_10 t13_0 t14_0 t15_0 t16_0 t17_0 t18_0) := by
  have e0 : (0 : Int32).toInt = 0 := rfl
  have e1 : (1 : Int32).toInt = 1 := rfl
  have eL0 : (0 : Int64).toInt = 0 := rfl
  have em : (-1 : Int32).toInt = -1 := rfl
  have n1600 : (1600 : Int32).toInt = 1600 := rfl
  have n2100 : (2100 : Int32).toInt = 2100 := rfl
  have n4100 : (4100 : Int32).toInt = 4100 := rfl
  have n12200 : (12200 : Int32).toInt = 12200 := rfl
  have n1074 : (1074 : Int32).toInt = 1074 := rfl
  have n46 : (46 : Int32).toInt = 46 := rfl
  have n48 : (48 : Int32).toInt = 48 := rfl
  unfold S_NM_toWhole F_NM_toWhole
  by_cases g1 : x2 = (1 : Int32)
  ·
    rw [if_pos g1, if_pos g1]
    refine v_cons (by first | omega | decide) ?_
    refine v_cons (by first | omega | decide) ?_
    by_cases g2 : (lg_cmp (-((t10_0 x3.toNatClampNeg : Int32).toInt64 : Int64) : Int64) 1300 : Int32) ≤ (0 : Int32)
    ·
      rw [if_pos g2, if_pos g2]
      unfold S_NM_toWhole_J47 F_NM_toWhole_J47
      have h3 := T_DR_written (x2 := x3) (x3 := (1 : Int32)) (t0_0 := t6_0) (t0_1 := t6_1) (t0_2 := t6_2) (t0_3 := t6_3) (t0_4 := t6_4) (t0_5 := t6_5) (t0_6 := t6_6) (t0_7 := t6_7) (t0_8 := t6_8) (t0_9 := t6_9) (t0_10 := t6_10) (t1_0 := t7_0) (t2_0 := t8_0) (t3_0 := t9_0) (t4_0 := t10_0) (t5_0 := t11_0) (by with_reducible assumption)
      with_reducible refine v_owe h3.1 ?_
      replace h3 := h3.2
      generalize F_DR_written x3 (1 : Int32) t6_0 t6_1 t6_2 t6_3 t6_4 t6_5 t6_6 t6_7 t6_8 t6_9 t6_10 t7_0 t8_0 t9_0 t10_0 t11_0 = p304 at *
      unfold Q_DR_written at h3
      unfold S_NM_toWhole_c53 F_NM_toWhole_c53
      by_cases g4 : (p304.1 : Int32) ≤ (4100 : Int32)
      ·
        rw [if_pos g4, if_pos g4]
        have g4i := q_leI g4
        unfold S_NM_toWhole_J81 F_NM_toWhole_J81
        have h5 := T_NM_load (N1 := (12200 : Int32)) (x2 := (p304.1 : Int32)) (N3 := (4100 : Int32)) (t0_0 := (p304.2.2.2.2.2.2.2.2.2.2.2.2 : (Nat → Int32))) (t1_0 := t2_0) (by first | omega | decide) (by first | omega | decide) (by first | omega | decide)
        with_reducible refine v_owe h5.1 ?_
        replace h5 := h5.2
        generalize F_NM_load (12200 : Int32) (p304.1 : Int32) (4100 : Int32) (p304.2.2.2.2.2.2.2.2.2.2.2.2 : (Nat → Int32)) t2_0 = p366 at *
        have qL := h5
        have eL := congrArg Int32.toInt h5.1
        unfold S_NM_toWhole_c88 F_NM_toWhole_c88
        exact vm_tw hW hD hB (by omega) _ _ (by decide) (by decide)
      ·
        rw [if_neg g4, if_neg g4]
        unfold S_NM_toWhole_J81 F_NM_toWhole_J81
        have h6 := T_NM_load (N1 := (12200 : Int32)) (x2 := (4100 : Int32)) (N3 := (4100 : Int32)) (t0_0 := (p304.2.2.2.2.2.2.2.2.2.2.2.2 : (Nat → Int32))) (t1_0 := t2_0) (by first | omega | decide) (by first | omega | decide) (by first | omega | decide)
        with_reducible refine v_owe h6.1 ?_
        replace h6 := h6.2
        generalize F_NM_load (12200 : Int32) (4100 : Int32) (4100 : Int32) (p304.2.2.2.2.2.2.2.2.2.2.2.2 : (Nat → Int32)) t2_0 = p366 at *
        have qL := h6
        have eL := congrArg Int32.toInt h6.1
        unfold S_NM_toWhole_c88 F_NM_toWhole_c88
        exact vm_tw hW hD hB (by omega) _ _ (by decide) (by decide)
    ·
      rw [if_neg g2, if_neg g2]
      have h7 := R_dz (x2 := x3) (t0_0 := t6_0) (t0_1 := t6_1) (t0_2 := t6_2) (t0_3 := t6_3) (t0_4 := t6_4) (t0_5 := t6_5) (t0_6 := t6_6) (t0_7 := t6_7) (t0_8 := t6_8) (t0_9 := t6_9) (t0_10 := t6_10) (t1_0 := t7_0) hx3
      with_reducible refine v_owe h7.1 ?_
      by_cases g8 : ((F_DR_isZero x3 t6_0 t6_1 t6_2 t6_3 t6_4 t6_5 t6_6 t6_7 t6_8 t6_9 t6_10 t7_0) : Int32) = (0 : Int32)
      ·
        rw [if_pos g8, if_pos g8]
        refine ⟨trivial, ?_⟩
        exact nm_toWholeA (by with_reducible assumption)
      ·
        rw [if_neg g8, if_neg g8]
        unfold S_NM_toWhole_J47 F_NM_toWhole_J47
        have h9 := T_DR_written (x2 := x3) (x3 := (1 : Int32)) (t0_0 := t6_0) (t0_1 := t6_1) (t0_2 := t6_2) (t0_3 := t6_3) (t0_4 := t6_4) (t0_5 := t6_5) (t0_6 := t6_6) (t0_7 := t6_7) (t0_8 := t6_8) (t0_9 := t6_9) (t0_10 := t6_10) (t1_0 := t7_0) (t2_0 := t8_0) (t3_0 := t9_0) (t4_0 := t10_0) (t5_0 := t11_0) (by with_reducible assumption)
        with_reducible refine v_owe h9.1 ?_
        replace h9 := h9.2
        generalize F_DR_written x3 (1 : Int32) t6_0 t6_1 t6_2 t6_3 t6_4 t6_5 t6_6 t6_7 t6_8 t6_9 t6_10 t7_0 t8_0 t9_0 t10_0 t11_0 = p304 at *
        unfold Q_DR_written at h9
        unfold S_NM_toWhole_c53 F_NM_toWhole_c53
        by_cases g10 : (p304.1 : Int32) ≤ (4100 : Int32)
        ·
          rw [if_pos g10, if_pos g10]
          have g10i := q_leI g10
          unfold S_NM_toWhole_J81 F_NM_toWhole_J81
          have h11 := T_NM_load (N1 := (12200 : Int32)) (x2 := (p304.1 : Int32)) (N3 := (4100 : Int32)) (t0_0 := (p304.2.2.2.2.2.2.2.2.2.2.2.2 : (Nat → Int32))) (t1_0 := t2_0) (by first | omega | decide) (by first | omega | decide) (by first | omega | decide)
          with_reducible refine v_owe h11.1 ?_
          replace h11 := h11.2
          generalize F_NM_load (12200 : Int32) (p304.1 : Int32) (4100 : Int32) (p304.2.2.2.2.2.2.2.2.2.2.2.2 : (Nat → Int32)) t2_0 = p366 at *
          have qL := h11
          have eL := congrArg Int32.toInt h11.1
          unfold S_NM_toWhole_c88 F_NM_toWhole_c88
          exact vm_tw hW hD hB (by omega) _ _ (by decide) (by decide)
        ·
          rw [if_neg g10, if_neg g10]
          unfold S_NM_toWhole_J81 F_NM_toWhole_J81
          have h12 := T_NM_load (N1 := (12200 : Int32)) (x2 := (4100 : Int32)) (N3 := (4100 : Int32)) (t0_0 := (p304.2.2.2.2.2.2.2.2.2.2.2.2 : (Nat → Int32))) (t1_0 := t2_0) (by first | omega | decide) (by first | omega | decide) (by first | omega | decide)
          with_reducible refine v_owe h12.1 ?_
          replace h12 := h12.2
          generalize F_NM_load (12200 : Int32) (4100 : Int32) (4100 : Int32) (p304.2.2.2.2.2.2.2.2.2.2.2.2 : (Nat → Int32)) t2_0 = p366 at *
          have qL := h12
          have eL := congrArg Int32.toInt h12.1
          unfold S_NM_toWhole_c88 F_NM_toWhole_c88
          exact vm_tw hW hD hB (by omega) _ _ (by decide) (by decide)
  ·
    rw [if_neg g1, if_neg g1]
    have h13 := T_NM_bitsOf (x2 := x2) (x3 := x3) (t0_0 := t0_0) (t0_1 := t0_1) (t0_2 := t0_2) (t1_0 := t18_0) hx3
    with_reducible refine v_owe h13 ?_
    have h14 := T_NM_exact (x2 := x2) (x3 := ((F_NM_bitsOf x2 x3 t0_0 t0_1 t0_2 t18_0) : Int64)) (x4 := (0 : Int32)) (N5 := (4100 : Int32)) (t0_0 := t0_0) (t0_1 := t0_1) (t0_2 := t0_2) (t1_0 := t12_0) (t1_1 := t12_1) (t1_2 := t12_2) (t1_3 := t12_3) (t1_4 := t12_4) (t1_5 := t12_5) (t1_6 := t12_6) (t1_7 := t12_7) (t1_8 := t12_8) (t1_9 := t12_9) (t1_10 := t12_10) (t2_0 := t13_0) (t3_0 := t14_0) (t4_0 := t15_0) (t5_0 := t16_0) (t6_0 := t17_0) (t7_0 := t2_0) (by decide)
    with_reducible refine v_owe h14.1 ?_
    replace h14 := h14.2
    generalize F_NM_exact x2 ((F_NM_bitsOf x2 x3 t0_0 t0_1 t0_2 t18_0) : Int64) (0 : Int32) (4100 : Int32) t0_0 t0_1 t0_2 t12_0 t12_1 t12_2 t12_3 t12_4 t12_5 t12_6 t12_7 t12_8 t12_9 t12_10 t13_0 t14_0 t15_0 t16_0 t17_0 t2_0 = p139 at *
    unfold Q_NM_exact at h14
    have qE := h14
    unfold S_NM_toWhole_c147 F_NM_toWhole_c147
    refine v_cons (by first | omega | decide) ?_
    have h15 := T_WR_read (x2 := x4) (x3 := (10 : Int32)) (t0_0 := t1_0) (t0_1 := t1_1) (t0_2 := (p139.1 : Int32)) (t0_3 := t1_3) (t0_4 := t1_4) (t0_5 := t1_5) (t0_6 := t1_6) (t1_0 := (p139.2.2.2.2.2.2.2.2.2.2.2.2.2.2.2.2.2 : (Nat → Int32))) (t2_0 := t3_0) (t3_0 := t4_0) (t4_0 := t5_0) (by with_reducible assumption) ⟨by omega, by omega⟩
    with_reducible refine v_owe h15.1 ?_
    replace h15 := h15.2
    generalize F_WR_read x4 (10 : Int32) t1_0 t1_1 (p139.1 : Int32) t1_3 t1_4 t1_5 t1_6 (p139.2.2.2.2.2.2.2.2.2.2.2.2.2.2.2.2.2 : (Nat → Int32)) t3_0 t4_0 t5_0 = p198 at *
    unfold Q_WR_read at h15
    unfold S_NM_toWhole_c168 F_NM_toWhole_c168
    by_cases g16 : (p198.1 : Int32) ≤ (0 : Int32)
    ·
      rw [if_pos g16, if_pos g16]
      refine ⟨trivial, ?_⟩
      exact nm_toWholeA (by with_reducible assumption)
    ·
      rw [if_neg g16, if_neg g16]
      refine ⟨trivial, ?_⟩
      exact nm_toWholeA (by with_reducible assumption)
theorem nm_kp {f : Nat → Int32} {n a m : Int32} (h : fxK f n) (ha : a.toInt = n.toInt - 1) (h0 : 0 ≤ a.toInt) (g : f a.toNatClampNeg = 48) (hm : m.toInt = n.toInt - 1) : fxK f m := by
  obtain ⟨k, x, y⟩ := h
  have c := q_clI (i := a) rfl h0
  refine ⟨k, ?_, y⟩
  by_cases d : k = a.toNatClampNeg
  · rw [d, g] at y; exact absurd y (by decide)
  · omega
theorem fxK.pos {f : Nat → Int32} {n : Int32} (h : fxK f n) : 1 ≤ n.toInt := by
  obtain ⟨k, x, -⟩ := h; omega
theorem nm_if0 {k : Int32} (h : F_NM_isFloat k = 0) : k.toInt ≤ 1 := by
  unfold F_NM_isFloat at h
  by_cases c : k ≤ 1
  · exact q_leI c
  · rw [if_neg c] at h; exact absurd h (by decide)
theorem nm_if1 {k : Int32} (h : ¬ F_NM_isFloat k = 0) : 2 ≤ k.toInt := by
  unfold F_NM_isFloat at h
  by_cases c : k ≤ 1
  · rw [if_pos c] at h; exact absurd rfl h
  · have := q_nleI c; have e : (1 : Int32).toInt = 1 := rfl; omega
theorem nm_bo {k r a b c : Int32} {f : Nat → Int64} (h : nmB f) (hr : 0 ≤ r.toInt ∧ r.toInt ≤ 9) (e : k = 3) : 0 ≤ (F_NM_bitsOf k r a b c f).toInt ∧ (F_NM_bitsOf k r a b c f).toInt < 4294967296 := by
  unfold F_NM_bitsOf
  rw [if_pos e]
  have e1 : (10 + r : Int32).toInt = 10 + r.toInt := q_addI (x := 10) (by decide) rfl (by omega) (by omega)
  have e2 := q_clI (i := 10 + r) rfl (by omega)
  exact h _ (by omega) (by omega)
def Q_NM_toDecimal (p : Int32 × Int32 × Int32 × Int32 × Int32 × Int32 × Int32 × Int32 × (Nat → Int32) × (Nat → Int32) × Int32 × Int32 × Int32 × Int64 × Int32 × Int32 × Int32 × Int32 × Int32 × Int32 × Int32 × (Nat → Int32) × (Nat → Int32) × (Nat → Int32) × (Nat → Int32) × (Nat → Int32) × (Nat → Int32) × Int32 × Int32 × Int32 × Int32 × Int64 × Int32 × Int32 × Int64 × Int32 × Int64 × Int32 × (Nat → Int32) × (Nat → Int32) × (Nat → Int32) × (Nat → Int32) × (Nat → Int32)) : Prop := gR p.2.2.2.2.2.2.2.2.2.2.2.2.2.2.2.2.2.2.2.2.2.2.1 p.2.2.2.2.2.2.2.2.2.2.2.2.2.2.2.2.2.2.2.2.2.2.2.1 p.2.2.2.2.2.2.2.2.2.2.2.2.2.2.2.2.2.2.2.2.2.2.2.2.1 p.2.2.2.2.2.2.2.2.2.2.2.2.2.2.2.2.2.2.2.2.2.2.2.2.2.1
theorem nm_toDecimalA {c0 : Int32} {c1 : Int32} {c2 : Int32} {c3 : Int32} {c4 : Int32} {c5 : Int32} {c6 : Int32} {c7 : Int32} {c8 : (Nat → Int32)} {c9 : (Nat → Int32)} {c10 : Int32} {c11 : Int32} {c12 : Int32} {c13 : Int64} {c14 : Int32} {c15 : Int32} {c16 : Int32} {c17 : Int32} {c18 : Int32} {c19 : Int32} {c20 : Int32} {c21 : (Nat → Int32)} {c22 : (Nat → Int32)} {c23 : (Nat → Int32)} {c24 : (Nat → Int32)} {c25 : (Nat → Int32)} {c26 : (Nat → Int32)} {c27 : Int32} {c28 : Int32} {c29 : Int32} {c30 : Int32} {c31 : Int64} {c32 : Int32} {c33 : Int32} {c34 : Int64} {c35 : Int32} {c36 : Int64} {c37 : Int32} {c38 : (Nat → Int32)} {c39 : (Nat → Int32)} {c40 : (Nat → Int32)} {c41 : (Nat → Int32)} {c42 : (Nat → Int32)} (h0 : gR c22 c23 c24 c25) : Q_NM_toDecimal (c0, c1, c2, c3, c4, c5, c6, c7, c8, c9, c10, c11, c12, c13, c14, c15, c16, c17, c18, c19, c20, c21, c22, c23, c24, c25, c26, c27, c28, c29, c30, c31, c32, c33, c34, c35, c36, c37, c38, c39, c40, c41, c42) := h0
theorem vm_td {x2 : Int32} {x3 : Int32} {x4 : Int32} {t0_0 : Int32} {t0_1 : Int32} {t0_2 : Int32} {t1_0 : Int32} {t1_1 : Int32} {t1_2 : Int32} {t1_3 : Int32} {t1_4 : Int32} {t1_5 : Int32} {t1_6 : Int32} {t2_0 : (Nat → Int32)} {t3_0 : (Nat → Int32)} {t4_0 : (Nat → Int32)} {t5_0 : (Nat → Int32)} {t6_0 : Int32} {t6_1 : Int32} {t6_2 : Int32} {t6_3 : Int64} {t6_4 : Int32} {t6_5 : Int32} {t6_6 : Int32} {t6_7 : Int32} {t6_8 : Int32} {t6_9 : Int32} {t6_10 : Int32} {t7_0 : (Nat → Int32)} {t8_0 : (Nat → Int32)} {t9_0 : (Nat → Int32)} {t10_0 : (Nat → Int32)} {t11_0 : (Nat → Int32)} {t12_0 : (Nat → Int32)} {t13_0 : Int32} {t13_1 : Int32} {t13_2 : Int32} {t13_3 : Int32} {t13_4 : Int64} {t13_5 : Int32} {t13_6 : Int32} {t13_7 : Int64} {t13_8 : Int32} {t13_9 : Int64} {t13_10 : Int32} {t14_0 : (Nat → Int32)} {t15_0 : (Nat → Int32)} {t16_0 : (Nat → Int32)} {t17_0 : (Nat → Int32)} {t18_0 : (Nat → Int32)} {t19_0 : (Nat → Int64)} {p142 : (Int32 × Int32 × Int32 × Int32 × Int32 × Int64 × Int32 × Int32 × Int64 × Int32 × Int64 × Int32 × (Nat → Int32) × (Nat → Int32) × (Nat → Int32) × (Nat → Int32) × (Nat → Int32) × (Nat → Int32))} {f130 : (Nat → Int32)} {y109 : Int32} {y110 : Int32} {y111 : Int32} {y112 : Int32} {y113 : Int64} {y114 : Int32} {y115 : Int32} {y116 : Int64} {y117 : Int32} {y118 : Int64} {y119 : Int32} {f120 : (Nat → Int32)} {f122 : (Nat → Int32)} {f124 : (Nat → Int32)} {f126 : (Nat → Int32)} {f128 : (Nat → Int32)} (hW : wR t2_0 t3_0) (hD : gR t8_0 t9_0 t10_0 t11_0) (hB : nmB t19_0)  : ∀ (n : Nat) (lx168 : Int32), (fxK f130 lx168) → (lx168.toInt ≤ 1600) → (lx168.toInt < (n : Int)) → (S_NM_toDecimal_L62 x2 x3 x4 t0_0 t0_1 t0_2 t1_0 t1_1 t1_2 t1_3 t1_4 t1_5 t1_6 t2_0 t3_0 t4_0 t5_0 t6_0 t6_1 t6_2 t6_3 t6_4 t6_5 t6_6 t6_7 t6_8 t6_9 t6_10 t7_0 t8_0 t9_0 t10_0 t11_0 t12_0 t13_0 t13_1 t13_2 t13_3 t13_4 t13_5 t13_6 t13_7 t13_8 t13_9 t13_10 t14_0 t15_0 t16_0 t17_0 t18_0 t19_0 p142 f130 y109 y110 y111 y112 y113 y114 y115 y116 y117 y118 y119 f120 f122 f124 f126 f128 n lx168) ∧ Q_NM_toDecimal (F_NM_toDecimal_L62 x2 x3 x4 t0_0 t0_1 t0_2 t1_0 t1_1 t1_2 t1_3 t1_4 t1_5 t1_6 t2_0 t3_0 t4_0 t5_0 t6_0 t6_1 t6_2 t6_3 t6_4 t6_5 t6_6 t6_7 t6_8 t6_9 t6_10 t7_0 t8_0 t9_0 t10_0 t11_0 t12_0 t13_0 t13_1 t13_2 t13_3 t13_4 t13_5 t13_6 t13_7 t13_8 t13_9 t13_10 t14_0 t15_0 t16_0 t17_0 t18_0 t19_0 p142 f130 y109 y110 y111 y112 y113 y114 y115 y116 y117 y118 y119 f120 f122 f124 f126 f128 n lx168) := by
  intro n
  induction n with
  | zero => intro lx168 hk hA0 hm; have := hk.pos; exact absurd (show False by omega) id
  | succ n ih =>
    intro lx168 hk hA0 hm
    have e0 : (0 : Int32).toInt = 0 := rfl
    have e1 : (1 : Int32).toInt = 1 := rfl
    have eL0 : (0 : Int64).toInt = 0 := rfl
    have em : (-1 : Int32).toInt = -1 := rfl
    have n1600 : (1600 : Int32).toInt = 1600 := rfl
    have n2100 : (2100 : Int32).toInt = 2100 := rfl
    have n4100 : (4100 : Int32).toInt = 4100 := rfl
    have n12200 : (12200 : Int32).toInt = 12200 := rfl
    have n1074 : (1074 : Int32).toInt = 1074 := rfl
    have n46 : (46 : Int32).toInt = 46 := rfl
    have n48 : (48 : Int32).toInt = 48 := rfl
    have hp1 := hk.pos
    rw [S_NM_toDecimal_L62.eq_2, F_NM_toDecimal_L62.eq_2]
    obtain ⟨a1, e2⟩ := q_nm (lx168 - 1 : Int32)
    rw [e2]
    have a1i : a1.toInt = lx168.toInt - 1 := by rw [← e2]; exact q_subI (x := lx168.toInt) (y := 1) rfl (by decide) (by omega) (by omega)
    refine v_cons (by first | omega | decide) ?_
    refine v_cons (by first | omega | decide) ?_
    by_cases g3 : (f130 a1.toNatClampNeg : Int32) = (48 : Int32)
    ·
      rw [if_pos g3, if_pos g3]
      have g48 := g3
      obtain ⟨a4, e5⟩ := q_nm (lx168 + (-1) : Int32)
      rw [e5]
      have a4i : a4.toInt = lx168.toInt + (-1) := by rw [← e5]; exact q_addI (x := lx168.toInt) (y := (-1)) rfl (by decide) (by omega) (by omega)
      exact ih _ (nm_kp hk (a := a1) (by omega) (by omega) g48 (by omega)) (by omega) (by omega)
    ·
      rw [if_neg g3, if_neg g3]
      refine v_cons (by first | omega | decide) ?_
      refine v_cons (by first | omega | decide) ?_
      by_cases g6 : (f130 a1.toNatClampNeg : Int32) = (46 : Int32)
      ·
        rw [if_pos g6, if_pos g6]
        unfold S_NM_toDecimal_J111 F_NM_toDecimal_J111
        refine v_cons (by first | omega | decide) ?_
        refine v_cons (by first | omega | decide) ?_
        have h7 := T_DR_read (x2 := x4) (t0_0 := t6_0) (t0_1 := a1) (t0_2 := t6_2) (t0_3 := t6_3) (t0_4 := t6_4) (t0_5 := t6_5) (t0_6 := t6_6) (t0_7 := t6_7) (t0_8 := t6_8) (t0_9 := t6_9) (t0_10 := t6_10) (t1_0 := f130) (t2_0 := t8_0) (t3_0 := t9_0) (t4_0 := t10_0) (t5_0 := t11_0) (t6_0 := t12_0) (by with_reducible assumption) ⟨by omega, by omega⟩
        with_reducible refine v_owe h7.1 ?_
        replace h7 := h7.2
        generalize F_DR_read x4 t6_0 a1 t6_2 t6_3 t6_4 t6_5 t6_6 t6_7 t6_8 t6_9 t6_10 f130 t8_0 t9_0 t10_0 t11_0 t12_0 = p261 at *
        unfold Q_DR_read at h7
        unfold S_NM_toDecimal_c127 F_NM_toDecimal_c127
        by_cases g8 : (p261.1 : Int32) ≤ (0 : Int32)
        ·
          rw [if_pos g8, if_pos g8]
          refine ⟨trivial, ?_⟩
          exact nm_toDecimalA (by with_reducible assumption)
        ·
          rw [if_neg g8, if_neg g8]
          refine ⟨trivial, ?_⟩
          exact nm_toDecimalA (by with_reducible assumption)
      ·
        rw [if_neg g6, if_neg g6]
        unfold S_NM_toDecimal_J111 F_NM_toDecimal_J111
        refine v_cons (by first | omega | decide) ?_
        refine v_cons (by first | omega | decide) ?_
        have h9 := T_DR_read (x2 := x4) (t0_0 := t6_0) (t0_1 := lx168) (t0_2 := t6_2) (t0_3 := t6_3) (t0_4 := t6_4) (t0_5 := t6_5) (t0_6 := t6_6) (t0_7 := t6_7) (t0_8 := t6_8) (t0_9 := t6_9) (t0_10 := t6_10) (t1_0 := f130) (t2_0 := t8_0) (t3_0 := t9_0) (t4_0 := t10_0) (t5_0 := t11_0) (t6_0 := t12_0) (by with_reducible assumption) ⟨by omega, by omega⟩
        with_reducible refine v_owe h9.1 ?_
        replace h9 := h9.2
        generalize F_DR_read x4 t6_0 lx168 t6_2 t6_3 t6_4 t6_5 t6_6 t6_7 t6_8 t6_9 t6_10 f130 t8_0 t9_0 t10_0 t11_0 t12_0 = p261 at *
        unfold Q_DR_read at h9
        unfold S_NM_toDecimal_c127 F_NM_toDecimal_c127
        by_cases g10 : (p261.1 : Int32) ≤ (0 : Int32)
        ·
          rw [if_pos g10, if_pos g10]
          refine ⟨trivial, ?_⟩
          exact nm_toDecimalA (by with_reducible assumption)
        ·
          rw [if_neg g10, if_neg g10]
          refine ⟨trivial, ?_⟩
          exact nm_toDecimalA (by with_reducible assumption)
theorem T_NM_toDecimal {x2 : Int32} {x3 : Int32} {x4 : Int32} {t0_0 : Int32} {t0_1 : Int32} {t0_2 : Int32} {t1_0 : Int32} {t1_1 : Int32} {t1_2 : Int32} {t1_3 : Int32} {t1_4 : Int32} {t1_5 : Int32} {t1_6 : Int32} {t2_0 : (Nat → Int32)} {t3_0 : (Nat → Int32)} {t4_0 : (Nat → Int32)} {t5_0 : (Nat → Int32)} {t6_0 : Int32} {t6_1 : Int32} {t6_2 : Int32} {t6_3 : Int64} {t6_4 : Int32} {t6_5 : Int32} {t6_6 : Int32} {t6_7 : Int32} {t6_8 : Int32} {t6_9 : Int32} {t6_10 : Int32} {t7_0 : (Nat → Int32)} {t8_0 : (Nat → Int32)} {t9_0 : (Nat → Int32)} {t10_0 : (Nat → Int32)} {t11_0 : (Nat → Int32)} {t12_0 : (Nat → Int32)} {t13_0 : Int32} {t13_1 : Int32} {t13_2 : Int32} {t13_3 : Int32} {t13_4 : Int64} {t13_5 : Int32} {t13_6 : Int32} {t13_7 : Int64} {t13_8 : Int32} {t13_9 : Int64} {t13_10 : Int32} {t14_0 : (Nat → Int32)} {t15_0 : (Nat → Int32)} {t16_0 : (Nat → Int32)} {t17_0 : (Nat → Int32)} {t18_0 : (Nat → Int32)} {t19_0 : (Nat → Int64)} (hW : wR t2_0 t3_0) (hD : gR t8_0 t9_0 t10_0 t11_0) (hB : nmB t19_0) (hx3 : 0 ≤ x3.toInt ∧ x3.toInt ≤ 9) (hV : ¬ x2 = 0 → nmV x2 (F_NM_bitsOf x2 x3 t0_0 t0_1 t0_2 t19_0))  : (S_NM_toDecimal x2 x3 x4 t0_0 t0_1 t0_2 t1_0 t1_1 t1_2 t1_3 t1_4 t1_5 t1_6 t2_0 t3_0 t4_0 t5_0 t6_0 t6_1 t6_2 t6_3 t6_4 t6_5 t6_6 t6_7 t6_8 t6_9 t6_10 t7_0 t8_0 t9_0 t10_0 t11_0 t12_0 t13_0 t13_1 t13_2 t13_3 t13_4 t13_5 t13_6 t13_7 t13_8 t13_9 t13_10 t14_0 t15_0 t16_0 t17_0 t18_0 t19_0) ∧ Q_NM_toDecimal (F_NM_toDecimal x2 x3 x4 t0_0 t0_1 t0_2 t1_0 t1_1 t1_2 t1_3 t1_4 t1_5 t1_6 t2_0 t3_0 t4_0 t5_0 t6_0 t6_1 t6_2 t6_3 t6_4 t6_5 t6_6 t6_7 t6_8 t6_9 t6_10 t7_0 t8_0 t9_0 t10_0 t11_0 t12_0 t13_0 t13_1 t13_2 t13_3 t13_4 t13_5 t13_6 t13_7 t13_8 t13_9 t13_10 t14_0 t15_0 t16_0 t17_0 t18_0 t19_0) := by
  have e0 : (0 : Int32).toInt = 0 := rfl
  have e1 : (1 : Int32).toInt = 1 := rfl
  have eL0 : (0 : Int64).toInt = 0 := rfl
  have em : (-1 : Int32).toInt = -1 := rfl
  have n1600 : (1600 : Int32).toInt = 1600 := rfl
  have n2100 : (2100 : Int32).toInt = 2100 := rfl
  have n4100 : (4100 : Int32).toInt = 4100 := rfl
  have n12200 : (12200 : Int32).toInt = 12200 := rfl
  have n1074 : (1074 : Int32).toInt = 1074 := rfl
  have n46 : (46 : Int32).toInt = 46 := rfl
  have n48 : (48 : Int32).toInt = 48 := rfl
  unfold S_NM_toDecimal F_NM_toDecimal
  by_cases g1 : x2 = (0 : Int32)
  ·
    rw [if_pos g1, if_pos g1]
    have h2 := T_WR_written (x2 := x3) (x3 := (10 : Int32)) (t0_0 := t1_0) (t0_1 := t1_1) (t0_2 := t1_2) (t0_3 := t1_3) (t0_4 := t1_4) (t0_5 := t1_5) (t0_6 := t1_6) (t1_0 := t2_0) (t2_0 := t3_0) (t3_0 := t4_0) (t4_0 := t5_0) (by with_reducible assumption)
    with_reducible refine v_owe h2.1 ?_
    replace h2 := h2.2
    generalize F_WR_written x3 (10 : Int32) t1_0 t1_1 t1_2 t1_3 t1_4 t1_5 t1_6 t2_0 t3_0 t4_0 t5_0 = p336 at *
    unfold Q_WR_written at h2
    unfold S_NM_toDecimal_c21 F_NM_toDecimal_c21
    have h3 := T_NM_load (N1 := (2100 : Int32)) (x2 := (p336.1 : Int32)) (N3 := (4100 : Int32)) (t0_0 := (p336.2.2.2.2.2.2.2.2.2 : (Nat → Int32))) (t1_0 := t7_0) (by first | omega | decide) (by first | omega | decide) (by first | omega | decide)
    with_reducible refine v_owe h3.1 ?_
    replace h3 := h3.2
    generalize F_NM_load (2100 : Int32) (p336.1 : Int32) (4100 : Int32) (p336.2.2.2.2.2.2.2.2.2 : (Nat → Int32)) t7_0 = p365 at *
    have qL := h3
    have eL := congrArg Int32.toInt h3.1
    unfold S_NM_toDecimal_c31 F_NM_toDecimal_c31
    have h4 := T_DR_read (x2 := x4) (t0_0 := t6_0) (t0_1 := (p365.1 : Int32)) (t0_2 := t6_2) (t0_3 := t6_3) (t0_4 := t6_4) (t0_5 := t6_5) (t0_6 := t6_6) (t0_7 := t6_7) (t0_8 := t6_8) (t0_9 := t6_9) (t0_10 := t6_10) (t1_0 := (p365.2 : (Nat → Int32))) (t2_0 := t8_0) (t3_0 := t9_0) (t4_0 := t10_0) (t5_0 := t11_0) (t6_0 := t12_0) (by with_reducible assumption) ⟨by omega, by omega⟩
    with_reducible refine v_owe h4.1 ?_
    replace h4 := h4.2
    generalize F_DR_read x4 t6_0 (p365.1 : Int32) t6_2 t6_3 t6_4 t6_5 t6_6 t6_7 t6_8 t6_9 t6_10 (p365.2 : (Nat → Int32)) t8_0 t9_0 t10_0 t11_0 t12_0 = p417 at *
    unfold Q_DR_read at h4
    unfold S_NM_toDecimal_c127_7 F_NM_toDecimal_c127_7
    by_cases g5 : (p417.1 : Int32) ≤ (0 : Int32)
    ·
      rw [if_pos g5, if_pos g5]
      refine ⟨trivial, ?_⟩
      exact nm_toDecimalA (by with_reducible assumption)
    ·
      rw [if_neg g5, if_neg g5]
      refine ⟨trivial, ?_⟩
      exact nm_toDecimalA (by with_reducible assumption)
  ·
    rw [if_neg g1, if_neg g1]
    have hv := hV g1
    have h6 := T_NM_bitsOf (x2 := x2) (x3 := x3) (t0_0 := t0_0) (t0_1 := t0_1) (t0_2 := t0_2) (t1_0 := t19_0) hx3
    with_reducible refine v_owe h6 ?_
    have h7 := T_NM_exact (x2 := x2) (x3 := ((F_NM_bitsOf x2 x3 t0_0 t0_1 t0_2 t19_0) : Int64)) (x4 := (1074 : Int32)) (N5 := (4100 : Int32)) (t0_0 := t0_0) (t0_1 := t0_1) (t0_2 := t0_2) (t1_0 := t13_0) (t1_1 := t13_1) (t1_2 := t13_2) (t1_3 := t13_3) (t1_4 := t13_4) (t1_5 := t13_5) (t1_6 := t13_6) (t1_7 := t13_7) (t1_8 := t13_8) (t1_9 := t13_9) (t1_10 := t13_10) (t2_0 := t14_0) (t3_0 := t15_0) (t4_0 := t16_0) (t5_0 := t17_0) (t6_0 := t18_0) (t7_0 := t7_0) (by decide)
    with_reducible refine v_owe h7.1 ?_
    replace h7 := h7.2
    generalize F_NM_exact x2 ((F_NM_bitsOf x2 x3 t0_0 t0_1 t0_2 t19_0) : Int64) (1074 : Int32) (4100 : Int32) t0_0 t0_1 t0_2 t13_0 t13_1 t13_2 t13_3 t13_4 t13_5 t13_6 t13_7 t13_8 t13_9 t13_10 t14_0 t15_0 t16_0 t17_0 t18_0 t7_0 = p142 at *
    unfold Q_NM_exact at h7
    have qE := h7
    unfold S_NM_toDecimal_c57 F_NM_toDecimal_c57
    exact vm_td hW hD hB _ _ (qE.2 hv (by decide)) (by omega) (by omega)
