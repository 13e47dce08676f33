/-! values, for whole: the reference's shortest figures: setAll, findShortest -/
theorem y_unit {x : Int32} {r : Nat → Int32} {p : Int} {Z : Nat} (h : flU x r) (hx : x.toInt = p - 2) (hp : -1074 ≤ p) (hZ : yZ p Z) : flO 1000000000 r 156 ∧ flV 1000000000 r 156 = (Z : Int) := by
  obtain ⟨h1, h2⟩ := h
  refine ⟨h1, ?_⟩
  have E : flE = ((10 ^ 1080 : Nat) : Int) := by
    rw [fl_E, Int.natCast_pow]
    rfl
  rcases h2 with ⟨a, m, b, c⟩ | ⟨a, m, b, c⟩
  · rw [c, E]
    have : yZ p (10 ^ 1080 * 2 ^ m) := by
      unfold yZ
      rw [show 2 + (-p).toNat = 2 from by omega, show p.toNat = m + 2 from by omega, Nat.pow_add 2 m 2]
      generalize 10 ^ 1080 = X
      generalize 2 ^ m = Y
      grind
    rw [yZ_U hZ this, Int.natCast_mul, Int.natCast_pow 2 m]
    rfl
  · rw [c, E]
    have dv : 2 ^ m ∣ 10 ^ 1080 := by
      refine Nat.dvd_trans (Nat.pow_dvd_pow 2 (show m ≤ 1080 by omega)) ?_
      rw [show (10 : Nat) = 2 * 5 from rfl, Nat.mul_pow]
      exact ⟨5 ^ 1080, rfl⟩
    have : yZ p (10 ^ 1080 / 2 ^ m) := by
      unfold yZ
      have e : 10 ^ 1080 / 2 ^ m * 2 ^ m = 10 ^ 1080 := Nat.div_mul_cancel dv
      rw [show 2 + (-p).toNat = m + p.toNat from by omega, Nat.pow_add 2 m, ← Nat.mul_assoc, e, Nat.mul_comm]
    rw [yZ_U hZ this, Int.natCast_ediv, Int.natCast_pow 2 m]
    rfl
theorem y_Zb {p : Int} {Z n : Nat} (hZ : yZ p Z) (hp : p ≤ 971) (hn : n ≤ 36028797018963970) : n * Z < 10 ^ 1390 := by
  have h4 : Z ≤ 2 ^ 971 * 10 ^ 1080 := by
    have e : Z * 1 ≤ Z * 2 ^ (2 + (-p).toNat) := Nat.mul_le_mul_left _ (Nat.one_le_pow _ _ (by decide))
    rw [Nat.mul_one] at e
    refine Nat.le_trans e ?_
    unfold yZ at hZ
    rw [hZ]
    exact Nat.mul_le_mul_right _ (Nat.pow_le_pow_right (by decide) (by omega))
  refine Nat.lt_of_le_of_lt (Nat.mul_le_mul hn h4) ?_
  decide +kernel
theorem y_setR {p : (Nat → Int32) × (Nat → Int32)} {M : Int} {X : Nat} (h : flS M p) (e : M = (X : Int)) : yRw p.2 X := by
  obtain ⟨h1, h2⟩ := h
  exact ⟨h1, by rw [h2, e]⟩
theorem V_setAll {t0_0 : Int32} {t0_1 : Int32} {t0_2 : Int32} {t0_3 : Int32} {t0_4 : Int64} {t0_5 : Int32} {t0_6 : Int32} {t0_7 : Int64} {t0_8 : Int32} {t0_9 : Int64} {t0_10 : Int32} {t1_0 : (Nat → Int32)} {t2_0 : (Nat → Int32)} {t3_0 : (Nat → Int32)} {t4_0 : (Nat → Int32)} {t5_0 : (Nat → Int32)} {n Z E F' : Nat} {p : Int} (h7 : t0_7.toInt = (n : Int)) (hn : 0 < n ∧ n < 9007199254740992) (h8 : t0_8.toInt = p) (hp : -1074 ≤ p ∧ p ≤ 971) (hZ : yZ p Z) (hZ0 : 0 < Z) (h3 : t0_3.toInt = (E : Int)) (h4 : t0_4.toInt = (F' : Int)) : ∃ L j : Nat, yRS (4 * n * Z) L (4 * n * Z + 2 * Z) j (F_FR_setAll t0_0 t0_1 t0_2 t0_3 t0_4 t0_5 t0_6 t0_7 t0_8 t0_9 t0_10 t1_0 t2_0 t3_0 t4_0 t5_0).2.2.1 (F_FR_setAll t0_0 t0_1 t0_2 t0_3 t0_4 t0_5 t0_6 t0_7 t0_8 t0_9 t0_10 t1_0 t2_0 t3_0 t4_0 t5_0).2.2.2.1 (F_FR_setAll t0_0 t0_1 t0_2 t0_3 t0_4 t0_5 t0_6 t0_7 t0_8 t0_9 t0_10 t1_0 t2_0 t3_0 t4_0 t5_0).2.2.2.2 ∧ ((¬ (F' = 0 ∧ 1 < E) ∧ L + 2 * Z = 4 * n * Z) ∨ ((F' = 0 ∧ 1 < E) ∧ L + Z = 4 * n * Z)) := by
  have e1 : (1 : Int32).toInt = 1 := rfl
  have e2 : (2 : Int32).toInt = 2 := rfl
  have e4L : (4 : Int64).toInt = 4 := rfl
  have e2L : (2 : Int64).toInt = 2 := rfl
  have e1L : (1 : Int64).toInt = 1 := rfl
  have sa := (T_FR_setAll (t0_0 := t0_0) (t0_1 := t0_1) (t0_2 := t0_2) (t0_3 := t0_3) (t0_4 := t0_4) (t0_5 := t0_5) (t0_6 := t0_6) (t0_7 := t0_7) (t0_8 := t0_8) (t0_9 := t0_9) (t0_10 := t0_10) (t1_0 := t1_0) (t2_0 := t2_0) (t3_0 := t3_0) (t4_0 := t4_0) (t5_0 := t5_0) (by omega) (by omega)).2
  have sx := q_subI h8 e2 (by omega) (by omega)
  have un := y_unit (T_FR_setUnit (x2 := t0_8 - 2) (t0_0 := t0_0) (t0_1 := t0_1) (t0_2 := t0_2) (t0_3 := t0_3) (t0_4 := t0_4) (t0_5 := t0_5) (t0_6 := t0_6) (t0_7 := t0_7) (t0_8 := t0_8) (t0_9 := t0_9) (t0_10 := t0_10) (t1_0 := t1_0) (by omega)) sx hp.1 hZ
  have m4 := q_mulL e4L h7 (by omega) (by omega)
  have B : ∀ k : Nat, k ≤ 36028797018963970 → ((k : Nat) : Int) * (Z : Int) < 1000000000 ^ 156 := by
    intro k hk
    have b := y_Zb hZ hp.2 hk
    have b2 : ((k * Z : Nat) : Int) < ((10 ^ 1404 : Nat) : Int) := Int.ofNat_lt.mpr (Nat.lt_of_lt_of_le b (Nat.pow_le_pow_right (by decide) (by decide)))
    rw [Int.natCast_mul] at b2
    refine Int.lt_of_lt_of_le b2 ?_
    have : ((10 ^ 1404 : Nat) : Int) = (1000000000 : Int) ^ 156 := by
      rw [Int.natCast_pow, show (1000000000 : Int) = ((10 : Nat) : Int) ^ 9 from rfl, ← Int.pow_mul]
    rw [this]
    exact Int.le_refl _
  have set : ∀ (k : Nat) (x : Int64) (b c : Nat → Int32), x.toInt = (k : Int) → k ≤ 36028797018963970 → ∀ p, p = F_FR_set 1404 x t0_0 t0_1 t0_2 t0_3 t0_4 t0_5 t0_6 t0_7 t0_8 t0_9 t0_10 (F_FR_setUnit (t0_8 - 2) t0_0 t0_1 t0_2 t0_3 t0_4 t0_5 t0_6 t0_7 t0_8 t0_9 t0_10 t1_0) b c → yRw p.2 (k * Z) := by
    intro k x b c hx hk p hpe
    rw [hpe]
    have r := (T_FR_set (N2 := 1404) (x3 := x) (t0_0 := t0_0) (t0_1 := t0_1) (t0_2 := t0_2) (t0_3 := t0_3) (t0_4 := t0_4) (t0_5 := t0_5) (t0_6 := t0_6) (t0_7 := t0_7) (t0_8 := t0_8) (t0_9 := t0_9) (t0_10 := t0_10) (t1_0 := F_FR_setUnit (t0_8 - 2) t0_0 t0_1 t0_2 t0_3 t0_4 t0_5 t0_6 t0_7 t0_8 t0_9 t0_10 t1_0) (t2_0 := b) (t3_0 := c) rfl un.1 (by rw [un.2]; omega) (by omega) (by rw [un.2, hx]; exact B k hk)).2
    exact y_setR r (by rw [un.2, hx, Int.natCast_mul])
  have V20 : 10 ^ 4 ≤ Z := by
    have hz : 10 ^ 1080 ≤ Z * 2 ^ (2 + (-p).toNat) := by
      unfold yZ at hZ
      rw [hZ]
      exact Nat.le_mul_of_pos_left _ (Nat.pow_pos (by decide))
    have h2 : 2 ^ (2 + (-p).toNat) ≤ 2 ^ 1076 := Nat.pow_le_pow_right (by decide) (by omega)
    have h3 : 10 ^ 1080 ≤ Z * 2 ^ 1076 := Nat.le_trans hz (Nat.mul_le_mul_left _ h2)
    have h4 : 10 ^ 4 * 2 ^ 1076 ≤ 10 ^ 1080 := by decide +kernel
    exact Nat.le_of_mul_le_mul_right (Nat.le_trans h4 h3) (Nat.pow_pos (by decide))
  have big : 2 * Z ≤ 4 * n * Z := Nat.mul_le_mul_right _ (by omega)
  have fin : ∀ (r : (Nat → Int32) × (Nat → Int32) × (Nat → Int32) × (Nat → Int32) × (Nat → Int32)) (L : Nat), Q_FR_setAll r → yRw r.2.2.1 (4 * n * Z) → yRw r.2.2.2.1 L → yRw r.2.2.2.2 (4 * n * Z + 2 * Z) → L < 4 * n * Z → ∃ j : Nat, yRS (4 * n * Z) L (4 * n * Z + 2 * Z) j r.2.2.1 r.2.2.2.1 r.2.2.2.2 := by
    intro r L hq r1 r2 r3 hL
    have q := (T_FR_top (t0_0 := t0_0) (t0_1 := t0_1) (t0_2 := t0_2) (t0_3 := t0_3) (t0_4 := t0_4) (t0_5 := t0_5) (t0_6 := t0_6) (t0_7 := t0_7) (t0_8 := t0_8) (t0_9 := t0_9) (t0_10 := t0_10) hq.1 hq.2).2
    obtain ⟨j, _, j2, j3, j4⟩ := y_topV r1 q
    exact ⟨j, r1, r2, r3, hL, by omega, j3, j4, j2, hq.1, hq.2⟩
  have q4 : (4 * t0_7).toInt = ((4 * n : Nat) : Int) := by
    rw [m4]
    omega
  have qh : (4 * t0_7 + 2).toInt = ((4 * n + 2 : Nat) : Int) := q_addL q4 e2L (by omega) (by omega)
  have ql2 : (4 * t0_7 - 2).toInt = ((4 * n - 2 : Nat) : Int) := by
    rw [q_subL q4 e2L (by omega) (by omega)]
    omega
  have ql1 : (4 * t0_7 - 1).toInt = ((4 * n - 1 : Nat) : Int) := by
    rw [q_subL q4 e1L (by omega) (by omega)]
    omega
  have s1 := set (4 * n) (4 * t0_7) t2_0 t3_0 q4 (by omega) _ rfl
  revert sa
  unfold F_FR_setAll
  revert s1
  generalize F_FR_set 1404 (4 * t0_7) t0_0 t0_1 t0_2 t0_3 t0_4 t0_5 t0_6 t0_7 t0_8 t0_9 t0_10 (F_FR_setUnit (t0_8 - 2) t0_0 t0_1 t0_2 t0_3 t0_4 t0_5 t0_6 t0_7 t0_8 t0_9 t0_10 t1_0) t2_0 t3_0 = p49
  intro s1
  unfold F_FR_setAll_c23
  have eH : (4 * n + 2) * Z = 4 * n * Z + 2 * Z := Nat.add_mul _ _ _
  have eL2 : (4 * n - 2) * Z + 2 * Z = 4 * n * Z := by
    rw [← Nat.add_mul, show 4 * n - 2 + 2 = 4 * n from by omega]
  have eL1 : (4 * n - 1) * Z + Z = 4 * n * Z := by
    have : (4 * n - 1) * Z + 1 * Z = 4 * n * Z := by rw [← Nat.add_mul, show 4 * n - 1 + 1 = 4 * n from by omega]
    rw [Nat.one_mul] at this
    exact this
  have usual : ¬ (F' = 0 ∧ 1 < E) → ∀ o, o = F_FR_setAll_J60 t0_0 t0_1 t0_2 t0_3 t0_4 t0_5 t0_6 t0_7 t0_8 t0_9 t0_10 t1_0 t2_0 t3_0 t4_0 t5_0 (F_FR_setUnit (t0_8 - 2) t0_0 t0_1 t0_2 t0_3 t0_4 t0_5 t0_6 t0_7 t0_8 t0_9 t0_10 t1_0) p49 (4 * t0_7) p49.1 p49.2 → Q_FR_setAll o → ∃ L j : Nat, yRS (4 * n * Z) L (4 * n * Z + 2 * Z) j o.2.2.1 o.2.2.2.1 o.2.2.2.2 ∧ ((¬ (F' = 0 ∧ 1 < E) ∧ L + 2 * Z = 4 * n * Z) ∨ ((F' = 0 ∧ 1 < E) ∧ L + Z = 4 * n * Z)) := by
    intro nq o ho hqo
    have s2 := set (4 * n - 2) (4 * t0_7 - 2) p49.1 t4_0 ql2 (by omega) _ rfl
    unfold F_FR_setAll_J60 at ho
    revert s2 ho
    generalize F_FR_set 1404 (4 * t0_7 - 2) t0_0 t0_1 t0_2 t0_3 t0_4 t0_5 t0_6 t0_7 t0_8 t0_9 t0_10 (F_FR_setUnit (t0_8 - 2) t0_0 t0_1 t0_2 t0_3 t0_4 t0_5 t0_6 t0_7 t0_8 t0_9 t0_10 t1_0) p49.1 t4_0 = p86
    intro ho s2
    have s3 := set (4 * n + 2) (4 * t0_7 + 2) p86.1 t5_0 qh (by omega) _ rfl
    unfold F_FR_setAll_c64 at ho
    revert s3 ho
    generalize F_FR_set 1404 (4 * t0_7 + 2) t0_0 t0_1 t0_2 t0_3 t0_4 t0_5 t0_6 t0_7 t0_8 t0_9 t0_10 (F_FR_setUnit (t0_8 - 2) t0_0 t0_1 t0_2 t0_3 t0_4 t0_5 t0_6 t0_7 t0_8 t0_9 t0_10 t1_0) p86.1 t5_0 = p108
    intro ho s3
    unfold F_FR_setAll_c84 at ho
    rw [eH] at s3
    obtain ⟨j, r⟩ := fin o ((4 * n - 2) * Z) hqo (by rw [ho]; exact s1) (by rw [ho]; exact s2) (by rw [ho]; exact s3) (by omega)
    exact ⟨_, j, r, Or.inl ⟨nq, eL2⟩⟩
  intro sa
  by_cases g1 : lg_cmp t0_4 0 = 0
  · rw [if_pos g1] at sa ⊢
    have fz : F' = 0 := by
      have := g_lcz g1
      rw [h4] at this
      have z : (0 : Int64).toInt = 0 := rfl
      omega
    by_cases g2 : t0_3 ≤ 1
    · rw [if_pos g2] at sa ⊢
      have g2 := q_leI g2
      exact usual (fun q => by have := q.2; omega) _ rfl sa
    · rw [if_neg g2] at sa ⊢
      have g2 := q_nleI g2
      have s2 := set (4 * n - 1) (4 * t0_7 - 1) p49.1 t4_0 ql1 (by omega) _ rfl
      revert s2 sa
      generalize F_FR_set 1404 (4 * t0_7 - 1) t0_0 t0_1 t0_2 t0_3 t0_4 t0_5 t0_6 t0_7 t0_8 t0_9 t0_10 (F_FR_setUnit (t0_8 - 2) t0_0 t0_1 t0_2 t0_3 t0_4 t0_5 t0_6 t0_7 t0_8 t0_9 t0_10 t1_0) p49.1 t4_0 = p134
      intro sa s2
      have s3 := set (4 * n + 2) (4 * t0_7 + 2) p134.1 t5_0 qh (by omega) _ rfl
      unfold F_FR_setAll_c64_5 at sa ⊢
      revert s3 sa
      generalize F_FR_set 1404 (4 * t0_7 + 2) t0_0 t0_1 t0_2 t0_3 t0_4 t0_5 t0_6 t0_7 t0_8 t0_9 t0_10 (F_FR_setUnit (t0_8 - 2) t0_0 t0_1 t0_2 t0_3 t0_4 t0_5 t0_6 t0_7 t0_8 t0_9 t0_10 t1_0) p134.1 t5_0 = p156
      intro sa s3
      unfold F_FR_setAll_c84_6 at sa ⊢
      rw [eH] at s3
      obtain ⟨j, r⟩ := fin _ ((4 * n - 1) * Z) sa s1 s2 s3 (by omega)
      exact ⟨_, j, r, Or.inr ⟨⟨fz, by omega⟩, eL1⟩⟩
  · rw [if_neg g1] at sa ⊢
    have fz : ¬ F' = 0 := fun q => g1 (y_lcE.mpr (by rw [h4, q]; rfl))
    exact usual (fun q => fz q.1) _ rfl sa
theorem V_FRfind2 {t0_0 : Int32} {t0_1 : Int32} {t0_2 : Int32} {t0_3 : Int32} {t0_4 : Int64} {t0_5 : Int32} {t0_6 : Int32} {t0_7 : Int64} {t0_8 : Int32} {t0_9 : Int64} {t0_10 : Int32} {t1_0 : (Nat → Int32)} {t2_0 : (Nat → Int32)} {t3_0 : (Nat → Int32)} {t4_0 : (Nat → Int32)} {t5_0 : (Nat → Int32)} {t6_0 : (Nat → Int32)} {P T w : Nat} {l : Int} (h7 : t0_7.toInt = ((yNx P T w : Nat) : Int)) (hn : 0 < yNx P T w ∧ yNx P T w < 9007199254740992) (hq : yFx P w = 0 → yNx P T w ≤ 4503599627370496) (h8 : t0_8.toInt = yPx l (yEx P T w)) (hp : -1074 ≤ yPx l (yEx P T w) ∧ yPx l (yEx P T w) ≤ 971) (h3 : t0_3.toInt = ((yEx P T w : Nat) : Int)) (h4 : t0_4.toInt = ((yFx P w : Nat) : Int)) : ∃ S q Z j : Nat, yFsh P T l w S q ∧ (F_FR_findShortest t0_0 t0_1 t0_2 t0_3 t0_4 t0_5 t0_6 t0_7 t0_8 t0_9 t0_10 t1_0 t2_0 t3_0 t4_0 t5_0 t6_0).2.2.2.2.2.2.2.2.2.1.toInt = (S : Int) ∧ (F_FR_findShortest t0_0 t0_1 t0_2 t0_3 t0_4 t0_5 t0_6 t0_7 t0_8 t0_9 t0_10 t1_0 t2_0 t3_0 t4_0 t5_0 t6_0).2.2.2.2.2.2.2.2.2.2.1.toInt = (q : Int) ∧ yZ (yPx l (yEx P T w)) Z ∧ 10 ^ j ≤ 4 * yNx P T w * Z ∧ 4 * yNx P T w * Z < 10 ^ (j + 1) ∧ (∀ (a0 a1 a2 a3 : Int32) (a4 : Int64) (a5 a6 : Int32) (a7 : Int64) (a8 : Int32) (a9 : Int64) (a10 : Int32), (F_FR_top a0 a1 a2 a3 a4 a5 a6 a7 a8 a9 a10 (F_FR_findShortest t0_0 t0_1 t0_2 t0_3 t0_4 t0_5 t0_6 t0_7 t0_8 t0_9 t0_10 t1_0 t2_0 t3_0 t4_0 t5_0 t6_0).2.2.2.2.2.2.2.2.2.2.2.2.2.1).toInt = (j : Int)) := by
  have e1 : (1 : Int32).toInt = 1 := rfl
  obtain ⟨Z, hZ, Zp⟩ := yZ_ex hp.1
  unfold F_FR_findShortest
  have sa := V_setAll (t0_0 := t0_0) (t0_1 := t0_1) (t0_2 := t0_2) (t0_3 := t0_3) (t0_4 := t0_4) (t0_5 := t0_5) (t0_6 := t0_6) (t0_7 := t0_7) (t0_8 := t0_8) (t0_9 := t0_9) (t0_10 := t0_10) (t1_0 := t1_0) (t2_0 := t2_0) (t3_0 := t3_0) (t4_0 := t4_0) (t5_0 := t5_0) h7 hn h8 hp hZ Zp h3 h4
  revert sa
  generalize F_FR_setAll t0_0 t0_1 t0_2 t0_3 t0_4 t0_5 t0_6 t0_7 t0_8 t0_9 t0_10 t1_0 t2_0 t3_0 t4_0 t5_0 = p47
  intro sa
  obtain ⟨L, j, H0, hL⟩ := sa
  have jb := H0.jb
  have bd : yBnd (yNx P T w) Z (4 * yNx P T w * Z) L (4 * yNx P T w * Z + 2 * Z) (yFx P w = 0 ∧ 1 < yEx P T w) := ⟨rfl, rfl, hL, hn.1, hn.2, fun q => hq q.1, Zp⟩
  unfold F_FR_findShortest_c1
  have tp := H0.top (t0_0 := t0_0) (t0_1 := t0_1) (t0_2 := t0_2) (t0_3 := t0_3) (t0_4 := t0_4) (t0_5 := t0_5) (t0_6 := t0_6) (t0_7 := t0_7) (t0_8 := t0_8) (t0_9 := t0_9) (t0_10 := t0_10)
  have ll := V_llL (t0_0 := t0_0) (t0_1 := t0_1) (t0_2 := t0_2) (t0_3 := t0_3) (t0_5 := t0_5) (t0_6 := t0_6) (t0_7 := t0_7) (t0_8 := t0_8) (t0_9 := t0_9) (t0_10 := t0_10) (t4_0 := t6_0) H0 h4 tp ((17 - (1 : Int32).toInt).toNat + 1) 1 t6_0 1 rfl (by omega) (by omega) (by decide) (fun i a b => by omega)
  have le : F_FR_leastLength t0_0 t0_1 t0_2 t0_3 t0_4 t0_5 t0_6 t0_7 t0_8 t0_9 t0_10 p47.2.2.1 p47.2.2.2.1 p47.2.2.2.2 t6_0 = F_FR_leastLength_L7 t0_0 t0_1 t0_2 t0_3 t0_4 t0_5 t0_6 t0_7 t0_8 t0_9 t0_10 p47.2.2.1 p47.2.2.2.1 p47.2.2.2.2 t6_0 (F_FR_top t0_0 t0_1 t0_2 t0_3 t0_4 t0_5 t0_6 t0_7 t0_8 t0_9 t0_10 p47.2.2.1) ((17 - (1 : Int32).toInt).toNat + 1) 1 t6_0 := by
    unfold F_FR_leastLength
    with_reducible rfl
  rw [← le] at ll
  revert ll
  generalize F_FR_leastLength t0_0 t0_1 t0_2 t0_3 t0_4 t0_5 t0_6 t0_7 t0_8 t0_9 t0_10 p47.2.2.1 p47.2.2.2.1 p47.2.2.2.2 t6_0 = p69
  intro ll
  obtain ⟨m, l1, l2, l3, l4⟩ := ll
  have wrap : ∀ {x y : Int} {r : Nat → Int32}, (∃ S q : Nat, ySho (4 * yNx P T w * Z) L (4 * yNx P T w * Z + 2 * Z) (yFx P w % 2 = 0) S q ∧ x = (S : Int) ∧ y = (q : Int) ∧ r = p47.2.2.1) → ∃ S q Z j : Nat, yFsh P T l w S q ∧ x = (S : Int) ∧ y = (q : Int) ∧ yZ (yPx l (yEx P T w)) Z ∧ 10 ^ j ≤ 4 * yNx P T w * Z ∧ 4 * yNx P T w * Z < 10 ^ (j + 1) ∧ (∀ (a0 a1 a2 a3 : Int32) (a4 : Int64) (a5 a6 : Int32) (a7 : Int64) (a8 : Int32) (a9 : Int64) (a10 : Int32), (F_FR_top a0 a1 a2 a3 a4 a5 a6 a7 a8 a9 a10 r).toInt = (j : Int)) := by
    intro x y r h
    obtain ⟨S, q, a, b, c, d⟩ := h
    refine ⟨S, q, Z, j, ⟨Z, L, hZ, hL, a⟩, b, c, hZ, H0.j1, H0.j2, ?_⟩
    intro a0 a1 a2 a3 a4 a5 a6 a7 a8 a9 a10
    rw [d]
    exact H0.top
  have fst : ∀ m' : Nat, 2 ≤ m' → m' ≤ 17 → (yDn (4 * yNx P T w * Z) L (yFx P w % 2 = 0) (j + 1 - m') ∨ yUp (4 * yNx P T w * Z) (4 * yNx P T w * Z + 2 * Z) (yFx P w % 2 = 0) (j + 1 - m')) → (∀ i, 2 ≤ i → i < m' → ¬ (yDn (4 * yNx P T w * Z) L (yFx P w % 2 = 0) (j + 1 - i) ∨ yUp (4 * yNx P T w * Z) (4 * yNx P T w * Z + 2 * Z) (yFx P w % 2 = 0) (j + 1 - i))) → yFst (4 * yNx P T w * Z) L (4 * yNx P T w * Z + 2 * Z) (yFx P w % 2 = 0) (j + 1 - m') := by
    intro m' a b c d
    refine ⟨j, H0.j1, H0.j2, by omega, c, fun i i1 i2 => ?_⟩
    have := d (j + 1 - i) (by omega) (by omega)
    rw [show j + 1 - (j + 1 - i) = i from by omega] at this
    exact this
  unfold F_FR_findShortest_c5
  by_cases g : p69.1 = 1
  · rw [if_pos g]
    have m1 : m = 1 := by
      rw [g, e1] at l1
      omega
    subst m1
    have at1 := l4 (by decide)
    have at2 : yDn (4 * yNx P T w * Z) L (yFx P w % 2 = 0) (j + 1 - 2) ∨ yUp (4 * yNx P T w * Z) (4 * yNx P T w * Z + 2 * Z) (yFx P w % 2 = 0) (j + 1 - 2) := by
      rw [show j + 1 - 1 = (j + 1 - 2) + 1 from by omega] at at1
      rcases at1 with q | q
      · exact Or.inl (yDn_m q)
      · exact Or.inr (yUp_m q)
    exact wrap (V_fs19 H0 h4 (m := 2) rfl (by decide) (fst 2 (by decide) (by decide) at2 (fun i a b => by omega)))
  · rw [if_neg g]
    have m1 : m ≠ 1 := fun q => g (Int32.toInt_inj.mp (by rw [l1, q]; rfl))
    refine wrap (V_fs19 H0 h4 l1 (by omega) (fst m (by omega) (by omega) ?_ (fun i a b => l3 i (by omega) b)))
    rcases Nat.lt_or_ge m 17 with q | q
    · exact l4 (by omega)
    · obtain rfl : m = 17 := by omega
      refine y_17 bd ?_
      rw [show j + 1 - 17 + 16 = j from by omega]
      exact H0.j1
theorem V_FRfind {t0_0 : Int32} {t0_1 : Int32} {t0_2 : Int32} {t0_3 : Int32} {t0_4 : Int64} {t0_5 : Int32} {t0_6 : Int32} {t0_7 : Int64} {t0_8 : Int32} {t0_9 : Int64} {t0_10 : Int32} {t1_0 : (Nat → Int32)} {t2_0 : (Nat → Int32)} {t3_0 : (Nat → Int32)} {t4_0 : (Nat → Int32)} {t5_0 : (Nat → Int32)} {t6_0 : (Nat → Int32)} {P T w : Nat} {l : Int} (h7 : t0_7.toInt = ((yNx P T w : Nat) : Int)) (hn : 0 < yNx P T w ∧ yNx P T w < 9007199254740992) (hq : yFx P w = 0 → yNx P T w ≤ 4503599627370496) (h8 : t0_8.toInt = yPx l (yEx P T w)) (hp : -1074 ≤ yPx l (yEx P T w) ∧ yPx l (yEx P T w) ≤ 971) (h3 : t0_3.toInt = ((yEx P T w : Nat) : Int)) (h4 : t0_4.toInt = ((yFx P w : Nat) : Int)) : ∃ S q : Nat, yFsh P T l w S q ∧ (F_FR_findShortest t0_0 t0_1 t0_2 t0_3 t0_4 t0_5 t0_6 t0_7 t0_8 t0_9 t0_10 t1_0 t2_0 t3_0 t4_0 t5_0 t6_0).2.2.2.2.2.2.2.2.2.1.toInt = (S : Int) ∧ (F_FR_findShortest t0_0 t0_1 t0_2 t0_3 t0_4 t0_5 t0_6 t0_7 t0_8 t0_9 t0_10 t1_0 t2_0 t3_0 t4_0 t5_0 t6_0).2.2.2.2.2.2.2.2.2.2.1.toInt = (q : Int) := by
  obtain ⟨S, q, _, _, a, b, c, _⟩ := V_FRfind2 (t0_0 := t0_0) (t0_1 := t0_1) (t0_2 := t0_2) (t0_3 := t0_3) (t0_4 := t0_4) (t0_5 := t0_5) (t0_6 := t0_6) (t0_7 := t0_7) (t0_8 := t0_8) (t0_9 := t0_9) (t0_10 := t0_10) (t1_0 := t1_0) (t2_0 := t2_0) (t3_0 := t3_0) (t4_0 := t4_0) (t5_0 := t5_0) (t6_0 := t6_0) h7 hn hq h8 hp h3 h4
  exact ⟨S, q, a, b, c⟩
