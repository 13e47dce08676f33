/-! values: Euclid -/
abbrev bP (R : Int32) (M : Nat) : bT := fun s n f => ∃ v : Int, 0 ≤ v ∧ bB M v ∧ bO R s n f v
theorem v_e1 : (1 : Int32).toInt = 1 := rfl
theorem v_eTT : (10000 : Int32).toInt = 10000 := rfl
theorem T_cdL {R : Int32} {R2 : Int32} {t0_0 : Int32} {t0_1 : Int32} {t1_0 : (Nat → Int32)} {t2_0 : Int32} {t2_1 : Int32} {t3_0 : (Nat → Int32)} {t4_0 : Int32} {t4_1 : Int32} {t5_0 : (Nat → Int32)} {t6_0 : Int32} {t6_1 : Int32} {t7_0 : (Nat → Int32)} {t8_0 : Int32} {t8_1 : Int32} {t9_0 : (Nat → Int32)} {t10_0 : Int32} {t10_1 : Int32} {t11_0 : (Nat → Int32)} {p64 : (Int32 × Int32 × (Nat → Int32))} {y53 : Int32} {y54 : Int32} {f55 : (Nat → Int32)} {p88 : (Int32 × Int32 × (Nat → Int32))} {M : Nat} (hM : M + 2 ≤ 220) : ∀ (n : Nat) (lx109 : Int32) (lx110 : Int32) (lx111 : Int32) (lx112 : (Nat → Int32)) (lx113 : Int32) (lx114 : Int32) (lx115 : (Nat → Int32)) (lx116 : Int32) (lx117 : Int32) (lx118 : (Nat → Int32)), 0 < n → 10000 - lx109.toInt < (n : Int) → 0 ≤ lx109.toInt → lx109.toInt ≤ 10001 → bI 220 lx110 lx111 lx112 → (∃ v, bO 220 lx113 lx114 lx115 v ∧ bB M v) → (∃ w, bO 220 lx116 lx117 lx118 w ∧ bB M w) → (S_Mil_commonDivisor_L25 R R2 t0_0 t0_1 t1_0 t2_0 t2_1 t3_0 t4_0 t4_1 t5_0 t6_0 t6_1 t7_0 t8_0 t8_1 t9_0 t10_0 t10_1 t11_0 p64 y53 y54 f55 p88 n lx109 lx110 lx111 lx112 lx113 lx114 lx115 lx116 lx117 lx118) ∧ G4 (bP 220 M) (bI 220) (bI 220) (bI 220) (F_Mil_commonDivisor_L25 R R2 t0_0 t0_1 t1_0 t2_0 t2_1 t3_0 t4_0 t4_1 t5_0 t6_0 t6_1 t7_0 t8_0 t8_1 t9_0 t10_0 t10_1 t11_0 p64 y53 y54 f55 p88 n lx109 lx110 lx111 lx112 lx113 lx114 lx115 lx116 lx117 lx118) := by
  have e := e220
  have e0 : (0 : Int32).toInt = 0 := rfl
  have eT := v_eTT
  intro n
  induction n with
  | zero => intros; omega
  | succ n ih =>
    intro lx109 lx110 lx111 lx112 lx113 lx114 lx115 lx116 lx117 lx118 hn hl hl0 hl1 hq hv hw
    rw [S_Mil_commonDivisor_L25.eq_2, F_Mil_commonDivisor_L25.eq_2]
    obtain ⟨v, hv, hv2⟩ := hv
    obtain ⟨w, hw, hw2⟩ := hw
    have s1 := hv.sB hv2
    have s2 := hw.sB hw2
    by_cases hj : 10000 ≤ lx109
    · rw [if_pos hj, if_pos hj]
      have h72 : P1 220 v (F_Big_copy (220 : Int32) (220 : Int32) t0_0 t0_1 t1_0 lx113 lx114 lx115) := W_copy hv hv.fit (by decide)
      generalize (F_Big_copy (220 : Int32) (220 : Int32) t0_0 t0_1 t1_0 lx113 lx114 lx115) = p171 at h72 ⊢
      unfold S_Mil_commonDivisor_c72 F_Mil_commonDivisor_c72
      exact ⟨trivial, ⟨_, by omega, hv2.le (by omega), h72.abs0⟩, hq, hv.I, hw.I⟩
    rw [if_neg hj, if_neg hj]
    have hj2 := q_nleI hj
    by_cases hk : lx116 ≤ 0
    · rw [if_pos hk, if_pos hk]
      have h72 : P1 220 v (F_Big_copy (220 : Int32) (220 : Int32) t0_0 t0_1 t1_0 lx113 lx114 lx115) := W_copy hv hv.fit (by decide)
      generalize (F_Big_copy (220 : Int32) (220 : Int32) t0_0 t0_1 t1_0 lx113 lx114 lx115) = p201 at h72 ⊢
      unfold S_Mil_commonDivisor_c72_5 F_Mil_commonDivisor_c72_5
      exact ⟨trivial, ⟨_, by omega, hv2.le (by omega), h72.abs0⟩, hq, hv.I, hw.I⟩
    rw [if_neg hk, if_neg hk]
    have w0 := hw.pos.mp (v_nle0 hk)
    have h48 : S_Big_divideBy (220 : Int32) (220 : Int32) (220 : Int32) lx113 lx114 lx115 lx116 lx117 lx118 lx110 lx111 lx112 ∧ P3 220 220 220 (v.tmod w) w ((v.natAbs / w.natAbs : Nat) : Int) (F_Big_divideBy (220 : Int32) (220 : Int32) (220 : Int32) lx113 lx114 lx115 lx116 lx117 lx118 lx110 lx111 lx112) := W_divideBy hv hw w0 (by omega) (by omega) (by decide)
    refine v_owe h48.1 ?_
    replace h48 := h48.2
    generalize (F_Big_divideBy (220 : Int32) (220 : Int32) (220 : Int32) lx113 lx114 lx115 lx116 lx117 lx118 lx110 lx111 lx112) = p250 at h48 ⊢
    unfold S_Mil_commonDivisor_c48 F_Mil_commonDivisor_c48
    have ej : (lx109 + 1 : Int32).toInt = lx109.toInt + 1 := q_addI rfl v_e1 (by omega) (by omega)
    have m1 : bB M (v.tmod w) := hw2.tmod w0
    have s3 := h48.1.sB m1
    have s4 := h48.2.1.sB hw2
    by_cases hj3 : 10000 ≤ (lx109 + 1 : Int32)
    · rw [if_pos hj3, if_pos hj3]
      have h72 : P1 220 w (F_Big_copy (220 : Int32) (220 : Int32) t0_0 t0_1 t1_0 (p250.2.2.2.1 : Int32) (p250.2.2.2.2.1 : Int32) (p250.2.2.2.2.2.1 : (Nat → Int32))) := W_copy h48.2.1 h48.2.1.fit (by decide)
      generalize (F_Big_copy (220 : Int32) (220 : Int32) t0_0 t0_1 t1_0 (p250.2.2.2.1 : Int32) (p250.2.2.2.2.1 : Int32) (p250.2.2.2.2.2.1 : (Nat → Int32))) = p285 at h72 ⊢
      unfold S_Mil_commonDivisor_c72_7 F_Mil_commonDivisor_c72_7
      exact ⟨trivial, ⟨_, by omega, hw2.le (by omega), h72.abs0⟩, h48.2.2.I, h48.1.I, h48.2.1.I⟩
    rw [if_neg hj3, if_neg hj3]
    have hj4 := q_nleI hj3
    by_cases hk2 : p250.1 ≤ 0
    · rw [if_pos hk2, if_pos hk2]
      have h72 : P1 220 w (F_Big_copy (220 : Int32) (220 : Int32) t0_0 t0_1 t1_0 (p250.2.2.2.1 : Int32) (p250.2.2.2.2.1 : Int32) (p250.2.2.2.2.2.1 : (Nat → Int32))) := W_copy h48.2.1 h48.2.1.fit (by decide)
      generalize (F_Big_copy (220 : Int32) (220 : Int32) t0_0 t0_1 t1_0 (p250.2.2.2.1 : Int32) (p250.2.2.2.2.1 : Int32) (p250.2.2.2.2.2.1 : (Nat → Int32))) = p314 at h72 ⊢
      unfold S_Mil_commonDivisor_c72_8 F_Mil_commonDivisor_c72_8
      exact ⟨trivial, ⟨_, by omega, hw2.le (by omega), h72.abs0⟩, h48.2.2.I, h48.1.I, h48.2.1.I⟩
    rw [if_neg hk2, if_neg hk2]
    have w1 := h48.1.pos.mp (v_nle0 hk2)
    have h49 : S_Big_divideBy (220 : Int32) (220 : Int32) (220 : Int32) (p250.2.2.2.1 : Int32) (p250.2.2.2.2.1 : Int32) (p250.2.2.2.2.2.1 : (Nat → Int32)) (p250.1 : Int32) (p250.2.1 : Int32) (p250.2.2.1 : (Nat → Int32)) (p250.2.2.2.2.2.2.1 : Int32) (p250.2.2.2.2.2.2.2.1 : Int32) (p250.2.2.2.2.2.2.2.2 : (Nat → Int32)) ∧ P3 220 220 220 (w.tmod (v.tmod w)) (v.tmod w) ((w.natAbs / (v.tmod w).natAbs : Nat) : Int) (F_Big_divideBy (220 : Int32) (220 : Int32) (220 : Int32) (p250.2.2.2.1 : Int32) (p250.2.2.2.2.1 : Int32) (p250.2.2.2.2.2.1 : (Nat → Int32)) (p250.1 : Int32) (p250.2.1 : Int32) (p250.2.2.1 : (Nat → Int32)) (p250.2.2.2.2.2.2.1 : Int32) (p250.2.2.2.2.2.2.2.1 : Int32) (p250.2.2.2.2.2.2.2.2 : (Nat → Int32))) := W_divideBy h48.2.1 h48.1 w1 (by omega) (by omega) (by decide)
    refine v_owe h49.1 ?_
    replace h49 := h49.2
    generalize (F_Big_divideBy (220 : Int32) (220 : Int32) (220 : Int32) (p250.2.2.2.1 : Int32) (p250.2.2.2.2.1 : Int32) (p250.2.2.2.2.2.1 : (Nat → Int32)) (p250.1 : Int32) (p250.2.1 : Int32) (p250.2.2.1 : (Nat → Int32)) (p250.2.2.2.2.2.2.1 : Int32) (p250.2.2.2.2.2.2.2.1 : Int32) (p250.2.2.2.2.2.2.2.2 : (Nat → Int32))) = p362 at h49 ⊢
    unfold S_Mil_commonDivisor_c48_9 F_Mil_commonDivisor_c48_9
    have ej2 : (lx109 + 1 + 1 : Int32).toInt = lx109.toInt + 1 + 1 := q_addI ej v_e1 (by omega) (by omega)
    exact ih _ _ _ _ _ _ _ _ _ _ (by omega) (by omega) (by omega) (by omega) h49.2.2.I ⟨_, h49.2.1, m1⟩ ⟨_, h49.1, m1.tmod w1⟩
theorem T_commonDivisor {R : Int32} {R2 : Int32} {t0_0 : Int32} {t0_1 : Int32} {t1_0 : (Nat → Int32)} {t2_0 : Int32} {t2_1 : Int32} {t3_0 : (Nat → Int32)} {t4_0 : Int32} {t4_1 : Int32} {t5_0 : (Nat → Int32)} {t6_0 : Int32} {t6_1 : Int32} {t7_0 : (Nat → Int32)} {t8_0 : Int32} {t8_1 : Int32} {t9_0 : (Nat → Int32)} {t10_0 : Int32} {t10_1 : Int32} {t11_0 : (Nat → Int32)} {va vb : Int} {M : Nat} (hM : M + 2 ≤ 220) (ha : bO R t8_0 t8_1 t9_0 va) (hb : bO R2 t10_0 t10_1 t11_0 vb) (hq : bI 220 t2_0 t2_1 t3_0) (hMa : bB M va) (hMb : bB M vb) : (S_Mil_commonDivisor R R2 t0_0 t0_1 t1_0 t2_0 t2_1 t3_0 t4_0 t4_1 t5_0 t6_0 t6_1 t7_0 t8_0 t8_1 t9_0 t10_0 t10_1 t11_0) ∧ G4 (bP 220 M) (bI 220) (bI 220) (bI 220) (F_Mil_commonDivisor R R2 t0_0 t0_1 t1_0 t2_0 t2_1 t3_0 t4_0 t4_1 t5_0 t6_0 t6_1 t7_0 t8_0 t8_1 t9_0 t10_0 t10_1 t11_0) := by
  unfold S_Mil_commonDivisor F_Mil_commonDivisor
  have h13 : P1 220 va (F_Big_copy (220 : Int32) R t4_0 t4_1 t5_0 t8_0 t8_1 t9_0) := W_copy ha ha.fit (by decide)
  generalize (F_Big_copy (220 : Int32) R t4_0 t4_1 t5_0 t8_0 t8_1 t9_0) = p64 at h13 ⊢
  unfold S_Mil_commonDivisor_c13 F_Mil_commonDivisor_c13
  have h19 : P1 220 vb (F_Big_copy (220 : Int32) R2 t6_0 t6_1 t7_0 t10_0 t10_1 t11_0) := W_copy hb hb.fit (by decide)
  generalize (F_Big_copy (220 : Int32) R2 t6_0 t6_1 t7_0 t10_0 t10_1 t11_0) = p88 at h19 ⊢
  unfold S_Mil_commonDivisor_c19 F_Mil_commonDivisor_c19
  exact T_cdL hM _ _ _ _ _ _ _ _ _ _ _ (by decide) (by decide) (by decide) (by decide) hq ⟨_, h13, hMa⟩ ⟨_, h19, hMb⟩
