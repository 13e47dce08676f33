/-! values, for whole: the reference's told of floats -/
theorem y_notW {x : Int64} {k : Int32} {P T : Nat} {l : Int} (hk : yG k P T l) (hx : yBit P T (yu x)) : F_FR_isWrong x k = 0 := by
  unfold F_FR_isWrong
  rcases hk with ⟨rfl, rfl, rfl, rfl⟩ | ⟨rfl, rfl, rfl, rfl⟩
  · rw [if_pos rfl]
  · rw [if_neg (by decide)]
    have w := w_lshr (x := x) (a := 32) (k := 32) rfl (by decide)
    rw [if_pos]
    rw [y_lc0]
    show ((x.toUInt64 >>> ((32 : Int32).toInt64.toUInt64 &&& Int64.toUInt64 63)).toInt64).toBitVec.toNat = 0
    rw [w]
    refine Nat.div_eq_of_lt ?_
    unfold yBit at hx
    exact hx
theorem yG_F {k : Int32} {P T : Nat} {l : Int} (hk : yG k P T l) : ∃ A B C, yF A B C P T l := by
  rcases hk with ⟨rfl, rfl, rfl, rfl⟩ | ⟨rfl, rfl, rfl, rfl⟩
  · exact ⟨_, _, _, yF2⟩
  · exact ⟨_, _, _, yF3⟩
theorem yPx_b {k : Int32} {P T : Nat} {l : Int} (hk : yG k P T l) {u : Nat} (h : yEx P T u ≠ T) : -1074 ≤ yPx l (yEx P T u) ∧ yPx l (yEx P T u) ≤ 971 := by
  have le := yEx_le (P := P) (T := T) (u := u)
  unfold yPx
  rcases hk with ⟨rfl, rfl, rfl, rfl⟩ | ⟨rfl, rfl, rfl, rfl⟩ <;> omega
theorem V_digits47 {x2 : Int64} {x3 : Int32} {t0_0 : Int32} {t0_1 : Int32} {t0_2 : Int32} {t0_3 : Int32} {t0_4 : Int64} {t0_5 : Int32} {t0_6 : Int32} {t0_7 : Int64} {t0_8 : Int32} {t0_9 : Int64} {t0_10 : Int32} {t1_0 : (Nat → Int32)} {t2_0 : (Nat → Int32)} {t3_0 : (Nat → Int32)} {t4_0 : (Nat → Int32)} {t5_0 : (Nat → Int32)} {t6_0 : (Nat → Int32)} {lx32 : Int32} {p85 : (Int32 × Int32 × Int32 × Int32 × Int64 × Int32 × Int32 × Int64 × Int32 × Int64 × Int32)} {y51 : Int32} {y52 : Int32} {y53 : Int32} {y54 : Int32} {y55 : Int64} {y56 : Int32} {y57 : Int32} {y58 : Int64} {y59 : Int32} {y60 : Int64} {y61 : Int32} {lx110 : Int32} {P T w : Nat} {l : Int} {k : Int32} (hk : yG k P T l) (h3 : y54.toInt = ((yEx P T w : Nat) : Int)) (h4 : y55.toInt = ((yFx P w : Nat) : Int)) (h7 : y58.toInt = ((yNx P T w : Nat) : Int)) (h8 : y59.toInt = yPx l (yEx P T w)) (hf : yEx P T w ≠ T) (hl : lx110 = 0) : (yNx P T w = 0 ∧ (F_FR_digits_J47 x2 x3 t0_0 t0_1 t0_2 t0_3 t0_4 t0_5 t0_6 t0_7 t0_8 t0_9 t0_10 t1_0 t2_0 t3_0 t4_0 t5_0 t6_0 lx32 p85 y51 y52 y53 y54 y55 y56 y57 y58 y59 y60 y61 lx110).1.toInt = 0) ∨ (yNx P T w ≠ 0 ∧ ∃ S q : Nat, yFsh P T l w S q ∧ (F_FR_digits_J47 x2 x3 t0_0 t0_1 t0_2 t0_3 t0_4 t0_5 t0_6 t0_7 t0_8 t0_9 t0_10 t1_0 t2_0 t3_0 t4_0 t5_0 t6_0 lx32 p85 y51 y52 y53 y54 y55 y56 y57 y58 y59 y60 y61 lx110).1.toInt = (S : Int)) := by
  have e0L : (0 : Int64).toInt = 0 := rfl
  obtain ⟨A, B, C, hF⟩ := yG_F hk
  have nl := yNx_lt hF (u := w)
  have pb := yPx_b hk hf
  unfold F_FR_digits_J47
  rw [if_neg (show ¬ (0 : Int32) < lx110 by rw [hl]; decide)]
  by_cases z : lg_cmp y58 0 = 0
  · rw [if_pos z]
    have z := g_lcz z
    exact Or.inl ⟨by omega, rfl⟩
  · rw [if_neg z]
    have nz : yNx P T w ≠ 0 := fun q => z (y_lcE.mpr (by rw [h7, q]; rfl))
    refine Or.inr ⟨nz, ?_⟩
    obtain ⟨S, q, f1, f2, f3⟩ := V_FRfind (t0_0 := lx110) (t0_1 := y52) (t0_2 := y53) (t0_3 := y54) (t0_4 := y55) (t0_5 := y56) (t0_6 := y57) (t0_7 := y58) (t0_8 := y59) (t0_9 := y60) (t0_10 := y61) (t1_0 := t1_0) (t2_0 := t2_0) (t3_0 := t3_0) (t4_0 := t4_0) (t5_0 := t5_0) (t6_0 := t6_0) h7 ⟨by omega, nl.1⟩ nl.2 h8 pb h3 h4
    have tb := (T_FR_findShortest (t0_0 := lx110) (t0_1 := y52) (t0_2 := y53) (t0_3 := y54) (t0_4 := y55) (t0_5 := y56) (t0_6 := y57) (t0_7 := y58) (t0_8 := y59) (t0_9 := y60) (t0_10 := y61) (t1_0 := t1_0) (t2_0 := t2_0) (t3_0 := t3_0) (t4_0 := t4_0) (t5_0 := t5_0) (t6_0 := t6_0) (by omega) (by omega)).2
    revert f2 f3 tb
    generalize F_FR_findShortest lx110 y52 y53 y54 y55 y56 y57 y58 y59 y60 y61 t1_0 t2_0 t3_0 t4_0 t5_0 t6_0 = p
    intro f2 f3 tb
    unfold F_FR_digits_c69
    have qb := tb.2.2.2.2.2.2.2.2.2.2.1
    refine ⟨S, q, f1, ?_⟩
    exact f2
theorem V_digits19 {x2 : Int64} {x3 : Int32} {t0_0 : Int32} {t0_1 : Int32} {t0_2 : Int32} {t0_3 : Int32} {t0_4 : Int64} {t0_5 : Int32} {t0_6 : Int32} {t0_7 : Int64} {t0_8 : Int32} {t0_9 : Int64} {t0_10 : Int32} {t1_0 : (Nat → Int32)} {t2_0 : (Nat → Int32)} {t3_0 : (Nat → Int32)} {t4_0 : (Nat → Int32)} {t5_0 : (Nat → Int32)} {t6_0 : (Nat → Int32)} {lx32 : Int32} {P T : Nat} {l : Int} (hk : yG lx32 P T l) (hw : F_FR_isWrong x2 x3 = 0) (hf : yEx P T (yu x2) ≠ T) : (yNx P T (yu x2) = 0 ∧ (F_FR_digits_J19 x2 x3 t0_0 t0_1 t0_2 t0_3 t0_4 t0_5 t0_6 t0_7 t0_8 t0_9 t0_10 t1_0 t2_0 t3_0 t4_0 t5_0 t6_0 lx32).1.toInt = 0) ∨ (yNx P T (yu x2) ≠ 0 ∧ ∃ S q : Nat, yFsh P T l (yu x2) S q ∧ (F_FR_digits_J19 x2 x3 t0_0 t0_1 t0_2 t0_3 t0_4 t0_5 t0_6 t0_7 t0_8 t0_9 t0_10 t1_0 t2_0 t3_0 t4_0 t5_0 t6_0 lx32).1.toInt = (S : Int)) := by
  unfold F_FR_digits_J19
  have op := V_FR_open (x2 := x2) (x3 := lx32) (t0_0 := t0_0) (t0_1 := t0_1) (t0_2 := t0_2) (t0_3 := t0_3) (t0_4 := t0_4) (t0_5 := t0_5) (t0_6 := t0_6) (t0_7 := t0_7) (t0_8 := t0_8) (t0_9 := t0_9) (t0_10 := t0_10) hk
  revert op
  generalize F_FR_open x2 lx32 t0_0 t0_1 t0_2 t0_3 t0_4 t0_5 t0_6 t0_7 t0_8 t0_9 t0_10 = p
  intro op
  obtain ⟨o1, o2, o3, o4, o5, o6, o7, o8, o9, o10, o11⟩ := op
  have le := yEx_le (P := P) (T := T) (u := yu x2)
  unfold F_FR_digits_c19
  rw [if_pos hw]
  have fi : F_FR_isFinite p.1 p.2.1 p.2.2.1 p.2.2.2.1 p.2.2.2.2.1 p.2.2.2.2.2.1 p.2.2.2.2.2.2.1 p.2.2.2.2.2.2.2.1 p.2.2.2.2.2.2.2.2.1 p.2.2.2.2.2.2.2.2.2.1 p.2.2.2.2.2.2.2.2.2.2 = 1 := by
    unfold F_FR_isFinite
    rw [if_neg (fun q => by have := q_leI q; omega)]
  rw [if_neg (by rw [fi]; decide)]
  exact V_digits47 hk o4 o5 o8 o9 hf rfl
theorem V_FRdigits {x2 : Int64} {x3 : Int32} {t0_0 : Int32} {t0_1 : Int32} {t0_2 : Int32} {t0_3 : Int32} {t0_4 : Int64} {t0_5 : Int32} {t0_6 : Int32} {t0_7 : Int64} {t0_8 : Int32} {t0_9 : Int64} {t0_10 : Int32} {t1_0 : (Nat → Int32)} {t2_0 : (Nat → Int32)} {t3_0 : (Nat → Int32)} {t4_0 : (Nat → Int32)} {t5_0 : (Nat → Int32)} {t6_0 : (Nat → Int32)} {P T : Nat} {l : Int} (hk : yG x3 P T l) (hb : yBit P T (yu x2)) (hf : yEx P T (yu x2) ≠ T) : (yNx P T (yu x2) = 0 ∧ (F_FR_digits x2 x3 t0_0 t0_1 t0_2 t0_3 t0_4 t0_5 t0_6 t0_7 t0_8 t0_9 t0_10 t1_0 t2_0 t3_0 t4_0 t5_0 t6_0).1.toInt = 0) ∨ (yNx P T (yu x2) ≠ 0 ∧ ∃ S q : Nat, yFsh P T l (yu x2) S q ∧ (F_FR_digits x2 x3 t0_0 t0_1 t0_2 t0_3 t0_4 t0_5 t0_6 t0_7 t0_8 t0_9 t0_10 t1_0 t2_0 t3_0 t4_0 t5_0 t6_0).1.toInt = (S : Int)) := by
  have hw := y_notW hk hb
  unfold F_FR_digits
  by_cases z : x3 = 0
  · rw [if_pos z]
    unfold F_FR_digits_J18
    exact V_digits19 (by rw [← z]; exact hk) hw hf
  · rw [if_neg z, if_pos hw]
    have z1 : x3 = 1 := by
      rcases hk with ⟨q, _⟩ | ⟨q, _⟩
      · exact absurd q z
      · exact q
    exact V_digits19 (by rw [← z1]; exact hk) hw hf
theorem V_power47 {x2 : Int64} {x3 : Int32} {t0_0 : Int32} {t0_1 : Int32} {t0_2 : Int32} {t0_3 : Int32} {t0_4 : Int64} {t0_5 : Int32} {t0_6 : Int32} {t0_7 : Int64} {t0_8 : Int32} {t0_9 : Int64} {t0_10 : Int32} {t1_0 : (Nat → Int32)} {t2_0 : (Nat → Int32)} {t3_0 : (Nat → Int32)} {t4_0 : (Nat → Int32)} {t5_0 : (Nat → Int32)} {t6_0 : (Nat → Int32)} {lx32 : Int32} {p85 : (Int32 × Int32 × Int32 × Int32 × Int64 × Int32 × Int32 × Int64 × Int32 × Int64 × Int32)} {y51 : Int32} {y52 : Int32} {y53 : Int32} {y54 : Int32} {y55 : Int64} {y56 : Int32} {y57 : Int32} {y58 : Int64} {y59 : Int32} {y60 : Int64} {y61 : Int32} {lx110 : Int32} {P T w : Nat} {l : Int} {k : Int32} (hk : yG k P T l) (h3 : y54.toInt = ((yEx P T w : Nat) : Int)) (h4 : y55.toInt = ((yFx P w : Nat) : Int)) (h7 : y58.toInt = ((yNx P T w : Nat) : Int)) (h8 : y59.toInt = yPx l (yEx P T w)) (hf : yEx P T w ≠ T) (hl : lx110 = 0) : (yNx P T w = 0 ∧ (F_FR_power_J47 x2 x3 t0_0 t0_1 t0_2 t0_3 t0_4 t0_5 t0_6 t0_7 t0_8 t0_9 t0_10 t1_0 t2_0 t3_0 t4_0 t5_0 t6_0 lx32 p85 y51 y52 y53 y54 y55 y56 y57 y58 y59 y60 y61 lx110).1.toInt = 0) ∨ (yNx P T w ≠ 0 ∧ ∃ S q : Nat, yFsh P T l w S q ∧ (F_FR_power_J47 x2 x3 t0_0 t0_1 t0_2 t0_3 t0_4 t0_5 t0_6 t0_7 t0_8 t0_9 t0_10 t1_0 t2_0 t3_0 t4_0 t5_0 t6_0 lx32 p85 y51 y52 y53 y54 y55 y56 y57 y58 y59 y60 y61 lx110).1.toInt = (q : Int) - 1080) := by
  have e0L : (0 : Int64).toInt = 0 := rfl
  obtain ⟨A, B, C, hF⟩ := yG_F hk
  have nl := yNx_lt hF (u := w)
  have pb := yPx_b hk hf
  unfold F_FR_power_J47
  rw [if_neg (show ¬ (0 : Int32) < lx110 by rw [hl]; decide)]
  by_cases z : lg_cmp y58 0 = 0
  · rw [if_pos z]
    have z := g_lcz z
    exact Or.inl ⟨by omega, rfl⟩
  · rw [if_neg z]
    have nz : yNx P T w ≠ 0 := fun q => z (y_lcE.mpr (by rw [h7, q]; rfl))
    refine Or.inr ⟨nz, ?_⟩
    obtain ⟨S, q, f1, f2, f3⟩ := V_FRfind (t0_0 := lx110) (t0_1 := y52) (t0_2 := y53) (t0_3 := y54) (t0_4 := y55) (t0_5 := y56) (t0_6 := y57) (t0_7 := y58) (t0_8 := y59) (t0_9 := y60) (t0_10 := y61) (t1_0 := t1_0) (t2_0 := t2_0) (t3_0 := t3_0) (t4_0 := t4_0) (t5_0 := t5_0) (t6_0 := t6_0) h7 ⟨by omega, nl.1⟩ nl.2 h8 pb h3 h4
    have tb := (T_FR_findShortest (t0_0 := lx110) (t0_1 := y52) (t0_2 := y53) (t0_3 := y54) (t0_4 := y55) (t0_5 := y56) (t0_6 := y57) (t0_7 := y58) (t0_8 := y59) (t0_9 := y60) (t0_10 := y61) (t1_0 := t1_0) (t2_0 := t2_0) (t3_0 := t3_0) (t4_0 := t4_0) (t5_0 := t5_0) (t6_0 := t6_0) (by omega) (by omega)).2
    revert f2 f3 tb
    generalize F_FR_findShortest lx110 y52 y53 y54 y55 y56 y57 y58 y59 y60 y61 t1_0 t2_0 t3_0 t4_0 t5_0 t6_0 = p
    intro f2 f3 tb
    unfold F_FR_power_c69
    have qb := tb.2.2.2.2.2.2.2.2.2.2.1
    refine ⟨S, q, f1, ?_⟩
    have e : (1080 : Int32).toInt = 1080 := rfl
    exact q_subI f3 e (by omega) (by have := q_hi32 (x := p.2.2.2.2.2.2.2.2.2.2.1); omega)
theorem V_power19 {x2 : Int64} {x3 : Int32} {t0_0 : Int32} {t0_1 : Int32} {t0_2 : Int32} {t0_3 : Int32} {t0_4 : Int64} {t0_5 : Int32} {t0_6 : Int32} {t0_7 : Int64} {t0_8 : Int32} {t0_9 : Int64} {t0_10 : Int32} {t1_0 : (Nat → Int32)} {t2_0 : (Nat → Int32)} {t3_0 : (Nat → Int32)} {t4_0 : (Nat → Int32)} {t5_0 : (Nat → Int32)} {t6_0 : (Nat → Int32)} {lx32 : Int32} {P T : Nat} {l : Int} (hk : yG lx32 P T l) (hw : F_FR_isWrong x2 x3 = 0) (hf : yEx P T (yu x2) ≠ T) : (yNx P T (yu x2) = 0 ∧ (F_FR_power_J19 x2 x3 t0_0 t0_1 t0_2 t0_3 t0_4 t0_5 t0_6 t0_7 t0_8 t0_9 t0_10 t1_0 t2_0 t3_0 t4_0 t5_0 t6_0 lx32).1.toInt = 0) ∨ (yNx P T (yu x2) ≠ 0 ∧ ∃ S q : Nat, yFsh P T l (yu x2) S q ∧ (F_FR_power_J19 x2 x3 t0_0 t0_1 t0_2 t0_3 t0_4 t0_5 t0_6 t0_7 t0_8 t0_9 t0_10 t1_0 t2_0 t3_0 t4_0 t5_0 t6_0 lx32).1.toInt = (q : Int) - 1080) := by
  unfold F_FR_power_J19
  have op := V_FR_open (x2 := x2) (x3 := lx32) (t0_0 := t0_0) (t0_1 := t0_1) (t0_2 := t0_2) (t0_3 := t0_3) (t0_4 := t0_4) (t0_5 := t0_5) (t0_6 := t0_6) (t0_7 := t0_7) (t0_8 := t0_8) (t0_9 := t0_9) (t0_10 := t0_10) hk
  revert op
  generalize F_FR_open x2 lx32 t0_0 t0_1 t0_2 t0_3 t0_4 t0_5 t0_6 t0_7 t0_8 t0_9 t0_10 = p
  intro op
  obtain ⟨o1, o2, o3, o4, o5, o6, o7, o8, o9, o10, o11⟩ := op
  have le := yEx_le (P := P) (T := T) (u := yu x2)
  unfold F_FR_power_c19
  rw [if_pos hw]
  have fi : F_FR_isFinite p.1 p.2.1 p.2.2.1 p.2.2.2.1 p.2.2.2.2.1 p.2.2.2.2.2.1 p.2.2.2.2.2.2.1 p.2.2.2.2.2.2.2.1 p.2.2.2.2.2.2.2.2.1 p.2.2.2.2.2.2.2.2.2.1 p.2.2.2.2.2.2.2.2.2.2 = 1 := by
    unfold F_FR_isFinite
    rw [if_neg (fun q => by have := q_leI q; omega)]
  rw [if_neg (by rw [fi]; decide)]
  exact V_power47 hk o4 o5 o8 o9 hf rfl
theorem V_FRpower {x2 : Int64} {x3 : Int32} {t0_0 : Int32} {t0_1 : Int32} {t0_2 : Int32} {t0_3 : Int32} {t0_4 : Int64} {t0_5 : Int32} {t0_6 : Int32} {t0_7 : Int64} {t0_8 : Int32} {t0_9 : Int64} {t0_10 : Int32} {t1_0 : (Nat → Int32)} {t2_0 : (Nat → Int32)} {t3_0 : (Nat → Int32)} {t4_0 : (Nat → Int32)} {t5_0 : (Nat → Int32)} {t6_0 : (Nat → Int32)} {P T : Nat} {l : Int} (hk : yG x3 P T l) (hb : yBit P T (yu x2)) (hf : yEx P T (yu x2) ≠ T) : (yNx P T (yu x2) = 0 ∧ (F_FR_power x2 x3 t0_0 t0_1 t0_2 t0_3 t0_4 t0_5 t0_6 t0_7 t0_8 t0_9 t0_10 t1_0 t2_0 t3_0 t4_0 t5_0 t6_0).1.toInt = 0) ∨ (yNx P T (yu x2) ≠ 0 ∧ ∃ S q : Nat, yFsh P T l (yu x2) S q ∧ (F_FR_power x2 x3 t0_0 t0_1 t0_2 t0_3 t0_4 t0_5 t0_6 t0_7 t0_8 t0_9 t0_10 t1_0 t2_0 t3_0 t4_0 t5_0 t6_0).1.toInt = (q : Int) - 1080) := by
  have hw := y_notW hk hb
  unfold F_FR_power
  by_cases z : x3 = 0
  · rw [if_pos z]
    unfold F_FR_power_J18
    exact V_power19 (by rw [← z]; exact hk) hw hf
  · rw [if_neg z, if_pos hw]
    have z1 : x3 = 1 := by
      rcases hk with ⟨q, _⟩ | ⟨q, _⟩
      · exact absurd q z
      · exact q
    exact V_power19 (by rw [← z1]; exact hk) hw hf
theorem V_NM_told2 {x2 : Int32} {x3 : Int32} {x4 : Int32} {t0_0 : Int32} {t0_1 : Int32} {t0_2 : Int32} {t1_0 : Int32} {t1_1 : Int32} {t1_2 : Int32} {t1_3 : Int32} {t1_4 : Int32} {t1_5 : Int32} {t1_6 : Int32} {t2_0 : (Nat → Int32)} {t3_0 : (Nat → Int32)} {t4_0 : Int32} {t4_1 : Int32} {t4_2 : Int32} {t4_3 : Int64} {t4_4 : Int32} {t4_5 : Int32} {t4_6 : Int32} {t4_7 : Int32} {t4_8 : Int32} {t4_9 : Int32} {t4_10 : Int32} {t5_0 : (Nat → Int32)} {t6_0 : (Nat → Int32)} {t7_0 : (Nat → Int32)} {t8_0 : (Nat → Int32)} {t9_0 : Int32} {t9_1 : Int32} {t9_2 : Int32} {t9_3 : Int32} {t9_4 : Int64} {t9_5 : Int32} {t9_6 : Int32} {t9_7 : Int64} {t9_8 : Int32} {t9_9 : Int64} {t9_10 : Int32} {t10_0 : (Nat → Int32)} {t11_0 : (Nat → Int32)} {t12_0 : (Nat → Int32)} {t13_0 : (Nat → Int32)} {t14_0 : (Nat → Int32)} {t15_0 : (Nat → Int32)} {t16_0 : (Nat → Int64)} (h2 : x2 = 2) (h3 : yReg x3) (hb : yBit 52 2047 (yu (t16_0 x3.toNatClampNeg))) : yTf 52 2047 (-1074) x4 (t16_0 x3.toNatClampNeg) (F_NM_told x2 x3 x4 t0_0 t0_1 t0_2 t1_0 t1_1 t1_2 t1_3 t1_4 t1_5 t1_6 t2_0 t3_0 t4_0 t4_1 t4_2 t4_3 t4_4 t4_5 t4_6 t4_7 t4_8 t4_9 t4_10 t5_0 t6_0 t7_0 t8_0 t9_0 t9_1 t9_2 t9_3 t9_4 t9_5 t9_6 t9_7 t9_8 t9_9 t9_10 t10_0 t11_0 t12_0 t13_0 t14_0 t15_0 t16_0).2.1 (F_NM_told x2 x3 x4 t0_0 t0_1 t0_2 t1_0 t1_1 t1_2 t1_3 t1_4 t1_5 t1_6 t2_0 t3_0 t4_0 t4_1 t4_2 t4_3 t4_4 t4_5 t4_6 t4_7 t4_8 t4_9 t4_10 t5_0 t6_0 t7_0 t8_0 t9_0 t9_1 t9_2 t9_3 t9_4 t9_5 t9_6 t9_7 t9_8 t9_9 t9_10 t10_0 t11_0 t12_0 t13_0 t14_0 t15_0 t16_0).1 := by
  have e0 : (0 : Int32).toInt = 0 := rfl
  have e2 : (2 : Int32).toInt = 2 := rfl
  unfold F_NM_told
  rcases y_noII (x := x2) (y := x3) with ⟨r, _, _⟩ | ⟨r, k⟩
  · rw [if_pos r]
    by_cases c : 0 ≤ x4
    · rw [if_pos c]
      have c := q_leI c
      have bo : ∀ a b d, F_NM_bitsOf x2 x3 a b d t16_0 = (t16_0 x3.toNatClampNeg) := fun a b d => by
        unfold F_NM_bitsOf
        rw [if_neg (show ¬ x2 = 3 by rw [h2]; decide)]
      unfold F_NM_told_J18
      rw [if_pos (show (0 : Int32) ≤ 0 by decide), if_neg (show ¬ x2 = 0 by rw [h2]; decide), if_neg (show ¬ x2 = 1 by rw [h2]; decide), bo]
      by_cases d : x4 ≤ 2
      · rw [if_pos d]
        have d := q_leI d
        by_cases z : x4 ≤ 0
        · rw [if_pos z]
          have z := q_leI z
          have z0 : x4 = 0 := Int32.toInt_inj.mp (by omega)
          unfold F_NM_told_J133 F_NM_told_J134
          rw [if_pos (show (0 : Int32) ≤ 0 by decide), if_pos z0]
          exact Or.inr (Or.inl ⟨z0, rfl, rfl⟩)
        · rw [if_neg z]
          have z := q_nleI z
          have z0 : ¬ x4 = 0 := fun q => by rw [q, e0] at z; omega
          have h12 := y_x12 (by omega) (by omega) z0
          have fi := y_mfin (x := (t16_0 x3.toNatClampNeg)) (k := x2) (Or.inl ⟨h2, rfl, rfl, rfl⟩)
          by_cases f : yEx 52 2047 (yu (t16_0 x3.toNatClampNeg)) = 2047
          · rw [if_pos f] at fi
            rw [if_pos fi]
            unfold F_NM_told_J134
            rw [if_neg (show ¬ (2 : Int32) ≤ 0 by decide)]
            exact Or.inr (Or.inr (Or.inl ⟨h12, f, rfl⟩))
          · rw [if_neg f] at fi
            rw [if_neg (by rw [fi]; decide)]
            unfold F_NM_told_J133 F_NM_told_J134
            rw [if_pos (show (0 : Int32) ≤ 0 by decide), if_neg z0]
            refine Or.inr (Or.inr (Or.inr ⟨h12, f, ?_⟩))
            by_cases o : x4 = 1
            · rw [if_pos o, if_neg (show ¬ x2 = 3 by rw [h2]; decide)]
              have dg := V_FRdigits (x2 := (t16_0 x3.toNatClampNeg)) (x3 := 0) (t0_0 := t9_0) (t0_1 := t9_1) (t0_2 := t9_2) (t0_3 := t9_3) (t0_4 := t9_4) (t0_5 := t9_5) (t0_6 := t9_6) (t0_7 := t9_7) (t0_8 := t9_8) (t0_9 := t9_9) (t0_10 := t9_10) (t1_0 := t10_0) (t2_0 := t11_0) (t3_0 := t12_0) (t4_0 := t13_0) (t5_0 := t14_0) (t6_0 := t15_0) (Or.inl ⟨rfl, rfl, rfl, rfl⟩) hb f
              revert dg
              generalize F_FR_digits (t16_0 x3.toNatClampNeg) 0 t9_0 t9_1 t9_2 t9_3 t9_4 t9_5 t9_6 t9_7 t9_8 t9_9 t9_10 t10_0 t11_0 t12_0 t13_0 t14_0 t15_0 = p
              intro dg
              unfold F_NM_told_c178
              refine ⟨rfl, ?_⟩
              rcases dg with ⟨a, b⟩ | ⟨a, S, q, f1, f2⟩
              · exact Or.inl ⟨a, b⟩
              · exact Or.inr ⟨a, S, q, f1, by rw [if_pos o]; exact f2⟩
            · rw [if_neg o, if_neg (show ¬ x2 = 3 by rw [h2]; decide)]
              have dg := V_FRpower (x2 := (t16_0 x3.toNatClampNeg)) (x3 := 0) (t0_0 := t9_0) (t0_1 := t9_1) (t0_2 := t9_2) (t0_3 := t9_3) (t0_4 := t9_4) (t0_5 := t9_5) (t0_6 := t9_6) (t0_7 := t9_7) (t0_8 := t9_8) (t0_9 := t9_9) (t0_10 := t9_10) (t1_0 := t10_0) (t2_0 := t11_0) (t3_0 := t12_0) (t4_0 := t13_0) (t5_0 := t14_0) (t6_0 := t15_0) (Or.inl ⟨rfl, rfl, rfl, rfl⟩) hb f
              revert dg
              generalize F_FR_power (t16_0 x3.toNatClampNeg) 0 t9_0 t9_1 t9_2 t9_3 t9_4 t9_5 t9_6 t9_7 t9_8 t9_9 t9_10 t10_0 t11_0 t12_0 t13_0 t14_0 t15_0 = p
              intro dg
              unfold F_NM_told_c200
              refine ⟨rfl, ?_⟩
              rcases dg with ⟨a, b⟩ | ⟨a, S, q, f1, f2⟩
              · exact Or.inl ⟨a, q_i2l b⟩
              · exact Or.inr ⟨a, S, q, f1, by rw [if_neg o]; exact q_i2l f2⟩
      · rw [if_neg d]
        have d := q_nleI d
        unfold F_NM_told_J134
        rw [if_neg (show ¬ (1 : Int32) ≤ 0 by decide)]
        exact Or.inl ⟨fun q => by have := q.2; omega, rfl⟩
    · rw [if_neg c]
      have c := q_nleI c
      exact Or.inl ⟨fun q => by have := q.1; omega, y_mtn⟩
  · refine absurd ⟨?_, h3⟩ k
    rw [h2]
    decide
theorem V_NM_told3 {x2 : Int32} {x3 : Int32} {x4 : Int32} {t0_0 : Int32} {t0_1 : Int32} {t0_2 : Int32} {t1_0 : Int32} {t1_1 : Int32} {t1_2 : Int32} {t1_3 : Int32} {t1_4 : Int32} {t1_5 : Int32} {t1_6 : Int32} {t2_0 : (Nat → Int32)} {t3_0 : (Nat → Int32)} {t4_0 : Int32} {t4_1 : Int32} {t4_2 : Int32} {t4_3 : Int64} {t4_4 : Int32} {t4_5 : Int32} {t4_6 : Int32} {t4_7 : Int32} {t4_8 : Int32} {t4_9 : Int32} {t4_10 : Int32} {t5_0 : (Nat → Int32)} {t6_0 : (Nat → Int32)} {t7_0 : (Nat → Int32)} {t8_0 : (Nat → Int32)} {t9_0 : Int32} {t9_1 : Int32} {t9_2 : Int32} {t9_3 : Int32} {t9_4 : Int64} {t9_5 : Int32} {t9_6 : Int32} {t9_7 : Int64} {t9_8 : Int32} {t9_9 : Int64} {t9_10 : Int32} {t10_0 : (Nat → Int32)} {t11_0 : (Nat → Int32)} {t12_0 : (Nat → Int32)} {t13_0 : (Nat → Int32)} {t14_0 : (Nat → Int32)} {t15_0 : (Nat → Int32)} {t16_0 : (Nat → Int64)} (h2 : x2 = 3) (h3 : yReg x3) (hb : yBit 23 255 (yu (t16_0 (10 + x3).toNatClampNeg))) : yTf 23 255 (-149) x4 (t16_0 (10 + x3).toNatClampNeg) (F_NM_told x2 x3 x4 t0_0 t0_1 t0_2 t1_0 t1_1 t1_2 t1_3 t1_4 t1_5 t1_6 t2_0 t3_0 t4_0 t4_1 t4_2 t4_3 t4_4 t4_5 t4_6 t4_7 t4_8 t4_9 t4_10 t5_0 t6_0 t7_0 t8_0 t9_0 t9_1 t9_2 t9_3 t9_4 t9_5 t9_6 t9_7 t9_8 t9_9 t9_10 t10_0 t11_0 t12_0 t13_0 t14_0 t15_0 t16_0).2.1 (F_NM_told x2 x3 x4 t0_0 t0_1 t0_2 t1_0 t1_1 t1_2 t1_3 t1_4 t1_5 t1_6 t2_0 t3_0 t4_0 t4_1 t4_2 t4_3 t4_4 t4_5 t4_6 t4_7 t4_8 t4_9 t4_10 t5_0 t6_0 t7_0 t8_0 t9_0 t9_1 t9_2 t9_3 t9_4 t9_5 t9_6 t9_7 t9_8 t9_9 t9_10 t10_0 t11_0 t12_0 t13_0 t14_0 t15_0 t16_0).1 := by
  have e0 : (0 : Int32).toInt = 0 := rfl
  have e2 : (2 : Int32).toInt = 2 := rfl
  unfold F_NM_told
  rcases y_noII (x := x2) (y := x3) with ⟨r, _, _⟩ | ⟨r, k⟩
  · rw [if_pos r]
    by_cases c : 0 ≤ x4
    · rw [if_pos c]
      have c := q_leI c
      have bo : ∀ a b d, F_NM_bitsOf x2 x3 a b d t16_0 = (t16_0 (10 + x3).toNatClampNeg) := fun a b d => by
        unfold F_NM_bitsOf
        rw [if_pos h2]
      unfold F_NM_told_J18
      rw [if_pos (show (0 : Int32) ≤ 0 by decide), if_neg (show ¬ x2 = 0 by rw [h2]; decide), if_neg (show ¬ x2 = 1 by rw [h2]; decide), bo]
      by_cases d : x4 ≤ 2
      · rw [if_pos d]
        have d := q_leI d
        by_cases z : x4 ≤ 0
        · rw [if_pos z]
          have z := q_leI z
          have z0 : x4 = 0 := Int32.toInt_inj.mp (by omega)
          unfold F_NM_told_J133 F_NM_told_J134
          rw [if_pos (show (0 : Int32) ≤ 0 by decide), if_pos z0]
          exact Or.inr (Or.inl ⟨z0, rfl, rfl⟩)
        · rw [if_neg z]
          have z := q_nleI z
          have z0 : ¬ x4 = 0 := fun q => by rw [q, e0] at z; omega
          have h12 := y_x12 (by omega) (by omega) z0
          have fi := y_mfin (x := (t16_0 (10 + x3).toNatClampNeg)) (k := x2) (Or.inr ⟨h2, rfl, rfl, rfl⟩)
          by_cases f : yEx 23 255 (yu (t16_0 (10 + x3).toNatClampNeg)) = 255
          · rw [if_pos f] at fi
            rw [if_pos fi]
            unfold F_NM_told_J134
            rw [if_neg (show ¬ (2 : Int32) ≤ 0 by decide)]
            exact Or.inr (Or.inr (Or.inl ⟨h12, f, rfl⟩))
          · rw [if_neg f] at fi
            rw [if_neg (by rw [fi]; decide)]
            unfold F_NM_told_J133 F_NM_told_J134
            rw [if_pos (show (0 : Int32) ≤ 0 by decide), if_neg z0]
            refine Or.inr (Or.inr (Or.inr ⟨h12, f, ?_⟩))
            by_cases o : x4 = 1
            · rw [if_pos o, if_pos h2]
              have dg := V_FRdigits (x2 := (t16_0 (10 + x3).toNatClampNeg)) (x3 := 1) (t0_0 := t9_0) (t0_1 := t9_1) (t0_2 := t9_2) (t0_3 := t9_3) (t0_4 := t9_4) (t0_5 := t9_5) (t0_6 := t9_6) (t0_7 := t9_7) (t0_8 := t9_8) (t0_9 := t9_9) (t0_10 := t9_10) (t1_0 := t10_0) (t2_0 := t11_0) (t3_0 := t12_0) (t4_0 := t13_0) (t5_0 := t14_0) (t6_0 := t15_0) (Or.inr ⟨rfl, rfl, rfl, rfl⟩) hb f
              revert dg
              generalize F_FR_digits (t16_0 (10 + x3).toNatClampNeg) 1 t9_0 t9_1 t9_2 t9_3 t9_4 t9_5 t9_6 t9_7 t9_8 t9_9 t9_10 t10_0 t11_0 t12_0 t13_0 t14_0 t15_0 = p
              intro dg
              unfold F_NM_told_c178_6
              refine ⟨rfl, ?_⟩
              rcases dg with ⟨a, b⟩ | ⟨a, S, q, f1, f2⟩
              · exact Or.inl ⟨a, b⟩
              · exact Or.inr ⟨a, S, q, f1, by rw [if_pos o]; exact f2⟩
            · rw [if_neg o, if_pos h2]
              have dg := V_FRpower (x2 := (t16_0 (10 + x3).toNatClampNeg)) (x3 := 1) (t0_0 := t9_0) (t0_1 := t9_1) (t0_2 := t9_2) (t0_3 := t9_3) (t0_4 := t9_4) (t0_5 := t9_5) (t0_6 := t9_6) (t0_7 := t9_7) (t0_8 := t9_8) (t0_9 := t9_9) (t0_10 := t9_10) (t1_0 := t10_0) (t2_0 := t11_0) (t3_0 := t12_0) (t4_0 := t13_0) (t5_0 := t14_0) (t6_0 := t15_0) (Or.inr ⟨rfl, rfl, rfl, rfl⟩) hb f
              revert dg
              generalize F_FR_power (t16_0 (10 + x3).toNatClampNeg) 1 t9_0 t9_1 t9_2 t9_3 t9_4 t9_5 t9_6 t9_7 t9_8 t9_9 t9_10 t10_0 t11_0 t12_0 t13_0 t14_0 t15_0 = p
              intro dg
              unfold F_NM_told_c200_4
              refine ⟨rfl, ?_⟩
              rcases dg with ⟨a, b⟩ | ⟨a, S, q, f1, f2⟩
              · exact Or.inl ⟨a, q_i2l b⟩
              · exact Or.inr ⟨a, S, q, f1, by rw [if_neg o]; exact q_i2l f2⟩
      · rw [if_neg d]
        have d := q_nleI d
        unfold F_NM_told_J134
        rw [if_neg (show ¬ (1 : Int32) ≤ 0 by decide)]
        exact Or.inl ⟨fun q => by have := q.2; omega, rfl⟩
    · rw [if_neg c]
      have c := q_nleI c
      exact Or.inl ⟨fun q => by have := q.1; omega, y_mtn⟩
  · refine absurd ⟨?_, h3⟩ k
    rw [h2]
    decide
