/-! values, for whole: what the reference's fixed and scientific refuse -/
theorem V_fxR55 {x2 : Int64} {x3 : Int32} {x4 : Int32} {x5 : Int32} {t0_0 : Int32} {t0_1 : Int32} {t0_2 : Int32} {t0_3 : Int32} {t0_4 : Int64} {t0_5 : Int32} {t0_6 : Int32} {t0_7 : Int64} {t0_8 : Int32} {t0_9 : Int64} {t0_10 : Int32} {t1_0 : (Nat → Int32)} {t2_0 : (Nat → Int32)} {t3_0 : (Nat → Int32)} {t4_0 : (Nat → Int32)} {t5_0 : (Nat → Int32)} {lx29 : Int32} {p81 : (Int32 × Int32 × Int32 × Int32 × Int64 × Int32 × Int32 × Int64 × Int32 × Int64 × Int32)} {y47 : Int32} {y48 : Int32} {y49 : Int32} {y50 : Int32} {y51 : Int64} {y52 : Int32} {y53 : Int32} {y54 : Int64} {y55 : Int32} {y56 : Int64} {y57 : Int32}  : (F_FR_fixed_J55 x2 x3 x4 x5 t0_0 t0_1 t0_2 t0_3 t0_4 t0_5 t0_6 t0_7 t0_8 t0_9 t0_10 t1_0 t2_0 t3_0 t4_0 t5_0 lx29 p81 y47 y48 y49 y50 y51 y52 y53 y54 y55 y56 y57).2.1 = 1 := by
  unfold F_FR_fixed_J55 F_FR_fixed_J71
  rw [if_neg (by decide : ¬ (1 : Int32) ≤ 0)]
theorem V_fxR19 {x2 : Int64} {x3 : Int32} {x4 : Int32} {x5 : Int32} {t0_0 : Int32} {t0_1 : Int32} {t0_2 : Int32} {t0_3 : Int32} {t0_4 : Int64} {t0_5 : Int32} {t0_6 : Int32} {t0_7 : Int64} {t0_8 : Int32} {t0_9 : Int64} {t0_10 : Int32} {t1_0 : (Nat → Int32)} {t2_0 : (Nat → Int32)} {t3_0 : (Nat → Int32)} {t4_0 : (Nat → Int32)} {t5_0 : (Nat → Int32)} {lx29 : Int32} {P T : Nat} {l0 : Int} (hk : yG x3 P T l0) (hb : yBit P T (yu x2)) (h29 : lx29 = x3) (h : ¬ ((0 ≤ x4.toInt ∧ x4.toInt ≤ 1100) ∧ 0 ≤ x5.toInt ∧ x5.toInt ≤ 3) ∨ yEx P T (yu x2) = T) : (¬ ((0 ≤ x4.toInt ∧ x4.toInt ≤ 1100) ∧ 0 ≤ x5.toInt ∧ x5.toInt ≤ 3) ∧ (F_FR_fixed_J19 x2 x3 x4 x5 t0_0 t0_1 t0_2 t0_3 t0_4 t0_5 t0_6 t0_7 t0_8 t0_9 t0_10 t1_0 t2_0 t3_0 t4_0 t5_0 lx29).2.1 = 1) ∨ ((0 ≤ x4.toInt ∧ x4.toInt ≤ 1100) ∧ (0 ≤ x5.toInt ∧ x5.toInt ≤ 3) ∧ yEx P T (yu x2) = T ∧ (F_FR_fixed_J19 x2 x3 x4 x5 t0_0 t0_1 t0_2 t0_3 t0_4 t0_5 t0_6 t0_7 t0_8 t0_9 t0_10 t1_0 t2_0 t3_0 t4_0 t5_0 lx29).2.1 = 2) := by
  have e0 : (0 : Int32).toInt = 0 := rfl
  have e00 : (0 : Int32).toInt = 0 := rfl
  have e3 : (3 : Int32).toInt = 3 := rfl
  have eC : (1100 : Int32).toInt = 1100 := rfl
  have le := yEx_le (P := P) (T := T) (u := yu x2)
  unfold F_FR_fixed_J19
  rw [h29]
  have op := V_FR_open (x2 := x2) (x3 := x3) (t0_0 := t0_0) (t0_1 := t0_1) (t0_2 := t0_2) (t0_3 := t0_3) (t0_4 := t0_4) (t0_5 := t0_5) (t0_6 := t0_6) (t0_7 := t0_7) (t0_8 := t0_8) (t0_9 := t0_9) (t0_10 := t0_10) hk
  revert op
  generalize F_FR_open x2 x3 t0_0 t0_1 t0_2 t0_3 t0_4 t0_5 t0_6 t0_7 t0_8 t0_9 t0_10 = p81
  intro op
  obtain ⟨o1, o2, o3, o4, o5, o6, o7, o8, o9, o10, o11⟩ := op
  unfold F_FR_fixed_c19
  rw [if_pos (y_notW hk hb)]
  by_cases a : x4 < 0
  · rw [if_pos a]
    have a := q_ltI a
    exact Or.inl ⟨fun q => by omega, V_fxR55⟩
  · rw [if_neg a]
    have a := q_nltI a
    by_cases b : 1100 < x4
    · rw [if_pos b]
      have b := q_ltI b
      exact Or.inl ⟨fun q => by omega, V_fxR55⟩
    · rw [if_neg b]
      have b := q_nltI b
      by_cases c : x5 < 0
      · rw [if_pos c]
        have c := q_ltI c
        exact Or.inl ⟨fun q => by omega, V_fxR55⟩
      · rw [if_neg c]
        have c := q_nltI c
        by_cases d : x5 ≤ 3
        · rw [if_pos d]
          have d := q_leI d
          have f : yEx P T (yu x2) = T := by
            rcases h with q | q
            · exact absurd ⟨⟨by omega, by omega⟩, by omega, by omega⟩ q
            · exact q
          have fi : F_FR_isFinite p81.1 p81.2.1 p81.2.2.1 p81.2.2.2.1 p81.2.2.2.2.1 p81.2.2.2.2.2.1 p81.2.2.2.2.2.2.1 p81.2.2.2.2.2.2.2.1 p81.2.2.2.2.2.2.2.2.1 p81.2.2.2.2.2.2.2.2.2.1 p81.2.2.2.2.2.2.2.2.2.2 = 0 := by
            unfold F_FR_isFinite
            rw [if_pos (Int32.le_iff_toInt_le.mpr (by omega))]
          rw [if_pos fi]
          refine Or.inr ⟨⟨by omega, by omega⟩, ⟨by omega, by omega⟩, f, ?_⟩
          unfold F_FR_fixed_J71
          rw [if_neg (by decide : ¬ (2 : Int32) ≤ 0)]
        · rw [if_neg d]
          have d := q_nleI d
          exact Or.inl ⟨fun q => by omega, V_fxR55⟩
theorem V_fxRN {x2 : Int64} {x3 : Int32} {x4 : Int32} {x5 : Int32} {t0_0 : Int32} {t0_1 : Int32} {t0_2 : Int32} {t0_3 : Int32} {t0_4 : Int64} {t0_5 : Int32} {t0_6 : Int32} {t0_7 : Int64} {t0_8 : Int32} {t0_9 : Int64} {t0_10 : Int32} {t1_0 : (Nat → Int32)} {t2_0 : (Nat → Int32)} {t3_0 : (Nat → Int32)} {t4_0 : (Nat → Int32)} {t5_0 : (Nat → Int32)} {P T : Nat} {l0 : Int} (hk : yG x3 P T l0) (hb : yBit P T (yu x2)) (h : ¬ ((0 ≤ x4.toInt ∧ x4.toInt ≤ 1100) ∧ 0 ≤ x5.toInt ∧ x5.toInt ≤ 3) ∨ yEx P T (yu x2) = T) : (¬ ((0 ≤ x4.toInt ∧ x4.toInt ≤ 1100) ∧ 0 ≤ x5.toInt ∧ x5.toInt ≤ 3) ∧ (F_FR_fixed x2 x3 x4 x5 t0_0 t0_1 t0_2 t0_3 t0_4 t0_5 t0_6 t0_7 t0_8 t0_9 t0_10 t1_0 t2_0 t3_0 t4_0 t5_0).2.1 = 1) ∨ ((0 ≤ x4.toInt ∧ x4.toInt ≤ 1100) ∧ (0 ≤ x5.toInt ∧ x5.toInt ≤ 3) ∧ yEx P T (yu x2) = T ∧ (F_FR_fixed x2 x3 x4 x5 t0_0 t0_1 t0_2 t0_3 t0_4 t0_5 t0_6 t0_7 t0_8 t0_9 t0_10 t1_0 t2_0 t3_0 t4_0 t5_0).2.1 = 2) := by
  unfold F_FR_fixed
  by_cases g : x3 = 0
  · rw [if_pos g]
    unfold F_FR_fixed_J18
    exact V_fxR19 hk hb g.symm h
  · rw [if_neg g, if_pos (y_notW hk hb)]
    have x1 : x3 = 1 := by
      rcases hk with ⟨q, _⟩ | ⟨q, _⟩
      · exact absurd q g
      · exact q
    exact V_fxR19 hk hb x1.symm h
theorem V_scR55 {x2 : Int64} {x3 : Int32} {x4 : Int32} {x5 : Int32} {t0_0 : Int32} {t0_1 : Int32} {t0_2 : Int32} {t0_3 : Int32} {t0_4 : Int64} {t0_5 : Int32} {t0_6 : Int32} {t0_7 : Int64} {t0_8 : Int32} {t0_9 : Int64} {t0_10 : Int32} {t1_0 : (Nat → Int32)} {t2_0 : (Nat → Int32)} {t3_0 : (Nat → Int32)} {t4_0 : (Nat → Int32)} {t5_0 : (Nat → Int32)} {lx29 : Int32} {p81 : (Int32 × Int32 × Int32 × Int32 × Int64 × Int32 × Int32 × Int64 × Int32 × Int64 × Int32)} {y47 : Int32} {y48 : Int32} {y49 : Int32} {y50 : Int32} {y51 : Int64} {y52 : Int32} {y53 : Int32} {y54 : Int64} {y55 : Int32} {y56 : Int64} {y57 : Int32}  : (F_FR_scientific_J56 x2 x3 x4 x5 t0_0 t0_1 t0_2 t0_3 t0_4 t0_5 t0_6 t0_7 t0_8 t0_9 t0_10 t1_0 t2_0 t3_0 t4_0 t5_0 lx29 p81 y47 y48 y49 y50 y51 y52 y53 y54 y55 y56 y57).2.1 = 1 := by
  unfold F_FR_scientific_J56 F_FR_scientific_J72
  rw [if_neg (by decide : ¬ (1 : Int32) ≤ 0)]
theorem V_scR19 {x2 : Int64} {x3 : Int32} {x4 : Int32} {x5 : Int32} {t0_0 : Int32} {t0_1 : Int32} {t0_2 : Int32} {t0_3 : Int32} {t0_4 : Int64} {t0_5 : Int32} {t0_6 : Int32} {t0_7 : Int64} {t0_8 : Int32} {t0_9 : Int64} {t0_10 : Int32} {t1_0 : (Nat → Int32)} {t2_0 : (Nat → Int32)} {t3_0 : (Nat → Int32)} {t4_0 : (Nat → Int32)} {t5_0 : (Nat → Int32)} {lx29 : Int32} {P T : Nat} {l0 : Int} (hk : yG x3 P T l0) (hb : yBit P T (yu x2)) (h29 : lx29 = x3) (h : ¬ ((1 ≤ x4.toInt ∧ x4.toInt ≤ 800) ∧ 0 ≤ x5.toInt ∧ x5.toInt ≤ 3) ∨ yEx P T (yu x2) = T) : (¬ ((1 ≤ x4.toInt ∧ x4.toInt ≤ 800) ∧ 0 ≤ x5.toInt ∧ x5.toInt ≤ 3) ∧ (F_FR_scientific_J19 x2 x3 x4 x5 t0_0 t0_1 t0_2 t0_3 t0_4 t0_5 t0_6 t0_7 t0_8 t0_9 t0_10 t1_0 t2_0 t3_0 t4_0 t5_0 lx29).2.1 = 1) ∨ ((1 ≤ x4.toInt ∧ x4.toInt ≤ 800) ∧ (0 ≤ x5.toInt ∧ x5.toInt ≤ 3) ∧ yEx P T (yu x2) = T ∧ (F_FR_scientific_J19 x2 x3 x4 x5 t0_0 t0_1 t0_2 t0_3 t0_4 t0_5 t0_6 t0_7 t0_8 t0_9 t0_10 t1_0 t2_0 t3_0 t4_0 t5_0 lx29).2.1 = 2) := by
  have e0 : (1 : Int32).toInt = 1 := rfl
  have e00 : (0 : Int32).toInt = 0 := rfl
  have e3 : (3 : Int32).toInt = 3 := rfl
  have eC : (800 : Int32).toInt = 800 := rfl
  have le := yEx_le (P := P) (T := T) (u := yu x2)
  unfold F_FR_scientific_J19
  rw [h29]
  have op := V_FR_open (x2 := x2) (x3 := x3) (t0_0 := t0_0) (t0_1 := t0_1) (t0_2 := t0_2) (t0_3 := t0_3) (t0_4 := t0_4) (t0_5 := t0_5) (t0_6 := t0_6) (t0_7 := t0_7) (t0_8 := t0_8) (t0_9 := t0_9) (t0_10 := t0_10) hk
  revert op
  generalize F_FR_open x2 x3 t0_0 t0_1 t0_2 t0_3 t0_4 t0_5 t0_6 t0_7 t0_8 t0_9 t0_10 = p81
  intro op
  obtain ⟨o1, o2, o3, o4, o5, o6, o7, o8, o9, o10, o11⟩ := op
  unfold F_FR_scientific_c19
  rw [if_pos (y_notW hk hb)]
  by_cases a : x4 < 1
  · rw [if_pos a]
    have a := q_ltI a
    exact Or.inl ⟨fun q => by omega, V_scR55⟩
  · rw [if_neg a]
    have a := q_nltI a
    by_cases b : 800 < x4
    · rw [if_pos b]
      have b := q_ltI b
      exact Or.inl ⟨fun q => by omega, V_scR55⟩
    · rw [if_neg b]
      have b := q_nltI b
      by_cases c : x5 < 0
      · rw [if_pos c]
        have c := q_ltI c
        exact Or.inl ⟨fun q => by omega, V_scR55⟩
      · rw [if_neg c]
        have c := q_nltI c
        by_cases d : x5 ≤ 3
        · rw [if_pos d]
          have d := q_leI d
          have f : yEx P T (yu x2) = T := by
            rcases h with q | q
            · exact absurd ⟨⟨by omega, by omega⟩, by omega, by omega⟩ q
            · exact q
          have fi : F_FR_isFinite p81.1 p81.2.1 p81.2.2.1 p81.2.2.2.1 p81.2.2.2.2.1 p81.2.2.2.2.2.1 p81.2.2.2.2.2.2.1 p81.2.2.2.2.2.2.2.1 p81.2.2.2.2.2.2.2.2.1 p81.2.2.2.2.2.2.2.2.2.1 p81.2.2.2.2.2.2.2.2.2.2 = 0 := by
            unfold F_FR_isFinite
            rw [if_pos (Int32.le_iff_toInt_le.mpr (by omega))]
          rw [if_pos fi]
          refine Or.inr ⟨⟨by omega, by omega⟩, ⟨by omega, by omega⟩, f, ?_⟩
          unfold F_FR_scientific_J72
          rw [if_neg (by decide : ¬ (2 : Int32) ≤ 0)]
        · rw [if_neg d]
          have d := q_nleI d
          exact Or.inl ⟨fun q => by omega, V_scR55⟩
theorem V_scRN {x2 : Int64} {x3 : Int32} {x4 : Int32} {x5 : Int32} {t0_0 : Int32} {t0_1 : Int32} {t0_2 : Int32} {t0_3 : Int32} {t0_4 : Int64} {t0_5 : Int32} {t0_6 : Int32} {t0_7 : Int64} {t0_8 : Int32} {t0_9 : Int64} {t0_10 : Int32} {t1_0 : (Nat → Int32)} {t2_0 : (Nat → Int32)} {t3_0 : (Nat → Int32)} {t4_0 : (Nat → Int32)} {t5_0 : (Nat → Int32)} {P T : Nat} {l0 : Int} (hk : yG x3 P T l0) (hb : yBit P T (yu x2)) (h : ¬ ((1 ≤ x4.toInt ∧ x4.toInt ≤ 800) ∧ 0 ≤ x5.toInt ∧ x5.toInt ≤ 3) ∨ yEx P T (yu x2) = T) : (¬ ((1 ≤ x4.toInt ∧ x4.toInt ≤ 800) ∧ 0 ≤ x5.toInt ∧ x5.toInt ≤ 3) ∧ (F_FR_scientific x2 x3 x4 x5 t0_0 t0_1 t0_2 t0_3 t0_4 t0_5 t0_6 t0_7 t0_8 t0_9 t0_10 t1_0 t2_0 t3_0 t4_0 t5_0).2.1 = 1) ∨ ((1 ≤ x4.toInt ∧ x4.toInt ≤ 800) ∧ (0 ≤ x5.toInt ∧ x5.toInt ≤ 3) ∧ yEx P T (yu x2) = T ∧ (F_FR_scientific x2 x3 x4 x5 t0_0 t0_1 t0_2 t0_3 t0_4 t0_5 t0_6 t0_7 t0_8 t0_9 t0_10 t1_0 t2_0 t3_0 t4_0 t5_0).2.1 = 2) := by
  unfold F_FR_scientific
  by_cases g : x3 = 0
  · rw [if_pos g]
    unfold F_FR_scientific_J18
    exact V_scR19 hk hb g.symm h
  · rw [if_neg g, if_pos (y_notW hk hb)]
    have x1 : x3 = 1 := by
      rcases hk with ⟨q, _⟩ | ⟨q, _⟩
      · exact absurd q g
      · exact q
    exact V_scR19 hk hb x1.symm h
