/-! DirectiveRows: numeric, string, widen, make -/
def Q_VR_num (t0_17 : Int32) (p : Int32 × Int32 × Int32 × Int32 × Int32 × (Nat → Int32) × (Nat → Int32)) : Prop := (t0_17.toInt ≤ p.1.toInt ∧ p.1.toInt ≤ t0_17.toInt + 10320) ∧ (t0_17.toInt ≤ p.2.1.toInt ∧ p.2.1.toInt ≤ p.1.toInt)
theorem vv_n1 {x2 : Int32} {t0_0 : Int32} {t0_1 : Int32} {t0_2 : Int32} {t0_3 : Int32} {t0_4 : Int32} {t0_5 : Int32} {t0_6 : Int32} {t0_7 : Int32} {t0_8 : Int32} {t0_9 : Int32} {t0_10 : Int32} {t0_11 : Int32} {t0_12 : Int32} {t0_13 : Int32} {t0_14 : Int32} {t0_15 : Int32} {t0_16 : Int32} {t0_17 : Int32} {t0_18 : Int32} {t0_19 : Int32} {t0_20 : Int32} {t0_21 : Int32} {t1_0 : (Nat → Int32)} {t2_0 : (Nat → Int64)} {t3_0 : (Nat → Int32)} {t4_0 : (Nat → Int32)} {j42 : Int64} {a46 : Int32} {lx53 : Int32} {lx67 : Int32} {lx81 : Int32} {lx82 : (Nat → Int32)} {lx95 : Int32} {lx96 : (Nat → Int32)} {lx178 : Int64} {lx190 : Int32} {p218 : (Int32 × Int32 × (Nat → Int32))} {y208 : Int32} {y209 : Int32} {f210 : (Nat → Int32)} (hy : 1 ≤ y208.toInt ∧ y208.toInt ≤ 24) (h95 : t0_17.toInt ≤ lx95.toInt ∧ lx95.toInt ≤ t0_17.toInt + 9) (hL : 0 ≤ t0_17.toInt ∧ t0_17.toInt ≤ 100) : ∀ (n : Nat) (lx229 : Int32) (lx230 : Int32) (lx231 : (Nat → Int32)), (0 ≤ lx229.toInt ∧ lx229.toInt ≤ y208.toInt) → (y208.toInt - lx229.toInt < (n : Int)) → (lx95.toInt ≤ lx230.toInt ∧ lx230.toInt ≤ lx95.toInt + lx229.toInt) → (S_VR_numeric_L248 x2 t0_0 t0_1 t0_2 t0_3 t0_4 t0_5 t0_6 t0_7 t0_8 t0_9 t0_10 t0_11 t0_12 t0_13 t0_14 t0_15 t0_16 t0_17 t0_18 t0_19 t0_20 t0_21 t1_0 t2_0 t3_0 t4_0 j42 a46 lx53 lx67 lx81 lx82 lx95 lx96 lx178 lx190 p218 y208 y209 f210 n lx229 lx230 lx231) ∧ Q_VR_num t0_17 (F_VR_numeric_L248 x2 t0_0 t0_1 t0_2 t0_3 t0_4 t0_5 t0_6 t0_7 t0_8 t0_9 t0_10 t0_11 t0_12 t0_13 t0_14 t0_15 t0_16 t0_17 t0_18 t0_19 t0_20 t0_21 t1_0 t2_0 t3_0 t4_0 j42 a46 lx53 lx67 lx81 lx82 lx95 lx96 lx178 lx190 p218 y208 y209 f210 n lx229 lx230 lx231) := by
  intro n
  induction n with
  | zero => intro lx229 lx230 lx231 h0 hm hs; exact absurd (show False by omega) id
  | succ n ih =>
    intro lx229 lx230 lx231 h0 hm hs
    have e0 : (0 : Int32).toInt = 0 := rfl
    have e1 : (1 : Int32).toInt = 1 := rfl
    have eL0 : (0 : Int64).toInt = 0 := rfl
    have em : (-1 : Int32).toInt = -1 := rfl
    rw [S_VR_numeric_L248.eq_2, F_VR_numeric_L248.eq_2]
    by_cases g1 : y208 ≤ lx229
    ·
      rw [if_pos g1, if_pos g1]
      have g1i : y208.toInt ≤ lx229.toInt := q_leI g1
      refine ⟨trivial, ?_⟩
      (unfold Q_VR_num; dsimp only; exact ⟨⟨by omega, by omega⟩, ⟨by omega, by omega⟩⟩)
    ·
      rw [if_neg g1, if_neg g1]
      have g1i : lx229.toInt < y208.toInt := q_nleI g1
      refine v_cons (by first | omega | decide) ?_
      by_cases g2 : (10 : Int32) ≤ (f210 lx229.toNatClampNeg : Int32)
      ·
        rw [if_pos g2, if_pos g2]
        have h3 := T_VR_put (x2 := ((97 + (f210 lx229.toNatClampNeg : Int32) : Int32) - 10 : Int32)) (t0_0 := t0_0) (t0_1 := t0_1) (t0_2 := t0_2) (t0_3 := t0_3) (t0_4 := t0_4) (t0_5 := t0_5) (t0_6 := t0_6) (t0_7 := t0_7) (t0_8 := t0_8) (t0_9 := t0_9) (t0_10 := t0_10) (t0_11 := t0_11) (t0_12 := t0_12) (t0_13 := t0_13) (t0_14 := t0_14) (t0_15 := t0_15) (t0_16 := t0_16) (t0_17 := lx230) (t0_18 := lx95) (t0_19 := a46) (t0_20 := y208) (t0_21 := y209) (t1_0 := lx231) ⟨by first | omega | decide, by first | omega | decide⟩
        with_reducible refine v_owe h3.1 ?_
        replace h3 := h3.2
        generalize F_VR_put ((97 + (f210 lx229.toNatClampNeg : Int32) : Int32) - 10 : Int32) t0_0 t0_1 t0_2 t0_3 t0_4 t0_5 t0_6 t0_7 t0_8 t0_9 t0_10 t0_11 t0_12 t0_13 t0_14 t0_15 t0_16 lx230 lx95 a46 y208 y209 lx231 = p276 at *
        unfold Q_VR_put at h3
        unfold S_VR_numeric_c296 F_VR_numeric_c296
        obtain ⟨a4, e5⟩ := q_nm (lx229 + 1 : Int32)
        rw [e5]
        have a4i : a4.toInt = lx229.toInt + 1 := by rw [← e5]; exact q_addI (x := lx229.toInt) (y := 1) rfl (by decide) (by omega) (by omega)
        exact ih _ _ _ ⟨by omega, by omega⟩ (by omega) ⟨by omega, by omega⟩
      ·
        rw [if_neg g2, if_neg g2]
        have h6 := T_VR_put (x2 := (48 + (f210 lx229.toNatClampNeg : Int32) : Int32)) (t0_0 := t0_0) (t0_1 := t0_1) (t0_2 := t0_2) (t0_3 := t0_3) (t0_4 := t0_4) (t0_5 := t0_5) (t0_6 := t0_6) (t0_7 := t0_7) (t0_8 := t0_8) (t0_9 := t0_9) (t0_10 := t0_10) (t0_11 := t0_11) (t0_12 := t0_12) (t0_13 := t0_13) (t0_14 := t0_14) (t0_15 := t0_15) (t0_16 := t0_16) (t0_17 := lx230) (t0_18 := lx95) (t0_19 := a46) (t0_20 := y208) (t0_21 := y209) (t1_0 := lx231) ⟨by first | omega | decide, by first | omega | decide⟩
        with_reducible refine v_owe h6.1 ?_
        replace h6 := h6.2
        generalize F_VR_put (48 + (f210 lx229.toNatClampNeg : Int32) : Int32) t0_0 t0_1 t0_2 t0_3 t0_4 t0_5 t0_6 t0_7 t0_8 t0_9 t0_10 t0_11 t0_12 t0_13 t0_14 t0_15 t0_16 lx230 lx95 a46 y208 y209 lx231 = p306 at *
        unfold Q_VR_put at h6
        unfold S_VR_numeric_c296_12 F_VR_numeric_c296_12
        obtain ⟨a7, e8⟩ := q_nm (lx229 + 1 : Int32)
        rw [e8]
        have a7i : a7.toInt = lx229.toInt + 1 := by rw [← e8]; exact q_addI (x := lx229.toInt) (y := 1) rfl (by decide) (by omega) (by omega)
        exact ih _ _ _ ⟨by omega, by omega⟩ (by omega) ⟨by omega, by omega⟩
theorem T_VR_num242 {x2 : Int32} {t0_0 : Int32} {t0_1 : Int32} {t0_2 : Int32} {t0_3 : Int32} {t0_4 : Int32} {t0_5 : Int32} {t0_6 : Int32} {t0_7 : Int32} {t0_8 : Int32} {t0_9 : Int32} {t0_10 : Int32} {t0_11 : Int32} {t0_12 : Int32} {t0_13 : Int32} {t0_14 : Int32} {t0_15 : Int32} {t0_16 : Int32} {t0_17 : Int32} {t0_18 : Int32} {t0_19 : Int32} {t0_20 : Int32} {t0_21 : Int32} {t1_0 : (Nat → Int32)} {t2_0 : (Nat → Int64)} {t3_0 : (Nat → Int32)} {t4_0 : (Nat → Int32)} {j42 : Int64} {a46 : Int32} {lx53 : Int32} {lx67 : Int32} {lx81 : Int32} {lx82 : (Nat → Int32)} {lx95 : Int32} {lx96 : (Nat → Int32)} {lx178 : Int64} {lx190 : Int32} (h190 : 8 ≤ lx190.toInt ∧ lx190.toInt ≤ 16) (h95 : t0_17.toInt ≤ lx95.toInt ∧ lx95.toInt ≤ t0_17.toInt + 9) (hL : 0 ≤ t0_17.toInt ∧ t0_17.toInt ≤ 100) : (S_VR_numeric_J242 x2 t0_0 t0_1 t0_2 t0_3 t0_4 t0_5 t0_6 t0_7 t0_8 t0_9 t0_10 t0_11 t0_12 t0_13 t0_14 t0_15 t0_16 t0_17 t0_18 t0_19 t0_20 t0_21 t1_0 t2_0 t3_0 t4_0 j42 a46 lx53 lx67 lx81 lx82 lx95 lx96 lx178 lx190) ∧ Q_VR_num t0_17 (F_VR_numeric_J242 x2 t0_0 t0_1 t0_2 t0_3 t0_4 t0_5 t0_6 t0_7 t0_8 t0_9 t0_10 t0_11 t0_12 t0_13 t0_14 t0_15 t0_16 t0_17 t0_18 t0_19 t0_20 t0_21 t1_0 t2_0 t3_0 t4_0 j42 a46 lx53 lx67 lx81 lx82 lx95 lx96 lx178 lx190) := by
  have e0 : (0 : Int32).toInt = 0 := rfl
  have e1 : (1 : Int32).toInt = 1 := rfl
  have eL0 : (0 : Int64).toInt = 0 := rfl
  have em : (-1 : Int32).toInt = -1 := rfl
  unfold S_VR_numeric_J242 F_VR_numeric_J242
  have h1 := T_VR_spread (x2 := lx178) (x3 := lx190) (t0_0 := t0_0) (t0_1 := t0_1) (t0_2 := t0_2) (t0_3 := t0_3) (t0_4 := t0_4) (t0_5 := t0_5) (t0_6 := t0_6) (t0_7 := t0_7) (t0_8 := t0_8) (t0_9 := t0_9) (t0_10 := t0_10) (t0_11 := t0_11) (t0_12 := t0_12) (t0_13 := t0_13) (t0_14 := t0_14) (t0_15 := t0_15) (t0_16 := t0_16) (t0_17 := lx95) (t0_18 := lx95) (t0_19 := a46) (t0_20 := t0_20) (t0_21 := t0_21) (t1_0 := t4_0) h190
  with_reducible refine v_owe h1.1 ?_
  replace h1 := h1.2
  generalize F_VR_spread lx178 lx190 t0_0 t0_1 t0_2 t0_3 t0_4 t0_5 t0_6 t0_7 t0_8 t0_9 t0_10 t0_11 t0_12 t0_13 t0_14 t0_15 t0_16 lx95 lx95 a46 t0_20 t0_21 t4_0 = p218 at *
  unfold Q_VR_spread at h1
  have h121 := congrArg Int32.toInt h1.2
  have s20 := h1.1
  unfold S_VR_numeric_c242 F_VR_numeric_c242
  exact vv_n1 s20 h95 hL _ _ _ _ ⟨by decide, by omega⟩ (by omega) ⟨by omega, by omega⟩
theorem T_VR_num161 {x2 : Int32} {t0_0 : Int32} {t0_1 : Int32} {t0_2 : Int32} {t0_3 : Int32} {t0_4 : Int32} {t0_5 : Int32} {t0_6 : Int32} {t0_7 : Int32} {t0_8 : Int32} {t0_9 : Int32} {t0_10 : Int32} {t0_11 : Int32} {t0_12 : Int32} {t0_13 : Int32} {t0_14 : Int32} {t0_15 : Int32} {t0_16 : Int32} {t0_17 : Int32} {t0_18 : Int32} {t0_19 : Int32} {t0_20 : Int32} {t0_21 : Int32} {t1_0 : (Nat → Int32)} {t2_0 : (Nat → Int64)} {t3_0 : (Nat → Int32)} {t4_0 : (Nat → Int32)} {j42 : Int64} {a46 : Int32} {lx53 : Int32} {lx67 : Int32} {lx81 : Int32} {lx82 : (Nat → Int32)} {lx95 : Int32} {lx96 : (Nat → Int32)} (hZ : ∀ i, i < 9 → 0 ≤ (t1_0 i).toInt ∧ (t1_0 i).toInt ≤ 64) (h14 : 0 ≤ t0_14.toInt ∧ t0_14.toInt ≤ 8) (h12 : t0_12.toInt ≤ 9999) (h95 : t0_17.toInt ≤ lx95.toInt ∧ lx95.toInt ≤ t0_17.toInt + 9) (hL : 0 ≤ t0_17.toInt ∧ t0_17.toInt ≤ 100) : (S_VR_numeric_J161 x2 t0_0 t0_1 t0_2 t0_3 t0_4 t0_5 t0_6 t0_7 t0_8 t0_9 t0_10 t0_11 t0_12 t0_13 t0_14 t0_15 t0_16 t0_17 t0_18 t0_19 t0_20 t0_21 t1_0 t2_0 t3_0 t4_0 j42 a46 lx53 lx67 lx81 lx82 lx95 lx96) ∧ Q_VR_num t0_17 (F_VR_numeric_J161 x2 t0_0 t0_1 t0_2 t0_3 t0_4 t0_5 t0_6 t0_7 t0_8 t0_9 t0_10 t0_11 t0_12 t0_13 t0_14 t0_15 t0_16 t0_17 t0_18 t0_19 t0_20 t0_21 t1_0 t2_0 t3_0 t4_0 j42 a46 lx53 lx67 lx81 lx82 lx95 lx96) := by
  have e0 : (0 : Int32).toInt = 0 := rfl
  have e1 : (1 : Int32).toInt = 1 := rfl
  have eL0 : (0 : Int64).toInt = 0 := rfl
  have em : (-1 : Int32).toInt = -1 := rfl
  unfold S_VR_numeric_J161 F_VR_numeric_J161
  by_cases g1 : x2 = (100 : Int32)
  ·
    rw [if_pos g1, if_pos g1]
    have h2 := T_VR_spread (x2 := ((F_VR_size64 j42) : Int64)) (x3 := (10 : Int32)) (t0_0 := t0_0) (t0_1 := t0_1) (t0_2 := t0_2) (t0_3 := t0_3) (t0_4 := t0_4) (t0_5 := t0_5) (t0_6 := t0_6) (t0_7 := t0_7) (t0_8 := t0_8) (t0_9 := t0_9) (t0_10 := t0_10) (t0_11 := t0_11) (t0_12 := t0_12) (t0_13 := t0_13) (t0_14 := t0_14) (t0_15 := t0_15) (t0_16 := t0_16) (t0_17 := lx95) (t0_18 := lx95) (t0_19 := a46) (t0_20 := t0_20) (t0_21 := t0_21) (t1_0 := t4_0) (by first | decide | omega)
    with_reducible refine v_owe h2.1 ?_
    replace h2 := h2.2
    generalize F_VR_spread ((F_VR_size64 j42) : Int64) (10 : Int32) t0_0 t0_1 t0_2 t0_3 t0_4 t0_5 t0_6 t0_7 t0_8 t0_9 t0_10 t0_11 t0_12 t0_13 t0_14 t0_15 t0_16 lx95 lx95 a46 t0_20 t0_21 t4_0 = p350 at *
    unfold Q_VR_spread at h2
    have h221 := congrArg Int32.toInt h2.2
    have s20 := h2.1
    unfold S_VR_numeric_c182 F_VR_numeric_c182
    have h3 := T_VR_plain (x2 := (0 : Int32)) (t0_0 := t0_0) (t0_1 := t0_1) (t0_2 := t0_2) (t0_3 := t0_3) (t0_4 := t0_4) (t0_5 := t0_5) (t0_6 := t0_6) (t0_7 := t0_7) (t0_8 := t0_8) (t0_9 := t0_9) (t0_10 := t0_10) (t0_11 := t0_11) (t0_12 := t0_12) (t0_13 := t0_13) (t0_14 := t0_14) (t0_15 := t0_15) (t0_16 := t0_16) (t0_17 := lx95) (t0_18 := lx95) (t0_19 := a46) (t0_20 := (p350.1 : Int32)) (t0_21 := (p350.2.1 : Int32)) (t1_0 := lx96) (t2_0 := (p350.2.2 : (Nat → Int32))) ⟨by omega, by omega⟩ ⟨by omega, by omega⟩ ⟨by omega, by omega⟩ ⟨by first | omega | decide, by first | omega | decide⟩
    with_reducible refine v_owe h3.1 ?_
    replace h3 := h3.2
    generalize F_VR_plain (0 : Int32) t0_0 t0_1 t0_2 t0_3 t0_4 t0_5 t0_6 t0_7 t0_8 t0_9 t0_10 t0_11 t0_12 t0_13 t0_14 t0_15 t0_16 lx95 lx95 a46 (p350.1 : Int32) (p350.2.1 : Int32) lx96 (p350.2.2 : (Nat → Int32)) = p369 at *
    unfold Q_VR_plain at h3
    unfold S_VR_numeric_c187 F_VR_numeric_c187
    by_cases g4 : lx67 = (0 : Int32)
    ·
      rw [if_pos g4, if_pos g4]
      refine ⟨trivial, ?_⟩
      (unfold Q_VR_num; dsimp only; exact ⟨⟨by omega, by omega⟩, ⟨by omega, by omega⟩⟩)
    ·
      rw [if_neg g4, if_neg g4]
      by_cases g5 : ((F_VR_has (40 : Int32) t0_0 t0_1 t0_2 t0_3 t0_4 t0_5 t0_6 t0_7 t0_8 t0_9 t0_10 t0_11 t0_12 t0_13 t0_14 t0_15 t0_16 (p369.1 : Int32) lx95 a46 (p350.1 : Int32) (p350.2.1 : Int32)) : Int32) = (0 : Int32)
      ·
        rw [if_pos g5, if_pos g5]
        refine ⟨trivial, ?_⟩
        (unfold Q_VR_num; dsimp only; exact ⟨⟨by omega, by omega⟩, ⟨by omega, by omega⟩⟩)
      ·
        rw [if_neg g5, if_neg g5]
        have h6 := T_VR_put (x2 := (41 : Int32)) (t0_0 := t0_0) (t0_1 := t0_1) (t0_2 := t0_2) (t0_3 := t0_3) (t0_4 := t0_4) (t0_5 := t0_5) (t0_6 := t0_6) (t0_7 := t0_7) (t0_8 := t0_8) (t0_9 := t0_9) (t0_10 := t0_10) (t0_11 := t0_11) (t0_12 := t0_12) (t0_13 := t0_13) (t0_14 := t0_14) (t0_15 := t0_15) (t0_16 := t0_16) (t0_17 := (p369.1 : Int32)) (t0_18 := lx95) (t0_19 := a46) (t0_20 := (p350.1 : Int32)) (t0_21 := (p350.2.1 : Int32)) (t1_0 := (p369.2 : (Nat → Int32))) ⟨by first | omega | decide, by first | omega | decide⟩
        with_reducible refine v_owe h6.1 ?_
        replace h6 := h6.2
        generalize F_VR_put (41 : Int32) t0_0 t0_1 t0_2 t0_3 t0_4 t0_5 t0_6 t0_7 t0_8 t0_9 t0_10 t0_11 t0_12 t0_13 t0_14 t0_15 t0_16 (p369.1 : Int32) lx95 a46 (p350.1 : Int32) (p350.2.1 : Int32) (p369.2 : (Nat → Int32)) = p404 at *
        unfold Q_VR_put at h6
        unfold S_VR_numeric_c330_15 F_VR_numeric_c330_15
        refine ⟨trivial, ?_⟩
        (unfold Q_VR_num; dsimp only; exact ⟨⟨by omega, by omega⟩, ⟨by omega, by omega⟩⟩)
  ·
    rw [if_neg g1, if_neg g1]
    by_cases g7 : lx53 = (0 : Int32)
    ·
      rw [if_pos g7, if_pos g7]
      by_cases g8 : (t1_0 t0_14.toNatClampNeg : Int32) = (64 : Int32)
      ·
        rw [if_pos g8, if_pos g8]
        unfold S_VR_numeric_J229 F_VR_numeric_J229
        by_cases g9 : x2 = (111 : Int32)
        ·
          rw [if_pos g9, if_pos g9]
          exact T_VR_num242 (by decide) h95 hL
        ·
          rw [if_neg g9, if_neg g9]
          exact T_VR_num242 (by decide) h95 hL
      ·
        rw [if_neg g8, if_neg g8]
        unfold S_VR_numeric_J229 F_VR_numeric_J229
        by_cases g10 : x2 = (111 : Int32)
        ·
          rw [if_pos g10, if_pos g10]
          exact T_VR_num242 (by decide) h95 hL
        ·
          rw [if_neg g10, if_neg g10]
          exact T_VR_num242 (by decide) h95 hL
    ·
      rw [if_neg g7, if_neg g7]
      have h11 := T_VR_decimal_IV (x2 := x2) (t0_0 := t0_0) (t0_1 := t0_1) (t0_2 := t0_2) (t0_3 := t0_3) (t0_4 := t0_4) (t0_5 := t0_5) (t0_6 := t0_6) (t0_7 := t0_7) (t0_8 := t0_8) (t0_9 := t0_9) (t0_10 := t0_10) (t0_11 := t0_11) (t0_12 := t0_12) (t0_13 := t0_13) (t0_14 := t0_14) (t0_15 := t0_15) (t0_16 := t0_16) (t0_17 := lx95) (t0_18 := lx95) (t0_19 := a46) (t0_20 := t0_20) (t0_21 := t0_21) (t1_0 := t1_0) (t2_0 := t2_0) (t3_0 := lx96) (t4_0 := t4_0) hZ h14 h12 ⟨by omega, by omega⟩
      with_reducible refine v_owe h11.1 ?_
      replace h11 := h11.2
      generalize F_VR_decimal_IV x2 t0_0 t0_1 t0_2 t0_3 t0_4 t0_5 t0_6 t0_7 t0_8 t0_9 t0_10 t0_11 t0_12 t0_13 t0_14 t0_15 t0_16 lx95 lx95 a46 t0_20 t0_21 t1_0 t2_0 lx96 t4_0 = p128 at *
      unfold Q_VR_dec at h11
      unfold S_VR_numeric_c310 F_VR_numeric_c310
      by_cases g12 : lx67 = (0 : Int32)
      ·
        rw [if_pos g12, if_pos g12]
        refine ⟨trivial, ?_⟩
        (unfold Q_VR_num; dsimp only; exact ⟨⟨by omega, by omega⟩, ⟨by omega, by omega⟩⟩)
      ·
        rw [if_neg g12, if_neg g12]
        by_cases g13 : ((F_VR_has (40 : Int32) t0_0 t0_1 t0_2 t0_3 t0_4 t0_5 t0_6 t0_7 t0_8 t0_9 t0_10 t0_11 t0_12 t0_13 t0_14 t0_15 t0_16 (p128.1 : Int32) lx95 a46 (p128.2.1 : Int32) (p128.2.2.1 : Int32)) : Int32) = (0 : Int32)
        ·
          rw [if_pos g13, if_pos g13]
          refine ⟨trivial, ?_⟩
          (unfold Q_VR_num; dsimp only; exact ⟨⟨by omega, by omega⟩, ⟨by omega, by omega⟩⟩)
        ·
          rw [if_neg g13, if_neg g13]
          have h14 := T_VR_put (x2 := (41 : Int32)) (t0_0 := t0_0) (t0_1 := t0_1) (t0_2 := t0_2) (t0_3 := t0_3) (t0_4 := t0_4) (t0_5 := t0_5) (t0_6 := t0_6) (t0_7 := t0_7) (t0_8 := t0_8) (t0_9 := t0_9) (t0_10 := t0_10) (t0_11 := t0_11) (t0_12 := t0_12) (t0_13 := t0_13) (t0_14 := t0_14) (t0_15 := t0_15) (t0_16 := t0_16) (t0_17 := (p128.1 : Int32)) (t0_18 := lx95) (t0_19 := a46) (t0_20 := (p128.2.1 : Int32)) (t0_21 := (p128.2.2.1 : Int32)) (t1_0 := (p128.2.2.2.1 : (Nat → Int32))) ⟨by first | omega | decide, by first | omega | decide⟩
          with_reducible refine v_owe h14.1 ?_
          replace h14 := h14.2
          generalize F_VR_put (41 : Int32) t0_0 t0_1 t0_2 t0_3 t0_4 t0_5 t0_6 t0_7 t0_8 t0_9 t0_10 t0_11 t0_12 t0_13 t0_14 t0_15 t0_16 (p128.1 : Int32) lx95 a46 (p128.2.1 : Int32) (p128.2.2.1 : Int32) (p128.2.2.2.1 : (Nat → Int32)) = p166 at *
          unfold Q_VR_put at h14
          unfold S_VR_numeric_c330 F_VR_numeric_c330
          refine ⟨trivial, ?_⟩
          (unfold Q_VR_num; dsimp only; exact ⟨⟨by omega, by omega⟩, ⟨by omega, by omega⟩⟩)
theorem T_VR_num128 {x2 : Int32} {t0_0 : Int32} {t0_1 : Int32} {t0_2 : Int32} {t0_3 : Int32} {t0_4 : Int32} {t0_5 : Int32} {t0_6 : Int32} {t0_7 : Int32} {t0_8 : Int32} {t0_9 : Int32} {t0_10 : Int32} {t0_11 : Int32} {t0_12 : Int32} {t0_13 : Int32} {t0_14 : Int32} {t0_15 : Int32} {t0_16 : Int32} {t0_17 : Int32} {t0_18 : Int32} {t0_19 : Int32} {t0_20 : Int32} {t0_21 : Int32} {t1_0 : (Nat → Int32)} {t2_0 : (Nat → Int64)} {t3_0 : (Nat → Int32)} {t4_0 : (Nat → Int32)} {j42 : Int64} {a46 : Int32} {lx53 : Int32} {lx67 : Int32} {lx81 : Int32} {lx82 : (Nat → Int32)} (hZ : ∀ i, i < 9 → 0 ≤ (t1_0 i).toInt ∧ (t1_0 i).toInt ≤ 64) (h14 : 0 ≤ t0_14.toInt ∧ t0_14.toInt ≤ 8) (h12 : t0_12.toInt ≤ 9999) (h81 : t0_17.toInt ≤ lx81.toInt ∧ lx81.toInt ≤ t0_17.toInt + 1) (hL : 0 ≤ t0_17.toInt ∧ t0_17.toInt ≤ 100) : (S_VR_numeric_J128 x2 t0_0 t0_1 t0_2 t0_3 t0_4 t0_5 t0_6 t0_7 t0_8 t0_9 t0_10 t0_11 t0_12 t0_13 t0_14 t0_15 t0_16 t0_17 t0_18 t0_19 t0_20 t0_21 t1_0 t2_0 t3_0 t4_0 j42 a46 lx53 lx67 lx81 lx82) ∧ Q_VR_num t0_17 (F_VR_numeric_J128 x2 t0_0 t0_1 t0_2 t0_3 t0_4 t0_5 t0_6 t0_7 t0_8 t0_9 t0_10 t0_11 t0_12 t0_13 t0_14 t0_15 t0_16 t0_17 t0_18 t0_19 t0_20 t0_21 t1_0 t2_0 t3_0 t4_0 j42 a46 lx53 lx67 lx81 lx82) := by
  have e0 : (0 : Int32).toInt = 0 := rfl
  have e1 : (1 : Int32).toInt = 1 := rfl
  have eL0 : (0 : Int64).toInt = 0 := rfl
  have em : (-1 : Int32).toInt = -1 := rfl
  unfold S_VR_numeric_J128 F_VR_numeric_J128
  by_cases g1 : lx53 = (0 : Int32)
  ·
    rw [if_pos g1, if_pos g1]
    by_cases g2 : ((F_VR_has (35 : Int32) t0_0 t0_1 t0_2 t0_3 t0_4 t0_5 t0_6 t0_7 t0_8 t0_9 t0_10 t0_11 t0_12 t0_13 t0_14 t0_15 t0_16 lx81 t0_18 a46 t0_20 t0_21) : Int32) = (0 : Int32)
    ·
      rw [if_pos g2, if_pos g2]
      exact T_VR_num161 hZ h14 h12 ⟨by omega, by omega⟩ ⟨by omega, by omega⟩
    ·
      rw [if_neg g2, if_neg g2]
      by_cases g3 : x2 = (111 : Int32)
      ·
        rw [if_pos g3, if_pos g3]
        unfold S_VR_numeric_J158 F_VR_numeric_J158
        have h4 := T_VR_word (x2 := (48 : Int64)) (t0_0 := t0_0) (t0_1 := t0_1) (t0_2 := t0_2) (t0_3 := t0_3) (t0_4 := t0_4) (t0_5 := t0_5) (t0_6 := t0_6) (t0_7 := t0_7) (t0_8 := t0_8) (t0_9 := t0_9) (t0_10 := t0_10) (t0_11 := t0_11) (t0_12 := t0_12) (t0_13 := t0_13) (t0_14 := t0_14) (t0_15 := t0_15) (t0_16 := t0_16) (t0_17 := lx81) (t0_18 := t0_18) (t0_19 := a46) (t0_20 := t0_20) (t0_21 := t0_21) (t1_0 := lx82) ⟨by first | omega | decide, by first | omega | decide⟩ (by decide)
        with_reducible refine v_owe h4.1 ?_
        replace h4 := h4.2
        generalize F_VR_word (48 : Int64) t0_0 t0_1 t0_2 t0_3 t0_4 t0_5 t0_6 t0_7 t0_8 t0_9 t0_10 t0_11 t0_12 t0_13 t0_14 t0_15 t0_16 lx81 t0_18 a46 t0_20 t0_21 lx82 = p449 at *
        unfold Q_VR_word at h4
        unfold S_VR_numeric_c158 F_VR_numeric_c158
        exact T_VR_num161 hZ h14 h12 ⟨by omega, by omega⟩ ⟨by omega, by omega⟩
      ·
        rw [if_neg g3, if_neg g3]
        unfold S_VR_numeric_J158 F_VR_numeric_J158
        have h5 := T_VR_word (x2 := (30768 : Int64)) (t0_0 := t0_0) (t0_1 := t0_1) (t0_2 := t0_2) (t0_3 := t0_3) (t0_4 := t0_4) (t0_5 := t0_5) (t0_6 := t0_6) (t0_7 := t0_7) (t0_8 := t0_8) (t0_9 := t0_9) (t0_10 := t0_10) (t0_11 := t0_11) (t0_12 := t0_12) (t0_13 := t0_13) (t0_14 := t0_14) (t0_15 := t0_15) (t0_16 := t0_16) (t0_17 := lx81) (t0_18 := t0_18) (t0_19 := a46) (t0_20 := t0_20) (t0_21 := t0_21) (t1_0 := lx82) ⟨by first | omega | decide, by first | omega | decide⟩ (by decide)
        with_reducible refine v_owe h5.1 ?_
        replace h5 := h5.2
        generalize F_VR_word (30768 : Int64) t0_0 t0_1 t0_2 t0_3 t0_4 t0_5 t0_6 t0_7 t0_8 t0_9 t0_10 t0_11 t0_12 t0_13 t0_14 t0_15 t0_16 lx81 t0_18 a46 t0_20 t0_21 lx82 = p449 at *
        unfold Q_VR_word at h5
        unfold S_VR_numeric_c158 F_VR_numeric_c158
        exact T_VR_num161 hZ h14 h12 ⟨by omega, by omega⟩ ⟨by omega, by omega⟩
  ·
    rw [if_neg g1, if_neg g1]
    exact T_VR_num161 hZ h14 h12 ⟨by omega, by omega⟩ ⟨by omega, by omega⟩
theorem T_VR_num55 {x2 : Int32} {t0_0 : Int32} {t0_1 : Int32} {t0_2 : Int32} {t0_3 : Int32} {t0_4 : Int32} {t0_5 : Int32} {t0_6 : Int32} {t0_7 : Int32} {t0_8 : Int32} {t0_9 : Int32} {t0_10 : Int32} {t0_11 : Int32} {t0_12 : Int32} {t0_13 : Int32} {t0_14 : Int32} {t0_15 : Int32} {t0_16 : Int32} {t0_17 : Int32} {t0_18 : Int32} {t0_19 : Int32} {t0_20 : Int32} {t0_21 : Int32} {t1_0 : (Nat → Int32)} {t2_0 : (Nat → Int64)} {t3_0 : (Nat → Int32)} {t4_0 : (Nat → Int32)} {j42 : Int64} {a46 : Int32} {lx53 : Int32} {lx67 : Int32} (hZ : ∀ i, i < 9 → 0 ≤ (t1_0 i).toInt ∧ (t1_0 i).toInt ≤ 64) (h14 : 0 ≤ t0_14.toInt ∧ t0_14.toInt ≤ 8) (h12 : t0_12.toInt ≤ 9999) (hL : 0 ≤ t0_17.toInt ∧ t0_17.toInt ≤ 100) : (S_VR_numeric_J55 x2 t0_0 t0_1 t0_2 t0_3 t0_4 t0_5 t0_6 t0_7 t0_8 t0_9 t0_10 t0_11 t0_12 t0_13 t0_14 t0_15 t0_16 t0_17 t0_18 t0_19 t0_20 t0_21 t1_0 t2_0 t3_0 t4_0 j42 a46 lx53 lx67) ∧ Q_VR_num t0_17 (F_VR_numeric_J55 x2 t0_0 t0_1 t0_2 t0_3 t0_4 t0_5 t0_6 t0_7 t0_8 t0_9 t0_10 t0_11 t0_12 t0_13 t0_14 t0_15 t0_16 t0_17 t0_18 t0_19 t0_20 t0_21 t1_0 t2_0 t3_0 t4_0 j42 a46 lx53 lx67) := by
  have e0 : (0 : Int32).toInt = 0 := rfl
  have e1 : (1 : Int32).toInt = 1 := rfl
  have eL0 : (0 : Int64).toInt = 0 := rfl
  have em : (-1 : Int32).toInt = -1 := rfl
  unfold S_VR_numeric_J55 F_VR_numeric_J55
  by_cases g1 : lx67 = (0 : Int32)
  ·
    rw [if_pos g1, if_pos g1]
    by_cases g2 : lx53 = (0 : Int32)
    ·
      rw [if_pos g2, if_pos g2]
      exact T_VR_num128 hZ h14 h12 ⟨by omega, by omega⟩ ⟨by omega, by omega⟩
    ·
      rw [if_neg g2, if_neg g2]
      by_cases g3 : ((F_VR_has (43 : Int32) t0_0 t0_1 t0_2 t0_3 t0_4 t0_5 t0_6 t0_7 t0_8 t0_9 t0_10 t0_11 t0_12 t0_13 t0_14 t0_15 t0_16 t0_17 t0_18 a46 t0_20 t0_21) : Int32) = (0 : Int32)
      ·
        rw [if_pos g3, if_pos g3]
        by_cases g4 : ((F_VR_has (32 : Int32) t0_0 t0_1 t0_2 t0_3 t0_4 t0_5 t0_6 t0_7 t0_8 t0_9 t0_10 t0_11 t0_12 t0_13 t0_14 t0_15 t0_16 t0_17 t0_18 a46 t0_20 t0_21) : Int32) = (0 : Int32)
        ·
          rw [if_pos g4, if_pos g4]
          exact T_VR_num128 hZ h14 h12 ⟨by omega, by omega⟩ ⟨by omega, by omega⟩
        ·
          rw [if_neg g4, if_neg g4]
          unfold S_VR_numeric_J108 F_VR_numeric_J108
          rw [if_pos g3, if_pos g3]
          unfold S_VR_numeric_J125 F_VR_numeric_J125
          have h5 := T_VR_put (x2 := (32 : Int32)) (t0_0 := t0_0) (t0_1 := t0_1) (t0_2 := t0_2) (t0_3 := t0_3) (t0_4 := t0_4) (t0_5 := t0_5) (t0_6 := t0_6) (t0_7 := t0_7) (t0_8 := t0_8) (t0_9 := t0_9) (t0_10 := t0_10) (t0_11 := t0_11) (t0_12 := t0_12) (t0_13 := t0_13) (t0_14 := t0_14) (t0_15 := t0_15) (t0_16 := t0_16) (t0_17 := t0_17) (t0_18 := t0_18) (t0_19 := a46) (t0_20 := t0_20) (t0_21 := t0_21) (t1_0 := t3_0) ⟨by first | omega | decide, by first | omega | decide⟩
          with_reducible refine v_owe h5.1 ?_
          replace h5 := h5.2
          generalize F_VR_put (32 : Int32) t0_0 t0_1 t0_2 t0_3 t0_4 t0_5 t0_6 t0_7 t0_8 t0_9 t0_10 t0_11 t0_12 t0_13 t0_14 t0_15 t0_16 t0_17 t0_18 a46 t0_20 t0_21 t3_0 = p518 at *
          unfold Q_VR_put at h5
          unfold S_VR_numeric_c125 F_VR_numeric_c125
          exact T_VR_num128 hZ h14 h12 ⟨by omega, by omega⟩ ⟨by omega, by omega⟩
      ·
        rw [if_neg g3, if_neg g3]
        unfold S_VR_numeric_J108 F_VR_numeric_J108
        rw [if_neg g3, if_neg g3]
        unfold S_VR_numeric_J125 F_VR_numeric_J125
        have h6 := T_VR_put (x2 := (43 : Int32)) (t0_0 := t0_0) (t0_1 := t0_1) (t0_2 := t0_2) (t0_3 := t0_3) (t0_4 := t0_4) (t0_5 := t0_5) (t0_6 := t0_6) (t0_7 := t0_7) (t0_8 := t0_8) (t0_9 := t0_9) (t0_10 := t0_10) (t0_11 := t0_11) (t0_12 := t0_12) (t0_13 := t0_13) (t0_14 := t0_14) (t0_15 := t0_15) (t0_16 := t0_16) (t0_17 := t0_17) (t0_18 := t0_18) (t0_19 := a46) (t0_20 := t0_20) (t0_21 := t0_21) (t1_0 := t3_0) ⟨by first | omega | decide, by first | omega | decide⟩
        with_reducible refine v_owe h6.1 ?_
        replace h6 := h6.2
        generalize F_VR_put (43 : Int32) t0_0 t0_1 t0_2 t0_3 t0_4 t0_5 t0_6 t0_7 t0_8 t0_9 t0_10 t0_11 t0_12 t0_13 t0_14 t0_15 t0_16 t0_17 t0_18 a46 t0_20 t0_21 t3_0 = p518 at *
        unfold Q_VR_put at h6
        unfold S_VR_numeric_c125 F_VR_numeric_c125
        exact T_VR_num128 hZ h14 h12 ⟨by omega, by omega⟩ ⟨by omega, by omega⟩
  ·
    rw [if_neg g1, if_neg g1]
    by_cases g7 : ((F_VR_has (40 : Int32) t0_0 t0_1 t0_2 t0_3 t0_4 t0_5 t0_6 t0_7 t0_8 t0_9 t0_10 t0_11 t0_12 t0_13 t0_14 t0_15 t0_16 t0_17 t0_18 a46 t0_20 t0_21) : Int32) = (0 : Int32)
    ·
      rw [if_pos g7, if_pos g7]
      unfold S_VR_numeric_J79 F_VR_numeric_J79
      have h8 := T_VR_put (x2 := (45 : Int32)) (t0_0 := t0_0) (t0_1 := t0_1) (t0_2 := t0_2) (t0_3 := t0_3) (t0_4 := t0_4) (t0_5 := t0_5) (t0_6 := t0_6) (t0_7 := t0_7) (t0_8 := t0_8) (t0_9 := t0_9) (t0_10 := t0_10) (t0_11 := t0_11) (t0_12 := t0_12) (t0_13 := t0_13) (t0_14 := t0_14) (t0_15 := t0_15) (t0_16 := t0_16) (t0_17 := t0_17) (t0_18 := t0_18) (t0_19 := a46) (t0_20 := t0_20) (t0_21 := t0_21) (t1_0 := t3_0) ⟨by first | omega | decide, by first | omega | decide⟩
      with_reducible refine v_owe h8.1 ?_
      replace h8 := h8.2
      generalize F_VR_put (45 : Int32) t0_0 t0_1 t0_2 t0_3 t0_4 t0_5 t0_6 t0_7 t0_8 t0_9 t0_10 t0_11 t0_12 t0_13 t0_14 t0_15 t0_16 t0_17 t0_18 a46 t0_20 t0_21 t3_0 = p578 at *
      unfold Q_VR_put at h8
      unfold S_VR_numeric_c79 F_VR_numeric_c79
      exact T_VR_num128 hZ h14 h12 ⟨by omega, by omega⟩ ⟨by omega, by omega⟩
    ·
      rw [if_neg g7, if_neg g7]
      unfold S_VR_numeric_J79 F_VR_numeric_J79
      have h9 := T_VR_put (x2 := (40 : Int32)) (t0_0 := t0_0) (t0_1 := t0_1) (t0_2 := t0_2) (t0_3 := t0_3) (t0_4 := t0_4) (t0_5 := t0_5) (t0_6 := t0_6) (t0_7 := t0_7) (t0_8 := t0_8) (t0_9 := t0_9) (t0_10 := t0_10) (t0_11 := t0_11) (t0_12 := t0_12) (t0_13 := t0_13) (t0_14 := t0_14) (t0_15 := t0_15) (t0_16 := t0_16) (t0_17 := t0_17) (t0_18 := t0_18) (t0_19 := a46) (t0_20 := t0_20) (t0_21 := t0_21) (t1_0 := t3_0) ⟨by first | omega | decide, by first | omega | decide⟩
      with_reducible refine v_owe h9.1 ?_
      replace h9 := h9.2
      generalize F_VR_put (40 : Int32) t0_0 t0_1 t0_2 t0_3 t0_4 t0_5 t0_6 t0_7 t0_8 t0_9 t0_10 t0_11 t0_12 t0_13 t0_14 t0_15 t0_16 t0_17 t0_18 a46 t0_20 t0_21 t3_0 = p578 at *
      unfold Q_VR_put at h9
      unfold S_VR_numeric_c79 F_VR_numeric_c79
      exact T_VR_num128 hZ h14 h12 ⟨by omega, by omega⟩ ⟨by omega, by omega⟩
theorem T_VR_numeric {x2 : Int32} {t0_0 : Int32} {t0_1 : Int32} {t0_2 : Int32} {t0_3 : Int32} {t0_4 : Int32} {t0_5 : Int32} {t0_6 : Int32} {t0_7 : Int32} {t0_8 : Int32} {t0_9 : Int32} {t0_10 : Int32} {t0_11 : Int32} {t0_12 : Int32} {t0_13 : Int32} {t0_14 : Int32} {t0_15 : Int32} {t0_16 : Int32} {t0_17 : Int32} {t0_18 : Int32} {t0_19 : Int32} {t0_20 : Int32} {t0_21 : Int32} {t1_0 : (Nat → Int32)} {t2_0 : (Nat → Int64)} {t3_0 : (Nat → Int32)} {t4_0 : (Nat → Int32)} (hZ : ∀ i, i < 9 → 0 ≤ (t1_0 i).toInt ∧ (t1_0 i).toInt ≤ 64) (h14 : 0 ≤ t0_14.toInt ∧ t0_14.toInt ≤ 8) (h12 : t0_12.toInt ≤ 9999) (hL : 0 ≤ t0_17.toInt ∧ t0_17.toInt ≤ 100) : (S_VR_numeric x2 t0_0 t0_1 t0_2 t0_3 t0_4 t0_5 t0_6 t0_7 t0_8 t0_9 t0_10 t0_11 t0_12 t0_13 t0_14 t0_15 t0_16 t0_17 t0_18 t0_19 t0_20 t0_21 t1_0 t2_0 t3_0 t4_0) ∧ Q_VR_num t0_17 (F_VR_numeric x2 t0_0 t0_1 t0_2 t0_3 t0_4 t0_5 t0_6 t0_7 t0_8 t0_9 t0_10 t0_11 t0_12 t0_13 t0_14 t0_15 t0_16 t0_17 t0_18 t0_19 t0_20 t0_21 t1_0 t2_0 t3_0 t4_0) := by
  have e0 : (0 : Int32).toInt = 0 := rfl
  have e1 : (1 : Int32).toInt = 1 := rfl
  have eL0 : (0 : Int64).toInt = 0 := rfl
  have em : (-1 : Int32).toInt = -1 := rfl
  unfold S_VR_numeric F_VR_numeric
  refine v_cons (by first | omega | decide) ?_
  refine v_cons (by first | omega | decide) ?_
  by_cases g1 : x2 = (111 : Int32)
  ·
    rw [if_pos g1, if_pos g1]
    unfold S_VR_numeric_J36 F_VR_numeric_J36
    unfold S_VR_numeric_J37 F_VR_numeric_J37
    have g2 : ((0 : Int32) = (0 : Int32)) := (by decide)
    rw [if_pos g2, if_pos g2]
    unfold S_VR_numeric_J54 F_VR_numeric_J54
    exact T_VR_num55 hZ h14 h12 hL
  ·
    rw [if_neg g1, if_neg g1]
    by_cases g3 : x2 = (120 : Int32)
    ·
      rw [if_pos g3, if_pos g3]
      unfold S_VR_numeric_J36 F_VR_numeric_J36
      unfold S_VR_numeric_J37 F_VR_numeric_J37
      have g4 : ((0 : Int32) = (0 : Int32)) := (by decide)
      rw [if_pos g4, if_pos g4]
      unfold S_VR_numeric_J54 F_VR_numeric_J54
      exact T_VR_num55 hZ h14 h12 hL
    ·
      rw [if_neg g3, if_neg g3]
      unfold S_VR_numeric_J37 F_VR_numeric_J37
      have g5 : ¬ ((1 : Int32) = (0 : Int32)) := (by decide)
      rw [if_neg g5, if_neg g5]
      by_cases g6 : (0 : Int32) ≤ (lg_cmp (t2_0 t0_14.toNatClampNeg : Int64) 0 : Int32)
      ·
        rw [if_pos g6, if_pos g6]
        have g6l := g_lc5 g6
        unfold S_VR_numeric_J54 F_VR_numeric_J54
        exact T_VR_num55 hZ h14 h12 hL
      ·
        rw [if_neg g6, if_neg g6]
        have g6l := g_lc6 g6
        exact T_VR_num55 hZ h14 h12 hL
def Q_VR_str (t0_17 : Int32) (p : Int32 × Int32 × Int32 × Int32 × (Nat → Int32) × (Nat → Int32)) : Prop := t0_17.toInt ≤ p.2.1.toInt ∧ p.2.1.toInt ≤ t0_17.toInt + 300
theorem vr_z8 {t : Nat → Int32} {a : Int32} (hZ : ∀ i, i < 9 → 0 ≤ (t i).toInt ∧ (t i).toInt ≤ 64) (ha : 0 ≤ a.toInt ∧ a.toInt ≤ 8) : 0 ≤ (t a.toNatClampNeg).toInt ∧ (t a.toNatClampNeg).toInt ≤ 64 := by
  have e := q_clI (i := a) rfl ha.1
  exact hZ _ (by omega)
theorem vr_64 {a b : Int32} (ha : 0 ≤ a.toInt ∧ a.toInt ≤ 8) (hb : 0 ≤ b.toInt ∧ b.toInt < 64) : ((64 * a) + b : Int32).toInt = 64 * a.toInt + b.toInt := by
  have e : (64 * a : Int32).toInt = 64 * a.toInt := q_mulI (x := 64) (by decide) rfl (by omega) (by omega)
  exact q_addI e rfl (by omega) (by omega)
theorem vv_st {t0_0 : Int32} {t0_1 : Int32} {t0_2 : Int32} {t0_3 : Int32} {t0_4 : Int32} {t0_5 : Int32} {t0_6 : Int32} {t0_7 : Int32} {t0_8 : Int32} {t0_9 : Int32} {t0_10 : Int32} {t0_11 : Int32} {t0_12 : Int32} {t0_13 : Int32} {t0_14 : Int32} {t0_15 : Int32} {t0_16 : Int32} {t0_17 : Int32} {t0_18 : Int32} {t0_19 : Int32} {t0_20 : Int32} {t0_21 : Int32} {t1_0 : (Nat → Int32)} {t2_0 : (Nat → Int32)} {t3_0 : (Nat → Int64)} {t4_0 : (Nat → Int32)} {t5_0 : (Nat → Int32)} {t6_0 : (Nat → Int32)} (hZ : ∀ i, i < 9 → 0 ≤ (t2_0 i).toInt ∧ (t2_0 i).toInt ≤ 64) (h14 : 0 ≤ t0_14.toInt ∧ t0_14.toInt ≤ 8) (hL : 0 ≤ t0_17.toInt ∧ t0_17.toInt ≤ 100) : ∀ (n : Nat) (lx258 : Int32) (lx259 : Int32) (lx260 : (Nat → Int32)), (0 ≤ lx258.toInt ∧ lx258.toInt ≤ 64) → (64 - lx258.toInt < (n : Int)) → (t0_17.toInt ≤ lx259.toInt ∧ lx259.toInt ≤ t0_17.toInt + lx258.toInt) → (S_VR_string_L89 t0_0 t0_1 t0_2 t0_3 t0_4 t0_5 t0_6 t0_7 t0_8 t0_9 t0_10 t0_11 t0_12 t0_13 t0_14 t0_15 t0_16 t0_17 t0_18 t0_19 t0_20 t0_21 t1_0 t2_0 t3_0 t4_0 t5_0 t6_0 n lx258 lx259 lx260) ∧ Q_VR_str t0_17 (F_VR_string_L89 t0_0 t0_1 t0_2 t0_3 t0_4 t0_5 t0_6 t0_7 t0_8 t0_9 t0_10 t0_11 t0_12 t0_13 t0_14 t0_15 t0_16 t0_17 t0_18 t0_19 t0_20 t0_21 t1_0 t2_0 t3_0 t4_0 t5_0 t6_0 n lx258 lx259 lx260) := by
  intro n
  induction n with
  | zero => intro lx258 lx259 lx260 h0 hm hs; exact absurd (show False by omega) id
  | succ n ih =>
    intro lx258 lx259 lx260 h0 hm hs
    have e0 : (0 : Int32).toInt = 0 := rfl
    have e1 : (1 : Int32).toInt = 1 := rfl
    have eL0 : (0 : Int64).toInt = 0 := rfl
    have em : (-1 : Int32).toInt = -1 := rfl
    have z8 := vr_z8 hZ h14
    rw [S_VR_string_L89.eq_2, F_VR_string_L89.eq_2]
    by_cases g1 : (t2_0 t0_14.toNatClampNeg : Int32) ≤ lx258
    ·
      rw [if_pos g1, if_pos g1]
      refine ⟨trivial, ?_⟩
      (unfold Q_VR_str; dsimp only; exact ⟨by omega, by omega⟩)
    ·
      rw [if_neg g1, if_neg g1]
      have q64 := vr_64 (b := lx258) h14 ⟨h0.1, by have := q_nleI g1; omega⟩
      have g1i := q_nleI g1
      refine v_cons (by first | omega | decide) ?_
      refine v_cons (by first | omega | decide) ?_
      have h2 := T_VR_put (x2 := (t4_0 ((64 * t0_14 : Int32) + lx258 : Int32).toNatClampNeg : Int32)) (t0_0 := t0_0) (t0_1 := t0_1) (t0_2 := t0_2) (t0_3 := t0_3) (t0_4 := t0_4) (t0_5 := t0_5) (t0_6 := t0_6) (t0_7 := t0_7) (t0_8 := t0_8) (t0_9 := t0_9) (t0_10 := t0_10) (t0_11 := t0_11) (t0_12 := t0_12) (t0_13 := t0_13) (t0_14 := t0_14) (t0_15 := t0_15) (t0_16 := t0_16) (t0_17 := lx259) (t0_18 := t0_18) (t0_19 := t0_19) (t0_20 := t0_20) (t0_21 := t0_21) (t1_0 := lx260) ⟨by first | omega | decide, by first | omega | decide⟩
      with_reducible refine v_owe h2.1 ?_
      replace h2 := h2.2
      generalize F_VR_put (t4_0 ((64 * t0_14 : Int32) + lx258 : Int32).toNatClampNeg : Int32) t0_0 t0_1 t0_2 t0_3 t0_4 t0_5 t0_6 t0_7 t0_8 t0_9 t0_10 t0_11 t0_12 t0_13 t0_14 t0_15 t0_16 lx259 t0_18 t0_19 t0_20 t0_21 lx260 = p305 at *
      unfold Q_VR_put at h2
      unfold S_VR_string_c117 F_VR_string_c117
      obtain ⟨a3, e4⟩ := q_nm (lx258 + 1 : Int32)
      rw [e4]
      have a3i : a3.toInt = lx258.toInt + 1 := by rw [← e4]; exact q_addI (x := lx258.toInt) (y := 1) rfl (by decide) (by omega) (by omega)
      exact ih _ _ _ ⟨by omega, by omega⟩ (by omega) ⟨by omega, by omega⟩
theorem vr_df {m d : Int32} (hm : 1 ≤ m.toInt ∧ m.toInt ≤ 24) (hd : -64 ≤ d.toInt ∧ d.toInt ≤ m.toInt) : (m - d : Int32).toInt = m.toInt - d.toInt := q_subI rfl rfl (by omega) (by omega)
theorem T_VR_st2 {t0_0 : Int32} {t0_1 : Int32} {t0_2 : Int32} {t0_3 : Int32} {t0_4 : Int32} {t0_5 : Int32} {t0_6 : Int32} {t0_7 : Int32} {t0_8 : Int32} {t0_9 : Int32} {t0_10 : Int32} {t0_11 : Int32} {t0_12 : Int32} {t0_13 : Int32} {t0_14 : Int32} {t0_15 : Int32} {t0_16 : Int32} {t0_17 : Int32} {t0_18 : Int32} {t0_19 : Int32} {t0_20 : Int32} {t0_21 : Int32} {t1_0 : (Nat → Int32)} {t2_0 : (Nat → Int32)} {t3_0 : (Nat → Int64)} {t4_0 : (Nat → Int32)} {t5_0 : (Nat → Int32)} {t6_0 : (Nat → Int32)} {lx133 : Int32} {lx134 : (Nat → Int32)} {p170 : (Int32 × Int32 × (Nat → Int32))} {y160 : Int32} {y161 : Int32} {f162 : (Nat → Int32)} {lx182 : Int32} (hL : 0 ≤ t0_17.toInt ∧ t0_17.toInt ≤ 100)(h9 : t0_17.toInt ≤ lx133.toInt ∧ lx133.toInt ≤ t0_17.toInt + 1) (hy : 1 ≤ y160.toInt ∧ y160.toInt ≤ 24) (hp : -64 ≤ lx182.toInt ∧ lx182.toInt ≤ y160.toInt) : (S_VR_string_J202 t0_0 t0_1 t0_2 t0_3 t0_4 t0_5 t0_6 t0_7 t0_8 t0_9 t0_10 t0_11 t0_12 t0_13 t0_14 t0_15 t0_16 t0_17 t0_18 t0_19 t0_20 t0_21 t1_0 t2_0 t3_0 t4_0 t5_0 t6_0 lx133 lx134 p170 y160 y161 f162 lx182) ∧ Q_VR_str t0_17 (F_VR_string_J202 t0_0 t0_1 t0_2 t0_3 t0_4 t0_5 t0_6 t0_7 t0_8 t0_9 t0_10 t0_11 t0_12 t0_13 t0_14 t0_15 t0_16 t0_17 t0_18 t0_19 t0_20 t0_21 t1_0 t2_0 t3_0 t4_0 t5_0 t6_0 lx133 lx134 p170 y160 y161 f162 lx182) := by
  have e0 : (0 : Int32).toInt = 0 := rfl
  have e1 : (1 : Int32).toInt = 1 := rfl
  have eL0 : (0 : Int64).toInt = 0 := rfl
  have em : (-1 : Int32).toInt = -1 := rfl
  unfold S_VR_string_J202 F_VR_string_J202
  obtain ⟨a1, e2⟩ := q_nm (y160 - lx182 : Int32)
  rw [e2]
  have a1i : a1.toInt = y160.toInt - lx182.toInt := by rw [← e2]; exact q_subI (x := y160.toInt) (y := lx182.toInt) rfl rfl (by omega) (by omega)
  have h3 := T_VR_plain (x2 := a1) (t0_0 := t0_0) (t0_1 := t0_1) (t0_2 := t0_2) (t0_3 := t0_3) (t0_4 := t0_4) (t0_5 := t0_5) (t0_6 := t0_6) (t0_7 := t0_7) (t0_8 := t0_8) (t0_9 := (t0_9 &&& (-19) : Int32)) (t0_10 := t0_10) (t0_11 := t0_11) (t0_12 := t0_12) (t0_13 := t0_13) (t0_14 := t0_14) (t0_15 := t0_15) (t0_16 := t0_16) (t0_17 := lx133) (t0_18 := t0_18) (t0_19 := t0_19) (t0_20 := y160) (t0_21 := lx182) (t1_0 := lx134) (t2_0 := f162) ⟨by omega, by omega⟩ ⟨by omega, by omega⟩ ⟨by omega, by omega⟩ ⟨by first | omega | decide, by first | omega | decide⟩
  with_reducible refine v_owe h3.1 ?_
  replace h3 := h3.2
  generalize F_VR_plain a1 t0_0 t0_1 t0_2 t0_3 t0_4 t0_5 t0_6 t0_7 t0_8 (t0_9 &&& (-19) : Int32) t0_10 t0_11 t0_12 t0_13 t0_14 t0_15 t0_16 lx133 t0_18 t0_19 y160 lx182 lx134 f162 = p213 at *
  unfold Q_VR_plain at h3
  unfold S_VR_string_c226 F_VR_string_c226
  refine ⟨trivial, ?_⟩
  (unfold Q_VR_str; dsimp only; exact ⟨by omega, by omega⟩)
theorem T_VR_st {t0_0 : Int32} {t0_1 : Int32} {t0_2 : Int32} {t0_3 : Int32} {t0_4 : Int32} {t0_5 : Int32} {t0_6 : Int32} {t0_7 : Int32} {t0_8 : Int32} {t0_9 : Int32} {t0_10 : Int32} {t0_11 : Int32} {t0_12 : Int32} {t0_13 : Int32} {t0_14 : Int32} {t0_15 : Int32} {t0_16 : Int32} {t0_17 : Int32} {t0_18 : Int32} {t0_19 : Int32} {t0_20 : Int32} {t0_21 : Int32} {t1_0 : (Nat → Int32)} {t2_0 : (Nat → Int32)} {t3_0 : (Nat → Int64)} {t4_0 : (Nat → Int32)} {t5_0 : (Nat → Int32)} {t6_0 : (Nat → Int32)} {lx133 : Int32} {lx134 : (Nat → Int32)} (hZ : ∀ i, i < 9 → 0 ≤ (t2_0 i).toInt ∧ (t2_0 i).toInt ≤ 64) (h14 : 0 ≤ t0_14.toInt ∧ t0_14.toInt ≤ 8) (hL : 0 ≤ t0_17.toInt ∧ t0_17.toInt ≤ 100)(h9 : t0_17.toInt ≤ lx133.toInt ∧ lx133.toInt ≤ t0_17.toInt + 1) : (S_VR_string_J149 t0_0 t0_1 t0_2 t0_3 t0_4 t0_5 t0_6 t0_7 t0_8 t0_9 t0_10 t0_11 t0_12 t0_13 t0_14 t0_15 t0_16 t0_17 t0_18 t0_19 t0_20 t0_21 t1_0 t2_0 t3_0 t4_0 t5_0 t6_0 lx133 lx134) ∧ Q_VR_str t0_17 (F_VR_string_J149 t0_0 t0_1 t0_2 t0_3 t0_4 t0_5 t0_6 t0_7 t0_8 t0_9 t0_10 t0_11 t0_12 t0_13 t0_14 t0_15 t0_16 t0_17 t0_18 t0_19 t0_20 t0_21 t1_0 t2_0 t3_0 t4_0 t5_0 t6_0 lx133 lx134) := by
  have e0 : (0 : Int32).toInt = 0 := rfl
  have e1 : (1 : Int32).toInt = 1 := rfl
  have eL0 : (0 : Int64).toInt = 0 := rfl
  have em : (-1 : Int32).toInt = -1 := rfl
  unfold S_VR_string_J149 F_VR_string_J149
  have h1 := T_VR_spread (x2 := ((F_VR_size64 (t3_0 t0_14.toNatClampNeg : Int64)) : Int64)) (x3 := (10 : Int32)) (t0_0 := t0_0) (t0_1 := t0_1) (t0_2 := t0_2) (t0_3 := t0_3) (t0_4 := t0_4) (t0_5 := t0_5) (t0_6 := t0_6) (t0_7 := t0_7) (t0_8 := t0_8) (t0_9 := t0_9) (t0_10 := t0_10) (t0_11 := t0_11) (t0_12 := t0_12) (t0_13 := t0_13) (t0_14 := t0_14) (t0_15 := t0_15) (t0_16 := t0_16) (t0_17 := lx133) (t0_18 := t0_18) (t0_19 := t0_19) (t0_20 := t0_20) (t0_21 := t0_21) (t1_0 := t6_0) (by first | decide | omega)
  with_reducible refine v_owe h1.1 ?_
  replace h1 := h1.2
  generalize F_VR_spread ((F_VR_size64 (t3_0 t0_14.toNatClampNeg : Int64)) : Int64) (10 : Int32) t0_0 t0_1 t0_2 t0_3 t0_4 t0_5 t0_6 t0_7 t0_8 t0_9 t0_10 t0_11 t0_12 t0_13 t0_14 t0_15 t0_16 lx133 t0_18 t0_19 t0_20 t0_21 t6_0 = p170 at *
  unfold Q_VR_spread at h1
  have h121 := congrArg Int32.toInt h1.2
  have s20 := h1.1
  unfold S_VR_string_c164 F_VR_string_c164
  by_cases g2 : (t1_0 t0_14.toNatClampNeg : Int32) = (5 : Int32)
  ·
    rw [if_pos g2, if_pos g2]
    have vp := vr_pt hZ h14 s20; exact T_VR_st2 hL h9 s20 ⟨by omega, by omega⟩
  ·
    rw [if_neg g2, if_neg g2]
    have vp := vr_pt hZ h14 s20; exact T_VR_st2 hL h9 s20 ⟨by omega, by omega⟩
theorem T_VR_st2_11 {t0_0 : Int32} {t0_1 : Int32} {t0_2 : Int32} {t0_3 : Int32} {t0_4 : Int32} {t0_5 : Int32} {t0_6 : Int32} {t0_7 : Int32} {t0_8 : Int32} {t0_9 : Int32} {t0_10 : Int32} {t0_11 : Int32} {t0_12 : Int32} {t0_13 : Int32} {t0_14 : Int32} {t0_15 : Int32} {t0_16 : Int32} {t0_17 : Int32} {t0_18 : Int32} {t0_19 : Int32} {t0_20 : Int32} {t0_21 : Int32} {t1_0 : (Nat → Int32)} {t2_0 : (Nat → Int32)} {t3_0 : (Nat → Int64)} {t4_0 : (Nat → Int32)} {t5_0 : (Nat → Int32)} {t6_0 : (Nat → Int32)} {lx323 : Int32} {lx324 : (Nat → Int32)} {p360 : (Int32 × Int32 × (Nat → Int32))} {y350 : Int32} {y351 : Int32} {f352 : (Nat → Int32)} {lx372 : Int32} (hL : 0 ≤ t0_17.toInt ∧ t0_17.toInt ≤ 100)(h9 : t0_17.toInt ≤ lx323.toInt ∧ lx323.toInt ≤ t0_17.toInt + 1) (hy : 1 ≤ y350.toInt ∧ y350.toInt ≤ 24) (hp : -64 ≤ lx372.toInt ∧ lx372.toInt ≤ y350.toInt) : (S_VR_string_J202_13 t0_0 t0_1 t0_2 t0_3 t0_4 t0_5 t0_6 t0_7 t0_8 t0_9 t0_10 t0_11 t0_12 t0_13 t0_14 t0_15 t0_16 t0_17 t0_18 t0_19 t0_20 t0_21 t1_0 t2_0 t3_0 t4_0 t5_0 t6_0 lx323 lx324 p360 y350 y351 f352 lx372) ∧ Q_VR_str t0_17 (F_VR_string_J202_13 t0_0 t0_1 t0_2 t0_3 t0_4 t0_5 t0_6 t0_7 t0_8 t0_9 t0_10 t0_11 t0_12 t0_13 t0_14 t0_15 t0_16 t0_17 t0_18 t0_19 t0_20 t0_21 t1_0 t2_0 t3_0 t4_0 t5_0 t6_0 lx323 lx324 p360 y350 y351 f352 lx372) := by
  have e0 : (0 : Int32).toInt = 0 := rfl
  have e1 : (1 : Int32).toInt = 1 := rfl
  have eL0 : (0 : Int64).toInt = 0 := rfl
  have em : (-1 : Int32).toInt = -1 := rfl
  unfold S_VR_string_J202_13 F_VR_string_J202_13
  obtain ⟨a1, e2⟩ := q_nm (y350 - lx372 : Int32)
  rw [e2]
  have a1i : a1.toInt = y350.toInt - lx372.toInt := by rw [← e2]; exact q_subI (x := y350.toInt) (y := lx372.toInt) rfl rfl (by omega) (by omega)
  have h3 := T_VR_plain (x2 := a1) (t0_0 := t0_0) (t0_1 := t0_1) (t0_2 := t0_2) (t0_3 := t0_3) (t0_4 := t0_4) (t0_5 := t0_5) (t0_6 := t0_6) (t0_7 := t0_7) (t0_8 := t0_8) (t0_9 := (t0_9 &&& (-19) : Int32)) (t0_10 := t0_10) (t0_11 := t0_11) (t0_12 := t0_12) (t0_13 := t0_13) (t0_14 := t0_14) (t0_15 := t0_15) (t0_16 := t0_16) (t0_17 := lx323) (t0_18 := t0_18) (t0_19 := t0_19) (t0_20 := y350) (t0_21 := lx372) (t1_0 := lx324) (t2_0 := f352) ⟨by omega, by omega⟩ ⟨by omega, by omega⟩ ⟨by omega, by omega⟩ ⟨by first | omega | decide, by first | omega | decide⟩
  with_reducible refine v_owe h3.1 ?_
  replace h3 := h3.2
  generalize F_VR_plain a1 t0_0 t0_1 t0_2 t0_3 t0_4 t0_5 t0_6 t0_7 t0_8 (t0_9 &&& (-19) : Int32) t0_10 t0_11 t0_12 t0_13 t0_14 t0_15 t0_16 lx323 t0_18 t0_19 y350 lx372 lx324 f352 = p403 at *
  unfold Q_VR_plain at h3
  unfold S_VR_string_c226_14 F_VR_string_c226_14
  refine ⟨trivial, ?_⟩
  (unfold Q_VR_str; dsimp only; exact ⟨by omega, by omega⟩)
theorem T_VR_st_11 {t0_0 : Int32} {t0_1 : Int32} {t0_2 : Int32} {t0_3 : Int32} {t0_4 : Int32} {t0_5 : Int32} {t0_6 : Int32} {t0_7 : Int32} {t0_8 : Int32} {t0_9 : Int32} {t0_10 : Int32} {t0_11 : Int32} {t0_12 : Int32} {t0_13 : Int32} {t0_14 : Int32} {t0_15 : Int32} {t0_16 : Int32} {t0_17 : Int32} {t0_18 : Int32} {t0_19 : Int32} {t0_20 : Int32} {t0_21 : Int32} {t1_0 : (Nat → Int32)} {t2_0 : (Nat → Int32)} {t3_0 : (Nat → Int64)} {t4_0 : (Nat → Int32)} {t5_0 : (Nat → Int32)} {t6_0 : (Nat → Int32)} {lx323 : Int32} {lx324 : (Nat → Int32)} (hZ : ∀ i, i < 9 → 0 ≤ (t2_0 i).toInt ∧ (t2_0 i).toInt ≤ 64) (h14 : 0 ≤ t0_14.toInt ∧ t0_14.toInt ≤ 8) (hL : 0 ≤ t0_17.toInt ∧ t0_17.toInt ≤ 100)(h9 : t0_17.toInt ≤ lx323.toInt ∧ lx323.toInt ≤ t0_17.toInt + 1) : (S_VR_string_J149_11 t0_0 t0_1 t0_2 t0_3 t0_4 t0_5 t0_6 t0_7 t0_8 t0_9 t0_10 t0_11 t0_12 t0_13 t0_14 t0_15 t0_16 t0_17 t0_18 t0_19 t0_20 t0_21 t1_0 t2_0 t3_0 t4_0 t5_0 t6_0 lx323 lx324) ∧ Q_VR_str t0_17 (F_VR_string_J149_11 t0_0 t0_1 t0_2 t0_3 t0_4 t0_5 t0_6 t0_7 t0_8 t0_9 t0_10 t0_11 t0_12 t0_13 t0_14 t0_15 t0_16 t0_17 t0_18 t0_19 t0_20 t0_21 t1_0 t2_0 t3_0 t4_0 t5_0 t6_0 lx323 lx324) := by
  have e0 : (0 : Int32).toInt = 0 := rfl
  have e1 : (1 : Int32).toInt = 1 := rfl
  have eL0 : (0 : Int64).toInt = 0 := rfl
  have em : (-1 : Int32).toInt = -1 := rfl
  unfold S_VR_string_J149_11 F_VR_string_J149_11
  have h1 := T_VR_spread (x2 := ((F_VR_size64 (t3_0 t0_14.toNatClampNeg : Int64)) : Int64)) (x3 := (10 : Int32)) (t0_0 := t0_0) (t0_1 := t0_1) (t0_2 := t0_2) (t0_3 := t0_3) (t0_4 := t0_4) (t0_5 := t0_5) (t0_6 := t0_6) (t0_7 := t0_7) (t0_8 := t0_8) (t0_9 := t0_9) (t0_10 := t0_10) (t0_11 := t0_11) (t0_12 := t0_12) (t0_13 := t0_13) (t0_14 := t0_14) (t0_15 := t0_15) (t0_16 := t0_16) (t0_17 := lx323) (t0_18 := t0_18) (t0_19 := t0_19) (t0_20 := t0_20) (t0_21 := t0_21) (t1_0 := t6_0) (by first | decide | omega)
  with_reducible refine v_owe h1.1 ?_
  replace h1 := h1.2
  generalize F_VR_spread ((F_VR_size64 (t3_0 t0_14.toNatClampNeg : Int64)) : Int64) (10 : Int32) t0_0 t0_1 t0_2 t0_3 t0_4 t0_5 t0_6 t0_7 t0_8 t0_9 t0_10 t0_11 t0_12 t0_13 t0_14 t0_15 t0_16 lx323 t0_18 t0_19 t0_20 t0_21 t6_0 = p360 at *
  unfold Q_VR_spread at h1
  have h121 := congrArg Int32.toInt h1.2
  have s20 := h1.1
  unfold S_VR_string_c164_12 F_VR_string_c164_12
  by_cases g2 : (t1_0 t0_14.toNatClampNeg : Int32) = (5 : Int32)
  ·
    rw [if_pos g2, if_pos g2]
    have vp := vr_pt hZ h14 s20; exact T_VR_st2_11 hL h9 s20 ⟨by omega, by omega⟩
  ·
    rw [if_neg g2, if_neg g2]
    have vp := vr_pt hZ h14 s20; exact T_VR_st2_11 hL h9 s20 ⟨by omega, by omega⟩
theorem T_VR_string {t0_0 : Int32} {t0_1 : Int32} {t0_2 : Int32} {t0_3 : Int32} {t0_4 : Int32} {t0_5 : Int32} {t0_6 : Int32} {t0_7 : Int32} {t0_8 : Int32} {t0_9 : Int32} {t0_10 : Int32} {t0_11 : Int32} {t0_12 : Int32} {t0_13 : Int32} {t0_14 : Int32} {t0_15 : Int32} {t0_16 : Int32} {t0_17 : Int32} {t0_18 : Int32} {t0_19 : Int32} {t0_20 : Int32} {t0_21 : Int32} {t1_0 : (Nat → Int32)} {t2_0 : (Nat → Int32)} {t3_0 : (Nat → Int64)} {t4_0 : (Nat → Int32)} {t5_0 : (Nat → Int32)} {t6_0 : (Nat → Int32)} (hZ : ∀ i, i < 9 → 0 ≤ (t2_0 i).toInt ∧ (t2_0 i).toInt ≤ 64) (h14 : 0 ≤ t0_14.toInt ∧ t0_14.toInt ≤ 8) (hL : 0 ≤ t0_17.toInt ∧ t0_17.toInt ≤ 100) : (S_VR_string t0_0 t0_1 t0_2 t0_3 t0_4 t0_5 t0_6 t0_7 t0_8 t0_9 t0_10 t0_11 t0_12 t0_13 t0_14 t0_15 t0_16 t0_17 t0_18 t0_19 t0_20 t0_21 t1_0 t2_0 t3_0 t4_0 t5_0 t6_0) ∧ Q_VR_str t0_17 (F_VR_string t0_0 t0_1 t0_2 t0_3 t0_4 t0_5 t0_6 t0_7 t0_8 t0_9 t0_10 t0_11 t0_12 t0_13 t0_14 t0_15 t0_16 t0_17 t0_18 t0_19 t0_20 t0_21 t1_0 t2_0 t3_0 t4_0 t5_0 t6_0) := by
  have e0 : (0 : Int32).toInt = 0 := rfl
  have e1 : (1 : Int32).toInt = 1 := rfl
  have eL0 : (0 : Int64).toInt = 0 := rfl
  have em : (-1 : Int32).toInt = -1 := rfl
  unfold S_VR_string F_VR_string
  refine v_cons (by first | omega | decide) ?_
  refine v_cons (by first | omega | decide) ?_
  by_cases g1 : (t1_0 t0_14.toNatClampNeg : Int32) = (1 : Int32)
  ·
    rw [if_pos g1, if_pos g1]
    by_cases g2 : (lg_cmp (t3_0 t0_14.toNatClampNeg : Int64) 1 : Int32) = (0 : Int32)
    ·
      rw [if_pos g2, if_pos g2]
      have h3 := T_VR_word (x2 := (1702195828 : Int64)) (t0_0 := t0_0) (t0_1 := t0_1) (t0_2 := t0_2) (t0_3 := t0_3) (t0_4 := t0_4) (t0_5 := t0_5) (t0_6 := t0_6) (t0_7 := t0_7) (t0_8 := t0_8) (t0_9 := t0_9) (t0_10 := t0_10) (t0_11 := t0_11) (t0_12 := t0_12) (t0_13 := t0_13) (t0_14 := t0_14) (t0_15 := t0_15) (t0_16 := t0_16) (t0_17 := t0_17) (t0_18 := t0_18) (t0_19 := t0_19) (t0_20 := t0_20) (t0_21 := t0_21) (t1_0 := t5_0) ⟨by first | omega | decide, by first | omega | decide⟩ (by decide)
      with_reducible refine v_owe h3.1 ?_
      replace h3 := h3.2
      generalize F_VR_word (1702195828 : Int64) t0_0 t0_1 t0_2 t0_3 t0_4 t0_5 t0_6 t0_7 t0_8 t0_9 t0_10 t0_11 t0_12 t0_13 t0_14 t0_15 t0_16 t0_17 t0_18 t0_19 t0_20 t0_21 t5_0 = p87 at *
      unfold Q_VR_word at h3
      unfold S_VR_string_c64_2 F_VR_string_c64_2
      refine ⟨trivial, ?_⟩
      (unfold Q_VR_str; dsimp only; exact ⟨by omega, by omega⟩)
    ·
      rw [if_neg g2, if_neg g2]
      have h4 := T_VR_word (x2 := (435728179558 : Int64)) (t0_0 := t0_0) (t0_1 := t0_1) (t0_2 := t0_2) (t0_3 := t0_3) (t0_4 := t0_4) (t0_5 := t0_5) (t0_6 := t0_6) (t0_7 := t0_7) (t0_8 := t0_8) (t0_9 := t0_9) (t0_10 := t0_10) (t0_11 := t0_11) (t0_12 := t0_12) (t0_13 := t0_13) (t0_14 := t0_14) (t0_15 := t0_15) (t0_16 := t0_16) (t0_17 := t0_17) (t0_18 := t0_18) (t0_19 := t0_19) (t0_20 := t0_20) (t0_21 := t0_21) (t1_0 := t5_0) ⟨by first | omega | decide, by first | omega | decide⟩ (by decide)
      with_reducible refine v_owe h4.1 ?_
      replace h4 := h4.2
      generalize F_VR_word (435728179558 : Int64) t0_0 t0_1 t0_2 t0_3 t0_4 t0_5 t0_6 t0_7 t0_8 t0_9 t0_10 t0_11 t0_12 t0_13 t0_14 t0_15 t0_16 t0_17 t0_18 t0_19 t0_20 t0_21 t5_0 = p68 at *
      unfold Q_VR_word at h4
      unfold S_VR_string_c64 F_VR_string_c64
      refine ⟨trivial, ?_⟩
      (unfold Q_VR_str; dsimp only; exact ⟨by omega, by omega⟩)
  ·
    rw [if_neg g1, if_neg g1]
    by_cases g5 : (t1_0 t0_14.toNatClampNeg : Int32) = (2 : Int32)
    ·
      rw [if_pos g5, if_pos g5]
      have h6 := T_VR_put (x2 := ((t3_0 t0_14.toNatClampNeg : Int64).toInt32 : Int32)) (t0_0 := t0_0) (t0_1 := t0_1) (t0_2 := t0_2) (t0_3 := t0_3) (t0_4 := t0_4) (t0_5 := t0_5) (t0_6 := t0_6) (t0_7 := t0_7) (t0_8 := t0_8) (t0_9 := t0_9) (t0_10 := t0_10) (t0_11 := t0_11) (t0_12 := t0_12) (t0_13 := t0_13) (t0_14 := t0_14) (t0_15 := t0_15) (t0_16 := t0_16) (t0_17 := t0_17) (t0_18 := t0_18) (t0_19 := t0_19) (t0_20 := t0_20) (t0_21 := t0_21) (t1_0 := t5_0) ⟨by first | omega | decide, by first | omega | decide⟩
      with_reducible refine v_owe h6.1 ?_
      replace h6 := h6.2
      generalize F_VR_put ((t3_0 t0_14.toNatClampNeg : Int64).toInt32 : Int32) t0_0 t0_1 t0_2 t0_3 t0_4 t0_5 t0_6 t0_7 t0_8 t0_9 t0_10 t0_11 t0_12 t0_13 t0_14 t0_15 t0_16 t0_17 t0_18 t0_19 t0_20 t0_21 t5_0 = p116 at *
      unfold Q_VR_put at h6
      unfold S_VR_string_c81 F_VR_string_c81
      refine ⟨trivial, ?_⟩
      (unfold Q_VR_str; dsimp only; exact ⟨by omega, by omega⟩)
    ·
      rw [if_neg g5, if_neg g5]
      by_cases g7 : (t1_0 t0_14.toNatClampNeg : Int32) = (3 : Int32)
      ·
        rw [if_pos g7, if_pos g7]
        by_cases g8 : (0 : Int32) ≤ (lg_cmp (t3_0 t0_14.toNatClampNeg : Int64) 0 : Int32)
        ·
          rw [if_pos g8, if_pos g8]
          exact T_VR_st hZ h14 hL ⟨by omega, by omega⟩
        ·
          rw [if_neg g8, if_neg g8]
          have h9 := T_VR_put (x2 := (45 : Int32)) (t0_0 := t0_0) (t0_1 := t0_1) (t0_2 := t0_2) (t0_3 := t0_3) (t0_4 := t0_4) (t0_5 := t0_5) (t0_6 := t0_6) (t0_7 := t0_7) (t0_8 := t0_8) (t0_9 := t0_9) (t0_10 := t0_10) (t0_11 := t0_11) (t0_12 := t0_12) (t0_13 := t0_13) (t0_14 := t0_14) (t0_15 := t0_15) (t0_16 := t0_16) (t0_17 := t0_17) (t0_18 := t0_18) (t0_19 := t0_19) (t0_20 := t0_20) (t0_21 := t0_21) (t1_0 := t5_0) ⟨by first | omega | decide, by first | omega | decide⟩
          with_reducible refine v_owe h9.1 ?_
          replace h9 := h9.2
          generalize F_VR_put (45 : Int32) t0_0 t0_1 t0_2 t0_3 t0_4 t0_5 t0_6 t0_7 t0_8 t0_9 t0_10 t0_11 t0_12 t0_13 t0_14 t0_15 t0_16 t0_17 t0_18 t0_19 t0_20 t0_21 t5_0 = p245 at *
          unfold Q_VR_put at h9
          unfold S_VR_string_c146 F_VR_string_c146
          exact T_VR_st hZ h14 hL ⟨by omega, by omega⟩
      ·
        rw [if_neg g7, if_neg g7]
        by_cases g10 : (t1_0 t0_14.toNatClampNeg : Int32) = (4 : Int32)
        ·
          rw [if_pos g10, if_pos g10]
          exact vv_st hZ h14 hL _ _ _ _ (by decide) (by decide) ⟨by omega, by omega⟩
        ·
          rw [if_neg g10, if_neg g10]
          by_cases g11 : (0 : Int32) ≤ (lg_cmp (t3_0 t0_14.toNatClampNeg : Int64) 0 : Int32)
          ·
            rw [if_pos g11, if_pos g11]
            exact T_VR_st_11 hZ h14 hL ⟨by omega, by omega⟩
          ·
            rw [if_neg g11, if_neg g11]
            have h12 := T_VR_put (x2 := (45 : Int32)) (t0_0 := t0_0) (t0_1 := t0_1) (t0_2 := t0_2) (t0_3 := t0_3) (t0_4 := t0_4) (t0_5 := t0_5) (t0_6 := t0_6) (t0_7 := t0_7) (t0_8 := t0_8) (t0_9 := t0_9) (t0_10 := t0_10) (t0_11 := t0_11) (t0_12 := t0_12) (t0_13 := t0_13) (t0_14 := t0_14) (t0_15 := t0_15) (t0_16 := t0_16) (t0_17 := t0_17) (t0_18 := t0_18) (t0_19 := t0_19) (t0_20 := t0_20) (t0_21 := t0_21) (t1_0 := t5_0) ⟨by first | omega | decide, by first | omega | decide⟩
            with_reducible refine v_owe h12.1 ?_
            replace h12 := h12.2
            generalize F_VR_put (45 : Int32) t0_0 t0_1 t0_2 t0_3 t0_4 t0_5 t0_6 t0_7 t0_8 t0_9 t0_10 t0_11 t0_12 t0_13 t0_14 t0_15 t0_16 t0_17 t0_18 t0_19 t0_20 t0_21 t5_0 = p435 at *
            unfold Q_VR_put at h12
            unfold S_VR_string_c146_15 F_VR_string_c146_15
            exact T_VR_st_11 hZ h14 hL ⟨by omega, by omega⟩
