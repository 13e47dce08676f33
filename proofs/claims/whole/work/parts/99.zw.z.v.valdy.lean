/-! values, for whole: the reference's floats written to figures, the call -/
theorem yEq_0 {n u s : Nat} {pw : Int} (h : yEq n pw u s) : n = 0 ↔ u = 0 := by
  obtain ⟨e, _⟩ := h
  have p1 : 0 < 2 ^ (-pw).toNat := Nat.pow_pos (by decide)
  have p2 : 0 < 2 ^ pw.toNat * 10 ^ s := Nat.mul_pos (Nat.pow_pos (by decide)) (Nat.pow_pos (by decide))
  rw [Nat.mul_assoc] at e
  constructor
  · intro q
    rw [q, Nat.zero_mul] at e
    rcases Nat.mul_eq_zero.mp e with k | k
    · exact k
    · omega
  · intro q
    rw [q, Nat.zero_mul] at e
    rcases Nat.mul_eq_zero.mp e.symm with k | k
    · exact k
    · omega
theorem V_sc19 {x2 : Int64} {x3 : Int32} {x4 : Int32} {x5 : Int32} {t0_0 : Int32} {t0_1 : Int32} {t0_2 : Int32} {t0_3 : Int32} {t0_4 : Int64} {t0_5 : Int32} {t0_6 : Int32} {t0_7 : Int64} {t0_8 : Int32} {t0_9 : Int64} {t0_10 : Int32} {t1_0 : (Nat → Int32)} {t2_0 : (Nat → Int32)} {t3_0 : (Nat → Int32)} {t4_0 : (Nat → Int32)} {t5_0 : (Nat → Int32)} {lx29 : Int32} {P T al u s c W d : Nat} {l0 : Int} (hk : yG x3 P T l0) (hb : yBit P T (yu x2)) (hf : yEx P T (yu x2) ≠ T) (h4 : x4.toInt = (al : Int)) (hal1 : 1 ≤ al) (hal : al ≤ 800) (hmd : 0 ≤ x5.toInt ∧ x5.toInt ≤ 3) (hE : yEq (yNx P T (yu x2)) (yPx l0 (yEx P T (yu x2))) u s) (hs : s ≤ 1074) (hu : yDt u c) (hW : W = yRk x5 u c (al : Int)) (hd : yDt W d) (h29 : lx29 = x3) : (F_FR_scientific_J19 x2 x3 x4 x5 t0_0 t0_1 t0_2 t0_3 t0_4 t0_5 t0_6 t0_7 t0_8 t0_9 t0_10 t1_0 t2_0 t3_0 t4_0 t5_0 lx29).2.1 = 0 ∧ yRt (F_FR_scientific_J19 x2 x3 x4 x5 t0_0 t0_1 t0_2 t0_3 t0_4 t0_5 t0_6 t0_7 t0_8 t0_9 t0_10 t1_0 t2_0 t3_0 t4_0 t5_0 lx29).1 (F_FR_scientific_J19 x2 x3 x4 x5 t0_0 t0_1 t0_2 t0_3 t0_4 t0_5 t0_6 t0_7 t0_8 t0_9 t0_10 t1_0 t2_0 t3_0 t4_0 t5_0 lx29).2.2.2.2.2.2.2.2.2.2.2.2.2.2.2.2 (yMin (ySx P T (yu x2) = 1) ++ ySct u s c W d al) := by
  have e0 : (0 : Int32).toInt = 0 := rfl
  have e1 : (1 : Int32).toInt = 1 := rfl
  have e3 : (3 : Int32).toInt = 3 := rfl
  have eC : (800 : Int32).toInt = 800 := rfl
  obtain ⟨A, B, C, hF⟩ := yG_F hk
  have nl := yNx_lt hF (u := yu x2)
  have pb := yPx_b hk hf
  have le := yEx_le (P := P) (T := T) (u := yu x2)
  unfold F_FR_scientific_J19
  rw [h29]
  have op := V_FR_open (x2 := x2) (x3 := x3) (t0_0 := t0_0) (t0_1 := t0_1) (t0_2 := t0_2) (t0_3 := t0_3) (t0_4 := t0_4) (t0_5 := t0_5) (t0_6 := t0_6) (t0_7 := t0_7) (t0_8 := t0_8) (t0_9 := t0_9) (t0_10 := t0_10) hk
  revert op
  generalize F_FR_open x2 x3 t0_0 t0_1 t0_2 t0_3 t0_4 t0_5 t0_6 t0_7 t0_8 t0_9 t0_10 = p81
  intro op
  obtain ⟨o1, o2, o3, o4, o5, o6, o7, o8, o9, o10, o11⟩ := op
  have sg : yMin (¬ p81.2.2.1 = 0) = yMin (ySx P T (yu x2) = 1) := by
    refine yMin_c ?_
    rw [o3]
    by_cases s : ySx P T (yu x2) = 1
    · rw [if_pos s]
      exact ⟨fun _ => s, fun _ => by decide⟩
    · rw [if_neg s]
      exact ⟨fun q => absurd rfl q, fun q => absurd q s⟩
  have fi : F_FR_isFinite p81.1 p81.2.1 p81.2.2.1 p81.2.2.2.1 p81.2.2.2.2.1 p81.2.2.2.2.2.1 p81.2.2.2.2.2.2.1 p81.2.2.2.2.2.2.2.1 p81.2.2.2.2.2.2.2.2.1 p81.2.2.2.2.2.2.2.2.2.1 p81.2.2.2.2.2.2.2.2.2.2 = 1 := by
    unfold F_FR_isFinite
    rw [if_neg (fun q => by have := q_leI q; omega)]
  unfold F_FR_scientific_c19
  rw [if_pos (y_notW hk hb), if_neg (fun q => by have := q_ltI q; omega : ¬ x4 < 1), if_neg (fun q => by have := q_ltI q; omega : ¬ 800 < x4), if_neg (fun q => by have := q_ltI q; omega : ¬ x5 < 0), if_pos (Int32.le_iff_toInt_le.mpr (by omega) : x5 ≤ 3), if_neg (by rw [fi]; decide)]
  unfold F_FR_scientific_J72
  rw [if_pos (show (0 : Int32) ≤ 0 by decide)]
  obtain ⟨Z, hZ, hZ0⟩ := yZ_ex pb.1
  have sv := V_setV (t0_0 := 0) (t0_1 := p81.2.1) (t0_2 := p81.2.2.1) (t0_3 := p81.2.2.2.1) (t0_4 := p81.2.2.2.2.1) (t0_5 := p81.2.2.2.2.2.1) (t0_6 := p81.2.2.2.2.2.2.1) (t0_7 := p81.2.2.2.2.2.2.2.1) (t0_8 := p81.2.2.2.2.2.2.2.2.1) (t0_9 := p81.2.2.2.2.2.2.2.2.2.1) (t0_10 := p81.2.2.2.2.2.2.2.2.2.2) (t1_0 := t1_0) (t2_0 := t2_0) (t3_0 := t3_0) o8 nl.1 o9 pb hZ hZ0
  have sq := (T_FR_setValue (t0_0 := 0) (t0_1 := p81.2.1) (t0_2 := p81.2.2.1) (t0_3 := p81.2.2.2.1) (t0_4 := p81.2.2.2.2.1) (t0_5 := p81.2.2.2.2.2.1) (t0_6 := p81.2.2.2.2.2.2.1) (t0_7 := p81.2.2.2.2.2.2.2.1) (t0_8 := p81.2.2.2.2.2.2.2.2.1) (t0_9 := p81.2.2.2.2.2.2.2.2.2.1) (t0_10 := p81.2.2.2.2.2.2.2.2.2.2) (t1_0 := t1_0) (t2_0 := t2_0) (t3_0 := t3_0) (by rw [o8]; omega) (by rw [o9]; exact pb)).2
  have ze := y_ZE hE (by omega) hZ
  have zb := y_Zb hZ pb.2 (n := 4 * yNx P T (yu x2)) (by omega)
  revert sv sq
  generalize F_FR_setValue 0 p81.2.1 p81.2.2.1 p81.2.2.2.1 p81.2.2.2.2.1 p81.2.2.2.2.2.1 p81.2.2.2.2.2.2.1 p81.2.2.2.2.2.2.2.1 p81.2.2.2.2.2.2.2.2.1 p81.2.2.2.2.2.2.2.2.2.1 p81.2.2.2.2.2.2.2.2.2.2 t1_0 t2_0 t3_0 = p136
  intro sv sq
  exact V_sc85 sv sq zb ze hs hu (yEq_0 hE) h4 hal1 hal hmd sg o8 hW hd
theorem V_FRsc {x2 : Int64} {x3 : Int32} {x4 : Int32} {x5 : Int32} {t0_0 : Int32} {t0_1 : Int32} {t0_2 : Int32} {t0_3 : Int32} {t0_4 : Int64} {t0_5 : Int32} {t0_6 : Int32} {t0_7 : Int64} {t0_8 : Int32} {t0_9 : Int64} {t0_10 : Int32} {t1_0 : (Nat → Int32)} {t2_0 : (Nat → Int32)} {t3_0 : (Nat → Int32)} {t4_0 : (Nat → Int32)} {t5_0 : (Nat → Int32)} {P T al u s c W d : Nat} {l0 : Int} (hk : yG x3 P T l0) (hb : yBit P T (yu x2)) (hf : yEx P T (yu x2) ≠ T) (h4 : x4.toInt = (al : Int)) (hal1 : 1 ≤ al) (hal : al ≤ 800) (hmd : 0 ≤ x5.toInt ∧ x5.toInt ≤ 3) (hE : yEq (yNx P T (yu x2)) (yPx l0 (yEx P T (yu x2))) u s) (hs : s ≤ 1074) (hu : yDt u c) (hW : W = yRk x5 u c (al : Int)) (hd : yDt W d) : (F_FR_scientific x2 x3 x4 x5 t0_0 t0_1 t0_2 t0_3 t0_4 t0_5 t0_6 t0_7 t0_8 t0_9 t0_10 t1_0 t2_0 t3_0 t4_0 t5_0).2.1 = 0 ∧ yRt (F_FR_scientific x2 x3 x4 x5 t0_0 t0_1 t0_2 t0_3 t0_4 t0_5 t0_6 t0_7 t0_8 t0_9 t0_10 t1_0 t2_0 t3_0 t4_0 t5_0).1 (F_FR_scientific x2 x3 x4 x5 t0_0 t0_1 t0_2 t0_3 t0_4 t0_5 t0_6 t0_7 t0_8 t0_9 t0_10 t1_0 t2_0 t3_0 t4_0 t5_0).2.2.2.2.2.2.2.2.2.2.2.2.2.2.2.2 (yMin (ySx P T (yu x2) = 1) ++ ySct u s c W d al) := by
  unfold F_FR_scientific
  by_cases g : x3 = 0
  · rw [if_pos g]
    unfold F_FR_scientific_J18
    exact V_sc19 hk hb hf h4 hal1 hal hmd hE hs hu hW hd g.symm
  · rw [if_neg g, if_pos (y_notW hk hb)]
    have x1 : x3 = 1 := by
      rcases hk with ⟨q, _⟩ | ⟨q, _⟩
      · exact absurd q g
      · exact q
    exact V_sc19 hk hb hf h4 hal1 hal hmd hE hs hu hW hd x1.symm
