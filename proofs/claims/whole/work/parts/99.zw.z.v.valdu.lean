/-! values, for whole: the reference's floats written to places, from the call on -/
theorem V_fx84 {x2 : Int64} {x3 : Int32} {x4 : Int32} {x5 : Int32} {t0_0 : Int32} {t0_1 : Int32} {t0_2 : Int32} {t0_3 : Int32} {t0_4 : Int64} {t0_5 : Int32} {t0_6 : Int32} {t0_7 : Int64} {t0_8 : Int32} {t0_9 : Int64} {t0_10 : Int32} {t1_0 : (Nat → Int32)} {t2_0 : (Nat → Int32)} {t3_0 : (Nat → Int32)} {t4_0 : (Nat → Int32)} {t5_0 : (Nat → Int32)} {lx29 : Int32} {p81 : (Int32 × Int32 × Int32 × Int32 × Int64 × Int32 × Int32 × Int64 × Int32 × Int64 × Int32)} {y47 : Int32} {y48 : Int32} {y49 : Int32} {y50 : Int32} {y51 : Int64} {y52 : Int32} {y53 : Int32} {y54 : Int64} {y55 : Int32} {y56 : Int64} {y57 : Int32} {lx106 : Int32} {p136 : ((Nat → Int32) × (Nat → Int32) × (Nat → Int32))} {V pl W e sg u c s : Nat} (hv : yRw p136.2.2 V) (hV : V < 10 ^ 1390) (hu : V = u * 10 ^ (1080 - s)) (hs0 : s ≤ 1074) (h4 : x4.toInt = (pl : Int)) (hpl : pl ≤ 1100) (hmd : 0 ≤ x5.toInt ∧ x5.toInt ≤ 3) (hs : yMin (¬ y49 = 0) = yMin (sg = 1)) (hW : W = yRk x5 u c ((c : Int) - s + pl)) (he : yDt W e) : (F_FR_fixed_c84 x2 x3 x4 x5 t0_0 t0_1 t0_2 t0_3 t0_4 t0_5 t0_6 t0_7 t0_8 t0_9 t0_10 t1_0 t2_0 t3_0 t4_0 t5_0 lx29 p81 y47 y48 y49 y50 y51 y52 y53 y54 y55 y56 y57 lx106 p136).2.1 = lx106 ∧ yRt (F_FR_fixed_c84 x2 x3 x4 x5 t0_0 t0_1 t0_2 t0_3 t0_4 t0_5 t0_6 t0_7 t0_8 t0_9 t0_10 t1_0 t2_0 t3_0 t4_0 t5_0 lx29 p81 y47 y48 y49 y50 y51 y52 y53 y54 y55 y56 y57 lx106 p136).1 (F_FR_fixed_c84 x2 x3 x4 x5 t0_0 t0_1 t0_2 t0_3 t0_4 t0_5 t0_6 t0_7 t0_8 t0_9 t0_10 t1_0 t2_0 t3_0 t4_0 t5_0 lx29 p81 y47 y48 y49 y50 y51 y52 y53 y54 y55 y56 y57 lx106 p136).2.2.2.2.2.2.2.2.2.2.2.2.2.2.2.2 (yMin (sg = 1) ++ yFix W pl e) := by
  have eB : (1080 : Int32).toInt = 1080 := rfl
  unfold F_FR_fixed_c84
  by_cases g : x4 ≤ 1080
  · rw [if_pos g]
    have g := q_leI g
    have gp : pl ≤ 1080 := by omega
    have k := q_subI eB h4 (by omega) (by omega)
    have w := y_YW1 (md := x5) (u := u) (c := c) (s := s) (pl := pl) (by omega) gp
    rw [← hu, ← hW] at w
    exact V_fxK (k := 1080 - pl) hv hV (by rw [k]; omega) (by omega) h4 hpl hmd hs he (Or.inl ⟨gp, by rw [w]⟩)
  · rw [if_neg g]
    have g := q_nleI g
    have gp : ¬ pl ≤ 1080 := by omega
    have w := y_YW2 (md := x5) (u := u) (c := c) (s := s) (pl := pl) (by omega) gp
    rw [← hu, ← hW] at w
    have z : (V / 10 ^ 0 + yOut x5 V 0) * 10 ^ 0 = V := by
      rw [yOut_d (Nat.mod_one V), Nat.pow_zero, Nat.div_one, Nat.mul_one, Nat.add_zero]
    exact V_fxK (k := 0) hv hV rfl (by omega) h4 hpl hmd hs he (Or.inr ⟨gp, by rw [z]; exact w.symm⟩)
theorem V_fx19 {x2 : Int64} {x3 : Int32} {x4 : Int32} {x5 : Int32} {t0_0 : Int32} {t0_1 : Int32} {t0_2 : Int32} {t0_3 : Int32} {t0_4 : Int64} {t0_5 : Int32} {t0_6 : Int32} {t0_7 : Int64} {t0_8 : Int32} {t0_9 : Int64} {t0_10 : Int32} {t1_0 : (Nat → Int32)} {t2_0 : (Nat → Int32)} {t3_0 : (Nat → Int32)} {t4_0 : (Nat → Int32)} {t5_0 : (Nat → Int32)} {lx29 : Int32} {P T pl u s c W e : Nat} {l0 : Int} (hk : yG x3 P T l0) (hb : yBit P T (yu x2)) (hf : yEx P T (yu x2) ≠ T) (h4 : x4.toInt = (pl : Int)) (hpl : pl ≤ 1100) (hmd : 0 ≤ x5.toInt ∧ x5.toInt ≤ 3) (hE : yEq (yNx P T (yu x2)) (yPx l0 (yEx P T (yu x2))) u s) (hs : s ≤ 1074) (hW : W = yRk x5 u c ((c : Int) - s + pl)) (he : yDt W e) (h29 : lx29 = x3) : (F_FR_fixed_J19 x2 x3 x4 x5 t0_0 t0_1 t0_2 t0_3 t0_4 t0_5 t0_6 t0_7 t0_8 t0_9 t0_10 t1_0 t2_0 t3_0 t4_0 t5_0 lx29).2.1 = 0 ∧ yRt (F_FR_fixed_J19 x2 x3 x4 x5 t0_0 t0_1 t0_2 t0_3 t0_4 t0_5 t0_6 t0_7 t0_8 t0_9 t0_10 t1_0 t2_0 t3_0 t4_0 t5_0 lx29).1 (F_FR_fixed_J19 x2 x3 x4 x5 t0_0 t0_1 t0_2 t0_3 t0_4 t0_5 t0_6 t0_7 t0_8 t0_9 t0_10 t1_0 t2_0 t3_0 t4_0 t5_0 lx29).2.2.2.2.2.2.2.2.2.2.2.2.2.2.2.2 (yMin (ySx P T (yu x2) = 1) ++ yFix W pl e) := by
  have e0 : (0 : Int32).toInt = 0 := rfl
  have e3 : (3 : Int32).toInt = 3 := rfl
  have eC : (1100 : Int32).toInt = 1100 := rfl
  obtain ⟨A, B, C, hF⟩ := yG_F hk
  have nl := yNx_lt hF (u := yu x2)
  have pb := yPx_b hk hf
  have le := yEx_le (P := P) (T := T) (u := yu x2)
  unfold F_FR_fixed_J19
  rw [h29]
  have op := V_FR_open (x2 := x2) (x3 := x3) (t0_0 := t0_0) (t0_1 := t0_1) (t0_2 := t0_2) (t0_3 := t0_3) (t0_4 := t0_4) (t0_5 := t0_5) (t0_6 := t0_6) (t0_7 := t0_7) (t0_8 := t0_8) (t0_9 := t0_9) (t0_10 := t0_10) hk
  revert op
  generalize F_FR_open x2 x3 t0_0 t0_1 t0_2 t0_3 t0_4 t0_5 t0_6 t0_7 t0_8 t0_9 t0_10 = p81
  intro op
  obtain ⟨o1, o2, o3, o4, o5, o6, o7, o8, o9, o10, o11⟩ := op
  have sg : yMin (¬ p81.2.2.1 = 0) = yMin (ySx P T (yu x2) = 1) := by
    refine yMin_c ?_
    rw [o3]
    by_cases s : ySx P T (yu x2) = 1
    · rw [if_pos s]
      exact ⟨fun _ => s, fun _ => by decide⟩
    · rw [if_neg s]
      exact ⟨fun q => absurd rfl q, fun q => absurd q s⟩
  have fi : F_FR_isFinite p81.1 p81.2.1 p81.2.2.1 p81.2.2.2.1 p81.2.2.2.2.1 p81.2.2.2.2.2.1 p81.2.2.2.2.2.2.1 p81.2.2.2.2.2.2.2.1 p81.2.2.2.2.2.2.2.2.1 p81.2.2.2.2.2.2.2.2.2.1 p81.2.2.2.2.2.2.2.2.2.2 = 1 := by
    unfold F_FR_isFinite
    rw [if_neg (fun q => by have := q_leI q; omega)]
  unfold F_FR_fixed_c19
  rw [if_pos (y_notW hk hb), if_neg (fun q => by have := q_ltI q; omega : ¬ x4 < 0), if_neg (fun q => by have := q_ltI q; omega : ¬ 1100 < x4), if_neg (fun q => by have := q_ltI q; omega : ¬ x5 < 0), if_pos (Int32.le_iff_toInt_le.mpr (by omega) : x5 ≤ 3), if_neg (by rw [fi]; decide)]
  unfold F_FR_fixed_J71
  rw [if_pos (show (0 : Int32) ≤ 0 by decide)]
  obtain ⟨Z, hZ, hZ0⟩ := yZ_ex pb.1
  have sv := V_setV (t0_0 := 0) (t0_1 := p81.2.1) (t0_2 := p81.2.2.1) (t0_3 := p81.2.2.2.1) (t0_4 := p81.2.2.2.2.1) (t0_5 := p81.2.2.2.2.2.1) (t0_6 := p81.2.2.2.2.2.2.1) (t0_7 := p81.2.2.2.2.2.2.2.1) (t0_8 := p81.2.2.2.2.2.2.2.2.1) (t0_9 := p81.2.2.2.2.2.2.2.2.2.1) (t0_10 := p81.2.2.2.2.2.2.2.2.2.2) (t1_0 := t1_0) (t2_0 := t2_0) (t3_0 := t3_0) o8 nl.1 o9 pb hZ hZ0
  have ze := y_ZE hE (by omega) hZ
  have zb := y_Zb hZ pb.2 (n := 4 * yNx P T (yu x2)) (by omega)
  revert sv
  generalize F_FR_setValue 0 p81.2.1 p81.2.2.1 p81.2.2.2.1 p81.2.2.2.2.1 p81.2.2.2.2.2.1 p81.2.2.2.2.2.2.1 p81.2.2.2.2.2.2.2.1 p81.2.2.2.2.2.2.2.2.1 p81.2.2.2.2.2.2.2.2.2.1 p81.2.2.2.2.2.2.2.2.2.2 t1_0 t2_0 t3_0 = p136
  intro sv
  exact V_fx84 sv zb ze hs h4 hpl hmd sg hW he
theorem V_FRfx {x2 : Int64} {x3 : Int32} {x4 : Int32} {x5 : Int32} {t0_0 : Int32} {t0_1 : Int32} {t0_2 : Int32} {t0_3 : Int32} {t0_4 : Int64} {t0_5 : Int32} {t0_6 : Int32} {t0_7 : Int64} {t0_8 : Int32} {t0_9 : Int64} {t0_10 : Int32} {t1_0 : (Nat → Int32)} {t2_0 : (Nat → Int32)} {t3_0 : (Nat → Int32)} {t4_0 : (Nat → Int32)} {t5_0 : (Nat → Int32)} {P T pl u s c W e : Nat} {l0 : Int} (hk : yG x3 P T l0) (hb : yBit P T (yu x2)) (hf : yEx P T (yu x2) ≠ T) (h4 : x4.toInt = (pl : Int)) (hpl : pl ≤ 1100) (hmd : 0 ≤ x5.toInt ∧ x5.toInt ≤ 3) (hE : yEq (yNx P T (yu x2)) (yPx l0 (yEx P T (yu x2))) u s) (hs : s ≤ 1074) (hW : W = yRk x5 u c ((c : Int) - s + pl)) (he : yDt W e) : (F_FR_fixed x2 x3 x4 x5 t0_0 t0_1 t0_2 t0_3 t0_4 t0_5 t0_6 t0_7 t0_8 t0_9 t0_10 t1_0 t2_0 t3_0 t4_0 t5_0).2.1 = 0 ∧ yRt (F_FR_fixed x2 x3 x4 x5 t0_0 t0_1 t0_2 t0_3 t0_4 t0_5 t0_6 t0_7 t0_8 t0_9 t0_10 t1_0 t2_0 t3_0 t4_0 t5_0).1 (F_FR_fixed x2 x3 x4 x5 t0_0 t0_1 t0_2 t0_3 t0_4 t0_5 t0_6 t0_7 t0_8 t0_9 t0_10 t1_0 t2_0 t3_0 t4_0 t5_0).2.2.2.2.2.2.2.2.2.2.2.2.2.2.2.2 (yMin (ySx P T (yu x2) = 1) ++ yFix W pl e) := by
  unfold F_FR_fixed
  by_cases g : x3 = 0
  · rw [if_pos g]
    unfold F_FR_fixed_J18
    exact V_fx19 hk hb hf h4 hpl hmd hE hs hW he g.symm
  · rw [if_neg g, if_pos (y_notW hk hb)]
    have x1 : x3 = 1 := by
      rcases hk with ⟨q, _⟩ | ⟨q, _⟩
      · exact absurd q g
      · exact q
    exact V_fx19 hk hb hf h4 hpl hmd hE hs hW he x1.symm
