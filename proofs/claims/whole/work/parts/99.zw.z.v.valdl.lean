/-! values, for whole: the reference's floats written in hexadecimal, whole -/
theorem V_hxK {x2 : Int64} {x3 : Int32} {t0_0 : Int32} {t0_1 : Int32} {t0_2 : Int32} {t0_3 : Int32} {t0_4 : Int64} {t0_5 : Int32} {t0_6 : Int32} {t0_7 : Int64} {t0_8 : Int32} {t0_9 : Int64} {t0_10 : Int32} {t1_0 : (Nat → Int32)} {lx24 : Int32} {p76 : (Int32 × Int32 × Int32 × Int32 × Int64 × Int32 × Int32 × Int64 × Int32 × Int64 × Int32)} {p144 : (Int32 × Int32 × Int32 × Int32 × Int64 × Int32 × Int32 × Int64 × Int32 × Int64 × Int32 × (Nat → Int32))} {p206 : (Int32 × Int32 × Int32 × Int32 × Int64 × Int32 × Int32 × Int64 × Int32 × Int64 × Int32 × (Nat → Int32))} {p268 : (Int32 × Int32 × Int32 × Int32 × Int64 × Int32 × Int32 × Int64 × Int32 × Int64 × Int32 × (Nat → Int32))} {y229 : Int32} {y230 : Int32} {y231 : Int32} {y232 : Int32} {y233 : Int64} {y234 : Int32} {y235 : Int32} {y236 : Int64} {y237 : Int32} {y238 : Int64} {y239 : Int32} {f240 : (Nat → Int32)} {lx287 : Int32} {p341 : (Int32 × Int32 × Int32 × Int32 × Int64 × Int32 × Int32 × Int64 × Int32 × Int64 × Int32 × (Nat → Int32))} {p403 : (Int32 × Int32 × Int32 × Int32 × Int64 × Int32 × Int32 × Int64 × Int32 × Int64 × Int32 × (Nat → Int32))} {y364 : Int32} {y365 : Int32} {y366 : Int32} {y367 : Int32} {y368 : Int64} {y369 : Int32} {y370 : Int32} {y371 : Int64} {y372 : Int32} {y373 : Int64} {y374 : Int32} {f375 : (Nat → Int32)} {lx422 : Int64} {lx431 : Int32} {N P G H : Nat} {q : Int} {l : List Nat} (hb : -1074 ≤ q ∧ q ≤ 2000 ∧ P ≤ 52) (hG : lx422.toInt = (G : Int)) (h4 : lx431.toInt = ((4 * H : Nat) : Int)) (hH : H ≤ 12) (h7 : y371.toInt = (N : Int)) (h5 : y369.toInt = (P : Int)) (h8 : y372.toInt = q) (hr : yRt y365 f375 l) (hl : l.length ≤ 10) : yRt (F_FR_hexadecimal_J120 x2 x3 t0_0 t0_1 t0_2 t0_3 t0_4 t0_5 t0_6 t0_7 t0_8 t0_9 t0_10 t1_0 lx24 p76 p144 p206 p268 y229 y230 y231 y232 y233 y234 y235 y236 y237 y238 y239 f240 lx287 p341 p403 y364 y365 y366 y367 y368 y369 y370 y371 y372 y373 y374 f375 lx422 lx431).1 (F_FR_hexadecimal_J120 x2 x3 t0_0 t0_1 t0_2 t0_3 t0_4 t0_5 t0_6 t0_7 t0_8 t0_9 t0_10 t1_0 lx24 p76 p144 p206 p268 y229 y230 y231 y232 y233 y234 y235 y236 y237 y238 y239 f240 lx287 p341 p403 y364 y365 y366 y367 y368 y369 y370 y371 y372 y373 y374 f375 lx422 lx431).2.2.2.2.2.2.2.2.2.2.2.2 (l ++ (yHd (yHg G H) :: yHq G H ++ ([112] ++ yPs (if N = 0 then 0 else q + P)))) := by
  have d := y_hxR hG h4 hH
  unfold F_FR_hexadecimal_J120
  have w := V_hxF (x2 := (lx422 >>> (lx431.toInt64 &&& 63)) &&& 15) (t0_0 := y364) (t0_1 := y365) (t0_2 := y366) (t0_3 := y367) (t0_4 := y368) (t0_5 := y369) (t0_6 := y370) (t0_7 := y371) (t0_8 := y372) (t0_9 := y373) (t0_10 := y374) d (yHg_l G H) hr (by omega)
  revert w
  generalize F_FR_hexadecimalFigure ((lx422 >>> (lx431.toInt64 &&& 63)) &&& 15) y364 y365 y366 y367 y368 y369 y370 y371 y372 y373 y374 f375 = p
  intro w
  obtain ⟨w1, w2, w3, w4⟩ := w
  have ln := w1.1
  rw [List.length_append, List.length_singleton] at ln
  unfold F_FR_hexadecimal_c132
  have r : l ++ (yHd (yHg G H) :: yHq G H ++ ([112] ++ yPs (if N = 0 then 0 else q + P))) = (l ++ [yHd (yHg G H)]) ++ (yHq G H ++ ([112] ++ yPs (if N = 0 then 0 else q + P))) := by
    rw [List.append_assoc]
    rfl
  rw [r]
  exact V_hxL hb hG ((1600 - p.2.1.toInt).toNat + 1) lx431 p.1 p.2.1 p.2.2.1 p.2.2.2.1 p.2.2.2.2.1 p.2.2.2.2.2.1 p.2.2.2.2.2.2.1 p.2.2.2.2.2.2.2.1 p.2.2.2.2.2.2.2.2.1 p.2.2.2.2.2.2.2.2.2.1 p.2.2.2.2.2.2.2.2.2.2.1 p.2.2.2.2.2.2.2.2.2.2.2 H _ h4 hH (by omega) (by rw [w3]; exact h7) (by rw [w2]; exact h5) (by rw [w4]; exact h8) w1 (by rw [List.length_append, List.length_singleton]; omega)
theorem V_hxC {x2 : Int64} {x3 : Int32} {t0_0 : Int32} {t0_1 : Int32} {t0_2 : Int32} {t0_3 : Int32} {t0_4 : Int64} {t0_5 : Int32} {t0_6 : Int32} {t0_7 : Int64} {t0_8 : Int32} {t0_9 : Int64} {t0_10 : Int32} {t1_0 : (Nat → Int32)} {lx24 : Int32} {p76 : (Int32 × Int32 × Int32 × Int32 × Int64 × Int32 × Int32 × Int64 × Int32 × Int64 × Int32)} {p144 : (Int32 × Int32 × Int32 × Int32 × Int64 × Int32 × Int32 × Int64 × Int32 × Int64 × Int32 × (Nat → Int32))} {p206 : (Int32 × Int32 × Int32 × Int32 × Int64 × Int32 × Int32 × Int64 × Int32 × Int64 × Int32 × (Nat → Int32))} {p268 : (Int32 × Int32 × Int32 × Int32 × Int64 × Int32 × Int32 × Int64 × Int32 × Int64 × Int32 × (Nat → Int32))} {y229 : Int32} {y230 : Int32} {y231 : Int32} {y232 : Int32} {y233 : Int64} {y234 : Int32} {y235 : Int32} {y236 : Int64} {y237 : Int32} {y238 : Int64} {y239 : Int32} {f240 : (Nat → Int32)} {lx287 : Int32} {p341 : (Int32 × Int32 × Int32 × Int32 × Int64 × Int32 × Int32 × Int64 × Int32 × Int64 × Int32 × (Nat → Int32))} {p403 : (Int32 × Int32 × Int32 × Int32 × Int64 × Int32 × Int32 × Int64 × Int32 × Int64 × Int32 × (Nat → Int32))} {N P T w : Nat} {q l0 : Int} {l : List Nat} (hk : yG x3 P T l0) (hb : -1074 ≤ q ∧ q ≤ 2000) (h4 : p403.2.2.2.2.1.toInt = ((yFx P w : Nat) : Int)) (h5 : p403.2.2.2.2.2.1.toInt = (P : Int)) (h7 : p403.2.2.2.2.2.2.2.1.toInt = (N : Int)) (h8 : p403.2.2.2.2.2.2.2.2.1.toInt = q) (hr : yRt p403.2.1 p403.2.2.2.2.2.2.2.2.2.2.2 l) (hl : l.length ≤ 10) : yRt (F_FR_hexadecimal_c85 x2 x3 t0_0 t0_1 t0_2 t0_3 t0_4 t0_5 t0_6 t0_7 t0_8 t0_9 t0_10 t1_0 lx24 p76 p144 p206 p268 y229 y230 y231 y232 y233 y234 y235 y236 y237 y238 y239 f240 lx287 p341 p403).1 (F_FR_hexadecimal_c85 x2 x3 t0_0 t0_1 t0_2 t0_3 t0_4 t0_5 t0_6 t0_7 t0_8 t0_9 t0_10 t1_0 lx24 p76 p144 p206 p268 y229 y230 y231 y232 y233 y234 y235 y236 y237 y238 y239 f240 lx287 p341 p403).2.2.2.2.2.2.2.2.2.2.2.2 (l ++ (yHd (yHg (yHG P w) (yHn P)) :: yHq (yHG P w) (yHn P) ++ ([112] ++ yPs (if N = 0 then 0 else q + P)))) := by
  have fl := yFx_lt (P := P) (u := w)
  unfold F_FR_hexadecimal_c85
  rcases hk with ⟨rfl, rfl, rfl, rfl⟩ | ⟨rfl, rfl, rfl, rfl⟩
  · rw [if_pos (rfl : (0 : Int32) = 0)]
    unfold F_FR_hexadecimal_J107
    rw [if_pos (rfl : (0 : Int32) = 0)]
    exact V_hxK (H := 12) (P := 52) (by omega) (by rw [h4]; unfold yHG; rw [if_pos (rfl : 52 = 52), Nat.pow_zero, Nat.mul_one]) rfl (by decide) h7 h5 h8 hr hl
  · rw [if_neg (by decide : ¬ (1 : Int32) = 0)]
    unfold F_FR_hexadecimal_J107
    rw [if_neg (by decide : ¬ (1 : Int32) = 0)]
    have p : (2 : Nat) ^ 23 = 8388608 := rfl
    have e2 : (2 : Int64).toInt = 2 := rfl
    have m := q_mulL e2 h4 (by omega) (by omega)
    exact V_hxK (H := 5) (P := 23) (by omega) (by rw [m]; unfold yHG; rw [if_neg (by decide : ¬ 23 = 52), Nat.pow_one]; omega) rfl (by decide) h7 h5 h8 hr hl
theorem V_hxB {x2 : Int64} {x3 : Int32} {t0_0 : Int32} {t0_1 : Int32} {t0_2 : Int32} {t0_3 : Int32} {t0_4 : Int64} {t0_5 : Int32} {t0_6 : Int32} {t0_7 : Int64} {t0_8 : Int32} {t0_9 : Int64} {t0_10 : Int32} {t1_0 : (Nat → Int32)} {lx24 : Int32} {p76 : (Int32 × Int32 × Int32 × Int32 × Int64 × Int32 × Int32 × Int64 × Int32 × Int64 × Int32)} {p144 : (Int32 × Int32 × Int32 × Int32 × Int64 × Int32 × Int32 × Int64 × Int32 × Int64 × Int32 × (Nat → Int32))} {P T w : Nat} {l0 : Int} {l : List Nat} (hk : yG x3 P T l0) (hf : yEx P T w ≠ T) (h3 : p144.2.2.2.1.toInt = ((yEx P T w : Nat) : Int)) (h4 : p144.2.2.2.2.1.toInt = ((yFx P w : Nat) : Int)) (h5 : p144.2.2.2.2.2.1.toInt = (P : Int)) (h7 : p144.2.2.2.2.2.2.2.1.toInt = ((yNx P T w : Nat) : Int)) (h8 : p144.2.2.2.2.2.2.2.2.1.toInt = yPx l0 (yEx P T w)) (hr : yRt p144.2.1 p144.2.2.2.2.2.2.2.2.2.2.2 l) (hl : l.length ≤ 1) : yRt (F_FR_hexadecimal_c49 x2 x3 t0_0 t0_1 t0_2 t0_3 t0_4 t0_5 t0_6 t0_7 t0_8 t0_9 t0_10 t1_0 lx24 p76 p144).1 (F_FR_hexadecimal_c49 x2 x3 t0_0 t0_1 t0_2 t0_3 t0_4 t0_5 t0_6 t0_7 t0_8 t0_9 t0_10 t1_0 lx24 p76 p144).2.2.2.2.2.2.2.2.2.2.2.2 (l ++ (if yNx P T w = 0 then yW25 else yHtx P T l0 w)) := by
  have e0 : (0 : Int32).toInt = 0 := rfl
  have pb := yPx_b hk hf
  have w1 := V_rt (x := 48) (v := 48) hr (by omega) rfl
  have w2 := V_rt (x := 120) (v := 120) w1 (by rw [List.length_append, List.length_singleton]; omega) rfl
  have t : (if yNx P T w = 0 then yW25 else yHtx P T l0 w) = [48, 120, if yEx P T w = 0 then 48 else 49, 46] ++ (yHd (yHg (yHG P w) (yHn P)) :: yHq (yHG P w) (yHn P) ++ ([112] ++ yPs (if yNx P T w = 0 then 0 else yPx l0 (yEx P T w) + P))) := by
    by_cases z : yNx P T w = 0
    · rw [if_pos z, if_pos z]
      have z2 : yEx P T w = 0 ∧ yFx P w = 0 := by
        unfold yNx at z
        by_cases g : yEx P T w = 0
        · rw [if_pos g] at z
          exact ⟨g, z⟩
        · rw [if_neg g] at z
          have : 0 < 2 ^ P := Nat.pow_pos (by decide)
          omega
      rw [if_pos z2.1]
      unfold yHG
      rw [z2.2, Nat.zero_mul]
      rcases hk with ⟨rfl, rfl, rfl, rfl⟩ | ⟨rfl, rfl, rfl, rfl⟩
      · decide +kernel
      · decide +kernel
    · rw [if_neg z, if_neg z]
      rfl
  rw [t, ← List.append_assoc]
  unfold F_FR_hexadecimal_c49 F_FR_add F_FR_hexadecimal_c55 F_FR_add F_FR_hexadecimal_c61
  by_cases c : p144.2.2.2.1 ≤ 0
  · have ci := q_leI c
    rw [if_pos c, if_pos (by omega : yEx P T w = 0)]
    have w3 := V_rt (x := 48) (v := 48) w2 (by rw [List.length_append, List.length_append, List.length_singleton, List.length_singleton]; omega) rfl
    have w4 := V_rt (x := 46) (v := 46) w3 (by simp only [List.length_append, List.length_singleton]; omega) rfl
    rw [List.append_assoc, List.append_assoc, List.append_assoc] at w4
    unfold F_FR_hexadecimal_J79 F_FR_add F_FR_hexadecimal_c79 F_FR_add
    exact V_hxC hk (by omega) h4 h5 h7 h8 w4 (by rw [List.length_append]; show _ + 4 ≤ _; omega)
  · have ci := q_nleI c
    rw [if_neg c, if_neg (by omega : ¬ yEx P T w = 0)]
    have w3 := V_rt (x := 49) (v := 49) w2 (by rw [List.length_append, List.length_append, List.length_singleton, List.length_singleton]; omega) rfl
    have w4 := V_rt (x := 46) (v := 46) w3 (by simp only [List.length_append, List.length_singleton]; omega) rfl
    rw [List.append_assoc, List.append_assoc, List.append_assoc] at w4
    unfold F_FR_hexadecimal_J79 F_FR_add F_FR_hexadecimal_c79 F_FR_add
    exact V_hxC hk (by omega) h4 h5 h7 h8 w4 (by rw [List.length_append]; show _ + 4 ≤ _; omega)
theorem V_FRhx {x2 : Int64} {x3 : Int32} {t0_0 : Int32} {t0_1 : Int32} {t0_2 : Int32} {t0_3 : Int32} {t0_4 : Int64} {t0_5 : Int32} {t0_6 : Int32} {t0_7 : Int64} {t0_8 : Int32} {t0_9 : Int64} {t0_10 : Int32} {t1_0 : (Nat → Int32)} {P T : Nat} {l0 : Int} (hk : yG x3 P T l0) (hb : yBit P T (yu x2)) : yRt (F_FR_hexadecimal x2 x3 t0_0 t0_1 t0_2 t0_3 t0_4 t0_5 t0_6 t0_7 t0_8 t0_9 t0_10 t1_0).1 (F_FR_hexadecimal x2 x3 t0_0 t0_1 t0_2 t0_3 t0_4 t0_5 t0_6 t0_7 t0_8 t0_9 t0_10 t1_0).2.2.2.2.2.2.2.2.2.2.2.2 (yHtxt P T l0 (yu x2)) := by
  unfold F_FR_hexadecimal
  rw [if_pos (y_notW hk hb)]
  unfold F_FR_hexadecimal_J14
  rw [if_pos (show (0 : Int32) ≤ 0 by decide)]
  have op := V_FR_open (x2 := x2) (x3 := x3) (t0_0 := 0) (t0_1 := t0_1) (t0_2 := t0_2) (t0_3 := t0_3) (t0_4 := t0_4) (t0_5 := t0_5) (t0_6 := t0_6) (t0_7 := t0_7) (t0_8 := t0_8) (t0_9 := t0_9) (t0_10 := t0_10) hk
  revert op
  generalize F_FR_open x2 x3 0 t0_1 t0_2 t0_3 t0_4 t0_5 t0_6 t0_7 t0_8 t0_9 t0_10 = p76
  intro op
  obtain ⟨o1, o2, o3, o4, o5, o6, o7, o8, o9, o10, o11⟩ := op
  have le := yEx_le (P := P) (T := T) (u := yu x2)
  have sg : yMin (¬ p76.2.2.1 = 0) = yMin (ySx P T (yu x2) = 1) := by
    refine yMin_c ?_
    rw [o3]
    by_cases s : ySx P T (yu x2) = 1
    · rw [if_pos s]
      exact ⟨fun _ => s, fun _ => by decide⟩
    · rw [if_neg s]
      exact ⟨fun q => absurd rfl q, fun q => absurd q s⟩
  unfold F_FR_hexadecimal_c29 yHtxt
  by_cases f : yEx P T (yu x2) = T
  · have fi : F_FR_isFinite p76.1 p76.2.1 p76.2.2.1 p76.2.2.2.1 p76.2.2.2.2.1 p76.2.2.2.2.2.1 p76.2.2.2.2.2.2.1 p76.2.2.2.2.2.2.2.1 p76.2.2.2.2.2.2.2.2.1 p76.2.2.2.2.2.2.2.2.2.1 p76.2.2.2.2.2.2.2.2.2.2 = 0 := by
      unfold F_FR_isFinite
      rw [if_pos (Int32.le_iff_toInt_le.mpr (by omega))]
    rw [if_pos fi, if_pos f]
    have nmx := V_FRname (t0_0 := p76.1) (t0_1 := p76.2.1) (t0_2 := p76.2.2.1) (t0_3 := p76.2.2.2.1) (t0_4 := p76.2.2.2.2.1) (t0_5 := p76.2.2.2.2.2.1) (t0_6 := p76.2.2.2.2.2.2.1) (t0_7 := p76.2.2.2.2.2.2.2.1) (t0_8 := p76.2.2.2.2.2.2.2.2.1) (t0_9 := p76.2.2.2.2.2.2.2.2.2.1) (t0_10 := p76.2.2.2.2.2.2.2.2.2.2) (t1_0 := t1_0) o5
    rw [sg] at nmx
    revert nmx
    generalize F_FR_name p76.1 p76.2.1 p76.2.2.1 p76.2.2.2.1 p76.2.2.2.2.1 p76.2.2.2.2.2.1 p76.2.2.2.2.2.2.1 p76.2.2.2.2.2.2.2.1 p76.2.2.2.2.2.2.2.2.1 p76.2.2.2.2.2.2.2.2.2.1 p76.2.2.2.2.2.2.2.2.2.2 t1_0 = p
    intro nmx
    unfold F_FR_hexadecimal_c40
    exact nmx
  · have fi : F_FR_isFinite p76.1 p76.2.1 p76.2.2.1 p76.2.2.2.1 p76.2.2.2.2.1 p76.2.2.2.2.2.1 p76.2.2.2.2.2.2.1 p76.2.2.2.2.2.2.2.1 p76.2.2.2.2.2.2.2.2.1 p76.2.2.2.2.2.2.2.2.2.1 p76.2.2.2.2.2.2.2.2.2.2 = 1 := by
      unfold F_FR_isFinite
      rw [if_neg (fun q => by have := q_leI q; omega)]
    rw [if_neg (by rw [fi]; decide), if_neg f]
    have bg := V_FRbeg (t0_0 := p76.1) (t0_1 := p76.2.1) (t0_2 := p76.2.2.1) (t0_3 := p76.2.2.2.1) (t0_4 := p76.2.2.2.2.1) (t0_5 := p76.2.2.2.2.2.1) (t0_6 := p76.2.2.2.2.2.2.1) (t0_7 := p76.2.2.2.2.2.2.2.1) (t0_8 := p76.2.2.2.2.2.2.2.2.1) (t0_9 := p76.2.2.2.2.2.2.2.2.2.1) (t0_10 := p76.2.2.2.2.2.2.2.2.2.2) (t1_0 := t1_0)
    rw [sg] at bg
    have ml := yMin_l (a := ySx P T (yu x2) = 1)
    revert bg
    generalize F_FR_begin p76.1 p76.2.1 p76.2.2.1 p76.2.2.2.1 p76.2.2.2.2.1 p76.2.2.2.2.2.1 p76.2.2.2.2.2.2.1 p76.2.2.2.2.2.2.2.1 p76.2.2.2.2.2.2.2.2.1 p76.2.2.2.2.2.2.2.2.2.1 p76.2.2.2.2.2.2.2.2.2.2 t1_0 = p144
    intro bg
    obtain ⟨g0, g1, g2, g3, g4, g5, g6, g7, g8, g9, g10⟩ := bg
    exact V_hxB hk f (by rw [g3]; exact o4) (by rw [g4]; exact o5) (by rw [g5]; exact o6) (by rw [g7]; exact o8) (by rw [g8]; exact o9) g0 ml
