/-! values, for whole: the class's floats written: the shortest figures -/
theorem y_divN {N i : Nat} : N / 10 ^ i / 10 = N / 10 ^ (i + 1) := by
  rw [Nat.pow_succ, ← Nat.div_div_eq_div_mul]
theorem V_flL {x2 : Int64} {x3 : Int32} {t0_0 : Int32} {t0_1 : Int32} {t1_0 : (Nat → Int32)} {lx14 : Int64} {S : Nat} (hS : S < 1000000000000000000) (hx : -30000 ≤ x3.toInt ∧ x3.toInt ≤ 30000) : ∀ (n : Nat) (lx27 : Int32) (lx28 : Int64) (lx29 : Int32) (lx30 : (Nat → Int32)), ∀ (i : Nat), lx27.toInt = (i : Int) → i ≤ 20 → 20 < n + i → lx28.toInt = -((S / 10 ^ i : Nat) : Int) → lx29.toInt = (i : Int) → (∀ j, j < i → (lx30 j).toInt = ((yLo S j : Nat) : Int)) → yDg (F_Dig_fillLong_L22 x2 x3 t0_0 t0_1 t1_0 lx14 n lx27 lx28 lx29 lx30).1 (F_Dig_fillLong_L22 x2 x3 t0_0 t0_1 t1_0 lx14 n lx27 lx28 lx29 lx30).2.2 S ∧ (∀ c, yDt S c → (F_Dig_fillLong_L22 x2 x3 t0_0 t0_1 t1_0 lx14 n lx27 lx28 lx29 lx30).2.1.toInt = (if c = 0 then 0 else (c : Int) - 1 - x3.toInt)) := by
  have e1 : (1 : Int32).toInt = 1 := rfl
  have e20 : (20 : Int32).toInt = 20 := rfl
  have e0L : (0 : Int64).toInt = 0 := rfl
  intro n
  induction n with
  | zero =>
    intro lx27 lx28 lx29 lx30 i g1 g2 g3
    omega
  | succ n ih =>
    intro lx27 lx28 lx29 lx30 i g1 g2 g3 g4 g5 g6
    rw [F_Dig_fillLong_L22.eq_2]
    by_cases c : (20 : Int32) ≤ lx27
    · rw [if_pos c]
      have c := q_leI c
      obtain rfl : i = 20 := by clear g4; omega
      have t := V_turnP (x2 := x3) (t0_0 := lx29) (t0_1 := t0_1) (t1_0 := lx30) (N := S) (m := 20) (by decide) hx g5 g6 (Nat.lt_of_lt_of_le hS (by decide))
      revert t
      generalize F_Dig_turn_p x3 lx29 t0_1 lx30 = p
      intro t
      unfold F_Dig_fillLong_c80
      exact t
    · rw [if_neg c]
      have c := q_nleI c
      by_cases z : lg_cmp lx28 0 = 0
      · rw [if_pos z]
        have z := g_lcz z
        rw [g4, e0L] at z
        have sz : S / 10 ^ i = 0 := by
          generalize S / 10 ^ i = y at z
          clear g4
          omega
        have t := V_turnP (x2 := x3) (t0_0 := lx29) (t0_1 := t0_1) (t1_0 := lx30) (N := S) (m := i) (by clear g4; omega) hx g5 g6 (y_lt10z sz)
        revert t
        generalize F_Dig_turn_p x3 lx29 t0_1 lx30 = p
        intro t
        unfold F_Dig_fillLong_c80_4
        exact t
      · rw [if_neg z]
        obtain ⟨u1, u2⟩ := u_l10 (x := lx28)
        have sb : S / 10 ^ i ≤ S := Nat.div_le_self _ _
        have r1 : (lx28 - lx28 / 10 * 10 : Int64).toInt = -((yLo S i : Nat) : Int) := by
          rw [u1, g4, Int.neg_tmod]
          unfold yLo
          rfl
        have d9 := yLo_9 S i
        have r2 : (-(lx28 - lx28 / 10 * 10) : Int64).toInt = ((yLo S i : Nat) : Int) := by
          rw [n_negL r1 (by clear g4; omega)]
          omega
        have r3 : ((-(lx28 - lx28 / 10 * 10) : Int64).toInt32).toInt = ((yLo S i : Nat) : Int) := by
          rw [s_l2i (by rw [r2]; clear g4; omega) (by rw [r2]; clear g4; omega), r2]
        have nr := (y_nar9 (y := (-(lx28 - lx28 / 10 * 10) : Int64).toInt32) (by rw [r3]; clear g4; omega)).1
        rw [nr]
        have ic : lx29.toNatClampNeg = i := by
          have := q_clI g5 (by clear g4; omega)
          clear g4
          omega
        rw [ic]
        refine ih (lx27 + 1) (lx28 / 10) (lx29 + 1) _ (i + 1) (q_addI g1 e1 (by clear g4; omega) (by clear g4; omega)) (by clear g4; omega) (by clear g4; omega) ?_ (q_addI g5 e1 (by clear g4; omega) (by clear g4; omega)) ?_
        · rw [u2, g4, Int.neg_tdiv, ← y_divN]
          rfl
        · intro j hj
          rw [yu_pt]
          by_cases q : j = i
          · rw [if_pos q, r3, q]
          · rw [if_neg q]
            exact g6 j (by omega)
theorem V_filLg {x2 : Int64} {x3 : Int32} {t0_0 : Int32} {t0_1 : Int32} {t1_0 : (Nat → Int32)} {S : Nat} (h2 : x2.toInt = (S : Int)) (hS : S < 1000000000000000000) (hx : -30000 ≤ x3.toInt ∧ x3.toInt ≤ 30000) : yDg (F_Dig_fillLong x2 x3 t0_0 t0_1 t1_0).1 (F_Dig_fillLong x2 x3 t0_0 t0_1 t1_0).2.2 S ∧ (∀ c, yDt S c → (F_Dig_fillLong x2 x3 t0_0 t0_1 t1_0).2.1.toInt = (if c = 0 then 0 else (c : Int) - 1 - x3.toInt)) := by
  have e0L : (0 : Int64).toInt = 0 := rfl
  unfold F_Dig_fillLong
  by_cases c : lg_cmp x2 0 ≤ 0
  · rw [if_pos c]
    have c := g_lc3 c
    unfold F_Dig_fillLong_J17
    exact V_flL hS hx ((20 - (0 : Int32).toInt).toNat + 1) 0 x2 0 t1_0 0 rfl (by omega) (by decide) (by rw [Nat.pow_zero, Nat.div_one]; omega) rfl (fun j hj => absurd hj (Nat.not_lt_zero _))
  · rw [if_neg c]
    have c := g_lc4 c
    unfold F_Dig_fillLong_J17
    exact V_flL hS hx ((20 - (0 : Int32).toInt).toNat + 1) 0 (-x2) 0 t1_0 0 rfl (by omega) (by decide) (by rw [Nat.pow_zero, Nat.div_one, n_negL h2 (by omega)]) rfl (fun j hj => absurd hj (Nat.not_lt_zero _))
/-- a power with its sign, if below 0 -/
def yPs (p : Int) : List Nat := (if p < 0 then [45] else []) ++ yDs (max (yCt5 p.natAbs) 1) p.natAbs
theorem V_wSig {x2 : Int32} {t0_0 : Int32} {t1_0 : (Nat → Int64)} {l : List Nat} (h : yPa t0_0 t1_0 l) (hl : l.length < 800000000) (h2 : -99999 ≤ x2.toInt ∧ x2.toInt ≤ 99999) : yPa (F_Wri_writeSigned x2 t0_0 t1_0).1 (F_Wri_writeSigned x2 t0_0 t1_0).2 (l ++ yPs x2.toInt) := by
  have e0 : (0 : Int32).toInt = 0 := rfl
  have ct := yCt5_t (n := x2.toInt.natAbs) (by omega)
  unfold F_Wri_writeSigned yPs
  by_cases g : (0 : Int32) ≤ x2
  · rw [if_pos g]
    have g := q_leI g
    have p3 := V_addP (N := 1376) (K := 1000000) (x3 := 1) (l0 := 1) rfl h (by omega) rfl (by omega) h2 ct
    revert p3
    generalize F_She_addPower_p 11008 1376 1000000 x2 1 t0_0 t1_0 = r
    intro p3
    unfold F_Wri_writeSigned_c19
    rw [if_neg (by omega)]
    exact p3
  · rw [if_neg g]
    have g := q_nleI g
    have p1 := V_paP (N := 1376) (K := 1000000) (x2 := 45) (v := 45) h (by omega) rfl (by decide)
    revert p1
    generalize F_She_add_p 11008 1376 1000000 45 t0_0 t1_0 = q
    intro p1
    unfold F_Wri_writeSigned_c10
    have p3 := V_addP (N := 1376) (K := 1000000) (x3 := 1) (l0 := 1) rfl p1 (by rw [List.length_append, List.length_singleton]; omega) rfl (by omega) h2 ct
    revert p3
    generalize F_She_addPower_p 11008 1376 1000000 x2 1 q.1 q.2 = r
    intro p3
    unfold F_Wri_writeSigned_c19_3
    rw [if_pos (by omega), ← List.append_assoc]
    exact p3
/-- the text of S times 10 ^ e, S of c figures -/
def yStx (S : Nat) (e : Int) (c : Nat) : List Nat := if -3 ≤ (c : Int) - 1 + e ∧ (c : Int) - 1 + e < 7 then yPlA S (-e) 0 ((if (c : Int) - 1 + e < 0 then 0 else (c : Int) - 1 + e).toNat + 1) ++ yTail S (-e) (max 1 (-e)).toNat 0 else yHead S c (max 2 c) 0 ++ [69] ++ yPs ((c : Int) - 1 + e)
theorem yHead_l {N c al : Nat} {ap : Int32} : (yHead N c al ap).length ≤ 2 + al := by
  unfold yHead
  rw [List.length_append, List.length_append, yDz_len, List.length_singleton]
  have : (if 1 < al ∨ ap ≠ 0 then [46] else ([] : List Nat)).length ≤ 1 := by
    split
    · exact Nat.le_refl _
    · exact Nat.zero_le _
  omega
theorem V_wShort {A : Int32} {B : Int32} {C : Int32} {x3 : Int64} {t0_0 : Int32} {t1_0 : (Nat → Int64)} {t2_0 : Int32} {t2_1 : Int32} {t3_0 : (Nat → Int32)} {t4_0 : Int32} {t4_1 : Int32} {t5_0 : (Nat → Int32)} {t6_0 : Int32} {t6_1 : Int32} {t7_0 : (Nat → Int32)} {t8_0 : Int32} {t8_1 : Int32} {t9_0 : (Nat → Int32)} {t10_0 : Int32} {t10_1 : Int32} {t11_0 : (Nat → Int32)} {t12_0 : Int32} {t12_1 : Int32} {t13_0 : (Nat → Int32)} {t14_0 : Int64} {t14_1 : Int32} {t14_2 : Int32} {P T : Nat} {l0 : Int} {S q c : Nat} {l : List Nat} (hF : yF A B C P T l0) (hf : yEx P T (yu x3) < T) (h0 : yNx P T (yu x3) ≠ 0) (hs : yFsh P T l0 (yu x3) S q) (hS : S < 1000000000000000000) (hq : q ≤ 3000) (hc : yDt S c) (hm : yPa t0_0 t1_0 l) (hl : l.length ≤ 1000) : yPa (F_Wri_writeShort A B C x3 t0_0 t1_0 t2_0 t2_1 t3_0 t4_0 t4_1 t5_0 t6_0 t6_1 t7_0 t8_0 t8_1 t9_0 t10_0 t10_1 t11_0 t12_0 t12_1 t13_0 t14_0 t14_1 t14_2).1 (F_Wri_writeShort A B C x3 t0_0 t1_0 t2_0 t2_1 t3_0 t4_0 t4_1 t5_0 t6_0 t6_1 t7_0 t8_0 t8_1 t9_0 t10_0 t10_1 t11_0 t12_0 t12_1 t13_0 t14_0 t14_1 t14_2).2.1 (l ++ yStx S ((q : Int) - 1080) c) := by
  have e1 : (1 : Int32).toInt = 1 := rfl
  have e2 : (2 : Int32).toInt = 2 := rfl
  have e7 : (7 : Int32).toInt = 7 := rfl
  have em3 : (-3 : Int32).toInt = -3 := rfl
  unfold F_Wri_writeShort
  obtain ⟨S', q', f1, f2, f3⟩ := V_find (A := A) (B := B) (C := C) (x2 := x3) (t0_0 := t14_0) (t0_1 := t14_1) (t0_2 := t14_2) (t1_0 := t4_0) (t1_1 := t4_1) (t2_0 := t5_0) (t3_0 := t6_0) (t3_1 := t6_1) (t4_0 := t7_0) (t5_0 := t8_0) (t5_1 := t8_1) (t6_0 := t9_0) (t7_0 := t10_0) (t7_1 := t10_1) (t8_0 := t11_0) (t9_0 := t12_0) (t9_1 := t12_1) (t10_0 := t13_0) hF hf h0
  obtain ⟨rfl, rfl⟩ := yFsh_U hs f1
  revert f2 f3
  generalize F_Flo_findShortest A B C x3 t14_0 t14_1 t14_2 t4_0 t4_1 t5_0 t6_0 t6_1 t7_0 t8_0 t8_1 t9_0 t10_0 t10_1 t11_0 t12_0 t12_1 t13_0 = p
  intro f2 f3
  unfold F_Wri_writeShort_c2
  have ng := q_negI f3 (by omega)
  have fl := V_filLg (x2 := p.1) (x3 := -p.2.1) (t0_0 := t2_0) (t0_1 := t2_1) (t1_0 := t3_0) f2 hS (by omega)
  revert fl
  generalize F_Dig_fillLong p.1 (-p.2.1) t2_0 t2_1 t3_0 = w
  intro fl
  obtain ⟨⟨d, d1, d2, d3, d4⟩, pw⟩ := fl
  have dc := yDt_U d3 hc
  subst dc
  have c0 : d ≠ 0 := by
    intro q0
    obtain ⟨Z, L, z1, z2, k, S0, z, z3, z4, z5, z6, z7⟩ := hs
    have : S = 0 := by
      have := d3.1
      rw [q0] at this
      unfold yLt10 at this
      rw [Nat.pow_zero] at this
      omega
    rw [this] at z6
    exact z6 rfl
  have pwd := pw d d3
  rw [if_neg c0, ng] at pwd
  have dg : yDgc w.1 w.2.2 S d := ⟨d1, d2, d3, d4⟩
  have d18 : d ≤ 18 := by
    rcases Nat.lt_or_ge 18 d with g | g
    · have := (y_ge10 (i := 18) d3).mpr g
      have e : (10 : Nat) ^ 18 = 1000000000000000000 := rfl
      rw [e] at this
      omega
    · exact g
  have pe : w.2.1.toInt = (d : Int) - 1 + ((q : Int) - 1080) := by omega
  unfold F_Wri_writeShort_c18 yStx
  have head : ∀ o, ¬ (-3 ≤ (d : Int) - 1 + ((q : Int) - 1080) ∧ (d : Int) - 1 + ((q : Int) - 1080) < 7) → o = F_Wri_writeShort_J68 A B C x3 t0_0 t1_0 t2_0 t2_1 t3_0 t4_0 t4_1 t5_0 t6_0 t6_1 t7_0 t8_0 t8_1 t9_0 t10_0 t10_1 t11_0 t12_0 t12_1 t13_0 t14_0 t14_1 t14_2 p p.2.2.2.1 p.2.2.2.2.1 p.2.2.2.2.2.1 p.2.2.2.2.2.2.1 p.2.2.2.2.2.2.2.1 p.2.2.2.2.2.2.2.2.1 p.2.2.2.2.2.2.2.2.2.1 p.2.2.2.2.2.2.2.2.2.2.1 p.2.2.2.2.2.2.2.2.2.2.2.1 p.2.2.2.2.2.2.2.2.2.2.2.2.1 p.2.2.2.2.2.2.2.2.2.2.2.2.2.1 p.2.2.2.2.2.2.2.2.2.2.2.2.2.2.1 p.2.2.2.2.2.2.2.2.2.2.2.2.2.2.2.1 p.2.2.2.2.2.2.2.2.2.2.2.2.2.2.2.2.1 p.2.2.2.2.2.2.2.2.2.2.2.2.2.2.2.2.2 p.1 p.2.1 p.2.2.1 w w.1 w.2.1 w.2.2 → yPa o.1 o.2.1 (l ++ (yHead S d (max 2 d) 0 ++ [69] ++ yPs ((d : Int) - 1 + ((q : Int) - 1080)))) := by
    intro o _ ho
    rw [ho]
    unfold F_Wri_writeShort_J68
    have mx : (if (2 : Int32) < w.1 then w.1 else 2).toInt = ((max 2 d : Nat) : Int) := by
      by_cases g : (2 : Int32) < w.1
      · rw [if_pos g]
        have := q_ltI g
        omega
      · rw [if_neg g]
        have := q_nltI g
        omega
    have hh := V_wHead (N := 1376) (K := 1000000) (x4 := 0) (t2_0 := t0_0) (t3_0 := t1_0) (R := 11008) (t0_1 := w.2.1) (x3 := if (2 : Int32) < w.1 then w.1 else 2) rfl dg mx (by omega) hm (by omega)
    have hlen := yHead_l (N := S) (c := d) (al := max 2 d) (ap := 0)
    revert hh
    generalize F_Dig_writeHead 11008 1376 1000000 (if (2 : Int32) < w.1 then w.1 else 2) 0 w.1 w.2.1 w.2.2 t0_0 t1_0 = y
    intro hh
    unfold F_Wri_writeShort_c88
    have pa := V_paP (N := 1376) (K := 1000000) (x2 := 69) (v := 69) hh (by rw [List.length_append]; omega) rfl (by decide)
    revert pa
    generalize F_She_add_p 11008 1376 1000000 69 y.1 y.2 = v
    intro pa
    unfold F_Wri_writeShort_c97
    have sg := V_wSig (x2 := w.2.1) pa (by rw [List.length_append, List.length_append, List.length_singleton]; omega) (by omega)
    rw [pe] at sg
    revert sg
    generalize F_Wri_writeSigned w.2.1 v.1 v.2 = u
    intro sg
    unfold F_Wri_writeShort_c108
    rw [← List.append_assoc, ← List.append_assoc]
    exact sg
  by_cases g1 : w.2.1 < -3
  · rw [if_pos g1]
    have g1 := q_ltI g1
    have nn : ¬ (-3 ≤ (d : Int) - 1 + ((q : Int) - 1080) ∧ (d : Int) - 1 + ((q : Int) - 1080) < 7) := by omega
    rw [if_neg nn]
    exact head _ nn rfl
  · rw [if_neg g1]
    have g1 := q_nltI g1
    by_cases g2 : (7 : Int32) ≤ w.2.1
    · rw [if_pos g2]
      have g2 := q_leI g2
      have nn : ¬ (-3 ≤ (d : Int) - 1 + ((q : Int) - 1080) ∧ (d : Int) - 1 + ((q : Int) - 1080) < 7) := by omega
      rw [if_neg nn]
      exact head _ nn rfl
    · rw [if_neg g2]
      have g2 := q_nleI g2
      rw [if_pos (show -3 ≤ (d : Int) - 1 + ((q : Int) - 1080) ∧ (d : Int) - 1 + ((q : Int) - 1080) < 7 by omega)]
      have mx : (if (1 : Int32) < -p.2.1 then -p.2.1 else 1).toInt = (((max 1 (-((q : Int) - 1080))).toNat : Nat) : Int) := by
        by_cases g : (1 : Int32) < -p.2.1
        · rw [if_pos g]
          have := q_ltI g
          omega
        · rw [if_neg g]
          have := q_nltI g
          omega
      have pl := V_wPlain (N := 1376) (K := 1000000) (x4 := 0) (x5 := 0) (t2_0 := t0_0) (t3_0 := t1_0) (R := 11008) (s := -((q : Int) - 1080)) (pl := (max 1 (-((q : Int) - 1080))).toNat) (x3 := if (1 : Int32) < -p.2.1 then -p.2.1 else 1) (t0_1 := w.2.1) rfl dg (fun _ => by omega) (by omega) mx (by omega) hm (by omega)
      rw [pe] at pl
      revert pl
      generalize F_Dig_writePlain 11008 1376 1000000 (if (1 : Int32) < -p.2.1 then -p.2.1 else 1) 0 0 w.1 w.2.1 w.2.2 t0_0 t1_0 = y
      intro pl
      unfold F_Wri_writeShort_c64
      rw [List.append_assoc] at pl
      exact pl
