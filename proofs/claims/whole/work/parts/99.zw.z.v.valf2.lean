/-! values, for whole: convert of the class, what it makes -/
def yFzt (P T : Nat) (l : Int) (u : Nat) : Nat := yNx P T u * 2 ^ (yPx l (yEx P T u)).toNat / 2 ^ (-(yPx l (yEx P T u))).toNat
def ySv (P T u : Nat) (m : Nat) : Int := if ySx P T u = 1 then -(m : Int) else (m : Int)
def yFW (P T : Nat) (l : Int) (u : Nat) : Option Int := if yEx P T u = T then none else some (ySv P T u (yFzt P T l u))
def yFD (P T : Nat) (l : Int) (u : Nat) (o : Option (Int × Int)) : Prop := (yEx P T u = T ∧ o = none) ∨ (yEx P T u ≠ T ∧ ∃ v s : Nat, yEq (yNx P T u) (yPx l (yEx P T u)) v s ∧ o = some (ySv P T u v, (s : Int)))
def yCvW (k : Int) (w : Int) (q : Int × Int) (wd nr : Nat) (o : Option Int) : Prop := (k = 0 ∧ o = some w) ∨ (k = 1 ∧ o = some (sTz q)) ∨ (k = 2 ∧ o = yFW 52 2047 (-1074) wd) ∨ (k = 3 ∧ o = yFW 23 255 (-149) nr)
def yCvD (k : Int) (w : Int) (q : Int × Int) (wd nr : Nat) (o : Option (Int × Int)) : Prop := (k = 0 ∧ o = some (w, 0)) ∨ (k = 1 ∧ o = some q) ∨ (k = 2 ∧ yFD 52 2047 (-1074) wd o) ∨ (k = 3 ∧ yFD 23 255 (-149) nr o)
def yCvF (P T : Nat) (l : Int) (k : Int) (w : Int) (q : Int × Int) (wd nr : Nat) (v : Nat) : Prop := (k = 0 ∧ ∃ b, yfRnd P T l w.natAbs 1 b ∧ v = b + (if w < 0 then 1 else 0) * (2 ^ P * (T + 1))) ∨ (k = 1 ∧ ∃ b, yfRnd P T l (q.1.natAbs * 10 ^ (-q.2).toNat) (10 ^ q.2.toNat) b ∧ v = b + (if q.1 < 0 then 1 else 0) * (2 ^ P * (T + 1))) ∨ (k = 2 ∧ ((P = 52 ∧ v = wd) ∨ (P = 23 ∧ yCh 23 255 (-149) 52 2047 (-1074) wd v))) ∨ (k = 3 ∧ ((P = 23 ∧ v = nr) ∨ (P = 52 ∧ yCh 52 2047 (-1074) 23 255 (-149) nr v)))
theorem yCvW_U {k w : Int} {q : Int × Int} {wd nr : Nat} {o o' : Option Int} (h : yCvW k w q wd nr o) (g : yCvW k w q wd nr o') : o = o' := by
  rcases h with ⟨a, h⟩ | ⟨a, h⟩ | ⟨a, h⟩ | ⟨a, h⟩ <;> rcases g with ⟨b, g⟩ | ⟨b, g⟩ | ⟨b, g⟩ | ⟨b, g⟩ <;> first | exact h.trans g.symm | (exfalso; omega)
theorem yFD_U {P T : Nat} {l : Int} {u : Nat} {o o' : Option (Int × Int)} (h : yFD P T l u o) (g : yFD P T l u o') : o = o' := by
  rcases h with ⟨a, h⟩ | ⟨a, v, s, h1, h⟩ <;> rcases g with ⟨b, g⟩ | ⟨b, v', s', g1, g⟩
  · exact h.trans g.symm
  · exact absurd a b
  · exact absurd b a
  · obtain ⟨e1, e2⟩ := yEq_U h1 g1
    rw [h, g, e1, e2]
theorem yCvD_U {k w : Int} {q : Int × Int} {wd nr : Nat} {o o' : Option (Int × Int)} (h : yCvD k w q wd nr o) (g : yCvD k w q wd nr o') : o = o' := by
  rcases h with ⟨a, h⟩ | ⟨a, h⟩ | ⟨a, h⟩ | ⟨a, h⟩ <;> rcases g with ⟨b, g⟩ | ⟨b, g⟩ | ⟨b, g⟩ | ⟨b, g⟩ <;> first | exact h.trans g.symm | exact yFD_U h g | (exfalso; omega)
theorem yCvF_U {P T : Nat} {l : Int} {k w : Int} {q : Int × Int} {wd nr : Nat} {v v' : Nat} (h : yCvF P T l k w q wd nr v) (g : yCvF P T l k w q wd nr v') : v = v' := by
  rcases h with ⟨a, b, h1, h2⟩ | ⟨a, b, h1, h2⟩ | ⟨a, h⟩ | ⟨a, h⟩ <;> rcases g with ⟨a', b', g1, g2⟩ | ⟨a', b', g1, g2⟩ | ⟨a', g⟩ | ⟨a', g⟩ <;> try (exfalso; omega)
  · rw [h2, g2, yfRnd_U h1 g1]
  · rw [h2, g2, yfRnd_U h1 g1]
  · rcases h with ⟨p, h⟩ | ⟨p, h⟩ <;> rcases g with ⟨p', g⟩ | ⟨p', g⟩
    · exact h.trans g.symm
    · exfalso; omega
    · exfalso; omega
    · exact yCh_U h g
  · rcases h with ⟨p, h⟩ | ⟨p, h⟩ <;> rcases g with ⟨p', g⟩ | ⟨p', g⟩
    · exact h.trans g.symm
    · exfalso; omega
    · exfalso; omega
    · exact yCh_U h g
theorem y_svI {P T u m : Nat} : sgI (if m = 0 then 0 else if ySx P T u = 1 then 1 else 0) (m : Int) = ySv P T u m := by
  unfold sgI ySv
  by_cases h : m = 0
  · rw [if_pos h, if_pos rfl, h]
    split <;> rfl
  · rw [if_neg h]
    by_cases g : ySx P T u = 1
    · rw [if_pos g, if_pos g, if_neg (by decide)]
    · rw [if_neg g, if_neg g, if_pos rfl]
theorem y_eq0 {n : Nat} {pw : Int} {u s : Nat} (h : yEq n pw u s) : n = 0 ↔ u = 0 := by
  have h1 := h.1
  have p1 : 0 < 2 ^ (-pw).toNat := Nat.pow_pos (by decide)
  have p2 : 0 < 2 ^ pw.toNat := Nat.pow_pos (by decide)
  have p3 : 0 < 10 ^ s := Nat.pow_pos (by decide)
  constructor
  · intro e
    rw [e, Nat.zero_mul, Nat.zero_mul] at h1
    exact (Nat.mul_eq_zero.mp h1).resolve_right (by omega)
  · intro e
    rw [e, Nat.zero_mul] at h1
    rcases Nat.mul_eq_zero.mp h1.symm with q | q
    · exact (Nat.mul_eq_zero.mp q).resolve_right (by omega)
    · omega
theorem y_svE {P T u : Nat} {n : Nat} {pw : Int} {v s : Nat} (h : yEq n pw v s) : sgI (if n = 0 then 0 else if ySx P T u = 1 then 1 else 0) (v : Int) = ySv P T u v := by
  have e := y_eq0 h
  rw [← y_svI]
  congr 1
  by_cases q : n = 0
  · rw [if_pos q, if_pos (e.mp q)]
  · rw [if_neg q, if_neg (fun c => q (e.mpr c))]
theorem y_2k1000 : (2 : Nat) ^ 2048 ≤ 10 ^ 1000 := by decide +kernel
theorem yF_w : yF 52 1075 2047 52 2047 (-1074) := Or.inl ⟨rfl, rfl, rfl, rfl, rfl, rfl⟩
theorem yF_n : yF 23 150 255 23 255 (-149) := Or.inr ⟨rfl, rfl, rfl, rfl, rfl, rfl⟩
theorem V_mkW {x2 : Int32} {x3 : Int32} {t0_0 : Int64} {t0_1 : Int32} {t1_0 : Int32} {t1_1 : Int32} {t2_0 : (Nat → Int32)} {t3_0 : (Nat → Int64)} {t4_0 : (Nat → Int64)} {t5_0 : Int32} {t5_1 : Int32} {t6_0 : (Nat → Int32)} {t7_0 : Int32} {t7_1 : Int32} {t8_0 : Int32} {t8_1 : Int32} {t9_0 : (Nat → Int32)} {v : Int} {q : Int × Int} (hk : 0 ≤ x2.toInt ∧ x2.toInt ≤ 3) (hw : bO 68 t5_0 t5_1 t6_0 v) (hd : dP 108 t8_0 t8_1 t9_0 t7_0 t7_1 q) : ∃ o, yCvW x2.toInt v q (yu (t3_0 x3.toNatClampNeg)) (yu (t4_0 x3.toNatClampNeg)) o ∧ (((F_NH_makeWhole x2 x3 t0_0 t0_1 t1_0 t1_1 t2_0 t3_0 t4_0 t5_0 t5_1 t6_0 t7_0 t7_1 t8_0 t8_1 t9_0).1 = 0 ∧ ∃ z, o = some z ∧ bO 220 (F_NH_makeWhole x2 x3 t0_0 t0_1 t1_0 t1_1 t2_0 t3_0 t4_0 t5_0 t5_1 t6_0 t7_0 t7_1 t8_0 t8_1 t9_0).2.1 (F_NH_makeWhole x2 x3 t0_0 t0_1 t1_0 t1_1 t2_0 t3_0 t4_0 t5_0 t5_1 t6_0 t7_0 t7_1 t8_0 t8_1 t9_0).2.2.1 (F_NH_makeWhole x2 x3 t0_0 t0_1 t1_0 t1_1 t2_0 t3_0 t4_0 t5_0 t5_1 t6_0 t7_0 t7_1 t8_0 t8_1 t9_0).2.2.2 z) ∨ ((F_NH_makeWhole x2 x3 t0_0 t0_1 t1_0 t1_1 t2_0 t3_0 t4_0 t5_0 t5_1 t6_0 t7_0 t7_1 t8_0 t8_1 t9_0).1 = 2 ∧ (o = none ∨ ∃ z, o = some z ∧ 2 ^ 2048 ≤ z.natAbs))) := by
  have e220 : (220 : Int32).toInt = 220 := rfl
  have e68 : (68 : Int32).toInt = 68 := rfl
  unfold F_NH_makeWhole
  by_cases g1 : x2 = (0 : Int32)
  · rw [if_pos g1]
    have h2 := W_copy  (R := (220 : Int32)) (s := t1_0) (neg := t1_1) (f := t2_0) hw (by have z := hw.2.2.2.1; omega) (by decide)
    generalize F_Big_copy (220 : Int32) (68 : Int32) t1_0 t1_1 t2_0 t5_0 t5_1 t6_0 = p325 at h2 ⊢
    unfold F_NH_makeWhole_c17
    exact ⟨some v, Or.inl ⟨q_eqI g1, rfl⟩, Or.inl ⟨rfl, v, rfl, h2⟩⟩
  · rw [if_neg g1]
    have g1i : x2.toInt ≠ 0 := q_neI g1
    by_cases g3 : x2 = (1 : Int32)
    · rw [if_pos g3]
      have h4 := V_towardsZero (R := (108 : Int32)) (t0_0 := t0_0) (t0_1 := t0_1) (t1_0 := t1_0) (t1_1 := t1_1) (t2_0 := t2_0) (t3_0 := t7_0) (t3_1 := t7_1) (t4_0 := t8_0) (t4_1 := t8_1) (t5_0 := t9_0) hd
      generalize F_DW_towardsZero (108 : Int32) t0_0 t0_1 t1_0 t1_1 t2_0 t7_0 t7_1 t8_0 t8_1 t9_0 = p283 at h4 ⊢
      unfold F_NH_makeWhole_c38
      refine ⟨some (sTz q), Or.inr (Or.inl ⟨q_eqI g3, rfl⟩), ?_⟩
      rcases h4 with ⟨a, b⟩ | ⟨a, b, _⟩
      · rw [a, if_neg (by decide)]
        exact Or.inr ⟨rfl, Or.inr ⟨_, rfl, Nat.le_trans y_2k1000 b⟩⟩
      · rw [a, if_pos (by decide)]
        exact Or.inl ⟨rfl, _, rfl, b⟩
    · rw [if_neg g3]
      have g3i : x2.toInt ≠ 1 := q_neI g3
      by_cases g6 : x2 = (2 : Int32)
      · rw [if_pos g6, if_pos g6]
        have g6i : x2.toInt = 2 := q_eqI g6
        refine ⟨yFW 52 2047 (-1074) (yu (t3_0 x3.toNatClampNeg)), Or.inr (Or.inr (Or.inl ⟨g6i, rfl⟩)), ?_⟩
        rcases y_canF (u := t3_0 x3.toNatClampNeg) yF_w with ⟨c, f⟩ | ⟨c, f⟩
        · rw [if_pos c]
          have h8 := V_Flo_towardsZero (x2 := t3_0 x3.toNatClampNeg) (t0_0 := t1_0) (t0_1 := t1_1) (t1_0 := t2_0) yF_w f rfl
          generalize F_Flo_towardsZero (52 : Int32) (1075 : Int32) (2047 : Int32) (t3_0 x3.toNatClampNeg : Int64) t1_0 t1_1 t2_0 = p94 at h8 ⊢
          unfold F_NH_makeWhole_c74
          have h9 := h8.1
          rw [y_svI] at h9
          exact Or.inl ⟨rfl, _, if_neg f, h9⟩
        · rw [if_neg (by rw [c]; decide)]
          exact Or.inr ⟨c, Or.inl (if_pos f)⟩
      · rw [if_neg g6, if_neg g6]
        have g6i : x2.toInt ≠ 2 := q_neI g6
        refine ⟨yFW 23 255 (-149) (yu (t4_0 x3.toNatClampNeg)), Or.inr (Or.inr (Or.inr ⟨by omega, rfl⟩)), ?_⟩
        rcases y_canF (u := t4_0 x3.toNatClampNeg) yF_n with ⟨c, f⟩ | ⟨c, f⟩
        · rw [if_pos c]
          have h8 := V_Flo_towardsZero (x2 := t4_0 x3.toNatClampNeg) (t0_0 := t1_0) (t0_1 := t1_1) (t1_0 := t2_0) yF_n f rfl
          generalize F_Flo_towardsZero (23 : Int32) (150 : Int32) (255 : Int32) (t4_0 x3.toNatClampNeg : Int64) t1_0 t1_1 t2_0 = p248 at h8 ⊢
          unfold F_NH_makeWhole_c74_4
          have h9 := h8.1
          rw [y_svI] at h9
          exact Or.inl ⟨rfl, _, if_neg f, h9⟩
        · rw [if_neg (by rw [c]; decide)]
          exact Or.inr ⟨c, Or.inl (if_pos f)⟩
theorem V_mkD {x2 : Int32} {x3 : Int32} {t0_0 : Int64} {t0_1 : Int32} {t1_0 : Int32} {t1_1 : Int32} {t2_0 : (Nat → Int32)} {t3_0 : (Nat → Int64)} {t4_0 : (Nat → Int64)} {t5_0 : Int32} {t5_1 : Int32} {t6_0 : (Nat → Int32)} {t7_0 : Int32} {t7_1 : Int32} {t8_0 : Int32} {t8_1 : Int32} {t9_0 : (Nat → Int32)} {v : Int} {q : Int × Int} (hk : 0 ≤ x2.toInt ∧ x2.toInt ≤ 3) (hw : bO 68 t5_0 t5_1 t6_0 v) (hN : v.natAbs < 2 ^ 2048) (hd : dP 108 t8_0 t8_1 t9_0 t7_0 t7_1 q) : ∃ o, yCvD x2.toInt v q (yu (t3_0 x3.toNatClampNeg)) (yu (t4_0 x3.toNatClampNeg)) o ∧ (((F_NH_makeDecimal x2 x3 t0_0 t0_1 t1_0 t1_1 t2_0 t3_0 t4_0 t5_0 t5_1 t6_0 t7_0 t7_1 t8_0 t8_1 t9_0).1 = 0 ∧ ∃ z, o = some (z, (F_NH_makeDecimal x2 x3 t0_0 t0_1 t1_0 t1_1 t2_0 t3_0 t4_0 t5_0 t5_1 t6_0 t7_0 t7_1 t8_0 t8_1 t9_0).2.1.toInt) ∧ bO 220 (F_NH_makeDecimal x2 x3 t0_0 t0_1 t1_0 t1_1 t2_0 t3_0 t4_0 t5_0 t5_1 t6_0 t7_0 t7_1 t8_0 t8_1 t9_0).2.2.2.1 (F_NH_makeDecimal x2 x3 t0_0 t0_1 t1_0 t1_1 t2_0 t3_0 t4_0 t5_0 t5_1 t6_0 t7_0 t7_1 t8_0 t8_1 t9_0).2.2.2.2.1 (F_NH_makeDecimal x2 x3 t0_0 t0_1 t1_0 t1_1 t2_0 t3_0 t4_0 t5_0 t5_1 t6_0 t7_0 t7_1 t8_0 t8_1 t9_0).2.2.2.2.2 z ∧ bB 176 z) ∨ ((F_NH_makeDecimal x2 x3 t0_0 t0_1 t1_0 t1_1 t2_0 t3_0 t4_0 t5_0 t5_1 t6_0 t7_0 t7_1 t8_0 t8_1 t9_0).1 = 2 ∧ o = none)) := by
  have e220 : (220 : Int32).toInt = 220 := rfl
  have e68 : (68 : Int32).toInt = 68 := rfl
  have e108 : (108 : Int32).toInt = 108 := rfl
  unfold F_NH_makeDecimal
  by_cases g3 : x2 = (1 : Int32)
  · rw [if_pos g3]
    have h4 := T_take (R := (108 : Int32)) (t0_0 := t0_0) (t0_1 := t0_1) (t1_0 := t1_0) (t1_1 := t1_1) (t2_0 := t2_0) (t3_0 := t7_0) (t3_1 := t7_1) (t4_0 := t8_0) (t4_1 := t8_1) (t5_0 := t9_0) hd.1
    generalize F_DW_take (108 : Int32) t0_0 t0_1 t1_0 t1_1 t2_0 t7_0 t7_1 t8_0 t8_1 t9_0 = p351 at h4 ⊢
    unfold F_NH_makeDecimal_c15
    refine ⟨some q, Or.inr (Or.inl ⟨q_eqI g3, rfl⟩), Or.inl ⟨rfl, q.1, ?_, h4.2, ?_⟩⟩
    · show some q = some (q.1, p351.1.toInt)
      rw [h4.1, hd.2.2.1]
    · exact (hd.1.B (M := 108) (by have z := hd.1.2.2.2.1; omega)).mono (by decide)
  · rw [if_neg g3]
    have g3i : x2.toInt ≠ 1 := q_neI g3
    by_cases g1 : x2 = (0 : Int32)
    · rw [if_pos g1]
      have h2 := W_copy  (R := (220 : Int32)) (s := t1_0) (neg := t1_1) (f := t2_0) hw (by have z := hw.2.2.2.1; omega) (by decide)
      generalize F_Big_copy (220 : Int32) (68 : Int32) t1_0 t1_1 t2_0 t5_0 t5_1 t6_0 = p312 at h2 ⊢
      unfold F_NH_makeDecimal_c38
      exact ⟨some (v, 0), Or.inl ⟨q_eqI g1, rfl⟩, Or.inl ⟨rfl, v, rfl, h2, (hw.B (M := 68) (by have z := hw.2.2.2.1; omega)).mono (by decide)⟩⟩
    · rw [if_neg g1]
      have g1i : x2.toInt ≠ 0 := q_neI g1
      by_cases g6 : x2 = (2 : Int32)
      · rw [if_pos g6, if_pos g6]
        have g6i : x2.toInt = 2 := q_eqI g6
        rcases y_canF (u := t3_0 x3.toNatClampNeg) yF_w with ⟨c, f⟩ | ⟨c, f⟩
        · rw [if_pos c]
          obtain ⟨u, s, r1, r2, r3, r4, r5⟩ := V_exactly (x2 := t3_0 x3.toNatClampNeg) (t0_0 := t1_0) (t0_1 := t1_1) (t1_0 := t2_0) yF_w f
          generalize F_Flo_exactly (52 : Int32) (1075 : Int32) (2047 : Int32) (t3_0 x3.toNatClampNeg : Int64) t1_0 t1_1 t2_0 = p96 at r2 r4 ⊢
          unfold F_NH_makeDecimal_c83
          rw [y_svE r1] at r4
          refine ⟨some (ySv 52 2047 (yu (t3_0 x3.toNatClampNeg)) u, (s : Int)), Or.inr (Or.inr (Or.inl ⟨g6i, Or.inr ⟨f, u, s, r1, rfl⟩⟩)), Or.inl ⟨rfl, _, ?_, r4, ?_⟩⟩
          · show _ = some (_, (p96.1.toInt64).toInt)
            rw [Int32.toInt_toInt64, r2]
          · exact r5.le (by unfold ySv; split <;> omega)
        · rw [if_neg (by rw [c]; decide)]
          exact ⟨none, Or.inr (Or.inr (Or.inl ⟨g6i, Or.inl ⟨f, rfl⟩⟩)), Or.inr ⟨c, rfl⟩⟩
      · rw [if_neg g6, if_neg g6]
        have g6i : x2.toInt ≠ 2 := q_neI g6
        rcases y_canF (u := t4_0 x3.toNatClampNeg) yF_n with ⟨c, f⟩ | ⟨c, f⟩
        · rw [if_pos c]
          obtain ⟨u, s, r1, r2, r3, r4, r5⟩ := V_exactly (x2 := t4_0 x3.toNatClampNeg) (t0_0 := t1_0) (t0_1 := t1_1) (t1_0 := t2_0) yF_n f
          generalize F_Flo_exactly (23 : Int32) (150 : Int32) (255 : Int32) (t4_0 x3.toNatClampNeg : Int64) t1_0 t1_1 t2_0 = p274 at r2 r4 ⊢
          unfold F_NH_makeDecimal_c83_4
          rw [y_svE r1] at r4
          refine ⟨some (ySv 23 255 (yu (t4_0 x3.toNatClampNeg)) u, (s : Int)), Or.inr (Or.inr (Or.inr ⟨by omega, Or.inr ⟨f, u, s, r1, rfl⟩⟩)), Or.inl ⟨rfl, _, ?_, r4, ?_⟩⟩
          · show _ = some (_, (p274.1.toInt64).toInt)
            rw [Int32.toInt_toInt64, r2]
          · exact r5.le (by unfold ySv; split <;> omega)
        · rw [if_neg (by rw [c]; decide)]
          exact ⟨none, Or.inr (Or.inr (Or.inr ⟨by omega, Or.inl ⟨f, rfl⟩⟩)), Or.inr ⟨c, rfl⟩⟩
theorem y_neS {A B C : Int32} {P T : Nat} {l : Int} (hF : yF A B C P T l) {R s n : Int32} {f : Nat → Int32} {v : Int} (hv : bO R s n f v) {x : Int64} {N D : Nat} (h : QV_ne P T l N D x) : ∃ b, yfRnd P T l N D b ∧ yu (x ||| F_Flo_signBit A B C n) = b + (if v < 0 then 1 else 0) * (2 ^ P * (T + 1)) := by
  obtain ⟨b, h1, h2⟩ := h
  have le := yfRnd_le h2
  have p2 : 0 < 2 ^ P := Nat.pow_pos (by decide)
  have lt : b < 2 ^ P * (T + 1) := by rw [Nat.mul_comm, Nat.succ_mul]; omega
  have r := y_orS (n := n) hF (y_tI h1) lt hv.sg
  refine ⟨b, h2, ?_⟩
  rw [r]
  rcases hv.ngB with ⟨q, w⟩ | ⟨q, w⟩
  · rw [q, if_neg w]; rfl
  · rw [q, if_pos w]; rfl
theorem y_vG1 {v : Int} {c : Nat} (h : vG v c) (hc : c ≤ 1000) : v.natAbs < 10 ^ 1001 := (vG_le h (M := 1001) (by decide)).mp (by omega)
theorem V_mkFw {x2 : Int32} {x3 : Int32} {t0_0 : Int32} {t0_1 : Int32} {t1_0 : (Nat → Int32)} {t2_0 : Int32} {t2_1 : Int32} {t3_0 : (Nat → Int32)} {t4_0 : Int32} {t4_1 : Int32} {t5_0 : (Nat → Int32)} {t6_0 : Int32} {t6_1 : Int32} {t7_0 : (Nat → Int32)} {t8_0 : Int32} {t8_1 : Int32} {t9_0 : (Nat → Int32)} {t10_0 : (Nat → Int64)} {t11_0 : (Nat → Int64)} {t12_0 : Int32} {t12_1 : Int32} {t13_0 : (Nat → Int32)} {t14_0 : Int32} {t14_1 : Int32} {t15_0 : Int32} {t15_1 : Int32} {t16_0 : (Nat → Int32)} {v : Int} {q : Int × Int} (hk : 0 ≤ x2.toInt ∧ x2.toInt ≤ 3) (hw : bO 68 t12_0 t12_1 t13_0 v) (hd : dP 108 t15_0 t15_1 t16_0 t14_0 t14_1 q) : yCvF 52 2047 (-1074) x2.toInt v q (yu (t10_0 x3.toNatClampNeg)) (yu (t11_0 x3.toNatClampNeg)) (yu (F_NH_madeFloat_w x2 x3 t0_0 t0_1 t1_0 t2_0 t2_1 t3_0 t4_0 t4_1 t5_0 t6_0 t6_1 t7_0 t8_0 t8_1 t9_0 t10_0 t11_0 t12_0 t12_1 t13_0 t14_0 t14_1 t15_0 t15_1 t16_0).1) := by
  unfold F_NH_madeFloat_w
  by_cases g1 : x2 = (0 : Int32)
  · rw [if_pos g1]
    have e := yf_ex2 (n := v.natAbs) (pw := 0)
    have h := V_nearest (x3 := 0) (x4 := 0) yF_w hw rfl (p := 0) rfl (by omega) (Or.inl rfl) e.1 ⟨fun _ => rfl, fun _ => e.2⟩ (Or.inl rfl) (Nat.pow_pos (by decide))
    obtain ⟨b, h1, h2⟩ := y_neS yF_w hw h
    exact Or.inl ⟨q_eqI g1, b, yfRnd_v (Nat.pow_pos (by decide)) (by decide) (by simp) h1, h2⟩
  · rw [if_neg g1]
    have g1i : x2.toInt ≠ 0 := q_neI g1
    by_cases g3 : x2 = (1 : Int32)
    · rw [if_pos g3]
      have h := V_nearestDecimal (x3 := t14_0.toInt64) (t0_0 := t6_0) (t0_1 := t6_1) (t1_0 := t7_0) (t2_0 := t8_0) (t2_1 := t8_1) (t3_0 := t9_0) (t4_0 := t2_0) (t4_1 := t2_1) (t5_0 := t3_0) (t6_0 := t4_0) (t6_1 := t4_1) (t7_0 := t5_0) yF_w hd.1 (s := q.2) (by
        obtain ⟨c, _, h2, h3⟩ := hd.2.1
        exact y_vG1 h2 h3) (by rw [Int32.toInt_toInt64]; exact hd.2.2.1) (by have := hd.2.2.2; omega)
      generalize F_Flo_nearestDecimal (52 : Int32) (1075 : Int32) (2047 : Int32) (108 : Int32) (t14_0.toInt64 : Int64) t6_0 t6_1 t7_0 t8_0 t8_1 t9_0 t2_0 t2_1 t3_0 t4_0 t4_1 t5_0 t15_0 t15_1 t16_0 = p244 at h ⊢
      unfold F_NH_madeFloat_w_c56
      obtain ⟨b, h1, h2⟩ := y_neS yF_w hd.1 h
      exact Or.inr (Or.inl ⟨q_eqI g3, b, h1, h2⟩)
    · rw [if_neg g3]
      have g3i : x2.toInt ≠ 1 := q_neI g3
      by_cases g6 : x2 = (2 : Int32)
      · rw [if_pos g6, if_pos g6]
        have g6i : x2.toInt = 2 := q_eqI g6
        exact Or.inr (Or.inr (Or.inl ⟨g6i, Or.inl ⟨rfl, rfl⟩⟩))
      · rw [if_neg g6, if_neg g6]
        have g6i : x2.toInt ≠ 2 := q_neI g6
        have h := V_changed (x2 := t11_0 x3.toNatClampNeg) (t0_0 := t0_0) (t0_1 := t0_1) (t1_0 := t1_0) yF_w yF_n
        generalize F_Flo_changed (52 : Int32) (1075 : Int32) (2047 : Int32) (t11_0 x3.toNatClampNeg : Int64) (23 : Int32) (150 : Int32) (255 : Int32) t0_0 t0_1 t1_0 = p at h ⊢
        unfold F_NH_madeFloat_w_c86_2
        exact Or.inr (Or.inr (Or.inr ⟨by omega, Or.inr ⟨rfl, h⟩⟩))
theorem V_mkFn {x2 : Int32} {x3 : Int32} {t0_0 : Int32} {t0_1 : Int32} {t1_0 : (Nat → Int32)} {t2_0 : Int32} {t2_1 : Int32} {t3_0 : (Nat → Int32)} {t4_0 : Int32} {t4_1 : Int32} {t5_0 : (Nat → Int32)} {t6_0 : Int32} {t6_1 : Int32} {t7_0 : (Nat → Int32)} {t8_0 : Int32} {t8_1 : Int32} {t9_0 : (Nat → Int32)} {t10_0 : (Nat → Int64)} {t11_0 : (Nat → Int64)} {t12_0 : Int32} {t12_1 : Int32} {t13_0 : (Nat → Int32)} {t14_0 : Int32} {t14_1 : Int32} {t15_0 : Int32} {t15_1 : Int32} {t16_0 : (Nat → Int32)} {v : Int} {q : Int × Int} (hk : 0 ≤ x2.toInt ∧ x2.toInt ≤ 3) (hw : bO 68 t12_0 t12_1 t13_0 v) (hd : dP 108 t15_0 t15_1 t16_0 t14_0 t14_1 q) : yCvF 23 255 (-149) x2.toInt v q (yu (t10_0 x3.toNatClampNeg)) (yu (t11_0 x3.toNatClampNeg)) (yu (F_NH_madeFloat_n x2 x3 t0_0 t0_1 t1_0 t2_0 t2_1 t3_0 t4_0 t4_1 t5_0 t6_0 t6_1 t7_0 t8_0 t8_1 t9_0 t10_0 t11_0 t12_0 t12_1 t13_0 t14_0 t14_1 t15_0 t15_1 t16_0).1) := by
  unfold F_NH_madeFloat_n
  by_cases g1 : x2 = (0 : Int32)
  · rw [if_pos g1]
    have e := yf_ex2 (n := v.natAbs) (pw := 0)
    have h := V_nearest (x3 := 0) (x4 := 0) yF_n hw rfl (p := 0) rfl (by omega) (Or.inl rfl) e.1 ⟨fun _ => rfl, fun _ => e.2⟩ (Or.inl rfl) (Nat.pow_pos (by decide))
    obtain ⟨b, h1, h2⟩ := y_neS yF_n hw h
    exact Or.inl ⟨q_eqI g1, b, yfRnd_v (Nat.pow_pos (by decide)) (by decide) (by simp) h1, h2⟩
  · rw [if_neg g1]
    have g1i : x2.toInt ≠ 0 := q_neI g1
    by_cases g3 : x2 = (1 : Int32)
    · rw [if_pos g3]
      have h := V_nearestDecimal (x3 := t14_0.toInt64) (t0_0 := t6_0) (t0_1 := t6_1) (t1_0 := t7_0) (t2_0 := t8_0) (t2_1 := t8_1) (t3_0 := t9_0) (t4_0 := t2_0) (t4_1 := t2_1) (t5_0 := t3_0) (t6_0 := t4_0) (t6_1 := t4_1) (t7_0 := t5_0) yF_n hd.1 (s := q.2) (by
        obtain ⟨c, _, h2, h3⟩ := hd.2.1
        exact y_vG1 h2 h3) (by rw [Int32.toInt_toInt64]; exact hd.2.2.1) (by have := hd.2.2.2; omega)
      generalize F_Flo_nearestDecimal (23 : Int32) (150 : Int32) (255 : Int32) (108 : Int32) (t14_0.toInt64 : Int64) t6_0 t6_1 t7_0 t8_0 t8_1 t9_0 t2_0 t2_1 t3_0 t4_0 t4_1 t5_0 t15_0 t15_1 t16_0 = p244 at h ⊢
      unfold F_NH_madeFloat_n_c56
      obtain ⟨b, h1, h2⟩ := y_neS yF_n hd.1 h
      exact Or.inr (Or.inl ⟨q_eqI g3, b, h1, h2⟩)
    · rw [if_neg g3]
      have g3i : x2.toInt ≠ 1 := q_neI g3
      by_cases g6 : x2 = (2 : Int32)
      · rw [if_pos g6, if_pos g6]
        have g6i : x2.toInt = 2 := q_eqI g6
        have h := V_changed (x2 := t10_0 x3.toNatClampNeg) (t0_0 := t0_0) (t0_1 := t0_1) (t1_0 := t1_0) yF_n yF_w
        generalize F_Flo_changed (23 : Int32) (150 : Int32) (255 : Int32) (t10_0 x3.toNatClampNeg : Int64) (52 : Int32) (1075 : Int32) (2047 : Int32) t0_0 t0_1 t1_0 = p at h ⊢
        unfold F_NH_madeFloat_n_c86
        exact Or.inr (Or.inr (Or.inl ⟨g6i, Or.inr ⟨rfl, h⟩⟩))
      · rw [if_neg g6, if_neg g6]
        have g6i : x2.toInt ≠ 2 := q_neI g6
        exact Or.inr (Or.inr (Or.inr ⟨by omega, Or.inl ⟨rfl, rfl⟩⟩))
