/-! values, for whole: told of wholes and decimals: the calls, on both sides -/
def yTl0 (x : Int32) (v : Int) (code : Int32) (a : Int64) : Prop := (¬ (0 ≤ x.toInt ∧ x.toInt ≤ 4) ∧ code = 1) ∨ (x = 0 ∧ code = 0 ∧ tLg a v) ∨ ((1 ≤ x.toInt ∧ x.toInt ≤ 4) ∧ code = 0 ∧ a.toInt = sTell x v)
def yTl1 (x : Int32) (q : Int × Int) (code : Int32) (a : Int64) : Prop := ∀ c : Nat, vG q.1 c → (¬ (0 ≤ x.toInt ∧ x.toInt - 3 < (c : Int)) ∧ code = 1) ∨ ((0 ≤ x.toInt ∧ x.toInt - 3 < (c : Int)) ∧ code = 0 ∧ yTd x q c a.toInt)
theorem y_tN {x2 : Int32} {x3 : Int32} {x4 : Int32} {t0_0 : Int32} {t0_1 : Int32} {t1_0 : (Nat → Int32)} {t2_0 : Int32} {t2_1 : Int32} {t3_0 : (Nat → Int32)} {t4_0 : (Nat → Int64)} {t5_0 : (Nat → Int64)} {t6_0 : Int32} {t6_1 : Int32} {t7_0 : (Nat → Int32)} {t8_0 : Int32} {t8_1 : Int32} {t9_0 : (Nat → Int32)} {t10_0 : Int32} {t10_1 : Int32} {t11_0 : (Nat → Int32)} {t12_0 : Int32} {t12_1 : Int32} {t13_0 : (Nat → Int32)} {t14_0 : Int64} {t14_1 : Int32} {t14_2 : Int32} {t15_0 : Int64} {t15_1 : Int32} {t15_2 : Int32} {t16_0 : Int32} {t16_1 : Int32} {t17_0 : (Nat → Int32)} {t18_0 : Int32} {t18_1 : Int32} {t19_0 : Int32} {t19_1 : Int32} {t20_0 : (Nat → Int32)} (h : ¬ ((0 ≤ x2.toInt ∧ x2.toInt ≤ 3) ∧ yReg x3)) : (F_NH_told x2 x3 x4 t0_0 t0_1 t1_0 t2_0 t2_1 t3_0 t4_0 t5_0 t6_0 t6_1 t7_0 t8_0 t8_1 t9_0 t10_0 t10_1 t11_0 t12_0 t12_1 t13_0 t14_0 t14_1 t14_2 t15_0 t15_1 t15_2 t16_0 t16_1 t17_0 t18_0 t18_1 t19_0 t19_1 t20_0).1 = 1 := by
  unfold F_NH_told
  rcases y_needR (x := x2) (y := x3) with ⟨r, h2, h3⟩ | ⟨r, h2⟩
  · exact absurd ⟨h2, h3⟩ h
  · rw [if_neg (show ¬ F_NH_needRegister x2 x3 = 0 by rw [r]; decide)]
    exact r
theorem V_NH_told0 {x2 : Int32} {x3 : Int32} {x4 : Int32} {t0_0 : Int32} {t0_1 : Int32} {t1_0 : (Nat → Int32)} {t2_0 : Int32} {t2_1 : Int32} {t3_0 : (Nat → Int32)} {t4_0 : (Nat → Int64)} {t5_0 : (Nat → Int64)} {t6_0 : Int32} {t6_1 : Int32} {t7_0 : (Nat → Int32)} {t8_0 : Int32} {t8_1 : Int32} {t9_0 : (Nat → Int32)} {t10_0 : Int32} {t10_1 : Int32} {t11_0 : (Nat → Int32)} {t12_0 : Int32} {t12_1 : Int32} {t13_0 : (Nat → Int32)} {t14_0 : Int64} {t14_1 : Int32} {t14_2 : Int32} {t15_0 : Int64} {t15_1 : Int32} {t15_2 : Int32} {t16_0 : Int32} {t16_1 : Int32} {t17_0 : (Nat → Int32)} {t18_0 : Int32} {t18_1 : Int32} {t19_0 : Int32} {t19_1 : Int32} {t20_0 : (Nat → Int32)} {v : Int} (hb : bO 68 t16_0 t16_1 t17_0 v) (hv : v.natAbs < 2 ^ 2048) (h2 : x2 = 0) (h3 : yReg x3) : yTl0 x4 v (F_NH_told x2 x3 x4 t0_0 t0_1 t1_0 t2_0 t2_1 t3_0 t4_0 t5_0 t6_0 t6_1 t7_0 t8_0 t8_1 t9_0 t10_0 t10_1 t11_0 t12_0 t12_1 t13_0 t14_0 t14_1 t14_2 t15_0 t15_1 t15_2 t16_0 t16_1 t17_0 t18_0 t18_1 t19_0 t19_1 t20_0).1 (F_NH_told x2 x3 x4 t0_0 t0_1 t1_0 t2_0 t2_1 t3_0 t4_0 t5_0 t6_0 t6_1 t7_0 t8_0 t8_1 t9_0 t10_0 t10_1 t11_0 t12_0 t12_1 t13_0 t14_0 t14_1 t14_2 t15_0 t15_1 t15_2 t16_0 t16_1 t17_0 t18_0 t18_1 t19_0 t19_1 t20_0).2.1 := by
  have e0 : (0 : Int32).toInt = 0 := rfl
  have e4 : (4 : Int32).toInt = 4 := rfl
  unfold F_NH_told
  rcases y_needR (x := x2) (y := x3) with ⟨r, _, _⟩ | ⟨r, k⟩
  · rw [if_pos r]
    by_cases c : x4 < 0
    · rw [if_pos c]
      unfold F_NH_told_J14
      rw [if_neg (show ¬ F_NH_need 0 = 0 by decide)]
      have c := q_ltI c
      exact Or.inl ⟨fun h => by omega, by show F_NH_need 0 = 1; decide⟩
    · rw [if_neg c]
      have c := q_nltI c
      unfold F_NH_told_J14
      rw [if_pos (show F_NH_need 1 = 0 by decide), if_pos h2]
      by_cases d : (4 : Int32) < x4
      · rw [if_pos d, if_neg (show ¬ F_NH_need 0 = 0 by decide)]
        have d := q_ltI d
        exact Or.inl ⟨fun h => by omega, by show F_NH_need 0 = 1; decide⟩
      · rw [if_neg d, if_pos (show F_NH_need 1 = 0 by decide)]
        have d := q_nltI d
        by_cases z : x4 = 0
        · refine Or.inr (Or.inl ⟨z, rfl, ?_⟩)
          rw [z]
          exact V_tellWhole0 hb
        · have z1 : x4.toInt ≠ 0 := fun k => z (Int32.toInt_inj.mp k)
          exact Or.inr (Or.inr ⟨⟨by omega, by omega⟩, rfl, V_tellWhole hb hv ⟨by omega, by omega⟩⟩)
  · refine absurd ⟨?_, h3⟩ k
    rw [h2]
    decide
theorem V_NH_told1 {x2 : Int32} {x3 : Int32} {x4 : Int32} {t0_0 : Int32} {t0_1 : Int32} {t1_0 : (Nat → Int32)} {t2_0 : Int32} {t2_1 : Int32} {t3_0 : (Nat → Int32)} {t4_0 : (Nat → Int64)} {t5_0 : (Nat → Int64)} {t6_0 : Int32} {t6_1 : Int32} {t7_0 : (Nat → Int32)} {t8_0 : Int32} {t8_1 : Int32} {t9_0 : (Nat → Int32)} {t10_0 : Int32} {t10_1 : Int32} {t11_0 : (Nat → Int32)} {t12_0 : Int32} {t12_1 : Int32} {t13_0 : (Nat → Int32)} {t14_0 : Int64} {t14_1 : Int32} {t14_2 : Int32} {t15_0 : Int64} {t15_1 : Int32} {t15_2 : Int32} {t16_0 : Int32} {t16_1 : Int32} {t17_0 : (Nat → Int32)} {t18_0 : Int32} {t18_1 : Int32} {t19_0 : Int32} {t19_1 : Int32} {t20_0 : (Nat → Int32)} {q : Int × Int} (hb : dP 108 t19_0 t19_1 t20_0 t18_0 t18_1 q) (h2 : x2 = 1) (h3 : yReg x3) : yTl1 x4 q (F_NH_told x2 x3 x4 t0_0 t0_1 t1_0 t2_0 t2_1 t3_0 t4_0 t5_0 t6_0 t6_1 t7_0 t8_0 t8_1 t9_0 t10_0 t10_1 t11_0 t12_0 t12_1 t13_0 t14_0 t14_1 t14_2 t15_0 t15_1 t15_2 t16_0 t16_1 t17_0 t18_0 t18_1 t19_0 t19_1 t20_0).1 (F_NH_told x2 x3 x4 t0_0 t0_1 t1_0 t2_0 t2_1 t3_0 t4_0 t5_0 t6_0 t6_1 t7_0 t8_0 t8_1 t9_0 t10_0 t10_1 t11_0 t12_0 t12_1 t13_0 t14_0 t14_1 t14_2 t15_0 t15_1 t15_2 t16_0 t16_1 t17_0 t18_0 t18_1 t19_0 t19_1 t20_0).2.1 := by
  have e0 : (0 : Int32).toInt = 0 := rfl
  have e2 : (2 : Int32).toInt = 2 := rfl
  have e3 : (3 : Int32).toInt = 3 := rfl
  intro c hc
  have c1 : 1 ≤ c := hc.1.1
  unfold F_NH_told
  rcases y_needR (x := x2) (y := x3) with ⟨r, _, _⟩ | ⟨r, k⟩
  · rw [if_pos r]
    by_cases g : x4 < 0
    · rw [if_pos g]
      unfold F_NH_told_J14
      rw [if_neg (show ¬ F_NH_need 0 = 0 by decide)]
      have g := q_ltI g
      exact Or.inl ⟨fun h => by omega, by show F_NH_need 0 = 1; decide⟩
    · rw [if_neg g]
      have g := q_nltI g
      unfold F_NH_told_J14
      rw [if_pos (show F_NH_need 1 = 0 by decide), if_neg (show ¬ x2 = 0 by rw [h2]; decide), if_pos h2]
      by_cases d : x4 ≤ 2
      · rw [if_pos d, if_pos (show F_NH_need 1 = 0 by decide)]
        have d := q_leI d
        have h := V_tellD (R := 108) (x3 := x4) (t0_0 := t0_0) (t0_1 := t0_1) (t1_0 := t1_0) (t2_0 := t2_0) (t2_1 := t2_1) (t3_0 := t3_0) hb rfl hc (by omega) (by omega)
        revert h
        generalize F_NH_tellDecimal 108 x4 t0_0 t0_1 t1_0 t2_0 t2_1 t3_0 t18_0 t18_1 t19_0 t19_1 t20_0 = p
        intro h
        unfold F_NH_told_c87
        exact Or.inr ⟨⟨by omega, by omega⟩, rfl, h⟩
      · rw [if_neg d]
        have d := q_nleI d
        have s := q_subI (a := x4) (b := 3) rfl e3 (by omega) (by have := q_hi32 (x := x4); omega)
        have hfc : t18_1.toInt = (c : Int) := by
          obtain ⟨_, ⟨c2, k1, k2, _⟩, _⟩ := hb
          rw [k1]
          rcases yDt_vG k2 with ⟨z, k, _⟩ | ⟨z, k⟩
          · rcases yDt_vG hc with ⟨_, k', _⟩ | ⟨z', _⟩
            · rw [k, k']
            · exact absurd z z'
          · rcases yDt_vG hc with ⟨z', _, _⟩ | ⟨_, k'⟩
            · exact absurd z' z
            · rw [yDt_U k k']
        by_cases e : t18_1 ≤ (x4 - 3)
        · rw [if_pos e, if_neg (show ¬ F_NH_need 0 = 0 by decide)]
          have e := q_leI e
          exact Or.inl ⟨fun h => by omega, by show F_NH_need 0 = 1; decide⟩
        · rw [if_neg e, if_pos (show F_NH_need 1 = 0 by decide)]
          have e := q_nleI e
          have h := V_tellD (R := 108) (x3 := x4) (t0_0 := t0_0) (t0_1 := t0_1) (t1_0 := t1_0) (t2_0 := t2_0) (t2_1 := t2_1) (t3_0 := t3_0) hb rfl hc (by omega) (by omega)
          revert h
          generalize F_NH_tellDecimal 108 x4 t0_0 t0_1 t1_0 t2_0 t2_1 t3_0 t18_0 t18_1 t19_0 t19_1 t20_0 = p
          intro h
          unfold F_NH_told_c87_9
          exact Or.inr ⟨⟨by omega, by omega⟩, rfl, h⟩
  · refine absurd ⟨?_, h3⟩ k
    rw [h2]
    decide
theorem y_wtn {x2 : Int32} {x3 : Int32} {t0_0 : Int32} {t0_1 : Int32} {t0_2 : Int32} {t0_3 : Int32} {t0_4 : Int32} {t0_5 : Int32} {t0_6 : Int32} {t1_0 : (Nat → Int32)} {t2_0 : (Nat → Int32)} (h : 4 < x3.toInt) : (F_WR_told x2 x3 t0_0 t0_1 t0_2 t0_3 t0_4 t0_5 t0_6 t1_0 t2_0).2.1 = 1 := by
  have e0 : (0 : Int32).toInt = 0 := rfl
  have e4 : (4 : Int32).toInt = 4 := rfl
  have k : ∀ p, p = F_WR_told_J17 x2 x3 t0_0 t0_1 t0_2 t0_3 t0_4 t0_5 t0_6 t1_0 t2_0 → p.2.1 = 1 := by
    intro p hp
    unfold F_WR_told_J17 F_WR_told_J22 at hp
    rw [if_neg (show ¬ (1 : Int32) ≤ 0 by decide)] at hp
    rw [hp]
  unfold F_WR_told
  by_cases c : F_WR_no x2 = 0
  · rw [if_pos c, if_neg (show ¬ x3 < 0 from fun c => by have := q_ltI c; omega), if_neg (show ¬ x3 ≤ 4 from fun c => by have := q_leI c; omega)]
    exact k _ rfl
  · rw [if_neg c]
    exact k _ rfl
theorem V_DR_told {x2 : Int32} {x3 : Int32} {t0_0 : Int32} {t0_1 : Int32} {t0_2 : Int32} {t0_3 : Int64} {t0_4 : Int32} {t0_5 : Int32} {t0_6 : Int32} {t0_7 : Int32} {t0_8 : Int32} {t0_9 : Int32} {t0_10 : Int32} {t1_0 : (Nat → Int32)} {t2_0 : (Nat → Int32)} {t3_0 : (Nat → Int32)} {t4_0 : (Nat → Int32)} {D : Nat → Int × Int} {c : Nat} (hD : dRv t1_0 t2_0 t3_0 t4_0 D) (hx2 : yReg x2) (hx0 : 0 ≤ x3.toInt) (hc : vG (D x2.toNatClampNeg).1 c) : (¬ x3.toInt - 3 < (c : Int) ∧ (F_DR_told x2 x3 t0_0 t0_1 t0_2 t0_3 t0_4 t0_5 t0_6 t0_7 t0_8 t0_9 t0_10 t1_0 t2_0 t3_0 t4_0).2.1 = 2) ∨ (x3.toInt - 3 < (c : Int) ∧ (F_DR_told x2 x3 t0_0 t0_1 t0_2 t0_3 t0_4 t0_5 t0_6 t0_7 t0_8 t0_9 t0_10 t1_0 t2_0 t3_0 t4_0).2.1 = 0 ∧ yTd x3 (D x2.toNatClampNeg) c (F_DR_told x2 x3 t0_0 t0_1 t0_2 t0_3 t0_4 t0_5 t0_6 t0_7 t0_8 t0_9 t0_10 t1_0 t2_0 t3_0 t4_0).1.toInt) := by
  have e0 : (0 : Int32).toInt = 0 := rfl
  have e1 : (1 : Int32).toInt = 1 := rfl
  have e2 : (2 : Int32).toInt = 2 := rfl
  have e3 : (3 : Int32).toInt = 3 := rfl
  have xc := q_clI (i := x2) rfl hx2.1
  have x9 := hx2.2
  obtain ⟨ho, hR⟩ := hD
  obtain ⟨m1, m2, m3, m4, m5, m6, m7⟩ := hR x2.toNatClampNeg (by omega)
  have mc := q_clI (i := t2_0 x2.toNatClampNeg) rfl (by omega)
  have hcm : c = (t2_0 x2.toNatClampNeg).toNatClampNeg := by
    rcases yDt_vG hc with ⟨z, k, _⟩ | ⟨z, k⟩
    · rcases yDt_vG m3 with ⟨_, k', _⟩ | ⟨z', _⟩
      · rw [k, k']
      · exact absurd z z'
    · rcases yDt_vG m3 with ⟨z', _, _⟩ | ⟨_, k'⟩
      · exact absurd z' z
      · exact yDt_U k k'
  have go : gO (fun j => t1_0 (1000 * x2.toNatClampNeg + j)) c := fun i hi => ho _ (by omega)
  unfold F_DR_told
  rw [if_pos (g_no0 hx2), if_neg (show ¬ x3 < 0 from fun c => by have := q_ltI c; omega)]
  have s := q_subI (a := x3) (b := 3) rfl e3 (by omega) (by have := q_hi32 (x := x3); omega)
  by_cases g : (x3 - 3) < t2_0 x2.toNatClampNeg
  · rw [if_pos g]
    have g := q_ltI g
    refine Or.inr ⟨by omega, ?_⟩
    unfold F_DR_told_J33
    rw [if_pos (show (0 : Int32) ≤ 0 by decide)]
    by_cases c0 : x3 = 0
    · rw [if_pos c0]
      by_cases z : F_DR_isZero x2 0 t0_1 t0_2 t0_3 t0_4 t0_5 t0_6 t0_7 t0_8 t0_9 t0_10 t1_0 = 0
      · rw [if_pos z]
        have nz : (D x2.toNatClampNeg).1 ≠ 0 := fun hz => by
          have di := d_iz (t0_0 := 0) (t0_1 := t0_1) (t0_2 := t0_2) (t0_3 := t0_3) (t0_4 := t0_4) (t0_5 := t0_5) (t0_6 := t0_6) (t0_7 := t0_7) (t0_8 := t0_8) (t0_9 := t0_9) (t0_10 := t0_10) (show dRv t1_0 t2_0 t3_0 t4_0 D from ⟨ho, hR⟩) hx2
          rw [if_pos hz, z] at di
          exact absurd di (by decide)
        by_cases n : t3_0 x2.toNatClampNeg = 0
        · rw [if_pos n]
          rw [m4] at n
          have : ¬ (D x2.toNatClampNeg).1 < 0 := fun h => by rw [if_pos h] at n; exact absurd n (by decide)
          exact ⟨rfl, Or.inl ⟨c0, Or.inr (Or.inl ⟨by omega, rfl⟩)⟩⟩
        · rw [if_neg n]
          rw [m4] at n
          have : (D x2.toNatClampNeg).1 < 0 := Classical.byContradiction (fun h => n (by rw [if_neg h]))
          exact ⟨rfl, Or.inl ⟨c0, Or.inr (Or.inr ⟨this, rfl⟩)⟩⟩
      · rw [if_neg z]
        exact ⟨rfl, Or.inl ⟨c0, Or.inl ⟨Classical.byContradiction (fun nz => z (by
          have di := d_iz (t0_0 := 0) (t0_1 := t0_1) (t0_2 := t0_2) (t0_3 := t0_3) (t0_4 := t0_4) (t0_5 := t0_5) (t0_6 := t0_6) (t0_7 := t0_7) (t0_8 := t0_8) (t0_9 := t0_9) (t0_10 := t0_10) (show dRv t1_0 t2_0 t3_0 t4_0 D from ⟨ho, hR⟩) hx2
          rw [if_neg nz] at di
          exact di)), rfl⟩⟩⟩
    · rw [if_neg c0]
      by_cases c1 : x3 = 1
      · rw [if_pos c1]
        exact ⟨rfl, Or.inr (Or.inl ⟨c1, m5⟩)⟩
      · rw [if_neg c1]
        by_cases c2 : x3 = 2
        · rw [if_pos c2]
          exact ⟨rfl, Or.inr (Or.inr (Or.inl ⟨c2, by show (t2_0 x2.toNatClampNeg).toInt = _; omega⟩))⟩
        · rw [if_neg c2]
          have n0 : x3.toInt ≠ 0 := fun k => c0 (Int32.toInt_inj.mp k)
          have n1 : x3.toInt ≠ 1 := fun k => c1 (Int32.toInt_inj.mp k)
          have n2 : x3.toInt ≠ 2 := fun k => c2 (Int32.toInt_inj.mp k)
          refine ⟨rfl, Or.inr (Or.inr (Or.inr ⟨by omega, ?_⟩))⟩
          obtain ⟨i, hi⟩ : ∃ i : Nat, x3.toInt - 3 = (i : Int) := ⟨(x3.toInt - 3).toNat, by omega⟩
          have a1 : (1000 * x2 : Int32).toInt = 1000 * x2.toInt := g_i0 hx2
          have a2 := q_addI (b := x3) a1 rfl (by omega) (by omega)
          have a3 := q_subI a2 e3 (by omega) (by omega)
          have a4 : ((1000 * x2 + x3 - 3 : Int32)).toNatClampNeg = 1000 * x2.toNatClampNeg + i := by
            have := q_clI a3 (by omega)
            omega
          show (t1_0 ((1000 * x2 + x3 - 3 : Int32)).toNatClampNeg).toInt = _
          rw [a4, show (x3.toInt - 3).toNat = i from by omega]
          have ud := u_dig (i := i) go (by omega)
          rw [hcm, m2, ← hcm] at ud
          rw [← ud]
          unfold yFg yLo
          rw [Int.natCast_emod, Int.natCast_ediv, Int.natCast_pow]
          rfl
  · rw [if_neg g]
    have g := q_nltI g
    refine Or.inl ⟨by omega, ?_⟩
    unfold F_DR_told_J28 F_DR_told_J33
    rw [if_neg (show ¬ (2 : Int32) ≤ 0 by decide)]
