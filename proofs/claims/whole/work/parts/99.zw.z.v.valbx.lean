/-! values, for whole: put on both sides -/
theorem y_p1000 {x : Int64} : x.toInt.natAbs < 10 ^ 1000 := by
  have h1 := Int64.le_toInt x
  have h2 := Int64.toInt_lt x
  have h3 : x.toInt.natAbs ≤ 9223372036854775808 := by omega
  exact Nat.lt_of_le_of_lt h3 (by decide +kernel)
theorem y_fitL {x : Int64} : dFit (x.toInt, 0) := ⟨y_p1000, by show (-10000 : Int) ≤ 0; omega, by show (0 : Int) ≤ 10000; omega⟩
theorem y_b3 {x : Int64} : bB 3 x.toInt := by
  have h1 := Int64.le_toInt x
  have h2 := Int64.toInt_lt x
  have h3 : x.toInt.natAbs ≤ 9223372036854775808 := by omega
  show _ < _
  exact Nat.lt_of_le_of_lt h3 (by decide +kernel)
def yHi (x : Int64) : Prop := lg_cmp ((x.toUInt64 >>> ((32 : Int32).toInt64.toUInt64 &&& Int64.toUInt64 63)).toInt64) 0 = 0
def yPutOk (k r : Int32) (x : Int64) : Prop := (0 ≤ k.toInt ∧ k.toInt ≤ 3) ∧ yReg r ∧ (k = 3 → yHi x)
theorem y_needR {x y : Int32} : (F_NH_needRegister x y = 0 ∧ (0 ≤ x.toInt ∧ x.toInt ≤ 3) ∧ yReg y) ∨ (F_NH_needRegister x y = 1 ∧ ¬ ((0 ≤ x.toInt ∧ x.toInt ≤ 3) ∧ yReg y)) := by
  have e0 : (0 : Int32).toInt = 0 := rfl
  have e3 : (3 : Int32).toInt = 3 := rfl
  have n0 : F_NH_need 0 = 1 := by decide
  have n1 : F_NH_need 1 = 0 := by decide
  unfold F_NH_needRegister
  rw [n0, n1, if_neg (show ¬ (1 : Int32) = 0 by decide), if_pos (rfl : (0 : Int32) = 0)]
  by_cases c1 : x < 0
  · rw [if_pos c1]
    have c1 := q_ltI c1
    exact Or.inr ⟨rfl, fun h => by have := h.1; omega⟩
  · rw [if_neg c1]
    have c1 := q_nltI c1
    by_cases c2 : (3 : Int32) < x
    · rw [if_pos c2]
      have c2 := q_ltI c2
      exact Or.inr ⟨rfl, fun h => by have := h.1; omega⟩
    · rw [if_neg c2]
      have c2 := q_nltI c2
      rcases y_isR (x := y) with ⟨r, d⟩ | ⟨r, d⟩
      · rw [if_pos r]
        exact Or.inr ⟨rfl, fun h => d h.2⟩
      · rw [if_neg (show ¬ F_NH_isRegister y = 0 by rw [r]; decide)]
        exact Or.inl ⟨rfl, ⟨by omega, by omega⟩, d⟩
theorem y_x0123 {x : Int32} (c1 : 0 ≤ x.toInt) (c2 : x.toInt ≤ 3) : x = 0 ∨ x = 1 ∨ x = 2 ∨ x = 3 := by
  have e0 : (0 : Int32).toInt = 0 := rfl
  have e1 : (1 : Int32).toInt = 1 := rfl
  have e2 : (2 : Int32).toInt = 2 := rfl
  have e3 : (3 : Int32).toInt = 3 := rfl
  have : x.toInt = 0 ∨ x.toInt = 1 ∨ x.toInt = 2 ∨ x.toInt = 3 := by omega
  rcases this with h | h | h | h
  · exact Or.inl (Int32.toInt.inj (by rw [h, e0]))
  · exact Or.inr (Or.inl (Int32.toInt.inj (by rw [h, e1])))
  · exact Or.inr (Or.inr (Or.inl (Int32.toInt.inj (by rw [h, e2]))))
  · exact Or.inr (Or.inr (Or.inr (Int32.toInt.inj (by rw [h, e3]))))
def yPut (k r : Int32) (x : Int64) (W0 W1 : Prop) (D0 D1 : Prop) (a a' b b' : Nat → Int64) : Prop := (k = 0 ∧ W1 ∧ D0 ∧ a' = a ∧ b' = b) ∨ (k = 1 ∧ W0 ∧ D1 ∧ a' = a ∧ b' = b) ∨ (k = 2 ∧ W0 ∧ D0 ∧ a' = vp_updL a r.toNatClampNeg x ∧ b' = b) ∨ (k = 3 ∧ W0 ∧ D0 ∧ a' = a ∧ b' = vp_updL b r.toNatClampNeg x)
theorem V_putJ {x2 : Int32} {x3 : Int32} {x4 : Int64} {t0_0 : Int64} {t0_1 : Int32} {t1_0 : Int32} {t1_1 : Int32} {t2_0 : (Nat → Int32)} {t3_0 : Int32} {t3_1 : Int32} {t4_0 : (Nat → Int32)} {t5_0 : (Nat → Int64)} {t6_0 : (Nat → Int64)} {t7_0 : Int32} {t7_1 : Int32} {t8_0 : (Nat → Int32)} {t9_0 : Int32} {t9_1 : Int32} {t10_0 : Int32} {t10_1 : Int32} {t11_0 : (Nat → Int32)} {lx55 : Int32} {vt : Int} {qt : Int × Int} (hw : bO 68 t7_0 t7_1 t8_0 vt) (hd : dP 108 t10_0 t10_1 t11_0 t9_0 t9_1 qt) (h2 : 0 ≤ x2.toInt ∧ x2.toInt ≤ 3) (hl : lx55 = 1) : (F_NH_put_J24 x2 x3 x4 t0_0 t0_1 t1_0 t1_1 t2_0 t3_0 t3_1 t4_0 t5_0 t6_0 t7_0 t7_1 t8_0 t9_0 t9_1 t10_0 t10_1 t11_0 lx55).1 = 0 ∧ yPut x2 x3 x4 (bO 68 (F_NH_put_J24 x2 x3 x4 t0_0 t0_1 t1_0 t1_1 t2_0 t3_0 t3_1 t4_0 t5_0 t6_0 t7_0 t7_1 t8_0 t9_0 t9_1 t10_0 t10_1 t11_0 lx55).2.2.2.2.2.2.2.2.2.1 (F_NH_put_J24 x2 x3 x4 t0_0 t0_1 t1_0 t1_1 t2_0 t3_0 t3_1 t4_0 t5_0 t6_0 t7_0 t7_1 t8_0 t9_0 t9_1 t10_0 t10_1 t11_0 lx55).2.2.2.2.2.2.2.2.2.2.1 (F_NH_put_J24 x2 x3 x4 t0_0 t0_1 t1_0 t1_1 t2_0 t3_0 t3_1 t4_0 t5_0 t6_0 t7_0 t7_1 t8_0 t9_0 t9_1 t10_0 t10_1 t11_0 lx55).2.2.2.2.2.2.2.2.2.2.2.1 vt) (bO 68 (F_NH_put_J24 x2 x3 x4 t0_0 t0_1 t1_0 t1_1 t2_0 t3_0 t3_1 t4_0 t5_0 t6_0 t7_0 t7_1 t8_0 t9_0 t9_1 t10_0 t10_1 t11_0 lx55).2.2.2.2.2.2.2.2.2.1 (F_NH_put_J24 x2 x3 x4 t0_0 t0_1 t1_0 t1_1 t2_0 t3_0 t3_1 t4_0 t5_0 t6_0 t7_0 t7_1 t8_0 t9_0 t9_1 t10_0 t10_1 t11_0 lx55).2.2.2.2.2.2.2.2.2.2.1 (F_NH_put_J24 x2 x3 x4 t0_0 t0_1 t1_0 t1_1 t2_0 t3_0 t3_1 t4_0 t5_0 t6_0 t7_0 t7_1 t8_0 t9_0 t9_1 t10_0 t10_1 t11_0 lx55).2.2.2.2.2.2.2.2.2.2.2.1 x4.toInt) (dP 108 (F_NH_put_J24 x2 x3 x4 t0_0 t0_1 t1_0 t1_1 t2_0 t3_0 t3_1 t4_0 t5_0 t6_0 t7_0 t7_1 t8_0 t9_0 t9_1 t10_0 t10_1 t11_0 lx55).2.2.2.2.2.2.2.2.2.2.2.2.2.2.1 (F_NH_put_J24 x2 x3 x4 t0_0 t0_1 t1_0 t1_1 t2_0 t3_0 t3_1 t4_0 t5_0 t6_0 t7_0 t7_1 t8_0 t9_0 t9_1 t10_0 t10_1 t11_0 lx55).2.2.2.2.2.2.2.2.2.2.2.2.2.2.2.1 (F_NH_put_J24 x2 x3 x4 t0_0 t0_1 t1_0 t1_1 t2_0 t3_0 t3_1 t4_0 t5_0 t6_0 t7_0 t7_1 t8_0 t9_0 t9_1 t10_0 t10_1 t11_0 lx55).2.2.2.2.2.2.2.2.2.2.2.2.2.2.2.2 (F_NH_put_J24 x2 x3 x4 t0_0 t0_1 t1_0 t1_1 t2_0 t3_0 t3_1 t4_0 t5_0 t6_0 t7_0 t7_1 t8_0 t9_0 t9_1 t10_0 t10_1 t11_0 lx55).2.2.2.2.2.2.2.2.2.2.2.2.1 (F_NH_put_J24 x2 x3 x4 t0_0 t0_1 t1_0 t1_1 t2_0 t3_0 t3_1 t4_0 t5_0 t6_0 t7_0 t7_1 t8_0 t9_0 t9_1 t10_0 t10_1 t11_0 lx55).2.2.2.2.2.2.2.2.2.2.2.2.2.1 qt) (dP 108 (F_NH_put_J24 x2 x3 x4 t0_0 t0_1 t1_0 t1_1 t2_0 t3_0 t3_1 t4_0 t5_0 t6_0 t7_0 t7_1 t8_0 t9_0 t9_1 t10_0 t10_1 t11_0 lx55).2.2.2.2.2.2.2.2.2.2.2.2.2.2.1 (F_NH_put_J24 x2 x3 x4 t0_0 t0_1 t1_0 t1_1 t2_0 t3_0 t3_1 t4_0 t5_0 t6_0 t7_0 t7_1 t8_0 t9_0 t9_1 t10_0 t10_1 t11_0 lx55).2.2.2.2.2.2.2.2.2.2.2.2.2.2.2.1 (F_NH_put_J24 x2 x3 x4 t0_0 t0_1 t1_0 t1_1 t2_0 t3_0 t3_1 t4_0 t5_0 t6_0 t7_0 t7_1 t8_0 t9_0 t9_1 t10_0 t10_1 t11_0 lx55).2.2.2.2.2.2.2.2.2.2.2.2.2.2.2.2 (F_NH_put_J24 x2 x3 x4 t0_0 t0_1 t1_0 t1_1 t2_0 t3_0 t3_1 t4_0 t5_0 t6_0 t7_0 t7_1 t8_0 t9_0 t9_1 t10_0 t10_1 t11_0 lx55).2.2.2.2.2.2.2.2.2.2.2.2.1 (F_NH_put_J24 x2 x3 x4 t0_0 t0_1 t1_0 t1_1 t2_0 t3_0 t3_1 t4_0 t5_0 t6_0 t7_0 t7_1 t8_0 t9_0 t9_1 t10_0 t10_1 t11_0 lx55).2.2.2.2.2.2.2.2.2.2.2.2.2.1 (x4.toInt, 0)) t5_0 (F_NH_put_J24 x2 x3 x4 t0_0 t0_1 t1_0 t1_1 t2_0 t3_0 t3_1 t4_0 t5_0 t6_0 t7_0 t7_1 t8_0 t9_0 t9_1 t10_0 t10_1 t11_0 lx55).2.2.2.2.2.2.2.1 t6_0 (F_NH_put_J24 x2 x3 x4 t0_0 t0_1 t1_0 t1_1 t2_0 t3_0 t3_1 t4_0 t5_0 t6_0 t7_0 t7_1 t8_0 t9_0 t9_1 t10_0 t10_1 t11_0 lx55).2.2.2.2.2.2.2.2.1 := by
  unfold F_NH_put_J24
  rw [hl, if_pos (show F_NH_need 1 = 0 by decide)]
  rcases y_x0123 h2.1 h2.2 with c | c | c | c
  · rw [if_pos c]
    have h := W_setLong (R := 68) (x := x4) (s := t7_0) (neg := t7_1) (f := t8_0) (by decide) (by decide)
    revert h
    generalize F_Big_setLong 68 x4 t7_0 t7_1 t8_0 = p
    intro h
    unfold F_NH_put_c38
    exact ⟨rfl, Or.inl ⟨c, h, hd, rfl, rfl⟩⟩
  · rw [if_neg (show ¬ x2 = 0 by rw [c]; decide), if_pos c]
    have h := W_setLong (R := 220) (x := x4) (s := t1_0) (neg := t1_1) (f := t2_0) (by decide) (by decide)
    revert h
    generalize F_Big_setLong 220 x4 t1_0 t1_1 t2_0 = p
    intro h
    unfold F_NH_put_c57
    have k := V_settle (R := 220) (x3 := 0) (R2 := 108) (t0_0 := t3_0) (t0_1 := t3_1) (t1_0 := t4_0) (M := 3) h y_b3 (by decide) trivial (by decide) (by decide) hd
    revert k
    generalize F_DW_settle 220 0 108 t3_0 t3_1 t4_0 p.1 p.2.1 p.2.2 t9_0 t9_1 t10_0 t10_1 t11_0 = r
    intro k
    unfold F_NH_put_c78
    refine ⟨rfl, Or.inr (Or.inl ⟨c, hw, ?_, rfl, rfl⟩)⟩
    rcases k with ⟨_, k, _⟩ | ⟨_, _, k⟩
    · exact absurd y_fitL k
    · exact k
  · rw [if_neg (show ¬ x2 = 0 by rw [c]; decide), if_neg (show ¬ x2 = 1 by rw [c]; decide), if_pos c]
    exact ⟨rfl, Or.inr (Or.inr (Or.inl ⟨c, hw, hd, rfl, rfl⟩))⟩
  · rw [if_neg (show ¬ x2 = 0 by rw [c]; decide), if_neg (show ¬ x2 = 1 by rw [c]; decide), if_neg (show ¬ x2 = 2 by rw [c]; decide)]
    exact ⟨rfl, Or.inr (Or.inr (Or.inr ⟨c, hw, hd, rfl, rfl⟩))⟩
theorem V_NH_put {x2 : Int32} {x3 : Int32} {x4 : Int64} {t0_0 : Int64} {t0_1 : Int32} {t1_0 : Int32} {t1_1 : Int32} {t2_0 : (Nat → Int32)} {t3_0 : Int32} {t3_1 : Int32} {t4_0 : (Nat → Int32)} {t5_0 : (Nat → Int64)} {t6_0 : (Nat → Int64)} {t7_0 : Int32} {t7_1 : Int32} {t8_0 : (Nat → Int32)} {t9_0 : Int32} {t9_1 : Int32} {t10_0 : Int32} {t10_1 : Int32} {t11_0 : (Nat → Int32)} {vt : Int} {qt : Int × Int} (hw : bO 68 t7_0 t7_1 t8_0 vt) (hd : dP 108 t10_0 t10_1 t11_0 t9_0 t9_1 qt) : (yPutOk x2 x3 x4 ∧ (F_NH_put x2 x3 x4 t0_0 t0_1 t1_0 t1_1 t2_0 t3_0 t3_1 t4_0 t5_0 t6_0 t7_0 t7_1 t8_0 t9_0 t9_1 t10_0 t10_1 t11_0).1 = 0 ∧ yPut x2 x3 x4 (bO 68 (F_NH_put x2 x3 x4 t0_0 t0_1 t1_0 t1_1 t2_0 t3_0 t3_1 t4_0 t5_0 t6_0 t7_0 t7_1 t8_0 t9_0 t9_1 t10_0 t10_1 t11_0).2.2.2.2.2.2.2.2.2.1 (F_NH_put x2 x3 x4 t0_0 t0_1 t1_0 t1_1 t2_0 t3_0 t3_1 t4_0 t5_0 t6_0 t7_0 t7_1 t8_0 t9_0 t9_1 t10_0 t10_1 t11_0).2.2.2.2.2.2.2.2.2.2.1 (F_NH_put x2 x3 x4 t0_0 t0_1 t1_0 t1_1 t2_0 t3_0 t3_1 t4_0 t5_0 t6_0 t7_0 t7_1 t8_0 t9_0 t9_1 t10_0 t10_1 t11_0).2.2.2.2.2.2.2.2.2.2.2.1 vt) (bO 68 (F_NH_put x2 x3 x4 t0_0 t0_1 t1_0 t1_1 t2_0 t3_0 t3_1 t4_0 t5_0 t6_0 t7_0 t7_1 t8_0 t9_0 t9_1 t10_0 t10_1 t11_0).2.2.2.2.2.2.2.2.2.1 (F_NH_put x2 x3 x4 t0_0 t0_1 t1_0 t1_1 t2_0 t3_0 t3_1 t4_0 t5_0 t6_0 t7_0 t7_1 t8_0 t9_0 t9_1 t10_0 t10_1 t11_0).2.2.2.2.2.2.2.2.2.2.1 (F_NH_put x2 x3 x4 t0_0 t0_1 t1_0 t1_1 t2_0 t3_0 t3_1 t4_0 t5_0 t6_0 t7_0 t7_1 t8_0 t9_0 t9_1 t10_0 t10_1 t11_0).2.2.2.2.2.2.2.2.2.2.2.1 x4.toInt) (dP 108 (F_NH_put x2 x3 x4 t0_0 t0_1 t1_0 t1_1 t2_0 t3_0 t3_1 t4_0 t5_0 t6_0 t7_0 t7_1 t8_0 t9_0 t9_1 t10_0 t10_1 t11_0).2.2.2.2.2.2.2.2.2.2.2.2.2.2.1 (F_NH_put x2 x3 x4 t0_0 t0_1 t1_0 t1_1 t2_0 t3_0 t3_1 t4_0 t5_0 t6_0 t7_0 t7_1 t8_0 t9_0 t9_1 t10_0 t10_1 t11_0).2.2.2.2.2.2.2.2.2.2.2.2.2.2.2.1 (F_NH_put x2 x3 x4 t0_0 t0_1 t1_0 t1_1 t2_0 t3_0 t3_1 t4_0 t5_0 t6_0 t7_0 t7_1 t8_0 t9_0 t9_1 t10_0 t10_1 t11_0).2.2.2.2.2.2.2.2.2.2.2.2.2.2.2.2 (F_NH_put x2 x3 x4 t0_0 t0_1 t1_0 t1_1 t2_0 t3_0 t3_1 t4_0 t5_0 t6_0 t7_0 t7_1 t8_0 t9_0 t9_1 t10_0 t10_1 t11_0).2.2.2.2.2.2.2.2.2.2.2.2.1 (F_NH_put x2 x3 x4 t0_0 t0_1 t1_0 t1_1 t2_0 t3_0 t3_1 t4_0 t5_0 t6_0 t7_0 t7_1 t8_0 t9_0 t9_1 t10_0 t10_1 t11_0).2.2.2.2.2.2.2.2.2.2.2.2.2.1 qt) (dP 108 (F_NH_put x2 x3 x4 t0_0 t0_1 t1_0 t1_1 t2_0 t3_0 t3_1 t4_0 t5_0 t6_0 t7_0 t7_1 t8_0 t9_0 t9_1 t10_0 t10_1 t11_0).2.2.2.2.2.2.2.2.2.2.2.2.2.2.1 (F_NH_put x2 x3 x4 t0_0 t0_1 t1_0 t1_1 t2_0 t3_0 t3_1 t4_0 t5_0 t6_0 t7_0 t7_1 t8_0 t9_0 t9_1 t10_0 t10_1 t11_0).2.2.2.2.2.2.2.2.2.2.2.2.2.2.2.1 (F_NH_put x2 x3 x4 t0_0 t0_1 t1_0 t1_1 t2_0 t3_0 t3_1 t4_0 t5_0 t6_0 t7_0 t7_1 t8_0 t9_0 t9_1 t10_0 t10_1 t11_0).2.2.2.2.2.2.2.2.2.2.2.2.2.2.2.2 (F_NH_put x2 x3 x4 t0_0 t0_1 t1_0 t1_1 t2_0 t3_0 t3_1 t4_0 t5_0 t6_0 t7_0 t7_1 t8_0 t9_0 t9_1 t10_0 t10_1 t11_0).2.2.2.2.2.2.2.2.2.2.2.2.1 (F_NH_put x2 x3 x4 t0_0 t0_1 t1_0 t1_1 t2_0 t3_0 t3_1 t4_0 t5_0 t6_0 t7_0 t7_1 t8_0 t9_0 t9_1 t10_0 t10_1 t11_0).2.2.2.2.2.2.2.2.2.2.2.2.2.1 (x4.toInt, 0)) t5_0 (F_NH_put x2 x3 x4 t0_0 t0_1 t1_0 t1_1 t2_0 t3_0 t3_1 t4_0 t5_0 t6_0 t7_0 t7_1 t8_0 t9_0 t9_1 t10_0 t10_1 t11_0).2.2.2.2.2.2.2.1 t6_0 (F_NH_put x2 x3 x4 t0_0 t0_1 t1_0 t1_1 t2_0 t3_0 t3_1 t4_0 t5_0 t6_0 t7_0 t7_1 t8_0 t9_0 t9_1 t10_0 t10_1 t11_0).2.2.2.2.2.2.2.2.1) ∨ (¬ yPutOk x2 x3 x4 ∧ (F_NH_put x2 x3 x4 t0_0 t0_1 t1_0 t1_1 t2_0 t3_0 t3_1 t4_0 t5_0 t6_0 t7_0 t7_1 t8_0 t9_0 t9_1 t10_0 t10_1 t11_0).1 = 1 ∧ bO 68 (F_NH_put x2 x3 x4 t0_0 t0_1 t1_0 t1_1 t2_0 t3_0 t3_1 t4_0 t5_0 t6_0 t7_0 t7_1 t8_0 t9_0 t9_1 t10_0 t10_1 t11_0).2.2.2.2.2.2.2.2.2.1 (F_NH_put x2 x3 x4 t0_0 t0_1 t1_0 t1_1 t2_0 t3_0 t3_1 t4_0 t5_0 t6_0 t7_0 t7_1 t8_0 t9_0 t9_1 t10_0 t10_1 t11_0).2.2.2.2.2.2.2.2.2.2.1 (F_NH_put x2 x3 x4 t0_0 t0_1 t1_0 t1_1 t2_0 t3_0 t3_1 t4_0 t5_0 t6_0 t7_0 t7_1 t8_0 t9_0 t9_1 t10_0 t10_1 t11_0).2.2.2.2.2.2.2.2.2.2.2.1 vt ∧ dP 108 (F_NH_put x2 x3 x4 t0_0 t0_1 t1_0 t1_1 t2_0 t3_0 t3_1 t4_0 t5_0 t6_0 t7_0 t7_1 t8_0 t9_0 t9_1 t10_0 t10_1 t11_0).2.2.2.2.2.2.2.2.2.2.2.2.2.2.1 (F_NH_put x2 x3 x4 t0_0 t0_1 t1_0 t1_1 t2_0 t3_0 t3_1 t4_0 t5_0 t6_0 t7_0 t7_1 t8_0 t9_0 t9_1 t10_0 t10_1 t11_0).2.2.2.2.2.2.2.2.2.2.2.2.2.2.2.1 (F_NH_put x2 x3 x4 t0_0 t0_1 t1_0 t1_1 t2_0 t3_0 t3_1 t4_0 t5_0 t6_0 t7_0 t7_1 t8_0 t9_0 t9_1 t10_0 t10_1 t11_0).2.2.2.2.2.2.2.2.2.2.2.2.2.2.2.2 (F_NH_put x2 x3 x4 t0_0 t0_1 t1_0 t1_1 t2_0 t3_0 t3_1 t4_0 t5_0 t6_0 t7_0 t7_1 t8_0 t9_0 t9_1 t10_0 t10_1 t11_0).2.2.2.2.2.2.2.2.2.2.2.2.1 (F_NH_put x2 x3 x4 t0_0 t0_1 t1_0 t1_1 t2_0 t3_0 t3_1 t4_0 t5_0 t6_0 t7_0 t7_1 t8_0 t9_0 t9_1 t10_0 t10_1 t11_0).2.2.2.2.2.2.2.2.2.2.2.2.2.1 qt ∧ (F_NH_put x2 x3 x4 t0_0 t0_1 t1_0 t1_1 t2_0 t3_0 t3_1 t4_0 t5_0 t6_0 t7_0 t7_1 t8_0 t9_0 t9_1 t10_0 t10_1 t11_0).2.2.2.2.2.2.2.1 = t5_0 ∧ (F_NH_put x2 x3 x4 t0_0 t0_1 t1_0 t1_1 t2_0 t3_0 t3_1 t4_0 t5_0 t6_0 t7_0 t7_1 t8_0 t9_0 t9_1 t10_0 t10_1 t11_0).2.2.2.2.2.2.2.2.1 = t6_0) := by
  unfold F_NH_put
  rcases y_needR (x := x2) (y := x3) with ⟨r, h2, h3⟩ | ⟨r, h2⟩
  · rw [if_pos r]
    by_cases c : x2 = 3
    · rw [if_pos c]
      by_cases d : yHi x4
      · have d' := d
        unfold yHi at d'
        rw [if_pos d']
        unfold F_NH_put_J19
        exact Or.inl ⟨⟨h2, h3, fun _ => d⟩, V_putJ hw hd h2 rfl⟩
      · have d' := d
        unfold yHi at d'
        rw [if_neg d']
        refine Or.inr ⟨fun h => d (h.2.2 c), ?_⟩
        unfold F_NH_put_J24
        rw [if_neg (show ¬ F_NH_need 0 = 0 by decide)]
        exact ⟨by show F_NH_need 0 = 1; decide, hw, hd, rfl, rfl⟩
    · rw [if_neg c]
      unfold F_NH_put_J19
      exact Or.inl ⟨⟨h2, h3, fun h => absurd h c⟩, V_putJ hw hd h2 rfl⟩
  · rw [if_neg (show ¬ F_NH_needRegister x2 x3 = 0 by rw [r]; decide)]
    exact Or.inr ⟨fun h => h2 ⟨h.1, h.2.1⟩, r, hw, hd, rfl, rfl⟩
theorem y_noII {x y : Int32} : (F_NM_no_IIZ x y = 0 ∧ (0 ≤ x.toInt ∧ x.toInt ≤ 3) ∧ yReg y) ∨ (F_NM_no_IIZ x y = 1 ∧ ¬ ((0 ≤ x.toInt ∧ x.toInt ≤ 3) ∧ yReg y)) := by
  have e0 : (0 : Int32).toInt = 0 := rfl
  have e3 : (3 : Int32).toInt = 3 := rfl
  unfold F_NM_no_IIZ
  by_cases c1 : x < 0
  · rw [if_pos c1]
    have c1 := q_ltI c1
    exact Or.inr ⟨rfl, fun h => by have := h.1; omega⟩
  · rw [if_neg c1]
    have c1 := q_nltI c1
    by_cases c2 : (3 : Int32) < x
    · rw [if_pos c2]
      have c2 := q_ltI c2
      exact Or.inr ⟨rfl, fun h => by have := h.1; omega⟩
    · rw [if_neg c2]
      have c2 := q_nltI c2
      rcases y_noZ (x := y) with ⟨r, d⟩ | ⟨r, d⟩
      · rw [if_pos r]
        exact Or.inl ⟨rfl, ⟨by omega, by omega⟩, d⟩
      · rw [if_neg (show ¬ F_NM_no_IZ y = 0 by rw [r]; decide)]
        exact Or.inr ⟨rfl, fun h => d h.2⟩
def yMPut (k r : Int32) (x : Int64) (W : Nat → Int) (D : Nat → Int × Int) (wk wm dk dm ds dc : Nat → Int32) (b b' : Nat → Int64) : Prop := (k = 0 ∧ wRw wk wm (updW W r.toNatClampNeg x.toInt) ∧ dRv dk dm ds dc D ∧ b' = b) ∨ (k = 1 ∧ wRw wk wm W ∧ dRv dk dm ds dc (updD D r.toNatClampNeg (x.toInt, 0)) ∧ b' = b) ∨ (k = 2 ∧ wRw wk wm W ∧ dRv dk dm ds dc D ∧ b' = vp_updL b r.toNatClampNeg x) ∨ (k = 3 ∧ wRw wk wm W ∧ dRv dk dm ds dc D ∧ b' = vp_updL b (10 + r).toNatClampNeg x)
theorem yw_up1 {W W' : Nat → Int} {i : Nat} {v : Int} (h : ∀ j, j < 10 → W' j = W j) : ∀ j, j < 10 → updW W' i v j = updW W i v j := by
  intro j hj
  unfold updW
  split
  · rfl
  · exact h j hj
theorem V_mputJ {x2 : Int32} {x3 : Int32} {x4 : Int64} {t0_0 : Int32} {t0_1 : Int32} {t0_2 : Int32} {t1_0 : Int32} {t1_1 : Int32} {t1_2 : Int32} {t1_3 : Int32} {t1_4 : Int32} {t1_5 : Int32} {t1_6 : Int32} {t2_0 : (Nat → Int32)} {t3_0 : (Nat → Int32)} {t4_0 : (Nat → Int32)} {t5_0 : Int32} {t5_1 : Int32} {t5_2 : Int32} {t5_3 : Int64} {t5_4 : Int32} {t5_5 : Int32} {t5_6 : Int32} {t5_7 : Int32} {t5_8 : Int32} {t5_9 : Int32} {t5_10 : Int32} {t6_0 : (Nat → Int32)} {t7_0 : (Nat → Int32)} {t8_0 : (Nat → Int32)} {t9_0 : (Nat → Int32)} {t10_0 : (Nat → Int32)} {t11_0 : (Nat → Int64)} {lx69 : Int32} {W : Nat → Int} {D : Nat → Int × Int} (hw : wRw t2_0 t3_0 W) (hD : dRv t6_0 t7_0 t8_0 t9_0 D) (h2 : 0 ≤ x2.toInt ∧ x2.toInt ≤ 3) (h3 : yReg x3) (hl : lx69 = 0) : (F_NM_put_J28 x2 x3 x4 t0_0 t0_1 t0_2 t1_0 t1_1 t1_2 t1_3 t1_4 t1_5 t1_6 t2_0 t3_0 t4_0 t5_0 t5_1 t5_2 t5_3 t5_4 t5_5 t5_6 t5_7 t5_8 t5_9 t5_10 t6_0 t7_0 t8_0 t9_0 t10_0 t11_0 lx69).1 = 0 ∧ yMPut x2 x3 x4 W D (F_NM_put_J28 x2 x3 x4 t0_0 t0_1 t0_2 t1_0 t1_1 t1_2 t1_3 t1_4 t1_5 t1_6 t2_0 t3_0 t4_0 t5_0 t5_1 t5_2 t5_3 t5_4 t5_5 t5_6 t5_7 t5_8 t5_9 t5_10 t6_0 t7_0 t8_0 t9_0 t10_0 t11_0 lx69).2.2.2.2.2.2.2.2.1 (F_NM_put_J28 x2 x3 x4 t0_0 t0_1 t0_2 t1_0 t1_1 t1_2 t1_3 t1_4 t1_5 t1_6 t2_0 t3_0 t4_0 t5_0 t5_1 t5_2 t5_3 t5_4 t5_5 t5_6 t5_7 t5_8 t5_9 t5_10 t6_0 t7_0 t8_0 t9_0 t10_0 t11_0 lx69).2.2.2.2.2.2.2.2.2.1 (F_NM_put_J28 x2 x3 x4 t0_0 t0_1 t0_2 t1_0 t1_1 t1_2 t1_3 t1_4 t1_5 t1_6 t2_0 t3_0 t4_0 t5_0 t5_1 t5_2 t5_3 t5_4 t5_5 t5_6 t5_7 t5_8 t5_9 t5_10 t6_0 t7_0 t8_0 t9_0 t10_0 t11_0 lx69).2.2.2.2.2.2.2.2.2.2.2.2.2.2.2.2.2.2.2.2.2.2.1 (F_NM_put_J28 x2 x3 x4 t0_0 t0_1 t0_2 t1_0 t1_1 t1_2 t1_3 t1_4 t1_5 t1_6 t2_0 t3_0 t4_0 t5_0 t5_1 t5_2 t5_3 t5_4 t5_5 t5_6 t5_7 t5_8 t5_9 t5_10 t6_0 t7_0 t8_0 t9_0 t10_0 t11_0 lx69).2.2.2.2.2.2.2.2.2.2.2.2.2.2.2.2.2.2.2.2.2.2.2.1 (F_NM_put_J28 x2 x3 x4 t0_0 t0_1 t0_2 t1_0 t1_1 t1_2 t1_3 t1_4 t1_5 t1_6 t2_0 t3_0 t4_0 t5_0 t5_1 t5_2 t5_3 t5_4 t5_5 t5_6 t5_7 t5_8 t5_9 t5_10 t6_0 t7_0 t8_0 t9_0 t10_0 t11_0 lx69).2.2.2.2.2.2.2.2.2.2.2.2.2.2.2.2.2.2.2.2.2.2.2.2.1 (F_NM_put_J28 x2 x3 x4 t0_0 t0_1 t0_2 t1_0 t1_1 t1_2 t1_3 t1_4 t1_5 t1_6 t2_0 t3_0 t4_0 t5_0 t5_1 t5_2 t5_3 t5_4 t5_5 t5_6 t5_7 t5_8 t5_9 t5_10 t6_0 t7_0 t8_0 t9_0 t10_0 t11_0 lx69).2.2.2.2.2.2.2.2.2.2.2.2.2.2.2.2.2.2.2.2.2.2.2.2.2.1 t11_0 (F_NM_put_J28 x2 x3 x4 t0_0 t0_1 t0_2 t1_0 t1_1 t1_2 t1_3 t1_4 t1_5 t1_6 t2_0 t3_0 t4_0 t5_0 t5_1 t5_2 t5_3 t5_4 t5_5 t5_6 t5_7 t5_8 t5_9 t5_10 t6_0 t7_0 t8_0 t9_0 t10_0 t11_0 lx69).2.2.2.2.2.2.2.2.2.2.2.2.2.2.2.2.2.2.2.2.2.2.2.2.2.2.2 := by
  unfold F_NM_put_J28
  rw [if_pos (show lx69 ≤ 0 by rw [hl]; decide)]
  rcases y_x0123 h2.1 h2.2 with c | c | c | c
  · rw [if_pos c]
    obtain ⟨W2, hr, hE⟩ := hw
    have h := V_WR_put (x2 := x3) (x3 := x4) (t0_0 := t1_0) (t0_1 := t1_1) (t0_2 := t1_2) (t0_3 := t1_3) (t0_4 := t1_4) (t0_5 := t1_5) (t0_6 := t1_6) (t1_0 := t2_0) (t2_0 := t3_0) (t3_0 := t4_0) hr ⟨h3.1, by have := h3.2; omega⟩
    revert h
    generalize F_WR_put x3 x4 t1_0 t1_1 t1_2 t1_3 t1_4 t1_5 t1_6 t2_0 t3_0 t4_0 = p
    intro h
    unfold F_NM_put_c49
    exact ⟨hl, Or.inl ⟨c, ⟨_, h.2, yw_up1 hE⟩, hD, rfl⟩⟩
  · rw [if_neg (show ¬ x2 = 0 by rw [c]; decide), if_pos c]
    have h := V_DR_put (x2 := x3) (x3 := x4) (x4 := 0) (t0_0 := t5_0) (t0_1 := t5_1) (t0_2 := t5_2) (t0_3 := t5_3) (t0_4 := t5_4) (t0_5 := t5_5) (t0_6 := t5_6) (t0_7 := t5_7) (t0_8 := t5_8) (t0_9 := t5_9) (t0_10 := t5_10) (t1_0 := t6_0) (t2_0 := t7_0) (t3_0 := t8_0) (t4_0 := t9_0) (t5_0 := t10_0) hD h3
    revert h
    generalize F_DR_put x3 x4 0 t5_0 t5_1 t5_2 t5_3 t5_4 t5_5 t5_6 t5_7 t5_8 t5_9 t5_10 t6_0 t7_0 t8_0 t9_0 t10_0 = p
    intro h
    unfold F_NM_put_c67
    refine ⟨hl, Or.inr (Or.inl ⟨c, hw, ?_, rfl⟩)⟩
    rcases h with ⟨q, h1, h2, h3, h4⟩ | ⟨h1, _⟩
    · have := Option.some.inj h1
      rw [← this] at h4
      exact h4
    · rcases h1 with h1 | ⟨q, h1, h2⟩
      · cases h1
      · rw [← Option.some.inj h1] at h2
        exact absurd y_fitL h2
  · rw [if_neg (show ¬ x2 = 0 by rw [c]; decide), if_neg (show ¬ x2 = 1 by rw [c]; decide)]
    refine ⟨hl, Or.inr (Or.inr (Or.inl ⟨c, hw, hD, ?_⟩))⟩
    show F_NM_setBits x2 x3 x4 lx69 t0_1 t0_2 t11_0 = _
    unfold F_NM_setBits
    rw [if_neg (show ¬ x2 = 3 by rw [c]; decide)]
  · rw [if_neg (show ¬ x2 = 0 by rw [c]; decide), if_neg (show ¬ x2 = 1 by rw [c]; decide)]
    refine ⟨hl, Or.inr (Or.inr (Or.inr ⟨c, hw, hD, ?_⟩))⟩
    show F_NM_setBits x2 x3 x4 lx69 t0_1 t0_2 t11_0 = _
    unfold F_NM_setBits
    rw [if_pos c]
theorem y_mputn {x2 : Int32} {x3 : Int32} {x4 : Int64} {t0_0 : Int32} {t0_1 : Int32} {t0_2 : Int32} {t1_0 : Int32} {t1_1 : Int32} {t1_2 : Int32} {t1_3 : Int32} {t1_4 : Int32} {t1_5 : Int32} {t1_6 : Int32} {t2_0 : (Nat → Int32)} {t3_0 : (Nat → Int32)} {t4_0 : (Nat → Int32)} {t5_0 : Int32} {t5_1 : Int32} {t5_2 : Int32} {t5_3 : Int64} {t5_4 : Int32} {t5_5 : Int32} {t5_6 : Int32} {t5_7 : Int32} {t5_8 : Int32} {t5_9 : Int32} {t5_10 : Int32} {t6_0 : (Nat → Int32)} {t7_0 : (Nat → Int32)} {t8_0 : (Nat → Int32)} {t9_0 : (Nat → Int32)} {t10_0 : (Nat → Int32)} {t11_0 : (Nat → Int64)} {W : Nat → Int} {D : Nat → Int × Int} (hw : wRw t2_0 t3_0 W) (hD : dRv t6_0 t7_0 t8_0 t9_0 D) : (F_NM_put_J23 x2 x3 x4 t0_0 t0_1 t0_2 t1_0 t1_1 t1_2 t1_3 t1_4 t1_5 t1_6 t2_0 t3_0 t4_0 t5_0 t5_1 t5_2 t5_3 t5_4 t5_5 t5_6 t5_7 t5_8 t5_9 t5_10 t6_0 t7_0 t8_0 t9_0 t10_0 t11_0).1 = 1 ∧ wRw (F_NM_put_J23 x2 x3 x4 t0_0 t0_1 t0_2 t1_0 t1_1 t1_2 t1_3 t1_4 t1_5 t1_6 t2_0 t3_0 t4_0 t5_0 t5_1 t5_2 t5_3 t5_4 t5_5 t5_6 t5_7 t5_8 t5_9 t5_10 t6_0 t7_0 t8_0 t9_0 t10_0 t11_0).2.2.2.2.2.2.2.2.1 (F_NM_put_J23 x2 x3 x4 t0_0 t0_1 t0_2 t1_0 t1_1 t1_2 t1_3 t1_4 t1_5 t1_6 t2_0 t3_0 t4_0 t5_0 t5_1 t5_2 t5_3 t5_4 t5_5 t5_6 t5_7 t5_8 t5_9 t5_10 t6_0 t7_0 t8_0 t9_0 t10_0 t11_0).2.2.2.2.2.2.2.2.2.1 W ∧ dRv (F_NM_put_J23 x2 x3 x4 t0_0 t0_1 t0_2 t1_0 t1_1 t1_2 t1_3 t1_4 t1_5 t1_6 t2_0 t3_0 t4_0 t5_0 t5_1 t5_2 t5_3 t5_4 t5_5 t5_6 t5_7 t5_8 t5_9 t5_10 t6_0 t7_0 t8_0 t9_0 t10_0 t11_0).2.2.2.2.2.2.2.2.2.2.2.2.2.2.2.2.2.2.2.2.2.2.1 (F_NM_put_J23 x2 x3 x4 t0_0 t0_1 t0_2 t1_0 t1_1 t1_2 t1_3 t1_4 t1_5 t1_6 t2_0 t3_0 t4_0 t5_0 t5_1 t5_2 t5_3 t5_4 t5_5 t5_6 t5_7 t5_8 t5_9 t5_10 t6_0 t7_0 t8_0 t9_0 t10_0 t11_0).2.2.2.2.2.2.2.2.2.2.2.2.2.2.2.2.2.2.2.2.2.2.2.1 (F_NM_put_J23 x2 x3 x4 t0_0 t0_1 t0_2 t1_0 t1_1 t1_2 t1_3 t1_4 t1_5 t1_6 t2_0 t3_0 t4_0 t5_0 t5_1 t5_2 t5_3 t5_4 t5_5 t5_6 t5_7 t5_8 t5_9 t5_10 t6_0 t7_0 t8_0 t9_0 t10_0 t11_0).2.2.2.2.2.2.2.2.2.2.2.2.2.2.2.2.2.2.2.2.2.2.2.2.1 (F_NM_put_J23 x2 x3 x4 t0_0 t0_1 t0_2 t1_0 t1_1 t1_2 t1_3 t1_4 t1_5 t1_6 t2_0 t3_0 t4_0 t5_0 t5_1 t5_2 t5_3 t5_4 t5_5 t5_6 t5_7 t5_8 t5_9 t5_10 t6_0 t7_0 t8_0 t9_0 t10_0 t11_0).2.2.2.2.2.2.2.2.2.2.2.2.2.2.2.2.2.2.2.2.2.2.2.2.2.1 D ∧ (F_NM_put_J23 x2 x3 x4 t0_0 t0_1 t0_2 t1_0 t1_1 t1_2 t1_3 t1_4 t1_5 t1_6 t2_0 t3_0 t4_0 t5_0 t5_1 t5_2 t5_3 t5_4 t5_5 t5_6 t5_7 t5_8 t5_9 t5_10 t6_0 t7_0 t8_0 t9_0 t10_0 t11_0).2.2.2.2.2.2.2.2.2.2.2.2.2.2.2.2.2.2.2.2.2.2.2.2.2.2.2 = t11_0 := by
  unfold F_NM_put_J23 F_NM_put_J28
  rw [if_neg (show ¬ (1 : Int32) ≤ 0 by decide)]
  exact ⟨rfl, hw, hD, rfl⟩
theorem V_NM_put {x2 : Int32} {x3 : Int32} {x4 : Int64} {t0_0 : Int32} {t0_1 : Int32} {t0_2 : Int32} {t1_0 : Int32} {t1_1 : Int32} {t1_2 : Int32} {t1_3 : Int32} {t1_4 : Int32} {t1_5 : Int32} {t1_6 : Int32} {t2_0 : (Nat → Int32)} {t3_0 : (Nat → Int32)} {t4_0 : (Nat → Int32)} {t5_0 : Int32} {t5_1 : Int32} {t5_2 : Int32} {t5_3 : Int64} {t5_4 : Int32} {t5_5 : Int32} {t5_6 : Int32} {t5_7 : Int32} {t5_8 : Int32} {t5_9 : Int32} {t5_10 : Int32} {t6_0 : (Nat → Int32)} {t7_0 : (Nat → Int32)} {t8_0 : (Nat → Int32)} {t9_0 : (Nat → Int32)} {t10_0 : (Nat → Int32)} {t11_0 : (Nat → Int64)} {W : Nat → Int} {D : Nat → Int × Int} (hw : wRw t2_0 t3_0 W) (hD : dRv t6_0 t7_0 t8_0 t9_0 D) : (yPutOk x2 x3 x4 ∧ (F_NM_put x2 x3 x4 t0_0 t0_1 t0_2 t1_0 t1_1 t1_2 t1_3 t1_4 t1_5 t1_6 t2_0 t3_0 t4_0 t5_0 t5_1 t5_2 t5_3 t5_4 t5_5 t5_6 t5_7 t5_8 t5_9 t5_10 t6_0 t7_0 t8_0 t9_0 t10_0 t11_0).1 = 0 ∧ yMPut x2 x3 x4 W D (F_NM_put x2 x3 x4 t0_0 t0_1 t0_2 t1_0 t1_1 t1_2 t1_3 t1_4 t1_5 t1_6 t2_0 t3_0 t4_0 t5_0 t5_1 t5_2 t5_3 t5_4 t5_5 t5_6 t5_7 t5_8 t5_9 t5_10 t6_0 t7_0 t8_0 t9_0 t10_0 t11_0).2.2.2.2.2.2.2.2.1 (F_NM_put x2 x3 x4 t0_0 t0_1 t0_2 t1_0 t1_1 t1_2 t1_3 t1_4 t1_5 t1_6 t2_0 t3_0 t4_0 t5_0 t5_1 t5_2 t5_3 t5_4 t5_5 t5_6 t5_7 t5_8 t5_9 t5_10 t6_0 t7_0 t8_0 t9_0 t10_0 t11_0).2.2.2.2.2.2.2.2.2.1 (F_NM_put x2 x3 x4 t0_0 t0_1 t0_2 t1_0 t1_1 t1_2 t1_3 t1_4 t1_5 t1_6 t2_0 t3_0 t4_0 t5_0 t5_1 t5_2 t5_3 t5_4 t5_5 t5_6 t5_7 t5_8 t5_9 t5_10 t6_0 t7_0 t8_0 t9_0 t10_0 t11_0).2.2.2.2.2.2.2.2.2.2.2.2.2.2.2.2.2.2.2.2.2.2.1 (F_NM_put x2 x3 x4 t0_0 t0_1 t0_2 t1_0 t1_1 t1_2 t1_3 t1_4 t1_5 t1_6 t2_0 t3_0 t4_0 t5_0 t5_1 t5_2 t5_3 t5_4 t5_5 t5_6 t5_7 t5_8 t5_9 t5_10 t6_0 t7_0 t8_0 t9_0 t10_0 t11_0).2.2.2.2.2.2.2.2.2.2.2.2.2.2.2.2.2.2.2.2.2.2.2.1 (F_NM_put x2 x3 x4 t0_0 t0_1 t0_2 t1_0 t1_1 t1_2 t1_3 t1_4 t1_5 t1_6 t2_0 t3_0 t4_0 t5_0 t5_1 t5_2 t5_3 t5_4 t5_5 t5_6 t5_7 t5_8 t5_9 t5_10 t6_0 t7_0 t8_0 t9_0 t10_0 t11_0).2.2.2.2.2.2.2.2.2.2.2.2.2.2.2.2.2.2.2.2.2.2.2.2.1 (F_NM_put x2 x3 x4 t0_0 t0_1 t0_2 t1_0 t1_1 t1_2 t1_3 t1_4 t1_5 t1_6 t2_0 t3_0 t4_0 t5_0 t5_1 t5_2 t5_3 t5_4 t5_5 t5_6 t5_7 t5_8 t5_9 t5_10 t6_0 t7_0 t8_0 t9_0 t10_0 t11_0).2.2.2.2.2.2.2.2.2.2.2.2.2.2.2.2.2.2.2.2.2.2.2.2.2.1 t11_0 (F_NM_put x2 x3 x4 t0_0 t0_1 t0_2 t1_0 t1_1 t1_2 t1_3 t1_4 t1_5 t1_6 t2_0 t3_0 t4_0 t5_0 t5_1 t5_2 t5_3 t5_4 t5_5 t5_6 t5_7 t5_8 t5_9 t5_10 t6_0 t7_0 t8_0 t9_0 t10_0 t11_0).2.2.2.2.2.2.2.2.2.2.2.2.2.2.2.2.2.2.2.2.2.2.2.2.2.2.2) ∨ (¬ yPutOk x2 x3 x4 ∧ (F_NM_put x2 x3 x4 t0_0 t0_1 t0_2 t1_0 t1_1 t1_2 t1_3 t1_4 t1_5 t1_6 t2_0 t3_0 t4_0 t5_0 t5_1 t5_2 t5_3 t5_4 t5_5 t5_6 t5_7 t5_8 t5_9 t5_10 t6_0 t7_0 t8_0 t9_0 t10_0 t11_0).1 = 1 ∧ wRw (F_NM_put x2 x3 x4 t0_0 t0_1 t0_2 t1_0 t1_1 t1_2 t1_3 t1_4 t1_5 t1_6 t2_0 t3_0 t4_0 t5_0 t5_1 t5_2 t5_3 t5_4 t5_5 t5_6 t5_7 t5_8 t5_9 t5_10 t6_0 t7_0 t8_0 t9_0 t10_0 t11_0).2.2.2.2.2.2.2.2.1 (F_NM_put x2 x3 x4 t0_0 t0_1 t0_2 t1_0 t1_1 t1_2 t1_3 t1_4 t1_5 t1_6 t2_0 t3_0 t4_0 t5_0 t5_1 t5_2 t5_3 t5_4 t5_5 t5_6 t5_7 t5_8 t5_9 t5_10 t6_0 t7_0 t8_0 t9_0 t10_0 t11_0).2.2.2.2.2.2.2.2.2.1 W ∧ dRv (F_NM_put x2 x3 x4 t0_0 t0_1 t0_2 t1_0 t1_1 t1_2 t1_3 t1_4 t1_5 t1_6 t2_0 t3_0 t4_0 t5_0 t5_1 t5_2 t5_3 t5_4 t5_5 t5_6 t5_7 t5_8 t5_9 t5_10 t6_0 t7_0 t8_0 t9_0 t10_0 t11_0).2.2.2.2.2.2.2.2.2.2.2.2.2.2.2.2.2.2.2.2.2.2.1 (F_NM_put x2 x3 x4 t0_0 t0_1 t0_2 t1_0 t1_1 t1_2 t1_3 t1_4 t1_5 t1_6 t2_0 t3_0 t4_0 t5_0 t5_1 t5_2 t5_3 t5_4 t5_5 t5_6 t5_7 t5_8 t5_9 t5_10 t6_0 t7_0 t8_0 t9_0 t10_0 t11_0).2.2.2.2.2.2.2.2.2.2.2.2.2.2.2.2.2.2.2.2.2.2.2.1 (F_NM_put x2 x3 x4 t0_0 t0_1 t0_2 t1_0 t1_1 t1_2 t1_3 t1_4 t1_5 t1_6 t2_0 t3_0 t4_0 t5_0 t5_1 t5_2 t5_3 t5_4 t5_5 t5_6 t5_7 t5_8 t5_9 t5_10 t6_0 t7_0 t8_0 t9_0 t10_0 t11_0).2.2.2.2.2.2.2.2.2.2.2.2.2.2.2.2.2.2.2.2.2.2.2.2.1 (F_NM_put x2 x3 x4 t0_0 t0_1 t0_2 t1_0 t1_1 t1_2 t1_3 t1_4 t1_5 t1_6 t2_0 t3_0 t4_0 t5_0 t5_1 t5_2 t5_3 t5_4 t5_5 t5_6 t5_7 t5_8 t5_9 t5_10 t6_0 t7_0 t8_0 t9_0 t10_0 t11_0).2.2.2.2.2.2.2.2.2.2.2.2.2.2.2.2.2.2.2.2.2.2.2.2.2.1 D ∧ (F_NM_put x2 x3 x4 t0_0 t0_1 t0_2 t1_0 t1_1 t1_2 t1_3 t1_4 t1_5 t1_6 t2_0 t3_0 t4_0 t5_0 t5_1 t5_2 t5_3 t5_4 t5_5 t5_6 t5_7 t5_8 t5_9 t5_10 t6_0 t7_0 t8_0 t9_0 t10_0 t11_0).2.2.2.2.2.2.2.2.2.2.2.2.2.2.2.2.2.2.2.2.2.2.2.2.2.2.2 = t11_0) := by
  unfold F_NM_put
  rcases y_noII (x := x2) (y := x3) with ⟨r, h2, h3⟩ | ⟨r, h2⟩
  · rw [if_pos r]
    by_cases c : x2 = 3
    · rw [if_pos c]
      by_cases d : yHi x4
      · have d' := d
        unfold yHi at d'
        rw [if_pos d']
        unfold F_NM_put_J27
        exact Or.inl ⟨⟨h2, h3, fun _ => d⟩, V_mputJ hw hD h2 h3 rfl⟩
      · have d' := d
        unfold yHi at d'
        rw [if_neg d']
        exact Or.inr ⟨fun h => d (h.2.2 c), y_mputn hw hD⟩
    · rw [if_neg c]
      unfold F_NM_put_J27
      exact Or.inl ⟨⟨h2, h3, fun h => absurd h c⟩, V_mputJ hw hD h2 h3 rfl⟩
  · rw [if_neg (show ¬ F_NM_no_IIZ x2 x3 = 0 by rw [r]; decide)]
    exact Or.inr ⟨fun h => h2 ⟨h.1, h.2.1⟩, y_mputn hw hD⟩
