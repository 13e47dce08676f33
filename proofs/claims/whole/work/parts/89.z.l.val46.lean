/-! what the calls keep: put -/
theorem v_isReg {x : Int32} (h : ¬ F_NH_isRegister x = 0) : 0 ≤ x.toInt ∧ x.toInt ≤ 9 := by
  have e0 : (0 : Int32).toInt = 0 := rfl
  have e10 : (10 : Int32).toInt = 10 := rfl
  unfold F_NH_isRegister at h
  by_cases h1 : x < 0
  · rw [if_pos h1] at h
    exact absurd rfl h
  · rw [if_neg h1] at h
    by_cases h2 : 10 ≤ x
    · rw [if_pos h2] at h
      exact absurd rfl h
    · have a := q_nltI h1
      have b := q_nleI h2
      omega
theorem v_need0 : F_NH_need 0 = 1 := rfl
theorem v_need1 : F_NH_need 1 = 0 := rfl
theorem v_canH0 : F_NH_canHave 0 = 2 := rfl
theorem v_canH1 : F_NH_canHave 1 = 0 := rfl
theorem v_needReg {k x : Int32} (h : F_NH_needRegister k x = 0) : (0 ≤ k.toInt ∧ k.toInt ≤ 3) ∧ 0 ≤ x.toInt ∧ x.toInt ≤ 9 := by
  have e0 : (0 : Int32).toInt = 0 := rfl
  have e3 : (3 : Int32).toInt = 3 := rfl
  unfold F_NH_needRegister at h
  rw [v_need0, v_need1] at h
  by_cases h1 : k < 0
  · rw [if_pos h1] at h
    exact absurd h (by decide)
  rw [if_neg h1] at h
  by_cases h2 : 3 < k
  · rw [if_pos h2] at h
    exact absurd h (by decide)
  rw [if_neg h2] at h
  by_cases h3 : F_NH_isRegister x = 0
  · rw [if_pos h3] at h
    exact absurd h (by decide)
  have a := q_nltI h1
  have b := q_nltI h2
  exact ⟨by omega, v_isReg h3⟩
/-- a whole register, a decimal register -/
abbrev rW (s n : Int32) (f : Nat → Int32) : Prop := ∃ v : Int, bO 68 s n f v ∧ bB 67 v
abbrev rD (s n : Int32) (f : Nat → Int32) (sc fc : Int32) : Prop := ∃ v : Int, dO 108 s n f sc fc v
theorem T_put {x2 : Int32} {x3 : Int32} {x4 : Int64} {t0_0 : Int64} {t0_1 : Int32} {t1_0 : Int32} {t1_1 : Int32} {t2_0 : (Nat → Int32)} {t3_0 : Int32} {t3_1 : Int32} {t4_0 : (Nat → Int32)} {t5_0 : (Nat → Int64)} {t6_0 : (Nat → Int64)} {t7_0 : Int32} {t7_1 : Int32} {t8_0 : (Nat → Int32)} {t9_0 : Int32} {t9_1 : Int32} {t10_0 : Int32} {t10_1 : Int32} {t11_0 : (Nat → Int32)} (hw : rW t7_0 t7_1 t8_0) (hd : rD t10_0 t10_1 t11_0 t9_0 t9_1) : (S_NH_put x2 x3 x4 t0_0 t0_1 t1_0 t1_1 t2_0 t3_0 t3_1 t4_0 t5_0 t6_0 t7_0 t7_1 t8_0 t9_0 t9_1 t10_0 t10_1 t11_0) ∧ rW (F_NH_put x2 x3 x4 t0_0 t0_1 t1_0 t1_1 t2_0 t3_0 t3_1 t4_0 t5_0 t6_0 t7_0 t7_1 t8_0 t9_0 t9_1 t10_0 t10_1 t11_0).2.2.2.2.2.2.2.2.2.1 (F_NH_put x2 x3 x4 t0_0 t0_1 t1_0 t1_1 t2_0 t3_0 t3_1 t4_0 t5_0 t6_0 t7_0 t7_1 t8_0 t9_0 t9_1 t10_0 t10_1 t11_0).2.2.2.2.2.2.2.2.2.2.1 (F_NH_put x2 x3 x4 t0_0 t0_1 t1_0 t1_1 t2_0 t3_0 t3_1 t4_0 t5_0 t6_0 t7_0 t7_1 t8_0 t9_0 t9_1 t10_0 t10_1 t11_0).2.2.2.2.2.2.2.2.2.2.2.1 ∧ rD (F_NH_put x2 x3 x4 t0_0 t0_1 t1_0 t1_1 t2_0 t3_0 t3_1 t4_0 t5_0 t6_0 t7_0 t7_1 t8_0 t9_0 t9_1 t10_0 t10_1 t11_0).2.2.2.2.2.2.2.2.2.2.2.2.2.2.1 (F_NH_put x2 x3 x4 t0_0 t0_1 t1_0 t1_1 t2_0 t3_0 t3_1 t4_0 t5_0 t6_0 t7_0 t7_1 t8_0 t9_0 t9_1 t10_0 t10_1 t11_0).2.2.2.2.2.2.2.2.2.2.2.2.2.2.2.1 (F_NH_put x2 x3 x4 t0_0 t0_1 t1_0 t1_1 t2_0 t3_0 t3_1 t4_0 t5_0 t6_0 t7_0 t7_1 t8_0 t9_0 t9_1 t10_0 t10_1 t11_0).2.2.2.2.2.2.2.2.2.2.2.2.2.2.2.2 (F_NH_put x2 x3 x4 t0_0 t0_1 t1_0 t1_1 t2_0 t3_0 t3_1 t4_0 t5_0 t6_0 t7_0 t7_1 t8_0 t9_0 t9_1 t10_0 t10_1 t11_0).2.2.2.2.2.2.2.2.2.2.2.2.1 (F_NH_put x2 x3 x4 t0_0 t0_1 t1_0 t1_1 t2_0 t3_0 t3_1 t4_0 t5_0 t6_0 t7_0 t7_1 t8_0 t9_0 t9_1 t10_0 t10_1 t11_0).2.2.2.2.2.2.2.2.2.2.2.2.2.1 := by
  unfold S_NH_put F_NH_put
  by_cases g : F_NH_needRegister x2 x3 = 0
  · rw [if_pos g, if_pos g]
    obtain ⟨_, r1, r2⟩ := v_needReg g
    have J : ∀ lx55 : Int32, S_NH_put_J24 x2 x3 x4 t0_0 t0_1 t1_0 t1_1 t2_0 t3_0 t3_1 t4_0 t5_0 t6_0 t7_0 t7_1 t8_0 t9_0 t9_1 t10_0 t10_1 t11_0 lx55 ∧ (fun p : Int32 × Int32 × Int32 × (Nat → Int32) × Int32 × Int32 × (Nat → Int32) × (Nat → Int64) × (Nat → Int64) × Int32 × Int32 × (Nat → Int32) × Int32 × Int32 × Int32 × Int32 × (Nat → Int32) => rW p.2.2.2.2.2.2.2.2.2.1 p.2.2.2.2.2.2.2.2.2.2.1 p.2.2.2.2.2.2.2.2.2.2.2.1 ∧ rD p.2.2.2.2.2.2.2.2.2.2.2.2.2.2.1 p.2.2.2.2.2.2.2.2.2.2.2.2.2.2.2.1 p.2.2.2.2.2.2.2.2.2.2.2.2.2.2.2.2 p.2.2.2.2.2.2.2.2.2.2.2.2.1 p.2.2.2.2.2.2.2.2.2.2.2.2.2.1) (F_NH_put_J24 x2 x3 x4 t0_0 t0_1 t1_0 t1_1 t2_0 t3_0 t3_1 t4_0 t5_0 t6_0 t7_0 t7_1 t8_0 t9_0 t9_1 t10_0 t10_1 t11_0 lx55) := by
      intro lx55
      unfold S_NH_put_J24 F_NH_put_J24
      by_cases g1 : F_NH_need lx55 = 0
      · rw [if_pos g1, if_pos g1]
        by_cases g2 : x2 = 0
        · rw [if_pos g2, if_pos g2]
          have h := W_setLong (R := 68) (s := t7_0) (neg := t7_1) (x := x4) (f := t8_0) (by decide) (by decide)
          exact ⟨⟨r1, r2, trivial⟩, ⟨_, h, bB3.mono (by decide)⟩, hd⟩
        rw [if_neg g2, if_neg g2]
        by_cases g3 : x2 = 1
        · rw [if_pos g3, if_pos g3]
          have h : P1 220 x4.toInt (F_Big_setLong 220 x4 t1_0 t1_1 t2_0) := W_setLong (by decide) (by decide)
          generalize F_Big_setLong 220 x4 t1_0 t1_1 t2_0 = p128 at h ⊢
          unfold S_NH_put_c57 F_NH_put_c57
          have st := T_settle (x3 := 0) (R2 := 108) (t0_0 := t3_0) (t0_1 := t3_1) (t1_0 := t4_0) h (bB3 (x := x4)) (by decide) trivial (by decide) (by decide) hd
          exact ⟨⟨r1, r2, ⟨trivial, st.1⟩, trivial⟩, hw, st.2.2.2⟩
        rw [if_neg g3, if_neg g3]
        split
        · exact ⟨⟨r1, r2, trivial⟩, hw, hd⟩
        · exact ⟨⟨r1, r2, trivial⟩, hw, hd⟩
      · rw [if_neg g1, if_neg g1]
        exact ⟨trivial, hw, hd⟩
    unfold S_NH_put_J19 F_NH_put_J19
    by_cases g4 : x2 = 3
    · rw [if_pos g4, if_pos g4]
      split
      · exact J 1
      · exact J 0
    · rw [if_neg g4, if_neg g4]
      exact J 1
  · rw [if_neg g, if_neg g]
    exact ⟨trivial, hw, hd⟩
