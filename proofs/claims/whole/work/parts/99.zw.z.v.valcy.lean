/-! values, for whole: told of floats, on both sides -/
def yTf (P T : Nat) (l : Int) (x : Int32) (u : Int64) (code : Int32) (a : Int64) : Prop := (¬ (0 ≤ x.toInt ∧ x.toInt ≤ 2) ∧ code = 1) ∨ (x = 0 ∧ code = 0 ∧ a = u) ∨ ((x = 1 ∨ x = 2) ∧ yEx P T (yu u) = T ∧ code = 2) ∨ ((x = 1 ∨ x = 2) ∧ yEx P T (yu u) ≠ T ∧ code = 0 ∧ ((yNx P T (yu u) = 0 ∧ a.toInt = 0) ∨ (yNx P T (yu u) ≠ 0 ∧ ∃ S q : Nat, yFsh P T l (yu u) S q ∧ a.toInt = if x = 1 then (S : Int) else (q : Int) - 1080)))
theorem yEx_le {P T u : Nat} : yEx P T u ≤ T := by
  unfold yEx
  have := Nat.mod_lt (u / 2 ^ P) (show 0 < T + 1 by omega)
  omega
theorem V_findT {A B C : Int32} {P T : Nat} {l : Int} {x : Int32} {u : Int64} {t0_0 : Int64} {t0_1 t0_2 t1_0 t1_1 : Int32} {t2_0 : Nat → Int32} {t3_0 t3_1 : Int32} {t4_0 : Nat → Int32} {t5_0 t5_1 : Int32} {t6_0 : Nat → Int32} {t7_0 t7_1 : Int32} {t8_0 : Nat → Int32} {t9_0 t9_1 : Int32} {t10_0 : Nat → Int32} (hF : yF A B C P T l) (hf : yEx P T (yu u) ≠ T) : (yNx P T (yu u) = 0 ∧ (F_Flo_findShortest A B C u t0_0 t0_1 t0_2 t1_0 t1_1 t2_0 t3_0 t3_1 t4_0 t5_0 t5_1 t6_0 t7_0 t7_1 t8_0 t9_0 t9_1 t10_0).1.toInt = 0 ∧ (F_Flo_findShortest A B C u t0_0 t0_1 t0_2 t1_0 t1_1 t2_0 t3_0 t3_1 t4_0 t5_0 t5_1 t6_0 t7_0 t7_1 t8_0 t9_0 t9_1 t10_0).2.1.toInt = 0) ∨ (yNx P T (yu u) ≠ 0 ∧ ∃ S q : Nat, yFsh P T l (yu u) S q ∧ (F_Flo_findShortest A B C u t0_0 t0_1 t0_2 t1_0 t1_1 t2_0 t3_0 t3_1 t4_0 t5_0 t5_1 t6_0 t7_0 t7_1 t8_0 t9_0 t9_1 t10_0).1.toInt = (S : Int) ∧ (F_Flo_findShortest A B C u t0_0 t0_1 t0_2 t1_0 t1_1 t2_0 t3_0 t3_1 t4_0 t5_0 t5_1 t6_0 t7_0 t7_1 t8_0 t9_0 t9_1 t10_0).2.1.toInt = (q : Int) - 1080) := by
  have le := yEx_le (P := P) (T := T) (u := yu u)
  by_cases z : yNx P T (yu u) = 0
  · have zr := y_zer hF (x := u)
    rw [if_pos z] at zr
    refine Or.inl ⟨z, ?_⟩
    unfold F_Flo_findShortest
    rw [if_neg (by rw [zr]; decide)]
    exact ⟨rfl, rfl⟩
  · exact Or.inr ⟨z, V_find hF (by omega) z⟩
theorem y_canF {A B C : Int32} {P T : Nat} {l : Int} (hF : yF A B C P T l) {u : Int64} : (F_NH_canHave (F_Flo_isFinite A B C u) = 0 ∧ yEx P T (yu u) ≠ T) ∨ (F_NH_canHave (F_Flo_isFinite A B C u) = 2 ∧ yEx P T (yu u) = T) := by
  rw [y_fin hF]
  by_cases c : yEx P T (yu u) = T
  · rw [if_pos c]
    exact Or.inr ⟨by decide, c⟩
  · rw [if_neg c]
    exact Or.inl ⟨by decide, c⟩
theorem y_x12 {x : Int32} (h0 : 0 ≤ x.toInt) (h2 : x.toInt ≤ 2) (hz : ¬ x = 0) : x = 1 ∨ x = 2 := by
  rcases y_x012 h0 h2 with h | h | h
  · exact absurd h hz
  · exact Or.inl h
  · exact Or.inr h
theorem V_NH_told2 {x2 : Int32} {x3 : Int32} {x4 : Int32} {t0_0 : Int32} {t0_1 : Int32} {t1_0 : (Nat → Int32)} {t2_0 : Int32} {t2_1 : Int32} {t3_0 : (Nat → Int32)} {t4_0 : (Nat → Int64)} {t5_0 : (Nat → Int64)} {t6_0 : Int32} {t6_1 : Int32} {t7_0 : (Nat → Int32)} {t8_0 : Int32} {t8_1 : Int32} {t9_0 : (Nat → Int32)} {t10_0 : Int32} {t10_1 : Int32} {t11_0 : (Nat → Int32)} {t12_0 : Int32} {t12_1 : Int32} {t13_0 : (Nat → Int32)} {t14_0 : Int64} {t14_1 : Int32} {t14_2 : Int32} {t15_0 : Int64} {t15_1 : Int32} {t15_2 : Int32} {t16_0 : Int32} {t16_1 : Int32} {t17_0 : (Nat → Int32)} {t18_0 : Int32} {t18_1 : Int32} {t19_0 : Int32} {t19_1 : Int32} {t20_0 : (Nat → Int32)} (h2 : x2 = 2) (h3 : yReg x3) : yTf 52 2047 (-1074) x4 (t4_0 x3.toNatClampNeg) (F_NH_told x2 x3 x4 t0_0 t0_1 t1_0 t2_0 t2_1 t3_0 t4_0 t5_0 t6_0 t6_1 t7_0 t8_0 t8_1 t9_0 t10_0 t10_1 t11_0 t12_0 t12_1 t13_0 t14_0 t14_1 t14_2 t15_0 t15_1 t15_2 t16_0 t16_1 t17_0 t18_0 t18_1 t19_0 t19_1 t20_0).1 (F_NH_told x2 x3 x4 t0_0 t0_1 t1_0 t2_0 t2_1 t3_0 t4_0 t5_0 t6_0 t6_1 t7_0 t8_0 t8_1 t9_0 t10_0 t10_1 t11_0 t12_0 t12_1 t13_0 t14_0 t14_1 t14_2 t15_0 t15_1 t15_2 t16_0 t16_1 t17_0 t18_0 t18_1 t19_0 t19_1 t20_0).2.1 := by
  have e0 : (0 : Int32).toInt = 0 := rfl
  have e2 : (2 : Int32).toInt = 2 := rfl
  unfold F_NH_told
  rcases y_needR (x := x2) (y := x3) with ⟨r, _, _⟩ | ⟨r, k⟩
  · rw [if_pos r]
    by_cases c : x4 < 0
    · rw [if_pos c]
      unfold F_NH_told_J14
      rw [if_neg (show ¬ F_NH_need 0 = 0 by decide)]
      have c := q_ltI c
      exact Or.inl ⟨fun h => by omega, by show F_NH_need 0 = 1; decide⟩
    · rw [if_neg c]
      have c := q_nltI c
      unfold F_NH_told_J14
      rw [if_pos (show F_NH_need 1 = 0 by decide), if_neg (show ¬ x2 = 0 by rw [h2]; decide), if_neg (show ¬ x2 = 1 by rw [h2]; decide)]
      by_cases d : (2 : Int32) < x4
      · rw [if_pos d]
        have d := q_ltI d
        unfold F_NH_told_J101
        rw [if_neg (show ¬ F_NH_need 0 = 0 by decide)]
        exact Or.inl ⟨fun h => by omega, by show F_NH_need 0 = 1; decide⟩
      · rw [if_neg d]
        have d := q_nltI d
        unfold F_NH_told_J101
        rw [if_pos (show F_NH_need 1 = 0 by decide), if_pos h2]
        by_cases z : x4 = 0
        · rw [if_pos z]
          exact Or.inr (Or.inl ⟨z, rfl, rfl⟩)
        · rw [if_neg z, if_pos h2]
          have h12 := y_x12 (by omega) (by omega) z
          rcases y_canF yF2 (u := t4_0 x3.toNatClampNeg) with ⟨cf, nf⟩ | ⟨cf, nf⟩
          · rw [if_pos cf]
            refine Or.inr (Or.inr (Or.inr ⟨h12, nf, ?_⟩))
            have fd := V_findT (x := 0) (t0_0 := t14_0) (t0_1 := t14_1) (t0_2 := t14_2) (t1_0 := t0_0) (t1_1 := t0_1) (t2_0 := t1_0) (t3_0 := t6_0) (t3_1 := t6_1) (t4_0 := t7_0) (t5_0 := t8_0) (t5_1 := t8_1) (t6_0 := t9_0) (t7_0 := t10_0) (t7_1 := t10_1) (t8_0 := t11_0) (t9_0 := t12_0) (t9_1 := t12_1) (t10_0 := t13_0) yF2 nf
            revert fd
            generalize F_Flo_findShortest 52 1075 2047 (t4_0 x3.toNatClampNeg) t14_0 t14_1 t14_2 t0_0 t0_1 t1_0 t6_0 t6_1 t7_0 t8_0 t8_1 t9_0 t10_0 t10_1 t11_0 t12_0 t12_1 t13_0 = p
            intro fd
            unfold F_NH_told_c141
            by_cases o : x4 = 1
            · rw [if_pos o]
              refine ⟨rfl, ?_⟩
              rcases fd with ⟨a, b, _⟩ | ⟨a, S, q, f1, f2, _⟩
              · exact Or.inl ⟨a, b⟩
              · exact Or.inr ⟨a, S, q, f1, by rw [if_pos o]; exact f2⟩
            · rw [if_neg o]
              refine ⟨rfl, ?_⟩
              rcases fd with ⟨a, _, b⟩ | ⟨a, S, q, f1, _, f2⟩
              · exact Or.inl ⟨a, q_i2l b⟩
              · exact Or.inr ⟨a, S, q, f1, by rw [if_neg o]; exact q_i2l f2⟩
          · rw [if_neg (by rw [cf]; decide)]
            exact Or.inr (Or.inr (Or.inl ⟨h12, nf, cf⟩))
  · refine absurd ⟨?_, h3⟩ k
    rw [h2]
    decide
theorem V_NH_told3 {x2 : Int32} {x3 : Int32} {x4 : Int32} {t0_0 : Int32} {t0_1 : Int32} {t1_0 : (Nat → Int32)} {t2_0 : Int32} {t2_1 : Int32} {t3_0 : (Nat → Int32)} {t4_0 : (Nat → Int64)} {t5_0 : (Nat → Int64)} {t6_0 : Int32} {t6_1 : Int32} {t7_0 : (Nat → Int32)} {t8_0 : Int32} {t8_1 : Int32} {t9_0 : (Nat → Int32)} {t10_0 : Int32} {t10_1 : Int32} {t11_0 : (Nat → Int32)} {t12_0 : Int32} {t12_1 : Int32} {t13_0 : (Nat → Int32)} {t14_0 : Int64} {t14_1 : Int32} {t14_2 : Int32} {t15_0 : Int64} {t15_1 : Int32} {t15_2 : Int32} {t16_0 : Int32} {t16_1 : Int32} {t17_0 : (Nat → Int32)} {t18_0 : Int32} {t18_1 : Int32} {t19_0 : Int32} {t19_1 : Int32} {t20_0 : (Nat → Int32)} (h2 : x2 = 3) (h3 : yReg x3) : yTf 23 255 (-149) x4 (t5_0 x3.toNatClampNeg) (F_NH_told x2 x3 x4 t0_0 t0_1 t1_0 t2_0 t2_1 t3_0 t4_0 t5_0 t6_0 t6_1 t7_0 t8_0 t8_1 t9_0 t10_0 t10_1 t11_0 t12_0 t12_1 t13_0 t14_0 t14_1 t14_2 t15_0 t15_1 t15_2 t16_0 t16_1 t17_0 t18_0 t18_1 t19_0 t19_1 t20_0).1 (F_NH_told x2 x3 x4 t0_0 t0_1 t1_0 t2_0 t2_1 t3_0 t4_0 t5_0 t6_0 t6_1 t7_0 t8_0 t8_1 t9_0 t10_0 t10_1 t11_0 t12_0 t12_1 t13_0 t14_0 t14_1 t14_2 t15_0 t15_1 t15_2 t16_0 t16_1 t17_0 t18_0 t18_1 t19_0 t19_1 t20_0).2.1 := by
  have e0 : (0 : Int32).toInt = 0 := rfl
  have e2 : (2 : Int32).toInt = 2 := rfl
  unfold F_NH_told
  rcases y_needR (x := x2) (y := x3) with ⟨r, _, _⟩ | ⟨r, k⟩
  · rw [if_pos r]
    by_cases c : x4 < 0
    · rw [if_pos c]
      unfold F_NH_told_J14
      rw [if_neg (show ¬ F_NH_need 0 = 0 by decide)]
      have c := q_ltI c
      exact Or.inl ⟨fun h => by omega, by show F_NH_need 0 = 1; decide⟩
    · rw [if_neg c]
      have c := q_nltI c
      unfold F_NH_told_J14
      rw [if_pos (show F_NH_need 1 = 0 by decide), if_neg (show ¬ x2 = 0 by rw [h2]; decide), if_neg (show ¬ x2 = 1 by rw [h2]; decide)]
      by_cases d : (2 : Int32) < x4
      · rw [if_pos d]
        have d := q_ltI d
        unfold F_NH_told_J101
        rw [if_neg (show ¬ F_NH_need 0 = 0 by decide)]
        exact Or.inl ⟨fun h => by omega, by show F_NH_need 0 = 1; decide⟩
      · rw [if_neg d]
        have d := q_nltI d
        unfold F_NH_told_J101
        rw [if_pos (show F_NH_need 1 = 0 by decide), if_neg (show ¬ x2 = 2 by rw [h2]; decide)]
        by_cases z : x4 = 0
        · rw [if_pos z]
          exact Or.inr (Or.inl ⟨z, rfl, rfl⟩)
        · rw [if_neg z, if_neg (show ¬ x2 = 2 by rw [h2]; decide)]
          have h12 := y_x12 (by omega) (by omega) z
          rcases y_canF yF3 (u := t5_0 x3.toNatClampNeg) with ⟨cf, nf⟩ | ⟨cf, nf⟩
          · rw [if_pos cf]
            refine Or.inr (Or.inr (Or.inr ⟨h12, nf, ?_⟩))
            have fd := V_findT (x := 0) (t0_0 := t15_0) (t0_1 := t15_1) (t0_2 := t15_2) (t1_0 := t0_0) (t1_1 := t0_1) (t2_0 := t1_0) (t3_0 := t6_0) (t3_1 := t6_1) (t4_0 := t7_0) (t5_0 := t8_0) (t5_1 := t8_1) (t6_0 := t9_0) (t7_0 := t10_0) (t7_1 := t10_1) (t8_0 := t11_0) (t9_0 := t12_0) (t9_1 := t12_1) (t10_0 := t13_0) yF3 nf
            revert fd
            generalize F_Flo_findShortest 23 150 255 (t5_0 x3.toNatClampNeg) t15_0 t15_1 t15_2 t0_0 t0_1 t1_0 t6_0 t6_1 t7_0 t8_0 t8_1 t9_0 t10_0 t10_1 t11_0 t12_0 t12_1 t13_0 = p
            intro fd
            unfold F_NH_told_c141_6
            by_cases o : x4 = 1
            · rw [if_pos o]
              refine ⟨rfl, ?_⟩
              rcases fd with ⟨a, b, _⟩ | ⟨a, S, q, f1, f2, _⟩
              · exact Or.inl ⟨a, b⟩
              · exact Or.inr ⟨a, S, q, f1, by rw [if_pos o]; exact f2⟩
            · rw [if_neg o]
              refine ⟨rfl, ?_⟩
              rcases fd with ⟨a, _, b⟩ | ⟨a, S, q, f1, _, f2⟩
              · exact Or.inl ⟨a, q_i2l b⟩
              · exact Or.inr ⟨a, S, q, f1, by rw [if_neg o]; exact q_i2l f2⟩
          · rw [if_neg (by rw [cf]; decide)]
            exact Or.inr (Or.inr (Or.inl ⟨h12, nf, cf⟩))
  · refine absurd ⟨?_, h3⟩ k
    rw [h2]
    decide
