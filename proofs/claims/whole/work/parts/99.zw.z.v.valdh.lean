/-! values, for whole: the class's floats written, by the fewest figures -/
theorem V_flJ {A : Int32} {B : Int32} {C : Int32} {x3 : Int64} {x4 : Int32} {t0_0 : Int32} {t1_0 : (Nat → Int64)} {t2_0 : Int32} {t2_1 : Int32} {t3_0 : (Nat → Int32)} {t4_0 : Int32} {t4_1 : Int32} {t5_0 : (Nat → Int32)} {t6_0 : Int32} {t6_1 : Int32} {t7_0 : (Nat → Int32)} {t8_0 : Int32} {t8_1 : Int32} {t9_0 : (Nat → Int32)} {t10_0 : Int32} {t10_1 : Int32} {t11_0 : (Nat → Int32)} {t12_0 : Int32} {t12_1 : Int32} {t13_0 : (Nat → Int32)} {t14_0 : Int64} {t14_1 : Int32} {t14_2 : Int32} {lx65 : Int32} {P T : Nat} {l0 : Int} {t : List Nat} (hF : yF A B C P T l0) (h4 : x4 = 0) (hs : ¬ (yEx P T (yu x3) = T ∧ yFx P (yu x3) ≠ 0) → yMin (¬ lx65 = 0) = yMin (ySx P T (yu x3) = 1)) (hz : (yEx P T (yu x3) = T ∧ yFx P (yu x3) ≠ 0) → lx65 = 0) (ht : yFtxt P T l0 (yu x3) t) : yPa (F_Wri_floatText_J22 A B C x3 x4 t0_0 t1_0 t2_0 t2_1 t3_0 t4_0 t4_1 t5_0 t6_0 t6_1 t7_0 t8_0 t8_1 t9_0 t10_0 t10_1 t11_0 t12_0 t12_1 t13_0 t14_0 t14_1 t14_2 lx65).1 (F_Wri_floatText_J22 A B C x3 x4 t0_0 t1_0 t2_0 t2_1 t3_0 t4_0 t4_1 t5_0 t6_0 t6_1 t7_0 t8_0 t8_1 t9_0 t10_0 t10_1 t11_0 t12_0 t12_1 t13_0 t14_0 t14_1 t14_2 lx65).2.1 t := by
  have le := yEx_le (P := P) (T := T) (u := yu x3)
  unfold F_Wri_floatText_J22
  rw [y_begP]
  have b := V_begin (x2 := lx65) (t0_0 := t0_0) (t1_0 := t1_0)
  have ml := yMin_l (a := ¬ lx65 = 0)
  revert b
  generalize F_Wri_begin lx65 t0_0 t1_0 = p
  intro b
  unfold F_Wri_floatText_c22
  rw [y_non hF, y_fin hF, y_zer hF]
  unfold yFtxt at ht
  rcases ht with ⟨a1, a2, rfl⟩ | ⟨a1, a2, rfl⟩ | ⟨a1, a2, rfl⟩ | ⟨a1, a2, S, q, c, s1, s2, s3, s4, rfl⟩
  · rw [if_pos (⟨a1, a2⟩ : yEx P T (yu x3) = T ∧ yFx P (yu x3) ≠ 0), if_neg (by decide : ¬ (1 : Int32) = 0)]
    have z := hz ⟨a1, a2⟩
    have w := V_at23 (N := 1376) (K := 1000000) rfl b (by omega)
    revert w
    generalize F_She_addText_23 11008 1376 1000000 p.1 p.2 = r
    intro w
    unfold F_Wri_floatText_c39
    have e : yMin (¬ lx65 = 0) = [] := by
      unfold yMin
      rw [if_neg (fun q => q z)]
    rw [e, List.nil_append] at w
    exact w
  · have nn : ¬ (yEx P T (yu x3) = T ∧ yFx P (yu x3) ≠ 0) := fun q => q.2 a2
    rw [if_neg nn, if_pos (rfl : (0 : Int32) = 0), if_pos a1, if_pos (rfl : (0 : Int32) = 0), ← hs nn]
    have w := V_at24 (N := 1376) (K := 1000000) rfl b (by omega)
    revert w
    generalize F_She_addText_24 11008 1376 1000000 p.1 p.2 = r
    intro w
    unfold F_Wri_floatText_c59
    exact w
  · have nn : ¬ (yEx P T (yu x3) = T ∧ yFx P (yu x3) ≠ 0) := fun q => a1 q.1
    rw [if_neg nn, if_pos (rfl : (0 : Int32) = 0), if_neg a1, if_neg (by decide : ¬ (1 : Int32) = 0), if_pos a2, if_neg (by decide : ¬ (1 : Int32) = 0), if_pos h4, ← hs nn]
    have w := V_at26 (N := 1376) (K := 1000000) rfl b (by omega)
    revert w
    generalize F_She_addText_26 11008 1376 1000000 p.1 p.2 = r
    intro w
    unfold F_Wri_floatText_c89
    exact w
  · have nn : ¬ (yEx P T (yu x3) = T ∧ yFx P (yu x3) ≠ 0) := fun q => a1 q.1
    rw [if_neg nn, if_pos (rfl : (0 : Int32) = 0), if_neg a1, if_neg (by decide : ¬ (1 : Int32) = 0), if_neg a2, if_pos (rfl : (0 : Int32) = 0), if_pos h4, ← hs nn]
    have w := V_wShort (A := A) (B := B) (C := C) (x3 := x3) (t0_0 := p.1) (t1_0 := p.2) (t2_0 := t2_0) (t2_1 := t2_1) (t3_0 := t3_0) (t4_0 := t4_0) (t4_1 := t4_1) (t5_0 := t5_0) (t6_0 := t6_0) (t6_1 := t6_1) (t7_0 := t7_0) (t8_0 := t8_0) (t8_1 := t8_1) (t9_0 := t9_0) (t10_0 := t10_0) (t10_1 := t10_1) (t11_0 := t11_0) (t12_0 := t12_0) (t12_1 := t12_1) (t13_0 := t13_0) (t14_0 := t14_0) (t14_1 := t14_1) (t14_2 := t14_2) hF (by omega) a2 s1 s2 s3 s4 b (by omega)
    revert w
    generalize F_Wri_writeShort A B C x3 p.1 p.2 t2_0 t2_1 t3_0 t4_0 t4_1 t5_0 t6_0 t6_1 t7_0 t8_0 t8_1 t9_0 t10_0 t10_1 t11_0 t12_0 t12_1 t13_0 t14_0 t14_1 t14_2 = r
    intro w
    unfold F_Wri_floatText_c112
    exact w
theorem V_flTx {A : Int32} {B : Int32} {C : Int32} {x3 : Int64} {x4 : Int32} {t0_0 : Int32} {t1_0 : (Nat → Int64)} {t2_0 : Int32} {t2_1 : Int32} {t3_0 : (Nat → Int32)} {t4_0 : Int32} {t4_1 : Int32} {t5_0 : (Nat → Int32)} {t6_0 : Int32} {t6_1 : Int32} {t7_0 : (Nat → Int32)} {t8_0 : Int32} {t8_1 : Int32} {t9_0 : (Nat → Int32)} {t10_0 : Int32} {t10_1 : Int32} {t11_0 : (Nat → Int32)} {t12_0 : Int32} {t12_1 : Int32} {t13_0 : (Nat → Int32)} {t14_0 : Int64} {t14_1 : Int32} {t14_2 : Int32} {P T : Nat} {l0 : Int} {t : List Nat} (hF : yF A B C P T l0) (h4 : x4 = 0) (ht : yFtxt P T l0 (yu x3) t) : yPa (F_Wri_floatText A B C x3 x4 t0_0 t1_0 t2_0 t2_1 t3_0 t4_0 t4_1 t5_0 t6_0 t6_1 t7_0 t8_0 t8_1 t9_0 t10_0 t10_1 t11_0 t12_0 t12_1 t13_0 t14_0 t14_1 t14_2).1 (F_Wri_floatText A B C x3 x4 t0_0 t1_0 t2_0 t2_1 t3_0 t4_0 t4_1 t5_0 t6_0 t6_1 t7_0 t8_0 t8_1 t9_0 t10_0 t10_1 t11_0 t12_0 t12_1 t13_0 t14_0 t14_1 t14_2).2.1 t := by
  unfold F_Wri_floatText
  rw [y_neg hF, y_non hF]
  by_cases s : ySx P T (yu x3) = 1
  · rw [if_pos s, if_neg (by decide : ¬ (1 : Int32) = 0)]
    by_cases nn : yEx P T (yu x3) = T ∧ yFx P (yu x3) ≠ 0
    · rw [if_pos nn, if_neg (by decide : ¬ (1 : Int32) = 0)]
      unfold F_Wri_floatText_J21
      exact V_flJ hF h4 (fun q => absurd nn q) (fun _ => rfl) ht
    · rw [if_neg nn, if_pos (rfl : (0 : Int32) = 0)]
      exact V_flJ hF h4 (fun _ => yMin_c ⟨fun _ => s, fun _ => by decide⟩) (fun q => absurd q nn) ht
  · rw [if_neg s, if_pos (rfl : (0 : Int32) = 0)]
    unfold F_Wri_floatText_J21
    exact V_flJ hF h4 (fun _ => yMin_c ⟨fun q => absurd rfl q, fun q => absurd q s⟩) (fun _ => rfl) ht
