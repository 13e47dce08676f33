/-! values, for whole: the class's floats written in hexadecimal, whole -/
/-- the text of a float in hexadecimal -/
def yHtxt (P T : Nat) (l : Int) (w : Nat) : List Nat := if yEx P T w = T then (if yFx P w = 0 then yMin (ySx P T w = 1) ++ yInfL else [78, 97, 78]) else yMin (ySx P T w = 1) ++ (if yNx P T w = 0 then yW25 else yHtx P T l w)
theorem V_flJH {A : Int32} {B : Int32} {C : Int32} {x3 : Int64} {x4 : Int32} {t0_0 : Int32} {t1_0 : (Nat → Int64)} {t2_0 : Int32} {t2_1 : Int32} {t3_0 : (Nat → Int32)} {t4_0 : Int32} {t4_1 : Int32} {t5_0 : (Nat → Int32)} {t6_0 : Int32} {t6_1 : Int32} {t7_0 : (Nat → Int32)} {t8_0 : Int32} {t8_1 : Int32} {t9_0 : (Nat → Int32)} {t10_0 : Int32} {t10_1 : Int32} {t11_0 : (Nat → Int32)} {t12_0 : Int32} {t12_1 : Int32} {t13_0 : (Nat → Int32)} {t14_0 : Int64} {t14_1 : Int32} {t14_2 : Int32} {lx65 : Int32} {P T : Nat} {l0 : Int} (hF : yF A B C P T l0) (h4 : ¬ x4 = 0) (hs : ¬ (yEx P T (yu x3) = T ∧ yFx P (yu x3) ≠ 0) → yMin (¬ lx65 = 0) = yMin (ySx P T (yu x3) = 1)) (hz : (yEx P T (yu x3) = T ∧ yFx P (yu x3) ≠ 0) → lx65 = 0) : yPa (F_Wri_floatText_J22 A B C x3 x4 t0_0 t1_0 t2_0 t2_1 t3_0 t4_0 t4_1 t5_0 t6_0 t6_1 t7_0 t8_0 t8_1 t9_0 t10_0 t10_1 t11_0 t12_0 t12_1 t13_0 t14_0 t14_1 t14_2 lx65).1 (F_Wri_floatText_J22 A B C x3 x4 t0_0 t1_0 t2_0 t2_1 t3_0 t4_0 t4_1 t5_0 t6_0 t6_1 t7_0 t8_0 t8_1 t9_0 t10_0 t10_1 t11_0 t12_0 t12_1 t13_0 t14_0 t14_1 t14_2 lx65).2.1 (yHtxt P T l0 (yu x3)) := by
  unfold F_Wri_floatText_J22
  rw [y_begP]
  have b := V_begin (x2 := lx65) (t0_0 := t0_0) (t1_0 := t1_0)
  have ml := yMin_l (a := ¬ lx65 = 0)
  revert b
  generalize F_Wri_begin lx65 t0_0 t1_0 = p
  intro b
  unfold F_Wri_floatText_c22 yHtxt
  rw [y_non hF, y_fin hF, y_zer hF]
  by_cases a1 : yEx P T (yu x3) = T
  · rw [if_pos a1]
    by_cases a2 : yFx P (yu x3) = 0
    · have nn : ¬ (yEx P T (yu x3) = T ∧ yFx P (yu x3) ≠ 0) := fun q => q.2 a2
      rw [if_pos a2, if_neg nn, if_pos (rfl : (0 : Int32) = 0), if_pos a1, if_pos (rfl : (0 : Int32) = 0), ← hs nn]
      have w := V_at24 (N := 1376) (K := 1000000) rfl b (by omega)
      revert w
      generalize F_She_addText_24 11008 1376 1000000 p.1 p.2 = r
      intro w
      unfold F_Wri_floatText_c59
      exact w
    · rw [if_neg a2, if_pos (⟨a1, a2⟩ : yEx P T (yu x3) = T ∧ yFx P (yu x3) ≠ 0), if_neg (by decide : ¬ (1 : Int32) = 0), if_pos a1]
      have z := hz ⟨a1, a2⟩
      have w := V_at23 (N := 1376) (K := 1000000) rfl b (by omega)
      revert w
      generalize F_She_addText_23 11008 1376 1000000 p.1 p.2 = r
      intro w
      unfold F_Wri_floatText_c39
      have e : yMin (¬ lx65 = 0) = [] := by
        unfold yMin
        rw [if_neg (fun q => q z)]
      rw [e, List.nil_append] at w
      exact w
  · have nn : ¬ (yEx P T (yu x3) = T ∧ yFx P (yu x3) ≠ 0) := fun q => a1 q.1
    rw [if_neg a1, if_neg nn, if_pos (rfl : (0 : Int32) = 0), if_neg a1, if_neg (by decide : ¬ (1 : Int32) = 0), ← hs nn]
    by_cases a2 : yNx P T (yu x3) = 0
    · rw [if_pos a2, if_pos a2, if_neg (by decide : ¬ (1 : Int32) = 0), if_neg h4]
      have w := V_at25 (N := 1376) (K := 1000000) rfl b (by omega)
      revert w
      generalize F_She_addText_25 11008 1376 1000000 p.1 p.2 = r
      intro w
      unfold F_Wri_floatText_c89_6
      exact w
    · rw [if_neg a2, if_neg a2, if_pos (rfl : (0 : Int32) = 0), if_neg h4]
      have w := V_wHex (A := A) (B := B) (C := C) (x3 := x3) (t0_0 := p.1) (t1_0 := p.2) (t2_0 := t14_0) (t2_1 := t14_1) (t2_2 := t14_2) hF b (by omega)
      revert w
      generalize F_Wri_writeHexadecimal A B C x3 p.1 p.2 t14_0 t14_1 t14_2 = r
      intro w
      unfold F_Wri_floatText_c103
      exact w
theorem V_flHx {A : Int32} {B : Int32} {C : Int32} {x3 : Int64} {x4 : Int32} {t0_0 : Int32} {t1_0 : (Nat → Int64)} {t2_0 : Int32} {t2_1 : Int32} {t3_0 : (Nat → Int32)} {t4_0 : Int32} {t4_1 : Int32} {t5_0 : (Nat → Int32)} {t6_0 : Int32} {t6_1 : Int32} {t7_0 : (Nat → Int32)} {t8_0 : Int32} {t8_1 : Int32} {t9_0 : (Nat → Int32)} {t10_0 : Int32} {t10_1 : Int32} {t11_0 : (Nat → Int32)} {t12_0 : Int32} {t12_1 : Int32} {t13_0 : (Nat → Int32)} {t14_0 : Int64} {t14_1 : Int32} {t14_2 : Int32} {P T : Nat} {l0 : Int} (hF : yF A B C P T l0) (h4 : ¬ x4 = 0) : yPa (F_Wri_floatText A B C x3 x4 t0_0 t1_0 t2_0 t2_1 t3_0 t4_0 t4_1 t5_0 t6_0 t6_1 t7_0 t8_0 t8_1 t9_0 t10_0 t10_1 t11_0 t12_0 t12_1 t13_0 t14_0 t14_1 t14_2).1 (F_Wri_floatText A B C x3 x4 t0_0 t1_0 t2_0 t2_1 t3_0 t4_0 t4_1 t5_0 t6_0 t6_1 t7_0 t8_0 t8_1 t9_0 t10_0 t10_1 t11_0 t12_0 t12_1 t13_0 t14_0 t14_1 t14_2).2.1 (yHtxt P T l0 (yu x3)) := by
  unfold F_Wri_floatText
  rw [y_neg hF, y_non hF]
  by_cases s : ySx P T (yu x3) = 1
  · rw [if_pos s, if_neg (by decide : ¬ (1 : Int32) = 0)]
    by_cases nn : yEx P T (yu x3) = T ∧ yFx P (yu x3) ≠ 0
    · rw [if_pos nn, if_neg (by decide : ¬ (1 : Int32) = 0)]
      unfold F_Wri_floatText_J21
      exact V_flJH hF h4 (fun q => absurd nn q) (fun _ => rfl)
    · rw [if_neg nn, if_pos (rfl : (0 : Int32) = 0)]
      exact V_flJH hF h4 (fun _ => yMin_c ⟨fun _ => s, fun _ => by decide⟩) (fun q => absurd q nn)
  · rw [if_neg s, if_pos (rfl : (0 : Int32) = 0)]
    unfold F_Wri_floatText_J21
    exact V_flJH hF h4 (fun _ => yMin_c ⟨fun q => absurd rfl q, fun q => absurd q s⟩) (fun _ => rfl)
