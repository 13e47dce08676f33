/-! values, for whole: figures of the class -/
def yFiOk (x2 x3 x4 x5 x6 : Int32) : Prop := (x2.toInt = 2 ∨ x2.toInt = 3) ∧ yReg x3 ∧ (0 ≤ x6.toInt ∧ x6.toInt ≤ 3) ∧ ((x4 = 0 ∧ 0 ≤ x5.toInt ∧ x5.toInt ≤ 1100) ∨ (x4 ≠ 0 ∧ 1 ≤ x5.toInt ∧ x5.toInt ≤ 800))
/-- t is the text of the float w to k places, or to k figures -/
def yFiT (P T : Nat) (l : Int) (w : Nat) (x4 x5 md : Int32) (t : List Nat) : Prop := ∃ k u s c d : Nat, x5.toInt = (k : Int) ∧ yEq (yNx P T w) (yPx l (yEx P T w)) u s ∧ s ≤ 1074 ∧ yDt u c ∧ ((x4 = 0 ∧ yDt (yRk md u c ((c : Int) - s + k)) d ∧ t = yMin (ySx P T w = 1) ++ yFix (yRk md u c ((c : Int) - s + k)) k d) ∨ (x4 ≠ 0 ∧ yDt (yRk md u c (k : Int)) d ∧ t = yMin (ySx P T w = 1) ++ ySct u s c (yRk md u c (k : Int)) d k))
theorem V_exF {A : Int32} {B : Int32} {C : Int32} {x3 : Int64} {x4 : Int32} {x5 : Int32} {x6 : Int32} {t0_0 : Int32} {t1_0 : (Nat → Int64)} {t2_0 : Int32} {t2_1 : Int32} {t3_0 : (Nat → Int32)} {t4_0 : Int32} {t4_1 : Int32} {t5_0 : (Nat → Int32)} {t6_0 : Int64} {t6_1 : Int32} {t6_2 : Int32} {P T : Nat} {l0 : Int} (hF : yF A B C P T l0) (hfin : yEx P T (yu x3) ≠ T) (h5 : (x4 = 0 ∧ 0 ≤ x5.toInt ∧ x5.toInt ≤ 1100) ∨ (x4 ≠ 0 ∧ 1 ≤ x5.toInt ∧ x5.toInt ≤ 800)) (hmd : 0 ≤ x6.toInt ∧ x6.toInt ≤ 3) : ∃ t, yFiT P T l0 (yu x3) x4 x5 x6 t ∧ yPa (F_Wri_exactText A B C x3 x4 x5 x6 t0_0 t1_0 t2_0 t2_1 t3_0 t4_0 t4_1 t5_0 t6_0 t6_1 t6_2).1 (F_Wri_exactText A B C x3 x4 x5 x6 t0_0 t1_0 t2_0 t2_1 t3_0 t4_0 t4_1 t5_0 t6_0 t6_1 t6_2).2.1 t := by
  obtain ⟨k, hk⟩ : ∃ k : Nat, x5.toInt = (k : Int) := ⟨x5.toInt.toNat, by omega⟩
  obtain ⟨u, s, c, d, a1, a2, a3, a4⟩ := V_exT (x4 := x4) (x5 := x5) (x6 := x6) (t0_0 := t0_0) (t1_0 := t1_0) (t2_0 := t2_0) (t2_1 := t2_1) (t3_0 := t3_0) (t4_0 := t4_0) (t4_1 := t4_1) (t5_0 := t5_0) (t6_0 := t6_0) (t6_1 := t6_1) (t6_2 := t6_2) hF hfin hk (by omega) (fun q => by rcases h5 with w | w; exact absurd w.1 q; omega) hmd
  rcases a4 with ⟨b1, b2, b3⟩ | ⟨b1, b2, b3⟩
  · exact ⟨_, ⟨k, u, s, c, d, hk, a1, a2, a3, Or.inl ⟨b1, b2, rfl⟩⟩, b3⟩
  · exact ⟨_, ⟨k, u, s, c, d, hk, a1, a2, a3, Or.inr ⟨b1, b2, rfl⟩⟩, b3⟩
theorem V_fi80 {x2 : Int32} {x3 : Int32} {x4 : Int32} {x5 : Int32} {x6 : Int32} {t0_0 : Int32} {t1_0 : (Nat → Int64)} {t2_0 : Int32} {t2_1 : Int32} {t3_0 : (Nat → Int32)} {t4_0 : Int32} {t4_1 : Int32} {t5_0 : (Nat → Int32)} {t6_0 : (Nat → Int64)} {t7_0 : (Nat → Int64)} {t8_0 : Int64} {t8_1 : Int32} {t8_2 : Int32} {t9_0 : Int64} {t9_1 : Int32} {t9_2 : Int32} {lx34 : Int32} {lx62 : Int32} (hr : yReg x3) (hx : x2.toInt = 2 ∨ x2.toInt = 3) (hmd : 0 ≤ x6.toInt ∧ x6.toInt ≤ 3) (hl : (lx62 = 1 ∧ ((x4 = 0 ∧ 0 ≤ x5.toInt ∧ x5.toInt ≤ 1100) ∨ (x4 ≠ 0 ∧ 1 ≤ x5.toInt ∧ x5.toInt ≤ 800))) ∨ (lx62 = 0 ∧ ¬ ((x4 = 0 ∧ 0 ≤ x5.toInt ∧ x5.toInt ≤ 1100) ∨ (x4 ≠ 0 ∧ 1 ≤ x5.toInt ∧ x5.toInt ≤ 800)))) : (yFiOk x2 x3 x4 x5 x6 ∧ (F_NH_figures_J80 x2 x3 x4 x5 x6 t0_0 t1_0 t2_0 t2_1 t3_0 t4_0 t4_1 t5_0 t6_0 t7_0 t8_0 t8_1 t8_2 t9_0 t9_1 t9_2 lx34 lx62).1 = 0 ∧ (F_NH_figures_J80 x2 x3 x4 x5 x6 t0_0 t1_0 t2_0 t2_1 t3_0 t4_0 t4_1 t5_0 t6_0 t7_0 t8_0 t8_1 t8_2 t9_0 t9_1 t9_2 lx34 lx62).2.1 = (F_NH_figures_J80 x2 x3 x4 x5 x6 t0_0 t1_0 t2_0 t2_1 t3_0 t4_0 t4_1 t5_0 t6_0 t7_0 t8_0 t8_1 t8_2 t9_0 t9_1 t9_2 lx34 lx62).2.2.1 ∧ (x2.toInt = 2 → yEx 52 2047 (yu (t6_0 x3.toNatClampNeg)) ≠ 2047) ∧ (x2.toInt = 3 → yEx 23 255 (yu (t7_0 x3.toNatClampNeg)) ≠ 255) ∧ ∃ t, (x2.toInt = 2 → yFiT 52 2047 (-1074) (yu (t6_0 x3.toNatClampNeg)) x4 x5 x6 t) ∧ (x2.toInt = 3 → yFiT 23 255 (-149) (yu (t7_0 x3.toNatClampNeg)) x4 x5 x6 t) ∧ yPa (F_NH_figures_J80 x2 x3 x4 x5 x6 t0_0 t1_0 t2_0 t2_1 t3_0 t4_0 t4_1 t5_0 t6_0 t7_0 t8_0 t8_1 t8_2 t9_0 t9_1 t9_2 lx34 lx62).2.2.1 (F_NH_figures_J80 x2 x3 x4 x5 x6 t0_0 t1_0 t2_0 t2_1 t3_0 t4_0 t4_1 t5_0 t6_0 t7_0 t8_0 t8_1 t8_2 t9_0 t9_1 t9_2 lx34 lx62).2.2.2.1 t) ∨ (¬ yFiOk x2 x3 x4 x5 x6 ∧ (F_NH_figures_J80 x2 x3 x4 x5 x6 t0_0 t1_0 t2_0 t2_1 t3_0 t4_0 t4_1 t5_0 t6_0 t7_0 t8_0 t8_1 t8_2 t9_0 t9_1 t9_2 lx34 lx62).1 = 1 ∧ (F_NH_figures_J80 x2 x3 x4 x5 x6 t0_0 t1_0 t2_0 t2_1 t3_0 t4_0 t4_1 t5_0 t6_0 t7_0 t8_0 t8_1 t8_2 t9_0 t9_1 t9_2 lx34 lx62).2.2.1 = t0_0 ∧ (F_NH_figures_J80 x2 x3 x4 x5 x6 t0_0 t1_0 t2_0 t2_1 t3_0 t4_0 t4_1 t5_0 t6_0 t7_0 t8_0 t8_1 t8_2 t9_0 t9_1 t9_2 lx34 lx62).2.2.2.1 = t1_0) ∨ (yFiOk x2 x3 x4 x5 x6 ∧ (F_NH_figures_J80 x2 x3 x4 x5 x6 t0_0 t1_0 t2_0 t2_1 t3_0 t4_0 t4_1 t5_0 t6_0 t7_0 t8_0 t8_1 t8_2 t9_0 t9_1 t9_2 lx34 lx62).1 = 2 ∧ (x2.toInt = 2 → yEx 52 2047 (yu (t6_0 x3.toNatClampNeg)) = 2047) ∧ (x2.toInt = 3 → yEx 23 255 (yu (t7_0 x3.toNatClampNeg)) = 255) ∧ (F_NH_figures_J80 x2 x3 x4 x5 x6 t0_0 t1_0 t2_0 t2_1 t3_0 t4_0 t4_1 t5_0 t6_0 t7_0 t8_0 t8_1 t8_2 t9_0 t9_1 t9_2 lx34 lx62).2.2.1 = t0_0 ∧ (F_NH_figures_J80 x2 x3 x4 x5 x6 t0_0 t1_0 t2_0 t2_1 t3_0 t4_0 t4_1 t5_0 t6_0 t7_0 t8_0 t8_1 t8_2 t9_0 t9_1 t9_2 lx34 lx62).2.2.2.1 = t1_0) := by
  have n0 : F_NH_need 0 = 1 := by decide
  have n1 : F_NH_need 1 = 0 := by decide
  have f64 : yF 52 1075 2047 52 2047 (-1074) := Or.inl ⟨rfl, rfl, rfl, rfl, rfl, rfl⟩
  have f32 : yF 23 150 255 23 255 (-149) := Or.inr ⟨rfl, rfl, rfl, rfl, rfl, rfl⟩
  unfold F_NH_figures_J80
  rcases hl with ⟨rfl, h5⟩ | ⟨rfl, h5⟩
  · rw [n1, if_pos (rfl : (0 : Int32) = 0)]
    have ok : yFiOk x2 x3 x4 x5 x6 := ⟨hx, hr, hmd, h5⟩
    by_cases y : x2 = 2
    · have yi : x2.toInt = 2 := by rw [y]; rfl
      rw [if_pos y, if_pos y]
      rcases y_canF f64 (u := t6_0 x3.toNatClampNeg) with ⟨g, f⟩ | ⟨g, f⟩
      · rw [if_pos g]
        obtain ⟨t, w1, w2⟩ := V_exF (x3 := t6_0 x3.toNatClampNeg) (x4 := x4) (x5 := x5) (x6 := x6) (t0_0 := t0_0) (t1_0 := t1_0) (t2_0 := t4_0) (t2_1 := t4_1) (t3_0 := t5_0) (t4_0 := t2_0) (t4_1 := t2_1) (t5_0 := t3_0) (t6_0 := t8_0) (t6_1 := t8_1) (t6_2 := t8_2) f64 f h5 hmd
        unfold F_NH_figures_c122
        exact Or.inl ⟨ok, rfl, rfl, fun _ => f, fun q => by omega, t, fun _ => w1, fun q => by omega, w2⟩
      · rw [if_neg (by rw [g]; decide)]
        exact Or.inr (Or.inr ⟨ok, g, fun _ => f, fun q => by omega, rfl, rfl⟩)
    · have yi : x2.toInt ≠ 2 := fun q => y (Int32.toInt_inj.mp q)
      rw [if_neg y, if_neg y]
      rcases y_canF f32 (u := t7_0 x3.toNatClampNeg) with ⟨g, f⟩ | ⟨g, f⟩
      · rw [if_pos g]
        obtain ⟨t, w1, w2⟩ := V_exF (x3 := t7_0 x3.toNatClampNeg) (x4 := x4) (x5 := x5) (x6 := x6) (t0_0 := t0_0) (t1_0 := t1_0) (t2_0 := t4_0) (t2_1 := t4_1) (t3_0 := t5_0) (t4_0 := t2_0) (t4_1 := t2_1) (t5_0 := t3_0) (t6_0 := t9_0) (t6_1 := t9_1) (t6_2 := t9_2) f32 f h5 hmd
        unfold F_NH_figures_c122_6
        exact Or.inl ⟨ok, rfl, rfl, fun q => by omega, fun _ => f, t, fun q => by omega, fun _ => w1, w2⟩
      · rw [if_neg (by rw [g]; decide)]
        exact Or.inr (Or.inr ⟨ok, g, fun q => by omega, fun _ => f, rfl, rfl⟩)
  · rw [n0, if_neg (by decide : ¬ (1 : Int32) = 0)]
    exact Or.inr (Or.inl ⟨fun q => h5 q.2.2.2, rfl, rfl, rfl⟩)
