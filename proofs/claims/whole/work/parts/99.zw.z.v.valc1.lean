/-! values, for whole: compare on both sides -/
theorem y_nonC {A B C : Int32} {P T : Nat} {l : Int} (hF : yF A B C P T l) {x : Int64} : (F_Flo_isNoNumber A B C x = 0 ∧ ¬ yNoN P T (yu x)) ∨ (F_Flo_isNoNumber A B C x = 1 ∧ yNoN P T (yu x)) := by
  rw [y_non hF]
  by_cases c : yEx P T (yu x) = T ∧ yFx P (yu x) ≠ 0
  · rw [if_pos c]
    exact Or.inr ⟨rfl, c⟩
  · rw [if_neg c]
    exact Or.inl ⟨rfl, c⟩
def yCf (P T u v : Nat) (code ans : Int32) : Prop := ((yNoN P T u ∨ yNoN P T v) ∧ code = 2) ∨ (¬ yNoN P T u ∧ ¬ yNoN P T v ∧ code = 0 ∧ wC ans (yPl P T u) (yPl P T v))
def yCmp (k : Int32) (va vb : Int) (qa qb : Int × Int) (w1 w2 n1 n2 : Int64) (code ans : Int32) : Prop := (k = 0 ∧ code = 0 ∧ wC ans va vb) ∨ (k = 1 ∧ code = 0 ∧ wC ans (qa.1 * 10 ^ (qb.2 - qa.2).toNat) (qb.1 * 10 ^ (qa.2 - qb.2).toNat)) ∨ (k = 2 ∧ yCf 52 2047 (yu w1) (yu w2) code ans) ∨ (k = 3 ∧ yCf 23 255 (yu n1) (yu n2) code ans)
def yCmOk (k a b : Int32) : Prop := (0 ≤ k.toInt ∧ k.toInt ≤ 3) ∧ yReg a ∧ yReg b
theorem yF2 : yF 52 1075 2047 52 2047 (-1074) := Or.inl ⟨rfl, rfl, rfl, rfl, rfl, rfl⟩
theorem yF3 : yF 23 150 255 23 255 (-149) := Or.inr ⟨rfl, rfl, rfl, rfl, rfl, rfl⟩
theorem V_NH_compare {x2 : Int32} {x3 : Int32} {x4 : Int32} {t0_0 : Int32} {t0_1 : Int32} {t1_0 : (Nat → Int32)} {t2_0 : Int32} {t2_1 : Int32} {t3_0 : (Nat → Int32)} {t4_0 : (Nat → Int64)} {t5_0 : (Nat → Int64)} {t6_0 : Int32} {t6_1 : Int32} {t7_0 : (Nat → Int32)} {t8_0 : Int32} {t8_1 : Int32} {t9_0 : Int32} {t9_1 : Int32} {t10_0 : (Nat → Int32)} {t11_0 : Int32} {t11_1 : Int32} {t12_0 : (Nat → Int32)} {t13_0 : Int32} {t13_1 : Int32} {t14_0 : Int32} {t14_1 : Int32} {t15_0 : (Nat → Int32)} {va vb : Int} {qa qb : Int × Int} (ha : bO 68 t6_0 t6_1 t7_0 va) (hb : bO 68 t11_0 t11_1 t12_0 vb) (hqa : dP 108 t9_0 t9_1 t10_0 t8_0 t8_1 qa) (hqb : dP 108 t14_0 t14_1 t15_0 t13_0 t13_1 qb) : (¬ yCmOk x2 x3 x4 ∧ (F_NH_compare x2 x3 x4 t0_0 t0_1 t1_0 t2_0 t2_1 t3_0 t4_0 t5_0 t6_0 t6_1 t7_0 t8_0 t8_1 t9_0 t9_1 t10_0 t11_0 t11_1 t12_0 t13_0 t13_1 t14_0 t14_1 t15_0).1 = 1) ∨ (yCmOk x2 x3 x4 ∧ yCmp x2 va vb qa qb (t4_0 x3.toNatClampNeg) (t4_0 x4.toNatClampNeg) (t5_0 x3.toNatClampNeg) (t5_0 x4.toNatClampNeg) (F_NH_compare x2 x3 x4 t0_0 t0_1 t1_0 t2_0 t2_1 t3_0 t4_0 t5_0 t6_0 t6_1 t7_0 t8_0 t8_1 t9_0 t9_1 t10_0 t11_0 t11_1 t12_0 t13_0 t13_1 t14_0 t14_1 t15_0).1 (F_NH_compare x2 x3 x4 t0_0 t0_1 t1_0 t2_0 t2_1 t3_0 t4_0 t5_0 t6_0 t6_1 t7_0 t8_0 t8_1 t9_0 t9_1 t10_0 t11_0 t11_1 t12_0 t13_0 t13_1 t14_0 t14_1 t15_0).2.1) := by
  unfold F_NH_compare
  rcases y_needR (x := x2) (y := x3) with ⟨r, h2, h3⟩ | ⟨r, h2⟩
  · rw [if_pos r]
    rcases y_needR (x := x2) (y := x4) with ⟨r4, _, h4⟩ | ⟨r4, h4⟩
    · rw [if_pos r4]
      refine Or.inr ⟨⟨h2, h3, h4⟩, ?_⟩
      clear r r4
      rcases y_x0123 h2.1 h2.2 with c | c | c | c
      · subst c
        rw [if_pos rfl]
        exact Or.inl ⟨rfl, rfl, W_order ha hb⟩
      · subst c
        rw [if_neg (show ¬ (1 : Int32) = 0 by decide), if_pos rfl]
        have h := V_order (R := 108) (R2 := 108) (t0_0 := t0_0) (t0_1 := t0_1) (t1_0 := t1_0) (t2_0 := t2_0) (t2_1 := t2_1) (t3_0 := t3_0) hqa hqb rfl rfl
        revert h
        generalize F_DW_order 108 108 t0_0 t0_1 t1_0 t2_0 t2_1 t3_0 t8_0 t8_1 t9_0 t9_1 t10_0 t13_0 t13_1 t14_0 t14_1 t15_0 = p
        intro h
        unfold F_NH_compare_c51
        exact Or.inr (Or.inl ⟨rfl, rfl, h⟩)
      · subst c
        rw [if_neg (show ¬ (2 : Int32) = 0 by decide), if_neg (show ¬ (2 : Int32) = 1 by decide), if_pos rfl, if_pos rfl, if_pos rfl]
        refine Or.inr (Or.inr (Or.inl ⟨rfl, ?_⟩))
        rcases y_nonC yF2 (x := t4_0 x3.toNatClampNeg) with ⟨r, d⟩ | ⟨r, d⟩
        · rw [if_pos r]
          rcases y_nonC yF2 (x := t4_0 x4.toNatClampNeg) with ⟨r, e⟩ | ⟨r, e⟩
          · rw [if_pos r, if_pos (show F_NH_canHave 1 = 0 by decide)]
            dsimp only
            exact Or.inr ⟨d, e, rfl, y_jcmp (y_place yF2) (y_place yF2)⟩
          · rw [if_neg (show ¬ F_Flo_isNoNumber 52 1075 2047 (t4_0 x4.toNatClampNeg) = 0 by rw [r]; decide), if_neg (show ¬ F_NH_canHave 0 = 0 by decide)]
            exact Or.inl ⟨Or.inr e, by dsimp only; decide⟩
        · rw [if_neg (show ¬ F_Flo_isNoNumber 52 1075 2047 (t4_0 x3.toNatClampNeg) = 0 by rw [r]; decide), if_neg (show ¬ F_NH_canHave 0 = 0 by decide)]
          exact Or.inl ⟨Or.inl d, by dsimp only; decide⟩
      · subst c
        rw [if_neg (show ¬ (3 : Int32) = 0 by decide), if_neg (show ¬ (3 : Int32) = 1 by decide), if_neg (show ¬ (3 : Int32) = 2 by decide), if_neg (show ¬ (3 : Int32) = 2 by decide), if_neg (show ¬ (3 : Int32) = 2 by decide)]
        refine Or.inr (Or.inr (Or.inr ⟨rfl, ?_⟩))
        rcases y_nonC yF3 (x := t5_0 x3.toNatClampNeg) with ⟨r, d⟩ | ⟨r, d⟩
        · rw [if_pos r]
          rcases y_nonC yF3 (x := t5_0 x4.toNatClampNeg) with ⟨r, e⟩ | ⟨r, e⟩
          · rw [if_pos r, if_pos (show F_NH_canHave 1 = 0 by decide)]
            dsimp only
            exact Or.inr ⟨d, e, rfl, y_jcmp (y_place yF3) (y_place yF3)⟩
          · rw [if_neg (show ¬ F_Flo_isNoNumber 23 150 255 (t5_0 x4.toNatClampNeg) = 0 by rw [r]; decide), if_neg (show ¬ F_NH_canHave 0 = 0 by decide)]
            exact Or.inl ⟨Or.inr e, by dsimp only; decide⟩
        · rw [if_neg (show ¬ F_Flo_isNoNumber 23 150 255 (t5_0 x3.toNatClampNeg) = 0 by rw [r]; decide), if_neg (show ¬ F_NH_canHave 0 = 0 by decide)]
          exact Or.inl ⟨Or.inl d, by dsimp only; decide⟩
    · rw [if_neg (show ¬ F_NH_needRegister x2 x4 = 0 by rw [r4]; decide)]
      exact Or.inl ⟨fun h => h4 ⟨h.1, h.2.2⟩, r4⟩
  · rw [if_neg (show ¬ F_NH_needRegister x2 x3 = 0 by rw [r]; decide)]
    exact Or.inl ⟨fun h => h2 ⟨h.1, h.2.1⟩, r⟩
theorem y_ic1 {a b : Int64} {x y : Int} (ha : a.toInt = x) (hb : b.toInt = y) {c : Int32} (h : (0 ≤ lg_cmp a b ∧ lg_cmp a b ≤ 0 ∧ c = 0) ∨ (0 ≤ lg_cmp a b ∧ ¬ lg_cmp a b ≤ 0 ∧ c = 1) ∨ (¬ 0 ≤ lg_cmp a b ∧ c = -1)) : wC c x y := by
  rcases h with ⟨h1, h2, h3⟩ | ⟨h1, h2, h3⟩ | ⟨h1, h3⟩
  · have := g_lc5 h1
    have := g_lc3 h2
    exact Or.inl ⟨h3, by omega⟩
  · have := g_lc4 h2
    exact Or.inr (Or.inl ⟨h3, by omega⟩)
  · have := g_lc6 h1
    exact Or.inr (Or.inr ⟨h3, by omega⟩)
theorem y_mcJ {x2 : Int32} {x3 : Int32} {x4 : Int32} {t0_0 : Int32} {t0_1 : Int32} {t0_2 : Int32} {t1_0 : Int32} {t1_1 : Int32} {t1_2 : Int32} {t1_3 : Int32} {t1_4 : Int32} {t1_5 : Int32} {t1_6 : Int32} {t2_0 : (Nat → Int32)} {t3_0 : (Nat → Int32)} {t4_0 : (Nat → Int32)} {t5_0 : (Nat → Int32)} {t6_0 : Int32} {t6_1 : Int32} {t6_2 : Int32} {t6_3 : Int64} {t6_4 : Int32} {t6_5 : Int32} {t6_6 : Int32} {t6_7 : Int32} {t6_8 : Int32} {t6_9 : Int32} {t6_10 : Int32} {t7_0 : (Nat → Int32)} {t8_0 : (Nat → Int32)} {t9_0 : (Nat → Int32)} {t10_0 : (Nat → Int32)} {t11_0 : (Nat → Int64)} {lx69 : Int32} {j105 : Int64} {j99 : Int64} {lx115 : Int32} {P T : Nat} {l : Int} (hk : yKnd x2 P T l) (h1 : yBit P T (yu j99)) (h2 : yBit P T (yu j105)) (hl : lx115 = 0) : wC (F_NM_compare_J104 x2 x3 x4 t0_0 t0_1 t0_2 t1_0 t1_1 t1_2 t1_3 t1_4 t1_5 t1_6 t2_0 t3_0 t4_0 t5_0 t6_0 t6_1 t6_2 t6_3 t6_4 t6_5 t6_6 t6_7 t6_8 t6_9 t6_10 t7_0 t8_0 t9_0 t10_0 t11_0 lx69 j105 j99 lx115).1 (yPl P T (yu j99)) (yPl P T (yu j105)) ∧ (F_NM_compare_J104 x2 x3 x4 t0_0 t0_1 t0_2 t1_0 t1_1 t1_2 t1_3 t1_4 t1_5 t1_6 t2_0 t3_0 t4_0 t5_0 t6_0 t6_1 t6_2 t6_3 t6_4 t6_5 t6_6 t6_7 t6_8 t6_9 t6_10 t7_0 t8_0 t9_0 t10_0 t11_0 lx69 j105 j99 lx115).2.1 = 0 := by
  unfold F_NM_compare_J104
  have p1 := y_mplace hk h1
  have p2 := y_mplace hk h2
  rw [if_pos (show lx115 ≤ 0 by rw [hl]; decide)]
  by_cases c : 0 ≤ lg_cmp (F_NM_placeOf x2 j99) (F_NM_placeOf x2 j105)
  · rw [if_pos c]
    by_cases d : lg_cmp (F_NM_placeOf x2 j99) (F_NM_placeOf x2 j105) ≤ 0
    · rw [if_pos d]
      exact ⟨y_ic1 p1 p2 (Or.inl ⟨c, d, rfl⟩), hl⟩
    · rw [if_neg d]
      exact ⟨y_ic1 p1 p2 (Or.inr (Or.inl ⟨c, d, rfl⟩)), hl⟩
  · rw [if_neg c]
    exact ⟨y_ic1 p1 p2 (Or.inr (Or.inr ⟨c, rfl⟩)), hl⟩
theorem y_mc99 {x2 : Int32} {x3 : Int32} {x4 : Int32} {t0_0 : Int32} {t0_1 : Int32} {t0_2 : Int32} {t1_0 : Int32} {t1_1 : Int32} {t1_2 : Int32} {t1_3 : Int32} {t1_4 : Int32} {t1_5 : Int32} {t1_6 : Int32} {t2_0 : (Nat → Int32)} {t3_0 : (Nat → Int32)} {t4_0 : (Nat → Int32)} {t5_0 : (Nat → Int32)} {t6_0 : Int32} {t6_1 : Int32} {t6_2 : Int32} {t6_3 : Int64} {t6_4 : Int32} {t6_5 : Int32} {t6_6 : Int32} {t6_7 : Int32} {t6_8 : Int32} {t6_9 : Int32} {t6_10 : Int32} {t7_0 : (Nat → Int32)} {t8_0 : (Nat → Int32)} {t9_0 : (Nat → Int32)} {t10_0 : (Nat → Int32)} {t11_0 : (Nat → Int64)} {lx69 : Int32} {j105 : Int64} {j99 : Int64}  : (F_NM_compare_J99 x2 x3 x4 t0_0 t0_1 t0_2 t1_0 t1_1 t1_2 t1_3 t1_4 t1_5 t1_6 t2_0 t3_0 t4_0 t5_0 t6_0 t6_1 t6_2 t6_3 t6_4 t6_5 t6_6 t6_7 t6_8 t6_9 t6_10 t7_0 t8_0 t9_0 t10_0 t11_0 lx69 j105 j99).2.1 = 2 := by
  unfold F_NM_compare_J99 F_NM_compare_J104
  rw [if_neg (show ¬ (2 : Int32) ≤ 0 by decide)]
theorem y_mcF {x2 : Int32} {x3 : Int32} {x4 : Int32} {t0_0 : Int32} {t0_1 : Int32} {t0_2 : Int32} {t1_0 : Int32} {t1_1 : Int32} {t1_2 : Int32} {t1_3 : Int32} {t1_4 : Int32} {t1_5 : Int32} {t1_6 : Int32} {t2_0 : (Nat → Int32)} {t3_0 : (Nat → Int32)} {t4_0 : (Nat → Int32)} {t5_0 : (Nat → Int32)} {t6_0 : Int32} {t6_1 : Int32} {t6_2 : Int32} {t6_3 : Int64} {t6_4 : Int32} {t6_5 : Int32} {t6_6 : Int32} {t6_7 : Int32} {t6_8 : Int32} {t6_9 : Int32} {t6_10 : Int32} {t7_0 : (Nat → Int32)} {t8_0 : (Nat → Int32)} {t9_0 : (Nat → Int32)} {t10_0 : (Nat → Int32)} {t11_0 : (Nat → Int64)} {lx69 : Int32} {P T : Nat} {l : Int} {u v : Int64} (hk : yKnd x2 P T l) (hu : ∀ a b c, F_NM_bitsOf x2 x3 a b c t11_0 = u) (hv : ∀ a b c, F_NM_bitsOf x2 x4 a b c t11_0 = v) (h1 : yBit P T (yu u)) (h2 : yBit P T (yu v)) (hl : lx69 = 0) : yCf P T (yu u) (yu v) (F_NM_compare_J21 x2 x3 x4 t0_0 t0_1 t0_2 t1_0 t1_1 t1_2 t1_3 t1_4 t1_5 t1_6 t2_0 t3_0 t4_0 t5_0 t6_0 t6_1 t6_2 t6_3 t6_4 t6_5 t6_6 t6_7 t6_8 t6_9 t6_10 t7_0 t8_0 t9_0 t10_0 t11_0 lx69).2.1 (F_NM_compare_J21 x2 x3 x4 t0_0 t0_1 t0_2 t1_0 t1_1 t1_2 t1_3 t1_4 t1_5 t1_6 t2_0 t3_0 t4_0 t5_0 t6_0 t6_1 t6_2 t6_3 t6_4 t6_5 t6_6 t6_7 t6_8 t6_9 t6_10 t7_0 t8_0 t9_0 t10_0 t11_0 lx69).1 := by
  unfold F_NM_compare_J21
  rw [if_pos (show lx69 ≤ 0 by rw [hl]; decide), if_pos (show (2 : Int32) ≤ x2 by rcases hk with ⟨rfl, _⟩ | ⟨rfl, _⟩ <;> decide)]
  rw [hu, hv]
  rcases y_mnum (x := u) hk with ⟨r, d⟩ | ⟨r, d⟩
  · rw [if_pos r]
    exact Or.inl ⟨Or.inl d, y_mc99⟩
  · rw [if_neg (show ¬ F_NM_isNumber x2 u = 0 by rw [r]; decide)]
    rcases y_mnum (x := v) hk with ⟨r, e⟩ | ⟨r, e⟩
    · rw [if_pos r]
      exact Or.inl ⟨Or.inr e, y_mc99⟩
    · rw [if_neg (show ¬ F_NM_isNumber x2 v = 0 by rw [r]; decide)]
      obtain ⟨g1, g2⟩ := y_mcJ (x3 := x3) (x4 := x4) (t0_0 := t0_0) (t0_1 := t0_1) (t0_2 := t0_2) (t1_0 := t1_0) (t1_1 := t1_1) (t1_2 := t1_2) (t1_3 := t1_3) (t1_4 := t1_4) (t1_5 := t1_5) (t1_6 := t1_6) (t2_0 := t2_0) (t3_0 := t3_0) (t4_0 := t4_0) (t5_0 := t5_0) (t6_0 := t6_0) (t6_1 := t6_1) (t6_2 := t6_2) (t6_3 := t6_3) (t6_4 := t6_4) (t6_5 := t6_5) (t6_6 := t6_6) (t6_7 := t6_7) (t6_8 := t6_8) (t6_9 := t6_9) (t6_10 := t6_10) (t7_0 := t7_0) (t8_0 := t8_0) (t9_0 := t9_0) (t10_0 := t10_0) (t11_0 := t11_0) hk h1 h2 rfl
      exact Or.inr ⟨d, e, g2, g1⟩
theorem V_NM_compare {x2 : Int32} {x3 : Int32} {x4 : Int32} {t0_0 : Int32} {t0_1 : Int32} {t0_2 : Int32} {t1_0 : Int32} {t1_1 : Int32} {t1_2 : Int32} {t1_3 : Int32} {t1_4 : Int32} {t1_5 : Int32} {t1_6 : Int32} {t2_0 : (Nat → Int32)} {t3_0 : (Nat → Int32)} {t4_0 : (Nat → Int32)} {t5_0 : (Nat → Int32)} {t6_0 : Int32} {t6_1 : Int32} {t6_2 : Int32} {t6_3 : Int64} {t6_4 : Int32} {t6_5 : Int32} {t6_6 : Int32} {t6_7 : Int32} {t6_8 : Int32} {t6_9 : Int32} {t6_10 : Int32} {t7_0 : (Nat → Int32)} {t8_0 : (Nat → Int32)} {t9_0 : (Nat → Int32)} {t10_0 : (Nat → Int32)} {t11_0 : (Nat → Int64)} {W : Nat → Int} {D : Nat → Int × Int} (hw : wRw t2_0 t3_0 W) (hD : dRv t7_0 t8_0 t9_0 t10_0 D) (hn2 : ∀ i, i < 10 → yBit 52 2047 (yu (t11_0 i))) (hn3 : ∀ i, i < 10 → yBit 23 255 (yu (t11_0 (10 + i)))) : (¬ yCmOk x2 x3 x4 ∧ (F_NM_compare x2 x3 x4 t0_0 t0_1 t0_2 t1_0 t1_1 t1_2 t1_3 t1_4 t1_5 t1_6 t2_0 t3_0 t4_0 t5_0 t6_0 t6_1 t6_2 t6_3 t6_4 t6_5 t6_6 t6_7 t6_8 t6_9 t6_10 t7_0 t8_0 t9_0 t10_0 t11_0).2.1 = 1) ∨ (yCmOk x2 x3 x4 ∧ yCmp x2 (W x3.toNatClampNeg) (W x4.toNatClampNeg) (D x3.toNatClampNeg) (D x4.toNatClampNeg) (t11_0 x3.toNatClampNeg) (t11_0 x4.toNatClampNeg) (t11_0 (10 + x3.toNatClampNeg)) (t11_0 (10 + x4.toNatClampNeg)) (F_NM_compare x2 x3 x4 t0_0 t0_1 t0_2 t1_0 t1_1 t1_2 t1_3 t1_4 t1_5 t1_6 t2_0 t3_0 t4_0 t5_0 t6_0 t6_1 t6_2 t6_3 t6_4 t6_5 t6_6 t6_7 t6_8 t6_9 t6_10 t7_0 t8_0 t9_0 t10_0 t11_0).2.1 (F_NM_compare x2 x3 x4 t0_0 t0_1 t0_2 t1_0 t1_1 t1_2 t1_3 t1_4 t1_5 t1_6 t2_0 t3_0 t4_0 t5_0 t6_0 t6_1 t6_2 t6_3 t6_4 t6_5 t6_6 t6_7 t6_8 t6_9 t6_10 t7_0 t8_0 t9_0 t10_0 t11_0).1) := by
  unfold F_NM_compare
  have ten : ∀ {x : Int32}, yReg x → (10 + x).toNatClampNeg = 10 + x.toNatClampNeg ∧ x.toNatClampNeg < 10 := by
    intro x h
    have e : (10 : Int32).toInt = 10 := rfl
    have c := q_clI (i := x) rfl h.1
    have s := q_addI (a := 10) (b := x) e rfl (by have := h.1; omega) (by have := h.2; omega)
    have c2 := q_clI s (by have := h.1; omega)
    have := h.2
    omega
  rcases y_noII (x := x2) (y := x3) with ⟨r, h2, h3⟩ | ⟨r, h2⟩
  · rw [if_pos r]
    rcases y_noZ (x := x4) with ⟨r4, h4⟩ | ⟨r4, h4⟩
    · rw [if_pos r4]
      refine Or.inr ⟨⟨h2, h3, h4⟩, ?_⟩
      clear r r4
      obtain ⟨a1, a2⟩ := ten h3
      obtain ⟨b1, b2⟩ := ten h4
      rcases y_x0123 h2.1 h2.2 with c | c | c | c
      · subst c
        refine Or.inl ⟨rfl, ?_⟩
        unfold F_NM_compare_J21
        rw [if_pos (show (0 : Int32) ≤ 0 by decide), if_neg (show ¬ (2 : Int32) ≤ 0 by decide), if_pos rfl]
        obtain ⟨W2, hr, hE⟩ := hw
        have h := V_WR_compare (x2 := x3) (x3 := x4) (t0_0 := t1_0) (t0_1 := t1_1) (t0_2 := t1_2) (t0_3 := t1_3) (t0_4 := t1_4) (t0_5 := t1_5) (t0_6 := t1_6) (t1_0 := t2_0) (t2_0 := t3_0) (t3_0 := t4_0) (t4_0 := t5_0) hr ⟨h3.1, by have := h3.2; omega⟩ ⟨h4.1, by have := h4.2; omega⟩
        rw [hE _ a2, hE _ b2] at h
        revert h
        generalize F_WR_compare x3 x4 t1_0 t1_1 t1_2 t1_3 t1_4 t1_5 t1_6 t2_0 t3_0 t4_0 t5_0 = p
        intro h
        unfold F_NM_compare_c48
        exact ⟨rfl, h.1⟩
      · subst c
        refine Or.inr (Or.inl ⟨rfl, ?_⟩)
        unfold F_NM_compare_J21
        rw [if_pos (show (0 : Int32) ≤ 0 by decide), if_neg (show ¬ (2 : Int32) ≤ 1 by decide), if_neg (show ¬ (1 : Int32) = 0 by decide)]
        have h := V_DR_compare (x2 := x3) (x3 := x4) (dX := ((D x4.toNatClampNeg).2 - (D x3.toNatClampNeg).2).toNat) (dY := ((D x3.toNatClampNeg).2 - (D x4.toNatClampNeg).2).toNat) (t0_0 := t6_0) (t0_1 := t6_1) (t0_2 := t6_2) (t0_3 := t6_3) (t0_4 := t6_4) (t0_5 := t6_5) (t0_6 := t6_6) (t0_7 := t6_7) (t0_8 := t6_8) (t0_9 := t6_9) (t0_10 := t6_10) (t1_0 := t7_0) (t2_0 := t8_0) (t3_0 := t9_0) (t4_0 := t10_0) hD h3 h4 (by omega)
        revert h
        generalize F_DR_compare x3 x4 t6_0 t6_1 t6_2 t6_3 t6_4 t6_5 t6_6 t6_7 t6_8 t6_9 t6_10 t7_0 t8_0 t9_0 t10_0 = p
        intro h
        unfold F_NM_compare_c60
        exact ⟨rfl, h.1⟩
      · subst c
        refine Or.inr (Or.inr (Or.inl ⟨rfl, ?_⟩))
        exact y_mcF (Or.inl ⟨rfl, rfl, rfl, rfl⟩) (fun a b c => by unfold F_NM_bitsOf; rw [if_neg (show ¬ (2 : Int32) = 3 by decide)]) (fun a b c => by unfold F_NM_bitsOf; rw [if_neg (show ¬ (2 : Int32) = 3 by decide)]) (hn2 _ a2) (hn2 _ b2) rfl
      · subst c
        refine Or.inr (Or.inr (Or.inr ⟨rfl, ?_⟩))
        exact y_mcF (Or.inr ⟨rfl, rfl, rfl, rfl⟩) (fun a b c => by unfold F_NM_bitsOf; rw [if_pos rfl, a1]) (fun a b c => by unfold F_NM_bitsOf; rw [if_pos rfl, b1]) (hn3 _ a2) (hn3 _ b2) rfl
    · rw [if_neg (show ¬ F_NM_no_IZ x4 = 0 by rw [r4]; decide)]
      refine Or.inl ⟨fun h => h4 h.2.2, ?_⟩
      unfold F_NM_compare_J16 F_NM_compare_J21
      rw [if_neg (show ¬ (1 : Int32) ≤ 0 by decide)]
  · rw [if_neg (show ¬ F_NM_no_IIZ x2 x3 = 0 by rw [r]; decide)]
    refine Or.inl ⟨fun h => h2 ⟨h.1, h.2.1⟩, ?_⟩
    unfold F_NM_compare_J16 F_NM_compare_J21
    rw [if_neg (show ¬ (1 : Int32) ≤ 0 by decide)]
