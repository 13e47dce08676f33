/-! values, for whole: texts: the class's Reader: floatText as a whole -/
theorem y_infB {A B C : Int32} {P T : Nat} {l : Int} (hF : yF A B C P T l) : yu (F_Flo_infinity A B C) = T * 2 ^ P := by
  obtain ⟨f1, f2, f3, f4, f5, f6, f7⟩ := hF.n
  unfold F_Flo_infinity
  exact y_tI (hF.sh (q_i2l f3) f7)
theorem y_nanB {A B C : Int32} {P T : Nat} {l : Int} (hF : yF A B C P T l) : yu (F_Flo_noNumber A B C) = T * 2 ^ P + 2 ^ (P - 1) := by
  unfold F_Flo_noNumber F_Flo_infinity
  rcases hF with ⟨rfl, rfl, rfl, rfl, rfl, rfl⟩ | ⟨rfl, rfl, rfl, rfl, rfl, rfl⟩ <;> decide
/-- no number stands before its place -/
theorem yNr_s {B : Nat → Int} {cap e s p M pt : Nat} {k : Int32} {f : Nat → Int} {x : Int} (h : yNr B cap e s (some (k, p, M, pt, f, x))) : s ≤ p := by
  have en : ∀ q, q ≤ yEn B e q := fun q => by
    unfold yEn
    split <;> omega
  have pw : ∀ {u : Nat} {w : Option (Nat × Int)} {q : Nat × Int}, yPw B cap e u w → w = some q → u ≤ q.1 := fun {u w q} h1 h2 => by
    obtain ⟨p', g1, g2⟩ := h1
    rw [h2] at g2
    rcases g2 with ⟨_, g2⟩ | ⟨g2, v, x', g3, g4, g5, g6⟩
    · cases g2
    · simp only [Option.some.injEq] at g5
      rw [g5]
      have : u ≤ yS1 B e u := by
        unfold yS1
        split <;> omega
      show u ≤ p'
      omega
  rcases h with ⟨h0, p', M', o, f', h1, h2, h3⟩ | ⟨h0, p', M', o, f', h1, h2, h3⟩
  · have rle := yRn_le h1
    rcases h3 with ⟨_, h3⟩ | ⟨_, _, w, h5, h6⟩
    · cases h3
    · cases w with
      | none => cases h6
      | some q =>
        have := pw h5 rfl
        simp only [Option.map_some, Option.some.injEq, Prod.mk.injEq] at h6
        have := en q.1
        omega
  · have rle := yRn_le h1
    rcases h3 with ⟨_, h3⟩ | ⟨_, _, h3⟩ | ⟨_, _, w, h5, h6⟩
    · cases h3
    · simp only [Option.some.injEq, Prod.mk.injEq] at h3
      have := en p'
      omega
    · cases w with
      | none => cases h6
      | some q =>
        have := pw h5 rfl
        simp only [Option.map_some, Option.some.injEq, Prod.mk.injEq] at h6
        have := en q.1
        omega
theorem V_ft9 {A : Int32} {B : Int32} {C : Int32} {t0_0 : Int64} {t0_1 : Int64} {t0_2 : Int32} {t0_3 : Int32} {t0_4 : Int32} {t0_5 : Int32} {t0_6 : Int32} {t0_7 : Int32} {t0_8 : Int32} {t0_9 : Int64} {t1_0 : Int32} {t2_0 : (Nat → Int64)} {t3_0 : Int32} {t3_1 : Int32} {t4_0 : (Nat → Int32)} {t5_0 : Int32} {t5_1 : Int32} {t6_0 : (Nat → Int32)} {t7_0 : Int32} {t7_1 : Int32} {t8_0 : (Nat → Int32)} {t9_0 : Int32} {t9_1 : Int32} {t10_0 : (Nat → Int32)} {t11_0 : Int32} {t11_1 : Int32} {t12_0 : (Nat → Int32)} {p94 : (Int64 × Int64 × Int32 × Int32 × Int32 × Int32 × Int32 × Int32 × Int32 × Int64)} {p145 : (Int64 × Int64 × Int32 × Int32 × Int32 × Int32 × Int32 × Int32 × Int32 × Int64)} {p196 : (Int64 × Int64 × Int32 × Int32 × Int32 × Int32 × Int32 × Int32 × Int32 × Int64)} {P T L e s a : Nat} {l : Int} (hF : yF A B C P T l) (hs : t1_0.toInt = (L : Int)) (hL : L ≤ 4100) (h3 : p196.2.2.2.1.toInt = (e : Int)) (ha : yBl (ySB t2_0) L 0 a) (ht : yTe (ySB t2_0) L a e) (hsq : yS1 (ySB t2_0) e a = s) (h2 : p196.2.2.1.toInt = (s : Int)) (hg : (p196.2.2.2.2.1 = 0 ∧ ¬ yNg (ySB t2_0) e a) ∨ (p196.2.2.2.2.1 = 1 ∧ yNg (ySB t2_0) e a)) : QV_ft P T l (ySB t2_0) L (F_Rea_floatText_c9 A B C t0_0 t0_1 t0_2 t0_3 t0_4 t0_5 t0_6 t0_7 t0_8 t0_9 t1_0 t2_0 t3_0 t3_1 t4_0 t5_0 t5_1 t6_0 t7_0 t7_1 t8_0 t9_0 t9_1 t10_0 t11_0 t11_1 t12_0 p94 p145 p196).1 (F_Rea_floatText_c9 A B C t0_0 t0_1 t0_2 t0_3 t0_4 t0_5 t0_6 t0_7 t0_8 t0_9 t1_0 t2_0 t3_0 t3_1 t4_0 t5_0 t5_1 t6_0 t7_0 t7_1 t8_0 t9_0 t9_1 t10_0 t11_0 t11_1 t12_0 p94 p145 p196).2.2.1 := by
  have he := ht.2.1
  have hse : s ≤ e := by
    rw [← hsq]
    exact (yS1_le ht.1).2
  obtain ⟨f1, f2, f3, f4, f5, f6, f7⟩ := hF.n
  have tb : T * 2 ^ P < 2 ^ P * (T + 1) := by
    rw [Nat.mul_comm (2 ^ P), Nat.add_mul, Nat.one_mul]
    have : 0 < 2 ^ P := Nat.pow_pos (by decide)
    omega
  obtain ⟨g, hg1, hgz⟩ : ∃ g : Nat, ((p196.2.2.2.2.1 = 0 ∧ g = 0) ∨ (p196.2.2.2.2.1 = 1 ∧ g = 1)) ∧ yNz (ySB t2_0) e a = g := by
    rcases hg with ⟨u1, u2⟩ | ⟨u1, u2⟩
    · refine ⟨0, Or.inl ⟨u1, rfl⟩, ?_⟩
      unfold yNz
      rw [if_neg (show ¬ (a < e ∧ ySB t2_0 a = 45) from u2)]
    · refine ⟨1, Or.inr ⟨u1, rfl⟩, ?_⟩
      unfold yNz
      rw [if_pos (show a < e ∧ ySB t2_0 a = 45 from u2)]
  have gt : (p196.2.2.2.2.1 : Int32).toInt.toNat = g ∧ (p196.2.2.2.2.1 = 0 ∨ p196.2.2.2.2.1 = 1) ∧ g ≤ 1 := by
    rcases hg1 with ⟨u1, u2⟩ | ⟨u1, u2⟩
    · rw [u1, u2]
      exact ⟨rfl, Or.inl rfl, by omega⟩
    · rw [u1, u2]
      exact ⟨rfl, Or.inr rfl, by omega⟩
  obtain ⟨fe1, fe2, fe3⟩ := yFl_e (cap := 100000000000) (by decide) ha ht
  rw [hsq, hgz] at fe1 fe2 fe3
  have rN := V_R_NaN (t0_0 := p196.1) (t0_1 := p196.2.1) (t0_4 := p196.2.2.2.2.1) (t0_5 := p196.2.2.2.2.2.1) (t0_6 := p196.2.2.2.2.2.2.1) (t0_7 := p196.2.2.2.2.2.2.2.1) (t0_8 := p196.2.2.2.2.2.2.2.2.1) (t0_9 := p196.2.2.2.2.2.2.2.2.2) (t2_0 := t2_0) hs hL h3 he h2 hse
  have rI := V_R_Inf (t0_0 := p196.1) (t0_1 := p196.2.1) (t0_4 := p196.2.2.2.2.1) (t0_5 := p196.2.2.2.2.2.1) (t0_6 := p196.2.2.2.2.2.2.1) (t0_7 := p196.2.2.2.2.2.2.2.1) (t0_8 := p196.2.2.2.2.2.2.2.2.1) (t0_9 := p196.2.2.2.2.2.2.2.2.2) (t2_0 := t2_0) hs hL h3 he h2 hse
  unfold F_Rea_floatText_c9
  rcases rN with ⟨x1, n1⟩ | ⟨x1, x2, x3⟩
  · rw [x1, if_pos rfl]
    rcases rI with ⟨x1, n2⟩ | ⟨x1, x2, x3⟩
    · rw [x1, if_pos rfl]
      have fe3 := fe3 n1 n2
      obtain ⟨c, w', m1, m2⟩ := V_R_mark (t0_0 := p196.1) (t0_1 := p196.2.1) (t0_4 := p196.2.2.2.2.1) (t0_5 := p196.2.2.2.2.2.1) (t0_6 := p196.2.2.2.2.2.2.1) (t0_7 := p196.2.2.2.2.2.2.2.1) (t0_8 := p196.2.2.2.2.2.2.2.2.1) (t0_9 := p196.2.2.2.2.2.2.2.2.2) (t2_0 := t2_0) hs hL h3 he h2 hse
      rw [m1]
      unfold F_Rea_floatText_c62
      rcases m2 with ⟨d1, d2, d3⟩ | ⟨d1, d2, d3⟩
      · rw [if_pos d1]
        obtain ⟨c', w2, bh, kp, dr, so, ex, s', n', row, td, t2⟩ := V_R_dec (t0_0 := p196.1) (t0_1 := p196.2.1) (t0_2 := w') (t0_4 := p196.2.2.2.2.1) (t0_5 := p196.2.2.2.2.2.1) (t0_6 := p196.2.2.2.2.2.2.1) (t0_7 := p196.2.2.2.2.2.2.2.1) (t0_8 := p196.2.2.2.2.2.2.2.2.1) (t0_9 := p196.2.2.2.2.2.2.2.2.2) (t2_0 := t2_0) (t3_0 := t3_0) (t3_1 := t3_1) (t4_0 := t4_0) hs hL h3 he d3 hse d2
        rw [td]
        unfold F_Rea_floatText_c83
        rcases t2 with ⟨t3, t4⟩ | ⟨t3, q, M, pt, f, v1, v2, v3, v4, v5, v6, v7, v8⟩
        · rw [if_pos t3]
          exact ⟨none, ⟨none, fe3.1 t4, Or.inl ⟨rfl, rfl⟩⟩, Or.inl ⟨rfl, rfl⟩⟩
        · rw [if_neg (show ¬ c' = 0 by rw [t3]; decide)]
          have sq : s ≤ q := by
            have a1 := yNr_s v1
            have a2 : yEn (ySB t2_0) e q ≤ q + 1 := by
              unfold yEn
              split <;> omega
            rcases v1 with ⟨h0, _⟩ | ⟨h0, p', M', o, f', h1, h2', h3'⟩
            · exact absurd h0 d2
            · have rle := yRn_le h1
              rcases Nat.lt_or_ge q s with z | z
              · exfalso
                have qs : yEn (ySB t2_0) e q = q + 1 := by omega
                rcases h3' with ⟨_, h3'⟩ | ⟨hM, _, h3'⟩ | ⟨hM, _, w9, h5, h6⟩
                · cases h3'
                · simp only [Option.some.injEq, Prod.mk.injEq] at h3'
                  have : p' ≤ yEn (ySB t2_0) e p' := by
                    unfold yEn
                    split <;> omega
                  omega
                · cases w9 with
                  | none => cases h6
                  | some z9 =>
                    simp only [Option.map_some, Option.some.injEq, Prod.mk.injEq] at h6
                    obtain ⟨p9, g1, g2⟩ := h5
                    rcases g2 with ⟨_, g2⟩ | ⟨g2, v9, x9, g3, g4, g5, g6⟩
                    · cases g2
                    · simp only [Option.some.injEq] at g5
                      rw [g5] at h6
                      have u1 : p' + 1 ≤ yS1 (ySB t2_0) e (p' + 1) := by
                        unfold yS1
                        split <;> omega
                      have u2 : p9 ≤ yEn (ySB t2_0) e p9 := by
                        unfold yEn
                        split <;> omega
                      have u3 : yEn (ySB t2_0) e q = yEn (ySB t2_0) e p9 := h6.2.1
                      omega
              · exact z
          exact V_ft89 hF hs hL h3 ha ht hsq n1 n2 rfl hg1 hgz v1 sq v2 v3 v4 v5 v6 v7 (Or.inl ⟨d1, rfl, v8⟩)
      · rw [if_neg (show ¬ c = 0 by rw [d1]; decide)]
        obtain ⟨c', w2, bh, kp, dr, so, ex, s', n', row, td, t2⟩ := V_R_hex (t0_0 := p196.1) (t0_1 := p196.2.1) (t0_2 := w') (t0_4 := p196.2.2.2.2.1) (t0_5 := p196.2.2.2.2.2.1) (t0_6 := p196.2.2.2.2.2.2.1) (t0_7 := p196.2.2.2.2.2.2.2.1) (t0_8 := p196.2.2.2.2.2.2.2.2.1) (t0_9 := p196.2.2.2.2.2.2.2.2.2) (t2_0 := t2_0) (t3_0 := t3_0) (t3_1 := t3_1) (t4_0 := t4_0) hs hL h3 he d3 d2
        rw [td]
        unfold F_Rea_floatText_c73
        rcases t2 with ⟨t3, t4⟩ | ⟨t3, q, M, pt, f, v1, v2, v3, v4, v5, v6, v7, v8⟩
        · rw [if_pos t3]
          exact ⟨none, ⟨none, fe3.1 t4, Or.inl ⟨rfl, rfl⟩⟩, Or.inl ⟨rfl, rfl⟩⟩
        · rw [if_neg (show ¬ c' = 0 by rw [t3]; decide)]
          have sq : s ≤ q := by
            have a2 : yEn (ySB t2_0) e q ≤ q + 1 := by
              unfold yEn
              split <;> omega
            rcases v1 with ⟨h0, p', M', o, f', h1, h2', h3'⟩ | ⟨h0, _⟩
            · have rle := yRn_le h1
              rcases h3' with ⟨_, h3'⟩ | ⟨hM, _, w9, h5, h6⟩
              · cases h3'
              · cases w9 with
                | none => cases h6
                | some z9 =>
                  simp only [Option.map_some, Option.some.injEq, Prod.mk.injEq] at h6
                  obtain ⟨p9, g1, g2⟩ := h5
                  rcases g2 with ⟨_, g2⟩ | ⟨g2, v9, x9, g3, g4, g5, g6⟩
                  · cases g2
                  · simp only [Option.some.injEq] at g5
                    rw [g5] at h6
                    have u1 : p' + 1 ≤ yS1 (ySB t2_0) e (p' + 1) := by
                      unfold yS1
                      split <;> omega
                    have u2 : p9 ≤ yEn (ySB t2_0) e p9 := by
                      unfold yEn
                      split <;> omega
                    have u3 : yEn (ySB t2_0) e q = yEn (ySB t2_0) e p9 := h6.2.1
                    omega
            · exact absurd d2 h0
          exact V_ft89 hF hs hL h3 ha ht hsq n1 n2 rfl hg1 hgz v1 sq v2 v3 v4 v5 v6 v7 (Or.inr ⟨d1, rfl, v8⟩)
    · rw [x1, if_neg (show ¬ (1 : Int32) = 0 by decide)]
      have o := y_orS hF (y_infB hF) tb gt.2.1
      rw [gt.1] at o
      exact ⟨_, ⟨_, fe2 x2 x3, Or.inr ⟨g, 2, 0, 0, _, 0, rfl, Or.inr (Or.inl ⟨rfl, rfl⟩)⟩⟩, Or.inr ⟨g, _, rfl, gt.2.2, rfl, o⟩⟩
  · rw [x1, if_neg (show ¬ (1 : Int32) = 0 by decide)]
    exact ⟨_, ⟨_, fe1 x2 x3, Or.inr ⟨g, 3, 0, 0, _, 0, rfl, Or.inl ⟨rfl, rfl⟩⟩⟩, Or.inr ⟨0, _, rfl, by omega, rfl, by rw [Nat.zero_mul, Nat.add_zero]; exact y_nanB hF⟩⟩
theorem V_R_float {A : Int32} {B : Int32} {C : Int32} {t0_0 : Int64} {t0_1 : Int64} {t0_2 : Int32} {t0_3 : Int32} {t0_4 : Int32} {t0_5 : Int32} {t0_6 : Int32} {t0_7 : Int32} {t0_8 : Int32} {t0_9 : Int64} {t1_0 : Int32} {t2_0 : (Nat → Int64)} {t3_0 : Int32} {t3_1 : Int32} {t4_0 : (Nat → Int32)} {t5_0 : Int32} {t5_1 : Int32} {t6_0 : (Nat → Int32)} {t7_0 : Int32} {t7_1 : Int32} {t8_0 : (Nat → Int32)} {t9_0 : Int32} {t9_1 : Int32} {t10_0 : (Nat → Int32)} {t11_0 : Int32} {t11_1 : Int32} {t12_0 : (Nat → Int32)} {P T L : Nat} {l : Int} (hF : yF A B C P T l) (hs : t1_0.toInt = (L : Int)) (hL : L ≤ 4100) : QV_ft P T l (ySB t2_0) L (F_Rea_floatText A B C t0_0 t0_1 t0_2 t0_3 t0_4 t0_5 t0_6 t0_7 t0_8 t0_9 t1_0 t2_0 t3_0 t3_1 t4_0 t5_0 t5_1 t6_0 t7_0 t7_1 t8_0 t9_0 t9_1 t10_0 t11_0 t11_1 t12_0).1 (F_Rea_floatText A B C t0_0 t0_1 t0_2 t0_3 t0_4 t0_5 t0_6 t0_7 t0_8 t0_9 t1_0 t2_0 t3_0 t3_1 t4_0 t5_0 t5_1 t6_0 t7_0 t7_1 t8_0 t9_0 t9_1 t10_0 t11_0 t11_1 t12_0).2.2.1 := by
  unfold F_Rea_floatText F_Rea_begin F_Rea_floatText_c1
  obtain ⟨a, e, p, q, b1, b2, b3, b4, b5⟩ := V_R_trim (t0_0 := t0_0) (t0_1 := t0_1) (t0_2 := 0) (t0_3 := t1_0) (t0_4 := t0_4) (t0_5 := t0_5) (t0_6 := t0_6) (t0_7 := t0_7) (t0_8 := t0_8) (t0_9 := t0_9) (t2_0 := t2_0) hs hL rfl hs
  rw [b5]
  unfold F_Rea_floatText_c5
  obtain ⟨w, g, c1, c2, c3⟩ := V_R_sign (t0_0 := t0_0) (t0_1 := t0_1) (t0_2 := p) (t0_3 := q) (t0_4 := t0_4) (t0_5 := t0_5) (t0_6 := t0_6) (t0_7 := t0_7) (t0_8 := t0_8) (t0_9 := t0_9) (t2_0 := t2_0) hs hL b4 b2.2.1 b3
  rw [c1]
  exact V_ft9 hF hs hL b4 b1 b2 rfl c2 c3
