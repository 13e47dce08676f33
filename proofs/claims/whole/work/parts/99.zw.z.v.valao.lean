/-! values, for whole: texts: the reference's TextRows: scan -/
/-- what scan leaves -/
def QV_sc (B : Nat → Int) (L : Nat) (a0 a1 : Int32) (y : Int32 × Int32 × Int32 × Int32 × Int32 × Int32 × Int32 × Int32 × Int64 × Int32 × Int32 × Int64 × Int64 × Int32 × Int32 × (Nat → Int32)) : Prop := y.2.1 = a0 ∧ y.2.2.1 = a1 ∧ ∃ z, yFl B 1000000000 L z ∧ ((y.1 = 0 ∧ z = none) ∨ (y.1 = 1 ∧ ∃ (g : Nat) (k : Int32) (M pt : Nat) (f : Nat → Int) (e : Int), z = some (g, k, M, pt, f, e) ∧ g ≤ 1 ∧ y.2.2.2.1 = k ∧ y.2.2.2.2.2.1.toInt = (g : Int) ∧ (k = 2 ∨ k = 3 ∨ (M ≤ L ∧ pt ≤ M ∧ y.2.2.2.2.2.2.1.toInt = (M : Int) ∧ y.2.2.2.2.2.2.2.1.toInt = (pt : Int) ∧ y.2.2.2.2.2.2.2.2.1.toInt = e ∧ (-10000000000 ≤ e ∧ e ≤ 10000000000) ∧ ∀ j, j < M → (y.2.2.2.2.2.2.2.2.2.2.2.2.2.2.2 j).toInt = f j))))
theorem yNz_le {B : Nat → Int} {L s : Nat} : yNz B L s ≤ 1 := by
  unfold yNz
  split <;> omega
theorem V_sc108 {t0_0 : Int32} {t0_1 : Int32} {t0_2 : Int32} {t0_3 : Int32} {t0_4 : Int32} {t0_5 : Int32} {t0_6 : Int32} {t0_7 : Int64} {t0_8 : Int32} {t0_9 : Int32} {t0_10 : Int64} {t0_11 : Int64} {t0_12 : Int32} {t0_13 : Int32} {t1_0 : (Nat → Int32)} {t2_0 : (Nat → Int32)} {p75 : (Int32 × Int32 × Int32 × Int32 × Int32 × Int32 × Int32 × Int64 × Int32 × Int32 × Int64 × Int64 × Int32 × Int32)} {y31 : Int32} {y32 : Int32} {y33 : Int32} {y34 : Int32} {y35 : Int32} {y36 : Int32} {y37 : Int32} {y38 : Int64} {y39 : Int32} {y40 : Int32} {y41 : Int64} {y42 : Int64} {y43 : Int32} {y44 : Int32} {lx102 : Int32} {lx116 : Int32} {lx133 : Int32} {lx134 : Int32} {lx135 : Int32} {lx136 : Int32} {lx137 : Int32} {lx138 : Int32} {lx139 : Int32} {lx140 : Int32} {lx141 : Int64} {lx142 : Int32} {lx143 : Int32} {lx144 : Int64} {lx145 : Int64} {lx146 : Int32} {lx147 : Int32} {lx148 : (Nat → Int32)} {L a : Nat} {B : Nat → Int} {a0 a1 : Int32} (hT : yTr t1_0 L B) (h1 : lx135.toInt = (L : Int)) (hL : L ≤ 4100) (ha : yBl B L 0 a) (hn : lx138.toInt = ((yNz B L a : Nat) : Int)) (q0 : lx134 = a0) (q1 : lx135 = a1) (hr : ∃ r, yCo B 1000000000 L (yS1 B L a) r ∧ ((lx133 = 0 ∧ r = none) ∨ (lx133 = 1 ∧ ∃ (k : Int32) (p M pt : Nat) (f : Nat → Int) (e : Int), r = some (k, p, M, pt, f, e) ∧ p ≤ L ∧ lx136 = k ∧ lx137.toInt = (p : Int) ∧ (k = 2 ∨ k = 3 ∨ (M ≤ L ∧ pt ≤ M ∧ lx139.toInt = (M : Int) ∧ lx140.toInt = (pt : Int) ∧ lx141.toInt = e ∧ (-10000000000 ≤ e ∧ e ≤ 10000000000) ∧ ∀ j, j < M → (lx148 j).toInt = f j))))) : QV_sc B L a0 a1 (F_TR_scan_J108 t0_0 t0_1 t0_2 t0_3 t0_4 t0_5 t0_6 t0_7 t0_8 t0_9 t0_10 t0_11 t0_12 t0_13 t1_0 t2_0 p75 y31 y32 y33 y34 y35 y36 y37 y38 y39 y40 y41 y42 y43 y44 lx102 lx116 lx133 lx134 lx135 lx136 lx137 lx138 lx139 lx140 lx141 lx142 lx143 lx144 lx145 lx146 lx147 lx148) := by
  obtain ⟨r, hc, hr⟩ := hr
  unfold F_TR_scan_J108
  rcases hr with ⟨r1, r2⟩ | ⟨r1, k, p, M, pt, f, e, r2, r3, r4, r5, r6⟩
  · rw [if_pos r1]
    unfold F_TR_scan_J116
    rw [if_pos r1]
    exact ⟨q0, q1, none, ⟨a, r, ha, hc, Or.inl ⟨r2, rfl⟩⟩, Or.inl ⟨rfl, rfl⟩⟩
  · have nz : ¬ lx133 = 0 := by rw [r1]; decide
    rw [if_neg nz]
    obtain ⟨p2, q, b1, b2, b3⟩ := V_TR_blanks (t0_0 := lx134) (t0_1 := lx135) (t0_2 := lx136) (t0_3 := lx137) (t0_4 := lx138) (t0_5 := lx139) (t0_6 := lx140) (t0_7 := lx141) (t0_8 := lx142) (t0_9 := lx143) (t0_10 := lx144) (t0_11 := lx145) (t0_12 := lx146) (t0_13 := lx147) hT h1 hL r5 r3
    have hed := yBl_Ed b1
    unfold F_TR_scan_c113
    rw [b3]
    unfold F_TR_scan_J116
    rw [if_neg nz]
    by_cases c : q = lx135
    · rw [if_pos c]
      rw [c] at b2
      have pe : yEd B L p := hed.mp (by omega)
      exact ⟨q0, q1, _, ⟨a, r, ha, hc, Or.inr ⟨k, p, M, pt, f, e, r2, Or.inr ⟨pe, rfl⟩⟩⟩, Or.inr ⟨rfl, _, k, M, pt, f, e, rfl, yNz_le, r4, hn, r6⟩⟩
    · rw [if_neg c]
      have pe : ¬ yEd B L p := fun h => c (Int32.toInt_inj.mp (by rw [b2, hed.mpr h, h1]))
      exact ⟨q0, q1, none, ⟨a, r, ha, hc, Or.inr ⟨k, p, M, pt, f, e, r2, Or.inl ⟨pe, rfl⟩⟩⟩, Or.inl ⟨rfl, rfl⟩⟩
theorem V_sc53 {t0_0 : Int32} {t0_1 : Int32} {t0_2 : Int32} {t0_3 : Int32} {t0_4 : Int32} {t0_5 : Int32} {t0_6 : Int32} {t0_7 : Int64} {t0_8 : Int32} {t0_9 : Int32} {t0_10 : Int64} {t0_11 : Int64} {t0_12 : Int32} {t0_13 : Int32} {t1_0 : (Nat → Int32)} {t2_0 : (Nat → Int32)} {p75 : (Int32 × Int32 × Int32 × Int32 × Int32 × Int32 × Int32 × Int64 × Int32 × Int32 × Int64 × Int64 × Int32 × Int32)} {y31 : Int32} {y32 : Int32} {y33 : Int32} {y34 : Int32} {y35 : Int32} {y36 : Int32} {y37 : Int32} {y38 : Int64} {y39 : Int32} {y40 : Int32} {y41 : Int64} {y42 : Int64} {y43 : Int32} {y44 : Int32} {lx102 : Int32} {lx116 : Int32} {L a : Nat} {B : Nat → Int} {a0 a1 : Int32} (hT : yTr t1_0 L B) (h1 : y32.toInt = (L : Int)) (hL : L ≤ 4100) (ha : yBl B L 0 a) (hn : lx102.toInt = ((yNz B L a : Nat) : Int)) (hp : lx116.toInt = ((yS1 B L a : Nat) : Int)) (q0 : y31 = a0) (q1 : y32 = a1) : QV_sc B L a0 a1 (F_TR_scan_J53 t0_0 t0_1 t0_2 t0_3 t0_4 t0_5 t0_6 t0_7 t0_8 t0_9 t0_10 t0_11 t0_12 t0_13 t1_0 t2_0 p75 y31 y32 y33 y34 y35 y36 y37 y38 y39 y40 y41 y42 y43 y44 lx102 lx116) := by
  have hs := (yS1_le (B := B) ha.2.1).2
  have hh := V_TR_here (t0_0 := y31) (t0_1 := y32) (t0_2 := y33) (t0_3 := lx116) (t0_4 := lx102) (t0_5 := y36) (t0_6 := y37) (t0_7 := y38) (t0_8 := y39) (t0_9 := y40) (t0_10 := y41) (t0_11 := y42) (t0_12 := y43) (t0_13 := y44) hT h1 hp
  unfold F_TR_scan_J53
  generalize hcq : F_TR_here y31 y32 y33 lx116 lx102 y36 y37 y38 y39 y40 y41 y42 y43 y44 t1_0 = c at hh ⊢
  generalize hsq : yS1 B L a = s at hp hs hh
  by_cases c1 : c = 78
  · rw [if_pos c1]
    rw [c1] at hh
    have iL : s < L := by
      by_cases h : s < L
      · exact h
      · rw [if_neg h] at hh
        exact absurd hh (by decide)
    rw [if_pos iL] at hh
    have hB : B s = 78 := hh.symm
    obtain ⟨d, q, e1, e2⟩ := V_TR_spells (x2 := 5136718) (t0_0 := y31) (t0_1 := y32) (t0_2 := 3) (t0_3 := lx116) (t0_4 := lx102) (t0_5 := y36) (t0_6 := y37) (t0_7 := y38) (t0_8 := y39) (t0_9 := y40) (t0_10 := y41) (t0_11 := y42) (t0_12 := y43) (t0_13 := y44) (w := yNaN) hT h1 hL (by decide) (by decide) (by rw [yNaN_v]; rfl) hp hs
    unfold F_TR_scan_c71
    rw [e1]
    refine V_sc108 hT h1 hL ha hn q0 q1 ?_
    rw [hsq]
    rcases e2 with ⟨f1, f2⟩ | ⟨f1, f2, f3⟩
    · exact ⟨none, Or.inr (Or.inr ⟨f2, fun h => by have := h.2.1; omega, yNr_no iL (Or.inl hB)⟩), Or.inl ⟨f1, rfl⟩⟩
    · exact ⟨_, Or.inl ⟨f2, rfl⟩, Or.inr ⟨f1, 3, s + 3, 0, 0, _, 0, rfl, yWo_le hs f2, rfl, f3, Or.inr (Or.inl rfl)⟩⟩
  · rw [if_neg c1]
    have nN : ¬ yWo B L s yNaN := fun h => c1 (Int32.toInt_inj.mp (by rw [hh, if_pos h.1, h.2.1]; rfl))
    by_cases c2 : c = 73
    · rw [if_pos c2]
      rw [c2] at hh
      have iL : s < L := by
        by_cases h : s < L
        · exact h
        · rw [if_neg h] at hh
          exact absurd hh (by decide)
      rw [if_pos iL] at hh
      have hB : B s = 73 := hh.symm
      obtain ⟨d, q, e1, e2⟩ := V_TR_spells (x2 := 8751735898823355977) (t0_0 := y31) (t0_1 := y32) (t0_2 := 2) (t0_3 := lx116) (t0_4 := lx102) (t0_5 := y36) (t0_6 := y37) (t0_7 := y38) (t0_8 := y39) (t0_9 := y40) (t0_10 := y41) (t0_11 := y42) (t0_12 := y43) (t0_13 := y44) (w := yInf) hT h1 hL (by decide) (by decide) (by rw [yInf_v]; rfl) hp hs
      unfold F_TR_scan_c96
      rw [e1]
      refine V_sc108 hT h1 hL ha hn q0 q1 ?_
      rw [hsq]
      rcases e2 with ⟨f1, f2⟩ | ⟨f1, f2, f3⟩
      · exact ⟨none, Or.inr (Or.inr ⟨nN, f2, yNr_no iL (Or.inr hB)⟩), Or.inl ⟨f1, rfl⟩⟩
      · exact ⟨_, Or.inr (Or.inl ⟨f2, rfl⟩), Or.inr ⟨f1, 2, s + 8, 0, 0, _, 0, rfl, yWo_le hs f2, rfl, f3, Or.inl rfl⟩⟩
    · rw [if_neg c2]
      have nI : ¬ yWo B L s yInf := fun h => c2 (Int32.toInt_inj.mp (by rw [hh, if_pos h.1, h.2.1]; rfl))
      have hu := V_TR_number (t0_0 := y31) (t0_1 := y32) (t0_2 := y33) (t0_3 := lx116) (t0_4 := lx102) (t0_5 := y36) (t0_6 := y37) (t0_7 := y38) (t0_8 := y39) (t0_9 := y40) (t0_10 := y41) (t0_11 := y42) (t0_12 := y43) (t0_13 := y44) (t2_0 := t2_0) hT h1 hL hp hs
      generalize F_TR_number y31 y32 y33 lx116 lx102 y36 y37 y38 y39 y40 y41 y42 y43 y44 t1_0 t2_0 = p369 at hu ⊢
      obtain ⟨u0, u1, u4, r, u5, u6⟩ := hu
      unfold F_TR_scan_c104
      refine V_sc108 hT (by rw [u1]; exact h1) hL ha (by rw [u4]; exact hn) (u0.trans q0) (u1.trans q1) ?_
      rw [hsq]
      refine ⟨r, Or.inr (Or.inr ⟨nN, nI, u5⟩), ?_⟩
      rcases u6 with h | ⟨v1, k, p, M, pt, f, e, v2, v3, v4, v5, v6, v7, v8, v9, v10, v11, v12⟩
      · exact Or.inl h
      · exact Or.inr ⟨v1, k, p, M, pt, f, e, v2, v3, v6, v7, Or.inr (Or.inr ⟨v4, v5, v8, v9, v10, v11, v12⟩)⟩
theorem V_sc24 {t0_0 : Int32} {t0_1 : Int32} {t0_2 : Int32} {t0_3 : Int32} {t0_4 : Int32} {t0_5 : Int32} {t0_6 : Int32} {t0_7 : Int64} {t0_8 : Int32} {t0_9 : Int32} {t0_10 : Int64} {t0_11 : Int64} {t0_12 : Int32} {t0_13 : Int32} {t1_0 : (Nat → Int32)} {t2_0 : (Nat → Int32)} {p75 : (Int32 × Int32 × Int32 × Int32 × Int32 × Int32 × Int32 × Int64 × Int32 × Int32 × Int64 × Int64 × Int32 × Int32)} {y31 : Int32} {y32 : Int32} {y33 : Int32} {y34 : Int32} {y35 : Int32} {y36 : Int32} {y37 : Int32} {y38 : Int64} {y39 : Int32} {y40 : Int32} {y41 : Int64} {y42 : Int64} {y43 : Int32} {y44 : Int32} {lx102 : Int32} {L a : Nat} {B : Nat → Int} {a0 a1 : Int32} (hT : yTr t1_0 L B) (h1 : y32.toInt = (L : Int)) (hL : L ≤ 4100) (ha : yBl B L 0 a) (hn : (lx102 = 0 ∧ ¬ yNg B L a) ∨ (lx102 = 1 ∧ yNg B L a)) (hp : y34.toInt = (a : Int)) (q0 : y31 = a0) (q1 : y32 = a1) : QV_sc B L a0 a1 (F_TR_scan_J24 t0_0 t0_1 t0_2 t0_3 t0_4 t0_5 t0_6 t0_7 t0_8 t0_9 t0_10 t0_11 t0_12 t0_13 t1_0 t2_0 p75 y31 y32 y33 y34 y35 y36 y37 y38 y39 y40 y41 y42 y43 y44 lx102) := by
  have hal := ha.2.1
  have hh := V_TR_here (t0_0 := y31) (t0_1 := y32) (t0_2 := y33) (t0_3 := y34) (t0_4 := lx102) (t0_5 := y36) (t0_6 := y37) (t0_7 := y38) (t0_8 := y39) (t0_9 := y40) (t0_10 := y41) (t0_11 := y42) (t0_12 := y43) (t0_13 := y44) hT h1 hp
  have ea : a < L → (y34 + 1 : Int32).toInt = ((a + 1 : Nat) : Int) := fun h => by
    rw [q_addI (y := 1) hp rfl (by omega) (by omega)]
    omega
  unfold F_TR_scan_J24
  generalize F_TR_here y31 y32 y33 y34 lx102 y36 y37 y38 y39 y40 y41 y42 y43 y44 t1_0 = c at hh ⊢
  rcases hn with ⟨n1, n2⟩ | ⟨n1, n2⟩
  · rw [if_pos n1]
    have z0 : lx102.toInt = ((yNz B L a : Nat) : Int) := by
      rw [n1]
      unfold yNz
      rw [if_neg (show ¬ (a < L ∧ B a = 45) from n2)]
      rfl
    by_cases c1 : c = 43
    · rw [if_pos c1]
      rw [c1] at hh
      have iL : a < L := by
        by_cases h : a < L
        · exact h
        · rw [if_neg h] at hh
          exact absurd hh (by decide)
      rw [if_pos iL] at hh
      unfold F_TR_scan_J43
      refine V_sc53 hT h1 hL ha z0 ?_ q0 q1
      rw [ea iL]
      unfold yS1
      rw [if_pos ⟨iL, Or.inr hh.symm⟩]
    · rw [if_neg c1]
      refine V_sc53 hT h1 hL ha z0 ?_ q0 q1
      rw [hp]
      unfold yS1
      rw [if_neg (fun h => by
        rcases h.2 with e | e
        · exact n2 ⟨h.1, e⟩
        · exact c1 (Int32.toInt_inj.mp (by rw [hh, if_pos h.1, e]; rfl)))]
  · rw [if_neg (show ¬ lx102 = 0 by rw [n1]; decide)]
    unfold F_TR_scan_J43
    refine V_sc53 hT h1 hL ha ?_ ?_ q0 q1
    · rw [n1]
      unfold yNz
      rw [if_pos (show a < L ∧ B a = 45 from n2)]
      rfl
    · rw [ea n2.1]
      unfold yS1
      rw [if_pos ⟨n2.1, Or.inl n2.2⟩]
theorem V_TR_scan {t0_0 : Int32} {t0_1 : Int32} {t0_2 : Int32} {t0_3 : Int32} {t0_4 : Int32} {t0_5 : Int32} {t0_6 : Int32} {t0_7 : Int64} {t0_8 : Int32} {t0_9 : Int32} {t0_10 : Int64} {t0_11 : Int64} {t0_12 : Int32} {t0_13 : Int32} {t1_0 : (Nat → Int32)} {t2_0 : (Nat → Int32)} {L : Nat} {B : Nat → Int} (hT : yTr t1_0 L B) (h1 : t0_1.toInt = (L : Int)) (hL : L ≤ 4100) : QV_sc B L t0_0 t0_1 (F_TR_scan t0_0 t0_1 t0_2 t0_3 t0_4 t0_5 t0_6 t0_7 t0_8 t0_9 t0_10 t0_11 t0_12 t0_13 t1_0 t2_0) := by
  unfold F_TR_scan
  obtain ⟨a, q, b1, b2, b3⟩ := V_TR_blanks (t0_0 := t0_0) (t0_1 := t0_1) (t0_2 := t0_2) (t0_3 := 0) (t0_4 := t0_4) (t0_5 := t0_5) (t0_6 := t0_6) (t0_7 := t0_7) (t0_8 := t0_8) (t0_9 := t0_9) (t0_10 := t0_10) (t0_11 := t0_11) (t0_12 := t0_12) (t0_13 := t0_13) hT h1 hL (s := 0) rfl (Nat.zero_le _)
  rw [b3]
  unfold F_TR_scan_c6
  have hh := V_TR_here (t0_0 := t0_0) (t0_1 := t0_1) (t0_2 := t0_2) (t0_3 := q) (t0_4 := t0_4) (t0_5 := t0_5) (t0_6 := t0_6) (t0_7 := t0_7) (t0_8 := t0_8) (t0_9 := t0_9) (t0_10 := t0_10) (t0_11 := t0_11) (t0_12 := t0_12) (t0_13 := t0_13) hT h1 b2
  by_cases c1 : F_TR_here t0_0 t0_1 t0_2 q t0_4 t0_5 t0_6 t0_7 t0_8 t0_9 t0_10 t0_11 t0_12 t0_13 t1_0 = 45
  · rw [if_pos c1]
    rw [c1] at hh
    refine V_sc24 hT h1 hL b1 (Or.inr ⟨rfl, ?_⟩) b2 rfl rfl
    by_cases h : a < L
    · rw [if_pos h] at hh
      exact ⟨h, hh.symm⟩
    · rw [if_neg h] at hh
      exact absurd hh (by decide)
  · rw [if_neg c1]
    refine V_sc24 hT h1 hL b1 (Or.inl ⟨rfl, fun h => c1 (Int32.toInt_inj.mp ?_)⟩) b2 rfl rfl
    rw [hh, if_pos h.1, h.2]
    rfl
