/-! values, for whole: numbers of the reference's directives, sign and prefix -/
theorem Z_n128 {x2 : Int32} {t0_0 : Int32} {t0_1 : Int32} {t0_2 : Int32} {t0_3 : Int32} {t0_4 : Int32} {t0_5 : Int32} {t0_6 : Int32} {t0_7 : Int32} {t0_8 : Int32} {t0_9 : Int32} {t0_10 : Int32} {t0_11 : Int32} {t0_12 : Int32} {t0_13 : Int32} {t0_14 : Int32} {t0_15 : Int32} {t0_16 : Int32} {t0_17 : Int32} {t0_18 : Int32} {t0_19 : Int32} {t0_20 : Int32} {t0_21 : Int32} {t1_0 : (Nat → Int32)} {t2_0 : (Nat → Int64)} {t3_0 : (Nat → Int32)} {t4_0 : (Nat → Int32)} {j42 : Int64} {a46 : Int32} {lx53 : Int32} {lx67 : Int32} {lx81 : Int32} {lx82 : (Nat → Int32)} {p dg s : Nat} {v : Int64} (hv : t2_0 t0_14.toNatClampNeg = v) (hj : v = j42) (hZ : ∀ i, i < 9 → 0 ≤ (t1_0 i).toInt ∧ (t1_0 i).toInt ≤ 64) (h14 : 0 ≤ t0_14.toInt ∧ t0_14.toInt ≤ 8) (hx : x2 = 111 ∨ x2 = 120 ∨ x2 = 100 ∨ x2 = 102 ∨ x2 = 101 ∨ x2 = 103) (h64 : x2 = 111 ∨ x2 = 120 → t1_0 t0_14.toNatClampNeg = 64) (hs : x2 = 102 ∨ x2 = 101 ∨ x2 = 103 → (t1_0 t0_14.toNatClampNeg).toInt = (s : Int)) (hs2 : s ≤ 40) (hp : (t0_12.toInt < 0 ∧ p = 6) ∨ t0_12.toInt = (p : Int)) (hp2 : p ≤ 9999) (hd : yDt v.toInt.natAbs dg) (h53 : (lx53 = 0 ∧ (x2 = 111 ∨ x2 = 120)) ∨ (lx53 = 1 ∧ ¬ (x2 = 111 ∨ x2 = 120))) (h67 : lx67 = if v.toInt < 0 ∧ ¬ (x2 = 111 ∨ x2 = 120) then 1 else 0) {sg : List Nat} (hsg : sg = if x2 = 111 ∨ x2 = 120 then [] else zSgn v.toInt t0_9) (hl : yRt lx81 lx82 sg) : ∃ t f, zNuT x2 v s t0_9 p dg t f ∧ yRt (F_VR_numeric_J128 x2 t0_0 t0_1 t0_2 t0_3 t0_4 t0_5 t0_6 t0_7 t0_8 t0_9 t0_10 t0_11 t0_12 t0_13 t0_14 t0_15 t0_16 t0_17 t0_18 t0_19 t0_20 t0_21 t1_0 t2_0 t3_0 t4_0 j42 a46 lx53 lx67 lx81 lx82).1 (F_VR_numeric_J128 x2 t0_0 t0_1 t0_2 t0_3 t0_4 t0_5 t0_6 t0_7 t0_8 t0_9 t0_10 t0_11 t0_12 t0_13 t0_14 t0_15 t0_16 t0_17 t0_18 t0_19 t0_20 t0_21 t1_0 t2_0 t3_0 t4_0 j42 a46 lx53 lx67 lx81 lx82).2.2.2.2.2.1 t ∧ (F_VR_numeric_J128 x2 t0_0 t0_1 t0_2 t0_3 t0_4 t0_5 t0_6 t0_7 t0_8 t0_9 t0_10 t0_11 t0_12 t0_13 t0_14 t0_15 t0_16 t0_17 t0_18 t0_19 t0_20 t0_21 t1_0 t2_0 t3_0 t4_0 j42 a46 lx53 lx67 lx81 lx82).2.1.toInt = (f : Int) ∧ (F_VR_numeric_J128 x2 t0_0 t0_1 t0_2 t0_3 t0_4 t0_5 t0_6 t0_7 t0_8 t0_9 t0_10 t0_11 t0_12 t0_13 t0_14 t0_15 t0_16 t0_17 t0_18 t0_19 t0_20 t0_21 t1_0 t2_0 t3_0 t4_0 j42 a46 lx53 lx67 lx81 lx82).2.2.1 = a46 := by
  have sl : sg.length ≤ 1 := by
    rw [hsg]
    unfold zSgn
    repeat' split
    all_goals decide
  unfold F_VR_numeric_J128
  have fin : ∀ (a b : Int32) (c : Nat → Int32), ∀ pre : List Nat, yRt b c pre → pre.length ≤ 3 → pre = (if x2 = 111 ∨ x2 = 120 then zPre x2 t0_9 else zSgn v.toInt t0_9) → ∃ t f, zNuT x2 v s t0_9 p dg t f ∧ yRt (F_VR_numeric_J161 x2 t0_0 t0_1 t0_2 t0_3 t0_4 t0_5 t0_6 t0_7 t0_8 t0_9 t0_10 t0_11 t0_12 t0_13 t0_14 t0_15 t0_16 t0_17 t0_18 t0_19 t0_20 t0_21 t1_0 t2_0 t3_0 t4_0 j42 a46 lx53 lx67 lx81 lx82 b c).1 (F_VR_numeric_J161 x2 t0_0 t0_1 t0_2 t0_3 t0_4 t0_5 t0_6 t0_7 t0_8 t0_9 t0_10 t0_11 t0_12 t0_13 t0_14 t0_15 t0_16 t0_17 t0_18 t0_19 t0_20 t0_21 t1_0 t2_0 t3_0 t4_0 j42 a46 lx53 lx67 lx81 lx82 b c).2.2.2.2.2.1 t ∧ (F_VR_numeric_J161 x2 t0_0 t0_1 t0_2 t0_3 t0_4 t0_5 t0_6 t0_7 t0_8 t0_9 t0_10 t0_11 t0_12 t0_13 t0_14 t0_15 t0_16 t0_17 t0_18 t0_19 t0_20 t0_21 t1_0 t2_0 t3_0 t4_0 j42 a46 lx53 lx67 lx81 lx82 b c).2.1.toInt = (f : Int) ∧ (F_VR_numeric_J161 x2 t0_0 t0_1 t0_2 t0_3 t0_4 t0_5 t0_6 t0_7 t0_8 t0_9 t0_10 t0_11 t0_12 t0_13 t0_14 t0_15 t0_16 t0_17 t0_18 t0_19 t0_20 t0_21 t1_0 t2_0 t3_0 t4_0 j42 a46 lx53 lx67 lx81 lx82 b c).2.2.1 = a46 := by
    intro _ b c pre hb hp3 hpre
    obtain ⟨u, u1, u2, u3, u4⟩ := Z_n161 (x2 := x2) (t0_0 := t0_0) (t0_1 := t0_1) (t0_2 := t0_2) (t0_3 := t0_3) (t0_4 := t0_4) (t0_5 := t0_5) (t0_6 := t0_6) (t0_7 := t0_7) (t0_8 := t0_8) (t0_9 := t0_9) (t0_10 := t0_10) (t0_11 := t0_11) (t0_12 := t0_12) (t0_13 := t0_13) (t0_14 := t0_14) (t0_15 := t0_15) (t0_16 := t0_16) (t0_17 := t0_17) (t0_18 := t0_18) (t0_19 := t0_19) (t0_20 := t0_20) (t0_21 := t0_21) (t1_0 := t1_0) (t2_0 := t2_0) (t3_0 := t3_0) (t4_0 := t4_0) (j42 := j42) (a46 := a46) (lx53 := lx53) (lx67 := lx67) (lx81 := lx81) (lx82 := lx82) (lx95 := b) (lx96 := c)  hv hj hZ h14 hx h64 hs hs2 hp hp2 hd  h53 h67 hb (by omega)
    subst hj
    refine ⟨_, pre.length, ?_, u2, by rw [u3]; exact hb.1, u4⟩
    rcases u1 with ⟨a1, a2⟩ | ⟨a1, a2⟩ | ⟨a1, a2⟩
    · rw [if_pos a1] at hpre ⊢
      exact Or.inl ⟨a1, u, a2, by rw [List.append_nil, hpre], by rw [hpre]⟩
    · have nx : ¬ (x2 = 111 ∨ x2 = 120) := by rw [a1]; decide
      rw [if_neg nx] at hpre ⊢
      exact Or.inr (Or.inl ⟨a1, u, a2, by rw [hpre], by rw [hpre]⟩)
    · have nx : ¬ (x2 = 111 ∨ x2 = 120) := by rcases a1 with a | a | a <;> rw [a] <;> decide
      rw [if_neg nx] at hpre ⊢
      exact Or.inr (Or.inr ⟨a1, u, a2, by rw [hpre], by rw [hpre]⟩)
  rcases h53 with ⟨l1, xo⟩ | ⟨l1, nx⟩
  · rw [if_pos xo] at hsg
    rw [if_pos l1, Z_hasR (k := 2) rfl]
    by_cases g : t0_9 &&& 2 = 0
    · rw [if_pos g, if_pos (rfl : (0 : Int32) = 0)]
      exact fin 0 _ _ sg hl (by omega) (by rw [if_pos xo, hsg]; unfold zPre; rw [if_pos g])
    · rw [if_neg g, if_neg (show ¬ (1 : Int32) = 0 by decide)]
      by_cases o : x2 = 111
      · rw [if_pos o]
        unfold F_VR_numeric_J158
        have w := Z_word (x2 := 48) (t0_0 := t0_0) (t0_1 := t0_1) (t0_2 := t0_2) (t0_3 := t0_3) (t0_4 := t0_4) (t0_5 := t0_5) (t0_6 := t0_6) (t0_7 := t0_7) (t0_8 := t0_8) (t0_9 := t0_9) (t0_10 := t0_10) (t0_11 := t0_11) (t0_12 := t0_12) (t0_13 := t0_13) (t0_14 := t0_14) (t0_15 := t0_15) (t0_16 := t0_16) (t0_17 := lx81) (t0_18 := t0_18) (t0_19 := a46) (t0_20 := t0_20) (t0_21 := t0_21) (t1_0 := lx82) (X := 48) rfl (by decide) hl (by omega)
        rw [hsg, List.nil_append, show zWl 5 48 = [48] by decide] at w
        revert w
        generalize F_VR_word 48 t0_0 t0_1 t0_2 t0_3 t0_4 t0_5 t0_6 t0_7 t0_8 t0_9 t0_10 t0_11 t0_12 t0_13 t0_14 t0_15 t0_16 lx81 t0_18 a46 t0_20 t0_21 lx82 = q
        intro w
        unfold F_VR_numeric_c158
        exact fin 0 _ _ _ w (by decide) (by rw [if_pos xo]; unfold zPre; rw [if_neg g, if_pos o])
      · rw [if_neg o]
        unfold F_VR_numeric_J158
        have w := Z_word (x2 := 30768) (t0_0 := t0_0) (t0_1 := t0_1) (t0_2 := t0_2) (t0_3 := t0_3) (t0_4 := t0_4) (t0_5 := t0_5) (t0_6 := t0_6) (t0_7 := t0_7) (t0_8 := t0_8) (t0_9 := t0_9) (t0_10 := t0_10) (t0_11 := t0_11) (t0_12 := t0_12) (t0_13 := t0_13) (t0_14 := t0_14) (t0_15 := t0_15) (t0_16 := t0_16) (t0_17 := lx81) (t0_18 := t0_18) (t0_19 := a46) (t0_20 := t0_20) (t0_21 := t0_21) (t1_0 := lx82) (X := 30768) rfl (by decide) hl (by omega)
        rw [hsg, List.nil_append, show zWl 5 30768 = [48, 120] by decide] at w
        revert w
        generalize F_VR_word 30768 t0_0 t0_1 t0_2 t0_3 t0_4 t0_5 t0_6 t0_7 t0_8 t0_9 t0_10 t0_11 t0_12 t0_13 t0_14 t0_15 t0_16 lx81 t0_18 a46 t0_20 t0_21 lx82 = q
        intro w
        unfold F_VR_numeric_c158
        exact fin 0 _ _ _ w (by decide) (by rw [if_pos xo]; unfold zPre; rw [if_neg g, if_neg o])
  · rw [if_neg (show ¬ lx53 = 0 by rw [l1]; decide)]
    exact fin 0 _ _ sg hl (by omega) (by rw [if_neg nx]; rw [if_neg nx] at hsg; exact hsg)
theorem Z_n55 {x2 : Int32} {t0_0 : Int32} {t0_1 : Int32} {t0_2 : Int32} {t0_3 : Int32} {t0_4 : Int32} {t0_5 : Int32} {t0_6 : Int32} {t0_7 : Int32} {t0_8 : Int32} {t0_9 : Int32} {t0_10 : Int32} {t0_11 : Int32} {t0_12 : Int32} {t0_13 : Int32} {t0_14 : Int32} {t0_15 : Int32} {t0_16 : Int32} {t0_17 : Int32} {t0_18 : Int32} {t0_19 : Int32} {t0_20 : Int32} {t0_21 : Int32} {t1_0 : (Nat → Int32)} {t2_0 : (Nat → Int64)} {t3_0 : (Nat → Int32)} {t4_0 : (Nat → Int32)} {j42 : Int64} {a46 : Int32} {lx53 : Int32} {lx67 : Int32} {p dg s : Nat} {v : Int64} (hv : t2_0 t0_14.toNatClampNeg = v) (hj : v = j42) (hZ : ∀ i, i < 9 → 0 ≤ (t1_0 i).toInt ∧ (t1_0 i).toInt ≤ 64) (h14 : 0 ≤ t0_14.toInt ∧ t0_14.toInt ≤ 8) (hx : x2 = 111 ∨ x2 = 120 ∨ x2 = 100 ∨ x2 = 102 ∨ x2 = 101 ∨ x2 = 103) (h64 : x2 = 111 ∨ x2 = 120 → t1_0 t0_14.toNatClampNeg = 64) (hs : x2 = 102 ∨ x2 = 101 ∨ x2 = 103 → (t1_0 t0_14.toNatClampNeg).toInt = (s : Int)) (hs2 : s ≤ 40) (hp : (t0_12.toInt < 0 ∧ p = 6) ∨ t0_12.toInt = (p : Int)) (hp2 : p ≤ 9999) (hd : yDt v.toInt.natAbs dg) (h53 : (lx53 = 0 ∧ (x2 = 111 ∨ x2 = 120)) ∨ (lx53 = 1 ∧ ¬ (x2 = 111 ∨ x2 = 120))) (h67 : lx67 = if v.toInt < 0 ∧ ¬ (x2 = 111 ∨ x2 = 120) then 1 else 0) (hl : yRt t0_17 t3_0 []) : ∃ t f, zNuT x2 v s t0_9 p dg t f ∧ yRt (F_VR_numeric_J55 x2 t0_0 t0_1 t0_2 t0_3 t0_4 t0_5 t0_6 t0_7 t0_8 t0_9 t0_10 t0_11 t0_12 t0_13 t0_14 t0_15 t0_16 t0_17 t0_18 t0_19 t0_20 t0_21 t1_0 t2_0 t3_0 t4_0 j42 a46 lx53 lx67).1 (F_VR_numeric_J55 x2 t0_0 t0_1 t0_2 t0_3 t0_4 t0_5 t0_6 t0_7 t0_8 t0_9 t0_10 t0_11 t0_12 t0_13 t0_14 t0_15 t0_16 t0_17 t0_18 t0_19 t0_20 t0_21 t1_0 t2_0 t3_0 t4_0 j42 a46 lx53 lx67).2.2.2.2.2.1 t ∧ (F_VR_numeric_J55 x2 t0_0 t0_1 t0_2 t0_3 t0_4 t0_5 t0_6 t0_7 t0_8 t0_9 t0_10 t0_11 t0_12 t0_13 t0_14 t0_15 t0_16 t0_17 t0_18 t0_19 t0_20 t0_21 t1_0 t2_0 t3_0 t4_0 j42 a46 lx53 lx67).2.1.toInt = (f : Int) ∧ (F_VR_numeric_J55 x2 t0_0 t0_1 t0_2 t0_3 t0_4 t0_5 t0_6 t0_7 t0_8 t0_9 t0_10 t0_11 t0_12 t0_13 t0_14 t0_15 t0_16 t0_17 t0_18 t0_19 t0_20 t0_21 t1_0 t2_0 t3_0 t4_0 j42 a46 lx53 lx67).2.2.1 = a46 := by
  unfold F_VR_numeric_J55
  have J : ∀ (c : Int32) (k : Nat), c.toInt = (k : Int) → [k] = (if x2 = 111 ∨ x2 = 120 then [] else zSgn v.toInt t0_9) → ∀ q, q = F_VR_put c t0_0 t0_1 t0_2 t0_3 t0_4 t0_5 t0_6 t0_7 t0_8 t0_9 t0_10 t0_11 t0_12 t0_13 t0_14 t0_15 t0_16 t0_17 t0_18 a46 t0_20 t0_21 t3_0 → yRt q.1 q.2 [k] := by
    intro c k hc _ q hq
    have w := Z_put (x2 := c) (t0_0 := t0_0) (t0_1 := t0_1) (t0_2 := t0_2) (t0_3 := t0_3) (t0_4 := t0_4) (t0_5 := t0_5) (t0_6 := t0_6) (t0_7 := t0_7) (t0_8 := t0_8) (t0_9 := t0_9) (t0_10 := t0_10) (t0_11 := t0_11) (t0_12 := t0_12) (t0_13 := t0_13) (t0_14 := t0_14) (t0_15 := t0_15) (t0_16 := t0_16) (t0_17 := t0_17) (t0_18 := t0_18) (t0_19 := a46) (t0_20 := t0_20) (t0_21 := t0_21) hl (by decide) hc
    rw [← hq] at w
    exact w
  by_cases z : v.toInt < 0 ∧ ¬ (x2 = 111 ∨ x2 = 120)
  · have l67 : lx67 = 1 := by rw [h67, if_pos z]
    rw [if_neg (show ¬ lx67 = 0 by rw [l67]; decide), Z_h40]
    by_cases e : t0_9 &&& 32 = 0
    · rw [if_pos e, if_pos (rfl : (0 : Int32) = 0)]
      unfold F_VR_numeric_J79 F_VR_numeric_c79
      have sg : [45] = (if x2 = 111 ∨ x2 = 120 then [] else zSgn v.toInt t0_9) := by rw [if_neg z.2]; unfold zSgn; rw [if_pos z.1, if_pos e]
      exact Z_n128  hv hj hZ h14 hx h64 hs hs2 hp hp2 hd  h53 h67 sg (J 45 45 rfl sg _ rfl)
    · rw [if_neg e, if_neg (show ¬ (1 : Int32) = 0 by decide)]
      unfold F_VR_numeric_J79 F_VR_numeric_c79
      have sg : [40] = (if x2 = 111 ∨ x2 = 120 then [] else zSgn v.toInt t0_9) := by rw [if_neg z.2]; unfold zSgn; rw [if_pos z.1, if_neg e]
      exact Z_n128  hv hj hZ h14 hx h64 hs hs2 hp hp2 hd  h53 h67 sg (J 40 40 rfl sg _ rfl)
  · have l67 : lx67 = 0 := by rw [h67, if_neg z]
    rw [if_pos l67]
    have h53' := h53
    rcases h53 with ⟨l1, xo⟩ | ⟨l1, nx⟩
    · rw [if_pos l1]
      exact Z_n128  hv hj hZ h14 hx h64 hs hs2 hp hp2 hd  h53' h67 (by rw [if_pos xo]) hl
    · rw [if_neg (show ¬ lx53 = 0 by rw [l1]; decide)]
      have vp : ¬ v.toInt < 0 := fun w => z ⟨w, nx⟩
      unfold F_VR_numeric_J108
      rw [Z_hasR (k := 4) rfl, Z_hasR (k := 128) rfl]
      by_cases e : t0_9 &&& 4 = 0
      · simp only [if_pos e, if_pos (rfl : (0 : Int32) = 0)]
        by_cases f : t0_9 &&& 128 = 0
        · simp only [if_pos f, if_pos (rfl : (0 : Int32) = 0)]
          exact Z_n128  hv hj hZ h14 hx h64 hs hs2 hp hp2 hd  h53' h67 (by rw [if_neg nx]; unfold zSgn; rw [if_neg vp, if_pos e, if_pos f]) hl
        · simp only [if_neg f, if_neg (show ¬ (1 : Int32) = 0 by decide)]
          unfold F_VR_numeric_J125 F_VR_numeric_c125
          have sg : [32] = (if x2 = 111 ∨ x2 = 120 then [] else zSgn v.toInt t0_9) := by rw [if_neg nx]; unfold zSgn; rw [if_neg vp, if_pos e, if_neg f]
          exact Z_n128  hv hj hZ h14 hx h64 hs hs2 hp hp2 hd  h53' h67 sg (J 32 32 rfl sg _ rfl)
      · simp only [if_neg e, if_neg (show ¬ (1 : Int32) = 0 by decide)]
        unfold F_VR_numeric_J125 F_VR_numeric_c125
        have sg : [43] = (if x2 = 111 ∨ x2 = 120 then [] else zSgn v.toInt t0_9) := by rw [if_neg nx]; unfold zSgn; rw [if_neg vp, if_neg e]
        exact Z_n128  hv hj hZ h14 hx h64 hs hs2 hp hp2 hd  h53' h67 sg (J 43 43 rfl sg _ rfl)
theorem Z_numr {x2 : Int32} {t0_0 : Int32} {t0_1 : Int32} {t0_2 : Int32} {t0_3 : Int32} {t0_4 : Int32} {t0_5 : Int32} {t0_6 : Int32} {t0_7 : Int32} {t0_8 : Int32} {t0_9 : Int32} {t0_10 : Int32} {t0_11 : Int32} {t0_12 : Int32} {t0_13 : Int32} {t0_14 : Int32} {t0_15 : Int32} {t0_16 : Int32} {t0_17 : Int32} {t0_18 : Int32} {t0_19 : Int32} {t0_20 : Int32} {t0_21 : Int32} {t1_0 : (Nat → Int32)} {t2_0 : (Nat → Int64)} {t3_0 : (Nat → Int32)} {t4_0 : (Nat → Int32)} {p dg s : Nat} {v : Int64} (hv : t2_0 t0_14.toNatClampNeg = v) (hZ : ∀ i, i < 9 → 0 ≤ (t1_0 i).toInt ∧ (t1_0 i).toInt ≤ 64) (h14 : 0 ≤ t0_14.toInt ∧ t0_14.toInt ≤ 8) (hx : x2 = 111 ∨ x2 = 120 ∨ x2 = 100 ∨ x2 = 102 ∨ x2 = 101 ∨ x2 = 103) (h64 : x2 = 111 ∨ x2 = 120 → t1_0 t0_14.toNatClampNeg = 64) (hs : x2 = 102 ∨ x2 = 101 ∨ x2 = 103 → (t1_0 t0_14.toNatClampNeg).toInt = (s : Int)) (hs2 : s ≤ 40) (hp : (t0_12.toInt < 0 ∧ p = 6) ∨ t0_12.toInt = (p : Int)) (hp2 : p ≤ 9999) (hd : yDt v.toInt.natAbs dg) (hl : yRt t0_17 t3_0 []) : ∃ t f, zNuT x2 v s t0_9 p dg t f ∧ yRt (F_VR_numeric x2 t0_0 t0_1 t0_2 t0_3 t0_4 t0_5 t0_6 t0_7 t0_8 t0_9 t0_10 t0_11 t0_12 t0_13 t0_14 t0_15 t0_16 t0_17 t0_18 t0_19 t0_20 t0_21 t1_0 t2_0 t3_0 t4_0).1 (F_VR_numeric x2 t0_0 t0_1 t0_2 t0_3 t0_4 t0_5 t0_6 t0_7 t0_8 t0_9 t0_10 t0_11 t0_12 t0_13 t0_14 t0_15 t0_16 t0_17 t0_18 t0_19 t0_20 t0_21 t1_0 t2_0 t3_0 t4_0).2.2.2.2.2.1 t ∧ (F_VR_numeric x2 t0_0 t0_1 t0_2 t0_3 t0_4 t0_5 t0_6 t0_7 t0_8 t0_9 t0_10 t0_11 t0_12 t0_13 t0_14 t0_15 t0_16 t0_17 t0_18 t0_19 t0_20 t0_21 t1_0 t2_0 t3_0 t4_0).2.1.toInt = (f : Int) ∧ (F_VR_numeric x2 t0_0 t0_1 t0_2 t0_3 t0_4 t0_5 t0_6 t0_7 t0_8 t0_9 t0_10 t0_11 t0_12 t0_13 t0_14 t0_15 t0_16 t0_17 t0_18 t0_19 t0_20 t0_21 t1_0 t2_0 t3_0 t4_0).2.2.1 = (if t0_9 &&& 8 = 0 then 0 else 1) := by
  have e0 : (0 : Int64).toInt = 0 := rfl
  have hj : v = t2_0 t0_14.toNatClampNeg := hv.symm
  have h8 : F_VR_has 48 t0_0 t0_1 t0_2 t0_3 t0_4 t0_5 t0_6 t0_7 t0_8 t0_9 t0_10 t0_11 t0_12 t0_13 t0_14 t0_15 t0_16 t0_17 t0_18 t0_19 t0_20 t0_21 = if t0_9 &&& 8 = 0 then 0 else 1 := Z_hasR (k := 8) rfl
  rw [← h8]
  have X : (x2 = 111 ∨ x2 = 120) → ∃ t f, zNuT x2 v s t0_9 p dg t f ∧ yRt (F_VR_numeric_J36 x2 t0_0 t0_1 t0_2 t0_3 t0_4 t0_5 t0_6 t0_7 t0_8 t0_9 t0_10 t0_11 t0_12 t0_13 t0_14 t0_15 t0_16 t0_17 t0_18 t0_19 t0_20 t0_21 t1_0 t2_0 t3_0 t4_0 (t2_0 t0_14.toNatClampNeg) (F_VR_has 48 t0_0 t0_1 t0_2 t0_3 t0_4 t0_5 t0_6 t0_7 t0_8 t0_9 t0_10 t0_11 t0_12 t0_13 t0_14 t0_15 t0_16 t0_17 t0_18 t0_19 t0_20 t0_21)).1 (F_VR_numeric_J36 x2 t0_0 t0_1 t0_2 t0_3 t0_4 t0_5 t0_6 t0_7 t0_8 t0_9 t0_10 t0_11 t0_12 t0_13 t0_14 t0_15 t0_16 t0_17 t0_18 t0_19 t0_20 t0_21 t1_0 t2_0 t3_0 t4_0 (t2_0 t0_14.toNatClampNeg) (F_VR_has 48 t0_0 t0_1 t0_2 t0_3 t0_4 t0_5 t0_6 t0_7 t0_8 t0_9 t0_10 t0_11 t0_12 t0_13 t0_14 t0_15 t0_16 t0_17 t0_18 t0_19 t0_20 t0_21)).2.2.2.2.2.1 t ∧ (F_VR_numeric_J36 x2 t0_0 t0_1 t0_2 t0_3 t0_4 t0_5 t0_6 t0_7 t0_8 t0_9 t0_10 t0_11 t0_12 t0_13 t0_14 t0_15 t0_16 t0_17 t0_18 t0_19 t0_20 t0_21 t1_0 t2_0 t3_0 t4_0 (t2_0 t0_14.toNatClampNeg) (F_VR_has 48 t0_0 t0_1 t0_2 t0_3 t0_4 t0_5 t0_6 t0_7 t0_8 t0_9 t0_10 t0_11 t0_12 t0_13 t0_14 t0_15 t0_16 t0_17 t0_18 t0_19 t0_20 t0_21)).2.1.toInt = (f : Int) ∧ (F_VR_numeric_J36 x2 t0_0 t0_1 t0_2 t0_3 t0_4 t0_5 t0_6 t0_7 t0_8 t0_9 t0_10 t0_11 t0_12 t0_13 t0_14 t0_15 t0_16 t0_17 t0_18 t0_19 t0_20 t0_21 t1_0 t2_0 t3_0 t4_0 (t2_0 t0_14.toNatClampNeg) (F_VR_has 48 t0_0 t0_1 t0_2 t0_3 t0_4 t0_5 t0_6 t0_7 t0_8 t0_9 t0_10 t0_11 t0_12 t0_13 t0_14 t0_15 t0_16 t0_17 t0_18 t0_19 t0_20 t0_21)).2.2.1 = F_VR_has 48 t0_0 t0_1 t0_2 t0_3 t0_4 t0_5 t0_6 t0_7 t0_8 t0_9 t0_10 t0_11 t0_12 t0_13 t0_14 t0_15 t0_16 t0_17 t0_18 t0_19 t0_20 t0_21 := by
    intro xo
    unfold F_VR_numeric_J36 F_VR_numeric_J37
    rw [if_pos rfl]
    unfold F_VR_numeric_J54
    exact Z_n55  hv hj hZ h14 hx h64 hs hs2 hp hp2 hd  (Or.inl ⟨rfl, xo⟩) (by rw [if_neg (fun w => w.2 xo)]) hl
  unfold F_VR_numeric
  by_cases o : x2 = 111
  · rw [if_pos o]
    exact X (Or.inl o)
  · rw [if_neg o]
    by_cases o2 : x2 = 120
    · rw [if_pos o2]
      exact X (Or.inr o2)
    · rw [if_neg o2]
      have nx : ¬ (x2 = 111 ∨ x2 = 120) := fun w => w.elim o o2
      unfold F_VR_numeric_J37
      rw [if_neg (show ¬ (1 : Int32) = 0 by decide)]
      by_cases g : 0 ≤ lg_cmp (t2_0 t0_14.toNatClampNeg) 0
      · rw [if_pos g]
        have g' := q_k7 g
        rw [hv] at g'
        unfold F_VR_numeric_J54
        exact Z_n55  hv hj hZ h14 hx h64 hs hs2 hp hp2 hd  (Or.inr ⟨rfl, nx⟩) (by rw [if_neg (fun w => by have := w.1; omega)]) hl
      · rw [if_neg g]
        have g' := q_k8 g
        rw [hv] at g'
        exact Z_n55  hv hj hZ h14 hx h64 hs hs2 hp hp2 hd  (Or.inr ⟨rfl, nx⟩) (by rw [if_pos ⟨by omega, nx⟩]) hl

