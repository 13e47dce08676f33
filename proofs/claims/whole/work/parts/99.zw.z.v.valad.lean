/-! values, for whole: the reference's TextRows: findDecimal -/
theorem V_fd146 {K_F_TR_findDecimal_L78 : Int32 → Int32 → Int32 → Int32 → Int32 → Int32 → Int32 → Int64 → Int32 → Int32 → Int64 → Int64 → Int32 → Int32 → (Nat → Int32) → (Int32 × Int32 × Int32 × Int32 × Int32 × Int32 × Int32 × Int64 × Int32 × Int32 × Int64 × Int64 × Int32 × Int32 × (Nat → Int32))} {K_F_TR_findDecimal_L106 : Int32 → Int32 → Int32 → Int32 → Int32 → Int32 → Int32 → Int64 → Int32 → Int32 → Int64 → Int64 → Int32 → Int32 → (Nat → Int32) → (Int32 × Int32 × Int32 × Int32 × Int32 × Int32 × Int32 × Int64 × Int32 × Int32 × Int64 × Int64 × Int32 × Int32 × (Nat → Int32))} {x2 : Int32} {x3 : Int32} {x4 : Int32} {t0_0 : Int32} {t0_1 : Int32} {t0_2 : Int32} {t0_3 : Int32} {t0_4 : Int32} {t0_5 : Int32} {t0_6 : Int32} {t0_7 : Int64} {t0_8 : Int32} {t0_9 : Int32} {t0_10 : Int64} {t0_11 : Int64} {t0_12 : Int32} {t0_13 : Int32} {t1_0 : (Nat → Int32)} {t2_0 : (Nat → Int32)} {j30 : Int64} {lx35 : Int32} {p118 : (Int32 × Int32 × Int32 × Int32 × Int32 × Int32 × Int32 × Int64 × Int32 × Int32 × Int64 × Int64 × Int32 × Int32 × (Nat → Int32))} {lx142 : Int32} {lx143 : Int32} {lx144 : Int32} {lx145 : Int32} {lx146 : Int32} {lx147 : Int32} {lx148 : Int32} {lx149 : Int64} {lx150 : Int32} {lx151 : Int32} {lx152 : Int64} {lx153 : Int64} {lx154 : Int32} {lx155 : Int32} {lx156 : (Nat → Int32)} {lx203 : Int32} {lx204 : Int32} {lx205 : Int32} {lx206 : Int32} {lx207 : Int32} {lx208 : Int32} {lx209 : Int32} {lx210 : Int64} {lx211 : Int32} {lx212 : Int32} {lx213 : Int64} {lx214 : Int64} {lx215 : Int32} {lx216 : Int32} {lx217 : (Nat → Int32)} {P T : Nat} {l s : Int} {N D V : Nat} {k2 k4 : Int32} (hP : P = 52 ∨ P = 23) (hD : 0 < D) (hs : lx214.toInt = s) (hl : l ≤ s) (hs2 : s ≤ 1400) (hW : yW lx211 lx212 lx217) (hV : (V : Int) = trV lx217 800) (hX : yX N D s V) (h55 : trV lx217 55 < ((2 ^ (P + 1) : Nat) : Int)) (he : s = l ∨ ((2 ^ P : Nat) : Int) ≤ trV lx217 55) (h2 : lx205 = k2) (h4 : lx207 = k4) (h16 : lx216 = 0) : QV_fdR P T l N D k2 k4 (F_TR_findDecimal_J146 K_F_TR_findDecimal_L78 K_F_TR_findDecimal_L106 x2 x3 x4 t0_0 t0_1 t0_2 t0_3 t0_4 t0_5 t0_6 t0_7 t0_8 t0_9 t0_10 t0_11 t0_12 t0_13 t1_0 t2_0 j30 lx35 p118 lx142 lx143 lx144 lx145 lx146 lx147 lx148 lx149 lx150 lx151 lx152 lx153 lx154 lx155 lx156 lx203 lx204 lx205 lx206 lx207 lx208 lx209 lx210 lx211 lx212 lx213 lx214 lx215 lx216 lx217) := by
  have e54 : (54 : Int32).toInt = 54 := rfl
  have e55 : (55 : Int32).toInt = 55 := rfl
  have e5 : (50000000 : Int32).toInt = 50000000 := rfl
  have c55 : (55 : Int32).toNatClampNeg = 55 := rfl
  have p16 : ((2 ^ (P + 1) : Nat) : Int) < 10000000000000000 := by
    rcases hP with rfl | rfl <;> decide
  have p1 : 2 ^ (P + 1) = 2 ^ P * 2 := Nat.pow_succ _ _
  have p2 : 2 ^ (P + 2) = 2 ^ (P + 1) * 2 := Nat.pow_succ _ _
  have w2 := hW.2.1
  have hwp := V_wholePart (t0_0 := lx203) (t0_1 := lx204) (t0_2 := lx205) (t0_3 := lx206) (t0_4 := lx207) (t0_5 := lx208) (t0_6 := lx209) (t0_7 := lx210) (t0_10 := lx213) (t0_11 := lx214) (t0_12 := lx215) (t0_13 := lx216) hW
  have wv : (F_TR_wholePart lx203 lx204 lx205 lx206 lx207 lx208 lx209 lx210 lx211 lx212 lx213 lx214 lx215 lx216 lx217).toInt = trV lx217 55 := by
    rcases hwp with ⟨_, h⟩ | ⟨h, _⟩
    · exact h
    · omega
  -- the answer, once what is behind is known
  have fin : ∀ (r : Int32) (j : Int64), j.toInt = trV lx217 55 → ((lx212.toInt = 54 ∧ r = 0) ∨ (54 < lx212.toInt ∧ (lx217 55).toInt < 50000000 ∧ r = 1) ∨ (54 < lx212.toInt ∧ (lx217 55).toInt = 50000000 ∧ lx212.toInt = 55 ∧ r = 2) ∨ (54 < lx212.toInt ∧ (50000000 < (lx217 55).toInt ∨ ((lx217 55).toInt = 50000000 ∧ 55 < lx212.toInt)) ∧ r = 3)) → QV_fdR P T l N D k2 k4 (lx203, lx204, lx205, lx206, lx207, lx208, lx209, lx210, lx211, lx212, j, lx214, r, lx216, lx217) := fun r j hj hr => by
    obtain ⟨A, a1, a2, a3⟩ := y_fdE hD hX hW hV hr
    refine ⟨h2, h4, Or.inr ⟨h16, s, ⟨hl, ?_, ?_⟩, hs, by omega, ?_, a3⟩⟩
    · omega
    · rcases he with h | h
      · exact Or.inl h
      · exact Or.inr (by omega)
    · show j.toInt = _
      rw [hj, a2, a1]
  unfold F_TR_findDecimal_J146
  rw [c55]
  generalize F_TR_wholePart lx203 lx204 lx205 lx206 lx207 lx208 lx209 lx210 lx211 lx212 lx213 lx214 lx215 lx216 lx217 = j at wv ⊢
  by_cases g1 : lx212 ≤ (54 : Int32)
  · rw [if_pos g1]
    have g2 := q_leI g1
    have q : lx212 = 54 := Int32.toInt_inj.mp (by rw [e54]; omega)
    unfold F_TR_findDecimal_J174
    rw [if_pos (show lx212 ≤ (55 : Int32) by rw [q]; decide)]
    unfold F_TR_findDecimal_J190
    rw [if_pos q]
    exact fin 0 j wv (Or.inl ⟨by omega, rfl⟩)
  · rw [if_neg g1]
    have g2 := q_nleI g1
    have nq : ¬ lx212 = 54 := fun h => by
      rw [h] at g2
      omega
    have key : ∀ mo : Int32, ((mo = 0 ∧ lx212.toInt = 55) ∨ (mo = 1 ∧ 55 < lx212.toInt)) → QV_fdR P T l N D k2 k4 (F_TR_findDecimal_J190 K_F_TR_findDecimal_L78 K_F_TR_findDecimal_L106 x2 x3 x4 t0_0 t0_1 t0_2 t0_3 t0_4 t0_5 t0_6 t0_7 t0_8 t0_9 t0_10 t0_11 t0_12 t0_13 t1_0 t2_0 j30 lx35 p118 lx142 lx143 lx144 lx145 lx146 lx147 lx148 lx149 lx150 lx151 lx152 lx153 lx154 lx155 lx156 lx203 lx204 lx205 lx206 lx207 lx208 lx209 lx210 lx211 lx212 lx213 lx214 lx215 lx216 lx217 j (lx217 55) mo) := fun mo hmo => by
      unfold F_TR_findDecimal_J190
      rw [if_neg nq]
      by_cases g3 : (50000000 : Int32) ≤ lx217 55
      · rw [if_pos g3]
        have g4 := q_leI g3
        by_cases g5 : (50000000 : Int32) < lx217 55
        · rw [if_pos g5]
          have g6 := q_ltI g5
          exact fin 3 j wv (Or.inr (Or.inr (Or.inr ⟨by omega, Or.inl (by omega), rfl⟩)))
        · rw [if_neg g5]
          have g6 := q_nltI g5
          rcases hmo with ⟨m1, m2⟩ | ⟨m1, m2⟩
          · rw [if_pos m1]
            exact fin 2 j wv (Or.inr (Or.inr (Or.inl ⟨by omega, by omega, m2, rfl⟩)))
          · rw [if_neg (show ¬ mo = 0 by rw [m1]; decide)]
            exact fin 3 j wv (Or.inr (Or.inr (Or.inr ⟨by omega, Or.inr ⟨by omega, m2⟩, rfl⟩)))
      · rw [if_neg g3]
        have g4 := q_nleI g3
        exact fin 1 j wv (Or.inr (Or.inl ⟨by omega, by omega, rfl⟩))
    unfold F_TR_findDecimal_J174
    by_cases g3 : lx212 ≤ (55 : Int32)
    · rw [if_pos g3]
      have g4 := q_leI g3
      exact key 0 (Or.inl ⟨rfl, by omega⟩)
    · rw [if_neg g3]
      have g4 := q_nleI g3
      exact key 1 (Or.inr ⟨rfl, by omega⟩)
theorem V_fd2 {K_F_TR_findDecimal_L78 : Int32 → Int32 → Int32 → Int32 → Int32 → Int32 → Int32 → Int64 → Int32 → Int32 → Int64 → Int64 → Int32 → Int32 → (Nat → Int32) → (Int32 × Int32 × Int32 × Int32 × Int32 × Int32 × Int32 × Int64 × Int32 × Int32 × Int64 × Int64 × Int32 × Int32 × (Nat → Int32))} {x2 : Int32} {x3 : Int32} {x4 : Int32} {t0_0 : Int32} {t0_1 : Int32} {t0_2 : Int32} {t0_3 : Int32} {t0_4 : Int32} {t0_5 : Int32} {t0_6 : Int32} {t0_7 : Int64} {t0_8 : Int32} {t0_9 : Int32} {t0_10 : Int64} {t0_11 : Int64} {t0_12 : Int32} {t0_13 : Int32} {t1_0 : (Nat → Int32)} {t2_0 : (Nat → Int32)} {j30 : Int64} {lx35 : Int32} {p118 : (Int32 × Int32 × Int32 × Int32 × Int32 × Int32 × Int32 × Int64 × Int32 × Int32 × Int64 × Int64 × Int32 × Int32 × (Nat → Int32))} {lx142 : Int32} {lx143 : Int32} {lx144 : Int32} {lx145 : Int32} {lx146 : Int32} {lx147 : Int32} {lx148 : Int32} {lx149 : Int64} {lx150 : Int32} {lx151 : Int32} {lx152 : Int64} {lx153 : Int64} {lx154 : Int32} {lx155 : Int32} {lx156 : (Nat → Int32)} {P T : Nat} {l : Int} {N D : Nat} {k2 k4 : Int32} (hx3 : (x3 = 53 ∧ P = 52) ∨ (x3 = 24 ∧ P = 23)) (hx4 : x4.toInt = l) (hl : -1074 ≤ l ∧ l ≤ 0) (hD : 0 < D) : ∀ (n : Nat) (lx203 : Int32) (lx204 : Int32) (lx205 : Int32) (lx206 : Int32) (lx207 : Int32) (lx208 : Int32) (lx209 : Int32) (lx210 : Int64) (lx211 : Int32) (lx212 : Int32) (lx213 : Int64) (lx214 : Int64) (lx215 : Int32) (lx216 : Int32) (lx217 : (Nat → Int32)), ∀ (s : Int) (V : Nat), lx214.toInt = s → l ≤ s → s ≤ 1400 → s - l < (n : Int) → yW lx211 lx212 lx217 → (V : Int) = trV lx217 800 → yX N D s V → trV lx217 55 < ((2 ^ (P + 1) : Nat) : Int) → lx205 = k2 → lx207 = k4 → lx216 = 0 → QV_fdR P T l N D k2 k4 (F_TR_findDecimal_L106 K_F_TR_findDecimal_L78 x2 x3 x4 t0_0 t0_1 t0_2 t0_3 t0_4 t0_5 t0_6 t0_7 t0_8 t0_9 t0_10 t0_11 t0_12 t0_13 t1_0 t2_0 j30 lx35 p118 lx142 lx143 lx144 lx145 lx146 lx147 lx148 lx149 lx150 lx151 lx152 lx153 lx154 lx155 lx156 n lx203 lx204 lx205 lx206 lx207 lx208 lx209 lx210 lx211 lx212 lx213 lx214 lx215 lx216 lx217) := by
  obtain ⟨y1, y2, y3⟩ := y_1sh hx3
  have hP : P = 52 ∨ P = 23 := by
    rcases hx3 with h | h
    · exact Or.inl h.2
    · exact Or.inr h.2
  have p1 : 2 ^ (P + 1) = 2 ^ P * 2 := Nat.pow_succ _ _
  intro n
  induction n with
  | zero =>
    intro lx203 lx204 lx205 lx206 lx207 lx208 lx209 lx210 lx211 lx212 lx213 lx214 lx215 lx216 lx217 s V h0 h1 h2 h3
    omega
  | succ n ih =>
    intro lx203 lx204 lx205 lx206 lx207 lx208 lx209 lx210 lx211 lx212 lx213 lx214 lx215 lx216 lx217 s V h0 h1 h2 h3 hW hV hX h55 hk2 hk4 h16
    have hwp := V_wholePart (t0_0 := lx203) (t0_1 := lx204) (t0_2 := lx205) (t0_3 := lx206) (t0_4 := lx207) (t0_5 := lx208) (t0_6 := lx209) (t0_7 := lx210) (t0_10 := lx213) (t0_11 := lx214) (t0_12 := lx215) (t0_13 := lx216) hW
    have wv : (F_TR_wholePart lx203 lx204 lx205 lx206 lx207 lx208 lx209 lx210 lx211 lx212 lx213 lx214 lx215 lx216 lx217).toInt = trV lx217 55 := by
      rcases hwp with ⟨_, h⟩ | ⟨h, _⟩
      · exact h
      · omega
    rw [F_TR_findDecimal_L106.eq_2]
    by_cases g1 : 0 ≤ lg_cmp (F_TR_wholePart lx203 lx204 lx205 lx206 lx207 lx208 lx209 lx210 lx211 lx212 lx213 lx214 lx215 lx216 lx217) ((1 : Int64) <<< ((x3 - 1 : Int32).toInt64 &&& 63))
    · rw [if_pos g1]
      have g2 := g_lc5 g1
      exact V_fd146 hP hD h0 h1 h2 hW hV hX h55 (Or.inr (by omega)) hk2 hk4 h16
    · rw [if_neg g1]
      have g2 := g_lc6 g1
      have x4l : x4.toInt64.toInt = l := q_i2l hx4
      by_cases g3 : lg_cmp lx214 x4.toInt64 ≤ 0
      · rw [if_pos g3]
        have g4 := g_lc3 g3
        exact V_fd146 hP hD h0 h1 h2 hW hV hX h55 (Or.inl (by omega)) hk2 hk4 h16
      · rw [if_neg g3]
        have g4 := g_lc4 g3
        -- fr is 53 at least
        have f53 : 1 ≤ lx211.toInt := by
          rcases Int.lt_or_le lx211.toInt 1 with c | c
          · exfalso
            obtain ⟨w1, w2, w3, w4, w5, w6, w7⟩ := hW
            have c8 := q_clI (i := lx211) rfl w1.1
            have p := yV_p (w := lx217) (i := lx211.toNatClampNeg) 53 (fun i hi => w3 i (by omega)) (by omega) (w5.resolve_left (by omega))
            have s55 : trV lx217 55 = (trV lx217 53 * 100000000 + (lx217 53).toInt) * 100000000 + (lx217 54).toInt := rfl
            have d53 := w3 53 (by decide)
            have d54 := w3 54 (by decide)
            omega
          · exact c
        have ht := V_TR_twice (t0_0 := lx203) (t0_1 := lx204) (t0_2 := lx205) (t0_3 := lx206) (t0_4 := lx207) (t0_5 := lx208) (t0_6 := lx209) (t0_7 := lx210) (t0_10 := lx213) (t0_11 := lx214) (t0_12 := lx215) (t0_13 := lx216) hW f53
        obtain ⟨fr, to, w, e, hW2, hV2⟩ := ht
        rw [e]
        unfold F_TR_findDecimal_c130
        have nv : ((2 * V : Nat) : Int) = trV w 800 := by omega
        have s1 : (lx214 - 1 : Int64).toInt = s - 1 := q_subL (y := 1) h0 rfl (by omega) (by omega)
        refine ih _ _ _ _ _ _ _ _ _ _ _ _ _ _ _ (s - 1) (2 * V) s1 (by omega) (by omega) (by omega) hW2 nv (yX_d hX rfl) ?_ hk2 hk4 h16
        -- twice what was below 2 ^ P
        have a1 := yV_sp (w := lx217) (k := 55) 745
        have a2 := yV_sp (w := w) (k := 55) 745
        obtain ⟨b1, b2⟩ := yV_b (w := fun i => lx217 (i + 55)) 745 (fun i hi => hW.2.2.1 _ (by omega))
        obtain ⟨b3, b4⟩ := yV_b (w := fun i => w (i + 55)) 745 (fun i hi => hW2.2.2.1 _ (by omega))
        rw [show 55 + 745 = 800 from rfl] at a1 a2
        have pB : (0 : Int) < 100000000 ^ 745 := Int.pow_pos (by decide)
        generalize (100000000 : Int) ^ 745 = B at a1 a2 b2 b4 pB
        rw [a1, a2] at hV2
        rcases Int.lt_or_le (trV w 55) ((2 ^ (P + 1) : Nat) : Int) with c | c
        · exact c
        · exfalso
          have k1 : 2 * (trV lx217 55 + 1) ≤ trV w 55 := by omega
          have k2 := Int.mul_le_mul_of_nonneg_right k1 (Int.le_of_lt pB)
          have k3 : 2 * (trV lx217 55 + 1) * B = 2 * (trV lx217 55 * B) + 2 * B := by grind
          omega
theorem V_fd1 {x2 : Int32} {x3 : Int32} {x4 : Int32} {t0_0 : Int32} {t0_1 : Int32} {t0_2 : Int32} {t0_3 : Int32} {t0_4 : Int32} {t0_5 : Int32} {t0_6 : Int32} {t0_7 : Int64} {t0_8 : Int32} {t0_9 : Int32} {t0_10 : Int64} {t0_11 : Int64} {t0_12 : Int32} {t0_13 : Int32} {t1_0 : (Nat → Int32)} {t2_0 : (Nat → Int32)} {j30 : Int64} {lx35 : Int32} {p118 : (Int32 × Int32 × Int32 × Int32 × Int32 × Int32 × Int32 × Int64 × Int32 × Int32 × Int64 × Int64 × Int32 × Int32 × (Nat → Int32))} {P T : Nat} {l : Int} {N D : Nat} {k2 k4 : Int32} (hx3 : (x3 = 53 ∧ P = 52) ∨ (x3 = 24 ∧ P = 23)) (hx4 : x4.toInt = l) (hl : -1074 ≤ l ∧ l ≤ 0) (hD : 0 < D) : ∀ (n : Nat) (lx142 : Int32) (lx143 : Int32) (lx144 : Int32) (lx145 : Int32) (lx146 : Int32) (lx147 : Int32) (lx148 : Int32) (lx149 : Int64) (lx150 : Int32) (lx151 : Int32) (lx152 : Int64) (lx153 : Int64) (lx154 : Int32) (lx155 : Int32) (lx156 : (Nat → Int32)), ∀ (s : Int) (V : Nat), lx153.toInt = s → 0 ≤ s → s ≤ 1330 → 1331 - s < (n : Int) → trI lx153.toInt lx150 lx151 lx156 → yW lx150 lx151 lx156 → (V : Int) = trV lx156 800 → yX N D s V → lx144 = k2 → lx146 = k4 → lx155 = 0 → QV_fdR P T l N D k2 k4 (F_TR_findDecimal_L78 x2 x3 x4 t0_0 t0_1 t0_2 t0_3 t0_4 t0_5 t0_6 t0_7 t0_8 t0_9 t0_10 t0_11 t0_12 t0_13 t1_0 t2_0 j30 lx35 p118 n lx142 lx143 lx144 lx145 lx146 lx147 lx148 lx149 lx150 lx151 lx152 lx153 lx154 lx155 lx156) := by
  obtain ⟨y1, y2, y3⟩ := y_1sh hx3
  have hx3' : x3 = 53 ∨ x3 = 24 := by
    rcases hx3 with h | h
    · exact Or.inl h.1
    · exact Or.inr h.1
  intro n
  induction n with
  | zero =>
    intro lx142 lx143 lx144 lx145 lx146 lx147 lx148 lx149 lx150 lx151 lx152 lx153 lx154 lx155 lx156 s V h0 h1 h2 h3
    omega
  | succ n ih =>
    intro lx142 lx143 lx144 lx145 lx146 lx147 lx148 lx149 lx150 lx151 lx152 lx153 lx154 lx155 lx156 s V h0 h1 h2 h3 hI hW hV hX hk2 hk4 h16
    have hwp := V_wholePart (t0_0 := lx142) (t0_1 := lx143) (t0_2 := lx144) (t0_3 := lx145) (t0_4 := lx146) (t0_5 := lx147) (t0_6 := lx148) (t0_7 := lx149) (t0_10 := lx152) (t0_11 := lx153) (t0_12 := lx154) (t0_13 := lx155) hW
    rw [F_TR_findDecimal_L78.eq_2]
    by_cases g1 : lg_cmp (F_TR_wholePart lx142 lx143 lx144 lx145 lx146 lx147 lx148 lx149 lx150 lx151 lx152 lx153 lx154 lx155 lx156) ((1 : Int64) <<< (x3.toInt64 &&& 63)) < 0
    · rw [if_pos g1]
      have g2 := g_lc1 g1
      refine V_fd2 hx3 hx4 hl hD _ _ _ _ _ _ _ _ _ _ _ _ _ _ _ _ s V h0 (by omega) (by omega) (by omega) hW hV hX ?_ hk2 hk4 h16
      rcases hwp with ⟨_, h⟩ | ⟨h, h'⟩
      · omega
      · omega
    · rw [if_neg g1]
      have hVp := tr_wp2 hx3' g1 hI.1 hI.2.2.2.2.1 hI.2.2.1
      have hle := hI.le hVp
      have h2' := (T_TR_half (t0_0 := lx142) (t0_1 := lx143) (t0_2 := lx144) (t0_3 := lx145) (t0_4 := lx146) (t0_5 := lx147) (t0_6 := lx148) (t0_7 := lx149) (t0_8 := lx150) (t0_9 := lx151) (t0_10 := lx152) (t0_11 := lx153) (t0_12 := lx154) (t0_13 := lx155) (t1_0 := lx156) hI.1 hI.2.1 hI.2.2.1 hI.2.2.2.1 (hI.even hVp)).2
      obtain ⟨fr, to, w, e, hW2, hV2⟩ := V_TR_half (t0_0 := lx142) (t0_1 := lx143) (t0_2 := lx144) (t0_3 := lx145) (t0_4 := lx146) (t0_5 := lx147) (t0_6 := lx148) (t0_7 := lx149) (t0_10 := lx152) (t0_11 := lx153) (t0_12 := lx154) (t0_13 := lx155) hW (by omega)
      rw [e] at h2' ⊢
      obtain ⟨ha1, ha4, ha11, ha13, ha8, hao, haz, han, hav, hat⟩ := h2'
      unfold F_TR_findDecimal_c90
      obtain ⟨U, hU⟩ : ∃ U : Nat, trV w 800 = (U : Int) := ⟨(trV w 800).toNat, by
        have := (yV_b (w := w) 800 (fun i hi => hW2.2.2.1 i hi)).1
        omega⟩
      have s1 : (lx153 + 1 : Int64).toInt = s + 1 := q_addL (y := 1) h0 rfl (by omega) (by omega)
      refine ih _ _ _ _ _ _ _ _ _ _ _ _ _ _ _ (s + 1) U s1 (by omega) (by omega) (by omega) ?_ hW2 hU.symm (yX_h h1 hX (by omega)) hk2 hk4 h16
      show trI (lx153 + 1).toInt fr to w
      have := hI.step hVp ha8 hao haz han hav hat
      rw [s1, ← h0]
      exact this
