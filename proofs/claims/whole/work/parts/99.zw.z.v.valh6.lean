/-! values, for whole: the reference's decimals, rounded and written -/
theorem Z_all0 {N m : Nat} (h : N < 10 ^ m) (hz : ∀ j, j < m → yLo N j = 0) : N = 0 := by
  have key : ∀ k, k ≤ m → N % 10 ^ k = 0 := by
    intro k
    induction k with
    | zero => intro _; rw [Nat.pow_zero, Nat.mod_one]
    | succ k ih =>
      intro hk
      have z : N / 10 ^ k % 10 = 0 := hz k (by omega)
      rw [Nat.pow_succ, Nat.mod_mul, ih (by omega), z, Nat.mul_zero]
  have := key m (Nat.le_refl _)
  rw [Nat.mod_eq_of_lt h] at this
  exact this
theorem Z_lo00 {i : Nat} : yLo 0 i = 0 := by
  unfold yLo
  rw [Nat.zero_div]
theorem Z_izL {t0_0 : Int32} {t0_1 : Int32} {t0_2 : Int32} {t0_3 : Int32} {t0_4 : Int32} {t0_5 : Int32} {t0_6 : Int32} {t0_7 : Int32} {t0_8 : Int32} {t0_9 : Int32} {t0_10 : Int32} {t0_11 : Int32} {t0_12 : Int32} {t0_13 : Int32} {t0_14 : Int32} {t0_15 : Int32} {t0_16 : Int32} {t0_17 : Int32} {t0_18 : Int32} {t0_19 : Int32} {t0_20 : Int32} {t0_21 : Int32} {t1_0 : (Nat → Int32)} {N m : Nat} {pt : Int} (h : zFp t0_20 t0_21 t1_0 N m pt) : ∀ (n : Nat) (lx34 : Int32) (lx35 : Int32), ∀ j : Nat, lx34.toInt = (j : Int) → j ≤ m → m < n + j → ((lx35 = 1 ∧ ∀ i, i < j → yLo N (m - 1 - i) = 0) ∨ (lx35 = 0 ∧ N ≠ 0)) → ((F_VR_isZero_L4 t0_0 t0_1 t0_2 t0_3 t0_4 t0_5 t0_6 t0_7 t0_8 t0_9 t0_10 t0_11 t0_12 t0_13 t0_14 t0_15 t0_16 t0_17 t0_18 t0_19 t0_20 t0_21 t1_0 n lx34 lx35) = 1 ∧ N = 0) ∨ ((F_VR_isZero_L4 t0_0 t0_1 t0_2 t0_3 t0_4 t0_5 t0_6 t0_7 t0_8 t0_9 t0_10 t0_11 t0_12 t0_13 t0_14 t0_15 t0_16 t0_17 t0_18 t0_19 t0_20 t0_21 t1_0 n lx34 lx35) = 0 ∧ N ≠ 0) := by
  have e0 : (0 : Int32).toInt = 0 := rfl
  intro n
  induction n with
  | zero =>
    intro _ _ j _ q1 q2
    omega
  | succ n ih =>
    intro lx34 lx35 j h1 h2 h3 h4
    have hm := h.1
    have hm2 := h.2.2.1
    unfold F_VR_isZero_L4
    have h1' : (lx34 + 1).toInt = ((j + 1 : Nat) : Int) := by
      rw [q_addI (y := 1) h1 rfl (by omega) (by omega)]
      omega
    by_cases c : t0_20 ≤ lx34
    · rw [if_pos c]
      have c' := q_leI c
      rcases h4 with ⟨a, b⟩ | ⟨a, b⟩
      · refine Or.inl ⟨a, Z_all0 h.2.2.2.2.2 (fun i hi => ?_)⟩
        have := b (m - 1 - i) (by omega)
        rw [show m - 1 - (m - 1 - i) = i by omega] at this
        exact this
      · exact Or.inr ⟨a, b⟩
    · rw [if_neg c]
      have c' := q_nleI c
      rcases h4 with ⟨a, b⟩ | ⟨a, b⟩
      · rw [if_neg (by rw [a]; decide)]
        have ix : lx34.toNatClampNeg = j := by show lx34.toInt.toNat = j; omega
        rw [ix]
        have f : (t1_0 j).toInt = ((yLo N (m - 1 - j) : Nat) : Int) := h.2.2.2.2.1 j (by omega)
        by_cases g : t1_0 j = 0
        · rw [if_pos g]
          have g' := q_eqI g
          refine ih _ _ (j + 1) h1' (by omega) (by omega) (Or.inl ⟨rfl, fun i hi => ?_⟩)
          by_cases e : i = j
          · rw [e]; omega
          · exact b i (by omega)
        · rw [if_neg g]
          have g' := q_neI g
          refine ih _ _ (j + 1) h1' (by omega) (by omega) (Or.inr ⟨rfl, fun z => ?_⟩)
          rw [z, Z_lo00] at f
          omega
      · rw [if_pos a]
        exact ih _ _ (j + 1) h1' (by omega) (by omega) (Or.inr ⟨rfl, b⟩)
theorem Z_isZ {t0_0 : Int32} {t0_1 : Int32} {t0_2 : Int32} {t0_3 : Int32} {t0_4 : Int32} {t0_5 : Int32} {t0_6 : Int32} {t0_7 : Int32} {t0_8 : Int32} {t0_9 : Int32} {t0_10 : Int32} {t0_11 : Int32} {t0_12 : Int32} {t0_13 : Int32} {t0_14 : Int32} {t0_15 : Int32} {t0_16 : Int32} {t0_17 : Int32} {t0_18 : Int32} {t0_19 : Int32} {t0_20 : Int32} {t0_21 : Int32} {t1_0 : (Nat → Int32)} {N m : Nat} {pt : Int} (h : zFp t0_20 t0_21 t1_0 N m pt) : ((F_VR_isZero t0_0 t0_1 t0_2 t0_3 t0_4 t0_5 t0_6 t0_7 t0_8 t0_9 t0_10 t0_11 t0_12 t0_13 t0_14 t0_15 t0_16 t0_17 t0_18 t0_19 t0_20 t0_21 t1_0) = 1 ∧ N = 0) ∨ ((F_VR_isZero t0_0 t0_1 t0_2 t0_3 t0_4 t0_5 t0_6 t0_7 t0_8 t0_9 t0_10 t0_11 t0_12 t0_13 t0_14 t0_15 t0_16 t0_17 t0_18 t0_19 t0_20 t0_21 t1_0) = 0 ∧ N ≠ 0) := by
  have hm2 := h.2.2.1
  unfold F_VR_isZero
  exact Z_izL h 1000000 0 1 0 rfl (Nat.zero_le _) (by omega) (Or.inl ⟨rfl, fun i hi => absurd hi (Nat.not_lt_zero _)⟩)
theorem Z_e2 {n : Nat} (hn : n ≤ 999) : yDs (max (yCt5 n) 2) n = (if n ≤ 99 then [] else [48 + n / 100]) ++ [48 + n / 10 % 10] ++ [48 + n % 10] := by
  have l : ∀ i, yLo n i = n / 10 ^ i % 10 := fun _ => rfl
  have d0 : yLo n 0 = n % 10 := by rw [l, Nat.pow_zero, Nat.div_one]
  have d1 : yLo n 1 = n / 10 % 10 := by rw [l, Nat.pow_one]
  have d2 : yLo n 2 = n / 100 % 10 := rfl
  by_cases a : n ≤ 99
  · have c : max (yCt5 n) 2 = 2 := by
      unfold yCt5
      repeat' split
      all_goals omega
    rw [c, if_pos a]
    show [48 + yLo n 1, 48 + yLo n 0] = _
    rw [d0, d1]
    rfl
  · have c : max (yCt5 n) 2 = 3 := by
      unfold yCt5
      repeat' split
      all_goals omega
    rw [c, if_neg a]
    show [48 + yLo n 2, 48 + yLo n 1, 48 + yLo n 0] = _
    rw [d0, d1, d2, show n / 100 % 10 = n / 100 by omega]
    rfl
theorem Z_x125 {K_F_VR_exponential_L38 : Int32 → Int32 → (Nat → Int32) → (Int32 × (Nat → Int32))} {x2 : Int32} {t0_0 : Int32} {t0_1 : Int32} {t0_2 : Int32} {t0_3 : Int32} {t0_4 : Int32} {t0_5 : Int32} {t0_6 : Int32} {t0_7 : Int32} {t0_8 : Int32} {t0_9 : Int32} {t0_10 : Int32} {t0_11 : Int32} {t0_12 : Int32} {t0_13 : Int32} {t0_14 : Int32} {t0_15 : Int32} {t0_16 : Int32} {t0_17 : Int32} {t0_18 : Int32} {t0_19 : Int32} {t0_20 : Int32} {t0_21 : Int32} {t1_0 : (Nat → Int32)} {t2_0 : (Nat → Int32)} {a38 : Int32} {p64 : (Int32 × (Nat → Int32))} {lx73 : Int32} {lx74 : (Nat → Int32)} {lx88 : Int32} {lx89 : Int32} {lx90 : (Nat → Int32)} {lx107 : Int32} {p130 : (Int32 × (Nat → Int32))} {y121 : Int32} {f122 : (Nat → Int32)} {lx139 : Int32} {p164 : (Int32 × (Nat → Int32))} {y155 : Int32} {f156 : (Nat → Int32)} {lx173 : Int32} {lx183 : Int32} {lx184 : (Nat → Int32)} {n : Nat} {l : List Nat} (hn : lx173.toInt = (n : Int)) (hn2 : n ≤ 999) (h : yRt lx183 lx184 l) (hl : l.length ≤ 50000) : yRt (F_VR_exponential_J125 K_F_VR_exponential_L38 x2 t0_0 t0_1 t0_2 t0_3 t0_4 t0_5 t0_6 t0_7 t0_8 t0_9 t0_10 t0_11 t0_12 t0_13 t0_14 t0_15 t0_16 t0_17 t0_18 t0_19 t0_20 t0_21 t1_0 t2_0 a38 p64 lx73 lx74 lx88 lx89 lx90 lx107 p130 y121 f122 lx139 p164 y155 f156 lx173 lx183 lx184).1 (F_VR_exponential_J125 K_F_VR_exponential_L38 x2 t0_0 t0_1 t0_2 t0_3 t0_4 t0_5 t0_6 t0_7 t0_8 t0_9 t0_10 t0_11 t0_12 t0_13 t0_14 t0_15 t0_16 t0_17 t0_18 t0_19 t0_20 t0_21 t1_0 t2_0 a38 p64 lx73 lx74 lx88 lx89 lx90 lx107 p130 y121 f122 lx139 p164 y155 f156 lx173 lx183 lx184).2 (l ++ [48 + n / 10 % 10] ++ [48 + n % 10]) := by
  have d : (lx173 / 10).toInt = (n : Int) / 10 := q_divI (y := 10) hn rfl (by omega) (by decide)
  have dd : (lx173 / 10 / 10).toInt = (n : Int) / 10 / 10 := q_divI (y := 10) d rfl (by omega) (by decide)
  have m1 : (lx173 / 10 / 10 * 10).toInt = (n : Int) / 10 / 10 * 10 := q_mulI (y := 10) dd rfl (by omega) (by omega)
  have s1 : (lx173 / 10 - lx173 / 10 / 10 * 10).toInt = (n : Int) / 10 - (n : Int) / 10 / 10 * 10 := q_subI d m1 (by omega) (by omega)
  have a1 : (48 + (lx173 / 10 - lx173 / 10 / 10 * 10)).toInt = ((48 + n / 10 % 10 : Nat) : Int) := by
    rw [q_addI (x := 48) rfl s1 (by omega) (by omega)]
    omega
  have m2 : (lx173 / 10 * 10).toInt = (n : Int) / 10 * 10 := q_mulI (y := 10) d rfl (by omega) (by omega)
  have s2 : (lx173 - lx173 / 10 * 10).toInt = (n : Int) - (n : Int) / 10 * 10 := q_subI hn m2 (by omega) (by omega)
  have a2 : (48 + (lx173 - lx173 / 10 * 10)).toInt = ((48 + n % 10 : Nat) : Int) := by
    rw [q_addI (x := 48) rfl s2 (by omega) (by omega)]
    omega
  unfold F_VR_exponential_J125
  have w := Z_put (t0_0 := t0_0) (t0_1 := t0_1) (t0_2 := t0_2) (t0_3 := t0_3) (t0_4 := t0_4) (t0_5 := t0_5) (t0_6 := t0_6) (t0_7 := t0_7) (t0_8 := t0_8) (t0_9 := t0_9) (t0_10 := t0_10) (t0_11 := t0_11) (t0_12 := t0_12) (t0_13 := t0_13) (t0_14 := t0_14) (t0_15 := t0_15) (t0_16 := t0_16) (t0_17 := lx183) (t0_18 := t0_18) (t0_19 := t0_19) (t0_20 := t0_20) (t0_21 := t0_21) h (by omega) a1
  revert w
  generalize F_VR_put (48 + (lx173 / 10 - lx173 / 10 / 10 * 10)) t0_0 t0_1 t0_2 t0_3 t0_4 t0_5 t0_6 t0_7 t0_8 t0_9 t0_10 t0_11 t0_12 t0_13 t0_14 t0_15 t0_16 lx183 t0_18 t0_19 t0_20 t0_21 lx184 = p
  intro w
  unfold F_VR_exponential_c136
  have w2 := Z_put (t0_0 := t0_0) (t0_1 := t0_1) (t0_2 := t0_2) (t0_3 := t0_3) (t0_4 := t0_4) (t0_5 := t0_5) (t0_6 := t0_6) (t0_7 := t0_7) (t0_8 := t0_8) (t0_9 := t0_9) (t0_10 := t0_10) (t0_11 := t0_11) (t0_12 := t0_12) (t0_13 := t0_13) (t0_14 := t0_14) (t0_15 := t0_15) (t0_16 := t0_16) (t0_17 := p.1) (t0_18 := t0_18) (t0_19 := t0_19) (t0_20 := t0_20) (t0_21 := t0_21) w (by rw [List.length_append]; show l.length + 1 < _; omega) a2
  revert w2
  generalize F_VR_put (48 + (lx173 - lx173 / 10 * 10)) t0_0 t0_1 t0_2 t0_3 t0_4 t0_5 t0_6 t0_7 t0_8 t0_9 t0_10 t0_11 t0_12 t0_13 t0_14 t0_15 t0_16 p.1 t0_18 t0_19 t0_20 t0_21 p.2 = p2
  intro w2
  unfold F_VR_exponential_c147
  exact w2
theorem Z_x107 {K_F_VR_exponential_L38 : Int32 → Int32 → (Nat → Int32) → (Int32 × (Nat → Int32))} {x2 : Int32} {t0_0 : Int32} {t0_1 : Int32} {t0_2 : Int32} {t0_3 : Int32} {t0_4 : Int32} {t0_5 : Int32} {t0_6 : Int32} {t0_7 : Int32} {t0_8 : Int32} {t0_9 : Int32} {t0_10 : Int32} {t0_11 : Int32} {t0_12 : Int32} {t0_13 : Int32} {t0_14 : Int32} {t0_15 : Int32} {t0_16 : Int32} {t0_17 : Int32} {t0_18 : Int32} {t0_19 : Int32} {t0_20 : Int32} {t0_21 : Int32} {t1_0 : (Nat → Int32)} {t2_0 : (Nat → Int32)} {a38 : Int32} {p64 : (Int32 × (Nat → Int32))} {lx73 : Int32} {lx74 : (Nat → Int32)} {lx88 : Int32} {lx89 : Int32} {lx90 : (Nat → Int32)} {lx107 : Int32} {p130 : (Int32 × (Nat → Int32))} {y121 : Int32} {f122 : (Nat → Int32)} {lx139 : Int32} {p164 : (Int32 × (Nat → Int32))} {y155 : Int32} {f156 : (Nat → Int32)} {lx173 : Int32} {n : Nat} {l : List Nat} (hn : lx173.toInt = (n : Int)) (hn2 : n ≤ 999) (h : yRt y155 f156 l) (hl : l.length ≤ 40000) : yRt (F_VR_exponential_J107 K_F_VR_exponential_L38 x2 t0_0 t0_1 t0_2 t0_3 t0_4 t0_5 t0_6 t0_7 t0_8 t0_9 t0_10 t0_11 t0_12 t0_13 t0_14 t0_15 t0_16 t0_17 t0_18 t0_19 t0_20 t0_21 t1_0 t2_0 a38 p64 lx73 lx74 lx88 lx89 lx90 lx107 p130 y121 f122 lx139 p164 y155 f156 lx173).1 (F_VR_exponential_J107 K_F_VR_exponential_L38 x2 t0_0 t0_1 t0_2 t0_3 t0_4 t0_5 t0_6 t0_7 t0_8 t0_9 t0_10 t0_11 t0_12 t0_13 t0_14 t0_15 t0_16 t0_17 t0_18 t0_19 t0_20 t0_21 t1_0 t2_0 a38 p64 lx73 lx74 lx88 lx89 lx90 lx107 p130 y121 f122 lx139 p164 y155 f156 lx173).2 (l ++ yDs (max (yCt5 n) 2) n) := by
  have e99 : (99 : Int32).toInt = 99 := rfl
  unfold F_VR_exponential_J107
  rw [Z_e2 hn2]
  by_cases c : lx173 ≤ 99
  · rw [if_pos c]
    have c' := q_leI c
    rw [if_pos (by omega), List.nil_append, ← List.append_assoc]
    exact Z_x125 hn hn2 h (by omega)
  · rw [if_neg c]
    have c' := q_nleI c
    have d : (lx173 / 100).toInt = (n : Int) / 100 := q_divI (y := 100) hn rfl (by omega) (by decide)
    have a1 : (48 + lx173 / 100).toInt = ((48 + n / 100 : Nat) : Int) := by
      rw [q_addI (x := 48) rfl d (by omega) (by omega)]
      omega
    have w := Z_put (t0_0 := t0_0) (t0_1 := t0_1) (t0_2 := t0_2) (t0_3 := t0_3) (t0_4 := t0_4) (t0_5 := t0_5) (t0_6 := t0_6) (t0_7 := t0_7) (t0_8 := t0_8) (t0_9 := t0_9) (t0_10 := t0_10) (t0_11 := t0_11) (t0_12 := t0_12) (t0_13 := t0_13) (t0_14 := t0_14) (t0_15 := t0_15) (t0_16 := t0_16) (t0_17 := y155) (t0_18 := t0_18) (t0_19 := t0_19) (t0_20 := t0_20) (t0_21 := t0_21) h (by omega) a1
    revert w
    generalize F_VR_put (48 + lx173 / 100) t0_0 t0_1 t0_2 t0_3 t0_4 t0_5 t0_6 t0_7 t0_8 t0_9 t0_10 t0_11 t0_12 t0_13 t0_14 t0_15 t0_16 y155 t0_18 t0_19 t0_20 t0_21 f156 = p
    intro w
    unfold F_VR_exponential_c122
    rw [if_neg (by omega), ← List.append_assoc, ← List.append_assoc]
    exact Z_x125 hn hn2 w (by rw [List.length_append]; show l.length + 1 ≤ _; omega)
/-- e with its sign -/
theorem Z_x75 {K_F_VR_exponential_L38 : Int32 → Int32 → (Nat → Int32) → (Int32 × (Nat → Int32))} {x2 : Int32} {t0_0 : Int32} {t0_1 : Int32} {t0_2 : Int32} {t0_3 : Int32} {t0_4 : Int32} {t0_5 : Int32} {t0_6 : Int32} {t0_7 : Int32} {t0_8 : Int32} {t0_9 : Int32} {t0_10 : Int32} {t0_11 : Int32} {t0_12 : Int32} {t0_13 : Int32} {t0_14 : Int32} {t0_15 : Int32} {t0_16 : Int32} {t0_17 : Int32} {t0_18 : Int32} {t0_19 : Int32} {t0_20 : Int32} {t0_21 : Int32} {t1_0 : (Nat → Int32)} {t2_0 : (Nat → Int32)} {a38 : Int32} {p64 : (Int32 × (Nat → Int32))} {lx73 : Int32} {lx74 : (Nat → Int32)} {lx88 : Int32} {lx89 : Int32} {lx90 : (Nat → Int32)} {lx107 : Int32} {e : Int} {l : List Nat} (he : lx107.toInt = e) (he2 : -999 ≤ e ∧ e ≤ 999) (h : yRt lx89 lx90 l) (hl : l.length ≤ 30000) : yRt (F_VR_exponential_J75 K_F_VR_exponential_L38 x2 t0_0 t0_1 t0_2 t0_3 t0_4 t0_5 t0_6 t0_7 t0_8 t0_9 t0_10 t0_11 t0_12 t0_13 t0_14 t0_15 t0_16 t0_17 t0_18 t0_19 t0_20 t0_21 t1_0 t2_0 a38 p64 lx73 lx74 lx88 lx89 lx90 lx107).1 (F_VR_exponential_J75 K_F_VR_exponential_L38 x2 t0_0 t0_1 t0_2 t0_3 t0_4 t0_5 t0_6 t0_7 t0_8 t0_9 t0_10 t0_11 t0_12 t0_13 t0_14 t0_15 t0_16 t0_17 t0_18 t0_19 t0_20 t0_21 t1_0 t2_0 a38 p64 lx73 lx74 lx88 lx89 lx90 lx107).2 (l ++ yE2 e) := by
  have e0 : (0 : Int32).toInt = 0 := rfl
  unfold F_VR_exponential_J75 yE2
  have w := Z_put (x2 := 101) (v := 101) (t0_0 := t0_0) (t0_1 := t0_1) (t0_2 := t0_2) (t0_3 := t0_3) (t0_4 := t0_4) (t0_5 := t0_5) (t0_6 := t0_6) (t0_7 := t0_7) (t0_8 := t0_8) (t0_9 := t0_9) (t0_10 := t0_10) (t0_11 := t0_11) (t0_12 := t0_12) (t0_13 := t0_13) (t0_14 := t0_14) (t0_15 := t0_15) (t0_16 := t0_16) (t0_17 := lx89) (t0_18 := t0_18) (t0_19 := t0_19) (t0_20 := t0_20) (t0_21 := t0_21) h (by omega) rfl
  revert w
  generalize F_VR_put 101 t0_0 t0_1 t0_2 t0_3 t0_4 t0_5 t0_6 t0_7 t0_8 t0_9 t0_10 t0_11 t0_12 t0_13 t0_14 t0_15 t0_16 lx89 t0_18 t0_19 t0_20 t0_21 lx90 = p
  intro w
  unfold F_VR_exponential_c79
  by_cases c : 0 ≤ lx107
  · rw [if_pos c]
    have c' := q_leI c
    unfold F_VR_exponential_J94
    have w2 := Z_put (x2 := 43) (v := 43) (t0_0 := t0_0) (t0_1 := t0_1) (t0_2 := t0_2) (t0_3 := t0_3) (t0_4 := t0_4) (t0_5 := t0_5) (t0_6 := t0_6) (t0_7 := t0_7) (t0_8 := t0_8) (t0_9 := t0_9) (t0_10 := t0_10) (t0_11 := t0_11) (t0_12 := t0_12) (t0_13 := t0_13) (t0_14 := t0_14) (t0_15 := t0_15) (t0_16 := t0_16) (t0_17 := p.1) (t0_18 := t0_18) (t0_19 := t0_19) (t0_20 := t0_20) (t0_21 := t0_21) w (by rw [List.length_append]; show l.length + 1 < _; omega) rfl
    revert w2
    generalize F_VR_put 43 t0_0 t0_1 t0_2 t0_3 t0_4 t0_5 t0_6 t0_7 t0_8 t0_9 t0_10 t0_11 t0_12 t0_13 t0_14 t0_15 t0_16 p.1 t0_18 t0_19 t0_20 t0_21 p.2 = p2
    intro w2
    unfold F_VR_exponential_c94
    rw [if_pos c, if_pos (by omega), ← List.append_assoc, ← List.append_assoc]
    exact Z_x107 (by rw [he]; omega) (by omega) w2 (by rw [List.length_append, List.length_append]; show l.length + 1 + 1 ≤ _; omega)
  · rw [if_neg c]
    have c' := q_nleI c
    unfold F_VR_exponential_J94
    have w2 := Z_put (x2 := 45) (v := 45) (t0_0 := t0_0) (t0_1 := t0_1) (t0_2 := t0_2) (t0_3 := t0_3) (t0_4 := t0_4) (t0_5 := t0_5) (t0_6 := t0_6) (t0_7 := t0_7) (t0_8 := t0_8) (t0_9 := t0_9) (t0_10 := t0_10) (t0_11 := t0_11) (t0_12 := t0_12) (t0_13 := t0_13) (t0_14 := t0_14) (t0_15 := t0_15) (t0_16 := t0_16) (t0_17 := p.1) (t0_18 := t0_18) (t0_19 := t0_19) (t0_20 := t0_20) (t0_21 := t0_21) w (by rw [List.length_append]; show l.length + 1 < _; omega) rfl
    revert w2
    generalize F_VR_put 45 t0_0 t0_1 t0_2 t0_3 t0_4 t0_5 t0_6 t0_7 t0_8 t0_9 t0_10 t0_11 t0_12 t0_13 t0_14 t0_15 t0_16 p.1 t0_18 t0_19 t0_20 t0_21 p.2 = p2
    intro w2
    unfold F_VR_exponential_c94
    rw [if_neg c, if_neg (by omega), ← List.append_assoc, ← List.append_assoc]
    exact Z_x107 (by rw [q_negI he (by omega)]; omega) (by omega) w2 (by rw [List.length_append, List.length_append]; show l.length + 1 + 1 ≤ _; omega)
theorem Z_x38 {x2 : Int32} {t0_0 : Int32} {t0_1 : Int32} {t0_2 : Int32} {t0_3 : Int32} {t0_4 : Int32} {t0_5 : Int32} {t0_6 : Int32} {t0_7 : Int32} {t0_8 : Int32} {t0_9 : Int32} {t0_10 : Int32} {t0_11 : Int32} {t0_12 : Int32} {t0_13 : Int32} {t0_14 : Int32} {t0_15 : Int32} {t0_16 : Int32} {t0_17 : Int32} {t0_18 : Int32} {t0_19 : Int32} {t0_20 : Int32} {t0_21 : Int32} {t1_0 : (Nat → Int32)} {t2_0 : (Nat → Int32)} {a38 : Int32} {p64 : (Int32 × (Nat → Int32))} {lx73 : Int32} {lx74 : (Nat → Int32)} {N m bh : Nat} {pt : Int} (h : zFp t0_20 t0_21 t2_0 N m pt) (hp : -998 ≤ pt ∧ pt ≤ 998) (hb : x2.toInt = (bh : Int)) (hb2 : bh ≤ 20000) (ha : (a38 = 1 ∧ N = 0) ∨ (a38 = 0 ∧ N ≠ 0)) : ∀ (n : Nat) (lx88 : Int32) (lx89 : Int32) (lx90 : (Nat → Int32)), ∀ (k : Nat) (l : List Nat), lx88.toInt = (k : Int) → 1 ≤ k → k ≤ bh + 1 → bh + 1 < n + k → yRt lx89 lx90 l → l.length + (bh + 1 - k) ≤ 30000 → yRt (F_VR_exponential_L38 x2 t0_0 t0_1 t0_2 t0_3 t0_4 t0_5 t0_6 t0_7 t0_8 t0_9 t0_10 t0_11 t0_12 t0_13 t0_14 t0_15 t0_16 t0_17 t0_18 t0_19 t0_20 t0_21 t1_0 t2_0 a38 p64 lx73 lx74 n lx88 lx89 lx90).1 (F_VR_exponential_L38 x2 t0_0 t0_1 t0_2 t0_3 t0_4 t0_5 t0_6 t0_7 t0_8 t0_9 t0_10 t0_11 t0_12 t0_13 t0_14 t0_15 t0_16 t0_17 t0_18 t0_19 t0_20 t0_21 t1_0 t2_0 a38 p64 lx73 lx74 n lx88 lx89 lx90).2 (l ++ yDz N ((m : Int) - 1 - k) (bh + 1 - k) ++ yE2 (if N = 0 then 0 else pt - 1)) := by
  intro n
  induction n with
  | zero =>
    intro _ _ _ k l _ _ q1 q2
    omega
  | succ n ih =>
    intro lx88 lx89 lx90 k l h1 h0 h2 h3 h4 h5
    unfold F_VR_exponential_L38
    by_cases c : x2 < lx88
    · rw [if_pos c]
      have c' := q_ltI c
      rw [show bh + 1 - k = 0 by omega, show yDz N ((m : Int) - 1 - k) 0 = [] from rfl, List.append_nil]
      rcases ha with ⟨a, b⟩ | ⟨a, b⟩
      · rw [if_neg (by rw [a]; decide), if_pos b]
        exact Z_x75 rfl (by decide) h4 (by omega)
      · rw [if_pos a, if_neg b]
        exact Z_x75 (q_subI (b := 1) (y := 1) h.2.1 rfl (by omega) (by omega)) (by omega) h4 (by omega)
    · rw [if_neg c]
      have c' := q_nltI c
      have f := Z_fAt (x2 := lx88) (t0_0 := t0_0) (t0_1 := t0_1) (t0_2 := t0_2) (t0_3 := t0_3) (t0_4 := t0_4) (t0_5 := t0_5) (t0_6 := t0_6) (t0_7 := t0_7) (t0_8 := t0_8) (t0_9 := t0_9) (t0_10 := t0_10) (t0_11 := t0_11) (t0_12 := t0_12) (t0_13 := t0_13) (t0_14 := t0_14) (t0_15 := t0_15) (t0_16 := t0_16) (t0_17 := lx89) (t0_18 := t0_18) (t0_19 := t0_19) (t0_20 := t0_20) (t0_21 := t0_21) h h1
      have w := Z_put (t0_0 := t0_0) (t0_1 := t0_1) (t0_2 := t0_2) (t0_3 := t0_3) (t0_4 := t0_4) (t0_5 := t0_5) (t0_6 := t0_6) (t0_7 := t0_7) (t0_8 := t0_8) (t0_9 := t0_9) (t0_10 := t0_10) (t0_11 := t0_11) (t0_12 := t0_12) (t0_13 := t0_13) (t0_14 := t0_14) (t0_15 := t0_15) (t0_16 := t0_16) (t0_17 := lx89) (t0_18 := t0_18) (t0_19 := t0_19) (t0_20 := t0_20) (t0_21 := t0_21) h4 (by omega) (Z_48 f)
      revert w
      generalize F_VR_put (48 + F_VR_figureAt lx88 t0_0 t0_1 t0_2 t0_3 t0_4 t0_5 t0_6 t0_7 t0_8 t0_9 t0_10 t0_11 t0_12 t0_13 t0_14 t0_15 t0_16 lx89 t0_18 t0_19 t0_20 t0_21 t2_0) t0_0 t0_1 t0_2 t0_3 t0_4 t0_5 t0_6 t0_7 t0_8 t0_9 t0_10 t0_11 t0_12 t0_13 t0_14 t0_15 t0_16 lx89 t0_18 t0_19 t0_20 t0_21 lx90 = p
      intro w
      unfold F_VR_exponential_c52
      obtain ⟨j, hj⟩ : ∃ j, bh + 1 - k = j + 1 := ⟨bh + 1 - k - 1, by omega⟩
      rw [hj, yDz_app]
      have r := ih (lx88 + 1) p.1 p.2 (k + 1) (l ++ [48 + yFz N ((m : Int) - 1 - (k : Int))]) (by rw [q_addI (y := 1) h1 rfl (by omega) (by omega)]; omega) (by omega) (by omega) (by omega) w (by rw [List.length_append]; show l.length + 1 + _ ≤ _; omega)
      rw [show bh + 1 - (k + 1) = j by omega, show (m : Int) - 1 - ((k + 1 : Nat) : Int) = (m : Int) - 1 - (k : Int) - 1 by omega] at r
      exact r
theorem Z_expo {x2 : Int32} {t0_0 : Int32} {t0_1 : Int32} {t0_2 : Int32} {t0_3 : Int32} {t0_4 : Int32} {t0_5 : Int32} {t0_6 : Int32} {t0_7 : Int32} {t0_8 : Int32} {t0_9 : Int32} {t0_10 : Int32} {t0_11 : Int32} {t0_12 : Int32} {t0_13 : Int32} {t0_14 : Int32} {t0_15 : Int32} {t0_16 : Int32} {t0_17 : Int32} {t0_18 : Int32} {t0_19 : Int32} {t0_20 : Int32} {t0_21 : Int32} {t1_0 : (Nat → Int32)} {t2_0 : (Nat → Int32)} {N m bh : Nat} {pt : Int} {l : List Nat} (h : zFp t0_20 t0_21 t2_0 N m pt) (hp : -998 ≤ pt ∧ pt ≤ 998) (hb : x2.toInt = (bh : Int)) (hb2 : bh ≤ 20000) (hl : yRt t0_17 t1_0 l) (hl2 : l.length ≤ 1000) : yRt (F_VR_exponential x2 t0_0 t0_1 t0_2 t0_3 t0_4 t0_5 t0_6 t0_7 t0_8 t0_9 t0_10 t0_11 t0_12 t0_13 t0_14 t0_15 t0_16 t0_17 t0_18 t0_19 t0_20 t0_21 t1_0 t2_0).1 (F_VR_exponential x2 t0_0 t0_1 t0_2 t0_3 t0_4 t0_5 t0_6 t0_7 t0_8 t0_9 t0_10 t0_11 t0_12 t0_13 t0_14 t0_15 t0_16 t0_17 t0_18 t0_19 t0_20 t0_21 t1_0 t2_0).2 (l ++ (yHead N m (bh + 1) (t0_9 &&& 2) ++ yE2 (if N = 0 then 0 else pt - 1))) := by
  have e0 : (0 : Int32).toInt = 0 := rfl
  have e1 : (1 : Int32).toInt = 1 := rfl
  unfold F_VR_exponential
  have z := Z_isZ (t0_0 := t0_0) (t0_1 := t0_1) (t0_2 := t0_2) (t0_3 := t0_3) (t0_4 := t0_4) (t0_5 := t0_5) (t0_6 := t0_6) (t0_7 := t0_7) (t0_8 := t0_8) (t0_9 := t0_9) (t0_10 := t0_10) (t0_11 := t0_11) (t0_12 := t0_12) (t0_13 := t0_13) (t0_14 := t0_14) (t0_15 := t0_15) (t0_16 := t0_16) (t0_17 := t0_17) (t0_18 := t0_18) (t0_19 := t0_19) (t0_20 := t0_20) (t0_21 := t0_21) (t1_0 := t2_0) h
  have f := Z_fAt (x2 := 0) (t0_0 := t0_0) (t0_1 := t0_1) (t0_2 := t0_2) (t0_3 := t0_3) (t0_4 := t0_4) (t0_5 := t0_5) (t0_6 := t0_6) (t0_7 := t0_7) (t0_8 := t0_8) (t0_9 := t0_9) (t0_10 := t0_10) (t0_11 := t0_11) (t0_12 := t0_12) (t0_13 := t0_13) (t0_14 := t0_14) (t0_15 := t0_15) (t0_16 := t0_16) (t0_17 := t0_17) (t0_18 := t0_18) (t0_19 := t0_19) (t0_20 := t0_20) (t0_21 := t0_21) h (k := 0) rfl
  rw [show (m : Int) - 1 - 0 = (m : Int) - 1 by omega] at f
  have w := Z_put (t0_0 := t0_0) (t0_1 := t0_1) (t0_2 := t0_2) (t0_3 := t0_3) (t0_4 := t0_4) (t0_5 := t0_5) (t0_6 := t0_6) (t0_7 := t0_7) (t0_8 := t0_8) (t0_9 := t0_9) (t0_10 := t0_10) (t0_11 := t0_11) (t0_12 := t0_12) (t0_13 := t0_13) (t0_14 := t0_14) (t0_15 := t0_15) (t0_16 := t0_16) (t0_17 := t0_17) (t0_18 := t0_18) (t0_19 := t0_19) (t0_20 := t0_20) (t0_21 := t0_21) hl (by omega) (Z_48 f)
  revert w
  generalize F_VR_put (48 + F_VR_figureAt 0 t0_0 t0_1 t0_2 t0_3 t0_4 t0_5 t0_6 t0_7 t0_8 t0_9 t0_10 t0_11 t0_12 t0_13 t0_14 t0_15 t0_16 t0_17 t0_18 t0_19 t0_20 t0_21 t2_0) t0_0 t0_1 t0_2 t0_3 t0_4 t0_5 t0_6 t0_7 t0_8 t0_9 t0_10 t0_11 t0_12 t0_13 t0_14 t0_15 t0_16 t0_17 t0_18 t0_19 t0_20 t0_21 t1_0 = p
  intro w
  unfold F_VR_exponential_c14
  have J : ∀ (s : Int32) (g : Nat → Int32) (l2 : List Nat), yRt s g l2 → l2.length ≤ 2000 → yRt (F_VR_exponential_J36 x2 t0_0 t0_1 t0_2 t0_3 t0_4 t0_5 t0_6 t0_7 t0_8 t0_9 t0_10 t0_11 t0_12 t0_13 t0_14 t0_15 t0_16 t0_17 t0_18 t0_19 t0_20 t0_21 t1_0 t2_0 (F_VR_isZero t0_0 t0_1 t0_2 t0_3 t0_4 t0_5 t0_6 t0_7 t0_8 t0_9 t0_10 t0_11 t0_12 t0_13 t0_14 t0_15 t0_16 t0_17 t0_18 t0_19 t0_20 t0_21 t2_0) p s g).1 (F_VR_exponential_J36 x2 t0_0 t0_1 t0_2 t0_3 t0_4 t0_5 t0_6 t0_7 t0_8 t0_9 t0_10 t0_11 t0_12 t0_13 t0_14 t0_15 t0_16 t0_17 t0_18 t0_19 t0_20 t0_21 t1_0 t2_0 (F_VR_isZero t0_0 t0_1 t0_2 t0_3 t0_4 t0_5 t0_6 t0_7 t0_8 t0_9 t0_10 t0_11 t0_12 t0_13 t0_14 t0_15 t0_16 t0_17 t0_18 t0_19 t0_20 t0_21 t2_0) p s g).2 (l2 ++ yDz N ((m : Int) - 2) bh ++ yE2 (if N = 0 then 0 else pt - 1)) := by
    intro s g l2 hs hl3
    unfold F_VR_exponential_J36
    have r := Z_x38 (x2 := x2) (t0_0 := t0_0) (t0_1 := t0_1) (t0_2 := t0_2) (t0_3 := t0_3) (t0_4 := t0_4) (t0_5 := t0_5) (t0_6 := t0_6) (t0_7 := t0_7) (t0_8 := t0_8) (t0_9 := t0_9) (t0_10 := t0_10) (t0_11 := t0_11) (t0_12 := t0_12) (t0_13 := t0_13) (t0_14 := t0_14) (t0_15 := t0_15) (t0_16 := t0_16) (t0_17 := t0_17) (t0_18 := t0_18) (t0_19 := t0_19) (t0_20 := t0_20) (t0_21 := t0_21) (t1_0 := t1_0) (t2_0 := t2_0) (a38 := F_VR_isZero t0_0 t0_1 t0_2 t0_3 t0_4 t0_5 t0_6 t0_7 t0_8 t0_9 t0_10 t0_11 t0_12 t0_13 t0_14 t0_15 t0_16 t0_17 t0_18 t0_19 t0_20 t0_21 t2_0) (p64 := p) (lx73 := s) (lx74 := g) h hp hb hb2 z ((x2.toInt + 1 - (1 : Int32).toInt).toNat + 1) 1 s g 1 l2 rfl (Nat.le_refl _) (by omega) (by omega) hs (by omega)
    rw [show (m : Int) - 1 - ((1 : Nat) : Int) = (m : Int) - 2 by omega, show bh + 1 - 1 = bh by omega] at r
    exact r
  have ll : (l ++ [48 + yFz N ((m : Int) - 1)]).length ≤ 1001 := by rw [List.length_append]; show l.length + 1 ≤ _; omega
  have JP : yRt (F_VR_exponential_J30 x2 t0_0 t0_1 t0_2 t0_3 t0_4 t0_5 t0_6 t0_7 t0_8 t0_9 t0_10 t0_11 t0_12 t0_13 t0_14 t0_15 t0_16 t0_17 t0_18 t0_19 t0_20 t0_21 t1_0 t2_0 (F_VR_isZero t0_0 t0_1 t0_2 t0_3 t0_4 t0_5 t0_6 t0_7 t0_8 t0_9 t0_10 t0_11 t0_12 t0_13 t0_14 t0_15 t0_16 t0_17 t0_18 t0_19 t0_20 t0_21 t2_0) p p.1 p.2).1 (F_VR_exponential_J30 x2 t0_0 t0_1 t0_2 t0_3 t0_4 t0_5 t0_6 t0_7 t0_8 t0_9 t0_10 t0_11 t0_12 t0_13 t0_14 t0_15 t0_16 t0_17 t0_18 t0_19 t0_20 t0_21 t1_0 t2_0 (F_VR_isZero t0_0 t0_1 t0_2 t0_3 t0_4 t0_5 t0_6 t0_7 t0_8 t0_9 t0_10 t0_11 t0_12 t0_13 t0_14 t0_15 t0_16 t0_17 t0_18 t0_19 t0_20 t0_21 t2_0) p p.1 p.2).2 (l ++ [48 + yFz N ((m : Int) - 1)] ++ [46] ++ yDz N ((m : Int) - 2) bh ++ yE2 (if N = 0 then 0 else pt - 1)) := by
    unfold F_VR_exponential_J30
    have w2 := Z_put (x2 := 46) (v := 46) (t0_0 := t0_0) (t0_1 := t0_1) (t0_2 := t0_2) (t0_3 := t0_3) (t0_4 := t0_4) (t0_5 := t0_5) (t0_6 := t0_6) (t0_7 := t0_7) (t0_8 := t0_8) (t0_9 := t0_9) (t0_10 := t0_10) (t0_11 := t0_11) (t0_12 := t0_12) (t0_13 := t0_13) (t0_14 := t0_14) (t0_15 := t0_15) (t0_16 := t0_16) (t0_17 := p.1) (t0_18 := t0_18) (t0_19 := t0_19) (t0_20 := t0_20) (t0_21 := t0_21) w (by omega) rfl
    revert w2
    generalize F_VR_put 46 t0_0 t0_1 t0_2 t0_3 t0_4 t0_5 t0_6 t0_7 t0_8 t0_9 t0_10 t0_11 t0_12 t0_13 t0_14 t0_15 t0_16 p.1 t0_18 t0_19 t0_20 t0_21 p.2 = p2
    intro w2
    unfold F_VR_exponential_c33
    exact J _ _ _ w2 (by rw [List.length_append]; show (l ++ [48 + yFz N ((m : Int) - 1)]).length + 1 ≤ _; omega)
  unfold yHead
  rw [Z_hasR (k := 2) rfl, show bh + 1 - 1 = bh by omega]
  by_cases d : 0 < x2
  · rw [if_pos d]
    have d' := q_ltI d
    rw [if_pos (Or.inl (by omega)), ← List.append_assoc, ← List.append_assoc, ← List.append_assoc]
    exact JP
  · rw [if_neg d]
    have d' := q_nltI d
    by_cases g : t0_9 &&& 2 = 0
    · rw [if_pos g, if_pos (rfl : (0 : Int32) = 0), if_neg (fun z => z.elim (fun z => by omega) (fun z => z g)), List.append_nil, ← List.append_assoc, ← List.append_assoc]
      exact J _ _ _ w (by omega)
    · rw [if_neg g, if_neg (show ¬ (1 : Int32) = 0 by decide), if_pos (Or.inr g), ← List.append_assoc, ← List.append_assoc, ← List.append_assoc]
      exact JP

