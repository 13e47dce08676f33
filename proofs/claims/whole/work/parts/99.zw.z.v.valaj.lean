/-! values, for whole: texts: the reference's TextRows: figures and powers -/
/-- a row of ints says a text -/
def yTr (t : Nat → Int32) (n : Nat) (B : Nat → Int) : Prop := ∀ i, i < n → (t i).toInt = B i
theorem y_isD {c : Int32} : (F_TR_isDigit c = 0 ∧ ¬ (48 ≤ c.toInt ∧ c.toInt ≤ 57)) ∨ (F_TR_isDigit c = 1 ∧ (48 ≤ c.toInt ∧ c.toInt ≤ 57)) := by
  have e1 : (48 : Int32).toInt = 48 := rfl
  have e2 : (57 : Int32).toInt = 57 := rfl
  unfold F_TR_isDigit
  by_cases c1 : c < 48
  · rw [if_pos c1]
    have := q_ltI c1
    exact Or.inl ⟨rfl, by omega⟩
  · rw [if_neg c1]
    have := q_nltI c1
    by_cases c2 : (57 : Int32) < c
    · rw [if_pos c2]
      have := q_ltI c2
      exact Or.inl ⟨rfl, by omega⟩
    · rw [if_neg c2]
      have := q_nltI c2
      exact Or.inr ⟨rfl, by omega⟩
theorem V_TR_here {t0_0 : Int32} {t0_1 : Int32} {t0_2 : Int32} {t0_3 : Int32} {t0_4 : Int32} {t0_5 : Int32} {t0_6 : Int32} {t0_7 : Int64} {t0_8 : Int32} {t0_9 : Int32} {t0_10 : Int64} {t0_11 : Int64} {t0_12 : Int32} {t0_13 : Int32} {t1_0 : (Nat → Int32)} {n p : Nat} {B : Nat → Int} (hT : yTr t1_0 n B) (h1 : t0_1.toInt = (n : Int)) (h3 : t0_3.toInt = (p : Int)) : (F_TR_here t0_0 t0_1 t0_2 t0_3 t0_4 t0_5 t0_6 t0_7 t0_8 t0_9 t0_10 t0_11 t0_12 t0_13 t1_0).toInt = if p < n then B p else 0 := by
  unfold F_TR_here
  by_cases c : t0_1 ≤ t0_3
  · rw [if_pos c]
    have := q_leI c
    rw [if_neg (by omega)]
    rfl
  · rw [if_neg c]
    have := q_nleI c
    have pc := q_clI h3 (by omega)
    rw [if_pos (by omega), show t0_3.toNatClampNeg = p by omega]
    exact hT p (by omega)
theorem y_hex {c : Int32} : ((F_TR_hex c).toInt = yDv c.toInt ∧ yDv c.toInt < 16) ∨ (F_TR_hex c = -1 ∧ 16 ≤ yDv c.toInt) := by
  have e97 : (97 : Int32).toInt = 97 := rfl
  have e102 : (102 : Int32).toInt = 102 := rfl
  have e65 : (65 : Int32).toInt = 65 := rfl
  have e70 : (70 : Int32).toInt = 70 := rfl
  have e10 : (10 : Int32).toInt = 10 := rfl
  have e48 : (48 : Int32).toInt = 48 := rfl
  have j36 : (¬ (48 ≤ c.toInt ∧ c.toInt ≤ 57)) → (¬ (97 ≤ c.toInt ∧ c.toInt ≤ 102)) → ((F_TR_hex_J36 c).toInt = yDv c.toInt ∧ yDv c.toInt < 16) ∨ (F_TR_hex_J36 c = -1 ∧ 16 ≤ yDv c.toInt) := fun h1 h2 => by
    unfold F_TR_hex_J36
    by_cases c1 : c < 65
    · rw [if_pos c1]
      have := q_ltI c1
      refine Or.inr ⟨rfl, ?_⟩
      unfold yDv
      rw [if_neg h1, if_neg (by omega), if_neg (by omega)]
      decide
    · rw [if_neg c1]
      have := q_nltI c1
      by_cases c2 : (70 : Int32) < c
      · rw [if_pos c2]
        have := q_ltI c2
        refine Or.inr ⟨rfl, ?_⟩
        unfold yDv
        rw [if_neg h1]
        split
        · omega
        · split <;> omega
      · rw [if_neg c2]
        have := q_nltI c2
        have s1 : (c - 65 : Int32).toInt = c.toInt - 65 := q_subI rfl e65 (by omega) (by omega)
        have s2 : (c - 65 + 10 : Int32).toInt = c.toInt - 65 + 10 := q_addI s1 e10 (by omega) (by omega)
        have v : yDv c.toInt = c.toInt - 55 := by
          unfold yDv
          rw [if_neg h1, if_neg (by omega), if_pos (by omega)]
        exact Or.inl ⟨by rw [s2, v]; omega, by omega⟩
  unfold F_TR_hex
  rcases y_isD (c := c) with ⟨d1, d2⟩ | ⟨d1, d2⟩
  · rw [d1, if_pos rfl]
    by_cases c1 : c < 97
    · rw [if_pos c1]
      have := q_ltI c1
      exact j36 d2 (by omega)
    · rw [if_neg c1]
      have := q_nltI c1
      by_cases c2 : (102 : Int32) < c
      · rw [if_pos c2]
        have := q_ltI c2
        exact j36 d2 (by omega)
      · rw [if_neg c2]
        have := q_nltI c2
        have s1 : (c - 97 : Int32).toInt = c.toInt - 97 := q_subI rfl e97 (by omega) (by omega)
        have s2 : (c - 97 + 10 : Int32).toInt = c.toInt - 97 + 10 := q_addI s1 e10 (by omega) (by omega)
        have v : yDv c.toInt = c.toInt - 87 := by
          unfold yDv
          rw [if_neg d2, if_pos (by omega)]
        exact Or.inl ⟨by rw [s2, v]; omega, by omega⟩
  · rw [d1, if_neg (show ¬ (1 : Int32) = 0 by decide)]
    have s1 : (c - 48 : Int32).toInt = c.toInt - 48 := q_subI rfl e48 (by omega) (by omega)
    have v := yDv_v d2
    exact Or.inl ⟨by rw [s1, v], by omega⟩
/-- what reading figures leaves -/
def QV_dg (B : Nat → Int) (b : Int) (n s : Nat) (c place many point : Int32) (row : Nat → Int32) : Prop := ∃ (p M : Nat) (o : Option Nat) (f : Nat → Int), yRn B b s p M o f ∧ ySp B b n p o ∧ (c = 0 ∧ M = 0 ∨ c = 1 ∧ 0 < M) ∧ place.toInt = (p : Int) ∧ many.toInt = (M : Int) ∧ point.toInt = ((o.getD M : Nat) : Int) ∧ ∀ j, j < M → (row j).toInt = f j
theorem V_TR_dgL {x2 : Int32} {t0_0 : Int32} {t0_1 : Int32} {t0_2 : Int32} {t0_3 : Int32} {t0_4 : Int32} {t0_5 : Int32} {t0_6 : Int32} {t0_7 : Int64} {t0_8 : Int32} {t0_9 : Int32} {t0_10 : Int64} {t0_11 : Int64} {t0_12 : Int32} {t0_13 : Int32} {t1_0 : (Nat → Int32)} {t2_0 : (Nat → Int32)} {L s : Nat} {B : Nat → Int} {b : Int} (hT : yTr t1_0 L B) (h1 : t0_1.toInt = (L : Int)) (hL : L ≤ 4100) (hb : (x2 = 0 ∧ b = 10) ∨ (x2 = 1 ∧ b = 16)) : ∀ (n : Nat) (lx29 : Int32) (lx30 : Int32) (lx31 : Int32) (lx32 : (Nat → Int32)), ∀ (i m : Nat) (o : Option Nat) (f : Nat → Int), lx29.toInt = (i : Int) → i ≤ L → L < n + i → lx31.toInt = (m : Int) → (o = none ∧ lx30.toInt = -1 ∨ ∃ k, o = some k ∧ lx30.toInt = (k : Int)) → yRn B b s i m o f → (∀ j, j < m → (lx32 j).toInt = f j) → QV_dg B b L s (F_TR_digits_L10 x2 t0_0 t0_1 t0_2 t0_3 t0_4 t0_5 t0_6 t0_7 t0_8 t0_9 t0_10 t0_11 t0_12 t0_13 t1_0 t2_0 n lx29 lx30 lx31 lx32).1 (F_TR_digits_L10 x2 t0_0 t0_1 t0_2 t0_3 t0_4 t0_5 t0_6 t0_7 t0_8 t0_9 t0_10 t0_11 t0_12 t0_13 t1_0 t2_0 n lx29 lx30 lx31 lx32).2.2.2.2.1 (F_TR_digits_L10 x2 t0_0 t0_1 t0_2 t0_3 t0_4 t0_5 t0_6 t0_7 t0_8 t0_9 t0_10 t0_11 t0_12 t0_13 t1_0 t2_0 n lx29 lx30 lx31 lx32).2.2.2.2.2.2.1 (F_TR_digits_L10 x2 t0_0 t0_1 t0_2 t0_3 t0_4 t0_5 t0_6 t0_7 t0_8 t0_9 t0_10 t0_11 t0_12 t0_13 t1_0 t2_0 n lx29 lx30 lx31 lx32).2.2.2.2.2.2.2.1 (F_TR_digits_L10 x2 t0_0 t0_1 t0_2 t0_3 t0_4 t0_5 t0_6 t0_7 t0_8 t0_9 t0_10 t0_11 t0_12 t0_13 t1_0 t2_0 n lx29 lx30 lx31 lx32).2.2.2.2.2.2.2.2.2.2.2.2.2.2.2 ∧ (F_TR_digits_L10 x2 t0_0 t0_1 t0_2 t0_3 t0_4 t0_5 t0_6 t0_7 t0_8 t0_9 t0_10 t0_11 t0_12 t0_13 t1_0 t2_0 n lx29 lx30 lx31 lx32).2.1 = t0_0 ∧ (F_TR_digits_L10 x2 t0_0 t0_1 t0_2 t0_3 t0_4 t0_5 t0_6 t0_7 t0_8 t0_9 t0_10 t0_11 t0_12 t0_13 t1_0 t2_0 n lx29 lx30 lx31 lx32).2.2.1 = t0_1 ∧ (F_TR_digits_L10 x2 t0_0 t0_1 t0_2 t0_3 t0_4 t0_5 t0_6 t0_7 t0_8 t0_9 t0_10 t0_11 t0_12 t0_13 t1_0 t2_0 n lx29 lx30 lx31 lx32).2.2.2.1 = t0_2 ∧ (F_TR_digits_L10 x2 t0_0 t0_1 t0_2 t0_3 t0_4 t0_5 t0_6 t0_7 t0_8 t0_9 t0_10 t0_11 t0_12 t0_13 t1_0 t2_0 n lx29 lx30 lx31 lx32).2.2.2.2.2.1 = t0_4 ∧ (F_TR_digits_L10 x2 t0_0 t0_1 t0_2 t0_3 t0_4 t0_5 t0_6 t0_7 t0_8 t0_9 t0_10 t0_11 t0_12 t0_13 t1_0 t2_0 n lx29 lx30 lx31 lx32).2.2.2.2.2.2.2.2.1 = t0_7 := by
  have e0 : (0 : Int32).toInt = 0 := rfl
  have e46 : (46 : Int32).toInt = 46 := rfl
  have em1 : (-1 : Int32).toInt = -1 := rfl
  intro n
  induction n with
  | zero =>
    intro lx29 lx30 lx31 lx32 i m o f h0 h2 h3
    omega
  | succ n ih =>
    intro lx29 lx30 lx31 lx32 i m o f h0 h2 h3 h31 h30 hR hrow
    have rle := yRn_le hR
    have hh := V_TR_here (t0_0 := t0_0) (t0_1 := t0_1) (t0_2 := t0_2) (t0_3 := lx29) (t0_4 := t0_4) (t0_5 := lx31) (t0_6 := lx30) (t0_7 := t0_7) (t0_8 := t0_8) (t0_9 := t0_9) (t0_10 := t0_10) (t0_11 := t0_11) (t0_12 := t0_12) (t0_13 := t0_13) hT h1 h0
    have mc := q_clI h31 (by omega)
    have mx : lx31.toNatClampNeg = m := by omega
    -- the end
    have fin : ySp B b L i o → ∀ KK lx47, QV_dg B b L s (F_TR_digits_J100 KK x2 t0_0 t0_1 t0_2 t0_3 t0_4 t0_5 t0_6 t0_7 t0_8 t0_9 t0_10 t0_11 t0_12 t0_13 t1_0 t2_0 lx29 lx30 lx31 lx32 lx47).1 (F_TR_digits_J100 KK x2 t0_0 t0_1 t0_2 t0_3 t0_4 t0_5 t0_6 t0_7 t0_8 t0_9 t0_10 t0_11 t0_12 t0_13 t1_0 t2_0 lx29 lx30 lx31 lx32 lx47).2.2.2.2.1 (F_TR_digits_J100 KK x2 t0_0 t0_1 t0_2 t0_3 t0_4 t0_5 t0_6 t0_7 t0_8 t0_9 t0_10 t0_11 t0_12 t0_13 t1_0 t2_0 lx29 lx30 lx31 lx32 lx47).2.2.2.2.2.2.1 (F_TR_digits_J100 KK x2 t0_0 t0_1 t0_2 t0_3 t0_4 t0_5 t0_6 t0_7 t0_8 t0_9 t0_10 t0_11 t0_12 t0_13 t1_0 t2_0 lx29 lx30 lx31 lx32 lx47).2.2.2.2.2.2.2.1 (F_TR_digits_J100 KK x2 t0_0 t0_1 t0_2 t0_3 t0_4 t0_5 t0_6 t0_7 t0_8 t0_9 t0_10 t0_11 t0_12 t0_13 t1_0 t2_0 lx29 lx30 lx31 lx32 lx47).2.2.2.2.2.2.2.2.2.2.2.2.2.2.2 ∧ (F_TR_digits_J100 KK x2 t0_0 t0_1 t0_2 t0_3 t0_4 t0_5 t0_6 t0_7 t0_8 t0_9 t0_10 t0_11 t0_12 t0_13 t1_0 t2_0 lx29 lx30 lx31 lx32 lx47).2.1 = t0_0 ∧ (F_TR_digits_J100 KK x2 t0_0 t0_1 t0_2 t0_3 t0_4 t0_5 t0_6 t0_7 t0_8 t0_9 t0_10 t0_11 t0_12 t0_13 t1_0 t2_0 lx29 lx30 lx31 lx32 lx47).2.2.1 = t0_1 ∧ (F_TR_digits_J100 KK x2 t0_0 t0_1 t0_2 t0_3 t0_4 t0_5 t0_6 t0_7 t0_8 t0_9 t0_10 t0_11 t0_12 t0_13 t1_0 t2_0 lx29 lx30 lx31 lx32 lx47).2.2.2.1 = t0_2 ∧ (F_TR_digits_J100 KK x2 t0_0 t0_1 t0_2 t0_3 t0_4 t0_5 t0_6 t0_7 t0_8 t0_9 t0_10 t0_11 t0_12 t0_13 t1_0 t2_0 lx29 lx30 lx31 lx32 lx47).2.2.2.2.2.1 = t0_4 ∧ (F_TR_digits_J100 KK x2 t0_0 t0_1 t0_2 t0_3 t0_4 t0_5 t0_6 t0_7 t0_8 t0_9 t0_10 t0_11 t0_12 t0_13 t1_0 t2_0 lx29 lx30 lx31 lx32 lx47).2.2.2.2.2.2.2.2.1 = t0_7 := fun hS KK lx47 => by
      unfold F_TR_digits_J100
      by_cases c1 : (0 : Int32) ≤ lx30
      · rw [if_pos c1]
        have c1i := q_leI c1
        obtain ⟨k, k1, k2⟩ : ∃ k, o = some k ∧ lx30.toInt = (k : Int) := h30.resolve_left (fun h => by omega)
        by_cases c2 : lx31 ≤ 0
        · rw [if_pos c2]
          have c2i := q_leI c2
          exact ⟨⟨i, m, o, f, hR, hS, Or.inl ⟨rfl, by omega⟩, h0, h31, by rw [k1]; exact k2, hrow⟩, rfl, rfl, rfl, rfl, rfl⟩
        · rw [if_neg c2]
          have c2i := q_nleI c2
          exact ⟨⟨i, m, o, f, hR, hS, Or.inr ⟨rfl, by omega⟩, h0, h31, by rw [k1]; exact k2, hrow⟩, rfl, rfl, rfl, rfl, rfl⟩
      · rw [if_neg c1]
        have c1i := q_nleI c1
        have on : o = none := by
          rcases h30 with h | ⟨k, k1, k2⟩
          · exact h.1
          · omega
        by_cases c2 : lx31 ≤ 0
        · rw [if_pos c2]
          have c2i := q_leI c2
          exact ⟨⟨i, m, o, f, hR, hS, Or.inl ⟨rfl, by omega⟩, h0, h31, by rw [on]; exact h31, hrow⟩, rfl, rfl, rfl, rfl, rfl⟩
        · rw [if_neg c2]
          have c2i := q_nleI c2
          exact ⟨⟨i, m, o, f, hR, hS, Or.inr ⟨rfl, by omega⟩, h0, h31, by rw [on]; exact h31, hrow⟩, rfl, rfl, rfl, rfl, rfl⟩
    have ea : (lx29 + 1 : Int32).toInt = ((i + 1 : Nat) : Int) := by
      rw [q_addI (y := 1) h0 rfl (by omega) (by omega)]
      omega
    -- what the figure read there is
    have mid : ∀ lx47 : Int32, ((i < L ∧ lx47.toInt = yDv (B i) ∧ yDv (B i) < b) ∨ (lx47 = -1 ∧ (i < L → b ≤ yDv (B i)))) → ∀ KK, (KK = fun a b c d => F_TR_digits_L10 x2 t0_0 t0_1 t0_2 t0_3 t0_4 t0_5 t0_6 t0_7 t0_8 t0_9 t0_10 t0_11 t0_12 t0_13 t1_0 t2_0 n a b c d) → ∀ y, F_TR_digits_J45 KK x2 t0_0 t0_1 t0_2 t0_3 t0_4 t0_5 t0_6 t0_7 t0_8 t0_9 t0_10 t0_11 t0_12 t0_13 t1_0 t2_0 lx29 lx30 lx31 lx32 lx47 = y → QV_dg B b L s y.1 y.2.2.2.2.1 y.2.2.2.2.2.2.1 y.2.2.2.2.2.2.2.1 y.2.2.2.2.2.2.2.2.2.2.2.2.2.2.2 ∧ y.2.1 = t0_0 ∧ y.2.2.1 = t0_1 ∧ y.2.2.2.1 = t0_2 ∧ y.2.2.2.2.2.1 = t0_4 ∧ y.2.2.2.2.2.2.2.2.1 = t0_7 := fun lx47 h47 KK hK y hy => by
      subst hK
      subst hy
      unfold F_TR_digits_J45
      rcases h47 with ⟨a1, a2, a3⟩ | ⟨a1, a2⟩
      · have nn := (yDv_nn (c := B i)).1
        rw [if_neg (fun h => by have := q_ltI h; omega), mx]
        have em : (lx31 + 1 : Int32).toInt = ((m + 1 : Nat) : Int) := by
          rw [q_addI (y := 1) h31 rfl (by omega) (by omega)]
          omega
        refine ih _ _ _ _ (i + 1) (m + 1) o (fun j => if j = m then yDv (B i) else f j) ea (by omega) (by omega) em h30 (yRn_d hR rfl a3 (fun j hj => if_neg (by omega)) (if_pos rfl)) (fun j hj => ?_)
        unfold upd
        by_cases c : j = m
        · rw [if_pos c]
          show lx47.toInt = if j = m then yDv (B i) else f j
          rw [if_pos c]
          exact a2
        · rw [if_neg c]
          show (lx32 j).toInt = if j = m then yDv (B i) else f j
          rw [if_neg c]
          exact hrow j (by omega)
      · rw [if_pos (show lx47 < 0 by rw [a1]; decide)]
        by_cases c1 : F_TR_here t0_0 t0_1 t0_2 lx29 t0_4 lx31 lx30 t0_7 t0_8 t0_9 t0_10 t0_11 t0_12 t0_13 t1_0 = 46
        · rw [if_pos c1]
          rw [c1, e46] at hh
          have iL : i < L := by
            by_cases c : i < L
            · exact c
            · rw [if_neg c] at hh
              omega
          rw [if_pos iL] at hh
          by_cases c2 : (0 : Int32) ≤ lx30
          · rw [if_pos c2]
            have c2i := q_leI c2
            refine fin ⟨by omega, Or.inr ⟨a2 iL, fun _ on => ?_⟩⟩ _ _
            rcases h30 with h | ⟨k, k1, k2⟩
            · omega
            · rw [k1] at on
              cases on
          · rw [if_neg c2]
            have c2i := q_nleI c2
            have on : o = none := by
              rcases h30 with h | ⟨k, k1, k2⟩
              · exact h.1
              · omega
            rw [on] at hR
            exact ih _ _ _ _ (i + 1) m (some m) f ea (by omega) (by omega) h31 (Or.inr ⟨m, rfl, h31⟩) (yRn_p hR hh.symm) hrow
        · rw [if_neg c1]
          refine fin ⟨h2, ?_⟩ _ _
          rcases Nat.lt_or_ge i L with c | c
          · rw [if_pos c] at hh
            exact Or.inr ⟨a2 c, fun h => absurd (Int32.toInt_inj.mp (by rw [hh, h]; rfl)) c1⟩
          · exact Or.inl (by omega)
    rw [F_TR_digits_L10.eq_2]
    rcases hb with ⟨b1, b2⟩ | ⟨b1, b2⟩
    · rw [if_pos b1]
      rcases y_isD (c := F_TR_here t0_0 t0_1 t0_2 lx29 t0_4 lx31 lx30 t0_7 t0_8 t0_9 t0_10 t0_11 t0_12 t0_13 t1_0) with ⟨d1, d2⟩ | ⟨d1, d2⟩
      · rw [d1, if_pos rfl]
        refine mid (-1) (Or.inr ⟨rfl, fun c => ?_⟩) _ rfl _ rfl
        rw [hh, if_pos c, ← yDv_10] at d2
        omega
      · rw [d1, if_neg (show ¬ (1 : Int32) = 0 by decide)]
        have iL : i < L := by
          by_cases c : i < L
          · exact c
          · rw [hh, if_neg c] at d2
            omega
        rw [hh, if_pos iL] at d2
        refine mid _ (Or.inl ⟨iL, ?_, by have := yDv_10.mpr d2; omega⟩) _ rfl _ rfl
        rw [q_subI (b := 48) (y := 48) hh rfl (by rw [if_pos iL]; omega) (by rw [if_pos iL]; omega), if_pos iL, yDv_v d2]
    · rw [if_neg (show ¬ x2 = 0 by rw [b1]; decide)]
      rcases y_hex (c := F_TR_here t0_0 t0_1 t0_2 lx29 t0_4 lx31 lx30 t0_7 t0_8 t0_9 t0_10 t0_11 t0_12 t0_13 t1_0) with ⟨d1, d2⟩ | ⟨d1, d2⟩
      · have iL : i < L := by
          by_cases c : i < L
          · exact c
          · rw [hh, if_neg c] at d2
            exact absurd d2 (by decide)
        rw [hh, if_pos iL] at d1 d2
        exact mid _ (Or.inl ⟨iL, d1, by omega⟩) _ rfl _ rfl
      · refine mid _ (Or.inr ⟨d1, fun c => ?_⟩) _ rfl _ rfl
        rw [hh, if_pos c] at d2
        omega
theorem V_TR_digits {x2 : Int32} {t0_0 : Int32} {t0_1 : Int32} {t0_2 : Int32} {t0_3 : Int32} {t0_4 : Int32} {t0_5 : Int32} {t0_6 : Int32} {t0_7 : Int64} {t0_8 : Int32} {t0_9 : Int32} {t0_10 : Int64} {t0_11 : Int64} {t0_12 : Int32} {t0_13 : Int32} {t1_0 : (Nat → Int32)} {t2_0 : (Nat → Int32)} {L s : Nat} {B : Nat → Int} {b : Int} (hT : yTr t1_0 L B) (h1 : t0_1.toInt = (L : Int)) (hL : L ≤ 4100) (hb : (x2 = 0 ∧ b = 10) ∨ (x2 = 1 ∧ b = 16)) (h3 : t0_3.toInt = (s : Int)) (hs : s ≤ L) : QV_dg B b L s (F_TR_digits x2 t0_0 t0_1 t0_2 t0_3 t0_4 t0_5 t0_6 t0_7 t0_8 t0_9 t0_10 t0_11 t0_12 t0_13 t1_0 t2_0).1 (F_TR_digits x2 t0_0 t0_1 t0_2 t0_3 t0_4 t0_5 t0_6 t0_7 t0_8 t0_9 t0_10 t0_11 t0_12 t0_13 t1_0 t2_0).2.2.2.2.1 (F_TR_digits x2 t0_0 t0_1 t0_2 t0_3 t0_4 t0_5 t0_6 t0_7 t0_8 t0_9 t0_10 t0_11 t0_12 t0_13 t1_0 t2_0).2.2.2.2.2.2.1 (F_TR_digits x2 t0_0 t0_1 t0_2 t0_3 t0_4 t0_5 t0_6 t0_7 t0_8 t0_9 t0_10 t0_11 t0_12 t0_13 t1_0 t2_0).2.2.2.2.2.2.2.1 (F_TR_digits x2 t0_0 t0_1 t0_2 t0_3 t0_4 t0_5 t0_6 t0_7 t0_8 t0_9 t0_10 t0_11 t0_12 t0_13 t1_0 t2_0).2.2.2.2.2.2.2.2.2.2.2.2.2.2.2 ∧ (F_TR_digits x2 t0_0 t0_1 t0_2 t0_3 t0_4 t0_5 t0_6 t0_7 t0_8 t0_9 t0_10 t0_11 t0_12 t0_13 t1_0 t2_0).2.1 = t0_0 ∧ (F_TR_digits x2 t0_0 t0_1 t0_2 t0_3 t0_4 t0_5 t0_6 t0_7 t0_8 t0_9 t0_10 t0_11 t0_12 t0_13 t1_0 t2_0).2.2.1 = t0_1 ∧ (F_TR_digits x2 t0_0 t0_1 t0_2 t0_3 t0_4 t0_5 t0_6 t0_7 t0_8 t0_9 t0_10 t0_11 t0_12 t0_13 t1_0 t2_0).2.2.2.1 = t0_2 ∧ (F_TR_digits x2 t0_0 t0_1 t0_2 t0_3 t0_4 t0_5 t0_6 t0_7 t0_8 t0_9 t0_10 t0_11 t0_12 t0_13 t1_0 t2_0).2.2.2.2.2.1 = t0_4 ∧ (F_TR_digits x2 t0_0 t0_1 t0_2 t0_3 t0_4 t0_5 t0_6 t0_7 t0_8 t0_9 t0_10 t0_11 t0_12 t0_13 t1_0 t2_0).2.2.2.2.2.2.2.2.1 = t0_7 := by
  unfold F_TR_digits
  exact V_TR_dgL hT h1 hL hb 1000000 t0_3 (-1) 0 t2_0 s 0 none (fun _ => 0) h3 hs (by omega) rfl (Or.inl ⟨rfl, rfl⟩) yRn_0 (fun j hj => by omega)
