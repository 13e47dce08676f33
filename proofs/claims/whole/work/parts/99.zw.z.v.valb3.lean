/-! values, for whole: texts of decimals: the reference's says -/
theorem V_sa293 {K_F_DR_says_L62 : Int32 → Int32 → Int32 → (Nat → Int32) → Int64 → (Int32 × Int32 × Int32 × Int32 × Int64 × Int32 × Int32 × Int32 × Int32 × Int32 × Int32 × Int32 × (Nat → Int32))} {K_F_DR_says_L247 : Int32 → Int64 → Int32 → (Int32 × Int32 × Int32 × Int32 × Int64 × Int32 × Int32 × Int32 × Int32 × Int32 × Int32 × Int32 × (Nat → Int32))} {t0_0 : Int32} {t0_1 : Int32} {t0_2 : Int32} {t0_3 : Int64} {t0_4 : Int32} {t0_5 : Int32} {t0_6 : Int32} {t0_7 : Int32} {t0_8 : Int32} {t0_9 : Int32} {t0_10 : Int32} {t1_0 : (Nat → Int32)} {t2_0 : (Nat → Int32)} {lx29 : Int32} {lx47 : Int32} {lx69 : Int32} {lx70 : Int32} {lx71 : Int32} {lx72 : (Nat → Int32)} {lx73 : Int64} {a222 : Int32} {lx230 : Int32} {lx242 : Int32} {lx255 : Int32} {lx256 : Int64} {lx257 : Int32} {L p M k i : Nat} {o : Option Nat} {f : Nat → Int} {B : Nat → Int} (hT : yTr t1_0 L B) (h1 : t0_1.toInt = (L : Int)) (hL : L ≤ 4100) (hR : yRn B 10 (yS1 B L 0) p M o f) (hS : ySp B 10 L p o) (hM : 0 < M) (hE : yAt B L p 101 69) (h71 : lx71.toInt = (M : Int)) (h73 : lx73.toInt = (M : Int) - ((o.getD M : Nat) : Int)) (hrow : ∀ j, j < M → (lx72 j).toInt = f j) (h230 : (lx230 = 0 ∧ ¬ yNg B L (p + 1)) ∨ (lx230 = 1 ∧ yNg B L (p + 1))) (h255 : lx255.toInt = (k : Int)) (hk : k ≤ 11) (hi : i = yS1 B L (p + 1) + k) (h257 : lx257.toInt = (i : Int)) (h256 : lx256.toInt = ((yDx B (yS1 B L (p + 1)) k : Nat) : Int)) (hD : ∀ j, yS1 B L (p + 1) ≤ j → j < i → 48 ≤ B j ∧ B j ≤ 57) (hiL : i ≤ L) (hend : 11 ≤ k ∨ i = L ∨ ¬ (48 ≤ B i ∧ B i ≤ 57)) : QV_dc B L t0_0 t0_1 lx47 t0_6 t0_7 t0_8 t0_9 t0_10 (F_DR_says_J293 K_F_DR_says_L62 K_F_DR_says_L247 t0_0 t0_1 t0_2 t0_3 t0_4 t0_5 t0_6 t0_7 t0_8 t0_9 t0_10 t1_0 t2_0 lx29 lx47 lx69 lx70 lx71 lx72 lx73 a222 lx230 lx242 lx255 lx256 lx257) := by
  have e1 : (1 : Int32).toInt = 1 := rfl
  have e10 : (10 : Int32).toInt = 10 := rfl
  have rle := yRn_le hR
  have kM := yRn_k hR
  have pL := hS.1
  have hf := yRn_f hR
  have xlt : yDx B (yS1 B L (p + 1)) k < 10 ^ 11 := Nat.lt_of_lt_of_le (yDx_lt (fun j a b => hD j a (by omega))) (Nat.pow_le_pow_right (by decide) hk)
  rw [show (10 : Nat) ^ 11 = 100000000000 by decide] at xlt
  obtain ⟨q, hq⟩ : ∃ q, yDr B L (yS1 B L (p + 1)) q := yDr_ex _ _ rfl (yS1_le (by have := hE.1; omega)).2
  have iq : i ≤ q := by
    rcases Nat.lt_or_ge q i with c | c
    · obtain ⟨q1, q2, q3, q4⟩ := hq
      have := hD q q1 c
      rcases q4 with q4 | q4
      · omega
      · exact absurd this q4
    · exact c
  have qi : k < 11 → q = i := fun hk => by
    rcases hend with c | c
    · omega
    · exact yDr_U hq ⟨by omega, hiL, hD, c⟩
  have no : ¬ (yS1 B L (p + 1) < q ∧ q - yS1 B L (p + 1) ≤ 10 ∧ q = L) → yDc B L none := fun h => ⟨p, M, o, f, hR, hS, Or.inr (Or.inr ⟨hM, hE, q, hq, Or.inl ⟨h, rfl⟩⟩)⟩
  have hsc : (lx73 - lx256 : Int64).toInt = (M : Int) - ((o.getD M : Nat) : Int) - ((yDx B (yS1 B L (p + 1)) k : Nat) : Int) := q_subL h73 h256 (by omega) (by omega)
  have hsa : (lx73 + lx256 : Int64).toInt = (M : Int) - ((o.getD M : Nat) : Int) + ((yDx B (yS1 B L (p + 1)) k : Nat) : Int) := q_addL h73 h256 (by omega) (by omega)
  unfold F_DR_says_J293
  by_cases c1 : lx255 < 1
  · rw [if_pos c1]
    have c1 := q_ltI c1
    have := qi (by omega)
    exact ⟨_, _, _, _, none, rfl, no (fun h => by omega), Or.inl ⟨rfl, rfl⟩⟩
  · rw [if_neg c1]
    have c1 := q_nltI c1
    by_cases c2 : lx255 ≤ 10
    · rw [if_pos c2]
      have c2 := q_leI c2
      have qe := qi (by omega)
      have ek : q - yS1 B L (p + 1) = k := by omega
      have yes : q = L → ∀ x : Int, ((yNg B L (p + 1) ∧ x = (M : Int) - ((o.getD M : Nat) : Int) + ((yDx B (yS1 B L (p + 1)) k : Nat) : Int)) ∨ (¬ yNg B L (p + 1) ∧ x = (M : Int) - ((o.getD M : Nat) : Int) - ((yDx B (yS1 B L (p + 1)) k : Nat) : Int))) → yDc B L (some (M, f, x)) := fun h x hx => ⟨p, M, o, f, hR, hS, Or.inr (Or.inr ⟨hM, hE, q, hq, Or.inr ⟨⟨by omega, by omega, h⟩, x, rfl, by rw [ek]; exact hx⟩⟩)⟩
      have fin : lx257 = t0_1 ↔ q = L := by
        constructor
        · intro h
          rw [h, h1] at h257
          omega
        · intro h
          exact Int32.toInt_inj.mp (by rw [h257, h1]; omega)
      rcases h230 with ⟨n1, n2⟩ | ⟨n1, n2⟩
      · rw [if_pos n1]
        by_cases c3 : lx257 = t0_1
        · rw [if_pos c3]
          exact ⟨_, _, _, _, _, rfl, yes (fin.mp c3) _ (Or.inr ⟨n2, rfl⟩), Or.inr ⟨rfl, M, f, _, rfl, h71, by omega, hsc, hf, hrow⟩⟩
        · rw [if_neg c3]
          exact ⟨_, _, _, _, none, rfl, no (fun h => c3 (fin.mpr h.2.2)), Or.inl ⟨rfl, rfl⟩⟩
      · rw [if_neg (show ¬ lx230 = 0 by rw [n1]; decide)]
        by_cases c3 : lx257 = t0_1
        · rw [if_pos c3]
          exact ⟨_, _, _, _, _, rfl, yes (fin.mp c3) _ (Or.inl ⟨n2, rfl⟩), Or.inr ⟨rfl, M, f, _, rfl, h71, by omega, hsa, hf, hrow⟩⟩
        · rw [if_neg c3]
          exact ⟨_, _, _, _, none, rfl, no (fun h => c3 (fin.mpr h.2.2)), Or.inl ⟨rfl, rfl⟩⟩
    · rw [if_neg c2]
      have c2 := q_nleI c2
      exact ⟨_, _, _, _, none, rfl, no (fun h => by omega), Or.inl ⟨rfl, rfl⟩⟩
theorem V_saE {K_F_DR_says_L62 : Int32 → Int32 → Int32 → (Nat → Int32) → Int64 → (Int32 × Int32 × Int32 × Int32 × Int64 × Int32 × Int32 × Int32 × Int32 × Int32 × Int32 × Int32 × (Nat → Int32))} {t0_0 : Int32} {t0_1 : Int32} {t0_2 : Int32} {t0_3 : Int64} {t0_4 : Int32} {t0_5 : Int32} {t0_6 : Int32} {t0_7 : Int32} {t0_8 : Int32} {t0_9 : Int32} {t0_10 : Int32} {t1_0 : (Nat → Int32)} {t2_0 : (Nat → Int32)} {lx29 : Int32} {lx47 : Int32} {lx69 : Int32} {lx70 : Int32} {lx71 : Int32} {lx72 : (Nat → Int32)} {lx73 : Int64} {a222 : Int32} {lx230 : Int32} {lx242 : Int32} {L p M : Nat} {o : Option Nat} {f : Nat → Int} {B : Nat → Int} (hT : yTr t1_0 L B) (h1 : t0_1.toInt = (L : Int)) (hL : L ≤ 4100) (hR : yRn B 10 (yS1 B L 0) p M o f) (hS : ySp B 10 L p o) (hM : 0 < M) (hE : yAt B L p 101 69) (h71 : lx71.toInt = (M : Int)) (h73 : lx73.toInt = (M : Int) - ((o.getD M : Nat) : Int)) (hrow : ∀ j, j < M → (lx72 j).toInt = f j) (h230 : (lx230 = 0 ∧ ¬ yNg B L (p + 1)) ∨ (lx230 = 1 ∧ yNg B L (p + 1))) : ∀ (n : Nat) (lx255 : Int32) (lx256 : Int64) (lx257 : Int32), ∀ (k i : Nat), lx255.toInt = (k : Int) → k ≤ 11 → 11 < n + k → i = yS1 B L (p + 1) + k → lx257.toInt = (i : Int) → lx256.toInt = ((yDx B (yS1 B L (p + 1)) k : Nat) : Int) → (∀ j, yS1 B L (p + 1) ≤ j → j < i → 48 ≤ B j ∧ B j ≤ 57) → i ≤ L → QV_dc B L t0_0 t0_1 lx47 t0_6 t0_7 t0_8 t0_9 t0_10 (F_DR_says_L247 K_F_DR_says_L62 t0_0 t0_1 t0_2 t0_3 t0_4 t0_5 t0_6 t0_7 t0_8 t0_9 t0_10 t1_0 t2_0 lx29 lx47 lx69 lx70 lx71 lx72 lx73 a222 lx230 lx242 n lx255 lx256 lx257) := by
  have e11 : (11 : Int32).toInt = 11 := rfl
  intro n
  induction n with
  | zero =>
    intro lx255 lx256 lx257 k i h0 h2 h3
    omega
  | succ n ih =>
    intro lx255 lx256 lx257 k i h0 h2 h3 hi h257 h256 hD hiL
    have hh := V_DR_at (t0_0 := t0_0) (t0_2 := lx71) (t0_3 := lx73) (t0_4 := 0) (t0_5 := lx47) (t0_6 := t0_6) (t0_7 := t0_7) (t0_8 := t0_8) (t0_9 := t0_9) (t0_10 := t0_10) hT h1 h257
    rw [F_DR_says_L247.eq_2]
    generalize F_DR_at lx257 t0_0 t0_1 lx71 lx73 0 lx47 t0_6 t0_7 t0_8 t0_9 t0_10 t1_0 = c at hh ⊢
    rcases y_isD2 (c := c) with ⟨d1, d2⟩ | ⟨d1, d2⟩
    · rw [d1, if_pos rfl]
      refine V_sa293 hT h1 hL hR hS hM hE h71 h73 hrow h230 h0 h2 hi h257 h256 hD hiL (Or.inr ?_)
      rcases Nat.lt_or_ge i L with a | a
      · rw [if_pos a] at hh
        rw [hh] at d2
        exact Or.inr d2
      · exact Or.inl (by omega)
    · rw [d1, if_neg (show ¬ (1 : Int32) = 0 by decide)]
      have iL : i < L := by
        by_cases a : i < L
        · exact a
        · rw [if_neg a] at hh
          omega
      rw [if_pos iL] at hh
      rw [hh] at d2
      by_cases c1 : (11 : Int32) ≤ lx255
      · rw [if_pos c1]
        have c1 := q_leI c1
        exact V_sa293 hT h1 hL hR hS hM hE h71 h73 hrow h230 h0 h2 hi h257 h256 hD hiL (Or.inl (by omega))
      · rw [if_neg c1]
        have c1 := q_nleI c1
        have hD2 : ∀ j, yS1 B L (p + 1) ≤ j → j < i + 1 → 48 ≤ B j ∧ B j ≤ 57 := fun j j1 j2 => by
          by_cases a : j = i
          · rw [a]
            exact d2
          · exact hD j j1 (by omega)
        have xlt : yDx B (yS1 B L (p + 1)) k < 10 ^ 11 := Nat.lt_of_lt_of_le (yDx_lt (fun j a b => hD j a (by omega))) (Nat.pow_le_pow_right (by decide) h2)
        rw [show (10 : Nat) ^ 11 = 100000000000 by decide] at xlt
        have st : yDx B (yS1 B L (p + 1)) (k + 1) = yDx B (yS1 B L (p + 1)) k * 10 + (B i - 48).toNat := by
          show yuB 10 (fun j => B (yS1 B L (p + 1) + j) - 48) k * 10 + (B (yS1 B L (p + 1) + k) - 48).toNat = _
          rw [← hi]
          rfl
        refine ih _ _ _ (k + 1) (i + 1) ?_ (by omega) (by omega) (by omega) ?_ ?_ hD2 (by omega)
        · rw [q_addI (y := 1) h0 rfl (by omega) (by omega)]
          omega
        · rw [q_addI (y := 1) h257 rfl (by omega) (by omega)]
          omega
        · have m1 : (10 * lx256 : Int64).toInt = 10 * ((yDx B (yS1 B L (p + 1)) k : Nat) : Int) := q_mulL (show (10 : Int64).toInt = 10 from rfl) h256 (by omega) (by omega)
          have m2 : (10 * lx256 + c.toInt64 : Int64).toInt = 10 * ((yDx B (yS1 B L (p + 1)) k : Nat) : Int) + B i := q_addL m1 (q_i2l hh) (by omega) (by omega)
          rw [q_subL (b := 48) (y := 48) m2 rfl (by omega) (by omega), st]
          omega
theorem V_sa240 {K_F_DR_says_L62 : Int32 → Int32 → Int32 → (Nat → Int32) → Int64 → (Int32 × Int32 × Int32 × Int32 × Int64 × Int32 × Int32 × Int32 × Int32 × Int32 × Int32 × Int32 × (Nat → Int32))} {t0_0 : Int32} {t0_1 : Int32} {t0_2 : Int32} {t0_3 : Int64} {t0_4 : Int32} {t0_5 : Int32} {t0_6 : Int32} {t0_7 : Int32} {t0_8 : Int32} {t0_9 : Int32} {t0_10 : Int32} {t1_0 : (Nat → Int32)} {t2_0 : (Nat → Int32)} {lx29 : Int32} {lx47 : Int32} {lx69 : Int32} {lx70 : Int32} {lx71 : Int32} {lx72 : (Nat → Int32)} {lx73 : Int64} {a222 : Int32} {lx230 : Int32} {lx242 : Int32} {L p M : Nat} {o : Option Nat} {f : Nat → Int} {B : Nat → Int} (hT : yTr t1_0 L B) (h1 : t0_1.toInt = (L : Int)) (hL : L ≤ 4100) (hR : yRn B 10 (yS1 B L 0) p M o f) (hS : ySp B 10 L p o) (hM : 0 < M) (hE : yAt B L p 101 69) (h71 : lx71.toInt = (M : Int)) (h73 : lx73.toInt = (M : Int) - ((o.getD M : Nat) : Int)) (hrow : ∀ j, j < M → (lx72 j).toInt = f j) (h230 : (lx230 = 0 ∧ ¬ yNg B L (p + 1)) ∨ (lx230 = 1 ∧ yNg B L (p + 1))) (h242 : lx242.toInt = ((yS1 B L (p + 1) : Nat) : Int)) : QV_dc B L t0_0 t0_1 lx47 t0_6 t0_7 t0_8 t0_9 t0_10 (F_DR_says_J240 K_F_DR_says_L62 t0_0 t0_1 t0_2 t0_3 t0_4 t0_5 t0_6 t0_7 t0_8 t0_9 t0_10 t1_0 t2_0 lx29 lx47 lx69 lx70 lx71 lx72 lx73 a222 lx230 lx242) := by
  unfold F_DR_says_J240
  exact V_saE hT h1 hL hR hS hM hE h71 h73 hrow h230 _ 0 0 lx242 0 _ rfl (by omega) (by have : (0 : Int32).toInt = 0 := rfl; omega) rfl h242 rfl (fun j a b => by omega) (yS1_le (by have := hE.1; omega)).2
theorem V_sa200 {K_F_DR_says_L62 : Int32 → Int32 → Int32 → (Nat → Int32) → Int64 → (Int32 × Int32 × Int32 × Int32 × Int64 × Int32 × Int32 × Int32 × Int32 × Int32 × Int32 × Int32 × (Nat → Int32))} {t0_0 : Int32} {t0_1 : Int32} {t0_2 : Int32} {t0_3 : Int64} {t0_4 : Int32} {t0_5 : Int32} {t0_6 : Int32} {t0_7 : Int32} {t0_8 : Int32} {t0_9 : Int32} {t0_10 : Int32} {t1_0 : (Nat → Int32)} {t2_0 : (Nat → Int32)} {lx29 : Int32} {lx47 : Int32} {lx69 : Int32} {lx70 : Int32} {lx71 : Int32} {lx72 : (Nat → Int32)} {lx73 : Int64} {L p M : Nat} {o : Option Nat} {f : Nat → Int} {B : Nat → Int} (hT : yTr t1_0 L B) (h1 : t0_1.toInt = (L : Int)) (hL : L ≤ 4100) (hR : yRn B 10 (yS1 B L 0) p M o f) (hS : ySp B 10 L p o) (hM : 0 < M) (hE : yAt B L p 101 69) (h70 : lx70.toInt = (p : Int)) (h71 : lx71.toInt = (M : Int)) (h73 : lx73.toInt = (M : Int) - ((o.getD M : Nat) : Int)) (hrow : ∀ j, j < M → (lx72 j).toInt = f j) : QV_dc B L t0_0 t0_1 lx47 t0_6 t0_7 t0_8 t0_9 t0_10 (F_DR_says_J200 K_F_DR_says_L62 t0_0 t0_1 t0_2 t0_3 t0_4 t0_5 t0_6 t0_7 t0_8 t0_9 t0_10 t1_0 t2_0 lx29 lx47 lx69 lx70 lx71 lx72 lx73) := by
  have hE1 := hE.1
  have ea : (lx70 + 1 : Int32).toInt = ((p + 1 : Nat) : Int) := by
    rw [q_addI (y := 1) h70 rfl (by omega) (by omega)]
    omega
  have e2 : p + 1 < L → (lx70 + 1 + 1 : Int32).toInt = ((p + 2 : Nat) : Int) := fun h => by
    rw [q_addI (y := 1) ea rfl (by omega) (by omega)]
    omega
  have hh := V_DR_at (t0_0 := t0_0) (t0_2 := lx71) (t0_3 := lx73) (t0_4 := 0) (t0_5 := lx47) (t0_6 := t0_6) (t0_7 := t0_7) (t0_8 := t0_8) (t0_9 := t0_9) (t0_10 := t0_10) hT h1 ea
  unfold F_DR_says_J200
  generalize hcq : F_DR_at (lx70 + 1) t0_0 t0_1 lx71 lx73 0 lx47 t0_6 t0_7 t0_8 t0_9 t0_10 t1_0 = c at hh ⊢
  have a45 := y_ch0 hh (x := 45) (v := 45) rfl (by decide)
  have a43 := y_ch0 hh (x := 43) (v := 43) rfl (by decide)
  by_cases c1 : c = 45
  · rw [if_pos c1]
    have k := a45.mp c1
    unfold F_DR_says_J218
    rw [if_neg (show ¬ (1 : Int32) = 0 by decide)]
    unfold F_DR_says_J233
    refine V_sa240 hT h1 hL hR hS hM hE h71 h73 hrow (Or.inr ⟨rfl, k⟩) ?_
    rw [e2 k.1]
    unfold yS1
    rw [if_pos ⟨k.1, Or.inl k.2⟩]
  · rw [if_neg c1]
    have ng : ¬ yNg B L (p + 1) := fun h => c1 (a45.mpr h)
    unfold F_DR_says_J218
    rw [if_pos rfl, hcq]
    by_cases c2 : c = 43
    · rw [if_pos c2]
      have k := a43.mp c2
      unfold F_DR_says_J233
      refine V_sa240 hT h1 hL hR hS hM hE h71 h73 hrow (Or.inl ⟨rfl, ng⟩) ?_
      rw [e2 k.1]
      unfold yS1
      rw [if_pos ⟨k.1, Or.inr k.2⟩]
    · rw [if_neg c2]
      refine V_sa240 hT h1 hL hR hS hM hE h71 h73 hrow (Or.inl ⟨rfl, ng⟩) ?_
      rw [ea]
      unfold yS1
      rw [if_neg (fun h => h.2.elim (fun k => c1 (a45.mpr ⟨h.1, k⟩)) (fun k => c2 (a43.mpr ⟨h.1, k⟩)))]
theorem V_sa171 {K_F_DR_says_L62 : Int32 → Int32 → Int32 → (Nat → Int32) → Int64 → (Int32 × Int32 × Int32 × Int32 × Int64 × Int32 × Int32 × Int32 × Int32 × Int32 × Int32 × Int32 × (Nat → Int32))} {t0_0 : Int32} {t0_1 : Int32} {t0_2 : Int32} {t0_3 : Int64} {t0_4 : Int32} {t0_5 : Int32} {t0_6 : Int32} {t0_7 : Int32} {t0_8 : Int32} {t0_9 : Int32} {t0_10 : Int32} {t1_0 : (Nat → Int32)} {t2_0 : (Nat → Int32)} {lx29 : Int32} {lx47 : Int32} {lx69 : Int32} {lx70 : Int32} {lx71 : Int32} {lx72 : (Nat → Int32)} {lx73 : Int64} {L p M : Nat} {o : Option Nat} {f : Nat → Int} {B : Nat → Int} (hT : yTr t1_0 L B) (h1 : t0_1.toInt = (L : Int)) (hL : L ≤ 4100) (hR : yRn B 10 (yS1 B L 0) p M o f) (hS : ySp B 10 L p o) (h70 : lx70.toInt = (p : Int)) (h71 : lx71.toInt = (M : Int)) (h73 : lx73.toInt = (M : Int) - ((o.getD M : Nat) : Int)) (hrow : ∀ j, j < M → (lx72 j).toInt = f j) : QV_dc B L t0_0 t0_1 lx47 t0_6 t0_7 t0_8 t0_9 t0_10 (F_DR_says_J171 K_F_DR_says_L62 t0_0 t0_1 t0_2 t0_3 t0_4 t0_5 t0_6 t0_7 t0_8 t0_9 t0_10 t1_0 t2_0 lx29 lx47 lx69 lx70 lx71 lx72 lx73) := by
  have e0 : (0 : Int32).toInt = 0 := rfl
  have rle := yRn_le hR
  have pL := hS.1
  have hh := V_DR_at (t0_0 := t0_0) (t0_2 := lx71) (t0_3 := lx73) (t0_4 := 0) (t0_5 := lx47) (t0_6 := t0_6) (t0_7 := t0_7) (t0_8 := t0_8) (t0_9 := t0_9) (t0_10 := t0_10) hT h1 h70
  unfold F_DR_says_J171
  generalize F_DR_at lx70 t0_0 t0_1 lx71 lx73 0 lx47 t0_6 t0_7 t0_8 t0_9 t0_10 t1_0 = c at hh ⊢
  have a1 := y_ch0 hh (x := 101) (v := 101) rfl (by decide)
  have a2 := y_ch0 hh (x := 69) (v := 69) rfl (by decide)
  by_cases z : lx71 = 0
  · rw [if_pos z]
    rw [z] at h71
    exact ⟨_, _, _, _, none, rfl, ⟨p, M, o, f, hR, hS, Or.inl ⟨by omega, rfl⟩⟩, Or.inl ⟨rfl, rfl⟩⟩
  · rw [if_neg z]
    have hM : 0 < M := by
      rcases Nat.eq_zero_or_pos M with h | h
      · exact absurd (Int32.toInt_inj.mp (by rw [h71, h]; rfl)) z
      · exact h
    by_cases c1 : c = 101
    · rw [if_pos c1]
      have k := a1.mp c1
      exact V_sa200 hT h1 hL hR hS hM ⟨k.1, Or.inl k.2⟩ h70 h71 h73 hrow
    · rw [if_neg c1]
      by_cases c2 : c = 69
      · rw [if_pos c2]
        have k := a2.mp c2
        exact V_sa200 hT h1 hL hR hS hM ⟨k.1, Or.inr k.2⟩ h70 h71 h73 hrow
      · rw [if_neg c2]
        have nE : ¬ yAt B L p 101 69 := fun h => h.2.elim (fun k => c1 (a1.mpr ⟨h.1, k⟩)) (fun k => c2 (a2.mpr ⟨h.1, k⟩))
        by_cases c3 : lx70 = t0_1
        · rw [if_pos c3]
          have pe : p = L := by
            rw [c3, h1] at h70
            omega
          exact ⟨_, _, _, _, _, rfl, ⟨p, M, o, f, hR, hS, Or.inr (Or.inl ⟨hM, nE, Or.inl ⟨pe, rfl⟩⟩)⟩, Or.inr ⟨rfl, M, f, _, rfl, h71, by omega, h73, yRn_f hR, hrow⟩⟩
        · rw [if_neg c3]
          exact ⟨_, _, _, _, none, rfl, ⟨p, M, o, f, hR, hS, Or.inr (Or.inl ⟨hM, nE, Or.inr ⟨fun h => c3 (Int32.toInt_inj.mp (by rw [h70, h1, h])), rfl⟩⟩)⟩, Or.inl ⟨rfl, rfl⟩⟩
theorem V_saL {t0_0 : Int32} {t0_1 : Int32} {t0_2 : Int32} {t0_3 : Int64} {t0_4 : Int32} {t0_5 : Int32} {t0_6 : Int32} {t0_7 : Int32} {t0_8 : Int32} {t0_9 : Int32} {t0_10 : Int32} {t1_0 : (Nat → Int32)} {t2_0 : (Nat → Int32)} {lx29 : Int32} {lx47 : Int32} {L : Nat} {B : Nat → Int} (hT : yTr t1_0 L B) (h1 : t0_1.toInt = (L : Int)) (hL : L ≤ 4100) : ∀ (n : Nat) (lx69 : Int32) (lx70 : Int32) (lx71 : Int32) (lx72 : (Nat → Int32)) (lx73 : Int64), ∀ (i M : Nat) (o : Option Nat) (f : Nat → Int), lx70.toInt = (i : Int) → i ≤ L → L < n + i → yRn B 10 (yS1 B L 0) i M o f → lx71.toInt = (M : Int) → ((lx69 = 0 ∧ o = none) ∨ (lx69 = 1 ∧ o ≠ none)) → lx73.toInt = (M : Int) - ((o.getD M : Nat) : Int) → (∀ j, j < M → (lx72 j).toInt = f j) → QV_dc B L t0_0 t0_1 lx47 t0_6 t0_7 t0_8 t0_9 t0_10 (F_DR_says_L62 t0_0 t0_1 t0_2 t0_3 t0_4 t0_5 t0_6 t0_7 t0_8 t0_9 t0_10 t1_0 t2_0 lx29 lx47 n lx69 lx70 lx71 lx72 lx73) := by
  intro n
  induction n with
  | zero =>
    intro lx69 lx70 lx71 lx72 lx73 i M o f h0 h2 h3
    omega
  | succ n ih =>
    intro lx69 lx70 lx71 lx72 lx73 i M o f h0 h2 h3 hR h71 h69 h73 hrow
    have rle := yRn_le hR
    have hh := V_DR_at (t0_0 := t0_0) (t0_2 := lx71) (t0_3 := lx73) (t0_4 := 0) (t0_5 := lx47) (t0_6 := t0_6) (t0_7 := t0_7) (t0_8 := t0_8) (t0_9 := t0_9) (t0_10 := t0_10) hT h1 h0
    have ea : i < L → (lx70 + 1 : Int32).toInt = ((i + 1 : Nat) : Int) := fun h => by
      rw [q_addI (y := 1) h0 rfl (by omega) (by omega)]
      omega
    rw [F_DR_says_L62.eq_2]
    generalize hcq : F_DR_at lx70 t0_0 t0_1 lx71 lx73 0 lx47 t0_6 t0_7 t0_8 t0_9 t0_10 t1_0 = c at hh ⊢
    have a46 := y_ch0 hh (x := 46) (v := 46) rfl (by decide)
    rcases y_isD2 (c := c) with ⟨d1, d2⟩ | ⟨d1, d2⟩
    · rw [d1, if_pos rfl]
      have nd : i < L → 10 ≤ yDv (B i) := fun h => by
        rw [if_pos h] at hh
        rw [hh] at d2
        have := mt yDv_10.mp d2
        omega
      by_cases c1 : c = 46
      · rw [if_pos c1]
        have k := a46.mp c1
        rcases h69 with ⟨z1, z2⟩ | ⟨z1, z2⟩
        · rw [if_pos z1]
          subst z2
          unfold F_DR_says_J87
          rw [if_pos z1, hcq, if_pos c1]
          unfold F_DR_says_J101 F_DR_says_J106
          rw [hcq, if_pos c1]
          exact ih _ _ _ _ _ (i + 1) M (some M) f (ea k.1) (by omega) (by omega) (yRn_p hR k.2) h71 (Or.inr ⟨rfl, by simp⟩) (by rw [h73]; rfl) hrow
        · rw [if_neg (show ¬ lx69 = 0 by rw [z1]; decide)]
          exact V_sa171 hT h1 hL hR ⟨h2, Or.inr ⟨nd k.1, fun _ => z2⟩⟩ h0 h71 h73 hrow
      · rw [if_neg c1]
        refine V_sa171 hT h1 hL hR ⟨h2, ?_⟩ h0 h71 h73 hrow
        rcases Nat.lt_or_ge i L with a | a
        · exact Or.inr ⟨nd a, fun h => absurd (a46.mpr ⟨a, h⟩) c1⟩
        · exact Or.inl (by omega)
    · rw [d1, if_neg (show ¬ (1 : Int32) = 0 by decide)]
      have iL : i < L := by
        by_cases a : i < L
        · exact a
        · rw [if_neg a] at hh
          omega
      rw [if_pos iL] at hh
      rw [hh] at d2
      have n46 : ¬ c = 46 := fun h => by
        have := (a46.mp h).2
        omega
      have ec := q_clI h71 (by omega)
      have em : lx71.toNatClampNeg = M := by omega
      have hc48 : (c - 48 : Int32).toInt = B i - 48 := q_subI hh rfl (by omega) (by omega)
      have hR2 := yRn_d (g := fun j => if j < M then f j else B i - 48) (d := B i - 48) hR (yDv_v d2) (by omega) (fun j hj => if_pos hj) (if_neg (Nat.lt_irrefl _))
      have hrow2 : ∀ j, j < M + 1 → ((upd lx72 lx71.toNatClampNeg (c - 48)) j).toInt = (fun j => if j < M then f j else B i - 48) j := fun j hj => by
        rw [em]
        show ((upd lx72 M (c - 48)) j).toInt = if j < M then f j else B i - 48
        unfold upd
        by_cases e : j = M
        · rw [if_pos e, if_neg (by omega)]
          exact hc48
        · rw [if_neg e, if_pos (by omega)]
          exact hrow j (by omega)
      have e71 : (lx71 + 1 : Int32).toInt = ((M + 1 : Nat) : Int) := by
        rw [q_addI (y := 1) h71 rfl (by omega) (by omega)]
        omega
      unfold F_DR_says_J87
      rcases h69 with ⟨z1, z2⟩ | ⟨z1, z2⟩
      · rw [if_pos z1, hcq, if_neg n46]
        subst z2
        unfold F_DR_says_J106
        rw [hcq, if_neg n46, if_pos rfl]
        refine ih _ _ _ _ _ (i + 1) (M + 1) none _ (ea iL) (by omega) (by omega) hR2 e71 (Or.inl ⟨rfl, rfl⟩) ?_ hrow2
        rw [h73]
        show (M : Int) - ((M : Nat) : Int) = ((M + 1 : Nat) : Int) - ((M + 1 : Nat) : Int)
        omega
      · rw [if_neg (show ¬ lx69 = 0 by rw [z1]; decide)]
        unfold F_DR_says_J101 F_DR_says_J106
        rw [hcq, if_neg n46, if_neg (show ¬ (1 : Int32) = 0 by decide)]
        refine ih _ _ _ _ _ (i + 1) (M + 1) o _ (ea iL) (by omega) (by omega) hR2 e71 (Or.inr ⟨rfl, z2⟩) ?_ hrow2
        cases o with
        | none => exact absurd rfl z2
        | some k =>
          have kM : k ≤ M := yRn_k hR
          have g0 : lx73.toInt = (M : Int) - (k : Int) := h73
          show (lx73 + 1 : Int64).toInt = ((M + 1 : Nat) : Int) - (k : Int)
          rw [q_addL (y := 1) g0 rfl (by omega) (by omega)]
          omega
theorem V_DR_says {t0_0 : Int32} {t0_1 : Int32} {t0_2 : Int32} {t0_3 : Int64} {t0_4 : Int32} {t0_5 : Int32} {t0_6 : Int32} {t0_7 : Int32} {t0_8 : Int32} {t0_9 : Int32} {t0_10 : Int32} {t1_0 : (Nat → Int32)} {t2_0 : (Nat → Int32)} {L : Nat} {B : Nat → Int} (hT : yTr t1_0 L B) (h1 : t0_1.toInt = (L : Int)) (hL : L ≤ 4100) : ∃ bl : Int32, ((bl = 0 ∧ ¬ yNg B L 0) ∨ (bl = 1 ∧ yNg B L 0)) ∧ QV_dc B L t0_0 t0_1 bl t0_6 t0_7 t0_8 t0_9 t0_10 (F_DR_says t0_0 t0_1 t0_2 t0_3 t0_4 t0_5 t0_6 t0_7 t0_8 t0_9 t0_10 t1_0 t2_0) := by
  have hh := V_DR_at (x2 := 0) (p := 0) (t0_0 := t0_0) (t0_2 := t0_2) (t0_3 := t0_3) (t0_4 := t0_4) (t0_5 := t0_5) (t0_6 := t0_6) (t0_7 := t0_7) (t0_8 := t0_8) (t0_9 := t0_9) (t0_10 := t0_10) hT h1 rfl
  unfold F_DR_says
  generalize hcq : F_DR_at 0 t0_0 t0_1 t0_2 t0_3 t0_4 t0_5 t0_6 t0_7 t0_8 t0_9 t0_10 t1_0 = c at hh ⊢
  have a45 := y_ch0 hh (x := 45) (v := 45) rfl (by decide)
  have a43 := y_ch0 hh (x := 43) (v := 43) rfl (by decide)
  have sl := (yS1_le (B := B) (L := L) (s := 0) (by omega)).2
  by_cases c1 : c = 43
  · rw [if_pos c1]
    have k := a43.mp c1
    unfold F_DR_says_J20 F_DR_says_J25
    rw [hcq, if_neg (show ¬ c = 45 by rw [c1]; decide)]
    unfold F_DR_says_J42
    refine ⟨0, Or.inl ⟨rfl, fun h => by have := h.2; omega⟩, ?_⟩
    have s1 : yS1 B L 0 = 1 := by
      unfold yS1
      rw [if_pos ⟨k.1, Or.inr k.2⟩]
    exact V_saL hT h1 hL 1000000 0 1 0 t2_0 0 1 0 none (fun _ => 0) rfl (by omega) (by omega) (by rw [s1]; exact yRn_0) rfl (Or.inl ⟨rfl, rfl⟩) rfl (fun j h => by omega)
  · rw [if_neg c1]
    by_cases c2 : c = 45
    · rw [if_pos c2]
      have k := a45.mp c2
      unfold F_DR_says_J20 F_DR_says_J25
      rw [hcq, if_pos c2]
      unfold F_DR_says_J42
      refine ⟨1, Or.inr ⟨rfl, k⟩, ?_⟩
      have s1 : yS1 B L 0 = 1 := by
        unfold yS1
        rw [if_pos ⟨k.1, Or.inl k.2⟩]
      exact V_saL hT h1 hL 1000000 0 1 0 t2_0 0 1 0 none (fun _ => 0) rfl (by omega) (by omega) (by rw [s1]; exact yRn_0) rfl (Or.inl ⟨rfl, rfl⟩) rfl (fun j h => by omega)
    · rw [if_neg c2]
      unfold F_DR_says_J25
      rw [hcq, if_neg c2]
      unfold F_DR_says_J42
      refine ⟨0, Or.inl ⟨rfl, fun h => c2 (a45.mpr h)⟩, ?_⟩
      have s1 : yS1 B L 0 = 0 := by
        unfold yS1
        rw [if_neg (fun h => h.2.elim (fun k => c2 (a45.mpr ⟨h.1, k⟩)) (fun k => c1 (a43.mpr ⟨h.1, k⟩)))]
      exact V_saL hT h1 hL 1000000 0 0 0 t2_0 0 0 0 none (fun _ => 0) rfl (by omega) (by omega) (by rw [s1]; exact yRn_0) rfl (Or.inl ⟨rfl, rfl⟩) rfl (fun j h => by omega)
