/-! values, for whole: texts: powers, blanks, words -/
/-- a number that stops to grow at a cap -/
def yCp (cap X v : Nat) : Prop := (X < cap ∧ v = X) ∨ (cap ≤ X ∧ cap ≤ v)
theorem yCp_s {cap X v d : Nat} (h : yCp cap X v) : (v < cap → yCp cap (X * 10 + d) (v * 10 + d)) ∧ (cap ≤ v → yCp cap (X * 10 + d) v) := by
  unfold yCp at *
  omega
/-- behind a sign, if there is one -/
def yS1 (B : Nat → Int) (L s : Nat) : Nat := if s < L ∧ (B s = 45 ∨ B s = 43) then s + 1 else s
def yNg (B : Nat → Int) (L s : Nat) : Prop := s < L ∧ B s = 45
theorem yS1_le {B : Nat → Int} {L s : Nat} (h : s ≤ L) : s ≤ yS1 B L s ∧ yS1 B L s ≤ L := by
  unfold yS1
  split <;> omega
/-- a power from place s on: the sign, its figures up to p, and what comes of them -/
def QV_pw (B : Nat → Int) (cap L s : Nat) (c place : Int32) (ex : Int64) : Prop := ∃ p, yDr B L (yS1 B L s) p ∧ ((c = 0 ∧ p = yS1 B L s) ∨ (c = 1 ∧ yS1 B L s < p ∧ place.toInt = (p : Int) ∧ ∃ v : Nat, yCp cap (yDx B (yS1 B L s) (p - yS1 B L s)) v ∧ v ≤ 10 * cap ∧ ((yNg B L s ∧ ex.toInt = -(v : Int)) ∨ (¬ yNg B L s ∧ ex.toInt = (v : Int)))))
theorem yDr_e {B : Nat → Int} {L s i : Nat} (h1 : s ≤ i) (h2 : i ≤ L) (h3 : ∀ j, s ≤ j → j < i → 48 ≤ B j ∧ B j ≤ 57) (h4 : i = L ∨ ¬ (48 ≤ B i ∧ B i ≤ 57)) : yDr B L s i := ⟨h1, h2, h3, h4⟩
theorem V_TR_pwL {t0_0 : Int32} {t0_1 : Int32} {t0_2 : Int32} {t0_3 : Int32} {t0_4 : Int32} {t0_5 : Int32} {t0_6 : Int32} {t0_7 : Int64} {t0_8 : Int32} {t0_9 : Int32} {t0_10 : Int64} {t0_11 : Int64} {t0_12 : Int32} {t0_13 : Int32} {t1_0 : (Nat → Int32)} {lx28 : Int32} {lx39 : Int32} {L s : Nat} {B : Nat → Int} (hT : yTr t1_0 L B) (h1 : t0_1.toInt = (L : Int)) (hL : L ≤ 4100) (h28 : lx28 = 0 ∨ lx28 = 1) : ∀ (n : Nat) (lx64 : Int32) (lx65 : Int64), ∀ (i v : Nat), lx64.toInt = (i : Int) → s ≤ i → i ≤ L → L < n + i → lx65.toInt = (v : Int) → v ≤ 10000000000 → yCp 1000000000 (yDx B s (i - s)) v → (∀ j, s ≤ j → j < i → 48 ≤ B j ∧ B j ≤ 57) → (∃ p v : Nat, yDr B L s p ∧ i ≤ p ∧ (F_TR_power_L50 t0_0 t0_1 t0_2 t0_3 t0_4 t0_5 t0_6 t0_7 t0_8 t0_9 t0_10 t0_11 t0_12 t0_13 t1_0 lx28 lx39 n lx64 lx65).1 = 1 ∧ (F_TR_power_L50 t0_0 t0_1 t0_2 t0_3 t0_4 t0_5 t0_6 t0_7 t0_8 t0_9 t0_10 t0_11 t0_12 t0_13 t1_0 lx28 lx39 n lx64 lx65).2.2.2.2.1.toInt = (p : Int) ∧ yCp 1000000000 (yDx B s (p - s)) v ∧ v ≤ 10000000000 ∧ (F_TR_power_L50 t0_0 t0_1 t0_2 t0_3 t0_4 t0_5 t0_6 t0_7 t0_8 t0_9 t0_10 t0_11 t0_12 t0_13 t1_0 lx28 lx39 n lx64 lx65).2.2.2.2.2.2.2.2.1.toInt = (if lx28 = 0 then (v : Int) else -(v : Int))) ∧ (F_TR_power_L50 t0_0 t0_1 t0_2 t0_3 t0_4 t0_5 t0_6 t0_7 t0_8 t0_9 t0_10 t0_11 t0_12 t0_13 t1_0 lx28 lx39 n lx64 lx65).2.1 = t0_0 ∧ (F_TR_power_L50 t0_0 t0_1 t0_2 t0_3 t0_4 t0_5 t0_6 t0_7 t0_8 t0_9 t0_10 t0_11 t0_12 t0_13 t1_0 lx28 lx39 n lx64 lx65).2.2.1 = t0_1 ∧ (F_TR_power_L50 t0_0 t0_1 t0_2 t0_3 t0_4 t0_5 t0_6 t0_7 t0_8 t0_9 t0_10 t0_11 t0_12 t0_13 t1_0 lx28 lx39 n lx64 lx65).2.2.2.1 = t0_2 ∧ (F_TR_power_L50 t0_0 t0_1 t0_2 t0_3 t0_4 t0_5 t0_6 t0_7 t0_8 t0_9 t0_10 t0_11 t0_12 t0_13 t1_0 lx28 lx39 n lx64 lx65).2.2.2.2.2.1 = t0_4 ∧ (F_TR_power_L50 t0_0 t0_1 t0_2 t0_3 t0_4 t0_5 t0_6 t0_7 t0_8 t0_9 t0_10 t0_11 t0_12 t0_13 t1_0 lx28 lx39 n lx64 lx65).2.2.2.2.2.2.1 = t0_5 ∧ (F_TR_power_L50 t0_0 t0_1 t0_2 t0_3 t0_4 t0_5 t0_6 t0_7 t0_8 t0_9 t0_10 t0_11 t0_12 t0_13 t1_0 lx28 lx39 n lx64 lx65).2.2.2.2.2.2.2.1 = t0_6 := by
  have e9 : (1000000000 : Int64).toInt = 1000000000 := rfl
  intro n
  induction n with
  | zero =>
    intro lx64 lx65 i v h0 h2 h3 h4
    omega
  | succ n ih =>
    intro lx64 lx65 i v h0 h2 h3 h4 h65 hv hC hD
    have hh := V_TR_here (t0_0 := t0_0) (t0_1 := t0_1) (t0_2 := t0_2) (t0_3 := lx64) (t0_4 := t0_4) (t0_5 := t0_5) (t0_6 := t0_6) (t0_7 := lx65) (t0_8 := t0_8) (t0_9 := t0_9) (t0_10 := t0_10) (t0_11 := t0_11) (t0_12 := t0_12) (t0_13 := t0_13) hT h1 h0
    rw [F_TR_power_L50.eq_2]
    generalize F_TR_here t0_0 t0_1 t0_2 lx64 t0_4 t0_5 t0_6 lx65 t0_8 t0_9 t0_10 t0_11 t0_12 t0_13 t1_0 = c at hh ⊢
    rcases y_isD (c := c) with ⟨d1, d2⟩ | ⟨d1, d2⟩
    · rw [d1, if_pos rfl]
      have hp : yDr B L s i := by
        refine ⟨h2, h3, hD, ?_⟩
        rcases Nat.lt_or_ge i L with a | a
        · rw [hh, if_pos a] at d2
          exact Or.inr d2
        · exact Or.inl (by omega)
      rcases h28 with z | z
      · rw [if_pos z]
        exact ⟨⟨i, v, hp, Nat.le_refl _, rfl, h0, hC, hv, by rw [if_pos z]; exact h65⟩, rfl, rfl, rfl, rfl, rfl, rfl⟩
      · have nz : ¬ lx28 = 0 := by rw [z]; decide
        rw [if_neg nz]
        refine ⟨⟨i, v, hp, Nat.le_refl _, rfl, h0, hC, hv, ?_⟩, rfl, rfl, rfl, rfl, rfl, rfl⟩
        rw [if_neg nz]
        show (-lx65 : Int64).toInt = _
        rw [Int64.toInt_neg, h65, Int.bmod_eq_of_le (by omega) (by omega)]
    · rw [d1, if_neg (show ¬ (1 : Int32) = 0 by decide)]
      have iL : i < L := by
        by_cases a : i < L
        · exact a
        · rw [hh, if_neg a] at d2
          omega
      rw [if_pos iL] at hh
      rw [hh] at d2
      have ea : (lx64 + 1 : Int32).toInt = ((i + 1 : Nat) : Int) := by
        rw [q_addI (y := 1) h0 rfl (by omega) (by omega)]
        omega
      have hD2 : ∀ j, s ≤ j → j < i + 1 → 48 ≤ B j ∧ B j ≤ 57 := fun j j1 j2 => by
        by_cases a : j = i
        · rw [a]
          exact d2
        · exact hD j j1 (by omega)
      have st : yDx B s (i + 1 - s) = yDx B s (i - s) * 10 + (B i - 48).toNat := by
        rw [show i + 1 - s = (i - s) + 1 by omega]
        show yuB 10 (fun j => B (s + j) - 48) (i - s) * 10 + (B (s + (i - s)) - 48).toNat = _
        rw [show s + (i - s) = i by omega]
        rfl
      have cs := yCp_s (d := (B i - 48).toNat) hC
      rw [← st] at cs
      have wrap : ∀ (y : Int32 × Int32 × Int32 × Int32 × Int32 × Int32 × Int32 × Int32 × Int64 × Int32 × Int32 × Int64 × Int64 × Int32 × Int32), ((∃ p v : Nat, yDr B L s p ∧ i + 1 ≤ p ∧ y.1 = 1 ∧ y.2.2.2.2.1.toInt = (p : Int) ∧ yCp 1000000000 (yDx B s (p - s)) v ∧ v ≤ 10000000000 ∧ y.2.2.2.2.2.2.2.2.1.toInt = (if lx28 = 0 then (v : Int) else -(v : Int))) ∧ y.2.1 = t0_0 ∧ y.2.2.1 = t0_1 ∧ y.2.2.2.1 = t0_2 ∧ y.2.2.2.2.2.1 = t0_4 ∧ y.2.2.2.2.2.2.1 = t0_5 ∧ y.2.2.2.2.2.2.2.1 = t0_6) → ((∃ p v : Nat, yDr B L s p ∧ i ≤ p ∧ y.1 = 1 ∧ y.2.2.2.2.1.toInt = (p : Int) ∧ yCp 1000000000 (yDx B s (p - s)) v ∧ v ≤ 10000000000 ∧ y.2.2.2.2.2.2.2.2.1.toInt = (if lx28 = 0 then (v : Int) else -(v : Int))) ∧ y.2.1 = t0_0 ∧ y.2.2.1 = t0_1 ∧ y.2.2.2.1 = t0_2 ∧ y.2.2.2.2.2.1 = t0_4 ∧ y.2.2.2.2.2.2.1 = t0_5 ∧ y.2.2.2.2.2.2.2.1 = t0_6) := fun y ⟨⟨p, v, a1, a2, a3⟩, a4⟩ => ⟨⟨p, v, a1, by omega, a3⟩, a4⟩
      by_cases g : 0 ≤ lg_cmp lx65 1000000000
      · rw [if_pos g]
        have g2 := g_lc5 g
        exact wrap _ (ih _ _ (i + 1) v ea (by omega) (by omega) (by omega) h65 hv (cs.2 (by omega)) hD2)
      · rw [if_neg g]
        have g2 := g_lc6 g
        have m1 : (10 * lx65 : Int64).toInt = 10 * (v : Int) := q_mulL (show (10 : Int64).toInt = 10 from rfl) h65 (by omega) (by omega)
        have m2 : (10 * lx65 + c.toInt64 : Int64).toInt = 10 * (v : Int) + B i := q_addL m1 (q_i2l hh) (by omega) (by omega)
        refine wrap _ (ih _ _ (i + 1) (v * 10 + (B i - 48).toNat) ea (by omega) (by omega) (by omega) ?_ (by omega) (cs.1 (by omega)) hD2)
        rw [q_subL (b := 48) (y := 48) m2 rfl (by omega) (by omega)]
        omega
theorem V_TR_power {t0_0 : Int32} {t0_1 : Int32} {t0_2 : Int32} {t0_3 : Int32} {t0_4 : Int32} {t0_5 : Int32} {t0_6 : Int32} {t0_7 : Int64} {t0_8 : Int32} {t0_9 : Int32} {t0_10 : Int64} {t0_11 : Int64} {t0_12 : Int32} {t0_13 : Int32} {t1_0 : (Nat → Int32)} {L s : Nat} {B : Nat → Int} (hT : yTr t1_0 L B) (h1 : t0_1.toInt = (L : Int)) (hL : L ≤ 4100) (h3 : t0_3.toInt = (s : Int)) (hs : s ≤ L) (h7 : t0_7 = 0) : QV_pw B 1000000000 L s (F_TR_power t0_0 t0_1 t0_2 t0_3 t0_4 t0_5 t0_6 t0_7 t0_8 t0_9 t0_10 t0_11 t0_12 t0_13 t1_0).1 (F_TR_power t0_0 t0_1 t0_2 t0_3 t0_4 t0_5 t0_6 t0_7 t0_8 t0_9 t0_10 t0_11 t0_12 t0_13 t1_0).2.2.2.2.1 (F_TR_power t0_0 t0_1 t0_2 t0_3 t0_4 t0_5 t0_6 t0_7 t0_8 t0_9 t0_10 t0_11 t0_12 t0_13 t1_0).2.2.2.2.2.2.2.2.1 ∧ (F_TR_power t0_0 t0_1 t0_2 t0_3 t0_4 t0_5 t0_6 t0_7 t0_8 t0_9 t0_10 t0_11 t0_12 t0_13 t1_0).2.1 = t0_0 ∧ (F_TR_power t0_0 t0_1 t0_2 t0_3 t0_4 t0_5 t0_6 t0_7 t0_8 t0_9 t0_10 t0_11 t0_12 t0_13 t1_0).2.2.1 = t0_1 ∧ (F_TR_power t0_0 t0_1 t0_2 t0_3 t0_4 t0_5 t0_6 t0_7 t0_8 t0_9 t0_10 t0_11 t0_12 t0_13 t1_0).2.2.2.1 = t0_2 ∧ (F_TR_power t0_0 t0_1 t0_2 t0_3 t0_4 t0_5 t0_6 t0_7 t0_8 t0_9 t0_10 t0_11 t0_12 t0_13 t1_0).2.2.2.2.2.1 = t0_4 ∧ (F_TR_power t0_0 t0_1 t0_2 t0_3 t0_4 t0_5 t0_6 t0_7 t0_8 t0_9 t0_10 t0_11 t0_12 t0_13 t1_0).2.2.2.2.2.2.1 = t0_5 ∧ (F_TR_power t0_0 t0_1 t0_2 t0_3 t0_4 t0_5 t0_6 t0_7 t0_8 t0_9 t0_10 t0_11 t0_12 t0_13 t1_0).2.2.2.2.2.2.2.1 = t0_6 := by
  have e45 : (45 : Int32).toInt = 45 := rfl
  have e43 : (43 : Int32).toInt = 43 := rfl
  have hh := V_TR_here (t0_0 := t0_0) (t0_1 := t0_1) (t0_2 := t0_2) (t0_3 := t0_3) (t0_4 := t0_4) (t0_5 := t0_5) (t0_6 := t0_6) (t0_7 := t0_7) (t0_8 := t0_8) (t0_9 := t0_9) (t0_10 := t0_10) (t0_11 := t0_11) (t0_12 := t0_12) (t0_13 := t0_13) hT h1 h3
  -- behind the sign
  have j38 : ∀ (lx28 lx39 : Int32), lx39.toInt = ((yS1 B L s : Nat) : Int) → ((lx28 = 1 ∧ yNg B L s) ∨ (lx28 = 0 ∧ ¬ yNg B L s)) → ∀ y, F_TR_power_J38 t0_0 t0_1 t0_2 t0_3 t0_4 t0_5 t0_6 t0_7 t0_8 t0_9 t0_10 t0_11 t0_12 t0_13 t1_0 lx28 lx39 = y → QV_pw B 1000000000 L s y.1 y.2.2.2.2.1 y.2.2.2.2.2.2.2.2.1 ∧ y.2.1 = t0_0 ∧ y.2.2.1 = t0_1 ∧ y.2.2.2.1 = t0_2 ∧ y.2.2.2.2.2.1 = t0_4 ∧ y.2.2.2.2.2.2.1 = t0_5 ∧ y.2.2.2.2.2.2.2.1 = t0_6 := fun lx28 lx39 h39 h28 y hy => by
    subst hy
    have sle := yS1_le (B := B) hs
    have h2 := V_TR_here (t0_0 := t0_0) (t0_1 := t0_1) (t0_2 := t0_2) (t0_3 := lx39) (t0_4 := t0_4) (t0_5 := t0_5) (t0_6 := t0_6) (t0_7 := t0_7) (t0_8 := t0_8) (t0_9 := t0_9) (t0_10 := t0_10) (t0_11 := t0_11) (t0_12 := t0_12) (t0_13 := t0_13) hT h1 h39
    unfold F_TR_power_J38
    generalize F_TR_here t0_0 t0_1 t0_2 lx39 t0_4 t0_5 t0_6 t0_7 t0_8 t0_9 t0_10 t0_11 t0_12 t0_13 t1_0 = c at h2 ⊢
    rcases y_isD (c := c) with ⟨d1, d2⟩ | ⟨d1, d2⟩
    · rw [d1, if_pos rfl]
      refine ⟨⟨yS1 B L s, ⟨Nat.le_refl _, sle.2, fun i a b => by omega, ?_⟩, Or.inl ⟨rfl, rfl⟩⟩, rfl, rfl, rfl, rfl, rfl, rfl⟩
      rcases Nat.lt_or_ge (yS1 B L s) L with a | a
      · rw [h2, if_pos a] at d2
        exact Or.inr d2
      · exact Or.inl (by omega)
    · rw [d1, if_neg (show ¬ (1 : Int32) = 0 by decide)]
      have iL : yS1 B L s < L := by
        by_cases a : yS1 B L s < L
        · exact a
        · rw [h2, if_neg a] at d2
          omega
      rw [h2, if_pos iL] at d2
      have lp := V_TR_pwL (s := yS1 B L s) (t0_0 := t0_0) (t0_2 := t0_2) (t0_3 := t0_3) (t0_4 := t0_4) (t0_5 := t0_5) (t0_6 := t0_6) (t0_7 := t0_7) (t0_8 := t0_8) (t0_9 := t0_9) (t0_10 := t0_10) (t0_11 := t0_11) (t0_12 := t0_12) (t0_13 := t0_13) (lx28 := lx28) (lx39 := lx39) hT h1 hL (by rcases h28 with ⟨z, _⟩ | ⟨z, _⟩ <;> rw [z] <;> decide) 1000000 lx39 t0_7 (yS1 B L s) 0 h39 (Nat.le_refl _) sle.2 (by omega) (by rw [h7]; rfl) (by omega) (by rw [Nat.sub_self]; exact Or.inl ⟨by show (0 : Nat) < _; decide, rfl⟩) (fun j a b => by omega)
      obtain ⟨⟨p, v, a1, a2, a3, a4, a5, a6, a7⟩, a8⟩ := lp
      have sp : yS1 B L s < p := by
        rcases Nat.lt_or_ge (yS1 B L s) p with a | a
        · exact a
        · exfalso
          obtain ⟨_, _, _, q4⟩ := a1
          have pe : p = yS1 B L s := by omega
          rw [pe] at q4
          exact (q4.resolve_left (by omega)) d2
      refine ⟨⟨p, a1, Or.inr ⟨a3, sp, a4, v, a5, by omega, ?_⟩⟩, a8⟩
      rcases h28 with ⟨z, ng⟩ | ⟨z, ng⟩
      · rw [if_neg (show ¬ lx28 = 0 by rw [z]; decide)] at a7
        exact Or.inl ⟨ng, a7⟩
      · rw [if_pos z] at a7
        exact Or.inr ⟨ng, a7⟩
  have ea : s < L → (t0_3 + 1 : Int32).toInt = ((s + 1 : Nat) : Int) := fun h => by
    rw [q_addI (y := 1) h3 rfl (by omega) (by omega)]
    omega
  unfold F_TR_power F_TR_power_J14
  generalize F_TR_here t0_0 t0_1 t0_2 t0_3 t0_4 t0_5 t0_6 t0_7 t0_8 t0_9 t0_10 t0_11 t0_12 t0_13 t1_0 = c at hh ⊢
  by_cases c1 : c = 45
  · rw [if_pos c1, if_neg (show ¬ (1 : Int32) = 0 by decide)]
    rw [c1, e45] at hh
    have iL : s < L := by
      by_cases a : s < L
      · exact a
      · rw [if_neg a] at hh
        omega
    rw [if_pos iL] at hh
    unfold F_TR_power_J28
    refine j38 1 _ ?_ (Or.inl ⟨rfl, iL, hh.symm⟩) _ rfl
    rw [ea iL]
    unfold yS1
    rw [if_pos ⟨iL, Or.inl hh.symm⟩]
  · rw [if_neg c1, if_pos rfl]
    have ng : ¬ yNg B L s := fun h => by
      rw [if_pos h.1, h.2] at hh
      exact c1 (Int32.toInt_inj.mp hh)
    by_cases c2 : c = 43
    · rw [if_pos c2]
      rw [c2, e43] at hh
      have iL : s < L := by
        by_cases a : s < L
        · exact a
        · rw [if_neg a] at hh
          omega
      rw [if_pos iL] at hh
      unfold F_TR_power_J28
      refine j38 0 _ ?_ (Or.inr ⟨rfl, ng⟩) _ rfl
      rw [ea iL]
      unfold yS1
      rw [if_pos ⟨iL, Or.inr hh.symm⟩]
    · rw [if_neg c2]
      refine j38 0 _ ?_ (Or.inr ⟨rfl, ng⟩) _ rfl
      rw [h3]
      unfold yS1
      rw [if_neg (fun h => by
        rw [if_pos h.1] at hh
        rcases h.2 with e | e
        · exact ng ⟨h.1, e⟩
        · rw [e] at hh
          exact c2 (Int32.toInt_inj.mp hh))]
/-- behind the blanks from place s on -/
def yBl (B : Nat → Int) (L s p : Nat) : Prop := s ≤ p ∧ p ≤ L ∧ (∀ i, s ≤ i → i < p → B i ≤ 32) ∧ (p = L ∨ 32 < B p)
theorem yBl_U {B : Nat → Int} {L s p q : Nat} (h : yBl B L s p) (g : yBl B L s q) : p = q := by
  have key : ∀ {p q : Nat}, yBl B L s p → yBl B L s q → p ≤ q := fun {p q} h g => by
    rcases Nat.lt_or_ge q p with c | c
    · exfalso
      obtain ⟨h1, h2, h3, h4⟩ := h
      obtain ⟨g1, g2, g3, g4⟩ := g
      have := h3 q g1 c
      have := g4.resolve_left (by omega)
      omega
    · exact c
  exact Nat.le_antisymm (key h g) (key g h)
theorem V_blL {t0_0 : Int32} {t0_1 : Int32} {t0_2 : Int32} {t0_3 : Int32} {t0_4 : Int32} {t0_5 : Int32} {t0_6 : Int32} {t0_7 : Int64} {t0_8 : Int32} {t0_9 : Int32} {t0_10 : Int64} {t0_11 : Int64} {t0_12 : Int32} {t0_13 : Int32} {t1_0 : (Nat → Int32)} {L s : Nat} {B : Nat → Int} (hT : yTr t1_0 L B) (h1 : t0_1.toInt = (L : Int)) (hL : L ≤ 4100) : ∀ (n : Nat) (lx22 : Int32), ∀ i : Nat, lx22.toInt = (i : Int) → s ≤ i → i ≤ L → L < n + i → (∀ j, s ≤ j → j < i → B j ≤ 32) → ∃ (p : Nat) (q : Int32), yBl B L s p ∧ q.toInt = (p : Int) ∧ (F_TR_blanks_L0 t0_0 t0_1 t0_2 t0_3 t0_4 t0_5 t0_6 t0_7 t0_8 t0_9 t0_10 t0_11 t0_12 t0_13 t1_0 n lx22) = (t0_0, t0_1, t0_2, q, t0_4, t0_5, t0_6, t0_7, t0_8, t0_9, t0_10, t0_11, t0_12, t0_13) := by
  have e32 : (32 : Int32).toInt = 32 := rfl
  intro n
  induction n with
  | zero =>
    intro lx22 i h0 h2 h3 h4
    omega
  | succ n ih =>
    intro lx22 i h0 h2 h3 h4 h5
    have ic := q_clI h0 (by omega)
    have ix : lx22.toNatClampNeg = i := by omega
    rw [F_TR_blanks_L0.eq_2, ix]
    by_cases g1 : t0_1 ≤ lx22
    · rw [if_pos g1]
      have := q_leI g1
      exact ⟨i, _, ⟨h2, h3, h5, Or.inl (by omega)⟩, h0, rfl⟩
    · rw [if_neg g1]
      have := q_nleI g1
      have hb := hT i (by omega)
      by_cases g2 : (32 : Int32) < t1_0 i
      · rw [if_pos g2]
        have := q_ltI g2
        exact ⟨i, _, ⟨h2, h3, h5, Or.inr (by omega)⟩, h0, rfl⟩
      · rw [if_neg g2]
        have := q_nltI g2
        refine ih _ (i + 1) ?_ (by omega) (by omega) (by omega) (fun j a b => ?_)
        · rw [q_addI (y := 1) h0 rfl (by omega) (by omega)]
          omega
        · by_cases c : j = i
          · rw [c]
            omega
          · exact h5 j a (by omega)
theorem V_TR_blanks {t0_0 : Int32} {t0_1 : Int32} {t0_2 : Int32} {t0_3 : Int32} {t0_4 : Int32} {t0_5 : Int32} {t0_6 : Int32} {t0_7 : Int64} {t0_8 : Int32} {t0_9 : Int32} {t0_10 : Int64} {t0_11 : Int64} {t0_12 : Int32} {t0_13 : Int32} {t1_0 : (Nat → Int32)} {L s : Nat} {B : Nat → Int} (hT : yTr t1_0 L B) (h1 : t0_1.toInt = (L : Int)) (hL : L ≤ 4100) (h3 : t0_3.toInt = (s : Int)) (hs : s ≤ L) : ∃ (p : Nat) (q : Int32), yBl B L s p ∧ q.toInt = (p : Int) ∧ (F_TR_blanks t0_0 t0_1 t0_2 t0_3 t0_4 t0_5 t0_6 t0_7 t0_8 t0_9 t0_10 t0_11 t0_12 t0_13 t1_0) = (t0_0, t0_1, t0_2, q, t0_4, t0_5, t0_6, t0_7, t0_8, t0_9, t0_10, t0_11, t0_12, t0_13) := by
  unfold F_TR_blanks
  exact V_blL hT h1 hL _ t0_3 s h3 (Nat.le_refl _) hs (by omega) (fun j a b => by omega)
