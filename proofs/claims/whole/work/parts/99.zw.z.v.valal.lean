/-! values, for whole: texts: what a float's text says -/
def yAt (B : Nat → Int) (L p : Nat) (a b : Int) : Prop := p < L ∧ (B p = a ∨ B p = b)
/-- behind d D f F, if one is there -/
def yEn (B : Nat → Int) (L p : Nat) : Nat := if p < L ∧ (B p = 100 ∨ B p = 68 ∨ B p = 102 ∨ B p = 70) then p + 1 else p
def yHx (B : Nat → Int) (L s : Nat) : Prop := s + 1 < L ∧ B s = 48 ∧ (B (s + 1) = 120 ∨ B (s + 1) = 88)
def yPw (B : Nat → Int) (cap L s : Nat) (o : Option (Nat × Int)) : Prop := ∃ p, yDr B L (yS1 B L s) p ∧ ((p = yS1 B L s ∧ o = none) ∨ (yS1 B L s < p ∧ ∃ (v : Nat) (e : Int), yCp cap (yDx B (yS1 B L s) (p - yS1 B L s)) v ∧ v ≤ 10 * cap ∧ o = some (p, e) ∧ ((yNg B L s ∧ e = -(v : Int)) ∨ (¬ yNg B L s ∧ e = (v : Int)))))
/-- the number from place s on: kind, end, how many figures, the point's place, the figures, the power -/
def yNr (B : Nat → Int) (cap L s : Nat) (r : Option (Int32 × Nat × Nat × Nat × (Nat → Int) × Int)) : Prop := (yHx B L s ∧ ∃ (p M : Nat) (o : Option Nat) (f : Nat → Int), yRn B 16 (s + 2) p M o f ∧ ySp B 16 L p o ∧ (((M = 0 ∨ ¬ yAt B L p 112 80) ∧ r = none) ∨ (0 < M ∧ yAt B L p 112 80 ∧ ∃ w, yPw B cap L (p + 1) w ∧ r = w.map (fun q => (1, yEn B L q.1, M, o.getD M, f, q.2))))) ∨ (¬ yHx B L s ∧ ∃ (p M : Nat) (o : Option Nat) (f : Nat → Int), yRn B 10 s p M o f ∧ ySp B 10 L p o ∧ ((M = 0 ∧ r = none) ∨ (0 < M ∧ ¬ yAt B L p 101 69 ∧ r = some (0, yEn B L p, M, o.getD M, f, 0)) ∨ (0 < M ∧ yAt B L p 101 69 ∧ ∃ w, yPw B cap L (p + 1) w ∧ r = w.map (fun q => (0, yEn B L q.1, M, o.getD M, f, q.2)))))
theorem V_TR_isAt {x2 x3 t0_0 t0_1 t0_2 t0_3 t0_4 t0_5 t0_6 : Int32} {t0_7 : Int64} {t0_8 t0_9 : Int32} {t0_10 t0_11 : Int64} {t0_12 t0_13 : Int32} {t1_0 : Nat → Int32} {L p : Nat} {B : Nat → Int} {a b : Int} (hT : yTr t1_0 L B) (h1 : t0_1.toInt = (L : Int)) (h3 : t0_3.toInt = (p : Int)) (h2 : x2.toInt = a) (h4 : x3.toInt = b) (ha : a ≠ 0) (hb : b ≠ 0) : (F_TR_isAt x2 x3 t0_0 t0_1 t0_2 t0_3 t0_4 t0_5 t0_6 t0_7 t0_8 t0_9 t0_10 t0_11 t0_12 t0_13 t1_0 = 0 ∧ ¬ yAt B L p a b) ∨ (F_TR_isAt x2 x3 t0_0 t0_1 t0_2 t0_3 t0_4 t0_5 t0_6 t0_7 t0_8 t0_9 t0_10 t0_11 t0_12 t0_13 t1_0 = 1 ∧ yAt B L p a b) := by
  have hh := V_TR_here (t0_0 := t0_0) (t0_1 := t0_1) (t0_2 := t0_2) (t0_3 := t0_3) (t0_4 := t0_4) (t0_5 := t0_5) (t0_6 := t0_6) (t0_7 := t0_7) (t0_8 := t0_8) (t0_9 := t0_9) (t0_10 := t0_10) (t0_11 := t0_11) (t0_12 := t0_12) (t0_13 := t0_13) hT h1 h3
  unfold F_TR_isAt
  generalize F_TR_here t0_0 t0_1 t0_2 t0_3 t0_4 t0_5 t0_6 t0_7 t0_8 t0_9 t0_10 t0_11 t0_12 t0_13 t1_0 = c at hh ⊢
  by_cases c1 : c = x2
  · rw [if_pos c1]
    rw [c1, h2] at hh
    refine Or.inr ⟨rfl, ?_⟩
    by_cases d : p < L
    · rw [if_pos d] at hh
      exact ⟨d, Or.inl hh.symm⟩
    · rw [if_neg d] at hh
      exact absurd hh ha
  · rw [if_neg c1]
    by_cases c2 : c = x3
    · rw [if_pos c2]
      rw [c2, h4] at hh
      refine Or.inr ⟨rfl, ?_⟩
      by_cases d : p < L
      · rw [if_pos d] at hh
        exact ⟨d, Or.inr hh.symm⟩
      · rw [if_neg d] at hh
        exact absurd hh hb
    · rw [if_neg c2]
      refine Or.inl ⟨rfl, fun h => ?_⟩
      rw [if_pos h.1] at hh
      rcases h.2 with e | e
      · exact c1 (Int32.toInt_inj.mp (by rw [hh, e, h2]))
      · exact c2 (Int32.toInt_inj.mp (by rw [hh, e, h4]))
/-- what number leaves -/
def QV_nu (B : Nat → Int) (L s : Nat) (a0 a1 a4 : Int32) (y : Int32 × Int32 × Int32 × Int32 × Int32 × Int32 × Int32 × Int32 × Int64 × Int32 × Int32 × Int64 × Int64 × Int32 × Int32 × (Nat → Int32)) : Prop := y.2.1 = a0 ∧ y.2.2.1 = a1 ∧ y.2.2.2.2.2.1 = a4 ∧ ∃ r, yNr B 1000000000 L s r ∧ ((y.1 = 0 ∧ r = none) ∨ (y.1 = 1 ∧ ∃ (k : Int32) (p M pt : Nat) (f : Nat → Int) (e : Int), r = some (k, p, M, pt, f, e) ∧ p ≤ L ∧ M ≤ L ∧ pt ≤ M ∧ y.2.2.2.1 = k ∧ y.2.2.2.2.1.toInt = (p : Int) ∧ y.2.2.2.2.2.2.1.toInt = (M : Int) ∧ y.2.2.2.2.2.2.2.1.toInt = (pt : Int) ∧ y.2.2.2.2.2.2.2.2.1.toInt = e ∧ (-10000000000 ≤ e ∧ e ≤ 10000000000) ∧ ∀ j, j < M → (y.2.2.2.2.2.2.2.2.2.2.2.2.2.2.2 j).toInt = f j))
theorem yEn_le {B : Nat → Int} {L p : Nat} (h : p ≤ L) : p ≤ yEn B L p ∧ yEn B L p ≤ L := by
  unfold yEn
  split <;> omega
theorem yRn_k {B : Nat → Int} {b : Int} {s p M : Nat} {o : Option Nat} {f : Nat → Int} (h : yRn B b s p M o f) : o.getD M ≤ M := by
  cases o with
  | none => exact Nat.le_refl _
  | some k => exact h.2.1
theorem V_nu159 {t0_0 : Int32} {t0_1 : Int32} {t0_2 : Int32} {t0_3 : Int32} {t0_4 : Int32} {t0_5 : Int32} {t0_6 : Int32} {t0_7 : Int64} {t0_8 : Int32} {t0_9 : Int32} {t0_10 : Int64} {t0_11 : Int64} {t0_12 : Int32} {t0_13 : Int32} {t1_0 : (Nat → Int32)} {t2_0 : (Nat → Int32)} {lx33 : Int32} {lx34 : Int32} {lx35 : Int32} {lx36 : Int32} {lx37 : Int32} {lx38 : Int32} {lx39 : Int32} {lx40 : Int64} {lx41 : Int32} {lx42 : Int32} {lx43 : Int64} {lx44 : Int64} {lx45 : Int32} {lx46 : Int32} {lx47 : (Nat → Int32)} {L p M pt s : Nat} {B : Nat → Int} {f : Nat → Int} {e : Int} {k a0 a4 : Int32} (hT : yTr t1_0 L B) (h1 : lx34.toInt = (L : Int)) (hL : L ≤ 4100) (hr : yNr B 1000000000 L s (some (k, yEn B L p, M, pt, f, e))) (hp : p ≤ L) (hM : M ≤ L) (hpt : pt ≤ M) (hk : lx35 = k) (h36 : lx36.toInt = (p : Int)) (h38 : lx38.toInt = (M : Int)) (h39 : lx39.toInt = (pt : Int)) (h40 : lx40.toInt = e) (he : -10000000000 ≤ e ∧ e ≤ 10000000000) (hrow : ∀ j, j < M → (lx47 j).toInt = f j) (h33 : lx33 = a0) (h37 : lx37 = a4) : QV_nu B L s a0 lx34 a4 (F_TR_number_J159 t0_0 t0_1 t0_2 t0_3 t0_4 t0_5 t0_6 t0_7 t0_8 t0_9 t0_10 t0_11 t0_12 t0_13 t1_0 t2_0 lx33 lx34 lx35 lx36 lx37 lx38 lx39 lx40 lx41 lx42 lx43 lx44 lx45 lx46 lx47) := by
  have pe := yEn_le (B := B) hp
  have ea : p < L → (lx36 + 1 : Int32).toInt = ((p + 1 : Nat) : Int) := fun h => by
    rw [q_addI (y := 1) h36 rfl (by omega) (by omega)]
    omega
  unfold F_TR_number_J159
  rcases V_TR_isAt (x2 := 100) (x3 := 68) (t0_0 := lx33) (t0_1 := lx34) (t0_2 := lx35) (t0_3 := lx36) (t0_4 := lx37) (t0_5 := lx38) (t0_6 := lx39) (t0_7 := lx40) (t0_8 := lx41) (t0_9 := lx42) (t0_10 := lx43) (t0_11 := lx44) (t0_12 := lx45) (t0_13 := lx46) hT h1 h36 (show (100 : Int32).toInt = 100 from rfl) (show (68 : Int32).toInt = 68 from rfl) (by decide) (by decide) with ⟨c1, c2⟩ | ⟨c1, c2⟩
  · rw [c1, if_pos rfl]
    rcases V_TR_isAt (x2 := 102) (x3 := 70) (t0_0 := lx33) (t0_1 := lx34) (t0_2 := lx35) (t0_3 := lx36) (t0_4 := lx37) (t0_5 := lx38) (t0_6 := lx39) (t0_7 := lx40) (t0_8 := lx41) (t0_9 := lx42) (t0_10 := lx43) (t0_11 := lx44) (t0_12 := lx45) (t0_13 := lx46) hT h1 h36 (show (102 : Int32).toInt = 102 from rfl) (show (70 : Int32).toInt = 70 from rfl) (by decide) (by decide) with ⟨d1, d2⟩ | ⟨d1, d2⟩
    · rw [d1, if_pos rfl]
      have en : yEn B L p = p := by
        unfold yEn
        rw [if_neg (fun h => by
          rcases h.2 with a | a | a | a
          · exact c2 ⟨h.1, Or.inl a⟩
          · exact c2 ⟨h.1, Or.inr a⟩
          · exact d2 ⟨h.1, Or.inl a⟩
          · exact d2 ⟨h.1, Or.inr a⟩)]
      exact ⟨h33, rfl, h37, _, hr, Or.inr ⟨rfl, k, _, M, pt, f, e, rfl, pe.2, hM, hpt, hk, by rw [en]; exact h36, h38, h39, h40, he, hrow⟩⟩
    · rw [d1, if_neg (show ¬ (1 : Int32) = 0 by decide)]
      have en : yEn B L p = p + 1 := by
        unfold yEn
        rw [if_pos ⟨d2.1, Or.inr (Or.inr d2.2)⟩]
      exact ⟨h33, rfl, h37, _, hr, Or.inr ⟨rfl, k, _, M, pt, f, e, rfl, pe.2, hM, hpt, hk, by rw [en]; exact ea d2.1, h38, h39, h40, he, hrow⟩⟩
  · rw [c1, if_neg (show ¬ (1 : Int32) = 0 by decide)]
    have en : yEn B L p = p + 1 := by
      unfold yEn
      rw [if_pos ⟨c2.1, c2.2.elim (fun h => Or.inl h) (fun h => Or.inr (Or.inl h))⟩]
    exact ⟨h33, rfl, h37, _, hr, Or.inr ⟨rfl, k, _, M, pt, f, e, rfl, pe.2, hM, hpt, hk, by rw [en]; exact ea c2.1, h38, h39, h40, he, hrow⟩⟩
/-- QV_pw as yPw -/
theorem QV_pw.o {B : Nat → Int} {cap L s : Nat} {c place : Int32} {ex : Int64} (h : QV_pw B cap L s c place ex) : (c = 0 ∧ yPw B cap L s none) ∨ (c = 1 ∧ ∃ (p : Nat), place.toInt = (p : Int) ∧ p ≤ L ∧ (-(10 * (cap : Int)) ≤ ex.toInt ∧ ex.toInt ≤ 10 * (cap : Int)) ∧ yPw B cap L s (some (p, ex.toInt))) := by
  obtain ⟨p, h1, h2⟩ := h
  rcases h2 with ⟨a, b⟩ | ⟨a, b, c, v, d, e, f⟩
  · exact Or.inl ⟨a, p, h1, Or.inl ⟨b, rfl⟩⟩
  · refine Or.inr ⟨a, p, c, h1.2.1, by omega, p, h1, Or.inr ⟨b, v, ex.toInt, d, e, rfl, f⟩⟩
