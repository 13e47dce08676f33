/-! values, for whole: texts of decimals: what they say; the reference's says -/
theorem yDr_ex {B : Nat → Int} {n : Nat} : ∀ (d s : Nat), n - s = d → s ≤ n → ∃ p, yDr B n s p
  | 0, s, h, hs => ⟨s, Nat.le_refl _, hs, fun i a b => by omega, Or.inl (by omega)⟩
  | d + 1, s, h, hs => by
    by_cases c : 48 ≤ B s ∧ B s ≤ 57
    · obtain ⟨p, p1, p2, p3, p4⟩ := yDr_ex (B := B) (n := n) d (s + 1) (by omega) (by omega)
      refine ⟨p, by omega, p2, fun i a b => ?_, p4⟩
      by_cases e : i = s
      · rw [e]
        exact c
      · exact p3 i (by omega) b
    · exact ⟨s, Nat.le_refl _, hs, fun i a b => by omega, Or.inr c⟩
/-- what a decimal's text says: how many figures, which, and the scale -/
def yDc (B : Nat → Int) (L : Nat) (z : Option (Nat × (Nat → Int) × Int)) : Prop := ∃ (p M : Nat) (o : Option Nat) (f : Nat → Int), yRn B 10 (yS1 B L 0) p M o f ∧ ySp B 10 L p o ∧ ((M = 0 ∧ z = none) ∨ (0 < M ∧ ¬ yAt B L p 101 69 ∧ ((p = L ∧ z = some (M, f, (M : Int) - ((o.getD M : Nat) : Int))) ∨ (p ≠ L ∧ z = none))) ∨ (0 < M ∧ yAt B L p 101 69 ∧ ∃ q, yDr B L (yS1 B L (p + 1)) q ∧ ((¬ (yS1 B L (p + 1) < q ∧ q - yS1 B L (p + 1) ≤ 10 ∧ q = L) ∧ z = none) ∨ ((yS1 B L (p + 1) < q ∧ q - yS1 B L (p + 1) ≤ 10 ∧ q = L) ∧ ∃ x : Int, z = some (M, f, x) ∧ ((yNg B L (p + 1) ∧ x = (M : Int) - ((o.getD M : Nat) : Int) + ((yDx B (yS1 B L (p + 1)) (q - yS1 B L (p + 1)) : Nat) : Int)) ∨ (¬ yNg B L (p + 1) ∧ x = (M : Int) - ((o.getD M : Nat) : Int) - ((yDx B (yS1 B L (p + 1)) (q - yS1 B L (p + 1)) : Nat) : Int)))))))
theorem yDc_U {B : Nat → Int} {L : Nat} {z z' : Option (Nat × (Nat → Int) × Int)} (h : yDc B L z) (g : yDc B L z') : (z = none ∧ z' = none) ∨ ∃ M f f' x, z = some (M, f, x) ∧ z' = some (M, f', x) ∧ ∀ j, j < M → f j = f' j := by
  obtain ⟨p, M, o, f, h1, h2, h3⟩ := h
  obtain ⟨p', M', o', f', g1, g2, g3⟩ := g
  obtain ⟨rfl, rfl, rfl, u⟩ := yRn_U (by decide) h1 h2 g1 g2
  rcases h3 with ⟨h3, h4⟩ | ⟨h3, h4, h5⟩ | ⟨h3, h4, q, h5, h6⟩
  · rcases g3 with ⟨g3, g4⟩ | ⟨g3, g4, g5⟩ | ⟨g3, g4, q', g5, g6⟩
    · exact Or.inl ⟨h4, g4⟩
    · omega
    · omega
  · rcases g3 with ⟨g3, g4⟩ | ⟨g3, g4, g5⟩ | ⟨g3, g4, q', g5, g6⟩
    · omega
    · rcases h5 with ⟨a, b⟩ | ⟨a, b⟩ <;> rcases g5 with ⟨c, d⟩ | ⟨c, d⟩
      · exact Or.inr ⟨M, f, f', _, b, d, u⟩
      · exact absurd a c
      · exact absurd c a
      · exact Or.inl ⟨b, d⟩
    · exact absurd g4 h4
  · rcases g3 with ⟨g3, g4⟩ | ⟨g3, g4, g5⟩ | ⟨g3, g4, q', g5, g6⟩
    · omega
    · exact absurd h4 g4
    · have := yDr_U h5 g5
      subst this
      rcases h6 with ⟨a, b⟩ | ⟨a, x, b, b2⟩ <;> rcases g6 with ⟨c, d⟩ | ⟨c, x', d, d2⟩
      · exact Or.inl ⟨b, d⟩
      · exact absurd c a
      · exact absurd a c
      · refine Or.inr ⟨M, f, f', x, b, ?_, u⟩
        rw [d]
        rcases b2 with ⟨n1, e1⟩ | ⟨n1, e1⟩ <;> rcases d2 with ⟨n2, e2⟩ | ⟨n2, e2⟩
        · rw [e1, e2]
        · exact absurd n1 n2
        · exact absurd n2 n1
        · rw [e1, e2]
theorem V_DR_at {x2 t0_0 t0_1 t0_2 : Int32} {t0_3 : Int64} {t0_4 t0_5 t0_6 t0_7 t0_8 t0_9 t0_10 : Int32} {t1_0 : Nat → Int32} {L p : Nat} {B : Nat → Int} (hT : yTr t1_0 L B) (h1 : t0_1.toInt = (L : Int)) (h2 : x2.toInt = (p : Int)) : (F_DR_at x2 t0_0 t0_1 t0_2 t0_3 t0_4 t0_5 t0_6 t0_7 t0_8 t0_9 t0_10 t1_0).toInt = if p < L then B p else 0 := by
  unfold F_DR_at
  have ec := q_clI h2 (by omega)
  by_cases c : t0_1 ≤ x2
  · rw [if_pos c]
    have := q_leI c
    rw [if_neg (by omega)]
    rfl
  · rw [if_neg c]
    have := q_nleI c
    rw [if_pos (by omega), show x2.toNatClampNeg = p by omega]
    exact hT p (by omega)
theorem y_isD2 {c : Int32} : (F_DR_isDigit c = 0 ∧ ¬ (48 ≤ c.toInt ∧ c.toInt ≤ 57)) ∨ (F_DR_isDigit c = 1 ∧ (48 ≤ c.toInt ∧ c.toInt ≤ 57)) := by
  have e48 : (48 : Int32).toInt = 48 := rfl
  have e57 : (57 : Int32).toInt = 57 := rfl
  unfold F_DR_isDigit
  by_cases c1 : c < 48
  · rw [if_pos c1]
    have := q_ltI c1
    exact Or.inl ⟨rfl, by omega⟩
  · rw [if_neg c1]
    have := q_nltI c1
    by_cases c2 : (57 : Int32) < c
    · rw [if_pos c2]
      have := q_ltI c2
      exact Or.inl ⟨rfl, by omega⟩
    · rw [if_neg c2]
      have := q_nltI c2
      exact Or.inr ⟨rfl, by omega⟩
/-- a character's answer -/
theorem y_ch0 {c : Int32} {p L : Nat} {B : Nat → Int} (hh : c.toInt = if p < L then B p else 0) {x : Int32} {v : Int} (h1 : x.toInt = v) (h2 : 0 < v) : c = x ↔ p < L ∧ B p = v := by
  constructor
  · intro k
    rw [k, h1] at hh
    by_cases d : p < L
    · rw [if_pos d] at hh
      exact ⟨d, hh.symm⟩
    · rw [if_neg d] at hh
      omega
  · intro k
    rw [if_pos k.1, k.2] at hh
    exact Int32.toInt_inj.mp (by rw [hh, h1])
theorem yDx_lt {B : Nat → Int} {s k : Nat} (h : ∀ i, s ≤ i → i < s + k → 48 ≤ B i ∧ B i ≤ 57) : yDx B s k < 10 ^ k := by
  refine yuB_lt (by decide) (fun j hj => ?_)
  have := h (s + j) (by omega) (by omega)
  omega
/-- what says leaves -/
def QV_dc (B : Nat → Int) (L : Nat) (a0 a1 bl a6 a7 a8 a9 a10 : Int32) (y : Int32 × Int32 × Int32 × Int32 × Int64 × Int32 × Int32 × Int32 × Int32 × Int32 × Int32 × Int32 × (Nat → Int32)) : Prop := ∃ (c sz : Int32) (sc : Int64) (row : Nat → Int32) (z : Option (Nat × (Nat → Int) × Int)), y = (c, a0, a1, sz, sc, 0, bl, a6, a7, a8, a9, a10, row) ∧ yDc B L z ∧ ((c = 0 ∧ z = none) ∨ (c = 1 ∧ ∃ (M : Nat) (f : Nat → Int) (x : Int), z = some (M, f, x) ∧ sz.toInt = (M : Int) ∧ M ≤ L ∧ sc.toInt = x ∧ (∀ j, j < M → 0 ≤ f j ∧ f j < 10) ∧ ∀ j, j < M → (row j).toInt = f j))
