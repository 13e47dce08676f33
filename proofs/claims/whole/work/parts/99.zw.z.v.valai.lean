/-! values, for whole: texts: what figures with a point are -/
/-- the figure that a byte is, 99 for none -/
def yDv (c : Int) : Int := if 48 ≤ c ∧ c ≤ 57 then c - 48 else if 97 ≤ c ∧ c ≤ 122 then c - 87 else if 65 ≤ c ∧ c ≤ 90 then c - 55 else 99
theorem yDv_46 : yDv 46 = 99 := by decide
theorem yDv_nn {c : Int} : 0 ≤ yDv c ∧ yDv c ≤ 99 := by
  unfold yDv
  split
  · omega
  · split
    · omega
    · split <;> omega
theorem yDv_10 {c : Int} : yDv c < 10 ↔ (48 ≤ c ∧ c ≤ 57) := by
  unfold yDv
  split
  · omega
  · split
    · omega
    · split <;> omega
theorem yDv_v {c : Int} (h : 48 ≤ c ∧ c ≤ 57) : yDv c = c - 48 := if_pos h
/-- M figures f from place s to place p, with a point behind k of them, or none -/
def yRn (B : Nat → Int) (b : Int) (s p M : Nat) (o : Option Nat) (f : Nat → Int) : Prop := match o with
  | none => p = s + M ∧ ∀ j, j < M → yDv (B (s + j)) = f j ∧ f j < b
  | some k => p = s + M + 1 ∧ k ≤ M ∧ B (s + k) = 46 ∧ (∀ j, j < k → yDv (B (s + j)) = f j ∧ f j < b) ∧ ∀ j, k ≤ j → j < M → yDv (B (s + j + 1)) = f j ∧ f j < b
/-- there they end -/
def ySp (B : Nat → Int) (b : Int) (n p : Nat) (o : Option Nat) : Prop := p ≤ n ∧ (p = n ∨ (b ≤ yDv (B p) ∧ (B p = 46 → o ≠ none)))
theorem yRn_0 {B : Nat → Int} {b : Int} {s : Nat} {f : Nat → Int} : yRn B b s s 0 none f := ⟨rfl, fun j hj => by omega⟩
theorem yRn_d {B : Nat → Int} {b : Int} {s p M : Nat} {o : Option Nat} {f g : Nat → Int} {d : Int} (h : yRn B b s p M o f) (hd : yDv (B p) = d) (hb : d < b) (hg : ∀ j, j < M → g j = f j) (hM : g M = d) : yRn B b s (p + 1) (M + 1) o g := by
  cases o with
  | none =>
    obtain ⟨h1, h2⟩ := h
    refine ⟨by omega, fun j hj => ?_⟩
    by_cases c : j = M
    · rw [c, hM, ← h1, hd]
      exact ⟨rfl, hb⟩
    · rw [hg j (by omega)]
      exact h2 j (by omega)
  | some k =>
    obtain ⟨h1, h2, h3, h4, h5⟩ := h
    refine ⟨by omega, by omega, h3, fun j hj => ?_, fun j j1 j2 => ?_⟩
    · rw [hg j (by omega)]
      exact h4 j hj
    · by_cases c : j = M
      · rw [c, hM, show s + M + 1 = p by omega, hd]
        exact ⟨rfl, hb⟩
      · rw [hg j (by omega)]
        exact h5 j j1 (by omega)
theorem yRn_p {B : Nat → Int} {b : Int} {s p M : Nat} {f : Nat → Int} (h : yRn B b s p M none f) (hd : B p = 46) : yRn B b s (p + 1) M (some M) f := by
  obtain ⟨h1, h2⟩ := h
  exact ⟨by omega, Nat.le_refl _, by rw [← h1]; exact hd, h2, fun j j1 j2 => by omega⟩
theorem yRn_le {B : Nat → Int} {b : Int} {s p M : Nat} {o : Option Nat} {f : Nat → Int} (h : yRn B b s p M o f) : s ≤ p ∧ M ≤ p - s := by
  cases o with
  | none =>
    obtain ⟨h1, _⟩ := h
    omega
  | some k =>
    obtain ⟨h1, _⟩ := h
    omega
/-- what stands at a place within -/
theorem yRn_at {B : Nat → Int} {b : Int} {s p M i : Nat} {o : Option Nat} {f : Nat → Int} (h : yRn B b s p M o f) (h1 : s ≤ i) (h2 : i < p) : (yDv (B i) < b ∧ o ≠ some (i - s)) ∨ (B i = 46 ∧ o = some (i - s)) := by
  cases o with
  | none =>
    obtain ⟨a1, a2⟩ := h
    have := a2 (i - s) (by omega)
    rw [show s + (i - s) = i by omega] at this
    exact Or.inl ⟨by omega, by simp⟩
  | some k =>
    obtain ⟨a1, a2, a3, a4, a5⟩ := h
    rcases Nat.lt_trichotomy (i - s) k with c | c | c
    · have := a4 (i - s) c
      rw [show s + (i - s) = i by omega] at this
      exact Or.inl ⟨by omega, fun e => by
        cases e
        omega⟩
    · refine Or.inr ⟨?_, by rw [c]⟩
      rw [← c, show s + (i - s) = i by omega] at a3
      exact a3
    · have := a5 (i - s - 1) (by omega) (by omega)
      rw [show s + (i - s - 1) + 1 = i by omega] at this
      exact Or.inl ⟨by omega, fun e => by
        cases e
        omega⟩
theorem yRn_o {B : Nat → Int} {b : Int} {s p M k : Nat} {f : Nat → Int} (h : yRn B b s p M (some k) f) : s + k < p ∧ B (s + k) = 46 := by
  obtain ⟨a1, a2, a3, _⟩ := h
  exact ⟨by omega, a3⟩
/-- they are told by the text alone -/
theorem yRn_U {B : Nat → Int} {b : Int} {n s p M p' M' : Nat} {o o' : Option Nat} {f f' : Nat → Int} (hb : b ≤ 99) (h : yRn B b s p M o f) (hs : ySp B b n p o) (g : yRn B b s p' M' o' f') (gs : ySp B b n p' o') : p = p' ∧ M = M' ∧ o = o' ∧ ∀ j, j < M → f j = f' j := by
  have key : ∀ {p M p' M' : Nat} {o o' : Option Nat} {f f' : Nat → Int}, yRn B b s p M o f → ySp B b n p o → yRn B b s p' M' o' f' → ySp B b n p' o' → p' ≤ p := fun {p M p' M' o o' f f'} h hs g gs => by
    rcases Nat.lt_or_ge p p' with c | c
    · exfalso
      obtain ⟨s1, s2⟩ := hs
      have pn : p < n := Nat.lt_of_lt_of_le c gs.1
      obtain ⟨s3, s4⟩ := s2.resolve_left (by omega)
      have sp := (yRn_le h).1
      rcases yRn_at g sp c with ⟨c1, _⟩ | ⟨c1, c2⟩
      · omega
      · have on := s4 c1
        cases o with
        | none => exact on rfl
        | some k =>
          obtain ⟨k1, k2⟩ := yRn_o h
          rcases yRn_at g (show s ≤ s + k by omega) (show s + k < p' by omega) with ⟨d1, _⟩ | ⟨_, d2⟩
          · rw [k2, yDv_46] at d1
            omega
          · rw [c2] at d2
            have := Option.some.inj d2
            omega
    · exact c
  have pe : p = p' := Nat.le_antisymm (key g gs h hs) (key h hs g gs)
  subst pe
  have oe : o = o' := by
    cases o with
    | none =>
      cases o' with
      | none => rfl
      | some k =>
        obtain ⟨k1, k2⟩ := yRn_o g
        rcases yRn_at h (show s ≤ s + k by omega) k1 with ⟨d1, _⟩ | ⟨_, d2⟩
        · rw [k2, yDv_46] at d1
          omega
        · cases d2
    | some k =>
      obtain ⟨k1, k2⟩ := yRn_o h
      rcases yRn_at g (show s ≤ s + k by omega) k1 with ⟨d1, _⟩ | ⟨_, d2⟩
      · rw [k2, yDv_46] at d1
        omega
      · rw [d2, show s + k - s = k by omega]
  subst oe
  cases o with
  | none =>
    obtain ⟨a1, a2⟩ := h
    obtain ⟨b1, b2⟩ := g
    exact ⟨rfl, by omega, rfl, fun j hj => by rw [← (a2 j hj).1, ← (b2 j (by omega)).1]⟩
  | some k =>
    obtain ⟨a1, a2, a3, a4, a5⟩ := h
    obtain ⟨b1, b2, b3, b4, b5⟩ := g
    refine ⟨rfl, by omega, rfl, fun j hj => ?_⟩
    rcases Nat.lt_or_ge j k with c | c
    · rw [← (a4 j c).1, ← (b4 j c).1]
    · rw [← (a5 j c hj).1, ← (b5 j c (by omega)).1]
/-- the number that figures to a base say -/
def yuB (b : Nat) (f : Nat → Int) : Nat → Nat
  | 0 => 0
  | n + 1 => yuB b f n * b + (f n).toNat
theorem yuB_c {b : Nat} {f g : Nat → Int} : ∀ {n : Nat}, (∀ j, j < n → f j = g j) → yuB b f n = yuB b g n
  | 0, _ => rfl
  | n + 1, h => by
    show yuB b f n * b + (f n).toNat = yuB b g n * b + (g n).toNat
    rw [yuB_c (fun j hj => h j (by omega)), h n (by omega)]
/-- a run of figures to the base 10 without a point: a power -/
def yDr (B : Nat → Int) (n s p : Nat) : Prop := s ≤ p ∧ p ≤ n ∧ (∀ i, s ≤ i → i < p → 48 ≤ B i ∧ B i ≤ 57) ∧ (p = n ∨ ¬ (48 ≤ B p ∧ B p ≤ 57))
theorem yDr_U {B : Nat → Int} {n s p q : Nat} (h : yDr B n s p) (g : yDr B n s q) : p = q := by
  have key : ∀ {p q : Nat}, yDr B n s p → yDr B n s q → p ≤ q := fun {p q} h g => by
    rcases Nat.lt_or_ge q p with c | c
    · exfalso
      obtain ⟨h1, h2, h3, h4⟩ := h
      obtain ⟨g1, g2, g3, g4⟩ := g
      exact (g4.resolve_left (by omega)) (h3 q g1 c)
    · exact c
  exact Nat.le_antisymm (key h g) (key g h)
def yDx (B : Nat → Int) (s m : Nat) : Nat := yuB 10 (fun j => B (s + j) - 48) m
