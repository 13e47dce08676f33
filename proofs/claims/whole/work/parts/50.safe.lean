/-! states that calls can reach: what may stand at each place -/
abbrev q_Ok : Type := va_E → Prop
/-- every place of the shape holds what it may, at its own address -/
def q_I (sh : List q_Ok) (q : Nat → Nat) (ws : va_W) : Prop := ∀ (k : Nat) (P : q_Ok), sh[k]? = some P → ∃ E, ws[k]? = some (q k, E) ∧ P E
theorem q_Iset {sh : List q_Ok} {q : Nat → Nat} {ws u : va_W} {k : Nat} {P : q_Ok} {E : va_E} (h : q_I sh q ws) (hu : ∀ i, i ≠ k → u[i]? = ws[i]?) (hk : sh[k]? = some P) (hx : u[k]? = some (q k, E)) (hP : P E) : q_I sh q u := fun j Pj hj => by
  by_cases e : j = k
  · subst e
    cases Option.some.inj (hk.symm.trans hj)
    exact ⟨E, hx, hP⟩
  · obtain ⟨E', h1, h2⟩ := h j Pj hj
    exact ⟨E', (hu j e).trans h1, h2⟩
/-- an int row whose elements lie between lo and hi -/
def k_ai (c : ClassId) (n : Nat) (lo hi : Int) : q_Ok := fun E => ∃ f : Nat → Int32, E = .inl (c, n, .inl f) ∧ ∀ i, lo ≤ (f i).toInt ∧ (f i).toInt ≤ hi
/-- a long row -/
def k_al (c : ClassId) (n : Nat) : q_Ok := fun E => ∃ f : Nat → Int64, E = .inl (c, n, .inr (.inl f))
/-- what never changes -/
def k_fix (E0 : va_E) : q_Ok := fun E => E = E0
/-- a Big at place k, its limbs at the place behind it -/
def k_Big (q : Nat → Nat) (k : Nat) (R : Int32) : q_Ok := fun E => ∃ y1 y2 : Int32, E = .inr (2, [.ref (q (k + 1)), .int y1, .int y2]) ∧ (0 ≤ y1.toInt ∧ y1.toInt ≤ R.toInt) ∧ (0 ≤ y2.toInt ∧ y2.toInt ≤ 1)
/-- a Sheet at place k, its row at the place behind it -/
def k_She (q : Nat → Nat) (k : Nat) (R : Int32) : q_Ok := fun E => ∃ y2 : Int32, E = .inr (1, [.ref (q (k + 1)), .int R, .int y2]) ∧ (0 ≤ y2.toInt ∧ y2.toInt ≤ R.toInt)
def q_isBig (sh : List q_Ok) (g : Nat → ClassId) (q : Nat → Nat) (k : Nat) (R : Int32) : Prop := sh[k]? = some (k_Big q k R) ∧ sh[k + 1]? = some (k_ai (g 0) R.toNatClampNeg (-2147483648) 2147483647) ∧ 0 ≤ R.toInt ∧ R.toInt ≤ 220
theorem q_bigO {sh : List q_Ok} {g : Nat → ClassId} {q : Nat → Nat} {ws : va_W} {k : Nat} {R : Int32} (h : q_I sh q ws) (b : q_isBig sh g q k R) : ∃ y1 y2 : Int32, ws[k]? = (some (q k, .inr (2, [.ref (q (k + 1)), .int y1, .int y2])) : Option (Nat × va_E)) ∧ (0 ≤ y1.toInt ∧ y1.toInt ≤ R.toInt) ∧ (0 ≤ y2.toInt ∧ y2.toInt ≤ 1) := by
  obtain ⟨E, h1, y1, y2, rfl, h2, h3⟩ := h k _ b.1
  exact ⟨y1, y2, h1, h2, h3⟩
theorem q_bigA {sh : List q_Ok} {g : Nat → ClassId} {q : Nat → Nat} {ws : va_W} {k : Nat} {R : Int32} (h : q_I sh q ws) (b : q_isBig sh g q k R) : ∃ f : Nat → Int32, ws[k + 1]? = (some (q (k + 1), .inl (g 0, R.toNatClampNeg, .inl f)) : Option (Nat × va_E)) ∧ ∀ i, -2147483648 ≤ (f i).toInt ∧ (f i).toInt ≤ 2147483647 := by
  obtain ⟨E, h1, f, rfl, h2⟩ := h (k + 1) _ b.2.1
  exact ⟨f, h1, h2⟩
theorem q_bigO' {sh : List q_Ok} {g : Nat → ClassId} {q : Nat → Nat} {ws u : va_W} {k : Nat} {R y1 y2 : Int32} (h : q_I sh q ws) (b : q_isBig sh g q k R) (hu : ∀ i, i ≠ k → u[i]? = ws[i]?) (hx : u[k]? = (some (q k, .inr (2, [.ref (q (k + 1)), .int y1, .int y2])) : Option (Nat × va_E))) (h1 : 0 ≤ y1.toInt ∧ y1.toInt ≤ R.toInt) (h2 : 0 ≤ y2.toInt ∧ y2.toInt ≤ 1) : q_I sh q u :=
  q_Iset h hu b.1 hx ⟨y1, y2, rfl, h1, h2⟩
theorem q_bigA' {sh : List q_Ok} {g : Nat → ClassId} {q : Nat → Nat} {ws u : va_W} {k : Nat} {R : Int32} {f : Nat → Int32} (h : q_I sh q ws) (b : q_isBig sh g q k R) (hu : ∀ i, i ≠ k + 1 → u[i]? = ws[i]?) (hx : u[k + 1]? = (some (q (k + 1), .inl (g 0, R.toNatClampNeg, .inl f)) : Option (Nat × va_E))) (hf : ∀ i, -2147483648 ≤ (f i).toInt ∧ (f i).toInt ≤ 2147483647) : q_I sh q u :=
  q_Iset h hu b.2.1 hx ⟨f, rfl, hf⟩
theorem q_updB {f : Nat → Int32} {i : Nat} {v : Int32} {lo hi : Int} (hf : ∀ i, lo ≤ (f i).toInt ∧ (f i).toInt ≤ hi) (hv : lo ≤ v.toInt ∧ v.toInt ≤ hi) : ∀ j, lo ≤ (upd f i v j).toInt ∧ (upd f i v j).toInt ≤ hi := fun j => by
  unfold upd
  split
  · exact hv
  · exact hf j
