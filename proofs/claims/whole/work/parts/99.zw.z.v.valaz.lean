/-! values, for whole: texts: blanks at the end change nothing -/
theorem yE_dv {c : Int} (h : c ≤ 32) : yDv c = 99 := by
  unfold yDv
  rw [if_neg (by omega), if_neg (by omega), if_neg (by omega)]
theorem yAt_e {B : Nat → Int} {L e p : Nat} {x y : Int} (he : e ≤ L) (hb : ∀ i, e ≤ i → i < L → B i ≤ 32) (hx : 32 < x) (hy : 32 < y) : yAt B e p x y ↔ yAt B L p x y := by
  unfold yAt
  constructor
  · intro h
    exact ⟨by omega, h.2⟩
  · intro h
    refine ⟨?_, h.2⟩
    rcases Nat.lt_or_ge p e with c | c
    · exact c
    · have := hb p c h.1
      omega
theorem yHx_e {B : Nat → Int} {L e s : Nat} (he : e ≤ L) (hb : ∀ i, e ≤ i → i < L → B i ≤ 32) : yHx B e s ↔ yHx B L s := by
  unfold yHx
  constructor
  · intro h
    exact ⟨by omega, h.2⟩
  · intro h
    refine ⟨?_, h.2⟩
    rcases Nat.lt_or_ge (s + 1) e with c | c
    · exact c
    · have := hb (s + 1) c h.1
      omega
theorem ySp_e {B : Nat → Int} {L e p : Nat} {b : Int} {o : Option Nat} (he : e ≤ L) (hb : ∀ i, e ≤ i → i < L → B i ≤ 32) (hb2 : b ≤ 99) (h : ySp B b e p o) : ySp B b L p o := by
  obtain ⟨h1, h2⟩ := h
  refine ⟨by omega, ?_⟩
  rcases Nat.lt_or_ge p L with c | c
  · right
    rcases h2 with h2 | h2
    · have := hb p (by omega) c
      rw [yE_dv this]
      exact ⟨hb2, fun h => by omega⟩
    · exact h2
  · exact Or.inl (by omega)
theorem yS1_e {B : Nat → Int} {L e s : Nat} (he : e ≤ L) (hb : ∀ i, e ≤ i → i < L → B i ≤ 32) : yS1 B e s = yS1 B L s := by
  unfold yS1
  by_cases c : s < e
  · by_cases d : B s = 45 ∨ B s = 43
    · rw [if_pos ⟨c, d⟩, if_pos ⟨by omega, d⟩]
    · rw [if_neg (fun h => d h.2), if_neg (fun h => d h.2)]
  · rw [if_neg (fun h => c h.1), if_neg (fun h => by have := hb s (by omega) h.1; omega)]
theorem yNg_e {B : Nat → Int} {L e s : Nat} (he : e ≤ L) (hb : ∀ i, e ≤ i → i < L → B i ≤ 32) : yNg B e s ↔ yNg B L s := by
  unfold yNg
  constructor
  · intro h
    exact ⟨by omega, h.2⟩
  · intro h
    refine ⟨?_, h.2⟩
    rcases Nat.lt_or_ge s e with c | c
    · exact c
    · have := hb s c h.1
      omega
theorem yEn_e {B : Nat → Int} {L e p : Nat} (he : e ≤ L) (hb : ∀ i, e ≤ i → i < L → B i ≤ 32) : yEn B e p = yEn B L p := by
  unfold yEn
  by_cases c : p < e
  · by_cases d : B p = 100 ∨ B p = 68 ∨ B p = 102 ∨ B p = 70
    · rw [if_pos ⟨c, d⟩, if_pos ⟨by omega, d⟩]
    · rw [if_neg (fun h => d h.2), if_neg (fun h => d h.2)]
  · rw [if_neg (fun h => c h.1), if_neg (fun h => by have := hb p (by omega) h.1; omega)]
theorem yDr_x {B : Nat → Int} {L e s p : Nat} (he : e ≤ L) (hb : ∀ i, e ≤ i → i < L → B i ≤ 32) (h : yDr B e s p) : yDr B L s p := by
  obtain ⟨h1, h2, h3, h4⟩ := h
  refine ⟨h1, by omega, h3, ?_⟩
  rcases Nat.lt_or_ge p L with c | c
  · right
    rcases h4 with h4 | h4
    · have := hb p (by omega) c
      omega
    · exact h4
  · exact Or.inl (by omega)
theorem yPw_e {B : Nat → Int} {cap L e s : Nat} {o : Option (Nat × Int)} (he : e ≤ L) (hb : ∀ i, e ≤ i → i < L → B i ≤ 32) (h : yPw B cap e s o) : yPw B cap L s o := by
  obtain ⟨p, h1, h2⟩ := h
  rw [yS1_e he hb] at h1 h2
  refine ⟨p, yDr_x he hb h1, ?_⟩
  rcases h2 with h2 | ⟨h2, v, x, h3, h4, h5, h6⟩
  · exact Or.inl h2
  · rw [yNg_e he hb] at h6
    exact Or.inr ⟨h2, v, x, h3, h4, h5, h6⟩
theorem yNr_e {B : Nat → Int} {cap L e s : Nat} {r : Option (Int32 × Nat × Nat × Nat × (Nat → Int) × Int)} (he : e ≤ L) (hb : ∀ i, e ≤ i → i < L → B i ≤ 32) (h : yNr B cap e s r) : yNr B cap L s r := by
  have en : (fun (M pt : Nat) (f : Nat → Int) (k : Int32) (q : Nat × Int) => (k, yEn B e q.1, M, pt, f, q.2)) = fun M pt f k q => (k, yEn B L q.1, M, pt, f, q.2) := by
    funext M pt f k q
    rw [yEn_e he hb]
  rcases h with ⟨h0, p, M, o, f, h1, h2, h3⟩ | ⟨h0, p, M, o, f, h1, h2, h3⟩
  · refine Or.inl ⟨(yHx_e he hb).mp h0, p, M, o, f, h1, ySp_e he hb (by decide) h2, ?_⟩
    rw [yAt_e he hb (by decide) (by decide)] at h3
    rcases h3 with h3 | ⟨h3, h4, w, h5, h6⟩
    · exact Or.inl h3
    · refine Or.inr ⟨h3, h4, w, yPw_e he hb h5, ?_⟩
      rw [h6]
      exact congrArg (fun g => Option.map (g M (o.getD M) f 1) w) en
  · refine Or.inr ⟨fun h => h0 ((yHx_e he hb).mpr h), p, M, o, f, h1, ySp_e he hb (by decide) h2, ?_⟩
    rw [yAt_e he hb (by decide) (by decide)] at h3
    rcases h3 with h3 | ⟨h3, h4, h5⟩ | ⟨h3, h4, w, h5, h6⟩
    · exact Or.inl h3
    · exact Or.inr (Or.inl ⟨h3, h4, by rw [h5, yEn_e he hb]⟩)
    · refine Or.inr (Or.inr ⟨h3, h4, w, yPw_e he hb h5, ?_⟩)
      rw [h6]
      exact congrArg (fun g => Option.map (g M (o.getD M) f 0) w) en
theorem yWo_e {B : Nat → Int} {L e : Nat} (he : e ≤ L) (hb : ∀ i, e ≤ i → i < L → B i ≤ 32) : ∀ {w : List Nat} {i : Nat}, (∀ c, c ∈ w → 32 < c) → (yWo B e i w ↔ yWo B L i w)
  | [], _, _ => Iff.rfl
  | c :: r, i, h => by
    have ih := yWo_e he hb (w := r) (i := i + 1) (fun d hd => h d (List.mem_cons_of_mem _ hd))
    have hc := h c List.mem_cons_self
    constructor
    · intro g
      exact ⟨by have := g.1; omega, g.2.1, ih.mp g.2.2⟩
    · intro g
      refine ⟨?_, g.2.1, ih.mpr g.2.2⟩
      have g1 := g.1
      have g2 := g.2.1
      rcases Nat.lt_or_ge i e with k | k
      · exact k
      · have := hb i k g1
        omega
theorem yEd_e {B : Nat → Int} {L a e p : Nat} (h : yTe B L a e) (hp : a ≤ p) (hpe : p ≤ e) : yEd B L p ↔ p = e := by
  obtain ⟨h1, h2, h3, h4⟩ := h
  constructor
  · intro g
    rcases Nat.lt_or_ge p e with c | c
    · rcases h4 with h4 | h4
      · omega
      · have := g (e - 1) (by omega) (by omega)
        omega
    · omega
  · intro g
    rw [g]
    exact h3
/-- the answer behind the blanks, taken up to the end without blanks -/
theorem yFl_e {B : Nat → Int} {cap L a e : Nat} (hc : 1000000000 ≤ cap) (ha : yBl B L 0 a) (ht : yTe B L a e) : (yS1 B e a + 3 = e → yWo B e (yS1 B e a) yNaN → yFl B cap L (some (yNz B e a, 3, 0, 0, fun _ => 0, 0))) ∧ (yS1 B e a + 8 = e → yWo B e (yS1 B e a) yInf → yFl B cap L (some (yNz B e a, 2, 0, 0, fun _ => 0, 0))) ∧ (¬ (yS1 B e a + 3 = e ∧ yWo B e (yS1 B e a) yNaN) → ¬ (yS1 B e a + 8 = e ∧ yWo B e (yS1 B e a) yInf) → (yNr B cap e (yS1 B e a) none → yFl B cap L none) ∧ (∀ k p M pt f x, yNr B cap e (yS1 B e a) (some (k, p, M, pt, f, x)) → yS1 B e a ≤ p → p ≤ e → (p = e → yFl B cap L (some (yNz B e a, k, M, pt, f, x))) ∧ (p ≠ e → yFl B cap L none))) := by
  have he := ht.2.1
  have hb := ht.2.2.1
  have sle := yS1_le (B := B) (L := e) ht.1
  have es := yS1_e (s := a) he hb
  have ez : yNz B e a = yNz B L a := by
    unfold yNz
    have := yNg_e (s := a) he hb
    unfold yNg at this
    by_cases c : a < L ∧ B a = 45
    · rw [if_pos c, if_pos (this.mpr c)]
    · rw [if_neg c, if_neg (fun h => c (this.mp h))]
  have wN := yWo_e he hb (w := yNaN) (i := yS1 B e a) (by decide)
  have wI := yWo_e he hb (w := yInf) (i := yS1 B e a) (by decide)
  have mk : ∀ {r z}, yCo B cap L (yS1 B e a) r → ((r = none ∧ z = none) ∨ ∃ k p M pt f e, r = some (k, p, M, pt, f, e) ∧ ((¬ yEd B L p ∧ z = none) ∨ (yEd B L p ∧ z = some (yNz B L a, k, M, pt, f, e)))) → yFl B cap L z := fun {r z} h1 h2 => ⟨a, r, ha, by rw [← es]; exact h1, h2⟩
  refine ⟨fun h1 h2 => ?_, fun h1 h2 => ?_, fun n1 n2 => ⟨fun h => ?_, fun k p M pt f x h hp hpe => ⟨fun h1 => ?_, fun h1 => ?_⟩⟩⟩
  · rw [ez]
    exact mk (Or.inl ⟨wN.mp h2, rfl⟩) (Or.inr ⟨_, _, _, _, _, _, rfl, Or.inr ⟨(yEd_e ht (by omega) (by omega)).mpr h1, rfl⟩⟩)
  · rw [ez]
    exact mk (Or.inr (Or.inl ⟨wI.mp h2, rfl⟩)) (Or.inr ⟨_, _, _, _, _, _, rfl, Or.inr ⟨(yEd_e ht (by omega) (by omega)).mpr h1, rfl⟩⟩)
  · by_cases c1 : yWo B e (yS1 B e a) yNaN
    · have l3 : yS1 B e a + 3 ≤ e := yWo_le sle.2 c1
      exact mk (Or.inl ⟨wN.mp c1, rfl⟩) (Or.inr ⟨_, _, _, _, _, _, rfl, Or.inl ⟨fun g => n1 ⟨(yEd_e ht (by omega) l3).mp g, c1⟩, rfl⟩⟩)
    · by_cases c2 : yWo B e (yS1 B e a) yInf
      · have l3 : yS1 B e a + 8 ≤ e := yWo_le sle.2 c2
        exact mk (Or.inr (Or.inl ⟨wI.mp c2, rfl⟩)) (Or.inr ⟨_, _, _, _, _, _, rfl, Or.inl ⟨fun g => n2 ⟨(yEd_e ht (by omega) l3).mp g, c2⟩, rfl⟩⟩)
      · exact mk (Or.inr (Or.inr ⟨fun g => c1 (wN.mpr g), fun g => c2 (wI.mpr g), yNr_e he hb h⟩)) (Or.inl ⟨rfl, rfl⟩)
  all_goals
    have no : ¬ (yS1 B e a < e ∧ (B (yS1 B e a) = 78 ∨ B (yS1 B e a) = 73)) := fun g => by
      rcases yNr_U hc hc h (yNr_no (cap := cap) g.1 g.2) with ⟨u, _⟩ | ⟨_, _, _, _, _, _, _, _, _, u, _⟩
      · cases u
      · cases u
    have co : yCo B cap L (yS1 B e a) (some (k, p, M, pt, f, x)) := Or.inr (Or.inr ⟨fun g => no ⟨(wN.mpr g).1, Or.inl g.2.1⟩, fun g => no ⟨(wI.mpr g).1, Or.inr g.2.1⟩, yNr_e he hb h⟩)
    have hed := yEd_e ht (show a ≤ p by omega) hpe
  · rw [ez]
    exact mk co (Or.inr ⟨_, _, _, _, _, _, rfl, Or.inr ⟨hed.mpr h1, rfl⟩⟩)
  · exact mk co (Or.inr ⟨_, _, _, _, _, _, rfl, Or.inl ⟨fun g => h1 (hed.mp g), rfl⟩⟩)
