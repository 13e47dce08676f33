/-! values, for whole: texts: what a float's text says is one thing, whatever the cap -/
def yRe (e e' : Int) : Prop := e = e' ∨ (1000000000 ≤ e ∧ 1000000000 ≤ e') ∨ (e ≤ -1000000000 ∧ e' ≤ -1000000000)
theorem yPw_U {B : Nat → Int} {c c' L s : Nat} {o o' : Option (Nat × Int)} (hc : 1000000000 ≤ c) (hc' : 1000000000 ≤ c') (h : yPw B c L s o) (g : yPw B c' L s o') : (o = none ∧ o' = none) ∨ ∃ p e e', o = some (p, e) ∧ o' = some (p, e') ∧ yRe e e' := by
  obtain ⟨p, h1, h2⟩ := h
  obtain ⟨p', g1, g2⟩ := g
  have := yDr_U h1 g1
  subst this
  rcases h2 with ⟨h2, h3⟩ | ⟨h2, v, e, h3, h4, h5, h6⟩
  · rcases g2 with ⟨g2, g3⟩ | ⟨g2, v', e', g3, g4, g5, g6⟩
    · exact Or.inl ⟨h3, g3⟩
    · omega
  · rcases g2 with ⟨g2, g3⟩ | ⟨g2, v', e', g3, g4, g5, g6⟩
    · omega
    · refine Or.inr ⟨p, e, e', h5, g5, ?_⟩
      unfold yRe
      unfold yCp at h3 g3
      generalize yDx B (yS1 B L s) (p - yS1 B L s) = X at h3 g3
      rcases h6 with ⟨n1, h6⟩ | ⟨n1, h6⟩ <;> rcases g6 with ⟨n2, g6⟩ | ⟨n2, g6⟩
      · omega
      · exact absurd n1 n2
      · exact absurd n2 n1
      · omega
theorem yNr_U {B : Nat → Int} {c c' L s : Nat} {r r' : Option (Int32 × Nat × Nat × Nat × (Nat → Int) × Int)} (hc : 1000000000 ≤ c) (hc' : 1000000000 ≤ c') (h : yNr B c L s r) (g : yNr B c' L s r') : (r = none ∧ r' = none) ∨ ∃ k p M pt f f' e e', r = some (k, p, M, pt, f, e) ∧ r' = some (k, p, M, pt, f', e') ∧ (∀ j, j < M → f j = f' j) ∧ yRe e e' ∧ M ≤ L ∧ pt ≤ M := by
  rcases h with ⟨h0, p, M, o, f, h1, h2, h3⟩ | ⟨h0, p, M, o, f, h1, h2, h3⟩
  · rcases g with ⟨g0, p', M', o', f', g1, g2, g3⟩ | ⟨g0, _⟩
    · obtain ⟨rfl, rfl, rfl, u⟩ := yRn_U (by decide) h1 h2 g1 g2
      have rle := yRn_le h1
      have kM := yRn_k h1
      have pL := h2.1
      rcases h3 with ⟨h3, h4⟩ | ⟨h3, h4, w, h5, h6⟩
      · rcases g3 with ⟨g3, g4⟩ | ⟨g3, g4, w', g5, g6⟩
        · exact Or.inl ⟨h4, g4⟩
        · exact absurd h3 (by rintro (a | a); omega; exact a g4)
      · rcases g3 with ⟨g3, g4⟩ | ⟨g3, g4, w', g5, g6⟩
        · exact absurd g3 (by rintro (a | a); omega; exact a h4)
        · rcases yPw_U hc hc' h5 g5 with ⟨rfl, rfl⟩ | ⟨q, e, e', rfl, rfl, u2⟩
          · exact Or.inl ⟨h6, g6⟩
          · exact Or.inr ⟨1, _, M, _, f, f', e, e', h6, g6, u, u2, by omega, kM⟩
    · exact absurd h0 g0
  · rcases g with ⟨g0, _⟩ | ⟨g0, p', M', o', f', g1, g2, g3⟩
    · exact absurd g0 h0
    · obtain ⟨rfl, rfl, rfl, u⟩ := yRn_U (by decide) h1 h2 g1 g2
      have rle := yRn_le h1
      have kM := yRn_k h1
      have pL := h2.1
      rcases h3 with ⟨h3, h4⟩ | ⟨h3, h4, h5⟩ | ⟨h3, h4, w, h5, h6⟩
      · rcases g3 with ⟨g3, g4⟩ | ⟨g3, g4, g5⟩ | ⟨g3, g4, w', g5, g6⟩
        · exact Or.inl ⟨h4, g4⟩
        · omega
        · omega
      · rcases g3 with ⟨g3, g4⟩ | ⟨g3, g4, g5⟩ | ⟨g3, g4, w', g5, g6⟩
        · omega
        · exact Or.inr ⟨0, _, M, _, f, f', 0, 0, h5, g5, u, Or.inl rfl, by omega, kM⟩
        · exact absurd g4 h4
      · rcases g3 with ⟨g3, g4⟩ | ⟨g3, g4, g5⟩ | ⟨g3, g4, w', g5, g6⟩
        · omega
        · exact absurd h4 g4
        · rcases yPw_U hc hc' h5 g5 with ⟨rfl, rfl⟩ | ⟨q, e, e', rfl, rfl, u2⟩
          · exact Or.inl ⟨h6, g6⟩
          · exact Or.inr ⟨0, _, M, _, f, f', e, e', h6, g6, u, u2, by omega, kM⟩
theorem yWo_NI {B : Nat → Int} {L s : Nat} (h : yWo B L s yNaN) (g : yWo B L s yInf) : False := by
  have a : B s = ((78 : Nat) : Int) := h.2.1
  have b : B s = ((73 : Nat) : Int) := g.2.1
  omega
theorem yCo_U {B : Nat → Int} {c c' L s : Nat} {r r' : Option (Int32 × Nat × Nat × Nat × (Nat → Int) × Int)} (hc : 1000000000 ≤ c) (hc' : 1000000000 ≤ c') (h : yCo B c L s r) (g : yCo B c' L s r') : (r = none ∧ r' = none) ∨ ∃ k p M pt f f' e e', r = some (k, p, M, pt, f, e) ∧ r' = some (k, p, M, pt, f', e') ∧ (∀ j, j < M → f j = f' j) ∧ yRe e e' ∧ M ≤ L ∧ pt ≤ M := by
  rcases h with ⟨h1, h2⟩ | ⟨h1, h2⟩ | ⟨h1, h2, h3⟩
  · rcases g with ⟨g1, g2⟩ | ⟨g1, g2⟩ | ⟨g1, g2, g3⟩
    · exact Or.inr ⟨3, _, 0, 0, _, _, 0, 0, h2, g2, fun j hj => rfl, Or.inl rfl, Nat.zero_le _, Nat.zero_le _⟩
    · exact (yWo_NI h1 g1).elim
    · exact absurd h1 g1
  · rcases g with ⟨g1, g2⟩ | ⟨g1, g2⟩ | ⟨g1, g2, g3⟩
    · exact (yWo_NI g1 h1).elim
    · exact Or.inr ⟨2, _, 0, 0, _, _, 0, 0, h2, g2, fun j hj => rfl, Or.inl rfl, Nat.zero_le _, Nat.zero_le _⟩
    · exact absurd h1 g2
  · rcases g with ⟨g1, g2⟩ | ⟨g1, g2⟩ | ⟨g1, g2, g3⟩
    · exact absurd g1 h1
    · exact absurd g1 h2
    · exact yNr_U hc hc' h3 g3
theorem yFl_U {B : Nat → Int} {c c' L : Nat} {z z' : Option (Nat × Int32 × Nat × Nat × (Nat → Int) × Int)} (hc : 1000000000 ≤ c) (hc' : 1000000000 ≤ c') (h : yFl B c L z) (g : yFl B c' L z') : (z = none ∧ z' = none) ∨ ∃ s k M pt f f' e e', z = some (s, k, M, pt, f, e) ∧ z' = some (s, k, M, pt, f', e') ∧ (∀ j, j < M → f j = f' j) ∧ yRe e e' ∧ M ≤ L ∧ pt ≤ M := by
  obtain ⟨a, r, h1, h2, h3⟩ := h
  obtain ⟨a', r', g1, g2, g3⟩ := g
  have := yBl_U h1 g1
  subst this
  rcases yCo_U hc hc' h2 g2 with ⟨rfl, rfl⟩ | ⟨k, p, M, pt, f, f', e, e', rfl, rfl, u1, u2, u3, u4⟩
  · left
    constructor
    · rcases h3 with h3 | ⟨_, _, _, _, _, _, h3, _⟩
      · exact h3.2
      · cases h3
    · rcases g3 with g3 | ⟨_, _, _, _, _, _, g3, _⟩
      · exact g3.2
      · cases g3
  · rcases h3 with ⟨h3, _⟩ | ⟨k1, p1, M1, pt1, f1, e1, h3, h4⟩
    · cases h3
    · rcases g3 with ⟨g3, _⟩ | ⟨k2, p2, M2, pt2, f2, e2, g3, g4⟩
      · cases g3
      · simp only [Option.some.injEq, Prod.mk.injEq] at h3 g3
        obtain ⟨rfl, rfl, rfl, rfl, rfl, rfl⟩ := h3
        obtain ⟨rfl, rfl, rfl, rfl, rfl, rfl⟩ := g3
        rcases h4 with ⟨h4, h5⟩ | ⟨h4, h5⟩
        · rcases g4 with ⟨g4, g5⟩ | ⟨g4, g5⟩
          · exact Or.inl ⟨h5, g5⟩
          · exact absurd g4 h4
        · rcases g4 with ⟨g4, g5⟩ | ⟨g4, g5⟩
          · exact absurd h4 g4
          · exact Or.inr ⟨_, k, M, pt, f, f', e, e', h5, g5, u1, u2, u3, u4⟩
theorem yuB_lt {b : Nat} {f : Nat → Int} (hb : 0 < b) : ∀ {n : Nat}, (∀ j, j < n → 0 ≤ f j ∧ f j < (b : Int)) → yuB b f n < b ^ n
  | 0, _ => Nat.one_pos
  | n + 1, h => by
    have ih := yuB_lt hb (n := n) (fun j hj => h j (by omega))
    have := h n (by omega)
    show yuB b f n * b + (f n).toNat < b ^ (n + 1)
    have e : b ^ (n + 1) = b ^ n * b := Nat.pow_succ _ _
    have : (yuB b f n + 1) * b ≤ b ^ n * b := Nat.mul_le_mul_right _ ih
    rw [Nat.add_mul, Nat.one_mul] at this
    omega
/-- powers of 2 far above or below all floats -/
theorem yf_far2 {A B C : Int32} {P T : Nat} {l E : Int} {a : Nat} (hF : yF A B C P T l) (h1 : 1 ≤ a) (h : 1100 ≤ E) : yfRnd P T l (a * 2 ^ E.toNat) (2 ^ (-E).toNat) (T * 2 ^ P) := by
  obtain ⟨f1, f2, f3, f4, f5, f6, f7⟩ := hF.n
  have b : l + T - 1 - 1 + (P + 1) ≤ 1100 ∧ 0 ≤ l + T - 1 - 1 := by
    rcases hF with ⟨rfl, rfl, rfl, rfl, rfl, rfl⟩ | ⟨rfl, rfl, rfl, rfl, rfl, rfl⟩ <;> decide
  refine yfRnd_i (e := l + T - 1) (by omega) (by omega) (yf_big (k := 1100) (by omega) (Nat.pow_pos (by decide)) ?_ (by omega))
  rw [show (-E).toNat = 0 by omega, Nat.pow_zero, Nat.one_mul]
  refine Nat.le_trans (Nat.pow_le_pow_right (by decide) (show 1100 ≤ E.toNat by omega)) ?_
  exact Nat.le_mul_of_pos_left _ h1
theorem yf_nigh2 {A B C : Int32} {P T : Nat} {l E : Int} {a c : Nat} (hF : yF A B C P T l) (h1 : a < 2 ^ c) (h : (c : Int) + E < -1100) : yfRnd P T l (a * 2 ^ E.toNat) (2 ^ (-E).toNat) 0 := by
  obtain ⟨f1, f2, f3, f4, f5, f6, f7⟩ := hF.n
  refine yfRnd_s (yf_small (by omega) ?_)
  rw [show E.toNat = 0 by omega, Nat.pow_zero, Nat.mul_one]
  refine Nat.lt_of_lt_of_le (Nat.mul_lt_mul_of_pos_right h1 (Nat.pow_pos (by decide))) ?_
  rw [← Nat.pow_add]
  exact Nat.pow_le_pow_right (by decide) (by omega)
theorem yRe_d {A B C : Int32} {P T : Nat} {l e e' : Int} {M pt L b b' : Nat} {f f' : Nat → Int} (hF : yF A B C P T l) (hL : L ≤ 4100) (hM : M ≤ L) (hp : pt ≤ M) (hf : ∀ j, j < M → 0 ≤ f j ∧ f j < 10) (u : ∀ j, j < M → f j = f' j) (hr : yRe e e') (h : yfRnd P T l (yuB 10 f M * 10 ^ (-((M : Int) - pt - e)).toNat) (10 ^ ((M : Int) - pt - e).toNat) b) (g : yfRnd P T l (yuB 10 f' M * 10 ^ (-((M : Int) - pt - e')).toNat) (10 ^ ((M : Int) - pt - e').toNat) b') : b = b' := by
  rw [← yuB_c u] at g
  have lt := yuB_lt (b := 10) (by decide) hf
  generalize yuB 10 f M = V at h g lt
  rcases hr with rfl | ⟨r1, r2⟩ | ⟨r1, r2⟩
  · exact yfRnd_U h g
  · by_cases z : V = 0
    · rw [z, Nat.zero_mul] at h g
      rw [yfRnd_U h yfRnd_0, yfRnd_U g yfRnd_0]
    · rw [yfRnd_U h (yf_far (c := 1) hF (by rw [Nat.sub_self, Nat.pow_zero]; omega) (by omega) (by omega)), yfRnd_U g (yf_far (c := 1) hF (by rw [Nat.sub_self, Nat.pow_zero]; omega) (by omega) (by omega))]
  · rw [yfRnd_U h (yf_nigh (c := M) hF lt (by omega)), yfRnd_U g (yf_nigh (c := M) hF lt (by omega))]
theorem yRe_x {A B C : Int32} {P T : Nat} {l e e' : Int} {M pt L b b' : Nat} {f f' : Nat → Int} (hF : yF A B C P T l) (hL : L ≤ 4100) (hM : M ≤ L) (hp : pt ≤ M) (hf : ∀ j, j < M → 0 ≤ f j ∧ f j < 16) (u : ∀ j, j < M → f j = f' j) (hr : yRe e e') (h : yfRnd P T l (yuB 16 f M * 2 ^ (4 * ((pt : Int) - M) + e).toNat) (2 ^ (-(4 * ((pt : Int) - M) + e)).toNat) b) (g : yfRnd P T l (yuB 16 f' M * 2 ^ (4 * ((pt : Int) - M) + e').toNat) (2 ^ (-(4 * ((pt : Int) - M) + e')).toNat) b') : b = b' := by
  rw [← yuB_c u] at g
  have lt := yuB_lt (b := 16) (by decide) hf
  have e16 : 16 ^ M = 2 ^ (4 * M) := by rw [Nat.pow_mul]
  rw [e16] at lt
  generalize yuB 16 f M = V at h g lt
  rcases hr with rfl | ⟨r1, r2⟩ | ⟨r1, r2⟩
  · exact yfRnd_U h g
  · by_cases z : V = 0
    · rw [z, Nat.zero_mul] at h g
      rw [yfRnd_U h yfRnd_0, yfRnd_U g yfRnd_0]
    · rw [yfRnd_U h (yf_far2 hF (by omega) (by omega)), yfRnd_U g (yf_far2 hF (by omega) (by omega))]
  · rw [yfRnd_U h (yf_nigh2 (c := 4 * M) hF lt (by omega)), yfRnd_U g (yf_nigh2 (c := 4 * M) hF lt (by omega))]
/-- one text, one answer -/
theorem yFt_U {A B' C : Int32} {P T : Nat} {l : Int} {B : Nat → Int} {c c' L : Nat} {o o' : Option (Nat × Nat)} (hF : yF A B' C P T l) (hc : 1000000000 ≤ c) (hc' : 1000000000 ≤ c') (hL : L ≤ 4100) (h : yFt P T l B c L o) (g : yFt P T l B c' L o') : o = o' := by
  obtain ⟨z, h1, h2⟩ := h
  obtain ⟨z', g1, g2⟩ := g
  rcases yFl_U hc hc' h1 g1 with ⟨rfl, rfl⟩ | ⟨s, k, M, pt, f, f', e, e', rfl, rfl, u1, u2, u3, u4⟩
  · rcases h2 with h2 | ⟨_, _, _, _, _, _, h2, _⟩
    · rcases g2 with g2 | ⟨_, _, _, _, _, _, g2, _⟩
      · rw [h2.2, g2.2]
      · cases g2
    · cases h2
  · have hk := yFl_k h1
    rcases h2 with ⟨h2, _⟩ | ⟨s1, k1, M1, pt1, f1, e1, h2, h3⟩
    · cases h2
    · rcases g2 with ⟨g2, _⟩ | ⟨s2, k2, M2, pt2, f2, e2, g2, g3⟩
      · cases g2
      · simp only [Option.some.injEq, Prod.mk.injEq] at h2 g2
        obtain ⟨rfl, rfl, rfl, rfl, rfl, rfl⟩ := h2
        obtain ⟨rfl, rfl, rfl, rfl, rfl, rfl⟩ := g2
        have n : ∀ {x y : Int32}, x ≠ y → k = x → k = y → False := fun h a b => h (a ▸ b ▸ rfl)
        rcases h3 with ⟨h3, h4⟩ | ⟨h3, h4⟩ | ⟨h3, b, h5, h4⟩ | ⟨h3, b, h5, h4⟩ <;> rcases g3 with ⟨g3, g4⟩ | ⟨g3, g4⟩ | ⟨g3, b', g5, g4⟩ | ⟨g3, b', g5, g4⟩ <;> first | exact (n (by decide) h3 g3).elim | (rw [h4, g4]; done) | skip
        · rw [h4, g4]
          rcases hk with q | q | ⟨q, hf⟩ | ⟨q, hf⟩
          · exact (n (by decide) h3 q).elim
          · exact (n (by decide) h3 q).elim
          · rw [yRe_d hF hL u3 u4 hf u1 u2 h5 g5]
          · exact (n (by decide) h3 q).elim
        · rw [h4, g4]
          rcases hk with q | q | ⟨q, hf⟩ | ⟨q, hf⟩
          · exact (n (by decide) h3 q).elim
          · exact (n (by decide) h3 q).elim
          · exact (n (by decide) h3 q).elim
          · rw [yRe_x hF hL u3 u4 hf u1 u2 h5 g5]
