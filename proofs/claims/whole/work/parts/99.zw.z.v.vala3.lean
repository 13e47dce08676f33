/-! values, for whole: floats: what a value rounds to -/
/-- N / D in units of 2 ^ q, cut, and what is behind it -/
def yfT (q : Int) (N D : Nat) : Nat := (N * 2 ^ (-q).toNat) / (D * 2 ^ q.toNat)
def yfR (q : Int) (N D : Nat) : Nat := (N * 2 ^ (-q).toNat) % (D * 2 ^ q.toNat)
theorem yn_sc {a b c d x y : Nat} (hx : 0 < x) (hy : 0 < y) (h1 : a * x = c * y) (h2 : b * x = d * y) : a / b = c / d ∧ (a % b = 0 ↔ c % d = 0) := by
  refine ⟨?_, ?_⟩
  · rw [← Nat.mul_div_mul_right a b hx, h1, h2, Nat.mul_div_mul_right c d hy]
  · have e1 : (a * x) % (b * x) = (a % b) * x := Nat.mul_mod_mul_right x a b
    have e2 : (c * y) % (d * y) = (c % d) * y := Nat.mul_mod_mul_right y c d
    rw [h1, h2, e2] at e1
    constructor
    · intro h
      rw [h, Nat.zero_mul] at e1
      exact (Nat.mul_eq_zero.mp e1).resolve_right (by omega)
    · intro h
      rw [h, Nat.zero_mul] at e1
      exact (Nat.mul_eq_zero.mp e1.symm).resolve_right (by omega)
theorem yn_mod {a b c : Nat} : a % (b * c) = 0 ↔ (a % b = 0 ∧ a / b % c = 0) := by
  rw [Nat.mod_mul]
  constructor
  · intro h
    have h1 : a % b = 0 := by omega
    refine ⟨h1, ?_⟩
    rcases Nat.eq_zero_or_pos b with z | z
    · rw [z, Nat.div_zero, Nat.zero_mod]
    · have : b * (a / b % c) = 0 := by omega
      exact (Nat.mul_eq_zero.mp this).resolve_left (by omega)
  · intro h
    rw [h.1, h.2]
    rfl
/-- coarser by k bits -/
theorem yf_add {q : Int} {N D k : Nat} : yfT (q + k) N D = yfT q N D / 2 ^ k ∧ (yfR (q + k) N D = 0 ↔ (yfR q N D = 0 ∧ yfT q N D % 2 ^ k = 0)) := by
  have hz : (-(q + k)).toNat + (-q).toNat = (-q).toNat + (-(q + k)).toNat := Nat.add_comm _ _
  have hy : (q + k).toNat + (-q).toNat = q.toNat + k + (-(q + k)).toNat := by omega
  have p1 : 0 < 2 ^ (-q).toNat := Nat.pow_pos (by decide)
  have p2 : 0 < 2 ^ (-(q + k)).toNat := Nat.pow_pos (by decide)
  have h1 : N * 2 ^ (-(q + k)).toNat * 2 ^ (-q).toNat = N * 2 ^ (-q).toNat * 2 ^ (-(q + k)).toNat := by
    ac_rfl
  have h2 : D * 2 ^ (q + k).toNat * 2 ^ (-q).toNat = D * 2 ^ q.toNat * 2 ^ k * 2 ^ (-(q + k)).toNat := by
    rw [Nat.mul_assoc, ← Nat.pow_add, hy, Nat.pow_add, Nat.pow_add]
    ac_rfl
  obtain ⟨s1, s2⟩ := yn_sc p1 p2 h1 h2
  unfold yfT yfR
  rw [s1, s2, Nat.div_div_eq_div_mul, yn_mod]
  exact ⟨rfl, Iff.rfl⟩
theorem yf_ex {q : Int} {N D k : Nat} (h : yfR (q + k) N D = 0) : yfT q N D = yfT (q + k) N D * 2 ^ k ∧ yfR q N D = 0 := by
  obtain ⟨a, b⟩ := yf_add (q := q) (N := N) (D := D) (k := k)
  obtain ⟨c, d⟩ := b.mp h
  refine ⟨?_, c⟩
  rw [a]
  exact (Nat.div_mul_cancel (Nat.dvd_of_mod_eq_zero d)).symm
/-- only the value counts -/
theorem yf_val {q : Int} {N D N' D' : Nat} (hD : 0 < D) (hD' : 0 < D') (h : N * D' = N' * D) : yfT q N D = yfT q N' D' ∧ (yfR q N D = 0 ↔ yfR q N' D' = 0) := by
  unfold yfT yfR
  refine yn_sc hD' hD ?_ ?_
  · have : N * 2 ^ (-q).toNat * D' = (N * D') * 2 ^ (-q).toNat := by ac_rfl
    rw [this, h]
    ac_rfl
  · ac_rfl
/-- rounded to the nearest, of two such to the even one: t is twice the value, cut -/
def yfUp (t s : Nat) : Nat := t / 2 + (if t % 2 = 1 ∧ (s ≠ 0 ∨ t / 2 % 2 = 1) then 1 else 0)
theorem yfUp_c {t s s' : Nat} (h : s = 0 ↔ s' = 0) : yfUp t s = yfUp t s' := by
  unfold yfUp
  congr 1
  by_cases c : t % 2 = 1 ∧ (s ≠ 0 ∨ t / 2 % 2 = 1)
  · rw [if_pos c, if_pos ⟨c.1, c.2.imp (fun g e => g (h.mpr e)) id⟩]
  · rw [if_neg c, if_neg (fun e => c ⟨e.1, e.2.imp (fun g f => g (h.mp f)) id⟩)]
/-- the unit 2 ^ q in which a value is kept -/
def yfS (P : Nat) (l : Int) (N D : Nat) (q : Int) : Prop := l ≤ q ∧ yfT (q - 1) N D < 2 ^ (P + 2) ∧ (q = l ∨ 2 ^ (P + 1) ≤ yfT (q - 1) N D)
def yfRnd (P T : Nat) (l : Int) (N D b : Nat) : Prop := ∃ q, yfS P l N D q ∧ b = min (T * 2 ^ P) ((q - l).toNat * 2 ^ P + yfUp (yfT (q - 1) N D) (yfR (q - 1) N D))
theorem yfS_U {P : Nat} {l q r : Int} {N D : Nat} (h : yfS P l N D q) (g : yfS P l N D r) : q = r := by
  have key : ∀ {q r : Int}, yfS P l N D q → yfS P l N D r → r ≤ q := fun {q r} h g => by
    rcases Int.lt_or_le q r with c | c
    · exfalso
      obtain ⟨h1, h2, h3⟩ := h
      obtain ⟨g1, g2, g3⟩ := g
      have g4 := g3.resolve_left (by omega)
      obtain ⟨k, hk⟩ : ∃ k : Nat, r - 1 = q - 1 + ((k + 1 : Nat) : Int) := ⟨(r - q - 1).toNat, by omega⟩
      rw [hk, yf_add.1] at g4
      have p : 2 ^ (k + 1) = 2 ^ k * 2 := Nat.pow_succ _ _
      have p1 : 1 ≤ 2 ^ k := Nat.pow_pos (by decide)
      have p2 : 2 ^ (P + 2) = 2 ^ (P + 1) * 2 := Nat.pow_succ _ _
      have g5 := (Nat.le_div_iff_mul_le (Nat.pow_pos (by decide))).mp g4
      have g6 : 2 ^ (P + 1) * 2 ≤ 2 ^ (P + 1) * 2 ^ (k + 1) := Nat.mul_le_mul_left _ (by omega)
      omega
    · exact c
  exact Int.le_antisymm (key g h) (key h g)
theorem yfRnd_U {P T : Nat} {l : Int} {N D b c : Nat} (h : yfRnd P T l N D b) (g : yfRnd P T l N D c) : b = c := by
  obtain ⟨q, h1, h2⟩ := h
  obtain ⟨r, g1, g2⟩ := g
  rw [h2, g2, yfS_U h1 g1]
theorem yfRnd_v {P T : Nat} {l : Int} {N D N' D' b : Nat} (hD : 0 < D) (hD' : 0 < D') (h : N * D' = N' * D) (g : yfRnd P T l N D b) : yfRnd P T l N' D' b := by
  obtain ⟨q, g1, g2⟩ := g
  obtain ⟨v1, v2⟩ := yf_val (q := q - 1) hD hD' h
  refine ⟨q, ?_, ?_⟩
  · unfold yfS at *
    rw [← v1]
    exact g1
  · rw [g2, v1, yfUp_c v2]
theorem yfT_0 {q : Int} {D : Nat} : yfT q 0 D = 0 := by
  unfold yfT
  rw [Nat.zero_mul, Nat.zero_div]
theorem yfRnd_0 {P T : Nat} {l : Int} {D : Nat} : yfRnd P T l 0 D 0 := by
  refine ⟨l, ⟨Int.le_refl l, ?_, Or.inl rfl⟩, ?_⟩
  · rw [yfT_0]
    exact Nat.pow_pos (by decide)
  · rw [yfT_0]
    have : yfUp 0 (yfR (l - 1) 0 D) = 0 := rfl
    rw [this, Int.sub_self]
    show 0 = min (T * 2 ^ P) (0 * 2 ^ P + 0)
    rw [Nat.zero_mul, Nat.add_zero]
    exact (Nat.min_eq_right (Nat.zero_le _)).symm
/-- x so small that it rounds to 0: below half of the least unit -/
theorem yfRnd_s {P T : Nat} {l : Int} {N D : Nat} (h : yfT (l - 1) N D = 0) : yfRnd P T l N D 0 := by
  refine ⟨l, ⟨Int.le_refl l, ?_, Or.inl rfl⟩, ?_⟩
  · rw [h]
    exact Nat.pow_pos (by decide)
  · rw [h]
    have : yfUp 0 (yfR (l - 1) N D) = 0 := rfl
    rw [this, Int.sub_self]
    show 0 = min (T * 2 ^ P) (0 * 2 ^ P + 0)
    rw [Nat.zero_mul, Nat.add_zero]
    exact (Nat.min_eq_right (Nat.zero_le _)).symm
/-- there is a unit -/
theorem yfS_ex {P : Nat} {l : Int} {N D : Nat} : ∃ q, yfS P l N D q := by
  obtain ⟨k, hk⟩ : ∃ k : Nat, yfT (l - 1) N D < 2 ^ k := ⟨yfT (l - 1) N D, Nat.lt_two_pow_self⟩
  have : ∀ k : Nat, yfT (l - 1 + k) N D < 2 ^ (P + 2) → ∃ q, yfS P l N D q := by
    intro k
    induction k with
    | zero =>
      intro h
      refine ⟨l, Int.le_refl l, ?_, Or.inl rfl⟩
      rw [show l - 1 + ((0 : Nat) : Int) = l - 1 by omega] at h
      exact h
    | succ k ih =>
      intro h
      by_cases c : yfT (l - 1 + k) N D < 2 ^ (P + 2)
      · exact ih c
      · refine ⟨l + (k + 1 : Nat), by omega, ?_, Or.inr ?_⟩
        · rw [show l + ((k + 1 : Nat) : Int) - 1 = l - 1 + ((k + 1 : Nat) : Int) by omega]
          exact h
        · rw [show l + ((k + 1 : Nat) : Int) - 1 = l - 1 + (k : Int) + ((1 : Nat) : Int) by omega, yf_add.1]
          have p2 : 2 ^ (P + 2) = 2 ^ (P + 1) * 2 := Nat.pow_succ _ _
          refine (Nat.le_div_iff_mul_le (by decide)).mpr ?_
          rw [Nat.pow_one]
          omega
  refine this k ?_
  rw [yf_add.1, Nat.div_eq_of_lt hk]
  exact Nat.pow_pos (by decide)
/-- x so large that it is infinite -/
theorem yfRnd_i {P T : Nat} {l e : Int} {N D : Nat} (he : l + T - 1 ≤ e) (hT : 1 ≤ T) (h : 2 ^ (P + 1) ≤ yfT (e - 1) N D) : yfRnd P T l N D (T * 2 ^ P) := by
  obtain ⟨q, hq⟩ := yfS_ex (P := P) (l := l) (N := N) (D := D)
  refine ⟨q, hq, ?_⟩
  have le : e ≤ q := by
    rcases Int.lt_or_le q e with c | c
    · exfalso
      obtain ⟨h1, h2, h3⟩ := hq
      obtain ⟨k, hk⟩ : ∃ k : Nat, e - 1 = q - 1 + ((k + 1 : Nat) : Int) := ⟨(e - q - 1).toNat, by omega⟩
      rw [hk, yf_add.1] at h
      have p : 2 ^ (k + 1) = 2 ^ k * 2 := Nat.pow_succ _ _
      have p1 : 1 ≤ 2 ^ k := Nat.pow_pos (by decide)
      have p2 : 2 ^ (P + 2) = 2 ^ (P + 1) * 2 := Nat.pow_succ _ _
      have g5 := (Nat.le_div_iff_mul_le (Nat.pow_pos (by decide))).mp h
      have g6 : 2 ^ (P + 1) * 2 ≤ 2 ^ (P + 1) * 2 ^ (k + 1) := Nat.mul_le_mul_left _ (by omega)
      omega
    · exact c
  have t1 : 2 ^ (P + 1) ≤ yfT (q - 1) N D ∨ T ≤ (q - l).toNat := by
    rcases hq.2.2 with c | c
    · have : q = e := by omega
      rw [this]
      exact Or.inl h
    · exact Or.inl c
  have u1 : yfT (q - 1) N D / 2 ≤ yfUp (yfT (q - 1) N D) (yfR (q - 1) N D) := by
    unfold yfUp
    omega
  refine (Nat.min_eq_left ?_).symm
  obtain ⟨m, hm⟩ : ∃ m, (q - l).toNat = T - 1 + m := ⟨(q - l).toNat - (T - 1), by omega⟩
  obtain ⟨S, rfl⟩ : ∃ S, T = S + 1 := ⟨T - 1, by omega⟩
  rw [hm, Nat.add_sub_cancel, Nat.add_mul, Nat.add_mul, Nat.one_mul]
  have p2 : 2 ^ (P + 1) = 2 ^ P * 2 := Nat.pow_succ _ _
  rcases t1 with c | c
  · have : 2 ^ P ≤ yfT (q - 1) N D / 2 := by omega
    omega
  · have : 1 * 2 ^ P ≤ m * 2 ^ P := Nat.mul_le_mul_right _ (by omega)
    omega
