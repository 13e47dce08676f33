/-! the reference's rows: sum, reduce, setOne, limb; Euclid's turns -/
theorem w_no {x : Int32} (h : F_WR_no x = 0) : 0 ≤ x.toInt ∧ x.toInt ≤ 10 := by
  have e0 : (0 : Int32).toInt = 0 := rfl
  have e1 : (11 : Int32).toInt = 11 := rfl
  unfold F_WR_no at h
  by_cases h1 : x < 0
  · rw [if_pos h1] at h
    exact absurd h (by decide)
  · rw [if_neg h1] at h
    by_cases h2 : x < 11
    · have a := q_nltI h1
      have b := q_ltI h2
      omega
    · rw [if_neg h2] at h
      exact absurd h (by decide)
theorem R_copy4 {f g : Nat → Int32} {v : Int} (h : wK v f) : wK v (F_WR_copy 264 264 f g) := by
  have e264 : (264 : Int32).toInt = 264 := rfl
  have hc : ∀ i, i < 264 → F_WR_copy 264 264 f g i = f i := fun i hi => by rw [R_copy (by decide) (by decide) i (by omega), if_pos (by omega)]
  refine ⟨fun i hi => by rw [hc i hi]; exact h.1 i hi, ?_⟩
  show _ = _
  rw [w_ext hc]
  exact h.2
theorem R_clear4 {f : Nat → Int32} : wK 0 (F_WR_clear 264 f) := by
  have e264 : (264 : Int32).toInt = 264 := rfl
  have hc := R_clear (N := 264) (f := f) (by decide) (by decide)
  refine ⟨fun i hi => by rw [hc i (by omega)]; exact ⟨by decide, by decide⟩, ?_⟩
  show _ = _
  rw [w_zer (k := 0) (n := 264) (by omega) (fun i _ h => hc i (by omega))]
  rfl
theorem R_setOne {t0_0 t0_1 t0_2 t0_3 t0_4 t0_5 t0_6 : Int32} {f : Nat → Int32} : S_WR_setOne 264 t0_0 t0_1 t0_2 t0_3 t0_4 t0_5 t0_6 f ∧ wK 1 (F_WR_setOne 264 t0_0 t0_1 t0_2 t0_3 t0_4 t0_5 t0_6 f) := by
  unfold S_WR_setOne F_WR_setOne
  have h := R_clear4 (f := f)
  generalize F_WR_clear 264 f = r at h ⊢
  have hc : r 0 = 0 := by
    have h1 := h.1 0 (by decide)
    have h2 : wV r 264 = 0 := h.2
    by_cases e : r 0 = 0
    · exact e
    · have := w_ge h.1 (show 0 < 264 by decide) e
      rw [h2] at this
      exact absurd this (by decide)
  refine ⟨⟨by decide, trivial⟩, wO_upd h.1 ⟨by decide, by decide⟩, ?_⟩
  have h2 : wV r 264 = 0 := h.2
  show wV (upd r 0 1) 264 = 1
  rw [w_upd (by decide), h2, hc]
  rfl
theorem R_size4 {f : Nat → Int32} : 0 ≤ (F_WR_size 264 f).toInt ∧ (F_WR_size 264 f).toInt ≤ 264 := by
  have h := R_size (N := 264) (f := f) (by decide)
  exact ⟨h.1, h.2.1⟩
/-- a row of 264 joined with another -/
theorem R_join4 {y : Int64} {x5 : Int32} {f g : Nat → Int32} (hy : 0 ≤ y.toInt ∧ y.toInt ≤ 8589934592) (hf : wO f 264) (hg : wO g 264) : S_WR_join 264 264 (F_WR_size 264 g) y x5 f g ∧ wO (F_WR_join 264 264 (F_WR_size 264 g) y x5 f g) 264 := by
  have hs := R_size4 (f := g)
  have e264 : (264 : Int32).toInt = 264 := rfl
  generalize F_WR_size 264 g = z at hs ⊢
  have ez := q_clI (i := z) rfl hs.1
  have h := R_join (N := 264) (M := 264) (s := z) (y := y) (x5 := x5) (f := f) (g := g) (σ := if x5 = 0 then 1 else -1) rfl (by decide) (by decide) hs.1 (by omega) (by omega) (hg.mono (by omega)) hy hf
  exact ⟨h.1, h.2.1⟩
theorem R_sum {x3 x5 t0_0 t0_1 t0_2 t0_3 t0_4 t0_5 t0_6 : Int32} {t1_0 t2_0 t3_0 : Nat → Int32} (hf : wO t2_0 264) (hg : wO t3_0 264) : S_WR_sum 264 x3 264 x5 t0_0 t0_1 t0_2 t0_3 t0_4 t0_5 t0_6 t1_0 t2_0 t3_0 ∧ wO (F_WR_sum 264 x3 264 x5 t0_0 t0_1 t0_2 t0_3 t0_4 t0_5 t0_6 t1_0 t2_0 t3_0).2.2.2.2.2.2.2 264 := by
  have cf := (R_copy4 (g := t1_0) (⟨hf, rfl⟩ : wK (wV t2_0 264) t2_0)).1
  have cg := (R_copy4 (g := t1_0) (⟨hg, rfl⟩ : wK (wV t3_0 264) t3_0)).1
  have hc := (R_cmp (N := 264) (M := 264) (f := t2_0) (g := t3_0) (by decide) (by decide) hf hg).1
  have j1 := R_join4 (y := 1) (x5 := 0) (by decide) cf hg
  have j2 := R_join4 (y := 1) (x5 := 1) (by decide) cg hf
  have j3 := R_join4 (y := 1) (x5 := 1) (by decide) cf hg
  unfold S_WR_sum F_WR_sum
  by_cases c : x3 = x5
  · rw [if_pos c, if_pos c]
    exact ⟨⟨⟨trivial, j1.1⟩, trivial⟩, j1.2⟩
  · rw [if_neg c, if_neg c]
    refine v_owe hc ?_
    by_cases d : F_WR_compareRows 264 264 t2_0 t3_0 < 0
    · rw [if_pos d, if_pos d]
      exact ⟨⟨⟨trivial, j2.1⟩, trivial⟩, j2.2⟩
    · rw [if_neg d, if_neg d]
      exact ⟨⟨⟨trivial, j3.1⟩, trivial⟩, j3.2⟩
/-- a divisor: not 0, and a limb of room -/
def wN (r : Nat → Int32) : Prop := wO r 264 ∧ wL 0 (wV r 264) ∧ wL (wV r 264) (65536 ^ 263)
theorem R_div4 {t0_0 t0_1 t0_2 t0_3 t0_4 t0_5 t0_6 : Int32} {t1_0 t2_0 t3_0 t4_0 : Nat → Int32} (ha : wO t3_0 264) (hb : wN t4_0) : S_WR_divideRows 264 264 t0_0 t0_1 t0_2 t0_3 t0_4 t0_5 t0_6 t1_0 t2_0 t3_0 t4_0 ∧ wDq (wV t3_0 264) (wV t4_0 264) (F_WR_divideRows 264 264 t0_0 t0_1 t0_2 t0_3 t0_4 t0_5 t0_6 t1_0 t2_0 t3_0 t4_0) := R_div rfl (by decide) ha hb.1 hb.2.1 hb.2.2
theorem R_mul4 {t0_0 t0_1 t0_2 t0_3 t0_4 t0_5 t0_6 : Int32} {t1_0 t2_0 t3_0 t4_0 : Nat → Int32} (ha : wO t2_0 264) (hb : wO t3_0 264) : S_WR_multiplyRows 264 264 264 t0_0 t0_1 t0_2 t0_3 t0_4 t0_5 t0_6 t1_0 t2_0 t3_0 t4_0 ∧ wO (F_WR_multiplyRows 264 264 264 t0_0 t0_1 t0_2 t0_3 t0_4 t0_5 t0_6 t1_0 t2_0 t3_0 t4_0).2 264 := by
  have h := R_mul (N2 := 264) (N3 := 264) (N4 := 264) (t0_0 := t0_0) (t0_1 := t0_1) (t0_2 := t0_2) (t0_3 := t0_3) (t0_4 := t0_4) (t0_5 := t0_5) (t0_6 := t0_6) (t1_0 := t1_0) (t2_0 := t2_0) (t3_0 := t3_0) (t4_0 := t4_0) (by decide) (by decide) (by decide) ha hb
  have e264 : (264 : Int32).toInt = 264 := rfl
  refine ⟨h.1, fun i hi => ?_⟩
  rw [h.2.2.2 i (by omega), if_pos (by omega)]
  exact h.2.1 i (by omega)
theorem R_mul4a {t0_0 t0_1 t0_2 t0_3 t0_4 t0_5 t0_6 : Int32} {t1_0 t2_0 t3_0 : Nat → Int32} (ha : wO t2_0 264) (hb : wO t3_0 264) : S_WR_multiplyRows_a 264 264 t0_0 t0_1 t0_2 t0_3 t0_4 t0_5 t0_6 t1_0 t2_0 t3_0 ∧ wO (F_WR_multiplyRows_a 264 264 t0_0 t0_1 t0_2 t0_3 t0_4 t0_5 t0_6 t1_0 t2_0 t3_0).2 264 := by
  have h := R_mul_a (N2 := 264) (N3 := 264) (t0_0 := t0_0) (t0_1 := t0_1) (t0_2 := t0_2) (t0_3 := t0_3) (t0_4 := t0_4) (t0_5 := t0_5) (t0_6 := t0_6) (t1_0 := t1_0) (t2_0 := t2_0) (t3_0 := t3_0) (by decide) (by decide) (by decide) ha hb
  have e264 : (264 : Int32).toInt = 264 := rfl
  refine ⟨h.1, fun i hi => ?_⟩
  rw [h.2.2.2 i (by omega), if_pos (by omega)]
  exact h.2.1 i (by omega)
theorem R_mul4b {t0_0 t0_1 t0_2 t0_3 t0_4 t0_5 t0_6 : Int32} {t1_0 t2_0 t3_0 : Nat → Int32} (ha : wO t2_0 264) : S_WR_multiplyRows_b 264 264 t0_0 t0_1 t0_2 t0_3 t0_4 t0_5 t0_6 t1_0 t2_0 t3_0 ∧ wO (F_WR_multiplyRows_b 264 264 t0_0 t0_1 t0_2 t0_3 t0_4 t0_5 t0_6 t1_0 t2_0 t3_0).2 264 := by
  have h := R_mul_b (N2 := 264) (N4 := 264) (t0_0 := t0_0) (t0_1 := t0_1) (t0_2 := t0_2) (t0_3 := t0_3) (t0_4 := t0_4) (t0_5 := t0_5) (t0_6 := t0_6) (t1_0 := t1_0) (t2_0 := t2_0) (t3_0 := t3_0) (by decide) (by decide) ha
  have e264 : (264 : Int32).toInt = 264 := rfl
  refine ⟨h.1, fun i hi => ?_⟩
  rw [h.2.2.2 i (by omega), if_pos (by omega)]
  exact h.2.1 i (by omega)
/-- a register below 0 is not, above 0 is a divisor -/
theorem R_isAbove0 {x2 t0_0 t0_1 t0_2 t0_3 t0_4 t0_5 t0_6 : Int32} {t1_0 t2_0 : Nat → Int32} (hx : 0 ≤ x2.toInt ∧ x2.toInt ≤ 10) (hr : wR t1_0 t2_0) : S_WR_isAbove0 x2 t0_0 t0_1 t0_2 t0_3 t0_4 t0_5 t0_6 t1_0 t2_0 ∧ (F_WR_isAbove0 x2 t0_0 t0_1 t0_2 t0_3 t0_4 t0_5 t0_6 t1_0 t2_0 ≠ 0 → wL 0 (wVk t1_0 x2)) := by
  have hz := R_isZero (t0_0 := t0_0) (t0_1 := t0_1) (t0_2 := t0_2) (t0_3 := t0_3) (t0_4 := t0_4) (t0_5 := t0_5) (t0_6 := t0_6) hx hr.1
  unfold S_WR_isAbove0 F_WR_isAbove0
  refine v_cons (by omega) (v_cons (by omega) ?_)
  by_cases c : t2_0 x2.toNatClampNeg = 0
  · rw [if_pos c, if_pos c]
    refine v_owe hz.1 ?_
    by_cases d : F_WR_isZero x2 t0_0 t0_1 t0_2 t0_3 t0_4 t0_5 t0_6 t1_0 = 0
    · rw [if_pos d, if_pos d]
      refine ⟨trivial, fun _ => ?_⟩
      rcases hz.2 with ⟨a, -⟩ | ⟨-, a⟩
      · rw [d] at a; exact absurd a (by decide)
      · exact a
    · rw [if_neg d, if_neg d]
      exact ⟨trivial, fun h => absurd rfl h⟩
  · rw [if_neg c, if_neg c]
    exact ⟨trivial, fun h => absurd rfl h⟩
theorem w_reg {k : Nat → Int32} {x : Int32} {r : Nat → Int32} (hx : 0 ≤ x.toInt ∧ x.toInt ≤ 10) (ho : wO k 1408) (h : wK (wVk k x) r) (h0 : wL 0 (wVk k x)) : wN r := by
  have h1 : wV r 264 = wVk k x := h.2
  refine ⟨h.1, by rw [h1]; exact h0, ?_⟩
  show _ < _
  rw [h1]
  exact Int.lt_of_lt_of_le (wVk_nn hx ho).2 (w_pwle (by decide))
theorem R_redJ {f g r : Nat → Int32} (hf : wO f 264) (hg : wO g 264) : S_WR_join 264 264 (F_WR_size 264 f) 1 1 g f ∧ wO (F_WR_copy 264 264 (F_WR_join 264 264 (F_WR_size 264 f) 1 1 g f) r) 264 := by
  have j := R_join4 (y := 1) (x5 := 1) (f := g) (g := f) (by decide) hg hf
  exact ⟨j.1, (R_copy4 (v := wV (F_WR_join 264 264 (F_WR_size 264 f) 1 1 g f) 264) ⟨j.2, rfl⟩).1⟩
theorem R_red12 {x2 t0_0 t0_1 t0_2 t0_3 t0_4 t0_5 t0_6 : Int32} {t1_0 t2_0 t3_0 t4_0 t5_0 t6_0 t7_0 f : Nat → Int32} {p : (Nat → Int32) × (Nat → Int32)} (hx : 0 ≤ x2.toInt ∧ x2.toInt ≤ 10) (hp : wO p.1 264) (hm : wO t6_0 264) : S_WR_reduce_c12 x2 264 t0_0 t0_1 t0_2 t0_3 t0_4 t0_5 t0_6 t1_0 t2_0 t3_0 t4_0 t5_0 t6_0 t7_0 f p ∧ wO (F_WR_reduce_c12 x2 264 t0_0 t0_1 t0_2 t0_3 t0_4 t0_5 t0_6 t1_0 t2_0 t3_0 t4_0 t5_0 t6_0 t7_0 f p).2.2.2 264 := by
  unfold S_WR_reduce_c12 F_WR_reduce_c12
  have c1 := (R_copy4 (g := f) (v := wV p.1 264) ⟨hp, rfl⟩).1
  have c2 := (R_copy4 (g := t3_0) (v := wV t6_0 264) ⟨hm, rfl⟩).1
  generalize F_WR_copy 264 264 p.1 f = u at c1 ⊢
  generalize F_WR_copy 264 264 t6_0 t3_0 = w at c2 ⊢
  obtain ⟨ja, jb⟩ := R_redJ (r := u) c1 c2
  refine v_cons (by omega) (v_cons (by omega) ?_)
  by_cases c : t2_0 x2.toNatClampNeg = 0
  · rw [if_pos c, if_pos c]
    exact ⟨trivial, c1⟩
  · rw [if_neg c, if_neg c]
    by_cases d : F_WR_size 264 u ≤ 0
    · rw [if_pos d, if_pos d]
      exact ⟨trivial, c1⟩
    · rw [if_neg d, if_neg d]
      refine v_owe ja ⟨trivial, ?_⟩
      dsimp only
      exact jb
theorem R_reduce {x2 t0_0 t0_1 t0_2 t0_3 t0_4 t0_5 t0_6 : Int32} {t1_0 t2_0 t3_0 t4_0 t5_0 t6_0 t7_0 : Nat → Int32} (hx : 0 ≤ x2.toInt ∧ x2.toInt ≤ 10) (hr : wR t1_0 t2_0) (hm : wN t6_0) : S_WR_reduce x2 264 t0_0 t0_1 t0_2 t0_3 t0_4 t0_5 t0_6 t1_0 t2_0 t3_0 t4_0 t5_0 t6_0 t7_0 ∧ wO (F_WR_reduce x2 264 t0_0 t0_1 t0_2 t0_3 t0_4 t0_5 t0_6 t1_0 t2_0 t3_0 t4_0 t5_0 t6_0 t7_0).2.2.2 264 := by
  have ht := R_take (t0_0 := t0_0) (t0_1 := t0_1) (t0_2 := t0_2) (t0_3 := t0_3) (t0_4 := t0_4) (t0_5 := t0_5) (t0_6 := t0_6) (t2_0 := t7_0) hx hr.1
  unfold S_WR_reduce F_WR_reduce
  refine v_owe ht.1 ?_
  have ht2 := ht.2.1
  generalize F_WR_take x2 264 t0_0 t0_1 t0_2 t0_3 t0_4 t0_5 t0_6 t1_0 t7_0 = f at ht2 ⊢
  have hd := R_div4 (t0_0 := t0_0) (t0_1 := t0_1) (t0_2 := t0_2) (t0_3 := t0_3) (t0_4 := t0_4) (t0_5 := t0_5) (t0_6 := t0_6) (t1_0 := t4_0) (t2_0 := t5_0) ht2 hm
  refine v_owe hd.1 ?_
  have hd2 := hd.2.1
  generalize F_WR_divideRows 264 264 t0_0 t0_1 t0_2 t0_3 t0_4 t0_5 t0_6 t4_0 t5_0 f t6_0 = p at hd2 ⊢
  exact R_red12 hx hd2 hm.1
/-- Euclid's turns -/
def wM2 (a b : Int) : Int := if a < b then 2 * (a * b) else a * b
theorem w_euc {a b q r : Int} (ha : 0 ≤ a) (hb : 0 < b) (h : q * b + r = a) (hr : 0 ≤ r) (hr2 : r < b) : 2 * wM2 b r ≤ wM2 a b := by
  unfold wM2
  rw [if_neg (show ¬ b < r by omega)]
  by_cases c : a < b
  · rw [if_pos c]
    have hq : q = 0 := by
      by_cases q0 : q ≤ 0
      · by_cases q1 : q < 0
        · have := Int.mul_le_mul_of_nonneg_right (show q ≤ -1 by omega) (Int.le_of_lt hb)
          omega
        · omega
      · have := Int.mul_le_mul_of_nonneg_right (show 1 ≤ q by omega) (Int.le_of_lt hb)
        omega
    subst hq
    rw [Int.zero_mul, Int.zero_add] at h
    subst h
    rw [Int.mul_comm b r]
    omega
  · rw [if_neg c]
    have hq : 1 ≤ q := by
      by_cases q1 : 1 ≤ q
      · exact q1
      · have := Int.mul_le_mul_of_nonneg_right (show q ≤ 0 by omega) (Int.le_of_lt hb)
        omega
    have h1 := Int.mul_le_mul_of_nonneg_right hq (Int.le_of_lt hb)
    have h2 : 2 * r ≤ a := by omega
    have h3 := Int.mul_le_mul_of_nonneg_right h2 (Int.le_of_lt hb)
    have h4 : 2 * r * b = 2 * (b * r) := by rw [Int.mul_assoc, Int.mul_comm r b]
    omega
/-- enough turns are left -/
def wEu (n : Nat) (a b : Int) : Prop := (b = 0 ∧ 1 ≤ n) ∨ (0 < b ∧ ∃ k : Nat, n = k + 2 ∧ wM2 a b < 2 ^ k)
theorem wEu.ge {n : Nat} {a b : Int} (h : wEu n a b) : 1 ≤ n := by
  rcases h with ⟨-, h⟩ | ⟨-, k, h, -⟩ <;> omega
theorem wEu.step {n : Nat} {a b q r : Int} (h : wEu (n + 1) a b) (ha : 0 ≤ a) (hb : 0 < b) (e : q * b + r = a) (hr : 0 ≤ r) (hr2 : r < b) : wEu n b r := by
  rcases h with ⟨h, -⟩ | ⟨-, k, hk, hM⟩
  · omega
  · by_cases r0 : r = 0
    · exact Or.inl ⟨r0, by omega⟩
    · have h1 := w_euc ha hb e hr hr2
      have h2 : 1 ≤ wM2 b r := by
        unfold wM2
        rw [if_neg (show ¬ b < r by omega)]
        have := Int.mul_le_mul (show 1 ≤ b by omega) (show 1 ≤ r by omega) (by decide) (by omega)
        omega
      cases k with
      | zero => exact absurd hM (by rw [Int.pow_zero]; omega)
      | succ k =>
        refine Or.inr ⟨by omega, k, by omega, ?_⟩
        rw [Int.pow_succ] at hM
        omega
theorem w_2pw {k i : Nat} (h : k ≤ i) : (2 : Int) ^ k ≤ 2 ^ i := by
  obtain ⟨d, rfl⟩ := Nat.exists_eq_add_of_le h
  rw [Int.pow_add]
  have h1 : (0 : Int) < 2 ^ k := Int.pow_pos (by decide)
  have h2 : (0 : Int) < 2 ^ d := Int.pow_pos (by decide)
  have h3 := Int.mul_le_mul_of_nonneg_left (show 1 ≤ (2 : Int) ^ d by omega) (Int.le_of_lt h1)
  rw [Int.mul_one] at h3
  exact h3
theorem w_p16 (n : Nat) : (65536 : Int) ^ n = 2 ^ (16 * n) := by
  rw [Int.pow_mul]
  rfl
theorem wEu.start {n : Nat} {a b : Int} (hn : 9000 ≤ n) (ha : 0 ≤ a) (ha2 : a < 65536 ^ 264) (hb : 0 ≤ b) (hb2 : b < 65536 ^ 264) : wEu n a b := by
  by_cases b0 : b = 0
  · exact Or.inl ⟨b0, by omega⟩
  · obtain ⟨k, rfl⟩ : ∃ k, n = k + 2 := ⟨n - 2, by omega⟩
    refine Or.inr ⟨by omega, k, rfl, ?_⟩
    have h1 : a * b ≤ 65536 ^ 264 * 65536 ^ 264 := Int.mul_le_mul (Int.le_of_lt ha2) (Int.le_of_lt hb2) hb (Int.le_of_lt (w_pos _))
    have h2 : 0 ≤ a * b := Int.mul_nonneg ha hb
    have h3 : (2 : Int) * (65536 ^ 264 * 65536 ^ 264) < 2 ^ 8450 := by
      rw [← Int.pow_add, w_p16]
      have e : (2 : Int) ^ 8450 = 2 ^ (16 * (264 + 264)) * 4 := by
        rw [show (8450 : Nat) = 16 * (264 + 264) + 2 from rfl, Int.pow_add]
        rfl
      have hp : (0 : Int) < 2 ^ (16 * (264 + 264)) := Int.pow_pos (by decide)
      rw [e]
      generalize (2 : Int) ^ (16 * (264 + 264)) = u at hp ⊢
      omega
    have h4 : (2 : Int) ^ 8450 ≤ 2 ^ k := w_2pw (by omega)
    refine Int.lt_of_lt_of_le ?_ h4
    refine Int.lt_of_le_of_lt ?_ h3
    unfold wM2
    generalize (65536 : Int) ^ 264 * 65536 ^ 264 = u at h1 ⊢
    generalize a * b = v at h1 h2 ⊢
    clear h3 h4 ha2 hb2
    split <;> omega
theorem w_sz0 {f : Nat → Int32} (ho : wO f 264) (h : F_WR_size 264 f ≤ 0) : wV f 264 = 0 := by
  have hs := R_size (N := 264) (f := f) (by decide)
  have e0 : (0 : Int32).toInt = 0 := rfl
  have h1 := q_leI h
  have h2 := hs.val
  have h3 := q_clI (i := F_WR_size 264 f) rfl hs.1
  have h5 : (F_WR_size 264 f).toNatClampNeg = 0 := by omega
  rw [h5] at h2
  exact h2
theorem w_sz1 {f : Nat → Int32} (ho : wO f 264) (h : ¬ F_WR_size 264 f ≤ 0) : wL 0 (wV f 264) := by
  have hs := R_size (N := 264) (f := f) (by decide)
  have e0 : (0 : Int32).toInt = 0 := rfl
  have h1 := q_nleI h
  have h2 := hs.ge ho (by omega)
  exact Int.lt_of_lt_of_le (w_pos _) h2
