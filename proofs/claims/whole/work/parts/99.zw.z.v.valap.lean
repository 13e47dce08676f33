/-! values, for whole: texts: the bits that a float's text says; the reference's bits and floatBits -/
def yBt (P T : Nat) (l : Int) (z : Option (Nat × Int32 × Nat × Nat × (Nat → Int) × Int)) (o : Option (Nat × Nat)) : Prop := (z = none ∧ o = none) ∨ ∃ g k M pt f e, z = some (g, k, M, pt, f, e) ∧ ((k = 3 ∧ o = some (0, T * 2 ^ P + 2 ^ (P - 1))) ∨ (k = 2 ∧ o = some (g, T * 2 ^ P)) ∨ (k = 0 ∧ ∃ b, yfRnd P T l (yuB 10 f M * 10 ^ (-((M : Int) - pt - e)).toNat) (10 ^ ((M : Int) - pt - e).toNat) b ∧ o = some (g, b)) ∨ (k = 1 ∧ ∃ b, yfRnd P T l (yuB 16 f M * 2 ^ (4 * ((pt : Int) - M) + e).toNat) (2 ^ (-(4 * ((pt : Int) - M) + e)).toNat) b ∧ o = some (g, b)))
def yFt (P T : Nat) (l : Int) (B : Nat → Int) (cap L : Nat) (o : Option (Nat × Nat)) : Prop := ∃ z, yFl B cap L z ∧ yBt P T l z o
theorem yRn_f {B : Nat → Int} {b : Int} {s p M : Nat} {o : Option Nat} {f : Nat → Int} (h : yRn B b s p M o f) : ∀ j, j < M → 0 ≤ f j ∧ f j < b := by
  intro j hj
  cases o with
  | none =>
    obtain ⟨h1, h2⟩ := h
    have := h2 j hj
    have := yDv_nn (c := B (s + j))
    omega
  | some k =>
    obtain ⟨h1, h2, h3, h4, h5⟩ := h
    by_cases c : j < k
    · have := h4 j c
      have := yDv_nn (c := B (s + j))
      omega
    · have := h5 j (by omega) hj
      have := yDv_nn (c := B (s + j + 1))
      omega
theorem yNr_k {B : Nat → Int} {cap L s p M pt : Nat} {k : Int32} {f : Nat → Int} {e : Int} (h : yNr B cap L s (some (k, p, M, pt, f, e))) : (k = 0 ∧ ∀ j, j < M → 0 ≤ f j ∧ f j < 10) ∨ (k = 1 ∧ ∀ j, j < M → 0 ≤ f j ∧ f j < 16) := by
  rcases h with ⟨h1, p', M', o, f', r1, r2, r3⟩ | ⟨h1, p', M', o, f', r1, r2, r3⟩
  · right
    rcases r3 with ⟨_, r3⟩ | ⟨_, _, w, _, r3⟩
    · cases r3
    · cases w with
      | none => cases r3
      | some q =>
        simp only [Option.map_some, Option.some.injEq, Prod.mk.injEq] at r3
        obtain ⟨rfl, _, rfl, _, rfl, _⟩ := r3
        exact ⟨rfl, yRn_f r1⟩
  · left
    rcases r3 with ⟨_, r3⟩ | ⟨_, _, r3⟩ | ⟨_, _, w, _, r3⟩
    · cases r3
    · simp only [Option.some.injEq, Prod.mk.injEq] at r3
      obtain ⟨rfl, _, rfl, _, rfl, _⟩ := r3
      exact ⟨rfl, yRn_f r1⟩
    · cases w with
      | none => cases r3
      | some q =>
        simp only [Option.map_some, Option.some.injEq, Prod.mk.injEq] at r3
        obtain ⟨rfl, _, rfl, _, rfl, _⟩ := r3
        exact ⟨rfl, yRn_f r1⟩
theorem yFl_k {B : Nat → Int} {cap L g M pt : Nat} {k : Int32} {f : Nat → Int} {e : Int} (h : yFl B cap L (some (g, k, M, pt, f, e))) : k = 2 ∨ k = 3 ∨ (k = 0 ∧ ∀ j, j < M → 0 ≤ f j ∧ f j < 10) ∨ (k = 1 ∧ ∀ j, j < M → 0 ≤ f j ∧ f j < 16) := by
  obtain ⟨a, r, h1, h2, h3⟩ := h
  rcases h3 with ⟨_, h3⟩ | ⟨k', p, M', pt', f', e', h3, h4⟩
  · cases h3
  · rcases h4 with ⟨_, h4⟩ | ⟨_, h4⟩
    · cases h4
    · simp only [Option.some.injEq, Prod.mk.injEq] at h4
      obtain ⟨_, rfl, rfl, rfl, rfl, rfl⟩ := h4
      rcases h2 with ⟨_, h2⟩ | ⟨_, h2⟩ | ⟨_, _, h2⟩
      · rw [h3] at h2
        simp only [Option.some.injEq, Prod.mk.injEq] at h2
        exact Or.inr (Or.inl h2.1)
      · rw [h3] at h2
        simp only [Option.some.injEq, Prod.mk.injEq] at h2
        exact Or.inl h2.1
      · rw [h3] at h2
        exact Or.inr (Or.inr (yNr_k h2))
theorem y_uV {t : Nat → Int32} {f : Nat → Int} : ∀ {M : Nat}, (∀ j, j < M → (t j).toInt = f j) → (∀ j, j < M → 0 ≤ f j) → uV t M = ((yuB 10 f M : Nat) : Int)
  | 0, _, _ => rfl
  | M + 1, h, g => by
    show uV t M * 10 + (t M).toInt = ((yuB 10 f M * 10 + (f M).toNat : Nat) : Int)
    rw [y_uV (fun j hj => h j (by omega)) (fun j hj => g j (by omega)), h M (by omega)]
    have := g M (by omega)
    omega
theorem y_hV {t : Nat → Int32} {f : Nat → Int} : ∀ {M : Nat}, (∀ j, j < M → (t j).toInt = f j) → yhV t M = yuB 16 f M
  | 0, _ => rfl
  | M + 1, h => by
    show yhV t M * 16 + (t M).toInt.toNat = yuB 16 f M * 16 + (f M).toNat
    rw [y_hV (fun j hj => h j (by omega)), h M (by omega)]
/-- infinity and no number, as bits -/
theorem y_sz2 {x2 x3 : Int32} {P T : Nat} {l : Int} (hH : yH x2 x3 P T l) : (((if x2 = 53 then (2047 : Int64) else 255) <<< ((x2 - 1 : Int32).toInt64 &&& 63)) ||| 0).toInt = ((T * 2 ^ P : Nat) : Int) ∧ (((if x2 = 53 then (2047 : Int64) else 255) <<< ((x2 - 1 : Int32).toInt64 &&& 63)) ||| ((1 : Int64) <<< ((x2 - 2 : Int32).toInt64 &&& 63))).toInt = ((T * 2 ^ P + 2 ^ (P - 1) : Nat) : Int) := by
  rcases hH with ⟨rfl, _, rfl, rfl, _⟩ | ⟨rfl, _, rfl, rfl, _⟩ <;> decide
theorem V_sz2 {x2 : Int32} {x3 : Int32} {t0_0 : Int32} {t0_1 : Int32} {t0_2 : Int32} {t0_3 : Int32} {t0_4 : Int32} {t0_5 : Int32} {t0_6 : Int32} {t0_7 : Int64} {t0_8 : Int32} {t0_9 : Int32} {t0_10 : Int64} {t0_11 : Int64} {t0_12 : Int32} {t0_13 : Int32} {t1_0 : (Nat → Int32)} {t2_0 : (Nat → Int32)} {P T : Nat} {l : Int} (hH : yH x2 x3 P T l) (h2 : t0_2 = 2 ∨ t0_2 = 3) : (F_TR_sizeRead x2 x3 t0_0 t0_1 t0_2 t0_3 t0_4 t0_5 t0_6 t0_7 t0_8 t0_9 t0_10 t0_11 t0_12 t0_13 t1_0 t2_0).1.toInt = (((if t0_2 = 3 then T * 2 ^ P + 2 ^ (P - 1) else T * 2 ^ P) : Nat) : Int) ∧ (F_TR_sizeRead x2 x3 t0_0 t0_1 t0_2 t0_3 t0_4 t0_5 t0_6 t0_7 t0_8 t0_9 t0_10 t0_11 t0_12 t0_13 t1_0 t2_0).2.2.2.1 = t0_2 ∧ (F_TR_sizeRead x2 x3 t0_0 t0_1 t0_2 t0_3 t0_4 t0_5 t0_6 t0_7 t0_8 t0_9 t0_10 t0_11 t0_12 t0_13 t1_0 t2_0).2.2.2.2.2.1 = t0_4 ∧ (F_TR_sizeRead x2 x3 t0_0 t0_1 t0_2 t0_3 t0_4 t0_5 t0_6 t0_7 t0_8 t0_9 t0_10 t0_11 t0_12 t0_13 t1_0 t2_0).2.1 = t0_0 := by
  obtain ⟨s1, s2⟩ := y_sz2 hH
  unfold F_TR_sizeRead
  rw [if_neg (show ¬ t0_2 ≤ (1 : Int32) by rcases h2 with h | h <;> rw [h] <;> decide)]
  by_cases c : x2 = 53
  · rw [if_pos c] at s1 s2 ⊢
    unfold F_TR_sizeRead_J23
    rcases h2 with h | h
    · rw [if_neg (show ¬ t0_2 = 3 by rw [h]; decide), if_neg (show ¬ t0_2 = 3 by rw [h]; decide)]
      exact ⟨s1, rfl, rfl, rfl⟩
    · rw [if_pos h, if_pos h]
      exact ⟨s2, rfl, rfl, rfl⟩
  · rw [if_neg c] at s1 s2 ⊢
    unfold F_TR_sizeRead_J23
    rcases h2 with h | h
    · rw [if_neg (show ¬ t0_2 = 3 by rw [h]; decide), if_neg (show ¬ t0_2 = 3 by rw [h]; decide)]
      exact ⟨s1, rfl, rfl, rfl⟩
    · rw [if_pos h, if_pos h]
      exact ⟨s2, rfl, rfl, rfl⟩
/-- the size of what scan left -/
theorem V_szS {x2 : Int32} {x3 : Int32} {t0_0 : Int32} {t0_1 : Int32} {t0_2 : Int32} {t0_3 : Int32} {t0_4 : Int32} {t0_5 : Int32} {t0_6 : Int32} {t0_7 : Int64} {t0_8 : Int32} {t0_9 : Int32} {t0_10 : Int64} {t0_11 : Int64} {t0_12 : Int32} {t0_13 : Int32} {t1_0 : (Nat → Int32)} {t2_0 : (Nat → Int32)} {P T L M pt g : Nat} {l e : Int} {B : Nat → Int} {f : Nat → Int} (hH : yH x2 x3 P T l) (hL : L ≤ 4100) (h1 : t0_1.toInt = (L : Int)) (hz : yFl B 1000000000 L (some (g, t0_2, M, pt, f, e))) (hg : g ≤ 1) (h4 : t0_4.toInt = (g : Int)) (h : t0_2 = 2 ∨ t0_2 = 3 ∨ (M ≤ L ∧ pt ≤ M ∧ t0_5.toInt = (M : Int) ∧ t0_6.toInt = (pt : Int) ∧ t0_7.toInt = e ∧ (-10000000000 ≤ e ∧ e ≤ 10000000000) ∧ ∀ j, j < M → (t1_0 j).toInt = f j)) : ∃ b : Nat, yFt P T l B 1000000000 L (some (if t0_2 = 3 then 0 else g, b)) ∧ (F_TR_sizeRead x2 x3 t0_0 t0_1 t0_2 t0_3 t0_4 t0_5 t0_6 t0_7 t0_8 t0_9 t0_10 t0_11 t0_12 t0_13 t1_0 t2_0).1.toInt = (b : Int) ∧ (F_TR_sizeRead x2 x3 t0_0 t0_1 t0_2 t0_3 t0_4 t0_5 t0_6 t0_7 t0_8 t0_9 t0_10 t0_11 t0_12 t0_13 t1_0 t2_0).2.2.2.1 = t0_2 ∧ (F_TR_sizeRead x2 x3 t0_0 t0_1 t0_2 t0_3 t0_4 t0_5 t0_6 t0_7 t0_8 t0_9 t0_10 t0_11 t0_12 t0_13 t1_0 t2_0).2.2.2.2.2.1 = t0_4 := by
  have word : t0_2 = 2 ∨ t0_2 = 3 → ∃ b : Nat, yFt P T l B 1000000000 L (some (if t0_2 = 3 then 0 else g, b)) ∧ (F_TR_sizeRead x2 x3 t0_0 t0_1 t0_2 t0_3 t0_4 t0_5 t0_6 t0_7 t0_8 t0_9 t0_10 t0_11 t0_12 t0_13 t1_0 t2_0).1.toInt = (b : Int) ∧ (F_TR_sizeRead x2 x3 t0_0 t0_1 t0_2 t0_3 t0_4 t0_5 t0_6 t0_7 t0_8 t0_9 t0_10 t0_11 t0_12 t0_13 t1_0 t2_0).2.2.2.1 = t0_2 ∧ (F_TR_sizeRead x2 x3 t0_0 t0_1 t0_2 t0_3 t0_4 t0_5 t0_6 t0_7 t0_8 t0_9 t0_10 t0_11 t0_12 t0_13 t1_0 t2_0).2.2.2.2.2.1 = t0_4 := fun h => by
    obtain ⟨s1, s2, s3, _⟩ := V_sz2 (t0_0 := t0_0) (t0_1 := t0_1) (t0_3 := t0_3) (t0_4 := t0_4) (t0_5 := t0_5) (t0_6 := t0_6) (t0_7 := t0_7) (t0_8 := t0_8) (t0_9 := t0_9) (t0_10 := t0_10) (t0_11 := t0_11) (t0_12 := t0_12) (t0_13 := t0_13) (t1_0 := t1_0) (t2_0 := t2_0) hH h
    refine ⟨_, ⟨_, hz, Or.inr ⟨g, t0_2, M, pt, f, e, rfl, ?_⟩⟩, s1, s2, s3⟩
    rcases h with h | h
    · have n3 : ¬ t0_2 = 3 := by rw [h]; decide
      rw [if_neg n3, if_neg n3]
      exact Or.inr (Or.inl ⟨h, rfl⟩)
    · rw [if_pos h, if_pos h]
      exact Or.inl ⟨h, rfl⟩
  rcases h with h | h | ⟨m1, m2, m3, m4, m5, m6, m7⟩
  · exact word (Or.inl h)
  · exact word (Or.inr h)
  · have hk := yFl_k hz
    have hx : (t0_2 = 2 ∨ t0_2 = 3) ∨ ∃ N D : Nat, ¬ t0_2 = 3 ∧ yTx t0_2 M t0_6.toInt t0_7.toInt t1_0 N D ∧ ∀ b, yfRnd P T l N D b → yBt P T l (some (g, t0_2, M, pt, f, e)) (some (g, b)) := by
      rcases hk with k | k | ⟨k, kf⟩ | ⟨k, kf⟩
      · exact Or.inl (Or.inl k)
      · exact Or.inl (Or.inr k)
      · refine Or.inr ⟨_, _, by rw [k]; decide, Or.inl ⟨k, fun i hi => ?_, _, y_uV m7 (fun j hj => (kf j hj).1), rfl, rfl⟩, fun b hb => Or.inr ⟨g, t0_2, M, pt, f, e, rfl, Or.inr (Or.inr (Or.inl ⟨k, b, ?_, rfl⟩))⟩⟩
        · rw [m7 i hi]
          have := kf i hi
          omega
        · rw [m4, m5] at hb
          exact hb
      · refine Or.inr ⟨_, _, by rw [k]; decide, Or.inr ⟨k, fun i hi => ?_, rfl, rfl⟩, fun b hb => Or.inr ⟨g, t0_2, M, pt, f, e, rfl, Or.inr (Or.inr (Or.inr ⟨k, b, ?_, rfl⟩))⟩⟩
        · rw [m7 i hi]
          have := kf i hi
          omega
        · rw [m4, m5, y_hV m7] at hb
          exact hb
    rcases hx with hx | ⟨N, D, n3, hT, hb⟩
    · exact word hx
    · obtain ⟨b, b1, b2, b3, b4⟩ := V_TR_sizeRead (t0_0 := t0_0) (t0_3 := t0_3) (t0_8 := t0_8) (t0_9 := t0_9) (t0_10 := t0_10) (t0_11 := t0_11) (t0_12 := t0_12) (t0_13 := t0_13) (t2_0 := t2_0) (t1_0 := t1_0) (t0_1 := t0_1) (t0_4 := t0_4) (t0_6 := t0_6) (t0_7 := t0_7) hH m3 (by omega) (by omega) (by omega) (by omega) (by omega) hT
      refine ⟨b, ⟨_, hz, ?_⟩, b2, b3, b4⟩
      rw [if_neg n3]
      exact hb b b1
theorem yFt_le {P T : Nat} {l : Int} {B : Nat → Int} {cap L g b : Nat} (h : yFt P T l B cap L (some (g, b))) : b ≤ T * 2 ^ P + 2 ^ (P - 1) := by
  obtain ⟨z, _, h⟩ := h
  have e : ∀ {x y : Nat} {u : Option (Nat × Nat)}, u = some (g, b) → u = some (x, y) → b = y := fun {x y u} h1 h2 => by
    rw [h1] at h2
    simp only [Option.some.injEq, Prod.mk.injEq] at h2
    exact h2.2
  rcases h with ⟨_, h⟩ | ⟨g', k, M, pt, f, x, _, h⟩
  · cases h
  · rcases h with ⟨_, h⟩ | ⟨_, h⟩ | ⟨_, c, hc, h⟩ | ⟨_, c, hc, h⟩
    · rw [e rfl h]
      exact Nat.le_refl _
    · rw [e rfl h]
      exact Nat.le_add_right _ _
    · rw [e rfl h]
      exact Nat.le_trans (yfRnd_le hc) (Nat.le_add_right _ _)
    · rw [e rfl h]
      exact Nat.le_trans (yfRnd_le hc) (Nat.le_add_right _ _)
