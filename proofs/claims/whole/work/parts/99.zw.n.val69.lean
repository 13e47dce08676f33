/-! values, for whole: the reference's comparison and its root -/
theorem wC_neg {c : Int32} {a b : Int} (h : wC c a b) : wC (-c) (-a) (-b) := by
  rcases h with ⟨rfl, h⟩ | ⟨rfl, h⟩ | ⟨rfl, h⟩
  · exact Or.inl ⟨rfl, by omega⟩
  · exact Or.inr (Or.inr ⟨rfl, by omega⟩)
  · exact Or.inr (Or.inl ⟨rfl, by omega⟩)
theorem V_WR_compare {x2 : Int32} {x3 : Int32} {t0_0 : Int32} {t0_1 : Int32} {t0_2 : Int32} {t0_3 : Int32} {t0_4 : Int32} {t0_5 : Int32} {t0_6 : Int32} {t1_0 : (Nat → Int32)} {t2_0 : (Nat → Int32)} {t3_0 : (Nat → Int32)} {t4_0 : (Nat → Int32)} {W : Nat → Int} (hr : wRv t1_0 t2_0 W) (hx2 : 0 ≤ x2.toInt ∧ x2.toInt ≤ 10) (hx3 : 0 ≤ x3.toInt ∧ x3.toInt ≤ 10) : wC (F_WR_compare x2 x3 t0_0 t0_1 t0_2 t0_3 t0_4 t0_5 t0_6 t1_0 t2_0 t3_0 t4_0).1 (W x2.toNatClampNeg) (W x3.toNatClampNeg) ∧ (F_WR_compare x2 x3 t0_0 t0_1 t0_2 t0_3 t0_4 t0_5 t0_6 t1_0 t2_0 t3_0 t4_0).2.1 = 0 := by
  have c2 := q_clI (i := x2) rfl hx2.1
  have c3 := q_clI (i := x3) rfl hx3.1
  have a0 := (wVk_nn hx2 hr.1).1
  have b0 := (wVk_nn hx3 hr.1).1
  have t1 := (R_take (x2 := x2) (t0_0 := 0) (t0_1 := t0_1) (t0_2 := t0_2) (t0_3 := t0_3) (t0_4 := t0_4) (t0_5 := t0_5) (t0_6 := t0_6) (t1_0 := t1_0) (t2_0 := t3_0) hx2 hr.1).2
  have t2 := (R_take (x2 := x3) (t0_0 := 0) (t0_1 := t0_1) (t0_2 := t0_2) (t0_3 := t0_3) (t0_4 := t0_4) (t0_5 := t0_5) (t0_6 := t0_6) (t1_0 := t1_0) (t2_0 := t4_0) hx3 hr.1).2
  have hc := (R_cmp4 t1.1 t2.1).2
  have ea : wV (F_WR_take x2 264 0 t0_1 t0_2 t0_3 t0_4 t0_5 t0_6 t1_0 t3_0) 264 = wVk t1_0 x2 := t1.2
  have eb : wV (F_WR_take x3 264 0 t0_1 t0_2 t0_3 t0_4 t0_5 t0_6 t1_0 t4_0) 264 = wVk t1_0 x3 := t2.2
  rw [ea, eb] at hc
  have A := hr.2 x2.toNatClampNeg (by omega)
  have B := hr.2 x3.toNatClampNeg (by omega)
  have ka : wVi t1_0 x2.toNatClampNeg = wVk t1_0 x2 := rfl
  have kb : wVi t1_0 x3.toNatClampNeg = wVk t1_0 x3 := rfl
  rw [ka] at A
  rw [kb] at B
  unfold F_WR_compare
  rw [if_pos (w_no0 hx2), if_pos (w_no0 hx3)]
  unfold F_WR_compare_J20
  rw [if_pos (by decide)]
  by_cases d : t2_0 x2.toNatClampNeg = t2_0 x3.toNatClampNeg
  · rw [if_pos d]
    by_cases e : t2_0 x2.toNatClampNeg = 0
    · rw [if_pos e]
      rcases A with ⟨_, A⟩ | ⟨A, _⟩
      · rcases B with ⟨_, B⟩ | ⟨B, _⟩
        · rw [A, B]
          refine ⟨?_, rfl⟩
          dsimp only
          with_reducible exact hc
        · rw [← d, e] at B
          exact absurd B (by decide)
      · rw [e] at A
        exact absurd A (by decide)
    · rw [if_neg e]
      rcases A with ⟨A, _⟩ | ⟨_, _, A⟩
      · exact absurd A e
      · rcases B with ⟨B, _⟩ | ⟨_, _, B⟩
        · rw [← d] at B
          exact absurd B e
        · rw [A, B]
          refine ⟨?_, rfl⟩
          dsimp only
          with_reducible exact wC_neg hc
  · rw [if_neg d]
    by_cases e : t2_0 x2.toNatClampNeg = 0
    · rw [if_pos e]
      refine ⟨Or.inr (Or.inl ⟨rfl, ?_⟩), rfl⟩
      rcases A with ⟨_, A⟩ | ⟨A, _⟩
      · rcases B with ⟨B, _⟩ | ⟨_, B1, B⟩
        · exact absurd (e.trans B.symm) d
        · omega
      · rw [e] at A
        exact absurd A (by decide)
    · rw [if_neg e]
      refine ⟨Or.inr (Or.inr ⟨rfl, ?_⟩), rfl⟩
      rcases A with ⟨A, _⟩ | ⟨a1, A1, A⟩
      · exact absurd A e
      · rcases B with ⟨_, B⟩ | ⟨B, _⟩
        · omega
        · exact absurd (a1.trans B.symm) d
theorem w_pwMono {R : Int} {k N : Nat} (h1 : 1 ≤ R) (hk : k ≤ N) : R ^ k ≤ R ^ N := by
  have h0 : 0 < R ^ k := Int.pow_pos (by omega)
  have h3 : R ^ k * 1 ≤ R ^ k * R ^ (N - k) := Int.mul_le_mul_of_nonneg_left (by have := Int.pow_pos (n := R) (m := N - k) (by omega); omega) (by omega)
  rw [← Int.pow_add, show k + (N - k) = N by omega] at h3
  omega
theorem w_m264b {a b : Int} (ha : 0 ≤ a ∧ a < 65536 ^ 129) (hb : 0 ≤ b ∧ b < 65536 ^ 130) : a * b < 65536 ^ 264 := by
  have h1 : (65536 : Int) ^ (129 + 130) ≤ 65536 ^ 264 := w_pwle (by omega)
  rw [Int.pow_add] at h1
  have h3 := w_pos 130
  have h4 : a * b ≤ a * 65536 ^ 130 := Int.mul_le_mul_of_nonneg_left (by omega) ha.1
  have h5 : a * 65536 ^ 130 < 65536 ^ 129 * 65536 ^ 130 := Int.mul_lt_mul_of_pos_right ha.2 h3
  omega
def wFt (A P : Int) (p : Int32 × (Nat → Int32) × (Nat → Int32)) : Prop := (p.1 = 1 ∧ P ≤ A) ∨ (p.1 = 0 ∧ A < P)
theorem V_ftL {x2 : Int32} {t0_0 : Int32} {t0_1 : Int32} {t0_2 : Int32} {t0_3 : Int32} {t0_4 : Int32} {t0_5 : Int32} {t0_6 : Int32} {t1_0 : (Nat → Int32)} {t2_0 : (Nat → Int32)} {t3_0 : (Nat → Int32)} {t4_0 : (Nat → Int32)} {A Q : Int} {N : Nat} (hn : x2.toInt = (N : Int)) (hN : 1 ≤ N) (hN2 : N ≤ 64) (hQ : wK Q t1_0) (hQ1 : Q < 65536 ^ 130) (hA : wK A t4_0) (hA1 : A < 65536 ^ 128) : ∀ (n : Nat) (lx35 : Int32) (lx36 : (Nat → Int32)) (lx37 : (Nat → Int32)), ∀ k : Nat, lx35.toInt = (k : Int) → k ≤ N → N - k < n → (k = 0 ∨ Q ^ k ≤ A) → wK (Q ^ k) lx36 → wFt A (Q ^ N) (F_WR_fits_L10 x2 t0_0 t0_1 t0_2 t0_3 t0_4 t0_5 t0_6 t1_0 t2_0 t3_0 t4_0 n lx35 lx36 lx37) := by
  have e1 := v_e1
  have Q0 := hQ.nn
  have A0 := hA.nn
  have ea : wV t4_0 264 = A := hA.2
  have em : (-1 : Int32).toInt = -1 := rfl
  have e0 : (0 : Int32).toInt = 0 := rfl
  intro n
  induction n with
  | zero => intros; omega
  | succ n ih =>
    intro lx35 lx36 lx37 k hk hkN hkn hkA hp
    rw [F_WR_fits_L10.eq_2]
    by_cases c : x2 ≤ lx35
    · rw [if_pos c]
      have c2 := q_leI c
      have kN : k = N := by omega
      rw [kN] at hkA
      exact Or.inl ⟨rfl, hkA.resolve_left (by omega)⟩
    · rw [if_neg c]
      have c2 := q_nleI c
      have hp128 : (65536 : Int) ^ 128 ≤ 65536 ^ 129 := w_pwle (by omega)
      have hp1 : (65536 : Int) ^ 1 ≤ 65536 ^ 129 := w_pwle (by omega)
      rw [Int.pow_one] at hp1
      have hb : Q ^ k < 65536 ^ 129 := by
        rcases hkA with h | h
        · rw [h, Int.pow_zero]
          omega
        · omega
      have h1 : (fun p => wK (Q ^ k * Q) p.2) (F_WR_multiplyRows_a (264 : Int32) (264 : Int32) t0_0 t0_1 t0_2 t0_3 t0_4 t0_5 t0_6 lx37 lx36 t1_0) := (R_mul4aV hp hQ (w_m264b ⟨hp.nn, hb⟩ ⟨Q0, hQ1⟩)).2
      generalize (F_WR_multiplyRows_a (264 : Int32) (264 : Int32) t0_0 t0_1 t0_2 t0_3 t0_4 t0_5 t0_6 lx37 lx36 t1_0) = p63 at h1 ⊢
      unfold F_WR_fits_c28
      rw [← Int.pow_succ] at h1
      have hc := (R_cmp4 h1.1 hA.1).2
      have eq : wV p63.2 264 = Q ^ (k + 1) := h1.2
      rw [eq, ea] at hc
      by_cases d : F_WR_compareRows 264 264 p63.2 t4_0 ≤ 0
      · rw [if_pos d]
        have d2 := q_leI d
        have hle : Q ^ (k + 1) ≤ A := by
          rcases hc with ⟨_, h⟩ | ⟨h, _⟩ | ⟨_, h⟩
          · omega
          · rw [h] at d2
            omega
          · omega
        have ej : (lx35 + 1 : Int32).toInt = ((k + 1 : Nat) : Int) := by
          rw [q_addI hk e1 (by omega) (by omega)]
          omega
        exact ih _ _ _ (k + 1) ej (by omega) (by omega) (Or.inr hle) h1
      · rw [if_neg d]
        have d2 := q_nleI d
        have hlt : A < Q ^ (k + 1) := by
          rcases hc with ⟨h, _⟩ | ⟨_, h⟩ | ⟨h, _⟩
          · rw [h] at d2
            omega
          · exact h
          · rw [h] at d2
            omega
        have hq1 : 1 ≤ Q := by
          apply Classical.byContradiction
          intro h9
          rw [show Q = 0 by omega, Int.zero_pow (by omega)] at hlt
          omega
        have hmn := w_pwMono (N := N) hq1 (by omega : k + 1 ≤ N)
        exact Or.inr ⟨rfl, by omega⟩
theorem V_fits {x2 : Int32} {t0_0 : Int32} {t0_1 : Int32} {t0_2 : Int32} {t0_3 : Int32} {t0_4 : Int32} {t0_5 : Int32} {t0_6 : Int32} {t1_0 : (Nat → Int32)} {t2_0 : (Nat → Int32)} {t3_0 : (Nat → Int32)} {t4_0 : (Nat → Int32)} {A Q : Int} {N : Nat} (hn : x2.toInt = (N : Int)) (hN : 1 ≤ N) (hN2 : N ≤ 64) (hQ : wK Q t1_0) (hQ1 : Q < 65536 ^ 130) (hA : wK A t4_0) (hA1 : A < 65536 ^ 128) : wFt A (Q ^ N) (F_WR_fits x2 t0_0 t0_1 t0_2 t0_3 t0_4 t0_5 t0_6 t1_0 t2_0 t3_0 t4_0) := by
  have e0 : (0 : Int32).toInt = 0 := rfl
  unfold F_WR_fits
  exact V_ftL hn hN hN2 hQ hQ1 hA hA1 _ _ _ _ 0 e0 (by omega) (by rw [hn, e0]; omega) (Or.inl rfl) (by rw [Int.pow_zero]; exact R_setOne.2)
