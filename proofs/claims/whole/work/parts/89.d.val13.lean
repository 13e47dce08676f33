/-! values: the guess of a figure -/
theorem v_gId {t v w : Int} : t * (v * 2147483648 + w) = t * v * 2147483648 + t * w := by rw [Int.mul_add, Int.mul_assoc]
theorem v_lcmpP {a b : Int64} : (0 : Int32) < lg_cmp a b ↔ b.toInt < a.toInt := by
  have h := s_lcmp (a := a) (b := b)
  have e : (0 : Int32).toInt = 0 := rfl
  constructor
  · intro h1
    have := q_ltI h1
    omega
  · intro h1
    exact Int32.lt_iff_toInt_lt.mpr (by omega)
theorem v_lcmpN {a b : Int64} : lg_cmp a b < (0 : Int32) ↔ a.toInt < b.toInt := by
  have h := s_lcmp (a := a) (b := b)
  have e : (0 : Int32).toInt = 0 := rfl
  constructor
  · intro h1
    have := q_ltI h1
    omega
  · intro h1
    exact Int32.lt_iff_toInt_lt.mpr (by omega)
theorem v_gEnd {H u t r v w : Int} (h1 : t * v + r = H) (h2 : t * w ≤ r * 2147483648 + u) : t * (v * 2147483648 + w) ≤ H * 2147483648 + u := by
  rw [v_gId, ← h1, Int.add_mul]
  omega
theorem v_gBig {H t r v w : Int} (h1 : t * v + r = H) (h2 : 2147483648 ≤ r) (h3 : H < v * 2147483648 + 2147483648) (hv : 0 ≤ v) (hw : 0 ≤ w) (hw2 : w < 2147483648) (ht : 0 ≤ t) : t ≤ 2147483647 ∧ t * w ≤ r * 2147483648 := by
  have h4 : t ≤ 2147483647 := by
    apply Int.le_of_not_gt
    intro h5
    have h6 : 2147483648 * v ≤ t * v := Int.mul_le_mul_of_nonneg_right (by omega) hv
    omega
  have h5 : t * w ≤ 2147483647 * 2147483647 := Int.mul_le_mul h4 (by omega) hw (by decide)
  exact ⟨h4, by omega⟩
theorem V_guessL {R x2 R2 s neg s2 neg2 : Int32} {g g2 : Nat → Int32} {v0 v1 : Int64} {H u0 : Int} (hv : 1073741824 ≤ v1.toInt) (hv' : v1.toInt < 2147483648) (hw : 0 ≤ v0.toInt) (hw' : v0.toInt < 2147483648) (hu : (F_Big_limb R (x2 - 2) s neg g).toInt = u0) (hu0 : 0 ≤ u0) (hH : H < v1.toInt * 2147483648 + 2147483648) :
    ∀ (n : Nat) (i : Int32) (r t : Int64), 0 ≤ i.toInt → i.toInt ≤ 2 → (2 - i.toInt).toNat < n → t.toInt * v1.toInt + r.toInt = H → i.toInt * v1.toInt ≤ r.toInt → r.toInt < (i.toInt + 1) * v1.toInt → 0 ≤ t.toInt → (H * 2147483648 + u0 < (t.toInt + 1) * (v1.toInt * 2147483648 + v0.toInt) ∨ 2147483647 ≤ t.toInt) →
    ∃ z : Int64, F_Big_guess_L67 R x2 R2 s neg g s2 neg2 g2 v0 v1 n i r t = z ∧ 0 ≤ z.toInt ∧ z.toInt ≤ 2147483647 ∧ z.toInt * (v1.toInt * 2147483648 + v0.toInt) ≤ H * 2147483648 + u0 ∧ (H * 2147483648 + u0 < (z.toInt + 1) * (v1.toInt * 2147483648 + v0.toInt) ∨ z.toInt = 2147483647) := by
  have hu1 : u0 < 2147483648 := by rw [← hu]; exact Int32.toInt_lt _
  intro n
  induction n with
  | zero => intro i r t h1 h2 h3; omega
  | succ n ih =>
    intro i r t h1 h2 h3 h4 h5 h6 h7 h8
    have e2 : (2 : Int32).toInt = 2 := rfl
    have eM : (2147483647 : Int64).toInt = 2147483647 := rfl
    have rb : r.toInt < 2147483648 * 3 := by
      have : (i.toInt + 1) * v1.toInt ≤ 3 * 2147483647 := Int.mul_le_mul (by omega) (by omega) (by omega) (by decide)
      omega
    have r0 : 0 ≤ r.toInt := by
      have : 0 ≤ i.toInt * v1.toInt := Int.mul_nonneg h1 (by omega)
      omega
    have tb : t.toInt ≤ 2147483648 * 2 + 2 := by
      apply Int.le_of_not_gt
      intro h9
      have h10 : (2147483648 * 2 + 2) * v1.toInt ≤ t.toInt * v1.toInt := Int.mul_le_mul_of_nonneg_right (by omega) (by omega)
      omega
    have big : 2147483648 ≤ r.toInt → ∃ z : Int64, t = z ∧ 0 ≤ z.toInt ∧ z.toInt ≤ 2147483647 ∧ z.toInt * (v1.toInt * 2147483648 + v0.toInt) ≤ H * 2147483648 + u0 ∧ (H * 2147483648 + u0 < (z.toInt + 1) * (v1.toInt * 2147483648 + v0.toInt) ∨ z.toInt = 2147483647) := fun hr => by
      obtain ⟨b1, b2⟩ := v_gBig h4 hr hH (by omega) hw hw' h7
      exact ⟨t, rfl, h7, b1, v_gEnd h4 (by omega), by omega⟩
    rw [F_Big_guess_L67.eq_2]
    by_cases hc : (2 : Int32) ≤ i
    · rw [if_pos hc]
      have := q_leI hc
      have h9 : 2 * v1.toInt ≤ i.toInt * v1.toInt := Int.mul_le_mul_of_nonneg_right (by omega) (by omega)
      exact big (by omega)
    · rw [if_neg hc]
      have hc2 := q_nleI hc
      by_cases hr : (0 : Int32) < lg_cmp r 2147483647
      · rw [if_pos hr]
        have := v_lcmpP.mp hr
        exact big (by omega)
      · rw [if_neg hr]
        clear big
        have hr2 : r.toInt ≤ 2147483647 := by
          apply Int.le_of_not_gt
          intro h9
          exact hr (v_lcmpP.mpr (by omega))
        obtain ⟨e1, -⟩ := v_sc h1 (by omega)
        have m1 : (r + v1 : Int64).toInt = r.toInt + v1.toInt := q_addL rfl rfl (by omega) (by omega)
        have m2 : (t - 1 : Int64).toInt = t.toInt - 1 := q_subL (y := 1) rfl rfl (by omega) (by omega)
        have go : 1 ≤ t.toInt → (H * 2147483648 + u0 < t.toInt * (v1.toInt * 2147483648 + v0.toInt) ∨ 2147483648 ≤ t.toInt) → ∃ z : Int64, F_Big_guess_L67 R x2 R2 s neg g s2 neg2 g2 v0 v1 n (i + 1) (r + v1) (t - 1) = z ∧ 0 ≤ z.toInt ∧ z.toInt ≤ 2147483647 ∧ z.toInt * (v1.toInt * 2147483648 + v0.toInt) ≤ H * 2147483648 + u0 ∧ (H * 2147483648 + u0 < (z.toInt + 1) * (v1.toInt * 2147483648 + v0.toInt) ∨ z.toInt = 2147483647) := fun t1 hh => by
          refine ih (i + 1) (r + v1) (t - 1) (by omega) (by omega) (by omega) ?_ ?_ ?_ (by omega) ?_
          · rw [m1, m2, Int.sub_mul]
            omega
          · rw [m1, e1, Int.add_mul]
            omega
          · rw [m1, e1, Int.add_mul (i.toInt + 1)]
            omega
          · rw [m2, show t.toInt - 1 + 1 = t.toInt by omega]
            omega
        by_cases ht : (0 : Int32) < lg_cmp t 2147483647
        · rw [if_pos ht]
          have := v_lcmpP.mp ht
          exact go (by omega) (Or.inr (by omega))
        · rw [if_neg ht]
          have ht2 : t.toInt ≤ 2147483647 := by
            apply Int.le_of_not_gt
            intro h9
            exact ht (v_lcmpP.mpr (by omega))
          have p1 : 0 ≤ t.toInt * v0.toInt := Int.mul_nonneg h7 hw
          have p2 : t.toInt * v0.toInt ≤ 2147483647 * 2147483647 := Int.mul_le_mul ht2 (by omega) hw (by decide)
          have m3 : (t * v0 : Int64).toInt = t.toInt * v0.toInt := q_mulL rfl rfl (by omega) (by omega)
          have i1 : (F_Big_limb R (x2 - 2) s neg g).toInt64.toInt = u0 := q_i2l hu
          have m4 := v_cat (x := r) (y := (F_Big_limb R (x2 - 2) s neg g).toInt64) r0 (by omega) (by omega) (by omega)
          rw [i1] at m4
          by_cases hk : (0 : Int32) < lg_cmp (t * v0) ((r <<< ((31 : Int32).toInt64 &&& 63)) ||| (F_Big_limb R (x2 - 2) s neg g).toInt64)
          · rw [if_pos hk]
            have h9 := v_lcmpP.mp hk
            rw [m3, m4] at h9
            have t1 : 1 ≤ t.toInt := by
              apply Int.le_of_not_gt
              intro h10
              have h11 : t.toInt = 0 := by omega
              rw [h11, Int.zero_mul] at h9
              omega
            refine go t1 (Or.inl ?_)
            rw [v_gId, ← h4, Int.add_mul]
            omega
          · rw [if_neg hk]
            have h9 : t.toInt * v0.toInt ≤ r.toInt * 2147483648 + u0 := by
              apply Int.le_of_not_gt
              intro h10
              exact hk (v_lcmpP.mpr (by rw [m3, m4]; exact h10))
            clear go
            exact ⟨t, rfl, h7, ht2, v_gEnd h4 h9, by omega⟩
theorem V_guess {R x2 R2 s neg s2 neg2 : Int32} {g g2 : Nat → Int32} {u2 u1 u0 v1 v0 : Int} (a2 : (F_Big_limb R x2 s neg g).toInt = u2) (a1 : (F_Big_limb R (x2 - 1) s neg g).toInt = u1) (a0 : (F_Big_limb R (x2 - 2) s neg g).toInt = u0) (b1 : (F_Big_limb R2 (s2 - 1) s2 neg2 g2).toInt = v1) (b0 : (F_Big_limb R2 (s2 - 2) s2 neg2 g2).toInt = v0)
    (h2 : 0 ≤ u2) (h1 : 0 ≤ u1) (h0 : 0 ≤ u0) (k1 : 1073741824 ≤ v1) (k0 : 0 ≤ v0) (huv : u2 ≤ v1) :
    ∃ z : Int64, F_Big_guess R x2 R2 s neg g s2 neg2 g2 = z ∧ 0 ≤ z.toInt ∧ z.toInt ≤ 2147483647 ∧ z.toInt * (v1 * 2147483648 + v0) ≤ (u2 * 2147483648 + u1) * 2147483648 + u0 ∧ ((u2 * 2147483648 + u1) * 2147483648 + u0 < (z.toInt + 1) * (v1 * 2147483648 + v0) ∨ z.toInt = 2147483647) := by
  have l1 : u1 < 2147483648 := by rw [← a1]; exact Int32.toInt_lt _
  have l2 : v1 < 2147483648 := by rw [← b1]; exact Int32.toInt_lt _
  have l3 : v0 < 2147483648 := by rw [← b0]; exact Int32.toInt_lt _
  have i2 : (F_Big_limb R x2 s neg g).toInt64.toInt = u2 := q_i2l a2
  have i1 : (F_Big_limb R (x2 - 1) s neg g).toInt64.toInt = u1 := q_i2l a1
  have j1 : (F_Big_limb R2 (s2 - 1) s2 neg2 g2).toInt64.toInt = v1 := q_i2l b1
  have j0 : (F_Big_limb R2 (s2 - 2) s2 neg2 g2).toInt64.toInt = v0 := q_i2l b0
  have c1 := v_cat (x := (F_Big_limb R x2 s neg g).toInt64) (y := (F_Big_limb R (x2 - 1) s neg g).toInt64) (by omega) (by omega) (by omega) (by omega)
  rw [i2, i1] at c1
  have mx : F_jMath_max_JJJ (F_Big_limb R2 (s2 - 1) s2 neg2 g2).toInt64 1 = (F_Big_limb R2 (s2 - 1) s2 neg2 g2).toInt64 := by
    unfold F_jMath_max_JJJ
    have e1 : (1 : Int64).toInt = 1 := rfl
    rw [if_neg (fun hh => by have := v_lcmpN.mp hh; omega)]
  unfold F_Big_guess
  rw [mx]
  obtain ⟨h, eh⟩ := q_nm ((F_Big_limb R x2 s neg g).toInt64 <<< ((31 : Int32).toInt64 &&& 63) ||| (F_Big_limb R (x2 - 1) s neg g).toInt64)
  obtain ⟨v, ev⟩ := q_nm (F_Big_limb R2 (s2 - 1) s2 neg2 g2).toInt64
  obtain ⟨w, ew⟩ := q_nm (F_Big_limb R2 (s2 - 2) s2 neg2 g2).toInt64
  rw [eh] at c1 ⊢
  rw [ev] at j1 ⊢
  rw [ew] at j0 ⊢
  have d1 := v_divL (x := h) (y := v) (by omega) (by omega)
  obtain ⟨q, eq⟩ := q_nm (h / v)
  rw [eq] at d1 ⊢
  have d2 := Int.emod_add_mul_ediv h.toInt v.toInt
  have d3 := Int.emod_nonneg h.toInt (show v.toInt ≠ 0 by omega)
  have d4 := Int.emod_lt_of_pos h.toInt (show 0 < v.toInt by omega)
  rw [← d1, Int.mul_comm] at d2
  have hb := Int64.toInt_lt h
  have q0 : 0 ≤ q.toInt := by rw [d1]; exact Int.ediv_nonneg (by omega) (by omega)
  have qv : 0 ≤ q.toInt * v.toInt := Int.mul_nonneg q0 (by omega)
  have m1 : (q * v : Int64).toInt = q.toInt * v.toInt := q_mulL rfl rfl (by omega) (by omega)
  have m2 : (h - q * v : Int64).toInt = h.toInt - q.toInt * v.toInt := q_subL rfl m1 (by omega) (by omega)
  obtain ⟨r, er⟩ := q_nm (h - q * v : Int64)
  rw [er] at m2 ⊢
  have e0 : (0 : Int32).toInt = 0 := rfl
  have up : h.toInt < (q.toInt + 1) * v.toInt := by rw [Int.add_mul]; omega
  have key := V_guessL (R := R) (x2 := x2) (R2 := R2) (s := s) (neg := neg) (s2 := s2) (neg2 := neg2) (g := g) (g2 := g2) (v0 := w) (v1 := v) (H := u2 * 2147483648 + u1) (u0 := u0) (by omega) (by omega) (by omega) (by omega) a0 h0 (by rw [j1]; have : u2 * 2147483648 ≤ v1 * 2147483648 := Int.mul_le_mul_of_nonneg_right huv (by decide); omega)
    ((2 - (0 : Int32).toInt).toNat + 1) 0 r q (by omega) (by omega) (by omega) (by rw [m2, c1]; omega) (by rw [e0, Int.zero_mul, m2]; omega) (by rw [e0, Int.zero_add, Int.one_mul, m2]; omega) q0 (Or.inl (by
      have h9 : (u2 * 2147483648 + u1 + 1) * 2147483648 ≤ (q.toInt + 1) * v.toInt * 2147483648 := Int.mul_le_mul_of_nonneg_right (by omega) (by decide)
      have h10 : u0 < 2147483648 := by rw [← a0]; exact Int32.toInt_lt _
      have h11 : 0 ≤ (q.toInt + 1) * w.toInt := Int.mul_nonneg (by omega) (by omega)
      rw [v_gId]
      rw [Int.add_mul (u2 * 2147483648 + u1)] at h9
      omega))
  rw [j1, j0] at key
  exact key
