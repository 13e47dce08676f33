/-! values: division by one limb, the loop -/
theorem v_divId {V K Q a r t P y : Int} (h : Q * y + t = r * 2147483648 + a) : (V + (Q - a) * P - K) * y + (t * P + K) = (V - (K + a * P)) * y + (r * (P * 2147483648) + (K + a * P)) := by
  have h2 : (Q * y + t) * P = (r * 2147483648 + a) * P := by rw [h]
  simp only [Int.add_mul, Int.sub_mul] at h2 ⊢
  have e1 : Q * P * y = Q * y * P := Int.mul_right_comm _ _ _
  have e2 : r * (P * 2147483648) = r * 2147483648 * P := by rw [Int.mul_comm P, Int.mul_assoc]
  omega
theorem V_divL {R x2 s neg y : Int32} {g0 : Nat → Int32} (hy : 0 < y.toInt) :
    ∀ (n m : Nat) (i : Int32) (r : Int64) (f : Nat → Int32), i.toInt = (m : Int) - 1 → m ≤ s.toNatClampNeg → m < n → 0 ≤ r.toInt → r.toInt < y.toInt → okL f s.toNatClampNeg →
    ∃ (q : Int64) (h : Nat → Int32), F_Big_divideSmall_L16 R x2 s neg g0 y n i r f = (q.toInt32, (F_Big_trim R s neg h).1, (F_Big_trim R s neg h).2, h) ∧ okL h s.toNatClampNeg ∧ 0 ≤ q.toInt ∧ q.toInt < y.toInt ∧
      vB h s.toNatClampNeg * y.toInt + q.toInt = (vB f s.toNatClampNeg - vB f m) * y.toInt + (r.toInt * 2147483648 ^ m + vB f m) := by
  intro n
  induction n with
  | zero => intro m i r f h1 h2 h3; omega
  | succ n ih =>
    intro m i r f h1 h2 h3 h4 h5 h6
    have e0 : (0 : Int32).toInt = 0 := rfl
    have hy2 := Int32.toInt_lt y
    rw [F_Big_divideSmall_L16.eq_2]
    by_cases hc : i < 0
    · rw [if_pos hc]
      have := q_ltI hc
      have hm : m = 0 := by omega
      subst hm
      refine ⟨r, f, rfl, h6, h4, h5, ?_⟩
      show _ = (vB f s.toNatClampNeg - 0) * y.toInt + (r.toInt * 1 + 0)
      rw [Int.sub_zero, Int.mul_one, Int.add_zero]
    · rw [if_neg hc]
      have h7 := q_nltI hc
      obtain ⟨k, rfl⟩ : ∃ k, m = k + 1 := ⟨m - 1, by omega⟩
      have ek : i.toNatClampNeg = k := by have := q_clI (i := i) rfl (by omega); omega
      rw [ek]
      obtain ⟨a, eA⟩ := q_nm (f k)
      rw [eA]
      have a0 : 0 ≤ a.toInt := by rw [← eA]; exact h6 _ (by omega)
      have a1 := Int32.toInt_lt a
      have i1 : a.toInt64.toInt = a.toInt := q_i2l rfl
      have i2 : y.toInt64.toInt = y.toInt := q_i2l rfl
      have c1 := v_cat (x := r) (y := a.toInt64) h4 (by omega) (by omega) (by omega)
      rw [i1] at c1
      obtain ⟨p, ep⟩ := q_nm ((r <<< ((31 : Int32).toInt64 &&& 63) : Int64) ||| a.toInt64)
      rw [ep] at c1 ⊢
      have p0 : 0 ≤ p.toInt := by omega
      have d1 := v_divL (x := p) (y := y.toInt64) p0 (by omega)
      rw [i2] at d1
      have d2 : 0 ≤ p.toInt / y.toInt := Int.ediv_nonneg p0 (by omega)
      have d3 : p.toInt / y.toInt < 2147483648 := Int.ediv_lt_of_lt_mul hy (by
        have : (r.toInt + 1) * 2147483648 ≤ y.toInt * 2147483648 := Int.mul_le_mul_of_nonneg_right (by omega) (by decide)
        omega)
      obtain ⟨Q, eQ⟩ := q_nm (p / y.toInt64)
      rw [eQ] at d1 ⊢
      have d4 := Int.emod_add_mul_ediv p.toInt y.toInt
      have d5 := Int.emod_nonneg p.toInt (show y.toInt ≠ 0 by omega)
      have d6 := Int.emod_lt_of_pos p.toInt hy
      have d7 : Q.toInt * y.toInt = y.toInt * (p.toInt / y.toInt) := by rw [d1, Int.mul_comm]
      have hp := Int64.toInt_lt p
      have m0 : 0 ≤ Q.toInt * y.toInt := Int.mul_nonneg (by omega) (by omega)
      have m1 : (Q * y.toInt64 : Int64).toInt = Q.toInt * y.toInt := q_mulL rfl i2 (by omega) (by omega)
      have m2 : (p - Q * y.toInt64 : Int64).toInt = p.toInt - Q.toInt * y.toInt := q_subL rfl m1 (by omega) (by omega)
      obtain ⟨t, et⟩ := q_nm (p - Q * y.toInt64 : Int64)
      rw [et] at m2 ⊢
      have q32 : Q.toInt32.toInt = Q.toInt := s_l2i (by omega) (by omega)
      obtain ⟨j, ej⟩ := q_nm (i + (-1) : Int32)
      have i4 := Int32.toInt_lt i
      have e2 : (i + (-1) : Int32).toInt = i.toInt + (-1) := q_addI (y := -1) rfl (by decide) (by omega) (by omega)
      rw [ej] at e2 ⊢
      obtain ⟨q, h, r1, r2, r3, r4, r5⟩ := ih k j t (upd f k Q.toInt32) (by omega) (by omega) (by omega) (by omega) (by omega) (okL_upd h6 (by omega))
      refine ⟨q, h, r1, r2, r3, r4, ?_⟩
      have g1 := v_upd_n (f := f) (i := k) (x := Q.toInt32) (n := s.toNatClampNeg) (by omega)
      have g2 : vB f (k + 1) = vB f k + a.toInt * 2147483648 ^ k := by rw [← eA]; rfl
      rw [r5, g1, v_upd_ge (Nat.le_refl k), q32, eA, g2, v_pw]
      exact v_divId (by omega)
