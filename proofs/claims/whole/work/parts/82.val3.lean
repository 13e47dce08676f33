/-! values: the sum of sizes -/
theorem v_add3 {a b c : Int32} (ha : 0 ≤ a.toInt) (hb : 0 ≤ b.toInt) (hc : 0 ≤ c.toInt) (hc1 : c.toInt ≤ 1) : 0 ≤ ((a + b + c) &&& 2147483647).toInt ∧ ((a + b + c) &&& 2147483647).toInt + 2147483648 * (((a + b + c).toUInt32 >>> ((31 : Int32).toUInt32 &&& Int32.toUInt32 31)).toInt32).toInt = a.toInt + b.toInt + c.toInt ∧ 0 ≤ (((a + b + c).toUInt32 >>> ((31 : Int32).toUInt32 &&& Int32.toUInt32 31)).toInt32).toInt ∧ (((a + b + c).toUInt32 >>> ((31 : Int32).toUInt32 &&& Int32.toUInt32 31)).toInt32).toInt ≤ 1 := by
  have h1 := v_and31I (x := a + b + c)
  have h2 := v_ushr31I (x := a + b + c)
  have h3 := Int32.toInt_lt a
  have h4 := Int32.toInt_lt b
  have h5 : (a + b + c).toInt = a.toInt + b.toInt + c.toInt ∨ (a + b + c).toInt = a.toInt + b.toInt + c.toInt - 4294967296 := by
    have e : ((2 ^ 32 : Nat) : Int) = 4294967296 := rfl
    rw [Int32.toInt_add, Int32.toInt_add, Int.bmod_def, Int.bmod_def, e]
    split <;> split <;> omega
  have h6 := Int32.le_toInt (a + b + c)
  have h7 := Int32.toInt_lt (a + b + c)
  obtain ⟨x, hx⟩ := q_nm (a + b + c)
  rw [hx] at h1 h2 h5 h6 h7 ⊢
  rw [h1.2, h2]
  split <;> omega
theorem v_addId {A S U a b c m k P I J : Int} (h : m + 2147483648 * k = a + b + c) : (A + m * P) + (S - (I + a * P)) + (U - (J + b * P)) + k * (P * 2147483648) = A + (S - I) + (U - J) + c * P := by
  have h2 : (m + 2147483648 * k) * P = (a + b + c) * P := by rw [h]
  simp only [Int.add_mul] at h2
  have e2 : k * (P * 2147483648) = 2147483648 * k * P := by rw [Int.mul_comm P, ← Int.mul_assoc, Int.mul_comm k]
  omega
/-- the sum of two sizes: the loop -/
theorem V_addL {R R2 s neg s2 neg2 top : Int32} {g0 g2 : Nat → Int32} (hs : 0 ≤ s.toInt) (hs2 : 0 ≤ s2.toInt) (ht : 0 ≤ top.toInt) (htR : top.toInt ≤ R.toInt) (hR : R.toInt ≤ 220) (ok2 : okL g2 s2.toNatClampNeg) :
    ∀ (n : Nat) (i c : Int32) (f : Nat → Int32), 0 ≤ i.toInt → i.toInt ≤ top.toInt → 0 ≤ c.toInt → c.toInt ≤ 1 → (∀ j, j < s.toNatClampNeg ∨ j < i.toNatClampNeg → 0 ≤ (f j).toInt) → (top.toInt - i.toInt).toNat < n →
    ∃ (z : Int32) (h : Nat → Int32), F_Big_addSize_L25 R R2 s neg g0 s2 neg2 g2 top n i c f = (z, neg, h) ∧ top.toInt ≤ z.toInt ∧ z.toInt ≤ top.toInt + 1 ∧ z.toInt ≤ R.toInt ∧ okL h z.toNatClampNeg ∧
      (top.toInt < R.toInt → vB h z.toNatClampNeg = vB f i.toNatClampNeg + (vL f s.toNatClampNeg top.toNatClampNeg - vL f s.toNatClampNeg i.toNatClampNeg) + (vL g2 s2.toNatClampNeg top.toNatClampNeg - vL g2 s2.toNatClampNeg i.toNatClampNeg) + c.toInt * 2147483648 ^ i.toNatClampNeg) := by
  intro n
  induction n with
  | zero => intro i c f h1 h2 h3 h4 h5 h6; omega
  | succ n ih =>
    intro i c f h1 h2 h3 h4 h5 h6
    have ei := q_clI (i := i) rfl h1
    have et := q_clI (i := top) rfl ht
    have e0 : (0 : Int32).toInt = 0 := rfl
    rw [F_Big_addSize_L25.eq_2]
    by_cases hc : top ≤ i
    · rw [if_pos hc]
      have hi : i = top := Int32.toInt_inj.mp (by have := q_leI hc; omega)
      subst hi
      have ok : okL f i.toNatClampNeg := fun j hj => h5 j (Or.inr hj)
      by_cases c0 : c = (0 : Int32)
      · rw [if_pos c0]
        refine ⟨i, f, rfl, Int.le_refl _, by omega, htR, ok, fun _ => ?_⟩
        rw [c0, e0, Int.zero_mul]
        omega
      · rw [if_neg c0]
        by_cases hr : R ≤ i
        · have := q_leI hr
          have ep : F_Big_push R c i neg f = (i, neg, f) := by unfold F_Big_push; rw [if_pos hr]
          rw [ep]
          exact ⟨i, f, rfl, Int.le_refl _, by omega, htR, ok, fun h => by omega⟩
        · have := q_nleI hr
          have ep : F_Big_push R c i neg f = (i + 1, neg, upd f i.toNatClampNeg c) := by unfold F_Big_push; rw [if_neg hr]
          rw [ep]
          obtain ⟨e1, e2⟩ := v_sc h1 (by omega)
          refine ⟨i + 1, _, rfl, by omega, by omega, by omega, ?_, fun _ => ?_⟩
          · rw [e2]
            exact okL_push ok h3
          · rw [e2, v_upd_in]
            omega
    · rw [if_neg hc]
      have hc2 := q_nleI hc
      have la := v_limb (R := R) (i := i) (s := s) (neg := neg) (f := f) h1 hs
      have lb := v_limb (R := R2) (i := i) (s := s2) (neg := neg2) (f := g2) h1 hs2
      obtain ⟨a, eA⟩ := q_nm (F_Big_limb R i s neg f)
      obtain ⟨b, eB⟩ := q_nm (F_Big_limb R2 i s2 neg2 g2)
      rw [eA] at la ⊢
      rw [eB] at lb ⊢
      have a0 : 0 ≤ a.toInt := by
        rw [la]
        split
        · exact h5 _ (Or.inl ‹_›)
        · exact Int.le_refl 0
      have b0 : 0 ≤ b.toInt := by
        rw [lb]
        split
        · exact ok2 _ ‹_›
        · exact Int.le_refl 0
      obtain ⟨q1, q2, q3, q4⟩ := v_add3 a0 b0 h3 h4
      obtain ⟨m, em⟩ := q_nm ((a + b + c) &&& 2147483647 : Int32)
      obtain ⟨k, ek⟩ := q_nm (((a + b + c).toUInt32 >>> ((31 : Int32).toUInt32 &&& Int32.toUInt32 31)).toInt32)
      rw [em] at q1 q2 ⊢
      rw [ek] at q2 q3 q4 ⊢
      obtain ⟨e1, e2⟩ := v_sc h1 (by omega)
      obtain ⟨z, h, r1, r2, r3, r4, r5, r6⟩ := ih (i + 1) k (upd f i.toNatClampNeg m) (by omega) (by omega) q3 q4 (fun j hj => by
        by_cases e : j = i.toNatClampNeg
        · subst e; rw [v_eq]; exact q1
        · rw [v_ne e]; exact h5 j (by omega)) (by omega)
      refine ⟨z, h, r1, r2, r3, r4, r5, fun hh => ?_⟩
      rw [r6 hh, e2, v_upd_in]
      have d1 := vL_df (f := f) (s := s.toNatClampNeg) (i := i.toNatClampNeg) (x := m) (n := top.toNatClampNeg) (by omega)
      obtain ⟨I, eI⟩ := q_nm i.toNatClampNeg
      rw [eI] at d1 la lb ⊢
      have d2 : vL f s.toNatClampNeg (I + 1) = vL f s.toNatClampNeg I + a.toInt * 2147483648 ^ I := by rw [la]; rfl
      have d3 : vL g2 s2.toNatClampNeg (I + 1) = vL g2 s2.toNatClampNeg I + b.toInt * 2147483648 ^ I := by rw [lb]; rfl
      rw [d1, d2, d3, v_pw]
      exact v_addId q2
