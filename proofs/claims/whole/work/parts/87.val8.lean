/-! values: the other difference of sizes -/
theorem v_sbfId {A S U a b c m k P I J : Int} (h : m - 2147483648 * k = a - b - c) : (A + m * P) + (U - (J + a * P)) - (S - (I + b * P)) - k * (P * 2147483648) = A + (U - J) - (S - I) - c * P := by
  have h2 : (m - 2147483648 * k) * P = (a - b - c) * P := by rw [h]
  simp only [Int.sub_mul] at h2
  have e2 : k * (P * 2147483648) = 2147483648 * k * P := by rw [Int.mul_comm P, ← Int.mul_assoc, Int.mul_comm k]
  omega
/-- the other's size less this one's: the loop -/
theorem V_sbfL {R R2 s neg s2 neg2 top : Int32} {g0 g2 : Nat → Int32} (hs : 0 ≤ s.toInt) (ht : 0 ≤ top.toInt) (htR : top.toInt ≤ 220) (ok2 : okL g2 top.toNatClampNeg) :
    ∀ (n : Nat) (i c : Int32) (f : Nat → Int32), 0 ≤ i.toInt → i.toInt ≤ top.toInt → 0 ≤ c.toInt → c.toInt ≤ 1 → (∀ j, j < s.toNatClampNeg ∨ j < i.toNatClampNeg → 0 ≤ (f j).toInt) → (top.toInt - i.toInt).toNat < n →
    ∃ (h : Nat → Int32) (w : Int), F_Big_subtractFrom_L18 R R2 s neg g0 s2 neg2 g2 top n i c f = ((F_Big_trim R top neg h).1, (F_Big_trim R top neg h).2, h) ∧ okL h top.toNatClampNeg ∧ 0 ≤ w ∧ w ≤ 1 ∧
      vB h top.toNatClampNeg - w * 2147483648 ^ top.toNatClampNeg = vB f i.toNatClampNeg + (vB g2 top.toNatClampNeg - vB g2 i.toNatClampNeg) - (vL f s.toNatClampNeg top.toNatClampNeg - vL f s.toNatClampNeg i.toNatClampNeg) - c.toInt * 2147483648 ^ i.toNatClampNeg := by
  intro n
  induction n with
  | zero => intro i c f h1 h2 h3 h4 h5 h6; omega
  | succ n ih =>
    intro i c f h1 h2 h3 h4 h5 h6
    have ei := q_clI (i := i) rfl h1
    have et := q_clI (i := top) rfl ht
    rw [F_Big_subtractFrom_L18.eq_2]
    by_cases hc : top ≤ i
    · rw [if_pos hc]
      have hi : i = top := Int32.toInt_inj.mp (by have := q_leI hc; omega)
      subst hi
      exact ⟨f, c.toInt, rfl, fun j hj => h5 j (Or.inr hj), h3, h4, by omega⟩
    · rw [if_neg hc]
      have hc2 := q_nleI hc
      have lb := v_limb (R := R) (i := i) (s := s) (neg := neg) (f := f) h1 hs
      obtain ⟨b, eB⟩ := q_nm (F_Big_limb R i s neg f)
      obtain ⟨a, eA⟩ := q_nm (g2 i.toNatClampNeg)
      rw [eB] at lb ⊢
      rw [eA]
      have a0 : 0 ≤ a.toInt := by rw [← eA]; exact ok2 _ (by omega)
      have b0 : 0 ≤ b.toInt := by
        rw [lb]
        split
        · exact h5 _ (Or.inl ‹_›)
        · exact Int.le_refl 0
      obtain ⟨q1, q2, q3, q4⟩ := v_sub3 a0 b0 h3 h4
      obtain ⟨m, em⟩ := q_nm ((a - b - c) &&& 2147483647 : Int32)
      obtain ⟨k, ek⟩ := q_nm (((a - b - c).toUInt32 >>> ((31 : Int32).toUInt32 &&& Int32.toUInt32 31)).toInt32)
      rw [em] at q1 q2 ⊢
      rw [ek] at q2 q3 q4 ⊢
      obtain ⟨e1, e2⟩ := v_sc h1 (by omega)
      obtain ⟨h, w, r1, r2, r3, r4, r5⟩ := ih (i + 1) k (upd f i.toNatClampNeg m) (by omega) (by omega) q3 q4 (fun j hj => by
        by_cases e : j = i.toNatClampNeg
        · subst e; rw [v_eq]; exact q1
        · rw [v_ne e]; exact h5 j (by omega)) (by omega)
      refine ⟨h, w, r1, r2, r3, r4, ?_⟩
      rw [r5, e2, v_upd_in]
      have d1 := vL_df (f := f) (s := s.toNatClampNeg) (i := i.toNatClampNeg) (x := m) (n := top.toNatClampNeg) (by omega)
      obtain ⟨I, eI⟩ := q_nm i.toNatClampNeg
      rw [eI] at d1 lb eA ⊢
      have d2 : vL f s.toNatClampNeg (I + 1) = vL f s.toNatClampNeg I + b.toInt * 2147483648 ^ I := by rw [lb]; rfl
      have d3 : vB g2 (I + 1) = vB g2 I + a.toInt * 2147483648 ^ I := by rw [← eA]; rfl
      rw [d1, d2, d3, v_pw]
      exact v_sbfId q2
