/-! values: the difference of sizes -/
theorem v_upd_n {f : Nat → Int32} {i n : Nat} {x : Int32} (h : i < n) : vB (upd f i x) n = vB f n + (x.toInt - (f i).toInt) * 2147483648 ^ i := by
  have h1 := v_upd_df (f := f) (x := x) h
  have h2 : vB f (i + 1) = vB f i + (f i).toInt * 2147483648 ^ i := rfl
  rw [v_upd_in, h2] at h1
  rw [Int.sub_mul]
  omega
theorem v_sub3 {a b c : Int32} (ha : 0 ≤ a.toInt) (hb : 0 ≤ b.toInt) (hc : 0 ≤ c.toInt) (hc1 : c.toInt ≤ 1) : 0 ≤ ((a - b - c) &&& 2147483647).toInt ∧ ((a - b - c) &&& 2147483647).toInt - 2147483648 * (((a - b - c).toUInt32 >>> ((31 : Int32).toUInt32 &&& Int32.toUInt32 31)).toInt32).toInt = a.toInt - b.toInt - c.toInt ∧ 0 ≤ (((a - b - c).toUInt32 >>> ((31 : Int32).toUInt32 &&& Int32.toUInt32 31)).toInt32).toInt ∧ (((a - b - c).toUInt32 >>> ((31 : Int32).toUInt32 &&& Int32.toUInt32 31)).toInt32).toInt ≤ 1 := by
  have h1 := v_and31I (x := a - b - c)
  have h2 := v_ushr31I (x := a - b - c)
  have h3 := Int32.toInt_lt a
  have h4 := Int32.toInt_lt b
  have h5 : (a - b - c).toInt = a.toInt - b.toInt - c.toInt := q_subI (q_subI rfl rfl (by omega) (by omega)) rfl (by omega) (by omega)
  obtain ⟨x, hx⟩ := q_nm (a - b - c)
  rw [hx] at h1 h2 h5 ⊢
  rw [h1.2, h2]
  split <;> omega
theorem v_subId {V a b c m k P G I : Int} (h : m - 2147483648 * k = a - b - c) : (V + (m - a) * P) - (G - (I + b * P)) - k * (P * 2147483648) = V - (G - I) - c * P := by
  have h2 : (m - 2147483648 * k) * P = (a - b - c) * P := by rw [h]
  simp only [Int.sub_mul] at h2 ⊢
  have e2 : k * (P * 2147483648) = 2147483648 * k * P := by rw [Int.mul_comm P, ← Int.mul_assoc, Int.mul_comm k]
  omega
/-- the difference of two sizes: the loop; w is what is owed behind the last limb -/
theorem V_subL {R R2 s neg s2 neg2 : Int32} {g0 g2 : Nat → Int32} (hs : 0 ≤ s.toInt) (hs2 : 0 ≤ s2.toInt) (hsR : s.toInt ≤ 220) (ok2 : okL g2 s2.toNatClampNeg) :
    ∀ (n : Nat) (i c : Int32) (f : Nat → Int32), 0 ≤ i.toInt → i.toInt ≤ s.toInt → 0 ≤ c.toInt → c.toInt ≤ 1 → okL f s.toNatClampNeg → (s.toInt - i.toInt).toNat < n →
    ∃ (h : Nat → Int32) (w : Int), F_Big_subtractSize_L4 R R2 s neg g0 s2 neg2 g2 n i c f = ((F_Big_trim R s neg h).1, (F_Big_trim R s neg h).2, h) ∧ okL h s.toNatClampNeg ∧ 0 ≤ w ∧ w ≤ 1 ∧
      vB h s.toNatClampNeg - w * 2147483648 ^ s.toNatClampNeg = vB f s.toNatClampNeg - (vL g2 s2.toNatClampNeg s.toNatClampNeg - vL g2 s2.toNatClampNeg i.toNatClampNeg) - c.toInt * 2147483648 ^ i.toNatClampNeg := by
  intro n
  induction n with
  | zero => intro i c f h1 h2 h3 h4 h5 h6; omega
  | succ n ih =>
    intro i c f h1 h2 h3 h4 h5 h6
    have ei := q_clI (i := i) rfl h1
    have es := q_clI (i := s) rfl hs
    rw [F_Big_subtractSize_L4.eq_2]
    by_cases hc : s ≤ i
    · rw [if_pos hc]
      have hi : i = s := Int32.toInt_inj.mp (by have := q_leI hc; omega)
      subst hi
      exact ⟨f, c.toInt, rfl, h5, h3, h4, by omega⟩
    · rw [if_neg hc]
      have hc2 := q_nleI hc
      have lb := v_limb (R := R2) (i := i) (s := s2) (neg := neg2) (f := g2) h1 hs2
      obtain ⟨b, eB⟩ := q_nm (F_Big_limb R2 i s2 neg2 g2)
      obtain ⟨a, eA⟩ := q_nm (f i.toNatClampNeg)
      rw [eB] at lb ⊢
      rw [eA]
      have a0 : 0 ≤ a.toInt := by rw [← eA]; exact h5 _ (by omega)
      have b0 : 0 ≤ b.toInt := by
        rw [lb]
        split
        · exact ok2 _ ‹_›
        · exact Int.le_refl 0
      obtain ⟨q1, q2, q3, q4⟩ := v_sub3 a0 b0 h3 h4
      obtain ⟨m, em⟩ := q_nm ((a - b - c) &&& 2147483647 : Int32)
      obtain ⟨k, ek⟩ := q_nm (((a - b - c).toUInt32 >>> ((31 : Int32).toUInt32 &&& Int32.toUInt32 31)).toInt32)
      rw [em] at q1 q2 ⊢
      rw [ek] at q2 q3 q4 ⊢
      obtain ⟨e1, e2⟩ := v_sc h1 (by omega)
      obtain ⟨h, w, r1, r2, r3, r4, r5⟩ := ih (i + 1) k (upd f i.toNatClampNeg m) (by omega) (by omega) q3 q4 (okL_upd h5 q1) (by omega)
      refine ⟨h, w, r1, r2, r3, r4, ?_⟩
      have d1 := v_upd_n (f := f) (i := i.toNatClampNeg) (x := m) (n := s.toNatClampNeg) (by omega)
      rw [r5, e2, d1, eA]
      obtain ⟨I, eI⟩ := q_nm i.toNatClampNeg
      rw [eI] at lb ⊢
      have d3 : vL g2 s2.toNatClampNeg (I + 1) = vL g2 s2.toNatClampNeg I + b.toInt * 2147483648 ^ I := by rw [lb]; rfl
      rw [d3, v_pw]
      exact v_subId q2
