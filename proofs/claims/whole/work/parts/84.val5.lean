/-! values: which size is greater -/
theorem v_icmp {x y : Int32} : ((F_jInt_compare x y).toInt = 0 ∧ x.toInt = y.toInt) ∨ ((F_jInt_compare x y).toInt < 0 ∧ x.toInt < y.toInt) ∨ (0 < (F_jInt_compare x y).toInt ∧ y.toInt < x.toInt) := by
  unfold F_jInt_compare
  by_cases h : y ≤ x
  · rw [if_pos h]
    have := q_leI h
    by_cases h2 : x = y
    · rw [if_pos h2]
      subst h2
      exact Or.inl ⟨rfl, rfl⟩
    · rw [if_neg h2]
      have h3 := q_neI h2
      exact Or.inr (Or.inr ⟨by decide, by omega⟩)
  · rw [if_neg h]
    have := q_nleI h
    exact Or.inr (Or.inl ⟨by decide, by omega⟩)
theorem v_top {f g : Nat → Int32} {k : Nat} (hf : okL f (k + 1)) (hg : okL g (k + 1)) (h : (f k).toInt < (g k).toInt) : vB f (k + 1) < vB g (k + 1) := by
  have h1 := v_lt (hf.mono (Nat.le_succ k))
  have h2 := v_nn (hg.mono (Nat.le_succ k))
  have h3 : ((f k).toInt + 1) * 2147483648 ^ k ≤ (g k).toInt * 2147483648 ^ k := Int.mul_le_mul_of_nonneg_right (by omega) (Int.le_of_lt (v_pos k))
  rw [Int.add_mul, Int.one_mul] at h3
  show vB f k + _ < vB g k + _
  omega
/-- limbs compared from the first on -/
theorem V_cmpL {R R2 s neg s2 neg2 : Int32} {f g : Nat → Int32} : ∀ (n m : Nat) (i : Int32), i.toInt = (m : Int) - 1 → m < n → okL f m → okL g m →
    ((F_Big_compareSize_L30 R R2 s neg f s2 neg2 g n i).toInt = 0 ∧ vB f m = vB g m) ∨ ((F_Big_compareSize_L30 R R2 s neg f s2 neg2 g n i).toInt < 0 ∧ vB f m < vB g m) ∨ (0 < (F_Big_compareSize_L30 R R2 s neg f s2 neg2 g n i).toInt ∧ vB g m < vB f m) := by
  intro n
  induction n with
  | zero => intro m i h1 h2; omega
  | succ n ih =>
    intro m i h1 h2 hf hg
    have e0 : (0 : Int32).toInt = 0 := rfl
    rw [F_Big_compareSize_L30.eq_2]
    by_cases hc : i < 0
    · rw [if_pos hc]
      have := q_ltI hc
      have hm : m = 0 := by omega
      subst hm
      exact Or.inl ⟨rfl, rfl⟩
    · rw [if_neg hc]
      have h3 := q_nltI hc
      obtain ⟨k, rfl⟩ : ∃ k, m = k + 1 := ⟨m - 1, by omega⟩
      have ek : i.toNatClampNeg = k := by have := q_clI (i := i) rfl (by omega); omega
      rw [ek]
      by_cases he : f k = g k
      · rw [if_pos he]
        obtain ⟨j, ej⟩ := q_nm (i + (-1) : Int32)
        have h4 := Int32.toInt_lt i
        have e2 : (i + (-1) : Int32).toInt = i.toInt + (-1) := q_addI (y := -1) rfl (by decide) (by omega) (by omega)
        rw [ej] at e2 ⊢
        have r := ih k j (by omega) (by omega) (hf.mono (Nat.le_succ k)) (hg.mono (Nat.le_succ k))
        have d1 : vB f (k + 1) = vB f k + (f k).toInt * 2147483648 ^ k := rfl
        have d2 : vB g (k + 1) = vB g k + (g k).toInt * 2147483648 ^ k := rfl
        rw [d1, d2, he]
        omega
      · rw [if_neg he]
        rcases v_icmp (x := f k) (y := g k) with ⟨_, c⟩ | ⟨c1, c⟩ | ⟨c1, c⟩
        · exact absurd (Int32.toInt_inj.mp c) he
        · exact Or.inr (Or.inl ⟨c1, v_top hf hg c⟩)
        · exact Or.inr (Or.inr ⟨c1, v_top hg hf c⟩)
