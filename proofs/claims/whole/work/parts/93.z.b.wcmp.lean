/-! the reference's rows: compare -/
/-- an equation that is kept out of sight -/
def wE (a b : Int) : Prop := a = b
theorem w_cmpId {F G Fj Gj a b P : Int} (h : F - (Fj + a * P) = G - (Gj + b * P)) (l2 : Gj < P) (l3 : 0 ≤ Fj) (y : b + 1 ≤ a) (hp : 0 < P) : G < F := by
  have y3 := Int.mul_le_mul_of_nonneg_right y (Int.le_of_lt hp)
  rw [Int.add_mul] at y3
  omega
theorem w_cmpL {N M : Int32} {f g : Nat → Int32} {A B : Int} (hM : N.toInt ≤ M.toInt) (hf : wO f N.toNatClampNeg) (hg : wO g N.toNatClampNeg) : ∀ (n K : Nat) (k : Int32), (K : Int) = k.toInt + 1 → k.toInt < N.toInt → k.toInt + 1 < n → wE (A - wV f K) (B - wV g K) →
    S_WR_compareRows_L5 N M f g n k ∧ ((F_WR_compareRows_L5 N M f g n k = 0 ∧ A = B) ∨ (F_WR_compareRows_L5 N M f g n k = 1 ∧ B < A) ∨ (F_WR_compareRows_L5 N M f g n k = -1 ∧ A < B)) := by
  intro n
  induction n with
  | zero => intro K k h0 h1 h2 h3; omega
  | succ n ih =>
    intro K k h0 h1 h2 h3
    have e0 : (0 : Int32).toInt = 0 := rfl
    have hN := Int32.toInt_lt N
    have eN := q_clI (i := N) rfl (by omega)
    rw [S_WR_compareRows_L5.eq_2, F_WR_compareRows_L5.eq_2]
    by_cases c : k < 0
    · rw [if_pos c, if_pos c]
      have c2 := q_ltI c
      have e1 : K = 0 := by omega
      rw [e1] at h3
      refine ⟨trivial, Or.inl ⟨rfl, ?_⟩⟩
      have h4 : A - 0 = B - 0 := h3
      omega
    · rw [if_neg c, if_neg c]
      have c2 := q_nltI c
      have ek := q_clI (i := k) rfl (by omega)
      have e2 : (k + (-1) : Int32).toInt = k.toInt + (-1) := q_addI (y := -1) rfl (by decide) (by omega) (by omega)
      obtain ⟨j, ej⟩ : ∃ j, k.toNatClampNeg = j := ⟨_, rfl⟩
      have e3 : K = j + 1 := by omega
      subst e3
      rw [ej] at ek ⊢
      have jN : j < N.toNatClampNeg := by omega
      have h3 : A - (wV f j + (f j).toInt * 65536 ^ j) = B - (wV g j + (g j).toInt * 65536 ^ j) := h3
      have l1 := w_lt (hf.mono (Nat.le_of_lt jN))
      have l2 := w_lt (hg.mono (Nat.le_of_lt jN))
      have l3 := w_nn (hf.mono (Nat.le_of_lt jN))
      have l4 := w_nn (hg.mono (Nat.le_of_lt jN))
      have hp := w_pos j
      refine v_cons (by clear h3 l1 l2 l3 l4 hp; omega) ?_
      by_cases z : f j = g j
      · rw [if_pos z, if_pos z]
        refine ih j _ (by clear h3 l1 l2 l3 l4 hp; omega) (by clear h3 l1 l2 l3 l4 hp; omega) (by clear h3 l1 l2 l3 l4 hp; omega) ?_
        rw [z] at h3
        show A - wV f j = B - wV g j
        generalize wV f j = u1 at *
        generalize wV g j = u2 at *
        generalize (g j).toInt * 65536 ^ j = u3 at *
        clear ih l1 l2 l3 l4
        omega
      · rw [if_neg z, if_neg z]
        by_cases y : g j ≤ f j
        · rw [if_pos y, if_pos y]
          have y1 := q_leI y
          have y2 : (f j).toInt ≠ (g j).toInt := fun e => z (Int32.toInt_inj.mp e)
          exact ⟨trivial, Or.inr (Or.inl ⟨rfl, w_cmpId h3 l2 l3 (by clear h3 l1 l2 l3 l4 hp; omega) hp⟩)⟩
        · rw [if_neg y, if_neg y]
          have y1 := q_nleI y
          exact ⟨trivial, Or.inr (Or.inr ⟨rfl, w_cmpId h3.symm l1 l4 (by clear h3 l1 l2 l3 l4 hp; omega) hp⟩)⟩
def wC (c : Int32) (a b : Int) : Prop := (c = 0 ∧ a = b) ∨ (c = 1 ∧ b < a) ∨ (c = -1 ∧ a < b)
theorem R_cmp {N M : Int32} {f g : Nat → Int32} (h0 : 0 ≤ N.toInt) (hM : N.toInt ≤ M.toInt) (hf : wO f N.toNatClampNeg) (hg : wO g N.toNatClampNeg) : S_WR_compareRows N M f g ∧ wC (F_WR_compareRows N M f g) (wV f N.toNatClampNeg) (wV g N.toNatClampNeg) := by
  have hN := Int32.toInt_lt N
  have e1 : (N - 1 : Int32).toInt = N.toInt - 1 := q_subI (y := 1) rfl (by decide) (by omega) (by omega)
  have eN := q_clI (i := N) rfl h0
  unfold S_WR_compareRows F_WR_compareRows
  refine w_cmpL hM hf hg _ N.toNatClampNeg _ (by omega) (by omega) (by omega) ?_
  show _ - _ = _ - _
  rw [Int.sub_self, Int.sub_self]
