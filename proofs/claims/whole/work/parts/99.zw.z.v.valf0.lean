/-! values, for whole: texts of figures as lists, their value -/
def yDi (l : List Nat) : Prop := ∀ x, x ∈ l → 48 ≤ x ∧ x ≤ 57
def yLV (l : List Nat) (a : Nat) : Nat := match l with
  | [] => a
  | x :: r => yLV r (a * 10 + (x - 48))
/-- a list as a row -/
def yBr (l : List Nat) (i : Nat) : Int := ((l.getD i 0 : Nat) : Int)
theorem yDi_nil : yDi [] := fun x hx => absurd hx (List.not_mem_nil)
theorem yDi_cons {x : Nat} {l : List Nat} (h : 48 ≤ x ∧ x ≤ 57) (hl : yDi l) : yDi (x :: l) := by
  intro y hy
  rcases List.mem_cons.mp hy with rfl | hy
  · exact h
  · exact hl y hy
theorem yDi_app {l m : List Nat} (h : yDi l) (g : yDi m) : yDi (l ++ m) := by
  intro y hy
  rcases List.mem_append.mp hy with hy | hy
  · exact h y hy
  · exact g y hy
theorem yLV_app {m : List Nat} : ∀ {l : List Nat} {a : Nat}, yLV (l ++ m) a = yLV m (yLV l a) := by
  intro l
  induction l with
  | nil => intro a; rfl
  | cons x r ih => intro a; exact ih
theorem yLV_lin : ∀ {l : List Nat} {a : Nat}, yLV l a = a * 10 ^ l.length + yLV l 0 := by
  intro l
  induction l with
  | nil => intro a; show a = a * 10 ^ 0 + 0; omega
  | cons x r ih =>
    intro a
    show yLV r (a * 10 + (x - 48)) = a * 10 ^ (r.length + 1) + yLV r (0 * 10 + (x - 48))
    rw [ih (a := a * 10 + (x - 48)), ih (a := 0 * 10 + (x - 48)), Nat.pow_succ]
    generalize yLV r 0 = q
    generalize x - 48 = d
    generalize 10 ^ r.length = p
    grind
theorem yBr_a {l m : List Nat} {i : Nat} (h : i < l.length) : yBr (l ++ m) i = yBr l i := by
  unfold yBr
  rw [List.getD_eq_getElem?_getD, List.getD_eq_getElem?_getD, List.getElem?_append_left h]
theorem yBr_b {l m : List Nat} {i : Nat} : yBr (l ++ m) (l.length + i) = yBr m i := by
  unfold yBr
  rw [List.getD_eq_getElem?_getD, List.getD_eq_getElem?_getD, List.getElem?_append_right (by omega)]
  congr 3
  omega
theorem yBr_d {l : List Nat} (h : yDi l) {i : Nat} (hi : i < l.length) : 48 ≤ yBr l i ∧ yBr l i ≤ 57 := by
  unfold yBr
  rw [List.getD_eq_getElem?_getD, List.getElem?_eq_getElem hi]
  have := h _ (List.getElem_mem hi)
  show 48 ≤ ((l[i] : Nat) : Int) ∧ ((l[i] : Nat) : Int) ≤ 57
  omega
theorem yDv_d {c : Int} (h : 48 ≤ c ∧ c ≤ 57) : yDv c = c - 48 := by
  unfold yDv
  rw [if_pos h]
theorem yuB_l : ∀ {n : Nat} {l : List Nat} {f : Nat → Int}, l.length = n → yDi l → (∀ j, j < n → f j = yBr l j - 48) → yuB 10 f n = yLV l 0 := by
  intro n
  induction n with
  | zero =>
    intro l f h _ _
    rw [List.length_eq_zero_iff.mp h]
    rfl
  | succ n ih =>
    intro l f h hd hf
    have ne : l ≠ [] := by
      intro q
      rw [q] at h
      exact absurd h (by simp)
    have e := List.dropLast_concat_getLast ne
    have hl : l.dropLast.length = n := by rw [List.length_dropLast]; omega
    have hd' : yDi l.dropLast := fun x hx => hd x (List.dropLast_subset l hx)
    have r := ih (l := l.dropLast) (f := f) hl hd' (fun j hj => by
      rw [hf j (by omega)]
      conv => lhs; rw [← e, yBr_a (by omega)])
    show yuB 10 f n * 10 + (f n).toNat = yLV l 0
    rw [r, hf n (by omega)]
    have b : yBr l n = ((l.getLast ne : Nat) : Int) := by
      conv => lhs; rw [← e]
      have := yBr_b (l := l.dropLast) (m := [l.getLast ne]) (i := 0)
      rw [hl] at this
      exact this
    rw [b]
    have m := hd _ (List.getLast_mem ne)
    conv => rhs; rw [← e]
    rw [yLV_app]
    show _ = yLV l.dropLast 0 * 10 + (l.getLast ne - 48)
    omega
/-- the figures of N from place z on downwards -/
theorem yDz_di {N n : Nat} : ∀ {z : Int}, yDi (yDz N z n) := by
  induction n with
  | zero => intro z; exact yDi_nil
  | succ n ih =>
    intro z
    exact yDi_cons (by have := yFz_9 N z; omega) ih
theorem yPlA_dz {N : Nat} {s : Int} {A : Nat} : yPlA N s 0 A = yDz N ((A : Int) - 1 + s) A := by
  induction A with
  | zero => rfl
  | succ A ih =>
    show (48 + yFz N ((A : Int) + s)) :: ((if (0 : Int32) ≠ 0 ∧ 0 < A ∧ A % 3 = 0 then [44] else []) ++ yPlA N s 0 A) = (48 + yFz N (((A + 1 : Nat) : Int) - 1 + s)) :: yDz N (((A + 1 : Nat) : Int) - 1 + s - 1) A
    rw [if_neg (fun q => q.1 rfl), ih, show (((A + 1 : Nat) : Int) - 1 + s) = (A : Int) + s by omega, show (A : Int) + s - 1 = (A : Int) - 1 + s by omega]
    rfl
theorem yDs_dz {v n : Nat} : yDs n v = yDz v ((n : Int) - 1) n := by
  induction n with
  | zero => rfl
  | succ n ih =>
    show (48 + yLo v n) :: yDs n v = (48 + yFz v (((n + 1 : Nat) : Int) - 1)) :: yDz v (((n + 1 : Nat) : Int) - 1 - 1) n
    rw [ih, show (((n + 1 : Nat) : Int) - 1) = (n : Int) by omega]
    unfold yFz
    rw [if_neg (by omega), show ((n : Int)).toNat = n by omega]
theorem y_md10 {N k n : Nat} : N / 10 ^ (k + n) % 10 * 10 ^ n + N / 10 ^ k % 10 ^ n = N / 10 ^ k % 10 ^ (n + 1) := by
  rw [Nat.pow_add, ← Nat.div_div_eq_div_mul]
  generalize N / 10 ^ k = x
  rw [Nat.pow_succ, Nat.mod_mul]
  rw [Nat.mul_comm]
  omega
/-- their value -/
theorem yLV_dz {N : Nat} {k : Nat} : ∀ {n : Nat}, yLV (yDz N (((k + n : Nat) : Int) - 1) n) 0 = N / 10 ^ k % 10 ^ n := by
  intro n
  induction n with
  | zero => show 0 = N / 10 ^ k % 10 ^ 0; rw [Nat.pow_zero, Nat.mod_one]
  | succ n ih =>
    show yLV (yDz N (((k + (n + 1) : Nat) : Int) - 1 - 1) n) (0 * 10 + (48 + yFz N (((k + (n + 1) : Nat) : Int) - 1) - 48)) = _
    rw [yLV_lin, yDz_len, show (((k + (n + 1) : Nat) : Int) - 1 - 1) = ((k + n : Nat) : Int) - 1 by omega, ih]
    have e : yFz N (((k + (n + 1) : Nat) : Int) - 1) = N / 10 ^ (k + n) % 10 := by
      unfold yFz
      rw [if_neg (by omega), show (((k + (n + 1) : Nat) : Int) - 1).toNat = k + n by omega]
      rfl
    rw [e, ← y_md10]
    generalize N / 10 ^ (k + n) % 10 = d
    generalize N / 10 ^ k % 10 ^ n = q
    rw [show 0 * 10 + (48 + d - 48) = d by omega]
/-- the same where the last places lie behind the number -/
theorem yLV_dn {N : Nat} {k n : Nat} : yLV (yDz N ((n : Int) - 1 - k) n) 0 = N * 10 ^ k % 10 ^ n := by
  have := yLV_dz (N := N * 10 ^ k) (k := 0) (n := n)
  rw [← yDz_sc (z := k), show (n : Int) - 1 - (k : Int) + (k : Int) = ((0 + n : Nat) : Int) - 1 by omega, this, Nat.pow_zero, Nat.div_one]
