/-! values, for whole: the two forms of a decimal's text are one -/
theorem ySpI_np {N : Nat} {n pt : Int} {m : Nat} : ∀ {k : Int}, pt < k → ySpI N n pt k m = yDz N (n - 1 - k) m := by
  induction m with
  | zero => intro k h; rfl
  | succ m ih =>
    intro k h
    show (if k = pt then [46] else []) ++ ((48 + yFz N (n - 1 - k)) :: ySpI N n pt (k + 1) m) = (48 + yFz N (n - 1 - k)) :: yDz N (n - 1 - k - 1) m
    rw [if_neg (by omega), ih (by omega), show n - 1 - (k + 1) = n - 1 - k - 1 from by omega]
    rfl
theorem ySpI_ge {N : Nat} {n pt : Int} {m : Nat} : ∀ {k : Int}, k + (m : Int) ≤ pt → ySpI N n pt k m = yDz N (n - 1 - k) m := by
  induction m with
  | zero => intro k h; rfl
  | succ m ih =>
    intro k h
    show (if k = pt then [46] else []) ++ ((48 + yFz N (n - 1 - k)) :: ySpI N n pt (k + 1) m) = (48 + yFz N (n - 1 - k)) :: yDz N (n - 1 - k - 1) m
    rw [if_neg (by omega), ih (by omega), show n - 1 - (k + 1) = n - 1 - k - 1 from by omega]
    rfl
theorem ySpI_pt {N : Nat} {n : Int} {m : Nat} : ∀ {k : Int} {j : Nat}, j < m → ySpI N n (k + (j : Int)) k m = yDz N (n - 1 - k) j ++ [46] ++ yDz N (n - 1 - k - (j : Int)) (m - j) := by
  induction m with
  | zero => intro k j h; exact absurd h (Nat.not_lt_zero _)
  | succ m ih =>
    intro k j h
    show (if k = k + (j : Int) then [46] else []) ++ ((48 + yFz N (n - 1 - k)) :: ySpI N n (k + (j : Int)) (k + 1) m) = _
    cases j with
    | zero =>
      rw [if_pos (by omega), ySpI_np (by omega)]
      rw [show n - 1 - k - ((0 : Nat) : Int) = n - 1 - k from by omega, Nat.sub_zero, show n - 1 - (k + 1) = n - 1 - k - 1 from by omega]
      rfl
    | succ j =>
      rw [if_neg (by omega), show k + ((j + 1 : Nat) : Int) = (k + 1) + (j : Int) from by omega, ih (by omega)]
      rw [show n - 1 - (k + 1) = n - 1 - k - 1 from by omega, show n - 1 - k - ((j + 1 : Nat) : Int) = n - 1 - k - 1 - (j : Int) from by omega, show m + 1 - (j + 1) = m - j from by omega]
      rfl
theorem yPlA_z {N : Nat} {s : Int} {A : Nat} : yPlA N s 0 A = yDz N ((A : Int) - 1 + s) A := by
  induction A with
  | zero => rfl
  | succ A ih =>
    show (48 + yFz N ((A : Int) + s)) :: ((if (0 : Int32) ≠ 0 ∧ 0 < A ∧ A % 3 = 0 then [44] else []) ++ yPlA N s 0 A) = (48 + yFz N (((A + 1 : Nat) : Int) - 1 + s)) :: yDz N (((A + 1 : Nat) : Int) - 1 + s - 1) A
    rw [if_neg (fun k => k.1 rfl), ih]
    rw [show ((A + 1 : Nat) : Int) - 1 + s = (A : Int) + s from by omega, show (A : Int) + s - 1 = (A : Int) - 1 + s from by omega]
    rfl
theorem ySpl_I {N d be m : Nat} : ∀ {k : Nat}, ySpl N d be k m = ySpI N (d : Int) (be : Int) (k : Int) m := by
  induction m with
  | zero => intro k; rfl
  | succ m ih =>
    intro k
    show (if k = be then [46] else []) ++ ((48 + yFz N ((d : Int) - 1 - (k : Int))) :: ySpl N d be (k + 1) m) = (if (k : Int) = (be : Int) then [46] else []) ++ ((48 + yFz N ((d : Int) - 1 - (k : Int))) :: ySpI N (d : Int) (be : Int) ((k : Int) + 1) m)
    rw [ih]
    by_cases g : k = be
    · rw [if_pos g, if_pos (by omega)]
      rfl
    · rw [if_neg g, if_neg (by omega)]
      rfl
theorem yFz_0 {z : Int} : yFz 0 z = 0 := by
  unfold yFz yLo
  split
  · rfl
  · rw [Nat.zero_div]
theorem yDz_0 {n : Nat} : ∀ {z w : Int}, yDz 0 z n = yDz 0 w n := by
  induction n with
  | zero => intro z w; rfl
  | succ n ih =>
    intro z w
    show (48 + yFz 0 z) :: yDz 0 (z - 1) n = (48 + yFz 0 w) :: yDz 0 (w - 1) n
    rw [yFz_0, yFz_0, ih]
theorem ySpI_0 {n n' pt : Int} {m : Nat} : ∀ {k : Int}, ySpI 0 n pt k m = ySpI 0 n' pt k m := by
  induction m with
  | zero => intro k; rfl
  | succ m ih =>
    intro k
    show (if k = pt then [46] else []) ++ ((48 + yFz 0 (n - 1 - k)) :: ySpI 0 n pt (k + 1) m) = (if k = pt then [46] else []) ++ ((48 + yFz 0 (n' - 1 - k)) :: ySpI 0 n' pt (k + 1) m)
    rw [yFz_0, yFz_0, ih]
theorem yTail_0 {N : Nat} {s : Int} : yTail N s 0 0 = [] := by
  unfold yTail
  rw [if_neg (fun k => by rcases k with k | k; exact absurd k (Nat.lt_irrefl _); exact k rfl)]
  rfl
theorem yTail_p {N pl : Nat} {s : Int} (h : 0 < pl) : yTail N s pl 0 = [46] ++ yDz N (s - 1) pl := by
  unfold yTail
  rw [if_pos (Or.inl h)]
theorem yHead_I {N d n : Nat} (h : 1 ≤ n) : yHead N d n 0 = ySpI N (d : Int) 1 0 n := by
  unfold yHead
  rcases Nat.lt_or_ge 1 n with g | g
  · rw [if_pos (Or.inl g), show (1 : Int) = 0 + ((1 : Nat) : Int) from rfl, ySpI_pt g]
    rw [show (d : Int) - (0 + ((1 : Nat) : Int)) = (d : Int) - 1 - 0 from by omega, show (d : Int) - 2 = (d : Int) - 1 - 0 - ((1 : Nat) : Int) from by omega]
    rfl
  · obtain rfl : n = 1 := by omega
    rw [if_neg (fun k => by rcases k with k | k; exact absurd k (Nat.lt_irrefl _); exact k rfl)]
    rw [ySpI_ge (by omega)]
    rw [show (d : Int) - 1 - 0 = (d : Int) - 1 from by omega]
    rfl
/-- without a point -/
theorem yT1 {N n d : Nat} {s : Int} (hn : 1 ≤ n) (hs : s ≤ 0) (h : (N = 0 ∧ d = 0) ∨ d = n) : yPln N s n d = ySpI N (n : Int) (-1) 0 (if d = 0 then 1 else ((n : Int) - s).toNat) := by
  unfold yPln
  rw [show (max s 0).toNat = 0 from by omega, yTail_0, List.append_nil, ySpI_np (by omega), yPlA_z]
  rcases h with ⟨rfl, rfl⟩ | rfl
  · rw [if_pos rfl, if_pos rfl]
    exact yDz_0
  · rw [if_neg (show ¬ d = 0 by omega), if_neg (show ¬ d = 0 by omega), if_neg (by omega)]
    rw [show ((d : Int) - 1 - s).toNat + 1 = ((d : Int) - s).toNat from by omega, show ((((d : Int) - s).toNat : Nat) : Int) - 1 + s = (d : Int) - 1 - 0 from by omega]
/-- with s places -/
theorem yT2 {N n d : Nat} {s f : Int} (hn : 1 ≤ n) (hs : 0 ≤ s) (h : (N = 0 ∧ d = 0 ∧ n = 1) ∨ d = n) (hf : f = if (n : Int) - s < 1 then (n : Int) - s - 1 else 0) : yPln N s n d = ySpI N (n : Int) (if s = 0 then -1 else (n : Int) - s) f ((n : Int) - f).toNat := by
  unfold yPln
  rw [yPlA_z]
  by_cases z : s = 0
  · subst z
    rw [if_pos rfl, show (max (0 : Int) 0).toNat = 0 from rfl, yTail_0, List.append_nil]
    have f0 : f = 0 := by
      rw [hf, if_neg (by omega)]
    rw [f0, ySpI_np (by omega)]
    rcases h with ⟨rfl, rfl, rfl⟩ | rfl
    · rw [if_pos rfl]
      exact yDz_0
    · rw [if_neg (show ¬ d = 0 by omega), if_neg (by omega)]
      rw [show ((d : Int) - 1 - 0).toNat + 1 = d from by omega, show ((d : Int) - 0).toNat = d from by omega, show (d : Int) - 1 + 0 = (d : Int) - 1 - 0 from by omega]
  · rw [if_neg z, show (max s 0).toNat = s.toNat from by omega, yTail_p (by omega)]
    by_cases g : (n : Int) - s < 1
    · rw [if_pos g] at hf
      have A1 : (if (if d = 0 then 0 else (n : Int) - 1 - s) < 0 then 0 else (if d = 0 then 0 else (n : Int) - 1 - s)).toNat + 1 = 1 := by
        by_cases k : d = 0
        · rw [if_pos k]
          rfl
        · rw [if_neg k, if_pos (by omega)]
          rfl
      rw [A1]
      have p := ySpI_pt (N := N) (n := (n : Int)) (k := f) (j := 1) (m := ((n : Int) - f).toNat) (by omega)
      rw [show (n : Int) - s = f + ((1 : Nat) : Int) from by omega, p]
      rw [show ((1 : Nat) : Int) - 1 + s = (n : Int) - 1 - f from by omega, show s - 1 = (n : Int) - 1 - f - ((1 : Nat) : Int) from by omega, show ((n : Int) - f).toNat - 1 = s.toNat from by omega, List.append_assoc]
    · rw [if_neg g] at hf
      have hd : d = n := by
        rcases h with ⟨_, _, k⟩ | k
        · omega
        · exact k
      subst hd
      rw [if_neg (show ¬ d = 0 by omega), if_neg (by omega), hf]
      have p := ySpI_pt (N := N) (n := (d : Int)) (k := 0) (j := ((d : Int) - s).toNat) (m := ((d : Int) - 0).toNat) (by omega)
      rw [show (d : Int) - s = 0 + ((((d : Int) - s).toNat : Nat) : Int) from by omega, p]
      rw [show ((d : Int) - 1 - s).toNat + 1 = ((d : Int) - s).toNat from by omega, show ((((d : Int) - s).toNat : Nat) : Int) - 1 + s = (d : Int) - 1 - 0 from by omega, show s - 1 = (d : Int) - 1 - 0 - ((((d : Int) - s).toNat : Nat) : Int) from by omega, show ((d : Int) - 0).toNat - ((d : Int) - s).toNat = s.toNat from by omega, List.append_assoc]
