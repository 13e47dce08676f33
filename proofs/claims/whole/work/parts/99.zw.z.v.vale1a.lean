/-! values, for whole: how long the text of a decimal is -/
theorem yPlA_len {N A : Nat} {s : Int} : (yPlA N s 0 A).length = A := by
  induction A with
  | zero => rfl
  | succ A ih =>
    show ((48 + yFz N ((A : Int) + s)) :: ((if (0 : Int32) ≠ 0 ∧ 0 < A ∧ A % 3 = 0 then [44] else []) ++ yPlA N s 0 A)).length = A + 1
    rw [if_neg (fun q => q.1 rfl), List.nil_append, List.length_cons, ih]
theorem yTail_len {N pl : Nat} {s : Int} : (yTail N s pl 0).length ≤ 1 + pl := by
  unfold yTail
  rw [List.length_append, yDz_len]
  have : (if 0 < pl ∨ (0 : Int32) ≠ 0 then [46] else ([] : List Nat)).length ≤ 1 := by
    split
    · exact Nat.le_refl _
    · exact Nat.zero_le _
  omega
theorem yE_len {p : Int} : (yE p).length ≤ 7 := by
  unfold yE
  rw [List.length_append, yDs_len, List.length_cons]
  have a : (ySgn p).length = 1 := by
    unfold ySgn
    split <;> rfl
  have b : yCt5 p.natAbs ≤ 5 := by
    unfold yCt5
    repeat' split
    all_goals omega
  omega
theorem yThr_len {N d c : Nat} {t : Int} : (yThr N d c t).length ≤ 2 * c + 13 := by
  unfold yThr
  rw [List.length_append]
  have a := ySpl_len (N := N) (d := d) (be := (yT3 (d = 0) t c).2.1) (m := max (yT3 (d = 0) t c).2.1 (yT3 (d = 0) t c).2.2) (k := 0)
  have b : (if (yT3 (d = 0) t c).1 = 0 then ([] : List Nat) else yE (yT3 (d = 0) t c).1).length ≤ 7 := by
    split
    · exact Nat.zero_le _
    · exact yE_len
  have m : max (yT3 (d = 0) t c).2.1 (yT3 (d = 0) t c).2.2 ≤ c + 3 := by
    unfold yT3
    split
    · show max 1 (1 + -(3 * ((-t) / 3)) - t).toNat ≤ c + 3
      omega
    · show max (t - 3 * (t / 3) + 1).toNat c ≤ c + 3
      omega
  omega
theorem yDtx_len {st : Int32} {v s : Int} {c : Nat} (hc : c ≤ 1000) (h1 : -10000 ≤ s) (h2 : s ≤ 10000) : (yDtx st v s c).length ≤ 11008 := by
  unfold yDtx
  rw [List.length_append]
  have ml := yMin_l (a := v < 0)
  split
  · unfold yPln
    rw [List.length_append, yPlA_len]
    have tl := yTail_len (N := v.natAbs) (pl := (max s 0).toNat) (s := s)
    have A : (if (if (if v = 0 then 0 else c) = 0 then 0 else (c : Int) - 1 - s) < 0 then 0 else (if (if v = 0 then 0 else c) = 0 then 0 else (c : Int) - 1 - s)).toNat ≤ (max ((c : Int) - 1 - s) 0).toNat := by
      split
      · exact Nat.zero_le _
      · split
        · exact Nat.zero_le _
        · omega
    omega
  · split
    · rw [List.length_append]
      have a := yHead_l (N := v.natAbs) (c := if v = 0 then 0 else c) (al := c) (ap := 0)
      have b := yE_len (p := (c : Int) - 1 - s)
      omega
    · have a := yThr_len (N := v.natAbs) (d := if v = 0 then 0 else c) (c := c) (t := (c : Int) - 1 - s)
      omega
theorem y_byte {s : Int32} {c : Nat → Int64} {l : List Nat} (h : yPa s c l) (hl : l.length ≤ 11008) : ∀ i, l.getD i 0 < 256 := by
  intro i
  rcases Nat.lt_or_ge i l.length with g | g
  · rw [← h.2 i g (by omega)]
    exact Nat.mod_lt _ (by decide)
  · rw [List.getD_eq_getElem?_getD, List.getElem?_eq_none g]
    exact (by decide : 0 < 256)
