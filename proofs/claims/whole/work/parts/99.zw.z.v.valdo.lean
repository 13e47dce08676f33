/-! values, for whole: figures of a number and of its tens; the class's Digits written with a power -/
theorem yLo_sc {N z i : Nat} : yLo (N * 10 ^ z) (i + z) = yLo N i := by
  unfold yLo
  rw [Nat.add_comm, Nat.pow_add, ← Nat.div_div_eq_div_mul, Nat.mul_div_cancel _ (Nat.pow_pos (by decide))]
theorem yLo_sz {N z i : Nat} (h : i < z) : yLo (N * 10 ^ z) i = 0 := by
  obtain ⟨k, rfl⟩ : ∃ k, z = i + (k + 1) := ⟨z - i - 1, by omega⟩
  unfold yLo
  rw [Nat.pow_add, Nat.mul_left_comm, Nat.mul_div_cancel_left _ (Nat.pow_pos (by decide)), Nat.pow_succ, ← Nat.mul_assoc, Nat.mul_mod_left]
theorem yFz_sc {N z : Nat} {w : Int} : yFz (N * 10 ^ z) (w + z) = yFz N w := by
  unfold yFz
  by_cases g : w < 0
  · rw [if_pos g]
    by_cases k : w + z < 0
    · rw [if_pos k]
    · rw [if_neg k]
      exact yLo_sz (by omega)
  · rw [if_neg g, if_neg (by omega), show (w + z).toNat = w.toNat + z from by omega]
    exact yLo_sc
theorem yPlA_sc {N z A : Nat} {s : Int} {cm : Int32} : yPlA (N * 10 ^ z) (s + z) cm A = yPlA N s cm A := by
  induction A with
  | zero => rfl
  | succ A ih =>
    show (48 + yFz (N * 10 ^ z) ((A : Int) + (s + z))) :: _ = (48 + yFz N ((A : Int) + s)) :: _
    rw [ih, ← Int.add_assoc, yFz_sc]
theorem yDz_sc {N z n : Nat} : ∀ {w : Int}, yDz (N * 10 ^ z) (w + z) n = yDz N w n := by
  induction n with
  | zero => exact rfl
  | succ n ih =>
    intro w
    show (48 + yFz (N * 10 ^ z) (w + z)) :: yDz (N * 10 ^ z) (w + z - 1) n = (48 + yFz N w) :: yDz N (w - 1) n
    rw [show w + z - 1 = (w - 1) + z from by omega, ih, yFz_sc]
theorem yTail_sc {N z pl : Nat} {s : Int} {ap : Int32} : yTail (N * 10 ^ z) (s + z) pl ap = yTail N s pl ap := by
  unfold yTail
  rw [show s + z - 1 = (s - 1) + z from by omega, yDz_sc]
theorem yHead_sc {N z c al : Nat} {ap : Int32} : yHead (N * 10 ^ z) (c + z) al ap = yHead N c al ap := by
  unfold yHead
  rw [show ((c + z : Nat) : Int) - 1 = ((c : Int) - 1) + z from by omega, show ((c + z : Nat) : Int) - 2 = ((c : Int) - 2) + z from by omega, yDz_sc, yFz_sc]
theorem yDt_sc {N z c : Nat} (h : yDt N c) (h0 : N ≠ 0) : yDt (N * 10 ^ z) (c + z) := by
  have p : 0 < 10 ^ z := Nat.pow_pos (by decide)
  have c0 : c ≠ 0 := by
    intro q
    have := h.1
    rw [q] at this
    unfold yLt10 at this
    rw [Nat.pow_zero] at this
    omega
  have h2 := h.2 c0
  have h1 := h.1
  unfold yLt10 at h1 h2
  refine ⟨?_, fun _ => ?_⟩
  · unfold yLt10
    rw [Nat.pow_add]
    exact Nat.mul_lt_mul_of_pos_right h1 p
  · unfold yLt10
    rw [show c + z - 1 = (c - 1) + z from by omega, Nat.pow_add]
    exact Nat.not_lt.mpr (Nat.mul_le_mul_right _ (Nat.not_lt.mp h2))
/-- e, the sign of the power, the power of two figures or more -/
def yE2 (p : Int) : List Nat := [101] ++ [if 0 ≤ p then 43 else 45] ++ yDs (max (yCt5 p.natAbs) 2) p.natAbs
theorem V_wSci {R : Int32} {N : Int32} {K : Int32} {x3 : Int32} {x4 : Int32} {t0_0 : Int32} {t0_1 : Int32} {t1_0 : (Nat → Int32)} {t2_0 : Int32} {t3_0 : (Nat → Int64)} {N0 c al : Nat} (hR : R = 11008) (h : yDgc t0_0 t1_0 N0 c) (hx : x3.toInt = (al : Int)) (ha : al ≤ 10000) (hp : -99999 ≤ t0_1.toInt ∧ t0_1.toInt ≤ 99999) {l : List Nat} (hm : yPa t2_0 t3_0 l) (hl : l.length < 100000) : yPa (F_Dig_writeScience R N K x3 x4 t0_0 t0_1 t1_0 t2_0 t3_0).1 (F_Dig_writeScience R N K x3 x4 t0_0 t0_1 t1_0 t2_0 t3_0).2 (l ++ (yHead N0 c al x4 ++ yE2 t0_1.toInt)) := by
  subst hR
  have e0 : (0 : Int32).toInt = 0 := rfl
  have ct := yCt5_t (n := t0_1.toInt.natAbs) (by omega)
  have hdl : (yHead N0 c al x4).length ≤ 10002 := by
    unfold yHead
    rw [List.length_append, List.length_append, yDz_len]
    have : (if 1 < al ∨ x4 ≠ 0 then [46] else ([] : List Nat)).length ≤ 1 := by
      split
      · exact Nat.le_refl _
      · exact Nat.zero_le _
    show 1 + _ + _ ≤ _
    omega
  unfold F_Dig_writeScience
  have w := V_wHead (N := N) (K := K) (x4 := x4) (t0_1 := t0_1) rfl h hx ha hm (by omega)
  revert w
  generalize F_Dig_writeHead 11008 N K x3 x4 t0_0 t0_1 t1_0 t2_0 t3_0 = p
  intro w
  unfold F_Dig_writeScience_c4
  have w1 := V_paP (N := N) (K := K) (x2 := 101) (v := 101) w (by rw [List.length_append]; omega) rfl (by decide)
  revert w1
  generalize F_She_add_p 11008 N K 101 p.1 p.2 = p2
  intro w1
  unfold F_Dig_writeScience_c10 yE2
  rw [← List.append_assoc, ← List.append_assoc, ← List.append_assoc]
  by_cases g : 0 ≤ t0_1
  · rw [if_pos g]
    have g := q_leI g
    rw [if_pos (by omega : 0 ≤ t0_1.toInt)]
    have w2 := V_paP (N := N) (K := K) (x2 := 43) (v := 43) w1 (by simp only [List.length_append, List.length_singleton]; omega) rfl (by decide)
    revert w2
    generalize F_She_add_p 11008 N K 43 p2.1 p2.2 = p3
    intro w2
    unfold F_Dig_writeScience_c28
    have w3 := V_addP (N := N) (K := K) (x2 := t0_1) (x3 := 2) (l0 := 2) rfl w2 (by simp only [List.length_append, List.length_singleton]; omega) rfl (by omega) hp ct
    revert w3
    generalize F_She_addPower_p 11008 N K t0_1 2 p3.1 p3.2 = p4
    intro w3
    unfold F_Dig_writeScience_c37
    exact w3
  · rw [if_neg g]
    have g := q_nleI g
    rw [if_neg (by omega : ¬ 0 ≤ t0_1.toInt)]
    have w2 := V_paP (N := N) (K := K) (x2 := 45) (v := 45) w1 (by simp only [List.length_append, List.length_singleton]; omega) rfl (by decide)
    revert w2
    generalize F_She_add_p 11008 N K 45 p2.1 p2.2 = p3
    intro w2
    unfold F_Dig_writeScience_c28_5
    have w3 := V_addP (N := N) (K := K) (x2 := t0_1) (x3 := 2) (l0 := 2) rfl w2 (by simp only [List.length_append, List.length_singleton]; omega) rfl (by omega) hp ct
    revert w3
    generalize F_She_addPower_p 11008 N K t0_1 2 p3.1 p3.2 = p4
    intro w3
    unfold F_Dig_writeScience_c37_6
    exact w3
