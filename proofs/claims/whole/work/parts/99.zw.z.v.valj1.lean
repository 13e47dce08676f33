/-! values, for whole: the printer's numbers -/
theorem V_d0 {S c : Nat} (h : yDt S c) : c = 0 ↔ S = 0 := by
  constructor
  · intro q
    have := h.1
    rw [q] at this
    unfold yLt10 at this
    rw [Nat.pow_zero] at this
    omega
  · intro q
    apply Classical.byContradiction
    intro w
    have := h.2 w
    rw [q] at this
    exact this (Nat.pow_pos (by decide))
theorem V_rkP {N c k : Nat} (h : yDt N c) (h0 : N ≠ 0) (hk : 1 ≤ k) : yRk 2 N c (k : Int) ≠ 0 := by
  have c0 : c ≠ 0 := fun q => h0 ((V_d0 h).mp q)
  unfold yRk
  by_cases g : (c : Int) ≤ k
  · rw [if_pos g]
    intro w
    rcases Nat.mul_eq_zero.mp w with w | w
    · exact h0 w
    · exact absurd w (Nat.ne_of_gt (Nat.pow_pos (by decide)))
  · rw [if_neg g]
    have a := h.2 c0
    unfold yLt10 at a
    have b : 10 ^ ((c : Int) - k).toNat ≤ N := Nat.le_trans (Nat.pow_le_pow_right (by decide) (by omega)) (Nat.le_of_not_lt a)
    have := Nat.div_pos b (Nat.pow_pos (by decide))
    omega
theorem yPlA_cm {N A : Nat} {s : Int} {cm cm2 : Int32} (h : cm = 0 ↔ cm2 = 0) : yPlA N s cm A = yPlA N s cm2 A := by
  induction A with
  | zero => rfl
  | succ A ih =>
    unfold yPlA
    rw [ih]
    by_cases c : cm = 0
    · rw [if_neg (fun w => w.1 c), if_neg (fun w => w.1 (h.mp c))]
    · have c2 : ¬ cm2 = 0 := fun w => c (h.mpr w)
      by_cases d : 0 < A ∧ A % 3 = 0
      · rw [if_pos ⟨c, d⟩, if_pos ⟨c2, d⟩]
      · rw [if_neg (fun w => d w.2), if_neg (fun w => d w.2)]
theorem yTail_cm {N pl : Nat} {s : Int} {ap ap2 : Int32} (h : ap = 0 ↔ ap2 = 0) : yTail N s pl ap = yTail N s pl ap2 := by
  unfold yTail
  by_cases c : 0 < pl ∨ ap ≠ 0
  · rw [if_pos c, if_pos (c.imp id (fun w q => w (h.mpr q)))]
  · rw [if_neg c, if_neg (fun w => c (w.imp id (fun v q => v (h.mp q))))]
theorem yHead_cm {N c al : Nat} {ap ap2 : Int32} (h : ap = 0 ↔ ap2 = 0) : yHead N c al ap = yHead N c al ap2 := by
  unfold yHead
  by_cases c : 1 < al ∨ ap ≠ 0
  · rw [if_pos c, if_pos (c.imp id (fun w q => w (h.mpr q)))]
  · rw [if_neg c, if_neg (fun w => c (w.imp id (fun v q => v (h.mp q))))]
theorem V_hasI {k a0 fl a2 a3 a4 a5 a6 : Int32} : F_Dir_has k a0 fl a2 a3 a4 a5 a6 = 0 ↔ fl &&& k = 0 := by
  rw [Z_has0]
  by_cases c : fl &&& k = 0
  · rw [if_pos c]
    exact ⟨fun _ => c, fun _ => rfl⟩
  · rw [if_neg c]
    exact ⟨fun w => absurd w (by decide), fun w => absurd w c⟩
theorem V_wNf {t0_0 : Int32} {t0_1 : Int32} {t1_0 : (Nat → Int32)} {t2_0 : Int32} {t3_0 : (Nat → Int64)} {t4_0 : Int32} {t4_1 : Int32} {t4_2 : Int32} {t4_3 : Int32} {t4_4 : Int32} {t4_5 : Int32} {t4_6 : Int32} {lx40 : Int32} {lx52 : Int32} {lx68 : Int32} {lx69 : Int32} {lx70 : Int32} {lx71 : Int32} {lx72 : (Nat → Int32)} {N c s bh : Nat} {l : List Nat} (h69 : lx69 = 102) (hd : yDgc lx70 lx72 N c) (hp : lx71.toInt = if c = 0 then 0 else (c : Int) - 1 - s) (hs : s ≤ 40) (hc : c ≤ 30) (h68 : lx68.toInt = (bh : Int)) (hb : bh ≤ 9999) (hm : yShl 4104 t2_0 t3_0 l) (hl : l.length ≤ 1000) : ∃ u, zTf N s bh (t4_1 &&& 16) (t4_1 &&& 2) u ∧ yShl 4104 (F_Pri_writeNumber_J156 t0_0 t0_1 t1_0 t2_0 t3_0 t4_0 t4_1 t4_2 t4_3 t4_4 t4_5 t4_6 lx40 lx52 lx68 lx69 lx70 lx71 lx72).2.2.2.1 (F_Pri_writeNumber_J156 t0_0 t0_1 t1_0 t2_0 t3_0 t4_0 t4_1 t4_2 t4_3 t4_4 t4_5 t4_6 lx40 lx52 lx68 lx69 lx70 lx71 lx72).2.2.2.2 (l ++ u) := by
  have e1 : (1 : Int32).toInt = 1 := rfl
  have pb : -42 ≤ lx71.toInt ∧ lx71.toInt ≤ 30 := by
    rw [hp]
    split <;> omega
  have a2 : (lx71 + 1 + lx68).toInt = lx71.toInt + 1 + (bh : Int) := q_addI (q_addI rfl e1 (by omega) (by omega)) h68 (by omega) (by omega)
  unfold F_Pri_writeNumber_J156
  rw [if_pos h69]
  obtain ⟨S', c', z, r1, r2, r3, r4, r5⟩ := V_roK2 (x2 := lx71 + 1 + lx68) (x3 := 2) (t0_1 := lx71) hd (fun q => by rw [a2, hp, if_pos q]; omega) (by rw [a2]; omega) (by decide) (by omega)
  have rd : S' * 10 ^ z = zRd N s bh := by
    rw [r2, a2, hp]
    by_cases q : c = 0
    · rw [(V_d0 hd.2.2.1).mp q, Z_rk0, Z_rd0]
    · rw [if_neg q, ← zRd_k (c := c)]
      congr 1
      omega
  revert r1 r3 r4 r5
  generalize F_Dig_round_2 (lx71 + 1 + lx68) 2 lx70 lx71 lx72 = q
  intro r1 r3 r4 r5
  unfold F_Pri_writeNumber_c187
  have pw : c' ≠ 0 → q.2.1.toInt = (c' : Int) - 1 - ((bh : Int) - z) := by
    intro w
    rw [r3 w, a2]
    omega
  have wp := V_wPlain4 (R := 4104) (N := 513) (K := 1000000) (x3 := lx68) (x4 := F_Dir_has 16 t4_0 t4_1 t4_2 t4_3 t4_4 t4_5 t4_6) (x5 := F_Dir_has 2 t4_0 t4_1 t4_2 t4_3 t4_4 t4_5 t4_6) (t0_1 := q.2.1) (N0 := S') (c := c') (pl := bh) (s := (bh : Int) - z) rfl r1 pw (by omega) h68 (by omega) hm (by omega)
  revert wp
  generalize F_Dig_writePlain 4104 513 1000000 lx68 (F_Dir_has 16 t4_0 t4_1 t4_2 t4_3 t4_4 t4_5 t4_6) (F_Dir_has 2 t4_0 t4_1 t4_2 t4_3 t4_4 t4_5 t4_6) q.1 q.2.1 q.2.2 t2_0 t3_0 = w
  intro wp
  unfold F_Pri_writeNumber_c209
  rw [yPlA_cm V_hasI, yTail_cm V_hasI, ← yPlA_sc (z := z), ← yTail_sc (z := z), rd, show (bh : Int) - z + z = bh by omega, List.append_assoc] at wp
  refine ⟨_, ⟨if c' = 0 then 0 else c' + z, ?_, rfl⟩, ?_⟩
  · rw [← rd]
    by_cases g : c' = 0
    · rw [if_pos g, (V_d0 r1.2.2.1).mp g, Nat.zero_mul]
      exact Z_dt00
    · rw [if_neg g]
      exact yDt_sc r1.2.2.1 (fun v => g ((V_d0 r1.2.2.1).mpr v))
  · have A : (if q.2.1.toInt < 0 then 0 else q.2.1.toInt).toNat + 1 = max ((if c' = 0 then 0 else c' + z) - bh) 1 := by
      by_cases g : c' = 0
      · rw [if_pos g, r4 g]
        simp
      · rw [if_neg g, pw g]
        split <;> omega
    rw [A] at wp
    exact wp
theorem V_roK1w {x2 : Int32} {x3 : Int32} {t0_0 : Int32} {t0_1 : Int32} {t1_0 : (Nat → Int32)} {S c : Nat} (h : yDgc t0_0 t1_0 S c) (h0 : c = 0 → t0_1.toInt = 0 ∧ 0 ≤ x2.toInt) (hx : -20000 ≤ x2.toInt ∧ x2.toInt ≤ 20000) (hx0 : 0 < x2.toInt) (hmd : 0 ≤ x3.toInt ∧ x3.toInt ≤ 3) (hp : -50000 ≤ t0_1.toInt ∧ t0_1.toInt ≤ 50000) : ∃ S' c' z : Nat, yDgc (F_Dig_round_1 x2 x3 t0_0 t0_1 t1_0).1 (F_Dig_round_1 x2 x3 t0_0 t0_1 t1_0).2.2 S' c' ∧ S' * 10 ^ z = yRk x3 S c x2.toInt ∧ (c' ≠ 0 → (F_Dig_round_1 x2 x3 t0_0 t0_1 t1_0).2.1.toInt = (c' : Int) + z + t0_1.toInt - x2.toInt) ∧ (c' = 0 → (F_Dig_round_1 x2 x3 t0_0 t0_1 t1_0).2.1.toInt = 0) ∧ -90000 ≤ (F_Dig_round_1 x2 x3 t0_0 t0_1 t1_0).2.1.toInt ∧ (F_Dig_round_1 x2 x3 t0_0 t0_1 t1_0).2.1.toInt ≤ 90000 := by
  by_cases g : (c : Int) ≤ x2.toInt
  · have e : F_Dig_round_1 x2 x3 t0_0 t0_1 t1_0 = (t0_0, t0_1, t1_0) := by
      unfold F_Dig_round_1
      rw [if_neg (fun q => by have := q_ltI q; have := h.1; omega)]
    rw [e]
    refine ⟨S, c, (x2.toInt - c).toNat, h, ?_, fun _ => ?_, fun q => (h0 q).1, ?_, ?_⟩
    · unfold yRk
      rw [if_pos g]
    · show t0_1.toInt = _
      omega
    · show -90000 ≤ t0_1.toInt
      omega
    · show t0_1.toInt ≤ 90000
      omega
  · obtain ⟨m, hm⟩ : ∃ m : Nat, x2.toInt + ((m + 1 : Nat) : Int) = (c : Int) := ⟨((c : Int) - x2.toInt - 1).toNat, by omega⟩
    have c0 : c ≠ 0 := fun q => by have := (h0 q).2; omega
    have hS : S ≠ 0 := by
      intro q
      have := h.2.2.1.2 c0
      rw [q] at this
      exact this (Nat.pow_pos (by decide))
    obtain ⟨S', c', z, r1, r2, r3, r4, r5⟩ := V_rou_1 (x2 := x2) (x3 := x3) (t0_1 := t0_1) h hS hm (by omega) (Or.inr hx0) hmd (by omega)
    refine ⟨S', c', z, r1, ?_, r3, r4, ?_, ?_⟩
    · unfold yRk
      rw [if_neg g, r2, show ((c : Int) - x2.toInt).toNat = m + 1 from by omega]
    · by_cases q : c' = 0
      · rw [r4 q]
        omega
      · rw [r3 q]
        omega
    · by_cases q : c' = 0
      · rw [r4 q]
        omega
      · rw [r3 q]
        omega
theorem V_wNe {t0_0 : Int32} {t0_1 : Int32} {t1_0 : (Nat → Int32)} {t2_0 : Int32} {t3_0 : (Nat → Int64)} {t4_0 : Int32} {t4_1 : Int32} {t4_2 : Int32} {t4_3 : Int32} {t4_4 : Int32} {t4_5 : Int32} {t4_6 : Int32} {lx40 : Int32} {lx52 : Int32} {lx68 : Int32} {lx69 : Int32} {lx70 : Int32} {lx71 : Int32} {lx72 : (Nat → Int32)} {N c bh : Nat} {s : Int} {l : List Nat} (h69 : ¬ lx69 = 102) (hd : yDgc lx70 lx72 N c) (hp : lx71.toInt = if c = 0 then 0 else (c : Int) - 1 - s) (hpb : -50000 ≤ lx71.toInt ∧ lx71.toInt ≤ 50000) (h68 : lx68.toInt = (bh : Int)) (hb : bh ≤ 9999) (hm : yShl 4104 t2_0 t3_0 l) (hl : l.length ≤ 1000) : (N = 0 ∧ yShl 4104 (F_Pri_writeNumber_J156 t0_0 t0_1 t1_0 t2_0 t3_0 t4_0 t4_1 t4_2 t4_3 t4_4 t4_5 t4_6 lx40 lx52 lx68 lx69 lx70 lx71 lx72).2.2.2.1 (F_Pri_writeNumber_J156 t0_0 t0_1 t1_0 t2_0 t3_0 t4_0 t4_1 t4_2 t4_3 t4_4 t4_5 t4_6 lx40 lx52 lx68 lx69 lx70 lx71 lx72).2.2.2.2 (l ++ (yHead 0 0 (bh + 1) (t4_1 &&& 2) ++ yE2 0))) ∨ (N ≠ 0 ∧ ∃ d, yDt (yRk 2 N c ((bh + 1 : Nat) : Int)) d ∧ yShl 4104 (F_Pri_writeNumber_J156 t0_0 t0_1 t1_0 t2_0 t3_0 t4_0 t4_1 t4_2 t4_3 t4_4 t4_5 t4_6 lx40 lx52 lx68 lx69 lx70 lx71 lx72).2.2.2.1 (F_Pri_writeNumber_J156 t0_0 t0_1 t1_0 t2_0 t3_0 t4_0 t4_1 t4_2 t4_3 t4_4 t4_5 t4_6 lx40 lx52 lx68 lx69 lx70 lx71 lx72).2.2.2.2 (l ++ (yHead (yRk 2 N c ((bh + 1 : Nat) : Int)) d (bh + 1) (t4_1 &&& 2) ++ yE2 ((c : Int) - s + d - ((bh + 1 : Nat) : Int) - 1)))) := by
  have e1 : (1 : Int32).toInt = 1 := rfl
  have a2 : (lx68 + 1).toInt = ((bh + 1 : Nat) : Int) := by
    rw [q_addI h68 e1 (by omega) (by omega)]
    omega
  unfold F_Pri_writeNumber_J156
  rw [if_neg h69]
  obtain ⟨S', c', z, r1, r2, r3, r4, r5⟩ := V_roK1w (x2 := lx68 + 1) (x3 := 2) (t0_1 := lx71) hd (fun q => by rw [a2, hp, if_pos q]; omega) (by rw [a2]; omega) (by rw [a2]; omega) (by decide) hpb
  rw [a2] at r2
  revert r1 r3 r4 r5
  generalize F_Dig_round_1 (lx68 + 1) 2 lx70 lx71 lx72 = q
  intro r1 r3 r4 r5
  unfold F_Pri_writeNumber_c223
  have wp := V_wSci4 (R := 4104) (N := 513) (K := 1000000) (x3 := lx68 + 1) (x4 := F_Dir_has 2 t4_0 t4_1 t4_2 t4_3 t4_4 t4_5 t4_6) (t0_1 := q.2.1) (N0 := S') (c := c') (al := bh + 1) rfl r1 a2 (by omega) (by omega) hm (by omega)
  revert wp
  generalize F_Dig_writeScience 4104 513 1000000 (lx68 + 1) (F_Dir_has 2 t4_0 t4_1 t4_2 t4_3 t4_4 t4_5 t4_6) q.1 q.2.1 q.2.2 t2_0 t3_0 = w
  intro wp
  unfold F_Pri_writeNumber_c238
  rw [yHead_cm V_hasI] at wp
  by_cases n0 : N = 0
  · refine Or.inl ⟨n0, ?_⟩
    rw [n0, Z_rk0] at r2
    have s0 : S' = 0 := by
      rcases Nat.mul_eq_zero.mp r2 with v | v
      · exact v
      · exact absurd v (Nat.ne_of_gt (Nat.pow_pos (by decide)))
    have c0 : c' = 0 := (V_d0 r1.2.2.1).mpr s0
    rw [s0, c0, r4 c0] at wp
    exact wp
  · refine Or.inr ⟨n0, c' + z, ?_⟩
    have q0 := V_rkP hd.2.2.1 n0 (show 1 ≤ bh + 1 by omega)
    rw [← r2] at q0
    have s0 : S' ≠ 0 := fun v => q0 (by rw [v, Nat.zero_mul])
    have c0 : c' ≠ 0 := fun v => s0 ((V_d0 r1.2.2.1).mp v)
    have cn : c ≠ 0 := fun v => n0 ((V_d0 hd.2.2.1).mp v)
    rw [← r2]
    refine ⟨yDt_sc r1.2.2.1 s0, ?_⟩
    rw [yHead_sc]
    have pw : q.2.1.toInt = (c : Int) - s + ((c' + z : Nat) : Int) - ((bh + 1 : Nat) : Int) - 1 := by
      rw [r3 c0, a2, hp, if_neg cn]
      omega
    rw [pw] at wp
    exact wp

