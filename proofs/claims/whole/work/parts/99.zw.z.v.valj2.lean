/-! values, for whole: the printer's numbers, g and the method -/
theorem V_w87 {t0_0 : Int32} {t0_1 : Int32} {t1_0 : (Nat → Int32)} {t2_0 : Int32} {t3_0 : (Nat → Int64)} {t4_0 : Int32} {t4_1 : Int32} {t4_2 : Int32} {t4_3 : Int32} {t4_4 : Int32} {t4_5 : Int32} {t4_6 : Int32} {lx40 : Int32} {lx52 : Int32} {a238 : Int32} {p257 : (Int32 × Int32 × (Nat → Int32))} {S' c' z N c s P : Nat} {l : List Nat} (hP : a238.toInt = (P : Int)) (hP1 : 1 ≤ P) (hP2 : P ≤ 9999) (hN : yDt N c) (hd : yDgc p257.1 p257.2.2 S' c') (hz : S' * 10 ^ z = yRk 2 N c (P : Int)) (he : c' ≠ 0 → p257.2.1.toInt = (c' : Int) + z + (if c = 0 then 0 else (c : Int) - 1 - s) - P) (he0 : c' = 0 → p257.2.1.toInt = 0) (hb : -50000 ≤ p257.2.1.toInt ∧ p257.2.1.toInt ≤ 50000) (hcP : c' ≤ P) (hm : yShl 4104 t2_0 t3_0 l) (hl : l.length ≤ 1000) : ∃ u, zTg N c s P (t4_1 &&& 16) (t4_1 &&& 2) u ∧ yShl 4104 (F_Pri_writeNumber_c87 t0_0 t0_1 t1_0 t2_0 t3_0 t4_0 t4_1 t4_2 t4_3 t4_4 t4_5 t4_6 lx40 lx52 a238 p257).2.2.2.1 (F_Pri_writeNumber_c87 t0_0 t0_1 t1_0 t2_0 t3_0 t4_0 t4_1 t4_2 t4_3 t4_4 t4_5 t4_6 lx40 lx52 a238 p257).2.2.2.2 (l ++ u) := by
  have e1 : (1 : Int32).toInt = 1 := rfl
  have e4 : (-4 : Int32).toInt = -4 := rfl
  have sb := q_subI hP e1 (by omega) (by omega)
  unfold F_Pri_writeNumber_c87
  have n0 : N = 0 → S' = 0 ∧ c' = 0 := by
    intro q
    rw [q, Z_rk0] at hz
    have s0 : S' = 0 := by
      rcases Nat.mul_eq_zero.mp hz with v | v
      · exact v
      · exact absurd v (Nat.ne_of_gt (Nat.pow_pos (by decide)))
    exact ⟨s0, (V_d0 hd.2.2.1).mpr s0⟩
  have n1 : N ≠ 0 → S' ≠ 0 ∧ c' ≠ 0 ∧ c ≠ 0 ∧ yDt (yRk 2 N c (P : Int)) (c' + z) ∧ p257.2.1.toInt = (c : Int) - s + ((c' + z : Nat) : Int) - P - 1 := by
    intro q
    have q0 := V_rkP hN q hP1
    rw [← hz] at q0
    have s0 : S' ≠ 0 := fun v => q0 (by rw [v, Nat.zero_mul])
    have c0 : c' ≠ 0 := fun v => s0 ((V_d0 hd.2.2.1).mp v)
    have cn : c ≠ 0 := fun v => q ((V_d0 hN).mp v)
    refine ⟨s0, c0, cn, ?_, ?_⟩
    · rw [← hz]
      exact yDt_sc hd.2.2.1 s0
    · rw [he c0, if_neg cn]
      omega
  have E : ¬ (-4 ≤ p257.2.1.toInt ∧ p257.2.1.toInt < P) → ∃ u, zTg N c s P (t4_1 &&& 16) (t4_1 &&& 2) u ∧ yShl 4104 (F_Pri_writeNumber_J117 t0_0 t0_1 t1_0 t2_0 t3_0 t4_0 t4_1 t4_2 t4_3 t4_4 t4_5 t4_6 lx40 lx52 a238 p257 p257.1 p257.2.1 p257.2.2).2.2.2.1 (F_Pri_writeNumber_J117 t0_0 t0_1 t1_0 t2_0 t3_0 t4_0 t4_1 t4_2 t4_3 t4_4 t4_5 t4_6 lx40 lx52 a238 p257 p257.1 p257.2.1 p257.2.2).2.2.2.2 (l ++ u) := by
    intro ne
    unfold F_Pri_writeNumber_J117
    have N0 : N ≠ 0 := fun q => by have := he0 (n0 q).2; omega
    obtain ⟨s0, c0, cn, dd, ee⟩ := n1 N0
    rcases V_wNe (bh := P - 1) (lx69 := 101) (s := (c' : Int) - 1 - p257.2.1.toInt) (by decide) hd (by rw [if_neg c0]; omega) hb (by rw [sb]; omega) (by omega) hm hl with ⟨w1, _⟩ | ⟨_, d, w2, w3⟩
    · exact absurd w1 s0
    · have rk : yRk 2 S' c' ((P - 1 + 1 : Nat) : Int) = S' * 10 ^ (P - c') := by
        unfold yRk
        rw [if_pos (by omega), show (((P - 1 + 1 : Nat) : Int) - c').toNat = P - c' by omega]
      have d2 := yDt_sc (z := P - c') hd.2.2.1 s0
      rw [rk] at w2 w3
      have dP := yDt_U w2 d2
      rw [dP, yHead_sc, ← yHead_sc (z := z), hz, show P - 1 + 1 = P by omega] at w3
      refine ⟨_, Or.inr ⟨N0, c' + z, p257.2.1.toInt, dd, ee, Or.inr ⟨ne, rfl⟩⟩, ?_⟩
      rw [show (c' : Int) - ((c' : Int) - 1 - p257.2.1.toInt) + ((c' + (P - c') : Nat) : Int) - (P : Int) - 1 = p257.2.1.toInt by omega] at w3
      exact w3
  by_cases a : p257.2.1 < -4
  · rw [if_pos a]
    have a' := q_ltI a
    exact E (by omega)
  · rw [if_neg a]
    have a' := q_nltI a
    by_cases b : a238 ≤ p257.2.1
    · rw [if_pos b]
      have b' := q_leI b
      exact E (by omega)
    · rw [if_neg b]
      have b' := q_nleI b
      obtain ⟨pl, hpl⟩ : ∃ pl : Nat, (P : Int) - 1 - p257.2.1.toInt = (pl : Int) := ⟨((P : Int) - 1 - p257.2.1.toInt).toNat, by omega⟩
      have s2 := q_subI sb (show p257.2.1.toInt = p257.2.1.toInt from rfl) (by omega) (by omega)
      rw [hpl] at s2
      have a2 : (p257.2.1 + 1 + (a238 - 1 - p257.2.1)).toInt = (P : Int) := by
        rw [q_addI (q_addI rfl e1 (by omega) (by omega)) s2 (by omega) (by omega)]
        omega
      unfold F_Pri_writeNumber_J156
      rw [if_pos (rfl : (102 : Int32) = 102)]
      have ro : F_Dig_round_2 (p257.2.1 + 1 + (a238 - 1 - p257.2.1)) 2 p257.1 p257.2.1 p257.2.2 = (p257.1, p257.2.1, p257.2.2) := by
        unfold F_Dig_round_2
        rw [if_neg (fun q => by have := q_ltI q; have := hd.1; omega)]
      rw [ro]
      unfold F_Pri_writeNumber_c187
      have wp := V_wPlain4 (R := 4104) (N := 513) (K := 1000000) (x3 := a238 - 1 - p257.2.1) (x4 := F_Dir_has 16 t4_0 t4_1 t4_2 t4_3 t4_4 t4_5 t4_6) (x5 := F_Dir_has 2 t4_0 t4_1 t4_2 t4_3 t4_4 t4_5 t4_6) (t0_1 := p257.2.1) (N0 := S') (c := c') (pl := pl) (s := if c' = 0 then 0 else (c' : Int) - 1 - p257.2.1.toInt) rfl hd (fun q => by rw [if_neg q]; omega) (by omega) s2 (by omega) hm (by omega)
      revert wp
      generalize F_Dig_writePlain 4104 513 1000000 (a238 - 1 - p257.2.1) (F_Dir_has 16 t4_0 t4_1 t4_2 t4_3 t4_4 t4_5 t4_6) (F_Dir_has 2 t4_0 t4_1 t4_2 t4_3 t4_4 t4_5 t4_6) p257.1 p257.2.1 p257.2.2 t2_0 t3_0 = w
      intro wp
      unfold F_Pri_writeNumber_c209
      rw [yPlA_cm V_hasI, yTail_cm V_hasI] at wp
      by_cases N0 : N = 0
      · obtain ⟨s0, c0⟩ := n0 N0
        have z0 := he0 c0
        rw [if_pos c0, s0, z0, show pl = P - 1 by omega, List.append_assoc] at wp
        exact ⟨_, Or.inl ⟨N0, rfl⟩, wp⟩
      · obtain ⟨s0, c0, cn, dd, ee⟩ := n1 N0
        rw [if_neg c0, ← yPlA_sc (z := z), ← yTail_sc (z := z), hz, show (c' : Int) - 1 - p257.2.1.toInt + z = ((c' + z : Nat) : Int) - 1 - p257.2.1.toInt by omega, List.append_assoc, show (if p257.2.1.toInt < 0 then 0 else p257.2.1.toInt).toNat + 1 = (max (p257.2.1.toInt + 1) 1).toNat by split <;> omega, show pl = ((P : Int) - 1 - p257.2.1.toInt).toNat by omega] at wp
        exact ⟨_, Or.inr ⟨N0, c' + z, p257.2.1.toInt, dd, ee, Or.inl ⟨by omega, rfl⟩⟩, wp⟩
theorem V_smL {c : Int32} (h : 0 ≤ c.toInt ∧ c.toInt ≤ 255) (g : zSm c ∈ [100, 102, 101, 103]) : (if c < 65 then c else if 90 < c then c else c + 32) = zSm c := by
  obtain ⟨n, hn, rfl⟩ := y_c256 h
  have key : ∀ n : Nat, n < 256 → zSm (Int32.ofNat n) ∈ [100, 102, 101, 103] → (if Int32.ofNat n < 65 then Int32.ofNat n else if 90 < Int32.ofNat n then Int32.ofNat n else Int32.ofNat n + 32) = zSm (Int32.ofNat n) := by decide +kernel
  exact key n hn g
theorem V_wN54 {t0_0 : Int32} {t0_1 : Int32} {t1_0 : (Nat → Int32)} {t2_0 : Int32} {t3_0 : (Nat → Int64)} {t4_0 : Int32} {t4_1 : Int32} {t4_2 : Int32} {t4_3 : Int32} {t4_4 : Int32} {t4_5 : Int32} {t4_6 : Int32} {lx40 : Int32} {lx52 : Int32} {N c s p : Nat} {l : List Nat} (hd : yDgc t0_0 t1_0 N c) (hp : t0_1.toInt = if c = 0 then 0 else (c : Int) - 1 - s) (hs : s ≤ 40) (hc : c ≤ 30) (h52 : lx52.toInt = (p : Int)) (hp2 : p ≤ 9999) (hm : yShl 4104 t2_0 t3_0 l) (hl : l.length ≤ 1000) (hk : (lx40 = 100 ∧ s = 0) ∨ lx40 = 102 ∨ lx40 = 101 ∨ lx40 = 103) : ∃ u, ((lx40 = 100 ∧ zTf N 0 0 (t4_1 &&& 16) (t4_1 &&& 2) u) ∨ ((lx40 = 102 ∨ lx40 = 101 ∨ lx40 = 103) ∧ zTx lx40 N c s p (t4_1 &&& 16) (t4_1 &&& 2) u)) ∧ yShl 4104 (F_Pri_writeNumber_J54 t0_0 t0_1 t1_0 t2_0 t3_0 t4_0 t4_1 t4_2 t4_3 t4_4 t4_5 t4_6 lx40 lx52).2.2.2.1 (F_Pri_writeNumber_J54 t0_0 t0_1 t1_0 t2_0 t3_0 t4_0 t4_1 t4_2 t4_3 t4_4 t4_5 t4_6 lx40 lx52).2.2.2.2 (l ++ u) := by
  have e1 : (1 : Int32).toInt = 1 := rfl
  have pb : -42 ≤ t0_1.toInt ∧ t0_1.toInt ≤ 30 := by
    rw [hp]
    split <;> omega
  unfold F_Pri_writeNumber_J54
  by_cases a : lx40 = 100
  · rw [if_pos a]
    have s0 : s = 0 := by
      rcases hk with w | w | w | w
      · exact w.2
      · rw [a] at w; exact absurd w (by decide)
      · rw [a] at w; exact absurd w (by decide)
      · rw [a] at w; exact absurd w (by decide)
    subst s0
    obtain ⟨u, w1, w2⟩ := V_wNf (lx68 := 0) (lx69 := 102) (bh := 0) rfl hd hp hs hc rfl (by decide) hm hl
    exact ⟨u, Or.inl ⟨a, w1⟩, w2⟩
  · rw [if_neg a]
    have hk := hk.resolve_left (fun w => a w.1)
    by_cases b : lx40 = 103
    · rw [if_pos b]
      obtain ⟨P, hP, hPm⟩ : ∃ P : Nat, (if lx52 < 1 then 1 else lx52).toInt = (P : Int) ∧ P = max p 1 := by
        refine ⟨max p 1, ?_, rfl⟩
        by_cases q : lx52 < 1
        · rw [if_pos q]
          have := q_ltI q
          omega
        · rw [if_neg q]
          have := q_nltI q
          omega
      revert hP
      generalize (if lx52 < 1 then 1 else lx52) = a238
      intro hP
      obtain ⟨S', c', z, r1, r2, r3, r4, r5⟩ := V_roK1 (x2 := a238) (x3 := 2) (t0_1 := t0_1) hd (fun q => by rw [hp, if_pos q]; omega) (by omega) (by omega) (by decide) (by omega)
      have r6 := V_ro1c (x2 := a238) (x3 := 2) (t0_0 := t0_0) (t0_1 := t0_1) (t1_0 := t1_0) (by rw [hd.1]; omega) (by omega)
      rw [hP] at r2 r6
      revert r1 r3 r4 r5 r6
      generalize F_Dig_round_1 a238 2 t0_0 t0_1 t1_0 = q
      intro r1 r3 r4 r5 r6
      obtain ⟨u, w1, w2⟩ := V_w87 (p257 := q) hP (by omega) (by omega) hd.2.2.1 r1 r2 (fun w => by rw [r3 w, hP, hp]) r4 r5 (by have := r1.1; omega) hm hl
      rw [hPm] at w1
      exact ⟨u, Or.inr ⟨hk, Or.inr (Or.inr ⟨b, w1⟩)⟩, w2⟩
    · rw [if_neg b]
      by_cases f : lx40 = 102
      · obtain ⟨u, w1, w2⟩ := V_wNf (bh := p) f hd hp hs hc h52 hp2 hm hl
        exact ⟨u, Or.inr ⟨hk, Or.inl ⟨f, w1⟩⟩, w2⟩
      · have g : lx40 = 101 := (hk.resolve_left f).resolve_right b
        rcases V_wNe (s := (s : Int)) (bh := p) f hd hp (by omega) h52 hp2 hm hl with ⟨w1, w2⟩ | ⟨w1, d, w2, w3⟩
        · exact ⟨_, Or.inr ⟨hk, Or.inr (Or.inl ⟨g, Or.inl ⟨w1, rfl⟩⟩)⟩, w2⟩
        · exact ⟨_, Or.inr ⟨hk, Or.inr (Or.inl ⟨g, Or.inr ⟨w1, d, w2, rfl⟩⟩)⟩, w3⟩
theorem V_wrN {t0_0 : Int32} {t0_1 : Int32} {t1_0 : (Nat → Int32)} {t2_0 : Int32} {t3_0 : (Nat → Int64)} {t4_0 : Int32} {t4_1 : Int32} {t4_2 : Int32} {t4_3 : Int32} {t4_4 : Int32} {t4_5 : Int32} {t4_6 : Int32} {N c s : Nat} {l : List Nat} {pr : Int} (hd : yDgc t0_0 t1_0 N c) (hp : t0_1.toInt = if c = 0 then 0 else (c : Int) - 1 - s) (hs : s ≤ 40) (hc : c ≤ 30) (h3 : t4_3.toInt = pr) (hpr : -1 ≤ pr ∧ pr ≤ 9999) (h4 : 0 ≤ t4_4.toInt ∧ t4_4.toInt ≤ 255) (hm : yShl 4104 t2_0 t3_0 l) (hl : l.length ≤ 1000) (hk : (zSm t4_4 = 100 ∧ s = 0) ∨ zSm t4_4 = 102 ∨ zSm t4_4 = 101 ∨ zSm t4_4 = 103) : ∃ u, ((zSm t4_4 = 100 ∧ zTf N 0 0 (t4_1 &&& 16) (t4_1 &&& 2) u) ∨ ((zSm t4_4 = 102 ∨ zSm t4_4 = 101 ∨ zSm t4_4 = 103) ∧ zTx (zSm t4_4) N c s (if pr < 0 then 6 else pr.toNat) (t4_1 &&& 16) (t4_1 &&& 2) u)) ∧ yShl 4104 (F_Pri_writeNumber t0_0 t0_1 t1_0 t2_0 t3_0 t4_0 t4_1 t4_2 t4_3 t4_4 t4_5 t4_6).2.2.2.1 (F_Pri_writeNumber t0_0 t0_1 t1_0 t2_0 t3_0 t4_0 t4_1 t4_2 t4_3 t4_4 t4_5 t4_6).2.2.2.2 (l ++ u) := by
  have sm := V_smL h4 (by
    rcases hk with w | w | w | w
    · rw [w.1]; decide
    · rw [w]; decide
    · rw [w]; decide
    · rw [w]; decide)
  have J : ∀ x, x = zSm t4_4 → ∃ u, ((zSm t4_4 = 100 ∧ zTf N 0 0 (t4_1 &&& 16) (t4_1 &&& 2) u) ∨ ((zSm t4_4 = 102 ∨ zSm t4_4 = 101 ∨ zSm t4_4 = 103) ∧ zTx (zSm t4_4) N c s (if pr < 0 then 6 else pr.toNat) (t4_1 &&& 16) (t4_1 &&& 2) u)) ∧ yShl 4104 (F_Pri_writeNumber_J30 t0_0 t0_1 t1_0 t2_0 t3_0 t4_0 t4_1 t4_2 t4_3 t4_4 t4_5 t4_6 x).2.2.2.1 (F_Pri_writeNumber_J30 t0_0 t0_1 t1_0 t2_0 t3_0 t4_0 t4_1 t4_2 t4_3 t4_4 t4_5 t4_6 x).2.2.2.2 (l ++ u) := by
    intro x hx
    rw [← hx] at hk ⊢
    unfold F_Pri_writeNumber_J30
    by_cases m : t4_3 = -1
    · rw [if_pos m]
      have pm : pr < 0 := by rw [← h3, m]; decide
      rw [if_pos pm]
      exact V_wN54 hd hp hs hc rfl (by decide) hm hl hk
    · rw [if_neg m]
      have pm : ¬ pr < 0 := fun w => m (Int32.toInt_inj.mp (by rw [h3, show (-1 : Int32).toInt = -1 from rfl]; omega))
      rw [if_neg pm]
      exact V_wN54 hd hp hs hc (by omega) (by omega) hm hl hk
  unfold F_Pri_writeNumber F_Dir_isLarge
  by_cases a : t4_4 < 65
  · rw [if_pos a] at sm
    rw [if_pos a, if_pos (rfl : (0 : Int32) = 0)]
    exact J _ sm
  · rw [if_neg a] at sm
    rw [if_neg a]
    by_cases b : 90 < t4_4
    · rw [if_pos b] at sm
      rw [if_pos b, if_pos (rfl : (0 : Int32) = 0)]
      exact J _ sm
    · rw [if_neg b] at sm
      rw [if_neg b, if_neg (show ¬ (1 : Int32) = 0 by decide)]
      exact J _ sm

