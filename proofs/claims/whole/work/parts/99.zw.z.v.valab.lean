/-! values, for whole: the reference's TextRows: a decimal written out in words -/
def QV_wo (a0 a1 a2 a3 a4 a5 a6 : Int32) (a7 : Int64) (a10 a11 : Int64) (a12 a13 : Int32) (V : Int) (p : Int32 × Int32 × Int32 × Int32 × Int32 × Int32 × Int32 × Int64 × Int32 × Int32 × Int64 × Int64 × Int32 × Int32 × (Nat → Int32)) : Prop := ∃ fr to w, p = (a0, a1, a2, a3, a4, a5, a6, a7, fr, to, a10, a11, a12, a13, w) ∧ yW fr to w ∧ to.toInt ≤ 617 ∧ trV w 800 = V
theorem V_wo5 {K_F_TR_writeOut_L2 : Int32 → (Nat → Int32) → (Int32 × Int32 × Int32 × Int32 × Int32 × Int32 × Int32 × Int64 × Int32 × Int32 × Int64 × Int64 × Int32 × Int32 × (Nat → Int32))} {K_F_TR_writeOut_L29 : Int32 → (Nat → Int32) → (Int32 × Int32 × Int32 × Int32 × Int32 × Int32 × Int32 × Int64 × Int32 × Int32 × Int64 × Int64 × Int32 × Int32 × (Nat → Int32))} {K_F_TR_writeOut_L130 : Int32 → (Int32 × Int32 × Int32 × Int32 × Int32 × Int32 × Int32 × Int64 × Int32 × Int32 × Int64 × Int64 × Int32 × Int32 × (Nat → Int32))} {x2 : Int32} {x3 : Int32} {t0_0 : Int32} {t0_1 : Int32} {t0_2 : Int32} {t0_3 : Int32} {t0_4 : Int32} {t0_5 : Int32} {t0_6 : Int32} {t0_7 : Int64} {t0_8 : Int32} {t0_9 : Int32} {t0_10 : Int64} {t0_11 : Int64} {t0_12 : Int32} {t0_13 : Int32} {t1_0 : (Nat → Int32)} {t2_0 : (Nat → Int32)} {lx26 : Int32} {lx27 : (Nat → Int32)} {lx43 : Int32} {lx44 : (Nat → Int32)} {lx62 : Int32} {V : Int} (h62 : 0 ≤ lx62.toInt ∧ lx62.toInt ≤ 54) (ho : trO lx44) (hz : ∀ i : Nat, (i : Int) < lx62.toInt → lx44 i = 0) (hn : lx62.toInt = 54 ∨ lx44 lx62.toNatClampNeg ≠ 0) (hV : trV lx44 800 = V) (h617 : ∀ i : Nat, 617 < i → i < 800 → lx44 i = 0) : ∀ (n : Nat) (lx84 : Int32), 54 ≤ lx84.toInt → lx84.toInt ≤ 799 → lx84.toInt - 54 < (n : Int) → (∀ i : Nat, lx84.toInt < (i : Int) → i < 800 → lx44 i = 0) → QV_wo t0_0 t0_1 t0_2 t0_3 t0_4 t0_5 t0_6 t0_7 t0_10 t0_11 t0_12 t0_13 V (F_TR_writeOut_L164 K_F_TR_writeOut_L2 K_F_TR_writeOut_L29 K_F_TR_writeOut_L130 x2 x3 t0_0 t0_1 t0_2 t0_3 t0_4 t0_5 t0_6 t0_7 t0_8 t0_9 t0_10 t0_11 t0_12 t0_13 t1_0 t2_0 lx26 lx27 lx43 lx44 lx62 n lx84) := by
  intro n
  induction n with
  | zero =>
    intro lx84 h0 h1 h2
    omega
  | succ n ih =>
    intro lx84 h0 h1 h2 h3
    have e54 : (54 : Int32).toInt = 54 := rfl
    have c := q_clI (i := lx84) rfl (by omega)
    rw [F_TR_writeOut_L164.eq_2]
    by_cases g1 : lx84 ≤ (54 : Int32)
    · rw [if_pos g1]
      have g2 := q_leI g1
      exact ⟨_, _, _, rfl, ⟨h62, ⟨h0, h1⟩, ho, hz, hn, h3, Or.inl (by omega)⟩, by omega, hV⟩
    · rw [if_neg g1]
      have g2 := q_nleI g1
      by_cases g3 : lx44 lx84.toNatClampNeg = 0
      · rw [if_pos g3]
        have e1 : (lx84 - 1 : Int32).toInt = lx84.toInt - 1 := q_subI (y := 1) rfl rfl (by omega) (by omega)
        refine ih _ (by omega) (by omega) (by omega) (fun i hi hi2 => ?_)
        by_cases d : i = lx84.toNatClampNeg
        · rw [d]
          exact g3
        · exact h3 i (by omega) hi2
      · rw [if_neg g3]
        refine ⟨_, _, _, rfl, ⟨h62, ⟨h0, h1⟩, ho, hz, hn, h3, Or.inr g3⟩, ?_, hV⟩
        rcases Int.lt_or_le 617 lx84.toInt with d | d
        · exact absurd (h617 _ (by omega) (by omega)) g3
        · exact d
theorem V_wo4 {K_F_TR_writeOut_L2 : Int32 → (Nat → Int32) → (Int32 × Int32 × Int32 × Int32 × Int32 × Int32 × Int32 × Int64 × Int32 × Int32 × Int64 × Int64 × Int32 × Int32 × (Nat → Int32))} {K_F_TR_writeOut_L29 : Int32 → (Nat → Int32) → (Int32 × Int32 × Int32 × Int32 × Int32 × Int32 × Int32 × Int64 × Int32 × Int32 × Int64 × Int64 × Int32 × Int32 × (Nat → Int32))} {x2 : Int32} {x3 : Int32} {t0_0 : Int32} {t0_1 : Int32} {t0_2 : Int32} {t0_3 : Int32} {t0_4 : Int32} {t0_5 : Int32} {t0_6 : Int32} {t0_7 : Int64} {t0_8 : Int32} {t0_9 : Int32} {t0_10 : Int64} {t0_11 : Int64} {t0_12 : Int32} {t0_13 : Int32} {t1_0 : (Nat → Int32)} {t2_0 : (Nat → Int32)} {lx26 : Int32} {lx27 : (Nat → Int32)} {lx43 : Int32} {lx44 : (Nat → Int32)} {V : Int} (ho : trO lx44) (hV : trV lx44 800 = V) (h617 : ∀ i : Nat, 617 < i → i < 800 → lx44 i = 0) : ∀ (n : Nat) (lx62 : Int32), 0 ≤ lx62.toInt → lx62.toInt ≤ 54 → 54 - lx62.toInt < (n : Int) → (∀ i : Nat, (i : Int) < lx62.toInt → lx44 i = 0) → QV_wo t0_0 t0_1 t0_2 t0_3 t0_4 t0_5 t0_6 t0_7 t0_10 t0_11 t0_12 t0_13 V (F_TR_writeOut_L130 K_F_TR_writeOut_L2 K_F_TR_writeOut_L29 x2 x3 t0_0 t0_1 t0_2 t0_3 t0_4 t0_5 t0_6 t0_7 t0_8 t0_9 t0_10 t0_11 t0_12 t0_13 t1_0 t2_0 lx26 lx27 lx43 lx44 n lx62) := by
  intro n
  induction n with
  | zero =>
    intro lx62 h0 h1 h2
    omega
  | succ n ih =>
    intro lx62 h0 h1 h2 h3
    have e54 : (54 : Int32).toInt = 54 := rfl
    have e799 : (799 : Int32).toInt = 799 := rfl
    have c := q_clI (i := lx62) rfl h0
    rw [F_TR_writeOut_L130.eq_2]
    have fin : (lx62.toInt = 54 ∨ lx44 lx62.toNatClampNeg ≠ 0) → ∀ KK, QV_wo t0_0 t0_1 t0_2 t0_3 t0_4 t0_5 t0_6 t0_7 t0_10 t0_11 t0_12 t0_13 V (F_TR_writeOut_J164 K_F_TR_writeOut_L2 K_F_TR_writeOut_L29 KK x2 x3 t0_0 t0_1 t0_2 t0_3 t0_4 t0_5 t0_6 t0_7 t0_8 t0_9 t0_10 t0_11 t0_12 t0_13 t1_0 t2_0 lx26 lx27 lx43 lx44 lx62) := fun hn KK => by
      unfold F_TR_writeOut_J164
      exact V_wo5 ⟨h0, h1⟩ ho h3 hn hV h617 _ 799 (by decide) (by decide) (by omega) (fun i hi hi2 => by omega)
    by_cases g1 : (54 : Int32) ≤ lx62
    · rw [if_pos g1]
      have g2 := q_leI g1
      exact fin (Or.inl (by omega)) _
    · rw [if_neg g1]
      have g2 := q_nleI g1
      by_cases g3 : lx44 lx62.toNatClampNeg = 0
      · rw [if_pos g3]
        have e1 : (lx62 + 1 : Int32).toInt = lx62.toInt + 1 := q_addI (y := 1) rfl rfl (by omega) (by omega)
        refine ih _ (by omega) (by omega) (by omega) (fun i hi => ?_)
        by_cases d : i = lx62.toNatClampNeg
        · rw [d]
          exact g3
        · exact h3 i (by omega)
      · rw [if_neg g3]
        exact fin (Or.inr g3) _
theorem V_wo3 {K_F_TR_writeOut_L2 : Int32 → (Nat → Int32) → (Int32 × Int32 × Int32 × Int32 × Int32 × Int32 × Int32 × Int64 × Int32 × Int32 × Int64 × Int64 × Int32 × Int32 × (Nat → Int32))} {K_F_TR_writeOut_L29 : Int32 → (Nat → Int32) → (Int32 × Int32 × Int32 × Int32 × Int32 × Int32 × Int32 × Int64 × Int32 × Int32 × Int64 × Int64 × Int32 × Int32 × (Nat → Int32))} {x2 : Int32} {x3 : Int32} {t0_0 : Int32} {t0_1 : Int32} {t0_2 : Int32} {t0_3 : Int32} {t0_4 : Int32} {t0_5 : Int32} {t0_6 : Int32} {t0_7 : Int64} {t0_8 : Int32} {t0_9 : Int32} {t0_10 : Int64} {t0_11 : Int64} {t0_12 : Int32} {t0_13 : Int32} {t1_0 : (Nat → Int32)} {t2_0 : (Nat → Int32)} {lx26 : Int32} {lx27 : (Nat → Int32)} {lx43 : Int32} {lx44 : (Nat → Int32)} {a132 : Int32} {P : (Int32 × Int32 × Int32 × Int32 × Int32 × Int32 × Int32 × Int64 × Int32 × Int32 × Int64 × Int64 × Int32 × Int32 × (Nat → Int32)) → Prop} {a : Int} {q e : Nat} (hF : 0 ≤ (t1_0 lx43.toNatClampNeg).toInt ∧ (t1_0 lx43.toNatClampNeg).toInt ≤ 9) (hP : trP lx44 a) (ha : 40 ≤ a ∧ a ≤ 4999) (hq : 8 * (q : Int) + 8 = a + e) (he : 1 ≤ e ∧ e ≤ 8) (h132 : a132.toInt = (q : Int)) (hK : ∀ r : Nat → Int32, trP r (a + 1) → trV r 800 = trV lx44 800 + (t1_0 lx43.toNatClampNeg).toInt * (10 ^ (e - 1) * 100000000 ^ (799 - q)) → P (K_F_TR_writeOut_L29 (lx43 + 1) r)) : ∀ (n : Nat) (lx141 : Int32) (lx142 : Int32), (0 ≤ lx141.toInt ∧ lx141.toInt ≤ 7) → 7 - lx141.toInt < (n : Int) → (∃ j : Nat, (j : Int) = lx141.toInt - (8 - (e : Int)) ∧ lx142.toInt = 10 ^ j) → P (F_TR_writeOut_L67 K_F_TR_writeOut_L2 K_F_TR_writeOut_L29 x2 x3 t0_0 t0_1 t0_2 t0_3 t0_4 t0_5 t0_6 t0_7 t0_8 t0_9 t0_10 t0_11 t0_12 t0_13 t1_0 t2_0 lx26 lx27 lx43 lx44 a132 n lx141 lx142) := by
  intro n
  induction n with
  | zero =>
    intro lx141 lx142 h0 hm
    omega
  | succ n ih =>
    intro lx141 lx142 h0 hm ⟨j, j1, j2⟩
    have e7 : (7 : Int32).toInt = 7 := rfl
    have e132 := q_clI (i := a132) rfl (by omega)
    rw [F_TR_writeOut_L67.eq_2]
    by_cases g1 : (7 : Int32) ≤ lx141
    · rw [if_pos g1]
      have g1i := q_leI g1
      have eq : a132.toNatClampNeg = q := by omega
      have wv := hP.1 q (by omega)
      have je : j = e - 1 := by omega
      have fw := tr_fw wv hF (e := j) (by omega) j2
      rw [eq]
      refine hK _ (hP.step ha.1 (by omega) hq he.1 he.2 (by rw [j2, je]) hF fw (by omega)) ?_
      rw [yV_u (by omega), fw, j2, je, show 800 - 1 - q = 799 - q by omega]
      grind
    · rw [if_neg g1]
      have g1i := q_nleI g1
      have a2i : (lx141 + 1 : Int32).toInt = lx141.toInt + 1 := q_addI (x := lx141.toInt) (y := 1) rfl (by decide) (by omega) (by omega)
      exact ih _ _ ⟨by omega, by omega⟩ (by omega) ⟨j + 1, by omega, tr_w10 (by omega) j2⟩
theorem y_wE {a : Int} {q e X j : Nat} (hq : 8 * (q : Int) + 8 = a + e) (he : 1 ≤ e ∧ e ≤ 8) (hq8 : q < 800) (hx : a + (X : Int) = 6400 + j) (hj : j + 1 ≤ X) : (10 : Int) ^ (e - 1) * 100000000 ^ (799 - q) = 10 ^ (X - (j + 1)) := by
  rw [show (100000000 : Int) = 10 ^ 8 from rfl, ← Int.pow_mul, ← Int.pow_add, show e - 1 + 8 * (799 - q) = X - (j + 1) by omega]
theorem V_wo2 {K_F_TR_writeOut_L2 : Int32 → (Nat → Int32) → (Int32 × Int32 × Int32 × Int32 × Int32 × Int32 × Int32 × Int64 × Int32 × Int32 × Int64 × Int64 × Int32 × Int32 × (Nat → Int32))} {x2 : Int32} {x3 : Int32} {t0_0 : Int32} {t0_1 : Int32} {t0_2 : Int32} {t0_3 : Int32} {t0_4 : Int32} {t0_5 : Int32} {t0_6 : Int32} {t0_7 : Int64} {t0_8 : Int32} {t0_9 : Int32} {t0_10 : Int64} {t0_11 : Int64} {t0_12 : Int32} {t0_13 : Int32} {t1_0 : (Nat → Int32)} {t2_0 : (Nat → Int32)} {lx26 : Int32} {lx27 : (Nat → Int32)} {f m X : Nat} (hx2 : x2.toInt = (f : Int)) (hf : f ≤ 4099) (hx3 : -400 ≤ x3.toInt ∧ x3.toInt ≤ 400) (h5 : t0_5.toInt = ((f + m : Nat) : Int)) (hm : f + m ≤ 4100) (hF : gO (fun i => t1_0 (f + i)) m) (hX : (X : Int) = 5960 + x3.toInt) : ∀ (n : Nat) (lx43 : Int32) (lx44 : (Nat → Int32)), ∀ k : Nat, lx43.toInt = ((f + k : Nat) : Int) → k ≤ m → m < n + k → trP lx44 (440 - x3.toInt + k) → trV lx44 800 = uV (fun i => t1_0 (f + i)) k * 10 ^ (X - k) → QV_wo t0_0 t0_1 t0_2 t0_3 t0_4 t0_5 t0_6 t0_7 t0_10 t0_11 t0_12 t0_13 (uV (fun i => t1_0 (f + i)) m * 10 ^ (X - m)) (F_TR_writeOut_L29 K_F_TR_writeOut_L2 x2 x3 t0_0 t0_1 t0_2 t0_3 t0_4 t0_5 t0_6 t0_7 t0_8 t0_9 t0_10 t0_11 t0_12 t0_13 t1_0 t2_0 lx26 lx27 n lx43 lx44) := by
  intro n
  induction n with
  | zero =>
    intro lx43 lx44 k h0 h1 h2
    omega
  | succ n ih =>
    intro lx43 lx44 k h0 h1 h2 hP hv
    have kc := q_clI h0 (by omega)
    have kx : lx43.toNatClampNeg = f + k := by omega
    rw [F_TR_writeOut_L29.eq_2]
    obtain ⟨aw, eaw⟩ := q_nm ((((439 - x3 : Int32) + 1 : Int32) + lx43 : Int32) - x2 : Int32)
    have awi : aw.toInt = 440 - x3.toInt + (k : Int) := by
      rw [← eaw, tr_aw ⟨by omega, by omega⟩ hx3 ⟨by omega, by omega⟩]
      omega
    rw [eaw]
    clear eaw
    by_cases g1 : t0_5 ≤ lx43
    · rw [if_pos g1]
      have g1i := q_leI g1
      obtain rfl : k = m := by omega
      refine V_wo4 hP.1 hv (fun i h1 h2 => ?_) _ 0 (by decide) (by decide) (by decide) (fun i hi => ?_)
      · have := hP.2.1 i h2 (by omega)
        exact Int32.toInt_inj.mp (by rw [this]; rfl)
      · have : (0 : Int32).toInt = 0 := rfl
        omega
    · rw [if_neg g1]
      have g1i := q_nleI g1
      have r8 := tr_8 (a := aw) (by omega)
      have e5 : (lx43 + 1 : Int32).toInt = ((f + (k + 1) : Nat) : Int) := by
        rw [q_addI (y := 1) h0 rfl (by omega) (by omega)]
        omega
      obtain ⟨q, hq⟩ : ∃ q : Nat, aw.toInt / 8 = (q : Int) := ⟨(aw.toInt / 8).toNat, by omega⟩
      obtain ⟨e, he⟩ : ∃ e : Nat, 8 - aw.toInt % 8 = (e : Int) := ⟨(8 - aw.toInt % 8).toNat, by omega⟩
      rw [hq] at r8
      have fv := hF k (by omega)
      refine V_wo3 (a := aw.toInt) (q := q) (e := e) (by rw [kx]; exact fv) (by rw [awi]; exact hP) ⟨by omega, by omega⟩ (by omega) ⟨by omega, by omega⟩ r8.1 (fun r hr hrv => ?_) _ _ 1 ⟨by omega, by omega⟩ (by omega) ⟨0, by omega, rfl⟩
      refine ih _ r (k + 1) e5 (by omega) (by omega) ?_ ?_
      · rw [awi] at hr
        rw [show 440 - x3.toInt + ((k + 1 : Nat) : Int) = 440 - x3.toInt + (k : Int) + 1 by omega]
        exact hr
      · rw [hrv, hv, kx, y_wE (a := aw.toInt) (X := X) (j := k) (by omega) ⟨by omega, by omega⟩ (by omega) (by omega) (by omega)]
        show _ = (uV (fun i => t1_0 (f + i)) k * 10 + (t1_0 (f + k)).toInt) * 10 ^ (X - (k + 1))
        rw [show X - k = X - (k + 1) + 1 by omega, Int.pow_succ]
        grind
theorem V_wo1 {x2 : Int32} {x3 : Int32} {t0_0 : Int32} {t0_1 : Int32} {t0_2 : Int32} {t0_3 : Int32} {t0_4 : Int32} {t0_5 : Int32} {t0_6 : Int32} {t0_7 : Int64} {t0_8 : Int32} {t0_9 : Int32} {t0_10 : Int64} {t0_11 : Int64} {t0_12 : Int32} {t0_13 : Int32} {t1_0 : (Nat → Int32)} {t2_0 : (Nat → Int32)} {f m X : Nat} (hx2 : x2.toInt = (f : Int)) (hf : f ≤ 4099) (hx3 : -400 ≤ x3.toInt ∧ x3.toInt ≤ 400) (h5 : t0_5.toInt = ((f + m : Nat) : Int)) (hm : f + m ≤ 4100) (hF : gO (fun i => t1_0 (f + i)) m) (hX : (X : Int) = 5960 + x3.toInt) : ∀ (n : Nat) (lx26 : Int32) (lx27 : (Nat → Int32)), ∀ k : Nat, lx26.toInt = (k : Int) → k ≤ 800 → 800 < n + k → (∀ i, i < k → (lx27 i).toInt = 0) → QV_wo t0_0 t0_1 t0_2 t0_3 t0_4 t0_5 t0_6 t0_7 t0_10 t0_11 t0_12 t0_13 (uV (fun i => t1_0 (f + i)) m * 10 ^ (X - m)) (F_TR_writeOut_L2 x2 x3 t0_0 t0_1 t0_2 t0_3 t0_4 t0_5 t0_6 t0_7 t0_8 t0_9 t0_10 t0_11 t0_12 t0_13 t1_0 t2_0 n lx26 lx27) := by
  intro n
  induction n with
  | zero =>
    intro lx26 lx27 k h0 h1 h2
    omega
  | succ n ih =>
    intro lx26 lx27 k h0 h1 h2 h3
    have e800 : (800 : Int32).toInt = 800 := rfl
    have kc := q_clI h0 (by omega)
    have kx : lx26.toNatClampNeg = k := by omega
    rw [F_TR_writeOut_L2.eq_2]
    by_cases g1 : (800 : Int32) ≤ lx26
    · rw [if_pos g1]
      have g1i := q_leI g1
      obtain rfl : k = 800 := by omega
      refine V_wo2 hx2 hf hx3 h5 hm hF hX _ x2 lx27 0 (by omega) (by omega) (by omega) (trP.zero h3 ⟨by omega, by omega⟩) ?_
      show _ = 0 * _
      rw [Int.zero_mul]
      exact trV_0 (fun i hi => Int32.toInt_inj.mp (by rw [h3 i hi]; rfl))
    · rw [if_neg g1, kx]
      have g1i := q_nleI g1
      refine ih _ _ (k + 1) ?_ (by omega) (by omega) (fun i hi => ?_)
      · rw [q_addI (y := 1) h0 rfl (by omega) (by omega)]
        omega
      · unfold upd
        by_cases c : i = k
        · rw [if_pos c]
          rfl
        · rw [if_neg c]
          exact h3 i (by omega)
theorem V_TR_writeOut {x2 : Int32} {x3 : Int32} {t0_0 : Int32} {t0_1 : Int32} {t0_2 : Int32} {t0_3 : Int32} {t0_4 : Int32} {t0_5 : Int32} {t0_6 : Int32} {t0_7 : Int64} {t0_8 : Int32} {t0_9 : Int32} {t0_10 : Int64} {t0_11 : Int64} {t0_12 : Int32} {t0_13 : Int32} {t1_0 : (Nat → Int32)} {t2_0 : (Nat → Int32)} {f m X : Nat} (hx2 : x2.toInt = (f : Int)) (hf : f ≤ 4099) (hx3 : -400 ≤ x3.toInt ∧ x3.toInt ≤ 400) (h5 : t0_5.toInt = ((f + m : Nat) : Int)) (hm : f + m ≤ 4100) (hF : gO (fun i => t1_0 (f + i)) m) (hX : (X : Int) = 5960 + x3.toInt) : QV_wo t0_0 t0_1 t0_2 t0_3 t0_4 t0_5 t0_6 t0_7 t0_10 t0_11 t0_12 t0_13 (uV (fun i => t1_0 (f + i)) m * 10 ^ (X - m)) (F_TR_writeOut x2 x3 t0_0 t0_1 t0_2 t0_3 t0_4 t0_5 t0_6 t0_7 t0_8 t0_9 t0_10 t0_11 t0_12 t0_13 t1_0 t2_0) := by
  unfold F_TR_writeOut
  exact V_wo1 hx2 hf hx3 h5 hm hF hX _ 0 t2_0 0 rfl (by omega) (by have : (0 : Int32).toInt = 0 := rfl; omega) (fun i hi => by omega)
