/-! values, for whole: texts: the class's Reader: saysRest, takeHexadecimalMark, takeEnding, takeDecimal, takeHexadecimal -/
theorem y_chN {x : Int32} {k : Nat} (h : x.toInt = (k : Int)) (hk : k < 3) : ∃ c : Nat, (F_jStr_charAt_20 x).toInt = (c : Int) ∧ yNaN.drop k = c :: yNaN.drop (k + 1) := by
  have hx : ∀ j : Int32, j.toInt = (k : Int) → x = j := fun j hj => Int32.toInt_inj.mp (by rw [h, hj])
  match k, hk with
  | 0, _ => rw [hx 0 rfl]; exact ⟨78, by decide, rfl⟩
  | 1, _ => rw [hx 1 rfl]; exact ⟨97, by decide, rfl⟩
  | 2, _ => rw [hx 2 rfl]; exact ⟨78, by decide, rfl⟩
theorem y_chI {x : Int32} {k : Nat} (h : x.toInt = (k : Int)) (hk : k < 8) : ∃ c : Nat, (F_jStr_charAt_21 x).toInt = (c : Int) ∧ yInf.drop k = c :: yInf.drop (k + 1) := by
  have hx : ∀ j : Int32, j.toInt = (k : Int) → x = j := fun j hj => Int32.toInt_inj.mp (by rw [h, hj])
  match k, hk with
  | 0, _ => rw [hx 0 rfl]; exact ⟨73, by decide, rfl⟩
  | 1, _ => rw [hx 1 rfl]; exact ⟨110, by decide, rfl⟩
  | 2, _ => rw [hx 2 rfl]; exact ⟨102, by decide, rfl⟩
  | 3, _ => rw [hx 3 rfl]; exact ⟨105, by decide, rfl⟩
  | 4, _ => rw [hx 4 rfl]; exact ⟨110, by decide, rfl⟩
  | 5, _ => rw [hx 5 rfl]; exact ⟨105, by decide, rfl⟩
  | 6, _ => rw [hx 6 rfl]; exact ⟨116, by decide, rfl⟩
  | 7, _ => rw [hx 7 rfl]; exact ⟨121, by decide, rfl⟩
theorem V_srNL {t0_0 : Int64} {t0_1 : Int64} {t0_2 : Int32} {t0_3 : Int32} {t0_4 : Int32} {t0_5 : Int32} {t0_6 : Int32} {t0_7 : Int32} {t0_8 : Int32} {t0_9 : Int64} {t1_0 : Int32} {t2_0 : (Nat → Int64)} {L e s : Nat} (hs : t1_0.toInt = (L : Int)) (hL : L ≤ 4100) (he : e ≤ L) (h2 : t0_2.toInt = (s : Int)) (h3 : s + 3 = e) : ∀ (n : Nat) (lx31 : Int32), ∀ k : Nat, lx31.toInt = (k : Int) → k ≤ 3 → 3 < n + k → ((F_Rea_saysRest_20_L20 t0_0 t0_1 t0_2 t0_3 t0_4 t0_5 t0_6 t0_7 t0_8 t0_9 t1_0 t2_0 n lx31) = 0 ∧ ¬ yWo (ySB t2_0) e (s + k) (yNaN.drop k)) ∨ ((F_Rea_saysRest_20_L20 t0_0 t0_1 t0_2 t0_3 t0_4 t0_5 t0_6 t0_7 t0_8 t0_9 t1_0 t2_0 n lx31) = 1 ∧ yWo (ySB t2_0) e (s + k) (yNaN.drop k)) := by
  have e3 : (3 : Int32).toInt = 3 := rfl
  intro n
  induction n with
  | zero =>
    intro lx31 k h0 h1 h4
    omega
  | succ n ih =>
    intro lx31 k h0 h1 h4
    rw [F_Rea_saysRest_20_L20.eq_2]
    by_cases c1 : (3 : Int32) ≤ lx31
    · rw [if_pos c1]
      have c1 := q_leI c1
      have : k = 3 := by omega
      subst this
      exact Or.inr ⟨rfl, trivial⟩
    · rw [if_neg c1]
      have c1 := q_nleI c1
      obtain ⟨c, d1, d2⟩ := y_chN h0 (by omega)
      have ea : (t0_2 + lx31 : Int32).toInt = ((s + k : Nat) : Int) := by
        rw [q_addI h2 h0 (by omega) (by omega)]
        omega
      have hat := y_atR (t := t2_0) hs hL ea
      rw [if_pos (by omega)] at hat
      rw [d2]
      by_cases g : F_She_at 4100 513 4100 ((t0_2 + lx31 : Int32).toInt64) t1_0 t2_0 = F_jStr_charAt_20 lx31
      · rw [if_pos g]
        rw [g, d1] at hat
        rcases ih (lx31 + 1) (k + 1) (by rw [q_addI (y := 1) h0 rfl (by omega) (by omega)]; omega) (by omega) (by omega) with ⟨o1, o2⟩ | ⟨o1, o2⟩
        · exact Or.inl ⟨o1, fun h => o2 h.2.2⟩
        · exact Or.inr ⟨o1, by omega, hat.symm, o2⟩
      · rw [if_neg g]
        exact Or.inl ⟨rfl, fun h => g (Int32.toInt_inj.mp (by rw [hat, d1]; exact h.2.1))⟩
theorem V_R_NaN {t0_0 : Int64} {t0_1 : Int64} {t0_2 : Int32} {t0_3 : Int32} {t0_4 : Int32} {t0_5 : Int32} {t0_6 : Int32} {t0_7 : Int32} {t0_8 : Int32} {t0_9 : Int64} {t1_0 : Int32} {t2_0 : (Nat → Int64)} {L e s : Nat} (hs : t1_0.toInt = (L : Int)) (hL : L ≤ 4100) (h3 : t0_3.toInt = (e : Int)) (he : e ≤ L) (h2 : t0_2.toInt = (s : Int)) (hse : s ≤ e) : ((F_Rea_saysRest_20 t0_0 t0_1 t0_2 t0_3 t0_4 t0_5 t0_6 t0_7 t0_8 t0_9 t1_0 t2_0) = 0 ∧ ¬ (s + 3 = e ∧ yWo (ySB t2_0) e s yNaN)) ∨ ((F_Rea_saysRest_20 t0_0 t0_1 t0_2 t0_3 t0_4 t0_5 t0_6 t0_7 t0_8 t0_9 t1_0 t2_0) = 1 ∧ s + 3 = e ∧ yWo (ySB t2_0) e s yNaN) := by
  unfold F_Rea_saysRest_20
  have ed : (t0_3 - t0_2 : Int32).toInt = ((e - s : Nat) : Int) := by
    rw [q_subI h3 h2 (by omega) (by omega)]
    omega
  by_cases c : (t0_3 - t0_2 : Int32) = 3
  · rw [if_pos c]
    rw [c, show (3 : Int32).toInt = 3 from rfl] at ed
    have e3 : s + 3 = e := by omega
    rcases V_srNL (t0_0 := t0_0) (t0_1 := t0_1) (t0_3 := t0_3) (t0_4 := t0_4) (t0_5 := t0_5) (t0_6 := t0_6) (t0_7 := t0_7) (t0_8 := t0_8) (t0_9 := t0_9) (t2_0 := t2_0) hs hL he h2 e3 ((3 - (0 : Int32).toInt).toNat + 1) 0 0 rfl (by omega) (by have : (0 : Int32).toInt = 0 := rfl; omega) with ⟨o1, o2⟩ | ⟨o1, o2⟩
    · exact Or.inl ⟨o1, fun h => o2 h.2⟩
    · exact Or.inr ⟨o1, e3, o2⟩
  · rw [if_neg c]
    exact Or.inl ⟨rfl, fun h => c (Int32.toInt_inj.mp (by rw [ed, show (3 : Int32).toInt = 3 from rfl]; omega))⟩
theorem V_srIL {t0_0 : Int64} {t0_1 : Int64} {t0_2 : Int32} {t0_3 : Int32} {t0_4 : Int32} {t0_5 : Int32} {t0_6 : Int32} {t0_7 : Int32} {t0_8 : Int32} {t0_9 : Int64} {t1_0 : Int32} {t2_0 : (Nat → Int64)} {L e s : Nat} (hs : t1_0.toInt = (L : Int)) (hL : L ≤ 4100) (he : e ≤ L) (h2 : t0_2.toInt = (s : Int)) (h3 : s + 8 = e) : ∀ (n : Nat) (lx31 : Int32), ∀ k : Nat, lx31.toInt = (k : Int) → k ≤ 8 → 8 < n + k → ((F_Rea_saysRest_21_L20 t0_0 t0_1 t0_2 t0_3 t0_4 t0_5 t0_6 t0_7 t0_8 t0_9 t1_0 t2_0 n lx31) = 0 ∧ ¬ yWo (ySB t2_0) e (s + k) (yInf.drop k)) ∨ ((F_Rea_saysRest_21_L20 t0_0 t0_1 t0_2 t0_3 t0_4 t0_5 t0_6 t0_7 t0_8 t0_9 t1_0 t2_0 n lx31) = 1 ∧ yWo (ySB t2_0) e (s + k) (yInf.drop k)) := by
  have e3 : (8 : Int32).toInt = 8 := rfl
  intro n
  induction n with
  | zero =>
    intro lx31 k h0 h1 h4
    omega
  | succ n ih =>
    intro lx31 k h0 h1 h4
    rw [F_Rea_saysRest_21_L20.eq_2]
    by_cases c1 : (8 : Int32) ≤ lx31
    · rw [if_pos c1]
      have c1 := q_leI c1
      have : k = 8 := by omega
      subst this
      exact Or.inr ⟨rfl, trivial⟩
    · rw [if_neg c1]
      have c1 := q_nleI c1
      obtain ⟨c, d1, d2⟩ := y_chI h0 (by omega)
      have ea : (t0_2 + lx31 : Int32).toInt = ((s + k : Nat) : Int) := by
        rw [q_addI h2 h0 (by omega) (by omega)]
        omega
      have hat := y_atR (t := t2_0) hs hL ea
      rw [if_pos (by omega)] at hat
      rw [d2]
      by_cases g : F_She_at 4100 513 4100 ((t0_2 + lx31 : Int32).toInt64) t1_0 t2_0 = F_jStr_charAt_21 lx31
      · rw [if_pos g]
        rw [g, d1] at hat
        rcases ih (lx31 + 1) (k + 1) (by rw [q_addI (y := 1) h0 rfl (by omega) (by omega)]; omega) (by omega) (by omega) with ⟨o1, o2⟩ | ⟨o1, o2⟩
        · exact Or.inl ⟨o1, fun h => o2 h.2.2⟩
        · exact Or.inr ⟨o1, by omega, hat.symm, o2⟩
      · rw [if_neg g]
        exact Or.inl ⟨rfl, fun h => g (Int32.toInt_inj.mp (by rw [hat, d1]; exact h.2.1))⟩
theorem V_R_Inf {t0_0 : Int64} {t0_1 : Int64} {t0_2 : Int32} {t0_3 : Int32} {t0_4 : Int32} {t0_5 : Int32} {t0_6 : Int32} {t0_7 : Int32} {t0_8 : Int32} {t0_9 : Int64} {t1_0 : Int32} {t2_0 : (Nat → Int64)} {L e s : Nat} (hs : t1_0.toInt = (L : Int)) (hL : L ≤ 4100) (h3 : t0_3.toInt = (e : Int)) (he : e ≤ L) (h2 : t0_2.toInt = (s : Int)) (hse : s ≤ e) : ((F_Rea_saysRest_21 t0_0 t0_1 t0_2 t0_3 t0_4 t0_5 t0_6 t0_7 t0_8 t0_9 t1_0 t2_0) = 0 ∧ ¬ (s + 8 = e ∧ yWo (ySB t2_0) e s yInf)) ∨ ((F_Rea_saysRest_21 t0_0 t0_1 t0_2 t0_3 t0_4 t0_5 t0_6 t0_7 t0_8 t0_9 t1_0 t2_0) = 1 ∧ s + 8 = e ∧ yWo (ySB t2_0) e s yInf) := by
  unfold F_Rea_saysRest_21
  have ed : (t0_3 - t0_2 : Int32).toInt = ((e - s : Nat) : Int) := by
    rw [q_subI h3 h2 (by omega) (by omega)]
    omega
  by_cases c : (t0_3 - t0_2 : Int32) = 8
  · rw [if_pos c]
    rw [c, show (8 : Int32).toInt = 8 from rfl] at ed
    have e3 : s + 8 = e := by omega
    rcases V_srIL (t0_0 := t0_0) (t0_1 := t0_1) (t0_3 := t0_3) (t0_4 := t0_4) (t0_5 := t0_5) (t0_6 := t0_6) (t0_7 := t0_7) (t0_8 := t0_8) (t0_9 := t0_9) (t2_0 := t2_0) hs hL he h2 e3 ((8 - (0 : Int32).toInt).toNat + 1) 0 0 rfl (by omega) (by have : (0 : Int32).toInt = 0 := rfl; omega) with ⟨o1, o2⟩ | ⟨o1, o2⟩
    · exact Or.inl ⟨o1, fun h => o2 h.2⟩
    · exact Or.inr ⟨o1, e3, o2⟩
  · rw [if_neg c]
    exact Or.inl ⟨rfl, fun h => c (Int32.toInt_inj.mp (by rw [ed, show (8 : Int32).toInt = 8 from rfl]; omega))⟩
theorem V_R_mark {t0_0 : Int64} {t0_1 : Int64} {t0_2 : Int32} {t0_3 : Int32} {t0_4 : Int32} {t0_5 : Int32} {t0_6 : Int32} {t0_7 : Int32} {t0_8 : Int32} {t0_9 : Int64} {t1_0 : Int32} {t2_0 : (Nat → Int64)} {L e s : Nat} (hs : t1_0.toInt = (L : Int)) (hL : L ≤ 4100) (h3 : t0_3.toInt = (e : Int)) (he : e ≤ L) (h2 : t0_2.toInt = (s : Int)) (hse : s ≤ e) : ∃ c w : Int32, (F_Rea_takeHexadecimalMark t0_0 t0_1 t0_2 t0_3 t0_4 t0_5 t0_6 t0_7 t0_8 t0_9 t1_0 t2_0) = (c, t0_0, t0_1, w, t0_3, t0_4, t0_5, t0_6, t0_7, t0_8, t0_9) ∧ ((c = 0 ∧ ¬ yHx (ySB t2_0) e s ∧ w.toInt = (s : Int)) ∨ (c = 1 ∧ yHx (ySB t2_0) e s ∧ w.toInt = ((s + 2 : Nat) : Int))) := by
  have e2 : (2 : Int32).toInt = 2 := rfl
  have ed : (t0_3 - t0_2 : Int32).toInt = ((e - s : Nat) : Int) := by
    rw [q_subI h3 h2 (by omega) (by omega)]
    omega
  have no : ¬ yHx (ySB t2_0) e s → ∃ c w : Int32, (F_Rea_takeHexadecimalMark_J56 t0_0 t0_1 t0_2 t0_3 t0_4 t0_5 t0_6 t0_7 t0_8 t0_9 t1_0 t2_0) = (c, t0_0, t0_1, w, t0_3, t0_4, t0_5, t0_6, t0_7, t0_8, t0_9) ∧ ((c = 0 ∧ ¬ yHx (ySB t2_0) e s ∧ w.toInt = (s : Int)) ∨ (c = 1 ∧ yHx (ySB t2_0) e s ∧ w.toInt = ((s + 2 : Nat) : Int))) := fun h => by
    unfold F_Rea_takeHexadecimalMark_J56 F_Rea_takeHexadecimalMark_J57
    rw [if_pos rfl]
    refine ⟨_, _, rfl, Or.inl ⟨rfl, h, ?_⟩⟩
    rw [q_addI (y := 0) h2 rfl (by omega) (by omega)]
    omega
  unfold F_Rea_takeHexadecimalMark
  by_cases c1 : (t0_3 - t0_2 : Int32) < 2
  · rw [if_pos c1]
    have c1 := q_ltI c1
    exact no (fun h => by have := h.1; omega)
  · rw [if_neg c1]
    have c1 := q_nltI c1
    have a0 := y_atR (t := t2_0) hs hL h2
    rw [if_pos (by omega)] at a0
    have ea : (t0_2 + 1 : Int32).toInt = ((s + 1 : Nat) : Int) := by
      rw [q_addI (y := 1) h2 rfl (by omega) (by omega)]
      omega
    have a1 := y_atR (t := t2_0) hs hL ea
    rw [if_pos (by omega)] at a1
    by_cases c2 : F_She_at 4100 513 4100 t0_2.toInt64 t1_0 t2_0 = 48
    · rw [if_pos c2]
      rw [c2] at a0
      have b1 := y_hL (c := F_She_at 4100 513 4100 ((t0_2 + 1 : Int32).toInt64) t1_0 t2_0) (p := s + 1) (e := e) (B := ySB t2_0) (fun i => ySB_b) (by rw [if_pos (by omega)]; exact a1) (x := 120) (b := 120) (a := 88) rfl (by decide) (by decide)
      by_cases c3 : (F_She_at 4100 513 4100 ((t0_2 + 1 : Int32).toInt64) t1_0 t2_0 ||| 32) = 120
      · rw [if_pos c3]
        have k := b1.mp c3
        unfold F_Rea_takeHexadecimalMark_J57
        rw [if_neg (show ¬ (1 : Int32) = 0 by decide)]
        refine ⟨_, _, rfl, Or.inr ⟨rfl, ⟨by omega, a0.symm, k.2⟩, ?_⟩⟩
        rw [q_addI (y := 2) h2 rfl (by omega) (by omega)]
        omega
      · rw [if_neg c3]
        exact no (fun h => c3 (b1.mpr ⟨h.1, h.2.2⟩))
    · rw [if_neg c2]
      exact no (fun h => c2 (Int32.toInt_inj.mp (by rw [a0, h.2.1]; rfl)))
theorem V_R_end {t0_0 : Int64} {t0_1 : Int64} {t0_2 : Int32} {t0_3 : Int32} {t0_4 : Int32} {t0_5 : Int32} {t0_6 : Int32} {t0_7 : Int32} {t0_8 : Int32} {t0_9 : Int64} {t1_0 : Int32} {t2_0 : (Nat → Int64)} {L e p : Nat} (hs : t1_0.toInt = (L : Int)) (hL : L ≤ 4100) (h3 : t0_3.toInt = (e : Int)) (he : e ≤ L) (h2 : t0_2.toInt = (p : Int)) (hpe : p ≤ e) : ∃ c w : Int32, (F_Rea_takeEnding t0_0 t0_1 t0_2 t0_3 t0_4 t0_5 t0_6 t0_7 t0_8 t0_9 t1_0 t2_0) = (c, t0_0, t0_1, w, t0_3, t0_4, t0_5, t0_6, t0_7, t0_8, t0_9) ∧ ((c = 0 ∧ yEn (ySB t2_0) e p ≠ e) ∨ (c = 1 ∧ yEn (ySB t2_0) e p = e)) := by
  have hh := V_R_here (t0_0 := t0_0) (t0_1 := t0_1) (t0_4 := t0_4) (t0_5 := t0_5) (t0_6 := t0_6) (t0_7 := t0_7) (t0_8 := t0_8) (t0_9 := t0_9) (t2_0 := t2_0) hs hL h3 he h2
  unfold F_Rea_takeEnding
  generalize F_Rea_here t0_0 t0_1 t0_2 t0_3 t0_4 t0_5 t0_6 t0_7 t0_8 t0_9 t1_0 t2_0 = c at hh ⊢
  have bd := y_hL (c := c) (p := p) (e := e) (B := ySB t2_0) (fun i => ySB_b) hh (x := 100) (b := 100) (a := 68) rfl (by decide) (by decide)
  have bf := y_hL (c := c) (p := p) (e := e) (B := ySB t2_0) (fun i => ySB_b) hh (x := 102) (b := 102) (a := 70) rfl (by decide) (by decide)
  have yes : yEn (ySB t2_0) e p = p + 1 → p < e → ∃ c w : Int32, (F_Rea_takeEnding_J20 t0_0 t0_1 t0_2 t0_3 t0_4 t0_5 t0_6 t0_7 t0_8 t0_9 t1_0 t2_0) = (c, t0_0, t0_1, w, t0_3, t0_4, t0_5, t0_6, t0_7, t0_8, t0_9) ∧ ((c = 0 ∧ yEn (ySB t2_0) e p ≠ e) ∨ (c = 1 ∧ yEn (ySB t2_0) e p = e)) := fun h hp => by
    have ea : (t0_2 + 1 : Int32).toInt = ((p + 1 : Nat) : Int) := by
      rw [q_addI (y := 1) h2 rfl (by omega) (by omega)]
      omega
    unfold F_Rea_takeEnding_J20
    by_cases g : (t0_2 + 1 : Int32) < t0_3
    · rw [if_pos g]
      have g := q_ltI g
      exact ⟨_, _, rfl, Or.inl ⟨rfl, by omega⟩⟩
    · rw [if_neg g]
      have g := q_nltI g
      exact ⟨_, _, rfl, Or.inr ⟨rfl, by omega⟩⟩
  by_cases c1 : c ||| 32 = 100
  · rw [if_pos c1]
    have k := bd.mp c1
    refine yes ?_ k.1
    unfold yEn
    rw [if_pos ⟨k.1, k.2.elim (fun h => Or.inl h) (fun h => Or.inr (Or.inl h))⟩]
  · rw [if_neg c1]
    by_cases c2 : c ||| 32 = 102
    · rw [if_pos c2]
      have k := bf.mp c2
      refine yes ?_ k.1
      unfold yEn
      rw [if_pos ⟨k.1, Or.inr (Or.inr k.2)⟩]
    · rw [if_neg c2]
      have en : yEn (ySB t2_0) e p = p := by
        unfold yEn
        rw [if_neg (fun h => by
          rcases h.2 with a | a | a | a
          · exact c1 (bd.mpr ⟨h.1, Or.inl a⟩)
          · exact c1 (bd.mpr ⟨h.1, Or.inr a⟩)
          · exact c2 (bf.mpr ⟨h.1, Or.inl a⟩)
          · exact c2 (bf.mpr ⟨h.1, Or.inr a⟩))]
      rw [en]
      by_cases g : t0_2 < t0_3
      · rw [if_pos g]
        have g := q_ltI g
        exact ⟨_, _, rfl, Or.inl ⟨rfl, by omega⟩⟩
      · rw [if_neg g]
        have g := q_nltI g
        exact ⟨_, _, rfl, Or.inr ⟨rfl, by omega⟩⟩
/-- takeExponent's answer as yPw -/
theorem y_pwE {B : Nat → Int} {e s q v m : Nat} {ex : Int} (h1 : yDr B e (yS1 B e s) q) (h2 : yCp 100000000000 (yDx B (yS1 B e s) (q - yS1 B e s)) v) (h3 : v ≤ 1000000000000) (h4 : (yNg B e s ∧ ex = -(v : Int)) ∨ (¬ yNg B e s ∧ ex = (v : Int))) (he : e ≤ m) : (¬ (yS1 B e s < q ∧ q - yS1 B e s ≤ m) ∧ yPw B 100000000000 e s none) ∨ ((yS1 B e s < q ∧ q - yS1 B e s ≤ m) ∧ yPw B 100000000000 e s (some (q, ex))) := by
  have a := h1.1
  have b := h1.2.1
  by_cases c : yS1 B e s < q
  · exact Or.inr ⟨⟨c, by omega⟩, q, h1, Or.inr ⟨c, v, ex, h2, by omega, rfl, h4⟩⟩
  · exact Or.inl ⟨fun h => c h.1, q, h1, Or.inl ⟨by omega, rfl⟩⟩
