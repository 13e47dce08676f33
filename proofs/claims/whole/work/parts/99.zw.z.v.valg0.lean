/-! values, for whole: writing into the printer's body -/
def yShl (R : Nat) (s : Int32) (c : Nat → Int64) (l : List Nat) : Prop := s.toInt = (l.length : Int) ∧ ∀ i, i < l.length → i < R → ySh c i = l.getD i 0
theorem V_paG {R32 N K x2 s : Int32} {c : Nat → Int64} {l : List Nat} {v R : Nat} (hR : R32.toInt = (R : Int)) (hRb : R < 2147483647) (h : yShl R s c l) (hl : l.length < 2000000000) (hx : x2.toInt = (v : Int)) (hv : v < 256) : yShl R (F_She_add_p R32 N K x2 s c).1 (F_She_add_p R32 N K x2 s c).2 (l ++ [v]) := by
  rw [y_sheP]
  have e1 : (1 : Int32).toInt = 1 := rfl
  have hb := q_hi32 (x := R32)
  have hx2 := y_a255 hx hv
  by_cases k : l.length < R
  · obtain ⟨h1, h2⟩ := V_She_add (R := R32) (N := N) (K := K) (t0_0 := s) (t1_0 := c) (n := l.length) (r := R) h.1 hR hRb k hx2
    refine ⟨by rw [h1, List.length_append]; rfl, fun i hi hR => ?_⟩
    rw [h2 i, y_gdA]
    by_cases e : i = l.length
    · rw [if_pos e, if_pos e]
    · rw [if_neg e, if_neg e]
      rw [List.length_append, List.length_singleton] at hi
      exact h.2 i (by omega) hR
  · have h0 := h.1
    unfold F_She_add
    rw [if_pos (show R32 ≤ s from Int32.le_iff_toInt_le.mpr (by omega))]
    refine ⟨?_, fun i hi hR => ?_⟩
    · show (s + 1).toInt = _
      rw [q_addI h0 e1 (by omega) (by omega), List.length_append]
      rfl
    · rw [y_gdA, if_neg (by omega)]
      exact h.2 i (by omega) hR
theorem V_pa4 {N K x2 s : Int32} {c : Nat → Int64} {l : List Nat} {v : Nat} (h : yShl 4104 s c l) (hl : l.length < 2000000000) (hx : x2.toInt = (v : Int)) (hv : v < 256) : yShl 4104 (F_She_add 4104 N K x2 s c).1 (F_She_add 4104 N K x2 s c).2 (l ++ [v]) := by
  have e1 : (1 : Int32).toInt = 1 := rfl
  have eR : (4104 : Int32).toInt = 4104 := rfl
  have hx2 := y_a255 hx hv
  by_cases k : l.length < 4104
  · obtain ⟨h1, h2⟩ := V_She_add (R := 4104) (N := N) (K := K) (t0_0 := s) (t1_0 := c) (n := l.length) (r := 4104) h.1 rfl (by decide) k hx2
    refine ⟨by rw [h1, List.length_append]; rfl, fun i hi hR => ?_⟩
    rw [h2 i, y_gdA]
    by_cases e : i = l.length
    · rw [if_pos e, if_pos e]
    · rw [if_neg e, if_neg e]
      rw [List.length_append, List.length_singleton] at hi
      exact h.2 i (by omega) hR
  · have h0 := h.1
    unfold F_She_add
    rw [if_pos (show (4104 : Int32) ≤ s from Int32.le_iff_toInt_le.mpr (by omega))]
    refine ⟨?_, fun i hi hR => ?_⟩
    · show (s + 1).toInt = _
      rw [q_addI h0 e1 (by omega) (by omega), List.length_append]
      rfl
    · rw [y_gdA, if_neg (by omega)]
      exact h.2 i (by omega) hR
theorem V_paP4 {N K x2 s : Int32} {c : Nat → Int64} {l : List Nat} {v : Nat} (h : yShl 4104 s c l) (hl : l.length < 2000000000) (hx : x2.toInt = (v : Int)) (hv : v < 256) : yShl 4104 (F_She_add_p 4104 N K x2 s c).1 (F_She_add_p 4104 N K x2 s c).2 (l ++ [v]) := by
  rw [y_sheP]
  exact V_pa4 h hl hx hv
theorem V_adpL4 {R : Int32} {N : Int32} {K : Int32} {x2 : Int32} {x3 : Int32} {t0_0 : Int32} {t1_0 : (Nat → Int64)} {a8 : Int32} {a c m : Nat} {l0 : Nat} (ha : a8.toInt = (a : Int)) (hx : x3.toInt = (l0 : Int)) (hR : R = 4104) (hc : yDt a c) (hm : m = max c l0) : ∀ (n : Nat) (lx15 : Int32) (lx16 : Int32) (lx17 : Int32) (lx18 : (Nat → Int64)), ∀ (k : Nat) (l : List Nat), lx15.toInt = (k : Int) → k ≤ 5 → k < n → lx16.toInt = ((yP5 k : Nat) : Int) → yShl 4104 lx17 lx18 l → l.length + k < 1000000000 → yShl 4104 (F_She_addPower_p_L13 R N K x2 x3 t0_0 t1_0 a8 n lx15 lx16 lx17 lx18).1 (F_She_addPower_p_L13 R N K x2 x3 t0_0 t1_0 a8 n lx15 lx16 lx17 lx18).2 (l ++ yDs (min k m) a) := by
  subst hR
  have e0 : (0 : Int32).toInt = 0 := rfl
  have e1 : (1 : Int32).toInt = 1 := rfl
  have e10 : (10 : Int32).toInt = 10 := rfl
  have e48 : (48 : Int32).toInt = 48 := rfl
  intro n
  induction n with
  | zero =>
    intro lx15 lx16 lx17 lx18 k l h1 h2 h3
    omega
  | succ n ih =>
    intro lx15 lx16 lx17 lx18 k l h1 h2 h3 h4 h5 h6
    rw [F_She_addPower_p_L13.eq_2]
    by_cases g : lx15 ≤ 0
    · rw [if_pos g]
      have g := q_leI g
      obtain rfl : k = 0 := by omega
      rw [Nat.zero_min]
      show yShl 4104 lx17 lx18 (l ++ [])
      rw [List.append_nil]
      exact h5
    · rw [if_neg g]
      have g := q_nleI g
      have hk1 : 1 ≤ k := by omega
      have p5 := yP5_b h2
      have hu : (if (lx16 / 10) < 1 then (1 : Int32) else (lx16 / 10)).toInt = ((yP5 (k - 1) : Nat) : Int) := by
        have hd := q_divI h4 e10 (by omega) (by omega)
        have hp := yP5_p (k := k) ⟨hk1, h2⟩
        by_cases q : (lx16 / 10) < 1
        · rw [if_pos q]
          have q := q_ltI q
          rw [if_pos (by omega)] at hp
          rw [← hp]
          rfl
        · rw [if_neg q]
          have q := q_nltI q
          rw [if_neg (by omega)] at hp
          rw [← hp, hd]
          rfl
      have h1' := y_wm1 h1 hk1
      have hs := yP5_s (k := k) ⟨hk1, h2⟩
      have dig : (48 + ((a8 / lx16) - (a8 / lx16) / 10 * 10) : Int32).toInt = ((48 + yLo a (k - 1) : Nat) : Int) := by
        have q1 := q_divI ha h4 (by omega) (by omega)
        have q2 := v_rem (a := a8 / lx16) (b := 10) (by rw [q1]; exact Int.ediv_nonneg (by omega) (by omega)) (by omega)
        rw [q1, e10] at q2
        have q3 : (a : Int) / ((yP5 k : Nat) : Int) % 10 = ((yLo a (k - 1) : Nat) : Int) := by
          unfold yLo
          rw [← hs]
          rfl
        rw [q3] at q2
        have l9 := yLo_9 a (k - 1)
        exact q_addI e48 q2 (by omega) (by omega)
      have l9 := yLo_9 a (k - 1)
      have add : k ≤ m → yShl 4104 (F_She_addPower_p_J30 (F_She_addPower_p_L13 4104 N K x2 x3 t0_0 t1_0 a8 n) 4104 N K x2 x3 t0_0 t1_0 a8 lx15 lx16 lx17 lx18).1 (F_She_addPower_p_J30 (F_She_addPower_p_L13 4104 N K x2 x3 t0_0 t1_0 a8 n) 4104 N K x2 x3 t0_0 t1_0 a8 lx15 lx16 lx17 lx18).2 (l ++ yDs (min k m) a) := by
        intro km
        unfold F_She_addPower_p_J30
        have pa := V_paP4 (N := N) (K := K) h5 (by omega) dig (by omega)
        revert pa
        generalize F_She_add_p 4104 N K (48 + ((a8 / lx16) - (a8 / lx16) / 10 * 10)) lx17 lx18 = p
        intro pa
        unfold F_She_addPower_p_c41
        have r := ih (lx15 + -1) (if (lx16 / 10) < 1 then 1 else (lx16 / 10)) p.1 p.2 (k - 1) (l ++ [48 + yLo a (k - 1)]) h1' (by omega) (by omega) hu pa (by rw [List.length_append, List.length_singleton]; omega)
        rw [show min k m = (k - 1) + 1 from by omega, yDs_app]
        rw [show min (k - 1) m = k - 1 from by omega] at r
        exact r
      by_cases b1 : lx15 ≤ x3
      · rw [if_pos b1]
        have b1 := q_leI b1
        exact add (by omega)
      · rw [if_neg b1]
        have b1 := q_nleI b1
        have ge := y_ge10 (i := k - 1) hc
        rw [← hs] at ge
        by_cases b2 : a8 < lx16
        · rw [if_pos b2]
          have b2 := q_ltI b2
          have : ¬ k - 1 < c := fun q => by have := ge.mpr q; omega
          have r := ih (lx15 + -1) (if (lx16 / 10) < 1 then 1 else (lx16 / 10)) lx17 lx18 (k - 1) l h1' (by omega) (by omega) hu h5 (by omega)
          rw [show min k m = min (k - 1) m from by omega]
          exact r
        · rw [if_neg b2]
          have b2 := q_nltI b2
          have := ge.mp (by omega)
          exact add (by omega)
theorem V_addP4 {R : Int32} {N : Int32} {K : Int32} {x2 : Int32} {x3 : Int32} {t0_0 : Int32} {t1_0 : (Nat → Int64)} {l0 c : Nat} {l : List Nat} (hR : R = 4104) (h : yShl 4104 t0_0 t1_0 l) (hl : l.length < 900000000) (hx : x3.toInt = (l0 : Int)) (hl0 : l0 ≤ 5) (h2 : -99999 ≤ x2.toInt ∧ x2.toInt ≤ 99999) (hc : yDt x2.toInt.natAbs c) : yShl 4104 (F_She_addPower_p R N K x2 x3 t0_0 t1_0).1 (F_She_addPower_p R N K x2 x3 t0_0 t1_0).2 (l ++ yDs (max c l0) x2.toInt.natAbs) := by
  unfold F_She_addPower_p
  have hc5 : c ≤ 5 := by
    rcases Nat.lt_or_ge 5 c with g | g
    · have := (y_ge10 (i := 5) hc).mpr g
      omega
    · exact g
  have r := V_adpL4 (x2 := x2) (t0_0 := t0_0) (t1_0 := t1_0) (N := N) (K := K) (a := x2.toInt.natAbs) (c := c) (y_abs (x := x2) (by omega)) hx hR hc rfl (((5 : Int32).toInt - -1).toNat + 1) 5 10000 t0_0 t1_0 5 l rfl (by omega) (by decide) rfl h (by omega)
  rw [show min 5 (max c l0) = max c l0 from by omega] at r
  exact r
theorem V_wp794 {K_F_Dig_writePlain_L10 : Int32 → Int32 → (Nat → Int64) → (Int32 × (Nat → Int64))} {R : Int32} {N : Int32} {K : Int32} {x3 : Int32} {x4 : Int32} {x5 : Int32} {t0_0 : Int32} {t0_1 : Int32} {t1_0 : (Nat → Int32)} {t2_0 : Int32} {t3_0 : (Nat → Int64)} {lx21 : Int32} {lx22 : Int32} {lx23 : (Nat → Int64)} {lx40 : Int32} {lx41 : (Nat → Int64)} {N0 c pl : Nat} {s : Int} (hR : R = 4104) (h : yDgc t0_0 t1_0 N0 c) (hp : c ≠ 0 → t0_1.toInt = (c : Int) - 1 - s) (hb : -100000 ≤ t0_1.toInt ∧ t0_1.toInt ≤ 100000) (hx : x3.toInt = (pl : Int)) (hpl : pl ≤ 100000) : ∀ (n : Nat) (lx58 : Int32) (lx59 : Int32) (lx60 : (Nat → Int64)), ∀ (k : Nat) (l : List Nat), lx58.toInt = (k : Int) → 1 ≤ k → k ≤ pl + 1 → pl + 1 < n + k → yShl 4104 lx59 lx60 l → l.length + (pl + 1 - k) < 1900000000 → yShl 4104 (F_Dig_writePlain_L79 K_F_Dig_writePlain_L10 R N K x3 x4 x5 t0_0 t0_1 t1_0 t2_0 t3_0 lx21 lx22 lx23 lx40 lx41 n lx58 lx59 lx60).1 (F_Dig_writePlain_L79 K_F_Dig_writePlain_L10 R N K x3 x4 x5 t0_0 t0_1 t1_0 t2_0 t3_0 lx21 lx22 lx23 lx40 lx41 n lx58 lx59 lx60).2 (l ++ yDz N0 (s - (k : Int)) (pl + 1 - k)) := by
  subst hR
  have e1 : (1 : Int32).toInt = 1 := rfl
  intro n
  induction n with
  | zero =>
    intro lx58 lx59 lx60 k l h1 h2 h3 h4
    omega
  | succ n ih =>
    intro lx58 lx59 lx60 k l h1 h2 h3 h4 h5 h6
    rw [F_Dig_writePlain_L79.eq_2]
    by_cases g : x3 < lx58
    · rw [if_pos g]
      have g := q_ltI g
      rw [show pl + 1 - k = 0 from by omega]
      show yShl 4104 lx59 lx60 (l ++ [])
      rw [List.append_nil]
      exact h5
    · rw [if_neg g]
      have g := q_nltI g
      have fc := V_figC (x := t0_1 + lx58) (pw := t0_1) (z := s - (k : Int)) h (fun c0 => by rw [q_addI (hp c0) h1 (by have := hp c0; omega) (by have := hp c0; omega)]; omega)
      have pa := V_paP4 (N := N) (K := K) h5 (by omega) fc.1 fc.2
      revert pa
      generalize F_She_add_p 4104 N K (48 + F_Dig_figure (t0_1 + lx58) t0_0 t0_1 t1_0) lx59 lx60 = p
      intro pa
      unfold F_Dig_writePlain_c100
      have r := ih (lx58 + 1) p.1 p.2 (k + 1) _ (q_addI h1 e1 (by omega) (by omega)) (by omega) (by omega) (by omega) pa (by rw [List.length_append, List.length_singleton]; omega)
      rw [show pl + 1 - k = (pl + 1 - (k + 1)) + 1 from by omega, yDz_app]
      rw [show s - ((k + 1 : Nat) : Int) = s - (k : Int) - 1 from by omega] at r
      exact r
theorem V_wp764 {K_F_Dig_writePlain_L10 : Int32 → Int32 → (Nat → Int64) → (Int32 × (Nat → Int64))} {R : Int32} {N : Int32} {K : Int32} {x3 : Int32} {x4 : Int32} {x5 : Int32} {t0_0 : Int32} {t0_1 : Int32} {t1_0 : (Nat → Int32)} {t2_0 : Int32} {t3_0 : (Nat → Int64)} {lx21 : Int32} {lx22 : Int32} {lx23 : (Nat → Int64)} {lx40 : Int32} {lx41 : (Nat → Int64)} {N0 c pl : Nat} {s : Int} (hR : R = 4104) (h : yDgc t0_0 t1_0 N0 c) (hp : c ≠ 0 → t0_1.toInt = (c : Int) - 1 - s) (hb : -100000 ≤ t0_1.toInt ∧ t0_1.toInt ≤ 100000) (hx : x3.toInt = (pl : Int)) (hpl : pl ≤ 100000) {l : List Nat} (hm : yShl 4104 lx40 lx41 l) (hl : l.length < 1800000002) : yShl 4104 (F_Dig_writePlain_J76 K_F_Dig_writePlain_L10 R N K x3 x4 x5 t0_0 t0_1 t1_0 t2_0 t3_0 lx21 lx22 lx23 lx40 lx41).1 (F_Dig_writePlain_J76 K_F_Dig_writePlain_L10 R N K x3 x4 x5 t0_0 t0_1 t1_0 t2_0 t3_0 lx21 lx22 lx23 lx40 lx41).2 (l ++ yDz N0 (s - 1) pl) := by
  unfold F_Dig_writePlain_J76
  have r := V_wp794 (K_F_Dig_writePlain_L10 := K_F_Dig_writePlain_L10) (x4 := x4) (x5 := x5) (t2_0 := t2_0) (t3_0 := t3_0) (N := N) (K := K) (lx21 := lx21) (lx22 := lx22) (lx23 := lx23) (lx40 := lx40) (lx41 := lx41) hR h hp hb hx hpl ((200000 - (1 : Int32).toInt).toNat + 1) 1 lx40 lx41 1 l rfl (by omega) (by omega) (by show pl + 1 < 200000 + 1; omega) hm (by omega)
  rw [show pl + 1 - 1 = pl from by omega] at r
  exact r
theorem V_wp704 {K_F_Dig_writePlain_L10 : Int32 → Int32 → (Nat → Int64) → (Int32 × (Nat → Int64))} {R : Int32} {N : Int32} {K : Int32} {x3 : Int32} {x4 : Int32} {x5 : Int32} {t0_0 : Int32} {t0_1 : Int32} {t1_0 : (Nat → Int32)} {t2_0 : Int32} {t3_0 : (Nat → Int64)} {lx21 : Int32} {lx22 : Int32} {lx23 : (Nat → Int64)} {N0 c pl : Nat} {s : Int} (hR : R = 4104) (h : yDgc t0_0 t1_0 N0 c) (hp : c ≠ 0 → t0_1.toInt = (c : Int) - 1 - s) (hb : -100000 ≤ t0_1.toInt ∧ t0_1.toInt ≤ 100000) (hx : x3.toInt = (pl : Int)) (hpl : pl ≤ 100000) {l : List Nat} (hm : yShl 4104 lx22 lx23 l) (hl : l.length < 1800000001) : yShl 4104 (F_Dig_writePlain_J70 K_F_Dig_writePlain_L10 R N K x3 x4 x5 t0_0 t0_1 t1_0 t2_0 t3_0 lx21 lx22 lx23).1 (F_Dig_writePlain_J70 K_F_Dig_writePlain_L10 R N K x3 x4 x5 t0_0 t0_1 t1_0 t2_0 t3_0 lx21 lx22 lx23).2 (l ++ [46] ++ yDz N0 (s - 1) pl) := by
  subst hR
  unfold F_Dig_writePlain_J70
  have pa := V_paP4 (N := N) (K := K) (x2 := 46) (v := 46) hm (by omega) rfl (by decide)
  revert pa
  generalize F_She_add_p 4104 N K 46 lx22 lx23 = p
  intro pa
  unfold F_Dig_writePlain_c73
  exact V_wp764 rfl h hp hb hx hpl pa (by rw [List.length_append, List.length_singleton]; omega)
theorem V_wpL4 {R : Int32} {N : Int32} {K : Int32} {x3 : Int32} {x4 : Int32} {x5 : Int32} {t0_0 : Int32} {t0_1 : Int32} {t1_0 : (Nat → Int32)} {t2_0 : Int32} {t3_0 : (Nat → Int64)} {N0 c pl : Nat} {s : Int} (hR : R = 4104) (h : yDgc t0_0 t1_0 N0 c) (hp : c ≠ 0 → t0_1.toInt = (c : Int) - 1 - s) (hb : -100000 ≤ t0_1.toInt ∧ t0_1.toInt ≤ 100000) (hx : x3.toInt = (pl : Int)) (hpl : pl ≤ 100000) : ∀ (n : Nat) (lx21 : Int32) (lx22 : Int32) (lx23 : (Nat → Int64)), ∀ (A : Nat) (l : List Nat), lx21.toInt + 1 = (A : Int) → A ≤ 100001 → A < n → yShl 4104 lx22 lx23 l → l.length + 2 * A < 1800000000 → yShl 4104 (F_Dig_writePlain_L10 R N K x3 x4 x5 t0_0 t0_1 t1_0 t2_0 t3_0 n lx21 lx22 lx23).1 (F_Dig_writePlain_L10 R N K x3 x4 x5 t0_0 t0_1 t1_0 t2_0 t3_0 n lx21 lx22 lx23).2 (l ++ yPlA N0 s x4 A ++ yTail N0 s pl x5) := by
  subst hR
  have e0 : (0 : Int32).toInt = 0 := rfl
  have e1 : (1 : Int32).toInt = 1 := rfl
  have e3 : (3 : Int32).toInt = 3 := rfl
  intro n
  induction n with
  | zero =>
    intro lx21 lx22 lx23 A l h1 h2 h3
    omega
  | succ n ih =>
    intro lx21 lx22 lx23 A l h1 h2 h3 h4 h5
    rw [F_Dig_writePlain_L10.eq_2]
    by_cases g : lx21 < 0
    · rw [if_pos g]
      have g := q_ltI g
      obtain rfl : A = 0 := by omega
      show yShl 4104 _ _ (l ++ [] ++ yTail N0 s pl x5)
      rw [List.append_nil]
      unfold yTail
      by_cases k : (0 : Int32) < x3
      · rw [if_pos k]
        have k := q_ltI k
        rw [if_pos (Or.inl (by omega)), ← List.append_assoc]
        exact V_wp704 rfl h hp hb hx hpl h4 (by omega)
      · rw [if_neg k]
        have k := q_nltI k
        by_cases z : x5 = 0
        · rw [if_pos z, if_neg (fun q => by rcases q with q | q; omega; exact q z)]
          exact V_wp764 rfl h hp hb hx hpl h4 (by omega)
        · rw [if_neg z, if_pos (Or.inr z), ← List.append_assoc]
          exact V_wp704 rfl h hp hb hx hpl h4 (by omega)
    · rw [if_neg g]
      have g := q_nltI g
      obtain ⟨B, rfl⟩ : ∃ B, A = B + 1 := ⟨A - 1, by omega⟩
      have hB : lx21.toInt = (B : Int) := by omega
      have fc := V_figC (x := t0_1 - lx21) (pw := t0_1) (z := (B : Int) + s) h (fun c0 => by rw [q_subI (hp c0) hB (by have := hp c0; omega) (by have := hp c0; omega)]; omega)
      have pa := V_paP4 (N := N) (K := K) h4 (by omega) fc.1 fc.2
      revert pa
      generalize F_She_add_p 4104 N K (48 + F_Dig_figure (t0_1 - lx21) t0_0 t0_1 t1_0) lx22 lx23 = p
      intro pa
      unfold F_Dig_writePlain_c30
      have fin : ∀ (a : Int32) (b : Nat → Int64) (m : List Nat), yShl 4104 a b m → m.length ≤ l.length + 2 → yShl 4104 (F_Dig_writePlain_L10 4104 N K x3 x4 x5 t0_0 t0_1 t1_0 t2_0 t3_0 n (lx21 + -1) a b).1 (F_Dig_writePlain_L10 4104 N K x3 x4 x5 t0_0 t0_1 t1_0 t2_0 t3_0 n (lx21 + -1) a b).2 (m ++ yPlA N0 s x4 B ++ yTail N0 s pl x5) := by
        intro a b m hm hml
        exact ih (lx21 + -1) a b B m (y_dn1 hB) (by omega) (by omega) hm (by omega)
      have len1 : (l ++ [48 + yFz N0 ((B : Int) + s)]).length ≤ l.length + 2 := by
        rw [List.length_append, List.length_singleton]
        omega
      have plain : ¬ (x4 ≠ 0 ∧ 0 < B ∧ B % 3 = 0) → l ++ yPlA N0 s x4 (B + 1) = l ++ [48 + yFz N0 ((B : Int) + s)] ++ yPlA N0 s x4 B := by
        intro q
        show l ++ (48 + yFz N0 ((B : Int) + s)) :: ((if x4 ≠ 0 ∧ 0 < B ∧ B % 3 = 0 then [44] else []) ++ yPlA N0 s x4 B) = _
        rw [if_neg q, List.append_assoc]
        rfl
      by_cases z : x4 = 0
      · rw [if_pos z, plain (fun q => q.1 z)]
        exact fin p.1 p.2 _ pa len1
      · rw [if_neg z]
        by_cases w : lx21 ≤ 0
        · rw [if_pos w]
          have w := q_leI w
          rw [plain (fun q => by have := q.2.1; omega)]
          exact fin p.1 p.2 _ pa len1
        · rw [if_neg w]
          have w := q_nleI w
          have vr := v_rem (a := lx21) (b := 3) (by omega) (by omega)
          rw [hB, e3] at vr
          by_cases t : (lx21 - lx21 / 3 * 3) = 0
          · rw [if_pos t]
            rw [t, e0] at vr
            have pb := V_paP4 (N := N) (K := K) (x2 := 44) (v := 44) pa (by omega) rfl (by decide)
            revert pb
            generalize F_She_add_p 4104 N K 44 p.1 p.2 = q
            intro pb
            unfold F_Dig_writePlain_c52
            have := fin q.1 q.2 _ pb (by rw [List.length_append, List.length_append, List.length_singleton, List.length_singleton]; exact Nat.le_refl _)
            rw [show l ++ yPlA N0 s x4 (B + 1) = l ++ [48 + yFz N0 ((B : Int) + s)] ++ [44] ++ yPlA N0 s x4 B from by
              show l ++ (48 + yFz N0 ((B : Int) + s)) :: ((if x4 ≠ 0 ∧ 0 < B ∧ B % 3 = 0 then [44] else []) ++ yPlA N0 s x4 B) = _
              rw [if_pos ⟨z, by omega, by omega⟩, List.append_assoc, List.append_assoc]
              rfl]
            exact this
          · rw [if_neg t]
            rw [plain (fun q => t (Int32.toInt_inj.mp (by rw [vr, e0]; omega)))]
            exact fin p.1 p.2 _ pa len1
theorem V_wPlain4 {R : Int32} {N : Int32} {K : Int32} {x3 : Int32} {x4 : Int32} {x5 : Int32} {t0_0 : Int32} {t0_1 : Int32} {t1_0 : (Nat → Int32)} {t2_0 : Int32} {t3_0 : (Nat → Int64)} {N0 c pl : Nat} {s : Int} (hR : R = 4104) (h : yDgc t0_0 t1_0 N0 c) (hp : c ≠ 0 → t0_1.toInt = (c : Int) - 1 - s) (hb : -100000 ≤ t0_1.toInt ∧ t0_1.toInt ≤ 100000) (hx : x3.toInt = (pl : Int)) (hpl : pl ≤ 100000) {l : List Nat} (hm : yShl 4104 t2_0 t3_0 l) (hl : l.length < 1500000000) : yShl 4104 (F_Dig_writePlain R N K x3 x4 x5 t0_0 t0_1 t1_0 t2_0 t3_0).1 (F_Dig_writePlain R N K x3 x4 x5 t0_0 t0_1 t1_0 t2_0 t3_0).2 (l ++ yPlA N0 s x4 ((if t0_1.toInt < 0 then 0 else t0_1.toInt).toNat + 1) ++ yTail N0 s pl x5) := by
  have e0 : (0 : Int32).toInt = 0 := rfl
  unfold F_Dig_writePlain
  by_cases c0 : t0_1 < 0
  · rw [if_pos c0]
    have c0 := q_ltI c0
    rw [if_pos (by omega)]
    exact V_wpL4 hR h hp hb hx hpl (((0 : Int32).toInt - -1000000).toNat + 1) 0 t2_0 t3_0 1 l rfl (by omega) (by decide) hm (by omega)
  · rw [if_neg c0]
    have c0 := q_nltI c0
    rw [if_neg (by omega)]
    exact V_wpL4 hR h hp hb hx hpl ((t0_1.toInt - -1000000).toNat + 1) t0_1 t2_0 t3_0 (t0_1.toInt.toNat + 1) l (by omega) (by omega) (by omega) hm (by omega)
theorem V_whL4 {R : Int32} {N : Int32} {K : Int32} {x3 : Int32} {x4 : Int32} {t0_0 : Int32} {t0_1 : Int32} {t1_0 : (Nat → Int32)} {t2_0 : Int32} {t3_0 : (Nat → Int64)} {p31 : (Int32 × (Nat → Int64))} {lx40 : Int32} {lx41 : (Nat → Int64)} {N0 c al : Nat} (hR : R = 4104) (h : yDgc t0_0 t1_0 N0 c) (hx : x3.toInt = (al : Int)) (ha : al ≤ 10000) : ∀ (n : Nat) (lx58 : Int32) (lx59 : Int32) (lx60 : (Nat → Int64)), ∀ (k : Nat) (l : List Nat), lx58.toInt = (k : Int) → 1 ≤ k → k ≤ max al 1 → max al 1 < n + k → yShl 4104 lx59 lx60 l → l.length + (al - k) < 1900000000 → yShl 4104 (F_Dig_writeHead_L30 R N K x3 x4 t0_0 t0_1 t1_0 t2_0 t3_0 p31 lx40 lx41 n lx58 lx59 lx60).1 (F_Dig_writeHead_L30 R N K x3 x4 t0_0 t0_1 t1_0 t2_0 t3_0 p31 lx40 lx41 n lx58 lx59 lx60).2 (l ++ yDz N0 ((c : Int) - 1 - (k : Int)) (al - k)) := by
  subst hR
  have e1 : (1 : Int32).toInt = 1 := rfl
  intro n
  induction n with
  | zero =>
    intro lx58 lx59 lx60 k l h1 h2 h3 h4 h5 h6
    exact absurd h4 (by omega)
  | succ n ih =>
    intro lx58 lx59 lx60 k l h1 h2 h3 h4 h5 h6
    rw [F_Dig_writeHead_L30.eq_2]
    by_cases g : x3 ≤ lx58
    · rw [if_pos g]
      have g := q_leI g
      rw [show al - k = 0 from by omega]
      show yShl 4104 lx59 lx60 (l ++ [])
      rw [List.append_nil]
      exact h5
    · rw [if_neg g]
      have g := q_nleI g
      have fc := V_figC (x := lx58) (pw := t0_1) (z := (c : Int) - 1 - (k : Int)) h (fun c0 => by omega)
      have pa := V_paP4 (N := N) (K := K) h5 (by omega) fc.1 fc.2
      revert pa
      generalize F_She_add_p 4104 N K (48 + F_Dig_figure lx58 t0_0 t0_1 t1_0) lx59 lx60 = p
      intro pa
      unfold F_Dig_writeHead_c46
      have r := ih (lx58 + 1) p.1 p.2 (k + 1) _ (q_addI h1 e1 (by omega) (by omega)) (by omega) (by omega) (by omega) pa (by rw [List.length_append, List.length_singleton]; omega)
      rw [show al - k = (al - (k + 1)) + 1 from by omega, yDz_app]
      rw [show (c : Int) - 1 - ((k + 1 : Nat) : Int) = (c : Int) - 1 - (k : Int) - 1 from by omega] at r
      exact r
theorem V_wh274 {R : Int32} {N : Int32} {K : Int32} {x3 : Int32} {x4 : Int32} {t0_0 : Int32} {t0_1 : Int32} {t1_0 : (Nat → Int32)} {t2_0 : Int32} {t3_0 : (Nat → Int64)} {p31 : (Int32 × (Nat → Int64))} {lx40 : Int32} {lx41 : (Nat → Int64)} {N0 c al : Nat} (hR : R = 4104) (h : yDgc t0_0 t1_0 N0 c) (hx : x3.toInt = (al : Int)) (ha : al ≤ 10000) {l : List Nat} (hm : yShl 4104 lx40 lx41 l) (hl : l.length < 1800000002) : yShl 4104 (F_Dig_writeHead_J27 R N K x3 x4 t0_0 t0_1 t1_0 t2_0 t3_0 p31 lx40 lx41).1 (F_Dig_writeHead_J27 R N K x3 x4 t0_0 t0_1 t1_0 t2_0 t3_0 p31 lx40 lx41).2 (l ++ yDz N0 ((c : Int) - 2) (al - 1)) := by
  unfold F_Dig_writeHead_J27
  have r := V_whL4 (x4 := x4) (t0_1 := t0_1) (t2_0 := t2_0) (t3_0 := t3_0) (N := N) (K := K) (p31 := p31) (lx40 := lx40) (lx41 := lx41) hR h hx ha ((20000 - (1 : Int32).toInt).toNat + 1) 1 lx40 lx41 1 l rfl (by omega) (by omega) (by show max al 1 < 20000 + 1; omega) hm (by omega)
  rw [show (c : Int) - 1 - ((1 : Nat) : Int) = (c : Int) - 2 from by omega] at r
  exact r
theorem V_wHead4 {R : Int32} {N : Int32} {K : Int32} {x3 : Int32} {x4 : Int32} {t0_0 : Int32} {t0_1 : Int32} {t1_0 : (Nat → Int32)} {t2_0 : Int32} {t3_0 : (Nat → Int64)} {N0 c al : Nat} (hR : R = 4104) (h : yDgc t0_0 t1_0 N0 c) (hx : x3.toInt = (al : Int)) (ha : al ≤ 10000) {l : List Nat} (hm : yShl 4104 t2_0 t3_0 l) (hl : l.length < 1800000000) : yShl 4104 (F_Dig_writeHead R N K x3 x4 t0_0 t0_1 t1_0 t2_0 t3_0).1 (F_Dig_writeHead R N K x3 x4 t0_0 t0_1 t1_0 t2_0 t3_0).2 (l ++ yHead N0 c al x4) := by
  subst hR
  have e0 : (0 : Int32).toInt = 0 := rfl
  have e1 : (1 : Int32).toInt = 1 := rfl
  unfold F_Dig_writeHead yHead
  have fc := V_figC (x := 0) (pw := t0_1) (z := (c : Int) - 1) h (fun c0 => by rw [e0]; omega)
  have pa := V_paP4 (N := N) (K := K) hm (by omega) fc.1 fc.2
  revert pa
  generalize F_She_add_p 4104 N K (48 + F_Dig_figure 0 t0_0 t0_1 t1_0) t2_0 t3_0 = p
  intro pa
  unfold F_Dig_writeHead_c9
  have ln : (l ++ [48 + yFz N0 ((c : Int) - 1)]).length = l.length + 1 := by rw [List.length_append, List.length_singleton]
  have dot : ∀ q : Int32 × (Nat → Int64), q = F_Dig_writeHead_J21 4104 N K x3 x4 t0_0 t0_1 t1_0 t2_0 t3_0 p p.1 p.2 → yShl 4104 q.1 q.2 (l ++ ([48 + yFz N0 ((c : Int) - 1)] ++ [46] ++ yDz N0 ((c : Int) - 2) (al - 1))) := by
    intro q hq
    rw [hq]
    unfold F_Dig_writeHead_J21
    have pb := V_paP4 (N := N) (K := K) (x2 := 46) (v := 46) pa (by omega) rfl (by decide)
    revert pb
    generalize F_She_add_p 4104 N K 46 p.1 p.2 = r
    intro pb
    unfold F_Dig_writeHead_c24
    have := V_wh274 (x4 := x4) (t0_1 := t0_1) (t2_0 := t2_0) (t3_0 := t3_0) (N := N) (K := K) (p31 := p) (lx40 := r.1) (lx41 := r.2) rfl h hx ha pb (by rw [List.length_append, ln, List.length_singleton]; omega)
    rw [List.append_assoc, List.append_assoc] at this
    rw [List.append_assoc]
    exact this
  by_cases g : (1 : Int32) < x3
  · rw [if_pos g]
    have g := q_ltI g
    rw [if_pos (Or.inl (by omega))]
    exact dot _ rfl
  · rw [if_neg g]
    have g := q_nltI g
    by_cases z : x4 = 0
    · rw [if_pos z, if_neg (fun q => by rcases q with q | q; omega; exact q z)]
      have := V_wh274 (x4 := x4) (t0_1 := t0_1) (t2_0 := t2_0) (t3_0 := t3_0) (N := N) (K := K) (p31 := p) (lx40 := p.1) (lx41 := p.2) rfl h hx ha pa (by omega)
      rw [List.append_nil, ← List.append_assoc]
      exact this
    · rw [if_neg z, if_pos (Or.inr z)]
      exact dot _ rfl
theorem V_wSci4 {R : Int32} {N : Int32} {K : Int32} {x3 : Int32} {x4 : Int32} {t0_0 : Int32} {t0_1 : Int32} {t1_0 : (Nat → Int32)} {t2_0 : Int32} {t3_0 : (Nat → Int64)} {N0 c al : Nat} (hR : R = 4104) (h : yDgc t0_0 t1_0 N0 c) (hx : x3.toInt = (al : Int)) (ha : al ≤ 10000) (hp : -99999 ≤ t0_1.toInt ∧ t0_1.toInt ≤ 99999) {l : List Nat} (hm : yShl 4104 t2_0 t3_0 l) (hl : l.length < 100000) : yShl 4104 (F_Dig_writeScience R N K x3 x4 t0_0 t0_1 t1_0 t2_0 t3_0).1 (F_Dig_writeScience R N K x3 x4 t0_0 t0_1 t1_0 t2_0 t3_0).2 (l ++ (yHead N0 c al x4 ++ yE2 t0_1.toInt)) := by
  subst hR
  have e0 : (0 : Int32).toInt = 0 := rfl
  have ct := yCt5_t (n := t0_1.toInt.natAbs) (by omega)
  have hdl : (yHead N0 c al x4).length ≤ 10002 := by
    unfold yHead
    rw [List.length_append, List.length_append, yDz_len]
    have : (if 1 < al ∨ x4 ≠ 0 then [46] else ([] : List Nat)).length ≤ 1 := by
      split
      · exact Nat.le_refl _
      · exact Nat.zero_le _
    show 1 + _ + _ ≤ _
    omega
  unfold F_Dig_writeScience
  have w := V_wHead4 (N := N) (K := K) (x4 := x4) (t0_1 := t0_1) rfl h hx ha hm (by omega)
  revert w
  generalize F_Dig_writeHead 4104 N K x3 x4 t0_0 t0_1 t1_0 t2_0 t3_0 = p
  intro w
  unfold F_Dig_writeScience_c4
  have w1 := V_paP4 (N := N) (K := K) (x2 := 101) (v := 101) w (by rw [List.length_append]; omega) rfl (by decide)
  revert w1
  generalize F_She_add_p 4104 N K 101 p.1 p.2 = p2
  intro w1
  unfold F_Dig_writeScience_c10 yE2
  rw [← List.append_assoc, ← List.append_assoc, ← List.append_assoc]
  by_cases g : 0 ≤ t0_1
  · rw [if_pos g]
    have g := q_leI g
    rw [if_pos (by omega : 0 ≤ t0_1.toInt)]
    have w2 := V_paP4 (N := N) (K := K) (x2 := 43) (v := 43) w1 (by simp only [List.length_append, List.length_singleton]; omega) rfl (by decide)
    revert w2
    generalize F_She_add_p 4104 N K 43 p2.1 p2.2 = p3
    intro w2
    unfold F_Dig_writeScience_c28
    have w3 := V_addP4 (N := N) (K := K) (x2 := t0_1) (x3 := 2) (l0 := 2) rfl w2 (by simp only [List.length_append, List.length_singleton]; omega) rfl (by omega) hp ct
    revert w3
    generalize F_She_addPower_p 4104 N K t0_1 2 p3.1 p3.2 = p4
    intro w3
    unfold F_Dig_writeScience_c37
    exact w3
  · rw [if_neg g]
    have g := q_nleI g
    rw [if_neg (by omega : ¬ 0 ≤ t0_1.toInt)]
    have w2 := V_paP4 (N := N) (K := K) (x2 := 45) (v := 45) w1 (by simp only [List.length_append, List.length_singleton]; omega) rfl (by decide)
    revert w2
    generalize F_She_add_p 4104 N K 45 p2.1 p2.2 = p3
    intro w2
    unfold F_Dig_writeScience_c28_5
    have w3 := V_addP4 (N := N) (K := K) (x2 := t0_1) (x3 := 2) (l0 := 2) rfl w2 (by simp only [List.length_append, List.length_singleton]; omega) rfl (by omega) hp ct
    revert w3
    generalize F_She_addPower_p 4104 N K t0_1 2 p3.1 p3.2 = p4
    intro w3
    unfold F_Dig_writeScience_c37_6
    exact w3
