/-! values, for whole: the class's Digits written to the paper -/
def yDgc (cnt : Int32) (row : Nat → Int32) (N c : Nat) : Prop := cnt.toInt = (c : Int) ∧ c ≤ 1026 ∧ yDt N c ∧ ∀ i, i < c → (row i).toInt = ((yFg N c i : Nat) : Int)
/-- the figure of 10 ^ z, 0 where z is below 0 -/
def yFz (N : Nat) (z : Int) : Nat := if z < 0 then 0 else yLo N z.toNat
theorem yFz_9 (N : Nat) (z : Int) : yFz N z < 10 := by
  unfold yFz
  split
  · decide
  · exact yLo_9 _ _
theorem yLo_h {N c i : Nat} (h : yDt N c) (hi : c ≤ i) : yLo N i = 0 := y_lo0 (Nat.lt_of_lt_of_le h.1 (Nat.pow_le_pow_right (by decide) hi))
theorem V_figZ {x cnt pw : Int32} {row : Nat → Int32} {N c : Nat} {z : Int} (h : yDgc cnt row N c) (hx : c ≠ 0 → x.toInt = (c : Int) - 1 - z) : (F_Dig_figure x cnt pw row).toInt = ((yFz N z : Nat) : Int) := by
  have e0 : (0 : Int32).toInt = 0 := rfl
  obtain ⟨h1, h2, h3, h4⟩ := h
  unfold F_Dig_figure yFz
  by_cases hc : c = 0
  · subst hc
    have zz : (if z < 0 then 0 else yLo N z.toNat) = 0 := by
      split
      · rfl
      · exact yLo_h h3 (Nat.zero_le _)
    rw [zz]
    by_cases g : x < 0
    · rw [if_pos g]
      rfl
    · rw [if_neg g]
      have g := q_nltI g
      rw [if_pos (show cnt ≤ x from Int32.le_iff_toInt_le.mpr (by omega))]
      rfl
  · have hx := hx hc
    by_cases g : x < 0
    · rw [if_pos g]
      have g := q_ltI g
      rw [if_neg (by omega), yLo_h h3 (by omega)]
      rfl
    · rw [if_neg g]
      have g := q_nltI g
      by_cases k : cnt ≤ x
      · rw [if_pos k]
        have k := q_leI k
        rw [if_pos (by omega)]
        rfl
      · rw [if_neg k]
        have k := q_nleI k
        rw [if_neg (by omega)]
        have xc : x.toNatClampNeg = ((c : Int) - 1 - z).toNat := by
          have := q_clI hx (by omega)
          omega
        rw [xc, h4 _ (by omega)]
        unfold yFg
        rw [show c - 1 - ((c : Int) - 1 - z).toNat = z.toNat from by omega]
theorem V_figC {x cnt pw : Int32} {row : Nat → Int32} {N c : Nat} {z : Int} (h : yDgc cnt row N c) (hx : c ≠ 0 → x.toInt = (c : Int) - 1 - z) : (48 + F_Dig_figure x cnt pw row).toInt = ((48 + yFz N z : Nat) : Int) ∧ 48 + yFz N z < 256 := by
  have e48 : (48 : Int32).toInt = 48 := rfl
  have h9 := yFz_9 N z
  have := V_figZ (pw := pw) h hx
  exact ⟨q_addI e48 this (by omega) (by omega), by omega⟩
/-- n figures from 10 ^ z downwards -/
def yDz (N : Nat) (z : Int) (n : Nat) : List Nat := match n with
  | 0 => []
  | n + 1 => (48 + yFz N z) :: yDz N (z - 1) n
theorem yDz_len {N n : Nat} : ∀ {z : Int}, (yDz N z n).length = n := by
  induction n with
  | zero => intro z; rfl
  | succ n ih =>
    intro z
    show (yDz N (z - 1) n).length + 1 = n + 1
    rw [ih]
theorem yDz_app {l : List Nat} {N n : Nat} {z : Int} : l ++ yDz N z (n + 1) = l ++ [48 + yFz N z] ++ yDz N (z - 1) n := by
  rw [List.append_assoc]
  rfl
/-- the figures from 10 ^ (A - 1) down to those of 1, by threes where cm is not 0 -/
def yPlA (N : Nat) (s : Int) (cm : Int32) (A : Nat) : List Nat := match A with
  | 0 => []
  | A + 1 => (48 + yFz N ((A : Int) + s)) :: ((if cm ≠ 0 ∧ 0 < A ∧ A % 3 = 0 then [44] else []) ++ yPlA N s cm A)
theorem y_dn1 {x : Int32} {B : Nat} (h : x.toInt = (B : Int)) : (x + -1).toInt + 1 = (B : Int) := by
  have eM : (-1 : Int32).toInt = -1 := rfl
  have := q_hi32 (x := x)
  rw [q_addI h eM (by omega) (by omega)]
  omega
theorem V_wp79 {K_F_Dig_writePlain_L10 : Int32 → Int32 → (Nat → Int64) → (Int32 × (Nat → Int64))} {R : Int32} {N : Int32} {K : Int32} {x3 : Int32} {x4 : Int32} {x5 : Int32} {t0_0 : Int32} {t0_1 : Int32} {t1_0 : (Nat → Int32)} {t2_0 : Int32} {t3_0 : (Nat → Int64)} {lx21 : Int32} {lx22 : Int32} {lx23 : (Nat → Int64)} {lx40 : Int32} {lx41 : (Nat → Int64)} {N0 c pl : Nat} {s : Int} (hR : R = 11008) (h : yDgc t0_0 t1_0 N0 c) (hp : c ≠ 0 → t0_1.toInt = (c : Int) - 1 - s) (hb : -100000 ≤ t0_1.toInt ∧ t0_1.toInt ≤ 100000) (hx : x3.toInt = (pl : Int)) (hpl : pl ≤ 100000) : ∀ (n : Nat) (lx58 : Int32) (lx59 : Int32) (lx60 : (Nat → Int64)), ∀ (k : Nat) (l : List Nat), lx58.toInt = (k : Int) → 1 ≤ k → k ≤ pl + 1 → pl + 1 < n + k → yPa lx59 lx60 l → l.length + (pl + 1 - k) < 1900000000 → yPa (F_Dig_writePlain_L79 K_F_Dig_writePlain_L10 R N K x3 x4 x5 t0_0 t0_1 t1_0 t2_0 t3_0 lx21 lx22 lx23 lx40 lx41 n lx58 lx59 lx60).1 (F_Dig_writePlain_L79 K_F_Dig_writePlain_L10 R N K x3 x4 x5 t0_0 t0_1 t1_0 t2_0 t3_0 lx21 lx22 lx23 lx40 lx41 n lx58 lx59 lx60).2 (l ++ yDz N0 (s - (k : Int)) (pl + 1 - k)) := by
  subst hR
  have e1 : (1 : Int32).toInt = 1 := rfl
  intro n
  induction n with
  | zero =>
    intro lx58 lx59 lx60 k l h1 h2 h3 h4
    omega
  | succ n ih =>
    intro lx58 lx59 lx60 k l h1 h2 h3 h4 h5 h6
    rw [F_Dig_writePlain_L79.eq_2]
    by_cases g : x3 < lx58
    · rw [if_pos g]
      have g := q_ltI g
      rw [show pl + 1 - k = 0 from by omega]
      show yPa lx59 lx60 (l ++ [])
      rw [List.append_nil]
      exact h5
    · rw [if_neg g]
      have g := q_nltI g
      have fc := V_figC (x := t0_1 + lx58) (pw := t0_1) (z := s - (k : Int)) h (fun c0 => by rw [q_addI (hp c0) h1 (by have := hp c0; omega) (by have := hp c0; omega)]; omega)
      have pa := V_paP (N := N) (K := K) h5 (by omega) fc.1 fc.2
      revert pa
      generalize F_She_add_p 11008 N K (48 + F_Dig_figure (t0_1 + lx58) t0_0 t0_1 t1_0) lx59 lx60 = p
      intro pa
      unfold F_Dig_writePlain_c100
      have r := ih (lx58 + 1) p.1 p.2 (k + 1) _ (q_addI h1 e1 (by omega) (by omega)) (by omega) (by omega) (by omega) pa (by rw [List.length_append, List.length_singleton]; omega)
      rw [show pl + 1 - k = (pl + 1 - (k + 1)) + 1 from by omega, yDz_app]
      rw [show s - ((k + 1 : Nat) : Int) = s - (k : Int) - 1 from by omega] at r
      exact r
/-- what stands behind the point -/
def yTail (N : Nat) (s : Int) (pl : Nat) (ap : Int32) : List Nat := (if 0 < pl ∨ ap ≠ 0 then [46] else []) ++ yDz N (s - 1) pl
theorem V_wp76 {K_F_Dig_writePlain_L10 : Int32 → Int32 → (Nat → Int64) → (Int32 × (Nat → Int64))} {R : Int32} {N : Int32} {K : Int32} {x3 : Int32} {x4 : Int32} {x5 : Int32} {t0_0 : Int32} {t0_1 : Int32} {t1_0 : (Nat → Int32)} {t2_0 : Int32} {t3_0 : (Nat → Int64)} {lx21 : Int32} {lx22 : Int32} {lx23 : (Nat → Int64)} {lx40 : Int32} {lx41 : (Nat → Int64)} {N0 c pl : Nat} {s : Int} (hR : R = 11008) (h : yDgc t0_0 t1_0 N0 c) (hp : c ≠ 0 → t0_1.toInt = (c : Int) - 1 - s) (hb : -100000 ≤ t0_1.toInt ∧ t0_1.toInt ≤ 100000) (hx : x3.toInt = (pl : Int)) (hpl : pl ≤ 100000) {l : List Nat} (hm : yPa lx40 lx41 l) (hl : l.length < 1800000002) : yPa (F_Dig_writePlain_J76 K_F_Dig_writePlain_L10 R N K x3 x4 x5 t0_0 t0_1 t1_0 t2_0 t3_0 lx21 lx22 lx23 lx40 lx41).1 (F_Dig_writePlain_J76 K_F_Dig_writePlain_L10 R N K x3 x4 x5 t0_0 t0_1 t1_0 t2_0 t3_0 lx21 lx22 lx23 lx40 lx41).2 (l ++ yDz N0 (s - 1) pl) := by
  unfold F_Dig_writePlain_J76
  have r := V_wp79 (K_F_Dig_writePlain_L10 := K_F_Dig_writePlain_L10) (x4 := x4) (x5 := x5) (t2_0 := t2_0) (t3_0 := t3_0) (N := N) (K := K) (lx21 := lx21) (lx22 := lx22) (lx23 := lx23) (lx40 := lx40) (lx41 := lx41) hR h hp hb hx hpl ((200000 - (1 : Int32).toInt).toNat + 1) 1 lx40 lx41 1 l rfl (by omega) (by omega) (by show pl + 1 < 200000 + 1; omega) hm (by omega)
  rw [show pl + 1 - 1 = pl from by omega] at r
  exact r
theorem V_wp70 {K_F_Dig_writePlain_L10 : Int32 → Int32 → (Nat → Int64) → (Int32 × (Nat → Int64))} {R : Int32} {N : Int32} {K : Int32} {x3 : Int32} {x4 : Int32} {x5 : Int32} {t0_0 : Int32} {t0_1 : Int32} {t1_0 : (Nat → Int32)} {t2_0 : Int32} {t3_0 : (Nat → Int64)} {lx21 : Int32} {lx22 : Int32} {lx23 : (Nat → Int64)} {N0 c pl : Nat} {s : Int} (hR : R = 11008) (h : yDgc t0_0 t1_0 N0 c) (hp : c ≠ 0 → t0_1.toInt = (c : Int) - 1 - s) (hb : -100000 ≤ t0_1.toInt ∧ t0_1.toInt ≤ 100000) (hx : x3.toInt = (pl : Int)) (hpl : pl ≤ 100000) {l : List Nat} (hm : yPa lx22 lx23 l) (hl : l.length < 1800000001) : yPa (F_Dig_writePlain_J70 K_F_Dig_writePlain_L10 R N K x3 x4 x5 t0_0 t0_1 t1_0 t2_0 t3_0 lx21 lx22 lx23).1 (F_Dig_writePlain_J70 K_F_Dig_writePlain_L10 R N K x3 x4 x5 t0_0 t0_1 t1_0 t2_0 t3_0 lx21 lx22 lx23).2 (l ++ [46] ++ yDz N0 (s - 1) pl) := by
  subst hR
  unfold F_Dig_writePlain_J70
  have pa := V_paP (N := N) (K := K) (x2 := 46) (v := 46) hm (by omega) rfl (by decide)
  revert pa
  generalize F_She_add_p 11008 N K 46 lx22 lx23 = p
  intro pa
  unfold F_Dig_writePlain_c73
  exact V_wp76 rfl h hp hb hx hpl pa (by rw [List.length_append, List.length_singleton]; omega)
theorem V_wpL {R : Int32} {N : Int32} {K : Int32} {x3 : Int32} {x4 : Int32} {x5 : Int32} {t0_0 : Int32} {t0_1 : Int32} {t1_0 : (Nat → Int32)} {t2_0 : Int32} {t3_0 : (Nat → Int64)} {N0 c pl : Nat} {s : Int} (hR : R = 11008) (h : yDgc t0_0 t1_0 N0 c) (hp : c ≠ 0 → t0_1.toInt = (c : Int) - 1 - s) (hb : -100000 ≤ t0_1.toInt ∧ t0_1.toInt ≤ 100000) (hx : x3.toInt = (pl : Int)) (hpl : pl ≤ 100000) : ∀ (n : Nat) (lx21 : Int32) (lx22 : Int32) (lx23 : (Nat → Int64)), ∀ (A : Nat) (l : List Nat), lx21.toInt + 1 = (A : Int) → A ≤ 100001 → A < n → yPa lx22 lx23 l → l.length + 2 * A < 1800000000 → yPa (F_Dig_writePlain_L10 R N K x3 x4 x5 t0_0 t0_1 t1_0 t2_0 t3_0 n lx21 lx22 lx23).1 (F_Dig_writePlain_L10 R N K x3 x4 x5 t0_0 t0_1 t1_0 t2_0 t3_0 n lx21 lx22 lx23).2 (l ++ yPlA N0 s x4 A ++ yTail N0 s pl x5) := by
  subst hR
  have e0 : (0 : Int32).toInt = 0 := rfl
  have e1 : (1 : Int32).toInt = 1 := rfl
  have e3 : (3 : Int32).toInt = 3 := rfl
  intro n
  induction n with
  | zero =>
    intro lx21 lx22 lx23 A l h1 h2 h3
    omega
  | succ n ih =>
    intro lx21 lx22 lx23 A l h1 h2 h3 h4 h5
    rw [F_Dig_writePlain_L10.eq_2]
    by_cases g : lx21 < 0
    · rw [if_pos g]
      have g := q_ltI g
      obtain rfl : A = 0 := by omega
      show yPa _ _ (l ++ [] ++ yTail N0 s pl x5)
      rw [List.append_nil]
      unfold yTail
      by_cases k : (0 : Int32) < x3
      · rw [if_pos k]
        have k := q_ltI k
        rw [if_pos (Or.inl (by omega)), ← List.append_assoc]
        exact V_wp70 rfl h hp hb hx hpl h4 (by omega)
      · rw [if_neg k]
        have k := q_nltI k
        by_cases z : x5 = 0
        · rw [if_pos z, if_neg (fun q => by rcases q with q | q; omega; exact q z)]
          exact V_wp76 rfl h hp hb hx hpl h4 (by omega)
        · rw [if_neg z, if_pos (Or.inr z), ← List.append_assoc]
          exact V_wp70 rfl h hp hb hx hpl h4 (by omega)
    · rw [if_neg g]
      have g := q_nltI g
      obtain ⟨B, rfl⟩ : ∃ B, A = B + 1 := ⟨A - 1, by omega⟩
      have hB : lx21.toInt = (B : Int) := by omega
      have fc := V_figC (x := t0_1 - lx21) (pw := t0_1) (z := (B : Int) + s) h (fun c0 => by rw [q_subI (hp c0) hB (by have := hp c0; omega) (by have := hp c0; omega)]; omega)
      have pa := V_paP (N := N) (K := K) h4 (by omega) fc.1 fc.2
      revert pa
      generalize F_She_add_p 11008 N K (48 + F_Dig_figure (t0_1 - lx21) t0_0 t0_1 t1_0) lx22 lx23 = p
      intro pa
      unfold F_Dig_writePlain_c30
      have fin : ∀ (a : Int32) (b : Nat → Int64) (m : List Nat), yPa a b m → m.length ≤ l.length + 2 → yPa (F_Dig_writePlain_L10 11008 N K x3 x4 x5 t0_0 t0_1 t1_0 t2_0 t3_0 n (lx21 + -1) a b).1 (F_Dig_writePlain_L10 11008 N K x3 x4 x5 t0_0 t0_1 t1_0 t2_0 t3_0 n (lx21 + -1) a b).2 (m ++ yPlA N0 s x4 B ++ yTail N0 s pl x5) := by
        intro a b m hm hml
        exact ih (lx21 + -1) a b B m (y_dn1 hB) (by omega) (by omega) hm (by omega)
      have len1 : (l ++ [48 + yFz N0 ((B : Int) + s)]).length ≤ l.length + 2 := by
        rw [List.length_append, List.length_singleton]
        omega
      have plain : ¬ (x4 ≠ 0 ∧ 0 < B ∧ B % 3 = 0) → l ++ yPlA N0 s x4 (B + 1) = l ++ [48 + yFz N0 ((B : Int) + s)] ++ yPlA N0 s x4 B := by
        intro q
        show l ++ (48 + yFz N0 ((B : Int) + s)) :: ((if x4 ≠ 0 ∧ 0 < B ∧ B % 3 = 0 then [44] else []) ++ yPlA N0 s x4 B) = _
        rw [if_neg q, List.append_assoc]
        rfl
      by_cases z : x4 = 0
      · rw [if_pos z, plain (fun q => q.1 z)]
        exact fin p.1 p.2 _ pa len1
      · rw [if_neg z]
        by_cases w : lx21 ≤ 0
        · rw [if_pos w]
          have w := q_leI w
          rw [plain (fun q => by have := q.2.1; omega)]
          exact fin p.1 p.2 _ pa len1
        · rw [if_neg w]
          have w := q_nleI w
          have vr := v_rem (a := lx21) (b := 3) (by omega) (by omega)
          rw [hB, e3] at vr
          by_cases t : (lx21 - lx21 / 3 * 3) = 0
          · rw [if_pos t]
            rw [t, e0] at vr
            have pb := V_paP (N := N) (K := K) (x2 := 44) (v := 44) pa (by omega) rfl (by decide)
            revert pb
            generalize F_She_add_p 11008 N K 44 p.1 p.2 = q
            intro pb
            unfold F_Dig_writePlain_c52
            have := fin q.1 q.2 _ pb (by rw [List.length_append, List.length_append, List.length_singleton, List.length_singleton]; exact Nat.le_refl _)
            rw [show l ++ yPlA N0 s x4 (B + 1) = l ++ [48 + yFz N0 ((B : Int) + s)] ++ [44] ++ yPlA N0 s x4 B from by
              show l ++ (48 + yFz N0 ((B : Int) + s)) :: ((if x4 ≠ 0 ∧ 0 < B ∧ B % 3 = 0 then [44] else []) ++ yPlA N0 s x4 B) = _
              rw [if_pos ⟨z, by omega, by omega⟩, List.append_assoc, List.append_assoc]
              rfl]
            exact this
          · rw [if_neg t]
            rw [plain (fun q => t (Int32.toInt_inj.mp (by rw [vr, e0]; omega)))]
            exact fin p.1 p.2 _ pa len1
theorem V_wPlain {R : Int32} {N : Int32} {K : Int32} {x3 : Int32} {x4 : Int32} {x5 : Int32} {t0_0 : Int32} {t0_1 : Int32} {t1_0 : (Nat → Int32)} {t2_0 : Int32} {t3_0 : (Nat → Int64)} {N0 c pl : Nat} {s : Int} (hR : R = 11008) (h : yDgc t0_0 t1_0 N0 c) (hp : c ≠ 0 → t0_1.toInt = (c : Int) - 1 - s) (hb : -100000 ≤ t0_1.toInt ∧ t0_1.toInt ≤ 100000) (hx : x3.toInt = (pl : Int)) (hpl : pl ≤ 100000) {l : List Nat} (hm : yPa t2_0 t3_0 l) (hl : l.length < 1500000000) : yPa (F_Dig_writePlain R N K x3 x4 x5 t0_0 t0_1 t1_0 t2_0 t3_0).1 (F_Dig_writePlain R N K x3 x4 x5 t0_0 t0_1 t1_0 t2_0 t3_0).2 (l ++ yPlA N0 s x4 ((if t0_1.toInt < 0 then 0 else t0_1.toInt).toNat + 1) ++ yTail N0 s pl x5) := by
  have e0 : (0 : Int32).toInt = 0 := rfl
  unfold F_Dig_writePlain
  by_cases c0 : t0_1 < 0
  · rw [if_pos c0]
    have c0 := q_ltI c0
    rw [if_pos (by omega)]
    exact V_wpL hR h hp hb hx hpl (((0 : Int32).toInt - -1000000).toNat + 1) 0 t2_0 t3_0 1 l rfl (by omega) (by decide) hm (by omega)
  · rw [if_neg c0]
    have c0 := q_nltI c0
    rw [if_neg (by omega)]
    exact V_wpL hR h hp hb hx hpl ((t0_1.toInt - -1000000).toNat + 1) t0_1 t2_0 t3_0 (t0_1.toInt.toNat + 1) l (by omega) (by omega) (by omega) hm (by omega)
