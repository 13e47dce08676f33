/-! values, for whole: the paper as a list of bytes -/
def yPa (s : Int32) (c : Nat → Int64) (l : List Nat) : Prop := s.toInt = (l.length : Int) ∧ ∀ i, i < l.length → i < 11008 → ySh c i = l.getD i 0
theorem y_gdA {l : List Nat} {v i : Nat} : (l ++ [v]).getD i 0 = if i = l.length then v else l.getD i 0 := by
  rw [List.getD_eq_getElem?_getD, List.getD_eq_getElem?_getD]
  rcases Nat.lt_trichotomy i l.length with h | h | h
  · rw [List.getElem?_append_left h, if_neg (by omega)]
  · rw [h, List.getElem?_append_right (Nat.le_refl _), Nat.sub_self, if_pos rfl]
    rfl
  · rw [List.getElem?_append_right (by omega), if_neg (by omega)]
    rw [List.getElem?_eq_none (by rw [List.length_singleton]; omega), List.getElem?_eq_none (by omega)]
theorem y_a255 {x : Int32} {v : Nat} (h : x.toInt = (v : Int)) (hv : v < 256) : (x &&& 255 : Int32).toInt = (v : Int) := by
  have e1 : x.toBitVec.toNat = v := by
    have h0 : x.toBitVec.toInt = (v : Int) := h
    rw [BitVec.toInt_eq_toNat_cond] at h0
    have := x.toBitVec.isLt
    split at h0 <;> omega
  have e2 : (x &&& 255 : Int32).toBitVec.toNat = v := by
    rw [Int32.toBitVec_and, BitVec.toNat_and, e1]
    show v &&& 255 = v
    rw [show (255 : Nat) = 2 ^ 8 - 1 from rfl, Nat.and_two_pow_sub_one_eq_mod]
    exact Nat.mod_eq_of_lt hv
  show (x &&& 255 : Int32).toBitVec.toInt = _
  rw [BitVec.toInt_eq_toNat_cond, e2, if_pos (by omega)]
theorem V_pa {N K x2 s : Int32} {c : Nat → Int64} {l : List Nat} {v : Nat} (h : yPa s c l) (hl : l.length < 2000000000) (hx : x2.toInt = (v : Int)) (hv : v < 256) : yPa (F_She_add 11008 N K x2 s c).1 (F_She_add 11008 N K x2 s c).2 (l ++ [v]) := by
  have e1 : (1 : Int32).toInt = 1 := rfl
  have eR : (11008 : Int32).toInt = 11008 := rfl
  have hx2 := y_a255 hx hv
  by_cases k : l.length < 11008
  · obtain ⟨h1, h2⟩ := V_She_add (R := 11008) (N := N) (K := K) (t0_0 := s) (t1_0 := c) (n := l.length) (r := 11008) h.1 rfl (by decide) k hx2
    refine ⟨by rw [h1, List.length_append]; rfl, fun i hi hR => ?_⟩
    rw [h2 i, y_gdA]
    by_cases e : i = l.length
    · rw [if_pos e, if_pos e]
    · rw [if_neg e, if_neg e]
      rw [List.length_append, List.length_singleton] at hi
      exact h.2 i (by omega) hR
  · have h0 := h.1
    unfold F_She_add
    rw [if_pos (show (11008 : Int32) ≤ s from Int32.le_iff_toInt_le.mpr (by omega))]
    refine ⟨?_, fun i hi hR => ?_⟩
    · show (s + 1).toInt = _
      rw [q_addI h0 e1 (by omega) (by omega), List.length_append]
      rfl
    · rw [y_gdA, if_neg (by omega)]
      exact h.2 i (by omega) hR
theorem V_paP {N K x2 s : Int32} {c : Nat → Int64} {l : List Nat} {v : Nat} (h : yPa s c l) (hl : l.length < 2000000000) (hx : x2.toInt = (v : Int)) (hv : v < 256) : yPa (F_She_add_p 11008 N K x2 s c).1 (F_She_add_p 11008 N K x2 s c).2 (l ++ [v]) := by
  rw [y_sheP]
  exact V_pa h hl hx hv
/-- the n low figures of v, the highest first -/
def yDs (n v : Nat) : List Nat := match n with
  | 0 => []
  | n + 1 => (48 + yLo v n) :: yDs n v
theorem yDs_len {n v : Nat} : (yDs n v).length = n := by
  induction n with
  | zero => rfl
  | succ n ih =>
    show (yDs n v).length + 1 = n + 1
    rw [ih]
theorem y_ge10 {n c i : Nat} (h : yDt n c) : 10 ^ i ≤ n ↔ i < c := by
  constructor
  · intro k
    rcases Nat.lt_or_ge i c with g | g
    · exact g
    · exact absurd (Nat.lt_of_lt_of_le h.1 (Nat.pow_le_pow_right (by decide) g)) (Nat.not_lt.mpr k)
  · intro k
    have := h.2 (by omega)
    unfold yLt10 at this
    exact Nat.le_trans (Nat.pow_le_pow_right (by decide) (by omega)) (Nat.not_lt.mp this)
def yP5 (k : Nat) : Nat := match k with
  | 0 => 1
  | 1 => 1
  | 2 => 10
  | 3 => 100
  | 4 => 1000
  | _ => 10000
theorem yP5_s {k : Nat} (h : 1 ≤ k ∧ k ≤ 5) : yP5 k = 10 ^ (k - 1) := by
  have : k = 1 ∨ k = 2 ∨ k = 3 ∨ k = 4 ∨ k = 5 := by omega
  rcases this with rfl | rfl | rfl | rfl | rfl <;> rfl
theorem yP5_p {k : Nat} (h : 1 ≤ k ∧ k ≤ 5) : (if yP5 k / 10 < 1 then 1 else yP5 k / 10) = yP5 (k - 1) := by
  have : k = 1 ∨ k = 2 ∨ k = 3 ∨ k = 4 ∨ k = 5 := by omega
  rcases this with rfl | rfl | rfl | rfl | rfl <;> decide
theorem yP5_b {k : Nat} (h : k ≤ 5) : 1 ≤ yP5 k ∧ yP5 k ≤ 10000 := by
  have : k = 0 ∨ k = 1 ∨ k = 2 ∨ k = 3 ∨ k = 4 ∨ k = 5 := by omega
  rcases this with rfl | rfl | rfl | rfl | rfl | rfl <;> decide
theorem yDs_app {l : List Nat} {n v : Nat} : l ++ yDs (n + 1) v = l ++ [48 + yLo v n] ++ yDs n v := by
  rw [List.append_assoc]
  rfl
theorem y_wm1 {x : Int32} {k : Nat} (h : x.toInt = (k : Int)) (hk : 1 ≤ k) : (x + -1).toInt = ((k - 1 : Nat) : Int) := by
  have eM : (-1 : Int32).toInt = -1 := rfl
  have := q_hi32 (x := x)
  rw [q_addI h eM (by omega) (by omega)]
  omega
theorem V_adpL {R : Int32} {N : Int32} {K : Int32} {x2 : Int32} {x3 : Int32} {t0_0 : Int32} {t1_0 : (Nat → Int64)} {a8 : Int32} {a c m : Nat} {l0 : Nat} (ha : a8.toInt = (a : Int)) (hx : x3.toInt = (l0 : Int)) (hR : R = 11008) (hc : yDt a c) (hm : m = max c l0) : ∀ (n : Nat) (lx15 : Int32) (lx16 : Int32) (lx17 : Int32) (lx18 : (Nat → Int64)), ∀ (k : Nat) (l : List Nat), lx15.toInt = (k : Int) → k ≤ 5 → k < n → lx16.toInt = ((yP5 k : Nat) : Int) → yPa lx17 lx18 l → l.length + k < 1000000000 → yPa (F_She_addPower_p_L13 R N K x2 x3 t0_0 t1_0 a8 n lx15 lx16 lx17 lx18).1 (F_She_addPower_p_L13 R N K x2 x3 t0_0 t1_0 a8 n lx15 lx16 lx17 lx18).2 (l ++ yDs (min k m) a) := by
  subst hR
  have e0 : (0 : Int32).toInt = 0 := rfl
  have e1 : (1 : Int32).toInt = 1 := rfl
  have e10 : (10 : Int32).toInt = 10 := rfl
  have e48 : (48 : Int32).toInt = 48 := rfl
  intro n
  induction n with
  | zero =>
    intro lx15 lx16 lx17 lx18 k l h1 h2 h3
    omega
  | succ n ih =>
    intro lx15 lx16 lx17 lx18 k l h1 h2 h3 h4 h5 h6
    rw [F_She_addPower_p_L13.eq_2]
    by_cases g : lx15 ≤ 0
    · rw [if_pos g]
      have g := q_leI g
      obtain rfl : k = 0 := by omega
      rw [Nat.zero_min]
      show yPa lx17 lx18 (l ++ [])
      rw [List.append_nil]
      exact h5
    · rw [if_neg g]
      have g := q_nleI g
      have hk1 : 1 ≤ k := by omega
      have p5 := yP5_b h2
      have hu : (if (lx16 / 10) < 1 then (1 : Int32) else (lx16 / 10)).toInt = ((yP5 (k - 1) : Nat) : Int) := by
        have hd := q_divI h4 e10 (by omega) (by omega)
        have hp := yP5_p (k := k) ⟨hk1, h2⟩
        by_cases q : (lx16 / 10) < 1
        · rw [if_pos q]
          have q := q_ltI q
          rw [if_pos (by omega)] at hp
          rw [← hp]
          rfl
        · rw [if_neg q]
          have q := q_nltI q
          rw [if_neg (by omega)] at hp
          rw [← hp, hd]
          rfl
      have h1' := y_wm1 h1 hk1
      have hs := yP5_s (k := k) ⟨hk1, h2⟩
      have dig : (48 + ((a8 / lx16) - (a8 / lx16) / 10 * 10) : Int32).toInt = ((48 + yLo a (k - 1) : Nat) : Int) := by
        have q1 := q_divI ha h4 (by omega) (by omega)
        have q2 := v_rem (a := a8 / lx16) (b := 10) (by rw [q1]; exact Int.ediv_nonneg (by omega) (by omega)) (by omega)
        rw [q1, e10] at q2
        have q3 : (a : Int) / ((yP5 k : Nat) : Int) % 10 = ((yLo a (k - 1) : Nat) : Int) := by
          unfold yLo
          rw [← hs]
          rfl
        rw [q3] at q2
        have l9 := yLo_9 a (k - 1)
        exact q_addI e48 q2 (by omega) (by omega)
      have l9 := yLo_9 a (k - 1)
      have add : k ≤ m → yPa (F_She_addPower_p_J30 (F_She_addPower_p_L13 11008 N K x2 x3 t0_0 t1_0 a8 n) 11008 N K x2 x3 t0_0 t1_0 a8 lx15 lx16 lx17 lx18).1 (F_She_addPower_p_J30 (F_She_addPower_p_L13 11008 N K x2 x3 t0_0 t1_0 a8 n) 11008 N K x2 x3 t0_0 t1_0 a8 lx15 lx16 lx17 lx18).2 (l ++ yDs (min k m) a) := by
        intro km
        unfold F_She_addPower_p_J30
        have pa := V_paP (N := N) (K := K) h5 (by omega) dig (by omega)
        revert pa
        generalize F_She_add_p 11008 N K (48 + ((a8 / lx16) - (a8 / lx16) / 10 * 10)) lx17 lx18 = p
        intro pa
        unfold F_She_addPower_p_c41
        have r := ih (lx15 + -1) (if (lx16 / 10) < 1 then 1 else (lx16 / 10)) p.1 p.2 (k - 1) (l ++ [48 + yLo a (k - 1)]) h1' (by omega) (by omega) hu pa (by rw [List.length_append, List.length_singleton]; omega)
        rw [show min k m = (k - 1) + 1 from by omega, yDs_app]
        rw [show min (k - 1) m = k - 1 from by omega] at r
        exact r
      by_cases b1 : lx15 ≤ x3
      · rw [if_pos b1]
        have b1 := q_leI b1
        exact add (by omega)
      · rw [if_neg b1]
        have b1 := q_nleI b1
        have ge := y_ge10 (i := k - 1) hc
        rw [← hs] at ge
        by_cases b2 : a8 < lx16
        · rw [if_pos b2]
          have b2 := q_ltI b2
          have : ¬ k - 1 < c := fun q => by have := ge.mpr q; omega
          have r := ih (lx15 + -1) (if (lx16 / 10) < 1 then 1 else (lx16 / 10)) lx17 lx18 (k - 1) l h1' (by omega) (by omega) hu h5 (by omega)
          rw [show min k m = min (k - 1) m from by omega]
          exact r
        · rw [if_neg b2]
          have b2 := q_nltI b2
          have := ge.mp (by omega)
          exact add (by omega)
theorem y_abs {x : Int32} (h : -2147483647 ≤ x.toInt) : (F_jMath_abs_II x).toInt = ((x.toInt.natAbs : Nat) : Int) := by
  have e0 : (0 : Int32).toInt = 0 := rfl
  unfold F_jMath_abs_II
  by_cases c : (0 : Int32) ≤ x
  · rw [if_pos c]
    have := q_leI c
    omega
  · rw [if_neg c]
    have := q_nleI c
    rw [q_negI rfl (by omega)]
    omega
theorem V_addP {R : Int32} {N : Int32} {K : Int32} {x2 : Int32} {x3 : Int32} {t0_0 : Int32} {t1_0 : (Nat → Int64)} {l0 c : Nat} {l : List Nat} (hR : R = 11008) (h : yPa t0_0 t1_0 l) (hl : l.length < 900000000) (hx : x3.toInt = (l0 : Int)) (hl0 : l0 ≤ 5) (h2 : -99999 ≤ x2.toInt ∧ x2.toInt ≤ 99999) (hc : yDt x2.toInt.natAbs c) : yPa (F_She_addPower_p R N K x2 x3 t0_0 t1_0).1 (F_She_addPower_p R N K x2 x3 t0_0 t1_0).2 (l ++ yDs (max c l0) x2.toInt.natAbs) := by
  unfold F_She_addPower_p
  have hc5 : c ≤ 5 := by
    rcases Nat.lt_or_ge 5 c with g | g
    · have := (y_ge10 (i := 5) hc).mpr g
      omega
    · exact g
  have r := V_adpL (x2 := x2) (t0_0 := t0_0) (t1_0 := t1_0) (N := N) (K := K) (a := x2.toInt.natAbs) (c := c) (y_abs (x := x2) (by omega)) hx hR hc rfl (((5 : Int32).toInt - -1).toNat + 1) 5 10000 t0_0 t1_0 5 l rfl (by omega) (by decide) rfl h (by omega)
  rw [show min 5 (max c l0) = max c l0 from by omega] at r
  exact r
/-- a power of 10 behind its letter -/
def ySgn (p : Int) : List Nat := if p < 0 then [45] else [43]
theorem V_wPow {x2 : Int32} {t0_0 : Int32} {t1_0 : (Nat → Int64)} {c : Nat} {l : List Nat} (h : yPa t0_0 t1_0 l) (hl : l.length < 800000000) (h2 : -99999 ≤ x2.toInt ∧ x2.toInt ≤ 99999) (hc : yDt x2.toInt.natAbs c) : yPa (F_Wri_writePower x2 t0_0 t1_0).1 (F_Wri_writePower x2 t0_0 t1_0).2 (l ++ (69 :: ySgn x2.toInt) ++ yDs (max c 1) x2.toInt.natAbs) := by
  have e0 : (0 : Int32).toInt = 0 := rfl
  unfold F_Wri_writePower
  have p1 := V_paP (N := 1376) (K := 1000000) (x2 := 69) (v := 69) h (by omega) rfl (by decide)
  revert p1
  generalize F_She_add_p 11008 1376 1000000 69 t0_0 t1_0 = p
  intro p1
  unfold F_Wri_writePower_c6
  have ln : (l ++ [69]).length = l.length + 1 := by rw [List.length_append, List.length_singleton]
  by_cases g : (0 : Int32) ≤ x2
  · rw [if_pos g]
    have g := q_leI g
    have p2 := V_paP (N := 1376) (K := 1000000) (x2 := 43) (v := 43) p1 (by omega) rfl (by decide)
    revert p2
    generalize F_She_add_p 11008 1376 1000000 43 p.1 p.2 = q
    intro p2
    unfold F_Wri_writePower_c24
    have p3 := V_addP (N := 1376) (K := 1000000) (x3 := 1) (l0 := 1) rfl p2 (by rw [List.length_append, ln, List.length_singleton]; omega) rfl (by omega) h2 hc
    revert p3
    generalize F_She_addPower_p 11008 1376 1000000 x2 1 q.1 q.2 = r
    intro p3
    unfold F_Wri_writePower_c33
    unfold ySgn
    rw [if_neg (by omega)]
    rw [show l ++ (69 :: [43]) = l ++ [69] ++ [43] from by rw [List.append_assoc]; rfl]
    exact p3
  · rw [if_neg g]
    have g := q_nleI g
    have p2 := V_paP (N := 1376) (K := 1000000) (x2 := 45) (v := 45) p1 (by omega) rfl (by decide)
    revert p2
    generalize F_She_add_p 11008 1376 1000000 45 p.1 p.2 = q
    intro p2
    unfold F_Wri_writePower_c24_4
    have p3 := V_addP (N := 1376) (K := 1000000) (x3 := 1) (l0 := 1) rfl p2 (by rw [List.length_append, ln, List.length_singleton]; omega) rfl (by omega) h2 hc
    revert p3
    generalize F_She_addPower_p 11008 1376 1000000 x2 1 q.1 q.2 = r
    intro p3
    unfold F_Wri_writePower_c33_5
    unfold ySgn
    rw [if_pos (by omega)]
    rw [show l ++ (69 :: [45]) = l ++ [69] ++ [45] from by rw [List.append_assoc]; rfl]
    exact p3
/-- the sign before a number -/
def yMin (b : Prop) [Decidable b] : List Nat := if b then [45] else []
theorem yPa_0 {c : Nat → Int64} : yPa 0 c [] := ⟨rfl, fun i hi => absurd hi (Nat.not_lt_zero _)⟩
theorem V_begin {x2 : Int32} {t0_0 : Int32} {t1_0 : (Nat → Int64)}  : yPa (F_Wri_begin x2 t0_0 t1_0).1 (F_Wri_begin x2 t0_0 t1_0).2 (yMin (¬ x2 = 0)) := by
  unfold F_Wri_begin yMin
  by_cases g : x2 = 0
  · rw [if_pos g, if_neg (fun h => h g)]
    exact yPa_0
  · rw [if_neg g, if_pos g]
    have p1 := V_pa (N := 1376) (K := 1000000) (x2 := 45) (v := 45) (yPa_0 (c := t1_0)) (by decide) rfl (by decide)
    have e : F_She_clear 11008 1376 1000000 t0_0 = 0 := rfl
    rw [e]
    revert p1
    generalize F_She_add 11008 1376 1000000 45 0 t1_0 = p
    intro p1
    unfold F_Wri_begin_c17
    exact p1
theorem y_begP {x2 t0_0 : Int32} {t1_0 : Nat → Int64} : F_Wri_begin_p x2 t0_0 t1_0 = F_Wri_begin x2 t0_0 t1_0 := by
  unfold F_Wri_begin_p F_Wri_begin
  by_cases g : x2 = 0
  · rw [if_pos g, if_pos g]
  · rw [if_neg g, if_neg g, y_sheP]
    unfold F_Wri_begin_p_c17 F_Wri_begin_c17
    rfl
