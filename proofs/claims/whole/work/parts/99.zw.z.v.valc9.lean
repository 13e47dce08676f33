/-! values, for whole: the class's Digits: writeHead, writeSplit -/
theorem V_whL {R : Int32} {N : Int32} {K : Int32} {x3 : Int32} {x4 : Int32} {t0_0 : Int32} {t0_1 : Int32} {t1_0 : (Nat → Int32)} {t2_0 : Int32} {t3_0 : (Nat → Int64)} {p31 : (Int32 × (Nat → Int64))} {lx40 : Int32} {lx41 : (Nat → Int64)} {N0 c al : Nat} (hR : R = 11008) (h : yDgc t0_0 t1_0 N0 c) (hx : x3.toInt = (al : Int)) (ha : al ≤ 10000) : ∀ (n : Nat) (lx58 : Int32) (lx59 : Int32) (lx60 : (Nat → Int64)), ∀ (k : Nat) (l : List Nat), lx58.toInt = (k : Int) → 1 ≤ k → k ≤ max al 1 → max al 1 < n + k → yPa lx59 lx60 l → l.length + (al - k) < 1900000000 → yPa (F_Dig_writeHead_L30 R N K x3 x4 t0_0 t0_1 t1_0 t2_0 t3_0 p31 lx40 lx41 n lx58 lx59 lx60).1 (F_Dig_writeHead_L30 R N K x3 x4 t0_0 t0_1 t1_0 t2_0 t3_0 p31 lx40 lx41 n lx58 lx59 lx60).2 (l ++ yDz N0 ((c : Int) - 1 - (k : Int)) (al - k)) := by
  subst hR
  have e1 : (1 : Int32).toInt = 1 := rfl
  intro n
  induction n with
  | zero =>
    intro lx58 lx59 lx60 k l h1 h2 h3 h4 h5 h6
    exact absurd h4 (by omega)
  | succ n ih =>
    intro lx58 lx59 lx60 k l h1 h2 h3 h4 h5 h6
    rw [F_Dig_writeHead_L30.eq_2]
    by_cases g : x3 ≤ lx58
    · rw [if_pos g]
      have g := q_leI g
      rw [show al - k = 0 from by omega]
      show yPa lx59 lx60 (l ++ [])
      rw [List.append_nil]
      exact h5
    · rw [if_neg g]
      have g := q_nleI g
      have fc := V_figC (x := lx58) (pw := t0_1) (z := (c : Int) - 1 - (k : Int)) h (fun c0 => by omega)
      have pa := V_paP (N := N) (K := K) h5 (by omega) fc.1 fc.2
      revert pa
      generalize F_She_add_p 11008 N K (48 + F_Dig_figure lx58 t0_0 t0_1 t1_0) lx59 lx60 = p
      intro pa
      unfold F_Dig_writeHead_c46
      have r := ih (lx58 + 1) p.1 p.2 (k + 1) _ (q_addI h1 e1 (by omega) (by omega)) (by omega) (by omega) (by omega) pa (by rw [List.length_append, List.length_singleton]; omega)
      rw [show al - k = (al - (k + 1)) + 1 from by omega, yDz_app]
      rw [show (c : Int) - 1 - ((k + 1 : Nat) : Int) = (c : Int) - 1 - (k : Int) - 1 from by omega] at r
      exact r
/-- one figure before the point, al in all -/
def yHead (N c al : Nat) (ap : Int32) : List Nat := [48 + yFz N ((c : Int) - 1)] ++ (if 1 < al ∨ ap ≠ 0 then [46] else []) ++ yDz N ((c : Int) - 2) (al - 1)
theorem V_wh27 {R : Int32} {N : Int32} {K : Int32} {x3 : Int32} {x4 : Int32} {t0_0 : Int32} {t0_1 : Int32} {t1_0 : (Nat → Int32)} {t2_0 : Int32} {t3_0 : (Nat → Int64)} {p31 : (Int32 × (Nat → Int64))} {lx40 : Int32} {lx41 : (Nat → Int64)} {N0 c al : Nat} (hR : R = 11008) (h : yDgc t0_0 t1_0 N0 c) (hx : x3.toInt = (al : Int)) (ha : al ≤ 10000) {l : List Nat} (hm : yPa lx40 lx41 l) (hl : l.length < 1800000002) : yPa (F_Dig_writeHead_J27 R N K x3 x4 t0_0 t0_1 t1_0 t2_0 t3_0 p31 lx40 lx41).1 (F_Dig_writeHead_J27 R N K x3 x4 t0_0 t0_1 t1_0 t2_0 t3_0 p31 lx40 lx41).2 (l ++ yDz N0 ((c : Int) - 2) (al - 1)) := by
  unfold F_Dig_writeHead_J27
  have r := V_whL (x4 := x4) (t0_1 := t0_1) (t2_0 := t2_0) (t3_0 := t3_0) (N := N) (K := K) (p31 := p31) (lx40 := lx40) (lx41 := lx41) hR h hx ha ((20000 - (1 : Int32).toInt).toNat + 1) 1 lx40 lx41 1 l rfl (by omega) (by omega) (by show max al 1 < 20000 + 1; omega) hm (by omega)
  rw [show (c : Int) - 1 - ((1 : Nat) : Int) = (c : Int) - 2 from by omega] at r
  exact r
theorem V_wHead {R : Int32} {N : Int32} {K : Int32} {x3 : Int32} {x4 : Int32} {t0_0 : Int32} {t0_1 : Int32} {t1_0 : (Nat → Int32)} {t2_0 : Int32} {t3_0 : (Nat → Int64)} {N0 c al : Nat} (hR : R = 11008) (h : yDgc t0_0 t1_0 N0 c) (hx : x3.toInt = (al : Int)) (ha : al ≤ 10000) {l : List Nat} (hm : yPa t2_0 t3_0 l) (hl : l.length < 1800000000) : yPa (F_Dig_writeHead R N K x3 x4 t0_0 t0_1 t1_0 t2_0 t3_0).1 (F_Dig_writeHead R N K x3 x4 t0_0 t0_1 t1_0 t2_0 t3_0).2 (l ++ yHead N0 c al x4) := by
  subst hR
  have e0 : (0 : Int32).toInt = 0 := rfl
  have e1 : (1 : Int32).toInt = 1 := rfl
  unfold F_Dig_writeHead yHead
  have fc := V_figC (x := 0) (pw := t0_1) (z := (c : Int) - 1) h (fun c0 => by rw [e0]; omega)
  have pa := V_paP (N := N) (K := K) hm (by omega) fc.1 fc.2
  revert pa
  generalize F_She_add_p 11008 N K (48 + F_Dig_figure 0 t0_0 t0_1 t1_0) t2_0 t3_0 = p
  intro pa
  unfold F_Dig_writeHead_c9
  have ln : (l ++ [48 + yFz N0 ((c : Int) - 1)]).length = l.length + 1 := by rw [List.length_append, List.length_singleton]
  have dot : ∀ q : Int32 × (Nat → Int64), q = F_Dig_writeHead_J21 11008 N K x3 x4 t0_0 t0_1 t1_0 t2_0 t3_0 p p.1 p.2 → yPa q.1 q.2 (l ++ ([48 + yFz N0 ((c : Int) - 1)] ++ [46] ++ yDz N0 ((c : Int) - 2) (al - 1))) := by
    intro q hq
    rw [hq]
    unfold F_Dig_writeHead_J21
    have pb := V_paP (N := N) (K := K) (x2 := 46) (v := 46) pa (by omega) rfl (by decide)
    revert pb
    generalize F_She_add_p 11008 N K 46 p.1 p.2 = r
    intro pb
    unfold F_Dig_writeHead_c24
    have := V_wh27 (x4 := x4) (t0_1 := t0_1) (t2_0 := t2_0) (t3_0 := t3_0) (N := N) (K := K) (p31 := p) (lx40 := r.1) (lx41 := r.2) rfl h hx ha pb (by rw [List.length_append, ln, List.length_singleton]; omega)
    rw [List.append_assoc, List.append_assoc] at this
    rw [List.append_assoc]
    exact this
  by_cases g : (1 : Int32) < x3
  · rw [if_pos g]
    have g := q_ltI g
    rw [if_pos (Or.inl (by omega))]
    exact dot _ rfl
  · rw [if_neg g]
    have g := q_nltI g
    by_cases z : x4 = 0
    · rw [if_pos z, if_neg (fun q => by rcases q with q | q; omega; exact q z)]
      have := V_wh27 (x4 := x4) (t0_1 := t0_1) (t2_0 := t2_0) (t3_0 := t3_0) (N := N) (K := K) (p31 := p) (lx40 := p.1) (lx41 := p.2) rfl h hx ha pa (by omega)
      rw [List.append_nil, ← List.append_assoc]
      exact this
    · rw [if_neg z, if_pos (Or.inr z)]
      exact dot _ rfl
/-- m figures from the one k on, with the point before the one be -/
def ySpl (N : Nat) (c : Nat) (be k m : Nat) : List Nat := match m with
  | 0 => []
  | m + 1 => (if k = be then [46] else []) ++ ((48 + yFz N ((c : Int) - 1 - (k : Int))) :: ySpl N c be (k + 1) m)
theorem ySpl_app {l : List Nat} {N c be k m : Nat} : l ++ ySpl N c be k (m + 1) = l ++ (if k = be then [46] else []) ++ [48 + yFz N ((c : Int) - 1 - (k : Int))] ++ ySpl N c be (k + 1) m := by
  show l ++ ((if k = be then [46] else []) ++ ((48 + yFz N ((c : Int) - 1 - (k : Int))) :: ySpl N c be (k + 1) m)) = _
  rw [List.append_assoc, List.append_assoc]
  rfl
theorem V_wsL {R : Int32} {N : Int32} {K : Int32} {x3 : Int32} {x4 : Int32} {t0_0 : Int32} {t0_1 : Int32} {t1_0 : (Nat → Int32)} {t2_0 : Int32} {t3_0 : (Nat → Int64)} {N0 c be al : Nat} (hR : R = 11008) (h : yDgc t0_0 t1_0 N0 c) (hx : x3.toInt = (be : Int)) (hy : x4.toInt = (al : Int)) (ha : al ≤ 9000) (hb : be ≤ 9000) : ∀ (n : Nat) (lx18 : Int32) (lx19 : Int32) (lx20 : (Nat → Int64)), ∀ (k : Nat) (l : List Nat), lx18.toInt = (k : Int) → k ≤ max be al → max be al < n + k → yPa lx19 lx20 l → l.length + 2 * (max be al - k) < 1900000000 → yPa (F_Dig_writeSplit_L3 R N K x3 x4 t0_0 t0_1 t1_0 t2_0 t3_0 n lx18 lx19 lx20).1 (F_Dig_writeSplit_L3 R N K x3 x4 t0_0 t0_1 t1_0 t2_0 t3_0 n lx18 lx19 lx20).2 (l ++ ySpl N0 c be k (max be al - k)) := by
  subst hR
  have e1 : (1 : Int32).toInt = 1 := rfl
  have mx : (if x3 < x4 then x4 else x3).toInt = ((max be al : Nat) : Int) := by
    by_cases g : x3 < x4
    · rw [if_pos g]
      have := q_ltI g
      omega
    · rw [if_neg g]
      have := q_nltI g
      omega
  intro n
  induction n with
  | zero =>
    intro lx18 lx19 lx20 k l h1 h2 h3
    omega
  | succ n ih =>
    intro lx18 lx19 lx20 k l h1 h2 h3 h4 h5
    rw [F_Dig_writeSplit_L3.eq_2]
    by_cases g : (if x3 < x4 then x4 else x3) ≤ lx18
    · rw [if_pos g]
      have g := q_leI g
      rw [show max be al - k = 0 from by omega]
      show yPa lx19 lx20 (l ++ [])
      rw [List.append_nil]
      exact h4
    · rw [if_neg g]
      have g := q_nleI g
      have fc := V_figC (x := lx18) (pw := t0_1) (z := (c : Int) - 1 - (k : Int)) h (fun c0 => by omega)
      rw [show max be al - k = (max be al - (k + 1)) + 1 from by omega, ySpl_app]
      by_cases w : lx18 = x3
      · rw [if_pos w]
        have kb : k = be := by
          rw [w] at h1
          omega
        rw [if_pos kb]
        have pa := V_paP (N := N) (K := K) (x2 := 46) (v := 46) h4 (by omega) rfl (by decide)
        revert pa
        generalize F_She_add_p 11008 N K 46 lx19 lx20 = p
        intro pa
        unfold F_Dig_writeSplit_c22
        have ln : (l ++ [46]).length = l.length + 1 := by rw [List.length_append, List.length_singleton]
        have pb := V_paP (N := N) (K := K) pa (by omega) fc.1 fc.2
        revert pb
        generalize F_She_add_p 11008 N K (48 + F_Dig_figure lx18 t0_0 t0_1 t1_0) p.1 p.2 = q
        intro pb
        unfold F_Dig_writeSplit_c35_4
        exact ih (lx18 + 1) q.1 q.2 (k + 1) _ (q_addI h1 e1 (by omega) (by omega)) (by omega) (by omega) pb (by rw [List.length_append, ln, List.length_singleton]; omega)
      · rw [if_neg w]
        have kb : ¬ k = be := fun e => w (Int32.toInt_inj.mp (by rw [h1, hx, e]))
        rw [if_neg kb, List.append_nil]
        have pb := V_paP (N := N) (K := K) h4 (by omega) fc.1 fc.2
        revert pb
        generalize F_She_add_p 11008 N K (48 + F_Dig_figure lx18 t0_0 t0_1 t1_0) lx19 lx20 = q
        intro pb
        unfold F_Dig_writeSplit_c35
        exact ih (lx18 + 1) q.1 q.2 (k + 1) _ (q_addI h1 e1 (by omega) (by omega)) (by omega) (by omega) pb (by rw [List.length_append, List.length_singleton]; omega)
theorem V_wSplit {R : Int32} {N : Int32} {K : Int32} {x3 : Int32} {x4 : Int32} {t0_0 : Int32} {t0_1 : Int32} {t1_0 : (Nat → Int32)} {t2_0 : Int32} {t3_0 : (Nat → Int64)} {N0 c be al : Nat} (hR : R = 11008) (h : yDgc t0_0 t1_0 N0 c) (hx : x3.toInt = (be : Int)) (hy : x4.toInt = (al : Int)) (ha : al ≤ 9000) (hb : be ≤ 9000) {l : List Nat} (hm : yPa t2_0 t3_0 l) (hl : l.length < 1800000000) : yPa (F_Dig_writeSplit R N K x3 x4 t0_0 t0_1 t1_0 t2_0 t3_0).1 (F_Dig_writeSplit R N K x3 x4 t0_0 t0_1 t1_0 t2_0 t3_0).2 (l ++ ySpl N0 c be 0 (max be al)) := by
  unfold F_Dig_writeSplit
  exact V_wsL hR h hx hy ha hb ((20000 - (0 : Int32).toInt).toNat + 1) 0 t2_0 t3_0 0 l rfl (by omega) (by show max be al < 20001 + 0; omega) hm (by omega)
