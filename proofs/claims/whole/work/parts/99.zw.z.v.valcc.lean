/-! values, for whole: the reference's decimals written: figures, exponent -/
def yRt (n : Int32) (t : Nat → Int32) (l : List Nat) : Prop := n.toInt = (l.length : Int) ∧ ∀ i, i < l.length → (t i).toInt = ((l.getD i 0 : Nat) : Int)
theorem V_rt {n x : Int32} {t : Nat → Int32} {l : List Nat} {v : Nat} (h : yRt n t l) (hl : l.length < 2000000000) (hx : x.toInt = (v : Int)) : yRt (n + 1) (upd t n.toNatClampNeg x) (l ++ [v]) := by
  have e1 : (1 : Int32).toInt = 1 := rfl
  have h0 := h.1
  have nc : n.toNatClampNeg = l.length := by
    have := q_clI h0 (by omega)
    omega
  refine ⟨?_, fun i hi => ?_⟩
  · rw [q_addI h0 e1 (by omega) (by omega), List.length_append]
    rfl
  · rw [y_gdA, yu_pt, nc]
    by_cases e : i = l.length
    · rw [if_pos e, if_pos e, hx]
    · rw [if_neg e, if_neg e]
      rw [List.length_append, List.length_singleton] at hi
      exact h.2 i (by omega)
theorem yRt_0 {t : Nat → Int32} : yRt 0 t [] := ⟨rfl, fun i hi => absurd hi (Nat.not_lt_zero _)⟩
/-- m figures from the one k on, the point before the one pt -/
def ySpI (N : Nat) (n pt k : Int) (m : Nat) : List Nat := match m with
  | 0 => []
  | m + 1 => (if k = pt then [46] else []) ++ ((48 + yFz N (n - 1 - k)) :: ySpI N n pt (k + 1) m)
theorem ySpI_app {l : List Nat} {N : Nat} {n pt k : Int} {m : Nat} : l ++ ySpI N n pt k (m + 1) = l ++ (if k = pt then [46] else []) ++ [48 + yFz N (n - 1 - k)] ++ ySpI N n pt (k + 1) m := by
  show l ++ ((if k = pt then [46] else []) ++ ((48 + yFz N (n - 1 - k)) :: ySpI N n pt (k + 1) m)) = _
  rw [List.append_assoc, List.append_assoc]
  rfl
/-- the figures of a register -/
def yFr (k : Nat → Int32) (x m : Nat) (N : Nat) : Prop := gO (fun j => k (1000 * x + j)) m ∧ uV (fun j => k (1000 * x + j)) m = (N : Int)
theorem yFr_z {k : Nat → Int32} {x m N i : Nat} (h : yFr k x m N) (hi : i < m) : (k (1000 * x + i)).toInt = ((yFz N ((m : Int) - 1 - (i : Int)) : Nat) : Int) := by
  have u := u_dig (i := i) h.1 hi
  rw [h.2] at u
  rw [← u]
  unfold yFz yLo
  rw [if_neg (by omega), show ((m : Int) - 1 - (i : Int)).toNat = m - 1 - i from by omega, Int.natCast_emod, Int.natCast_ediv, Int.natCast_pow]
  rfl
theorem yFr_h {k : Nat → Int32} {x m N : Nat} {z : Int} (h : yFr k x m N) (hz : (m : Int) ≤ z) : yFz N z = 0 := by
  unfold yFz
  rw [if_neg (by omega)]
  have l := u_lt h.1
  rw [h.2] at l
  have l2 : N < 10 ^ m := by
    have : ((10 ^ m : Nat) : Int) = (10 : Int) ^ m := by
      rw [Int.natCast_pow]
      rfl
    rw [← this] at l
    exact Int.ofNat_lt.mp l
  exact y_lo0 (Nat.lt_of_lt_of_le l2 (Nat.pow_le_pow_right (by decide) (by omega)))
theorem V_fgL {x2 : Int32} {x3 : Int32} {x4 : Int32} {x5 : Int32} {t0_0 : Int32} {t0_1 : Int32} {t0_2 : Int32} {t0_3 : Int64} {t0_4 : Int32} {t0_5 : Int32} {t0_6 : Int32} {t0_7 : Int32} {t0_8 : Int32} {t0_9 : Int32} {t0_10 : Int32} {t1_0 : (Nat → Int32)} {t2_0 : (Nat → Int32)} {t3_0 : (Nat → Int32)} {N m e : Nat} {en pt : Int} (hx2 : yReg x2) (hf : yFr t1_0 x2.toNatClampNeg m N) (hm : (t2_0 x2.toNatClampNeg).toInt = (m : Int)) (hm2 : m ≤ 1000) (h4 : x4.toInt = en) (h5 : x5.toInt = pt) (hen : -30000 ≤ en ∧ en ≤ 30000) : ∀ (n : Nat) (lx40 : Int32) (lx41 : Int32) (lx42 : Int32) (lx43 : Int32) (lx44 : Int64) (lx45 : Int32) (lx46 : Int32) (lx47 : Int32) (lx48 : Int32) (lx49 : Int32) (lx50 : Int32) (lx51 : Int32) (lx52 : (Nat → Int32)), ∀ (k : Int) (r : Nat) (l : List Nat), lx40.toInt = k → -30000 ≤ k → (r : Int) = en - k → r < n → yRt lx50 lx52 l → l.length + 2 * r < 1900000000 → yRt (F_DR_figures_L3 x2 x3 x4 x5 t0_0 t0_1 t0_2 t0_3 t0_4 t0_5 t0_6 t0_7 t0_8 t0_9 t0_10 t1_0 t2_0 t3_0 n lx40 lx41 lx42 lx43 lx44 lx45 lx46 lx47 lx48 lx49 lx50 lx51 lx52).2.2.2.2.2.2.2.2.2.1 (F_DR_figures_L3 x2 x3 x4 x5 t0_0 t0_1 t0_2 t0_3 t0_4 t0_5 t0_6 t0_7 t0_8 t0_9 t0_10 t1_0 t2_0 t3_0 n lx40 lx41 lx42 lx43 lx44 lx45 lx46 lx47 lx48 lx49 lx50 lx51 lx52).2.2.2.2.2.2.2.2.2.2.2 (l ++ ySpI N (m : Int) pt k r) := by
  have e0 : (0 : Int32).toInt = 0 := rfl
  have e1 : (1 : Int32).toInt = 1 := rfl
  have e48 : (48 : Int32).toInt = 48 := rfl
  have xc := q_clI (i := x2) rfl hx2.1
  have x9 := hx2.2
  intro n
  induction n with
  | zero =>
    intro lx40 lx41 lx42 lx43 lx44 lx45 lx46 lx47 lx48 lx49 lx50 lx51 lx52 k r l h1 h2 h3 h6
    omega
  | succ n ih =>
    intro lx40 lx41 lx42 lx43 lx44 lx45 lx46 lx47 lx48 lx49 lx50 lx51 lx52 k r l h1 h2 h3 h6 h7 h8
    rw [F_DR_figures_L3.eq_2]
    by_cases g : x4 ≤ lx40
    · rw [if_pos g]
      have g := q_leI g
      obtain rfl : r = 0 := by omega
      show yRt lx50 lx52 (l ++ [])
      rw [List.append_nil]
      exact h7
    · rw [if_neg g]
      have g := q_nleI g
      obtain ⟨q, rfl⟩ : ∃ q, r = q + 1 := ⟨r - 1, by omega⟩
      rw [ySpI_app]
      have nx := q_addI h1 e1 (by omega) (by omega)
      have j22 : ∀ (a0 a1 a2 : Int32) (a3 : Int64) (a4 a5 a6 a7 a8 a9 a10 : Int32) (a11 : Nat → Int32) (z : List Nat), yRt a9 a11 z → z.length ≤ l.length + 1 → ∀ o, o = F_DR_figures_J22 (F_DR_figures_L3 x2 x3 x4 x5 t0_0 t0_1 t0_2 t0_3 t0_4 t0_5 t0_6 t0_7 t0_8 t0_9 t0_10 t1_0 t2_0 t3_0 n) x2 x3 x4 x5 t0_0 t0_1 t0_2 t0_3 t0_4 t0_5 t0_6 t0_7 t0_8 t0_9 t0_10 t1_0 t2_0 t3_0 lx40 lx41 lx42 lx43 lx44 lx45 lx46 lx47 lx48 lx49 lx50 lx51 lx52 a0 a1 a2 a3 a4 a5 a6 a7 a8 a9 a10 a11 → yRt o.2.2.2.2.2.2.2.2.2.1 o.2.2.2.2.2.2.2.2.2.2.2 (z ++ [48 + yFz N ((m : Int) - 1 - k)] ++ ySpI N (m : Int) pt (k + 1) q) := by
        intro a0 a1 a2 a3 a4 a5 a6 a7 a8 a9 a10 a11 z hz hzl o ho
        rw [ho]
        unfold F_DR_figures_J22
        have zl : (z ++ [48 + yFz N ((m : Int) - 1 - k)]).length = z.length + 1 := by rw [List.length_append, List.length_singleton]
        by_cases c1 : lx40 < 0
        · rw [if_pos c1]
          have c1 := q_ltI c1
          have fz := yFr_h (z := (m : Int) - 1 - k) hf (by omega)
          have w := V_rt (x := 48) (v := 48 + yFz N ((m : Int) - 1 - k)) hz (by omega) (by rw [fz]; rfl)
          unfold F_DR_print F_DR_figures_c59
          exact ih (lx40 + 1) _ _ _ _ _ _ _ _ _ _ _ _ (k + 1) q _ nx (by omega) (by omega) (by omega) w (by omega)
        · rw [if_neg c1]
          have c1 := q_nltI c1
          by_cases c2 : (t2_0 x2.toNatClampNeg) ≤ lx40
          · rw [if_pos c2]
            have c2 := q_leI c2
            have fz : yFz N ((m : Int) - 1 - k) = 0 := by
              unfold yFz
              rw [if_pos (by omega)]
            have w := V_rt (x := 48) (v := 48 + yFz N ((m : Int) - 1 - k)) hz (by omega) (by rw [fz]; rfl)
            unfold F_DR_print F_DR_figures_c59_4
            exact ih (lx40 + 1) _ _ _ _ _ _ _ _ _ _ _ _ (k + 1) q _ nx (by omega) (by omega) (by omega) w (by omega)
          · rw [if_neg c2]
            have c2 := q_nleI c2
            obtain ⟨i, hi⟩ : ∃ i : Nat, k = (i : Int) := ⟨k.toNat, by omega⟩
            have a1' : (1000 * x2 : Int32).toInt = 1000 * x2.toInt := g_i0 hx2
            have a2' := q_addI a1' h1 (by omega) (by omega)
            have a3' : ((1000 * x2) + lx40 : Int32).toNatClampNeg = 1000 * x2.toNatClampNeg + i := by
              have := q_clI a2' (by omega)
              omega
            have fz := yFr_z (i := i) hf (by omega)
            rw [← hi] at fz
            have f9 := yFz_9 N ((m : Int) - 1 - k)
            rw [a3']
            have w := V_rt (x := 48 + t1_0 (1000 * x2.toNatClampNeg + i)) (v := 48 + yFz N ((m : Int) - 1 - k)) hz (by omega) (q_addI e48 fz (by omega) (by omega))
            unfold F_DR_print F_DR_figures_c59_5
            exact ih (lx40 + 1) _ _ _ _ _ _ _ _ _ _ _ _ (k + 1) q _ nx (by omega) (by omega) (by omega) w (by omega)
      by_cases d : lx40 = x5
      · rw [if_pos d]
        rw [if_pos (show k = pt from by rw [← h1, ← h5, d])]
        have w := V_rt (x := 46) (v := 46) h7 (by omega) rfl
        unfold F_DR_print F_DR_figures_c19
        exact j22 _ _ _ _ _ _ _ _ _ _ _ _ _ w (by rw [List.length_append, List.length_singleton]; omega) _ rfl
      · rw [if_neg d]
        rw [if_neg (show ¬ k = pt from fun e => d (Int32.toInt_inj.mp (by rw [h1, h5, e]))), List.append_nil]
        exact j22 _ _ _ _ _ _ _ _ _ _ _ _ _ h7 (by omega) _ rfl
theorem V_DRfig {x2 : Int32} {x3 : Int32} {x4 : Int32} {x5 : Int32} {t0_0 : Int32} {t0_1 : Int32} {t0_2 : Int32} {t0_3 : Int64} {t0_4 : Int32} {t0_5 : Int32} {t0_6 : Int32} {t0_7 : Int32} {t0_8 : Int32} {t0_9 : Int32} {t0_10 : Int32} {t1_0 : (Nat → Int32)} {t2_0 : (Nat → Int32)} {t3_0 : (Nat → Int32)} {N m : Nat} {k en pt : Int} (hx2 : yReg x2) (hf : yFr t1_0 x2.toNatClampNeg m N) (hm : (t2_0 x2.toNatClampNeg).toInt = (m : Int)) (hm2 : m ≤ 1000) (h3 : x3.toInt = k) (h4 : x4.toInt = en) (h5 : x5.toInt = pt) (hen : -30000 ≤ en ∧ en ≤ 30000) (hk : -30000 ≤ k) (hke : k ≤ en) {l : List Nat} (hr : yRt t0_9 t3_0 l) (hl : l.length < 1000000000) : yRt (F_DR_figures x2 x3 x4 x5 t0_0 t0_1 t0_2 t0_3 t0_4 t0_5 t0_6 t0_7 t0_8 t0_9 t0_10 t1_0 t2_0 t3_0).2.2.2.2.2.2.2.2.2.1 (F_DR_figures x2 x3 x4 x5 t0_0 t0_1 t0_2 t0_3 t0_4 t0_5 t0_6 t0_7 t0_8 t0_9 t0_10 t1_0 t2_0 t3_0).2.2.2.2.2.2.2.2.2.2.2 (l ++ ySpI N (m : Int) pt k (en - k).toNat) := by
  unfold F_DR_figures
  exact V_fgL (e := 0) hx2 hf hm hm2 h4 h5 hen ((x4.toInt - x3.toInt).toNat + 1) x3 t0_0 t0_1 t0_2 t0_3 t0_4 t0_5 t0_6 t0_7 t0_8 t0_9 t0_10 t3_0 k (en - k).toNat l h3 hk (by omega) (by omega) hr (by omega)
