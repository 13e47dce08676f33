/-! values, for whole: the reference's DecimalRows: the root's next figure, chosen -/
/-- the next figure d of a root r with Ln left -/
def QV_nr (s : Nat) (r Ln : Int) (z8 : Int32) (row le : Nat → Int32) : Prop := ∃ d : Int, 0 ≤ d ∧ d ≤ 9 ∧ uV row (s + 1) = 10 * r + d ∧ (20 * r + d) * d ≤ Ln ∧ (d = 9 ∨ Ln < (20 * r + d + 1) * (d + 1)) ∧ uV le z8.toNatClampNeg = Ln - (20 * r + d) * d
theorem V_nr3 {K_F_DR_nextRoot_L2 : Int32 → (Int32 × Int32 × Int32 × Int64 × Int32 × Int32 × Int32 × Int32 × Int32 × Int32 × Int32 × (Nat → Int32) × (Nat → Int32) × (Nat → Int32))} {K_F_DR_nextRoot_L28 : Int32 → (Nat → Int32) → (Int32 × Int32 × Int32 × Int64 × Int32 × Int32 × Int32 × Int32 × Int32 × Int32 × Int32 × (Nat → Int32) × (Nat → Int32) × (Nat → Int32))} {x2 : Int32} {x3 : Int32} {t0_0 : Int32} {t0_1 : Int32} {t0_2 : Int32} {t0_3 : Int64} {t0_4 : Int32} {t0_5 : Int32} {t0_6 : Int32} {t0_7 : Int32} {t0_8 : Int32} {t0_9 : Int32} {t0_10 : Int32} {t1_0 : (Nat → Int32)} {t2_0 : (Nat → Int32)} {t3_0 : (Nat → Int32)} {lx27 : Int32} {lx47 : Int32} {lx48 : (Nat → Int32)} {s Z : Nat} {r Ln : Int} (hs : t0_2.toInt = (s : Int)) (hs2 : s ≤ 1000) (hr : gO t1_0 s) (hrv : uV t1_0 s = r) (hr0 : s = 0 ∨ t1_0 0 ≠ 0) (hZ1 : 1 ≤ Z) (hZ2 : Z ≤ 2200) : ∀ (n : Nat) (lx91 : Int32) (lx92 : Int32) (lx93 : Int32) (lx94 : Int32) (lx95 : Int64) (lx96 : Int32) (lx97 : Int32) (lx98 : Int32) (lx99 : Int32) (lx100 : Int32) (lx101 : Int32) (lx102 : Int32) (lx103 : (Nat → Int32)) (lx104 : (Nat → Int32)), ∀ d : Nat, lx91.toInt = (d : Int) → d ≤ 9 → d < n → lx94 = t0_2 → lx100.toInt = (Z : Int) → gO lx104 Z → uV lx104 Z = Ln → (d = 9 ∨ Ln < (20 * r + d + 1) * (d + 1)) → QV_nr s r Ln (F_DR_nextRoot_L107 K_F_DR_nextRoot_L2 K_F_DR_nextRoot_L28 x2 x3 t0_0 t0_1 t0_2 t0_3 t0_4 t0_5 t0_6 t0_7 t0_8 t0_9 t0_10 t1_0 t2_0 t3_0 lx27 lx47 lx48 n lx91 lx92 lx93 lx94 lx95 lx96 lx97 lx98 lx99 lx100 lx101 lx102 lx103 lx104).2.2.2.2.2.2.2.2.1 (F_DR_nextRoot_L107 K_F_DR_nextRoot_L2 K_F_DR_nextRoot_L28 x2 x3 t0_0 t0_1 t0_2 t0_3 t0_4 t0_5 t0_6 t0_7 t0_8 t0_9 t0_10 t1_0 t2_0 t3_0 lx27 lx47 lx48 n lx91 lx92 lx93 lx94 lx95 lx96 lx97 lx98 lx99 lx100 lx101 lx102 lx103 lx104).2.2.2.2.2.2.2.2.2.2.2.1 (F_DR_nextRoot_L107 K_F_DR_nextRoot_L2 K_F_DR_nextRoot_L28 x2 x3 t0_0 t0_1 t0_2 t0_3 t0_4 t0_5 t0_6 t0_7 t0_8 t0_9 t0_10 t1_0 t2_0 t3_0 lx27 lx47 lx48 n lx91 lx92 lx93 lx94 lx95 lx96 lx97 lx98 lx99 lx100 lx101 lx102 lx103 lx104).2.2.2.2.2.2.2.2.2.2.2.2.2 := by
  intro n
  induction n with
  | zero =>
    intro lx91 lx92 lx93 lx94 lx95 lx96 lx97 lx98 lx99 lx100 lx101 lx102 lx103 lx104 d h0 h1 h2
    omega
  | succ n ih =>
    intro lx91 lx92 lx93 lx94 lx95 lx96 lx97 lx98 lx99 lx100 lx101 lx102 lx103 lx104 d h0 h1 h2 h94 h100 hg hL hm
    subst h94
    have sc := q_clI hs (by omega)
    have sx : lx94.toNatClampNeg = s := by omega
    have zc := q_clI h100 (by omega)
    have zx : lx100.toNatClampNeg = Z := by omega
    have hq := (T_DR_takesRoot (x2 := lx91) (t0_0 := lx92) (t0_1 := lx93) (t0_2 := lx94) (t0_3 := lx95) (t0_4 := lx96) (t0_5 := lx97) (t0_6 := lx98) (t0_7 := lx99) (t0_8 := lx100) (t0_9 := lx101) (t0_10 := lx102) (t1_0 := t1_0) (t2_0 := lx103) (t3_0 := lx104) ⟨by omega, by omega⟩ ⟨by omega, by omega⟩ (by rw [sx]; exact hr) (by rw [zx]; exact hg) ⟨by omega, by omega⟩).2
    have hv := V_takesRoot (x2 := lx91) (t0_0 := lx92) (t0_1 := lx93) (t0_2 := lx94) (t0_3 := lx95) (t0_4 := lx96) (t0_5 := lx97) (t0_6 := lx98) (t0_7 := lx99) (t0_8 := lx100) (t0_9 := lx101) (t0_10 := lx102) (t1_0 := t1_0) (t2_0 := lx103) (t3_0 := lx104) h100 hZ1 hZ2 hs (by omega) hr hrv hr0 hg hL h0 ⟨by omega, by omega⟩
    rw [F_DR_nextRoot_L107.eq_2]
    generalize F_DR_takesRoot lx91 lx92 lx93 lx94 lx95 lx96 lx97 lx98 lx99 lx100 lx101 lx102 t1_0 lx103 lx104 = p at hq hv ⊢
    obtain ⟨-, q2, q8, q3, -, q5⟩ := hq
    unfold F_DR_nextRoot_c110
    rcases hv with ⟨c, lt⟩ | ⟨c, le, ev⟩
    · rw [if_pos c]
      rcases Nat.eq_zero_or_pos d with rfl | dp
      · exfalso
        have l0 := u_nn hg
        rw [hL] at l0
        have : (20 * r + ((0 : Nat) : Int)) * ((0 : Nat) : Int) = 0 := Int.mul_zero _
        omega
      · obtain ⟨e, rfl⟩ : ∃ e, d = e + 1 := ⟨d - 1, by omega⟩
        have b1 : e ≤ 9 := by omega
        have b2 : e < n := by omega
        have e1 : (lx91 + (-1) : Int32).toInt = (e : Int) := by
          rw [q_addI (y := -1) h0 (by decide) (by omega) (by omega)]
          omega
        refine ih _ _ _ _ _ _ _ _ _ _ _ _ _ _ e e1 b1 b2 q2 (by rw [q8]; exact h100) (by rw [q5 c]; exact hg) (by rw [q5 c]; exact hL) (Or.inr ?_)
        have e2 : (20 * r + (e : Int) + 1) * ((e : Int) + 1) = (20 * r + ((e + 1 : Nat) : Int)) * ((e + 1 : Nat) : Int) := by
          rw [show ((e + 1 : Nat) : Int) = (e : Int) + 1 by omega, Int.add_assoc]
        rw [e2]
        exact lt
    · rw [if_neg (show ¬ p.1 = 0 by rw [c]; decide)]
      refine ⟨(d : Int), by omega, by omega, ?_, le, ?_, ?_⟩
      · show uV (upd t1_0 p.2.2.2.1.toNatClampNeg lx91) (s + 1) = _
        rw [q2, sx]
        show uV (upd t1_0 s lx91) s * 10 + (upd t1_0 s lx91 s).toInt = _
        rw [u_updge (Nat.le_refl _), hrv]
        unfold upd
        rw [if_pos rfl, h0]
        omega
      · omega
      · show uV p.2.2.2.2.2.2.2.2.2.2.2.2.2 p.2.2.2.2.2.2.2.2.2.1.toNatClampNeg = _
        rw [q8, zx]
        exact ev
theorem V_nrE {s Z z : Nat} {r L x y : Int} {x2 x3 : Int32} {f t3 : Nat → Int32} (hz : z ≤ Z) (h0 : ∀ i, i < z → t3 i = 0) (hf : ∀ i, i < Z - z → f i = t3 (i + z)) (hg : gO t3 Z) (hL : uV t3 Z = L) (hx : x2.toInt = x) (hy : x3.toInt = y) (hx9 : 0 ≤ x ∧ x ≤ 9) (hy9 : 0 ≤ y ∧ y ≤ 9) : gO (upd (upd f (Z - z) x2) (Z - z + 1) x3) (Z - z + 2) ∧ uV (upd (upd f (Z - z) x2) (Z - z + 1) x3) (Z - z + 2) = L * 100 + 10 * x + y := by
  have e1 : uV f (Z - z) = L := by
    rw [u_ext hf, ← u_drop h0, show z + (Z - z) = Z by omega, hL]
  obtain ⟨m, hm⟩ : ∃ m, Z - z = m := ⟨_, rfl⟩
  rw [hm] at hf e1 ⊢
  constructor
  · intro i hi
    unfold upd
    by_cases c1 : i = m + 1
    · rw [if_pos c1]
      omega
    · rw [if_neg c1]
      by_cases c2 : i = m
      · rw [if_pos c2]
        omega
      · rw [if_neg c2, hf i (by omega)]
        by_cases c3 : i + z < Z
        · exact hg _ c3
        · exfalso
          omega
  · show (uV (upd (upd f m x2) (m + 1) x3) m * 10 + (upd (upd f m x2) (m + 1) x3 m).toInt) * 10 + (upd (upd f m x2) (m + 1) x3 (m + 1)).toInt = _
    rw [u_updge (by omega), u_updge (Nat.le_refl _), e1]
    have e2 : upd (upd f m x2) (m + 1) x3 (m + 1) = x3 := if_pos rfl
    have e3 : upd (upd f m x2) (m + 1) x3 m = x2 := by
      unfold upd
      rw [if_neg (by omega), if_pos rfl]
    rw [e2, e3, hx, hy]
    omega
theorem V_nr2 {K_F_DR_nextRoot_L2 : Int32 → (Int32 × Int32 × Int32 × Int64 × Int32 × Int32 × Int32 × Int32 × Int32 × Int32 × Int32 × (Nat → Int32) × (Nat → Int32) × (Nat → Int32))} {x2 : Int32} {x3 : Int32} {t0_0 : Int32} {t0_1 : Int32} {t0_2 : Int32} {t0_3 : Int64} {t0_4 : Int32} {t0_5 : Int32} {t0_6 : Int32} {t0_7 : Int32} {t0_8 : Int32} {t0_9 : Int32} {t0_10 : Int32} {t1_0 : (Nat → Int32)} {t2_0 : (Nat → Int32)} {t3_0 : (Nat → Int32)} {lx27 : Int32} {s Z z : Nat} {r L x y : Int} (hs : t0_2.toInt = (s : Int)) (hs2 : s ≤ 1000) (hr : gO t1_0 s) (hrv : uV t1_0 s = r) (hr0 : s = 0 ∨ t1_0 0 ≠ 0) (hZ : t0_8.toInt = (Z : Int)) (hZ2 : Z ≤ 2198) (h27 : lx27.toInt = (z : Int)) (hz : z ≤ Z) (h0 : ∀ i, i < z → t3_0 i = 0) (hg : gO t3_0 Z) (hL : uV t3_0 Z = L) (hx : x2.toInt = x) (hy : x3.toInt = y) (hx9 : 0 ≤ x ∧ x ≤ 9) (hy9 : 0 ≤ y ∧ y ≤ 9) : ∀ (n : Nat) (lx47 : Int32) (lx48 : (Nat → Int32)), ∀ k : Nat, lx47.toInt = (k : Int) → k + z ≤ Z → Z < n + k → (∀ i, i < k → lx48 i = t3_0 (i + z)) → (∀ i, k ≤ i → lx48 i = t3_0 i) → QV_nr s r (L * 100 + 10 * x + y) (F_DR_nextRoot_L28 K_F_DR_nextRoot_L2 x2 x3 t0_0 t0_1 t0_2 t0_3 t0_4 t0_5 t0_6 t0_7 t0_8 t0_9 t0_10 t1_0 t2_0 t3_0 lx27 n lx47 lx48).2.2.2.2.2.2.2.2.1 (F_DR_nextRoot_L28 K_F_DR_nextRoot_L2 x2 x3 t0_0 t0_1 t0_2 t0_3 t0_4 t0_5 t0_6 t0_7 t0_8 t0_9 t0_10 t1_0 t2_0 t3_0 lx27 n lx47 lx48).2.2.2.2.2.2.2.2.2.2.2.1 (F_DR_nextRoot_L28 K_F_DR_nextRoot_L2 x2 x3 t0_0 t0_1 t0_2 t0_3 t0_4 t0_5 t0_6 t0_7 t0_8 t0_9 t0_10 t1_0 t2_0 t3_0 lx27 n lx47 lx48).2.2.2.2.2.2.2.2.2.2.2.2.2 := by
  intro n
  induction n with
  | zero =>
    intro lx47 lx48 k h1 h2 h3
    omega
  | succ n ih =>
    intro lx47 lx48 k h1 h2 h3 h4 h5
    have e1 : (lx47 + lx27 : Int32).toInt = (k : Int) + (z : Int) := q_addI h1 h27 (by omega) (by omega)
    have kc := q_clI h1 (by omega)
    have kx : lx47.toNatClampNeg = k := by omega
    rw [F_DR_nextRoot_L28.eq_2]
    by_cases g1 : t0_8 ≤ (lx47 + lx27 : Int32)
    · rw [if_pos g1]
      have g2 := q_leI g1
      obtain rfl : k = Z - z := by omega
      have a1 : (t0_8 - lx27 : Int32).toInt = ((Z - z : Nat) : Int) := by
        rw [q_subI hZ h27 (by omega) (by omega)]
        omega
      have a2 : (t0_8 - lx27 + 1 : Int32).toInt = ((Z - z + 1 : Nat) : Int) := by
        rw [q_addI (y := 1) a1 (by decide) (by omega) (by omega)]
        omega
      have a3 : (t0_8 - lx27 + 2 : Int32).toInt = ((Z - z + 2 : Nat) : Int) := by
        rw [q_addI (y := 2) a1 (by decide) (by omega) (by omega)]
        omega
      have c1 := q_clI a1 (by omega)
      have c2 := q_clI a2 (by omega)
      rw [show (t0_8 - lx27 : Int32).toNatClampNeg = Z - z by omega, show (t0_8 - lx27 + 1 : Int32).toNatClampNeg = Z - z + 1 by omega]
      obtain ⟨g3, g4⟩ := V_nrE (s := s) (r := r) (x2 := x2) (x3 := x3) hz h0 h4 hg hL hx hy hx9 hy9
      exact V_nr3 hs hs2 hr hrv hr0 (by omega) (by omega) _ 9 t0_0 t0_1 t0_2 t0_3 t0_4 t0_5 t0_6 t0_7 _ t0_9 t0_10 t2_0 _ 9 rfl (by omega) (by omega) rfl a3 g3 g4 (Or.inl rfl)
    · rw [if_neg g1]
      have g2 := q_nleI g1
      have e2 : (lx47 + 1 : Int32).toInt = ((k + 1 : Nat) : Int) := by
        rw [q_addI (y := 1) h1 (by decide) (by omega) (by omega)]
        omega
      have c1 := q_clI e1 (by omega)
      rw [kx, show (lx47 + lx27 : Int32).toNatClampNeg = k + z by omega]
      refine ih _ _ (k + 1) e2 (by omega) (by omega) ?_ ?_
      · intro i hi
        unfold upd
        by_cases c : i = k
        · rw [if_pos c, c]
          exact h5 _ (by omega)
        · rw [if_neg c]
          exact h4 i (by omega)
      · intro i hi
        unfold upd
        rw [if_neg (by omega)]
        exact h5 i (by omega)
theorem V_nr1 {x2 : Int32} {x3 : Int32} {t0_0 : Int32} {t0_1 : Int32} {t0_2 : Int32} {t0_3 : Int64} {t0_4 : Int32} {t0_5 : Int32} {t0_6 : Int32} {t0_7 : Int32} {t0_8 : Int32} {t0_9 : Int32} {t0_10 : Int32} {t1_0 : (Nat → Int32)} {t2_0 : (Nat → Int32)} {t3_0 : (Nat → Int32)} {s Z : Nat} {r L x y : Int} (hs : t0_2.toInt = (s : Int)) (hs2 : s ≤ 1000) (hr : gO t1_0 s) (hrv : uV t1_0 s = r) (hr0 : s = 0 ∨ t1_0 0 ≠ 0) (hZ : t0_8.toInt = (Z : Int)) (hZ2 : Z ≤ 2198) (hg : gO t3_0 Z) (hL : uV t3_0 Z = L) (hx : x2.toInt = x) (hy : x3.toInt = y) (hx9 : 0 ≤ x ∧ x ≤ 9) (hy9 : 0 ≤ y ∧ y ≤ 9) : ∀ (n : Nat) (lx27 : Int32), ∀ k : Nat, lx27.toInt = (k : Int) → k ≤ Z → Z < n + k → (∀ i, i < k → t3_0 i = 0) → QV_nr s r (L * 100 + 10 * x + y) (F_DR_nextRoot_L2 x2 x3 t0_0 t0_1 t0_2 t0_3 t0_4 t0_5 t0_6 t0_7 t0_8 t0_9 t0_10 t1_0 t2_0 t3_0 n lx27).2.2.2.2.2.2.2.2.1 (F_DR_nextRoot_L2 x2 x3 t0_0 t0_1 t0_2 t0_3 t0_4 t0_5 t0_6 t0_7 t0_8 t0_9 t0_10 t1_0 t2_0 t3_0 n lx27).2.2.2.2.2.2.2.2.2.2.2.1 (F_DR_nextRoot_L2 x2 x3 t0_0 t0_1 t0_2 t0_3 t0_4 t0_5 t0_6 t0_7 t0_8 t0_9 t0_10 t1_0 t2_0 t3_0 n lx27).2.2.2.2.2.2.2.2.2.2.2.2.2 := by
  intro n
  induction n with
  | zero =>
    intro lx27 k h1 h2 h3
    omega
  | succ n ih =>
    intro lx27 k h1 h2 h3 h4
    have kc := q_clI h1 (by omega)
    have kx : lx27.toNatClampNeg = k := by omega
    have fin : ∀ KK, QV_nr s r (L * 100 + 10 * x + y) (F_DR_nextRoot_J25 KK x2 x3 t0_0 t0_1 t0_2 t0_3 t0_4 t0_5 t0_6 t0_7 t0_8 t0_9 t0_10 t1_0 t2_0 t3_0 lx27).2.2.2.2.2.2.2.2.1 (F_DR_nextRoot_J25 KK x2 x3 t0_0 t0_1 t0_2 t0_3 t0_4 t0_5 t0_6 t0_7 t0_8 t0_9 t0_10 t1_0 t2_0 t3_0 lx27).2.2.2.2.2.2.2.2.2.2.2.1 (F_DR_nextRoot_J25 KK x2 x3 t0_0 t0_1 t0_2 t0_3 t0_4 t0_5 t0_6 t0_7 t0_8 t0_9 t0_10 t1_0 t2_0 t3_0 lx27).2.2.2.2.2.2.2.2.2.2.2.2.2 := fun KK => by
      unfold F_DR_nextRoot_J25
      exact V_nr2 hs hs2 hr hrv hr0 hZ hZ2 h1 h2 h4 hg hL hx hy hx9 hy9 _ 0 t3_0 0 rfl (by omega) (by have : (0 : Int32).toInt = 0 := rfl; omega) (fun i hi => by omega) (fun i _ => rfl)
    rw [F_DR_nextRoot_L2.eq_2]
    by_cases g1 : t0_8 ≤ lx27
    · rw [if_pos g1]
      exact fin _
    · rw [if_neg g1]
      have g2 := q_nleI g1
      by_cases g3 : t3_0 lx27.toNatClampNeg = 0
      · rw [if_pos g3]
        rw [kx] at g3
        refine ih _ (k + 1) ?_ (by omega) (by omega) ?_
        · rw [q_addI (y := 1) h1 (by decide) (by omega) (by omega)]
          omega
        · intro i hi
          by_cases c : i = k
          · rw [c]
            exact g3
          · exact h4 i (by omega)
      · rw [if_neg g3]
        exact fin _
/-- the root's next figure, and what is left: r * r + L = P with L at most 2 r -/
theorem V_nextRoot {x2 : Int32} {x3 : Int32} {t0_0 : Int32} {t0_1 : Int32} {t0_2 : Int32} {t0_3 : Int64} {t0_4 : Int32} {t0_5 : Int32} {t0_6 : Int32} {t0_7 : Int32} {t0_8 : Int32} {t0_9 : Int32} {t0_10 : Int32} {t1_0 : (Nat → Int32)} {t2_0 : (Nat → Int32)} {t3_0 : (Nat → Int32)} {s Z : Nat} {r L P x y : Int} (hs : t0_2.toInt = (s : Int)) (hs2 : s ≤ 1000) (hr : gO t1_0 s) (hrv : uV t1_0 s = r) (hr0 : s = 0 ∨ t1_0 0 ≠ 0) (hZ : t0_8.toInt = (Z : Int)) (hZ2 : Z ≤ 2198) (hg : gO t3_0 Z) (hL : uV t3_0 Z = L) (hP : r * r + L = P) (hL2 : L ≤ 2 * r) (hx : x2.toInt = x) (hy : x3.toInt = y) (hx9 : 0 ≤ x ∧ x ≤ 9) (hy9 : 0 ≤ y ∧ y ≤ 9) : ∃ r2 L2 : Int, uV (F_DR_nextRoot x2 x3 t0_0 t0_1 t0_2 t0_3 t0_4 t0_5 t0_6 t0_7 t0_8 t0_9 t0_10 t1_0 t2_0 t3_0).2.2.2.2.2.2.2.2.2.2.2.1 (s + 1) = r2 ∧ uV (F_DR_nextRoot x2 x3 t0_0 t0_1 t0_2 t0_3 t0_4 t0_5 t0_6 t0_7 t0_8 t0_9 t0_10 t1_0 t2_0 t3_0).2.2.2.2.2.2.2.2.2.2.2.2.2 (F_DR_nextRoot x2 x3 t0_0 t0_1 t0_2 t0_3 t0_4 t0_5 t0_6 t0_7 t0_8 t0_9 t0_10 t1_0 t2_0 t3_0).2.2.2.2.2.2.2.2.1.toNatClampNeg = L2 ∧ r2 * r2 + L2 = P * 100 + 10 * x + y ∧ L2 ≤ 2 * r2 ∧ r2 / 10 = r := by
  have h := V_nr1 hs hs2 hr hrv hr0 hZ hZ2 hg hL hx hy hx9 hy9 (((4100 - (0 : Int32).toInt).toNat + 1)) 0 0 rfl (by omega) (by have : (0 : Int32).toInt = 0 := rfl; omega) (fun i hi => by omega) (t0_0 := t0_0) (t0_1 := t0_1) (t0_3 := t0_3) (t0_4 := t0_4) (t0_5 := t0_5) (t0_6 := t0_6) (t0_7 := t0_7) (t0_9 := t0_9) (t0_10 := t0_10) (t2_0 := t2_0)
  unfold F_DR_nextRoot
  generalize F_DR_nextRoot_L2 x2 x3 t0_0 t0_1 t0_2 t0_3 t0_4 t0_5 t0_6 t0_7 t0_8 t0_9 t0_10 t1_0 t2_0 t3_0 ((4100 - (0 : Int32).toInt).toNat + 1) 0 = p at h ⊢
  obtain ⟨d, d0, d9, h1, h2, h3, h4⟩ := h
  refine ⟨10 * r + d, _, h1, h4, by grind, ?_, by omega⟩
  rcases h3 with h3 | h3
  · subst h3
    have : (20 * r + 9) * 9 = 180 * r + 81 := by grind
    omega
  · have : (20 * r + d + 1) * (d + 1) = (20 * r + d) * d + 20 * r + 2 * d + 1 := by grind
    omega
