/-! TextRows: half, twice -/
/-- the value of the first n words -/
def trV (w : Nat → Int32) : Nat → Int
  | 0 => 0
  | n + 1 => trV w n * 100000000 + (w n).toInt
def trO (w : Nat → Int32) : Prop := ∀ i, i < 800 → 0 ≤ (w i).toInt ∧ (w i).toInt < 100000000
theorem trO.upd {w : Nat → Int32} {i : Nat} {x : Int32} (h : trO w) (hx : 0 ≤ x.toInt ∧ x.toInt < 100000000) : trO (upd w i x) := fun j hj => by
  by_cases c : j = i
  · rw [c, v_eq]; exact hx
  · rw [v_ne c]; exact h j hj
theorem trV_cong {f g : Nat → Int32} : ∀ {n : Nat}, (∀ i, i < n → f i = g i) → trV f n = trV g n
  | 0, _ => rfl
  | n + 1, h => by
    show trV f n * 100000000 + (f n).toInt = trV g n * 100000000 + (g n).toInt
    rw [trV_cong (fun i hi => h i (by omega)), h n (Nat.lt_succ_self n)]
theorem trV_0 {f : Nat → Int32} : ∀ {n : Nat}, (∀ i, i < n → f i = 0) → trV f n = 0
  | 0, _ => rfl
  | n + 1, h => by
    show trV f n * 100000000 + (f n).toInt = 0
    rw [trV_0 (fun i hi => h i (by omega)), h n (Nat.lt_succ_self n)]
    rfl
theorem trV_nn {f : Nat → Int32} (h : trO f) : ∀ {n : Nat}, n ≤ 800 → 0 ≤ trV f n
  | 0, _ => Int.le_refl 0
  | n + 1, hn => by
    have a := trV_nn h (show n ≤ 800 by omega)
    have b := (h n (by omega)).1
    show 0 ≤ trV f n * 100000000 + (f n).toInt
    omega
theorem trV_ge {f : Nat → Int32} (h : trO f) {i : Nat} : ∀ {n : Nat}, n ≤ 800 → i < n → (f i).toInt ≠ 0 → 1 ≤ trV f n
  | 0, _, hi, _ => by omega
  | n + 1, hn, hi, hz => by
    have b := h n (by omega)
    show 1 ≤ trV f n * 100000000 + (f n).toInt
    by_cases c : i = n
    · have a := trV_nn h (show n ≤ 800 by omega)
      rw [c] at hz
      omega
    · have a := trV_ge h (show n ≤ 800 by omega) (show i < n by omega) hz
      omega
/-- halving, at word k with the carry c: f as it was -/
def trH (f g : Nat → Int32) (k : Nat) (c : Int) : Prop := trO g ∧ (∀ i, k ≤ i → g i = f i) ∧ (0 ≤ c ∧ c ≤ 1) ∧ (k ≤ 55 → 2 * trV g k + c = trV f k) ∧ (55 ≤ k → 2 * trV g 55 ≤ trV f 55) ∧ (∀ j, j + 1 = k → c = 0 ∨ ∃ d : Int, (0 ≤ d ∧ d ≤ 1) ∧ 2 * (g j).toInt + c = (f j).toInt + d * 100000000) ∧ (∀ j, j + 1 = k → ∃ d : Int, (0 ≤ d ∧ d ≤ 1) ∧ 2 * (g j).toInt + c = (f j).toInt + d * 100000000)
theorem trH.step {f g : Nat → Int32} {k : Nat} {c c1 : Int} {x : Int32} (hk : k < 800) (h : trH f g k c) (hx : 2 * x.toInt + c1 = (g k).toInt + c * 100000000) (h0 : 0 ≤ x.toInt ∧ x.toInt < 100000000) (h1 : 0 ≤ c1 ∧ c1 ≤ 1) : trH f (upd g k x) (k + 1) c1 := by
  obtain ⟨a, b, d, e, m, -, -⟩ := h
  have eg := b k (Nat.le_refl k)
  have ew : ∀ n, n ≤ k → trV (upd g k x) n = trV g n := fun n hn => trV_cong (fun i hi => v_ne (by omega))
  have st : trV (upd g k x) (k + 1) = trV g k * 100000000 + x.toInt := by
    show trV (upd g k x) k * 100000000 + (upd g k x k).toInt = _
    rw [ew k (Nat.le_refl k), v_eq]
  have sf : trV f (k + 1) = trV f k * 100000000 + (f k).toInt := rfl
  have last : ∀ j, j + 1 = k + 1 → ∃ d : Int, (0 ≤ d ∧ d ≤ 1) ∧ 2 * (upd g k x j).toInt + c1 = (f j).toInt + d * 100000000 := fun j hj => by
    rw [show j = k by omega, v_eq, ← eg]
    exact ⟨c, d, hx⟩
  rw [eg] at hx
  refine ⟨a.upd h0, fun i hi => by rw [v_ne (by omega)]; exact b i (by omega), h1, fun hk5 => ?_, fun hk5 => ?_, fun j hj => Or.inr (last j hj), last⟩
  · have q := e (by omega)
    rw [st, sf]; omega
  · by_cases k5 : k = 54
    · subst k5
      have q := e (by omega)
      have s1 : trV (upd g 54 x) 55 = trV g 54 * 100000000 + x.toInt := st
      have s2 : trV f 55 = trV f 54 * 100000000 + (f 54).toInt := rfl
      rw [s1, s2]; omega
    · rw [ew 55 (by omega)]
      exact m (by omega)
theorem tr_hv {g c : Int32} (hg : 0 ≤ g.toInt ∧ g.toInt < 100000000) (hc : 0 ≤ c.toInt ∧ c.toInt ≤ 1) : 2 * ((g + c * 100000000) / 2 : Int32).toInt + ((g + c * 100000000) - (g + c * 100000000) / 2 * 2 : Int32).toInt = g.toInt + c.toInt * 100000000 ∧ (0 ≤ ((g + c * 100000000) / 2 : Int32).toInt ∧ ((g + c * 100000000) / 2 : Int32).toInt < 100000000) ∧ 0 ≤ ((g + c * 100000000) - (g + c * 100000000) / 2 * 2 : Int32).toInt ∧ ((g + c * 100000000) - (g + c * 100000000) / 2 * 2 : Int32).toInt ≤ 1 := by
  have e1 : (c * 100000000 : Int32).toInt = c.toInt * 100000000 := q_mulI (y := 100000000) rfl (by decide) (by omega) (by omega)
  have e2 : (g + c * 100000000 : Int32).toInt = g.toInt + c.toInt * 100000000 := q_addI rfl e1 (by omega) (by omega)
  generalize (g + c * 100000000 : Int32) = v at e2 ⊢
  have e3 : (v / 2 : Int32).toInt = v.toInt / 2 := q_divI rfl (by decide) (by omega) (by decide)
  have e4 := s_rem (x := v) (b := 2) (by omega) (by decide)
  have e5 : (2 : Int32).toInt = 2 := rfl
  rw [e5] at e4
  rw [e3, e4]
  clear e1
  omega
theorem trH.go {f g : Nat → Int32} {i j c : Int32} (h0 : 0 ≤ i.toInt ∧ i.toInt < 800) (h : trH f g i.toNatClampNeg c.toInt) (e : j.toInt = i.toInt + 1) : trH f (upd g i.toNatClampNeg ((g i.toNatClampNeg + c * 100000000) / 2)) j.toNatClampNeg ((g i.toNatClampNeg + c * 100000000) - (g i.toNatClampNeg + c * 100000000) / 2 * 2 : Int32).toInt := by
  have a := q_clI (i := i) rfl h0.1
  have b := q_clI (i := j) rfl (by omega)
  have z := tr_hv (h.1 i.toNatClampNeg (by omega)) h.2.2.1
  rw [show j.toNatClampNeg = i.toNatClampNeg + 1 by omega]
  exact h.step (by omega) z.1 z.2.1 z.2.2
def Q_TR_half (t0_1 t0_4 t0_9 : Int32) (t0_11 : Int64) (t0_13 : Int32) (t1_0 : Nat → Int32) (p : Int32 × Int32 × Int32 × Int32 × Int32 × Int32 × Int32 × Int64 × Int32 × Int32 × Int64 × Int64 × Int32 × Int32 × (Nat → Int32)) : Prop := p.2.1 = t0_1 ∧ p.2.2.2.2.1 = t0_4 ∧ p.2.2.2.2.2.2.2.2.2.2.2.1 = t0_11 ∧ p.2.2.2.2.2.2.2.2.2.2.2.2.2.1 = t0_13 ∧ (0 ≤ p.2.2.2.2.2.2.2.2.1.toInt ∧ p.2.2.2.2.2.2.2.2.1.toInt ≤ 54) ∧ trO p.2.2.2.2.2.2.2.2.2.2.2.2.2.2 ∧ (∀ i : Nat, (i : Int) < p.2.2.2.2.2.2.2.2.1.toInt → p.2.2.2.2.2.2.2.2.2.2.2.2.2.2 i = 0) ∧ (p.2.2.2.2.2.2.2.2.1.toInt = 54 ∨ (p.2.2.2.2.2.2.2.2.2.2.2.2.2.2 p.2.2.2.2.2.2.2.2.1.toNatClampNeg).toInt ≠ 0) ∧ 2 * trV p.2.2.2.2.2.2.2.2.2.2.2.2.2.2 55 ≤ trV t1_0 55 ∧ ((p.2.2.2.2.2.2.2.2.2.1 = t0_9 ∧ ∃ d : Int, (0 ≤ d ∧ d ≤ 1) ∧ 2 * (p.2.2.2.2.2.2.2.2.2.2.2.2.2.2 t0_9.toNatClampNeg).toInt = (t1_0 t0_9.toNatClampNeg).toInt + d * 100000000) ∨ (p.2.2.2.2.2.2.2.2.2.1.toInt = t0_9.toInt + 1 ∧ (t1_0 t0_9.toNatClampNeg).toInt % 2 = 1 ∧ (p.2.2.2.2.2.2.2.2.2.2.2.2.2.2 p.2.2.2.2.2.2.2.2.2.1.toNatClampNeg).toInt = 50000000))
def trZ (f g : Nat → Int32) (to to1 : Int32) : Prop := trO g ∧ 2 * trV g 55 ≤ trV f 55 ∧ ((to1 = to ∧ ∃ d : Int, (0 ≤ d ∧ d ≤ 1) ∧ 2 * (g to.toNatClampNeg).toInt = (f to.toNatClampNeg).toInt + d * 100000000) ∨ (to1.toInt = to.toInt + 1 ∧ (f to.toNatClampNeg).toInt % 2 = 1 ∧ (g to1.toNatClampNeg).toInt = 50000000))
theorem trZ.a {f g : Nat → Int32} {to k c : Int32} (h9 : 54 ≤ to.toInt ∧ to.toInt ≤ 799) (ek : k.toInt = to.toInt + 1) (h : trH f g k.toNatClampNeg c.toInt) (hc : c.toInt ≤ 0) : trZ f g to to := by
  obtain ⟨a, b, d, e, m, -, l⟩ := h
  have k1 := q_clI (i := k) rfl (by omega)
  have k2 := q_clI (i := to) rfl (by omega)
  obtain ⟨x, x1, x2⟩ := l to.toNatClampNeg (by omega)
  exact ⟨a, m (by omega), Or.inl ⟨rfl, x, x1, by omega⟩⟩
theorem trZ.b {f g : Nat → Int32} {to to1 k c : Int32} (h9 : 54 ≤ to.toInt ∧ to.toInt ≤ 799) (ek : k.toInt = to.toInt + 1) (e1 : to1.toInt = to.toInt + 1) (h : trH f g k.toNatClampNeg c.toInt) (hc : 0 < c.toInt) : trZ f (upd g to1.toNatClampNeg 50000000) to to1 := by
  obtain ⟨a, b, d, e, m, -, l⟩ := h
  have k1 := q_clI (i := k) rfl (by omega)
  have k2 := q_clI (i := to) rfl (by omega)
  have k3 := q_clI (i := to1) rfl (by omega)
  obtain ⟨x, x1, x2⟩ := l to.toNatClampNeg (by omega)
  refine ⟨a.upd (by decide), ?_, Or.inr ⟨e1, by omega, by rw [v_eq]; rfl⟩⟩
  rw [trV_cong (g := g) (fun i hi => v_ne (by omega))]
  exact m (by omega)
theorem trZ.odd {f g : Nat → Int32} {to k c : Int32} (h9 : 54 ≤ to.toInt ∧ to.toInt ≤ 799) (ek : k.toInt = to.toInt + 1) (h : trH f g k.toNatClampNeg c.toInt) (hc : 0 < c.toInt) : (f to.toNatClampNeg).toInt % 2 = 1 := by
  obtain ⟨a, b, d, e, m, -, l⟩ := h
  have k1 := q_clI (i := k) rfl (by omega)
  have k2 := q_clI (i := to) rfl (by omega)
  obtain ⟨x, x1, x2⟩ := l to.toNatClampNeg (by omega)
  omega
theorem vt_h2 {K_F_TR_half_L7 : Int32 → Int32 → (Nat → Int32) → (Int32 × Int32 × Int32 × Int32 × Int32 × Int32 × Int32 × Int64 × Int32 × Int32 × Int64 × Int64 × Int32 × Int32 × (Nat → Int32))} {t0_0 : Int32} {t0_1 : Int32} {t0_2 : Int32} {t0_3 : Int32} {t0_4 : Int32} {t0_5 : Int32} {t0_6 : Int32} {t0_7 : Int64} {t0_8 : Int32} {t0_9 : Int32} {t0_10 : Int64} {t0_11 : Int64} {t0_12 : Int32} {t0_13 : Int32} {t1_0 : (Nat → Int32)} {lx24 : Int32} {lx25 : Int32} {lx26 : (Nat → Int32)} {lx39 : Int32} {lx40 : (Nat → Int32)} {K_S_TR_half_L7 : Int32 → Int32 → (Nat → Int32) → Prop} (h8 : 0 ≤ t0_8.toInt ∧ t0_8.toInt ≤ 54) (h9 : 54 ≤ t0_9.toInt ∧ t0_9.toInt ≤ 799) (ho : trO t1_0) (hz : ∀ i : Nat, (i : Int) < t0_8.toInt → t1_0 i = 0) (hd : t0_9.toInt = 799 → (t1_0 t0_9.toNatClampNeg).toInt % 2 = 0)(hZ : trZ t1_0 lx40 t0_9 lx39) : ∀ (n : Nat) (lx53 : Int32), (t0_8.toInt ≤ lx53.toInt ∧ lx53.toInt ≤ 54) → (54 - lx53.toInt < (n : Int)) → (∀ i : Nat, (i : Int) < lx53.toInt → lx40 i = 0) → (S_TR_half_L71 K_S_TR_half_L7 t0_0 t0_1 t0_2 t0_3 t0_4 t0_5 t0_6 t0_7 t0_8 t0_9 t0_10 t0_11 t0_12 t0_13 t1_0 lx24 lx25 lx26 lx39 lx40 n lx53) ∧ Q_TR_half t0_1 t0_4 t0_9 t0_11 t0_13 t1_0 (F_TR_half_L71 K_F_TR_half_L7 t0_0 t0_1 t0_2 t0_3 t0_4 t0_5 t0_6 t0_7 t0_8 t0_9 t0_10 t0_11 t0_12 t0_13 t1_0 lx24 lx25 lx26 lx39 lx40 n lx53) := by
  intro n
  induction n with
  | zero => intro lx53 h0 hm hw; exact absurd (show False by omega) id
  | succ n ih =>
    intro lx53 h0 hm hw
    have e0 : (0 : Int32).toInt = 0 := rfl
    have e1 : (1 : Int32).toInt = 1 := rfl
    have eL0 : (0 : Int64).toInt = 0 := rfl
    have e53 := q_clI (i := lx53) rfl (by omega)
    rw [S_TR_half_L71.eq_2, F_TR_half_L71.eq_2]
    by_cases g1 : (54 : Int32) ≤ lx53
    ·
      rw [if_pos g1, if_pos g1]
      have g1i : 54 ≤ lx53.toInt := q_leI g1
      refine ⟨trivial, ?_⟩
      (unfold Q_TR_half; dsimp only; exact ⟨rfl, rfl, rfl, rfl, ⟨by omega, by omega⟩, hZ.1, hw, Or.inl (by omega), hZ.2.1, hZ.2.2⟩)
    ·
      rw [if_neg g1, if_neg g1]
      have g1i : lx53.toInt < 54 := q_nleI g1
      refine v_cons (by first | omega | decide) ?_
      by_cases g2 : (lx40 lx53.toNatClampNeg : Int32) = (0 : Int32)
      ·
        rw [if_pos g2, if_pos g2]
        obtain ⟨a3, e4⟩ := q_nm (lx53 + 1 : Int32)
        rw [e4]
        have a3i : a3.toInt = lx53.toInt + 1 := by rw [← e4]; exact q_addI (x := lx53.toInt) (y := 1) rfl (by decide) (by omega) (by omega)
        exact ih _ ⟨by omega, by omega⟩ (by omega) (fun i hi => by by_cases c : i = lx53.toNatClampNeg; (rw [c]; exact g2); exact hw i (by omega))
      ·
        rw [if_neg g2, if_neg g2]
        refine ⟨trivial, ?_⟩
        (unfold Q_TR_half; dsimp only; exact ⟨rfl, rfl, rfl, rfl, ⟨by omega, by omega⟩, hZ.1, hw, Or.inr (q_neI g2), hZ.2.1, hZ.2.2⟩)
theorem vt_h1 {t0_0 : Int32} {t0_1 : Int32} {t0_2 : Int32} {t0_3 : Int32} {t0_4 : Int32} {t0_5 : Int32} {t0_6 : Int32} {t0_7 : Int64} {t0_8 : Int32} {t0_9 : Int32} {t0_10 : Int64} {t0_11 : Int64} {t0_12 : Int32} {t0_13 : Int32} {t1_0 : (Nat → Int32)} (h8 : 0 ≤ t0_8.toInt ∧ t0_8.toInt ≤ 54) (h9 : 54 ≤ t0_9.toInt ∧ t0_9.toInt ≤ 799) (ho : trO t1_0) (hz : ∀ i : Nat, (i : Int) < t0_8.toInt → t1_0 i = 0) (hd : t0_9.toInt = 799 → (t1_0 t0_9.toNatClampNeg).toInt % 2 = 0) : ∀ (n : Nat) (lx24 : Int32) (lx25 : Int32) (lx26 : (Nat → Int32)), (t0_8.toInt ≤ lx24.toInt ∧ lx24.toInt ≤ t0_9.toInt + 1) → (4100 - lx24.toInt < (n : Int)) → (trH t1_0 lx26 lx24.toNatClampNeg lx25.toInt) → (∀ i : Nat, (i : Int) < t0_8.toInt → lx26 i = 0) → (S_TR_half_L7 t0_0 t0_1 t0_2 t0_3 t0_4 t0_5 t0_6 t0_7 t0_8 t0_9 t0_10 t0_11 t0_12 t0_13 t1_0 n lx24 lx25 lx26) ∧ Q_TR_half t0_1 t0_4 t0_9 t0_11 t0_13 t1_0 (F_TR_half_L7 t0_0 t0_1 t0_2 t0_3 t0_4 t0_5 t0_6 t0_7 t0_8 t0_9 t0_10 t0_11 t0_12 t0_13 t1_0 n lx24 lx25 lx26) := by
  intro n
  induction n with
  | zero => intro lx24 lx25 lx26 h0 hm hH hg; exact absurd (show False by omega) id
  | succ n ih =>
    intro lx24 lx25 lx26 h0 hm hH hg
    have e0 : (0 : Int32).toInt = 0 := rfl
    have e1 : (1 : Int32).toInt = 1 := rfl
    have eL0 : (0 : Int64).toInt = 0 := rfl
    have hc := hH.2.2.1
    rw [S_TR_half_L7.eq_2, F_TR_half_L7.eq_2]
    obtain ⟨t91, et91⟩ := q_nm (t0_9 + 1 : Int32)
    rw [et91]
    have t91i : t91.toInt = t0_9.toInt + 1 := by rw [← et91]; exact q_addI (y := 1) rfl (by decide) (by omega) (by omega)
    by_cases g1 : t0_9 < lx24
    ·
      rw [if_pos g1, if_pos g1]
      have g1i : t0_9.toInt < lx24.toInt := q_ltI g1
      by_cases g2 : lx25 ≤ (0 : Int32)
      ·
        rw [if_pos g2, if_pos g2]
        have g2i : lx25.toInt ≤ 0 := q_leI g2
        unfold S_TR_half_J71 F_TR_half_J71
        exact vt_h2 h8 h9 ho hz hd (trZ.a h9 (by omega) hH (by omega)) _ _ ⟨by omega, by omega⟩ (by omega) (fun i hi => by exact hg i hi)
      ·
        rw [if_neg g2, if_neg g2]
        have g2i : 0 < lx25.toInt := q_nleI g2
        refine v_cons (by first | omega | (have od := trZ.odd h9 (by omega) hH (by omega); by_cases c : t0_9.toInt = 799; (have := hd c; omega); omega)) ?_
        refine v_cons (by first | omega | (have od := trZ.odd h9 (by omega) hH (by omega); by_cases c : t0_9.toInt = 799; (have := hd c; omega); omega)) ?_
        unfold S_TR_half_J71 F_TR_half_J71
        exact vt_h2 h8 h9 ho hz hd (trZ.b h9 (by omega) (by omega) hH (by omega)) _ _ ⟨by omega, by omega⟩ (by omega) (fun i hi => by rw [v_ne (by have := q_clI (i := t91) rfl (by omega); omega)]; exact hg i hi)
    ·
      rw [if_neg g1, if_neg g1]
      have g1i : lx24.toInt ≤ t0_9.toInt := q_nltI g1
      refine v_cons (by first | omega | decide) ?_
      refine v_cons (by first | omega | decide) ?_
      obtain ⟨a3, e4⟩ := q_nm (lx24 + 1 : Int32)
      rw [e4]
      have a3i : a3.toInt = lx24.toInt + 1 := by rw [← e4]; exact q_addI (x := lx24.toInt) (y := 1) rfl (by decide) (by omega) (by omega)
      have e24 := q_clI (i := lx24) rfl (by omega); exact ih _ _ _ ⟨by omega, by omega⟩ (by omega) (hH.go ⟨by omega, by omega⟩ (by omega)) (fun i hi => by rw [v_ne (by omega)]; exact hg i hi)
theorem T_TR_half {t0_0 : Int32} {t0_1 : Int32} {t0_2 : Int32} {t0_3 : Int32} {t0_4 : Int32} {t0_5 : Int32} {t0_6 : Int32} {t0_7 : Int64} {t0_8 : Int32} {t0_9 : Int32} {t0_10 : Int64} {t0_11 : Int64} {t0_12 : Int32} {t0_13 : Int32} {t1_0 : (Nat → Int32)} (h8 : 0 ≤ t0_8.toInt ∧ t0_8.toInt ≤ 54) (h9 : 54 ≤ t0_9.toInt ∧ t0_9.toInt ≤ 799) (ho : trO t1_0) (hz : ∀ i : Nat, (i : Int) < t0_8.toInt → t1_0 i = 0) (hd : t0_9.toInt = 799 → (t1_0 t0_9.toNatClampNeg).toInt % 2 = 0) : (S_TR_half t0_0 t0_1 t0_2 t0_3 t0_4 t0_5 t0_6 t0_7 t0_8 t0_9 t0_10 t0_11 t0_12 t0_13 t1_0) ∧ Q_TR_half t0_1 t0_4 t0_9 t0_11 t0_13 t1_0 (F_TR_half t0_0 t0_1 t0_2 t0_3 t0_4 t0_5 t0_6 t0_7 t0_8 t0_9 t0_10 t0_11 t0_12 t0_13 t1_0) := by
  have e0 : (0 : Int32).toInt = 0 := rfl
  have e1 : (1 : Int32).toInt = 1 := rfl
  have eL0 : (0 : Int64).toInt = 0 := rfl
  unfold S_TR_half F_TR_half
  have e8 := q_clI (i := t0_8) rfl h8.1; exact vt_h1 h8 h9 ho hz hd _ _ _ _ ⟨by omega, by omega⟩ (by omega) ⟨ho, fun i hi => rfl, by decide, fun _ => by rw [trV_0 (fun i hi => hz i (by omega))]; rfl, fun h => by omega, fun j hj => Or.inl rfl, fun j hj => ⟨0, by decide, by rw [hz j (by omega)]; rfl⟩⟩ hz
