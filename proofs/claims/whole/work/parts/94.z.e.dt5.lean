/-! DecimalRows: figure, add, times, multiply, power -/
theorem g_dec {a : Int32} (h : 0 ≤ a.toInt) : (a + (-1) : Int32).toInt = a.toInt + (-1) := q_addI (y := -1) rfl (by decide) (by omega) (by have := Int32.toInt_lt a; omega)
theorem g_dec1 {a b : Int32} (h : 0 ≤ a.toInt) (h2 : a.toInt < b.toInt) : -1 ≤ (a + (-1) : Int32).toInt ∧ (a + (-1) : Int32).toInt < b.toInt := by rw [g_dec h]; omega
theorem g_dec2 {a : Int32} {n : Nat} (h : 0 ≤ a.toInt) (h2 : a.toInt + 1 < ((n + 1 : Nat) : Int)) : (a + (-1) : Int32).toInt + 1 < (n : Int) := by rw [g_dec h]; omega
theorem g_dec3 {a : Int32} {t : Nat} (h : 0 ≤ a.toInt) (h2 : (t : Int) ≤ (a + (-1) : Int32).toInt) : (t : Int) < a.toInt := by rw [g_dec h] at h2; omega
theorem g_sub1 {m : Int32} (h : 1 ≤ m.toInt) (h2 : m.toInt ≤ 1000) : -1 ≤ (m - 1 : Int32).toInt ∧ (m - 1 : Int32).toInt < m.toInt := by
  have e : (m - 1 : Int32).toInt = m.toInt - 1 := q_subI (y := 1) rfl (by decide) (by omega) (by omega)
  omega
theorem g_fu {x : Int} (h : -1 ≤ x) : x + 1 < (((x - (-1)).toNat + 1 : Nat) : Int) := by omega
theorem g_fill {f g : Nat → Int32} {k k1 : Int32} (h1 : k1.toInt = k.toInt + 1) (hk : 0 ≤ k.toInt) (ho : ∀ i : Nat, (i : Int) < k.toInt → f i = g i) : ∀ i : Nat, (i : Int) < k1.toInt → upd f k.toNatClampNeg (g k.toNatClampNeg) i = g i := fun i hi => by
  have e7 := q_clI (i := k) rfl hk
  by_cases c : i = k.toNatClampNeg
  · rw [c, v_eq]
  · rw [v_ne c]; exact ho i (by omega)
theorem g_fill0 {f : Nat → Int32} {k k1 : Int32} (h1 : k1.toInt = k.toInt + 1) (hk : 0 ≤ k.toInt) (ho : ∀ i : Nat, (i : Int) < k.toInt → f i = 0) : ∀ i : Nat, (i : Int) < k1.toInt → upd f k.toNatClampNeg 0 i = 0 := fun i hi => by
  have e7 := q_clI (i := k) rfl hk
  by_cases c : i = k.toNatClampNeg
  · rw [c, v_eq]
  · rw [v_ne c]; exact ho i (by omega)
theorem g_mul9 {b c : Int32} (hb : 0 ≤ b.toInt ∧ b.toInt ≤ 9) (hc : 0 ≤ c.toInt ∧ c.toInt ≤ 9) : 0 ≤ (b * c : Int32).toInt ∧ (b * c : Int32).toInt ≤ 81 := by
  have h1 : 0 ≤ b.toInt * c.toInt := Int.mul_nonneg hb.1 hc.1
  have h2 : b.toInt * c.toInt ≤ 9 * 9 := Int.mul_le_mul hb.2 hc.2 hc.1 (by decide)
  have e : (b * c : Int32).toInt = b.toInt * c.toInt := q_mulI rfl rfl (by omega) (by omega)
  omega
theorem g_tmV {a b c d : Int32} (ha : 0 ≤ a.toInt ∧ a.toInt ≤ 9) (hb : 0 ≤ b.toInt ∧ b.toInt ≤ 9) (hc : 0 ≤ c.toInt ∧ c.toInt ≤ 9) (hd : 0 ≤ d.toInt ∧ d.toInt ≤ 9) : 0 ≤ (a + b * c + d : Int32).toInt ∧ (a + b * c + d : Int32).toInt ≤ 99 := by
  have h := g_mul9 hb hc
  generalize (b * c : Int32) = m at h ⊢
  have e1 : (a + m : Int32).toInt = a.toInt + m.toInt := q_addI rfl rfl (by omega) (by omega)
  have e2 : (a + m + d : Int32).toInt = (a.toInt + m.toInt) + d.toInt := q_addI e1 rfl (by omega) (by omega)
  omega
theorem g_q10 {v : Int32} (h : 0 ≤ v.toInt) : (v / 10).toInt = v.toInt / 10 := q_divI rfl (by decide) h (by decide)
theorem g_tmQ {a b c d : Int32} (ha : 0 ≤ a.toInt ∧ a.toInt ≤ 9) (hb : 0 ≤ b.toInt ∧ b.toInt ≤ 9) (hc : 0 ≤ c.toInt ∧ c.toInt ≤ 9) (hd : 0 ≤ d.toInt ∧ d.toInt ≤ 9) : 0 ≤ ((a + b * c + d) / 10 : Int32).toInt ∧ ((a + b * c + d) / 10 : Int32).toInt ≤ 9 := by
  have h := g_tmV ha hb hc hd
  rw [g_q10 h.1]
  omega
theorem g_m10 {v : Int32} (h : 0 ≤ v.toInt) : 0 ≤ (v - v / 10 * 10 : Int32).toInt ∧ (v - v / 10 * 10 : Int32).toInt ≤ 9 := by
  have h1 := s_rem' (x := v) (b := 10) h (by decide)
  have e : (10 : Int32).toInt = 10 := rfl
  omega
theorem g_at9 {f : Nat → Int32} {n i : Int32} (h : gO f n.toNatClampNeg) (hi : 0 ≤ i.toInt) (hn : i.toInt < n.toInt) : 0 ≤ (f i.toNatClampNeg).toInt ∧ (f i.toNatClampNeg).toInt ≤ 9 := h _ (by have := q_clI (i := n) rfl (by omega); have := q_clI (i := i) rfl hi; omega)
theorem g_last {f : Nat → Int32} {n i c : Int32} (h : gO f n.toNatClampNeg) (hz : ∀ t : Nat, (t : Int) ≤ i.toInt → f t = 0) (hi : 0 ≤ i.toInt) (hc : 0 ≤ c.toInt ∧ c.toInt ≤ 9) : gO (upd f i.toNatClampNeg (f i.toNatClampNeg + c)) n.toNatClampNeg := by
  have e1 := q_clI (i := i) rfl hi
  rw [hz i.toNatClampNeg (by omega)]
  have e2 : (0 + c : Int32).toInt = 0 + c.toInt := q_addI (x := 0) rfl rfl (by omega) (by omega)
  exact gO_upd h (by rw [e2]; omega)
def Q_DR_times (p : Int32 × Int32 × Int32 × Int32 × Int64 × Int32 × Int32 × Int32 × Int32 × Int32 × Int32 × Int32 × (Nat → Int32) × (Nat → Int32)) : Prop := (1 ≤ p.2.2.2.1.toInt ∧ p.2.2.2.1.toInt ≤ 4400) ∧ gO p.2.2.2.2.2.2.2.2.2.2.2.2.1 p.2.2.2.1.toNatClampNeg ∧ (p.1 ≠ 0 → p.2.2.2.1.toInt ≤ 1000)
theorem v_tm4 {K_F_DR_times_L14 : Int32 → (Nat → Int32) → (Int32 × Int32 × Int32 × Int32 × Int64 × Int32 × Int32 × Int32 × Int32 × Int32 × Int32 × Int32 × (Nat → Int32) × (Nat → Int32))} {K_F_DR_times_L39 : Int32 → (Nat → Int32) → (Int32 × Int32 × Int32 × Int32 × Int64 × Int32 × Int32 × Int32 × Int32 × Int32 × Int32 × Int32 × (Nat → Int32) × (Nat → Int32))} {x2 : Int32} {t0_0 : Int32} {t0_1 : Int32} {t0_2 : Int32} {t0_3 : Int64} {t0_4 : Int32} {t0_5 : Int32} {t0_6 : Int32} {t0_7 : Int32} {t0_8 : Int32} {t0_9 : Int32} {t0_10 : Int32} {t1_0 : (Nat → Int32)} {t2_0 : (Nat → Int32)} {t3_0 : (Nat → Int32)} {t4_0 : (Nat → Int32)} {t5_0 : (Nat → Int32)} {t6_0 : (Nat → Int32)} {a39 : Int32} {lx42 : Int32} {lx43 : (Nat → Int32)} {lx65 : Int32} {lx66 : (Nat → Int32)} {K_S_DR_times_L14 : Int32 → (Nat → Int32) → Prop} {K_S_DR_times_L39 : Int32 → (Nat → Int32) → Prop} (hR : gR t1_0 t2_0 t3_0 t4_0) (hx : 0 ≤ x2.toInt ∧ x2.toInt ≤ 9) (h2 : 1 ≤ t0_2.toInt ∧ t0_2.toInt ≤ 1000) (hg : gO t5_0 t0_2.toNatClampNeg) (h39 : a39.toInt = t0_2.toInt + (t2_0 x2.toNatClampNeg).toInt) (h9 : a39.toInt ≤ 2000)(hgt : gO lx66 a39.toNatClampNeg) : ∀ (n : Nat) (lx87 : Int32) (lx88 : (Nat → Int32)), (0 ≤ lx87.toInt ∧ lx87.toInt ≤ a39.toInt) → (12200 - lx87.toInt < (n : Int)) → (∀ i : Nat, (i : Int) < lx87.toInt → lx88 i = lx66 i) → (S_DR_times_L155 K_S_DR_times_L14 K_S_DR_times_L39 x2 t0_0 t0_1 t0_2 t0_3 t0_4 t0_5 t0_6 t0_7 t0_8 t0_9 t0_10 t1_0 t2_0 t3_0 t4_0 t5_0 t6_0 a39 lx42 lx43 lx65 lx66 n lx87 lx88) ∧ Q_DR_times (F_DR_times_L155 K_F_DR_times_L14 K_F_DR_times_L39 x2 t0_0 t0_1 t0_2 t0_3 t0_4 t0_5 t0_6 t0_7 t0_8 t0_9 t0_10 t1_0 t2_0 t3_0 t4_0 t5_0 t6_0 a39 lx42 lx43 lx65 lx66 n lx87 lx88) := by
  intro n
  induction n with
  | zero => intro lx87 lx88 h0 hm ho; exact absurd (show False by omega) id
  | succ n ih =>
    intro lx87 lx88 h0 hm ho
    have e0 : (0 : Int32).toInt = 0 := rfl
    have eL0 : (0 : Int64).toInt = 0 := rfl
    have eL1 : (10000 : Int64).toInt = 10000 := rfl
    have eL2 : (-10000 : Int64).toInt = -10000 := rfl
    have eL3 : (1000 : Int64).toInt = 1000 := rfl
    have eL4 : (-1 : Int64).toInt = -1 := rfl
    have eI3 : (1000 : Int32).toInt = 1000 := rfl
    have hmn := (gR.at hR hx).1
    rw [S_DR_times_L155.eq_2, F_DR_times_L155.eq_2]
    by_cases g1 : a39 ≤ lx87
    ·
      rw [if_pos g1, if_pos g1]
      have g1i : a39.toInt ≤ lx87.toInt := q_leI g1
      by_cases g2 : t0_5 = (t3_0 x2.toNatClampNeg : Int32)
      ·
        rw [if_pos g2, if_pos g2]
        unfold S_DR_times_J199 F_DR_times_J199
        have h3 := T_DR_trim (t0_0 := t0_0) (t0_1 := t0_1) (t0_2 := a39) (t0_3 := (t0_3 + ((t4_0 x2.toNatClampNeg : Int32).toInt64 : Int64) : Int64)) (t0_4 := t0_4) (t0_5 := (0 : Int32)) (t0_6 := t0_6) (t0_7 := t0_7) (t0_8 := t0_8) (t0_9 := t0_9) (t0_10 := t0_10) (t1_0 := lx88) ⟨by omega, by omega⟩ (by first | with_reducible assumption | omega | decide | exact fun i hi => by have e7 := q_clI (i := a39) rfl (by omega); rw [ho i (by omega)]; exact hgt i hi)
        with_reducible refine v_owe h3.1 ?_
        replace h3 := h3.2
        generalize F_DR_trim t0_0 t0_1 a39 (t0_3 + ((t4_0 x2.toNatClampNeg : Int32).toInt64 : Int64) : Int64) t0_4 (0 : Int32) t0_6 t0_7 t0_8 t0_9 t0_10 lx88 = p179 at *
        unfold Q_DR_trim at h3
        obtain ⟨⟨h31, h32, h33, h39⟩, h3g, h35, h3a, h3b, h3s, h3m, h3x6, h3x7, h3x8, h3x9, h3x10⟩ := h3
        have trim9 := h39
        have h3si := congrArg Int64.toInt h3s
        have h3mi := congrArg Int32.toInt h3m
        unfold Q_DR_times
        unfold S_DR_times_c219 F_DR_times_c219
        by_cases g4 : (1000 : Int32) < (p179.2.2.1 : Int32)
        ·
          rw [if_pos g4, if_pos g4]
          have g4i := q_ltI g4
          refine ⟨trivial, ?_⟩
          (dsimp only; exact ⟨⟨by omega, by omega⟩, by with_reducible assumption, fun hne => by first | omega | exact absurd rfl hne⟩)
        ·
          rw [if_neg g4, if_neg g4]
          have g4i := q_nltI g4
          refine ⟨trivial, ?_⟩
          (dsimp only; exact ⟨⟨by omega, by omega⟩, by with_reducible assumption, fun hne => by first | omega | exact absurd rfl hne⟩)
      ·
        rw [if_neg g2, if_neg g2]
        unfold S_DR_times_J199 F_DR_times_J199
        have h5 := T_DR_trim (t0_0 := t0_0) (t0_1 := t0_1) (t0_2 := a39) (t0_3 := (t0_3 + ((t4_0 x2.toNatClampNeg : Int32).toInt64 : Int64) : Int64)) (t0_4 := t0_4) (t0_5 := (1 : Int32)) (t0_6 := t0_6) (t0_7 := t0_7) (t0_8 := t0_8) (t0_9 := t0_9) (t0_10 := t0_10) (t1_0 := lx88) ⟨by omega, by omega⟩ (by first | with_reducible assumption | omega | decide | exact fun i hi => by have e7 := q_clI (i := a39) rfl (by omega); rw [ho i (by omega)]; exact hgt i hi)
        with_reducible refine v_owe h5.1 ?_
        replace h5 := h5.2
        generalize F_DR_trim t0_0 t0_1 a39 (t0_3 + ((t4_0 x2.toNatClampNeg : Int32).toInt64 : Int64) : Int64) t0_4 (1 : Int32) t0_6 t0_7 t0_8 t0_9 t0_10 lx88 = p179 at *
        unfold Q_DR_trim at h5
        obtain ⟨⟨h51, h52, h53, h59⟩, h5g, h55, h5a, h5b, h5s, h5m, h5x6, h5x7, h5x8, h5x9, h5x10⟩ := h5
        have trim9 := h59
        have h5si := congrArg Int64.toInt h5s
        have h5mi := congrArg Int32.toInt h5m
        unfold Q_DR_times
        unfold S_DR_times_c219 F_DR_times_c219
        by_cases g6 : (1000 : Int32) < (p179.2.2.1 : Int32)
        ·
          rw [if_pos g6, if_pos g6]
          have g6i := q_ltI g6
          refine ⟨trivial, ?_⟩
          (dsimp only; exact ⟨⟨by omega, by omega⟩, by with_reducible assumption, fun hne => by first | omega | exact absurd rfl hne⟩)
        ·
          rw [if_neg g6, if_neg g6]
          have g6i := q_nltI g6
          refine ⟨trivial, ?_⟩
          (dsimp only; exact ⟨⟨by omega, by omega⟩, by with_reducible assumption, fun hne => by first | omega | exact absurd rfl hne⟩)
    ·
      rw [if_neg g1, if_neg g1]
      have g1i : lx87.toInt < a39.toInt := q_nleI g1
      refine v_cons (by omega) ?_
      obtain ⟨a7, e8⟩ := q_nm (lx87 + 1 : Int32)
      rw [e8]
      have a7i : a7.toInt = lx87.toInt + 1 := by rw [← e8]; exact q_addI (x := lx87.toInt) (y := 1) rfl (by decide) (by omega) (by omega)
      exact ih _ _ ⟨by omega, by omega⟩ (by omega) (g_fill a7i h0.1 ho)
theorem v_tm3 {K_F_DR_times_L14 : Int32 → (Nat → Int32) → (Int32 × Int32 × Int32 × Int32 × Int64 × Int32 × Int32 × Int32 × Int32 × Int32 × Int32 × Int32 × (Nat → Int32) × (Nat → Int32))} {K_F_DR_times_L39 : Int32 → (Nat → Int32) → (Int32 × Int32 × Int32 × Int32 × Int64 × Int32 × Int32 × Int32 × Int32 × Int32 × Int32 × Int32 × (Nat → Int32) × (Nat → Int32))} {x2 : Int32} {t0_0 : Int32} {t0_1 : Int32} {t0_2 : Int32} {t0_3 : Int64} {t0_4 : Int32} {t0_5 : Int32} {t0_6 : Int32} {t0_7 : Int32} {t0_8 : Int32} {t0_9 : Int32} {t0_10 : Int32} {t1_0 : (Nat → Int32)} {t2_0 : (Nat → Int32)} {t3_0 : (Nat → Int32)} {t4_0 : (Nat → Int32)} {t5_0 : (Nat → Int32)} {t6_0 : (Nat → Int32)} {a39 : Int32} {lx42 : Int32} {lx43 : (Nat → Int32)} {lx65 : Int32} {lx66 : (Nat → Int32)} {K_S_DR_times_L14 : Int32 → (Nat → Int32) → Prop} {K_S_DR_times_L39 : Int32 → (Nat → Int32) → Prop} (hR : gR t1_0 t2_0 t3_0 t4_0) (hx : 0 ≤ x2.toInt ∧ x2.toInt ≤ 9) (h2 : 1 ≤ t0_2.toInt ∧ t0_2.toInt ≤ 1000) (hg : gO t5_0 t0_2.toNatClampNeg) (h39 : a39.toInt = t0_2.toInt + (t2_0 x2.toNatClampNeg).toInt) (h9 : a39.toInt ≤ 2000)(h65 : 0 ≤ lx65.toInt ∧ lx65.toInt < t0_2.toInt) (hK : ∀ r : Nat → Int32, gO r a39.toNatClampNeg → (∀ t : Nat, (t : Int) < lx65.toInt → r t = 0) → K_S_DR_times_L39 (lx65 + (-1)) r ∧ Q_DR_times (K_F_DR_times_L39 (lx65 + (-1)) r)) : ∀ (n : Nat) (lx222 : Int32) (lx223 : Int32) (lx224 : (Nat → Int32)), (-1 ≤ lx222.toInt ∧ lx222.toInt < (t2_0 x2.toNatClampNeg).toInt) → (lx222.toInt + 1 < (n : Int)) → (0 ≤ lx223.toInt ∧ lx223.toInt ≤ 9) → (gO lx224 a39.toNatClampNeg) → (∀ t : Nat, (t : Int) ≤ lx65.toInt → lx224 t = 0) → (S_DR_times_L56 K_S_DR_times_L14 K_S_DR_times_L39 x2 t0_0 t0_1 t0_2 t0_3 t0_4 t0_5 t0_6 t0_7 t0_8 t0_9 t0_10 t1_0 t2_0 t3_0 t4_0 t5_0 t6_0 a39 lx42 lx43 lx65 lx66 n lx222 lx223 lx224) ∧ Q_DR_times (F_DR_times_L56 K_F_DR_times_L14 K_F_DR_times_L39 x2 t0_0 t0_1 t0_2 t0_3 t0_4 t0_5 t0_6 t0_7 t0_8 t0_9 t0_10 t1_0 t2_0 t3_0 t4_0 t5_0 t6_0 a39 lx42 lx43 lx65 lx66 n lx222 lx223 lx224) := by
  intro n
  induction n with
  | zero => intro lx222 lx223 lx224 h0 hm hc ho hz; exact absurd (show False by omega) id
  | succ n ih =>
    intro lx222 lx223 lx224 h0 hm hc ho hz
    have e0 : (0 : Int32).toInt = 0 := rfl
    have eL0 : (0 : Int64).toInt = 0 := rfl
    have eL1 : (10000 : Int64).toInt = 10000 := rfl
    have eL2 : (-10000 : Int64).toInt = -10000 := rfl
    have eL3 : (1000 : Int64).toInt = 1000 := rfl
    have eL4 : (-1 : Int64).toInt = -1 := rfl
    have eI3 : (1000 : Int32).toInt = 1000 := rfl
    have hmn := (gR.at hR hx).1
    rw [S_DR_times_L56.eq_2, F_DR_times_L56.eq_2]
    by_cases g1 : lx222 < (0 : Int32)
    ·
      rw [if_pos g1, if_pos g1]
      have g1i : lx222.toInt < 0 := q_ltI g1
      refine v_cons (by omega) ?_
      exact hK _ (g_last ho hz h65.1 hc) (fun t ht => by rw [v_ne (by have := q_clI (i := lx65) rfl h65.1; omega)]; exact hz t (by omega))
    ·
      rw [if_neg g1, if_neg g1]
      have g1i : 0 ≤ lx222.toInt := q_nltI g1
      obtain ⟨a2, e3⟩ := q_nm (lx65 + lx222 : Int32)
      rw [e3]
      have a2i : a2.toInt = lx65.toInt + lx222.toInt := by rw [← e3]; exact q_addI (x := lx65.toInt) (y := lx222.toInt) rfl rfl (by omega) (by omega)
      obtain ⟨a4, e5⟩ := q_nm (a2 + 1 : Int32)
      rw [e5]
      have a4i : a4.toInt = a2.toInt + 1 := by rw [← e5]; exact q_addI (x := a2.toInt) (y := 1) rfl (by decide) (by omega) (by omega)
      refine v_cons (by omega) ?_
      refine v_cons (by omega) ?_
      refine v_cons (by omega) ?_
      refine v_cons (by have := (g_ix (x := x2) (k := lx222) hx ⟨by omega, by omega⟩).1; omega) ?_
      refine v_cons (by have := (g_ix (x := x2) (k := lx222) hx ⟨by omega, by omega⟩).1; omega) ?_
      refine v_cons (by omega) ?_
      refine v_cons (by omega) ?_
      obtain ⟨a6, e7⟩ := q_nm (lx222 + (-1) : Int32)
      rw [e7]
      have a6i : a6.toInt = lx222.toInt + (-1) := by rw [← e7]; exact q_addI (x := lx222.toInt) (y := (-1)) rfl (by decide) (by omega) (by omega)
      have q1 := g_at9 ho (i := a4) (by omega) (by omega); have q2 := g_at9 hg h65.1 h65.2; have q3 := g_kx hR.1 hx (i := lx222) (by omega) (by omega); exact ih _ _ _ ⟨by omega, by omega⟩ (by omega) (g_tmQ q1 q2 q3 hc) (gO_upd ho (g_m10 (g_tmV q1 q2 q3 hc).1)) (fun t ht => by rw [v_ne (by have := q_clI (i := a4) rfl (by omega); omega)]; exact hz t ht)
theorem v_tm2 {K_F_DR_times_L14 : Int32 → (Nat → Int32) → (Int32 × Int32 × Int32 × Int32 × Int64 × Int32 × Int32 × Int32 × Int32 × Int32 × Int32 × Int32 × (Nat → Int32) × (Nat → Int32))} {x2 : Int32} {t0_0 : Int32} {t0_1 : Int32} {t0_2 : Int32} {t0_3 : Int64} {t0_4 : Int32} {t0_5 : Int32} {t0_6 : Int32} {t0_7 : Int32} {t0_8 : Int32} {t0_9 : Int32} {t0_10 : Int32} {t1_0 : (Nat → Int32)} {t2_0 : (Nat → Int32)} {t3_0 : (Nat → Int32)} {t4_0 : (Nat → Int32)} {t5_0 : (Nat → Int32)} {t6_0 : (Nat → Int32)} {a39 : Int32} {lx42 : Int32} {lx43 : (Nat → Int32)} {K_S_DR_times_L14 : Int32 → (Nat → Int32) → Prop} (hR : gR t1_0 t2_0 t3_0 t4_0) (hx : 0 ≤ x2.toInt ∧ x2.toInt ≤ 9) (h2 : 1 ≤ t0_2.toInt ∧ t0_2.toInt ≤ 1000) (hg : gO t5_0 t0_2.toNatClampNeg) (h39 : a39.toInt = t0_2.toInt + (t2_0 x2.toNatClampNeg).toInt) (h9 : a39.toInt ≤ 2000) : ∀ (n : Nat) (lx65 : Int32) (lx66 : (Nat → Int32)), (-1 ≤ lx65.toInt ∧ lx65.toInt < t0_2.toInt) → (lx65.toInt + 1 < (n : Int)) → (gO lx66 a39.toNatClampNeg) → (∀ t : Nat, (t : Int) ≤ lx65.toInt → lx66 t = 0) → (S_DR_times_L39 K_S_DR_times_L14 x2 t0_0 t0_1 t0_2 t0_3 t0_4 t0_5 t0_6 t0_7 t0_8 t0_9 t0_10 t1_0 t2_0 t3_0 t4_0 t5_0 t6_0 a39 lx42 lx43 n lx65 lx66) ∧ Q_DR_times (F_DR_times_L39 K_F_DR_times_L14 x2 t0_0 t0_1 t0_2 t0_3 t0_4 t0_5 t0_6 t0_7 t0_8 t0_9 t0_10 t1_0 t2_0 t3_0 t4_0 t5_0 t6_0 a39 lx42 lx43 n lx65 lx66) := by
  intro n
  induction n with
  | zero => intro lx65 lx66 h0 hm ho hz; exact absurd (show False by omega) id
  | succ n ih =>
    intro lx65 lx66 h0 hm ho hz
    have e0 : (0 : Int32).toInt = 0 := rfl
    have eL0 : (0 : Int64).toInt = 0 := rfl
    have eL1 : (10000 : Int64).toInt = 10000 := rfl
    have eL2 : (-10000 : Int64).toInt = -10000 := rfl
    have eL3 : (1000 : Int64).toInt = 1000 := rfl
    have eL4 : (-1 : Int64).toInt = -1 := rfl
    have eI3 : (1000 : Int32).toInt = 1000 := rfl
    have hmn := (gR.at hR hx).1
    rw [S_DR_times_L39.eq_2, F_DR_times_L39.eq_2]
    by_cases g1 : lx65 < (0 : Int32)
    ·
      rw [if_pos g1, if_pos g1]
      have g1i : lx65.toInt < 0 := q_ltI g1
      exact v_tm4 hR hx h2 hg h39 h9 ho _ _ _ (by omega) (by decide) (fun i hi => by omega)
    ·
      rw [if_neg g1, if_neg g1]
      have g1i : 0 ≤ lx65.toInt := q_nltI g1
      exact v_tm3 hR hx h2 hg h39 h9 ⟨by omega, by omega⟩ (fun r h1 h3 => ih _ r (g_dec1 (by omega) (by omega)) (g_dec2 (by omega) (by omega)) h1 (fun t ht => h3 t (g_dec3 (by omega) ht))) _ _ _ _ (g_sub1 hmn.1 hmn.2) (g_fu (g_sub1 hmn.1 hmn.2).1) (by decide) ho hz
theorem v_tm1 {x2 : Int32} {t0_0 : Int32} {t0_1 : Int32} {t0_2 : Int32} {t0_3 : Int64} {t0_4 : Int32} {t0_5 : Int32} {t0_6 : Int32} {t0_7 : Int32} {t0_8 : Int32} {t0_9 : Int32} {t0_10 : Int32} {t1_0 : (Nat → Int32)} {t2_0 : (Nat → Int32)} {t3_0 : (Nat → Int32)} {t4_0 : (Nat → Int32)} {t5_0 : (Nat → Int32)} {t6_0 : (Nat → Int32)} {a39 : Int32} (hR : gR t1_0 t2_0 t3_0 t4_0) (hx : 0 ≤ x2.toInt ∧ x2.toInt ≤ 9) (h2 : 1 ≤ t0_2.toInt ∧ t0_2.toInt ≤ 1000) (hg : gO t5_0 t0_2.toNatClampNeg) (h39 : a39.toInt = t0_2.toInt + (t2_0 x2.toNatClampNeg).toInt) (h9 : a39.toInt ≤ 2000) : ∀ (n : Nat) (lx42 : Int32) (lx43 : (Nat → Int32)), (0 ≤ lx42.toInt ∧ lx42.toInt ≤ a39.toInt) → (12200 - lx42.toInt < (n : Int)) → (∀ i : Nat, (i : Int) < lx42.toInt → lx43 i = 0) → (S_DR_times_L14 x2 t0_0 t0_1 t0_2 t0_3 t0_4 t0_5 t0_6 t0_7 t0_8 t0_9 t0_10 t1_0 t2_0 t3_0 t4_0 t5_0 t6_0 a39 n lx42 lx43) ∧ Q_DR_times (F_DR_times_L14 x2 t0_0 t0_1 t0_2 t0_3 t0_4 t0_5 t0_6 t0_7 t0_8 t0_9 t0_10 t1_0 t2_0 t3_0 t4_0 t5_0 t6_0 a39 n lx42 lx43) := by
  intro n
  induction n with
  | zero => intro lx42 lx43 h0 hm ho; exact absurd (show False by omega) id
  | succ n ih =>
    intro lx42 lx43 h0 hm ho
    have e0 : (0 : Int32).toInt = 0 := rfl
    have eL0 : (0 : Int64).toInt = 0 := rfl
    have eL1 : (10000 : Int64).toInt = 10000 := rfl
    have eL2 : (-10000 : Int64).toInt = -10000 := rfl
    have eL3 : (1000 : Int64).toInt = 1000 := rfl
    have eL4 : (-1 : Int64).toInt = -1 := rfl
    have eI3 : (1000 : Int32).toInt = 1000 := rfl
    have hmn := (gR.at hR hx).1
    rw [S_DR_times_L14.eq_2, F_DR_times_L14.eq_2]
    by_cases g1 : a39 ≤ lx42
    ·
      rw [if_pos g1, if_pos g1]
      have g1i : a39.toInt ≤ lx42.toInt := q_leI g1
      have e5 : (t0_2 - 1 : Int32).toInt = t0_2.toInt - 1 := q_subI (y := 1) rfl (by decide) (by omega) (by omega); have e7 := q_clI (i := a39) rfl (by omega); exact v_tm2 hR hx h2 hg h39 h9 _ _ _ ⟨by omega, by omega⟩ (by omega) (fun i hi => by rw [ho i (by omega)]; exact ⟨by decide, by decide⟩) (fun t ht => ho t (by omega))
    ·
      rw [if_neg g1, if_neg g1]
      have g1i : lx42.toInt < a39.toInt := q_nleI g1
      refine v_cons (by omega) ?_
      obtain ⟨a2, e3⟩ := q_nm (lx42 + 1 : Int32)
      rw [e3]
      have a2i : a2.toInt = lx42.toInt + 1 := by rw [← e3]; exact q_addI (x := lx42.toInt) (y := 1) rfl (by decide) (by omega) (by omega)
      exact ih _ _ ⟨by omega, by omega⟩ (by omega) (g_fill0 a2i h0.1 ho)
theorem T_DR_times {x2 : Int32} {t0_0 : Int32} {t0_1 : Int32} {t0_2 : Int32} {t0_3 : Int64} {t0_4 : Int32} {t0_5 : Int32} {t0_6 : Int32} {t0_7 : Int32} {t0_8 : Int32} {t0_9 : Int32} {t0_10 : Int32} {t1_0 : (Nat → Int32)} {t2_0 : (Nat → Int32)} {t3_0 : (Nat → Int32)} {t4_0 : (Nat → Int32)} {t5_0 : (Nat → Int32)} {t6_0 : (Nat → Int32)} (hR : gR t1_0 t2_0 t3_0 t4_0) (hx : 0 ≤ x2.toInt ∧ x2.toInt ≤ 9) (h2 : 1 ≤ t0_2.toInt ∧ t0_2.toInt ≤ 1000) (hg : gO t5_0 t0_2.toNatClampNeg) : (S_DR_times x2 t0_0 t0_1 t0_2 t0_3 t0_4 t0_5 t0_6 t0_7 t0_8 t0_9 t0_10 t1_0 t2_0 t3_0 t4_0 t5_0 t6_0) ∧ Q_DR_times (F_DR_times x2 t0_0 t0_1 t0_2 t0_3 t0_4 t0_5 t0_6 t0_7 t0_8 t0_9 t0_10 t1_0 t2_0 t3_0 t4_0 t5_0 t6_0) := by
  have e0 : (0 : Int32).toInt = 0 := rfl
  have eL0 : (0 : Int64).toInt = 0 := rfl
  have eL1 : (10000 : Int64).toInt = 10000 := rfl
  have eL2 : (-10000 : Int64).toInt = -10000 := rfl
  have eL3 : (1000 : Int64).toInt = 1000 := rfl
  have eL4 : (-1 : Int64).toInt = -1 := rfl
  have eI3 : (1000 : Int32).toInt = 1000 := rfl
  have hmn := (gR.at hR hx).1
  have e39 : (t0_2 + t2_0 x2.toNatClampNeg : Int32).toInt = t0_2.toInt + (t2_0 x2.toNatClampNeg).toInt := q_addI rfl rfl (by omega) (by omega)
  unfold S_DR_times F_DR_times
  refine v_cons (by omega) ?_
  refine v_cons (by omega) ?_
  exact v_tm1 hR hx h2 hg e39 (by omega) _ _ _ (by omega) (by decide) (fun i hi => by omega)
def Q_DR_multiply (p : Int32 × Int32 × Int32 × Int64 × Int32 × Int32 × Int32 × Int32 × Int32 × Int32 × Int32 × (Nat → Int32) × (Nat → Int32) × (Nat → Int32) × (Nat → Int32) × (Nat → Int32) × (Nat → Int32)) : Prop := gR p.2.2.2.2.2.2.2.2.2.2.2.1 p.2.2.2.2.2.2.2.2.2.2.2.2.1 p.2.2.2.2.2.2.2.2.2.2.2.2.2.1 p.2.2.2.2.2.2.2.2.2.2.2.2.2.2.1
theorem T_DR_multiply {x2 : Int32} {x3 : Int32} {x4 : Int32} {t0_0 : Int32} {t0_1 : Int32} {t0_2 : Int32} {t0_3 : Int64} {t0_4 : Int32} {t0_5 : Int32} {t0_6 : Int32} {t0_7 : Int32} {t0_8 : Int32} {t0_9 : Int32} {t0_10 : Int32} {t1_0 : (Nat → Int32)} {t2_0 : (Nat → Int32)} {t3_0 : (Nat → Int32)} {t4_0 : (Nat → Int32)} {t5_0 : (Nat → Int32)} {t6_0 : (Nat → Int32)} (hR : gR t1_0 t2_0 t3_0 t4_0) : (S_DR_multiply x2 x3 x4 t0_0 t0_1 t0_2 t0_3 t0_4 t0_5 t0_6 t0_7 t0_8 t0_9 t0_10 t1_0 t2_0 t3_0 t4_0 t5_0 t6_0) ∧ Q_DR_multiply (F_DR_multiply x2 x3 x4 t0_0 t0_1 t0_2 t0_3 t0_4 t0_5 t0_6 t0_7 t0_8 t0_9 t0_10 t1_0 t2_0 t3_0 t4_0 t5_0 t6_0) := by
  have e0 : (0 : Int32).toInt = 0 := rfl
  have eL0 : (0 : Int64).toInt = 0 := rfl
  have eL1 : (10000 : Int64).toInt = 10000 := rfl
  have eL2 : (-10000 : Int64).toInt = -10000 := rfl
  have eL3 : (1000 : Int64).toInt = 1000 := rfl
  have eL4 : (-1 : Int64).toInt = -1 := rfl
  have eI3 : (1000 : Int32).toInt = 1000 := rfl
  unfold S_DR_multiply F_DR_multiply
  by_cases g1 : ((F_DR_no x2) : Int32) = (0 : Int32)
  ·
    rw [if_pos g1, if_pos g1]
    have g1r := g_no g1
    by_cases g2 : ((F_DR_no x3) : Int32) = (0 : Int32)
    ·
      rw [if_pos g2, if_pos g2]
      have g2r := g_no g2
      by_cases g3 : ((F_DR_no x4) : Int32) = (0 : Int32)
      ·
        rw [if_pos g3, if_pos g3]
        have g3r := g_no g3
        unfold S_DR_multiply_J27 F_DR_multiply_J27
        have g4 : ((0 : Int32) ≤ (0 : Int32)) := (by decide)
        rw [if_pos g4, if_pos g4]
        have h5 := T_DR_load (x2 := x2) (t0_0 := (0 : Int32)) (t0_1 := t0_1) (t0_2 := t0_2) (t0_3 := t0_3) (t0_4 := t0_4) (t0_5 := t0_5) (t0_6 := t0_6) (t0_7 := t0_7) (t0_8 := t0_8) (t0_9 := t0_9) (t0_10 := (2 : Int32)) (t1_0 := t1_0) (t2_0 := t2_0) (t3_0 := t3_0) (t4_0 := t4_0) (t5_0 := t5_0) (by with_reducible assumption) (by with_reducible assumption)
        with_reducible refine v_owe h5.1 ?_
        replace h5 := h5.2
        generalize F_DR_load x2 (0 : Int32) t0_1 t0_2 t0_3 t0_4 t0_5 t0_6 t0_7 t0_8 t0_9 (2 : Int32) t1_0 t2_0 t3_0 t4_0 t5_0 = p106 at *
        unfold Q_DR_load at h5
        obtain ⟨h51, h5g, h53, h54, h55, h56, h57⟩ := h5
        have h54i := congrArg Int32.toInt h54
        unfold S_DR_multiply_c45 F_DR_multiply_c45
        have h6 := T_DR_times (x2 := x3) (t0_0 := (p106.1 : Int32)) (t0_1 := (p106.2.1 : Int32)) (t0_2 := (p106.2.2.1 : Int32)) (t0_3 := (p106.2.2.2.1 : Int64)) (t0_4 := (p106.2.2.2.2.1 : Int32)) (t0_5 := (p106.2.2.2.2.2.1 : Int32)) (t0_6 := (p106.2.2.2.2.2.2.1 : Int32)) (t0_7 := (p106.2.2.2.2.2.2.2.1 : Int32)) (t0_8 := (p106.2.2.2.2.2.2.2.2.1 : Int32)) (t0_9 := (p106.2.2.2.2.2.2.2.2.2.1 : Int32)) (t0_10 := (p106.2.2.2.2.2.2.2.2.2.2.1 : Int32)) (t1_0 := t1_0) (t2_0 := t2_0) (t3_0 := t3_0) (t4_0 := t4_0) (t5_0 := (p106.2.2.2.2.2.2.2.2.2.2.2 : (Nat → Int32))) (t6_0 := t6_0) (by with_reducible assumption) (by with_reducible assumption) ⟨by omega, by omega⟩ (by with_reducible assumption)
        with_reducible refine v_owe h6.1 ?_
        replace h6 := h6.2
        generalize F_DR_times x3 (p106.1 : Int32) (p106.2.1 : Int32) (p106.2.2.1 : Int32) (p106.2.2.2.1 : Int64) (p106.2.2.2.2.1 : Int32) (p106.2.2.2.2.2.1 : Int32) (p106.2.2.2.2.2.2.1 : Int32) (p106.2.2.2.2.2.2.2.1 : Int32) (p106.2.2.2.2.2.2.2.2.1 : Int32) (p106.2.2.2.2.2.2.2.2.2.1 : Int32) (p106.2.2.2.2.2.2.2.2.2.2.1 : Int32) t1_0 t2_0 t3_0 t4_0 (p106.2.2.2.2.2.2.2.2.2.2.2 : (Nat → Int32)) t6_0 = p177 at *
        unfold Q_DR_times at h6
        obtain ⟨h61, h6g, h60⟩ := h6
        have t0k := h60
        unfold S_DR_multiply_c50 F_DR_multiply_c50
        by_cases g7 : (p177.1 : Int32) = (0 : Int32)
        ·
          rw [if_pos g7, if_pos g7]
          refine ⟨trivial, ?_⟩
          (unfold Q_DR_multiply; dsimp only; with_reducible assumption)
        ·
          rw [if_neg g7, if_neg g7]
          have h8 := T_DR_store (x2 := x4) (t0_0 := (p177.2.1 : Int32)) (t0_1 := (p177.2.2.1 : Int32)) (t0_2 := (p177.2.2.2.1 : Int32)) (t0_3 := (p177.2.2.2.2.1 : Int64)) (t0_4 := (p177.2.2.2.2.2.1 : Int32)) (t0_5 := (p177.2.2.2.2.2.2.1 : Int32)) (t0_6 := (p177.2.2.2.2.2.2.2.1 : Int32)) (t0_7 := (p177.2.2.2.2.2.2.2.2.1 : Int32)) (t0_8 := (p177.2.2.2.2.2.2.2.2.2.1 : Int32)) (t0_9 := (p177.2.2.2.2.2.2.2.2.2.2.1 : Int32)) (t0_10 := (p177.2.2.2.2.2.2.2.2.2.2.2.1 : Int32)) (t1_0 := t1_0) (t2_0 := t2_0) (t3_0 := t3_0) (t4_0 := t4_0) (t5_0 := (p177.2.2.2.2.2.2.2.2.2.2.2.2.1 : (Nat → Int32))) (by with_reducible assumption) (by with_reducible assumption) ⟨by first | omega | decide, by first | omega | decide⟩ (by first | with_reducible assumption | exact g_cl (by with_reducible assumption) (by omega) (by omega) | omega | decide)
          with_reducible refine v_owe h8.1 ?_
          replace h8 := h8.2
          generalize F_DR_store x4 (p177.2.1 : Int32) (p177.2.2.1 : Int32) (p177.2.2.2.1 : Int32) (p177.2.2.2.2.1 : Int64) (p177.2.2.2.2.2.1 : Int32) (p177.2.2.2.2.2.2.1 : Int32) (p177.2.2.2.2.2.2.2.1 : Int32) (p177.2.2.2.2.2.2.2.2.1 : Int32) (p177.2.2.2.2.2.2.2.2.2.1 : Int32) (p177.2.2.2.2.2.2.2.2.2.2.1 : Int32) (p177.2.2.2.2.2.2.2.2.2.2.2.1 : Int32) t1_0 t2_0 t3_0 t4_0 (p177.2.2.2.2.2.2.2.2.2.2.2.2.1 : (Nat → Int32)) = p252 at *
          unfold Q_DR_store at h8
          unfold S_DR_multiply_c58 F_DR_multiply_c58
          refine ⟨trivial, ?_⟩
          (unfold Q_DR_multiply; dsimp only; with_reducible assumption)
      ·
        rw [if_neg g3, if_neg g3]
        unfold S_DR_multiply_J22 F_DR_multiply_J22
        unfold S_DR_multiply_J27 F_DR_multiply_J27
        have g9 : ¬ ((1 : Int32) ≤ (0 : Int32)) := (by decide)
        rw [if_neg g9, if_neg g9]
        refine ⟨trivial, ?_⟩
        (unfold Q_DR_multiply; dsimp only; with_reducible assumption)
    ·
      rw [if_neg g2, if_neg g2]
      unfold S_DR_multiply_J22 F_DR_multiply_J22
      unfold S_DR_multiply_J27 F_DR_multiply_J27
      have g10 : ¬ ((1 : Int32) ≤ (0 : Int32)) := (by decide)
      rw [if_neg g10, if_neg g10]
      refine ⟨trivial, ?_⟩
      (unfold Q_DR_multiply; dsimp only; with_reducible assumption)
  ·
    rw [if_neg g1, if_neg g1]
    unfold S_DR_multiply_J22 F_DR_multiply_J22
    unfold S_DR_multiply_J27 F_DR_multiply_J27
    have g11 : ¬ ((1 : Int32) ≤ (0 : Int32)) := (by decide)
    rw [if_neg g11, if_neg g11]
    refine ⟨trivial, ?_⟩
    (unfold Q_DR_multiply; dsimp only; with_reducible assumption)
def Q_DR_power (p : Int32 × Int32 × Int32 × Int64 × Int32 × Int32 × Int32 × Int32 × Int32 × Int32 × Int32 × (Nat → Int32) × (Nat → Int32) × (Nat → Int32) × (Nat → Int32) × (Nat → Int32) × (Nat → Int32)) : Prop := gR p.2.2.2.2.2.2.2.2.2.2.2.1 p.2.2.2.2.2.2.2.2.2.2.2.2.1 p.2.2.2.2.2.2.2.2.2.2.2.2.2.1 p.2.2.2.2.2.2.2.2.2.2.2.2.2.2.1
theorem g_one1 {f : Nat → Int32} : gO (upd f (0 : Int32).toNatClampNeg 1) (1 : Int32).toNatClampNeg := fun i hi => by
  have e : (1 : Int32).toNatClampNeg = 1 := rfl
  have : i = 0 := by omega
  subst this
  have e2 : upd f (0 : Int32).toNatClampNeg 1 0 = 1 := v_eq
  rw [e2]
  exact ⟨by decide, by decide⟩
theorem v_pow {x2 : Int32} {x3 : Int32} {x4 : Int32} {t0_0 : Int32} {t0_1 : Int32} {t0_2 : Int32} {t0_3 : Int64} {t0_4 : Int32} {t0_5 : Int32} {t0_6 : Int32} {t0_7 : Int32} {t0_8 : Int32} {t0_9 : Int32} {t0_10 : Int32} {t1_0 : (Nat → Int32)} {t2_0 : (Nat → Int32)} {t3_0 : (Nat → Int32)} {t4_0 : (Nat → Int32)} {t5_0 : (Nat → Int32)} {t6_0 : (Nat → Int32)} {lx42 : Int32} (hR : gR t1_0 t2_0 t3_0 t4_0)(hx2 : 0 ≤ x2.toInt ∧ x2.toInt ≤ 9) (hx4 : 0 ≤ x4.toInt ∧ x4.toInt ≤ 9) (hx3 : x3.toInt ≤ 999) : ∀ (n : Nat) (lx77 : Int32) (lx78 : Int32) (lx79 : Int32) (lx80 : Int32) (lx81 : Int64) (lx82 : Int32) (lx83 : Int32) (lx84 : Int32) (lx85 : Int32) (lx86 : Int32) (lx87 : Int32) (lx88 : Int32) (lx89 : (Nat → Int32)) (lx90 : (Nat → Int32)), (0 ≤ lx77.toInt ∧ lx77.toInt ≤ x3.toInt) → (x3.toInt - lx77.toInt < (n : Int)) → (1 ≤ lx80.toInt ∧ lx80.toInt ≤ 1000) → (gO lx89 lx80.toNatClampNeg) → (S_DR_power_L77 x2 x3 x4 t0_0 t0_1 t0_2 t0_3 t0_4 t0_5 t0_6 t0_7 t0_8 t0_9 t0_10 t1_0 t2_0 t3_0 t4_0 t5_0 t6_0 lx42 n lx77 lx78 lx79 lx80 lx81 lx82 lx83 lx84 lx85 lx86 lx87 lx88 lx89 lx90) ∧ Q_DR_power (F_DR_power_L77 x2 x3 x4 t0_0 t0_1 t0_2 t0_3 t0_4 t0_5 t0_6 t0_7 t0_8 t0_9 t0_10 t1_0 t2_0 t3_0 t4_0 t5_0 t6_0 lx42 n lx77 lx78 lx79 lx80 lx81 lx82 lx83 lx84 lx85 lx86 lx87 lx88 lx89 lx90) := by
  intro n
  induction n with
  | zero => intro lx77 lx78 lx79 lx80 lx81 lx82 lx83 lx84 lx85 lx86 lx87 lx88 lx89 lx90 h0 hm h1 ho; exact absurd (show False by omega) id
  | succ n ih =>
    intro lx77 lx78 lx79 lx80 lx81 lx82 lx83 lx84 lx85 lx86 lx87 lx88 lx89 lx90 h0 hm h1 ho
    have e0 : (0 : Int32).toInt = 0 := rfl
    have eL0 : (0 : Int64).toInt = 0 := rfl
    have eL1 : (10000 : Int64).toInt = 10000 := rfl
    have eL2 : (-10000 : Int64).toInt = -10000 := rfl
    have eL3 : (1000 : Int64).toInt = 1000 := rfl
    have eL4 : (-1 : Int64).toInt = -1 := rfl
    have eI3 : (1000 : Int32).toInt = 1000 := rfl
    rw [S_DR_power_L77.eq_2, F_DR_power_L77.eq_2]
    by_cases g1 : x3 ≤ lx77
    ·
      rw [if_pos g1, if_pos g1]
      have g1i : x3.toInt ≤ lx77.toInt := q_leI g1
      have h2 := T_DR_store (x2 := x4) (t0_0 := lx78) (t0_1 := lx79) (t0_2 := lx80) (t0_3 := lx81) (t0_4 := lx82) (t0_5 := lx83) (t0_6 := lx84) (t0_7 := lx85) (t0_8 := lx86) (t0_9 := lx87) (t0_10 := lx88) (t1_0 := t1_0) (t2_0 := t2_0) (t3_0 := t3_0) (t4_0 := t4_0) (t5_0 := lx89) (by with_reducible assumption) (by with_reducible assumption) ⟨by first | omega | decide, by first | omega | decide⟩ (by first | with_reducible assumption | exact g_cl (by with_reducible assumption) (by omega) (by omega) | omega | decide)
      with_reducible refine v_owe h2.1 ?_
      replace h2 := h2.2
      generalize F_DR_store x4 lx78 lx79 lx80 lx81 lx82 lx83 lx84 lx85 lx86 lx87 lx88 t1_0 t2_0 t3_0 t4_0 lx89 = p175 at *
      unfold Q_DR_store at h2
      unfold S_DR_power_c105 F_DR_power_c105
      refine ⟨trivial, ?_⟩
      (unfold Q_DR_power; dsimp only; with_reducible assumption)
    ·
      rw [if_neg g1, if_neg g1]
      have g1i : lx77.toInt < x3.toInt := q_nleI g1
      have h3 := T_DR_times (x2 := x2) (t0_0 := lx78) (t0_1 := lx79) (t0_2 := lx80) (t0_3 := lx81) (t0_4 := lx82) (t0_5 := lx83) (t0_6 := lx84) (t0_7 := lx85) (t0_8 := lx86) (t0_9 := lx87) (t0_10 := lx88) (t1_0 := t1_0) (t2_0 := t2_0) (t3_0 := t3_0) (t4_0 := t4_0) (t5_0 := lx89) (t6_0 := lx90) (by with_reducible assumption) (by with_reducible assumption) ⟨by omega, by omega⟩ (by with_reducible assumption)
      with_reducible refine v_owe h3.1 ?_
      replace h3 := h3.2
      generalize F_DR_times x2 lx78 lx79 lx80 lx81 lx82 lx83 lx84 lx85 lx86 lx87 lx88 t1_0 t2_0 t3_0 t4_0 lx89 lx90 = p251 at *
      unfold Q_DR_times at h3
      obtain ⟨h31, h3g, h30⟩ := h3
      have t0k := h30
      unfold S_DR_power_c85 F_DR_power_c85
      by_cases g4 : (p251.1 : Int32) = (0 : Int32)
      ·
        rw [if_pos g4, if_pos g4]
        refine ⟨trivial, ?_⟩
        (unfold Q_DR_power; dsimp only; with_reducible assumption)
      ·
        rw [if_neg g4, if_neg g4]
        have tk := t0k g4
        obtain ⟨a5, e6⟩ := q_nm (lx77 + 1 : Int32)
        rw [e6]
        have a5i : a5.toInt = lx77.toInt + 1 := by rw [← e6]; exact q_addI (x := lx77.toInt) (y := 1) rfl (by decide) (by omega) (by omega)
        exact ih _ _ _ _ _ _ _ _ _ _ _ _ _ _ ⟨by omega, by omega⟩ (by omega) ⟨by omega, by omega⟩ (by with_reducible assumption)
theorem T_DR_power {x2 : Int32} {x3 : Int32} {x4 : Int32} {t0_0 : Int32} {t0_1 : Int32} {t0_2 : Int32} {t0_3 : Int64} {t0_4 : Int32} {t0_5 : Int32} {t0_6 : Int32} {t0_7 : Int32} {t0_8 : Int32} {t0_9 : Int32} {t0_10 : Int32} {t1_0 : (Nat → Int32)} {t2_0 : (Nat → Int32)} {t3_0 : (Nat → Int32)} {t4_0 : (Nat → Int32)} {t5_0 : (Nat → Int32)} {t6_0 : (Nat → Int32)} (hR : gR t1_0 t2_0 t3_0 t4_0) : (S_DR_power x2 x3 x4 t0_0 t0_1 t0_2 t0_3 t0_4 t0_5 t0_6 t0_7 t0_8 t0_9 t0_10 t1_0 t2_0 t3_0 t4_0 t5_0 t6_0) ∧ Q_DR_power (F_DR_power x2 x3 x4 t0_0 t0_1 t0_2 t0_3 t0_4 t0_5 t0_6 t0_7 t0_8 t0_9 t0_10 t1_0 t2_0 t3_0 t4_0 t5_0 t6_0) := by
  have e0 : (0 : Int32).toInt = 0 := rfl
  have eL0 : (0 : Int64).toInt = 0 := rfl
  have eL1 : (10000 : Int64).toInt = 10000 := rfl
  have eL2 : (-10000 : Int64).toInt = -10000 := rfl
  have eL3 : (1000 : Int64).toInt = 1000 := rfl
  have eL4 : (-1 : Int64).toInt = -1 := rfl
  have eI3 : (1000 : Int32).toInt = 1000 := rfl
  have e999 : (999 : Int32).toInt = 999 := rfl
  unfold S_DR_power F_DR_power
  by_cases g1 : ((F_DR_no x2) : Int32) = (0 : Int32)
  ·
    rw [if_pos g1, if_pos g1]
    have g1r := g_no g1
    by_cases g2 : ((F_DR_no x4) : Int32) = (0 : Int32)
    ·
      rw [if_pos g2, if_pos g2]
      have g2r := g_no g2
      by_cases g3 : x3 < (0 : Int32)
      ·
        rw [if_pos g3, if_pos g3]
        have g3i : x3.toInt < 0 := q_ltI g3
        unfold S_DR_power_J26 F_DR_power_J26
        unfold S_DR_power_J31 F_DR_power_J31
        have g4 : ¬ ((1 : Int32) ≤ (0 : Int32)) := (by decide)
        rw [if_neg g4, if_neg g4]
        refine ⟨trivial, ?_⟩
        (unfold Q_DR_power; dsimp only; with_reducible assumption)
      ·
        rw [if_neg g3, if_neg g3]
        have g3i : 0 ≤ x3.toInt := q_nltI g3
        by_cases g5 : x3 ≤ (999 : Int32)
        ·
          rw [if_pos g5, if_pos g5]
          have g5i : x3.toInt ≤ 999 := q_leI g5
          unfold S_DR_power_J31 F_DR_power_J31
          have g6 : ((0 : Int32) ≤ (0 : Int32)) := (by decide)
          rw [if_pos g6, if_pos g6]
          exact v_pow hR (by with_reducible assumption) (by with_reducible assumption) (by omega) _ _ _ _ _ _ _ _ _ _ _ _ _ _ _ ⟨by omega, by omega⟩ (by omega) (by decide) g_one1
        ·
          rw [if_neg g5, if_neg g5]
          have g5i : 999 < x3.toInt := q_nleI g5
          unfold S_DR_power_J26 F_DR_power_J26
          unfold S_DR_power_J31 F_DR_power_J31
          have g7 : ¬ ((1 : Int32) ≤ (0 : Int32)) := (by decide)
          rw [if_neg g7, if_neg g7]
          refine ⟨trivial, ?_⟩
          (unfold Q_DR_power; dsimp only; with_reducible assumption)
    ·
      rw [if_neg g2, if_neg g2]
      unfold S_DR_power_J26 F_DR_power_J26
      unfold S_DR_power_J31 F_DR_power_J31
      have g8 : ¬ ((1 : Int32) ≤ (0 : Int32)) := (by decide)
      rw [if_neg g8, if_neg g8]
      refine ⟨trivial, ?_⟩
      (unfold Q_DR_power; dsimp only; with_reducible assumption)
  ·
    rw [if_neg g1, if_neg g1]
    unfold S_DR_power_J26 F_DR_power_J26
    unfold S_DR_power_J31 F_DR_power_J31
    have g9 : ¬ ((1 : Int32) ≤ (0 : Int32)) := (by decide)
    rw [if_neg g9, if_neg g9]
    refine ⟨trivial, ?_⟩
    (unfold Q_DR_power; dsimp only; with_reducible assumption)
