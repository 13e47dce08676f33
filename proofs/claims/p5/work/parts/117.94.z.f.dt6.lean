/-! DecimalRows: figure, add -/
theorem R_fig {x2 : Int32} {x3 : Int64} {x4 : Int32} {t0_0 : Int32} {t0_1 : Int32} {t0_2 : Int32} {t0_3 : Int64} {t0_4 : Int32} {t0_5 : Int32} {t0_6 : Int32} {t0_7 : Int32} {t0_8 : Int32} {t0_9 : Int32} {t0_10 : Int32} {t1_0 : (Nat → Int32)} {t2_0 : (Nat → Int32)} {t3_0 : (Nat → Int32)} (hx : 0 ≤ x2.toInt ∧ x2.toInt ≤ 9) (hk : gO t1_0 10000) (hm : 1 ≤ (t2_0 x2.toNatClampNeg).toInt ∧ (t2_0 x2.toNatClampNeg).toInt ≤ 1000) (hc : -10000 ≤ (t3_0 x2.toNatClampNeg).toInt ∧ (t3_0 x2.toNatClampNeg).toInt ≤ 10000) (h3 : -10000 ≤ x3.toInt ∧ x3.toInt ≤ 10000) (h4 : 0 ≤ x4.toInt ∧ x4.toInt ≤ 30000) : S_DR_figure x2 x3 x4 t0_0 t0_1 t0_2 t0_3 t0_4 t0_5 t0_6 t0_7 t0_8 t0_9 t0_10 t1_0 t2_0 t3_0 ∧ (0 ≤ (F_DR_figure x2 x3 x4 t0_0 t0_1 t0_2 t0_3 t0_4 t0_5 t0_6 t0_7 t0_8 t0_9 t0_10 t1_0 t2_0 t3_0).toInt ∧ (F_DR_figure x2 x3 x4 t0_0 t0_1 t0_2 t0_3 t0_4 t0_5 t0_6 t0_7 t0_8 t0_9 t0_10 t1_0 t2_0 t3_0).toInt ≤ 9) := by
  unfold S_DR_figure F_DR_figure
  generalize t2_0 x2.toNatClampNeg = m at hm ⊢
  generalize t3_0 x2.toNatClampNeg = c at hc ⊢
  have e1 : (m.toInt64 - 1 : Int64).toInt = m.toInt - 1 := q_subL (y := 1) (q_i2l rfl) (by decide) (by omega) (by omega)
  have e2 : (m.toInt64 - 1 - x4.toInt64 : Int64).toInt = (m.toInt - 1) - x4.toInt := q_subL e1 (q_i2l rfl) (by omega) (by omega)
  have e3 : (x3 - c.toInt64 : Int64).toInt = x3.toInt - c.toInt := q_subL rfl (q_i2l rfl) (by omega) (by omega)
  have e4 : (m.toInt64 - 1 - x4.toInt64 + (x3 - c.toInt64) : Int64).toInt = ((m.toInt - 1) - x4.toInt) + (x3.toInt - c.toInt) := q_addL e2 e3 (by omega) (by omega)
  generalize (m.toInt64 - 1 - x4.toInt64 + (x3 - c.toInt64) : Int64) = p at e4 ⊢
  have em : m.toInt64.toInt = m.toInt := q_i2l rfl
  have eL0 : (0 : Int64).toInt = 0 := rfl
  refine v_cons (by omega) (v_cons (by omega) ?_)
  by_cases g1 : lg_cmp p 0 < 0
  · rw [if_pos g1, if_pos g1]
    exact ⟨trivial, by decide, by decide⟩
  · rw [if_neg g1, if_neg g1]
    have l1 := g_lc2 g1
    by_cases g2 : lg_cmp p m.toInt64 < 0
    · rw [if_pos g2, if_pos g2]
      have l2 := g_lc1 g2
      have e5 : p.toInt32.toInt = p.toInt := s_l2i (by omega) (by omega)
      have i1 := (g_ix (x := x2) (k := p.toInt32) hx ⟨by omega, by omega⟩).1
      exact ⟨⟨by omega, by omega, trivial⟩, g_kx hk hx (by omega) (by omega)⟩
    · rw [if_neg g2, if_neg g2]
      exact ⟨trivial, by decide, by decide⟩
theorem g_adV {a b c : Int32} (ha : 0 ≤ a.toInt ∧ a.toInt ≤ 9) (hb : -9 ≤ b.toInt ∧ b.toInt ≤ 9) (hc : -1 ≤ c.toInt ∧ c.toInt ≤ 1) : (a + b + c : Int32).toInt = a.toInt + b.toInt + c.toInt ∧ (a + b + c + 10 : Int32).toInt = a.toInt + b.toInt + c.toInt + 10 := by
  have e1 : (a + b : Int32).toInt = a.toInt + b.toInt := q_addI rfl rfl (by omega) (by omega)
  have e2 : (a + b + c : Int32).toInt = a.toInt + b.toInt + c.toInt := q_addI e1 rfl (by omega) (by omega)
  exact ⟨e2, q_addI (y := 10) e2 (by decide) (by omega) (by omega)⟩
theorem g_adD {a b c : Int32} (ha : 0 ≤ a.toInt ∧ a.toInt ≤ 9) (hb : -9 ≤ b.toInt ∧ b.toInt ≤ 9) (hc : -1 ≤ c.toInt ∧ c.toInt ≤ 1) : 0 ≤ (a + b + c + 10 - (a + b + c + 10) / 10 * 10 : Int32).toInt ∧ (a + b + c + 10 - (a + b + c + 10) / 10 * 10 : Int32).toInt ≤ 9 := by
  have h := (g_adV ha hb hc).2
  exact g_m10 (by omega)
theorem g_adC {a b c : Int32} (ha : 0 ≤ a.toInt ∧ a.toInt ≤ 9) (hb : -9 ≤ b.toInt ∧ b.toInt ≤ 9) (hc : -1 ≤ c.toInt ∧ c.toInt ≤ 1) (h0 : (0 : Int32) ≤ a + b + c) : -1 ≤ ((a + b + c) / 10 : Int32).toInt ∧ ((a + b + c) / 10 : Int32).toInt ≤ 1 := by
  have h := (g_adV ha hb hc).1
  have h1 := q_leI h0
  have e0 : (0 : Int32).toInt = 0 := rfl
  rw [g_q10 (by omega)]
  omega
theorem g_adU {f : Nat → Int32} {n k k1 j c : Int32} (h1 : k1.toInt = k.toInt + 1) (hk : 0 ≤ k.toInt) (hj : j.toInt = n.toInt - 1 - k.toInt) (hn : k.toInt < n.toInt) (ho : ∀ i : Nat, n.toInt - k.toInt ≤ i → (i : Int) < n.toInt → 0 ≤ (f i).toInt ∧ (f i).toInt ≤ 9) (hc : 0 ≤ c.toInt ∧ c.toInt ≤ 9) : ∀ i : Nat, n.toInt - k1.toInt ≤ i → (i : Int) < n.toInt → 0 ≤ (upd f j.toNatClampNeg c i).toInt ∧ (upd f j.toNatClampNeg c i).toInt ≤ 9 := fun i hi hl => by
  have e := q_clI (i := j) rfl (by omega)
  by_cases d : i = j.toNatClampNeg
  · rw [d, v_eq]; exact hc
  · rw [v_ne d]; exact ho i (by omega) hl
theorem g_adN {x : Int32} (h : 0 ≤ x.toInt ∧ x.toInt ≤ 9) : -9 ≤ (-x : Int32).toInt ∧ (-x : Int32).toInt ≤ 9 := by
  have e := q_negI (a := x) rfl (by omega)
  omega
def Q_DR_add (p : Int32 × Int32 × Int32 × Int64 × Int32 × Int32 × Int32 × Int32 × Int32 × Int32 × Int32 × (Nat → Int32) × (Nat → Int32) × (Nat → Int32) × (Nat → Int32) × (Nat → Int32)) : Prop := gR p.2.2.2.2.2.2.2.2.2.2.2.1 p.2.2.2.2.2.2.2.2.2.2.2.2.1 p.2.2.2.2.2.2.2.2.2.2.2.2.2.1 p.2.2.2.2.2.2.2.2.2.2.2.2.2.2.1
theorem v_add {x2 : Int32} {x3 : Int32} {x4 : Int32} {x5 : Int32} {t0_0 : Int32} {t0_1 : Int32} {t0_2 : Int32} {t0_3 : Int64} {t0_4 : Int32} {t0_5 : Int32} {t0_6 : Int32} {t0_7 : Int32} {t0_8 : Int32} {t0_9 : Int32} {t0_10 : Int32} {t1_0 : (Nat → Int32)} {t2_0 : (Nat → Int32)} {t3_0 : (Nat → Int32)} {t4_0 : (Nat → Int32)} {t5_0 : (Nat → Int32)} {lx39 : Int32} {lx68 : Int64} {lx91 : Int64} {lx114 : Int64} {lx150 : Int32} {lx173 : Int32} {lx188 : Int32} {lx203 : Int32} {lx218 : Int32} {lx236 : Int64} {a254 : Int32} (hR : gR t1_0 t2_0 t3_0 t4_0)(hx2 : 0 ≤ x2.toInt ∧ x2.toInt ≤ 9) (hx3 : 0 ≤ x3.toInt ∧ x3.toInt ≤ 9) (hx4 : 0 ≤ x4.toInt ∧ x4.toInt ≤ 9) (hxa : 0 ≤ lx203.toInt ∧ lx203.toInt ≤ 9) (hxb : 0 ≤ lx218.toInt ∧ lx218.toInt ≤ 9) (h68 : -10000 ≤ lx68.toInt ∧ lx68.toInt ≤ 10000) (h254 : 1 ≤ a254.toInt ∧ a254.toInt ≤ 1002) : ∀ (n : Nat) (lx258 : Int32) (lx259 : Int32) (lx260 : (Nat → Int32)), (0 ≤ lx258.toInt ∧ lx258.toInt ≤ a254.toInt) → (a254.toInt - lx258.toInt < (n : Int)) → (-1 ≤ lx259.toInt ∧ lx259.toInt ≤ 1) → (∀ i : Nat, a254.toInt - lx258.toInt ≤ i → (i : Int) < a254.toInt → 0 ≤ (lx260 i).toInt ∧ (lx260 i).toInt ≤ 9) → (S_DR_add_L296 x2 x3 x4 x5 t0_0 t0_1 t0_2 t0_3 t0_4 t0_5 t0_6 t0_7 t0_8 t0_9 t0_10 t1_0 t2_0 t3_0 t4_0 t5_0 lx39 lx68 lx91 lx114 lx150 lx173 lx188 lx203 lx218 lx236 a254 n lx258 lx259 lx260) ∧ Q_DR_add (F_DR_add_L296 x2 x3 x4 x5 t0_0 t0_1 t0_2 t0_3 t0_4 t0_5 t0_6 t0_7 t0_8 t0_9 t0_10 t1_0 t2_0 t3_0 t4_0 t5_0 lx39 lx68 lx91 lx114 lx150 lx173 lx188 lx203 lx218 lx236 a254 n lx258 lx259 lx260) := by
  intro n
  induction n with
  | zero => intro lx258 lx259 lx260 h0 hm hc ho; exact absurd (show False by omega) id
  | succ n ih =>
    intro lx258 lx259 lx260 h0 hm hc ho
    have e0 : (0 : Int32).toInt = 0 := rfl
    have eL0 : (0 : Int64).toInt = 0 := rfl
    have eL1 : (10000 : Int64).toInt = 10000 := rfl
    have eL2 : (-10000 : Int64).toInt = -10000 := rfl
    have eL3 : (1000 : Int64).toInt = 1000 := rfl
    have eL4 : (-1 : Int64).toInt = -1 := rfl
    have eI3 : (1000 : Int32).toInt = 1000 := rfl
    rw [S_DR_add_L296.eq_2, F_DR_add_L296.eq_2]
    by_cases g1 : a254 ≤ lx258
    ·
      rw [if_pos g1, if_pos g1]
      have g1i : a254.toInt ≤ lx258.toInt := q_leI g1
      have h2 := R_dz (x2 := x2) (t0_0 := lx39) (t0_1 := t0_1) (t0_2 := a254) (t0_3 := lx68) (t0_4 := (0 : Int32)) (t0_5 := t0_5) (t0_6 := t0_6) (t0_7 := t0_7) (t0_8 := t0_8) (t0_9 := t0_9) (t0_10 := (2 : Int32)) (t1_0 := t1_0) (by with_reducible assumption)
      with_reducible refine v_owe h2.1 ?_
      by_cases g3 : ((F_DR_isZero x2 lx39 t0_1 a254 lx68 (0 : Int32) t0_5 t0_6 t0_7 t0_8 t0_9 (2 : Int32) t1_0) : Int32) = (0 : Int32)
      ·
        rw [if_pos g3, if_pos g3]
        have h4 := R_dz (x2 := x3) (t0_0 := lx39) (t0_1 := t0_1) (t0_2 := a254) (t0_3 := lx68) (t0_4 := (0 : Int32)) (t0_5 := t0_5) (t0_6 := t0_6) (t0_7 := t0_7) (t0_8 := t0_8) (t0_9 := t0_9) (t0_10 := (2 : Int32)) (t1_0 := t1_0) (by with_reducible assumption)
        with_reducible refine v_owe h4.1 ?_
        by_cases g5 : ((F_DR_isZero x3 lx39 t0_1 a254 lx68 (0 : Int32) t0_5 t0_6 t0_7 t0_8 t0_9 (2 : Int32) t1_0) : Int32) = (0 : Int32)
        ·
          rw [if_pos g5, if_pos g5]
          by_cases g6 : lx188 = (0 : Int32)
          ·
            rw [if_pos g6, if_pos g6]
            refine v_cons (by have := (gR.at hR (by with_reducible assumption : 0 ≤ x2.toInt ∧ x2.toInt ≤ 9)).2.1; omega) ?_
            refine v_cons (by have := (gR.at hR (by with_reducible assumption : 0 ≤ x2.toInt ∧ x2.toInt ≤ 9)).2.1; omega) ?_
            have h7 := T_DR_store (x2 := x4) (t0_0 := lx39) (t0_1 := t0_1) (t0_2 := a254) (t0_3 := lx68) (t0_4 := (0 : Int32)) (t0_5 := (t3_0 x2.toNatClampNeg : Int32)) (t0_6 := t0_6) (t0_7 := t0_7) (t0_8 := t0_8) (t0_9 := t0_9) (t0_10 := (2 : Int32)) (t1_0 := t1_0) (t2_0 := t2_0) (t3_0 := t3_0) (t4_0 := t4_0) (t5_0 := lx260) (by with_reducible assumption) (by with_reducible assumption) ⟨by omega, by omega⟩ (fun i hi => ho i (by have e7 := q_clI (i := a254) rfl (by omega); omega) (by have e7 := q_clI (i := a254) rfl (by omega); omega))
            with_reducible refine v_owe h7.1 ?_
            replace h7 := h7.2
            generalize F_DR_store x4 lx39 t0_1 a254 lx68 (0 : Int32) (t3_0 x2.toNatClampNeg : Int32) t0_6 t0_7 t0_8 t0_9 (2 : Int32) t1_0 t2_0 t3_0 t4_0 lx260 = p362 at *
            unfold Q_DR_store at h7
            unfold S_DR_add_c459 F_DR_add_c459
            refine ⟨trivial, ?_⟩
            (unfold Q_DR_add; dsimp only; with_reducible assumption)
          ·
            rw [if_neg g6, if_neg g6]
            have h8 := T_DR_store (x2 := x4) (t0_0 := lx39) (t0_1 := t0_1) (t0_2 := a254) (t0_3 := lx68) (t0_4 := (0 : Int32)) (t0_5 := lx150) (t0_6 := t0_6) (t0_7 := t0_7) (t0_8 := t0_8) (t0_9 := t0_9) (t0_10 := (2 : Int32)) (t1_0 := t1_0) (t2_0 := t2_0) (t3_0 := t3_0) (t4_0 := t4_0) (t5_0 := lx260) (by with_reducible assumption) (by with_reducible assumption) ⟨by omega, by omega⟩ (fun i hi => ho i (by have e7 := q_clI (i := a254) rfl (by omega); omega) (by have e7 := q_clI (i := a254) rfl (by omega); omega))
            with_reducible refine v_owe h8.1 ?_
            replace h8 := h8.2
            generalize F_DR_store x4 lx39 t0_1 a254 lx68 (0 : Int32) lx150 t0_6 t0_7 t0_8 t0_9 (2 : Int32) t1_0 t2_0 t3_0 t4_0 lx260 = p437 at *
            unfold Q_DR_store at h8
            unfold S_DR_add_c459_13 F_DR_add_c459_13
            refine ⟨trivial, ?_⟩
            (unfold Q_DR_add; dsimp only; with_reducible assumption)
        ·
          rw [if_neg g5, if_neg g5]
          refine v_cons (by have := (gR.at hR (by with_reducible assumption : 0 ≤ x2.toInt ∧ x2.toInt ≤ 9)).2.1; omega) ?_
          refine v_cons (by have := (gR.at hR (by with_reducible assumption : 0 ≤ x2.toInt ∧ x2.toInt ≤ 9)).2.1; omega) ?_
          have h9 := T_DR_store (x2 := x4) (t0_0 := lx39) (t0_1 := t0_1) (t0_2 := a254) (t0_3 := lx68) (t0_4 := (0 : Int32)) (t0_5 := (t3_0 x2.toNatClampNeg : Int32)) (t0_6 := t0_6) (t0_7 := t0_7) (t0_8 := t0_8) (t0_9 := t0_9) (t0_10 := (2 : Int32)) (t1_0 := t1_0) (t2_0 := t2_0) (t3_0 := t3_0) (t4_0 := t4_0) (t5_0 := lx260) (by with_reducible assumption) (by with_reducible assumption) ⟨by omega, by omega⟩ (fun i hi => ho i (by have e7 := q_clI (i := a254) rfl (by omega); omega) (by have e7 := q_clI (i := a254) rfl (by omega); omega))
          with_reducible refine v_owe h9.1 ?_
          replace h9 := h9.2
          generalize F_DR_store x4 lx39 t0_1 a254 lx68 (0 : Int32) (t3_0 x2.toNatClampNeg : Int32) t0_6 t0_7 t0_8 t0_9 (2 : Int32) t1_0 t2_0 t3_0 t4_0 lx260 = p516 at *
          unfold Q_DR_store at h9
          unfold S_DR_add_c459_14 F_DR_add_c459_14
          refine ⟨trivial, ?_⟩
          (unfold Q_DR_add; dsimp only; with_reducible assumption)
      ·
        rw [if_neg g3, if_neg g3]
        have h10 := T_DR_store (x2 := x4) (t0_0 := lx39) (t0_1 := t0_1) (t0_2 := a254) (t0_3 := lx68) (t0_4 := (0 : Int32)) (t0_5 := lx150) (t0_6 := t0_6) (t0_7 := t0_7) (t0_8 := t0_8) (t0_9 := t0_9) (t0_10 := (2 : Int32)) (t1_0 := t1_0) (t2_0 := t2_0) (t3_0 := t3_0) (t4_0 := t4_0) (t5_0 := lx260) (by with_reducible assumption) (by with_reducible assumption) ⟨by omega, by omega⟩ (fun i hi => ho i (by have e7 := q_clI (i := a254) rfl (by omega); omega) (by have e7 := q_clI (i := a254) rfl (by omega); omega))
        with_reducible refine v_owe h10.1 ?_
        replace h10 := h10.2
        generalize F_DR_store x4 lx39 t0_1 a254 lx68 (0 : Int32) lx150 t0_6 t0_7 t0_8 t0_9 (2 : Int32) t1_0 t2_0 t3_0 t4_0 lx260 = p591 at *
        unfold Q_DR_store at h10
        unfold S_DR_add_c459_15 F_DR_add_c459_15
        refine ⟨trivial, ?_⟩
        (unfold Q_DR_add; dsimp only; with_reducible assumption)
    ·
      rw [if_neg g1, if_neg g1]
      have g1i : lx258.toInt < a254.toInt := q_nleI g1
      have h11 := R_fig (x2 := lx203) (x3 := lx68) (x4 := lx258) (t0_0 := lx39) (t0_1 := t0_1) (t0_2 := t0_2) (t0_3 := t0_3) (t0_4 := t0_4) (t0_5 := t0_5) (t0_6 := t0_6) (t0_7 := t0_7) (t0_8 := t0_8) (t0_9 := t0_9) (t0_10 := (2 : Int32)) (t1_0 := t1_0) (t2_0 := t2_0) (t3_0 := t4_0) (by with_reducible assumption) hR.1 (gR.at hR (by with_reducible assumption)).1 (gR.at hR (by with_reducible assumption)).2.2 h68 ⟨by omega, by omega⟩
      have h11b := h11.2
      with_reducible refine v_owe h11.1 ?_
      by_cases g12 : lx173 = (0 : Int32)
      ·
        rw [if_pos g12, if_pos g12]
        have h13 := R_fig (x2 := lx218) (x3 := lx68) (x4 := lx258) (t0_0 := lx39) (t0_1 := t0_1) (t0_2 := t0_2) (t0_3 := t0_3) (t0_4 := t0_4) (t0_5 := t0_5) (t0_6 := t0_6) (t0_7 := t0_7) (t0_8 := t0_8) (t0_9 := t0_9) (t0_10 := (2 : Int32)) (t1_0 := t1_0) (t2_0 := t2_0) (t3_0 := t4_0) (by with_reducible assumption) hR.1 (gR.at hR (by with_reducible assumption)).1 (gR.at hR (by with_reducible assumption)).2.2 h68 ⟨by omega, by omega⟩
        have h13b := h13.2
        with_reducible refine v_owe h13.1 ?_
        unfold S_DR_add_J342 F_DR_add_J342
        obtain ⟨a14, e15⟩ := q_nm (a254 - 1 : Int32)
        rw [e15]
        have a14i : a14.toInt = a254.toInt - 1 := by rw [← e15]; exact q_subI (x := a254.toInt) (y := 1) rfl (by decide) (by omega) (by omega)
        obtain ⟨a16, e17⟩ := q_nm (a14 - lx258 : Int32)
        rw [e17]
        have a16i : a16.toInt = a14.toInt - lx258.toInt := by rw [← e17]; exact q_subI (x := a14.toInt) (y := lx258.toInt) rfl rfl (by omega) (by omega)
        refine v_cons (by omega) ?_
        by_cases g18 : (0 : Int32) ≤ ((((F_DR_figure lx203 lx68 lx258 lx39 t0_1 t0_2 t0_3 t0_4 t0_5 t0_6 t0_7 t0_8 t0_9 (2 : Int32) t1_0 t2_0 t4_0) : Int32) + (-((F_DR_figure lx218 lx68 lx258 lx39 t0_1 t0_2 t0_3 t0_4 t0_5 t0_6 t0_7 t0_8 t0_9 (2 : Int32) t1_0 t2_0 t4_0) : Int32) : Int32) : Int32) + lx259 : Int32)
        ·
          rw [if_pos g18, if_pos g18]
          obtain ⟨a19, e20⟩ := q_nm (lx258 + 1 : Int32)
          rw [e20]
          have a19i : a19.toInt = lx258.toInt + 1 := by rw [← e20]; exact q_addI (x := lx258.toInt) (y := 1) rfl (by decide) (by omega) (by omega)
          exact ih _ _ _ ⟨by omega, by omega⟩ (by omega) (g_adC (by with_reducible assumption) (g_adN (by with_reducible assumption)) hc (by with_reducible assumption)) (g_adU a19i (by omega) (by omega) (by omega) ho (g_adD (by with_reducible assumption) (g_adN (by with_reducible assumption)) hc))
        ·
          rw [if_neg g18, if_neg g18]
          obtain ⟨a21, e22⟩ := q_nm (lx258 + 1 : Int32)
          rw [e22]
          have a21i : a21.toInt = lx258.toInt + 1 := by rw [← e22]; exact q_addI (x := lx258.toInt) (y := 1) rfl (by decide) (by omega) (by omega)
          exact ih _ _ _ ⟨by omega, by omega⟩ (by omega) (by decide) (g_adU a21i (by omega) (by omega) (by omega) ho (g_adD (by with_reducible assumption) (g_adN (by with_reducible assumption)) hc))
      ·
        rw [if_neg g12, if_neg g12]
        have h23 := R_fig (x2 := lx218) (x3 := lx68) (x4 := lx258) (t0_0 := lx39) (t0_1 := t0_1) (t0_2 := t0_2) (t0_3 := t0_3) (t0_4 := t0_4) (t0_5 := t0_5) (t0_6 := t0_6) (t0_7 := t0_7) (t0_8 := t0_8) (t0_9 := t0_9) (t0_10 := (2 : Int32)) (t1_0 := t1_0) (t2_0 := t2_0) (t3_0 := t4_0) (by with_reducible assumption) hR.1 (gR.at hR (by with_reducible assumption)).1 (gR.at hR (by with_reducible assumption)).2.2 h68 ⟨by omega, by omega⟩
        have h23b := h23.2
        with_reducible refine v_owe h23.1 ?_
        unfold S_DR_add_J342 F_DR_add_J342
        obtain ⟨a24, e25⟩ := q_nm (a254 - 1 : Int32)
        rw [e25]
        have a24i : a24.toInt = a254.toInt - 1 := by rw [← e25]; exact q_subI (x := a254.toInt) (y := 1) rfl (by decide) (by omega) (by omega)
        obtain ⟨a26, e27⟩ := q_nm (a24 - lx258 : Int32)
        rw [e27]
        have a26i : a26.toInt = a24.toInt - lx258.toInt := by rw [← e27]; exact q_subI (x := a24.toInt) (y := lx258.toInt) rfl rfl (by omega) (by omega)
        refine v_cons (by omega) ?_
        by_cases g28 : (0 : Int32) ≤ ((((F_DR_figure lx203 lx68 lx258 lx39 t0_1 t0_2 t0_3 t0_4 t0_5 t0_6 t0_7 t0_8 t0_9 (2 : Int32) t1_0 t2_0 t4_0) : Int32) + ((F_DR_figure lx218 lx68 lx258 lx39 t0_1 t0_2 t0_3 t0_4 t0_5 t0_6 t0_7 t0_8 t0_9 (2 : Int32) t1_0 t2_0 t4_0) : Int32) : Int32) + lx259 : Int32)
        ·
          rw [if_pos g28, if_pos g28]
          obtain ⟨a29, e30⟩ := q_nm (lx258 + 1 : Int32)
          rw [e30]
          have a29i : a29.toInt = lx258.toInt + 1 := by rw [← e30]; exact q_addI (x := lx258.toInt) (y := 1) rfl (by decide) (by omega) (by omega)
          exact ih _ _ _ ⟨by omega, by omega⟩ (by omega) (g_adC (by with_reducible assumption) ⟨by omega, by omega⟩ hc (by with_reducible assumption)) (g_adU a29i (by omega) (by omega) (by omega) ho (g_adD (by with_reducible assumption) ⟨by omega, by omega⟩ hc))
        ·
          rw [if_neg g28, if_neg g28]
          obtain ⟨a31, e32⟩ := q_nm (lx258 + 1 : Int32)
          rw [e32]
          have a31i : a31.toInt = lx258.toInt + 1 := by rw [← e32]; exact q_addI (x := lx258.toInt) (y := 1) rfl (by decide) (by omega) (by omega)
          exact ih _ _ _ ⟨by omega, by omega⟩ (by omega) (by decide) (g_adU a31i (by omega) (by omega) (by omega) ho (g_adD (by with_reducible assumption) ⟨by omega, by omega⟩ hc))
theorem g_lc7 {a b : Int64} (h : 0 < lg_cmp a b) : b.toInt < a.toInt := by
  have h1 := q_ltI h
  have h2 := s_lcmp (a := a) (b := b)
  have e0 : (0 : Int32).toInt = 0 := rfl
  omega
theorem g_lc8 {a b : Int64} (h : ¬ 0 < lg_cmp a b) : a.toInt ≤ b.toInt := by
  have h1 := q_nltI h
  have h2 := s_lcmp (a := a) (b := b)
  have e0 : (0 : Int32).toInt = 0 := rfl
  omega
theorem g_ad1 {m c : Int32} {s : Int64} (hm : 1 ≤ m.toInt ∧ m.toInt ≤ 1000) (hc : -10000 ≤ c.toInt ∧ c.toInt ≤ 10000) (hs : -10000 ≤ s.toInt ∧ s.toInt ≤ 10000) (h : c.toInt ≤ s.toInt) : 1 ≤ (m.toInt64 + s - c.toInt64 : Int64).toInt := by
  have e1 : (m.toInt64 + s : Int64).toInt = m.toInt + s.toInt := q_addL (q_i2l rfl) rfl (by omega) (by omega)
  have e2 : (m.toInt64 + s - c.toInt64 : Int64).toInt = (m.toInt + s.toInt) - c.toInt := q_subL e1 (q_i2l rfl) (by omega) (by omega)
  omega
theorem g_ad2 {z : Int64} (h : 1 ≤ z.toInt ∧ z.toInt ≤ 1001) : 1 ≤ (z.toInt32 + 1 : Int32).toInt ∧ (z.toInt32 + 1 : Int32).toInt ≤ 1002 := by
  have e : z.toInt32.toInt = z.toInt := s_l2i (by omega) (by omega)
  have e2 : (z.toInt32 + 1 : Int32).toInt = z.toInt + 1 := q_addI (y := 1) e (by decide) (by omega) (by omega)
  omega
theorem T_DR_add {x2 : Int32} {x3 : Int32} {x4 : Int32} {x5 : Int32} {t0_0 : Int32} {t0_1 : Int32} {t0_2 : Int32} {t0_3 : Int64} {t0_4 : Int32} {t0_5 : Int32} {t0_6 : Int32} {t0_7 : Int32} {t0_8 : Int32} {t0_9 : Int32} {t0_10 : Int32} {t1_0 : (Nat → Int32)} {t2_0 : (Nat → Int32)} {t3_0 : (Nat → Int32)} {t4_0 : (Nat → Int32)} {t5_0 : (Nat → Int32)} (hR : gR t1_0 t2_0 t3_0 t4_0) : (S_DR_add x2 x3 x4 x5 t0_0 t0_1 t0_2 t0_3 t0_4 t0_5 t0_6 t0_7 t0_8 t0_9 t0_10 t1_0 t2_0 t3_0 t4_0 t5_0) ∧ Q_DR_add (F_DR_add x2 x3 x4 x5 t0_0 t0_1 t0_2 t0_3 t0_4 t0_5 t0_6 t0_7 t0_8 t0_9 t0_10 t1_0 t2_0 t3_0 t4_0 t5_0) := by
  have e0 : (0 : Int32).toInt = 0 := rfl
  have eL0 : (0 : Int64).toInt = 0 := rfl
  have eL1 : (10000 : Int64).toInt = 10000 := rfl
  have eL2 : (-10000 : Int64).toInt = -10000 := rfl
  have eL3 : (1000 : Int64).toInt = 1000 := rfl
  have eL4 : (-1 : Int64).toInt = -1 := rfl
  have eI3 : (1000 : Int32).toInt = 1000 := rfl
  have eLa : (1001 : Int64).toInt = 1001 := rfl
  have eLb : (1 : Int64).toInt = 1 := rfl
  unfold S_DR_add F_DR_add
  by_cases g1 : ((F_DR_no x2) : Int32) = (0 : Int32)
  ·
    rw [if_pos g1, if_pos g1]
    have g1r := g_no g1
    by_cases g2 : ((F_DR_no x3) : Int32) = (0 : Int32)
    ·
      rw [if_pos g2, if_pos g2]
      have g2r := g_no g2
      by_cases g3 : ((F_DR_no x4) : Int32) = (0 : Int32)
      ·
        rw [if_pos g3, if_pos g3]
        have g3r := g_no g3
        unfold S_DR_add_J27 F_DR_add_J27
        have g4 : ((0 : Int32) ≤ (0 : Int32)) := (by decide)
        rw [if_pos g4, if_pos g4]
        refine v_cons (by omega) ?_
        refine v_cons (by omega) ?_
        refine v_cons (by omega) ?_
        refine v_cons (by omega) ?_
        by_cases g5 : (t4_0 x2.toNatClampNeg : Int32) ≤ (t4_0 x3.toNatClampNeg : Int32)
        ·
          rw [if_pos g5, if_pos g5]
          have g5i := q_leI g5
          obtain ⟨lx68, e6⟩ := q_nm (((t4_0 x3.toNatClampNeg : Int32).toInt64 : Int64) : Int64)
          rw [e6]
          have h68 : -10000 ≤ lx68.toInt ∧ lx68.toInt ≤ 10000 := by rw [← e6, q_i2l rfl]; exact (gR.at hR (by with_reducible assumption)).2.2
          have h68a : (t4_0 x2.toNatClampNeg).toInt ≤ lx68.toInt := by rw [← e6, q_i2l rfl]; omega
          have h68b : (t4_0 x3.toNatClampNeg).toInt ≤ lx68.toInt := by rw [← e6, q_i2l rfl]; omega
          unfold S_DR_add_J75 F_DR_add_J75
          have h7 := R_dz (x2 := x2) (t0_0 := (0 : Int32)) (t0_1 := t0_1) (t0_2 := t0_2) (t0_3 := t0_3) (t0_4 := t0_4) (t0_5 := t0_5) (t0_6 := t0_6) (t0_7 := t0_7) (t0_8 := t0_8) (t0_9 := t0_9) (t0_10 := (2 : Int32)) (t1_0 := t1_0) (by with_reducible assumption)
          with_reducible refine v_owe h7.1 ?_
          by_cases g8 : ((F_DR_isZero x2 (0 : Int32) t0_1 t0_2 t0_3 t0_4 t0_5 t0_6 t0_7 t0_8 t0_9 (2 : Int32) t1_0) : Int32) = (0 : Int32)
          ·
            rw [if_pos g8, if_pos g8]
            obtain ⟨lx91, e9⟩ := q_nm (((((t2_0 x2.toNatClampNeg : Int32).toInt64 : Int64) + lx68 : Int64) - ((t4_0 x2.toNatClampNeg : Int32).toInt64 : Int64) : Int64) : Int64)
            rw [e9]
            have llx91 : 1 ≤ lx91.toInt := by rw [← e9]; exact g_ad1 (gR.at hR (by with_reducible assumption : 0 ≤ x2.toInt ∧ x2.toInt ≤ 9)).1 (gR.at hR (by with_reducible assumption : 0 ≤ x2.toInt ∧ x2.toInt ≤ 9)).2.2 h68 h68a
            unfold S_DR_add_J107 F_DR_add_J107
            have h10 := R_dz (x2 := x3) (t0_0 := (0 : Int32)) (t0_1 := t0_1) (t0_2 := t0_2) (t0_3 := t0_3) (t0_4 := t0_4) (t0_5 := t0_5) (t0_6 := t0_6) (t0_7 := t0_7) (t0_8 := t0_8) (t0_9 := t0_9) (t0_10 := (2 : Int32)) (t1_0 := t1_0) (by with_reducible assumption)
            with_reducible refine v_owe h10.1 ?_
            by_cases g11 : ((F_DR_isZero x3 (0 : Int32) t0_1 t0_2 t0_3 t0_4 t0_5 t0_6 t0_7 t0_8 t0_9 (2 : Int32) t1_0) : Int32) = (0 : Int32)
            ·
              rw [if_pos g11, if_pos g11]
              obtain ⟨lx114, e12⟩ := q_nm (((((t2_0 x3.toNatClampNeg : Int32).toInt64 : Int64) + lx68 : Int64) - ((t4_0 x3.toNatClampNeg : Int32).toInt64 : Int64) : Int64) : Int64)
              rw [e12]
              have llx114 : 1 ≤ lx114.toInt := by rw [← e12]; exact g_ad1 (gR.at hR (by with_reducible assumption : 0 ≤ x3.toInt ∧ x3.toInt ≤ 9)).1 (gR.at hR (by with_reducible assumption : 0 ≤ x3.toInt ∧ x3.toInt ≤ 9)).2.2 h68 h68b
              unfold S_DR_add_J139 F_DR_add_J139
              by_cases g13 : (0 : Int32) < (lg_cmp lx91 1001 : Int32)
              ·
                rw [if_pos g13, if_pos g13]
                have g13l := g_lc7 g13
                refine ⟨trivial, ?_⟩
                (unfold Q_DR_add; dsimp only; with_reducible assumption)
              ·
                rw [if_neg g13, if_neg g13]
                have g13l := g_lc8 g13
                by_cases g14 : (lg_cmp lx114 1001 : Int32) ≤ (0 : Int32)
                ·
                  rw [if_pos g14, if_pos g14]
                  have g14l := g_lc3 g14
                  with_reducible refine v_owe h10.1 ?_
                  rw [if_pos g11, if_pos g11]
                  by_cases g15 : (t3_0 x3.toNatClampNeg : Int32) = x5
                  ·
                    rw [if_pos g15, if_pos g15]
                    unfold S_DR_add_J188 F_DR_add_J188
                    unfold S_DR_add_J189 F_DR_add_J189
                    with_reducible refine v_owe h7.1 ?_
                    rw [if_pos g8, if_pos g8]
                    with_reducible refine v_owe h10.1 ?_
                    rw [if_pos g11, if_pos g11]
                    by_cases g16 : (t3_0 x2.toNatClampNeg : Int32) = (0 : Int32)
                    ·
                      rw [if_pos g16, if_pos g16]
                      unfold S_DR_add_J218 F_DR_add_J218
                      unfold S_DR_add_J223 F_DR_add_J223
                      have g17 : ¬ ((1 : Int32) = (0 : Int32)) := (by decide)
                      rw [if_neg g17, if_neg g17]
                      unfold S_DR_add_J243 F_DR_add_J243
                      unfold S_DR_add_J244 F_DR_add_J244
                      have g18 : ((0 : Int32) = (0 : Int32)) := (by decide)
                      rw [if_pos g18, if_pos g18]
                      unfold S_DR_add_J256 F_DR_add_J256
                      have g19 : ((0 : Int32) = (0 : Int32)) := (by decide)
                      rw [if_pos g19, if_pos g19]
                      unfold S_DR_add_J268 F_DR_add_J268
                      by_cases g20 : (lg_cmp lx91 lx114 : Int32) ≤ (0 : Int32)
                      ·
                        rw [if_pos g20, if_pos g20]
                        have g20l := g_lc3 g20
                        unfold S_DR_add_J285 F_DR_add_J285
                        have h254 := g_ad2 (z := lx114) ⟨by omega, by omega⟩; exact v_add hR (by with_reducible assumption) (by with_reducible assumption) (by with_reducible assumption) (by with_reducible assumption) (by with_reducible assumption) h68 h254 _ _ _ _ ⟨by omega, by omega⟩ (by omega) (by decide) (fun i hi hj => by omega)
                      ·
                        rw [if_neg g20, if_neg g20]
                        have g20l := g_lc4 g20
                        unfold S_DR_add_J285 F_DR_add_J285
                        have h254 := g_ad2 (z := lx91) ⟨by omega, by omega⟩; exact v_add hR (by with_reducible assumption) (by with_reducible assumption) (by with_reducible assumption) (by with_reducible assumption) (by with_reducible assumption) h68 h254 _ _ _ _ ⟨by omega, by omega⟩ (by omega) (by decide) (fun i hi hj => by omega)
                    ·
                      rw [if_neg g16, if_neg g16]
                      unfold S_DR_add_J223 F_DR_add_J223
                      have g21 : ((0 : Int32) = (0 : Int32)) := (by decide)
                      rw [if_pos g21, if_pos g21]
                      have h22 := T_DR_compareSizes (x2 := x2) (x3 := x3) (t0_0 := (0 : Int32)) (t0_1 := t0_1) (t0_2 := t0_2) (t0_3 := t0_3) (t0_4 := t0_4) (t0_5 := t0_5) (t0_6 := t0_6) (t0_7 := t0_7) (t0_8 := t0_8) (t0_9 := t0_9) (t0_10 := (2 : Int32)) (t1_0 := t1_0) (t2_0 := t2_0) (t3_0 := t4_0) (fun i hi => (hR.2 i hi).1) (by with_reducible assumption) (by with_reducible assumption)
                      with_reducible refine v_owe h22 ?_
                      by_cases g23 : (0 : Int32) ≤ ((F_DR_compareSizes x2 x3 (0 : Int32) t0_1 t0_2 t0_3 t0_4 t0_5 t0_6 t0_7 t0_8 t0_9 (2 : Int32) t1_0 t2_0 t4_0) : Int32)
                      ·
                        rw [if_pos g23, if_pos g23]
                        unfold S_DR_add_J243 F_DR_add_J243
                        unfold S_DR_add_J244 F_DR_add_J244
                        have g24 : ((0 : Int32) = (0 : Int32)) := (by decide)
                        rw [if_pos g24, if_pos g24]
                        unfold S_DR_add_J256 F_DR_add_J256
                        have g25 : ((0 : Int32) = (0 : Int32)) := (by decide)
                        rw [if_pos g25, if_pos g25]
                        unfold S_DR_add_J268 F_DR_add_J268
                        by_cases g26 : (lg_cmp lx91 lx114 : Int32) ≤ (0 : Int32)
                        ·
                          rw [if_pos g26, if_pos g26]
                          have g26l := g_lc3 g26
                          unfold S_DR_add_J285 F_DR_add_J285
                          have h254 := g_ad2 (z := lx114) ⟨by omega, by omega⟩; exact v_add hR (by with_reducible assumption) (by with_reducible assumption) (by with_reducible assumption) (by with_reducible assumption) (by with_reducible assumption) h68 h254 _ _ _ _ ⟨by omega, by omega⟩ (by omega) (by decide) (fun i hi hj => by omega)
                        ·
                          rw [if_neg g26, if_neg g26]
                          have g26l := g_lc4 g26
                          unfold S_DR_add_J285 F_DR_add_J285
                          have h254 := g_ad2 (z := lx91) ⟨by omega, by omega⟩; exact v_add hR (by with_reducible assumption) (by with_reducible assumption) (by with_reducible assumption) (by with_reducible assumption) (by with_reducible assumption) h68 h254 _ _ _ _ ⟨by omega, by omega⟩ (by omega) (by decide) (fun i hi hj => by omega)
                      ·
                        rw [if_neg g23, if_neg g23]
                        unfold S_DR_add_J244 F_DR_add_J244
                        have g27 : ¬ ((1 : Int32) = (0 : Int32)) := (by decide)
                        rw [if_neg g27, if_neg g27]
                        unfold S_DR_add_J256 F_DR_add_J256
                        have g28 : ¬ ((1 : Int32) = (0 : Int32)) := (by decide)
                        rw [if_neg g28, if_neg g28]
                        unfold S_DR_add_J268 F_DR_add_J268
                        by_cases g29 : (lg_cmp lx91 lx114 : Int32) ≤ (0 : Int32)
                        ·
                          rw [if_pos g29, if_pos g29]
                          have g29l := g_lc3 g29
                          unfold S_DR_add_J285 F_DR_add_J285
                          have h254 := g_ad2 (z := lx114) ⟨by omega, by omega⟩; exact v_add hR (by with_reducible assumption) (by with_reducible assumption) (by with_reducible assumption) (by with_reducible assumption) (by with_reducible assumption) h68 h254 _ _ _ _ ⟨by omega, by omega⟩ (by omega) (by decide) (fun i hi hj => by omega)
                        ·
                          rw [if_neg g29, if_neg g29]
                          have g29l := g_lc4 g29
                          unfold S_DR_add_J285 F_DR_add_J285
                          have h254 := g_ad2 (z := lx91) ⟨by omega, by omega⟩; exact v_add hR (by with_reducible assumption) (by with_reducible assumption) (by with_reducible assumption) (by with_reducible assumption) (by with_reducible assumption) h68 h254 _ _ _ _ ⟨by omega, by omega⟩ (by omega) (by decide) (fun i hi hj => by omega)
                  ·
                    rw [if_neg g15, if_neg g15]
                    unfold S_DR_add_J189 F_DR_add_J189
                    with_reducible refine v_owe h7.1 ?_
                    rw [if_pos g8, if_pos g8]
                    with_reducible refine v_owe h10.1 ?_
                    rw [if_pos g11, if_pos g11]
                    by_cases g30 : (t3_0 x2.toNatClampNeg : Int32) = (1 : Int32)
                    ·
                      rw [if_pos g30, if_pos g30]
                      unfold S_DR_add_J218 F_DR_add_J218
                      unfold S_DR_add_J223 F_DR_add_J223
                      have g31 : ¬ ((1 : Int32) = (0 : Int32)) := (by decide)
                      rw [if_neg g31, if_neg g31]
                      unfold S_DR_add_J243 F_DR_add_J243
                      unfold S_DR_add_J244 F_DR_add_J244
                      have g32 : ((0 : Int32) = (0 : Int32)) := (by decide)
                      rw [if_pos g32, if_pos g32]
                      unfold S_DR_add_J256 F_DR_add_J256
                      have g33 : ((0 : Int32) = (0 : Int32)) := (by decide)
                      rw [if_pos g33, if_pos g33]
                      unfold S_DR_add_J268 F_DR_add_J268
                      by_cases g34 : (lg_cmp lx91 lx114 : Int32) ≤ (0 : Int32)
                      ·
                        rw [if_pos g34, if_pos g34]
                        have g34l := g_lc3 g34
                        unfold S_DR_add_J285 F_DR_add_J285
                        have h254 := g_ad2 (z := lx114) ⟨by omega, by omega⟩; exact v_add hR (by with_reducible assumption) (by with_reducible assumption) (by with_reducible assumption) (by with_reducible assumption) (by with_reducible assumption) h68 h254 _ _ _ _ ⟨by omega, by omega⟩ (by omega) (by decide) (fun i hi hj => by omega)
                      ·
                        rw [if_neg g34, if_neg g34]
                        have g34l := g_lc4 g34
                        unfold S_DR_add_J285 F_DR_add_J285
                        have h254 := g_ad2 (z := lx91) ⟨by omega, by omega⟩; exact v_add hR (by with_reducible assumption) (by with_reducible assumption) (by with_reducible assumption) (by with_reducible assumption) (by with_reducible assumption) h68 h254 _ _ _ _ ⟨by omega, by omega⟩ (by omega) (by decide) (fun i hi hj => by omega)
                    ·
                      rw [if_neg g30, if_neg g30]
                      unfold S_DR_add_J223 F_DR_add_J223
                      have g35 : ((0 : Int32) = (0 : Int32)) := (by decide)
                      rw [if_pos g35, if_pos g35]
                      have h36 := T_DR_compareSizes (x2 := x2) (x3 := x3) (t0_0 := (0 : Int32)) (t0_1 := t0_1) (t0_2 := t0_2) (t0_3 := t0_3) (t0_4 := t0_4) (t0_5 := t0_5) (t0_6 := t0_6) (t0_7 := t0_7) (t0_8 := t0_8) (t0_9 := t0_9) (t0_10 := (2 : Int32)) (t1_0 := t1_0) (t2_0 := t2_0) (t3_0 := t4_0) (fun i hi => (hR.2 i hi).1) (by with_reducible assumption) (by with_reducible assumption)
                      with_reducible refine v_owe h36 ?_
                      by_cases g37 : (0 : Int32) ≤ ((F_DR_compareSizes x2 x3 (0 : Int32) t0_1 t0_2 t0_3 t0_4 t0_5 t0_6 t0_7 t0_8 t0_9 (2 : Int32) t1_0 t2_0 t4_0) : Int32)
                      ·
                        rw [if_pos g37, if_pos g37]
                        unfold S_DR_add_J243 F_DR_add_J243
                        unfold S_DR_add_J244 F_DR_add_J244
                        have g38 : ((0 : Int32) = (0 : Int32)) := (by decide)
                        rw [if_pos g38, if_pos g38]
                        unfold S_DR_add_J256 F_DR_add_J256
                        have g39 : ((0 : Int32) = (0 : Int32)) := (by decide)
                        rw [if_pos g39, if_pos g39]
                        unfold S_DR_add_J268 F_DR_add_J268
                        by_cases g40 : (lg_cmp lx91 lx114 : Int32) ≤ (0 : Int32)
                        ·
                          rw [if_pos g40, if_pos g40]
                          have g40l := g_lc3 g40
                          unfold S_DR_add_J285 F_DR_add_J285
                          have h254 := g_ad2 (z := lx114) ⟨by omega, by omega⟩; exact v_add hR (by with_reducible assumption) (by with_reducible assumption) (by with_reducible assumption) (by with_reducible assumption) (by with_reducible assumption) h68 h254 _ _ _ _ ⟨by omega, by omega⟩ (by omega) (by decide) (fun i hi hj => by omega)
                        ·
                          rw [if_neg g40, if_neg g40]
                          have g40l := g_lc4 g40
                          unfold S_DR_add_J285 F_DR_add_J285
                          have h254 := g_ad2 (z := lx91) ⟨by omega, by omega⟩; exact v_add hR (by with_reducible assumption) (by with_reducible assumption) (by with_reducible assumption) (by with_reducible assumption) (by with_reducible assumption) h68 h254 _ _ _ _ ⟨by omega, by omega⟩ (by omega) (by decide) (fun i hi hj => by omega)
                      ·
                        rw [if_neg g37, if_neg g37]
                        unfold S_DR_add_J244 F_DR_add_J244
                        have g41 : ¬ ((1 : Int32) = (0 : Int32)) := (by decide)
                        rw [if_neg g41, if_neg g41]
                        unfold S_DR_add_J256 F_DR_add_J256
                        have g42 : ¬ ((1 : Int32) = (0 : Int32)) := (by decide)
                        rw [if_neg g42, if_neg g42]
                        unfold S_DR_add_J268 F_DR_add_J268
                        by_cases g43 : (lg_cmp lx91 lx114 : Int32) ≤ (0 : Int32)
                        ·
                          rw [if_pos g43, if_pos g43]
                          have g43l := g_lc3 g43
                          unfold S_DR_add_J285 F_DR_add_J285
                          have h254 := g_ad2 (z := lx114) ⟨by omega, by omega⟩; exact v_add hR (by with_reducible assumption) (by with_reducible assumption) (by with_reducible assumption) (by with_reducible assumption) (by with_reducible assumption) h68 h254 _ _ _ _ ⟨by omega, by omega⟩ (by omega) (by decide) (fun i hi hj => by omega)
                        ·
                          rw [if_neg g43, if_neg g43]
                          have g43l := g_lc4 g43
                          unfold S_DR_add_J285 F_DR_add_J285
                          have h254 := g_ad2 (z := lx91) ⟨by omega, by omega⟩; exact v_add hR (by with_reducible assumption) (by with_reducible assumption) (by with_reducible assumption) (by with_reducible assumption) (by with_reducible assumption) h68 h254 _ _ _ _ ⟨by omega, by omega⟩ (by omega) (by decide) (fun i hi hj => by omega)
                ·
                  rw [if_neg g14, if_neg g14]
                  have g14l := g_lc4 g14
                  refine ⟨trivial, ?_⟩
                  (unfold Q_DR_add; dsimp only; with_reducible assumption)
            ·
              rw [if_neg g11, if_neg g11]
              unfold S_DR_add_J139 F_DR_add_J139
              by_cases g44 : (0 : Int32) < (lg_cmp lx91 1001 : Int32)
              ·
                rw [if_pos g44, if_pos g44]
                have g44l := g_lc7 g44
                refine ⟨trivial, ?_⟩
                (unfold Q_DR_add; dsimp only; with_reducible assumption)
              ·
                rw [if_neg g44, if_neg g44]
                have g44l := g_lc8 g44
                by_cases g45 : (lg_cmp (1 : Int64) 1001 : Int32) ≤ (0 : Int32)
                ·
                  rw [if_pos g45, if_pos g45]
                  have g45l := g_lc3 g45
                  with_reducible refine v_owe h10.1 ?_
                  rw [if_neg g11, if_neg g11]
                  unfold S_DR_add_J188 F_DR_add_J188
                  unfold S_DR_add_J189 F_DR_add_J189
                  with_reducible refine v_owe h7.1 ?_
                  rw [if_pos g8, if_pos g8]
                  with_reducible refine v_owe h10.1 ?_
                  rw [if_neg g11, if_neg g11]
                  unfold S_DR_add_J218 F_DR_add_J218
                  unfold S_DR_add_J223 F_DR_add_J223
                  have g46 : ¬ ((1 : Int32) = (0 : Int32)) := (by decide)
                  rw [if_neg g46, if_neg g46]
                  unfold S_DR_add_J243 F_DR_add_J243
                  unfold S_DR_add_J244 F_DR_add_J244
                  have g47 : ((0 : Int32) = (0 : Int32)) := (by decide)
                  rw [if_pos g47, if_pos g47]
                  unfold S_DR_add_J256 F_DR_add_J256
                  have g48 : ((0 : Int32) = (0 : Int32)) := (by decide)
                  rw [if_pos g48, if_pos g48]
                  unfold S_DR_add_J268 F_DR_add_J268
                  by_cases g49 : (lg_cmp lx91 (1 : Int64) : Int32) ≤ (0 : Int32)
                  ·
                    rw [if_pos g49, if_pos g49]
                    have g49l := g_lc3 g49
                    unfold S_DR_add_J285 F_DR_add_J285
                    have h254 := g_ad2 (z := (1 : Int64)) ⟨by omega, by omega⟩; exact v_add hR (by with_reducible assumption) (by with_reducible assumption) (by with_reducible assumption) (by with_reducible assumption) (by with_reducible assumption) h68 h254 _ _ _ _ ⟨by omega, by omega⟩ (by omega) (by decide) (fun i hi hj => by omega)
                  ·
                    rw [if_neg g49, if_neg g49]
                    have g49l := g_lc4 g49
                    unfold S_DR_add_J285 F_DR_add_J285
                    have h254 := g_ad2 (z := lx91) ⟨by omega, by omega⟩; exact v_add hR (by with_reducible assumption) (by with_reducible assumption) (by with_reducible assumption) (by with_reducible assumption) (by with_reducible assumption) h68 h254 _ _ _ _ ⟨by omega, by omega⟩ (by omega) (by decide) (fun i hi hj => by omega)
                ·
                  rw [if_neg g45, if_neg g45]
                  have g45l := g_lc4 g45
                  refine ⟨trivial, ?_⟩
                  (unfold Q_DR_add; dsimp only; with_reducible assumption)
          ·
            rw [if_neg g8, if_neg g8]
            unfold S_DR_add_J107 F_DR_add_J107
            have h50 := R_dz (x2 := x3) (t0_0 := (0 : Int32)) (t0_1 := t0_1) (t0_2 := t0_2) (t0_3 := t0_3) (t0_4 := t0_4) (t0_5 := t0_5) (t0_6 := t0_6) (t0_7 := t0_7) (t0_8 := t0_8) (t0_9 := t0_9) (t0_10 := (2 : Int32)) (t1_0 := t1_0) (by with_reducible assumption)
            with_reducible refine v_owe h50.1 ?_
            by_cases g51 : ((F_DR_isZero x3 (0 : Int32) t0_1 t0_2 t0_3 t0_4 t0_5 t0_6 t0_7 t0_8 t0_9 (2 : Int32) t1_0) : Int32) = (0 : Int32)
            ·
              rw [if_pos g51, if_pos g51]
              obtain ⟨lx114, e52⟩ := q_nm (((((t2_0 x3.toNatClampNeg : Int32).toInt64 : Int64) + lx68 : Int64) - ((t4_0 x3.toNatClampNeg : Int32).toInt64 : Int64) : Int64) : Int64)
              rw [e52]
              have llx114 : 1 ≤ lx114.toInt := by rw [← e52]; exact g_ad1 (gR.at hR (by with_reducible assumption : 0 ≤ x3.toInt ∧ x3.toInt ≤ 9)).1 (gR.at hR (by with_reducible assumption : 0 ≤ x3.toInt ∧ x3.toInt ≤ 9)).2.2 h68 h68b
              unfold S_DR_add_J139 F_DR_add_J139
              by_cases g53 : (0 : Int32) < (lg_cmp (1 : Int64) 1001 : Int32)
              ·
                rw [if_pos g53, if_pos g53]
                have g53l := g_lc7 g53
                refine ⟨trivial, ?_⟩
                (unfold Q_DR_add; dsimp only; with_reducible assumption)
              ·
                rw [if_neg g53, if_neg g53]
                have g53l := g_lc8 g53
                by_cases g54 : (lg_cmp lx114 1001 : Int32) ≤ (0 : Int32)
                ·
                  rw [if_pos g54, if_pos g54]
                  have g54l := g_lc3 g54
                  with_reducible refine v_owe h50.1 ?_
                  rw [if_pos g51, if_pos g51]
                  by_cases g55 : (t3_0 x3.toNatClampNeg : Int32) = x5
                  ·
                    rw [if_pos g55, if_pos g55]
                    unfold S_DR_add_J188 F_DR_add_J188
                    unfold S_DR_add_J189 F_DR_add_J189
                    with_reducible refine v_owe h7.1 ?_
                    rw [if_neg g8, if_neg g8]
                    unfold S_DR_add_J218 F_DR_add_J218
                    unfold S_DR_add_J223 F_DR_add_J223
                    have g56 : ¬ ((1 : Int32) = (0 : Int32)) := (by decide)
                    rw [if_neg g56, if_neg g56]
                    unfold S_DR_add_J243 F_DR_add_J243
                    unfold S_DR_add_J244 F_DR_add_J244
                    have g57 : ((0 : Int32) = (0 : Int32)) := (by decide)
                    rw [if_pos g57, if_pos g57]
                    unfold S_DR_add_J256 F_DR_add_J256
                    have g58 : ((0 : Int32) = (0 : Int32)) := (by decide)
                    rw [if_pos g58, if_pos g58]
                    unfold S_DR_add_J268 F_DR_add_J268
                    by_cases g59 : (lg_cmp (1 : Int64) lx114 : Int32) ≤ (0 : Int32)
                    ·
                      rw [if_pos g59, if_pos g59]
                      have g59l := g_lc3 g59
                      unfold S_DR_add_J285 F_DR_add_J285
                      have h254 := g_ad2 (z := lx114) ⟨by omega, by omega⟩; exact v_add hR (by with_reducible assumption) (by with_reducible assumption) (by with_reducible assumption) (by with_reducible assumption) (by with_reducible assumption) h68 h254 _ _ _ _ ⟨by omega, by omega⟩ (by omega) (by decide) (fun i hi hj => by omega)
                    ·
                      rw [if_neg g59, if_neg g59]
                      have g59l := g_lc4 g59
                      unfold S_DR_add_J285 F_DR_add_J285
                      have h254 := g_ad2 (z := (1 : Int64)) ⟨by omega, by omega⟩; exact v_add hR (by with_reducible assumption) (by with_reducible assumption) (by with_reducible assumption) (by with_reducible assumption) (by with_reducible assumption) h68 h254 _ _ _ _ ⟨by omega, by omega⟩ (by omega) (by decide) (fun i hi hj => by omega)
                  ·
                    rw [if_neg g55, if_neg g55]
                    unfold S_DR_add_J189 F_DR_add_J189
                    with_reducible refine v_owe h7.1 ?_
                    rw [if_neg g8, if_neg g8]
                    unfold S_DR_add_J218 F_DR_add_J218
                    unfold S_DR_add_J223 F_DR_add_J223
                    have g60 : ¬ ((1 : Int32) = (0 : Int32)) := (by decide)
                    rw [if_neg g60, if_neg g60]
                    unfold S_DR_add_J243 F_DR_add_J243
                    unfold S_DR_add_J244 F_DR_add_J244
                    have g61 : ((0 : Int32) = (0 : Int32)) := (by decide)
                    rw [if_pos g61, if_pos g61]
                    unfold S_DR_add_J256 F_DR_add_J256
                    have g62 : ((0 : Int32) = (0 : Int32)) := (by decide)
                    rw [if_pos g62, if_pos g62]
                    unfold S_DR_add_J268 F_DR_add_J268
                    by_cases g63 : (lg_cmp (1 : Int64) lx114 : Int32) ≤ (0 : Int32)
                    ·
                      rw [if_pos g63, if_pos g63]
                      have g63l := g_lc3 g63
                      unfold S_DR_add_J285 F_DR_add_J285
                      have h254 := g_ad2 (z := lx114) ⟨by omega, by omega⟩; exact v_add hR (by with_reducible assumption) (by with_reducible assumption) (by with_reducible assumption) (by with_reducible assumption) (by with_reducible assumption) h68 h254 _ _ _ _ ⟨by omega, by omega⟩ (by omega) (by decide) (fun i hi hj => by omega)
                    ·
                      rw [if_neg g63, if_neg g63]
                      have g63l := g_lc4 g63
                      unfold S_DR_add_J285 F_DR_add_J285
                      have h254 := g_ad2 (z := (1 : Int64)) ⟨by omega, by omega⟩; exact v_add hR (by with_reducible assumption) (by with_reducible assumption) (by with_reducible assumption) (by with_reducible assumption) (by with_reducible assumption) h68 h254 _ _ _ _ ⟨by omega, by omega⟩ (by omega) (by decide) (fun i hi hj => by omega)
                ·
                  rw [if_neg g54, if_neg g54]
                  have g54l := g_lc4 g54
                  refine ⟨trivial, ?_⟩
                  (unfold Q_DR_add; dsimp only; with_reducible assumption)
            ·
              rw [if_neg g51, if_neg g51]
              unfold S_DR_add_J139 F_DR_add_J139
              by_cases g64 : (0 : Int32) < (lg_cmp (1 : Int64) 1001 : Int32)
              ·
                rw [if_pos g64, if_pos g64]
                have g64l := g_lc7 g64
                refine ⟨trivial, ?_⟩
                (unfold Q_DR_add; dsimp only; with_reducible assumption)
              ·
                rw [if_neg g64, if_neg g64]
                have g64l := g_lc8 g64
                by_cases g65 : (lg_cmp (1 : Int64) 1001 : Int32) ≤ (0 : Int32)
                ·
                  rw [if_pos g65, if_pos g65]
                  have g65l := g_lc3 g65
                  with_reducible refine v_owe h50.1 ?_
                  rw [if_neg g51, if_neg g51]
                  unfold S_DR_add_J188 F_DR_add_J188
                  unfold S_DR_add_J189 F_DR_add_J189
                  with_reducible refine v_owe h7.1 ?_
                  rw [if_neg g8, if_neg g8]
                  unfold S_DR_add_J218 F_DR_add_J218
                  unfold S_DR_add_J223 F_DR_add_J223
                  have g66 : ¬ ((1 : Int32) = (0 : Int32)) := (by decide)
                  rw [if_neg g66, if_neg g66]
                  unfold S_DR_add_J243 F_DR_add_J243
                  unfold S_DR_add_J244 F_DR_add_J244
                  have g67 : ((0 : Int32) = (0 : Int32)) := (by decide)
                  rw [if_pos g67, if_pos g67]
                  unfold S_DR_add_J256 F_DR_add_J256
                  have g68 : ((0 : Int32) = (0 : Int32)) := (by decide)
                  rw [if_pos g68, if_pos g68]
                  unfold S_DR_add_J268 F_DR_add_J268
                  by_cases g69 : (lg_cmp (1 : Int64) (1 : Int64) : Int32) ≤ (0 : Int32)
                  ·
                    rw [if_pos g69, if_pos g69]
                    have g69l := g_lc3 g69
                    unfold S_DR_add_J285 F_DR_add_J285
                    have h254 := g_ad2 (z := (1 : Int64)) ⟨by omega, by omega⟩; exact v_add hR (by with_reducible assumption) (by with_reducible assumption) (by with_reducible assumption) (by with_reducible assumption) (by with_reducible assumption) h68 h254 _ _ _ _ ⟨by omega, by omega⟩ (by omega) (by decide) (fun i hi hj => by omega)
                  ·
                    rw [if_neg g69, if_neg g69]
                    have g69l := g_lc4 g69
                    unfold S_DR_add_J285 F_DR_add_J285
                    have h254 := g_ad2 (z := (1 : Int64)) ⟨by omega, by omega⟩; exact v_add hR (by with_reducible assumption) (by with_reducible assumption) (by with_reducible assumption) (by with_reducible assumption) (by with_reducible assumption) h68 h254 _ _ _ _ ⟨by omega, by omega⟩ (by omega) (by decide) (fun i hi hj => by omega)
                ·
                  rw [if_neg g65, if_neg g65]
                  have g65l := g_lc4 g65
                  refine ⟨trivial, ?_⟩
                  (unfold Q_DR_add; dsimp only; with_reducible assumption)
        ·
          rw [if_neg g5, if_neg g5]
          have g5i := q_nleI g5
          obtain ⟨lx68, e70⟩ := q_nm (((t4_0 x2.toNatClampNeg : Int32).toInt64 : Int64) : Int64)
          rw [e70]
          have h68 : -10000 ≤ lx68.toInt ∧ lx68.toInt ≤ 10000 := by rw [← e70, q_i2l rfl]; exact (gR.at hR (by with_reducible assumption)).2.2
          have h68a : (t4_0 x2.toNatClampNeg).toInt ≤ lx68.toInt := by rw [← e70, q_i2l rfl]; omega
          have h68b : (t4_0 x3.toNatClampNeg).toInt ≤ lx68.toInt := by rw [← e70, q_i2l rfl]; omega
          unfold S_DR_add_J75 F_DR_add_J75
          have h71 := R_dz (x2 := x2) (t0_0 := (0 : Int32)) (t0_1 := t0_1) (t0_2 := t0_2) (t0_3 := t0_3) (t0_4 := t0_4) (t0_5 := t0_5) (t0_6 := t0_6) (t0_7 := t0_7) (t0_8 := t0_8) (t0_9 := t0_9) (t0_10 := (2 : Int32)) (t1_0 := t1_0) (by with_reducible assumption)
          with_reducible refine v_owe h71.1 ?_
          by_cases g72 : ((F_DR_isZero x2 (0 : Int32) t0_1 t0_2 t0_3 t0_4 t0_5 t0_6 t0_7 t0_8 t0_9 (2 : Int32) t1_0) : Int32) = (0 : Int32)
          ·
            rw [if_pos g72, if_pos g72]
            obtain ⟨lx91, e73⟩ := q_nm (((((t2_0 x2.toNatClampNeg : Int32).toInt64 : Int64) + lx68 : Int64) - ((t4_0 x2.toNatClampNeg : Int32).toInt64 : Int64) : Int64) : Int64)
            rw [e73]
            have llx91 : 1 ≤ lx91.toInt := by rw [← e73]; exact g_ad1 (gR.at hR (by with_reducible assumption : 0 ≤ x2.toInt ∧ x2.toInt ≤ 9)).1 (gR.at hR (by with_reducible assumption : 0 ≤ x2.toInt ∧ x2.toInt ≤ 9)).2.2 h68 h68a
            unfold S_DR_add_J107 F_DR_add_J107
            have h74 := R_dz (x2 := x3) (t0_0 := (0 : Int32)) (t0_1 := t0_1) (t0_2 := t0_2) (t0_3 := t0_3) (t0_4 := t0_4) (t0_5 := t0_5) (t0_6 := t0_6) (t0_7 := t0_7) (t0_8 := t0_8) (t0_9 := t0_9) (t0_10 := (2 : Int32)) (t1_0 := t1_0) (by with_reducible assumption)
            with_reducible refine v_owe h74.1 ?_
            by_cases g75 : ((F_DR_isZero x3 (0 : Int32) t0_1 t0_2 t0_3 t0_4 t0_5 t0_6 t0_7 t0_8 t0_9 (2 : Int32) t1_0) : Int32) = (0 : Int32)
            ·
              rw [if_pos g75, if_pos g75]
              obtain ⟨lx114, e76⟩ := q_nm (((((t2_0 x3.toNatClampNeg : Int32).toInt64 : Int64) + lx68 : Int64) - ((t4_0 x3.toNatClampNeg : Int32).toInt64 : Int64) : Int64) : Int64)
              rw [e76]
              have llx114 : 1 ≤ lx114.toInt := by rw [← e76]; exact g_ad1 (gR.at hR (by with_reducible assumption : 0 ≤ x3.toInt ∧ x3.toInt ≤ 9)).1 (gR.at hR (by with_reducible assumption : 0 ≤ x3.toInt ∧ x3.toInt ≤ 9)).2.2 h68 h68b
              unfold S_DR_add_J139 F_DR_add_J139
              by_cases g77 : (0 : Int32) < (lg_cmp lx91 1001 : Int32)
              ·
                rw [if_pos g77, if_pos g77]
                have g77l := g_lc7 g77
                refine ⟨trivial, ?_⟩
                (unfold Q_DR_add; dsimp only; with_reducible assumption)
              ·
                rw [if_neg g77, if_neg g77]
                have g77l := g_lc8 g77
                by_cases g78 : (lg_cmp lx114 1001 : Int32) ≤ (0 : Int32)
                ·
                  rw [if_pos g78, if_pos g78]
                  have g78l := g_lc3 g78
                  with_reducible refine v_owe h74.1 ?_
                  rw [if_pos g75, if_pos g75]
                  by_cases g79 : (t3_0 x3.toNatClampNeg : Int32) = x5
                  ·
                    rw [if_pos g79, if_pos g79]
                    unfold S_DR_add_J188 F_DR_add_J188
                    unfold S_DR_add_J189 F_DR_add_J189
                    with_reducible refine v_owe h71.1 ?_
                    rw [if_pos g72, if_pos g72]
                    with_reducible refine v_owe h74.1 ?_
                    rw [if_pos g75, if_pos g75]
                    by_cases g80 : (t3_0 x2.toNatClampNeg : Int32) = (0 : Int32)
                    ·
                      rw [if_pos g80, if_pos g80]
                      unfold S_DR_add_J218 F_DR_add_J218
                      unfold S_DR_add_J223 F_DR_add_J223
                      have g81 : ¬ ((1 : Int32) = (0 : Int32)) := (by decide)
                      rw [if_neg g81, if_neg g81]
                      unfold S_DR_add_J243 F_DR_add_J243
                      unfold S_DR_add_J244 F_DR_add_J244
                      have g82 : ((0 : Int32) = (0 : Int32)) := (by decide)
                      rw [if_pos g82, if_pos g82]
                      unfold S_DR_add_J256 F_DR_add_J256
                      have g83 : ((0 : Int32) = (0 : Int32)) := (by decide)
                      rw [if_pos g83, if_pos g83]
                      unfold S_DR_add_J268 F_DR_add_J268
                      by_cases g84 : (lg_cmp lx91 lx114 : Int32) ≤ (0 : Int32)
                      ·
                        rw [if_pos g84, if_pos g84]
                        have g84l := g_lc3 g84
                        unfold S_DR_add_J285 F_DR_add_J285
                        have h254 := g_ad2 (z := lx114) ⟨by omega, by omega⟩; exact v_add hR (by with_reducible assumption) (by with_reducible assumption) (by with_reducible assumption) (by with_reducible assumption) (by with_reducible assumption) h68 h254 _ _ _ _ ⟨by omega, by omega⟩ (by omega) (by decide) (fun i hi hj => by omega)
                      ·
                        rw [if_neg g84, if_neg g84]
                        have g84l := g_lc4 g84
                        unfold S_DR_add_J285 F_DR_add_J285
                        have h254 := g_ad2 (z := lx91) ⟨by omega, by omega⟩; exact v_add hR (by with_reducible assumption) (by with_reducible assumption) (by with_reducible assumption) (by with_reducible assumption) (by with_reducible assumption) h68 h254 _ _ _ _ ⟨by omega, by omega⟩ (by omega) (by decide) (fun i hi hj => by omega)
                    ·
                      rw [if_neg g80, if_neg g80]
                      unfold S_DR_add_J223 F_DR_add_J223
                      have g85 : ((0 : Int32) = (0 : Int32)) := (by decide)
                      rw [if_pos g85, if_pos g85]
                      have h86 := T_DR_compareSizes (x2 := x2) (x3 := x3) (t0_0 := (0 : Int32)) (t0_1 := t0_1) (t0_2 := t0_2) (t0_3 := t0_3) (t0_4 := t0_4) (t0_5 := t0_5) (t0_6 := t0_6) (t0_7 := t0_7) (t0_8 := t0_8) (t0_9 := t0_9) (t0_10 := (2 : Int32)) (t1_0 := t1_0) (t2_0 := t2_0) (t3_0 := t4_0) (fun i hi => (hR.2 i hi).1) (by with_reducible assumption) (by with_reducible assumption)
                      with_reducible refine v_owe h86 ?_
                      by_cases g87 : (0 : Int32) ≤ ((F_DR_compareSizes x2 x3 (0 : Int32) t0_1 t0_2 t0_3 t0_4 t0_5 t0_6 t0_7 t0_8 t0_9 (2 : Int32) t1_0 t2_0 t4_0) : Int32)
                      ·
                        rw [if_pos g87, if_pos g87]
                        unfold S_DR_add_J243 F_DR_add_J243
                        unfold S_DR_add_J244 F_DR_add_J244
                        have g88 : ((0 : Int32) = (0 : Int32)) := (by decide)
                        rw [if_pos g88, if_pos g88]
                        unfold S_DR_add_J256 F_DR_add_J256
                        have g89 : ((0 : Int32) = (0 : Int32)) := (by decide)
                        rw [if_pos g89, if_pos g89]
                        unfold S_DR_add_J268 F_DR_add_J268
                        by_cases g90 : (lg_cmp lx91 lx114 : Int32) ≤ (0 : Int32)
                        ·
                          rw [if_pos g90, if_pos g90]
                          have g90l := g_lc3 g90
                          unfold S_DR_add_J285 F_DR_add_J285
                          have h254 := g_ad2 (z := lx114) ⟨by omega, by omega⟩; exact v_add hR (by with_reducible assumption) (by with_reducible assumption) (by with_reducible assumption) (by with_reducible assumption) (by with_reducible assumption) h68 h254 _ _ _ _ ⟨by omega, by omega⟩ (by omega) (by decide) (fun i hi hj => by omega)
                        ·
                          rw [if_neg g90, if_neg g90]
                          have g90l := g_lc4 g90
                          unfold S_DR_add_J285 F_DR_add_J285
                          have h254 := g_ad2 (z := lx91) ⟨by omega, by omega⟩; exact v_add hR (by with_reducible assumption) (by with_reducible assumption) (by with_reducible assumption) (by with_reducible assumption) (by with_reducible assumption) h68 h254 _ _ _ _ ⟨by omega, by omega⟩ (by omega) (by decide) (fun i hi hj => by omega)
                      ·
                        rw [if_neg g87, if_neg g87]
                        unfold S_DR_add_J244 F_DR_add_J244
                        have g91 : ¬ ((1 : Int32) = (0 : Int32)) := (by decide)
                        rw [if_neg g91, if_neg g91]
                        unfold S_DR_add_J256 F_DR_add_J256
                        have g92 : ¬ ((1 : Int32) = (0 : Int32)) := (by decide)
                        rw [if_neg g92, if_neg g92]
                        unfold S_DR_add_J268 F_DR_add_J268
                        by_cases g93 : (lg_cmp lx91 lx114 : Int32) ≤ (0 : Int32)
                        ·
                          rw [if_pos g93, if_pos g93]
                          have g93l := g_lc3 g93
                          unfold S_DR_add_J285 F_DR_add_J285
                          have h254 := g_ad2 (z := lx114) ⟨by omega, by omega⟩; exact v_add hR (by with_reducible assumption) (by with_reducible assumption) (by with_reducible assumption) (by with_reducible assumption) (by with_reducible assumption) h68 h254 _ _ _ _ ⟨by omega, by omega⟩ (by omega) (by decide) (fun i hi hj => by omega)
                        ·
                          rw [if_neg g93, if_neg g93]
                          have g93l := g_lc4 g93
                          unfold S_DR_add_J285 F_DR_add_J285
                          have h254 := g_ad2 (z := lx91) ⟨by omega, by omega⟩; exact v_add hR (by with_reducible assumption) (by with_reducible assumption) (by with_reducible assumption) (by with_reducible assumption) (by with_reducible assumption) h68 h254 _ _ _ _ ⟨by omega, by omega⟩ (by omega) (by decide) (fun i hi hj => by omega)
                  ·
                    rw [if_neg g79, if_neg g79]
                    unfold S_DR_add_J189 F_DR_add_J189
                    with_reducible refine v_owe h71.1 ?_
                    rw [if_pos g72, if_pos g72]
                    with_reducible refine v_owe h74.1 ?_
                    rw [if_pos g75, if_pos g75]
                    by_cases g94 : (t3_0 x2.toNatClampNeg : Int32) = (1 : Int32)
                    ·
                      rw [if_pos g94, if_pos g94]
                      unfold S_DR_add_J218 F_DR_add_J218
                      unfold S_DR_add_J223 F_DR_add_J223
                      have g95 : ¬ ((1 : Int32) = (0 : Int32)) := (by decide)
                      rw [if_neg g95, if_neg g95]
                      unfold S_DR_add_J243 F_DR_add_J243
                      unfold S_DR_add_J244 F_DR_add_J244
                      have g96 : ((0 : Int32) = (0 : Int32)) := (by decide)
                      rw [if_pos g96, if_pos g96]
                      unfold S_DR_add_J256 F_DR_add_J256
                      have g97 : ((0 : Int32) = (0 : Int32)) := (by decide)
                      rw [if_pos g97, if_pos g97]
                      unfold S_DR_add_J268 F_DR_add_J268
                      by_cases g98 : (lg_cmp lx91 lx114 : Int32) ≤ (0 : Int32)
                      ·
                        rw [if_pos g98, if_pos g98]
                        have g98l := g_lc3 g98
                        unfold S_DR_add_J285 F_DR_add_J285
                        have h254 := g_ad2 (z := lx114) ⟨by omega, by omega⟩; exact v_add hR (by with_reducible assumption) (by with_reducible assumption) (by with_reducible assumption) (by with_reducible assumption) (by with_reducible assumption) h68 h254 _ _ _ _ ⟨by omega, by omega⟩ (by omega) (by decide) (fun i hi hj => by omega)
                      ·
                        rw [if_neg g98, if_neg g98]
                        have g98l := g_lc4 g98
                        unfold S_DR_add_J285 F_DR_add_J285
                        have h254 := g_ad2 (z := lx91) ⟨by omega, by omega⟩; exact v_add hR (by with_reducible assumption) (by with_reducible assumption) (by with_reducible assumption) (by with_reducible assumption) (by with_reducible assumption) h68 h254 _ _ _ _ ⟨by omega, by omega⟩ (by omega) (by decide) (fun i hi hj => by omega)
                    ·
                      rw [if_neg g94, if_neg g94]
                      unfold S_DR_add_J223 F_DR_add_J223
                      have g99 : ((0 : Int32) = (0 : Int32)) := (by decide)
                      rw [if_pos g99, if_pos g99]
                      have h100 := T_DR_compareSizes (x2 := x2) (x3 := x3) (t0_0 := (0 : Int32)) (t0_1 := t0_1) (t0_2 := t0_2) (t0_3 := t0_3) (t0_4 := t0_4) (t0_5 := t0_5) (t0_6 := t0_6) (t0_7 := t0_7) (t0_8 := t0_8) (t0_9 := t0_9) (t0_10 := (2 : Int32)) (t1_0 := t1_0) (t2_0 := t2_0) (t3_0 := t4_0) (fun i hi => (hR.2 i hi).1) (by with_reducible assumption) (by with_reducible assumption)
                      with_reducible refine v_owe h100 ?_
                      by_cases g101 : (0 : Int32) ≤ ((F_DR_compareSizes x2 x3 (0 : Int32) t0_1 t0_2 t0_3 t0_4 t0_5 t0_6 t0_7 t0_8 t0_9 (2 : Int32) t1_0 t2_0 t4_0) : Int32)
                      ·
                        rw [if_pos g101, if_pos g101]
                        unfold S_DR_add_J243 F_DR_add_J243
                        unfold S_DR_add_J244 F_DR_add_J244
                        have g102 : ((0 : Int32) = (0 : Int32)) := (by decide)
                        rw [if_pos g102, if_pos g102]
                        unfold S_DR_add_J256 F_DR_add_J256
                        have g103 : ((0 : Int32) = (0 : Int32)) := (by decide)
                        rw [if_pos g103, if_pos g103]
                        unfold S_DR_add_J268 F_DR_add_J268
                        by_cases g104 : (lg_cmp lx91 lx114 : Int32) ≤ (0 : Int32)
                        ·
                          rw [if_pos g104, if_pos g104]
                          have g104l := g_lc3 g104
                          unfold S_DR_add_J285 F_DR_add_J285
                          have h254 := g_ad2 (z := lx114) ⟨by omega, by omega⟩; exact v_add hR (by with_reducible assumption) (by with_reducible assumption) (by with_reducible assumption) (by with_reducible assumption) (by with_reducible assumption) h68 h254 _ _ _ _ ⟨by omega, by omega⟩ (by omega) (by decide) (fun i hi hj => by omega)
                        ·
                          rw [if_neg g104, if_neg g104]
                          have g104l := g_lc4 g104
                          unfold S_DR_add_J285 F_DR_add_J285
                          have h254 := g_ad2 (z := lx91) ⟨by omega, by omega⟩; exact v_add hR (by with_reducible assumption) (by with_reducible assumption) (by with_reducible assumption) (by with_reducible assumption) (by with_reducible assumption) h68 h254 _ _ _ _ ⟨by omega, by omega⟩ (by omega) (by decide) (fun i hi hj => by omega)
                      ·
                        rw [if_neg g101, if_neg g101]
                        unfold S_DR_add_J244 F_DR_add_J244
                        have g105 : ¬ ((1 : Int32) = (0 : Int32)) := (by decide)
                        rw [if_neg g105, if_neg g105]
                        unfold S_DR_add_J256 F_DR_add_J256
                        have g106 : ¬ ((1 : Int32) = (0 : Int32)) := (by decide)
                        rw [if_neg g106, if_neg g106]
                        unfold S_DR_add_J268 F_DR_add_J268
                        by_cases g107 : (lg_cmp lx91 lx114 : Int32) ≤ (0 : Int32)
                        ·
                          rw [if_pos g107, if_pos g107]
                          have g107l := g_lc3 g107
                          unfold S_DR_add_J285 F_DR_add_J285
                          have h254 := g_ad2 (z := lx114) ⟨by omega, by omega⟩; exact v_add hR (by with_reducible assumption) (by with_reducible assumption) (by with_reducible assumption) (by with_reducible assumption) (by with_reducible assumption) h68 h254 _ _ _ _ ⟨by omega, by omega⟩ (by omega) (by decide) (fun i hi hj => by omega)
                        ·
                          rw [if_neg g107, if_neg g107]
                          have g107l := g_lc4 g107
                          unfold S_DR_add_J285 F_DR_add_J285
                          have h254 := g_ad2 (z := lx91) ⟨by omega, by omega⟩; exact v_add hR (by with_reducible assumption) (by with_reducible assumption) (by with_reducible assumption) (by with_reducible assumption) (by with_reducible assumption) h68 h254 _ _ _ _ ⟨by omega, by omega⟩ (by omega) (by decide) (fun i hi hj => by omega)
                ·
                  rw [if_neg g78, if_neg g78]
                  have g78l := g_lc4 g78
                  refine ⟨trivial, ?_⟩
                  (unfold Q_DR_add; dsimp only; with_reducible assumption)
            ·
              rw [if_neg g75, if_neg g75]
              unfold S_DR_add_J139 F_DR_add_J139
              by_cases g108 : (0 : Int32) < (lg_cmp lx91 1001 : Int32)
              ·
                rw [if_pos g108, if_pos g108]
                have g108l := g_lc7 g108
                refine ⟨trivial, ?_⟩
                (unfold Q_DR_add; dsimp only; with_reducible assumption)
              ·
                rw [if_neg g108, if_neg g108]
                have g108l := g_lc8 g108
                by_cases g109 : (lg_cmp (1 : Int64) 1001 : Int32) ≤ (0 : Int32)
                ·
                  rw [if_pos g109, if_pos g109]
                  have g109l := g_lc3 g109
                  with_reducible refine v_owe h74.1 ?_
                  rw [if_neg g75, if_neg g75]
                  unfold S_DR_add_J188 F_DR_add_J188
                  unfold S_DR_add_J189 F_DR_add_J189
                  with_reducible refine v_owe h71.1 ?_
                  rw [if_pos g72, if_pos g72]
                  with_reducible refine v_owe h74.1 ?_
                  rw [if_neg g75, if_neg g75]
                  unfold S_DR_add_J218 F_DR_add_J218
                  unfold S_DR_add_J223 F_DR_add_J223
                  have g110 : ¬ ((1 : Int32) = (0 : Int32)) := (by decide)
                  rw [if_neg g110, if_neg g110]
                  unfold S_DR_add_J243 F_DR_add_J243
                  unfold S_DR_add_J244 F_DR_add_J244
                  have g111 : ((0 : Int32) = (0 : Int32)) := (by decide)
                  rw [if_pos g111, if_pos g111]
                  unfold S_DR_add_J256 F_DR_add_J256
                  have g112 : ((0 : Int32) = (0 : Int32)) := (by decide)
                  rw [if_pos g112, if_pos g112]
                  unfold S_DR_add_J268 F_DR_add_J268
                  by_cases g113 : (lg_cmp lx91 (1 : Int64) : Int32) ≤ (0 : Int32)
                  ·
                    rw [if_pos g113, if_pos g113]
                    have g113l := g_lc3 g113
                    unfold S_DR_add_J285 F_DR_add_J285
                    have h254 := g_ad2 (z := (1 : Int64)) ⟨by omega, by omega⟩; exact v_add hR (by with_reducible assumption) (by with_reducible assumption) (by with_reducible assumption) (by with_reducible assumption) (by with_reducible assumption) h68 h254 _ _ _ _ ⟨by omega, by omega⟩ (by omega) (by decide) (fun i hi hj => by omega)
                  ·
                    rw [if_neg g113, if_neg g113]
                    have g113l := g_lc4 g113
                    unfold S_DR_add_J285 F_DR_add_J285
                    have h254 := g_ad2 (z := lx91) ⟨by omega, by omega⟩; exact v_add hR (by with_reducible assumption) (by with_reducible assumption) (by with_reducible assumption) (by with_reducible assumption) (by with_reducible assumption) h68 h254 _ _ _ _ ⟨by omega, by omega⟩ (by omega) (by decide) (fun i hi hj => by omega)
                ·
                  rw [if_neg g109, if_neg g109]
                  have g109l := g_lc4 g109
                  refine ⟨trivial, ?_⟩
                  (unfold Q_DR_add; dsimp only; with_reducible assumption)
          ·
            rw [if_neg g72, if_neg g72]
            unfold S_DR_add_J107 F_DR_add_J107
            have h114 := R_dz (x2 := x3) (t0_0 := (0 : Int32)) (t0_1 := t0_1) (t0_2 := t0_2) (t0_3 := t0_3) (t0_4 := t0_4) (t0_5 := t0_5) (t0_6 := t0_6) (t0_7 := t0_7) (t0_8 := t0_8) (t0_9 := t0_9) (t0_10 := (2 : Int32)) (t1_0 := t1_0) (by with_reducible assumption)
            with_reducible refine v_owe h114.1 ?_
            by_cases g115 : ((F_DR_isZero x3 (0 : Int32) t0_1 t0_2 t0_3 t0_4 t0_5 t0_6 t0_7 t0_8 t0_9 (2 : Int32) t1_0) : Int32) = (0 : Int32)
            ·
              rw [if_pos g115, if_pos g115]
              obtain ⟨lx114, e116⟩ := q_nm (((((t2_0 x3.toNatClampNeg : Int32).toInt64 : Int64) + lx68 : Int64) - ((t4_0 x3.toNatClampNeg : Int32).toInt64 : Int64) : Int64) : Int64)
              rw [e116]
              have llx114 : 1 ≤ lx114.toInt := by rw [← e116]; exact g_ad1 (gR.at hR (by with_reducible assumption : 0 ≤ x3.toInt ∧ x3.toInt ≤ 9)).1 (gR.at hR (by with_reducible assumption : 0 ≤ x3.toInt ∧ x3.toInt ≤ 9)).2.2 h68 h68b
              unfold S_DR_add_J139 F_DR_add_J139
              by_cases g117 : (0 : Int32) < (lg_cmp (1 : Int64) 1001 : Int32)
              ·
                rw [if_pos g117, if_pos g117]
                have g117l := g_lc7 g117
                refine ⟨trivial, ?_⟩
                (unfold Q_DR_add; dsimp only; with_reducible assumption)
              ·
                rw [if_neg g117, if_neg g117]
                have g117l := g_lc8 g117
                by_cases g118 : (lg_cmp lx114 1001 : Int32) ≤ (0 : Int32)
                ·
                  rw [if_pos g118, if_pos g118]
                  have g118l := g_lc3 g118
                  with_reducible refine v_owe h114.1 ?_
                  rw [if_pos g115, if_pos g115]
                  by_cases g119 : (t3_0 x3.toNatClampNeg : Int32) = x5
                  ·
                    rw [if_pos g119, if_pos g119]
                    unfold S_DR_add_J188 F_DR_add_J188
                    unfold S_DR_add_J189 F_DR_add_J189
                    with_reducible refine v_owe h71.1 ?_
                    rw [if_neg g72, if_neg g72]
                    unfold S_DR_add_J218 F_DR_add_J218
                    unfold S_DR_add_J223 F_DR_add_J223
                    have g120 : ¬ ((1 : Int32) = (0 : Int32)) := (by decide)
                    rw [if_neg g120, if_neg g120]
                    unfold S_DR_add_J243 F_DR_add_J243
                    unfold S_DR_add_J244 F_DR_add_J244
                    have g121 : ((0 : Int32) = (0 : Int32)) := (by decide)
                    rw [if_pos g121, if_pos g121]
                    unfold S_DR_add_J256 F_DR_add_J256
                    have g122 : ((0 : Int32) = (0 : Int32)) := (by decide)
                    rw [if_pos g122, if_pos g122]
                    unfold S_DR_add_J268 F_DR_add_J268
                    by_cases g123 : (lg_cmp (1 : Int64) lx114 : Int32) ≤ (0 : Int32)
                    ·
                      rw [if_pos g123, if_pos g123]
                      have g123l := g_lc3 g123
                      unfold S_DR_add_J285 F_DR_add_J285
                      have h254 := g_ad2 (z := lx114) ⟨by omega, by omega⟩; exact v_add hR (by with_reducible assumption) (by with_reducible assumption) (by with_reducible assumption) (by with_reducible assumption) (by with_reducible assumption) h68 h254 _ _ _ _ ⟨by omega, by omega⟩ (by omega) (by decide) (fun i hi hj => by omega)
                    ·
                      rw [if_neg g123, if_neg g123]
                      have g123l := g_lc4 g123
                      unfold S_DR_add_J285 F_DR_add_J285
                      have h254 := g_ad2 (z := (1 : Int64)) ⟨by omega, by omega⟩; exact v_add hR (by with_reducible assumption) (by with_reducible assumption) (by with_reducible assumption) (by with_reducible assumption) (by with_reducible assumption) h68 h254 _ _ _ _ ⟨by omega, by omega⟩ (by omega) (by decide) (fun i hi hj => by omega)
                  ·
                    rw [if_neg g119, if_neg g119]
                    unfold S_DR_add_J189 F_DR_add_J189
                    with_reducible refine v_owe h71.1 ?_
                    rw [if_neg g72, if_neg g72]
                    unfold S_DR_add_J218 F_DR_add_J218
                    unfold S_DR_add_J223 F_DR_add_J223
                    have g124 : ¬ ((1 : Int32) = (0 : Int32)) := (by decide)
                    rw [if_neg g124, if_neg g124]
                    unfold S_DR_add_J243 F_DR_add_J243
                    unfold S_DR_add_J244 F_DR_add_J244
                    have g125 : ((0 : Int32) = (0 : Int32)) := (by decide)
                    rw [if_pos g125, if_pos g125]
                    unfold S_DR_add_J256 F_DR_add_J256
                    have g126 : ((0 : Int32) = (0 : Int32)) := (by decide)
                    rw [if_pos g126, if_pos g126]
                    unfold S_DR_add_J268 F_DR_add_J268
                    by_cases g127 : (lg_cmp (1 : Int64) lx114 : Int32) ≤ (0 : Int32)
                    ·
                      rw [if_pos g127, if_pos g127]
                      have g127l := g_lc3 g127
                      unfold S_DR_add_J285 F_DR_add_J285
                      have h254 := g_ad2 (z := lx114) ⟨by omega, by omega⟩; exact v_add hR (by with_reducible assumption) (by with_reducible assumption) (by with_reducible assumption) (by with_reducible assumption) (by with_reducible assumption) h68 h254 _ _ _ _ ⟨by omega, by omega⟩ (by omega) (by decide) (fun i hi hj => by omega)
                    ·
                      rw [if_neg g127, if_neg g127]
                      have g127l := g_lc4 g127
                      unfold S_DR_add_J285 F_DR_add_J285
                      have h254 := g_ad2 (z := (1 : Int64)) ⟨by omega, by omega⟩; exact v_add hR (by with_reducible assumption) (by with_reducible assumption) (by with_reducible assumption) (by with_reducible assumption) (by with_reducible assumption) h68 h254 _ _ _ _ ⟨by omega, by omega⟩ (by omega) (by decide) (fun i hi hj => by omega)
                ·
                  rw [if_neg g118, if_neg g118]
                  have g118l := g_lc4 g118
                  refine ⟨trivial, ?_⟩
                  (unfold Q_DR_add; dsimp only; with_reducible assumption)
            ·
              rw [if_neg g115, if_neg g115]
              unfold S_DR_add_J139 F_DR_add_J139
              by_cases g128 : (0 : Int32) < (lg_cmp (1 : Int64) 1001 : Int32)
              ·
                rw [if_pos g128, if_pos g128]
                have g128l := g_lc7 g128
                refine ⟨trivial, ?_⟩
                (unfold Q_DR_add; dsimp only; with_reducible assumption)
              ·
                rw [if_neg g128, if_neg g128]
                have g128l := g_lc8 g128
                by_cases g129 : (lg_cmp (1 : Int64) 1001 : Int32) ≤ (0 : Int32)
                ·
                  rw [if_pos g129, if_pos g129]
                  have g129l := g_lc3 g129
                  with_reducible refine v_owe h114.1 ?_
                  rw [if_neg g115, if_neg g115]
                  unfold S_DR_add_J188 F_DR_add_J188
                  unfold S_DR_add_J189 F_DR_add_J189
                  with_reducible refine v_owe h71.1 ?_
                  rw [if_neg g72, if_neg g72]
                  unfold S_DR_add_J218 F_DR_add_J218
                  unfold S_DR_add_J223 F_DR_add_J223
                  have g130 : ¬ ((1 : Int32) = (0 : Int32)) := (by decide)
                  rw [if_neg g130, if_neg g130]
                  unfold S_DR_add_J243 F_DR_add_J243
                  unfold S_DR_add_J244 F_DR_add_J244
                  have g131 : ((0 : Int32) = (0 : Int32)) := (by decide)
                  rw [if_pos g131, if_pos g131]
                  unfold S_DR_add_J256 F_DR_add_J256
                  have g132 : ((0 : Int32) = (0 : Int32)) := (by decide)
                  rw [if_pos g132, if_pos g132]
                  unfold S_DR_add_J268 F_DR_add_J268
                  by_cases g133 : (lg_cmp (1 : Int64) (1 : Int64) : Int32) ≤ (0 : Int32)
                  ·
                    rw [if_pos g133, if_pos g133]
                    have g133l := g_lc3 g133
                    unfold S_DR_add_J285 F_DR_add_J285
                    have h254 := g_ad2 (z := (1 : Int64)) ⟨by omega, by omega⟩; exact v_add hR (by with_reducible assumption) (by with_reducible assumption) (by with_reducible assumption) (by with_reducible assumption) (by with_reducible assumption) h68 h254 _ _ _ _ ⟨by omega, by omega⟩ (by omega) (by decide) (fun i hi hj => by omega)
                  ·
                    rw [if_neg g133, if_neg g133]
                    have g133l := g_lc4 g133
                    unfold S_DR_add_J285 F_DR_add_J285
                    have h254 := g_ad2 (z := (1 : Int64)) ⟨by omega, by omega⟩; exact v_add hR (by with_reducible assumption) (by with_reducible assumption) (by with_reducible assumption) (by with_reducible assumption) (by with_reducible assumption) h68 h254 _ _ _ _ ⟨by omega, by omega⟩ (by omega) (by decide) (fun i hi hj => by omega)
                ·
                  rw [if_neg g129, if_neg g129]
                  have g129l := g_lc4 g129
                  refine ⟨trivial, ?_⟩
                  (unfold Q_DR_add; dsimp only; with_reducible assumption)
      ·
        rw [if_neg g3, if_neg g3]
        unfold S_DR_add_J22 F_DR_add_J22
        unfold S_DR_add_J27 F_DR_add_J27
        have g134 : ¬ ((1 : Int32) ≤ (0 : Int32)) := (by decide)
        rw [if_neg g134, if_neg g134]
        refine ⟨trivial, ?_⟩
        (unfold Q_DR_add; dsimp only; with_reducible assumption)
    ·
      rw [if_neg g2, if_neg g2]
      unfold S_DR_add_J22 F_DR_add_J22
      unfold S_DR_add_J27 F_DR_add_J27
      have g135 : ¬ ((1 : Int32) ≤ (0 : Int32)) := (by decide)
      rw [if_neg g135, if_neg g135]
      refine ⟨trivial, ?_⟩
      (unfold Q_DR_add; dsimp only; with_reducible assumption)
  ·
    rw [if_neg g1, if_neg g1]
    unfold S_DR_add_J22 F_DR_add_J22
    unfold S_DR_add_J27 F_DR_add_J27
    have g136 : ¬ ((1 : Int32) ≤ (0 : Int32)) := (by decide)
    rw [if_neg g136, if_neg g136]
    refine ⟨trivial, ?_⟩
    (unfold Q_DR_add; dsimp only; with_reducible assumption)

/-! DecimalRows: the value of figures; reaches, takeAway, nextFigure -/
def uV (f : Nat → Int32) : Nat → Int
  | 0 => 0
  | n + 1 => uV f n * 10 + (f n).toInt
theorem u_pos (n : Nat) : (0 : Int) < 10 ^ n := Int.pow_pos (by decide)
theorem u_pw (n : Nat) : (10 : Int) ^ (n + 1) = 10 ^ n * 10 := Int.pow_succ _ _
theorem u_nn {f : Nat → Int32} : ∀ {n : Nat}, gO f n → 0 ≤ uV f n
  | 0, _ => Int.le_refl 0
  | n + 1, h => by
    have h1 := u_nn (f := f) (n := n) (h.mono (by omega))
    have h2 := (h n (by omega)).1
    show 0 ≤ uV f n * 10 + _
    omega
theorem u_lt {f : Nat → Int32} : ∀ {n : Nat}, gO f n → uV f n < 10 ^ n
  | 0, _ => by show (0 : Int) < 1; decide
  | n + 1, h => by
    have h1 := u_lt (f := f) (n := n) (h.mono (by omega))
    have h2 := (h n (by omega)).2
    show uV f n * 10 + _ < _
    rw [u_pw]
    omega
theorem u_ext {f g : Nat → Int32} : ∀ {n : Nat}, (∀ i, i < n → f i = g i) → uV f n = uV g n
  | 0, _ => rfl
  | n + 1, h => by
    show uV f n * 10 + _ = uV g n * 10 + _
    rw [u_ext (n := n) (fun i hi => h i (by omega)), h n (by omega)]
theorem u_zer {f : Nat → Int32} : ∀ {n : Nat}, (∀ i, i < n → f i = 0) → uV f n = 0
  | 0, _ => rfl
  | n + 1, h => by
    show uV f n * 10 + _ = 0
    rw [u_zer (n := n) (fun i hi => h i (by omega)), h n (by omega)]
    rfl
theorem u_tl {f : Nat → Int32} : ∀ {n : Nat}, uV f (n + 1) = (f 0).toInt * 10 ^ n + uV (fun i => f (i + 1)) n
  | 0 => by show 0 * 10 + (f 0).toInt = (f 0).toInt * 1 + 0; omega
  | n + 1 => by
    show uV f (n + 1) * 10 + (f (n + 1)).toInt = (f 0).toInt * 10 ^ (n + 1) + (uV (fun i => f (i + 1)) n * 10 + (f (n + 1)).toInt)
    rw [u_tl (n := n), u_pw, Int.add_mul, Int.mul_assoc]
    omega
theorem u_cmp {g h : Nat → Int32} {k : Nat} (e : uV g k = uV h k) (hk : (g k).toInt < (h k).toInt) : ∀ {n : Nat}, k < n → gO g n → gO h n → uV g n < uV h n
  | 0, hn, _, _ => by omega
  | n + 1, hn, hg, hh => by
    show uV g n * 10 + _ < uV h n * 10 + _
    by_cases c : k = n
    · subst c; rw [e]; omega
    · have h1 := u_cmp e hk (n := n) (by omega) (hg.mono (by omega)) (hh.mono (by omega))
      have h2 := (hg n (by omega)).2
      have h3 := (hh n (by omega)).1
      omega
theorem u_updge {f : Nat → Int32} {i : Nat} {x : Int32} : ∀ {n : Nat}, n ≤ i → uV (upd f i x) n = uV f n
  | 0, _ => rfl
  | n + 1, h => by
    show uV (upd f i x) n * 10 + _ = uV f n * 10 + _
    rw [u_updge (n := n) (by omega), v_ne (by omega)]
theorem u_upd {f : Nat → Int32} {i : Nat} {x : Int32} : ∀ {n : Nat}, i < n → uV (upd f i x) n = uV f n + (x.toInt - (f i).toInt) * 10 ^ (n - 1 - i)
  | 0, h => by omega
  | n + 1, h => by
    show uV (upd f i x) n * 10 + (upd f i x n).toInt = uV f n * 10 + (f n).toInt + _
    by_cases c : i = n
    · subst c
      have e : i + 1 - 1 - i = 0 := by omega
      rw [u_updge (Nat.le_refl _), v_eq, e, Int.pow_zero, Int.mul_one]
      omega
    · have e : n + 1 - 1 - i = (n - 1 - i) + 1 := by omega
      rw [u_upd (n := n) (by omega), v_ne (by omega), e, u_pw, Int.add_mul, Int.mul_assoc]
      omega
section UD
variable {t0_0 t0_1 t0_2 : Int32} {t0_3 : Int64} {t0_4 t0_5 t0_6 t0_7 t0_8 t0_9 t0_10 : Int32} {un : Nat → Int32} {u : Nat}
theorem u_reL {le : Nat → Int32} (hu : t0_7.toInt = u) (h9 : u ≤ 2199) (hg : gO un u) (hl : gO le (u + 1)) : ∀ (n k : Nat) (x : Int32), x.toInt = k → k ≤ u → u - k < n → wE (uV (fun i => le (i + 1)) k) (uV un k) →
    S_DR_reaches_L13 t0_0 t0_1 t0_2 t0_3 t0_4 t0_5 t0_6 t0_7 t0_8 t0_9 t0_10 un le n x ∧ ((F_DR_reaches_L13 t0_0 t0_1 t0_2 t0_3 t0_4 t0_5 t0_6 t0_7 t0_8 t0_9 t0_10 un le n x = 0 ∧ uV (fun i => le (i + 1)) u < uV un u) ∨ (F_DR_reaches_L13 t0_0 t0_1 t0_2 t0_3 t0_4 t0_5 t0_6 t0_7 t0_8 t0_9 t0_10 un le n x ≠ 0 ∧ uV un u ≤ uV (fun i => le (i + 1)) u)) := by
  have hl1 : gO (fun i => le (i + 1)) u := fun i hi => hl (i + 1) (by omega)
  intro n
  induction n with
  | zero => intro k x hx h1 h2 he; omega
  | succ n ih =>
    intro k x hx h1 h2 he
    have ex : x.toNatClampNeg = k := by have := q_clI (i := x) hx (by omega); omega
    have e1 : (x + 1 : Int32).toInt = (k : Int) + 1 := q_addI (y := 1) hx (by decide) (by omega) (by omega)
    have ex1 : (x + 1 : Int32).toNatClampNeg = k + 1 := by have := q_clI (i := x + 1) e1 (by omega); omega
    rw [S_DR_reaches_L13.eq_2, F_DR_reaches_L13.eq_2]
    by_cases c : t0_7 ≤ x
    · rw [if_pos c, if_pos c]
      have c2 := q_leI c
      have : k = u := by omega
      subst this
      refine ⟨trivial, Or.inr ⟨by decide, ?_⟩⟩
      have he : _ = _ := he
      rw [he]
      exact Int.le_refl _
    · rw [if_neg c, if_neg c]
      have c2 := q_nleI c
      rw [ex, ex1]
      refine v_cons (by omega) (v_cons (by omega) ?_)
      by_cases d : le (k + 1) = un k
      · rw [if_pos d, if_pos d]
        refine ih (k + 1) (x + 1) (by omega) (by omega) (by omega) ?_
        have he : _ = _ := he
        show uV (fun i => le (i + 1)) k * 10 + (le (k + 1)).toInt = uV un k * 10 + (un k).toInt
        rw [he, d]
      · rw [if_neg d, if_neg d]
        have d2 : (le (k + 1)).toInt ≠ (un k).toInt := fun e => d (Int32.toInt_inj.mp e)
        have he : _ = _ := he
        by_cases y : le (k + 1) ≤ un k
        · rw [if_pos y, if_pos y]
          have y1 := q_leI y
          exact ⟨trivial, Or.inl ⟨rfl, u_cmp (g := fun i => le (i + 1)) he (show (le (k + 1)).toInt < (un k).toInt by omega) (by omega) hl1 hg⟩⟩
        · rw [if_neg y, if_neg y]
          have y1 := q_nleI y
          exact ⟨trivial, Or.inr ⟨by decide, Int.le_of_lt (u_cmp (h := fun i => le (i + 1)) he.symm y1 (by omega) hg hl1)⟩⟩
/-- the figures that are left reach what is under them -/
theorem R_reach {le : Nat → Int32} (hu : t0_7.toInt = u) (h9 : u ≤ 2199) (hg : gO un u) (hl : gO le (u + 1)) : S_DR_reaches t0_0 t0_1 t0_2 t0_3 t0_4 t0_5 t0_6 t0_7 t0_8 t0_9 t0_10 un le ∧ ((F_DR_reaches t0_0 t0_1 t0_2 t0_3 t0_4 t0_5 t0_6 t0_7 t0_8 t0_9 t0_10 un le = 0 ∧ uV le (u + 1) < uV un u) ∨ (F_DR_reaches t0_0 t0_1 t0_2 t0_3 t0_4 t0_5 t0_6 t0_7 t0_8 t0_9 t0_10 un le ≠ 0 ∧ uV un u ≤ uV le (u + 1))) := by
  unfold S_DR_reaches F_DR_reaches
  have z : (0 : Int32).toNatClampNeg = 0 := rfl
  have e0 : (0 : Int32).toInt = 0 := rfl
  have hl1 : gO (fun i => le (i + 1)) u := fun i hi => hl (i + 1) (by omega)
  rw [z, u_tl]
  by_cases c : le 0 = 0
  · rw [if_pos c, if_pos c, c, e0, Int.zero_mul, Int.zero_add]
    exact u_reL hu h9 hg hl _ 0 0 rfl (by omega) (by omega) rfl
  · rw [if_neg c, if_neg c]
    refine ⟨trivial, Or.inr ⟨by decide, ?_⟩⟩
    have h1 := (hl 0 (by omega)).1
    have h2 : (le 0).toInt ≠ 0 := fun e => c (Int32.toInt_inj.mp (by rw [e]; rfl))
    have h3 := Int.mul_le_mul_of_nonneg_right (show 1 ≤ (le 0).toInt by omega) (Int.le_of_lt (u_pos u))
    have h4 := u_lt hg
    have h5 := u_nn hl1
    rw [Int.one_mul] at h3
    generalize (le 0).toInt * 10 ^ u = a at *
    generalize (10 : Int) ^ u = b at *
    generalize uV (fun i => le (i + 1)) u = d at *
    generalize uV un u = e at *
    omega
theorem u_tkId {V L U E v o k c c' a b : Int} (h : V + c * E = L - (U - (a * 10 + b) * E)) (hv : v + 10 * c' = o - b + c) : (V + (v - o) * E) + c' * (E * 10) = L - (U - a * (E * 10)) := by
  have h2 : (v + 10 * c') * E = (o - b + c) * E := by rw [hv]
  simp only [Int.add_mul, Int.sub_mul] at h h2 ⊢
  have e1 : c' * (E * 10) = 10 * c' * E := by rw [Int.mul_comm E, ← Int.mul_assoc, Int.mul_comm c']
  have e2 : a * (E * 10) = a * 10 * E := by rw [Int.mul_comm E, ← Int.mul_assoc]
  rw [e1, e2]
  omega
theorem u_tkL {l0 : Nat → Int32} {L : Int} (hu : t0_7.toInt = u) (h9 : u ≤ 2199) (hg : gO un u) (hUL : wL (uV un u - 1) L) : ∀ (n K : Nat) (k c : Int32) (le : Nat → Int32), (K : Int) = k.toInt + 1 → K ≤ u → K < n → gO le (u + 1) → (c.toInt = 0 ∨ c.toInt = -1) → wE (uV le (u + 1) + c.toInt * 10 ^ (u - K)) (L - (uV un u - uV un K * 10 ^ (u - K))) →
    S_DR_takeAway_L9 t0_0 t0_1 t0_2 t0_3 t0_4 t0_5 t0_6 t0_7 t0_8 t0_9 t0_10 un l0 n k c le ∧ (gO (F_DR_takeAway_L9 t0_0 t0_1 t0_2 t0_3 t0_4 t0_5 t0_6 t0_7 t0_8 t0_9 t0_10 un l0 n k c le) (u + 1) ∧ uV (F_DR_takeAway_L9 t0_0 t0_1 t0_2 t0_3 t0_4 t0_5 t0_6 t0_7 t0_8 t0_9 t0_10 un l0 n k c le) (u + 1) = L - uV un u) := by
  intro n
  induction n with
  | zero => intro K k c le k0 k1 k2 hl hc he; omega
  | succ n ih =>
    intro K k c le k0 k1 k2 hl hc he
    have z : (0 : Int32).toNatClampNeg = 0 := rfl
    have e0 : (0 : Int32).toInt = 0 := rfl
    rw [S_DR_takeAway_L9.eq_2, F_DR_takeAway_L9.eq_2]
    by_cases d : k < 0
    · rw [if_pos d, if_pos d]
      have d2 := q_ltI d
      have : K = 0 := by omega
      subst this
      have he : uV le (u + 1) + c.toInt * 10 ^ (u - 0) = L - (uV un u - 0 * _) := he
      rw [Int.zero_mul, Nat.sub_zero, Int.sub_zero] at he
      have l0' := hl 0 (by omega)
      have ec : (le 0 + c : Int32).toInt = (le 0).toInt + c.toInt := q_addI rfl rfl (by omega) (by omega)
      have hn : 0 ≤ (le 0).toInt + c.toInt := by
        by_cases w : 0 ≤ (le 0).toInt + c.toInt
        · exact w
        · have w1 : (le 0).toInt = 0 := by omega
          have w2 : c.toInt = -1 := by omega
          rw [u_tl, w1, w2, Int.zero_mul, Int.zero_add] at he
          have hl1 : gO (fun i => le (i + 1)) u := fun i hi => hl (i + 1) (by omega)
          have h4 := u_lt hl1
          have h5 : uV un u - 1 < L := hUL
          rw [Int.neg_mul, Int.one_mul] at he
          generalize (10 : Int) ^ u = b at *
          generalize uV (fun i => le (i + 1)) u = d at *
          generalize uV un u = e at *
          exact absurd h4 (by clear ih; omega)
      rw [z]
      refine ⟨trivial, gO_upd hl (by rw [ec]; omega), ?_⟩
      have en : u + 1 - 1 - 0 = u := by omega
      rw [u_upd (by omega), ec, en, ← he]
      have e9 : (le 0).toInt + c.toInt - (le 0).toInt = c.toInt := by omega
      rw [e9]
    · rw [if_neg d, if_neg d]
      have d2 := q_nltI d
      obtain ⟨j, rfl⟩ : ∃ j, K = j + 1 := ⟨K - 1, by omega⟩
      have ek : k.toNatClampNeg = j := by have := q_clI (i := k) rfl (by omega); omega
      have e1 : (k + 1 : Int32).toInt = k.toInt + 1 := q_addI (y := 1) rfl (by decide) (by omega) (by omega)
      have ek1 : (k + 1 : Int32).toNatClampNeg = j + 1 := by have := q_clI (i := k + 1) e1 (by omega); omega
      refine v_cons (by omega) (v_cons (by omega) (v_cons (by omega) ?_))
      rw [ek, ek1]
      have lj := hl (j + 1) (by omega)
      have uj := hg j (by omega)
      generalize hA : le (j + 1) = a at *
      generalize hB : un j = b at *
      have v1 : (a - b : Int32).toInt = a.toInt - b.toInt := q_subI rfl rfl (by omega) (by omega)
      have v2 : (a - b + c : Int32).toInt = (a.toInt - b.toInt) + c.toInt := q_addI v1 rfl (by omega) (by omega)
      have ep : u - j = (u - (j + 1)) + 1 := by omega
      have eq : u + 1 - 1 - (j + 1) = u - (j + 1) := by omega
      have kd : ∀ x y : Int32, k + (-1) = y → y.toInt = k.toInt - 1 := fun x y h => by rw [← h]; exact g_dec d2
      obtain ⟨k', hk'⟩ := q_nm (k + (-1))
      have kk := kd 0 k' hk'
      rw [hk']
      have he : uV le (u + 1) + c.toInt * 10 ^ (u - (j + 1)) = L - (uV un u - (uV un j * 10 + (un j).toInt) * 10 ^ (u - (j + 1))) := he
      rw [hB] at he
      by_cases w : (0 : Int32) ≤ a - b + c
      · rw [if_pos w, if_pos w]
        have w1 := q_leI w
        refine ih j k' 0 _ (by omega) (by omega) (by omega) (gO_upd hl (by rw [v2]; omega)) (Or.inl rfl) ?_
        show _ = _
        rw [u_upd (by omega), eq, ep, u_pw, hA]
        exact u_tkId (k := 0) he (by rw [v2, e0]; omega)
      · rw [if_neg w, if_neg w]
        have w1 := q_nleI w
        have v3 : (a - b + c + 10 : Int32).toInt = ((a.toInt - b.toInt) + c.toInt) + 10 := q_addI (y := 10) v2 (by decide) (by omega) (by omega)
        refine ih j k' (-1) _ (by omega) (by omega) (by omega) (gO_upd hl (by rw [v3]; omega)) (Or.inr rfl) ?_
        show _ = _
        have em : (-1 : Int32).toInt = -1 := rfl
        rw [u_upd (by omega), eq, ep, u_pw, hA, em]
        exact u_tkId (k := 0) he (by rw [v3]; omega)
theorem R_takeA {le : Nat → Int32} (hu : t0_7.toInt = u) (h0 : 1 ≤ u) (h9 : u ≤ 2199) (hg : gO un u) (hl : gO le (u + 1)) (hUL : uV un u ≤ uV le (u + 1)) : S_DR_takeAway t0_0 t0_1 t0_2 t0_3 t0_4 t0_5 t0_6 t0_7 t0_8 t0_9 t0_10 un le ∧ (gO (F_DR_takeAway t0_0 t0_1 t0_2 t0_3 t0_4 t0_5 t0_6 t0_7 t0_8 t0_9 t0_10 un le) (u + 1) ∧ uV (F_DR_takeAway t0_0 t0_1 t0_2 t0_3 t0_4 t0_5 t0_6 t0_7 t0_8 t0_9 t0_10 un le) (u + 1) = uV le (u + 1) - uV un u) := by
  have e1 : (t0_7 - 1 : Int32).toInt = (u : Int) - 1 := q_subI (y := 1) hu (by decide) (by omega) (by omega)
  unfold S_DR_takeAway F_DR_takeAway
  refine u_tkL hu h9 hg (show uV un u - 1 < uV le (u + 1) by omega) _ u (t0_7 - 1) 0 le (by omega) (Nat.le_refl _) (by omega) hl (Or.inl rfl) ?_
  show _ + 0 * _ = _ - (_ - _ * 10 ^ (u - u))
  rw [Nat.sub_self, Int.pow_zero, Int.mul_one, Int.mul_one, Int.sub_self, Int.sub_zero, Int.add_zero]
end UD

/-! DecimalRows: nextFigure, loadUnder, beginQuotient, append -/
/-- the division at work: what is left is below what is under it -/
def uW (z : Int32) (un le : Nat → Int32) : Prop := (1 ≤ z.toInt ∧ z.toInt ≤ 2199) ∧ gO un z.toNatClampNeg ∧ gO le (z.toNatClampNeg + 1) ∧ wL (uV le (z.toNatClampNeg + 1)) (uV un z.toNatClampNeg)
section UE
variable {x2 t0_0 t0_1 t0_2 : Int32} {t0_3 : Int64} {t0_4 t0_5 t0_6 t0_7 t0_8 t0_9 t0_10 : Int32} {un l0 : Nat → Int32} {u : Nat}
def uQ (z : Int32) (un : Nat → Int32) (L : Int) (p : Int32 × (Nat → Int32)) : Prop := (0 ≤ p.1.toInt ∧ p.1.toInt ≤ 9) ∧ uW z un p.2 ∧ wE (p.1.toInt * uV un z.toNatClampNeg + uV p.2 (z.toNatClampNeg + 1)) L
theorem u_9 {d U l L : Int} (h : d * U + l = L) (hl : 0 ≤ l) (hL : L < 10 * U) (hU : 0 < U) : d ≤ 9 := by
  by_cases c : d ≤ 9
  · exact c
  · have := Int.mul_le_mul_of_nonneg_right (show 10 ≤ d by omega) (Int.le_of_lt hU)
    omega
theorem u_nfL {KF : Int32 → (Nat → Int32) → Int32 × (Nat → Int32)} {KS : Int32 → (Nat → Int32) → Prop} {a24 : Int32} {f25 : Nat → Int32} {L : Int} (hu : t0_7.toInt = u) (h0 : 1 ≤ u) (h9 : u ≤ 2199) (hg : gO un u) (hU : wL 0 (uV un u)) (hL : wL L (10 * uV un u)) : ∀ (n : Nat) (d : Int32) (le : Nat → Int32), 0 ≤ d.toInt → 10 ≤ d.toInt + n → gO le (u + 1) → wE (d.toInt * uV un u + uV le (u + 1)) L →
    S_DR_nextFigure_L42 KS x2 t0_0 t0_1 t0_2 t0_3 t0_4 t0_5 t0_6 t0_7 t0_8 t0_9 t0_10 un l0 a24 f25 n d le ∧ uQ t0_7 un L (F_DR_nextFigure_L42 KF x2 t0_0 t0_1 t0_2 t0_3 t0_4 t0_5 t0_6 t0_7 t0_8 t0_9 t0_10 un l0 a24 f25 n d le) := by
  have eu : t0_7.toNatClampNeg = u := by have := q_clI (i := t0_7) hu (by omega); omega
  intro n
  induction n with
  | zero =>
    intro d le d0 d1 hl he
    have := u_9 he (u_nn hl) hL hU
    exact absurd d1 (by clear he; omega)
  | succ n ih =>
    intro d le d0 d1 hl he
    have d9 := u_9 he (u_nn hl) hL hU
    obtain ⟨r1, r2⟩ := R_reach (t0_0 := t0_0) (t0_1 := t0_1) (t0_2 := t0_2) (t0_3 := t0_3) (t0_4 := t0_4) (t0_5 := t0_5) (t0_6 := t0_6) (t0_8 := t0_8) (t0_9 := t0_9) (t0_10 := t0_10) hu h9 hg hl
    rw [S_DR_nextFigure_L42.eq_2, F_DR_nextFigure_L42.eq_2]
    with_reducible refine v_owe r1 ?_
    by_cases c : F_DR_reaches t0_0 t0_1 t0_2 t0_3 t0_4 t0_5 t0_6 t0_7 t0_8 t0_9 t0_10 un le = 0
    · rw [if_pos c, if_pos c]
      refine ⟨trivial, ⟨d0, d9⟩, ⟨⟨by omega, by omega⟩, by rw [eu]; exact hg, by rw [eu]; exact hl, ?_⟩, by rw [eu]; exact he⟩
      show _ < _
      rw [eu]
      rcases r2 with ⟨-, h⟩ | ⟨h, -⟩
      · exact h
      · exact absurd c h
    · rw [if_neg c, if_neg c]
      have hUL : uV un u ≤ uV le (u + 1) := by
        rcases r2 with ⟨h, -⟩ | ⟨-, h⟩
        · exact absurd h c
        · exact h
      obtain ⟨s1, s2, s3⟩ := R_takeA (t0_0 := t0_0) (t0_1 := t0_1) (t0_2 := t0_2) (t0_3 := t0_3) (t0_4 := t0_4) (t0_5 := t0_5) (t0_6 := t0_6) (t0_8 := t0_8) (t0_9 := t0_9) (t0_10 := t0_10) hu h0 h9 hg hl hUL
      with_reducible refine v_owe s1 ?_
      have e1 : (d + 1 : Int32).toInt = d.toInt + 1 := q_addI (y := 1) rfl (by decide) (by clear he s3 hUL r2; omega) (by clear he s3 hUL r2; omega)
      refine ih _ _ (by clear he s3 hUL r2; omega) (by clear he s3 hUL r2; omega) s2 ?_
      show _ = _
      have he : _ = _ := he
      rw [s3, e1, ← he, Int.add_mul, Int.one_mul]
      generalize d.toInt * uV un u = a
      generalize uV un u = b
      generalize uV le (u + 1) = c
      omega
theorem u_nf2 {L : Int} (hu : t0_7.toInt = u) (h0 : 1 ≤ u) (h9 : u ≤ 2199) (hg : gO un u) (hU : wL 0 (uV un u)) (hL : wL L (uV un u)) (hl0 : gO l0 (u + 1)) (hx : 0 ≤ x2.toInt ∧ x2.toInt ≤ 9) (hv : wE (uV l0 (u + 1)) L) : ∀ (n k : Nat) (x : Int32) (le : Nat → Int32), x.toInt = k → k ≤ u → 4100 - k < n → (∀ i, i < k → le i = l0 (i + 1)) → (∀ i, k ≤ i → le i = l0 i) →
    S_DR_nextFigure_L2 x2 t0_0 t0_1 t0_2 t0_3 t0_4 t0_5 t0_6 t0_7 t0_8 t0_9 t0_10 un l0 n x le ∧ uQ t0_7 un (L * 10 + x2.toInt) (F_DR_nextFigure_L2 x2 t0_0 t0_1 t0_2 t0_3 t0_4 t0_5 t0_6 t0_7 t0_8 t0_9 t0_10 un l0 n x le) := by
  have eu : t0_7.toNatClampNeg = u := by have := q_clI (i := t0_7) hu (by omega); omega
  intro n
  induction n with
  | zero => intro k x le hk h1 h2 ha hb; omega
  | succ n ih =>
    intro k x le hk h1 h2 ha hb
    have ex : x.toNatClampNeg = k := by have := q_clI (i := x) hk (by omega); omega
    have e1 : (x + 1 : Int32).toInt = (k : Int) + 1 := q_addI (y := 1) hk (by decide) (by omega) (by omega)
    have ex1 : (x + 1 : Int32).toNatClampNeg = k + 1 := by have := q_clI (i := x + 1) e1 (by omega); omega
    rw [S_DR_nextFigure_L2.eq_2, F_DR_nextFigure_L2.eq_2]
    by_cases c : t0_7 ≤ x
    · rw [if_pos c, if_pos c]
      have c2 := q_leI c
      have : k = u := by omega
      subst this
      refine v_cons (by omega) (v_cons (by omega) ?_)
      have e0 : (0 : Int32).toInt = 0 := rfl
      -- the first figure was 0
      have f0 : (l0 0).toInt = 0 := by
        have h3 := u_tl (f := l0) (n := k)
        have hv : _ = _ := hv
        have hL : _ < _ := hL
        have h4 := u_lt hg
        have h5 : 0 ≤ uV (fun i => l0 (i + 1)) k := u_nn (fun i hi => hl0 (i + 1) (by omega))
        have h6 := (hl0 0 (by omega)).1
        by_cases w : (l0 0).toInt = 0
        · exact w
        · have h7 := Int.mul_le_mul_of_nonneg_right (show 1 ≤ (l0 0).toInt by omega) (Int.le_of_lt (u_pos k))
          rw [Int.one_mul] at h7
          rw [hv] at h3
          generalize (l0 0).toInt * 10 ^ k = a at *
          generalize (10 : Int) ^ k = b at *
          generalize uV (fun i => l0 (i + 1)) k = d at *
          generalize uV un k = e at *
          exact absurd hL (by clear ih; omega)
      have nv : uV (upd le t0_7.toNatClampNeg x2) (k + 1) = L * 10 + x2.toInt := by
        have hv : _ = _ := hv
        show uV (upd le t0_7.toNatClampNeg x2) k * 10 + (upd le t0_7.toNatClampNeg x2 k).toInt = _
        rw [eu, v_eq, u_updge (Nat.le_refl _), u_ext (g := fun i => l0 (i + 1)) (fun i hi => ha i hi), ← hv, u_tl, f0, Int.zero_mul, Int.zero_add]
      refine u_nfL (L := L * 10 + x2.toInt) hu h0 h9 hg hU ?_ 1000000 0 _ (by decide) (by decide) ?_ ?_
      · show _ < _
        have hL : _ < _ := hL
        clear nv hv
        omega
      · rw [eu]
        intro i hi
        by_cases w : i = k
        · rw [w, v_eq]; exact hx
        · rw [v_ne w, ha i (by omega)]; exact hl0 (i + 1) (by omega)
      · show 0 * _ + _ = _
        rw [nv, Int.zero_mul, Int.zero_add]
    · rw [if_neg c, if_neg c]
      have c2 := q_nleI c
      rw [ex, ex1]
      refine v_cons (by omega) ?_
      refine ih (k + 1) (x + 1) _ (by omega) (by omega) (by omega) (fun i hi => ?_) (fun i hi => ?_)
      · by_cases w : i = k
        · rw [w, v_eq]; exact hb (k + 1) (by omega)
        · rw [v_ne w]; exact ha i (by omega)
      · rw [v_ne (by omega)]; exact hb i (by omega)
/-- the next figure of a quotient -/
theorem R_next (h : uW t0_7 un l0) (hU : wL 0 (uV un t0_7.toNatClampNeg)) (hx : 0 ≤ x2.toInt ∧ x2.toInt ≤ 9) : S_DR_nextFigure x2 t0_0 t0_1 t0_2 t0_3 t0_4 t0_5 t0_6 t0_7 t0_8 t0_9 t0_10 un l0 ∧ uQ t0_7 un (uV l0 (t0_7.toNatClampNeg + 1) * 10 + x2.toInt) (F_DR_nextFigure x2 t0_0 t0_1 t0_2 t0_3 t0_4 t0_5 t0_6 t0_7 t0_8 t0_9 t0_10 un l0) := by
  obtain ⟨h1, h2, h3, h4⟩ := h
  have e := q_clI (i := t0_7) rfl (by omega)
  have e0 : (0 : Int32).toInt = 0 := rfl
  unfold S_DR_nextFigure F_DR_nextFigure
  exact u_nf2 (u := t0_7.toNatClampNeg) (L := uV l0 (t0_7.toNatClampNeg + 1)) (by omega) (by omega) (by omega) h2 hU h4 h3 hx rfl _ 0 0 l0 rfl (by omega) (by omega) (fun i hi => by omega) (fun i _ => rfl)
end UE

/-! DecimalRows: loadUnder, beginQuotient, isLeft, append -/
theorem u_p1 {f : Nat → Int32} {u : Nat} (h : gO f u) (h1 : 1 ≤ u) (h0 : f 0 ≠ 0) : wL 0 (uV f u) := by
  obtain ⟨k, rfl⟩ : ∃ k, u = k + 1 := ⟨u - 1, by omega⟩
  show 0 < uV f (k + 1)
  rw [u_tl]
  have a := (h 0 (by omega)).1
  have b : (f 0).toInt ≠ 0 := fun e => h0 (Int32.toInt_inj.mp (by rw [e]; rfl))
  have c := Int.mul_le_mul_of_nonneg_right (show 1 ≤ (f 0).toInt by omega) (Int.le_of_lt (u_pos k))
  have d := u_pos k
  have e : 0 ≤ uV (fun i => f (i + 1)) k := u_nn (fun i hi => h (i + 1) (by omega))
  rw [Int.one_mul] at c
  generalize (f 0).toInt * 10 ^ k = x at *
  generalize (10 : Int) ^ k = y at *
  omega
theorem u_ldS {f K : Nat → Int32} {x k k1 v : Int32} (hx : 0 ≤ x.toInt ∧ x.toInt ≤ 9) (h1 : k1.toInt = k.toInt + 1) (hk : 0 ≤ k.toInt) (ho : ∀ i : Nat, (i : Int) < k.toInt → 0 ≤ (f i).toInt ∧ (f i).toInt ≤ 9) (hz : 0 < k.toInt → f 0 = K (1000 * x : Int32).toNatClampNeg) (hv : 0 ≤ v.toInt ∧ v.toInt ≤ 9) (hw : k.toInt = 0 → v = K (1000 * x : Int32).toNatClampNeg) : (∀ i : Nat, (i : Int) < k1.toInt → 0 ≤ (upd f k.toNatClampNeg v i).toInt ∧ (upd f k.toNatClampNeg v i).toInt ≤ 9) ∧ (0 < k1.toInt → upd f k.toNatClampNeg v 0 = K (1000 * x : Int32).toNatClampNeg) := by
  have e := q_clI (i := k) rfl hk
  refine ⟨fun i hi => ?_, fun _ => ?_⟩
  · by_cases c : i = k.toNatClampNeg
    · rw [c, v_eq]; exact hv
    · rw [v_ne c]; exact ho i (by omega)
  · by_cases c : k.toInt = 0
    · have : k.toNatClampNeg = 0 := by omega
      rw [this, v_eq]; exact hw c
    · rw [v_ne (by omega)]; exact hz (by omega)
theorem u_k0 {K : Nat → Int32} {x k : Int32} (hx : 0 ≤ x.toInt ∧ x.toInt ≤ 9) (hk : k.toInt = 0) : K ((1000 * x) + k : Int32).toNatClampNeg = K (1000 * x : Int32).toNatClampNeg := by
  have e1 := (g_ix hx ⟨by omega, by omega⟩ (k := k)).1
  have e2 := q_clI (i := (1000 * x) + k) e1 (by omega)
  have e3 := q_clI (i := 1000 * x) (g_i0 hx) (by omega)
  have e4 : ((1000 * x) + k : Int32).toNatClampNeg = (1000 * x : Int32).toNatClampNeg := by omega
  rw [e4]
def Q_DR_loadUnder (x2 x3 t0_0 t0_1 t0_2 : Int32) (t0_3 : Int64) (t0_4 t0_5 t0_10 : Int32) (t1_0 t2_0 : Nat → Int32) (p : Int32 × Int32 × Int32 × Int64 × Int32 × Int32 × Int32 × Int32 × Int32 × Int32 × Int32 × (Nat → Int32)) : Prop := (p.2.2.2.2.2.2.2.1.toInt = (t2_0 x2.toNatClampNeg).toInt + x3.toInt) ∧ gO p.2.2.2.2.2.2.2.2.2.2.2 p.2.2.2.2.2.2.2.1.toNatClampNeg ∧ (p.2.2.2.2.2.2.2.2.2.2.2 0 = t1_0 (1000 * x2 : Int32).toNatClampNeg) ∧ p.1 = t0_0 ∧ p.2.1 = t0_1 ∧ p.2.2.1 = t0_2 ∧ p.2.2.2.1 = t0_3 ∧ p.2.2.2.2.1 = t0_4 ∧ p.2.2.2.2.2.1 = t0_5 ∧ p.2.2.2.2.2.2.2.2.2.2.1 = t0_10
theorem v_ldu {x2 : Int32} {x3 : Int32} {t0_0 : Int32} {t0_1 : Int32} {t0_2 : Int32} {t0_3 : Int64} {t0_4 : Int32} {t0_5 : Int32} {t0_6 : Int32} {t0_7 : Int32} {t0_8 : Int32} {t0_9 : Int32} {t0_10 : Int32} {t1_0 : (Nat → Int32)} {t2_0 : (Nat → Int32)} {t3_0 : (Nat → Int32)} {a30 : Int32} (hk : gO t1_0 10000) (hm : 1 ≤ (t2_0 x2.toNatClampNeg).toInt ∧ (t2_0 x2.toNatClampNeg).toInt ≤ 1000) (hx : 0 ≤ x2.toInt ∧ x2.toInt ≤ 9) (ha : 1 ≤ a30.toInt ∧ a30.toInt ≤ 2199) (ea : a30.toInt = (t2_0 x2.toNatClampNeg).toInt + x3.toInt) : ∀ (n : Nat) (lx35 : Int32) (lx36 : (Nat → Int32)), (0 ≤ lx35.toInt ∧ lx35.toInt ≤ a30.toInt) → (4100 - lx35.toInt < (n : Int)) → (∀ i : Nat, (i : Int) < lx35.toInt → 0 ≤ (lx36 i).toInt ∧ (lx36 i).toInt ≤ 9) → (0 < lx35.toInt → lx36 0 = t1_0 (1000 * x2 : Int32).toNatClampNeg) → (S_DR_loadUnder_L14 x2 x3 t0_0 t0_1 t0_2 t0_3 t0_4 t0_5 t0_6 t0_7 t0_8 t0_9 t0_10 t1_0 t2_0 t3_0 a30 n lx35 lx36) ∧ Q_DR_loadUnder x2 x3 t0_0 t0_1 t0_2 t0_3 t0_4 t0_5 t0_10 t1_0 t2_0 (F_DR_loadUnder_L14 x2 x3 t0_0 t0_1 t0_2 t0_3 t0_4 t0_5 t0_6 t0_7 t0_8 t0_9 t0_10 t1_0 t2_0 t3_0 a30 n lx35 lx36) := by
  intro n
  induction n with
  | zero => intro lx35 lx36 h0 hm2 ho hz; exact absurd (show False by omega) id
  | succ n ih =>
    intro lx35 lx36 h0 hm2 ho hz
    have e0 : (0 : Int32).toInt = 0 := rfl
    rw [S_DR_loadUnder_L14.eq_2, F_DR_loadUnder_L14.eq_2]
    by_cases g1 : a30 ≤ lx35
    ·
      rw [if_pos g1, if_pos g1]
      have g1i : a30.toInt ≤ lx35.toInt := q_leI g1
      refine ⟨trivial, ?_⟩
      (unfold Q_DR_loadUnder; dsimp only; exact ⟨ea, fun i hi => ho i (by have := q_clI (i := a30) rfl (by omega); omega), hz (by omega), rfl, rfl, rfl, rfl, rfl, rfl, rfl⟩)
    ·
      rw [if_neg g1, if_neg g1]
      have g1i : lx35.toInt < a30.toInt := q_nleI g1
      by_cases g2 : (t2_0 x2.toNatClampNeg : Int32) ≤ lx35
      ·
        rw [if_pos g2, if_pos g2]
        have g2i := q_leI g2
        refine v_cons (by omega) ?_
        obtain ⟨a3, e4⟩ := q_nm (lx35 + 1 : Int32)
        rw [e4]
        have a3i : a3.toInt = lx35.toInt + 1 := by rw [← e4]; exact q_addI (x := lx35.toInt) (y := 1) rfl (by decide) (by omega) (by omega)
        have hs := u_ldS (K := t1_0) hx a3i h0.1 ho hz (v := 0) (by decide) (fun h => by omega); exact ih _ _ ⟨by omega, by omega⟩ (by omega) hs.1 hs.2
      ·
        rw [if_neg g2, if_neg g2]
        have g2i := q_nleI g2
        refine v_cons (by have := (g_ix (x := x2) (k := lx35) (by with_reducible assumption) ⟨by omega, by omega⟩).1; omega) ?_
        refine v_cons (by omega) ?_
        obtain ⟨a5, e6⟩ := q_nm (lx35 + 1 : Int32)
        rw [e6]
        have a5i : a5.toInt = lx35.toInt + 1 := by rw [← e6]; exact q_addI (x := lx35.toInt) (y := 1) rfl (by decide) (by omega) (by omega)
        have hs := u_ldS (K := t1_0) hx a5i h0.1 ho hz (g_kx hk hx (by omega) (by omega)) (fun h => u_k0 hx h); exact ih _ _ ⟨by omega, by omega⟩ (by omega) hs.1 hs.2
theorem T_DR_loadUnder {x2 : Int32} {x3 : Int32} {t0_0 : Int32} {t0_1 : Int32} {t0_2 : Int32} {t0_3 : Int64} {t0_4 : Int32} {t0_5 : Int32} {t0_6 : Int32} {t0_7 : Int32} {t0_8 : Int32} {t0_9 : Int32} {t0_10 : Int32} {t1_0 : (Nat → Int32)} {t2_0 : (Nat → Int32)} {t3_0 : (Nat → Int32)} (hk : gO t1_0 10000) (hm : 1 ≤ (t2_0 x2.toNatClampNeg).toInt ∧ (t2_0 x2.toNatClampNeg).toInt ≤ 1000) (hx : 0 ≤ x2.toInt ∧ x2.toInt ≤ 9) (h3 : 0 ≤ x3.toInt ∧ (t2_0 x2.toNatClampNeg).toInt + x3.toInt ≤ 2199) : (S_DR_loadUnder x2 x3 t0_0 t0_1 t0_2 t0_3 t0_4 t0_5 t0_6 t0_7 t0_8 t0_9 t0_10 t1_0 t2_0 t3_0) ∧ Q_DR_loadUnder x2 x3 t0_0 t0_1 t0_2 t0_3 t0_4 t0_5 t0_10 t1_0 t2_0 (F_DR_loadUnder x2 x3 t0_0 t0_1 t0_2 t0_3 t0_4 t0_5 t0_6 t0_7 t0_8 t0_9 t0_10 t1_0 t2_0 t3_0) := by
  have e0 : (0 : Int32).toInt = 0 := rfl
  have ea : (t2_0 x2.toNatClampNeg + x3 : Int32).toInt = (t2_0 x2.toNatClampNeg).toInt + x3.toInt := q_addI rfl rfl (by omega) (by omega)
  unfold S_DR_loadUnder F_DR_loadUnder
  refine v_cons (by omega) ?_
  refine v_cons (by omega) ?_
  exact v_ldu hk hm hx ⟨by omega, by omega⟩ ea _ _ _ (by omega) (by decide) (fun i hi => by omega) (fun h => by omega)
def Q_DR_beginQuotient (t0_0 t0_1 : Int32) (t0_3 : Int64) (t0_4 t0_5 t0_7 t0_10 : Int32) (p : Int32 × Int32 × Int32 × Int64 × Int32 × Int32 × Int32 × Int32 × Int32 × Int32 × Int32 × (Nat → Int32)) : Prop := (∀ i : Nat, (i : Int) ≤ t0_7.toInt → p.2.2.2.2.2.2.2.2.2.2.2 i = 0) ∧ p.1 = t0_0 ∧ p.2.1 = t0_1 ∧ p.2.2.1 = 0 ∧ p.2.2.2.1 = t0_3 ∧ p.2.2.2.2.1 = t0_4 ∧ p.2.2.2.2.2.1 = t0_5 ∧ p.2.2.2.2.2.2.2.1 = t0_7 ∧ p.2.2.2.2.2.2.2.2.2.2.1 = t0_10
theorem v_beg {t0_0 : Int32} {t0_1 : Int32} {t0_2 : Int32} {t0_3 : Int64} {t0_4 : Int32} {t0_5 : Int32} {t0_6 : Int32} {t0_7 : Int32} {t0_8 : Int32} {t0_9 : Int32} {t0_10 : Int32} {t1_0 : (Nat → Int32)} (h7 : 0 ≤ t0_7.toInt ∧ t0_7.toInt ≤ 2200) : ∀ (n : Nat) (lx21 : Int32) (lx22 : (Nat → Int32)), (0 ≤ lx21.toInt ∧ lx21.toInt ≤ t0_7.toInt + 1) → (4100 - lx21.toInt < (n : Int)) → (∀ i : Nat, (i : Int) < lx21.toInt → lx22 i = 0) → (S_DR_beginQuotient_L2 t0_0 t0_1 t0_2 t0_3 t0_4 t0_5 t0_6 t0_7 t0_8 t0_9 t0_10 t1_0 n lx21 lx22) ∧ Q_DR_beginQuotient t0_0 t0_1 t0_3 t0_4 t0_5 t0_7 t0_10 (F_DR_beginQuotient_L2 t0_0 t0_1 t0_2 t0_3 t0_4 t0_5 t0_6 t0_7 t0_8 t0_9 t0_10 t1_0 n lx21 lx22) := by
  intro n
  induction n with
  | zero => intro lx21 lx22 h0 hm ho; exact absurd (show False by omega) id
  | succ n ih =>
    intro lx21 lx22 h0 hm ho
    rw [S_DR_beginQuotient_L2.eq_2, F_DR_beginQuotient_L2.eq_2]
    by_cases g1 : t0_7 < lx21
    ·
      rw [if_pos g1, if_pos g1]
      have g1i : t0_7.toInt < lx21.toInt := q_ltI g1
      refine ⟨trivial, ?_⟩
      (unfold Q_DR_beginQuotient; dsimp only; exact ⟨fun i hi => ho i (by omega), rfl, rfl, rfl, rfl, rfl, rfl, rfl, rfl⟩)
    ·
      rw [if_neg g1, if_neg g1]
      have g1i : lx21.toInt ≤ t0_7.toInt := q_nltI g1
      refine v_cons (by omega) ?_
      obtain ⟨a2, e3⟩ := q_nm (lx21 + 1 : Int32)
      rw [e3]
      have a2i : a2.toInt = lx21.toInt + 1 := by rw [← e3]; exact q_addI (x := lx21.toInt) (y := 1) rfl (by decide) (by omega) (by omega)
      exact ih _ _ ⟨by omega, by omega⟩ (by omega) (g_fill0 a2i h0.1 ho)
theorem T_DR_beginQuotient {t0_0 : Int32} {t0_1 : Int32} {t0_2 : Int32} {t0_3 : Int64} {t0_4 : Int32} {t0_5 : Int32} {t0_6 : Int32} {t0_7 : Int32} {t0_8 : Int32} {t0_9 : Int32} {t0_10 : Int32} {t1_0 : (Nat → Int32)} (h7 : 0 ≤ t0_7.toInt ∧ t0_7.toInt ≤ 2200) : (S_DR_beginQuotient t0_0 t0_1 t0_2 t0_3 t0_4 t0_5 t0_6 t0_7 t0_8 t0_9 t0_10 t1_0) ∧ Q_DR_beginQuotient t0_0 t0_1 t0_3 t0_4 t0_5 t0_7 t0_10 (F_DR_beginQuotient t0_0 t0_1 t0_2 t0_3 t0_4 t0_5 t0_6 t0_7 t0_8 t0_9 t0_10 t1_0) := by
  have e0 : (0 : Int32).toInt = 0 := rfl
  unfold S_DR_beginQuotient F_DR_beginQuotient
  exact v_beg h7 _ _ _ (by omega) (by decide) (fun i hi => by omega)
theorem v_isl {t0_0 : Int32} {t0_1 : Int32} {t0_2 : Int32} {t0_3 : Int64} {t0_4 : Int32} {t0_5 : Int32} {t0_6 : Int32} {t0_7 : Int32} {t0_8 : Int32} {t0_9 : Int32} {t0_10 : Int32} {t1_0 : (Nat → Int32)} (h7 : 0 ≤ t0_7.toInt ∧ t0_7.toInt ≤ 2200) : ∀ (n : Nat) (lx22 : Int32) (lx23 : Int32), (0 ≤ lx22.toInt ∧ lx22.toInt ≤ t0_7.toInt + 1) → (4100 - lx22.toInt < (n : Int)) → (S_DR_isLeft_L4 t0_0 t0_1 t0_2 t0_3 t0_4 t0_5 t0_6 t0_7 t0_8 t0_9 t0_10 t1_0 n lx22 lx23) := by
  intro n
  induction n with
  | zero => intro lx22 lx23 h0 hm; exact absurd (show False by omega) id
  | succ n ih =>
    intro lx22 lx23 h0 hm
    rw [S_DR_isLeft_L4.eq_2]
    by_cases g1 : t0_7 < lx22
    ·
      rw [if_pos g1]
      have g1i : t0_7.toInt < lx22.toInt := q_ltI g1
      exact trivial
    ·
      rw [if_neg g1]
      have g1i : lx22.toInt ≤ t0_7.toInt := q_nltI g1
      by_cases g2 : lx23 = (0 : Int32)
      ·
        rw [if_pos g2]
        refine And.intro (by omega) ?_
        refine And.intro (by omega) ?_
        by_cases g3 : (t1_0 lx22.toNatClampNeg : Int32) = (0 : Int32)
        ·
          rw [if_pos g3]
          obtain ⟨a4, e5⟩ := q_nm (lx22 + 1 : Int32)
          rw [e5]
          have a4i : a4.toInt = lx22.toInt + 1 := by rw [← e5]; exact q_addI (x := lx22.toInt) (y := 1) rfl (by decide) (by omega) (by omega)
          exact ih _ _ (by first | with_reducible assumption | omega | decide) (by first | with_reducible assumption | omega | decide)
        ·
          rw [if_neg g3]
          obtain ⟨a6, e7⟩ := q_nm (lx22 + 1 : Int32)
          rw [e7]
          have a6i : a6.toInt = lx22.toInt + 1 := by rw [← e7]; exact q_addI (x := lx22.toInt) (y := 1) rfl (by decide) (by omega) (by omega)
          exact ih _ _ (by first | with_reducible assumption | omega | decide) (by first | with_reducible assumption | omega | decide)
      ·
        rw [if_neg g2]
        obtain ⟨a8, e9⟩ := q_nm (lx22 + 1 : Int32)
        rw [e9]
        have a8i : a8.toInt = lx22.toInt + 1 := by rw [← e9]; exact q_addI (x := lx22.toInt) (y := 1) rfl (by decide) (by omega) (by omega)
        exact ih _ _ (by first | with_reducible assumption | omega | decide) (by first | with_reducible assumption | omega | decide)
theorem T_DR_isLeft {t0_0 : Int32} {t0_1 : Int32} {t0_2 : Int32} {t0_3 : Int64} {t0_4 : Int32} {t0_5 : Int32} {t0_6 : Int32} {t0_7 : Int32} {t0_8 : Int32} {t0_9 : Int32} {t0_10 : Int32} {t1_0 : (Nat → Int32)} (h7 : 0 ≤ t0_7.toInt ∧ t0_7.toInt ≤ 2200) : (S_DR_isLeft t0_0 t0_1 t0_2 t0_3 t0_4 t0_5 t0_6 t0_7 t0_8 t0_9 t0_10 t1_0) := by
  have e0 : (0 : Int32).toInt = 0 := rfl
  unfold S_DR_isLeft
  exact v_isl h7 _ _ _ (by omega) (by decide)
def Q_DR_append (t0_0 t0_1 t0_2 : Int32) (t0_3 : Int64) (t0_4 t0_5 t0_7 t0_10 : Int32) (p : Int32 × Int32 × Int32 × Int64 × Int32 × Int32 × Int32 × Int32 × Int32 × Int32 × Int32 × (Nat → Int32)) : Prop := (t0_2.toInt ≤ p.2.2.1.toInt ∧ p.2.2.1.toInt ≤ t0_2.toInt + 1) ∧ gO p.2.2.2.2.2.2.2.2.2.2.2 p.2.2.1.toNatClampNeg ∧ (p.2.2.1.toInt = 0 ∨ p.2.2.2.2.2.2.2.2.2.2.2 0 ≠ 0) ∧ p.1 = t0_0 ∧ p.2.1 = t0_1 ∧ p.2.2.2.1 = t0_3 ∧ p.2.2.2.2.1 = t0_4 ∧ p.2.2.2.2.2.1 = t0_5 ∧ p.2.2.2.2.2.2.2.1 = t0_7 ∧ p.2.2.2.2.2.2.2.2.2.2.1 = t0_10
theorem u_app {f : Nat → Int32} {k x : Int32} (hk : 0 ≤ k.toInt ∧ k.toInt ≤ 4398) (h : gO f k.toNatClampNeg) (hx : 0 ≤ x.toInt ∧ x.toInt ≤ 9) (hz : k.toInt = 0 ∨ f 0 ≠ 0) (hp : 0 < k.toInt ∨ 0 < x.toInt) : (k.toInt ≤ (k + 1 : Int32).toInt ∧ (k + 1 : Int32).toInt ≤ k.toInt + 1) ∧ gO (upd f k.toNatClampNeg x) (k + 1 : Int32).toNatClampNeg ∧ ((k + 1 : Int32).toInt = 0 ∨ upd f k.toNatClampNeg x 0 ≠ 0) := by
  have e1 : (k + 1 : Int32).toInt = k.toInt + 1 := q_addI (y := 1) rfl (by decide) (by omega) (by omega)
  have e2 := q_clI (i := k) rfl hk.1
  have e3 := q_clI (i := k + 1) e1 (by omega)
  have e4 : (k + 1 : Int32).toNatClampNeg = k.toNatClampNeg + 1 := by omega
  refine ⟨by omega, by rw [e4]; exact gO_push h hx, Or.inr ?_⟩
  by_cases c : k.toInt = 0
  · have : k.toNatClampNeg = 0 := by omega
    rw [this, v_eq]
    intro e
    have h9 : x.toInt = 0 := by rw [e]; rfl
    omega
  · rw [v_ne (by omega)]
    rcases hz with h9 | h9
    · exact absurd h9 c
    · exact h9
theorem T_DR_append {x2 : Int32} {t0_0 : Int32} {t0_1 : Int32} {t0_2 : Int32} {t0_3 : Int64} {t0_4 : Int32} {t0_5 : Int32} {t0_6 : Int32} {t0_7 : Int32} {t0_8 : Int32} {t0_9 : Int32} {t0_10 : Int32} {t1_0 : (Nat → Int32)} (h2 : 0 ≤ t0_2.toInt ∧ t0_2.toInt ≤ 4398) (hg : gO t1_0 t0_2.toNatClampNeg) (hx : 0 ≤ x2.toInt ∧ x2.toInt ≤ 9) (hz : t0_2.toInt = 0 ∨ t1_0 0 ≠ 0) : (S_DR_append x2 t0_0 t0_1 t0_2 t0_3 t0_4 t0_5 t0_6 t0_7 t0_8 t0_9 t0_10 t1_0) ∧ Q_DR_append t0_0 t0_1 t0_2 t0_3 t0_4 t0_5 t0_7 t0_10 (F_DR_append x2 t0_0 t0_1 t0_2 t0_3 t0_4 t0_5 t0_6 t0_7 t0_8 t0_9 t0_10 t1_0) := by
  have e0 : (0 : Int32).toInt = 0 := rfl
  unfold S_DR_append F_DR_append
  by_cases g1 : (0 : Int32) < t0_2
  ·
    rw [if_pos g1, if_pos g1]
    have g1i : 0 < t0_2.toInt := q_ltI g1
    refine v_cons (by omega) ?_
    refine ⟨trivial, ?_⟩
    (unfold Q_DR_append; dsimp only; first | exact ⟨(u_app h2 hg hx hz (by omega)).1, (u_app h2 hg hx hz (by omega)).2.1, (u_app h2 hg hx hz (by omega)).2.2, rfl, rfl, rfl, rfl, rfl, rfl, rfl⟩ | exact ⟨by omega, hg, hz, rfl, rfl, rfl, rfl, rfl, rfl, rfl⟩)
  ·
    rw [if_neg g1, if_neg g1]
    have g1i : t0_2.toInt ≤ 0 := q_nltI g1
    by_cases g2 : x2 ≤ (0 : Int32)
    ·
      rw [if_pos g2, if_pos g2]
      have g2i : x2.toInt ≤ 0 := q_leI g2
      refine ⟨trivial, ?_⟩
      (unfold Q_DR_append; dsimp only; first | exact ⟨(u_app h2 hg hx hz (by omega)).1, (u_app h2 hg hx hz (by omega)).2.1, (u_app h2 hg hx hz (by omega)).2.2, rfl, rfl, rfl, rfl, rfl, rfl, rfl⟩ | exact ⟨by omega, hg, hz, rfl, rfl, rfl, rfl, rfl, rfl, rfl⟩)
    ·
      rw [if_neg g2, if_neg g2]
      have g2i : 0 < x2.toInt := q_nleI g2
      refine v_cons (by omega) ?_
      refine ⟨trivial, ?_⟩
      (unfold Q_DR_append; dsimp only; first | exact ⟨(u_app h2 hg hx hz (by omega)).1, (u_app h2 hg hx hz (by omega)).2.1, (u_app h2 hg hx hz (by omega)).2.2, rfl, rfl, rfl, rfl, rfl, rfl, rfl⟩ | exact ⟨by omega, hg, hz, rfl, rfl, rfl, rfl, rfl, rfl, rfl⟩)

/-! DecimalRows: divide -/
theorem u_w0 {z : Int32} {un le : Nat → Int32} (hz : 1 ≤ z.toInt ∧ z.toInt ≤ 2199) (hg : gO un z.toNatClampNeg) (hU : wL 0 (uV un z.toNatClampNeg)) (hl : ∀ i : Nat, (i : Int) ≤ z.toInt → le i = 0) : uW z un le := by
  have e := q_clI (i := z) rfl (by omega)
  refine ⟨hz, hg, fun i hi => by rw [hl i (by omega)]; exact ⟨by decide, by decide⟩, ?_⟩
  show _ < _
  rw [u_zer (fun i hi => hl i (by omega))]
  exact hU
theorem u_gz {z : Int32} {f : Nat → Int32} (h : z = 0) : gO f z.toNatClampNeg := by
  subst h
  intro i hi
  exact absurd hi (Nat.not_lt_zero i)
theorem u_if {P : Prop} {b : Int32} (g : b = 0) (h : b = 0 → P) : P := h g
theorem u_ng {j : Int64} (h : -100000 ≤ j.toInt ∧ j.toInt ≤ 0) : ((-j : Int64).toInt32).toInt = -j.toInt := by
  have e := w_negL (a := j) rfl (by omega)
  rw [s_l2i (by omega) (by omega), e]
theorem u_z1 {a b c : Int32} {x : Int32} (ha : -10000 ≤ a.toInt ∧ a.toInt ≤ 10000) (hb : -10000 ≤ b.toInt ∧ b.toInt ≤ 10000) (hx : -10000 ≤ x.toInt ∧ x.toInt ≤ 10000) : (x.toInt64 + a.toInt64 - b.toInt64 : Int64).toInt = x.toInt + a.toInt - b.toInt := by
  have e1 : (x.toInt64 + a.toInt64 : Int64).toInt = x.toInt + a.toInt := q_addL (q_i2l rfl) (q_i2l rfl) (by omega) (by omega)
  exact q_subL e1 (q_i2l rfl) (by omega) (by omega)
theorem u_z2 {m k : Int32} {j : Int64} (hm : 1 ≤ m.toInt ∧ m.toInt ≤ 1000) (hk : 1 ≤ k.toInt ∧ k.toInt ≤ 1000) (hj : -100000 ≤ j.toInt ∧ j.toInt ≤ 100000) : ((m - k : Int32).toInt64 + j : Int64).toInt = m.toInt - k.toInt + j.toInt := by
  have e1 : (m - k : Int32).toInt = m.toInt - k.toInt := q_subI rfl rfl (by omega) (by omega)
  exact q_addL (q_i2l e1) rfl (by omega) (by omega)
theorem u_s1 {m : Int32} {j : Int64} (hm : 1 ≤ m.toInt ∧ m.toInt ≤ 1000) (hj : -100000 ≤ j.toInt ∧ j.toInt ≤ 100000) : (m.toInt64 + j : Int64).toInt = m.toInt + j.toInt := q_addL (q_i2l rfl) rfl (by omega) (by omega)
theorem u_k9 {K : Nat → Int32} {x : Int32} {j : Int64} {m : Int32} (hk : gO K 10000) (hx : 0 ≤ x.toInt ∧ x.toInt ≤ 9) (hm : m.toInt ≤ 1000) (h0 : 0 ≤ j.toInt) (h1 : j.toInt < m.toInt64.toInt) : (0 ≤ (K ((1000 * x) + j.toInt32 : Int32).toNatClampNeg).toInt ∧ (K ((1000 * x) + j.toInt32 : Int32).toNatClampNeg).toInt ≤ 9) ∧ (0 ≤ ((1000 * x) + j.toInt32 : Int32).toInt ∧ ((1000 * x) + j.toInt32 : Int32).toInt ≤ 9999) := by
  rw [q_i2l rfl] at h1
  have e : j.toInt32.toInt = j.toInt := s_l2i (by omega) (by omega)
  have i1 := (g_ix (x := x) (k := j.toInt32) hx ⟨by omega, by omega⟩).1
  exact ⟨g_kx hk hx (by omega) (by omega), by omega, by omega⟩
def Q_DR_divide (p : Int32 × Int32 × Int32 × Int64 × Int32 × Int32 × Int32 × Int32 × Int32 × Int32 × Int32 × (Nat → Int32) × (Nat → Int32) × (Nat → Int32) × (Nat → Int32) × (Nat → Int32) × (Nat → Int32) × (Nat → Int32)) : Prop := gR p.2.2.2.2.2.2.2.2.2.2.2.1 p.2.2.2.2.2.2.2.2.2.2.2.2.1 p.2.2.2.2.2.2.2.2.2.2.2.2.2.1 p.2.2.2.2.2.2.2.2.2.2.2.2.2.2.1
theorem v_dvd {x2 : Int32} {x3 : Int32} {x4 : Int32} {x5 : Int32} {x6 : Int32} {t0_0 : Int32} {t0_1 : Int32} {t0_2 : Int32} {t0_3 : Int64} {t0_4 : Int32} {t0_5 : Int32} {t0_6 : Int32} {t0_7 : Int32} {t0_8 : Int32} {t0_9 : Int32} {t0_10 : Int32} {t1_0 : (Nat → Int32)} {t2_0 : (Nat → Int32)} {t3_0 : (Nat → Int32)} {t4_0 : (Nat → Int32)} {t5_0 : (Nat → Int32)} {t6_0 : (Nat → Int32)} {t7_0 : (Nat → Int32)} {lx45 : Int32} {j100 : Int64} {j88 : Int64} {lx107 : Int32} {j126 : Int64} {lx367 : Int32} {p431 : (Int32 × Int32 × Int32 × Int64 × Int32 × Int32 × Int32 × Int32 × Int32 × Int32 × Int32 × (Nat → Int32))} {f397 : (Nat → Int32)} {p492 : (Int32 × Int32 × Int32 × Int64 × Int32 × Int32 × Int32 × Int32 × Int32 × Int32 × Int32 × (Nat → Int32))} (hR : gR t1_0 t2_0 t3_0 t4_0)(hx2 : 0 ≤ x2.toInt ∧ x2.toInt ≤ 9) (hx4 : 0 ≤ x4.toInt ∧ x4.toInt ≤ 9) (h88 : -50000 ≤ j88.toInt ∧ j88.toInt ≤ 2000) : ∀ (n : Nat) (lx512 : Int64) (lx513 : Int32) (lx514 : Int32) (lx515 : Int32) (lx516 : Int64) (lx517 : Int32) (lx518 : Int32) (lx519 : Int32) (lx520 : Int32) (lx521 : Int32) (lx522 : Int32) (lx523 : Int32) (lx524 : (Nat → Int32)) (lx525 : (Nat → Int32)), (0 ≤ lx512.toInt ∧ lx512.toInt ≤ 3001) → (3002 - lx512.toInt < (n : Int)) → (0 ≤ lx515.toInt ∧ lx515.toInt ≤ lx512.toInt) → (0 ≤ lx518.toInt ∧ lx518.toInt ≤ 1) → (uW lx520 f397 lx525) → (wL 0 (uV f397 lx520.toNatClampNeg)) → (gO lx524 lx515.toNatClampNeg) → (lx515.toInt = 0 ∨ lx524 0 ≠ 0) → (S_DR_divide_L268 x2 x3 x4 x5 x6 t0_0 t0_1 t0_2 t0_3 t0_4 t0_5 t0_6 t0_7 t0_8 t0_9 t0_10 t1_0 t2_0 t3_0 t4_0 t5_0 t6_0 t7_0 lx45 j100 j88 lx107 j126 lx367 p431 f397 p492 n lx512 lx513 lx514 lx515 lx516 lx517 lx518 lx519 lx520 lx521 lx522 lx523 lx524 lx525) ∧ Q_DR_divide (F_DR_divide_L268 x2 x3 x4 x5 x6 t0_0 t0_1 t0_2 t0_3 t0_4 t0_5 t0_6 t0_7 t0_8 t0_9 t0_10 t1_0 t2_0 t3_0 t4_0 t5_0 t6_0 t7_0 lx45 j100 j88 lx107 j126 lx367 p431 f397 p492 n lx512 lx513 lx514 lx515 lx516 lx517 lx518 lx519 lx520 lx521 lx522 lx523 lx524 lx525) := by
  intro n
  induction n with
  | zero => intro lx512 lx513 lx514 lx515 lx516 lx517 lx518 lx519 lx520 lx521 lx522 lx523 lx524 lx525 h0 hm h1 h5 hw hU ho hz; exact absurd (show False by omega) id
  | succ n ih =>
    intro lx512 lx513 lx514 lx515 lx516 lx517 lx518 lx519 lx520 lx521 lx522 lx523 lx524 lx525 h0 hm h1 h5 hw hU ho hz
    have e0 : (0 : Int32).toInt = 0 := rfl
    have eL0 : (0 : Int64).toInt = 0 := rfl
    have eL1 : (10000 : Int64).toInt = 10000 := rfl
    have eL2 : (-10000 : Int64).toInt = -10000 := rfl
    have eL3 : (1000 : Int64).toInt = 1000 := rfl
    have eL4 : (-1 : Int64).toInt = -1 := rfl
    have eI3 : (1000 : Int32).toInt = 1000 := rfl
    have hmn := (gR.at hR hx2).1
    have es1 := u_s1 (m := t2_0 x2.toNatClampNeg) (j := j88) hmn ⟨by omega, by omega⟩
    have es2 := u_s1 (m := t2_0 x2.toNatClampNeg) (j := 0) hmn ⟨by omega, by omega⟩
    have hu1 := hw.1
    rw [S_DR_divide_L268.eq_2, F_DR_divide_L268.eq_2]
    by_cases g1 : (lg_cmp j88 0 : Int32) ≤ (0 : Int32)
    ·
      rw [if_pos g1, if_pos g1]
      have g1l := g_lc3 g1
      unfold S_DR_divide_J290 F_DR_divide_J290
      by_cases g2 : (0 : Int32) ≤ (lg_cmp lx512 (((t2_0 x2.toNatClampNeg : Int32).toInt64 : Int64) + (0 : Int64) : Int64) : Int32)
      ·
        rw [if_pos g2, if_pos g2]
        have g2l := g_lc5 g2
        have h3 := R_next  (x2 := (0 : Int32)) (t0_0 := lx513) (t0_1 := lx514) (t0_2 := lx515) (t0_3 := lx516) (t0_4 := lx517) (t0_5 := lx518) (t0_6 := lx519) (t0_7 := lx520) (t0_8 := lx521) (t0_9 := lx522) (t0_10 := lx523) (un := f397) (l0 := lx525) (by with_reducible assumption) (by with_reducible assumption) (by first | decide | exact (u_k9 hR.1 hx2 (gR.at hR hx2).1.2 h0.1 (by with_reducible assumption)).1)
        with_reducible refine v_owe h3.1 ?_
        replace h3 := h3.2
        generalize F_DR_nextFigure (0 : Int32) lx513 lx514 lx515 lx516 lx517 lx518 lx519 lx520 lx521 lx522 lx523 f397 lx525 = p613 at *
        obtain ⟨nxd, nxw, nxe⟩ := h3
        unfold S_DR_divide_c346 F_DR_divide_c346
        have h4 := T_DR_append (x2 := (p613.1 : Int32)) (t0_0 := lx513) (t0_1 := lx514) (t0_2 := lx515) (t0_3 := lx516) (t0_4 := lx517) (t0_5 := lx518) (t0_6 := lx519) (t0_7 := lx520) (t0_8 := lx521) (t0_9 := lx522) (t0_10 := lx523) (t1_0 := lx524) ⟨by omega, by omega⟩ (by with_reducible assumption) (by with_reducible assumption) (by with_reducible assumption)
        with_reducible refine v_owe h4.1 ?_
        replace h4 := h4.2
        generalize F_DR_append (p613.1 : Int32) lx513 lx514 lx515 lx516 lx517 lx518 lx519 lx520 lx521 lx522 lx523 lx524 = p668 at *
        unfold Q_DR_append at h4
        obtain ⟨h42, h4g, h4z, h4a, h4b, h4d, h4e, h45, h47, h4k⟩ := h4
        have app7 := h47
        have app5 := congrArg Int32.toInt h45
        have app7i := congrArg Int32.toInt h47
        unfold S_DR_divide_c349 F_DR_divide_c349
        have h5 := T_DR_isLeft (t0_0 := (p668.1 : Int32)) (t0_1 := (p668.2.1 : Int32)) (t0_2 := (p668.2.2.1 : Int32)) (t0_3 := (p668.2.2.2.1 : Int64)) (t0_4 := (p668.2.2.2.2.1 : Int32)) (t0_5 := (p668.2.2.2.2.2.1 : Int32)) (t0_6 := (p668.2.2.2.2.2.2.1 : Int32)) (t0_7 := (p668.2.2.2.2.2.2.2.1 : Int32)) (t0_8 := (p668.2.2.2.2.2.2.2.2.1 : Int32)) (t0_9 := (p668.2.2.2.2.2.2.2.2.2.1 : Int32)) (t0_10 := (p668.2.2.2.2.2.2.2.2.2.2.1 : Int32)) (t1_0 := (p613.2 : (Nat → Int32))) ⟨by omega, by omega⟩
        with_reducible refine v_owe h5 ?_
        refine v_cons (by omega) ?_
        refine v_cons (by omega) ?_
        by_cases g6 : (p668.2.2.1 : Int32) = (0 : Int32)
        ·
          rw [if_pos g6, if_pos g6]
          have g6i := q_eqI g6
          have h7 := T_DR_cut (x2 := (0 : Int32)) (x3 := x6) (t0_0 := (p668.1 : Int32)) (t0_1 := (p668.2.1 : Int32)) (t0_2 := (1 : Int32)) (t0_3 := ((x5.toInt64 : Int64) + 1 : Int64)) (t0_4 := ((F_DR_isLeft (p668.1 : Int32) (p668.2.1 : Int32) (p668.2.2.1 : Int32) (p668.2.2.2.1 : Int64) (p668.2.2.2.2.1 : Int32) (p668.2.2.2.2.2.1 : Int32) (p668.2.2.2.2.2.2.1 : Int32) (p668.2.2.2.2.2.2.2.1 : Int32) (p668.2.2.2.2.2.2.2.2.1 : Int32) (p668.2.2.2.2.2.2.2.2.2.1 : Int32) (p668.2.2.2.2.2.2.2.2.2.2.1 : Int32) (p613.2 : (Nat → Int32))) : Int32)) (t0_5 := (p668.2.2.2.2.2.1 : Int32)) (t0_6 := (p668.2.2.2.2.2.2.1 : Int32)) (t0_7 := (p668.2.2.2.2.2.2.2.1 : Int32)) (t0_8 := (p668.2.2.2.2.2.2.2.2.1 : Int32)) (t0_9 := (p668.2.2.2.2.2.2.2.2.2.1 : Int32)) (t0_10 := (p668.2.2.2.2.2.2.2.2.2.2.1 : Int32)) (t1_0 := (upd (p668.2.2.2.2.2.2.2.2.2.2.2 : (Nat → Int32)) (0 : Int32).toNatClampNeg 0 : (Nat → Int32))) (by first | exact ⟨by omega, by omega⟩ | decide) (by first | omega | decide) (by first | exact ⟨by omega, by omega⟩ | decide) (by first | with_reducible assumption | exact g_one)
          with_reducible refine v_owe h7.1 ?_
          replace h7 := h7.2
          generalize F_DR_cut (0 : Int32) x6 (p668.1 : Int32) (p668.2.1 : Int32) (1 : Int32) ((x5.toInt64 : Int64) + 1 : Int64) ((F_DR_isLeft (p668.1 : Int32) (p668.2.1 : Int32) (p668.2.2.1 : Int32) (p668.2.2.2.1 : Int64) (p668.2.2.2.2.1 : Int32) (p668.2.2.2.2.2.1 : Int32) (p668.2.2.2.2.2.2.1 : Int32) (p668.2.2.2.2.2.2.2.1 : Int32) (p668.2.2.2.2.2.2.2.2.1 : Int32) (p668.2.2.2.2.2.2.2.2.2.1 : Int32) (p668.2.2.2.2.2.2.2.2.2.2.1 : Int32) (p613.2 : (Nat → Int32))) : Int32) (p668.2.2.2.2.2.1 : Int32) (p668.2.2.2.2.2.2.1 : Int32) (p668.2.2.2.2.2.2.2.1 : Int32) (p668.2.2.2.2.2.2.2.2.1 : Int32) (p668.2.2.2.2.2.2.2.2.2.1 : Int32) (p668.2.2.2.2.2.2.2.2.2.2.1 : Int32) (upd (p668.2.2.2.2.2.2.2.2.2.2.2 : (Nat → Int32)) (0 : Int32).toNatClampNeg 0 : (Nat → Int32)) = p890 at *
          unfold Q_DR_cut at h7
          obtain ⟨h71, h7g, h76⟩ := h7
          unfold S_DR_divide_c397_17 F_DR_divide_c397_17
          by_cases g8 : (p890.1 : Int32) = (0 : Int32)
          ·
            rw [if_pos g8, if_pos g8]
            refine ⟨trivial, ?_⟩
            (unfold Q_DR_divide; dsimp only; with_reducible assumption)
          ·
            rw [if_neg g8, if_neg g8]
            have h9 := T_DR_store (x2 := x4) (t0_0 := (p890.2.1 : Int32)) (t0_1 := (p890.2.2.1 : Int32)) (t0_2 := (p890.2.2.2.1 : Int32)) (t0_3 := (p890.2.2.2.2.1 : Int64)) (t0_4 := (p890.2.2.2.2.2.1 : Int32)) (t0_5 := (p890.2.2.2.2.2.2.1 : Int32)) (t0_6 := (p890.2.2.2.2.2.2.2.1 : Int32)) (t0_7 := (p890.2.2.2.2.2.2.2.2.1 : Int32)) (t0_8 := (p890.2.2.2.2.2.2.2.2.2.1 : Int32)) (t0_9 := (p890.2.2.2.2.2.2.2.2.2.2.1 : Int32)) (t0_10 := (p890.2.2.2.2.2.2.2.2.2.2.2.1 : Int32)) (t1_0 := t1_0) (t2_0 := t2_0) (t3_0 := t3_0) (t4_0 := t4_0) (t5_0 := (p890.2.2.2.2.2.2.2.2.2.2.2.2 : (Nat → Int32))) (by with_reducible assumption) (by with_reducible assumption) ⟨by first | omega | decide, by first | omega | decide⟩ (by first | with_reducible assumption | exact g_cl (by with_reducible assumption) (by omega) (by omega) | omega | decide)
            with_reducible refine v_owe h9.1 ?_
            replace h9 := h9.2
            generalize F_DR_store x4 (p890.2.1 : Int32) (p890.2.2.1 : Int32) (p890.2.2.2.1 : Int32) (p890.2.2.2.2.1 : Int64) (p890.2.2.2.2.2.1 : Int32) (p890.2.2.2.2.2.2.1 : Int32) (p890.2.2.2.2.2.2.2.1 : Int32) (p890.2.2.2.2.2.2.2.2.1 : Int32) (p890.2.2.2.2.2.2.2.2.2.1 : Int32) (p890.2.2.2.2.2.2.2.2.2.2.1 : Int32) (p890.2.2.2.2.2.2.2.2.2.2.2.1 : Int32) t1_0 t2_0 t3_0 t4_0 (p890.2.2.2.2.2.2.2.2.2.2.2.2 : (Nat → Int32)) = p962 at *
            unfold Q_DR_store at h9
            unfold S_DR_divide_c405_18 F_DR_divide_c405_18
            refine ⟨trivial, ?_⟩
            (unfold Q_DR_divide; dsimp only; with_reducible assumption)
        ·
          rw [if_neg g6, if_neg g6]
          have g6i := q_neI g6
          have g6e : (p668.2.2.1 - 1 : Int32).toInt = p668.2.2.1.toInt - 1 := q_subI (y := 1) rfl (by decide) (by omega) (by omega)
          have h10 := T_DR_cut (x2 := ((p668.2.2.1 : Int32) - 1 : Int32)) (x3 := x6) (t0_0 := (p668.1 : Int32)) (t0_1 := (p668.2.1 : Int32)) (t0_2 := (p668.2.2.1 : Int32)) (t0_3 := ((x5.toInt64 : Int64) + 1 : Int64)) (t0_4 := ((F_DR_isLeft (p668.1 : Int32) (p668.2.1 : Int32) (p668.2.2.1 : Int32) (p668.2.2.2.1 : Int64) (p668.2.2.2.2.1 : Int32) (p668.2.2.2.2.2.1 : Int32) (p668.2.2.2.2.2.2.1 : Int32) (p668.2.2.2.2.2.2.2.1 : Int32) (p668.2.2.2.2.2.2.2.2.1 : Int32) (p668.2.2.2.2.2.2.2.2.2.1 : Int32) (p668.2.2.2.2.2.2.2.2.2.2.1 : Int32) (p613.2 : (Nat → Int32))) : Int32)) (t0_5 := (p668.2.2.2.2.2.1 : Int32)) (t0_6 := (p668.2.2.2.2.2.2.1 : Int32)) (t0_7 := (p668.2.2.2.2.2.2.2.1 : Int32)) (t0_8 := (p668.2.2.2.2.2.2.2.2.1 : Int32)) (t0_9 := (p668.2.2.2.2.2.2.2.2.2.1 : Int32)) (t0_10 := (p668.2.2.2.2.2.2.2.2.2.2.1 : Int32)) (t1_0 := (p668.2.2.2.2.2.2.2.2.2.2.2 : (Nat → Int32))) (by first | exact ⟨by omega, by omega⟩ | decide) (by first | omega | decide) (by first | exact ⟨by omega, by omega⟩ | decide) (by first | with_reducible assumption | exact g_one)
          with_reducible refine v_owe h10.1 ?_
          replace h10 := h10.2
          generalize F_DR_cut ((p668.2.2.1 : Int32) - 1 : Int32) x6 (p668.1 : Int32) (p668.2.1 : Int32) (p668.2.2.1 : Int32) ((x5.toInt64 : Int64) + 1 : Int64) ((F_DR_isLeft (p668.1 : Int32) (p668.2.1 : Int32) (p668.2.2.1 : Int32) (p668.2.2.2.1 : Int64) (p668.2.2.2.2.1 : Int32) (p668.2.2.2.2.2.1 : Int32) (p668.2.2.2.2.2.2.1 : Int32) (p668.2.2.2.2.2.2.2.1 : Int32) (p668.2.2.2.2.2.2.2.2.1 : Int32) (p668.2.2.2.2.2.2.2.2.2.1 : Int32) (p668.2.2.2.2.2.2.2.2.2.2.1 : Int32) (p613.2 : (Nat → Int32))) : Int32) (p668.2.2.2.2.2.1 : Int32) (p668.2.2.2.2.2.2.1 : Int32) (p668.2.2.2.2.2.2.2.1 : Int32) (p668.2.2.2.2.2.2.2.2.1 : Int32) (p668.2.2.2.2.2.2.2.2.2.1 : Int32) (p668.2.2.2.2.2.2.2.2.2.2.1 : Int32) (p668.2.2.2.2.2.2.2.2.2.2.2 : (Nat → Int32)) = p750 at *
          unfold Q_DR_cut at h10
          obtain ⟨h101, h10g, h106⟩ := h10
          unfold S_DR_divide_c397_15 F_DR_divide_c397_15
          by_cases g11 : (p750.1 : Int32) = (0 : Int32)
          ·
            rw [if_pos g11, if_pos g11]
            refine ⟨trivial, ?_⟩
            (unfold Q_DR_divide; dsimp only; with_reducible assumption)
          ·
            rw [if_neg g11, if_neg g11]
            have h12 := T_DR_store (x2 := x4) (t0_0 := (p750.2.1 : Int32)) (t0_1 := (p750.2.2.1 : Int32)) (t0_2 := (p750.2.2.2.1 : Int32)) (t0_3 := (p750.2.2.2.2.1 : Int64)) (t0_4 := (p750.2.2.2.2.2.1 : Int32)) (t0_5 := (p750.2.2.2.2.2.2.1 : Int32)) (t0_6 := (p750.2.2.2.2.2.2.2.1 : Int32)) (t0_7 := (p750.2.2.2.2.2.2.2.2.1 : Int32)) (t0_8 := (p750.2.2.2.2.2.2.2.2.2.1 : Int32)) (t0_9 := (p750.2.2.2.2.2.2.2.2.2.2.1 : Int32)) (t0_10 := (p750.2.2.2.2.2.2.2.2.2.2.2.1 : Int32)) (t1_0 := t1_0) (t2_0 := t2_0) (t3_0 := t3_0) (t4_0 := t4_0) (t5_0 := (p750.2.2.2.2.2.2.2.2.2.2.2.2 : (Nat → Int32))) (by with_reducible assumption) (by with_reducible assumption) ⟨by first | omega | decide, by first | omega | decide⟩ (by first | with_reducible assumption | exact g_cl (by with_reducible assumption) (by omega) (by omega) | omega | decide)
            with_reducible refine v_owe h12.1 ?_
            replace h12 := h12.2
            generalize F_DR_store x4 (p750.2.1 : Int32) (p750.2.2.1 : Int32) (p750.2.2.2.1 : Int32) (p750.2.2.2.2.1 : Int64) (p750.2.2.2.2.2.1 : Int32) (p750.2.2.2.2.2.2.1 : Int32) (p750.2.2.2.2.2.2.2.1 : Int32) (p750.2.2.2.2.2.2.2.2.1 : Int32) (p750.2.2.2.2.2.2.2.2.2.1 : Int32) (p750.2.2.2.2.2.2.2.2.2.2.1 : Int32) (p750.2.2.2.2.2.2.2.2.2.2.2.1 : Int32) t1_0 t2_0 t3_0 t4_0 (p750.2.2.2.2.2.2.2.2.2.2.2.2 : (Nat → Int32)) = p822 at *
            unfold Q_DR_store at h12
            unfold S_DR_divide_c405_16 F_DR_divide_c405_16
            refine ⟨trivial, ?_⟩
            (unfold Q_DR_divide; dsimp only; with_reducible assumption)
      ·
        rw [if_neg g2, if_neg g2]
        have g2l := g_lc6 g2
        by_cases g13 : (0 : Int32) ≤ (lg_cmp lx512 ((t2_0 x2.toNatClampNeg : Int32).toInt64 : Int64) : Int32)
        ·
          rw [if_pos g13, if_pos g13]
          have g13l := g_lc5 g13
          have h14 := R_next  (x2 := (0 : Int32)) (t0_0 := lx513) (t0_1 := lx514) (t0_2 := lx515) (t0_3 := lx516) (t0_4 := lx517) (t0_5 := lx518) (t0_6 := lx519) (t0_7 := lx520) (t0_8 := lx521) (t0_9 := lx522) (t0_10 := lx523) (un := f397) (l0 := lx525) (by with_reducible assumption) (by with_reducible assumption) (by first | decide | exact (u_k9 hR.1 hx2 (gR.at hR hx2).1.2 h0.1 (by with_reducible assumption)).1)
          with_reducible refine v_owe h14.1 ?_
          replace h14 := h14.2
          generalize F_DR_nextFigure (0 : Int32) lx513 lx514 lx515 lx516 lx517 lx518 lx519 lx520 lx521 lx522 lx523 f397 lx525 = p1004 at *
          obtain ⟨nxd, nxw, nxe⟩ := h14
          unfold S_DR_divide_c328 F_DR_divide_c328
          have h15 := T_DR_append (x2 := (p1004.1 : Int32)) (t0_0 := lx513) (t0_1 := lx514) (t0_2 := lx515) (t0_3 := lx516) (t0_4 := lx517) (t0_5 := lx518) (t0_6 := lx519) (t0_7 := lx520) (t0_8 := lx521) (t0_9 := lx522) (t0_10 := lx523) (t1_0 := lx524) ⟨by omega, by omega⟩ (by with_reducible assumption) (by with_reducible assumption) (by with_reducible assumption)
          with_reducible refine v_owe h15.1 ?_
          replace h15 := h15.2
          generalize F_DR_append (p1004.1 : Int32) lx513 lx514 lx515 lx516 lx517 lx518 lx519 lx520 lx521 lx522 lx523 lx524 = p1059 at *
          unfold Q_DR_append at h15
          obtain ⟨h152, h15g, h15z, h15a, h15b, h15d, h15e, h155, h157, h15k⟩ := h15
          have app7 := h157
          have app5 := congrArg Int32.toInt h155
          have app7i := congrArg Int32.toInt h157
          unfold S_DR_divide_c331 F_DR_divide_c331
          have e9 : (lx512 + 1 : Int64).toInt = lx512.toInt + 1 := q_addL (y := 1) rfl (by decide) (by omega) (by omega); exact ih _ _ _ _ _ _ _ _ _ _ _ _ _ _ ⟨by omega, by omega⟩ (by omega) ⟨by omega, by omega⟩ ⟨by omega, by omega⟩ (by rw [app7]; exact nxw) (by rw [app7]; exact hU) (by with_reducible assumption) (by with_reducible assumption)
        ·
          rw [if_neg g13, if_neg g13]
          have g13l := g_lc6 g13
          refine v_cons (by have := (u_k9 hR.1 hx2 (gR.at hR hx2).1.2 h0.1 (by with_reducible assumption) (K := t1_0)).2; omega) ?_
          refine v_cons (by have := (u_k9 hR.1 hx2 (gR.at hR hx2).1.2 h0.1 (by with_reducible assumption) (K := t1_0)).2; omega) ?_
          have h16 := R_next  (x2 := (t1_0 ((1000 * x2 : Int32) + (lx512.toInt32 : Int32) : Int32).toNatClampNeg : Int32)) (t0_0 := lx513) (t0_1 := lx514) (t0_2 := lx515) (t0_3 := lx516) (t0_4 := lx517) (t0_5 := lx518) (t0_6 := lx519) (t0_7 := lx520) (t0_8 := lx521) (t0_9 := lx522) (t0_10 := lx523) (un := f397) (l0 := lx525) (by with_reducible assumption) (by with_reducible assumption) (by first | decide | exact (u_k9 hR.1 hx2 (gR.at hR hx2).1.2 h0.1 (by with_reducible assumption)).1)
          with_reducible refine v_owe h16.1 ?_
          replace h16 := h16.2
          generalize F_DR_nextFigure (t1_0 ((1000 * x2 : Int32) + (lx512.toInt32 : Int32) : Int32).toNatClampNeg : Int32) lx513 lx514 lx515 lx516 lx517 lx518 lx519 lx520 lx521 lx522 lx523 f397 lx525 = p1102 at *
          obtain ⟨nxd, nxw, nxe⟩ := h16
          unfold S_DR_divide_c328_21 F_DR_divide_c328_21
          have h17 := T_DR_append (x2 := (p1102.1 : Int32)) (t0_0 := lx513) (t0_1 := lx514) (t0_2 := lx515) (t0_3 := lx516) (t0_4 := lx517) (t0_5 := lx518) (t0_6 := lx519) (t0_7 := lx520) (t0_8 := lx521) (t0_9 := lx522) (t0_10 := lx523) (t1_0 := lx524) ⟨by omega, by omega⟩ (by with_reducible assumption) (by with_reducible assumption) (by with_reducible assumption)
          with_reducible refine v_owe h17.1 ?_
          replace h17 := h17.2
          generalize F_DR_append (p1102.1 : Int32) lx513 lx514 lx515 lx516 lx517 lx518 lx519 lx520 lx521 lx522 lx523 lx524 = p1157 at *
          unfold Q_DR_append at h17
          obtain ⟨h172, h17g, h17z, h17a, h17b, h17d, h17e, h175, h177, h17k⟩ := h17
          have app7 := h177
          have app5 := congrArg Int32.toInt h175
          have app7i := congrArg Int32.toInt h177
          unfold S_DR_divide_c331_22 F_DR_divide_c331_22
          have e9 : (lx512 + 1 : Int64).toInt = lx512.toInt + 1 := q_addL (y := 1) rfl (by decide) (by omega) (by omega); exact ih _ _ _ _ _ _ _ _ _ _ _ _ _ _ ⟨by omega, by omega⟩ (by omega) ⟨by omega, by omega⟩ ⟨by omega, by omega⟩ (by rw [app7]; exact nxw) (by rw [app7]; exact hU) (by with_reducible assumption) (by with_reducible assumption)
    ·
      rw [if_neg g1, if_neg g1]
      have g1l := g_lc4 g1
      unfold S_DR_divide_J290 F_DR_divide_J290
      by_cases g18 : (0 : Int32) ≤ (lg_cmp lx512 (((t2_0 x2.toNatClampNeg : Int32).toInt64 : Int64) + j88 : Int64) : Int32)
      ·
        rw [if_pos g18, if_pos g18]
        have g18l := g_lc5 g18
        have h19 := R_next  (x2 := (0 : Int32)) (t0_0 := lx513) (t0_1 := lx514) (t0_2 := lx515) (t0_3 := lx516) (t0_4 := lx517) (t0_5 := lx518) (t0_6 := lx519) (t0_7 := lx520) (t0_8 := lx521) (t0_9 := lx522) (t0_10 := lx523) (un := f397) (l0 := lx525) (by with_reducible assumption) (by with_reducible assumption) (by first | decide | exact (u_k9 hR.1 hx2 (gR.at hR hx2).1.2 h0.1 (by with_reducible assumption)).1)
        with_reducible refine v_owe h19.1 ?_
        replace h19 := h19.2
        generalize F_DR_nextFigure (0 : Int32) lx513 lx514 lx515 lx516 lx517 lx518 lx519 lx520 lx521 lx522 lx523 f397 lx525 = p613 at *
        obtain ⟨nxd, nxw, nxe⟩ := h19
        unfold S_DR_divide_c346 F_DR_divide_c346
        have h20 := T_DR_append (x2 := (p613.1 : Int32)) (t0_0 := lx513) (t0_1 := lx514) (t0_2 := lx515) (t0_3 := lx516) (t0_4 := lx517) (t0_5 := lx518) (t0_6 := lx519) (t0_7 := lx520) (t0_8 := lx521) (t0_9 := lx522) (t0_10 := lx523) (t1_0 := lx524) ⟨by omega, by omega⟩ (by with_reducible assumption) (by with_reducible assumption) (by with_reducible assumption)
        with_reducible refine v_owe h20.1 ?_
        replace h20 := h20.2
        generalize F_DR_append (p613.1 : Int32) lx513 lx514 lx515 lx516 lx517 lx518 lx519 lx520 lx521 lx522 lx523 lx524 = p668 at *
        unfold Q_DR_append at h20
        obtain ⟨h202, h20g, h20z, h20a, h20b, h20d, h20e, h205, h207, h20k⟩ := h20
        have app7 := h207
        have app5 := congrArg Int32.toInt h205
        have app7i := congrArg Int32.toInt h207
        unfold S_DR_divide_c349 F_DR_divide_c349
        have h21 := T_DR_isLeft (t0_0 := (p668.1 : Int32)) (t0_1 := (p668.2.1 : Int32)) (t0_2 := (p668.2.2.1 : Int32)) (t0_3 := (p668.2.2.2.1 : Int64)) (t0_4 := (p668.2.2.2.2.1 : Int32)) (t0_5 := (p668.2.2.2.2.2.1 : Int32)) (t0_6 := (p668.2.2.2.2.2.2.1 : Int32)) (t0_7 := (p668.2.2.2.2.2.2.2.1 : Int32)) (t0_8 := (p668.2.2.2.2.2.2.2.2.1 : Int32)) (t0_9 := (p668.2.2.2.2.2.2.2.2.2.1 : Int32)) (t0_10 := (p668.2.2.2.2.2.2.2.2.2.2.1 : Int32)) (t1_0 := (p613.2 : (Nat → Int32))) ⟨by omega, by omega⟩
        with_reducible refine v_owe h21 ?_
        refine v_cons (by omega) ?_
        refine v_cons (by omega) ?_
        by_cases g22 : (p668.2.2.1 : Int32) = (0 : Int32)
        ·
          rw [if_pos g22, if_pos g22]
          have g22i := q_eqI g22
          have h23 := T_DR_cut (x2 := (0 : Int32)) (x3 := x6) (t0_0 := (p668.1 : Int32)) (t0_1 := (p668.2.1 : Int32)) (t0_2 := (1 : Int32)) (t0_3 := ((x5.toInt64 : Int64) + 1 : Int64)) (t0_4 := ((F_DR_isLeft (p668.1 : Int32) (p668.2.1 : Int32) (p668.2.2.1 : Int32) (p668.2.2.2.1 : Int64) (p668.2.2.2.2.1 : Int32) (p668.2.2.2.2.2.1 : Int32) (p668.2.2.2.2.2.2.1 : Int32) (p668.2.2.2.2.2.2.2.1 : Int32) (p668.2.2.2.2.2.2.2.2.1 : Int32) (p668.2.2.2.2.2.2.2.2.2.1 : Int32) (p668.2.2.2.2.2.2.2.2.2.2.1 : Int32) (p613.2 : (Nat → Int32))) : Int32)) (t0_5 := (p668.2.2.2.2.2.1 : Int32)) (t0_6 := (p668.2.2.2.2.2.2.1 : Int32)) (t0_7 := (p668.2.2.2.2.2.2.2.1 : Int32)) (t0_8 := (p668.2.2.2.2.2.2.2.2.1 : Int32)) (t0_9 := (p668.2.2.2.2.2.2.2.2.2.1 : Int32)) (t0_10 := (p668.2.2.2.2.2.2.2.2.2.2.1 : Int32)) (t1_0 := (upd (p668.2.2.2.2.2.2.2.2.2.2.2 : (Nat → Int32)) (0 : Int32).toNatClampNeg 0 : (Nat → Int32))) (by first | exact ⟨by omega, by omega⟩ | decide) (by first | omega | decide) (by first | exact ⟨by omega, by omega⟩ | decide) (by first | with_reducible assumption | exact g_one)
          with_reducible refine v_owe h23.1 ?_
          replace h23 := h23.2
          generalize F_DR_cut (0 : Int32) x6 (p668.1 : Int32) (p668.2.1 : Int32) (1 : Int32) ((x5.toInt64 : Int64) + 1 : Int64) ((F_DR_isLeft (p668.1 : Int32) (p668.2.1 : Int32) (p668.2.2.1 : Int32) (p668.2.2.2.1 : Int64) (p668.2.2.2.2.1 : Int32) (p668.2.2.2.2.2.1 : Int32) (p668.2.2.2.2.2.2.1 : Int32) (p668.2.2.2.2.2.2.2.1 : Int32) (p668.2.2.2.2.2.2.2.2.1 : Int32) (p668.2.2.2.2.2.2.2.2.2.1 : Int32) (p668.2.2.2.2.2.2.2.2.2.2.1 : Int32) (p613.2 : (Nat → Int32))) : Int32) (p668.2.2.2.2.2.1 : Int32) (p668.2.2.2.2.2.2.1 : Int32) (p668.2.2.2.2.2.2.2.1 : Int32) (p668.2.2.2.2.2.2.2.2.1 : Int32) (p668.2.2.2.2.2.2.2.2.2.1 : Int32) (p668.2.2.2.2.2.2.2.2.2.2.1 : Int32) (upd (p668.2.2.2.2.2.2.2.2.2.2.2 : (Nat → Int32)) (0 : Int32).toNatClampNeg 0 : (Nat → Int32)) = p890 at *
          unfold Q_DR_cut at h23
          obtain ⟨h231, h23g, h236⟩ := h23
          unfold S_DR_divide_c397_17 F_DR_divide_c397_17
          by_cases g24 : (p890.1 : Int32) = (0 : Int32)
          ·
            rw [if_pos g24, if_pos g24]
            refine ⟨trivial, ?_⟩
            (unfold Q_DR_divide; dsimp only; with_reducible assumption)
          ·
            rw [if_neg g24, if_neg g24]
            have h25 := T_DR_store (x2 := x4) (t0_0 := (p890.2.1 : Int32)) (t0_1 := (p890.2.2.1 : Int32)) (t0_2 := (p890.2.2.2.1 : Int32)) (t0_3 := (p890.2.2.2.2.1 : Int64)) (t0_4 := (p890.2.2.2.2.2.1 : Int32)) (t0_5 := (p890.2.2.2.2.2.2.1 : Int32)) (t0_6 := (p890.2.2.2.2.2.2.2.1 : Int32)) (t0_7 := (p890.2.2.2.2.2.2.2.2.1 : Int32)) (t0_8 := (p890.2.2.2.2.2.2.2.2.2.1 : Int32)) (t0_9 := (p890.2.2.2.2.2.2.2.2.2.2.1 : Int32)) (t0_10 := (p890.2.2.2.2.2.2.2.2.2.2.2.1 : Int32)) (t1_0 := t1_0) (t2_0 := t2_0) (t3_0 := t3_0) (t4_0 := t4_0) (t5_0 := (p890.2.2.2.2.2.2.2.2.2.2.2.2 : (Nat → Int32))) (by with_reducible assumption) (by with_reducible assumption) ⟨by first | omega | decide, by first | omega | decide⟩ (by first | with_reducible assumption | exact g_cl (by with_reducible assumption) (by omega) (by omega) | omega | decide)
            with_reducible refine v_owe h25.1 ?_
            replace h25 := h25.2
            generalize F_DR_store x4 (p890.2.1 : Int32) (p890.2.2.1 : Int32) (p890.2.2.2.1 : Int32) (p890.2.2.2.2.1 : Int64) (p890.2.2.2.2.2.1 : Int32) (p890.2.2.2.2.2.2.1 : Int32) (p890.2.2.2.2.2.2.2.1 : Int32) (p890.2.2.2.2.2.2.2.2.1 : Int32) (p890.2.2.2.2.2.2.2.2.2.1 : Int32) (p890.2.2.2.2.2.2.2.2.2.2.1 : Int32) (p890.2.2.2.2.2.2.2.2.2.2.2.1 : Int32) t1_0 t2_0 t3_0 t4_0 (p890.2.2.2.2.2.2.2.2.2.2.2.2 : (Nat → Int32)) = p962 at *
            unfold Q_DR_store at h25
            unfold S_DR_divide_c405_18 F_DR_divide_c405_18
            refine ⟨trivial, ?_⟩
            (unfold Q_DR_divide; dsimp only; with_reducible assumption)
        ·
          rw [if_neg g22, if_neg g22]
          have g22i := q_neI g22
          have g22e : (p668.2.2.1 - 1 : Int32).toInt = p668.2.2.1.toInt - 1 := q_subI (y := 1) rfl (by decide) (by omega) (by omega)
          have h26 := T_DR_cut (x2 := ((p668.2.2.1 : Int32) - 1 : Int32)) (x3 := x6) (t0_0 := (p668.1 : Int32)) (t0_1 := (p668.2.1 : Int32)) (t0_2 := (p668.2.2.1 : Int32)) (t0_3 := ((x5.toInt64 : Int64) + 1 : Int64)) (t0_4 := ((F_DR_isLeft (p668.1 : Int32) (p668.2.1 : Int32) (p668.2.2.1 : Int32) (p668.2.2.2.1 : Int64) (p668.2.2.2.2.1 : Int32) (p668.2.2.2.2.2.1 : Int32) (p668.2.2.2.2.2.2.1 : Int32) (p668.2.2.2.2.2.2.2.1 : Int32) (p668.2.2.2.2.2.2.2.2.1 : Int32) (p668.2.2.2.2.2.2.2.2.2.1 : Int32) (p668.2.2.2.2.2.2.2.2.2.2.1 : Int32) (p613.2 : (Nat → Int32))) : Int32)) (t0_5 := (p668.2.2.2.2.2.1 : Int32)) (t0_6 := (p668.2.2.2.2.2.2.1 : Int32)) (t0_7 := (p668.2.2.2.2.2.2.2.1 : Int32)) (t0_8 := (p668.2.2.2.2.2.2.2.2.1 : Int32)) (t0_9 := (p668.2.2.2.2.2.2.2.2.2.1 : Int32)) (t0_10 := (p668.2.2.2.2.2.2.2.2.2.2.1 : Int32)) (t1_0 := (p668.2.2.2.2.2.2.2.2.2.2.2 : (Nat → Int32))) (by first | exact ⟨by omega, by omega⟩ | decide) (by first | omega | decide) (by first | exact ⟨by omega, by omega⟩ | decide) (by first | with_reducible assumption | exact g_one)
          with_reducible refine v_owe h26.1 ?_
          replace h26 := h26.2
          generalize F_DR_cut ((p668.2.2.1 : Int32) - 1 : Int32) x6 (p668.1 : Int32) (p668.2.1 : Int32) (p668.2.2.1 : Int32) ((x5.toInt64 : Int64) + 1 : Int64) ((F_DR_isLeft (p668.1 : Int32) (p668.2.1 : Int32) (p668.2.2.1 : Int32) (p668.2.2.2.1 : Int64) (p668.2.2.2.2.1 : Int32) (p668.2.2.2.2.2.1 : Int32) (p668.2.2.2.2.2.2.1 : Int32) (p668.2.2.2.2.2.2.2.1 : Int32) (p668.2.2.2.2.2.2.2.2.1 : Int32) (p668.2.2.2.2.2.2.2.2.2.1 : Int32) (p668.2.2.2.2.2.2.2.2.2.2.1 : Int32) (p613.2 : (Nat → Int32))) : Int32) (p668.2.2.2.2.2.1 : Int32) (p668.2.2.2.2.2.2.1 : Int32) (p668.2.2.2.2.2.2.2.1 : Int32) (p668.2.2.2.2.2.2.2.2.1 : Int32) (p668.2.2.2.2.2.2.2.2.2.1 : Int32) (p668.2.2.2.2.2.2.2.2.2.2.1 : Int32) (p668.2.2.2.2.2.2.2.2.2.2.2 : (Nat → Int32)) = p750 at *
          unfold Q_DR_cut at h26
          obtain ⟨h261, h26g, h266⟩ := h26
          unfold S_DR_divide_c397_15 F_DR_divide_c397_15
          by_cases g27 : (p750.1 : Int32) = (0 : Int32)
          ·
            rw [if_pos g27, if_pos g27]
            refine ⟨trivial, ?_⟩
            (unfold Q_DR_divide; dsimp only; with_reducible assumption)
          ·
            rw [if_neg g27, if_neg g27]
            have h28 := T_DR_store (x2 := x4) (t0_0 := (p750.2.1 : Int32)) (t0_1 := (p750.2.2.1 : Int32)) (t0_2 := (p750.2.2.2.1 : Int32)) (t0_3 := (p750.2.2.2.2.1 : Int64)) (t0_4 := (p750.2.2.2.2.2.1 : Int32)) (t0_5 := (p750.2.2.2.2.2.2.1 : Int32)) (t0_6 := (p750.2.2.2.2.2.2.2.1 : Int32)) (t0_7 := (p750.2.2.2.2.2.2.2.2.1 : Int32)) (t0_8 := (p750.2.2.2.2.2.2.2.2.2.1 : Int32)) (t0_9 := (p750.2.2.2.2.2.2.2.2.2.2.1 : Int32)) (t0_10 := (p750.2.2.2.2.2.2.2.2.2.2.2.1 : Int32)) (t1_0 := t1_0) (t2_0 := t2_0) (t3_0 := t3_0) (t4_0 := t4_0) (t5_0 := (p750.2.2.2.2.2.2.2.2.2.2.2.2 : (Nat → Int32))) (by with_reducible assumption) (by with_reducible assumption) ⟨by first | omega | decide, by first | omega | decide⟩ (by first | with_reducible assumption | exact g_cl (by with_reducible assumption) (by omega) (by omega) | omega | decide)
            with_reducible refine v_owe h28.1 ?_
            replace h28 := h28.2
            generalize F_DR_store x4 (p750.2.1 : Int32) (p750.2.2.1 : Int32) (p750.2.2.2.1 : Int32) (p750.2.2.2.2.1 : Int64) (p750.2.2.2.2.2.1 : Int32) (p750.2.2.2.2.2.2.1 : Int32) (p750.2.2.2.2.2.2.2.1 : Int32) (p750.2.2.2.2.2.2.2.2.1 : Int32) (p750.2.2.2.2.2.2.2.2.2.1 : Int32) (p750.2.2.2.2.2.2.2.2.2.2.1 : Int32) (p750.2.2.2.2.2.2.2.2.2.2.2.1 : Int32) t1_0 t2_0 t3_0 t4_0 (p750.2.2.2.2.2.2.2.2.2.2.2.2 : (Nat → Int32)) = p822 at *
            unfold Q_DR_store at h28
            unfold S_DR_divide_c405_16 F_DR_divide_c405_16
            refine ⟨trivial, ?_⟩
            (unfold Q_DR_divide; dsimp only; with_reducible assumption)
      ·
        rw [if_neg g18, if_neg g18]
        have g18l := g_lc6 g18
        by_cases g29 : (0 : Int32) ≤ (lg_cmp lx512 ((t2_0 x2.toNatClampNeg : Int32).toInt64 : Int64) : Int32)
        ·
          rw [if_pos g29, if_pos g29]
          have g29l := g_lc5 g29
          have h30 := R_next  (x2 := (0 : Int32)) (t0_0 := lx513) (t0_1 := lx514) (t0_2 := lx515) (t0_3 := lx516) (t0_4 := lx517) (t0_5 := lx518) (t0_6 := lx519) (t0_7 := lx520) (t0_8 := lx521) (t0_9 := lx522) (t0_10 := lx523) (un := f397) (l0 := lx525) (by with_reducible assumption) (by with_reducible assumption) (by first | decide | exact (u_k9 hR.1 hx2 (gR.at hR hx2).1.2 h0.1 (by with_reducible assumption)).1)
          with_reducible refine v_owe h30.1 ?_
          replace h30 := h30.2
          generalize F_DR_nextFigure (0 : Int32) lx513 lx514 lx515 lx516 lx517 lx518 lx519 lx520 lx521 lx522 lx523 f397 lx525 = p1004 at *
          obtain ⟨nxd, nxw, nxe⟩ := h30
          unfold S_DR_divide_c328 F_DR_divide_c328
          have h31 := T_DR_append (x2 := (p1004.1 : Int32)) (t0_0 := lx513) (t0_1 := lx514) (t0_2 := lx515) (t0_3 := lx516) (t0_4 := lx517) (t0_5 := lx518) (t0_6 := lx519) (t0_7 := lx520) (t0_8 := lx521) (t0_9 := lx522) (t0_10 := lx523) (t1_0 := lx524) ⟨by omega, by omega⟩ (by with_reducible assumption) (by with_reducible assumption) (by with_reducible assumption)
          with_reducible refine v_owe h31.1 ?_
          replace h31 := h31.2
          generalize F_DR_append (p1004.1 : Int32) lx513 lx514 lx515 lx516 lx517 lx518 lx519 lx520 lx521 lx522 lx523 lx524 = p1059 at *
          unfold Q_DR_append at h31
          obtain ⟨h312, h31g, h31z, h31a, h31b, h31d, h31e, h315, h317, h31k⟩ := h31
          have app7 := h317
          have app5 := congrArg Int32.toInt h315
          have app7i := congrArg Int32.toInt h317
          unfold S_DR_divide_c331 F_DR_divide_c331
          have e9 : (lx512 + 1 : Int64).toInt = lx512.toInt + 1 := q_addL (y := 1) rfl (by decide) (by omega) (by omega); exact ih _ _ _ _ _ _ _ _ _ _ _ _ _ _ ⟨by omega, by omega⟩ (by omega) ⟨by omega, by omega⟩ ⟨by omega, by omega⟩ (by rw [app7]; exact nxw) (by rw [app7]; exact hU) (by with_reducible assumption) (by with_reducible assumption)
        ·
          rw [if_neg g29, if_neg g29]
          have g29l := g_lc6 g29
          refine v_cons (by have := (u_k9 hR.1 hx2 (gR.at hR hx2).1.2 h0.1 (by with_reducible assumption) (K := t1_0)).2; omega) ?_
          refine v_cons (by have := (u_k9 hR.1 hx2 (gR.at hR hx2).1.2 h0.1 (by with_reducible assumption) (K := t1_0)).2; omega) ?_
          have h32 := R_next  (x2 := (t1_0 ((1000 * x2 : Int32) + (lx512.toInt32 : Int32) : Int32).toNatClampNeg : Int32)) (t0_0 := lx513) (t0_1 := lx514) (t0_2 := lx515) (t0_3 := lx516) (t0_4 := lx517) (t0_5 := lx518) (t0_6 := lx519) (t0_7 := lx520) (t0_8 := lx521) (t0_9 := lx522) (t0_10 := lx523) (un := f397) (l0 := lx525) (by with_reducible assumption) (by with_reducible assumption) (by first | decide | exact (u_k9 hR.1 hx2 (gR.at hR hx2).1.2 h0.1 (by with_reducible assumption)).1)
          with_reducible refine v_owe h32.1 ?_
          replace h32 := h32.2
          generalize F_DR_nextFigure (t1_0 ((1000 * x2 : Int32) + (lx512.toInt32 : Int32) : Int32).toNatClampNeg : Int32) lx513 lx514 lx515 lx516 lx517 lx518 lx519 lx520 lx521 lx522 lx523 f397 lx525 = p1102 at *
          obtain ⟨nxd, nxw, nxe⟩ := h32
          unfold S_DR_divide_c328_21 F_DR_divide_c328_21
          have h33 := T_DR_append (x2 := (p1102.1 : Int32)) (t0_0 := lx513) (t0_1 := lx514) (t0_2 := lx515) (t0_3 := lx516) (t0_4 := lx517) (t0_5 := lx518) (t0_6 := lx519) (t0_7 := lx520) (t0_8 := lx521) (t0_9 := lx522) (t0_10 := lx523) (t1_0 := lx524) ⟨by omega, by omega⟩ (by with_reducible assumption) (by with_reducible assumption) (by with_reducible assumption)
          with_reducible refine v_owe h33.1 ?_
          replace h33 := h33.2
          generalize F_DR_append (p1102.1 : Int32) lx513 lx514 lx515 lx516 lx517 lx518 lx519 lx520 lx521 lx522 lx523 lx524 = p1157 at *
          unfold Q_DR_append at h33
          obtain ⟨h332, h33g, h33z, h33a, h33b, h33d, h33e, h335, h337, h33k⟩ := h33
          have app7 := h337
          have app5 := congrArg Int32.toInt h335
          have app7i := congrArg Int32.toInt h337
          unfold S_DR_divide_c331_22 F_DR_divide_c331_22
          have e9 : (lx512 + 1 : Int64).toInt = lx512.toInt + 1 := q_addL (y := 1) rfl (by decide) (by omega) (by omega); exact ih _ _ _ _ _ _ _ _ _ _ _ _ _ _ ⟨by omega, by omega⟩ (by omega) ⟨by omega, by omega⟩ ⟨by omega, by omega⟩ (by rw [app7]; exact nxw) (by rw [app7]; exact hU) (by with_reducible assumption) (by with_reducible assumption)
theorem T_DR_divide {x2 : Int32} {x3 : Int32} {x4 : Int32} {x5 : Int32} {x6 : Int32} {t0_0 : Int32} {t0_1 : Int32} {t0_2 : Int32} {t0_3 : Int64} {t0_4 : Int32} {t0_5 : Int32} {t0_6 : Int32} {t0_7 : Int32} {t0_8 : Int32} {t0_9 : Int32} {t0_10 : Int32} {t1_0 : (Nat → Int32)} {t2_0 : (Nat → Int32)} {t3_0 : (Nat → Int32)} {t4_0 : (Nat → Int32)} {t5_0 : (Nat → Int32)} {t6_0 : (Nat → Int32)} {t7_0 : (Nat → Int32)} (hR : gR t1_0 t2_0 t3_0 t4_0) : (S_DR_divide x2 x3 x4 x5 x6 t0_0 t0_1 t0_2 t0_3 t0_4 t0_5 t0_6 t0_7 t0_8 t0_9 t0_10 t1_0 t2_0 t3_0 t4_0 t5_0 t6_0 t7_0) ∧ Q_DR_divide (F_DR_divide x2 x3 x4 x5 x6 t0_0 t0_1 t0_2 t0_3 t0_4 t0_5 t0_6 t0_7 t0_8 t0_9 t0_10 t1_0 t2_0 t3_0 t4_0 t5_0 t6_0 t7_0) := by
  have e0 : (0 : Int32).toInt = 0 := rfl
  have eL0 : (0 : Int64).toInt = 0 := rfl
  have eL1 : (10000 : Int64).toInt = 10000 := rfl
  have eL2 : (-10000 : Int64).toInt = -10000 := rfl
  have eL3 : (1000 : Int64).toInt = 1000 := rfl
  have eL4 : (-1 : Int64).toInt = -1 := rfl
  have eI3 : (1000 : Int32).toInt = 1000 := rfl
  have eOne : (1 : Int32).toInt = 1 := rfl
  have eM : (-10000 : Int32).toInt = -10000 := rfl
  have eP : (10000 : Int32).toInt = 10000 := rfl
  unfold S_DR_divide F_DR_divide
  by_cases g1 : ((F_DR_no x2) : Int32) = (0 : Int32)
  ·
    rw [if_pos g1, if_pos g1]
    have g1r := g_no g1
    by_cases g2 : ((F_DR_no x3) : Int32) = (0 : Int32)
    ·
      rw [if_pos g2, if_pos g2]
      have g2r := g_no g2
      by_cases g3 : ((F_DR_no x4) : Int32) = (0 : Int32)
      ·
        rw [if_pos g3, if_pos g3]
        have g3r := g_no g3
        by_cases g4 : ((F_DR_noMode x6) : Int32) = (0 : Int32)
        ·
          rw [if_pos g4, if_pos g4]
          by_cases g5 : x5 < (-10000 : Int32)
          ·
            rw [if_pos g5, if_pos g5]
            have g5i : x5.toInt < -10000 := q_ltI g5
            unfold S_DR_divide_J46 F_DR_divide_J46
            unfold S_DR_divide_J63 F_DR_divide_J63
            have g6 : ¬ ((1 : Int32) ≤ (0 : Int32)) := (by decide)
            rw [if_neg g6, if_neg g6]
            refine ⟨trivial, ?_⟩
            (unfold Q_DR_divide; dsimp only; with_reducible assumption)
          ·
            rw [if_neg g5, if_neg g5]
            have g5i : -10000 ≤ x5.toInt := q_nltI g5
            by_cases g7 : x5 ≤ (10000 : Int32)
            ·
              rw [if_pos g7, if_pos g7]
              have g7i : x5.toInt ≤ 10000 := q_leI g7
              have h8 := R_dz (x2 := x3) (t0_0 := t0_0) (t0_1 := t0_1) (t0_2 := t0_2) (t0_3 := t0_3) (t0_4 := t0_4) (t0_5 := t0_5) (t0_6 := t0_6) (t0_7 := t0_7) (t0_8 := t0_8) (t0_9 := t0_9) (t0_10 := t0_10) (t1_0 := t1_0) (by with_reducible assumption)
              have h8z := h8.2
              with_reducible refine v_owe h8.1 ?_
              by_cases g9 : ((F_DR_isZero x3 t0_0 t0_1 t0_2 t0_3 t0_4 t0_5 t0_6 t0_7 t0_8 t0_9 t0_10 t1_0) : Int32) = (0 : Int32)
              ·
                rw [if_pos g9, if_pos g9]
                have nz3 := u_if g9 (by with_reducible assumption)
                unfold S_DR_divide_J63 F_DR_divide_J63
                have g10 : ((0 : Int32) ≤ (0 : Int32)) := (by decide)
                rw [if_pos g10, if_pos g10]
                refine v_cons (by omega) ?_
                refine v_cons (by omega) ?_
                refine v_cons (by omega) ?_
                refine v_cons (by omega) ?_
                by_cases g11 : (t3_0 x2.toNatClampNeg : Int32) = (t3_0 x3.toNatClampNeg : Int32)
                ·
                  rw [if_pos g11, if_pos g11]
                  have m2 := gR.at hR (by with_reducible assumption : 0 ≤ x2.toInt ∧ x2.toInt ≤ 9)
                  have m3 := gR.at hR (by with_reducible assumption : 0 ≤ x3.toInt ∧ x3.toInt ≤ 9)
                  obtain ⟨j100, e12⟩ := q_nm (((((t2_0 x2.toNatClampNeg : Int32) - (t2_0 x3.toNatClampNeg : Int32) : Int32).toInt64 : Int64) + (((x5.toInt64 : Int64) + ((t4_0 x3.toNatClampNeg : Int32).toInt64 : Int64) : Int64) - ((t4_0 x2.toNatClampNeg : Int32).toInt64 : Int64) : Int64) : Int64) : Int64)
                  rw [e12]
                  have j100i : j100.toInt = (t2_0 x2.toNatClampNeg).toInt - (t2_0 x3.toNatClampNeg).toInt + (x5.toInt + (t4_0 x3.toNatClampNeg).toInt - (t4_0 x2.toNatClampNeg).toInt) := by rw [← e12]; have z1 := u_z1 (c := 0) m3.2.2 m2.2.2 (x := x5) ⟨by omega, by omega⟩; have z2 := u_z2 m2.1 m3.1 (j := (x5.toInt64 + (t4_0 x3.toNatClampNeg).toInt64 - (t4_0 x2.toNatClampNeg).toInt64 : Int64)) ⟨by omega, by omega⟩; omega
                  obtain ⟨j88, e13⟩ := q_nm ((((x5.toInt64 : Int64) + ((t4_0 x3.toNatClampNeg : Int32).toInt64 : Int64) : Int64) - ((t4_0 x2.toNatClampNeg : Int32).toInt64 : Int64) : Int64) : Int64)
                  rw [e13]
                  have j88i : j88.toInt = x5.toInt + (t4_0 x3.toNatClampNeg).toInt - (t4_0 x2.toNatClampNeg).toInt := by rw [← e13]; exact u_z1 (c := 0) m3.2.2 m2.2.2 ⟨by omega, by omega⟩
                  unfold S_DR_divide_J140 F_DR_divide_J140
                  have h14 := R_dz (x2 := x2) (t0_0 := (0 : Int32)) (t0_1 := t0_1) (t0_2 := (0 : Int32)) (t0_3 := (x5.toInt64 : Int64)) (t0_4 := (0 : Int32)) (t0_5 := (0 : Int32)) (t0_6 := t0_6) (t0_7 := t0_7) (t0_8 := t0_8) (t0_9 := t0_9) (t0_10 := (2 : Int32)) (t1_0 := t1_0) (by with_reducible assumption)
                  have h14z := h14.2
                  with_reducible refine v_owe h14.1 ?_
                  by_cases g15 : ((F_DR_isZero x2 (0 : Int32) t0_1 (0 : Int32) (x5.toInt64 : Int64) (0 : Int32) (0 : Int32) t0_6 t0_7 t0_8 t0_9 (2 : Int32) t1_0) : Int32) = (0 : Int32)
                  ·
                    rw [if_pos g15, if_pos g15]
                    by_cases g16 : (lg_cmp j100 1000 : Int32) ≤ (0 : Int32)
                    ·
                      rw [if_pos g16, if_pos g16]
                      have g16l := g_lc3 g16
                      unfold S_DR_divide_J183 F_DR_divide_J183
                      with_reducible refine v_owe h14.1 ?_
                      rw [if_pos g15, if_pos g15]
                      by_cases g17 : (0 : Int32) ≤ (lg_cmp j100 (-1) : Int32)
                      ·
                        rw [if_pos g17, if_pos g17]
                        have g17l := g_lc5 g17
                        by_cases g18 : (0 : Int32) ≤ (lg_cmp j88 0 : Int32)
                        ·
                          rw [if_pos g18, if_pos g18]
                          have g18l := g_lc5 g18
                          unfold S_DR_divide_J258 F_DR_divide_J258
                          have h19 := T_DR_loadUnder (x2 := x3) (x3 := (0 : Int32)) (t0_0 := (0 : Int32)) (t0_1 := t0_1) (t0_2 := (0 : Int32)) (t0_3 := (x5.toInt64 : Int64)) (t0_4 := (0 : Int32)) (t0_5 := (0 : Int32)) (t0_6 := t0_6) (t0_7 := t0_7) (t0_8 := t0_8) (t0_9 := t0_9) (t0_10 := (2 : Int32)) (t1_0 := t1_0) (t2_0 := t2_0) (t3_0 := t6_0) hR.1 (gR.at hR (by with_reducible assumption)).1 (by with_reducible assumption) ⟨by omega, by omega⟩
                          with_reducible refine v_owe h19.1 ?_
                          replace h19 := h19.2
                          generalize F_DR_loadUnder x3 (0 : Int32) (0 : Int32) t0_1 (0 : Int32) (x5.toInt64 : Int64) (0 : Int32) (0 : Int32) t0_6 t0_7 t0_8 t0_9 (2 : Int32) t1_0 t2_0 t6_0 = p431 at *
                          unfold Q_DR_loadUnder at h19
                          obtain ⟨h197, h19g, h19z, h19a, h19b, h19c, h19d, h19e, h19f, h19k⟩ := h19
                          have unz := h19z
                          have unf := congrArg Int32.toInt h19f
                          have unp := u_p1 h19g (by have e9 := q_clI (i := p431.2.2.2.2.2.2.2.1) rfl (by omega); omega) (by rw [unz]; exact nz3)
                          unfold S_DR_divide_c258 F_DR_divide_c258
                          have h20 := T_DR_beginQuotient (t0_0 := (p431.1 : Int32)) (t0_1 := (p431.2.1 : Int32)) (t0_2 := (p431.2.2.1 : Int32)) (t0_3 := (p431.2.2.2.1 : Int64)) (t0_4 := (p431.2.2.2.2.1 : Int32)) (t0_5 := (p431.2.2.2.2.2.1 : Int32)) (t0_6 := (p431.2.2.2.2.2.2.1 : Int32)) (t0_7 := (p431.2.2.2.2.2.2.2.1 : Int32)) (t0_8 := (p431.2.2.2.2.2.2.2.2.1 : Int32)) (t0_9 := (p431.2.2.2.2.2.2.2.2.2.1 : Int32)) (t0_10 := (p431.2.2.2.2.2.2.2.2.2.2.1 : Int32)) (t1_0 := t7_0) ⟨by omega, by omega⟩
                          with_reducible refine v_owe h20.1 ?_
                          replace h20 := h20.2
                          generalize F_DR_beginQuotient (p431.1 : Int32) (p431.2.1 : Int32) (p431.2.2.1 : Int32) (p431.2.2.2.1 : Int64) (p431.2.2.2.2.1 : Int32) (p431.2.2.2.2.2.1 : Int32) (p431.2.2.2.2.2.2.1 : Int32) (p431.2.2.2.2.2.2.2.1 : Int32) (p431.2.2.2.2.2.2.2.2.1 : Int32) (p431.2.2.2.2.2.2.2.2.2.1 : Int32) (p431.2.2.2.2.2.2.2.2.2.2.1 : Int32) t7_0 = p492 at *
                          unfold Q_DR_beginQuotient at h20
                          obtain ⟨h20o, h20a, h20b, h202, h20d, h20e, h205, h207, h20k⟩ := h20
                          have beg0 := h20o
                          have beg2 := congrArg Int32.toInt h202
                          have beg5 := congrArg Int32.toInt h205
                          have beg7 := congrArg Int32.toInt h207
                          have beq7 := h207
                          have beq2 := h202
                          unfold S_DR_divide_c262 F_DR_divide_c262
                          exact v_dvd hR (by with_reducible assumption) (by with_reducible assumption) ⟨by omega, by omega⟩ _ _ _ _ _ _ _ _ _ _ _ _ _ _ _ (by decide) (by decide) ⟨by omega, by omega⟩ ⟨by omega, by omega⟩ (by rw [beq7]; exact u_w0 ⟨by omega, by omega⟩ (by with_reducible assumption) unp beg0) (by rw [beq7]; exact unp) (u_gz beq2) (Or.inl (by omega))
                        ·
                          rw [if_neg g18, if_neg g18]
                          have g18l := g_lc6 g18
                          obtain ⟨lx367, e21⟩ := q_nm (((-j88 : Int64).toInt32 : Int32) : Int32)
                          rw [e21]
                          have l367 : lx367.toInt = -j88.toInt := by rw [← e21]; exact u_ng ⟨by omega, by omega⟩
                          unfold S_DR_divide_J258 F_DR_divide_J258
                          have h22 := T_DR_loadUnder (x2 := x3) (x3 := lx367) (t0_0 := (0 : Int32)) (t0_1 := t0_1) (t0_2 := (0 : Int32)) (t0_3 := (x5.toInt64 : Int64)) (t0_4 := (0 : Int32)) (t0_5 := (0 : Int32)) (t0_6 := t0_6) (t0_7 := t0_7) (t0_8 := t0_8) (t0_9 := t0_9) (t0_10 := (2 : Int32)) (t1_0 := t1_0) (t2_0 := t2_0) (t3_0 := t6_0) hR.1 (gR.at hR (by with_reducible assumption)).1 (by with_reducible assumption) ⟨by omega, by omega⟩
                          with_reducible refine v_owe h22.1 ?_
                          replace h22 := h22.2
                          generalize F_DR_loadUnder x3 lx367 (0 : Int32) t0_1 (0 : Int32) (x5.toInt64 : Int64) (0 : Int32) (0 : Int32) t0_6 t0_7 t0_8 t0_9 (2 : Int32) t1_0 t2_0 t6_0 = p431 at *
                          unfold Q_DR_loadUnder at h22
                          obtain ⟨h227, h22g, h22z, h22a, h22b, h22c, h22d, h22e, h22f, h22k⟩ := h22
                          have unz := h22z
                          have unf := congrArg Int32.toInt h22f
                          have unp := u_p1 h22g (by have e9 := q_clI (i := p431.2.2.2.2.2.2.2.1) rfl (by omega); omega) (by rw [unz]; exact nz3)
                          unfold S_DR_divide_c258 F_DR_divide_c258
                          have h23 := T_DR_beginQuotient (t0_0 := (p431.1 : Int32)) (t0_1 := (p431.2.1 : Int32)) (t0_2 := (p431.2.2.1 : Int32)) (t0_3 := (p431.2.2.2.1 : Int64)) (t0_4 := (p431.2.2.2.2.1 : Int32)) (t0_5 := (p431.2.2.2.2.2.1 : Int32)) (t0_6 := (p431.2.2.2.2.2.2.1 : Int32)) (t0_7 := (p431.2.2.2.2.2.2.2.1 : Int32)) (t0_8 := (p431.2.2.2.2.2.2.2.2.1 : Int32)) (t0_9 := (p431.2.2.2.2.2.2.2.2.2.1 : Int32)) (t0_10 := (p431.2.2.2.2.2.2.2.2.2.2.1 : Int32)) (t1_0 := t7_0) ⟨by omega, by omega⟩
                          with_reducible refine v_owe h23.1 ?_
                          replace h23 := h23.2
                          generalize F_DR_beginQuotient (p431.1 : Int32) (p431.2.1 : Int32) (p431.2.2.1 : Int32) (p431.2.2.2.1 : Int64) (p431.2.2.2.2.1 : Int32) (p431.2.2.2.2.2.1 : Int32) (p431.2.2.2.2.2.2.1 : Int32) (p431.2.2.2.2.2.2.2.1 : Int32) (p431.2.2.2.2.2.2.2.2.1 : Int32) (p431.2.2.2.2.2.2.2.2.2.1 : Int32) (p431.2.2.2.2.2.2.2.2.2.2.1 : Int32) t7_0 = p492 at *
                          unfold Q_DR_beginQuotient at h23
                          obtain ⟨h23o, h23a, h23b, h232, h23d, h23e, h235, h237, h23k⟩ := h23
                          have beg0 := h23o
                          have beg2 := congrArg Int32.toInt h232
                          have beg5 := congrArg Int32.toInt h235
                          have beg7 := congrArg Int32.toInt h237
                          have beq7 := h237
                          have beq2 := h232
                          unfold S_DR_divide_c262 F_DR_divide_c262
                          exact v_dvd hR (by with_reducible assumption) (by with_reducible assumption) ⟨by omega, by omega⟩ _ _ _ _ _ _ _ _ _ _ _ _ _ _ _ (by decide) (by decide) ⟨by omega, by omega⟩ ⟨by omega, by omega⟩ (by rw [beq7]; exact u_w0 ⟨by omega, by omega⟩ (by with_reducible assumption) unp beg0) (by rw [beq7]; exact unp) (u_gz beq2) (Or.inl (by omega))
                      ·
                        rw [if_neg g17, if_neg g17]
                        have g17l := g_lc6 g17
                        unfold S_DR_divide_J200 F_DR_divide_J200
                        with_reducible refine v_owe h14.1 ?_
                        rw [if_pos g15, if_pos g15]
                        unfold S_DR_divide_J214 F_DR_divide_J214
                        have h24 := T_DR_cut (x2 := (0 : Int32)) (x3 := x6) (t0_0 := (0 : Int32)) (t0_1 := t0_1) (t0_2 := (1 : Int32)) (t0_3 := ((x5.toInt64 : Int64) + 1 : Int64)) (t0_4 := (1 : Int32)) (t0_5 := (0 : Int32)) (t0_6 := t0_6) (t0_7 := t0_7) (t0_8 := t0_8) (t0_9 := t0_9) (t0_10 := (2 : Int32)) (t1_0 := (upd t5_0 (0 : Int32).toNatClampNeg 0 : (Nat → Int32))) (by first | exact ⟨by omega, by omega⟩ | decide) (by first | omega | decide) (by first | exact ⟨by omega, by omega⟩ | decide) (by first | with_reducible assumption | exact g_one)
                        with_reducible refine v_owe h24.1 ?_
                        replace h24 := h24.2
                        generalize F_DR_cut (0 : Int32) x6 (0 : Int32) t0_1 (1 : Int32) ((x5.toInt64 : Int64) + 1 : Int64) (1 : Int32) (0 : Int32) t0_6 t0_7 t0_8 t0_9 (2 : Int32) (upd t5_0 (0 : Int32).toNatClampNeg 0 : (Nat → Int32)) = p258 at *
                        unfold Q_DR_cut at h24
                        obtain ⟨h241, h24g, h246⟩ := h24
                        unfold S_DR_divide_c397 F_DR_divide_c397
                        by_cases g25 : (p258.1 : Int32) = (0 : Int32)
                        ·
                          rw [if_pos g25, if_pos g25]
                          refine ⟨trivial, ?_⟩
                          (unfold Q_DR_divide; dsimp only; with_reducible assumption)
                        ·
                          rw [if_neg g25, if_neg g25]
                          have h26 := T_DR_store (x2 := x4) (t0_0 := (p258.2.1 : Int32)) (t0_1 := (p258.2.2.1 : Int32)) (t0_2 := (p258.2.2.2.1 : Int32)) (t0_3 := (p258.2.2.2.2.1 : Int64)) (t0_4 := (p258.2.2.2.2.2.1 : Int32)) (t0_5 := (p258.2.2.2.2.2.2.1 : Int32)) (t0_6 := (p258.2.2.2.2.2.2.2.1 : Int32)) (t0_7 := (p258.2.2.2.2.2.2.2.2.1 : Int32)) (t0_8 := (p258.2.2.2.2.2.2.2.2.2.1 : Int32)) (t0_9 := (p258.2.2.2.2.2.2.2.2.2.2.1 : Int32)) (t0_10 := (p258.2.2.2.2.2.2.2.2.2.2.2.1 : Int32)) (t1_0 := t1_0) (t2_0 := t2_0) (t3_0 := t3_0) (t4_0 := t4_0) (t5_0 := (p258.2.2.2.2.2.2.2.2.2.2.2.2 : (Nat → Int32))) (by with_reducible assumption) (by with_reducible assumption) ⟨by first | omega | decide, by first | omega | decide⟩ (by first | with_reducible assumption | exact g_cl (by with_reducible assumption) (by omega) (by omega) | omega | decide)
                          with_reducible refine v_owe h26.1 ?_
                          replace h26 := h26.2
                          generalize F_DR_store x4 (p258.2.1 : Int32) (p258.2.2.1 : Int32) (p258.2.2.2.1 : Int32) (p258.2.2.2.2.1 : Int64) (p258.2.2.2.2.2.1 : Int32) (p258.2.2.2.2.2.2.1 : Int32) (p258.2.2.2.2.2.2.2.1 : Int32) (p258.2.2.2.2.2.2.2.2.1 : Int32) (p258.2.2.2.2.2.2.2.2.2.1 : Int32) (p258.2.2.2.2.2.2.2.2.2.2.1 : Int32) (p258.2.2.2.2.2.2.2.2.2.2.2.1 : Int32) t1_0 t2_0 t3_0 t4_0 (p258.2.2.2.2.2.2.2.2.2.2.2.2 : (Nat → Int32)) = p330 at *
                          unfold Q_DR_store at h26
                          unfold S_DR_divide_c405 F_DR_divide_c405
                          refine ⟨trivial, ?_⟩
                          (unfold Q_DR_divide; dsimp only; with_reducible assumption)
                    ·
                      rw [if_neg g16, if_neg g16]
                      have g16l := g_lc4 g16
                      refine ⟨trivial, ?_⟩
                      (unfold Q_DR_divide; dsimp only; with_reducible assumption)
                  ·
                    rw [if_neg g15, if_neg g15]
                    unfold S_DR_divide_J183 F_DR_divide_J183
                    with_reducible refine v_owe h14.1 ?_
                    rw [if_neg g15, if_neg g15]
                    unfold S_DR_divide_J200 F_DR_divide_J200
                    with_reducible refine v_owe h14.1 ?_
                    rw [if_neg g15, if_neg g15]
                    unfold S_DR_divide_J214 F_DR_divide_J214
                    have h27 := T_DR_cut (x2 := (0 : Int32)) (x3 := x6) (t0_0 := (0 : Int32)) (t0_1 := t0_1) (t0_2 := (1 : Int32)) (t0_3 := ((x5.toInt64 : Int64) + 1 : Int64)) (t0_4 := (0 : Int32)) (t0_5 := (0 : Int32)) (t0_6 := t0_6) (t0_7 := t0_7) (t0_8 := t0_8) (t0_9 := t0_9) (t0_10 := (2 : Int32)) (t1_0 := (upd t5_0 (0 : Int32).toNatClampNeg 0 : (Nat → Int32))) (by first | exact ⟨by omega, by omega⟩ | decide) (by first | omega | decide) (by first | exact ⟨by omega, by omega⟩ | decide) (by first | with_reducible assumption | exact g_one)
                    with_reducible refine v_owe h27.1 ?_
                    replace h27 := h27.2
                    generalize F_DR_cut (0 : Int32) x6 (0 : Int32) t0_1 (1 : Int32) ((x5.toInt64 : Int64) + 1 : Int64) (0 : Int32) (0 : Int32) t0_6 t0_7 t0_8 t0_9 (2 : Int32) (upd t5_0 (0 : Int32).toNatClampNeg 0 : (Nat → Int32)) = p258 at *
                    unfold Q_DR_cut at h27
                    obtain ⟨h271, h27g, h276⟩ := h27
                    unfold S_DR_divide_c397 F_DR_divide_c397
                    by_cases g28 : (p258.1 : Int32) = (0 : Int32)
                    ·
                      rw [if_pos g28, if_pos g28]
                      refine ⟨trivial, ?_⟩
                      (unfold Q_DR_divide; dsimp only; with_reducible assumption)
                    ·
                      rw [if_neg g28, if_neg g28]
                      have h29 := T_DR_store (x2 := x4) (t0_0 := (p258.2.1 : Int32)) (t0_1 := (p258.2.2.1 : Int32)) (t0_2 := (p258.2.2.2.1 : Int32)) (t0_3 := (p258.2.2.2.2.1 : Int64)) (t0_4 := (p258.2.2.2.2.2.1 : Int32)) (t0_5 := (p258.2.2.2.2.2.2.1 : Int32)) (t0_6 := (p258.2.2.2.2.2.2.2.1 : Int32)) (t0_7 := (p258.2.2.2.2.2.2.2.2.1 : Int32)) (t0_8 := (p258.2.2.2.2.2.2.2.2.2.1 : Int32)) (t0_9 := (p258.2.2.2.2.2.2.2.2.2.2.1 : Int32)) (t0_10 := (p258.2.2.2.2.2.2.2.2.2.2.2.1 : Int32)) (t1_0 := t1_0) (t2_0 := t2_0) (t3_0 := t3_0) (t4_0 := t4_0) (t5_0 := (p258.2.2.2.2.2.2.2.2.2.2.2.2 : (Nat → Int32))) (by with_reducible assumption) (by with_reducible assumption) ⟨by first | omega | decide, by first | omega | decide⟩ (by first | with_reducible assumption | exact g_cl (by with_reducible assumption) (by omega) (by omega) | omega | decide)
                      with_reducible refine v_owe h29.1 ?_
                      replace h29 := h29.2
                      generalize F_DR_store x4 (p258.2.1 : Int32) (p258.2.2.1 : Int32) (p258.2.2.2.1 : Int32) (p258.2.2.2.2.1 : Int64) (p258.2.2.2.2.2.1 : Int32) (p258.2.2.2.2.2.2.1 : Int32) (p258.2.2.2.2.2.2.2.1 : Int32) (p258.2.2.2.2.2.2.2.2.1 : Int32) (p258.2.2.2.2.2.2.2.2.2.1 : Int32) (p258.2.2.2.2.2.2.2.2.2.2.1 : Int32) (p258.2.2.2.2.2.2.2.2.2.2.2.1 : Int32) t1_0 t2_0 t3_0 t4_0 (p258.2.2.2.2.2.2.2.2.2.2.2.2 : (Nat → Int32)) = p330 at *
                      unfold Q_DR_store at h29
                      unfold S_DR_divide_c405 F_DR_divide_c405
                      refine ⟨trivial, ?_⟩
                      (unfold Q_DR_divide; dsimp only; with_reducible assumption)
                ·
                  rw [if_neg g11, if_neg g11]
                  have m2 := gR.at hR (by with_reducible assumption : 0 ≤ x2.toInt ∧ x2.toInt ≤ 9)
                  have m3 := gR.at hR (by with_reducible assumption : 0 ≤ x3.toInt ∧ x3.toInt ≤ 9)
                  obtain ⟨j100, e30⟩ := q_nm (((((t2_0 x2.toNatClampNeg : Int32) - (t2_0 x3.toNatClampNeg : Int32) : Int32).toInt64 : Int64) + (((x5.toInt64 : Int64) + ((t4_0 x3.toNatClampNeg : Int32).toInt64 : Int64) : Int64) - ((t4_0 x2.toNatClampNeg : Int32).toInt64 : Int64) : Int64) : Int64) : Int64)
                  rw [e30]
                  have j100i : j100.toInt = (t2_0 x2.toNatClampNeg).toInt - (t2_0 x3.toNatClampNeg).toInt + (x5.toInt + (t4_0 x3.toNatClampNeg).toInt - (t4_0 x2.toNatClampNeg).toInt) := by rw [← e30]; have z1 := u_z1 (c := 0) m3.2.2 m2.2.2 (x := x5) ⟨by omega, by omega⟩; have z2 := u_z2 m2.1 m3.1 (j := (x5.toInt64 + (t4_0 x3.toNatClampNeg).toInt64 - (t4_0 x2.toNatClampNeg).toInt64 : Int64)) ⟨by omega, by omega⟩; omega
                  obtain ⟨j88, e31⟩ := q_nm ((((x5.toInt64 : Int64) + ((t4_0 x3.toNatClampNeg : Int32).toInt64 : Int64) : Int64) - ((t4_0 x2.toNatClampNeg : Int32).toInt64 : Int64) : Int64) : Int64)
                  rw [e31]
                  have j88i : j88.toInt = x5.toInt + (t4_0 x3.toNatClampNeg).toInt - (t4_0 x2.toNatClampNeg).toInt := by rw [← e31]; exact u_z1 (c := 0) m3.2.2 m2.2.2 ⟨by omega, by omega⟩
                  unfold S_DR_divide_J140 F_DR_divide_J140
                  have h32 := R_dz (x2 := x2) (t0_0 := (0 : Int32)) (t0_1 := t0_1) (t0_2 := (0 : Int32)) (t0_3 := (x5.toInt64 : Int64)) (t0_4 := (0 : Int32)) (t0_5 := (1 : Int32)) (t0_6 := t0_6) (t0_7 := t0_7) (t0_8 := t0_8) (t0_9 := t0_9) (t0_10 := (2 : Int32)) (t1_0 := t1_0) (by with_reducible assumption)
                  have h32z := h32.2
                  with_reducible refine v_owe h32.1 ?_
                  by_cases g33 : ((F_DR_isZero x2 (0 : Int32) t0_1 (0 : Int32) (x5.toInt64 : Int64) (0 : Int32) (1 : Int32) t0_6 t0_7 t0_8 t0_9 (2 : Int32) t1_0) : Int32) = (0 : Int32)
                  ·
                    rw [if_pos g33, if_pos g33]
                    by_cases g34 : (lg_cmp j100 1000 : Int32) ≤ (0 : Int32)
                    ·
                      rw [if_pos g34, if_pos g34]
                      have g34l := g_lc3 g34
                      unfold S_DR_divide_J183 F_DR_divide_J183
                      with_reducible refine v_owe h32.1 ?_
                      rw [if_pos g33, if_pos g33]
                      by_cases g35 : (0 : Int32) ≤ (lg_cmp j100 (-1) : Int32)
                      ·
                        rw [if_pos g35, if_pos g35]
                        have g35l := g_lc5 g35
                        by_cases g36 : (0 : Int32) ≤ (lg_cmp j88 0 : Int32)
                        ·
                          rw [if_pos g36, if_pos g36]
                          have g36l := g_lc5 g36
                          unfold S_DR_divide_J258 F_DR_divide_J258
                          have h37 := T_DR_loadUnder (x2 := x3) (x3 := (0 : Int32)) (t0_0 := (0 : Int32)) (t0_1 := t0_1) (t0_2 := (0 : Int32)) (t0_3 := (x5.toInt64 : Int64)) (t0_4 := (0 : Int32)) (t0_5 := (1 : Int32)) (t0_6 := t0_6) (t0_7 := t0_7) (t0_8 := t0_8) (t0_9 := t0_9) (t0_10 := (2 : Int32)) (t1_0 := t1_0) (t2_0 := t2_0) (t3_0 := t6_0) hR.1 (gR.at hR (by with_reducible assumption)).1 (by with_reducible assumption) ⟨by omega, by omega⟩
                          with_reducible refine v_owe h37.1 ?_
                          replace h37 := h37.2
                          generalize F_DR_loadUnder x3 (0 : Int32) (0 : Int32) t0_1 (0 : Int32) (x5.toInt64 : Int64) (0 : Int32) (1 : Int32) t0_6 t0_7 t0_8 t0_9 (2 : Int32) t1_0 t2_0 t6_0 = p431 at *
                          unfold Q_DR_loadUnder at h37
                          obtain ⟨h377, h37g, h37z, h37a, h37b, h37c, h37d, h37e, h37f, h37k⟩ := h37
                          have unz := h37z
                          have unf := congrArg Int32.toInt h37f
                          have unp := u_p1 h37g (by have e9 := q_clI (i := p431.2.2.2.2.2.2.2.1) rfl (by omega); omega) (by rw [unz]; exact nz3)
                          unfold S_DR_divide_c258 F_DR_divide_c258
                          have h38 := T_DR_beginQuotient (t0_0 := (p431.1 : Int32)) (t0_1 := (p431.2.1 : Int32)) (t0_2 := (p431.2.2.1 : Int32)) (t0_3 := (p431.2.2.2.1 : Int64)) (t0_4 := (p431.2.2.2.2.1 : Int32)) (t0_5 := (p431.2.2.2.2.2.1 : Int32)) (t0_6 := (p431.2.2.2.2.2.2.1 : Int32)) (t0_7 := (p431.2.2.2.2.2.2.2.1 : Int32)) (t0_8 := (p431.2.2.2.2.2.2.2.2.1 : Int32)) (t0_9 := (p431.2.2.2.2.2.2.2.2.2.1 : Int32)) (t0_10 := (p431.2.2.2.2.2.2.2.2.2.2.1 : Int32)) (t1_0 := t7_0) ⟨by omega, by omega⟩
                          with_reducible refine v_owe h38.1 ?_
                          replace h38 := h38.2
                          generalize F_DR_beginQuotient (p431.1 : Int32) (p431.2.1 : Int32) (p431.2.2.1 : Int32) (p431.2.2.2.1 : Int64) (p431.2.2.2.2.1 : Int32) (p431.2.2.2.2.2.1 : Int32) (p431.2.2.2.2.2.2.1 : Int32) (p431.2.2.2.2.2.2.2.1 : Int32) (p431.2.2.2.2.2.2.2.2.1 : Int32) (p431.2.2.2.2.2.2.2.2.2.1 : Int32) (p431.2.2.2.2.2.2.2.2.2.2.1 : Int32) t7_0 = p492 at *
                          unfold Q_DR_beginQuotient at h38
                          obtain ⟨h38o, h38a, h38b, h382, h38d, h38e, h385, h387, h38k⟩ := h38
                          have beg0 := h38o
                          have beg2 := congrArg Int32.toInt h382
                          have beg5 := congrArg Int32.toInt h385
                          have beg7 := congrArg Int32.toInt h387
                          have beq7 := h387
                          have beq2 := h382
                          unfold S_DR_divide_c262 F_DR_divide_c262
                          exact v_dvd hR (by with_reducible assumption) (by with_reducible assumption) ⟨by omega, by omega⟩ _ _ _ _ _ _ _ _ _ _ _ _ _ _ _ (by decide) (by decide) ⟨by omega, by omega⟩ ⟨by omega, by omega⟩ (by rw [beq7]; exact u_w0 ⟨by omega, by omega⟩ (by with_reducible assumption) unp beg0) (by rw [beq7]; exact unp) (u_gz beq2) (Or.inl (by omega))
                        ·
                          rw [if_neg g36, if_neg g36]
                          have g36l := g_lc6 g36
                          obtain ⟨lx367, e39⟩ := q_nm (((-j88 : Int64).toInt32 : Int32) : Int32)
                          rw [e39]
                          have l367 : lx367.toInt = -j88.toInt := by rw [← e39]; exact u_ng ⟨by omega, by omega⟩
                          unfold S_DR_divide_J258 F_DR_divide_J258
                          have h40 := T_DR_loadUnder (x2 := x3) (x3 := lx367) (t0_0 := (0 : Int32)) (t0_1 := t0_1) (t0_2 := (0 : Int32)) (t0_3 := (x5.toInt64 : Int64)) (t0_4 := (0 : Int32)) (t0_5 := (1 : Int32)) (t0_6 := t0_6) (t0_7 := t0_7) (t0_8 := t0_8) (t0_9 := t0_9) (t0_10 := (2 : Int32)) (t1_0 := t1_0) (t2_0 := t2_0) (t3_0 := t6_0) hR.1 (gR.at hR (by with_reducible assumption)).1 (by with_reducible assumption) ⟨by omega, by omega⟩
                          with_reducible refine v_owe h40.1 ?_
                          replace h40 := h40.2
                          generalize F_DR_loadUnder x3 lx367 (0 : Int32) t0_1 (0 : Int32) (x5.toInt64 : Int64) (0 : Int32) (1 : Int32) t0_6 t0_7 t0_8 t0_9 (2 : Int32) t1_0 t2_0 t6_0 = p431 at *
                          unfold Q_DR_loadUnder at h40
                          obtain ⟨h407, h40g, h40z, h40a, h40b, h40c, h40d, h40e, h40f, h40k⟩ := h40
                          have unz := h40z
                          have unf := congrArg Int32.toInt h40f
                          have unp := u_p1 h40g (by have e9 := q_clI (i := p431.2.2.2.2.2.2.2.1) rfl (by omega); omega) (by rw [unz]; exact nz3)
                          unfold S_DR_divide_c258 F_DR_divide_c258
                          have h41 := T_DR_beginQuotient (t0_0 := (p431.1 : Int32)) (t0_1 := (p431.2.1 : Int32)) (t0_2 := (p431.2.2.1 : Int32)) (t0_3 := (p431.2.2.2.1 : Int64)) (t0_4 := (p431.2.2.2.2.1 : Int32)) (t0_5 := (p431.2.2.2.2.2.1 : Int32)) (t0_6 := (p431.2.2.2.2.2.2.1 : Int32)) (t0_7 := (p431.2.2.2.2.2.2.2.1 : Int32)) (t0_8 := (p431.2.2.2.2.2.2.2.2.1 : Int32)) (t0_9 := (p431.2.2.2.2.2.2.2.2.2.1 : Int32)) (t0_10 := (p431.2.2.2.2.2.2.2.2.2.2.1 : Int32)) (t1_0 := t7_0) ⟨by omega, by omega⟩
                          with_reducible refine v_owe h41.1 ?_
                          replace h41 := h41.2
                          generalize F_DR_beginQuotient (p431.1 : Int32) (p431.2.1 : Int32) (p431.2.2.1 : Int32) (p431.2.2.2.1 : Int64) (p431.2.2.2.2.1 : Int32) (p431.2.2.2.2.2.1 : Int32) (p431.2.2.2.2.2.2.1 : Int32) (p431.2.2.2.2.2.2.2.1 : Int32) (p431.2.2.2.2.2.2.2.2.1 : Int32) (p431.2.2.2.2.2.2.2.2.2.1 : Int32) (p431.2.2.2.2.2.2.2.2.2.2.1 : Int32) t7_0 = p492 at *
                          unfold Q_DR_beginQuotient at h41
                          obtain ⟨h41o, h41a, h41b, h412, h41d, h41e, h415, h417, h41k⟩ := h41
                          have beg0 := h41o
                          have beg2 := congrArg Int32.toInt h412
                          have beg5 := congrArg Int32.toInt h415
                          have beg7 := congrArg Int32.toInt h417
                          have beq7 := h417
                          have beq2 := h412
                          unfold S_DR_divide_c262 F_DR_divide_c262
                          exact v_dvd hR (by with_reducible assumption) (by with_reducible assumption) ⟨by omega, by omega⟩ _ _ _ _ _ _ _ _ _ _ _ _ _ _ _ (by decide) (by decide) ⟨by omega, by omega⟩ ⟨by omega, by omega⟩ (by rw [beq7]; exact u_w0 ⟨by omega, by omega⟩ (by with_reducible assumption) unp beg0) (by rw [beq7]; exact unp) (u_gz beq2) (Or.inl (by omega))
                      ·
                        rw [if_neg g35, if_neg g35]
                        have g35l := g_lc6 g35
                        unfold S_DR_divide_J200 F_DR_divide_J200
                        with_reducible refine v_owe h32.1 ?_
                        rw [if_pos g33, if_pos g33]
                        unfold S_DR_divide_J214 F_DR_divide_J214
                        have h42 := T_DR_cut (x2 := (0 : Int32)) (x3 := x6) (t0_0 := (0 : Int32)) (t0_1 := t0_1) (t0_2 := (1 : Int32)) (t0_3 := ((x5.toInt64 : Int64) + 1 : Int64)) (t0_4 := (1 : Int32)) (t0_5 := (1 : Int32)) (t0_6 := t0_6) (t0_7 := t0_7) (t0_8 := t0_8) (t0_9 := t0_9) (t0_10 := (2 : Int32)) (t1_0 := (upd t5_0 (0 : Int32).toNatClampNeg 0 : (Nat → Int32))) (by first | exact ⟨by omega, by omega⟩ | decide) (by first | omega | decide) (by first | exact ⟨by omega, by omega⟩ | decide) (by first | with_reducible assumption | exact g_one)
                        with_reducible refine v_owe h42.1 ?_
                        replace h42 := h42.2
                        generalize F_DR_cut (0 : Int32) x6 (0 : Int32) t0_1 (1 : Int32) ((x5.toInt64 : Int64) + 1 : Int64) (1 : Int32) (1 : Int32) t0_6 t0_7 t0_8 t0_9 (2 : Int32) (upd t5_0 (0 : Int32).toNatClampNeg 0 : (Nat → Int32)) = p258 at *
                        unfold Q_DR_cut at h42
                        obtain ⟨h421, h42g, h426⟩ := h42
                        unfold S_DR_divide_c397 F_DR_divide_c397
                        by_cases g43 : (p258.1 : Int32) = (0 : Int32)
                        ·
                          rw [if_pos g43, if_pos g43]
                          refine ⟨trivial, ?_⟩
                          (unfold Q_DR_divide; dsimp only; with_reducible assumption)
                        ·
                          rw [if_neg g43, if_neg g43]
                          have h44 := T_DR_store (x2 := x4) (t0_0 := (p258.2.1 : Int32)) (t0_1 := (p258.2.2.1 : Int32)) (t0_2 := (p258.2.2.2.1 : Int32)) (t0_3 := (p258.2.2.2.2.1 : Int64)) (t0_4 := (p258.2.2.2.2.2.1 : Int32)) (t0_5 := (p258.2.2.2.2.2.2.1 : Int32)) (t0_6 := (p258.2.2.2.2.2.2.2.1 : Int32)) (t0_7 := (p258.2.2.2.2.2.2.2.2.1 : Int32)) (t0_8 := (p258.2.2.2.2.2.2.2.2.2.1 : Int32)) (t0_9 := (p258.2.2.2.2.2.2.2.2.2.2.1 : Int32)) (t0_10 := (p258.2.2.2.2.2.2.2.2.2.2.2.1 : Int32)) (t1_0 := t1_0) (t2_0 := t2_0) (t3_0 := t3_0) (t4_0 := t4_0) (t5_0 := (p258.2.2.2.2.2.2.2.2.2.2.2.2 : (Nat → Int32))) (by with_reducible assumption) (by with_reducible assumption) ⟨by first | omega | decide, by first | omega | decide⟩ (by first | with_reducible assumption | exact g_cl (by with_reducible assumption) (by omega) (by omega) | omega | decide)
                          with_reducible refine v_owe h44.1 ?_
                          replace h44 := h44.2
                          generalize F_DR_store x4 (p258.2.1 : Int32) (p258.2.2.1 : Int32) (p258.2.2.2.1 : Int32) (p258.2.2.2.2.1 : Int64) (p258.2.2.2.2.2.1 : Int32) (p258.2.2.2.2.2.2.1 : Int32) (p258.2.2.2.2.2.2.2.1 : Int32) (p258.2.2.2.2.2.2.2.2.1 : Int32) (p258.2.2.2.2.2.2.2.2.2.1 : Int32) (p258.2.2.2.2.2.2.2.2.2.2.1 : Int32) (p258.2.2.2.2.2.2.2.2.2.2.2.1 : Int32) t1_0 t2_0 t3_0 t4_0 (p258.2.2.2.2.2.2.2.2.2.2.2.2 : (Nat → Int32)) = p330 at *
                          unfold Q_DR_store at h44
                          unfold S_DR_divide_c405 F_DR_divide_c405
                          refine ⟨trivial, ?_⟩
                          (unfold Q_DR_divide; dsimp only; with_reducible assumption)
                    ·
                      rw [if_neg g34, if_neg g34]
                      have g34l := g_lc4 g34
                      refine ⟨trivial, ?_⟩
                      (unfold Q_DR_divide; dsimp only; with_reducible assumption)
                  ·
                    rw [if_neg g33, if_neg g33]
                    unfold S_DR_divide_J183 F_DR_divide_J183
                    with_reducible refine v_owe h32.1 ?_
                    rw [if_neg g33, if_neg g33]
                    unfold S_DR_divide_J200 F_DR_divide_J200
                    with_reducible refine v_owe h32.1 ?_
                    rw [if_neg g33, if_neg g33]
                    unfold S_DR_divide_J214 F_DR_divide_J214
                    have h45 := T_DR_cut (x2 := (0 : Int32)) (x3 := x6) (t0_0 := (0 : Int32)) (t0_1 := t0_1) (t0_2 := (1 : Int32)) (t0_3 := ((x5.toInt64 : Int64) + 1 : Int64)) (t0_4 := (0 : Int32)) (t0_5 := (1 : Int32)) (t0_6 := t0_6) (t0_7 := t0_7) (t0_8 := t0_8) (t0_9 := t0_9) (t0_10 := (2 : Int32)) (t1_0 := (upd t5_0 (0 : Int32).toNatClampNeg 0 : (Nat → Int32))) (by first | exact ⟨by omega, by omega⟩ | decide) (by first | omega | decide) (by first | exact ⟨by omega, by omega⟩ | decide) (by first | with_reducible assumption | exact g_one)
                    with_reducible refine v_owe h45.1 ?_
                    replace h45 := h45.2
                    generalize F_DR_cut (0 : Int32) x6 (0 : Int32) t0_1 (1 : Int32) ((x5.toInt64 : Int64) + 1 : Int64) (0 : Int32) (1 : Int32) t0_6 t0_7 t0_8 t0_9 (2 : Int32) (upd t5_0 (0 : Int32).toNatClampNeg 0 : (Nat → Int32)) = p258 at *
                    unfold Q_DR_cut at h45
                    obtain ⟨h451, h45g, h456⟩ := h45
                    unfold S_DR_divide_c397 F_DR_divide_c397
                    by_cases g46 : (p258.1 : Int32) = (0 : Int32)
                    ·
                      rw [if_pos g46, if_pos g46]
                      refine ⟨trivial, ?_⟩
                      (unfold Q_DR_divide; dsimp only; with_reducible assumption)
                    ·
                      rw [if_neg g46, if_neg g46]
                      have h47 := T_DR_store (x2 := x4) (t0_0 := (p258.2.1 : Int32)) (t0_1 := (p258.2.2.1 : Int32)) (t0_2 := (p258.2.2.2.1 : Int32)) (t0_3 := (p258.2.2.2.2.1 : Int64)) (t0_4 := (p258.2.2.2.2.2.1 : Int32)) (t0_5 := (p258.2.2.2.2.2.2.1 : Int32)) (t0_6 := (p258.2.2.2.2.2.2.2.1 : Int32)) (t0_7 := (p258.2.2.2.2.2.2.2.2.1 : Int32)) (t0_8 := (p258.2.2.2.2.2.2.2.2.2.1 : Int32)) (t0_9 := (p258.2.2.2.2.2.2.2.2.2.2.1 : Int32)) (t0_10 := (p258.2.2.2.2.2.2.2.2.2.2.2.1 : Int32)) (t1_0 := t1_0) (t2_0 := t2_0) (t3_0 := t3_0) (t4_0 := t4_0) (t5_0 := (p258.2.2.2.2.2.2.2.2.2.2.2.2 : (Nat → Int32))) (by with_reducible assumption) (by with_reducible assumption) ⟨by first | omega | decide, by first | omega | decide⟩ (by first | with_reducible assumption | exact g_cl (by with_reducible assumption) (by omega) (by omega) | omega | decide)
                      with_reducible refine v_owe h47.1 ?_
                      replace h47 := h47.2
                      generalize F_DR_store x4 (p258.2.1 : Int32) (p258.2.2.1 : Int32) (p258.2.2.2.1 : Int32) (p258.2.2.2.2.1 : Int64) (p258.2.2.2.2.2.1 : Int32) (p258.2.2.2.2.2.2.1 : Int32) (p258.2.2.2.2.2.2.2.1 : Int32) (p258.2.2.2.2.2.2.2.2.1 : Int32) (p258.2.2.2.2.2.2.2.2.2.1 : Int32) (p258.2.2.2.2.2.2.2.2.2.2.1 : Int32) (p258.2.2.2.2.2.2.2.2.2.2.2.1 : Int32) t1_0 t2_0 t3_0 t4_0 (p258.2.2.2.2.2.2.2.2.2.2.2.2 : (Nat → Int32)) = p330 at *
                      unfold Q_DR_store at h47
                      unfold S_DR_divide_c405 F_DR_divide_c405
                      refine ⟨trivial, ?_⟩
                      (unfold Q_DR_divide; dsimp only; with_reducible assumption)
              ·
                rw [if_neg g9, if_neg g9]
                unfold S_DR_divide_J63 F_DR_divide_J63
                have g48 : ¬ ((2 : Int32) ≤ (0 : Int32)) := (by decide)
                rw [if_neg g48, if_neg g48]
                refine ⟨trivial, ?_⟩
                (unfold Q_DR_divide; dsimp only; with_reducible assumption)
            ·
              rw [if_neg g7, if_neg g7]
              have g7i : 10000 < x5.toInt := q_nleI g7
              unfold S_DR_divide_J46 F_DR_divide_J46
              unfold S_DR_divide_J63 F_DR_divide_J63
              have g49 : ¬ ((1 : Int32) ≤ (0 : Int32)) := (by decide)
              rw [if_neg g49, if_neg g49]
              refine ⟨trivial, ?_⟩
              (unfold Q_DR_divide; dsimp only; with_reducible assumption)
        ·
          rw [if_neg g4, if_neg g4]
          unfold S_DR_divide_J46 F_DR_divide_J46
          unfold S_DR_divide_J63 F_DR_divide_J63
          have g50 : ¬ ((1 : Int32) ≤ (0 : Int32)) := (by decide)
          rw [if_neg g50, if_neg g50]
          refine ⟨trivial, ?_⟩
          (unfold Q_DR_divide; dsimp only; with_reducible assumption)
      ·
        rw [if_neg g3, if_neg g3]
        unfold S_DR_divide_J46 F_DR_divide_J46
        unfold S_DR_divide_J63 F_DR_divide_J63
        have g51 : ¬ ((1 : Int32) ≤ (0 : Int32)) := (by decide)
        rw [if_neg g51, if_neg g51]
        refine ⟨trivial, ?_⟩
        (unfold Q_DR_divide; dsimp only; with_reducible assumption)
    ·
      rw [if_neg g2, if_neg g2]
      unfold S_DR_divide_J46 F_DR_divide_J46
      unfold S_DR_divide_J63 F_DR_divide_J63
      have g52 : ¬ ((1 : Int32) ≤ (0 : Int32)) := (by decide)
      rw [if_neg g52, if_neg g52]
      refine ⟨trivial, ?_⟩
      (unfold Q_DR_divide; dsimp only; with_reducible assumption)
  ·
    rw [if_neg g1, if_neg g1]
    unfold S_DR_divide_J46 F_DR_divide_J46
    unfold S_DR_divide_J63 F_DR_divide_J63
    have g53 : ¬ ((1 : Int32) ≤ (0 : Int32)) := (by decide)
    rw [if_neg g53, if_neg g53]
    refine ⟨trivial, ?_⟩
    (unfold Q_DR_divide; dsimp only; with_reducible assumption)

/-! DecimalRows: remainder -/
theorem u_cs {x2 : Int32} {x3 : Int32} {t0_0 : Int32} {t0_1 : Int32} {t0_2 : Int32} {t0_3 : Int64} {t0_4 : Int32} {t0_5 : Int32} {t0_6 : Int32} {t0_7 : Int32} {t0_8 : Int32} {t0_9 : Int32} {t0_10 : Int32} {t1_0 : (Nat → Int32)} {t2_0 : (Nat → Int32)} {t3_0 : (Nat → Int32)} (h2 : 1 ≤ (t2_0 x2.toNatClampNeg).toInt ∧ (t2_0 x2.toNatClampNeg).toInt ≤ 1000) (h3 : 1 ≤ (t2_0 x3.toNatClampNeg).toInt ∧ (t2_0 x3.toNatClampNeg).toInt ≤ 1000) (k2 : -10000 ≤ (t3_0 x2.toNatClampNeg).toInt ∧ (t3_0 x2.toNatClampNeg).toInt ≤ 10000) (k3 : -10000 ≤ (t3_0 x3.toNatClampNeg).toInt ∧ (t3_0 x3.toNatClampNeg).toInt ≤ 10000) (h : (0 : Int32) ≤ F_DR_compareSizes x2 x3 t0_0 t0_1 t0_2 t0_3 t0_4 t0_5 t0_6 t0_7 t0_8 t0_9 t0_10 t1_0 t2_0 t3_0) : (t2_0 x3.toNatClampNeg).toInt - (t3_0 x3.toNatClampNeg).toInt ≤ (t2_0 x2.toNatClampNeg).toInt - (t3_0 x2.toNatClampNeg).toInt := by
  unfold F_DR_compareSizes at h
  have e1 : ((t2_0 x2.toNatClampNeg).toInt64 - (t3_0 x2.toNatClampNeg).toInt64 : Int64).toInt = (t2_0 x2.toNatClampNeg).toInt - (t3_0 x2.toNatClampNeg).toInt := q_subL (q_i2l rfl) (q_i2l rfl) (by omega) (by omega)
  have e2 : ((t2_0 x3.toNatClampNeg).toInt64 - (t3_0 x3.toNatClampNeg).toInt64 : Int64).toInt = (t2_0 x3.toNatClampNeg).toInt - (t3_0 x3.toNatClampNeg).toInt := q_subL (q_i2l rfl) (q_i2l rfl) (by omega) (by omega)
  by_cases c : lg_cmp ((t2_0 x2.toNatClampNeg).toInt64 - (t3_0 x2.toNatClampNeg).toInt64 : Int64) ((t2_0 x3.toNatClampNeg).toInt64 - (t3_0 x3.toNatClampNeg).toInt64 : Int64) = 0
  · have := v_cmp0 c
    omega
  · rw [if_neg c] at h
    by_cases d : 0 ≤ lg_cmp ((t2_0 x2.toNatClampNeg).toInt64 - (t3_0 x2.toNatClampNeg).toInt64 : Int64) ((t2_0 x3.toNatClampNeg).toInt64 - (t3_0 x3.toNatClampNeg).toInt64 : Int64)
    · have := g_lc5 d
      omega
    · rw [if_neg d] at h
      exact absurd h (by decide)
theorem u_rm {m c : Int32} {s : Int64} (hm : 1 ≤ m.toInt ∧ m.toInt ≤ 1000) (hc : -10000 ≤ c.toInt ∧ c.toInt ≤ 10000) (hs : -10000 ≤ s.toInt ∧ s.toInt ≤ 10000) : (m.toInt64 + s - c.toInt64 : Int64).toInt = m.toInt + s.toInt - c.toInt := by
  have e1 : (m.toInt64 + s : Int64).toInt = m.toInt + s.toInt := q_addL (q_i2l rfl) rfl (by omega) (by omega)
  exact q_subL e1 (q_i2l rfl) (by omega) (by omega)
theorem u_bh {c : Int32} {s : Int64} (hc : -10000 ≤ c.toInt ∧ c.toInt ≤ 10000) (hs : -10000 ≤ s.toInt ∧ s.toInt ≤ 10000) : ((s - c.toInt64 : Int64).toInt32).toInt = s.toInt - c.toInt := by
  have e1 : (s - c.toInt64 : Int64).toInt = s.toInt - c.toInt := q_subL rfl (q_i2l rfl) (by omega) (by omega)
  rw [s_l2i (by omega) (by omega), e1]
def Q_DR_remainder (p : Int32 × Int32 × Int32 × Int64 × Int32 × Int32 × Int32 × Int32 × Int32 × Int32 × Int32 × (Nat → Int32) × (Nat → Int32) × (Nat → Int32) × (Nat → Int32) × (Nat → Int32) × (Nat → Int32) × (Nat → Int32)) : Prop := gR p.2.2.2.2.2.2.2.2.2.2.2.1 p.2.2.2.2.2.2.2.2.2.2.2.2.1 p.2.2.2.2.2.2.2.2.2.2.2.2.2.1 p.2.2.2.2.2.2.2.2.2.2.2.2.2.2.1
theorem v_rm2 {K_F_DR_remainder_L203 : Int64 → (Nat → Int32) → (Int32 × Int32 × Int32 × Int64 × Int32 × Int32 × Int32 × Int32 × Int32 × Int32 × Int32 × (Nat → Int32) × (Nat → Int32) × (Nat → Int32) × (Nat → Int32) × (Nat → Int32) × (Nat → Int32) × (Nat → Int32))} {x2 : Int32} {x3 : Int32} {x4 : Int32} {t0_0 : Int32} {t0_1 : Int32} {t0_2 : Int32} {t0_3 : Int64} {t0_4 : Int32} {t0_5 : Int32} {t0_6 : Int32} {t0_7 : Int32} {t0_8 : Int32} {t0_9 : Int32} {t0_10 : Int32} {t1_0 : (Nat → Int32)} {t2_0 : (Nat → Int32)} {t3_0 : (Nat → Int32)} {t4_0 : (Nat → Int32)} {t5_0 : (Nat → Int32)} {t6_0 : (Nat → Int32)} {t7_0 : (Nat → Int32)} {lx45 : Int32} {lx76 : Int64} {a363 : Int32} {j360 : Int64} {p416 : (Int32 × Int32 × Int32 × Int64 × Int32 × Int32 × Int32 × Int32 × Int32 × Int32 × Int32 × (Nat → Int32))} {f382 : (Nat → Int32)} {p477 : (Int32 × Int32 × Int32 × Int64 × Int32 × Int32 × Int32 × Int32 × Int32 × Int32 × Int32 × (Nat → Int32))} {j509 : Int64} {y439 : Int32} {y440 : Int32} {y441 : Int32} {y442 : Int64} {y443 : Int32} {y444 : Int32} {y445 : Int32} {y446 : Int32} {y447 : Int32} {y448 : Int32} {y449 : Int32} {lx513 : Int64} {lx514 : (Nat → Int32)} {a536 : Int32} {K_S_DR_remainder_L203 : Int64 → (Nat → Int32) → Prop} (hR : gR t1_0 t2_0 t3_0 t4_0)(hx2 : 0 ≤ x2.toInt ∧ x2.toInt ≤ 9) (hx4 : 0 ≤ x4.toInt ∧ x4.toInt ≤ 9) (h363 : 0 ≤ a363.toInt ∧ a363.toInt ≤ 1)(hw : uW y446 f382 lx514) (h536 : a536.toInt = y446.toInt + 1) : ∀ (n : Nat) (lx542 : Int32) (lx543 : (Nat → Int32)), (0 ≤ lx542.toInt ∧ lx542.toInt ≤ a536.toInt) → (4099 - lx542.toInt < (n : Int)) → (a536.toInt ≤ 2200) → (∀ i : Nat, (i : Int) < lx542.toInt → lx543 i = lx514 i) → (S_DR_remainder_L270 K_S_DR_remainder_L203 x2 x3 x4 t0_0 t0_1 t0_2 t0_3 t0_4 t0_5 t0_6 t0_7 t0_8 t0_9 t0_10 t1_0 t2_0 t3_0 t4_0 t5_0 t6_0 t7_0 lx45 lx76 a363 j360 p416 f382 p477 j509 y439 y440 y441 y442 y443 y444 y445 y446 y447 y448 y449 lx513 lx514 a536 n lx542 lx543) ∧ Q_DR_remainder (F_DR_remainder_L270 K_F_DR_remainder_L203 x2 x3 x4 t0_0 t0_1 t0_2 t0_3 t0_4 t0_5 t0_6 t0_7 t0_8 t0_9 t0_10 t1_0 t2_0 t3_0 t4_0 t5_0 t6_0 t7_0 lx45 lx76 a363 j360 p416 f382 p477 j509 y439 y440 y441 y442 y443 y444 y445 y446 y447 y448 y449 lx513 lx514 a536 n lx542 lx543) := by
  intro n
  induction n with
  | zero => intro lx542 lx543 h0 hm h9 ho; exact absurd (show False by omega) id
  | succ n ih =>
    intro lx542 lx543 h0 hm h9 ho
    have e0 : (0 : Int32).toInt = 0 := rfl
    have eL0 : (0 : Int64).toInt = 0 := rfl
    have eL1 : (10000 : Int64).toInt = 10000 := rfl
    have eL2 : (-10000 : Int64).toInt = -10000 := rfl
    have eL3 : (1000 : Int64).toInt = 1000 := rfl
    have eL4 : (-1 : Int64).toInt = -1 := rfl
    have eI3 : (1000 : Int32).toInt = 1000 := rfl
    have hw1 := hw.1
    rw [S_DR_remainder_L270.eq_2, F_DR_remainder_L270.eq_2]
    by_cases g1 : a536 ≤ lx542
    ·
      rw [if_pos g1, if_pos g1]
      have g1i : a536.toInt ≤ lx542.toInt := q_leI g1
      refine v_cons (by omega) ?_
      refine v_cons (by omega) ?_
      have h2 := T_DR_store (x2 := x4) (t0_0 := y439) (t0_1 := y440) (t0_2 := a536) (t0_3 := lx76) (t0_4 := (0 : Int32)) (t0_5 := a363) (t0_6 := y445) (t0_7 := y446) (t0_8 := y447) (t0_9 := y448) (t0_10 := y449) (t1_0 := t1_0) (t2_0 := t2_0) (t3_0 := t3_0) (t4_0 := t4_0) (t5_0 := lx543) (by with_reducible assumption) (by with_reducible assumption) ⟨by omega, by omega⟩ (fun i hi => by have e7 := q_clI (i := a536) rfl (by omega); have e8 := q_clI (i := y446) rfl (by omega); rw [ho i (by omega)]; exact hw.2.2.1 i (by omega))
      with_reducible refine v_owe h2.1 ?_
      replace h2 := h2.2
      generalize F_DR_store x4 y439 y440 a536 lx76 (0 : Int32) a363 y445 y446 y447 y448 y449 t1_0 t2_0 t3_0 t4_0 lx543 = p620 at *
      unfold Q_DR_store at h2
      unfold S_DR_remainder_c318 F_DR_remainder_c318
      refine ⟨trivial, ?_⟩
      (unfold Q_DR_remainder; dsimp only; with_reducible assumption)
    ·
      rw [if_neg g1, if_neg g1]
      have g1i : lx542.toInt < a536.toInt := q_nleI g1
      refine v_cons (by omega) ?_
      obtain ⟨a3, e4⟩ := q_nm (lx542 + 1 : Int32)
      rw [e4]
      have a3i : a3.toInt = lx542.toInt + 1 := by rw [← e4]; exact q_addI (x := lx542.toInt) (y := 1) rfl (by decide) (by omega) (by omega)
      exact ih _ _ ⟨by omega, by omega⟩ (by omega) h9 (g_fill a3i h0.1 ho)
theorem v_rm1 {x2 : Int32} {x3 : Int32} {x4 : Int32} {t0_0 : Int32} {t0_1 : Int32} {t0_2 : Int32} {t0_3 : Int64} {t0_4 : Int32} {t0_5 : Int32} {t0_6 : Int32} {t0_7 : Int32} {t0_8 : Int32} {t0_9 : Int32} {t0_10 : Int32} {t1_0 : (Nat → Int32)} {t2_0 : (Nat → Int32)} {t3_0 : (Nat → Int32)} {t4_0 : (Nat → Int32)} {t5_0 : (Nat → Int32)} {t6_0 : (Nat → Int32)} {t7_0 : (Nat → Int32)} {lx45 : Int32} {lx76 : Int64} {a363 : Int32} {j360 : Int64} {p416 : (Int32 × Int32 × Int32 × Int64 × Int32 × Int32 × Int32 × Int32 × Int32 × Int32 × Int32 × (Nat → Int32))} {f382 : (Nat → Int32)} {p477 : (Int32 × Int32 × Int32 × Int64 × Int32 × Int32 × Int32 × Int32 × Int32 × Int32 × Int32 × (Nat → Int32))} {j509 : Int64} {y439 : Int32} {y440 : Int32} {y441 : Int32} {y442 : Int64} {y443 : Int32} {y444 : Int32} {y445 : Int32} {y446 : Int32} {y447 : Int32} {y448 : Int32} {y449 : Int32} (hR : gR t1_0 t2_0 t3_0 t4_0)(hx2 : 0 ≤ x2.toInt ∧ x2.toInt ≤ 9) (hx4 : 0 ≤ x4.toInt ∧ x4.toInt ≤ 9) (h363 : 0 ≤ a363.toInt ∧ a363.toInt ≤ 1) : ∀ (n : Nat) (lx513 : Int64) (lx514 : (Nat → Int32)), (0 ≤ lx513.toInt ∧ lx513.toInt ≤ j509.toInt) → (j509.toInt - lx513.toInt < (n : Int)) → (j509.toInt ≤ 40000) → (uW y446 f382 lx514) → (wL 0 (uV f382 y446.toNatClampNeg)) → (S_DR_remainder_L203 x2 x3 x4 t0_0 t0_1 t0_2 t0_3 t0_4 t0_5 t0_6 t0_7 t0_8 t0_9 t0_10 t1_0 t2_0 t3_0 t4_0 t5_0 t6_0 t7_0 lx45 lx76 a363 j360 p416 f382 p477 j509 y439 y440 y441 y442 y443 y444 y445 y446 y447 y448 y449 n lx513 lx514) ∧ Q_DR_remainder (F_DR_remainder_L203 x2 x3 x4 t0_0 t0_1 t0_2 t0_3 t0_4 t0_5 t0_6 t0_7 t0_8 t0_9 t0_10 t1_0 t2_0 t3_0 t4_0 t5_0 t6_0 t7_0 lx45 lx76 a363 j360 p416 f382 p477 j509 y439 y440 y441 y442 y443 y444 y445 y446 y447 y448 y449 n lx513 lx514) := by
  intro n
  induction n with
  | zero => intro lx513 lx514 h0 hm h9 hw hU; exact absurd (show False by omega) id
  | succ n ih =>
    intro lx513 lx514 h0 hm h9 hw hU
    have e0 : (0 : Int32).toInt = 0 := rfl
    have eL0 : (0 : Int64).toInt = 0 := rfl
    have eL1 : (10000 : Int64).toInt = 10000 := rfl
    have eL2 : (-10000 : Int64).toInt = -10000 := rfl
    have eL3 : (1000 : Int64).toInt = 1000 := rfl
    have eL4 : (-1 : Int64).toInt = -1 := rfl
    have eI3 : (1000 : Int32).toInt = 1000 := rfl
    have hw1 := hw.1
    rw [S_DR_remainder_L203.eq_2, F_DR_remainder_L203.eq_2]
    by_cases g1 : (0 : Int32) ≤ (lg_cmp lx513 j509 : Int32)
    ·
      rw [if_pos g1, if_pos g1]
      have g1l := g_lc5 g1
      have e5 : (y446 + 1 : Int32).toInt = y446.toInt + 1 := q_addI (y := 1) rfl (by decide) (by omega) (by omega); exact v_rm2 hR hx2 hx4 h363 hw e5 _ _ _ ⟨by omega, by omega⟩ (by decide) (by omega) (fun i hi => by omega)
    ·
      rw [if_neg g1, if_neg g1]
      have g1l := g_lc6 g1
      by_cases g2 : (0 : Int32) ≤ (lg_cmp lx513 ((t2_0 x2.toNatClampNeg : Int32).toInt64 : Int64) : Int32)
      ·
        rw [if_pos g2, if_pos g2]
        have g2l := g_lc5 g2
        have h3 := R_next  (x2 := (0 : Int32)) (t0_0 := y439) (t0_1 := y440) (t0_2 := y441) (t0_3 := y442) (t0_4 := y443) (t0_5 := y444) (t0_6 := y445) (t0_7 := y446) (t0_8 := y447) (t0_9 := y448) (t0_10 := y449) (un := f382) (l0 := lx514) (by with_reducible assumption) (by with_reducible assumption) (by first | decide | exact (u_k9 hR.1 hx2 (gR.at hR hx2).1.2 h0.1 (by with_reducible assumption)).1)
        with_reducible refine v_owe h3.1 ?_
        replace h3 := h3.2
        generalize F_DR_nextFigure (0 : Int32) y439 y440 y441 y442 y443 y444 y445 y446 y447 y448 y449 f382 lx514 = p673 at *
        obtain ⟨nxd, nxw, nxe⟩ := h3
        unfold S_DR_remainder_c243 F_DR_remainder_c243
        have e9 : (lx513 + 1 : Int64).toInt = lx513.toInt + 1 := q_addL (y := 1) rfl (by decide) (by omega) (by omega); exact ih _ _ ⟨by omega, by omega⟩ (by omega) h9 nxw hU
      ·
        rw [if_neg g2, if_neg g2]
        have g2l := g_lc6 g2
        refine v_cons (by have := (u_k9 hR.1 hx2 (gR.at hR hx2).1.2 h0.1 (by with_reducible assumption) (K := t1_0)).2; omega) ?_
        refine v_cons (by have := (u_k9 hR.1 hx2 (gR.at hR hx2).1.2 h0.1 (by with_reducible assumption) (K := t1_0)).2; omega) ?_
        have h4 := R_next  (x2 := (t1_0 ((1000 * x2 : Int32) + (lx513.toInt32 : Int32) : Int32).toNatClampNeg : Int32)) (t0_0 := y439) (t0_1 := y440) (t0_2 := y441) (t0_3 := y442) (t0_4 := y443) (t0_5 := y444) (t0_6 := y445) (t0_7 := y446) (t0_8 := y447) (t0_9 := y448) (t0_10 := y449) (un := f382) (l0 := lx514) (by with_reducible assumption) (by with_reducible assumption) (by first | decide | exact (u_k9 hR.1 hx2 (gR.at hR hx2).1.2 h0.1 (by with_reducible assumption)).1)
        with_reducible refine v_owe h4.1 ?_
        replace h4 := h4.2
        generalize F_DR_nextFigure (t1_0 ((1000 * x2 : Int32) + (lx513.toInt32 : Int32) : Int32).toNatClampNeg : Int32) y439 y440 y441 y442 y443 y444 y445 y446 y447 y448 y449 f382 lx514 = p706 at *
        obtain ⟨nxd, nxw, nxe⟩ := h4
        unfold S_DR_remainder_c243_13 F_DR_remainder_c243_13
        have e9 : (lx513 + 1 : Int64).toInt = lx513.toInt + 1 := q_addL (y := 1) rfl (by decide) (by omega) (by omega); exact ih _ _ ⟨by omega, by omega⟩ (by omega) h9 nxw hU
theorem T_DR_remainder {x2 : Int32} {x3 : Int32} {x4 : Int32} {t0_0 : Int32} {t0_1 : Int32} {t0_2 : Int32} {t0_3 : Int64} {t0_4 : Int32} {t0_5 : Int32} {t0_6 : Int32} {t0_7 : Int32} {t0_8 : Int32} {t0_9 : Int32} {t0_10 : Int32} {t1_0 : (Nat → Int32)} {t2_0 : (Nat → Int32)} {t3_0 : (Nat → Int32)} {t4_0 : (Nat → Int32)} {t5_0 : (Nat → Int32)} {t6_0 : (Nat → Int32)} {t7_0 : (Nat → Int32)} (hR : gR t1_0 t2_0 t3_0 t4_0) : (S_DR_remainder x2 x3 x4 t0_0 t0_1 t0_2 t0_3 t0_4 t0_5 t0_6 t0_7 t0_8 t0_9 t0_10 t1_0 t2_0 t3_0 t4_0 t5_0 t6_0 t7_0) ∧ Q_DR_remainder (F_DR_remainder x2 x3 x4 t0_0 t0_1 t0_2 t0_3 t0_4 t0_5 t0_6 t0_7 t0_8 t0_9 t0_10 t1_0 t2_0 t3_0 t4_0 t5_0 t6_0 t7_0) := by
  have e0 : (0 : Int32).toInt = 0 := rfl
  have eL0 : (0 : Int64).toInt = 0 := rfl
  have eL1 : (10000 : Int64).toInt = 10000 := rfl
  have eL2 : (-10000 : Int64).toInt = -10000 := rfl
  have eL3 : (1000 : Int64).toInt = 1000 := rfl
  have eL4 : (-1 : Int64).toInt = -1 := rfl
  have eI3 : (1000 : Int32).toInt = 1000 := rfl
  unfold S_DR_remainder F_DR_remainder
  by_cases g1 : ((F_DR_no x2) : Int32) = (0 : Int32)
  ·
    rw [if_pos g1, if_pos g1]
    have g1r := g_no g1
    by_cases g2 : ((F_DR_no x3) : Int32) = (0 : Int32)
    ·
      rw [if_pos g2, if_pos g2]
      have g2r := g_no g2
      by_cases g3 : ((F_DR_no x4) : Int32) = (0 : Int32)
      ·
        rw [if_pos g3, if_pos g3]
        have g3r := g_no g3
        have h4 := R_dz (x2 := x3) (t0_0 := t0_0) (t0_1 := t0_1) (t0_2 := t0_2) (t0_3 := t0_3) (t0_4 := t0_4) (t0_5 := t0_5) (t0_6 := t0_6) (t0_7 := t0_7) (t0_8 := t0_8) (t0_9 := t0_9) (t0_10 := t0_10) (t1_0 := t1_0) (by with_reducible assumption)
        have h4z := h4.2
        with_reducible refine v_owe h4.1 ?_
        by_cases g5 : ((F_DR_isZero x3 t0_0 t0_1 t0_2 t0_3 t0_4 t0_5 t0_6 t0_7 t0_8 t0_9 t0_10 t1_0) : Int32) = (0 : Int32)
        ·
          rw [if_pos g5, if_pos g5]
          have nz3 := u_if g5 (by with_reducible assumption)
          unfold S_DR_remainder_J39 F_DR_remainder_J39
          have g6 : ((0 : Int32) ≤ (0 : Int32)) := (by decide)
          rw [if_pos g6, if_pos g6]
          refine v_cons (by omega) ?_
          refine v_cons (by omega) ?_
          refine v_cons (by omega) ?_
          refine v_cons (by omega) ?_
          by_cases g7 : (t4_0 x2.toNatClampNeg : Int32) ≤ (t4_0 x3.toNatClampNeg : Int32)
          ·
            rw [if_pos g7, if_pos g7]
            have g7i := q_leI g7
            have m2 := gR.at hR (by with_reducible assumption : 0 ≤ x2.toInt ∧ x2.toInt ≤ 9)
            have m3 := gR.at hR (by with_reducible assumption : 0 ≤ x3.toInt ∧ x3.toInt ≤ 9)
            obtain ⟨lx76, e8⟩ := q_nm (((t4_0 x3.toNatClampNeg : Int32).toInt64 : Int64) : Int64)
            rw [e8]
            have h68 : -10000 ≤ lx76.toInt ∧ lx76.toInt ≤ 10000 := by rw [← e8, q_i2l rfl]; exact (gR.at hR (by with_reducible assumption)).2.2
            have h68a : (t4_0 x2.toNatClampNeg).toInt ≤ lx76.toInt := by rw [← e8, q_i2l rfl]; omega
            have h68b : (t4_0 x3.toNatClampNeg).toInt ≤ lx76.toInt := by rw [← e8, q_i2l rfl]; omega
            have h68c : lx76.toInt = (t4_0 x2.toNatClampNeg).toInt ∨ lx76.toInt = (t4_0 x3.toNatClampNeg).toInt := by first | exact Or.inl (by rw [← e8]; exact q_i2l rfl) | exact Or.inr (by rw [← e8]; exact q_i2l rfl)
            unfold S_DR_remainder_J87 F_DR_remainder_J87
            have h9 := R_dz (x2 := x2) (t0_0 := (0 : Int32)) (t0_1 := t0_1) (t0_2 := t0_2) (t0_3 := t0_3) (t0_4 := t0_4) (t0_5 := t0_5) (t0_6 := t0_6) (t0_7 := t0_7) (t0_8 := t0_8) (t0_9 := t0_9) (t0_10 := (2 : Int32)) (t1_0 := t1_0) (by with_reducible assumption)
            have h9z := h9.2
            with_reducible refine v_owe h9.1 ?_
            by_cases g10 : ((F_DR_isZero x2 (0 : Int32) t0_1 t0_2 t0_3 t0_4 t0_5 t0_6 t0_7 t0_8 t0_9 (2 : Int32) t1_0) : Int32) = (0 : Int32)
            ·
              rw [if_pos g10, if_pos g10]
              have h11 := T_DR_compareSizes (x2 := x2) (x3 := x3) (t0_0 := (0 : Int32)) (t0_1 := t0_1) (t0_2 := t0_2) (t0_3 := t0_3) (t0_4 := t0_4) (t0_5 := t0_5) (t0_6 := t0_6) (t0_7 := t0_7) (t0_8 := t0_8) (t0_9 := t0_9) (t0_10 := (2 : Int32)) (t1_0 := t1_0) (t2_0 := t2_0) (t3_0 := t4_0) (fun i hi => (hR.2 i hi).1) (by with_reducible assumption) (by with_reducible assumption)
              with_reducible refine v_owe h11 ?_
              by_cases g12 : (0 : Int32) ≤ ((F_DR_compareSizes x2 x3 (0 : Int32) t0_1 t0_2 t0_3 t0_4 t0_5 t0_6 t0_7 t0_8 t0_9 (2 : Int32) t1_0 t2_0 t4_0) : Int32)
              ·
                rw [if_pos g12, if_pos g12]
                have csz := u_cs m2.1 m3.1 m2.2.2 m3.2.2 g12
                have h13 := T_DR_loadUnder (x2 := x3) (x3 := ((lx76 - ((t4_0 x3.toNatClampNeg : Int32).toInt64 : Int64) : Int64).toInt32 : Int32)) (t0_0 := (0 : Int32)) (t0_1 := t0_1) (t0_2 := t0_2) (t0_3 := t0_3) (t0_4 := t0_4) (t0_5 := t0_5) (t0_6 := t0_6) (t0_7 := t0_7) (t0_8 := t0_8) (t0_9 := t0_9) (t0_10 := (2 : Int32)) (t1_0 := t1_0) (t2_0 := t2_0) (t3_0 := t6_0) hR.1 (gR.at hR (by with_reducible assumption)).1 (by with_reducible assumption) (by have ez := u_bh (c := t4_0 x3.toNatClampNeg) (s := lx76) m3.2.2 h68; exact ⟨by omega, by omega⟩)
                with_reducible refine v_owe h13.1 ?_
                replace h13 := h13.2
                generalize F_DR_loadUnder x3 ((lx76 - ((t4_0 x3.toNatClampNeg : Int32).toInt64 : Int64) : Int64).toInt32 : Int32) (0 : Int32) t0_1 t0_2 t0_3 t0_4 t0_5 t0_6 t0_7 t0_8 t0_9 (2 : Int32) t1_0 t2_0 t6_0 = p416 at *
                unfold Q_DR_loadUnder at h13
                obtain ⟨h137, h13g, h13z, h13a, h13b, h13c, h13d, h13e, h13f, h13k⟩ := h13
                have ez := u_bh (c := t4_0 x3.toNatClampNeg) (s := lx76) m3.2.2 h68
                have unz := h13z
                have unf := congrArg Int32.toInt h13f
                have unp := u_p1 h13g (by have e9 := q_clI (i := p416.2.2.2.2.2.2.2.1) rfl (by omega); omega) (by rw [unz]; exact nz3)
                unfold S_DR_remainder_c173 F_DR_remainder_c173
                have h14 := T_DR_beginQuotient (t0_0 := (p416.1 : Int32)) (t0_1 := (p416.2.1 : Int32)) (t0_2 := (p416.2.2.1 : Int32)) (t0_3 := (p416.2.2.2.1 : Int64)) (t0_4 := (p416.2.2.2.2.1 : Int32)) (t0_5 := (p416.2.2.2.2.2.1 : Int32)) (t0_6 := (p416.2.2.2.2.2.2.1 : Int32)) (t0_7 := (p416.2.2.2.2.2.2.2.1 : Int32)) (t0_8 := (p416.2.2.2.2.2.2.2.2.1 : Int32)) (t0_9 := (p416.2.2.2.2.2.2.2.2.2.1 : Int32)) (t0_10 := (p416.2.2.2.2.2.2.2.2.2.2.1 : Int32)) (t1_0 := t7_0) ⟨by omega, by omega⟩
                with_reducible refine v_owe h14.1 ?_
                replace h14 := h14.2
                generalize F_DR_beginQuotient (p416.1 : Int32) (p416.2.1 : Int32) (p416.2.2.1 : Int32) (p416.2.2.2.1 : Int64) (p416.2.2.2.2.1 : Int32) (p416.2.2.2.2.2.1 : Int32) (p416.2.2.2.2.2.2.1 : Int32) (p416.2.2.2.2.2.2.2.1 : Int32) (p416.2.2.2.2.2.2.2.2.1 : Int32) (p416.2.2.2.2.2.2.2.2.2.1 : Int32) (p416.2.2.2.2.2.2.2.2.2.2.1 : Int32) t7_0 = p477 at *
                unfold Q_DR_beginQuotient at h14
                obtain ⟨h14o, h14a, h14b, h142, h14d, h14e, h145, h147, h14k⟩ := h14
                have beg0 := h14o
                have beg2 := congrArg Int32.toInt h142
                have beg5 := congrArg Int32.toInt h145
                have beg7 := congrArg Int32.toInt h147
                have beq7 := h147
                have beq2 := h142
                unfold S_DR_remainder_c177 F_DR_remainder_c177
                have ej := u_rm (m := t2_0 x2.toNatClampNeg) (c := t4_0 x2.toNatClampNeg) (s := lx76) m2.1 m2.2.2 h68; exact v_rm1 hR (by with_reducible assumption) (by with_reducible assumption) m2.2.1 _ _ _ ⟨by omega, by omega⟩ (by omega) (by omega) (by rw [beq7]; exact u_w0 ⟨by omega, by omega⟩ (by with_reducible assumption) unp beg0) (by rw [beq7]; exact unp)
              ·
                rw [if_neg g12, if_neg g12]
                unfold S_DR_remainder_J106 F_DR_remainder_J106
                have h15 := T_DR_load (x2 := x2) (t0_0 := (0 : Int32)) (t0_1 := t0_1) (t0_2 := t0_2) (t0_3 := t0_3) (t0_4 := t0_4) (t0_5 := t0_5) (t0_6 := t0_6) (t0_7 := t0_7) (t0_8 := t0_8) (t0_9 := t0_9) (t0_10 := (2 : Int32)) (t1_0 := t1_0) (t2_0 := t2_0) (t3_0 := t3_0) (t4_0 := t4_0) (t5_0 := t5_0) (by with_reducible assumption) (by with_reducible assumption)
                with_reducible refine v_owe h15.1 ?_
                replace h15 := h15.2
                generalize F_DR_load x2 (0 : Int32) t0_1 t0_2 t0_3 t0_4 t0_5 t0_6 t0_7 t0_8 t0_9 (2 : Int32) t1_0 t2_0 t3_0 t4_0 t5_0 = p157 at *
                unfold Q_DR_load at h15
                obtain ⟨h151, h15g, h153, h154, h155, h156, h157⟩ := h15
                have h154i := congrArg Int32.toInt h154
                unfold S_DR_remainder_c108 F_DR_remainder_c108
                by_cases g16 : (lg_cmp (lx76 - (p157.2.2.2.1 : Int64) : Int64) 1000 : Int32) ≤ (0 : Int32)
                ·
                  rw [if_pos g16, if_pos g16]
                  have h17 := T_DR_bring (x2 := lx76) (x3 := (1 : Int32)) (x4 := x4) (t0_0 := (p157.1 : Int32)) (t0_1 := (p157.2.1 : Int32)) (t0_2 := (p157.2.2.1 : Int32)) (t0_3 := (p157.2.2.2.1 : Int64)) (t0_4 := (p157.2.2.2.2.1 : Int32)) (t0_5 := (p157.2.2.2.2.2.1 : Int32)) (t0_6 := (p157.2.2.2.2.2.2.1 : Int32)) (t0_7 := (p157.2.2.2.2.2.2.2.1 : Int32)) (t0_8 := (p157.2.2.2.2.2.2.2.2.1 : Int32)) (t0_9 := (p157.2.2.2.2.2.2.2.2.2.1 : Int32)) (t0_10 := (p157.2.2.2.2.2.2.2.2.2.2.1 : Int32)) (t1_0 := t1_0) (t2_0 := t2_0) (t3_0 := t3_0) (t4_0 := t4_0) (t5_0 := (p157.2.2.2.2.2.2.2.2.2.2.2 : (Nat → Int32))) (by with_reducible assumption) (by with_reducible assumption) ⟨by omega, by omega⟩ ⟨by omega, by omega⟩ (by with_reducible assumption) ⟨by omega, by omega⟩
                  with_reducible refine v_owe h17.1 ?_
                  replace h17 := h17.2
                  generalize F_DR_bring lx76 (1 : Int32) x4 (p157.1 : Int32) (p157.2.1 : Int32) (p157.2.2.1 : Int32) (p157.2.2.2.1 : Int64) (p157.2.2.2.2.1 : Int32) (p157.2.2.2.2.2.1 : Int32) (p157.2.2.2.2.2.2.1 : Int32) (p157.2.2.2.2.2.2.2.1 : Int32) (p157.2.2.2.2.2.2.2.2.1 : Int32) (p157.2.2.2.2.2.2.2.2.2.1 : Int32) (p157.2.2.2.2.2.2.2.2.2.2.1 : Int32) t1_0 t2_0 t3_0 t4_0 (p157.2.2.2.2.2.2.2.2.2.2.2 : (Nat → Int32)) = p231 at *
                  unfold Q_DR_bring at h17
                  unfold S_DR_remainder_c144 F_DR_remainder_c144
                  refine ⟨trivial, ?_⟩
                  (unfold Q_DR_remainder; dsimp only; with_reducible assumption)
                ·
                  rw [if_neg g16, if_neg g16]
                  have h18 := R_dz (x2 := x2) (t0_0 := (p157.1 : Int32)) (t0_1 := (p157.2.1 : Int32)) (t0_2 := (p157.2.2.1 : Int32)) (t0_3 := (p157.2.2.2.1 : Int64)) (t0_4 := (p157.2.2.2.2.1 : Int32)) (t0_5 := (p157.2.2.2.2.2.1 : Int32)) (t0_6 := (p157.2.2.2.2.2.2.1 : Int32)) (t0_7 := (p157.2.2.2.2.2.2.2.1 : Int32)) (t0_8 := (p157.2.2.2.2.2.2.2.2.1 : Int32)) (t0_9 := (p157.2.2.2.2.2.2.2.2.2.1 : Int32)) (t0_10 := (p157.2.2.2.2.2.2.2.2.2.2.1 : Int32)) (t1_0 := t1_0) (by with_reducible assumption)
                  have h18z := h18.2
                  with_reducible refine v_owe h18.1 ?_
                  by_cases g19 : ((F_DR_isZero x2 (p157.1 : Int32) (p157.2.1 : Int32) (p157.2.2.1 : Int32) (p157.2.2.2.1 : Int64) (p157.2.2.2.2.1 : Int32) (p157.2.2.2.2.2.1 : Int32) (p157.2.2.2.2.2.2.1 : Int32) (p157.2.2.2.2.2.2.2.1 : Int32) (p157.2.2.2.2.2.2.2.2.1 : Int32) (p157.2.2.2.2.2.2.2.2.2.1 : Int32) (p157.2.2.2.2.2.2.2.2.2.2.1 : Int32) t1_0) : Int32) = (0 : Int32)
                  ·
                    rw [if_pos g19, if_pos g19]
                    refine ⟨trivial, ?_⟩
                    (unfold Q_DR_remainder; dsimp only; with_reducible assumption)
                  ·
                    rw [if_neg g19, if_neg g19]
                    have h20 := T_DR_bring (x2 := lx76) (x3 := (1 : Int32)) (x4 := x4) (t0_0 := (p157.1 : Int32)) (t0_1 := (p157.2.1 : Int32)) (t0_2 := (p157.2.2.1 : Int32)) (t0_3 := (p157.2.2.2.1 : Int64)) (t0_4 := (p157.2.2.2.2.1 : Int32)) (t0_5 := (p157.2.2.2.2.2.1 : Int32)) (t0_6 := (p157.2.2.2.2.2.2.1 : Int32)) (t0_7 := (p157.2.2.2.2.2.2.2.1 : Int32)) (t0_8 := (p157.2.2.2.2.2.2.2.2.1 : Int32)) (t0_9 := (p157.2.2.2.2.2.2.2.2.2.1 : Int32)) (t0_10 := (p157.2.2.2.2.2.2.2.2.2.2.1 : Int32)) (t1_0 := t1_0) (t2_0 := t2_0) (t3_0 := t3_0) (t4_0 := t4_0) (t5_0 := (p157.2.2.2.2.2.2.2.2.2.2.2 : (Nat → Int32))) (by with_reducible assumption) (by with_reducible assumption) ⟨by omega, by omega⟩ ⟨by omega, by omega⟩ (by with_reducible assumption) ⟨by omega, by omega⟩
                    with_reducible refine v_owe h20.1 ?_
                    replace h20 := h20.2
                    generalize F_DR_bring lx76 (1 : Int32) x4 (p157.1 : Int32) (p157.2.1 : Int32) (p157.2.2.1 : Int32) (p157.2.2.2.1 : Int64) (p157.2.2.2.2.1 : Int32) (p157.2.2.2.2.2.1 : Int32) (p157.2.2.2.2.2.2.1 : Int32) (p157.2.2.2.2.2.2.2.1 : Int32) (p157.2.2.2.2.2.2.2.2.1 : Int32) (p157.2.2.2.2.2.2.2.2.2.1 : Int32) (p157.2.2.2.2.2.2.2.2.2.2.1 : Int32) t1_0 t2_0 t3_0 t4_0 (p157.2.2.2.2.2.2.2.2.2.2.2 : (Nat → Int32)) = p312 at *
                    unfold Q_DR_bring at h20
                    unfold S_DR_remainder_c144_6 F_DR_remainder_c144_6
                    refine ⟨trivial, ?_⟩
                    (unfold Q_DR_remainder; dsimp only; with_reducible assumption)
            ·
              rw [if_neg g10, if_neg g10]
              unfold S_DR_remainder_J106 F_DR_remainder_J106
              have h21 := T_DR_load (x2 := x2) (t0_0 := (0 : Int32)) (t0_1 := t0_1) (t0_2 := t0_2) (t0_3 := t0_3) (t0_4 := t0_4) (t0_5 := t0_5) (t0_6 := t0_6) (t0_7 := t0_7) (t0_8 := t0_8) (t0_9 := t0_9) (t0_10 := (2 : Int32)) (t1_0 := t1_0) (t2_0 := t2_0) (t3_0 := t3_0) (t4_0 := t4_0) (t5_0 := t5_0) (by with_reducible assumption) (by with_reducible assumption)
              with_reducible refine v_owe h21.1 ?_
              replace h21 := h21.2
              generalize F_DR_load x2 (0 : Int32) t0_1 t0_2 t0_3 t0_4 t0_5 t0_6 t0_7 t0_8 t0_9 (2 : Int32) t1_0 t2_0 t3_0 t4_0 t5_0 = p157 at *
              unfold Q_DR_load at h21
              obtain ⟨h211, h21g, h213, h214, h215, h216, h217⟩ := h21
              have h214i := congrArg Int32.toInt h214
              unfold S_DR_remainder_c108 F_DR_remainder_c108
              by_cases g22 : (lg_cmp (lx76 - (p157.2.2.2.1 : Int64) : Int64) 1000 : Int32) ≤ (0 : Int32)
              ·
                rw [if_pos g22, if_pos g22]
                have h23 := T_DR_bring (x2 := lx76) (x3 := (1 : Int32)) (x4 := x4) (t0_0 := (p157.1 : Int32)) (t0_1 := (p157.2.1 : Int32)) (t0_2 := (p157.2.2.1 : Int32)) (t0_3 := (p157.2.2.2.1 : Int64)) (t0_4 := (p157.2.2.2.2.1 : Int32)) (t0_5 := (p157.2.2.2.2.2.1 : Int32)) (t0_6 := (p157.2.2.2.2.2.2.1 : Int32)) (t0_7 := (p157.2.2.2.2.2.2.2.1 : Int32)) (t0_8 := (p157.2.2.2.2.2.2.2.2.1 : Int32)) (t0_9 := (p157.2.2.2.2.2.2.2.2.2.1 : Int32)) (t0_10 := (p157.2.2.2.2.2.2.2.2.2.2.1 : Int32)) (t1_0 := t1_0) (t2_0 := t2_0) (t3_0 := t3_0) (t4_0 := t4_0) (t5_0 := (p157.2.2.2.2.2.2.2.2.2.2.2 : (Nat → Int32))) (by with_reducible assumption) (by with_reducible assumption) ⟨by omega, by omega⟩ ⟨by omega, by omega⟩ (by with_reducible assumption) ⟨by omega, by omega⟩
                with_reducible refine v_owe h23.1 ?_
                replace h23 := h23.2
                generalize F_DR_bring lx76 (1 : Int32) x4 (p157.1 : Int32) (p157.2.1 : Int32) (p157.2.2.1 : Int32) (p157.2.2.2.1 : Int64) (p157.2.2.2.2.1 : Int32) (p157.2.2.2.2.2.1 : Int32) (p157.2.2.2.2.2.2.1 : Int32) (p157.2.2.2.2.2.2.2.1 : Int32) (p157.2.2.2.2.2.2.2.2.1 : Int32) (p157.2.2.2.2.2.2.2.2.2.1 : Int32) (p157.2.2.2.2.2.2.2.2.2.2.1 : Int32) t1_0 t2_0 t3_0 t4_0 (p157.2.2.2.2.2.2.2.2.2.2.2 : (Nat → Int32)) = p231 at *
                unfold Q_DR_bring at h23
                unfold S_DR_remainder_c144 F_DR_remainder_c144
                refine ⟨trivial, ?_⟩
                (unfold Q_DR_remainder; dsimp only; with_reducible assumption)
              ·
                rw [if_neg g22, if_neg g22]
                have h24 := R_dz (x2 := x2) (t0_0 := (p157.1 : Int32)) (t0_1 := (p157.2.1 : Int32)) (t0_2 := (p157.2.2.1 : Int32)) (t0_3 := (p157.2.2.2.1 : Int64)) (t0_4 := (p157.2.2.2.2.1 : Int32)) (t0_5 := (p157.2.2.2.2.2.1 : Int32)) (t0_6 := (p157.2.2.2.2.2.2.1 : Int32)) (t0_7 := (p157.2.2.2.2.2.2.2.1 : Int32)) (t0_8 := (p157.2.2.2.2.2.2.2.2.1 : Int32)) (t0_9 := (p157.2.2.2.2.2.2.2.2.2.1 : Int32)) (t0_10 := (p157.2.2.2.2.2.2.2.2.2.2.1 : Int32)) (t1_0 := t1_0) (by with_reducible assumption)
                have h24z := h24.2
                with_reducible refine v_owe h24.1 ?_
                by_cases g25 : ((F_DR_isZero x2 (p157.1 : Int32) (p157.2.1 : Int32) (p157.2.2.1 : Int32) (p157.2.2.2.1 : Int64) (p157.2.2.2.2.1 : Int32) (p157.2.2.2.2.2.1 : Int32) (p157.2.2.2.2.2.2.1 : Int32) (p157.2.2.2.2.2.2.2.1 : Int32) (p157.2.2.2.2.2.2.2.2.1 : Int32) (p157.2.2.2.2.2.2.2.2.2.1 : Int32) (p157.2.2.2.2.2.2.2.2.2.2.1 : Int32) t1_0) : Int32) = (0 : Int32)
                ·
                  rw [if_pos g25, if_pos g25]
                  refine ⟨trivial, ?_⟩
                  (unfold Q_DR_remainder; dsimp only; with_reducible assumption)
                ·
                  rw [if_neg g25, if_neg g25]
                  have h26 := T_DR_bring (x2 := lx76) (x3 := (1 : Int32)) (x4 := x4) (t0_0 := (p157.1 : Int32)) (t0_1 := (p157.2.1 : Int32)) (t0_2 := (p157.2.2.1 : Int32)) (t0_3 := (p157.2.2.2.1 : Int64)) (t0_4 := (p157.2.2.2.2.1 : Int32)) (t0_5 := (p157.2.2.2.2.2.1 : Int32)) (t0_6 := (p157.2.2.2.2.2.2.1 : Int32)) (t0_7 := (p157.2.2.2.2.2.2.2.1 : Int32)) (t0_8 := (p157.2.2.2.2.2.2.2.2.1 : Int32)) (t0_9 := (p157.2.2.2.2.2.2.2.2.2.1 : Int32)) (t0_10 := (p157.2.2.2.2.2.2.2.2.2.2.1 : Int32)) (t1_0 := t1_0) (t2_0 := t2_0) (t3_0 := t3_0) (t4_0 := t4_0) (t5_0 := (p157.2.2.2.2.2.2.2.2.2.2.2 : (Nat → Int32))) (by with_reducible assumption) (by with_reducible assumption) ⟨by omega, by omega⟩ ⟨by omega, by omega⟩ (by with_reducible assumption) ⟨by omega, by omega⟩
                  with_reducible refine v_owe h26.1 ?_
                  replace h26 := h26.2
                  generalize F_DR_bring lx76 (1 : Int32) x4 (p157.1 : Int32) (p157.2.1 : Int32) (p157.2.2.1 : Int32) (p157.2.2.2.1 : Int64) (p157.2.2.2.2.1 : Int32) (p157.2.2.2.2.2.1 : Int32) (p157.2.2.2.2.2.2.1 : Int32) (p157.2.2.2.2.2.2.2.1 : Int32) (p157.2.2.2.2.2.2.2.2.1 : Int32) (p157.2.2.2.2.2.2.2.2.2.1 : Int32) (p157.2.2.2.2.2.2.2.2.2.2.1 : Int32) t1_0 t2_0 t3_0 t4_0 (p157.2.2.2.2.2.2.2.2.2.2.2 : (Nat → Int32)) = p312 at *
                  unfold Q_DR_bring at h26
                  unfold S_DR_remainder_c144_6 F_DR_remainder_c144_6
                  refine ⟨trivial, ?_⟩
                  (unfold Q_DR_remainder; dsimp only; with_reducible assumption)
          ·
            rw [if_neg g7, if_neg g7]
            have g7i := q_nleI g7
            have m2 := gR.at hR (by with_reducible assumption : 0 ≤ x2.toInt ∧ x2.toInt ≤ 9)
            have m3 := gR.at hR (by with_reducible assumption : 0 ≤ x3.toInt ∧ x3.toInt ≤ 9)
            obtain ⟨lx76, e27⟩ := q_nm (((t4_0 x2.toNatClampNeg : Int32).toInt64 : Int64) : Int64)
            rw [e27]
            have h68 : -10000 ≤ lx76.toInt ∧ lx76.toInt ≤ 10000 := by rw [← e27, q_i2l rfl]; exact (gR.at hR (by with_reducible assumption)).2.2
            have h68a : (t4_0 x2.toNatClampNeg).toInt ≤ lx76.toInt := by rw [← e27, q_i2l rfl]; omega
            have h68b : (t4_0 x3.toNatClampNeg).toInt ≤ lx76.toInt := by rw [← e27, q_i2l rfl]; omega
            have h68c : lx76.toInt = (t4_0 x2.toNatClampNeg).toInt ∨ lx76.toInt = (t4_0 x3.toNatClampNeg).toInt := by first | exact Or.inl (by rw [← e27]; exact q_i2l rfl) | exact Or.inr (by rw [← e27]; exact q_i2l rfl)
            unfold S_DR_remainder_J87 F_DR_remainder_J87
            have h28 := R_dz (x2 := x2) (t0_0 := (0 : Int32)) (t0_1 := t0_1) (t0_2 := t0_2) (t0_3 := t0_3) (t0_4 := t0_4) (t0_5 := t0_5) (t0_6 := t0_6) (t0_7 := t0_7) (t0_8 := t0_8) (t0_9 := t0_9) (t0_10 := (2 : Int32)) (t1_0 := t1_0) (by with_reducible assumption)
            have h28z := h28.2
            with_reducible refine v_owe h28.1 ?_
            by_cases g29 : ((F_DR_isZero x2 (0 : Int32) t0_1 t0_2 t0_3 t0_4 t0_5 t0_6 t0_7 t0_8 t0_9 (2 : Int32) t1_0) : Int32) = (0 : Int32)
            ·
              rw [if_pos g29, if_pos g29]
              have h30 := T_DR_compareSizes (x2 := x2) (x3 := x3) (t0_0 := (0 : Int32)) (t0_1 := t0_1) (t0_2 := t0_2) (t0_3 := t0_3) (t0_4 := t0_4) (t0_5 := t0_5) (t0_6 := t0_6) (t0_7 := t0_7) (t0_8 := t0_8) (t0_9 := t0_9) (t0_10 := (2 : Int32)) (t1_0 := t1_0) (t2_0 := t2_0) (t3_0 := t4_0) (fun i hi => (hR.2 i hi).1) (by with_reducible assumption) (by with_reducible assumption)
              with_reducible refine v_owe h30 ?_
              by_cases g31 : (0 : Int32) ≤ ((F_DR_compareSizes x2 x3 (0 : Int32) t0_1 t0_2 t0_3 t0_4 t0_5 t0_6 t0_7 t0_8 t0_9 (2 : Int32) t1_0 t2_0 t4_0) : Int32)
              ·
                rw [if_pos g31, if_pos g31]
                have csz := u_cs m2.1 m3.1 m2.2.2 m3.2.2 g31
                have h32 := T_DR_loadUnder (x2 := x3) (x3 := ((lx76 - ((t4_0 x3.toNatClampNeg : Int32).toInt64 : Int64) : Int64).toInt32 : Int32)) (t0_0 := (0 : Int32)) (t0_1 := t0_1) (t0_2 := t0_2) (t0_3 := t0_3) (t0_4 := t0_4) (t0_5 := t0_5) (t0_6 := t0_6) (t0_7 := t0_7) (t0_8 := t0_8) (t0_9 := t0_9) (t0_10 := (2 : Int32)) (t1_0 := t1_0) (t2_0 := t2_0) (t3_0 := t6_0) hR.1 (gR.at hR (by with_reducible assumption)).1 (by with_reducible assumption) (by have ez := u_bh (c := t4_0 x3.toNatClampNeg) (s := lx76) m3.2.2 h68; exact ⟨by omega, by omega⟩)
                with_reducible refine v_owe h32.1 ?_
                replace h32 := h32.2
                generalize F_DR_loadUnder x3 ((lx76 - ((t4_0 x3.toNatClampNeg : Int32).toInt64 : Int64) : Int64).toInt32 : Int32) (0 : Int32) t0_1 t0_2 t0_3 t0_4 t0_5 t0_6 t0_7 t0_8 t0_9 (2 : Int32) t1_0 t2_0 t6_0 = p416 at *
                unfold Q_DR_loadUnder at h32
                obtain ⟨h327, h32g, h32z, h32a, h32b, h32c, h32d, h32e, h32f, h32k⟩ := h32
                have ez := u_bh (c := t4_0 x3.toNatClampNeg) (s := lx76) m3.2.2 h68
                have unz := h32z
                have unf := congrArg Int32.toInt h32f
                have unp := u_p1 h32g (by have e9 := q_clI (i := p416.2.2.2.2.2.2.2.1) rfl (by omega); omega) (by rw [unz]; exact nz3)
                unfold S_DR_remainder_c173 F_DR_remainder_c173
                have h33 := T_DR_beginQuotient (t0_0 := (p416.1 : Int32)) (t0_1 := (p416.2.1 : Int32)) (t0_2 := (p416.2.2.1 : Int32)) (t0_3 := (p416.2.2.2.1 : Int64)) (t0_4 := (p416.2.2.2.2.1 : Int32)) (t0_5 := (p416.2.2.2.2.2.1 : Int32)) (t0_6 := (p416.2.2.2.2.2.2.1 : Int32)) (t0_7 := (p416.2.2.2.2.2.2.2.1 : Int32)) (t0_8 := (p416.2.2.2.2.2.2.2.2.1 : Int32)) (t0_9 := (p416.2.2.2.2.2.2.2.2.2.1 : Int32)) (t0_10 := (p416.2.2.2.2.2.2.2.2.2.2.1 : Int32)) (t1_0 := t7_0) ⟨by omega, by omega⟩
                with_reducible refine v_owe h33.1 ?_
                replace h33 := h33.2
                generalize F_DR_beginQuotient (p416.1 : Int32) (p416.2.1 : Int32) (p416.2.2.1 : Int32) (p416.2.2.2.1 : Int64) (p416.2.2.2.2.1 : Int32) (p416.2.2.2.2.2.1 : Int32) (p416.2.2.2.2.2.2.1 : Int32) (p416.2.2.2.2.2.2.2.1 : Int32) (p416.2.2.2.2.2.2.2.2.1 : Int32) (p416.2.2.2.2.2.2.2.2.2.1 : Int32) (p416.2.2.2.2.2.2.2.2.2.2.1 : Int32) t7_0 = p477 at *
                unfold Q_DR_beginQuotient at h33
                obtain ⟨h33o, h33a, h33b, h332, h33d, h33e, h335, h337, h33k⟩ := h33
                have beg0 := h33o
                have beg2 := congrArg Int32.toInt h332
                have beg5 := congrArg Int32.toInt h335
                have beg7 := congrArg Int32.toInt h337
                have beq7 := h337
                have beq2 := h332
                unfold S_DR_remainder_c177 F_DR_remainder_c177
                have ej := u_rm (m := t2_0 x2.toNatClampNeg) (c := t4_0 x2.toNatClampNeg) (s := lx76) m2.1 m2.2.2 h68; exact v_rm1 hR (by with_reducible assumption) (by with_reducible assumption) m2.2.1 _ _ _ ⟨by omega, by omega⟩ (by omega) (by omega) (by rw [beq7]; exact u_w0 ⟨by omega, by omega⟩ (by with_reducible assumption) unp beg0) (by rw [beq7]; exact unp)
              ·
                rw [if_neg g31, if_neg g31]
                unfold S_DR_remainder_J106 F_DR_remainder_J106
                have h34 := T_DR_load (x2 := x2) (t0_0 := (0 : Int32)) (t0_1 := t0_1) (t0_2 := t0_2) (t0_3 := t0_3) (t0_4 := t0_4) (t0_5 := t0_5) (t0_6 := t0_6) (t0_7 := t0_7) (t0_8 := t0_8) (t0_9 := t0_9) (t0_10 := (2 : Int32)) (t1_0 := t1_0) (t2_0 := t2_0) (t3_0 := t3_0) (t4_0 := t4_0) (t5_0 := t5_0) (by with_reducible assumption) (by with_reducible assumption)
                with_reducible refine v_owe h34.1 ?_
                replace h34 := h34.2
                generalize F_DR_load x2 (0 : Int32) t0_1 t0_2 t0_3 t0_4 t0_5 t0_6 t0_7 t0_8 t0_9 (2 : Int32) t1_0 t2_0 t3_0 t4_0 t5_0 = p157 at *
                unfold Q_DR_load at h34
                obtain ⟨h341, h34g, h343, h344, h345, h346, h347⟩ := h34
                have h344i := congrArg Int32.toInt h344
                unfold S_DR_remainder_c108 F_DR_remainder_c108
                by_cases g35 : (lg_cmp (lx76 - (p157.2.2.2.1 : Int64) : Int64) 1000 : Int32) ≤ (0 : Int32)
                ·
                  rw [if_pos g35, if_pos g35]
                  have h36 := T_DR_bring (x2 := lx76) (x3 := (1 : Int32)) (x4 := x4) (t0_0 := (p157.1 : Int32)) (t0_1 := (p157.2.1 : Int32)) (t0_2 := (p157.2.2.1 : Int32)) (t0_3 := (p157.2.2.2.1 : Int64)) (t0_4 := (p157.2.2.2.2.1 : Int32)) (t0_5 := (p157.2.2.2.2.2.1 : Int32)) (t0_6 := (p157.2.2.2.2.2.2.1 : Int32)) (t0_7 := (p157.2.2.2.2.2.2.2.1 : Int32)) (t0_8 := (p157.2.2.2.2.2.2.2.2.1 : Int32)) (t0_9 := (p157.2.2.2.2.2.2.2.2.2.1 : Int32)) (t0_10 := (p157.2.2.2.2.2.2.2.2.2.2.1 : Int32)) (t1_0 := t1_0) (t2_0 := t2_0) (t3_0 := t3_0) (t4_0 := t4_0) (t5_0 := (p157.2.2.2.2.2.2.2.2.2.2.2 : (Nat → Int32))) (by with_reducible assumption) (by with_reducible assumption) ⟨by omega, by omega⟩ ⟨by omega, by omega⟩ (by with_reducible assumption) ⟨by omega, by omega⟩
                  with_reducible refine v_owe h36.1 ?_
                  replace h36 := h36.2
                  generalize F_DR_bring lx76 (1 : Int32) x4 (p157.1 : Int32) (p157.2.1 : Int32) (p157.2.2.1 : Int32) (p157.2.2.2.1 : Int64) (p157.2.2.2.2.1 : Int32) (p157.2.2.2.2.2.1 : Int32) (p157.2.2.2.2.2.2.1 : Int32) (p157.2.2.2.2.2.2.2.1 : Int32) (p157.2.2.2.2.2.2.2.2.1 : Int32) (p157.2.2.2.2.2.2.2.2.2.1 : Int32) (p157.2.2.2.2.2.2.2.2.2.2.1 : Int32) t1_0 t2_0 t3_0 t4_0 (p157.2.2.2.2.2.2.2.2.2.2.2 : (Nat → Int32)) = p231 at *
                  unfold Q_DR_bring at h36
                  unfold S_DR_remainder_c144 F_DR_remainder_c144
                  refine ⟨trivial, ?_⟩
                  (unfold Q_DR_remainder; dsimp only; with_reducible assumption)
                ·
                  rw [if_neg g35, if_neg g35]
                  have h37 := R_dz (x2 := x2) (t0_0 := (p157.1 : Int32)) (t0_1 := (p157.2.1 : Int32)) (t0_2 := (p157.2.2.1 : Int32)) (t0_3 := (p157.2.2.2.1 : Int64)) (t0_4 := (p157.2.2.2.2.1 : Int32)) (t0_5 := (p157.2.2.2.2.2.1 : Int32)) (t0_6 := (p157.2.2.2.2.2.2.1 : Int32)) (t0_7 := (p157.2.2.2.2.2.2.2.1 : Int32)) (t0_8 := (p157.2.2.2.2.2.2.2.2.1 : Int32)) (t0_9 := (p157.2.2.2.2.2.2.2.2.2.1 : Int32)) (t0_10 := (p157.2.2.2.2.2.2.2.2.2.2.1 : Int32)) (t1_0 := t1_0) (by with_reducible assumption)
                  have h37z := h37.2
                  with_reducible refine v_owe h37.1 ?_
                  by_cases g38 : ((F_DR_isZero x2 (p157.1 : Int32) (p157.2.1 : Int32) (p157.2.2.1 : Int32) (p157.2.2.2.1 : Int64) (p157.2.2.2.2.1 : Int32) (p157.2.2.2.2.2.1 : Int32) (p157.2.2.2.2.2.2.1 : Int32) (p157.2.2.2.2.2.2.2.1 : Int32) (p157.2.2.2.2.2.2.2.2.1 : Int32) (p157.2.2.2.2.2.2.2.2.2.1 : Int32) (p157.2.2.2.2.2.2.2.2.2.2.1 : Int32) t1_0) : Int32) = (0 : Int32)
                  ·
                    rw [if_pos g38, if_pos g38]
                    refine ⟨trivial, ?_⟩
                    (unfold Q_DR_remainder; dsimp only; with_reducible assumption)
                  ·
                    rw [if_neg g38, if_neg g38]
                    have h39 := T_DR_bring (x2 := lx76) (x3 := (1 : Int32)) (x4 := x4) (t0_0 := (p157.1 : Int32)) (t0_1 := (p157.2.1 : Int32)) (t0_2 := (p157.2.2.1 : Int32)) (t0_3 := (p157.2.2.2.1 : Int64)) (t0_4 := (p157.2.2.2.2.1 : Int32)) (t0_5 := (p157.2.2.2.2.2.1 : Int32)) (t0_6 := (p157.2.2.2.2.2.2.1 : Int32)) (t0_7 := (p157.2.2.2.2.2.2.2.1 : Int32)) (t0_8 := (p157.2.2.2.2.2.2.2.2.1 : Int32)) (t0_9 := (p157.2.2.2.2.2.2.2.2.2.1 : Int32)) (t0_10 := (p157.2.2.2.2.2.2.2.2.2.2.1 : Int32)) (t1_0 := t1_0) (t2_0 := t2_0) (t3_0 := t3_0) (t4_0 := t4_0) (t5_0 := (p157.2.2.2.2.2.2.2.2.2.2.2 : (Nat → Int32))) (by with_reducible assumption) (by with_reducible assumption) ⟨by omega, by omega⟩ ⟨by omega, by omega⟩ (by with_reducible assumption) ⟨by omega, by omega⟩
                    with_reducible refine v_owe h39.1 ?_
                    replace h39 := h39.2
                    generalize F_DR_bring lx76 (1 : Int32) x4 (p157.1 : Int32) (p157.2.1 : Int32) (p157.2.2.1 : Int32) (p157.2.2.2.1 : Int64) (p157.2.2.2.2.1 : Int32) (p157.2.2.2.2.2.1 : Int32) (p157.2.2.2.2.2.2.1 : Int32) (p157.2.2.2.2.2.2.2.1 : Int32) (p157.2.2.2.2.2.2.2.2.1 : Int32) (p157.2.2.2.2.2.2.2.2.2.1 : Int32) (p157.2.2.2.2.2.2.2.2.2.2.1 : Int32) t1_0 t2_0 t3_0 t4_0 (p157.2.2.2.2.2.2.2.2.2.2.2 : (Nat → Int32)) = p312 at *
                    unfold Q_DR_bring at h39
                    unfold S_DR_remainder_c144_6 F_DR_remainder_c144_6
                    refine ⟨trivial, ?_⟩
                    (unfold Q_DR_remainder; dsimp only; with_reducible assumption)
            ·
              rw [if_neg g29, if_neg g29]
              unfold S_DR_remainder_J106 F_DR_remainder_J106
              have h40 := T_DR_load (x2 := x2) (t0_0 := (0 : Int32)) (t0_1 := t0_1) (t0_2 := t0_2) (t0_3 := t0_3) (t0_4 := t0_4) (t0_5 := t0_5) (t0_6 := t0_6) (t0_7 := t0_7) (t0_8 := t0_8) (t0_9 := t0_9) (t0_10 := (2 : Int32)) (t1_0 := t1_0) (t2_0 := t2_0) (t3_0 := t3_0) (t4_0 := t4_0) (t5_0 := t5_0) (by with_reducible assumption) (by with_reducible assumption)
              with_reducible refine v_owe h40.1 ?_
              replace h40 := h40.2
              generalize F_DR_load x2 (0 : Int32) t0_1 t0_2 t0_3 t0_4 t0_5 t0_6 t0_7 t0_8 t0_9 (2 : Int32) t1_0 t2_0 t3_0 t4_0 t5_0 = p157 at *
              unfold Q_DR_load at h40
              obtain ⟨h401, h40g, h403, h404, h405, h406, h407⟩ := h40
              have h404i := congrArg Int32.toInt h404
              unfold S_DR_remainder_c108 F_DR_remainder_c108
              by_cases g41 : (lg_cmp (lx76 - (p157.2.2.2.1 : Int64) : Int64) 1000 : Int32) ≤ (0 : Int32)
              ·
                rw [if_pos g41, if_pos g41]
                have h42 := T_DR_bring (x2 := lx76) (x3 := (1 : Int32)) (x4 := x4) (t0_0 := (p157.1 : Int32)) (t0_1 := (p157.2.1 : Int32)) (t0_2 := (p157.2.2.1 : Int32)) (t0_3 := (p157.2.2.2.1 : Int64)) (t0_4 := (p157.2.2.2.2.1 : Int32)) (t0_5 := (p157.2.2.2.2.2.1 : Int32)) (t0_6 := (p157.2.2.2.2.2.2.1 : Int32)) (t0_7 := (p157.2.2.2.2.2.2.2.1 : Int32)) (t0_8 := (p157.2.2.2.2.2.2.2.2.1 : Int32)) (t0_9 := (p157.2.2.2.2.2.2.2.2.2.1 : Int32)) (t0_10 := (p157.2.2.2.2.2.2.2.2.2.2.1 : Int32)) (t1_0 := t1_0) (t2_0 := t2_0) (t3_0 := t3_0) (t4_0 := t4_0) (t5_0 := (p157.2.2.2.2.2.2.2.2.2.2.2 : (Nat → Int32))) (by with_reducible assumption) (by with_reducible assumption) ⟨by omega, by omega⟩ ⟨by omega, by omega⟩ (by with_reducible assumption) ⟨by omega, by omega⟩
                with_reducible refine v_owe h42.1 ?_
                replace h42 := h42.2
                generalize F_DR_bring lx76 (1 : Int32) x4 (p157.1 : Int32) (p157.2.1 : Int32) (p157.2.2.1 : Int32) (p157.2.2.2.1 : Int64) (p157.2.2.2.2.1 : Int32) (p157.2.2.2.2.2.1 : Int32) (p157.2.2.2.2.2.2.1 : Int32) (p157.2.2.2.2.2.2.2.1 : Int32) (p157.2.2.2.2.2.2.2.2.1 : Int32) (p157.2.2.2.2.2.2.2.2.2.1 : Int32) (p157.2.2.2.2.2.2.2.2.2.2.1 : Int32) t1_0 t2_0 t3_0 t4_0 (p157.2.2.2.2.2.2.2.2.2.2.2 : (Nat → Int32)) = p231 at *
                unfold Q_DR_bring at h42
                unfold S_DR_remainder_c144 F_DR_remainder_c144
                refine ⟨trivial, ?_⟩
                (unfold Q_DR_remainder; dsimp only; with_reducible assumption)
              ·
                rw [if_neg g41, if_neg g41]
                have h43 := R_dz (x2 := x2) (t0_0 := (p157.1 : Int32)) (t0_1 := (p157.2.1 : Int32)) (t0_2 := (p157.2.2.1 : Int32)) (t0_3 := (p157.2.2.2.1 : Int64)) (t0_4 := (p157.2.2.2.2.1 : Int32)) (t0_5 := (p157.2.2.2.2.2.1 : Int32)) (t0_6 := (p157.2.2.2.2.2.2.1 : Int32)) (t0_7 := (p157.2.2.2.2.2.2.2.1 : Int32)) (t0_8 := (p157.2.2.2.2.2.2.2.2.1 : Int32)) (t0_9 := (p157.2.2.2.2.2.2.2.2.2.1 : Int32)) (t0_10 := (p157.2.2.2.2.2.2.2.2.2.2.1 : Int32)) (t1_0 := t1_0) (by with_reducible assumption)
                have h43z := h43.2
                with_reducible refine v_owe h43.1 ?_
                by_cases g44 : ((F_DR_isZero x2 (p157.1 : Int32) (p157.2.1 : Int32) (p157.2.2.1 : Int32) (p157.2.2.2.1 : Int64) (p157.2.2.2.2.1 : Int32) (p157.2.2.2.2.2.1 : Int32) (p157.2.2.2.2.2.2.1 : Int32) (p157.2.2.2.2.2.2.2.1 : Int32) (p157.2.2.2.2.2.2.2.2.1 : Int32) (p157.2.2.2.2.2.2.2.2.2.1 : Int32) (p157.2.2.2.2.2.2.2.2.2.2.1 : Int32) t1_0) : Int32) = (0 : Int32)
                ·
                  rw [if_pos g44, if_pos g44]
                  refine ⟨trivial, ?_⟩
                  (unfold Q_DR_remainder; dsimp only; with_reducible assumption)
                ·
                  rw [if_neg g44, if_neg g44]
                  have h45 := T_DR_bring (x2 := lx76) (x3 := (1 : Int32)) (x4 := x4) (t0_0 := (p157.1 : Int32)) (t0_1 := (p157.2.1 : Int32)) (t0_2 := (p157.2.2.1 : Int32)) (t0_3 := (p157.2.2.2.1 : Int64)) (t0_4 := (p157.2.2.2.2.1 : Int32)) (t0_5 := (p157.2.2.2.2.2.1 : Int32)) (t0_6 := (p157.2.2.2.2.2.2.1 : Int32)) (t0_7 := (p157.2.2.2.2.2.2.2.1 : Int32)) (t0_8 := (p157.2.2.2.2.2.2.2.2.1 : Int32)) (t0_9 := (p157.2.2.2.2.2.2.2.2.2.1 : Int32)) (t0_10 := (p157.2.2.2.2.2.2.2.2.2.2.1 : Int32)) (t1_0 := t1_0) (t2_0 := t2_0) (t3_0 := t3_0) (t4_0 := t4_0) (t5_0 := (p157.2.2.2.2.2.2.2.2.2.2.2 : (Nat → Int32))) (by with_reducible assumption) (by with_reducible assumption) ⟨by omega, by omega⟩ ⟨by omega, by omega⟩ (by with_reducible assumption) ⟨by omega, by omega⟩
                  with_reducible refine v_owe h45.1 ?_
                  replace h45 := h45.2
                  generalize F_DR_bring lx76 (1 : Int32) x4 (p157.1 : Int32) (p157.2.1 : Int32) (p157.2.2.1 : Int32) (p157.2.2.2.1 : Int64) (p157.2.2.2.2.1 : Int32) (p157.2.2.2.2.2.1 : Int32) (p157.2.2.2.2.2.2.1 : Int32) (p157.2.2.2.2.2.2.2.1 : Int32) (p157.2.2.2.2.2.2.2.2.1 : Int32) (p157.2.2.2.2.2.2.2.2.2.1 : Int32) (p157.2.2.2.2.2.2.2.2.2.2.1 : Int32) t1_0 t2_0 t3_0 t4_0 (p157.2.2.2.2.2.2.2.2.2.2.2 : (Nat → Int32)) = p312 at *
                  unfold Q_DR_bring at h45
                  unfold S_DR_remainder_c144_6 F_DR_remainder_c144_6
                  refine ⟨trivial, ?_⟩
                  (unfold Q_DR_remainder; dsimp only; with_reducible assumption)
        ·
          rw [if_neg g5, if_neg g5]
          unfold S_DR_remainder_J39 F_DR_remainder_J39
          have g46 : ¬ ((2 : Int32) ≤ (0 : Int32)) := (by decide)
          rw [if_neg g46, if_neg g46]
          refine ⟨trivial, ?_⟩
          (unfold Q_DR_remainder; dsimp only; with_reducible assumption)
      ·
        rw [if_neg g3, if_neg g3]
        unfold S_DR_remainder_J22 F_DR_remainder_J22
        unfold S_DR_remainder_J39 F_DR_remainder_J39
        have g47 : ¬ ((1 : Int32) ≤ (0 : Int32)) := (by decide)
        rw [if_neg g47, if_neg g47]
        refine ⟨trivial, ?_⟩
        (unfold Q_DR_remainder; dsimp only; with_reducible assumption)
    ·
      rw [if_neg g2, if_neg g2]
      unfold S_DR_remainder_J22 F_DR_remainder_J22
      unfold S_DR_remainder_J39 F_DR_remainder_J39
      have g48 : ¬ ((1 : Int32) ≤ (0 : Int32)) := (by decide)
      rw [if_neg g48, if_neg g48]
      refine ⟨trivial, ?_⟩
      (unfold Q_DR_remainder; dsimp only; with_reducible assumption)
  ·
    rw [if_neg g1, if_neg g1]
    unfold S_DR_remainder_J22 F_DR_remainder_J22
    unfold S_DR_remainder_J39 F_DR_remainder_J39
    have g49 : ¬ ((1 : Int32) ≤ (0 : Int32)) := (by decide)
    rw [if_neg g49, if_neg g49]
    refine ⟨trivial, ?_⟩
    (unfold Q_DR_remainder; dsimp only; with_reducible assumption)

/-! DecimalRows: print, figures, exponent -/
theorem R_print {x2 : Int32} {t0_0 : Int32} {t0_1 : Int32} {t0_2 : Int32} {t0_3 : Int64} {t0_4 : Int32} {t0_5 : Int32} {t0_6 : Int32} {t0_7 : Int32} {t0_8 : Int32} {t0_9 : Int32} {t0_10 : Int32} {t1_0 : (Nat → Int32)} (h : 0 ≤ t0_9.toInt ∧ t0_9.toInt ≤ 12199) : S_DR_print x2 t0_0 t0_1 t0_2 t0_3 t0_4 t0_5 t0_6 t0_7 t0_8 t0_9 t0_10 t1_0 ∧ (F_DR_print x2 t0_0 t0_1 t0_2 t0_3 t0_4 t0_5 t0_6 t0_7 t0_8 t0_9 t0_10 t1_0).2.2.2.2.2.2.2.2.2.1.toInt = t0_9.toInt + 1 := by
  unfold S_DR_print F_DR_print
  exact ⟨⟨h.2, trivial⟩, q_addI (y := 1) rfl (by decide) (by omega) (by omega)⟩
def Q_DR_figures (x3 x4 t0_9 : Int32) (p : Int32 × Int32 × Int32 × Int64 × Int32 × Int32 × Int32 × Int32 × Int32 × Int32 × Int32 × (Nat → Int32)) : Prop := t0_9.toInt ≤ p.2.2.2.2.2.2.2.2.2.1.toInt ∧ (p.2.2.2.2.2.2.2.2.2.1.toInt ≤ t0_9.toInt + 1 ∨ p.2.2.2.2.2.2.2.2.2.1.toInt ≤ t0_9.toInt + (x4.toInt - x3.toInt) + 1)
theorem v_fig {x2 : Int32} {x3 : Int32} {x4 : Int32} {x5 : Int32} {t0_0 : Int32} {t0_1 : Int32} {t0_2 : Int32} {t0_3 : Int64} {t0_4 : Int32} {t0_5 : Int32} {t0_6 : Int32} {t0_7 : Int32} {t0_8 : Int32} {t0_9 : Int32} {t0_10 : Int32} {t1_0 : (Nat → Int32)} {t2_0 : (Nat → Int32)} {t3_0 : (Nat → Int32)} (hx : 0 ≤ x2.toInt ∧ x2.toInt ≤ 9) (hm1 : 1 ≤ (t2_0 x2.toNatClampNeg).toInt ∧ (t2_0 x2.toNatClampNeg).toInt ≤ 1000) (h34 : -30000 ≤ x3.toInt ∧ x3.toInt ≤ 30000 ∧ -30000 ≤ x4.toInt ∧ x4.toInt ≤ 30000) (h9 : 0 ≤ t0_9.toInt) (hr : x4.toInt - x3.toInt ≤ 12000 - t0_9.toInt) (hr0 : t0_9.toInt ≤ 12000) : ∀ (n : Nat) (lx40 : Int32) (lx41 : Int32) (lx42 : Int32) (lx43 : Int32) (lx44 : Int64) (lx45 : Int32) (lx46 : Int32) (lx47 : Int32) (lx48 : Int32) (lx49 : Int32) (lx50 : Int32) (lx51 : Int32) (lx52 : (Nat → Int32)), (x3.toInt ≤ lx40.toInt ∧ lx40.toInt ≤ 30000 ∧ (lx40.toInt ≤ x4.toInt ∨ lx40.toInt = x3.toInt)) → (x4.toInt - lx40.toInt < (n : Int)) → ((1 : Int) ≤ n ∨ lx40.toInt ≤ x4.toInt) → (t0_9.toInt ≤ lx50.toInt ∧ ((lx50.toInt ≤ t0_9.toInt + (lx40.toInt - x3.toInt) ∧ lx40.toInt ≤ x5.toInt) ∨ (lx50.toInt ≤ t0_9.toInt + (lx40.toInt - x3.toInt) ∧ x5.toInt < x3.toInt) ∨ (lx50.toInt ≤ t0_9.toInt + (lx40.toInt - x3.toInt) + 1 ∧ x5.toInt < lx40.toInt))) → (S_DR_figures_L3 x2 x3 x4 x5 t0_0 t0_1 t0_2 t0_3 t0_4 t0_5 t0_6 t0_7 t0_8 t0_9 t0_10 t1_0 t2_0 t3_0 n lx40 lx41 lx42 lx43 lx44 lx45 lx46 lx47 lx48 lx49 lx50 lx51 lx52) ∧ Q_DR_figures x3 x4 t0_9 (F_DR_figures_L3 x2 x3 x4 x5 t0_0 t0_1 t0_2 t0_3 t0_4 t0_5 t0_6 t0_7 t0_8 t0_9 t0_10 t1_0 t2_0 t3_0 n lx40 lx41 lx42 lx43 lx44 lx45 lx46 lx47 lx48 lx49 lx50 lx51 lx52) := by
  intro n
  induction n with
  | zero => intro lx40 lx41 lx42 lx43 lx44 lx45 lx46 lx47 lx48 lx49 lx50 lx51 lx52 h0 hm hn hp; exact absurd (show False by omega) id
  | succ n ih =>
    intro lx40 lx41 lx42 lx43 lx44 lx45 lx46 lx47 lx48 lx49 lx50 lx51 lx52 h0 hm hn hp
    have e0 : (0 : Int32).toInt = 0 := rfl
    rw [S_DR_figures_L3.eq_2, F_DR_figures_L3.eq_2]
    by_cases g1 : x4 ≤ lx40
    ·
      rw [if_pos g1, if_pos g1]
      have g1i : x4.toInt ≤ lx40.toInt := q_leI g1
      refine ⟨trivial, ?_⟩
      (unfold Q_DR_figures; dsimp only; omega)
    ·
      rw [if_neg g1, if_neg g1]
      have g1i : lx40.toInt < x4.toInt := q_nleI g1
      by_cases g2 : lx40 = x5
      ·
        rw [if_pos g2, if_pos g2]
        have g2i : lx40.toInt = x5.toInt := q_eqI g2
        have h3 := R_print (x2 := (46 : Int32)) (t0_0 := lx41) (t0_1 := lx42) (t0_2 := lx43) (t0_3 := lx44) (t0_4 := lx45) (t0_5 := lx46) (t0_6 := lx47) (t0_7 := lx48) (t0_8 := lx49) (t0_9 := lx50) (t0_10 := lx51) (t1_0 := lx52) ⟨by first | omega | decide, by first | omega | decide⟩
        with_reducible refine v_owe h3.1 ?_
        replace h3 := h3.2
        generalize F_DR_print (46 : Int32) lx41 lx42 lx43 lx44 lx45 lx46 lx47 lx48 lx49 lx50 lx51 lx52 = p394 at *
        unfold S_DR_figures_c19 F_DR_figures_c19
        unfold S_DR_figures_J22 F_DR_figures_J22
        by_cases g4 : lx40 < (0 : Int32)
        ·
          rw [if_pos g4, if_pos g4]
          have g4i : lx40.toInt < 0 := q_ltI g4
          have h5 := R_print (x2 := (48 : Int32)) (t0_0 := (p394.1 : Int32)) (t0_1 := (p394.2.1 : Int32)) (t0_2 := (p394.2.2.1 : Int32)) (t0_3 := (p394.2.2.2.1 : Int64)) (t0_4 := (p394.2.2.2.2.1 : Int32)) (t0_5 := (p394.2.2.2.2.2.1 : Int32)) (t0_6 := (p394.2.2.2.2.2.2.1 : Int32)) (t0_7 := (p394.2.2.2.2.2.2.2.1 : Int32)) (t0_8 := (p394.2.2.2.2.2.2.2.2.1 : Int32)) (t0_9 := (p394.2.2.2.2.2.2.2.2.2.1 : Int32)) (t0_10 := (p394.2.2.2.2.2.2.2.2.2.2.1 : Int32)) (t1_0 := (p394.2.2.2.2.2.2.2.2.2.2.2 : (Nat → Int32))) ⟨by first | omega | decide, by first | omega | decide⟩
          with_reducible refine v_owe h5.1 ?_
          replace h5 := h5.2
          generalize F_DR_print (48 : Int32) (p394.1 : Int32) (p394.2.1 : Int32) (p394.2.2.1 : Int32) (p394.2.2.2.1 : Int64) (p394.2.2.2.2.1 : Int32) (p394.2.2.2.2.2.1 : Int32) (p394.2.2.2.2.2.2.1 : Int32) (p394.2.2.2.2.2.2.2.1 : Int32) (p394.2.2.2.2.2.2.2.2.1 : Int32) (p394.2.2.2.2.2.2.2.2.2.1 : Int32) (p394.2.2.2.2.2.2.2.2.2.2.1 : Int32) (p394.2.2.2.2.2.2.2.2.2.2.2 : (Nat → Int32)) = p180 at *
          unfold S_DR_figures_c59 F_DR_figures_c59
          obtain ⟨a6, e7⟩ := q_nm (lx40 + 1 : Int32)
          rw [e7]
          have a6i : a6.toInt = lx40.toInt + 1 := by rw [← e7]; exact q_addI (x := lx40.toInt) (y := 1) rfl (by decide) (by omega) (by omega)
          exact ih _ _ _ _ _ _ _ _ _ _ _ _ _ (by first | omega | decide) (by first | omega | decide) (by first | omega | decide) (by first | omega | decide)
        ·
          rw [if_neg g4, if_neg g4]
          have g4i : 0 ≤ lx40.toInt := q_nltI g4
          refine v_cons (by omega) ?_
          refine v_cons (by omega) ?_
          by_cases g8 : (t2_0 x2.toNatClampNeg : Int32) ≤ lx40
          ·
            rw [if_pos g8, if_pos g8]
            have g8i := q_leI g8
            have h9 := R_print (x2 := (48 : Int32)) (t0_0 := (p394.1 : Int32)) (t0_1 := (p394.2.1 : Int32)) (t0_2 := (p394.2.2.1 : Int32)) (t0_3 := (p394.2.2.2.1 : Int64)) (t0_4 := (p394.2.2.2.2.1 : Int32)) (t0_5 := (p394.2.2.2.2.2.1 : Int32)) (t0_6 := (p394.2.2.2.2.2.2.1 : Int32)) (t0_7 := (p394.2.2.2.2.2.2.2.1 : Int32)) (t0_8 := (p394.2.2.2.2.2.2.2.2.1 : Int32)) (t0_9 := (p394.2.2.2.2.2.2.2.2.2.1 : Int32)) (t0_10 := (p394.2.2.2.2.2.2.2.2.2.2.1 : Int32)) (t1_0 := (p394.2.2.2.2.2.2.2.2.2.2.2 : (Nat → Int32))) ⟨by first | omega | decide, by first | omega | decide⟩
            with_reducible refine v_owe h9.1 ?_
            replace h9 := h9.2
            generalize F_DR_print (48 : Int32) (p394.1 : Int32) (p394.2.1 : Int32) (p394.2.2.1 : Int32) (p394.2.2.2.1 : Int64) (p394.2.2.2.2.1 : Int32) (p394.2.2.2.2.2.1 : Int32) (p394.2.2.2.2.2.2.1 : Int32) (p394.2.2.2.2.2.2.2.1 : Int32) (p394.2.2.2.2.2.2.2.2.1 : Int32) (p394.2.2.2.2.2.2.2.2.2.1 : Int32) (p394.2.2.2.2.2.2.2.2.2.2.1 : Int32) (p394.2.2.2.2.2.2.2.2.2.2.2 : (Nat → Int32)) = p251 at *
            unfold S_DR_figures_c59_4 F_DR_figures_c59_4
            obtain ⟨a10, e11⟩ := q_nm (lx40 + 1 : Int32)
            rw [e11]
            have a10i : a10.toInt = lx40.toInt + 1 := by rw [← e11]; exact q_addI (x := lx40.toInt) (y := 1) rfl (by decide) (by omega) (by omega)
            exact ih _ _ _ _ _ _ _ _ _ _ _ _ _ (by first | omega | decide) (by first | omega | decide) (by first | omega | decide) (by first | omega | decide)
          ·
            rw [if_neg g8, if_neg g8]
            have g8i := q_nleI g8
            refine v_cons (by have := (g_ix (x := x2) (k := lx40) (by with_reducible assumption) ⟨by omega, by omega⟩).1; omega) ?_
            refine v_cons (by have := (g_ix (x := x2) (k := lx40) (by with_reducible assumption) ⟨by omega, by omega⟩).1; omega) ?_
            have h12 := R_print (x2 := (48 + (t1_0 ((1000 * x2 : Int32) + lx40 : Int32).toNatClampNeg : Int32) : Int32)) (t0_0 := (p394.1 : Int32)) (t0_1 := (p394.2.1 : Int32)) (t0_2 := (p394.2.2.1 : Int32)) (t0_3 := (p394.2.2.2.1 : Int64)) (t0_4 := (p394.2.2.2.2.1 : Int32)) (t0_5 := (p394.2.2.2.2.2.1 : Int32)) (t0_6 := (p394.2.2.2.2.2.2.1 : Int32)) (t0_7 := (p394.2.2.2.2.2.2.2.1 : Int32)) (t0_8 := (p394.2.2.2.2.2.2.2.2.1 : Int32)) (t0_9 := (p394.2.2.2.2.2.2.2.2.2.1 : Int32)) (t0_10 := (p394.2.2.2.2.2.2.2.2.2.2.1 : Int32)) (t1_0 := (p394.2.2.2.2.2.2.2.2.2.2.2 : (Nat → Int32))) ⟨by first | omega | decide, by first | omega | decide⟩
            with_reducible refine v_owe h12.1 ?_
            replace h12 := h12.2
            generalize F_DR_print (48 + (t1_0 ((1000 * x2 : Int32) + lx40 : Int32).toNatClampNeg : Int32) : Int32) (p394.1 : Int32) (p394.2.1 : Int32) (p394.2.2.1 : Int32) (p394.2.2.2.1 : Int64) (p394.2.2.2.2.1 : Int32) (p394.2.2.2.2.2.1 : Int32) (p394.2.2.2.2.2.2.1 : Int32) (p394.2.2.2.2.2.2.2.1 : Int32) (p394.2.2.2.2.2.2.2.2.1 : Int32) (p394.2.2.2.2.2.2.2.2.2.1 : Int32) (p394.2.2.2.2.2.2.2.2.2.2.1 : Int32) (p394.2.2.2.2.2.2.2.2.2.2.2 : (Nat → Int32)) = p327 at *
            unfold S_DR_figures_c59_5 F_DR_figures_c59_5
            obtain ⟨a13, e14⟩ := q_nm (lx40 + 1 : Int32)
            rw [e14]
            have a13i : a13.toInt = lx40.toInt + 1 := by rw [← e14]; exact q_addI (x := lx40.toInt) (y := 1) rfl (by decide) (by omega) (by omega)
            exact ih _ _ _ _ _ _ _ _ _ _ _ _ _ (by first | omega | decide) (by first | omega | decide) (by first | omega | decide) (by first | omega | decide)
      ·
        rw [if_neg g2, if_neg g2]
        have g2i : lx40.toInt ≠ x5.toInt := q_neI g2
        unfold S_DR_figures_J22 F_DR_figures_J22
        by_cases g15 : lx40 < (0 : Int32)
        ·
          rw [if_pos g15, if_pos g15]
          have g15i : lx40.toInt < 0 := q_ltI g15
          have h16 := R_print (x2 := (48 : Int32)) (t0_0 := lx41) (t0_1 := lx42) (t0_2 := lx43) (t0_3 := lx44) (t0_4 := lx45) (t0_5 := lx46) (t0_6 := lx47) (t0_7 := lx48) (t0_8 := lx49) (t0_9 := lx50) (t0_10 := lx51) (t1_0 := lx52) ⟨by first | omega | decide, by first | omega | decide⟩
          with_reducible refine v_owe h16.1 ?_
          replace h16 := h16.2
          generalize F_DR_print (48 : Int32) lx41 lx42 lx43 lx44 lx45 lx46 lx47 lx48 lx49 lx50 lx51 lx52 = p180 at *
          unfold S_DR_figures_c59 F_DR_figures_c59
          obtain ⟨a17, e18⟩ := q_nm (lx40 + 1 : Int32)
          rw [e18]
          have a17i : a17.toInt = lx40.toInt + 1 := by rw [← e18]; exact q_addI (x := lx40.toInt) (y := 1) rfl (by decide) (by omega) (by omega)
          exact ih _ _ _ _ _ _ _ _ _ _ _ _ _ (by first | omega | decide) (by first | omega | decide) (by first | omega | decide) (by first | omega | decide)
        ·
          rw [if_neg g15, if_neg g15]
          have g15i : 0 ≤ lx40.toInt := q_nltI g15
          refine v_cons (by omega) ?_
          refine v_cons (by omega) ?_
          by_cases g19 : (t2_0 x2.toNatClampNeg : Int32) ≤ lx40
          ·
            rw [if_pos g19, if_pos g19]
            have g19i := q_leI g19
            have h20 := R_print (x2 := (48 : Int32)) (t0_0 := lx41) (t0_1 := lx42) (t0_2 := lx43) (t0_3 := lx44) (t0_4 := lx45) (t0_5 := lx46) (t0_6 := lx47) (t0_7 := lx48) (t0_8 := lx49) (t0_9 := lx50) (t0_10 := lx51) (t1_0 := lx52) ⟨by first | omega | decide, by first | omega | decide⟩
            with_reducible refine v_owe h20.1 ?_
            replace h20 := h20.2
            generalize F_DR_print (48 : Int32) lx41 lx42 lx43 lx44 lx45 lx46 lx47 lx48 lx49 lx50 lx51 lx52 = p251 at *
            unfold S_DR_figures_c59_4 F_DR_figures_c59_4
            obtain ⟨a21, e22⟩ := q_nm (lx40 + 1 : Int32)
            rw [e22]
            have a21i : a21.toInt = lx40.toInt + 1 := by rw [← e22]; exact q_addI (x := lx40.toInt) (y := 1) rfl (by decide) (by omega) (by omega)
            exact ih _ _ _ _ _ _ _ _ _ _ _ _ _ (by first | omega | decide) (by first | omega | decide) (by first | omega | decide) (by first | omega | decide)
          ·
            rw [if_neg g19, if_neg g19]
            have g19i := q_nleI g19
            refine v_cons (by have := (g_ix (x := x2) (k := lx40) (by with_reducible assumption) ⟨by omega, by omega⟩).1; omega) ?_
            refine v_cons (by have := (g_ix (x := x2) (k := lx40) (by with_reducible assumption) ⟨by omega, by omega⟩).1; omega) ?_
            have h23 := R_print (x2 := (48 + (t1_0 ((1000 * x2 : Int32) + lx40 : Int32).toNatClampNeg : Int32) : Int32)) (t0_0 := lx41) (t0_1 := lx42) (t0_2 := lx43) (t0_3 := lx44) (t0_4 := lx45) (t0_5 := lx46) (t0_6 := lx47) (t0_7 := lx48) (t0_8 := lx49) (t0_9 := lx50) (t0_10 := lx51) (t1_0 := lx52) ⟨by first | omega | decide, by first | omega | decide⟩
            with_reducible refine v_owe h23.1 ?_
            replace h23 := h23.2
            generalize F_DR_print (48 + (t1_0 ((1000 * x2 : Int32) + lx40 : Int32).toNatClampNeg : Int32) : Int32) lx41 lx42 lx43 lx44 lx45 lx46 lx47 lx48 lx49 lx50 lx51 lx52 = p327 at *
            unfold S_DR_figures_c59_5 F_DR_figures_c59_5
            obtain ⟨a24, e25⟩ := q_nm (lx40 + 1 : Int32)
            rw [e25]
            have a24i : a24.toInt = lx40.toInt + 1 := by rw [← e25]; exact q_addI (x := lx40.toInt) (y := 1) rfl (by decide) (by omega) (by omega)
            exact ih _ _ _ _ _ _ _ _ _ _ _ _ _ (by first | omega | decide) (by first | omega | decide) (by first | omega | decide) (by first | omega | decide)
theorem T_DR_figures {x2 : Int32} {x3 : Int32} {x4 : Int32} {x5 : Int32} {t0_0 : Int32} {t0_1 : Int32} {t0_2 : Int32} {t0_3 : Int64} {t0_4 : Int32} {t0_5 : Int32} {t0_6 : Int32} {t0_7 : Int32} {t0_8 : Int32} {t0_9 : Int32} {t0_10 : Int32} {t1_0 : (Nat → Int32)} {t2_0 : (Nat → Int32)} {t3_0 : (Nat → Int32)} (hx : 0 ≤ x2.toInt ∧ x2.toInt ≤ 9) (hm1 : 1 ≤ (t2_0 x2.toNatClampNeg).toInt ∧ (t2_0 x2.toNatClampNeg).toInt ≤ 1000) (h34 : -30000 ≤ x3.toInt ∧ x3.toInt ≤ 30000 ∧ -30000 ≤ x4.toInt ∧ x4.toInt ≤ 30000) (h9 : 0 ≤ t0_9.toInt) (hr : x4.toInt - x3.toInt ≤ 12000 - t0_9.toInt) (hr0 : t0_9.toInt ≤ 12000) : (S_DR_figures x2 x3 x4 x5 t0_0 t0_1 t0_2 t0_3 t0_4 t0_5 t0_6 t0_7 t0_8 t0_9 t0_10 t1_0 t2_0 t3_0) ∧ Q_DR_figures x3 x4 t0_9 (F_DR_figures x2 x3 x4 x5 t0_0 t0_1 t0_2 t0_3 t0_4 t0_5 t0_6 t0_7 t0_8 t0_9 t0_10 t1_0 t2_0 t3_0) := by
  have e0 : (0 : Int32).toInt = 0 := rfl
  unfold S_DR_figures F_DR_figures
  exact v_fig hx hm1 h34 h9 hr hr0 _ _ _ _ _ _ _ _ _ _ _ _ _ _ (by omega) (by omega) (by omega) (by omega)
theorem g_d10 {v : Int32} (h : 0 ≤ v.toInt) : (v / 10).toInt = v.toInt / 10 := g_q10 h
def Q_DR_exponent (t0_9 : Int32) (p : Int32 × Int32 × Int32 × Int64 × Int32 × Int32 × Int32 × Int32 × Int32 × Int32 × Int32 × (Nat → Int32)) : Prop := t0_9.toInt ≤ p.2.2.2.2.2.2.2.2.2.1.toInt ∧ p.2.2.2.2.2.2.2.2.2.1.toInt ≤ t0_9.toInt + 9
theorem v_exp2 {K_F_DR_exponent_L34 : Int32 → (Int32 × Int32 × Int32 × Int64 × Int32 × Int32 × Int32 × Int32 × Int32 × Int32 × Int32 × (Nat → Int32))} {x2 : Int32} {t0_0 : Int32} {t0_1 : Int32} {t0_2 : Int32} {t0_3 : Int64} {t0_4 : Int32} {t0_5 : Int32} {t0_6 : Int32} {t0_7 : Int32} {t0_8 : Int32} {t0_9 : Int32} {t0_10 : Int32} {t1_0 : (Nat → Int32)} {p62 : (Int32 × Int32 × Int32 × Int64 × Int32 × Int32 × Int32 × Int32 × Int32 × Int32 × Int32 × (Nat → Int32))} {y24 : Int32} {y25 : Int32} {y26 : Int32} {y27 : Int64} {y28 : Int32} {y29 : Int32} {y30 : Int32} {y31 : Int32} {y32 : Int32} {y33 : Int32} {y34 : Int32} {f35 : (Nat → Int32)} {lx81 : Int32} {p134 : (Int32 × Int32 × Int32 × Int64 × Int32 × Int32 × Int32 × Int32 × Int32 × Int32 × Int32 × (Nat → Int32))} {y96 : Int32} {y97 : Int32} {y98 : Int32} {y99 : Int64} {y100 : Int32} {y101 : Int32} {y102 : Int32} {y103 : Int32} {y104 : Int32} {y105 : Int32} {y106 : Int32} {f107 : (Nat → Int32)} {lx153 : Int32} {lx163 : Int32} {K_S_DR_exponent_L34 : Int32 → Prop} (h9 : 0 ≤ t0_9.toInt ∧ t0_9.toInt ≤ 12100) (h153 : 0 ≤ lx153.toInt ∧ lx153.toInt ≤ 50000) : ∀ (n : Nat) (lx176 : Int32) (lx177 : Int32) (lx178 : Int32) (lx179 : Int32) (lx180 : Int64) (lx181 : Int32) (lx182 : Int32) (lx183 : Int32) (lx184 : Int32) (lx185 : Int32) (lx186 : Int32) (lx187 : Int32) (lx188 : (Nat → Int32)), (0 ≤ lx176.toInt ∧ lx176.toInt ≤ 100000) → (lx176.toInt < (n : Int)) → (t0_9.toInt ≤ lx186.toInt ∧ ((lx176.toInt < 1 ∧ lx186.toInt ≤ t0_9.toInt + 8) ∨ (lx176.toInt < 10 ∧ lx186.toInt ≤ t0_9.toInt + 7) ∨ (lx176.toInt < 100 ∧ lx186.toInt ≤ t0_9.toInt + 6) ∨ (lx176.toInt < 1000 ∧ lx186.toInt ≤ t0_9.toInt + 5) ∨ (lx176.toInt < 10000 ∧ lx186.toInt ≤ t0_9.toInt + 4) ∨ (lx176.toInt < 100000 ∧ lx186.toInt ≤ t0_9.toInt + 3))) → (S_DR_exponent_L50 K_S_DR_exponent_L34 x2 t0_0 t0_1 t0_2 t0_3 t0_4 t0_5 t0_6 t0_7 t0_8 t0_9 t0_10 t1_0 p62 y24 y25 y26 y27 y28 y29 y30 y31 y32 y33 y34 f35 lx81 p134 y96 y97 y98 y99 y100 y101 y102 y103 y104 y105 y106 f107 lx153 lx163 n lx176 lx177 lx178 lx179 lx180 lx181 lx182 lx183 lx184 lx185 lx186 lx187 lx188) ∧ Q_DR_exponent t0_9 (F_DR_exponent_L50 K_F_DR_exponent_L34 x2 t0_0 t0_1 t0_2 t0_3 t0_4 t0_5 t0_6 t0_7 t0_8 t0_9 t0_10 t1_0 p62 y24 y25 y26 y27 y28 y29 y30 y31 y32 y33 y34 f35 lx81 p134 y96 y97 y98 y99 y100 y101 y102 y103 y104 y105 y106 f107 lx153 lx163 n lx176 lx177 lx178 lx179 lx180 lx181 lx182 lx183 lx184 lx185 lx186 lx187 lx188) := by
  intro n
  induction n with
  | zero => intro lx176 lx177 lx178 lx179 lx180 lx181 lx182 lx183 lx184 lx185 lx186 lx187 lx188 h0 hm hp; exact absurd (show False by omega) id
  | succ n ih =>
    intro lx176 lx177 lx178 lx179 lx180 lx181 lx182 lx183 lx184 lx185 lx186 lx187 lx188 h0 hm hp
    have e0 : (0 : Int32).toInt = 0 := rfl
    rw [S_DR_exponent_L50.eq_2, F_DR_exponent_L50.eq_2]
    by_cases g1 : lx176 ≤ (0 : Int32)
    ·
      rw [if_pos g1, if_pos g1]
      have g1i : lx176.toInt ≤ 0 := q_leI g1
      refine ⟨trivial, ?_⟩
      (unfold Q_DR_exponent; dsimp only; omega)
    ·
      rw [if_neg g1, if_neg g1]
      have g1i : 0 < lx176.toInt := q_nleI g1
      have h2 := R_print (x2 := (48 + ((lx153 / lx176 : Int32) - (lx153 / lx176 : Int32) / 10 * 10 : Int32) : Int32)) (t0_0 := lx177) (t0_1 := lx178) (t0_2 := lx179) (t0_3 := lx180) (t0_4 := lx181) (t0_5 := lx182) (t0_6 := lx183) (t0_7 := lx184) (t0_8 := lx185) (t0_9 := lx186) (t0_10 := lx187) (t1_0 := lx188) ⟨by first | omega | decide, by first | omega | decide⟩
      with_reducible refine v_owe h2.1 ?_
      replace h2 := h2.2
      generalize F_DR_print (48 + ((lx153 / lx176 : Int32) - (lx153 / lx176 : Int32) / 10 * 10 : Int32) : Int32) lx177 lx178 lx179 lx180 lx181 lx182 lx183 lx184 lx185 lx186 lx187 lx188 = p280 at *
      unfold S_DR_exponent_c64 F_DR_exponent_c64
      have e9 := g_d10 (v := lx176) (by omega); exact ih _ _ _ _ _ _ _ _ _ _ _ _ _ (by omega) (by omega) (by omega)

