/-! DecimalRows: figure, add -/
theorem R_fig {x2 : Int32} {x3 : Int64} {x4 : Int32} {t0_0 : Int32} {t0_1 : Int32} {t0_2 : Int32} {t0_3 : Int64} {t0_4 : Int32} {t0_5 : Int32} {t0_6 : Int32} {t0_7 : Int32} {t0_8 : Int32} {t0_9 : Int32} {t0_10 : Int32} {t1_0 : (Nat → Int32)} {t2_0 : (Nat → Int32)} {t3_0 : (Nat → Int32)} (hx : 0 ≤ x2.toInt ∧ x2.toInt ≤ 9) (hk : gO t1_0 10000) (hm : 1 ≤ (t2_0 x2.toNatClampNeg).toInt ∧ (t2_0 x2.toNatClampNeg).toInt ≤ 1000) (hc : -10000 ≤ (t3_0 x2.toNatClampNeg).toInt ∧ (t3_0 x2.toNatClampNeg).toInt ≤ 10000) (h3 : -10000 ≤ x3.toInt ∧ x3.toInt ≤ 10000) (h4 : 0 ≤ x4.toInt ∧ x4.toInt ≤ 30000) : S_DR_figure x2 x3 x4 t0_0 t0_1 t0_2 t0_3 t0_4 t0_5 t0_6 t0_7 t0_8 t0_9 t0_10 t1_0 t2_0 t3_0 ∧ (0 ≤ (F_DR_figure x2 x3 x4 t0_0 t0_1 t0_2 t0_3 t0_4 t0_5 t0_6 t0_7 t0_8 t0_9 t0_10 t1_0 t2_0 t3_0).toInt ∧ (F_DR_figure x2 x3 x4 t0_0 t0_1 t0_2 t0_3 t0_4 t0_5 t0_6 t0_7 t0_8 t0_9 t0_10 t1_0 t2_0 t3_0).toInt ≤ 9) := by
  unfold S_DR_figure F_DR_figure
  generalize t2_0 x2.toNatClampNeg = m at hm ⊢
  generalize t3_0 x2.toNatClampNeg = c at hc ⊢
  have e1 : (m.toInt64 - 1 : Int64).toInt = m.toInt - 1 := q_subL (y := 1) (q_i2l rfl) (by decide) (by omega) (by omega)
  have e2 : (m.toInt64 - 1 - x4.toInt64 : Int64).toInt = (m.toInt - 1) - x4.toInt := q_subL e1 (q_i2l rfl) (by omega) (by omega)
  have e3 : (x3 - c.toInt64 : Int64).toInt = x3.toInt - c.toInt := q_subL rfl (q_i2l rfl) (by omega) (by omega)
  have e4 : (m.toInt64 - 1 - x4.toInt64 + (x3 - c.toInt64) : Int64).toInt = ((m.toInt - 1) - x4.toInt) + (x3.toInt - c.toInt) := q_addL e2 e3 (by omega) (by omega)
  generalize (m.toInt64 - 1 - x4.toInt64 + (x3 - c.toInt64) : Int64) = p at e4 ⊢
  have em : m.toInt64.toInt = m.toInt := q_i2l rfl
  have eL0 : (0 : Int64).toInt = 0 := rfl
  refine v_cons (by omega) (v_cons (by omega) ?_)
  by_cases g1 : lg_cmp p 0 < 0
  · rw [if_pos g1, if_pos g1]
    exact ⟨trivial, by decide, by decide⟩
  · rw [if_neg g1, if_neg g1]
    have l1 := g_lc2 g1
    by_cases g2 : lg_cmp p m.toInt64 < 0
    · rw [if_pos g2, if_pos g2]
      have l2 := g_lc1 g2
      have e5 : p.toInt32.toInt = p.toInt := s_l2i (by omega) (by omega)
      have i1 := (g_ix (x := x2) (k := p.toInt32) hx ⟨by omega, by omega⟩).1
      exact ⟨⟨by omega, by omega, trivial⟩, g_kx hk hx (by omega) (by omega)⟩
    · rw [if_neg g2, if_neg g2]
      exact ⟨trivial, by decide, by decide⟩
theorem g_adV {a b c : Int32} (ha : 0 ≤ a.toInt ∧ a.toInt ≤ 9) (hb : -9 ≤ b.toInt ∧ b.toInt ≤ 9) (hc : -1 ≤ c.toInt ∧ c.toInt ≤ 1) : (a + b + c : Int32).toInt = a.toInt + b.toInt + c.toInt ∧ (a + b + c + 10 : Int32).toInt = a.toInt + b.toInt + c.toInt + 10 := by
  have e1 : (a + b : Int32).toInt = a.toInt + b.toInt := q_addI rfl rfl (by omega) (by omega)
  have e2 : (a + b + c : Int32).toInt = a.toInt + b.toInt + c.toInt := q_addI e1 rfl (by omega) (by omega)
  exact ⟨e2, q_addI (y := 10) e2 (by decide) (by omega) (by omega)⟩
theorem g_adD {a b c : Int32} (ha : 0 ≤ a.toInt ∧ a.toInt ≤ 9) (hb : -9 ≤ b.toInt ∧ b.toInt ≤ 9) (hc : -1 ≤ c.toInt ∧ c.toInt ≤ 1) : 0 ≤ (a + b + c + 10 - (a + b + c + 10) / 10 * 10 : Int32).toInt ∧ (a + b + c + 10 - (a + b + c + 10) / 10 * 10 : Int32).toInt ≤ 9 := by
  have h := (g_adV ha hb hc).2
  exact g_m10 (by omega)
theorem g_adC {a b c : Int32} (ha : 0 ≤ a.toInt ∧ a.toInt ≤ 9) (hb : -9 ≤ b.toInt ∧ b.toInt ≤ 9) (hc : -1 ≤ c.toInt ∧ c.toInt ≤ 1) (h0 : (0 : Int32) ≤ a + b + c) : -1 ≤ ((a + b + c) / 10 : Int32).toInt ∧ ((a + b + c) / 10 : Int32).toInt ≤ 1 := by
  have h := (g_adV ha hb hc).1
  have h1 := q_leI h0
  have e0 : (0 : Int32).toInt = 0 := rfl
  rw [g_q10 (by omega)]
  omega
theorem g_adU {f : Nat → Int32} {n k k1 j c : Int32} (h1 : k1.toInt = k.toInt + 1) (hk : 0 ≤ k.toInt) (hj : j.toInt = n.toInt - 1 - k.toInt) (hn : k.toInt < n.toInt) (ho : ∀ i : Nat, n.toInt - k.toInt ≤ i → (i : Int) < n.toInt → 0 ≤ (f i).toInt ∧ (f i).toInt ≤ 9) (hc : 0 ≤ c.toInt ∧ c.toInt ≤ 9) : ∀ i : Nat, n.toInt - k1.toInt ≤ i → (i : Int) < n.toInt → 0 ≤ (upd f j.toNatClampNeg c i).toInt ∧ (upd f j.toNatClampNeg c i).toInt ≤ 9 := fun i hi hl => by
  have e := q_clI (i := j) rfl (by omega)
  by_cases d : i = j.toNatClampNeg
  · rw [d, v_eq]; exact hc
  · rw [v_ne d]; exact ho i (by omega) hl
theorem g_adN {x : Int32} (h : 0 ≤ x.toInt ∧ x.toInt ≤ 9) : -9 ≤ (-x : Int32).toInt ∧ (-x : Int32).toInt ≤ 9 := by
  have e := q_negI (a := x) rfl (by omega)
  omega
def Q_DR_add (p : Int32 × Int32 × Int32 × Int64 × Int32 × Int32 × Int32 × Int32 × Int32 × Int32 × Int32 × (Nat → Int32) × (Nat → Int32) × (Nat → Int32) × (Nat → Int32) × (Nat → Int32)) : Prop := gR p.2.2.2.2.2.2.2.2.2.2.2.1 p.2.2.2.2.2.2.2.2.2.2.2.2.1 p.2.2.2.2.2.2.2.2.2.2.2.2.2.1 p.2.2.2.2.2.2.2.2.2.2.2.2.2.2.1
theorem v_add {x2 : Int32} {x3 : Int32} {x4 : Int32} {x5 : Int32} {t0_0 : Int32} {t0_1 : Int32} {t0_2 : Int32} {t0_3 : Int64} {t0_4 : Int32} {t0_5 : Int32} {t0_6 : Int32} {t0_7 : Int32} {t0_8 : Int32} {t0_9 : Int32} {t0_10 : Int32} {t1_0 : (Nat → Int32)} {t2_0 : (Nat → Int32)} {t3_0 : (Nat → Int32)} {t4_0 : (Nat → Int32)} {t5_0 : (Nat → Int32)} {lx39 : Int32} {lx68 : Int64} {lx91 : Int64} {lx114 : Int64} {lx150 : Int32} {lx173 : Int32} {lx188 : Int32} {lx203 : Int32} {lx218 : Int32} {lx236 : Int64} {a254 : Int32} (hR : gR t1_0 t2_0 t3_0 t4_0)(hx2 : 0 ≤ x2.toInt ∧ x2.toInt ≤ 9) (hx3 : 0 ≤ x3.toInt ∧ x3.toInt ≤ 9) (hx4 : 0 ≤ x4.toInt ∧ x4.toInt ≤ 9) (hxa : 0 ≤ lx203.toInt ∧ lx203.toInt ≤ 9) (hxb : 0 ≤ lx218.toInt ∧ lx218.toInt ≤ 9) (h68 : -10000 ≤ lx68.toInt ∧ lx68.toInt ≤ 10000) (h254 : 1 ≤ a254.toInt ∧ a254.toInt ≤ 1002) : ∀ (n : Nat) (lx258 : Int32) (lx259 : Int32) (lx260 : (Nat → Int32)), (0 ≤ lx258.toInt ∧ lx258.toInt ≤ a254.toInt) → (a254.toInt - lx258.toInt < (n : Int)) → (-1 ≤ lx259.toInt ∧ lx259.toInt ≤ 1) → (∀ i : Nat, a254.toInt - lx258.toInt ≤ i → (i : Int) < a254.toInt → 0 ≤ (lx260 i).toInt ∧ (lx260 i).toInt ≤ 9) → (S_DR_add_L296 x2 x3 x4 x5 t0_0 t0_1 t0_2 t0_3 t0_4 t0_5 t0_6 t0_7 t0_8 t0_9 t0_10 t1_0 t2_0 t3_0 t4_0 t5_0 lx39 lx68 lx91 lx114 lx150 lx173 lx188 lx203 lx218 lx236 a254 n lx258 lx259 lx260) ∧ Q_DR_add (F_DR_add_L296 x2 x3 x4 x5 t0_0 t0_1 t0_2 t0_3 t0_4 t0_5 t0_6 t0_7 t0_8 t0_9 t0_10 t1_0 t2_0 t3_0 t4_0 t5_0 lx39 lx68 lx91 lx114 lx150 lx173 lx188 lx203 lx218 lx236 a254 n lx258 lx259 lx260) := by
  intro n
  induction n with
  | zero => intro lx258 lx259 lx260 h0 hm hc ho; exact absurd (show False by omega) id
  | succ n ih =>
    intro lx258 lx259 lx260 h0 hm hc ho
    have e0 : (0 : Int32).toInt = 0 := rfl
    have eL0 : (0 : Int64).toInt = 0 := rfl
    have eL1 : (10000 : Int64).toInt = 10000 := rfl
    have eL2 : (-10000 : Int64).toInt = -10000 := rfl
    have eL3 : (1000 : Int64).toInt = 1000 := rfl
    have eL4 : (-1 : Int64).toInt = -1 := rfl
    have eI3 : (1000 : Int32).toInt = 1000 := rfl
    rw [S_DR_add_L296.eq_2, F_DR_add_L296.eq_2]
    by_cases g1 : a254 ≤ lx258
    ·
      rw [if_pos g1, if_pos g1]
      have g1i : a254.toInt ≤ lx258.toInt := q_leI g1
      have h2 := R_dz (x2 := x2) (t0_0 := lx39) (t0_1 := t0_1) (t0_2 := a254) (t0_3 := lx68) (t0_4 := (0 : Int32)) (t0_5 := t0_5) (t0_6 := t0_6) (t0_7 := t0_7) (t0_8 := t0_8) (t0_9 := t0_9) (t0_10 := (2 : Int32)) (t1_0 := t1_0) (by with_reducible assumption)
      with_reducible refine v_owe h2.1 ?_
      by_cases g3 : ((F_DR_isZero x2 lx39 t0_1 a254 lx68 (0 : Int32) t0_5 t0_6 t0_7 t0_8 t0_9 (2 : Int32) t1_0) : Int32) = (0 : Int32)
      ·
        rw [if_pos g3, if_pos g3]
        have h4 := R_dz (x2 := x3) (t0_0 := lx39) (t0_1 := t0_1) (t0_2 := a254) (t0_3 := lx68) (t0_4 := (0 : Int32)) (t0_5 := t0_5) (t0_6 := t0_6) (t0_7 := t0_7) (t0_8 := t0_8) (t0_9 := t0_9) (t0_10 := (2 : Int32)) (t1_0 := t1_0) (by with_reducible assumption)
        with_reducible refine v_owe h4.1 ?_
        by_cases g5 : ((F_DR_isZero x3 lx39 t0_1 a254 lx68 (0 : Int32) t0_5 t0_6 t0_7 t0_8 t0_9 (2 : Int32) t1_0) : Int32) = (0 : Int32)
        ·
          rw [if_pos g5, if_pos g5]
          by_cases g6 : lx188 = (0 : Int32)
          ·
            rw [if_pos g6, if_pos g6]
            refine v_cons (by have := (gR.at hR (by with_reducible assumption : 0 ≤ x2.toInt ∧ x2.toInt ≤ 9)).2.1; omega) ?_
            refine v_cons (by have := (gR.at hR (by with_reducible assumption : 0 ≤ x2.toInt ∧ x2.toInt ≤ 9)).2.1; omega) ?_
            have h7 := T_DR_store (x2 := x4) (t0_0 := lx39) (t0_1 := t0_1) (t0_2 := a254) (t0_3 := lx68) (t0_4 := (0 : Int32)) (t0_5 := (t3_0 x2.toNatClampNeg : Int32)) (t0_6 := t0_6) (t0_7 := t0_7) (t0_8 := t0_8) (t0_9 := t0_9) (t0_10 := (2 : Int32)) (t1_0 := t1_0) (t2_0 := t2_0) (t3_0 := t3_0) (t4_0 := t4_0) (t5_0 := lx260) (by with_reducible assumption) (by with_reducible assumption) ⟨by omega, by omega⟩ (fun i hi => ho i (by have e7 := q_clI (i := a254) rfl (by omega); omega) (by have e7 := q_clI (i := a254) rfl (by omega); omega))
            with_reducible refine v_owe h7.1 ?_
            replace h7 := h7.2
            generalize F_DR_store x4 lx39 t0_1 a254 lx68 (0 : Int32) (t3_0 x2.toNatClampNeg : Int32) t0_6 t0_7 t0_8 t0_9 (2 : Int32) t1_0 t2_0 t3_0 t4_0 lx260 = p362 at *
            unfold Q_DR_store at h7
            unfold S_DR_add_c459 F_DR_add_c459
            refine ⟨trivial, ?_⟩
            (unfold Q_DR_add; dsimp only; with_reducible assumption)
          ·
            rw [if_neg g6, if_neg g6]
            have h8 := T_DR_store (x2 := x4) (t0_0 := lx39) (t0_1 := t0_1) (t0_2 := a254) (t0_3 := lx68) (t0_4 := (0 : Int32)) (t0_5 := lx150) (t0_6 := t0_6) (t0_7 := t0_7) (t0_8 := t0_8) (t0_9 := t0_9) (t0_10 := (2 : Int32)) (t1_0 := t1_0) (t2_0 := t2_0) (t3_0 := t3_0) (t4_0 := t4_0) (t5_0 := lx260) (by with_reducible assumption) (by with_reducible assumption) ⟨by omega, by omega⟩ (fun i hi => ho i (by have e7 := q_clI (i := a254) rfl (by omega); omega) (by have e7 := q_clI (i := a254) rfl (by omega); omega))
            with_reducible refine v_owe h8.1 ?_
            replace h8 := h8.2
            generalize F_DR_store x4 lx39 t0_1 a254 lx68 (0 : Int32) lx150 t0_6 t0_7 t0_8 t0_9 (2 : Int32) t1_0 t2_0 t3_0 t4_0 lx260 = p437 at *
            unfold Q_DR_store at h8
            unfold S_DR_add_c459_13 F_DR_add_c459_13
            refine ⟨trivial, ?_⟩
            (unfold Q_DR_add; dsimp only; with_reducible assumption)
        ·
          rw [if_neg g5, if_neg g5]
          refine v_cons (by have := (gR.at hR (by with_reducible assumption : 0 ≤ x2.toInt ∧ x2.toInt ≤ 9)).2.1; omega) ?_
          refine v_cons (by have := (gR.at hR (by with_reducible assumption : 0 ≤ x2.toInt ∧ x2.toInt ≤ 9)).2.1; omega) ?_
          have h9 := T_DR_store (x2 := x4) (t0_0 := lx39) (t0_1 := t0_1) (t0_2 := a254) (t0_3 := lx68) (t0_4 := (0 : Int32)) (t0_5 := (t3_0 x2.toNatClampNeg : Int32)) (t0_6 := t0_6) (t0_7 := t0_7) (t0_8 := t0_8) (t0_9 := t0_9) (t0_10 := (2 : Int32)) (t1_0 := t1_0) (t2_0 := t2_0) (t3_0 := t3_0) (t4_0 := t4_0) (t5_0 := lx260) (by with_reducible assumption) (by with_reducible assumption) ⟨by omega, by omega⟩ (fun i hi => ho i (by have e7 := q_clI (i := a254) rfl (by omega); omega) (by have e7 := q_clI (i := a254) rfl (by omega); omega))
          with_reducible refine v_owe h9.1 ?_
          replace h9 := h9.2
          generalize F_DR_store x4 lx39 t0_1 a254 lx68 (0 : Int32) (t3_0 x2.toNatClampNeg : Int32) t0_6 t0_7 t0_8 t0_9 (2 : Int32) t1_0 t2_0 t3_0 t4_0 lx260 = p516 at *
          unfold Q_DR_store at h9
          unfold S_DR_add_c459_14 F_DR_add_c459_14
          refine ⟨trivial, ?_⟩
          (unfold Q_DR_add; dsimp only; with_reducible assumption)
      ·
        rw [if_neg g3, if_neg g3]
        have h10 := T_DR_store (x2 := x4) (t0_0 := lx39) (t0_1 := t0_1) (t0_2 := a254) (t0_3 := lx68) (t0_4 := (0 : Int32)) (t0_5 := lx150) (t0_6 := t0_6) (t0_7 := t0_7) (t0_8 := t0_8) (t0_9 := t0_9) (t0_10 := (2 : Int32)) (t1_0 := t1_0) (t2_0 := t2_0) (t3_0 := t3_0) (t4_0 := t4_0) (t5_0 := lx260) (by with_reducible assumption) (by with_reducible assumption) ⟨by omega, by omega⟩ (fun i hi => ho i (by have e7 := q_clI (i := a254) rfl (by omega); omega) (by have e7 := q_clI (i := a254) rfl (by omega); omega))
        with_reducible refine v_owe h10.1 ?_
        replace h10 := h10.2
        generalize F_DR_store x4 lx39 t0_1 a254 lx68 (0 : Int32) lx150 t0_6 t0_7 t0_8 t0_9 (2 : Int32) t1_0 t2_0 t3_0 t4_0 lx260 = p591 at *
        unfold Q_DR_store at h10
        unfold S_DR_add_c459_15 F_DR_add_c459_15
        refine ⟨trivial, ?_⟩
        (unfold Q_DR_add; dsimp only; with_reducible assumption)
    ·
      rw [if_neg g1, if_neg g1]
      have g1i : lx258.toInt < a254.toInt := q_nleI g1
      have h11 := R_fig (x2 := lx203) (x3 := lx68) (x4 := lx258) (t0_0 := lx39) (t0_1 := t0_1) (t0_2 := t0_2) (t0_3 := t0_3) (t0_4 := t0_4) (t0_5 := t0_5) (t0_6 := t0_6) (t0_7 := t0_7) (t0_8 := t0_8) (t0_9 := t0_9) (t0_10 := (2 : Int32)) (t1_0 := t1_0) (t2_0 := t2_0) (t3_0 := t4_0) (by with_reducible assumption) hR.1 (gR.at hR (by with_reducible assumption)).1 (gR.at hR (by with_reducible assumption)).2.2 h68 ⟨by omega, by omega⟩
      have h11b := h11.2
      with_reducible refine v_owe h11.1 ?_
      by_cases g12 : lx173 = (0 : Int32)
      ·
        rw [if_pos g12, if_pos g12]
        have h13 := R_fig (x2 := lx218) (x3 := lx68) (x4 := lx258) (t0_0 := lx39) (t0_1 := t0_1) (t0_2 := t0_2) (t0_3 := t0_3) (t0_4 := t0_4) (t0_5 := t0_5) (t0_6 := t0_6) (t0_7 := t0_7) (t0_8 := t0_8) (t0_9 := t0_9) (t0_10 := (2 : Int32)) (t1_0 := t1_0) (t2_0 := t2_0) (t3_0 := t4_0) (by with_reducible assumption) hR.1 (gR.at hR (by with_reducible assumption)).1 (gR.at hR (by with_reducible assumption)).2.2 h68 ⟨by omega, by omega⟩
        have h13b := h13.2
        with_reducible refine v_owe h13.1 ?_
        unfold S_DR_add_J342 F_DR_add_J342
        obtain ⟨a14, e15⟩ := q_nm (a254 - 1 : Int32)
        rw [e15]
        have a14i : a14.toInt = a254.toInt - 1 := by rw [← e15]; exact q_subI (x := a254.toInt) (y := 1) rfl (by decide) (by omega) (by omega)
        obtain ⟨a16, e17⟩ := q_nm (a14 - lx258 : Int32)
        rw [e17]
        have a16i : a16.toInt = a14.toInt - lx258.toInt := by rw [← e17]; exact q_subI (x := a14.toInt) (y := lx258.toInt) rfl rfl (by omega) (by omega)
        refine v_cons (by omega) ?_
        by_cases g18 : (0 : Int32) ≤ ((((F_DR_figure lx203 lx68 lx258 lx39 t0_1 t0_2 t0_3 t0_4 t0_5 t0_6 t0_7 t0_8 t0_9 (2 : Int32) t1_0 t2_0 t4_0) : Int32) + (-((F_DR_figure lx218 lx68 lx258 lx39 t0_1 t0_2 t0_3 t0_4 t0_5 t0_6 t0_7 t0_8 t0_9 (2 : Int32) t1_0 t2_0 t4_0) : Int32) : Int32) : Int32) + lx259 : Int32)
        ·
          rw [if_pos g18, if_pos g18]
          obtain ⟨a19, e20⟩ := q_nm (lx258 + 1 : Int32)
          rw [e20]
          have a19i : a19.toInt = lx258.toInt + 1 := by rw [← e20]; exact q_addI (x := lx258.toInt) (y := 1) rfl (by decide) (by omega) (by omega)
          exact ih _ _ _ ⟨by omega, by omega⟩ (by omega) (g_adC (by with_reducible assumption) (g_adN (by with_reducible assumption)) hc (by with_reducible assumption)) (g_adU a19i (by omega) (by omega) (by omega) ho (g_adD (by with_reducible assumption) (g_adN (by with_reducible assumption)) hc))
        ·
          rw [if_neg g18, if_neg g18]
          obtain ⟨a21, e22⟩ := q_nm (lx258 + 1 : Int32)
          rw [e22]
          have a21i : a21.toInt = lx258.toInt + 1 := by rw [← e22]; exact q_addI (x := lx258.toInt) (y := 1) rfl (by decide) (by omega) (by omega)
          exact ih _ _ _ ⟨by omega, by omega⟩ (by omega) (by decide) (g_adU a21i (by omega) (by omega) (by omega) ho (g_adD (by with_reducible assumption) (g_adN (by with_reducible assumption)) hc))
      ·
        rw [if_neg g12, if_neg g12]
        have h23 := R_fig (x2 := lx218) (x3 := lx68) (x4 := lx258) (t0_0 := lx39) (t0_1 := t0_1) (t0_2 := t0_2) (t0_3 := t0_3) (t0_4 := t0_4) (t0_5 := t0_5) (t0_6 := t0_6) (t0_7 := t0_7) (t0_8 := t0_8) (t0_9 := t0_9) (t0_10 := (2 : Int32)) (t1_0 := t1_0) (t2_0 := t2_0) (t3_0 := t4_0) (by with_reducible assumption) hR.1 (gR.at hR (by with_reducible assumption)).1 (gR.at hR (by with_reducible assumption)).2.2 h68 ⟨by omega, by omega⟩
        have h23b := h23.2
        with_reducible refine v_owe h23.1 ?_
        unfold S_DR_add_J342 F_DR_add_J342
        obtain ⟨a24, e25⟩ := q_nm (a254 - 1 : Int32)
        rw [e25]
        have a24i : a24.toInt = a254.toInt - 1 := by rw [← e25]; exact q_subI (x := a254.toInt) (y := 1) rfl (by decide) (by omega) (by omega)
        obtain ⟨a26, e27⟩ := q_nm (a24 - lx258 : Int32)
        rw [e27]
        have a26i : a26.toInt = a24.toInt - lx258.toInt := by rw [← e27]; exact q_subI (x := a24.toInt) (y := lx258.toInt) rfl rfl (by omega) (by omega)
        refine v_cons (by omega) ?_
        by_cases g28 : (0 : Int32) ≤ ((((F_DR_figure lx203 lx68 lx258 lx39 t0_1 t0_2 t0_3 t0_4 t0_5 t0_6 t0_7 t0_8 t0_9 (2 : Int32) t1_0 t2_0 t4_0) : Int32) + ((F_DR_figure lx218 lx68 lx258 lx39 t0_1 t0_2 t0_3 t0_4 t0_5 t0_6 t0_7 t0_8 t0_9 (2 : Int32) t1_0 t2_0 t4_0) : Int32) : Int32) + lx259 : Int32)
        ·
          rw [if_pos g28, if_pos g28]
          obtain ⟨a29, e30⟩ := q_nm (lx258 + 1 : Int32)
          rw [e30]
          have a29i : a29.toInt = lx258.toInt + 1 := by rw [← e30]; exact q_addI (x := lx258.toInt) (y := 1) rfl (by decide) (by omega) (by omega)
          exact ih _ _ _ ⟨by omega, by omega⟩ (by omega) (g_adC (by with_reducible assumption) ⟨by omega, by omega⟩ hc (by with_reducible assumption)) (g_adU a29i (by omega) (by omega) (by omega) ho (g_adD (by with_reducible assumption) ⟨by omega, by omega⟩ hc))
        ·
          rw [if_neg g28, if_neg g28]
          obtain ⟨a31, e32⟩ := q_nm (lx258 + 1 : Int32)
          rw [e32]
          have a31i : a31.toInt = lx258.toInt + 1 := by rw [← e32]; exact q_addI (x := lx258.toInt) (y := 1) rfl (by decide) (by omega) (by omega)
          exact ih _ _ _ ⟨by omega, by omega⟩ (by omega) (by decide) (g_adU a31i (by omega) (by omega) (by omega) ho (g_adD (by with_reducible assumption) ⟨by omega, by omega⟩ hc))
theorem g_lc7 {a b : Int64} (h : 0 < lg_cmp a b) : b.toInt < a.toInt := by
  have h1 := q_ltI h
  have h2 := s_lcmp (a := a) (b := b)
  have e0 : (0 : Int32).toInt = 0 := rfl
  omega
theorem g_lc8 {a b : Int64} (h : ¬ 0 < lg_cmp a b) : a.toInt ≤ b.toInt := by
  have h1 := q_nltI h
  have h2 := s_lcmp (a := a) (b := b)
  have e0 : (0 : Int32).toInt = 0 := rfl
  omega
theorem g_ad1 {m c : Int32} {s : Int64} (hm : 1 ≤ m.toInt ∧ m.toInt ≤ 1000) (hc : -10000 ≤ c.toInt ∧ c.toInt ≤ 10000) (hs : -10000 ≤ s.toInt ∧ s.toInt ≤ 10000) (h : c.toInt ≤ s.toInt) : 1 ≤ (m.toInt64 + s - c.toInt64 : Int64).toInt := by
  have e1 : (m.toInt64 + s : Int64).toInt = m.toInt + s.toInt := q_addL (q_i2l rfl) rfl (by omega) (by omega)
  have e2 : (m.toInt64 + s - c.toInt64 : Int64).toInt = (m.toInt + s.toInt) - c.toInt := q_subL e1 (q_i2l rfl) (by omega) (by omega)
  omega
theorem g_ad2 {z : Int64} (h : 1 ≤ z.toInt ∧ z.toInt ≤ 1001) : 1 ≤ (z.toInt32 + 1 : Int32).toInt ∧ (z.toInt32 + 1 : Int32).toInt ≤ 1002 := by
  have e : z.toInt32.toInt = z.toInt := s_l2i (by omega) (by omega)
  have e2 : (z.toInt32 + 1 : Int32).toInt = z.toInt + 1 := q_addI (y := 1) e (by decide) (by omega) (by omega)
  omega
theorem T_DR_add {x2 : Int32} {x3 : Int32} {x4 : Int32} {x5 : Int32} {t0_0 : Int32} {t0_1 : Int32} {t0_2 : Int32} {t0_3 : Int64} {t0_4 : Int32} {t0_5 : Int32} {t0_6 : Int32} {t0_7 : Int32} {t0_8 : Int32} {t0_9 : Int32} {t0_10 : Int32} {t1_0 : (Nat → Int32)} {t2_0 : (Nat → Int32)} {t3_0 : (Nat → Int32)} {t4_0 : (Nat → Int32)} {t5_0 : (Nat → Int32)} (hR : gR t1_0 t2_0 t3_0 t4_0) : (S_DR_add x2 x3 x4 x5 t0_0 t0_1 t0_2 t0_3 t0_4 t0_5 t0_6 t0_7 t0_8 t0_9 t0_10 t1_0 t2_0 t3_0 t4_0 t5_0) ∧ Q_DR_add (F_DR_add x2 x3 x4 x5 t0_0 t0_1 t0_2 t0_3 t0_4 t0_5 t0_6 t0_7 t0_8 t0_9 t0_10 t1_0 t2_0 t3_0 t4_0 t5_0) := by
  have e0 : (0 : Int32).toInt = 0 := rfl
  have eL0 : (0 : Int64).toInt = 0 := rfl
  have eL1 : (10000 : Int64).toInt = 10000 := rfl
  have eL2 : (-10000 : Int64).toInt = -10000 := rfl
  have eL3 : (1000 : Int64).toInt = 1000 := rfl
  have eL4 : (-1 : Int64).toInt = -1 := rfl
  have eI3 : (1000 : Int32).toInt = 1000 := rfl
  have eLa : (1001 : Int64).toInt = 1001 := rfl
  have eLb : (1 : Int64).toInt = 1 := rfl
  unfold S_DR_add F_DR_add
  by_cases g1 : ((F_DR_no x2) : Int32) = (0 : Int32)
  ·
    rw [if_pos g1, if_pos g1]
    have g1r := g_no g1
    by_cases g2 : ((F_DR_no x3) : Int32) = (0 : Int32)
    ·
      rw [if_pos g2, if_pos g2]
      have g2r := g_no g2
      by_cases g3 : ((F_DR_no x4) : Int32) = (0 : Int32)
      ·
        rw [if_pos g3, if_pos g3]
        have g3r := g_no g3
        unfold S_DR_add_J27 F_DR_add_J27
        have g4 : ((0 : Int32) ≤ (0 : Int32)) := (by decide)
        rw [if_pos g4, if_pos g4]
        refine v_cons (by omega) ?_
        refine v_cons (by omega) ?_
        refine v_cons (by omega) ?_
        refine v_cons (by omega) ?_
        by_cases g5 : (t4_0 x2.toNatClampNeg : Int32) ≤ (t4_0 x3.toNatClampNeg : Int32)
        ·
          rw [if_pos g5, if_pos g5]
          have g5i := q_leI g5
          obtain ⟨lx68, e6⟩ := q_nm (((t4_0 x3.toNatClampNeg : Int32).toInt64 : Int64) : Int64)
          rw [e6]
          have h68 : -10000 ≤ lx68.toInt ∧ lx68.toInt ≤ 10000 := by rw [← e6, q_i2l rfl]; exact (gR.at hR (by with_reducible assumption)).2.2
          have h68a : (t4_0 x2.toNatClampNeg).toInt ≤ lx68.toInt := by rw [← e6, q_i2l rfl]; omega
          have h68b : (t4_0 x3.toNatClampNeg).toInt ≤ lx68.toInt := by rw [← e6, q_i2l rfl]; omega
          unfold S_DR_add_J75 F_DR_add_J75
          have h7 := R_dz (x2 := x2) (t0_0 := (0 : Int32)) (t0_1 := t0_1) (t0_2 := t0_2) (t0_3 := t0_3) (t0_4 := t0_4) (t0_5 := t0_5) (t0_6 := t0_6) (t0_7 := t0_7) (t0_8 := t0_8) (t0_9 := t0_9) (t0_10 := (2 : Int32)) (t1_0 := t1_0) (by with_reducible assumption)
          with_reducible refine v_owe h7.1 ?_
          by_cases g8 : ((F_DR_isZero x2 (0 : Int32) t0_1 t0_2 t0_3 t0_4 t0_5 t0_6 t0_7 t0_8 t0_9 (2 : Int32) t1_0) : Int32) = (0 : Int32)
          ·
            rw [if_pos g8, if_pos g8]
            obtain ⟨lx91, e9⟩ := q_nm (((((t2_0 x2.toNatClampNeg : Int32).toInt64 : Int64) + lx68 : Int64) - ((t4_0 x2.toNatClampNeg : Int32).toInt64 : Int64) : Int64) : Int64)
            rw [e9]
            have llx91 : 1 ≤ lx91.toInt := by rw [← e9]; exact g_ad1 (gR.at hR (by with_reducible assumption : 0 ≤ x2.toInt ∧ x2.toInt ≤ 9)).1 (gR.at hR (by with_reducible assumption : 0 ≤ x2.toInt ∧ x2.toInt ≤ 9)).2.2 h68 h68a
            unfold S_DR_add_J107 F_DR_add_J107
            have h10 := R_dz (x2 := x3) (t0_0 := (0 : Int32)) (t0_1 := t0_1) (t0_2 := t0_2) (t0_3 := t0_3) (t0_4 := t0_4) (t0_5 := t0_5) (t0_6 := t0_6) (t0_7 := t0_7) (t0_8 := t0_8) (t0_9 := t0_9) (t0_10 := (2 : Int32)) (t1_0 := t1_0) (by with_reducible assumption)
            with_reducible refine v_owe h10.1 ?_
            by_cases g11 : ((F_DR_isZero x3 (0 : Int32) t0_1 t0_2 t0_3 t0_4 t0_5 t0_6 t0_7 t0_8 t0_9 (2 : Int32) t1_0) : Int32) = (0 : Int32)
            ·
              rw [if_pos g11, if_pos g11]
              obtain ⟨lx114, e12⟩ := q_nm (((((t2_0 x3.toNatClampNeg : Int32).toInt64 : Int64) + lx68 : Int64) - ((t4_0 x3.toNatClampNeg : Int32).toInt64 : Int64) : Int64) : Int64)
              rw [e12]
              have llx114 : 1 ≤ lx114.toInt := by rw [← e12]; exact g_ad1 (gR.at hR (by with_reducible assumption : 0 ≤ x3.toInt ∧ x3.toInt ≤ 9)).1 (gR.at hR (by with_reducible assumption : 0 ≤ x3.toInt ∧ x3.toInt ≤ 9)).2.2 h68 h68b
              unfold S_DR_add_J139 F_DR_add_J139
              by_cases g13 : (0 : Int32) < (lg_cmp lx91 1001 : Int32)
              ·
                rw [if_pos g13, if_pos g13]
                have g13l := g_lc7 g13
                refine ⟨trivial, ?_⟩
                (unfold Q_DR_add; dsimp only; with_reducible assumption)
              ·
                rw [if_neg g13, if_neg g13]
                have g13l := g_lc8 g13
                by_cases g14 : (lg_cmp lx114 1001 : Int32) ≤ (0 : Int32)
                ·
                  rw [if_pos g14, if_pos g14]
                  have g14l := g_lc3 g14
                  with_reducible refine v_owe h10.1 ?_
                  rw [if_pos g11, if_pos g11]
                  by_cases g15 : (t3_0 x3.toNatClampNeg : Int32) = x5
                  ·
                    rw [if_pos g15, if_pos g15]
                    unfold S_DR_add_J188 F_DR_add_J188
                    unfold S_DR_add_J189 F_DR_add_J189
                    with_reducible refine v_owe h7.1 ?_
                    rw [if_pos g8, if_pos g8]
                    with_reducible refine v_owe h10.1 ?_
                    rw [if_pos g11, if_pos g11]
                    by_cases g16 : (t3_0 x2.toNatClampNeg : Int32) = (0 : Int32)
                    ·
                      rw [if_pos g16, if_pos g16]
                      unfold S_DR_add_J218 F_DR_add_J218
                      unfold S_DR_add_J223 F_DR_add_J223
                      have g17 : ¬ ((1 : Int32) = (0 : Int32)) := (by decide)
                      rw [if_neg g17, if_neg g17]
                      unfold S_DR_add_J243 F_DR_add_J243
                      unfold S_DR_add_J244 F_DR_add_J244
                      have g18 : ((0 : Int32) = (0 : Int32)) := (by decide)
                      rw [if_pos g18, if_pos g18]
                      unfold S_DR_add_J256 F_DR_add_J256
                      have g19 : ((0 : Int32) = (0 : Int32)) := (by decide)
                      rw [if_pos g19, if_pos g19]
                      unfold S_DR_add_J268 F_DR_add_J268
                      by_cases g20 : (lg_cmp lx91 lx114 : Int32) ≤ (0 : Int32)
                      ·
                        rw [if_pos g20, if_pos g20]
                        have g20l := g_lc3 g20
                        unfold S_DR_add_J285 F_DR_add_J285
                        have h254 := g_ad2 (z := lx114) ⟨by omega, by omega⟩; exact v_add hR (by with_reducible assumption) (by with_reducible assumption) (by with_reducible assumption) (by with_reducible assumption) (by with_reducible assumption) h68 h254 _ _ _ _ ⟨by omega, by omega⟩ (by omega) (by decide) (fun i hi hj => by omega)
                      ·
                        rw [if_neg g20, if_neg g20]
                        have g20l := g_lc4 g20
                        unfold S_DR_add_J285 F_DR_add_J285
                        have h254 := g_ad2 (z := lx91) ⟨by omega, by omega⟩; exact v_add hR (by with_reducible assumption) (by with_reducible assumption) (by with_reducible assumption) (by with_reducible assumption) (by with_reducible assumption) h68 h254 _ _ _ _ ⟨by omega, by omega⟩ (by omega) (by decide) (fun i hi hj => by omega)
                    ·
                      rw [if_neg g16, if_neg g16]
                      unfold S_DR_add_J223 F_DR_add_J223
                      have g21 : ((0 : Int32) = (0 : Int32)) := (by decide)
                      rw [if_pos g21, if_pos g21]
                      have h22 := T_DR_compareSizes (x2 := x2) (x3 := x3) (t0_0 := (0 : Int32)) (t0_1 := t0_1) (t0_2 := t0_2) (t0_3 := t0_3) (t0_4 := t0_4) (t0_5 := t0_5) (t0_6 := t0_6) (t0_7 := t0_7) (t0_8 := t0_8) (t0_9 := t0_9) (t0_10 := (2 : Int32)) (t1_0 := t1_0) (t2_0 := t2_0) (t3_0 := t4_0) (fun i hi => (hR.2 i hi).1) (by with_reducible assumption) (by with_reducible assumption)
                      with_reducible refine v_owe h22 ?_
                      by_cases g23 : (0 : Int32) ≤ ((F_DR_compareSizes x2 x3 (0 : Int32) t0_1 t0_2 t0_3 t0_4 t0_5 t0_6 t0_7 t0_8 t0_9 (2 : Int32) t1_0 t2_0 t4_0) : Int32)
                      ·
                        rw [if_pos g23, if_pos g23]
                        unfold S_DR_add_J243 F_DR_add_J243
                        unfold S_DR_add_J244 F_DR_add_J244
                        have g24 : ((0 : Int32) = (0 : Int32)) := (by decide)
                        rw [if_pos g24, if_pos g24]
                        unfold S_DR_add_J256 F_DR_add_J256
                        have g25 : ((0 : Int32) = (0 : Int32)) := (by decide)
                        rw [if_pos g25, if_pos g25]
                        unfold S_DR_add_J268 F_DR_add_J268
                        by_cases g26 : (lg_cmp lx91 lx114 : Int32) ≤ (0 : Int32)
                        ·
                          rw [if_pos g26, if_pos g26]
                          have g26l := g_lc3 g26
                          unfold S_DR_add_J285 F_DR_add_J285
                          have h254 := g_ad2 (z := lx114) ⟨by omega, by omega⟩; exact v_add hR (by with_reducible assumption) (by with_reducible assumption) (by with_reducible assumption) (by with_reducible assumption) (by with_reducible assumption) h68 h254 _ _ _ _ ⟨by omega, by omega⟩ (by omega) (by decide) (fun i hi hj => by omega)
                        ·
                          rw [if_neg g26, if_neg g26]
                          have g26l := g_lc4 g26
                          unfold S_DR_add_J285 F_DR_add_J285
                          have h254 := g_ad2 (z := lx91) ⟨by omega, by omega⟩; exact v_add hR (by with_reducible assumption) (by with_reducible assumption) (by with_reducible assumption) (by with_reducible assumption) (by with_reducible assumption) h68 h254 _ _ _ _ ⟨by omega, by omega⟩ (by omega) (by decide) (fun i hi hj => by omega)
                      ·
                        rw [if_neg g23, if_neg g23]
                        unfold S_DR_add_J244 F_DR_add_J244
                        have g27 : ¬ ((1 : Int32) = (0 : Int32)) := (by decide)
                        rw [if_neg g27, if_neg g27]
                        unfold S_DR_add_J256 F_DR_add_J256
                        have g28 : ¬ ((1 : Int32) = (0 : Int32)) := (by decide)
                        rw [if_neg g28, if_neg g28]
                        unfold S_DR_add_J268 F_DR_add_J268
                        by_cases g29 : (lg_cmp lx91 lx114 : Int32) ≤ (0 : Int32)
                        ·
                          rw [if_pos g29, if_pos g29]
                          have g29l := g_lc3 g29
                          unfold S_DR_add_J285 F_DR_add_J285
                          have h254 := g_ad2 (z := lx114) ⟨by omega, by omega⟩; exact v_add hR (by with_reducible assumption) (by with_reducible assumption) (by with_reducible assumption) (by with_reducible assumption) (by with_reducible assumption) h68 h254 _ _ _ _ ⟨by omega, by omega⟩ (by omega) (by decide) (fun i hi hj => by omega)
                        ·
                          rw [if_neg g29, if_neg g29]
                          have g29l := g_lc4 g29
                          unfold S_DR_add_J285 F_DR_add_J285
                          have h254 := g_ad2 (z := lx91) ⟨by omega, by omega⟩; exact v_add hR (by with_reducible assumption) (by with_reducible assumption) (by with_reducible assumption) (by with_reducible assumption) (by with_reducible assumption) h68 h254 _ _ _ _ ⟨by omega, by omega⟩ (by omega) (by decide) (fun i hi hj => by omega)
                  ·
                    rw [if_neg g15, if_neg g15]
                    unfold S_DR_add_J189 F_DR_add_J189
                    with_reducible refine v_owe h7.1 ?_
                    rw [if_pos g8, if_pos g8]
                    with_reducible refine v_owe h10.1 ?_
                    rw [if_pos g11, if_pos g11]
                    by_cases g30 : (t3_0 x2.toNatClampNeg : Int32) = (1 : Int32)
                    ·
                      rw [if_pos g30, if_pos g30]
                      unfold S_DR_add_J218 F_DR_add_J218
                      unfold S_DR_add_J223 F_DR_add_J223
                      have g31 : ¬ ((1 : Int32) = (0 : Int32)) := (by decide)
                      rw [if_neg g31, if_neg g31]
                      unfold S_DR_add_J243 F_DR_add_J243
                      unfold S_DR_add_J244 F_DR_add_J244
                      have g32 : ((0 : Int32) = (0 : Int32)) := (by decide)
                      rw [if_pos g32, if_pos g32]
                      unfold S_DR_add_J256 F_DR_add_J256
                      have g33 : ((0 : Int32) = (0 : Int32)) := (by decide)
                      rw [if_pos g33, if_pos g33]
                      unfold S_DR_add_J268 F_DR_add_J268
                      by_cases g34 : (lg_cmp lx91 lx114 : Int32) ≤ (0 : Int32)
                      ·
                        rw [if_pos g34, if_pos g34]
                        have g34l := g_lc3 g34
                        unfold S_DR_add_J285 F_DR_add_J285
                        have h254 := g_ad2 (z := lx114) ⟨by omega, by omega⟩; exact v_add hR (by with_reducible assumption) (by with_reducible assumption) (by with_reducible assumption) (by with_reducible assumption) (by with_reducible assumption) h68 h254 _ _ _ _ ⟨by omega, by omega⟩ (by omega) (by decide) (fun i hi hj => by omega)
                      ·
                        rw [if_neg g34, if_neg g34]
                        have g34l := g_lc4 g34
                        unfold S_DR_add_J285 F_DR_add_J285
                        have h254 := g_ad2 (z := lx91) ⟨by omega, by omega⟩; exact v_add hR (by with_reducible assumption) (by with_reducible assumption) (by with_reducible assumption) (by with_reducible assumption) (by with_reducible assumption) h68 h254 _ _ _ _ ⟨by omega, by omega⟩ (by omega) (by decide) (fun i hi hj => by omega)
                    ·
                      rw [if_neg g30, if_neg g30]
                      unfold S_DR_add_J223 F_DR_add_J223
                      have g35 : ((0 : Int32) = (0 : Int32)) := (by decide)
                      rw [if_pos g35, if_pos g35]
                      have h36 := T_DR_compareSizes (x2 := x2) (x3 := x3) (t0_0 := (0 : Int32)) (t0_1 := t0_1) (t0_2 := t0_2) (t0_3 := t0_3) (t0_4 := t0_4) (t0_5 := t0_5) (t0_6 := t0_6) (t0_7 := t0_7) (t0_8 := t0_8) (t0_9 := t0_9) (t0_10 := (2 : Int32)) (t1_0 := t1_0) (t2_0 := t2_0) (t3_0 := t4_0) (fun i hi => (hR.2 i hi).1) (by with_reducible assumption) (by with_reducible assumption)
                      with_reducible refine v_owe h36 ?_
                      by_cases g37 : (0 : Int32) ≤ ((F_DR_compareSizes x2 x3 (0 : Int32) t0_1 t0_2 t0_3 t0_4 t0_5 t0_6 t0_7 t0_8 t0_9 (2 : Int32) t1_0 t2_0 t4_0) : Int32)
                      ·
                        rw [if_pos g37, if_pos g37]
                        unfold S_DR_add_J243 F_DR_add_J243
                        unfold S_DR_add_J244 F_DR_add_J244
                        have g38 : ((0 : Int32) = (0 : Int32)) := (by decide)
                        rw [if_pos g38, if_pos g38]
                        unfold S_DR_add_J256 F_DR_add_J256
                        have g39 : ((0 : Int32) = (0 : Int32)) := (by decide)
                        rw [if_pos g39, if_pos g39]
                        unfold S_DR_add_J268 F_DR_add_J268
                        by_cases g40 : (lg_cmp lx91 lx114 : Int32) ≤ (0 : Int32)
                        ·
                          rw [if_pos g40, if_pos g40]
                          have g40l := g_lc3 g40
                          unfold S_DR_add_J285 F_DR_add_J285
                          have h254 := g_ad2 (z := lx114) ⟨by omega, by omega⟩; exact v_add hR (by with_reducible assumption) (by with_reducible assumption) (by with_reducible assumption) (by with_reducible assumption) (by with_reducible assumption) h68 h254 _ _ _ _ ⟨by omega, by omega⟩ (by omega) (by decide) (fun i hi hj => by omega)
                        ·
                          rw [if_neg g40, if_neg g40]
                          have g40l := g_lc4 g40
                          unfold S_DR_add_J285 F_DR_add_J285
                          have h254 := g_ad2 (z := lx91) ⟨by omega, by omega⟩; exact v_add hR (by with_reducible assumption) (by with_reducible assumption) (by with_reducible assumption) (by with_reducible assumption) (by with_reducible assumption) h68 h254 _ _ _ _ ⟨by omega, by omega⟩ (by omega) (by decide) (fun i hi hj => by omega)
                      ·
                        rw [if_neg g37, if_neg g37]
                        unfold S_DR_add_J244 F_DR_add_J244
                        have g41 : ¬ ((1 : Int32) = (0 : Int32)) := (by decide)
                        rw [if_neg g41, if_neg g41]
                        unfold S_DR_add_J256 F_DR_add_J256
                        have g42 : ¬ ((1 : Int32) = (0 : Int32)) := (by decide)
                        rw [if_neg g42, if_neg g42]
                        unfold S_DR_add_J268 F_DR_add_J268
                        by_cases g43 : (lg_cmp lx91 lx114 : Int32) ≤ (0 : Int32)
                        ·
                          rw [if_pos g43, if_pos g43]
                          have g43l := g_lc3 g43
                          unfold S_DR_add_J285 F_DR_add_J285
                          have h254 := g_ad2 (z := lx114) ⟨by omega, by omega⟩; exact v_add hR (by with_reducible assumption) (by with_reducible assumption) (by with_reducible assumption) (by with_reducible assumption) (by with_reducible assumption) h68 h254 _ _ _ _ ⟨by omega, by omega⟩ (by omega) (by decide) (fun i hi hj => by omega)
                        ·
                          rw [if_neg g43, if_neg g43]
                          have g43l := g_lc4 g43
                          unfold S_DR_add_J285 F_DR_add_J285
                          have h254 := g_ad2 (z := lx91) ⟨by omega, by omega⟩; exact v_add hR (by with_reducible assumption) (by with_reducible assumption) (by with_reducible assumption) (by with_reducible assumption) (by with_reducible assumption) h68 h254 _ _ _ _ ⟨by omega, by omega⟩ (by omega) (by decide) (fun i hi hj => by omega)
                ·
                  rw [if_neg g14, if_neg g14]
                  have g14l := g_lc4 g14
                  refine ⟨trivial, ?_⟩
                  (unfold Q_DR_add; dsimp only; with_reducible assumption)
            ·
              rw [if_neg g11, if_neg g11]
              unfold S_DR_add_J139 F_DR_add_J139
              by_cases g44 : (0 : Int32) < (lg_cmp lx91 1001 : Int32)
              ·
                rw [if_pos g44, if_pos g44]
                have g44l := g_lc7 g44
                refine ⟨trivial, ?_⟩
                (unfold Q_DR_add; dsimp only; with_reducible assumption)
              ·
                rw [if_neg g44, if_neg g44]
                have g44l := g_lc8 g44
                by_cases g45 : (lg_cmp (1 : Int64) 1001 : Int32) ≤ (0 : Int32)
                ·
                  rw [if_pos g45, if_pos g45]
                  have g45l := g_lc3 g45
                  with_reducible refine v_owe h10.1 ?_
                  rw [if_neg g11, if_neg g11]
                  unfold S_DR_add_J188 F_DR_add_J188
                  unfold S_DR_add_J189 F_DR_add_J189
                  with_reducible refine v_owe h7.1 ?_
                  rw [if_pos g8, if_pos g8]
                  with_reducible refine v_owe h10.1 ?_
                  rw [if_neg g11, if_neg g11]
                  unfold S_DR_add_J218 F_DR_add_J218
                  unfold S_DR_add_J223 F_DR_add_J223
                  have g46 : ¬ ((1 : Int32) = (0 : Int32)) := (by decide)
                  rw [if_neg g46, if_neg g46]
                  unfold S_DR_add_J243 F_DR_add_J243
                  unfold S_DR_add_J244 F_DR_add_J244
                  have g47 : ((0 : Int32) = (0 : Int32)) := (by decide)
                  rw [if_pos g47, if_pos g47]
                  unfold S_DR_add_J256 F_DR_add_J256
                  have g48 : ((0 : Int32) = (0 : Int32)) := (by decide)
                  rw [if_pos g48, if_pos g48]
                  unfold S_DR_add_J268 F_DR_add_J268
                  by_cases g49 : (lg_cmp lx91 (1 : Int64) : Int32) ≤ (0 : Int32)
                  ·
                    rw [if_pos g49, if_pos g49]
                    have g49l := g_lc3 g49
                    unfold S_DR_add_J285 F_DR_add_J285
                    have h254 := g_ad2 (z := (1 : Int64)) ⟨by omega, by omega⟩; exact v_add hR (by with_reducible assumption) (by with_reducible assumption) (by with_reducible assumption) (by with_reducible assumption) (by with_reducible assumption) h68 h254 _ _ _ _ ⟨by omega, by omega⟩ (by omega) (by decide) (fun i hi hj => by omega)
                  ·
                    rw [if_neg g49, if_neg g49]
                    have g49l := g_lc4 g49
                    unfold S_DR_add_J285 F_DR_add_J285
                    have h254 := g_ad2 (z := lx91) ⟨by omega, by omega⟩; exact v_add hR (by with_reducible assumption) (by with_reducible assumption) (by with_reducible assumption) (by with_reducible assumption) (by with_reducible assumption) h68 h254 _ _ _ _ ⟨by omega, by omega⟩ (by omega) (by decide) (fun i hi hj => by omega)
                ·
                  rw [if_neg g45, if_neg g45]
                  have g45l := g_lc4 g45
                  refine ⟨trivial, ?_⟩
                  (unfold Q_DR_add; dsimp only; with_reducible assumption)
          ·
            rw [if_neg g8, if_neg g8]
            unfold S_DR_add_J107 F_DR_add_J107
            have h50 := R_dz (x2 := x3) (t0_0 := (0 : Int32)) (t0_1 := t0_1) (t0_2 := t0_2) (t0_3 := t0_3) (t0_4 := t0_4) (t0_5 := t0_5) (t0_6 := t0_6) (t0_7 := t0_7) (t0_8 := t0_8) (t0_9 := t0_9) (t0_10 := (2 : Int32)) (t1_0 := t1_0) (by with_reducible assumption)
            with_reducible refine v_owe h50.1 ?_
            by_cases g51 : ((F_DR_isZero x3 (0 : Int32) t0_1 t0_2 t0_3 t0_4 t0_5 t0_6 t0_7 t0_8 t0_9 (2 : Int32) t1_0) : Int32) = (0 : Int32)
            ·
              rw [if_pos g51, if_pos g51]
              obtain ⟨lx114, e52⟩ := q_nm (((((t2_0 x3.toNatClampNeg : Int32).toInt64 : Int64) + lx68 : Int64) - ((t4_0 x3.toNatClampNeg : Int32).toInt64 : Int64) : Int64) : Int64)
              rw [e52]
              have llx114 : 1 ≤ lx114.toInt := by rw [← e52]; exact g_ad1 (gR.at hR (by with_reducible assumption : 0 ≤ x3.toInt ∧ x3.toInt ≤ 9)).1 (gR.at hR (by with_reducible assumption : 0 ≤ x3.toInt ∧ x3.toInt ≤ 9)).2.2 h68 h68b
              unfold S_DR_add_J139 F_DR_add_J139
              by_cases g53 : (0 : Int32) < (lg_cmp (1 : Int64) 1001 : Int32)
              ·
                rw [if_pos g53, if_pos g53]
                have g53l := g_lc7 g53
                refine ⟨trivial, ?_⟩
                (unfold Q_DR_add; dsimp only; with_reducible assumption)
              ·
                rw [if_neg g53, if_neg g53]
                have g53l := g_lc8 g53
                by_cases g54 : (lg_cmp lx114 1001 : Int32) ≤ (0 : Int32)
                ·
                  rw [if_pos g54, if_pos g54]
                  have g54l := g_lc3 g54
                  with_reducible refine v_owe h50.1 ?_
                  rw [if_pos g51, if_pos g51]
                  by_cases g55 : (t3_0 x3.toNatClampNeg : Int32) = x5
                  ·
                    rw [if_pos g55, if_pos g55]
                    unfold S_DR_add_J188 F_DR_add_J188
                    unfold S_DR_add_J189 F_DR_add_J189
                    with_reducible refine v_owe h7.1 ?_
                    rw [if_neg g8, if_neg g8]
                    unfold S_DR_add_J218 F_DR_add_J218
                    unfold S_DR_add_J223 F_DR_add_J223
                    have g56 : ¬ ((1 : Int32) = (0 : Int32)) := (by decide)
                    rw [if_neg g56, if_neg g56]
                    unfold S_DR_add_J243 F_DR_add_J243
                    unfold S_DR_add_J244 F_DR_add_J244
                    have g57 : ((0 : Int32) = (0 : Int32)) := (by decide)
                    rw [if_pos g57, if_pos g57]
                    unfold S_DR_add_J256 F_DR_add_J256
                    have g58 : ((0 : Int32) = (0 : Int32)) := (by decide)
                    rw [if_pos g58, if_pos g58]
                    unfold S_DR_add_J268 F_DR_add_J268
                    by_cases g59 : (lg_cmp (1 : Int64) lx114 : Int32) ≤ (0 : Int32)
                    ·
                      rw [if_pos g59, if_pos g59]
                      have g59l := g_lc3 g59
                      unfold S_DR_add_J285 F_DR_add_J285
                      have h254 := g_ad2 (z := lx114) ⟨by omega, by omega⟩; exact v_add hR (by with_reducible assumption) (by with_reducible assumption) (by with_reducible assumption) (by with_reducible assumption) (by with_reducible assumption) h68 h254 _ _ _ _ ⟨by omega, by omega⟩ (by omega) (by decide) (fun i hi hj => by omega)
                    ·
                      rw [if_neg g59, if_neg g59]
                      have g59l := g_lc4 g59
                      unfold S_DR_add_J285 F_DR_add_J285
                      have h254 := g_ad2 (z := (1 : Int64)) ⟨by omega, by omega⟩; exact v_add hR (by with_reducible assumption) (by with_reducible assumption) (by with_reducible assumption) (by with_reducible assumption) (by with_reducible assumption) h68 h254 _ _ _ _ ⟨by omega, by omega⟩ (by omega) (by decide) (fun i hi hj => by omega)
                  ·
                    rw [if_neg g55, if_neg g55]
                    unfold S_DR_add_J189 F_DR_add_J189
                    with_reducible refine v_owe h7.1 ?_
                    rw [if_neg g8, if_neg g8]
                    unfold S_DR_add_J218 F_DR_add_J218
                    unfold S_DR_add_J223 F_DR_add_J223
                    have g60 : ¬ ((1 : Int32) = (0 : Int32)) := (by decide)
                    rw [if_neg g60, if_neg g60]
                    unfold S_DR_add_J243 F_DR_add_J243
                    unfold S_DR_add_J244 F_DR_add_J244
                    have g61 : ((0 : Int32) = (0 : Int32)) := (by decide)
                    rw [if_pos g61, if_pos g61]
                    unfold S_DR_add_J256 F_DR_add_J256
                    have g62 : ((0 : Int32) = (0 : Int32)) := (by decide)
                    rw [if_pos g62, if_pos g62]
                    unfold S_DR_add_J268 F_DR_add_J268
                    by_cases g63 : (lg_cmp (1 : Int64) lx114 : Int32) ≤ (0 : Int32)
                    ·
                      rw [if_pos g63, if_pos g63]
                      have g63l := g_lc3 g63
                      unfold S_DR_add_J285 F_DR_add_J285
                      have h254 := g_ad2 (z := lx114) ⟨by omega, by omega⟩; exact v_add hR (by with_reducible assumption) (by with_reducible assumption) (by with_reducible assumption) (by with_reducible assumption) (by with_reducible assumption) h68 h254 _ _ _ _ ⟨by omega, by omega⟩ (by omega) (by decide) (fun i hi hj => by omega)
                    ·
                      rw [if_neg g63, if_neg g63]
                      have g63l := g_lc4 g63
                      unfold S_DR_add_J285 F_DR_add_J285
                      have h254 := g_ad2 (z := (1 : Int64)) ⟨by omega, by omega⟩; exact v_add hR (by with_reducible assumption) (by with_reducible assumption) (by with_reducible assumption) (by with_reducible assumption) (by with_reducible assumption) h68 h254 _ _ _ _ ⟨by omega, by omega⟩ (by omega) (by decide) (fun i hi hj => by omega)
                ·
                  rw [if_neg g54, if_neg g54]
                  have g54l := g_lc4 g54
                  refine ⟨trivial, ?_⟩
                  (unfold Q_DR_add; dsimp only; with_reducible assumption)
            ·
              rw [if_neg g51, if_neg g51]
              unfold S_DR_add_J139 F_DR_add_J139
              by_cases g64 : (0 : Int32) < (lg_cmp (1 : Int64) 1001 : Int32)
              ·
                rw [if_pos g64, if_pos g64]
                have g64l := g_lc7 g64
                refine ⟨trivial, ?_⟩
                (unfold Q_DR_add; dsimp only; with_reducible assumption)
              ·
                rw [if_neg g64, if_neg g64]
                have g64l := g_lc8 g64
                by_cases g65 : (lg_cmp (1 : Int64) 1001 : Int32) ≤ (0 : Int32)
                ·
                  rw [if_pos g65, if_pos g65]
                  have g65l := g_lc3 g65
                  with_reducible refine v_owe h50.1 ?_
                  rw [if_neg g51, if_neg g51]
                  unfold S_DR_add_J188 F_DR_add_J188
                  unfold S_DR_add_J189 F_DR_add_J189
                  with_reducible refine v_owe h7.1 ?_
                  rw [if_neg g8, if_neg g8]
                  unfold S_DR_add_J218 F_DR_add_J218
                  unfold S_DR_add_J223 F_DR_add_J223
                  have g66 : ¬ ((1 : Int32) = (0 : Int32)) := (by decide)
                  rw [if_neg g66, if_neg g66]
                  unfold S_DR_add_J243 F_DR_add_J243
                  unfold S_DR_add_J244 F_DR_add_J244
                  have g67 : ((0 : Int32) = (0 : Int32)) := (by decide)
                  rw [if_pos g67, if_pos g67]
                  unfold S_DR_add_J256 F_DR_add_J256
                  have g68 : ((0 : Int32) = (0 : Int32)) := (by decide)
                  rw [if_pos g68, if_pos g68]
                  unfold S_DR_add_J268 F_DR_add_J268
                  by_cases g69 : (lg_cmp (1 : Int64) (1 : Int64) : Int32) ≤ (0 : Int32)
                  ·
                    rw [if_pos g69, if_pos g69]
                    have g69l := g_lc3 g69
                    unfold S_DR_add_J285 F_DR_add_J285
                    have h254 := g_ad2 (z := (1 : Int64)) ⟨by omega, by omega⟩; exact v_add hR (by with_reducible assumption) (by with_reducible assumption) (by with_reducible assumption) (by with_reducible assumption) (by with_reducible assumption) h68 h254 _ _ _ _ ⟨by omega, by omega⟩ (by omega) (by decide) (fun i hi hj => by omega)
                  ·
                    rw [if_neg g69, if_neg g69]
                    have g69l := g_lc4 g69
                    unfold S_DR_add_J285 F_DR_add_J285
                    have h254 := g_ad2 (z := (1 : Int64)) ⟨by omega, by omega⟩; exact v_add hR (by with_reducible assumption) (by with_reducible assumption) (by with_reducible assumption) (by with_reducible assumption) (by with_reducible assumption) h68 h254 _ _ _ _ ⟨by omega, by omega⟩ (by omega) (by decide) (fun i hi hj => by omega)
                ·
                  rw [if_neg g65, if_neg g65]
                  have g65l := g_lc4 g65
                  refine ⟨trivial, ?_⟩
                  (unfold Q_DR_add; dsimp only; with_reducible assumption)
        ·
          rw [if_neg g5, if_neg g5]
          have g5i := q_nleI g5
          obtain ⟨lx68, e70⟩ := q_nm (((t4_0 x2.toNatClampNeg : Int32).toInt64 : Int64) : Int64)
          rw [e70]
          have h68 : -10000 ≤ lx68.toInt ∧ lx68.toInt ≤ 10000 := by rw [← e70, q_i2l rfl]; exact (gR.at hR (by with_reducible assumption)).2.2
          have h68a : (t4_0 x2.toNatClampNeg).toInt ≤ lx68.toInt := by rw [← e70, q_i2l rfl]; omega
          have h68b : (t4_0 x3.toNatClampNeg).toInt ≤ lx68.toInt := by rw [← e70, q_i2l rfl]; omega
          unfold S_DR_add_J75 F_DR_add_J75
          have h71 := R_dz (x2 := x2) (t0_0 := (0 : Int32)) (t0_1 := t0_1) (t0_2 := t0_2) (t0_3 := t0_3) (t0_4 := t0_4) (t0_5 := t0_5) (t0_6 := t0_6) (t0_7 := t0_7) (t0_8 := t0_8) (t0_9 := t0_9) (t0_10 := (2 : Int32)) (t1_0 := t1_0) (by with_reducible assumption)
          with_reducible refine v_owe h71.1 ?_
          by_cases g72 : ((F_DR_isZero x2 (0 : Int32) t0_1 t0_2 t0_3 t0_4 t0_5 t0_6 t0_7 t0_8 t0_9 (2 : Int32) t1_0) : Int32) = (0 : Int32)
          ·
            rw [if_pos g72, if_pos g72]
            obtain ⟨lx91, e73⟩ := q_nm (((((t2_0 x2.toNatClampNeg : Int32).toInt64 : Int64) + lx68 : Int64) - ((t4_0 x2.toNatClampNeg : Int32).toInt64 : Int64) : Int64) : Int64)
            rw [e73]
            have llx91 : 1 ≤ lx91.toInt := by rw [← e73]; exact g_ad1 (gR.at hR (by with_reducible assumption : 0 ≤ x2.toInt ∧ x2.toInt ≤ 9)).1 (gR.at hR (by with_reducible assumption : 0 ≤ x2.toInt ∧ x2.toInt ≤ 9)).2.2 h68 h68a
            unfold S_DR_add_J107 F_DR_add_J107
            have h74 := R_dz (x2 := x3) (t0_0 := (0 : Int32)) (t0_1 := t0_1) (t0_2 := t0_2) (t0_3 := t0_3) (t0_4 := t0_4) (t0_5 := t0_5) (t0_6 := t0_6) (t0_7 := t0_7) (t0_8 := t0_8) (t0_9 := t0_9) (t0_10 := (2 : Int32)) (t1_0 := t1_0) (by with_reducible assumption)
            with_reducible refine v_owe h74.1 ?_
            by_cases g75 : ((F_DR_isZero x3 (0 : Int32) t0_1 t0_2 t0_3 t0_4 t0_5 t0_6 t0_7 t0_8 t0_9 (2 : Int32) t1_0) : Int32) = (0 : Int32)
            ·
              rw [if_pos g75, if_pos g75]
              obtain ⟨lx114, e76⟩ := q_nm (((((t2_0 x3.toNatClampNeg : Int32).toInt64 : Int64) + lx68 : Int64) - ((t4_0 x3.toNatClampNeg : Int32).toInt64 : Int64) : Int64) : Int64)
              rw [e76]
              have llx114 : 1 ≤ lx114.toInt := by rw [← e76]; exact g_ad1 (gR.at hR (by with_reducible assumption : 0 ≤ x3.toInt ∧ x3.toInt ≤ 9)).1 (gR.at hR (by with_reducible assumption : 0 ≤ x3.toInt ∧ x3.toInt ≤ 9)).2.2 h68 h68b
              unfold S_DR_add_J139 F_DR_add_J139
              by_cases g77 : (0 : Int32) < (lg_cmp lx91 1001 : Int32)
              ·
                rw [if_pos g77, if_pos g77]
                have g77l := g_lc7 g77
                refine ⟨trivial, ?_⟩
                (unfold Q_DR_add; dsimp only; with_reducible assumption)
              ·
                rw [if_neg g77, if_neg g77]
                have g77l := g_lc8 g77
                by_cases g78 : (lg_cmp lx114 1001 : Int32) ≤ (0 : Int32)
                ·
                  rw [if_pos g78, if_pos g78]
                  have g78l := g_lc3 g78
                  with_reducible refine v_owe h74.1 ?_
                  rw [if_pos g75, if_pos g75]
                  by_cases g79 : (t3_0 x3.toNatClampNeg : Int32) = x5
                  ·
                    rw [if_pos g79, if_pos g79]
                    unfold S_DR_add_J188 F_DR_add_J188
                    unfold S_DR_add_J189 F_DR_add_J189
                    with_reducible refine v_owe h71.1 ?_
                    rw [if_pos g72, if_pos g72]
                    with_reducible refine v_owe h74.1 ?_
                    rw [if_pos g75, if_pos g75]
                    by_cases g80 : (t3_0 x2.toNatClampNeg : Int32) = (0 : Int32)
                    ·
                      rw [if_pos g80, if_pos g80]
                      unfold S_DR_add_J218 F_DR_add_J218
                      unfold S_DR_add_J223 F_DR_add_J223
                      have g81 : ¬ ((1 : Int32) = (0 : Int32)) := (by decide)
                      rw [if_neg g81, if_neg g81]
                      unfold S_DR_add_J243 F_DR_add_J243
                      unfold S_DR_add_J244 F_DR_add_J244
                      have g82 : ((0 : Int32) = (0 : Int32)) := (by decide)
                      rw [if_pos g82, if_pos g82]
                      unfold S_DR_add_J256 F_DR_add_J256
                      have g83 : ((0 : Int32) = (0 : Int32)) := (by decide)
                      rw [if_pos g83, if_pos g83]
                      unfold S_DR_add_J268 F_DR_add_J268
                      by_cases g84 : (lg_cmp lx91 lx114 : Int32) ≤ (0 : Int32)
                      ·
                        rw [if_pos g84, if_pos g84]
                        have g84l := g_lc3 g84
                        unfold S_DR_add_J285 F_DR_add_J285
                        have h254 := g_ad2 (z := lx114) ⟨by omega, by omega⟩; exact v_add hR (by with_reducible assumption) (by with_reducible assumption) (by with_reducible assumption) (by with_reducible assumption) (by with_reducible assumption) h68 h254 _ _ _ _ ⟨by omega, by omega⟩ (by omega) (by decide) (fun i hi hj => by omega)
                      ·
                        rw [if_neg g84, if_neg g84]
                        have g84l := g_lc4 g84
                        unfold S_DR_add_J285 F_DR_add_J285
                        have h254 := g_ad2 (z := lx91) ⟨by omega, by omega⟩; exact v_add hR (by with_reducible assumption) (by with_reducible assumption) (by with_reducible assumption) (by with_reducible assumption) (by with_reducible assumption) h68 h254 _ _ _ _ ⟨by omega, by omega⟩ (by omega) (by decide) (fun i hi hj => by omega)
                    ·
                      rw [if_neg g80, if_neg g80]
                      unfold S_DR_add_J223 F_DR_add_J223
                      have g85 : ((0 : Int32) = (0 : Int32)) := (by decide)
                      rw [if_pos g85, if_pos g85]
                      have h86 := T_DR_compareSizes (x2 := x2) (x3 := x3) (t0_0 := (0 : Int32)) (t0_1 := t0_1) (t0_2 := t0_2) (t0_3 := t0_3) (t0_4 := t0_4) (t0_5 := t0_5) (t0_6 := t0_6) (t0_7 := t0_7) (t0_8 := t0_8) (t0_9 := t0_9) (t0_10 := (2 : Int32)) (t1_0 := t1_0) (t2_0 := t2_0) (t3_0 := t4_0) (fun i hi => (hR.2 i hi).1) (by with_reducible assumption) (by with_reducible assumption)
                      with_reducible refine v_owe h86 ?_
                      by_cases g87 : (0 : Int32) ≤ ((F_DR_compareSizes x2 x3 (0 : Int32) t0_1 t0_2 t0_3 t0_4 t0_5 t0_6 t0_7 t0_8 t0_9 (2 : Int32) t1_0 t2_0 t4_0) : Int32)
                      ·
                        rw [if_pos g87, if_pos g87]
                        unfold S_DR_add_J243 F_DR_add_J243
                        unfold S_DR_add_J244 F_DR_add_J244
                        have g88 : ((0 : Int32) = (0 : Int32)) := (by decide)
                        rw [if_pos g88, if_pos g88]
                        unfold S_DR_add_J256 F_DR_add_J256
                        have g89 : ((0 : Int32) = (0 : Int32)) := (by decide)
                        rw [if_pos g89, if_pos g89]
                        unfold S_DR_add_J268 F_DR_add_J268
                        by_cases g90 : (lg_cmp lx91 lx114 : Int32) ≤ (0 : Int32)
                        ·
                          rw [if_pos g90, if_pos g90]
                          have g90l := g_lc3 g90
                          unfold S_DR_add_J285 F_DR_add_J285
                          have h254 := g_ad2 (z := lx114) ⟨by omega, by omega⟩; exact v_add hR (by with_reducible assumption) (by with_reducible assumption) (by with_reducible assumption) (by with_reducible assumption) (by with_reducible assumption) h68 h254 _ _ _ _ ⟨by omega, by omega⟩ (by omega) (by decide) (fun i hi hj => by omega)
                        ·
                          rw [if_neg g90, if_neg g90]
                          have g90l := g_lc4 g90
                          unfold S_DR_add_J285 F_DR_add_J285
                          have h254 := g_ad2 (z := lx91) ⟨by omega, by omega⟩; exact v_add hR (by with_reducible assumption) (by with_reducible assumption) (by with_reducible assumption) (by with_reducible assumption) (by with_reducible assumption) h68 h254 _ _ _ _ ⟨by omega, by omega⟩ (by omega) (by decide) (fun i hi hj => by omega)
                      ·
                        rw [if_neg g87, if_neg g87]
                        unfold S_DR_add_J244 F_DR_add_J244
                        have g91 : ¬ ((1 : Int32) = (0 : Int32)) := (by decide)
                        rw [if_neg g91, if_neg g91]
                        unfold S_DR_add_J256 F_DR_add_J256
                        have g92 : ¬ ((1 : Int32) = (0 : Int32)) := (by decide)
                        rw [if_neg g92, if_neg g92]
                        unfold S_DR_add_J268 F_DR_add_J268
                        by_cases g93 : (lg_cmp lx91 lx114 : Int32) ≤ (0 : Int32)
                        ·
                          rw [if_pos g93, if_pos g93]
                          have g93l := g_lc3 g93
                          unfold S_DR_add_J285 F_DR_add_J285
                          have h254 := g_ad2 (z := lx114) ⟨by omega, by omega⟩; exact v_add hR (by with_reducible assumption) (by with_reducible assumption) (by with_reducible assumption) (by with_reducible assumption) (by with_reducible assumption) h68 h254 _ _ _ _ ⟨by omega, by omega⟩ (by omega) (by decide) (fun i hi hj => by omega)
                        ·
                          rw [if_neg g93, if_neg g93]
                          have g93l := g_lc4 g93
                          unfold S_DR_add_J285 F_DR_add_J285
                          have h254 := g_ad2 (z := lx91) ⟨by omega, by omega⟩; exact v_add hR (by with_reducible assumption) (by with_reducible assumption) (by with_reducible assumption) (by with_reducible assumption) (by with_reducible assumption) h68 h254 _ _ _ _ ⟨by omega, by omega⟩ (by omega) (by decide) (fun i hi hj => by omega)
                  ·
                    rw [if_neg g79, if_neg g79]
                    unfold S_DR_add_J189 F_DR_add_J189
                    with_reducible refine v_owe h71.1 ?_
                    rw [if_pos g72, if_pos g72]
                    with_reducible refine v_owe h74.1 ?_
                    rw [if_pos g75, if_pos g75]
                    by_cases g94 : (t3_0 x2.toNatClampNeg : Int32) = (1 : Int32)
                    ·
                      rw [if_pos g94, if_pos g94]
                      unfold S_DR_add_J218 F_DR_add_J218
                      unfold S_DR_add_J223 F_DR_add_J223
                      have g95 : ¬ ((1 : Int32) = (0 : Int32)) := (by decide)
                      rw [if_neg g95, if_neg g95]
                      unfold S_DR_add_J243 F_DR_add_J243
                      unfold S_DR_add_J244 F_DR_add_J244
                      have g96 : ((0 : Int32) = (0 : Int32)) := (by decide)
                      rw [if_pos g96, if_pos g96]
                      unfold S_DR_add_J256 F_DR_add_J256
                      have g97 : ((0 : Int32) = (0 : Int32)) := (by decide)
                      rw [if_pos g97, if_pos g97]
                      unfold S_DR_add_J268 F_DR_add_J268
                      by_cases g98 : (lg_cmp lx91 lx114 : Int32) ≤ (0 : Int32)
                      ·
                        rw [if_pos g98, if_pos g98]
                        have g98l := g_lc3 g98
                        unfold S_DR_add_J285 F_DR_add_J285
                        have h254 := g_ad2 (z := lx114) ⟨by omega, by omega⟩; exact v_add hR (by with_reducible assumption) (by with_reducible assumption) (by with_reducible assumption) (by with_reducible assumption) (by with_reducible assumption) h68 h254 _ _ _ _ ⟨by omega, by omega⟩ (by omega) (by decide) (fun i hi hj => by omega)
                      ·
                        rw [if_neg g98, if_neg g98]
                        have g98l := g_lc4 g98
                        unfold S_DR_add_J285 F_DR_add_J285
                        have h254 := g_ad2 (z := lx91) ⟨by omega, by omega⟩; exact v_add hR (by with_reducible assumption) (by with_reducible assumption) (by with_reducible assumption) (by with_reducible assumption) (by with_reducible assumption) h68 h254 _ _ _ _ ⟨by omega, by omega⟩ (by omega) (by decide) (fun i hi hj => by omega)
                    ·
                      rw [if_neg g94, if_neg g94]
                      unfold S_DR_add_J223 F_DR_add_J223
                      have g99 : ((0 : Int32) = (0 : Int32)) := (by decide)
                      rw [if_pos g99, if_pos g99]
                      have h100 := T_DR_compareSizes (x2 := x2) (x3 := x3) (t0_0 := (0 : Int32)) (t0_1 := t0_1) (t0_2 := t0_2) (t0_3 := t0_3) (t0_4 := t0_4) (t0_5 := t0_5) (t0_6 := t0_6) (t0_7 := t0_7) (t0_8 := t0_8) (t0_9 := t0_9) (t0_10 := (2 : Int32)) (t1_0 := t1_0) (t2_0 := t2_0) (t3_0 := t4_0) (fun i hi => (hR.2 i hi).1) (by with_reducible assumption) (by with_reducible assumption)
                      with_reducible refine v_owe h100 ?_
                      by_cases g101 : (0 : Int32) ≤ ((F_DR_compareSizes x2 x3 (0 : Int32) t0_1 t0_2 t0_3 t0_4 t0_5 t0_6 t0_7 t0_8 t0_9 (2 : Int32) t1_0 t2_0 t4_0) : Int32)
                      ·
                        rw [if_pos g101, if_pos g101]
                        unfold S_DR_add_J243 F_DR_add_J243
                        unfold S_DR_add_J244 F_DR_add_J244
                        have g102 : ((0 : Int32) = (0 : Int32)) := (by decide)
                        rw [if_pos g102, if_pos g102]
                        unfold S_DR_add_J256 F_DR_add_J256
                        have g103 : ((0 : Int32) = (0 : Int32)) := (by decide)
                        rw [if_pos g103, if_pos g103]
                        unfold S_DR_add_J268 F_DR_add_J268
                        by_cases g104 : (lg_cmp lx91 lx114 : Int32) ≤ (0 : Int32)
                        ·
                          rw [if_pos g104, if_pos g104]
                          have g104l := g_lc3 g104
                          unfold S_DR_add_J285 F_DR_add_J285
                          have h254 := g_ad2 (z := lx114) ⟨by omega, by omega⟩; exact v_add hR (by with_reducible assumption) (by with_reducible assumption) (by with_reducible assumption) (by with_reducible assumption) (by with_reducible assumption) h68 h254 _ _ _ _ ⟨by omega, by omega⟩ (by omega) (by decide) (fun i hi hj => by omega)
                        ·
                          rw [if_neg g104, if_neg g104]
                          have g104l := g_lc4 g104
                          unfold S_DR_add_J285 F_DR_add_J285
                          have h254 := g_ad2 (z := lx91) ⟨by omega, by omega⟩; exact v_add hR (by with_reducible assumption) (by with_reducible assumption) (by with_reducible assumption) (by with_reducible assumption) (by with_reducible assumption) h68 h254 _ _ _ _ ⟨by omega, by omega⟩ (by omega) (by decide) (fun i hi hj => by omega)
                      ·
                        rw [if_neg g101, if_neg g101]
                        unfold S_DR_add_J244 F_DR_add_J244
                        have g105 : ¬ ((1 : Int32) = (0 : Int32)) := (by decide)
                        rw [if_neg g105, if_neg g105]
                        unfold S_DR_add_J256 F_DR_add_J256
                        have g106 : ¬ ((1 : Int32) = (0 : Int32)) := (by decide)
                        rw [if_neg g106, if_neg g106]
                        unfold S_DR_add_J268 F_DR_add_J268
                        by_cases g107 : (lg_cmp lx91 lx114 : Int32) ≤ (0 : Int32)
                        ·
                          rw [if_pos g107, if_pos g107]
                          have g107l := g_lc3 g107
                          unfold S_DR_add_J285 F_DR_add_J285
                          have h254 := g_ad2 (z := lx114) ⟨by omega, by omega⟩; exact v_add hR (by with_reducible assumption) (by with_reducible assumption) (by with_reducible assumption) (by with_reducible assumption) (by with_reducible assumption) h68 h254 _ _ _ _ ⟨by omega, by omega⟩ (by omega) (by decide) (fun i hi hj => by omega)
                        ·
                          rw [if_neg g107, if_neg g107]
                          have g107l := g_lc4 g107
                          unfold S_DR_add_J285 F_DR_add_J285
                          have h254 := g_ad2 (z := lx91) ⟨by omega, by omega⟩; exact v_add hR (by with_reducible assumption) (by with_reducible assumption) (by with_reducible assumption) (by with_reducible assumption) (by with_reducible assumption) h68 h254 _ _ _ _ ⟨by omega, by omega⟩ (by omega) (by decide) (fun i hi hj => by omega)
                ·
                  rw [if_neg g78, if_neg g78]
                  have g78l := g_lc4 g78
                  refine ⟨trivial, ?_⟩
                  (unfold Q_DR_add; dsimp only; with_reducible assumption)
            ·
              rw [if_neg g75, if_neg g75]
              unfold S_DR_add_J139 F_DR_add_J139
              by_cases g108 : (0 : Int32) < (lg_cmp lx91 1001 : Int32)
              ·
                rw [if_pos g108, if_pos g108]
                have g108l := g_lc7 g108
                refine ⟨trivial, ?_⟩
                (unfold Q_DR_add; dsimp only; with_reducible assumption)
              ·
                rw [if_neg g108, if_neg g108]
                have g108l := g_lc8 g108
                by_cases g109 : (lg_cmp (1 : Int64) 1001 : Int32) ≤ (0 : Int32)
                ·
                  rw [if_pos g109, if_pos g109]
                  have g109l := g_lc3 g109
                  with_reducible refine v_owe h74.1 ?_
                  rw [if_neg g75, if_neg g75]
                  unfold S_DR_add_J188 F_DR_add_J188
                  unfold S_DR_add_J189 F_DR_add_J189
                  with_reducible refine v_owe h71.1 ?_
                  rw [if_pos g72, if_pos g72]
                  with_reducible refine v_owe h74.1 ?_
                  rw [if_neg g75, if_neg g75]
                  unfold S_DR_add_J218 F_DR_add_J218
                  unfold S_DR_add_J223 F_DR_add_J223
                  have g110 : ¬ ((1 : Int32) = (0 : Int32)) := (by decide)
                  rw [if_neg g110, if_neg g110]
                  unfold S_DR_add_J243 F_DR_add_J243
                  unfold S_DR_add_J244 F_DR_add_J244
                  have g111 : ((0 : Int32) = (0 : Int32)) := (by decide)
                  rw [if_pos g111, if_pos g111]
                  unfold S_DR_add_J256 F_DR_add_J256
                  have g112 : ((0 : Int32) = (0 : Int32)) := (by decide)
                  rw [if_pos g112, if_pos g112]
                  unfold S_DR_add_J268 F_DR_add_J268
                  by_cases g113 : (lg_cmp lx91 (1 : Int64) : Int32) ≤ (0 : Int32)
                  ·
                    rw [if_pos g113, if_pos g113]
                    have g113l := g_lc3 g113
                    unfold S_DR_add_J285 F_DR_add_J285
                    have h254 := g_ad2 (z := (1 : Int64)) ⟨by omega, by omega⟩; exact v_add hR (by with_reducible assumption) (by with_reducible assumption) (by with_reducible assumption) (by with_reducible assumption) (by with_reducible assumption) h68 h254 _ _ _ _ ⟨by omega, by omega⟩ (by omega) (by decide) (fun i hi hj => by omega)
                  ·
                    rw [if_neg g113, if_neg g113]
                    have g113l := g_lc4 g113
                    unfold S_DR_add_J285 F_DR_add_J285
                    have h254 := g_ad2 (z := lx91) ⟨by omega, by omega⟩; exact v_add hR (by with_reducible assumption) (by with_reducible assumption) (by with_reducible assumption) (by with_reducible assumption) (by with_reducible assumption) h68 h254 _ _ _ _ ⟨by omega, by omega⟩ (by omega) (by decide) (fun i hi hj => by omega)
                ·
                  rw [if_neg g109, if_neg g109]
                  have g109l := g_lc4 g109
                  refine ⟨trivial, ?_⟩
                  (unfold Q_DR_add; dsimp only; with_reducible assumption)
          ·
            rw [if_neg g72, if_neg g72]
            unfold S_DR_add_J107 F_DR_add_J107
            have h114 := R_dz (x2 := x3) (t0_0 := (0 : Int32)) (t0_1 := t0_1) (t0_2 := t0_2) (t0_3 := t0_3) (t0_4 := t0_4) (t0_5 := t0_5) (t0_6 := t0_6) (t0_7 := t0_7) (t0_8 := t0_8) (t0_9 := t0_9) (t0_10 := (2 : Int32)) (t1_0 := t1_0) (by with_reducible assumption)
            with_reducible refine v_owe h114.1 ?_
            by_cases g115 : ((F_DR_isZero x3 (0 : Int32) t0_1 t0_2 t0_3 t0_4 t0_5 t0_6 t0_7 t0_8 t0_9 (2 : Int32) t1_0) : Int32) = (0 : Int32)
            ·
              rw [if_pos g115, if_pos g115]
              obtain ⟨lx114, e116⟩ := q_nm (((((t2_0 x3.toNatClampNeg : Int32).toInt64 : Int64) + lx68 : Int64) - ((t4_0 x3.toNatClampNeg : Int32).toInt64 : Int64) : Int64) : Int64)
              rw [e116]
              have llx114 : 1 ≤ lx114.toInt := by rw [← e116]; exact g_ad1 (gR.at hR (by with_reducible assumption : 0 ≤ x3.toInt ∧ x3.toInt ≤ 9)).1 (gR.at hR (by with_reducible assumption : 0 ≤ x3.toInt ∧ x3.toInt ≤ 9)).2.2 h68 h68b
              unfold S_DR_add_J139 F_DR_add_J139
              by_cases g117 : (0 : Int32) < (lg_cmp (1 : Int64) 1001 : Int32)
              ·
                rw [if_pos g117, if_pos g117]
                have g117l := g_lc7 g117
                refine ⟨trivial, ?_⟩
                (unfold Q_DR_add; dsimp only; with_reducible assumption)
              ·
                rw [if_neg g117, if_neg g117]
                have g117l := g_lc8 g117
                by_cases g118 : (lg_cmp lx114 1001 : Int32) ≤ (0 : Int32)
                ·
                  rw [if_pos g118, if_pos g118]
                  have g118l := g_lc3 g118
                  with_reducible refine v_owe h114.1 ?_
                  rw [if_pos g115, if_pos g115]
                  by_cases g119 : (t3_0 x3.toNatClampNeg : Int32) = x5
                  ·
                    rw [if_pos g119, if_pos g119]
                    unfold S_DR_add_J188 F_DR_add_J188
                    unfold S_DR_add_J189 F_DR_add_J189
                    with_reducible refine v_owe h71.1 ?_
                    rw [if_neg g72, if_neg g72]
                    unfold S_DR_add_J218 F_DR_add_J218
                    unfold S_DR_add_J223 F_DR_add_J223
                    have g120 : ¬ ((1 : Int32) = (0 : Int32)) := (by decide)
                    rw [if_neg g120, if_neg g120]
                    unfold S_DR_add_J243 F_DR_add_J243
                    unfold S_DR_add_J244 F_DR_add_J244
                    have g121 : ((0 : Int32) = (0 : Int32)) := (by decide)
                    rw [if_pos g121, if_pos g121]
                    unfold S_DR_add_J256 F_DR_add_J256
                    have g122 : ((0 : Int32) = (0 : Int32)) := (by decide)
                    rw [if_pos g122, if_pos g122]
                    unfold S_DR_add_J268 F_DR_add_J268
                    by_cases g123 : (lg_cmp (1 : Int64) lx114 : Int32) ≤ (0 : Int32)
                    ·
                      rw [if_pos g123, if_pos g123]
                      have g123l := g_lc3 g123
                      unfold S_DR_add_J285 F_DR_add_J285
                      have h254 := g_ad2 (z := lx114) ⟨by omega, by omega⟩; exact v_add hR (by with_reducible assumption) (by with_reducible assumption) (by with_reducible assumption) (by with_reducible assumption) (by with_reducible assumption) h68 h254 _ _ _ _ ⟨by omega, by omega⟩ (by omega) (by decide) (fun i hi hj => by omega)
                    ·
                      rw [if_neg g123, if_neg g123]
                      have g123l := g_lc4 g123
                      unfold S_DR_add_J285 F_DR_add_J285
                      have h254 := g_ad2 (z := (1 : Int64)) ⟨by omega, by omega⟩; exact v_add hR (by with_reducible assumption) (by with_reducible assumption) (by with_reducible assumption) (by with_reducible assumption) (by with_reducible assumption) h68 h254 _ _ _ _ ⟨by omega, by omega⟩ (by omega) (by decide) (fun i hi hj => by omega)
                  ·
                    rw [if_neg g119, if_neg g119]
                    unfold S_DR_add_J189 F_DR_add_J189
                    with_reducible refine v_owe h71.1 ?_
                    rw [if_neg g72, if_neg g72]
                    unfold S_DR_add_J218 F_DR_add_J218
                    unfold S_DR_add_J223 F_DR_add_J223
                    have g124 : ¬ ((1 : Int32) = (0 : Int32)) := (by decide)
                    rw [if_neg g124, if_neg g124]
                    unfold S_DR_add_J243 F_DR_add_J243
                    unfold S_DR_add_J244 F_DR_add_J244
                    have g125 : ((0 : Int32) = (0 : Int32)) := (by decide)
                    rw [if_pos g125, if_pos g125]
                    unfold S_DR_add_J256 F_DR_add_J256
                    have g126 : ((0 : Int32) = (0 : Int32)) := (by decide)
                    rw [if_pos g126, if_pos g126]
                    unfold S_DR_add_J268 F_DR_add_J268
                    by_cases g127 : (lg_cmp (1 : Int64) lx114 : Int32) ≤ (0 : Int32)
                    ·
                      rw [if_pos g127, if_pos g127]
                      have g127l := g_lc3 g127
                      unfold S_DR_add_J285 F_DR_add_J285
                      have h254 := g_ad2 (z := lx114) ⟨by omega, by omega⟩; exact v_add hR (by with_reducible assumption) (by with_reducible assumption) (by with_reducible assumption) (by with_reducible assumption) (by with_reducible assumption) h68 h254 _ _ _ _ ⟨by omega, by omega⟩ (by omega) (by decide) (fun i hi hj => by omega)
                    ·
                      rw [if_neg g127, if_neg g127]
                      have g127l := g_lc4 g127
                      unfold S_DR_add_J285 F_DR_add_J285
                      have h254 := g_ad2 (z := (1 : Int64)) ⟨by omega, by omega⟩; exact v_add hR (by with_reducible assumption) (by with_reducible assumption) (by with_reducible assumption) (by with_reducible assumption) (by with_reducible assumption) h68 h254 _ _ _ _ ⟨by omega, by omega⟩ (by omega) (by decide) (fun i hi hj => by omega)
                ·
                  rw [if_neg g118, if_neg g118]
                  have g118l := g_lc4 g118
                  refine ⟨trivial, ?_⟩
                  (unfold Q_DR_add; dsimp only; with_reducible assumption)
            ·
              rw [if_neg g115, if_neg g115]
              unfold S_DR_add_J139 F_DR_add_J139
              by_cases g128 : (0 : Int32) < (lg_cmp (1 : Int64) 1001 : Int32)
              ·
                rw [if_pos g128, if_pos g128]
                have g128l := g_lc7 g128
                refine ⟨trivial, ?_⟩
                (unfold Q_DR_add; dsimp only; with_reducible assumption)
              ·
                rw [if_neg g128, if_neg g128]
                have g128l := g_lc8 g128
                by_cases g129 : (lg_cmp (1 : Int64) 1001 : Int32) ≤ (0 : Int32)
                ·
                  rw [if_pos g129, if_pos g129]
                  have g129l := g_lc3 g129
                  with_reducible refine v_owe h114.1 ?_
                  rw [if_neg g115, if_neg g115]
                  unfold S_DR_add_J188 F_DR_add_J188
                  unfold S_DR_add_J189 F_DR_add_J189
                  with_reducible refine v_owe h71.1 ?_
                  rw [if_neg g72, if_neg g72]
                  unfold S_DR_add_J218 F_DR_add_J218
                  unfold S_DR_add_J223 F_DR_add_J223
                  have g130 : ¬ ((1 : Int32) = (0 : Int32)) := (by decide)
                  rw [if_neg g130, if_neg g130]
                  unfold S_DR_add_J243 F_DR_add_J243
                  unfold S_DR_add_J244 F_DR_add_J244
                  have g131 : ((0 : Int32) = (0 : Int32)) := (by decide)
                  rw [if_pos g131, if_pos g131]
                  unfold S_DR_add_J256 F_DR_add_J256
                  have g132 : ((0 : Int32) = (0 : Int32)) := (by decide)
                  rw [if_pos g132, if_pos g132]
                  unfold S_DR_add_J268 F_DR_add_J268
                  by_cases g133 : (lg_cmp (1 : Int64) (1 : Int64) : Int32) ≤ (0 : Int32)
                  ·
                    rw [if_pos g133, if_pos g133]
                    have g133l := g_lc3 g133
                    unfold S_DR_add_J285 F_DR_add_J285
                    have h254 := g_ad2 (z := (1 : Int64)) ⟨by omega, by omega⟩; exact v_add hR (by with_reducible assumption) (by with_reducible assumption) (by with_reducible assumption) (by with_reducible assumption) (by with_reducible assumption) h68 h254 _ _ _ _ ⟨by omega, by omega⟩ (by omega) (by decide) (fun i hi hj => by omega)
                  ·
                    rw [if_neg g133, if_neg g133]
                    have g133l := g_lc4 g133
                    unfold S_DR_add_J285 F_DR_add_J285
                    have h254 := g_ad2 (z := (1 : Int64)) ⟨by omega, by omega⟩; exact v_add hR (by with_reducible assumption) (by with_reducible assumption) (by with_reducible assumption) (by with_reducible assumption) (by with_reducible assumption) h68 h254 _ _ _ _ ⟨by omega, by omega⟩ (by omega) (by decide) (fun i hi hj => by omega)
                ·
                  rw [if_neg g129, if_neg g129]
                  have g129l := g_lc4 g129
                  refine ⟨trivial, ?_⟩
                  (unfold Q_DR_add; dsimp only; with_reducible assumption)
      ·
        rw [if_neg g3, if_neg g3]
        unfold S_DR_add_J22 F_DR_add_J22
        unfold S_DR_add_J27 F_DR_add_J27
        have g134 : ¬ ((1 : Int32) ≤ (0 : Int32)) := (by decide)
        rw [if_neg g134, if_neg g134]
        refine ⟨trivial, ?_⟩
        (unfold Q_DR_add; dsimp only; with_reducible assumption)
    ·
      rw [if_neg g2, if_neg g2]
      unfold S_DR_add_J22 F_DR_add_J22
      unfold S_DR_add_J27 F_DR_add_J27
      have g135 : ¬ ((1 : Int32) ≤ (0 : Int32)) := (by decide)
      rw [if_neg g135, if_neg g135]
      refine ⟨trivial, ?_⟩
      (unfold Q_DR_add; dsimp only; with_reducible assumption)
  ·
    rw [if_neg g1, if_neg g1]
    unfold S_DR_add_J22 F_DR_add_J22
    unfold S_DR_add_J27 F_DR_add_J27
    have g136 : ¬ ((1 : Int32) ≤ (0 : Int32)) := (by decide)
    rw [if_neg g136, if_neg g136]
    refine ⟨trivial, ?_⟩
    (unfold Q_DR_add; dsimp only; with_reducible assumption)
