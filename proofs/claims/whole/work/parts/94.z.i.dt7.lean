/-! DecimalRows: loadUnder, beginQuotient, isLeft, append -/
theorem u_p1 {f : Nat → Int32} {u : Nat} (h : gO f u) (h1 : 1 ≤ u) (h0 : f 0 ≠ 0) : wL 0 (uV f u) := by
  obtain ⟨k, rfl⟩ : ∃ k, u = k + 1 := ⟨u - 1, by omega⟩
  show 0 < uV f (k + 1)
  rw [u_tl]
  have a := (h 0 (by omega)).1
  have b : (f 0).toInt ≠ 0 := fun e => h0 (Int32.toInt_inj.mp (by rw [e]; rfl))
  have c := Int.mul_le_mul_of_nonneg_right (show 1 ≤ (f 0).toInt by omega) (Int.le_of_lt (u_pos k))
  have d := u_pos k
  have e : 0 ≤ uV (fun i => f (i + 1)) k := u_nn (fun i hi => h (i + 1) (by omega))
  rw [Int.one_mul] at c
  generalize (f 0).toInt * 10 ^ k = x at *
  generalize (10 : Int) ^ k = y at *
  omega
theorem u_ldS {f K : Nat → Int32} {x k k1 v : Int32} (hx : 0 ≤ x.toInt ∧ x.toInt ≤ 9) (h1 : k1.toInt = k.toInt + 1) (hk : 0 ≤ k.toInt) (ho : ∀ i : Nat, (i : Int) < k.toInt → 0 ≤ (f i).toInt ∧ (f i).toInt ≤ 9) (hz : 0 < k.toInt → f 0 = K (1000 * x : Int32).toNatClampNeg) (hv : 0 ≤ v.toInt ∧ v.toInt ≤ 9) (hw : k.toInt = 0 → v = K (1000 * x : Int32).toNatClampNeg) : (∀ i : Nat, (i : Int) < k1.toInt → 0 ≤ (upd f k.toNatClampNeg v i).toInt ∧ (upd f k.toNatClampNeg v i).toInt ≤ 9) ∧ (0 < k1.toInt → upd f k.toNatClampNeg v 0 = K (1000 * x : Int32).toNatClampNeg) := by
  have e := q_clI (i := k) rfl hk
  refine ⟨fun i hi => ?_, fun _ => ?_⟩
  · by_cases c : i = k.toNatClampNeg
    · rw [c, v_eq]; exact hv
    · rw [v_ne c]; exact ho i (by omega)
  · by_cases c : k.toInt = 0
    · have : k.toNatClampNeg = 0 := by omega
      rw [this, v_eq]; exact hw c
    · rw [v_ne (by omega)]; exact hz (by omega)
theorem u_k0 {K : Nat → Int32} {x k : Int32} (hx : 0 ≤ x.toInt ∧ x.toInt ≤ 9) (hk : k.toInt = 0) : K ((1000 * x) + k : Int32).toNatClampNeg = K (1000 * x : Int32).toNatClampNeg := by
  have e1 := (g_ix hx ⟨by omega, by omega⟩ (k := k)).1
  have e2 := q_clI (i := (1000 * x) + k) e1 (by omega)
  have e3 := q_clI (i := 1000 * x) (g_i0 hx) (by omega)
  have e4 : ((1000 * x) + k : Int32).toNatClampNeg = (1000 * x : Int32).toNatClampNeg := by omega
  rw [e4]
def Q_DR_loadUnder (x2 x3 t0_0 t0_1 t0_2 : Int32) (t0_3 : Int64) (t0_4 t0_5 t0_10 : Int32) (t1_0 t2_0 : Nat → Int32) (p : Int32 × Int32 × Int32 × Int64 × Int32 × Int32 × Int32 × Int32 × Int32 × Int32 × Int32 × (Nat → Int32)) : Prop := (p.2.2.2.2.2.2.2.1.toInt = (t2_0 x2.toNatClampNeg).toInt + x3.toInt) ∧ gO p.2.2.2.2.2.2.2.2.2.2.2 p.2.2.2.2.2.2.2.1.toNatClampNeg ∧ (p.2.2.2.2.2.2.2.2.2.2.2 0 = t1_0 (1000 * x2 : Int32).toNatClampNeg) ∧ p.1 = t0_0 ∧ p.2.1 = t0_1 ∧ p.2.2.1 = t0_2 ∧ p.2.2.2.1 = t0_3 ∧ p.2.2.2.2.1 = t0_4 ∧ p.2.2.2.2.2.1 = t0_5 ∧ p.2.2.2.2.2.2.2.2.2.2.1 = t0_10
theorem v_ldu {x2 : Int32} {x3 : Int32} {t0_0 : Int32} {t0_1 : Int32} {t0_2 : Int32} {t0_3 : Int64} {t0_4 : Int32} {t0_5 : Int32} {t0_6 : Int32} {t0_7 : Int32} {t0_8 : Int32} {t0_9 : Int32} {t0_10 : Int32} {t1_0 : (Nat → Int32)} {t2_0 : (Nat → Int32)} {t3_0 : (Nat → Int32)} {a30 : Int32} (hk : gO t1_0 10000) (hm : 1 ≤ (t2_0 x2.toNatClampNeg).toInt ∧ (t2_0 x2.toNatClampNeg).toInt ≤ 1000) (hx : 0 ≤ x2.toInt ∧ x2.toInt ≤ 9) (ha : 1 ≤ a30.toInt ∧ a30.toInt ≤ 2199) (ea : a30.toInt = (t2_0 x2.toNatClampNeg).toInt + x3.toInt) : ∀ (n : Nat) (lx35 : Int32) (lx36 : (Nat → Int32)), (0 ≤ lx35.toInt ∧ lx35.toInt ≤ a30.toInt) → (4100 - lx35.toInt < (n : Int)) → (∀ i : Nat, (i : Int) < lx35.toInt → 0 ≤ (lx36 i).toInt ∧ (lx36 i).toInt ≤ 9) → (0 < lx35.toInt → lx36 0 = t1_0 (1000 * x2 : Int32).toNatClampNeg) → (S_DR_loadUnder_L14 x2 x3 t0_0 t0_1 t0_2 t0_3 t0_4 t0_5 t0_6 t0_7 t0_8 t0_9 t0_10 t1_0 t2_0 t3_0 a30 n lx35 lx36) ∧ Q_DR_loadUnder x2 x3 t0_0 t0_1 t0_2 t0_3 t0_4 t0_5 t0_10 t1_0 t2_0 (F_DR_loadUnder_L14 x2 x3 t0_0 t0_1 t0_2 t0_3 t0_4 t0_5 t0_6 t0_7 t0_8 t0_9 t0_10 t1_0 t2_0 t3_0 a30 n lx35 lx36) := by
  intro n
  induction n with
  | zero => intro lx35 lx36 h0 hm2 ho hz; exact absurd (show False by omega) id
  | succ n ih =>
    intro lx35 lx36 h0 hm2 ho hz
    have e0 : (0 : Int32).toInt = 0 := rfl
    rw [S_DR_loadUnder_L14.eq_2, F_DR_loadUnder_L14.eq_2]
    by_cases g1 : a30 ≤ lx35
    ·
      rw [if_pos g1, if_pos g1]
      have g1i : a30.toInt ≤ lx35.toInt := q_leI g1
      refine ⟨trivial, ?_⟩
      (unfold Q_DR_loadUnder; dsimp only; exact ⟨ea, fun i hi => ho i (by have := q_clI (i := a30) rfl (by omega); omega), hz (by omega), rfl, rfl, rfl, rfl, rfl, rfl, rfl⟩)
    ·
      rw [if_neg g1, if_neg g1]
      have g1i : lx35.toInt < a30.toInt := q_nleI g1
      by_cases g2 : (t2_0 x2.toNatClampNeg : Int32) ≤ lx35
      ·
        rw [if_pos g2, if_pos g2]
        have g2i := q_leI g2
        refine v_cons (by omega) ?_
        obtain ⟨a3, e4⟩ := q_nm (lx35 + 1 : Int32)
        rw [e4]
        have a3i : a3.toInt = lx35.toInt + 1 := by rw [← e4]; exact q_addI (x := lx35.toInt) (y := 1) rfl (by decide) (by omega) (by omega)
        have hs := u_ldS (K := t1_0) hx a3i h0.1 ho hz (v := 0) (by decide) (fun h => by omega); exact ih _ _ ⟨by omega, by omega⟩ (by omega) hs.1 hs.2
      ·
        rw [if_neg g2, if_neg g2]
        have g2i := q_nleI g2
        refine v_cons (by have := (g_ix (x := x2) (k := lx35) (by with_reducible assumption) ⟨by omega, by omega⟩).1; omega) ?_
        refine v_cons (by omega) ?_
        obtain ⟨a5, e6⟩ := q_nm (lx35 + 1 : Int32)
        rw [e6]
        have a5i : a5.toInt = lx35.toInt + 1 := by rw [← e6]; exact q_addI (x := lx35.toInt) (y := 1) rfl (by decide) (by omega) (by omega)
        have hs := u_ldS (K := t1_0) hx a5i h0.1 ho hz (g_kx hk hx (by omega) (by omega)) (fun h => u_k0 hx h); exact ih _ _ ⟨by omega, by omega⟩ (by omega) hs.1 hs.2
theorem T_DR_loadUnder {x2 : Int32} {x3 : Int32} {t0_0 : Int32} {t0_1 : Int32} {t0_2 : Int32} {t0_3 : Int64} {t0_4 : Int32} {t0_5 : Int32} {t0_6 : Int32} {t0_7 : Int32} {t0_8 : Int32} {t0_9 : Int32} {t0_10 : Int32} {t1_0 : (Nat → Int32)} {t2_0 : (Nat → Int32)} {t3_0 : (Nat → Int32)} (hk : gO t1_0 10000) (hm : 1 ≤ (t2_0 x2.toNatClampNeg).toInt ∧ (t2_0 x2.toNatClampNeg).toInt ≤ 1000) (hx : 0 ≤ x2.toInt ∧ x2.toInt ≤ 9) (h3 : 0 ≤ x3.toInt ∧ (t2_0 x2.toNatClampNeg).toInt + x3.toInt ≤ 2199) : (S_DR_loadUnder x2 x3 t0_0 t0_1 t0_2 t0_3 t0_4 t0_5 t0_6 t0_7 t0_8 t0_9 t0_10 t1_0 t2_0 t3_0) ∧ Q_DR_loadUnder x2 x3 t0_0 t0_1 t0_2 t0_3 t0_4 t0_5 t0_10 t1_0 t2_0 (F_DR_loadUnder x2 x3 t0_0 t0_1 t0_2 t0_3 t0_4 t0_5 t0_6 t0_7 t0_8 t0_9 t0_10 t1_0 t2_0 t3_0) := by
  have e0 : (0 : Int32).toInt = 0 := rfl
  have ea : (t2_0 x2.toNatClampNeg + x3 : Int32).toInt = (t2_0 x2.toNatClampNeg).toInt + x3.toInt := q_addI rfl rfl (by omega) (by omega)
  unfold S_DR_loadUnder F_DR_loadUnder
  refine v_cons (by omega) ?_
  refine v_cons (by omega) ?_
  exact v_ldu hk hm hx ⟨by omega, by omega⟩ ea _ _ _ (by omega) (by decide) (fun i hi => by omega) (fun h => by omega)
def Q_DR_beginQuotient (t0_0 t0_1 : Int32) (t0_3 : Int64) (t0_4 t0_5 t0_7 t0_10 : Int32) (p : Int32 × Int32 × Int32 × Int64 × Int32 × Int32 × Int32 × Int32 × Int32 × Int32 × Int32 × (Nat → Int32)) : Prop := (∀ i : Nat, (i : Int) ≤ t0_7.toInt → p.2.2.2.2.2.2.2.2.2.2.2 i = 0) ∧ p.1 = t0_0 ∧ p.2.1 = t0_1 ∧ p.2.2.1 = 0 ∧ p.2.2.2.1 = t0_3 ∧ p.2.2.2.2.1 = t0_4 ∧ p.2.2.2.2.2.1 = t0_5 ∧ p.2.2.2.2.2.2.2.1 = t0_7 ∧ p.2.2.2.2.2.2.2.2.2.2.1 = t0_10
theorem v_beg {t0_0 : Int32} {t0_1 : Int32} {t0_2 : Int32} {t0_3 : Int64} {t0_4 : Int32} {t0_5 : Int32} {t0_6 : Int32} {t0_7 : Int32} {t0_8 : Int32} {t0_9 : Int32} {t0_10 : Int32} {t1_0 : (Nat → Int32)} (h7 : 0 ≤ t0_7.toInt ∧ t0_7.toInt ≤ 2200) : ∀ (n : Nat) (lx21 : Int32) (lx22 : (Nat → Int32)), (0 ≤ lx21.toInt ∧ lx21.toInt ≤ t0_7.toInt + 1) → (4100 - lx21.toInt < (n : Int)) → (∀ i : Nat, (i : Int) < lx21.toInt → lx22 i = 0) → (S_DR_beginQuotient_L2 t0_0 t0_1 t0_2 t0_3 t0_4 t0_5 t0_6 t0_7 t0_8 t0_9 t0_10 t1_0 n lx21 lx22) ∧ Q_DR_beginQuotient t0_0 t0_1 t0_3 t0_4 t0_5 t0_7 t0_10 (F_DR_beginQuotient_L2 t0_0 t0_1 t0_2 t0_3 t0_4 t0_5 t0_6 t0_7 t0_8 t0_9 t0_10 t1_0 n lx21 lx22) := by
  intro n
  induction n with
  | zero => intro lx21 lx22 h0 hm ho; exact absurd (show False by omega) id
  | succ n ih =>
    intro lx21 lx22 h0 hm ho
    rw [S_DR_beginQuotient_L2.eq_2, F_DR_beginQuotient_L2.eq_2]
    by_cases g1 : t0_7 < lx21
    ·
      rw [if_pos g1, if_pos g1]
      have g1i : t0_7.toInt < lx21.toInt := q_ltI g1
      refine ⟨trivial, ?_⟩
      (unfold Q_DR_beginQuotient; dsimp only; exact ⟨fun i hi => ho i (by omega), rfl, rfl, rfl, rfl, rfl, rfl, rfl, rfl⟩)
    ·
      rw [if_neg g1, if_neg g1]
      have g1i : lx21.toInt ≤ t0_7.toInt := q_nltI g1
      refine v_cons (by omega) ?_
      obtain ⟨a2, e3⟩ := q_nm (lx21 + 1 : Int32)
      rw [e3]
      have a2i : a2.toInt = lx21.toInt + 1 := by rw [← e3]; exact q_addI (x := lx21.toInt) (y := 1) rfl (by decide) (by omega) (by omega)
      exact ih _ _ ⟨by omega, by omega⟩ (by omega) (g_fill0 a2i h0.1 ho)
theorem T_DR_beginQuotient {t0_0 : Int32} {t0_1 : Int32} {t0_2 : Int32} {t0_3 : Int64} {t0_4 : Int32} {t0_5 : Int32} {t0_6 : Int32} {t0_7 : Int32} {t0_8 : Int32} {t0_9 : Int32} {t0_10 : Int32} {t1_0 : (Nat → Int32)} (h7 : 0 ≤ t0_7.toInt ∧ t0_7.toInt ≤ 2200) : (S_DR_beginQuotient t0_0 t0_1 t0_2 t0_3 t0_4 t0_5 t0_6 t0_7 t0_8 t0_9 t0_10 t1_0) ∧ Q_DR_beginQuotient t0_0 t0_1 t0_3 t0_4 t0_5 t0_7 t0_10 (F_DR_beginQuotient t0_0 t0_1 t0_2 t0_3 t0_4 t0_5 t0_6 t0_7 t0_8 t0_9 t0_10 t1_0) := by
  have e0 : (0 : Int32).toInt = 0 := rfl
  unfold S_DR_beginQuotient F_DR_beginQuotient
  exact v_beg h7 _ _ _ (by omega) (by decide) (fun i hi => by omega)
theorem v_isl {t0_0 : Int32} {t0_1 : Int32} {t0_2 : Int32} {t0_3 : Int64} {t0_4 : Int32} {t0_5 : Int32} {t0_6 : Int32} {t0_7 : Int32} {t0_8 : Int32} {t0_9 : Int32} {t0_10 : Int32} {t1_0 : (Nat → Int32)} (h7 : 0 ≤ t0_7.toInt ∧ t0_7.toInt ≤ 2200) : ∀ (n : Nat) (lx22 : Int32) (lx23 : Int32), (0 ≤ lx22.toInt ∧ lx22.toInt ≤ t0_7.toInt + 1) → (4100 - lx22.toInt < (n : Int)) → (S_DR_isLeft_L4 t0_0 t0_1 t0_2 t0_3 t0_4 t0_5 t0_6 t0_7 t0_8 t0_9 t0_10 t1_0 n lx22 lx23) := by
  intro n
  induction n with
  | zero => intro lx22 lx23 h0 hm; exact absurd (show False by omega) id
  | succ n ih =>
    intro lx22 lx23 h0 hm
    rw [S_DR_isLeft_L4.eq_2]
    by_cases g1 : t0_7 < lx22
    ·
      rw [if_pos g1]
      have g1i : t0_7.toInt < lx22.toInt := q_ltI g1
      exact trivial
    ·
      rw [if_neg g1]
      have g1i : lx22.toInt ≤ t0_7.toInt := q_nltI g1
      by_cases g2 : lx23 = (0 : Int32)
      ·
        rw [if_pos g2]
        refine And.intro (by omega) ?_
        refine And.intro (by omega) ?_
        by_cases g3 : (t1_0 lx22.toNatClampNeg : Int32) = (0 : Int32)
        ·
          rw [if_pos g3]
          obtain ⟨a4, e5⟩ := q_nm (lx22 + 1 : Int32)
          rw [e5]
          have a4i : a4.toInt = lx22.toInt + 1 := by rw [← e5]; exact q_addI (x := lx22.toInt) (y := 1) rfl (by decide) (by omega) (by omega)
          exact ih _ _ (by first | with_reducible assumption | omega | decide) (by first | with_reducible assumption | omega | decide)
        ·
          rw [if_neg g3]
          obtain ⟨a6, e7⟩ := q_nm (lx22 + 1 : Int32)
          rw [e7]
          have a6i : a6.toInt = lx22.toInt + 1 := by rw [← e7]; exact q_addI (x := lx22.toInt) (y := 1) rfl (by decide) (by omega) (by omega)
          exact ih _ _ (by first | with_reducible assumption | omega | decide) (by first | with_reducible assumption | omega | decide)
      ·
        rw [if_neg g2]
        obtain ⟨a8, e9⟩ := q_nm (lx22 + 1 : Int32)
        rw [e9]
        have a8i : a8.toInt = lx22.toInt + 1 := by rw [← e9]; exact q_addI (x := lx22.toInt) (y := 1) rfl (by decide) (by omega) (by omega)
        exact ih _ _ (by first | with_reducible assumption | omega | decide) (by first | with_reducible assumption | omega | decide)
theorem T_DR_isLeft {t0_0 : Int32} {t0_1 : Int32} {t0_2 : Int32} {t0_3 : Int64} {t0_4 : Int32} {t0_5 : Int32} {t0_6 : Int32} {t0_7 : Int32} {t0_8 : Int32} {t0_9 : Int32} {t0_10 : Int32} {t1_0 : (Nat → Int32)} (h7 : 0 ≤ t0_7.toInt ∧ t0_7.toInt ≤ 2200) : (S_DR_isLeft t0_0 t0_1 t0_2 t0_3 t0_4 t0_5 t0_6 t0_7 t0_8 t0_9 t0_10 t1_0) := by
  have e0 : (0 : Int32).toInt = 0 := rfl
  unfold S_DR_isLeft
  exact v_isl h7 _ _ _ (by omega) (by decide)
def Q_DR_append (t0_0 t0_1 t0_2 : Int32) (t0_3 : Int64) (t0_4 t0_5 t0_7 t0_10 : Int32) (p : Int32 × Int32 × Int32 × Int64 × Int32 × Int32 × Int32 × Int32 × Int32 × Int32 × Int32 × (Nat → Int32)) : Prop := (t0_2.toInt ≤ p.2.2.1.toInt ∧ p.2.2.1.toInt ≤ t0_2.toInt + 1) ∧ gO p.2.2.2.2.2.2.2.2.2.2.2 p.2.2.1.toNatClampNeg ∧ (p.2.2.1.toInt = 0 ∨ p.2.2.2.2.2.2.2.2.2.2.2 0 ≠ 0) ∧ p.1 = t0_0 ∧ p.2.1 = t0_1 ∧ p.2.2.2.1 = t0_3 ∧ p.2.2.2.2.1 = t0_4 ∧ p.2.2.2.2.2.1 = t0_5 ∧ p.2.2.2.2.2.2.2.1 = t0_7 ∧ p.2.2.2.2.2.2.2.2.2.2.1 = t0_10
theorem u_app {f : Nat → Int32} {k x : Int32} (hk : 0 ≤ k.toInt ∧ k.toInt ≤ 4398) (h : gO f k.toNatClampNeg) (hx : 0 ≤ x.toInt ∧ x.toInt ≤ 9) (hz : k.toInt = 0 ∨ f 0 ≠ 0) (hp : 0 < k.toInt ∨ 0 < x.toInt) : (k.toInt ≤ (k + 1 : Int32).toInt ∧ (k + 1 : Int32).toInt ≤ k.toInt + 1) ∧ gO (upd f k.toNatClampNeg x) (k + 1 : Int32).toNatClampNeg ∧ ((k + 1 : Int32).toInt = 0 ∨ upd f k.toNatClampNeg x 0 ≠ 0) := by
  have e1 : (k + 1 : Int32).toInt = k.toInt + 1 := q_addI (y := 1) rfl (by decide) (by omega) (by omega)
  have e2 := q_clI (i := k) rfl hk.1
  have e3 := q_clI (i := k + 1) e1 (by omega)
  have e4 : (k + 1 : Int32).toNatClampNeg = k.toNatClampNeg + 1 := by omega
  refine ⟨by omega, by rw [e4]; exact gO_push h hx, Or.inr ?_⟩
  by_cases c : k.toInt = 0
  · have : k.toNatClampNeg = 0 := by omega
    rw [this, v_eq]
    intro e
    have h9 : x.toInt = 0 := by rw [e]; rfl
    omega
  · rw [v_ne (by omega)]
    rcases hz with h9 | h9
    · exact absurd h9 c
    · exact h9
theorem T_DR_append {x2 : Int32} {t0_0 : Int32} {t0_1 : Int32} {t0_2 : Int32} {t0_3 : Int64} {t0_4 : Int32} {t0_5 : Int32} {t0_6 : Int32} {t0_7 : Int32} {t0_8 : Int32} {t0_9 : Int32} {t0_10 : Int32} {t1_0 : (Nat → Int32)} (h2 : 0 ≤ t0_2.toInt ∧ t0_2.toInt ≤ 4398) (hg : gO t1_0 t0_2.toNatClampNeg) (hx : 0 ≤ x2.toInt ∧ x2.toInt ≤ 9) (hz : t0_2.toInt = 0 ∨ t1_0 0 ≠ 0) : (S_DR_append x2 t0_0 t0_1 t0_2 t0_3 t0_4 t0_5 t0_6 t0_7 t0_8 t0_9 t0_10 t1_0) ∧ Q_DR_append t0_0 t0_1 t0_2 t0_3 t0_4 t0_5 t0_7 t0_10 (F_DR_append x2 t0_0 t0_1 t0_2 t0_3 t0_4 t0_5 t0_6 t0_7 t0_8 t0_9 t0_10 t1_0) := by
  have e0 : (0 : Int32).toInt = 0 := rfl
  unfold S_DR_append F_DR_append
  by_cases g1 : (0 : Int32) < t0_2
  ·
    rw [if_pos g1, if_pos g1]
    have g1i : 0 < t0_2.toInt := q_ltI g1
    refine v_cons (by omega) ?_
    refine ⟨trivial, ?_⟩
    (unfold Q_DR_append; dsimp only; first | exact ⟨(u_app h2 hg hx hz (by omega)).1, (u_app h2 hg hx hz (by omega)).2.1, (u_app h2 hg hx hz (by omega)).2.2, rfl, rfl, rfl, rfl, rfl, rfl, rfl⟩ | exact ⟨by omega, hg, hz, rfl, rfl, rfl, rfl, rfl, rfl, rfl⟩)
  ·
    rw [if_neg g1, if_neg g1]
    have g1i : t0_2.toInt ≤ 0 := q_nltI g1
    by_cases g2 : x2 ≤ (0 : Int32)
    ·
      rw [if_pos g2, if_pos g2]
      have g2i : x2.toInt ≤ 0 := q_leI g2
      refine ⟨trivial, ?_⟩
      (unfold Q_DR_append; dsimp only; first | exact ⟨(u_app h2 hg hx hz (by omega)).1, (u_app h2 hg hx hz (by omega)).2.1, (u_app h2 hg hx hz (by omega)).2.2, rfl, rfl, rfl, rfl, rfl, rfl, rfl⟩ | exact ⟨by omega, hg, hz, rfl, rfl, rfl, rfl, rfl, rfl, rfl⟩)
    ·
      rw [if_neg g2, if_neg g2]
      have g2i : 0 < x2.toInt := q_nleI g2
      refine v_cons (by omega) ?_
      refine ⟨trivial, ?_⟩
      (unfold Q_DR_append; dsimp only; first | exact ⟨(u_app h2 hg hx hz (by omega)).1, (u_app h2 hg hx hz (by omega)).2.1, (u_app h2 hg hx hz (by omega)).2.2, rfl, rfl, rfl, rfl, rfl, rfl, rfl⟩ | exact ⟨by omega, hg, hz, rfl, rfl, rfl, rfl, rfl, rfl, rfl⟩)
