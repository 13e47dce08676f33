/-! DecimalRows: remainder -/
theorem u_cs {x2 : Int32} {x3 : Int32} {t0_0 : Int32} {t0_1 : Int32} {t0_2 : Int32} {t0_3 : Int64} {t0_4 : Int32} {t0_5 : Int32} {t0_6 : Int32} {t0_7 : Int32} {t0_8 : Int32} {t0_9 : Int32} {t0_10 : Int32} {t1_0 : (Nat → Int32)} {t2_0 : (Nat → Int32)} {t3_0 : (Nat → Int32)} (h2 : 1 ≤ (t2_0 x2.toNatClampNeg).toInt ∧ (t2_0 x2.toNatClampNeg).toInt ≤ 1000) (h3 : 1 ≤ (t2_0 x3.toNatClampNeg).toInt ∧ (t2_0 x3.toNatClampNeg).toInt ≤ 1000) (k2 : -10000 ≤ (t3_0 x2.toNatClampNeg).toInt ∧ (t3_0 x2.toNatClampNeg).toInt ≤ 10000) (k3 : -10000 ≤ (t3_0 x3.toNatClampNeg).toInt ∧ (t3_0 x3.toNatClampNeg).toInt ≤ 10000) (h : (0 : Int32) ≤ F_DR_compareSizes x2 x3 t0_0 t0_1 t0_2 t0_3 t0_4 t0_5 t0_6 t0_7 t0_8 t0_9 t0_10 t1_0 t2_0 t3_0) : (t2_0 x3.toNatClampNeg).toInt - (t3_0 x3.toNatClampNeg).toInt ≤ (t2_0 x2.toNatClampNeg).toInt - (t3_0 x2.toNatClampNeg).toInt := by
  unfold F_DR_compareSizes at h
  have e1 : ((t2_0 x2.toNatClampNeg).toInt64 - (t3_0 x2.toNatClampNeg).toInt64 : Int64).toInt = (t2_0 x2.toNatClampNeg).toInt - (t3_0 x2.toNatClampNeg).toInt := q_subL (q_i2l rfl) (q_i2l rfl) (by omega) (by omega)
  have e2 : ((t2_0 x3.toNatClampNeg).toInt64 - (t3_0 x3.toNatClampNeg).toInt64 : Int64).toInt = (t2_0 x3.toNatClampNeg).toInt - (t3_0 x3.toNatClampNeg).toInt := q_subL (q_i2l rfl) (q_i2l rfl) (by omega) (by omega)
  by_cases c : lg_cmp ((t2_0 x2.toNatClampNeg).toInt64 - (t3_0 x2.toNatClampNeg).toInt64 : Int64) ((t2_0 x3.toNatClampNeg).toInt64 - (t3_0 x3.toNatClampNeg).toInt64 : Int64) = 0
  · have := v_cmp0 c
    omega
  · rw [if_neg c] at h
    by_cases d : 0 ≤ lg_cmp ((t2_0 x2.toNatClampNeg).toInt64 - (t3_0 x2.toNatClampNeg).toInt64 : Int64) ((t2_0 x3.toNatClampNeg).toInt64 - (t3_0 x3.toNatClampNeg).toInt64 : Int64)
    · have := g_lc5 d
      omega
    · rw [if_neg d] at h
      exact absurd h (by decide)
theorem u_rm {m c : Int32} {s : Int64} (hm : 1 ≤ m.toInt ∧ m.toInt ≤ 1000) (hc : -10000 ≤ c.toInt ∧ c.toInt ≤ 10000) (hs : -10000 ≤ s.toInt ∧ s.toInt ≤ 10000) : (m.toInt64 + s - c.toInt64 : Int64).toInt = m.toInt + s.toInt - c.toInt := by
  have e1 : (m.toInt64 + s : Int64).toInt = m.toInt + s.toInt := q_addL (q_i2l rfl) rfl (by omega) (by omega)
  exact q_subL e1 (q_i2l rfl) (by omega) (by omega)
theorem u_bh {c : Int32} {s : Int64} (hc : -10000 ≤ c.toInt ∧ c.toInt ≤ 10000) (hs : -10000 ≤ s.toInt ∧ s.toInt ≤ 10000) : ((s - c.toInt64 : Int64).toInt32).toInt = s.toInt - c.toInt := by
  have e1 : (s - c.toInt64 : Int64).toInt = s.toInt - c.toInt := q_subL rfl (q_i2l rfl) (by omega) (by omega)
  rw [s_l2i (by omega) (by omega), e1]
def Q_DR_remainder (p : Int32 × Int32 × Int32 × Int64 × Int32 × Int32 × Int32 × Int32 × Int32 × Int32 × Int32 × (Nat → Int32) × (Nat → Int32) × (Nat → Int32) × (Nat → Int32) × (Nat → Int32) × (Nat → Int32) × (Nat → Int32)) : Prop := gR p.2.2.2.2.2.2.2.2.2.2.2.1 p.2.2.2.2.2.2.2.2.2.2.2.2.1 p.2.2.2.2.2.2.2.2.2.2.2.2.2.1 p.2.2.2.2.2.2.2.2.2.2.2.2.2.2.1
theorem v_rm2 {K_F_DR_remainder_L203 : Int64 → (Nat → Int32) → (Int32 × Int32 × Int32 × Int64 × Int32 × Int32 × Int32 × Int32 × Int32 × Int32 × Int32 × (Nat → Int32) × (Nat → Int32) × (Nat → Int32) × (Nat → Int32) × (Nat → Int32) × (Nat → Int32) × (Nat → Int32))} {x2 : Int32} {x3 : Int32} {x4 : Int32} {t0_0 : Int32} {t0_1 : Int32} {t0_2 : Int32} {t0_3 : Int64} {t0_4 : Int32} {t0_5 : Int32} {t0_6 : Int32} {t0_7 : Int32} {t0_8 : Int32} {t0_9 : Int32} {t0_10 : Int32} {t1_0 : (Nat → Int32)} {t2_0 : (Nat → Int32)} {t3_0 : (Nat → Int32)} {t4_0 : (Nat → Int32)} {t5_0 : (Nat → Int32)} {t6_0 : (Nat → Int32)} {t7_0 : (Nat → Int32)} {lx45 : Int32} {lx76 : Int64} {a363 : Int32} {j360 : Int64} {p416 : (Int32 × Int32 × Int32 × Int64 × Int32 × Int32 × Int32 × Int32 × Int32 × Int32 × Int32 × (Nat → Int32))} {f382 : (Nat → Int32)} {p477 : (Int32 × Int32 × Int32 × Int64 × Int32 × Int32 × Int32 × Int32 × Int32 × Int32 × Int32 × (Nat → Int32))} {j509 : Int64} {y439 : Int32} {y440 : Int32} {y441 : Int32} {y442 : Int64} {y443 : Int32} {y444 : Int32} {y445 : Int32} {y446 : Int32} {y447 : Int32} {y448 : Int32} {y449 : Int32} {lx513 : Int64} {lx514 : (Nat → Int32)} {a536 : Int32} {K_S_DR_remainder_L203 : Int64 → (Nat → Int32) → Prop} (hR : gR t1_0 t2_0 t3_0 t4_0)(hx2 : 0 ≤ x2.toInt ∧ x2.toInt ≤ 9) (hx4 : 0 ≤ x4.toInt ∧ x4.toInt ≤ 9) (h363 : 0 ≤ a363.toInt ∧ a363.toInt ≤ 1)(hw : uW y446 f382 lx514) (h536 : a536.toInt = y446.toInt + 1) : ∀ (n : Nat) (lx542 : Int32) (lx543 : (Nat → Int32)), (0 ≤ lx542.toInt ∧ lx542.toInt ≤ a536.toInt) → (4099 - lx542.toInt < (n : Int)) → (a536.toInt ≤ 2200) → (∀ i : Nat, (i : Int) < lx542.toInt → lx543 i = lx514 i) → (S_DR_remainder_L270 K_S_DR_remainder_L203 x2 x3 x4 t0_0 t0_1 t0_2 t0_3 t0_4 t0_5 t0_6 t0_7 t0_8 t0_9 t0_10 t1_0 t2_0 t3_0 t4_0 t5_0 t6_0 t7_0 lx45 lx76 a363 j360 p416 f382 p477 j509 y439 y440 y441 y442 y443 y444 y445 y446 y447 y448 y449 lx513 lx514 a536 n lx542 lx543) ∧ Q_DR_remainder (F_DR_remainder_L270 K_F_DR_remainder_L203 x2 x3 x4 t0_0 t0_1 t0_2 t0_3 t0_4 t0_5 t0_6 t0_7 t0_8 t0_9 t0_10 t1_0 t2_0 t3_0 t4_0 t5_0 t6_0 t7_0 lx45 lx76 a363 j360 p416 f382 p477 j509 y439 y440 y441 y442 y443 y444 y445 y446 y447 y448 y449 lx513 lx514 a536 n lx542 lx543) := by
  intro n
  induction n with
  | zero => intro lx542 lx543 h0 hm h9 ho; exact absurd (show False by omega) id
  | succ n ih =>
    intro lx542 lx543 h0 hm h9 ho
    have e0 : (0 : Int32).toInt = 0 := rfl
    have eL0 : (0 : Int64).toInt = 0 := rfl
    have eL1 : (10000 : Int64).toInt = 10000 := rfl
    have eL2 : (-10000 : Int64).toInt = -10000 := rfl
    have eL3 : (1000 : Int64).toInt = 1000 := rfl
    have eL4 : (-1 : Int64).toInt = -1 := rfl
    have eI3 : (1000 : Int32).toInt = 1000 := rfl
    have hw1 := hw.1
    rw [S_DR_remainder_L270.eq_2, F_DR_remainder_L270.eq_2]
    by_cases g1 : a536 ≤ lx542
    ·
      rw [if_pos g1, if_pos g1]
      have g1i : a536.toInt ≤ lx542.toInt := q_leI g1
      refine v_cons (by omega) ?_
      refine v_cons (by omega) ?_
      have h2 := T_DR_store (x2 := x4) (t0_0 := y439) (t0_1 := y440) (t0_2 := a536) (t0_3 := lx76) (t0_4 := (0 : Int32)) (t0_5 := a363) (t0_6 := y445) (t0_7 := y446) (t0_8 := y447) (t0_9 := y448) (t0_10 := y449) (t1_0 := t1_0) (t2_0 := t2_0) (t3_0 := t3_0) (t4_0 := t4_0) (t5_0 := lx543) (by with_reducible assumption) (by with_reducible assumption) ⟨by omega, by omega⟩ (fun i hi => by have e7 := q_clI (i := a536) rfl (by omega); have e8 := q_clI (i := y446) rfl (by omega); rw [ho i (by omega)]; exact hw.2.2.1 i (by omega))
      with_reducible refine v_owe h2.1 ?_
      replace h2 := h2.2
      generalize F_DR_store x4 y439 y440 a536 lx76 (0 : Int32) a363 y445 y446 y447 y448 y449 t1_0 t2_0 t3_0 t4_0 lx543 = p620 at *
      unfold Q_DR_store at h2
      unfold S_DR_remainder_c318 F_DR_remainder_c318
      refine ⟨trivial, ?_⟩
      (unfold Q_DR_remainder; dsimp only; with_reducible assumption)
    ·
      rw [if_neg g1, if_neg g1]
      have g1i : lx542.toInt < a536.toInt := q_nleI g1
      refine v_cons (by omega) ?_
      obtain ⟨a3, e4⟩ := q_nm (lx542 + 1 : Int32)
      rw [e4]
      have a3i : a3.toInt = lx542.toInt + 1 := by rw [← e4]; exact q_addI (x := lx542.toInt) (y := 1) rfl (by decide) (by omega) (by omega)
      exact ih _ _ ⟨by omega, by omega⟩ (by omega) h9 (g_fill a3i h0.1 ho)
theorem v_rm1 {x2 : Int32} {x3 : Int32} {x4 : Int32} {t0_0 : Int32} {t0_1 : Int32} {t0_2 : Int32} {t0_3 : Int64} {t0_4 : Int32} {t0_5 : Int32} {t0_6 : Int32} {t0_7 : Int32} {t0_8 : Int32} {t0_9 : Int32} {t0_10 : Int32} {t1_0 : (Nat → Int32)} {t2_0 : (Nat → Int32)} {t3_0 : (Nat → Int32)} {t4_0 : (Nat → Int32)} {t5_0 : (Nat → Int32)} {t6_0 : (Nat → Int32)} {t7_0 : (Nat → Int32)} {lx45 : Int32} {lx76 : Int64} {a363 : Int32} {j360 : Int64} {p416 : (Int32 × Int32 × Int32 × Int64 × Int32 × Int32 × Int32 × Int32 × Int32 × Int32 × Int32 × (Nat → Int32))} {f382 : (Nat → Int32)} {p477 : (Int32 × Int32 × Int32 × Int64 × Int32 × Int32 × Int32 × Int32 × Int32 × Int32 × Int32 × (Nat → Int32))} {j509 : Int64} {y439 : Int32} {y440 : Int32} {y441 : Int32} {y442 : Int64} {y443 : Int32} {y444 : Int32} {y445 : Int32} {y446 : Int32} {y447 : Int32} {y448 : Int32} {y449 : Int32} (hR : gR t1_0 t2_0 t3_0 t4_0)(hx2 : 0 ≤ x2.toInt ∧ x2.toInt ≤ 9) (hx4 : 0 ≤ x4.toInt ∧ x4.toInt ≤ 9) (h363 : 0 ≤ a363.toInt ∧ a363.toInt ≤ 1) : ∀ (n : Nat) (lx513 : Int64) (lx514 : (Nat → Int32)), (0 ≤ lx513.toInt ∧ lx513.toInt ≤ j509.toInt) → (j509.toInt - lx513.toInt < (n : Int)) → (j509.toInt ≤ 40000) → (uW y446 f382 lx514) → (wL 0 (uV f382 y446.toNatClampNeg)) → (S_DR_remainder_L203 x2 x3 x4 t0_0 t0_1 t0_2 t0_3 t0_4 t0_5 t0_6 t0_7 t0_8 t0_9 t0_10 t1_0 t2_0 t3_0 t4_0 t5_0 t6_0 t7_0 lx45 lx76 a363 j360 p416 f382 p477 j509 y439 y440 y441 y442 y443 y444 y445 y446 y447 y448 y449 n lx513 lx514) ∧ Q_DR_remainder (F_DR_remainder_L203 x2 x3 x4 t0_0 t0_1 t0_2 t0_3 t0_4 t0_5 t0_6 t0_7 t0_8 t0_9 t0_10 t1_0 t2_0 t3_0 t4_0 t5_0 t6_0 t7_0 lx45 lx76 a363 j360 p416 f382 p477 j509 y439 y440 y441 y442 y443 y444 y445 y446 y447 y448 y449 n lx513 lx514) := by
  intro n
  induction n with
  | zero => intro lx513 lx514 h0 hm h9 hw hU; exact absurd (show False by omega) id
  | succ n ih =>
    intro lx513 lx514 h0 hm h9 hw hU
    have e0 : (0 : Int32).toInt = 0 := rfl
    have eL0 : (0 : Int64).toInt = 0 := rfl
    have eL1 : (10000 : Int64).toInt = 10000 := rfl
    have eL2 : (-10000 : Int64).toInt = -10000 := rfl
    have eL3 : (1000 : Int64).toInt = 1000 := rfl
    have eL4 : (-1 : Int64).toInt = -1 := rfl
    have eI3 : (1000 : Int32).toInt = 1000 := rfl
    have hw1 := hw.1
    rw [S_DR_remainder_L203.eq_2, F_DR_remainder_L203.eq_2]
    by_cases g1 : (0 : Int32) ≤ (lg_cmp lx513 j509 : Int32)
    ·
      rw [if_pos g1, if_pos g1]
      have g1l := g_lc5 g1
      have e5 : (y446 + 1 : Int32).toInt = y446.toInt + 1 := q_addI (y := 1) rfl (by decide) (by omega) (by omega); exact v_rm2 hR hx2 hx4 h363 hw e5 _ _ _ ⟨by omega, by omega⟩ (by decide) (by omega) (fun i hi => by omega)
    ·
      rw [if_neg g1, if_neg g1]
      have g1l := g_lc6 g1
      by_cases g2 : (0 : Int32) ≤ (lg_cmp lx513 ((t2_0 x2.toNatClampNeg : Int32).toInt64 : Int64) : Int32)
      ·
        rw [if_pos g2, if_pos g2]
        have g2l := g_lc5 g2
        have h3 := R_next  (x2 := (0 : Int32)) (t0_0 := y439) (t0_1 := y440) (t0_2 := y441) (t0_3 := y442) (t0_4 := y443) (t0_5 := y444) (t0_6 := y445) (t0_7 := y446) (t0_8 := y447) (t0_9 := y448) (t0_10 := y449) (un := f382) (l0 := lx514) (by with_reducible assumption) (by with_reducible assumption) (by first | decide | exact (u_k9 hR.1 hx2 (gR.at hR hx2).1.2 h0.1 (by with_reducible assumption)).1)
        with_reducible refine v_owe h3.1 ?_
        replace h3 := h3.2
        generalize F_DR_nextFigure (0 : Int32) y439 y440 y441 y442 y443 y444 y445 y446 y447 y448 y449 f382 lx514 = p673 at *
        obtain ⟨nxd, nxw, nxe⟩ := h3
        unfold S_DR_remainder_c243 F_DR_remainder_c243
        have e9 : (lx513 + 1 : Int64).toInt = lx513.toInt + 1 := q_addL (y := 1) rfl (by decide) (by omega) (by omega); exact ih _ _ ⟨by omega, by omega⟩ (by omega) h9 nxw hU
      ·
        rw [if_neg g2, if_neg g2]
        have g2l := g_lc6 g2
        refine v_cons (by have := (u_k9 hR.1 hx2 (gR.at hR hx2).1.2 h0.1 (by with_reducible assumption) (K := t1_0)).2; omega) ?_
        refine v_cons (by have := (u_k9 hR.1 hx2 (gR.at hR hx2).1.2 h0.1 (by with_reducible assumption) (K := t1_0)).2; omega) ?_
        have h4 := R_next  (x2 := (t1_0 ((1000 * x2 : Int32) + (lx513.toInt32 : Int32) : Int32).toNatClampNeg : Int32)) (t0_0 := y439) (t0_1 := y440) (t0_2 := y441) (t0_3 := y442) (t0_4 := y443) (t0_5 := y444) (t0_6 := y445) (t0_7 := y446) (t0_8 := y447) (t0_9 := y448) (t0_10 := y449) (un := f382) (l0 := lx514) (by with_reducible assumption) (by with_reducible assumption) (by first | decide | exact (u_k9 hR.1 hx2 (gR.at hR hx2).1.2 h0.1 (by with_reducible assumption)).1)
        with_reducible refine v_owe h4.1 ?_
        replace h4 := h4.2
        generalize F_DR_nextFigure (t1_0 ((1000 * x2 : Int32) + (lx513.toInt32 : Int32) : Int32).toNatClampNeg : Int32) y439 y440 y441 y442 y443 y444 y445 y446 y447 y448 y449 f382 lx514 = p706 at *
        obtain ⟨nxd, nxw, nxe⟩ := h4
        unfold S_DR_remainder_c243_13 F_DR_remainder_c243_13
        have e9 : (lx513 + 1 : Int64).toInt = lx513.toInt + 1 := q_addL (y := 1) rfl (by decide) (by omega) (by omega); exact ih _ _ ⟨by omega, by omega⟩ (by omega) h9 nxw hU
theorem T_DR_remainder {x2 : Int32} {x3 : Int32} {x4 : Int32} {t0_0 : Int32} {t0_1 : Int32} {t0_2 : Int32} {t0_3 : Int64} {t0_4 : Int32} {t0_5 : Int32} {t0_6 : Int32} {t0_7 : Int32} {t0_8 : Int32} {t0_9 : Int32} {t0_10 : Int32} {t1_0 : (Nat → Int32)} {t2_0 : (Nat → Int32)} {t3_0 : (Nat → Int32)} {t4_0 : (Nat → Int32)} {t5_0 : (Nat → Int32)} {t6_0 : (Nat → Int32)} {t7_0 : (Nat → Int32)} (hR : gR t1_0 t2_0 t3_0 t4_0) : (S_DR_remainder x2 x3 x4 t0_0 t0_1 t0_2 t0_3 t0_4 t0_5 t0_6 t0_7 t0_8 t0_9 t0_10 t1_0 t2_0 t3_0 t4_0 t5_0 t6_0 t7_0) ∧ Q_DR_remainder (F_DR_remainder x2 x3 x4 t0_0 t0_1 t0_2 t0_3 t0_4 t0_5 t0_6 t0_7 t0_8 t0_9 t0_10 t1_0 t2_0 t3_0 t4_0 t5_0 t6_0 t7_0) := by
  have e0 : (0 : Int32).toInt = 0 := rfl
  have eL0 : (0 : Int64).toInt = 0 := rfl
  have eL1 : (10000 : Int64).toInt = 10000 := rfl
  have eL2 : (-10000 : Int64).toInt = -10000 := rfl
  have eL3 : (1000 : Int64).toInt = 1000 := rfl
  have eL4 : (-1 : Int64).toInt = -1 := rfl
  have eI3 : (1000 : Int32).toInt = 1000 := rfl
  unfold S_DR_remainder F_DR_remainder
  by_cases g1 : ((F_DR_no x2) : Int32) = (0 : Int32)
  ·
    rw [if_pos g1, if_pos g1]
    have g1r := g_no g1
    by_cases g2 : ((F_DR_no x3) : Int32) = (0 : Int32)
    ·
      rw [if_pos g2, if_pos g2]
      have g2r := g_no g2
      by_cases g3 : ((F_DR_no x4) : Int32) = (0 : Int32)
      ·
        rw [if_pos g3, if_pos g3]
        have g3r := g_no g3
        have h4 := R_dz (x2 := x3) (t0_0 := t0_0) (t0_1 := t0_1) (t0_2 := t0_2) (t0_3 := t0_3) (t0_4 := t0_4) (t0_5 := t0_5) (t0_6 := t0_6) (t0_7 := t0_7) (t0_8 := t0_8) (t0_9 := t0_9) (t0_10 := t0_10) (t1_0 := t1_0) (by with_reducible assumption)
        have h4z := h4.2
        with_reducible refine v_owe h4.1 ?_
        by_cases g5 : ((F_DR_isZero x3 t0_0 t0_1 t0_2 t0_3 t0_4 t0_5 t0_6 t0_7 t0_8 t0_9 t0_10 t1_0) : Int32) = (0 : Int32)
        ·
          rw [if_pos g5, if_pos g5]
          have nz3 := u_if g5 (by with_reducible assumption)
          unfold S_DR_remainder_J39 F_DR_remainder_J39
          have g6 : ((0 : Int32) ≤ (0 : Int32)) := (by decide)
          rw [if_pos g6, if_pos g6]
          refine v_cons (by omega) ?_
          refine v_cons (by omega) ?_
          refine v_cons (by omega) ?_
          refine v_cons (by omega) ?_
          by_cases g7 : (t4_0 x2.toNatClampNeg : Int32) ≤ (t4_0 x3.toNatClampNeg : Int32)
          ·
            rw [if_pos g7, if_pos g7]
            have g7i := q_leI g7
            have m2 := gR.at hR (by with_reducible assumption : 0 ≤ x2.toInt ∧ x2.toInt ≤ 9)
            have m3 := gR.at hR (by with_reducible assumption : 0 ≤ x3.toInt ∧ x3.toInt ≤ 9)
            obtain ⟨lx76, e8⟩ := q_nm (((t4_0 x3.toNatClampNeg : Int32).toInt64 : Int64) : Int64)
            rw [e8]
            have h68 : -10000 ≤ lx76.toInt ∧ lx76.toInt ≤ 10000 := by rw [← e8, q_i2l rfl]; exact (gR.at hR (by with_reducible assumption)).2.2
            have h68a : (t4_0 x2.toNatClampNeg).toInt ≤ lx76.toInt := by rw [← e8, q_i2l rfl]; omega
            have h68b : (t4_0 x3.toNatClampNeg).toInt ≤ lx76.toInt := by rw [← e8, q_i2l rfl]; omega
            have h68c : lx76.toInt = (t4_0 x2.toNatClampNeg).toInt ∨ lx76.toInt = (t4_0 x3.toNatClampNeg).toInt := by first | exact Or.inl (by rw [← e8]; exact q_i2l rfl) | exact Or.inr (by rw [← e8]; exact q_i2l rfl)
            unfold S_DR_remainder_J87 F_DR_remainder_J87
            have h9 := R_dz (x2 := x2) (t0_0 := (0 : Int32)) (t0_1 := t0_1) (t0_2 := t0_2) (t0_3 := t0_3) (t0_4 := t0_4) (t0_5 := t0_5) (t0_6 := t0_6) (t0_7 := t0_7) (t0_8 := t0_8) (t0_9 := t0_9) (t0_10 := (2 : Int32)) (t1_0 := t1_0) (by with_reducible assumption)
            have h9z := h9.2
            with_reducible refine v_owe h9.1 ?_
            by_cases g10 : ((F_DR_isZero x2 (0 : Int32) t0_1 t0_2 t0_3 t0_4 t0_5 t0_6 t0_7 t0_8 t0_9 (2 : Int32) t1_0) : Int32) = (0 : Int32)
            ·
              rw [if_pos g10, if_pos g10]
              have h11 := T_DR_compareSizes (x2 := x2) (x3 := x3) (t0_0 := (0 : Int32)) (t0_1 := t0_1) (t0_2 := t0_2) (t0_3 := t0_3) (t0_4 := t0_4) (t0_5 := t0_5) (t0_6 := t0_6) (t0_7 := t0_7) (t0_8 := t0_8) (t0_9 := t0_9) (t0_10 := (2 : Int32)) (t1_0 := t1_0) (t2_0 := t2_0) (t3_0 := t4_0) (fun i hi => (hR.2 i hi).1) (by with_reducible assumption) (by with_reducible assumption)
              with_reducible refine v_owe h11 ?_
              by_cases g12 : (0 : Int32) ≤ ((F_DR_compareSizes x2 x3 (0 : Int32) t0_1 t0_2 t0_3 t0_4 t0_5 t0_6 t0_7 t0_8 t0_9 (2 : Int32) t1_0 t2_0 t4_0) : Int32)
              ·
                rw [if_pos g12, if_pos g12]
                have csz := u_cs m2.1 m3.1 m2.2.2 m3.2.2 g12
                have h13 := T_DR_loadUnder (x2 := x3) (x3 := ((lx76 - ((t4_0 x3.toNatClampNeg : Int32).toInt64 : Int64) : Int64).toInt32 : Int32)) (t0_0 := (0 : Int32)) (t0_1 := t0_1) (t0_2 := t0_2) (t0_3 := t0_3) (t0_4 := t0_4) (t0_5 := t0_5) (t0_6 := t0_6) (t0_7 := t0_7) (t0_8 := t0_8) (t0_9 := t0_9) (t0_10 := (2 : Int32)) (t1_0 := t1_0) (t2_0 := t2_0) (t3_0 := t6_0) hR.1 (gR.at hR (by with_reducible assumption)).1 (by with_reducible assumption) (by have ez := u_bh (c := t4_0 x3.toNatClampNeg) (s := lx76) m3.2.2 h68; exact ⟨by omega, by omega⟩)
                with_reducible refine v_owe h13.1 ?_
                replace h13 := h13.2
                generalize F_DR_loadUnder x3 ((lx76 - ((t4_0 x3.toNatClampNeg : Int32).toInt64 : Int64) : Int64).toInt32 : Int32) (0 : Int32) t0_1 t0_2 t0_3 t0_4 t0_5 t0_6 t0_7 t0_8 t0_9 (2 : Int32) t1_0 t2_0 t6_0 = p416 at *
                unfold Q_DR_loadUnder at h13
                obtain ⟨h137, h13g, h13z, h13a, h13b, h13c, h13d, h13e, h13f, h13k⟩ := h13
                have ez := u_bh (c := t4_0 x3.toNatClampNeg) (s := lx76) m3.2.2 h68
                have unz := h13z
                have unf := congrArg Int32.toInt h13f
                have unp := u_p1 h13g (by have e9 := q_clI (i := p416.2.2.2.2.2.2.2.1) rfl (by omega); omega) (by rw [unz]; exact nz3)
                unfold S_DR_remainder_c173 F_DR_remainder_c173
                have h14 := T_DR_beginQuotient (t0_0 := (p416.1 : Int32)) (t0_1 := (p416.2.1 : Int32)) (t0_2 := (p416.2.2.1 : Int32)) (t0_3 := (p416.2.2.2.1 : Int64)) (t0_4 := (p416.2.2.2.2.1 : Int32)) (t0_5 := (p416.2.2.2.2.2.1 : Int32)) (t0_6 := (p416.2.2.2.2.2.2.1 : Int32)) (t0_7 := (p416.2.2.2.2.2.2.2.1 : Int32)) (t0_8 := (p416.2.2.2.2.2.2.2.2.1 : Int32)) (t0_9 := (p416.2.2.2.2.2.2.2.2.2.1 : Int32)) (t0_10 := (p416.2.2.2.2.2.2.2.2.2.2.1 : Int32)) (t1_0 := t7_0) ⟨by omega, by omega⟩
                with_reducible refine v_owe h14.1 ?_
                replace h14 := h14.2
                generalize F_DR_beginQuotient (p416.1 : Int32) (p416.2.1 : Int32) (p416.2.2.1 : Int32) (p416.2.2.2.1 : Int64) (p416.2.2.2.2.1 : Int32) (p416.2.2.2.2.2.1 : Int32) (p416.2.2.2.2.2.2.1 : Int32) (p416.2.2.2.2.2.2.2.1 : Int32) (p416.2.2.2.2.2.2.2.2.1 : Int32) (p416.2.2.2.2.2.2.2.2.2.1 : Int32) (p416.2.2.2.2.2.2.2.2.2.2.1 : Int32) t7_0 = p477 at *
                unfold Q_DR_beginQuotient at h14
                obtain ⟨h14o, h14a, h14b, h142, h14d, h14e, h145, h147, h14k⟩ := h14
                have beg0 := h14o
                have beg2 := congrArg Int32.toInt h142
                have beg5 := congrArg Int32.toInt h145
                have beg7 := congrArg Int32.toInt h147
                have beq7 := h147
                have beq2 := h142
                unfold S_DR_remainder_c177 F_DR_remainder_c177
                have ej := u_rm (m := t2_0 x2.toNatClampNeg) (c := t4_0 x2.toNatClampNeg) (s := lx76) m2.1 m2.2.2 h68; exact v_rm1 hR (by with_reducible assumption) (by with_reducible assumption) m2.2.1 _ _ _ ⟨by omega, by omega⟩ (by omega) (by omega) (by rw [beq7]; exact u_w0 ⟨by omega, by omega⟩ (by with_reducible assumption) unp beg0) (by rw [beq7]; exact unp)
              ·
                rw [if_neg g12, if_neg g12]
                unfold S_DR_remainder_J106 F_DR_remainder_J106
                have h15 := T_DR_load (x2 := x2) (t0_0 := (0 : Int32)) (t0_1 := t0_1) (t0_2 := t0_2) (t0_3 := t0_3) (t0_4 := t0_4) (t0_5 := t0_5) (t0_6 := t0_6) (t0_7 := t0_7) (t0_8 := t0_8) (t0_9 := t0_9) (t0_10 := (2 : Int32)) (t1_0 := t1_0) (t2_0 := t2_0) (t3_0 := t3_0) (t4_0 := t4_0) (t5_0 := t5_0) (by with_reducible assumption) (by with_reducible assumption)
                with_reducible refine v_owe h15.1 ?_
                replace h15 := h15.2
                generalize F_DR_load x2 (0 : Int32) t0_1 t0_2 t0_3 t0_4 t0_5 t0_6 t0_7 t0_8 t0_9 (2 : Int32) t1_0 t2_0 t3_0 t4_0 t5_0 = p157 at *
                unfold Q_DR_load at h15
                obtain ⟨h151, h15g, h153, h154, h155, h156, h157⟩ := h15
                have h154i := congrArg Int32.toInt h154
                unfold S_DR_remainder_c108 F_DR_remainder_c108
                by_cases g16 : (lg_cmp (lx76 - (p157.2.2.2.1 : Int64) : Int64) 1000 : Int32) ≤ (0 : Int32)
                ·
                  rw [if_pos g16, if_pos g16]
                  have h17 := T_DR_bring (x2 := lx76) (x3 := (1 : Int32)) (x4 := x4) (t0_0 := (p157.1 : Int32)) (t0_1 := (p157.2.1 : Int32)) (t0_2 := (p157.2.2.1 : Int32)) (t0_3 := (p157.2.2.2.1 : Int64)) (t0_4 := (p157.2.2.2.2.1 : Int32)) (t0_5 := (p157.2.2.2.2.2.1 : Int32)) (t0_6 := (p157.2.2.2.2.2.2.1 : Int32)) (t0_7 := (p157.2.2.2.2.2.2.2.1 : Int32)) (t0_8 := (p157.2.2.2.2.2.2.2.2.1 : Int32)) (t0_9 := (p157.2.2.2.2.2.2.2.2.2.1 : Int32)) (t0_10 := (p157.2.2.2.2.2.2.2.2.2.2.1 : Int32)) (t1_0 := t1_0) (t2_0 := t2_0) (t3_0 := t3_0) (t4_0 := t4_0) (t5_0 := (p157.2.2.2.2.2.2.2.2.2.2.2 : (Nat → Int32))) (by with_reducible assumption) (by with_reducible assumption) ⟨by omega, by omega⟩ ⟨by omega, by omega⟩ (by with_reducible assumption) ⟨by omega, by omega⟩
                  with_reducible refine v_owe h17.1 ?_
                  replace h17 := h17.2
                  generalize F_DR_bring lx76 (1 : Int32) x4 (p157.1 : Int32) (p157.2.1 : Int32) (p157.2.2.1 : Int32) (p157.2.2.2.1 : Int64) (p157.2.2.2.2.1 : Int32) (p157.2.2.2.2.2.1 : Int32) (p157.2.2.2.2.2.2.1 : Int32) (p157.2.2.2.2.2.2.2.1 : Int32) (p157.2.2.2.2.2.2.2.2.1 : Int32) (p157.2.2.2.2.2.2.2.2.2.1 : Int32) (p157.2.2.2.2.2.2.2.2.2.2.1 : Int32) t1_0 t2_0 t3_0 t4_0 (p157.2.2.2.2.2.2.2.2.2.2.2 : (Nat → Int32)) = p231 at *
                  unfold Q_DR_bring at h17
                  unfold S_DR_remainder_c144 F_DR_remainder_c144
                  refine ⟨trivial, ?_⟩
                  (unfold Q_DR_remainder; dsimp only; with_reducible assumption)
                ·
                  rw [if_neg g16, if_neg g16]
                  have h18 := R_dz (x2 := x2) (t0_0 := (p157.1 : Int32)) (t0_1 := (p157.2.1 : Int32)) (t0_2 := (p157.2.2.1 : Int32)) (t0_3 := (p157.2.2.2.1 : Int64)) (t0_4 := (p157.2.2.2.2.1 : Int32)) (t0_5 := (p157.2.2.2.2.2.1 : Int32)) (t0_6 := (p157.2.2.2.2.2.2.1 : Int32)) (t0_7 := (p157.2.2.2.2.2.2.2.1 : Int32)) (t0_8 := (p157.2.2.2.2.2.2.2.2.1 : Int32)) (t0_9 := (p157.2.2.2.2.2.2.2.2.2.1 : Int32)) (t0_10 := (p157.2.2.2.2.2.2.2.2.2.2.1 : Int32)) (t1_0 := t1_0) (by with_reducible assumption)
                  have h18z := h18.2
                  with_reducible refine v_owe h18.1 ?_
                  by_cases g19 : ((F_DR_isZero x2 (p157.1 : Int32) (p157.2.1 : Int32) (p157.2.2.1 : Int32) (p157.2.2.2.1 : Int64) (p157.2.2.2.2.1 : Int32) (p157.2.2.2.2.2.1 : Int32) (p157.2.2.2.2.2.2.1 : Int32) (p157.2.2.2.2.2.2.2.1 : Int32) (p157.2.2.2.2.2.2.2.2.1 : Int32) (p157.2.2.2.2.2.2.2.2.2.1 : Int32) (p157.2.2.2.2.2.2.2.2.2.2.1 : Int32) t1_0) : Int32) = (0 : Int32)
                  ·
                    rw [if_pos g19, if_pos g19]
                    refine ⟨trivial, ?_⟩
                    (unfold Q_DR_remainder; dsimp only; with_reducible assumption)
                  ·
                    rw [if_neg g19, if_neg g19]
                    have h20 := T_DR_bring (x2 := lx76) (x3 := (1 : Int32)) (x4 := x4) (t0_0 := (p157.1 : Int32)) (t0_1 := (p157.2.1 : Int32)) (t0_2 := (p157.2.2.1 : Int32)) (t0_3 := (p157.2.2.2.1 : Int64)) (t0_4 := (p157.2.2.2.2.1 : Int32)) (t0_5 := (p157.2.2.2.2.2.1 : Int32)) (t0_6 := (p157.2.2.2.2.2.2.1 : Int32)) (t0_7 := (p157.2.2.2.2.2.2.2.1 : Int32)) (t0_8 := (p157.2.2.2.2.2.2.2.2.1 : Int32)) (t0_9 := (p157.2.2.2.2.2.2.2.2.2.1 : Int32)) (t0_10 := (p157.2.2.2.2.2.2.2.2.2.2.1 : Int32)) (t1_0 := t1_0) (t2_0 := t2_0) (t3_0 := t3_0) (t4_0 := t4_0) (t5_0 := (p157.2.2.2.2.2.2.2.2.2.2.2 : (Nat → Int32))) (by with_reducible assumption) (by with_reducible assumption) ⟨by omega, by omega⟩ ⟨by omega, by omega⟩ (by with_reducible assumption) ⟨by omega, by omega⟩
                    with_reducible refine v_owe h20.1 ?_
                    replace h20 := h20.2
                    generalize F_DR_bring lx76 (1 : Int32) x4 (p157.1 : Int32) (p157.2.1 : Int32) (p157.2.2.1 : Int32) (p157.2.2.2.1 : Int64) (p157.2.2.2.2.1 : Int32) (p157.2.2.2.2.2.1 : Int32) (p157.2.2.2.2.2.2.1 : Int32) (p157.2.2.2.2.2.2.2.1 : Int32) (p157.2.2.2.2.2.2.2.2.1 : Int32) (p157.2.2.2.2.2.2.2.2.2.1 : Int32) (p157.2.2.2.2.2.2.2.2.2.2.1 : Int32) t1_0 t2_0 t3_0 t4_0 (p157.2.2.2.2.2.2.2.2.2.2.2 : (Nat → Int32)) = p312 at *
                    unfold Q_DR_bring at h20
                    unfold S_DR_remainder_c144_6 F_DR_remainder_c144_6
                    refine ⟨trivial, ?_⟩
                    (unfold Q_DR_remainder; dsimp only; with_reducible assumption)
            ·
              rw [if_neg g10, if_neg g10]
              unfold S_DR_remainder_J106 F_DR_remainder_J106
              have h21 := T_DR_load (x2 := x2) (t0_0 := (0 : Int32)) (t0_1 := t0_1) (t0_2 := t0_2) (t0_3 := t0_3) (t0_4 := t0_4) (t0_5 := t0_5) (t0_6 := t0_6) (t0_7 := t0_7) (t0_8 := t0_8) (t0_9 := t0_9) (t0_10 := (2 : Int32)) (t1_0 := t1_0) (t2_0 := t2_0) (t3_0 := t3_0) (t4_0 := t4_0) (t5_0 := t5_0) (by with_reducible assumption) (by with_reducible assumption)
              with_reducible refine v_owe h21.1 ?_
              replace h21 := h21.2
              generalize F_DR_load x2 (0 : Int32) t0_1 t0_2 t0_3 t0_4 t0_5 t0_6 t0_7 t0_8 t0_9 (2 : Int32) t1_0 t2_0 t3_0 t4_0 t5_0 = p157 at *
              unfold Q_DR_load at h21
              obtain ⟨h211, h21g, h213, h214, h215, h216, h217⟩ := h21
              have h214i := congrArg Int32.toInt h214
              unfold S_DR_remainder_c108 F_DR_remainder_c108
              by_cases g22 : (lg_cmp (lx76 - (p157.2.2.2.1 : Int64) : Int64) 1000 : Int32) ≤ (0 : Int32)
              ·
                rw [if_pos g22, if_pos g22]
                have h23 := T_DR_bring (x2 := lx76) (x3 := (1 : Int32)) (x4 := x4) (t0_0 := (p157.1 : Int32)) (t0_1 := (p157.2.1 : Int32)) (t0_2 := (p157.2.2.1 : Int32)) (t0_3 := (p157.2.2.2.1 : Int64)) (t0_4 := (p157.2.2.2.2.1 : Int32)) (t0_5 := (p157.2.2.2.2.2.1 : Int32)) (t0_6 := (p157.2.2.2.2.2.2.1 : Int32)) (t0_7 := (p157.2.2.2.2.2.2.2.1 : Int32)) (t0_8 := (p157.2.2.2.2.2.2.2.2.1 : Int32)) (t0_9 := (p157.2.2.2.2.2.2.2.2.2.1 : Int32)) (t0_10 := (p157.2.2.2.2.2.2.2.2.2.2.1 : Int32)) (t1_0 := t1_0) (t2_0 := t2_0) (t3_0 := t3_0) (t4_0 := t4_0) (t5_0 := (p157.2.2.2.2.2.2.2.2.2.2.2 : (Nat → Int32))) (by with_reducible assumption) (by with_reducible assumption) ⟨by omega, by omega⟩ ⟨by omega, by omega⟩ (by with_reducible assumption) ⟨by omega, by omega⟩
                with_reducible refine v_owe h23.1 ?_
                replace h23 := h23.2
                generalize F_DR_bring lx76 (1 : Int32) x4 (p157.1 : Int32) (p157.2.1 : Int32) (p157.2.2.1 : Int32) (p157.2.2.2.1 : Int64) (p157.2.2.2.2.1 : Int32) (p157.2.2.2.2.2.1 : Int32) (p157.2.2.2.2.2.2.1 : Int32) (p157.2.2.2.2.2.2.2.1 : Int32) (p157.2.2.2.2.2.2.2.2.1 : Int32) (p157.2.2.2.2.2.2.2.2.2.1 : Int32) (p157.2.2.2.2.2.2.2.2.2.2.1 : Int32) t1_0 t2_0 t3_0 t4_0 (p157.2.2.2.2.2.2.2.2.2.2.2 : (Nat → Int32)) = p231 at *
                unfold Q_DR_bring at h23
                unfold S_DR_remainder_c144 F_DR_remainder_c144
                refine ⟨trivial, ?_⟩
                (unfold Q_DR_remainder; dsimp only; with_reducible assumption)
              ·
                rw [if_neg g22, if_neg g22]
                have h24 := R_dz (x2 := x2) (t0_0 := (p157.1 : Int32)) (t0_1 := (p157.2.1 : Int32)) (t0_2 := (p157.2.2.1 : Int32)) (t0_3 := (p157.2.2.2.1 : Int64)) (t0_4 := (p157.2.2.2.2.1 : Int32)) (t0_5 := (p157.2.2.2.2.2.1 : Int32)) (t0_6 := (p157.2.2.2.2.2.2.1 : Int32)) (t0_7 := (p157.2.2.2.2.2.2.2.1 : Int32)) (t0_8 := (p157.2.2.2.2.2.2.2.2.1 : Int32)) (t0_9 := (p157.2.2.2.2.2.2.2.2.2.1 : Int32)) (t0_10 := (p157.2.2.2.2.2.2.2.2.2.2.1 : Int32)) (t1_0 := t1_0) (by with_reducible assumption)
                have h24z := h24.2
                with_reducible refine v_owe h24.1 ?_
                by_cases g25 : ((F_DR_isZero x2 (p157.1 : Int32) (p157.2.1 : Int32) (p157.2.2.1 : Int32) (p157.2.2.2.1 : Int64) (p157.2.2.2.2.1 : Int32) (p157.2.2.2.2.2.1 : Int32) (p157.2.2.2.2.2.2.1 : Int32) (p157.2.2.2.2.2.2.2.1 : Int32) (p157.2.2.2.2.2.2.2.2.1 : Int32) (p157.2.2.2.2.2.2.2.2.2.1 : Int32) (p157.2.2.2.2.2.2.2.2.2.2.1 : Int32) t1_0) : Int32) = (0 : Int32)
                ·
                  rw [if_pos g25, if_pos g25]
                  refine ⟨trivial, ?_⟩
                  (unfold Q_DR_remainder; dsimp only; with_reducible assumption)
                ·
                  rw [if_neg g25, if_neg g25]
                  have h26 := T_DR_bring (x2 := lx76) (x3 := (1 : Int32)) (x4 := x4) (t0_0 := (p157.1 : Int32)) (t0_1 := (p157.2.1 : Int32)) (t0_2 := (p157.2.2.1 : Int32)) (t0_3 := (p157.2.2.2.1 : Int64)) (t0_4 := (p157.2.2.2.2.1 : Int32)) (t0_5 := (p157.2.2.2.2.2.1 : Int32)) (t0_6 := (p157.2.2.2.2.2.2.1 : Int32)) (t0_7 := (p157.2.2.2.2.2.2.2.1 : Int32)) (t0_8 := (p157.2.2.2.2.2.2.2.2.1 : Int32)) (t0_9 := (p157.2.2.2.2.2.2.2.2.2.1 : Int32)) (t0_10 := (p157.2.2.2.2.2.2.2.2.2.2.1 : Int32)) (t1_0 := t1_0) (t2_0 := t2_0) (t3_0 := t3_0) (t4_0 := t4_0) (t5_0 := (p157.2.2.2.2.2.2.2.2.2.2.2 : (Nat → Int32))) (by with_reducible assumption) (by with_reducible assumption) ⟨by omega, by omega⟩ ⟨by omega, by omega⟩ (by with_reducible assumption) ⟨by omega, by omega⟩
                  with_reducible refine v_owe h26.1 ?_
                  replace h26 := h26.2
                  generalize F_DR_bring lx76 (1 : Int32) x4 (p157.1 : Int32) (p157.2.1 : Int32) (p157.2.2.1 : Int32) (p157.2.2.2.1 : Int64) (p157.2.2.2.2.1 : Int32) (p157.2.2.2.2.2.1 : Int32) (p157.2.2.2.2.2.2.1 : Int32) (p157.2.2.2.2.2.2.2.1 : Int32) (p157.2.2.2.2.2.2.2.2.1 : Int32) (p157.2.2.2.2.2.2.2.2.2.1 : Int32) (p157.2.2.2.2.2.2.2.2.2.2.1 : Int32) t1_0 t2_0 t3_0 t4_0 (p157.2.2.2.2.2.2.2.2.2.2.2 : (Nat → Int32)) = p312 at *
                  unfold Q_DR_bring at h26
                  unfold S_DR_remainder_c144_6 F_DR_remainder_c144_6
                  refine ⟨trivial, ?_⟩
                  (unfold Q_DR_remainder; dsimp only; with_reducible assumption)
          ·
            rw [if_neg g7, if_neg g7]
            have g7i := q_nleI g7
            have m2 := gR.at hR (by with_reducible assumption : 0 ≤ x2.toInt ∧ x2.toInt ≤ 9)
            have m3 := gR.at hR (by with_reducible assumption : 0 ≤ x3.toInt ∧ x3.toInt ≤ 9)
            obtain ⟨lx76, e27⟩ := q_nm (((t4_0 x2.toNatClampNeg : Int32).toInt64 : Int64) : Int64)
            rw [e27]
            have h68 : -10000 ≤ lx76.toInt ∧ lx76.toInt ≤ 10000 := by rw [← e27, q_i2l rfl]; exact (gR.at hR (by with_reducible assumption)).2.2
            have h68a : (t4_0 x2.toNatClampNeg).toInt ≤ lx76.toInt := by rw [← e27, q_i2l rfl]; omega
            have h68b : (t4_0 x3.toNatClampNeg).toInt ≤ lx76.toInt := by rw [← e27, q_i2l rfl]; omega
            have h68c : lx76.toInt = (t4_0 x2.toNatClampNeg).toInt ∨ lx76.toInt = (t4_0 x3.toNatClampNeg).toInt := by first | exact Or.inl (by rw [← e27]; exact q_i2l rfl) | exact Or.inr (by rw [← e27]; exact q_i2l rfl)
            unfold S_DR_remainder_J87 F_DR_remainder_J87
            have h28 := R_dz (x2 := x2) (t0_0 := (0 : Int32)) (t0_1 := t0_1) (t0_2 := t0_2) (t0_3 := t0_3) (t0_4 := t0_4) (t0_5 := t0_5) (t0_6 := t0_6) (t0_7 := t0_7) (t0_8 := t0_8) (t0_9 := t0_9) (t0_10 := (2 : Int32)) (t1_0 := t1_0) (by with_reducible assumption)
            have h28z := h28.2
            with_reducible refine v_owe h28.1 ?_
            by_cases g29 : ((F_DR_isZero x2 (0 : Int32) t0_1 t0_2 t0_3 t0_4 t0_5 t0_6 t0_7 t0_8 t0_9 (2 : Int32) t1_0) : Int32) = (0 : Int32)
            ·
              rw [if_pos g29, if_pos g29]
              have h30 := T_DR_compareSizes (x2 := x2) (x3 := x3) (t0_0 := (0 : Int32)) (t0_1 := t0_1) (t0_2 := t0_2) (t0_3 := t0_3) (t0_4 := t0_4) (t0_5 := t0_5) (t0_6 := t0_6) (t0_7 := t0_7) (t0_8 := t0_8) (t0_9 := t0_9) (t0_10 := (2 : Int32)) (t1_0 := t1_0) (t2_0 := t2_0) (t3_0 := t4_0) (fun i hi => (hR.2 i hi).1) (by with_reducible assumption) (by with_reducible assumption)
              with_reducible refine v_owe h30 ?_
              by_cases g31 : (0 : Int32) ≤ ((F_DR_compareSizes x2 x3 (0 : Int32) t0_1 t0_2 t0_3 t0_4 t0_5 t0_6 t0_7 t0_8 t0_9 (2 : Int32) t1_0 t2_0 t4_0) : Int32)
              ·
                rw [if_pos g31, if_pos g31]
                have csz := u_cs m2.1 m3.1 m2.2.2 m3.2.2 g31
                have h32 := T_DR_loadUnder (x2 := x3) (x3 := ((lx76 - ((t4_0 x3.toNatClampNeg : Int32).toInt64 : Int64) : Int64).toInt32 : Int32)) (t0_0 := (0 : Int32)) (t0_1 := t0_1) (t0_2 := t0_2) (t0_3 := t0_3) (t0_4 := t0_4) (t0_5 := t0_5) (t0_6 := t0_6) (t0_7 := t0_7) (t0_8 := t0_8) (t0_9 := t0_9) (t0_10 := (2 : Int32)) (t1_0 := t1_0) (t2_0 := t2_0) (t3_0 := t6_0) hR.1 (gR.at hR (by with_reducible assumption)).1 (by with_reducible assumption) (by have ez := u_bh (c := t4_0 x3.toNatClampNeg) (s := lx76) m3.2.2 h68; exact ⟨by omega, by omega⟩)
                with_reducible refine v_owe h32.1 ?_
                replace h32 := h32.2
                generalize F_DR_loadUnder x3 ((lx76 - ((t4_0 x3.toNatClampNeg : Int32).toInt64 : Int64) : Int64).toInt32 : Int32) (0 : Int32) t0_1 t0_2 t0_3 t0_4 t0_5 t0_6 t0_7 t0_8 t0_9 (2 : Int32) t1_0 t2_0 t6_0 = p416 at *
                unfold Q_DR_loadUnder at h32
                obtain ⟨h327, h32g, h32z, h32a, h32b, h32c, h32d, h32e, h32f, h32k⟩ := h32
                have ez := u_bh (c := t4_0 x3.toNatClampNeg) (s := lx76) m3.2.2 h68
                have unz := h32z
                have unf := congrArg Int32.toInt h32f
                have unp := u_p1 h32g (by have e9 := q_clI (i := p416.2.2.2.2.2.2.2.1) rfl (by omega); omega) (by rw [unz]; exact nz3)
                unfold S_DR_remainder_c173 F_DR_remainder_c173
                have h33 := T_DR_beginQuotient (t0_0 := (p416.1 : Int32)) (t0_1 := (p416.2.1 : Int32)) (t0_2 := (p416.2.2.1 : Int32)) (t0_3 := (p416.2.2.2.1 : Int64)) (t0_4 := (p416.2.2.2.2.1 : Int32)) (t0_5 := (p416.2.2.2.2.2.1 : Int32)) (t0_6 := (p416.2.2.2.2.2.2.1 : Int32)) (t0_7 := (p416.2.2.2.2.2.2.2.1 : Int32)) (t0_8 := (p416.2.2.2.2.2.2.2.2.1 : Int32)) (t0_9 := (p416.2.2.2.2.2.2.2.2.2.1 : Int32)) (t0_10 := (p416.2.2.2.2.2.2.2.2.2.2.1 : Int32)) (t1_0 := t7_0) ⟨by omega, by omega⟩
                with_reducible refine v_owe h33.1 ?_
                replace h33 := h33.2
                generalize F_DR_beginQuotient (p416.1 : Int32) (p416.2.1 : Int32) (p416.2.2.1 : Int32) (p416.2.2.2.1 : Int64) (p416.2.2.2.2.1 : Int32) (p416.2.2.2.2.2.1 : Int32) (p416.2.2.2.2.2.2.1 : Int32) (p416.2.2.2.2.2.2.2.1 : Int32) (p416.2.2.2.2.2.2.2.2.1 : Int32) (p416.2.2.2.2.2.2.2.2.2.1 : Int32) (p416.2.2.2.2.2.2.2.2.2.2.1 : Int32) t7_0 = p477 at *
                unfold Q_DR_beginQuotient at h33
                obtain ⟨h33o, h33a, h33b, h332, h33d, h33e, h335, h337, h33k⟩ := h33
                have beg0 := h33o
                have beg2 := congrArg Int32.toInt h332
                have beg5 := congrArg Int32.toInt h335
                have beg7 := congrArg Int32.toInt h337
                have beq7 := h337
                have beq2 := h332
                unfold S_DR_remainder_c177 F_DR_remainder_c177
                have ej := u_rm (m := t2_0 x2.toNatClampNeg) (c := t4_0 x2.toNatClampNeg) (s := lx76) m2.1 m2.2.2 h68; exact v_rm1 hR (by with_reducible assumption) (by with_reducible assumption) m2.2.1 _ _ _ ⟨by omega, by omega⟩ (by omega) (by omega) (by rw [beq7]; exact u_w0 ⟨by omega, by omega⟩ (by with_reducible assumption) unp beg0) (by rw [beq7]; exact unp)
              ·
                rw [if_neg g31, if_neg g31]
                unfold S_DR_remainder_J106 F_DR_remainder_J106
                have h34 := T_DR_load (x2 := x2) (t0_0 := (0 : Int32)) (t0_1 := t0_1) (t0_2 := t0_2) (t0_3 := t0_3) (t0_4 := t0_4) (t0_5 := t0_5) (t0_6 := t0_6) (t0_7 := t0_7) (t0_8 := t0_8) (t0_9 := t0_9) (t0_10 := (2 : Int32)) (t1_0 := t1_0) (t2_0 := t2_0) (t3_0 := t3_0) (t4_0 := t4_0) (t5_0 := t5_0) (by with_reducible assumption) (by with_reducible assumption)
                with_reducible refine v_owe h34.1 ?_
                replace h34 := h34.2
                generalize F_DR_load x2 (0 : Int32) t0_1 t0_2 t0_3 t0_4 t0_5 t0_6 t0_7 t0_8 t0_9 (2 : Int32) t1_0 t2_0 t3_0 t4_0 t5_0 = p157 at *
                unfold Q_DR_load at h34
                obtain ⟨h341, h34g, h343, h344, h345, h346, h347⟩ := h34
                have h344i := congrArg Int32.toInt h344
                unfold S_DR_remainder_c108 F_DR_remainder_c108
                by_cases g35 : (lg_cmp (lx76 - (p157.2.2.2.1 : Int64) : Int64) 1000 : Int32) ≤ (0 : Int32)
                ·
                  rw [if_pos g35, if_pos g35]
                  have h36 := T_DR_bring (x2 := lx76) (x3 := (1 : Int32)) (x4 := x4) (t0_0 := (p157.1 : Int32)) (t0_1 := (p157.2.1 : Int32)) (t0_2 := (p157.2.2.1 : Int32)) (t0_3 := (p157.2.2.2.1 : Int64)) (t0_4 := (p157.2.2.2.2.1 : Int32)) (t0_5 := (p157.2.2.2.2.2.1 : Int32)) (t0_6 := (p157.2.2.2.2.2.2.1 : Int32)) (t0_7 := (p157.2.2.2.2.2.2.2.1 : Int32)) (t0_8 := (p157.2.2.2.2.2.2.2.2.1 : Int32)) (t0_9 := (p157.2.2.2.2.2.2.2.2.2.1 : Int32)) (t0_10 := (p157.2.2.2.2.2.2.2.2.2.2.1 : Int32)) (t1_0 := t1_0) (t2_0 := t2_0) (t3_0 := t3_0) (t4_0 := t4_0) (t5_0 := (p157.2.2.2.2.2.2.2.2.2.2.2 : (Nat → Int32))) (by with_reducible assumption) (by with_reducible assumption) ⟨by omega, by omega⟩ ⟨by omega, by omega⟩ (by with_reducible assumption) ⟨by omega, by omega⟩
                  with_reducible refine v_owe h36.1 ?_
                  replace h36 := h36.2
                  generalize F_DR_bring lx76 (1 : Int32) x4 (p157.1 : Int32) (p157.2.1 : Int32) (p157.2.2.1 : Int32) (p157.2.2.2.1 : Int64) (p157.2.2.2.2.1 : Int32) (p157.2.2.2.2.2.1 : Int32) (p157.2.2.2.2.2.2.1 : Int32) (p157.2.2.2.2.2.2.2.1 : Int32) (p157.2.2.2.2.2.2.2.2.1 : Int32) (p157.2.2.2.2.2.2.2.2.2.1 : Int32) (p157.2.2.2.2.2.2.2.2.2.2.1 : Int32) t1_0 t2_0 t3_0 t4_0 (p157.2.2.2.2.2.2.2.2.2.2.2 : (Nat → Int32)) = p231 at *
                  unfold Q_DR_bring at h36
                  unfold S_DR_remainder_c144 F_DR_remainder_c144
                  refine ⟨trivial, ?_⟩
                  (unfold Q_DR_remainder; dsimp only; with_reducible assumption)
                ·
                  rw [if_neg g35, if_neg g35]
                  have h37 := R_dz (x2 := x2) (t0_0 := (p157.1 : Int32)) (t0_1 := (p157.2.1 : Int32)) (t0_2 := (p157.2.2.1 : Int32)) (t0_3 := (p157.2.2.2.1 : Int64)) (t0_4 := (p157.2.2.2.2.1 : Int32)) (t0_5 := (p157.2.2.2.2.2.1 : Int32)) (t0_6 := (p157.2.2.2.2.2.2.1 : Int32)) (t0_7 := (p157.2.2.2.2.2.2.2.1 : Int32)) (t0_8 := (p157.2.2.2.2.2.2.2.2.1 : Int32)) (t0_9 := (p157.2.2.2.2.2.2.2.2.2.1 : Int32)) (t0_10 := (p157.2.2.2.2.2.2.2.2.2.2.1 : Int32)) (t1_0 := t1_0) (by with_reducible assumption)
                  have h37z := h37.2
                  with_reducible refine v_owe h37.1 ?_
                  by_cases g38 : ((F_DR_isZero x2 (p157.1 : Int32) (p157.2.1 : Int32) (p157.2.2.1 : Int32) (p157.2.2.2.1 : Int64) (p157.2.2.2.2.1 : Int32) (p157.2.2.2.2.2.1 : Int32) (p157.2.2.2.2.2.2.1 : Int32) (p157.2.2.2.2.2.2.2.1 : Int32) (p157.2.2.2.2.2.2.2.2.1 : Int32) (p157.2.2.2.2.2.2.2.2.2.1 : Int32) (p157.2.2.2.2.2.2.2.2.2.2.1 : Int32) t1_0) : Int32) = (0 : Int32)
                  ·
                    rw [if_pos g38, if_pos g38]
                    refine ⟨trivial, ?_⟩
                    (unfold Q_DR_remainder; dsimp only; with_reducible assumption)
                  ·
                    rw [if_neg g38, if_neg g38]
                    have h39 := T_DR_bring (x2 := lx76) (x3 := (1 : Int32)) (x4 := x4) (t0_0 := (p157.1 : Int32)) (t0_1 := (p157.2.1 : Int32)) (t0_2 := (p157.2.2.1 : Int32)) (t0_3 := (p157.2.2.2.1 : Int64)) (t0_4 := (p157.2.2.2.2.1 : Int32)) (t0_5 := (p157.2.2.2.2.2.1 : Int32)) (t0_6 := (p157.2.2.2.2.2.2.1 : Int32)) (t0_7 := (p157.2.2.2.2.2.2.2.1 : Int32)) (t0_8 := (p157.2.2.2.2.2.2.2.2.1 : Int32)) (t0_9 := (p157.2.2.2.2.2.2.2.2.2.1 : Int32)) (t0_10 := (p157.2.2.2.2.2.2.2.2.2.2.1 : Int32)) (t1_0 := t1_0) (t2_0 := t2_0) (t3_0 := t3_0) (t4_0 := t4_0) (t5_0 := (p157.2.2.2.2.2.2.2.2.2.2.2 : (Nat → Int32))) (by with_reducible assumption) (by with_reducible assumption) ⟨by omega, by omega⟩ ⟨by omega, by omega⟩ (by with_reducible assumption) ⟨by omega, by omega⟩
                    with_reducible refine v_owe h39.1 ?_
                    replace h39 := h39.2
                    generalize F_DR_bring lx76 (1 : Int32) x4 (p157.1 : Int32) (p157.2.1 : Int32) (p157.2.2.1 : Int32) (p157.2.2.2.1 : Int64) (p157.2.2.2.2.1 : Int32) (p157.2.2.2.2.2.1 : Int32) (p157.2.2.2.2.2.2.1 : Int32) (p157.2.2.2.2.2.2.2.1 : Int32) (p157.2.2.2.2.2.2.2.2.1 : Int32) (p157.2.2.2.2.2.2.2.2.2.1 : Int32) (p157.2.2.2.2.2.2.2.2.2.2.1 : Int32) t1_0 t2_0 t3_0 t4_0 (p157.2.2.2.2.2.2.2.2.2.2.2 : (Nat → Int32)) = p312 at *
                    unfold Q_DR_bring at h39
                    unfold S_DR_remainder_c144_6 F_DR_remainder_c144_6
                    refine ⟨trivial, ?_⟩
                    (unfold Q_DR_remainder; dsimp only; with_reducible assumption)
            ·
              rw [if_neg g29, if_neg g29]
              unfold S_DR_remainder_J106 F_DR_remainder_J106
              have h40 := T_DR_load (x2 := x2) (t0_0 := (0 : Int32)) (t0_1 := t0_1) (t0_2 := t0_2) (t0_3 := t0_3) (t0_4 := t0_4) (t0_5 := t0_5) (t0_6 := t0_6) (t0_7 := t0_7) (t0_8 := t0_8) (t0_9 := t0_9) (t0_10 := (2 : Int32)) (t1_0 := t1_0) (t2_0 := t2_0) (t3_0 := t3_0) (t4_0 := t4_0) (t5_0 := t5_0) (by with_reducible assumption) (by with_reducible assumption)
              with_reducible refine v_owe h40.1 ?_
              replace h40 := h40.2
              generalize F_DR_load x2 (0 : Int32) t0_1 t0_2 t0_3 t0_4 t0_5 t0_6 t0_7 t0_8 t0_9 (2 : Int32) t1_0 t2_0 t3_0 t4_0 t5_0 = p157 at *
              unfold Q_DR_load at h40
              obtain ⟨h401, h40g, h403, h404, h405, h406, h407⟩ := h40
              have h404i := congrArg Int32.toInt h404
              unfold S_DR_remainder_c108 F_DR_remainder_c108
              by_cases g41 : (lg_cmp (lx76 - (p157.2.2.2.1 : Int64) : Int64) 1000 : Int32) ≤ (0 : Int32)
              ·
                rw [if_pos g41, if_pos g41]
                have h42 := T_DR_bring (x2 := lx76) (x3 := (1 : Int32)) (x4 := x4) (t0_0 := (p157.1 : Int32)) (t0_1 := (p157.2.1 : Int32)) (t0_2 := (p157.2.2.1 : Int32)) (t0_3 := (p157.2.2.2.1 : Int64)) (t0_4 := (p157.2.2.2.2.1 : Int32)) (t0_5 := (p157.2.2.2.2.2.1 : Int32)) (t0_6 := (p157.2.2.2.2.2.2.1 : Int32)) (t0_7 := (p157.2.2.2.2.2.2.2.1 : Int32)) (t0_8 := (p157.2.2.2.2.2.2.2.2.1 : Int32)) (t0_9 := (p157.2.2.2.2.2.2.2.2.2.1 : Int32)) (t0_10 := (p157.2.2.2.2.2.2.2.2.2.2.1 : Int32)) (t1_0 := t1_0) (t2_0 := t2_0) (t3_0 := t3_0) (t4_0 := t4_0) (t5_0 := (p157.2.2.2.2.2.2.2.2.2.2.2 : (Nat → Int32))) (by with_reducible assumption) (by with_reducible assumption) ⟨by omega, by omega⟩ ⟨by omega, by omega⟩ (by with_reducible assumption) ⟨by omega, by omega⟩
                with_reducible refine v_owe h42.1 ?_
                replace h42 := h42.2
                generalize F_DR_bring lx76 (1 : Int32) x4 (p157.1 : Int32) (p157.2.1 : Int32) (p157.2.2.1 : Int32) (p157.2.2.2.1 : Int64) (p157.2.2.2.2.1 : Int32) (p157.2.2.2.2.2.1 : Int32) (p157.2.2.2.2.2.2.1 : Int32) (p157.2.2.2.2.2.2.2.1 : Int32) (p157.2.2.2.2.2.2.2.2.1 : Int32) (p157.2.2.2.2.2.2.2.2.2.1 : Int32) (p157.2.2.2.2.2.2.2.2.2.2.1 : Int32) t1_0 t2_0 t3_0 t4_0 (p157.2.2.2.2.2.2.2.2.2.2.2 : (Nat → Int32)) = p231 at *
                unfold Q_DR_bring at h42
                unfold S_DR_remainder_c144 F_DR_remainder_c144
                refine ⟨trivial, ?_⟩
                (unfold Q_DR_remainder; dsimp only; with_reducible assumption)
              ·
                rw [if_neg g41, if_neg g41]
                have h43 := R_dz (x2 := x2) (t0_0 := (p157.1 : Int32)) (t0_1 := (p157.2.1 : Int32)) (t0_2 := (p157.2.2.1 : Int32)) (t0_3 := (p157.2.2.2.1 : Int64)) (t0_4 := (p157.2.2.2.2.1 : Int32)) (t0_5 := (p157.2.2.2.2.2.1 : Int32)) (t0_6 := (p157.2.2.2.2.2.2.1 : Int32)) (t0_7 := (p157.2.2.2.2.2.2.2.1 : Int32)) (t0_8 := (p157.2.2.2.2.2.2.2.2.1 : Int32)) (t0_9 := (p157.2.2.2.2.2.2.2.2.2.1 : Int32)) (t0_10 := (p157.2.2.2.2.2.2.2.2.2.2.1 : Int32)) (t1_0 := t1_0) (by with_reducible assumption)
                have h43z := h43.2
                with_reducible refine v_owe h43.1 ?_
                by_cases g44 : ((F_DR_isZero x2 (p157.1 : Int32) (p157.2.1 : Int32) (p157.2.2.1 : Int32) (p157.2.2.2.1 : Int64) (p157.2.2.2.2.1 : Int32) (p157.2.2.2.2.2.1 : Int32) (p157.2.2.2.2.2.2.1 : Int32) (p157.2.2.2.2.2.2.2.1 : Int32) (p157.2.2.2.2.2.2.2.2.1 : Int32) (p157.2.2.2.2.2.2.2.2.2.1 : Int32) (p157.2.2.2.2.2.2.2.2.2.2.1 : Int32) t1_0) : Int32) = (0 : Int32)
                ·
                  rw [if_pos g44, if_pos g44]
                  refine ⟨trivial, ?_⟩
                  (unfold Q_DR_remainder; dsimp only; with_reducible assumption)
                ·
                  rw [if_neg g44, if_neg g44]
                  have h45 := T_DR_bring (x2 := lx76) (x3 := (1 : Int32)) (x4 := x4) (t0_0 := (p157.1 : Int32)) (t0_1 := (p157.2.1 : Int32)) (t0_2 := (p157.2.2.1 : Int32)) (t0_3 := (p157.2.2.2.1 : Int64)) (t0_4 := (p157.2.2.2.2.1 : Int32)) (t0_5 := (p157.2.2.2.2.2.1 : Int32)) (t0_6 := (p157.2.2.2.2.2.2.1 : Int32)) (t0_7 := (p157.2.2.2.2.2.2.2.1 : Int32)) (t0_8 := (p157.2.2.2.2.2.2.2.2.1 : Int32)) (t0_9 := (p157.2.2.2.2.2.2.2.2.2.1 : Int32)) (t0_10 := (p157.2.2.2.2.2.2.2.2.2.2.1 : Int32)) (t1_0 := t1_0) (t2_0 := t2_0) (t3_0 := t3_0) (t4_0 := t4_0) (t5_0 := (p157.2.2.2.2.2.2.2.2.2.2.2 : (Nat → Int32))) (by with_reducible assumption) (by with_reducible assumption) ⟨by omega, by omega⟩ ⟨by omega, by omega⟩ (by with_reducible assumption) ⟨by omega, by omega⟩
                  with_reducible refine v_owe h45.1 ?_
                  replace h45 := h45.2
                  generalize F_DR_bring lx76 (1 : Int32) x4 (p157.1 : Int32) (p157.2.1 : Int32) (p157.2.2.1 : Int32) (p157.2.2.2.1 : Int64) (p157.2.2.2.2.1 : Int32) (p157.2.2.2.2.2.1 : Int32) (p157.2.2.2.2.2.2.1 : Int32) (p157.2.2.2.2.2.2.2.1 : Int32) (p157.2.2.2.2.2.2.2.2.1 : Int32) (p157.2.2.2.2.2.2.2.2.2.1 : Int32) (p157.2.2.2.2.2.2.2.2.2.2.1 : Int32) t1_0 t2_0 t3_0 t4_0 (p157.2.2.2.2.2.2.2.2.2.2.2 : (Nat → Int32)) = p312 at *
                  unfold Q_DR_bring at h45
                  unfold S_DR_remainder_c144_6 F_DR_remainder_c144_6
                  refine ⟨trivial, ?_⟩
                  (unfold Q_DR_remainder; dsimp only; with_reducible assumption)
        ·
          rw [if_neg g5, if_neg g5]
          unfold S_DR_remainder_J39 F_DR_remainder_J39
          have g46 : ¬ ((2 : Int32) ≤ (0 : Int32)) := (by decide)
          rw [if_neg g46, if_neg g46]
          refine ⟨trivial, ?_⟩
          (unfold Q_DR_remainder; dsimp only; with_reducible assumption)
      ·
        rw [if_neg g3, if_neg g3]
        unfold S_DR_remainder_J22 F_DR_remainder_J22
        unfold S_DR_remainder_J39 F_DR_remainder_J39
        have g47 : ¬ ((1 : Int32) ≤ (0 : Int32)) := (by decide)
        rw [if_neg g47, if_neg g47]
        refine ⟨trivial, ?_⟩
        (unfold Q_DR_remainder; dsimp only; with_reducible assumption)
    ·
      rw [if_neg g2, if_neg g2]
      unfold S_DR_remainder_J22 F_DR_remainder_J22
      unfold S_DR_remainder_J39 F_DR_remainder_J39
      have g48 : ¬ ((1 : Int32) ≤ (0 : Int32)) := (by decide)
      rw [if_neg g48, if_neg g48]
      refine ⟨trivial, ?_⟩
      (unfold Q_DR_remainder; dsimp only; with_reducible assumption)
  ·
    rw [if_neg g1, if_neg g1]
    unfold S_DR_remainder_J22 F_DR_remainder_J22
    unfold S_DR_remainder_J39 F_DR_remainder_J39
    have g49 : ¬ ((1 : Int32) ≤ (0 : Int32)) := (by decide)
    rw [if_neg g49, if_neg g49]
    refine ⟨trivial, ?_⟩
    (unfold Q_DR_remainder; dsimp only; with_reducible assumption)
