/-! DecimalRows: divide -/
theorem u_w0 {z : Int32} {un le : Nat → Int32} (hz : 1 ≤ z.toInt ∧ z.toInt ≤ 2199) (hg : gO un z.toNatClampNeg) (hU : wL 0 (uV un z.toNatClampNeg)) (hl : ∀ i : Nat, (i : Int) ≤ z.toInt → le i = 0) : uW z un le := by
  have e := q_clI (i := z) rfl (by omega)
  refine ⟨hz, hg, fun i hi => by rw [hl i (by omega)]; exact ⟨by decide, by decide⟩, ?_⟩
  show _ < _
  rw [u_zer (fun i hi => hl i (by omega))]
  exact hU
theorem u_gz {z : Int32} {f : Nat → Int32} (h : z = 0) : gO f z.toNatClampNeg := by
  subst h
  intro i hi
  exact absurd hi (Nat.not_lt_zero i)
theorem u_if {P : Prop} {b : Int32} (g : b = 0) (h : b = 0 → P) : P := h g
theorem u_ng {j : Int64} (h : -100000 ≤ j.toInt ∧ j.toInt ≤ 0) : ((-j : Int64).toInt32).toInt = -j.toInt := by
  have e := w_negL (a := j) rfl (by omega)
  rw [s_l2i (by omega) (by omega), e]
theorem u_z1 {a b c : Int32} {x : Int32} (ha : -10000 ≤ a.toInt ∧ a.toInt ≤ 10000) (hb : -10000 ≤ b.toInt ∧ b.toInt ≤ 10000) (hx : -10000 ≤ x.toInt ∧ x.toInt ≤ 10000) : (x.toInt64 + a.toInt64 - b.toInt64 : Int64).toInt = x.toInt + a.toInt - b.toInt := by
  have e1 : (x.toInt64 + a.toInt64 : Int64).toInt = x.toInt + a.toInt := q_addL (q_i2l rfl) (q_i2l rfl) (by omega) (by omega)
  exact q_subL e1 (q_i2l rfl) (by omega) (by omega)
theorem u_z2 {m k : Int32} {j : Int64} (hm : 1 ≤ m.toInt ∧ m.toInt ≤ 1000) (hk : 1 ≤ k.toInt ∧ k.toInt ≤ 1000) (hj : -100000 ≤ j.toInt ∧ j.toInt ≤ 100000) : ((m - k : Int32).toInt64 + j : Int64).toInt = m.toInt - k.toInt + j.toInt := by
  have e1 : (m - k : Int32).toInt = m.toInt - k.toInt := q_subI rfl rfl (by omega) (by omega)
  exact q_addL (q_i2l e1) rfl (by omega) (by omega)
theorem u_s1 {m : Int32} {j : Int64} (hm : 1 ≤ m.toInt ∧ m.toInt ≤ 1000) (hj : -100000 ≤ j.toInt ∧ j.toInt ≤ 100000) : (m.toInt64 + j : Int64).toInt = m.toInt + j.toInt := q_addL (q_i2l rfl) rfl (by omega) (by omega)
theorem u_k9 {K : Nat → Int32} {x : Int32} {j : Int64} {m : Int32} (hk : gO K 10000) (hx : 0 ≤ x.toInt ∧ x.toInt ≤ 9) (hm : m.toInt ≤ 1000) (h0 : 0 ≤ j.toInt) (h1 : j.toInt < m.toInt64.toInt) : (0 ≤ (K ((1000 * x) + j.toInt32 : Int32).toNatClampNeg).toInt ∧ (K ((1000 * x) + j.toInt32 : Int32).toNatClampNeg).toInt ≤ 9) ∧ (0 ≤ ((1000 * x) + j.toInt32 : Int32).toInt ∧ ((1000 * x) + j.toInt32 : Int32).toInt ≤ 9999) := by
  rw [q_i2l rfl] at h1
  have e : j.toInt32.toInt = j.toInt := s_l2i (by omega) (by omega)
  have i1 := (g_ix (x := x) (k := j.toInt32) hx ⟨by omega, by omega⟩).1
  exact ⟨g_kx hk hx (by omega) (by omega), by omega, by omega⟩
def Q_DR_divide (p : Int32 × Int32 × Int32 × Int64 × Int32 × Int32 × Int32 × Int32 × Int32 × Int32 × Int32 × (Nat → Int32) × (Nat → Int32) × (Nat → Int32) × (Nat → Int32) × (Nat → Int32) × (Nat → Int32) × (Nat → Int32)) : Prop := gR p.2.2.2.2.2.2.2.2.2.2.2.1 p.2.2.2.2.2.2.2.2.2.2.2.2.1 p.2.2.2.2.2.2.2.2.2.2.2.2.2.1 p.2.2.2.2.2.2.2.2.2.2.2.2.2.2.1
theorem v_dvd {x2 : Int32} {x3 : Int32} {x4 : Int32} {x5 : Int32} {x6 : Int32} {t0_0 : Int32} {t0_1 : Int32} {t0_2 : Int32} {t0_3 : Int64} {t0_4 : Int32} {t0_5 : Int32} {t0_6 : Int32} {t0_7 : Int32} {t0_8 : Int32} {t0_9 : Int32} {t0_10 : Int32} {t1_0 : (Nat → Int32)} {t2_0 : (Nat → Int32)} {t3_0 : (Nat → Int32)} {t4_0 : (Nat → Int32)} {t5_0 : (Nat → Int32)} {t6_0 : (Nat → Int32)} {t7_0 : (Nat → Int32)} {lx45 : Int32} {j100 : Int64} {j88 : Int64} {lx107 : Int32} {j126 : Int64} {lx367 : Int32} {p431 : (Int32 × Int32 × Int32 × Int64 × Int32 × Int32 × Int32 × Int32 × Int32 × Int32 × Int32 × (Nat → Int32))} {f397 : (Nat → Int32)} {p492 : (Int32 × Int32 × Int32 × Int64 × Int32 × Int32 × Int32 × Int32 × Int32 × Int32 × Int32 × (Nat → Int32))} (hR : gR t1_0 t2_0 t3_0 t4_0)(hx2 : 0 ≤ x2.toInt ∧ x2.toInt ≤ 9) (hx4 : 0 ≤ x4.toInt ∧ x4.toInt ≤ 9) (h88 : -50000 ≤ j88.toInt ∧ j88.toInt ≤ 2000) : ∀ (n : Nat) (lx512 : Int64) (lx513 : Int32) (lx514 : Int32) (lx515 : Int32) (lx516 : Int64) (lx517 : Int32) (lx518 : Int32) (lx519 : Int32) (lx520 : Int32) (lx521 : Int32) (lx522 : Int32) (lx523 : Int32) (lx524 : (Nat → Int32)) (lx525 : (Nat → Int32)), (0 ≤ lx512.toInt ∧ lx512.toInt ≤ 3001) → (3002 - lx512.toInt < (n : Int)) → (0 ≤ lx515.toInt ∧ lx515.toInt ≤ lx512.toInt) → (0 ≤ lx518.toInt ∧ lx518.toInt ≤ 1) → (uW lx520 f397 lx525) → (wL 0 (uV f397 lx520.toNatClampNeg)) → (gO lx524 lx515.toNatClampNeg) → (lx515.toInt = 0 ∨ lx524 0 ≠ 0) → (S_DR_divide_L268 x2 x3 x4 x5 x6 t0_0 t0_1 t0_2 t0_3 t0_4 t0_5 t0_6 t0_7 t0_8 t0_9 t0_10 t1_0 t2_0 t3_0 t4_0 t5_0 t6_0 t7_0 lx45 j100 j88 lx107 j126 lx367 p431 f397 p492 n lx512 lx513 lx514 lx515 lx516 lx517 lx518 lx519 lx520 lx521 lx522 lx523 lx524 lx525) ∧ Q_DR_divide (F_DR_divide_L268 x2 x3 x4 x5 x6 t0_0 t0_1 t0_2 t0_3 t0_4 t0_5 t0_6 t0_7 t0_8 t0_9 t0_10 t1_0 t2_0 t3_0 t4_0 t5_0 t6_0 t7_0 lx45 j100 j88 lx107 j126 lx367 p431 f397 p492 n lx512 lx513 lx514 lx515 lx516 lx517 lx518 lx519 lx520 lx521 lx522 lx523 lx524 lx525) := by
  intro n
  induction n with
  | zero => intro lx512 lx513 lx514 lx515 lx516 lx517 lx518 lx519 lx520 lx521 lx522 lx523 lx524 lx525 h0 hm h1 h5 hw hU ho hz; exact absurd (show False by omega) id
  | succ n ih =>
    intro lx512 lx513 lx514 lx515 lx516 lx517 lx518 lx519 lx520 lx521 lx522 lx523 lx524 lx525 h0 hm h1 h5 hw hU ho hz
    have e0 : (0 : Int32).toInt = 0 := rfl
    have eL0 : (0 : Int64).toInt = 0 := rfl
    have eL1 : (10000 : Int64).toInt = 10000 := rfl
    have eL2 : (-10000 : Int64).toInt = -10000 := rfl
    have eL3 : (1000 : Int64).toInt = 1000 := rfl
    have eL4 : (-1 : Int64).toInt = -1 := rfl
    have eI3 : (1000 : Int32).toInt = 1000 := rfl
    have hmn := (gR.at hR hx2).1
    have es1 := u_s1 (m := t2_0 x2.toNatClampNeg) (j := j88) hmn ⟨by omega, by omega⟩
    have es2 := u_s1 (m := t2_0 x2.toNatClampNeg) (j := 0) hmn ⟨by omega, by omega⟩
    have hu1 := hw.1
    rw [S_DR_divide_L268.eq_2, F_DR_divide_L268.eq_2]
    by_cases g1 : (lg_cmp j88 0 : Int32) ≤ (0 : Int32)
    ·
      rw [if_pos g1, if_pos g1]
      have g1l := g_lc3 g1
      unfold S_DR_divide_J290 F_DR_divide_J290
      by_cases g2 : (0 : Int32) ≤ (lg_cmp lx512 (((t2_0 x2.toNatClampNeg : Int32).toInt64 : Int64) + (0 : Int64) : Int64) : Int32)
      ·
        rw [if_pos g2, if_pos g2]
        have g2l := g_lc5 g2
        have h3 := R_next  (x2 := (0 : Int32)) (t0_0 := lx513) (t0_1 := lx514) (t0_2 := lx515) (t0_3 := lx516) (t0_4 := lx517) (t0_5 := lx518) (t0_6 := lx519) (t0_7 := lx520) (t0_8 := lx521) (t0_9 := lx522) (t0_10 := lx523) (un := f397) (l0 := lx525) (by with_reducible assumption) (by with_reducible assumption) (by first | decide | exact (u_k9 hR.1 hx2 (gR.at hR hx2).1.2 h0.1 (by with_reducible assumption)).1)
        with_reducible refine v_owe h3.1 ?_
        replace h3 := h3.2
        generalize F_DR_nextFigure (0 : Int32) lx513 lx514 lx515 lx516 lx517 lx518 lx519 lx520 lx521 lx522 lx523 f397 lx525 = p613 at *
        obtain ⟨nxd, nxw, nxe⟩ := h3
        unfold S_DR_divide_c346 F_DR_divide_c346
        have h4 := T_DR_append (x2 := (p613.1 : Int32)) (t0_0 := lx513) (t0_1 := lx514) (t0_2 := lx515) (t0_3 := lx516) (t0_4 := lx517) (t0_5 := lx518) (t0_6 := lx519) (t0_7 := lx520) (t0_8 := lx521) (t0_9 := lx522) (t0_10 := lx523) (t1_0 := lx524) ⟨by omega, by omega⟩ (by with_reducible assumption) (by with_reducible assumption) (by with_reducible assumption)
        with_reducible refine v_owe h4.1 ?_
        replace h4 := h4.2
        generalize F_DR_append (p613.1 : Int32) lx513 lx514 lx515 lx516 lx517 lx518 lx519 lx520 lx521 lx522 lx523 lx524 = p668 at *
        unfold Q_DR_append at h4
        obtain ⟨h42, h4g, h4z, h4a, h4b, h4d, h4e, h45, h47, h4k⟩ := h4
        have app7 := h47
        have app5 := congrArg Int32.toInt h45
        have app7i := congrArg Int32.toInt h47
        unfold S_DR_divide_c349 F_DR_divide_c349
        have h5 := T_DR_isLeft (t0_0 := (p668.1 : Int32)) (t0_1 := (p668.2.1 : Int32)) (t0_2 := (p668.2.2.1 : Int32)) (t0_3 := (p668.2.2.2.1 : Int64)) (t0_4 := (p668.2.2.2.2.1 : Int32)) (t0_5 := (p668.2.2.2.2.2.1 : Int32)) (t0_6 := (p668.2.2.2.2.2.2.1 : Int32)) (t0_7 := (p668.2.2.2.2.2.2.2.1 : Int32)) (t0_8 := (p668.2.2.2.2.2.2.2.2.1 : Int32)) (t0_9 := (p668.2.2.2.2.2.2.2.2.2.1 : Int32)) (t0_10 := (p668.2.2.2.2.2.2.2.2.2.2.1 : Int32)) (t1_0 := (p613.2 : (Nat → Int32))) ⟨by omega, by omega⟩
        with_reducible refine v_owe h5 ?_
        refine v_cons (by omega) ?_
        refine v_cons (by omega) ?_
        by_cases g6 : (p668.2.2.1 : Int32) = (0 : Int32)
        ·
          rw [if_pos g6, if_pos g6]
          have g6i := q_eqI g6
          have h7 := T_DR_cut (x2 := (0 : Int32)) (x3 := x6) (t0_0 := (p668.1 : Int32)) (t0_1 := (p668.2.1 : Int32)) (t0_2 := (1 : Int32)) (t0_3 := ((x5.toInt64 : Int64) + 1 : Int64)) (t0_4 := ((F_DR_isLeft (p668.1 : Int32) (p668.2.1 : Int32) (p668.2.2.1 : Int32) (p668.2.2.2.1 : Int64) (p668.2.2.2.2.1 : Int32) (p668.2.2.2.2.2.1 : Int32) (p668.2.2.2.2.2.2.1 : Int32) (p668.2.2.2.2.2.2.2.1 : Int32) (p668.2.2.2.2.2.2.2.2.1 : Int32) (p668.2.2.2.2.2.2.2.2.2.1 : Int32) (p668.2.2.2.2.2.2.2.2.2.2.1 : Int32) (p613.2 : (Nat → Int32))) : Int32)) (t0_5 := (p668.2.2.2.2.2.1 : Int32)) (t0_6 := (p668.2.2.2.2.2.2.1 : Int32)) (t0_7 := (p668.2.2.2.2.2.2.2.1 : Int32)) (t0_8 := (p668.2.2.2.2.2.2.2.2.1 : Int32)) (t0_9 := (p668.2.2.2.2.2.2.2.2.2.1 : Int32)) (t0_10 := (p668.2.2.2.2.2.2.2.2.2.2.1 : Int32)) (t1_0 := (upd (p668.2.2.2.2.2.2.2.2.2.2.2 : (Nat → Int32)) (0 : Int32).toNatClampNeg 0 : (Nat → Int32))) (by first | exact ⟨by omega, by omega⟩ | decide) (by first | omega | decide) (by first | exact ⟨by omega, by omega⟩ | decide) (by first | with_reducible assumption | exact g_one)
          with_reducible refine v_owe h7.1 ?_
          replace h7 := h7.2
          generalize F_DR_cut (0 : Int32) x6 (p668.1 : Int32) (p668.2.1 : Int32) (1 : Int32) ((x5.toInt64 : Int64) + 1 : Int64) ((F_DR_isLeft (p668.1 : Int32) (p668.2.1 : Int32) (p668.2.2.1 : Int32) (p668.2.2.2.1 : Int64) (p668.2.2.2.2.1 : Int32) (p668.2.2.2.2.2.1 : Int32) (p668.2.2.2.2.2.2.1 : Int32) (p668.2.2.2.2.2.2.2.1 : Int32) (p668.2.2.2.2.2.2.2.2.1 : Int32) (p668.2.2.2.2.2.2.2.2.2.1 : Int32) (p668.2.2.2.2.2.2.2.2.2.2.1 : Int32) (p613.2 : (Nat → Int32))) : Int32) (p668.2.2.2.2.2.1 : Int32) (p668.2.2.2.2.2.2.1 : Int32) (p668.2.2.2.2.2.2.2.1 : Int32) (p668.2.2.2.2.2.2.2.2.1 : Int32) (p668.2.2.2.2.2.2.2.2.2.1 : Int32) (p668.2.2.2.2.2.2.2.2.2.2.1 : Int32) (upd (p668.2.2.2.2.2.2.2.2.2.2.2 : (Nat → Int32)) (0 : Int32).toNatClampNeg 0 : (Nat → Int32)) = p890 at *
          unfold Q_DR_cut at h7
          obtain ⟨h71, h7g, h76⟩ := h7
          unfold S_DR_divide_c397_17 F_DR_divide_c397_17
          by_cases g8 : (p890.1 : Int32) = (0 : Int32)
          ·
            rw [if_pos g8, if_pos g8]
            refine ⟨trivial, ?_⟩
            (unfold Q_DR_divide; dsimp only; with_reducible assumption)
          ·
            rw [if_neg g8, if_neg g8]
            have h9 := T_DR_store (x2 := x4) (t0_0 := (p890.2.1 : Int32)) (t0_1 := (p890.2.2.1 : Int32)) (t0_2 := (p890.2.2.2.1 : Int32)) (t0_3 := (p890.2.2.2.2.1 : Int64)) (t0_4 := (p890.2.2.2.2.2.1 : Int32)) (t0_5 := (p890.2.2.2.2.2.2.1 : Int32)) (t0_6 := (p890.2.2.2.2.2.2.2.1 : Int32)) (t0_7 := (p890.2.2.2.2.2.2.2.2.1 : Int32)) (t0_8 := (p890.2.2.2.2.2.2.2.2.2.1 : Int32)) (t0_9 := (p890.2.2.2.2.2.2.2.2.2.2.1 : Int32)) (t0_10 := (p890.2.2.2.2.2.2.2.2.2.2.2.1 : Int32)) (t1_0 := t1_0) (t2_0 := t2_0) (t3_0 := t3_0) (t4_0 := t4_0) (t5_0 := (p890.2.2.2.2.2.2.2.2.2.2.2.2 : (Nat → Int32))) (by with_reducible assumption) (by with_reducible assumption) ⟨by first | omega | decide, by first | omega | decide⟩ (by first | with_reducible assumption | exact g_cl (by with_reducible assumption) (by omega) (by omega) | omega | decide)
            with_reducible refine v_owe h9.1 ?_
            replace h9 := h9.2
            generalize F_DR_store x4 (p890.2.1 : Int32) (p890.2.2.1 : Int32) (p890.2.2.2.1 : Int32) (p890.2.2.2.2.1 : Int64) (p890.2.2.2.2.2.1 : Int32) (p890.2.2.2.2.2.2.1 : Int32) (p890.2.2.2.2.2.2.2.1 : Int32) (p890.2.2.2.2.2.2.2.2.1 : Int32) (p890.2.2.2.2.2.2.2.2.2.1 : Int32) (p890.2.2.2.2.2.2.2.2.2.2.1 : Int32) (p890.2.2.2.2.2.2.2.2.2.2.2.1 : Int32) t1_0 t2_0 t3_0 t4_0 (p890.2.2.2.2.2.2.2.2.2.2.2.2 : (Nat → Int32)) = p962 at *
            unfold Q_DR_store at h9
            unfold S_DR_divide_c405_18 F_DR_divide_c405_18
            refine ⟨trivial, ?_⟩
            (unfold Q_DR_divide; dsimp only; with_reducible assumption)
        ·
          rw [if_neg g6, if_neg g6]
          have g6i := q_neI g6
          have g6e : (p668.2.2.1 - 1 : Int32).toInt = p668.2.2.1.toInt - 1 := q_subI (y := 1) rfl (by decide) (by omega) (by omega)
          have h10 := T_DR_cut (x2 := ((p668.2.2.1 : Int32) - 1 : Int32)) (x3 := x6) (t0_0 := (p668.1 : Int32)) (t0_1 := (p668.2.1 : Int32)) (t0_2 := (p668.2.2.1 : Int32)) (t0_3 := ((x5.toInt64 : Int64) + 1 : Int64)) (t0_4 := ((F_DR_isLeft (p668.1 : Int32) (p668.2.1 : Int32) (p668.2.2.1 : Int32) (p668.2.2.2.1 : Int64) (p668.2.2.2.2.1 : Int32) (p668.2.2.2.2.2.1 : Int32) (p668.2.2.2.2.2.2.1 : Int32) (p668.2.2.2.2.2.2.2.1 : Int32) (p668.2.2.2.2.2.2.2.2.1 : Int32) (p668.2.2.2.2.2.2.2.2.2.1 : Int32) (p668.2.2.2.2.2.2.2.2.2.2.1 : Int32) (p613.2 : (Nat → Int32))) : Int32)) (t0_5 := (p668.2.2.2.2.2.1 : Int32)) (t0_6 := (p668.2.2.2.2.2.2.1 : Int32)) (t0_7 := (p668.2.2.2.2.2.2.2.1 : Int32)) (t0_8 := (p668.2.2.2.2.2.2.2.2.1 : Int32)) (t0_9 := (p668.2.2.2.2.2.2.2.2.2.1 : Int32)) (t0_10 := (p668.2.2.2.2.2.2.2.2.2.2.1 : Int32)) (t1_0 := (p668.2.2.2.2.2.2.2.2.2.2.2 : (Nat → Int32))) (by first | exact ⟨by omega, by omega⟩ | decide) (by first | omega | decide) (by first | exact ⟨by omega, by omega⟩ | decide) (by first | with_reducible assumption | exact g_one)
          with_reducible refine v_owe h10.1 ?_
          replace h10 := h10.2
          generalize F_DR_cut ((p668.2.2.1 : Int32) - 1 : Int32) x6 (p668.1 : Int32) (p668.2.1 : Int32) (p668.2.2.1 : Int32) ((x5.toInt64 : Int64) + 1 : Int64) ((F_DR_isLeft (p668.1 : Int32) (p668.2.1 : Int32) (p668.2.2.1 : Int32) (p668.2.2.2.1 : Int64) (p668.2.2.2.2.1 : Int32) (p668.2.2.2.2.2.1 : Int32) (p668.2.2.2.2.2.2.1 : Int32) (p668.2.2.2.2.2.2.2.1 : Int32) (p668.2.2.2.2.2.2.2.2.1 : Int32) (p668.2.2.2.2.2.2.2.2.2.1 : Int32) (p668.2.2.2.2.2.2.2.2.2.2.1 : Int32) (p613.2 : (Nat → Int32))) : Int32) (p668.2.2.2.2.2.1 : Int32) (p668.2.2.2.2.2.2.1 : Int32) (p668.2.2.2.2.2.2.2.1 : Int32) (p668.2.2.2.2.2.2.2.2.1 : Int32) (p668.2.2.2.2.2.2.2.2.2.1 : Int32) (p668.2.2.2.2.2.2.2.2.2.2.1 : Int32) (p668.2.2.2.2.2.2.2.2.2.2.2 : (Nat → Int32)) = p750 at *
          unfold Q_DR_cut at h10
          obtain ⟨h101, h10g, h106⟩ := h10
          unfold S_DR_divide_c397_15 F_DR_divide_c397_15
          by_cases g11 : (p750.1 : Int32) = (0 : Int32)
          ·
            rw [if_pos g11, if_pos g11]
            refine ⟨trivial, ?_⟩
            (unfold Q_DR_divide; dsimp only; with_reducible assumption)
          ·
            rw [if_neg g11, if_neg g11]
            have h12 := T_DR_store (x2 := x4) (t0_0 := (p750.2.1 : Int32)) (t0_1 := (p750.2.2.1 : Int32)) (t0_2 := (p750.2.2.2.1 : Int32)) (t0_3 := (p750.2.2.2.2.1 : Int64)) (t0_4 := (p750.2.2.2.2.2.1 : Int32)) (t0_5 := (p750.2.2.2.2.2.2.1 : Int32)) (t0_6 := (p750.2.2.2.2.2.2.2.1 : Int32)) (t0_7 := (p750.2.2.2.2.2.2.2.2.1 : Int32)) (t0_8 := (p750.2.2.2.2.2.2.2.2.2.1 : Int32)) (t0_9 := (p750.2.2.2.2.2.2.2.2.2.2.1 : Int32)) (t0_10 := (p750.2.2.2.2.2.2.2.2.2.2.2.1 : Int32)) (t1_0 := t1_0) (t2_0 := t2_0) (t3_0 := t3_0) (t4_0 := t4_0) (t5_0 := (p750.2.2.2.2.2.2.2.2.2.2.2.2 : (Nat → Int32))) (by with_reducible assumption) (by with_reducible assumption) ⟨by first | omega | decide, by first | omega | decide⟩ (by first | with_reducible assumption | exact g_cl (by with_reducible assumption) (by omega) (by omega) | omega | decide)
            with_reducible refine v_owe h12.1 ?_
            replace h12 := h12.2
            generalize F_DR_store x4 (p750.2.1 : Int32) (p750.2.2.1 : Int32) (p750.2.2.2.1 : Int32) (p750.2.2.2.2.1 : Int64) (p750.2.2.2.2.2.1 : Int32) (p750.2.2.2.2.2.2.1 : Int32) (p750.2.2.2.2.2.2.2.1 : Int32) (p750.2.2.2.2.2.2.2.2.1 : Int32) (p750.2.2.2.2.2.2.2.2.2.1 : Int32) (p750.2.2.2.2.2.2.2.2.2.2.1 : Int32) (p750.2.2.2.2.2.2.2.2.2.2.2.1 : Int32) t1_0 t2_0 t3_0 t4_0 (p750.2.2.2.2.2.2.2.2.2.2.2.2 : (Nat → Int32)) = p822 at *
            unfold Q_DR_store at h12
            unfold S_DR_divide_c405_16 F_DR_divide_c405_16
            refine ⟨trivial, ?_⟩
            (unfold Q_DR_divide; dsimp only; with_reducible assumption)
      ·
        rw [if_neg g2, if_neg g2]
        have g2l := g_lc6 g2
        by_cases g13 : (0 : Int32) ≤ (lg_cmp lx512 ((t2_0 x2.toNatClampNeg : Int32).toInt64 : Int64) : Int32)
        ·
          rw [if_pos g13, if_pos g13]
          have g13l := g_lc5 g13
          have h14 := R_next  (x2 := (0 : Int32)) (t0_0 := lx513) (t0_1 := lx514) (t0_2 := lx515) (t0_3 := lx516) (t0_4 := lx517) (t0_5 := lx518) (t0_6 := lx519) (t0_7 := lx520) (t0_8 := lx521) (t0_9 := lx522) (t0_10 := lx523) (un := f397) (l0 := lx525) (by with_reducible assumption) (by with_reducible assumption) (by first | decide | exact (u_k9 hR.1 hx2 (gR.at hR hx2).1.2 h0.1 (by with_reducible assumption)).1)
          with_reducible refine v_owe h14.1 ?_
          replace h14 := h14.2
          generalize F_DR_nextFigure (0 : Int32) lx513 lx514 lx515 lx516 lx517 lx518 lx519 lx520 lx521 lx522 lx523 f397 lx525 = p1004 at *
          obtain ⟨nxd, nxw, nxe⟩ := h14
          unfold S_DR_divide_c328 F_DR_divide_c328
          have h15 := T_DR_append (x2 := (p1004.1 : Int32)) (t0_0 := lx513) (t0_1 := lx514) (t0_2 := lx515) (t0_3 := lx516) (t0_4 := lx517) (t0_5 := lx518) (t0_6 := lx519) (t0_7 := lx520) (t0_8 := lx521) (t0_9 := lx522) (t0_10 := lx523) (t1_0 := lx524) ⟨by omega, by omega⟩ (by with_reducible assumption) (by with_reducible assumption) (by with_reducible assumption)
          with_reducible refine v_owe h15.1 ?_
          replace h15 := h15.2
          generalize F_DR_append (p1004.1 : Int32) lx513 lx514 lx515 lx516 lx517 lx518 lx519 lx520 lx521 lx522 lx523 lx524 = p1059 at *
          unfold Q_DR_append at h15
          obtain ⟨h152, h15g, h15z, h15a, h15b, h15d, h15e, h155, h157, h15k⟩ := h15
          have app7 := h157
          have app5 := congrArg Int32.toInt h155
          have app7i := congrArg Int32.toInt h157
          unfold S_DR_divide_c331 F_DR_divide_c331
          have e9 : (lx512 + 1 : Int64).toInt = lx512.toInt + 1 := q_addL (y := 1) rfl (by decide) (by omega) (by omega); exact ih _ _ _ _ _ _ _ _ _ _ _ _ _ _ ⟨by omega, by omega⟩ (by omega) ⟨by omega, by omega⟩ ⟨by omega, by omega⟩ (by rw [app7]; exact nxw) (by rw [app7]; exact hU) (by with_reducible assumption) (by with_reducible assumption)
        ·
          rw [if_neg g13, if_neg g13]
          have g13l := g_lc6 g13
          refine v_cons (by have := (u_k9 hR.1 hx2 (gR.at hR hx2).1.2 h0.1 (by with_reducible assumption) (K := t1_0)).2; omega) ?_
          refine v_cons (by have := (u_k9 hR.1 hx2 (gR.at hR hx2).1.2 h0.1 (by with_reducible assumption) (K := t1_0)).2; omega) ?_
          have h16 := R_next  (x2 := (t1_0 ((1000 * x2 : Int32) + (lx512.toInt32 : Int32) : Int32).toNatClampNeg : Int32)) (t0_0 := lx513) (t0_1 := lx514) (t0_2 := lx515) (t0_3 := lx516) (t0_4 := lx517) (t0_5 := lx518) (t0_6 := lx519) (t0_7 := lx520) (t0_8 := lx521) (t0_9 := lx522) (t0_10 := lx523) (un := f397) (l0 := lx525) (by with_reducible assumption) (by with_reducible assumption) (by first | decide | exact (u_k9 hR.1 hx2 (gR.at hR hx2).1.2 h0.1 (by with_reducible assumption)).1)
          with_reducible refine v_owe h16.1 ?_
          replace h16 := h16.2
          generalize F_DR_nextFigure (t1_0 ((1000 * x2 : Int32) + (lx512.toInt32 : Int32) : Int32).toNatClampNeg : Int32) lx513 lx514 lx515 lx516 lx517 lx518 lx519 lx520 lx521 lx522 lx523 f397 lx525 = p1102 at *
          obtain ⟨nxd, nxw, nxe⟩ := h16
          unfold S_DR_divide_c328_21 F_DR_divide_c328_21
          have h17 := T_DR_append (x2 := (p1102.1 : Int32)) (t0_0 := lx513) (t0_1 := lx514) (t0_2 := lx515) (t0_3 := lx516) (t0_4 := lx517) (t0_5 := lx518) (t0_6 := lx519) (t0_7 := lx520) (t0_8 := lx521) (t0_9 := lx522) (t0_10 := lx523) (t1_0 := lx524) ⟨by omega, by omega⟩ (by with_reducible assumption) (by with_reducible assumption) (by with_reducible assumption)
          with_reducible refine v_owe h17.1 ?_
          replace h17 := h17.2
          generalize F_DR_append (p1102.1 : Int32) lx513 lx514 lx515 lx516 lx517 lx518 lx519 lx520 lx521 lx522 lx523 lx524 = p1157 at *
          unfold Q_DR_append at h17
          obtain ⟨h172, h17g, h17z, h17a, h17b, h17d, h17e, h175, h177, h17k⟩ := h17
          have app7 := h177
          have app5 := congrArg Int32.toInt h175
          have app7i := congrArg Int32.toInt h177
          unfold S_DR_divide_c331_22 F_DR_divide_c331_22
          have e9 : (lx512 + 1 : Int64).toInt = lx512.toInt + 1 := q_addL (y := 1) rfl (by decide) (by omega) (by omega); exact ih _ _ _ _ _ _ _ _ _ _ _ _ _ _ ⟨by omega, by omega⟩ (by omega) ⟨by omega, by omega⟩ ⟨by omega, by omega⟩ (by rw [app7]; exact nxw) (by rw [app7]; exact hU) (by with_reducible assumption) (by with_reducible assumption)
    ·
      rw [if_neg g1, if_neg g1]
      have g1l := g_lc4 g1
      unfold S_DR_divide_J290 F_DR_divide_J290
      by_cases g18 : (0 : Int32) ≤ (lg_cmp lx512 (((t2_0 x2.toNatClampNeg : Int32).toInt64 : Int64) + j88 : Int64) : Int32)
      ·
        rw [if_pos g18, if_pos g18]
        have g18l := g_lc5 g18
        have h19 := R_next  (x2 := (0 : Int32)) (t0_0 := lx513) (t0_1 := lx514) (t0_2 := lx515) (t0_3 := lx516) (t0_4 := lx517) (t0_5 := lx518) (t0_6 := lx519) (t0_7 := lx520) (t0_8 := lx521) (t0_9 := lx522) (t0_10 := lx523) (un := f397) (l0 := lx525) (by with_reducible assumption) (by with_reducible assumption) (by first | decide | exact (u_k9 hR.1 hx2 (gR.at hR hx2).1.2 h0.1 (by with_reducible assumption)).1)
        with_reducible refine v_owe h19.1 ?_
        replace h19 := h19.2
        generalize F_DR_nextFigure (0 : Int32) lx513 lx514 lx515 lx516 lx517 lx518 lx519 lx520 lx521 lx522 lx523 f397 lx525 = p613 at *
        obtain ⟨nxd, nxw, nxe⟩ := h19
        unfold S_DR_divide_c346 F_DR_divide_c346
        have h20 := T_DR_append (x2 := (p613.1 : Int32)) (t0_0 := lx513) (t0_1 := lx514) (t0_2 := lx515) (t0_3 := lx516) (t0_4 := lx517) (t0_5 := lx518) (t0_6 := lx519) (t0_7 := lx520) (t0_8 := lx521) (t0_9 := lx522) (t0_10 := lx523) (t1_0 := lx524) ⟨by omega, by omega⟩ (by with_reducible assumption) (by with_reducible assumption) (by with_reducible assumption)
        with_reducible refine v_owe h20.1 ?_
        replace h20 := h20.2
        generalize F_DR_append (p613.1 : Int32) lx513 lx514 lx515 lx516 lx517 lx518 lx519 lx520 lx521 lx522 lx523 lx524 = p668 at *
        unfold Q_DR_append at h20
        obtain ⟨h202, h20g, h20z, h20a, h20b, h20d, h20e, h205, h207, h20k⟩ := h20
        have app7 := h207
        have app5 := congrArg Int32.toInt h205
        have app7i := congrArg Int32.toInt h207
        unfold S_DR_divide_c349 F_DR_divide_c349
        have h21 := T_DR_isLeft (t0_0 := (p668.1 : Int32)) (t0_1 := (p668.2.1 : Int32)) (t0_2 := (p668.2.2.1 : Int32)) (t0_3 := (p668.2.2.2.1 : Int64)) (t0_4 := (p668.2.2.2.2.1 : Int32)) (t0_5 := (p668.2.2.2.2.2.1 : Int32)) (t0_6 := (p668.2.2.2.2.2.2.1 : Int32)) (t0_7 := (p668.2.2.2.2.2.2.2.1 : Int32)) (t0_8 := (p668.2.2.2.2.2.2.2.2.1 : Int32)) (t0_9 := (p668.2.2.2.2.2.2.2.2.2.1 : Int32)) (t0_10 := (p668.2.2.2.2.2.2.2.2.2.2.1 : Int32)) (t1_0 := (p613.2 : (Nat → Int32))) ⟨by omega, by omega⟩
        with_reducible refine v_owe h21 ?_
        refine v_cons (by omega) ?_
        refine v_cons (by omega) ?_
        by_cases g22 : (p668.2.2.1 : Int32) = (0 : Int32)
        ·
          rw [if_pos g22, if_pos g22]
          have g22i := q_eqI g22
          have h23 := T_DR_cut (x2 := (0 : Int32)) (x3 := x6) (t0_0 := (p668.1 : Int32)) (t0_1 := (p668.2.1 : Int32)) (t0_2 := (1 : Int32)) (t0_3 := ((x5.toInt64 : Int64) + 1 : Int64)) (t0_4 := ((F_DR_isLeft (p668.1 : Int32) (p668.2.1 : Int32) (p668.2.2.1 : Int32) (p668.2.2.2.1 : Int64) (p668.2.2.2.2.1 : Int32) (p668.2.2.2.2.2.1 : Int32) (p668.2.2.2.2.2.2.1 : Int32) (p668.2.2.2.2.2.2.2.1 : Int32) (p668.2.2.2.2.2.2.2.2.1 : Int32) (p668.2.2.2.2.2.2.2.2.2.1 : Int32) (p668.2.2.2.2.2.2.2.2.2.2.1 : Int32) (p613.2 : (Nat → Int32))) : Int32)) (t0_5 := (p668.2.2.2.2.2.1 : Int32)) (t0_6 := (p668.2.2.2.2.2.2.1 : Int32)) (t0_7 := (p668.2.2.2.2.2.2.2.1 : Int32)) (t0_8 := (p668.2.2.2.2.2.2.2.2.1 : Int32)) (t0_9 := (p668.2.2.2.2.2.2.2.2.2.1 : Int32)) (t0_10 := (p668.2.2.2.2.2.2.2.2.2.2.1 : Int32)) (t1_0 := (upd (p668.2.2.2.2.2.2.2.2.2.2.2 : (Nat → Int32)) (0 : Int32).toNatClampNeg 0 : (Nat → Int32))) (by first | exact ⟨by omega, by omega⟩ | decide) (by first | omega | decide) (by first | exact ⟨by omega, by omega⟩ | decide) (by first | with_reducible assumption | exact g_one)
          with_reducible refine v_owe h23.1 ?_
          replace h23 := h23.2
          generalize F_DR_cut (0 : Int32) x6 (p668.1 : Int32) (p668.2.1 : Int32) (1 : Int32) ((x5.toInt64 : Int64) + 1 : Int64) ((F_DR_isLeft (p668.1 : Int32) (p668.2.1 : Int32) (p668.2.2.1 : Int32) (p668.2.2.2.1 : Int64) (p668.2.2.2.2.1 : Int32) (p668.2.2.2.2.2.1 : Int32) (p668.2.2.2.2.2.2.1 : Int32) (p668.2.2.2.2.2.2.2.1 : Int32) (p668.2.2.2.2.2.2.2.2.1 : Int32) (p668.2.2.2.2.2.2.2.2.2.1 : Int32) (p668.2.2.2.2.2.2.2.2.2.2.1 : Int32) (p613.2 : (Nat → Int32))) : Int32) (p668.2.2.2.2.2.1 : Int32) (p668.2.2.2.2.2.2.1 : Int32) (p668.2.2.2.2.2.2.2.1 : Int32) (p668.2.2.2.2.2.2.2.2.1 : Int32) (p668.2.2.2.2.2.2.2.2.2.1 : Int32) (p668.2.2.2.2.2.2.2.2.2.2.1 : Int32) (upd (p668.2.2.2.2.2.2.2.2.2.2.2 : (Nat → Int32)) (0 : Int32).toNatClampNeg 0 : (Nat → Int32)) = p890 at *
          unfold Q_DR_cut at h23
          obtain ⟨h231, h23g, h236⟩ := h23
          unfold S_DR_divide_c397_17 F_DR_divide_c397_17
          by_cases g24 : (p890.1 : Int32) = (0 : Int32)
          ·
            rw [if_pos g24, if_pos g24]
            refine ⟨trivial, ?_⟩
            (unfold Q_DR_divide; dsimp only; with_reducible assumption)
          ·
            rw [if_neg g24, if_neg g24]
            have h25 := T_DR_store (x2 := x4) (t0_0 := (p890.2.1 : Int32)) (t0_1 := (p890.2.2.1 : Int32)) (t0_2 := (p890.2.2.2.1 : Int32)) (t0_3 := (p890.2.2.2.2.1 : Int64)) (t0_4 := (p890.2.2.2.2.2.1 : Int32)) (t0_5 := (p890.2.2.2.2.2.2.1 : Int32)) (t0_6 := (p890.2.2.2.2.2.2.2.1 : Int32)) (t0_7 := (p890.2.2.2.2.2.2.2.2.1 : Int32)) (t0_8 := (p890.2.2.2.2.2.2.2.2.2.1 : Int32)) (t0_9 := (p890.2.2.2.2.2.2.2.2.2.2.1 : Int32)) (t0_10 := (p890.2.2.2.2.2.2.2.2.2.2.2.1 : Int32)) (t1_0 := t1_0) (t2_0 := t2_0) (t3_0 := t3_0) (t4_0 := t4_0) (t5_0 := (p890.2.2.2.2.2.2.2.2.2.2.2.2 : (Nat → Int32))) (by with_reducible assumption) (by with_reducible assumption) ⟨by first | omega | decide, by first | omega | decide⟩ (by first | with_reducible assumption | exact g_cl (by with_reducible assumption) (by omega) (by omega) | omega | decide)
            with_reducible refine v_owe h25.1 ?_
            replace h25 := h25.2
            generalize F_DR_store x4 (p890.2.1 : Int32) (p890.2.2.1 : Int32) (p890.2.2.2.1 : Int32) (p890.2.2.2.2.1 : Int64) (p890.2.2.2.2.2.1 : Int32) (p890.2.2.2.2.2.2.1 : Int32) (p890.2.2.2.2.2.2.2.1 : Int32) (p890.2.2.2.2.2.2.2.2.1 : Int32) (p890.2.2.2.2.2.2.2.2.2.1 : Int32) (p890.2.2.2.2.2.2.2.2.2.2.1 : Int32) (p890.2.2.2.2.2.2.2.2.2.2.2.1 : Int32) t1_0 t2_0 t3_0 t4_0 (p890.2.2.2.2.2.2.2.2.2.2.2.2 : (Nat → Int32)) = p962 at *
            unfold Q_DR_store at h25
            unfold S_DR_divide_c405_18 F_DR_divide_c405_18
            refine ⟨trivial, ?_⟩
            (unfold Q_DR_divide; dsimp only; with_reducible assumption)
        ·
          rw [if_neg g22, if_neg g22]
          have g22i := q_neI g22
          have g22e : (p668.2.2.1 - 1 : Int32).toInt = p668.2.2.1.toInt - 1 := q_subI (y := 1) rfl (by decide) (by omega) (by omega)
          have h26 := T_DR_cut (x2 := ((p668.2.2.1 : Int32) - 1 : Int32)) (x3 := x6) (t0_0 := (p668.1 : Int32)) (t0_1 := (p668.2.1 : Int32)) (t0_2 := (p668.2.2.1 : Int32)) (t0_3 := ((x5.toInt64 : Int64) + 1 : Int64)) (t0_4 := ((F_DR_isLeft (p668.1 : Int32) (p668.2.1 : Int32) (p668.2.2.1 : Int32) (p668.2.2.2.1 : Int64) (p668.2.2.2.2.1 : Int32) (p668.2.2.2.2.2.1 : Int32) (p668.2.2.2.2.2.2.1 : Int32) (p668.2.2.2.2.2.2.2.1 : Int32) (p668.2.2.2.2.2.2.2.2.1 : Int32) (p668.2.2.2.2.2.2.2.2.2.1 : Int32) (p668.2.2.2.2.2.2.2.2.2.2.1 : Int32) (p613.2 : (Nat → Int32))) : Int32)) (t0_5 := (p668.2.2.2.2.2.1 : Int32)) (t0_6 := (p668.2.2.2.2.2.2.1 : Int32)) (t0_7 := (p668.2.2.2.2.2.2.2.1 : Int32)) (t0_8 := (p668.2.2.2.2.2.2.2.2.1 : Int32)) (t0_9 := (p668.2.2.2.2.2.2.2.2.2.1 : Int32)) (t0_10 := (p668.2.2.2.2.2.2.2.2.2.2.1 : Int32)) (t1_0 := (p668.2.2.2.2.2.2.2.2.2.2.2 : (Nat → Int32))) (by first | exact ⟨by omega, by omega⟩ | decide) (by first | omega | decide) (by first | exact ⟨by omega, by omega⟩ | decide) (by first | with_reducible assumption | exact g_one)
          with_reducible refine v_owe h26.1 ?_
          replace h26 := h26.2
          generalize F_DR_cut ((p668.2.2.1 : Int32) - 1 : Int32) x6 (p668.1 : Int32) (p668.2.1 : Int32) (p668.2.2.1 : Int32) ((x5.toInt64 : Int64) + 1 : Int64) ((F_DR_isLeft (p668.1 : Int32) (p668.2.1 : Int32) (p668.2.2.1 : Int32) (p668.2.2.2.1 : Int64) (p668.2.2.2.2.1 : Int32) (p668.2.2.2.2.2.1 : Int32) (p668.2.2.2.2.2.2.1 : Int32) (p668.2.2.2.2.2.2.2.1 : Int32) (p668.2.2.2.2.2.2.2.2.1 : Int32) (p668.2.2.2.2.2.2.2.2.2.1 : Int32) (p668.2.2.2.2.2.2.2.2.2.2.1 : Int32) (p613.2 : (Nat → Int32))) : Int32) (p668.2.2.2.2.2.1 : Int32) (p668.2.2.2.2.2.2.1 : Int32) (p668.2.2.2.2.2.2.2.1 : Int32) (p668.2.2.2.2.2.2.2.2.1 : Int32) (p668.2.2.2.2.2.2.2.2.2.1 : Int32) (p668.2.2.2.2.2.2.2.2.2.2.1 : Int32) (p668.2.2.2.2.2.2.2.2.2.2.2 : (Nat → Int32)) = p750 at *
          unfold Q_DR_cut at h26
          obtain ⟨h261, h26g, h266⟩ := h26
          unfold S_DR_divide_c397_15 F_DR_divide_c397_15
          by_cases g27 : (p750.1 : Int32) = (0 : Int32)
          ·
            rw [if_pos g27, if_pos g27]
            refine ⟨trivial, ?_⟩
            (unfold Q_DR_divide; dsimp only; with_reducible assumption)
          ·
            rw [if_neg g27, if_neg g27]
            have h28 := T_DR_store (x2 := x4) (t0_0 := (p750.2.1 : Int32)) (t0_1 := (p750.2.2.1 : Int32)) (t0_2 := (p750.2.2.2.1 : Int32)) (t0_3 := (p750.2.2.2.2.1 : Int64)) (t0_4 := (p750.2.2.2.2.2.1 : Int32)) (t0_5 := (p750.2.2.2.2.2.2.1 : Int32)) (t0_6 := (p750.2.2.2.2.2.2.2.1 : Int32)) (t0_7 := (p750.2.2.2.2.2.2.2.2.1 : Int32)) (t0_8 := (p750.2.2.2.2.2.2.2.2.2.1 : Int32)) (t0_9 := (p750.2.2.2.2.2.2.2.2.2.2.1 : Int32)) (t0_10 := (p750.2.2.2.2.2.2.2.2.2.2.2.1 : Int32)) (t1_0 := t1_0) (t2_0 := t2_0) (t3_0 := t3_0) (t4_0 := t4_0) (t5_0 := (p750.2.2.2.2.2.2.2.2.2.2.2.2 : (Nat → Int32))) (by with_reducible assumption) (by with_reducible assumption) ⟨by first | omega | decide, by first | omega | decide⟩ (by first | with_reducible assumption | exact g_cl (by with_reducible assumption) (by omega) (by omega) | omega | decide)
            with_reducible refine v_owe h28.1 ?_
            replace h28 := h28.2
            generalize F_DR_store x4 (p750.2.1 : Int32) (p750.2.2.1 : Int32) (p750.2.2.2.1 : Int32) (p750.2.2.2.2.1 : Int64) (p750.2.2.2.2.2.1 : Int32) (p750.2.2.2.2.2.2.1 : Int32) (p750.2.2.2.2.2.2.2.1 : Int32) (p750.2.2.2.2.2.2.2.2.1 : Int32) (p750.2.2.2.2.2.2.2.2.2.1 : Int32) (p750.2.2.2.2.2.2.2.2.2.2.1 : Int32) (p750.2.2.2.2.2.2.2.2.2.2.2.1 : Int32) t1_0 t2_0 t3_0 t4_0 (p750.2.2.2.2.2.2.2.2.2.2.2.2 : (Nat → Int32)) = p822 at *
            unfold Q_DR_store at h28
            unfold S_DR_divide_c405_16 F_DR_divide_c405_16
            refine ⟨trivial, ?_⟩
            (unfold Q_DR_divide; dsimp only; with_reducible assumption)
      ·
        rw [if_neg g18, if_neg g18]
        have g18l := g_lc6 g18
        by_cases g29 : (0 : Int32) ≤ (lg_cmp lx512 ((t2_0 x2.toNatClampNeg : Int32).toInt64 : Int64) : Int32)
        ·
          rw [if_pos g29, if_pos g29]
          have g29l := g_lc5 g29
          have h30 := R_next  (x2 := (0 : Int32)) (t0_0 := lx513) (t0_1 := lx514) (t0_2 := lx515) (t0_3 := lx516) (t0_4 := lx517) (t0_5 := lx518) (t0_6 := lx519) (t0_7 := lx520) (t0_8 := lx521) (t0_9 := lx522) (t0_10 := lx523) (un := f397) (l0 := lx525) (by with_reducible assumption) (by with_reducible assumption) (by first | decide | exact (u_k9 hR.1 hx2 (gR.at hR hx2).1.2 h0.1 (by with_reducible assumption)).1)
          with_reducible refine v_owe h30.1 ?_
          replace h30 := h30.2
          generalize F_DR_nextFigure (0 : Int32) lx513 lx514 lx515 lx516 lx517 lx518 lx519 lx520 lx521 lx522 lx523 f397 lx525 = p1004 at *
          obtain ⟨nxd, nxw, nxe⟩ := h30
          unfold S_DR_divide_c328 F_DR_divide_c328
          have h31 := T_DR_append (x2 := (p1004.1 : Int32)) (t0_0 := lx513) (t0_1 := lx514) (t0_2 := lx515) (t0_3 := lx516) (t0_4 := lx517) (t0_5 := lx518) (t0_6 := lx519) (t0_7 := lx520) (t0_8 := lx521) (t0_9 := lx522) (t0_10 := lx523) (t1_0 := lx524) ⟨by omega, by omega⟩ (by with_reducible assumption) (by with_reducible assumption) (by with_reducible assumption)
          with_reducible refine v_owe h31.1 ?_
          replace h31 := h31.2
          generalize F_DR_append (p1004.1 : Int32) lx513 lx514 lx515 lx516 lx517 lx518 lx519 lx520 lx521 lx522 lx523 lx524 = p1059 at *
          unfold Q_DR_append at h31
          obtain ⟨h312, h31g, h31z, h31a, h31b, h31d, h31e, h315, h317, h31k⟩ := h31
          have app7 := h317
          have app5 := congrArg Int32.toInt h315
          have app7i := congrArg Int32.toInt h317
          unfold S_DR_divide_c331 F_DR_divide_c331
          have e9 : (lx512 + 1 : Int64).toInt = lx512.toInt + 1 := q_addL (y := 1) rfl (by decide) (by omega) (by omega); exact ih _ _ _ _ _ _ _ _ _ _ _ _ _ _ ⟨by omega, by omega⟩ (by omega) ⟨by omega, by omega⟩ ⟨by omega, by omega⟩ (by rw [app7]; exact nxw) (by rw [app7]; exact hU) (by with_reducible assumption) (by with_reducible assumption)
        ·
          rw [if_neg g29, if_neg g29]
          have g29l := g_lc6 g29
          refine v_cons (by have := (u_k9 hR.1 hx2 (gR.at hR hx2).1.2 h0.1 (by with_reducible assumption) (K := t1_0)).2; omega) ?_
          refine v_cons (by have := (u_k9 hR.1 hx2 (gR.at hR hx2).1.2 h0.1 (by with_reducible assumption) (K := t1_0)).2; omega) ?_
          have h32 := R_next  (x2 := (t1_0 ((1000 * x2 : Int32) + (lx512.toInt32 : Int32) : Int32).toNatClampNeg : Int32)) (t0_0 := lx513) (t0_1 := lx514) (t0_2 := lx515) (t0_3 := lx516) (t0_4 := lx517) (t0_5 := lx518) (t0_6 := lx519) (t0_7 := lx520) (t0_8 := lx521) (t0_9 := lx522) (t0_10 := lx523) (un := f397) (l0 := lx525) (by with_reducible assumption) (by with_reducible assumption) (by first | decide | exact (u_k9 hR.1 hx2 (gR.at hR hx2).1.2 h0.1 (by with_reducible assumption)).1)
          with_reducible refine v_owe h32.1 ?_
          replace h32 := h32.2
          generalize F_DR_nextFigure (t1_0 ((1000 * x2 : Int32) + (lx512.toInt32 : Int32) : Int32).toNatClampNeg : Int32) lx513 lx514 lx515 lx516 lx517 lx518 lx519 lx520 lx521 lx522 lx523 f397 lx525 = p1102 at *
          obtain ⟨nxd, nxw, nxe⟩ := h32
          unfold S_DR_divide_c328_21 F_DR_divide_c328_21
          have h33 := T_DR_append (x2 := (p1102.1 : Int32)) (t0_0 := lx513) (t0_1 := lx514) (t0_2 := lx515) (t0_3 := lx516) (t0_4 := lx517) (t0_5 := lx518) (t0_6 := lx519) (t0_7 := lx520) (t0_8 := lx521) (t0_9 := lx522) (t0_10 := lx523) (t1_0 := lx524) ⟨by omega, by omega⟩ (by with_reducible assumption) (by with_reducible assumption) (by with_reducible assumption)
          with_reducible refine v_owe h33.1 ?_
          replace h33 := h33.2
          generalize F_DR_append (p1102.1 : Int32) lx513 lx514 lx515 lx516 lx517 lx518 lx519 lx520 lx521 lx522 lx523 lx524 = p1157 at *
          unfold Q_DR_append at h33
          obtain ⟨h332, h33g, h33z, h33a, h33b, h33d, h33e, h335, h337, h33k⟩ := h33
          have app7 := h337
          have app5 := congrArg Int32.toInt h335
          have app7i := congrArg Int32.toInt h337
          unfold S_DR_divide_c331_22 F_DR_divide_c331_22
          have e9 : (lx512 + 1 : Int64).toInt = lx512.toInt + 1 := q_addL (y := 1) rfl (by decide) (by omega) (by omega); exact ih _ _ _ _ _ _ _ _ _ _ _ _ _ _ ⟨by omega, by omega⟩ (by omega) ⟨by omega, by omega⟩ ⟨by omega, by omega⟩ (by rw [app7]; exact nxw) (by rw [app7]; exact hU) (by with_reducible assumption) (by with_reducible assumption)
theorem T_DR_divide {x2 : Int32} {x3 : Int32} {x4 : Int32} {x5 : Int32} {x6 : Int32} {t0_0 : Int32} {t0_1 : Int32} {t0_2 : Int32} {t0_3 : Int64} {t0_4 : Int32} {t0_5 : Int32} {t0_6 : Int32} {t0_7 : Int32} {t0_8 : Int32} {t0_9 : Int32} {t0_10 : Int32} {t1_0 : (Nat → Int32)} {t2_0 : (Nat → Int32)} {t3_0 : (Nat → Int32)} {t4_0 : (Nat → Int32)} {t5_0 : (Nat → Int32)} {t6_0 : (Nat → Int32)} {t7_0 : (Nat → Int32)} (hR : gR t1_0 t2_0 t3_0 t4_0) : (S_DR_divide x2 x3 x4 x5 x6 t0_0 t0_1 t0_2 t0_3 t0_4 t0_5 t0_6 t0_7 t0_8 t0_9 t0_10 t1_0 t2_0 t3_0 t4_0 t5_0 t6_0 t7_0) ∧ Q_DR_divide (F_DR_divide x2 x3 x4 x5 x6 t0_0 t0_1 t0_2 t0_3 t0_4 t0_5 t0_6 t0_7 t0_8 t0_9 t0_10 t1_0 t2_0 t3_0 t4_0 t5_0 t6_0 t7_0) := by
  have e0 : (0 : Int32).toInt = 0 := rfl
  have eL0 : (0 : Int64).toInt = 0 := rfl
  have eL1 : (10000 : Int64).toInt = 10000 := rfl
  have eL2 : (-10000 : Int64).toInt = -10000 := rfl
  have eL3 : (1000 : Int64).toInt = 1000 := rfl
  have eL4 : (-1 : Int64).toInt = -1 := rfl
  have eI3 : (1000 : Int32).toInt = 1000 := rfl
  have eOne : (1 : Int32).toInt = 1 := rfl
  have eM : (-10000 : Int32).toInt = -10000 := rfl
  have eP : (10000 : Int32).toInt = 10000 := rfl
  unfold S_DR_divide F_DR_divide
  by_cases g1 : ((F_DR_no x2) : Int32) = (0 : Int32)
  ·
    rw [if_pos g1, if_pos g1]
    have g1r := g_no g1
    by_cases g2 : ((F_DR_no x3) : Int32) = (0 : Int32)
    ·
      rw [if_pos g2, if_pos g2]
      have g2r := g_no g2
      by_cases g3 : ((F_DR_no x4) : Int32) = (0 : Int32)
      ·
        rw [if_pos g3, if_pos g3]
        have g3r := g_no g3
        by_cases g4 : ((F_DR_noMode x6) : Int32) = (0 : Int32)
        ·
          rw [if_pos g4, if_pos g4]
          by_cases g5 : x5 < (-10000 : Int32)
          ·
            rw [if_pos g5, if_pos g5]
            have g5i : x5.toInt < -10000 := q_ltI g5
            unfold S_DR_divide_J46 F_DR_divide_J46
            unfold S_DR_divide_J63 F_DR_divide_J63
            have g6 : ¬ ((1 : Int32) ≤ (0 : Int32)) := (by decide)
            rw [if_neg g6, if_neg g6]
            refine ⟨trivial, ?_⟩
            (unfold Q_DR_divide; dsimp only; with_reducible assumption)
          ·
            rw [if_neg g5, if_neg g5]
            have g5i : -10000 ≤ x5.toInt := q_nltI g5
            by_cases g7 : x5 ≤ (10000 : Int32)
            ·
              rw [if_pos g7, if_pos g7]
              have g7i : x5.toInt ≤ 10000 := q_leI g7
              have h8 := R_dz (x2 := x3) (t0_0 := t0_0) (t0_1 := t0_1) (t0_2 := t0_2) (t0_3 := t0_3) (t0_4 := t0_4) (t0_5 := t0_5) (t0_6 := t0_6) (t0_7 := t0_7) (t0_8 := t0_8) (t0_9 := t0_9) (t0_10 := t0_10) (t1_0 := t1_0) (by with_reducible assumption)
              have h8z := h8.2
              with_reducible refine v_owe h8.1 ?_
              by_cases g9 : ((F_DR_isZero x3 t0_0 t0_1 t0_2 t0_3 t0_4 t0_5 t0_6 t0_7 t0_8 t0_9 t0_10 t1_0) : Int32) = (0 : Int32)
              ·
                rw [if_pos g9, if_pos g9]
                have nz3 := u_if g9 (by with_reducible assumption)
                unfold S_DR_divide_J63 F_DR_divide_J63
                have g10 : ((0 : Int32) ≤ (0 : Int32)) := (by decide)
                rw [if_pos g10, if_pos g10]
                refine v_cons (by omega) ?_
                refine v_cons (by omega) ?_
                refine v_cons (by omega) ?_
                refine v_cons (by omega) ?_
                by_cases g11 : (t3_0 x2.toNatClampNeg : Int32) = (t3_0 x3.toNatClampNeg : Int32)
                ·
                  rw [if_pos g11, if_pos g11]
                  have m2 := gR.at hR (by with_reducible assumption : 0 ≤ x2.toInt ∧ x2.toInt ≤ 9)
                  have m3 := gR.at hR (by with_reducible assumption : 0 ≤ x3.toInt ∧ x3.toInt ≤ 9)
                  obtain ⟨j100, e12⟩ := q_nm (((((t2_0 x2.toNatClampNeg : Int32) - (t2_0 x3.toNatClampNeg : Int32) : Int32).toInt64 : Int64) + (((x5.toInt64 : Int64) + ((t4_0 x3.toNatClampNeg : Int32).toInt64 : Int64) : Int64) - ((t4_0 x2.toNatClampNeg : Int32).toInt64 : Int64) : Int64) : Int64) : Int64)
                  rw [e12]
                  have j100i : j100.toInt = (t2_0 x2.toNatClampNeg).toInt - (t2_0 x3.toNatClampNeg).toInt + (x5.toInt + (t4_0 x3.toNatClampNeg).toInt - (t4_0 x2.toNatClampNeg).toInt) := by rw [← e12]; have z1 := u_z1 (c := 0) m3.2.2 m2.2.2 (x := x5) ⟨by omega, by omega⟩; have z2 := u_z2 m2.1 m3.1 (j := (x5.toInt64 + (t4_0 x3.toNatClampNeg).toInt64 - (t4_0 x2.toNatClampNeg).toInt64 : Int64)) ⟨by omega, by omega⟩; omega
                  obtain ⟨j88, e13⟩ := q_nm ((((x5.toInt64 : Int64) + ((t4_0 x3.toNatClampNeg : Int32).toInt64 : Int64) : Int64) - ((t4_0 x2.toNatClampNeg : Int32).toInt64 : Int64) : Int64) : Int64)
                  rw [e13]
                  have j88i : j88.toInt = x5.toInt + (t4_0 x3.toNatClampNeg).toInt - (t4_0 x2.toNatClampNeg).toInt := by rw [← e13]; exact u_z1 (c := 0) m3.2.2 m2.2.2 ⟨by omega, by omega⟩
                  unfold S_DR_divide_J140 F_DR_divide_J140
                  have h14 := R_dz (x2 := x2) (t0_0 := (0 : Int32)) (t0_1 := t0_1) (t0_2 := (0 : Int32)) (t0_3 := (x5.toInt64 : Int64)) (t0_4 := (0 : Int32)) (t0_5 := (0 : Int32)) (t0_6 := t0_6) (t0_7 := t0_7) (t0_8 := t0_8) (t0_9 := t0_9) (t0_10 := (2 : Int32)) (t1_0 := t1_0) (by with_reducible assumption)
                  have h14z := h14.2
                  with_reducible refine v_owe h14.1 ?_
                  by_cases g15 : ((F_DR_isZero x2 (0 : Int32) t0_1 (0 : Int32) (x5.toInt64 : Int64) (0 : Int32) (0 : Int32) t0_6 t0_7 t0_8 t0_9 (2 : Int32) t1_0) : Int32) = (0 : Int32)
                  ·
                    rw [if_pos g15, if_pos g15]
                    by_cases g16 : (lg_cmp j100 1000 : Int32) ≤ (0 : Int32)
                    ·
                      rw [if_pos g16, if_pos g16]
                      have g16l := g_lc3 g16
                      unfold S_DR_divide_J183 F_DR_divide_J183
                      with_reducible refine v_owe h14.1 ?_
                      rw [if_pos g15, if_pos g15]
                      by_cases g17 : (0 : Int32) ≤ (lg_cmp j100 (-1) : Int32)
                      ·
                        rw [if_pos g17, if_pos g17]
                        have g17l := g_lc5 g17
                        by_cases g18 : (0 : Int32) ≤ (lg_cmp j88 0 : Int32)
                        ·
                          rw [if_pos g18, if_pos g18]
                          have g18l := g_lc5 g18
                          unfold S_DR_divide_J258 F_DR_divide_J258
                          have h19 := T_DR_loadUnder (x2 := x3) (x3 := (0 : Int32)) (t0_0 := (0 : Int32)) (t0_1 := t0_1) (t0_2 := (0 : Int32)) (t0_3 := (x5.toInt64 : Int64)) (t0_4 := (0 : Int32)) (t0_5 := (0 : Int32)) (t0_6 := t0_6) (t0_7 := t0_7) (t0_8 := t0_8) (t0_9 := t0_9) (t0_10 := (2 : Int32)) (t1_0 := t1_0) (t2_0 := t2_0) (t3_0 := t6_0) hR.1 (gR.at hR (by with_reducible assumption)).1 (by with_reducible assumption) ⟨by omega, by omega⟩
                          with_reducible refine v_owe h19.1 ?_
                          replace h19 := h19.2
                          generalize F_DR_loadUnder x3 (0 : Int32) (0 : Int32) t0_1 (0 : Int32) (x5.toInt64 : Int64) (0 : Int32) (0 : Int32) t0_6 t0_7 t0_8 t0_9 (2 : Int32) t1_0 t2_0 t6_0 = p431 at *
                          unfold Q_DR_loadUnder at h19
                          obtain ⟨h197, h19g, h19z, h19a, h19b, h19c, h19d, h19e, h19f, h19k⟩ := h19
                          have unz := h19z
                          have unf := congrArg Int32.toInt h19f
                          have unp := u_p1 h19g (by have e9 := q_clI (i := p431.2.2.2.2.2.2.2.1) rfl (by omega); omega) (by rw [unz]; exact nz3)
                          unfold S_DR_divide_c258 F_DR_divide_c258
                          have h20 := T_DR_beginQuotient (t0_0 := (p431.1 : Int32)) (t0_1 := (p431.2.1 : Int32)) (t0_2 := (p431.2.2.1 : Int32)) (t0_3 := (p431.2.2.2.1 : Int64)) (t0_4 := (p431.2.2.2.2.1 : Int32)) (t0_5 := (p431.2.2.2.2.2.1 : Int32)) (t0_6 := (p431.2.2.2.2.2.2.1 : Int32)) (t0_7 := (p431.2.2.2.2.2.2.2.1 : Int32)) (t0_8 := (p431.2.2.2.2.2.2.2.2.1 : Int32)) (t0_9 := (p431.2.2.2.2.2.2.2.2.2.1 : Int32)) (t0_10 := (p431.2.2.2.2.2.2.2.2.2.2.1 : Int32)) (t1_0 := t7_0) ⟨by omega, by omega⟩
                          with_reducible refine v_owe h20.1 ?_
                          replace h20 := h20.2
                          generalize F_DR_beginQuotient (p431.1 : Int32) (p431.2.1 : Int32) (p431.2.2.1 : Int32) (p431.2.2.2.1 : Int64) (p431.2.2.2.2.1 : Int32) (p431.2.2.2.2.2.1 : Int32) (p431.2.2.2.2.2.2.1 : Int32) (p431.2.2.2.2.2.2.2.1 : Int32) (p431.2.2.2.2.2.2.2.2.1 : Int32) (p431.2.2.2.2.2.2.2.2.2.1 : Int32) (p431.2.2.2.2.2.2.2.2.2.2.1 : Int32) t7_0 = p492 at *
                          unfold Q_DR_beginQuotient at h20
                          obtain ⟨h20o, h20a, h20b, h202, h20d, h20e, h205, h207, h20k⟩ := h20
                          have beg0 := h20o
                          have beg2 := congrArg Int32.toInt h202
                          have beg5 := congrArg Int32.toInt h205
                          have beg7 := congrArg Int32.toInt h207
                          have beq7 := h207
                          have beq2 := h202
                          unfold S_DR_divide_c262 F_DR_divide_c262
                          exact v_dvd hR (by with_reducible assumption) (by with_reducible assumption) ⟨by omega, by omega⟩ _ _ _ _ _ _ _ _ _ _ _ _ _ _ _ (by decide) (by decide) ⟨by omega, by omega⟩ ⟨by omega, by omega⟩ (by rw [beq7]; exact u_w0 ⟨by omega, by omega⟩ (by with_reducible assumption) unp beg0) (by rw [beq7]; exact unp) (u_gz beq2) (Or.inl (by omega))
                        ·
                          rw [if_neg g18, if_neg g18]
                          have g18l := g_lc6 g18
                          obtain ⟨lx367, e21⟩ := q_nm (((-j88 : Int64).toInt32 : Int32) : Int32)
                          rw [e21]
                          have l367 : lx367.toInt = -j88.toInt := by rw [← e21]; exact u_ng ⟨by omega, by omega⟩
                          unfold S_DR_divide_J258 F_DR_divide_J258
                          have h22 := T_DR_loadUnder (x2 := x3) (x3 := lx367) (t0_0 := (0 : Int32)) (t0_1 := t0_1) (t0_2 := (0 : Int32)) (t0_3 := (x5.toInt64 : Int64)) (t0_4 := (0 : Int32)) (t0_5 := (0 : Int32)) (t0_6 := t0_6) (t0_7 := t0_7) (t0_8 := t0_8) (t0_9 := t0_9) (t0_10 := (2 : Int32)) (t1_0 := t1_0) (t2_0 := t2_0) (t3_0 := t6_0) hR.1 (gR.at hR (by with_reducible assumption)).1 (by with_reducible assumption) ⟨by omega, by omega⟩
                          with_reducible refine v_owe h22.1 ?_
                          replace h22 := h22.2
                          generalize F_DR_loadUnder x3 lx367 (0 : Int32) t0_1 (0 : Int32) (x5.toInt64 : Int64) (0 : Int32) (0 : Int32) t0_6 t0_7 t0_8 t0_9 (2 : Int32) t1_0 t2_0 t6_0 = p431 at *
                          unfold Q_DR_loadUnder at h22
                          obtain ⟨h227, h22g, h22z, h22a, h22b, h22c, h22d, h22e, h22f, h22k⟩ := h22
                          have unz := h22z
                          have unf := congrArg Int32.toInt h22f
                          have unp := u_p1 h22g (by have e9 := q_clI (i := p431.2.2.2.2.2.2.2.1) rfl (by omega); omega) (by rw [unz]; exact nz3)
                          unfold S_DR_divide_c258 F_DR_divide_c258
                          have h23 := T_DR_beginQuotient (t0_0 := (p431.1 : Int32)) (t0_1 := (p431.2.1 : Int32)) (t0_2 := (p431.2.2.1 : Int32)) (t0_3 := (p431.2.2.2.1 : Int64)) (t0_4 := (p431.2.2.2.2.1 : Int32)) (t0_5 := (p431.2.2.2.2.2.1 : Int32)) (t0_6 := (p431.2.2.2.2.2.2.1 : Int32)) (t0_7 := (p431.2.2.2.2.2.2.2.1 : Int32)) (t0_8 := (p431.2.2.2.2.2.2.2.2.1 : Int32)) (t0_9 := (p431.2.2.2.2.2.2.2.2.2.1 : Int32)) (t0_10 := (p431.2.2.2.2.2.2.2.2.2.2.1 : Int32)) (t1_0 := t7_0) ⟨by omega, by omega⟩
                          with_reducible refine v_owe h23.1 ?_
                          replace h23 := h23.2
                          generalize F_DR_beginQuotient (p431.1 : Int32) (p431.2.1 : Int32) (p431.2.2.1 : Int32) (p431.2.2.2.1 : Int64) (p431.2.2.2.2.1 : Int32) (p431.2.2.2.2.2.1 : Int32) (p431.2.2.2.2.2.2.1 : Int32) (p431.2.2.2.2.2.2.2.1 : Int32) (p431.2.2.2.2.2.2.2.2.1 : Int32) (p431.2.2.2.2.2.2.2.2.2.1 : Int32) (p431.2.2.2.2.2.2.2.2.2.2.1 : Int32) t7_0 = p492 at *
                          unfold Q_DR_beginQuotient at h23
                          obtain ⟨h23o, h23a, h23b, h232, h23d, h23e, h235, h237, h23k⟩ := h23
                          have beg0 := h23o
                          have beg2 := congrArg Int32.toInt h232
                          have beg5 := congrArg Int32.toInt h235
                          have beg7 := congrArg Int32.toInt h237
                          have beq7 := h237
                          have beq2 := h232
                          unfold S_DR_divide_c262 F_DR_divide_c262
                          exact v_dvd hR (by with_reducible assumption) (by with_reducible assumption) ⟨by omega, by omega⟩ _ _ _ _ _ _ _ _ _ _ _ _ _ _ _ (by decide) (by decide) ⟨by omega, by omega⟩ ⟨by omega, by omega⟩ (by rw [beq7]; exact u_w0 ⟨by omega, by omega⟩ (by with_reducible assumption) unp beg0) (by rw [beq7]; exact unp) (u_gz beq2) (Or.inl (by omega))
                      ·
                        rw [if_neg g17, if_neg g17]
                        have g17l := g_lc6 g17
                        unfold S_DR_divide_J200 F_DR_divide_J200
                        with_reducible refine v_owe h14.1 ?_
                        rw [if_pos g15, if_pos g15]
                        unfold S_DR_divide_J214 F_DR_divide_J214
                        have h24 := T_DR_cut (x2 := (0 : Int32)) (x3 := x6) (t0_0 := (0 : Int32)) (t0_1 := t0_1) (t0_2 := (1 : Int32)) (t0_3 := ((x5.toInt64 : Int64) + 1 : Int64)) (t0_4 := (1 : Int32)) (t0_5 := (0 : Int32)) (t0_6 := t0_6) (t0_7 := t0_7) (t0_8 := t0_8) (t0_9 := t0_9) (t0_10 := (2 : Int32)) (t1_0 := (upd t5_0 (0 : Int32).toNatClampNeg 0 : (Nat → Int32))) (by first | exact ⟨by omega, by omega⟩ | decide) (by first | omega | decide) (by first | exact ⟨by omega, by omega⟩ | decide) (by first | with_reducible assumption | exact g_one)
                        with_reducible refine v_owe h24.1 ?_
                        replace h24 := h24.2
                        generalize F_DR_cut (0 : Int32) x6 (0 : Int32) t0_1 (1 : Int32) ((x5.toInt64 : Int64) + 1 : Int64) (1 : Int32) (0 : Int32) t0_6 t0_7 t0_8 t0_9 (2 : Int32) (upd t5_0 (0 : Int32).toNatClampNeg 0 : (Nat → Int32)) = p258 at *
                        unfold Q_DR_cut at h24
                        obtain ⟨h241, h24g, h246⟩ := h24
                        unfold S_DR_divide_c397 F_DR_divide_c397
                        by_cases g25 : (p258.1 : Int32) = (0 : Int32)
                        ·
                          rw [if_pos g25, if_pos g25]
                          refine ⟨trivial, ?_⟩
                          (unfold Q_DR_divide; dsimp only; with_reducible assumption)
                        ·
                          rw [if_neg g25, if_neg g25]
                          have h26 := T_DR_store (x2 := x4) (t0_0 := (p258.2.1 : Int32)) (t0_1 := (p258.2.2.1 : Int32)) (t0_2 := (p258.2.2.2.1 : Int32)) (t0_3 := (p258.2.2.2.2.1 : Int64)) (t0_4 := (p258.2.2.2.2.2.1 : Int32)) (t0_5 := (p258.2.2.2.2.2.2.1 : Int32)) (t0_6 := (p258.2.2.2.2.2.2.2.1 : Int32)) (t0_7 := (p258.2.2.2.2.2.2.2.2.1 : Int32)) (t0_8 := (p258.2.2.2.2.2.2.2.2.2.1 : Int32)) (t0_9 := (p258.2.2.2.2.2.2.2.2.2.2.1 : Int32)) (t0_10 := (p258.2.2.2.2.2.2.2.2.2.2.2.1 : Int32)) (t1_0 := t1_0) (t2_0 := t2_0) (t3_0 := t3_0) (t4_0 := t4_0) (t5_0 := (p258.2.2.2.2.2.2.2.2.2.2.2.2 : (Nat → Int32))) (by with_reducible assumption) (by with_reducible assumption) ⟨by first | omega | decide, by first | omega | decide⟩ (by first | with_reducible assumption | exact g_cl (by with_reducible assumption) (by omega) (by omega) | omega | decide)
                          with_reducible refine v_owe h26.1 ?_
                          replace h26 := h26.2
                          generalize F_DR_store x4 (p258.2.1 : Int32) (p258.2.2.1 : Int32) (p258.2.2.2.1 : Int32) (p258.2.2.2.2.1 : Int64) (p258.2.2.2.2.2.1 : Int32) (p258.2.2.2.2.2.2.1 : Int32) (p258.2.2.2.2.2.2.2.1 : Int32) (p258.2.2.2.2.2.2.2.2.1 : Int32) (p258.2.2.2.2.2.2.2.2.2.1 : Int32) (p258.2.2.2.2.2.2.2.2.2.2.1 : Int32) (p258.2.2.2.2.2.2.2.2.2.2.2.1 : Int32) t1_0 t2_0 t3_0 t4_0 (p258.2.2.2.2.2.2.2.2.2.2.2.2 : (Nat → Int32)) = p330 at *
                          unfold Q_DR_store at h26
                          unfold S_DR_divide_c405 F_DR_divide_c405
                          refine ⟨trivial, ?_⟩
                          (unfold Q_DR_divide; dsimp only; with_reducible assumption)
                    ·
                      rw [if_neg g16, if_neg g16]
                      have g16l := g_lc4 g16
                      refine ⟨trivial, ?_⟩
                      (unfold Q_DR_divide; dsimp only; with_reducible assumption)
                  ·
                    rw [if_neg g15, if_neg g15]
                    unfold S_DR_divide_J183 F_DR_divide_J183
                    with_reducible refine v_owe h14.1 ?_
                    rw [if_neg g15, if_neg g15]
                    unfold S_DR_divide_J200 F_DR_divide_J200
                    with_reducible refine v_owe h14.1 ?_
                    rw [if_neg g15, if_neg g15]
                    unfold S_DR_divide_J214 F_DR_divide_J214
                    have h27 := T_DR_cut (x2 := (0 : Int32)) (x3 := x6) (t0_0 := (0 : Int32)) (t0_1 := t0_1) (t0_2 := (1 : Int32)) (t0_3 := ((x5.toInt64 : Int64) + 1 : Int64)) (t0_4 := (0 : Int32)) (t0_5 := (0 : Int32)) (t0_6 := t0_6) (t0_7 := t0_7) (t0_8 := t0_8) (t0_9 := t0_9) (t0_10 := (2 : Int32)) (t1_0 := (upd t5_0 (0 : Int32).toNatClampNeg 0 : (Nat → Int32))) (by first | exact ⟨by omega, by omega⟩ | decide) (by first | omega | decide) (by first | exact ⟨by omega, by omega⟩ | decide) (by first | with_reducible assumption | exact g_one)
                    with_reducible refine v_owe h27.1 ?_
                    replace h27 := h27.2
                    generalize F_DR_cut (0 : Int32) x6 (0 : Int32) t0_1 (1 : Int32) ((x5.toInt64 : Int64) + 1 : Int64) (0 : Int32) (0 : Int32) t0_6 t0_7 t0_8 t0_9 (2 : Int32) (upd t5_0 (0 : Int32).toNatClampNeg 0 : (Nat → Int32)) = p258 at *
                    unfold Q_DR_cut at h27
                    obtain ⟨h271, h27g, h276⟩ := h27
                    unfold S_DR_divide_c397 F_DR_divide_c397
                    by_cases g28 : (p258.1 : Int32) = (0 : Int32)
                    ·
                      rw [if_pos g28, if_pos g28]
                      refine ⟨trivial, ?_⟩
                      (unfold Q_DR_divide; dsimp only; with_reducible assumption)
                    ·
                      rw [if_neg g28, if_neg g28]
                      have h29 := T_DR_store (x2 := x4) (t0_0 := (p258.2.1 : Int32)) (t0_1 := (p258.2.2.1 : Int32)) (t0_2 := (p258.2.2.2.1 : Int32)) (t0_3 := (p258.2.2.2.2.1 : Int64)) (t0_4 := (p258.2.2.2.2.2.1 : Int32)) (t0_5 := (p258.2.2.2.2.2.2.1 : Int32)) (t0_6 := (p258.2.2.2.2.2.2.2.1 : Int32)) (t0_7 := (p258.2.2.2.2.2.2.2.2.1 : Int32)) (t0_8 := (p258.2.2.2.2.2.2.2.2.2.1 : Int32)) (t0_9 := (p258.2.2.2.2.2.2.2.2.2.2.1 : Int32)) (t0_10 := (p258.2.2.2.2.2.2.2.2.2.2.2.1 : Int32)) (t1_0 := t1_0) (t2_0 := t2_0) (t3_0 := t3_0) (t4_0 := t4_0) (t5_0 := (p258.2.2.2.2.2.2.2.2.2.2.2.2 : (Nat → Int32))) (by with_reducible assumption) (by with_reducible assumption) ⟨by first | omega | decide, by first | omega | decide⟩ (by first | with_reducible assumption | exact g_cl (by with_reducible assumption) (by omega) (by omega) | omega | decide)
                      with_reducible refine v_owe h29.1 ?_
                      replace h29 := h29.2
                      generalize F_DR_store x4 (p258.2.1 : Int32) (p258.2.2.1 : Int32) (p258.2.2.2.1 : Int32) (p258.2.2.2.2.1 : Int64) (p258.2.2.2.2.2.1 : Int32) (p258.2.2.2.2.2.2.1 : Int32) (p258.2.2.2.2.2.2.2.1 : Int32) (p258.2.2.2.2.2.2.2.2.1 : Int32) (p258.2.2.2.2.2.2.2.2.2.1 : Int32) (p258.2.2.2.2.2.2.2.2.2.2.1 : Int32) (p258.2.2.2.2.2.2.2.2.2.2.2.1 : Int32) t1_0 t2_0 t3_0 t4_0 (p258.2.2.2.2.2.2.2.2.2.2.2.2 : (Nat → Int32)) = p330 at *
                      unfold Q_DR_store at h29
                      unfold S_DR_divide_c405 F_DR_divide_c405
                      refine ⟨trivial, ?_⟩
                      (unfold Q_DR_divide; dsimp only; with_reducible assumption)
                ·
                  rw [if_neg g11, if_neg g11]
                  have m2 := gR.at hR (by with_reducible assumption : 0 ≤ x2.toInt ∧ x2.toInt ≤ 9)
                  have m3 := gR.at hR (by with_reducible assumption : 0 ≤ x3.toInt ∧ x3.toInt ≤ 9)
                  obtain ⟨j100, e30⟩ := q_nm (((((t2_0 x2.toNatClampNeg : Int32) - (t2_0 x3.toNatClampNeg : Int32) : Int32).toInt64 : Int64) + (((x5.toInt64 : Int64) + ((t4_0 x3.toNatClampNeg : Int32).toInt64 : Int64) : Int64) - ((t4_0 x2.toNatClampNeg : Int32).toInt64 : Int64) : Int64) : Int64) : Int64)
                  rw [e30]
                  have j100i : j100.toInt = (t2_0 x2.toNatClampNeg).toInt - (t2_0 x3.toNatClampNeg).toInt + (x5.toInt + (t4_0 x3.toNatClampNeg).toInt - (t4_0 x2.toNatClampNeg).toInt) := by rw [← e30]; have z1 := u_z1 (c := 0) m3.2.2 m2.2.2 (x := x5) ⟨by omega, by omega⟩; have z2 := u_z2 m2.1 m3.1 (j := (x5.toInt64 + (t4_0 x3.toNatClampNeg).toInt64 - (t4_0 x2.toNatClampNeg).toInt64 : Int64)) ⟨by omega, by omega⟩; omega
                  obtain ⟨j88, e31⟩ := q_nm ((((x5.toInt64 : Int64) + ((t4_0 x3.toNatClampNeg : Int32).toInt64 : Int64) : Int64) - ((t4_0 x2.toNatClampNeg : Int32).toInt64 : Int64) : Int64) : Int64)
                  rw [e31]
                  have j88i : j88.toInt = x5.toInt + (t4_0 x3.toNatClampNeg).toInt - (t4_0 x2.toNatClampNeg).toInt := by rw [← e31]; exact u_z1 (c := 0) m3.2.2 m2.2.2 ⟨by omega, by omega⟩
                  unfold S_DR_divide_J140 F_DR_divide_J140
                  have h32 := R_dz (x2 := x2) (t0_0 := (0 : Int32)) (t0_1 := t0_1) (t0_2 := (0 : Int32)) (t0_3 := (x5.toInt64 : Int64)) (t0_4 := (0 : Int32)) (t0_5 := (1 : Int32)) (t0_6 := t0_6) (t0_7 := t0_7) (t0_8 := t0_8) (t0_9 := t0_9) (t0_10 := (2 : Int32)) (t1_0 := t1_0) (by with_reducible assumption)
                  have h32z := h32.2
                  with_reducible refine v_owe h32.1 ?_
                  by_cases g33 : ((F_DR_isZero x2 (0 : Int32) t0_1 (0 : Int32) (x5.toInt64 : Int64) (0 : Int32) (1 : Int32) t0_6 t0_7 t0_8 t0_9 (2 : Int32) t1_0) : Int32) = (0 : Int32)
                  ·
                    rw [if_pos g33, if_pos g33]
                    by_cases g34 : (lg_cmp j100 1000 : Int32) ≤ (0 : Int32)
                    ·
                      rw [if_pos g34, if_pos g34]
                      have g34l := g_lc3 g34
                      unfold S_DR_divide_J183 F_DR_divide_J183
                      with_reducible refine v_owe h32.1 ?_
                      rw [if_pos g33, if_pos g33]
                      by_cases g35 : (0 : Int32) ≤ (lg_cmp j100 (-1) : Int32)
                      ·
                        rw [if_pos g35, if_pos g35]
                        have g35l := g_lc5 g35
                        by_cases g36 : (0 : Int32) ≤ (lg_cmp j88 0 : Int32)
                        ·
                          rw [if_pos g36, if_pos g36]
                          have g36l := g_lc5 g36
                          unfold S_DR_divide_J258 F_DR_divide_J258
                          have h37 := T_DR_loadUnder (x2 := x3) (x3 := (0 : Int32)) (t0_0 := (0 : Int32)) (t0_1 := t0_1) (t0_2 := (0 : Int32)) (t0_3 := (x5.toInt64 : Int64)) (t0_4 := (0 : Int32)) (t0_5 := (1 : Int32)) (t0_6 := t0_6) (t0_7 := t0_7) (t0_8 := t0_8) (t0_9 := t0_9) (t0_10 := (2 : Int32)) (t1_0 := t1_0) (t2_0 := t2_0) (t3_0 := t6_0) hR.1 (gR.at hR (by with_reducible assumption)).1 (by with_reducible assumption) ⟨by omega, by omega⟩
                          with_reducible refine v_owe h37.1 ?_
                          replace h37 := h37.2
                          generalize F_DR_loadUnder x3 (0 : Int32) (0 : Int32) t0_1 (0 : Int32) (x5.toInt64 : Int64) (0 : Int32) (1 : Int32) t0_6 t0_7 t0_8 t0_9 (2 : Int32) t1_0 t2_0 t6_0 = p431 at *
                          unfold Q_DR_loadUnder at h37
                          obtain ⟨h377, h37g, h37z, h37a, h37b, h37c, h37d, h37e, h37f, h37k⟩ := h37
                          have unz := h37z
                          have unf := congrArg Int32.toInt h37f
                          have unp := u_p1 h37g (by have e9 := q_clI (i := p431.2.2.2.2.2.2.2.1) rfl (by omega); omega) (by rw [unz]; exact nz3)
                          unfold S_DR_divide_c258 F_DR_divide_c258
                          have h38 := T_DR_beginQuotient (t0_0 := (p431.1 : Int32)) (t0_1 := (p431.2.1 : Int32)) (t0_2 := (p431.2.2.1 : Int32)) (t0_3 := (p431.2.2.2.1 : Int64)) (t0_4 := (p431.2.2.2.2.1 : Int32)) (t0_5 := (p431.2.2.2.2.2.1 : Int32)) (t0_6 := (p431.2.2.2.2.2.2.1 : Int32)) (t0_7 := (p431.2.2.2.2.2.2.2.1 : Int32)) (t0_8 := (p431.2.2.2.2.2.2.2.2.1 : Int32)) (t0_9 := (p431.2.2.2.2.2.2.2.2.2.1 : Int32)) (t0_10 := (p431.2.2.2.2.2.2.2.2.2.2.1 : Int32)) (t1_0 := t7_0) ⟨by omega, by omega⟩
                          with_reducible refine v_owe h38.1 ?_
                          replace h38 := h38.2
                          generalize F_DR_beginQuotient (p431.1 : Int32) (p431.2.1 : Int32) (p431.2.2.1 : Int32) (p431.2.2.2.1 : Int64) (p431.2.2.2.2.1 : Int32) (p431.2.2.2.2.2.1 : Int32) (p431.2.2.2.2.2.2.1 : Int32) (p431.2.2.2.2.2.2.2.1 : Int32) (p431.2.2.2.2.2.2.2.2.1 : Int32) (p431.2.2.2.2.2.2.2.2.2.1 : Int32) (p431.2.2.2.2.2.2.2.2.2.2.1 : Int32) t7_0 = p492 at *
                          unfold Q_DR_beginQuotient at h38
                          obtain ⟨h38o, h38a, h38b, h382, h38d, h38e, h385, h387, h38k⟩ := h38
                          have beg0 := h38o
                          have beg2 := congrArg Int32.toInt h382
                          have beg5 := congrArg Int32.toInt h385
                          have beg7 := congrArg Int32.toInt h387
                          have beq7 := h387
                          have beq2 := h382
                          unfold S_DR_divide_c262 F_DR_divide_c262
                          exact v_dvd hR (by with_reducible assumption) (by with_reducible assumption) ⟨by omega, by omega⟩ _ _ _ _ _ _ _ _ _ _ _ _ _ _ _ (by decide) (by decide) ⟨by omega, by omega⟩ ⟨by omega, by omega⟩ (by rw [beq7]; exact u_w0 ⟨by omega, by omega⟩ (by with_reducible assumption) unp beg0) (by rw [beq7]; exact unp) (u_gz beq2) (Or.inl (by omega))
                        ·
                          rw [if_neg g36, if_neg g36]
                          have g36l := g_lc6 g36
                          obtain ⟨lx367, e39⟩ := q_nm (((-j88 : Int64).toInt32 : Int32) : Int32)
                          rw [e39]
                          have l367 : lx367.toInt = -j88.toInt := by rw [← e39]; exact u_ng ⟨by omega, by omega⟩
                          unfold S_DR_divide_J258 F_DR_divide_J258
                          have h40 := T_DR_loadUnder (x2 := x3) (x3 := lx367) (t0_0 := (0 : Int32)) (t0_1 := t0_1) (t0_2 := (0 : Int32)) (t0_3 := (x5.toInt64 : Int64)) (t0_4 := (0 : Int32)) (t0_5 := (1 : Int32)) (t0_6 := t0_6) (t0_7 := t0_7) (t0_8 := t0_8) (t0_9 := t0_9) (t0_10 := (2 : Int32)) (t1_0 := t1_0) (t2_0 := t2_0) (t3_0 := t6_0) hR.1 (gR.at hR (by with_reducible assumption)).1 (by with_reducible assumption) ⟨by omega, by omega⟩
                          with_reducible refine v_owe h40.1 ?_
                          replace h40 := h40.2
                          generalize F_DR_loadUnder x3 lx367 (0 : Int32) t0_1 (0 : Int32) (x5.toInt64 : Int64) (0 : Int32) (1 : Int32) t0_6 t0_7 t0_8 t0_9 (2 : Int32) t1_0 t2_0 t6_0 = p431 at *
                          unfold Q_DR_loadUnder at h40
                          obtain ⟨h407, h40g, h40z, h40a, h40b, h40c, h40d, h40e, h40f, h40k⟩ := h40
                          have unz := h40z
                          have unf := congrArg Int32.toInt h40f
                          have unp := u_p1 h40g (by have e9 := q_clI (i := p431.2.2.2.2.2.2.2.1) rfl (by omega); omega) (by rw [unz]; exact nz3)
                          unfold S_DR_divide_c258 F_DR_divide_c258
                          have h41 := T_DR_beginQuotient (t0_0 := (p431.1 : Int32)) (t0_1 := (p431.2.1 : Int32)) (t0_2 := (p431.2.2.1 : Int32)) (t0_3 := (p431.2.2.2.1 : Int64)) (t0_4 := (p431.2.2.2.2.1 : Int32)) (t0_5 := (p431.2.2.2.2.2.1 : Int32)) (t0_6 := (p431.2.2.2.2.2.2.1 : Int32)) (t0_7 := (p431.2.2.2.2.2.2.2.1 : Int32)) (t0_8 := (p431.2.2.2.2.2.2.2.2.1 : Int32)) (t0_9 := (p431.2.2.2.2.2.2.2.2.2.1 : Int32)) (t0_10 := (p431.2.2.2.2.2.2.2.2.2.2.1 : Int32)) (t1_0 := t7_0) ⟨by omega, by omega⟩
                          with_reducible refine v_owe h41.1 ?_
                          replace h41 := h41.2
                          generalize F_DR_beginQuotient (p431.1 : Int32) (p431.2.1 : Int32) (p431.2.2.1 : Int32) (p431.2.2.2.1 : Int64) (p431.2.2.2.2.1 : Int32) (p431.2.2.2.2.2.1 : Int32) (p431.2.2.2.2.2.2.1 : Int32) (p431.2.2.2.2.2.2.2.1 : Int32) (p431.2.2.2.2.2.2.2.2.1 : Int32) (p431.2.2.2.2.2.2.2.2.2.1 : Int32) (p431.2.2.2.2.2.2.2.2.2.2.1 : Int32) t7_0 = p492 at *
                          unfold Q_DR_beginQuotient at h41
                          obtain ⟨h41o, h41a, h41b, h412, h41d, h41e, h415, h417, h41k⟩ := h41
                          have beg0 := h41o
                          have beg2 := congrArg Int32.toInt h412
                          have beg5 := congrArg Int32.toInt h415
                          have beg7 := congrArg Int32.toInt h417
                          have beq7 := h417
                          have beq2 := h412
                          unfold S_DR_divide_c262 F_DR_divide_c262
                          exact v_dvd hR (by with_reducible assumption) (by with_reducible assumption) ⟨by omega, by omega⟩ _ _ _ _ _ _ _ _ _ _ _ _ _ _ _ (by decide) (by decide) ⟨by omega, by omega⟩ ⟨by omega, by omega⟩ (by rw [beq7]; exact u_w0 ⟨by omega, by omega⟩ (by with_reducible assumption) unp beg0) (by rw [beq7]; exact unp) (u_gz beq2) (Or.inl (by omega))
                      ·
                        rw [if_neg g35, if_neg g35]
                        have g35l := g_lc6 g35
                        unfold S_DR_divide_J200 F_DR_divide_J200
                        with_reducible refine v_owe h32.1 ?_
                        rw [if_pos g33, if_pos g33]
                        unfold S_DR_divide_J214 F_DR_divide_J214
                        have h42 := T_DR_cut (x2 := (0 : Int32)) (x3 := x6) (t0_0 := (0 : Int32)) (t0_1 := t0_1) (t0_2 := (1 : Int32)) (t0_3 := ((x5.toInt64 : Int64) + 1 : Int64)) (t0_4 := (1 : Int32)) (t0_5 := (1 : Int32)) (t0_6 := t0_6) (t0_7 := t0_7) (t0_8 := t0_8) (t0_9 := t0_9) (t0_10 := (2 : Int32)) (t1_0 := (upd t5_0 (0 : Int32).toNatClampNeg 0 : (Nat → Int32))) (by first | exact ⟨by omega, by omega⟩ | decide) (by first | omega | decide) (by first | exact ⟨by omega, by omega⟩ | decide) (by first | with_reducible assumption | exact g_one)
                        with_reducible refine v_owe h42.1 ?_
                        replace h42 := h42.2
                        generalize F_DR_cut (0 : Int32) x6 (0 : Int32) t0_1 (1 : Int32) ((x5.toInt64 : Int64) + 1 : Int64) (1 : Int32) (1 : Int32) t0_6 t0_7 t0_8 t0_9 (2 : Int32) (upd t5_0 (0 : Int32).toNatClampNeg 0 : (Nat → Int32)) = p258 at *
                        unfold Q_DR_cut at h42
                        obtain ⟨h421, h42g, h426⟩ := h42
                        unfold S_DR_divide_c397 F_DR_divide_c397
                        by_cases g43 : (p258.1 : Int32) = (0 : Int32)
                        ·
                          rw [if_pos g43, if_pos g43]
                          refine ⟨trivial, ?_⟩
                          (unfold Q_DR_divide; dsimp only; with_reducible assumption)
                        ·
                          rw [if_neg g43, if_neg g43]
                          have h44 := T_DR_store (x2 := x4) (t0_0 := (p258.2.1 : Int32)) (t0_1 := (p258.2.2.1 : Int32)) (t0_2 := (p258.2.2.2.1 : Int32)) (t0_3 := (p258.2.2.2.2.1 : Int64)) (t0_4 := (p258.2.2.2.2.2.1 : Int32)) (t0_5 := (p258.2.2.2.2.2.2.1 : Int32)) (t0_6 := (p258.2.2.2.2.2.2.2.1 : Int32)) (t0_7 := (p258.2.2.2.2.2.2.2.2.1 : Int32)) (t0_8 := (p258.2.2.2.2.2.2.2.2.2.1 : Int32)) (t0_9 := (p258.2.2.2.2.2.2.2.2.2.2.1 : Int32)) (t0_10 := (p258.2.2.2.2.2.2.2.2.2.2.2.1 : Int32)) (t1_0 := t1_0) (t2_0 := t2_0) (t3_0 := t3_0) (t4_0 := t4_0) (t5_0 := (p258.2.2.2.2.2.2.2.2.2.2.2.2 : (Nat → Int32))) (by with_reducible assumption) (by with_reducible assumption) ⟨by first | omega | decide, by first | omega | decide⟩ (by first | with_reducible assumption | exact g_cl (by with_reducible assumption) (by omega) (by omega) | omega | decide)
                          with_reducible refine v_owe h44.1 ?_
                          replace h44 := h44.2
                          generalize F_DR_store x4 (p258.2.1 : Int32) (p258.2.2.1 : Int32) (p258.2.2.2.1 : Int32) (p258.2.2.2.2.1 : Int64) (p258.2.2.2.2.2.1 : Int32) (p258.2.2.2.2.2.2.1 : Int32) (p258.2.2.2.2.2.2.2.1 : Int32) (p258.2.2.2.2.2.2.2.2.1 : Int32) (p258.2.2.2.2.2.2.2.2.2.1 : Int32) (p258.2.2.2.2.2.2.2.2.2.2.1 : Int32) (p258.2.2.2.2.2.2.2.2.2.2.2.1 : Int32) t1_0 t2_0 t3_0 t4_0 (p258.2.2.2.2.2.2.2.2.2.2.2.2 : (Nat → Int32)) = p330 at *
                          unfold Q_DR_store at h44
                          unfold S_DR_divide_c405 F_DR_divide_c405
                          refine ⟨trivial, ?_⟩
                          (unfold Q_DR_divide; dsimp only; with_reducible assumption)
                    ·
                      rw [if_neg g34, if_neg g34]
                      have g34l := g_lc4 g34
                      refine ⟨trivial, ?_⟩
                      (unfold Q_DR_divide; dsimp only; with_reducible assumption)
                  ·
                    rw [if_neg g33, if_neg g33]
                    unfold S_DR_divide_J183 F_DR_divide_J183
                    with_reducible refine v_owe h32.1 ?_
                    rw [if_neg g33, if_neg g33]
                    unfold S_DR_divide_J200 F_DR_divide_J200
                    with_reducible refine v_owe h32.1 ?_
                    rw [if_neg g33, if_neg g33]
                    unfold S_DR_divide_J214 F_DR_divide_J214
                    have h45 := T_DR_cut (x2 := (0 : Int32)) (x3 := x6) (t0_0 := (0 : Int32)) (t0_1 := t0_1) (t0_2 := (1 : Int32)) (t0_3 := ((x5.toInt64 : Int64) + 1 : Int64)) (t0_4 := (0 : Int32)) (t0_5 := (1 : Int32)) (t0_6 := t0_6) (t0_7 := t0_7) (t0_8 := t0_8) (t0_9 := t0_9) (t0_10 := (2 : Int32)) (t1_0 := (upd t5_0 (0 : Int32).toNatClampNeg 0 : (Nat → Int32))) (by first | exact ⟨by omega, by omega⟩ | decide) (by first | omega | decide) (by first | exact ⟨by omega, by omega⟩ | decide) (by first | with_reducible assumption | exact g_one)
                    with_reducible refine v_owe h45.1 ?_
                    replace h45 := h45.2
                    generalize F_DR_cut (0 : Int32) x6 (0 : Int32) t0_1 (1 : Int32) ((x5.toInt64 : Int64) + 1 : Int64) (0 : Int32) (1 : Int32) t0_6 t0_7 t0_8 t0_9 (2 : Int32) (upd t5_0 (0 : Int32).toNatClampNeg 0 : (Nat → Int32)) = p258 at *
                    unfold Q_DR_cut at h45
                    obtain ⟨h451, h45g, h456⟩ := h45
                    unfold S_DR_divide_c397 F_DR_divide_c397
                    by_cases g46 : (p258.1 : Int32) = (0 : Int32)
                    ·
                      rw [if_pos g46, if_pos g46]
                      refine ⟨trivial, ?_⟩
                      (unfold Q_DR_divide; dsimp only; with_reducible assumption)
                    ·
                      rw [if_neg g46, if_neg g46]
                      have h47 := T_DR_store (x2 := x4) (t0_0 := (p258.2.1 : Int32)) (t0_1 := (p258.2.2.1 : Int32)) (t0_2 := (p258.2.2.2.1 : Int32)) (t0_3 := (p258.2.2.2.2.1 : Int64)) (t0_4 := (p258.2.2.2.2.2.1 : Int32)) (t0_5 := (p258.2.2.2.2.2.2.1 : Int32)) (t0_6 := (p258.2.2.2.2.2.2.2.1 : Int32)) (t0_7 := (p258.2.2.2.2.2.2.2.2.1 : Int32)) (t0_8 := (p258.2.2.2.2.2.2.2.2.2.1 : Int32)) (t0_9 := (p258.2.2.2.2.2.2.2.2.2.2.1 : Int32)) (t0_10 := (p258.2.2.2.2.2.2.2.2.2.2.2.1 : Int32)) (t1_0 := t1_0) (t2_0 := t2_0) (t3_0 := t3_0) (t4_0 := t4_0) (t5_0 := (p258.2.2.2.2.2.2.2.2.2.2.2.2 : (Nat → Int32))) (by with_reducible assumption) (by with_reducible assumption) ⟨by first | omega | decide, by first | omega | decide⟩ (by first | with_reducible assumption | exact g_cl (by with_reducible assumption) (by omega) (by omega) | omega | decide)
                      with_reducible refine v_owe h47.1 ?_
                      replace h47 := h47.2
                      generalize F_DR_store x4 (p258.2.1 : Int32) (p258.2.2.1 : Int32) (p258.2.2.2.1 : Int32) (p258.2.2.2.2.1 : Int64) (p258.2.2.2.2.2.1 : Int32) (p258.2.2.2.2.2.2.1 : Int32) (p258.2.2.2.2.2.2.2.1 : Int32) (p258.2.2.2.2.2.2.2.2.1 : Int32) (p258.2.2.2.2.2.2.2.2.2.1 : Int32) (p258.2.2.2.2.2.2.2.2.2.2.1 : Int32) (p258.2.2.2.2.2.2.2.2.2.2.2.1 : Int32) t1_0 t2_0 t3_0 t4_0 (p258.2.2.2.2.2.2.2.2.2.2.2.2 : (Nat → Int32)) = p330 at *
                      unfold Q_DR_store at h47
                      unfold S_DR_divide_c405 F_DR_divide_c405
                      refine ⟨trivial, ?_⟩
                      (unfold Q_DR_divide; dsimp only; with_reducible assumption)
              ·
                rw [if_neg g9, if_neg g9]
                unfold S_DR_divide_J63 F_DR_divide_J63
                have g48 : ¬ ((2 : Int32) ≤ (0 : Int32)) := (by decide)
                rw [if_neg g48, if_neg g48]
                refine ⟨trivial, ?_⟩
                (unfold Q_DR_divide; dsimp only; with_reducible assumption)
            ·
              rw [if_neg g7, if_neg g7]
              have g7i : 10000 < x5.toInt := q_nleI g7
              unfold S_DR_divide_J46 F_DR_divide_J46
              unfold S_DR_divide_J63 F_DR_divide_J63
              have g49 : ¬ ((1 : Int32) ≤ (0 : Int32)) := (by decide)
              rw [if_neg g49, if_neg g49]
              refine ⟨trivial, ?_⟩
              (unfold Q_DR_divide; dsimp only; with_reducible assumption)
        ·
          rw [if_neg g4, if_neg g4]
          unfold S_DR_divide_J46 F_DR_divide_J46
          unfold S_DR_divide_J63 F_DR_divide_J63
          have g50 : ¬ ((1 : Int32) ≤ (0 : Int32)) := (by decide)
          rw [if_neg g50, if_neg g50]
          refine ⟨trivial, ?_⟩
          (unfold Q_DR_divide; dsimp only; with_reducible assumption)
      ·
        rw [if_neg g3, if_neg g3]
        unfold S_DR_divide_J46 F_DR_divide_J46
        unfold S_DR_divide_J63 F_DR_divide_J63
        have g51 : ¬ ((1 : Int32) ≤ (0 : Int32)) := (by decide)
        rw [if_neg g51, if_neg g51]
        refine ⟨trivial, ?_⟩
        (unfold Q_DR_divide; dsimp only; with_reducible assumption)
    ·
      rw [if_neg g2, if_neg g2]
      unfold S_DR_divide_J46 F_DR_divide_J46
      unfold S_DR_divide_J63 F_DR_divide_J63
      have g52 : ¬ ((1 : Int32) ≤ (0 : Int32)) := (by decide)
      rw [if_neg g52, if_neg g52]
      refine ⟨trivial, ?_⟩
      (unfold Q_DR_divide; dsimp only; with_reducible assumption)
  ·
    rw [if_neg g1, if_neg g1]
    unfold S_DR_divide_J46 F_DR_divide_J46
    unfold S_DR_divide_J63 F_DR_divide_J63
    have g53 : ¬ ((1 : Int32) ≤ (0 : Int32)) := (by decide)
    rw [if_neg g53, if_neg g53]
    refine ⟨trivial, ?_⟩
    (unfold Q_DR_divide; dsimp only; with_reducible assumption)
