/-! WholeRows: what its calls owe holds -/
theorem w_wz {v : Int} {b : Int32} (g : b = 0) (h : wZ v b) : wL 0 v := by
  rcases h with ⟨a, -⟩ | ⟨-, a⟩
  · rw [g] at a; exact absurd a (by decide)
  · exact a
theorem wR.o {k m : Nat → Int32} (h : wR k m) : wO k 1408 := h.1
theorem w_ab {P : Prop} {b : Int32} (g : ¬ b = 0) (h : b ≠ 0 → P) : P := h g
theorem R_cp {f g : Nat → Int32} (h : wO f 264) : wO (F_WR_copy 264 264 f g) 264 := (R_copy4 (v := wV f 264) ⟨h, rfl⟩).1
theorem R_cl {f : Nat → Int32} : wO (F_WR_clear 264 f) 264 := R_clear4.1
def Q_WR_add (p : Int32 × Int32 × Int32 × Int32 × Int32 × Int32 × Int32 × (Nat → Int32) × (Nat → Int32) × (Nat → Int32) × (Nat → Int32) × (Nat → Int32)) : Prop := wR p.2.2.2.2.2.2.2.1 p.2.2.2.2.2.2.2.2.1
theorem T_WR_add {x2 : Int32} {x3 : Int32} {x4 : Int32} {x5 : Int32} {t0_0 : Int32} {t0_1 : Int32} {t0_2 : Int32} {t0_3 : Int32} {t0_4 : Int32} {t0_5 : Int32} {t0_6 : Int32} {t1_0 : (Nat → Int32)} {t2_0 : (Nat → Int32)} {t3_0 : (Nat → Int32)} {t4_0 : (Nat → Int32)} {t5_0 : (Nat → Int32)} (hr : wR t1_0 t2_0) : (S_WR_add x2 x3 x4 x5 t0_0 t0_1 t0_2 t0_3 t0_4 t0_5 t0_6 t1_0 t2_0 t3_0 t4_0 t5_0) ∧ Q_WR_add (F_WR_add x2 x3 x4 x5 t0_0 t0_1 t0_2 t0_3 t0_4 t0_5 t0_6 t1_0 t2_0 t3_0 t4_0 t5_0) := by
  unfold S_WR_add F_WR_add
  by_cases g1 : ((F_WR_no x2) : Int32) = (0 : Int32)
  ·
    rw [if_pos g1, if_pos g1]
    have g1r := w_no g1
    by_cases g2 : ((F_WR_no x3) : Int32) = (0 : Int32)
    ·
      rw [if_pos g2, if_pos g2]
      have g2r := w_no g2
      by_cases g3 : ((F_WR_no x4) : Int32) = (0 : Int32)
      ·
        rw [if_pos g3, if_pos g3]
        have g3r := w_no g3
        unfold S_WR_add_J27 F_WR_add_J27
        have g4 : ((0 : Int32) ≤ (0 : Int32)) := (by decide)
        rw [if_pos g4, if_pos g4]
        have h5 := R_take  (x2 := x2) (t0_0 := (0 : Int32)) (t0_1 := (2 : Int32)) (t0_2 := t0_2) (t0_3 := t0_3) (t0_4 := t0_4) (t0_5 := t0_5) (t0_6 := t0_6) (t1_0 := t1_0) (t2_0 := t4_0) (by first | with_reducible assumption | with_reducible exact R_cl | (with_reducible apply R_cp; first | with_reducible assumption | with_reducible exact R_cl) | (with_reducible apply wR.mi <;> with_reducible assumption) | omega | decide) (wR.o (by with_reducible assumption))
        have h5k := h5.2.1
        have h5v := h5.2
        with_reducible refine v_owe h5.1 ?_
        have h6 := R_take  (x2 := x3) (t0_0 := (0 : Int32)) (t0_1 := (2 : Int32)) (t0_2 := t0_2) (t0_3 := t0_3) (t0_4 := t0_4) (t0_5 := t0_5) (t0_6 := t0_6) (t1_0 := t1_0) (t2_0 := t5_0) (by first | with_reducible assumption | with_reducible exact R_cl | (with_reducible apply R_cp; first | with_reducible assumption | with_reducible exact R_cl) | (with_reducible apply wR.mi <;> with_reducible assumption) | omega | decide) (wR.o (by with_reducible assumption))
        have h6k := h6.2.1
        have h6v := h6.2
        with_reducible refine v_owe h6.1 ?_
        refine v_cons (by omega) ?_
        refine v_cons (by omega) ?_
        refine v_cons (by omega) ?_
        refine v_cons (by omega) ?_
        by_cases g7 : (t2_0 x3.toNatClampNeg : Int32) = x5
        ·
          rw [if_pos g7, if_pos g7]
          refine v_cons (by first | omega | exact (wR.mi (by with_reducible assumption) (by with_reducible assumption)).1 | exact (wR.mi (by with_reducible assumption) (by with_reducible assumption)).2) ?_
          refine v_cons (by first | omega | exact (wR.mi (by with_reducible assumption) (by with_reducible assumption)).1 | exact (wR.mi (by with_reducible assumption) (by with_reducible assumption)).2) ?_
          have h8 := R_sum  (x3 := (t2_0 x2.toNatClampNeg : Int32)) (x5 := (0 : Int32)) (t0_0 := (0 : Int32)) (t0_1 := (2 : Int32)) (t0_2 := t0_2) (t0_3 := t0_3) (t0_4 := t0_4) (t0_5 := t0_5) (t0_6 := t0_6) (t1_0 := t3_0) (t2_0 := ((F_WR_take x2 (264 : Int32) (0 : Int32) (2 : Int32) t0_2 t0_3 t0_4 t0_5 t0_6 t1_0 t4_0) : (Nat → Int32))) (t3_0 := ((F_WR_take x3 (264 : Int32) (0 : Int32) (2 : Int32) t0_2 t0_3 t0_4 t0_5 t0_6 t1_0 t5_0) : (Nat → Int32))) (by first | with_reducible assumption | with_reducible exact R_cl | (with_reducible apply R_cp; first | with_reducible assumption | with_reducible exact R_cl) | (with_reducible apply wR.mi <;> with_reducible assumption) | omega | decide) (by first | with_reducible assumption | with_reducible exact R_cl | (with_reducible apply R_cp; first | with_reducible assumption | with_reducible exact R_cl) | (with_reducible apply wR.mi <;> with_reducible assumption) | omega | decide)
          have h8k := h8.2
          with_reducible refine v_owe h8.1 ?_
          replace h8 := h8.2
          generalize F_WR_sum (264 : Int32) (t2_0 x2.toNatClampNeg : Int32) (264 : Int32) (0 : Int32) (0 : Int32) (2 : Int32) t0_2 t0_3 t0_4 t0_5 t0_6 t3_0 ((F_WR_take x2 (264 : Int32) (0 : Int32) (2 : Int32) t0_2 t0_3 t0_4 t0_5 t0_6 t1_0 t4_0) : (Nat → Int32)) ((F_WR_take x3 (264 : Int32) (0 : Int32) (2 : Int32) t0_2 t0_3 t0_4 t0_5 t0_6 t1_0 t5_0) : (Nat → Int32)) = p114 at *
          replace h6 := h6.2
          generalize F_WR_take x3 (264 : Int32) (0 : Int32) (2 : Int32) t0_2 t0_3 t0_4 t0_5 t0_6 t1_0 t5_0 = f68 at *
          replace h5 := h5.2
          generalize F_WR_take x2 (264 : Int32) (0 : Int32) (2 : Int32) t0_2 t0_3 t0_4 t0_5 t0_6 t1_0 t4_0 = f60 at *
          unfold S_WR_add_c92 F_WR_add_c92
          have h9 := R_store  (x2 := x4) (t0_0 := (p114.1 : Int32)) (t0_1 := (p114.2.1 : Int32)) (t0_2 := (p114.2.2.1 : Int32)) (t0_3 := (p114.2.2.2.1 : Int32)) (t0_4 := (p114.2.2.2.2.1 : Int32)) (t0_5 := (p114.2.2.2.2.2.1 : Int32)) (t0_6 := (p114.2.2.2.2.2.2.1 : Int32)) (t1_0 := t1_0) (t2_0 := t2_0) (t3_0 := (p114.2.2.2.2.2.2.2 : (Nat → Int32))) (by first | with_reducible assumption | with_reducible exact R_cl | (with_reducible apply R_cp; first | with_reducible assumption | with_reducible exact R_cl) | (with_reducible apply wR.mi <;> with_reducible assumption) | omega | decide) (by first | with_reducible assumption | with_reducible exact R_cl | (with_reducible apply R_cp; first | with_reducible assumption | with_reducible exact R_cl) | (with_reducible apply wR.mi <;> with_reducible assumption) | omega | decide) (by first | with_reducible assumption | with_reducible exact R_cl | (with_reducible apply R_cp; first | with_reducible assumption | with_reducible exact R_cl) | (with_reducible apply wR.mi <;> with_reducible assumption) | omega | decide)
          have h9r := h9.2
          with_reducible refine v_owe h9.1 ?_
          replace h9 := h9.2
          generalize F_WR_store x4 (p114.1 : Int32) (p114.2.1 : Int32) (p114.2.2.1 : Int32) (p114.2.2.2.1 : Int32) (p114.2.2.2.2.1 : Int32) (p114.2.2.2.2.2.1 : Int32) (p114.2.2.2.2.2.2.1 : Int32) t1_0 t2_0 (p114.2.2.2.2.2.2.2 : (Nat → Int32)) = p158 at *
          unfold S_WR_add_c97 F_WR_add_c97
          refine ⟨trivial, ?_⟩
          (unfold Q_WR_add; dsimp only; first | with_reducible assumption | exact hr)
        ·
          rw [if_neg g7, if_neg g7]
          refine v_cons (by first | omega | exact (wR.mi (by with_reducible assumption) (by with_reducible assumption)).1 | exact (wR.mi (by with_reducible assumption) (by with_reducible assumption)).2) ?_
          refine v_cons (by first | omega | exact (wR.mi (by with_reducible assumption) (by with_reducible assumption)).1 | exact (wR.mi (by with_reducible assumption) (by with_reducible assumption)).2) ?_
          have h10 := R_sum  (x3 := (t2_0 x2.toNatClampNeg : Int32)) (x5 := (1 : Int32)) (t0_0 := (0 : Int32)) (t0_1 := (2 : Int32)) (t0_2 := t0_2) (t0_3 := t0_3) (t0_4 := t0_4) (t0_5 := t0_5) (t0_6 := t0_6) (t1_0 := t3_0) (t2_0 := ((F_WR_take x2 (264 : Int32) (0 : Int32) (2 : Int32) t0_2 t0_3 t0_4 t0_5 t0_6 t1_0 t4_0) : (Nat → Int32))) (t3_0 := ((F_WR_take x3 (264 : Int32) (0 : Int32) (2 : Int32) t0_2 t0_3 t0_4 t0_5 t0_6 t1_0 t5_0) : (Nat → Int32))) (by first | with_reducible assumption | with_reducible exact R_cl | (with_reducible apply R_cp; first | with_reducible assumption | with_reducible exact R_cl) | (with_reducible apply wR.mi <;> with_reducible assumption) | omega | decide) (by first | with_reducible assumption | with_reducible exact R_cl | (with_reducible apply R_cp; first | with_reducible assumption | with_reducible exact R_cl) | (with_reducible apply wR.mi <;> with_reducible assumption) | omega | decide)
          have h10k := h10.2
          with_reducible refine v_owe h10.1 ?_
          replace h10 := h10.2
          generalize F_WR_sum (264 : Int32) (t2_0 x2.toNatClampNeg : Int32) (264 : Int32) (1 : Int32) (0 : Int32) (2 : Int32) t0_2 t0_3 t0_4 t0_5 t0_6 t3_0 ((F_WR_take x2 (264 : Int32) (0 : Int32) (2 : Int32) t0_2 t0_3 t0_4 t0_5 t0_6 t1_0 t4_0) : (Nat → Int32)) ((F_WR_take x3 (264 : Int32) (0 : Int32) (2 : Int32) t0_2 t0_3 t0_4 t0_5 t0_6 t1_0 t5_0) : (Nat → Int32)) = p206 at *
          replace h6 := h6.2
          generalize F_WR_take x3 (264 : Int32) (0 : Int32) (2 : Int32) t0_2 t0_3 t0_4 t0_5 t0_6 t1_0 t5_0 = f68 at *
          replace h5 := h5.2
          generalize F_WR_take x2 (264 : Int32) (0 : Int32) (2 : Int32) t0_2 t0_3 t0_4 t0_5 t0_6 t1_0 t4_0 = f60 at *
          unfold S_WR_add_c92_4 F_WR_add_c92_4
          have h11 := R_store  (x2 := x4) (t0_0 := (p206.1 : Int32)) (t0_1 := (p206.2.1 : Int32)) (t0_2 := (p206.2.2.1 : Int32)) (t0_3 := (p206.2.2.2.1 : Int32)) (t0_4 := (p206.2.2.2.2.1 : Int32)) (t0_5 := (p206.2.2.2.2.2.1 : Int32)) (t0_6 := (p206.2.2.2.2.2.2.1 : Int32)) (t1_0 := t1_0) (t2_0 := t2_0) (t3_0 := (p206.2.2.2.2.2.2.2 : (Nat → Int32))) (by first | with_reducible assumption | with_reducible exact R_cl | (with_reducible apply R_cp; first | with_reducible assumption | with_reducible exact R_cl) | (with_reducible apply wR.mi <;> with_reducible assumption) | omega | decide) (by first | with_reducible assumption | with_reducible exact R_cl | (with_reducible apply R_cp; first | with_reducible assumption | with_reducible exact R_cl) | (with_reducible apply wR.mi <;> with_reducible assumption) | omega | decide) (by first | with_reducible assumption | with_reducible exact R_cl | (with_reducible apply R_cp; first | with_reducible assumption | with_reducible exact R_cl) | (with_reducible apply wR.mi <;> with_reducible assumption) | omega | decide)
          have h11r := h11.2
          with_reducible refine v_owe h11.1 ?_
          replace h11 := h11.2
          generalize F_WR_store x4 (p206.1 : Int32) (p206.2.1 : Int32) (p206.2.2.1 : Int32) (p206.2.2.2.1 : Int32) (p206.2.2.2.2.1 : Int32) (p206.2.2.2.2.2.1 : Int32) (p206.2.2.2.2.2.2.1 : Int32) t1_0 t2_0 (p206.2.2.2.2.2.2.2 : (Nat → Int32)) = p250 at *
          unfold S_WR_add_c97_5 F_WR_add_c97_5
          refine ⟨trivial, ?_⟩
          (unfold Q_WR_add; dsimp only; first | with_reducible assumption | exact hr)
      ·
        rw [if_neg g3, if_neg g3]
        unfold S_WR_add_J22 F_WR_add_J22
        unfold S_WR_add_J27 F_WR_add_J27
        have g12 : ¬ ((1 : Int32) ≤ (0 : Int32)) := (by decide)
        rw [if_neg g12, if_neg g12]
        refine ⟨trivial, ?_⟩
        (unfold Q_WR_add; dsimp only; first | with_reducible assumption | exact hr)
    ·
      rw [if_neg g2, if_neg g2]
      unfold S_WR_add_J22 F_WR_add_J22
      unfold S_WR_add_J27 F_WR_add_J27
      have g13 : ¬ ((1 : Int32) ≤ (0 : Int32)) := (by decide)
      rw [if_neg g13, if_neg g13]
      refine ⟨trivial, ?_⟩
      (unfold Q_WR_add; dsimp only; first | with_reducible assumption | exact hr)
  ·
    rw [if_neg g1, if_neg g1]
    unfold S_WR_add_J22 F_WR_add_J22
    unfold S_WR_add_J27 F_WR_add_J27
    have g14 : ¬ ((1 : Int32) ≤ (0 : Int32)) := (by decide)
    rw [if_neg g14, if_neg g14]
    refine ⟨trivial, ?_⟩
    (unfold Q_WR_add; dsimp only; first | with_reducible assumption | exact hr)
def Q_WR_multiply (p : Int32 × Int32 × Int32 × Int32 × Int32 × Int32 × Int32 × (Nat → Int32) × (Nat → Int32) × (Nat → Int32) × (Nat → Int32) × (Nat → Int32) × (Nat → Int32)) : Prop := wR p.2.2.2.2.2.2.2.1 p.2.2.2.2.2.2.2.2.1
theorem T_WR_multiply {x2 : Int32} {x3 : Int32} {x4 : Int32} {t0_0 : Int32} {t0_1 : Int32} {t0_2 : Int32} {t0_3 : Int32} {t0_4 : Int32} {t0_5 : Int32} {t0_6 : Int32} {t1_0 : (Nat → Int32)} {t2_0 : (Nat → Int32)} {t3_0 : (Nat → Int32)} {t4_0 : (Nat → Int32)} {t5_0 : (Nat → Int32)} {t6_0 : (Nat → Int32)} (hr : wR t1_0 t2_0) : (S_WR_multiply x2 x3 x4 t0_0 t0_1 t0_2 t0_3 t0_4 t0_5 t0_6 t1_0 t2_0 t3_0 t4_0 t5_0 t6_0) ∧ Q_WR_multiply (F_WR_multiply x2 x3 x4 t0_0 t0_1 t0_2 t0_3 t0_4 t0_5 t0_6 t1_0 t2_0 t3_0 t4_0 t5_0 t6_0) := by
  unfold S_WR_multiply F_WR_multiply
  by_cases g1 : ((F_WR_no x2) : Int32) = (0 : Int32)
  ·
    rw [if_pos g1, if_pos g1]
    have g1r := w_no g1
    by_cases g2 : ((F_WR_no x3) : Int32) = (0 : Int32)
    ·
      rw [if_pos g2, if_pos g2]
      have g2r := w_no g2
      by_cases g3 : ((F_WR_no x4) : Int32) = (0 : Int32)
      ·
        rw [if_pos g3, if_pos g3]
        have g3r := w_no g3
        unfold S_WR_multiply_J27 F_WR_multiply_J27
        have g4 : ((0 : Int32) ≤ (0 : Int32)) := (by decide)
        rw [if_pos g4, if_pos g4]
        have h5 := R_take  (x2 := x2) (t0_0 := (0 : Int32)) (t0_1 := (2 : Int32)) (t0_2 := t0_2) (t0_3 := t0_3) (t0_4 := t0_4) (t0_5 := t0_5) (t0_6 := t0_6) (t1_0 := t1_0) (t2_0 := t5_0) (by first | with_reducible assumption | with_reducible exact R_cl | (with_reducible apply R_cp; first | with_reducible assumption | with_reducible exact R_cl) | (with_reducible apply wR.mi <;> with_reducible assumption) | omega | decide) (wR.o (by with_reducible assumption))
        have h5k := h5.2.1
        have h5v := h5.2
        with_reducible refine v_owe h5.1 ?_
        have h6 := R_take  (x2 := x3) (t0_0 := (0 : Int32)) (t0_1 := (2 : Int32)) (t0_2 := t0_2) (t0_3 := t0_3) (t0_4 := t0_4) (t0_5 := t0_5) (t0_6 := t0_6) (t1_0 := t1_0) (t2_0 := t6_0) (by first | with_reducible assumption | with_reducible exact R_cl | (with_reducible apply R_cp; first | with_reducible assumption | with_reducible exact R_cl) | (with_reducible apply wR.mi <;> with_reducible assumption) | omega | decide) (wR.o (by with_reducible assumption))
        have h6k := h6.2.1
        have h6v := h6.2
        with_reducible refine v_owe h6.1 ?_
        have h7 := R_mul4  (t0_0 := (0 : Int32)) (t0_1 := (2 : Int32)) (t0_2 := t0_2) (t0_3 := t0_3) (t0_4 := t0_4) (t0_5 := t0_5) (t0_6 := t0_6) (t1_0 := t4_0) (t2_0 := ((F_WR_take x2 (264 : Int32) (0 : Int32) (2 : Int32) t0_2 t0_3 t0_4 t0_5 t0_6 t1_0 t5_0) : (Nat → Int32))) (t3_0 := ((F_WR_take x3 (264 : Int32) (0 : Int32) (2 : Int32) t0_2 t0_3 t0_4 t0_5 t0_6 t1_0 t6_0) : (Nat → Int32))) (t4_0 := t3_0) (by first | with_reducible assumption | with_reducible exact R_cl | (with_reducible apply R_cp; first | with_reducible assumption | with_reducible exact R_cl) | (with_reducible apply wR.mi <;> with_reducible assumption) | omega | decide) (by first | with_reducible assumption | with_reducible exact R_cl | (with_reducible apply R_cp; first | with_reducible assumption | with_reducible exact R_cl) | (with_reducible apply wR.mi <;> with_reducible assumption) | omega | decide)
        have h7k := h7.2
        with_reducible refine v_owe h7.1 ?_
        replace h7 := h7.2
        generalize F_WR_multiplyRows (264 : Int32) (264 : Int32) (264 : Int32) (0 : Int32) (2 : Int32) t0_2 t0_3 t0_4 t0_5 t0_6 t4_0 ((F_WR_take x2 (264 : Int32) (0 : Int32) (2 : Int32) t0_2 t0_3 t0_4 t0_5 t0_6 t1_0 t5_0) : (Nat → Int32)) ((F_WR_take x3 (264 : Int32) (0 : Int32) (2 : Int32) t0_2 t0_3 t0_4 t0_5 t0_6 t1_0 t6_0) : (Nat → Int32)) t3_0 = p86 at *
        replace h6 := h6.2
        generalize F_WR_take x3 (264 : Int32) (0 : Int32) (2 : Int32) t0_2 t0_3 t0_4 t0_5 t0_6 t1_0 t6_0 = f72 at *
        replace h5 := h5.2
        generalize F_WR_take x2 (264 : Int32) (0 : Int32) (2 : Int32) t0_2 t0_3 t0_4 t0_5 t0_6 t1_0 t5_0 = f64 at *
        unfold S_WR_multiply_c74 F_WR_multiply_c74
        refine v_cons (by omega) ?_
        refine v_cons (by omega) ?_
        refine v_cons (by omega) ?_
        refine v_cons (by omega) ?_
        by_cases g8 : (t2_0 x2.toNatClampNeg : Int32) = (t2_0 x3.toNatClampNeg : Int32)
        ·
          rw [if_pos g8, if_pos g8]
          have h9 := R_store  (x2 := x4) (t0_0 := (0 : Int32)) (t0_1 := (2 : Int32)) (t0_2 := t0_2) (t0_3 := (0 : Int32)) (t0_4 := t0_4) (t0_5 := t0_5) (t0_6 := t0_6) (t1_0 := t1_0) (t2_0 := t2_0) (t3_0 := (p86.2 : (Nat → Int32))) (by first | with_reducible assumption | with_reducible exact R_cl | (with_reducible apply R_cp; first | with_reducible assumption | with_reducible exact R_cl) | (with_reducible apply wR.mi <;> with_reducible assumption) | omega | decide) (by first | with_reducible assumption | with_reducible exact R_cl | (with_reducible apply R_cp; first | with_reducible assumption | with_reducible exact R_cl) | (with_reducible apply wR.mi <;> with_reducible assumption) | omega | decide) (by first | with_reducible assumption | with_reducible exact R_cl | (with_reducible apply R_cp; first | with_reducible assumption | with_reducible exact R_cl) | (with_reducible apply wR.mi <;> with_reducible assumption) | omega | decide)
          have h9r := h9.2
          with_reducible refine v_owe h9.1 ?_
          replace h9 := h9.2
          generalize F_WR_store x4 (0 : Int32) (2 : Int32) t0_2 (0 : Int32) t0_4 t0_5 t0_6 t1_0 t2_0 (p86.2 : (Nat → Int32)) = p136 at *
          unfold S_WR_multiply_c103 F_WR_multiply_c103
          refine ⟨trivial, ?_⟩
          (unfold Q_WR_multiply; dsimp only; first | with_reducible assumption | exact hr)
        ·
          rw [if_neg g8, if_neg g8]
          have h10 := R_store  (x2 := x4) (t0_0 := (0 : Int32)) (t0_1 := (2 : Int32)) (t0_2 := t0_2) (t0_3 := (1 : Int32)) (t0_4 := t0_4) (t0_5 := t0_5) (t0_6 := t0_6) (t1_0 := t1_0) (t2_0 := t2_0) (t3_0 := (p86.2 : (Nat → Int32))) (by first | with_reducible assumption | with_reducible exact R_cl | (with_reducible apply R_cp; first | with_reducible assumption | with_reducible exact R_cl) | (with_reducible apply wR.mi <;> with_reducible assumption) | omega | decide) (by first | with_reducible assumption | with_reducible exact R_cl | (with_reducible apply R_cp; first | with_reducible assumption | with_reducible exact R_cl) | (with_reducible apply wR.mi <;> with_reducible assumption) | omega | decide) (by first | with_reducible assumption | with_reducible exact R_cl | (with_reducible apply R_cp; first | with_reducible assumption | with_reducible exact R_cl) | (with_reducible apply wR.mi <;> with_reducible assumption) | omega | decide)
          have h10r := h10.2
          with_reducible refine v_owe h10.1 ?_
          replace h10 := h10.2
          generalize F_WR_store x4 (0 : Int32) (2 : Int32) t0_2 (1 : Int32) t0_4 t0_5 t0_6 t1_0 t2_0 (p86.2 : (Nat → Int32)) = p184 at *
          unfold S_WR_multiply_c103_4 F_WR_multiply_c103_4
          refine ⟨trivial, ?_⟩
          (unfold Q_WR_multiply; dsimp only; first | with_reducible assumption | exact hr)
      ·
        rw [if_neg g3, if_neg g3]
        unfold S_WR_multiply_J22 F_WR_multiply_J22
        unfold S_WR_multiply_J27 F_WR_multiply_J27
        have g11 : ¬ ((1 : Int32) ≤ (0 : Int32)) := (by decide)
        rw [if_neg g11, if_neg g11]
        refine ⟨trivial, ?_⟩
        (unfold Q_WR_multiply; dsimp only; first | with_reducible assumption | exact hr)
    ·
      rw [if_neg g2, if_neg g2]
      unfold S_WR_multiply_J22 F_WR_multiply_J22
      unfold S_WR_multiply_J27 F_WR_multiply_J27
      have g12 : ¬ ((1 : Int32) ≤ (0 : Int32)) := (by decide)
      rw [if_neg g12, if_neg g12]
      refine ⟨trivial, ?_⟩
      (unfold Q_WR_multiply; dsimp only; first | with_reducible assumption | exact hr)
  ·
    rw [if_neg g1, if_neg g1]
    unfold S_WR_multiply_J22 F_WR_multiply_J22
    unfold S_WR_multiply_J27 F_WR_multiply_J27
    have g13 : ¬ ((1 : Int32) ≤ (0 : Int32)) := (by decide)
    rw [if_neg g13, if_neg g13]
    refine ⟨trivial, ?_⟩
    (unfold Q_WR_multiply; dsimp only; first | with_reducible assumption | exact hr)
def Q_WR_divide (p : Int32 × Int32 × Int32 × Int32 × Int32 × Int32 × Int32 × (Nat → Int32) × (Nat → Int32) × (Nat → Int32) × (Nat → Int32) × (Nat → Int32) × (Nat → Int32) × (Nat → Int32)) : Prop := wR p.2.2.2.2.2.2.2.1 p.2.2.2.2.2.2.2.2.1
theorem T_WR_divide {x2 : Int32} {x3 : Int32} {x4 : Int32} {x5 : Int32} {t0_0 : Int32} {t0_1 : Int32} {t0_2 : Int32} {t0_3 : Int32} {t0_4 : Int32} {t0_5 : Int32} {t0_6 : Int32} {t1_0 : (Nat → Int32)} {t2_0 : (Nat → Int32)} {t3_0 : (Nat → Int32)} {t4_0 : (Nat → Int32)} {t5_0 : (Nat → Int32)} {t6_0 : (Nat → Int32)} {t7_0 : (Nat → Int32)} (hr : wR t1_0 t2_0) : (S_WR_divide x2 x3 x4 x5 t0_0 t0_1 t0_2 t0_3 t0_4 t0_5 t0_6 t1_0 t2_0 t3_0 t4_0 t5_0 t6_0 t7_0) ∧ Q_WR_divide (F_WR_divide x2 x3 x4 x5 t0_0 t0_1 t0_2 t0_3 t0_4 t0_5 t0_6 t1_0 t2_0 t3_0 t4_0 t5_0 t6_0 t7_0) := by
  unfold S_WR_divide F_WR_divide
  by_cases g1 : ((F_WR_no x2) : Int32) = (0 : Int32)
  ·
    rw [if_pos g1, if_pos g1]
    have g1r := w_no g1
    by_cases g2 : ((F_WR_no x3) : Int32) = (0 : Int32)
    ·
      rw [if_pos g2, if_pos g2]
      have g2r := w_no g2
      by_cases g3 : ((F_WR_no x4) : Int32) = (0 : Int32)
      ·
        rw [if_pos g3, if_pos g3]
        have g3r := w_no g3
        by_cases g4 : ((F_WR_no x5) : Int32) = (0 : Int32)
        ·
          rw [if_pos g4, if_pos g4]
          have g4r := w_no g4
          have h5 := R_isZero  (x2 := x3) (t0_0 := t0_0) (t0_1 := t0_1) (t0_2 := t0_2) (t0_3 := t0_3) (t0_4 := t0_4) (t0_5 := t0_5) (t0_6 := t0_6) (t1_0 := t1_0) (by first | with_reducible assumption | with_reducible exact R_cl | (with_reducible apply R_cp; first | with_reducible assumption | with_reducible exact R_cl) | (with_reducible apply wR.mi <;> with_reducible assumption) | omega | decide) (wR.o (by with_reducible assumption))
          have h5z := h5.2
          with_reducible refine v_owe h5.1 ?_
          by_cases g6 : ((F_WR_isZero x3 t0_0 t0_1 t0_2 t0_3 t0_4 t0_5 t0_6 t1_0) : Int32) = (0 : Int32)
          ·
            rw [if_pos g6, if_pos g6]
            have g6z := w_wz g6 (by with_reducible assumption)
            unfold S_WR_divide_J47 F_WR_divide_J47
            have g7 : ((0 : Int32) ≤ (0 : Int32)) := (by decide)
            rw [if_pos g7, if_pos g7]
            have h8 := R_take  (x2 := x2) (t0_0 := (0 : Int32)) (t0_1 := t0_1) (t0_2 := t0_2) (t0_3 := t0_3) (t0_4 := t0_4) (t0_5 := t0_5) (t0_6 := t0_6) (t1_0 := t1_0) (t2_0 := t6_0) (by first | with_reducible assumption | with_reducible exact R_cl | (with_reducible apply R_cp; first | with_reducible assumption | with_reducible exact R_cl) | (with_reducible apply wR.mi <;> with_reducible assumption) | omega | decide) (wR.o (by with_reducible assumption))
            have h8k := h8.2.1
            have h8v := h8.2
            with_reducible refine v_owe h8.1 ?_
            have h9 := R_take  (x2 := x3) (t0_0 := (0 : Int32)) (t0_1 := t0_1) (t0_2 := t0_2) (t0_3 := t0_3) (t0_4 := t0_4) (t0_5 := t0_5) (t0_6 := t0_6) (t1_0 := t1_0) (t2_0 := t7_0) (by first | with_reducible assumption | with_reducible exact R_cl | (with_reducible apply R_cp; first | with_reducible assumption | with_reducible exact R_cl) | (with_reducible apply wR.mi <;> with_reducible assumption) | omega | decide) (wR.o (by with_reducible assumption))
            have h9k := h9.2.1
            have h9v := h9.2
            with_reducible refine v_owe h9.1 ?_
            refine v_cons (by omega) ?_
            refine v_cons (by omega) ?_
            refine v_cons (by omega) ?_
            refine v_cons (by omega) ?_
            by_cases g10 : (t2_0 x2.toNatClampNeg : Int32) = (t2_0 x3.toNatClampNeg : Int32)
            ·
              rw [if_pos g10, if_pos g10]
              replace h9 := h9.2
              generalize F_WR_take x3 (264 : Int32) (0 : Int32) t0_1 t0_2 t0_3 t0_4 t0_5 t0_6 t1_0 t7_0 = f74 at *
              replace h8 := h8.2
              generalize F_WR_take x2 (264 : Int32) (0 : Int32) t0_1 t0_2 t0_3 t0_4 t0_5 t0_6 t1_0 t6_0 = f66 at *
              unfold S_WR_divide_J104 F_WR_divide_J104
              have h11 := R_div4  (t0_0 := (0 : Int32)) (t0_1 := t0_1) (t0_2 := t0_2) (t0_3 := t0_3) (t0_4 := t0_4) (t0_5 := t0_5) (t0_6 := t0_6) (t1_0 := t4_0) (t2_0 := t5_0) (t3_0 := f66) (t4_0 := f74) (by first | with_reducible assumption | with_reducible exact R_cl | (with_reducible apply R_cp; first | with_reducible assumption | with_reducible exact R_cl) | (with_reducible apply wR.mi <;> with_reducible assumption) | omega | decide) (by first | with_reducible assumption | (refine w_reg ?_ (wR.o (by with_reducible assumption)) (by with_reducible assumption) ?_ <;> with_reducible assumption))
              have h11k := h11.2.1
              have h11q := h11.2.2.1
              have h11d := h11.2
              with_reducible refine v_owe h11.1 ?_
              replace h11 := h11.2
              generalize F_WR_divideRows (264 : Int32) (264 : Int32) (0 : Int32) t0_1 t0_2 t0_3 t0_4 t0_5 t0_6 t4_0 t5_0 f66 f74 = p115 at *
              unfold S_WR_divide_c115 F_WR_divide_c115
              have h12 := R_store  (x2 := x4) (t0_0 := (0 : Int32)) (t0_1 := t0_1) (t0_2 := t0_2) (t0_3 := (0 : Int32)) (t0_4 := t0_4) (t0_5 := t0_5) (t0_6 := t0_6) (t1_0 := t1_0) (t2_0 := t2_0) (t3_0 := ((F_WR_copy (264 : Int32) (264 : Int32) (p115.2 : (Nat → Int32)) t3_0) : (Nat → Int32))) (by first | with_reducible assumption | with_reducible exact R_cl | (with_reducible apply R_cp; first | with_reducible assumption | with_reducible exact R_cl) | (with_reducible apply wR.mi <;> with_reducible assumption) | omega | decide) (by first | with_reducible assumption | with_reducible exact R_cl | (with_reducible apply R_cp; first | with_reducible assumption | with_reducible exact R_cl) | (with_reducible apply wR.mi <;> with_reducible assumption) | omega | decide) (by first | with_reducible assumption | with_reducible exact R_cl | (with_reducible apply R_cp; first | with_reducible assumption | with_reducible exact R_cl) | (with_reducible apply wR.mi <;> with_reducible assumption) | omega | decide)
              have h12r := h12.2
              with_reducible refine v_owe h12.1 ?_
              replace h12 := h12.2
              generalize F_WR_store x4 (0 : Int32) t0_1 t0_2 (0 : Int32) t0_4 t0_5 t0_6 t1_0 t2_0 ((F_WR_copy (264 : Int32) (264 : Int32) (p115.2 : (Nat → Int32)) t3_0) : (Nat → Int32)) = p162 at *
              generalize F_WR_copy (264 : Int32) (264 : Int32) (p115.2 : (Nat → Int32)) t3_0 = f126 at *
              unfold S_WR_divide_c137 F_WR_divide_c137
              refine v_cons (by first | omega | exact (wR.mi (by with_reducible assumption) (by with_reducible assumption)).1 | exact (wR.mi (by with_reducible assumption) (by with_reducible assumption)).2) ?_
              refine v_cons (by first | omega | exact (wR.mi (by with_reducible assumption) (by with_reducible assumption)).1 | exact (wR.mi (by with_reducible assumption) (by with_reducible assumption)).2) ?_
              have h13 := R_store  (x2 := x5) (t0_0 := (p162.1 : Int32)) (t0_1 := (p162.2.1 : Int32)) (t0_2 := (p162.2.2.1 : Int32)) (t0_3 := (t2_0 x2.toNatClampNeg : Int32)) (t0_4 := (p162.2.2.2.2.1 : Int32)) (t0_5 := (p162.2.2.2.2.2.1 : Int32)) (t0_6 := (p162.2.2.2.2.2.2.1 : Int32)) (t1_0 := (p162.2.2.2.2.2.2.2.1 : (Nat → Int32))) (t2_0 := (p162.2.2.2.2.2.2.2.2 : (Nat → Int32))) (t3_0 := ((F_WR_copy (264 : Int32) (264 : Int32) (p115.1 : (Nat → Int32)) f126) : (Nat → Int32))) (by first | with_reducible assumption | with_reducible exact R_cl | (with_reducible apply R_cp; first | with_reducible assumption | with_reducible exact R_cl) | (with_reducible apply wR.mi <;> with_reducible assumption) | omega | decide) (by first | with_reducible assumption | with_reducible exact R_cl | (with_reducible apply R_cp; first | with_reducible assumption | with_reducible exact R_cl) | (with_reducible apply wR.mi <;> with_reducible assumption) | omega | decide) (by first | with_reducible assumption | with_reducible exact R_cl | (with_reducible apply R_cp; first | with_reducible assumption | with_reducible exact R_cl) | (with_reducible apply wR.mi <;> with_reducible assumption) | omega | decide)
              have h13r := h13.2
              with_reducible refine v_owe h13.1 ?_
              replace h13 := h13.2
              generalize F_WR_store x5 (p162.1 : Int32) (p162.2.1 : Int32) (p162.2.2.1 : Int32) (t2_0 x2.toNatClampNeg : Int32) (p162.2.2.2.2.1 : Int32) (p162.2.2.2.2.2.1 : Int32) (p162.2.2.2.2.2.2.1 : Int32) (p162.2.2.2.2.2.2.2.1 : (Nat → Int32)) (p162.2.2.2.2.2.2.2.2 : (Nat → Int32)) ((F_WR_copy (264 : Int32) (264 : Int32) (p115.1 : (Nat → Int32)) f126) : (Nat → Int32)) = p218 at *
              generalize F_WR_copy (264 : Int32) (264 : Int32) (p115.1 : (Nat → Int32)) f126 = f180 at *
              unfold S_WR_divide_c160 F_WR_divide_c160
              refine ⟨trivial, ?_⟩
              (unfold Q_WR_divide; dsimp only; first | with_reducible assumption | exact hr)
            ·
              rw [if_neg g10, if_neg g10]
              replace h9 := h9.2
              generalize F_WR_take x3 (264 : Int32) (0 : Int32) t0_1 t0_2 t0_3 t0_4 t0_5 t0_6 t1_0 t7_0 = f74 at *
              replace h8 := h8.2
              generalize F_WR_take x2 (264 : Int32) (0 : Int32) t0_1 t0_2 t0_3 t0_4 t0_5 t0_6 t1_0 t6_0 = f66 at *
              unfold S_WR_divide_J104 F_WR_divide_J104
              have h14 := R_div4  (t0_0 := (0 : Int32)) (t0_1 := t0_1) (t0_2 := t0_2) (t0_3 := t0_3) (t0_4 := t0_4) (t0_5 := t0_5) (t0_6 := t0_6) (t1_0 := t4_0) (t2_0 := t5_0) (t3_0 := f66) (t4_0 := f74) (by first | with_reducible assumption | with_reducible exact R_cl | (with_reducible apply R_cp; first | with_reducible assumption | with_reducible exact R_cl) | (with_reducible apply wR.mi <;> with_reducible assumption) | omega | decide) (by first | with_reducible assumption | (refine w_reg ?_ (wR.o (by with_reducible assumption)) (by with_reducible assumption) ?_ <;> with_reducible assumption))
              have h14k := h14.2.1
              have h14q := h14.2.2.1
              have h14d := h14.2
              with_reducible refine v_owe h14.1 ?_
              replace h14 := h14.2
              generalize F_WR_divideRows (264 : Int32) (264 : Int32) (0 : Int32) t0_1 t0_2 t0_3 t0_4 t0_5 t0_6 t4_0 t5_0 f66 f74 = p115 at *
              unfold S_WR_divide_c115 F_WR_divide_c115
              have h15 := R_store  (x2 := x4) (t0_0 := (0 : Int32)) (t0_1 := t0_1) (t0_2 := t0_2) (t0_3 := (1 : Int32)) (t0_4 := t0_4) (t0_5 := t0_5) (t0_6 := t0_6) (t1_0 := t1_0) (t2_0 := t2_0) (t3_0 := ((F_WR_copy (264 : Int32) (264 : Int32) (p115.2 : (Nat → Int32)) t3_0) : (Nat → Int32))) (by first | with_reducible assumption | with_reducible exact R_cl | (with_reducible apply R_cp; first | with_reducible assumption | with_reducible exact R_cl) | (with_reducible apply wR.mi <;> with_reducible assumption) | omega | decide) (by first | with_reducible assumption | with_reducible exact R_cl | (with_reducible apply R_cp; first | with_reducible assumption | with_reducible exact R_cl) | (with_reducible apply wR.mi <;> with_reducible assumption) | omega | decide) (by first | with_reducible assumption | with_reducible exact R_cl | (with_reducible apply R_cp; first | with_reducible assumption | with_reducible exact R_cl) | (with_reducible apply wR.mi <;> with_reducible assumption) | omega | decide)
              have h15r := h15.2
              with_reducible refine v_owe h15.1 ?_
              replace h15 := h15.2
              generalize F_WR_store x4 (0 : Int32) t0_1 t0_2 (1 : Int32) t0_4 t0_5 t0_6 t1_0 t2_0 ((F_WR_copy (264 : Int32) (264 : Int32) (p115.2 : (Nat → Int32)) t3_0) : (Nat → Int32)) = p162 at *
              generalize F_WR_copy (264 : Int32) (264 : Int32) (p115.2 : (Nat → Int32)) t3_0 = f126 at *
              unfold S_WR_divide_c137 F_WR_divide_c137
              refine v_cons (by first | omega | exact (wR.mi (by with_reducible assumption) (by with_reducible assumption)).1 | exact (wR.mi (by with_reducible assumption) (by with_reducible assumption)).2) ?_
              refine v_cons (by first | omega | exact (wR.mi (by with_reducible assumption) (by with_reducible assumption)).1 | exact (wR.mi (by with_reducible assumption) (by with_reducible assumption)).2) ?_
              have h16 := R_store  (x2 := x5) (t0_0 := (p162.1 : Int32)) (t0_1 := (p162.2.1 : Int32)) (t0_2 := (p162.2.2.1 : Int32)) (t0_3 := (t2_0 x2.toNatClampNeg : Int32)) (t0_4 := (p162.2.2.2.2.1 : Int32)) (t0_5 := (p162.2.2.2.2.2.1 : Int32)) (t0_6 := (p162.2.2.2.2.2.2.1 : Int32)) (t1_0 := (p162.2.2.2.2.2.2.2.1 : (Nat → Int32))) (t2_0 := (p162.2.2.2.2.2.2.2.2 : (Nat → Int32))) (t3_0 := ((F_WR_copy (264 : Int32) (264 : Int32) (p115.1 : (Nat → Int32)) f126) : (Nat → Int32))) (by first | with_reducible assumption | with_reducible exact R_cl | (with_reducible apply R_cp; first | with_reducible assumption | with_reducible exact R_cl) | (with_reducible apply wR.mi <;> with_reducible assumption) | omega | decide) (by first | with_reducible assumption | with_reducible exact R_cl | (with_reducible apply R_cp; first | with_reducible assumption | with_reducible exact R_cl) | (with_reducible apply wR.mi <;> with_reducible assumption) | omega | decide) (by first | with_reducible assumption | with_reducible exact R_cl | (with_reducible apply R_cp; first | with_reducible assumption | with_reducible exact R_cl) | (with_reducible apply wR.mi <;> with_reducible assumption) | omega | decide)
              have h16r := h16.2
              with_reducible refine v_owe h16.1 ?_
              replace h16 := h16.2
              generalize F_WR_store x5 (p162.1 : Int32) (p162.2.1 : Int32) (p162.2.2.1 : Int32) (t2_0 x2.toNatClampNeg : Int32) (p162.2.2.2.2.1 : Int32) (p162.2.2.2.2.2.1 : Int32) (p162.2.2.2.2.2.2.1 : Int32) (p162.2.2.2.2.2.2.2.1 : (Nat → Int32)) (p162.2.2.2.2.2.2.2.2 : (Nat → Int32)) ((F_WR_copy (264 : Int32) (264 : Int32) (p115.1 : (Nat → Int32)) f126) : (Nat → Int32)) = p218 at *
              generalize F_WR_copy (264 : Int32) (264 : Int32) (p115.1 : (Nat → Int32)) f126 = f180 at *
              unfold S_WR_divide_c160 F_WR_divide_c160
              refine ⟨trivial, ?_⟩
              (unfold Q_WR_divide; dsimp only; first | with_reducible assumption | exact hr)
          ·
            rw [if_neg g6, if_neg g6]
            unfold S_WR_divide_J47 F_WR_divide_J47
            have g17 : ¬ ((2 : Int32) ≤ (0 : Int32)) := (by decide)
            rw [if_neg g17, if_neg g17]
            refine ⟨trivial, ?_⟩
            (unfold Q_WR_divide; dsimp only; first | with_reducible assumption | exact hr)
        ·
          rw [if_neg g4, if_neg g4]
          unfold S_WR_divide_J30 F_WR_divide_J30
          unfold S_WR_divide_J47 F_WR_divide_J47
          have g18 : ¬ ((1 : Int32) ≤ (0 : Int32)) := (by decide)
          rw [if_neg g18, if_neg g18]
          refine ⟨trivial, ?_⟩
          (unfold Q_WR_divide; dsimp only; first | with_reducible assumption | exact hr)
      ·
        rw [if_neg g3, if_neg g3]
        unfold S_WR_divide_J30 F_WR_divide_J30
        unfold S_WR_divide_J47 F_WR_divide_J47
        have g19 : ¬ ((1 : Int32) ≤ (0 : Int32)) := (by decide)
        rw [if_neg g19, if_neg g19]
        refine ⟨trivial, ?_⟩
        (unfold Q_WR_divide; dsimp only; first | with_reducible assumption | exact hr)
    ·
      rw [if_neg g2, if_neg g2]
      unfold S_WR_divide_J30 F_WR_divide_J30
      unfold S_WR_divide_J47 F_WR_divide_J47
      have g20 : ¬ ((1 : Int32) ≤ (0 : Int32)) := (by decide)
      rw [if_neg g20, if_neg g20]
      refine ⟨trivial, ?_⟩
      (unfold Q_WR_divide; dsimp only; first | with_reducible assumption | exact hr)
  ·
    rw [if_neg g1, if_neg g1]
    unfold S_WR_divide_J30 F_WR_divide_J30
    unfold S_WR_divide_J47 F_WR_divide_J47
    have g21 : ¬ ((1 : Int32) ≤ (0 : Int32)) := (by decide)
    rw [if_neg g21, if_neg g21]
    refine ⟨trivial, ?_⟩
    (unfold Q_WR_divide; dsimp only; first | with_reducible assumption | exact hr)
def Q_WR_modulo (p : Int32 × Int32 × Int32 × Int32 × Int32 × Int32 × Int32 × (Nat → Int32) × (Nat → Int32) × (Nat → Int32) × (Nat → Int32) × (Nat → Int32) × (Nat → Int32) × (Nat → Int32)) : Prop := wR p.2.2.2.2.2.2.2.1 p.2.2.2.2.2.2.2.2.1
theorem T_WR_modulo {x2 : Int32} {x3 : Int32} {x4 : Int32} {t0_0 : Int32} {t0_1 : Int32} {t0_2 : Int32} {t0_3 : Int32} {t0_4 : Int32} {t0_5 : Int32} {t0_6 : Int32} {t1_0 : (Nat → Int32)} {t2_0 : (Nat → Int32)} {t3_0 : (Nat → Int32)} {t4_0 : (Nat → Int32)} {t5_0 : (Nat → Int32)} {t6_0 : (Nat → Int32)} {t7_0 : (Nat → Int32)} (hr : wR t1_0 t2_0) : (S_WR_modulo x2 x3 x4 t0_0 t0_1 t0_2 t0_3 t0_4 t0_5 t0_6 t1_0 t2_0 t3_0 t4_0 t5_0 t6_0 t7_0) ∧ Q_WR_modulo (F_WR_modulo x2 x3 x4 t0_0 t0_1 t0_2 t0_3 t0_4 t0_5 t0_6 t1_0 t2_0 t3_0 t4_0 t5_0 t6_0 t7_0) := by
  unfold S_WR_modulo F_WR_modulo
  by_cases g1 : ((F_WR_no x2) : Int32) = (0 : Int32)
  ·
    rw [if_pos g1, if_pos g1]
    have g1r := w_no g1
    by_cases g2 : ((F_WR_no x3) : Int32) = (0 : Int32)
    ·
      rw [if_pos g2, if_pos g2]
      have g2r := w_no g2
      by_cases g3 : ((F_WR_no x4) : Int32) = (0 : Int32)
      ·
        rw [if_pos g3, if_pos g3]
        have g3r := w_no g3
        have h4 := R_isAbove0  (x2 := x3) (t0_0 := t0_0) (t0_1 := t0_1) (t0_2 := t0_2) (t0_3 := t0_3) (t0_4 := t0_4) (t0_5 := t0_5) (t0_6 := t0_6) (t1_0 := t1_0) (t2_0 := t2_0) (by first | with_reducible assumption | with_reducible exact R_cl | (with_reducible apply R_cp; first | with_reducible assumption | with_reducible exact R_cl) | (with_reducible apply wR.mi <;> with_reducible assumption) | omega | decide) (by first | with_reducible assumption | with_reducible exact R_cl | (with_reducible apply R_cp; first | with_reducible assumption | with_reducible exact R_cl) | (with_reducible apply wR.mi <;> with_reducible assumption) | omega | decide)
        have h4a := h4.2
        with_reducible refine v_owe h4.1 ?_
        by_cases g5 : ((F_WR_isAbove0 x3 t0_0 t0_1 t0_2 t0_3 t0_4 t0_5 t0_6 t1_0 t2_0) : Int32) = (0 : Int32)
        ·
          rw [if_pos g5, if_pos g5]
          unfold S_WR_modulo_J39 F_WR_modulo_J39
          have g6 : ¬ ((2 : Int32) ≤ (0 : Int32)) := (by decide)
          rw [if_neg g6, if_neg g6]
          refine ⟨trivial, ?_⟩
          (unfold Q_WR_modulo; dsimp only; first | with_reducible assumption | exact hr)
        ·
          rw [if_neg g5, if_neg g5]
          have g5z := w_ab g5 (by with_reducible assumption)
          unfold S_WR_modulo_J39 F_WR_modulo_J39
          have g7 : ((0 : Int32) ≤ (0 : Int32)) := (by decide)
          rw [if_pos g7, if_pos g7]
          have h8 := R_take  (x2 := x3) (t0_0 := (0 : Int32)) (t0_1 := t0_1) (t0_2 := t0_2) (t0_3 := t0_3) (t0_4 := t0_4) (t0_5 := t0_5) (t0_6 := t0_6) (t1_0 := t1_0) (t2_0 := t7_0) (by first | with_reducible assumption | with_reducible exact R_cl | (with_reducible apply R_cp; first | with_reducible assumption | with_reducible exact R_cl) | (with_reducible apply wR.mi <;> with_reducible assumption) | omega | decide) (wR.o (by with_reducible assumption))
          have h8k := h8.2.1
          have h8v := h8.2
          with_reducible refine v_owe h8.1 ?_
          have h9 := R_reduce  (x2 := x2) (t0_0 := (0 : Int32)) (t0_1 := t0_1) (t0_2 := t0_2) (t0_3 := t0_3) (t0_4 := t0_4) (t0_5 := t0_5) (t0_6 := t0_6) (t1_0 := t1_0) (t2_0 := t2_0) (t3_0 := t3_0) (t4_0 := t4_0) (t5_0 := t5_0) (t6_0 := ((F_WR_take x3 (264 : Int32) (0 : Int32) t0_1 t0_2 t0_3 t0_4 t0_5 t0_6 t1_0 t7_0) : (Nat → Int32))) (t7_0 := t6_0) (by first | with_reducible assumption | with_reducible exact R_cl | (with_reducible apply R_cp; first | with_reducible assumption | with_reducible exact R_cl) | (with_reducible apply wR.mi <;> with_reducible assumption) | omega | decide) (by first | with_reducible assumption | with_reducible exact R_cl | (with_reducible apply R_cp; first | with_reducible assumption | with_reducible exact R_cl) | (with_reducible apply wR.mi <;> with_reducible assumption) | omega | decide) (by first | with_reducible assumption | (refine w_reg ?_ (wR.o (by with_reducible assumption)) (by with_reducible assumption) ?_ <;> with_reducible assumption))
          have h9k := h9.2
          with_reducible refine v_owe h9.1 ?_
          replace h9 := h9.2
          generalize F_WR_reduce x2 (264 : Int32) (0 : Int32) t0_1 t0_2 t0_3 t0_4 t0_5 t0_6 t1_0 t2_0 t3_0 t4_0 t5_0 ((F_WR_take x3 (264 : Int32) (0 : Int32) t0_1 t0_2 t0_3 t0_4 t0_5 t0_6 t1_0 t7_0) : (Nat → Int32)) t6_0 = p84 at *
          replace h8 := h8.2
          generalize F_WR_take x3 (264 : Int32) (0 : Int32) t0_1 t0_2 t0_3 t0_4 t0_5 t0_6 t1_0 t7_0 = f66 at *
          unfold S_WR_modulo_c65 F_WR_modulo_c65
          have h10 := R_store  (x2 := x4) (t0_0 := (0 : Int32)) (t0_1 := t0_1) (t0_2 := t0_2) (t0_3 := (0 : Int32)) (t0_4 := t0_4) (t0_5 := t0_5) (t0_6 := t0_6) (t1_0 := t1_0) (t2_0 := t2_0) (t3_0 := ((F_WR_copy (264 : Int32) (264 : Int32) (p84.2.2.2 : (Nat → Int32)) (p84.1 : (Nat → Int32))) : (Nat → Int32))) (by first | with_reducible assumption | with_reducible exact R_cl | (with_reducible apply R_cp; first | with_reducible assumption | with_reducible exact R_cl) | (with_reducible apply wR.mi <;> with_reducible assumption) | omega | decide) (by first | with_reducible assumption | with_reducible exact R_cl | (with_reducible apply R_cp; first | with_reducible assumption | with_reducible exact R_cl) | (with_reducible apply wR.mi <;> with_reducible assumption) | omega | decide) (by first | with_reducible assumption | with_reducible exact R_cl | (with_reducible apply R_cp; first | with_reducible assumption | with_reducible exact R_cl) | (with_reducible apply wR.mi <;> with_reducible assumption) | omega | decide)
          have h10r := h10.2
          with_reducible refine v_owe h10.1 ?_
          replace h10 := h10.2
          generalize F_WR_store x4 (0 : Int32) t0_1 t0_2 (0 : Int32) t0_4 t0_5 t0_6 t1_0 t2_0 ((F_WR_copy (264 : Int32) (264 : Int32) (p84.2.2.2 : (Nat → Int32)) (p84.1 : (Nat → Int32))) : (Nat → Int32)) = p133 at *
          generalize F_WR_copy (264 : Int32) (264 : Int32) (p84.2.2.2 : (Nat → Int32)) (p84.1 : (Nat → Int32)) = f97 at *
          unfold S_WR_modulo_c86 F_WR_modulo_c86
          refine ⟨trivial, ?_⟩
          (unfold Q_WR_modulo; dsimp only; first | with_reducible assumption | exact hr)
      ·
        rw [if_neg g3, if_neg g3]
        unfold S_WR_modulo_J22 F_WR_modulo_J22
        unfold S_WR_modulo_J39 F_WR_modulo_J39
        have g11 : ¬ ((1 : Int32) ≤ (0 : Int32)) := (by decide)
        rw [if_neg g11, if_neg g11]
        refine ⟨trivial, ?_⟩
        (unfold Q_WR_modulo; dsimp only; first | with_reducible assumption | exact hr)
    ·
      rw [if_neg g2, if_neg g2]
      unfold S_WR_modulo_J22 F_WR_modulo_J22
      unfold S_WR_modulo_J39 F_WR_modulo_J39
      have g12 : ¬ ((1 : Int32) ≤ (0 : Int32)) := (by decide)
      rw [if_neg g12, if_neg g12]
      refine ⟨trivial, ?_⟩
      (unfold Q_WR_modulo; dsimp only; first | with_reducible assumption | exact hr)
  ·
    rw [if_neg g1, if_neg g1]
    unfold S_WR_modulo_J22 F_WR_modulo_J22
    unfold S_WR_modulo_J39 F_WR_modulo_J39
    have g13 : ¬ ((1 : Int32) ≤ (0 : Int32)) := (by decide)
    rw [if_neg g13, if_neg g13]
    refine ⟨trivial, ?_⟩
    (unfold Q_WR_modulo; dsimp only; first | with_reducible assumption | exact hr)
