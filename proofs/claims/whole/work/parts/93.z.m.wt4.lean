/-! WholeRows: inverse, powerModulo, limb, combine -/
theorem w_one {t0_0 t0_1 t0_2 t0_3 t0_4 t0_5 t0_6 : Int32} {f : Nat → Int32} : wO (F_WR_setOne 264 t0_0 t0_1 t0_2 t0_3 t0_4 t0_5 t0_6 f) 264 := R_setOne.2.1
theorem w_cpL {f g : Nat → Int32} (h : wN f) : wL (wV (F_WR_copy 264 264 f g) 264) (65536 ^ 263) := by
  have e : wV (F_WR_copy 264 264 f g) 264 = wV f 264 := (R_copy4 ⟨h.1, rfl⟩).2
  show _ < _
  rw [e]
  exact h.2.2
theorem T_WR_inverts {t0_0 : Int32} {t0_1 : Int32} {t0_2 : Int32} {t0_3 : Int32} {t0_4 : Int32} {t0_5 : Int32} {t0_6 : Int32} {t1_0 : (Nat → Int32)} {t2_0 : (Nat → Int32)} {t3_0 : (Nat → Int32)} {t4_0 : (Nat → Int32)} {t5_0 : (Nat → Int32)} {t6_0 : (Nat → Int32)} {t7_0 : (Nat → Int32)} {t8_0 : (Nat → Int32)} {t9_0 : (Nat → Int32)} {t10_0 : (Nat → Int32)} (hN0 : wN t10_0) (h6 : wO t6_0 264) : (S_WR_inverts t0_0 t0_1 t0_2 t0_3 t0_4 t0_5 t0_6 t1_0 t2_0 t3_0 t4_0 t5_0 t6_0 t7_0 t8_0 t9_0 t10_0) ∧ Q_WR_inverts (F_WR_inverts t0_0 t0_1 t0_2 t0_3 t0_4 t0_5 t0_6 t1_0 t2_0 t3_0 t4_0 t5_0 t6_0 t7_0 t8_0 t9_0 t10_0) := by
  unfold S_WR_inverts F_WR_inverts
  have h1 := R_setOne  (t0_0 := t0_0) (t0_1 := t0_1) (t0_2 := t0_2) (t0_3 := t0_3) (t0_4 := t0_4) (t0_5 := t0_5) (t0_6 := t0_6) (f := t8_0) 
  have h1k := h1.2.1
  with_reducible refine v_owe h1.1 ?_
  exact v_invL hN0 hN0.1 1000000 _ _ _ _ _ _ _ _ _ _ _ _ _ _ _ _ h6 (R_cp hN0.1) w_one R_cl (w_cpL hN0) (w_eucB h6 (R_cp hN0.1))
def Q_WR_inverse (p : Int32 × Int32 × Int32 × Int32 × Int32 × Int32 × Int32 × (Nat → Int32) × (Nat → Int32) × (Nat → Int32) × (Nat → Int32) × (Nat → Int32) × (Nat → Int32) × (Nat → Int32) × (Nat → Int32) × (Nat → Int32) × (Nat → Int32) × (Nat → Int32) × (Nat → Int32)) : Prop := wR p.2.2.2.2.2.2.2.1 p.2.2.2.2.2.2.2.2.1
theorem T_WR_inverse {x2 : Int32} {x3 : Int32} {x4 : Int32} {t0_0 : Int32} {t0_1 : Int32} {t0_2 : Int32} {t0_3 : Int32} {t0_4 : Int32} {t0_5 : Int32} {t0_6 : Int32} {t1_0 : (Nat → Int32)} {t2_0 : (Nat → Int32)} {t3_0 : (Nat → Int32)} {t4_0 : (Nat → Int32)} {t5_0 : (Nat → Int32)} {t6_0 : (Nat → Int32)} {t7_0 : (Nat → Int32)} {t8_0 : (Nat → Int32)} {t9_0 : (Nat → Int32)} {t10_0 : (Nat → Int32)} {t11_0 : (Nat → Int32)} {t12_0 : (Nat → Int32)} (hr : wR t1_0 t2_0) : (S_WR_inverse x2 x3 x4 t0_0 t0_1 t0_2 t0_3 t0_4 t0_5 t0_6 t1_0 t2_0 t3_0 t4_0 t5_0 t6_0 t7_0 t8_0 t9_0 t10_0 t11_0 t12_0) ∧ Q_WR_inverse (F_WR_inverse x2 x3 x4 t0_0 t0_1 t0_2 t0_3 t0_4 t0_5 t0_6 t1_0 t2_0 t3_0 t4_0 t5_0 t6_0 t7_0 t8_0 t9_0 t10_0 t11_0 t12_0) := by
  have e0 : (0 : Int32).toInt = 0 := rfl
  unfold S_WR_inverse F_WR_inverse
  by_cases g1 : ((F_WR_no x2) : Int32) = (0 : Int32)
  ·
    rw [if_pos g1, if_pos g1]
    have g1r := w_no g1
    by_cases g2 : ((F_WR_no x3) : Int32) = (0 : Int32)
    ·
      rw [if_pos g2, if_pos g2]
      have g2r := w_no g2
      by_cases g3 : ((F_WR_no x4) : Int32) = (0 : Int32)
      ·
        rw [if_pos g3, if_pos g3]
        have g3r := w_no g3
        have h4 := R_isAbove0  (x2 := x3) (t0_0 := t0_0) (t0_1 := t0_1) (t0_2 := t0_2) (t0_3 := t0_3) (t0_4 := t0_4) (t0_5 := t0_5) (t0_6 := t0_6) (t1_0 := t1_0) (t2_0 := t2_0) (by first | with_reducible assumption | with_reducible exact R_cl | (with_reducible apply R_cp; first | with_reducible assumption | with_reducible exact R_cl) | (with_reducible refine wO_upd ?_ w_m16; with_reducible assumption) | (with_reducible apply wR.mi <;> with_reducible assumption)  | omega | decide) (by first | with_reducible assumption | with_reducible exact R_cl | (with_reducible apply R_cp; first | with_reducible assumption | with_reducible exact R_cl) | (with_reducible refine wO_upd ?_ w_m16; with_reducible assumption) | (with_reducible apply wR.mi <;> with_reducible assumption)  | omega | decide)
        have h4a := h4.2
        with_reducible refine v_owe h4.1 ?_
        by_cases g5 : ((F_WR_isAbove0 x3 t0_0 t0_1 t0_2 t0_3 t0_4 t0_5 t0_6 t1_0 t2_0) : Int32) = (0 : Int32)
        ·
          rw [if_pos g5, if_pos g5]
          unfold S_WR_inverse_J39 F_WR_inverse_J39
          have g6 : ¬ ((2 : Int32) ≤ (0 : Int32)) := (by decide)
          rw [if_neg g6, if_neg g6]
          refine ⟨trivial, ?_⟩
          (unfold Q_WR_inverse; dsimp only; first | with_reducible assumption | exact hr)
        ·
          rw [if_neg g5, if_neg g5]
          have g5z := w_ab g5 (by with_reducible assumption)
          unfold S_WR_inverse_J39 F_WR_inverse_J39
          have g7 : ((0 : Int32) ≤ (0 : Int32)) := (by decide)
          rw [if_pos g7, if_pos g7]
          have h8 := R_take  (x2 := x3) (t0_0 := (0 : Int32)) (t0_1 := t0_1) (t0_2 := t0_2) (t0_3 := t0_3) (t0_4 := t0_4) (t0_5 := t0_5) (t0_6 := t0_6) (t1_0 := t1_0) (t2_0 := t12_0) (by first | with_reducible assumption | with_reducible exact R_cl | (with_reducible apply R_cp; first | with_reducible assumption | with_reducible exact R_cl) | (with_reducible refine wO_upd ?_ w_m16; with_reducible assumption) | (with_reducible apply wR.mi <;> with_reducible assumption)  | omega | decide) (wR.o (by with_reducible assumption))
          have h8k := h8.2.1
          have h8v := h8.2
          with_reducible refine v_owe h8.1 ?_
          have h9 := R_reduce  (x2 := x2) (t0_0 := (0 : Int32)) (t0_1 := t0_1) (t0_2 := t0_2) (t0_3 := t0_3) (t0_4 := t0_4) (t0_5 := t0_5) (t0_6 := t0_6) (t1_0 := t1_0) (t2_0 := t2_0) (t3_0 := t3_0) (t4_0 := t6_0) (t5_0 := t7_0) (t6_0 := ((F_WR_take x3 (264 : Int32) (0 : Int32) t0_1 t0_2 t0_3 t0_4 t0_5 t0_6 t1_0 t12_0) : (Nat → Int32))) (t7_0 := t8_0) (by first | with_reducible assumption | with_reducible exact R_cl | (with_reducible apply R_cp; first | with_reducible assumption | with_reducible exact R_cl) | (with_reducible refine wO_upd ?_ w_m16; with_reducible assumption) | (with_reducible apply wR.mi <;> with_reducible assumption)  | omega | decide) (by first | with_reducible assumption | with_reducible exact R_cl | (with_reducible apply R_cp; first | with_reducible assumption | with_reducible exact R_cl) | (with_reducible refine wO_upd ?_ w_m16; with_reducible assumption) | (with_reducible apply wR.mi <;> with_reducible assumption)  | omega | decide) (by first | with_reducible assumption | (refine w_reg ?_ (wR.o (by with_reducible assumption)) (by with_reducible assumption) ?_ <;> with_reducible assumption))
          have h9k := h9.2
          with_reducible refine v_owe h9.1 ?_
          replace h9 := h9.2
          generalize F_WR_reduce x2 (264 : Int32) (0 : Int32) t0_1 t0_2 t0_3 t0_4 t0_5 t0_6 t1_0 t2_0 t3_0 t6_0 t7_0 ((F_WR_take x3 (264 : Int32) (0 : Int32) t0_1 t0_2 t0_3 t0_4 t0_5 t0_6 t1_0 t12_0) : (Nat → Int32)) t8_0 = p104 at *
          replace h8 := h8.2
          generalize F_WR_take x3 (264 : Int32) (0 : Int32) t0_1 t0_2 t0_3 t0_4 t0_5 t0_6 t1_0 t12_0 = f86 at *
          unfold S_WR_inverse_c65 F_WR_inverse_c65
          have h10 := T_WR_inverts  (t0_0 := (0 : Int32)) (t0_1 := t0_1) (t0_2 := t0_2) (t0_3 := t0_3) (t0_4 := t0_4) (t0_5 := t0_5) (t0_6 := t0_6) (t1_0 := (p104.1 : (Nat → Int32))) (t2_0 := t4_0) (t3_0 := t5_0) (t4_0 := (p104.2.1 : (Nat → Int32))) (t5_0 := (p104.2.2.1 : (Nat → Int32))) (t6_0 := (p104.2.2.2 : (Nat → Int32))) (t7_0 := t9_0) (t8_0 := t10_0) (t9_0 := t11_0) (t10_0 := f86) (by first | with_reducible assumption | (refine w_reg ?_ (wR.o (by with_reducible assumption)) (by with_reducible assumption) ?_ <;> with_reducible assumption)) (by first | with_reducible assumption | with_reducible exact R_cl | (with_reducible apply R_cp; first | with_reducible assumption | with_reducible exact R_cl) | (with_reducible refine wO_upd ?_ w_m16; with_reducible assumption) | (with_reducible apply wR.mi <;> with_reducible assumption)  | omega | decide)
          with_reducible refine v_owe h10.1 ?_
          replace h10 := h10.2
          generalize F_WR_inverts (0 : Int32) t0_1 t0_2 t0_3 t0_4 t0_5 t0_6 (p104.1 : (Nat → Int32)) t4_0 t5_0 (p104.2.1 : (Nat → Int32)) (p104.2.2.1 : (Nat → Int32)) (p104.2.2.2 : (Nat → Int32)) t9_0 t10_0 t11_0 f86 = p163 at *
          unfold Q_WR_inverts at h10
          unfold S_WR_inverse_c69 F_WR_inverse_c69
          by_cases g11 : (p163.1 : Int32) = (0 : Int32)
          ·
            rw [if_pos g11, if_pos g11]
            refine ⟨trivial, ?_⟩
            (unfold Q_WR_inverse; dsimp only; first | with_reducible assumption | exact hr)
          ·
            rw [if_neg g11, if_neg g11]
            have h12 := R_store  (x2 := x4) (t0_0 := (p163.2.1 : Int32)) (t0_1 := (p163.2.2.1 : Int32)) (t0_2 := (p163.2.2.2.1 : Int32)) (t0_3 := (0 : Int32)) (t0_4 := (p163.2.2.2.2.2.1 : Int32)) (t0_5 := (p163.2.2.2.2.2.2.1 : Int32)) (t0_6 := (p163.2.2.2.2.2.2.2.1 : Int32)) (t1_0 := t1_0) (t2_0 := t2_0) (t3_0 := ((F_WR_copy (264 : Int32) (264 : Int32) (p163.2.2.2.2.2.2.2.2.2.2.2.2.2.1 : (Nat → Int32)) (p163.2.2.2.2.2.2.2.2.1 : (Nat → Int32))) : (Nat → Int32))) (by first | with_reducible assumption | with_reducible exact R_cl | (with_reducible apply R_cp; first | with_reducible assumption | with_reducible exact R_cl) | (with_reducible refine wO_upd ?_ w_m16; with_reducible assumption) | (with_reducible apply wR.mi <;> with_reducible assumption)  | omega | decide) (by first | with_reducible assumption | with_reducible exact R_cl | (with_reducible apply R_cp; first | with_reducible assumption | with_reducible exact R_cl) | (with_reducible refine wO_upd ?_ w_m16; with_reducible assumption) | (with_reducible apply wR.mi <;> with_reducible assumption)  | omega | decide) (by first | with_reducible assumption | with_reducible exact R_cl | (with_reducible apply R_cp; first | with_reducible assumption | with_reducible exact R_cl) | (with_reducible refine wO_upd ?_ w_m16; with_reducible assumption) | (with_reducible apply wR.mi <;> with_reducible assumption)  | omega | decide)
            have h12r := h12.2
            with_reducible refine v_owe h12.1 ?_
            have h13 := R_cpK  (f := (p163.2.2.2.2.2.2.2.2.2.2.2.2.2.1 : (Nat → Int32))) (g := (p163.2.2.2.2.2.2.2.2.1 : (Nat → Int32))) (by first | with_reducible assumption | with_reducible exact R_cl | (with_reducible apply R_cp; first | with_reducible assumption | with_reducible exact R_cl) | (with_reducible refine wO_upd ?_ w_m16; with_reducible assumption) | (with_reducible apply wR.mi <;> with_reducible assumption)  | omega | decide)
            have h13k := h13.1
            have h13v := h13
            replace h12 := h12.2
            generalize F_WR_store x4 (p163.2.1 : Int32) (p163.2.2.1 : Int32) (p163.2.2.2.1 : Int32) (0 : Int32) (p163.2.2.2.2.2.1 : Int32) (p163.2.2.2.2.2.2.1 : Int32) (p163.2.2.2.2.2.2.2.1 : Int32) t1_0 t2_0 ((F_WR_copy (264 : Int32) (264 : Int32) (p163.2.2.2.2.2.2.2.2.2.2.2.2.2.1 : (Nat → Int32)) (p163.2.2.2.2.2.2.2.2.1 : (Nat → Int32))) : (Nat → Int32)) = p227 at *
            generalize F_WR_copy (264 : Int32) (264 : Int32) (p163.2.2.2.2.2.2.2.2.2.2.2.2.2.1 : (Nat → Int32)) (p163.2.2.2.2.2.2.2.2.1 : (Nat → Int32)) = f191 at *
            unfold S_WR_inverse_c99 F_WR_inverse_c99
            refine ⟨trivial, ?_⟩
            (unfold Q_WR_inverse; dsimp only; first | with_reducible assumption | exact hr)
      ·
        rw [if_neg g3, if_neg g3]
        unfold S_WR_inverse_J22 F_WR_inverse_J22
        unfold S_WR_inverse_J39 F_WR_inverse_J39
        have g14 : ¬ ((1 : Int32) ≤ (0 : Int32)) := (by decide)
        rw [if_neg g14, if_neg g14]
        refine ⟨trivial, ?_⟩
        (unfold Q_WR_inverse; dsimp only; first | with_reducible assumption | exact hr)
    ·
      rw [if_neg g2, if_neg g2]
      unfold S_WR_inverse_J22 F_WR_inverse_J22
      unfold S_WR_inverse_J39 F_WR_inverse_J39
      have g15 : ¬ ((1 : Int32) ≤ (0 : Int32)) := (by decide)
      rw [if_neg g15, if_neg g15]
      refine ⟨trivial, ?_⟩
      (unfold Q_WR_inverse; dsimp only; first | with_reducible assumption | exact hr)
  ·
    rw [if_neg g1, if_neg g1]
    unfold S_WR_inverse_J22 F_WR_inverse_J22
    unfold S_WR_inverse_J39 F_WR_inverse_J39
    have g16 : ¬ ((1 : Int32) ≤ (0 : Int32)) := (by decide)
    rw [if_neg g16, if_neg g16]
    refine ⟨trivial, ?_⟩
    (unfold Q_WR_inverse; dsimp only; first | with_reducible assumption | exact hr)
def Q_WR_powerModulo (p : Int32 × Int32 × Int32 × Int32 × Int32 × Int32 × Int32 × (Nat → Int32) × (Nat → Int32) × (Nat → Int32) × (Nat → Int32) × (Nat → Int32) × (Nat → Int32) × (Nat → Int32) × (Nat → Int32) × (Nat → Int32) × (Nat → Int32) × (Nat → Int32) × (Nat → Int32)) : Prop := wR p.2.2.2.2.2.2.2.1 p.2.2.2.2.2.2.2.2.1
theorem v_pm1 {K_F_WR_powerModulo_L134 : Int32 → (Int32 × Int32 × Int32 × Int32 × Int32 × Int32 × Int32 × (Nat → Int32) × (Nat → Int32) × (Nat → Int32) × (Nat → Int32) × (Nat → Int32) × (Nat → Int32) × (Nat → Int32) × (Nat → Int32) × (Nat → Int32) × (Nat → Int32) × (Nat → Int32) × (Nat → Int32))} {x2 : Int32} {x3 : Int32} {x4 : Int32} {x5 : Int32} {t0_0 : Int32} {t0_1 : Int32} {t0_2 : Int32} {t0_3 : Int32} {t0_4 : Int32} {t0_5 : Int32} {t0_6 : Int32} {t1_0 : (Nat → Int32)} {t2_0 : (Nat → Int32)} {t3_0 : (Nat → Int32)} {t4_0 : (Nat → Int32)} {t5_0 : (Nat → Int32)} {t6_0 : (Nat → Int32)} {t7_0 : (Nat → Int32)} {t8_0 : (Nat → Int32)} {t9_0 : (Nat → Int32)} {t10_0 : (Nat → Int32)} {t11_0 : (Nat → Int32)} {t12_0 : (Nat → Int32)} {lx57 : Int32} {f86 : (Nat → Int32)} {p104 : ((Nat → Int32) × (Nat → Int32) × (Nat → Int32) × (Nat → Int32))} {lx119 : Int32} {lx120 : Int32} {lx121 : Int32} {lx122 : Int32} {lx123 : Int32} {lx124 : Int32} {lx125 : Int32} {lx126 : (Nat → Int32)} {lx127 : (Nat → Int32)} {lx128 : (Nat → Int32)} {lx129 : (Nat → Int32)} {lx130 : (Nat → Int32)} {lx131 : (Nat → Int32)} {lx132 : (Nat → Int32)} {lx133 : (Nat → Int32)} {lx134 : (Nat → Int32)} {f172 : (Nat → Int32)} {p186 : ((Nat → Int32) × (Nat → Int32))} {f180 : (Nat → Int32)} {f182 : (Nat → Int32)} {f197 : (Nat → Int32)} {lx203 : Int32} {K_S_WR_powerModulo_L134 : Int32 → Prop} (hr : wR t1_0 t2_0)(hx3 : 0 ≤ x3.toInt ∧ x3.toInt ≤ 10)(hx5 : 0 ≤ x5.toInt ∧ x5.toInt ≤ 10)(hN : wN f86) (h131 : wO lx131 264) : ∀ (n : Nat) (lx235 : Int32) (lx236 : (Nat → Int32)) (lx237 : (Nat → Int32)) (lx238 : (Nat → Int32)) (lx239 : (Nat → Int32)) (lx240 : (Nat → Int32)), (-1 ≤ lx235.toInt ∧ lx235.toInt ≤ 2047) → (lx235.toInt + 1 < (n : Int)) → (wO lx239 264) → (S_WR_powerModulo_L182 K_S_WR_powerModulo_L134 x2 x3 x4 x5 t0_0 t0_1 t0_2 t0_3 t0_4 t0_5 t0_6 t1_0 t2_0 t3_0 t4_0 t5_0 t6_0 t7_0 t8_0 t9_0 t10_0 t11_0 t12_0 lx57 f86 p104 lx119 lx120 lx121 lx122 lx123 lx124 lx125 lx126 lx127 lx128 lx129 lx130 lx131 lx132 lx133 lx134 f172 p186 f180 f182 f197 lx203 n lx235 lx236 lx237 lx238 lx239 lx240) ∧ Q_WR_powerModulo (F_WR_powerModulo_L182 K_F_WR_powerModulo_L134 x2 x3 x4 x5 t0_0 t0_1 t0_2 t0_3 t0_4 t0_5 t0_6 t1_0 t2_0 t3_0 t4_0 t5_0 t6_0 t7_0 t8_0 t9_0 t10_0 t11_0 t12_0 lx57 f86 p104 lx119 lx120 lx121 lx122 lx123 lx124 lx125 lx126 lx127 lx128 lx129 lx130 lx131 lx132 lx133 lx134 f172 p186 f180 f182 f197 lx203 n lx235 lx236 lx237 lx238 lx239 lx240) := by
  intro n
  induction n with
  | zero => intro lx235 lx236 lx237 lx238 lx239 lx240 h0 hm ho; exact absurd (show False by omega) id
  | succ n ih =>
    intro lx235 lx236 lx237 lx238 lx239 lx240 h0 hm ho
    have e0 : (0 : Int32).toInt = 0 := rfl
    rw [S_WR_powerModulo_L182.eq_2, F_WR_powerModulo_L182.eq_2]
    by_cases g1 : lx235 < (0 : Int32)
    ·
      rw [if_pos g1, if_pos g1]
      have g1i : lx235.toInt < 0 := q_ltI g1
      have h2 := R_store  (x2 := x5) (t0_0 := lx119) (t0_1 := lx120) (t0_2 := lx121) (t0_3 := (0 : Int32)) (t0_4 := lx123) (t0_5 := lx124) (t0_6 := lx125) (t1_0 := t1_0) (t2_0 := t2_0) (t3_0 := ((F_WR_copy (264 : Int32) (264 : Int32) lx239 lx126) : (Nat → Int32))) (by first | with_reducible assumption | with_reducible exact R_cl | (with_reducible apply R_cp; first | with_reducible assumption | with_reducible exact R_cl) | (with_reducible refine wO_upd ?_ w_m16; with_reducible assumption) | (with_reducible apply wR.mi <;> with_reducible assumption)  | omega | decide) (by first | with_reducible assumption | with_reducible exact R_cl | (with_reducible apply R_cp; first | with_reducible assumption | with_reducible exact R_cl) | (with_reducible refine wO_upd ?_ w_m16; with_reducible assumption) | (with_reducible apply wR.mi <;> with_reducible assumption)  | omega | decide) (by first | with_reducible assumption | with_reducible exact R_cl | (with_reducible apply R_cp; first | with_reducible assumption | with_reducible exact R_cl) | (with_reducible refine wO_upd ?_ w_m16; with_reducible assumption) | (with_reducible apply wR.mi <;> with_reducible assumption)  | omega | decide)
      have h2r := h2.2
      with_reducible refine v_owe h2.1 ?_
      have h3 := R_cpK  (f := lx239) (g := lx126) (by first | with_reducible assumption | with_reducible exact R_cl | (with_reducible apply R_cp; first | with_reducible assumption | with_reducible exact R_cl) | (with_reducible refine wO_upd ?_ w_m16; with_reducible assumption) | (with_reducible apply wR.mi <;> with_reducible assumption)  | omega | decide)
      have h3k := h3.1
      have h3v := h3
      replace h2 := h2.2
      generalize F_WR_store x5 lx119 lx120 lx121 (0 : Int32) lx123 lx124 lx125 t1_0 t2_0 ((F_WR_copy (264 : Int32) (264 : Int32) lx239 lx126) : (Nat → Int32)) = p303 at *
      generalize F_WR_copy (264 : Int32) (264 : Int32) lx239 lx126 = f267 at *
      unfold S_WR_powerModulo_c318 F_WR_powerModulo_c318
      refine ⟨trivial, ?_⟩
      (unfold Q_WR_powerModulo; dsimp only; first | with_reducible assumption | exact hr)
    ·
      rw [if_neg g1, if_neg g1]
      have g1i : 0 ≤ lx235.toInt := q_nltI g1
      have h4 := R_mul4b  (t0_0 := lx119) (t0_1 := lx120) (t0_2 := lx121) (t0_3 := lx122) (t0_4 := lx123) (t0_5 := lx124) (t0_6 := lx125) (t1_0 := lx236) (t2_0 := lx239) (t3_0 := lx240) (by first | with_reducible assumption | with_reducible exact R_cl | (with_reducible apply R_cp; first | with_reducible assumption | with_reducible exact R_cl) | (with_reducible refine wO_upd ?_ w_m16; with_reducible assumption) | (with_reducible apply wR.mi <;> with_reducible assumption)  | omega | decide)
      have h4k := h4.2
      with_reducible refine v_owe h4.1 ?_
      replace h4 := h4.2
      generalize F_WR_multiplyRows_b (264 : Int32) (264 : Int32) lx119 lx120 lx121 lx122 lx123 lx124 lx125 lx236 lx239 lx240 = p329 at *
      unfold S_WR_powerModulo_c200 F_WR_powerModulo_c200
      have h5 := R_div4  (t0_0 := lx119) (t0_1 := lx120) (t0_2 := lx121) (t0_3 := lx122) (t0_4 := lx123) (t0_5 := lx124) (t0_6 := lx125) (t1_0 := lx237) (t2_0 := lx238) (t3_0 := (p329.2 : (Nat → Int32))) (t4_0 := f86) (by first | with_reducible assumption | with_reducible exact R_cl | (with_reducible apply R_cp; first | with_reducible assumption | with_reducible exact R_cl) | (with_reducible refine wO_upd ?_ w_m16; with_reducible assumption) | (with_reducible apply wR.mi <;> with_reducible assumption)  | omega | decide) (by first | with_reducible assumption | (refine w_reg ?_ (wR.o (by with_reducible assumption)) (by with_reducible assumption) ?_ <;> with_reducible assumption))
      have h5k := h5.2.1
      have h5q := h5.2.2.1
      have h5d := h5.2
      with_reducible refine v_owe h5.1 ?_
      replace h5 := h5.2
      generalize F_WR_divideRows (264 : Int32) (264 : Int32) lx119 lx120 lx121 lx122 lx123 lx124 lx125 lx237 lx238 (p329.2 : (Nat → Int32)) f86 = p347 at *
      unfold S_WR_powerModulo_c212 F_WR_powerModulo_c212
      refine v_cons (by first | exact (w_ixd (by with_reducible assumption) (by omega)).1 | exact (w_ixd (by with_reducible assumption) (by omega)).2) ?_
      by_cases g6 : (((t1_0 ((128 * x3 : Int32) + (lx235 / 16 : Int32) : Int32).toNatClampNeg : Int32) >>> ((lx235 - lx235 / 16 * 16 : Int32) &&& 31) : Int32) &&& 1 : Int32) = (1 : Int32)
      ·
        rw [if_pos g6, if_pos g6]
        have h7 := R_mul4  (t0_0 := lx119) (t0_1 := lx120) (t0_2 := lx121) (t0_3 := lx122) (t0_4 := lx123) (t0_5 := lx124) (t0_6 := lx125) (t1_0 := (p329.1 : (Nat → Int32))) (t2_0 := ((F_WR_copy (264 : Int32) (264 : Int32) (p347.1 : (Nat → Int32)) lx239) : (Nat → Int32))) (t3_0 := lx131) (t4_0 := (p329.2 : (Nat → Int32))) (by first | with_reducible assumption | with_reducible exact R_cl | (with_reducible apply R_cp; first | with_reducible assumption | with_reducible exact R_cl) | (with_reducible refine wO_upd ?_ w_m16; with_reducible assumption) | (with_reducible apply wR.mi <;> with_reducible assumption)  | omega | decide) (by first | with_reducible assumption | with_reducible exact R_cl | (with_reducible apply R_cp; first | with_reducible assumption | with_reducible exact R_cl) | (with_reducible refine wO_upd ?_ w_m16; with_reducible assumption) | (with_reducible apply wR.mi <;> with_reducible assumption)  | omega | decide)
        have h7k := h7.2
        with_reducible refine v_owe h7.1 ?_
        have h8 := R_cpK  (f := (p347.1 : (Nat → Int32))) (g := lx239) (by first | with_reducible assumption | with_reducible exact R_cl | (with_reducible apply R_cp; first | with_reducible assumption | with_reducible exact R_cl) | (with_reducible refine wO_upd ?_ w_m16; with_reducible assumption) | (with_reducible apply wR.mi <;> with_reducible assumption)  | omega | decide)
        have h8k := h8.1
        have h8v := h8
        replace h7 := h7.2
        generalize F_WR_multiplyRows (264 : Int32) (264 : Int32) (264 : Int32) lx119 lx120 lx121 lx122 lx123 lx124 lx125 (p329.1 : (Nat → Int32)) ((F_WR_copy (264 : Int32) (264 : Int32) (p347.1 : (Nat → Int32)) lx239) : (Nat → Int32)) lx131 (p329.2 : (Nat → Int32)) = p398 at *
        generalize F_WR_copy (264 : Int32) (264 : Int32) (p347.1 : (Nat → Int32)) lx239 = f358 at *
        unfold S_WR_powerModulo_c267 F_WR_powerModulo_c267
        have h9 := R_div4  (t0_0 := lx119) (t0_1 := lx120) (t0_2 := lx121) (t0_3 := lx122) (t0_4 := lx123) (t0_5 := lx124) (t0_6 := lx125) (t1_0 := (p347.1 : (Nat → Int32))) (t2_0 := (p347.2 : (Nat → Int32))) (t3_0 := (p398.2 : (Nat → Int32))) (t4_0 := f86) (by first | with_reducible assumption | with_reducible exact R_cl | (with_reducible apply R_cp; first | with_reducible assumption | with_reducible exact R_cl) | (with_reducible refine wO_upd ?_ w_m16; with_reducible assumption) | (with_reducible apply wR.mi <;> with_reducible assumption)  | omega | decide) (by first | with_reducible assumption | (refine w_reg ?_ (wR.o (by with_reducible assumption)) (by with_reducible assumption) ?_ <;> with_reducible assumption))
        have h9k := h9.2.1
        have h9q := h9.2.2.1
        have h9d := h9.2
        with_reducible refine v_owe h9.1 ?_
        replace h9 := h9.2
        generalize F_WR_divideRows (264 : Int32) (264 : Int32) lx119 lx120 lx121 lx122 lx123 lx124 lx125 (p347.1 : (Nat → Int32)) (p347.2 : (Nat → Int32)) (p398.2 : (Nat → Int32)) f86 = p416 at *
        unfold S_WR_powerModulo_c279 F_WR_powerModulo_c279
        obtain ⟨a10, e11⟩ := q_nm (lx235 + (-1) : Int32)
        rw [e11]
        have a10i : a10.toInt = lx235.toInt + (-1) := by rw [← e11]; exact q_addI (x := lx235.toInt) (y := (-1)) rfl (by decide) (by omega) (by omega)
        exact ih _ _ _ _ _ _ (by first | with_reducible assumption | with_reducible exact R_cl | (with_reducible apply R_cp; first | with_reducible assumption | with_reducible exact R_cl) | (with_reducible refine wO_upd ?_ w_m16; with_reducible assumption) | (with_reducible apply wR.mi <;> with_reducible assumption)  | omega | decide) (by first | with_reducible assumption | with_reducible exact R_cl | (with_reducible apply R_cp; first | with_reducible assumption | with_reducible exact R_cl) | (with_reducible refine wO_upd ?_ w_m16; with_reducible assumption) | (with_reducible apply wR.mi <;> with_reducible assumption)  | omega | decide) (by first | with_reducible assumption | with_reducible exact R_cl | (with_reducible apply R_cp; first | with_reducible assumption | with_reducible exact R_cl) | (with_reducible refine wO_upd ?_ w_m16; with_reducible assumption) | (with_reducible apply wR.mi <;> with_reducible assumption)  | omega | decide)
      ·
        rw [if_neg g6, if_neg g6]
        obtain ⟨a12, e13⟩ := q_nm (lx235 + (-1) : Int32)
        rw [e13]
        have a12i : a12.toInt = lx235.toInt + (-1) := by rw [← e13]; exact q_addI (x := lx235.toInt) (y := (-1)) rfl (by decide) (by omega) (by omega)
        exact ih _ _ _ _ _ _ (by first | with_reducible assumption | with_reducible exact R_cl | (with_reducible apply R_cp; first | with_reducible assumption | with_reducible exact R_cl) | (with_reducible refine wO_upd ?_ w_m16; with_reducible assumption) | (with_reducible apply wR.mi <;> with_reducible assumption)  | omega | decide) (by first | with_reducible assumption | with_reducible exact R_cl | (with_reducible apply R_cp; first | with_reducible assumption | with_reducible exact R_cl) | (with_reducible refine wO_upd ?_ w_m16; with_reducible assumption) | (with_reducible apply wR.mi <;> with_reducible assumption)  | omega | decide) (by first | with_reducible assumption | with_reducible exact R_cl | (with_reducible apply R_cp; first | with_reducible assumption | with_reducible exact R_cl) | (with_reducible refine wO_upd ?_ w_m16; with_reducible assumption) | (with_reducible apply wR.mi <;> with_reducible assumption)  | omega | decide)
theorem v_pm2 {x2 : Int32} {x3 : Int32} {x4 : Int32} {x5 : Int32} {t0_0 : Int32} {t0_1 : Int32} {t0_2 : Int32} {t0_3 : Int32} {t0_4 : Int32} {t0_5 : Int32} {t0_6 : Int32} {t1_0 : (Nat → Int32)} {t2_0 : (Nat → Int32)} {t3_0 : (Nat → Int32)} {t4_0 : (Nat → Int32)} {t5_0 : (Nat → Int32)} {t6_0 : (Nat → Int32)} {t7_0 : (Nat → Int32)} {t8_0 : (Nat → Int32)} {t9_0 : (Nat → Int32)} {t10_0 : (Nat → Int32)} {t11_0 : (Nat → Int32)} {t12_0 : (Nat → Int32)} {lx57 : Int32} {f86 : (Nat → Int32)} {p104 : ((Nat → Int32) × (Nat → Int32) × (Nat → Int32) × (Nat → Int32))} {lx119 : Int32} {lx120 : Int32} {lx121 : Int32} {lx122 : Int32} {lx123 : Int32} {lx124 : Int32} {lx125 : Int32} {lx126 : (Nat → Int32)} {lx127 : (Nat → Int32)} {lx128 : (Nat → Int32)} {lx129 : (Nat → Int32)} {lx130 : (Nat → Int32)} {lx131 : (Nat → Int32)} {lx132 : (Nat → Int32)} {lx133 : (Nat → Int32)} {lx134 : (Nat → Int32)} {f172 : (Nat → Int32)} {p186 : ((Nat → Int32) × (Nat → Int32))} {f180 : (Nat → Int32)} {f182 : (Nat → Int32)} {f197 : (Nat → Int32)} (hr : wR t1_0 t2_0)(hx3 : 0 ≤ x3.toInt ∧ x3.toInt ≤ 10)(hx5 : 0 ≤ x5.toInt ∧ x5.toInt ≤ 10)(hN : wN f86) (h131 : wO lx131 264)(hf : wO f197 264) : ∀ (n : Nat) (lx203 : Int32), (0 ≤ lx203.toInt ∧ lx203.toInt ≤ 2048) → (lx203.toInt < (n : Int)) → (S_WR_powerModulo_L134 x2 x3 x4 x5 t0_0 t0_1 t0_2 t0_3 t0_4 t0_5 t0_6 t1_0 t2_0 t3_0 t4_0 t5_0 t6_0 t7_0 t8_0 t9_0 t10_0 t11_0 t12_0 lx57 f86 p104 lx119 lx120 lx121 lx122 lx123 lx124 lx125 lx126 lx127 lx128 lx129 lx130 lx131 lx132 lx133 lx134 f172 p186 f180 f182 f197 n lx203) ∧ Q_WR_powerModulo (F_WR_powerModulo_L134 x2 x3 x4 x5 t0_0 t0_1 t0_2 t0_3 t0_4 t0_5 t0_6 t1_0 t2_0 t3_0 t4_0 t5_0 t6_0 t7_0 t8_0 t9_0 t10_0 t11_0 t12_0 lx57 f86 p104 lx119 lx120 lx121 lx122 lx123 lx124 lx125 lx126 lx127 lx128 lx129 lx130 lx131 lx132 lx133 lx134 f172 p186 f180 f182 f197 n lx203) := by
  intro n
  induction n with
  | zero => intro lx203 h0 hm; exact absurd (show False by omega) id
  | succ n ih =>
    intro lx203 h0 hm
    have e0 : (0 : Int32).toInt = 0 := rfl
    rw [S_WR_powerModulo_L134.eq_2, F_WR_powerModulo_L134.eq_2]
    by_cases g1 : lx203 ≤ (0 : Int32)
    ·
      rw [if_pos g1, if_pos g1]
      have g1i : lx203.toInt ≤ 0 := q_leI g1
      unfold S_WR_powerModulo_J176 F_WR_powerModulo_J176
      have ez : (lx203 - 1 : Int32).toInt = lx203.toInt - 1 := q_subI (y := 1) rfl (by decide) (by omega) (by omega); exact v_pm1 hr hx3 hx5 hN h131 _ _ _ _ _ _ _ ⟨by omega, by omega⟩ (by omega) hf
    ·
      rw [if_neg g1, if_neg g1]
      have g1i : 0 < lx203.toInt := q_nleI g1
      obtain ⟨a2, e3⟩ := q_nm (lx203 - 1 : Int32)
      rw [e3]
      have a2i : a2.toInt = lx203.toInt - 1 := by rw [← e3]; exact q_subI (x := lx203.toInt) (y := 1) rfl (by decide) (by omega) (by omega)
      refine v_cons (by first | exact (w_ixd (by with_reducible assumption) (by omega)).1 | exact (w_ixd (by with_reducible assumption) (by omega)).2) ?_
      refine v_cons (by first | exact (w_ixd (by with_reducible assumption) (by omega)).1 | exact (w_ixd (by with_reducible assumption) (by omega)).2) ?_
      by_cases g4 : (((t1_0 ((128 * x3 : Int32) + (a2 / 16 : Int32) : Int32).toNatClampNeg : Int32) >>> ((a2 - a2 / 16 * 16 : Int32) &&& 31) : Int32) &&& 1 : Int32) = (0 : Int32)
      ·
        rw [if_pos g4, if_pos g4]
        obtain ⟨a5, e6⟩ := q_nm (lx203 + (-1) : Int32)
        rw [e6]
        have a5i : a5.toInt = lx203.toInt + (-1) := by rw [← e6]; exact q_addI (x := lx203.toInt) (y := (-1)) rfl (by decide) (by omega) (by omega)
        exact ih _ (by first | with_reducible assumption | with_reducible exact R_cl | (with_reducible apply R_cp; first | with_reducible assumption | with_reducible exact R_cl) | (with_reducible refine wO_upd ?_ w_m16; with_reducible assumption) | (with_reducible apply wR.mi <;> with_reducible assumption)  | omega | decide) (by first | with_reducible assumption | with_reducible exact R_cl | (with_reducible apply R_cp; first | with_reducible assumption | with_reducible exact R_cl) | (with_reducible refine wO_upd ?_ w_m16; with_reducible assumption) | (with_reducible apply wR.mi <;> with_reducible assumption)  | omega | decide)
      ·
        rw [if_neg g4, if_neg g4]
        unfold S_WR_powerModulo_J176 F_WR_powerModulo_J176
        have ez : (lx203 - 1 : Int32).toInt = lx203.toInt - 1 := q_subI (y := 1) rfl (by decide) (by omega) (by omega); exact v_pm1 hr hx3 hx5 hN h131 _ _ _ _ _ _ _ ⟨by omega, by omega⟩ (by omega) hf
theorem T_WR_powerModulo {x2 : Int32} {x3 : Int32} {x4 : Int32} {x5 : Int32} {t0_0 : Int32} {t0_1 : Int32} {t0_2 : Int32} {t0_3 : Int32} {t0_4 : Int32} {t0_5 : Int32} {t0_6 : Int32} {t1_0 : (Nat → Int32)} {t2_0 : (Nat → Int32)} {t3_0 : (Nat → Int32)} {t4_0 : (Nat → Int32)} {t5_0 : (Nat → Int32)} {t6_0 : (Nat → Int32)} {t7_0 : (Nat → Int32)} {t8_0 : (Nat → Int32)} {t9_0 : (Nat → Int32)} {t10_0 : (Nat → Int32)} {t11_0 : (Nat → Int32)} {t12_0 : (Nat → Int32)} (hr : wR t1_0 t2_0) : (S_WR_powerModulo x2 x3 x4 x5 t0_0 t0_1 t0_2 t0_3 t0_4 t0_5 t0_6 t1_0 t2_0 t3_0 t4_0 t5_0 t6_0 t7_0 t8_0 t9_0 t10_0 t11_0 t12_0) ∧ Q_WR_powerModulo (F_WR_powerModulo x2 x3 x4 x5 t0_0 t0_1 t0_2 t0_3 t0_4 t0_5 t0_6 t1_0 t2_0 t3_0 t4_0 t5_0 t6_0 t7_0 t8_0 t9_0 t10_0 t11_0 t12_0) := by
  have e0 : (0 : Int32).toInt = 0 := rfl
  unfold S_WR_powerModulo F_WR_powerModulo
  by_cases g1 : ((F_WR_no x2) : Int32) = (0 : Int32)
  ·
    rw [if_pos g1, if_pos g1]
    have g1r := w_no g1
    by_cases g2 : ((F_WR_no x3) : Int32) = (0 : Int32)
    ·
      rw [if_pos g2, if_pos g2]
      have g2r := w_no g2
      by_cases g3 : ((F_WR_no x4) : Int32) = (0 : Int32)
      ·
        rw [if_pos g3, if_pos g3]
        have g3r := w_no g3
        by_cases g4 : ((F_WR_no x5) : Int32) = (0 : Int32)
        ·
          rw [if_pos g4, if_pos g4]
          have g4r := w_no g4
          have h5 := R_isAbove0  (x2 := x4) (t0_0 := t0_0) (t0_1 := t0_1) (t0_2 := t0_2) (t0_3 := t0_3) (t0_4 := t0_4) (t0_5 := t0_5) (t0_6 := t0_6) (t1_0 := t1_0) (t2_0 := t2_0) (by first | with_reducible assumption | with_reducible exact R_cl | (with_reducible apply R_cp; first | with_reducible assumption | with_reducible exact R_cl) | (with_reducible refine wO_upd ?_ w_m16; with_reducible assumption) | (with_reducible apply wR.mi <;> with_reducible assumption)  | omega | decide) (by first | with_reducible assumption | with_reducible exact R_cl | (with_reducible apply R_cp; first | with_reducible assumption | with_reducible exact R_cl) | (with_reducible refine wO_upd ?_ w_m16; with_reducible assumption) | (with_reducible apply wR.mi <;> with_reducible assumption)  | omega | decide)
          have h5a := h5.2
          with_reducible refine v_owe h5.1 ?_
          by_cases g6 : ((F_WR_isAbove0 x4 t0_0 t0_1 t0_2 t0_3 t0_4 t0_5 t0_6 t1_0 t2_0) : Int32) = (0 : Int32)
          ·
            rw [if_pos g6, if_pos g6]
            unfold S_WR_powerModulo_J47 F_WR_powerModulo_J47
            have g7 : ¬ ((2 : Int32) ≤ (0 : Int32)) := (by decide)
            rw [if_neg g7, if_neg g7]
            refine ⟨trivial, ?_⟩
            (unfold Q_WR_powerModulo; dsimp only; first | with_reducible assumption | exact hr)
          ·
            rw [if_neg g6, if_neg g6]
            have g6z := w_ab g6 (by with_reducible assumption)
            unfold S_WR_powerModulo_J47 F_WR_powerModulo_J47
            have g8 : ((0 : Int32) ≤ (0 : Int32)) := (by decide)
            rw [if_pos g8, if_pos g8]
            have h9 := R_take  (x2 := x4) (t0_0 := (0 : Int32)) (t0_1 := t0_1) (t0_2 := t0_2) (t0_3 := t0_3) (t0_4 := t0_4) (t0_5 := t0_5) (t0_6 := t0_6) (t1_0 := t1_0) (t2_0 := t12_0) (by first | with_reducible assumption | with_reducible exact R_cl | (with_reducible apply R_cp; first | with_reducible assumption | with_reducible exact R_cl) | (with_reducible refine wO_upd ?_ w_m16; with_reducible assumption) | (with_reducible apply wR.mi <;> with_reducible assumption)  | omega | decide) (wR.o (by with_reducible assumption))
            have h9k := h9.2.1
            have h9v := h9.2
            with_reducible refine v_owe h9.1 ?_
            have h10 := R_reduce  (x2 := x2) (t0_0 := (0 : Int32)) (t0_1 := t0_1) (t0_2 := t0_2) (t0_3 := t0_3) (t0_4 := t0_4) (t0_5 := t0_5) (t0_6 := t0_6) (t1_0 := t1_0) (t2_0 := t2_0) (t3_0 := t3_0) (t4_0 := t6_0) (t5_0 := t7_0) (t6_0 := ((F_WR_take x4 (264 : Int32) (0 : Int32) t0_1 t0_2 t0_3 t0_4 t0_5 t0_6 t1_0 t12_0) : (Nat → Int32))) (t7_0 := t8_0) (by first | with_reducible assumption | with_reducible exact R_cl | (with_reducible apply R_cp; first | with_reducible assumption | with_reducible exact R_cl) | (with_reducible refine wO_upd ?_ w_m16; with_reducible assumption) | (with_reducible apply wR.mi <;> with_reducible assumption)  | omega | decide) (by first | with_reducible assumption | with_reducible exact R_cl | (with_reducible apply R_cp; first | with_reducible assumption | with_reducible exact R_cl) | (with_reducible refine wO_upd ?_ w_m16; with_reducible assumption) | (with_reducible apply wR.mi <;> with_reducible assumption)  | omega | decide) (by first | with_reducible assumption | (refine w_reg ?_ (wR.o (by with_reducible assumption)) (by with_reducible assumption) ?_ <;> with_reducible assumption))
            have h10k := h10.2
            with_reducible refine v_owe h10.1 ?_
            replace h10 := h10.2
            generalize F_WR_reduce x2 (264 : Int32) (0 : Int32) t0_1 t0_2 t0_3 t0_4 t0_5 t0_6 t1_0 t2_0 t3_0 t6_0 t7_0 ((F_WR_take x4 (264 : Int32) (0 : Int32) t0_1 t0_2 t0_3 t0_4 t0_5 t0_6 t1_0 t12_0) : (Nat → Int32)) t8_0 = p104 at *
            replace h9 := h9.2
            generalize F_WR_take x4 (264 : Int32) (0 : Int32) t0_1 t0_2 t0_3 t0_4 t0_5 t0_6 t1_0 t12_0 = f86 at *
            unfold S_WR_powerModulo_c73 F_WR_powerModulo_c73
            refine v_cons (by omega) ?_
            refine v_cons (by omega) ?_
            by_cases g11 : (t2_0 x3.toNatClampNeg : Int32) = (0 : Int32)
            ·
              rw [if_pos g11, if_pos g11]
              unfold S_WR_powerModulo_J98 F_WR_powerModulo_J98
              have h12 := R_setOne  (t0_0 := (0 : Int32)) (t0_1 := t0_1) (t0_2 := t0_2) (t0_3 := t0_3) (t0_4 := t0_4) (t0_5 := t0_5) (t0_6 := t0_6) (f := t9_0) 
              have h12k := h12.2.1
              with_reducible refine v_owe h12.1 ?_
              have h13 := R_div4  (t0_0 := (0 : Int32)) (t0_1 := t0_1) (t0_2 := t0_2) (t0_3 := t0_3) (t0_4 := t0_4) (t0_5 := t0_5) (t0_6 := t0_6) (t1_0 := (p104.2.1 : (Nat → Int32))) (t2_0 := (p104.2.2.1 : (Nat → Int32))) (t3_0 := ((F_WR_setOne (264 : Int32) (0 : Int32) t0_1 t0_2 t0_3 t0_4 t0_5 t0_6 t9_0) : (Nat → Int32))) (t4_0 := f86) (by first | with_reducible assumption | with_reducible exact R_cl | (with_reducible apply R_cp; first | with_reducible assumption | with_reducible exact R_cl) | (with_reducible refine wO_upd ?_ w_m16; with_reducible assumption) | (with_reducible apply wR.mi <;> with_reducible assumption)  | omega | decide) (by first | with_reducible assumption | (refine w_reg ?_ (wR.o (by with_reducible assumption)) (by with_reducible assumption) ?_ <;> with_reducible assumption))
              have h13k := h13.2.1
              have h13q := h13.2.2.1
              have h13d := h13.2
              with_reducible refine v_owe h13.1 ?_
              replace h13 := h13.2
              generalize F_WR_divideRows (264 : Int32) (264 : Int32) (0 : Int32) t0_1 t0_2 t0_3 t0_4 t0_5 t0_6 (p104.2.1 : (Nat → Int32)) (p104.2.2.1 : (Nat → Int32)) ((F_WR_setOne (264 : Int32) (0 : Int32) t0_1 t0_2 t0_3 t0_4 t0_5 t0_6 t9_0) : (Nat → Int32)) f86 = p186 at *
              replace h12 := h12.2
              generalize F_WR_setOne (264 : Int32) (0 : Int32) t0_1 t0_2 t0_3 t0_4 t0_5 t0_6 t9_0 = f172 at *
              unfold S_WR_powerModulo_c115 F_WR_powerModulo_c115
              exact v_pm2 hr (by with_reducible assumption) (by with_reducible assumption) (by first | with_reducible assumption | (refine w_reg ?_ (wR.o (by with_reducible assumption)) (by with_reducible assumption) ?_ <;> with_reducible assumption)) (by with_reducible assumption) (by first | with_reducible assumption | (with_reducible apply R_cp; with_reducible assumption)) _ _ (by decide) (by decide)
            ·
              rw [if_neg g11, if_neg g11]
              have h14 := T_WR_inverts  (t0_0 := (0 : Int32)) (t0_1 := t0_1) (t0_2 := t0_2) (t0_3 := t0_3) (t0_4 := t0_4) (t0_5 := t0_5) (t0_6 := t0_6) (t1_0 := (p104.1 : (Nat → Int32))) (t2_0 := t4_0) (t3_0 := t5_0) (t4_0 := (p104.2.1 : (Nat → Int32))) (t5_0 := (p104.2.2.1 : (Nat → Int32))) (t6_0 := (p104.2.2.2 : (Nat → Int32))) (t7_0 := t9_0) (t8_0 := t10_0) (t9_0 := t11_0) (t10_0 := f86) (by first | with_reducible assumption | (refine w_reg ?_ (wR.o (by with_reducible assumption)) (by with_reducible assumption) ?_ <;> with_reducible assumption)) (by first | with_reducible assumption | with_reducible exact R_cl | (with_reducible apply R_cp; first | with_reducible assumption | with_reducible exact R_cl) | (with_reducible refine wO_upd ?_ w_m16; with_reducible assumption) | (with_reducible apply wR.mi <;> with_reducible assumption)  | omega | decide)
              with_reducible refine v_owe h14.1 ?_
              replace h14 := h14.2
              generalize F_WR_inverts (0 : Int32) t0_1 t0_2 t0_3 t0_4 t0_5 t0_6 (p104.1 : (Nat → Int32)) t4_0 t5_0 (p104.2.1 : (Nat → Int32)) (p104.2.2.1 : (Nat → Int32)) (p104.2.2.2 : (Nat → Int32)) t9_0 t10_0 t11_0 f86 = p522 at *
              unfold Q_WR_inverts at h14
              unfold S_WR_powerModulo_c86 F_WR_powerModulo_c86
              by_cases g15 : (p522.1 : Int32) = (0 : Int32)
              ·
                rw [if_pos g15, if_pos g15]
                refine ⟨trivial, ?_⟩
                (unfold Q_WR_powerModulo; dsimp only; first | with_reducible assumption | exact hr)
              ·
                rw [if_neg g15, if_neg g15]
                unfold S_WR_powerModulo_J98 F_WR_powerModulo_J98
                have h16 := R_setOne  (t0_0 := (p522.2.1 : Int32)) (t0_1 := (p522.2.2.1 : Int32)) (t0_2 := (p522.2.2.2.1 : Int32)) (t0_3 := (p522.2.2.2.2.1 : Int32)) (t0_4 := (p522.2.2.2.2.2.1 : Int32)) (t0_5 := (p522.2.2.2.2.2.2.1 : Int32)) (t0_6 := (p522.2.2.2.2.2.2.2.1 : Int32)) (f := (p522.2.2.2.2.2.2.2.2.2.2.2.2.2.2.1 : (Nat → Int32))) 
                have h16k := h16.2.1
                with_reducible refine v_owe h16.1 ?_
                have h17 := R_div4  (t0_0 := (p522.2.1 : Int32)) (t0_1 := (p522.2.2.1 : Int32)) (t0_2 := (p522.2.2.2.1 : Int32)) (t0_3 := (p522.2.2.2.2.1 : Int32)) (t0_4 := (p522.2.2.2.2.2.1 : Int32)) (t0_5 := (p522.2.2.2.2.2.2.1 : Int32)) (t0_6 := (p522.2.2.2.2.2.2.2.1 : Int32)) (t1_0 := (p522.2.2.2.2.2.2.2.2.2.2.2.1 : (Nat → Int32))) (t2_0 := (p522.2.2.2.2.2.2.2.2.2.2.2.2.1 : (Nat → Int32))) (t3_0 := ((F_WR_setOne (264 : Int32) (p522.2.1 : Int32) (p522.2.2.1 : Int32) (p522.2.2.2.1 : Int32) (p522.2.2.2.2.1 : Int32) (p522.2.2.2.2.2.1 : Int32) (p522.2.2.2.2.2.2.1 : Int32) (p522.2.2.2.2.2.2.2.1 : Int32) (p522.2.2.2.2.2.2.2.2.2.2.2.2.2.2.1 : (Nat → Int32))) : (Nat → Int32))) (t4_0 := f86) (by first | with_reducible assumption | with_reducible exact R_cl | (with_reducible apply R_cp; first | with_reducible assumption | with_reducible exact R_cl) | (with_reducible refine wO_upd ?_ w_m16; with_reducible assumption) | (with_reducible apply wR.mi <;> with_reducible assumption)  | omega | decide) (by first | with_reducible assumption | (refine w_reg ?_ (wR.o (by with_reducible assumption)) (by with_reducible assumption) ?_ <;> with_reducible assumption))
                have h17k := h17.2.1
                have h17q := h17.2.2.1
                have h17d := h17.2
                with_reducible refine v_owe h17.1 ?_
                replace h17 := h17.2
                generalize F_WR_divideRows (264 : Int32) (264 : Int32) (p522.2.1 : Int32) (p522.2.2.1 : Int32) (p522.2.2.2.1 : Int32) (p522.2.2.2.2.1 : Int32) (p522.2.2.2.2.2.1 : Int32) (p522.2.2.2.2.2.2.1 : Int32) (p522.2.2.2.2.2.2.2.1 : Int32) (p522.2.2.2.2.2.2.2.2.2.2.2.1 : (Nat → Int32)) (p522.2.2.2.2.2.2.2.2.2.2.2.2.1 : (Nat → Int32)) ((F_WR_setOne (264 : Int32) (p522.2.1 : Int32) (p522.2.2.1 : Int32) (p522.2.2.2.1 : Int32) (p522.2.2.2.2.1 : Int32) (p522.2.2.2.2.2.1 : Int32) (p522.2.2.2.2.2.2.1 : Int32) (p522.2.2.2.2.2.2.2.1 : Int32) (p522.2.2.2.2.2.2.2.2.2.2.2.2.2.2.1 : (Nat → Int32))) : (Nat → Int32)) f86 = p186 at *
                replace h16 := h16.2
                generalize F_WR_setOne (264 : Int32) (p522.2.1 : Int32) (p522.2.2.1 : Int32) (p522.2.2.2.1 : Int32) (p522.2.2.2.2.1 : Int32) (p522.2.2.2.2.2.1 : Int32) (p522.2.2.2.2.2.2.1 : Int32) (p522.2.2.2.2.2.2.2.1 : Int32) (p522.2.2.2.2.2.2.2.2.2.2.2.2.2.2.1 : (Nat → Int32)) = f172 at *
                unfold S_WR_powerModulo_c115 F_WR_powerModulo_c115
                exact v_pm2 hr (by with_reducible assumption) (by with_reducible assumption) (by first | with_reducible assumption | (refine w_reg ?_ (wR.o (by with_reducible assumption)) (by with_reducible assumption) ?_ <;> with_reducible assumption)) (by with_reducible assumption) (by first | with_reducible assumption | (with_reducible apply R_cp; with_reducible assumption)) _ _ (by decide) (by decide)
        ·
          rw [if_neg g4, if_neg g4]
          unfold S_WR_powerModulo_J30 F_WR_powerModulo_J30
          unfold S_WR_powerModulo_J47 F_WR_powerModulo_J47
          have g18 : ¬ ((1 : Int32) ≤ (0 : Int32)) := (by decide)
          rw [if_neg g18, if_neg g18]
          refine ⟨trivial, ?_⟩
          (unfold Q_WR_powerModulo; dsimp only; first | with_reducible assumption | exact hr)
      ·
        rw [if_neg g3, if_neg g3]
        unfold S_WR_powerModulo_J30 F_WR_powerModulo_J30
        unfold S_WR_powerModulo_J47 F_WR_powerModulo_J47
        have g19 : ¬ ((1 : Int32) ≤ (0 : Int32)) := (by decide)
        rw [if_neg g19, if_neg g19]
        refine ⟨trivial, ?_⟩
        (unfold Q_WR_powerModulo; dsimp only; first | with_reducible assumption | exact hr)
    ·
      rw [if_neg g2, if_neg g2]
      unfold S_WR_powerModulo_J30 F_WR_powerModulo_J30
      unfold S_WR_powerModulo_J47 F_WR_powerModulo_J47
      have g20 : ¬ ((1 : Int32) ≤ (0 : Int32)) := (by decide)
      rw [if_neg g20, if_neg g20]
      refine ⟨trivial, ?_⟩
      (unfold Q_WR_powerModulo; dsimp only; first | with_reducible assumption | exact hr)
  ·
    rw [if_neg g1, if_neg g1]
    unfold S_WR_powerModulo_J30 F_WR_powerModulo_J30
    unfold S_WR_powerModulo_J47 F_WR_powerModulo_J47
    have g21 : ¬ ((1 : Int32) ≤ (0 : Int32)) := (by decide)
    rw [if_neg g21, if_neg g21]
    refine ⟨trivial, ?_⟩
    (unfold Q_WR_powerModulo; dsimp only; first | with_reducible assumption | exact hr)
