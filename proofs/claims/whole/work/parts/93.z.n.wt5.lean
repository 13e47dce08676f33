/-! WholeRows: limb, combine, compare, told -/
theorem w_a16 {x : Int32} : 0 ≤ (x &&& 65535).toInt ∧ (x &&& 65535).toInt < 65536 := by
  have := s_and (x := x) (m := 65535) (by decide)
  have e : (65535 : Int32).toInt = 65535 := rfl
  omega
theorem w_kx {k m : Nat → Int32} {x i : Int32} (hr : wR k m) (hx : 0 ≤ x.toInt ∧ x.toInt ≤ 10) (hi : 0 ≤ i.toInt) (hi2 : i.toInt < 128) : 0 ≤ (k ((128 * x) + i : Int32).toNatClampNeg).toInt ∧ (k ((128 * x) + i : Int32).toNatClampNeg).toInt < 65536 := by
  have h := (w_ix hx ⟨hi, by omega⟩).2
  have e4 := q_clI (i := x) rfl hx.1
  have e5 := q_clI (i := i) rfl hi
  rw [h]
  exact hr.1 _ (by omega)
theorem w_or17 {x y : Int32} (hx : 0 ≤ x.toInt ∧ x.toInt < 65536) (hy : 0 ≤ y.toInt ∧ y.toInt < 65536) : 0 ≤ (x ||| y).toInt ∧ (x ||| y).toInt < 65536 := w_or16 hx ⟨hy.1, by omega⟩
theorem R_j1 {f g : Nat → Int32} (hf : wO f 264) (hg : wO g 264) : S_WR_join 264 264 1 1 0 f g ∧ wO (F_WR_join 264 264 1 1 0 f g) 264 := by
  have h := R_join (N := 264) (M := 264) (s := 1) (y := 1) (x5 := 0) (f := f) (g := g) (σ := 1) (by rw [if_pos rfl]) (by decide) (by decide) (by decide) (by decide) (by decide) (hg.mono (by decide)) (by decide) hf
  exact ⟨h.1, h.2.1⟩
def Q_WR_limb (p : Int32) : Prop := 0 ≤ p.toInt ∧ p.toInt < 65536
theorem v_limL {x2 : Int32} {x3 : Int32} {t0_0 : Int32} {t0_1 : Int32} {t0_2 : Int32} {t0_3 : Int32} {t0_4 : Int32} {t0_5 : Int32} {t0_6 : Int32} {t1_0 : (Nat → Int32)} {t2_0 : (Nat → Int32)} (hr : wR t1_0 t2_0)(hx2 : 0 ≤ x2.toInt ∧ x2.toInt ≤ 10) (h3 : 0 ≤ x3.toInt ∧ x3.toInt ≤ 128) : ∀ (n : Nat) (lx28 : Int32) (lx29 : Int32), (0 ≤ lx28.toInt ∧ lx28.toInt ≤ 128) → (128 - lx28.toInt < (n : Int)) → (S_WR_limb_L38 x2 x3 t0_0 t0_1 t0_2 t0_3 t0_4 t0_5 t0_6 t1_0 t2_0 n lx28 lx29) ∧ Q_WR_limb (F_WR_limb_L38 x2 x3 t0_0 t0_1 t0_2 t0_3 t0_4 t0_5 t0_6 t1_0 t2_0 n lx28 lx29) := by
  intro n
  induction n with
  | zero => intro lx28 lx29 h0 hm; exact absurd (show False by omega) id
  | succ n ih =>
    intro lx28 lx29 h0 hm
    have e0 : (0 : Int32).toInt = 0 := rfl
    have e128 : (128 : Int32).toInt = 128 := rfl
    rw [S_WR_limb_L38.eq_2, F_WR_limb_L38.eq_2]
    by_cases g1 : x3 ≤ lx28
    ·
      rw [if_pos g1, if_pos g1]
      have g1i : x3.toInt ≤ lx28.toInt := q_leI g1
      unfold S_WR_limb_J84 F_WR_limb_J84
      by_cases g2 : (128 : Int32) ≤ x3
      ·
        rw [if_pos g2, if_pos g2]
        have g2i : 128 ≤ x3.toInt := q_leI g2
        unfold S_WR_limb_J107 F_WR_limb_J107
        by_cases g3 : lx29 = (0 : Int32)
        ·
          rw [if_pos g3, if_pos g3]
          have g3i : lx29.toInt = 0 := q_eqI g3
          refine ⟨trivial, ?_⟩
          (unfold Q_WR_limb; first | exact w_a16 | exact ⟨by decide, by decide⟩ | exact w_kx hr hx2 h3.1 (by omega))
        ·
          rw [if_neg g3, if_neg g3]
          have g3i : lx29.toInt ≠ 0 := q_neI g3
          refine ⟨trivial, ?_⟩
          (unfold Q_WR_limb; first | exact w_a16 | exact ⟨by decide, by decide⟩ | exact w_kx hr hx2 h3.1 (by omega))
      ·
        rw [if_neg g2, if_neg g2]
        have g2i : x3.toInt < 128 := q_nleI g2
        refine v_cons (by have := (w_ix (x := x2) (k := x3) (by with_reducible assumption) ⟨by omega, by omega⟩).1; omega) ?_
        unfold S_WR_limb_J107 F_WR_limb_J107
        by_cases g4 : lx29 = (0 : Int32)
        ·
          rw [if_pos g4, if_pos g4]
          have g4i : lx29.toInt = 0 := q_eqI g4
          refine ⟨trivial, ?_⟩
          (unfold Q_WR_limb; first | exact w_a16 | exact ⟨by decide, by decide⟩ | exact w_kx hr hx2 h3.1 (by omega))
        ·
          rw [if_neg g4, if_neg g4]
          have g4i : lx29.toInt ≠ 0 := q_neI g4
          refine ⟨trivial, ?_⟩
          (unfold Q_WR_limb; first | exact w_a16 | exact ⟨by decide, by decide⟩ | exact w_kx hr hx2 h3.1 (by omega))
    ·
      rw [if_neg g1, if_neg g1]
      have g1i : lx28.toInt < x3.toInt := q_nleI g1
      by_cases g5 : (128 : Int32) ≤ lx28
      ·
        rw [if_pos g5, if_pos g5]
        have g5i : 128 ≤ lx28.toInt := q_leI g5
        unfold S_WR_limb_J84 F_WR_limb_J84
        by_cases g6 : (128 : Int32) ≤ x3
        ·
          rw [if_pos g6, if_pos g6]
          have g6i : 128 ≤ x3.toInt := q_leI g6
          unfold S_WR_limb_J107 F_WR_limb_J107
          by_cases g7 : lx29 = (0 : Int32)
          ·
            rw [if_pos g7, if_pos g7]
            have g7i : lx29.toInt = 0 := q_eqI g7
            refine ⟨trivial, ?_⟩
            (unfold Q_WR_limb; first | exact w_a16 | exact ⟨by decide, by decide⟩ | exact w_kx hr hx2 h3.1 (by omega))
          ·
            rw [if_neg g7, if_neg g7]
            have g7i : lx29.toInt ≠ 0 := q_neI g7
            refine ⟨trivial, ?_⟩
            (unfold Q_WR_limb; first | exact w_a16 | exact ⟨by decide, by decide⟩ | exact w_kx hr hx2 h3.1 (by omega))
        ·
          rw [if_neg g6, if_neg g6]
          have g6i : x3.toInt < 128 := q_nleI g6
          refine v_cons (by have := (w_ix (x := x2) (k := x3) (by with_reducible assumption) ⟨by omega, by omega⟩).1; omega) ?_
          unfold S_WR_limb_J107 F_WR_limb_J107
          by_cases g8 : lx29 = (0 : Int32)
          ·
            rw [if_pos g8, if_pos g8]
            have g8i : lx29.toInt = 0 := q_eqI g8
            refine ⟨trivial, ?_⟩
            (unfold Q_WR_limb; first | exact w_a16 | exact ⟨by decide, by decide⟩ | exact w_kx hr hx2 h3.1 (by omega))
          ·
            rw [if_neg g8, if_neg g8]
            have g8i : lx29.toInt ≠ 0 := q_neI g8
            refine ⟨trivial, ?_⟩
            (unfold Q_WR_limb; first | exact w_a16 | exact ⟨by decide, by decide⟩ | exact w_kx hr hx2 h3.1 (by omega))
      ·
        rw [if_neg g5, if_neg g5]
        have g5i : lx28.toInt < 128 := q_nleI g5
        by_cases g9 : lx29 = (0 : Int32)
        ·
          rw [if_pos g9, if_pos g9]
          have g9i : lx29.toInt = 0 := q_eqI g9
          obtain ⟨a10, e11⟩ := q_nm (lx28 + 1 : Int32)
          rw [e11]
          have a10i : a10.toInt = lx28.toInt + 1 := by rw [← e11]; exact q_addI (x := lx28.toInt) (y := 1) rfl (by decide) (by omega) (by omega)
          exact ih _ _ (by first | with_reducible assumption | with_reducible exact R_cl | (with_reducible apply R_cp; first | with_reducible assumption | with_reducible exact R_cl) | (with_reducible refine wO_upd ?_ w_m16; with_reducible assumption) | (with_reducible apply wR.mi <;> with_reducible assumption)  | omega | decide) (by first | with_reducible assumption | with_reducible exact R_cl | (with_reducible apply R_cp; first | with_reducible assumption | with_reducible exact R_cl) | (with_reducible refine wO_upd ?_ w_m16; with_reducible assumption) | (with_reducible apply wR.mi <;> with_reducible assumption)  | omega | decide)
        ·
          rw [if_neg g9, if_neg g9]
          have g9i : lx29.toInt ≠ 0 := q_neI g9
          by_cases g12 : (t1_0 ((128 * x2 : Int32) + lx28 : Int32).toNatClampNeg : Int32) = (0 : Int32)
          ·
            rw [if_pos g12, if_pos g12]
            obtain ⟨a13, e14⟩ := q_nm (lx28 + 1 : Int32)
            rw [e14]
            have a13i : a13.toInt = lx28.toInt + 1 := by rw [← e14]; exact q_addI (x := lx28.toInt) (y := 1) rfl (by decide) (by omega) (by omega)
            exact ih _ _ (by first | with_reducible assumption | with_reducible exact R_cl | (with_reducible apply R_cp; first | with_reducible assumption | with_reducible exact R_cl) | (with_reducible refine wO_upd ?_ w_m16; with_reducible assumption) | (with_reducible apply wR.mi <;> with_reducible assumption)  | omega | decide) (by first | with_reducible assumption | with_reducible exact R_cl | (with_reducible apply R_cp; first | with_reducible assumption | with_reducible exact R_cl) | (with_reducible refine wO_upd ?_ w_m16; with_reducible assumption) | (with_reducible apply wR.mi <;> with_reducible assumption)  | omega | decide)
          ·
            rw [if_neg g12, if_neg g12]
            obtain ⟨a15, e16⟩ := q_nm (lx28 + 1 : Int32)
            rw [e16]
            have a15i : a15.toInt = lx28.toInt + 1 := by rw [← e16]; exact q_addI (x := lx28.toInt) (y := 1) rfl (by decide) (by omega) (by omega)
            exact ih _ _ (by first | with_reducible assumption | with_reducible exact R_cl | (with_reducible apply R_cp; first | with_reducible assumption | with_reducible exact R_cl) | (with_reducible refine wO_upd ?_ w_m16; with_reducible assumption) | (with_reducible apply wR.mi <;> with_reducible assumption)  | omega | decide) (by first | with_reducible assumption | with_reducible exact R_cl | (with_reducible apply R_cp; first | with_reducible assumption | with_reducible exact R_cl) | (with_reducible refine wO_upd ?_ w_m16; with_reducible assumption) | (with_reducible apply wR.mi <;> with_reducible assumption)  | omega | decide)
theorem T_WR_limb {x2 : Int32} {x3 : Int32} {t0_0 : Int32} {t0_1 : Int32} {t0_2 : Int32} {t0_3 : Int32} {t0_4 : Int32} {t0_5 : Int32} {t0_6 : Int32} {t1_0 : (Nat → Int32)} {t2_0 : (Nat → Int32)} (hr : wR t1_0 t2_0)(hx2 : 0 ≤ x2.toInt ∧ x2.toInt ≤ 10) (h3 : 0 ≤ x3.toInt ∧ x3.toInt ≤ 128) : (S_WR_limb x2 x3 t0_0 t0_1 t0_2 t0_3 t0_4 t0_5 t0_6 t1_0 t2_0) ∧ Q_WR_limb (F_WR_limb x2 x3 t0_0 t0_1 t0_2 t0_3 t0_4 t0_5 t0_6 t1_0 t2_0) := by
  have e0 : (0 : Int32).toInt = 0 := rfl
  have e128 : (128 : Int32).toInt = 128 := rfl
  unfold S_WR_limb F_WR_limb
  refine v_cons (by omega) ?_
  refine v_cons (by omega) ?_
  by_cases g1 : (t2_0 x2.toNatClampNeg : Int32) = (0 : Int32)
  ·
    rw [if_pos g1, if_pos g1]
    by_cases g2 : (128 : Int32) ≤ x3
    ·
      rw [if_pos g2, if_pos g2]
      have g2i : 128 ≤ x3.toInt := q_leI g2
      refine ⟨trivial, ?_⟩
      (unfold Q_WR_limb; first | exact w_a16 | exact ⟨by decide, by decide⟩ | exact w_kx hr hx2 h3.1 (by omega))
    ·
      rw [if_neg g2, if_neg g2]
      have g2i : x3.toInt < 128 := q_nleI g2
      refine v_cons (by have := (w_ix (x := x2) (k := x3) (by with_reducible assumption) ⟨by omega, by omega⟩).1; omega) ?_
      refine ⟨trivial, ?_⟩
      (unfold Q_WR_limb; first | exact w_a16 | exact ⟨by decide, by decide⟩ | exact w_kx hr hx2 h3.1 (by omega))
  ·
    rw [if_neg g1, if_neg g1]
    exact v_limL hr hx2 h3 _ _ _ (by decide) (by decide)
theorem R_limb {x2 : Int32} {x3 : Int32} {t0_0 : Int32} {t0_1 : Int32} {t0_2 : Int32} {t0_3 : Int32} {t0_4 : Int32} {t0_5 : Int32} {t0_6 : Int32} {t1_0 : (Nat → Int32)} {t2_0 : (Nat → Int32)} (hr : wR t1_0 t2_0)(hx2 : 0 ≤ x2.toInt ∧ x2.toInt ≤ 10) (h3 : 0 ≤ x3.toInt ∧ x3.toInt ≤ 128) : S_WR_limb x2 x3 t0_0 t0_1 t0_2 t0_3 t0_4 t0_5 t0_6 t1_0 t2_0 ∧ (0 ≤ (F_WR_limb x2 x3 t0_0 t0_1 t0_2 t0_3 t0_4 t0_5 t0_6 t1_0 t2_0).toInt ∧ (F_WR_limb x2 x3 t0_0 t0_1 t0_2 t0_3 t0_4 t0_5 t0_6 t1_0 t2_0).toInt < 65536) := T_WR_limb hr hx2 h3
def Q_WR_combine (p : Int32 × Int32 × Int32 × Int32 × Int32 × Int32 × Int32 × (Nat → Int32) × (Nat → Int32) × (Nat → Int32) × (Nat → Int32)) : Prop := wR p.2.2.2.2.2.2.2.1 p.2.2.2.2.2.2.2.2.1
theorem v_cmb2 {K_F_WR_combine_L64 : Int32 → (Nat → Int32) → (Int32 × Int32 × Int32 × Int32 × Int32 × Int32 × Int32 × (Nat → Int32) × (Nat → Int32) × (Nat → Int32) × (Nat → Int32))} {x2 : Int32} {x3 : Int32} {x4 : Int32} {x5 : Int32} {t0_0 : Int32} {t0_1 : Int32} {t0_2 : Int32} {t0_3 : Int32} {t0_4 : Int32} {t0_5 : Int32} {t0_6 : Int32} {t1_0 : (Nat → Int32)} {t2_0 : (Nat → Int32)} {t3_0 : (Nat → Int32)} {t4_0 : (Nat → Int32)} {lx33 : Int32} {lx61 : Int32} {lx62 : (Nat → Int32)} {lx81 : Int32} {K_S_WR_combine_L64 : Int32 → (Nat → Int32) → Prop} (hr : wR t1_0 t2_0)(hx2 : 0 ≤ x2.toInt ∧ x2.toInt ≤ 10)(hx3 : 0 ≤ x3.toInt ∧ x3.toInt ≤ 10)(hx4 : 0 ≤ x4.toInt ∧ x4.toInt ≤ 10) : ∀ (n : Nat) (lx146 : Int32) (lx147 : (Nat → Int32)), (0 ≤ lx146.toInt ∧ lx146.toInt ≤ 129) → (129 - lx146.toInt < (n : Int)) → (wO lx147 264) → (S_WR_combine_L183 K_S_WR_combine_L64 x2 x3 x4 x5 t0_0 t0_1 t0_2 t0_3 t0_4 t0_5 t0_6 t1_0 t2_0 t3_0 t4_0 lx33 lx61 lx62 lx81 n lx146 lx147) ∧ Q_WR_combine (F_WR_combine_L183 K_F_WR_combine_L64 x2 x3 x4 x5 t0_0 t0_1 t0_2 t0_3 t0_4 t0_5 t0_6 t1_0 t2_0 t3_0 t4_0 lx33 lx61 lx62 lx81 n lx146 lx147) := by
  intro n
  induction n with
  | zero => intro lx146 lx147 h0 hm ho; exact absurd (show False by omega) id
  | succ n ih =>
    intro lx146 lx147 h0 hm ho
    have e0 : (0 : Int32).toInt = 0 := rfl
    have e128 : (128 : Int32).toInt = 128 := rfl
    rw [S_WR_combine_L183.eq_2, F_WR_combine_L183.eq_2]
    by_cases g1 : (128 : Int32) < lx146
    ·
      rw [if_pos g1, if_pos g1]
      have g1i : 128 < lx146.toInt := q_ltI g1
      have h2 := R_setOne  (t0_0 := lx33) (t0_1 := (2 : Int32)) (t0_2 := t0_2) (t0_3 := lx81) (t0_4 := t0_4) (t0_5 := t0_5) (t0_6 := t0_6) (f := t4_0) 
      have h2k := h2.2.1
      with_reducible refine v_owe h2.1 ?_
      have h3 := R_j1  (f := lx147) (g := ((F_WR_setOne (264 : Int32) lx33 (2 : Int32) t0_2 lx81 t0_4 t0_5 t0_6 t4_0) : (Nat → Int32))) (by first | with_reducible assumption | with_reducible exact R_cl | (with_reducible apply R_cp; first | with_reducible assumption | with_reducible exact R_cl) | (with_reducible refine wO_upd ?_ w_m16; with_reducible assumption) | (with_reducible apply wR.mi <;> with_reducible assumption)  | omega | decide) (by first | with_reducible assumption | with_reducible exact R_cl | (with_reducible apply R_cp; first | with_reducible assumption | with_reducible exact R_cl) | (with_reducible refine wO_upd ?_ w_m16; with_reducible assumption) | (with_reducible apply wR.mi <;> with_reducible assumption)  | omega | decide)
      have h3k := h3.2
      with_reducible refine v_owe h3.1 ?_
      have h4 := R_store  (x2 := x4) (t0_0 := lx33) (t0_1 := (2 : Int32)) (t0_2 := t0_2) (t0_3 := lx81) (t0_4 := t0_4) (t0_5 := t0_5) (t0_6 := t0_6) (t1_0 := t1_0) (t2_0 := t2_0) (t3_0 := ((F_WR_join (264 : Int32) (264 : Int32) (1 : Int32) (1 : Int64) (0 : Int32) lx147 ((F_WR_setOne (264 : Int32) lx33 (2 : Int32) t0_2 lx81 t0_4 t0_5 t0_6 t4_0) : (Nat → Int32))) : (Nat → Int32))) (by first | with_reducible assumption | with_reducible exact R_cl | (with_reducible apply R_cp; first | with_reducible assumption | with_reducible exact R_cl) | (with_reducible refine wO_upd ?_ w_m16; with_reducible assumption) | (with_reducible apply wR.mi <;> with_reducible assumption)  | omega | decide) (by first | with_reducible assumption | with_reducible exact R_cl | (with_reducible apply R_cp; first | with_reducible assumption | with_reducible exact R_cl) | (with_reducible refine wO_upd ?_ w_m16; with_reducible assumption) | (with_reducible apply wR.mi <;> with_reducible assumption)  | omega | decide) (by first | with_reducible assumption | with_reducible exact R_cl | (with_reducible apply R_cp; first | with_reducible assumption | with_reducible exact R_cl) | (with_reducible refine wO_upd ?_ w_m16; with_reducible assumption) | (with_reducible apply wR.mi <;> with_reducible assumption)  | omega | decide)
      have h4r := h4.2
      with_reducible refine v_owe h4.1 ?_
      replace h4 := h4.2
      generalize F_WR_store x4 lx33 (2 : Int32) t0_2 lx81 t0_4 t0_5 t0_6 t1_0 t2_0 ((F_WR_join (264 : Int32) (264 : Int32) (1 : Int32) (1 : Int64) (0 : Int32) lx147 ((F_WR_setOne (264 : Int32) lx33 (2 : Int32) t0_2 lx81 t0_4 t0_5 t0_6 t4_0) : (Nat → Int32))) : (Nat → Int32)) = p209 at *
      replace h2 := h2.2
      generalize F_WR_setOne (264 : Int32) lx33 (2 : Int32) t0_2 lx81 t0_4 t0_5 t0_6 t4_0 = f167 at *
      replace h3 := h3.2
      generalize F_WR_join (264 : Int32) (264 : Int32) (1 : Int32) (1 : Int64) (0 : Int32) lx147 ((F_WR_setOne (264 : Int32) lx33 (2 : Int32) t0_2 lx81 t0_4 t0_5 t0_6 t4_0) : (Nat → Int32)) = f175 at *
      unfold S_WR_combine_c240_6 F_WR_combine_c240_6
      refine ⟨trivial, ?_⟩
      (unfold Q_WR_combine; dsimp only; first | with_reducible assumption | exact hr)
    ·
      rw [if_neg g1, if_neg g1]
      have g1i : lx146.toInt ≤ 128 := q_nltI g1
      obtain ⟨a5, e6⟩ := q_nm (lx146 + 1 : Int32)
      rw [e6]
      have a5i : a5.toInt = lx146.toInt + 1 := by rw [← e6]; exact q_addI (x := lx146.toInt) (y := 1) rfl (by decide) (by omega) (by omega)
      exact ih _ _ ⟨by omega, by omega⟩ (by omega) (wO_upd ho w_a16)
theorem v_cmb1 {x2 : Int32} {x3 : Int32} {x4 : Int32} {x5 : Int32} {t0_0 : Int32} {t0_1 : Int32} {t0_2 : Int32} {t0_3 : Int32} {t0_4 : Int32} {t0_5 : Int32} {t0_6 : Int32} {t1_0 : (Nat → Int32)} {t2_0 : (Nat → Int32)} {t3_0 : (Nat → Int32)} {t4_0 : (Nat → Int32)} {lx33 : Int32} (hr : wR t1_0 t2_0)(hx2 : 0 ≤ x2.toInt ∧ x2.toInt ≤ 10)(hx3 : 0 ≤ x3.toInt ∧ x3.toInt ≤ 10)(hx4 : 0 ≤ x4.toInt ∧ x4.toInt ≤ 10) : ∀ (n : Nat) (lx61 : Int32) (lx62 : (Nat → Int32)), (0 ≤ lx61.toInt ∧ lx61.toInt ≤ 129) → (129 - lx61.toInt < (n : Int)) → (wO lx62 264) → (S_WR_combine_L64 x2 x3 x4 x5 t0_0 t0_1 t0_2 t0_3 t0_4 t0_5 t0_6 t1_0 t2_0 t3_0 t4_0 lx33 n lx61 lx62) ∧ Q_WR_combine (F_WR_combine_L64 x2 x3 x4 x5 t0_0 t0_1 t0_2 t0_3 t0_4 t0_5 t0_6 t1_0 t2_0 t3_0 t4_0 lx33 n lx61 lx62) := by
  intro n
  induction n with
  | zero => intro lx61 lx62 h0 hm ho; exact absurd (show False by omega) id
  | succ n ih =>
    intro lx61 lx62 h0 hm ho
    have e0 : (0 : Int32).toInt = 0 := rfl
    have e128 : (128 : Int32).toInt = 128 := rfl
    rw [S_WR_combine_L64.eq_2, F_WR_combine_L64.eq_2]
    by_cases g1 : (128 : Int32) < lx61
    ·
      rw [if_pos g1, if_pos g1]
      have g1i : 128 < lx61.toInt := q_ltI g1
      by_cases g2 : (lx62 (128 : Int32).toNatClampNeg : Int32) < (32768 : Int32)
      ·
        rw [if_pos g2, if_pos g2]
        unfold S_WR_combine_J170 F_WR_combine_J170
        have g3 : ((0 : Int32) = (0 : Int32)) := (by decide)
        rw [if_pos g3, if_pos g3]
        have h4 := R_store  (x2 := x4) (t0_0 := lx33) (t0_1 := (2 : Int32)) (t0_2 := t0_2) (t0_3 := (0 : Int32)) (t0_4 := t0_4) (t0_5 := t0_5) (t0_6 := t0_6) (t1_0 := t1_0) (t2_0 := t2_0) (t3_0 := lx62) (by first | with_reducible assumption | omega | (with_reducible refine wO_upd ?_ (w_and16 ?_) <;> first | with_reducible assumption) | (with_reducible refine wO_upd ?_ (w_or17 ?_ ?_) <;> first | with_reducible assumption) | (with_reducible refine wO_upd ?_ (w_xor16 ?_ ?_) <;> first | with_reducible assumption) | decide) (by first | with_reducible assumption | omega | (with_reducible refine wO_upd ?_ (w_and16 ?_) <;> first | with_reducible assumption) | (with_reducible refine wO_upd ?_ (w_or17 ?_ ?_) <;> first | with_reducible assumption) | (with_reducible refine wO_upd ?_ (w_xor16 ?_ ?_) <;> first | with_reducible assumption) | decide) (by first | with_reducible assumption | omega | (with_reducible refine wO_upd ?_ (w_and16 ?_) <;> first | with_reducible assumption) | (with_reducible refine wO_upd ?_ (w_or17 ?_ ?_) <;> first | with_reducible assumption) | (with_reducible refine wO_upd ?_ (w_xor16 ?_ ?_) <;> first | with_reducible assumption) | decide)
        have h4r := h4.2
        with_reducible refine v_owe h4.1 ?_
        replace h4 := h4.2
        generalize F_WR_store x4 lx33 (2 : Int32) t0_2 (0 : Int32) t0_4 t0_5 t0_6 t1_0 t2_0 lx62 = p128 at *
        unfold S_WR_combine_c240 F_WR_combine_c240
        refine ⟨trivial, ?_⟩
        (unfold Q_WR_combine; dsimp only; first | with_reducible assumption | exact hr)
      ·
        rw [if_neg g2, if_neg g2]
        unfold S_WR_combine_J170 F_WR_combine_J170
        have g5 : ¬ ((1 : Int32) = (0 : Int32)) := (by decide)
        rw [if_neg g5, if_neg g5]
        exact v_cmb2 hr hx2 hx3 hx4 _ _ _ (by decide) (by decide) ho
    ·
      rw [if_neg g1, if_neg g1]
      have g1i : lx61.toInt ≤ 128 := q_nltI g1
      have h6 := R_limb  (x2 := x2) (x3 := lx61) (t0_0 := lx33) (t0_1 := (2 : Int32)) (t0_2 := t0_2) (t0_3 := t0_3) (t0_4 := t0_4) (t0_5 := t0_5) (t0_6 := t0_6) (t1_0 := t1_0) (t2_0 := t2_0) (by first | with_reducible assumption | omega | (with_reducible refine wO_upd ?_ (w_and16 ?_) <;> first | with_reducible assumption) | (with_reducible refine wO_upd ?_ (w_or17 ?_ ?_) <;> first | with_reducible assumption) | (with_reducible refine wO_upd ?_ (w_xor16 ?_ ?_) <;> first | with_reducible assumption) | decide) (by first | with_reducible assumption | omega | (with_reducible refine wO_upd ?_ (w_and16 ?_) <;> first | with_reducible assumption) | (with_reducible refine wO_upd ?_ (w_or17 ?_ ?_) <;> first | with_reducible assumption) | (with_reducible refine wO_upd ?_ (w_xor16 ?_ ?_) <;> first | with_reducible assumption) | decide) ⟨by first | omega | decide, by first | omega | decide⟩
      have h6b := h6.2
      with_reducible refine v_owe h6.1 ?_
      have h7 := R_limb  (x2 := x3) (x3 := lx61) (t0_0 := lx33) (t0_1 := (2 : Int32)) (t0_2 := t0_2) (t0_3 := t0_3) (t0_4 := t0_4) (t0_5 := t0_5) (t0_6 := t0_6) (t1_0 := t1_0) (t2_0 := t2_0) (by first | with_reducible assumption | omega | (with_reducible refine wO_upd ?_ (w_and16 ?_) <;> first | with_reducible assumption) | (with_reducible refine wO_upd ?_ (w_or17 ?_ ?_) <;> first | with_reducible assumption) | (with_reducible refine wO_upd ?_ (w_xor16 ?_ ?_) <;> first | with_reducible assumption) | decide) (by first | with_reducible assumption | omega | (with_reducible refine wO_upd ?_ (w_and16 ?_) <;> first | with_reducible assumption) | (with_reducible refine wO_upd ?_ (w_or17 ?_ ?_) <;> first | with_reducible assumption) | (with_reducible refine wO_upd ?_ (w_xor16 ?_ ?_) <;> first | with_reducible assumption) | decide) ⟨by first | omega | decide, by first | omega | decide⟩
      have h7b := h7.2
      with_reducible refine v_owe h7.1 ?_
      by_cases g8 : x5 = (0 : Int32)
      ·
        rw [if_pos g8, if_pos g8]
        have g8i : x5.toInt = 0 := q_eqI g8
        obtain ⟨a9, e10⟩ := q_nm (lx61 + 1 : Int32)
        rw [e10]
        have a9i : a9.toInt = lx61.toInt + 1 := by rw [← e10]; exact q_addI (x := lx61.toInt) (y := 1) rfl (by decide) (by omega) (by omega)
        exact ih _ _ (by first | with_reducible assumption | omega | (with_reducible refine wO_upd ?_ (w_and16 ?_) <;> first | with_reducible assumption) | (with_reducible refine wO_upd ?_ (w_or17 ?_ ?_) <;> first | with_reducible assumption) | (with_reducible refine wO_upd ?_ (w_xor16 ?_ ?_) <;> first | with_reducible assumption) | decide) (by first | with_reducible assumption | omega | (with_reducible refine wO_upd ?_ (w_and16 ?_) <;> first | with_reducible assumption) | (with_reducible refine wO_upd ?_ (w_or17 ?_ ?_) <;> first | with_reducible assumption) | (with_reducible refine wO_upd ?_ (w_xor16 ?_ ?_) <;> first | with_reducible assumption) | decide) (by first | with_reducible assumption | omega | (with_reducible refine wO_upd ?_ (w_and16 ?_) <;> first | with_reducible assumption) | (with_reducible refine wO_upd ?_ (w_or17 ?_ ?_) <;> first | with_reducible assumption) | (with_reducible refine wO_upd ?_ (w_xor16 ?_ ?_) <;> first | with_reducible assumption) | decide)
      ·
        rw [if_neg g8, if_neg g8]
        have g8i : x5.toInt ≠ 0 := q_neI g8
        by_cases g11 : x5 = (1 : Int32)
        ·
          rw [if_pos g11, if_pos g11]
          have g11i : x5.toInt = 1 := q_eqI g11
          obtain ⟨a12, e13⟩ := q_nm (lx61 + 1 : Int32)
          rw [e13]
          have a12i : a12.toInt = lx61.toInt + 1 := by rw [← e13]; exact q_addI (x := lx61.toInt) (y := 1) rfl (by decide) (by omega) (by omega)
          exact ih _ _ (by first | with_reducible assumption | omega | (with_reducible refine wO_upd ?_ (w_and16 ?_) <;> first | with_reducible assumption) | (with_reducible refine wO_upd ?_ (w_or17 ?_ ?_) <;> first | with_reducible assumption) | (with_reducible refine wO_upd ?_ (w_xor16 ?_ ?_) <;> first | with_reducible assumption) | decide) (by first | with_reducible assumption | omega | (with_reducible refine wO_upd ?_ (w_and16 ?_) <;> first | with_reducible assumption) | (with_reducible refine wO_upd ?_ (w_or17 ?_ ?_) <;> first | with_reducible assumption) | (with_reducible refine wO_upd ?_ (w_xor16 ?_ ?_) <;> first | with_reducible assumption) | decide) (by first | with_reducible assumption | omega | (with_reducible refine wO_upd ?_ (w_and16 ?_) <;> first | with_reducible assumption) | (with_reducible refine wO_upd ?_ (w_or17 ?_ ?_) <;> first | with_reducible assumption) | (with_reducible refine wO_upd ?_ (w_xor16 ?_ ?_) <;> first | with_reducible assumption) | decide)
        ·
          rw [if_neg g11, if_neg g11]
          have g11i : x5.toInt ≠ 1 := q_neI g11
          by_cases g14 : x5 = (2 : Int32)
          ·
            rw [if_pos g14, if_pos g14]
            have g14i : x5.toInt = 2 := q_eqI g14
            obtain ⟨a15, e16⟩ := q_nm (lx61 + 1 : Int32)
            rw [e16]
            have a15i : a15.toInt = lx61.toInt + 1 := by rw [← e16]; exact q_addI (x := lx61.toInt) (y := 1) rfl (by decide) (by omega) (by omega)
            exact ih _ _ (by first | with_reducible assumption | omega | (with_reducible refine wO_upd ?_ (w_and16 ?_) <;> first | with_reducible assumption) | (with_reducible refine wO_upd ?_ (w_or17 ?_ ?_) <;> first | with_reducible assumption) | (with_reducible refine wO_upd ?_ (w_xor16 ?_ ?_) <;> first | with_reducible assumption) | decide) (by first | with_reducible assumption | omega | (with_reducible refine wO_upd ?_ (w_and16 ?_) <;> first | with_reducible assumption) | (with_reducible refine wO_upd ?_ (w_or17 ?_ ?_) <;> first | with_reducible assumption) | (with_reducible refine wO_upd ?_ (w_xor16 ?_ ?_) <;> first | with_reducible assumption) | decide) (by first | with_reducible assumption | omega | (with_reducible refine wO_upd ?_ (w_and16 ?_) <;> first | with_reducible assumption) | (with_reducible refine wO_upd ?_ (w_or17 ?_ ?_) <;> first | with_reducible assumption) | (with_reducible refine wO_upd ?_ (w_xor16 ?_ ?_) <;> first | with_reducible assumption) | decide)
          ·
            rw [if_neg g14, if_neg g14]
            have g14i : x5.toInt ≠ 2 := q_neI g14
            obtain ⟨a17, e18⟩ := q_nm (lx61 + 1 : Int32)
            rw [e18]
            have a17i : a17.toInt = lx61.toInt + 1 := by rw [← e18]; exact q_addI (x := lx61.toInt) (y := 1) rfl (by decide) (by omega) (by omega)
            exact ih _ _ (by first | with_reducible assumption | omega | (with_reducible refine wO_upd ?_ (w_and16 ?_) <;> first | with_reducible assumption) | (with_reducible refine wO_upd ?_ (w_or17 ?_ ?_) <;> first | with_reducible assumption) | (with_reducible refine wO_upd ?_ (w_xor16 ?_ ?_) <;> first | with_reducible assumption) | decide) (by first | with_reducible assumption | omega | (with_reducible refine wO_upd ?_ (w_and16 ?_) <;> first | with_reducible assumption) | (with_reducible refine wO_upd ?_ (w_or17 ?_ ?_) <;> first | with_reducible assumption) | (with_reducible refine wO_upd ?_ (w_xor16 ?_ ?_) <;> first | with_reducible assumption) | decide) (by first | with_reducible assumption | omega | (with_reducible refine wO_upd ?_ (w_and16 ?_) <;> first | with_reducible assumption) | (with_reducible refine wO_upd ?_ (w_or17 ?_ ?_) <;> first | with_reducible assumption) | (with_reducible refine wO_upd ?_ (w_xor16 ?_ ?_) <;> first | with_reducible assumption) | decide)
theorem T_WR_combine {x2 : Int32} {x3 : Int32} {x4 : Int32} {x5 : Int32} {t0_0 : Int32} {t0_1 : Int32} {t0_2 : Int32} {t0_3 : Int32} {t0_4 : Int32} {t0_5 : Int32} {t0_6 : Int32} {t1_0 : (Nat → Int32)} {t2_0 : (Nat → Int32)} {t3_0 : (Nat → Int32)} {t4_0 : (Nat → Int32)} (hr : wR t1_0 t2_0) : (S_WR_combine x2 x3 x4 x5 t0_0 t0_1 t0_2 t0_3 t0_4 t0_5 t0_6 t1_0 t2_0 t3_0 t4_0) ∧ Q_WR_combine (F_WR_combine x2 x3 x4 x5 t0_0 t0_1 t0_2 t0_3 t0_4 t0_5 t0_6 t1_0 t2_0 t3_0 t4_0) := by
  have e0 : (0 : Int32).toInt = 0 := rfl
  have e128 : (128 : Int32).toInt = 128 := rfl
  unfold S_WR_combine F_WR_combine
  by_cases g1 : ((F_WR_no x2) : Int32) = (0 : Int32)
  ·
    rw [if_pos g1, if_pos g1]
    have g1r := w_no g1
    by_cases g2 : ((F_WR_no x3) : Int32) = (0 : Int32)
    ·
      rw [if_pos g2, if_pos g2]
      have g2r := w_no g2
      by_cases g3 : ((F_WR_no x4) : Int32) = (0 : Int32)
      ·
        rw [if_pos g3, if_pos g3]
        have g3r := w_no g3
        by_cases g4 : x5 < (0 : Int32)
        ·
          rw [if_pos g4, if_pos g4]
          have g4i : x5.toInt < 0 := q_ltI g4
          unfold S_WR_combine_J33 F_WR_combine_J33
          unfold S_WR_combine_J38 F_WR_combine_J38
          have g5 : ¬ ((1 : Int32) ≤ (0 : Int32)) := (by decide)
          rw [if_neg g5, if_neg g5]
          refine ⟨trivial, ?_⟩
          (unfold Q_WR_combine; dsimp only; first | with_reducible assumption | exact hr)
        ·
          rw [if_neg g4, if_neg g4]
          have g4i : 0 ≤ x5.toInt := q_nltI g4
          by_cases g6 : x5 ≤ (3 : Int32)
          ·
            rw [if_pos g6, if_pos g6]
            have g6i : x5.toInt ≤ 3 := q_leI g6
            unfold S_WR_combine_J38 F_WR_combine_J38
            have g7 : ((0 : Int32) ≤ (0 : Int32)) := (by decide)
            rw [if_pos g7, if_pos g7]
            exact v_cmb1 hr (by with_reducible assumption) (by with_reducible assumption) (by with_reducible assumption) _ _ _ (by decide) (by decide) R_cl
          ·
            rw [if_neg g6, if_neg g6]
            have g6i : 3 < x5.toInt := q_nleI g6
            unfold S_WR_combine_J33 F_WR_combine_J33
            unfold S_WR_combine_J38 F_WR_combine_J38
            have g8 : ¬ ((1 : Int32) ≤ (0 : Int32)) := (by decide)
            rw [if_neg g8, if_neg g8]
            refine ⟨trivial, ?_⟩
            (unfold Q_WR_combine; dsimp only; first | with_reducible assumption | exact hr)
      ·
        rw [if_neg g3, if_neg g3]
        unfold S_WR_combine_J33 F_WR_combine_J33
        unfold S_WR_combine_J38 F_WR_combine_J38
        have g9 : ¬ ((1 : Int32) ≤ (0 : Int32)) := (by decide)
        rw [if_neg g9, if_neg g9]
        refine ⟨trivial, ?_⟩
        (unfold Q_WR_combine; dsimp only; first | with_reducible assumption | exact hr)
    ·
      rw [if_neg g2, if_neg g2]
      unfold S_WR_combine_J33 F_WR_combine_J33
      unfold S_WR_combine_J38 F_WR_combine_J38
      have g10 : ¬ ((1 : Int32) ≤ (0 : Int32)) := (by decide)
      rw [if_neg g10, if_neg g10]
      refine ⟨trivial, ?_⟩
      (unfold Q_WR_combine; dsimp only; first | with_reducible assumption | exact hr)
  ·
    rw [if_neg g1, if_neg g1]
    unfold S_WR_combine_J33 F_WR_combine_J33
    unfold S_WR_combine_J38 F_WR_combine_J38
    have g11 : ¬ ((1 : Int32) ≤ (0 : Int32)) := (by decide)
    rw [if_neg g11, if_neg g11]
    refine ⟨trivial, ?_⟩
    (unfold Q_WR_combine; dsimp only; first | with_reducible assumption | exact hr)
theorem T_WR_compare {x2 : Int32} {x3 : Int32} {t0_0 : Int32} {t0_1 : Int32} {t0_2 : Int32} {t0_3 : Int32} {t0_4 : Int32} {t0_5 : Int32} {t0_6 : Int32} {t1_0 : (Nat → Int32)} {t2_0 : (Nat → Int32)} {t3_0 : (Nat → Int32)} {t4_0 : (Nat → Int32)} (hr : wR t1_0 t2_0) : (S_WR_compare x2 x3 t0_0 t0_1 t0_2 t0_3 t0_4 t0_5 t0_6 t1_0 t2_0 t3_0 t4_0) := by
  have e0 : (0 : Int32).toInt = 0 := rfl
  unfold S_WR_compare
  by_cases g1 : ((F_WR_no x2) : Int32) = (0 : Int32)
  ·
    rw [if_pos g1]
    have g1r := w_no g1
    by_cases g2 : ((F_WR_no x3) : Int32) = (0 : Int32)
    ·
      rw [if_pos g2]
      have g2r := w_no g2
      unfold S_WR_compare_J20
      have g3 : ((0 : Int32) ≤ (0 : Int32)) := (by decide)
      rw [if_pos g3]
      refine And.intro (by omega) ?_
      refine And.intro (by omega) ?_
      refine And.intro (by omega) ?_
      refine And.intro (by omega) ?_
      by_cases g4 : (t2_0 x2.toNatClampNeg : Int32) = (t2_0 x3.toNatClampNeg : Int32)
      ·
        rw [if_pos g4]
        have h5 := R_take  (x2 := x2) (t0_0 := (0 : Int32)) (t0_1 := t0_1) (t0_2 := t0_2) (t0_3 := t0_3) (t0_4 := t0_4) (t0_5 := t0_5) (t0_6 := t0_6) (t1_0 := t1_0) (t2_0 := t3_0) (by first | with_reducible assumption | with_reducible exact R_cl | (with_reducible apply R_cp; first | with_reducible assumption | with_reducible exact R_cl) | (with_reducible refine wO_upd ?_ w_m16; with_reducible assumption) | (with_reducible apply wR.mi <;> with_reducible assumption)  | omega | decide) (wR.o (by with_reducible assumption))
        have h5k := h5.2.1
        have h5v := h5.2
        with_reducible refine v_oweS h5.1 ?_
        have h6 := R_take  (x2 := x3) (t0_0 := (0 : Int32)) (t0_1 := t0_1) (t0_2 := t0_2) (t0_3 := t0_3) (t0_4 := t0_4) (t0_5 := t0_5) (t0_6 := t0_6) (t1_0 := t1_0) (t2_0 := t4_0) (by first | with_reducible assumption | with_reducible exact R_cl | (with_reducible apply R_cp; first | with_reducible assumption | with_reducible exact R_cl) | (with_reducible refine wO_upd ?_ w_m16; with_reducible assumption) | (with_reducible apply wR.mi <;> with_reducible assumption)  | omega | decide) (wR.o (by with_reducible assumption))
        have h6k := h6.2.1
        have h6v := h6.2
        with_reducible refine v_oweS h6.1 ?_
        have h7 := R_cmp4  (f := ((F_WR_take x2 (264 : Int32) (0 : Int32) t0_1 t0_2 t0_3 t0_4 t0_5 t0_6 t1_0 t3_0) : (Nat → Int32))) (g := ((F_WR_take x3 (264 : Int32) (0 : Int32) t0_1 t0_2 t0_3 t0_4 t0_5 t0_6 t1_0 t4_0) : (Nat → Int32))) (by first | with_reducible assumption | with_reducible exact R_cl | (with_reducible apply R_cp; first | with_reducible assumption | with_reducible exact R_cl) | (with_reducible refine wO_upd ?_ w_m16; with_reducible assumption) | (with_reducible apply wR.mi <;> with_reducible assumption)  | omega | decide) (by first | with_reducible assumption | with_reducible exact R_cl | (with_reducible apply R_cp; first | with_reducible assumption | with_reducible exact R_cl) | (with_reducible refine wO_upd ?_ w_m16; with_reducible assumption) | (with_reducible apply wR.mi <;> with_reducible assumption)  | omega | decide)
        have h7c := h7.2
        with_reducible refine v_oweS h7.1 ?_
        by_cases g8 : (t2_0 x2.toNatClampNeg : Int32) = (0 : Int32)
        ·
          rw [if_pos g8]
          exact trivial
        ·
          rw [if_neg g8]
          exact trivial
      ·
        rw [if_neg g4]
        by_cases g9 : (t2_0 x2.toNatClampNeg : Int32) = (0 : Int32)
        ·
          rw [if_pos g9]
          exact trivial
        ·
          rw [if_neg g9]
          exact trivial
    ·
      rw [if_neg g2]
      unfold S_WR_compare_J15
      unfold S_WR_compare_J20
      have g10 : ¬ ((1 : Int32) ≤ (0 : Int32)) := (by decide)
      rw [if_neg g10]
      exact trivial
  ·
    rw [if_neg g1]
    unfold S_WR_compare_J15
    unfold S_WR_compare_J20
    have g11 : ¬ ((1 : Int32) ≤ (0 : Int32)) := (by decide)
    rw [if_neg g11]
    exact trivial
theorem w_d16 {b : Int32} (h : 0 ≤ b.toInt ∧ b.toInt ≤ 2047) : 0 ≤ (b / 16).toInt ∧ (b / 16).toInt ≤ 127 := by
  rw [w_div16 h.1]
  omega
theorem v_tolL {x2 : Int32} {x3 : Int32} {t0_0 : Int32} {t0_1 : Int32} {t0_2 : Int32} {t0_3 : Int32} {t0_4 : Int32} {t0_5 : Int32} {t0_6 : Int32} {t1_0 : (Nat → Int32)} {t2_0 : (Nat → Int32)} {lx27 : Int32} {lx51 : Int32} (hr : wR t1_0 t2_0)(hx2 : 0 ≤ x2.toInt ∧ x2.toInt ≤ 10) : ∀ (n : Nat) (lx67 : Int32) (lx68 : Int64) (lx69 : Int64) (lx70 : Int64), (-1 ≤ lx67.toInt ∧ lx67.toInt ≤ 2047) → (lx67.toInt + 1 < (n : Int)) → (S_WR_told_L144 x2 x3 t0_0 t0_1 t0_2 t0_3 t0_4 t0_5 t0_6 t1_0 t2_0 lx27 lx51 n lx67 lx68 lx69 lx70) := by
  intro n
  induction n with
  | zero => intro lx67 lx68 lx69 lx70 h0 hm; exact absurd (show False by omega) id
  | succ n ih =>
    intro lx67 lx68 lx69 lx70 h0 hm
    have e0 : (0 : Int32).toInt = 0 := rfl
    rw [S_WR_told_L144.eq_2]
    by_cases g1 : lx67 < (0 : Int32)
    ·
      rw [if_pos g1]
      have g1i : lx67.toInt < 0 := q_ltI g1
      by_cases g2 : x3 = (2 : Int32)
      ·
        rw [if_pos g2]
        have g2i : x3.toInt = 2 := q_eqI g2
        exact trivial
      ·
        rw [if_neg g2]
        have g2i : x3.toInt ≠ 2 := q_neI g2
        by_cases g3 : x3 = (3 : Int32)
        ·
          rw [if_pos g3]
          have g3i : x3.toInt = 3 := q_eqI g3
          exact trivial
        ·
          rw [if_neg g3]
          have g3i : x3.toInt ≠ 3 := q_neI g3
          exact trivial
    ·
      rw [if_neg g1]
      have g1i : 0 ≤ lx67.toInt := q_nltI g1
      have h4 := R_limb  (x2 := x2) (x3 := (lx67 / 16 : Int32)) (t0_0 := lx27) (t0_1 := t0_1) (t0_2 := t0_2) (t0_3 := t0_3) (t0_4 := t0_4) (t0_5 := t0_5) (t0_6 := t0_6) (t1_0 := t1_0) (t2_0 := t2_0) (by first | with_reducible assumption | with_reducible exact R_cl | (with_reducible apply R_cp; first | with_reducible assumption | with_reducible exact R_cl) | (with_reducible refine wO_upd ?_ w_m16; with_reducible assumption) | (with_reducible apply wR.mi <;> with_reducible assumption)  | omega | decide) (by first | with_reducible assumption | with_reducible exact R_cl | (with_reducible apply R_cp; first | with_reducible assumption | with_reducible exact R_cl) | (with_reducible refine wO_upd ?_ w_m16; with_reducible assumption) | (with_reducible apply wR.mi <;> with_reducible assumption)  | omega | decide) (by first | (have := w_d16 (b := lx67) ⟨by omega, by omega⟩; omega) | decide)
      with_reducible refine v_oweS h4.1 ?_
      by_cases g5 : ((((F_WR_limb x2 (lx67 / 16 : Int32) lx27 t0_1 t0_2 t0_3 t0_4 t0_5 t0_6 t1_0 t2_0) : Int32) >>> ((lx67 - lx67 / 16 * 16 : Int32) &&& 31) : Int32) &&& 1 : Int32) = lx51
      ·
        rw [if_pos g5]
        unfold S_WR_told_J190
        unfold S_WR_told_J192
        rw [if_pos g5]
        unfold S_WR_told_J209
        by_cases g6 : ((((F_WR_limb x2 (lx67 / 16 : Int32) lx27 t0_1 t0_2 t0_3 t0_4 t0_5 t0_6 t1_0 t2_0) : Int32) >>> ((lx67 - lx67 / 16 * 16 : Int32) &&& 31) : Int32) &&& 1 : Int32) = (1 : Int32)
        ·
          rw [if_pos g6]
          refine And.intro (by rw [q_i2l rfl]; omega) ?_
          obtain ⟨a7, e8⟩ := q_nm (lx67 + (-1) : Int32)
          rw [e8]
          have a7i : a7.toInt = lx67.toInt + (-1) := by rw [← e8]; exact q_addI (x := lx67.toInt) (y := (-1)) rfl (by decide) (by omega) (by omega)
          exact ih _ _ _ _ (by first | with_reducible assumption | with_reducible exact R_cl | (with_reducible apply R_cp; first | with_reducible assumption | with_reducible exact R_cl) | (with_reducible refine wO_upd ?_ w_m16; with_reducible assumption) | (with_reducible apply wR.mi <;> with_reducible assumption)  | omega | decide) (by first | with_reducible assumption | with_reducible exact R_cl | (with_reducible apply R_cp; first | with_reducible assumption | with_reducible exact R_cl) | (with_reducible refine wO_upd ?_ w_m16; with_reducible assumption) | (with_reducible apply wR.mi <;> with_reducible assumption)  | omega | decide)
        ·
          rw [if_neg g6]
          obtain ⟨a9, e10⟩ := q_nm (lx67 + (-1) : Int32)
          rw [e10]
          have a9i : a9.toInt = lx67.toInt + (-1) := by rw [← e10]; exact q_addI (x := lx67.toInt) (y := (-1)) rfl (by decide) (by omega) (by omega)
          exact ih _ _ _ _ (by first | with_reducible assumption | with_reducible exact R_cl | (with_reducible apply R_cp; first | with_reducible assumption | with_reducible exact R_cl) | (with_reducible refine wO_upd ?_ w_m16; with_reducible assumption) | (with_reducible apply wR.mi <;> with_reducible assumption)  | omega | decide) (by first | with_reducible assumption | with_reducible exact R_cl | (with_reducible apply R_cp; first | with_reducible assumption | with_reducible exact R_cl) | (with_reducible refine wO_upd ?_ w_m16; with_reducible assumption) | (with_reducible apply wR.mi <;> with_reducible assumption)  | omega | decide)
      ·
        rw [if_neg g5]
        by_cases g11 : (lg_cmp lx70 0 : Int32) = (0 : Int32)
        ·
          rw [if_pos g11]
          unfold S_WR_told_J192
          rw [if_neg g5]
          unfold S_WR_told_J209
          by_cases g12 : ((((F_WR_limb x2 (lx67 / 16 : Int32) lx27 t0_1 t0_2 t0_3 t0_4 t0_5 t0_6 t1_0 t2_0) : Int32) >>> ((lx67 - lx67 / 16 * 16 : Int32) &&& 31) : Int32) &&& 1 : Int32) = (1 : Int32)
          ·
            rw [if_pos g12]
            refine And.intro (by rw [q_i2l rfl]; omega) ?_
            obtain ⟨a13, e14⟩ := q_nm (lx67 + (-1) : Int32)
            rw [e14]
            have a13i : a13.toInt = lx67.toInt + (-1) := by rw [← e14]; exact q_addI (x := lx67.toInt) (y := (-1)) rfl (by decide) (by omega) (by omega)
            obtain ⟨a15, e16⟩ := q_nm (lx67 + 1 : Int32)
            rw [e16]
            have a15i : a15.toInt = lx67.toInt + 1 := by rw [← e16]; exact q_addI (x := lx67.toInt) (y := 1) rfl (by decide) (by omega) (by omega)
            exact ih _ _ _ _ (by first | with_reducible assumption | with_reducible exact R_cl | (with_reducible apply R_cp; first | with_reducible assumption | with_reducible exact R_cl) | (with_reducible refine wO_upd ?_ w_m16; with_reducible assumption) | (with_reducible apply wR.mi <;> with_reducible assumption)  | omega | decide) (by first | with_reducible assumption | with_reducible exact R_cl | (with_reducible apply R_cp; first | with_reducible assumption | with_reducible exact R_cl) | (with_reducible refine wO_upd ?_ w_m16; with_reducible assumption) | (with_reducible apply wR.mi <;> with_reducible assumption)  | omega | decide)
          ·
            rw [if_neg g12]
            obtain ⟨a17, e18⟩ := q_nm (lx67 + (-1) : Int32)
            rw [e18]
            have a17i : a17.toInt = lx67.toInt + (-1) := by rw [← e18]; exact q_addI (x := lx67.toInt) (y := (-1)) rfl (by decide) (by omega) (by omega)
            obtain ⟨a19, e20⟩ := q_nm (lx67 + 1 : Int32)
            rw [e20]
            have a19i : a19.toInt = lx67.toInt + 1 := by rw [← e20]; exact q_addI (x := lx67.toInt) (y := 1) rfl (by decide) (by omega) (by omega)
            exact ih _ _ _ _ (by first | with_reducible assumption | with_reducible exact R_cl | (with_reducible apply R_cp; first | with_reducible assumption | with_reducible exact R_cl) | (with_reducible refine wO_upd ?_ w_m16; with_reducible assumption) | (with_reducible apply wR.mi <;> with_reducible assumption)  | omega | decide) (by first | with_reducible assumption | with_reducible exact R_cl | (with_reducible apply R_cp; first | with_reducible assumption | with_reducible exact R_cl) | (with_reducible refine wO_upd ?_ w_m16; with_reducible assumption) | (with_reducible apply wR.mi <;> with_reducible assumption)  | omega | decide)
        ·
          rw [if_neg g11]
          unfold S_WR_told_J190
          unfold S_WR_told_J192
          rw [if_neg g5]
          unfold S_WR_told_J209
          by_cases g21 : ((((F_WR_limb x2 (lx67 / 16 : Int32) lx27 t0_1 t0_2 t0_3 t0_4 t0_5 t0_6 t1_0 t2_0) : Int32) >>> ((lx67 - lx67 / 16 * 16 : Int32) &&& 31) : Int32) &&& 1 : Int32) = (1 : Int32)
          ·
            rw [if_pos g21]
            refine And.intro (by rw [q_i2l rfl]; omega) ?_
            obtain ⟨a22, e23⟩ := q_nm (lx67 + (-1) : Int32)
            rw [e23]
            have a22i : a22.toInt = lx67.toInt + (-1) := by rw [← e23]; exact q_addI (x := lx67.toInt) (y := (-1)) rfl (by decide) (by omega) (by omega)
            exact ih _ _ _ _ (by first | with_reducible assumption | with_reducible exact R_cl | (with_reducible apply R_cp; first | with_reducible assumption | with_reducible exact R_cl) | (with_reducible refine wO_upd ?_ w_m16; with_reducible assumption) | (with_reducible apply wR.mi <;> with_reducible assumption)  | omega | decide) (by first | with_reducible assumption | with_reducible exact R_cl | (with_reducible apply R_cp; first | with_reducible assumption | with_reducible exact R_cl) | (with_reducible refine wO_upd ?_ w_m16; with_reducible assumption) | (with_reducible apply wR.mi <;> with_reducible assumption)  | omega | decide)
          ·
            rw [if_neg g21]
            obtain ⟨a24, e25⟩ := q_nm (lx67 + (-1) : Int32)
            rw [e25]
            have a24i : a24.toInt = lx67.toInt + (-1) := by rw [← e25]; exact q_addI (x := lx67.toInt) (y := (-1)) rfl (by decide) (by omega) (by omega)
            exact ih _ _ _ _ (by first | with_reducible assumption | with_reducible exact R_cl | (with_reducible apply R_cp; first | with_reducible assumption | with_reducible exact R_cl) | (with_reducible refine wO_upd ?_ w_m16; with_reducible assumption) | (with_reducible apply wR.mi <;> with_reducible assumption)  | omega | decide) (by first | with_reducible assumption | with_reducible exact R_cl | (with_reducible apply R_cp; first | with_reducible assumption | with_reducible exact R_cl) | (with_reducible refine wO_upd ?_ w_m16; with_reducible assumption) | (with_reducible apply wR.mi <;> with_reducible assumption)  | omega | decide)
theorem T_WR_told {x2 : Int32} {x3 : Int32} {t0_0 : Int32} {t0_1 : Int32} {t0_2 : Int32} {t0_3 : Int32} {t0_4 : Int32} {t0_5 : Int32} {t0_6 : Int32} {t1_0 : (Nat → Int32)} {t2_0 : (Nat → Int32)} (hr : wR t1_0 t2_0) : (S_WR_told x2 x3 t0_0 t0_1 t0_2 t0_3 t0_4 t0_5 t0_6 t1_0 t2_0) := by
  have e0 : (0 : Int32).toInt = 0 := rfl
  unfold S_WR_told
  by_cases g1 : ((F_WR_no x2) : Int32) = (0 : Int32)
  ·
    rw [if_pos g1]
    have g1r := w_no g1
    by_cases g2 : x3 < (0 : Int32)
    ·
      rw [if_pos g2]
      have g2i : x3.toInt < 0 := q_ltI g2
      unfold S_WR_told_J17
      unfold S_WR_told_J22
      have g3 : ¬ ((1 : Int32) ≤ (0 : Int32)) := (by decide)
      rw [if_neg g3]
      exact trivial
    ·
      rw [if_neg g2]
      have g2i : 0 ≤ x3.toInt := q_nltI g2
      by_cases g4 : x3 ≤ (4 : Int32)
      ·
        rw [if_pos g4]
        have g4i : x3.toInt ≤ 4 := q_leI g4
        unfold S_WR_told_J22
        have g5 : ((0 : Int32) ≤ (0 : Int32)) := (by decide)
        rw [if_pos g5]
        by_cases g6 : x3 = (0 : Int32)
        ·
          rw [if_pos g6]
          have g6i : x3.toInt = 0 := q_eqI g6
          have h7 := R_limb  (x2 := x2) (x3 := (0 : Int32)) (t0_0 := (0 : Int32)) (t0_1 := t0_1) (t0_2 := t0_2) (t0_3 := t0_3) (t0_4 := t0_4) (t0_5 := t0_5) (t0_6 := t0_6) (t1_0 := t1_0) (t2_0 := t2_0) (by first | with_reducible assumption | with_reducible exact R_cl | (with_reducible apply R_cp; first | with_reducible assumption | with_reducible exact R_cl) | (with_reducible refine wO_upd ?_ w_m16; with_reducible assumption) | (with_reducible apply wR.mi <;> with_reducible assumption)  | omega | decide) (by first | with_reducible assumption | with_reducible exact R_cl | (with_reducible apply R_cp; first | with_reducible assumption | with_reducible exact R_cl) | (with_reducible refine wO_upd ?_ w_m16; with_reducible assumption) | (with_reducible apply wR.mi <;> with_reducible assumption)  | omega | decide) (by first | (have := w_d16 (b := lx67) ⟨by omega, by omega⟩; omega) | decide)
          with_reducible refine v_oweS h7.1 ?_
          have h8 := R_limb  (x2 := x2) (x3 := (1 : Int32)) (t0_0 := (0 : Int32)) (t0_1 := t0_1) (t0_2 := t0_2) (t0_3 := t0_3) (t0_4 := t0_4) (t0_5 := t0_5) (t0_6 := t0_6) (t1_0 := t1_0) (t2_0 := t2_0) (by first | with_reducible assumption | with_reducible exact R_cl | (with_reducible apply R_cp; first | with_reducible assumption | with_reducible exact R_cl) | (with_reducible refine wO_upd ?_ w_m16; with_reducible assumption) | (with_reducible apply wR.mi <;> with_reducible assumption)  | omega | decide) (by first | with_reducible assumption | with_reducible exact R_cl | (with_reducible apply R_cp; first | with_reducible assumption | with_reducible exact R_cl) | (with_reducible refine wO_upd ?_ w_m16; with_reducible assumption) | (with_reducible apply wR.mi <;> with_reducible assumption)  | omega | decide) (by first | (have := w_d16 (b := lx67) ⟨by omega, by omega⟩; omega) | decide)
          with_reducible refine v_oweS h8.1 ?_
          have h9 := R_limb  (x2 := x2) (x3 := (2 : Int32)) (t0_0 := (0 : Int32)) (t0_1 := t0_1) (t0_2 := t0_2) (t0_3 := t0_3) (t0_4 := t0_4) (t0_5 := t0_5) (t0_6 := t0_6) (t1_0 := t1_0) (t2_0 := t2_0) (by first | with_reducible assumption | with_reducible exact R_cl | (with_reducible apply R_cp; first | with_reducible assumption | with_reducible exact R_cl) | (with_reducible refine wO_upd ?_ w_m16; with_reducible assumption) | (with_reducible apply wR.mi <;> with_reducible assumption)  | omega | decide) (by first | with_reducible assumption | with_reducible exact R_cl | (with_reducible apply R_cp; first | with_reducible assumption | with_reducible exact R_cl) | (with_reducible refine wO_upd ?_ w_m16; with_reducible assumption) | (with_reducible apply wR.mi <;> with_reducible assumption)  | omega | decide) (by first | (have := w_d16 (b := lx67) ⟨by omega, by omega⟩; omega) | decide)
          with_reducible refine v_oweS h9.1 ?_
          have h10 := R_limb  (x2 := x2) (x3 := (3 : Int32)) (t0_0 := (0 : Int32)) (t0_1 := t0_1) (t0_2 := t0_2) (t0_3 := t0_3) (t0_4 := t0_4) (t0_5 := t0_5) (t0_6 := t0_6) (t1_0 := t1_0) (t2_0 := t2_0) (by first | with_reducible assumption | with_reducible exact R_cl | (with_reducible apply R_cp; first | with_reducible assumption | with_reducible exact R_cl) | (with_reducible refine wO_upd ?_ w_m16; with_reducible assumption) | (with_reducible apply wR.mi <;> with_reducible assumption)  | omega | decide) (by first | with_reducible assumption | with_reducible exact R_cl | (with_reducible apply R_cp; first | with_reducible assumption | with_reducible exact R_cl) | (with_reducible refine wO_upd ?_ w_m16; with_reducible assumption) | (with_reducible apply wR.mi <;> with_reducible assumption)  | omega | decide) (by first | (have := w_d16 (b := lx67) ⟨by omega, by omega⟩; omega) | decide)
          with_reducible refine v_oweS h10.1 ?_
          exact trivial
        ·
          rw [if_neg g6]
          have g6i : x3.toInt ≠ 0 := q_neI g6
          by_cases g11 : x3 = (1 : Int32)
          ·
            rw [if_pos g11]
            have g11i : x3.toInt = 1 := q_eqI g11
            have h12 := R_isZero  (x2 := x2) (t0_0 := (0 : Int32)) (t0_1 := t0_1) (t0_2 := t0_2) (t0_3 := t0_3) (t0_4 := t0_4) (t0_5 := t0_5) (t0_6 := t0_6) (t1_0 := t1_0) (by first | with_reducible assumption | with_reducible exact R_cl | (with_reducible apply R_cp; first | with_reducible assumption | with_reducible exact R_cl) | (with_reducible refine wO_upd ?_ w_m16; with_reducible assumption) | (with_reducible apply wR.mi <;> with_reducible assumption)  | omega | decide) (wR.o (by with_reducible assumption))
            have h12z := h12.2
            with_reducible refine v_oweS h12.1 ?_
            by_cases g13 : ((F_WR_isZero x2 (0 : Int32) t0_1 t0_2 t0_3 t0_4 t0_5 t0_6 t1_0) : Int32) = (0 : Int32)
            ·
              rw [if_pos g13]
              have g13z := w_wz g13 (by with_reducible assumption)
              refine And.intro (by omega) ?_
              refine And.intro (by omega) ?_
              by_cases g14 : (t2_0 x2.toNatClampNeg : Int32) = (0 : Int32)
              ·
                rw [if_pos g14]
                exact trivial
              ·
                rw [if_neg g14]
                exact trivial
            ·
              rw [if_neg g13]
              exact trivial
          ·
            rw [if_neg g11]
            have g11i : x3.toInt ≠ 1 := q_neI g11
            refine And.intro (by omega) ?_
            refine And.intro (by omega) ?_
            by_cases g15 : (t2_0 x2.toNatClampNeg : Int32) = (0 : Int32)
            ·
              rw [if_pos g15]
              unfold S_WR_told_J127
              exact v_tolL hr (by with_reducible assumption) _ _ _ _ _ (by decide) (by decide)
            ·
              rw [if_neg g15]
              unfold S_WR_told_J127
              exact v_tolL hr (by with_reducible assumption) _ _ _ _ _ (by decide) (by decide)
      ·
        rw [if_neg g4]
        have g4i : 4 < x3.toInt := q_nleI g4
        unfold S_WR_told_J17
        unfold S_WR_told_J22
        have g16 : ¬ ((1 : Int32) ≤ (0 : Int32)) := (by decide)
        rw [if_neg g16]
        exact trivial
  ·
    rw [if_neg g1]
    unfold S_WR_told_J17
    unfold S_WR_told_J22
    have g17 : ¬ ((1 : Int32) ≤ (0 : Int32)) := (by decide)
    rw [if_neg g17]
    exact trivial
