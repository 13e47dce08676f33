/-! WholeRows: put, power, fits, root, common, inverts, inverse -/
theorem R_cmp4 {f g : Nat → Int32} (hf : wO f 264) (hg : wO g 264) : S_WR_compareRows 264 264 f g ∧ wC (F_WR_compareRows 264 264 f g) (wV f 264) (wV g 264) := R_cmp (N := 264) (M := 264) (by decide) (by decide) hf hg
theorem w_two {x : Int32} (h : 0 ≤ x.toInt) : 0 ≤ (2 - (x - x / 2 * 2) : Int32).toInt := by
  have h1 := s_rem' (x := x) (b := 2) h (by decide)
  have e2 : (2 : Int32).toInt = 2 := rfl
  generalize (x - x / 2 * 2 : Int32) = r at h1 ⊢
  have := q_subI (a := 2) (b := r) e2 rfl (by omega) (by omega)
  omega
theorem w_m16 {x : Int64} : 0 ≤ ((x &&& 65535).toInt32).toInt ∧ ((x &&& 65535).toInt32).toInt < 65536 := by
  rw [w_and']
  exact ⟨Int.emod_nonneg _ (by decide), Int.emod_lt_of_pos _ (by decide)⟩
theorem w_bitI {b : Int32} (h : 0 ≤ b.toInt) : 0 ≤ ((1 : Int32) <<< ((b - b / 16 * 16) &&& 31)).toInt ∧ ((1 : Int32) <<< ((b - b / 16 * 16) &&& 31)).toInt ≤ 65535 := by
  have h1 := s_rem' (x := b) (b := 16) h (by decide)
  have e16 : (16 : Int32).toInt = 16 := rfl
  generalize (b - b / 16 * 16 : Int32) = r at h1 ⊢
  obtain ⟨k, hk⟩ : ∃ k : Nat, r.toInt = k := ⟨r.toInt.toNat, by omega⟩
  have e := v_shlN (x := 1) hk (by omega)
  have e1 : (1 : Int32).toBitVec.toNat = 1 := by decide
  rw [e1, Nat.one_mul] at e
  have h2 : 2 ^ k ≤ 2 ^ 15 := Nat.pow_le_pow_right (by decide) (by omega)
  have h3 : 2 ^ k % 4294967296 = 2 ^ k := Nat.mod_eq_of_lt (by omega)
  rw [h3] at e
  have h4 := s_of e (by omega)
  rw [h4]
  omega
theorem w_div16 {b : Int32} (h : 0 ≤ b.toInt) : (b / 16).toInt = b.toInt / 16 := by
  have e16 : (16 : Int32).toInt = 16 := rfl
  exact q_divI rfl e16 h (by decide)
theorem w_or16 {x y : Int32} (hx : 0 ≤ x.toInt ∧ x.toInt < 65536) (hy : 0 ≤ y.toInt ∧ y.toInt ≤ 65535) : 0 ≤ (x ||| y).toInt ∧ (x ||| y).toInt < 65536 := by
  have := s_or' (x := x) (y := y) 16 (by decide) 65535 (by decide) ⟨hx.1, by omega⟩ hy
  omega
theorem w_and16 {x y : Int32} (hx : 0 ≤ x.toInt ∧ x.toInt < 65536) : 0 ≤ (x &&& y).toInt ∧ (x &&& y).toInt < 65536 := by
  have := s_andL (x := x) (m := y) hx.1
  omega
theorem w_xor16 {x y : Int32} (hx : 0 ≤ x.toInt ∧ x.toInt < 65536) (hy : 0 ≤ y.toInt ∧ y.toInt < 65536) : 0 ≤ (x ^^^ y).toInt ∧ (x ^^^ y).toInt < 65536 := by
  have := s_xor' (x := x) (y := y) 16 (by decide) 65535 (by decide) ⟨hx.1, by omega⟩ ⟨hy.1, by omega⟩
  omega
theorem w_rootU {r : Nat → Int32} {b : Int32} (ho : wO r 264) (h : 0 ≤ b.toInt) (h2 : b.toInt ≤ 4223) : wO (upd r (b / 16).toNatClampNeg ((r (b / 16).toNatClampNeg) ||| ((1 : Int32) <<< ((b - b / 16 * 16) &&& 31)))) 264 := by
  have e := w_div16 h
  have e1 := q_clI (i := b / 16) e (by omega)
  exact wO_upd ho (w_or16 (ho _ (by omega)) (w_bitI h))
theorem w_rootD {r : Nat → Int32} {b x : Int32} (ho : wO r 264) (h : 0 ≤ b.toInt) (h2 : b.toInt ≤ 4223) : wO (upd r (b / 16).toNatClampNeg ((r (b / 16).toNatClampNeg) &&& x)) 264 := by
  have e := w_div16 h
  have e1 := q_clI (i := b / 16) e (by omega)
  exact wO_upd ho (w_and16 (ho _ (by omega)))
def Q_WR_put (p : Int32 × Int32 × Int32 × Int32 × Int32 × Int32 × Int32 × (Nat → Int32) × (Nat → Int32) × (Nat → Int32)) : Prop := wR p.2.2.2.2.2.2.2.1 p.2.2.2.2.2.2.2.2.1
theorem v_putL {x2 : Int32} {x3 : Int64} {t0_0 : Int32} {t0_1 : Int32} {t0_2 : Int32} {t0_3 : Int32} {t0_4 : Int32} {t0_5 : Int32} {t0_6 : Int32} {t1_0 : (Nat → Int32)} {t2_0 : (Nat → Int32)} {t3_0 : (Nat → Int32)} {lx30 : Int32} {f49 : (Nat → Int32)} {lx57 : Int32} {lx72 : Int64} (hr : wR t1_0 t2_0)(hx2 : 0 ≤ x2.toInt ∧ x2.toInt ≤ 10) : ∀ (n : Nat) (lx84 : Int32) (lx85 : (Nat → Int32)), (0 ≤ lx84.toInt ∧ lx84.toInt ≤ 4) → (4 - lx84.toInt < (n : Int)) → (wO lx85 264) → (S_WR_put_L64 x2 x3 t0_0 t0_1 t0_2 t0_3 t0_4 t0_5 t0_6 t1_0 t2_0 t3_0 lx30 f49 lx57 lx72 n lx84 lx85) ∧ Q_WR_put (F_WR_put_L64 x2 x3 t0_0 t0_1 t0_2 t0_3 t0_4 t0_5 t0_6 t1_0 t2_0 t3_0 lx30 f49 lx57 lx72 n lx84 lx85) := by
  intro n
  induction n with
  | zero => intro lx84 lx85 h0 hm ho; exact absurd (show False by omega) id
  | succ n ih =>
    intro lx84 lx85 h0 hm ho
    have e4 : (4 : Int32).toInt = 4 := rfl
    rw [S_WR_put_L64.eq_2, F_WR_put_L64.eq_2]
    by_cases g1 : (4 : Int32) ≤ lx84
    ·
      rw [if_pos g1, if_pos g1]
      have g1i : 4 ≤ lx84.toInt := q_leI g1
      have h2 := R_store  (x2 := x2) (t0_0 := lx30) (t0_1 := t0_1) (t0_2 := t0_2) (t0_3 := lx57) (t0_4 := t0_4) (t0_5 := t0_5) (t0_6 := t0_6) (t1_0 := t1_0) (t2_0 := t2_0) (t3_0 := lx85) (by first | with_reducible assumption | with_reducible exact R_cl | (with_reducible apply R_cp; first | with_reducible assumption | with_reducible exact R_cl) | (with_reducible refine wO_upd ?_ w_m16; with_reducible assumption) | (with_reducible apply wR.mi <;> with_reducible assumption) | omega | decide) (by first | with_reducible assumption | with_reducible exact R_cl | (with_reducible apply R_cp; first | with_reducible assumption | with_reducible exact R_cl) | (with_reducible refine wO_upd ?_ w_m16; with_reducible assumption) | (with_reducible apply wR.mi <;> with_reducible assumption) | omega | decide) (by first | with_reducible assumption | with_reducible exact R_cl | (with_reducible apply R_cp; first | with_reducible assumption | with_reducible exact R_cl) | (with_reducible refine wO_upd ?_ w_m16; with_reducible assumption) | (with_reducible apply wR.mi <;> with_reducible assumption) | omega | decide)
      have h2r := h2.2
      with_reducible refine v_owe h2.1 ?_
      replace h2 := h2.2
      generalize F_WR_store x2 lx30 t0_1 t0_2 lx57 t0_4 t0_5 t0_6 t1_0 t2_0 lx85 = p130 at *
      unfold S_WR_put_c98 F_WR_put_c98
      refine ⟨trivial, ?_⟩
      (unfold Q_WR_put; dsimp only; first | with_reducible assumption | exact hr)
    ·
      rw [if_neg g1, if_neg g1]
      have g1i : lx84.toInt < 4 := q_nleI g1
      obtain ⟨a3, e4⟩ := q_nm (lx84 + 1 : Int32)
      rw [e4]
      have a3i : a3.toInt = lx84.toInt + 1 := by rw [← e4]; exact q_addI (x := lx84.toInt) (y := 1) rfl (by decide) (by omega) (by omega)
      exact ih _ _ (by first | with_reducible assumption | with_reducible exact R_cl | (with_reducible apply R_cp; first | with_reducible assumption | with_reducible exact R_cl) | (with_reducible refine wO_upd ?_ w_m16; with_reducible assumption) | (with_reducible apply wR.mi <;> with_reducible assumption) | omega | decide) (by first | with_reducible assumption | with_reducible exact R_cl | (with_reducible apply R_cp; first | with_reducible assumption | with_reducible exact R_cl) | (with_reducible refine wO_upd ?_ w_m16; with_reducible assumption) | (with_reducible apply wR.mi <;> with_reducible assumption) | omega | decide) (by first | with_reducible assumption | with_reducible exact R_cl | (with_reducible apply R_cp; first | with_reducible assumption | with_reducible exact R_cl) | (with_reducible refine wO_upd ?_ w_m16; with_reducible assumption) | (with_reducible apply wR.mi <;> with_reducible assumption) | omega | decide)
theorem T_WR_put {x2 : Int32} {x3 : Int64} {t0_0 : Int32} {t0_1 : Int32} {t0_2 : Int32} {t0_3 : Int32} {t0_4 : Int32} {t0_5 : Int32} {t0_6 : Int32} {t1_0 : (Nat → Int32)} {t2_0 : (Nat → Int32)} {t3_0 : (Nat → Int32)} (hr : wR t1_0 t2_0) : (S_WR_put x2 x3 t0_0 t0_1 t0_2 t0_3 t0_4 t0_5 t0_6 t1_0 t2_0 t3_0) ∧ Q_WR_put (F_WR_put x2 x3 t0_0 t0_1 t0_2 t0_3 t0_4 t0_5 t0_6 t1_0 t2_0 t3_0) := by
  have e0 : (0 : Int32).toInt = 0 := rfl
  unfold S_WR_put F_WR_put
  by_cases g1 : ((F_WR_no x2) : Int32) = (0 : Int32)
  ·
    rw [if_pos g1, if_pos g1]
    have g1r := w_no g1
    unfold S_WR_put_J13 F_WR_put_J13
    have g2 : ((0 : Int32) ≤ (0 : Int32)) := (by decide)
    rw [if_pos g2, if_pos g2]
    by_cases g3 : (0 : Int32) ≤ (lg_cmp x3 0 : Int32)
    ·
      rw [if_pos g3, if_pos g3]
      have h4 := R_cl  (f := t3_0)
      generalize F_WR_clear (264 : Int32) t3_0 = f49 at *
      unfold S_WR_put_J43 F_WR_put_J43
      have g5 : ((0 : Int32) = (0 : Int32)) := (by decide)
      rw [if_pos g5, if_pos g5]
      unfold S_WR_put_J59 F_WR_put_J59
      exact v_putL hr (by first | with_reducible assumption | with_reducible exact R_cl | (with_reducible apply R_cp; first | with_reducible assumption | with_reducible exact R_cl) | (with_reducible refine wO_upd ?_ w_m16; with_reducible assumption) | (with_reducible apply wR.mi <;> with_reducible assumption) | omega | decide) _ _ _ (by first | with_reducible assumption | with_reducible exact R_cl | (with_reducible apply R_cp; first | with_reducible assumption | with_reducible exact R_cl) | (with_reducible refine wO_upd ?_ w_m16; with_reducible assumption) | (with_reducible apply wR.mi <;> with_reducible assumption) | omega | decide) (by first | with_reducible assumption | with_reducible exact R_cl | (with_reducible apply R_cp; first | with_reducible assumption | with_reducible exact R_cl) | (with_reducible refine wO_upd ?_ w_m16; with_reducible assumption) | (with_reducible apply wR.mi <;> with_reducible assumption) | omega | decide) (by first | with_reducible assumption | with_reducible exact R_cl | (with_reducible apply R_cp; first | with_reducible assumption | with_reducible exact R_cl) | (with_reducible refine wO_upd ?_ w_m16; with_reducible assumption) | (with_reducible apply wR.mi <;> with_reducible assumption) | omega | decide)
    ·
      rw [if_neg g3, if_neg g3]
      have h6 := R_cl  (f := t3_0)
      generalize F_WR_clear (264 : Int32) t3_0 = f49 at *
      unfold S_WR_put_J43 F_WR_put_J43
      have g7 : ¬ ((1 : Int32) = (0 : Int32)) := (by decide)
      rw [if_neg g7, if_neg g7]
      unfold S_WR_put_J59 F_WR_put_J59
      exact v_putL hr (by first | with_reducible assumption | with_reducible exact R_cl | (with_reducible apply R_cp; first | with_reducible assumption | with_reducible exact R_cl) | (with_reducible refine wO_upd ?_ w_m16; with_reducible assumption) | (with_reducible apply wR.mi <;> with_reducible assumption) | omega | decide) _ _ _ (by first | with_reducible assumption | with_reducible exact R_cl | (with_reducible apply R_cp; first | with_reducible assumption | with_reducible exact R_cl) | (with_reducible refine wO_upd ?_ w_m16; with_reducible assumption) | (with_reducible apply wR.mi <;> with_reducible assumption) | omega | decide) (by first | with_reducible assumption | with_reducible exact R_cl | (with_reducible apply R_cp; first | with_reducible assumption | with_reducible exact R_cl) | (with_reducible refine wO_upd ?_ w_m16; with_reducible assumption) | (with_reducible apply wR.mi <;> with_reducible assumption) | omega | decide) (by first | with_reducible assumption | with_reducible exact R_cl | (with_reducible apply R_cp; first | with_reducible assumption | with_reducible exact R_cl) | (with_reducible refine wO_upd ?_ w_m16; with_reducible assumption) | (with_reducible apply wR.mi <;> with_reducible assumption) | omega | decide)
  ·
    rw [if_neg g1, if_neg g1]
    unfold S_WR_put_J13 F_WR_put_J13
    have g8 : ¬ ((1 : Int32) ≤ (0 : Int32)) := (by decide)
    rw [if_neg g8, if_neg g8]
    refine ⟨trivial, ?_⟩
    (unfold Q_WR_put; dsimp only; first | with_reducible assumption | exact hr)
def Q_WR_power (p : Int32 × Int32 × Int32 × Int32 × Int32 × Int32 × Int32 × (Nat → Int32) × (Nat → Int32) × (Nat → Int32) × (Nat → Int32) × (Nat → Int32)) : Prop := wR p.2.2.2.2.2.2.2.1 p.2.2.2.2.2.2.2.2.1
theorem v_powL {x2 : Int32} {x3 : Int32} {x4 : Int32} {t0_0 : Int32} {t0_1 : Int32} {t0_2 : Int32} {t0_3 : Int32} {t0_4 : Int32} {t0_5 : Int32} {t0_6 : Int32} {t1_0 : (Nat → Int32)} {t2_0 : (Nat → Int32)} {t3_0 : (Nat → Int32)} {t4_0 : (Nat → Int32)} {t5_0 : (Nat → Int32)} {lx36 : Int32} {f68 : (Nat → Int32)} {f60 : (Nat → Int32)} {lx80 : Int32} {lx95 : Int32} (hr : wR t1_0 t2_0)(hx2 : 0 ≤ x2.toInt ∧ x2.toInt ≤ 10)(hx4 : 0 ≤ x4.toInt ∧ x4.toInt ≤ 10)(hf : wO f60 264) : ∀ (n : Nat) (lx110 : Int32) (lx111 : (Nat → Int32)) (lx112 : (Nat → Int32)), (0 ≤ lx110.toInt) → (lx95.toInt - lx110.toInt < (n : Int)) → (lx110.toInt ≤ lx95.toInt) → (wO lx111 264) → (S_WR_power_L119 x2 x3 x4 t0_0 t0_1 t0_2 t0_3 t0_4 t0_5 t0_6 t1_0 t2_0 t3_0 t4_0 t5_0 lx36 f68 f60 lx80 lx95 n lx110 lx111 lx112) ∧ Q_WR_power (F_WR_power_L119 x2 x3 x4 t0_0 t0_1 t0_2 t0_3 t0_4 t0_5 t0_6 t1_0 t2_0 t3_0 t4_0 t5_0 lx36 f68 f60 lx80 lx95 n lx110 lx111 lx112) := by
  intro n
  induction n with
  | zero => intro lx110 lx111 lx112 h0 hm hl ho; exact absurd (show False by omega) id
  | succ n ih =>
    intro lx110 lx111 lx112 h0 hm hl ho
    have hb := Int32.toInt_lt lx95
    rw [S_WR_power_L119.eq_2, F_WR_power_L119.eq_2]
    by_cases g1 : lx95 ≤ lx110
    ·
      rw [if_pos g1, if_pos g1]
      have g1i : lx95.toInt ≤ lx110.toInt := q_leI g1
      refine v_cons (by omega) ?_
      refine v_cons (by omega) ?_
      by_cases g2 : (t2_0 x2.toNatClampNeg : Int32) = (0 : Int32)
      ·
        rw [if_pos g2, if_pos g2]
        have h3 := R_store  (x2 := x4) (t0_0 := lx36) (t0_1 := (2 : Int32)) (t0_2 := t0_2) (t0_3 := (0 : Int32)) (t0_4 := t0_4) (t0_5 := t0_5) (t0_6 := t0_6) (t1_0 := t1_0) (t2_0 := t2_0) (t3_0 := lx111) (by first | with_reducible assumption | with_reducible exact R_cl | (with_reducible apply R_cp; first | with_reducible assumption | with_reducible exact R_cl) | (with_reducible refine wO_upd ?_ w_m16; with_reducible assumption) | (with_reducible apply wR.mi <;> with_reducible assumption) | omega | decide) (by first | with_reducible assumption | with_reducible exact R_cl | (with_reducible apply R_cp; first | with_reducible assumption | with_reducible exact R_cl) | (with_reducible refine wO_upd ?_ w_m16; with_reducible assumption) | (with_reducible apply wR.mi <;> with_reducible assumption) | omega | decide) (by first | with_reducible assumption | with_reducible exact R_cl | (with_reducible apply R_cp; first | with_reducible assumption | with_reducible exact R_cl) | (with_reducible refine wO_upd ?_ w_m16; with_reducible assumption) | (with_reducible apply wR.mi <;> with_reducible assumption) | omega | decide)
        have h3r := h3.2
        with_reducible refine v_owe h3.1 ?_
        replace h3 := h3.2
        generalize F_WR_store x4 lx36 (2 : Int32) t0_2 (0 : Int32) t0_4 t0_5 t0_6 t1_0 t2_0 lx111 = p166 at *
        unfold S_WR_power_c194 F_WR_power_c194
        refine ⟨trivial, ?_⟩
        (unfold Q_WR_power; dsimp only; first | with_reducible assumption | exact hr)
      ·
        rw [if_neg g2, if_neg g2]
        by_cases g4 : (x3 - x3 / 2 * 2 : Int32) = (1 : Int32)
        ·
          rw [if_pos g4, if_pos g4]
          have h5 := R_store  (x2 := x4) (t0_0 := lx36) (t0_1 := (2 : Int32)) (t0_2 := t0_2) (t0_3 := (1 : Int32)) (t0_4 := t0_4) (t0_5 := t0_5) (t0_6 := t0_6) (t1_0 := t1_0) (t2_0 := t2_0) (t3_0 := lx111) (by first | with_reducible assumption | with_reducible exact R_cl | (with_reducible apply R_cp; first | with_reducible assumption | with_reducible exact R_cl) | (with_reducible refine wO_upd ?_ w_m16; with_reducible assumption) | (with_reducible apply wR.mi <;> with_reducible assumption) | omega | decide) (by first | with_reducible assumption | with_reducible exact R_cl | (with_reducible apply R_cp; first | with_reducible assumption | with_reducible exact R_cl) | (with_reducible refine wO_upd ?_ w_m16; with_reducible assumption) | (with_reducible apply wR.mi <;> with_reducible assumption) | omega | decide) (by first | with_reducible assumption | with_reducible exact R_cl | (with_reducible apply R_cp; first | with_reducible assumption | with_reducible exact R_cl) | (with_reducible refine wO_upd ?_ w_m16; with_reducible assumption) | (with_reducible apply wR.mi <;> with_reducible assumption) | omega | decide)
          have h5r := h5.2
          with_reducible refine v_owe h5.1 ?_
          replace h5 := h5.2
          generalize F_WR_store x4 lx36 (2 : Int32) t0_2 (1 : Int32) t0_4 t0_5 t0_6 t1_0 t2_0 lx111 = p266 at *
          unfold S_WR_power_c194_7 F_WR_power_c194_7
          refine ⟨trivial, ?_⟩
          (unfold Q_WR_power; dsimp only; first | with_reducible assumption | exact hr)
        ·
          rw [if_neg g4, if_neg g4]
          have h6 := R_store  (x2 := x4) (t0_0 := lx36) (t0_1 := (2 : Int32)) (t0_2 := t0_2) (t0_3 := (0 : Int32)) (t0_4 := t0_4) (t0_5 := t0_5) (t0_6 := t0_6) (t1_0 := t1_0) (t2_0 := t2_0) (t3_0 := lx111) (by first | with_reducible assumption | with_reducible exact R_cl | (with_reducible apply R_cp; first | with_reducible assumption | with_reducible exact R_cl) | (with_reducible refine wO_upd ?_ w_m16; with_reducible assumption) | (with_reducible apply wR.mi <;> with_reducible assumption) | omega | decide) (by first | with_reducible assumption | with_reducible exact R_cl | (with_reducible apply R_cp; first | with_reducible assumption | with_reducible exact R_cl) | (with_reducible refine wO_upd ?_ w_m16; with_reducible assumption) | (with_reducible apply wR.mi <;> with_reducible assumption) | omega | decide) (by first | with_reducible assumption | with_reducible exact R_cl | (with_reducible apply R_cp; first | with_reducible assumption | with_reducible exact R_cl) | (with_reducible refine wO_upd ?_ w_m16; with_reducible assumption) | (with_reducible apply wR.mi <;> with_reducible assumption) | omega | decide)
          have h6r := h6.2
          with_reducible refine v_owe h6.1 ?_
          replace h6 := h6.2
          generalize F_WR_store x4 lx36 (2 : Int32) t0_2 (0 : Int32) t0_4 t0_5 t0_6 t1_0 t2_0 lx111 = p218 at *
          unfold S_WR_power_c194_6 F_WR_power_c194_6
          refine ⟨trivial, ?_⟩
          (unfold Q_WR_power; dsimp only; first | with_reducible assumption | exact hr)
    ·
      rw [if_neg g1, if_neg g1]
      have g1i : lx110.toInt < lx95.toInt := q_nleI g1
      have h7 := R_mul4a  (t0_0 := lx36) (t0_1 := (2 : Int32)) (t0_2 := t0_2) (t0_3 := t0_3) (t0_4 := t0_4) (t0_5 := t0_5) (t0_6 := t0_6) (t1_0 := lx112) (t2_0 := lx111) (t3_0 := f60) (by first | with_reducible assumption | with_reducible exact R_cl | (with_reducible apply R_cp; first | with_reducible assumption | with_reducible exact R_cl) | (with_reducible refine wO_upd ?_ w_m16; with_reducible assumption) | (with_reducible apply wR.mi <;> with_reducible assumption) | omega | decide) (by first | with_reducible assumption | with_reducible exact R_cl | (with_reducible apply R_cp; first | with_reducible assumption | with_reducible exact R_cl) | (with_reducible refine wO_upd ?_ w_m16; with_reducible assumption) | (with_reducible apply wR.mi <;> with_reducible assumption) | omega | decide)
      have h7k := h7.2
      with_reducible refine v_owe h7.1 ?_
      replace h7 := h7.2
      generalize F_WR_multiplyRows_a (264 : Int32) (264 : Int32) lx36 (2 : Int32) t0_2 t0_3 t0_4 t0_5 t0_6 lx112 lx111 f60 = p292 at *
      unfold S_WR_power_c139 F_WR_power_c139
      by_cases g8 : ((F_WR_size (264 : Int32) (p292.2 : (Nat → Int32))) : Int32) ≤ (128 : Int32)
      ·
        rw [if_pos g8, if_pos g8]
        obtain ⟨a9, e10⟩ := q_nm (lx110 + 1 : Int32)
        rw [e10]
        have a9i : a9.toInt = lx110.toInt + 1 := by rw [← e10]; exact q_addI (x := lx110.toInt) (y := 1) rfl (by decide) (by omega) (by omega)
        exact ih _ _ _ (by first | with_reducible assumption | with_reducible exact R_cl | (with_reducible apply R_cp; first | with_reducible assumption | with_reducible exact R_cl) | (with_reducible refine wO_upd ?_ w_m16; with_reducible assumption) | (with_reducible apply wR.mi <;> with_reducible assumption) | omega | decide) (by first | with_reducible assumption | with_reducible exact R_cl | (with_reducible apply R_cp; first | with_reducible assumption | with_reducible exact R_cl) | (with_reducible refine wO_upd ?_ w_m16; with_reducible assumption) | (with_reducible apply wR.mi <;> with_reducible assumption) | omega | decide) (by first | with_reducible assumption | with_reducible exact R_cl | (with_reducible apply R_cp; first | with_reducible assumption | with_reducible exact R_cl) | (with_reducible refine wO_upd ?_ w_m16; with_reducible assumption) | (with_reducible apply wR.mi <;> with_reducible assumption) | omega | decide) (by first | with_reducible assumption | with_reducible exact R_cl | (with_reducible apply R_cp; first | with_reducible assumption | with_reducible exact R_cl) | (with_reducible refine wO_upd ?_ w_m16; with_reducible assumption) | (with_reducible apply wR.mi <;> with_reducible assumption) | omega | decide)
      ·
        rw [if_neg g8, if_neg g8]
        refine ⟨trivial, ?_⟩
        (unfold Q_WR_power; dsimp only; first | with_reducible assumption | exact hr)
theorem T_WR_power {x2 : Int32} {x3 : Int32} {x4 : Int32} {t0_0 : Int32} {t0_1 : Int32} {t0_2 : Int32} {t0_3 : Int32} {t0_4 : Int32} {t0_5 : Int32} {t0_6 : Int32} {t1_0 : (Nat → Int32)} {t2_0 : (Nat → Int32)} {t3_0 : (Nat → Int32)} {t4_0 : (Nat → Int32)} {t5_0 : (Nat → Int32)} (hr : wR t1_0 t2_0) : (S_WR_power x2 x3 x4 t0_0 t0_1 t0_2 t0_3 t0_4 t0_5 t0_6 t1_0 t2_0 t3_0 t4_0 t5_0) ∧ Q_WR_power (F_WR_power x2 x3 x4 t0_0 t0_1 t0_2 t0_3 t0_4 t0_5 t0_6 t1_0 t2_0 t3_0 t4_0 t5_0) := by
  have e0 : (0 : Int32).toInt = 0 := rfl
  unfold S_WR_power F_WR_power
  by_cases g1 : ((F_WR_no x2) : Int32) = (0 : Int32)
  ·
    rw [if_pos g1, if_pos g1]
    have g1r := w_no g1
    by_cases g2 : ((F_WR_no x4) : Int32) = (0 : Int32)
    ·
      rw [if_pos g2, if_pos g2]
      have g2r := w_no g2
      by_cases g3 : (0 : Int32) ≤ x3
      ·
        rw [if_pos g3, if_pos g3]
        have g3i : 0 ≤ x3.toInt := q_leI g3
        unfold S_WR_power_J24 F_WR_power_J24
        have g4 : ((0 : Int32) ≤ (0 : Int32)) := (by decide)
        rw [if_pos g4, if_pos g4]
        have h5 := R_take  (x2 := x2) (t0_0 := (0 : Int32)) (t0_1 := (2 : Int32)) (t0_2 := t0_2) (t0_3 := t0_3) (t0_4 := t0_4) (t0_5 := t0_5) (t0_6 := t0_6) (t1_0 := t1_0) (t2_0 := t5_0) (by first | with_reducible assumption | with_reducible exact R_cl | (with_reducible apply R_cp; first | with_reducible assumption | with_reducible exact R_cl) | (with_reducible refine wO_upd ?_ w_m16; with_reducible assumption) | (with_reducible apply wR.mi <;> with_reducible assumption) | omega | decide) (wR.o (by with_reducible assumption))
        have h5k := h5.2.1
        have h5v := h5.2
        with_reducible refine v_owe h5.1 ?_
        have h6 := R_setOne  (t0_0 := (0 : Int32)) (t0_1 := (2 : Int32)) (t0_2 := t0_2) (t0_3 := t0_3) (t0_4 := t0_4) (t0_5 := t0_5) (t0_6 := t0_6) (f := t3_0) 
        have h6k := h6.2.1
        with_reducible refine v_owe h6.1 ?_
        by_cases g7 : ((F_WR_size (264 : Int32) ((F_WR_take x2 (264 : Int32) (0 : Int32) (2 : Int32) t0_2 t0_3 t0_4 t0_5 t0_6 t1_0 t5_0) : (Nat → Int32))) : Int32) = (0 : Int32)
        ·
          rw [if_pos g7, if_pos g7]
          replace h5 := h5.2
          generalize F_WR_take x2 (264 : Int32) (0 : Int32) (2 : Int32) t0_2 t0_3 t0_4 t0_5 t0_6 t1_0 t5_0 = f60 at *
          replace h6 := h6.2
          generalize F_WR_setOne (264 : Int32) (0 : Int32) (2 : Int32) t0_2 t0_3 t0_4 t0_5 t0_6 t3_0 = f68 at *
          unfold S_WR_power_J88 F_WR_power_J88
          unfold S_WR_power_J93 F_WR_power_J93
          have g8 : ¬ ((1 : Int32) = (0 : Int32)) := (by decide)
          rw [if_neg g8, if_neg g8]
          by_cases g9 : x3 ≤ (2 : Int32)
          ·
            rw [if_pos g9, if_pos g9]
            have g9i : x3.toInt ≤ 2 := q_leI g9
            unfold S_WR_power_J113 F_WR_power_J113
            unfold S_WR_power_J114 F_WR_power_J114
            exact v_powL hr (by first | with_reducible assumption | with_reducible exact R_cl | (with_reducible apply R_cp; first | with_reducible assumption | with_reducible exact R_cl) | (with_reducible refine wO_upd ?_ w_m16; with_reducible assumption) | (with_reducible apply wR.mi <;> with_reducible assumption) | omega | decide) (by first | with_reducible assumption | with_reducible exact R_cl | (with_reducible apply R_cp; first | with_reducible assumption | with_reducible exact R_cl) | (with_reducible refine wO_upd ?_ w_m16; with_reducible assumption) | (with_reducible apply wR.mi <;> with_reducible assumption) | omega | decide) (by first | with_reducible assumption | with_reducible exact R_cl | (with_reducible apply R_cp; first | with_reducible assumption | with_reducible exact R_cl) | (with_reducible refine wO_upd ?_ w_m16; with_reducible assumption) | (with_reducible apply wR.mi <;> with_reducible assumption) | omega | decide) _ _ _ _ (by first | with_reducible assumption | with_reducible exact R_cl | (with_reducible apply R_cp; first | with_reducible assumption | with_reducible exact R_cl) | (with_reducible refine wO_upd ?_ w_m16; with_reducible assumption) | (with_reducible apply wR.mi <;> with_reducible assumption) | omega | decide) (by first | with_reducible assumption | with_reducible exact R_cl | (with_reducible apply R_cp; first | with_reducible assumption | with_reducible exact R_cl) | (with_reducible refine wO_upd ?_ w_m16; with_reducible assumption) | (with_reducible apply wR.mi <;> with_reducible assumption) | omega | decide) (by first | with_reducible assumption | with_reducible exact R_cl | (with_reducible apply R_cp; first | with_reducible assumption | with_reducible exact R_cl) | (with_reducible refine wO_upd ?_ w_m16; with_reducible assumption) | (with_reducible apply wR.mi <;> with_reducible assumption) | omega | decide) (by first | with_reducible assumption | with_reducible exact R_cl | (with_reducible apply R_cp; first | with_reducible assumption | with_reducible exact R_cl) | (with_reducible refine wO_upd ?_ w_m16; with_reducible assumption) | (with_reducible apply wR.mi <;> with_reducible assumption) | omega | decide)
          ·
            rw [if_neg g9, if_neg g9]
            have g9i : 2 < x3.toInt := q_nleI g9
            obtain ⟨lx95, e10⟩ := q_nm ((2 - (x3 - x3 / 2 * 2 : Int32) : Int32) : Int32)
            rw [e10]
            have lx95b : 0 ≤ lx95.toInt := by rw [← e10]; exact w_two (by omega)
            unfold S_WR_power_J114 F_WR_power_J114
            exact v_powL hr (by first | with_reducible assumption | with_reducible exact R_cl | (with_reducible apply R_cp; first | with_reducible assumption | with_reducible exact R_cl) | (with_reducible refine wO_upd ?_ w_m16; with_reducible assumption) | (with_reducible apply wR.mi <;> with_reducible assumption) | omega | decide) (by first | with_reducible assumption | with_reducible exact R_cl | (with_reducible apply R_cp; first | with_reducible assumption | with_reducible exact R_cl) | (with_reducible refine wO_upd ?_ w_m16; with_reducible assumption) | (with_reducible apply wR.mi <;> with_reducible assumption) | omega | decide) (by first | with_reducible assumption | with_reducible exact R_cl | (with_reducible apply R_cp; first | with_reducible assumption | with_reducible exact R_cl) | (with_reducible refine wO_upd ?_ w_m16; with_reducible assumption) | (with_reducible apply wR.mi <;> with_reducible assumption) | omega | decide) _ _ _ _ (by first | with_reducible assumption | with_reducible exact R_cl | (with_reducible apply R_cp; first | with_reducible assumption | with_reducible exact R_cl) | (with_reducible refine wO_upd ?_ w_m16; with_reducible assumption) | (with_reducible apply wR.mi <;> with_reducible assumption) | omega | decide) (by first | with_reducible assumption | with_reducible exact R_cl | (with_reducible apply R_cp; first | with_reducible assumption | with_reducible exact R_cl) | (with_reducible refine wO_upd ?_ w_m16; with_reducible assumption) | (with_reducible apply wR.mi <;> with_reducible assumption) | omega | decide) (by first | with_reducible assumption | with_reducible exact R_cl | (with_reducible apply R_cp; first | with_reducible assumption | with_reducible exact R_cl) | (with_reducible refine wO_upd ?_ w_m16; with_reducible assumption) | (with_reducible apply wR.mi <;> with_reducible assumption) | omega | decide) (by first | with_reducible assumption | with_reducible exact R_cl | (with_reducible apply R_cp; first | with_reducible assumption | with_reducible exact R_cl) | (with_reducible refine wO_upd ?_ w_m16; with_reducible assumption) | (with_reducible apply wR.mi <;> with_reducible assumption) | omega | decide)
        ·
          rw [if_neg g7, if_neg g7]
          by_cases g11 : ((F_WR_size (264 : Int32) ((F_WR_take x2 (264 : Int32) (0 : Int32) (2 : Int32) t0_2 t0_3 t0_4 t0_5 t0_6 t1_0 t5_0) : (Nat → Int32))) : Int32) = (1 : Int32)
          ·
            rw [if_pos g11, if_pos g11]
            by_cases g12 : (((F_WR_take x2 (264 : Int32) (0 : Int32) (2 : Int32) t0_2 t0_3 t0_4 t0_5 t0_6 t1_0 t5_0) : (Nat → Int32)) (0 : Int32).toNatClampNeg : Int32) = (1 : Int32)
            ·
              rw [if_pos g12, if_pos g12]
              replace h5 := h5.2
              generalize F_WR_take x2 (264 : Int32) (0 : Int32) (2 : Int32) t0_2 t0_3 t0_4 t0_5 t0_6 t1_0 t5_0 = f60 at *
              replace h6 := h6.2
              generalize F_WR_setOne (264 : Int32) (0 : Int32) (2 : Int32) t0_2 t0_3 t0_4 t0_5 t0_6 t3_0 = f68 at *
              unfold S_WR_power_J88 F_WR_power_J88
              unfold S_WR_power_J93 F_WR_power_J93
              have g13 : ¬ ((1 : Int32) = (0 : Int32)) := (by decide)
              rw [if_neg g13, if_neg g13]
              by_cases g14 : x3 ≤ (2 : Int32)
              ·
                rw [if_pos g14, if_pos g14]
                have g14i : x3.toInt ≤ 2 := q_leI g14
                unfold S_WR_power_J113 F_WR_power_J113
                unfold S_WR_power_J114 F_WR_power_J114
                exact v_powL hr (by first | with_reducible assumption | with_reducible exact R_cl | (with_reducible apply R_cp; first | with_reducible assumption | with_reducible exact R_cl) | (with_reducible refine wO_upd ?_ w_m16; with_reducible assumption) | (with_reducible apply wR.mi <;> with_reducible assumption) | omega | decide) (by first | with_reducible assumption | with_reducible exact R_cl | (with_reducible apply R_cp; first | with_reducible assumption | with_reducible exact R_cl) | (with_reducible refine wO_upd ?_ w_m16; with_reducible assumption) | (with_reducible apply wR.mi <;> with_reducible assumption) | omega | decide) (by first | with_reducible assumption | with_reducible exact R_cl | (with_reducible apply R_cp; first | with_reducible assumption | with_reducible exact R_cl) | (with_reducible refine wO_upd ?_ w_m16; with_reducible assumption) | (with_reducible apply wR.mi <;> with_reducible assumption) | omega | decide) _ _ _ _ (by first | with_reducible assumption | with_reducible exact R_cl | (with_reducible apply R_cp; first | with_reducible assumption | with_reducible exact R_cl) | (with_reducible refine wO_upd ?_ w_m16; with_reducible assumption) | (with_reducible apply wR.mi <;> with_reducible assumption) | omega | decide) (by first | with_reducible assumption | with_reducible exact R_cl | (with_reducible apply R_cp; first | with_reducible assumption | with_reducible exact R_cl) | (with_reducible refine wO_upd ?_ w_m16; with_reducible assumption) | (with_reducible apply wR.mi <;> with_reducible assumption) | omega | decide) (by first | with_reducible assumption | with_reducible exact R_cl | (with_reducible apply R_cp; first | with_reducible assumption | with_reducible exact R_cl) | (with_reducible refine wO_upd ?_ w_m16; with_reducible assumption) | (with_reducible apply wR.mi <;> with_reducible assumption) | omega | decide) (by first | with_reducible assumption | with_reducible exact R_cl | (with_reducible apply R_cp; first | with_reducible assumption | with_reducible exact R_cl) | (with_reducible refine wO_upd ?_ w_m16; with_reducible assumption) | (with_reducible apply wR.mi <;> with_reducible assumption) | omega | decide)
              ·
                rw [if_neg g14, if_neg g14]
                have g14i : 2 < x3.toInt := q_nleI g14
                obtain ⟨lx95, e15⟩ := q_nm ((2 - (x3 - x3 / 2 * 2 : Int32) : Int32) : Int32)
                rw [e15]
                have lx95b : 0 ≤ lx95.toInt := by rw [← e15]; exact w_two (by omega)
                unfold S_WR_power_J114 F_WR_power_J114
                exact v_powL hr (by first | with_reducible assumption | with_reducible exact R_cl | (with_reducible apply R_cp; first | with_reducible assumption | with_reducible exact R_cl) | (with_reducible refine wO_upd ?_ w_m16; with_reducible assumption) | (with_reducible apply wR.mi <;> with_reducible assumption) | omega | decide) (by first | with_reducible assumption | with_reducible exact R_cl | (with_reducible apply R_cp; first | with_reducible assumption | with_reducible exact R_cl) | (with_reducible refine wO_upd ?_ w_m16; with_reducible assumption) | (with_reducible apply wR.mi <;> with_reducible assumption) | omega | decide) (by first | with_reducible assumption | with_reducible exact R_cl | (with_reducible apply R_cp; first | with_reducible assumption | with_reducible exact R_cl) | (with_reducible refine wO_upd ?_ w_m16; with_reducible assumption) | (with_reducible apply wR.mi <;> with_reducible assumption) | omega | decide) _ _ _ _ (by first | with_reducible assumption | with_reducible exact R_cl | (with_reducible apply R_cp; first | with_reducible assumption | with_reducible exact R_cl) | (with_reducible refine wO_upd ?_ w_m16; with_reducible assumption) | (with_reducible apply wR.mi <;> with_reducible assumption) | omega | decide) (by first | with_reducible assumption | with_reducible exact R_cl | (with_reducible apply R_cp; first | with_reducible assumption | with_reducible exact R_cl) | (with_reducible refine wO_upd ?_ w_m16; with_reducible assumption) | (with_reducible apply wR.mi <;> with_reducible assumption) | omega | decide) (by first | with_reducible assumption | with_reducible exact R_cl | (with_reducible apply R_cp; first | with_reducible assumption | with_reducible exact R_cl) | (with_reducible refine wO_upd ?_ w_m16; with_reducible assumption) | (with_reducible apply wR.mi <;> with_reducible assumption) | omega | decide) (by first | with_reducible assumption | with_reducible exact R_cl | (with_reducible apply R_cp; first | with_reducible assumption | with_reducible exact R_cl) | (with_reducible refine wO_upd ?_ w_m16; with_reducible assumption) | (with_reducible apply wR.mi <;> with_reducible assumption) | omega | decide)
            ·
              rw [if_neg g12, if_neg g12]
              replace h5 := h5.2
              generalize F_WR_take x2 (264 : Int32) (0 : Int32) (2 : Int32) t0_2 t0_3 t0_4 t0_5 t0_6 t1_0 t5_0 = f60 at *
              replace h6 := h6.2
              generalize F_WR_setOne (264 : Int32) (0 : Int32) (2 : Int32) t0_2 t0_3 t0_4 t0_5 t0_6 t3_0 = f68 at *
              unfold S_WR_power_J92 F_WR_power_J92
              unfold S_WR_power_J93 F_WR_power_J93
              have g16 : ((0 : Int32) = (0 : Int32)) := (by decide)
              rw [if_pos g16, if_pos g16]
              unfold S_WR_power_J113 F_WR_power_J113
              unfold S_WR_power_J114 F_WR_power_J114
              exact v_powL hr (by first | with_reducible assumption | with_reducible exact R_cl | (with_reducible apply R_cp; first | with_reducible assumption | with_reducible exact R_cl) | (with_reducible refine wO_upd ?_ w_m16; with_reducible assumption) | (with_reducible apply wR.mi <;> with_reducible assumption) | omega | decide) (by first | with_reducible assumption | with_reducible exact R_cl | (with_reducible apply R_cp; first | with_reducible assumption | with_reducible exact R_cl) | (with_reducible refine wO_upd ?_ w_m16; with_reducible assumption) | (with_reducible apply wR.mi <;> with_reducible assumption) | omega | decide) (by first | with_reducible assumption | with_reducible exact R_cl | (with_reducible apply R_cp; first | with_reducible assumption | with_reducible exact R_cl) | (with_reducible refine wO_upd ?_ w_m16; with_reducible assumption) | (with_reducible apply wR.mi <;> with_reducible assumption) | omega | decide) _ _ _ _ (by first | with_reducible assumption | with_reducible exact R_cl | (with_reducible apply R_cp; first | with_reducible assumption | with_reducible exact R_cl) | (with_reducible refine wO_upd ?_ w_m16; with_reducible assumption) | (with_reducible apply wR.mi <;> with_reducible assumption) | omega | decide) (by first | with_reducible assumption | with_reducible exact R_cl | (with_reducible apply R_cp; first | with_reducible assumption | with_reducible exact R_cl) | (with_reducible refine wO_upd ?_ w_m16; with_reducible assumption) | (with_reducible apply wR.mi <;> with_reducible assumption) | omega | decide) (by first | with_reducible assumption | with_reducible exact R_cl | (with_reducible apply R_cp; first | with_reducible assumption | with_reducible exact R_cl) | (with_reducible refine wO_upd ?_ w_m16; with_reducible assumption) | (with_reducible apply wR.mi <;> with_reducible assumption) | omega | decide) (by first | with_reducible assumption | with_reducible exact R_cl | (with_reducible apply R_cp; first | with_reducible assumption | with_reducible exact R_cl) | (with_reducible refine wO_upd ?_ w_m16; with_reducible assumption) | (with_reducible apply wR.mi <;> with_reducible assumption) | omega | decide)
          ·
            rw [if_neg g11, if_neg g11]
            replace h5 := h5.2
            generalize F_WR_take x2 (264 : Int32) (0 : Int32) (2 : Int32) t0_2 t0_3 t0_4 t0_5 t0_6 t1_0 t5_0 = f60 at *
            replace h6 := h6.2
            generalize F_WR_setOne (264 : Int32) (0 : Int32) (2 : Int32) t0_2 t0_3 t0_4 t0_5 t0_6 t3_0 = f68 at *
            unfold S_WR_power_J92 F_WR_power_J92
            unfold S_WR_power_J93 F_WR_power_J93
            have g17 : ((0 : Int32) = (0 : Int32)) := (by decide)
            rw [if_pos g17, if_pos g17]
            unfold S_WR_power_J113 F_WR_power_J113
            unfold S_WR_power_J114 F_WR_power_J114
            exact v_powL hr (by first | with_reducible assumption | with_reducible exact R_cl | (with_reducible apply R_cp; first | with_reducible assumption | with_reducible exact R_cl) | (with_reducible refine wO_upd ?_ w_m16; with_reducible assumption) | (with_reducible apply wR.mi <;> with_reducible assumption) | omega | decide) (by first | with_reducible assumption | with_reducible exact R_cl | (with_reducible apply R_cp; first | with_reducible assumption | with_reducible exact R_cl) | (with_reducible refine wO_upd ?_ w_m16; with_reducible assumption) | (with_reducible apply wR.mi <;> with_reducible assumption) | omega | decide) (by first | with_reducible assumption | with_reducible exact R_cl | (with_reducible apply R_cp; first | with_reducible assumption | with_reducible exact R_cl) | (with_reducible refine wO_upd ?_ w_m16; with_reducible assumption) | (with_reducible apply wR.mi <;> with_reducible assumption) | omega | decide) _ _ _ _ (by first | with_reducible assumption | with_reducible exact R_cl | (with_reducible apply R_cp; first | with_reducible assumption | with_reducible exact R_cl) | (with_reducible refine wO_upd ?_ w_m16; with_reducible assumption) | (with_reducible apply wR.mi <;> with_reducible assumption) | omega | decide) (by first | with_reducible assumption | with_reducible exact R_cl | (with_reducible apply R_cp; first | with_reducible assumption | with_reducible exact R_cl) | (with_reducible refine wO_upd ?_ w_m16; with_reducible assumption) | (with_reducible apply wR.mi <;> with_reducible assumption) | omega | decide) (by first | with_reducible assumption | with_reducible exact R_cl | (with_reducible apply R_cp; first | with_reducible assumption | with_reducible exact R_cl) | (with_reducible refine wO_upd ?_ w_m16; with_reducible assumption) | (with_reducible apply wR.mi <;> with_reducible assumption) | omega | decide) (by first | with_reducible assumption | with_reducible exact R_cl | (with_reducible apply R_cp; first | with_reducible assumption | with_reducible exact R_cl) | (with_reducible refine wO_upd ?_ w_m16; with_reducible assumption) | (with_reducible apply wR.mi <;> with_reducible assumption) | omega | decide)
      ·
        rw [if_neg g3, if_neg g3]
        have g3i : x3.toInt < 0 := q_nleI g3
        unfold S_WR_power_J19 F_WR_power_J19
        unfold S_WR_power_J24 F_WR_power_J24
        have g18 : ¬ ((1 : Int32) ≤ (0 : Int32)) := (by decide)
        rw [if_neg g18, if_neg g18]
        refine ⟨trivial, ?_⟩
        (unfold Q_WR_power; dsimp only; first | with_reducible assumption | exact hr)
    ·
      rw [if_neg g2, if_neg g2]
      unfold S_WR_power_J19 F_WR_power_J19
      unfold S_WR_power_J24 F_WR_power_J24
      have g19 : ¬ ((1 : Int32) ≤ (0 : Int32)) := (by decide)
      rw [if_neg g19, if_neg g19]
      refine ⟨trivial, ?_⟩
      (unfold Q_WR_power; dsimp only; first | with_reducible assumption | exact hr)
  ·
    rw [if_neg g1, if_neg g1]
    unfold S_WR_power_J19 F_WR_power_J19
    unfold S_WR_power_J24 F_WR_power_J24
    have g20 : ¬ ((1 : Int32) ≤ (0 : Int32)) := (by decide)
    rw [if_neg g20, if_neg g20]
    refine ⟨trivial, ?_⟩
    (unfold Q_WR_power; dsimp only; first | with_reducible assumption | exact hr)
def Q_WR_fits (p : Int32 × (Nat → Int32) × (Nat → Int32)) : Prop := wO p.2.1 264
theorem v_fitL {x2 : Int32} {t0_0 : Int32} {t0_1 : Int32} {t0_2 : Int32} {t0_3 : Int32} {t0_4 : Int32} {t0_5 : Int32} {t0_6 : Int32} {t1_0 : (Nat → Int32)} {t2_0 : (Nat → Int32)} {t3_0 : (Nat → Int32)} {t4_0 : (Nat → Int32)} (ha : wO t1_0 264) (hb : wO t4_0 264) : ∀ (n : Nat) (lx35 : Int32) (lx36 : (Nat → Int32)) (lx37 : (Nat → Int32)), (0 ≤ lx35.toInt ∧ lx35.toInt ≤ 64) → (x2.toInt - lx35.toInt < (n : Int)) → (lx35.toInt ≤ x2.toInt) → (x2.toInt ≤ 64) → (wO lx36 264) → (S_WR_fits_L10 x2 t0_0 t0_1 t0_2 t0_3 t0_4 t0_5 t0_6 t1_0 t2_0 t3_0 t4_0 n lx35 lx36 lx37) ∧ Q_WR_fits (F_WR_fits_L10 x2 t0_0 t0_1 t0_2 t0_3 t0_4 t0_5 t0_6 t1_0 t2_0 t3_0 t4_0 n lx35 lx36 lx37) := by
  intro n
  induction n with
  | zero => intro lx35 lx36 lx37 h0 hm hl hx ho; exact absurd (show False by omega) id
  | succ n ih =>
    intro lx35 lx36 lx37 h0 hm hl hx ho
    rw [S_WR_fits_L10.eq_2, F_WR_fits_L10.eq_2]
    by_cases g1 : x2 ≤ lx35
    ·
      rw [if_pos g1, if_pos g1]
      have g1i : x2.toInt ≤ lx35.toInt := q_leI g1
      refine ⟨trivial, ?_⟩
      (unfold Q_WR_fits; dsimp only; with_reducible assumption)
    ·
      rw [if_neg g1, if_neg g1]
      have g1i : lx35.toInt < x2.toInt := q_nleI g1
      have h2 := R_mul4a  (t0_0 := t0_0) (t0_1 := t0_1) (t0_2 := t0_2) (t0_3 := t0_3) (t0_4 := t0_4) (t0_5 := t0_5) (t0_6 := t0_6) (t1_0 := lx37) (t2_0 := lx36) (t3_0 := t1_0) (by first | with_reducible assumption | with_reducible exact R_cl | (with_reducible apply R_cp; first | with_reducible assumption | with_reducible exact R_cl) | (with_reducible refine wO_upd ?_ w_m16; with_reducible assumption) | (with_reducible apply wR.mi <;> with_reducible assumption) | omega | decide) (by first | with_reducible assumption | with_reducible exact R_cl | (with_reducible apply R_cp; first | with_reducible assumption | with_reducible exact R_cl) | (with_reducible refine wO_upd ?_ w_m16; with_reducible assumption) | (with_reducible apply wR.mi <;> with_reducible assumption) | omega | decide)
      have h2k := h2.2
      with_reducible refine v_owe h2.1 ?_
      replace h2 := h2.2
      generalize F_WR_multiplyRows_a (264 : Int32) (264 : Int32) t0_0 t0_1 t0_2 t0_3 t0_4 t0_5 t0_6 lx37 lx36 t1_0 = p63 at *
      unfold S_WR_fits_c28 F_WR_fits_c28
      have h3 := R_cmp4  (f := (p63.2 : (Nat → Int32))) (g := t4_0) (by first | with_reducible assumption | with_reducible exact R_cl | (with_reducible apply R_cp; first | with_reducible assumption | with_reducible exact R_cl) | (with_reducible refine wO_upd ?_ w_m16; with_reducible assumption) | (with_reducible apply wR.mi <;> with_reducible assumption) | omega | decide) (by first | with_reducible assumption | with_reducible exact R_cl | (with_reducible apply R_cp; first | with_reducible assumption | with_reducible exact R_cl) | (with_reducible refine wO_upd ?_ w_m16; with_reducible assumption) | (with_reducible apply wR.mi <;> with_reducible assumption) | omega | decide)
      have h3c := h3.2
      with_reducible refine v_owe h3.1 ?_
      by_cases g4 : ((F_WR_compareRows (264 : Int32) (264 : Int32) (p63.2 : (Nat → Int32)) t4_0) : Int32) ≤ (0 : Int32)
      ·
        rw [if_pos g4, if_pos g4]
        obtain ⟨a5, e6⟩ := q_nm (lx35 + 1 : Int32)
        rw [e6]
        have a5i : a5.toInt = lx35.toInt + 1 := by rw [← e6]; exact q_addI (x := lx35.toInt) (y := 1) rfl (by decide) (by omega) (by omega)
        exact ih _ _ _ (by first | with_reducible assumption | with_reducible exact R_cl | (with_reducible apply R_cp; first | with_reducible assumption | with_reducible exact R_cl) | (with_reducible refine wO_upd ?_ w_m16; with_reducible assumption) | (with_reducible apply wR.mi <;> with_reducible assumption) | omega | decide) (by first | with_reducible assumption | with_reducible exact R_cl | (with_reducible apply R_cp; first | with_reducible assumption | with_reducible exact R_cl) | (with_reducible refine wO_upd ?_ w_m16; with_reducible assumption) | (with_reducible apply wR.mi <;> with_reducible assumption) | omega | decide) (by first | with_reducible assumption | with_reducible exact R_cl | (with_reducible apply R_cp; first | with_reducible assumption | with_reducible exact R_cl) | (with_reducible refine wO_upd ?_ w_m16; with_reducible assumption) | (with_reducible apply wR.mi <;> with_reducible assumption) | omega | decide) (by first | with_reducible assumption | with_reducible exact R_cl | (with_reducible apply R_cp; first | with_reducible assumption | with_reducible exact R_cl) | (with_reducible refine wO_upd ?_ w_m16; with_reducible assumption) | (with_reducible apply wR.mi <;> with_reducible assumption) | omega | decide) (by first | with_reducible assumption | with_reducible exact R_cl | (with_reducible apply R_cp; first | with_reducible assumption | with_reducible exact R_cl) | (with_reducible refine wO_upd ?_ w_m16; with_reducible assumption) | (with_reducible apply wR.mi <;> with_reducible assumption) | omega | decide)
      ·
        rw [if_neg g4, if_neg g4]
        refine ⟨trivial, ?_⟩
        (unfold Q_WR_fits; dsimp only; with_reducible assumption)
theorem T_WR_fits {x2 : Int32} {t0_0 : Int32} {t0_1 : Int32} {t0_2 : Int32} {t0_3 : Int32} {t0_4 : Int32} {t0_5 : Int32} {t0_6 : Int32} {t1_0 : (Nat → Int32)} {t2_0 : (Nat → Int32)} {t3_0 : (Nat → Int32)} {t4_0 : (Nat → Int32)} (ha : wO t1_0 264) (hb : wO t4_0 264) (hx : 1 ≤ x2.toInt ∧ x2.toInt ≤ 64) : (S_WR_fits x2 t0_0 t0_1 t0_2 t0_3 t0_4 t0_5 t0_6 t1_0 t2_0 t3_0 t4_0) ∧ Q_WR_fits (F_WR_fits x2 t0_0 t0_1 t0_2 t0_3 t0_4 t0_5 t0_6 t1_0 t2_0 t3_0 t4_0) := by
  have e0 : (0 : Int32).toInt = 0 := rfl
  unfold S_WR_fits F_WR_fits
  have h1 := R_setOne  (t0_0 := t0_0) (t0_1 := t0_1) (t0_2 := t0_2) (t0_3 := t0_3) (t0_4 := t0_4) (t0_5 := t0_5) (t0_6 := t0_6) (f := t2_0) 
  have h1k := h1.2.1
  with_reducible refine v_owe h1.1 ?_
  exact v_fitL ha hb _ _ _ _ (by first | with_reducible assumption | with_reducible exact R_cl | (with_reducible apply R_cp; first | with_reducible assumption | with_reducible exact R_cl) | (with_reducible refine wO_upd ?_ w_m16; with_reducible assumption) | (with_reducible apply wR.mi <;> with_reducible assumption) | omega | decide) (by first | with_reducible assumption | with_reducible exact R_cl | (with_reducible apply R_cp; first | with_reducible assumption | with_reducible exact R_cl) | (with_reducible refine wO_upd ?_ w_m16; with_reducible assumption) | (with_reducible apply wR.mi <;> with_reducible assumption) | omega | decide) (by first | with_reducible assumption | with_reducible exact R_cl | (with_reducible apply R_cp; first | with_reducible assumption | with_reducible exact R_cl) | (with_reducible refine wO_upd ?_ w_m16; with_reducible assumption) | (with_reducible apply wR.mi <;> with_reducible assumption) | omega | decide) (by first | with_reducible assumption | with_reducible exact R_cl | (with_reducible apply R_cp; first | with_reducible assumption | with_reducible exact R_cl) | (with_reducible refine wO_upd ?_ w_m16; with_reducible assumption) | (with_reducible apply wR.mi <;> with_reducible assumption) | omega | decide) (by first | with_reducible assumption | with_reducible exact R_cl | (with_reducible apply R_cp; first | with_reducible assumption | with_reducible exact R_cl) | (with_reducible refine wO_upd ?_ w_m16; with_reducible assumption) | (with_reducible apply wR.mi <;> with_reducible assumption) | omega | decide)

/-! WholeRows: root, common, inverts, inverse, powerModulo -/
theorem w_sz128 {v : Int} {r : Nat → Int32} (h : wK v r) (hv : v < 65536 ^ 128) : (F_WR_size 264 r).toInt ≤ 128 := by
  have hs := R_size (N := 264) (f := r) (by decide)
  have h1 : wV r 264 = v := h.2
  by_cases c : (F_WR_size 264 r).toInt ≤ 128
  · exact c
  · have h2 := hs.ge h.1 (by omega)
    have h3 := q_clI (i := F_WR_size 264 r) rfl hs.1
    have h4 : (65536 : Int) ^ 128 ≤ 65536 ^ ((F_WR_size 264 r).toNatClampNeg - 1) := w_pwle (by omega)
    have h5 : wV r (264 : Int32).toNatClampNeg = v := h1
    rw [h5] at h2
    exact absurd (Int.lt_of_lt_of_le (Int.lt_of_le_of_lt h2 hv) h4) (Int.lt_irrefl _)
theorem w_rt {z x : Int32} (h0 : 0 ≤ z.toInt) (h1 : z.toInt ≤ 128) (hx : 1 ≤ x.toInt) : 0 ≤ (16 * z / x : Int32).toInt ∧ (16 * z / x : Int32).toInt ≤ 2048 := by
  have e1 : (16 * z : Int32).toInt = 16 * z.toInt := q_mulI (x := 16) (by decide) rfl (by omega) (by omega)
  have e2 : (16 * z / x : Int32).toInt = (16 * z.toInt) / x.toInt := q_divI e1 rfl (by omega) (by omega)
  have h5 : (16 * z.toInt) / x.toInt ≤ 16 * z.toInt := Int.ediv_le_self _ (by omega)
  have h4 : 0 ≤ (16 * z.toInt) / x.toInt := Int.ediv_nonneg (by omega) (by omega)
  rw [e2]
  omega
theorem w_rtT {k : Nat → Int32} {x y : Int32} {r : Nat → Int32} (hx : 0 ≤ x.toInt ∧ x.toInt ≤ 10) (ho : wO k 1408) (h : wK (wVk k x) r) (hy : 1 ≤ y.toInt) : 0 ≤ (16 * F_WR_size 264 r / y : Int32).toInt ∧ (16 * F_WR_size 264 r / y : Int32).toInt ≤ 2048 := w_rt R_size4.1 (w_sz128 h (wVk_nn hx ho).2) hy
theorem w_ixd {x b : Int32} (hx : 0 ≤ x.toInt ∧ x.toInt ≤ 10) (hb : 0 ≤ b.toInt ∧ b.toInt ≤ 2047) : 0 ≤ ((128 * x) + (b / 16) : Int32).toInt ∧ ((128 * x) + (b / 16) : Int32).toInt ≤ 1407 := by
  have e := w_div16 hb.1
  have := (w_ix (x := x) (k := b / 16) hx (by omega)).1
  omega
/-- one turn of Euclid's -/
theorem w_eucS {n : Nat} {a b x y : Nat → Int32} {p : (Nat → Int32) × (Nat → Int32)} (h : wEu (n + 1) (wV a 264) (wV b 264)) (ha : wO a 264) (hb : wN b) (hd : wDq (wV a 264) (wV b 264) p) : wEu n (wV (F_WR_copy 264 264 b x) 264) (wV (F_WR_copy 264 264 p.1 y) 264) := by
  have e1 : wV (F_WR_copy 264 264 b x) 264 = wV b 264 := (R_copy4 ⟨hb.1, rfl⟩).2
  have e2 : wV (F_WR_copy 264 264 p.1 y) 264 = wV p.1 264 := (R_copy4 ⟨hd.1, rfl⟩).2
  rw [e1, e2]
  exact h.step (w_nn ha) hb.2.1 hd.2.2.1 (w_nn hd.1) hd.2.2.2
theorem R_cpK {f g : Nat → Int32} (h : wO f 264) : wK (wV f 264) (F_WR_copy 264 264 f g) := R_copy4 ⟨h, rfl⟩
theorem w_eucT {n : Nat} {a b b' r' : Nat → Int32} {p : (Nat → Int32) × (Nat → Int32)} (h : wEu (n + 1) (wV a 264) (wV b 264)) (ha : wO a 264) (hb : wN b) (hd : wDq (wV a 264) (wV b 264) p) (h1 : wK (wV b 264) b') (h2 : wK (wV p.1 264) r') : wEu n (wV b' 264) (wV r' 264) := by
  have e1 : wV b' 264 = wV b 264 := h1.2
  have e2 : wV r' 264 = wV p.1 264 := h2.2
  rw [e1, e2]
  exact h.step (w_nn ha) hb.2.1 hd.2.2.1 (w_nn hd.1) hd.2.2.2
theorem w_eucM {a b r' : Nat → Int32} {p : (Nat → Int32) × (Nat → Int32)} (hb : wN b) (hd : wDq (wV a 264) (wV b 264) p) (h2 : wK (wV p.1 264) r') : wL (wV r' 264) (65536 ^ 263) := by
  have e2 : wV r' 264 = wV p.1 264 := h2.2
  show _ < _
  rw [e2]
  exact Int.lt_trans hd.2.2.2 hb.2.2
theorem w_eucL {a b y : Nat → Int32} {p : (Nat → Int32) × (Nat → Int32)} (hb : wN b) (hd : wDq (wV a 264) (wV b 264) p) : wL (wV (F_WR_copy 264 264 p.1 y) 264) (65536 ^ 263) := by
  have e2 : wV (F_WR_copy 264 264 p.1 y) 264 = wV p.1 264 := (R_copy4 ⟨hd.1, rfl⟩).2
  show _ < _
  rw [e2]
  exact Int.lt_trans hd.2.2.2 hb.2.2
theorem w_regL {k : Nat → Int32} {x : Int32} {r : Nat → Int32} (hx : 0 ≤ x.toInt ∧ x.toInt ≤ 10) (ho : wO k 1408) (h : wK (wVk k x) r) : wL (wV r 264) (65536 ^ 263) := by
  have h1 : wV r 264 = wVk k x := h.2
  show _ < _
  rw [h1]
  exact Int.lt_of_lt_of_le (wVk_nn hx ho).2 (w_pwle (by decide))
theorem w_eucB {a b : Nat → Int32} (ha : wO a 264) (hb : wO b 264) : wEu 1000000 (wV a 264) (wV b 264) := wEu.start (by decide) (w_nn ha) (w_lt ha) (w_nn hb) (w_lt hb)
def Q_WR_root (p : Int32 × Int32 × Int32 × Int32 × Int32 × Int32 × Int32 × (Nat → Int32) × (Nat → Int32) × (Nat → Int32) × (Nat → Int32) × (Nat → Int32) × (Nat → Int32)) : Prop := wR p.2.2.2.2.2.2.2.1 p.2.2.2.2.2.2.2.2.1
theorem v_rootL {x2 : Int32} {x3 : Int32} {x4 : Int32} {t0_0 : Int32} {t0_1 : Int32} {t0_2 : Int32} {t0_3 : Int32} {t0_4 : Int32} {t0_5 : Int32} {t0_6 : Int32} {t1_0 : (Nat → Int32)} {t2_0 : (Nat → Int32)} {t3_0 : (Nat → Int32)} {t4_0 : (Nat → Int32)} {t5_0 : (Nat → Int32)} {t6_0 : (Nat → Int32)} {lx39 : Int32} {f64 : (Nat → Int32)} (hr : wR t1_0 t2_0)(hx4 : 0 ≤ x4.toInt ∧ x4.toInt ≤ 10)(hx3 : 1 ≤ x3.toInt ∧ x3.toInt ≤ 64) (hf : wO f64 264) : ∀ (n : Nat) (lx91 : Int32) (lx92 : (Nat → Int32)) (lx93 : (Nat → Int32)) (lx94 : (Nat → Int32)), (-1 ≤ lx91.toInt ∧ lx91.toInt ≤ 2048) → (lx91.toInt + 1 < (n : Int)) → (wO lx92 264) → (S_WR_root_L90 x2 x3 x4 t0_0 t0_1 t0_2 t0_3 t0_4 t0_5 t0_6 t1_0 t2_0 t3_0 t4_0 t5_0 t6_0 lx39 f64 n lx91 lx92 lx93 lx94) ∧ Q_WR_root (F_WR_root_L90 x2 x3 x4 t0_0 t0_1 t0_2 t0_3 t0_4 t0_5 t0_6 t1_0 t2_0 t3_0 t4_0 t5_0 t6_0 lx39 f64 n lx91 lx92 lx93 lx94) := by
  intro n
  induction n with
  | zero => intro lx91 lx92 lx93 lx94 h0 hm ho; exact absurd (show False by omega) id
  | succ n ih =>
    intro lx91 lx92 lx93 lx94 h0 hm ho
    have e0 : (0 : Int32).toInt = 0 := rfl
    rw [S_WR_root_L90.eq_2, F_WR_root_L90.eq_2]
    by_cases g1 : lx91 < (0 : Int32)
    ·
      rw [if_pos g1, if_pos g1]
      have g1i : lx91.toInt < 0 := q_ltI g1
      have h2 := R_store  (x2 := x4) (t0_0 := lx39) (t0_1 := (2 : Int32)) (t0_2 := t0_2) (t0_3 := (0 : Int32)) (t0_4 := t0_4) (t0_5 := t0_5) (t0_6 := t0_6) (t1_0 := t1_0) (t2_0 := t2_0) (t3_0 := lx92) (by first | with_reducible assumption | with_reducible exact R_cl | (with_reducible apply R_cp; first | with_reducible assumption | with_reducible exact R_cl) | (with_reducible refine wO_upd ?_ w_m16; with_reducible assumption) | (with_reducible apply wR.mi <;> with_reducible assumption) | (with_reducible apply w_rootU <;> first | with_reducible assumption | omega) | (with_reducible refine w_rootD (w_rootU ?_ ?_ ?_) ?_ ?_ <;> first | with_reducible assumption | omega) | omega | decide) (by first | with_reducible assumption | with_reducible exact R_cl | (with_reducible apply R_cp; first | with_reducible assumption | with_reducible exact R_cl) | (with_reducible refine wO_upd ?_ w_m16; with_reducible assumption) | (with_reducible apply wR.mi <;> with_reducible assumption) | (with_reducible apply w_rootU <;> first | with_reducible assumption | omega) | (with_reducible refine w_rootD (w_rootU ?_ ?_ ?_) ?_ ?_ <;> first | with_reducible assumption | omega) | omega | decide) (by first | with_reducible assumption | with_reducible exact R_cl | (with_reducible apply R_cp; first | with_reducible assumption | with_reducible exact R_cl) | (with_reducible refine wO_upd ?_ w_m16; with_reducible assumption) | (with_reducible apply wR.mi <;> with_reducible assumption) | (with_reducible apply w_rootU <;> first | with_reducible assumption | omega) | (with_reducible refine w_rootD (w_rootU ?_ ?_ ?_) ?_ ?_ <;> first | with_reducible assumption | omega) | omega | decide)
      have h2r := h2.2
      with_reducible refine v_owe h2.1 ?_
      replace h2 := h2.2
      generalize F_WR_store x4 lx39 (2 : Int32) t0_2 (0 : Int32) t0_4 t0_5 t0_6 t1_0 t2_0 lx92 = p145 at *
      unfold S_WR_root_c174 F_WR_root_c174
      refine ⟨trivial, ?_⟩
      (unfold Q_WR_root; dsimp only; first | with_reducible assumption | exact hr)
    ·
      rw [if_neg g1, if_neg g1]
      have g1i : 0 ≤ lx91.toInt := q_nltI g1
      refine v_cons (by rw [w_div16 (by omega)]; omega) ?_
      have h3 := T_WR_fits  (x2 := x3) (t0_0 := lx39) (t0_1 := (2 : Int32)) (t0_2 := t0_2) (t0_3 := t0_3) (t0_4 := t0_4) (t0_5 := t0_5) (t0_6 := t0_6) (t1_0 := (upd lx92 (lx91 / 16 : Int32).toNatClampNeg ((lx92 (lx91 / 16 : Int32).toNatClampNeg : Int32) ||| ((1 : Int32) <<< ((lx91 - lx91 / 16 * 16 : Int32) &&& 31) : Int32) : Int32) : (Nat → Int32))) (t2_0 := lx93) (t3_0 := lx94) (t4_0 := f64) (by first | with_reducible assumption | with_reducible exact R_cl | (with_reducible apply R_cp; first | with_reducible assumption | with_reducible exact R_cl) | (with_reducible refine wO_upd ?_ w_m16; with_reducible assumption) | (with_reducible apply wR.mi <;> with_reducible assumption) | (with_reducible apply w_rootU <;> first | with_reducible assumption | omega) | (with_reducible refine w_rootD (w_rootU ?_ ?_ ?_) ?_ ?_ <;> first | with_reducible assumption | omega) | omega | decide) (by first | with_reducible assumption | with_reducible exact R_cl | (with_reducible apply R_cp; first | with_reducible assumption | with_reducible exact R_cl) | (with_reducible refine wO_upd ?_ w_m16; with_reducible assumption) | (with_reducible apply wR.mi <;> with_reducible assumption) | (with_reducible apply w_rootU <;> first | with_reducible assumption | omega) | (with_reducible refine w_rootD (w_rootU ?_ ?_ ?_) ?_ ?_ <;> first | with_reducible assumption | omega) | omega | decide) ⟨by omega, by omega⟩
      have h3k := h3.2
      with_reducible refine v_owe h3.1 ?_
      replace h3 := h3.2
      generalize F_WR_fits x3 lx39 (2 : Int32) t0_2 t0_3 t0_4 t0_5 t0_6 (upd lx92 (lx91 / 16 : Int32).toNatClampNeg ((lx92 (lx91 / 16 : Int32).toNatClampNeg : Int32) ||| ((1 : Int32) <<< ((lx91 - lx91 / 16 * 16 : Int32) &&& 31) : Int32) : Int32) : (Nat → Int32)) lx93 lx94 f64 = p194 at *
      unfold S_WR_root_c125 F_WR_root_c125
      by_cases g4 : (p194.1 : Int32) = (0 : Int32)
      ·
        rw [if_pos g4, if_pos g4]
        obtain ⟨a5, e6⟩ := q_nm (lx91 + (-1) : Int32)
        rw [e6]
        have a5i : a5.toInt = lx91.toInt + (-1) := by rw [← e6]; exact q_addI (x := lx91.toInt) (y := (-1)) rfl (by decide) (by omega) (by omega)
        exact ih _ _ _ _ (by first | with_reducible assumption | with_reducible exact R_cl | (with_reducible apply R_cp; first | with_reducible assumption | with_reducible exact R_cl) | (with_reducible refine wO_upd ?_ w_m16; with_reducible assumption) | (with_reducible apply wR.mi <;> with_reducible assumption) | (with_reducible apply w_rootU <;> first | with_reducible assumption | omega) | (with_reducible refine w_rootD (w_rootU ?_ ?_ ?_) ?_ ?_ <;> first | with_reducible assumption | omega) | omega | decide) (by first | with_reducible assumption | with_reducible exact R_cl | (with_reducible apply R_cp; first | with_reducible assumption | with_reducible exact R_cl) | (with_reducible refine wO_upd ?_ w_m16; with_reducible assumption) | (with_reducible apply wR.mi <;> with_reducible assumption) | (with_reducible apply w_rootU <;> first | with_reducible assumption | omega) | (with_reducible refine w_rootD (w_rootU ?_ ?_ ?_) ?_ ?_ <;> first | with_reducible assumption | omega) | omega | decide) (by first | with_reducible assumption | with_reducible exact R_cl | (with_reducible apply R_cp; first | with_reducible assumption | with_reducible exact R_cl) | (with_reducible refine wO_upd ?_ w_m16; with_reducible assumption) | (with_reducible apply wR.mi <;> with_reducible assumption) | (with_reducible apply w_rootU <;> first | with_reducible assumption | omega) | (with_reducible refine w_rootD (w_rootU ?_ ?_ ?_) ?_ ?_ <;> first | with_reducible assumption | omega) | omega | decide)
      ·
        rw [if_neg g4, if_neg g4]
        obtain ⟨a7, e8⟩ := q_nm (lx91 + (-1) : Int32)
        rw [e8]
        have a7i : a7.toInt = lx91.toInt + (-1) := by rw [← e8]; exact q_addI (x := lx91.toInt) (y := (-1)) rfl (by decide) (by omega) (by omega)
        exact ih _ _ _ _ (by first | with_reducible assumption | with_reducible exact R_cl | (with_reducible apply R_cp; first | with_reducible assumption | with_reducible exact R_cl) | (with_reducible refine wO_upd ?_ w_m16; with_reducible assumption) | (with_reducible apply wR.mi <;> with_reducible assumption) | (with_reducible apply w_rootU <;> first | with_reducible assumption | omega) | (with_reducible refine w_rootD (w_rootU ?_ ?_ ?_) ?_ ?_ <;> first | with_reducible assumption | omega) | omega | decide) (by first | with_reducible assumption | with_reducible exact R_cl | (with_reducible apply R_cp; first | with_reducible assumption | with_reducible exact R_cl) | (with_reducible refine wO_upd ?_ w_m16; with_reducible assumption) | (with_reducible apply wR.mi <;> with_reducible assumption) | (with_reducible apply w_rootU <;> first | with_reducible assumption | omega) | (with_reducible refine w_rootD (w_rootU ?_ ?_ ?_) ?_ ?_ <;> first | with_reducible assumption | omega) | omega | decide) (by first | with_reducible assumption | with_reducible exact R_cl | (with_reducible apply R_cp; first | with_reducible assumption | with_reducible exact R_cl) | (with_reducible refine wO_upd ?_ w_m16; with_reducible assumption) | (with_reducible apply wR.mi <;> with_reducible assumption) | (with_reducible apply w_rootU <;> first | with_reducible assumption | omega) | (with_reducible refine w_rootD (w_rootU ?_ ?_ ?_) ?_ ?_ <;> first | with_reducible assumption | omega) | omega | decide)
theorem T_WR_root {x2 : Int32} {x3 : Int32} {x4 : Int32} {t0_0 : Int32} {t0_1 : Int32} {t0_2 : Int32} {t0_3 : Int32} {t0_4 : Int32} {t0_5 : Int32} {t0_6 : Int32} {t1_0 : (Nat → Int32)} {t2_0 : (Nat → Int32)} {t3_0 : (Nat → Int32)} {t4_0 : (Nat → Int32)} {t5_0 : (Nat → Int32)} {t6_0 : (Nat → Int32)} (hr : wR t1_0 t2_0) : (S_WR_root x2 x3 x4 t0_0 t0_1 t0_2 t0_3 t0_4 t0_5 t0_6 t1_0 t2_0 t3_0 t4_0 t5_0 t6_0) ∧ Q_WR_root (F_WR_root x2 x3 x4 t0_0 t0_1 t0_2 t0_3 t0_4 t0_5 t0_6 t1_0 t2_0 t3_0 t4_0 t5_0 t6_0) := by
  have e0 : (0 : Int32).toInt = 0 := rfl
  have e1 : (1 : Int32).toInt = 1 := rfl
  have e64 : (64 : Int32).toInt = 64 := rfl
  unfold S_WR_root F_WR_root
  by_cases g1 : ((F_WR_no x2) : Int32) = (0 : Int32)
  ·
    rw [if_pos g1, if_pos g1]
    have g1r := w_no g1
    by_cases g2 : ((F_WR_no x4) : Int32) = (0 : Int32)
    ·
      rw [if_pos g2, if_pos g2]
      have g2r := w_no g2
      by_cases g3 : x3 < (1 : Int32)
      ·
        rw [if_pos g3, if_pos g3]
        have g3i : x3.toInt < 1 := q_ltI g3
        unfold S_WR_root_J26 F_WR_root_J26
        unfold S_WR_root_J44 F_WR_root_J44
        have g4 : ¬ ((1 : Int32) ≤ (0 : Int32)) := (by decide)
        rw [if_neg g4, if_neg g4]
        refine ⟨trivial, ?_⟩
        (unfold Q_WR_root; dsimp only; first | with_reducible assumption | exact hr)
      ·
        rw [if_neg g3, if_neg g3]
        have g3i : 1 ≤ x3.toInt := q_nltI g3
        by_cases g5 : x3 ≤ (64 : Int32)
        ·
          rw [if_pos g5, if_pos g5]
          have g5i : x3.toInt ≤ 64 := q_leI g5
          refine v_cons (by omega) ?_
          refine v_cons (by omega) ?_
          by_cases g6 : (t2_0 x2.toNatClampNeg : Int32) = (0 : Int32)
          ·
            rw [if_pos g6, if_pos g6]
            unfold S_WR_root_J44 F_WR_root_J44
            have g7 : ((0 : Int32) ≤ (0 : Int32)) := (by decide)
            rw [if_pos g7, if_pos g7]
            have h8 := R_take  (x2 := x2) (t0_0 := (0 : Int32)) (t0_1 := (2 : Int32)) (t0_2 := t0_2) (t0_3 := t0_3) (t0_4 := t0_4) (t0_5 := t0_5) (t0_6 := t0_6) (t1_0 := t1_0) (t2_0 := t6_0) (by first | with_reducible assumption | with_reducible exact R_cl | (with_reducible apply R_cp; first | with_reducible assumption | with_reducible exact R_cl) | (with_reducible refine wO_upd ?_ w_m16; with_reducible assumption) | (with_reducible apply wR.mi <;> with_reducible assumption)  | omega | decide) (wR.o (by with_reducible assumption))
            have h8k := h8.2.1
            have h8v := h8.2
            with_reducible refine v_owe h8.1 ?_
            refine v_cons (by omega) ?_
            have hrt := w_rtT (x := x2) (y := x3) (by with_reducible assumption) (wR.o hr) (by with_reducible assumption) (by omega); exact v_rootL hr (by with_reducible assumption) ⟨by omega, by omega⟩ (by with_reducible assumption) _ _ _ _ _ ⟨by omega, by omega⟩ (by omega) R_cl
          ·
            rw [if_neg g6, if_neg g6]
            unfold S_WR_root_J44 F_WR_root_J44
            have g9 : ¬ ((2 : Int32) ≤ (0 : Int32)) := (by decide)
            rw [if_neg g9, if_neg g9]
            refine ⟨trivial, ?_⟩
            (unfold Q_WR_root; dsimp only; first | with_reducible assumption | exact hr)
        ·
          rw [if_neg g5, if_neg g5]
          have g5i : 64 < x3.toInt := q_nleI g5
          unfold S_WR_root_J26 F_WR_root_J26
          unfold S_WR_root_J44 F_WR_root_J44
          have g10 : ¬ ((1 : Int32) ≤ (0 : Int32)) := (by decide)
          rw [if_neg g10, if_neg g10]
          refine ⟨trivial, ?_⟩
          (unfold Q_WR_root; dsimp only; first | with_reducible assumption | exact hr)
    ·
      rw [if_neg g2, if_neg g2]
      unfold S_WR_root_J26 F_WR_root_J26
      unfold S_WR_root_J44 F_WR_root_J44
      have g11 : ¬ ((1 : Int32) ≤ (0 : Int32)) := (by decide)
      rw [if_neg g11, if_neg g11]
      refine ⟨trivial, ?_⟩
      (unfold Q_WR_root; dsimp only; first | with_reducible assumption | exact hr)
  ·
    rw [if_neg g1, if_neg g1]
    unfold S_WR_root_J26 F_WR_root_J26
    unfold S_WR_root_J44 F_WR_root_J44
    have g12 : ¬ ((1 : Int32) ≤ (0 : Int32)) := (by decide)
    rw [if_neg g12, if_neg g12]
    refine ⟨trivial, ?_⟩
    (unfold Q_WR_root; dsimp only; first | with_reducible assumption | exact hr)
def Q_WR_common (p : Int32 × Int32 × Int32 × Int32 × Int32 × Int32 × Int32 × (Nat → Int32) × (Nat → Int32) × (Nat → Int32) × (Nat → Int32) × (Nat → Int32) × (Nat → Int32) × (Nat → Int32)) : Prop := wR p.2.2.2.2.2.2.2.1 p.2.2.2.2.2.2.2.2.1
theorem v_comL {x2 : Int32} {x3 : Int32} {x4 : Int32} {t0_0 : Int32} {t0_1 : Int32} {t0_2 : Int32} {t0_3 : Int32} {t0_4 : Int32} {t0_5 : Int32} {t0_6 : Int32} {t1_0 : (Nat → Int32)} {t2_0 : (Nat → Int32)} {t3_0 : (Nat → Int32)} {t4_0 : (Nat → Int32)} {t5_0 : (Nat → Int32)} {t6_0 : (Nat → Int32)} {t7_0 : (Nat → Int32)} {lx42 : Int32} (hr : wR t1_0 t2_0)(hx4 : 0 ≤ x4.toInt ∧ x4.toInt ≤ 10) : ∀ (n : Nat) (lx79 : (Nat → Int32)) (lx80 : (Nat → Int32)) (lx81 : (Nat → Int32)) (lx82 : (Nat → Int32)), (wO lx81 264) → (wO lx82 264) → (wL (wV lx82 264) (65536 ^ 263)) → (wEu n (wV lx81 264) (wV lx82 264)) → (S_WR_common_L56 x2 x3 x4 t0_0 t0_1 t0_2 t0_3 t0_4 t0_5 t0_6 t1_0 t2_0 t3_0 t4_0 t5_0 t6_0 t7_0 lx42 n lx79 lx80 lx81 lx82) ∧ Q_WR_common (F_WR_common_L56 x2 x3 x4 t0_0 t0_1 t0_2 t0_3 t0_4 t0_5 t0_6 t1_0 t2_0 t3_0 t4_0 t5_0 t6_0 t7_0 lx42 n lx79 lx80 lx81 lx82) := by
  intro n
  induction n with
  | zero => intro lx79 lx80 lx81 lx82 ho1 ho2 hl hE; exact absurd hE.ge (by decide)
  | succ n ih =>
    intro lx79 lx80 lx81 lx82 ho1 ho2 hl hE
    rw [S_WR_common_L56.eq_2, F_WR_common_L56.eq_2]
    by_cases g1 : ((F_WR_size (264 : Int32) lx82) : Int32) ≤ (0 : Int32)
    ·
      rw [if_pos g1, if_pos g1]
      have h2 := R_store  (x2 := x4) (t0_0 := lx42) (t0_1 := t0_1) (t0_2 := t0_2) (t0_3 := (0 : Int32)) (t0_4 := t0_4) (t0_5 := t0_5) (t0_6 := t0_6) (t1_0 := t1_0) (t2_0 := t2_0) (t3_0 := ((F_WR_copy (264 : Int32) (264 : Int32) lx81 t3_0) : (Nat → Int32))) (by first | with_reducible assumption | with_reducible exact R_cl | (with_reducible apply R_cp; first | with_reducible assumption | with_reducible exact R_cl) | (with_reducible refine wO_upd ?_ w_m16; with_reducible assumption) | (with_reducible apply wR.mi <;> with_reducible assumption)  | omega | decide) (by first | with_reducible assumption | with_reducible exact R_cl | (with_reducible apply R_cp; first | with_reducible assumption | with_reducible exact R_cl) | (with_reducible refine wO_upd ?_ w_m16; with_reducible assumption) | (with_reducible apply wR.mi <;> with_reducible assumption)  | omega | decide) (by first | with_reducible assumption | with_reducible exact R_cl | (with_reducible apply R_cp; first | with_reducible assumption | with_reducible exact R_cl) | (with_reducible refine wO_upd ?_ w_m16; with_reducible assumption) | (with_reducible apply wR.mi <;> with_reducible assumption)  | omega | decide)
      have h2r := h2.2
      with_reducible refine v_owe h2.1 ?_
      have h3 := R_cpK  (f := lx81) (g := t3_0) (by first | with_reducible assumption | with_reducible exact R_cl | (with_reducible apply R_cp; first | with_reducible assumption | with_reducible exact R_cl) | (with_reducible refine wO_upd ?_ w_m16; with_reducible assumption) | (with_reducible apply wR.mi <;> with_reducible assumption)  | omega | decide)
      have h3k := h3.1
      have h3v := h3
      replace h2 := h2.2
      generalize F_WR_store x4 lx42 t0_1 t0_2 (0 : Int32) t0_4 t0_5 t0_6 t1_0 t2_0 ((F_WR_copy (264 : Int32) (264 : Int32) lx81 t3_0) : (Nat → Int32)) = p145 at *
      generalize F_WR_copy (264 : Int32) (264 : Int32) lx81 t3_0 = f109 at *
      unfold S_WR_common_c121 F_WR_common_c121
      refine ⟨trivial, ?_⟩
      (unfold Q_WR_common; dsimp only; first | with_reducible assumption | exact hr)
    ·
      rw [if_neg g1, if_neg g1]
      have hN : wN lx82 := ⟨ho2, w_sz1 ho2 g1, hl⟩
      have h4 := R_div4  (t0_0 := lx42) (t0_1 := t0_1) (t0_2 := t0_2) (t0_3 := t0_3) (t0_4 := t0_4) (t0_5 := t0_5) (t0_6 := t0_6) (t1_0 := lx79) (t2_0 := lx80) (t3_0 := lx81) (t4_0 := lx82) (by first | with_reducible assumption | with_reducible exact R_cl | (with_reducible apply R_cp; first | with_reducible assumption | with_reducible exact R_cl) | (with_reducible refine wO_upd ?_ w_m16; with_reducible assumption) | (with_reducible apply wR.mi <;> with_reducible assumption)  | omega | decide) (by first | with_reducible assumption | (refine w_reg ?_ (wR.o (by with_reducible assumption)) (by with_reducible assumption) ?_ <;> with_reducible assumption))
      have h4k := h4.2.1
      have h4q := h4.2.2.1
      have h4d := h4.2
      with_reducible refine v_owe h4.1 ?_
      replace h4 := h4.2
      generalize F_WR_divideRows (264 : Int32) (264 : Int32) lx42 t0_1 t0_2 t0_3 t0_4 t0_5 t0_6 lx79 lx80 lx81 lx82 = p171 at *
      unfold S_WR_common_c75 F_WR_common_c75
      exact ih _ _ _ _ (R_cp ho2) (R_cp (by with_reducible assumption)) (w_eucL hN (by with_reducible assumption)) (w_eucS hE ho1 hN (by with_reducible assumption))
theorem T_WR_common {x2 : Int32} {x3 : Int32} {x4 : Int32} {t0_0 : Int32} {t0_1 : Int32} {t0_2 : Int32} {t0_3 : Int32} {t0_4 : Int32} {t0_5 : Int32} {t0_6 : Int32} {t1_0 : (Nat → Int32)} {t2_0 : (Nat → Int32)} {t3_0 : (Nat → Int32)} {t4_0 : (Nat → Int32)} {t5_0 : (Nat → Int32)} {t6_0 : (Nat → Int32)} {t7_0 : (Nat → Int32)} (hr : wR t1_0 t2_0) : (S_WR_common x2 x3 x4 t0_0 t0_1 t0_2 t0_3 t0_4 t0_5 t0_6 t1_0 t2_0 t3_0 t4_0 t5_0 t6_0 t7_0) ∧ Q_WR_common (F_WR_common x2 x3 x4 t0_0 t0_1 t0_2 t0_3 t0_4 t0_5 t0_6 t1_0 t2_0 t3_0 t4_0 t5_0 t6_0 t7_0) := by
  have e0 : (0 : Int32).toInt = 0 := rfl
  unfold S_WR_common F_WR_common
  by_cases g1 : ((F_WR_no x2) : Int32) = (0 : Int32)
  ·
    rw [if_pos g1, if_pos g1]
    have g1r := w_no g1
    by_cases g2 : ((F_WR_no x3) : Int32) = (0 : Int32)
    ·
      rw [if_pos g2, if_pos g2]
      have g2r := w_no g2
      by_cases g3 : ((F_WR_no x4) : Int32) = (0 : Int32)
      ·
        rw [if_pos g3, if_pos g3]
        have g3r := w_no g3
        unfold S_WR_common_J27 F_WR_common_J27
        have g4 : ((0 : Int32) ≤ (0 : Int32)) := (by decide)
        rw [if_pos g4, if_pos g4]
        have h5 := R_take  (x2 := x2) (t0_0 := (0 : Int32)) (t0_1 := t0_1) (t0_2 := t0_2) (t0_3 := t0_3) (t0_4 := t0_4) (t0_5 := t0_5) (t0_6 := t0_6) (t1_0 := t1_0) (t2_0 := t6_0) (by first | with_reducible assumption | with_reducible exact R_cl | (with_reducible apply R_cp; first | with_reducible assumption | with_reducible exact R_cl) | (with_reducible refine wO_upd ?_ w_m16; with_reducible assumption) | (with_reducible apply wR.mi <;> with_reducible assumption)  | omega | decide) (wR.o (by with_reducible assumption))
        have h5k := h5.2.1
        have h5v := h5.2
        with_reducible refine v_owe h5.1 ?_
        have h6 := R_take  (x2 := x3) (t0_0 := (0 : Int32)) (t0_1 := t0_1) (t0_2 := t0_2) (t0_3 := t0_3) (t0_4 := t0_4) (t0_5 := t0_5) (t0_6 := t0_6) (t1_0 := t1_0) (t2_0 := t7_0) (by first | with_reducible assumption | with_reducible exact R_cl | (with_reducible apply R_cp; first | with_reducible assumption | with_reducible exact R_cl) | (with_reducible refine wO_upd ?_ w_m16; with_reducible assumption) | (with_reducible apply wR.mi <;> with_reducible assumption)  | omega | decide) (wR.o (by with_reducible assumption))
        have h6k := h6.2.1
        have h6v := h6.2
        with_reducible refine v_owe h6.1 ?_
        exact v_comL hr (by with_reducible assumption) 1000000 _ _ _ _ (by with_reducible assumption) (by with_reducible assumption) (w_regL (x := x3) (by with_reducible assumption) (wR.o hr) (by with_reducible assumption)) (w_eucB (by with_reducible assumption) (by with_reducible assumption))
      ·
        rw [if_neg g3, if_neg g3]
        unfold S_WR_common_J22 F_WR_common_J22
        unfold S_WR_common_J27 F_WR_common_J27
        have g7 : ¬ ((1 : Int32) ≤ (0 : Int32)) := (by decide)
        rw [if_neg g7, if_neg g7]
        refine ⟨trivial, ?_⟩
        (unfold Q_WR_common; dsimp only; first | with_reducible assumption | exact hr)
    ·
      rw [if_neg g2, if_neg g2]
      unfold S_WR_common_J22 F_WR_common_J22
      unfold S_WR_common_J27 F_WR_common_J27
      have g8 : ¬ ((1 : Int32) ≤ (0 : Int32)) := (by decide)
      rw [if_neg g8, if_neg g8]
      refine ⟨trivial, ?_⟩
      (unfold Q_WR_common; dsimp only; first | with_reducible assumption | exact hr)
  ·
    rw [if_neg g1, if_neg g1]
    unfold S_WR_common_J22 F_WR_common_J22
    unfold S_WR_common_J27 F_WR_common_J27
    have g9 : ¬ ((1 : Int32) ≤ (0 : Int32)) := (by decide)
    rw [if_neg g9, if_neg g9]
    refine ⟨trivial, ?_⟩
    (unfold Q_WR_common; dsimp only; first | with_reducible assumption | exact hr)
def Q_WR_inverts (p : Int32 × Int32 × Int32 × Int32 × Int32 × Int32 × Int32 × Int32 × (Nat → Int32) × (Nat → Int32) × (Nat → Int32) × (Nat → Int32) × (Nat → Int32) × (Nat → Int32) × (Nat → Int32) × (Nat → Int32) × (Nat → Int32)) : Prop := wO p.2.2.2.2.2.2.2.2.2.2.2.2.2.1 264
theorem R_cj {f g r : Nat → Int32} (hf : wO f 264) (hg : wO g 264) : wO (F_WR_copy 264 264 (F_WR_join 264 264 (F_WR_size 264 f) 1 1 g f) r) 264 := (R_redJ hf hg).2
theorem R_jS {f g : Nat → Int32} (hf : wO f 264) (hg : wO g 264) : S_WR_join 264 264 (F_WR_size 264 f) 1 1 g f ∧ True := ⟨(R_redJ (r := f) hf hg).1, trivial⟩
theorem v_invL {t0_0 : Int32} {t0_1 : Int32} {t0_2 : Int32} {t0_3 : Int32} {t0_4 : Int32} {t0_5 : Int32} {t0_6 : Int32} {t1_0 : (Nat → Int32)} {t2_0 : (Nat → Int32)} {t3_0 : (Nat → Int32)} {t4_0 : (Nat → Int32)} {t5_0 : (Nat → Int32)} {t6_0 : (Nat → Int32)} {t7_0 : (Nat → Int32)} {t8_0 : (Nat → Int32)} {t9_0 : (Nat → Int32)} {t10_0 : (Nat → Int32)} (hN0 : wN t10_0) (hO0 : wO t10_0 264) : ∀ (n : Nat) (lx70 : Int32) (lx71 : Int32) (lx72 : Int32) (lx73 : Int32) (lx74 : Int32) (lx75 : Int32) (lx76 : Int32) (lx77 : (Nat → Int32)) (lx78 : (Nat → Int32)) (lx79 : (Nat → Int32)) (lx80 : (Nat → Int32)) (lx81 : (Nat → Int32)) (lx82 : (Nat → Int32)) (lx83 : (Nat → Int32)) (lx84 : (Nat → Int32)) (lx85 : (Nat → Int32)), (wO lx82 264) → (wO lx83 264) → (wO lx84 264) → (wO lx85 264) → (wL (wV lx83 264) (65536 ^ 263)) → (wEu n (wV lx82 264) (wV lx83 264)) → (S_WR_inverts_L36 t0_0 t0_1 t0_2 t0_3 t0_4 t0_5 t0_6 t1_0 t2_0 t3_0 t4_0 t5_0 t6_0 t7_0 t8_0 t9_0 t10_0 n lx70 lx71 lx72 lx73 lx74 lx75 lx76 lx77 lx78 lx79 lx80 lx81 lx82 lx83 lx84 lx85) ∧ Q_WR_inverts (F_WR_inverts_L36 t0_0 t0_1 t0_2 t0_3 t0_4 t0_5 t0_6 t1_0 t2_0 t3_0 t4_0 t5_0 t6_0 t7_0 t8_0 t9_0 t10_0 n lx70 lx71 lx72 lx73 lx74 lx75 lx76 lx77 lx78 lx79 lx80 lx81 lx82 lx83 lx84 lx85) := by
  intro n
  induction n with
  | zero => intro lx70 lx71 lx72 lx73 lx74 lx75 lx76 lx77 lx78 lx79 lx80 lx81 lx82 lx83 lx84 lx85 ho1 ho2 ho3 ho4 hl hE; exact absurd hE.ge (by decide)
  | succ n ih =>
    intro lx70 lx71 lx72 lx73 lx74 lx75 lx76 lx77 lx78 lx79 lx80 lx81 lx82 lx83 lx84 lx85 ho1 ho2 ho3 ho4 hl hE
    rw [S_WR_inverts_L36.eq_2, F_WR_inverts_L36.eq_2]
    by_cases g1 : ((F_WR_size (264 : Int32) lx83) : Int32) ≤ (0 : Int32)
    ·
      rw [if_pos g1, if_pos g1]
      by_cases g2 : ((F_WR_size (264 : Int32) lx82) : Int32) = (1 : Int32)
      ·
        rw [if_pos g2, if_pos g2]
        by_cases g3 : (lx82 (0 : Int32).toNatClampNeg : Int32) = (1 : Int32)
        ·
          rw [if_pos g3, if_pos g3]
          have h4 := R_div4  (t0_0 := lx70) (t0_1 := lx71) (t0_2 := lx72) (t0_3 := lx73) (t0_4 := lx74) (t0_5 := lx75) (t0_6 := lx76) (t1_0 := lx80) (t2_0 := lx81) (t3_0 := lx84) (t4_0 := t10_0) (by first | with_reducible assumption | with_reducible exact R_cl | (with_reducible apply R_cp; first | with_reducible assumption | with_reducible exact R_cl) | (with_reducible refine wO_upd ?_ w_m16; with_reducible assumption) | (with_reducible apply wR.mi <;> with_reducible assumption)  | omega | decide) (by first | with_reducible assumption | (refine w_reg ?_ (wR.o (by with_reducible assumption)) (by with_reducible assumption) ?_ <;> with_reducible assumption))
          have h4k := h4.2.1
          have h4q := h4.2.2.1
          have h4d := h4.2
          with_reducible refine v_owe h4.1 ?_
          replace h4 := h4.2
          generalize F_WR_divideRows (264 : Int32) (264 : Int32) lx70 lx71 lx72 lx73 lx74 lx75 lx76 lx80 lx81 lx84 t10_0 = p150 at *
          unfold S_WR_inverts_c197 F_WR_inverts_c197
          by_cases g5 : lx74 = (0 : Int32)
          ·
            rw [if_pos g5, if_pos g5]
            refine ⟨trivial, ?_⟩
            (unfold Q_WR_inverts; dsimp only; first | with_reducible assumption | (with_reducible apply R_cj <;> (with_reducible apply R_cp; first | with_reducible assumption | exact hN0.1)) | (with_reducible apply R_cp; with_reducible assumption))
          ·
            rw [if_neg g5, if_neg g5]
            by_cases g6 : ((F_WR_size (264 : Int32) ((F_WR_copy (264 : Int32) (264 : Int32) (p150.1 : (Nat → Int32)) lx82) : (Nat → Int32))) : Int32) ≤ (0 : Int32)
            ·
              rw [if_pos g6, if_pos g6]
              refine ⟨trivial, ?_⟩
              (unfold Q_WR_inverts; dsimp only; first | with_reducible assumption | (with_reducible apply R_cj <;> (with_reducible apply R_cp; first | with_reducible assumption | exact hN0.1)) | (with_reducible apply R_cp; with_reducible assumption))
            ·
              rw [if_neg g6, if_neg g6]
              have h7 := R_jS  (f := ((F_WR_copy (264 : Int32) (264 : Int32) (p150.1 : (Nat → Int32)) lx82) : (Nat → Int32))) (g := ((F_WR_copy (264 : Int32) (264 : Int32) t10_0 lx77) : (Nat → Int32))) (by first | with_reducible assumption | with_reducible exact R_cl | (with_reducible apply R_cp; first | with_reducible assumption | with_reducible exact R_cl) | (with_reducible refine wO_upd ?_ w_m16; with_reducible assumption) | (with_reducible apply wR.mi <;> with_reducible assumption)  | omega | decide) (by first | with_reducible assumption | with_reducible exact R_cl | (with_reducible apply R_cp; first | with_reducible assumption | with_reducible exact R_cl) | (with_reducible refine wO_upd ?_ w_m16; with_reducible assumption) | (with_reducible apply wR.mi <;> with_reducible assumption)  | omega | decide)
              with_reducible refine v_owe h7.1 ?_
              refine ⟨trivial, ?_⟩
              (unfold Q_WR_inverts; dsimp only; first | with_reducible assumption | (with_reducible apply R_cj <;> (with_reducible apply R_cp; first | with_reducible assumption | exact hN0.1)) | (with_reducible apply R_cp; with_reducible assumption))
        ·
          rw [if_neg g3, if_neg g3]
          refine ⟨trivial, ?_⟩
          (unfold Q_WR_inverts; dsimp only; first | with_reducible assumption | (with_reducible apply R_cj <;> (with_reducible apply R_cp; first | with_reducible assumption | exact hN0.1)) | (with_reducible apply R_cp; with_reducible assumption))
      ·
        rw [if_neg g2, if_neg g2]
        refine ⟨trivial, ?_⟩
        (unfold Q_WR_inverts; dsimp only; first | with_reducible assumption | (with_reducible apply R_cj <;> (with_reducible apply R_cp; first | with_reducible assumption | exact hN0.1)) | (with_reducible apply R_cp; with_reducible assumption))
    ·
      rw [if_neg g1, if_neg g1]
      have hN : wN lx83 := ⟨ho2, w_sz1 ho2 g1, hl⟩
      have h8 := R_div4  (t0_0 := lx70) (t0_1 := lx71) (t0_2 := lx72) (t0_3 := lx73) (t0_4 := lx74) (t0_5 := lx75) (t0_6 := lx76) (t1_0 := lx80) (t2_0 := lx81) (t3_0 := lx82) (t4_0 := lx83) (by first | with_reducible assumption | with_reducible exact R_cl | (with_reducible apply R_cp; first | with_reducible assumption | with_reducible exact R_cl) | (with_reducible refine wO_upd ?_ w_m16; with_reducible assumption) | (with_reducible apply wR.mi <;> with_reducible assumption)  | omega | decide) (by first | with_reducible assumption | (refine w_reg ?_ (wR.o (by with_reducible assumption)) (by with_reducible assumption) ?_ <;> with_reducible assumption))
      have h8k := h8.2.1
      have h8q := h8.2.2.1
      have h8d := h8.2
      with_reducible refine v_owe h8.1 ?_
      replace h8 := h8.2
      generalize F_WR_divideRows (264 : Int32) (264 : Int32) lx70 lx71 lx72 lx73 lx74 lx75 lx76 lx80 lx81 lx82 lx83 = p219 at *
      unfold S_WR_inverts_c55 F_WR_inverts_c55
      have h9 := R_mul4  (t0_0 := lx70) (t0_1 := lx71) (t0_2 := lx72) (t0_3 := lx73) (t0_4 := lx74) (t0_5 := lx75) (t0_6 := lx76) (t1_0 := lx79) (t2_0 := (p219.2 : (Nat → Int32))) (t3_0 := lx85) (t4_0 := lx78) (by first | with_reducible assumption | with_reducible exact R_cl | (with_reducible apply R_cp; first | with_reducible assumption | with_reducible exact R_cl) | (with_reducible refine wO_upd ?_ w_m16; with_reducible assumption) | (with_reducible apply wR.mi <;> with_reducible assumption)  | omega | decide) (by first | with_reducible assumption | with_reducible exact R_cl | (with_reducible apply R_cp; first | with_reducible assumption | with_reducible exact R_cl) | (with_reducible refine wO_upd ?_ w_m16; with_reducible assumption) | (with_reducible apply wR.mi <;> with_reducible assumption)  | omega | decide)
      have h9k := h9.2
      with_reducible refine v_owe h9.1 ?_
      have h10 := R_cpK  (f := lx83) (g := lx82) (by first | with_reducible assumption | with_reducible exact R_cl | (with_reducible apply R_cp; first | with_reducible assumption | with_reducible exact R_cl) | (with_reducible refine wO_upd ?_ w_m16; with_reducible assumption) | (with_reducible apply wR.mi <;> with_reducible assumption)  | omega | decide)
      have h10k := h10.1
      have h10v := h10
      have h11 := R_cpK  (f := (p219.1 : (Nat → Int32))) (g := lx83) (by first | with_reducible assumption | with_reducible exact R_cl | (with_reducible apply R_cp; first | with_reducible assumption | with_reducible exact R_cl) | (with_reducible refine wO_upd ?_ w_m16; with_reducible assumption) | (with_reducible apply wR.mi <;> with_reducible assumption)  | omega | decide)
      have h11k := h11.1
      have h11v := h11
      replace h9 := h9.2
      generalize F_WR_multiplyRows (264 : Int32) (264 : Int32) (264 : Int32) lx70 lx71 lx72 lx73 lx74 lx75 lx76 lx79 (p219.2 : (Nat → Int32)) lx85 lx78 = p251 at *
      generalize F_WR_copy (264 : Int32) (264 : Int32) (p219.1 : (Nat → Int32)) lx83 = f237 at *
      generalize F_WR_copy (264 : Int32) (264 : Int32) lx83 lx82 = f230 at *
      unfold S_WR_inverts_c93 F_WR_inverts_c93
      by_cases g12 : lx75 = (0 : Int32)
      ·
        rw [if_pos g12, if_pos g12]
        unfold S_WR_inverts_J121 F_WR_inverts_J121
        have h13 := R_sum  (x3 := lx74) (x5 := (1 : Int32)) (t0_0 := lx70) (t0_1 := lx71) (t0_2 := lx72) (t0_3 := lx73) (t0_4 := lx74) (t0_5 := lx75) (t0_6 := lx76) (t1_0 := lx77) (t2_0 := lx84) (t3_0 := (p251.2 : (Nat → Int32))) (by first | with_reducible assumption | with_reducible exact R_cl | (with_reducible apply R_cp; first | with_reducible assumption | with_reducible exact R_cl) | (with_reducible refine wO_upd ?_ w_m16; with_reducible assumption) | (with_reducible apply wR.mi <;> with_reducible assumption)  | omega | decide) (by first | with_reducible assumption | with_reducible exact R_cl | (with_reducible apply R_cp; first | with_reducible assumption | with_reducible exact R_cl) | (with_reducible refine wO_upd ?_ w_m16; with_reducible assumption) | (with_reducible apply wR.mi <;> with_reducible assumption)  | omega | decide)
        have h13k := h13.2
        with_reducible refine v_owe h13.1 ?_
        replace h13 := h13.2
        generalize F_WR_sum (264 : Int32) lx74 (264 : Int32) (1 : Int32) lx70 lx71 lx72 lx73 lx74 lx75 lx76 lx77 lx84 (p251.2 : (Nat → Int32)) = p309 at *
        unfold S_WR_inverts_c121 F_WR_inverts_c121
        exact ih _ _ _ _ _ _ _ _ _ _ _ _ _ _ _ _ (by with_reducible assumption) (by with_reducible assumption) (R_cp ho4) (R_cp (by with_reducible assumption)) (w_eucM hN (by with_reducible assumption) (by with_reducible assumption)) (w_eucT hE ho1 hN (by with_reducible assumption) (by with_reducible assumption) (by with_reducible assumption))
      ·
        rw [if_neg g12, if_neg g12]
        unfold S_WR_inverts_J121 F_WR_inverts_J121
        have h14 := R_sum  (x3 := lx74) (x5 := (0 : Int32)) (t0_0 := lx70) (t0_1 := lx71) (t0_2 := lx72) (t0_3 := lx73) (t0_4 := lx74) (t0_5 := lx75) (t0_6 := lx76) (t1_0 := lx77) (t2_0 := lx84) (t3_0 := (p251.2 : (Nat → Int32))) (by first | with_reducible assumption | with_reducible exact R_cl | (with_reducible apply R_cp; first | with_reducible assumption | with_reducible exact R_cl) | (with_reducible refine wO_upd ?_ w_m16; with_reducible assumption) | (with_reducible apply wR.mi <;> with_reducible assumption)  | omega | decide) (by first | with_reducible assumption | with_reducible exact R_cl | (with_reducible apply R_cp; first | with_reducible assumption | with_reducible exact R_cl) | (with_reducible refine wO_upd ?_ w_m16; with_reducible assumption) | (with_reducible apply wR.mi <;> with_reducible assumption)  | omega | decide)
        have h14k := h14.2
        with_reducible refine v_owe h14.1 ?_
        replace h14 := h14.2
        generalize F_WR_sum (264 : Int32) lx74 (264 : Int32) (0 : Int32) lx70 lx71 lx72 lx73 lx74 lx75 lx76 lx77 lx84 (p251.2 : (Nat → Int32)) = p309 at *
        unfold S_WR_inverts_c121 F_WR_inverts_c121
        exact ih _ _ _ _ _ _ _ _ _ _ _ _ _ _ _ _ (by with_reducible assumption) (by with_reducible assumption) (R_cp ho4) (R_cp (by with_reducible assumption)) (w_eucM hN (by with_reducible assumption) (by with_reducible assumption)) (w_eucT hE ho1 hN (by with_reducible assumption) (by with_reducible assumption) (by with_reducible assumption))

/-! WholeRows: inverse, powerModulo, limb, combine -/
theorem w_one {t0_0 t0_1 t0_2 t0_3 t0_4 t0_5 t0_6 : Int32} {f : Nat → Int32} : wO (F_WR_setOne 264 t0_0 t0_1 t0_2 t0_3 t0_4 t0_5 t0_6 f) 264 := R_setOne.2.1
theorem w_cpL {f g : Nat → Int32} (h : wN f) : wL (wV (F_WR_copy 264 264 f g) 264) (65536 ^ 263) := by
  have e : wV (F_WR_copy 264 264 f g) 264 = wV f 264 := (R_copy4 ⟨h.1, rfl⟩).2
  show _ < _
  rw [e]
  exact h.2.2
theorem T_WR_inverts {t0_0 : Int32} {t0_1 : Int32} {t0_2 : Int32} {t0_3 : Int32} {t0_4 : Int32} {t0_5 : Int32} {t0_6 : Int32} {t1_0 : (Nat → Int32)} {t2_0 : (Nat → Int32)} {t3_0 : (Nat → Int32)} {t4_0 : (Nat → Int32)} {t5_0 : (Nat → Int32)} {t6_0 : (Nat → Int32)} {t7_0 : (Nat → Int32)} {t8_0 : (Nat → Int32)} {t9_0 : (Nat → Int32)} {t10_0 : (Nat → Int32)} (hN0 : wN t10_0) (h6 : wO t6_0 264) : (S_WR_inverts t0_0 t0_1 t0_2 t0_3 t0_4 t0_5 t0_6 t1_0 t2_0 t3_0 t4_0 t5_0 t6_0 t7_0 t8_0 t9_0 t10_0) ∧ Q_WR_inverts (F_WR_inverts t0_0 t0_1 t0_2 t0_3 t0_4 t0_5 t0_6 t1_0 t2_0 t3_0 t4_0 t5_0 t6_0 t7_0 t8_0 t9_0 t10_0) := by
  unfold S_WR_inverts F_WR_inverts
  have h1 := R_setOne  (t0_0 := t0_0) (t0_1 := t0_1) (t0_2 := t0_2) (t0_3 := t0_3) (t0_4 := t0_4) (t0_5 := t0_5) (t0_6 := t0_6) (f := t8_0) 
  have h1k := h1.2.1
  with_reducible refine v_owe h1.1 ?_
  exact v_invL hN0 hN0.1 1000000 _ _ _ _ _ _ _ _ _ _ _ _ _ _ _ _ h6 (R_cp hN0.1) w_one R_cl (w_cpL hN0) (w_eucB h6 (R_cp hN0.1))
def Q_WR_inverse (p : Int32 × Int32 × Int32 × Int32 × Int32 × Int32 × Int32 × (Nat → Int32) × (Nat → Int32) × (Nat → Int32) × (Nat → Int32) × (Nat → Int32) × (Nat → Int32) × (Nat → Int32) × (Nat → Int32) × (Nat → Int32) × (Nat → Int32) × (Nat → Int32) × (Nat → Int32)) : Prop := wR p.2.2.2.2.2.2.2.1 p.2.2.2.2.2.2.2.2.1
theorem T_WR_inverse {x2 : Int32} {x3 : Int32} {x4 : Int32} {t0_0 : Int32} {t0_1 : Int32} {t0_2 : Int32} {t0_3 : Int32} {t0_4 : Int32} {t0_5 : Int32} {t0_6 : Int32} {t1_0 : (Nat → Int32)} {t2_0 : (Nat → Int32)} {t3_0 : (Nat → Int32)} {t4_0 : (Nat → Int32)} {t5_0 : (Nat → Int32)} {t6_0 : (Nat → Int32)} {t7_0 : (Nat → Int32)} {t8_0 : (Nat → Int32)} {t9_0 : (Nat → Int32)} {t10_0 : (Nat → Int32)} {t11_0 : (Nat → Int32)} {t12_0 : (Nat → Int32)} (hr : wR t1_0 t2_0) : (S_WR_inverse x2 x3 x4 t0_0 t0_1 t0_2 t0_3 t0_4 t0_5 t0_6 t1_0 t2_0 t3_0 t4_0 t5_0 t6_0 t7_0 t8_0 t9_0 t10_0 t11_0 t12_0) ∧ Q_WR_inverse (F_WR_inverse x2 x3 x4 t0_0 t0_1 t0_2 t0_3 t0_4 t0_5 t0_6 t1_0 t2_0 t3_0 t4_0 t5_0 t6_0 t7_0 t8_0 t9_0 t10_0 t11_0 t12_0) := by
  have e0 : (0 : Int32).toInt = 0 := rfl
  unfold S_WR_inverse F_WR_inverse
  by_cases g1 : ((F_WR_no x2) : Int32) = (0 : Int32)
  ·
    rw [if_pos g1, if_pos g1]
    have g1r := w_no g1
    by_cases g2 : ((F_WR_no x3) : Int32) = (0 : Int32)
    ·
      rw [if_pos g2, if_pos g2]
      have g2r := w_no g2
      by_cases g3 : ((F_WR_no x4) : Int32) = (0 : Int32)
      ·
        rw [if_pos g3, if_pos g3]
        have g3r := w_no g3
        have h4 := R_isAbove0  (x2 := x3) (t0_0 := t0_0) (t0_1 := t0_1) (t0_2 := t0_2) (t0_3 := t0_3) (t0_4 := t0_4) (t0_5 := t0_5) (t0_6 := t0_6) (t1_0 := t1_0) (t2_0 := t2_0) (by first | with_reducible assumption | with_reducible exact R_cl | (with_reducible apply R_cp; first | with_reducible assumption | with_reducible exact R_cl) | (with_reducible refine wO_upd ?_ w_m16; with_reducible assumption) | (with_reducible apply wR.mi <;> with_reducible assumption)  | omega | decide) (by first | with_reducible assumption | with_reducible exact R_cl | (with_reducible apply R_cp; first | with_reducible assumption | with_reducible exact R_cl) | (with_reducible refine wO_upd ?_ w_m16; with_reducible assumption) | (with_reducible apply wR.mi <;> with_reducible assumption)  | omega | decide)
        have h4a := h4.2
        with_reducible refine v_owe h4.1 ?_
        by_cases g5 : ((F_WR_isAbove0 x3 t0_0 t0_1 t0_2 t0_3 t0_4 t0_5 t0_6 t1_0 t2_0) : Int32) = (0 : Int32)
        ·
          rw [if_pos g5, if_pos g5]
          unfold S_WR_inverse_J39 F_WR_inverse_J39
          have g6 : ¬ ((2 : Int32) ≤ (0 : Int32)) := (by decide)
          rw [if_neg g6, if_neg g6]
          refine ⟨trivial, ?_⟩
          (unfold Q_WR_inverse; dsimp only; first | with_reducible assumption | exact hr)
        ·
          rw [if_neg g5, if_neg g5]
          have g5z := w_ab g5 (by with_reducible assumption)
          unfold S_WR_inverse_J39 F_WR_inverse_J39
          have g7 : ((0 : Int32) ≤ (0 : Int32)) := (by decide)
          rw [if_pos g7, if_pos g7]
          have h8 := R_take  (x2 := x3) (t0_0 := (0 : Int32)) (t0_1 := t0_1) (t0_2 := t0_2) (t0_3 := t0_3) (t0_4 := t0_4) (t0_5 := t0_5) (t0_6 := t0_6) (t1_0 := t1_0) (t2_0 := t12_0) (by first | with_reducible assumption | with_reducible exact R_cl | (with_reducible apply R_cp; first | with_reducible assumption | with_reducible exact R_cl) | (with_reducible refine wO_upd ?_ w_m16; with_reducible assumption) | (with_reducible apply wR.mi <;> with_reducible assumption)  | omega | decide) (wR.o (by with_reducible assumption))
          have h8k := h8.2.1
          have h8v := h8.2
          with_reducible refine v_owe h8.1 ?_
          have h9 := R_reduce  (x2 := x2) (t0_0 := (0 : Int32)) (t0_1 := t0_1) (t0_2 := t0_2) (t0_3 := t0_3) (t0_4 := t0_4) (t0_5 := t0_5) (t0_6 := t0_6) (t1_0 := t1_0) (t2_0 := t2_0) (t3_0 := t3_0) (t4_0 := t6_0) (t5_0 := t7_0) (t6_0 := ((F_WR_take x3 (264 : Int32) (0 : Int32) t0_1 t0_2 t0_3 t0_4 t0_5 t0_6 t1_0 t12_0) : (Nat → Int32))) (t7_0 := t8_0) (by first | with_reducible assumption | with_reducible exact R_cl | (with_reducible apply R_cp; first | with_reducible assumption | with_reducible exact R_cl) | (with_reducible refine wO_upd ?_ w_m16; with_reducible assumption) | (with_reducible apply wR.mi <;> with_reducible assumption)  | omega | decide) (by first | with_reducible assumption | with_reducible exact R_cl | (with_reducible apply R_cp; first | with_reducible assumption | with_reducible exact R_cl) | (with_reducible refine wO_upd ?_ w_m16; with_reducible assumption) | (with_reducible apply wR.mi <;> with_reducible assumption)  | omega | decide) (by first | with_reducible assumption | (refine w_reg ?_ (wR.o (by with_reducible assumption)) (by with_reducible assumption) ?_ <;> with_reducible assumption))
          have h9k := h9.2
          with_reducible refine v_owe h9.1 ?_
          replace h9 := h9.2
          generalize F_WR_reduce x2 (264 : Int32) (0 : Int32) t0_1 t0_2 t0_3 t0_4 t0_5 t0_6 t1_0 t2_0 t3_0 t6_0 t7_0 ((F_WR_take x3 (264 : Int32) (0 : Int32) t0_1 t0_2 t0_3 t0_4 t0_5 t0_6 t1_0 t12_0) : (Nat → Int32)) t8_0 = p104 at *
          replace h8 := h8.2
          generalize F_WR_take x3 (264 : Int32) (0 : Int32) t0_1 t0_2 t0_3 t0_4 t0_5 t0_6 t1_0 t12_0 = f86 at *
          unfold S_WR_inverse_c65 F_WR_inverse_c65
          have h10 := T_WR_inverts  (t0_0 := (0 : Int32)) (t0_1 := t0_1) (t0_2 := t0_2) (t0_3 := t0_3) (t0_4 := t0_4) (t0_5 := t0_5) (t0_6 := t0_6) (t1_0 := (p104.1 : (Nat → Int32))) (t2_0 := t4_0) (t3_0 := t5_0) (t4_0 := (p104.2.1 : (Nat → Int32))) (t5_0 := (p104.2.2.1 : (Nat → Int32))) (t6_0 := (p104.2.2.2 : (Nat → Int32))) (t7_0 := t9_0) (t8_0 := t10_0) (t9_0 := t11_0) (t10_0 := f86) (by first | with_reducible assumption | (refine w_reg ?_ (wR.o (by with_reducible assumption)) (by with_reducible assumption) ?_ <;> with_reducible assumption)) (by first | with_reducible assumption | with_reducible exact R_cl | (with_reducible apply R_cp; first | with_reducible assumption | with_reducible exact R_cl) | (with_reducible refine wO_upd ?_ w_m16; with_reducible assumption) | (with_reducible apply wR.mi <;> with_reducible assumption)  | omega | decide)
          with_reducible refine v_owe h10.1 ?_
          replace h10 := h10.2
          generalize F_WR_inverts (0 : Int32) t0_1 t0_2 t0_3 t0_4 t0_5 t0_6 (p104.1 : (Nat → Int32)) t4_0 t5_0 (p104.2.1 : (Nat → Int32)) (p104.2.2.1 : (Nat → Int32)) (p104.2.2.2 : (Nat → Int32)) t9_0 t10_0 t11_0 f86 = p163 at *
          unfold Q_WR_inverts at h10
          unfold S_WR_inverse_c69 F_WR_inverse_c69
          by_cases g11 : (p163.1 : Int32) = (0 : Int32)
          ·
            rw [if_pos g11, if_pos g11]
            refine ⟨trivial, ?_⟩
            (unfold Q_WR_inverse; dsimp only; first | with_reducible assumption | exact hr)
          ·
            rw [if_neg g11, if_neg g11]
            have h12 := R_store  (x2 := x4) (t0_0 := (p163.2.1 : Int32)) (t0_1 := (p163.2.2.1 : Int32)) (t0_2 := (p163.2.2.2.1 : Int32)) (t0_3 := (0 : Int32)) (t0_4 := (p163.2.2.2.2.2.1 : Int32)) (t0_5 := (p163.2.2.2.2.2.2.1 : Int32)) (t0_6 := (p163.2.2.2.2.2.2.2.1 : Int32)) (t1_0 := t1_0) (t2_0 := t2_0) (t3_0 := ((F_WR_copy (264 : Int32) (264 : Int32) (p163.2.2.2.2.2.2.2.2.2.2.2.2.2.1 : (Nat → Int32)) (p163.2.2.2.2.2.2.2.2.1 : (Nat → Int32))) : (Nat → Int32))) (by first | with_reducible assumption | with_reducible exact R_cl | (with_reducible apply R_cp; first | with_reducible assumption | with_reducible exact R_cl) | (with_reducible refine wO_upd ?_ w_m16; with_reducible assumption) | (with_reducible apply wR.mi <;> with_reducible assumption)  | omega | decide) (by first | with_reducible assumption | with_reducible exact R_cl | (with_reducible apply R_cp; first | with_reducible assumption | with_reducible exact R_cl) | (with_reducible refine wO_upd ?_ w_m16; with_reducible assumption) | (with_reducible apply wR.mi <;> with_reducible assumption)  | omega | decide) (by first | with_reducible assumption | with_reducible exact R_cl | (with_reducible apply R_cp; first | with_reducible assumption | with_reducible exact R_cl) | (with_reducible refine wO_upd ?_ w_m16; with_reducible assumption) | (with_reducible apply wR.mi <;> with_reducible assumption)  | omega | decide)
            have h12r := h12.2
            with_reducible refine v_owe h12.1 ?_
            have h13 := R_cpK  (f := (p163.2.2.2.2.2.2.2.2.2.2.2.2.2.1 : (Nat → Int32))) (g := (p163.2.2.2.2.2.2.2.2.1 : (Nat → Int32))) (by first | with_reducible assumption | with_reducible exact R_cl | (with_reducible apply R_cp; first | with_reducible assumption | with_reducible exact R_cl) | (with_reducible refine wO_upd ?_ w_m16; with_reducible assumption) | (with_reducible apply wR.mi <;> with_reducible assumption)  | omega | decide)
            have h13k := h13.1
            have h13v := h13
            replace h12 := h12.2
            generalize F_WR_store x4 (p163.2.1 : Int32) (p163.2.2.1 : Int32) (p163.2.2.2.1 : Int32) (0 : Int32) (p163.2.2.2.2.2.1 : Int32) (p163.2.2.2.2.2.2.1 : Int32) (p163.2.2.2.2.2.2.2.1 : Int32) t1_0 t2_0 ((F_WR_copy (264 : Int32) (264 : Int32) (p163.2.2.2.2.2.2.2.2.2.2.2.2.2.1 : (Nat → Int32)) (p163.2.2.2.2.2.2.2.2.1 : (Nat → Int32))) : (Nat → Int32)) = p227 at *
            generalize F_WR_copy (264 : Int32) (264 : Int32) (p163.2.2.2.2.2.2.2.2.2.2.2.2.2.1 : (Nat → Int32)) (p163.2.2.2.2.2.2.2.2.1 : (Nat → Int32)) = f191 at *
            unfold S_WR_inverse_c99 F_WR_inverse_c99
            refine ⟨trivial, ?_⟩
            (unfold Q_WR_inverse; dsimp only; first | with_reducible assumption | exact hr)
      ·
        rw [if_neg g3, if_neg g3]
        unfold S_WR_inverse_J22 F_WR_inverse_J22
        unfold S_WR_inverse_J39 F_WR_inverse_J39
        have g14 : ¬ ((1 : Int32) ≤ (0 : Int32)) := (by decide)
        rw [if_neg g14, if_neg g14]
        refine ⟨trivial, ?_⟩
        (unfold Q_WR_inverse; dsimp only; first | with_reducible assumption | exact hr)
    ·
      rw [if_neg g2, if_neg g2]
      unfold S_WR_inverse_J22 F_WR_inverse_J22
      unfold S_WR_inverse_J39 F_WR_inverse_J39
      have g15 : ¬ ((1 : Int32) ≤ (0 : Int32)) := (by decide)
      rw [if_neg g15, if_neg g15]
      refine ⟨trivial, ?_⟩
      (unfold Q_WR_inverse; dsimp only; first | with_reducible assumption | exact hr)
  ·
    rw [if_neg g1, if_neg g1]
    unfold S_WR_inverse_J22 F_WR_inverse_J22
    unfold S_WR_inverse_J39 F_WR_inverse_J39
    have g16 : ¬ ((1 : Int32) ≤ (0 : Int32)) := (by decide)
    rw [if_neg g16, if_neg g16]
    refine ⟨trivial, ?_⟩
    (unfold Q_WR_inverse; dsimp only; first | with_reducible assumption | exact hr)
def Q_WR_powerModulo (p : Int32 × Int32 × Int32 × Int32 × Int32 × Int32 × Int32 × (Nat → Int32) × (Nat → Int32) × (Nat → Int32) × (Nat → Int32) × (Nat → Int32) × (Nat → Int32) × (Nat → Int32) × (Nat → Int32) × (Nat → Int32) × (Nat → Int32) × (Nat → Int32) × (Nat → Int32)) : Prop := wR p.2.2.2.2.2.2.2.1 p.2.2.2.2.2.2.2.2.1
theorem v_pm1 {K_F_WR_powerModulo_L134 : Int32 → (Int32 × Int32 × Int32 × Int32 × Int32 × Int32 × Int32 × (Nat → Int32) × (Nat → Int32) × (Nat → Int32) × (Nat → Int32) × (Nat → Int32) × (Nat → Int32) × (Nat → Int32) × (Nat → Int32) × (Nat → Int32) × (Nat → Int32) × (Nat → Int32) × (Nat → Int32))} {x2 : Int32} {x3 : Int32} {x4 : Int32} {x5 : Int32} {t0_0 : Int32} {t0_1 : Int32} {t0_2 : Int32} {t0_3 : Int32} {t0_4 : Int32} {t0_5 : Int32} {t0_6 : Int32} {t1_0 : (Nat → Int32)} {t2_0 : (Nat → Int32)} {t3_0 : (Nat → Int32)} {t4_0 : (Nat → Int32)} {t5_0 : (Nat → Int32)} {t6_0 : (Nat → Int32)} {t7_0 : (Nat → Int32)} {t8_0 : (Nat → Int32)} {t9_0 : (Nat → Int32)} {t10_0 : (Nat → Int32)} {t11_0 : (Nat → Int32)} {t12_0 : (Nat → Int32)} {lx57 : Int32} {f86 : (Nat → Int32)} {p104 : ((Nat → Int32) × (Nat → Int32) × (Nat → Int32) × (Nat → Int32))} {lx119 : Int32} {lx120 : Int32} {lx121 : Int32} {lx122 : Int32} {lx123 : Int32} {lx124 : Int32} {lx125 : Int32} {lx126 : (Nat → Int32)} {lx127 : (Nat → Int32)} {lx128 : (Nat → Int32)} {lx129 : (Nat → Int32)} {lx130 : (Nat → Int32)} {lx131 : (Nat → Int32)} {lx132 : (Nat → Int32)} {lx133 : (Nat → Int32)} {lx134 : (Nat → Int32)} {f172 : (Nat → Int32)} {p186 : ((Nat → Int32) × (Nat → Int32))} {f180 : (Nat → Int32)} {f182 : (Nat → Int32)} {f197 : (Nat → Int32)} {lx203 : Int32} {K_S_WR_powerModulo_L134 : Int32 → Prop} (hr : wR t1_0 t2_0)(hx3 : 0 ≤ x3.toInt ∧ x3.toInt ≤ 10)(hx5 : 0 ≤ x5.toInt ∧ x5.toInt ≤ 10)(hN : wN f86) (h131 : wO lx131 264) : ∀ (n : Nat) (lx235 : Int32) (lx236 : (Nat → Int32)) (lx237 : (Nat → Int32)) (lx238 : (Nat → Int32)) (lx239 : (Nat → Int32)) (lx240 : (Nat → Int32)), (-1 ≤ lx235.toInt ∧ lx235.toInt ≤ 2047) → (lx235.toInt + 1 < (n : Int)) → (wO lx239 264) → (S_WR_powerModulo_L182 K_S_WR_powerModulo_L134 x2 x3 x4 x5 t0_0 t0_1 t0_2 t0_3 t0_4 t0_5 t0_6 t1_0 t2_0 t3_0 t4_0 t5_0 t6_0 t7_0 t8_0 t9_0 t10_0 t11_0 t12_0 lx57 f86 p104 lx119 lx120 lx121 lx122 lx123 lx124 lx125 lx126 lx127 lx128 lx129 lx130 lx131 lx132 lx133 lx134 f172 p186 f180 f182 f197 lx203 n lx235 lx236 lx237 lx238 lx239 lx240) ∧ Q_WR_powerModulo (F_WR_powerModulo_L182 K_F_WR_powerModulo_L134 x2 x3 x4 x5 t0_0 t0_1 t0_2 t0_3 t0_4 t0_5 t0_6 t1_0 t2_0 t3_0 t4_0 t5_0 t6_0 t7_0 t8_0 t9_0 t10_0 t11_0 t12_0 lx57 f86 p104 lx119 lx120 lx121 lx122 lx123 lx124 lx125 lx126 lx127 lx128 lx129 lx130 lx131 lx132 lx133 lx134 f172 p186 f180 f182 f197 lx203 n lx235 lx236 lx237 lx238 lx239 lx240) := by
  intro n
  induction n with
  | zero => intro lx235 lx236 lx237 lx238 lx239 lx240 h0 hm ho; exact absurd (show False by omega) id
  | succ n ih =>
    intro lx235 lx236 lx237 lx238 lx239 lx240 h0 hm ho
    have e0 : (0 : Int32).toInt = 0 := rfl
    rw [S_WR_powerModulo_L182.eq_2, F_WR_powerModulo_L182.eq_2]
    by_cases g1 : lx235 < (0 : Int32)
    ·
      rw [if_pos g1, if_pos g1]
      have g1i : lx235.toInt < 0 := q_ltI g1
      have h2 := R_store  (x2 := x5) (t0_0 := lx119) (t0_1 := lx120) (t0_2 := lx121) (t0_3 := (0 : Int32)) (t0_4 := lx123) (t0_5 := lx124) (t0_6 := lx125) (t1_0 := t1_0) (t2_0 := t2_0) (t3_0 := ((F_WR_copy (264 : Int32) (264 : Int32) lx239 lx126) : (Nat → Int32))) (by first | with_reducible assumption | with_reducible exact R_cl | (with_reducible apply R_cp; first | with_reducible assumption | with_reducible exact R_cl) | (with_reducible refine wO_upd ?_ w_m16; with_reducible assumption) | (with_reducible apply wR.mi <;> with_reducible assumption)  | omega | decide) (by first | with_reducible assumption | with_reducible exact R_cl | (with_reducible apply R_cp; first | with_reducible assumption | with_reducible exact R_cl) | (with_reducible refine wO_upd ?_ w_m16; with_reducible assumption) | (with_reducible apply wR.mi <;> with_reducible assumption)  | omega | decide) (by first | with_reducible assumption | with_reducible exact R_cl | (with_reducible apply R_cp; first | with_reducible assumption | with_reducible exact R_cl) | (with_reducible refine wO_upd ?_ w_m16; with_reducible assumption) | (with_reducible apply wR.mi <;> with_reducible assumption)  | omega | decide)
      have h2r := h2.2
      with_reducible refine v_owe h2.1 ?_
      have h3 := R_cpK  (f := lx239) (g := lx126) (by first | with_reducible assumption | with_reducible exact R_cl | (with_reducible apply R_cp; first | with_reducible assumption | with_reducible exact R_cl) | (with_reducible refine wO_upd ?_ w_m16; with_reducible assumption) | (with_reducible apply wR.mi <;> with_reducible assumption)  | omega | decide)
      have h3k := h3.1
      have h3v := h3
      replace h2 := h2.2
      generalize F_WR_store x5 lx119 lx120 lx121 (0 : Int32) lx123 lx124 lx125 t1_0 t2_0 ((F_WR_copy (264 : Int32) (264 : Int32) lx239 lx126) : (Nat → Int32)) = p303 at *
      generalize F_WR_copy (264 : Int32) (264 : Int32) lx239 lx126 = f267 at *
      unfold S_WR_powerModulo_c318 F_WR_powerModulo_c318
      refine ⟨trivial, ?_⟩
      (unfold Q_WR_powerModulo; dsimp only; first | with_reducible assumption | exact hr)
    ·
      rw [if_neg g1, if_neg g1]
      have g1i : 0 ≤ lx235.toInt := q_nltI g1
      have h4 := R_mul4b  (t0_0 := lx119) (t0_1 := lx120) (t0_2 := lx121) (t0_3 := lx122) (t0_4 := lx123) (t0_5 := lx124) (t0_6 := lx125) (t1_0 := lx236) (t2_0 := lx239) (t3_0 := lx240) (by first | with_reducible assumption | with_reducible exact R_cl | (with_reducible apply R_cp; first | with_reducible assumption | with_reducible exact R_cl) | (with_reducible refine wO_upd ?_ w_m16; with_reducible assumption) | (with_reducible apply wR.mi <;> with_reducible assumption)  | omega | decide)
      have h4k := h4.2
      with_reducible refine v_owe h4.1 ?_
      replace h4 := h4.2
      generalize F_WR_multiplyRows_b (264 : Int32) (264 : Int32) lx119 lx120 lx121 lx122 lx123 lx124 lx125 lx236 lx239 lx240 = p329 at *
      unfold S_WR_powerModulo_c200 F_WR_powerModulo_c200
      have h5 := R_div4  (t0_0 := lx119) (t0_1 := lx120) (t0_2 := lx121) (t0_3 := lx122) (t0_4 := lx123) (t0_5 := lx124) (t0_6 := lx125) (t1_0 := lx237) (t2_0 := lx238) (t3_0 := (p329.2 : (Nat → Int32))) (t4_0 := f86) (by first | with_reducible assumption | with_reducible exact R_cl | (with_reducible apply R_cp; first | with_reducible assumption | with_reducible exact R_cl) | (with_reducible refine wO_upd ?_ w_m16; with_reducible assumption) | (with_reducible apply wR.mi <;> with_reducible assumption)  | omega | decide) (by first | with_reducible assumption | (refine w_reg ?_ (wR.o (by with_reducible assumption)) (by with_reducible assumption) ?_ <;> with_reducible assumption))
      have h5k := h5.2.1
      have h5q := h5.2.2.1
      have h5d := h5.2
      with_reducible refine v_owe h5.1 ?_
      replace h5 := h5.2
      generalize F_WR_divideRows (264 : Int32) (264 : Int32) lx119 lx120 lx121 lx122 lx123 lx124 lx125 lx237 lx238 (p329.2 : (Nat → Int32)) f86 = p347 at *
      unfold S_WR_powerModulo_c212 F_WR_powerModulo_c212
      refine v_cons (by first | exact (w_ixd (by with_reducible assumption) (by omega)).1 | exact (w_ixd (by with_reducible assumption) (by omega)).2) ?_
      by_cases g6 : (((t1_0 ((128 * x3 : Int32) + (lx235 / 16 : Int32) : Int32).toNatClampNeg : Int32) >>> ((lx235 - lx235 / 16 * 16 : Int32) &&& 31) : Int32) &&& 1 : Int32) = (1 : Int32)
      ·
        rw [if_pos g6, if_pos g6]
        have h7 := R_mul4  (t0_0 := lx119) (t0_1 := lx120) (t0_2 := lx121) (t0_3 := lx122) (t0_4 := lx123) (t0_5 := lx124) (t0_6 := lx125) (t1_0 := (p329.1 : (Nat → Int32))) (t2_0 := ((F_WR_copy (264 : Int32) (264 : Int32) (p347.1 : (Nat → Int32)) lx239) : (Nat → Int32))) (t3_0 := lx131) (t4_0 := (p329.2 : (Nat → Int32))) (by first | with_reducible assumption | with_reducible exact R_cl | (with_reducible apply R_cp; first | with_reducible assumption | with_reducible exact R_cl) | (with_reducible refine wO_upd ?_ w_m16; with_reducible assumption) | (with_reducible apply wR.mi <;> with_reducible assumption)  | omega | decide) (by first | with_reducible assumption | with_reducible exact R_cl | (with_reducible apply R_cp; first | with_reducible assumption | with_reducible exact R_cl) | (with_reducible refine wO_upd ?_ w_m16; with_reducible assumption) | (with_reducible apply wR.mi <;> with_reducible assumption)  | omega | decide)
        have h7k := h7.2
        with_reducible refine v_owe h7.1 ?_
        have h8 := R_cpK  (f := (p347.1 : (Nat → Int32))) (g := lx239) (by first | with_reducible assumption | with_reducible exact R_cl | (with_reducible apply R_cp; first | with_reducible assumption | with_reducible exact R_cl) | (with_reducible refine wO_upd ?_ w_m16; with_reducible assumption) | (with_reducible apply wR.mi <;> with_reducible assumption)  | omega | decide)
        have h8k := h8.1
        have h8v := h8
        replace h7 := h7.2
        generalize F_WR_multiplyRows (264 : Int32) (264 : Int32) (264 : Int32) lx119 lx120 lx121 lx122 lx123 lx124 lx125 (p329.1 : (Nat → Int32)) ((F_WR_copy (264 : Int32) (264 : Int32) (p347.1 : (Nat → Int32)) lx239) : (Nat → Int32)) lx131 (p329.2 : (Nat → Int32)) = p398 at *
        generalize F_WR_copy (264 : Int32) (264 : Int32) (p347.1 : (Nat → Int32)) lx239 = f358 at *
        unfold S_WR_powerModulo_c267 F_WR_powerModulo_c267
        have h9 := R_div4  (t0_0 := lx119) (t0_1 := lx120) (t0_2 := lx121) (t0_3 := lx122) (t0_4 := lx123) (t0_5 := lx124) (t0_6 := lx125) (t1_0 := (p347.1 : (Nat → Int32))) (t2_0 := (p347.2 : (Nat → Int32))) (t3_0 := (p398.2 : (Nat → Int32))) (t4_0 := f86) (by first | with_reducible assumption | with_reducible exact R_cl | (with_reducible apply R_cp; first | with_reducible assumption | with_reducible exact R_cl) | (with_reducible refine wO_upd ?_ w_m16; with_reducible assumption) | (with_reducible apply wR.mi <;> with_reducible assumption)  | omega | decide) (by first | with_reducible assumption | (refine w_reg ?_ (wR.o (by with_reducible assumption)) (by with_reducible assumption) ?_ <;> with_reducible assumption))
        have h9k := h9.2.1
        have h9q := h9.2.2.1
        have h9d := h9.2
        with_reducible refine v_owe h9.1 ?_
        replace h9 := h9.2
        generalize F_WR_divideRows (264 : Int32) (264 : Int32) lx119 lx120 lx121 lx122 lx123 lx124 lx125 (p347.1 : (Nat → Int32)) (p347.2 : (Nat → Int32)) (p398.2 : (Nat → Int32)) f86 = p416 at *
        unfold S_WR_powerModulo_c279 F_WR_powerModulo_c279
        obtain ⟨a10, e11⟩ := q_nm (lx235 + (-1) : Int32)
        rw [e11]
        have a10i : a10.toInt = lx235.toInt + (-1) := by rw [← e11]; exact q_addI (x := lx235.toInt) (y := (-1)) rfl (by decide) (by omega) (by omega)
        exact ih _ _ _ _ _ _ (by first | with_reducible assumption | with_reducible exact R_cl | (with_reducible apply R_cp; first | with_reducible assumption | with_reducible exact R_cl) | (with_reducible refine wO_upd ?_ w_m16; with_reducible assumption) | (with_reducible apply wR.mi <;> with_reducible assumption)  | omega | decide) (by first | with_reducible assumption | with_reducible exact R_cl | (with_reducible apply R_cp; first | with_reducible assumption | with_reducible exact R_cl) | (with_reducible refine wO_upd ?_ w_m16; with_reducible assumption) | (with_reducible apply wR.mi <;> with_reducible assumption)  | omega | decide) (by first | with_reducible assumption | with_reducible exact R_cl | (with_reducible apply R_cp; first | with_reducible assumption | with_reducible exact R_cl) | (with_reducible refine wO_upd ?_ w_m16; with_reducible assumption) | (with_reducible apply wR.mi <;> with_reducible assumption)  | omega | decide)
      ·
        rw [if_neg g6, if_neg g6]
        obtain ⟨a12, e13⟩ := q_nm (lx235 + (-1) : Int32)
        rw [e13]
        have a12i : a12.toInt = lx235.toInt + (-1) := by rw [← e13]; exact q_addI (x := lx235.toInt) (y := (-1)) rfl (by decide) (by omega) (by omega)
        exact ih _ _ _ _ _ _ (by first | with_reducible assumption | with_reducible exact R_cl | (with_reducible apply R_cp; first | with_reducible assumption | with_reducible exact R_cl) | (with_reducible refine wO_upd ?_ w_m16; with_reducible assumption) | (with_reducible apply wR.mi <;> with_reducible assumption)  | omega | decide) (by first | with_reducible assumption | with_reducible exact R_cl | (with_reducible apply R_cp; first | with_reducible assumption | with_reducible exact R_cl) | (with_reducible refine wO_upd ?_ w_m16; with_reducible assumption) | (with_reducible apply wR.mi <;> with_reducible assumption)  | omega | decide) (by first | with_reducible assumption | with_reducible exact R_cl | (with_reducible apply R_cp; first | with_reducible assumption | with_reducible exact R_cl) | (with_reducible refine wO_upd ?_ w_m16; with_reducible assumption) | (with_reducible apply wR.mi <;> with_reducible assumption)  | omega | decide)
theorem v_pm2 {x2 : Int32} {x3 : Int32} {x4 : Int32} {x5 : Int32} {t0_0 : Int32} {t0_1 : Int32} {t0_2 : Int32} {t0_3 : Int32} {t0_4 : Int32} {t0_5 : Int32} {t0_6 : Int32} {t1_0 : (Nat → Int32)} {t2_0 : (Nat → Int32)} {t3_0 : (Nat → Int32)} {t4_0 : (Nat → Int32)} {t5_0 : (Nat → Int32)} {t6_0 : (Nat → Int32)} {t7_0 : (Nat → Int32)} {t8_0 : (Nat → Int32)} {t9_0 : (Nat → Int32)} {t10_0 : (Nat → Int32)} {t11_0 : (Nat → Int32)} {t12_0 : (Nat → Int32)} {lx57 : Int32} {f86 : (Nat → Int32)} {p104 : ((Nat → Int32) × (Nat → Int32) × (Nat → Int32) × (Nat → Int32))} {lx119 : Int32} {lx120 : Int32} {lx121 : Int32} {lx122 : Int32} {lx123 : Int32} {lx124 : Int32} {lx125 : Int32} {lx126 : (Nat → Int32)} {lx127 : (Nat → Int32)} {lx128 : (Nat → Int32)} {lx129 : (Nat → Int32)} {lx130 : (Nat → Int32)} {lx131 : (Nat → Int32)} {lx132 : (Nat → Int32)} {lx133 : (Nat → Int32)} {lx134 : (Nat → Int32)} {f172 : (Nat → Int32)} {p186 : ((Nat → Int32) × (Nat → Int32))} {f180 : (Nat → Int32)} {f182 : (Nat → Int32)} {f197 : (Nat → Int32)} (hr : wR t1_0 t2_0)(hx3 : 0 ≤ x3.toInt ∧ x3.toInt ≤ 10)(hx5 : 0 ≤ x5.toInt ∧ x5.toInt ≤ 10)(hN : wN f86) (h131 : wO lx131 264)(hf : wO f197 264) : ∀ (n : Nat) (lx203 : Int32), (0 ≤ lx203.toInt ∧ lx203.toInt ≤ 2048) → (lx203.toInt < (n : Int)) → (S_WR_powerModulo_L134 x2 x3 x4 x5 t0_0 t0_1 t0_2 t0_3 t0_4 t0_5 t0_6 t1_0 t2_0 t3_0 t4_0 t5_0 t6_0 t7_0 t8_0 t9_0 t10_0 t11_0 t12_0 lx57 f86 p104 lx119 lx120 lx121 lx122 lx123 lx124 lx125 lx126 lx127 lx128 lx129 lx130 lx131 lx132 lx133 lx134 f172 p186 f180 f182 f197 n lx203) ∧ Q_WR_powerModulo (F_WR_powerModulo_L134 x2 x3 x4 x5 t0_0 t0_1 t0_2 t0_3 t0_4 t0_5 t0_6 t1_0 t2_0 t3_0 t4_0 t5_0 t6_0 t7_0 t8_0 t9_0 t10_0 t11_0 t12_0 lx57 f86 p104 lx119 lx120 lx121 lx122 lx123 lx124 lx125 lx126 lx127 lx128 lx129 lx130 lx131 lx132 lx133 lx134 f172 p186 f180 f182 f197 n lx203) := by
  intro n
  induction n with
  | zero => intro lx203 h0 hm; exact absurd (show False by omega) id
  | succ n ih =>
    intro lx203 h0 hm
    have e0 : (0 : Int32).toInt = 0 := rfl
    rw [S_WR_powerModulo_L134.eq_2, F_WR_powerModulo_L134.eq_2]
    by_cases g1 : lx203 ≤ (0 : Int32)
    ·
      rw [if_pos g1, if_pos g1]
      have g1i : lx203.toInt ≤ 0 := q_leI g1
      unfold S_WR_powerModulo_J176 F_WR_powerModulo_J176
      have ez : (lx203 - 1 : Int32).toInt = lx203.toInt - 1 := q_subI (y := 1) rfl (by decide) (by omega) (by omega); exact v_pm1 hr hx3 hx5 hN h131 _ _ _ _ _ _ _ ⟨by omega, by omega⟩ (by omega) hf
    ·
      rw [if_neg g1, if_neg g1]
      have g1i : 0 < lx203.toInt := q_nleI g1
      obtain ⟨a2, e3⟩ := q_nm (lx203 - 1 : Int32)
      rw [e3]
      have a2i : a2.toInt = lx203.toInt - 1 := by rw [← e3]; exact q_subI (x := lx203.toInt) (y := 1) rfl (by decide) (by omega) (by omega)
      refine v_cons (by first | exact (w_ixd (by with_reducible assumption) (by omega)).1 | exact (w_ixd (by with_reducible assumption) (by omega)).2) ?_
      refine v_cons (by first | exact (w_ixd (by with_reducible assumption) (by omega)).1 | exact (w_ixd (by with_reducible assumption) (by omega)).2) ?_
      by_cases g4 : (((t1_0 ((128 * x3 : Int32) + (a2 / 16 : Int32) : Int32).toNatClampNeg : Int32) >>> ((a2 - a2 / 16 * 16 : Int32) &&& 31) : Int32) &&& 1 : Int32) = (0 : Int32)
      ·
        rw [if_pos g4, if_pos g4]
        obtain ⟨a5, e6⟩ := q_nm (lx203 + (-1) : Int32)
        rw [e6]
        have a5i : a5.toInt = lx203.toInt + (-1) := by rw [← e6]; exact q_addI (x := lx203.toInt) (y := (-1)) rfl (by decide) (by omega) (by omega)
        exact ih _ (by first | with_reducible assumption | with_reducible exact R_cl | (with_reducible apply R_cp; first | with_reducible assumption | with_reducible exact R_cl) | (with_reducible refine wO_upd ?_ w_m16; with_reducible assumption) | (with_reducible apply wR.mi <;> with_reducible assumption)  | omega | decide) (by first | with_reducible assumption | with_reducible exact R_cl | (with_reducible apply R_cp; first | with_reducible assumption | with_reducible exact R_cl) | (with_reducible refine wO_upd ?_ w_m16; with_reducible assumption) | (with_reducible apply wR.mi <;> with_reducible assumption)  | omega | decide)
      ·
        rw [if_neg g4, if_neg g4]
        unfold S_WR_powerModulo_J176 F_WR_powerModulo_J176
        have ez : (lx203 - 1 : Int32).toInt = lx203.toInt - 1 := q_subI (y := 1) rfl (by decide) (by omega) (by omega); exact v_pm1 hr hx3 hx5 hN h131 _ _ _ _ _ _ _ ⟨by omega, by omega⟩ (by omega) hf
theorem T_WR_powerModulo {x2 : Int32} {x3 : Int32} {x4 : Int32} {x5 : Int32} {t0_0 : Int32} {t0_1 : Int32} {t0_2 : Int32} {t0_3 : Int32} {t0_4 : Int32} {t0_5 : Int32} {t0_6 : Int32} {t1_0 : (Nat → Int32)} {t2_0 : (Nat → Int32)} {t3_0 : (Nat → Int32)} {t4_0 : (Nat → Int32)} {t5_0 : (Nat → Int32)} {t6_0 : (Nat → Int32)} {t7_0 : (Nat → Int32)} {t8_0 : (Nat → Int32)} {t9_0 : (Nat → Int32)} {t10_0 : (Nat → Int32)} {t11_0 : (Nat → Int32)} {t12_0 : (Nat → Int32)} (hr : wR t1_0 t2_0) : (S_WR_powerModulo x2 x3 x4 x5 t0_0 t0_1 t0_2 t0_3 t0_4 t0_5 t0_6 t1_0 t2_0 t3_0 t4_0 t5_0 t6_0 t7_0 t8_0 t9_0 t10_0 t11_0 t12_0) ∧ Q_WR_powerModulo (F_WR_powerModulo x2 x3 x4 x5 t0_0 t0_1 t0_2 t0_3 t0_4 t0_5 t0_6 t1_0 t2_0 t3_0 t4_0 t5_0 t6_0 t7_0 t8_0 t9_0 t10_0 t11_0 t12_0) := by
  have e0 : (0 : Int32).toInt = 0 := rfl
  unfold S_WR_powerModulo F_WR_powerModulo
  by_cases g1 : ((F_WR_no x2) : Int32) = (0 : Int32)
  ·
    rw [if_pos g1, if_pos g1]
    have g1r := w_no g1
    by_cases g2 : ((F_WR_no x3) : Int32) = (0 : Int32)
    ·
      rw [if_pos g2, if_pos g2]
      have g2r := w_no g2
      by_cases g3 : ((F_WR_no x4) : Int32) = (0 : Int32)
      ·
        rw [if_pos g3, if_pos g3]
        have g3r := w_no g3
        by_cases g4 : ((F_WR_no x5) : Int32) = (0 : Int32)
        ·
          rw [if_pos g4, if_pos g4]
          have g4r := w_no g4
          have h5 := R_isAbove0  (x2 := x4) (t0_0 := t0_0) (t0_1 := t0_1) (t0_2 := t0_2) (t0_3 := t0_3) (t0_4 := t0_4) (t0_5 := t0_5) (t0_6 := t0_6) (t1_0 := t1_0) (t2_0 := t2_0) (by first | with_reducible assumption | with_reducible exact R_cl | (with_reducible apply R_cp; first | with_reducible assumption | with_reducible exact R_cl) | (with_reducible refine wO_upd ?_ w_m16; with_reducible assumption) | (with_reducible apply wR.mi <;> with_reducible assumption)  | omega | decide) (by first | with_reducible assumption | with_reducible exact R_cl | (with_reducible apply R_cp; first | with_reducible assumption | with_reducible exact R_cl) | (with_reducible refine wO_upd ?_ w_m16; with_reducible assumption) | (with_reducible apply wR.mi <;> with_reducible assumption)  | omega | decide)
          have h5a := h5.2
          with_reducible refine v_owe h5.1 ?_
          by_cases g6 : ((F_WR_isAbove0 x4 t0_0 t0_1 t0_2 t0_3 t0_4 t0_5 t0_6 t1_0 t2_0) : Int32) = (0 : Int32)
          ·
            rw [if_pos g6, if_pos g6]
            unfold S_WR_powerModulo_J47 F_WR_powerModulo_J47
            have g7 : ¬ ((2 : Int32) ≤ (0 : Int32)) := (by decide)
            rw [if_neg g7, if_neg g7]
            refine ⟨trivial, ?_⟩
            (unfold Q_WR_powerModulo; dsimp only; first | with_reducible assumption | exact hr)
          ·
            rw [if_neg g6, if_neg g6]
            have g6z := w_ab g6 (by with_reducible assumption)
            unfold S_WR_powerModulo_J47 F_WR_powerModulo_J47
            have g8 : ((0 : Int32) ≤ (0 : Int32)) := (by decide)
            rw [if_pos g8, if_pos g8]
            have h9 := R_take  (x2 := x4) (t0_0 := (0 : Int32)) (t0_1 := t0_1) (t0_2 := t0_2) (t0_3 := t0_3) (t0_4 := t0_4) (t0_5 := t0_5) (t0_6 := t0_6) (t1_0 := t1_0) (t2_0 := t12_0) (by first | with_reducible assumption | with_reducible exact R_cl | (with_reducible apply R_cp; first | with_reducible assumption | with_reducible exact R_cl) | (with_reducible refine wO_upd ?_ w_m16; with_reducible assumption) | (with_reducible apply wR.mi <;> with_reducible assumption)  | omega | decide) (wR.o (by with_reducible assumption))
            have h9k := h9.2.1
            have h9v := h9.2
            with_reducible refine v_owe h9.1 ?_
            have h10 := R_reduce  (x2 := x2) (t0_0 := (0 : Int32)) (t0_1 := t0_1) (t0_2 := t0_2) (t0_3 := t0_3) (t0_4 := t0_4) (t0_5 := t0_5) (t0_6 := t0_6) (t1_0 := t1_0) (t2_0 := t2_0) (t3_0 := t3_0) (t4_0 := t6_0) (t5_0 := t7_0) (t6_0 := ((F_WR_take x4 (264 : Int32) (0 : Int32) t0_1 t0_2 t0_3 t0_4 t0_5 t0_6 t1_0 t12_0) : (Nat → Int32))) (t7_0 := t8_0) (by first | with_reducible assumption | with_reducible exact R_cl | (with_reducible apply R_cp; first | with_reducible assumption | with_reducible exact R_cl) | (with_reducible refine wO_upd ?_ w_m16; with_reducible assumption) | (with_reducible apply wR.mi <;> with_reducible assumption)  | omega | decide) (by first | with_reducible assumption | with_reducible exact R_cl | (with_reducible apply R_cp; first | with_reducible assumption | with_reducible exact R_cl) | (with_reducible refine wO_upd ?_ w_m16; with_reducible assumption) | (with_reducible apply wR.mi <;> with_reducible assumption)  | omega | decide) (by first | with_reducible assumption | (refine w_reg ?_ (wR.o (by with_reducible assumption)) (by with_reducible assumption) ?_ <;> with_reducible assumption))
            have h10k := h10.2
            with_reducible refine v_owe h10.1 ?_
            replace h10 := h10.2
            generalize F_WR_reduce x2 (264 : Int32) (0 : Int32) t0_1 t0_2 t0_3 t0_4 t0_5 t0_6 t1_0 t2_0 t3_0 t6_0 t7_0 ((F_WR_take x4 (264 : Int32) (0 : Int32) t0_1 t0_2 t0_3 t0_4 t0_5 t0_6 t1_0 t12_0) : (Nat → Int32)) t8_0 = p104 at *
            replace h9 := h9.2
            generalize F_WR_take x4 (264 : Int32) (0 : Int32) t0_1 t0_2 t0_3 t0_4 t0_5 t0_6 t1_0 t12_0 = f86 at *
            unfold S_WR_powerModulo_c73 F_WR_powerModulo_c73
            refine v_cons (by omega) ?_
            refine v_cons (by omega) ?_
            by_cases g11 : (t2_0 x3.toNatClampNeg : Int32) = (0 : Int32)
            ·
              rw [if_pos g11, if_pos g11]
              unfold S_WR_powerModulo_J98 F_WR_powerModulo_J98
              have h12 := R_setOne  (t0_0 := (0 : Int32)) (t0_1 := t0_1) (t0_2 := t0_2) (t0_3 := t0_3) (t0_4 := t0_4) (t0_5 := t0_5) (t0_6 := t0_6) (f := t9_0) 
              have h12k := h12.2.1
              with_reducible refine v_owe h12.1 ?_
              have h13 := R_div4  (t0_0 := (0 : Int32)) (t0_1 := t0_1) (t0_2 := t0_2) (t0_3 := t0_3) (t0_4 := t0_4) (t0_5 := t0_5) (t0_6 := t0_6) (t1_0 := (p104.2.1 : (Nat → Int32))) (t2_0 := (p104.2.2.1 : (Nat → Int32))) (t3_0 := ((F_WR_setOne (264 : Int32) (0 : Int32) t0_1 t0_2 t0_3 t0_4 t0_5 t0_6 t9_0) : (Nat → Int32))) (t4_0 := f86) (by first | with_reducible assumption | with_reducible exact R_cl | (with_reducible apply R_cp; first | with_reducible assumption | with_reducible exact R_cl) | (with_reducible refine wO_upd ?_ w_m16; with_reducible assumption) | (with_reducible apply wR.mi <;> with_reducible assumption)  | omega | decide) (by first | with_reducible assumption | (refine w_reg ?_ (wR.o (by with_reducible assumption)) (by with_reducible assumption) ?_ <;> with_reducible assumption))
              have h13k := h13.2.1
              have h13q := h13.2.2.1
              have h13d := h13.2
              with_reducible refine v_owe h13.1 ?_
              replace h13 := h13.2
              generalize F_WR_divideRows (264 : Int32) (264 : Int32) (0 : Int32) t0_1 t0_2 t0_3 t0_4 t0_5 t0_6 (p104.2.1 : (Nat → Int32)) (p104.2.2.1 : (Nat → Int32)) ((F_WR_setOne (264 : Int32) (0 : Int32) t0_1 t0_2 t0_3 t0_4 t0_5 t0_6 t9_0) : (Nat → Int32)) f86 = p186 at *
              replace h12 := h12.2
              generalize F_WR_setOne (264 : Int32) (0 : Int32) t0_1 t0_2 t0_3 t0_4 t0_5 t0_6 t9_0 = f172 at *
              unfold S_WR_powerModulo_c115 F_WR_powerModulo_c115
              exact v_pm2 hr (by with_reducible assumption) (by with_reducible assumption) (by first | with_reducible assumption | (refine w_reg ?_ (wR.o (by with_reducible assumption)) (by with_reducible assumption) ?_ <;> with_reducible assumption)) (by with_reducible assumption) (by first | with_reducible assumption | (with_reducible apply R_cp; with_reducible assumption)) _ _ (by decide) (by decide)
            ·
              rw [if_neg g11, if_neg g11]
              have h14 := T_WR_inverts  (t0_0 := (0 : Int32)) (t0_1 := t0_1) (t0_2 := t0_2) (t0_3 := t0_3) (t0_4 := t0_4) (t0_5 := t0_5) (t0_6 := t0_6) (t1_0 := (p104.1 : (Nat → Int32))) (t2_0 := t4_0) (t3_0 := t5_0) (t4_0 := (p104.2.1 : (Nat → Int32))) (t5_0 := (p104.2.2.1 : (Nat → Int32))) (t6_0 := (p104.2.2.2 : (Nat → Int32))) (t7_0 := t9_0) (t8_0 := t10_0) (t9_0 := t11_0) (t10_0 := f86) (by first | with_reducible assumption | (refine w_reg ?_ (wR.o (by with_reducible assumption)) (by with_reducible assumption) ?_ <;> with_reducible assumption)) (by first | with_reducible assumption | with_reducible exact R_cl | (with_reducible apply R_cp; first | with_reducible assumption | with_reducible exact R_cl) | (with_reducible refine wO_upd ?_ w_m16; with_reducible assumption) | (with_reducible apply wR.mi <;> with_reducible assumption)  | omega | decide)
              with_reducible refine v_owe h14.1 ?_
              replace h14 := h14.2
              generalize F_WR_inverts (0 : Int32) t0_1 t0_2 t0_3 t0_4 t0_5 t0_6 (p104.1 : (Nat → Int32)) t4_0 t5_0 (p104.2.1 : (Nat → Int32)) (p104.2.2.1 : (Nat → Int32)) (p104.2.2.2 : (Nat → Int32)) t9_0 t10_0 t11_0 f86 = p522 at *
              unfold Q_WR_inverts at h14
              unfold S_WR_powerModulo_c86 F_WR_powerModulo_c86
              by_cases g15 : (p522.1 : Int32) = (0 : Int32)
              ·
                rw [if_pos g15, if_pos g15]
                refine ⟨trivial, ?_⟩
                (unfold Q_WR_powerModulo; dsimp only; first | with_reducible assumption | exact hr)
              ·
                rw [if_neg g15, if_neg g15]
                unfold S_WR_powerModulo_J98 F_WR_powerModulo_J98
                have h16 := R_setOne  (t0_0 := (p522.2.1 : Int32)) (t0_1 := (p522.2.2.1 : Int32)) (t0_2 := (p522.2.2.2.1 : Int32)) (t0_3 := (p522.2.2.2.2.1 : Int32)) (t0_4 := (p522.2.2.2.2.2.1 : Int32)) (t0_5 := (p522.2.2.2.2.2.2.1 : Int32)) (t0_6 := (p522.2.2.2.2.2.2.2.1 : Int32)) (f := (p522.2.2.2.2.2.2.2.2.2.2.2.2.2.2.1 : (Nat → Int32))) 
                have h16k := h16.2.1
                with_reducible refine v_owe h16.1 ?_
                have h17 := R_div4  (t0_0 := (p522.2.1 : Int32)) (t0_1 := (p522.2.2.1 : Int32)) (t0_2 := (p522.2.2.2.1 : Int32)) (t0_3 := (p522.2.2.2.2.1 : Int32)) (t0_4 := (p522.2.2.2.2.2.1 : Int32)) (t0_5 := (p522.2.2.2.2.2.2.1 : Int32)) (t0_6 := (p522.2.2.2.2.2.2.2.1 : Int32)) (t1_0 := (p522.2.2.2.2.2.2.2.2.2.2.2.1 : (Nat → Int32))) (t2_0 := (p522.2.2.2.2.2.2.2.2.2.2.2.2.1 : (Nat → Int32))) (t3_0 := ((F_WR_setOne (264 : Int32) (p522.2.1 : Int32) (p522.2.2.1 : Int32) (p522.2.2.2.1 : Int32) (p522.2.2.2.2.1 : Int32) (p522.2.2.2.2.2.1 : Int32) (p522.2.2.2.2.2.2.1 : Int32) (p522.2.2.2.2.2.2.2.1 : Int32) (p522.2.2.2.2.2.2.2.2.2.2.2.2.2.2.1 : (Nat → Int32))) : (Nat → Int32))) (t4_0 := f86) (by first | with_reducible assumption | with_reducible exact R_cl | (with_reducible apply R_cp; first | with_reducible assumption | with_reducible exact R_cl) | (with_reducible refine wO_upd ?_ w_m16; with_reducible assumption) | (with_reducible apply wR.mi <;> with_reducible assumption)  | omega | decide) (by first | with_reducible assumption | (refine w_reg ?_ (wR.o (by with_reducible assumption)) (by with_reducible assumption) ?_ <;> with_reducible assumption))
                have h17k := h17.2.1
                have h17q := h17.2.2.1
                have h17d := h17.2
                with_reducible refine v_owe h17.1 ?_
                replace h17 := h17.2
                generalize F_WR_divideRows (264 : Int32) (264 : Int32) (p522.2.1 : Int32) (p522.2.2.1 : Int32) (p522.2.2.2.1 : Int32) (p522.2.2.2.2.1 : Int32) (p522.2.2.2.2.2.1 : Int32) (p522.2.2.2.2.2.2.1 : Int32) (p522.2.2.2.2.2.2.2.1 : Int32) (p522.2.2.2.2.2.2.2.2.2.2.2.1 : (Nat → Int32)) (p522.2.2.2.2.2.2.2.2.2.2.2.2.1 : (Nat → Int32)) ((F_WR_setOne (264 : Int32) (p522.2.1 : Int32) (p522.2.2.1 : Int32) (p522.2.2.2.1 : Int32) (p522.2.2.2.2.1 : Int32) (p522.2.2.2.2.2.1 : Int32) (p522.2.2.2.2.2.2.1 : Int32) (p522.2.2.2.2.2.2.2.1 : Int32) (p522.2.2.2.2.2.2.2.2.2.2.2.2.2.2.1 : (Nat → Int32))) : (Nat → Int32)) f86 = p186 at *
                replace h16 := h16.2
                generalize F_WR_setOne (264 : Int32) (p522.2.1 : Int32) (p522.2.2.1 : Int32) (p522.2.2.2.1 : Int32) (p522.2.2.2.2.1 : Int32) (p522.2.2.2.2.2.1 : Int32) (p522.2.2.2.2.2.2.1 : Int32) (p522.2.2.2.2.2.2.2.1 : Int32) (p522.2.2.2.2.2.2.2.2.2.2.2.2.2.2.1 : (Nat → Int32)) = f172 at *
                unfold S_WR_powerModulo_c115 F_WR_powerModulo_c115
                exact v_pm2 hr (by with_reducible assumption) (by with_reducible assumption) (by first | with_reducible assumption | (refine w_reg ?_ (wR.o (by with_reducible assumption)) (by with_reducible assumption) ?_ <;> with_reducible assumption)) (by with_reducible assumption) (by first | with_reducible assumption | (with_reducible apply R_cp; with_reducible assumption)) _ _ (by decide) (by decide)
        ·
          rw [if_neg g4, if_neg g4]
          unfold S_WR_powerModulo_J30 F_WR_powerModulo_J30
          unfold S_WR_powerModulo_J47 F_WR_powerModulo_J47
          have g18 : ¬ ((1 : Int32) ≤ (0 : Int32)) := (by decide)
          rw [if_neg g18, if_neg g18]
          refine ⟨trivial, ?_⟩
          (unfold Q_WR_powerModulo; dsimp only; first | with_reducible assumption | exact hr)
      ·
        rw [if_neg g3, if_neg g3]
        unfold S_WR_powerModulo_J30 F_WR_powerModulo_J30
        unfold S_WR_powerModulo_J47 F_WR_powerModulo_J47
        have g19 : ¬ ((1 : Int32) ≤ (0 : Int32)) := (by decide)
        rw [if_neg g19, if_neg g19]
        refine ⟨trivial, ?_⟩
        (unfold Q_WR_powerModulo; dsimp only; first | with_reducible assumption | exact hr)
    ·
      rw [if_neg g2, if_neg g2]
      unfold S_WR_powerModulo_J30 F_WR_powerModulo_J30
      unfold S_WR_powerModulo_J47 F_WR_powerModulo_J47
      have g20 : ¬ ((1 : Int32) ≤ (0 : Int32)) := (by decide)
      rw [if_neg g20, if_neg g20]
      refine ⟨trivial, ?_⟩
      (unfold Q_WR_powerModulo; dsimp only; first | with_reducible assumption | exact hr)
  ·
    rw [if_neg g1, if_neg g1]
    unfold S_WR_powerModulo_J30 F_WR_powerModulo_J30
    unfold S_WR_powerModulo_J47 F_WR_powerModulo_J47
    have g21 : ¬ ((1 : Int32) ≤ (0 : Int32)) := (by decide)
    rw [if_neg g21, if_neg g21]
    refine ⟨trivial, ?_⟩
    (unfold Q_WR_powerModulo; dsimp only; first | with_reducible assumption | exact hr)

/-! WholeRows: limb, combine, compare, told -/
theorem w_a16 {x : Int32} : 0 ≤ (x &&& 65535).toInt ∧ (x &&& 65535).toInt < 65536 := by
  have := s_and (x := x) (m := 65535) (by decide)
  have e : (65535 : Int32).toInt = 65535 := rfl
  omega
theorem w_kx {k m : Nat → Int32} {x i : Int32} (hr : wR k m) (hx : 0 ≤ x.toInt ∧ x.toInt ≤ 10) (hi : 0 ≤ i.toInt) (hi2 : i.toInt < 128) : 0 ≤ (k ((128 * x) + i : Int32).toNatClampNeg).toInt ∧ (k ((128 * x) + i : Int32).toNatClampNeg).toInt < 65536 := by
  have h := (w_ix hx ⟨hi, by omega⟩).2
  have e4 := q_clI (i := x) rfl hx.1
  have e5 := q_clI (i := i) rfl hi
  rw [h]
  exact hr.1 _ (by omega)
theorem w_or17 {x y : Int32} (hx : 0 ≤ x.toInt ∧ x.toInt < 65536) (hy : 0 ≤ y.toInt ∧ y.toInt < 65536) : 0 ≤ (x ||| y).toInt ∧ (x ||| y).toInt < 65536 := w_or16 hx ⟨hy.1, by omega⟩
theorem R_j1 {f g : Nat → Int32} (hf : wO f 264) (hg : wO g 264) : S_WR_join 264 264 1 1 0 f g ∧ wO (F_WR_join 264 264 1 1 0 f g) 264 := by
  have h := R_join (N := 264) (M := 264) (s := 1) (y := 1) (x5 := 0) (f := f) (g := g) (σ := 1) (by rw [if_pos rfl]) (by decide) (by decide) (by decide) (by decide) (by decide) (hg.mono (by decide)) (by decide) hf
  exact ⟨h.1, h.2.1⟩
def Q_WR_limb (p : Int32) : Prop := 0 ≤ p.toInt ∧ p.toInt < 65536
theorem v_limL {x2 : Int32} {x3 : Int32} {t0_0 : Int32} {t0_1 : Int32} {t0_2 : Int32} {t0_3 : Int32} {t0_4 : Int32} {t0_5 : Int32} {t0_6 : Int32} {t1_0 : (Nat → Int32)} {t2_0 : (Nat → Int32)} (hr : wR t1_0 t2_0)(hx2 : 0 ≤ x2.toInt ∧ x2.toInt ≤ 10) (h3 : 0 ≤ x3.toInt ∧ x3.toInt ≤ 128) : ∀ (n : Nat) (lx28 : Int32) (lx29 : Int32), (0 ≤ lx28.toInt ∧ lx28.toInt ≤ 128) → (128 - lx28.toInt < (n : Int)) → (S_WR_limb_L38 x2 x3 t0_0 t0_1 t0_2 t0_3 t0_4 t0_5 t0_6 t1_0 t2_0 n lx28 lx29) ∧ Q_WR_limb (F_WR_limb_L38 x2 x3 t0_0 t0_1 t0_2 t0_3 t0_4 t0_5 t0_6 t1_0 t2_0 n lx28 lx29) := by
  intro n
  induction n with
  | zero => intro lx28 lx29 h0 hm; exact absurd (show False by omega) id
  | succ n ih =>
    intro lx28 lx29 h0 hm
    have e0 : (0 : Int32).toInt = 0 := rfl
    have e128 : (128 : Int32).toInt = 128 := rfl
    rw [S_WR_limb_L38.eq_2, F_WR_limb_L38.eq_2]
    by_cases g1 : x3 ≤ lx28
    ·
      rw [if_pos g1, if_pos g1]
      have g1i : x3.toInt ≤ lx28.toInt := q_leI g1
      unfold S_WR_limb_J84 F_WR_limb_J84
      by_cases g2 : (128 : Int32) ≤ x3
      ·
        rw [if_pos g2, if_pos g2]
        have g2i : 128 ≤ x3.toInt := q_leI g2
        unfold S_WR_limb_J107 F_WR_limb_J107
        by_cases g3 : lx29 = (0 : Int32)
        ·
          rw [if_pos g3, if_pos g3]
          have g3i : lx29.toInt = 0 := q_eqI g3
          refine ⟨trivial, ?_⟩
          (unfold Q_WR_limb; first | exact w_a16 | exact ⟨by decide, by decide⟩ | exact w_kx hr hx2 h3.1 (by omega))
        ·
          rw [if_neg g3, if_neg g3]
          have g3i : lx29.toInt ≠ 0 := q_neI g3
          refine ⟨trivial, ?_⟩
          (unfold Q_WR_limb; first | exact w_a16 | exact ⟨by decide, by decide⟩ | exact w_kx hr hx2 h3.1 (by omega))
      ·
        rw [if_neg g2, if_neg g2]
        have g2i : x3.toInt < 128 := q_nleI g2
        refine v_cons (by have := (w_ix (x := x2) (k := x3) (by with_reducible assumption) ⟨by omega, by omega⟩).1; omega) ?_
        unfold S_WR_limb_J107 F_WR_limb_J107
        by_cases g4 : lx29 = (0 : Int32)
        ·
          rw [if_pos g4, if_pos g4]
          have g4i : lx29.toInt = 0 := q_eqI g4
          refine ⟨trivial, ?_⟩
          (unfold Q_WR_limb; first | exact w_a16 | exact ⟨by decide, by decide⟩ | exact w_kx hr hx2 h3.1 (by omega))
        ·
          rw [if_neg g4, if_neg g4]
          have g4i : lx29.toInt ≠ 0 := q_neI g4
          refine ⟨trivial, ?_⟩
          (unfold Q_WR_limb; first | exact w_a16 | exact ⟨by decide, by decide⟩ | exact w_kx hr hx2 h3.1 (by omega))
    ·
      rw [if_neg g1, if_neg g1]
      have g1i : lx28.toInt < x3.toInt := q_nleI g1
      by_cases g5 : (128 : Int32) ≤ lx28
      ·
        rw [if_pos g5, if_pos g5]
        have g5i : 128 ≤ lx28.toInt := q_leI g5
        unfold S_WR_limb_J84 F_WR_limb_J84
        by_cases g6 : (128 : Int32) ≤ x3
        ·
          rw [if_pos g6, if_pos g6]
          have g6i : 128 ≤ x3.toInt := q_leI g6
          unfold S_WR_limb_J107 F_WR_limb_J107
          by_cases g7 : lx29 = (0 : Int32)
          ·
            rw [if_pos g7, if_pos g7]
            have g7i : lx29.toInt = 0 := q_eqI g7
            refine ⟨trivial, ?_⟩
            (unfold Q_WR_limb; first | exact w_a16 | exact ⟨by decide, by decide⟩ | exact w_kx hr hx2 h3.1 (by omega))
          ·
            rw [if_neg g7, if_neg g7]
            have g7i : lx29.toInt ≠ 0 := q_neI g7
            refine ⟨trivial, ?_⟩
            (unfold Q_WR_limb; first | exact w_a16 | exact ⟨by decide, by decide⟩ | exact w_kx hr hx2 h3.1 (by omega))
        ·
          rw [if_neg g6, if_neg g6]
          have g6i : x3.toInt < 128 := q_nleI g6
          refine v_cons (by have := (w_ix (x := x2) (k := x3) (by with_reducible assumption) ⟨by omega, by omega⟩).1; omega) ?_
          unfold S_WR_limb_J107 F_WR_limb_J107
          by_cases g8 : lx29 = (0 : Int32)
          ·
            rw [if_pos g8, if_pos g8]
            have g8i : lx29.toInt = 0 := q_eqI g8
            refine ⟨trivial, ?_⟩
            (unfold Q_WR_limb; first | exact w_a16 | exact ⟨by decide, by decide⟩ | exact w_kx hr hx2 h3.1 (by omega))
          ·
            rw [if_neg g8, if_neg g8]
            have g8i : lx29.toInt ≠ 0 := q_neI g8
            refine ⟨trivial, ?_⟩
            (unfold Q_WR_limb; first | exact w_a16 | exact ⟨by decide, by decide⟩ | exact w_kx hr hx2 h3.1 (by omega))
      ·
        rw [if_neg g5, if_neg g5]
        have g5i : lx28.toInt < 128 := q_nleI g5
        by_cases g9 : lx29 = (0 : Int32)
        ·
          rw [if_pos g9, if_pos g9]
          have g9i : lx29.toInt = 0 := q_eqI g9
          obtain ⟨a10, e11⟩ := q_nm (lx28 + 1 : Int32)
          rw [e11]
          have a10i : a10.toInt = lx28.toInt + 1 := by rw [← e11]; exact q_addI (x := lx28.toInt) (y := 1) rfl (by decide) (by omega) (by omega)
          exact ih _ _ (by first | with_reducible assumption | with_reducible exact R_cl | (with_reducible apply R_cp; first | with_reducible assumption | with_reducible exact R_cl) | (with_reducible refine wO_upd ?_ w_m16; with_reducible assumption) | (with_reducible apply wR.mi <;> with_reducible assumption)  | omega | decide) (by first | with_reducible assumption | with_reducible exact R_cl | (with_reducible apply R_cp; first | with_reducible assumption | with_reducible exact R_cl) | (with_reducible refine wO_upd ?_ w_m16; with_reducible assumption) | (with_reducible apply wR.mi <;> with_reducible assumption)  | omega | decide)
        ·
          rw [if_neg g9, if_neg g9]
          have g9i : lx29.toInt ≠ 0 := q_neI g9
          by_cases g12 : (t1_0 ((128 * x2 : Int32) + lx28 : Int32).toNatClampNeg : Int32) = (0 : Int32)
          ·
            rw [if_pos g12, if_pos g12]
            obtain ⟨a13, e14⟩ := q_nm (lx28 + 1 : Int32)
            rw [e14]
            have a13i : a13.toInt = lx28.toInt + 1 := by rw [← e14]; exact q_addI (x := lx28.toInt) (y := 1) rfl (by decide) (by omega) (by omega)
            exact ih _ _ (by first | with_reducible assumption | with_reducible exact R_cl | (with_reducible apply R_cp; first | with_reducible assumption | with_reducible exact R_cl) | (with_reducible refine wO_upd ?_ w_m16; with_reducible assumption) | (with_reducible apply wR.mi <;> with_reducible assumption)  | omega | decide) (by first | with_reducible assumption | with_reducible exact R_cl | (with_reducible apply R_cp; first | with_reducible assumption | with_reducible exact R_cl) | (with_reducible refine wO_upd ?_ w_m16; with_reducible assumption) | (with_reducible apply wR.mi <;> with_reducible assumption)  | omega | decide)
          ·
            rw [if_neg g12, if_neg g12]
            obtain ⟨a15, e16⟩ := q_nm (lx28 + 1 : Int32)
            rw [e16]
            have a15i : a15.toInt = lx28.toInt + 1 := by rw [← e16]; exact q_addI (x := lx28.toInt) (y := 1) rfl (by decide) (by omega) (by omega)
            exact ih _ _ (by first | with_reducible assumption | with_reducible exact R_cl | (with_reducible apply R_cp; first | with_reducible assumption | with_reducible exact R_cl) | (with_reducible refine wO_upd ?_ w_m16; with_reducible assumption) | (with_reducible apply wR.mi <;> with_reducible assumption)  | omega | decide) (by first | with_reducible assumption | with_reducible exact R_cl | (with_reducible apply R_cp; first | with_reducible assumption | with_reducible exact R_cl) | (with_reducible refine wO_upd ?_ w_m16; with_reducible assumption) | (with_reducible apply wR.mi <;> with_reducible assumption)  | omega | decide)
theorem T_WR_limb {x2 : Int32} {x3 : Int32} {t0_0 : Int32} {t0_1 : Int32} {t0_2 : Int32} {t0_3 : Int32} {t0_4 : Int32} {t0_5 : Int32} {t0_6 : Int32} {t1_0 : (Nat → Int32)} {t2_0 : (Nat → Int32)} (hr : wR t1_0 t2_0)(hx2 : 0 ≤ x2.toInt ∧ x2.toInt ≤ 10) (h3 : 0 ≤ x3.toInt ∧ x3.toInt ≤ 128) : (S_WR_limb x2 x3 t0_0 t0_1 t0_2 t0_3 t0_4 t0_5 t0_6 t1_0 t2_0) ∧ Q_WR_limb (F_WR_limb x2 x3 t0_0 t0_1 t0_2 t0_3 t0_4 t0_5 t0_6 t1_0 t2_0) := by
  have e0 : (0 : Int32).toInt = 0 := rfl
  have e128 : (128 : Int32).toInt = 128 := rfl
  unfold S_WR_limb F_WR_limb
  refine v_cons (by omega) ?_
  refine v_cons (by omega) ?_
  by_cases g1 : (t2_0 x2.toNatClampNeg : Int32) = (0 : Int32)
  ·
    rw [if_pos g1, if_pos g1]
    by_cases g2 : (128 : Int32) ≤ x3
    ·
      rw [if_pos g2, if_pos g2]
      have g2i : 128 ≤ x3.toInt := q_leI g2
      refine ⟨trivial, ?_⟩
      (unfold Q_WR_limb; first | exact w_a16 | exact ⟨by decide, by decide⟩ | exact w_kx hr hx2 h3.1 (by omega))
    ·
      rw [if_neg g2, if_neg g2]
      have g2i : x3.toInt < 128 := q_nleI g2
      refine v_cons (by have := (w_ix (x := x2) (k := x3) (by with_reducible assumption) ⟨by omega, by omega⟩).1; omega) ?_
      refine ⟨trivial, ?_⟩
      (unfold Q_WR_limb; first | exact w_a16 | exact ⟨by decide, by decide⟩ | exact w_kx hr hx2 h3.1 (by omega))
  ·
    rw [if_neg g1, if_neg g1]
    exact v_limL hr hx2 h3 _ _ _ (by decide) (by decide)
theorem R_limb {x2 : Int32} {x3 : Int32} {t0_0 : Int32} {t0_1 : Int32} {t0_2 : Int32} {t0_3 : Int32} {t0_4 : Int32} {t0_5 : Int32} {t0_6 : Int32} {t1_0 : (Nat → Int32)} {t2_0 : (Nat → Int32)} (hr : wR t1_0 t2_0)(hx2 : 0 ≤ x2.toInt ∧ x2.toInt ≤ 10) (h3 : 0 ≤ x3.toInt ∧ x3.toInt ≤ 128) : S_WR_limb x2 x3 t0_0 t0_1 t0_2 t0_3 t0_4 t0_5 t0_6 t1_0 t2_0 ∧ (0 ≤ (F_WR_limb x2 x3 t0_0 t0_1 t0_2 t0_3 t0_4 t0_5 t0_6 t1_0 t2_0).toInt ∧ (F_WR_limb x2 x3 t0_0 t0_1 t0_2 t0_3 t0_4 t0_5 t0_6 t1_0 t2_0).toInt < 65536) := T_WR_limb hr hx2 h3
def Q_WR_combine (p : Int32 × Int32 × Int32 × Int32 × Int32 × Int32 × Int32 × (Nat → Int32) × (Nat → Int32) × (Nat → Int32) × (Nat → Int32)) : Prop := wR p.2.2.2.2.2.2.2.1 p.2.2.2.2.2.2.2.2.1
theorem v_cmb2 {K_F_WR_combine_L64 : Int32 → (Nat → Int32) → (Int32 × Int32 × Int32 × Int32 × Int32 × Int32 × Int32 × (Nat → Int32) × (Nat → Int32) × (Nat → Int32) × (Nat → Int32))} {x2 : Int32} {x3 : Int32} {x4 : Int32} {x5 : Int32} {t0_0 : Int32} {t0_1 : Int32} {t0_2 : Int32} {t0_3 : Int32} {t0_4 : Int32} {t0_5 : Int32} {t0_6 : Int32} {t1_0 : (Nat → Int32)} {t2_0 : (Nat → Int32)} {t3_0 : (Nat → Int32)} {t4_0 : (Nat → Int32)} {lx33 : Int32} {lx61 : Int32} {lx62 : (Nat → Int32)} {lx81 : Int32} {K_S_WR_combine_L64 : Int32 → (Nat → Int32) → Prop} (hr : wR t1_0 t2_0)(hx2 : 0 ≤ x2.toInt ∧ x2.toInt ≤ 10)(hx3 : 0 ≤ x3.toInt ∧ x3.toInt ≤ 10)(hx4 : 0 ≤ x4.toInt ∧ x4.toInt ≤ 10) : ∀ (n : Nat) (lx146 : Int32) (lx147 : (Nat → Int32)), (0 ≤ lx146.toInt ∧ lx146.toInt ≤ 129) → (129 - lx146.toInt < (n : Int)) → (wO lx147 264) → (S_WR_combine_L183 K_S_WR_combine_L64 x2 x3 x4 x5 t0_0 t0_1 t0_2 t0_3 t0_4 t0_5 t0_6 t1_0 t2_0 t3_0 t4_0 lx33 lx61 lx62 lx81 n lx146 lx147) ∧ Q_WR_combine (F_WR_combine_L183 K_F_WR_combine_L64 x2 x3 x4 x5 t0_0 t0_1 t0_2 t0_3 t0_4 t0_5 t0_6 t1_0 t2_0 t3_0 t4_0 lx33 lx61 lx62 lx81 n lx146 lx147) := by
  intro n
  induction n with
  | zero => intro lx146 lx147 h0 hm ho; exact absurd (show False by omega) id
  | succ n ih =>
    intro lx146 lx147 h0 hm ho
    have e0 : (0 : Int32).toInt = 0 := rfl
    have e128 : (128 : Int32).toInt = 128 := rfl
    rw [S_WR_combine_L183.eq_2, F_WR_combine_L183.eq_2]
    by_cases g1 : (128 : Int32) < lx146
    ·
      rw [if_pos g1, if_pos g1]
      have g1i : 128 < lx146.toInt := q_ltI g1
      have h2 := R_setOne  (t0_0 := lx33) (t0_1 := (2 : Int32)) (t0_2 := t0_2) (t0_3 := lx81) (t0_4 := t0_4) (t0_5 := t0_5) (t0_6 := t0_6) (f := t4_0) 
      have h2k := h2.2.1
      with_reducible refine v_owe h2.1 ?_
      have h3 := R_j1  (f := lx147) (g := ((F_WR_setOne (264 : Int32) lx33 (2 : Int32) t0_2 lx81 t0_4 t0_5 t0_6 t4_0) : (Nat → Int32))) (by first | with_reducible assumption | with_reducible exact R_cl | (with_reducible apply R_cp; first | with_reducible assumption | with_reducible exact R_cl) | (with_reducible refine wO_upd ?_ w_m16; with_reducible assumption) | (with_reducible apply wR.mi <;> with_reducible assumption)  | omega | decide) (by first | with_reducible assumption | with_reducible exact R_cl | (with_reducible apply R_cp; first | with_reducible assumption | with_reducible exact R_cl) | (with_reducible refine wO_upd ?_ w_m16; with_reducible assumption) | (with_reducible apply wR.mi <;> with_reducible assumption)  | omega | decide)
      have h3k := h3.2
      with_reducible refine v_owe h3.1 ?_
      have h4 := R_store  (x2 := x4) (t0_0 := lx33) (t0_1 := (2 : Int32)) (t0_2 := t0_2) (t0_3 := lx81) (t0_4 := t0_4) (t0_5 := t0_5) (t0_6 := t0_6) (t1_0 := t1_0) (t2_0 := t2_0) (t3_0 := ((F_WR_join (264 : Int32) (264 : Int32) (1 : Int32) (1 : Int64) (0 : Int32) lx147 ((F_WR_setOne (264 : Int32) lx33 (2 : Int32) t0_2 lx81 t0_4 t0_5 t0_6 t4_0) : (Nat → Int32))) : (Nat → Int32))) (by first | with_reducible assumption | with_reducible exact R_cl | (with_reducible apply R_cp; first | with_reducible assumption | with_reducible exact R_cl) | (with_reducible refine wO_upd ?_ w_m16; with_reducible assumption) | (with_reducible apply wR.mi <;> with_reducible assumption)  | omega | decide) (by first | with_reducible assumption | with_reducible exact R_cl | (with_reducible apply R_cp; first | with_reducible assumption | with_reducible exact R_cl) | (with_reducible refine wO_upd ?_ w_m16; with_reducible assumption) | (with_reducible apply wR.mi <;> with_reducible assumption)  | omega | decide) (by first | with_reducible assumption | with_reducible exact R_cl | (with_reducible apply R_cp; first | with_reducible assumption | with_reducible exact R_cl) | (with_reducible refine wO_upd ?_ w_m16; with_reducible assumption) | (with_reducible apply wR.mi <;> with_reducible assumption)  | omega | decide)
      have h4r := h4.2
      with_reducible refine v_owe h4.1 ?_
      replace h4 := h4.2
      generalize F_WR_store x4 lx33 (2 : Int32) t0_2 lx81 t0_4 t0_5 t0_6 t1_0 t2_0 ((F_WR_join (264 : Int32) (264 : Int32) (1 : Int32) (1 : Int64) (0 : Int32) lx147 ((F_WR_setOne (264 : Int32) lx33 (2 : Int32) t0_2 lx81 t0_4 t0_5 t0_6 t4_0) : (Nat → Int32))) : (Nat → Int32)) = p209 at *
      replace h2 := h2.2
      generalize F_WR_setOne (264 : Int32) lx33 (2 : Int32) t0_2 lx81 t0_4 t0_5 t0_6 t4_0 = f167 at *
      replace h3 := h3.2
      generalize F_WR_join (264 : Int32) (264 : Int32) (1 : Int32) (1 : Int64) (0 : Int32) lx147 ((F_WR_setOne (264 : Int32) lx33 (2 : Int32) t0_2 lx81 t0_4 t0_5 t0_6 t4_0) : (Nat → Int32)) = f175 at *
      unfold S_WR_combine_c240_6 F_WR_combine_c240_6
      refine ⟨trivial, ?_⟩
      (unfold Q_WR_combine; dsimp only; first | with_reducible assumption | exact hr)
    ·
      rw [if_neg g1, if_neg g1]
      have g1i : lx146.toInt ≤ 128 := q_nltI g1
      obtain ⟨a5, e6⟩ := q_nm (lx146 + 1 : Int32)
      rw [e6]
      have a5i : a5.toInt = lx146.toInt + 1 := by rw [← e6]; exact q_addI (x := lx146.toInt) (y := 1) rfl (by decide) (by omega) (by omega)
      exact ih _ _ ⟨by omega, by omega⟩ (by omega) (wO_upd ho w_a16)
theorem v_cmb1 {x2 : Int32} {x3 : Int32} {x4 : Int32} {x5 : Int32} {t0_0 : Int32} {t0_1 : Int32} {t0_2 : Int32} {t0_3 : Int32} {t0_4 : Int32} {t0_5 : Int32} {t0_6 : Int32} {t1_0 : (Nat → Int32)} {t2_0 : (Nat → Int32)} {t3_0 : (Nat → Int32)} {t4_0 : (Nat → Int32)} {lx33 : Int32} (hr : wR t1_0 t2_0)(hx2 : 0 ≤ x2.toInt ∧ x2.toInt ≤ 10)(hx3 : 0 ≤ x3.toInt ∧ x3.toInt ≤ 10)(hx4 : 0 ≤ x4.toInt ∧ x4.toInt ≤ 10) : ∀ (n : Nat) (lx61 : Int32) (lx62 : (Nat → Int32)), (0 ≤ lx61.toInt ∧ lx61.toInt ≤ 129) → (129 - lx61.toInt < (n : Int)) → (wO lx62 264) → (S_WR_combine_L64 x2 x3 x4 x5 t0_0 t0_1 t0_2 t0_3 t0_4 t0_5 t0_6 t1_0 t2_0 t3_0 t4_0 lx33 n lx61 lx62) ∧ Q_WR_combine (F_WR_combine_L64 x2 x3 x4 x5 t0_0 t0_1 t0_2 t0_3 t0_4 t0_5 t0_6 t1_0 t2_0 t3_0 t4_0 lx33 n lx61 lx62) := by
  intro n
  induction n with
  | zero => intro lx61 lx62 h0 hm ho; exact absurd (show False by omega) id
  | succ n ih =>
    intro lx61 lx62 h0 hm ho
    have e0 : (0 : Int32).toInt = 0 := rfl
    have e128 : (128 : Int32).toInt = 128 := rfl
    rw [S_WR_combine_L64.eq_2, F_WR_combine_L64.eq_2]
    by_cases g1 : (128 : Int32) < lx61
    ·
      rw [if_pos g1, if_pos g1]
      have g1i : 128 < lx61.toInt := q_ltI g1
      by_cases g2 : (lx62 (128 : Int32).toNatClampNeg : Int32) < (32768 : Int32)
      ·
        rw [if_pos g2, if_pos g2]
        unfold S_WR_combine_J170 F_WR_combine_J170
        have g3 : ((0 : Int32) = (0 : Int32)) := (by decide)
        rw [if_pos g3, if_pos g3]
        have h4 := R_store  (x2 := x4) (t0_0 := lx33) (t0_1 := (2 : Int32)) (t0_2 := t0_2) (t0_3 := (0 : Int32)) (t0_4 := t0_4) (t0_5 := t0_5) (t0_6 := t0_6) (t1_0 := t1_0) (t2_0 := t2_0) (t3_0 := lx62) (by first | with_reducible assumption | omega | (with_reducible refine wO_upd ?_ (w_and16 ?_) <;> first | with_reducible assumption) | (with_reducible refine wO_upd ?_ (w_or17 ?_ ?_) <;> first | with_reducible assumption) | (with_reducible refine wO_upd ?_ (w_xor16 ?_ ?_) <;> first | with_reducible assumption) | decide) (by first | with_reducible assumption | omega | (with_reducible refine wO_upd ?_ (w_and16 ?_) <;> first | with_reducible assumption) | (with_reducible refine wO_upd ?_ (w_or17 ?_ ?_) <;> first | with_reducible assumption) | (with_reducible refine wO_upd ?_ (w_xor16 ?_ ?_) <;> first | with_reducible assumption) | decide) (by first | with_reducible assumption | omega | (with_reducible refine wO_upd ?_ (w_and16 ?_) <;> first | with_reducible assumption) | (with_reducible refine wO_upd ?_ (w_or17 ?_ ?_) <;> first | with_reducible assumption) | (with_reducible refine wO_upd ?_ (w_xor16 ?_ ?_) <;> first | with_reducible assumption) | decide)
        have h4r := h4.2
        with_reducible refine v_owe h4.1 ?_
        replace h4 := h4.2
        generalize F_WR_store x4 lx33 (2 : Int32) t0_2 (0 : Int32) t0_4 t0_5 t0_6 t1_0 t2_0 lx62 = p128 at *
        unfold S_WR_combine_c240 F_WR_combine_c240
        refine ⟨trivial, ?_⟩
        (unfold Q_WR_combine; dsimp only; first | with_reducible assumption | exact hr)
      ·
        rw [if_neg g2, if_neg g2]
        unfold S_WR_combine_J170 F_WR_combine_J170
        have g5 : ¬ ((1 : Int32) = (0 : Int32)) := (by decide)
        rw [if_neg g5, if_neg g5]
        exact v_cmb2 hr hx2 hx3 hx4 _ _ _ (by decide) (by decide) ho
    ·
      rw [if_neg g1, if_neg g1]
      have g1i : lx61.toInt ≤ 128 := q_nltI g1
      have h6 := R_limb  (x2 := x2) (x3 := lx61) (t0_0 := lx33) (t0_1 := (2 : Int32)) (t0_2 := t0_2) (t0_3 := t0_3) (t0_4 := t0_4) (t0_5 := t0_5) (t0_6 := t0_6) (t1_0 := t1_0) (t2_0 := t2_0) (by first | with_reducible assumption | omega | (with_reducible refine wO_upd ?_ (w_and16 ?_) <;> first | with_reducible assumption) | (with_reducible refine wO_upd ?_ (w_or17 ?_ ?_) <;> first | with_reducible assumption) | (with_reducible refine wO_upd ?_ (w_xor16 ?_ ?_) <;> first | with_reducible assumption) | decide) (by first | with_reducible assumption | omega | (with_reducible refine wO_upd ?_ (w_and16 ?_) <;> first | with_reducible assumption) | (with_reducible refine wO_upd ?_ (w_or17 ?_ ?_) <;> first | with_reducible assumption) | (with_reducible refine wO_upd ?_ (w_xor16 ?_ ?_) <;> first | with_reducible assumption) | decide) ⟨by first | omega | decide, by first | omega | decide⟩
      have h6b := h6.2
      with_reducible refine v_owe h6.1 ?_
      have h7 := R_limb  (x2 := x3) (x3 := lx61) (t0_0 := lx33) (t0_1 := (2 : Int32)) (t0_2 := t0_2) (t0_3 := t0_3) (t0_4 := t0_4) (t0_5 := t0_5) (t0_6 := t0_6) (t1_0 := t1_0) (t2_0 := t2_0) (by first | with_reducible assumption | omega | (with_reducible refine wO_upd ?_ (w_and16 ?_) <;> first | with_reducible assumption) | (with_reducible refine wO_upd ?_ (w_or17 ?_ ?_) <;> first | with_reducible assumption) | (with_reducible refine wO_upd ?_ (w_xor16 ?_ ?_) <;> first | with_reducible assumption) | decide) (by first | with_reducible assumption | omega | (with_reducible refine wO_upd ?_ (w_and16 ?_) <;> first | with_reducible assumption) | (with_reducible refine wO_upd ?_ (w_or17 ?_ ?_) <;> first | with_reducible assumption) | (with_reducible refine wO_upd ?_ (w_xor16 ?_ ?_) <;> first | with_reducible assumption) | decide) ⟨by first | omega | decide, by first | omega | decide⟩
      have h7b := h7.2
      with_reducible refine v_owe h7.1 ?_
      by_cases g8 : x5 = (0 : Int32)
      ·
        rw [if_pos g8, if_pos g8]
        have g8i : x5.toInt = 0 := q_eqI g8
        obtain ⟨a9, e10⟩ := q_nm (lx61 + 1 : Int32)
        rw [e10]
        have a9i : a9.toInt = lx61.toInt + 1 := by rw [← e10]; exact q_addI (x := lx61.toInt) (y := 1) rfl (by decide) (by omega) (by omega)
        exact ih _ _ (by first | with_reducible assumption | omega | (with_reducible refine wO_upd ?_ (w_and16 ?_) <;> first | with_reducible assumption) | (with_reducible refine wO_upd ?_ (w_or17 ?_ ?_) <;> first | with_reducible assumption) | (with_reducible refine wO_upd ?_ (w_xor16 ?_ ?_) <;> first | with_reducible assumption) | decide) (by first | with_reducible assumption | omega | (with_reducible refine wO_upd ?_ (w_and16 ?_) <;> first | with_reducible assumption) | (with_reducible refine wO_upd ?_ (w_or17 ?_ ?_) <;> first | with_reducible assumption) | (with_reducible refine wO_upd ?_ (w_xor16 ?_ ?_) <;> first | with_reducible assumption) | decide) (by first | with_reducible assumption | omega | (with_reducible refine wO_upd ?_ (w_and16 ?_) <;> first | with_reducible assumption) | (with_reducible refine wO_upd ?_ (w_or17 ?_ ?_) <;> first | with_reducible assumption) | (with_reducible refine wO_upd ?_ (w_xor16 ?_ ?_) <;> first | with_reducible assumption) | decide)
      ·
        rw [if_neg g8, if_neg g8]
        have g8i : x5.toInt ≠ 0 := q_neI g8
        by_cases g11 : x5 = (1 : Int32)
        ·
          rw [if_pos g11, if_pos g11]
          have g11i : x5.toInt = 1 := q_eqI g11
          obtain ⟨a12, e13⟩ := q_nm (lx61 + 1 : Int32)
          rw [e13]
          have a12i : a12.toInt = lx61.toInt + 1 := by rw [← e13]; exact q_addI (x := lx61.toInt) (y := 1) rfl (by decide) (by omega) (by omega)
          exact ih _ _ (by first | with_reducible assumption | omega | (with_reducible refine wO_upd ?_ (w_and16 ?_) <;> first | with_reducible assumption) | (with_reducible refine wO_upd ?_ (w_or17 ?_ ?_) <;> first | with_reducible assumption) | (with_reducible refine wO_upd ?_ (w_xor16 ?_ ?_) <;> first | with_reducible assumption) | decide) (by first | with_reducible assumption | omega | (with_reducible refine wO_upd ?_ (w_and16 ?_) <;> first | with_reducible assumption) | (with_reducible refine wO_upd ?_ (w_or17 ?_ ?_) <;> first | with_reducible assumption) | (with_reducible refine wO_upd ?_ (w_xor16 ?_ ?_) <;> first | with_reducible assumption) | decide) (by first | with_reducible assumption | omega | (with_reducible refine wO_upd ?_ (w_and16 ?_) <;> first | with_reducible assumption) | (with_reducible refine wO_upd ?_ (w_or17 ?_ ?_) <;> first | with_reducible assumption) | (with_reducible refine wO_upd ?_ (w_xor16 ?_ ?_) <;> first | with_reducible assumption) | decide)
        ·
          rw [if_neg g11, if_neg g11]
          have g11i : x5.toInt ≠ 1 := q_neI g11
          by_cases g14 : x5 = (2 : Int32)
          ·
            rw [if_pos g14, if_pos g14]
            have g14i : x5.toInt = 2 := q_eqI g14
            obtain ⟨a15, e16⟩ := q_nm (lx61 + 1 : Int32)
            rw [e16]
            have a15i : a15.toInt = lx61.toInt + 1 := by rw [← e16]; exact q_addI (x := lx61.toInt) (y := 1) rfl (by decide) (by omega) (by omega)
            exact ih _ _ (by first | with_reducible assumption | omega | (with_reducible refine wO_upd ?_ (w_and16 ?_) <;> first | with_reducible assumption) | (with_reducible refine wO_upd ?_ (w_or17 ?_ ?_) <;> first | with_reducible assumption) | (with_reducible refine wO_upd ?_ (w_xor16 ?_ ?_) <;> first | with_reducible assumption) | decide) (by first | with_reducible assumption | omega | (with_reducible refine wO_upd ?_ (w_and16 ?_) <;> first | with_reducible assumption) | (with_reducible refine wO_upd ?_ (w_or17 ?_ ?_) <;> first | with_reducible assumption) | (with_reducible refine wO_upd ?_ (w_xor16 ?_ ?_) <;> first | with_reducible assumption) | decide) (by first | with_reducible assumption | omega | (with_reducible refine wO_upd ?_ (w_and16 ?_) <;> first | with_reducible assumption) | (with_reducible refine wO_upd ?_ (w_or17 ?_ ?_) <;> first | with_reducible assumption) | (with_reducible refine wO_upd ?_ (w_xor16 ?_ ?_) <;> first | with_reducible assumption) | decide)
          ·
            rw [if_neg g14, if_neg g14]
            have g14i : x5.toInt ≠ 2 := q_neI g14
            obtain ⟨a17, e18⟩ := q_nm (lx61 + 1 : Int32)
            rw [e18]
            have a17i : a17.toInt = lx61.toInt + 1 := by rw [← e18]; exact q_addI (x := lx61.toInt) (y := 1) rfl (by decide) (by omega) (by omega)
            exact ih _ _ (by first | with_reducible assumption | omega | (with_reducible refine wO_upd ?_ (w_and16 ?_) <;> first | with_reducible assumption) | (with_reducible refine wO_upd ?_ (w_or17 ?_ ?_) <;> first | with_reducible assumption) | (with_reducible refine wO_upd ?_ (w_xor16 ?_ ?_) <;> first | with_reducible assumption) | decide) (by first | with_reducible assumption | omega | (with_reducible refine wO_upd ?_ (w_and16 ?_) <;> first | with_reducible assumption) | (with_reducible refine wO_upd ?_ (w_or17 ?_ ?_) <;> first | with_reducible assumption) | (with_reducible refine wO_upd ?_ (w_xor16 ?_ ?_) <;> first | with_reducible assumption) | decide) (by first | with_reducible assumption | omega | (with_reducible refine wO_upd ?_ (w_and16 ?_) <;> first | with_reducible assumption) | (with_reducible refine wO_upd ?_ (w_or17 ?_ ?_) <;> first | with_reducible assumption) | (with_reducible refine wO_upd ?_ (w_xor16 ?_ ?_) <;> first | with_reducible assumption) | decide)
theorem T_WR_combine {x2 : Int32} {x3 : Int32} {x4 : Int32} {x5 : Int32} {t0_0 : Int32} {t0_1 : Int32} {t0_2 : Int32} {t0_3 : Int32} {t0_4 : Int32} {t0_5 : Int32} {t0_6 : Int32} {t1_0 : (Nat → Int32)} {t2_0 : (Nat → Int32)} {t3_0 : (Nat → Int32)} {t4_0 : (Nat → Int32)} (hr : wR t1_0 t2_0) : (S_WR_combine x2 x3 x4 x5 t0_0 t0_1 t0_2 t0_3 t0_4 t0_5 t0_6 t1_0 t2_0 t3_0 t4_0) ∧ Q_WR_combine (F_WR_combine x2 x3 x4 x5 t0_0 t0_1 t0_2 t0_3 t0_4 t0_5 t0_6 t1_0 t2_0 t3_0 t4_0) := by
  have e0 : (0 : Int32).toInt = 0 := rfl
  have e128 : (128 : Int32).toInt = 128 := rfl
  unfold S_WR_combine F_WR_combine
  by_cases g1 : ((F_WR_no x2) : Int32) = (0 : Int32)
  ·
    rw [if_pos g1, if_pos g1]
    have g1r := w_no g1
    by_cases g2 : ((F_WR_no x3) : Int32) = (0 : Int32)
    ·
      rw [if_pos g2, if_pos g2]
      have g2r := w_no g2
      by_cases g3 : ((F_WR_no x4) : Int32) = (0 : Int32)
      ·
        rw [if_pos g3, if_pos g3]
        have g3r := w_no g3
        by_cases g4 : x5 < (0 : Int32)
        ·
          rw [if_pos g4, if_pos g4]
          have g4i : x5.toInt < 0 := q_ltI g4
          unfold S_WR_combine_J33 F_WR_combine_J33
          unfold S_WR_combine_J38 F_WR_combine_J38
          have g5 : ¬ ((1 : Int32) ≤ (0 : Int32)) := (by decide)
          rw [if_neg g5, if_neg g5]
          refine ⟨trivial, ?_⟩
          (unfold Q_WR_combine; dsimp only; first | with_reducible assumption | exact hr)
        ·
          rw [if_neg g4, if_neg g4]
          have g4i : 0 ≤ x5.toInt := q_nltI g4
          by_cases g6 : x5 ≤ (3 : Int32)
          ·
            rw [if_pos g6, if_pos g6]
            have g6i : x5.toInt ≤ 3 := q_leI g6
            unfold S_WR_combine_J38 F_WR_combine_J38
            have g7 : ((0 : Int32) ≤ (0 : Int32)) := (by decide)
            rw [if_pos g7, if_pos g7]
            exact v_cmb1 hr (by with_reducible assumption) (by with_reducible assumption) (by with_reducible assumption) _ _ _ (by decide) (by decide) R_cl
          ·
            rw [if_neg g6, if_neg g6]
            have g6i : 3 < x5.toInt := q_nleI g6
            unfold S_WR_combine_J33 F_WR_combine_J33
            unfold S_WR_combine_J38 F_WR_combine_J38
            have g8 : ¬ ((1 : Int32) ≤ (0 : Int32)) := (by decide)
            rw [if_neg g8, if_neg g8]
            refine ⟨trivial, ?_⟩
            (unfold Q_WR_combine; dsimp only; first | with_reducible assumption | exact hr)
      ·
        rw [if_neg g3, if_neg g3]
        unfold S_WR_combine_J33 F_WR_combine_J33
        unfold S_WR_combine_J38 F_WR_combine_J38
        have g9 : ¬ ((1 : Int32) ≤ (0 : Int32)) := (by decide)
        rw [if_neg g9, if_neg g9]
        refine ⟨trivial, ?_⟩
        (unfold Q_WR_combine; dsimp only; first | with_reducible assumption | exact hr)
    ·
      rw [if_neg g2, if_neg g2]
      unfold S_WR_combine_J33 F_WR_combine_J33
      unfold S_WR_combine_J38 F_WR_combine_J38
      have g10 : ¬ ((1 : Int32) ≤ (0 : Int32)) := (by decide)
      rw [if_neg g10, if_neg g10]
      refine ⟨trivial, ?_⟩
      (unfold Q_WR_combine; dsimp only; first | with_reducible assumption | exact hr)
  ·
    rw [if_neg g1, if_neg g1]
    unfold S_WR_combine_J33 F_WR_combine_J33
    unfold S_WR_combine_J38 F_WR_combine_J38
    have g11 : ¬ ((1 : Int32) ≤ (0 : Int32)) := (by decide)
    rw [if_neg g11, if_neg g11]
    refine ⟨trivial, ?_⟩
    (unfold Q_WR_combine; dsimp only; first | with_reducible assumption | exact hr)
theorem T_WR_compare {x2 : Int32} {x3 : Int32} {t0_0 : Int32} {t0_1 : Int32} {t0_2 : Int32} {t0_3 : Int32} {t0_4 : Int32} {t0_5 : Int32} {t0_6 : Int32} {t1_0 : (Nat → Int32)} {t2_0 : (Nat → Int32)} {t3_0 : (Nat → Int32)} {t4_0 : (Nat → Int32)} (hr : wR t1_0 t2_0) : (S_WR_compare x2 x3 t0_0 t0_1 t0_2 t0_3 t0_4 t0_5 t0_6 t1_0 t2_0 t3_0 t4_0) := by
  have e0 : (0 : Int32).toInt = 0 := rfl
  unfold S_WR_compare
  by_cases g1 : ((F_WR_no x2) : Int32) = (0 : Int32)
  ·
    rw [if_pos g1]
    have g1r := w_no g1
    by_cases g2 : ((F_WR_no x3) : Int32) = (0 : Int32)
    ·
      rw [if_pos g2]
      have g2r := w_no g2
      unfold S_WR_compare_J20
      have g3 : ((0 : Int32) ≤ (0 : Int32)) := (by decide)
      rw [if_pos g3]
      refine And.intro (by omega) ?_
      refine And.intro (by omega) ?_
      refine And.intro (by omega) ?_
      refine And.intro (by omega) ?_
      by_cases g4 : (t2_0 x2.toNatClampNeg : Int32) = (t2_0 x3.toNatClampNeg : Int32)
      ·
        rw [if_pos g4]
        have h5 := R_take  (x2 := x2) (t0_0 := (0 : Int32)) (t0_1 := t0_1) (t0_2 := t0_2) (t0_3 := t0_3) (t0_4 := t0_4) (t0_5 := t0_5) (t0_6 := t0_6) (t1_0 := t1_0) (t2_0 := t3_0) (by first | with_reducible assumption | with_reducible exact R_cl | (with_reducible apply R_cp; first | with_reducible assumption | with_reducible exact R_cl) | (with_reducible refine wO_upd ?_ w_m16; with_reducible assumption) | (with_reducible apply wR.mi <;> with_reducible assumption)  | omega | decide) (wR.o (by with_reducible assumption))
        have h5k := h5.2.1
        have h5v := h5.2
        with_reducible refine v_oweS h5.1 ?_
        have h6 := R_take  (x2 := x3) (t0_0 := (0 : Int32)) (t0_1 := t0_1) (t0_2 := t0_2) (t0_3 := t0_3) (t0_4 := t0_4) (t0_5 := t0_5) (t0_6 := t0_6) (t1_0 := t1_0) (t2_0 := t4_0) (by first | with_reducible assumption | with_reducible exact R_cl | (with_reducible apply R_cp; first | with_reducible assumption | with_reducible exact R_cl) | (with_reducible refine wO_upd ?_ w_m16; with_reducible assumption) | (with_reducible apply wR.mi <;> with_reducible assumption)  | omega | decide) (wR.o (by with_reducible assumption))
        have h6k := h6.2.1
        have h6v := h6.2
        with_reducible refine v_oweS h6.1 ?_
        have h7 := R_cmp4  (f := ((F_WR_take x2 (264 : Int32) (0 : Int32) t0_1 t0_2 t0_3 t0_4 t0_5 t0_6 t1_0 t3_0) : (Nat → Int32))) (g := ((F_WR_take x3 (264 : Int32) (0 : Int32) t0_1 t0_2 t0_3 t0_4 t0_5 t0_6 t1_0 t4_0) : (Nat → Int32))) (by first | with_reducible assumption | with_reducible exact R_cl | (with_reducible apply R_cp; first | with_reducible assumption | with_reducible exact R_cl) | (with_reducible refine wO_upd ?_ w_m16; with_reducible assumption) | (with_reducible apply wR.mi <;> with_reducible assumption)  | omega | decide) (by first | with_reducible assumption | with_reducible exact R_cl | (with_reducible apply R_cp; first | with_reducible assumption | with_reducible exact R_cl) | (with_reducible refine wO_upd ?_ w_m16; with_reducible assumption) | (with_reducible apply wR.mi <;> with_reducible assumption)  | omega | decide)
        have h7c := h7.2
        with_reducible refine v_oweS h7.1 ?_
        by_cases g8 : (t2_0 x2.toNatClampNeg : Int32) = (0 : Int32)
        ·
          rw [if_pos g8]
          exact trivial
        ·
          rw [if_neg g8]
          exact trivial
      ·
        rw [if_neg g4]
        by_cases g9 : (t2_0 x2.toNatClampNeg : Int32) = (0 : Int32)
        ·
          rw [if_pos g9]
          exact trivial
        ·
          rw [if_neg g9]
          exact trivial
    ·
      rw [if_neg g2]
      unfold S_WR_compare_J15
      unfold S_WR_compare_J20
      have g10 : ¬ ((1 : Int32) ≤ (0 : Int32)) := (by decide)
      rw [if_neg g10]
      exact trivial
  ·
    rw [if_neg g1]
    unfold S_WR_compare_J15
    unfold S_WR_compare_J20
    have g11 : ¬ ((1 : Int32) ≤ (0 : Int32)) := (by decide)
    rw [if_neg g11]
    exact trivial
theorem w_d16 {b : Int32} (h : 0 ≤ b.toInt ∧ b.toInt ≤ 2047) : 0 ≤ (b / 16).toInt ∧ (b / 16).toInt ≤ 127 := by
  rw [w_div16 h.1]
  omega
theorem v_tolL {x2 : Int32} {x3 : Int32} {t0_0 : Int32} {t0_1 : Int32} {t0_2 : Int32} {t0_3 : Int32} {t0_4 : Int32} {t0_5 : Int32} {t0_6 : Int32} {t1_0 : (Nat → Int32)} {t2_0 : (Nat → Int32)} {lx27 : Int32} {lx51 : Int32} (hr : wR t1_0 t2_0)(hx2 : 0 ≤ x2.toInt ∧ x2.toInt ≤ 10) : ∀ (n : Nat) (lx67 : Int32) (lx68 : Int64) (lx69 : Int64) (lx70 : Int64), (-1 ≤ lx67.toInt ∧ lx67.toInt ≤ 2047) → (lx67.toInt + 1 < (n : Int)) → (S_WR_told_L144 x2 x3 t0_0 t0_1 t0_2 t0_3 t0_4 t0_5 t0_6 t1_0 t2_0 lx27 lx51 n lx67 lx68 lx69 lx70) := by
  intro n
  induction n with
  | zero => intro lx67 lx68 lx69 lx70 h0 hm; exact absurd (show False by omega) id
  | succ n ih =>
    intro lx67 lx68 lx69 lx70 h0 hm
    have e0 : (0 : Int32).toInt = 0 := rfl
    rw [S_WR_told_L144.eq_2]
    by_cases g1 : lx67 < (0 : Int32)
    ·
      rw [if_pos g1]
      have g1i : lx67.toInt < 0 := q_ltI g1
      by_cases g2 : x3 = (2 : Int32)
      ·
        rw [if_pos g2]
        have g2i : x3.toInt = 2 := q_eqI g2
        exact trivial
      ·
        rw [if_neg g2]
        have g2i : x3.toInt ≠ 2 := q_neI g2
        by_cases g3 : x3 = (3 : Int32)
        ·
          rw [if_pos g3]
          have g3i : x3.toInt = 3 := q_eqI g3
          exact trivial
        ·
          rw [if_neg g3]
          have g3i : x3.toInt ≠ 3 := q_neI g3
          exact trivial
    ·
      rw [if_neg g1]
      have g1i : 0 ≤ lx67.toInt := q_nltI g1
      have h4 := R_limb  (x2 := x2) (x3 := (lx67 / 16 : Int32)) (t0_0 := lx27) (t0_1 := t0_1) (t0_2 := t0_2) (t0_3 := t0_3) (t0_4 := t0_4) (t0_5 := t0_5) (t0_6 := t0_6) (t1_0 := t1_0) (t2_0 := t2_0) (by first | with_reducible assumption | with_reducible exact R_cl | (with_reducible apply R_cp; first | with_reducible assumption | with_reducible exact R_cl) | (with_reducible refine wO_upd ?_ w_m16; with_reducible assumption) | (with_reducible apply wR.mi <;> with_reducible assumption)  | omega | decide) (by first | with_reducible assumption | with_reducible exact R_cl | (with_reducible apply R_cp; first | with_reducible assumption | with_reducible exact R_cl) | (with_reducible refine wO_upd ?_ w_m16; with_reducible assumption) | (with_reducible apply wR.mi <;> with_reducible assumption)  | omega | decide) (by first | (have := w_d16 (b := lx67) ⟨by omega, by omega⟩; omega) | decide)
      with_reducible refine v_oweS h4.1 ?_
      by_cases g5 : ((((F_WR_limb x2 (lx67 / 16 : Int32) lx27 t0_1 t0_2 t0_3 t0_4 t0_5 t0_6 t1_0 t2_0) : Int32) >>> ((lx67 - lx67 / 16 * 16 : Int32) &&& 31) : Int32) &&& 1 : Int32) = lx51
      ·
        rw [if_pos g5]
        unfold S_WR_told_J190
        unfold S_WR_told_J192
        rw [if_pos g5]
        unfold S_WR_told_J209
        by_cases g6 : ((((F_WR_limb x2 (lx67 / 16 : Int32) lx27 t0_1 t0_2 t0_3 t0_4 t0_5 t0_6 t1_0 t2_0) : Int32) >>> ((lx67 - lx67 / 16 * 16 : Int32) &&& 31) : Int32) &&& 1 : Int32) = (1 : Int32)
        ·
          rw [if_pos g6]
          refine And.intro (by rw [q_i2l rfl]; omega) ?_
          obtain ⟨a7, e8⟩ := q_nm (lx67 + (-1) : Int32)
          rw [e8]
          have a7i : a7.toInt = lx67.toInt + (-1) := by rw [← e8]; exact q_addI (x := lx67.toInt) (y := (-1)) rfl (by decide) (by omega) (by omega)
          exact ih _ _ _ _ (by first | with_reducible assumption | with_reducible exact R_cl | (with_reducible apply R_cp; first | with_reducible assumption | with_reducible exact R_cl) | (with_reducible refine wO_upd ?_ w_m16; with_reducible assumption) | (with_reducible apply wR.mi <;> with_reducible assumption)  | omega | decide) (by first | with_reducible assumption | with_reducible exact R_cl | (with_reducible apply R_cp; first | with_reducible assumption | with_reducible exact R_cl) | (with_reducible refine wO_upd ?_ w_m16; with_reducible assumption) | (with_reducible apply wR.mi <;> with_reducible assumption)  | omega | decide)
        ·
          rw [if_neg g6]
          obtain ⟨a9, e10⟩ := q_nm (lx67 + (-1) : Int32)
          rw [e10]
          have a9i : a9.toInt = lx67.toInt + (-1) := by rw [← e10]; exact q_addI (x := lx67.toInt) (y := (-1)) rfl (by decide) (by omega) (by omega)
          exact ih _ _ _ _ (by first | with_reducible assumption | with_reducible exact R_cl | (with_reducible apply R_cp; first | with_reducible assumption | with_reducible exact R_cl) | (with_reducible refine wO_upd ?_ w_m16; with_reducible assumption) | (with_reducible apply wR.mi <;> with_reducible assumption)  | omega | decide) (by first | with_reducible assumption | with_reducible exact R_cl | (with_reducible apply R_cp; first | with_reducible assumption | with_reducible exact R_cl) | (with_reducible refine wO_upd ?_ w_m16; with_reducible assumption) | (with_reducible apply wR.mi <;> with_reducible assumption)  | omega | decide)
      ·
        rw [if_neg g5]
        by_cases g11 : (lg_cmp lx70 0 : Int32) = (0 : Int32)
        ·
          rw [if_pos g11]
          unfold S_WR_told_J192
          rw [if_neg g5]
          unfold S_WR_told_J209
          by_cases g12 : ((((F_WR_limb x2 (lx67 / 16 : Int32) lx27 t0_1 t0_2 t0_3 t0_4 t0_5 t0_6 t1_0 t2_0) : Int32) >>> ((lx67 - lx67 / 16 * 16 : Int32) &&& 31) : Int32) &&& 1 : Int32) = (1 : Int32)
          ·
            rw [if_pos g12]
            refine And.intro (by rw [q_i2l rfl]; omega) ?_
            obtain ⟨a13, e14⟩ := q_nm (lx67 + (-1) : Int32)
            rw [e14]
            have a13i : a13.toInt = lx67.toInt + (-1) := by rw [← e14]; exact q_addI (x := lx67.toInt) (y := (-1)) rfl (by decide) (by omega) (by omega)
            obtain ⟨a15, e16⟩ := q_nm (lx67 + 1 : Int32)
            rw [e16]
            have a15i : a15.toInt = lx67.toInt + 1 := by rw [← e16]; exact q_addI (x := lx67.toInt) (y := 1) rfl (by decide) (by omega) (by omega)
            exact ih _ _ _ _ (by first | with_reducible assumption | with_reducible exact R_cl | (with_reducible apply R_cp; first | with_reducible assumption | with_reducible exact R_cl) | (with_reducible refine wO_upd ?_ w_m16; with_reducible assumption) | (with_reducible apply wR.mi <;> with_reducible assumption)  | omega | decide) (by first | with_reducible assumption | with_reducible exact R_cl | (with_reducible apply R_cp; first | with_reducible assumption | with_reducible exact R_cl) | (with_reducible refine wO_upd ?_ w_m16; with_reducible assumption) | (with_reducible apply wR.mi <;> with_reducible assumption)  | omega | decide)
          ·
            rw [if_neg g12]
            obtain ⟨a17, e18⟩ := q_nm (lx67 + (-1) : Int32)
            rw [e18]
            have a17i : a17.toInt = lx67.toInt + (-1) := by rw [← e18]; exact q_addI (x := lx67.toInt) (y := (-1)) rfl (by decide) (by omega) (by omega)
            obtain ⟨a19, e20⟩ := q_nm (lx67 + 1 : Int32)
            rw [e20]
            have a19i : a19.toInt = lx67.toInt + 1 := by rw [← e20]; exact q_addI (x := lx67.toInt) (y := 1) rfl (by decide) (by omega) (by omega)
            exact ih _ _ _ _ (by first | with_reducible assumption | with_reducible exact R_cl | (with_reducible apply R_cp; first | with_reducible assumption | with_reducible exact R_cl) | (with_reducible refine wO_upd ?_ w_m16; with_reducible assumption) | (with_reducible apply wR.mi <;> with_reducible assumption)  | omega | decide) (by first | with_reducible assumption | with_reducible exact R_cl | (with_reducible apply R_cp; first | with_reducible assumption | with_reducible exact R_cl) | (with_reducible refine wO_upd ?_ w_m16; with_reducible assumption) | (with_reducible apply wR.mi <;> with_reducible assumption)  | omega | decide)
        ·
          rw [if_neg g11]
          unfold S_WR_told_J190
          unfold S_WR_told_J192
          rw [if_neg g5]
          unfold S_WR_told_J209
          by_cases g21 : ((((F_WR_limb x2 (lx67 / 16 : Int32) lx27 t0_1 t0_2 t0_3 t0_4 t0_5 t0_6 t1_0 t2_0) : Int32) >>> ((lx67 - lx67 / 16 * 16 : Int32) &&& 31) : Int32) &&& 1 : Int32) = (1 : Int32)
          ·
            rw [if_pos g21]
            refine And.intro (by rw [q_i2l rfl]; omega) ?_
            obtain ⟨a22, e23⟩ := q_nm (lx67 + (-1) : Int32)
            rw [e23]
            have a22i : a22.toInt = lx67.toInt + (-1) := by rw [← e23]; exact q_addI (x := lx67.toInt) (y := (-1)) rfl (by decide) (by omega) (by omega)
            exact ih _ _ _ _ (by first | with_reducible assumption | with_reducible exact R_cl | (with_reducible apply R_cp; first | with_reducible assumption | with_reducible exact R_cl) | (with_reducible refine wO_upd ?_ w_m16; with_reducible assumption) | (with_reducible apply wR.mi <;> with_reducible assumption)  | omega | decide) (by first | with_reducible assumption | with_reducible exact R_cl | (with_reducible apply R_cp; first | with_reducible assumption | with_reducible exact R_cl) | (with_reducible refine wO_upd ?_ w_m16; with_reducible assumption) | (with_reducible apply wR.mi <;> with_reducible assumption)  | omega | decide)
          ·
            rw [if_neg g21]
            obtain ⟨a24, e25⟩ := q_nm (lx67 + (-1) : Int32)
            rw [e25]
            have a24i : a24.toInt = lx67.toInt + (-1) := by rw [← e25]; exact q_addI (x := lx67.toInt) (y := (-1)) rfl (by decide) (by omega) (by omega)
            exact ih _ _ _ _ (by first | with_reducible assumption | with_reducible exact R_cl | (with_reducible apply R_cp; first | with_reducible assumption | with_reducible exact R_cl) | (with_reducible refine wO_upd ?_ w_m16; with_reducible assumption) | (with_reducible apply wR.mi <;> with_reducible assumption)  | omega | decide) (by first | with_reducible assumption | with_reducible exact R_cl | (with_reducible apply R_cp; first | with_reducible assumption | with_reducible exact R_cl) | (with_reducible refine wO_upd ?_ w_m16; with_reducible assumption) | (with_reducible apply wR.mi <;> with_reducible assumption)  | omega | decide)
theorem T_WR_told {x2 : Int32} {x3 : Int32} {t0_0 : Int32} {t0_1 : Int32} {t0_2 : Int32} {t0_3 : Int32} {t0_4 : Int32} {t0_5 : Int32} {t0_6 : Int32} {t1_0 : (Nat → Int32)} {t2_0 : (Nat → Int32)} (hr : wR t1_0 t2_0) : (S_WR_told x2 x3 t0_0 t0_1 t0_2 t0_3 t0_4 t0_5 t0_6 t1_0 t2_0) := by
  have e0 : (0 : Int32).toInt = 0 := rfl
  unfold S_WR_told
  by_cases g1 : ((F_WR_no x2) : Int32) = (0 : Int32)
  ·
    rw [if_pos g1]
    have g1r := w_no g1
    by_cases g2 : x3 < (0 : Int32)
    ·
      rw [if_pos g2]
      have g2i : x3.toInt < 0 := q_ltI g2
      unfold S_WR_told_J17
      unfold S_WR_told_J22
      have g3 : ¬ ((1 : Int32) ≤ (0 : Int32)) := (by decide)
      rw [if_neg g3]
      exact trivial
    ·
      rw [if_neg g2]
      have g2i : 0 ≤ x3.toInt := q_nltI g2
      by_cases g4 : x3 ≤ (4 : Int32)
      ·
        rw [if_pos g4]
        have g4i : x3.toInt ≤ 4 := q_leI g4
        unfold S_WR_told_J22
        have g5 : ((0 : Int32) ≤ (0 : Int32)) := (by decide)
        rw [if_pos g5]
        by_cases g6 : x3 = (0 : Int32)
        ·
          rw [if_pos g6]
          have g6i : x3.toInt = 0 := q_eqI g6
          have h7 := R_limb  (x2 := x2) (x3 := (0 : Int32)) (t0_0 := (0 : Int32)) (t0_1 := t0_1) (t0_2 := t0_2) (t0_3 := t0_3) (t0_4 := t0_4) (t0_5 := t0_5) (t0_6 := t0_6) (t1_0 := t1_0) (t2_0 := t2_0) (by first | with_reducible assumption | with_reducible exact R_cl | (with_reducible apply R_cp; first | with_reducible assumption | with_reducible exact R_cl) | (with_reducible refine wO_upd ?_ w_m16; with_reducible assumption) | (with_reducible apply wR.mi <;> with_reducible assumption)  | omega | decide) (by first | with_reducible assumption | with_reducible exact R_cl | (with_reducible apply R_cp; first | with_reducible assumption | with_reducible exact R_cl) | (with_reducible refine wO_upd ?_ w_m16; with_reducible assumption) | (with_reducible apply wR.mi <;> with_reducible assumption)  | omega | decide) (by first | (have := w_d16 (b := lx67) ⟨by omega, by omega⟩; omega) | decide)
          with_reducible refine v_oweS h7.1 ?_
          have h8 := R_limb  (x2 := x2) (x3 := (1 : Int32)) (t0_0 := (0 : Int32)) (t0_1 := t0_1) (t0_2 := t0_2) (t0_3 := t0_3) (t0_4 := t0_4) (t0_5 := t0_5) (t0_6 := t0_6) (t1_0 := t1_0) (t2_0 := t2_0) (by first | with_reducible assumption | with_reducible exact R_cl | (with_reducible apply R_cp; first | with_reducible assumption | with_reducible exact R_cl) | (with_reducible refine wO_upd ?_ w_m16; with_reducible assumption) | (with_reducible apply wR.mi <;> with_reducible assumption)  | omega | decide) (by first | with_reducible assumption | with_reducible exact R_cl | (with_reducible apply R_cp; first | with_reducible assumption | with_reducible exact R_cl) | (with_reducible refine wO_upd ?_ w_m16; with_reducible assumption) | (with_reducible apply wR.mi <;> with_reducible assumption)  | omega | decide) (by first | (have := w_d16 (b := lx67) ⟨by omega, by omega⟩; omega) | decide)
          with_reducible refine v_oweS h8.1 ?_
          have h9 := R_limb  (x2 := x2) (x3 := (2 : Int32)) (t0_0 := (0 : Int32)) (t0_1 := t0_1) (t0_2 := t0_2) (t0_3 := t0_3) (t0_4 := t0_4) (t0_5 := t0_5) (t0_6 := t0_6) (t1_0 := t1_0) (t2_0 := t2_0) (by first | with_reducible assumption | with_reducible exact R_cl | (with_reducible apply R_cp; first | with_reducible assumption | with_reducible exact R_cl) | (with_reducible refine wO_upd ?_ w_m16; with_reducible assumption) | (with_reducible apply wR.mi <;> with_reducible assumption)  | omega | decide) (by first | with_reducible assumption | with_reducible exact R_cl | (with_reducible apply R_cp; first | with_reducible assumption | with_reducible exact R_cl) | (with_reducible refine wO_upd ?_ w_m16; with_reducible assumption) | (with_reducible apply wR.mi <;> with_reducible assumption)  | omega | decide) (by first | (have := w_d16 (b := lx67) ⟨by omega, by omega⟩; omega) | decide)
          with_reducible refine v_oweS h9.1 ?_
          have h10 := R_limb  (x2 := x2) (x3 := (3 : Int32)) (t0_0 := (0 : Int32)) (t0_1 := t0_1) (t0_2 := t0_2) (t0_3 := t0_3) (t0_4 := t0_4) (t0_5 := t0_5) (t0_6 := t0_6) (t1_0 := t1_0) (t2_0 := t2_0) (by first | with_reducible assumption | with_reducible exact R_cl | (with_reducible apply R_cp; first | with_reducible assumption | with_reducible exact R_cl) | (with_reducible refine wO_upd ?_ w_m16; with_reducible assumption) | (with_reducible apply wR.mi <;> with_reducible assumption)  | omega | decide) (by first | with_reducible assumption | with_reducible exact R_cl | (with_reducible apply R_cp; first | with_reducible assumption | with_reducible exact R_cl) | (with_reducible refine wO_upd ?_ w_m16; with_reducible assumption) | (with_reducible apply wR.mi <;> with_reducible assumption)  | omega | decide) (by first | (have := w_d16 (b := lx67) ⟨by omega, by omega⟩; omega) | decide)
          with_reducible refine v_oweS h10.1 ?_
          exact trivial
        ·
          rw [if_neg g6]
          have g6i : x3.toInt ≠ 0 := q_neI g6
          by_cases g11 : x3 = (1 : Int32)
          ·
            rw [if_pos g11]
            have g11i : x3.toInt = 1 := q_eqI g11
            have h12 := R_isZero  (x2 := x2) (t0_0 := (0 : Int32)) (t0_1 := t0_1) (t0_2 := t0_2) (t0_3 := t0_3) (t0_4 := t0_4) (t0_5 := t0_5) (t0_6 := t0_6) (t1_0 := t1_0) (by first | with_reducible assumption | with_reducible exact R_cl | (with_reducible apply R_cp; first | with_reducible assumption | with_reducible exact R_cl) | (with_reducible refine wO_upd ?_ w_m16; with_reducible assumption) | (with_reducible apply wR.mi <;> with_reducible assumption)  | omega | decide) (wR.o (by with_reducible assumption))
            have h12z := h12.2
            with_reducible refine v_oweS h12.1 ?_
            by_cases g13 : ((F_WR_isZero x2 (0 : Int32) t0_1 t0_2 t0_3 t0_4 t0_5 t0_6 t1_0) : Int32) = (0 : Int32)
            ·
              rw [if_pos g13]
              have g13z := w_wz g13 (by with_reducible assumption)
              refine And.intro (by omega) ?_
              refine And.intro (by omega) ?_
              by_cases g14 : (t2_0 x2.toNatClampNeg : Int32) = (0 : Int32)
              ·
                rw [if_pos g14]
                exact trivial
              ·
                rw [if_neg g14]
                exact trivial
            ·
              rw [if_neg g13]
              exact trivial
          ·
            rw [if_neg g11]
            have g11i : x3.toInt ≠ 1 := q_neI g11
            refine And.intro (by omega) ?_
            refine And.intro (by omega) ?_
            by_cases g15 : (t2_0 x2.toNatClampNeg : Int32) = (0 : Int32)
            ·
              rw [if_pos g15]
              unfold S_WR_told_J127
              exact v_tolL hr (by with_reducible assumption) _ _ _ _ _ (by decide) (by decide)
            ·
              rw [if_neg g15]
              unfold S_WR_told_J127
              exact v_tolL hr (by with_reducible assumption) _ _ _ _ _ (by decide) (by decide)
      ·
        rw [if_neg g4]
        have g4i : 4 < x3.toInt := q_nleI g4
        unfold S_WR_told_J17
        unfold S_WR_told_J22
        have g16 : ¬ ((1 : Int32) ≤ (0 : Int32)) := (by decide)
        rw [if_neg g16]
        exact trivial
  ·
    rw [if_neg g1]
    unfold S_WR_told_J17
    unfold S_WR_told_J22
    have g17 : ¬ ((1 : Int32) ≤ (0 : Int32)) := (by decide)
    rw [if_neg g17]
    exact trivial

/-! WholeRows: read, written, shift -/
theorem w_dig {x : Int32} : 0 ≤ (F_WR_digit x).toInt ∧ (F_WR_digit x).toInt ≤ 99 := by
  have e1 : (48 : Int32).toInt = 48 := rfl
  have e2 : (57 : Int32).toInt = 57 := rfl
  have e3 : (97 : Int32).toInt = 97 := rfl
  have e4 : (122 : Int32).toInt = 122 := rfl
  have e5 : (65 : Int32).toInt = 65 := rfl
  have e6 : (90 : Int32).toInt = 90 := rfl
  have e9 : (99 : Int32).toInt = 99 := rfl
  have l41 : 0 ≤ (F_WR_digit_J41 x).toInt ∧ (F_WR_digit_J41 x).toInt ≤ 99 := by
    unfold F_WR_digit_J41
    by_cases h1 : x < 65
    · rw [if_pos h1]; omega
    · rw [if_neg h1]
      by_cases h2 : 90 < x
      · rw [if_pos h2]; omega
      · rw [if_neg h2]
        have a := q_nltI h1
        have b := q_nltI h2
        have f1 : (x - 65 : Int32).toInt = x.toInt - 65 := q_subI rfl e5 (by omega) (by omega)
        have f2 : (x - 65 + 10 : Int32).toInt = (x.toInt - 65) + 10 := q_addI (y := 10) f1 (by decide) (by omega) (by omega)
        omega
  have l19 : 0 ≤ (F_WR_digit_J19 x).toInt ∧ (F_WR_digit_J19 x).toInt ≤ 99 := by
    unfold F_WR_digit_J19
    by_cases h1 : x < 97
    · rw [if_pos h1]; exact l41
    · rw [if_neg h1]
      by_cases h2 : 122 < x
      · rw [if_pos h2]; exact l41
      · rw [if_neg h2]
        have a := q_nltI h1
        have b := q_nltI h2
        have f1 : (x - 97 : Int32).toInt = x.toInt - 97 := q_subI rfl e3 (by omega) (by omega)
        have f2 : (x - 97 + 10 : Int32).toInt = (x.toInt - 97) + 10 := q_addI (y := 10) f1 (by decide) (by omega) (by omega)
        omega
  unfold F_WR_digit
  by_cases h1 : x < 48
  · rw [if_pos h1]; exact l19
  · rw [if_neg h1]
    by_cases h2 : 57 < x
    · rw [if_pos h2]; exact l19
    · rw [if_neg h2]
      have a := q_nltI h1
      have b := q_nltI h2
      have f1 : (x - 48 : Int32).toInt = x.toInt - 48 := q_subI rfl e1 (by omega) (by omega)
      omega
theorem R_growD {y x : Int32} {f : Nat → Int32} (hy : 0 ≤ y.toInt ∧ y.toInt ≤ 65536) (ho : wO f 264) : wO (F_WR_grow 264 y (F_WR_digit x) f) 264 := (R_grow (N := 264) (by decide) (by decide) hy ⟨w_dig.1, by have := (w_dig (x := x)).2; omega⟩ ho).1
theorem R_shr4 {y : Int32} {f : Nat → Int32} (hy : 0 < y.toInt ∧ y.toInt ≤ 65536) (ho : wO f 264) : S_WR_shrink 264 y f ∧ wH 264 y.toInt (wV f 264) (F_WR_shrink 264 y f) := R_shrink (N := 264) (by decide) (by decide) hy ho
/-- what is left to be written is short enough -/
def wPw (k : Int32) (v : Int) : Prop := v < 2 ^ (2048 - k.toInt).toNat
theorem w_wr {k k1 : Int32} {v v1 y d : Int} (hp : wPw k v) (hk : 0 ≤ k.toInt) (hk2 : k.toInt ≤ 2048) (h1 : k1.toInt = k.toInt + 1) (hy : 2 ≤ y) (hd : 0 ≤ d) (h0 : 0 ≤ v1) (e : wE (v1 * y + d) v) (hv : 0 < v ∨ k.toInt = 0) : wPw k1 v1 ∧ k.toInt < 2048 := by
  have hp : v < 2 ^ (2048 - k.toInt).toNat := hp
  have e : v1 * y + d = v := e
  have h2 := Int.mul_le_mul_of_nonneg_left hy h0
  have kl : k.toInt < 2048 := by
    rcases hv with hv | hv
    · by_cases c : k.toInt < 2048
      · exact c
      · have : (2048 - k.toInt).toNat = 0 := by omega
        rw [this, Int.pow_zero] at hp
        omega
    · omega
  refine ⟨?_, kl⟩
  show v1 < 2 ^ (2048 - k1.toInt).toNat
  have e3 : (2048 - k.toInt).toNat = (2048 - k1.toInt).toNat + 1 := by omega
  rw [e3, Int.pow_succ] at hp
  generalize (2 : Int) ^ (2048 - k1.toInt).toNat = P at hp ⊢
  omega
theorem w_wr0 {k : Nat → Int32} {x : Int32} {r : Nat → Int32} (hx : 0 ≤ x.toInt ∧ x.toInt ≤ 10) (ho : wO k 1408) (h : wK (wVk k x) r) : wPw 0 (wV r 264) := by
  have h1 : wV r 264 = wVk k x := h.2
  show _ < _
  have h2 := (wVk_nn hx ho).2
  rw [h1]
  rw [w_p16] at h2
  exact h2
def Q_WR_read (p : Int32 × Int32 × Int32 × Int32 × Int32 × Int32 × Int32 × (Nat → Int32) × (Nat → Int32) × (Nat → Int32)) : Prop := wR p.2.2.2.2.2.2.2.1 p.2.2.2.2.2.2.2.2.1
theorem v_rd1 {K_F_WR_read_L90 : Int32 → Int32 → (Int32 × Int32 × Int32 × Int32 × Int32 × Int32 × Int32 × (Nat → Int32) × (Nat → Int32) × (Nat → Int32))} {x2 : Int32} {x3 : Int32} {t0_0 : Int32} {t0_1 : Int32} {t0_2 : Int32} {t0_3 : Int32} {t0_4 : Int32} {t0_5 : Int32} {t0_6 : Int32} {t1_0 : (Nat → Int32)} {t2_0 : (Nat → Int32)} {t3_0 : (Nat → Int32)} {t4_0 : (Nat → Int32)} {lx33 : Int32} {lx51 : Int32} {lx66 : Int32} {lx85 : Int32} {lx86 : Int32} {K_S_WR_read_L90 : Int32 → Int32 → Prop} (hr : wR t2_0 t3_0) (hl : 0 ≤ t0_2.toInt ∧ t0_2.toInt ≤ 4100)(hx2 : 0 ≤ x2.toInt ∧ x2.toInt ≤ 10)(hx3 : 2 ≤ x3.toInt ∧ x3.toInt ≤ 36) : ∀ (n : Nat) (lx115 : Int32) (lx116 : (Nat → Int32)), (0 ≤ lx115.toInt ∧ lx115.toInt ≤ 4100) → (4100 - lx115.toInt < (n : Int)) → (wO lx116 264) → (S_WR_read_L149 K_S_WR_read_L90 x2 x3 t0_0 t0_1 t0_2 t0_3 t0_4 t0_5 t0_6 t1_0 t2_0 t3_0 t4_0 lx33 lx51 lx66 lx85 lx86 n lx115 lx116) ∧ Q_WR_read (F_WR_read_L149 K_F_WR_read_L90 x2 x3 t0_0 t0_1 t0_2 t0_3 t0_4 t0_5 t0_6 t1_0 t2_0 t3_0 t4_0 lx33 lx51 lx66 lx85 lx86 n lx115 lx116) := by
  intro n
  induction n with
  | zero => intro lx115 lx116 h0 hm ho; exact absurd (show False by omega) id
  | succ n ih =>
    intro lx115 lx116 h0 hm ho
    rw [S_WR_read_L149.eq_2, F_WR_read_L149.eq_2]
    by_cases g1 : t0_2 ≤ lx115
    ·
      rw [if_pos g1, if_pos g1]
      have g1i : t0_2.toInt ≤ lx115.toInt := q_leI g1
      by_cases g2 : (t1_0 (0 : Int32).toNatClampNeg : Int32) = (45 : Int32)
      ·
        rw [if_pos g2, if_pos g2]
        have h3 := R_store  (x2 := x2) (t0_0 := lx86) (t0_1 := t0_1) (t0_2 := t0_2) (t0_3 := (1 : Int32)) (t0_4 := t0_4) (t0_5 := t0_5) (t0_6 := t0_6) (t1_0 := t2_0) (t2_0 := t3_0) (t3_0 := lx116) (by first | with_reducible assumption | with_reducible exact R_cl | (with_reducible apply R_cp; first | with_reducible assumption | with_reducible exact R_cl) | (with_reducible refine wO_upd ?_ w_m16; with_reducible assumption) | (with_reducible apply wR.mi <;> with_reducible assumption)  | omega | decide) (by first | with_reducible assumption | with_reducible exact R_cl | (with_reducible apply R_cp; first | with_reducible assumption | with_reducible exact R_cl) | (with_reducible refine wO_upd ?_ w_m16; with_reducible assumption) | (with_reducible apply wR.mi <;> with_reducible assumption)  | omega | decide) (by first | with_reducible assumption | with_reducible exact R_cl | (with_reducible apply R_cp; first | with_reducible assumption | with_reducible exact R_cl) | (with_reducible refine wO_upd ?_ w_m16; with_reducible assumption) | (with_reducible apply wR.mi <;> with_reducible assumption)  | omega | decide)
        have h3r := h3.2
        with_reducible refine v_owe h3.1 ?_
        replace h3 := h3.2
        generalize F_WR_store x2 lx86 t0_1 t0_2 (1 : Int32) t0_4 t0_5 t0_6 t2_0 t3_0 lx116 = p218 at *
        unfold S_WR_read_c223_7 F_WR_read_c223_7
        refine ⟨trivial, ?_⟩
        (unfold Q_WR_read; dsimp only; first | with_reducible assumption | exact hr)
      ·
        rw [if_neg g2, if_neg g2]
        have h4 := R_store  (x2 := x2) (t0_0 := lx86) (t0_1 := t0_1) (t0_2 := t0_2) (t0_3 := (0 : Int32)) (t0_4 := t0_4) (t0_5 := t0_5) (t0_6 := t0_6) (t1_0 := t2_0) (t2_0 := t3_0) (t3_0 := lx116) (by first | with_reducible assumption | with_reducible exact R_cl | (with_reducible apply R_cp; first | with_reducible assumption | with_reducible exact R_cl) | (with_reducible refine wO_upd ?_ w_m16; with_reducible assumption) | (with_reducible apply wR.mi <;> with_reducible assumption)  | omega | decide) (by first | with_reducible assumption | with_reducible exact R_cl | (with_reducible apply R_cp; first | with_reducible assumption | with_reducible exact R_cl) | (with_reducible refine wO_upd ?_ w_m16; with_reducible assumption) | (with_reducible apply wR.mi <;> with_reducible assumption)  | omega | decide) (by first | with_reducible assumption | with_reducible exact R_cl | (with_reducible apply R_cp; first | with_reducible assumption | with_reducible exact R_cl) | (with_reducible refine wO_upd ?_ w_m16; with_reducible assumption) | (with_reducible apply wR.mi <;> with_reducible assumption)  | omega | decide)
        have h4r := h4.2
        with_reducible refine v_owe h4.1 ?_
        replace h4 := h4.2
        generalize F_WR_store x2 lx86 t0_1 t0_2 (0 : Int32) t0_4 t0_5 t0_6 t2_0 t3_0 lx116 = p168 at *
        unfold S_WR_read_c223 F_WR_read_c223
        refine ⟨trivial, ?_⟩
        (unfold Q_WR_read; dsimp only; first | with_reducible assumption | exact hr)
    ·
      rw [if_neg g1, if_neg g1]
      have g1i : lx115.toInt < t0_2.toInt := q_nleI g1
      by_cases g5 : ((F_WR_size (264 : Int32) ((F_WR_grow (264 : Int32) x3 ((F_WR_digit (t1_0 lx115.toNatClampNeg : Int32)) : Int32) lx116) : (Nat → Int32))) : Int32) ≤ (128 : Int32)
      ·
        rw [if_pos g5, if_pos g5]
        obtain ⟨a6, e7⟩ := q_nm (lx115 + 1 : Int32)
        rw [e7]
        have a6i : a6.toInt = lx115.toInt + 1 := by rw [← e7]; exact q_addI (x := lx115.toInt) (y := 1) rfl (by decide) (by omega) (by omega)
        exact ih _ _ ⟨by omega, by omega⟩ (by omega) (R_growD ⟨by omega, by omega⟩ ho)
      ·
        rw [if_neg g5, if_neg g5]
        refine ⟨trivial, ?_⟩
        (unfold Q_WR_read; dsimp only; first | with_reducible assumption | exact hr)
theorem v_rd2 {x2 : Int32} {x3 : Int32} {t0_0 : Int32} {t0_1 : Int32} {t0_2 : Int32} {t0_3 : Int32} {t0_4 : Int32} {t0_5 : Int32} {t0_6 : Int32} {t1_0 : (Nat → Int32)} {t2_0 : (Nat → Int32)} {t3_0 : (Nat → Int32)} {t4_0 : (Nat → Int32)} {lx33 : Int32} {lx51 : Int32} {lx66 : Int32} (hr : wR t2_0 t3_0) (hl : 0 ≤ t0_2.toInt ∧ t0_2.toInt ≤ 4100)(hx2 : 0 ≤ x2.toInt ∧ x2.toInt ≤ 10)(hx3 : 2 ≤ x3.toInt ∧ x3.toInt ≤ 36)(h51 : 0 ≤ lx51.toInt ∧ lx51.toInt ≤ 1) : ∀ (n : Nat) (lx85 : Int32) (lx86 : Int32), (0 ≤ lx85.toInt ∧ lx85.toInt ≤ 4100) → (4100 - lx85.toInt < (n : Int)) → (S_WR_read_L90 x2 x3 t0_0 t0_1 t0_2 t0_3 t0_4 t0_5 t0_6 t1_0 t2_0 t3_0 t4_0 lx33 lx51 lx66 n lx85 lx86) ∧ Q_WR_read (F_WR_read_L90 x2 x3 t0_0 t0_1 t0_2 t0_3 t0_4 t0_5 t0_6 t1_0 t2_0 t3_0 t4_0 lx33 lx51 lx66 n lx85 lx86) := by
  intro n
  induction n with
  | zero => intro lx85 lx86 h0 hm; exact absurd (show False by omega) id
  | succ n ih =>
    intro lx85 lx86 h0 hm
    rw [S_WR_read_L90.eq_2, F_WR_read_L90.eq_2]
    by_cases g1 : t0_2 ≤ lx85
    ·
      rw [if_pos g1, if_pos g1]
      have g1i : t0_2.toInt ≤ lx85.toInt := q_leI g1
      by_cases g2 : lx86 ≤ (0 : Int32)
      ·
        rw [if_pos g2, if_pos g2]
        have g2i : lx86.toInt ≤ 0 := q_leI g2
        exact v_rd1 hr hl hx2 hx3 _ _ _ ⟨by omega, by omega⟩ (by omega) R_cl
      ·
        rw [if_neg g2, if_neg g2]
        have g2i : 0 < lx86.toInt := q_nleI g2
        refine ⟨trivial, ?_⟩
        (unfold Q_WR_read; dsimp only; first | with_reducible assumption | exact hr)
    ·
      rw [if_neg g1, if_neg g1]
      have g1i : lx85.toInt < t0_2.toInt := q_nleI g1
      by_cases g3 : ((F_WR_digit (t1_0 lx85.toNatClampNeg : Int32)) : Int32) < x3
      ·
        rw [if_pos g3, if_pos g3]
        obtain ⟨a4, e5⟩ := q_nm (lx85 + 1 : Int32)
        rw [e5]
        have a4i : a4.toInt = lx85.toInt + 1 := by rw [← e5]; exact q_addI (x := lx85.toInt) (y := 1) rfl (by decide) (by omega) (by omega)
        exact ih _ _ (by first | with_reducible assumption | with_reducible exact R_cl | (with_reducible apply R_cp; first | with_reducible assumption | with_reducible exact R_cl) | (with_reducible refine wO_upd ?_ w_m16; with_reducible assumption) | (with_reducible apply wR.mi <;> with_reducible assumption)  | omega | decide) (by first | with_reducible assumption | with_reducible exact R_cl | (with_reducible apply R_cp; first | with_reducible assumption | with_reducible exact R_cl) | (with_reducible refine wO_upd ?_ w_m16; with_reducible assumption) | (with_reducible apply wR.mi <;> with_reducible assumption)  | omega | decide)
      ·
        rw [if_neg g3, if_neg g3]
        obtain ⟨a6, e7⟩ := q_nm (lx85 + 1 : Int32)
        rw [e7]
        have a6i : a6.toInt = lx85.toInt + 1 := by rw [← e7]; exact q_addI (x := lx85.toInt) (y := 1) rfl (by decide) (by omega) (by omega)
        exact ih _ _ (by first | with_reducible assumption | with_reducible exact R_cl | (with_reducible apply R_cp; first | with_reducible assumption | with_reducible exact R_cl) | (with_reducible refine wO_upd ?_ w_m16; with_reducible assumption) | (with_reducible apply wR.mi <;> with_reducible assumption)  | omega | decide) (by first | with_reducible assumption | with_reducible exact R_cl | (with_reducible apply R_cp; first | with_reducible assumption | with_reducible exact R_cl) | (with_reducible refine wO_upd ?_ w_m16; with_reducible assumption) | (with_reducible apply wR.mi <;> with_reducible assumption)  | omega | decide)
theorem T_WR_read {x2 : Int32} {x3 : Int32} {t0_0 : Int32} {t0_1 : Int32} {t0_2 : Int32} {t0_3 : Int32} {t0_4 : Int32} {t0_5 : Int32} {t0_6 : Int32} {t1_0 : (Nat → Int32)} {t2_0 : (Nat → Int32)} {t3_0 : (Nat → Int32)} {t4_0 : (Nat → Int32)} (hr : wR t2_0 t3_0) (hl : 0 ≤ t0_2.toInt ∧ t0_2.toInt ≤ 4100) : (S_WR_read x2 x3 t0_0 t0_1 t0_2 t0_3 t0_4 t0_5 t0_6 t1_0 t2_0 t3_0 t4_0) ∧ Q_WR_read (F_WR_read x2 x3 t0_0 t0_1 t0_2 t0_3 t0_4 t0_5 t0_6 t1_0 t2_0 t3_0 t4_0) := by
  have e0 : (0 : Int32).toInt = 0 := rfl
  have e2 : (2 : Int32).toInt = 2 := rfl
  have e36 : (36 : Int32).toInt = 36 := rfl
  unfold S_WR_read F_WR_read
  by_cases g1 : ((F_WR_no x2) : Int32) = (0 : Int32)
  ·
    rw [if_pos g1, if_pos g1]
    have g1r := w_no g1
    by_cases g2 : x3 < (2 : Int32)
    ·
      rw [if_pos g2, if_pos g2]
      have g2i : x3.toInt < 2 := q_ltI g2
      unfold S_WR_read_J19 F_WR_read_J19
      unfold S_WR_read_J24 F_WR_read_J24
      have g3 : ¬ ((1 : Int32) ≤ (0 : Int32)) := (by decide)
      rw [if_neg g3, if_neg g3]
      refine ⟨trivial, ?_⟩
      (unfold Q_WR_read; dsimp only; first | with_reducible assumption | exact hr)
    ·
      rw [if_neg g2, if_neg g2]
      have g2i : 2 ≤ x3.toInt := q_nltI g2
      by_cases g4 : x3 ≤ (36 : Int32)
      ·
        rw [if_pos g4, if_pos g4]
        have g4i : x3.toInt ≤ 36 := q_leI g4
        unfold S_WR_read_J24 F_WR_read_J24
        have g5 : ((0 : Int32) ≤ (0 : Int32)) := (by decide)
        rw [if_pos g5, if_pos g5]
        by_cases g6 : t0_2 ≤ (0 : Int32)
        ·
          rw [if_pos g6, if_pos g6]
          have g6i : t0_2.toInt ≤ 0 := q_leI g6
          unfold S_WR_read_J68 F_WR_read_J68
          unfold S_WR_read_J69 F_WR_read_J69
          by_cases g7 : (0 : Int32) = t0_2
          ·
            rw [if_pos g7, if_pos g7]
            unfold S_WR_read_J84 F_WR_read_J84
            exact v_rd2 hr hl (by with_reducible assumption) ⟨by omega, by omega⟩ (by decide) _ _ _ (by decide) (by decide)
          ·
            rw [if_neg g7, if_neg g7]
            unfold S_WR_read_J84 F_WR_read_J84
            exact v_rd2 hr hl (by with_reducible assumption) ⟨by omega, by omega⟩ (by decide) _ _ _ (by decide) (by decide)
        ·
          rw [if_neg g6, if_neg g6]
          have g6i : 0 < t0_2.toInt := q_nleI g6
          by_cases g8 : (t1_0 (0 : Int32).toNatClampNeg : Int32) = (43 : Int32)
          ·
            rw [if_pos g8, if_pos g8]
            unfold S_WR_read_J64 F_WR_read_J64
            unfold S_WR_read_J69 F_WR_read_J69
            by_cases g9 : (1 : Int32) = t0_2
            ·
              rw [if_pos g9, if_pos g9]
              unfold S_WR_read_J84 F_WR_read_J84
              exact v_rd2 hr hl (by with_reducible assumption) ⟨by omega, by omega⟩ (by decide) _ _ _ (by decide) (by decide)
            ·
              rw [if_neg g9, if_neg g9]
              unfold S_WR_read_J84 F_WR_read_J84
              exact v_rd2 hr hl (by with_reducible assumption) ⟨by omega, by omega⟩ (by decide) _ _ _ (by decide) (by decide)
          ·
            rw [if_neg g8, if_neg g8]
            by_cases g10 : (t1_0 (0 : Int32).toNatClampNeg : Int32) = (45 : Int32)
            ·
              rw [if_pos g10, if_pos g10]
              unfold S_WR_read_J64 F_WR_read_J64
              unfold S_WR_read_J69 F_WR_read_J69
              by_cases g11 : (1 : Int32) = t0_2
              ·
                rw [if_pos g11, if_pos g11]
                unfold S_WR_read_J84 F_WR_read_J84
                exact v_rd2 hr hl (by with_reducible assumption) ⟨by omega, by omega⟩ (by decide) _ _ _ (by decide) (by decide)
              ·
                rw [if_neg g11, if_neg g11]
                unfold S_WR_read_J84 F_WR_read_J84
                exact v_rd2 hr hl (by with_reducible assumption) ⟨by omega, by omega⟩ (by decide) _ _ _ (by decide) (by decide)
            ·
              rw [if_neg g10, if_neg g10]
              unfold S_WR_read_J68 F_WR_read_J68
              unfold S_WR_read_J69 F_WR_read_J69
              by_cases g12 : (0 : Int32) = t0_2
              ·
                rw [if_pos g12, if_pos g12]
                unfold S_WR_read_J84 F_WR_read_J84
                exact v_rd2 hr hl (by with_reducible assumption) ⟨by omega, by omega⟩ (by decide) _ _ _ (by decide) (by decide)
              ·
                rw [if_neg g12, if_neg g12]
                unfold S_WR_read_J84 F_WR_read_J84
                exact v_rd2 hr hl (by with_reducible assumption) ⟨by omega, by omega⟩ (by decide) _ _ _ (by decide) (by decide)
      ·
        rw [if_neg g4, if_neg g4]
        have g4i : 36 < x3.toInt := q_nleI g4
        unfold S_WR_read_J19 F_WR_read_J19
        unfold S_WR_read_J24 F_WR_read_J24
        have g13 : ¬ ((1 : Int32) ≤ (0 : Int32)) := (by decide)
        rw [if_neg g13, if_neg g13]
        refine ⟨trivial, ?_⟩
        (unfold Q_WR_read; dsimp only; first | with_reducible assumption | exact hr)
  ·
    rw [if_neg g1, if_neg g1]
    unfold S_WR_read_J19 F_WR_read_J19
    unfold S_WR_read_J24 F_WR_read_J24
    have g14 : ¬ ((1 : Int32) ≤ (0 : Int32)) := (by decide)
    rw [if_neg g14, if_neg g14]
    refine ⟨trivial, ?_⟩
    (unfold Q_WR_read; dsimp only; first | with_reducible assumption | exact hr)
def Q_WR_written (p : Int32 × Int32 × Int32 × Int32 × Int32 × Int32 × Int32 × Int32 × (Nat → Int32) × (Nat → Int32)) : Prop := 0 ≤ p.1.toInt ∧ p.1.toInt ≤ 2100
theorem v_wr1 {K_F_WR_written_L50 : Int32 → (Nat → Int32) → (Nat → Int32) → (Int32 × Int32 × Int32 × Int32 × Int32 × Int32 × Int32 × Int32 × (Nat → Int32) × (Nat → Int32))} {x2 : Int32} {x3 : Int32} {t0_0 : Int32} {t0_1 : Int32} {t0_2 : Int32} {t0_3 : Int32} {t0_4 : Int32} {t0_5 : Int32} {t0_6 : Int32} {t1_0 : (Nat → Int32)} {t2_0 : (Nat → Int32)} {t3_0 : (Nat → Int32)} {t4_0 : (Nat → Int32)} {lx33 : Int32} {lx61 : Int32} {lx62 : (Nat → Int32)} {lx63 : (Nat → Int32)} {lx152 : Int32} {lx153 : (Nat → Int32)} {K_S_WR_written_L50 : Int32 → (Nat → Int32) → (Nat → Int32) → Prop} (h152 : 0 ≤ lx152.toInt ∧ lx152.toInt ≤ 2100) : ∀ (n : Nat) (lx174 : Int32) (lx175 : Int32) (lx176 : (Nat → Int32)), (-1 ≤ lx174.toInt ∧ lx174.toInt ≤ 2099) → (lx174.toInt + 1 < (n : Int)) → (0 ≤ lx175.toInt) → (S_WR_written_L158 K_S_WR_written_L50 x2 x3 t0_0 t0_1 t0_2 t0_3 t0_4 t0_5 t0_6 t1_0 t2_0 t3_0 t4_0 lx33 lx61 lx62 lx63 lx152 lx153 n lx174 lx175 lx176) ∧ Q_WR_written (F_WR_written_L158 K_F_WR_written_L50 x2 x3 t0_0 t0_1 t0_2 t0_3 t0_4 t0_5 t0_6 t1_0 t2_0 t3_0 t4_0 lx33 lx61 lx62 lx63 lx152 lx153 n lx174 lx175 lx176) := by
  intro n
  induction n with
  | zero => intro lx174 lx175 lx176 h0 hm h1; exact absurd (show False by omega) id
  | succ n ih =>
    intro lx174 lx175 lx176 h0 hm h1
    rw [S_WR_written_L158.eq_2, F_WR_written_L158.eq_2]
    by_cases g1 : lx174 ≤ lx175
    ·
      rw [if_pos g1, if_pos g1]
      have g1i : lx174.toInt ≤ lx175.toInt := q_leI g1
      refine ⟨trivial, ?_⟩
      (unfold Q_WR_written; dsimp only; omega)
    ·
      rw [if_neg g1, if_neg g1]
      have g1i : lx175.toInt < lx174.toInt := q_nleI g1
      refine v_cons (by omega) ?_
      obtain ⟨a2, e3⟩ := q_nm (lx174 + (-1) : Int32)
      rw [e3]
      have a2i : a2.toInt = lx174.toInt + (-1) := by rw [← e3]; exact q_addI (x := lx174.toInt) (y := (-1)) rfl (by decide) (by omega) (by omega)
      obtain ⟨a4, e5⟩ := q_nm (lx175 + 1 : Int32)
      rw [e5]
      have a4i : a4.toInt = lx175.toInt + 1 := by rw [← e5]; exact q_addI (x := lx175.toInt) (y := 1) rfl (by decide) (by omega) (by omega)
      exact ih _ _ _ (by first | with_reducible assumption | with_reducible exact R_cl | (with_reducible apply R_cp; first | with_reducible assumption | with_reducible exact R_cl) | (with_reducible refine wO_upd ?_ w_m16; with_reducible assumption) | (with_reducible apply wR.mi <;> with_reducible assumption)  | omega | decide) (by first | with_reducible assumption | with_reducible exact R_cl | (with_reducible apply R_cp; first | with_reducible assumption | with_reducible exact R_cl) | (with_reducible refine wO_upd ?_ w_m16; with_reducible assumption) | (with_reducible apply wR.mi <;> with_reducible assumption)  | omega | decide) (by first | with_reducible assumption | with_reducible exact R_cl | (with_reducible apply R_cp; first | with_reducible assumption | with_reducible exact R_cl) | (with_reducible refine wO_upd ?_ w_m16; with_reducible assumption) | (with_reducible apply wR.mi <;> with_reducible assumption)  | omega | decide)
theorem v_wr2 {x2 : Int32} {x3 : Int32} {t0_0 : Int32} {t0_1 : Int32} {t0_2 : Int32} {t0_3 : Int32} {t0_4 : Int32} {t0_5 : Int32} {t0_6 : Int32} {t1_0 : (Nat → Int32)} {t2_0 : (Nat → Int32)} {t3_0 : (Nat → Int32)} {t4_0 : (Nat → Int32)} {lx33 : Int32} (hr : wR t1_0 t2_0)(hx2 : 0 ≤ x2.toInt ∧ x2.toInt ≤ 10)(hx3 : 2 ≤ x3.toInt ∧ x3.toInt ≤ 36) : ∀ (n : Nat) (lx61 : Int32) (lx62 : (Nat → Int32)) (lx63 : (Nat → Int32)), (0 ≤ lx61.toInt ∧ lx61.toInt ≤ 2048) → (2100 - lx61.toInt < (n : Int)) → (wO lx62 264) → (wPw lx61 (wV lx62 264)) → (S_WR_written_L50 x2 x3 t0_0 t0_1 t0_2 t0_3 t0_4 t0_5 t0_6 t1_0 t2_0 t3_0 t4_0 lx33 n lx61 lx62 lx63) ∧ Q_WR_written (F_WR_written_L50 x2 x3 t0_0 t0_1 t0_2 t0_3 t0_4 t0_5 t0_6 t1_0 t2_0 t3_0 t4_0 lx33 n lx61 lx62 lx63) := by
  intro n
  induction n with
  | zero => intro lx61 lx62 lx63 h0 hm ho hp; exact absurd (show False by omega) id
  | succ n ih =>
    intro lx61 lx62 lx63 h0 hm ho hp
    have ew : (0 : Int32).toInt = 0 := rfl
    rw [S_WR_written_L50.eq_2, F_WR_written_L50.eq_2]
    by_cases g1 : (0 : Int32) < ((F_WR_size (264 : Int32) lx62) : Int32)
    ·
      rw [if_pos g1, if_pos g1]
      have hv : 0 < wV lx62 264 ∨ lx61.toInt = 0 := Or.inl (w_sz1 ho (fun h => by have a := q_leI h; have b := q_ltI g1; omega))
      unfold S_WR_written_J67 F_WR_written_J67
      have h2 := R_shr4  (y := x3) (f := lx62) ⟨by omega, by omega⟩ (by first | with_reducible assumption | with_reducible exact R_cl | (with_reducible apply R_cp; first | with_reducible assumption | with_reducible exact R_cl) | (with_reducible refine wO_upd ?_ w_m16; with_reducible assumption) | (with_reducible apply wR.mi <;> with_reducible assumption)  | omega | decide)
      have h2k := h2.2.1
      have h2d := h2.2.2.1
      have h2e := h2.2.2.2.2
      with_reducible refine v_owe h2.1 ?_
      replace h2 := h2.2
      generalize F_WR_shrink (264 : Int32) x3 lx62 = p104 at *
      unfold S_WR_written_c72 F_WR_written_c72
      by_cases g3 : (10 : Int32) ≤ (p104.1 : Int32)
      ·
        rw [if_pos g3, if_pos g3]
        refine v_cons (by omega) ?_
        obtain ⟨a4, e5⟩ := q_nm (lx61 + 1 : Int32)
        rw [e5]
        have a4i : a4.toInt = lx61.toInt + 1 := by rw [← e5]; exact q_addI (x := lx61.toInt) (y := 1) rfl (by decide) (by omega) (by omega)
        have hw := w_wr hp h0.1 h0.2 a4i hx3.1 (by with_reducible assumption) (w_nn (by with_reducible assumption)) (by with_reducible assumption) hv; exact ih _ _ _ ⟨by omega, by omega⟩ (by omega) (by with_reducible assumption) hw.1
      ·
        rw [if_neg g3, if_neg g3]
        refine v_cons (by omega) ?_
        obtain ⟨a6, e7⟩ := q_nm (lx61 + 1 : Int32)
        rw [e7]
        have a6i : a6.toInt = lx61.toInt + 1 := by rw [← e7]; exact q_addI (x := lx61.toInt) (y := 1) rfl (by decide) (by omega) (by omega)
        have hw := w_wr hp h0.1 h0.2 a6i hx3.1 (by with_reducible assumption) (w_nn (by with_reducible assumption)) (by with_reducible assumption) hv; exact ih _ _ _ ⟨by omega, by omega⟩ (by omega) (by with_reducible assumption) hw.1
    ·
      rw [if_neg g1, if_neg g1]
      by_cases g8 : lx61 = (0 : Int32)
      ·
        rw [if_pos g8, if_pos g8]
        have hv : 0 < wV lx62 264 ∨ lx61.toInt = 0 := Or.inr (by rw [g8]; rfl)
        unfold S_WR_written_J67 F_WR_written_J67
        have h9 := R_shr4  (y := x3) (f := lx62) ⟨by omega, by omega⟩ (by first | with_reducible assumption | with_reducible exact R_cl | (with_reducible apply R_cp; first | with_reducible assumption | with_reducible exact R_cl) | (with_reducible refine wO_upd ?_ w_m16; with_reducible assumption) | (with_reducible apply wR.mi <;> with_reducible assumption)  | omega | decide)
        have h9k := h9.2.1
        have h9d := h9.2.2.1
        have h9e := h9.2.2.2.2
        with_reducible refine v_owe h9.1 ?_
        replace h9 := h9.2
        generalize F_WR_shrink (264 : Int32) x3 lx62 = p104 at *
        unfold S_WR_written_c72 F_WR_written_c72
        by_cases g10 : (10 : Int32) ≤ (p104.1 : Int32)
        ·
          rw [if_pos g10, if_pos g10]
          refine v_cons (by omega) ?_
          obtain ⟨a11, e12⟩ := q_nm (lx61 + 1 : Int32)
          rw [e12]
          have a11i : a11.toInt = lx61.toInt + 1 := by rw [← e12]; exact q_addI (x := lx61.toInt) (y := 1) rfl (by decide) (by omega) (by omega)
          have hw := w_wr hp h0.1 h0.2 a11i hx3.1 (by with_reducible assumption) (w_nn (by with_reducible assumption)) (by with_reducible assumption) hv; exact ih _ _ _ ⟨by omega, by omega⟩ (by omega) (by with_reducible assumption) hw.1
        ·
          rw [if_neg g10, if_neg g10]
          refine v_cons (by omega) ?_
          obtain ⟨a13, e14⟩ := q_nm (lx61 + 1 : Int32)
          rw [e14]
          have a13i : a13.toInt = lx61.toInt + 1 := by rw [← e14]; exact q_addI (x := lx61.toInt) (y := 1) rfl (by decide) (by omega) (by omega)
          have hw := w_wr hp h0.1 h0.2 a13i hx3.1 (by with_reducible assumption) (w_nn (by with_reducible assumption)) (by with_reducible assumption) hv; exact ih _ _ _ ⟨by omega, by omega⟩ (by omega) (by with_reducible assumption) hw.1
      ·
        rw [if_neg g8, if_neg g8]
        refine v_cons (by omega) ?_
        refine v_cons (by omega) ?_
        by_cases g15 : (t2_0 x2.toNatClampNeg : Int32) = (0 : Int32)
        ·
          rw [if_pos g15, if_pos g15]
          unfold S_WR_written_J148 F_WR_written_J148
          have ez : (lx61 - 1 : Int32).toInt = lx61.toInt - 1 := q_subI (y := 1) rfl (by decide) (by omega) (by omega); exact v_wr1 ⟨by omega, by omega⟩ _ _ _ _ ⟨by omega, by omega⟩ (by omega) (by decide)
        ·
          rw [if_neg g15, if_neg g15]
          refine v_cons (by omega) ?_
          obtain ⟨lx152, e16⟩ := q_nm ((lx61 + 1 : Int32) : Int32)
          rw [e16]
          have lx152i : lx152.toInt = lx61.toInt + 1 := by rw [← e16]; exact q_addI (y := 1) rfl (by decide) (by omega) (by omega)
          unfold S_WR_written_J148 F_WR_written_J148
          have ez : (lx152 - 1 : Int32).toInt = lx152.toInt - 1 := q_subI (y := 1) rfl (by decide) (by omega) (by omega); exact v_wr1 ⟨by omega, by omega⟩ _ _ _ _ ⟨by omega, by omega⟩ (by omega) (by decide)
theorem T_WR_written {x2 : Int32} {x3 : Int32} {t0_0 : Int32} {t0_1 : Int32} {t0_2 : Int32} {t0_3 : Int32} {t0_4 : Int32} {t0_5 : Int32} {t0_6 : Int32} {t1_0 : (Nat → Int32)} {t2_0 : (Nat → Int32)} {t3_0 : (Nat → Int32)} {t4_0 : (Nat → Int32)} (hr : wR t1_0 t2_0) : (S_WR_written x2 x3 t0_0 t0_1 t0_2 t0_3 t0_4 t0_5 t0_6 t1_0 t2_0 t3_0 t4_0) ∧ Q_WR_written (F_WR_written x2 x3 t0_0 t0_1 t0_2 t0_3 t0_4 t0_5 t0_6 t1_0 t2_0 t3_0 t4_0) := by
  have e0 : (0 : Int32).toInt = 0 := rfl
  have e2 : (2 : Int32).toInt = 2 := rfl
  have e36 : (36 : Int32).toInt = 36 := rfl
  unfold S_WR_written F_WR_written
  by_cases g1 : ((F_WR_no x2) : Int32) = (0 : Int32)
  ·
    rw [if_pos g1, if_pos g1]
    have g1r := w_no g1
    by_cases g2 : x3 < (2 : Int32)
    ·
      rw [if_pos g2, if_pos g2]
      have g2i : x3.toInt < 2 := q_ltI g2
      unfold S_WR_written_J19 F_WR_written_J19
      unfold S_WR_written_J24 F_WR_written_J24
      have g3 : ¬ ((1 : Int32) ≤ (0 : Int32)) := (by decide)
      rw [if_neg g3, if_neg g3]
      refine ⟨trivial, ?_⟩
      (unfold Q_WR_written; dsimp only; omega)
    ·
      rw [if_neg g2, if_neg g2]
      have g2i : 2 ≤ x3.toInt := q_nltI g2
      by_cases g4 : x3 ≤ (36 : Int32)
      ·
        rw [if_pos g4, if_pos g4]
        have g4i : x3.toInt ≤ 36 := q_leI g4
        unfold S_WR_written_J24 F_WR_written_J24
        have g5 : ((0 : Int32) ≤ (0 : Int32)) := (by decide)
        rw [if_pos g5, if_pos g5]
        have h6 := R_take  (x2 := x2) (t0_0 := (0 : Int32)) (t0_1 := t0_1) (t0_2 := t0_2) (t0_3 := t0_3) (t0_4 := t0_4) (t0_5 := t0_5) (t0_6 := t0_6) (t1_0 := t1_0) (t2_0 := t3_0) (by first | with_reducible assumption | with_reducible exact R_cl | (with_reducible apply R_cp; first | with_reducible assumption | with_reducible exact R_cl) | (with_reducible refine wO_upd ?_ w_m16; with_reducible assumption) | (with_reducible apply wR.mi <;> with_reducible assumption)  | omega | decide) (wR.o (by with_reducible assumption))
        have h6k := h6.2.1
        have h6v := h6.2
        with_reducible refine v_owe h6.1 ?_
        exact v_wr2 hr (by with_reducible assumption) ⟨by omega, by omega⟩ _ _ _ _ (by decide) (by decide) (by with_reducible assumption) (w_wr0 (x := x2) (by with_reducible assumption) (wR.o hr) (by with_reducible assumption))
      ·
        rw [if_neg g4, if_neg g4]
        have g4i : 36 < x3.toInt := q_nleI g4
        unfold S_WR_written_J19 F_WR_written_J19
        unfold S_WR_written_J24 F_WR_written_J24
        have g7 : ¬ ((1 : Int32) ≤ (0 : Int32)) := (by decide)
        rw [if_neg g7, if_neg g7]
        refine ⟨trivial, ?_⟩
        (unfold Q_WR_written; dsimp only; omega)
  ·
    rw [if_neg g1, if_neg g1]
    unfold S_WR_written_J19 F_WR_written_J19
    unfold S_WR_written_J24 F_WR_written_J24
    have g8 : ¬ ((1 : Int32) ≤ (0 : Int32)) := (by decide)
    rw [if_neg g8, if_neg g8]
    refine ⟨trivial, ?_⟩
    (unfold Q_WR_written; dsimp only; omega)
theorem w_lc {a : Int64} (h : ¬ lg_cmp a 0 < 0) : 0 ≤ a.toInt := by
  have h1 := q_nltI h
  have h2 := s_lcmp (a := a) (b := 0)
  have e0 : (0 : Int32).toInt = 0 := rfl
  have e9 : (0 : Int64).toInt = 0 := rfl
  omega
theorem w_j16 {j : Int64} (h : 0 ≤ j.toInt ∧ j.toInt ≤ 2047) : (j.toInt32 / 16).toInt = j.toInt / 16 ∧ j.toInt32.toInt = j.toInt := by
  have e : j.toInt32.toInt = j.toInt := s_l2i (by omega) (by omega)
  refine ⟨?_, e⟩
  rw [w_div16 (by omega), e]
theorem w_bitA {a b : Int32} (ha : 0 ≤ a.toInt ∧ a.toInt ≤ 1) (h : 0 ≤ b.toInt) : 0 ≤ (a <<< ((b - b / 16 * 16) &&& 31)).toInt ∧ (a <<< ((b - b / 16 * 16) &&& 31)).toInt ≤ 65535 := by
  by_cases c : a.toInt = 1
  · have : a = 1 := Int32.toInt_inj.mp c
    rw [this]
    exact w_bitI h
  · have : a = 0 := Int32.toInt_inj.mp (show a.toInt = 0 by omega)
    rw [this]
    have h1 := s_rem' (x := b) (b := 16) h (by decide)
    have e16 : (16 : Int32).toInt = 16 := rfl
    generalize (b - b / 16 * 16 : Int32) = r at h1 ⊢
    obtain ⟨k, hk⟩ : ∃ k : Nat, r.toInt = k := ⟨r.toInt.toNat, by omega⟩
    have e := v_shlN (x := 0) hk (by omega)
    have e1 : (0 : Int32).toBitVec.toNat = 0 := by decide
    rw [e1, Nat.zero_mul, Nat.zero_mod] at e
    have h4 := s_of e (by omega)
    rw [h4]
    decide
theorem w_shU {r : Nat → Int32} {j : Int64} {a : Int32} (ho : wO r 264) (h : 0 ≤ j.toInt ∧ j.toInt ≤ 2047) (ha : 0 ≤ a.toInt ∧ a.toInt ≤ 1) : wO (upd r (j.toInt32 / 16).toNatClampNeg ((r (j.toInt32 / 16).toNatClampNeg) ||| (a <<< ((j.toInt32 - j.toInt32 / 16 * 16) &&& 31)))) 264 := by
  obtain ⟨e, e2⟩ := w_j16 h
  have e1 := q_clI (i := j.toInt32 / 16) e (by omega)
  exact wO_upd ho (w_or16 (ho _ (by omega)) (w_bitA ha (by omega)))
theorem w_hi {x k : Int32} (hx : 0 ≤ x.toInt ∧ x.toInt < 65536) (hk : 0 ≤ k.toInt) : 0 ≤ ((((x.toInt64) <<< ((k - k / 16 * 16 : Int32).toInt64 &&& 63)) >>> ((16 : Int32).toInt64 &&& 63)).toInt32).toInt ∧ ((((x.toInt64) <<< ((k - k / 16 * 16 : Int32).toInt64 &&& 63)) >>> ((16 : Int32).toInt64 &&& 63)).toInt32).toInt < 65536 := by
  have h1 := s_rem' (x := k) (b := 16) hk (by decide)
  have e16 : (16 : Int32).toInt = 16 := rfl
  generalize (k - k / 16 * 16 : Int32) = r at h1 ⊢
  have key : ∀ m : Fin 16, ((Int32.ofNat m.val).toInt64 &&& 63).toBitVec.smod 64 = BitVec.ofNat 64 m.val := by decide
  have er : r = Int32.ofNat r.toInt.toNat := by
    apply Int32.toInt_inj.mp
    have h5 : (Int32.ofNat r.toInt.toNat).toInt = (r.toInt.toNat : Int) := Int32.toInt_ofNat_of_lt (by omega)
    omega
  have hm : r.toInt.toNat < 16 := by omega
  generalize r.toInt.toNat = m at er hm
  subst er
  have hc := key ⟨m, hm⟩
  have ex : x.toInt64.toInt = x.toInt := q_i2l rfl
  obtain ⟨a1, a2, -⟩ := s_nnL (x := x.toInt64) (by omega)
  have hp : 2 ^ m ≤ 2 ^ 15 := Nat.pow_le_pow_right (by decide) (by omega)
  have hp0 : 0 < 2 ^ m := Nat.pow_pos (by decide)
  have hxm : x.toInt64.toBitVec.toNat * 2 ^ m ≤ 65535 * 32768 := Nat.mul_le_mul (by omega) (by omega)
  have e : (x.toInt64 <<< ((Int32.ofNat m).toInt64 &&& 63)).toBitVec.toNat = x.toInt64.toBitVec.toNat * 2 ^ m := by
    rw [Int64.toBitVec_shiftLeft, hc, BitVec.shiftLeft_eq', BitVec.toNat_shiftLeft, Nat.shiftLeft_eq]
    have : (BitVec.ofNat 64 m).toNat = m := by rw [BitVec.toNat_ofNat]; exact Nat.mod_eq_of_lt (by omega)
    rw [this]
    exact Nat.mod_eq_of_lt (by omega)
  have h5 := s_ofL e (by omega)
  generalize (x.toInt64 <<< ((Int32.ofNat m).toInt64 &&& 63) : Int64) = y at h5 ⊢
  have h6 := w_shr (x := y)
  have h7 : 0 ≤ (y >>> ((16 : Int32).toInt64 &&& 63)).toInt ∧ (y >>> ((16 : Int32).toInt64 &&& 63)).toInt < 65536 := by rw [h6]; omega
  rw [s_l2i (by omega) (by omega)]
  exact h7
theorem w_shV {r f : Nat → Int32} {i x : Int32} (ho : wO r 264) (hf : wO f 264) (hi : 0 ≤ i.toInt) (hi2 : i.toInt ≤ 127) (hx : 0 ≤ x.toInt) (hx2 : x.toInt ≤ 2048) : wO (upd (upd r (i + (x / 16)).toNatClampNeg ((r (i + (x / 16)).toNatClampNeg) ||| (((((f i.toNatClampNeg).toInt64) <<< ((x - x / 16 * 16 : Int32).toInt64 &&& 63)) &&& 65535).toInt32))) ((i + (x / 16)) + 1).toNatClampNeg (((((f i.toNatClampNeg).toInt64) <<< ((x - x / 16 * 16 : Int32).toInt64 &&& 63)) >>> ((16 : Int32).toInt64 &&& 63)).toInt32)) 264 := by
  have e := w_div16 hx
  have e1 : (i + (x / 16) : Int32).toInt = i.toInt + x.toInt / 16 := q_addI rfl e (by omega) (by omega)
  have e2 := q_clI (i := i + (x / 16)) e1 (by omega)
  have e3 := q_clI (i := i) rfl hi
  exact wO_upd (wO_upd ho (w_or17 (ho _ (by omega)) w_m16)) (w_hi (hf _ (by omega)) hx)
theorem w_shI {i x : Int32} (hi : 0 ≤ i.toInt) (hi2 : i.toInt ≤ 127) (hx : 0 ≤ x.toInt) (hx2 : x.toInt ≤ 2048) : (i + (x / 16) : Int32).toInt = i.toInt + x.toInt / 16 ∧ ((i + (x / 16)) + 1 : Int32).toInt = (i.toInt + x.toInt / 16) + 1 := by
  have e := w_div16 hx
  have e1 : (i + (x / 16) : Int32).toInt = i.toInt + x.toInt / 16 := q_addI rfl e (by omega) (by omega)
  exact ⟨e1, q_addI (y := 1) e1 (by decide) (by omega) (by omega)⟩
def Q_WR_shift (p : Int32 × Int32 × Int32 × Int32 × Int32 × Int32 × Int32 × (Nat → Int32) × (Nat → Int32) × (Nat → Int32) × (Nat → Int32) × (Nat → Int32)) : Prop := wR p.2.2.2.2.2.2.2.1 p.2.2.2.2.2.2.2.2.1
theorem v_sh1 {x2 : Int32} {x3 : Int32} {x4 : Int32} {t0_0 : Int32} {t0_1 : Int32} {t0_2 : Int32} {t0_3 : Int32} {t0_4 : Int32} {t0_5 : Int32} {t0_6 : Int32} {t1_0 : (Nat → Int32)} {t2_0 : (Nat → Int32)} {t3_0 : (Nat → Int32)} {t4_0 : (Nat → Int32)} {t5_0 : (Nat → Int32)} {lx36 : Int32} {a67 : Int32} {f60 : (Nat → Int32)} (hr : wR t1_0 t2_0)(hx4 : 0 ≤ x4.toInt ∧ x4.toInt ≤ 10)(ha : 0 ≤ a67.toInt ∧ a67.toInt ≤ 1) (hf : wO f60 264)(hx3 : x3.toInt < 0) : ∀ (n : Nat) (lx84 : Int32) (lx85 : Int32) (lx86 : (Nat → Int32)), (0 ≤ lx84.toInt ∧ lx84.toInt ≤ 2048) → (2048 - lx84.toInt < (n : Int)) → (wO lx86 264) → (S_WR_shift_L189 x2 x3 x4 t0_0 t0_1 t0_2 t0_3 t0_4 t0_5 t0_6 t1_0 t2_0 t3_0 t4_0 t5_0 lx36 a67 f60 n lx84 lx85 lx86) ∧ Q_WR_shift (F_WR_shift_L189 x2 x3 x4 t0_0 t0_1 t0_2 t0_3 t0_4 t0_5 t0_6 t1_0 t2_0 t3_0 t4_0 t5_0 lx36 a67 f60 n lx84 lx85 lx86) := by
  intro n
  induction n with
  | zero => intro lx84 lx85 lx86 h0 hm ho; exact absurd (show False by omega) id
  | succ n ih =>
    intro lx84 lx85 lx86 h0 hm ho
    have e0 : (0 : Int32).toInt = 0 := rfl
    have e2048 : (2048 : Int32).toInt = 2048 := rfl
    have hxl := Int32.le_toInt x3
    rw [S_WR_shift_L189.eq_2, F_WR_shift_L189.eq_2]
    by_cases g1 : (2048 : Int32) ≤ lx84
    ·
      rw [if_pos g1, if_pos g1]
      have g1i : 2048 ≤ lx84.toInt := q_leI g1
      by_cases g2 : a67 = (0 : Int32)
      ·
        rw [if_pos g2, if_pos g2]
        have h3 := R_store  (x2 := x4) (t0_0 := lx36) (t0_1 := (2 : Int32)) (t0_2 := t0_2) (t0_3 := a67) (t0_4 := t0_4) (t0_5 := t0_5) (t0_6 := t0_6) (t1_0 := t1_0) (t2_0 := t2_0) (t3_0 := lx86) (by first | with_reducible assumption | with_reducible exact R_cl | (with_reducible apply R_cp; first | with_reducible assumption | with_reducible exact R_cl) | (with_reducible refine wO_upd ?_ w_m16; with_reducible assumption) | (with_reducible apply wR.mi <;> with_reducible assumption)  | omega | decide) (by first | with_reducible assumption | with_reducible exact R_cl | (with_reducible apply R_cp; first | with_reducible assumption | with_reducible exact R_cl) | (with_reducible refine wO_upd ?_ w_m16; with_reducible assumption) | (with_reducible apply wR.mi <;> with_reducible assumption)  | omega | decide) (by first | with_reducible assumption | with_reducible exact R_cl | (with_reducible apply R_cp; first | with_reducible assumption | with_reducible exact R_cl) | (with_reducible refine wO_upd ?_ w_m16; with_reducible assumption) | (with_reducible apply wR.mi <;> with_reducible assumption)  | omega | decide)
        have h3r := h3.2
        with_reducible refine v_owe h3.1 ?_
        replace h3 := h3.2
        generalize F_WR_store x4 lx36 (2 : Int32) t0_2 a67 t0_4 t0_5 t0_6 t1_0 t2_0 lx86 = p137 at *
        unfold S_WR_shift_c331 F_WR_shift_c331
        refine ⟨trivial, ?_⟩
        (unfold Q_WR_shift; dsimp only; first | with_reducible assumption | exact hr)
      ·
        rw [if_neg g2, if_neg g2]
        by_cases g4 : lx85 = (0 : Int32)
        ·
          rw [if_pos g4, if_pos g4]
          have h5 := R_store  (x2 := x4) (t0_0 := lx36) (t0_1 := (2 : Int32)) (t0_2 := t0_2) (t0_3 := a67) (t0_4 := t0_4) (t0_5 := t0_5) (t0_6 := t0_6) (t1_0 := t1_0) (t2_0 := t2_0) (t3_0 := lx86) (by first | with_reducible assumption | with_reducible exact R_cl | (with_reducible apply R_cp; first | with_reducible assumption | with_reducible exact R_cl) | (with_reducible refine wO_upd ?_ w_m16; with_reducible assumption) | (with_reducible apply wR.mi <;> with_reducible assumption)  | omega | decide) (by first | with_reducible assumption | with_reducible exact R_cl | (with_reducible apply R_cp; first | with_reducible assumption | with_reducible exact R_cl) | (with_reducible refine wO_upd ?_ w_m16; with_reducible assumption) | (with_reducible apply wR.mi <;> with_reducible assumption)  | omega | decide) (by first | with_reducible assumption | with_reducible exact R_cl | (with_reducible apply R_cp; first | with_reducible assumption | with_reducible exact R_cl) | (with_reducible refine wO_upd ?_ w_m16; with_reducible assumption) | (with_reducible apply wR.mi <;> with_reducible assumption)  | omega | decide)
          have h5r := h5.2
          with_reducible refine v_owe h5.1 ?_
          replace h5 := h5.2
          generalize F_WR_store x4 lx36 (2 : Int32) t0_2 a67 t0_4 t0_5 t0_6 t1_0 t2_0 lx86 = p185 at *
          unfold S_WR_shift_c331_4 F_WR_shift_c331_4
          refine ⟨trivial, ?_⟩
          (unfold Q_WR_shift; dsimp only; first | with_reducible assumption | exact hr)
        ·
          rw [if_neg g4, if_neg g4]
          have h6 := R_setOne  (t0_0 := lx36) (t0_1 := (2 : Int32)) (t0_2 := t0_2) (t0_3 := a67) (t0_4 := t0_4) (t0_5 := t0_5) (t0_6 := t0_6) (f := t4_0) 
          have h6k := h6.2.1
          with_reducible refine v_owe h6.1 ?_
          have h7 := R_j1  (f := lx86) (g := ((F_WR_setOne (264 : Int32) lx36 (2 : Int32) t0_2 a67 t0_4 t0_5 t0_6 t4_0) : (Nat → Int32))) (by first | with_reducible assumption | with_reducible exact R_cl | (with_reducible apply R_cp; first | with_reducible assumption | with_reducible exact R_cl) | (with_reducible refine wO_upd ?_ w_m16; with_reducible assumption) | (with_reducible apply wR.mi <;> with_reducible assumption)  | omega | decide) (by first | with_reducible assumption | with_reducible exact R_cl | (with_reducible apply R_cp; first | with_reducible assumption | with_reducible exact R_cl) | (with_reducible refine wO_upd ?_ w_m16; with_reducible assumption) | (with_reducible apply wR.mi <;> with_reducible assumption)  | omega | decide)
          have h7k := h7.2
          with_reducible refine v_owe h7.1 ?_
          have h8 := R_store  (x2 := x4) (t0_0 := lx36) (t0_1 := (2 : Int32)) (t0_2 := t0_2) (t0_3 := a67) (t0_4 := t0_4) (t0_5 := t0_5) (t0_6 := t0_6) (t1_0 := t1_0) (t2_0 := t2_0) (t3_0 := ((F_WR_join (264 : Int32) (264 : Int32) (1 : Int32) (1 : Int64) (0 : Int32) lx86 ((F_WR_setOne (264 : Int32) lx36 (2 : Int32) t0_2 a67 t0_4 t0_5 t0_6 t4_0) : (Nat → Int32))) : (Nat → Int32))) (by first | with_reducible assumption | with_reducible exact R_cl | (with_reducible apply R_cp; first | with_reducible assumption | with_reducible exact R_cl) | (with_reducible refine wO_upd ?_ w_m16; with_reducible assumption) | (with_reducible apply wR.mi <;> with_reducible assumption)  | omega | decide) (by first | with_reducible assumption | with_reducible exact R_cl | (with_reducible apply R_cp; first | with_reducible assumption | with_reducible exact R_cl) | (with_reducible refine wO_upd ?_ w_m16; with_reducible assumption) | (with_reducible apply wR.mi <;> with_reducible assumption)  | omega | decide) (by first | with_reducible assumption | with_reducible exact R_cl | (with_reducible apply R_cp; first | with_reducible assumption | with_reducible exact R_cl) | (with_reducible refine wO_upd ?_ w_m16; with_reducible assumption) | (with_reducible apply wR.mi <;> with_reducible assumption)  | omega | decide)
          have h8r := h8.2
          with_reducible refine v_owe h8.1 ?_
          replace h8 := h8.2
          generalize F_WR_store x4 lx36 (2 : Int32) t0_2 a67 t0_4 t0_5 t0_6 t1_0 t2_0 ((F_WR_join (264 : Int32) (264 : Int32) (1 : Int32) (1 : Int64) (0 : Int32) lx86 ((F_WR_setOne (264 : Int32) lx36 (2 : Int32) t0_2 a67 t0_4 t0_5 t0_6 t4_0) : (Nat → Int32))) : (Nat → Int32)) = p247 at *
          replace h6 := h6.2
          generalize F_WR_setOne (264 : Int32) lx36 (2 : Int32) t0_2 a67 t0_4 t0_5 t0_6 t4_0 = f205 at *
          replace h7 := h7.2
          generalize F_WR_join (264 : Int32) (264 : Int32) (1 : Int32) (1 : Int64) (0 : Int32) lx86 ((F_WR_setOne (264 : Int32) lx36 (2 : Int32) t0_2 a67 t0_4 t0_5 t0_6 t4_0) : (Nat → Int32)) = f213 at *
          unfold S_WR_shift_c331_5 F_WR_shift_c331_5
          refine ⟨trivial, ?_⟩
          (unfold Q_WR_shift; dsimp only; first | with_reducible assumption | exact hr)
    ·
      rw [if_neg g1, if_neg g1]
      have g1i : lx84.toInt < 2048 := q_nleI g1
      refine v_cons (by rw [w_div16 (by omega)]; omega) ?_
      by_cases g9 : lx85 = (0 : Int32)
      ·
        rw [if_pos g9, if_pos g9]
        by_cases g10 : (((f60 (lx84 / 16 : Int32).toNatClampNeg : Int32) >>> ((lx84 - lx84 / 16 * 16 : Int32) &&& 31) : Int32) &&& 1 : Int32) = (1 : Int32)
        ·
          rw [if_pos g10, if_pos g10]
          by_cases g11 : (0 : Int32) ≤ (lg_cmp ((lx84.toInt64 : Int64) + (x3.toInt64 : Int64) : Int64) 0 : Int32)
          ·
            rw [if_pos g11, if_pos g11]
            obtain ⟨j284, e12⟩ := q_nm (((lx84.toInt64 : Int64) + (x3.toInt64 : Int64) : Int64) : Int64)
            rw [e12]
            have j284i : j284.toInt = lx84.toInt + x3.toInt := by rw [← e12]; exact q_addL (q_i2l rfl) (q_i2l rfl) (by omega) (by omega)
            obtain ⟨a275, e13⟩ := q_nm ((((f60 (lx84 / 16 : Int32).toNatClampNeg : Int32) >>> ((lx84 - lx84 / 16 * 16 : Int32) &&& 31) : Int32) &&& 1 : Int32) : Int32)
            rw [e13]
            have a275b : 0 ≤ a275.toInt ∧ a275.toInt ≤ 1 := by rw [← e13]; exact s_and (by decide)
            unfold S_WR_shift_J247 F_WR_shift_J247
            unfold S_WR_shift_J248 F_WR_shift_J248
            by_cases g14 : (lg_cmp j284 0 : Int32) < (0 : Int32)
            ·
              rw [if_pos g14, if_pos g14]
              obtain ⟨a15, e16⟩ := q_nm (lx84 + 1 : Int32)
              rw [e16]
              have a15i : a15.toInt = lx84.toInt + 1 := by rw [← e16]; exact q_addI (x := lx84.toInt) (y := 1) rfl (by decide) (by omega) (by omega)
              exact ih _ _ _ ⟨by omega, by omega⟩ (by omega) (by first | with_reducible assumption | exact w_shU ho ⟨hj, by omega⟩ a275b)
            ·
              rw [if_neg g14, if_neg g14]
              have hj := w_lc g14
              refine v_cons (by have := w_j16 (j := j284) ⟨by omega, by omega⟩; omega) ?_
              refine v_cons (by have := w_j16 (j := j284) ⟨by omega, by omega⟩; omega) ?_
              refine v_cons (by have := w_j16 (j := j284) ⟨by omega, by omega⟩; omega) ?_
              refine v_cons (by have := w_j16 (j := j284) ⟨by omega, by omega⟩; omega) ?_
              obtain ⟨a17, e18⟩ := q_nm (lx84 + 1 : Int32)
              rw [e18]
              have a17i : a17.toInt = lx84.toInt + 1 := by rw [← e18]; exact q_addI (x := lx84.toInt) (y := 1) rfl (by decide) (by omega) (by omega)
              exact ih _ _ _ ⟨by omega, by omega⟩ (by omega) (by first | with_reducible assumption | exact w_shU ho ⟨hj, by omega⟩ a275b)
          ·
            rw [if_neg g11, if_neg g11]
            obtain ⟨j284, e19⟩ := q_nm (((lx84.toInt64 : Int64) + (x3.toInt64 : Int64) : Int64) : Int64)
            rw [e19]
            have j284i : j284.toInt = lx84.toInt + x3.toInt := by rw [← e19]; exact q_addL (q_i2l rfl) (q_i2l rfl) (by omega) (by omega)
            obtain ⟨a275, e20⟩ := q_nm ((((f60 (lx84 / 16 : Int32).toNatClampNeg : Int32) >>> ((lx84 - lx84 / 16 * 16 : Int32) &&& 31) : Int32) &&& 1 : Int32) : Int32)
            rw [e20]
            have a275b : 0 ≤ a275.toInt ∧ a275.toInt ≤ 1 := by rw [← e20]; exact s_and (by decide)
            unfold S_WR_shift_J243 F_WR_shift_J243
            unfold S_WR_shift_J248 F_WR_shift_J248
            by_cases g21 : (lg_cmp j284 0 : Int32) < (0 : Int32)
            ·
              rw [if_pos g21, if_pos g21]
              obtain ⟨a22, e23⟩ := q_nm (lx84 + 1 : Int32)
              rw [e23]
              have a22i : a22.toInt = lx84.toInt + 1 := by rw [← e23]; exact q_addI (x := lx84.toInt) (y := 1) rfl (by decide) (by omega) (by omega)
              exact ih _ _ _ ⟨by omega, by omega⟩ (by omega) (by first | with_reducible assumption | exact w_shU ho ⟨hj, by omega⟩ a275b)
            ·
              rw [if_neg g21, if_neg g21]
              have hj := w_lc g21
              refine v_cons (by have := w_j16 (j := j284) ⟨by omega, by omega⟩; omega) ?_
              refine v_cons (by have := w_j16 (j := j284) ⟨by omega, by omega⟩; omega) ?_
              refine v_cons (by have := w_j16 (j := j284) ⟨by omega, by omega⟩; omega) ?_
              refine v_cons (by have := w_j16 (j := j284) ⟨by omega, by omega⟩; omega) ?_
              obtain ⟨a24, e25⟩ := q_nm (lx84 + 1 : Int32)
              rw [e25]
              have a24i : a24.toInt = lx84.toInt + 1 := by rw [← e25]; exact q_addI (x := lx84.toInt) (y := 1) rfl (by decide) (by omega) (by omega)
              exact ih _ _ _ ⟨by omega, by omega⟩ (by omega) (by first | with_reducible assumption | exact w_shU ho ⟨hj, by omega⟩ a275b)
        ·
          rw [if_neg g10, if_neg g10]
          obtain ⟨j284, e26⟩ := q_nm (((lx84.toInt64 : Int64) + (x3.toInt64 : Int64) : Int64) : Int64)
          rw [e26]
          have j284i : j284.toInt = lx84.toInt + x3.toInt := by rw [← e26]; exact q_addL (q_i2l rfl) (q_i2l rfl) (by omega) (by omega)
          obtain ⟨a275, e27⟩ := q_nm ((((f60 (lx84 / 16 : Int32).toNatClampNeg : Int32) >>> ((lx84 - lx84 / 16 * 16 : Int32) &&& 31) : Int32) &&& 1 : Int32) : Int32)
          rw [e27]
          have a275b : 0 ≤ a275.toInt ∧ a275.toInt ≤ 1 := by rw [← e27]; exact s_and (by decide)
          unfold S_WR_shift_J247 F_WR_shift_J247
          unfold S_WR_shift_J248 F_WR_shift_J248
          by_cases g28 : (lg_cmp j284 0 : Int32) < (0 : Int32)
          ·
            rw [if_pos g28, if_pos g28]
            obtain ⟨a29, e30⟩ := q_nm (lx84 + 1 : Int32)
            rw [e30]
            have a29i : a29.toInt = lx84.toInt + 1 := by rw [← e30]; exact q_addI (x := lx84.toInt) (y := 1) rfl (by decide) (by omega) (by omega)
            exact ih _ _ _ ⟨by omega, by omega⟩ (by omega) (by first | with_reducible assumption | exact w_shU ho ⟨hj, by omega⟩ a275b)
          ·
            rw [if_neg g28, if_neg g28]
            have hj := w_lc g28
            refine v_cons (by have := w_j16 (j := j284) ⟨by omega, by omega⟩; omega) ?_
            refine v_cons (by have := w_j16 (j := j284) ⟨by omega, by omega⟩; omega) ?_
            refine v_cons (by have := w_j16 (j := j284) ⟨by omega, by omega⟩; omega) ?_
            refine v_cons (by have := w_j16 (j := j284) ⟨by omega, by omega⟩; omega) ?_
            obtain ⟨a31, e32⟩ := q_nm (lx84 + 1 : Int32)
            rw [e32]
            have a31i : a31.toInt = lx84.toInt + 1 := by rw [← e32]; exact q_addI (x := lx84.toInt) (y := 1) rfl (by decide) (by omega) (by omega)
            exact ih _ _ _ ⟨by omega, by omega⟩ (by omega) (by first | with_reducible assumption | exact w_shU ho ⟨hj, by omega⟩ a275b)
      ·
        rw [if_neg g9, if_neg g9]
        obtain ⟨j284, e33⟩ := q_nm (((lx84.toInt64 : Int64) + (x3.toInt64 : Int64) : Int64) : Int64)
        rw [e33]
        have j284i : j284.toInt = lx84.toInt + x3.toInt := by rw [← e33]; exact q_addL (q_i2l rfl) (q_i2l rfl) (by omega) (by omega)
        obtain ⟨a275, e34⟩ := q_nm ((((f60 (lx84 / 16 : Int32).toNatClampNeg : Int32) >>> ((lx84 - lx84 / 16 * 16 : Int32) &&& 31) : Int32) &&& 1 : Int32) : Int32)
        rw [e34]
        have a275b : 0 ≤ a275.toInt ∧ a275.toInt ≤ 1 := by rw [← e34]; exact s_and (by decide)
        unfold S_WR_shift_J243 F_WR_shift_J243
        unfold S_WR_shift_J248 F_WR_shift_J248
        by_cases g35 : (lg_cmp j284 0 : Int32) < (0 : Int32)
        ·
          rw [if_pos g35, if_pos g35]
          obtain ⟨a36, e37⟩ := q_nm (lx84 + 1 : Int32)
          rw [e37]
          have a36i : a36.toInt = lx84.toInt + 1 := by rw [← e37]; exact q_addI (x := lx84.toInt) (y := 1) rfl (by decide) (by omega) (by omega)
          exact ih _ _ _ ⟨by omega, by omega⟩ (by omega) (by first | with_reducible assumption | exact w_shU ho ⟨hj, by omega⟩ a275b)
        ·
          rw [if_neg g35, if_neg g35]
          have hj := w_lc g35
          refine v_cons (by have := w_j16 (j := j284) ⟨by omega, by omega⟩; omega) ?_
          refine v_cons (by have := w_j16 (j := j284) ⟨by omega, by omega⟩; omega) ?_
          refine v_cons (by have := w_j16 (j := j284) ⟨by omega, by omega⟩; omega) ?_
          refine v_cons (by have := w_j16 (j := j284) ⟨by omega, by omega⟩; omega) ?_
          obtain ⟨a38, e39⟩ := q_nm (lx84 + 1 : Int32)
          rw [e39]
          have a38i : a38.toInt = lx84.toInt + 1 := by rw [← e39]; exact q_addI (x := lx84.toInt) (y := 1) rfl (by decide) (by omega) (by omega)
          exact ih _ _ _ ⟨by omega, by omega⟩ (by omega) (by first | with_reducible assumption | exact w_shU ho ⟨hj, by omega⟩ a275b)
theorem v_sh2 {x2 : Int32} {x3 : Int32} {x4 : Int32} {t0_0 : Int32} {t0_1 : Int32} {t0_2 : Int32} {t0_3 : Int32} {t0_4 : Int32} {t0_5 : Int32} {t0_6 : Int32} {t1_0 : (Nat → Int32)} {t2_0 : (Nat → Int32)} {t3_0 : (Nat → Int32)} {t4_0 : (Nat → Int32)} {t5_0 : (Nat → Int32)} {lx36 : Int32} {a67 : Int32} {f75 : (Nat → Int32)} {f60 : (Nat → Int32)} (hr : wR t1_0 t2_0)(hx4 : 0 ≤ x4.toInt ∧ x4.toInt ≤ 10)(ha : 0 ≤ a67.toInt ∧ a67.toInt ≤ 1) (hf : wO f60 264)(hx3 : 0 ≤ x3.toInt) (hz : (F_WR_size 264 f60).toInt ≤ 128) (hz2 : x3.toInt ≤ 2048 ∨ (F_WR_size 264 f60).toInt ≤ 0) : ∀ (n : Nat) (lx396 : Int32) (lx397 : (Nat → Int32)), (0 ≤ lx396.toInt ∧ lx396.toInt ≤ 128) → (2100 - lx396.toInt < (n : Int)) → (wO lx397 264) → (S_WR_shift_L92 x2 x3 x4 t0_0 t0_1 t0_2 t0_3 t0_4 t0_5 t0_6 t1_0 t2_0 t3_0 t4_0 t5_0 lx36 a67 f75 f60 n lx396 lx397) ∧ Q_WR_shift (F_WR_shift_L92 x2 x3 x4 t0_0 t0_1 t0_2 t0_3 t0_4 t0_5 t0_6 t1_0 t2_0 t3_0 t4_0 t5_0 lx36 a67 f75 f60 n lx396 lx397) := by
  intro n
  induction n with
  | zero => intro lx396 lx397 h0 hm ho; exact absurd (show False by omega) id
  | succ n ih =>
    intro lx396 lx397 h0 hm ho
    have e0 : (0 : Int32).toInt = 0 := rfl
    have e2048 : (2048 : Int32).toInt = 2048 := rfl
    have hxl := Int32.le_toInt x3
    rw [S_WR_shift_L92.eq_2, F_WR_shift_L92.eq_2]
    by_cases g1 : ((F_WR_size (264 : Int32) f60) : Int32) ≤ lx396
    ·
      rw [if_pos g1, if_pos g1]
      have h2 := R_store  (x2 := x4) (t0_0 := lx36) (t0_1 := (2 : Int32)) (t0_2 := t0_2) (t0_3 := a67) (t0_4 := t0_4) (t0_5 := t0_5) (t0_6 := t0_6) (t1_0 := t1_0) (t2_0 := t2_0) (t3_0 := lx397) (by first | with_reducible assumption | with_reducible exact R_cl | (with_reducible apply R_cp; first | with_reducible assumption | with_reducible exact R_cl) | (with_reducible refine wO_upd ?_ w_m16; with_reducible assumption) | (with_reducible apply wR.mi <;> with_reducible assumption)  | omega | decide) (by first | with_reducible assumption | with_reducible exact R_cl | (with_reducible apply R_cp; first | with_reducible assumption | with_reducible exact R_cl) | (with_reducible refine wO_upd ?_ w_m16; with_reducible assumption) | (with_reducible apply wR.mi <;> with_reducible assumption)  | omega | decide) (by first | with_reducible assumption | with_reducible exact R_cl | (with_reducible apply R_cp; first | with_reducible assumption | with_reducible exact R_cl) | (with_reducible refine wO_upd ?_ w_m16; with_reducible assumption) | (with_reducible apply wR.mi <;> with_reducible assumption)  | omega | decide)
      have h2r := h2.2
      with_reducible refine v_owe h2.1 ?_
      replace h2 := h2.2
      generalize F_WR_store x4 lx36 (2 : Int32) t0_2 a67 t0_4 t0_5 t0_6 t1_0 t2_0 lx397 = p451 at *
      unfold S_WR_shift_c179 F_WR_shift_c179
      refine ⟨trivial, ?_⟩
      (unfold Q_WR_shift; dsimp only; first | with_reducible assumption | exact hr)
    ·
      rw [if_neg g1, if_neg g1]
      have hs := q_nleI g1
      have hx3b : x3.toInt ≤ 2048 := by omega
      refine v_cons (by have := w_shI (i := lx396) (x := x3) (by omega) (by omega) (by omega) (by omega); omega) ?_
      refine v_cons (by have := w_shI (i := lx396) (x := x3) (by omega) (by omega) (by omega) (by omega); omega) ?_
      refine v_cons (by have := w_shI (i := lx396) (x := x3) (by omega) (by omega) (by omega) (by omega); omega) ?_
      obtain ⟨a3, e4⟩ := q_nm (lx396 + 1 : Int32)
      rw [e4]
      have a3i : a3.toInt = lx396.toInt + 1 := by rw [← e4]; exact q_addI (x := lx396.toInt) (y := 1) rfl (by decide) (by omega) (by omega)
      exact ih _ _ ⟨by omega, by omega⟩ (by omega) (w_shV ho hf (by omega) (by omega) (by omega) (by omega))
theorem T_WR_shift {x2 : Int32} {x3 : Int32} {x4 : Int32} {t0_0 : Int32} {t0_1 : Int32} {t0_2 : Int32} {t0_3 : Int32} {t0_4 : Int32} {t0_5 : Int32} {t0_6 : Int32} {t1_0 : (Nat → Int32)} {t2_0 : (Nat → Int32)} {t3_0 : (Nat → Int32)} {t4_0 : (Nat → Int32)} {t5_0 : (Nat → Int32)} (hr : wR t1_0 t2_0) : (S_WR_shift x2 x3 x4 t0_0 t0_1 t0_2 t0_3 t0_4 t0_5 t0_6 t1_0 t2_0 t3_0 t4_0 t5_0) ∧ Q_WR_shift (F_WR_shift x2 x3 x4 t0_0 t0_1 t0_2 t0_3 t0_4 t0_5 t0_6 t1_0 t2_0 t3_0 t4_0 t5_0) := by
  have e0 : (0 : Int32).toInt = 0 := rfl
  have e2048 : (2048 : Int32).toInt = 2048 := rfl
  have hxl := Int32.le_toInt x3
  unfold S_WR_shift F_WR_shift
  by_cases g1 : ((F_WR_no x2) : Int32) = (0 : Int32)
  ·
    rw [if_pos g1, if_pos g1]
    have g1r := w_no g1
    by_cases g2 : ((F_WR_no x4) : Int32) = (0 : Int32)
    ·
      rw [if_pos g2, if_pos g2]
      have g2r := w_no g2
      unfold S_WR_shift_J20 F_WR_shift_J20
      have g3 : ((0 : Int32) ≤ (0 : Int32)) := (by decide)
      rw [if_pos g3, if_pos g3]
      have h4 := R_take  (x2 := x2) (t0_0 := (0 : Int32)) (t0_1 := (2 : Int32)) (t0_2 := t0_2) (t0_3 := t0_3) (t0_4 := t0_4) (t0_5 := t0_5) (t0_6 := t0_6) (t1_0 := t1_0) (t2_0 := t5_0) (by first | with_reducible assumption | with_reducible exact R_cl | (with_reducible apply R_cp; first | with_reducible assumption | with_reducible exact R_cl) | (with_reducible refine wO_upd ?_ w_m16; with_reducible assumption) | (with_reducible apply wR.mi <;> with_reducible assumption)  | omega | decide) (wR.o (by with_reducible assumption))
      have h4k := h4.2.1
      have h4v := h4.2
      with_reducible refine v_owe h4.1 ?_
      refine v_cons (by omega) ?_
      refine v_cons (by omega) ?_
      refine v_cons (by first | omega | exact (wR.mi (by with_reducible assumption) (by with_reducible assumption)).1 | exact (wR.mi (by with_reducible assumption) (by with_reducible assumption)).2) ?_
      refine v_cons (by first | omega | exact (wR.mi (by with_reducible assumption) (by with_reducible assumption)).1 | exact (wR.mi (by with_reducible assumption) (by with_reducible assumption)).2) ?_
      by_cases g5 : x3 < (0 : Int32)
      ·
        rw [if_pos g5, if_pos g5]
        have g5i : x3.toInt < 0 := q_ltI g5
        exact v_sh1 hr (by with_reducible assumption) (wR.mi hr (by with_reducible assumption)) (by with_reducible assumption) (by omega) _ _ _ _ (by decide) (by decide) R_cl
      ·
        rw [if_neg g5, if_neg g5]
        have g5i : 0 ≤ x3.toInt := q_nltI g5
        by_cases g6 : x3 ≤ (2048 : Int32)
        ·
          rw [if_pos g6, if_pos g6]
          have g6i : x3.toInt ≤ 2048 := q_leI g6
          have h7 := R_cl  (f := t3_0)
          replace h4 := h4.2
          generalize F_WR_take x2 (264 : Int32) (0 : Int32) (2 : Int32) t0_2 t0_3 t0_4 t0_5 t0_6 t1_0 t5_0 = f60 at *
          generalize F_WR_clear (264 : Int32) t3_0 = f75 at *
          unfold S_WR_shift_J89 F_WR_shift_J89
          have hq := w_sz128 (v := wVk t1_0 x2) (by with_reducible assumption) (wVk_nn (by with_reducible assumption) (wR.o hr)).2; exact v_sh2 hr (by with_reducible assumption) (by first | with_reducible assumption | exact wR.mi hr (by with_reducible assumption)) (by with_reducible assumption) (by omega) hq (by omega) _ _ _ (by decide) (by decide) (by first | with_reducible assumption | exact R_cl)
        ·
          rw [if_neg g6, if_neg g6]
          have g6i : 2048 < x3.toInt := q_nleI g6
          by_cases g8 : ((F_WR_size (264 : Int32) ((F_WR_take x2 (264 : Int32) (0 : Int32) (2 : Int32) t0_2 t0_3 t0_4 t0_5 t0_6 t1_0 t5_0) : (Nat → Int32))) : Int32) ≤ (0 : Int32)
          ·
            rw [if_pos g8, if_pos g8]
            have hsz := q_leI g8
            have h9 := R_cl  (f := t3_0)
            replace h4 := h4.2
            generalize F_WR_take x2 (264 : Int32) (0 : Int32) (2 : Int32) t0_2 t0_3 t0_4 t0_5 t0_6 t1_0 t5_0 = f60 at *
            generalize F_WR_clear (264 : Int32) t3_0 = f75 at *
            unfold S_WR_shift_J89 F_WR_shift_J89
            have hq := w_sz128 (v := wVk t1_0 x2) (by with_reducible assumption) (wVk_nn (by with_reducible assumption) (wR.o hr)).2; exact v_sh2 hr (by with_reducible assumption) (by first | with_reducible assumption | exact wR.mi hr (by with_reducible assumption)) (by with_reducible assumption) (by omega) hq (by omega) _ _ _ (by decide) (by decide) (by first | with_reducible assumption | exact R_cl)
          ·
            rw [if_neg g8, if_neg g8]
            refine ⟨trivial, ?_⟩
            (unfold Q_WR_shift; dsimp only; first | with_reducible assumption | exact hr)
    ·
      rw [if_neg g2, if_neg g2]
      unfold S_WR_shift_J15 F_WR_shift_J15
      unfold S_WR_shift_J20 F_WR_shift_J20
      have g10 : ¬ ((1 : Int32) ≤ (0 : Int32)) := (by decide)
      rw [if_neg g10, if_neg g10]
      refine ⟨trivial, ?_⟩
      (unfold Q_WR_shift; dsimp only; first | with_reducible assumption | exact hr)
  ·
    rw [if_neg g1, if_neg g1]
    unfold S_WR_shift_J15 F_WR_shift_J15
    unfold S_WR_shift_J20 F_WR_shift_J20
    have g11 : ¬ ((1 : Int32) ≤ (0 : Int32)) := (by decide)
    rw [if_neg g11, if_neg g11]
    refine ⟨trivial, ?_⟩
    (unfold Q_WR_shift; dsimp only; first | with_reducible assumption | exact hr)

