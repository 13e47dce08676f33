/-! WholeRows: put, power, fits, root, common, inverts, inverse -/
theorem R_cmp4 {f g : Nat → Int32} (hf : wO f 264) (hg : wO g 264) : S_WR_compareRows 264 264 f g ∧ wC (F_WR_compareRows 264 264 f g) (wV f 264) (wV g 264) := R_cmp (N := 264) (M := 264) (by decide) (by decide) hf hg
theorem w_two {x : Int32} (h : 0 ≤ x.toInt) : 0 ≤ (2 - (x - x / 2 * 2) : Int32).toInt := by
  have h1 := s_rem' (x := x) (b := 2) h (by decide)
  have e2 : (2 : Int32).toInt = 2 := rfl
  generalize (x - x / 2 * 2 : Int32) = r at h1 ⊢
  have := q_subI (a := 2) (b := r) e2 rfl (by omega) (by omega)
  omega
theorem w_m16 {x : Int64} : 0 ≤ ((x &&& 65535).toInt32).toInt ∧ ((x &&& 65535).toInt32).toInt < 65536 := by
  rw [w_and']
  exact ⟨Int.emod_nonneg _ (by decide), Int.emod_lt_of_pos _ (by decide)⟩
theorem w_bitI {b : Int32} (h : 0 ≤ b.toInt) : 0 ≤ ((1 : Int32) <<< ((b - b / 16 * 16) &&& 31)).toInt ∧ ((1 : Int32) <<< ((b - b / 16 * 16) &&& 31)).toInt ≤ 65535 := by
  have h1 := s_rem' (x := b) (b := 16) h (by decide)
  have e16 : (16 : Int32).toInt = 16 := rfl
  generalize (b - b / 16 * 16 : Int32) = r at h1 ⊢
  obtain ⟨k, hk⟩ : ∃ k : Nat, r.toInt = k := ⟨r.toInt.toNat, by omega⟩
  have e := v_shlN (x := 1) hk (by omega)
  have e1 : (1 : Int32).toBitVec.toNat = 1 := by decide
  rw [e1, Nat.one_mul] at e
  have h2 : 2 ^ k ≤ 2 ^ 15 := Nat.pow_le_pow_right (by decide) (by omega)
  have h3 : 2 ^ k % 4294967296 = 2 ^ k := Nat.mod_eq_of_lt (by omega)
  rw [h3] at e
  have h4 := s_of e (by omega)
  rw [h4]
  omega
theorem w_div16 {b : Int32} (h : 0 ≤ b.toInt) : (b / 16).toInt = b.toInt / 16 := by
  have e16 : (16 : Int32).toInt = 16 := rfl
  exact q_divI rfl e16 h (by decide)
theorem w_or16 {x y : Int32} (hx : 0 ≤ x.toInt ∧ x.toInt < 65536) (hy : 0 ≤ y.toInt ∧ y.toInt ≤ 65535) : 0 ≤ (x ||| y).toInt ∧ (x ||| y).toInt < 65536 := by
  have := s_or' (x := x) (y := y) 16 (by decide) 65535 (by decide) ⟨hx.1, by omega⟩ hy
  omega
theorem w_and16 {x y : Int32} (hx : 0 ≤ x.toInt ∧ x.toInt < 65536) : 0 ≤ (x &&& y).toInt ∧ (x &&& y).toInt < 65536 := by
  have := s_andL (x := x) (m := y) hx.1
  omega
theorem w_xor16 {x y : Int32} (hx : 0 ≤ x.toInt ∧ x.toInt < 65536) (hy : 0 ≤ y.toInt ∧ y.toInt < 65536) : 0 ≤ (x ^^^ y).toInt ∧ (x ^^^ y).toInt < 65536 := by
  have := s_xor' (x := x) (y := y) 16 (by decide) 65535 (by decide) ⟨hx.1, by omega⟩ ⟨hy.1, by omega⟩
  omega
theorem w_rootU {r : Nat → Int32} {b : Int32} (ho : wO r 264) (h : 0 ≤ b.toInt) (h2 : b.toInt ≤ 4223) : wO (upd r (b / 16).toNatClampNeg ((r (b / 16).toNatClampNeg) ||| ((1 : Int32) <<< ((b - b / 16 * 16) &&& 31)))) 264 := by
  have e := w_div16 h
  have e1 := q_clI (i := b / 16) e (by omega)
  exact wO_upd ho (w_or16 (ho _ (by omega)) (w_bitI h))
theorem w_rootD {r : Nat → Int32} {b x : Int32} (ho : wO r 264) (h : 0 ≤ b.toInt) (h2 : b.toInt ≤ 4223) : wO (upd r (b / 16).toNatClampNeg ((r (b / 16).toNatClampNeg) &&& x)) 264 := by
  have e := w_div16 h
  have e1 := q_clI (i := b / 16) e (by omega)
  exact wO_upd ho (w_and16 (ho _ (by omega)))
def Q_WR_put (p : Int32 × Int32 × Int32 × Int32 × Int32 × Int32 × Int32 × (Nat → Int32) × (Nat → Int32) × (Nat → Int32)) : Prop := wR p.2.2.2.2.2.2.2.1 p.2.2.2.2.2.2.2.2.1
theorem v_putL {x2 : Int32} {x3 : Int64} {t0_0 : Int32} {t0_1 : Int32} {t0_2 : Int32} {t0_3 : Int32} {t0_4 : Int32} {t0_5 : Int32} {t0_6 : Int32} {t1_0 : (Nat → Int32)} {t2_0 : (Nat → Int32)} {t3_0 : (Nat → Int32)} {lx30 : Int32} {f49 : (Nat → Int32)} {lx57 : Int32} {lx72 : Int64} (hr : wR t1_0 t2_0)(hx2 : 0 ≤ x2.toInt ∧ x2.toInt ≤ 10) : ∀ (n : Nat) (lx84 : Int32) (lx85 : (Nat → Int32)), (0 ≤ lx84.toInt ∧ lx84.toInt ≤ 4) → (4 - lx84.toInt < (n : Int)) → (wO lx85 264) → (S_WR_put_L64 x2 x3 t0_0 t0_1 t0_2 t0_3 t0_4 t0_5 t0_6 t1_0 t2_0 t3_0 lx30 f49 lx57 lx72 n lx84 lx85) ∧ Q_WR_put (F_WR_put_L64 x2 x3 t0_0 t0_1 t0_2 t0_3 t0_4 t0_5 t0_6 t1_0 t2_0 t3_0 lx30 f49 lx57 lx72 n lx84 lx85) := by
  intro n
  induction n with
  | zero => intro lx84 lx85 h0 hm ho; exact absurd (show False by omega) id
  | succ n ih =>
    intro lx84 lx85 h0 hm ho
    have e4 : (4 : Int32).toInt = 4 := rfl
    rw [S_WR_put_L64.eq_2, F_WR_put_L64.eq_2]
    by_cases g1 : (4 : Int32) ≤ lx84
    ·
      rw [if_pos g1, if_pos g1]
      have g1i : 4 ≤ lx84.toInt := q_leI g1
      have h2 := R_store  (x2 := x2) (t0_0 := lx30) (t0_1 := t0_1) (t0_2 := t0_2) (t0_3 := lx57) (t0_4 := t0_4) (t0_5 := t0_5) (t0_6 := t0_6) (t1_0 := t1_0) (t2_0 := t2_0) (t3_0 := lx85) (by first | with_reducible assumption | with_reducible exact R_cl | (with_reducible apply R_cp; first | with_reducible assumption | with_reducible exact R_cl) | (with_reducible refine wO_upd ?_ w_m16; with_reducible assumption) | (with_reducible apply wR.mi <;> with_reducible assumption) | omega | decide) (by first | with_reducible assumption | with_reducible exact R_cl | (with_reducible apply R_cp; first | with_reducible assumption | with_reducible exact R_cl) | (with_reducible refine wO_upd ?_ w_m16; with_reducible assumption) | (with_reducible apply wR.mi <;> with_reducible assumption) | omega | decide) (by first | with_reducible assumption | with_reducible exact R_cl | (with_reducible apply R_cp; first | with_reducible assumption | with_reducible exact R_cl) | (with_reducible refine wO_upd ?_ w_m16; with_reducible assumption) | (with_reducible apply wR.mi <;> with_reducible assumption) | omega | decide)
      have h2r := h2.2
      with_reducible refine v_owe h2.1 ?_
      replace h2 := h2.2
      generalize F_WR_store x2 lx30 t0_1 t0_2 lx57 t0_4 t0_5 t0_6 t1_0 t2_0 lx85 = p130 at *
      unfold S_WR_put_c98 F_WR_put_c98
      refine ⟨trivial, ?_⟩
      (unfold Q_WR_put; dsimp only; first | with_reducible assumption | exact hr)
    ·
      rw [if_neg g1, if_neg g1]
      have g1i : lx84.toInt < 4 := q_nleI g1
      obtain ⟨a3, e4⟩ := q_nm (lx84 + 1 : Int32)
      rw [e4]
      have a3i : a3.toInt = lx84.toInt + 1 := by rw [← e4]; exact q_addI (x := lx84.toInt) (y := 1) rfl (by decide) (by omega) (by omega)
      exact ih _ _ (by first | with_reducible assumption | with_reducible exact R_cl | (with_reducible apply R_cp; first | with_reducible assumption | with_reducible exact R_cl) | (with_reducible refine wO_upd ?_ w_m16; with_reducible assumption) | (with_reducible apply wR.mi <;> with_reducible assumption) | omega | decide) (by first | with_reducible assumption | with_reducible exact R_cl | (with_reducible apply R_cp; first | with_reducible assumption | with_reducible exact R_cl) | (with_reducible refine wO_upd ?_ w_m16; with_reducible assumption) | (with_reducible apply wR.mi <;> with_reducible assumption) | omega | decide) (by first | with_reducible assumption | with_reducible exact R_cl | (with_reducible apply R_cp; first | with_reducible assumption | with_reducible exact R_cl) | (with_reducible refine wO_upd ?_ w_m16; with_reducible assumption) | (with_reducible apply wR.mi <;> with_reducible assumption) | omega | decide)
theorem T_WR_put {x2 : Int32} {x3 : Int64} {t0_0 : Int32} {t0_1 : Int32} {t0_2 : Int32} {t0_3 : Int32} {t0_4 : Int32} {t0_5 : Int32} {t0_6 : Int32} {t1_0 : (Nat → Int32)} {t2_0 : (Nat → Int32)} {t3_0 : (Nat → Int32)} (hr : wR t1_0 t2_0) : (S_WR_put x2 x3 t0_0 t0_1 t0_2 t0_3 t0_4 t0_5 t0_6 t1_0 t2_0 t3_0) ∧ Q_WR_put (F_WR_put x2 x3 t0_0 t0_1 t0_2 t0_3 t0_4 t0_5 t0_6 t1_0 t2_0 t3_0) := by
  have e0 : (0 : Int32).toInt = 0 := rfl
  unfold S_WR_put F_WR_put
  by_cases g1 : ((F_WR_no x2) : Int32) = (0 : Int32)
  ·
    rw [if_pos g1, if_pos g1]
    have g1r := w_no g1
    unfold S_WR_put_J13 F_WR_put_J13
    have g2 : ((0 : Int32) ≤ (0 : Int32)) := (by decide)
    rw [if_pos g2, if_pos g2]
    by_cases g3 : (0 : Int32) ≤ (lg_cmp x3 0 : Int32)
    ·
      rw [if_pos g3, if_pos g3]
      have h4 := R_cl  (f := t3_0)
      generalize F_WR_clear (264 : Int32) t3_0 = f49 at *
      unfold S_WR_put_J43 F_WR_put_J43
      have g5 : ((0 : Int32) = (0 : Int32)) := (by decide)
      rw [if_pos g5, if_pos g5]
      unfold S_WR_put_J59 F_WR_put_J59
      exact v_putL hr (by first | with_reducible assumption | with_reducible exact R_cl | (with_reducible apply R_cp; first | with_reducible assumption | with_reducible exact R_cl) | (with_reducible refine wO_upd ?_ w_m16; with_reducible assumption) | (with_reducible apply wR.mi <;> with_reducible assumption) | omega | decide) _ _ _ (by first | with_reducible assumption | with_reducible exact R_cl | (with_reducible apply R_cp; first | with_reducible assumption | with_reducible exact R_cl) | (with_reducible refine wO_upd ?_ w_m16; with_reducible assumption) | (with_reducible apply wR.mi <;> with_reducible assumption) | omega | decide) (by first | with_reducible assumption | with_reducible exact R_cl | (with_reducible apply R_cp; first | with_reducible assumption | with_reducible exact R_cl) | (with_reducible refine wO_upd ?_ w_m16; with_reducible assumption) | (with_reducible apply wR.mi <;> with_reducible assumption) | omega | decide) (by first | with_reducible assumption | with_reducible exact R_cl | (with_reducible apply R_cp; first | with_reducible assumption | with_reducible exact R_cl) | (with_reducible refine wO_upd ?_ w_m16; with_reducible assumption) | (with_reducible apply wR.mi <;> with_reducible assumption) | omega | decide)
    ·
      rw [if_neg g3, if_neg g3]
      have h6 := R_cl  (f := t3_0)
      generalize F_WR_clear (264 : Int32) t3_0 = f49 at *
      unfold S_WR_put_J43 F_WR_put_J43
      have g7 : ¬ ((1 : Int32) = (0 : Int32)) := (by decide)
      rw [if_neg g7, if_neg g7]
      unfold S_WR_put_J59 F_WR_put_J59
      exact v_putL hr (by first | with_reducible assumption | with_reducible exact R_cl | (with_reducible apply R_cp; first | with_reducible assumption | with_reducible exact R_cl) | (with_reducible refine wO_upd ?_ w_m16; with_reducible assumption) | (with_reducible apply wR.mi <;> with_reducible assumption) | omega | decide) _ _ _ (by first | with_reducible assumption | with_reducible exact R_cl | (with_reducible apply R_cp; first | with_reducible assumption | with_reducible exact R_cl) | (with_reducible refine wO_upd ?_ w_m16; with_reducible assumption) | (with_reducible apply wR.mi <;> with_reducible assumption) | omega | decide) (by first | with_reducible assumption | with_reducible exact R_cl | (with_reducible apply R_cp; first | with_reducible assumption | with_reducible exact R_cl) | (with_reducible refine wO_upd ?_ w_m16; with_reducible assumption) | (with_reducible apply wR.mi <;> with_reducible assumption) | omega | decide) (by first | with_reducible assumption | with_reducible exact R_cl | (with_reducible apply R_cp; first | with_reducible assumption | with_reducible exact R_cl) | (with_reducible refine wO_upd ?_ w_m16; with_reducible assumption) | (with_reducible apply wR.mi <;> with_reducible assumption) | omega | decide)
  ·
    rw [if_neg g1, if_neg g1]
    unfold S_WR_put_J13 F_WR_put_J13
    have g8 : ¬ ((1 : Int32) ≤ (0 : Int32)) := (by decide)
    rw [if_neg g8, if_neg g8]
    refine ⟨trivial, ?_⟩
    (unfold Q_WR_put; dsimp only; first | with_reducible assumption | exact hr)
def Q_WR_power (p : Int32 × Int32 × Int32 × Int32 × Int32 × Int32 × Int32 × (Nat → Int32) × (Nat → Int32) × (Nat → Int32) × (Nat → Int32) × (Nat → Int32)) : Prop := wR p.2.2.2.2.2.2.2.1 p.2.2.2.2.2.2.2.2.1
theorem v_powL {x2 : Int32} {x3 : Int32} {x4 : Int32} {t0_0 : Int32} {t0_1 : Int32} {t0_2 : Int32} {t0_3 : Int32} {t0_4 : Int32} {t0_5 : Int32} {t0_6 : Int32} {t1_0 : (Nat → Int32)} {t2_0 : (Nat → Int32)} {t3_0 : (Nat → Int32)} {t4_0 : (Nat → Int32)} {t5_0 : (Nat → Int32)} {lx36 : Int32} {f68 : (Nat → Int32)} {f60 : (Nat → Int32)} {lx80 : Int32} {lx95 : Int32} (hr : wR t1_0 t2_0)(hx2 : 0 ≤ x2.toInt ∧ x2.toInt ≤ 10)(hx4 : 0 ≤ x4.toInt ∧ x4.toInt ≤ 10)(hf : wO f60 264) : ∀ (n : Nat) (lx110 : Int32) (lx111 : (Nat → Int32)) (lx112 : (Nat → Int32)), (0 ≤ lx110.toInt) → (lx95.toInt - lx110.toInt < (n : Int)) → (lx110.toInt ≤ lx95.toInt) → (wO lx111 264) → (S_WR_power_L119 x2 x3 x4 t0_0 t0_1 t0_2 t0_3 t0_4 t0_5 t0_6 t1_0 t2_0 t3_0 t4_0 t5_0 lx36 f68 f60 lx80 lx95 n lx110 lx111 lx112) ∧ Q_WR_power (F_WR_power_L119 x2 x3 x4 t0_0 t0_1 t0_2 t0_3 t0_4 t0_5 t0_6 t1_0 t2_0 t3_0 t4_0 t5_0 lx36 f68 f60 lx80 lx95 n lx110 lx111 lx112) := by
  intro n
  induction n with
  | zero => intro lx110 lx111 lx112 h0 hm hl ho; exact absurd (show False by omega) id
  | succ n ih =>
    intro lx110 lx111 lx112 h0 hm hl ho
    have hb := Int32.toInt_lt lx95
    rw [S_WR_power_L119.eq_2, F_WR_power_L119.eq_2]
    by_cases g1 : lx95 ≤ lx110
    ·
      rw [if_pos g1, if_pos g1]
      have g1i : lx95.toInt ≤ lx110.toInt := q_leI g1
      refine v_cons (by omega) ?_
      refine v_cons (by omega) ?_
      by_cases g2 : (t2_0 x2.toNatClampNeg : Int32) = (0 : Int32)
      ·
        rw [if_pos g2, if_pos g2]
        have h3 := R_store  (x2 := x4) (t0_0 := lx36) (t0_1 := (2 : Int32)) (t0_2 := t0_2) (t0_3 := (0 : Int32)) (t0_4 := t0_4) (t0_5 := t0_5) (t0_6 := t0_6) (t1_0 := t1_0) (t2_0 := t2_0) (t3_0 := lx111) (by first | with_reducible assumption | with_reducible exact R_cl | (with_reducible apply R_cp; first | with_reducible assumption | with_reducible exact R_cl) | (with_reducible refine wO_upd ?_ w_m16; with_reducible assumption) | (with_reducible apply wR.mi <;> with_reducible assumption) | omega | decide) (by first | with_reducible assumption | with_reducible exact R_cl | (with_reducible apply R_cp; first | with_reducible assumption | with_reducible exact R_cl) | (with_reducible refine wO_upd ?_ w_m16; with_reducible assumption) | (with_reducible apply wR.mi <;> with_reducible assumption) | omega | decide) (by first | with_reducible assumption | with_reducible exact R_cl | (with_reducible apply R_cp; first | with_reducible assumption | with_reducible exact R_cl) | (with_reducible refine wO_upd ?_ w_m16; with_reducible assumption) | (with_reducible apply wR.mi <;> with_reducible assumption) | omega | decide)
        have h3r := h3.2
        with_reducible refine v_owe h3.1 ?_
        replace h3 := h3.2
        generalize F_WR_store x4 lx36 (2 : Int32) t0_2 (0 : Int32) t0_4 t0_5 t0_6 t1_0 t2_0 lx111 = p166 at *
        unfold S_WR_power_c194 F_WR_power_c194
        refine ⟨trivial, ?_⟩
        (unfold Q_WR_power; dsimp only; first | with_reducible assumption | exact hr)
      ·
        rw [if_neg g2, if_neg g2]
        by_cases g4 : (x3 - x3 / 2 * 2 : Int32) = (1 : Int32)
        ·
          rw [if_pos g4, if_pos g4]
          have h5 := R_store  (x2 := x4) (t0_0 := lx36) (t0_1 := (2 : Int32)) (t0_2 := t0_2) (t0_3 := (1 : Int32)) (t0_4 := t0_4) (t0_5 := t0_5) (t0_6 := t0_6) (t1_0 := t1_0) (t2_0 := t2_0) (t3_0 := lx111) (by first | with_reducible assumption | with_reducible exact R_cl | (with_reducible apply R_cp; first | with_reducible assumption | with_reducible exact R_cl) | (with_reducible refine wO_upd ?_ w_m16; with_reducible assumption) | (with_reducible apply wR.mi <;> with_reducible assumption) | omega | decide) (by first | with_reducible assumption | with_reducible exact R_cl | (with_reducible apply R_cp; first | with_reducible assumption | with_reducible exact R_cl) | (with_reducible refine wO_upd ?_ w_m16; with_reducible assumption) | (with_reducible apply wR.mi <;> with_reducible assumption) | omega | decide) (by first | with_reducible assumption | with_reducible exact R_cl | (with_reducible apply R_cp; first | with_reducible assumption | with_reducible exact R_cl) | (with_reducible refine wO_upd ?_ w_m16; with_reducible assumption) | (with_reducible apply wR.mi <;> with_reducible assumption) | omega | decide)
          have h5r := h5.2
          with_reducible refine v_owe h5.1 ?_
          replace h5 := h5.2
          generalize F_WR_store x4 lx36 (2 : Int32) t0_2 (1 : Int32) t0_4 t0_5 t0_6 t1_0 t2_0 lx111 = p266 at *
          unfold S_WR_power_c194_7 F_WR_power_c194_7
          refine ⟨trivial, ?_⟩
          (unfold Q_WR_power; dsimp only; first | with_reducible assumption | exact hr)
        ·
          rw [if_neg g4, if_neg g4]
          have h6 := R_store  (x2 := x4) (t0_0 := lx36) (t0_1 := (2 : Int32)) (t0_2 := t0_2) (t0_3 := (0 : Int32)) (t0_4 := t0_4) (t0_5 := t0_5) (t0_6 := t0_6) (t1_0 := t1_0) (t2_0 := t2_0) (t3_0 := lx111) (by first | with_reducible assumption | with_reducible exact R_cl | (with_reducible apply R_cp; first | with_reducible assumption | with_reducible exact R_cl) | (with_reducible refine wO_upd ?_ w_m16; with_reducible assumption) | (with_reducible apply wR.mi <;> with_reducible assumption) | omega | decide) (by first | with_reducible assumption | with_reducible exact R_cl | (with_reducible apply R_cp; first | with_reducible assumption | with_reducible exact R_cl) | (with_reducible refine wO_upd ?_ w_m16; with_reducible assumption) | (with_reducible apply wR.mi <;> with_reducible assumption) | omega | decide) (by first | with_reducible assumption | with_reducible exact R_cl | (with_reducible apply R_cp; first | with_reducible assumption | with_reducible exact R_cl) | (with_reducible refine wO_upd ?_ w_m16; with_reducible assumption) | (with_reducible apply wR.mi <;> with_reducible assumption) | omega | decide)
          have h6r := h6.2
          with_reducible refine v_owe h6.1 ?_
          replace h6 := h6.2
          generalize F_WR_store x4 lx36 (2 : Int32) t0_2 (0 : Int32) t0_4 t0_5 t0_6 t1_0 t2_0 lx111 = p218 at *
          unfold S_WR_power_c194_6 F_WR_power_c194_6
          refine ⟨trivial, ?_⟩
          (unfold Q_WR_power; dsimp only; first | with_reducible assumption | exact hr)
    ·
      rw [if_neg g1, if_neg g1]
      have g1i : lx110.toInt < lx95.toInt := q_nleI g1
      have h7 := R_mul4a  (t0_0 := lx36) (t0_1 := (2 : Int32)) (t0_2 := t0_2) (t0_3 := t0_3) (t0_4 := t0_4) (t0_5 := t0_5) (t0_6 := t0_6) (t1_0 := lx112) (t2_0 := lx111) (t3_0 := f60) (by first | with_reducible assumption | with_reducible exact R_cl | (with_reducible apply R_cp; first | with_reducible assumption | with_reducible exact R_cl) | (with_reducible refine wO_upd ?_ w_m16; with_reducible assumption) | (with_reducible apply wR.mi <;> with_reducible assumption) | omega | decide) (by first | with_reducible assumption | with_reducible exact R_cl | (with_reducible apply R_cp; first | with_reducible assumption | with_reducible exact R_cl) | (with_reducible refine wO_upd ?_ w_m16; with_reducible assumption) | (with_reducible apply wR.mi <;> with_reducible assumption) | omega | decide)
      have h7k := h7.2
      with_reducible refine v_owe h7.1 ?_
      replace h7 := h7.2
      generalize F_WR_multiplyRows_a (264 : Int32) (264 : Int32) lx36 (2 : Int32) t0_2 t0_3 t0_4 t0_5 t0_6 lx112 lx111 f60 = p292 at *
      unfold S_WR_power_c139 F_WR_power_c139
      by_cases g8 : ((F_WR_size (264 : Int32) (p292.2 : (Nat → Int32))) : Int32) ≤ (128 : Int32)
      ·
        rw [if_pos g8, if_pos g8]
        obtain ⟨a9, e10⟩ := q_nm (lx110 + 1 : Int32)
        rw [e10]
        have a9i : a9.toInt = lx110.toInt + 1 := by rw [← e10]; exact q_addI (x := lx110.toInt) (y := 1) rfl (by decide) (by omega) (by omega)
        exact ih _ _ _ (by first | with_reducible assumption | with_reducible exact R_cl | (with_reducible apply R_cp; first | with_reducible assumption | with_reducible exact R_cl) | (with_reducible refine wO_upd ?_ w_m16; with_reducible assumption) | (with_reducible apply wR.mi <;> with_reducible assumption) | omega | decide) (by first | with_reducible assumption | with_reducible exact R_cl | (with_reducible apply R_cp; first | with_reducible assumption | with_reducible exact R_cl) | (with_reducible refine wO_upd ?_ w_m16; with_reducible assumption) | (with_reducible apply wR.mi <;> with_reducible assumption) | omega | decide) (by first | with_reducible assumption | with_reducible exact R_cl | (with_reducible apply R_cp; first | with_reducible assumption | with_reducible exact R_cl) | (with_reducible refine wO_upd ?_ w_m16; with_reducible assumption) | (with_reducible apply wR.mi <;> with_reducible assumption) | omega | decide) (by first | with_reducible assumption | with_reducible exact R_cl | (with_reducible apply R_cp; first | with_reducible assumption | with_reducible exact R_cl) | (with_reducible refine wO_upd ?_ w_m16; with_reducible assumption) | (with_reducible apply wR.mi <;> with_reducible assumption) | omega | decide)
      ·
        rw [if_neg g8, if_neg g8]
        refine ⟨trivial, ?_⟩
        (unfold Q_WR_power; dsimp only; first | with_reducible assumption | exact hr)
theorem T_WR_power {x2 : Int32} {x3 : Int32} {x4 : Int32} {t0_0 : Int32} {t0_1 : Int32} {t0_2 : Int32} {t0_3 : Int32} {t0_4 : Int32} {t0_5 : Int32} {t0_6 : Int32} {t1_0 : (Nat → Int32)} {t2_0 : (Nat → Int32)} {t3_0 : (Nat → Int32)} {t4_0 : (Nat → Int32)} {t5_0 : (Nat → Int32)} (hr : wR t1_0 t2_0) : (S_WR_power x2 x3 x4 t0_0 t0_1 t0_2 t0_3 t0_4 t0_5 t0_6 t1_0 t2_0 t3_0 t4_0 t5_0) ∧ Q_WR_power (F_WR_power x2 x3 x4 t0_0 t0_1 t0_2 t0_3 t0_4 t0_5 t0_6 t1_0 t2_0 t3_0 t4_0 t5_0) := by
  have e0 : (0 : Int32).toInt = 0 := rfl
  unfold S_WR_power F_WR_power
  by_cases g1 : ((F_WR_no x2) : Int32) = (0 : Int32)
  ·
    rw [if_pos g1, if_pos g1]
    have g1r := w_no g1
    by_cases g2 : ((F_WR_no x4) : Int32) = (0 : Int32)
    ·
      rw [if_pos g2, if_pos g2]
      have g2r := w_no g2
      by_cases g3 : (0 : Int32) ≤ x3
      ·
        rw [if_pos g3, if_pos g3]
        have g3i : 0 ≤ x3.toInt := q_leI g3
        unfold S_WR_power_J24 F_WR_power_J24
        have g4 : ((0 : Int32) ≤ (0 : Int32)) := (by decide)
        rw [if_pos g4, if_pos g4]
        have h5 := R_take  (x2 := x2) (t0_0 := (0 : Int32)) (t0_1 := (2 : Int32)) (t0_2 := t0_2) (t0_3 := t0_3) (t0_4 := t0_4) (t0_5 := t0_5) (t0_6 := t0_6) (t1_0 := t1_0) (t2_0 := t5_0) (by first | with_reducible assumption | with_reducible exact R_cl | (with_reducible apply R_cp; first | with_reducible assumption | with_reducible exact R_cl) | (with_reducible refine wO_upd ?_ w_m16; with_reducible assumption) | (with_reducible apply wR.mi <;> with_reducible assumption) | omega | decide) (wR.o (by with_reducible assumption))
        have h5k := h5.2.1
        have h5v := h5.2
        with_reducible refine v_owe h5.1 ?_
        have h6 := R_setOne  (t0_0 := (0 : Int32)) (t0_1 := (2 : Int32)) (t0_2 := t0_2) (t0_3 := t0_3) (t0_4 := t0_4) (t0_5 := t0_5) (t0_6 := t0_6) (f := t3_0) 
        have h6k := h6.2.1
        with_reducible refine v_owe h6.1 ?_
        by_cases g7 : ((F_WR_size (264 : Int32) ((F_WR_take x2 (264 : Int32) (0 : Int32) (2 : Int32) t0_2 t0_3 t0_4 t0_5 t0_6 t1_0 t5_0) : (Nat → Int32))) : Int32) = (0 : Int32)
        ·
          rw [if_pos g7, if_pos g7]
          replace h5 := h5.2
          generalize F_WR_take x2 (264 : Int32) (0 : Int32) (2 : Int32) t0_2 t0_3 t0_4 t0_5 t0_6 t1_0 t5_0 = f60 at *
          replace h6 := h6.2
          generalize F_WR_setOne (264 : Int32) (0 : Int32) (2 : Int32) t0_2 t0_3 t0_4 t0_5 t0_6 t3_0 = f68 at *
          unfold S_WR_power_J88 F_WR_power_J88
          unfold S_WR_power_J93 F_WR_power_J93
          have g8 : ¬ ((1 : Int32) = (0 : Int32)) := (by decide)
          rw [if_neg g8, if_neg g8]
          by_cases g9 : x3 ≤ (2 : Int32)
          ·
            rw [if_pos g9, if_pos g9]
            have g9i : x3.toInt ≤ 2 := q_leI g9
            unfold S_WR_power_J113 F_WR_power_J113
            unfold S_WR_power_J114 F_WR_power_J114
            exact v_powL hr (by first | with_reducible assumption | with_reducible exact R_cl | (with_reducible apply R_cp; first | with_reducible assumption | with_reducible exact R_cl) | (with_reducible refine wO_upd ?_ w_m16; with_reducible assumption) | (with_reducible apply wR.mi <;> with_reducible assumption) | omega | decide) (by first | with_reducible assumption | with_reducible exact R_cl | (with_reducible apply R_cp; first | with_reducible assumption | with_reducible exact R_cl) | (with_reducible refine wO_upd ?_ w_m16; with_reducible assumption) | (with_reducible apply wR.mi <;> with_reducible assumption) | omega | decide) (by first | with_reducible assumption | with_reducible exact R_cl | (with_reducible apply R_cp; first | with_reducible assumption | with_reducible exact R_cl) | (with_reducible refine wO_upd ?_ w_m16; with_reducible assumption) | (with_reducible apply wR.mi <;> with_reducible assumption) | omega | decide) _ _ _ _ (by first | with_reducible assumption | with_reducible exact R_cl | (with_reducible apply R_cp; first | with_reducible assumption | with_reducible exact R_cl) | (with_reducible refine wO_upd ?_ w_m16; with_reducible assumption) | (with_reducible apply wR.mi <;> with_reducible assumption) | omega | decide) (by first | with_reducible assumption | with_reducible exact R_cl | (with_reducible apply R_cp; first | with_reducible assumption | with_reducible exact R_cl) | (with_reducible refine wO_upd ?_ w_m16; with_reducible assumption) | (with_reducible apply wR.mi <;> with_reducible assumption) | omega | decide) (by first | with_reducible assumption | with_reducible exact R_cl | (with_reducible apply R_cp; first | with_reducible assumption | with_reducible exact R_cl) | (with_reducible refine wO_upd ?_ w_m16; with_reducible assumption) | (with_reducible apply wR.mi <;> with_reducible assumption) | omega | decide) (by first | with_reducible assumption | with_reducible exact R_cl | (with_reducible apply R_cp; first | with_reducible assumption | with_reducible exact R_cl) | (with_reducible refine wO_upd ?_ w_m16; with_reducible assumption) | (with_reducible apply wR.mi <;> with_reducible assumption) | omega | decide)
          ·
            rw [if_neg g9, if_neg g9]
            have g9i : 2 < x3.toInt := q_nleI g9
            obtain ⟨lx95, e10⟩ := q_nm ((2 - (x3 - x3 / 2 * 2 : Int32) : Int32) : Int32)
            rw [e10]
            have lx95b : 0 ≤ lx95.toInt := by rw [← e10]; exact w_two (by omega)
            unfold S_WR_power_J114 F_WR_power_J114
            exact v_powL hr (by first | with_reducible assumption | with_reducible exact R_cl | (with_reducible apply R_cp; first | with_reducible assumption | with_reducible exact R_cl) | (with_reducible refine wO_upd ?_ w_m16; with_reducible assumption) | (with_reducible apply wR.mi <;> with_reducible assumption) | omega | decide) (by first | with_reducible assumption | with_reducible exact R_cl | (with_reducible apply R_cp; first | with_reducible assumption | with_reducible exact R_cl) | (with_reducible refine wO_upd ?_ w_m16; with_reducible assumption) | (with_reducible apply wR.mi <;> with_reducible assumption) | omega | decide) (by first | with_reducible assumption | with_reducible exact R_cl | (with_reducible apply R_cp; first | with_reducible assumption | with_reducible exact R_cl) | (with_reducible refine wO_upd ?_ w_m16; with_reducible assumption) | (with_reducible apply wR.mi <;> with_reducible assumption) | omega | decide) _ _ _ _ (by first | with_reducible assumption | with_reducible exact R_cl | (with_reducible apply R_cp; first | with_reducible assumption | with_reducible exact R_cl) | (with_reducible refine wO_upd ?_ w_m16; with_reducible assumption) | (with_reducible apply wR.mi <;> with_reducible assumption) | omega | decide) (by first | with_reducible assumption | with_reducible exact R_cl | (with_reducible apply R_cp; first | with_reducible assumption | with_reducible exact R_cl) | (with_reducible refine wO_upd ?_ w_m16; with_reducible assumption) | (with_reducible apply wR.mi <;> with_reducible assumption) | omega | decide) (by first | with_reducible assumption | with_reducible exact R_cl | (with_reducible apply R_cp; first | with_reducible assumption | with_reducible exact R_cl) | (with_reducible refine wO_upd ?_ w_m16; with_reducible assumption) | (with_reducible apply wR.mi <;> with_reducible assumption) | omega | decide) (by first | with_reducible assumption | with_reducible exact R_cl | (with_reducible apply R_cp; first | with_reducible assumption | with_reducible exact R_cl) | (with_reducible refine wO_upd ?_ w_m16; with_reducible assumption) | (with_reducible apply wR.mi <;> with_reducible assumption) | omega | decide)
        ·
          rw [if_neg g7, if_neg g7]
          by_cases g11 : ((F_WR_size (264 : Int32) ((F_WR_take x2 (264 : Int32) (0 : Int32) (2 : Int32) t0_2 t0_3 t0_4 t0_5 t0_6 t1_0 t5_0) : (Nat → Int32))) : Int32) = (1 : Int32)
          ·
            rw [if_pos g11, if_pos g11]
            by_cases g12 : (((F_WR_take x2 (264 : Int32) (0 : Int32) (2 : Int32) t0_2 t0_3 t0_4 t0_5 t0_6 t1_0 t5_0) : (Nat → Int32)) (0 : Int32).toNatClampNeg : Int32) = (1 : Int32)
            ·
              rw [if_pos g12, if_pos g12]
              replace h5 := h5.2
              generalize F_WR_take x2 (264 : Int32) (0 : Int32) (2 : Int32) t0_2 t0_3 t0_4 t0_5 t0_6 t1_0 t5_0 = f60 at *
              replace h6 := h6.2
              generalize F_WR_setOne (264 : Int32) (0 : Int32) (2 : Int32) t0_2 t0_3 t0_4 t0_5 t0_6 t3_0 = f68 at *
              unfold S_WR_power_J88 F_WR_power_J88
              unfold S_WR_power_J93 F_WR_power_J93
              have g13 : ¬ ((1 : Int32) = (0 : Int32)) := (by decide)
              rw [if_neg g13, if_neg g13]
              by_cases g14 : x3 ≤ (2 : Int32)
              ·
                rw [if_pos g14, if_pos g14]
                have g14i : x3.toInt ≤ 2 := q_leI g14
                unfold S_WR_power_J113 F_WR_power_J113
                unfold S_WR_power_J114 F_WR_power_J114
                exact v_powL hr (by first | with_reducible assumption | with_reducible exact R_cl | (with_reducible apply R_cp; first | with_reducible assumption | with_reducible exact R_cl) | (with_reducible refine wO_upd ?_ w_m16; with_reducible assumption) | (with_reducible apply wR.mi <;> with_reducible assumption) | omega | decide) (by first | with_reducible assumption | with_reducible exact R_cl | (with_reducible apply R_cp; first | with_reducible assumption | with_reducible exact R_cl) | (with_reducible refine wO_upd ?_ w_m16; with_reducible assumption) | (with_reducible apply wR.mi <;> with_reducible assumption) | omega | decide) (by first | with_reducible assumption | with_reducible exact R_cl | (with_reducible apply R_cp; first | with_reducible assumption | with_reducible exact R_cl) | (with_reducible refine wO_upd ?_ w_m16; with_reducible assumption) | (with_reducible apply wR.mi <;> with_reducible assumption) | omega | decide) _ _ _ _ (by first | with_reducible assumption | with_reducible exact R_cl | (with_reducible apply R_cp; first | with_reducible assumption | with_reducible exact R_cl) | (with_reducible refine wO_upd ?_ w_m16; with_reducible assumption) | (with_reducible apply wR.mi <;> with_reducible assumption) | omega | decide) (by first | with_reducible assumption | with_reducible exact R_cl | (with_reducible apply R_cp; first | with_reducible assumption | with_reducible exact R_cl) | (with_reducible refine wO_upd ?_ w_m16; with_reducible assumption) | (with_reducible apply wR.mi <;> with_reducible assumption) | omega | decide) (by first | with_reducible assumption | with_reducible exact R_cl | (with_reducible apply R_cp; first | with_reducible assumption | with_reducible exact R_cl) | (with_reducible refine wO_upd ?_ w_m16; with_reducible assumption) | (with_reducible apply wR.mi <;> with_reducible assumption) | omega | decide) (by first | with_reducible assumption | with_reducible exact R_cl | (with_reducible apply R_cp; first | with_reducible assumption | with_reducible exact R_cl) | (with_reducible refine wO_upd ?_ w_m16; with_reducible assumption) | (with_reducible apply wR.mi <;> with_reducible assumption) | omega | decide)
              ·
                rw [if_neg g14, if_neg g14]
                have g14i : 2 < x3.toInt := q_nleI g14
                obtain ⟨lx95, e15⟩ := q_nm ((2 - (x3 - x3 / 2 * 2 : Int32) : Int32) : Int32)
                rw [e15]
                have lx95b : 0 ≤ lx95.toInt := by rw [← e15]; exact w_two (by omega)
                unfold S_WR_power_J114 F_WR_power_J114
                exact v_powL hr (by first | with_reducible assumption | with_reducible exact R_cl | (with_reducible apply R_cp; first | with_reducible assumption | with_reducible exact R_cl) | (with_reducible refine wO_upd ?_ w_m16; with_reducible assumption) | (with_reducible apply wR.mi <;> with_reducible assumption) | omega | decide) (by first | with_reducible assumption | with_reducible exact R_cl | (with_reducible apply R_cp; first | with_reducible assumption | with_reducible exact R_cl) | (with_reducible refine wO_upd ?_ w_m16; with_reducible assumption) | (with_reducible apply wR.mi <;> with_reducible assumption) | omega | decide) (by first | with_reducible assumption | with_reducible exact R_cl | (with_reducible apply R_cp; first | with_reducible assumption | with_reducible exact R_cl) | (with_reducible refine wO_upd ?_ w_m16; with_reducible assumption) | (with_reducible apply wR.mi <;> with_reducible assumption) | omega | decide) _ _ _ _ (by first | with_reducible assumption | with_reducible exact R_cl | (with_reducible apply R_cp; first | with_reducible assumption | with_reducible exact R_cl) | (with_reducible refine wO_upd ?_ w_m16; with_reducible assumption) | (with_reducible apply wR.mi <;> with_reducible assumption) | omega | decide) (by first | with_reducible assumption | with_reducible exact R_cl | (with_reducible apply R_cp; first | with_reducible assumption | with_reducible exact R_cl) | (with_reducible refine wO_upd ?_ w_m16; with_reducible assumption) | (with_reducible apply wR.mi <;> with_reducible assumption) | omega | decide) (by first | with_reducible assumption | with_reducible exact R_cl | (with_reducible apply R_cp; first | with_reducible assumption | with_reducible exact R_cl) | (with_reducible refine wO_upd ?_ w_m16; with_reducible assumption) | (with_reducible apply wR.mi <;> with_reducible assumption) | omega | decide) (by first | with_reducible assumption | with_reducible exact R_cl | (with_reducible apply R_cp; first | with_reducible assumption | with_reducible exact R_cl) | (with_reducible refine wO_upd ?_ w_m16; with_reducible assumption) | (with_reducible apply wR.mi <;> with_reducible assumption) | omega | decide)
            ·
              rw [if_neg g12, if_neg g12]
              replace h5 := h5.2
              generalize F_WR_take x2 (264 : Int32) (0 : Int32) (2 : Int32) t0_2 t0_3 t0_4 t0_5 t0_6 t1_0 t5_0 = f60 at *
              replace h6 := h6.2
              generalize F_WR_setOne (264 : Int32) (0 : Int32) (2 : Int32) t0_2 t0_3 t0_4 t0_5 t0_6 t3_0 = f68 at *
              unfold S_WR_power_J92 F_WR_power_J92
              unfold S_WR_power_J93 F_WR_power_J93
              have g16 : ((0 : Int32) = (0 : Int32)) := (by decide)
              rw [if_pos g16, if_pos g16]
              unfold S_WR_power_J113 F_WR_power_J113
              unfold S_WR_power_J114 F_WR_power_J114
              exact v_powL hr (by first | with_reducible assumption | with_reducible exact R_cl | (with_reducible apply R_cp; first | with_reducible assumption | with_reducible exact R_cl) | (with_reducible refine wO_upd ?_ w_m16; with_reducible assumption) | (with_reducible apply wR.mi <;> with_reducible assumption) | omega | decide) (by first | with_reducible assumption | with_reducible exact R_cl | (with_reducible apply R_cp; first | with_reducible assumption | with_reducible exact R_cl) | (with_reducible refine wO_upd ?_ w_m16; with_reducible assumption) | (with_reducible apply wR.mi <;> with_reducible assumption) | omega | decide) (by first | with_reducible assumption | with_reducible exact R_cl | (with_reducible apply R_cp; first | with_reducible assumption | with_reducible exact R_cl) | (with_reducible refine wO_upd ?_ w_m16; with_reducible assumption) | (with_reducible apply wR.mi <;> with_reducible assumption) | omega | decide) _ _ _ _ (by first | with_reducible assumption | with_reducible exact R_cl | (with_reducible apply R_cp; first | with_reducible assumption | with_reducible exact R_cl) | (with_reducible refine wO_upd ?_ w_m16; with_reducible assumption) | (with_reducible apply wR.mi <;> with_reducible assumption) | omega | decide) (by first | with_reducible assumption | with_reducible exact R_cl | (with_reducible apply R_cp; first | with_reducible assumption | with_reducible exact R_cl) | (with_reducible refine wO_upd ?_ w_m16; with_reducible assumption) | (with_reducible apply wR.mi <;> with_reducible assumption) | omega | decide) (by first | with_reducible assumption | with_reducible exact R_cl | (with_reducible apply R_cp; first | with_reducible assumption | with_reducible exact R_cl) | (with_reducible refine wO_upd ?_ w_m16; with_reducible assumption) | (with_reducible apply wR.mi <;> with_reducible assumption) | omega | decide) (by first | with_reducible assumption | with_reducible exact R_cl | (with_reducible apply R_cp; first | with_reducible assumption | with_reducible exact R_cl) | (with_reducible refine wO_upd ?_ w_m16; with_reducible assumption) | (with_reducible apply wR.mi <;> with_reducible assumption) | omega | decide)
          ·
            rw [if_neg g11, if_neg g11]
            replace h5 := h5.2
            generalize F_WR_take x2 (264 : Int32) (0 : Int32) (2 : Int32) t0_2 t0_3 t0_4 t0_5 t0_6 t1_0 t5_0 = f60 at *
            replace h6 := h6.2
            generalize F_WR_setOne (264 : Int32) (0 : Int32) (2 : Int32) t0_2 t0_3 t0_4 t0_5 t0_6 t3_0 = f68 at *
            unfold S_WR_power_J92 F_WR_power_J92
            unfold S_WR_power_J93 F_WR_power_J93
            have g17 : ((0 : Int32) = (0 : Int32)) := (by decide)
            rw [if_pos g17, if_pos g17]
            unfold S_WR_power_J113 F_WR_power_J113
            unfold S_WR_power_J114 F_WR_power_J114
            exact v_powL hr (by first | with_reducible assumption | with_reducible exact R_cl | (with_reducible apply R_cp; first | with_reducible assumption | with_reducible exact R_cl) | (with_reducible refine wO_upd ?_ w_m16; with_reducible assumption) | (with_reducible apply wR.mi <;> with_reducible assumption) | omega | decide) (by first | with_reducible assumption | with_reducible exact R_cl | (with_reducible apply R_cp; first | with_reducible assumption | with_reducible exact R_cl) | (with_reducible refine wO_upd ?_ w_m16; with_reducible assumption) | (with_reducible apply wR.mi <;> with_reducible assumption) | omega | decide) (by first | with_reducible assumption | with_reducible exact R_cl | (with_reducible apply R_cp; first | with_reducible assumption | with_reducible exact R_cl) | (with_reducible refine wO_upd ?_ w_m16; with_reducible assumption) | (with_reducible apply wR.mi <;> with_reducible assumption) | omega | decide) _ _ _ _ (by first | with_reducible assumption | with_reducible exact R_cl | (with_reducible apply R_cp; first | with_reducible assumption | with_reducible exact R_cl) | (with_reducible refine wO_upd ?_ w_m16; with_reducible assumption) | (with_reducible apply wR.mi <;> with_reducible assumption) | omega | decide) (by first | with_reducible assumption | with_reducible exact R_cl | (with_reducible apply R_cp; first | with_reducible assumption | with_reducible exact R_cl) | (with_reducible refine wO_upd ?_ w_m16; with_reducible assumption) | (with_reducible apply wR.mi <;> with_reducible assumption) | omega | decide) (by first | with_reducible assumption | with_reducible exact R_cl | (with_reducible apply R_cp; first | with_reducible assumption | with_reducible exact R_cl) | (with_reducible refine wO_upd ?_ w_m16; with_reducible assumption) | (with_reducible apply wR.mi <;> with_reducible assumption) | omega | decide) (by first | with_reducible assumption | with_reducible exact R_cl | (with_reducible apply R_cp; first | with_reducible assumption | with_reducible exact R_cl) | (with_reducible refine wO_upd ?_ w_m16; with_reducible assumption) | (with_reducible apply wR.mi <;> with_reducible assumption) | omega | decide)
      ·
        rw [if_neg g3, if_neg g3]
        have g3i : x3.toInt < 0 := q_nleI g3
        unfold S_WR_power_J19 F_WR_power_J19
        unfold S_WR_power_J24 F_WR_power_J24
        have g18 : ¬ ((1 : Int32) ≤ (0 : Int32)) := (by decide)
        rw [if_neg g18, if_neg g18]
        refine ⟨trivial, ?_⟩
        (unfold Q_WR_power; dsimp only; first | with_reducible assumption | exact hr)
    ·
      rw [if_neg g2, if_neg g2]
      unfold S_WR_power_J19 F_WR_power_J19
      unfold S_WR_power_J24 F_WR_power_J24
      have g19 : ¬ ((1 : Int32) ≤ (0 : Int32)) := (by decide)
      rw [if_neg g19, if_neg g19]
      refine ⟨trivial, ?_⟩
      (unfold Q_WR_power; dsimp only; first | with_reducible assumption | exact hr)
  ·
    rw [if_neg g1, if_neg g1]
    unfold S_WR_power_J19 F_WR_power_J19
    unfold S_WR_power_J24 F_WR_power_J24
    have g20 : ¬ ((1 : Int32) ≤ (0 : Int32)) := (by decide)
    rw [if_neg g20, if_neg g20]
    refine ⟨trivial, ?_⟩
    (unfold Q_WR_power; dsimp only; first | with_reducible assumption | exact hr)
def Q_WR_fits (p : Int32 × (Nat → Int32) × (Nat → Int32)) : Prop := wO p.2.1 264
theorem v_fitL {x2 : Int32} {t0_0 : Int32} {t0_1 : Int32} {t0_2 : Int32} {t0_3 : Int32} {t0_4 : Int32} {t0_5 : Int32} {t0_6 : Int32} {t1_0 : (Nat → Int32)} {t2_0 : (Nat → Int32)} {t3_0 : (Nat → Int32)} {t4_0 : (Nat → Int32)} (ha : wO t1_0 264) (hb : wO t4_0 264) : ∀ (n : Nat) (lx35 : Int32) (lx36 : (Nat → Int32)) (lx37 : (Nat → Int32)), (0 ≤ lx35.toInt ∧ lx35.toInt ≤ 64) → (x2.toInt - lx35.toInt < (n : Int)) → (lx35.toInt ≤ x2.toInt) → (x2.toInt ≤ 64) → (wO lx36 264) → (S_WR_fits_L10 x2 t0_0 t0_1 t0_2 t0_3 t0_4 t0_5 t0_6 t1_0 t2_0 t3_0 t4_0 n lx35 lx36 lx37) ∧ Q_WR_fits (F_WR_fits_L10 x2 t0_0 t0_1 t0_2 t0_3 t0_4 t0_5 t0_6 t1_0 t2_0 t3_0 t4_0 n lx35 lx36 lx37) := by
  intro n
  induction n with
  | zero => intro lx35 lx36 lx37 h0 hm hl hx ho; exact absurd (show False by omega) id
  | succ n ih =>
    intro lx35 lx36 lx37 h0 hm hl hx ho
    rw [S_WR_fits_L10.eq_2, F_WR_fits_L10.eq_2]
    by_cases g1 : x2 ≤ lx35
    ·
      rw [if_pos g1, if_pos g1]
      have g1i : x2.toInt ≤ lx35.toInt := q_leI g1
      refine ⟨trivial, ?_⟩
      (unfold Q_WR_fits; dsimp only; with_reducible assumption)
    ·
      rw [if_neg g1, if_neg g1]
      have g1i : lx35.toInt < x2.toInt := q_nleI g1
      have h2 := R_mul4a  (t0_0 := t0_0) (t0_1 := t0_1) (t0_2 := t0_2) (t0_3 := t0_3) (t0_4 := t0_4) (t0_5 := t0_5) (t0_6 := t0_6) (t1_0 := lx37) (t2_0 := lx36) (t3_0 := t1_0) (by first | with_reducible assumption | with_reducible exact R_cl | (with_reducible apply R_cp; first | with_reducible assumption | with_reducible exact R_cl) | (with_reducible refine wO_upd ?_ w_m16; with_reducible assumption) | (with_reducible apply wR.mi <;> with_reducible assumption) | omega | decide) (by first | with_reducible assumption | with_reducible exact R_cl | (with_reducible apply R_cp; first | with_reducible assumption | with_reducible exact R_cl) | (with_reducible refine wO_upd ?_ w_m16; with_reducible assumption) | (with_reducible apply wR.mi <;> with_reducible assumption) | omega | decide)
      have h2k := h2.2
      with_reducible refine v_owe h2.1 ?_
      replace h2 := h2.2
      generalize F_WR_multiplyRows_a (264 : Int32) (264 : Int32) t0_0 t0_1 t0_2 t0_3 t0_4 t0_5 t0_6 lx37 lx36 t1_0 = p63 at *
      unfold S_WR_fits_c28 F_WR_fits_c28
      have h3 := R_cmp4  (f := (p63.2 : (Nat → Int32))) (g := t4_0) (by first | with_reducible assumption | with_reducible exact R_cl | (with_reducible apply R_cp; first | with_reducible assumption | with_reducible exact R_cl) | (with_reducible refine wO_upd ?_ w_m16; with_reducible assumption) | (with_reducible apply wR.mi <;> with_reducible assumption) | omega | decide) (by first | with_reducible assumption | with_reducible exact R_cl | (with_reducible apply R_cp; first | with_reducible assumption | with_reducible exact R_cl) | (with_reducible refine wO_upd ?_ w_m16; with_reducible assumption) | (with_reducible apply wR.mi <;> with_reducible assumption) | omega | decide)
      have h3c := h3.2
      with_reducible refine v_owe h3.1 ?_
      by_cases g4 : ((F_WR_compareRows (264 : Int32) (264 : Int32) (p63.2 : (Nat → Int32)) t4_0) : Int32) ≤ (0 : Int32)
      ·
        rw [if_pos g4, if_pos g4]
        obtain ⟨a5, e6⟩ := q_nm (lx35 + 1 : Int32)
        rw [e6]
        have a5i : a5.toInt = lx35.toInt + 1 := by rw [← e6]; exact q_addI (x := lx35.toInt) (y := 1) rfl (by decide) (by omega) (by omega)
        exact ih _ _ _ (by first | with_reducible assumption | with_reducible exact R_cl | (with_reducible apply R_cp; first | with_reducible assumption | with_reducible exact R_cl) | (with_reducible refine wO_upd ?_ w_m16; with_reducible assumption) | (with_reducible apply wR.mi <;> with_reducible assumption) | omega | decide) (by first | with_reducible assumption | with_reducible exact R_cl | (with_reducible apply R_cp; first | with_reducible assumption | with_reducible exact R_cl) | (with_reducible refine wO_upd ?_ w_m16; with_reducible assumption) | (with_reducible apply wR.mi <;> with_reducible assumption) | omega | decide) (by first | with_reducible assumption | with_reducible exact R_cl | (with_reducible apply R_cp; first | with_reducible assumption | with_reducible exact R_cl) | (with_reducible refine wO_upd ?_ w_m16; with_reducible assumption) | (with_reducible apply wR.mi <;> with_reducible assumption) | omega | decide) (by first | with_reducible assumption | with_reducible exact R_cl | (with_reducible apply R_cp; first | with_reducible assumption | with_reducible exact R_cl) | (with_reducible refine wO_upd ?_ w_m16; with_reducible assumption) | (with_reducible apply wR.mi <;> with_reducible assumption) | omega | decide) (by first | with_reducible assumption | with_reducible exact R_cl | (with_reducible apply R_cp; first | with_reducible assumption | with_reducible exact R_cl) | (with_reducible refine wO_upd ?_ w_m16; with_reducible assumption) | (with_reducible apply wR.mi <;> with_reducible assumption) | omega | decide)
      ·
        rw [if_neg g4, if_neg g4]
        refine ⟨trivial, ?_⟩
        (unfold Q_WR_fits; dsimp only; with_reducible assumption)
theorem T_WR_fits {x2 : Int32} {t0_0 : Int32} {t0_1 : Int32} {t0_2 : Int32} {t0_3 : Int32} {t0_4 : Int32} {t0_5 : Int32} {t0_6 : Int32} {t1_0 : (Nat → Int32)} {t2_0 : (Nat → Int32)} {t3_0 : (Nat → Int32)} {t4_0 : (Nat → Int32)} (ha : wO t1_0 264) (hb : wO t4_0 264) (hx : 1 ≤ x2.toInt ∧ x2.toInt ≤ 64) : (S_WR_fits x2 t0_0 t0_1 t0_2 t0_3 t0_4 t0_5 t0_6 t1_0 t2_0 t3_0 t4_0) ∧ Q_WR_fits (F_WR_fits x2 t0_0 t0_1 t0_2 t0_3 t0_4 t0_5 t0_6 t1_0 t2_0 t3_0 t4_0) := by
  have e0 : (0 : Int32).toInt = 0 := rfl
  unfold S_WR_fits F_WR_fits
  have h1 := R_setOne  (t0_0 := t0_0) (t0_1 := t0_1) (t0_2 := t0_2) (t0_3 := t0_3) (t0_4 := t0_4) (t0_5 := t0_5) (t0_6 := t0_6) (f := t2_0) 
  have h1k := h1.2.1
  with_reducible refine v_owe h1.1 ?_
  exact v_fitL ha hb _ _ _ _ (by first | with_reducible assumption | with_reducible exact R_cl | (with_reducible apply R_cp; first | with_reducible assumption | with_reducible exact R_cl) | (with_reducible refine wO_upd ?_ w_m16; with_reducible assumption) | (with_reducible apply wR.mi <;> with_reducible assumption) | omega | decide) (by first | with_reducible assumption | with_reducible exact R_cl | (with_reducible apply R_cp; first | with_reducible assumption | with_reducible exact R_cl) | (with_reducible refine wO_upd ?_ w_m16; with_reducible assumption) | (with_reducible apply wR.mi <;> with_reducible assumption) | omega | decide) (by first | with_reducible assumption | with_reducible exact R_cl | (with_reducible apply R_cp; first | with_reducible assumption | with_reducible exact R_cl) | (with_reducible refine wO_upd ?_ w_m16; with_reducible assumption) | (with_reducible apply wR.mi <;> with_reducible assumption) | omega | decide) (by first | with_reducible assumption | with_reducible exact R_cl | (with_reducible apply R_cp; first | with_reducible assumption | with_reducible exact R_cl) | (with_reducible refine wO_upd ?_ w_m16; with_reducible assumption) | (with_reducible apply wR.mi <;> with_reducible assumption) | omega | decide) (by first | with_reducible assumption | with_reducible exact R_cl | (with_reducible apply R_cp; first | with_reducible assumption | with_reducible exact R_cl) | (with_reducible refine wO_upd ?_ w_m16; with_reducible assumption) | (with_reducible apply wR.mi <;> with_reducible assumption) | omega | decide)
