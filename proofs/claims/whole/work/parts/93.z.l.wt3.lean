/-! WholeRows: root, common, inverts, inverse, powerModulo -/
theorem w_sz128 {v : Int} {r : Nat → Int32} (h : wK v r) (hv : v < 65536 ^ 128) : (F_WR_size 264 r).toInt ≤ 128 := by
  have hs := R_size (N := 264) (f := r) (by decide)
  have h1 : wV r 264 = v := h.2
  by_cases c : (F_WR_size 264 r).toInt ≤ 128
  · exact c
  · have h2 := hs.ge h.1 (by omega)
    have h3 := q_clI (i := F_WR_size 264 r) rfl hs.1
    have h4 : (65536 : Int) ^ 128 ≤ 65536 ^ ((F_WR_size 264 r).toNatClampNeg - 1) := w_pwle (by omega)
    have h5 : wV r (264 : Int32).toNatClampNeg = v := h1
    rw [h5] at h2
    exact absurd (Int.lt_of_lt_of_le (Int.lt_of_le_of_lt h2 hv) h4) (Int.lt_irrefl _)
theorem w_rt {z x : Int32} (h0 : 0 ≤ z.toInt) (h1 : z.toInt ≤ 128) (hx : 1 ≤ x.toInt) : 0 ≤ (16 * z / x : Int32).toInt ∧ (16 * z / x : Int32).toInt ≤ 2048 := by
  have e1 : (16 * z : Int32).toInt = 16 * z.toInt := q_mulI (x := 16) (by decide) rfl (by omega) (by omega)
  have e2 : (16 * z / x : Int32).toInt = (16 * z.toInt) / x.toInt := q_divI e1 rfl (by omega) (by omega)
  have h5 : (16 * z.toInt) / x.toInt ≤ 16 * z.toInt := Int.ediv_le_self _ (by omega)
  have h4 : 0 ≤ (16 * z.toInt) / x.toInt := Int.ediv_nonneg (by omega) (by omega)
  rw [e2]
  omega
theorem w_rtT {k : Nat → Int32} {x y : Int32} {r : Nat → Int32} (hx : 0 ≤ x.toInt ∧ x.toInt ≤ 10) (ho : wO k 1408) (h : wK (wVk k x) r) (hy : 1 ≤ y.toInt) : 0 ≤ (16 * F_WR_size 264 r / y : Int32).toInt ∧ (16 * F_WR_size 264 r / y : Int32).toInt ≤ 2048 := w_rt R_size4.1 (w_sz128 h (wVk_nn hx ho).2) hy
theorem w_ixd {x b : Int32} (hx : 0 ≤ x.toInt ∧ x.toInt ≤ 10) (hb : 0 ≤ b.toInt ∧ b.toInt ≤ 2047) : 0 ≤ ((128 * x) + (b / 16) : Int32).toInt ∧ ((128 * x) + (b / 16) : Int32).toInt ≤ 1407 := by
  have e := w_div16 hb.1
  have := (w_ix (x := x) (k := b / 16) hx (by omega)).1
  omega
/-- one turn of Euclid's -/
theorem w_eucS {n : Nat} {a b x y : Nat → Int32} {p : (Nat → Int32) × (Nat → Int32)} (h : wEu (n + 1) (wV a 264) (wV b 264)) (ha : wO a 264) (hb : wN b) (hd : wDq (wV a 264) (wV b 264) p) : wEu n (wV (F_WR_copy 264 264 b x) 264) (wV (F_WR_copy 264 264 p.1 y) 264) := by
  have e1 : wV (F_WR_copy 264 264 b x) 264 = wV b 264 := (R_copy4 ⟨hb.1, rfl⟩).2
  have e2 : wV (F_WR_copy 264 264 p.1 y) 264 = wV p.1 264 := (R_copy4 ⟨hd.1, rfl⟩).2
  rw [e1, e2]
  exact h.step (w_nn ha) hb.2.1 hd.2.2.1 (w_nn hd.1) hd.2.2.2
theorem R_cpK {f g : Nat → Int32} (h : wO f 264) : wK (wV f 264) (F_WR_copy 264 264 f g) := R_copy4 ⟨h, rfl⟩
theorem w_eucT {n : Nat} {a b b' r' : Nat → Int32} {p : (Nat → Int32) × (Nat → Int32)} (h : wEu (n + 1) (wV a 264) (wV b 264)) (ha : wO a 264) (hb : wN b) (hd : wDq (wV a 264) (wV b 264) p) (h1 : wK (wV b 264) b') (h2 : wK (wV p.1 264) r') : wEu n (wV b' 264) (wV r' 264) := by
  have e1 : wV b' 264 = wV b 264 := h1.2
  have e2 : wV r' 264 = wV p.1 264 := h2.2
  rw [e1, e2]
  exact h.step (w_nn ha) hb.2.1 hd.2.2.1 (w_nn hd.1) hd.2.2.2
theorem w_eucM {a b r' : Nat → Int32} {p : (Nat → Int32) × (Nat → Int32)} (hb : wN b) (hd : wDq (wV a 264) (wV b 264) p) (h2 : wK (wV p.1 264) r') : wL (wV r' 264) (65536 ^ 263) := by
  have e2 : wV r' 264 = wV p.1 264 := h2.2
  show _ < _
  rw [e2]
  exact Int.lt_trans hd.2.2.2 hb.2.2
theorem w_eucL {a b y : Nat → Int32} {p : (Nat → Int32) × (Nat → Int32)} (hb : wN b) (hd : wDq (wV a 264) (wV b 264) p) : wL (wV (F_WR_copy 264 264 p.1 y) 264) (65536 ^ 263) := by
  have e2 : wV (F_WR_copy 264 264 p.1 y) 264 = wV p.1 264 := (R_copy4 ⟨hd.1, rfl⟩).2
  show _ < _
  rw [e2]
  exact Int.lt_trans hd.2.2.2 hb.2.2
theorem w_regL {k : Nat → Int32} {x : Int32} {r : Nat → Int32} (hx : 0 ≤ x.toInt ∧ x.toInt ≤ 10) (ho : wO k 1408) (h : wK (wVk k x) r) : wL (wV r 264) (65536 ^ 263) := by
  have h1 : wV r 264 = wVk k x := h.2
  show _ < _
  rw [h1]
  exact Int.lt_of_lt_of_le (wVk_nn hx ho).2 (w_pwle (by decide))
theorem w_eucB {a b : Nat → Int32} (ha : wO a 264) (hb : wO b 264) : wEu 1000000 (wV a 264) (wV b 264) := wEu.start (by decide) (w_nn ha) (w_lt ha) (w_nn hb) (w_lt hb)
def Q_WR_root (p : Int32 × Int32 × Int32 × Int32 × Int32 × Int32 × Int32 × (Nat → Int32) × (Nat → Int32) × (Nat → Int32) × (Nat → Int32) × (Nat → Int32) × (Nat → Int32)) : Prop := wR p.2.2.2.2.2.2.2.1 p.2.2.2.2.2.2.2.2.1
theorem v_rootL {x2 : Int32} {x3 : Int32} {x4 : Int32} {t0_0 : Int32} {t0_1 : Int32} {t0_2 : Int32} {t0_3 : Int32} {t0_4 : Int32} {t0_5 : Int32} {t0_6 : Int32} {t1_0 : (Nat → Int32)} {t2_0 : (Nat → Int32)} {t3_0 : (Nat → Int32)} {t4_0 : (Nat → Int32)} {t5_0 : (Nat → Int32)} {t6_0 : (Nat → Int32)} {lx39 : Int32} {f64 : (Nat → Int32)} (hr : wR t1_0 t2_0)(hx4 : 0 ≤ x4.toInt ∧ x4.toInt ≤ 10)(hx3 : 1 ≤ x3.toInt ∧ x3.toInt ≤ 64) (hf : wO f64 264) : ∀ (n : Nat) (lx91 : Int32) (lx92 : (Nat → Int32)) (lx93 : (Nat → Int32)) (lx94 : (Nat → Int32)), (-1 ≤ lx91.toInt ∧ lx91.toInt ≤ 2048) → (lx91.toInt + 1 < (n : Int)) → (wO lx92 264) → (S_WR_root_L90 x2 x3 x4 t0_0 t0_1 t0_2 t0_3 t0_4 t0_5 t0_6 t1_0 t2_0 t3_0 t4_0 t5_0 t6_0 lx39 f64 n lx91 lx92 lx93 lx94) ∧ Q_WR_root (F_WR_root_L90 x2 x3 x4 t0_0 t0_1 t0_2 t0_3 t0_4 t0_5 t0_6 t1_0 t2_0 t3_0 t4_0 t5_0 t6_0 lx39 f64 n lx91 lx92 lx93 lx94) := by
  intro n
  induction n with
  | zero => intro lx91 lx92 lx93 lx94 h0 hm ho; exact absurd (show False by omega) id
  | succ n ih =>
    intro lx91 lx92 lx93 lx94 h0 hm ho
    have e0 : (0 : Int32).toInt = 0 := rfl
    rw [S_WR_root_L90.eq_2, F_WR_root_L90.eq_2]
    by_cases g1 : lx91 < (0 : Int32)
    ·
      rw [if_pos g1, if_pos g1]
      have g1i : lx91.toInt < 0 := q_ltI g1
      have h2 := R_store  (x2 := x4) (t0_0 := lx39) (t0_1 := (2 : Int32)) (t0_2 := t0_2) (t0_3 := (0 : Int32)) (t0_4 := t0_4) (t0_5 := t0_5) (t0_6 := t0_6) (t1_0 := t1_0) (t2_0 := t2_0) (t3_0 := lx92) (by first | with_reducible assumption | with_reducible exact R_cl | (with_reducible apply R_cp; first | with_reducible assumption | with_reducible exact R_cl) | (with_reducible refine wO_upd ?_ w_m16; with_reducible assumption) | (with_reducible apply wR.mi <;> with_reducible assumption) | (with_reducible apply w_rootU <;> first | with_reducible assumption | omega) | (with_reducible refine w_rootD (w_rootU ?_ ?_ ?_) ?_ ?_ <;> first | with_reducible assumption | omega) | omega | decide) (by first | with_reducible assumption | with_reducible exact R_cl | (with_reducible apply R_cp; first | with_reducible assumption | with_reducible exact R_cl) | (with_reducible refine wO_upd ?_ w_m16; with_reducible assumption) | (with_reducible apply wR.mi <;> with_reducible assumption) | (with_reducible apply w_rootU <;> first | with_reducible assumption | omega) | (with_reducible refine w_rootD (w_rootU ?_ ?_ ?_) ?_ ?_ <;> first | with_reducible assumption | omega) | omega | decide) (by first | with_reducible assumption | with_reducible exact R_cl | (with_reducible apply R_cp; first | with_reducible assumption | with_reducible exact R_cl) | (with_reducible refine wO_upd ?_ w_m16; with_reducible assumption) | (with_reducible apply wR.mi <;> with_reducible assumption) | (with_reducible apply w_rootU <;> first | with_reducible assumption | omega) | (with_reducible refine w_rootD (w_rootU ?_ ?_ ?_) ?_ ?_ <;> first | with_reducible assumption | omega) | omega | decide)
      have h2r := h2.2
      with_reducible refine v_owe h2.1 ?_
      replace h2 := h2.2
      generalize F_WR_store x4 lx39 (2 : Int32) t0_2 (0 : Int32) t0_4 t0_5 t0_6 t1_0 t2_0 lx92 = p145 at *
      unfold S_WR_root_c174 F_WR_root_c174
      refine ⟨trivial, ?_⟩
      (unfold Q_WR_root; dsimp only; first | with_reducible assumption | exact hr)
    ·
      rw [if_neg g1, if_neg g1]
      have g1i : 0 ≤ lx91.toInt := q_nltI g1
      refine v_cons (by rw [w_div16 (by omega)]; omega) ?_
      have h3 := T_WR_fits  (x2 := x3) (t0_0 := lx39) (t0_1 := (2 : Int32)) (t0_2 := t0_2) (t0_3 := t0_3) (t0_4 := t0_4) (t0_5 := t0_5) (t0_6 := t0_6) (t1_0 := (upd lx92 (lx91 / 16 : Int32).toNatClampNeg ((lx92 (lx91 / 16 : Int32).toNatClampNeg : Int32) ||| ((1 : Int32) <<< ((lx91 - lx91 / 16 * 16 : Int32) &&& 31) : Int32) : Int32) : (Nat → Int32))) (t2_0 := lx93) (t3_0 := lx94) (t4_0 := f64) (by first | with_reducible assumption | with_reducible exact R_cl | (with_reducible apply R_cp; first | with_reducible assumption | with_reducible exact R_cl) | (with_reducible refine wO_upd ?_ w_m16; with_reducible assumption) | (with_reducible apply wR.mi <;> with_reducible assumption) | (with_reducible apply w_rootU <;> first | with_reducible assumption | omega) | (with_reducible refine w_rootD (w_rootU ?_ ?_ ?_) ?_ ?_ <;> first | with_reducible assumption | omega) | omega | decide) (by first | with_reducible assumption | with_reducible exact R_cl | (with_reducible apply R_cp; first | with_reducible assumption | with_reducible exact R_cl) | (with_reducible refine wO_upd ?_ w_m16; with_reducible assumption) | (with_reducible apply wR.mi <;> with_reducible assumption) | (with_reducible apply w_rootU <;> first | with_reducible assumption | omega) | (with_reducible refine w_rootD (w_rootU ?_ ?_ ?_) ?_ ?_ <;> first | with_reducible assumption | omega) | omega | decide) ⟨by omega, by omega⟩
      have h3k := h3.2
      with_reducible refine v_owe h3.1 ?_
      replace h3 := h3.2
      generalize F_WR_fits x3 lx39 (2 : Int32) t0_2 t0_3 t0_4 t0_5 t0_6 (upd lx92 (lx91 / 16 : Int32).toNatClampNeg ((lx92 (lx91 / 16 : Int32).toNatClampNeg : Int32) ||| ((1 : Int32) <<< ((lx91 - lx91 / 16 * 16 : Int32) &&& 31) : Int32) : Int32) : (Nat → Int32)) lx93 lx94 f64 = p194 at *
      unfold S_WR_root_c125 F_WR_root_c125
      by_cases g4 : (p194.1 : Int32) = (0 : Int32)
      ·
        rw [if_pos g4, if_pos g4]
        obtain ⟨a5, e6⟩ := q_nm (lx91 + (-1) : Int32)
        rw [e6]
        have a5i : a5.toInt = lx91.toInt + (-1) := by rw [← e6]; exact q_addI (x := lx91.toInt) (y := (-1)) rfl (by decide) (by omega) (by omega)
        exact ih _ _ _ _ (by first | with_reducible assumption | with_reducible exact R_cl | (with_reducible apply R_cp; first | with_reducible assumption | with_reducible exact R_cl) | (with_reducible refine wO_upd ?_ w_m16; with_reducible assumption) | (with_reducible apply wR.mi <;> with_reducible assumption) | (with_reducible apply w_rootU <;> first | with_reducible assumption | omega) | (with_reducible refine w_rootD (w_rootU ?_ ?_ ?_) ?_ ?_ <;> first | with_reducible assumption | omega) | omega | decide) (by first | with_reducible assumption | with_reducible exact R_cl | (with_reducible apply R_cp; first | with_reducible assumption | with_reducible exact R_cl) | (with_reducible refine wO_upd ?_ w_m16; with_reducible assumption) | (with_reducible apply wR.mi <;> with_reducible assumption) | (with_reducible apply w_rootU <;> first | with_reducible assumption | omega) | (with_reducible refine w_rootD (w_rootU ?_ ?_ ?_) ?_ ?_ <;> first | with_reducible assumption | omega) | omega | decide) (by first | with_reducible assumption | with_reducible exact R_cl | (with_reducible apply R_cp; first | with_reducible assumption | with_reducible exact R_cl) | (with_reducible refine wO_upd ?_ w_m16; with_reducible assumption) | (with_reducible apply wR.mi <;> with_reducible assumption) | (with_reducible apply w_rootU <;> first | with_reducible assumption | omega) | (with_reducible refine w_rootD (w_rootU ?_ ?_ ?_) ?_ ?_ <;> first | with_reducible assumption | omega) | omega | decide)
      ·
        rw [if_neg g4, if_neg g4]
        obtain ⟨a7, e8⟩ := q_nm (lx91 + (-1) : Int32)
        rw [e8]
        have a7i : a7.toInt = lx91.toInt + (-1) := by rw [← e8]; exact q_addI (x := lx91.toInt) (y := (-1)) rfl (by decide) (by omega) (by omega)
        exact ih _ _ _ _ (by first | with_reducible assumption | with_reducible exact R_cl | (with_reducible apply R_cp; first | with_reducible assumption | with_reducible exact R_cl) | (with_reducible refine wO_upd ?_ w_m16; with_reducible assumption) | (with_reducible apply wR.mi <;> with_reducible assumption) | (with_reducible apply w_rootU <;> first | with_reducible assumption | omega) | (with_reducible refine w_rootD (w_rootU ?_ ?_ ?_) ?_ ?_ <;> first | with_reducible assumption | omega) | omega | decide) (by first | with_reducible assumption | with_reducible exact R_cl | (with_reducible apply R_cp; first | with_reducible assumption | with_reducible exact R_cl) | (with_reducible refine wO_upd ?_ w_m16; with_reducible assumption) | (with_reducible apply wR.mi <;> with_reducible assumption) | (with_reducible apply w_rootU <;> first | with_reducible assumption | omega) | (with_reducible refine w_rootD (w_rootU ?_ ?_ ?_) ?_ ?_ <;> first | with_reducible assumption | omega) | omega | decide) (by first | with_reducible assumption | with_reducible exact R_cl | (with_reducible apply R_cp; first | with_reducible assumption | with_reducible exact R_cl) | (with_reducible refine wO_upd ?_ w_m16; with_reducible assumption) | (with_reducible apply wR.mi <;> with_reducible assumption) | (with_reducible apply w_rootU <;> first | with_reducible assumption | omega) | (with_reducible refine w_rootD (w_rootU ?_ ?_ ?_) ?_ ?_ <;> first | with_reducible assumption | omega) | omega | decide)
theorem T_WR_root {x2 : Int32} {x3 : Int32} {x4 : Int32} {t0_0 : Int32} {t0_1 : Int32} {t0_2 : Int32} {t0_3 : Int32} {t0_4 : Int32} {t0_5 : Int32} {t0_6 : Int32} {t1_0 : (Nat → Int32)} {t2_0 : (Nat → Int32)} {t3_0 : (Nat → Int32)} {t4_0 : (Nat → Int32)} {t5_0 : (Nat → Int32)} {t6_0 : (Nat → Int32)} (hr : wR t1_0 t2_0) : (S_WR_root x2 x3 x4 t0_0 t0_1 t0_2 t0_3 t0_4 t0_5 t0_6 t1_0 t2_0 t3_0 t4_0 t5_0 t6_0) ∧ Q_WR_root (F_WR_root x2 x3 x4 t0_0 t0_1 t0_2 t0_3 t0_4 t0_5 t0_6 t1_0 t2_0 t3_0 t4_0 t5_0 t6_0) := by
  have e0 : (0 : Int32).toInt = 0 := rfl
  have e1 : (1 : Int32).toInt = 1 := rfl
  have e64 : (64 : Int32).toInt = 64 := rfl
  unfold S_WR_root F_WR_root
  by_cases g1 : ((F_WR_no x2) : Int32) = (0 : Int32)
  ·
    rw [if_pos g1, if_pos g1]
    have g1r := w_no g1
    by_cases g2 : ((F_WR_no x4) : Int32) = (0 : Int32)
    ·
      rw [if_pos g2, if_pos g2]
      have g2r := w_no g2
      by_cases g3 : x3 < (1 : Int32)
      ·
        rw [if_pos g3, if_pos g3]
        have g3i : x3.toInt < 1 := q_ltI g3
        unfold S_WR_root_J26 F_WR_root_J26
        unfold S_WR_root_J44 F_WR_root_J44
        have g4 : ¬ ((1 : Int32) ≤ (0 : Int32)) := (by decide)
        rw [if_neg g4, if_neg g4]
        refine ⟨trivial, ?_⟩
        (unfold Q_WR_root; dsimp only; first | with_reducible assumption | exact hr)
      ·
        rw [if_neg g3, if_neg g3]
        have g3i : 1 ≤ x3.toInt := q_nltI g3
        by_cases g5 : x3 ≤ (64 : Int32)
        ·
          rw [if_pos g5, if_pos g5]
          have g5i : x3.toInt ≤ 64 := q_leI g5
          refine v_cons (by omega) ?_
          refine v_cons (by omega) ?_
          by_cases g6 : (t2_0 x2.toNatClampNeg : Int32) = (0 : Int32)
          ·
            rw [if_pos g6, if_pos g6]
            unfold S_WR_root_J44 F_WR_root_J44
            have g7 : ((0 : Int32) ≤ (0 : Int32)) := (by decide)
            rw [if_pos g7, if_pos g7]
            have h8 := R_take  (x2 := x2) (t0_0 := (0 : Int32)) (t0_1 := (2 : Int32)) (t0_2 := t0_2) (t0_3 := t0_3) (t0_4 := t0_4) (t0_5 := t0_5) (t0_6 := t0_6) (t1_0 := t1_0) (t2_0 := t6_0) (by first | with_reducible assumption | with_reducible exact R_cl | (with_reducible apply R_cp; first | with_reducible assumption | with_reducible exact R_cl) | (with_reducible refine wO_upd ?_ w_m16; with_reducible assumption) | (with_reducible apply wR.mi <;> with_reducible assumption)  | omega | decide) (wR.o (by with_reducible assumption))
            have h8k := h8.2.1
            have h8v := h8.2
            with_reducible refine v_owe h8.1 ?_
            refine v_cons (by omega) ?_
            have hrt := w_rtT (x := x2) (y := x3) (by with_reducible assumption) (wR.o hr) (by with_reducible assumption) (by omega); exact v_rootL hr (by with_reducible assumption) ⟨by omega, by omega⟩ (by with_reducible assumption) _ _ _ _ _ ⟨by omega, by omega⟩ (by omega) R_cl
          ·
            rw [if_neg g6, if_neg g6]
            unfold S_WR_root_J44 F_WR_root_J44
            have g9 : ¬ ((2 : Int32) ≤ (0 : Int32)) := (by decide)
            rw [if_neg g9, if_neg g9]
            refine ⟨trivial, ?_⟩
            (unfold Q_WR_root; dsimp only; first | with_reducible assumption | exact hr)
        ·
          rw [if_neg g5, if_neg g5]
          have g5i : 64 < x3.toInt := q_nleI g5
          unfold S_WR_root_J26 F_WR_root_J26
          unfold S_WR_root_J44 F_WR_root_J44
          have g10 : ¬ ((1 : Int32) ≤ (0 : Int32)) := (by decide)
          rw [if_neg g10, if_neg g10]
          refine ⟨trivial, ?_⟩
          (unfold Q_WR_root; dsimp only; first | with_reducible assumption | exact hr)
    ·
      rw [if_neg g2, if_neg g2]
      unfold S_WR_root_J26 F_WR_root_J26
      unfold S_WR_root_J44 F_WR_root_J44
      have g11 : ¬ ((1 : Int32) ≤ (0 : Int32)) := (by decide)
      rw [if_neg g11, if_neg g11]
      refine ⟨trivial, ?_⟩
      (unfold Q_WR_root; dsimp only; first | with_reducible assumption | exact hr)
  ·
    rw [if_neg g1, if_neg g1]
    unfold S_WR_root_J26 F_WR_root_J26
    unfold S_WR_root_J44 F_WR_root_J44
    have g12 : ¬ ((1 : Int32) ≤ (0 : Int32)) := (by decide)
    rw [if_neg g12, if_neg g12]
    refine ⟨trivial, ?_⟩
    (unfold Q_WR_root; dsimp only; first | with_reducible assumption | exact hr)
def Q_WR_common (p : Int32 × Int32 × Int32 × Int32 × Int32 × Int32 × Int32 × (Nat → Int32) × (Nat → Int32) × (Nat → Int32) × (Nat → Int32) × (Nat → Int32) × (Nat → Int32) × (Nat → Int32)) : Prop := wR p.2.2.2.2.2.2.2.1 p.2.2.2.2.2.2.2.2.1
theorem v_comL {x2 : Int32} {x3 : Int32} {x4 : Int32} {t0_0 : Int32} {t0_1 : Int32} {t0_2 : Int32} {t0_3 : Int32} {t0_4 : Int32} {t0_5 : Int32} {t0_6 : Int32} {t1_0 : (Nat → Int32)} {t2_0 : (Nat → Int32)} {t3_0 : (Nat → Int32)} {t4_0 : (Nat → Int32)} {t5_0 : (Nat → Int32)} {t6_0 : (Nat → Int32)} {t7_0 : (Nat → Int32)} {lx42 : Int32} (hr : wR t1_0 t2_0)(hx4 : 0 ≤ x4.toInt ∧ x4.toInt ≤ 10) : ∀ (n : Nat) (lx79 : (Nat → Int32)) (lx80 : (Nat → Int32)) (lx81 : (Nat → Int32)) (lx82 : (Nat → Int32)), (wO lx81 264) → (wO lx82 264) → (wL (wV lx82 264) (65536 ^ 263)) → (wEu n (wV lx81 264) (wV lx82 264)) → (S_WR_common_L56 x2 x3 x4 t0_0 t0_1 t0_2 t0_3 t0_4 t0_5 t0_6 t1_0 t2_0 t3_0 t4_0 t5_0 t6_0 t7_0 lx42 n lx79 lx80 lx81 lx82) ∧ Q_WR_common (F_WR_common_L56 x2 x3 x4 t0_0 t0_1 t0_2 t0_3 t0_4 t0_5 t0_6 t1_0 t2_0 t3_0 t4_0 t5_0 t6_0 t7_0 lx42 n lx79 lx80 lx81 lx82) := by
  intro n
  induction n with
  | zero => intro lx79 lx80 lx81 lx82 ho1 ho2 hl hE; exact absurd hE.ge (by decide)
  | succ n ih =>
    intro lx79 lx80 lx81 lx82 ho1 ho2 hl hE
    rw [S_WR_common_L56.eq_2, F_WR_common_L56.eq_2]
    by_cases g1 : ((F_WR_size (264 : Int32) lx82) : Int32) ≤ (0 : Int32)
    ·
      rw [if_pos g1, if_pos g1]
      have h2 := R_store  (x2 := x4) (t0_0 := lx42) (t0_1 := t0_1) (t0_2 := t0_2) (t0_3 := (0 : Int32)) (t0_4 := t0_4) (t0_5 := t0_5) (t0_6 := t0_6) (t1_0 := t1_0) (t2_0 := t2_0) (t3_0 := ((F_WR_copy (264 : Int32) (264 : Int32) lx81 t3_0) : (Nat → Int32))) (by first | with_reducible assumption | with_reducible exact R_cl | (with_reducible apply R_cp; first | with_reducible assumption | with_reducible exact R_cl) | (with_reducible refine wO_upd ?_ w_m16; with_reducible assumption) | (with_reducible apply wR.mi <;> with_reducible assumption)  | omega | decide) (by first | with_reducible assumption | with_reducible exact R_cl | (with_reducible apply R_cp; first | with_reducible assumption | with_reducible exact R_cl) | (with_reducible refine wO_upd ?_ w_m16; with_reducible assumption) | (with_reducible apply wR.mi <;> with_reducible assumption)  | omega | decide) (by first | with_reducible assumption | with_reducible exact R_cl | (with_reducible apply R_cp; first | with_reducible assumption | with_reducible exact R_cl) | (with_reducible refine wO_upd ?_ w_m16; with_reducible assumption) | (with_reducible apply wR.mi <;> with_reducible assumption)  | omega | decide)
      have h2r := h2.2
      with_reducible refine v_owe h2.1 ?_
      have h3 := R_cpK  (f := lx81) (g := t3_0) (by first | with_reducible assumption | with_reducible exact R_cl | (with_reducible apply R_cp; first | with_reducible assumption | with_reducible exact R_cl) | (with_reducible refine wO_upd ?_ w_m16; with_reducible assumption) | (with_reducible apply wR.mi <;> with_reducible assumption)  | omega | decide)
      have h3k := h3.1
      have h3v := h3
      replace h2 := h2.2
      generalize F_WR_store x4 lx42 t0_1 t0_2 (0 : Int32) t0_4 t0_5 t0_6 t1_0 t2_0 ((F_WR_copy (264 : Int32) (264 : Int32) lx81 t3_0) : (Nat → Int32)) = p145 at *
      generalize F_WR_copy (264 : Int32) (264 : Int32) lx81 t3_0 = f109 at *
      unfold S_WR_common_c121 F_WR_common_c121
      refine ⟨trivial, ?_⟩
      (unfold Q_WR_common; dsimp only; first | with_reducible assumption | exact hr)
    ·
      rw [if_neg g1, if_neg g1]
      have hN : wN lx82 := ⟨ho2, w_sz1 ho2 g1, hl⟩
      have h4 := R_div4  (t0_0 := lx42) (t0_1 := t0_1) (t0_2 := t0_2) (t0_3 := t0_3) (t0_4 := t0_4) (t0_5 := t0_5) (t0_6 := t0_6) (t1_0 := lx79) (t2_0 := lx80) (t3_0 := lx81) (t4_0 := lx82) (by first | with_reducible assumption | with_reducible exact R_cl | (with_reducible apply R_cp; first | with_reducible assumption | with_reducible exact R_cl) | (with_reducible refine wO_upd ?_ w_m16; with_reducible assumption) | (with_reducible apply wR.mi <;> with_reducible assumption)  | omega | decide) (by first | with_reducible assumption | (refine w_reg ?_ (wR.o (by with_reducible assumption)) (by with_reducible assumption) ?_ <;> with_reducible assumption))
      have h4k := h4.2.1
      have h4q := h4.2.2.1
      have h4d := h4.2
      with_reducible refine v_owe h4.1 ?_
      replace h4 := h4.2
      generalize F_WR_divideRows (264 : Int32) (264 : Int32) lx42 t0_1 t0_2 t0_3 t0_4 t0_5 t0_6 lx79 lx80 lx81 lx82 = p171 at *
      unfold S_WR_common_c75 F_WR_common_c75
      exact ih _ _ _ _ (R_cp ho2) (R_cp (by with_reducible assumption)) (w_eucL hN (by with_reducible assumption)) (w_eucS hE ho1 hN (by with_reducible assumption))
theorem T_WR_common {x2 : Int32} {x3 : Int32} {x4 : Int32} {t0_0 : Int32} {t0_1 : Int32} {t0_2 : Int32} {t0_3 : Int32} {t0_4 : Int32} {t0_5 : Int32} {t0_6 : Int32} {t1_0 : (Nat → Int32)} {t2_0 : (Nat → Int32)} {t3_0 : (Nat → Int32)} {t4_0 : (Nat → Int32)} {t5_0 : (Nat → Int32)} {t6_0 : (Nat → Int32)} {t7_0 : (Nat → Int32)} (hr : wR t1_0 t2_0) : (S_WR_common x2 x3 x4 t0_0 t0_1 t0_2 t0_3 t0_4 t0_5 t0_6 t1_0 t2_0 t3_0 t4_0 t5_0 t6_0 t7_0) ∧ Q_WR_common (F_WR_common x2 x3 x4 t0_0 t0_1 t0_2 t0_3 t0_4 t0_5 t0_6 t1_0 t2_0 t3_0 t4_0 t5_0 t6_0 t7_0) := by
  have e0 : (0 : Int32).toInt = 0 := rfl
  unfold S_WR_common F_WR_common
  by_cases g1 : ((F_WR_no x2) : Int32) = (0 : Int32)
  ·
    rw [if_pos g1, if_pos g1]
    have g1r := w_no g1
    by_cases g2 : ((F_WR_no x3) : Int32) = (0 : Int32)
    ·
      rw [if_pos g2, if_pos g2]
      have g2r := w_no g2
      by_cases g3 : ((F_WR_no x4) : Int32) = (0 : Int32)
      ·
        rw [if_pos g3, if_pos g3]
        have g3r := w_no g3
        unfold S_WR_common_J27 F_WR_common_J27
        have g4 : ((0 : Int32) ≤ (0 : Int32)) := (by decide)
        rw [if_pos g4, if_pos g4]
        have h5 := R_take  (x2 := x2) (t0_0 := (0 : Int32)) (t0_1 := t0_1) (t0_2 := t0_2) (t0_3 := t0_3) (t0_4 := t0_4) (t0_5 := t0_5) (t0_6 := t0_6) (t1_0 := t1_0) (t2_0 := t6_0) (by first | with_reducible assumption | with_reducible exact R_cl | (with_reducible apply R_cp; first | with_reducible assumption | with_reducible exact R_cl) | (with_reducible refine wO_upd ?_ w_m16; with_reducible assumption) | (with_reducible apply wR.mi <;> with_reducible assumption)  | omega | decide) (wR.o (by with_reducible assumption))
        have h5k := h5.2.1
        have h5v := h5.2
        with_reducible refine v_owe h5.1 ?_
        have h6 := R_take  (x2 := x3) (t0_0 := (0 : Int32)) (t0_1 := t0_1) (t0_2 := t0_2) (t0_3 := t0_3) (t0_4 := t0_4) (t0_5 := t0_5) (t0_6 := t0_6) (t1_0 := t1_0) (t2_0 := t7_0) (by first | with_reducible assumption | with_reducible exact R_cl | (with_reducible apply R_cp; first | with_reducible assumption | with_reducible exact R_cl) | (with_reducible refine wO_upd ?_ w_m16; with_reducible assumption) | (with_reducible apply wR.mi <;> with_reducible assumption)  | omega | decide) (wR.o (by with_reducible assumption))
        have h6k := h6.2.1
        have h6v := h6.2
        with_reducible refine v_owe h6.1 ?_
        exact v_comL hr (by with_reducible assumption) 1000000 _ _ _ _ (by with_reducible assumption) (by with_reducible assumption) (w_regL (x := x3) (by with_reducible assumption) (wR.o hr) (by with_reducible assumption)) (w_eucB (by with_reducible assumption) (by with_reducible assumption))
      ·
        rw [if_neg g3, if_neg g3]
        unfold S_WR_common_J22 F_WR_common_J22
        unfold S_WR_common_J27 F_WR_common_J27
        have g7 : ¬ ((1 : Int32) ≤ (0 : Int32)) := (by decide)
        rw [if_neg g7, if_neg g7]
        refine ⟨trivial, ?_⟩
        (unfold Q_WR_common; dsimp only; first | with_reducible assumption | exact hr)
    ·
      rw [if_neg g2, if_neg g2]
      unfold S_WR_common_J22 F_WR_common_J22
      unfold S_WR_common_J27 F_WR_common_J27
      have g8 : ¬ ((1 : Int32) ≤ (0 : Int32)) := (by decide)
      rw [if_neg g8, if_neg g8]
      refine ⟨trivial, ?_⟩
      (unfold Q_WR_common; dsimp only; first | with_reducible assumption | exact hr)
  ·
    rw [if_neg g1, if_neg g1]
    unfold S_WR_common_J22 F_WR_common_J22
    unfold S_WR_common_J27 F_WR_common_J27
    have g9 : ¬ ((1 : Int32) ≤ (0 : Int32)) := (by decide)
    rw [if_neg g9, if_neg g9]
    refine ⟨trivial, ?_⟩
    (unfold Q_WR_common; dsimp only; first | with_reducible assumption | exact hr)
def Q_WR_inverts (p : Int32 × Int32 × Int32 × Int32 × Int32 × Int32 × Int32 × Int32 × (Nat → Int32) × (Nat → Int32) × (Nat → Int32) × (Nat → Int32) × (Nat → Int32) × (Nat → Int32) × (Nat → Int32) × (Nat → Int32) × (Nat → Int32)) : Prop := wO p.2.2.2.2.2.2.2.2.2.2.2.2.2.1 264
theorem R_cj {f g r : Nat → Int32} (hf : wO f 264) (hg : wO g 264) : wO (F_WR_copy 264 264 (F_WR_join 264 264 (F_WR_size 264 f) 1 1 g f) r) 264 := (R_redJ hf hg).2
theorem R_jS {f g : Nat → Int32} (hf : wO f 264) (hg : wO g 264) : S_WR_join 264 264 (F_WR_size 264 f) 1 1 g f ∧ True := ⟨(R_redJ (r := f) hf hg).1, trivial⟩
theorem v_invL {t0_0 : Int32} {t0_1 : Int32} {t0_2 : Int32} {t0_3 : Int32} {t0_4 : Int32} {t0_5 : Int32} {t0_6 : Int32} {t1_0 : (Nat → Int32)} {t2_0 : (Nat → Int32)} {t3_0 : (Nat → Int32)} {t4_0 : (Nat → Int32)} {t5_0 : (Nat → Int32)} {t6_0 : (Nat → Int32)} {t7_0 : (Nat → Int32)} {t8_0 : (Nat → Int32)} {t9_0 : (Nat → Int32)} {t10_0 : (Nat → Int32)} (hN0 : wN t10_0) (hO0 : wO t10_0 264) : ∀ (n : Nat) (lx70 : Int32) (lx71 : Int32) (lx72 : Int32) (lx73 : Int32) (lx74 : Int32) (lx75 : Int32) (lx76 : Int32) (lx77 : (Nat → Int32)) (lx78 : (Nat → Int32)) (lx79 : (Nat → Int32)) (lx80 : (Nat → Int32)) (lx81 : (Nat → Int32)) (lx82 : (Nat → Int32)) (lx83 : (Nat → Int32)) (lx84 : (Nat → Int32)) (lx85 : (Nat → Int32)), (wO lx82 264) → (wO lx83 264) → (wO lx84 264) → (wO lx85 264) → (wL (wV lx83 264) (65536 ^ 263)) → (wEu n (wV lx82 264) (wV lx83 264)) → (S_WR_inverts_L36 t0_0 t0_1 t0_2 t0_3 t0_4 t0_5 t0_6 t1_0 t2_0 t3_0 t4_0 t5_0 t6_0 t7_0 t8_0 t9_0 t10_0 n lx70 lx71 lx72 lx73 lx74 lx75 lx76 lx77 lx78 lx79 lx80 lx81 lx82 lx83 lx84 lx85) ∧ Q_WR_inverts (F_WR_inverts_L36 t0_0 t0_1 t0_2 t0_3 t0_4 t0_5 t0_6 t1_0 t2_0 t3_0 t4_0 t5_0 t6_0 t7_0 t8_0 t9_0 t10_0 n lx70 lx71 lx72 lx73 lx74 lx75 lx76 lx77 lx78 lx79 lx80 lx81 lx82 lx83 lx84 lx85) := by
  intro n
  induction n with
  | zero => intro lx70 lx71 lx72 lx73 lx74 lx75 lx76 lx77 lx78 lx79 lx80 lx81 lx82 lx83 lx84 lx85 ho1 ho2 ho3 ho4 hl hE; exact absurd hE.ge (by decide)
  | succ n ih =>
    intro lx70 lx71 lx72 lx73 lx74 lx75 lx76 lx77 lx78 lx79 lx80 lx81 lx82 lx83 lx84 lx85 ho1 ho2 ho3 ho4 hl hE
    rw [S_WR_inverts_L36.eq_2, F_WR_inverts_L36.eq_2]
    by_cases g1 : ((F_WR_size (264 : Int32) lx83) : Int32) ≤ (0 : Int32)
    ·
      rw [if_pos g1, if_pos g1]
      by_cases g2 : ((F_WR_size (264 : Int32) lx82) : Int32) = (1 : Int32)
      ·
        rw [if_pos g2, if_pos g2]
        by_cases g3 : (lx82 (0 : Int32).toNatClampNeg : Int32) = (1 : Int32)
        ·
          rw [if_pos g3, if_pos g3]
          have h4 := R_div4  (t0_0 := lx70) (t0_1 := lx71) (t0_2 := lx72) (t0_3 := lx73) (t0_4 := lx74) (t0_5 := lx75) (t0_6 := lx76) (t1_0 := lx80) (t2_0 := lx81) (t3_0 := lx84) (t4_0 := t10_0) (by first | with_reducible assumption | with_reducible exact R_cl | (with_reducible apply R_cp; first | with_reducible assumption | with_reducible exact R_cl) | (with_reducible refine wO_upd ?_ w_m16; with_reducible assumption) | (with_reducible apply wR.mi <;> with_reducible assumption)  | omega | decide) (by first | with_reducible assumption | (refine w_reg ?_ (wR.o (by with_reducible assumption)) (by with_reducible assumption) ?_ <;> with_reducible assumption))
          have h4k := h4.2.1
          have h4q := h4.2.2.1
          have h4d := h4.2
          with_reducible refine v_owe h4.1 ?_
          replace h4 := h4.2
          generalize F_WR_divideRows (264 : Int32) (264 : Int32) lx70 lx71 lx72 lx73 lx74 lx75 lx76 lx80 lx81 lx84 t10_0 = p150 at *
          unfold S_WR_inverts_c197 F_WR_inverts_c197
          by_cases g5 : lx74 = (0 : Int32)
          ·
            rw [if_pos g5, if_pos g5]
            refine ⟨trivial, ?_⟩
            (unfold Q_WR_inverts; dsimp only; first | with_reducible assumption | (with_reducible apply R_cj <;> (with_reducible apply R_cp; first | with_reducible assumption | exact hN0.1)) | (with_reducible apply R_cp; with_reducible assumption))
          ·
            rw [if_neg g5, if_neg g5]
            by_cases g6 : ((F_WR_size (264 : Int32) ((F_WR_copy (264 : Int32) (264 : Int32) (p150.1 : (Nat → Int32)) lx82) : (Nat → Int32))) : Int32) ≤ (0 : Int32)
            ·
              rw [if_pos g6, if_pos g6]
              refine ⟨trivial, ?_⟩
              (unfold Q_WR_inverts; dsimp only; first | with_reducible assumption | (with_reducible apply R_cj <;> (with_reducible apply R_cp; first | with_reducible assumption | exact hN0.1)) | (with_reducible apply R_cp; with_reducible assumption))
            ·
              rw [if_neg g6, if_neg g6]
              have h7 := R_jS  (f := ((F_WR_copy (264 : Int32) (264 : Int32) (p150.1 : (Nat → Int32)) lx82) : (Nat → Int32))) (g := ((F_WR_copy (264 : Int32) (264 : Int32) t10_0 lx77) : (Nat → Int32))) (by first | with_reducible assumption | with_reducible exact R_cl | (with_reducible apply R_cp; first | with_reducible assumption | with_reducible exact R_cl) | (with_reducible refine wO_upd ?_ w_m16; with_reducible assumption) | (with_reducible apply wR.mi <;> with_reducible assumption)  | omega | decide) (by first | with_reducible assumption | with_reducible exact R_cl | (with_reducible apply R_cp; first | with_reducible assumption | with_reducible exact R_cl) | (with_reducible refine wO_upd ?_ w_m16; with_reducible assumption) | (with_reducible apply wR.mi <;> with_reducible assumption)  | omega | decide)
              with_reducible refine v_owe h7.1 ?_
              refine ⟨trivial, ?_⟩
              (unfold Q_WR_inverts; dsimp only; first | with_reducible assumption | (with_reducible apply R_cj <;> (with_reducible apply R_cp; first | with_reducible assumption | exact hN0.1)) | (with_reducible apply R_cp; with_reducible assumption))
        ·
          rw [if_neg g3, if_neg g3]
          refine ⟨trivial, ?_⟩
          (unfold Q_WR_inverts; dsimp only; first | with_reducible assumption | (with_reducible apply R_cj <;> (with_reducible apply R_cp; first | with_reducible assumption | exact hN0.1)) | (with_reducible apply R_cp; with_reducible assumption))
      ·
        rw [if_neg g2, if_neg g2]
        refine ⟨trivial, ?_⟩
        (unfold Q_WR_inverts; dsimp only; first | with_reducible assumption | (with_reducible apply R_cj <;> (with_reducible apply R_cp; first | with_reducible assumption | exact hN0.1)) | (with_reducible apply R_cp; with_reducible assumption))
    ·
      rw [if_neg g1, if_neg g1]
      have hN : wN lx83 := ⟨ho2, w_sz1 ho2 g1, hl⟩
      have h8 := R_div4  (t0_0 := lx70) (t0_1 := lx71) (t0_2 := lx72) (t0_3 := lx73) (t0_4 := lx74) (t0_5 := lx75) (t0_6 := lx76) (t1_0 := lx80) (t2_0 := lx81) (t3_0 := lx82) (t4_0 := lx83) (by first | with_reducible assumption | with_reducible exact R_cl | (with_reducible apply R_cp; first | with_reducible assumption | with_reducible exact R_cl) | (with_reducible refine wO_upd ?_ w_m16; with_reducible assumption) | (with_reducible apply wR.mi <;> with_reducible assumption)  | omega | decide) (by first | with_reducible assumption | (refine w_reg ?_ (wR.o (by with_reducible assumption)) (by with_reducible assumption) ?_ <;> with_reducible assumption))
      have h8k := h8.2.1
      have h8q := h8.2.2.1
      have h8d := h8.2
      with_reducible refine v_owe h8.1 ?_
      replace h8 := h8.2
      generalize F_WR_divideRows (264 : Int32) (264 : Int32) lx70 lx71 lx72 lx73 lx74 lx75 lx76 lx80 lx81 lx82 lx83 = p219 at *
      unfold S_WR_inverts_c55 F_WR_inverts_c55
      have h9 := R_mul4  (t0_0 := lx70) (t0_1 := lx71) (t0_2 := lx72) (t0_3 := lx73) (t0_4 := lx74) (t0_5 := lx75) (t0_6 := lx76) (t1_0 := lx79) (t2_0 := (p219.2 : (Nat → Int32))) (t3_0 := lx85) (t4_0 := lx78) (by first | with_reducible assumption | with_reducible exact R_cl | (with_reducible apply R_cp; first | with_reducible assumption | with_reducible exact R_cl) | (with_reducible refine wO_upd ?_ w_m16; with_reducible assumption) | (with_reducible apply wR.mi <;> with_reducible assumption)  | omega | decide) (by first | with_reducible assumption | with_reducible exact R_cl | (with_reducible apply R_cp; first | with_reducible assumption | with_reducible exact R_cl) | (with_reducible refine wO_upd ?_ w_m16; with_reducible assumption) | (with_reducible apply wR.mi <;> with_reducible assumption)  | omega | decide)
      have h9k := h9.2
      with_reducible refine v_owe h9.1 ?_
      have h10 := R_cpK  (f := lx83) (g := lx82) (by first | with_reducible assumption | with_reducible exact R_cl | (with_reducible apply R_cp; first | with_reducible assumption | with_reducible exact R_cl) | (with_reducible refine wO_upd ?_ w_m16; with_reducible assumption) | (with_reducible apply wR.mi <;> with_reducible assumption)  | omega | decide)
      have h10k := h10.1
      have h10v := h10
      have h11 := R_cpK  (f := (p219.1 : (Nat → Int32))) (g := lx83) (by first | with_reducible assumption | with_reducible exact R_cl | (with_reducible apply R_cp; first | with_reducible assumption | with_reducible exact R_cl) | (with_reducible refine wO_upd ?_ w_m16; with_reducible assumption) | (with_reducible apply wR.mi <;> with_reducible assumption)  | omega | decide)
      have h11k := h11.1
      have h11v := h11
      replace h9 := h9.2
      generalize F_WR_multiplyRows (264 : Int32) (264 : Int32) (264 : Int32) lx70 lx71 lx72 lx73 lx74 lx75 lx76 lx79 (p219.2 : (Nat → Int32)) lx85 lx78 = p251 at *
      generalize F_WR_copy (264 : Int32) (264 : Int32) (p219.1 : (Nat → Int32)) lx83 = f237 at *
      generalize F_WR_copy (264 : Int32) (264 : Int32) lx83 lx82 = f230 at *
      unfold S_WR_inverts_c93 F_WR_inverts_c93
      by_cases g12 : lx75 = (0 : Int32)
      ·
        rw [if_pos g12, if_pos g12]
        unfold S_WR_inverts_J121 F_WR_inverts_J121
        have h13 := R_sum  (x3 := lx74) (x5 := (1 : Int32)) (t0_0 := lx70) (t0_1 := lx71) (t0_2 := lx72) (t0_3 := lx73) (t0_4 := lx74) (t0_5 := lx75) (t0_6 := lx76) (t1_0 := lx77) (t2_0 := lx84) (t3_0 := (p251.2 : (Nat → Int32))) (by first | with_reducible assumption | with_reducible exact R_cl | (with_reducible apply R_cp; first | with_reducible assumption | with_reducible exact R_cl) | (with_reducible refine wO_upd ?_ w_m16; with_reducible assumption) | (with_reducible apply wR.mi <;> with_reducible assumption)  | omega | decide) (by first | with_reducible assumption | with_reducible exact R_cl | (with_reducible apply R_cp; first | with_reducible assumption | with_reducible exact R_cl) | (with_reducible refine wO_upd ?_ w_m16; with_reducible assumption) | (with_reducible apply wR.mi <;> with_reducible assumption)  | omega | decide)
        have h13k := h13.2
        with_reducible refine v_owe h13.1 ?_
        replace h13 := h13.2
        generalize F_WR_sum (264 : Int32) lx74 (264 : Int32) (1 : Int32) lx70 lx71 lx72 lx73 lx74 lx75 lx76 lx77 lx84 (p251.2 : (Nat → Int32)) = p309 at *
        unfold S_WR_inverts_c121 F_WR_inverts_c121
        exact ih _ _ _ _ _ _ _ _ _ _ _ _ _ _ _ _ (by with_reducible assumption) (by with_reducible assumption) (R_cp ho4) (R_cp (by with_reducible assumption)) (w_eucM hN (by with_reducible assumption) (by with_reducible assumption)) (w_eucT hE ho1 hN (by with_reducible assumption) (by with_reducible assumption) (by with_reducible assumption))
      ·
        rw [if_neg g12, if_neg g12]
        unfold S_WR_inverts_J121 F_WR_inverts_J121
        have h14 := R_sum  (x3 := lx74) (x5 := (0 : Int32)) (t0_0 := lx70) (t0_1 := lx71) (t0_2 := lx72) (t0_3 := lx73) (t0_4 := lx74) (t0_5 := lx75) (t0_6 := lx76) (t1_0 := lx77) (t2_0 := lx84) (t3_0 := (p251.2 : (Nat → Int32))) (by first | with_reducible assumption | with_reducible exact R_cl | (with_reducible apply R_cp; first | with_reducible assumption | with_reducible exact R_cl) | (with_reducible refine wO_upd ?_ w_m16; with_reducible assumption) | (with_reducible apply wR.mi <;> with_reducible assumption)  | omega | decide) (by first | with_reducible assumption | with_reducible exact R_cl | (with_reducible apply R_cp; first | with_reducible assumption | with_reducible exact R_cl) | (with_reducible refine wO_upd ?_ w_m16; with_reducible assumption) | (with_reducible apply wR.mi <;> with_reducible assumption)  | omega | decide)
        have h14k := h14.2
        with_reducible refine v_owe h14.1 ?_
        replace h14 := h14.2
        generalize F_WR_sum (264 : Int32) lx74 (264 : Int32) (0 : Int32) lx70 lx71 lx72 lx73 lx74 lx75 lx76 lx77 lx84 (p251.2 : (Nat → Int32)) = p309 at *
        unfold S_WR_inverts_c121 F_WR_inverts_c121
        exact ih _ _ _ _ _ _ _ _ _ _ _ _ _ _ _ _ (by with_reducible assumption) (by with_reducible assumption) (R_cp ho4) (R_cp (by with_reducible assumption)) (w_eucM hN (by with_reducible assumption) (by with_reducible assumption)) (w_eucT hE ho1 hN (by with_reducible assumption) (by with_reducible assumption) (by with_reducible assumption))
