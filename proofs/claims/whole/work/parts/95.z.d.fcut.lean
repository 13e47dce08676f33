/-! FloatRows: value, top, cut, half -/
/-- figures, none of them high up -/
def flW (v : Nat → Int32) : Prop := flO 10 v 1404 ∧ ∀ i, 1390 ≤ i → i < 1404 → (v i).toInt = 0
/-- some figure -/
def flNz (v : Nat → Int32) : Prop := ∃ j : Nat, 20 ≤ j ∧ j < 1404 ∧ (v j).toInt ≠ 0
theorem flS.w {M : Int} {p : (Nat → Int32) × (Nat → Int32)} (h : flS M p) (hM : M < 10 ^ 1390) : flW p.2 := by
  refine ⟨h.1, fun i h1 h2 => ?_⟩
  by_cases c : (p.2 i).toInt = 0
  · exact c
  · have a := fl_ge (by decide) h.1 h2 c
    rw [h.2] at a
    exact absurd (Int.lt_of_le_of_lt (Int.le_trans (fl_mono (by decide) h1) a) hM) (Int.lt_irrefl _)
theorem flS.nz {M : Int} {p : (Nat → Int32) × (Nat → Int32)} (h : flS M p) (hM : 10 ^ 20 ≤ M) : flNz p.2 := by
  refine Classical.byContradiction (fun hn => ?_)
  have z : ∀ i, 20 ≤ i → i < 1404 → (p.2 i).toInt = 0 := fun i h1 h2 => by
    by_cases c : (p.2 i).toInt = 0
    · exact c
    · exact absurd ⟨i, h1, h2, c⟩ hn
  have a := fl_low (B := 10) (show 20 ≤ 1404 by decide) z
  have b := fl_lt (B := 10) (by decide) (h.1.mono (show 20 ≤ 1404 by decide))
  rw [← a, h.2] at b
  exact absurd (Int.lt_of_lt_of_le b hM) (Int.lt_irrefl _)
theorem fl_Ed {m : Nat} : flE / 2 ^ m ≤ flE := by
  have p := fl_pos (B := 2) (by decide) m
  have e := fl_pos (B := 1000000000) (by decide) 120
  exact Int.ediv_le_self _ (Int.le_of_lt e)
theorem fl_kA : (2 : Int) ^ 56 * (flE * 2 ^ 969) < 10 ^ 1390 := by
  have b : (2 ^ 56 * (1000000000 ^ 120 * 2 ^ 969) : Nat) < 10 ^ 1390 := by decide +kernel
  have c := Int.ofNat_lt.mpr b
  rw [Int.natCast_mul, Int.natCast_mul, fl_pn, fl_pn, fl_pn, fl_pn] at c
  exact c
theorem fl_kB : (2 : Int) ^ 54 * (flE * 2 ^ 971) < 10 ^ 1390 := by
  have b : (2 ^ 54 * (1000000000 ^ 120 * 2 ^ 971) : Nat) < 10 ^ 1390 := by decide +kernel
  have c := Int.ofNat_lt.mpr b
  rw [Int.natCast_mul, Int.natCast_mul, fl_pn, fl_pn, fl_pn, fl_pn] at c
  exact c
theorem fl_kC : (10 : Int) ^ 20 * 2 ^ 1076 ≤ flE := by
  have b : (10 ^ 20 * 2 ^ 1076 : Nat) ≤ 1000000000 ^ 120 := by decide +kernel
  have c := Int.ofNat_le.mpr b
  rw [Int.natCast_mul, fl_pn, fl_pn, fl_pn] at c
  exact c
theorem fl_k156 : (10 : Int) ^ 1390 ≤ 1000000000 ^ 156 := by
  rw [fl_b10]; exact fl_mono (by decide) (by decide)
theorem flU.up {x : Int32} {r : Nat → Int32} (h : flU x r) {M t : Int} {N : Nat} (h0 : 0 ≤ M) (hM : M ≤ t) (hx : x.toInt ≤ (N : Int)) (hk : t * (flE * 2 ^ N) < 10 ^ 1390) : M * flV 1000000000 r 156 < 10 ^ 1390 := by
  have pE : 0 < flE := fl_pos (B := 1000000000) (by decide) 120
  have pN := fl_pos (B := 2) (by decide) N
  have hv : flV 1000000000 r 156 ≤ flE * 2 ^ N := by
    rcases h.2 with ⟨a, m, b, c⟩ | ⟨a, m, b, c⟩
    · rw [c]
      exact Int.mul_le_mul_of_nonneg_left (fl_mono (by decide) (show m ≤ N by omega)) (Int.le_of_lt pE)
    · rw [c]
      have q := Int.mul_le_mul_of_nonneg_left (show 1 ≤ (2 : Int) ^ N by omega) (Int.le_of_lt pE)
      rw [Int.mul_one] at q
      exact Int.le_trans fl_Ed q
  have nn := fl_nn (B := 1000000000) (by decide) h.1
  exact Int.lt_of_le_of_lt (Int.mul_le_mul hM hv nn (Int.le_trans h0 hM)) hk
theorem flU.lo {x : Int32} {r : Nat → Int32} (h : flU x r) (hx : -1076 ≤ x.toInt) : 10 ^ 20 ≤ flV 1000000000 r 156 := by
  have pE : 0 < flE := fl_pos (B := 1000000000) (by decide) 120
  have p2 := fl_pos (B := 2) (by decide) 1076
  rcases h.2 with ⟨a, m, b, c⟩ | ⟨a, m, b, c⟩
  · rw [c]
    have pm := fl_pos (B := 2) (by decide) m
    have q := Int.mul_le_mul_of_nonneg_left (show 1 ≤ (2 : Int) ^ m by omega) (Int.le_of_lt pE)
    have w := Int.mul_le_mul_of_nonneg_left (show 1 ≤ (2 : Int) ^ 1076 by omega) (show (0 : Int) ≤ 10 ^ 20 by decide)
    rw [Int.mul_one] at q w
    exact Int.le_trans w (Int.le_trans fl_kC q)
  · rw [c]
    have pm := fl_pos (B := 2) (by decide) m
    refine Int.le_ediv_of_mul_le pm ?_
    have w := Int.mul_le_mul_of_nonneg_left (fl_mono (B := 2) (by decide) (show m ≤ 1076 by omega)) (show (0 : Int) ≤ 10 ^ 20 by decide)
    exact Int.le_trans w fl_kC
theorem fl_big {M V : Int} (h : 10 ^ 20 ≤ V) (hM : 1 ≤ M) : 10 ^ 20 ≤ M * V := by
  have p : (0 : Int) ≤ 10 ^ 20 := by decide
  have q := Int.mul_le_mul_of_nonneg_right hM (Int.le_trans p h)
  rw [Int.one_mul] at q
  exact Int.le_trans h q
theorem fl_1V {V : Int} (h : 10 ^ 20 ≤ V) : 1 ≤ V := Int.le_trans (by decide) h
def Q_FR_top (t1_0 : Nat → Int32) (p : Int32) : Prop := (20 ≤ p.toInt ∧ p.toInt ≤ 1389) ∧ (t1_0 p.toNatClampNeg).toInt ≠ 0 ∧ ∀ i : Nat, p.toInt < (i : Int) → i < 1404 → (t1_0 i).toInt = 0
theorem vf_top {t0_0 : Int32} {t0_1 : Int32} {t0_2 : Int32} {t0_3 : Int32} {t0_4 : Int64} {t0_5 : Int32} {t0_6 : Int32} {t0_7 : Int64} {t0_8 : Int32} {t0_9 : Int64} {t0_10 : Int32} {t1_0 : (Nat → Int32)} (hv : flW t1_0) : ∀ (n : Nat) (lx18 : Int32), (-1 ≤ lx18.toInt ∧ lx18.toInt ≤ 1403) → (lx18.toInt + 1 < (n : Int)) → (∃ j : Nat, 20 ≤ j ∧ (j : Int) ≤ lx18.toInt ∧ (t1_0 j).toInt ≠ 0) → (∀ i : Nat, lx18.toInt < (i : Int) → i < 1404 → (t1_0 i).toInt = 0) → (S_FR_top_L4 t0_0 t0_1 t0_2 t0_3 t0_4 t0_5 t0_6 t0_7 t0_8 t0_9 t0_10 t1_0 n lx18) ∧ Q_FR_top t1_0 (F_FR_top_L4 t0_0 t0_1 t0_2 t0_3 t0_4 t0_5 t0_6 t0_7 t0_8 t0_9 t0_10 t1_0 n lx18) := by
  intro n
  induction n with
  | zero => intro lx18 h0 hm ho hu; exact absurd (show False by omega) id
  | succ n ih =>
    intro lx18 h0 hm ho hu
    have e0 : (0 : Int32).toInt = 0 := rfl
    have e1 : (1 : Int32).toInt = 1 := rfl
    have eL0 : (0 : Int64).toInt = 0 := rfl
    have h20 : 20 ≤ lx18.toInt := by obtain ⟨j, a, b, -⟩ := ho; omega
    have e18 := q_clI (i := lx18) rfl (by omega)
    rw [S_FR_top_L4.eq_2, F_FR_top_L4.eq_2]
    refine v_cons (by omega) ?_
    by_cases g1 : (t1_0 lx18.toNatClampNeg : Int32) = (0 : Int32)
    ·
      rw [if_pos g1, if_pos g1]
      obtain ⟨a2, e3⟩ := q_nm (lx18 + (-1) : Int32)
      rw [e3]
      have a2i : a2.toInt = lx18.toInt + (-1) := by rw [← e3]; exact q_addI (x := lx18.toInt) (y := (-1)) rfl (by decide) (by omega) (by omega)
      have z := q_eqI g1; exact ih _ ⟨by omega, by omega⟩ (by omega) (by obtain ⟨j, a, b, c⟩ := ho; exact ⟨j, a, by have : j ≠ lx18.toNatClampNeg := (fun e => c (by rw [e]; exact z)); omega, c⟩) (fun i h1 h2 => by by_cases c : i = lx18.toNatClampNeg; (rw [c]; exact z); exact hu i (by omega) h2)
    ·
      rw [if_neg g1, if_neg g1]
      refine ⟨trivial, ?_⟩
      (have nz := q_neI g1; refine ⟨⟨h20, Int.not_lt.mp (fun h => nz (hv.2 lx18.toNatClampNeg (by omega) (by omega)))⟩, nz, hu⟩)
theorem T_FR_top {t0_0 : Int32} {t0_1 : Int32} {t0_2 : Int32} {t0_3 : Int32} {t0_4 : Int64} {t0_5 : Int32} {t0_6 : Int32} {t0_7 : Int64} {t0_8 : Int32} {t0_9 : Int64} {t0_10 : Int32} {t1_0 : (Nat → Int32)} (hv : flW t1_0)(hn : flNz t1_0) : (S_FR_top t0_0 t0_1 t0_2 t0_3 t0_4 t0_5 t0_6 t0_7 t0_8 t0_9 t0_10 t1_0) ∧ Q_FR_top t1_0 (F_FR_top t0_0 t0_1 t0_2 t0_3 t0_4 t0_5 t0_6 t0_7 t0_8 t0_9 t0_10 t1_0) := by
  have e0 : (0 : Int32).toInt = 0 := rfl
  have e1 : (1 : Int32).toInt = 1 := rfl
  have eL0 : (0 : Int64).toInt = 0 := rfl
  unfold S_FR_top F_FR_top
  exact vf_top hv _ _ ⟨by decide, by decide⟩ (by decide) (by obtain ⟨j, a, b, c⟩ := hn; exact ⟨j, a, (by have e3 : (1403 : Int32).toInt = 1403 := rfl; omega), c⟩) (fun i h1 h2 => by have e3 : (1403 : Int32).toInt = 1403 := rfl; omega)
theorem vf_cmp {N1 : Int32} {N2 : Int32} {t0_0 : (Nat → Int32)} {t1_0 : (Nat → Int32)} (h1 : N1.toInt = 1404) (h2 : N2.toInt = 1404) : ∀ (n : Nat) (lx8 : Int32), (-1 ≤ lx8.toInt ∧ lx8.toInt ≤ 1403) → (lx8.toInt + 1 < (n : Int)) → (S_FR_compare_L4 N1 N2 t0_0 t1_0 n lx8) := by
  intro n
  induction n with
  | zero => intro lx8 h0 hm; exact absurd (show False by omega) id
  | succ n ih =>
    intro lx8 h0 hm
    have e0 : (0 : Int32).toInt = 0 := rfl
    have e1 : (1 : Int32).toInt = 1 := rfl
    have eL0 : (0 : Int64).toInt = 0 := rfl
    rw [S_FR_compare_L4.eq_2]
    by_cases g1 : lx8 < (0 : Int32)
    ·
      rw [if_pos g1]
      have g1i : lx8.toInt < 0 := q_ltI g1
      unfold S_FR_compare_J23
      by_cases g2 : (0 : Int32) ≤ lx8
      ·
        rw [if_pos g2]
        have g2i : 0 ≤ lx8.toInt := q_leI g2
        refine And.intro (by omega) ?_
        refine And.intro (by omega) ?_
        by_cases g3 : (t1_0 lx8.toNatClampNeg : Int32) ≤ (t0_0 lx8.toNatClampNeg : Int32)
        ·
          rw [if_pos g3]
          exact trivial
        ·
          rw [if_neg g3]
          exact trivial
      ·
        rw [if_neg g2]
        have g2i : lx8.toInt < 0 := q_nleI g2
        exact trivial
    ·
      rw [if_neg g1]
      have g1i : 0 ≤ lx8.toInt := q_nltI g1
      refine And.intro (by omega) ?_
      refine And.intro (by omega) ?_
      by_cases g4 : (t0_0 lx8.toNatClampNeg : Int32) = (t1_0 lx8.toNatClampNeg : Int32)
      ·
        rw [if_pos g4]
        obtain ⟨a5, e6⟩ := q_nm (lx8 + (-1) : Int32)
        rw [e6]
        have a5i : a5.toInt = lx8.toInt + (-1) := by rw [← e6]; exact q_addI (x := lx8.toInt) (y := (-1)) rfl (by decide) (by omega) (by omega)
        exact ih _ (by first | with_reducible assumption | omega | decide) (by first | with_reducible assumption | omega | decide)
      ·
        rw [if_neg g4]
        unfold S_FR_compare_J23
        by_cases g7 : (0 : Int32) ≤ lx8
        ·
          rw [if_pos g7]
          have g7i : 0 ≤ lx8.toInt := q_leI g7
          refine And.intro (by omega) ?_
          refine And.intro (by omega) ?_
          by_cases g8 : (t1_0 lx8.toNatClampNeg : Int32) ≤ (t0_0 lx8.toNatClampNeg : Int32)
          ·
            rw [if_pos g8]
            exact trivial
          ·
            rw [if_neg g8]
            exact trivial
        ·
          rw [if_neg g7]
          have g7i : lx8.toInt < 0 := q_nleI g7
          exact trivial
theorem T_FR_compare {N1 : Int32} {N2 : Int32} {t0_0 : (Nat → Int32)} {t1_0 : (Nat → Int32)} (h1 : N1.toInt = 1404) (h2 : N2.toInt = 1404) : (S_FR_compare N1 N2 t0_0 t1_0) := by
  have e0 : (0 : Int32).toInt = 0 := rfl
  have e1 : (1 : Int32).toInt = 1 := rfl
  have eL0 : (0 : Int64).toInt = 0 := rfl
  unfold S_FR_compare
  exact vf_cmp h1 h2 _ _ (by decide) (by decide)
theorem T_FR_readsBack {t0_0 : Int32} {t0_1 : Int32} {t0_2 : Int32} {t0_3 : Int32} {t0_4 : Int64} {t0_5 : Int32} {t0_6 : Int32} {t0_7 : Int64} {t0_8 : Int32} {t0_9 : Int64} {t0_10 : Int32} {t1_0 : (Nat → Int32)} {t2_0 : (Nat → Int32)} {t3_0 : (Nat → Int32)}  : (S_FR_readsBack t0_0 t0_1 t0_2 t0_3 t0_4 t0_5 t0_6 t0_7 t0_8 t0_9 t0_10 t1_0 t2_0 t3_0) := by
  have e0 : (0 : Int32).toInt = 0 := rfl
  have e1 : (1 : Int32).toInt = 1 := rfl
  have eL0 : (0 : Int64).toInt = 0 := rfl
  unfold S_FR_readsBack
  by_cases g1 : (lg_cmp (t0_4 - t0_4 / 2 * 2 : Int64) 0 : Int32) = (0 : Int32)
  ·
    rw [if_pos g1]
    unfold S_FR_readsBack_J18
    have h2 := T_FR_compare (N1 := (1404 : Int32)) (N2 := (1404 : Int32)) (t0_0 := t3_0) (t1_0 := t1_0) (by decide) (by decide)
    with_reducible refine v_oweS h2 ?_
    have h3 := T_FR_compare (N1 := (1404 : Int32)) (N2 := (1404 : Int32)) (t0_0 := t3_0) (t1_0 := t2_0) (by decide) (by decide)
    with_reducible refine v_oweS h3 ?_
    by_cases g4 : (0 : Int32) < ((F_FR_compare (1404 : Int32) (1404 : Int32) t3_0 t1_0) : Int32)
    ·
      rw [if_pos g4]
      generalize F_FR_compare (1404 : Int32) (1404 : Int32) t3_0 t2_0 = a54 at *
      unfold S_FR_readsBack_J55
      by_cases g5 : a54 < (0 : Int32)
      ·
        rw [if_pos g5]
        exact trivial
      ·
        rw [if_neg g5]
        by_cases g6 : a54 = (0 : Int32)
        ·
          rw [if_pos g6]
          have g7 : ¬ ((1 : Int32) = (0 : Int32)) := (by decide)
          rw [if_neg g7]
          exact trivial
        ·
          rw [if_neg g6]
          exact trivial
    ·
      rw [if_neg g4]
      by_cases g8 : ((F_FR_compare (1404 : Int32) (1404 : Int32) t3_0 t1_0) : Int32) = (0 : Int32)
      ·
        rw [if_pos g8]
        have g9 : ¬ ((1 : Int32) = (0 : Int32)) := (by decide)
        rw [if_neg g9]
        generalize F_FR_compare (1404 : Int32) (1404 : Int32) t3_0 t2_0 = a54 at *
        unfold S_FR_readsBack_J55
        by_cases g10 : a54 < (0 : Int32)
        ·
          rw [if_pos g10]
          exact trivial
        ·
          rw [if_neg g10]
          by_cases g11 : a54 = (0 : Int32)
          ·
            rw [if_pos g11]
            have g12 : ¬ ((1 : Int32) = (0 : Int32)) := (by decide)
            rw [if_neg g12]
            exact trivial
          ·
            rw [if_neg g11]
            exact trivial
      ·
        rw [if_neg g8]
        exact trivial
  ·
    rw [if_neg g1]
    unfold S_FR_readsBack_J18
    have h13 := T_FR_compare (N1 := (1404 : Int32)) (N2 := (1404 : Int32)) (t0_0 := t3_0) (t1_0 := t1_0) (by decide) (by decide)
    with_reducible refine v_oweS h13 ?_
    have h14 := T_FR_compare (N1 := (1404 : Int32)) (N2 := (1404 : Int32)) (t0_0 := t3_0) (t1_0 := t2_0) (by decide) (by decide)
    with_reducible refine v_oweS h14 ?_
    by_cases g15 : (0 : Int32) < ((F_FR_compare (1404 : Int32) (1404 : Int32) t3_0 t1_0) : Int32)
    ·
      rw [if_pos g15]
      generalize F_FR_compare (1404 : Int32) (1404 : Int32) t3_0 t2_0 = a54 at *
      unfold S_FR_readsBack_J55
      by_cases g16 : a54 < (0 : Int32)
      ·
        rw [if_pos g16]
        exact trivial
      ·
        rw [if_neg g16]
        by_cases g17 : a54 = (0 : Int32)
        ·
          rw [if_pos g17]
          have g18 : ((0 : Int32) = (0 : Int32)) := (by decide)
          rw [if_pos g18]
          exact trivial
        ·
          rw [if_neg g17]
          exact trivial
    ·
      rw [if_neg g15]
      by_cases g19 : ((F_FR_compare (1404 : Int32) (1404 : Int32) t3_0 t1_0) : Int32) = (0 : Int32)
      ·
        rw [if_pos g19]
        have g20 : ((0 : Int32) = (0 : Int32)) := (by decide)
        rw [if_pos g20]
        exact trivial
      ·
        rw [if_neg g19]
        exact trivial
theorem vf_half {x2 : Int32} {t0_0 : Int32} {t0_1 : Int32} {t0_2 : Int32} {t0_3 : Int32} {t0_4 : Int64} {t0_5 : Int32} {t0_6 : Int32} {t0_7 : Int64} {t0_8 : Int32} {t0_9 : Int64} {t0_10 : Int32} {t1_0 : (Nat → Int32)} (hx : 0 ≤ x2.toInt ∧ x2.toInt ≤ 1403)(h1 : 1 ≤ x2.toInt) : ∀ (n : Nat) (lx49 : Int32), (0 ≤ lx49.toInt ∧ lx49.toInt < x2.toInt) → (x2.toInt - lx49.toInt < (n : Int)) → (S_FR_half_L40 x2 t0_0 t0_1 t0_2 t0_3 t0_4 t0_5 t0_6 t0_7 t0_8 t0_9 t0_10 t1_0 n lx49) := by
  intro n
  induction n with
  | zero => intro lx49 h0 hm; exact absurd (show False by omega) id
  | succ n ih =>
    intro lx49 h0 hm
    have e0 : (0 : Int32).toInt = 0 := rfl
    have e1 : (1 : Int32).toInt = 1 := rfl
    have eL0 : (0 : Int64).toInt = 0 := rfl
    rw [S_FR_half_L40.eq_2]
    obtain ⟨a1, e2⟩ := q_nm (x2 - 1 : Int32)
    rw [e2]
    have a1i : a1.toInt = x2.toInt - 1 := by rw [← e2]; exact q_subI (x := x2.toInt) (y := 1) rfl (by decide) (by omega) (by omega)
    by_cases g3 : a1 ≤ lx49
    ·
      rw [if_pos g3]
      have g3i : a1.toInt ≤ lx49.toInt := q_leI g3
      exact trivial
    ·
      rw [if_neg g3]
      have g3i : lx49.toInt < a1.toInt := q_nleI g3
      refine And.intro (by omega) ?_
      by_cases g4 : (t1_0 lx49.toNatClampNeg : Int32) = (0 : Int32)
      ·
        rw [if_pos g4]
        obtain ⟨a5, e6⟩ := q_nm (lx49 + 1 : Int32)
        rw [e6]
        have a5i : a5.toInt = lx49.toInt + 1 := by rw [← e6]; exact q_addI (x := lx49.toInt) (y := 1) rfl (by decide) (by omega) (by omega)
        exact ih _ (by first | with_reducible assumption | omega | decide) (by first | with_reducible assumption | omega | decide)
      ·
        rw [if_neg g4]
        exact trivial
theorem T_FR_half {x2 : Int32} {t0_0 : Int32} {t0_1 : Int32} {t0_2 : Int32} {t0_3 : Int32} {t0_4 : Int64} {t0_5 : Int32} {t0_6 : Int32} {t0_7 : Int64} {t0_8 : Int32} {t0_9 : Int64} {t0_10 : Int32} {t1_0 : (Nat → Int32)} (hx : 0 ≤ x2.toInt ∧ x2.toInt ≤ 1403) : (S_FR_half x2 t0_0 t0_1 t0_2 t0_3 t0_4 t0_5 t0_6 t0_7 t0_8 t0_9 t0_10 t1_0) := by
  have e0 : (0 : Int32).toInt = 0 := rfl
  have e1 : (1 : Int32).toInt = 1 := rfl
  have eL0 : (0 : Int64).toInt = 0 := rfl
  unfold S_FR_half
  by_cases g1 : x2 = (0 : Int32)
  ·
    rw [if_pos g1]
    have g1i : x2.toInt = 0 := q_eqI g1
    unfold S_FR_half_J16
    by_cases g2 : x2 ≤ (0 : Int32)
    ·
      rw [if_pos g2]
      have g2i : x2.toInt ≤ 0 := q_leI g2
      exact trivial
    ·
      rw [if_neg g2]
      have g2i : 0 < x2.toInt := q_nleI g2
      obtain ⟨a3, e4⟩ := q_nm (x2 - 1 : Int32)
      rw [e4]
      have a3i : a3.toInt = x2.toInt - 1 := by rw [← e4]; exact q_subI (x := x2.toInt) (y := 1) rfl (by decide) (by omega) (by omega)
      refine And.intro (by omega) ?_
      by_cases g5 : (t1_0 a3.toNatClampNeg : Int32) ≤ (5 : Int32)
      ·
        rw [if_pos g5]
        exact trivial
      ·
        rw [if_neg g5]
        exact trivial
  ·
    rw [if_neg g1]
    have g1i : x2.toInt ≠ 0 := q_neI g1
    obtain ⟨a6, e7⟩ := q_nm (x2 - 1 : Int32)
    rw [e7]
    have a6i : a6.toInt = x2.toInt - 1 := by rw [← e7]; exact q_subI (x := x2.toInt) (y := 1) rfl (by decide) (by omega) (by omega)
    refine And.intro (by omega) ?_
    refine And.intro (by omega) ?_
    by_cases g8 : (t1_0 a6.toNatClampNeg : Int32) = (5 : Int32)
    ·
      rw [if_pos g8]
      exact vf_half hx (by omega) _ _ ⟨by decide, by omega⟩ (by omega)
    ·
      rw [if_neg g8]
      unfold S_FR_half_J16
      by_cases g9 : x2 ≤ (0 : Int32)
      ·
        rw [if_pos g9]
        have g9i : x2.toInt ≤ 0 := q_leI g9
        exact trivial
      ·
        rw [if_neg g9]
        have g9i : 0 < x2.toInt := q_nleI g9
        obtain ⟨a10, e11⟩ := q_nm (x2 - 1 : Int32)
        rw [e11]
        have a10i : a10.toInt = x2.toInt - 1 := by rw [← e11]; exact q_subI (x := x2.toInt) (y := 1) rfl (by decide) (by omega) (by omega)
        refine And.intro (by omega) ?_
        by_cases g12 : (t1_0 a10.toNatClampNeg : Int32) ≤ (5 : Int32)
        ·
          rw [if_pos g12]
          exact trivial
        ·
          rw [if_neg g12]
          exact trivial
theorem vf_more {x2 : Int32} {x3 : Int32} {t0_0 : Int32} {t0_1 : Int32} {t0_2 : Int32} {t0_3 : Int32} {t0_4 : Int64} {t0_5 : Int32} {t0_6 : Int32} {t0_7 : Int64} {t0_8 : Int32} {t0_9 : Int64} {t0_10 : Int32} {t1_0 : (Nat → Int32)} (hx : 0 ≤ x2.toInt ∧ x2.toInt ≤ 1403) : ∀ (n : Nat) (lx19 : Int32) (lx20 : Int32), (0 ≤ lx19.toInt ∧ lx19.toInt ≤ x2.toInt) → (x2.toInt - lx19.toInt < (n : Int)) → (S_FR_isMore_L5 x2 x3 t0_0 t0_1 t0_2 t0_3 t0_4 t0_5 t0_6 t0_7 t0_8 t0_9 t0_10 t1_0 n lx19 lx20) := by
  intro n
  induction n with
  | zero => intro lx19 lx20 h0 hm; exact absurd (show False by omega) id
  | succ n ih =>
    intro lx19 lx20 h0 hm
    have e0 : (0 : Int32).toInt = 0 := rfl
    have e1 : (1 : Int32).toInt = 1 := rfl
    have eL0 : (0 : Int64).toInt = 0 := rfl
    rw [S_FR_isMore_L5.eq_2]
    by_cases g1 : x2 ≤ lx19
    ·
      rw [if_pos g1]
      have g1i : x2.toInt ≤ lx19.toInt := q_leI g1
      by_cases g2 : lx20 = (0 : Int32)
      ·
        rw [if_pos g2]
        exact trivial
      ·
        rw [if_neg g2]
        by_cases g3 : x3 = (0 : Int32)
        ·
          rw [if_pos g3]
          exact trivial
        ·
          rw [if_neg g3]
          have h4 := T_FR_half (x2 := x2) (t0_0 := t0_0) (t0_1 := t0_1) (t0_2 := t0_2) (t0_3 := t0_3) (t0_4 := t0_4) (t0_5 := t0_5) (t0_6 := t0_6) (t0_7 := t0_7) (t0_8 := t0_8) (t0_9 := t0_9) (t0_10 := t0_10) (t1_0 := t1_0) ⟨by omega, by omega⟩
          with_reducible refine v_oweS h4 ?_
          by_cases g5 : x3 = (1 : Int32)
          ·
            rw [if_pos g5]
            exact trivial
          ·
            rw [if_neg g5]
            by_cases g6 : (0 : Int32) < ((F_FR_half x2 t0_0 t0_1 t0_2 t0_3 t0_4 t0_5 t0_6 t0_7 t0_8 t0_9 t0_10 t1_0) : Int32)
            ·
              rw [if_pos g6]
              exact trivial
            ·
              rw [if_neg g6]
              by_cases g7 : ((F_FR_half x2 t0_0 t0_1 t0_2 t0_3 t0_4 t0_5 t0_6 t0_7 t0_8 t0_9 t0_10 t1_0) : Int32) = (0 : Int32)
              ·
                rw [if_pos g7]
                by_cases g8 : x3 = (2 : Int32)
                ·
                  rw [if_pos g8]
                  exact trivial
                ·
                  rw [if_neg g8]
                  refine And.intro (by omega) ?_
                  refine And.intro (by omega) ?_
                  by_cases g9 : ((t1_0 x2.toNatClampNeg : Int32) - (t1_0 x2.toNatClampNeg : Int32) / 2 * 2 : Int32) = (1 : Int32)
                  ·
                    rw [if_pos g9]
                    exact trivial
                  ·
                    rw [if_neg g9]
                    exact trivial
              ·
                rw [if_neg g7]
                exact trivial
    ·
      rw [if_neg g1]
      have g1i : lx19.toInt < x2.toInt := q_nleI g1
      by_cases g10 : lx20 = (0 : Int32)
      ·
        rw [if_pos g10]
        refine And.intro (by omega) ?_
        by_cases g11 : (t1_0 lx19.toNatClampNeg : Int32) = (0 : Int32)
        ·
          rw [if_pos g11]
          obtain ⟨a12, e13⟩ := q_nm (lx19 + 1 : Int32)
          rw [e13]
          have a12i : a12.toInt = lx19.toInt + 1 := by rw [← e13]; exact q_addI (x := lx19.toInt) (y := 1) rfl (by decide) (by omega) (by omega)
          exact ih _ _ (by first | with_reducible assumption | omega | decide) (by first | with_reducible assumption | omega | decide)
        ·
          rw [if_neg g11]
          obtain ⟨a14, e15⟩ := q_nm (lx19 + 1 : Int32)
          rw [e15]
          have a14i : a14.toInt = lx19.toInt + 1 := by rw [← e15]; exact q_addI (x := lx19.toInt) (y := 1) rfl (by decide) (by omega) (by omega)
          exact ih _ _ (by first | with_reducible assumption | omega | decide) (by first | with_reducible assumption | omega | decide)
      ·
        rw [if_neg g10]
        obtain ⟨a16, e17⟩ := q_nm (lx19 + 1 : Int32)
        rw [e17]
        have a16i : a16.toInt = lx19.toInt + 1 := by rw [← e17]; exact q_addI (x := lx19.toInt) (y := 1) rfl (by decide) (by omega) (by omega)
        exact ih _ _ (by first | with_reducible assumption | omega | decide) (by first | with_reducible assumption | omega | decide)
theorem T_FR_isMore {x2 : Int32} {x3 : Int32} {t0_0 : Int32} {t0_1 : Int32} {t0_2 : Int32} {t0_3 : Int32} {t0_4 : Int64} {t0_5 : Int32} {t0_6 : Int32} {t0_7 : Int64} {t0_8 : Int32} {t0_9 : Int64} {t0_10 : Int32} {t1_0 : (Nat → Int32)} (hx : 0 ≤ x2.toInt ∧ x2.toInt ≤ 1403) : (S_FR_isMore x2 x3 t0_0 t0_1 t0_2 t0_3 t0_4 t0_5 t0_6 t0_7 t0_8 t0_9 t0_10 t1_0) := by
  have e0 : (0 : Int32).toInt = 0 := rfl
  have e1 : (1 : Int32).toInt = 1 := rfl
  have eL0 : (0 : Int64).toInt = 0 := rfl
  unfold S_FR_isMore
  exact vf_more hx _ _ _ ⟨by decide, by omega⟩ (by omega)
theorem fl_cut {f : Nat → Int32} {j x : Int32} (h0 : 0 ≤ j.toInt) (h1 : j.toInt ≤ 1390) (ho : flO 10 f 1404) (hz : ∀ i : Nat, 1390 ≤ i → i < 1404 → j.toInt ≤ (i : Int) → (f i).toInt = 0) (hx : (f j.toNatClampNeg).toInt = 9 ∧ x.toInt = 0 ∨ (f j.toNatClampNeg).toInt ≠ 9 ∧ x.toInt = (f j.toNatClampNeg).toInt + 1) : flO 10 (upd f j.toNatClampNeg x) 1404 ∧ (∀ i : Nat, 1390 ≤ i → i < 1404 → j.toInt + 1 ≤ (i : Int) → (upd f j.toNatClampNeg x i).toInt = 0) ∧ (upd f j.toNatClampNeg x j.toNatClampNeg = 0 → j.toInt < 1390) := by
  have e := q_clI (i := j) rfl h0
  have d := ho j.toNatClampNeg (by omega)
  refine ⟨flO_upd ho (by omega), fun i a b c => ?_, fun h => ?_⟩
  · rw [v_ne (by omega)]
    exact hz i a b (by omega)
  · rw [v_eq] at h
    have h2 := q_eqI h
    have e0 : (0 : Int32).toInt = 0 := rfl
    by_cases c : j.toInt < 1390
    · exact c
    · have z := hz j.toNatClampNeg (by omega) (by omega) (by omega)
      omega
theorem fl_inc {f : Nat → Int32} {j : Int32} (h0 : 0 ≤ j.toInt) (h1 : j.toInt ≤ 1390) (ho : flO 10 f 1404) : (f j.toNatClampNeg + 1 : Int32).toInt = (f j.toNatClampNeg).toInt + 1 := by
  have e := q_clI (i := j) rfl h0
  have d := ho j.toNatClampNeg (by omega)
  exact q_addI (y := 1) rfl (by decide) (by omega) (by omega)
theorem vf_cut2 {K_F_FR_cut_L2 : Int32 → (Nat → Int32) → (Nat → Int32)} {x2 : Int32} {x3 : Int32} {t0_0 : Int32} {t0_1 : Int32} {t0_2 : Int32} {t0_3 : Int32} {t0_4 : Int64} {t0_5 : Int32} {t0_6 : Int32} {t0_7 : Int64} {t0_8 : Int32} {t0_9 : Int64} {t0_10 : Int32} {t1_0 : (Nat → Int32)} {t2_0 : (Nat → Int32)} {lx21 : Int32} {lx22 : (Nat → Int32)} {K_S_FR_cut_L2 : Int32 → (Nat → Int32) → Prop} (hv : flW t1_0) (hx : 0 ≤ x2.toInt ∧ x2.toInt ≤ 1390) : ∀ (n : Nat) (lx39 : Int32) (lx40 : Int32) (lx41 : (Nat → Int32)), (0 ≤ lx40.toInt ∧ lx40.toInt ≤ 1391) → (lx39 ≠ 0 → lx40.toInt ≤ 1390) → (1391 - lx40.toInt < (n : Int)) → (flO 10 lx41 1404) → (∀ i : Nat, 1390 ≤ i → i < 1404 → lx40.toInt ≤ (i : Int) → (lx41 i).toInt = 0) → (S_FR_cut_L41 K_S_FR_cut_L2 x2 x3 t0_0 t0_1 t0_2 t0_3 t0_4 t0_5 t0_6 t0_7 t0_8 t0_9 t0_10 t1_0 t2_0 lx21 lx22 n lx39 lx40 lx41) ∧ (fun r => flO 10 r 1404) (F_FR_cut_L41 K_F_FR_cut_L2 x2 x3 t0_0 t0_1 t0_2 t0_3 t0_4 t0_5 t0_6 t0_7 t0_8 t0_9 t0_10 t1_0 t2_0 lx21 lx22 n lx39 lx40 lx41) := by
  intro n
  induction n with
  | zero => intro lx39 lx40 lx41 hj hc hm ho hz; exact absurd (show False by omega) id
  | succ n ih =>
    intro lx39 lx40 lx41 hj hc hm ho hz
    have e0 : (0 : Int32).toInt = 0 := rfl
    have e1 : (1 : Int32).toInt = 1 := rfl
    have eL0 : (0 : Int64).toInt = 0 := rfl
    rw [S_FR_cut_L41.eq_2, F_FR_cut_L41.eq_2]
    by_cases g1 : lx39 = (0 : Int32)
    ·
      rw [if_pos g1, if_pos g1]
      refine ⟨trivial, ?_⟩
      exact ho
    ·
      rw [if_neg g1, if_neg g1]
      have hj1 := hc g1
      refine v_cons (by omega) ?_
      refine v_cons (by omega) ?_
      by_cases g2 : (lx41 lx40.toNatClampNeg : Int32) = (9 : Int32)
      ·
        rw [if_pos g2, if_pos g2]
        unfold S_FR_cut_J74 F_FR_cut_J74
        by_cases g3 : ((upd lx41 lx40.toNatClampNeg (0 : Int32) : (Nat → Int32)) lx40.toNatClampNeg : Int32) = (0 : Int32)
        ·
          rw [if_pos g3, if_pos g3]
          obtain ⟨a4, e5⟩ := q_nm (lx40 + 1 : Int32)
          rw [e5]
          have a4i : a4.toInt = lx40.toInt + 1 := by rw [← e5]; exact q_addI (x := lx40.toInt) (y := 1) rfl (by decide) (by omega) (by omega)
          have z := fl_cut (x := 0) hj.1 hj1 ho hz (Or.inl ⟨q_eqI g2, rfl⟩); exact ih _ _ _ ⟨by omega, by omega⟩ (fun _ => by have := z.2.2 g3; omega) (by have := z.2.2 g3; omega) z.1 (fun i a b c => z.2.1 i a b (by omega))
        ·
          rw [if_neg g3, if_neg g3]
          obtain ⟨a6, e7⟩ := q_nm (lx40 + 1 : Int32)
          rw [e7]
          have a6i : a6.toInt = lx40.toInt + 1 := by rw [← e7]; exact q_addI (x := lx40.toInt) (y := 1) rfl (by decide) (by omega) (by omega)
          have z := fl_cut (x := 0) hj.1 hj1 ho hz (Or.inl ⟨q_eqI g2, rfl⟩); exact ih _ _ _ ⟨by omega, by omega⟩ (fun h => absurd rfl h) (by omega) z.1 (fun i a b c => z.2.1 i a b (by omega))
      ·
        rw [if_neg g2, if_neg g2]
        unfold S_FR_cut_J74 F_FR_cut_J74
        by_cases g8 : ((upd lx41 lx40.toNatClampNeg ((lx41 lx40.toNatClampNeg : Int32) + 1 : Int32) : (Nat → Int32)) lx40.toNatClampNeg : Int32) = (0 : Int32)
        ·
          rw [if_pos g8, if_pos g8]
          obtain ⟨a9, e10⟩ := q_nm (lx40 + 1 : Int32)
          rw [e10]
          have a9i : a9.toInt = lx40.toInt + 1 := by rw [← e10]; exact q_addI (x := lx40.toInt) (y := 1) rfl (by decide) (by omega) (by omega)
          have z := fl_cut hj.1 hj1 ho hz (Or.inr ⟨q_neI g2, fl_inc hj.1 hj1 ho⟩); exact ih _ _ _ ⟨by omega, by omega⟩ (fun _ => by have := z.2.2 g8; omega) (by have := z.2.2 g8; omega) z.1 (fun i a b c => z.2.1 i a b (by omega))
        ·
          rw [if_neg g8, if_neg g8]
          obtain ⟨a11, e12⟩ := q_nm (lx40 + 1 : Int32)
          rw [e12]
          have a11i : a11.toInt = lx40.toInt + 1 := by rw [← e12]; exact q_addI (x := lx40.toInt) (y := 1) rfl (by decide) (by omega) (by omega)
          have z := fl_cut hj.1 hj1 ho hz (Or.inr ⟨q_neI g2, fl_inc hj.1 hj1 ho⟩); exact ih _ _ _ ⟨by omega, by omega⟩ (fun h => absurd rfl h) (by omega) z.1 (fun i a b c => z.2.1 i a b (by omega))
theorem vf_cut1 {x2 : Int32} {x3 : Int32} {t0_0 : Int32} {t0_1 : Int32} {t0_2 : Int32} {t0_3 : Int32} {t0_4 : Int64} {t0_5 : Int32} {t0_6 : Int32} {t0_7 : Int64} {t0_8 : Int32} {t0_9 : Int64} {t0_10 : Int32} {t1_0 : (Nat → Int32)} {t2_0 : (Nat → Int32)} (hv : flW t1_0) (hx : 0 ≤ x2.toInt ∧ x2.toInt ≤ 1390) : ∀ (n : Nat) (lx21 : Int32) (lx22 : (Nat → Int32)), (0 ≤ lx21.toInt ∧ lx21.toInt ≤ 1404) → (1404 - lx21.toInt < (n : Int)) → (∀ i : Nat, (i : Int) < lx21.toInt → (0 ≤ (lx22 i).toInt ∧ (lx22 i).toInt < 10) ∧ (1390 ≤ i → (lx22 i).toInt = 0)) → (S_FR_cut_L2 x2 x3 t0_0 t0_1 t0_2 t0_3 t0_4 t0_5 t0_6 t0_7 t0_8 t0_9 t0_10 t1_0 t2_0 n lx21 lx22) ∧ (fun r => flO 10 r 1404) (F_FR_cut_L2 x2 x3 t0_0 t0_1 t0_2 t0_3 t0_4 t0_5 t0_6 t0_7 t0_8 t0_9 t0_10 t1_0 t2_0 n lx21 lx22) := by
  intro n
  induction n with
  | zero => intro lx21 lx22 h0 hm ho; exact absurd (show False by omega) id
  | succ n ih =>
    intro lx21 lx22 h0 hm ho
    have e0 : (0 : Int32).toInt = 0 := rfl
    have e1 : (1 : Int32).toInt = 1 := rfl
    have eL0 : (0 : Int64).toInt = 0 := rfl
    have e21 := q_clI (i := lx21) rfl h0.1
    rw [S_FR_cut_L2.eq_2, F_FR_cut_L2.eq_2]
    by_cases g1 : (1404 : Int32) ≤ lx21
    ·
      rw [if_pos g1, if_pos g1]
      have g1i : 1404 ≤ lx21.toInt := q_leI g1
      exact vf_cut2 hv hx _ _ _ _ ⟨by omega, by omega⟩ (fun _ => hx.2) (by omega) (fun i hi => (ho i (by omega)).1) (fun i a b _ => (ho i (by omega)).2 a)
    ·
      rw [if_neg g1, if_neg g1]
      have g1i : lx21.toInt < 1404 := q_nleI g1
      by_cases g2 : x2 ≤ lx21
      ·
        rw [if_pos g2, if_pos g2]
        have g2i : x2.toInt ≤ lx21.toInt := q_leI g2
        obtain ⟨a3, e4⟩ := q_nm (lx21 + 1 : Int32)
        rw [e4]
        have a3i : a3.toInt = lx21.toInt + 1 := by rw [← e4]; exact q_addI (x := lx21.toInt) (y := 1) rfl (by decide) (by omega) (by omega)
        exact ih _ _ ⟨by omega, by omega⟩ (by omega) (fun i hi => by by_cases c : i = lx21.toNatClampNeg; (rw [c, v_eq]; exact ⟨hv.1 _ (by omega), fun h => hv.2 _ h (by omega)⟩); rw [v_ne c]; exact ho i (by omega))
      ·
        rw [if_neg g2, if_neg g2]
        have g2i : lx21.toInt < x2.toInt := q_nleI g2
        obtain ⟨a5, e6⟩ := q_nm (lx21 + 1 : Int32)
        rw [e6]
        have a5i : a5.toInt = lx21.toInt + 1 := by rw [← e6]; exact q_addI (x := lx21.toInt) (y := 1) rfl (by decide) (by omega) (by omega)
        exact ih _ _ ⟨by omega, by omega⟩ (by omega) (fun i hi => by by_cases c : i = lx21.toNatClampNeg; (rw [c, v_eq]; exact ⟨by decide, fun _ => rfl⟩); rw [v_ne c]; exact ho i (by omega))
theorem T_FR_cut {x2 : Int32} {x3 : Int32} {t0_0 : Int32} {t0_1 : Int32} {t0_2 : Int32} {t0_3 : Int32} {t0_4 : Int64} {t0_5 : Int32} {t0_6 : Int32} {t0_7 : Int64} {t0_8 : Int32} {t0_9 : Int64} {t0_10 : Int32} {t1_0 : (Nat → Int32)} {t2_0 : (Nat → Int32)} (hv : flW t1_0) (hx : 0 ≤ x2.toInt ∧ x2.toInt ≤ 1390) : (S_FR_cut x2 x3 t0_0 t0_1 t0_2 t0_3 t0_4 t0_5 t0_6 t0_7 t0_8 t0_9 t0_10 t1_0 t2_0) ∧ (fun r => flO 10 r 1404) (F_FR_cut x2 x3 t0_0 t0_1 t0_2 t0_3 t0_4 t0_5 t0_6 t0_7 t0_8 t0_9 t0_10 t1_0 t2_0) := by
  have e0 : (0 : Int32).toInt = 0 := rfl
  have e1 : (1 : Int32).toInt = 1 := rfl
  have eL0 : (0 : Int64).toInt = 0 := rfl
  unfold S_FR_cut F_FR_cut
  exact vf_cut1 hv hx _ _ _ ⟨by decide, by decide⟩ (by decide) (fun i hi => by omega)
