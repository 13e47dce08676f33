/-! what Writer owes, and the calls that tell -/
theorem v_by3 {x : Int32} (h : -50000 ≤ x.toInt) (h2 : x.toInt ≤ 50000) : (3 * F_jMath_floorDiv_III x 3 : Int32).toInt ≤ x.toInt + 5 ∧ x.toInt ≤ (3 * F_jMath_floorDiv_III x 3 : Int32).toInt + 5 := by
  have d := v_fd3 (x := x) (by omega) (by omega)
  have e : (3 * F_jMath_floorDiv_III x 3 : Int32).toInt = 3 * (F_jMath_floorDiv_III x 3).toInt := q_mulI (x := 3) (by decide) rfl (by omega) (by omega)
  rw [e]; omega
theorem v_by3n {x : Int32} (h : -50000 ≤ x.toInt) (h2 : x.toInt ≤ 50000) : ((-3) * F_jMath_floorDiv_III (-x) 3 : Int32).toInt ≤ x.toInt + 5 ∧ x.toInt ≤ ((-3) * F_jMath_floorDiv_III (-x) 3 : Int32).toInt + 5 := by
  have n : (-x : Int32).toInt = -x.toInt := q_negI rfl (by omega)
  have d := v_fd3 (x := -x) (by omega) (by omega)
  have e : ((-3) * F_jMath_floorDiv_III (-x) 3 : Int32).toInt = (-3) * (F_jMath_floorDiv_III (-x) 3).toInt := q_mulI (x := -3) (by decide) rfl (by omega) (by omega)
  rw [e]; omega
theorem v_sub1 {a b : Int32} (h : -50000 ≤ a.toInt ∧ a.toInt ≤ 50000) (h2 : -60000 ≤ b.toInt ∧ b.toInt ≤ 60000) : ((a - b : Int32) + 1 : Int32).toInt = a.toInt - b.toInt + 1 := by
  have e1 : (a - b : Int32).toInt = a.toInt - b.toInt := q_subI rfl rfl (by omega) (by omega)
  exact q_addI (y := 1) e1 (by decide) (by omega) (by omega)
theorem v_1sub {a b : Int32} (h : -60000 ≤ a.toInt ∧ a.toInt ≤ 60000) (h2 : -60000 ≤ b.toInt ∧ b.toInt ≤ 60000) : ((1 + a : Int32) - b : Int32).toInt = 1 + a.toInt - b.toInt := by
  have e1 : (1 + a : Int32).toInt = 1 + a.toInt := q_addI (x := 1) (by decide) rfl (by omega) (by omega)
  exact q_subI e1 rfl (by omega) (by omega)
theorem v_m1s {a b : Int32} (h : -60000 ≤ a.toInt ∧ a.toInt ≤ 60000) (h2 : -60000 ≤ b.toInt ∧ b.toInt ≤ 60000) : ((a - 1 : Int32) - b : Int32).toInt = a.toInt - 1 - b.toInt := by
  have e1 : (a - 1 : Int32).toInt = a.toInt - 1 := q_subI (y := 1) rfl (by decide) (by omega) (by omega)
  exact q_subI e1 rfl (by omega) (by omega)
theorem v_p1p {a b : Int32} (h : -60000 ≤ a.toInt ∧ a.toInt ≤ 60000) (h2 : -60000 ≤ b.toInt ∧ b.toInt ≤ 60000) : ((a + 1 : Int32) + b : Int32).toInt = a.toInt + 1 + b.toInt := by
  have e1 : (a + 1 : Int32).toInt = a.toInt + 1 := q_addI (y := 1) rfl (by decide) (by omega) (by omega)
  exact q_addI e1 rfl (by omega) (by omega)
theorem v_a65 {a l : Int32} (ha : -1075 ≤ a.toInt ∧ a.toInt ≤ 2000) (hl : 0 ≤ l.toInt) : 0 ≤ (if (if 0 < (-a) then (-a) else 0) < l then (if 0 < (-a) then (-a) else 0) else l).toInt ∧ (if (if 0 < (-a) then (-a) else 0) < l then (if 0 < (-a) then (-a) else 0) else l).toInt ≤ 1075 := by
  have n : (-a : Int32).toInt = -a.toInt := q_negI rfl (by omega)
  have e0 : (0 : Int32).toInt = 0 := rfl
  have m : 0 ≤ (if 0 < (-a) then (-a) else 0 : Int32).toInt ∧ (if 0 < (-a) then (-a) else 0 : Int32).toInt ≤ 1075 := by
    split
    · rename_i h; have := q_ltI h; omega
    · omega
  generalize (if 0 < (-a) then (-a) else 0 : Int32) = z at m ⊢
  split
  · exact m
  · rename_i h; have := q_nltI h; omega
theorem v_a126 {a e : Int32} (ha : -1075 ≤ a.toInt ∧ a.toInt ≤ 2000) (he : 0 ≤ e.toInt ∧ e.toInt ≤ 1075) : 0 ≤ (if 0 < ((-a) - e) then ((-a) - e) else 0 : Int32).toInt ∧ (if 0 < ((-a) - e) then ((-a) - e) else 0 : Int32).toInt ≤ 1075 := by
  have n : (-a : Int32).toInt = -a.toInt := q_negI rfl (by omega)
  have n2 : ((-a) - e : Int32).toInt = -a.toInt - e.toInt := q_subI n rfl (by omega) (by omega)
  have e0 : (0 : Int32).toInt = 0 := rfl
  split
  · rename_i h; have := q_ltI h; omega
  · omega
def Q_turn (p : Int32 × Int32 × (Nat → Int32)) : Prop := -20001 ≤ p.2.1.toInt ∧ p.2.1.toInt ≤ 21025 ∧ 0 ≤ p.1.toInt ∧ p.1.toInt ≤ 1026
theorem v_tuL43 {K_F_Dig_turn_L0 : Int32 → (Int32 × Int32 × (Nat → Int32))} {x2 : Int32} {t0_0 : Int32} {t0_1 : Int32} {t1_0 : (Nat → Int32)} {lx9 : Int32} {K_S_Dig_turn_L0 : Int32 → Prop} (hx : -20000 ≤ x2.toInt ∧ x2.toInt ≤ 20000) (h9 : 0 ≤ lx9.toInt ∧ lx9.toInt ≤ 1026) : ∀ (n : Nat) (lx34 : Int32) (lx35 : Int32) (lx36 : (Nat → Int32)), (0 < n) → (lx34.toInt - lx35.toInt < (n : Int)) → (-1 ≤ lx34.toInt ∧ lx34.toInt ≤ 1026) → (0 ≤ lx35.toInt ∧ lx35.toInt ≤ 1027) → (S_Dig_turn_L43 K_S_Dig_turn_L0 x2 t0_0 t0_1 t1_0 lx9 n lx34 lx35 lx36) ∧ Q_turn (F_Dig_turn_L43 K_F_Dig_turn_L0 x2 t0_0 t0_1 t1_0 lx9 n lx34 lx35 lx36) := by
  intro n
  induction n with
  | zero => intro lx34 lx35 lx36 hn hm ha hb; exact absurd (show False by omega) id
  | succ n ih =>
    intro lx34 lx35 lx36 hn hm ha hb
    have e0 : (0 : Int32).toInt = 0 := rfl
    have e1 : (1 : Int32).toInt = 1 := rfl
    have em := v_m1s (a := lx9) (b := x2) (by omega) (by omega)
    rw [S_Dig_turn_L43.eq_2, F_Dig_turn_L43.eq_2]
    by_cases g1 : lx34 ≤ lx35
    ·
      rw [if_pos g1, if_pos g1]
      have g1i : lx34.toInt ≤ lx35.toInt := q_leI g1
      by_cases g2 : lx9 = (0 : Int32)
      ·
        rw [if_pos g2, if_pos g2]
        have g2i : lx9.toInt = 0 := q_eqI g2
        refine ⟨trivial, ?_⟩
        (unfold Q_turn; dsimp only; omega)
      ·
        rw [if_neg g2, if_neg g2]
        have g2i : lx9.toInt ≠ 0 := q_neI g2
        obtain ⟨a3, e4⟩ := q_nm (lx9 - 1 : Int32)
        rw [e4]
        have a3i : a3.toInt = lx9.toInt - 1 := by rw [← e4]; exact q_subI (x := lx9.toInt) (y := 1) rfl (by decide) (by omega) (by omega)
        obtain ⟨a5, e6⟩ := q_nm (a3 - x2 : Int32)
        rw [e6]
        have a5i : a5.toInt = a3.toInt - x2.toInt := by rw [← e6]; exact q_subI (x := a3.toInt) (y := x2.toInt) rfl rfl (by omega) (by omega)
        refine v_cons (by omega) ?_
        refine v_cons (by omega) ?_
        refine ⟨trivial, ?_⟩
        (unfold Q_turn; dsimp only; omega)
    ·
      rw [if_neg g1, if_neg g1]
      have g1i : lx35.toInt < lx34.toInt := q_nleI g1
      obtain ⟨a7, e8⟩ := q_nm (lx34 + (-1) : Int32)
      rw [e8]
      have a7i : a7.toInt = lx34.toInt + (-1) := by rw [← e8]; exact q_addI (x := lx34.toInt) (y := (-1)) rfl (by decide) (by omega) (by omega)
      obtain ⟨a9, e10⟩ := q_nm (lx35 + 1 : Int32)
      rw [e10]
      have a9i : a9.toInt = lx35.toInt + 1 := by rw [← e10]; exact q_addI (x := lx35.toInt) (y := 1) rfl (by decide) (by omega) (by omega)
      exact ih _ _ _ (by first | assumption | omega | trivial | decide) (by first | assumption | omega | trivial | decide) (by first | assumption | omega | trivial | decide) (by first | assumption | omega | trivial | decide)
theorem v_tuL0 {x2 : Int32} {t0_0 : Int32} {t0_1 : Int32} {t1_0 : (Nat → Int32)} (hx : -20000 ≤ x2.toInt ∧ x2.toInt ≤ 20000) : ∀ (n : Nat) (lx9 : Int32), (0 < n) → (lx9.toInt < (n : Int)) → (0 ≤ lx9.toInt ∧ lx9.toInt ≤ 1026) → (S_Dig_turn_L0 x2 t0_0 t0_1 t1_0 n lx9) ∧ Q_turn (F_Dig_turn_L0 x2 t0_0 t0_1 t1_0 n lx9) := by
  intro n
  induction n with
  | zero => intro lx9 hn hm ha; exact absurd (show False by omega) id
  | succ n ih =>
    intro lx9 hn hm ha
    have e0 : (0 : Int32).toInt = 0 := rfl
    have e1 : (1 : Int32).toInt = 1 := rfl
    rw [S_Dig_turn_L0.eq_2, F_Dig_turn_L0.eq_2]
    by_cases g1 : lx9 ≤ (0 : Int32)
    ·
      rw [if_pos g1, if_pos g1]
      have g1i : lx9.toInt ≤ 0 := q_leI g1
      unfold S_Dig_turn_J34 F_Dig_turn_J34
      have e9 : (lx9 - 1 : Int32).toInt = lx9.toInt - 1 := q_subI (y := 1) rfl (by decide) (by omega) (by omega)
      exact v_tuL43 hx (by omega) _ _ _ _ (by omega) (by rw [e9]; omega) (by rw [e9]; omega) (by decide)
    ·
      rw [if_neg g1, if_neg g1]
      have g1i : 0 < lx9.toInt := q_nleI g1
      by_cases g2 : (t1_0 (lx9 - 1 : Int32).toNatClampNeg : Int32) = (0 : Int32)
      ·
        rw [if_pos g2, if_pos g2]
        obtain ⟨a3, e4⟩ := q_nm (lx9 - 1 : Int32)
        rw [e4]
        have a3i : a3.toInt = lx9.toInt - 1 := by rw [← e4]; exact q_subI (x := lx9.toInt) (y := 1) rfl (by decide) (by omega) (by omega)
        exact ih _ (by first | assumption | omega | trivial | decide) (by first | assumption | omega | trivial | decide) (by first | assumption | omega | trivial | decide)
      ·
        rw [if_neg g2, if_neg g2]
        unfold S_Dig_turn_J34 F_Dig_turn_J34
        have e9 : (lx9 - 1 : Int32).toInt = lx9.toInt - 1 := q_subI (y := 1) rfl (by decide) (by omega) (by omega)
        exact v_tuL43 hx (by omega) _ _ _ _ (by omega) (by rw [e9]; omega) (by rw [e9]; omega) (by decide)
theorem T_turnB {x2 : Int32} {t0_0 : Int32} {t0_1 : Int32} {t1_0 : (Nat → Int32)} (hx : -20000 ≤ x2.toInt ∧ x2.toInt ≤ 20000) (ht : 0 ≤ t0_0.toInt ∧ t0_0.toInt ≤ 1026) : Q_turn (F_Dig_turn x2 t0_0 t0_1 t1_0) := by
  unfold F_Dig_turn
  exact (v_tuL0 hx (((t0_0.toInt - ((-1000000))).toNat + 1)) t0_0 (Nat.succ_pos _) (by omega) ht).2
def Q_fill (p : Int32 × Int32 × (Nat → Int32) × Int32 × Int32 × (Nat → Int32)) : Prop := -20001 ≤ p.2.1.toInt ∧ p.2.1.toInt ≤ 21025 ∧ 0 ≤ p.1.toInt ∧ p.1.toInt ≤ 1026
theorem v_fiL31 {K_F_Dig_fill_L7 : Int32 → Int32 → (Nat → Int32) → Int32 → Int32 → (Nat → Int32) → (Int32 × Int32 × (Nat → Int32) × Int32 × Int32 × (Nat → Int32))} {R : Int32} {x3 : Int32} {t0_0 : Int32} {t0_1 : Int32} {t1_0 : (Nat → Int32)} {t2_0 : Int32} {t2_1 : Int32} {t3_0 : (Nat → Int32)} {lx20 : Int32} {lx21 : Int32} {lx22 : (Nat → Int32)} {lx23 : Int32} {lx24 : Int32} {lx25 : (Nat → Int32)} {p116 : (Int32 × Int32 × Int32 × (Nat → Int32))} {y106 : Int32} {y107 : Int32} {f108 : (Nat → Int32)} (hK : ∀ (a b : Int32) (f : Nat → Int32) (c d : Int32) (g : Nat → Int32), a.toInt = lx20.toInt + 1 → b.toInt = 9 * a.toInt → Q_fill (K_F_Dig_fill_L7 a b f c d g)) (h2 : 0 ≤ lx20.toInt ∧ lx20.toInt ≤ 113) : ∀ (n : Nat) (lx129 : Int32) (lx130 : Int32) (lx131 : Int32) (lx132 : (Nat → Int32)), (0 ≤ lx129.toInt ∧ lx129.toInt ≤ 9) → (9 - lx129.toInt < (n : Int)) → (lx131.toInt = 9 * lx20.toInt + lx129.toInt) → Q_fill (F_Dig_fill_L31 K_F_Dig_fill_L7 R x3 t0_0 t0_1 t1_0 t2_0 t2_1 t3_0 lx20 lx21 lx22 lx23 lx24 lx25 p116 y106 y107 f108 n lx129 lx130 lx131 lx132) := by
  intro n
  induction n with
  | zero => intro lx129 lx130 lx131 lx132 h0 hm hc; exact absurd (show False by omega) id
  | succ n ih =>
    intro lx129 lx130 lx131 lx132 h0 hm hc
    have e0 : (0 : Int32).toInt = 0 := rfl
    have e1 : (1 : Int32).toInt = 1 := rfl
    rw [F_Dig_fill_L31.eq_2]
    by_cases g1 : (9 : Int32) ≤ lx129
    ·
      rw [if_pos g1]
      have g1i : 9 ≤ lx129.toInt := q_leI g1
      have e20 : (lx20 + 1 : Int32).toInt = lx20.toInt + 1 := q_addI (y := 1) rfl (by decide) (by omega) (by omega)
      exact hK _ _ _ _ _ _ e20 (by rw [e20]; omega)
    ·
      rw [if_neg g1]
      have g1i : lx129.toInt < 9 := q_nleI g1
      obtain ⟨a2, e3⟩ := q_nm (lx129 + 1 : Int32)
      rw [e3]
      have a2i : a2.toInt = lx129.toInt + 1 := by rw [← e3]; exact q_addI (x := lx129.toInt) (y := 1) rfl (by decide) (by omega) (by omega)
      obtain ⟨a4, e5⟩ := q_nm (lx131 + 1 : Int32)
      rw [e5]
      have a4i : a4.toInt = lx131.toInt + 1 := by rw [← e5]; exact q_addI (x := lx131.toInt) (y := 1) rfl (by decide) (by omega) (by omega)
      exact ih _ _ _ _ (by first | assumption | omega | trivial | decide) (by first | assumption | omega | trivial | decide) (by first | assumption | omega | trivial | decide)
theorem v_fiL7 {R : Int32} {x3 : Int32} {t0_0 : Int32} {t0_1 : Int32} {t1_0 : (Nat → Int32)} {t2_0 : Int32} {t2_1 : Int32} {t3_0 : (Nat → Int32)} (hx : -20000 ≤ x3.toInt ∧ x3.toInt ≤ 20000) : ∀ (n : Nat) (lx20 : Int32) (lx21 : Int32) (lx22 : (Nat → Int32)) (lx23 : Int32) (lx24 : Int32) (lx25 : (Nat → Int32)), (0 ≤ lx20.toInt ∧ lx20.toInt ≤ 114) → (114 - lx20.toInt < (n : Int)) → (lx21.toInt = 9 * lx20.toInt) → Q_fill (F_Dig_fill_L7 R x3 t0_0 t0_1 t1_0 t2_0 t2_1 t3_0 n lx20 lx21 lx22 lx23 lx24 lx25) := by
  intro n
  induction n with
  | zero => intro lx20 lx21 lx22 lx23 lx24 lx25 h0 hm hc; exact absurd (show False by omega) id
  | succ n ih =>
    intro lx20 lx21 lx22 lx23 lx24 lx25 h0 hm hc
    have e0 : (0 : Int32).toInt = 0 := rfl
    have e1 : (1 : Int32).toInt = 1 := rfl
    rw [F_Dig_fill_L7.eq_2]
    by_cases g1 : (114 : Int32) ≤ lx20
    ·
      rw [if_pos g1]
      have g1i : 114 ≤ lx20.toInt := q_leI g1
      have h2 := T_turnB (x2 := x3) (t0_0 := lx21) (t0_1 := t0_1) (t1_0 := lx22) (by omega) (by omega)
      generalize F_Dig_turn x3 lx21 t0_1 lx22 = p63 at h2 ⊢
      unfold Q_turn at h2
      unfold F_Dig_fill_c84
      (unfold Q_fill; dsimp only; omega)
    ·
      rw [if_neg g1]
      have g1i : lx20.toInt < 114 := q_nleI g1
      by_cases g3 : lx23 ≤ (0 : Int32)
      ·
        rw [if_pos g3]
        have g3i : lx23.toInt ≤ 0 := q_leI g3
        have h4 := T_turnB (x2 := x3) (t0_0 := lx21) (t0_1 := t0_1) (t1_0 := lx22) (by omega) (by omega)
        generalize F_Dig_turn x3 lx21 t0_1 lx22 = p91 at h4 ⊢
        unfold Q_turn at h4
        unfold F_Dig_fill_c84_3
        (unfold Q_fill; dsimp only; omega)
      ·
        rw [if_neg g3]
        have g3i : 0 < lx23.toInt := q_nleI g3
        generalize F_Big_divideSmall R (1000000000 : Int32) lx23 lx24 lx25 = p116
        unfold F_Dig_fill_c23
        exact v_fiL31 (fun a b f c d g h1 h2 => ih _ _ _ _ _ _ (by omega) (by omega) (by omega)) (by omega) _ _ _ _ _ (by decide) (by decide) (by omega)
theorem T_fillF {R : Int32} {x3 : Int32} {t0_0 : Int32} {t0_1 : Int32} {t1_0 : (Nat → Int32)} {t2_0 : Int32} {t2_1 : Int32} {t3_0 : (Nat → Int32)} (hx : -20000 ≤ x3.toInt ∧ x3.toInt ≤ 20000) : Q_fill (F_Dig_fill R x3 t0_0 t0_1 t1_0 t2_0 t2_1 t3_0) := by
  unfold F_Dig_fill
  exact v_fiL7 hx _ _ _ _ _ _ _ (by decide) (by decide) (by decide)
theorem T_fillB {R : Int32} {x3 : Int32} {t0_0 : Int32} {t0_1 : Int32} {t1_0 : (Nat → Int32)} {t2_0 : Int32} {t2_1 : Int32} {t3_0 : (Nat → Int32)} (hx : -20000 ≤ x3.toInt ∧ x3.toInt ≤ 20000) : (S_Dig_fill R x3 t0_0 t0_1 t1_0 t2_0 t2_1 t3_0) ∧ Q_fill (F_Dig_fill R x3 t0_0 t0_1 t1_0 t2_0 t2_1 t3_0) := ⟨S_fill (by omega) (by omega), T_fillF hx⟩
def Q_round (p : Int32 × Int32 × (Nat → Int32)) : Prop := p.2.1.toInt ≤ 200000
def Q_step (p : Int32 × Int32 × (Nat → Int32)) : Prop := p.2.1.toInt ≤ 200000
theorem v_stL {x2 : Int32} {t0_0 : Int32} {t0_1 : Int32} {t1_0 : (Nat → Int32)} (hx : -100000 ≤ x2.toInt ∧ x2.toInt ≤ 100000) (ht : -30000 ≤ t0_1.toInt ∧ t0_1.toInt ≤ 30000) : ∀ (n : Nat) (lx13 : Int32), (lx13.toInt + 1 < (n : Int)) → (-1 ≤ lx13.toInt ∧ lx13.toInt ≤ 1026) → Q_step (F_Dig_stepOutwards_L7 x2 t0_0 t0_1 t1_0 n lx13) := by
  intro n
  induction n with
  | zero => intro lx13 hm ha; exact absurd (show False by omega) id
  | succ n ih =>
    intro lx13 hm ha
    have e0 : (0 : Int32).toInt = 0 := rfl
    have e1 : (1 : Int32).toInt = 1 := rfl
    have s1 : (1 - x2 : Int32).toInt = 1 - x2.toInt := q_subI (x := 1) (by decide) rfl (by omega) (by omega)
    have s2 : (t0_1 + (1 - x2 : Int32) : Int32).toInt = t0_1.toInt + (1 - x2.toInt) := q_addI rfl s1 (by omega) (by omega)
    have s3 : (t0_1 + 1 : Int32).toInt = t0_1.toInt + 1 := q_addI (y := 1) rfl (by decide) (by omega) (by omega)
    rw [F_Dig_stepOutwards_L7.eq_2]
    by_cases g1 : lx13 < (0 : Int32)
    ·
      rw [if_pos g1]
      have g1i : lx13.toInt < 0 := q_ltI g1
      unfold F_Dig_stepOutwards_J28
      rw [if_pos g1]
      by_cases g2 : x2 ≤ (0 : Int32)
      ·
        rw [if_pos g2]
        have g2i : x2.toInt ≤ 0 := q_leI g2
        (unfold Q_step; dsimp only; omega)
      ·
        rw [if_neg g2]
        have g2i : 0 < x2.toInt := q_nleI g2
        (unfold Q_step; dsimp only; omega)
    ·
      rw [if_neg g1]
      have g1i : 0 ≤ lx13.toInt := q_nltI g1
      by_cases g3 : (t1_0 lx13.toNatClampNeg : Int32) = (9 : Int32)
      ·
        rw [if_pos g3]
        obtain ⟨a4, e5⟩ := q_nm (lx13 + (-1) : Int32)
        rw [e5]
        have a4i : a4.toInt = lx13.toInt + (-1) := by rw [← e5]; exact q_addI (x := lx13.toInt) (y := (-1)) rfl (by decide) (by omega) (by omega)
        exact ih _ (by first | assumption | omega | trivial | decide) (by first | assumption | omega | trivial | decide)
      ·
        rw [if_neg g3]
        unfold F_Dig_stepOutwards_J28
        rw [if_neg g1]
        (unfold Q_step; dsimp only; omega)
theorem T_stepB {x2 : Int32} {t0_0 : Int32} {t0_1 : Int32} {t1_0 : (Nat → Int32)} (hx : -100000 ≤ x2.toInt ∧ x2.toInt ≤ 100000) (ht : -30000 ≤ t0_1.toInt ∧ t0_1.toInt ≤ 30000) (hc : 0 ≤ t0_0.toInt ∧ t0_0.toInt ≤ 1026) : Q_step (F_Dig_stepOutwards x2 t0_0 t0_1 t1_0) := by
  unfold F_Dig_stepOutwards
  have e9 : (t0_0 - 1 : Int32).toInt = t0_0.toInt - 1 := q_subI (y := 1) rfl (by decide) (by omega) (by omega)
  exact v_stL hx ht _ _ (by rw [e9]; omega) (by rw [e9]; omega)
theorem T_roundB {x2 : Int32} {x3 : Int32} {t0_0 : Int32} {t0_1 : Int32} {t1_0 : (Nat → Int32)} (hx : -100000 ≤ x2.toInt ∧ x2.toInt ≤ 100000) (ht : -30000 ≤ t0_1.toInt ∧ t0_1.toInt ≤ 30000) (hc : 0 ≤ t0_0.toInt ∧ t0_0.toInt ≤ 1026) : Q_round (F_Dig_round x2 x3 t0_0 t0_1 t1_0) := by
  have e0 : (0 : Int32).toInt = 0 := rfl
  have e1 : (1 : Int32).toInt = 1 := rfl
  have mx : 0 ≤ (if x2 < 0 then 0 else x2 : Int32).toInt := by split <;> (first | decide | (rename_i h; have := q_nltI h; omega))
  unfold F_Dig_round
  by_cases g1 : x2 < t0_0
  ·
    rw [if_pos g1]
    have g1i : x2.toInt < t0_0.toInt := q_ltI g1
    by_cases g2 : ((F_Dig_goesOutwards x2 x3 t0_0 t0_1 t1_0) : Int32) = (0 : Int32)
    ·
      rw [if_pos g2]
      by_cases g3 : (if x2 < 0 then 0 else x2 : Int32) = (0 : Int32)
      ·
        rw [if_pos g3]
        (unfold Q_round; dsimp only; first | omega | exact h2)
      ·
        rw [if_neg g3]
        (unfold Q_round; dsimp only; first | omega | exact h2)
    ·
      rw [if_neg g2]
      have h4 := T_stepB (x2 := x2) (t0_0 := (if x2 < 0 then 0 else x2 : Int32)) (t0_1 := t0_1) (t1_0 := t1_0) hx ht ⟨mx, by have g := g1i; (first | (split <;> omega) | omega)⟩
      generalize F_Dig_goesOutwards x2 x3 t0_0 t0_1 t1_0 = a13
      generalize F_Dig_stepOutwards x2 (if x2 < 0 then 0 else x2 : Int32) t0_1 t1_0 = p45 at h4 ⊢
      unfold Q_step at h4
      unfold F_Dig_round_c31
      (unfold Q_round; dsimp only; first | omega | exact h2)
  ·
    rw [if_neg g1]
    have g1i : t0_0.toInt ≤ x2.toInt := q_nltI g1
    (unfold Q_round; dsimp only; first | omega | exact h2)
def Q_exact (p : Int32 × Int32 × Int32 × (Nat → Int32)) : Prop := 0 ≤ p.1.toInt ∧ p.1.toInt ≤ 1075
theorem T_exactB {A : Int32} {B : Int32} {C : Int32} {x2 : Int64} {t0_0 : Int32} {t0_1 : Int32} {t1_0 : (Nat → Int32)} (hB : 150 ≤ B.toInt ∧ B.toInt ≤ 1075) (hC : 255 ≤ C.toInt ∧ C.toInt ≤ 2047) (hCB : C.toInt ≤ B.toInt + 972) : Q_exact (F_Flo_exactly A B C x2 t0_0 t0_1 t1_0) := by
  have e0 : (0 : Int32).toInt = 0 := rfl
  have e1 : (1 : Int32).toInt = 1 := rfl
  unfold F_Flo_exactly
  have h1 := v_fpw  (A := A) (B := B) (C := C) (x := x2) hB hC hCB
  have h2 := W_setLong  (R := (220 : Int32)) (x := ((F_Flo_number A B C x2) : Int64)) (s := t0_0) (neg := t0_1) (f := t1_0) (by decide) (by decide)
  generalize F_Flo_power A B C x2 = a15 at h1 ⊢
  have hpw := h1
  generalize F_Big_setLong (220 : Int32) ((F_Flo_number A B C x2) : Int64) t0_0 t0_1 t1_0 = p40 at h2 ⊢
  have hsl := h2
  unfold F_Flo_exactly_c22
  by_cases g3 : (p40.1 : Int32) = (0 : Int32)
  ·
    rw [if_pos g3]
    (unfold Q_exact; dsimp only; omega)
  ·
    rw [if_neg g3]
    obtain ⟨lb, le, _⟩ := W_low1 hsl (fun z => g3 (hsl.nil.mpr z))
    obtain ⟨a65, e4⟩ := q_nm ((if (if 0 < (-a15 : Int32) then (-a15 : Int32) else 0 : Int32) < ((F_Big_lowestOne (220 : Int32) (p40.1 : Int32) (p40.2.1 : Int32) (p40.2.2 : (Nat → Int32))) : Int32) then (if 0 < (-a15 : Int32) then (-a15 : Int32) else 0 : Int32) else ((F_Big_lowestOne (220 : Int32) (p40.1 : Int32) (p40.2.1 : Int32) (p40.2.2 : (Nat → Int32))) : Int32) : Int32) : Int32)
    rw [e4]
    have a65b : 0 ≤ a65.toInt ∧ a65.toInt ≤ 1075 := by rw [← e4]; exact v_a65 (by omega) (by omega)
    generalize F_Big_shiftRight (220 : Int32) (if (if 0 < (-a15 : Int32) then (-a15 : Int32) else 0 : Int32) < ((F_Big_lowestOne (220 : Int32) (p40.1 : Int32) (p40.2.1 : Int32) (p40.2.2 : (Nat → Int32))) : Int32) then (if 0 < (-a15 : Int32) then (-a15 : Int32) else 0 : Int32) else ((F_Big_lowestOne (220 : Int32) (p40.1 : Int32) (p40.2.1 : Int32) (p40.2.2 : (Nat → Int32))) : Int32) : Int32) (p40.1 : Int32) (p40.2.1 : Int32) (p40.2.2 : (Nat → Int32)) = p85
    unfold F_Flo_exactly_c55
    generalize F_Big_shiftLeft (220 : Int32) a15 (p85.2.1 : Int32) (p85.2.2.1 : Int32) (p85.2.2.2 : (Nat → Int32)) = p110
    unfold F_Flo_exactly_c62
    obtain ⟨a126, e5⟩ := q_nm ((if 0 < ((-a15 : Int32) - a65 : Int32) then ((-a15 : Int32) - a65 : Int32) else 0 : Int32) : Int32)
    rw [e5]
    have a126b : 0 ≤ a126.toInt ∧ a126.toInt ≤ 1075 := by rw [← e5]; exact v_a126 (by omega) a65b
    generalize F_Big_timesFive (220 : Int32) (if 0 < ((-a15 : Int32) - a65 : Int32) then ((-a15 : Int32) - a65 : Int32) else 0 : Int32) (p110.1 : Int32) (p110.2.1 : Int32) (p110.2.2 : (Nat → Int32)) = p142
    unfold F_Flo_exactly_c80
    (unfold Q_exact; dsimp only; omega)
theorem T_writeByThrees {x2 : Int32} {x3 : Int32} {t0_0 : Int32} {t1_0 : (Nat → Int64)} {t2_0 : Int32} {t2_1 : Int32} {t3_0 : (Nat → Int32)} (h1 : 1 ≤ x2.toInt ∧ x2.toInt ≤ 1000) (h2 : -10001 ≤ x3.toInt ∧ x3.toInt ≤ 11000) : (S_Wri_writeByThrees x2 x3 t0_0 t1_0 t2_0 t2_1 t3_0) := by
  have e0 : (0 : Int32).toInt = 0 := rfl
  have e1 : (1 : Int32).toInt = 1 := rfl
  unfold S_Wri_writeByThrees
  by_cases g1 : t2_0 = (0 : Int32)
  ·
    rw [if_pos g1]
    have g1i : t2_0.toInt = 0 := q_eqI g1
    unfold S_Wri_writeByThrees_J15
    have g2 : ¬ ((1 : Int32) = (0 : Int32)) := (by decide)
    rw [if_neg g2]
    obtain ⟨lx28, e3⟩ := q_nm (((-3) * ((F_jMath_floorDiv_III (-x3 : Int32) (3 : Int32)) : Int32) : Int32) : Int32)
    rw [e3]
    have lx28b : lx28.toInt ≤ x3.toInt + 5 ∧ x3.toInt ≤ lx28.toInt + 5 := by rw [← e3]; exact v_by3n (by omega) (by omega)
    unfold S_Wri_writeByThrees_J39
    have g4 : ¬ ((1 : Int32) = (0 : Int32)) := (by decide)
    rw [if_neg g4]
    unfold S_Wri_writeByThrees_J55
    have g5 : ¬ ((1 : Int32) = (0 : Int32)) := (by decide)
    rw [if_neg g5]
    obtain ⟨lx50, e6⟩ := q_nm (((1 + lx28 : Int32) - x3 : Int32) : Int32)
    rw [e6]
    have lx50b : lx50.toInt = 1 + lx28.toInt - x3.toInt := by rw [← e6]; exact v_1sub (by omega) (by omega)
    unfold S_Wri_writeByThrees_J71
    refine And.intro (by omega) ?_
    refine And.intro (by omega) ?_
    generalize F_Dig_writeSplit (11008 : Int32) (1376 : Int32) (1000000 : Int32) (1 : Int32) lx50 t2_0 t2_1 t3_0 t0_0 t1_0 = p75
    unfold S_Wri_writeByThrees_c85
    by_cases g7 : lx28 = (0 : Int32)
    ·
      rw [if_pos g7]
      have g7i : lx28.toInt = 0 := q_eqI g7
      exact trivial
    ·
      rw [if_neg g7]
      have g7i : lx28.toInt ≠ 0 := q_neI g7
      refine And.intro (by omega) ?_
      generalize F_Wri_writePower lx28 (p75.1 : Int32) (p75.2 : (Nat → Int64)) = p98
      unfold S_Wri_writeByThrees_c96
      exact trivial
  ·
    rw [if_neg g1]
    have g1i : t2_0.toInt ≠ 0 := q_neI g1
    unfold S_Wri_writeByThrees_J15
    have g8 : ((0 : Int32) = (0 : Int32)) := (by decide)
    rw [if_pos g8]
    obtain ⟨lx28, e9⟩ := q_nm ((3 * ((F_jMath_floorDiv_III x3 (3 : Int32)) : Int32) : Int32) : Int32)
    rw [e9]
    have lx28b : lx28.toInt ≤ x3.toInt + 5 ∧ x3.toInt ≤ lx28.toInt + 5 := by rw [← e9]; exact v_by3 (by omega) (by omega)
    unfold S_Wri_writeByThrees_J39
    have g10 : ((0 : Int32) = (0 : Int32)) := (by decide)
    rw [if_pos g10]
    obtain ⟨lx39, e11⟩ := q_nm (((x3 - lx28 : Int32) + 1 : Int32) : Int32)
    rw [e11]
    have lx39b : lx39.toInt = x3.toInt - lx28.toInt + 1 := by rw [← e11]; exact v_sub1 (by omega) (by omega)
    unfold S_Wri_writeByThrees_J55
    have g12 : ((0 : Int32) = (0 : Int32)) := (by decide)
    rw [if_pos g12]
    unfold S_Wri_writeByThrees_J71
    refine And.intro (by omega) ?_
    refine And.intro (by omega) ?_
    generalize F_Dig_writeSplit (11008 : Int32) (1376 : Int32) (1000000 : Int32) lx39 x2 t2_0 t2_1 t3_0 t0_0 t1_0 = p75
    unfold S_Wri_writeByThrees_c85
    by_cases g13 : lx28 = (0 : Int32)
    ·
      rw [if_pos g13]
      have g13i : lx28.toInt = 0 := q_eqI g13
      exact trivial
    ·
      rw [if_neg g13]
      have g13i : lx28.toInt ≠ 0 := q_neI g13
      refine And.intro (by omega) ?_
      generalize F_Wri_writePower lx28 (p75.1 : Int32) (p75.2 : (Nat → Int64)) = p98
      unfold S_Wri_writeByThrees_c96
      exact trivial
theorem T_decimalText2 {R : Int32} {x3 : Int32} {t0_0 : Int32} {t1_0 : (Nat → Int64)} {t2_0 : Int32} {t2_1 : Int32} {t3_0 : (Nat → Int32)} {t4_0 : Int32} {t4_1 : Int32} {t5_0 : (Nat → Int32)} {t6_0 : Int32} {t6_1 : Int32} {t7_0 : Int32} {t7_1 : Int32} {t8_0 : (Nat → Int32)} (h1 : -10000 ≤ t6_0.toInt ∧ t6_0.toInt ≤ 10000) (h2 : 1 ≤ t6_1.toInt ∧ t6_1.toInt ≤ 1000) : (S_Wri_decimalText R x3 t0_0 t1_0 t2_0 t2_1 t3_0 t4_0 t4_1 t5_0 t6_0 t6_1 t7_0 t7_1 t8_0) := by
  have e0 : (0 : Int32).toInt = 0 := rfl
  have e1 : (1 : Int32).toInt = 1 := rfl
  unfold S_Wri_decimalText
  generalize F_Wri_begin_p t7_1 t0_0 t1_0 = p46
  unfold S_Wri_decimalText_c8
  generalize F_Big_copy (220 : Int32) R t4_0 t4_1 t5_0 t7_0 t7_1 t8_0 = p70
  unfold S_Wri_decimalText_c22
  have h1 := T_fillB (R := (220 : Int32)) (x3 := t6_0) (t0_0 := t2_0) (t0_1 := t2_1) (t1_0 := t3_0) (t2_0 := (p70.1 : Int32)) (t2_1 := (p70.2.1 : Int32)) (t3_0 := (p70.2.2 : (Nat → Int32))) (by omega)
  refine v_oweS h1.1 ?_
  replace h1 := h1.2
  generalize F_Dig_fill (220 : Int32) t6_0 t2_0 t2_1 t3_0 (p70.1 : Int32) (p70.2.1 : Int32) (p70.2.2 : (Nat → Int32)) = p104 at h1 ⊢
  unfold Q_fill at h1
  unfold S_Wri_decimalText_c40
  by_cases g2 : x3 = (1 : Int32)
  ·
    rw [if_pos g2]
    have g2i : x3.toInt = 1 := q_eqI g2
    refine And.intro (by omega) ?_
    obtain ⟨a123, e3⟩ := q_nm (((t6_1 - 1 : Int32) - t6_0 : Int32) : Int32)
    rw [e3]
    have a123b : a123.toInt = t6_1.toInt - 1 - t6_0.toInt := by rw [← e3]; exact v_m1s (by omega) (by omega)
    generalize F_Dig_writePlain (11008 : Int32) (1376 : Int32) (1000000 : Int32) (if 0 < t6_0 then t6_0 else 0 : Int32) (0 : Int32) (0 : Int32) (p104.1 : Int32) (p104.2.1 : Int32) (p104.2.2.1 : (Nat → Int32)) (p46.1 : Int32) (p46.2 : (Nat → Int64)) = p143
    unfold S_Wri_decimalText_c102
    exact trivial
  ·
    rw [if_neg g2]
    have g2i : x3.toInt ≠ 1 := q_neI g2
    by_cases g4 : t6_0 = (0 : Int32)
    ·
      rw [if_pos g4]
      have g4i : t6_0.toInt = 0 := q_eqI g4
      refine And.intro (by omega) ?_
      obtain ⟨a123, e5⟩ := q_nm (((t6_1 - 1 : Int32) - t6_0 : Int32) : Int32)
      rw [e5]
      have a123b : a123.toInt = t6_1.toInt - 1 - t6_0.toInt := by rw [← e5]; exact v_m1s (by omega) (by omega)
      generalize F_Dig_writePlain (11008 : Int32) (1376 : Int32) (1000000 : Int32) (if 0 < t6_0 then t6_0 else 0 : Int32) (0 : Int32) (0 : Int32) (p104.1 : Int32) (p104.2.1 : Int32) (p104.2.2.1 : (Nat → Int32)) (p46.1 : Int32) (p46.2 : (Nat → Int64)) = p170
      unfold S_Wri_decimalText_c102_5
      exact trivial
    ·
      rw [if_neg g4]
      have g4i : t6_0.toInt ≠ 0 := q_neI g4
      by_cases g6 : t6_0 ≤ (0 : Int32)
      ·
        rw [if_pos g6]
        have g6i : t6_0.toInt ≤ 0 := q_leI g6
        obtain ⟨a123, e7⟩ := q_nm (((t6_1 - 1 : Int32) - t6_0 : Int32) : Int32)
        rw [e7]
        have a123b : a123.toInt = t6_1.toInt - 1 - t6_0.toInt := by rw [← e7]; exact v_m1s (by omega) (by omega)
        unfold S_Wri_decimalText_J108
        by_cases g8 : x3 = (0 : Int32)
        ·
          rw [if_pos g8]
          have g8i : x3.toInt = 0 := q_eqI g8
          generalize F_Dig_writeHead (11008 : Int32) (1376 : Int32) (1000000 : Int32) t6_1 (0 : Int32) (p104.1 : Int32) (p104.2.1 : Int32) (p104.2.2.1 : (Nat → Int32)) (p46.1 : Int32) (p46.2 : (Nat → Int64)) = p230
          unfold S_Wri_decimalText_c125
          generalize F_Wri_writePower a123 (p230.1 : Int32) (p230.2 : (Nat → Int64)) = p249
          unfold S_Wri_decimalText_c131
          exact trivial
        ·
          rw [if_neg g8]
          have g8i : x3.toInt ≠ 0 := q_neI g8
          have h9 := T_writeByThrees (x2 := t6_1) (x3 := a123) (t0_0 := (p46.1 : Int32)) (t1_0 := (p46.2 : (Nat → Int64))) (t2_0 := (p104.1 : Int32)) (t2_1 := (p104.2.1 : Int32)) (t3_0 := (p104.2.2.1 : (Nat → Int32))) h2 (by omega)
          refine v_oweS h9 ?_
          generalize F_Wri_writeByThrees t6_1 a123 (p46.1 : Int32) (p46.2 : (Nat → Int64)) (p104.1 : Int32) (p104.2.1 : Int32) (p104.2.2.1 : (Nat → Int32)) = p208
          unfold S_Wri_decimalText_c144
          exact trivial
      ·
        rw [if_neg g6]
        have g6i : 0 < t6_0.toInt := q_nleI g6
        by_cases g10 : ((t6_1 - 1 : Int32) - t6_0 : Int32) < (-6 : Int32)
        ·
          rw [if_pos g10]
          obtain ⟨a123, e11⟩ := q_nm (((t6_1 - 1 : Int32) - t6_0 : Int32) : Int32)
          rw [e11]
          have a123b : a123.toInt = t6_1.toInt - 1 - t6_0.toInt := by rw [← e11]; exact v_m1s (by omega) (by omega)
          unfold S_Wri_decimalText_J108
          by_cases g12 : x3 = (0 : Int32)
          ·
            rw [if_pos g12]
            have g12i : x3.toInt = 0 := q_eqI g12
            generalize F_Dig_writeHead (11008 : Int32) (1376 : Int32) (1000000 : Int32) t6_1 (0 : Int32) (p104.1 : Int32) (p104.2.1 : Int32) (p104.2.2.1 : (Nat → Int32)) (p46.1 : Int32) (p46.2 : (Nat → Int64)) = p230
            unfold S_Wri_decimalText_c125
            generalize F_Wri_writePower a123 (p230.1 : Int32) (p230.2 : (Nat → Int64)) = p249
            unfold S_Wri_decimalText_c131
            exact trivial
          ·
            rw [if_neg g12]
            have g12i : x3.toInt ≠ 0 := q_neI g12
            have h13 := T_writeByThrees (x2 := t6_1) (x3 := a123) (t0_0 := (p46.1 : Int32)) (t1_0 := (p46.2 : (Nat → Int64))) (t2_0 := (p104.1 : Int32)) (t2_1 := (p104.2.1 : Int32)) (t3_0 := (p104.2.2.1 : (Nat → Int32))) h2 (by omega)
            refine v_oweS h13 ?_
            generalize F_Wri_writeByThrees t6_1 a123 (p46.1 : Int32) (p46.2 : (Nat → Int64)) (p104.1 : Int32) (p104.2.1 : Int32) (p104.2.2.1 : (Nat → Int32)) = p208
            unfold S_Wri_decimalText_c144
            exact trivial
        ·
          rw [if_neg g10]
          refine And.intro (by omega) ?_
          obtain ⟨a123, e14⟩ := q_nm (((t6_1 - 1 : Int32) - t6_0 : Int32) : Int32)
          rw [e14]
          have a123b : a123.toInt = t6_1.toInt - 1 - t6_0.toInt := by rw [← e14]; exact v_m1s (by omega) (by omega)
          generalize F_Dig_writePlain (11008 : Int32) (1376 : Int32) (1000000 : Int32) (if 0 < t6_0 then t6_0 else 0 : Int32) (0 : Int32) (0 : Int32) (p104.1 : Int32) (p104.2.1 : Int32) (p104.2.2.1 : (Nat → Int32)) (p46.1 : Int32) (p46.2 : (Nat → Int64)) = p279
          unfold S_Wri_decimalText_c102_10
          exact trivial
theorem T_exactText {A : Int32} {B : Int32} {C : Int32} {x3 : Int64} {x4 : Int32} {x5 : Int32} {x6 : Int32} {t0_0 : Int32} {t1_0 : (Nat → Int64)} {t2_0 : Int32} {t2_1 : Int32} {t3_0 : (Nat → Int32)} {t4_0 : Int32} {t4_1 : Int32} {t5_0 : (Nat → Int32)} {t6_0 : Int64} {t6_1 : Int32} {t6_2 : Int32} (hB : 150 ≤ B.toInt ∧ B.toInt ≤ 1075) (hC : 255 ≤ C.toInt ∧ C.toInt ≤ 2047) (hCB : C.toInt ≤ B.toInt + 972) (h5 : 0 ≤ x5.toInt ∧ x5.toInt ≤ 1100) : (S_Wri_exactText A B C x3 x4 x5 x6 t0_0 t1_0 t2_0 t2_1 t3_0 t4_0 t4_1 t5_0 t6_0 t6_1 t6_2) := by
  have e0 : (0 : Int32).toInt = 0 := rfl
  have e1 : (1 : Int32).toInt = 1 := rfl
  unfold S_Wri_exactText
  generalize F_Wri_begin_p ((F_Flo_isNegative A B C x3) : Int32) t0_0 t1_0 = p44
  unfold S_Wri_exactText_c6
  have h1 := T_exactB (A := A) (B := B) (C := C) (x2 := x3) (t0_0 := t4_0) (t0_1 := t4_1) (t1_0 := t5_0) hB hC hCB
  generalize F_Flo_exactly A B C x3 t4_0 t4_1 t5_0 = p69 at h1 ⊢
  unfold Q_exact at h1
  unfold S_Wri_exactText_c22
  have h2 := T_fillB (R := (220 : Int32)) (x3 := (p69.1 : Int32)) (t0_0 := t2_0) (t0_1 := t2_1) (t1_0 := t3_0) (t2_0 := (p69.2.1 : Int32)) (t2_1 := (p69.2.2.1 : Int32)) (t3_0 := (p69.2.2.2 : (Nat → Int32))) (by omega)
  refine v_oweS h2.1 ?_
  replace h2 := h2.2
  generalize F_Dig_fill (220 : Int32) (p69.1 : Int32) t2_0 t2_1 t3_0 (p69.2.1 : Int32) (p69.2.2.1 : Int32) (p69.2.2.2 : (Nat → Int32)) = p104 at h2 ⊢
  unfold Q_fill at h2
  unfold S_Wri_exactText_c25
  by_cases g3 : x4 = (0 : Int32)
  ·
    rw [if_pos g3]
    have g3i : x4.toInt = 0 := q_eqI g3
    obtain ⟨lx117, e4⟩ := q_nm ((((p104.2.1 : Int32) + 1 : Int32) + x5 : Int32) : Int32)
    rw [e4]
    have lx117b : lx117.toInt = p104.2.1.toInt + 1 + x5.toInt := by rw [← e4]; exact v_p1p (by omega) (by omega)
    unfold S_Wri_exactText_J54
    refine And.intro (by omega) ?_
    refine And.intro (by omega) ?_
    refine And.intro (by omega) ?_
    refine And.intro (by omega) ?_
    have h5 := T_roundB (x2 := lx117) (x3 := x6) (t0_0 := (p104.1 : Int32)) (t0_1 := (p104.2.1 : Int32)) (t1_0 := (p104.2.2.1 : (Nat → Int32))) (by omega) (by omega) (by omega)
    generalize F_Dig_round lx117 x6 (p104.1 : Int32) (p104.2.1 : Int32) (p104.2.2.1 : (Nat → Int32)) = p159 at h5 ⊢
    unfold Q_round at h5
    unfold S_Wri_exactText_c56
    rw [if_pos g3]
    refine And.intro (by omega) ?_
    generalize F_Dig_writePlain (11008 : Int32) (1376 : Int32) (1000000 : Int32) x5 (0 : Int32) (0 : Int32) (p159.1 : Int32) (p159.2.1 : Int32) (p159.2.2 : (Nat → Int32)) (p44.1 : Int32) (p44.2 : (Nat → Int64)) = p186
    unfold S_Wri_exactText_c93
    exact trivial
  ·
    rw [if_neg g3]
    have g3i : x4.toInt ≠ 0 := q_neI g3
    unfold S_Wri_exactText_J54
    refine And.intro (by omega) ?_
    refine And.intro (by omega) ?_
    refine And.intro (by omega) ?_
    refine And.intro (by omega) ?_
    have h6 := T_roundB (x2 := x5) (x3 := x6) (t0_0 := (p104.1 : Int32)) (t0_1 := (p104.2.1 : Int32)) (t1_0 := (p104.2.2.1 : (Nat → Int32))) (by omega) (by omega) (by omega)
    generalize F_Dig_round x5 x6 (p104.1 : Int32) (p104.2.1 : Int32) (p104.2.2.1 : (Nat → Int32)) = p159 at h6 ⊢
    unfold Q_round at h6
    unfold S_Wri_exactText_c56
    rw [if_neg g3]
    generalize F_Dig_writeScience (11008 : Int32) (1376 : Int32) (1000000 : Int32) x5 (0 : Int32) (p159.1 : Int32) (p159.2.1 : Int32) (p159.2.2 : (Nat → Int32)) (p44.1 : Int32) (p44.2 : (Nat → Int64)) = p208
    unfold S_Wri_exactText_c75
    exact trivial
theorem T_writeShort {A : Int32} {B : Int32} {C : Int32} {x3 : Int64} {t0_0 : Int32} {t1_0 : (Nat → Int64)} {t2_0 : Int32} {t2_1 : Int32} {t3_0 : (Nat → Int32)} {t4_0 : Int32} {t4_1 : Int32} {t5_0 : (Nat → Int32)} {t6_0 : Int32} {t6_1 : Int32} {t7_0 : (Nat → Int32)} {t8_0 : Int32} {t8_1 : Int32} {t9_0 : (Nat → Int32)} {t10_0 : Int32} {t10_1 : Int32} {t11_0 : (Nat → Int32)} {t12_0 : Int32} {t12_1 : Int32} {t13_0 : (Nat → Int32)} {t14_0 : Int64} {t14_1 : Int32} {t14_2 : Int32} (hB : 150 ≤ B.toInt ∧ B.toInt ≤ 1075) (hC : 255 ≤ C.toInt ∧ C.toInt ≤ 2047) (hCB : C.toInt ≤ B.toInt + 972) : (S_Wri_writeShort A B C x3 t0_0 t1_0 t2_0 t2_1 t3_0 t4_0 t4_1 t5_0 t6_0 t6_1 t7_0 t8_0 t8_1 t9_0 t10_0 t10_1 t11_0 t12_0 t12_1 t13_0 t14_0 t14_1 t14_2) := by
  have e0 : (0 : Int32).toInt = 0 := rfl
  have e1 : (1 : Int32).toInt = 1 := rfl
  unfold S_Wri_writeShort
  have h1 := T_short (A := A) (B := B) (C := C) (x2 := x3) (t0_0 := t14_0) (t0_1 := t14_1) (t0_2 := t14_2) (t1_0 := t4_0) (t1_1 := t4_1) (t2_0 := t5_0) (t3_0 := t6_0) (t3_1 := t6_1) (t4_0 := t7_0) (t5_0 := t8_0) (t5_1 := t8_1) (t6_0 := t9_0) (t7_0 := t10_0) (t7_1 := t10_1) (t8_0 := t11_0) (t9_0 := t12_0) (t9_1 := t12_1) (t10_0 := t13_0) hB hC hCB
  generalize F_Flo_findShortest A B C x3 t14_0 t14_1 t14_2 t4_0 t4_1 t5_0 t6_0 t6_1 t7_0 t8_0 t8_1 t9_0 t10_0 t10_1 t11_0 t12_0 t12_1 t13_0 = p111 at h1 ⊢
  unfold Q_short at h1
  have hng : (-(p111.2.1) : Int32).toInt = -p111.2.1.toInt := q_negI rfl (by omega)
  unfold S_Wri_writeShort_c2
  refine And.intro (by omega) ?_
  refine And.intro (by omega) ?_
  generalize F_Dig_fillLong (p111.1 : Int64) (-(p111.2.1 : Int32) : Int32) t2_0 t2_1 t3_0 = p157
  unfold S_Wri_writeShort_c18
  by_cases g2 : (p157.2.1 : Int32) < (-3 : Int32)
  ·
    rw [if_pos g2]
    have g2i : p157.2.1.toInt < -3 := q_ltI g2
    unfold S_Wri_writeShort_J68
    generalize F_Dig_writeHead (11008 : Int32) (1376 : Int32) (1000000 : Int32) (if 2 < (p157.1 : Int32) then (p157.1 : Int32) else 2 : Int32) (0 : Int32) (p157.1 : Int32) (p157.2.1 : Int32) (p157.2.2 : (Nat → Int32)) t0_0 t1_0 = p203
    unfold S_Wri_writeShort_c88
    generalize F_She_add_p (11008 : Int32) (1376 : Int32) (1000000 : Int32) (69 : Int32) (p203.1 : Int32) (p203.2 : (Nat → Int64)) = p222
    unfold S_Wri_writeShort_c97
    generalize F_Wri_writeSigned (p157.2.1 : Int32) (p222.1 : Int32) (p222.2 : (Nat → Int64)) = p241
    unfold S_Wri_writeShort_c108
    exact trivial
  ·
    rw [if_neg g2]
    have g2i : -3 ≤ p157.2.1.toInt := q_nltI g2
    by_cases g3 : (7 : Int32) ≤ (p157.2.1 : Int32)
    ·
      rw [if_pos g3]
      have g3i : 7 ≤ p157.2.1.toInt := q_leI g3
      unfold S_Wri_writeShort_J68
      generalize F_Dig_writeHead (11008 : Int32) (1376 : Int32) (1000000 : Int32) (if 2 < (p157.1 : Int32) then (p157.1 : Int32) else 2 : Int32) (0 : Int32) (p157.1 : Int32) (p157.2.1 : Int32) (p157.2.2 : (Nat → Int32)) t0_0 t1_0 = p203
      unfold S_Wri_writeShort_c88
      generalize F_She_add_p (11008 : Int32) (1376 : Int32) (1000000 : Int32) (69 : Int32) (p203.1 : Int32) (p203.2 : (Nat → Int64)) = p222
      unfold S_Wri_writeShort_c97
      generalize F_Wri_writeSigned (p157.2.1 : Int32) (p222.1 : Int32) (p222.2 : (Nat → Int64)) = p241
      unfold S_Wri_writeShort_c108
      exact trivial
    ·
      rw [if_neg g3]
      have g3i : p157.2.1.toInt < 7 := q_nleI g3
      refine And.intro (by split <;> omega) ?_
      generalize F_Dig_writePlain (11008 : Int32) (1376 : Int32) (1000000 : Int32) (if 1 < (-(p111.2.1 : Int32) : Int32) then (-(p111.2.1 : Int32) : Int32) else 1 : Int32) (0 : Int32) (0 : Int32) (p157.1 : Int32) (p157.2.1 : Int32) (p157.2.2 : (Nat → Int32)) t0_0 t1_0 = p276
      unfold S_Wri_writeShort_c64
      exact trivial
theorem T_floatText2 {A : Int32} {B : Int32} {C : Int32} {x3 : Int64} {x4 : Int32} {t0_0 : Int32} {t1_0 : (Nat → Int64)} {t2_0 : Int32} {t2_1 : Int32} {t3_0 : (Nat → Int32)} {t4_0 : Int32} {t4_1 : Int32} {t5_0 : (Nat → Int32)} {t6_0 : Int32} {t6_1 : Int32} {t7_0 : (Nat → Int32)} {t8_0 : Int32} {t8_1 : Int32} {t9_0 : (Nat → Int32)} {t10_0 : Int32} {t10_1 : Int32} {t11_0 : (Nat → Int32)} {t12_0 : Int32} {t12_1 : Int32} {t13_0 : (Nat → Int32)} {t14_0 : Int64} {t14_1 : Int32} {t14_2 : Int32} (hB : 150 ≤ B.toInt ∧ B.toInt ≤ 1075) (hC : 255 ≤ C.toInt ∧ C.toInt ≤ 2047) (hCB : C.toInt ≤ B.toInt + 972) : (S_Wri_floatText A B C x3 x4 t0_0 t1_0 t2_0 t2_1 t3_0 t4_0 t4_1 t5_0 t6_0 t6_1 t7_0 t8_0 t8_1 t9_0 t10_0 t10_1 t11_0 t12_0 t12_1 t13_0 t14_0 t14_1 t14_2) := by
  have e0 : (0 : Int32).toInt = 0 := rfl
  have e1 : (1 : Int32).toInt = 1 := rfl
  unfold S_Wri_floatText
  by_cases g1 : ((F_Flo_isNegative A B C x3) : Int32) = (0 : Int32)
  ·
    rw [if_pos g1]
    unfold S_Wri_floatText_J21
    unfold S_Wri_floatText_J22
    generalize F_Wri_begin_p (0 : Int32) t0_0 t1_0 = p100
    unfold S_Wri_floatText_c22
    by_cases g2 : ((F_Flo_isNoNumber A B C x3) : Int32) = (0 : Int32)
    ·
      rw [if_pos g2]
      by_cases g3 : ((F_Flo_isFinite A B C x3) : Int32) = (0 : Int32)
      ·
        rw [if_pos g3]
        generalize F_She_addText_24 (11008 : Int32) (1376 : Int32) (1000000 : Int32) (p100.1 : Int32) (p100.2 : (Nat → Int64)) = p317
        unfold S_Wri_floatText_c59
        exact trivial
      ·
        rw [if_neg g3]
        by_cases g4 : ((F_Flo_isZero A B C x3) : Int32) = (0 : Int32)
        ·
          rw [if_pos g4]
          by_cases g5 : x4 = (0 : Int32)
          ·
            rw [if_pos g5]
            have g5i : x4.toInt = 0 := q_eqI g5
            have h6 := T_writeShort (A := A) (B := B) (C := C) (x3 := x3) (t0_0 := (p100.1 : Int32)) (t1_0 := (p100.2 : (Nat → Int64))) (t2_0 := t2_0) (t2_1 := t2_1) (t3_0 := t3_0) (t4_0 := t4_0) (t4_1 := t4_1) (t5_0 := t5_0) (t6_0 := t6_0) (t6_1 := t6_1) (t7_0 := t7_0) (t8_0 := t8_0) (t8_1 := t8_1) (t9_0 := t9_0) (t10_0 := t10_0) (t10_1 := t10_1) (t11_0 := t11_0) (t12_0 := t12_0) (t12_1 := t12_1) (t13_0 := t13_0) (t14_0 := t14_0) (t14_1 := t14_1) (t14_2 := t14_2) hB hC hCB
            refine v_oweS h6 ?_
            generalize F_Wri_writeShort A B C x3 (p100.1 : Int32) (p100.2 : (Nat → Int64)) t2_0 t2_1 t3_0 t4_0 t4_1 t5_0 t6_0 t6_1 t7_0 t8_0 t8_1 t9_0 t10_0 t10_1 t11_0 t12_0 t12_1 t13_0 t14_0 t14_1 t14_2 = p213
            unfold S_Wri_floatText_c112
            exact trivial
          ·
            rw [if_neg g5]
            have g5i : x4.toInt ≠ 0 := q_neI g5
            generalize F_Wri_writeHexadecimal A B C x3 (p100.1 : Int32) (p100.2 : (Nat → Int64)) t14_0 t14_1 t14_2 = p255
            unfold S_Wri_floatText_c103
            exact trivial
        ·
          rw [if_neg g4]
          by_cases g7 : x4 = (0 : Int32)
          ·
            rw [if_pos g7]
            have g7i : x4.toInt = 0 := q_eqI g7
            generalize F_She_addText_26 (11008 : Int32) (1376 : Int32) (1000000 : Int32) (p100.1 : Int32) (p100.2 : (Nat → Int64)) = p277
            unfold S_Wri_floatText_c89
            exact trivial
          ·
            rw [if_neg g7]
            have g7i : x4.toInt ≠ 0 := q_neI g7
            generalize F_She_addText_25 (11008 : Int32) (1376 : Int32) (1000000 : Int32) (p100.1 : Int32) (p100.2 : (Nat → Int64)) = p297
            unfold S_Wri_floatText_c89_6
            exact trivial
    ·
      rw [if_neg g2]
      generalize F_She_addText_23 (11008 : Int32) (1376 : Int32) (1000000 : Int32) (p100.1 : Int32) (p100.2 : (Nat → Int64)) = p337
      unfold S_Wri_floatText_c39
      exact trivial
  ·
    rw [if_neg g1]
    by_cases g8 : ((F_Flo_isNoNumber A B C x3) : Int32) = (0 : Int32)
    ·
      rw [if_pos g8]
      unfold S_Wri_floatText_J22
      generalize F_Wri_begin_p (1 : Int32) t0_0 t1_0 = p100
      unfold S_Wri_floatText_c22
      rw [if_pos g8]
      by_cases g9 : ((F_Flo_isFinite A B C x3) : Int32) = (0 : Int32)
      ·
        rw [if_pos g9]
        generalize F_She_addText_24 (11008 : Int32) (1376 : Int32) (1000000 : Int32) (p100.1 : Int32) (p100.2 : (Nat → Int64)) = p317
        unfold S_Wri_floatText_c59
        exact trivial
      ·
        rw [if_neg g9]
        by_cases g10 : ((F_Flo_isZero A B C x3) : Int32) = (0 : Int32)
        ·
          rw [if_pos g10]
          by_cases g11 : x4 = (0 : Int32)
          ·
            rw [if_pos g11]
            have g11i : x4.toInt = 0 := q_eqI g11
            have h12 := T_writeShort (A := A) (B := B) (C := C) (x3 := x3) (t0_0 := (p100.1 : Int32)) (t1_0 := (p100.2 : (Nat → Int64))) (t2_0 := t2_0) (t2_1 := t2_1) (t3_0 := t3_0) (t4_0 := t4_0) (t4_1 := t4_1) (t5_0 := t5_0) (t6_0 := t6_0) (t6_1 := t6_1) (t7_0 := t7_0) (t8_0 := t8_0) (t8_1 := t8_1) (t9_0 := t9_0) (t10_0 := t10_0) (t10_1 := t10_1) (t11_0 := t11_0) (t12_0 := t12_0) (t12_1 := t12_1) (t13_0 := t13_0) (t14_0 := t14_0) (t14_1 := t14_1) (t14_2 := t14_2) hB hC hCB
            refine v_oweS h12 ?_
            generalize F_Wri_writeShort A B C x3 (p100.1 : Int32) (p100.2 : (Nat → Int64)) t2_0 t2_1 t3_0 t4_0 t4_1 t5_0 t6_0 t6_1 t7_0 t8_0 t8_1 t9_0 t10_0 t10_1 t11_0 t12_0 t12_1 t13_0 t14_0 t14_1 t14_2 = p213
            unfold S_Wri_floatText_c112
            exact trivial
          ·
            rw [if_neg g11]
            have g11i : x4.toInt ≠ 0 := q_neI g11
            generalize F_Wri_writeHexadecimal A B C x3 (p100.1 : Int32) (p100.2 : (Nat → Int64)) t14_0 t14_1 t14_2 = p255
            unfold S_Wri_floatText_c103
            exact trivial
        ·
          rw [if_neg g10]
          by_cases g13 : x4 = (0 : Int32)
          ·
            rw [if_pos g13]
            have g13i : x4.toInt = 0 := q_eqI g13
            generalize F_She_addText_26 (11008 : Int32) (1376 : Int32) (1000000 : Int32) (p100.1 : Int32) (p100.2 : (Nat → Int64)) = p277
            unfold S_Wri_floatText_c89
            exact trivial
          ·
            rw [if_neg g13]
            have g13i : x4.toInt ≠ 0 := q_neI g13
            generalize F_She_addText_25 (11008 : Int32) (1376 : Int32) (1000000 : Int32) (p100.1 : Int32) (p100.2 : (Nat → Int64)) = p297
            unfold S_Wri_floatText_c89_6
            exact trivial
    ·
      rw [if_neg g8]
      unfold S_Wri_floatText_J21
      unfold S_Wri_floatText_J22
      generalize F_Wri_begin_p (0 : Int32) t0_0 t1_0 = p100
      unfold S_Wri_floatText_c22
      rw [if_neg g8]
      generalize F_She_addText_23 (11008 : Int32) (1376 : Int32) (1000000 : Int32) (p100.1 : Int32) (p100.2 : (Nat → Int64)) = p337
      unfold S_Wri_floatText_c39
      exact trivial
