/-! values, for whole: the class's Digits: fill -/
def yPt (N m j : Nat) : Nat := N / 10 ^ m % 1000000000 / 10 ^ j
theorem yPt_s {N m j : Nat} : yPt N m (j + 1) = yPt N m j / 10 := by
  unfold yPt
  rw [Nat.pow_succ, ← Nat.div_div_eq_div_mul]
theorem yPt_l {N m j : Nat} : yPt N m j < 1000000000 := Nat.lt_of_le_of_lt (Nat.div_le_self _ _) (Nat.mod_lt _ (by decide))
theorem yPt_d {N m j : Nat} (h : j < 9) : yPt N m j % 10 = yLo N (m + j) := by
  unfold yPt yLo
  rw [Nat.pow_add, ← Nat.div_div_eq_div_mul]
  generalize N / 10 ^ m = M
  obtain ⟨d, hd⟩ : ∃ d, 9 = j + (1 + d) := ⟨8 - j, by omega⟩
  have e : 1000000000 = 10 ^ j * (10 ^ 1 * 10 ^ d) := by
    rw [← Nat.pow_add, ← Nat.pow_add, ← hd]
  rw [e, Nat.mod_mul_right_div_self]
  exact Nat.mod_mod_of_dvd _ ⟨10 ^ d, by rw [Nat.pow_one]⟩
theorem V_fi31 {K_F_Dig_fill_L7 : Int32 → Int32 → (Nat → Int32) → Int32 → Int32 → (Nat → Int32) → (Int32 × Int32 × (Nat → Int32) × Int32 × Int32 × (Nat → Int32))} {R : Int32} {x3 : Int32} {t0_0 : Int32} {t0_1 : Int32} {t1_0 : (Nat → Int32)} {t2_0 : Int32} {t2_1 : Int32} {t3_0 : (Nat → Int32)} {lx20 : Int32} {lx21 : Int32} {lx22 : (Nat → Int32)} {lx23 : Int32} {lx24 : Int32} {lx25 : (Nat → Int32)} {p116 : (Int32 × Int32 × Int32 × (Nat → Int32))} {y106 : Int32} {y107 : Int32} {f108 : (Nat → Int32)} {Q : (Int32 × Int32 × (Nat → Int32) × Int32 × Int32 × (Nat → Int32)) → Prop} {N m : Nat} (hm : m ≤ 1100) (hK : ∀ (cnt : Int32) (row : Nat → Int32), cnt.toInt = ((m + 9 : Nat) : Int) → (∀ i, i < m + 9 → (row i).toInt = ((yLo N i : Nat) : Int)) → Q (K_F_Dig_fill_L7 (lx20 + 1) cnt row y106 y107 f108)) : ∀ (n : Nat) (lx129 : Int32) (lx130 : Int32) (lx131 : Int32) (lx132 : (Nat → Int32)), ∀ (j : Nat), lx129.toInt = (j : Int) → j ≤ 9 → 9 < n + j → lx130.toInt = ((yPt N m j : Nat) : Int) → lx131.toInt = ((m + j : Nat) : Int) → (∀ i, i < m + j → (lx132 i).toInt = ((yLo N i : Nat) : Int)) → Q (F_Dig_fill_L31 K_F_Dig_fill_L7 R x3 t0_0 t0_1 t1_0 t2_0 t2_1 t3_0 lx20 lx21 lx22 lx23 lx24 lx25 p116 y106 y107 f108 n lx129 lx130 lx131 lx132) := by
  have e1 : (1 : Int32).toInt = 1 := rfl
  have e9 : (9 : Int32).toInt = 9 := rfl
  have e10 : (10 : Int32).toInt = 10 := rfl
  intro n
  induction n with
  | zero =>
    intro lx129 lx130 lx131 lx132 j h1 h2 h3
    omega
  | succ n ih =>
    intro lx129 lx130 lx131 lx132 j h1 h2 h3 h4 h5 h6
    rw [F_Dig_fill_L31.eq_2]
    by_cases g : (9 : Int32) ≤ lx129
    · rw [if_pos g]
      have g := q_leI g
      obtain rfl : j = 9 := by omega
      exact hK lx131 lx132 h5 h6
    · rw [if_neg g]
      have g := q_nleI g
      have hj : j < 9 := by omega
      have hr := v_rem (a := lx130) (b := 10) (by omega) (by omega)
      rw [h4, e10] at hr
      have hd := yPt_d (N := N) (m := m) hj
      have hl := yLo_9 N (m + j)
      have hr2 : (lx130 - lx130 / 10 * 10 : Int32).toInt = ((yLo N (m + j) : Nat) : Int) := by
        rw [hr, ← hd]
        rfl
      have hn := (y_nar9 (y := lx130 - lx130 / 10 * 10) (by rw [hr2]; omega)).1
      rw [hn]
      have mc : lx131.toNatClampNeg = m + j := by
        have := q_clI h5 (by omega)
        omega
      rw [mc]
      refine ih (lx129 + 1) (lx130 / 10) (lx131 + 1) _ (j + 1) (q_addI h1 e1 (by omega) (by omega)) (by omega) (by omega) ?_ (q_addI h5 e1 (by omega) (by omega)) ?_
      · rw [q_divI h4 e10 (by omega) (by omega), yPt_s]
        rfl
      · intro i hi
        rw [yu_pt]
        by_cases k : i = m + j
        · rw [if_pos k, hr2, k]
        · rw [if_neg k]
          exact h6 i (by omega)
theorem y_dv9 {N k : Nat} : N / 10 ^ (9 * k) / 1000000000 = N / 10 ^ (9 * (k + 1)) := by
  rw [Nat.div_div_eq_div_mul, show 9 * (k + 1) = 9 * k + 9 from by omega, Nat.pow_add]
theorem y_lt10z {N k : Nat} (h : N / 10 ^ k = 0) : yLt10 N k := (Nat.div_eq_zero_iff_lt (Nat.pow_pos (by decide))).mp h
theorem V_fi7 {R : Int32} {x3 : Int32} {t0_0 : Int32} {t0_1 : Int32} {t1_0 : (Nat → Int32)} {t2_0 : Int32} {t2_1 : Int32} {t3_0 : (Nat → Int32)} {N : Nat} (hN : yLt10 N 1026) (hx : -30000 ≤ x3.toInt ∧ x3.toInt ≤ 30000) : ∀ (n : Nat) (lx20 : Int32) (lx21 : Int32) (lx22 : (Nat → Int32)) (lx23 : Int32) (lx24 : Int32) (lx25 : (Nat → Int32)), ∀ (k : Nat) (w : Int), lx20.toInt = (k : Int) → k ≤ 114 → 114 < n + k → lx21.toInt = ((9 * k : Nat) : Int) → (∀ i, i < 9 * k → (lx22 i).toInt = ((yLo N i : Nat) : Int)) → bO R lx23 lx24 lx25 w → w.natAbs = N / 10 ^ (9 * k) → yDg (F_Dig_fill_L7 R x3 t0_0 t0_1 t1_0 t2_0 t2_1 t3_0 n lx20 lx21 lx22 lx23 lx24 lx25).1 (F_Dig_fill_L7 R x3 t0_0 t0_1 t1_0 t2_0 t2_1 t3_0 n lx20 lx21 lx22 lx23 lx24 lx25).2.2.1 N ∧ (∀ c, yDt N c → (F_Dig_fill_L7 R x3 t0_0 t0_1 t1_0 t2_0 t2_1 t3_0 n lx20 lx21 lx22 lx23 lx24 lx25).2.1.toInt = (if c = 0 then 0 else (c : Int) - 1 - x3.toInt)) ∧ bO R (F_Dig_fill_L7 R x3 t0_0 t0_1 t1_0 t2_0 t2_1 t3_0 n lx20 lx21 lx22 lx23 lx24 lx25).2.2.2.1 (F_Dig_fill_L7 R x3 t0_0 t0_1 t1_0 t2_0 t2_1 t3_0 n lx20 lx21 lx22 lx23 lx24 lx25).2.2.2.2.1 (F_Dig_fill_L7 R x3 t0_0 t0_1 t1_0 t2_0 t2_1 t3_0 n lx20 lx21 lx22 lx23 lx24 lx25).2.2.2.2.2 0 := by
  have e1 : (1 : Int32).toInt = 1 := rfl
  have e114 : (114 : Int32).toInt = 114 := rfl
  have e0 : (0 : Int32).toInt = 0 := rfl
  intro n
  induction n with
  | zero =>
    intro lx20 lx21 lx22 lx23 lx24 lx25 k w h1 h2 h3
    omega
  | succ n ih =>
    intro lx20 lx21 lx22 lx23 lx24 lx25 k w h1 h2 h3 h4 h5 h6 h7
    rw [F_Dig_fill_L7.eq_2]
    by_cases g : (114 : Int32) ≤ lx20
    · rw [if_pos g]
      have g := q_leI g
      have hk : k = 114 := by clear h7; omega
      have hw : w = 0 := by
        rw [hk] at h7
        have : N / 10 ^ (9 * 114) = 0 := Nat.div_eq_of_lt hN
        rw [this] at h7
        omega
      have t := V_turn (x2 := x3) (t0_0 := lx21) (t0_1 := t0_1) (t1_0 := lx22) (N := N) (m := 9 * k) (by clear h7; omega) hx h4 h5 (by rw [hk]; exact hN)
      revert t
      generalize F_Dig_turn x3 lx21 t0_1 lx22 = p
      intro t
      unfold F_Dig_fill_c84
      rw [hw] at h6
      exact ⟨t.1, t.2, h6⟩
    · rw [if_neg g]
      have g := q_nleI g
      by_cases z : lx23 ≤ 0
      · rw [if_pos z]
        have hw : w = 0 := Classical.byContradiction (fun c => absurd (q_leI z) (by have := h6.pos.mpr c; clear h7; omega))
        have hz : N / 10 ^ (9 * k) = 0 := by
          rw [← h7, hw]
          rfl
        have t := V_turn (x2 := x3) (t0_0 := lx21) (t0_1 := t0_1) (t1_0 := lx22) (N := N) (m := 9 * k) (by clear h7 hz; omega) hx h4 h5 (y_lt10z hz)
        revert t
        generalize F_Dig_turn x3 lx21 t0_1 lx22 = p
        intro t
        unfold F_Dig_fill_c84_3
        rw [hw] at h6
        exact ⟨t.1, t.2, h6⟩
      · rw [if_neg z]
        have dv := W_divS (x := 1000000000) h6 (by decide)
        revert dv
        generalize F_Big_divideSmall R 1000000000 lx23 lx24 lx25 = p
        intro dv
        obtain ⟨d1, w2, d2, _, _, d3⟩ := dv
        unfold F_Dig_fill_c23
        have c : k < 114 := by clear h7 d1 d2; omega
        refine V_fi31 (Q := fun r => yDg r.1 r.2.2.1 N ∧ (∀ c, yDt N c → r.2.1.toInt = (if c = 0 then 0 else (c : Int) - 1 - x3.toInt)) ∧ bO R r.2.2.2.1 r.2.2.2.2.1 r.2.2.2.2.2 0) (N := N) (m := 9 * k) (by omega) ?_ ((9 - (0 : Int32).toInt).toNat + 1) 0 p.1 lx21 lx22 0 rfl (by omega) (by show 9 < 10 + 0; omega) ?_ (by rw [h4]; rfl) h5
        · intro cnt row hc hr
          refine ih (lx20 + 1) cnt row p.2.1 p.2.2.1 p.2.2.2 (k + 1) w2 (q_addI h1 e1 (by clear h7 d1 d2; omega) (by clear h7 d1 d2; omega)) (by omega) (by clear h7 d1 d2; omega) (by rw [hc]; rfl) hr d3 ?_
          rw [d2, h7, ← y_dv9]
          rfl
        · rw [d1, h7]
          unfold yPt
          rw [Nat.pow_zero, Nat.div_one]
          rfl
theorem V_fill {R : Int32} {x3 : Int32} {t0_0 : Int32} {t0_1 : Int32} {t1_0 : (Nat → Int32)} {t2_0 : Int32} {t2_1 : Int32} {t3_0 : (Nat → Int32)} {v : Int} (h : bO R t2_0 t2_1 t3_0 v) (hN : yLt10 v.natAbs 1026) (hx : -30000 ≤ x3.toInt ∧ x3.toInt ≤ 30000) : yDg (F_Dig_fill R x3 t0_0 t0_1 t1_0 t2_0 t2_1 t3_0).1 (F_Dig_fill R x3 t0_0 t0_1 t1_0 t2_0 t2_1 t3_0).2.2.1 v.natAbs ∧ (∀ c, yDt v.natAbs c → (F_Dig_fill R x3 t0_0 t0_1 t1_0 t2_0 t2_1 t3_0).2.1.toInt = (if c = 0 then 0 else (c : Int) - 1 - x3.toInt)) ∧ bO R (F_Dig_fill R x3 t0_0 t0_1 t1_0 t2_0 t2_1 t3_0).2.2.2.1 (F_Dig_fill R x3 t0_0 t0_1 t1_0 t2_0 t2_1 t3_0).2.2.2.2.1 (F_Dig_fill R x3 t0_0 t0_1 t1_0 t2_0 t2_1 t3_0).2.2.2.2.2 0 := by
  unfold F_Dig_fill
  exact V_fi7 hN hx ((114 - (0 : Int32).toInt).toNat + 1) 0 0 t1_0 t2_0 t2_1 t3_0 0 v rfl (by omega) (by show 114 < 115 + 0; omega) rfl (fun i hi => absurd hi (by omega)) h (by rw [Nat.mul_zero, Nat.pow_zero, Nat.div_one])
