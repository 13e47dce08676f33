/-! values, for whole: the printer's figures -/
theorem V_flM {x2 : Int64} {x3 : Int32} {t0_0 : Int32} {t0_1 : Int32} {t1_0 : (Nat → Int32)} {lx14 : Int64} {S : Nat} (hS : S < 10000000000000000000) (hx : -30000 ≤ x3.toInt ∧ x3.toInt ≤ 30000) : ∀ (n : Nat) (lx27 : Int32) (lx28 : Int64) (lx29 : Int32) (lx30 : (Nat → Int32)), ∀ (i : Nat), lx27.toInt = (i : Int) → i ≤ 20 → 20 < n + i → lx28.toInt = -((S / 10 ^ i : Nat) : Int) → lx29.toInt = (i : Int) → (∀ j, j < i → (lx30 j).toInt = ((yLo S j : Nat) : Int)) → yDg (F_Dig_fillLong_L22 x2 x3 t0_0 t0_1 t1_0 lx14 n lx27 lx28 lx29 lx30).1 (F_Dig_fillLong_L22 x2 x3 t0_0 t0_1 t1_0 lx14 n lx27 lx28 lx29 lx30).2.2 S ∧ (∀ c, yDt S c → (F_Dig_fillLong_L22 x2 x3 t0_0 t0_1 t1_0 lx14 n lx27 lx28 lx29 lx30).2.1.toInt = (if c = 0 then 0 else (c : Int) - 1 - x3.toInt)) := by
  have e1 : (1 : Int32).toInt = 1 := rfl
  have e20 : (20 : Int32).toInt = 20 := rfl
  have e0L : (0 : Int64).toInt = 0 := rfl
  intro n
  induction n with
  | zero =>
    intro lx27 lx28 lx29 lx30 i g1 g2 g3
    omega
  | succ n ih =>
    intro lx27 lx28 lx29 lx30 i g1 g2 g3 g4 g5 g6
    rw [F_Dig_fillLong_L22.eq_2]
    by_cases c : (20 : Int32) ≤ lx27
    · rw [if_pos c]
      have c := q_leI c
      obtain rfl : i = 20 := by clear g4; omega
      have t := V_turnP (x2 := x3) (t0_0 := lx29) (t0_1 := t0_1) (t1_0 := lx30) (N := S) (m := 20) (by decide) hx g5 g6 (Nat.lt_of_lt_of_le hS (by decide))
      revert t
      generalize F_Dig_turn_p x3 lx29 t0_1 lx30 = p
      intro t
      unfold F_Dig_fillLong_c80
      exact t
    · rw [if_neg c]
      have c := q_nleI c
      by_cases z : lg_cmp lx28 0 = 0
      · rw [if_pos z]
        have z := g_lcz z
        rw [g4, e0L] at z
        have sz : S / 10 ^ i = 0 := by
          generalize S / 10 ^ i = y at z
          clear g4
          omega
        have t := V_turnP (x2 := x3) (t0_0 := lx29) (t0_1 := t0_1) (t1_0 := lx30) (N := S) (m := i) (by clear g4; omega) hx g5 g6 (y_lt10z sz)
        revert t
        generalize F_Dig_turn_p x3 lx29 t0_1 lx30 = p
        intro t
        unfold F_Dig_fillLong_c80_4
        exact t
      · rw [if_neg z]
        obtain ⟨u1, u2⟩ := u_l10 (x := lx28)
        have sb : S / 10 ^ i ≤ S := Nat.div_le_self _ _
        have r1 : (lx28 - lx28 / 10 * 10 : Int64).toInt = -((yLo S i : Nat) : Int) := by
          rw [u1, g4, Int.neg_tmod]
          unfold yLo
          rfl
        have d9 := yLo_9 S i
        have r2 : (-(lx28 - lx28 / 10 * 10) : Int64).toInt = ((yLo S i : Nat) : Int) := by
          rw [n_negL r1 (by clear g4; omega)]
          omega
        have r3 : ((-(lx28 - lx28 / 10 * 10) : Int64).toInt32).toInt = ((yLo S i : Nat) : Int) := by
          rw [s_l2i (by rw [r2]; clear g4; omega) (by rw [r2]; clear g4; omega), r2]
        have nr := (y_nar9 (y := (-(lx28 - lx28 / 10 * 10) : Int64).toInt32) (by rw [r3]; clear g4; omega)).1
        rw [nr]
        have ic : lx29.toNatClampNeg = i := by
          have := q_clI g5 (by clear g4; omega)
          clear g4
          omega
        rw [ic]
        refine ih (lx27 + 1) (lx28 / 10) (lx29 + 1) _ (i + 1) (q_addI g1 e1 (by clear g4; omega) (by clear g4; omega)) (by clear g4; omega) (by clear g4; omega) ?_ (q_addI g5 e1 (by clear g4; omega) (by clear g4; omega)) ?_
        · rw [u2, g4, Int.neg_tdiv, ← y_divN]
          rfl
        · intro j hj
          rw [yu_pt]
          by_cases q : j = i
          · rw [if_pos q, r3, q]
          · rw [if_neg q]
            exact g6 j (by omega)
theorem V_filM {x2 : Int64} {x3 : Int32} {t0_0 : Int32} {t0_1 : Int32} {t1_0 : (Nat → Int32)} (hx : -30000 ≤ x3.toInt ∧ x3.toInt ≤ 30000) : yDg (F_Dig_fillLong x2 x3 t0_0 t0_1 t1_0).1 (F_Dig_fillLong x2 x3 t0_0 t0_1 t1_0).2.2 x2.toInt.natAbs ∧ (∀ c, yDt x2.toInt.natAbs c → (F_Dig_fillLong x2 x3 t0_0 t0_1 t1_0).2.1.toInt = (if c = 0 then 0 else (c : Int) - 1 - x3.toInt)) := by
  have e0L : (0 : Int64).toInt = 0 := rfl
  have lo := Int64.le_toInt x2
  have hi := Int64.toInt_lt x2
  have hS : x2.toInt.natAbs < 10000000000000000000 := by omega
  unfold F_Dig_fillLong
  by_cases c : lg_cmp x2 0 ≤ 0
  · rw [if_pos c]
    have c := g_lc3 c
    unfold F_Dig_fillLong_J17
    exact V_flM hS hx ((20 - (0 : Int32).toInt).toNat + 1) 0 x2 0 t1_0 0 rfl (by omega) (by decide) (by rw [Nat.pow_zero, Nat.div_one]; omega) rfl (fun j hj => absurd hj (Nat.not_lt_zero _))
  · rw [if_neg c]
    have c := g_lc4 c
    unfold F_Dig_fillLong_J17
    exact V_flM hS hx ((20 - (0 : Int32).toInt).toNat + 1) 0 (-x2) 0 t1_0 0 rfl (by omega) (by decide) (by rw [Nat.pow_zero, Nat.div_one, n_negL rfl (by omega)]; omega) rfl (fun j hj => absurd hj (Nat.not_lt_zero _))
theorem V_soC {x2 : Int32} {t0_0 : Int32} {t0_1 : Int32} {t1_0 : (Nat → Int32)} {K : Int} (hK : 1 ≤ K) (hK2 : K ≤ 100000) : ∀ (n : Nat) (lx13 : Int32), -1 ≤ lx13.toInt → lx13.toInt + 1 ≤ K → lx13.toInt + 1 < (n : Int) → (F_Dig_stepOutwards_1_L7 x2 t0_0 t0_1 t1_0 n lx13).1.toInt ≤ K := by
  have e0 : (0 : Int32).toInt = 0 := rfl
  have e1 : (1 : Int32).toInt = 1 := rfl
  intro n
  induction n with
  | zero =>
    intro lx13 g1 g2 g3
    omega
  | succ n ih =>
    intro lx13 g1 g2 g3
    have J : ∀ f, (F_Dig_stepOutwards_1_J28 f x2 t0_0 t0_1 t1_0 lx13).1.toInt ≤ K := by
      intro f
      unfold F_Dig_stepOutwards_1_J28
      by_cases c : lx13 < 0
      · rw [if_pos c]
        show (1 : Int32).toInt ≤ K
        omega
      · rw [if_neg c]
        show (lx13 + 1).toInt ≤ K
        rw [q_addI (show lx13.toInt = lx13.toInt from rfl) e1 (by omega) (by omega)]
        omega
    unfold F_Dig_stepOutwards_1_L7
    by_cases c : lx13 < 0
    · rw [if_pos c]
      exact J _
    · rw [if_neg c]
      have c' := q_nltI c
      by_cases d : t1_0 lx13.toNatClampNeg = 9
      · rw [if_pos d]
        have a := q_addI (show lx13.toInt = lx13.toInt from rfl) (show (-1 : Int32).toInt = -1 from rfl) (by omega) (by omega)
        exact ih _ (by rw [a]; omega) (by rw [a]; omega) (by rw [a]; omega)
      · rw [if_neg d]
        exact J _
theorem V_ro1c {x2 : Int32} {x3 : Int32} {t0_0 : Int32} {t0_1 : Int32} {t1_0 : (Nat → Int32)} (h0 : 0 ≤ t0_0.toInt) (hx : 0 < x2.toInt ∧ x2.toInt ≤ 20000) : (F_Dig_round_1 x2 x3 t0_0 t0_1 t1_0).1.toInt ≤ x2.toInt := by
  have e0 : (0 : Int32).toInt = 0 := rfl
  have e1 : (1 : Int32).toInt = 1 := rfl
  unfold F_Dig_round_1
  by_cases c : x2 < t0_0
  · rw [if_pos c]
    have k : (if x2 < 0 then 0 else x2) = x2 := if_neg (fun w => by have := q_ltI w; omega)
    rw [k]
    by_cases d : F_Dig_goesOutwards x2 x3 t0_0 t0_1 t1_0 = 0
    · rw [if_pos d]
      exact Int.le_refl _
    · rw [if_neg d]
      unfold F_Dig_round_1_c31
      show (F_Dig_stepOutwards_1 x2 x2 t0_1 t1_0).1.toInt ≤ _
      unfold F_Dig_stepOutwards_1
      have s := q_subI (show x2.toInt = x2.toInt from rfl) e1 (by omega) (by omega)
      exact V_soC (K := x2.toInt) (by omega) (by omega) _ _ (by rw [s]; omega) (by rw [s]; omega) (by rw [s]; omega)
  · rw [if_neg c]
    have c' := q_nltI c
    exact c'
theorem V_roK1 {x2 : Int32} {x3 : Int32} {t0_0 : Int32} {t0_1 : Int32} {t1_0 : (Nat → Int32)} {S c : Nat} (h : yDgc t0_0 t1_0 S c) (h0 : c = 0 → t0_1.toInt = 0 ∧ 0 ≤ x2.toInt) (hx : -20000 ≤ x2.toInt ∧ x2.toInt ≤ 20000) (hx0 : 0 < x2.toInt) (hmd : 0 ≤ x3.toInt ∧ x3.toInt ≤ 3) (hp : -10000 ≤ t0_1.toInt ∧ t0_1.toInt ≤ 10000) : ∃ S' c' z : Nat, yDgc (F_Dig_round_1 x2 x3 t0_0 t0_1 t1_0).1 (F_Dig_round_1 x2 x3 t0_0 t0_1 t1_0).2.2 S' c' ∧ S' * 10 ^ z = yRk x3 S c x2.toInt ∧ (c' ≠ 0 → (F_Dig_round_1 x2 x3 t0_0 t0_1 t1_0).2.1.toInt = (c' : Int) + z + t0_1.toInt - x2.toInt) ∧ (c' = 0 → (F_Dig_round_1 x2 x3 t0_0 t0_1 t1_0).2.1.toInt = 0) ∧ -50000 ≤ (F_Dig_round_1 x2 x3 t0_0 t0_1 t1_0).2.1.toInt ∧ (F_Dig_round_1 x2 x3 t0_0 t0_1 t1_0).2.1.toInt ≤ 50000 := by
  by_cases g : (c : Int) ≤ x2.toInt
  · have e : F_Dig_round_1 x2 x3 t0_0 t0_1 t1_0 = (t0_0, t0_1, t1_0) := by
      unfold F_Dig_round_1
      rw [if_neg (fun q => by have := q_ltI q; have := h.1; omega)]
    rw [e]
    refine ⟨S, c, (x2.toInt - c).toNat, h, ?_, fun _ => ?_, fun q => (h0 q).1, ?_, ?_⟩
    · unfold yRk
      rw [if_pos g]
    · show t0_1.toInt = _
      omega
    · show -50000 ≤ t0_1.toInt
      omega
    · show t0_1.toInt ≤ 50000
      omega
  · obtain ⟨m, hm⟩ : ∃ m : Nat, x2.toInt + ((m + 1 : Nat) : Int) = (c : Int) := ⟨((c : Int) - x2.toInt - 1).toNat, by omega⟩
    have c0 : c ≠ 0 := fun q => by have := (h0 q).2; omega
    have hS : S ≠ 0 := by
      intro q
      have := h.2.2.1.2 c0
      rw [q] at this
      exact this (Nat.pow_pos (by decide))
    obtain ⟨S', c', z, r1, r2, r3, r4, r5⟩ := V_rou_1 (x2 := x2) (x3 := x3) (t0_1 := t0_1) h hS hm (by omega) (Or.inr hx0) hmd (by omega)
    refine ⟨S', c', z, r1, ?_, r3, r4, ?_, ?_⟩
    · unfold yRk
      rw [if_neg g, r2, show ((c : Int) - x2.toInt).toNat = m + 1 from by omega]
    · by_cases q : c' = 0
      · rw [r4 q]
        omega
      · rw [r3 q]
        omega
    · by_cases q : c' = 0
      · rw [r4 q]
        omega
      · rw [r3 q]
        omega
theorem V_roK2 {x2 : Int32} {x3 : Int32} {t0_0 : Int32} {t0_1 : Int32} {t1_0 : (Nat → Int32)} {S c : Nat} (h : yDgc t0_0 t1_0 S c) (h0 : c = 0 → t0_1.toInt = 0 ∧ 0 ≤ x2.toInt) (hx : -20000 ≤ x2.toInt ∧ x2.toInt ≤ 20000) (hmd : 0 ≤ x3.toInt ∧ x3.toInt ≤ 3) (hp : -10000 ≤ t0_1.toInt ∧ t0_1.toInt ≤ 10000) : ∃ S' c' z : Nat, yDgc (F_Dig_round_2 x2 x3 t0_0 t0_1 t1_0).1 (F_Dig_round_2 x2 x3 t0_0 t0_1 t1_0).2.2 S' c' ∧ S' * 10 ^ z = yRk x3 S c x2.toInt ∧ (c' ≠ 0 → (F_Dig_round_2 x2 x3 t0_0 t0_1 t1_0).2.1.toInt = (c' : Int) + z + t0_1.toInt - x2.toInt) ∧ (c' = 0 → (F_Dig_round_2 x2 x3 t0_0 t0_1 t1_0).2.1.toInt = 0) ∧ -50000 ≤ (F_Dig_round_2 x2 x3 t0_0 t0_1 t1_0).2.1.toInt ∧ (F_Dig_round_2 x2 x3 t0_0 t0_1 t1_0).2.1.toInt ≤ 50000 := by
  by_cases g : (c : Int) ≤ x2.toInt
  · have e : F_Dig_round_2 x2 x3 t0_0 t0_1 t1_0 = (t0_0, t0_1, t1_0) := by
      unfold F_Dig_round_2
      rw [if_neg (fun q => by have := q_ltI q; have := h.1; omega)]
    rw [e]
    refine ⟨S, c, (x2.toInt - c).toNat, h, ?_, fun _ => ?_, fun q => (h0 q).1, ?_, ?_⟩
    · unfold yRk
      rw [if_pos g]
    · show t0_1.toInt = _
      omega
    · show -50000 ≤ t0_1.toInt
      omega
    · show t0_1.toInt ≤ 50000
      omega
  · obtain ⟨m, hm⟩ : ∃ m : Nat, x2.toInt + ((m + 1 : Nat) : Int) = (c : Int) := ⟨((c : Int) - x2.toInt - 1).toNat, by omega⟩
    have c0 : c ≠ 0 := fun q => by have := (h0 q).2; omega
    have hS : S ≠ 0 := by
      intro q
      have := h.2.2.1.2 c0
      rw [q] at this
      exact this (Nat.pow_pos (by decide))
    obtain ⟨S', c', z, r1, r2, r3, r4, r5⟩ := V_rou_2 (x2 := x2) (x3 := x3) (t0_1 := t0_1) h hS hm (by omega) (Or.inl rfl) hmd (by omega)
    refine ⟨S', c', z, r1, ?_, r3, r4, ?_, ?_⟩
    · unfold yRk
      rw [if_neg g, r2, show ((c : Int) - x2.toInt).toNat = m + 1 from by omega]
    · by_cases q : c' = 0
      · rw [r4 q]
        omega
      · rw [r3 q]
        omega
    · by_cases q : c' = 0
      · rw [r4 q]
        omega
      · rw [r3 q]
        omega

