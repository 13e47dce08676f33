/-! bounds of quotients that go down, and of the shortest number's power -/
theorem n_divL {a b : Int64} {n : Int} (hb : b.toInt = n) (hn : 0 < n) : (0 ≤ a.toInt ∧ n * (a / b).toInt ≤ a.toInt ∧ a.toInt ≤ n * (a / b).toInt + (n - 1)) ∨ (a.toInt < 0 ∧ a.toInt ≤ n * (a / b).toInt ∧ n * (a / b).toInt ≤ a.toInt + (n - 1)) := by
  have hlo := Int64.le_toInt a
  have hhi := Int64.toInt_lt a
  by_cases h : 0 ≤ a.toInt
  · have h1 : a.toInt.tdiv n = a.toInt / n := Int.tdiv_eq_ediv_of_nonneg h
    have h2 := Int.mul_ediv_self_le (x := a.toInt) (k := n) (by omega)
    have h3 := Int.lt_mul_ediv_self_add (x := a.toInt) hn
    have h4 : 0 ≤ a.toInt / n := Int.ediv_nonneg h (by omega)
    have h5 : a.toInt / n ≤ a.toInt := Int.ediv_le_self n h
    have e : (a / b).toInt = a.toInt / n := by rw [Int64.toInt_div, hb, h1]; exact q_bmL (by omega) (by omega)
    left; rw [e]; exact ⟨h, h2, by omega⟩
  · have h1 : a.toInt.tdiv n = -((-a.toInt) / n) := by
      have h2 : a.toInt = -(-a.toInt) := by omega
      rw [h2, Int.neg_tdiv, Int.tdiv_eq_ediv_of_nonneg (by omega)]
      simp
    have h2 := Int.mul_ediv_self_le (x := -a.toInt) (k := n) (by omega)
    have h3 := Int.lt_mul_ediv_self_add (x := -a.toInt) hn
    have h4 : 0 ≤ -a.toInt / n := Int.ediv_nonneg (by omega) (by omega)
    have h5 : -a.toInt / n ≤ -a.toInt := Int.ediv_le_self n (by omega)
    have e : (a / b).toInt = -((-a.toInt) / n) := by rw [Int64.toInt_div, hb, h1]; exact q_bmL (by omega) (by omega)
    have h6 : n * -(-a.toInt / n) = -(n * (-a.toInt / n)) := by rw [Int.mul_neg]
    right; rw [e, h6]; exact ⟨by omega, by omega, by omega⟩
theorem v_fd3 {x : Int32} (h : -100000 ≤ x.toInt) (h2 : x.toInt ≤ 100000) : 3 * (F_jMath_floorDiv_III x 3).toInt ≤ x.toInt + 2 ∧ x.toInt ≤ 3 * (F_jMath_floorDiv_III x 3).toInt + 5 := by
  have d := n_divI (a := x) (b := 3) (n := 3) rfl (by decide)
  have e1 : ((x / 3) - 1 : Int32).toInt = (x / 3).toInt - 1 := q_subI (y := 1) rfl (by decide) (by omega) (by omega)
  unfold F_jMath_floorDiv_III
  split
  · omega
  · split
    · omega
    · rw [e1]; omega
theorem v_fdL {x : Int64} (h : -900000000000000 ≤ x.toInt) (h2 : x.toInt ≤ 900000000000000) : 1000000000 * (F_jMath_floorDiv_JJJ x 1000000000).toInt ≤ x.toInt + 999999999 ∧ x.toInt ≤ 1000000000 * (F_jMath_floorDiv_JJJ x 1000000000).toInt + 1999999999 := by
  have d := n_divL (a := x) (b := 1000000000) (n := 1000000000) rfl (by decide)
  have e1 : ((x / 1000000000) - 1 : Int64).toInt = (x / 1000000000).toInt - 1 := q_subL (y := 1) rfl (by decide) (by omega) (by omega)
  unfold F_jMath_floorDiv_JJJ
  split
  · omega
  · split
    · omega
    · rw [e1]; omega
theorem v_bl0 {R s n : Int32} {f : Nat → Int32} {v : Int} (h : bO R s n f v) : 0 ≤ (F_Big_bitLength R s n f).toInt ∧ (F_Big_bitLength R s n f).toInt ≤ 6820 := by
  by_cases hv : v = 0
  · have hs := h.nil.mpr hv
    unfold F_Big_bitLength
    rw [if_pos hs]
    decide
  · obtain ⟨b, e, h1, h2, _⟩ := W_bl h hv
    omega
theorem v_est {b a : Int32} (hb : 0 ≤ b.toInt ∧ b.toInt ≤ 6820) (ha : -1075 ≤ a.toInt ∧ a.toInt ≤ 2000) : -1000 ≤ ((F_jMath_floorDiv_JJJ ((((b - 1 : Int32) + a : Int32).toInt64 : Int64) * 301029995 : Int64) 1000000000).toInt32).toInt ∧ ((F_jMath_floorDiv_JJJ ((((b - 1 : Int32) + a : Int32).toInt64 : Int64) * 301029995 : Int64) 1000000000).toInt32).toInt ≤ 4000 := by
  have e1 : (b - 1 : Int32).toInt = b.toInt - 1 := q_subI (y := 1) rfl (by decide) (by omega) (by omega)
  have e2 : ((b - 1 : Int32) + a : Int32).toInt = (b.toInt - 1) + a.toInt := q_addI e1 rfl (by omega) (by omega)
  have e3 : (((b - 1 : Int32) + a : Int32).toInt64 : Int64).toInt = (b.toInt - 1) + a.toInt := q_i2l e2
  have e4 : ((((b - 1 : Int32) + a : Int32).toInt64 : Int64) * 301029995 : Int64).toInt = ((b.toInt - 1) + a.toInt) * 301029995 := q_mulL (y := 301029995) e3 (by decide) (by omega) (by omega)
  generalize ((((b - 1 : Int32) + a : Int32).toInt64 : Int64) * 301029995 : Int64) = x at e4 ⊢
  have d := v_fdL (x := x) (by omega) (by omega)
  have e5 := s_l2i (x := F_jMath_floorDiv_JJJ x 1000000000) (by omega) (by omega)
  rw [e5]; omega
def Q_chooseEnd (x4 : Int32) (p : Int64 × Int32 × Int32 × Int32 × Int32 × (Nat → Int32)) : Prop := x4.toInt ≤ p.2.1.toInt ∧ p.2.1.toInt ≤ x4.toInt + 20
theorem v_ceL {A : Int32} {B : Int32} {C : Int32} {x2 : Int32} {x3 : Int32} {x4 : Int32} {t0_0 : Int64} {t0_1 : Int32} {t0_2 : Int32} {t1_0 : Int32} {t1_1 : Int32} {t2_0 : (Nat → Int32)} {t3_0 : Int32} {t3_1 : Int32} {t4_0 : (Nat → Int32)} {lx21 : Int32} {lx22 : Int32} {lx23 : Int32} {lx24 : (Nat → Int32)} {lx49 : Int64} (h1 : -100000 ≤ x4.toInt) (h2 : x4.toInt ≤ 100000) : ∀ (n : Nat) (lx63 : Int32) (lx64 : Int64) (lx65 : Int32), (0 ≤ lx63.toInt ∧ lx63.toInt ≤ 20) → (20 - lx63.toInt < (n : Int)) → (lx65.toInt = x4.toInt + lx63.toInt) → Q_chooseEnd x4 (F_Flo_chooseEnd_L92 A B C x2 x3 x4 t0_0 t0_1 t0_2 t1_0 t1_1 t2_0 t3_0 t3_1 t4_0 lx21 lx22 lx23 lx24 lx49 n lx63 lx64 lx65) := by
  intro n
  induction n with
  | zero => intro lx63 lx64 lx65 h0 hm hx; exact absurd (show False by omega) id
  | succ n ih =>
    intro lx63 lx64 lx65 h0 hm hx
    rw [F_Flo_chooseEnd_L92.eq_2]
    by_cases g1 : (20 : Int32) ≤ lx63
    ·
      rw [if_pos g1]
      have g1i : 20 ≤ lx63.toInt := q_leI g1
      (unfold Q_chooseEnd; dsimp only; omega)
    ·
      rw [if_neg g1]
      have g1i : lx63.toInt < 20 := q_nleI g1
      by_cases g2 : (lg_cmp (lx64 - lx64 / 10 * 10 : Int64) 0 : Int32) = (0 : Int32)
      ·
        rw [if_pos g2]
        obtain ⟨a3, e4⟩ := q_nm (lx63 + 1 : Int32)
        rw [e4]
        have a3i : a3.toInt = lx63.toInt + 1 := by rw [← e4]; exact q_addI (x := lx63.toInt) (y := 1) rfl (by decide) (by omega) (by omega)
        obtain ⟨a5, e6⟩ := q_nm (lx65 + 1 : Int32)
        rw [e6]
        have a5i : a5.toInt = lx65.toInt + 1 := by rw [← e6]; exact q_addI (x := lx65.toInt) (y := 1) rfl (by decide) (by omega) (by omega)
        exact ih _ _ _ (by first | assumption | omega | trivial | decide) (by first | assumption | omega | trivial | decide) (by first | assumption | omega | trivial | decide)
      ·
        rw [if_neg g2]
        (unfold Q_chooseEnd; dsimp only; omega)
theorem T_chooseEnd {A : Int32} {B : Int32} {C : Int32} {x2 : Int32} {x3 : Int32} {x4 : Int32} {t0_0 : Int64} {t0_1 : Int32} {t0_2 : Int32} {t1_0 : Int32} {t1_1 : Int32} {t2_0 : (Nat → Int32)} {t3_0 : Int32} {t3_1 : Int32} {t4_0 : (Nat → Int32)} (h1 : -100000 ≤ x4.toInt) (h2 : x4.toInt ≤ 100000) : Q_chooseEnd x4 (F_Flo_chooseEnd A B C x2 x3 x4 t0_0 t0_1 t0_2 t1_0 t1_1 t2_0 t3_0 t3_1 t4_0) := by
  have e0 : (0 : Int32).toInt = 0 := rfl
  unfold F_Flo_chooseEnd
  by_cases g1 : x2 = (0 : Int32)
  ·
    rw [if_pos g1]
    have g1i : x2.toInt = 0 := q_eqI g1
    unfold F_Flo_chooseEnd_J69
    by_cases g2 : x3 = (0 : Int32)
    ·
      rw [if_pos g2]
      have g2i : x3.toInt = 0 := q_eqI g2
      unfold F_Flo_chooseEnd_J89
      exact v_ceL h1 h2 _ _ _ _ (by decide) (by decide) (by omega)
    ·
      rw [if_neg g2]
      have g2i : x3.toInt ≠ 0 := q_neI g2
      unfold F_Flo_chooseEnd_J89
      exact v_ceL h1 h2 _ _ _ _ (by decide) (by decide) (by omega)
  ·
    rw [if_neg g1]
    have g1i : x2.toInt ≠ 0 := q_neI g1
    by_cases g3 : x3 = (0 : Int32)
    ·
      rw [if_pos g3]
      have g3i : x3.toInt = 0 := q_eqI g3
      unfold F_Flo_chooseEnd_J69
      rw [if_pos g3]
      unfold F_Flo_chooseEnd_J89
      exact v_ceL h1 h2 _ _ _ _ (by decide) (by decide) (by omega)
    ·
      rw [if_neg g3]
      have g3i : x3.toInt ≠ 0 := q_neI g3
      generalize F_Big_shiftLeft (220 : Int32) (1 : Int32) t1_0 t1_1 t2_0 = p130
      unfold F_Flo_chooseEnd_c19
      by_cases g4 : (0 : Int32) < ((F_Big_compareSize (220 : Int32) (220 : Int32) (p130.1 : Int32) (p130.2.1 : Int32) (p130.2.2 : (Nat → Int32)) t3_0 t3_1 t4_0) : Int32)
      ·
        rw [if_pos g4]
        unfold F_Flo_chooseEnd_J62
        unfold F_Flo_chooseEnd_J67
        unfold F_Flo_chooseEnd_J69
        have g5 : ¬ ((1 : Int32) = (0 : Int32)) := (by decide)
        rw [if_neg g5]
        unfold F_Flo_chooseEnd_J89
        exact v_ceL h1 h2 _ _ _ _ (by decide) (by decide) (by omega)
      ·
        rw [if_neg g4]
        by_cases g6 : ((F_Big_compareSize (220 : Int32) (220 : Int32) (p130.1 : Int32) (p130.2.1 : Int32) (p130.2.2 : (Nat → Int32)) t3_0 t3_1 t4_0) : Int32) = (0 : Int32)
        ·
          rw [if_pos g6]
          by_cases g7 : (lg_cmp (t0_0 &&& 1 : Int64) 1 : Int32) = (0 : Int32)
          ·
            rw [if_pos g7]
            unfold F_Flo_chooseEnd_J62
            unfold F_Flo_chooseEnd_J67
            unfold F_Flo_chooseEnd_J69
            have g8 : ¬ ((1 : Int32) = (0 : Int32)) := (by decide)
            rw [if_neg g8]
            unfold F_Flo_chooseEnd_J89
            exact v_ceL h1 h2 _ _ _ _ (by decide) (by decide) (by omega)
          ·
            rw [if_neg g7]
            unfold F_Flo_chooseEnd_J66
            unfold F_Flo_chooseEnd_J67
            unfold F_Flo_chooseEnd_J69
            have g9 : ((0 : Int32) = (0 : Int32)) := (by decide)
            rw [if_pos g9]
            unfold F_Flo_chooseEnd_J89
            exact v_ceL h1 h2 _ _ _ _ (by decide) (by decide) (by omega)
        ·
          rw [if_neg g6]
          unfold F_Flo_chooseEnd_J66
          unfold F_Flo_chooseEnd_J67
          unfold F_Flo_chooseEnd_J69
          have g10 : ((0 : Int32) = (0 : Int32)) := (by decide)
          rw [if_pos g10]
          unfold F_Flo_chooseEnd_J89
          exact v_ceL h1 h2 _ _ _ _ (by decide) (by decide) (by omega)
def Q_prepare (t0_1 : Int32) (p : Int64 × Int32 × Int32 × Int32 × Int32 × (Nat → Int32) × Int32 × Int32 × (Nat → Int32) × Int32 × Int32 × (Nat → Int32) × Int32 × Int32 × (Nat → Int32)) : Prop := p.2.1 = t0_1 ∧ -1000 ≤ p.2.2.1.toInt ∧ p.2.2.1.toInt ≤ 4003
theorem v_prL {A : Int32} {B : Int32} {C : Int32} {x2 : Int64} {t0_0 : Int64} {t0_1 : Int32} {t0_2 : Int32} {t1_0 : Int32} {t1_1 : Int32} {t2_0 : (Nat → Int32)} {t3_0 : Int32} {t3_1 : Int32} {t4_0 : (Nat → Int32)} {t5_0 : Int32} {t5_1 : Int32} {t6_0 : (Nat → Int32)} {t7_0 : Int32} {t7_1 : Int32} {t8_0 : (Nat → Int32)} {a39 : Int32} {p64 : (Int32 × Int32 × (Nat → Int32))} {a99 : Int32} {p123 : (Int32 × Int32 × (Nat → Int32))} {y112 : Int32} {y113 : Int32} {f114 : (Nat → Int32)} {p147 : (Int32 × Int32 × (Nat → Int32))} {p180 : (Int32 × Int32 × (Nat → Int32))} {y169 : Int32} {y170 : Int32} {f171 : (Nat → Int32)} {p204 : (Int32 × Int32 × (Nat → Int32))} {p231 : (Int32 × Int32 × (Nat → Int32))} {y220 : Int32} {y221 : Int32} {f222 : (Nat → Int32)} {p255 : (Int32 × Int32 × (Nat → Int32))} {lx273 : Int32} {lx274 : Int32} {lx275 : (Nat → Int32)} {p311 : (Int32 × Int32 × (Nat → Int32))} {y301 : Int32} {y302 : Int32} {f303 : (Nat → Int32)} {p336 : (Int32 × Int32 × (Nat → Int32))} {y326 : Int32} {y327 : Int32} {f328 : (Nat → Int32)} {p362 : (Int32 × Int32 × (Nat → Int32))} {y352 : Int32} {y353 : Int32} {f354 : (Nat → Int32)} {p387 : (Int32 × Int32 × (Nat → Int32))} {y377 : Int32} {y378 : Int32} {f379 : (Nat → Int32)} (h1 : -1000 ≤ a99.toInt ∧ a99.toInt ≤ 4000) : ∀ (n : Nat) (lx398 : Int32) (lx399 : Int32) (lx400 : Int32) (lx401 : Int32) (lx402 : (Nat → Int32)), (0 ≤ lx398.toInt ∧ lx398.toInt ≤ 3) → (3 - lx398.toInt < (n : Int)) → (lx399.toInt = a99.toInt + lx398.toInt) → Q_prepare t0_1 (F_Flo_prepare_L218 A B C x2 t0_0 t0_1 t0_2 t1_0 t1_1 t2_0 t3_0 t3_1 t4_0 t5_0 t5_1 t6_0 t7_0 t7_1 t8_0 a39 p64 a99 p123 y112 y113 f114 p147 p180 y169 y170 f171 p204 p231 y220 y221 f222 p255 lx273 lx274 lx275 p311 y301 y302 f303 p336 y326 y327 f328 p362 y352 y353 f354 p387 y377 y378 f379 n lx398 lx399 lx400 lx401 lx402) := by
  intro n
  induction n with
  | zero => intro lx398 lx399 lx400 lx401 lx402 h0 hm hx; exact absurd (show False by omega) id
  | succ n ih =>
    intro lx398 lx399 lx400 lx401 lx402 h0 hm hx
    rw [F_Flo_prepare_L218.eq_2]
    by_cases g1 : (3 : Int32) ≤ lx398
    ·
      rw [if_pos g1]
      have g1i : 3 ≤ lx398.toInt := q_leI g1
      (unfold Q_prepare; dsimp only; exact ⟨rfl, by omega, by omega⟩)
    ·
      rw [if_neg g1]
      have g1i : lx398.toInt < 3 := q_nleI g1
      by_cases g2 : ((F_Big_compareSize (220 : Int32) (220 : Int32) y326 y327 f328 lx400 lx401 lx402) : Int32) < (0 : Int32)
      ·
        rw [if_pos g2]
        (unfold Q_prepare; dsimp only; exact ⟨rfl, by omega, by omega⟩)
      ·
        rw [if_neg g2]
        generalize F_Big_multiplySmall (220 : Int32) (10 : Int32) (0 : Int32) lx400 lx401 lx402 = p453
        unfold F_Flo_prepare_c239
        obtain ⟨a3, e4⟩ := q_nm (lx398 + 1 : Int32)
        rw [e4]
        have a3i : a3.toInt = lx398.toInt + 1 := by rw [← e4]; exact q_addI (x := lx398.toInt) (y := 1) rfl (by decide) (by omega) (by omega)
        obtain ⟨a5, e6⟩ := q_nm (lx399 + 1 : Int32)
        rw [e6]
        have a5i : a5.toInt = lx399.toInt + 1 := by rw [← e6]; exact q_addI (x := lx399.toInt) (y := 1) rfl (by decide) (by omega) (by omega)
        exact ih _ _ _ _ _ (by first | assumption | omega | trivial | decide) (by first | assumption | omega | trivial | decide) (by first | assumption | omega | trivial | decide)
theorem T_prepare {A : Int32} {B : Int32} {C : Int32} {x2 : Int64} {t0_0 : Int64} {t0_1 : Int32} {t0_2 : Int32} {t1_0 : Int32} {t1_1 : Int32} {t2_0 : (Nat → Int32)} {t3_0 : Int32} {t3_1 : Int32} {t4_0 : (Nat → Int32)} {t5_0 : Int32} {t5_1 : Int32} {t6_0 : (Nat → Int32)} {t7_0 : Int32} {t7_1 : Int32} {t8_0 : (Nat → Int32)} (hB : 150 ≤ B.toInt ∧ B.toInt ≤ 1075) (hC : 255 ≤ C.toInt ∧ C.toInt ≤ 2047) (hCB : C.toInt ≤ B.toInt + 972) : Q_prepare t0_1 (F_Flo_prepare A B C x2 t0_0 t0_1 t0_2 t1_0 t1_1 t2_0 t3_0 t3_1 t4_0 t5_0 t5_1 t6_0 t7_0 t7_1 t8_0) := by
  have e0 : (0 : Int32).toInt = 0 := rfl
  unfold F_Flo_prepare
  have h1 := v_fpw  (A := A) (B := B) (C := C) (x := x2) hB hC hCB
  have h2 := W_setLong  (R := (220 : Int32)) (x := ((F_Flo_number A B C x2) : Int64)) (s := t1_0) (neg := t1_1) (f := t2_0) (by decide) (by decide)
  generalize F_Flo_power A B C x2 = a39 at h1 ⊢
  have hpw := h1
  generalize F_Big_setLong (220 : Int32) ((F_Flo_number A B C x2) : Int64) t1_0 t1_1 t2_0 = p64 at h2 ⊢
  have hsl := h2
  unfold F_Flo_prepare_c31
  obtain ⟨a99, e3⟩ := q_nm ((((F_jMath_floorDiv_JJJ ((((((F_Big_bitLength (220 : Int32) (p64.1 : Int32) (p64.2.1 : Int32) (p64.2.2 : (Nat → Int32))) : Int32) - 1 : Int32) + a39 : Int32).toInt64 : Int64) * 301029995 : Int64) (1000000000 : Int64)) : Int64).toInt32 : Int32) : Int32)
  rw [e3]
  have a99b : -1000 ≤ a99.toInt ∧ a99.toInt ≤ 4000 := by rw [← e3]; exact v_est (v_bl0 hsl) (by omega)
  generalize F_Big_shiftLeft (220 : Int32) (2 + (if 0 < a39 then a39 else 0 : Int32) : Int32) (p64.1 : Int32) (p64.2.1 : Int32) (p64.2.2 : (Nat → Int32)) = p123
  unfold F_Flo_prepare_c68
  have h4 := W_setLong  (R := (220 : Int32)) (x := (1 : Int64)) (s := t3_0) (neg := t3_1) (f := t4_0) (by decide) (by decide)
  generalize F_Big_setLong (220 : Int32) (1 : Int64) t3_0 t3_1 t4_0 = p147 at h4 ⊢
  have hsl := h4
  unfold F_Flo_prepare_c74
  generalize F_Big_shiftLeft (220 : Int32) (2 + (if 0 < (-a39 : Int32) then (-a39 : Int32) else 0 : Int32) : Int32) (p147.1 : Int32) (p147.2.1 : Int32) (p147.2.2 : (Nat → Int32)) = p180
  unfold F_Flo_prepare_c87
  have h5 := W_setLong  (R := (220 : Int32)) (x := (2 : Int64)) (s := t5_0) (neg := t5_1) (f := t6_0) (by decide) (by decide)
  generalize F_Big_setLong (220 : Int32) (2 : Int64) t5_0 t5_1 t6_0 = p204 at h5 ⊢
  have hsl := h5
  unfold F_Flo_prepare_c100
  generalize F_Big_shiftLeft (220 : Int32) (if 0 < a39 then a39 else 0 : Int32) (p204.1 : Int32) (p204.2.1 : Int32) (p204.2.2 : (Nat → Int32)) = p231
  unfold F_Flo_prepare_c115
  generalize F_Big_copy (220 : Int32) (220 : Int32) t7_0 t7_1 t8_0 (p231.1 : Int32) (p231.2.1 : Int32) (p231.2.2 : (Nat → Int32)) = p255
  unfold F_Flo_prepare_c132
  by_cases g6 : (lg_cmp ((F_Flo_fraction A B C x2) : Int64) 0 : Int32) = (0 : Int32)
  ·
    rw [if_pos g6]
    by_cases g7 : ((F_Flo_exponent A B C x2) : Int32) ≤ (1 : Int32)
    ·
      rw [if_pos g7]
      unfold F_Flo_prepare_J166
      generalize F_Big_timesTen (220 : Int32) a99 (p180.1 : Int32) (p180.2.1 : Int32) (p180.2.2 : (Nat → Int32)) = p311
      unfold F_Flo_prepare_c172
      generalize F_Big_timesTen (220 : Int32) (-a99 : Int32) (p123.1 : Int32) (p123.2.1 : Int32) (p123.2.2 : (Nat → Int32)) = p336
      unfold F_Flo_prepare_c182
      generalize F_Big_timesTen (220 : Int32) (-a99 : Int32) (p231.1 : Int32) (p231.2.1 : Int32) (p231.2.2 : (Nat → Int32)) = p362
      unfold F_Flo_prepare_c197
      generalize F_Big_timesTen (220 : Int32) (-a99 : Int32) (p255.1 : Int32) (p255.2.1 : Int32) (p255.2.2 : (Nat → Int32)) = p387
      unfold F_Flo_prepare_c212
      exact v_prL a99b _ _ _ _ _ _ (by decide) (by decide) (by omega)
    ·
      rw [if_neg g7]
      generalize F_Big_shiftRight (220 : Int32) (1 : Int32) (p255.1 : Int32) (p255.2.1 : Int32) (p255.2.2 : (Nat → Int32)) = p500
      unfold F_Flo_prepare_c162
      unfold F_Flo_prepare_J166
      generalize F_Big_timesTen (220 : Int32) a99 (p180.1 : Int32) (p180.2.1 : Int32) (p180.2.2 : (Nat → Int32)) = p311_8
      unfold F_Flo_prepare_c172
      generalize F_Big_timesTen (220 : Int32) (-a99 : Int32) (p123.1 : Int32) (p123.2.1 : Int32) (p123.2.2 : (Nat → Int32)) = p336_9
      unfold F_Flo_prepare_c182
      generalize F_Big_timesTen (220 : Int32) (-a99 : Int32) (p231.1 : Int32) (p231.2.1 : Int32) (p231.2.2 : (Nat → Int32)) = p362_10
      unfold F_Flo_prepare_c197
      generalize F_Big_timesTen (220 : Int32) (-a99 : Int32) (p500.2.1 : Int32) (p500.2.2.1 : Int32) (p500.2.2.2 : (Nat → Int32)) = p387_11
      unfold F_Flo_prepare_c212
      exact v_prL a99b _ _ _ _ _ _ (by decide) (by decide) (by omega)
  ·
    rw [if_neg g6]
    unfold F_Flo_prepare_J166
    generalize F_Big_timesTen (220 : Int32) a99 (p180.1 : Int32) (p180.2.1 : Int32) (p180.2.2 : (Nat → Int32)) = p311_12
    unfold F_Flo_prepare_c172
    generalize F_Big_timesTen (220 : Int32) (-a99 : Int32) (p123.1 : Int32) (p123.2.1 : Int32) (p123.2.2 : (Nat → Int32)) = p336_13
    unfold F_Flo_prepare_c182
    generalize F_Big_timesTen (220 : Int32) (-a99 : Int32) (p231.1 : Int32) (p231.2.1 : Int32) (p231.2.2 : (Nat → Int32)) = p362_14
    unfold F_Flo_prepare_c197
    generalize F_Big_timesTen (220 : Int32) (-a99 : Int32) (p255.1 : Int32) (p255.2.1 : Int32) (p255.2.2 : (Nat → Int32)) = p387_15
    unfold F_Flo_prepare_c212
    exact v_prL a99b _ _ _ _ _ _ (by decide) (by decide) (by omega)
def Q_short (p : Int64 × Int32 × Int32 × Int32 × Int32 × (Nat → Int32) × Int32 × Int32 × (Nat → Int32) × Int32 × Int32 × (Nat → Int32) × Int32 × Int32 × (Nat → Int32) × Int32 × Int32 × (Nat → Int32)) : Prop := -2000 ≤ p.2.1.toInt ∧ p.2.1.toInt ≤ 5000
theorem v_fsL {A : Int32} {B : Int32} {C : Int32} {x2 : Int64} {t0_0 : Int64} {t0_1 : Int32} {t0_2 : Int32} {t1_0 : Int32} {t1_1 : Int32} {t2_0 : (Nat → Int32)} {t3_0 : Int32} {t3_1 : Int32} {t4_0 : (Nat → Int32)} {t5_0 : Int32} {t5_1 : Int32} {t6_0 : (Nat → Int32)} {t7_0 : Int32} {t7_1 : Int32} {t8_0 : (Nat → Int32)} {t9_0 : Int32} {t9_1 : Int32} {t10_0 : (Nat → Int32)} {p105 : (Int64 × Int32 × Int32 × Int32 × Int32 × (Nat → Int32) × Int32 × Int32 × (Nat → Int32) × Int32 × Int32 × (Nat → Int32) × Int32 × Int32 × (Nat → Int32))} {y61 : Int64} {y62 : Int32} {y63 : Int32} {y65 : Int32} {y66 : Int32} {f67 : (Nat → Int32)} {y70 : Int32} {y71 : Int32} {f72 : (Nat → Int32)} {y75 : Int32} {y76 : Int32} {f77 : (Nat → Int32)} {y80 : Int32} {y81 : Int32} {f82 : (Nat → Int32)} {lx134 : Int32} (h1 : -1000 ≤ y63.toInt ∧ y63.toInt ≤ 4003) (h2 : y62 = 0) : ∀ (n : Nat) (lx177 : Int32) (lx178 : Int64) (lx179 : Int32) (lx180 : Int32) (lx181 : (Nat → Int32)) (lx182 : Int32) (lx183 : Int32) (lx184 : (Nat → Int32)) (lx185 : Int32) (lx186 : Int32) (lx187 : (Nat → Int32)) (lx188 : Int32) (lx189 : Int32) (lx190 : (Nat → Int32)), (1 ≤ lx177.toInt ∧ lx177.toInt ≤ 21) → (21 - lx177.toInt < (n : Int)) → Q_short (F_Flo_findShortest_L59 A B C x2 t0_0 t0_1 t0_2 t1_0 t1_1 t2_0 t3_0 t3_1 t4_0 t5_0 t5_1 t6_0 t7_0 t7_1 t8_0 t9_0 t9_1 t10_0 p105 y61 y62 y63 y65 y66 f67 y70 y71 f72 y75 y76 f77 y80 y81 f82 lx134 n lx177 lx178 lx179 lx180 lx181 lx182 lx183 lx184 lx185 lx186 lx187 lx188 lx189 lx190) := by
  intro n
  induction n with
  | zero => intro lx177 lx178 lx179 lx180 lx181 lx182 lx183 lx184 lx185 lx186 lx187 lx188 lx189 lx190 h0 hm; exact absurd (show False by omega) id
  | succ n ih =>
    intro lx177 lx178 lx179 lx180 lx181 lx182 lx183 lx184 lx185 lx186 lx187 lx188 lx189 lx190 h0 hm
    have e0 : (0 : Int32).toInt = 0 := rfl
    have h2i : y62.toInt = 0 := by rw [h2]; rfl
    rw [F_Flo_findShortest_L59.eq_2]
    by_cases g1 : (20 : Int32) < lx177
    ·
      rw [if_pos g1]
      have g1i : 20 < lx177.toInt := q_ltI g1
      (unfold Q_short; dsimp only; omega)
    ·
      rw [if_neg g1]
      have g1i : lx177.toInt ≤ 20 := q_nltI g1
      generalize F_Flo_nextFigure A B C lx179 lx180 lx181 y70 y71 f72 lx182 lx183 lx184 lx185 lx186 lx187 = p274
      unfold F_Flo_findShortest_c76
      by_cases g2 : lx177 = (1 : Int32)
      ·
        rw [if_pos g2]
        have g2i : lx177.toInt = 1 := q_eqI g2
        obtain ⟨a3, e4⟩ := q_nm (lx177 + 1 : Int32)
        rw [e4]
        have a3i : a3.toInt = lx177.toInt + 1 := by rw [← e4]; exact q_addI (x := lx177.toInt) (y := 1) rfl (by decide) (by omega) (by omega)
        exact ih _ _ _ _ _ _ _ _ _ _ _ _ _ _ (by first | assumption | omega | trivial | decide) (by first | assumption | omega | trivial | decide)
      ·
        rw [if_neg g2]
        have g2i : lx177.toInt ≠ 1 := q_neI g2
        by_cases g5 : lx134 = (0 : Int32)
        ·
          rw [if_pos g5]
          have g5i : lx134.toInt = 0 := q_eqI g5
          generalize F_Big_compareSize (220 : Int32) (220 : Int32) (p274.2.1 : Int32) (p274.2.2.1 : Int32) (p274.2.2.2.1 : (Nat → Int32)) (p274.2.2.2.2.2.2.2.1 : Int32) (p274.2.2.2.2.2.2.2.2.1 : Int32) (p274.2.2.2.2.2.2.2.2.2 : (Nat → Int32)) = a303
          unfold F_Flo_findShortest_J114
          by_cases g6 : (0 : Int32) ≤ a303
          ·
            rw [if_pos g6]
            have g6i : 0 ≤ a303.toInt := q_leI g6
            unfold F_Flo_findShortest_J122
            generalize F_Big_copy (220 : Int32) (220 : Int32) lx188 lx189 lx190 (p274.2.1 : Int32) (p274.2.2.1 : Int32) (p274.2.2.2.1 : (Nat → Int32)) = p362
            unfold F_Flo_findShortest_c132
            generalize F_Big_addSize (220 : Int32) (220 : Int32) (p362.1 : Int32) (p362.2.1 : Int32) (p362.2.2 : (Nat → Int32)) (p274.2.2.2.2.1 : Int32) (p274.2.2.2.2.2.1 : Int32) (p274.2.2.2.2.2.2.1 : (Nat → Int32)) = p385
            unfold F_Flo_findShortest_c149
            rw [if_pos g5]
            generalize F_Big_compareSize (220 : Int32) (220 : Int32) (p385.1 : Int32) (p385.2.1 : Int32) (p385.2.2 : (Nat → Int32)) y70 y71 f72 = a397
            unfold F_Flo_findShortest_J174
            by_cases g7 : a397 ≤ (0 : Int32)
            ·
              rw [if_pos g7]
              have g7i : a397.toInt ≤ 0 := q_leI g7
              unfold F_Flo_findShortest_J182
              have g8 : ((0 : Int32) = (0 : Int32)) := (by decide)
              rw [if_pos g8]
              have g9 : ((0 : Int32) = (0 : Int32)) := (by decide)
              rw [if_pos g9]
              obtain ⟨a10, e11⟩ := q_nm (lx177 + 1 : Int32)
              rw [e11]
              have a10i : a10.toInt = lx177.toInt + 1 := by rw [← e11]; exact q_addI (x := lx177.toInt) (y := 1) rfl (by decide) (by omega) (by omega)
              exact ih _ _ _ _ _ _ _ _ _ _ _ _ _ _ (by first | assumption | omega | trivial | decide) (by first | assumption | omega | trivial | decide)
            ·
              rw [if_neg g7]
              have g7i : 0 < a397.toInt := q_nleI g7
              unfold F_Flo_findShortest_J182
              have g12 : ((0 : Int32) = (0 : Int32)) := (by decide)
              rw [if_pos g12]
              have g13 : ¬ ((1 : Int32) = (0 : Int32)) := (by decide)
              rw [if_neg g13]
              obtain ⟨a14, e15⟩ := q_nm (y63 - lx177 : Int32)
              rw [e15]
              have a14i : a14.toInt = y63.toInt - lx177.toInt := by rw [← e15]; exact q_subI (x := y63.toInt) (y := lx177.toInt) rfl rfl (by omega) (by omega)
              have h16 := T_chooseEnd (A := A) (B := B) (C := C) (x2 := (0 : Int32)) (x3 := (1 : Int32)) (x4 := a14) (t0_0 := ((lx178 * 10 : Int64) + ((p274.1 : Int32).toInt64 : Int64) : Int64)) (t0_1 := y62) (t0_2 := y63) (t1_0 := (p274.2.1 : Int32)) (t1_1 := (p274.2.2.1 : Int32)) (t2_0 := (p274.2.2.2.1 : (Nat → Int32))) (t3_0 := y70) (t3_1 := y71) (t4_0 := f72) (by omega) (by omega)
              generalize F_Flo_chooseEnd A B C (0 : Int32) (1 : Int32) a14 ((lx178 * 10 : Int64) + ((p274.1 : Int32).toInt64 : Int64) : Int64) y62 y63 (p274.2.1 : Int32) (p274.2.2.1 : Int32) (p274.2.2.2.1 : (Nat → Int32)) y70 y71 f72 = p508 at h16 ⊢
              unfold Q_chooseEnd at h16
              unfold F_Flo_findShortest_c206_12
              (unfold Q_short; dsimp only; omega)
          ·
            rw [if_neg g6]
            have g6i : a303.toInt < 0 := q_nleI g6
            unfold F_Flo_findShortest_J122
            generalize F_Big_copy (220 : Int32) (220 : Int32) lx188 lx189 lx190 (p274.2.1 : Int32) (p274.2.2.1 : Int32) (p274.2.2.2.1 : (Nat → Int32)) = p362_17
            unfold F_Flo_findShortest_c132
            generalize F_Big_addSize (220 : Int32) (220 : Int32) (p362_17.1 : Int32) (p362_17.2.1 : Int32) (p362_17.2.2 : (Nat → Int32)) (p274.2.2.2.2.1 : Int32) (p274.2.2.2.2.2.1 : Int32) (p274.2.2.2.2.2.2.1 : (Nat → Int32)) = p385_18
            unfold F_Flo_findShortest_c149
            rw [if_pos g5]
            generalize F_Big_compareSize (220 : Int32) (220 : Int32) (p385_18.1 : Int32) (p385_18.2.1 : Int32) (p385_18.2.2 : (Nat → Int32)) y70 y71 f72 = a397_19
            unfold F_Flo_findShortest_J174
            by_cases g20 : a397_19 ≤ (0 : Int32)
            ·
              rw [if_pos g20]
              have g20i : a397_19.toInt ≤ 0 := q_leI g20
              unfold F_Flo_findShortest_J182
              have g21 : ¬ ((1 : Int32) = (0 : Int32)) := (by decide)
              rw [if_neg g21]
              obtain ⟨a22, e23⟩ := q_nm (y63 - lx177 : Int32)
              rw [e23]
              have a22i : a22.toInt = y63.toInt - lx177.toInt := by rw [← e23]; exact q_subI (x := y63.toInt) (y := lx177.toInt) rfl rfl (by omega) (by omega)
              have h24 := T_chooseEnd (A := A) (B := B) (C := C) (x2 := (1 : Int32)) (x3 := (0 : Int32)) (x4 := a22) (t0_0 := ((lx178 * 10 : Int64) + ((p274.1 : Int32).toInt64 : Int64) : Int64)) (t0_1 := y62) (t0_2 := y63) (t1_0 := (p274.2.1 : Int32)) (t1_1 := (p274.2.2.1 : Int32)) (t2_0 := (p274.2.2.2.1 : (Nat → Int32))) (t3_0 := y70) (t3_1 := y71) (t4_0 := f72) (by omega) (by omega)
              generalize F_Flo_chooseEnd A B C (1 : Int32) (0 : Int32) a22 ((lx178 * 10 : Int64) + ((p274.1 : Int32).toInt64 : Int64) : Int64) y62 y63 (p274.2.1 : Int32) (p274.2.2.1 : Int32) (p274.2.2.2.1 : (Nat → Int32)) y70 y71 f72 = p466 at h24 ⊢
              unfold Q_chooseEnd at h24
              unfold F_Flo_findShortest_c206
              (unfold Q_short; dsimp only; omega)
            ·
              rw [if_neg g20]
              have g20i : 0 < a397_19.toInt := q_nleI g20
              unfold F_Flo_findShortest_J182
              have g25 : ¬ ((1 : Int32) = (0 : Int32)) := (by decide)
              rw [if_neg g25]
              obtain ⟨a26, e27⟩ := q_nm (y63 - lx177 : Int32)
              rw [e27]
              have a26i : a26.toInt = y63.toInt - lx177.toInt := by rw [← e27]; exact q_subI (x := y63.toInt) (y := lx177.toInt) rfl rfl (by omega) (by omega)
              have h28 := T_chooseEnd (A := A) (B := B) (C := C) (x2 := (1 : Int32)) (x3 := (1 : Int32)) (x4 := a26) (t0_0 := ((lx178 * 10 : Int64) + ((p274.1 : Int32).toInt64 : Int64) : Int64)) (t0_1 := y62) (t0_2 := y63) (t1_0 := (p274.2.1 : Int32)) (t1_1 := (p274.2.2.1 : Int32)) (t2_0 := (p274.2.2.2.1 : (Nat → Int32))) (t3_0 := y70) (t3_1 := y71) (t4_0 := f72) (by omega) (by omega)
              generalize F_Flo_chooseEnd A B C (1 : Int32) (1 : Int32) a26 ((lx178 * 10 : Int64) + ((p274.1 : Int32).toInt64 : Int64) : Int64) y62 y63 (p274.2.1 : Int32) (p274.2.2.1 : Int32) (p274.2.2.2.1 : (Nat → Int32)) y70 y71 f72 = p466_29 at h28 ⊢
              unfold Q_chooseEnd at h28
              unfold F_Flo_findShortest_c206
              (unfold Q_short; dsimp only; omega)
        ·
          rw [if_neg g5]
          have g5i : lx134.toInt ≠ 0 := q_neI g5
          generalize F_Big_compareSize (220 : Int32) (220 : Int32) (p274.2.1 : Int32) (p274.2.2.1 : Int32) (p274.2.2.2.1 : (Nat → Int32)) (p274.2.2.2.2.2.2.2.1 : Int32) (p274.2.2.2.2.2.2.2.2.1 : Int32) (p274.2.2.2.2.2.2.2.2.2 : (Nat → Int32)) = a303_30
          unfold F_Flo_findShortest_J114
          by_cases g31 : (1 : Int32) ≤ a303_30
          ·
            rw [if_pos g31]
            have g31i : 1 ≤ a303_30.toInt := q_leI g31
            unfold F_Flo_findShortest_J122
            generalize F_Big_copy (220 : Int32) (220 : Int32) lx188 lx189 lx190 (p274.2.1 : Int32) (p274.2.2.1 : Int32) (p274.2.2.2.1 : (Nat → Int32)) = p362_32
            unfold F_Flo_findShortest_c132
            generalize F_Big_addSize (220 : Int32) (220 : Int32) (p362_32.1 : Int32) (p362_32.2.1 : Int32) (p362_32.2.2 : (Nat → Int32)) (p274.2.2.2.2.1 : Int32) (p274.2.2.2.2.2.1 : Int32) (p274.2.2.2.2.2.2.1 : (Nat → Int32)) = p385_33
            unfold F_Flo_findShortest_c149
            rw [if_neg g5]
            generalize F_Big_compareSize (220 : Int32) (220 : Int32) (p385_33.1 : Int32) (p385_33.2.1 : Int32) (p385_33.2.2 : (Nat → Int32)) y70 y71 f72 = a397_34
            unfold F_Flo_findShortest_J174
            by_cases g35 : a397_34 ≤ (-1 : Int32)
            ·
              rw [if_pos g35]
              have g35i : a397_34.toInt ≤ -1 := q_leI g35
              unfold F_Flo_findShortest_J182
              have g36 : ((0 : Int32) = (0 : Int32)) := (by decide)
              rw [if_pos g36]
              have g37 : ((0 : Int32) = (0 : Int32)) := (by decide)
              rw [if_pos g37]
              obtain ⟨a38, e39⟩ := q_nm (lx177 + 1 : Int32)
              rw [e39]
              have a38i : a38.toInt = lx177.toInt + 1 := by rw [← e39]; exact q_addI (x := lx177.toInt) (y := 1) rfl (by decide) (by omega) (by omega)
              exact ih _ _ _ _ _ _ _ _ _ _ _ _ _ _ (by first | assumption | omega | trivial | decide) (by first | assumption | omega | trivial | decide)
            ·
              rw [if_neg g35]
              have g35i : -1 < a397_34.toInt := q_nleI g35
              unfold F_Flo_findShortest_J182
              have g40 : ((0 : Int32) = (0 : Int32)) := (by decide)
              rw [if_pos g40]
              have g41 : ¬ ((1 : Int32) = (0 : Int32)) := (by decide)
              rw [if_neg g41]
              obtain ⟨a42, e43⟩ := q_nm (y63 - lx177 : Int32)
              rw [e43]
              have a42i : a42.toInt = y63.toInt - lx177.toInt := by rw [← e43]; exact q_subI (x := y63.toInt) (y := lx177.toInt) rfl rfl (by omega) (by omega)
              have h44 := T_chooseEnd (A := A) (B := B) (C := C) (x2 := (0 : Int32)) (x3 := (1 : Int32)) (x4 := a42) (t0_0 := ((lx178 * 10 : Int64) + ((p274.1 : Int32).toInt64 : Int64) : Int64)) (t0_1 := y62) (t0_2 := y63) (t1_0 := (p274.2.1 : Int32)) (t1_1 := (p274.2.2.1 : Int32)) (t2_0 := (p274.2.2.2.1 : (Nat → Int32))) (t3_0 := y70) (t3_1 := y71) (t4_0 := f72) (by omega) (by omega)
              generalize F_Flo_chooseEnd A B C (0 : Int32) (1 : Int32) a42 ((lx178 * 10 : Int64) + ((p274.1 : Int32).toInt64 : Int64) : Int64) y62 y63 (p274.2.1 : Int32) (p274.2.2.1 : Int32) (p274.2.2.2.1 : (Nat → Int32)) y70 y71 f72 = p508_45 at h44 ⊢
              unfold Q_chooseEnd at h44
              unfold F_Flo_findShortest_c206_12
              (unfold Q_short; dsimp only; omega)
          ·
            rw [if_neg g31]
            have g31i : a303_30.toInt < 1 := q_nleI g31
            unfold F_Flo_findShortest_J122
            generalize F_Big_copy (220 : Int32) (220 : Int32) lx188 lx189 lx190 (p274.2.1 : Int32) (p274.2.2.1 : Int32) (p274.2.2.2.1 : (Nat → Int32)) = p362_46
            unfold F_Flo_findShortest_c132
            generalize F_Big_addSize (220 : Int32) (220 : Int32) (p362_46.1 : Int32) (p362_46.2.1 : Int32) (p362_46.2.2 : (Nat → Int32)) (p274.2.2.2.2.1 : Int32) (p274.2.2.2.2.2.1 : Int32) (p274.2.2.2.2.2.2.1 : (Nat → Int32)) = p385_47
            unfold F_Flo_findShortest_c149
            rw [if_neg g5]
            generalize F_Big_compareSize (220 : Int32) (220 : Int32) (p385_47.1 : Int32) (p385_47.2.1 : Int32) (p385_47.2.2 : (Nat → Int32)) y70 y71 f72 = a397_48
            unfold F_Flo_findShortest_J174
            by_cases g49 : a397_48 ≤ (-1 : Int32)
            ·
              rw [if_pos g49]
              have g49i : a397_48.toInt ≤ -1 := q_leI g49
              unfold F_Flo_findShortest_J182
              have g50 : ¬ ((1 : Int32) = (0 : Int32)) := (by decide)
              rw [if_neg g50]
              obtain ⟨a51, e52⟩ := q_nm (y63 - lx177 : Int32)
              rw [e52]
              have a51i : a51.toInt = y63.toInt - lx177.toInt := by rw [← e52]; exact q_subI (x := y63.toInt) (y := lx177.toInt) rfl rfl (by omega) (by omega)
              have h53 := T_chooseEnd (A := A) (B := B) (C := C) (x2 := (1 : Int32)) (x3 := (0 : Int32)) (x4 := a51) (t0_0 := ((lx178 * 10 : Int64) + ((p274.1 : Int32).toInt64 : Int64) : Int64)) (t0_1 := y62) (t0_2 := y63) (t1_0 := (p274.2.1 : Int32)) (t1_1 := (p274.2.2.1 : Int32)) (t2_0 := (p274.2.2.2.1 : (Nat → Int32))) (t3_0 := y70) (t3_1 := y71) (t4_0 := f72) (by omega) (by omega)
              generalize F_Flo_chooseEnd A B C (1 : Int32) (0 : Int32) a51 ((lx178 * 10 : Int64) + ((p274.1 : Int32).toInt64 : Int64) : Int64) y62 y63 (p274.2.1 : Int32) (p274.2.2.1 : Int32) (p274.2.2.2.1 : (Nat → Int32)) y70 y71 f72 = p466_54 at h53 ⊢
              unfold Q_chooseEnd at h53
              unfold F_Flo_findShortest_c206
              (unfold Q_short; dsimp only; omega)
            ·
              rw [if_neg g49]
              have g49i : -1 < a397_48.toInt := q_nleI g49
              unfold F_Flo_findShortest_J182
              have g55 : ¬ ((1 : Int32) = (0 : Int32)) := (by decide)
              rw [if_neg g55]
              obtain ⟨a56, e57⟩ := q_nm (y63 - lx177 : Int32)
              rw [e57]
              have a56i : a56.toInt = y63.toInt - lx177.toInt := by rw [← e57]; exact q_subI (x := y63.toInt) (y := lx177.toInt) rfl rfl (by omega) (by omega)
              have h58 := T_chooseEnd (A := A) (B := B) (C := C) (x2 := (1 : Int32)) (x3 := (1 : Int32)) (x4 := a56) (t0_0 := ((lx178 * 10 : Int64) + ((p274.1 : Int32).toInt64 : Int64) : Int64)) (t0_1 := y62) (t0_2 := y63) (t1_0 := (p274.2.1 : Int32)) (t1_1 := (p274.2.2.1 : Int32)) (t2_0 := (p274.2.2.2.1 : (Nat → Int32))) (t3_0 := y70) (t3_1 := y71) (t4_0 := f72) (by omega) (by omega)
              generalize F_Flo_chooseEnd A B C (1 : Int32) (1 : Int32) a56 ((lx178 * 10 : Int64) + ((p274.1 : Int32).toInt64 : Int64) : Int64) y62 y63 (p274.2.1 : Int32) (p274.2.2.1 : Int32) (p274.2.2.2.1 : (Nat → Int32)) y70 y71 f72 = p466_59 at h58 ⊢
              unfold Q_chooseEnd at h58
              unfold F_Flo_findShortest_c206
              (unfold Q_short; dsimp only; omega)
theorem T_short {A : Int32} {B : Int32} {C : Int32} {x2 : Int64} {t0_0 : Int64} {t0_1 : Int32} {t0_2 : Int32} {t1_0 : Int32} {t1_1 : Int32} {t2_0 : (Nat → Int32)} {t3_0 : Int32} {t3_1 : Int32} {t4_0 : (Nat → Int32)} {t5_0 : Int32} {t5_1 : Int32} {t6_0 : (Nat → Int32)} {t7_0 : Int32} {t7_1 : Int32} {t8_0 : (Nat → Int32)} {t9_0 : Int32} {t9_1 : Int32} {t10_0 : (Nat → Int32)} (hB : 150 ≤ B.toInt ∧ B.toInt ≤ 1075) (hC : 255 ≤ C.toInt ∧ C.toInt ≤ 2047) (hCB : C.toInt ≤ B.toInt + 972) : Q_short (F_Flo_findShortest A B C x2 t0_0 t0_1 t0_2 t1_0 t1_1 t2_0 t3_0 t3_1 t4_0 t5_0 t5_1 t6_0 t7_0 t7_1 t8_0 t9_0 t9_1 t10_0) := by
  have e0 : (0 : Int32).toInt = 0 := rfl
  unfold F_Flo_findShortest
  by_cases g1 : ((F_Flo_isZero A B C x2) : Int32) = (0 : Int32)
  ·
    rw [if_pos g1]
    have h2 := T_prepare (A := A) (B := B) (C := C) (x2 := x2) (t0_0 := (0 : Int64)) (t0_1 := (0 : Int32)) (t0_2 := t0_2) (t1_0 := t3_0) (t1_1 := t3_1) (t2_0 := t4_0) (t3_0 := t5_0) (t3_1 := t5_1) (t4_0 := t6_0) (t5_0 := t7_0) (t5_1 := t7_1) (t6_0 := t8_0) (t7_0 := t9_0) (t7_1 := t9_1) (t8_0 := t10_0) hB hC hCB
    generalize F_Flo_prepare A B C x2 (0 : Int64) (0 : Int32) t0_2 t3_0 t3_1 t4_0 t5_0 t5_1 t6_0 t7_0 t7_1 t8_0 t9_0 t9_1 t10_0 = p105 at h2 ⊢
    unfold Q_prepare at h2
    unfold F_Flo_findShortest_c21
    by_cases g3 : (lg_cmp (x2 &&& 1 : Int64) 0 : Int32) = (0 : Int32)
    ·
      rw [if_pos g3]
      unfold F_Flo_findShortest_J54
      exact v_fsL (by omega) (by first | exact h1.1 | exact h2.1 | exact h3.1) _ _ _ _ _ _ _ _ _ _ _ _ _ _ _ (by decide) (by decide)
    ·
      rw [if_neg g3]
      unfold F_Flo_findShortest_J54
      exact v_fsL (by omega) (by first | exact h1.1 | exact h2.1 | exact h3.1) _ _ _ _ _ _ _ _ _ _ _ _ _ _ _ (by decide) (by decide)
  ·
    rw [if_neg g1]
    (unfold Q_short; dsimp only; omega)
