/-! values, for whole: the reference's paper: shown and read -/
theorem V_shL {N2 : Int32} {x3 : Int32} {t0_0 : Int32} {t0_1 : Int32} {t0_2 : Int32} {t1_0 : (Nat → Int32)} {t2_0 : (Nat → Int32)} {l : List Nat} (h : yRt x3 t2_0 l) (hl : l.length ≤ 12200) : ∀ (n : Nat) (lx14 : Int32) (lx15 : (Nat → Int32)), ∀ (i : Nat), lx14.toInt = (i : Int) → i ≤ l.length → l.length - i < n → (∀ j, j < i → (lx15 j).toInt = ((l.getD j 0 : Nat) : Int)) → (F_NM_show_L2 N2 x3 t0_0 t0_1 t0_2 t1_0 t2_0 n lx14 lx15).1 = x3 ∧ (F_NM_show_L2 N2 x3 t0_0 t0_1 t0_2 t1_0 t2_0 n lx14 lx15).2.1 = x3 ∧ yRt (F_NM_show_L2 N2 x3 t0_0 t0_1 t0_2 t1_0 t2_0 n lx14 lx15).2.1 (F_NM_show_L2 N2 x3 t0_0 t0_1 t0_2 t1_0 t2_0 n lx14 lx15).2.2 l := by
  have e1 : (1 : Int32).toInt = 1 := rfl
  have h0 := h.1
  intro n
  induction n with
  | zero =>
    intro lx14 lx15 i g1 g2 g3
    omega
  | succ n ih =>
    intro lx14 lx15 i g1 g2 g3 g4
    rw [F_NM_show_L2.eq_2]
    by_cases c : x3 ≤ lx14
    · rw [if_pos c]
      have c := q_leI c
      exact ⟨rfl, rfl, h0, fun j hj => g4 j (by omega)⟩
    · rw [if_neg c]
      have c := q_nleI c
      have ix : lx14.toNatClampNeg = i := by
        show lx14.toInt.toNat = i
        omega
      refine ih (lx14 + 1) _ (i + 1) (q_addI g1 e1 (by omega) (by omega)) (by omega) (by omega) (fun j hj => ?_)
      rw [ix, yu_pt]
      by_cases k : j = i
      · rw [if_pos k, k]
        exact h.2 i (by omega)
      · rw [if_neg k]
        exact g4 j (by omega)
theorem V_show {N2 : Int32} {x3 : Int32} {t0_0 : Int32} {t0_1 : Int32} {t0_2 : Int32} {t1_0 : (Nat → Int32)} {t2_0 : (Nat → Int32)} {l : List Nat} (h : yRt x3 t2_0 l) (hl : l.length ≤ 12200) : (F_NM_show N2 x3 t0_0 t0_1 t0_2 t1_0 t2_0).1 = x3 ∧ (F_NM_show N2 x3 t0_0 t0_1 t0_2 t1_0 t2_0).2.1 = x3 ∧ yRt (F_NM_show N2 x3 t0_0 t0_1 t0_2 t1_0 t2_0).2.1 (F_NM_show N2 x3 t0_0 t0_1 t0_2 t1_0 t2_0).2.2 l := by
  have e0 : (0 : Int32).toInt = 0 := rfl
  unfold F_NM_show
  exact V_shL h hl ((12200 - (0 : Int32).toInt).toNat + 1) 0 t1_0 0 rfl (by omega) (by rw [e0]; omega) (fun j hj => absurd hj (Nat.not_lt_zero _))
theorem V_mpL {x2 : Int32} {t0_0 : Int32} {t0_1 : Int32} {t0_2 : Int32} {t1_0 : (Nat → Int32)} {l : List Nat} (h : yRt t0_2 t1_0 l) (hl : l.length ≤ 12200) (hB : ∀ i, l.getD i 0 < 256) : ∀ (n : Nat) (lx14 : Int32) (lx15 : Int64), ∀ (i : Nat), lx14.toInt = (i : Int) → i ≤ 8 → 8 - i < n → (F_NM_paperAt_L10 x2 t0_0 t0_1 t0_2 t1_0 n lx14 lx15).1 = yPo l x2.toInt (8 - i) i lx15 ∧ (F_NM_paperAt_L10 x2 t0_0 t0_1 t0_2 t1_0 n lx14 lx15).2 = 0 := by
  have e1 : (1 : Int32).toInt = 1 := rfl
  have e8 : (8 : Int32).toInt = 8 := rfl
  have e0L : (0 : Int64).toInt = 0 := rfl
  have h0 := h.1
  intro n
  induction n with
  | zero =>
    intro lx14 lx15 i g1 g2 g3
    omega
  | succ n ih =>
    intro lx14 lx15 i g1 g2 g3
    rw [F_NM_paperAt_L10.eq_2]
    by_cases c : 8 ≤ lx14
    · rw [if_pos c]
      have c := q_leI c
      rw [show 8 - i = 0 from by omega]
      exact ⟨rfl, rfl⟩
    · rw [if_neg c]
      have c := q_nleI c
      have s := y_s64 (x := x2) g1
      have st : yPo l x2.toInt (8 - i) i lx15 = yPo l x2.toInt (8 - (i + 1)) (i + 1) (lx15 ||| (Int64.ofNat (yPb l (x2.toInt + i)) <<< ((8 * Int32.ofNat i).toInt64 &&& 63))) := by
        rw [show 8 - i = (8 - (i + 1)) + 1 from by omega]
        rfl
      have nx := q_addI g1 e1 (by omega) (by omega)
      have skip : ¬ (0 ≤ x2.toInt + (i : Int) ∧ x2.toInt + (i : Int) < l.length) → lx15 ||| (Int64.ofNat (yPb l (x2.toInt + i)) <<< ((8 * Int32.ofNat i).toInt64 &&& 63)) = lx15 := fun k => by
        have z : yPb l (x2.toInt + i) = 0 := if_neg k
        have key : ∀ i : Nat, i < 8 → (Int64.ofNat 0 <<< ((8 * Int32.ofNat i).toInt64 &&& 63)) = 0 := by decide +kernel
        rw [z, key i (by omega), Int64.or_zero]
      have l64 : t0_2.toInt64.toInt = (l.length : Int) := by rw [Int32.toInt_toInt64, h0]
      by_cases g : lg_cmp (x2.toInt64 + lx14.toInt64) 0 < 0
      · rw [if_pos g]
        have g := g_lc1 g
        rw [st, skip (fun q => by omega)]
        exact ih (lx14 + 1) lx15 (i + 1) nx (by omega) (by omega)
      · rw [if_neg g]
        have g := g_lc2 g
        by_cases k : 0 ≤ lg_cmp (x2.toInt64 + lx14.toInt64) t0_2.toInt64
        · rw [if_pos k]
          have k := g_lc5 k
          rw [st, skip (fun q => by omega)]
          exact ih (lx14 + 1) lx15 (i + 1) nx (by omega) (by omega)
        · rw [if_neg k]
          have k := g_lc6 k
          have sm : ((x2.toInt64 + lx14.toInt64).toInt32).toInt = x2.toInt + i := by
            rw [s_l2i (by omega) (by omega), s]
          have ix : ((x2.toInt64 + lx14.toInt64).toInt32).toNatClampNeg = (x2.toInt + (i : Int)).toNat := by
            show ((x2.toInt64 + lx14.toInt64).toInt32).toInt.toNat = _
            rw [sm]
          have vb : yPb l (x2.toInt + i) = l.getD (x2.toInt + (i : Int)).toNat 0 := if_pos ⟨by omega, by omega⟩
          have bt := h.2 (x2.toInt + (i : Int)).toNat (by omega)
          rw [ix, y_b64 bt (hB _), st, vb, ← v_amt g1]
          exact ih (lx14 + 1) _ (i + 1) nx (by omega) (by omega)
theorem V_mpaper {x2 : Int32} {t0_0 : Int32} {t0_1 : Int32} {t0_2 : Int32} {t1_0 : (Nat → Int32)} {l : List Nat} (h : yRt t0_2 t1_0 l) (hl : l.length ≤ 12200) (hB : ∀ i, l.getD i 0 < 256) : (F_NM_paperAt x2 t0_0 t0_1 t0_2 t1_0).1 = yPo l x2.toInt 8 0 0 ∧ (F_NM_paperAt x2 t0_0 t0_1 t0_2 t1_0).2 = 0 := by
  unfold F_NM_paperAt
  exact V_mpL h hl hB ((8 - (0 : Int32).toInt).toNat + 1) 0 0 0 rfl (by omega) (by decide)
