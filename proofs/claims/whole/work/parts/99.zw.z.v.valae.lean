/-! values, for whole: the reference's TextRows: findDecimal, goesUp, pack -/
def yH (x3 x4 : Int32) (P T : Nat) (l : Int) : Prop := (x3 = 53 ∧ x4 = -1074 ∧ P = 52 ∧ T = 2047 ∧ l = -1074) ∨ (x3 = 24 ∧ x4 = -149 ∧ P = 23 ∧ T = 255 ∧ l = -149)
theorem yH.n {x3 x4 : Int32} {P T : Nat} {l : Int} (h : yH x3 x4 P T l) : ((x3 = 53 ∧ P = 52) ∨ (x3 = 24 ∧ P = 23)) ∧ x4.toInt = l ∧ (-1074 ≤ l ∧ l ≤ -149) ∧ (255 ≤ T ∧ T ≤ 2047) ∧ (∃ A B C, yF A B C P T l) ∧ x3.toInt = (P : Int) + 1 ∧ (P = 52 ∨ P = 23) := by
  rcases h with ⟨rfl, rfl, rfl, rfl, rfl⟩ | ⟨rfl, rfl, rfl, rfl, rfl⟩
  · exact ⟨Or.inl ⟨rfl, rfl⟩, rfl, by decide, by decide, ⟨_, _, _, Or.inl ⟨rfl, rfl, rfl, rfl, rfl, rfl⟩⟩, rfl, Or.inl rfl⟩
  · exact ⟨Or.inr ⟨rfl, rfl⟩, rfl, by decide, by decide, ⟨_, _, _, Or.inr ⟨rfl, rfl, rfl, rfl, rfl, rfl⟩⟩, rfl, Or.inr rfl⟩
/-- far below all floats -/
theorem y_nl {P T : Nat} {l s : Int} {a c : Nat} {A B C : Int32} (hF : yF A B C P T l) (h1 : a < 10 ^ c) (h : (c : Int) - s < -399) : a * 10 ^ (-s).toNat * 2 ^ (-(l - 1)).toNat < 10 ^ s.toNat := by
  obtain ⟨f1, f2, f3, f4, f5, f6, f7⟩ := hF.n
  rw [show (-s).toNat = 0 by omega, Nat.pow_zero, Nat.mul_one]
  have h2 : 2 ^ (-(l - 1)).toNat ≤ 10 ^ 400 := Nat.le_trans (Nat.pow_le_pow_right (by decide) (by omega)) y_400
  refine Nat.lt_of_lt_of_le (Nat.mul_lt_mul_of_lt_of_le h1 h2 (Nat.pow_pos (by decide))) ?_
  rw [← Nat.pow_add]
  exact Nat.pow_le_pow_right (by decide) (by omega)
theorem y_low {P T : Nat} {l : Int} {N D : Nat} {sc : Int64} (hl : l ≤ 0) (h : N * 2 ^ (-(l - 1)).toNat < D) (hN : 0 < N) (hs : sc.toInt = l) : QV_fd P T l N D 0 0 sc 1 := by
  have t0 := yf_small (q := l - 1) (N := N) (D := D) (by omega) h
  have r0 : yfR (l - 1) N D ≠ 0 := by
    unfold yfR
    rw [show (l - 1).toNat = 0 by omega, Nat.pow_zero, Nat.mul_one, Nat.mod_eq_of_lt h]
    have := Nat.mul_pos hN (Nat.pow_pos (n := (-(l - 1)).toNat) (show 0 < 2 by decide))
    omega
  refine Or.inr ⟨rfl, l, ⟨Int.le_refl l, ?_, Or.inl rfl⟩, hs, by omega, ?_, Or.inr (Or.inl ⟨rfl, ?_, r0⟩)⟩
  · rw [t0]
    exact Nat.pow_pos (by decide)
  · rw [t0]
    rfl
  · rw [t0]
theorem V_TR_findDecimal {x2 : Int32} {x3 : Int32} {x4 : Int32} {t0_0 : Int32} {t0_1 : Int32} {t0_2 : Int32} {t0_3 : Int32} {t0_4 : Int32} {t0_5 : Int32} {t0_6 : Int32} {t0_7 : Int64} {t0_8 : Int32} {t0_9 : Int32} {t0_10 : Int64} {t0_11 : Int64} {t0_12 : Int32} {t0_13 : Int32} {t1_0 : (Nat → Int32)} {t2_0 : (Nat → Int32)} {P T : Nat} {l pl : Int} {f m U : Nat} (hH : yH x3 x4 P T l) (hx2 : x2.toInt = (f : Int)) (h5 : t0_5.toInt = ((f + m : Nat) : Int)) (hm1 : 1 ≤ m) (hm : f + m ≤ 4100) (hFa : ∀ i : Nat, (i : Int) < t0_5.toInt → 0 ≤ (t1_0 i).toInt ∧ (t1_0 i).toInt ≤ 9) (hF0 : t1_0 f ≠ 0) (hU : uV (fun i => t1_0 (f + i)) m = (U : Int)) (h6 : 0 ≤ t0_6.toInt ∧ t0_6.toInt ≤ 4100) (h7 : -20000000000 ≤ t0_7.toInt ∧ t0_7.toInt ≤ 20000000000) (hpl : pl = t0_6.toInt - f + t0_7.toInt) (hl1 : 0 ≤ t0_1.toInt ∧ t0_1.toInt ≤ 4100) (h4 : 0 ≤ t0_4.toInt ∧ t0_4.toInt ≤ 1) : QV_fdR P T l (U * 10 ^ (-((m : Int) - pl)).toNat) (10 ^ ((m : Int) - pl).toNat) t0_2 t0_4 (F_TR_findDecimal x2 x3 x4 t0_0 t0_1 t0_2 t0_3 t0_4 t0_5 t0_6 t0_7 t0_8 t0_9 t0_10 t0_11 t0_12 t0_13 t1_0 t2_0) := by
  obtain ⟨k1, k2, k3, k4, ⟨A, B, C, k5⟩, k6, k7⟩ := hH.n
  have e400 : (400 : Int64).toInt = 400 := rfl
  have em400 : (-400 : Int64).toInt = -400 := rfl
  have hF : gO (fun i => t1_0 (f + i)) m := fun i hi => hFa _ (by omega)
  obtain ⟨r, rfl⟩ : ∃ r, m = r + 1 := ⟨m - 1, by omega⟩
  have uL := u_hdL hF hF0
  have uH := u_lt hF
  rw [hU] at uL uH
  have UL : 10 ^ r ≤ U := by
    have : ((10 ^ r : Nat) : Int) ≤ (U : Int) := by
      rw [Int.natCast_pow]
      exact uL
    exact Int.ofNat_le.mp this
  have UH : U < 10 ^ (r + 1) := by
    have : (U : Int) < ((10 ^ (r + 1) : Nat) : Int) := by
      rw [Int.natCast_pow]
      exact uH
    exact Int.ofNat_lt.mp this
  have Up : 0 < U := Nat.lt_of_lt_of_le (Nat.pow_pos (by decide)) UL
  have i1 : (t0_6 - x2 : Int32).toInt = t0_6.toInt - f := q_subI rfl hx2 (by omega) (by omega)
  have i2 : ((t0_6 - x2 : Int32).toInt64 + t0_7 : Int64).toInt = pl := by
    rw [q_addL (q_i2l i1) rfl (by omega) (by omega), hpl]
  unfold F_TR_findDecimal
  generalize (t0_6 - x2 : Int32).toInt64 + t0_7 = j30 at i2 ⊢
  by_cases g1 : lg_cmp j30 400 ≤ 0
  · rw [if_pos g1]
    have g2 := g_lc3 g1
    unfold F_TR_findDecimal_J29
    rw [if_pos rfl]
    by_cases g3 : 0 ≤ lg_cmp j30 (-400)
    · rw [if_pos g3]
      have g4 := g_lc5 g3
      have j1 : j30.toInt32.toInt = pl := by
        rw [s_l2i (by omega) (by omega), i2]
      obtain ⟨X, hX⟩ : ∃ X : Nat, (X : Int) = 5960 + pl := ⟨(5960 + pl).toNat, by omega⟩
      have hwo := V_TR_writeOut (x2 := x2) (x3 := j30.toInt32) (t0_0 := t0_0) (t0_1 := t0_1) (t0_2 := t0_2) (t0_3 := t0_3) (t0_4 := t0_4) (t0_5 := t0_5) (t0_6 := t0_6) (t0_7 := t0_7) (t0_8 := t0_8) (t0_9 := t0_9) (t0_10 := t0_10) (t0_11 := t0_11) (t0_12 := t0_12) (t0_13 := 0) (t1_0 := t1_0) (t2_0 := t2_0) (X := X) hx2 (by omega) (by rw [j1]; exact ⟨by omega, by omega⟩) h5 hm hF (by rw [j1]; exact hX)
      have hq := (T_TR_writeOut (x2 := x2) (x3 := j30.toInt32) (t0_0 := t0_0) (t0_1 := t0_1) (t0_2 := t0_2) (t0_3 := t0_3) (t0_4 := t0_4) (t0_5 := t0_5) (t0_6 := t0_6) (t0_7 := t0_7) (t0_8 := t0_8) (t0_9 := t0_9) (t0_10 := t0_10) (t0_11 := t0_11) (t0_12 := t0_12) (t0_13 := 0) (t1_0 := t1_0) (t2_0 := t2_0) ⟨by omega, by omega⟩ (by rw [j1]; exact ⟨by omega, by omega⟩) ⟨by omega, by omega⟩ hFa).2
      obtain ⟨fr, to, w, e, hW, h617, hV⟩ := hwo
      rw [e] at hq ⊢
      have hv55 := hq.2.2.2.2.2.2.2.2
      have hW2 := hW
      obtain ⟨w1, w2, w3, w4, w5, w6, w7⟩ := hW2
      unfold F_TR_findDecimal_c70
      rw [hU] at hV
      have hVn : ((U * 10 ^ (X - (r + 1)) : Nat) : Int) = trV w 800 := by
        rw [hV, Int.natCast_mul, Int.natCast_pow]
        rfl
      refine V_fd1 (N := U * 10 ^ (-(((r + 1 : Nat) : Int) - pl)).toNat) (D := 10 ^ (((r + 1 : Nat) : Int) - pl).toNat) k1 k2 ⟨by omega, by omega⟩ (Nat.pow_pos (by decide)) 1000000 _ _ _ _ _ _ _ _ _ _ _ _ _ _ _ 0 (U * 10 ^ (X - (r + 1))) rfl (by omega) (by omega) (by omega) (trI.start w1 ⟨w2.1, h617⟩ w3 w4 (w5.imp id (fun h h9 => h (Int32.toInt_inj.mp (by rw [h9]; rfl)))) hv55) hW hVn ?_ rfl rfl rfl
      unfold yX
      rw [show (0 : Int).toNat = 0 from rfl, show (-(0 : Int)).toNat = 0 from rfl, Nat.pow_zero, Nat.mul_one, Nat.mul_one, Nat.mul_assoc, Nat.mul_assoc, ← Nat.pow_add, ← Nat.pow_add, show X - (r + 1) + (((r + 1 : Nat) : Int) - pl).toNat = (-(((r + 1 : Nat) : Int) - pl)).toNat + 5960 by omega]
    · rw [if_neg g3]
      have g4 := g_lc6 g3
      exact ⟨rfl, rfl, y_low (by omega) (y_nl k5 UH (by omega)) (Nat.mul_pos Up (Nat.pow_pos (by decide))) (q_i2l k2)⟩
  · rw [if_neg g1]
    have g2 := g_lc4 g1
    unfold F_TR_findDecimal_J29
    rw [if_neg (show ¬ (1 : Int32) = 0 by decide)]
    exact ⟨rfl, rfl, Or.inl ⟨rfl, yf_far k5 (c := r + 1) UL (by omega) (by omega)⟩⟩
theorem V_TR_goesUp {t0_0 : Int32} {t0_1 : Int32} {t0_2 : Int32} {t0_3 : Int32} {t0_4 : Int32} {t0_5 : Int32} {t0_6 : Int32} {t0_7 : Int64} {t0_8 : Int32} {t0_9 : Int32} {t0_10 : Int64} {t0_11 : Int64} {t0_12 : Int32} {t0_13 : Int32} {t R : Nat} (hR : yRs t0_12 t R) (hw : t0_10.toInt = ((t / 2 : Nat) : Int)) : ((F_TR_goesUp t0_0 t0_1 t0_2 t0_3 t0_4 t0_5 t0_6 t0_7 t0_8 t0_9 t0_10 t0_11 t0_12 t0_13) = 0 ∧ yfUp t R = t / 2) ∨ ((F_TR_goesUp t0_0 t0_1 t0_2 t0_3 t0_4 t0_5 t0_6 t0_7 t0_8 t0_9 t0_10 t0_11 t0_12 t0_13) = 1 ∧ yfUp t R = t / 2 + 1) := by
  have od : (t0_10 - t0_10 / 2 * 2 : Int64).toInt = ((t / 2 % 2 : Nat) : Int) := by
    have hi : t0_10.toInt < 9223372036854775808 := Int64.toInt_lt t0_10
    have d1 : (t0_10 / 2 : Int64).toInt = ((t / 2 / 2 : Nat) : Int) := by
      rw [Int64.toInt_div_of_ne_right _ _ (by decide), hw, show (2 : Int64).toInt = 2 from rfl, Int.tdiv_eq_ediv_of_nonneg (by omega)]
      omega
    have d2 := q_mulL (b := 2) (y := 2) d1 rfl (by omega) (by omega)
    rw [q_subL hw d2 (by omega) (by omega)]
    omega
  unfold F_TR_goesUp yfUp
  rcases hR with ⟨h1, h2, h3⟩ | ⟨h1, h2, h3⟩ | ⟨h1, h2, h3⟩ | ⟨h1, h2, h3⟩
  · rw [h1, if_neg (by decide), if_neg (by decide), if_neg (by omega)]
    exact Or.inl ⟨rfl, rfl⟩
  · rw [h1, if_neg (by decide), if_neg (by decide), if_neg (by omega)]
    exact Or.inl ⟨rfl, rfl⟩
  · rw [h1, if_neg (by decide), if_pos rfl]
    by_cases c : lg_cmp (t0_10 - t0_10 / 2 * 2) 1 = 0
    · rw [if_pos c]
      have c2 := y_lcE.mp c
      rw [od, show (1 : Int64).toInt = 1 from rfl] at c2
      rw [if_pos ⟨h2, Or.inr (by omega)⟩]
      exact Or.inr ⟨rfl, rfl⟩
    · rw [if_neg c]
      have c2 : ¬ t / 2 % 2 = 1 := fun h => c (y_lcE.mpr (by rw [od, h]; rfl))
      rw [if_neg (fun h => h.2.elim (fun g => g h3) c2)]
      exact Or.inl ⟨rfl, rfl⟩
  · rw [h1, if_pos rfl, if_pos ⟨h2, Or.inl h3⟩]
    exact Or.inr ⟨rfl, rfl⟩
theorem V_TR_pack {x2 : Int64} {x3 : Int32} {x4 : Int32} {t0_0 : Int32} {t0_1 : Int32} {t0_2 : Int32} {t0_3 : Int32} {t0_4 : Int32} {t0_5 : Int32} {t0_6 : Int32} {t0_7 : Int64} {t0_8 : Int32} {t0_9 : Int32} {t0_10 : Int64} {t0_11 : Int64} {t0_12 : Int32} {t0_13 : Int32} {P T up : Nat} {l q : Int} (hH : yH x3 x4 P T l) (hu : x2.toInt = (up : Int)) (hub : up ≤ 2 ^ (P + 1)) (hs : t0_11.toInt = q) (hq : l ≤ q ∧ q ≤ 5000) (hh : t0_13 = 0) (hz : q = l ∨ 2 ^ P ≤ up) : (F_TR_pack x2 x3 x4 t0_0 t0_1 t0_2 t0_3 t0_4 t0_5 t0_6 t0_7 t0_8 t0_9 t0_10 t0_11 t0_12 t0_13).toInt = ((min (T * 2 ^ P) ((q - l).toNat * 2 ^ P + up) : Nat) : Int) := by
  obtain ⟨k1, k2, k3, k4, ⟨A, B, C, k5⟩, k6, k7⟩ := hH.n
  have e2047 : (2047 : Int64).toInt = 2047 := rfl
  have i1 : (t0_11 - x4.toInt64 : Int64).toInt = q - l := q_subL hs (q_i2l k2) (by omega) (by omega)
  have i2 : (t0_11 - x4.toInt64 + 1 : Int64).toInt = q - l + 1 := q_addL (y := 1) i1 rfl (by omega) (by omega)
  have key : ∀ lx19 : Int64, lx19.toInt = (T : Int) → (F_TR_pack_J15 x2 x3 x4 t0_0 t0_1 t0_2 t0_3 t0_4 t0_5 t0_6 t0_7 t0_8 t0_9 t0_10 t0_11 t0_12 t0_13 lx19).toInt = ((min (T * 2 ^ P) ((q - l).toNat * 2 ^ P + up) : Nat) : Int) := fun lx19 h19 => by
    unfold F_TR_pack_J15
    generalize t0_11 - x4.toInt64 + 1 = z at i2 ⊢
    obtain ⟨n, hn⟩ : ∃ n : Nat, q - l = (n : Int) := ⟨(q - l).toNat, by omega⟩
    rw [hn, show ((n : Int)).toNat = n by omega]
    rw [hn] at i2
    have z2 : z.toInt = ((n + 1 : Nat) : Int) := by omega
    -- the two formats
    have two : ∀ (c : Int32) (k : Nat), ((c.toInt64 &&& 63).toBitVec.smod 64) = BitVec.ofNat 64 k → k < 64 → x3 - 1 = c → P = k → T * 2 ^ P < 9223372036854775808 → 2047 * 2 ^ P < 9223372036854775808 ∧ 2048 * 2 ^ P ≤ 9223372036854775808 → (if 0 ≤ lg_cmp x2 ((1 : Int64) <<< ((x3 - 1 : Int32).toInt64 &&& 63)) then (if t0_13 = 0 then (if lg_cmp z 2047 ≤ 0 then (if lg_cmp ((z <<< ((x3 - 1 : Int32).toInt64 &&& 63)) + (x2 - ((1 : Int64) <<< ((x3 - 1 : Int32).toInt64 &&& 63)))) 0 < 0 then lx19 <<< ((x3 - 1 : Int32).toInt64 &&& 63) else (if lg_cmp ((z <<< ((x3 - 1 : Int32).toInt64 &&& 63)) + (x2 - ((1 : Int64) <<< ((x3 - 1 : Int32).toInt64 &&& 63)))) (lx19 <<< ((x3 - 1 : Int32).toInt64 &&& 63)) ≤ 0 then (z <<< ((x3 - 1 : Int32).toInt64 &&& 63)) + (x2 - ((1 : Int64) <<< ((x3 - 1 : Int32).toInt64 &&& 63))) else lx19 <<< ((x3 - 1 : Int32).toInt64 &&& 63))) else lx19 <<< ((x3 - 1 : Int32).toInt64 &&& 63)) else lx19 <<< ((x3 - 1 : Int32).toInt64 &&& 63)) else x2).toInt = ((min (T * 2 ^ P) (n * 2 ^ P + up) : Nat) : Int) := fun c k hc hk hx hPk hTb h2k => by
      subst hPk
      rw [hx]
      have one := fx_shl (x := 1) (n := 1) (c := c) rfl hc hk (by
        have : 1 * 2 ^ P ≤ T * 2 ^ P := Nat.mul_le_mul_right _ (by omega)
        omega)
      rw [Nat.one_mul] at one
      have inf := fx_shl (n := T) h19 hc hk hTb
      have p1 : 2 ^ (P + 1) = 2 ^ P * 2 := Nat.pow_succ _ _
      have pP : 0 < 2 ^ P := Nat.pow_pos (by decide)
      have pT : 1 * 2 ^ P ≤ T * 2 ^ P := Nat.mul_le_mul_right _ (by omega)
      have Tn : ∀ m : Nat, T ≤ m → T * 2 ^ P ≤ m * 2 ^ P := fun m h => Nat.mul_le_mul_right _ h
      by_cases g1 : 0 ≤ lg_cmp x2 ((1 : Int64) <<< (c.toInt64 &&& 63))
      · rw [if_pos g1, if_pos hh]
        have g2 := g_lc5 g1
        rw [one, hu] at g2
        by_cases g3 : lg_cmp z 2047 ≤ 0
        · rw [if_pos g3]
          have g4 := g_lc3 g3
          -- the sum, as bits
          have sub := q_subL hu one (by omega) (by omega)
          have nb : (n + 1) * 2 ^ P ≤ 2047 * 2 ^ P := Nat.mul_le_mul_right _ (by omega)
          have zs := fx_shl (n := n + 1) (c := c) z2 hc hk (by omega)
          have n1 : (n + 1) * 2 ^ P = n * 2 ^ P + 2 ^ P := by
            rw [Nat.add_mul, Nat.one_mul]
          rcases Nat.lt_or_ge (n * 2 ^ P + up) 9223372036854775808 with d | d
          · have sm := q_addL zs sub (by omega) (by omega)
            have sm2 : ((z <<< (c.toInt64 &&& 63)) + (x2 - ((1 : Int64) <<< (c.toInt64 &&& 63)))).toInt = ((n * 2 ^ P + up : Nat) : Int) := by
              rw [sm]
              omega
            clear sm
            generalize (z <<< (c.toInt64 &&& 63)) + (x2 - ((1 : Int64) <<< (c.toInt64 &&& 63))) = y at sm2 ⊢
            rw [if_neg (fun h => by
              have := g_lc1 h
              rw [sm2, show (0 : Int64).toInt = 0 from rfl] at this
              omega)]
            by_cases g5 : lg_cmp y (lx19 <<< (c.toInt64 &&& 63)) ≤ 0
            · rw [if_pos g5]
              have g6 := g_lc3 g5
              rw [sm2, inf] at g6
              rw [sm2, Nat.min_eq_right (by omega)]
            · rw [if_neg g5]
              have g6 := g_lc4 g5
              rw [sm2, inf] at g6
              rw [inf, Nat.min_eq_left (by omega)]
          · have ng : ((z <<< (c.toInt64 &&& 63)) + (x2 - ((1 : Int64) <<< (c.toInt64 &&& 63)))).toInt = -9223372036854775808 := by
              rw [Int64.toInt_add, zs, sub, show (((n + 1) * 2 ^ P : Nat) : Int) + ((up : Int) - ((2 ^ P : Nat) : Int)) = 9223372036854775808 by omega]
              decide
            rw [if_pos, inf, Nat.min_eq_left (by omega)]
            generalize (z <<< (c.toInt64 &&& 63)) + (x2 - ((1 : Int64) <<< (c.toInt64 &&& 63))) = y at ng ⊢
            rcases Int.lt_or_le (lg_cmp y 0).toInt 0 with e | e
            · exact Int32.lt_iff_toInt_lt.mpr e
            · exfalso
              have := g_lc5 (a := y) (b := 0) (Int32.le_iff_toInt_le.mpr e)
              rw [ng] at this
              exact absurd this (by decide)
        · rw [if_neg g3]
          have g4 := g_lc4 g3
          rw [inf, Nat.min_eq_left]
          have := Tn n (by omega)
          omega
      · rw [if_neg g1]
        have g2 := g_lc6 g1
        rw [one, hu] at g2
        have : n = 0 := by
          rcases hz with h | h
          · omega
          · omega
        rw [this, Nat.zero_mul, Nat.zero_add, hu, Nat.min_eq_right]
        have := Tn T (Nat.le_refl T)
        have h1 : 1 * 2 ^ P ≤ T * 2 ^ P := Nat.mul_le_mul_right _ (by omega)
        omega
    have := hH
    rcases this with ⟨h1, _, h2, h3, _⟩ | ⟨h1, _, h2, h3, _⟩
    · have := two 52 52 (by decide) (by decide) (by rw [h1]; rfl) h2 (by rw [h2, h3]; decide) (by rw [h2]; decide)
      exact this
    · have := two 23 23 (by decide) (by decide) (by rw [h1]; rfl) h2 (by rw [h2, h3]; decide) (by rw [h2]; decide)
      exact this
  unfold F_TR_pack
  rcases hH with ⟨h1, _, h2, h3, _⟩ | ⟨h1, _, h2, h3, _⟩
  · rw [if_pos h1]
    exact key 2047 (by rw [h3]; rfl)
  · rw [if_neg (show ¬ x3 = 53 by rw [h1]; decide)]
    exact key 255 (by rw [h3]; rfl)
