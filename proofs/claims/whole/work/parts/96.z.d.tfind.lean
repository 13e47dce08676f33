/-! TextRows: findDecimal -/
theorem tr_wp1 {t0_0 t0_1 t0_2 t0_3 t0_4 t0_5 t0_6 : Int32} {t0_7 : Int64} {t0_8 t0_9 : Int32} {t0_10 t0_11 : Int64} {t0_12 t0_13 : Int32} {t1_0 : Nat → Int32} {x : Int32} (hx : x = 53 ∨ x = 24) (g : ¬ 0 ≤ lg_cmp (F_TR_wholePart t0_0 t0_1 t0_2 t0_3 t0_4 t0_5 t0_6 t0_7 t0_8 t0_9 t0_10 t0_11 t0_12 t0_13 t1_0) ((1 : Int64) <<< ((x - 1 : Int32).toInt64 &&& 63))) : 53 ≤ t0_8.toInt := by
  by_cases c : (53 : Int32) ≤ t0_8
  · have := q_leI c; exact this
  · refine absurd ?_ g
    unfold F_TR_wholePart
    rw [if_neg c]
    unfold F_TR_wholePart_J16
    rw [if_neg (by decide)]
    rcases hx with h | h <;> (rw [h]; decide)
theorem tr_wp2 {t0_0 t0_1 t0_2 t0_3 t0_4 t0_5 t0_6 : Int32} {t0_7 : Int64} {t0_8 t0_9 : Int32} {t0_10 t0_11 : Int64} {t0_12 t0_13 : Int32} {t1_0 : Nat → Int32} {x : Int32} (hx : x = 53 ∨ x = 24) (g : ¬ lg_cmp (F_TR_wholePart t0_0 t0_1 t0_2 t0_3 t0_4 t0_5 t0_6 t0_7 t0_8 t0_9 t0_10 t0_11 t0_12 t0_13 t1_0) ((1 : Int64) <<< (x.toInt64 &&& 63)) < 0) (h8 : 0 ≤ t0_8.toInt ∧ t0_8.toInt ≤ 54) (hn : t0_8.toInt = 54 ∨ (t1_0 t0_8.toNatClampNeg).toInt ≠ 0) (ho : trO t1_0) : 1 ≤ trV t1_0 55 := by
  have e8 := q_clI (i := t0_8) rfl h8.1
  rcases hn with h | h
  · by_cases z : (t1_0 54).toInt = 0
    · refine absurd ?_ g
      have e : t0_8 = 54 := Int32.toInt_inj.mp (by rw [h]; rfl)
      have z2 : t1_0 54 = 0 := Int32.toInt_inj.mp (by rw [z]; rfl)
      unfold F_TR_wholePart
      rw [e, if_pos (by decide)]
      unfold F_TR_wholePart_J16
      rw [if_pos (by decide), if_pos (by decide), show (54 : Int32).toNatClampNeg = 54 by decide, z2]
      rcases hx with y | y <;> (rw [y]; decide)
    · exact trV_ge ho (by decide) (show 54 < 55 by decide) z
  · exact trV_ge ho (by decide) (show t0_8.toNatClampNeg < 55 by omega) h
theorem tr_2k : (100000000 : Int) ^ 50 < 2 ^ 1330 := by
  have b : (100000000 ^ 50 : Nat) < 2 ^ 1330 := by decide +kernel
  have c := Int.ofNat_lt.mpr b
  rw [fl_pn, fl_pn] at c
  exact c
theorem tr_2m {m : Nat} {V : Int} (hV : 1 ≤ V) (h : V * 2 ^ m < 100000000 ^ 50) : m ≤ 1329 := by
  by_cases c : m ≤ 1329
  · exact c
  · have a := fl_mono (B := 2) (by decide) (show 1330 ≤ m by omega)
    have p := fl_pos (B := 2) (by decide) m
    have b := Int.mul_le_mul_of_nonneg_right hV (Int.le_of_lt p)
    rw [Int.one_mul] at b
    exact absurd (Int.lt_of_le_of_lt (Int.le_trans a b) (Int.lt_trans h tr_2k)) (Int.lt_irrefl _)
/-- the words between two halvings; t of them are behind us -/
def trI (t : Int) (fr to : Int32) (w : Nat → Int32) : Prop := (0 ≤ fr.toInt ∧ fr.toInt ≤ 54) ∧ (54 ≤ to.toInt ∧ to.toInt ≤ 799) ∧ trO w ∧ (∀ i : Nat, (i : Int) < fr.toInt → w i = 0) ∧ (fr.toInt = 54 ∨ (w fr.toNatClampNeg).toInt ≠ 0) ∧ (∃ m : Nat, (m : Int) = t ∧ trV w 55 * 2 ^ m < 100000000 ^ 50) ∧ 8 * (to.toInt - 617) ≤ t + 7 ∧ (∀ d : Nat, (d : Int) = 8 * (to.toInt - 617) - t → (w to.toNatClampNeg).toInt % 2 ^ d = 0)
theorem tr_dv {f g d : Int} {k : Nat} (hk : 1 ≤ k) (hk7 : k ≤ 7) (hd : 0 ≤ d ∧ d ≤ 1) (e : 2 * g = f + d * 100000000) (h : f % 2 ^ k = 0) : g % 2 ^ (k - 1) = 0 := by
  have c : k = 1 ∨ k = 2 ∨ k = 3 ∨ k = 4 ∨ k = 5 ∨ k = 6 ∨ k = 7 := by omega
  rcases c with c | c | c | c | c | c | c <;> subst c
  · show g % 1 = 0; omega
  · have h : f % 4 = 0 := h; show g % 2 = 0; omega
  · have h : f % 8 = 0 := h; show g % 4 = 0; omega
  · have h : f % 16 = 0 := h; show g % 8 = 0; omega
  · have h : f % 32 = 0 := h; show g % 16 = 0; omega
  · have h : f % 64 = 0 := h; show g % 32 = 0; omega
  · have h : f % 128 = 0 := h; show g % 64 = 0; omega
theorem tr_d5 {k : Nat} (hk7 : k ≤ 7) : (50000000 : Int) % 2 ^ k = 0 := by
  have c : k = 0 ∨ k = 1 ∨ k = 2 ∨ k = 3 ∨ k = 4 ∨ k = 5 ∨ k = 6 ∨ k = 7 := by omega
  rcases c with c | c | c | c | c | c | c | c <;> subst c <;> decide
theorem tr_dod {f : Int} {k : Nat} (hk : 1 ≤ k) (ho : f % 2 = 1) (h : f % 2 ^ k = 0) : False := by
  have p := fl_pos (B := 2) (by decide) (k - 1)
  have e : (2 : Int) ^ k = 2 ^ (k - 1) * 2 := by rw [← fl_pw, show k - 1 + 1 = k by omega]
  have q := Int.emod_add_mul_ediv f (2 ^ k)
  rw [h, e, Int.mul_comm (2 ^ (k - 1)) 2, Int.mul_assoc] at q
  generalize 2 ^ (k - 1) * (f / (2 * 2 ^ (k - 1))) = R at q
  omega
theorem trI.even {t : Int} {fr to : Int32} {w : Nat → Int32} (h : trI t fr to w) (hV : 1 ≤ trV w 55) : to.toInt = 799 → (w to.toNatClampNeg).toInt % 2 = 0 := fun e => by
  obtain ⟨-, -, -, -, -, ⟨m, m1, m2⟩, a, -⟩ := h
  have := tr_2m hV m2
  omega
theorem trI.le {t : Int} {fr to : Int32} {w : Nat → Int32} (h : trI t fr to w) (hV : 1 ≤ trV w 55) : 0 ≤ t ∧ t ≤ 1329 ∧ to.toInt ≤ 785 := by
  obtain ⟨-, -, -, -, -, ⟨m, m1, m2⟩, a, -⟩ := h
  have := tr_2m hV m2
  omega
theorem trI.step {t : Int} {fr to fr1 to1 : Int32} {w w1 : Nat → Int32} (h : trI t fr to w) (hV : 1 ≤ trV w 55) (h8 : 0 ≤ fr1.toInt ∧ fr1.toInt ≤ 54) (ho : trO w1) (hz : ∀ i : Nat, (i : Int) < fr1.toInt → w1 i = 0) (hn : fr1.toInt = 54 ∨ (w1 fr1.toNatClampNeg).toInt ≠ 0) (hv : 2 * trV w1 55 ≤ trV w 55) (ht : (to1 = to ∧ ∃ d : Int, (0 ≤ d ∧ d ≤ 1) ∧ 2 * (w1 to.toNatClampNeg).toInt = (w to.toNatClampNeg).toInt + d * 100000000) ∨ (to1.toInt = to.toInt + 1 ∧ (w to.toNatClampNeg).toInt % 2 = 1 ∧ (w1 to1.toNatClampNeg).toInt = 50000000)) : trI (t + 1) fr1 to1 w1 := by
  have hl := h.le hV
  obtain ⟨a, b, c, d, e, ⟨m, m1, m2⟩, f, g⟩ := h
  have p := fl_pos (B := 2) (by decide) m
  have v2 : trV w1 55 * 2 ^ (m + 1) < 100000000 ^ 50 := by
    rw [fl_pw, Int.mul_comm (2 ^ m) 2, ← Int.mul_assoc, Int.mul_comm (trV w1 55) 2]
    exact Int.lt_of_le_of_lt (Int.mul_le_mul_of_nonneg_right hv (Int.le_of_lt p)) m2
  rcases ht with ⟨e1, x, x1, x2⟩ | ⟨e1, o, s⟩
  · subst e1
    refine ⟨h8, b, ho, hz, hn, ⟨m + 1, by omega, v2⟩, by omega, fun k hk => ?_⟩
    have y := tr_dv (k := k + 1) (by omega) (by omega) x1 x2 (g (k + 1) (by omega))
    exact y
  · have nd : 8 * (to.toInt - 617) - t ≤ 0 := by
      by_cases q : 8 * (to.toInt - 617) - t ≤ 0
      · exact q
      · exact (tr_dod (k := (8 * (to.toInt - 617) - t).toNat) (by omega) o (g _ (by omega))).elim
    refine ⟨h8, ⟨by omega, by omega⟩, ho, hz, hn, ⟨m + 1, by omega, v2⟩, by omega, fun k hk => ?_⟩
    rw [s]
    exact tr_d5 (by omega)
theorem tr_add1 {x : Int64} (h : -100000 ≤ x.toInt ∧ x.toInt ≤ 100000) : (x + 1 : Int64).toInt = x.toInt + 1 := q_addL (y := 1) rfl (by decide) (by omega) (by omega)
theorem tr_sub1 {x : Int64} (h : -100000 ≤ x.toInt ∧ x.toInt ≤ 100000) : (x - 1 : Int64).toInt = x.toInt - 1 := q_subL (y := 1) rfl (by decide) (by omega) (by omega)
theorem vt_fd2 {K_F_TR_findDecimal_L78 : Int32 → Int32 → Int32 → Int32 → Int32 → Int32 → Int32 → Int64 → Int32 → Int32 → Int64 → Int64 → Int32 → Int32 → (Nat → Int32) → (Int32 × Int32 × Int32 × Int32 × Int32 × Int32 × Int32 × Int64 × Int32 × Int32 × Int64 × Int64 × Int32 × Int32 × (Nat → Int32))} {x2 : Int32} {x3 : Int32} {x4 : Int32} {t0_0 : Int32} {t0_1 : Int32} {t0_2 : Int32} {t0_3 : Int32} {t0_4 : Int32} {t0_5 : Int32} {t0_6 : Int32} {t0_7 : Int64} {t0_8 : Int32} {t0_9 : Int32} {t0_10 : Int64} {t0_11 : Int64} {t0_12 : Int32} {t0_13 : Int32} {t1_0 : (Nat → Int32)} {t2_0 : (Nat → Int32)} {j30 : Int64} {lx35 : Int32} {p118 : (Int32 × Int32 × Int32 × Int32 × Int32 × Int32 × Int32 × Int64 × Int32 × Int32 × Int64 × Int64 × Int32 × Int32 × (Nat → Int32))} {lx142 : Int32} {lx143 : Int32} {lx144 : Int32} {lx145 : Int32} {lx146 : Int32} {lx147 : Int32} {lx148 : Int32} {lx149 : Int64} {lx150 : Int32} {lx151 : Int32} {lx152 : Int64} {lx153 : Int64} {lx154 : Int32} {lx155 : Int32} {lx156 : (Nat → Int32)} {K_S_TR_findDecimal_L78 : Int32 → Int32 → Int32 → Int32 → Int32 → Int32 → Int32 → Int64 → Int32 → Int32 → Int64 → Int64 → Int32 → Int32 → (Nat → Int32) → Prop} (hx3 : x3 = 53 ∨ x3 = 24) (hx4 : -1074 ≤ x4.toInt ∧ x4.toInt ≤ 0) : ∀ (n : Nat) (lx203 : Int32) (lx204 : Int32) (lx205 : Int32) (lx206 : Int32) (lx207 : Int32) (lx208 : Int32) (lx209 : Int32) (lx210 : Int64) (lx211 : Int32) (lx212 : Int32) (lx213 : Int64) (lx214 : Int64) (lx215 : Int32) (lx216 : Int32) (lx217 : (Nat → Int32)), (0 ≤ lx211.toInt ∧ lx211.toInt ≤ 54) → (54 ≤ lx212.toInt ∧ lx212.toInt ≤ 799) → (lx214.toInt ≤ 1400 ∧ -1074 ≤ lx214.toInt) → (lx214.toInt - x4.toInt < (n : Int) ∧ 0 < (n : Int)) → (S_TR_findDecimal_L106 K_S_TR_findDecimal_L78 x2 x3 x4 t0_0 t0_1 t0_2 t0_3 t0_4 t0_5 t0_6 t0_7 t0_8 t0_9 t0_10 t0_11 t0_12 t0_13 t1_0 t2_0 j30 lx35 p118 lx142 lx143 lx144 lx145 lx146 lx147 lx148 lx149 lx150 lx151 lx152 lx153 lx154 lx155 lx156 n lx203 lx204 lx205 lx206 lx207 lx208 lx209 lx210 lx211 lx212 lx213 lx214 lx215 lx216 lx217) := by
  intro n
  induction n with
  | zero => intro lx203 lx204 lx205 lx206 lx207 lx208 lx209 lx210 lx211 lx212 lx213 lx214 lx215 lx216 lx217 h8 h9 hs hm; omega
  | succ n ih =>
    intro lx203 lx204 lx205 lx206 lx207 lx208 lx209 lx210 lx211 lx212 lx213 lx214 lx215 lx216 lx217 h8 h9 hs hm
    have e0 : (0 : Int32).toInt = 0 := rfl
    have e1 : (1 : Int32).toInt = 1 := rfl
    have eL0 : (0 : Int64).toInt = 0 := rfl
    have ex4 := q_i2l (a := x4) rfl
    rw [S_TR_findDecimal_L106.eq_2]
    by_cases g1 : (0 : Int32) ≤ (lg_cmp ((F_TR_wholePart lx203 lx204 lx205 lx206 lx207 lx208 lx209 lx210 lx211 lx212 lx213 lx214 lx215 lx216 lx217) : Int64) ((1 : Int64) <<< ((x3 - 1 : Int32).toInt64 &&& 63) : Int64) : Int32)
    ·
      rw [if_pos g1]
      unfold S_TR_findDecimal_J146
      by_cases g2 : lx212 ≤ (54 : Int32)
      ·
        rw [if_pos g2]
        have g2i : lx212.toInt ≤ 54 := q_leI g2
        unfold S_TR_findDecimal_J174
        by_cases g3 : lx212 ≤ (55 : Int32)
        ·
          rw [if_pos g3]
          have g3i : lx212.toInt ≤ 55 := q_leI g3
          unfold S_TR_findDecimal_J190
          by_cases g4 : lx212 = (54 : Int32)
          ·
            rw [if_pos g4]
            have g4i : lx212.toInt = 54 := q_eqI g4
            exact trivial
          ·
            rw [if_neg g4]
            have g4i : lx212.toInt ≠ 54 := q_neI g4
            have g5 : ¬ ((50000000 : Int32) ≤ (0 : Int32)) := (by decide)
            rw [if_neg g5]
            exact trivial
        ·
          rw [if_neg g3]
          have g3i : 55 < lx212.toInt := q_nleI g3
          unfold S_TR_findDecimal_J190
          by_cases g6 : lx212 = (54 : Int32)
          ·
            rw [if_pos g6]
            have g6i : lx212.toInt = 54 := q_eqI g6
            exact trivial
          ·
            rw [if_neg g6]
            have g6i : lx212.toInt ≠ 54 := q_neI g6
            have g7 : ¬ ((50000000 : Int32) ≤ (0 : Int32)) := (by decide)
            rw [if_neg g7]
            exact trivial
      ·
        rw [if_neg g2]
        have g2i : 54 < lx212.toInt := q_nleI g2
        unfold S_TR_findDecimal_J174
        by_cases g8 : lx212 ≤ (55 : Int32)
        ·
          rw [if_pos g8]
          have g8i : lx212.toInt ≤ 55 := q_leI g8
          unfold S_TR_findDecimal_J190
          by_cases g9 : lx212 = (54 : Int32)
          ·
            rw [if_pos g9]
            have g9i : lx212.toInt = 54 := q_eqI g9
            exact trivial
          ·
            rw [if_neg g9]
            have g9i : lx212.toInt ≠ 54 := q_neI g9
            by_cases g10 : (50000000 : Int32) ≤ (lx217 (55 : Int32).toNatClampNeg : Int32)
            ·
              rw [if_pos g10]
              by_cases g11 : (50000000 : Int32) < (lx217 (55 : Int32).toNatClampNeg : Int32)
              ·
                rw [if_pos g11]
                exact trivial
              ·
                rw [if_neg g11]
                have g12 : ((0 : Int32) = (0 : Int32)) := (by decide)
                rw [if_pos g12]
                exact trivial
            ·
              rw [if_neg g10]
              exact trivial
        ·
          rw [if_neg g8]
          have g8i : 55 < lx212.toInt := q_nleI g8
          unfold S_TR_findDecimal_J190
          by_cases g13 : lx212 = (54 : Int32)
          ·
            rw [if_pos g13]
            have g13i : lx212.toInt = 54 := q_eqI g13
            exact trivial
          ·
            rw [if_neg g13]
            have g13i : lx212.toInt ≠ 54 := q_neI g13
            by_cases g14 : (50000000 : Int32) ≤ (lx217 (55 : Int32).toNatClampNeg : Int32)
            ·
              rw [if_pos g14]
              by_cases g15 : (50000000 : Int32) < (lx217 (55 : Int32).toNatClampNeg : Int32)
              ·
                rw [if_pos g15]
                exact trivial
              ·
                rw [if_neg g15]
                have g16 : ¬ ((1 : Int32) = (0 : Int32)) := (by decide)
                rw [if_neg g16]
                exact trivial
            ·
              rw [if_neg g14]
              exact trivial
    ·
      rw [if_neg g1]
      have f53 := tr_wp1 hx3 g1
      by_cases g17 : (lg_cmp lx214 (x4.toInt64 : Int64) : Int32) ≤ (0 : Int32)
      ·
        rw [if_pos g17]
        have g17l := g_lc3 g17
        unfold S_TR_findDecimal_J146
        by_cases g18 : lx212 ≤ (54 : Int32)
        ·
          rw [if_pos g18]
          have g18i : lx212.toInt ≤ 54 := q_leI g18
          unfold S_TR_findDecimal_J174
          by_cases g19 : lx212 ≤ (55 : Int32)
          ·
            rw [if_pos g19]
            have g19i : lx212.toInt ≤ 55 := q_leI g19
            unfold S_TR_findDecimal_J190
            by_cases g20 : lx212 = (54 : Int32)
            ·
              rw [if_pos g20]
              have g20i : lx212.toInt = 54 := q_eqI g20
              exact trivial
            ·
              rw [if_neg g20]
              have g20i : lx212.toInt ≠ 54 := q_neI g20
              have g21 : ¬ ((50000000 : Int32) ≤ (0 : Int32)) := (by decide)
              rw [if_neg g21]
              exact trivial
          ·
            rw [if_neg g19]
            have g19i : 55 < lx212.toInt := q_nleI g19
            unfold S_TR_findDecimal_J190
            by_cases g22 : lx212 = (54 : Int32)
            ·
              rw [if_pos g22]
              have g22i : lx212.toInt = 54 := q_eqI g22
              exact trivial
            ·
              rw [if_neg g22]
              have g22i : lx212.toInt ≠ 54 := q_neI g22
              have g23 : ¬ ((50000000 : Int32) ≤ (0 : Int32)) := (by decide)
              rw [if_neg g23]
              exact trivial
        ·
          rw [if_neg g18]
          have g18i : 54 < lx212.toInt := q_nleI g18
          unfold S_TR_findDecimal_J174
          by_cases g24 : lx212 ≤ (55 : Int32)
          ·
            rw [if_pos g24]
            have g24i : lx212.toInt ≤ 55 := q_leI g24
            unfold S_TR_findDecimal_J190
            by_cases g25 : lx212 = (54 : Int32)
            ·
              rw [if_pos g25]
              have g25i : lx212.toInt = 54 := q_eqI g25
              exact trivial
            ·
              rw [if_neg g25]
              have g25i : lx212.toInt ≠ 54 := q_neI g25
              by_cases g26 : (50000000 : Int32) ≤ (lx217 (55 : Int32).toNatClampNeg : Int32)
              ·
                rw [if_pos g26]
                by_cases g27 : (50000000 : Int32) < (lx217 (55 : Int32).toNatClampNeg : Int32)
                ·
                  rw [if_pos g27]
                  exact trivial
                ·
                  rw [if_neg g27]
                  have g28 : ((0 : Int32) = (0 : Int32)) := (by decide)
                  rw [if_pos g28]
                  exact trivial
              ·
                rw [if_neg g26]
                exact trivial
          ·
            rw [if_neg g24]
            have g24i : 55 < lx212.toInt := q_nleI g24
            unfold S_TR_findDecimal_J190
            by_cases g29 : lx212 = (54 : Int32)
            ·
              rw [if_pos g29]
              have g29i : lx212.toInt = 54 := q_eqI g29
              exact trivial
            ·
              rw [if_neg g29]
              have g29i : lx212.toInt ≠ 54 := q_neI g29
              by_cases g30 : (50000000 : Int32) ≤ (lx217 (55 : Int32).toNatClampNeg : Int32)
              ·
                rw [if_pos g30]
                by_cases g31 : (50000000 : Int32) < (lx217 (55 : Int32).toNatClampNeg : Int32)
                ·
                  rw [if_pos g31]
                  exact trivial
                ·
                  rw [if_neg g31]
                  have g32 : ¬ ((1 : Int32) = (0 : Int32)) := (by decide)
                  rw [if_neg g32]
                  exact trivial
              ·
                rw [if_neg g30]
                exact trivial
      ·
        rw [if_neg g17]
        have g17l := g_lc4 g17
        have h33 := T_TR_twice (t0_0 := lx203) (t0_1 := lx204) (t0_2 := lx205) (t0_3 := lx206) (t0_4 := lx207) (t0_5 := lx208) (t0_6 := lx209) (t0_7 := lx210) (t0_8 := lx211) (t0_9 := lx212) (t0_10 := lx213) (t0_11 := lx214) (t0_12 := lx215) (t0_13 := lx216) (t1_0 := lx217) ⟨by omega, by omega⟩ ⟨by omega, by omega⟩
        with_reducible refine v_oweS h33.1 ?_
        replace h33 := h33.2
        generalize F_TR_twice lx203 lx204 lx205 lx206 lx207 lx208 lx209 lx210 lx211 lx212 lx213 lx214 lx215 lx216 lx217 = p400 at *
        unfold Q_TR_twice at h33
        obtain ⟨tw1, tw4, tw11, tw13, tw8, tw9⟩ := h33
        have tw11i := congrArg Int64.toInt tw11
        unfold S_TR_findDecimal_c130
        have sb := tr_sub1 (x := p400.2.2.2.2.2.2.2.2.2.2.2.1) ⟨by omega, by omega⟩; exact ih _ _ _ _ _ _ _ _ _ _ _ _ _ _ _ ⟨by omega, by omega⟩ ⟨by omega, by omega⟩ ⟨by omega, by omega⟩ ⟨by omega, by omega⟩
theorem vt_fd1 {x2 : Int32} {x3 : Int32} {x4 : Int32} {t0_0 : Int32} {t0_1 : Int32} {t0_2 : Int32} {t0_3 : Int32} {t0_4 : Int32} {t0_5 : Int32} {t0_6 : Int32} {t0_7 : Int64} {t0_8 : Int32} {t0_9 : Int32} {t0_10 : Int64} {t0_11 : Int64} {t0_12 : Int32} {t0_13 : Int32} {t1_0 : (Nat → Int32)} {t2_0 : (Nat → Int32)} {j30 : Int64} {lx35 : Int32} {p118 : (Int32 × Int32 × Int32 × Int32 × Int32 × Int32 × Int32 × Int64 × Int32 × Int32 × Int64 × Int64 × Int32 × Int32 × (Nat → Int32))} (hx3 : x3 = 53 ∨ x3 = 24) (hx4 : -1074 ≤ x4.toInt ∧ x4.toInt ≤ 0) : ∀ (n : Nat) (lx142 : Int32) (lx143 : Int32) (lx144 : Int32) (lx145 : Int32) (lx146 : Int32) (lx147 : Int32) (lx148 : Int32) (lx149 : Int64) (lx150 : Int32) (lx151 : Int32) (lx152 : Int64) (lx153 : Int64) (lx154 : Int32) (lx155 : Int32) (lx156 : (Nat → Int32)), (trI lx153.toInt lx150 lx151 lx156) → ((0 ≤ lx143.toInt ∧ lx143.toInt ≤ 4100) ∧ (0 ≤ lx146.toInt ∧ lx146.toInt ≤ 1) ∧ (0 ≤ lx155.toInt ∧ lx155.toInt ≤ 1)) → (0 ≤ lx153.toInt ∧ lx153.toInt ≤ 1330) → (1331 - lx153.toInt < (n : Int)) → (S_TR_findDecimal_L78 x2 x3 x4 t0_0 t0_1 t0_2 t0_3 t0_4 t0_5 t0_6 t0_7 t0_8 t0_9 t0_10 t0_11 t0_12 t0_13 t1_0 t2_0 j30 lx35 p118 n lx142 lx143 lx144 lx145 lx146 lx147 lx148 lx149 lx150 lx151 lx152 lx153 lx154 lx155 lx156) := by
  intro n
  induction n with
  | zero => intro lx142 lx143 lx144 lx145 lx146 lx147 lx148 lx149 lx150 lx151 lx152 lx153 lx154 lx155 lx156 hI hb ht hm; exact absurd (show False by omega) id
  | succ n ih =>
    intro lx142 lx143 lx144 lx145 lx146 lx147 lx148 lx149 lx150 lx151 lx152 lx153 lx154 lx155 lx156 hI hb ht hm
    have e0 : (0 : Int32).toInt = 0 := rfl
    have e1 : (1 : Int32).toInt = 1 := rfl
    have eL0 : (0 : Int64).toInt = 0 := rfl
    rw [S_TR_findDecimal_L78.eq_2]
    by_cases g1 : (lg_cmp ((F_TR_wholePart lx142 lx143 lx144 lx145 lx146 lx147 lx148 lx149 lx150 lx151 lx152 lx153 lx154 lx155 lx156) : Int64) ((1 : Int64) <<< (x3.toInt64 &&& 63) : Int64) : Int32) < (0 : Int32)
    ·
      rw [if_pos g1]
      exact vt_fd2 (K_F_TR_findDecimal_L78 := fun _ _ _ _ _ _ _ _ _ _ _ _ _ _ _ => default) hx3 hx4 _ _ _ _ _ _ _ _ _ _ _ _ _ _ _ _ hI.1 hI.2.1 ⟨by omega, by omega⟩ ⟨by omega, by omega⟩
    ·
      rw [if_neg g1]
      have hV := tr_wp2 hx3 g1 hI.1 hI.2.2.2.2.1 hI.2.2.1
      have hl := hI.le hV
      have h2 := T_TR_half (t0_0 := lx142) (t0_1 := lx143) (t0_2 := lx144) (t0_3 := lx145) (t0_4 := lx146) (t0_5 := lx147) (t0_6 := lx148) (t0_7 := lx149) (t0_8 := lx150) (t0_9 := lx151) (t0_10 := lx152) (t0_11 := lx153) (t0_12 := lx154) (t0_13 := lx155) (t1_0 := lx156) hI.1 hI.2.1 hI.2.2.1 hI.2.2.2.1 (hI.even hV)
      with_reducible refine v_oweS h2.1 ?_
      replace h2 := h2.2
      generalize F_TR_half lx142 lx143 lx144 lx145 lx146 lx147 lx148 lx149 lx150 lx151 lx152 lx153 lx154 lx155 lx156 = p479 at *
      unfold Q_TR_half at h2
      obtain ⟨ha1, ha4, ha11, ha13, ha8, hao, haz, han, hav, hat⟩ := h2
      have ha1i := congrArg Int32.toInt ha1
      have ha4i := congrArg Int32.toInt ha4
      have ha11i := congrArg Int64.toInt ha11
      have ha13i := congrArg Int32.toInt ha13
      unfold S_TR_findDecimal_c90
      refine And.intro (by first | omega | decide) ?_
      refine And.intro (by first | omega | decide) ?_
      refine And.intro (by first | omega | decide) ?_
      refine And.intro (by first | omega | decide) ?_
      refine And.intro (by first | omega | decide) ?_
      refine And.intro (by first | omega | decide) ?_
      have sb := tr_add1 (x := p479.2.2.2.2.2.2.2.2.2.2.2.1) ⟨by omega, by omega⟩; exact ih _ _ _ _ _ _ _ _ _ _ _ _ _ _ _ (by rw [sb, ha11i]; exact hI.step hV ha8 hao haz han hav hat) ⟨⟨by omega, by omega⟩, ⟨by omega, by omega⟩, ⟨by omega, by omega⟩⟩ ⟨by omega, by omega⟩ (by omega)
theorem tr_j32 {j : Int64} (h : -400 ≤ j.toInt ∧ j.toInt ≤ 400) : -400 ≤ j.toInt32.toInt ∧ j.toInt32.toInt ≤ 400 := by rw [s_l2i (by omega) (by omega)]; exact h
theorem trI.start {fr to : Int32} {w : Nat → Int32} (h8 : 0 ≤ fr.toInt ∧ fr.toInt ≤ 54) (h9 : 54 ≤ to.toInt ∧ to.toInt ≤ 617) (ho : trO w) (hz : ∀ i : Nat, (i : Int) < fr.toInt → w i = 0) (hn : fr.toInt = 54 ∨ (w fr.toNatClampNeg).toInt ≠ 0) (hv : trV w 55 < 100000000 ^ 50) : trI (0 : Int64).toInt fr to w := by
  have e : (0 : Int64).toInt = 0 := rfl
  rw [e]
  refine ⟨h8, ⟨h9.1, by omega⟩, ho, hz, hn, ⟨0, rfl, by rw [Int.pow_zero, Int.mul_one]; exact hv⟩, by omega, fun d hd => ?_⟩
  rw [show d = 0 by omega]
  show _ % 1 = 0
  omega
theorem T_TR_findDecimal {x2 : Int32} {x3 : Int32} {x4 : Int32} {t0_0 : Int32} {t0_1 : Int32} {t0_2 : Int32} {t0_3 : Int32} {t0_4 : Int32} {t0_5 : Int32} {t0_6 : Int32} {t0_7 : Int64} {t0_8 : Int32} {t0_9 : Int32} {t0_10 : Int64} {t0_11 : Int64} {t0_12 : Int32} {t0_13 : Int32} {t1_0 : (Nat → Int32)} {t2_0 : (Nat → Int32)} (hx3 : x3 = 53 ∨ x3 = 24) (hx4 : -1074 ≤ x4.toInt ∧ x4.toInt ≤ 0)(hx2 : 0 ≤ x2.toInt ∧ x2.toInt < t0_5.toInt) (h5 : t0_5.toInt ≤ 4100) (hF : ∀ i : Nat, (i : Int) < t0_5.toInt → 0 ≤ (t1_0 i).toInt ∧ (t1_0 i).toInt ≤ 9) (hT : (0 ≤ t0_1.toInt ∧ t0_1.toInt ≤ 4100) ∧ (0 ≤ t0_4.toInt ∧ t0_4.toInt ≤ 1)) : (S_TR_findDecimal x2 x3 x4 t0_0 t0_1 t0_2 t0_3 t0_4 t0_5 t0_6 t0_7 t0_8 t0_9 t0_10 t0_11 t0_12 t0_13 t1_0 t2_0) := by
  have e0 : (0 : Int32).toInt = 0 := rfl
  have e1 : (1 : Int32).toInt = 1 := rfl
  have eL0 : (0 : Int64).toInt = 0 := rfl
  have e400 : (400 : Int64).toInt = 400 := rfl
  have em400 : (-400 : Int64).toInt = -400 := rfl
  unfold S_TR_findDecimal
  obtain ⟨jj, ejj⟩ := q_nm (((t0_6 - x2 : Int32).toInt64 : Int64) + t0_7 : Int64)
  rw [ejj]
  by_cases g1 : (lg_cmp jj 400 : Int32) ≤ (0 : Int32)
  ·
    rw [if_pos g1]
    have g1l := g_lc3 g1
    unfold S_TR_findDecimal_J29
    have g2 : ((0 : Int32) = (0 : Int32)) := (by decide)
    rw [if_pos g2]
    by_cases g3 : (0 : Int32) ≤ (lg_cmp jj (-400) : Int32)
    ·
      rw [if_pos g3]
      have g3l := g_lc5 g3
      have h4 := T_TR_writeOut (x2 := x2) (x3 := (jj.toInt32 : Int32)) (t0_0 := t0_0) (t0_1 := t0_1) (t0_2 := t0_2) (t0_3 := t0_3) (t0_4 := t0_4) (t0_5 := t0_5) (t0_6 := t0_6) (t0_7 := t0_7) (t0_8 := t0_8) (t0_9 := t0_9) (t0_10 := t0_10) (t0_11 := t0_11) (t0_12 := t0_12) (t0_13 := (0 : Int32)) (t1_0 := t1_0) (t2_0 := t2_0) ⟨by omega, by omega⟩ (tr_j32 ⟨by omega, by omega⟩) ⟨by omega, by omega⟩ hF
      with_reducible refine v_oweS h4.1 ?_
      replace h4 := h4.2
      generalize F_TR_writeOut x2 (jj.toInt32 : Int32) t0_0 t0_1 t0_2 t0_3 t0_4 t0_5 t0_6 t0_7 t0_8 t0_9 t0_10 t0_11 t0_12 (0 : Int32) t1_0 t2_0 = p118 at *
      unfold Q_TR_writeOut at h4
      obtain ⟨wo1, wo4, wo13, wo8, wo9, woo, woz, won, wov⟩ := h4
      have wo1i := congrArg Int32.toInt wo1
      have wo4i := congrArg Int32.toInt wo4
      have wo13i := congrArg Int32.toInt wo13
      unfold S_TR_findDecimal_c70
      exact vt_fd1 hx3 hx4 1000000 _ _ _ _ _ _ _ _ _ _ _ _ _ _ _ (trI.start wo8 wo9 woo woz won wov) ⟨⟨by omega, by omega⟩, ⟨by omega, by omega⟩, ⟨by omega, by omega⟩⟩ (by decide) (by decide)
    ·
      rw [if_neg g3]
      have g3l := g_lc6 g3
      exact trivial
  ·
    rw [if_neg g1]
    have g1l := g_lc4 g1
    unfold S_TR_findDecimal_J29
    have g5 : ¬ ((1 : Int32) = (0 : Int32)) := (by decide)
    rw [if_neg g5]
    exact trivial
theorem tr_ix {v : Int64} {m : Int32} (h0 : (0 : Int64).toInt ≤ v.toInt) (h1 : v.toInt < m.toInt64.toInt) (hm : m.toInt ≤ 4100) : v.toInt32.toInt ≤ 4099 := by
  have e : m.toInt64.toInt = m.toInt := q_i2l rfl
  have e0 : (0 : Int64).toInt = 0 := rfl
  rw [s_l2i (by omega) (by omega)]
  omega
theorem tr_j138 {p m : Int32} {e : Int64} (hp : 0 ≤ p.toInt ∧ p.toInt ≤ 4100) (hm : 0 ≤ m.toInt ∧ m.toInt ≤ 4100) (he : -20000000000 ≤ e.toInt ∧ e.toInt ≤ 20000000000) : ((4 * ((p - m : Int32).toInt64 : Int64) : Int64) + e : Int64).toInt = 4 * (p.toInt - m.toInt) + e.toInt := by
  have a : (p - m : Int32).toInt = p.toInt - m.toInt := q_subI rfl rfl (by omega) (by omega)
  have b : (4 * ((p - m : Int32).toInt64 : Int64) : Int64).toInt = 4 * (p.toInt - m.toInt) := q_mulL (x := 4) (by decide) (q_i2l a) (by omega) (by omega)
  exact q_addL b rfl (by omega) (by omega)
theorem tr_j54 {p m b : Int32} {e : Int64} (hp : 0 ≤ p.toInt ∧ p.toInt ≤ 4100) (hm : 0 ≤ m.toInt ∧ m.toInt ≤ 4100) (hb : 1 ≤ b.toInt ∧ b.toInt ≤ 4) (he : -20000000000 ≤ e.toInt ∧ e.toInt ≤ 20000000000) : ((((4 * ((p - m : Int32).toInt64 : Int64) : Int64) - 5 : Int64) + (b.toInt64 : Int64) : Int64) + e : Int64).toInt = 4 * (p.toInt - m.toInt) - 5 + b.toInt + e.toInt := by
  have a : (p - m : Int32).toInt = p.toInt - m.toInt := q_subI rfl rfl (by omega) (by omega)
  have c : (4 * ((p - m : Int32).toInt64 : Int64) : Int64).toInt = 4 * (p.toInt - m.toInt) := q_mulL (x := 4) (by decide) (q_i2l a) (by omega) (by omega)
  have d : ((4 * ((p - m : Int32).toInt64 : Int64) : Int64) - 5 : Int64).toInt = 4 * (p.toInt - m.toInt) - 5 := q_subL c (by decide) (by omega) (by omega)
  have f : (((4 * ((p - m : Int32).toInt64 : Int64) : Int64) - 5 : Int64) + (b.toInt64 : Int64) : Int64).toInt = 4 * (p.toInt - m.toInt) - 5 + b.toInt := q_addL d (q_i2l rfl) (by omega) (by omega)
  exact q_addL f rfl (by omega) (by omega)
theorem tr_102 {j : Int64} {x : Int32} (hj : -2000 ≤ j.toInt ∧ j.toInt ≤ 2000) (hx : 0 ≤ x.toInt ∧ x.toInt ≤ 60) : ((j - x.toInt64 : Int64) + 1 : Int64).toInt = j.toInt - x.toInt + 1 := by
  have a : (j - x.toInt64 : Int64).toInt = j.toInt - x.toInt := q_subL rfl (q_i2l rfl) (by omega) (by omega)
  exact q_addL a (by decide) (by omega) (by omega)
theorem tr_sub2 {x : Int64} (h : -100000 ≤ x.toInt ∧ x.toInt ≤ 100000) : (x - 2 : Int64).toInt = x.toInt - 2 := q_subL (y := 2) rfl (by decide) (by omega) (by omega)
theorem T_TR_bitAt {x2 : Int64} {t0_0 : Int32} {t0_1 : Int32} {t0_2 : Int32} {t0_3 : Int32} {t0_4 : Int32} {t0_5 : Int32} {t0_6 : Int32} {t0_7 : Int64} {t0_8 : Int32} {t0_9 : Int32} {t0_10 : Int64} {t0_11 : Int64} {t0_12 : Int32} {t0_13 : Int32} {t1_0 : (Nat → Int32)} (h5 : t0_5.toInt ≤ 4100) : (S_TR_bitAt x2 t0_0 t0_1 t0_2 t0_3 t0_4 t0_5 t0_6 t0_7 t0_8 t0_9 t0_10 t0_11 t0_12 t0_13 t1_0) := by
  have e0 : (0 : Int32).toInt = 0 := rfl
  have e1 : (1 : Int32).toInt = 1 := rfl
  have eL0 : (0 : Int64).toInt = 0 := rfl
  unfold S_TR_bitAt
  by_cases g1 : (lg_cmp (x2 - t0_7 : Int64) 0 : Int32) < (0 : Int32)
  ·
    rw [if_pos g1]
    have g1l := g_lc1 g1
    unfold S_TR_bitAt_J31
    by_cases g2 : (lg_cmp (((t0_6.toInt64 : Int64) - 1 : Int64) - (-((3 - (x2 - t0_7 : Int64) : Int64) / 4 : Int64) : Int64) : Int64) 0 : Int32) < (0 : Int32)
    ·
      rw [if_pos g2]
      have g2l := g_lc1 g2
      exact trivial
    ·
      rw [if_neg g2]
      have g2l := g_lc2 g2
      by_cases g3 : (lg_cmp (((t0_6.toInt64 : Int64) - 1 : Int64) - (-((3 - (x2 - t0_7 : Int64) : Int64) / 4 : Int64) : Int64) : Int64) (t0_5.toInt64 : Int64) : Int32) < (0 : Int32)
      ·
        rw [if_pos g3]
        have g3l := g_lc1 g3
        refine And.intro (tr_ix (by with_reducible assumption) (by with_reducible assumption) (by omega)) ?_
        exact trivial
      ·
        rw [if_neg g3]
        have g3l := g_lc2 g3
        exact trivial
  ·
    rw [if_neg g1]
    have g1l := g_lc2 g1
    unfold S_TR_bitAt_J31
    by_cases g4 : (lg_cmp (((t0_6.toInt64 : Int64) - 1 : Int64) - ((x2 - t0_7 : Int64) / 4 : Int64) : Int64) 0 : Int32) < (0 : Int32)
    ·
      rw [if_pos g4]
      have g4l := g_lc1 g4
      exact trivial
    ·
      rw [if_neg g4]
      have g4l := g_lc2 g4
      by_cases g5 : (lg_cmp (((t0_6.toInt64 : Int64) - 1 : Int64) - ((x2 - t0_7 : Int64) / 4 : Int64) : Int64) (t0_5.toInt64 : Int64) : Int32) < (0 : Int32)
      ·
        rw [if_pos g5]
        have g5l := g_lc1 g5
        refine And.intro (tr_ix (by with_reducible assumption) (by with_reducible assumption) (by omega)) ?_
        exact trivial
      ·
        rw [if_neg g5]
        have g5l := g_lc2 g5
        exact trivial
theorem vt_fh2 {K_F_TR_findHexadecimal_L156 : Int64 → Int64 → (Int32 × Int32 × Int32 × Int32 × Int32 × Int32 × Int32 × Int64 × Int32 × Int32 × Int64 × Int64 × Int32 × Int32)} {x2 : Int32} {x3 : Int32} {x4 : Int32} {t0_0 : Int32} {t0_1 : Int32} {t0_2 : Int32} {t0_3 : Int32} {t0_4 : Int32} {t0_5 : Int32} {t0_6 : Int32} {t0_7 : Int64} {t0_8 : Int32} {t0_9 : Int32} {t0_10 : Int64} {t0_11 : Int64} {t0_12 : Int32} {t0_13 : Int32} {t1_0 : (Nat → Int32)} {lx26 : Int32} {j54 : Int64} {lx59 : Int32} {j74 : Int64} {lx102 : Int64} {lx114 : Int64} {lx115 : Int64} {j138 : Int64} {K_S_TR_findHexadecimal_L156 : Int64 → Int64 → Prop} (h5 : 1 ≤ t0_5.toInt ∧ t0_5.toInt ≤ 4100)(hj : -30000 ≤ j138.toInt) : ∀ (n : Nat) (lx144 : Int64) (lx145 : Int32), (-40000 ≤ lx144.toInt ∧ lx144.toInt ≤ 10000) → (lx144.toInt - j138.toInt + 1 < (n : Int) ∧ 0 < (n : Int)) → (S_TR_findHexadecimal_L229 K_S_TR_findHexadecimal_L156 x2 x3 x4 t0_0 t0_1 t0_2 t0_3 t0_4 t0_5 t0_6 t0_7 t0_8 t0_9 t0_10 t0_11 t0_12 t0_13 t1_0 lx26 j54 lx59 j74 lx102 lx114 lx115 j138 n lx144 lx145) := by
  intro n
  induction n with
  | zero => intro lx144 lx145 h0 hm; omega
  | succ n ih =>
    intro lx144 lx145 h0 hm
    have e0 : (0 : Int32).toInt = 0 := rfl
    have e1 : (1 : Int32).toInt = 1 := rfl
    have eL0 : (0 : Int64).toInt = 0 := rfl
    have sb := tr_sub1 (x := lx144) ⟨by omega, by omega⟩
    rw [S_TR_findHexadecimal_L229.eq_2]
    by_cases g1 : (lg_cmp lx144 j138 : Int32) < (0 : Int32)
    ·
      rw [if_pos g1]
      have g1l := g_lc1 g1
      unfold S_TR_findHexadecimal_J268
      have h2 := T_TR_bitAt (x2 := (lx102 - 1 : Int64)) (t0_0 := t0_0) (t0_1 := t0_1) (t0_2 := t0_2) (t0_3 := t0_3) (t0_4 := t0_4) (t0_5 := t0_5) (t0_6 := t0_6) (t0_7 := t0_7) (t0_8 := t0_8) (t0_9 := t0_9) (t0_10 := lx115) (t0_11 := lx102) (t0_12 := (1 : Int32)) (t0_13 := lx59) (t1_0 := t1_0) (by omega)
      with_reducible refine v_oweS h2 ?_
      by_cases g3 : ((F_TR_bitAt (lx102 - 1 : Int64) t0_0 t0_1 t0_2 t0_3 t0_4 t0_5 t0_6 t0_7 t0_8 t0_9 lx115 lx102 (1 : Int32) lx59 t1_0) : Int32) = (1 : Int32)
      ·
        rw [if_pos g3]
        by_cases g4 : lx145 = (0 : Int32)
        ·
          rw [if_pos g4]
          exact trivial
        ·
          rw [if_neg g4]
          exact trivial
      ·
        rw [if_neg g3]
        by_cases g5 : lx145 = (0 : Int32)
        ·
          rw [if_pos g5]
          exact trivial
        ·
          rw [if_neg g5]
          exact trivial
    ·
      rw [if_neg g1]
      have g1l := g_lc2 g1
      by_cases g6 : lx145 = (0 : Int32)
      ·
        rw [if_pos g6]
        have h7 := T_TR_bitAt (x2 := lx144) (t0_0 := t0_0) (t0_1 := t0_1) (t0_2 := t0_2) (t0_3 := t0_3) (t0_4 := t0_4) (t0_5 := t0_5) (t0_6 := t0_6) (t0_7 := t0_7) (t0_8 := t0_8) (t0_9 := t0_9) (t0_10 := lx115) (t0_11 := lx102) (t0_12 := (1 : Int32)) (t0_13 := lx59) (t1_0 := t1_0) (by omega)
        with_reducible refine v_oweS h7 ?_
        by_cases g8 : ((F_TR_bitAt lx144 t0_0 t0_1 t0_2 t0_3 t0_4 t0_5 t0_6 t0_7 t0_8 t0_9 lx115 lx102 (1 : Int32) lx59 t1_0) : Int32) = (1 : Int32)
        ·
          rw [if_pos g8]
          exact ih _ _ ⟨by omega, by omega⟩ ⟨by omega, by omega⟩
        ·
          rw [if_neg g8]
          exact ih _ _ ⟨by omega, by omega⟩ ⟨by omega, by omega⟩
      ·
        rw [if_neg g6]
        unfold S_TR_findHexadecimal_J268
        have h9 := T_TR_bitAt (x2 := (lx102 - 1 : Int64)) (t0_0 := t0_0) (t0_1 := t0_1) (t0_2 := t0_2) (t0_3 := t0_3) (t0_4 := t0_4) (t0_5 := t0_5) (t0_6 := t0_6) (t0_7 := t0_7) (t0_8 := t0_8) (t0_9 := t0_9) (t0_10 := lx115) (t0_11 := lx102) (t0_12 := (1 : Int32)) (t0_13 := lx59) (t1_0 := t1_0) (by omega)
        with_reducible refine v_oweS h9 ?_
        by_cases g10 : ((F_TR_bitAt (lx102 - 1 : Int64) t0_0 t0_1 t0_2 t0_3 t0_4 t0_5 t0_6 t0_7 t0_8 t0_9 lx115 lx102 (1 : Int32) lx59 t1_0) : Int32) = (1 : Int32)
        ·
          rw [if_pos g10]
          rw [if_neg g6]
          exact trivial
        ·
          rw [if_neg g10]
          rw [if_neg g6]
          exact trivial
theorem vt_fh1 {x2 : Int32} {x3 : Int32} {x4 : Int32} {t0_0 : Int32} {t0_1 : Int32} {t0_2 : Int32} {t0_3 : Int32} {t0_4 : Int32} {t0_5 : Int32} {t0_6 : Int32} {t0_7 : Int64} {t0_8 : Int32} {t0_9 : Int32} {t0_10 : Int64} {t0_11 : Int64} {t0_12 : Int32} {t0_13 : Int32} {t1_0 : (Nat → Int32)} {lx26 : Int32} {j54 : Int64} {lx59 : Int32} {j74 : Int64} {lx102 : Int64} (h5 : 1 ≤ t0_5.toInt ∧ t0_5.toInt ≤ 4100)(h6 : 0 ≤ t0_6.toInt ∧ t0_6.toInt ≤ 4100) (h7 : -20000000000 ≤ t0_7.toInt ∧ t0_7.toInt ≤ 20000000000) (hE : -30000 ≤ 4 * (t0_6.toInt - t0_5.toInt) + t0_7.toInt)(hl : -5000 ≤ lx102.toInt ∧ lx102.toInt ≤ 5000) : ∀ (n : Nat) (lx114 : Int64) (lx115 : Int64), (-10000 ≤ lx114.toInt ∧ lx114.toInt ≤ 10000) → (lx114.toInt - lx102.toInt + 1 < (n : Int) ∧ 0 < (n : Int)) → (S_TR_findHexadecimal_L156 x2 x3 x4 t0_0 t0_1 t0_2 t0_3 t0_4 t0_5 t0_6 t0_7 t0_8 t0_9 t0_10 t0_11 t0_12 t0_13 t1_0 lx26 j54 lx59 j74 lx102 n lx114 lx115) := by
  intro n
  induction n with
  | zero => intro lx114 lx115 h0 hm; omega
  | succ n ih =>
    intro lx114 lx115 h0 hm
    have e0 : (0 : Int32).toInt = 0 := rfl
    have e1 : (1 : Int32).toInt = 1 := rfl
    have eL0 : (0 : Int64).toInt = 0 := rfl
    have sb := tr_sub1 (x := lx114) ⟨by omega, by omega⟩
    rw [S_TR_findHexadecimal_L156.eq_2]
    by_cases g1 : (lg_cmp lx114 lx102 : Int32) < (0 : Int32)
    ·
      rw [if_pos g1]
      have g1l := g_lc1 g1
      have s2 := tr_sub2 (x := lx102) ⟨by omega, by omega⟩; have ej := tr_j138 (p := t0_6) (m := t0_5) (e := t0_7) h6 ⟨by omega, by omega⟩ h7; exact vt_fh2 (K_F_TR_findHexadecimal_L156 := fun _ _ => default) h5 (by rw [ej]; exact hE) 1000000 _ _ ⟨by omega, by omega⟩ ⟨by rw [ej, s2]; omega, by decide⟩
    ·
      rw [if_neg g1]
      have g1l := g_lc2 g1
      have h2 := T_TR_bitAt (x2 := lx114) (t0_0 := t0_0) (t0_1 := t0_1) (t0_2 := t0_2) (t0_3 := t0_3) (t0_4 := t0_4) (t0_5 := t0_5) (t0_6 := t0_6) (t0_7 := t0_7) (t0_8 := t0_8) (t0_9 := t0_9) (t0_10 := lx115) (t0_11 := lx102) (t0_12 := (1 : Int32)) (t0_13 := lx59) (t1_0 := t1_0) (by omega)
      with_reducible refine v_oweS h2 ?_
      exact ih _ _ ⟨by omega, by omega⟩ ⟨by omega, by omega⟩
theorem T_TR_fhJ {x2 : Int32} {x3 : Int32} {x4 : Int32} {t0_0 : Int32} {t0_1 : Int32} {t0_2 : Int32} {t0_3 : Int32} {t0_4 : Int32} {t0_5 : Int32} {t0_6 : Int32} {t0_7 : Int64} {t0_8 : Int32} {t0_9 : Int32} {t0_10 : Int64} {t0_11 : Int64} {t0_12 : Int32} {t0_13 : Int32} {t1_0 : (Nat → Int32)} {lx26 : Int32} (hx3 : x3 = 53 ∨ x3 = 24) (hx4 : -1074 ≤ x4.toInt ∧ x4.toInt ≤ 0)(h5 : 1 ≤ t0_5.toInt ∧ t0_5.toInt ≤ 4100)(hx2 : 0 ≤ x2.toInt ∧ x2.toInt < t0_5.toInt)(h6 : 0 ≤ t0_6.toInt ∧ t0_6.toInt ≤ 4100) (h7 : -20000000000 ≤ t0_7.toInt ∧ t0_7.toInt ≤ 20000000000) (h26 : 1 ≤ lx26.toInt ∧ lx26.toInt ≤ 4) : (S_TR_findHexadecimal_J44 x2 x3 x4 t0_0 t0_1 t0_2 t0_3 t0_4 t0_5 t0_6 t0_7 t0_8 t0_9 t0_10 t0_11 t0_12 t0_13 t1_0 lx26) := by
  have e0 : (0 : Int32).toInt = 0 := rfl
  have e1 : (1 : Int32).toInt = 1 := rfl
  have eL0 : (0 : Int64).toInt = 0 := rfl
  have e2k : (2000 : Int64).toInt = 2000 := rfl
  have em2k : (-2000 : Int64).toInt = -2000 := rfl
  have x3b : 0 ≤ x3.toInt ∧ x3.toInt ≤ 60 := by rcases hx3 with h | h <;> (rw [h]; decide)
  unfold S_TR_findHexadecimal_J44
  obtain ⟨jt, ejt⟩ := q_nm ((((4 * ((t0_6 - x2 : Int32).toInt64 : Int64) : Int64) - 5 : Int64) + (lx26.toInt64 : Int64) : Int64) + t0_7 : Int64)
  have jti : jt.toInt = 4 * (t0_6.toInt - x2.toInt) - 5 + lx26.toInt + t0_7.toInt := by rw [← ejt]; exact tr_j54 h6 ⟨by omega, by omega⟩ h26 h7
  rw [ejt]
  have exA := fun h => tr_102 (j := jt) (x := x3) h x3b
  have exB : x4.toInt64.toInt = x4.toInt := q_i2l rfl
  by_cases g1 : (lg_cmp jt 2000 : Int32) ≤ (0 : Int32)
  ·
    rw [if_pos g1]
    have g1l := g_lc3 g1
    unfold S_TR_findHexadecimal_J87
    have g2 : ((0 : Int32) = (0 : Int32)) := (by decide)
    rw [if_pos g2]
    by_cases g3 : (0 : Int32) ≤ (lg_cmp jt (-2000) : Int32)
    ·
      rw [if_pos g3]
      have g3l := g_lc5 g3
      by_cases g4 : (lg_cmp ((jt - (x3.toInt64 : Int64) : Int64) + 1 : Int64) (x4.toInt64 : Int64) : Int32) ≤ (0 : Int32)
      ·
        rw [if_pos g4]
        unfold S_TR_findHexadecimal_J149
        exact vt_fh1 h5 h6 h7 (by omega) (by rw [exB]; omega) 1000000 _ _ ⟨by omega, by omega⟩ ⟨by rw [exB]; omega, by decide⟩
      ·
        rw [if_neg g4]
        unfold S_TR_findHexadecimal_J149
        exact vt_fh1 h5 h6 h7 (by omega) (by rw [(exA ⟨by omega, by omega⟩)]; omega) 1000000 _ _ ⟨by omega, by omega⟩ ⟨by rw [(exA ⟨by omega, by omega⟩)]; omega, by decide⟩
    ·
      rw [if_neg g3]
      have g3l := g_lc6 g3
      exact trivial
  ·
    rw [if_neg g1]
    have g1l := g_lc4 g1
    unfold S_TR_findHexadecimal_J87
    have g5 : ¬ ((1 : Int32) = (0 : Int32)) := (by decide)
    rw [if_neg g5]
    exact trivial
theorem T_TR_findHexadecimal {x2 : Int32} {x3 : Int32} {x4 : Int32} {t0_0 : Int32} {t0_1 : Int32} {t0_2 : Int32} {t0_3 : Int32} {t0_4 : Int32} {t0_5 : Int32} {t0_6 : Int32} {t0_7 : Int64} {t0_8 : Int32} {t0_9 : Int32} {t0_10 : Int64} {t0_11 : Int64} {t0_12 : Int32} {t0_13 : Int32} {t1_0 : (Nat → Int32)} (hx3 : x3 = 53 ∨ x3 = 24) (hx4 : -1074 ≤ x4.toInt ∧ x4.toInt ≤ 0)(h5 : 1 ≤ t0_5.toInt ∧ t0_5.toInt ≤ 4100)(hx2 : 0 ≤ x2.toInt ∧ x2.toInt < t0_5.toInt)(h6 : 0 ≤ t0_6.toInt ∧ t0_6.toInt ≤ 4100) (h7 : -20000000000 ≤ t0_7.toInt ∧ t0_7.toInt ≤ 20000000000)  : (S_TR_findHexadecimal x2 x3 x4 t0_0 t0_1 t0_2 t0_3 t0_4 t0_5 t0_6 t0_7 t0_8 t0_9 t0_10 t0_11 t0_12 t0_13 t1_0) := by
  have e0 : (0 : Int32).toInt = 0 := rfl
  have e1 : (1 : Int32).toInt = 1 := rfl
  have eL0 : (0 : Int64).toInt = 0 := rfl
  unfold S_TR_findHexadecimal
  refine And.intro (by first | omega | decide) ?_
  refine And.intro (by first | omega | decide) ?_
  by_cases g1 : (t1_0 x2.toNatClampNeg : Int32) < (8 : Int32)
  ·
    rw [if_pos g1]
    by_cases g2 : (t1_0 x2.toNatClampNeg : Int32) < (4 : Int32)
    ·
      rw [if_pos g2]
      by_cases g3 : (t1_0 x2.toNatClampNeg : Int32) < (2 : Int32)
      ·
        rw [if_pos g3]
        exact T_TR_fhJ hx3 hx4 h5 hx2 h6 h7 (by decide)
      ·
        rw [if_neg g3]
        exact T_TR_fhJ hx3 hx4 h5 hx2 h6 h7 (by decide)
    ·
      rw [if_neg g2]
      exact T_TR_fhJ hx3 hx4 h5 hx2 h6 h7 (by decide)
  ·
    rw [if_neg g1]
    exact T_TR_fhJ hx3 hx4 h5 hx2 h6 h7 (by decide)
theorem vt_fi {x2 : Int32} {x3 : Int32} {t0_0 : Int32} {t0_1 : Int32} {t0_2 : Int32} {t0_3 : Int32} {t0_4 : Int32} {t0_5 : Int32} {t0_6 : Int32} {t0_7 : Int64} {t0_8 : Int32} {t0_9 : Int32} {t0_10 : Int64} {t0_11 : Int64} {t0_12 : Int32} {t0_13 : Int32} {t1_0 : (Nat → Int32)} {t2_0 : (Nat → Int32)} (hx2 : x2 = 53 ∨ x2 = 24) (hx3 : -1074 ≤ x3.toInt ∧ x3.toInt ≤ 0) (hT : (0 ≤ t0_1.toInt ∧ t0_1.toInt ≤ 4100) ∧ (0 ≤ t0_4.toInt ∧ t0_4.toInt ≤ 1))(hS : trS t0_2 t0_5 t0_6 t0_7 t1_0) : ∀ (n : Nat) (lx26 : Int32), (0 ≤ lx26.toInt ∧ lx26.toInt ≤ t0_5.toInt) → (4100 - lx26.toInt < (n : Int)) → (S_TR_find_L2 x2 x3 t0_0 t0_1 t0_2 t0_3 t0_4 t0_5 t0_6 t0_7 t0_8 t0_9 t0_10 t0_11 t0_12 t0_13 t1_0 t2_0 n lx26) := by
  intro n
  induction n with
  | zero => intro lx26 h0 hm; have := hS.2.1; exact absurd (show False by omega) id
  | succ n ih =>
    intro lx26 h0 hm
    have e0 : (0 : Int32).toInt = 0 := rfl
    have e1 : (1 : Int32).toInt = 1 := rfl
    have eL0 : (0 : Int64).toInt = 0 := rfl
    have s5 := hS.2.1
    have s6 := hS.2.2.1
    rw [S_TR_find_L2.eq_2]
    by_cases g1 : t0_5 ≤ lx26
    ·
      rw [if_pos g1]
      have g1i : t0_5.toInt ≤ lx26.toInt := q_leI g1
      unfold S_TR_find_J25
      by_cases g2 : lx26 = t0_5
      ·
        rw [if_pos g2]
        have g2i : lx26.toInt = t0_5.toInt := q_eqI g2
        exact trivial
      ·
        rw [if_neg g2]
        have g2i : lx26.toInt ≠ t0_5.toInt := q_neI g2
        by_cases g3 : t0_2 = (0 : Int32)
        ·
          rw [if_pos g3]
          have k0 : t0_2.toInt = 0 := q_eqI g3
          have h4 := T_TR_findDecimal (x2 := lx26) (x3 := x2) (x4 := x3) (t0_0 := t0_0) (t0_1 := t0_1) (t0_2 := t0_2) (t0_3 := t0_3) (t0_4 := t0_4) (t0_5 := t0_5) (t0_6 := t0_6) (t0_7 := t0_7) (t0_8 := t0_8) (t0_9 := t0_9) (t0_10 := t0_10) (t0_11 := t0_11) (t0_12 := t0_12) (t0_13 := t0_13) (t1_0 := t1_0) (t2_0 := t2_0) hx2 hx3 ⟨by omega, by omega⟩ (by omega) (fun i hi => ⟨((hS.2.2.2.2) i hi).1.1, ((hS.2.2.2.2) i hi).2 k0⟩) hT
          with_reducible refine v_oweS h4 ?_
          generalize F_TR_findDecimal lx26 x2 x3 t0_0 t0_1 t0_2 t0_3 t0_4 t0_5 t0_6 t0_7 t0_8 t0_9 t0_10 t0_11 t0_12 t0_13 t1_0 t2_0 = p163 at *
          unfold S_TR_find_c68
          exact trivial
        ·
          rw [if_neg g3]
          have h5 := T_TR_findHexadecimal (x2 := lx26) (x3 := x2) (x4 := x3) (t0_0 := t0_0) (t0_1 := t0_1) (t0_2 := t0_2) (t0_3 := t0_3) (t0_4 := t0_4) (t0_5 := t0_5) (t0_6 := t0_6) (t0_7 := t0_7) (t0_8 := t0_8) (t0_9 := t0_9) (t0_10 := t0_10) (t0_11 := t0_11) (t0_12 := t0_12) (t0_13 := t0_13) (t1_0 := t1_0) hx2 hx3 hS.2.1 ⟨by omega, by omega⟩ ⟨by omega, by omega⟩ hS.2.2.2.1
          with_reducible refine v_oweS h5 ?_
          generalize F_TR_findHexadecimal lx26 x2 x3 t0_0 t0_1 t0_2 t0_3 t0_4 t0_5 t0_6 t0_7 t0_8 t0_9 t0_10 t0_11 t0_12 t0_13 t1_0 = p99 at *
          unfold S_TR_find_c78
          exact trivial
    ·
      rw [if_neg g1]
      have g1i : lx26.toInt < t0_5.toInt := q_nleI g1
      refine And.intro (by first | omega | decide) ?_
      by_cases g6 : (t1_0 lx26.toNatClampNeg : Int32) = (0 : Int32)
      ·
        rw [if_pos g6]
        obtain ⟨a7, e8⟩ := q_nm (lx26 + 1 : Int32)
        rw [e8]
        have a7i : a7.toInt = lx26.toInt + 1 := by rw [← e8]; exact q_addI (x := lx26.toInt) (y := 1) rfl (by decide) (by omega) (by omega)
        exact ih _ (by first | with_reducible assumption | omega | decide) (by first | with_reducible assumption | omega | decide)
      ·
        rw [if_neg g6]
        unfold S_TR_find_J25
        by_cases g9 : lx26 = t0_5
        ·
          rw [if_pos g9]
          have g9i : lx26.toInt = t0_5.toInt := q_eqI g9
          exact trivial
        ·
          rw [if_neg g9]
          have g9i : lx26.toInt ≠ t0_5.toInt := q_neI g9
          by_cases g10 : t0_2 = (0 : Int32)
          ·
            rw [if_pos g10]
            have k0 : t0_2.toInt = 0 := q_eqI g10
            have h11 := T_TR_findDecimal (x2 := lx26) (x3 := x2) (x4 := x3) (t0_0 := t0_0) (t0_1 := t0_1) (t0_2 := t0_2) (t0_3 := t0_3) (t0_4 := t0_4) (t0_5 := t0_5) (t0_6 := t0_6) (t0_7 := t0_7) (t0_8 := t0_8) (t0_9 := t0_9) (t0_10 := t0_10) (t0_11 := t0_11) (t0_12 := t0_12) (t0_13 := t0_13) (t1_0 := t1_0) (t2_0 := t2_0) hx2 hx3 ⟨by omega, by omega⟩ (by omega) (fun i hi => ⟨((hS.2.2.2.2) i hi).1.1, ((hS.2.2.2.2) i hi).2 k0⟩) hT
            with_reducible refine v_oweS h11 ?_
            generalize F_TR_findDecimal lx26 x2 x3 t0_0 t0_1 t0_2 t0_3 t0_4 t0_5 t0_6 t0_7 t0_8 t0_9 t0_10 t0_11 t0_12 t0_13 t1_0 t2_0 = p163 at *
            unfold S_TR_find_c68
            exact trivial
          ·
            rw [if_neg g10]
            have h12 := T_TR_findHexadecimal (x2 := lx26) (x3 := x2) (x4 := x3) (t0_0 := t0_0) (t0_1 := t0_1) (t0_2 := t0_2) (t0_3 := t0_3) (t0_4 := t0_4) (t0_5 := t0_5) (t0_6 := t0_6) (t0_7 := t0_7) (t0_8 := t0_8) (t0_9 := t0_9) (t0_10 := t0_10) (t0_11 := t0_11) (t0_12 := t0_12) (t0_13 := t0_13) (t1_0 := t1_0) hx2 hx3 hS.2.1 ⟨by omega, by omega⟩ ⟨by omega, by omega⟩ hS.2.2.2.1
            with_reducible refine v_oweS h12 ?_
            generalize F_TR_findHexadecimal lx26 x2 x3 t0_0 t0_1 t0_2 t0_3 t0_4 t0_5 t0_6 t0_7 t0_8 t0_9 t0_10 t0_11 t0_12 t0_13 t1_0 = p99 at *
            unfold S_TR_find_c78
            exact trivial
theorem T_TR_find {x2 : Int32} {x3 : Int32} {t0_0 : Int32} {t0_1 : Int32} {t0_2 : Int32} {t0_3 : Int32} {t0_4 : Int32} {t0_5 : Int32} {t0_6 : Int32} {t0_7 : Int64} {t0_8 : Int32} {t0_9 : Int32} {t0_10 : Int64} {t0_11 : Int64} {t0_12 : Int32} {t0_13 : Int32} {t1_0 : (Nat → Int32)} {t2_0 : (Nat → Int32)} (hx2 : x2 = 53 ∨ x2 = 24) (hx3 : -1074 ≤ x3.toInt ∧ x3.toInt ≤ 0) (hT : (0 ≤ t0_1.toInt ∧ t0_1.toInt ≤ 4100) ∧ (0 ≤ t0_4.toInt ∧ t0_4.toInt ≤ 1))(hS : trS t0_2 t0_5 t0_6 t0_7 t1_0) : (S_TR_find x2 x3 t0_0 t0_1 t0_2 t0_3 t0_4 t0_5 t0_6 t0_7 t0_8 t0_9 t0_10 t0_11 t0_12 t0_13 t1_0 t2_0) := by
  have e0 : (0 : Int32).toInt = 0 := rfl
  have e1 : (1 : Int32).toInt = 1 := rfl
  have eL0 : (0 : Int64).toInt = 0 := rfl
  unfold S_TR_find
  have s5 := hS.2.1; exact vt_fi hx2 hx3 hT hS _ _ ⟨by decide, by omega⟩ (by decide)
theorem T_TR_sizeRead {x2 : Int32} {x3 : Int32} {t0_0 : Int32} {t0_1 : Int32} {t0_2 : Int32} {t0_3 : Int32} {t0_4 : Int32} {t0_5 : Int32} {t0_6 : Int32} {t0_7 : Int64} {t0_8 : Int32} {t0_9 : Int32} {t0_10 : Int64} {t0_11 : Int64} {t0_12 : Int32} {t0_13 : Int32} {t1_0 : (Nat → Int32)} {t2_0 : (Nat → Int32)} (hx2 : x2 = 53 ∨ x2 = 24) (hx3 : -1074 ≤ x3.toInt ∧ x3.toInt ≤ 0) (hT : (0 ≤ t0_1.toInt ∧ t0_1.toInt ≤ 4100) ∧ (0 ≤ t0_4.toInt ∧ t0_4.toInt ≤ 1))(hS : (2 ≤ t0_2.toInt ∧ t0_2.toInt ≤ 3) ∨ trS t0_2 t0_5 t0_6 t0_7 t1_0) : (S_TR_sizeRead x2 x3 t0_0 t0_1 t0_2 t0_3 t0_4 t0_5 t0_6 t0_7 t0_8 t0_9 t0_10 t0_11 t0_12 t0_13 t1_0 t2_0) := by
  have e0 : (0 : Int32).toInt = 0 := rfl
  have e1 : (1 : Int32).toInt = 1 := rfl
  have eL0 : (0 : Int64).toInt = 0 := rfl
  unfold S_TR_sizeRead
  by_cases g1 : t0_2 ≤ (1 : Int32)
  ·
    rw [if_pos g1]
    have g1i : t0_2.toInt ≤ 1 := q_leI g1
    have h2 := T_TR_find (x2 := x2) (x3 := x3) (t0_0 := t0_0) (t0_1 := t0_1) (t0_2 := t0_2) (t0_3 := t0_3) (t0_4 := t0_4) (t0_5 := t0_5) (t0_6 := t0_6) (t0_7 := t0_7) (t0_8 := t0_8) (t0_9 := t0_9) (t0_10 := t0_10) (t0_11 := t0_11) (t0_12 := t0_12) (t0_13 := t0_13) (t1_0 := t1_0) (t2_0 := t2_0) hx2 hx3 hT (by rcases hS with h | h; (exfalso; omega); exact h)
    with_reducible refine v_oweS h2 ?_
    generalize F_TR_find x2 x3 t0_0 t0_1 t0_2 t0_3 t0_4 t0_5 t0_6 t0_7 t0_8 t0_9 t0_10 t0_11 t0_12 t0_13 t1_0 t2_0 = p69 at *
    unfold S_TR_sizeRead_c49
    by_cases g3 : (p69.2.2.2.2.2.2.2.2.2.2.2.2.2.1 : Int32) = (0 : Int32)
    ·
      rw [if_pos g3]
      by_cases g4 : ((F_TR_goesUp (p69.1 : Int32) (p69.2.1 : Int32) (p69.2.2.1 : Int32) (p69.2.2.2.1 : Int32) (p69.2.2.2.2.1 : Int32) (p69.2.2.2.2.2.1 : Int32) (p69.2.2.2.2.2.2.1 : Int32) (p69.2.2.2.2.2.2.2.1 : Int64) (p69.2.2.2.2.2.2.2.2.1 : Int32) (p69.2.2.2.2.2.2.2.2.2.1 : Int32) (p69.2.2.2.2.2.2.2.2.2.2.1 : Int64) (p69.2.2.2.2.2.2.2.2.2.2.2.1 : Int64) (p69.2.2.2.2.2.2.2.2.2.2.2.2.1 : Int32) (p69.2.2.2.2.2.2.2.2.2.2.2.2.2.1 : Int32)) : Int32) = (0 : Int32)
      ·
        rw [if_pos g4]
        exact trivial
      ·
        rw [if_neg g4]
        exact trivial
    ·
      rw [if_neg g3]
      by_cases g5 : x2 = (53 : Int32)
      ·
        rw [if_pos g5]
        exact trivial
      ·
        rw [if_neg g5]
        exact trivial
  ·
    rw [if_neg g1]
    have g1i : 1 < t0_2.toInt := q_nleI g1
    by_cases g6 : x2 = (53 : Int32)
    ·
      rw [if_pos g6]
      unfold S_TR_sizeRead_J23
      by_cases g7 : t0_2 = (3 : Int32)
      ·
        rw [if_pos g7]
        exact trivial
      ·
        rw [if_neg g7]
        exact trivial
    ·
      rw [if_neg g6]
      unfold S_TR_sizeRead_J23
      by_cases g8 : t0_2 = (3 : Int32)
      ·
        rw [if_pos g8]
        exact trivial
      ·
        rw [if_neg g8]
        exact trivial
theorem T_TR_bits {t0_0 : Int32} {t0_1 : Int32} {t0_2 : Int32} {t0_3 : Int32} {t0_4 : Int32} {t0_5 : Int32} {t0_6 : Int32} {t0_7 : Int64} {t0_8 : Int32} {t0_9 : Int32} {t0_10 : Int64} {t0_11 : Int64} {t0_12 : Int32} {t0_13 : Int32} {t1_0 : (Nat → Int32)} {t2_0 : (Nat → Int32)} {t3_0 : (Nat → Int32)} (ht : trT t1_0) (hl1 : 0 ≤ t0_1.toInt ∧ t0_1.toInt ≤ 4100) : (S_TR_bits t0_0 t0_1 t0_2 t0_3 t0_4 t0_5 t0_6 t0_7 t0_8 t0_9 t0_10 t0_11 t0_12 t0_13 t1_0 t2_0 t3_0) := by
  have e0 : (0 : Int32).toInt = 0 := rfl
  have e1 : (1 : Int32).toInt = 1 := rfl
  have eL0 : (0 : Int64).toInt = 0 := rfl
  unfold S_TR_bits
  have h1 := T_TR_scan (t0_0 := t0_0) (t0_1 := t0_1) (t0_2 := t0_2) (t0_3 := t0_3) (t0_4 := t0_4) (t0_5 := t0_5) (t0_6 := t0_6) (t0_7 := t0_7) (t0_8 := t0_8) (t0_9 := t0_9) (t0_10 := t0_10) (t0_11 := t0_11) (t0_12 := t0_12) (t0_13 := t0_13) (t1_0 := t1_0) (t2_0 := t2_0) ht hl1.2
  with_reducible refine v_oweS h1.1 ?_
  replace h1 := h1.2
  generalize F_TR_scan t0_0 t0_1 t0_2 t0_3 t0_4 t0_5 t0_6 t0_7 t0_8 t0_9 t0_10 t0_11 t0_12 t0_13 t1_0 t2_0 = p73 at *
  unfold Q_TR_scan at h1
  obtain ⟨scb, sc5, sc4, scS⟩ := h1
  unfold S_TR_bits_c2
  by_cases g2 : (p73.1 : Int32) = (0 : Int32)
  ·
    rw [if_pos g2]
    unfold S_TR_bits_J13
    have g3 : ¬ ((1 : Int32) ≤ (0 : Int32)) := (by decide)
    rw [if_neg g3]
    exact trivial
  ·
    rw [if_neg g2]
    have scG := g2
    unfold S_TR_bits_J13
    have g4 : ((0 : Int32) ≤ (0 : Int32)) := (by decide)
    rw [if_pos g4]
    have h5 := T_TR_sizeRead (x2 := (53 : Int32)) (x3 := (-1074 : Int32)) (t0_0 := (0 : Int32)) (t0_1 := (p73.2.2.1 : Int32)) (t0_2 := (p73.2.2.2.1 : Int32)) (t0_3 := (p73.2.2.2.2.1 : Int32)) (t0_4 := (p73.2.2.2.2.2.1 : Int32)) (t0_5 := (p73.2.2.2.2.2.2.1 : Int32)) (t0_6 := (p73.2.2.2.2.2.2.2.1 : Int32)) (t0_7 := (p73.2.2.2.2.2.2.2.2.1 : Int64)) (t0_8 := (p73.2.2.2.2.2.2.2.2.2.1 : Int32)) (t0_9 := (p73.2.2.2.2.2.2.2.2.2.2.1 : Int32)) (t0_10 := (p73.2.2.2.2.2.2.2.2.2.2.2.1 : Int64)) (t0_11 := (p73.2.2.2.2.2.2.2.2.2.2.2.2.1 : Int64)) (t0_12 := (p73.2.2.2.2.2.2.2.2.2.2.2.2.2.1 : Int32)) (t0_13 := (p73.2.2.2.2.2.2.2.2.2.2.2.2.2.2.1 : Int32)) (t1_0 := (p73.2.2.2.2.2.2.2.2.2.2.2.2.2.2.2 : (Nat → Int32))) (t2_0 := t3_0) (by decide) (by decide) ⟨⟨by omega, by omega⟩, ⟨by omega, by omega⟩⟩ (scS scG)
    with_reducible refine v_oweS h5 ?_
    generalize F_TR_sizeRead (53 : Int32) (-1074 : Int32) (0 : Int32) (p73.2.2.1 : Int32) (p73.2.2.2.1 : Int32) (p73.2.2.2.2.1 : Int32) (p73.2.2.2.2.2.1 : Int32) (p73.2.2.2.2.2.2.1 : Int32) (p73.2.2.2.2.2.2.2.1 : Int32) (p73.2.2.2.2.2.2.2.2.1 : Int64) (p73.2.2.2.2.2.2.2.2.2.1 : Int32) (p73.2.2.2.2.2.2.2.2.2.2.1 : Int32) (p73.2.2.2.2.2.2.2.2.2.2.2.1 : Int64) (p73.2.2.2.2.2.2.2.2.2.2.2.2.1 : Int64) (p73.2.2.2.2.2.2.2.2.2.2.2.2.2.1 : Int32) (p73.2.2.2.2.2.2.2.2.2.2.2.2.2.2.1 : Int32) (p73.2.2.2.2.2.2.2.2.2.2.2.2.2.2.2 : (Nat → Int32)) t3_0 = p154 at *
    unfold S_TR_bits_c31
    by_cases g6 : (p154.2.2.2.2.2.1 : Int32) = (0 : Int32)
    ·
      rw [if_pos g6]
      exact trivial
    ·
      rw [if_neg g6]
      by_cases g7 : (3 : Int32) ≤ (p154.2.2.2.1 : Int32)
      ·
        rw [if_pos g7]
        exact trivial
      ·
        rw [if_neg g7]
        exact trivial
theorem T_TR_floatBits {t0_0 : Int32} {t0_1 : Int32} {t0_2 : Int32} {t0_3 : Int32} {t0_4 : Int32} {t0_5 : Int32} {t0_6 : Int32} {t0_7 : Int64} {t0_8 : Int32} {t0_9 : Int32} {t0_10 : Int64} {t0_11 : Int64} {t0_12 : Int32} {t0_13 : Int32} {t1_0 : (Nat → Int32)} {t2_0 : (Nat → Int32)} {t3_0 : (Nat → Int32)} (ht : trT t1_0) (hl1 : 0 ≤ t0_1.toInt ∧ t0_1.toInt ≤ 4100) : (S_TR_floatBits t0_0 t0_1 t0_2 t0_3 t0_4 t0_5 t0_6 t0_7 t0_8 t0_9 t0_10 t0_11 t0_12 t0_13 t1_0 t2_0 t3_0) := by
  have e0 : (0 : Int32).toInt = 0 := rfl
  have e1 : (1 : Int32).toInt = 1 := rfl
  have eL0 : (0 : Int64).toInt = 0 := rfl
  unfold S_TR_floatBits
  have h1 := T_TR_scan (t0_0 := t0_0) (t0_1 := t0_1) (t0_2 := t0_2) (t0_3 := t0_3) (t0_4 := t0_4) (t0_5 := t0_5) (t0_6 := t0_6) (t0_7 := t0_7) (t0_8 := t0_8) (t0_9 := t0_9) (t0_10 := t0_10) (t0_11 := t0_11) (t0_12 := t0_12) (t0_13 := t0_13) (t1_0 := t1_0) (t2_0 := t2_0) ht hl1.2
  with_reducible refine v_oweS h1.1 ?_
  replace h1 := h1.2
  generalize F_TR_scan t0_0 t0_1 t0_2 t0_3 t0_4 t0_5 t0_6 t0_7 t0_8 t0_9 t0_10 t0_11 t0_12 t0_13 t1_0 t2_0 = p73 at *
  unfold Q_TR_scan at h1
  obtain ⟨scb, sc5, sc4, scS⟩ := h1
  unfold S_TR_floatBits_c2
  by_cases g2 : (p73.1 : Int32) = (0 : Int32)
  ·
    rw [if_pos g2]
    unfold S_TR_floatBits_J13
    have g3 : ¬ ((1 : Int32) ≤ (0 : Int32)) := (by decide)
    rw [if_neg g3]
    exact trivial
  ·
    rw [if_neg g2]
    have scG := g2
    unfold S_TR_floatBits_J13
    have g4 : ((0 : Int32) ≤ (0 : Int32)) := (by decide)
    rw [if_pos g4]
    have h5 := T_TR_sizeRead (x2 := (24 : Int32)) (x3 := (-149 : Int32)) (t0_0 := (0 : Int32)) (t0_1 := (p73.2.2.1 : Int32)) (t0_2 := (p73.2.2.2.1 : Int32)) (t0_3 := (p73.2.2.2.2.1 : Int32)) (t0_4 := (p73.2.2.2.2.2.1 : Int32)) (t0_5 := (p73.2.2.2.2.2.2.1 : Int32)) (t0_6 := (p73.2.2.2.2.2.2.2.1 : Int32)) (t0_7 := (p73.2.2.2.2.2.2.2.2.1 : Int64)) (t0_8 := (p73.2.2.2.2.2.2.2.2.2.1 : Int32)) (t0_9 := (p73.2.2.2.2.2.2.2.2.2.2.1 : Int32)) (t0_10 := (p73.2.2.2.2.2.2.2.2.2.2.2.1 : Int64)) (t0_11 := (p73.2.2.2.2.2.2.2.2.2.2.2.2.1 : Int64)) (t0_12 := (p73.2.2.2.2.2.2.2.2.2.2.2.2.2.1 : Int32)) (t0_13 := (p73.2.2.2.2.2.2.2.2.2.2.2.2.2.2.1 : Int32)) (t1_0 := (p73.2.2.2.2.2.2.2.2.2.2.2.2.2.2.2 : (Nat → Int32))) (t2_0 := t3_0) (by decide) (by decide) ⟨⟨by omega, by omega⟩, ⟨by omega, by omega⟩⟩ (scS scG)
    with_reducible refine v_oweS h5 ?_
    generalize F_TR_sizeRead (24 : Int32) (-149 : Int32) (0 : Int32) (p73.2.2.1 : Int32) (p73.2.2.2.1 : Int32) (p73.2.2.2.2.1 : Int32) (p73.2.2.2.2.2.1 : Int32) (p73.2.2.2.2.2.2.1 : Int32) (p73.2.2.2.2.2.2.2.1 : Int32) (p73.2.2.2.2.2.2.2.2.1 : Int64) (p73.2.2.2.2.2.2.2.2.2.1 : Int32) (p73.2.2.2.2.2.2.2.2.2.2.1 : Int32) (p73.2.2.2.2.2.2.2.2.2.2.2.1 : Int64) (p73.2.2.2.2.2.2.2.2.2.2.2.2.1 : Int64) (p73.2.2.2.2.2.2.2.2.2.2.2.2.2.1 : Int32) (p73.2.2.2.2.2.2.2.2.2.2.2.2.2.2.1 : Int32) (p73.2.2.2.2.2.2.2.2.2.2.2.2.2.2.2 : (Nat → Int32)) t3_0 = p154 at *
    unfold S_TR_floatBits_c31
    by_cases g6 : (p154.2.2.2.2.2.1 : Int32) = (0 : Int32)
    ·
      rw [if_pos g6]
      exact trivial
    ·
      rw [if_neg g6]
      by_cases g7 : (3 : Int32) ≤ (p154.2.2.2.1 : Int32)
      ·
        rw [if_pos g7]
        exact trivial
      ·
        rw [if_neg g7]
        exact trivial
