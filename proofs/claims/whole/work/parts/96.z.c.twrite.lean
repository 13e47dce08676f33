/-! TextRows: twice, writeOut -/
def Q_TR_twice (t0_1 t0_4 t0_8 : Int32) (t0_11 : Int64) (t0_13 : Int32) (p : Int32 × Int32 × Int32 × Int32 × Int32 × Int32 × Int32 × Int64 × Int32 × Int32 × Int64 × Int64 × Int32 × Int32 × (Nat → Int32)) : Prop := p.2.1 = t0_1 ∧ p.2.2.2.2.1 = t0_4 ∧ p.2.2.2.2.2.2.2.2.2.2.2.1 = t0_11 ∧ p.2.2.2.2.2.2.2.2.2.2.2.2.2.1 = t0_13 ∧ (t0_8.toInt - 1 ≤ p.2.2.2.2.2.2.2.2.1.toInt ∧ p.2.2.2.2.2.2.2.2.1.toInt ≤ 54) ∧ (54 ≤ p.2.2.2.2.2.2.2.2.2.1.toInt ∧ p.2.2.2.2.2.2.2.2.2.1.toInt ≤ 799)
theorem vt_tw2 {K_F_TR_twice_L7 : Int32 → Int32 → (Nat → Int32) → (Int32 × Int32 × Int32 × Int32 × Int32 × Int32 × Int32 × Int64 × Int32 × Int32 × Int64 × Int64 × Int32 × Int32 × (Nat → Int32))} {t0_0 : Int32} {t0_1 : Int32} {t0_2 : Int32} {t0_3 : Int32} {t0_4 : Int32} {t0_5 : Int32} {t0_6 : Int32} {t0_7 : Int64} {t0_8 : Int32} {t0_9 : Int32} {t0_10 : Int64} {t0_11 : Int64} {t0_12 : Int32} {t0_13 : Int32} {t1_0 : (Nat → Int32)} {lx27 : Int32} {lx28 : Int32} {lx29 : (Nat → Int32)} {lx44 : Int32} {lx45 : (Nat → Int32)} {K_S_TR_twice_L7 : Int32 → Int32 → (Nat → Int32) → Prop} (h8 : 1 ≤ t0_8.toInt ∧ t0_8.toInt ≤ 54) (h9 : 54 ≤ t0_9.toInt ∧ t0_9.toInt ≤ 799)(h44 : t0_8.toInt - 1 ≤ lx44.toInt ∧ lx44.toInt ≤ 54) : ∀ (n : Nat) (lx58 : Int32), (54 ≤ lx58.toInt ∧ lx58.toInt ≤ 799) → (lx58.toInt + 1 < (n : Int)) → (S_TR_twice_L71 K_S_TR_twice_L7 t0_0 t0_1 t0_2 t0_3 t0_4 t0_5 t0_6 t0_7 t0_8 t0_9 t0_10 t0_11 t0_12 t0_13 t1_0 lx27 lx28 lx29 lx44 lx45 n lx58) ∧ Q_TR_twice t0_1 t0_4 t0_8 t0_11 t0_13 (F_TR_twice_L71 K_F_TR_twice_L7 t0_0 t0_1 t0_2 t0_3 t0_4 t0_5 t0_6 t0_7 t0_8 t0_9 t0_10 t0_11 t0_12 t0_13 t1_0 lx27 lx28 lx29 lx44 lx45 n lx58) := by
  intro n
  induction n with
  | zero => intro lx58 h0 hm; exact absurd (show False by omega) id
  | succ n ih =>
    intro lx58 h0 hm
    have e0 : (0 : Int32).toInt = 0 := rfl
    have e1 : (1 : Int32).toInt = 1 := rfl
    have eL0 : (0 : Int64).toInt = 0 := rfl
    rw [S_TR_twice_L71.eq_2, F_TR_twice_L71.eq_2]
    by_cases g1 : lx58 ≤ (54 : Int32)
    ·
      rw [if_pos g1, if_pos g1]
      have g1i : lx58.toInt ≤ 54 := q_leI g1
      refine ⟨trivial, ?_⟩
      (unfold Q_TR_twice; dsimp only; exact ⟨rfl, rfl, rfl, rfl, h44, ⟨by omega, by omega⟩⟩)
    ·
      rw [if_neg g1, if_neg g1]
      have g1i : 54 < lx58.toInt := q_nleI g1
      refine v_cons (by first | omega | decide) ?_
      by_cases g2 : (lx45 lx58.toNatClampNeg : Int32) = (0 : Int32)
      ·
        rw [if_pos g2, if_pos g2]
        obtain ⟨a3, e4⟩ := q_nm (lx58 - 1 : Int32)
        rw [e4]
        have a3i : a3.toInt = lx58.toInt - 1 := by rw [← e4]; exact q_subI (x := lx58.toInt) (y := 1) rfl (by decide) (by omega) (by omega)
        exact ih _ (by first | with_reducible assumption | omega | decide) (by first | with_reducible assumption | omega | decide)
      ·
        rw [if_neg g2, if_neg g2]
        refine ⟨trivial, ?_⟩
        (unfold Q_TR_twice; dsimp only; exact ⟨rfl, rfl, rfl, rfl, h44, ⟨by omega, by omega⟩⟩)
theorem vt_tw1 {t0_0 : Int32} {t0_1 : Int32} {t0_2 : Int32} {t0_3 : Int32} {t0_4 : Int32} {t0_5 : Int32} {t0_6 : Int32} {t0_7 : Int64} {t0_8 : Int32} {t0_9 : Int32} {t0_10 : Int64} {t0_11 : Int64} {t0_12 : Int32} {t0_13 : Int32} {t1_0 : (Nat → Int32)} (h8 : 1 ≤ t0_8.toInt ∧ t0_8.toInt ≤ 54) (h9 : 54 ≤ t0_9.toInt ∧ t0_9.toInt ≤ 799) : ∀ (n : Nat) (lx27 : Int32) (lx28 : Int32) (lx29 : (Nat → Int32)), (t0_8.toInt - 1 ≤ lx27.toInt ∧ lx27.toInt ≤ t0_9.toInt) → (lx27.toInt + 1 < (n : Int)) → (S_TR_twice_L7 t0_0 t0_1 t0_2 t0_3 t0_4 t0_5 t0_6 t0_7 t0_8 t0_9 t0_10 t0_11 t0_12 t0_13 t1_0 n lx27 lx28 lx29) ∧ Q_TR_twice t0_1 t0_4 t0_8 t0_11 t0_13 (F_TR_twice_L7 t0_0 t0_1 t0_2 t0_3 t0_4 t0_5 t0_6 t0_7 t0_8 t0_9 t0_10 t0_11 t0_12 t0_13 t1_0 n lx27 lx28 lx29) := by
  intro n
  induction n with
  | zero => intro lx27 lx28 lx29 h0 hm; exact absurd (show False by omega) id
  | succ n ih =>
    intro lx27 lx28 lx29 h0 hm
    have e0 : (0 : Int32).toInt = 0 := rfl
    have e1 : (1 : Int32).toInt = 1 := rfl
    have eL0 : (0 : Int64).toInt = 0 := rfl
    rw [S_TR_twice_L7.eq_2, F_TR_twice_L7.eq_2]
    obtain ⟨t81, et81⟩ := q_nm (t0_8 - 1 : Int32)
    rw [et81]
    have t81i : t81.toInt = t0_8.toInt - 1 := by rw [← et81]; exact q_subI (y := 1) rfl (by decide) (by omega) (by omega)
    by_cases g1 : lx27 < t0_8
    ·
      rw [if_pos g1, if_pos g1]
      have g1i : lx27.toInt < t0_8.toInt := q_ltI g1
      by_cases g2 : lx28 ≤ (0 : Int32)
      ·
        rw [if_pos g2, if_pos g2]
        unfold S_TR_twice_J71 F_TR_twice_J71
        exact vt_tw2 h8 h9 ⟨by omega, by omega⟩ _ _ ⟨by omega, by omega⟩ (by omega)
      ·
        rw [if_neg g2, if_neg g2]
        refine v_cons (by first | omega | decide) ?_
        refine v_cons (by first | omega | decide) ?_
        unfold S_TR_twice_J71 F_TR_twice_J71
        exact vt_tw2 h8 h9 ⟨by omega, by omega⟩ _ _ ⟨by omega, by omega⟩ (by omega)
    ·
      rw [if_neg g1, if_neg g1]
      have g1i : t0_8.toInt ≤ lx27.toInt := q_nltI g1
      refine v_cons (by first | omega | decide) ?_
      refine v_cons (by first | omega | decide) ?_
      obtain ⟨a3, e4⟩ := q_nm (lx27 + (-1) : Int32)
      rw [e4]
      have a3i : a3.toInt = lx27.toInt + (-1) := by rw [← e4]; exact q_addI (x := lx27.toInt) (y := (-1)) rfl (by decide) (by omega) (by omega)
      exact ih _ _ _ ⟨by omega, by omega⟩ (by omega)
theorem T_TR_twice {t0_0 : Int32} {t0_1 : Int32} {t0_2 : Int32} {t0_3 : Int32} {t0_4 : Int32} {t0_5 : Int32} {t0_6 : Int32} {t0_7 : Int64} {t0_8 : Int32} {t0_9 : Int32} {t0_10 : Int64} {t0_11 : Int64} {t0_12 : Int32} {t0_13 : Int32} {t1_0 : (Nat → Int32)} (h8 : 1 ≤ t0_8.toInt ∧ t0_8.toInt ≤ 54) (h9 : 54 ≤ t0_9.toInt ∧ t0_9.toInt ≤ 799) : (S_TR_twice t0_0 t0_1 t0_2 t0_3 t0_4 t0_5 t0_6 t0_7 t0_8 t0_9 t0_10 t0_11 t0_12 t0_13 t1_0) ∧ Q_TR_twice t0_1 t0_4 t0_8 t0_11 t0_13 (F_TR_twice t0_0 t0_1 t0_2 t0_3 t0_4 t0_5 t0_6 t0_7 t0_8 t0_9 t0_10 t0_11 t0_12 t0_13 t1_0) := by
  have e0 : (0 : Int32).toInt = 0 := rfl
  have e1 : (1 : Int32).toInt = 1 := rfl
  have eL0 : (0 : Int64).toInt = 0 := rfl
  unfold S_TR_twice F_TR_twice
  exact vt_tw1 h8 h9 _ _ _ _ ⟨by omega, by omega⟩ (by omega)
/-- words into which figures are written, the next one at place a -/
def trP (w : Nat → Int32) (a : Int) : Prop := trO w ∧ (∀ i : Nat, i < 800 → a < 8 * (i : Int) → (w i).toInt = 0) ∧ (∀ i, i < 5 → (w i).toInt = 0) ∧ ∀ q e : Nat, 8 * (q : Int) + 8 = a + e → 1 ≤ e → e ≤ 8 → (w q).toInt ≤ 100000000 - 10 ^ e
theorem tr_p1 {e : Nat} (h1 : 1 ≤ e) : (10 : Int) ^ e = 10 ^ (e - 1) * 10 := by rw [← fl_pw, show e - 1 + 1 = e by omega]
theorem trP.step {w : Nat → Int32} {a W : Int} {q e : Nat} {x : Int32} (h : trP w a) (ha : 40 ≤ a) (ha2 : a ≤ 5000) (hq : 8 * (q : Int) + 8 = a + e) (h1 : 1 ≤ e) (h8 : e ≤ 8) (hW : W = 10 ^ (e - 1)) {g : Int} (hg : 0 ≤ g ∧ g ≤ 9) (hx : x.toInt = (w q).toInt + g * W) (hq8 : q < 800) : trP (upd w q x) (a + 1) := by
  obtain ⟨o, z, f, b⟩ := h
  have hb := b q e hq h1 h8
  rw [tr_p1 h1] at hb
  have p := fl_pos (B := 10) (by decide) (e - 1)
  have wq := o q hq8
  have m1 : 0 ≤ g * W := Int.mul_nonneg hg.1 (by omega)
  have m2 : g * W ≤ 9 * W := Int.mul_le_mul_of_nonneg_right hg.2 (by omega)
  rw [← hW] at hb p
  have hx2 : 0 ≤ x.toInt ∧ x.toInt ≤ 100000000 - W := by
    generalize g * W = G at *
    omega
  refine ⟨o.upd (by omega), fun i hi8 hi => ?_, fun i hi => ?_, fun q1 e1 hq1 h11 h18 => ?_⟩
  · rw [v_ne (by omega)]; exact z i hi8 (by omega)
  · rw [v_ne (by omega)]; exact f i hi
  · by_cases c : q1 = q
    · subst c
      rw [v_eq, show e1 = e - 1 by omega, ← hW]
      exact hx2.2
    · rw [v_ne c, z q1 (by omega) (by omega), show e1 = 8 by omega]
      decide
theorem trP.zero {w : Nat → Int32} {a : Int} (h : ∀ i : Nat, i < 800 → (w i).toInt = 0) (ha : 40 ≤ a ∧ a ≤ 5000) : trP w a := ⟨fun i hi => by rw [h i hi]; decide, fun i hi _ => h i hi, fun i hi => h i (by omega), fun q e h1 h2 h3 => by
  rw [h q (by omega)]
  have a := fl_mono (B := 10) (by decide) h3
  have e : (10 : Int) ^ 8 = 100000000 := by decide
  omega⟩
theorem trV_lt {w : Nat → Int32} (ho : trO w) (hz : ∀ i, i < 5 → (w i).toInt = 0) : ∀ n : Nat, n ≤ 700 → trV w (5 + n) < 100000000 ^ n
  | 0, _ => by
    have e : trV w 5 = 0 := by
      show ((((0 * 100000000 + (w 0).toInt) * 100000000 + (w 1).toInt) * 100000000 + (w 2).toInt) * 100000000 + (w 3).toInt) * 100000000 + (w 4).toInt = 0
      rw [hz 0 (by decide), hz 1 (by decide), hz 2 (by decide), hz 3 (by decide), hz 4 (by decide)]
      decide
    show trV w 5 < _
    rw [e]; decide
  | n + 1, hn => by
    have a := trV_lt ho hz n (by omega)
    have b := (ho (5 + n) (by omega)).2
    show trV w (5 + n) * 100000000 + (w (5 + n)).toInt < 100000000 ^ (n + 1)
    rw [fl_pw]
    generalize (100000000 : Int) ^ n = P at *
    omega
theorem tr_aw {x2 x3 k : Int32} (h2 : 0 ≤ x2.toInt ∧ x2.toInt ≤ 4099) (h3 : -400 ≤ x3.toInt ∧ x3.toInt ≤ 400) (hk : x2.toInt ≤ k.toInt ∧ k.toInt ≤ 4100) : ((((439 - x3 : Int32) + 1 : Int32) + k : Int32) - x2 : Int32).toInt = 440 - x3.toInt + k.toInt - x2.toInt := by
  have e1 : (439 - x3 : Int32).toInt = 439 - x3.toInt := q_subI (x := 439) (by decide) rfl (by omega) (by omega)
  have e2 : ((439 - x3 : Int32) + 1 : Int32).toInt = 439 - x3.toInt + 1 := q_addI (y := 1) e1 (by decide) (by omega) (by omega)
  have e3 : (((439 - x3 : Int32) + 1 : Int32) + k : Int32).toInt = 439 - x3.toInt + 1 + k.toInt := q_addI e2 rfl (by omega) (by omega)
  have e4 : ((((439 - x3 : Int32) + 1 : Int32) + k : Int32) - x2 : Int32).toInt = 439 - x3.toInt + 1 + k.toInt - x2.toInt := q_subI e3 rfl (by omega) (by omega)
  rw [e4]; omega
theorem tr_8 {a : Int32} (h : 0 ≤ a.toInt) : (a / 8).toInt = a.toInt / 8 ∧ (a - a / 8 * 8 : Int32).toInt = a.toInt % 8 := by
  have e := s_rem (x := a) (b := 8) h (by decide)
  have e8 : (8 : Int32).toInt = 8 := rfl
  rw [e8] at e
  exact ⟨q_divI rfl (by decide) h (by decide), e⟩
theorem tr_fw {v f w : Int32} {e : Nat} (hv : 0 ≤ v.toInt ∧ v.toInt < 100000000) (hf : 0 ≤ f.toInt ∧ f.toInt ≤ 9) (he : e ≤ 7) (hw : w.toInt = 10 ^ e) : (v + f * w : Int32).toInt = v.toInt + f.toInt * w.toInt := by
  have a := fl_mono (B := 10) (by decide) he
  have b := fl_pos (B := 10) (by decide) e
  have c : (10 : Int) ^ 7 = 10000000 := by decide
  rw [c, ← hw] at a
  rw [← hw] at b
  have m1 : 0 ≤ f.toInt * w.toInt := Int.mul_nonneg hf.1 (by omega)
  have m2 : f.toInt * w.toInt ≤ 9 * w.toInt := Int.mul_le_mul_of_nonneg_right hf.2 (by omega)
  have e1 : (f * w : Int32).toInt = f.toInt * w.toInt := q_mulI rfl rfl (by omega) (by omega)
  exact q_addI rfl e1 (by omega) (by omega)
theorem tr_w10 {w : Int32} {j : Nat} (hj : j ≤ 7) (hw : w.toInt = 10 ^ j) : (w * 10 : Int32).toInt = 10 ^ (j + 1) := by
  have a := fl_mono (B := 10) (by decide) hj
  have b := fl_pos (B := 10) (by decide) j
  have c : (10 : Int) ^ 7 = 10000000 := by decide
  rw [c, ← hw] at a
  rw [← hw] at b
  have e : (w * 10 : Int32).toInt = w.toInt * 10 := q_mulI (y := 10) rfl (by decide) (by omega) (by omega)
  rw [e, fl_pw, hw]
def Q_TR_writeOut (t0_1 t0_4 t0_13 : Int32) (p : Int32 × Int32 × Int32 × Int32 × Int32 × Int32 × Int32 × Int64 × Int32 × Int32 × Int64 × Int64 × Int32 × Int32 × (Nat → Int32)) : Prop := p.2.1 = t0_1 ∧ p.2.2.2.2.1 = t0_4 ∧ p.2.2.2.2.2.2.2.2.2.2.2.2.2.1 = t0_13 ∧ (0 ≤ p.2.2.2.2.2.2.2.2.1.toInt ∧ p.2.2.2.2.2.2.2.2.1.toInt ≤ 54) ∧ (54 ≤ p.2.2.2.2.2.2.2.2.2.1.toInt ∧ p.2.2.2.2.2.2.2.2.2.1.toInt ≤ 617) ∧ trO p.2.2.2.2.2.2.2.2.2.2.2.2.2.2 ∧ (∀ i : Nat, (i : Int) < p.2.2.2.2.2.2.2.2.1.toInt → p.2.2.2.2.2.2.2.2.2.2.2.2.2.2 i = 0) ∧ (p.2.2.2.2.2.2.2.2.1.toInt = 54 ∨ (p.2.2.2.2.2.2.2.2.2.2.2.2.2.2 p.2.2.2.2.2.2.2.2.1.toNatClampNeg).toInt ≠ 0) ∧ trV p.2.2.2.2.2.2.2.2.2.2.2.2.2.2 55 < 100000000 ^ 50
theorem vt_wo5 {K_F_TR_writeOut_L2 : Int32 → (Nat → Int32) → (Int32 × Int32 × Int32 × Int32 × Int32 × Int32 × Int32 × Int64 × Int32 × Int32 × Int64 × Int64 × Int32 × Int32 × (Nat → Int32))} {K_F_TR_writeOut_L29 : Int32 → (Nat → Int32) → (Int32 × Int32 × Int32 × Int32 × Int32 × Int32 × Int32 × Int64 × Int32 × Int32 × Int64 × Int64 × Int32 × Int32 × (Nat → Int32))} {K_F_TR_writeOut_L130 : Int32 → (Int32 × Int32 × Int32 × Int32 × Int32 × Int32 × Int32 × Int64 × Int32 × Int32 × Int64 × Int64 × Int32 × Int32 × (Nat → Int32))} {x2 : Int32} {x3 : Int32} {t0_0 : Int32} {t0_1 : Int32} {t0_2 : Int32} {t0_3 : Int32} {t0_4 : Int32} {t0_5 : Int32} {t0_6 : Int32} {t0_7 : Int64} {t0_8 : Int32} {t0_9 : Int32} {t0_10 : Int64} {t0_11 : Int64} {t0_12 : Int32} {t0_13 : Int32} {t1_0 : (Nat → Int32)} {t2_0 : (Nat → Int32)} {lx26 : Int32} {lx27 : (Nat → Int32)} {lx43 : Int32} {lx44 : (Nat → Int32)} {lx62 : Int32} {K_S_TR_writeOut_L2 : Int32 → (Nat → Int32) → Prop} {K_S_TR_writeOut_L29 : Int32 → (Nat → Int32) → Prop} {K_S_TR_writeOut_L130 : Int32 → Prop} (hx2 : 0 ≤ x2.toInt ∧ x2.toInt ≤ 4099) (hx3 : -400 ≤ x3.toInt ∧ x3.toInt ≤ 400) (h5 : x2.toInt ≤ t0_5.toInt ∧ t0_5.toInt ≤ 4100) (hF : ∀ i : Nat, (i : Int) < t0_5.toInt → 0 ≤ (t1_0 i).toInt ∧ (t1_0 i).toInt ≤ 9)(ho : trO lx44) (hz5 : ∀ i, i < 5 → (lx44 i).toInt = 0) (hz6 : ∀ i : Nat, i < 800 → 618 ≤ i → (lx44 i).toInt = 0)(h62 : 0 ≤ lx62.toInt ∧ lx62.toInt ≤ 54) (hb : ∀ i : Nat, (i : Int) < lx62.toInt → lx44 i = 0) (hn : lx62.toInt = 54 ∨ (lx44 lx62.toNatClampNeg).toInt ≠ 0) : ∀ (n : Nat) (lx84 : Int32), (54 ≤ lx84.toInt ∧ lx84.toInt ≤ 799) → (lx84.toInt + 1 < (n : Int)) → (S_TR_writeOut_L164 K_S_TR_writeOut_L2 K_S_TR_writeOut_L29 K_S_TR_writeOut_L130 x2 x3 t0_0 t0_1 t0_2 t0_3 t0_4 t0_5 t0_6 t0_7 t0_8 t0_9 t0_10 t0_11 t0_12 t0_13 t1_0 t2_0 lx26 lx27 lx43 lx44 lx62 n lx84) ∧ Q_TR_writeOut t0_1 t0_4 t0_13 (F_TR_writeOut_L164 K_F_TR_writeOut_L2 K_F_TR_writeOut_L29 K_F_TR_writeOut_L130 x2 x3 t0_0 t0_1 t0_2 t0_3 t0_4 t0_5 t0_6 t0_7 t0_8 t0_9 t0_10 t0_11 t0_12 t0_13 t1_0 t2_0 lx26 lx27 lx43 lx44 lx62 n lx84) := by
  intro n
  induction n with
  | zero => intro lx84 h0 hm; exact absurd (show False by omega) id
  | succ n ih =>
    intro lx84 h0 hm
    have e0 : (0 : Int32).toInt = 0 := rfl
    have e1 : (1 : Int32).toInt = 1 := rfl
    have eL0 : (0 : Int64).toInt = 0 := rfl
    have e84 := q_clI (i := lx84) rfl (by omega)
    rw [S_TR_writeOut_L164.eq_2, F_TR_writeOut_L164.eq_2]
    by_cases g1 : lx84 ≤ (54 : Int32)
    ·
      rw [if_pos g1, if_pos g1]
      have g1i : lx84.toInt ≤ 54 := q_leI g1
      refine ⟨trivial, ?_⟩
      (unfold Q_TR_writeOut; dsimp only; exact ⟨rfl, rfl, rfl, h62, ⟨by omega, by omega⟩, ho, hb, hn, trV_lt ho hz5 50 (by decide)⟩)
    ·
      rw [if_neg g1, if_neg g1]
      have g1i : 54 < lx84.toInt := q_nleI g1
      by_cases g2 : (lx44 lx84.toNatClampNeg : Int32) = (0 : Int32)
      ·
        rw [if_pos g2, if_pos g2]
        obtain ⟨a3, e4⟩ := q_nm (lx84 - 1 : Int32)
        rw [e4]
        have a3i : a3.toInt = lx84.toInt - 1 := by rw [← e4]; exact q_subI (x := lx84.toInt) (y := 1) rfl (by decide) (by omega) (by omega)
        exact ih _ (by first | with_reducible assumption | omega | decide) (by first | with_reducible assumption | omega | decide)
      ·
        rw [if_neg g2, if_neg g2]
        refine ⟨trivial, ?_⟩
        (unfold Q_TR_writeOut; dsimp only; exact ⟨rfl, rfl, rfl, h62, ⟨by omega, Int.not_lt.mp (fun h => absurd (hz6 lx84.toNatClampNeg (by omega) (by omega)) (q_neI g2))⟩, ho, hb, hn, trV_lt ho hz5 50 (by decide)⟩)
theorem vt_wo4 {K_F_TR_writeOut_L2 : Int32 → (Nat → Int32) → (Int32 × Int32 × Int32 × Int32 × Int32 × Int32 × Int32 × Int64 × Int32 × Int32 × Int64 × Int64 × Int32 × Int32 × (Nat → Int32))} {K_F_TR_writeOut_L29 : Int32 → (Nat → Int32) → (Int32 × Int32 × Int32 × Int32 × Int32 × Int32 × Int32 × Int64 × Int32 × Int32 × Int64 × Int64 × Int32 × Int32 × (Nat → Int32))} {x2 : Int32} {x3 : Int32} {t0_0 : Int32} {t0_1 : Int32} {t0_2 : Int32} {t0_3 : Int32} {t0_4 : Int32} {t0_5 : Int32} {t0_6 : Int32} {t0_7 : Int64} {t0_8 : Int32} {t0_9 : Int32} {t0_10 : Int64} {t0_11 : Int64} {t0_12 : Int32} {t0_13 : Int32} {t1_0 : (Nat → Int32)} {t2_0 : (Nat → Int32)} {lx26 : Int32} {lx27 : (Nat → Int32)} {lx43 : Int32} {lx44 : (Nat → Int32)} {K_S_TR_writeOut_L2 : Int32 → (Nat → Int32) → Prop} {K_S_TR_writeOut_L29 : Int32 → (Nat → Int32) → Prop} (hx2 : 0 ≤ x2.toInt ∧ x2.toInt ≤ 4099) (hx3 : -400 ≤ x3.toInt ∧ x3.toInt ≤ 400) (h5 : x2.toInt ≤ t0_5.toInt ∧ t0_5.toInt ≤ 4100) (hF : ∀ i : Nat, (i : Int) < t0_5.toInt → 0 ≤ (t1_0 i).toInt ∧ (t1_0 i).toInt ≤ 9)(ho : trO lx44) (hz5 : ∀ i, i < 5 → (lx44 i).toInt = 0) (hz6 : ∀ i : Nat, i < 800 → 618 ≤ i → (lx44 i).toInt = 0) : ∀ (n : Nat) (lx62 : Int32), (0 ≤ lx62.toInt ∧ lx62.toInt ≤ 54) → (54 - lx62.toInt < (n : Int)) → (∀ i : Nat, (i : Int) < lx62.toInt → lx44 i = 0) → (S_TR_writeOut_L130 K_S_TR_writeOut_L2 K_S_TR_writeOut_L29 x2 x3 t0_0 t0_1 t0_2 t0_3 t0_4 t0_5 t0_6 t0_7 t0_8 t0_9 t0_10 t0_11 t0_12 t0_13 t1_0 t2_0 lx26 lx27 lx43 lx44 n lx62) ∧ Q_TR_writeOut t0_1 t0_4 t0_13 (F_TR_writeOut_L130 K_F_TR_writeOut_L2 K_F_TR_writeOut_L29 x2 x3 t0_0 t0_1 t0_2 t0_3 t0_4 t0_5 t0_6 t0_7 t0_8 t0_9 t0_10 t0_11 t0_12 t0_13 t1_0 t2_0 lx26 lx27 lx43 lx44 n lx62) := by
  intro n
  induction n with
  | zero => intro lx62 h0 hm hb; exact absurd (show False by omega) id
  | succ n ih =>
    intro lx62 h0 hm hb
    have e0 : (0 : Int32).toInt = 0 := rfl
    have e1 : (1 : Int32).toInt = 1 := rfl
    have eL0 : (0 : Int64).toInt = 0 := rfl
    have e62 := q_clI (i := lx62) rfl h0.1
    rw [S_TR_writeOut_L130.eq_2, F_TR_writeOut_L130.eq_2]
    by_cases g1 : (54 : Int32) ≤ lx62
    ·
      rw [if_pos g1, if_pos g1]
      have g1i : 54 ≤ lx62.toInt := q_leI g1
      unfold S_TR_writeOut_J164 F_TR_writeOut_J164
      exact vt_wo5 hx2 hx3 h5 hF ho hz5 hz6 ⟨by omega, by omega⟩ hb (Or.inl (by omega)) _ _ ⟨by decide, by decide⟩ (by decide)
    ·
      rw [if_neg g1, if_neg g1]
      have g1i : lx62.toInt < 54 := q_nleI g1
      by_cases g2 : (lx44 lx62.toNatClampNeg : Int32) = (0 : Int32)
      ·
        rw [if_pos g2, if_pos g2]
        obtain ⟨a3, e4⟩ := q_nm (lx62 + 1 : Int32)
        rw [e4]
        have a3i : a3.toInt = lx62.toInt + 1 := by rw [← e4]; exact q_addI (x := lx62.toInt) (y := 1) rfl (by decide) (by omega) (by omega)
        exact ih _ ⟨by omega, by omega⟩ (by omega) (fun i hi => by by_cases c : i = lx62.toNatClampNeg; (rw [c]; exact g2); exact hb i (by omega))
      ·
        rw [if_neg g2, if_neg g2]
        unfold S_TR_writeOut_J164 F_TR_writeOut_J164
        exact vt_wo5 hx2 hx3 h5 hF ho hz5 hz6 ⟨by omega, by omega⟩ hb (Or.inr (q_neI g2)) _ _ ⟨by decide, by decide⟩ (by decide)
theorem vt_wo3 {K_F_TR_writeOut_L2 : Int32 → (Nat → Int32) → (Int32 × Int32 × Int32 × Int32 × Int32 × Int32 × Int32 × Int64 × Int32 × Int32 × Int64 × Int64 × Int32 × Int32 × (Nat → Int32))} {K_F_TR_writeOut_L29 : Int32 → (Nat → Int32) → (Int32 × Int32 × Int32 × Int32 × Int32 × Int32 × Int32 × Int64 × Int32 × Int32 × Int64 × Int64 × Int32 × Int32 × (Nat → Int32))} {x2 : Int32} {x3 : Int32} {t0_0 : Int32} {t0_1 : Int32} {t0_2 : Int32} {t0_3 : Int32} {t0_4 : Int32} {t0_5 : Int32} {t0_6 : Int32} {t0_7 : Int64} {t0_8 : Int32} {t0_9 : Int32} {t0_10 : Int64} {t0_11 : Int64} {t0_12 : Int32} {t0_13 : Int32} {t1_0 : (Nat → Int32)} {t2_0 : (Nat → Int32)} {lx26 : Int32} {lx27 : (Nat → Int32)} {lx43 : Int32} {lx44 : (Nat → Int32)} {a132 : Int32} {K_S_TR_writeOut_L2 : Int32 → (Nat → Int32) → Prop} {K_S_TR_writeOut_L29 : Int32 → (Nat → Int32) → Prop} (hx2 : 0 ≤ x2.toInt ∧ x2.toInt ≤ 4099) (hx3 : -400 ≤ x3.toInt ∧ x3.toInt ≤ 400) (h5 : x2.toInt ≤ t0_5.toInt ∧ t0_5.toInt ≤ 4100) (hF : ∀ i : Nat, (i : Int) < t0_5.toInt → 0 ≤ (t1_0 i).toInt ∧ (t1_0 i).toInt ≤ 9){a : Int} {q e : Nat} (hP : trP lx44 a) (ha : 40 ≤ a ∧ a ≤ 4999) (hq : 8 * (q : Int) + 8 = a + e) (he : 1 ≤ e ∧ e ≤ 8) (h132 : a132.toInt = (q : Int)) (h43 : x2.toInt ≤ lx43.toInt ∧ lx43.toInt < t0_5.toInt) (hK : ∀ r : Nat → Int32, trP r (a + 1) → K_S_TR_writeOut_L29 (lx43 + 1) r ∧ Q_TR_writeOut t0_1 t0_4 t0_13 (K_F_TR_writeOut_L29 (lx43 + 1) r)) : ∀ (n : Nat) (lx141 : Int32) (lx142 : Int32), (0 ≤ lx141.toInt ∧ lx141.toInt ≤ 7) → (7 - lx141.toInt < (n : Int)) → (∃ j : Nat, (j : Int) = lx141.toInt - (8 - (e : Int)) ∧ lx142.toInt = 10 ^ j) → (S_TR_writeOut_L67 K_S_TR_writeOut_L2 K_S_TR_writeOut_L29 x2 x3 t0_0 t0_1 t0_2 t0_3 t0_4 t0_5 t0_6 t0_7 t0_8 t0_9 t0_10 t0_11 t0_12 t0_13 t1_0 t2_0 lx26 lx27 lx43 lx44 a132 n lx141 lx142) ∧ Q_TR_writeOut t0_1 t0_4 t0_13 (F_TR_writeOut_L67 K_F_TR_writeOut_L2 K_F_TR_writeOut_L29 x2 x3 t0_0 t0_1 t0_2 t0_3 t0_4 t0_5 t0_6 t0_7 t0_8 t0_9 t0_10 t0_11 t0_12 t0_13 t1_0 t2_0 lx26 lx27 lx43 lx44 a132 n lx141 lx142) := by
  intro n
  induction n with
  | zero => intro lx141 lx142 h0 hm hW; exact absurd (show False by omega) id
  | succ n ih =>
    intro lx141 lx142 h0 hm hW
    have e0 : (0 : Int32).toInt = 0 := rfl
    have e1 : (1 : Int32).toInt = 1 := rfl
    have eL0 : (0 : Int64).toInt = 0 := rfl
    have e132 := q_clI (i := a132) rfl (by omega)
    have e43 := q_clI (i := lx43) rfl (by omega)
    rw [S_TR_writeOut_L67.eq_2, F_TR_writeOut_L67.eq_2]
    by_cases g1 : (7 : Int32) ≤ lx141
    ·
      rw [if_pos g1, if_pos g1]
      have g1i : 7 ≤ lx141.toInt := q_leI g1
      refine v_cons (by first | omega | decide) ?_
      refine v_cons (by first | omega | decide) ?_
      refine v_cons (by first | omega | decide) ?_
      refine v_cons (by first | omega | decide) ?_
      obtain ⟨j, j1, j2⟩ := hW; have eq : a132.toNatClampNeg = q := by omega
      have wv := hP.1 a132.toNatClampNeg (by omega)
      have fv := hF lx43.toNatClampNeg (by omega)
      exact hK _ (by rw [eq] at wv ⊢; exact hP.step ha.1 (by omega) hq he.1 he.2 (by rw [j2, show j = e - 1 by omega]) fv (tr_fw wv fv (e := j) (by omega) j2) (by omega))
    ·
      rw [if_neg g1, if_neg g1]
      have g1i : lx141.toInt < 7 := q_nleI g1
      obtain ⟨a2, e3⟩ := q_nm (lx141 + 1 : Int32)
      rw [e3]
      have a2i : a2.toInt = lx141.toInt + 1 := by rw [← e3]; exact q_addI (x := lx141.toInt) (y := 1) rfl (by decide) (by omega) (by omega)
      obtain ⟨j, j1, j2⟩ := hW; exact ih _ _ ⟨by omega, by omega⟩ (by omega) ⟨j + 1, by omega, tr_w10 (by omega) j2⟩
theorem vt_wo2 {K_F_TR_writeOut_L2 : Int32 → (Nat → Int32) → (Int32 × Int32 × Int32 × Int32 × Int32 × Int32 × Int32 × Int64 × Int32 × Int32 × Int64 × Int64 × Int32 × Int32 × (Nat → Int32))} {x2 : Int32} {x3 : Int32} {t0_0 : Int32} {t0_1 : Int32} {t0_2 : Int32} {t0_3 : Int32} {t0_4 : Int32} {t0_5 : Int32} {t0_6 : Int32} {t0_7 : Int64} {t0_8 : Int32} {t0_9 : Int32} {t0_10 : Int64} {t0_11 : Int64} {t0_12 : Int32} {t0_13 : Int32} {t1_0 : (Nat → Int32)} {t2_0 : (Nat → Int32)} {lx26 : Int32} {lx27 : (Nat → Int32)} {K_S_TR_writeOut_L2 : Int32 → (Nat → Int32) → Prop} (hx2 : 0 ≤ x2.toInt ∧ x2.toInt ≤ 4099) (hx3 : -400 ≤ x3.toInt ∧ x3.toInt ≤ 400) (h5 : x2.toInt ≤ t0_5.toInt ∧ t0_5.toInt ≤ 4100) (hF : ∀ i : Nat, (i : Int) < t0_5.toInt → 0 ≤ (t1_0 i).toInt ∧ (t1_0 i).toInt ≤ 9) : ∀ (n : Nat) (lx43 : Int32) (lx44 : (Nat → Int32)), (x2.toInt ≤ lx43.toInt ∧ lx43.toInt ≤ t0_5.toInt) → (4100 - lx43.toInt < (n : Int)) → (trP lx44 (440 - x3.toInt + lx43.toInt - x2.toInt)) → (S_TR_writeOut_L29 K_S_TR_writeOut_L2 x2 x3 t0_0 t0_1 t0_2 t0_3 t0_4 t0_5 t0_6 t0_7 t0_8 t0_9 t0_10 t0_11 t0_12 t0_13 t1_0 t2_0 lx26 lx27 n lx43 lx44) ∧ Q_TR_writeOut t0_1 t0_4 t0_13 (F_TR_writeOut_L29 K_F_TR_writeOut_L2 x2 x3 t0_0 t0_1 t0_2 t0_3 t0_4 t0_5 t0_6 t0_7 t0_8 t0_9 t0_10 t0_11 t0_12 t0_13 t1_0 t2_0 lx26 lx27 n lx43 lx44) := by
  intro n
  induction n with
  | zero => intro lx43 lx44 h0 hm hP; exact absurd (show False by omega) id
  | succ n ih =>
    intro lx43 lx44 h0 hm hP
    have e0 : (0 : Int32).toInt = 0 := rfl
    have e1 : (1 : Int32).toInt = 1 := rfl
    have eL0 : (0 : Int64).toInt = 0 := rfl
    rw [S_TR_writeOut_L29.eq_2, F_TR_writeOut_L29.eq_2]
    obtain ⟨aw, eaw⟩ := q_nm ((((439 - x3 : Int32) + 1 : Int32) + lx43 : Int32) - x2 : Int32)
    have awi : aw.toInt = 440 - x3.toInt + lx43.toInt - x2.toInt := by rw [← eaw]; exact tr_aw hx2 hx3 ⟨by omega, by omega⟩
    rw [eaw]
    rw [← awi] at hP
    by_cases g1 : t0_5 ≤ lx43
    ·
      rw [if_pos g1, if_pos g1]
      have g1i : t0_5.toInt ≤ lx43.toInt := q_leI g1
      exact vt_wo4 hx2 hx3 h5 hF hP.1 hP.2.2.1 (fun i h1 h2 => hP.2.1 i h1 (by omega)) _ _ ⟨by decide, by decide⟩ (by decide) (fun i hi => by omega)
    ·
      rw [if_neg g1, if_neg g1]
      have g1i : lx43.toInt < t0_5.toInt := q_nleI g1
      have r8 := tr_8 (a := aw) (by omega); have e5 : (lx43 + 1 : Int32).toInt = lx43.toInt + 1 := q_addI (y := 1) rfl (by decide) (by omega) (by omega); exact vt_wo3 hx2 hx3 h5 hF (a := aw.toInt) (q := (aw.toInt / 8).toNat) (e := (8 - aw.toInt % 8).toNat) hP ⟨by omega, by omega⟩ (by omega) ⟨by omega, by omega⟩ (by omega) ⟨by omega, by omega⟩ (fun r h => ih _ r ⟨by omega, by omega⟩ (by omega) (by rw [show 440 - x3.toInt + (lx43 + 1 : Int32).toInt - x2.toInt = aw.toInt + 1 by omega]; exact h)) _ _ _ ⟨by omega, by omega⟩ (by omega) ⟨0, by omega, by decide⟩
theorem vt_wo1 {x2 : Int32} {x3 : Int32} {t0_0 : Int32} {t0_1 : Int32} {t0_2 : Int32} {t0_3 : Int32} {t0_4 : Int32} {t0_5 : Int32} {t0_6 : Int32} {t0_7 : Int64} {t0_8 : Int32} {t0_9 : Int32} {t0_10 : Int64} {t0_11 : Int64} {t0_12 : Int32} {t0_13 : Int32} {t1_0 : (Nat → Int32)} {t2_0 : (Nat → Int32)} (hx2 : 0 ≤ x2.toInt ∧ x2.toInt ≤ 4099) (hx3 : -400 ≤ x3.toInt ∧ x3.toInt ≤ 400) (h5 : x2.toInt ≤ t0_5.toInt ∧ t0_5.toInt ≤ 4100) (hF : ∀ i : Nat, (i : Int) < t0_5.toInt → 0 ≤ (t1_0 i).toInt ∧ (t1_0 i).toInt ≤ 9) : ∀ (n : Nat) (lx26 : Int32) (lx27 : (Nat → Int32)), (0 ≤ lx26.toInt ∧ lx26.toInt ≤ 800) → (800 - lx26.toInt < (n : Int)) → (∀ i : Nat, (i : Int) < lx26.toInt → (lx27 i).toInt = 0) → (S_TR_writeOut_L2 x2 x3 t0_0 t0_1 t0_2 t0_3 t0_4 t0_5 t0_6 t0_7 t0_8 t0_9 t0_10 t0_11 t0_12 t0_13 t1_0 t2_0 n lx26 lx27) ∧ Q_TR_writeOut t0_1 t0_4 t0_13 (F_TR_writeOut_L2 x2 x3 t0_0 t0_1 t0_2 t0_3 t0_4 t0_5 t0_6 t0_7 t0_8 t0_9 t0_10 t0_11 t0_12 t0_13 t1_0 t2_0 n lx26 lx27) := by
  intro n
  induction n with
  | zero => intro lx26 lx27 h0 hm ho; exact absurd (show False by omega) id
  | succ n ih =>
    intro lx26 lx27 h0 hm ho
    have e0 : (0 : Int32).toInt = 0 := rfl
    have e1 : (1 : Int32).toInt = 1 := rfl
    have eL0 : (0 : Int64).toInt = 0 := rfl
    have e26 := q_clI (i := lx26) rfl h0.1
    rw [S_TR_writeOut_L2.eq_2, F_TR_writeOut_L2.eq_2]
    by_cases g1 : (800 : Int32) ≤ lx26
    ·
      rw [if_pos g1, if_pos g1]
      have g1i : 800 ≤ lx26.toInt := q_leI g1
      exact vt_wo2 hx2 hx3 h5 hF _ _ _ ⟨by omega, by omega⟩ (by omega) (trP.zero (fun i hi => ho i (by omega)) ⟨by omega, by omega⟩)
    ·
      rw [if_neg g1, if_neg g1]
      have g1i : lx26.toInt < 800 := q_nleI g1
      obtain ⟨a2, e3⟩ := q_nm (lx26 + 1 : Int32)
      rw [e3]
      have a2i : a2.toInt = lx26.toInt + 1 := by rw [← e3]; exact q_addI (x := lx26.toInt) (y := 1) rfl (by decide) (by omega) (by omega)
      exact ih _ _ ⟨by omega, by omega⟩ (by omega) (fun i hi => by by_cases c : i = lx26.toNatClampNeg; (rw [c, v_eq]; rfl); rw [v_ne c]; exact ho i (by omega))
theorem T_TR_writeOut {x2 : Int32} {x3 : Int32} {t0_0 : Int32} {t0_1 : Int32} {t0_2 : Int32} {t0_3 : Int32} {t0_4 : Int32} {t0_5 : Int32} {t0_6 : Int32} {t0_7 : Int64} {t0_8 : Int32} {t0_9 : Int32} {t0_10 : Int64} {t0_11 : Int64} {t0_12 : Int32} {t0_13 : Int32} {t1_0 : (Nat → Int32)} {t2_0 : (Nat → Int32)} (hx2 : 0 ≤ x2.toInt ∧ x2.toInt ≤ 4099) (hx3 : -400 ≤ x3.toInt ∧ x3.toInt ≤ 400) (h5 : x2.toInt ≤ t0_5.toInt ∧ t0_5.toInt ≤ 4100) (hF : ∀ i : Nat, (i : Int) < t0_5.toInt → 0 ≤ (t1_0 i).toInt ∧ (t1_0 i).toInt ≤ 9) : (S_TR_writeOut x2 x3 t0_0 t0_1 t0_2 t0_3 t0_4 t0_5 t0_6 t0_7 t0_8 t0_9 t0_10 t0_11 t0_12 t0_13 t1_0 t2_0) ∧ Q_TR_writeOut t0_1 t0_4 t0_13 (F_TR_writeOut x2 x3 t0_0 t0_1 t0_2 t0_3 t0_4 t0_5 t0_6 t0_7 t0_8 t0_9 t0_10 t0_11 t0_12 t0_13 t1_0 t2_0) := by
  have e0 : (0 : Int32).toInt = 0 := rfl
  have e1 : (1 : Int32).toInt = 1 := rfl
  have eL0 : (0 : Int64).toInt = 0 := rfl
  unfold S_TR_writeOut F_TR_writeOut
  exact vt_wo1 hx2 hx3 h5 hF _ _ _ ⟨by decide, by decide⟩ (by decide) (fun i hi => by omega)
