/-! values: Reader 1 -/
theorem v_at {x : Int64} {t0 : Int32} {t1 : Nat → Int64} : S_She_at 4100 513 4100 x t0 t1 := by
  unfold S_She_at
  split
  · trivial
  · rename_i h1
    split
    · trivial
    · split
      · rename_i h3
        have h1' := q_k2 h1
        have h3' := q_k1 h3
        have e0 : (0 : Int64).toInt = 0 := rfl
        have e4 : (4100 : Int32).toInt64.toInt = 4100 := rfl
        have e5 : (513 : Int32).toInt = 513 := rfl
        have l := s_l2i (x := x) (by omega) (by omega)
        have s := s_shr (x := x.toInt32) (c := 3) 3 (by decide) (by decide) (by omega)
        rw [s, l]
        exact ⟨by omega, by omega, trivial⟩
      · trivial
theorem v_here {t0_0 t0_1 t0_9 : Int64} {t0_2 t0_3 t0_4 t0_5 t0_6 t0_7 t0_8 t1_0 : Int32} {t2_0 : Nat → Int64} : S_Rea_here t0_0 t0_1 t0_2 t0_3 t0_4 t0_5 t0_6 t0_7 t0_8 t0_9 t1_0 t2_0 := by
  unfold S_Rea_here
  split
  · trivial
  · exact ⟨⟨trivial, v_at⟩, trivial⟩
theorem v_dig {t0_0 t0_1 t0_9 : Int64} {t0_2 t0_3 t0_4 t0_5 t0_6 t0_7 t0_8 t1_0 : Int32} {t2_0 : Nat → Int64} : S_Rea_digitHere t0_0 t0_1 t0_2 t0_3 t0_4 t0_5 t0_6 t0_7 t0_8 t0_9 t1_0 t2_0 := by
  unfold S_Rea_digitHere
  refine ⟨⟨trivial, v_here⟩, ?_⟩
  have J : ∀ a : Int32, S_Rea_digitHere_J22 t0_0 t0_1 t0_2 t0_3 t0_4 t0_5 t0_6 t0_7 t0_8 t0_9 t1_0 t2_0 a := by
    intro a
    unfold S_Rea_digitHere_J22
    split
    · trivial
    · split <;> trivial
  split
  · exact J _
  · split
    · exact J _
    · trivial
theorem v_digB {t0_0 t0_1 t0_9 : Int64} {t0_2 t0_3 t0_4 t0_5 t0_6 t0_7 t0_8 t1_0 : Int32} {t2_0 : Nat → Int64} : 0 ≤ (F_Rea_digitHere t0_0 t0_1 t0_2 t0_3 t0_4 t0_5 t0_6 t0_7 t0_8 t0_9 t1_0 t2_0).toInt := by
  have J : ∀ a : Int32, 0 ≤ (F_Rea_digitHere_J22 t0_0 t0_1 t0_2 t0_3 t0_4 t0_5 t0_6 t0_7 t0_8 t0_9 t1_0 t2_0 a).toInt := by
    intro a
    unfold F_Rea_digitHere_J22
    generalize (a ||| 32 : Int32) = y
    have c1 : (97 : Int32).toInt = 97 := rfl
    have c2 : (122 : Int32).toInt = 122 := rfl
    have c3 : (10 : Int32).toInt = 10 := rfl
    split
    · decide
    · rename_i h1
      have h1' := q_nltI h1
      split
      · decide
      · rename_i h2
        have h2' := q_nltI h2
        have q1 : (y - 97 : Int32).toInt = y.toInt - 97 := q_subI rfl c1 (by omega) (by omega)
        have q2 : (y - 97 + 10 : Int32).toInt = y.toInt - 97 + 10 := q_addI q1 c3 (by omega) (by omega)
        rw [q2]
        omega
  unfold F_Rea_digitHere
  split
  · exact J _
  · rename_i h1
    have h1' := q_nltI h1
    split
    · exact J _
    · rename_i h2
      have h2' := q_nltI h2
      have c1 : (48 : Int32).toInt = 48 := rfl
      have c2 : (57 : Int32).toInt = 57 := rfl
      generalize F_Rea_here t0_0 t0_1 t0_2 t0_3 t0_4 t0_5 t0_6 t0_7 t0_8 t0_9 t1_0 t2_0 = c at h1' h2' ⊢
      have q1 : (c - 48 : Int32).toInt = c.toInt - 48 := q_subI rfl c1 (by omega) (by omega)
      rw [q1]
      omega
theorem v_kf {v d : Int} {b k : Nat} (hv : 0 ≤ v) (hlt : v.natAbs < b ^ k) (d0 : 0 ≤ d) (hd : d < (b : Int)) : ((b : Int) * v + d).natAbs < b ^ (k + 1) := by
  rw [Nat.pow_succ]
  have e1 : v = (v.natAbs : Int) := by omega
  have e2 : d = (d.natAbs : Int) := by omega
  generalize v.natAbs = a at e1 hlt
  generalize d.natAbs = c at e2
  subst e1
  subst e2
  have h1 : b * (a + 1) ≤ b * b ^ k := Nat.mul_le_mul_left _ hlt
  rw [Nat.mul_add, Nat.mul_one] at h1
  rw [← Int.natCast_mul, ← Int.natCast_add, Int.natAbs_natCast, Nat.mul_comm (b ^ k) b]
  omega
theorem T_keepFigure {x2 : Int32} {x3 : Int32} {x4 : Int32} {t0_0 : Int64} {t0_1 : Int64} {t0_2 : Int32} {t0_3 : Int32} {t0_4 : Int32} {t0_5 : Int32} {t0_6 : Int32} {t0_7 : Int32} {t0_8 : Int32} {t0_9 : Int64} {t1_0 : Int32} {t1_1 : Int32} {t2_0 : (Nat → Int32)} {v : Int} {k m b M : Nat} (h : bO 220 t1_0 t1_1 t2_0 v) (hv : 0 ≤ v) (hb : x2.toInt = (b : Int)) (hb2 : 2 ≤ b) (hd0 : 0 ≤ x3.toInt) (hd : x3.toInt < x2.toInt) (hm : x4.toInt = (m : Int)) (hm2 : m ≤ 1000) (hk : t0_6.toInt = (k : Int)) (hkm : k ≤ m) (hlt : v.natAbs < b ^ k) (hM : b ^ m ≤ 2147483648 ^ M) (hM2 : M < 220) : (F_Rea_keepFigure x2 x3 x4 t0_0 t0_1 t0_2 t0_3 t0_4 t0_5 t0_6 t0_7 t0_8 t0_9 t1_0 t1_1 t2_0).2.2.1 = t0_2 ∧ (F_Rea_keepFigure x2 x3 x4 t0_0 t0_1 t0_2 t0_3 t0_4 t0_5 t0_6 t0_7 t0_8 t0_9 t1_0 t1_1 t2_0).2.2.2.1 = t0_3 ∧ (F_Rea_keepFigure x2 x3 x4 t0_0 t0_1 t0_2 t0_3 t0_4 t0_5 t0_6 t0_7 t0_8 t0_9 t1_0 t1_1 t2_0).2.2.2.2.1 = t0_4 ∧ ∃ (w : Int) (j : Nat), (F_Rea_keepFigure x2 x3 x4 t0_0 t0_1 t0_2 t0_3 t0_4 t0_5 t0_6 t0_7 t0_8 t0_9 t1_0 t1_1 t2_0).2.2.2.2.2.2.1.toInt = (j : Int) ∧ j ≤ m ∧ 0 ≤ w ∧ w.natAbs < b ^ j ∧ bO 220 (F_Rea_keepFigure x2 x3 x4 t0_0 t0_1 t0_2 t0_3 t0_4 t0_5 t0_6 t0_7 t0_8 t0_9 t1_0 t1_1 t2_0).2.2.2.2.2.2.2.2.2.2.1 (F_Rea_keepFigure x2 x3 x4 t0_0 t0_1 t0_2 t0_3 t0_4 t0_5 t0_6 t0_7 t0_8 t0_9 t1_0 t1_1 t2_0).2.2.2.2.2.2.2.2.2.2.2.1 (F_Rea_keepFigure x2 x3 x4 t0_0 t0_1 t0_2 t0_3 t0_4 t0_5 t0_6 t0_7 t0_8 t0_9 t1_0 t1_1 t2_0).2.2.2.2.2.2.2.2.2.2.2.2 w := by
  have e := e220
  have e0 : (0 : Int32).toInt = 0 := rfl
  unfold F_Rea_keepFigure
  by_cases g : x4 ≤ t0_6
  · rw [if_pos g]
    split
    · exact ⟨rfl, rfl, rfl, v, k, hk, hkm, hv, hlt, h⟩
    · exact ⟨rfl, rfl, rfl, v, k, hk, hkm, hv, hlt, h⟩
  · rw [if_neg g]
    have g' := q_nleI g
    have hB : bB M v := Nat.lt_of_lt_of_le hlt (Nat.le_trans (Nat.pow_le_pow_right (by omega) hkm) hM)
    have s := h.sB hB
    have h17 : P1 220 (x2.toInt * v + x3.toInt) (F_Big_multiplySmall (220 : Int32) x2 x3 t1_0 t1_1 t2_0) := W_mulS h hv (by omega) hd0 (by omega)
    generalize (F_Big_multiplySmall (220 : Int32) x2 x3 t1_0 t1_1 t2_0) = p57 at h17 ⊢
    unfold F_Rea_keepFigure_c17
    rw [hb] at h17
    have hn : 0 ≤ (b : Int) * v + x3.toInt := Int.add_nonneg (Int.mul_nonneg (by omega) hv) hd0
    have hl := v_kf (k := k) hv hlt hd0 (by omega : x3.toInt < (b : Int))
    by_cases g2 : p57.1 ≤ 0
    · rw [if_pos g2]
      have g3 := q_leI g2
      have hz : (b : Int) * v + x3.toInt = 0 := by
        have h1 := h17.pos
        have h2 := h17.s0
        generalize (b : Int) * v + x3.toInt = w at h1 ⊢
        omega
      rw [hz] at h17
      refine ⟨rfl, rfl, rfl, 0, k, ?_, hkm, by decide, ?_, h17⟩
      · show (t0_6 + 0 : Int32).toInt = _
        rw [Int32.add_zero]
        exact hk
      · show 0 < b ^ k
        exact Nat.pow_pos (by omega)
    · rw [if_neg g2]
      refine ⟨rfl, rfl, rfl, _, k + 1, ?_, by omega, hn, hl, h17⟩
      show (t0_6 + 1 : Int32).toInt = _
      rw [q_addI hk v_e1 (by omega) (by omega)]
      omega
/-- what a part of the text leaves behind: place and end, and the number -/
abbrev RP (lo hi : Int) (ng : Int32) (b : Nat) (p : Int32 × Int64 × Int64 × Int32 × Int32 × Int32 × Int32 × Int32 × Int32 × Int32 × Int64 × Int32 × Int32 × (Nat → Int32)) : Prop := lo ≤ p.2.2.2.1.toInt ∧ p.2.2.2.1.toInt ≤ hi ∧ p.2.2.2.2.1.toInt = hi ∧ p.2.2.2.2.2.1 = ng ∧ ∃ v : Int, 0 ≤ v ∧ v.natAbs < b ∧ bO 220 p.2.2.2.2.2.2.2.2.2.2.2.1 p.2.2.2.2.2.2.2.2.2.2.2.2.1 p.2.2.2.2.2.2.2.2.2.2.2.2.2 v
theorem T_tfL {x2 : Int32} {x3 : Int32} {t0_0 : Int64} {t0_1 : Int64} {t0_2 : Int32} {t0_3 : Int32} {t0_4 : Int32} {t0_5 : Int32} {t0_6 : Int32} {t0_7 : Int32} {t0_8 : Int32} {t0_9 : Int64} {t1_0 : Int32} {t2_0 : (Nat → Int64)} {t3_0 : Int32} {t3_1 : Int32} {t4_0 : (Nat → Int32)} {p47 : (Int32 × Int32)} {m b M : Nat} {lo hi : Int} {ng : Int32} (hb : x2.toInt = (b : Int)) (hb2 : 2 ≤ b) (hm : x3.toInt = (m : Int)) (hm2 : m ≤ 1000) (hM : b ^ m ≤ 2147483648 ^ M) (hM2 : M < 220) (hhi : hi ≤ 100000) (hlo : 0 ≤ lo) : ∀ (n : Nat) (lx58 : Int32) (lx59 : Int32) (lx60 : Int32) (lx61 : Int64) (lx62 : Int64) (lx63 : Int32) (lx64 : Int32) (lx65 : Int32) (lx66 : Int32) (lx67 : Int32) (lx68 : Int32) (lx69 : Int64) (lx70 : Int32) (lx71 : Int32) (lx72 : (Nat → Int32)), ∀ (v : Int) (k : Nat), hi - lx60.toInt < (n : Int) → lo ≤ lx60.toInt → lx60.toInt ≤ hi → lx63.toInt = hi → lx64 = ng → lx66.toInt = (k : Int) → k ≤ m → 0 ≤ v → v.natAbs < b ^ k → bO 220 lx70 lx71 lx72 v → (S_Rea_takeFigures_L35 x2 x3 t0_0 t0_1 t0_2 t0_3 t0_4 t0_5 t0_6 t0_7 t0_8 t0_9 t1_0 t2_0 t3_0 t3_1 t4_0 p47 n lx58 lx59 lx60 lx61 lx62 lx63 lx64 lx65 lx66 lx67 lx68 lx69 lx70 lx71 lx72) ∧ RP lo hi ng (b ^ m) (F_Rea_takeFigures_L35 x2 x3 t0_0 t0_1 t0_2 t0_3 t0_4 t0_5 t0_6 t0_7 t0_8 t0_9 t1_0 t2_0 t3_0 t3_1 t4_0 p47 n lx58 lx59 lx60 lx61 lx62 lx63 lx64 lx65 lx66 lx67 lx68 lx69 lx70 lx71 lx72) := by
  intro n
  induction n with
  | zero => intros; omega
  | succ n ih =>
    intro lx58 lx59 lx60 lx61 lx62 lx63 lx64 lx65 lx66 lx67 lx68 lx69 lx70 lx71 lx72 v k hn hl hh he hng hk hkm hv hlt h
    have hlm : v.natAbs < b ^ m := Nat.lt_of_lt_of_le hlt (Nat.pow_le_pow_right (by omega) hkm)
    rw [S_Rea_takeFigures_L35.eq_2, F_Rea_takeFigures_L35.eq_2]
    by_cases g : lx63 ≤ lx60
    · rw [if_pos g, if_pos g]
      split
      · exact ⟨trivial, hl, hh, he, hng, v, hv, hlm, h⟩
      · exact ⟨trivial, hl, hh, he, hng, v, hv, hlm, h⟩
    rw [if_neg g, if_neg g]
    have g' := q_nleI g
    have ej := v_sc (i := lx60) (by omega) (by omega)
    refine v_owe v_dig ?_
    have hd0 := v_digB (t0_0 := lx61) (t0_1 := lx62) (t0_2 := lx60) (t0_3 := lx63) (t0_4 := lx64) (t0_5 := lx65) (t0_6 := lx66) (t0_7 := lx67) (t0_8 := lx68) (t0_9 := lx69) (t1_0 := t1_0) (t2_0 := t2_0)
    generalize F_Rea_digitHere lx61 lx62 lx60 lx63 lx64 lx65 lx66 lx67 lx68 lx69 t1_0 t2_0 = dg at hd0 ⊢
    by_cases g2 : x2 ≤ dg
    · rw [if_pos g2, if_pos g2]
      refine v_owe v_here ?_
      by_cases g3 : F_Rea_here lx61 lx62 lx60 lx63 lx64 lx65 lx66 lx67 lx68 lx69 t1_0 t2_0 = 46
      · rw [if_pos g3, if_pos g3]
        by_cases g4 : lx59 = 0
        · rw [if_pos g4, if_pos g4]
          exact ih _ _ _ _ _ _ _ _ _ _ _ _ _ _ _ v k (by omega) (by omega) (by omega) he hng hk hkm hv hlt h
        · rw [if_neg g4, if_neg g4]
          split
          · exact ⟨trivial, hl, hh, he, hng, v, hv, hlm, h⟩
          · exact ⟨trivial, hl, hh, he, hng, v, hv, hlm, h⟩
      · rw [if_neg g3, if_neg g3]
        split
        · exact ⟨trivial, hl, hh, he, hng, v, hv, hlm, h⟩
        · exact ⟨trivial, hl, hh, he, hng, v, hv, hlm, h⟩
    · rw [if_neg g2, if_neg g2]
      have g2' := q_nleI g2
      have hkf := T_keepFigure (x2 := x2) (x3 := dg) (x4 := x3) (t0_0 := lx61) (t0_1 := lx62) (t0_2 := lx60) (t0_3 := lx63) (t0_4 := lx64) (t0_5 := lx65) (t0_6 := lx66) (t0_7 := lx67) (t0_8 := lx68) (t0_9 := lx69) h hv hb hb2 hd0 g2' hm hm2 hk hkm hlt hM hM2
      generalize F_Rea_keepFigure x2 dg x3 lx61 lx62 lx60 lx63 lx64 lx65 lx66 lx67 lx68 lx69 lx70 lx71 lx72 = p190 at hkf ⊢
      obtain ⟨f1, f2, f2n, w, j, f3, f4, f5, f6, f7⟩ := hkf
      unfold S_Rea_takeFigures_c63 F_Rea_takeFigures_c63
      rw [f1, f2, f2n]
      by_cases g5 : lx59 = 0
      · rw [if_pos g5, if_pos g5]
        exact ih _ _ _ _ _ _ _ _ _ _ _ _ _ _ _ w j (by omega) (by omega) (by omega) he hng f3 f4 f5 f6 f7
      · rw [if_neg g5, if_neg g5]
        exact ih _ _ _ _ _ _ _ _ _ _ _ _ _ _ _ w j (by omega) (by omega) (by omega) he hng f3 f4 f5 f6 f7
theorem T_takeFigures {x2 : Int32} {x3 : Int32} {t0_0 : Int64} {t0_1 : Int64} {t0_2 : Int32} {t0_3 : Int32} {t0_4 : Int32} {t0_5 : Int32} {t0_6 : Int32} {t0_7 : Int32} {t0_8 : Int32} {t0_9 : Int64} {t1_0 : Int32} {t2_0 : (Nat → Int64)} {t3_0 : Int32} {t3_1 : Int32} {t4_0 : (Nat → Int32)} {m b M : Nat} (hb : x2.toInt = (b : Int)) (hb2 : 2 ≤ b) (hm : x3.toInt = (m : Int)) (hm2 : m ≤ 1000) (hM : b ^ m ≤ 2147483648 ^ M) (hM2 : M < 220) (h0 : 0 ≤ t0_2.toInt) (h1 : t0_2.toInt ≤ t0_3.toInt) (h2 : t0_3.toInt ≤ 100000) : (S_Rea_takeFigures x2 x3 t0_0 t0_1 t0_2 t0_3 t0_4 t0_5 t0_6 t0_7 t0_8 t0_9 t1_0 t2_0 t3_0 t3_1 t4_0) ∧ RP t0_2.toInt t0_3.toInt t0_4 (b ^ m) (F_Rea_takeFigures x2 x3 t0_0 t0_1 t0_2 t0_3 t0_4 t0_5 t0_6 t0_7 t0_8 t0_9 t1_0 t2_0 t3_0 t3_1 t4_0) := by
  unfold S_Rea_takeFigures F_Rea_takeFigures
  have h32 : (fun p => bO 220 p.1 p.2 t4_0 0) (F_Big_clear (220 : Int32) t3_0 t3_1) := W_clear (by decide) (by decide)
  generalize (F_Big_clear (220 : Int32) t3_0 t3_1) = p47 at h32 ⊢
  unfold S_Rea_takeFigures_c32 F_Rea_takeFigures_c32
  exact T_tfL hb hb2 hm hm2 hM hM2 h2 h0 _ _ _ _ _ _ _ _ _ _ _ _ _ _ _ _ 0 0 (by omega) (Int.le_refl _) h1 rfl rfl rfl (by omega) (by decide) (by show 0 < b ^ 0; exact Nat.pow_pos (by omega)) h32
