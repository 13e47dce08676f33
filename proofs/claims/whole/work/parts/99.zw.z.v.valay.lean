/-! values, for whole: texts: the class's Reader: takeDecimal, takeHexadecimal -/
/-- the figures of a decimal, as many as are kept -/
def yKd (M : Nat) (f : Nat → Int) (dropped s n : Int32) (row : Nat → Int32) : Prop := ∃ v d : Nat, bO 220 s n row (v : Int) ∧ dropped.toInt = (d : Int) ∧ d ≤ M ∧ v < 10 ^ 1001 ∧ (yuB 10 f M = v * 10 ^ d ∨ ∃ m r, v = 10 * m + 1 ∧ 10 ^ 799 ≤ m ∧ yuB 10 f M = m * 10 ^ (d + 1) + r ∧ 0 < r ∧ r < 10 ^ (d + 1))
/-- what takeDecimal leaves -/
def QV_td (B : Nat → Int) (e s : Nat) (a0 a1 : Int64) (a3 a4 : Int32) (y : Int32 × Int64 × Int64 × Int32 × Int32 × Int32 × Int32 × Int32 × Int32 × Int32 × Int64 × Int32 × Int32 × (Nat → Int32)) : Prop := ∃ (c w bh kp dr so : Int32) (ex : Int64) (s' n' : Int32) (row : Nat → Int32), y = (c, a0, a1, w, a3, a4, bh, kp, dr, so, ex, s', n', row) ∧ ((c = 0 ∧ yNr B 100000000000 e s none) ∨ (c = 1 ∧ ∃ (q M pt : Nat) (f : Nat → Int), yNr B 100000000000 e s (some (0, yEn B e q, M, pt, f, ex.toInt)) ∧ q ≤ e ∧ pt ≤ M ∧ M ≤ e ∧ w.toInt = (q : Int) ∧ bh.toInt = (M : Int) - (pt : Int) ∧ (-1000000000000 ≤ ex.toInt ∧ ex.toInt ≤ 1000000000000) ∧ yKd M f dr s' n' row))
theorem V_td44 {t0_0 : Int64} {t0_1 : Int64} {t0_2 : Int32} {t0_3 : Int32} {t0_4 : Int32} {t0_5 : Int32} {t0_6 : Int32} {t0_7 : Int32} {t0_8 : Int32} {t0_9 : Int64} {t1_0 : Int32} {t2_0 : (Nat → Int64)} {t3_0 : Int32} {t3_1 : Int32} {t4_0 : (Nat → Int32)} {p69 : (Int32 × Int64 × Int64 × Int32 × Int32 × Int32 × Int32 × Int32 × Int32 × Int32 × Int64 × Int32 × Int32 × (Nat → Int32))} {y32 : Int64} {y33 : Int64} {y34 : Int32} {y35 : Int32} {y36 : Int32} {y37 : Int32} {y38 : Int32} {y40 : Int32} {y41 : Int64} {lx92 : Int32} {lx93 : Int32} {lx94 : Int32} {lx95 : (Nat → Int32)} {L e s p M : Nat} {o : Option Nat} {f : Nat → Int} {a0 a1 : Int64} {a3 a4 : Int32} (hs : t1_0.toInt = (L : Int)) (hL : L ≤ 4100) (h3 : y35.toInt = (e : Int)) (he : e ≤ L) (hx : ¬ yHx (ySB t2_0) e s) (hR : yRn (ySB t2_0) 10 s p M o f) (hS : ySp (ySB t2_0) 10 e p o) (hM : 0 < M) (h2 : y34.toInt = (p : Int)) (h5 : y37.toInt = (M : Int) - ((o.getD M : Nat) : Int)) (hK : yKd M f lx92 lx93 lx94 lx95) (q0 : y32 = a0) (q1 : y33 = a1) (q3 : y35 = a3) (q4 : y36 = a4) : QV_td (ySB t2_0) e s a0 a1 a3 a4 (F_Rea_takeDecimal_J44 t0_0 t0_1 t0_2 t0_3 t0_4 t0_5 t0_6 t0_7 t0_8 t0_9 t1_0 t2_0 t3_0 t3_1 t4_0 p69 y32 y33 y34 y35 y36 y37 y38 y40 y41 lx92 lx93 lx94 lx95) := by
  have rle := yRn_le hR
  have kM := yRn_k hR
  have pe := hS.1
  have hh := V_R_here (t0_0 := y32) (t0_1 := y33) (t0_4 := y36) (t0_5 := y37) (t0_6 := y38) (t0_7 := lx92) (t0_8 := y40) (t0_9 := 0) (t2_0 := t2_0) hs hL h3 he h2
  unfold F_Rea_takeDecimal_J44
  generalize F_Rea_here y32 y33 y34 y35 y36 y37 y38 lx92 y40 0 t1_0 t2_0 = c at hh ⊢
  have be := y_hL (c := c) (p := p) (e := e) (B := ySB t2_0) (fun i => ySB_b) hh (x := 101) (b := 101) (a := 69) rfl (by decide) (by decide)
  by_cases c1 : c ||| 32 = 101
  · rw [if_pos c1]
    have k := be.mp c1
    obtain ⟨q, v, w, ex, b1, b2, b3, b4, b5, b6⟩ := V_R_exp (x2 := 4100) (m := 4100) (t0_0 := y32) (t0_1 := y33) (t0_4 := y36) (t0_5 := y37) (t0_6 := y38) (t0_7 := lx92) (t0_8 := y40) (t0_9 := 0) (t2_0 := t2_0) hs hL h3 he rfl h2 k.1
    rw [b6]
    unfold F_Rea_takeDecimal_c65
    have exb : -1000000000000 ≤ ex.toInt ∧ ex.toInt ≤ 1000000000000 := by omega
    have qe := b1.2.1
    rcases y_pwE (m := 4100) b1 b2 b3 b5 (by omega) with ⟨d1, d2⟩ | ⟨d1, d2⟩
    · rw [if_neg d1, if_pos rfl]
      refine ⟨_, _, _, _, _, _, _, _, _, _, by rw [q0, q1, q3, q4], Or.inl ⟨rfl, Or.inr ⟨hx, p, M, o, f, hR, hS, Or.inr (Or.inr ⟨hM, k, none, d2, rfl⟩)⟩⟩⟩
    · rw [if_pos d1, if_neg (show ¬ (1 : Int32) = 0 by decide)]
      refine ⟨_, _, _, _, _, _, _, _, _, _, by rw [q0, q1, q3, q4], Or.inr ⟨rfl, q, M, o.getD M, f, Or.inr ⟨hx, p, M, o, f, hR, hS, Or.inr (Or.inr ⟨hM, k, _, d2, rfl⟩)⟩, qe, kM, by omega, b4, h5, exb, hK⟩⟩
  · rw [if_neg c1]
    refine ⟨_, _, _, _, _, _, _, _, _, _, by rw [q0, q1, q3, q4], Or.inr ⟨rfl, p, M, o.getD M, f, Or.inr ⟨hx, p, M, o, f, hR, hS, Or.inr (Or.inl ⟨hM, fun h => c1 (be.mpr h), rfl⟩)⟩, pe, kM, by omega, h2, h5, by decide, hK⟩⟩
theorem y_801 : (10 : Nat) ^ 800 * 10 + 1 ≤ 10 ^ 1001 ∧ (10 : Nat) ^ 800 ≤ 10 ^ 1000 ∧ (16 : Nat) ^ 40 ≤ 10 ^ 1000 ∧ (10 : Nat) ^ 800 ≤ 2147483648 ^ 108 := by decide +kernel
theorem V_R_dec {t0_0 : Int64} {t0_1 : Int64} {t0_2 : Int32} {t0_3 : Int32} {t0_4 : Int32} {t0_5 : Int32} {t0_6 : Int32} {t0_7 : Int32} {t0_8 : Int32} {t0_9 : Int64} {t1_0 : Int32} {t2_0 : (Nat → Int64)} {t3_0 : Int32} {t3_1 : Int32} {t4_0 : (Nat → Int32)} {L e s : Nat} (hs : t1_0.toInt = (L : Int)) (hL : L ≤ 4100) (h3 : t0_3.toInt = (e : Int)) (he : e ≤ L) (h2 : t0_2.toInt = (s : Int)) (hse : s ≤ e) (hx : ¬ yHx (ySB t2_0) e s) : QV_td (ySB t2_0) e s t0_0 t0_1 t0_3 t0_4 (F_Rea_takeDecimal t0_0 t0_1 t0_2 t0_3 t0_4 t0_5 t0_6 t0_7 t0_8 t0_9 t1_0 t2_0 t3_0 t3_1 t4_0) := by
  obtain ⟨u1, u2, u3, u4⟩ := y_801
  unfold F_Rea_takeDecimal
  obtain ⟨p, M, o, f, c, w, bh, kp, dr, so, s', n', row, a1, a2, a3, a4, a5, a6, a7⟩ := V_R_figs (x2 := 10) (x3 := 800) (b := 10) (most := 800) (t0_0 := t0_0) (t0_1 := t0_1) (t0_4 := t0_4) (t0_5 := t0_5) (t0_6 := t0_6) (t0_7 := t0_7) (t0_8 := t0_8) (t0_9 := t0_9) (t2_0 := t2_0) (t3_0 := t3_0) (t3_1 := t3_1) (t4_0 := t4_0) hs hL h3 he h2 hse rfl (by decide) (by decide) rfl (by decide) u2
  rw [a7]
  have rle := yRn_le a1
  have pe := a2.1
  unfold F_Rea_takeDecimal_c6
  rcases a3 with ⟨z1, z2⟩ | ⟨z1, z2⟩
  · rw [if_pos z1]
    refine ⟨_, _, _, _, _, _, _, _, _, _, rfl, Or.inl ⟨rfl, Or.inr ⟨hx, p, M, o, f, a1, a2, Or.inl ⟨z2, rfl⟩⟩⟩⟩
  · rw [if_neg (show ¬ c = 0 by rw [z1]; decide)]
    obtain ⟨v, d, k, r, k1, kn, k2, k3, k4, k5, k6, k7, k8, k9, k10, k11⟩ := a6
    have v800 : v < 10 ^ 800 := Nat.lt_of_lt_of_le k4 (Nat.pow_le_pow_right (by decide) k3)
    rcases k11 with ⟨r1, r2⟩ | ⟨r1, r2⟩
    · rw [if_pos r1]
      refine V_td44 hs hL h3 he hx a1 a2 z2 a4 a5 ⟨v, d, k1, k6, k7, ?_, Or.inl (by rw [k9, r2, Nat.add_zero])⟩ rfl rfl rfl rfl
      generalize (10 : Nat) ^ 800 = X at v800 u1
      generalize (10 : Nat) ^ 1001 = Y at u1 ⊢
      omega
    · rw [if_neg (show ¬ so = 0 by rw [r1]; decide)]
      have dp : 0 < d := by
        rcases Nat.eq_zero_or_pos d with h | h
        · rw [h, Nat.pow_zero] at k10
          omega
        · exact h
      have k800 := k8 dp
      have m799 : 10 ^ 799 ≤ v := by
        rcases k5 with h | h
        · omega
        · rw [k800] at h
          exact h
      have sz := k1.sz (M := 108) (by rw [Int.natAbs_natCast]; exact Nat.lt_of_lt_of_le v800 u4)
      have e220 : (220 : Int32).toInt = 220 := rfl
      have hp := W_mulS (x := 10) (y := 1) k1 (by omega) (by decide) (by decide) (by omega)
      generalize F_Big_multiplySmall 220 10 1 s' n' row = p202 at hp ⊢
      rw [show (10 : Int32).toInt = 10 from rfl, show (1 : Int32).toInt = 1 from rfl, show (10 : Int) * (v : Int) + 1 = ((10 * v + 1 : Nat) : Int) by omega] at hp
      unfold F_Rea_takeDecimal_c31
      have ed : (dr - 1 : Int32).toInt = ((d - 1 : Nat) : Int) := by
        rw [q_subI (y := 1) k6 rfl (by omega) (by omega)]
        omega
      refine V_td44 hs hL h3 he hx a1 a2 z2 a4 a5 ⟨10 * v + 1, d - 1, hp, ed, by omega, ?_, Or.inr ⟨v, r, rfl, m799, ?_, r2, ?_⟩⟩ rfl rfl rfl rfl
      · generalize (10 : Nat) ^ 800 = X at v800 u1
        generalize (10 : Nat) ^ 1001 = Y at u1 ⊢
        omega
      · rw [show d - 1 + 1 = d by omega]
        exact k9
      · rw [show d - 1 + 1 = d by omega]
        exact k10
/-- what takeHexadecimal leaves -/
def QV_th (B : Nat → Int) (e s : Nat) (a0 a1 : Int64) (a3 a4 : Int32) (y : Int32 × Int64 × Int64 × Int32 × Int32 × Int32 × Int32 × Int32 × Int32 × Int32 × Int64 × Int32 × Int32 × (Nat → Int32)) : Prop := ∃ (c w bh kp dr so : Int32) (ex : Int64) (s' n' : Int32) (row : Nat → Int32), y = (c, a0, a1, w, a3, a4, bh, kp, dr, so, ex, s', n', row) ∧ ((c = 0 ∧ yNr B 100000000000 e s none) ∨ (c = 1 ∧ ∃ (q M pt : Nat) (f : Nat → Int), yNr B 100000000000 e s (some (1, yEn B e q, M, pt, f, ex.toInt)) ∧ q ≤ e ∧ pt ≤ M ∧ M ≤ e ∧ w.toInt = (q : Int) ∧ bh.toInt = (M : Int) - (pt : Int) ∧ (-1000000000000 ≤ ex.toInt ∧ ex.toInt ≤ 1000000000000) ∧ yKp 16 40 M f kp dr so s' n' row))
theorem V_R_hex {t0_0 : Int64} {t0_1 : Int64} {t0_2 : Int32} {t0_3 : Int32} {t0_4 : Int32} {t0_5 : Int32} {t0_6 : Int32} {t0_7 : Int32} {t0_8 : Int32} {t0_9 : Int64} {t1_0 : Int32} {t2_0 : (Nat → Int64)} {t3_0 : Int32} {t3_1 : Int32} {t4_0 : (Nat → Int32)} {L e s : Nat} (hs : t1_0.toInt = (L : Int)) (hL : L ≤ 4100) (h3 : t0_3.toInt = (e : Int)) (he : e ≤ L) (h2 : t0_2.toInt = ((s + 2 : Nat) : Int)) (hx : yHx (ySB t2_0) e s) : QV_th (ySB t2_0) e s t0_0 t0_1 t0_3 t0_4 (F_Rea_takeHexadecimal t0_0 t0_1 t0_2 t0_3 t0_4 t0_5 t0_6 t0_7 t0_8 t0_9 t1_0 t2_0 t3_0 t3_1 t4_0) := by
  obtain ⟨u1, u2, u3, u4⟩ := y_801
  unfold F_Rea_takeHexadecimal
  have hx1 := hx.1
  obtain ⟨p, M, o, f, c, w, bh, kp, dr, so, s', n', row, a1, a2, a3, a4, a5, a6, a7⟩ := V_R_figs (x2 := 16) (x3 := 40) (b := 16) (most := 40) (t0_0 := t0_0) (t0_1 := t0_1) (t0_4 := t0_4) (t0_5 := t0_5) (t0_6 := t0_6) (t0_7 := t0_7) (t0_8 := t0_8) (t0_9 := t0_9) (t2_0 := t2_0) (t3_0 := t3_0) (t3_1 := t3_1) (t4_0 := t4_0) hs hL h3 he h2 (by omega) rfl (by decide) (by decide) rfl (by decide) u3
  rw [a7]
  have rle := yRn_le a1
  have kM := yRn_k a1
  have pe := a2.1
  unfold F_Rea_takeHexadecimal_c5
  rcases a3 with ⟨z1, z2⟩ | ⟨z1, z2⟩
  · rw [if_pos z1]
    refine ⟨_, _, _, _, _, _, _, _, _, _, rfl, Or.inl ⟨rfl, Or.inl ⟨hx, p, M, o, f, a1, a2, Or.inl ⟨Or.inl z2, rfl⟩⟩⟩⟩
  · rw [if_neg (show ¬ c = 0 by rw [z1]; decide)]
    have hh := V_R_here (t0_0 := t0_0) (t0_1 := t0_1) (t0_4 := t0_4) (t0_5 := bh) (t0_6 := kp) (t0_7 := dr) (t0_8 := so) (t0_9 := t0_9) (t2_0 := t2_0) hs hL h3 he a4
    have be := y_hL (p := p) (e := e) (B := ySB t2_0) (fun i => ySB_b) hh (x := 112) (b := 112) (a := 80) rfl (by decide) (by decide)
    by_cases c1 : F_Rea_here t0_0 t0_1 w t0_3 t0_4 bh kp dr so t0_9 t1_0 t2_0 ||| 32 = 112
    · rw [if_pos c1]
      have k := be.mp c1
      obtain ⟨q, v, w', ex, b1, b2, b3, b4, b5, b6⟩ := V_R_exp (x2 := 4100) (m := 4100) (t0_0 := t0_0) (t0_1 := t0_1) (t0_4 := t0_4) (t0_5 := bh) (t0_6 := kp) (t0_7 := dr) (t0_8 := so) (t0_9 := t0_9) (t2_0 := t2_0) hs hL h3 he rfl a4 k.1
      rw [b6]
      unfold F_Rea_takeHexadecimal_c27
      have exb : -1000000000000 ≤ ex.toInt ∧ ex.toInt ≤ 1000000000000 := by omega
      have qe := b1.2.1
      rcases y_pwE (m := 4100) b1 b2 b3 b5 (by omega) with ⟨d1, d2⟩ | ⟨d1, d2⟩
      · rw [if_neg d1, if_pos rfl]
        refine ⟨_, _, _, _, _, _, _, _, _, _, rfl, Or.inl ⟨rfl, Or.inl ⟨hx, p, M, o, f, a1, a2, Or.inr ⟨z2, k, none, d2, rfl⟩⟩⟩⟩
      · rw [if_pos d1, if_neg (show ¬ (1 : Int32) = 0 by decide)]
        refine ⟨_, _, _, _, _, _, _, _, _, _, rfl, Or.inr ⟨rfl, q, M, o.getD M, f, Or.inl ⟨hx, p, M, o, f, a1, a2, Or.inr ⟨z2, k, _, d2, rfl⟩⟩, qe, kM, by omega, b4, a5, exb, a6⟩⟩
    · rw [if_neg c1]
      refine ⟨_, _, _, _, _, _, _, _, _, _, rfl, Or.inl ⟨rfl, Or.inl ⟨hx, p, M, o, f, a1, a2, Or.inl ⟨Or.inr (fun h => c1 (be.mpr h)), rfl⟩⟩⟩⟩
