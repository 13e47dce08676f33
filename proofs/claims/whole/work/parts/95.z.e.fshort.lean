/-! FloatRows: setAll, setValue, leastLength, findShortest -/
theorem flU.b {x : Int32} {r : Nat → Int32} (h : flU x r) {M : Int} (h0 : 0 ≤ M) (hM : M ≤ 2 ^ 56) (hx : x.toInt ≤ 969) : M * flV 1000000000 r 156 < 1000000000 ^ 156 := Int.lt_of_lt_of_le (h.up h0 hM (N := 969) hx fl_kA) fl_k156
theorem flU.c {x : Int32} {r : Nat → Int32} (h : flU x r) {M : Int} (h0 : 0 ≤ M) (hM : M ≤ 2 ^ 54) (hx : x.toInt ≤ 971) : M * flV 1000000000 r 156 < 1000000000 ^ 156 := Int.lt_of_lt_of_le (h.up h0 hM (N := 971) hx fl_kB) fl_k156
theorem fl_m0 {s : Int64} (h : 1 ≤ s.toInt ∧ s.toInt < 9007199254740992) : 1 ≤ (4 * s : Int64).toInt ∧ (4 * s : Int64).toInt ≤ 2 ^ 56 := by
  have e : (4 * s : Int64).toInt = 4 * s.toInt := q_mulL (x := 4) (by decide) rfl (by omega) (by omega)
  omega
theorem fl_m1 {s : Int64} (h : 1 ≤ s.toInt ∧ s.toInt < 9007199254740992) : 1 ≤ (4 * s - 1 : Int64).toInt ∧ (4 * s - 1 : Int64).toInt ≤ 2 ^ 56 := by
  have e : (4 * s : Int64).toInt = 4 * s.toInt := q_mulL (x := 4) (by decide) rfl (by omega) (by omega)
  have e2 : (4 * s - 1 : Int64).toInt = 4 * s.toInt - 1 := q_subL e (by decide) (by omega) (by omega)
  omega
theorem fl_m2 {s : Int64} (h : 1 ≤ s.toInt ∧ s.toInt < 9007199254740992) : 1 ≤ (4 * s - 2 : Int64).toInt ∧ (4 * s - 2 : Int64).toInt ≤ 2 ^ 56 := by
  have e : (4 * s : Int64).toInt = 4 * s.toInt := q_mulL (x := 4) (by decide) rfl (by omega) (by omega)
  have e2 : (4 * s - 2 : Int64).toInt = 4 * s.toInt - 2 := q_subL e (by decide) (by omega) (by omega)
  omega
theorem fl_m3 {s : Int64} (h : 1 ≤ s.toInt ∧ s.toInt < 9007199254740992) : 1 ≤ (4 * s + 2 : Int64).toInt ∧ (4 * s + 2 : Int64).toInt ≤ 2 ^ 56 := by
  have e : (4 * s : Int64).toInt = 4 * s.toInt := q_mulL (x := 4) (by decide) rfl (by omega) (by omega)
  have e2 : (4 * s + 2 : Int64).toInt = 4 * s.toInt + 2 := q_addL e (by decide) (by omega) (by omega)
  omega
theorem fl_topU {f : Nat → Int32} {a b : Int32} (ha : Q_FR_top f a) (hb : Q_FR_top f b) : a.toInt = b.toInt := by
  obtain ⟨a1, a2, a3⟩ := ha
  obtain ⟨b1, b2, b3⟩ := hb
  have ea := q_clI (i := a) rfl (by omega)
  have eb := q_clI (i := b) rfl (by omega)
  by_cases c : a.toInt < b.toInt
  · exact absurd (a3 b.toNatClampNeg (by omega) (by omega)) b2
  · by_cases d : b.toInt < a.toInt
    · exact absurd (b3 a.toNatClampNeg (by omega) (by omega)) a2
    · omega
theorem fl_tl {f : Nat → Int32} {a b j : Int32} (ha : Q_FR_top f a) (hb : Q_FR_top f b) (g : a < j) : b.toInt < j.toInt := by
  have := fl_topU ha hb; have := q_ltI g; omega
theorem fl_tg {f : Nat → Int32} {a b j : Int32} (ha : Q_FR_top f a) (hb : Q_FR_top f b) (g : ¬ a < j) : j.toInt ≤ b.toInt := by
  have := fl_topU ha hb; have := q_nltI g; omega
theorem fl_shW {w : Int64} {d : Nat} (hd : d ≤ 16) (h : w.toInt = 10 ^ d) : 1 ≤ w.toInt ∧ w.toInt ≤ 10000000000000000 := by
  have a := fl_mono (B := 10) (by decide) hd
  have b := fl_pos (B := 10) (by decide) d
  rw [h]
  refine ⟨by omega, a⟩
theorem fl_sh {w s : Int64} {x : Int32} {d : Nat} (hd : d ≤ 16) (h : w.toInt = 10 ^ d) (hs : 0 ≤ s.toInt ∧ s.toInt ≤ w.toInt) (hx : 0 ≤ x.toInt ∧ x.toInt < 10) : (w * 10).toInt = w.toInt * 10 ∧ (0 ≤ (s + w * x.toInt64).toInt ∧ (s + w * x.toInt64).toInt ≤ (w * 10).toInt) ∧ (1 ≤ s.toInt → 1 ≤ (s + w * x.toInt64).toInt) ∧ (x.toInt ≠ 0 → 1 ≤ (s + w * x.toInt64).toInt) := by
  have hw := fl_shW hd h
  clear h
  have h1 : 0 ≤ w.toInt * x.toInt := Int.mul_nonneg (by omega) hx.1
  have h2 : w.toInt * x.toInt ≤ w.toInt * 9 := Int.mul_le_mul_of_nonneg_left (by omega) (by omega)
  have h3 : x.toInt ≠ 0 → w.toInt * 1 ≤ w.toInt * x.toInt := fun z => Int.mul_le_mul_of_nonneg_left (by omega) (by omega)
  have e1 : (w * x.toInt64 : Int64).toInt = w.toInt * x.toInt := q_mulL rfl (q_i2l rfl) (by omega) (by omega)
  have e2 : (s + w * x.toInt64 : Int64).toInt = s.toInt + w.toInt * x.toInt := q_addL rfl e1 (by omega) (by omega)
  have e3 : (w * 10 : Int64).toInt = w.toInt * 10 := q_mulL rfl (by decide) (by omega) (by omega)
  rw [e2, e3]
  clear e1 e2 e3
  generalize w.toInt * x.toInt = W at *
  exact ⟨rfl, ⟨by omega, by omega⟩, fun a => by omega, fun a => by have := h3 a; omega⟩
theorem fl_z10 {v : Int64} (h : 1 ≤ v.toInt) (g : lg_cmp (v - v / 10 * 10) 0 = 0) : (v / 10).toInt * 10 = v.toInt := by
  have hi : v.toInt < 9223372036854775808 := Int64.toInt_lt v
  obtain ⟨q, eq⟩ := q_nm (v / 10 : Int64)
  rw [eq] at g ⊢
  have e4 : q.toInt = v.toInt / 10 := by rw [← eq]; exact v_divL (y := 10) (by omega) (by decide)
  clear eq
  obtain ⟨t, et⟩ := q_nm (q * 10 : Int64)
  rw [et] at g
  have e5 : t.toInt = q.toInt * 10 := by rw [← et]; exact q_mulL rfl (by decide) (by omega) (by omega)
  clear et
  obtain ⟨w, ew⟩ := q_nm (v - t : Int64)
  rw [ew] at g
  have e6 : w.toInt = v.toInt - t.toInt := by rw [← ew]; exact q_subL rfl rfl (by omega) (by omega)
  clear ew
  have c := s_lcmp (a := w) (b := 0)
  rw [g] at c
  have e0 : (0 : Int32).toInt = 0 := rfl
  have e1 : (0 : Int64).toInt = 0 := rfl
  omega
theorem fl_p10 {q v : Int} {m : Nat} (e : q * 10 = v) (b : v < 10 ^ m) (h : 1 ≤ v) : 1 ≤ m ∧ q < 10 ^ (m - 1) := by
  have m1 : 1 ≤ m := by
    by_cases c : m = 0
    · rw [c, Int.pow_zero] at b; omega
    · omega
  refine ⟨m1, ?_⟩
  have p : (10 : Int) ^ m = 10 ^ (m - 1) * 10 := by rw [← fl_pw, show m - 1 + 1 = m by omega]
  rw [p, ← e] at b
  exact Int.lt_of_mul_lt_mul_right b (by decide)
def Q_FR_setAll (p : (Nat → Int32) × (Nat → Int32) × (Nat → Int32) × (Nat → Int32) × (Nat → Int32)) : Prop := flW p.2.2.1 ∧ flNz p.2.2.1
theorem fl_tt : True := trivial
theorem T_FR_setAll {t0_0 : Int32} {t0_1 : Int32} {t0_2 : Int32} {t0_3 : Int32} {t0_4 : Int64} {t0_5 : Int32} {t0_6 : Int32} {t0_7 : Int64} {t0_8 : Int32} {t0_9 : Int64} {t0_10 : Int32} {t1_0 : (Nat → Int32)} {t2_0 : (Nat → Int32)} {t3_0 : (Nat → Int32)} {t4_0 : (Nat → Int32)} {t5_0 : (Nat → Int32)} (hS7 : 1 ≤ t0_7.toInt ∧ t0_7.toInt < 9007199254740992) (hS8 : -1074 ≤ t0_8.toInt ∧ t0_8.toInt ≤ 971) : (S_FR_setAll t0_0 t0_1 t0_2 t0_3 t0_4 t0_5 t0_6 t0_7 t0_8 t0_9 t0_10 t1_0 t2_0 t3_0 t4_0 t5_0) ∧ Q_FR_setAll (F_FR_setAll t0_0 t0_1 t0_2 t0_3 t0_4 t0_5 t0_6 t0_7 t0_8 t0_9 t0_10 t1_0 t2_0 t3_0 t4_0 t5_0) := by
  have e0 : (0 : Int32).toInt = 0 := rfl
  have e1 : (1 : Int32).toInt = 1 := rfl
  have eL0 : (0 : Int64).toInt = 0 := rfl
  have e8 : (t0_8 - 2 : Int32).toInt = t0_8.toInt - 2 := q_subI (y := 2) rfl (by decide) (by omega) (by omega)
  have hU := T_FR_setUnit (x2 := t0_8 - 2) (t0_0 := t0_0) (t0_1 := t0_1) (t0_2 := t0_2) (t0_3 := t0_3) (t0_4 := t0_4) (t0_5 := t0_5) (t0_6 := t0_6) (t0_7 := t0_7) (t0_8 := t0_8) (t0_9 := t0_9) (t0_10 := t0_10) (t1_0 := t1_0) ⟨by omega, by omega⟩
  have hx : (t0_8 - 2 : Int32).toInt ≤ 969 := by omega
  have hU2 := hU.lo (by omega)
  have hU1 := fl_1V hU2
  unfold S_FR_setAll F_FR_setAll
  have h1 := T_FR_set (N2 := (1404 : Int32)) (x3 := (4 * t0_7 : Int64)) (t0_0 := t0_0) (t0_1 := t0_1) (t0_2 := t0_2) (t0_3 := t0_3) (t0_4 := t0_4) (t0_5 := t0_5) (t0_6 := t0_6) (t0_7 := t0_7) (t0_8 := t0_8) (t0_9 := t0_9) (t0_10 := t0_10) (t1_0 := ((F_FR_setUnit (t0_8 - 2 : Int32) t0_0 t0_1 t0_2 t0_3 t0_4 t0_5 t0_6 t0_7 t0_8 t0_9 t0_10 t1_0) : (Nat → Int32))) (t2_0 := t2_0) (t3_0 := t3_0) (by decide) hU.1 hU1 (Int.le_trans (by decide) (fl_m0 hS7).1) (hU.b (Int.le_trans (by decide) (fl_m0 hS7).1) (fl_m0 hS7).2 hx)
  with_reducible refine v_owe h1.1 ?_
  replace h1 := h1.2
  generalize F_FR_set (1404 : Int32) (4 * t0_7 : Int64) t0_0 t0_1 t0_2 t0_3 t0_4 t0_5 t0_6 t0_7 t0_8 t0_9 t0_10 ((F_FR_setUnit (t0_8 - 2 : Int32) t0_0 t0_1 t0_2 t0_3 t0_4 t0_5 t0_6 t0_7 t0_8 t0_9 t0_10 t1_0) : (Nat → Int32)) t2_0 t3_0 = p49 at *
  have fsp49 := h1
  generalize F_FR_setUnit (t0_8 - 2 : Int32) t0_0 t0_1 t0_2 t0_3 t0_4 t0_5 t0_6 t0_7 t0_8 t0_9 t0_10 t1_0 = f33 at *
  unfold S_FR_setAll_c23 F_FR_setAll_c23
  by_cases g2 : (lg_cmp t0_4 0 : Int32) = (0 : Int32)
  ·
    rw [if_pos g2, if_pos g2]
    by_cases g3 : t0_3 ≤ (1 : Int32)
    ·
      rw [if_pos g3, if_pos g3]
      unfold S_FR_setAll_J60 F_FR_setAll_J60
      have h4 := T_FR_set (N2 := (1404 : Int32)) (x3 := ((4 * t0_7 : Int64) - 2 : Int64)) (t0_0 := t0_0) (t0_1 := t0_1) (t0_2 := t0_2) (t0_3 := t0_3) (t0_4 := t0_4) (t0_5 := t0_5) (t0_6 := t0_6) (t0_7 := t0_7) (t0_8 := t0_8) (t0_9 := t0_9) (t0_10 := t0_10) (t1_0 := f33) (t2_0 := (p49.1 : (Nat → Int32))) (t3_0 := t4_0) (by decide) hU.1 hU1 (Int.le_trans (by decide) (fl_m2 hS7).1) (hU.b (Int.le_trans (by decide) (fl_m2 hS7).1) (fl_m2 hS7).2 hx)
      with_reducible refine v_owe h4.1 ?_
      replace h4 := h4.2
      generalize F_FR_set (1404 : Int32) ((4 * t0_7 : Int64) - 2 : Int64) t0_0 t0_1 t0_2 t0_3 t0_4 t0_5 t0_6 t0_7 t0_8 t0_9 t0_10 f33 (p49.1 : (Nat → Int32)) t4_0 = p86 at *
      have fsp86 := h4
      unfold S_FR_setAll_c64 F_FR_setAll_c64
      have h5 := T_FR_set (N2 := (1404 : Int32)) (x3 := ((4 * t0_7 : Int64) + 2 : Int64)) (t0_0 := t0_0) (t0_1 := t0_1) (t0_2 := t0_2) (t0_3 := t0_3) (t0_4 := t0_4) (t0_5 := t0_5) (t0_6 := t0_6) (t0_7 := t0_7) (t0_8 := t0_8) (t0_9 := t0_9) (t0_10 := t0_10) (t1_0 := f33) (t2_0 := (p86.1 : (Nat → Int32))) (t3_0 := t5_0) (by decide) hU.1 hU1 (Int.le_trans (by decide) (fl_m3 hS7).1) (hU.b (Int.le_trans (by decide) (fl_m3 hS7).1) (fl_m3 hS7).2 hx)
      with_reducible refine v_owe h5.1 ?_
      replace h5 := h5.2
      generalize F_FR_set (1404 : Int32) ((4 * t0_7 : Int64) + 2 : Int64) t0_0 t0_1 t0_2 t0_3 t0_4 t0_5 t0_6 t0_7 t0_8 t0_9 t0_10 f33 (p86.1 : (Nat → Int32)) t5_0 = p108 at *
      have fsp108 := h5
      unfold S_FR_setAll_c84 F_FR_setAll_c84
      refine ⟨trivial, ?_⟩
      (unfold Q_FR_setAll; dsimp only; exact ⟨fsp49.w (hU.up (Int.le_trans (by decide) (fl_m0 hS7).1) (fl_m0 hS7).2 (N := 969) hx fl_kA), fsp49.nz (fl_big hU2 (fl_m0 hS7).1)⟩)
    ·
      rw [if_neg g3, if_neg g3]
      have h6 := T_FR_set (N2 := (1404 : Int32)) (x3 := ((4 * t0_7 : Int64) - 1 : Int64)) (t0_0 := t0_0) (t0_1 := t0_1) (t0_2 := t0_2) (t0_3 := t0_3) (t0_4 := t0_4) (t0_5 := t0_5) (t0_6 := t0_6) (t0_7 := t0_7) (t0_8 := t0_8) (t0_9 := t0_9) (t0_10 := t0_10) (t1_0 := f33) (t2_0 := (p49.1 : (Nat → Int32))) (t3_0 := t4_0) (by decide) hU.1 hU1 (Int.le_trans (by decide) (fl_m1 hS7).1) (hU.b (Int.le_trans (by decide) (fl_m1 hS7).1) (fl_m1 hS7).2 hx)
      with_reducible refine v_owe h6.1 ?_
      replace h6 := h6.2
      generalize F_FR_set (1404 : Int32) ((4 * t0_7 : Int64) - 1 : Int64) t0_0 t0_1 t0_2 t0_3 t0_4 t0_5 t0_6 t0_7 t0_8 t0_9 t0_10 f33 (p49.1 : (Nat → Int32)) t4_0 = p134 at *
      have fsp134 := h6
      unfold S_FR_setAll_c64_5 F_FR_setAll_c64_5
      have h7 := T_FR_set (N2 := (1404 : Int32)) (x3 := ((4 * t0_7 : Int64) + 2 : Int64)) (t0_0 := t0_0) (t0_1 := t0_1) (t0_2 := t0_2) (t0_3 := t0_3) (t0_4 := t0_4) (t0_5 := t0_5) (t0_6 := t0_6) (t0_7 := t0_7) (t0_8 := t0_8) (t0_9 := t0_9) (t0_10 := t0_10) (t1_0 := f33) (t2_0 := (p134.1 : (Nat → Int32))) (t3_0 := t5_0) (by decide) hU.1 hU1 (Int.le_trans (by decide) (fl_m3 hS7).1) (hU.b (Int.le_trans (by decide) (fl_m3 hS7).1) (fl_m3 hS7).2 hx)
      with_reducible refine v_owe h7.1 ?_
      replace h7 := h7.2
      generalize F_FR_set (1404 : Int32) ((4 * t0_7 : Int64) + 2 : Int64) t0_0 t0_1 t0_2 t0_3 t0_4 t0_5 t0_6 t0_7 t0_8 t0_9 t0_10 f33 (p134.1 : (Nat → Int32)) t5_0 = p156 at *
      have fsp156 := h7
      unfold S_FR_setAll_c84_6 F_FR_setAll_c84_6
      refine ⟨trivial, ?_⟩
      (unfold Q_FR_setAll; dsimp only; exact ⟨fsp49.w (hU.up (Int.le_trans (by decide) (fl_m0 hS7).1) (fl_m0 hS7).2 (N := 969) hx fl_kA), fsp49.nz (fl_big hU2 (fl_m0 hS7).1)⟩)
  ·
    rw [if_neg g2, if_neg g2]
    unfold S_FR_setAll_J60 F_FR_setAll_J60
    have h8 := T_FR_set (N2 := (1404 : Int32)) (x3 := ((4 * t0_7 : Int64) - 2 : Int64)) (t0_0 := t0_0) (t0_1 := t0_1) (t0_2 := t0_2) (t0_3 := t0_3) (t0_4 := t0_4) (t0_5 := t0_5) (t0_6 := t0_6) (t0_7 := t0_7) (t0_8 := t0_8) (t0_9 := t0_9) (t0_10 := t0_10) (t1_0 := f33) (t2_0 := (p49.1 : (Nat → Int32))) (t3_0 := t4_0) (by decide) hU.1 hU1 (Int.le_trans (by decide) (fl_m2 hS7).1) (hU.b (Int.le_trans (by decide) (fl_m2 hS7).1) (fl_m2 hS7).2 hx)
    with_reducible refine v_owe h8.1 ?_
    replace h8 := h8.2
    generalize F_FR_set (1404 : Int32) ((4 * t0_7 : Int64) - 2 : Int64) t0_0 t0_1 t0_2 t0_3 t0_4 t0_5 t0_6 t0_7 t0_8 t0_9 t0_10 f33 (p49.1 : (Nat → Int32)) t4_0 = p86 at *
    have fsp86 := h8
    unfold S_FR_setAll_c64 F_FR_setAll_c64
    have h9 := T_FR_set (N2 := (1404 : Int32)) (x3 := ((4 * t0_7 : Int64) + 2 : Int64)) (t0_0 := t0_0) (t0_1 := t0_1) (t0_2 := t0_2) (t0_3 := t0_3) (t0_4 := t0_4) (t0_5 := t0_5) (t0_6 := t0_6) (t0_7 := t0_7) (t0_8 := t0_8) (t0_9 := t0_9) (t0_10 := t0_10) (t1_0 := f33) (t2_0 := (p86.1 : (Nat → Int32))) (t3_0 := t5_0) (by decide) hU.1 hU1 (Int.le_trans (by decide) (fl_m3 hS7).1) (hU.b (Int.le_trans (by decide) (fl_m3 hS7).1) (fl_m3 hS7).2 hx)
    with_reducible refine v_owe h9.1 ?_
    replace h9 := h9.2
    generalize F_FR_set (1404 : Int32) ((4 * t0_7 : Int64) + 2 : Int64) t0_0 t0_1 t0_2 t0_3 t0_4 t0_5 t0_6 t0_7 t0_8 t0_9 t0_10 f33 (p86.1 : (Nat → Int32)) t5_0 = p108 at *
    have fsp108 := h9
    unfold S_FR_setAll_c84 F_FR_setAll_c84
    refine ⟨trivial, ?_⟩
    (unfold Q_FR_setAll; dsimp only; exact ⟨fsp49.w (hU.up (Int.le_trans (by decide) (fl_m0 hS7).1) (fl_m0 hS7).2 (N := 969) hx fl_kA), fsp49.nz (fl_big hU2 (fl_m0 hS7).1)⟩)
def Q_FR_setValue (t0_7 : Int64) (p : (Nat → Int32) × (Nat → Int32) × (Nat → Int32)) : Prop := flW p.2.2 ∧ (1 ≤ t0_7.toInt → flNz p.2.2)
theorem T_FR_setValue {t0_0 : Int32} {t0_1 : Int32} {t0_2 : Int32} {t0_3 : Int32} {t0_4 : Int64} {t0_5 : Int32} {t0_6 : Int32} {t0_7 : Int64} {t0_8 : Int32} {t0_9 : Int64} {t0_10 : Int32} {t1_0 : (Nat → Int32)} {t2_0 : (Nat → Int32)} {t3_0 : (Nat → Int32)} (hS7 : 0 ≤ t0_7.toInt ∧ t0_7.toInt < 9007199254740992) (hS8 : -1074 ≤ t0_8.toInt ∧ t0_8.toInt ≤ 971) : (S_FR_setValue t0_0 t0_1 t0_2 t0_3 t0_4 t0_5 t0_6 t0_7 t0_8 t0_9 t0_10 t1_0 t2_0 t3_0) ∧ Q_FR_setValue t0_7 (F_FR_setValue t0_0 t0_1 t0_2 t0_3 t0_4 t0_5 t0_6 t0_7 t0_8 t0_9 t0_10 t1_0 t2_0 t3_0) := by
  have e0 : (0 : Int32).toInt = 0 := rfl
  have e1 : (1 : Int32).toInt = 1 := rfl
  have eL0 : (0 : Int64).toInt = 0 := rfl
  have hU := T_FR_setUnit (x2 := t0_8) (t0_0 := t0_0) (t0_1 := t0_1) (t0_2 := t0_2) (t0_3 := t0_3) (t0_4 := t0_4) (t0_5 := t0_5) (t0_6 := t0_6) (t0_7 := t0_7) (t0_8 := t0_8) (t0_9 := t0_9) (t0_10 := t0_10) (t1_0 := t1_0) ⟨by omega, by omega⟩
  have hx := hS8.2
  have hU2 := hU.lo (by omega)
  have hU1 := fl_1V hU2
  unfold S_FR_setValue F_FR_setValue
  have h1 := T_FR_set (N2 := (1404 : Int32)) (x3 := t0_7) (t0_0 := t0_0) (t0_1 := t0_1) (t0_2 := t0_2) (t0_3 := t0_3) (t0_4 := t0_4) (t0_5 := t0_5) (t0_6 := t0_6) (t0_7 := t0_7) (t0_8 := t0_8) (t0_9 := t0_9) (t0_10 := t0_10) (t1_0 := ((F_FR_setUnit t0_8 t0_0 t0_1 t0_2 t0_3 t0_4 t0_5 t0_6 t0_7 t0_8 t0_9 t0_10 t1_0) : (Nat → Int32))) (t2_0 := t2_0) (t3_0 := t3_0) (by decide) hU.1 hU1 hS7.1 (hU.c hS7.1 (Int.le_trans (Int.le_of_lt hS7.2) (by decide)) hx)
  with_reducible refine v_owe h1.1 ?_
  replace h1 := h1.2
  generalize F_FR_set (1404 : Int32) t0_7 t0_0 t0_1 t0_2 t0_3 t0_4 t0_5 t0_6 t0_7 t0_8 t0_9 t0_10 ((F_FR_setUnit t0_8 t0_0 t0_1 t0_2 t0_3 t0_4 t0_5 t0_6 t0_7 t0_8 t0_9 t0_10 t1_0) : (Nat → Int32)) t2_0 t3_0 = p39 at *
  have fsp39 := h1
  generalize F_FR_setUnit t0_8 t0_0 t0_1 t0_2 t0_3 t0_4 t0_5 t0_6 t0_7 t0_8 t0_9 t0_10 t1_0 = f25 at *
  unfold S_FR_setValue_c17 F_FR_setValue_c17
  refine ⟨trivial, ?_⟩
  (unfold Q_FR_setValue; dsimp only; exact ⟨fsp39.w (hU.up hS7.1 (Int.le_trans (Int.le_of_lt hS7.2) (by decide)) (N := 971) hx fl_kB), fun h => fsp39.nz (fl_big hU2 h)⟩)
def Q_FR_leastLength (p : Int32 × (Nat → Int32)) : Prop := 1 ≤ p.1.toInt ∧ p.1.toInt ≤ 17
theorem vf_ll {t0_0 : Int32} {t0_1 : Int32} {t0_2 : Int32} {t0_3 : Int32} {t0_4 : Int64} {t0_5 : Int32} {t0_6 : Int32} {t0_7 : Int64} {t0_8 : Int32} {t0_9 : Int64} {t0_10 : Int32} {t1_0 : (Nat → Int32)} {t2_0 : (Nat → Int32)} {t3_0 : (Nat → Int32)} {t4_0 : (Nat → Int32)} {a29 : Int32} (hw : flW t1_0) (hn : flNz t1_0)(ha : 20 ≤ a29.toInt ∧ a29.toInt ≤ 1389) : ∀ (n : Nat) (lx35 : Int32) (lx36 : (Nat → Int32)), (1 ≤ lx35.toInt ∧ lx35.toInt ≤ 17) → (17 - lx35.toInt < (n : Int)) → (S_FR_leastLength_L7 t0_0 t0_1 t0_2 t0_3 t0_4 t0_5 t0_6 t0_7 t0_8 t0_9 t0_10 t1_0 t2_0 t3_0 t4_0 a29 n lx35 lx36) ∧ Q_FR_leastLength (F_FR_leastLength_L7 t0_0 t0_1 t0_2 t0_3 t0_4 t0_5 t0_6 t0_7 t0_8 t0_9 t0_10 t1_0 t2_0 t3_0 t4_0 a29 n lx35 lx36) := by
  intro n
  induction n with
  | zero => intro lx35 lx36 h0 hm; exact absurd (show False by omega) id
  | succ n ih =>
    intro lx35 lx36 h0 hm
    have e0 : (0 : Int32).toInt = 0 := rfl
    have e1 : (1 : Int32).toInt = 1 := rfl
    have eL0 : (0 : Int64).toInt = 0 := rfl
    rw [S_FR_leastLength_L7.eq_2, F_FR_leastLength_L7.eq_2]
    obtain ⟨pl, epl⟩ := q_nm ((a29 - lx35 : Int32) + 1 : Int32)
    rw [epl]
    have pli : pl.toInt = (a29.toInt - lx35.toInt) + 1 := by rw [← epl]; exact q_addI (y := 1) (q_subI rfl rfl (by omega) (by omega)) (by decide) (by omega) (by omega)
    by_cases g1 : (17 : Int32) ≤ lx35
    ·
      rw [if_pos g1, if_pos g1]
      have g1i : 17 ≤ lx35.toInt := q_leI g1
      refine ⟨trivial, ?_⟩
      (unfold Q_FR_leastLength; dsimp only; first | exact ⟨by omega, by omega⟩ | exact ⟨by decide, by decide⟩)
    ·
      rw [if_neg g1, if_neg g1]
      have g1i : lx35.toInt < 17 := q_nleI g1
      have h2 := T_FR_cut (x2 := pl) (x3 := (0 : Int32)) (t0_0 := t0_0) (t0_1 := t0_1) (t0_2 := t0_2) (t0_3 := t0_3) (t0_4 := t0_4) (t0_5 := t0_5) (t0_6 := t0_6) (t0_7 := t0_7) (t0_8 := t0_8) (t0_9 := t0_9) (t0_10 := t0_10) (t1_0 := t1_0) (t2_0 := lx36) (by with_reducible assumption) ⟨by omega, by omega⟩
      with_reducible refine v_owe h2.1 ?_
      have h3 := T_FR_readsBack (t0_0 := t0_0) (t0_1 := t0_1) (t0_2 := t0_2) (t0_3 := t0_3) (t0_4 := t0_4) (t0_5 := t0_5) (t0_6 := t0_6) (t0_7 := t0_7) (t0_8 := t0_8) (t0_9 := t0_9) (t0_10 := t0_10) (t1_0 := t2_0) (t2_0 := t3_0) (t3_0 := ((F_FR_cut pl (0 : Int32) t0_0 t0_1 t0_2 t0_3 t0_4 t0_5 t0_6 t0_7 t0_8 t0_9 t0_10 t1_0 lx36) : (Nat → Int32))) 
      with_reducible refine v_owe h3 ?_
      have h4 := T_FR_cut (x2 := pl) (x3 := (1 : Int32)) (t0_0 := t0_0) (t0_1 := t0_1) (t0_2 := t0_2) (t0_3 := t0_3) (t0_4 := t0_4) (t0_5 := t0_5) (t0_6 := t0_6) (t0_7 := t0_7) (t0_8 := t0_8) (t0_9 := t0_9) (t0_10 := t0_10) (t1_0 := t1_0) (t2_0 := ((F_FR_cut pl (0 : Int32) t0_0 t0_1 t0_2 t0_3 t0_4 t0_5 t0_6 t0_7 t0_8 t0_9 t0_10 t1_0 lx36) : (Nat → Int32))) (by with_reducible assumption) ⟨by omega, by omega⟩
      with_reducible refine v_owe h4.1 ?_
      by_cases g5 : ((F_FR_readsBack t0_0 t0_1 t0_2 t0_3 t0_4 t0_5 t0_6 t0_7 t0_8 t0_9 t0_10 t2_0 t3_0 ((F_FR_cut pl (0 : Int32) t0_0 t0_1 t0_2 t0_3 t0_4 t0_5 t0_6 t0_7 t0_8 t0_9 t0_10 t1_0 lx36) : (Nat → Int32))) : Int32) = (0 : Int32)
      ·
        rw [if_pos g5, if_pos g5]
        have h6 := T_FR_readsBack (t0_0 := t0_0) (t0_1 := t0_1) (t0_2 := t0_2) (t0_3 := t0_3) (t0_4 := t0_4) (t0_5 := t0_5) (t0_6 := t0_6) (t0_7 := t0_7) (t0_8 := t0_8) (t0_9 := t0_9) (t0_10 := t0_10) (t1_0 := t2_0) (t2_0 := t3_0) (t3_0 := ((F_FR_cut pl (1 : Int32) t0_0 t0_1 t0_2 t0_3 t0_4 t0_5 t0_6 t0_7 t0_8 t0_9 t0_10 t1_0 ((F_FR_cut pl (0 : Int32) t0_0 t0_1 t0_2 t0_3 t0_4 t0_5 t0_6 t0_7 t0_8 t0_9 t0_10 t1_0 lx36) : (Nat → Int32))) : (Nat → Int32))) 
        with_reducible refine v_owe h6 ?_
        by_cases g7 : ((F_FR_readsBack t0_0 t0_1 t0_2 t0_3 t0_4 t0_5 t0_6 t0_7 t0_8 t0_9 t0_10 t2_0 t3_0 ((F_FR_cut pl (1 : Int32) t0_0 t0_1 t0_2 t0_3 t0_4 t0_5 t0_6 t0_7 t0_8 t0_9 t0_10 t1_0 ((F_FR_cut pl (0 : Int32) t0_0 t0_1 t0_2 t0_3 t0_4 t0_5 t0_6 t0_7 t0_8 t0_9 t0_10 t1_0 lx36) : (Nat → Int32))) : (Nat → Int32))) : Int32) = (0 : Int32)
        ·
          rw [if_pos g7, if_pos g7]
          obtain ⟨a8, e9⟩ := q_nm (lx35 + 1 : Int32)
          rw [e9]
          have a8i : a8.toInt = lx35.toInt + 1 := by rw [← e9]; exact q_addI (x := lx35.toInt) (y := 1) rfl (by decide) (by omega) (by omega)
          exact ih _ _ (by first | with_reducible assumption | omega | decide) (by first | with_reducible assumption | omega | decide)
        ·
          rw [if_neg g7, if_neg g7]
          refine ⟨trivial, ?_⟩
          (unfold Q_FR_leastLength; dsimp only; first | exact ⟨by omega, by omega⟩ | exact ⟨by decide, by decide⟩)
      ·
        rw [if_neg g5, if_neg g5]
        refine ⟨trivial, ?_⟩
        (unfold Q_FR_leastLength; dsimp only; first | exact ⟨by omega, by omega⟩ | exact ⟨by decide, by decide⟩)
theorem T_FR_leastLength {t0_0 : Int32} {t0_1 : Int32} {t0_2 : Int32} {t0_3 : Int32} {t0_4 : Int64} {t0_5 : Int32} {t0_6 : Int32} {t0_7 : Int64} {t0_8 : Int32} {t0_9 : Int64} {t0_10 : Int32} {t1_0 : (Nat → Int32)} {t2_0 : (Nat → Int32)} {t3_0 : (Nat → Int32)} {t4_0 : (Nat → Int32)} (hw : flW t1_0) (hn : flNz t1_0) : (S_FR_leastLength t0_0 t0_1 t0_2 t0_3 t0_4 t0_5 t0_6 t0_7 t0_8 t0_9 t0_10 t1_0 t2_0 t3_0 t4_0) ∧ Q_FR_leastLength (F_FR_leastLength t0_0 t0_1 t0_2 t0_3 t0_4 t0_5 t0_6 t0_7 t0_8 t0_9 t0_10 t1_0 t2_0 t3_0 t4_0) := by
  have e0 : (0 : Int32).toInt = 0 := rfl
  have e1 : (1 : Int32).toInt = 1 := rfl
  have eL0 : (0 : Int64).toInt = 0 := rfl
  unfold S_FR_leastLength F_FR_leastLength
  have h1 := T_FR_top (t0_0 := t0_0) (t0_1 := t0_1) (t0_2 := t0_2) (t0_3 := t0_3) (t0_4 := t0_4) (t0_5 := t0_5) (t0_6 := t0_6) (t0_7 := t0_7) (t0_8 := t0_8) (t0_9 := t0_9) (t0_10 := t0_10) (t1_0 := t1_0) (by with_reducible assumption) (by with_reducible assumption)
  have h1q := h1.2
  with_reducible refine v_owe h1.1 ?_
  exact vf_ll hw hn (T_FR_top hw hn).2.1 _ _ _ ⟨by decide, by decide⟩ (by decide)
def Q_FR_findShortest (t0_0 t0_1 t0_2 t0_3 : Int32) (t0_4 : Int64) (t0_5 t0_6 : Int32) (t0_7 : Int64) (t0_8 : Int32) (p : Int32 × Int32 × Int32 × Int32 × Int64 × Int32 × Int32 × Int64 × Int32 × Int64 × Int32 × (Nat → Int32) × (Nat → Int32) × (Nat → Int32) × (Nat → Int32) × (Nat → Int32) × (Nat → Int32)) : Prop := p.1 = t0_0 ∧ p.2.1 = t0_1 ∧ p.2.2.1 = t0_2 ∧ p.2.2.2.1 = t0_3 ∧ p.2.2.2.2.1 = t0_4 ∧ p.2.2.2.2.2.1 = t0_5 ∧ p.2.2.2.2.2.2.1 = t0_6 ∧ p.2.2.2.2.2.2.2.1 = t0_7 ∧ p.2.2.2.2.2.2.2.2.1 = t0_8 ∧ (1 ≤ p.2.2.2.2.2.2.2.2.2.1.toInt ∧ p.2.2.2.2.2.2.2.2.2.1.toInt ≤ 1000000000000000000) ∧ (0 ≤ p.2.2.2.2.2.2.2.2.2.2.1.toInt ∧ p.2.2.2.2.2.2.2.2.2.2.1.toInt ≤ 1500) ∧ flW p.2.2.2.2.2.2.2.2.2.2.2.2.2.1 ∧ flNz p.2.2.2.2.2.2.2.2.2.2.2.2.2.1
theorem fl_sh2 {w s : Int64} {x : Int} (h : ∃ d : Nat, (d : Int) = x ∧ w.toInt = 10 ^ d) (hx : x ≤ 17) (hs : 0 ≤ s.toInt ∧ s.toInt ≤ w.toInt) : s.toInt ≤ 100000000000000000 := by
  obtain ⟨d, a, b⟩ := h
  have e := fl_mono (B := 10) (by decide) (show d ≤ 17 by omega)
  have e2 : (10 : Int) ^ 17 = 100000000000000000 := by decide
  rw [e2, ← b] at e
  omega
theorem vf_fs2 {K_F_FR_findShortest_L133 : Int32 → Int64 → Int64 → (Int32 × Int32 × Int32 × Int32 × Int64 × Int32 × Int32 × Int64 × Int32 × Int64 × Int32 × (Nat → Int32) × (Nat → Int32) × (Nat → Int32) × (Nat → Int32) × (Nat → Int32) × (Nat → Int32))} {t0_0 : Int32} {t0_1 : Int32} {t0_2 : Int32} {t0_3 : Int32} {t0_4 : Int64} {t0_5 : Int32} {t0_6 : Int32} {t0_7 : Int64} {t0_8 : Int32} {t0_9 : Int64} {t0_10 : Int32} {t1_0 : (Nat → Int32)} {t2_0 : (Nat → Int32)} {t3_0 : (Nat → Int32)} {t4_0 : (Nat → Int32)} {t5_0 : (Nat → Int32)} {t6_0 : (Nat → Int32)} {p47 : ((Nat → Int32) × (Nat → Int32) × (Nat → Int32) × (Nat → Int32) × (Nat → Int32))} {f35 : (Nat → Int32)} {f37 : (Nat → Int32)} {f39 : (Nat → Int32)} {f41 : (Nat → Int32)} {f43 : (Nat → Int32)} {p69 : (Int32 × (Nat → Int32))} {f63 : (Nat → Int32)} {lx78 : Int32} {a107 : Int32} {f131 : (Nat → Int32)} {lx152 : Int32} {lx168 : Int64} {lx191 : Int32} {lx192 : Int64} {lx193 : Int64} {K_S_FR_findShortest_L133 : Int32 → Int64 → Int64 → Prop} (hw : flW f39) (hn : flNz f39)(ha : 0 ≤ a107.toInt ∧ a107.toInt ≤ 1400) : ∀ (n : Nat) (lx220 : Int64) (lx221 : Int32), (1 ≤ lx220.toInt ∧ lx220.toInt ≤ 1000000000000000000) → (∃ m : Nat, m ≤ n ∧ lx220.toInt < 10 ^ m ∧ (m : Int) + lx221.toInt ≤ a107.toInt + 18) → (a107.toInt ≤ lx221.toInt) → (S_FR_findShortest_L176 K_S_FR_findShortest_L133 t0_0 t0_1 t0_2 t0_3 t0_4 t0_5 t0_6 t0_7 t0_8 t0_9 t0_10 t1_0 t2_0 t3_0 t4_0 t5_0 t6_0 p47 f35 f37 f39 f41 f43 p69 f63 lx78 a107 f131 lx152 lx168 lx191 lx192 lx193 n lx220 lx221) ∧ Q_FR_findShortest t0_0 t0_1 t0_2 t0_3 t0_4 t0_5 t0_6 t0_7 t0_8 (F_FR_findShortest_L176 K_F_FR_findShortest_L133 t0_0 t0_1 t0_2 t0_3 t0_4 t0_5 t0_6 t0_7 t0_8 t0_9 t0_10 t1_0 t2_0 t3_0 t4_0 t5_0 t6_0 p47 f35 f37 f39 f41 f43 p69 f63 lx78 a107 f131 lx152 lx168 lx191 lx192 lx193 n lx220 lx221) := by
  intro n
  induction n with
  | zero => intro lx220 lx221 h1 hm h2; obtain ⟨m, a, b, -⟩ := hm; rw [show m = 0 by omega, Int.pow_zero] at b; omega
  | succ n ih =>
    intro lx220 lx221 h1 hm h2
    have e0 : (0 : Int32).toInt = 0 := rfl
    have e1 : (1 : Int32).toInt = 1 := rfl
    have eL0 : (0 : Int64).toInt = 0 := rfl
    have h18 : lx221.toInt ≤ a107.toInt + 18 := by obtain ⟨m, a, b, c⟩ := hm; omega
    rw [S_FR_findShortest_L176.eq_2, F_FR_findShortest_L176.eq_2]
    by_cases g1 : (lg_cmp (lx220 - lx220 / 10 * 10 : Int64) 0 : Int32) = (0 : Int32)
    ·
      rw [if_pos g1, if_pos g1]
      obtain ⟨a2, e3⟩ := q_nm (lx221 + 1 : Int32)
      rw [e3]
      have a2i : a2.toInt = lx221.toInt + 1 := by rw [← e3]; exact q_addI (x := lx221.toInt) (y := 1) rfl (by decide) (by omega) (by omega)
      have z := fl_z10 h1.1 g1; obtain ⟨m, a, b, c⟩ := hm; have mp := fl_p10 z b h1.1; exact ih _ _ ⟨by omega, by omega⟩ ⟨m - 1, by omega, mp.2, by omega⟩ (by omega)
    ·
      rw [if_neg g1, if_neg g1]
      refine ⟨trivial, ?_⟩
      (unfold Q_FR_findShortest; dsimp only; exact ⟨rfl, rfl, rfl, rfl, rfl, rfl, rfl, rfl, rfl, h1, ⟨by omega, by omega⟩, hw, hn⟩)
theorem vf_fs1 {t0_0 : Int32} {t0_1 : Int32} {t0_2 : Int32} {t0_3 : Int32} {t0_4 : Int64} {t0_5 : Int32} {t0_6 : Int32} {t0_7 : Int64} {t0_8 : Int32} {t0_9 : Int64} {t0_10 : Int32} {t1_0 : (Nat → Int32)} {t2_0 : (Nat → Int32)} {t3_0 : (Nat → Int32)} {t4_0 : (Nat → Int32)} {t5_0 : (Nat → Int32)} {t6_0 : (Nat → Int32)} {p47 : ((Nat → Int32) × (Nat → Int32) × (Nat → Int32) × (Nat → Int32) × (Nat → Int32))} {f35 : (Nat → Int32)} {f37 : (Nat → Int32)} {f39 : (Nat → Int32)} {f41 : (Nat → Int32)} {f43 : (Nat → Int32)} {p69 : (Int32 × (Nat → Int32))} {f63 : (Nat → Int32)} {lx78 : Int32} {a107 : Int32} {f131 : (Nat → Int32)} {lx152 : Int32} {lx168 : Int64} (hw : flW f39) (hn : flNz f39){tp : Int32} (tq : Q_FR_top f39 tp) (hl : 1 ≤ lx78.toInt ∧ lx78.toInt ≤ 17) (ha : a107.toInt = tp.toInt - lx78.toInt + 1) : ∀ (n : Nat) (lx191 : Int32) (lx192 : Int64) (lx193 : Int64), (a107.toInt ≤ lx191.toInt ∧ lx191.toInt ≤ tp.toInt + 1) → (tp.toInt + 2 - lx191.toInt < (n : Int)) → (∃ d : Nat, (d : Int) = lx191.toInt - a107.toInt ∧ lx192.toInt = 10 ^ d) → (0 ≤ lx193.toInt ∧ lx193.toInt ≤ lx192.toInt) → (1 ≤ lx193.toInt ∨ ∀ i : Nat, a107.toInt ≤ (i : Int) → (i : Int) < lx191.toInt → (f39 i).toInt = 0) → (S_FR_findShortest_L133 t0_0 t0_1 t0_2 t0_3 t0_4 t0_5 t0_6 t0_7 t0_8 t0_9 t0_10 t1_0 t2_0 t3_0 t4_0 t5_0 t6_0 p47 f35 f37 f39 f41 f43 p69 f63 lx78 a107 f131 lx152 lx168 n lx191 lx192 lx193) ∧ Q_FR_findShortest t0_0 t0_1 t0_2 t0_3 t0_4 t0_5 t0_6 t0_7 t0_8 (F_FR_findShortest_L133 t0_0 t0_1 t0_2 t0_3 t0_4 t0_5 t0_6 t0_7 t0_8 t0_9 t0_10 t1_0 t2_0 t3_0 t4_0 t5_0 t6_0 p47 f35 f37 f39 f41 f43 p69 f63 lx78 a107 f131 lx152 lx168 n lx191 lx192 lx193) := by
  intro n
  induction n with
  | zero => intro lx191 lx192 lx193 h0 hm hd hs hz; exact absurd (show False by omega) id
  | succ n ih =>
    intro lx191 lx192 lx193 h0 hm hd hs hz
    have e0 : (0 : Int32).toInt = 0 := rfl
    have e1 : (1 : Int32).toInt = 1 := rfl
    have eL0 : (0 : Int64).toInt = 0 := rfl
    have tq1 := tq.1
    rw [S_FR_findShortest_L133.eq_2, F_FR_findShortest_L133.eq_2]
    have h1 := T_FR_top (t0_0 := t0_0) (t0_1 := t0_1) (t0_2 := t0_2) (t0_3 := t0_3) (t0_4 := t0_4) (t0_5 := t0_5) (t0_6 := t0_6) (t0_7 := t0_7) (t0_8 := t0_8) (t0_9 := lx193) (t0_10 := a107) (t1_0 := f39) (by with_reducible assumption) (by with_reducible assumption)
    have h1q := h1.2
    with_reducible refine v_owe h1.1 ?_
    by_cases g2 : ((F_FR_top t0_0 t0_1 t0_2 t0_3 t0_4 t0_5 t0_6 t0_7 t0_8 lx193 a107 f39) : Int32) < lx191
    ·
      rw [if_pos g2, if_pos g2]
      have g2i := fl_tl (by with_reducible assumption) tq g2
      have s1 : 1 ≤ lx193.toInt := by rcases hz with h | h; exact h; exact absurd (h tp.toNatClampNeg (by have := q_clI (i := tp) rfl (by omega); omega) (by have := q_clI (i := tp) rfl (by omega); omega)) tq.2.1
      have s2 := fl_sh2 hd (by omega) hs
      exact vf_fs2 hw hn ⟨by omega, by omega⟩ _ _ _ ⟨s1, by omega⟩ ⟨18, by decide, Int.lt_of_le_of_lt s2 (by decide), by omega⟩ (by omega)
    ·
      rw [if_neg g2, if_neg g2]
      have g2i := fl_tg (by with_reducible assumption) tq g2
      refine v_cons (by omega) ?_
      obtain ⟨a3, e4⟩ := q_nm (lx191 + 1 : Int32)
      rw [e4]
      have a3i : a3.toInt = lx191.toInt + 1 := by rw [← e4]; exact q_addI (x := lx191.toInt) (y := 1) rfl (by decide) (by omega) (by omega)
      have e91 := q_clI (i := lx191) rfl (by omega); obtain ⟨d, d1, d2⟩ := hd; have k := fl_sh (x := f39 lx191.toNatClampNeg) (w := lx192) (s := lx193) (d := d) (by omega) d2 hs (hw.1 _ (by omega)); exact ih _ _ _ ⟨by omega, by omega⟩ (by omega) ⟨d + 1, by omega, by rw [k.1, d2, fl_pw]⟩ k.2.1 (by rcases hz with h | h; (exact Or.inl (k.2.2.1 h)); by_cases z : (f39 lx191.toNatClampNeg).toInt = 0; (exact Or.inr (fun i a b => by by_cases c : i = lx191.toNatClampNeg; (rw [c]; exact z); exact h i a (by omega))); exact Or.inl (k.2.2.2 z))
theorem fl_tq {f : Nat → Int32} {a b : Int32} (h : Q_FR_top f a) (e : a = b) : Q_FR_top f b := by rw [← e]; exact h
theorem T_FR_fsJ {t0_0 : Int32} {t0_1 : Int32} {t0_2 : Int32} {t0_3 : Int32} {t0_4 : Int64} {t0_5 : Int32} {t0_6 : Int32} {t0_7 : Int64} {t0_8 : Int32} {t0_9 : Int64} {t0_10 : Int32} {t1_0 : (Nat → Int32)} {t2_0 : (Nat → Int32)} {t3_0 : (Nat → Int32)} {t4_0 : (Nat → Int32)} {t5_0 : (Nat → Int32)} {t6_0 : (Nat → Int32)} {p47 : ((Nat → Int32) × (Nat → Int32) × (Nat → Int32) × (Nat → Int32) × (Nat → Int32))} {f35 : (Nat → Int32)} {f37 : (Nat → Int32)} {f39 : (Nat → Int32)} {f41 : (Nat → Int32)} {f43 : (Nat → Int32)} {p69 : (Int32 × (Nat → Int32))} {f63 : (Nat → Int32)} {lx78 : Int32} (hw : flW f39) (hn : flNz f39)(hl : 1 ≤ lx78.toInt ∧ lx78.toInt ≤ 17) : (S_FR_findShortest_J19 t0_0 t0_1 t0_2 t0_3 t0_4 t0_5 t0_6 t0_7 t0_8 t0_9 t0_10 t1_0 t2_0 t3_0 t4_0 t5_0 t6_0 p47 f35 f37 f39 f41 f43 p69 f63 lx78) ∧ Q_FR_findShortest t0_0 t0_1 t0_2 t0_3 t0_4 t0_5 t0_6 t0_7 t0_8 (F_FR_findShortest_J19 t0_0 t0_1 t0_2 t0_3 t0_4 t0_5 t0_6 t0_7 t0_8 t0_9 t0_10 t1_0 t2_0 t3_0 t4_0 t5_0 t6_0 p47 f35 f37 f39 f41 f43 p69 f63 lx78) := by
  have e0 : (0 : Int32).toInt = 0 := rfl
  have e1 : (1 : Int32).toInt = 1 := rfl
  have eL0 : (0 : Int64).toInt = 0 := rfl
  unfold S_FR_findShortest_J19 F_FR_findShortest_J19
  obtain ⟨tp, etp⟩ := q_nm (F_FR_top t0_0 t0_1 t0_2 t0_3 t0_4 t0_5 t0_6 t0_7 t0_8 t0_9 t0_10 f39)
  have tq := fl_tq (T_FR_top hw hn).2 etp
  rw [etp]
  have tq1 := tq.1
  obtain ⟨lp, elp⟩ := q_nm ((tp - lx78 : Int32) + 1 : Int32)
  rw [elp]
  have lpi : lp.toInt = (tp.toInt - lx78.toInt) + 1 := by rw [← elp]; exact q_addI (y := 1) (q_subI rfl rfl (by omega) (by omega)) (by decide) (by omega) (by omega)
  have h1 := T_FR_top (t0_0 := t0_0) (t0_1 := t0_1) (t0_2 := t0_2) (t0_3 := t0_3) (t0_4 := t0_4) (t0_5 := t0_5) (t0_6 := t0_6) (t0_7 := t0_7) (t0_8 := t0_8) (t0_9 := t0_9) (t0_10 := t0_10) (t1_0 := f39) (by with_reducible assumption) (by with_reducible assumption)
  have h1q := h1.2
  with_reducible refine v_owe h1.1 ?_
  have h2 := T_FR_cut (x2 := lp) (x3 := (1 : Int32)) (t0_0 := t0_0) (t0_1 := t0_1) (t0_2 := t0_2) (t0_3 := t0_3) (t0_4 := t0_4) (t0_5 := t0_5) (t0_6 := t0_6) (t0_7 := t0_7) (t0_8 := t0_8) (t0_9 := t0_9) (t0_10 := lp) (t1_0 := f39) (t2_0 := f63) (by with_reducible assumption) ⟨by omega, by omega⟩
  with_reducible refine v_owe h2.1 ?_
  have h3 := T_FR_readsBack (t0_0 := t0_0) (t0_1 := t0_1) (t0_2 := t0_2) (t0_3 := t0_3) (t0_4 := t0_4) (t0_5 := t0_5) (t0_6 := t0_6) (t0_7 := t0_7) (t0_8 := t0_8) (t0_9 := t0_9) (t0_10 := lp) (t1_0 := f41) (t2_0 := f43) (t3_0 := ((F_FR_cut lp (1 : Int32) t0_0 t0_1 t0_2 t0_3 t0_4 t0_5 t0_6 t0_7 t0_8 t0_9 lp f39 f63) : (Nat → Int32))) 
  with_reducible refine v_owe h3 ?_
  have h4 := T_FR_cut (x2 := lp) (x3 := (0 : Int32)) (t0_0 := t0_0) (t0_1 := t0_1) (t0_2 := t0_2) (t0_3 := t0_3) (t0_4 := t0_4) (t0_5 := t0_5) (t0_6 := t0_6) (t0_7 := t0_7) (t0_8 := t0_8) (t0_9 := t0_9) (t0_10 := lp) (t1_0 := f39) (t2_0 := ((F_FR_cut lp (1 : Int32) t0_0 t0_1 t0_2 t0_3 t0_4 t0_5 t0_6 t0_7 t0_8 t0_9 lp f39 f63) : (Nat → Int32))) (by with_reducible assumption) ⟨by omega, by omega⟩
  with_reducible refine v_owe h4.1 ?_
  have h5 := T_FR_readsBack (t0_0 := t0_0) (t0_1 := t0_1) (t0_2 := t0_2) (t0_3 := t0_3) (t0_4 := t0_4) (t0_5 := t0_5) (t0_6 := t0_6) (t0_7 := t0_7) (t0_8 := t0_8) (t0_9 := t0_9) (t0_10 := lp) (t1_0 := f41) (t2_0 := f43) (t3_0 := ((F_FR_cut lp (0 : Int32) t0_0 t0_1 t0_2 t0_3 t0_4 t0_5 t0_6 t0_7 t0_8 t0_9 lp f39 ((F_FR_cut lp (1 : Int32) t0_0 t0_1 t0_2 t0_3 t0_4 t0_5 t0_6 t0_7 t0_8 t0_9 lp f39 f63) : (Nat → Int32))) : (Nat → Int32))) 
  with_reducible refine v_owe h5 ?_
  have h6 := T_FR_half (x2 := lp) (t0_0 := t0_0) (t0_1 := t0_1) (t0_2 := t0_2) (t0_3 := t0_3) (t0_4 := t0_4) (t0_5 := t0_5) (t0_6 := t0_6) (t0_7 := t0_7) (t0_8 := t0_8) (t0_9 := t0_9) (t0_10 := lp) (t1_0 := f39) ⟨by omega, by omega⟩
  with_reducible refine v_owe h6 ?_
  by_cases g7 : ((F_FR_readsBack t0_0 t0_1 t0_2 t0_3 t0_4 t0_5 t0_6 t0_7 t0_8 t0_9 lp f41 f43 ((F_FR_cut lp (1 : Int32) t0_0 t0_1 t0_2 t0_3 t0_4 t0_5 t0_6 t0_7 t0_8 t0_9 lp f39 f63) : (Nat → Int32))) : Int32) = (0 : Int32)
  ·
    rw [if_pos g7, if_pos g7]
    unfold S_FR_findShortest_J107 F_FR_findShortest_J107
    unfold S_FR_findShortest_J108 F_FR_findShortest_J108
    have g8 : ((0 : Int32) = (0 : Int32)) := (by decide)
    rw [if_pos g8, if_pos g8]
    unfold S_FR_findShortest_J121 F_FR_findShortest_J121
    exact vf_fs1 hw hn tq hl (by omega) 1000000 _ _ _ ⟨by omega, by omega⟩ (by omega) ⟨0, by omega, by decide⟩ (by decide) (Or.inr (fun i a b => by omega))
  ·
    rw [if_neg g7, if_neg g7]
    by_cases g9 : ((F_FR_readsBack t0_0 t0_1 t0_2 t0_3 t0_4 t0_5 t0_6 t0_7 t0_8 t0_9 lp f41 f43 ((F_FR_cut lp (0 : Int32) t0_0 t0_1 t0_2 t0_3 t0_4 t0_5 t0_6 t0_7 t0_8 t0_9 lp f39 ((F_FR_cut lp (1 : Int32) t0_0 t0_1 t0_2 t0_3 t0_4 t0_5 t0_6 t0_7 t0_8 t0_9 lp f39 f63) : (Nat → Int32))) : (Nat → Int32))) : Int32) = (0 : Int32)
    ·
      rw [if_pos g9, if_pos g9]
      unfold S_FR_findShortest_J103 F_FR_findShortest_J103
      unfold S_FR_findShortest_J108 F_FR_findShortest_J108
      have g10 : ¬ ((1 : Int32) = (0 : Int32)) := (by decide)
      rw [if_neg g10, if_neg g10]
      unfold S_FR_findShortest_J121 F_FR_findShortest_J121
      exact vf_fs1 hw hn tq hl (by omega) 1000000 _ _ _ ⟨by omega, by omega⟩ (by omega) ⟨0, by omega, by decide⟩ (by decide) (Or.inr (fun i a b => by omega))
    ·
      rw [if_neg g9, if_neg g9]
      by_cases g11 : (0 : Int32) < ((F_FR_half lp t0_0 t0_1 t0_2 t0_3 t0_4 t0_5 t0_6 t0_7 t0_8 t0_9 lp f39) : Int32)
      ·
        rw [if_pos g11, if_pos g11]
        unfold S_FR_findShortest_J103 F_FR_findShortest_J103
        unfold S_FR_findShortest_J108 F_FR_findShortest_J108
        have g12 : ¬ ((1 : Int32) = (0 : Int32)) := (by decide)
        rw [if_neg g12, if_neg g12]
        unfold S_FR_findShortest_J121 F_FR_findShortest_J121
        exact vf_fs1 hw hn tq hl (by omega) 1000000 _ _ _ ⟨by omega, by omega⟩ (by omega) ⟨0, by omega, by decide⟩ (by decide) (Or.inr (fun i a b => by omega))
      ·
        rw [if_neg g11, if_neg g11]
        by_cases g13 : ((F_FR_half lp t0_0 t0_1 t0_2 t0_3 t0_4 t0_5 t0_6 t0_7 t0_8 t0_9 lp f39) : Int32) = (0 : Int32)
        ·
          rw [if_pos g13, if_pos g13]
          refine v_cons (by omega) ?_
          by_cases g14 : ((f39 lp.toNatClampNeg : Int32) - (f39 lp.toNatClampNeg : Int32) / 2 * 2 : Int32) = (1 : Int32)
          ·
            rw [if_pos g14, if_pos g14]
            unfold S_FR_findShortest_J103 F_FR_findShortest_J103
            unfold S_FR_findShortest_J108 F_FR_findShortest_J108
            have g15 : ¬ ((1 : Int32) = (0 : Int32)) := (by decide)
            rw [if_neg g15, if_neg g15]
            unfold S_FR_findShortest_J121 F_FR_findShortest_J121
            exact vf_fs1 hw hn tq hl (by omega) 1000000 _ _ _ ⟨by omega, by omega⟩ (by omega) ⟨0, by omega, by decide⟩ (by decide) (Or.inr (fun i a b => by omega))
          ·
            rw [if_neg g14, if_neg g14]
            unfold S_FR_findShortest_J107 F_FR_findShortest_J107
            unfold S_FR_findShortest_J108 F_FR_findShortest_J108
            have g16 : ((0 : Int32) = (0 : Int32)) := (by decide)
            rw [if_pos g16, if_pos g16]
            unfold S_FR_findShortest_J121 F_FR_findShortest_J121
            exact vf_fs1 hw hn tq hl (by omega) 1000000 _ _ _ ⟨by omega, by omega⟩ (by omega) ⟨0, by omega, by decide⟩ (by decide) (Or.inr (fun i a b => by omega))
        ·
          rw [if_neg g13, if_neg g13]
          unfold S_FR_findShortest_J107 F_FR_findShortest_J107
          unfold S_FR_findShortest_J108 F_FR_findShortest_J108
          have g17 : ((0 : Int32) = (0 : Int32)) := (by decide)
          rw [if_pos g17, if_pos g17]
          unfold S_FR_findShortest_J121 F_FR_findShortest_J121
          exact vf_fs1 hw hn tq hl (by omega) 1000000 _ _ _ ⟨by omega, by omega⟩ (by omega) ⟨0, by omega, by decide⟩ (by decide) (Or.inr (fun i a b => by omega))
theorem T_FR_findShortest {t0_0 : Int32} {t0_1 : Int32} {t0_2 : Int32} {t0_3 : Int32} {t0_4 : Int64} {t0_5 : Int32} {t0_6 : Int32} {t0_7 : Int64} {t0_8 : Int32} {t0_9 : Int64} {t0_10 : Int32} {t1_0 : (Nat → Int32)} {t2_0 : (Nat → Int32)} {t3_0 : (Nat → Int32)} {t4_0 : (Nat → Int32)} {t5_0 : (Nat → Int32)} {t6_0 : (Nat → Int32)} (hS7 : 1 ≤ t0_7.toInt ∧ t0_7.toInt < 9007199254740992) (hS8 : -1074 ≤ t0_8.toInt ∧ t0_8.toInt ≤ 971) : (S_FR_findShortest t0_0 t0_1 t0_2 t0_3 t0_4 t0_5 t0_6 t0_7 t0_8 t0_9 t0_10 t1_0 t2_0 t3_0 t4_0 t5_0 t6_0) ∧ Q_FR_findShortest t0_0 t0_1 t0_2 t0_3 t0_4 t0_5 t0_6 t0_7 t0_8 (F_FR_findShortest t0_0 t0_1 t0_2 t0_3 t0_4 t0_5 t0_6 t0_7 t0_8 t0_9 t0_10 t1_0 t2_0 t3_0 t4_0 t5_0 t6_0) := by
  have e0 : (0 : Int32).toInt = 0 := rfl
  have e1 : (1 : Int32).toInt = 1 := rfl
  have eL0 : (0 : Int64).toInt = 0 := rfl
  unfold S_FR_findShortest F_FR_findShortest
  have h1 := T_FR_setAll (t0_0 := t0_0) (t0_1 := t0_1) (t0_2 := t0_2) (t0_3 := t0_3) (t0_4 := t0_4) (t0_5 := t0_5) (t0_6 := t0_6) (t0_7 := t0_7) (t0_8 := t0_8) (t0_9 := t0_9) (t0_10 := t0_10) (t1_0 := t1_0) (t2_0 := t2_0) (t3_0 := t3_0) (t4_0 := t4_0) (t5_0 := t5_0) hS7 hS8
  with_reducible refine v_owe h1.1 ?_
  replace h1 := h1.2
  generalize F_FR_setAll t0_0 t0_1 t0_2 t0_3 t0_4 t0_5 t0_6 t0_7 t0_8 t0_9 t0_10 t1_0 t2_0 t3_0 t4_0 t5_0 = p47 at *
  obtain ⟨hw, hn⟩ := h1
  unfold S_FR_findShortest_c1 F_FR_findShortest_c1
  have h2 := T_FR_leastLength (t0_0 := t0_0) (t0_1 := t0_1) (t0_2 := t0_2) (t0_3 := t0_3) (t0_4 := t0_4) (t0_5 := t0_5) (t0_6 := t0_6) (t0_7 := t0_7) (t0_8 := t0_8) (t0_9 := t0_9) (t0_10 := t0_10) (t1_0 := (p47.2.2.1 : (Nat → Int32))) (t2_0 := (p47.2.2.2.1 : (Nat → Int32))) (t3_0 := (p47.2.2.2.2 : (Nat → Int32))) (t4_0 := t6_0) (by with_reducible assumption) (by with_reducible assumption)
  with_reducible refine v_owe h2.1 ?_
  replace h2 := h2.2
  generalize F_FR_leastLength t0_0 t0_1 t0_2 t0_3 t0_4 t0_5 t0_6 t0_7 t0_8 t0_9 t0_10 (p47.2.2.1 : (Nat → Int32)) (p47.2.2.2.1 : (Nat → Int32)) (p47.2.2.2.2 : (Nat → Int32)) t6_0 = p69 at *
  unfold Q_FR_leastLength at h2
  unfold S_FR_findShortest_c5 F_FR_findShortest_c5
  by_cases g3 : (p69.1 : Int32) = (1 : Int32)
  ·
    rw [if_pos g3, if_pos g3]
    have g3i : p69.1.toInt = 1 := q_eqI g3
    exact T_FR_fsJ hw hn ⟨by first | omega | decide, by first | omega | decide⟩
  ·
    rw [if_neg g3, if_neg g3]
    have g3i : p69.1.toInt ≠ 1 := q_neI g3
    exact T_FR_fsJ hw hn ⟨by first | omega | decide, by first | omega | decide⟩
