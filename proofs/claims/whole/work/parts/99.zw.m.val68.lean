/-! values, for whole: the reference's powers -/
theorem w_npow {A : Int} : ∀ n : Nat, (-A) ^ n = if n % 2 = 1 then -(A ^ n) else A ^ n
  | 0 => by
    rw [if_neg (by decide), Int.pow_zero, Int.pow_zero]
  | n + 1 => by
    rw [Int.pow_succ, Int.pow_succ, w_npow n]
    by_cases h : n % 2 = 1
    · rw [if_pos h, if_neg (by omega), Int.neg_mul_neg]
    · rw [if_neg h, if_pos (by omega), Int.mul_neg]
theorem w_pwS {m be : Int32} {A Wa : Int} {N : Nat} (hW : Wa = sgI m A) (hm : m = 0 ∨ m = 1) (h : (m = 0 ∧ be = 0) ∨ (¬ m = 0 ∧ N % 2 = 1 ∧ be = 1) ∨ (¬ m = 0 ∧ ¬ N % 2 = 1 ∧ be = 0)) : sgI be (A ^ N) = Wa ^ N := by
  rw [hW]
  rcases h with ⟨a, b⟩ | ⟨a, b, c⟩ | ⟨a, b, c⟩
  · rw [a, b, sgI0, sgI0]
  · have a1 := hm.resolve_left a
    rw [c, a1, sgI, if_neg (by decide), sgI, if_neg (by decide), w_npow, if_pos b]
  · have a1 := hm.resolve_left a
    rw [c, a1, sgI0, sgI, if_neg (by decide), w_npow, if_neg b]
theorem w_szV {f : Nat → Int32} {v : Int} (h : wK v f) : (F_WR_size 264 f ≤ 128 → v < 65536 ^ 128) ∧ (¬ F_WR_size 264 f ≤ 128 → 65536 ^ 128 ≤ v) := by
  have e128 : (128 : Int32).toInt = 128 := rfl
  have ev : wV f 264 = v := h.2
  have hz := R_size (N := 264) (f := f) (by decide)
  have hs := R_size4 (f := f)
  have hc := q_clI (i := F_WR_size 264 f) rfl hs.1
  refine ⟨fun c => ?_, fun c => ?_⟩
  · have c2 := q_leI c
    have h1 := hz.lt h.1
    rw [show (264 : Int32).toNatClampNeg = 264 from rfl, ev] at h1
    have h2 := w_pwle (k := (F_WR_size 264 f).toNatClampNeg) (i := 128) (by omega)
    omega
  · have c2 := q_nleI c
    have h1 := hz.ge h.1 (by omega)
    rw [show (264 : Int32).toNatClampNeg = 264 from rfl, ev] at h1
    have h2 := w_pwle (k := 128) (i := (F_WR_size 264 f).toNatClampNeg - 1) (by omega)
    omega
theorem w_pwBig {A : Int} {k N : Nat} (h0 : 0 ≤ A) (h : 65536 ^ 128 ≤ A ^ k) (hk : k ≤ N) : 65536 ^ 128 ≤ A ^ N := by
  have hp := w_pos 128
  have h1 : 1 ≤ A := by
    apply Classical.byContradiction
    intro h2
    have a0 : A = 0 := by omega
    rw [a0] at h
    cases k with
    | zero =>
      rw [Int.pow_zero] at h
      have h3 : (65536 : Int) ^ 1 ≤ 65536 ^ 128 := w_pwle (by omega)
      rw [Int.pow_one] at h3
      omega
    | succ k =>
      rw [Int.zero_pow (by omega)] at h
      omega
  have h3 : A ^ k * 1 ≤ A ^ k * A ^ (N - k) := Int.mul_le_mul_of_nonneg_left (by have := Int.pow_pos (n := A) (m := N - k) (by omega); omega) (by omega)
  rw [← Int.pow_add, show k + (N - k) = N by omega] at h3
  omega
theorem V_pwL {x2 : Int32} {x3 : Int32} {x4 : Int32} {t0_0 : Int32} {t0_1 : Int32} {t0_2 : Int32} {t0_3 : Int32} {t0_4 : Int32} {t0_5 : Int32} {t0_6 : Int32} {t1_0 : (Nat → Int32)} {t2_0 : (Nat → Int32)} {t3_0 : (Nat → Int32)} {t4_0 : (Nat → Int32)} {t5_0 : (Nat → Int32)} {lx36 : Int32} {f68 : (Nat → Int32)} {f60 : (Nat → Int32)} {lx80 : Int32} {lx95 : Int32} {W : Nat → Int} {A : Int} {N T : Nat} (hr : wRv t1_0 t2_0 W) (hx4 : 0 ≤ x4.toInt ∧ x4.toInt ≤ 10) (hA : wK A f60) (hA1 : A < 65536 ^ 128) (hW : W x2.toNatClampNeg = sgI (t2_0 x2.toNatClampNeg) A) (hmm : t2_0 x2.toNatClampNeg = 0 ∨ t2_0 x2.toNatClampNeg = 1) (hn : x3.toInt = (N : Int)) (hT : lx95.toInt = (T : Int)) (hTN : A ^ T = A ^ N) (hTl : T ≤ N) (h36 : lx36 = 0) : ∀ (n : Nat) (lx110 : Int32) (lx111 : (Nat → Int32)) (lx112 : (Nat → Int32)), ∀ k : Nat, lx110.toInt = (k : Int) → k ≤ T → T - k < n → A ^ k < 65536 ^ 128 → wK (A ^ k) lx111 → wAn x4 W (some (W x2.toNatClampNeg ^ N)) (F_WR_power_L119 x2 x3 x4 t0_0 t0_1 t0_2 t0_3 t0_4 t0_5 t0_6 t1_0 t2_0 t3_0 t4_0 t5_0 lx36 f68 f60 lx80 lx95 n lx110 lx111 lx112).1 (F_WR_power_L119 x2 x3 x4 t0_0 t0_1 t0_2 t0_3 t0_4 t0_5 t0_6 t1_0 t2_0 t3_0 t4_0 t5_0 lx36 f68 f60 lx80 lx95 n lx110 lx111 lx112).2.2.2.2.2.2.2.1 (F_WR_power_L119 x2 x3 x4 t0_0 t0_1 t0_2 t0_3 t0_4 t0_5 t0_6 t1_0 t2_0 t3_0 t4_0 t5_0 lx36 f68 f60 lx80 lx95 n lx110 lx111 lx112).2.2.2.2.2.2.2.2.1 := by
  have e1 := v_e1
  have e2 : (2 : Int32).toInt = 2 := rfl
  have A0 := hA.nn
  have hTt := Int32.toInt_lt lx95
  have hrem : (x3 - x3 / 2 * 2 : Int32).toInt = ((N % 2 : Nat) : Int) := by
    rw [v_rem (by omega) (by omega), hn, e2]
    omega
  intro n
  induction n with
  | zero => intros; omega
  | succ n ih =>
    intro lx110 lx111 lx112 k hk hkT hkn hkA hp
    rw [F_WR_power_L119.eq_2]
    by_cases c : lx95 ≤ lx110
    · rw [if_pos c]
      have c2 := q_leI c
      have kT : k = T := by omega
      rw [kT, hTN] at hp
      have P0 := hp.nn
      by_cases d : t2_0 x2.toNatClampNeg = 0
      · rw [if_pos d]
        have h1 : wSv x4 W (A ^ N) lx36 2 0 (F_WR_store x4 lx36 (2 : Int32) t0_2 (0 : Int32) t0_4 t0_5 t0_6 t1_0 t2_0 lx111) := (R_storeV hx4 hr hp).2
        generalize (F_WR_store x4 lx36 (2 : Int32) t0_2 (0 : Int32) t0_4 t0_5 t0_6 t1_0 t2_0 lx111) = p166 at h1 ⊢
        unfold F_WR_power_c194
        exact wAn_st h1 h36 rfl (w_pwS hW hmm (Or.inl ⟨d, rfl⟩)) P0
      · rw [if_neg d]
        by_cases o : (x3 - x3 / 2 * 2 : Int32) = 1
        · rw [if_pos o]
          rw [o, e1] at hrem
          have h1 : wSv x4 W (A ^ N) lx36 2 1 (F_WR_store x4 lx36 (2 : Int32) t0_2 (1 : Int32) t0_4 t0_5 t0_6 t1_0 t2_0 lx111) := (R_storeV hx4 hr hp).2
          generalize (F_WR_store x4 lx36 (2 : Int32) t0_2 (1 : Int32) t0_4 t0_5 t0_6 t1_0 t2_0 lx111) = p266 at h1 ⊢
          unfold F_WR_power_c194_7
          exact wAn_st h1 h36 rfl (w_pwS hW hmm (Or.inr (Or.inl ⟨d, by omega, rfl⟩))) P0
        · rw [if_neg o]
          have o2 : ¬ N % 2 = 1 := fun h9 => o (Int32.toInt_inj.mp (by omega))
          have h1 : wSv x4 W (A ^ N) lx36 2 0 (F_WR_store x4 lx36 (2 : Int32) t0_2 (0 : Int32) t0_4 t0_5 t0_6 t1_0 t2_0 lx111) := (R_storeV hx4 hr hp).2
          generalize (F_WR_store x4 lx36 (2 : Int32) t0_2 (0 : Int32) t0_4 t0_5 t0_6 t1_0 t2_0 lx111) = p218 at h1 ⊢
          unfold F_WR_power_c194_6
          exact wAn_st h1 h36 rfl (w_pwS hW hmm (Or.inr (Or.inr ⟨d, o2, rfl⟩))) P0
    · rw [if_neg c]
      have c2 := q_nleI c
      have h1 : (fun p => wK (A ^ k * A) p.2) (F_WR_multiplyRows_a (264 : Int32) (264 : Int32) lx36 (2 : Int32) t0_2 t0_3 t0_4 t0_5 t0_6 lx112 lx111 f60) := (R_mul4aV hp hA (w_m264 ⟨hp.nn, hkA⟩ ⟨A0, hA1⟩)).2
      generalize (F_WR_multiplyRows_a (264 : Int32) (264 : Int32) lx36 (2 : Int32) t0_2 t0_3 t0_4 t0_5 t0_6 lx112 lx111 f60) = p292 at h1 ⊢
      unfold F_WR_power_c139
      rw [← Int.pow_succ] at h1
      have hs := w_szV h1
      by_cases d : F_WR_size 264 p292.2 ≤ 128
      · rw [if_pos d]
        have ej : (lx110 + 1 : Int32).toInt = ((k + 1 : Nat) : Int) := by
          rw [q_addI hk e1 (by omega) (by omega)]
          omega
        exact ih _ _ _ (k + 1) ej (by omega) (by omega) (hs.1 d) h1
      · rw [if_neg d]
        have hb := w_pwBig (N := N) A0 (hs.2 d) (by omega)
        refine Or.inr ⟨Or.inr ⟨_, rfl, ?_⟩, rfl, hr.w⟩
        rw [hW, Int.natAbs_pow, sgI_abs, ← Int.natAbs_pow]
        rw [w_2048] at hb
        generalize 2 ^ 2048 = M at hb ⊢
        omega
theorem w_sm {A : Int} {N T : Nat} (h : A = 0 ∨ A = 1) (hN : 2 < N) (hT : T = 2 - N % 2) : A ^ T = A ^ N := by
  rcases h with rfl | rfl
  · rw [Int.zero_pow (by omega), Int.zero_pow (by omega)]
  · rw [Int.one_pow, Int.one_pow]
theorem V_pwJ93 {x2 : Int32} {x3 : Int32} {x4 : Int32} {t0_0 : Int32} {t0_1 : Int32} {t0_2 : Int32} {t0_3 : Int32} {t0_4 : Int32} {t0_5 : Int32} {t0_6 : Int32} {t1_0 : (Nat → Int32)} {t2_0 : (Nat → Int32)} {t3_0 : (Nat → Int32)} {t4_0 : (Nat → Int32)} {t5_0 : (Nat → Int32)} {lx36 : Int32} {f68 : (Nat → Int32)} {f60 : (Nat → Int32)} {lx80 : Int32} {W : Nat → Int} {A : Int} {N : Nat} (hr : wRv t1_0 t2_0 W) (hx4 : 0 ≤ x4.toInt ∧ x4.toInt ≤ 10) (hA : wK A f60) (hA1 : A < 65536 ^ 128) (hW : W x2.toNatClampNeg = sgI (t2_0 x2.toNatClampNeg) A) (hmm : t2_0 x2.toNatClampNeg = 0 ∨ t2_0 x2.toNatClampNeg = 1) (hn : x3.toInt = (N : Int)) (h36 : lx36 = 0) (h68 : wK 1 f68) (h80 : lx80 = 0 ∨ A = 0 ∨ A = 1) : wAn x4 W (some (W x2.toNatClampNeg ^ N)) (F_WR_power_J93 x2 x3 x4 t0_0 t0_1 t0_2 t0_3 t0_4 t0_5 t0_6 t1_0 t2_0 t3_0 t4_0 t5_0 lx36 f68 f60 lx80).1 (F_WR_power_J93 x2 x3 x4 t0_0 t0_1 t0_2 t0_3 t0_4 t0_5 t0_6 t1_0 t2_0 t3_0 t4_0 t5_0 lx36 f68 f60 lx80).2.2.2.2.2.2.2.1 (F_WR_power_J93 x2 x3 x4 t0_0 t0_1 t0_2 t0_3 t0_4 t0_5 t0_6 t1_0 t2_0 t3_0 t4_0 t5_0 lx36 f68 f60 lx80).2.2.2.2.2.2.2.2.1 := by
  have e0 : (0 : Int32).toInt = 0 := rfl
  have e2 : (2 : Int32).toInt = 2 := rfl
  have p1 : (1 : Int) < 65536 ^ 128 := by
    have h3 : (65536 : Int) ^ 1 ≤ 65536 ^ 128 := w_pwle (by omega)
    rw [Int.pow_one] at h3
    omega
  have hxt := Int32.toInt_lt x3
  have J : ∀ (l95 : Int32) (T : Nat), l95.toInt = (T : Int) → A ^ T = A ^ N → T ≤ N → wAn x4 W (some (W x2.toNatClampNeg ^ N)) (F_WR_power_J114 x2 x3 x4 t0_0 t0_1 t0_2 t0_3 t0_4 t0_5 t0_6 t1_0 t2_0 t3_0 t4_0 t5_0 lx36 f68 f60 lx80 l95).1 (F_WR_power_J114 x2 x3 x4 t0_0 t0_1 t0_2 t0_3 t0_4 t0_5 t0_6 t1_0 t2_0 t3_0 t4_0 t5_0 lx36 f68 f60 lx80 l95).2.2.2.2.2.2.2.1 (F_WR_power_J114 x2 x3 x4 t0_0 t0_1 t0_2 t0_3 t0_4 t0_5 t0_6 t1_0 t2_0 t3_0 t4_0 t5_0 lx36 f68 f60 lx80 l95).2.2.2.2.2.2.2.2.1 := fun l95 T h1 h2 h3 => by
    unfold F_WR_power_J114
    exact V_pwL hr hx4 hA hA1 hW hmm hn h1 h2 h3 h36 _ _ _ _ 0 e0 (by omega) (by rw [e0]; omega) (by rw [Int.pow_zero]; exact p1) (by rw [Int.pow_zero]; exact h68)
  unfold F_WR_power_J93
  by_cases c : lx80 = 0
  · rw [if_pos c]
    exact J x3 N hn rfl (Nat.le_refl _)
  · rw [if_neg c]
    by_cases d : x3 ≤ 2
    · rw [if_pos d]
      exact J x3 N hn rfl (Nat.le_refl _)
    · rw [if_neg d]
      have d2 := q_nleI d
      have hrem : (x3 - x3 / 2 * 2 : Int32).toInt = ((N % 2 : Nat) : Int) := by
        rw [v_rem (by omega) (by omega), hn, e2]
        omega
      have ht : (2 - (x3 - x3 / 2 * 2) : Int32).toInt = ((2 - N % 2 : Nat) : Int) := by
        rw [q_subI e2 hrem (by omega) (by omega)]
        omega
      exact J _ (2 - N % 2) ht (w_sm (h80.resolve_left c) (by omega) rfl) (by omega)
theorem V_WR_power {x2 : Int32} {x3 : Int32} {x4 : Int32} {t0_0 : Int32} {t0_1 : Int32} {t0_2 : Int32} {t0_3 : Int32} {t0_4 : Int32} {t0_5 : Int32} {t0_6 : Int32} {t1_0 : (Nat → Int32)} {t2_0 : (Nat → Int32)} {t3_0 : (Nat → Int32)} {t4_0 : (Nat → Int32)} {t5_0 : (Nat → Int32)} {W : Nat → Int} {N : Nat} (hr : wRv t1_0 t2_0 W) (hx2 : 0 ≤ x2.toInt ∧ x2.toInt ≤ 10) (hx4 : 0 ≤ x4.toInt ∧ x4.toInt ≤ 10) (hn : x3.toInt = (N : Int)) : wAn x4 W (some (W x2.toNatClampNeg ^ N)) (F_WR_power x2 x3 x4 t0_0 t0_1 t0_2 t0_3 t0_4 t0_5 t0_6 t1_0 t2_0 t3_0 t4_0 t5_0).1 (F_WR_power x2 x3 x4 t0_0 t0_1 t0_2 t0_3 t0_4 t0_5 t0_6 t1_0 t2_0 t3_0 t4_0 t5_0).2.2.2.2.2.2.2.1 (F_WR_power x2 x3 x4 t0_0 t0_1 t0_2 t0_3 t0_4 t0_5 t0_6 t1_0 t2_0 t3_0 t4_0 t5_0).2.2.2.2.2.2.2.2.1 := by
  have e0 : (0 : Int32).toInt = 0 := rfl
  have hb := wVk_nn hx2 hr.1
  obtain ⟨hmm, hW⟩ := hr.sg hx2
  have t1 := (R_take (x2 := x2) (t0_0 := 0) (t0_1 := 2) (t0_2 := t0_2) (t0_3 := t0_3) (t0_4 := t0_4) (t0_5 := t0_5) (t0_6 := t0_6) (t1_0 := t1_0) (t2_0 := t5_0) hx2 hr.1).2
  have h1 := w_is1 t1
  have h68 : wK 1 (F_WR_setOne 264 0 2 t0_2 t0_3 t0_4 t0_5 t0_6 t3_0) := R_setOne.2
  unfold F_WR_power
  rw [if_pos (w_no0 hx2), if_pos (w_no0 hx4), if_pos (Int32.le_iff_toInt_le.mpr (by omega))]
  unfold F_WR_power_J24
  rw [if_pos (by decide)]
  by_cases c : F_WR_size 264 (F_WR_take x2 264 0 2 t0_2 t0_3 t0_4 t0_5 t0_6 t1_0 t5_0) = 0
  · rw [if_pos c]
    have z := w_sz0 t1.1 (by rw [c]; decide)
    have z2 : wVk t1_0 x2 = 0 := t1.2.symm.trans z
    unfold F_WR_power_J88
    exact V_pwJ93 hr hx4 t1 hb.2 hW hmm hn rfl h68 (Or.inr (Or.inl z2))
  · rw [if_neg c]
    by_cases d : F_WR_size 264 (F_WR_take x2 264 0 2 t0_2 t0_3 t0_4 t0_5 t0_6 t1_0 t5_0) = 1
    · rw [if_pos d]
      by_cases e : (F_WR_take x2 264 0 2 t0_2 t0_3 t0_4 t0_5 t0_6 t1_0 t5_0) (0 : Int32).toNatClampNeg = 1
      · rw [if_pos e]
        unfold F_WR_power_J88
        exact V_pwJ93 hr hx4 t1 hb.2 hW hmm hn rfl h68 (Or.inr (Or.inr (h1.mp ⟨d, e⟩)))
      · rw [if_neg e]
        unfold F_WR_power_J92
        exact V_pwJ93 hr hx4 t1 hb.2 hW hmm hn rfl h68 (Or.inl rfl)
    · rw [if_neg d]
      unfold F_WR_power_J92
      exact V_pwJ93 hr hx4 t1 hb.2 hW hmm hn rfl h68 (Or.inl rfl)
