/-! values, for whole: the reference's DecimalRows: remainder -/
/-- the rest so far -/
def uR (U P : Int) (Z : Nat) (un : Nat → Int32) (z7 : Int32) (le : Nat → Int32) : Prop := uW z7 un le ∧ z7.toInt = (Z : Int) ∧ ∃ Q : Int, Q * U + uV le (Z + 1) = P
theorem u_rst {U P : Int} {Z : Nat} {un le : Nat → Int32} {z7 d a0 a1 sz : Int32} {a3 : Int64} {a4 a5 a6 a8 a9 a10 : Int32} {p : Int32 × (Nat → Int32)} (hp : F_DR_nextFigure d a0 a1 sz a3 a4 a5 a6 z7 a8 a9 a10 un le = p) (h : uR U P Z un z7 le) (hU : uV un Z = U) (hU0 : 0 < U) (hd : 0 ≤ d.toInt ∧ d.toInt ≤ 9) : uR U (P * 10 + d.toInt) Z un z7 p.2 := by
  obtain ⟨h1, h2, Q, h6⟩ := h
  have zc := q_clI h2 (by omega)
  have zn : z7.toNatClampNeg = Z := by omega
  have hn := (R_next (t0_0 := a0) (t0_1 := a1) (t0_2 := sz) (t0_3 := a3) (t0_4 := a4) (t0_5 := a5) (t0_6 := a6) (t0_7 := z7) (t0_8 := a8) (t0_9 := a9) (t0_10 := a10) h1 (by rw [zn, hU]; exact hU0) hd).2
  rw [hp] at hn
  obtain ⟨p1, p2, p3⟩ := hn
  have p3' : p.1.toInt * uV un z7.toNatClampNeg + uV p.2 (z7.toNatClampNeg + 1) = uV le (z7.toNatClampNeg + 1) * 10 + d.toInt := p3
  rw [zn, hU] at p3'
  exact ⟨p2, h2, Q * 10 + p.1.toInt, u_dvI h6 p3'⟩
theorem sg_tm {a b : Int} {x y : Nat} : sgI (sF a) (((a.natAbs : Int) * 10 ^ x) % ((b.natAbs : Int) * 10 ^ y)) = (a * 10 ^ x).tmod (b * 10 ^ y) := by
  have e1 : ((a.natAbs : Int) * 10 ^ x) % ((b.natAbs : Int) * 10 ^ y) = (((a * 10 ^ x).natAbs % (b * 10 ^ y).natAbs : Nat) : Int) := by
    rw [Int.natCast_emod, Int.natAbs_mul, Int.natAbs_mul, Int.natCast_mul, Int.natCast_mul, Int.natAbs_pow, Int.natAbs_pow, Int.natCast_pow, Int.natCast_pow]
    rfl
  rw [e1, ← Int.natAbs_tmod]
  unfold sgI sF
  by_cases c : a < 0
  · rw [if_pos c, if_neg (by decide)]
    have h1 : 0 ≤ ((-a) * 10 ^ x).tmod (b * 10 ^ y) := v_tm0 (Int.mul_nonneg (by omega) (Int.le_of_lt (v_t10 x)))
    rw [Int.neg_mul, Int.neg_tmod] at h1
    omega
  · rw [if_neg c, if_pos rfl]
    have h1 : 0 ≤ (a * 10 ^ x).tmod (b * 10 ^ y) := v_tm0 (Int.mul_nonneg (by omega) (Int.le_of_lt (v_t10 x)))
    omega
theorem V_rmL2 {K_F_DR_remainder_L203 : Int64 → (Nat → Int32) → (Int32 × Int32 × Int32 × Int64 × Int32 × Int32 × Int32 × Int32 × Int32 × Int32 × Int32 × (Nat → Int32) × (Nat → Int32) × (Nat → Int32) × (Nat → Int32) × (Nat → Int32) × (Nat → Int32) × (Nat → Int32))} {x2 : Int32} {x3 : Int32} {x4 : Int32} {t0_0 : Int32} {t0_1 : Int32} {t0_2 : Int32} {t0_3 : Int64} {t0_4 : Int32} {t0_5 : Int32} {t0_6 : Int32} {t0_7 : Int32} {t0_8 : Int32} {t0_9 : Int32} {t0_10 : Int32} {t1_0 : (Nat → Int32)} {t2_0 : (Nat → Int32)} {t3_0 : (Nat → Int32)} {t4_0 : (Nat → Int32)} {t5_0 : (Nat → Int32)} {t6_0 : (Nat → Int32)} {t7_0 : (Nat → Int32)} {lx45 : Int32} {lx76 : Int64} {a363 : Int32} {j360 : Int64} {p416 : (Int32 × Int32 × Int32 × Int64 × Int32 × Int32 × Int32 × Int32 × Int32 × Int32 × Int32 × (Nat → Int32))} {f382 : (Nat → Int32)} {p477 : (Int32 × Int32 × Int32 × Int64 × Int32 × Int32 × Int32 × Int32 × Int32 × Int32 × Int32 × (Nat → Int32))} {j509 : Int64} {y439 : Int32} {y440 : Int32} {y441 : Int32} {y442 : Int64} {y443 : Int32} {y444 : Int32} {y445 : Int32} {y446 : Int32} {y447 : Int32} {y448 : Int32} {y449 : Int32} {lx513 : Int64} {lx514 : (Nat → Int32)} {a536 : Int32} {D : Nat → Int × Int} {L : Int} {Z : Nat} (hD : dRv t1_0 t2_0 t3_0 t4_0 D) (hx4 : 0 ≤ x4.toInt ∧ x4.toInt ≤ 9) (h536 : a536.toInt = ((Z + 1 : Nat) : Int)) (hZ : Z ≤ 2199) (hg : gO lx514 (Z + 1)) (hL : uV lx514 (Z + 1) = L) (h363 : a363 = 0 ∨ a363 = 1) (h439 : y439 = lx45) (h449 : y449 = 2) : ∀ (n : Nat) (lx542 : Int32) (lx543 : (Nat → Int32)), ∀ k : Nat, lx542.toInt = (k : Int) → k ≤ Z + 1 → Z + 1 - k < n → (∀ i, i < k → lx543 i = lx514 i) → dAn x4 D (some (sgI a363 L, lx76.toInt)) lx45 2 (F_DR_remainder_L270 K_F_DR_remainder_L203 x2 x3 x4 t0_0 t0_1 t0_2 t0_3 t0_4 t0_5 t0_6 t0_7 t0_8 t0_9 t0_10 t1_0 t2_0 t3_0 t4_0 t5_0 t6_0 t7_0 lx45 lx76 a363 j360 p416 f382 p477 j509 y439 y440 y441 y442 y443 y444 y445 y446 y447 y448 y449 lx513 lx514 a536 n lx542 lx543).1 (F_DR_remainder_L270 K_F_DR_remainder_L203 x2 x3 x4 t0_0 t0_1 t0_2 t0_3 t0_4 t0_5 t0_6 t0_7 t0_8 t0_9 t0_10 t1_0 t2_0 t3_0 t4_0 t5_0 t6_0 t7_0 lx45 lx76 a363 j360 p416 f382 p477 j509 y439 y440 y441 y442 y443 y444 y445 y446 y447 y448 y449 lx513 lx514 a536 n lx542 lx543).2.2.2.2.2.2.2.2.2.2.2.1 (F_DR_remainder_L270 K_F_DR_remainder_L203 x2 x3 x4 t0_0 t0_1 t0_2 t0_3 t0_4 t0_5 t0_6 t0_7 t0_8 t0_9 t0_10 t1_0 t2_0 t3_0 t4_0 t5_0 t6_0 t7_0 lx45 lx76 a363 j360 p416 f382 p477 j509 y439 y440 y441 y442 y443 y444 y445 y446 y447 y448 y449 lx513 lx514 a536 n lx542 lx543).2.2.2.2.2.2.2.2.2.2.2.2.1 (F_DR_remainder_L270 K_F_DR_remainder_L203 x2 x3 x4 t0_0 t0_1 t0_2 t0_3 t0_4 t0_5 t0_6 t0_7 t0_8 t0_9 t0_10 t1_0 t2_0 t3_0 t4_0 t5_0 t6_0 t7_0 lx45 lx76 a363 j360 p416 f382 p477 j509 y439 y440 y441 y442 y443 y444 y445 y446 y447 y448 y449 lx513 lx514 a536 n lx542 lx543).2.2.2.2.2.2.2.2.2.2.2.2.2.1 (F_DR_remainder_L270 K_F_DR_remainder_L203 x2 x3 x4 t0_0 t0_1 t0_2 t0_3 t0_4 t0_5 t0_6 t0_7 t0_8 t0_9 t0_10 t1_0 t2_0 t3_0 t4_0 t5_0 t6_0 t7_0 lx45 lx76 a363 j360 p416 f382 p477 j509 y439 y440 y441 y442 y443 y444 y445 y446 y447 y448 y449 lx513 lx514 a536 n lx542 lx543).2.2.2.2.2.2.2.2.2.2.2.2.2.2.1 := by
  intro n
  induction n with
  | zero => intro _ _ k _ _ h; exact absurd h (Nat.not_lt_zero _)
  | succ n ih =>
    intro lx542 lx543 k hk hkZ hkn hc
    have kc := q_clI hk (by omega)
    have kx : lx542.toNatClampNeg = k := by omega
    rw [F_DR_remainder_L270.eq_2, kx]
    by_cases c : a536 ≤ lx542
    · have c2 := q_leI c
      have ek : k = Z + 1 := by omega
      subst ek
      rw [if_pos c]
      have ac := q_clI h536 (by omega)
      have ax : a536.toNatClampNeg = Z + 1 := by omega
      have hs := dSv_e (V_DR_store (v := L) (x2 := x4) (t0_0 := y439) (t0_1 := y440) (t0_2 := a536) (t0_3 := lx76) (t0_4 := 0) (t0_5 := a363) (t0_6 := y445) (t0_7 := y446) (t0_8 := y447) (t0_9 := y448) (t0_10 := y449) (t5_0 := lx543) hD hx4 h363 ⟨by omega, by omega⟩ (by rw [ax]; intro i hi; rw [hc i hi]; exact hg i hi) (by rw [ax, u_ext hc]; exact hL)) h439 rfl h449 rfl
      generalize F_DR_store x4 y439 y440 a536 lx76 0 a363 y445 y446 y447 y448 y449 t1_0 t2_0 t3_0 t4_0 lx543 = o at hs ⊢
      unfold F_DR_remainder_c318
      exact hs.an
    · have c2 := q_nleI c
      have e1 : (lx542 + 1 : Int32).toInt = ((k + 1 : Nat) : Int) := by
        rw [q_addI (y := 1) hk rfl (by omega) (by omega)]
        omega
      rw [if_neg c]
      refine ih _ _ (k + 1) e1 (by omega) (by omega) (fun i hi => ?_)
      by_cases ci : i = k
      · rw [ci]
        exact v_eq
      · rw [v_ne ci]
        exact hc i (by omega)
theorem V_rmL1 {x2 : Int32} {x3 : Int32} {x4 : Int32} {t0_0 : Int32} {t0_1 : Int32} {t0_2 : Int32} {t0_3 : Int64} {t0_4 : Int32} {t0_5 : Int32} {t0_6 : Int32} {t0_7 : Int32} {t0_8 : Int32} {t0_9 : Int32} {t0_10 : Int32} {t1_0 : (Nat → Int32)} {t2_0 : (Nat → Int32)} {t3_0 : (Nat → Int32)} {t4_0 : (Nat → Int32)} {t5_0 : (Nat → Int32)} {t6_0 : (Nat → Int32)} {t7_0 : (Nat → Int32)} {lx45 : Int32} {lx76 : Int64} {a363 : Int32} {j360 : Int64} {p416 : (Int32 × Int32 × Int32 × Int64 × Int32 × Int32 × Int32 × Int32 × Int32 × Int32 × Int32 × (Nat → Int32))} {f382 : (Nat → Int32)} {p477 : (Int32 × Int32 × Int32 × Int64 × Int32 × Int32 × Int32 × Int32 × Int32 × Int32 × Int32 × (Nat → Int32))} {j509 : Int64} {y439 : Int32} {y440 : Int32} {y441 : Int32} {y442 : Int64} {y443 : Int32} {y444 : Int32} {y445 : Int32} {y446 : Int32} {y447 : Int32} {y448 : Int32} {y449 : Int32} {D : Nat → Int × Int} {U : Int} {Z ma zp : Nat} (hD : dRv t1_0 t2_0 t3_0 t4_0 D) (hx2 : 0 ≤ x2.toInt ∧ x2.toInt ≤ 9) (hx4 : 0 ≤ x4.toInt ∧ x4.toInt ≤ 9) (hma : (t2_0 x2.toNatClampNeg).toInt = (ma : Int)) (hma2 : 1 ≤ ma ∧ ma ≤ 1000) (h509 : j509.toInt = ((ma + zp : Nat) : Int)) (hzp : ma + zp ≤ 100000) (hU : uV f382 Z = U) (hU0 : 0 < U) (h363 : a363 = sF (D x2.toNatClampNeg).1) (h439 : y439 = lx45) (h449 : y449 = 2) : ∀ (n : Nat) (lx513 : Int64) (lx514 : (Nat → Int32)), ∀ k : Nat, lx513.toInt = (k : Int) → k ≤ ma + zp → ma + zp - k < n → uR U (uV (pd t1_0 x2.toNatClampNeg ma) k) Z f382 y446 lx514 → dAn x4 D (some (sgI (sF (D x2.toNatClampNeg).1) ((((D x2.toNatClampNeg).1.natAbs : Int) * 10 ^ zp) % U), lx76.toInt)) lx45 2 (F_DR_remainder_L203 x2 x3 x4 t0_0 t0_1 t0_2 t0_3 t0_4 t0_5 t0_6 t0_7 t0_8 t0_9 t0_10 t1_0 t2_0 t3_0 t4_0 t5_0 t6_0 t7_0 lx45 lx76 a363 j360 p416 f382 p477 j509 y439 y440 y441 y442 y443 y444 y445 y446 y447 y448 y449 n lx513 lx514).1 (F_DR_remainder_L203 x2 x3 x4 t0_0 t0_1 t0_2 t0_3 t0_4 t0_5 t0_6 t0_7 t0_8 t0_9 t0_10 t1_0 t2_0 t3_0 t4_0 t5_0 t6_0 t7_0 lx45 lx76 a363 j360 p416 f382 p477 j509 y439 y440 y441 y442 y443 y444 y445 y446 y447 y448 y449 n lx513 lx514).2.2.2.2.2.2.2.2.2.2.2.1 (F_DR_remainder_L203 x2 x3 x4 t0_0 t0_1 t0_2 t0_3 t0_4 t0_5 t0_6 t0_7 t0_8 t0_9 t0_10 t1_0 t2_0 t3_0 t4_0 t5_0 t6_0 t7_0 lx45 lx76 a363 j360 p416 f382 p477 j509 y439 y440 y441 y442 y443 y444 y445 y446 y447 y448 y449 n lx513 lx514).2.2.2.2.2.2.2.2.2.2.2.2.1 (F_DR_remainder_L203 x2 x3 x4 t0_0 t0_1 t0_2 t0_3 t0_4 t0_5 t0_6 t0_7 t0_8 t0_9 t0_10 t1_0 t2_0 t3_0 t4_0 t5_0 t6_0 t7_0 lx45 lx76 a363 j360 p416 f382 p477 j509 y439 y440 y441 y442 y443 y444 y445 y446 y447 y448 y449 n lx513 lx514).2.2.2.2.2.2.2.2.2.2.2.2.2.1 (F_DR_remainder_L203 x2 x3 x4 t0_0 t0_1 t0_2 t0_3 t0_4 t0_5 t0_6 t0_7 t0_8 t0_9 t0_10 t1_0 t2_0 t3_0 t4_0 t5_0 t6_0 t7_0 lx45 lx76 a363 j360 p416 f382 p477 j509 y439 y440 y441 y442 y443 y444 y445 y446 y447 y448 y449 n lx513 lx514).2.2.2.2.2.2.2.2.2.2.2.2.2.2.1 := by
  have h2c := q_clI (i := x2) rfl hx2.1
  obtain ⟨a1, a2, _⟩ := hD.2 x2.toNatClampNeg (by omega)
  have mc := q_clI (i := t2_0 x2.toNatClampNeg) rfl (by omega)
  have mx : (t2_0 x2.toNatClampNeg).toNatClampNeg = ma := by omega
  rw [mx] at a2
  intro n
  induction n with
  | zero => intro _ _ k _ _ h; exact absurd h (Nat.not_lt_zero _)
  | succ n ih =>
    intro lx513 lx514 k hk hkN hkn hS
    have e1 : (lx513 + 1 : Int64).toInt = ((k + 1 : Nat) : Int) := by
      rw [q_addL (y := 1) hk rfl (by omega) (by omega)]
      omega
    rw [F_DR_remainder_L203.eq_2]
    by_cases c : 0 ≤ lg_cmp lx513 j509
    · have c2 := g_lc5 c
      have ek : k = ma + zp := by omega
      subst ek
      rw [if_pos c]
      rw [pd_V, a2] at hS
      obtain ⟨⟨w1, w2, w3, w4⟩, h2, Q, h6⟩ := hS
      have zc := q_clI h2 (by omega)
      have zn : y446.toNatClampNeg = Z := by omega
      rw [zn] at w3 w4
      have w4' : uV lx514 (Z + 1) < U := by
        rw [← hU]
        exact w4
      obtain ⟨t1, t2⟩ := u_dvT h6 (u_nn w3) w4'
      rw [t2, ← h363]
      have e536 : (y446 + 1 : Int32).toInt = ((Z + 1 : Nat) : Int) := by
        rw [q_addI (y := 1) h2 rfl (by omega) (by omega)]
        omega
      exact V_rmL2 hD hx4 e536 (by omega) w3 rfl (by rw [h363]; exact sF_01) h439 h449 _ _ _ 0 rfl (Nat.zero_le _) (by show Z + 1 - 0 < 4100; omega) (fun i hi => absurd hi (Nat.not_lt_zero _))
    · have c2 := g_lc6 c
      rw [if_neg c]
      by_cases d : 0 ≤ lg_cmp lx513 (t2_0 x2.toNatClampNeg).toInt64
      · have d2 := g_lc5 d
        have d3 : ((t2_0 x2.toNatClampNeg).toInt64).toInt = (ma : Int) := (Int32.toInt_toInt64 _).trans hma
        rw [if_pos d]
        have st := u_rst (d := 0) (a0 := y439) (a1 := y440) (sz := y441) (a3 := y442) (a4 := y443) (a5 := y444) (a6 := y445) (a8 := y447) (a9 := y448) (a10 := y449) rfl hS hU hU0 ⟨by decide, by decide⟩
        generalize F_DR_nextFigure 0 y439 y440 y441 y442 y443 y444 y445 y446 y447 y448 y449 f382 lx514 = p at st ⊢
        unfold F_DR_remainder_c243
        refine ih _ _ (k + 1) e1 (by omega) (by omega) ?_
        have ez : pd t1_0 x2.toNatClampNeg ma k = 0 := if_neg (by omega)
        show uR U (uV (pd t1_0 x2.toNatClampNeg ma) k * 10 + (pd t1_0 x2.toNatClampNeg ma k).toInt) Z f382 _ _
        rw [ez]
        exact st
      · have d2 := g_lc6 d
        have d3 : ((t2_0 x2.toNatClampNeg).toInt64).toInt = (ma : Int) := (Int32.toInt_toInt64 _).trans hma
        have e32 : (lx513.toInt32).toInt = (k : Int) := by
          rw [s_l2i (by omega) (by omega)]
          exact hk
        have ec := q_clI e32 (by omega)
        have gx := (g_ix (k := lx513.toInt32) hx2 ⟨by omega, by omega⟩).2
        have ex : lx513.toInt32.toNatClampNeg = k := by omega
        rw [if_neg d, gx, ex]
        have st := u_rst (d := t1_0 (1000 * x2.toNatClampNeg + k)) (a0 := y439) (a1 := y440) (sz := y441) (a3 := y442) (a4 := y443) (a5 := y444) (a6 := y445) (a8 := y447) (a9 := y448) (a10 := y449) rfl hS hU hU0 (hD.1 _ (by omega))
        generalize F_DR_nextFigure (t1_0 (1000 * x2.toNatClampNeg + k)) y439 y440 y441 y442 y443 y444 y445 y446 y447 y448 y449 f382 lx514 = p at st ⊢
        unfold F_DR_remainder_c243_13
        refine ih _ _ (k + 1) e1 (by omega) (by omega) ?_
        have ez : pd t1_0 x2.toNatClampNeg ma k = t1_0 (1000 * x2.toNatClampNeg + k) := if_pos (by omega)
        show uR U (uV (pd t1_0 x2.toNatClampNeg ma) k * 10 + (pd t1_0 x2.toNatClampNeg ma k).toInt) Z f382 _ _
        rw [ez]
        exact st
