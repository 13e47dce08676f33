/-! the reference's rows: division, its outer loops -/
theorem w_shN {Vb R B a : Int} (h : R < Vb) (ha : a < 65536) : a + 65536 * R < 65536 * Vb := by omega
theorem w_dvStep {q Vb r P v a : Int} : q * Vb + ((a + 65536 * r) * P + v) = q * Vb + (r * (P * 65536) + (v + a * P)) := by
  have e : 65536 * r * P = r * (P * 65536) := by rw [Int.mul_comm 65536 r, Int.mul_assoc, Int.mul_comm 65536 P]
  rw [Int.add_mul, e]
  omega
theorem w_divL88 {N2 : Int32} {N3 : Int32} {t0_0 : Int32} {t0_1 : Int32} {t0_2 : Int32} {t0_3 : Int32} {t0_4 : Int32} {t0_5 : Int32} {t0_6 : Int32} {t1_0 : Nat → Int32} {t2_0 : Nat → Int32} {t3_0 : Nat → Int32} {t4_0 : Nat → Int32} {a35 : Int32} {a28 : Int32} {f49 : Nat → Int32} {f42 : Nat → Int32} {lx54 : Int32} {lx70 : Int32} {lx71 : Nat → Int32} {lx92 : Int32} {lx93 : Nat → Int32} {lx94 : Nat → Int32} {KF47 : Int32 → (Nat → Int32) → ((Nat → Int32) × (Nat → Int32))} {KS47 : Int32 → (Nat → Int32) → Prop} {KF79 : Int32 → (Nat → Int32) → (Nat → Int32) → ((Nat → Int32) × (Nat → Int32))} {KS79 : Int32 → (Nat → Int32) → (Nat → Int32) → Prop} {Q : ((Nat → Int32) × (Nat → Int32)) → Prop} {Va : Int} {m K : Nat} {r0 : Nat → Int32} (hN3 : N3 = 264) (hN2 : N2.toInt ≤ 264) (hm : a35.toInt = m) (m1 : 1 ≤ m) (m2 : m ≤ 263) (hk : lx92.toInt = K) (k2 : (K : Int) < N2.toInt) (hb : wO t4_0 264) (sB : wS 264 t4_0 a35) (ha : 0 ≤ (t3_0 K).toInt ∧ (t3_0 K).toInt < 65536)
    (h0 : wDv Va (wV t4_0 264) t3_0 (K + 1) r0 lx94)
    (hK : ∀ r q : Nat → Int32, wDv Va (wV t4_0 264) t3_0 K r q → KS79 (lx92 + (-1)) r q ∧ Q (KF79 (lx92 + (-1)) r q)) :
    ∀ (n : Nat) (j : Int32) (r : Nat → Int32), 0 ≤ j.toInt → j.toInt ≤ m → j.toInt < n → (∀ t : Nat, (t : Int) ≤ j.toInt → r t = r0 t) → (∀ t : Nat, j.toInt < t → t ≤ m → r t = r0 (t - 1)) → (∀ t : Nat, m < t → t < 264 → r t = 0) →
      S_WR_divideRows_L88 KS47 KS79 N2 N3 t0_0 t0_1 t0_2 t0_3 t0_4 t0_5 t0_6 t1_0 t2_0 t3_0 t4_0 a35 a28 f49 f42 lx54 lx70 lx71 lx92 lx93 lx94 n j r ∧ Q (F_WR_divideRows_L88 KF47 KF79 N2 N3 t0_0 t0_1 t0_2 t0_3 t0_4 t0_5 t0_6 t1_0 t2_0 t3_0 t4_0 a35 a28 f49 f42 lx54 lx70 lx71 lx92 lx93 lx94 n j r) := by
  have ek : lx92.toNatClampNeg = K := by have := q_clI (i := lx92) hk (by omega); omega
  have e1 : (a35 - 1 : Int32).toInt = (m : Int) - 1 := q_subI (y := 1) hm (by decide) (by omega) (by omega)
  have em1 : (a35 - 1 : Int32).toNatClampNeg = m - 1 := by have := q_clI (i := a35 - 1) e1 (by omega); omega
  have e0 : (0 : Int32).toInt = 0 := rfl
  have n0 : (0 : Int32).toNatClampNeg = 0 := rfl
  intro n
  induction n with
  | zero => intro j r j0 j1 j2 h1 h2 h3; omega
  | succ n ih =>
    intro j r j0 j1 j2 h1 h2 h3
    rw [S_WR_divideRows_L88.eq_2, F_WR_divideRows_L88.eq_2]
    by_cases c : j ≤ 0
    · rw [if_pos c, if_pos c]
      have c2 := q_leI c
      refine v_cons (by rw [hk]; omega) ?_
      refine v_cons (by omega) ?_
      obtain ⟨or, oq, zq, hv, hl⟩ := h0
      have bl : wV t4_0 264 < 65536 ^ m := by
        have h := sB.lt hb
        have em : a35.toNatClampNeg = m := by have := q_clI (i := a35) hm (by omega); omega
        rw [em] at h
        exact h
      have rz := w_top or (show wV r0 264 < 65536 ^ m from Int.lt_trans hl bl)
      have r0v : wV r0 264 = wV r0 m := w_zer (by omega) (fun i a b => rz i a b)
      rw [ek, n0, em1]
      obtain ⟨r1, er1⟩ := q_nm (upd r 0 (t3_0 K))
      have r10 : r1 0 = t3_0 K := by rw [← er1, v_eq]
      have r1s : ∀ t : Nat, 0 < t → r1 t = r t := fun t ht => by rw [← er1, v_ne (by omega)]
      rw [er1]
      have r1o : wO r1 264 := fun t ht => by
        by_cases e : t = 0
        · rw [e, r10]; exact ha
        · rw [r1s t (by omega)]
          by_cases e2 : t ≤ m
          · rw [h2 t (by omega) e2]; exact or (t - 1) (by omega)
          · rw [h3 t (by omega) ht]; exact ⟨by decide, by decide⟩
      have r1v : wV r1 264 = (t3_0 K).toInt + 65536 * wV r0 264 := by
        have h4 : wV r1 264 = wV r1 (m + 1) := w_zer (by omega) (fun i a b => by rw [r1s i (by omega)]; exact h3 i (by omega) b)
        rw [h4, w_up (f := r0) (fun t ht => by rw [r1s (t + 1) (by omega), h2 (t + 1) (by omega) (by omega)]; rfl), r10, r0v]
      have hw : wDw Va (wV t4_0 264) t3_0 K r1 lx94 := by
        refine ⟨r1o, oq, fun t ht => zq t (by omega), ?_, ?_⟩
        · show _ = _
          have hv : _ = _ := hv
          rw [← hv, r1v, w_pw]
          show _ = _ + (_ + (wV t3_0 K + (t3_0 K).toInt * 65536 ^ K))
          exact w_dvStep
        · show _ < _
          have hl : _ < _ := hl
          rw [zq K (by omega), r1v, e0, Int.zero_mul, Int.zero_add]
          exact w_shN (B := 0) hl ha.2
      have fu : wL (wV r1 264) ((1000000 : Nat) * wV t4_0 264) := by
        have hl : _ < _ := hl
        have h5 := w_nn hb
        show _ < _
        rw [r1v]
        generalize wV r0 264 = u1 at *
        generalize wV t4_0 264 = u2 at *
        clear ih hK
        omega
      have hbm := hb (m - 1) (by omega)
      have b1 : ((t4_0 (m - 1)).toInt64 <<< ((16 : Int32).toInt64 &&& 63)).toInt = (t4_0 (m - 1)).toInt * 65536 := by
        have h := w_shl (x := (t4_0 (m - 1)).toInt64) (by rw [q_i2l rfl]; exact hbm.1) (by rw [q_i2l rfl]; omega)
        rw [q_i2l rfl] at h; exact h
      have goJ : ∀ (lx149 : Int32), lx149.toInt = (if m ≤ 1 then 0 else (t4_0 (m - 2)).toInt) → S_WR_divideRows_J151 KS47 KS79 (S_WR_divideRows_L88 KS47 KS79 N2 N3 t0_0 t0_1 t0_2 t0_3 t0_4 t0_5 t0_6 t1_0 t2_0 t3_0 t4_0 a35 a28 f49 f42 lx54 lx70 lx71 lx92 lx93 lx94 n) N2 N3 t0_0 t0_1 t0_2 t0_3 t0_4 t0_5 t0_6 t1_0 t2_0 t3_0 t4_0 a35 a28 f49 f42 lx54 lx70 lx71 lx92 lx93 lx94 j r ((t4_0 (m - 1)).toInt64 <<< ((16 : Int32).toInt64 &&& 63)) r1 lx149 ∧ Q (F_WR_divideRows_J151 KF47 KF79 (F_WR_divideRows_L88 KF47 KF79 N2 N3 t0_0 t0_1 t0_2 t0_3 t0_4 t0_5 t0_6 t1_0 t2_0 t3_0 t4_0 a35 a28 f49 f42 lx54 lx70 lx71 lx92 lx93 lx94 n) N2 N3 t0_0 t0_1 t0_2 t0_3 t0_4 t0_5 t0_6 t1_0 t2_0 t3_0 t4_0 a35 a28 f49 f42 lx54 lx70 lx71 lx92 lx93 lx94 j r ((t4_0 (m - 1)).toInt64 <<< ((16 : Int32).toInt64 &&& 63)) r1 lx149) := by
        intro lx149 hx
        unfold S_WR_divideRows_J151 F_WR_divideRows_J151
        have lxb : 0 ≤ lx149.toInt ∧ lx149.toInt < 65536 := by
          rw [hx]
          split
          · omega
          · exact hb (m - 2) (by omega)
        have hv := w_orG (x := (t4_0 (m - 1)).toInt64 <<< ((16 : Int32).toInt64 &&& 63)) (y := lx149) (by rw [b1]; omega) (by rw [b1]; omega) (by rw [b1]; omega) lxb
        rw [b1, hx] at hv
        exact w_divL155 hN3 hm m1 m2 hk (by omega) hb sB hv hK 1000000 r1 lx94 fu hw
      by_cases c3 : a35 ≤ 1
      · rw [if_pos c3, if_pos c3]
        have c4 := q_leI c3
        have e9 : (1 : Int32).toInt = 1 := rfl
        refine goJ 0 ?_
        rw [if_pos (by omega)]
        rfl
      · rw [if_neg c3, if_neg c3]
        have c4 := q_nleI c3
        have e9 : (1 : Int32).toInt = 1 := rfl
        have e2 : (a35 - 2 : Int32).toInt = (m : Int) - 2 := q_subI (y := 2) hm (by decide) (by omega) (by omega)
        have em2 : (a35 - 2 : Int32).toNatClampNeg = m - 2 := by have := q_clI (i := a35 - 2) e2 (by omega); omega
        rw [em2]
        refine goJ _ ?_
        rw [if_neg (by omega)]
    · rw [if_neg c, if_neg c]
      have c2 := q_nleI c
      have f1 : (j - 1 : Int32).toInt = j.toInt - 1 := q_subI (y := 1) rfl (by decide) (by omega) (by omega)
      have fj := q_clI (i := j) rfl j0
      obtain ⟨j', ej'⟩ := q_nm (j - 1)
      rw [ej'] at f1 ⊢
      have fj1 : j'.toNatClampNeg = j.toNatClampNeg - 1 := by have := q_clI (i := j') f1 (by omega); omega
      have f2 : (j + (-1) : Int32).toInt = j.toInt + (-1) := q_addI (y := -1) rfl (by decide) (by omega) (by omega)
      obtain ⟨j2, ej2⟩ := q_nm (j + (-1))
      rw [ej2] at f2 ⊢
      refine v_cons (by omega) ?_
      refine v_cons (by omega) ?_
      rw [fj1]
      refine ih _ _ (by omega) (by omega) (by omega) (fun t ht => ?_) (fun t t1 t2 => ?_) (fun t t1 t2 => ?_)
      · rw [v_ne (by omega)]; exact h1 t (by omega)
      · by_cases e : t = j.toNatClampNeg
        · rw [e, v_eq]; exact h1 _ (by omega)
        · rw [v_ne e]; exact h2 t (by omega) t2
      · rw [v_ne (by omega)]; exact h3 t t1 t2
def wDq (Va Vb : Int) (p : (Nat → Int32) × (Nat → Int32)) : Prop := wO p.1 264 ∧ wO p.2 264 ∧ wE (wV p.2 264 * Vb + wV p.1 264) Va ∧ wL (wV p.1 264) Vb
theorem w_divL79 {N2 : Int32} {N3 : Int32} {t0_0 : Int32} {t0_1 : Int32} {t0_2 : Int32} {t0_3 : Int32} {t0_4 : Int32} {t0_5 : Int32} {t0_6 : Int32} {t1_0 : Nat → Int32} {t2_0 : Nat → Int32} {t3_0 : Nat → Int32} {t4_0 : Nat → Int32} {a35 : Int32} {a28 : Int32} {f49 : Nat → Int32} {f42 : Nat → Int32} {lx54 : Int32} {lx70 : Int32} {lx71 : Nat → Int32} {KF47 : Int32 → (Nat → Int32) → ((Nat → Int32) × (Nat → Int32))} {KS47 : Int32 → (Nat → Int32) → Prop} {Va : Int} {m : Nat} (hN3 : N3 = 264) (hN2 : N2.toInt ≤ 264) (hm : a35.toInt = m) (m1 : 1 ≤ m) (m2 : m ≤ 263) (hb : wO t4_0 264) (sB : wS 264 t4_0 a35) (ha : wO t3_0 N2.toNatClampNeg) :
    ∀ (n K : Nat) (k : Int32) (r q : Nat → Int32), (K : Int) = k.toInt + 1 → k.toInt < N2.toInt → K < n → wDv Va (wV t4_0 264) t3_0 K r q → S_WR_divideRows_L79 KS47 N2 N3 t0_0 t0_1 t0_2 t0_3 t0_4 t0_5 t0_6 t1_0 t2_0 t3_0 t4_0 a35 a28 f49 f42 lx54 lx70 lx71 n k r q ∧ wDq Va (wV t4_0 264) (F_WR_divideRows_L79 KF47 N2 N3 t0_0 t0_1 t0_2 t0_3 t0_4 t0_5 t0_6 t1_0 t2_0 t3_0 t4_0 a35 a28 f49 f42 lx54 lx70 lx71 n k r q) := by
  have e0 : (0 : Int32).toInt = 0 := rfl
  intro n
  induction n with
  | zero => intro K k r q k0 k1 k2 hw; omega
  | succ n ih =>
    intro K k r q k0 k1 k2 hw
    rw [S_WR_divideRows_L79.eq_2, F_WR_divideRows_L79.eq_2]
    by_cases c : k < 0
    · rw [if_pos c, if_pos c]
      have c2 := q_ltI c
      have : K = 0 := by omega
      subst this
      obtain ⟨or, oq, zq, hv, hl⟩ := hw
      refine ⟨trivial, or, oq, ?_, hl⟩
      have hv : _ = _ := hv
      have h0 : wV t3_0 0 = 0 := rfl
      rw [Int.pow_zero, h0, Int.mul_one, Int.add_zero] at hv
      exact hv
    · rw [if_neg c, if_neg c]
      have c2 := q_nltI c
      obtain ⟨J, rfl⟩ : ∃ J, K = J + 1 := ⟨K - 1, by omega⟩
      have eN := q_clI (i := N2) rfl (by omega)
      have f2 : (k + (-1) : Int32).toInt = k.toInt + (-1) := q_addI (y := -1) rfl (by decide) (by omega) (by omega)
      have rz : ∀ t : Nat, m < t → t < 264 → r t = 0 := fun t t1 t2 => by
        have bl : wV t4_0 264 < 65536 ^ m := by
          have h := sB.lt hb
          have em : a35.toNatClampNeg = m := by have := q_clI (i := a35) hm (by omega); omega
          rw [em] at h
          exact h
        exact w_top hw.1 (show wV r 264 < 65536 ^ m from Int.lt_trans hw.2.2.2.2 bl) t (by omega) t2
      exact w_divL88 (r0 := r) hN3 hN2 hm m1 m2 (K := J) (by omega) (by omega) hb sB (ha J (by omega)) hw (fun r' q' h => ih J (k + (-1)) r' q' (by omega) (by omega) (by omega) h) ((a35.toInt - (-1)).toNat + 1) a35 r (by omega) (by omega) (by omega) (fun t _ => rfl) (fun t t1 t2 => by omega) rz
theorem w_divL47 {N2 : Int32} {N3 : Int32} {t0_0 : Int32} {t0_1 : Int32} {t0_2 : Int32} {t0_3 : Int32} {t0_4 : Int32} {t0_5 : Int32} {t0_6 : Int32} {t1_0 : Nat → Int32} {t2_0 : Nat → Int32} {t3_0 : Nat → Int32} {t4_0 : Nat → Int32} {a35 : Int32} {a28 : Int32} {f49 : Nat → Int32} {f42 : Nat → Int32} {lx54 : Int32} {m : Nat} {K : Nat} {k0 : Nat} (hN3 : N3 = 264) (hN2 : N2.toInt ≤ 264) (hm : a35.toInt = m) (m1 : 1 ≤ m) (m2 : m ≤ 263) (hb : wO t4_0 264) (sB : wS 264 t4_0 a35) (ha : wO t3_0 N2.toNatClampNeg) (sA : wS N2 t3_0 a28) (hf : lx54.toInt = K) (hfn : a28.toInt - lx54.toInt ≤ m - 1) (hfz : lx54.toInt ≤ a28.toInt) (zf : ∀ t, t < 264 → f42 t = 0) :
    ∀ (n : Nat) (k : Int32) (r : Nat → Int32), lx54.toInt ≤ k.toInt → k.toInt ≤ a28.toInt → a28.toInt - k.toInt < n → wO r 264 → (∀ t : Nat, k.toInt - lx54.toInt ≤ t → t < 264 → r t = 0) → wE (wV r 264 * 65536 ^ K + wV t3_0 K) (wV t3_0 k.toNatClampNeg) → S_WR_divideRows_L47 N2 N3 t0_0 t0_1 t0_2 t0_3 t0_4 t0_5 t0_6 t1_0 t2_0 t3_0 t4_0 a35 a28 f49 f42 lx54 n k r ∧ wDq (wV t3_0 N2.toNatClampNeg) (wV t4_0 264) (F_WR_divideRows_L47 N2 N3 t0_0 t0_1 t0_2 t0_3 t0_4 t0_5 t0_6 t1_0 t2_0 t3_0 t4_0 a35 a28 f49 f42 lx54 n k r) := by
  have e0 : (0 : Int32).toInt = 0 := rfl
  have sn := sA.1
  have sN := sA.2.1
  have eN := q_clI (i := N2) rfl (by omega)
  have en := q_clI (i := a28) rfl sn
  intro n
  induction n with
  | zero => intro k r h1 h2 h3 or rz hv; omega
  | succ n ih =>
    intro k r h1 h2 h3 or rz hv
    have ek := q_clI (i := k) rfl (by omega)
    rw [S_WR_divideRows_L47.eq_2, F_WR_divideRows_L47.eq_2]
    by_cases c : a28 ≤ k
    · rw [if_pos c, if_pos c]
      have c2 := q_leI c
      have ekn : k.toNatClampNeg = a28.toNatClampNeg := by omega
      have f1 : (lx54 - 1 : Int32).toInt = lx54.toInt - 1 := q_subI (y := 1) rfl (by decide) (by omega) (by omega)
      refine w_divL79 hN3 hN2 hm m1 m2 hb sB ha _ K (lx54 - 1) r f42 (by omega) (by omega) (by omega) ⟨or, fun t ht => by rw [zf t ht]; exact ⟨by decide, by decide⟩, fun t ht => zf t (by omega), ?_, ?_⟩
      · show _ = _
        have hv : _ = _ := hv
        rw [w_zer (f := f42) (k := 0) (n := 264) (by omega) (fun i _ h => zf i h), hv, ekn, sA.val]
        show 0 * _ + _ = _
        rw [Int.zero_mul, Int.zero_add]
      · show _ < _
        have bg := sB.ge hb (by omega)
        have em : a35.toNatClampNeg = m := by have := q_clI (i := a35) hm (by omega); omega
        rw [em] at bg
        have r1 : wV r 264 = wV r (m - 1) := w_zer (by omega) (fun i a b => rz i (by omega) b)
        have r2 := w_lt (or.mono (show m - 1 ≤ 264 by omega))
        rw [r1]
        exact Int.lt_of_lt_of_le r2 bg
    · rw [if_neg c, if_neg c]
      have c2 := q_nleI c
      have f1 : (k - lx54 : Int32).toInt = k.toInt - lx54.toInt := q_subI rfl rfl (by omega) (by omega)
      have fk := q_clI (i := k - lx54) f1 (by omega)
      have f2 : (k + 1 : Int32).toInt = k.toInt + 1 := q_addI (y := 1) rfl (by decide) (by omega) (by omega)
      have fk1 := q_clI (i := k + 1) f2 (by omega)
      have fkk : (k + 1 : Int32).toNatClampNeg = k.toNatClampNeg + 1 := by omega
      refine v_cons (by omega) ?_
      obtain ⟨d, ed⟩ : ∃ d, (k - lx54 : Int32).toNatClampNeg = d := ⟨_, rfl⟩
      rw [ed] at fk ⊢
      have hkd : k.toNatClampNeg = d + K := by omega
      refine ih _ _ (by omega) (by omega) (by omega) (wO_upd or (ha _ (by omega))) (fun t t1 t2 => by rw [v_ne (by omega)]; exact rz t (by omega) t2) ?_
      show _ = _
      have hv : _ = _ := hv
      rw [fkk, w_upd (by omega), rz d (by omega) (by omega), e0, Int.sub_zero, Int.add_mul]
      show _ = wV t3_0 k.toNatClampNeg + (t3_0 k.toNatClampNeg).toInt * 65536 ^ k.toNatClampNeg
      rw [← hv, hkd, Int.pow_add, ← Int.mul_assoc]
      generalize wV r 264 * 65536 ^ K = u1
      generalize wV t3_0 K = u2
      generalize (t3_0 (d + K)).toInt * 65536 ^ d * 65536 ^ K = u3
      clear hv ih
      omega
/-- the division: what is left, and the quotient -/
theorem R_div {N2 : Int32} {N3 : Int32} {t0_0 : Int32} {t0_1 : Int32} {t0_2 : Int32} {t0_3 : Int32} {t0_4 : Int32} {t0_5 : Int32} {t0_6 : Int32} {t1_0 : Nat → Int32} {t2_0 : Nat → Int32} {t3_0 : Nat → Int32} {t4_0 : Nat → Int32} (hN3 : N3 = 264) (hN2 : 0 ≤ N2.toInt ∧ N2.toInt ≤ 264) (ha : wO t3_0 N2.toNatClampNeg) (hb : wO t4_0 264) (hb0 : wL 0 (wV t4_0 264)) (hb1 : wL (wV t4_0 264) (65536 ^ 263)) : S_WR_divideRows N2 N3 t0_0 t0_1 t0_2 t0_3 t0_4 t0_5 t0_6 t1_0 t2_0 t3_0 t4_0 ∧ wDq (wV t3_0 N2.toNatClampNeg) (wV t4_0 264) (F_WR_divideRows N2 N3 t0_0 t0_1 t0_2 t0_3 t0_4 t0_5 t0_6 t1_0 t2_0 t3_0 t4_0) := by
  subst hN3
  have e0 : (0 : Int32).toInt = 0 := rfl
  have e264 : (264 : Int32).toInt = 264 := rfl
  have sA := R_size (N := N2) (f := t3_0) hN2.1
  have sB := R_size (N := 264) (f := t4_0) (by decide)
  have c1 := R_clear (N := 264) (f := t1_0) (by decide) (by decide)
  have c2 := R_clear (N := 264) (f := t2_0) (by decide) (by decide)
  unfold S_WR_divideRows F_WR_divideRows
  generalize F_WR_size N2 t3_0 = a28 at sA ⊢
  generalize F_WR_size 264 t4_0 = a35 at sB ⊢
  generalize F_WR_clear 264 t1_0 = f49 at c1 ⊢
  generalize F_WR_clear 264 t2_0 = f42 at c2 ⊢
  have sA0 := sA.1
  have sA1 := sA.2.1
  have sB0 := sB.1
  have sB1 := sB.2.1
  have eb := q_clI (i := a35) rfl sB0
  have m1 : 1 ≤ a35.toInt := by
    by_cases h : 1 ≤ a35.toInt
    · exact h
    · have h1 := sB.lt hb
      have h2 : a35.toNatClampNeg = 0 := by omega
      rw [h2] at h1
      have h3 : 0 < wV t4_0 264 := hb0
      have h4 : wV t4_0 264 < 1 := h1
      exact absurd h4 (by omega)
  have m2 : a35.toInt ≤ 263 := by
    by_cases h : a35.toInt ≤ 263
    · exact h
    · have h1 := sB.ge hb (by omega)
      have h2 : a35.toNatClampNeg - 1 = 263 := by omega
      rw [h2] at h1
      have h3 : wV t4_0 264 < 65536 ^ 263 := hb1
      have h4 : (65536 : Int) ^ 263 ≤ wV t4_0 264 := h1
      exact absurd h3 (Int.not_lt.mpr h4)
  have zf : ∀ t : Nat, t < 264 → f42 t = 0 := fun t ht => c2 t (by omega)
  have go : ∀ lx54 : Int32, 0 ≤ lx54.toInt → lx54.toInt ≤ a28.toInt → a28.toInt - lx54.toInt ≤ a35.toInt - 1 → S_WR_divideRows_J41 N2 264 t0_0 t0_1 t0_2 t0_3 t0_4 t0_5 t0_6 t1_0 t2_0 t3_0 t4_0 a35 a28 f49 f42 lx54 ∧ wDq (wV t3_0 N2.toNatClampNeg) (wV t4_0 264) (F_WR_divideRows_J41 N2 264 t0_0 t0_1 t0_2 t0_3 t0_4 t0_5 t0_6 t1_0 t2_0 t3_0 t4_0 a35 a28 f49 f42 lx54) := by
    intro lx54 h1 h2 h3
    unfold S_WR_divideRows_J41 F_WR_divideRows_J41
    have el := q_clI (i := lx54) rfl h1
    refine w_divL47 (m := a35.toNatClampNeg) (K := lx54.toNatClampNeg) (k0 := 0) rfl hN2.2 (by omega) (by omega) (by omega) hb sB ha sA (by omega) (by omega) h2 zf ((20200 - lx54.toInt).toNat + 1) lx54 f49 (Int.le_refl _) h2 (by omega) (fun t ht => by rw [c1 t (by omega)]; exact ⟨by decide, by decide⟩) (fun t _ ht => c1 t (by omega)) ?_
    show _ = _
    rw [w_zer (f := f49) (k := 0) (n := 264) (by omega) (fun i _ h => c1 i (by omega))]
    show 0 * _ + _ = _
    rw [Int.zero_mul, Int.zero_add]
  by_cases c : a35 ≤ a28
  · rw [if_pos c, if_pos c]
    have c3 := q_leI c
    have f1 : (a28 - a35 : Int32).toInt = a28.toInt - a35.toInt := q_subI rfl rfl (by omega) (by omega)
    have f2 : (a28 - a35 + 1 : Int32).toInt = (a28.toInt - a35.toInt) + 1 := q_addI (y := 1) f1 (by decide) (by omega) (by omega)
    exact go _ (by omega) (by omega) (by omega)
  · rw [if_neg c, if_neg c]
    have c3 := q_nleI c
    exact go 0 (by decide) (by omega) (by omega)
