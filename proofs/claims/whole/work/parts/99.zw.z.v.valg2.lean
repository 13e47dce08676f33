/-! values, for whole: numbers of 64 bits -/
theorem V_lengthInBits6 {R s n : Int32} {f : Nat → Int32} {v : Int} (h : bO R s n f v) (hv : v.natAbs < 2 ^ 6820) : (F_Big_lengthInBits R s n f).toInt = (tLen v (if v < 0 then 1 else 0) 6820 : Int) := by
  obtain ⟨b, b1, b2, b3, b4⟩ := W_blen h
  unfold F_Big_lengthInBits
  have z0 : v = 0 → b = 0 := fun z => by
    have hs := h.nil.mpr z
    unfold F_Big_bitLength at b1
    rw [if_pos hs] at b1
    have : (0 : Int32).toInt = 0 := rfl
    omega
  rcases h.ngB with ⟨n0, vn⟩ | ⟨n1, vn⟩
  · have e := tLen_eq (n := 6820) (m := v.natAbs) (b := b) hv b3 (fun c => b4 (by omega)) (fun c => z0 (by omega))
    rw [if_pos n0, if_neg vn, b1, ← e, show ((v.natAbs : Nat) : Int) = v by omega]
  · obtain ⟨t, k, l1, l2, l3⟩ := W_lowE h (by omega)
    obtain ⟨b5, b6⟩ := b4 (by omega)
    have hp : 0 < 2 ^ t := Nat.pow_pos (by decide)
    have e0 : -v - 1 = ((v.natAbs - 1 : Nat) : Int) := by omega
    have hb1 : (F_Big_bitLength R s n f - 1 : Int32).toInt = (b : Int) - 1 := q_subI b1 rfl (by omega) (by omega)
    rw [if_pos vn, tLen_cpl, e0]
    rw [n1, if_neg (show ¬ (1 : Int32) = 0 by decide)]
    rw [n1] at b1 l1 hb1
    generalize F_Big_bitLength R s 1 f = z at b1 hb1 ⊢
    generalize F_Big_lowestOne R s 1 f = y at l1 ⊢
    have hA : 0 < v.natAbs := by omega
    generalize v.natAbs = A at b3 b6 hv l3 hA ⊢
    by_cases c : y = (z - 1 : Int32)
    · rw [if_pos c, hb1]
      rw [c, hb1] at l1
      have tb : t = b - 1 := by omega
      have hk : k = 0 := by
        rcases Nat.eq_zero_or_pos k with k0 | k0
        · exact k0
        · exfalso
          have g1 : 2 ^ t * 2 ≤ A := by
            rw [l3]
            exact Nat.mul_le_mul_left _ (by omega)
          have g2 : 2 ^ b = 2 ^ t * 2 := by rw [← Nat.pow_succ, tb, Nat.succ_eq_add_one, Nat.sub_add_cancel b5]
          rw [g2] at b3
          exact Nat.lt_irrefl _ (Nat.lt_of_lt_of_le b3 g1)
      rw [hk, Nat.mul_zero, Nat.zero_add, Nat.mul_one] at l3
      have e : tLen ((A - 1 : Nat) : Int) 0 6820 = b - 1 := by
        refine tLen_eq (by omega) (by rw [l3, ← tb]; omega) (fun c => ?_) (fun c => ?_)
        · have t0 : t ≠ 0 := fun t0 => by rw [t0, Nat.pow_zero] at l3; omega
          refine ⟨by omega, ?_⟩
          have g3 : 2 ^ t = 2 ^ (t - 1) * 2 := by rw [← Nat.pow_succ, Nat.succ_eq_add_one, Nat.sub_add_cancel (by omega)]
          have g4 : 0 < 2 ^ (t - 1) := Nat.pow_pos (by decide)
          rw [← tb]
          omega
        · rcases Nat.eq_zero_or_pos t with t0 | t0
          · omega
          · have g3 : 2 ^ t = 2 ^ (t - 1) * 2 := by rw [← Nat.pow_succ, Nat.succ_eq_add_one, Nat.sub_add_cancel (by omega)]
            have g4 : 0 < 2 ^ (t - 1) := Nat.pow_pos (by decide)
            omega
      rw [e]
      omega
    · rw [if_neg c, b1]
      have c2 : t ≠ b - 1 := fun tb => c (Int32.toInt_inj.mp (by rw [hb1, l1]; omega))
      have g1 : A ≠ 2 ^ (b - 1) := fun g => by
        have tb : t < b - 1 := by
          have u : 2 ^ t ≤ A := by rw [l3]; exact Nat.le_mul_of_pos_right _ (by omega)
          have := (Nat.pow_lt_pow_iff_right (a := 2) (by decide)).mp (Nat.lt_of_le_of_lt u b3)
          omega
        obtain ⟨d, hd⟩ : ∃ d, b - 1 = t + (d + 1) := ⟨b - 1 - t - 1, by omega⟩
        rw [hd, Nat.pow_add] at g
        have g2 := Nat.eq_of_mul_eq_mul_left hp (l3.symm.trans g)
        rw [Nat.pow_succ] at g2
        omega
      have e : tLen ((A - 1 : Nat) : Int) 0 6820 = b := by
        refine tLen_eq (by omega) (by omega) (fun _ => ⟨b5, by omega⟩) (fun c => ?_)
        exfalso
        have g4 : 0 < 2 ^ (b - 1) := Nat.pow_pos (by decide)
        omega
      rw [e]
def yI64 (v : Int) : Prop := -9223372036854775808 ≤ v ∧ v < 9223372036854775808
theorem y_tl63N {n m : Nat} (h : m < 2 ^ n) : tLen (m : Int) 0 n ≤ 63 ↔ m < 9223372036854775808 := by
  have e : (2 : Nat) ^ 63 = 9223372036854775808 := by decide
  rcases tLen_nat n m h with ⟨a, b⟩ | ⟨a, b, c⟩
  · rw [a, b]
    decide
  · rw [← e]
    constructor
    · intro q
      exact Nat.lt_of_lt_of_le c (Nat.pow_le_pow_right (by decide) q)
    · intro q
      have := (Nat.pow_lt_pow_iff_right (a := 2) (by decide)).mp (Nat.lt_of_le_of_lt b q)
      omega
theorem y_tl63 {n : Nat} {v : Int} (h : v.natAbs < 2 ^ n) : tLen v (if v < 0 then 1 else 0) n ≤ 63 ↔ yI64 v := by
  unfold yI64
  by_cases q : v < 0
  · rw [if_pos q, tLen_cpl]
    obtain ⟨m, hm⟩ : ∃ m : Nat, -v - 1 = (m : Int) := ⟨(-v - 1).toNat, by omega⟩
    have : m < 2 ^ n := by
      have : m < v.natAbs := by omega
      exact Nat.lt_trans this h
    rw [hm, y_tl63N this]
    omega
  · rw [if_neg q]
    obtain ⟨m, hm⟩ : ∃ m : Nat, v = (m : Int) := ⟨v.toNat, by omega⟩
    subst hm
    have : m < 2 ^ n := h
    rw [y_tl63N this]
    omega
theorem y_fit64 {R s n : Int32} {f : Nat → Int32} {v : Int} (h : bO R s n f v) (hv : v.natAbs < 2 ^ 6820) : (F_Big_fitsLong R s n f = 1 ∧ yI64 v) ∨ (F_Big_fitsLong R s n f = 0 ∧ ¬ yI64 v) := by
  have l := V_lengthInBits6 h hv
  have t := y_tl63 hv
  have e : (63 : Int32).toInt = 63 := rfl
  unfold F_Big_fitsLong
  generalize tLen v (if v < 0 then 1 else 0) 6820 = z at l t
  by_cases c : (63 : Int32) < F_Big_lengthInBits R s n f
  · rw [if_pos c]
    have c' := q_ltI c
    exact Or.inr ⟨rfl, fun q => by have := t.mpr q; omega⟩
  · rw [if_neg c]
    have c' := q_nltI c
    exact Or.inl ⟨rfl, t.mp (by omega)⟩
theorem y_1k6820 : (10 : Nat) ^ 1000 ≤ 2 ^ 6820 := by decide +kernel
theorem y_2k6820 : (2 : Nat) ^ 2048 ≤ 2 ^ 6820 := by decide +kernel
theorem y_tLg {r : Int64} {v : Int} (h : tLg r v) (hv : yI64 v) : r.toInt = v := by
  obtain ⟨k, h⟩ := h
  have a := Int64.le_toInt r
  have b := Int64.toInt_lt r
  unfold yI64 at hv
  have : (-9223372036854775808 : Int) ≤ r.toInt := a
  have : r.toInt < 9223372036854775808 := b
  omega
theorem u_mono {f : Nat → Int32} {m n : Nat} (h : gO f n) (hm : m ≤ n) : uV f m ≤ uV f n := by
  obtain ⟨k, rfl⟩ : ∃ k, n = m + k := ⟨n - m, by omega⟩
  clear hm
  induction k with
  | zero => exact Int.le_refl _
  | succ k ih =>
    have i1 := ih (h.mono (by omega))
    have i2 := u_nn (f := f) (n := m + k) (h.mono (by omega))
    have i3 := (h (m + k) (by omega)).1
    show _ ≤ uV f (m + k) * 10 + (f (m + k)).toInt
    omega
theorem y_nxL {x : Int64} {dg : Int32} {X : Int} (h : x.toInt = -X) (hd : 0 ≤ dg.toInt ∧ dg.toInt ≤ 9) (hX : 0 ≤ X * 10 + dg.toInt ∧ X * 10 + dg.toInt ≤ 9223372036854775808) : ((10 * x : Int64) - dg.toInt64 : Int64).toInt = -(X * 10 + dg.toInt) := by
  have m1 : (10 * x : Int64).toInt = 10 * (-X) := q_mulL rfl h (by omega) (by omega)
  rw [q_subL m1 (q_i2l rfl) (by omega) (by omega)]
  omega
def QV_isL (u : Int) (y : Int32 × (Nat → Int64)) : Prop := (y.1 = 1 ∧ yI64 u ∧ (y.2 0).toInt = u) ∨ (y.1 = 0 ∧ ¬ yI64 u)
theorem V_is109 {K_F_NM_isLong_L26 : Int32 → Int32 → Int64 → (Int32 × (Nat → Int64))} {x2 : Int32} {t0_0 : Int32} {t0_1 : Int32} {t0_2 : Int32} {t1_0 : Int32} {t1_1 : Int32} {t1_2 : Int32} {t1_3 : Int64} {t1_4 : Int32} {t1_5 : Int32} {t1_6 : Int32} {t1_7 : Int32} {t1_8 : Int32} {t1_9 : Int32} {t1_10 : Int32} {t2_0 : (Nat → Int32)} {t3_0 : (Nat → Int32)} {t4_0 : (Nat → Int32)} {t5_0 : (Nat → Int64)} {lx38 : Int32} {lx56 : Int32} {lx57 : Int32} {lx58 : Int64} {u : Int} (hs : t4_0 x2.toNatClampNeg = (if u < 0 then 1 else 0)) (h : (lx57 = 1 ∧ u.natAbs ≤ 9223372036854775808 ∧ lx58.toInt = -(u.natAbs : Int)) ∨ (lx57 = 0 ∧ 9223372036854775808 < u.natAbs)) : QV_isL u (F_NM_isLong_J109 K_F_NM_isLong_L26 x2 t0_0 t0_1 t0_2 t1_0 t1_1 t1_2 t1_3 t1_4 t1_5 t1_6 t1_7 t1_8 t1_9 t1_10 t2_0 t3_0 t4_0 t5_0 lx38 lx56 lx57 lx58) := by
  have em : (-9223372036854775808 : Int64).toInt = -9223372036854775808 := by decide
  have e0 : (0 : Int32).toNatClampNeg = 0 := rfl
  unfold F_NM_isLong_J109
  rcases h with ⟨a, b, c⟩ | ⟨a, b⟩
  · rw [if_neg (by rw [a]; decide)]
    by_cases q : u < 0
    · rw [if_pos q] at hs
      rw [if_neg (by rw [hs]; decide)]
      unfold F_NM_isLong_J134 F_NM_isLong_J139
      rw [if_neg (by rw [hs]; decide)]
      refine Or.inl ⟨rfl, ⟨by omega, by omega⟩, ?_⟩
      show (vp_updL t5_0 (0 : Int32).toNatClampNeg lx58 0).toInt = u
      unfold vp_updL
      rw [e0, if_pos rfl, c]
      omega
    · rw [if_neg q] at hs
      rw [if_pos hs]
      by_cases g : lg_cmp lx58 (-9223372036854775808) = 0
      · rw [if_pos g]
        have g' := q_k9 g
        unfold F_NM_isLong_J138 F_NM_isLong_J139
        rw [if_pos hs]
        exact Or.inr ⟨rfl, fun w => by have := w.2; omega⟩
      · rw [if_neg g]
        have g' := q_k10 g
        unfold F_NM_isLong_J134 F_NM_isLong_J139
        rw [if_pos hs]
        refine Or.inl ⟨rfl, ⟨by omega, by omega⟩, ?_⟩
        show (vp_updL t5_0 (0 : Int32).toNatClampNeg (-lx58) 0).toInt = u
        unfold vp_updL
        rw [e0, if_pos rfl, n_negL c (by omega)]
        omega
  · rw [if_pos a]
    unfold F_NM_isLong_J138 F_NM_isLong_J139
    refine Or.inr ⟨?_, fun w => by have := w.1; have := w.2; omega⟩
    by_cases q : t4_0 x2.toNatClampNeg = 0
    · rw [if_pos q]
    · rw [if_neg q]
theorem V_isLL {x2 : Int32} {t0_0 : Int32} {t0_1 : Int32} {t0_2 : Int32} {t1_0 : Int32} {t1_1 : Int32} {t1_2 : Int32} {t1_3 : Int64} {t1_4 : Int32} {t1_5 : Int32} {t1_6 : Int32} {t1_7 : Int32} {t1_8 : Int32} {t1_9 : Int32} {t1_10 : Int32} {t2_0 : (Nat → Int32)} {t3_0 : (Nat → Int32)} {t4_0 : (Nat → Int32)} {t5_0 : (Nat → Int64)} {lx38 : Int32} {u : Int} {m : Nat} (hx : 0 ≤ x2.toInt ∧ x2.toInt ≤ 9) (hg : gO (fun j => t2_0 (1000 * x2.toNatClampNeg + j)) m) (hv : uV (fun j => t2_0 (1000 * x2.toNatClampNeg + j)) m = (u.natAbs : Int)) (hm : (t3_0 x2.toNatClampNeg).toInt = (m : Int)) (hm1 : m ≤ 1000) (hs : t4_0 x2.toNatClampNeg = (if u < 0 then 1 else 0)) : ∀ (n : Nat) (lx56 : Int32) (lx57 : Int32) (lx58 : Int64), ∀ j : Nat, lx56.toInt = (j : Int) → j ≤ m → m < n + j → ((lx57 = 1 ∧ uV (fun j => t2_0 (1000 * x2.toNatClampNeg + j)) j ≤ 9223372036854775808 ∧ lx58.toInt = -uV (fun j => t2_0 (1000 * x2.toNatClampNeg + j)) j) ∨ (lx57 = 0 ∧ 9223372036854775808 < u.natAbs)) → QV_isL u (F_NM_isLong_L26 x2 t0_0 t0_1 t0_2 t1_0 t1_1 t1_2 t1_3 t1_4 t1_5 t1_6 t1_7 t1_8 t1_9 t1_10 t2_0 t3_0 t4_0 t5_0 lx38 n lx56 lx57 lx58) := by
  have em : (-922337203685477580 : Int64).toInt = -922337203685477580 := by decide
  have e8 : (8 : Int32).toInt = 8 := rfl
  intro n
  induction n with
  | zero =>
    intro _ _ _ j _ q1 q2
    omega
  | succ n ih =>
    intro lx56 lx57 lx58 j hj h1 h2 h3
    unfold F_NM_isLong_L26
    by_cases c : (t3_0 x2.toNatClampNeg) ≤ lx56
    · rw [if_pos c]
      have c' := q_leI c
      have : j = m := by omega
      subst this
      refine V_is109 hs ?_
      rcases h3 with ⟨a, b, d⟩ | ⟨a, b⟩
      · rw [hv] at b d
        exact Or.inl ⟨a, by omega, d⟩
      · exact Or.inr ⟨a, b⟩
    · rw [if_neg c]
      have c' := q_nleI c
      rcases h3 with ⟨a, b, d⟩ | ⟨a, b⟩
      · rw [if_neg (by rw [a]; decide)]
        have hg1 := hg j (by omega)
        have nn := u_nn (f := fun j => t2_0 (1000 * x2.toNatClampNeg + j)) (n := j) (hg.mono (by omega))
        have st : uV (fun j => t2_0 (1000 * x2.toNatClampNeg + j)) (j + 1) = uV (fun j => t2_0 (1000 * x2.toNatClampNeg + j)) j * 10 + (t2_0 (1000 * x2.toNatClampNeg + j)).toInt := rfl
        have mo := u_mono hg (show j + 1 ≤ m by omega)
        rw [hv] at mo
        have ix : ((1000 * x2 : Int32) + lx56 : Int32).toNatClampNeg = 1000 * x2.toNatClampNeg + j := by
          have m1 : (1000 * x2 : Int32).toInt = 1000 * x2.toInt := q_mulI rfl rfl (by omega) (by omega)
          have m2 := q_addI m1 hj (by omega) (by omega)
          show ((1000 * x2 : Int32) + lx56 : Int32).toInt.toNat = _
          rw [m2]
          show _ = 1000 * x2.toInt.toNat + j
          omega
        rw [ix]
        have d0 : 0 ≤ (t2_0 (1000 * x2.toNatClampNeg + j)).toInt ∧ (t2_0 (1000 * x2.toNatClampNeg + j)).toInt ≤ 9 := hg1
        clear hg1
        have hj1 : (lx56 + 1).toInt = ((j + 1 : Nat) : Int) := by
          rw [q_addI (y := 1) hj rfl (by omega) (by omega)]
          omega
        by_cases g1 : 0 < lg_cmp lx58 (-922337203685477580)
        · rw [if_pos g1]
          have g := q_k3 g1
          have nx := y_nxL d d0 (by omega)
          exact ih _ _ _ (j + 1) hj1 (by omega) (by omega) (Or.inl ⟨rfl, by omega, by rw [nx, st]⟩)
        · rw [if_neg g1]
          have g := q_k4 g1
          by_cases g2 : lg_cmp lx58 (-922337203685477580) = 0
          · rw [if_pos g2]
            have g3 := q_k9 g2
            by_cases g4 : 8 < t2_0 (1000 * x2.toNatClampNeg + j)
            · rw [if_pos g4]
              have g5 := q_ltI g4
              exact ih _ _ _ (j + 1) hj1 (by omega) (by omega) (Or.inr ⟨rfl, by omega⟩)
            · rw [if_neg g4]
              have g5 := q_nltI g4
              have nx := y_nxL d d0 (by omega)
              exact ih _ _ _ (j + 1) hj1 (by omega) (by omega) (Or.inl ⟨rfl, by omega, by rw [nx, st]⟩)
          · rw [if_neg g2]
            have g3 := q_k10 g2
            exact ih _ _ _ (j + 1) hj1 (by omega) (by omega) (Or.inr ⟨rfl, by omega⟩)
      · rw [if_pos a]
        exact V_is109 hs (Or.inr ⟨a, b⟩)
theorem V_isLong {x2 : Int32} {t0_0 : Int32} {t0_1 : Int32} {t0_2 : Int32} {t1_0 : Int32} {t1_1 : Int32} {t1_2 : Int32} {t1_3 : Int64} {t1_4 : Int32} {t1_5 : Int32} {t1_6 : Int32} {t1_7 : Int32} {t1_8 : Int32} {t1_9 : Int32} {t1_10 : Int32} {t2_0 : (Nat → Int32)} {t3_0 : (Nat → Int32)} {t4_0 : (Nat → Int32)} {t5_0 : (Nat → Int64)} {D : Nat → Int × Int} (hx : yReg x2) (hD : ∃ c, dRv t2_0 t3_0 t4_0 c D) : QV_isL (D x2.toNatClampNeg).1 (F_NM_isLong x2 t0_0 t0_1 t0_2 t1_0 t1_1 t1_2 t1_3 t1_4 t1_5 t1_6 t1_7 t1_8 t1_9 t1_10 t2_0 t3_0 t4_0 t5_0) := by
  obtain ⟨c, hD⟩ := hD
  have ix := y_rgN hx
  obtain ⟨q1, q2, q3, q4, _⟩ := hD.2 _ ix
  have hx' : 0 ≤ x2.toInt ∧ x2.toInt ≤ 9 := ⟨hx.1, hx.2⟩
  have e19 : (19 : Int32).toInt = 19 := rfl
  have e0 : (0 : Int32).toInt = 0 := rfl
  generalize hm : (t3_0 x2.toNatClampNeg).toNatClampNeg = m at q2 q3
  have hm' : (t3_0 x2.toNatClampNeg).toInt = (m : Int) := by
    have : (t3_0 x2.toNatClampNeg).toInt.toNat = m := hm
    omega
  have hg : gO (fun j => t2_0 (1000 * x2.toNatClampNeg + j)) m := fun j hj => hD.1 _ (by omega)
  have fu : m < ((12200 : Int) - (0 : Int32).toInt).toNat + 1 + 0 := by omega
  unfold F_NM_isLong
  by_cases g : 19 < (t3_0 x2.toNatClampNeg)
  · rw [if_pos g]
    have g' := q_ltI g
    unfold F_NM_isLong_J21
    refine V_isLL hx' hg q2 hm' (by omega) q4 _ 0 0 0 0 rfl (Nat.zero_le _) fu (Or.inr ⟨rfl, ?_⟩)
    have v0 : (D x2.toNatClampNeg).1 ≠ 0 := fun z => by
      have := q3.2 z
      omega
    have := q3.1.2.2 v0
    have w : (10 : Nat) ^ 19 ≤ 10 ^ (m - 1) := Nat.pow_le_pow_right (by decide) (by omega)
    have w2 : (10 : Nat) ^ 19 = 10000000000000000000 := by decide
    omega
  · rw [if_neg g]
    unfold F_NM_isLong_J21
    refine V_isLL hx' hg q2 hm' (by omega) q4 _ 0 1 0 0 rfl (Nat.zero_le _) fu (Or.inl ⟨rfl, ?_, ?_⟩)
    · show (0 : Int) ≤ _
      decide
    · rfl

