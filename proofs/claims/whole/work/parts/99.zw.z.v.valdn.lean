/-! values, for whole: the class's Digits rounded -/
theorem y_stD {X e : Nat} (h : X % 10 ≠ 9) (he : 1 ≤ e) : (X + 1) / 10 ^ e = X / 10 ^ e := by
  obtain ⟨f, rfl⟩ : ∃ f, e = f + 1 := ⟨e - 1, by omega⟩
  rw [Nat.pow_succ, Nat.mul_comm, ← Nat.div_div_eq_div_mul, ← Nat.div_div_eq_div_mul, show (X + 1) / 10 = X / 10 from by omega]
theorem y_stT {X j : Nat} (h : yDt X j) (hj : j ≠ 0) (h9 : X % 10 ≠ 9) : yDt (X + 1) j := by
  have h2 := h.2 hj
  have h1 := h.1
  unfold yLt10 at h1 h2
  refine ⟨?_, fun _ => ?_⟩
  · unfold yLt10
    obtain ⟨f, rfl⟩ : ∃ f, j = f + 1 := ⟨j - 1, by omega⟩
    rw [Nat.pow_succ] at h1 ⊢
    generalize 10 ^ f = u at h1 ⊢
    omega
  · unfold yLt10
    generalize 10 ^ (j - 1) = u at h2 ⊢
    omega
theorem y_stF {X j i : Nat} (h9 : X % 10 ≠ 9) (hi : i < j) : yFg (X + 1) j i = if i = j - 1 then X % 10 + 1 else yFg X j i := by
  unfold yFg yLo
  by_cases g : i = j - 1
  · rw [if_pos g, show j - 1 - i = 0 from by omega, Nat.pow_zero, Nat.div_one]
    omega
  · rw [if_neg g, y_stD h9 (by omega)]
theorem y_dvT {S k m : Nat} (h : yDt S (k + m)) : yDt (S / 10 ^ m) k := by
  have p : 0 < 10 ^ m := Nat.pow_pos (by decide)
  refine ⟨?_, fun hk => ?_⟩
  · have h1 := h.1
    unfold yLt10 at h1 ⊢
    rw [Nat.div_lt_iff_lt_mul p, ← Nat.pow_add]
    exact h1
  · have h2 := h.2 (by omega)
    unfold yLt10 at h2 ⊢
    rw [Nat.div_lt_iff_lt_mul p, ← Nat.pow_add, show k - 1 + m = k + m - 1 from by omega]
    exact h2
theorem y_dvF {S k m i : Nat} (hi : i < k) : yFg (S / 10 ^ m) k i = yFg S (k + m) i := by
  unfold yFg yLo
  rw [Nat.div_div_eq_div_mul, ← Nat.pow_add, show m + (k - 1 - i) = k + m - 1 - i from by omega]
theorem y_stR {Q t : Nat} (h : yTl Q t + 1 = 10 ^ t) : (Q / 10 ^ t + 1) * 10 ^ t = Q + 1 := by
  have d := Nat.div_add_mod Q (10 ^ t)
  have e : yTl Q t = Q % 10 ^ t := rfl
  rw [e] at h
  rw [Nat.add_mul, Nat.one_mul, Nat.mul_comm]
  omega
theorem y_stP {Q t : Nat} (h : yTl Q t + 1 = 10 ^ t) (h9 : yLo Q t = 9) : yTl Q (t + 1) + 1 = 10 ^ (t + 1) := by
  rw [yTl_s, h9, Nat.pow_succ]
  omega
/-- a row of K figures, a figure at lx raised, the nines below it gone -/
theorem y_stN {lx : Int32} {row : Nat → Int32} {Q K j t : Nat} (hq : yDt Q K) (hK : K ≤ 1026) (hr : ∀ i, i < K → (row i).toInt = ((yFg Q K i : Nat) : Int)) (hj : lx.toInt = (j : Int)) (ht : j + 1 + t = K) (h9 : ¬ row lx.toNatClampNeg = 9) : yDgc (lx + 1) (upd row lx.toNatClampNeg (vp_nar .byte (((row lx.toNatClampNeg : Int32) + 1 : Int32).toInt8.toInt32 : Int32))) (Q / 10 ^ t + 1) (j + 1) := by
  have e1 : (1 : Int32).toInt = 1 := rfl
  have ix : lx.toNatClampNeg = j := by
    show lx.toInt.toNat = j
    omega
  rw [ix] at h9 ⊢
  have dt : yDt (Q / 10 ^ t) (j + 1) := y_dvT (by rw [ht]; exact hq)
  have dg := hr j (by omega)
  have fe : yFg Q K j = Q / 10 ^ t % 10 := by
    unfold yFg yLo
    rw [show K - 1 - j = t from by omega]
  rw [fe] at dg
  have X9 : Q / 10 ^ t % 10 ≠ 9 := fun q => h9 (Int32.toInt_inj.mp (by rw [dg, q]; rfl))
  have l10 : Q / 10 ^ t % 10 < 10 := Nat.mod_lt _ (by decide)
  refine ⟨q_addI hj e1 (by omega) (by omega), by omega, y_stT dt (by omega) X9, fun i hi => ?_⟩
  rw [yu_pt, y_stF X9 hi]
  by_cases g : i = j
  · have up := q_addI dg e1 (by omega) (by omega)
    rw [if_pos g, if_pos (by omega), (y_nar9 (y := row j + 1) (by rw [up]; omega)).1, up]
    rfl
  · rw [if_neg g, if_neg (by omega), y_dvF hi, ht]
    exact hr i (by omega)
theorem y_st1 {row : Nat → Int32} : yDgc 1 (upd row (0 : Int32).toNatClampNeg (vp_nar .byte 1)) 1 1 := by
  refine ⟨rfl, by decide, ⟨(by show 1 < 10 ^ 1; decide), fun _ => (by show ¬ 1 < 10 ^ (1 - 1); decide)⟩, fun i hi => ?_⟩
  rw [yu_pt]
  obtain rfl : i = 0 := by omega
  rw [if_pos (by decide), (y_nar9 (y := 1) (by decide)).2]
  rfl
def QV_st (x2 p : Int32) (Q : Nat) (r : Int32 × Int32 × (Nat → Int32)) : Prop := ∃ S c z : Nat, yDgc r.1 r.2.2 S c ∧ S ≠ 0 ∧ S * 10 ^ z = Q + 1 ∧ r.2.1.toInt = (c : Int) + z + p.toInt - x2.toInt ∧ c + z ≤ 1027
theorem V_stJ {K_F_Dig_stepOutwards_L7 : Int32 → (Int32 × Int32 × (Nat → Int32))} {x2 : Int32} {t0_0 : Int32} {t0_1 : Int32} {t1_0 : (Nat → Int32)} {lx13 : Int32} {Q K j t : Nat} (hq : yDt Q K) (hK : K ≤ 1026) (hr : ∀ i, i < K → (t1_0 i).toInt = ((yFg Q K i : Nat) : Int)) (hx : (0 < x2.toInt ∧ x2.toInt = (K : Int)) ∨ (0 = 0 ∧ x2.toInt ≤ 0 ∧ K = 0)) (hp : -100000 ≤ t0_1.toInt ∧ t0_1.toInt ≤ 100000) (hx2 : -100000 ≤ x2.toInt) (hj : lx13.toInt + 1 = (j : Int)) (ht : j + t = K) (hT : yTl Q t + 1 = 10 ^ t) (h9 : 0 ≤ lx13.toInt → ¬ t1_0 lx13.toNatClampNeg = 9) : QV_st x2 t0_1 Q (F_Dig_stepOutwards_J28 K_F_Dig_stepOutwards_L7 x2 t0_0 t0_1 t1_0 lx13) := by
  have e1 : (1 : Int32).toInt = 1 := rfl
  have e0 : (0 : Int32).toInt = 0 := rfl
  unfold F_Dig_stepOutwards_J28
  by_cases g : lx13 < 0
  · rw [if_pos g]
    have g := q_ltI g
    obtain rfl : j = 0 := by omega
    obtain rfl : t = K := by omega
    have q1 : 1 * 10 ^ t = Q + 1 := by
      have : yTl Q t = Q := Nat.mod_eq_of_lt hq.1
      rw [this] at hT
      omega
    by_cases y : x2 ≤ 0
    · rw [if_pos y]
      have y := q_leI y
      refine ⟨1, 1, t, y_st1, by decide, q1, ?_, by omega⟩
      show (t0_1 + (1 - x2)).toInt = _
      have s := q_subI e1 (rfl : x2.toInt = x2.toInt) (by omega) (by omega)
      rw [q_addI (rfl : t0_1.toInt = t0_1.toInt) s (by omega) (by omega)]
      omega
    · rw [if_neg y]
      have y := q_nleI y
      refine ⟨1, 1, t, y_st1, by decide, q1, ?_, by omega⟩
      show (t0_1 + 1).toInt = _
      rw [q_addI (rfl : t0_1.toInt = t0_1.toInt) e1 (by omega) (by omega)]
      omega
  · rw [if_neg g]
    have g := q_nltI g
    obtain ⟨k, rfl⟩ : ∃ k, j = k + 1 := ⟨j - 1, by omega⟩
    have w := y_stN (lx := lx13) (j := k) (t := t) hq hK hr (by omega) ht (h9 (by omega))
    refine ⟨Q / 10 ^ t + 1, k + 1, t, w, Nat.succ_ne_zero _, y_stR hT, ?_, by omega⟩
    show t0_1.toInt = _
    omega
theorem V_stL {x2 : Int32} {t0_0 : Int32} {t0_1 : Int32} {t1_0 : (Nat → Int32)} {Q K : Nat} (hq : yDt Q K) (hK : K ≤ 1026) (hr : ∀ i, i < K → (t1_0 i).toInt = ((yFg Q K i : Nat) : Int)) (hx : (0 < x2.toInt ∧ x2.toInt = (K : Int)) ∨ (0 = 0 ∧ x2.toInt ≤ 0 ∧ K = 0)) (hp : -100000 ≤ t0_1.toInt ∧ t0_1.toInt ≤ 100000) (hx2 : -100000 ≤ x2.toInt) : ∀ (n : Nat) (lx13 : Int32), ∀ (j t : Nat), lx13.toInt + 1 = (j : Int) → j + t = K → j < n → yTl Q t + 1 = 10 ^ t → QV_st x2 t0_1 Q (F_Dig_stepOutwards_L7 x2 t0_0 t0_1 t1_0 n lx13) := by
  have e0 : (0 : Int32).toInt = 0 := rfl
  intro n
  induction n with
  | zero =>
    intro lx13 j t g1 g2 g3
    omega
  | succ n ih =>
    intro lx13 j t g1 g2 g3 g4
    rw [F_Dig_stepOutwards_L7.eq_2]
    by_cases g : lx13 < 0
    · rw [if_pos g]
      have g := q_ltI g
      exact V_stJ hq hK hr hx hp hx2 g1 g2 g4 (fun q => by omega)
    · rw [if_neg g]
      have g := q_nltI g
      by_cases d : t1_0 lx13.toNatClampNeg = 9
      · rw [if_pos d]
        obtain ⟨k, rfl⟩ : ∃ k, j = k + 1 := ⟨j - 1, by omega⟩
        have hk : lx13.toInt = (k : Int) := by omega
        have ix : lx13.toNatClampNeg = k := by
          show lx13.toInt.toNat = k
          omega
        have dg := hr k (by omega)
        rw [ix] at d
        rw [d] at dg
        have e9 : (9 : Int32).toInt = 9 := rfl
        have fe : yFg Q K k = yLo Q t := by
          unfold yFg
          rw [show K - 1 - k = t from by omega]
        rw [fe, e9] at dg
        exact ih (lx13 + -1) k (t + 1) (y_dn1 hk) (by omega) (by omega) (y_stP g4 (by omega))
      · rw [if_neg d]
        exact V_stJ hq hK hr hx hp hx2 g1 g2 g4 (fun _ => d)
theorem V_stO {x2 : Int32} {t0_0 : Int32} {t0_1 : Int32} {t1_0 : (Nat → Int32)} {Q K : Nat} (h0 : t0_0.toInt = (K : Int)) (hq : yDt Q K) (hK : K ≤ 1026) (hr : ∀ i, i < K → (t1_0 i).toInt = ((yFg Q K i : Nat) : Int)) (hx : (0 < x2.toInt ∧ x2.toInt = (K : Int)) ∨ (0 = 0 ∧ x2.toInt ≤ 0 ∧ K = 0)) (hp : -100000 ≤ t0_1.toInt ∧ t0_1.toInt ≤ 100000) (hx2 : -100000 ≤ x2.toInt) : QV_st x2 t0_1 Q (F_Dig_stepOutwards x2 t0_0 t0_1 t1_0) := by
  have e1 : (1 : Int32).toInt = 1 := rfl
  have s := q_subI h0 e1 (by omega) (by omega)
  unfold F_Dig_stepOutwards
  exact V_stL hq hK hr hx hp hx2 _ (t0_0 - 1) K 0 (by rw [s]; omega) (by omega) (by rw [s]; omega) (by rw [yTl_0, Nat.pow_zero])
theorem V_rou {x2 : Int32} {x3 : Int32} {t0_0 : Int32} {t0_1 : Int32} {t1_0 : (Nat → Int32)} {S c m : Nat} (h : yDgc t0_0 t1_0 S c) (hS : S ≠ 0) (hm : x2.toInt + ((m + 1 : Nat) : Int) = (c : Int)) (hx : -100000 ≤ x2.toInt) (hX : 0 = 0 ∨ 0 < x2.toInt) (hmd : 0 ≤ x3.toInt ∧ x3.toInt ≤ 3) (hp : -100000 ≤ t0_1.toInt ∧ t0_1.toInt ≤ 100000) : ∃ S' c' z : Nat, yDgc (F_Dig_round x2 x3 t0_0 t0_1 t1_0).1 (F_Dig_round x2 x3 t0_0 t0_1 t1_0).2.2 S' c' ∧ S' * 10 ^ z = S / 10 ^ (m + 1) + yOut x3 S (m + 1) ∧ (c' ≠ 0 → (F_Dig_round x2 x3 t0_0 t0_1 t1_0).2.1.toInt = (c' : Int) + z + t0_1.toInt - x2.toInt) ∧ (c' = 0 → (F_Dig_round x2 x3 t0_0 t0_1 t1_0).2.1.toInt = 0) ∧ c' + z ≤ 1027 := by
  have e0 : (0 : Int32).toInt = 0 := rfl
  obtain ⟨d1, d2, d3, d4⟩ := h
  have hh : yDgc t0_0 t1_0 S c := ⟨d1, d2, d3, d4⟩
  have go := V_gwO (t0_1 := t0_1) hh hS hm hx hmd
  have o1 : yOut x3 S (m + 1) = 0 ∨ yOut x3 S (m + 1) = 1 := by
    rw [yOut_s]
    have : ∀ t : Nat, t % 2 = 0 ∨ t % 2 = 1 := fun t => by omega
    have := this (S / 10 ^ (m + 1))
    repeat' split
    all_goals first | exact Or.inl rfl | exact Or.inr rfl | assumption
  unfold F_Dig_round
  rw [if_pos (Int32.lt_iff_toInt_lt.mpr (by omega))]
  have kk : ∃ K : Nat, (if x2 < 0 then (0 : Int32) else x2).toInt = (K : Int) ∧ yDt (S / 10 ^ (m + 1)) K ∧ K ≤ 1026 ∧ (∀ i, i < K → (t1_0 i).toInt = ((yFg (S / 10 ^ (m + 1)) K i : Nat) : Int)) ∧ ((0 < x2.toInt ∧ x2.toInt = (K : Int)) ∨ (x2.toInt ≤ 0 ∧ K = 0)) := by
    by_cases g : x2.toInt ≤ 0
    · refine ⟨0, ?_, ?_, by omega, fun i hi => absurd hi (Nat.not_lt_zero _), Or.inr ⟨g, rfl⟩⟩
      · by_cases q : x2 < 0
        · rw [if_pos q]
          rfl
        · rw [if_neg q]
          have := q_nltI q
          omega
      · have : S / 10 ^ (m + 1) = 0 := Nat.div_eq_of_lt (Nat.lt_of_lt_of_le d3.1 (Nat.pow_le_pow_right (by decide) (by omega)))
        rw [this]
        exact ⟨(by show 0 < 10 ^ 0; decide), fun q => absurd rfl q⟩
    · obtain ⟨K, hK⟩ : ∃ K : Nat, x2.toInt = (K : Int) := ⟨x2.toInt.toNat, by omega⟩
      have cK : c = K + (m + 1) := by omega
      refine ⟨K, ?_, y_dvT (by rw [← cK]; exact d3), by omega, fun i hi => ?_, Or.inl ⟨by omega, hK⟩⟩
      · rw [if_neg (fun q => by have := q_ltI q; omega)]
        exact hK
      · rw [y_dvF hi, ← cK]
        exact d4 i (by omega)
  obtain ⟨K, k1, k2, k3, k4, k5⟩ := kk
  by_cases g : F_Dig_goesOutwards x2 x3 t0_0 t0_1 t1_0 = 0
  · rw [if_pos g]
    rw [g, e0] at go
    have o0 : yOut x3 S (m + 1) = 0 := by omega
    rw [o0, Nat.add_zero]
    by_cases y : (if x2 < 0 then (0 : Int32) else x2) = 0
    · rw [if_pos y]
      rw [y, e0] at k1
      obtain rfl : K = 0 := by omega
      refine ⟨S / 10 ^ (m + 1), 0, 0, ⟨by rw [y]; rfl, by omega, k2, fun i hi => absurd hi (Nat.not_lt_zero _)⟩, by rw [Nat.pow_zero, Nat.mul_one], fun q => absurd rfl q, fun _ => rfl, by omega⟩
    · rw [if_neg y]
      have K0 : K ≠ 0 := fun q => y (Int32.toInt_inj.mp (by rw [k1, q]; rfl))
      refine ⟨S / 10 ^ (m + 1), K, 0, ⟨k1, k3, k2, k4⟩, by rw [Nat.pow_zero, Nat.mul_one], fun q => ?_, fun q => absurd q K0, by omega⟩
      show t0_1.toInt = _
      omega
  · rw [if_neg g]
    have o0 : yOut x3 S (m + 1) = 1 := by
      rcases o1 with q | q
      · exact absurd (Int32.toInt_inj.mp (by rw [go, q]; rfl)) g
      · exact q
    rw [o0]
    have k6 : (0 < x2.toInt ∧ x2.toInt = (K : Int)) ∨ (0 = 0 ∧ x2.toInt ≤ 0 ∧ K = 0) := by
      rcases k5 with q | q
      · exact Or.inl q
      · rcases hX with w | w
        · exact Or.inr ⟨w, q⟩
        · omega
    have st := V_stO (x2 := x2) (t0_1 := t0_1) k1 k2 k3 k4 k6 hp hx
    revert st
    generalize F_Dig_stepOutwards x2 (if x2 < 0 then 0 else x2) t0_1 t1_0 = r
    intro st
    obtain ⟨S', c', z, s1, s2, s3, s4, s5⟩ := st
    unfold F_Dig_round_c31
    refine ⟨S', c', z, s1, s3, fun _ => s4, fun q => ?_, s5⟩
    exfalso
    have := s1.2.2.1.1
    rw [q] at this
    unfold yLt10 at this
    rw [Nat.pow_zero] at this
    omega
theorem V_stJ_2 {K_F_Dig_stepOutwards_2_L7 : Int32 → (Int32 × Int32 × (Nat → Int32))} {x2 : Int32} {t0_0 : Int32} {t0_1 : Int32} {t1_0 : (Nat → Int32)} {lx13 : Int32} {Q K j t : Nat} (hq : yDt Q K) (hK : K ≤ 1026) (hr : ∀ i, i < K → (t1_0 i).toInt = ((yFg Q K i : Nat) : Int)) (hx : (0 < x2.toInt ∧ x2.toInt = (K : Int)) ∨ (0 = 0 ∧ x2.toInt ≤ 0 ∧ K = 0)) (hp : -100000 ≤ t0_1.toInt ∧ t0_1.toInt ≤ 100000) (hx2 : -100000 ≤ x2.toInt) (hj : lx13.toInt + 1 = (j : Int)) (ht : j + t = K) (hT : yTl Q t + 1 = 10 ^ t) (h9 : 0 ≤ lx13.toInt → ¬ t1_0 lx13.toNatClampNeg = 9) : QV_st x2 t0_1 Q (F_Dig_stepOutwards_2_J28 K_F_Dig_stepOutwards_2_L7 x2 t0_0 t0_1 t1_0 lx13) := by
  have e1 : (1 : Int32).toInt = 1 := rfl
  have e0 : (0 : Int32).toInt = 0 := rfl
  unfold F_Dig_stepOutwards_2_J28
  by_cases g : lx13 < 0
  · rw [if_pos g]
    have g := q_ltI g
    obtain rfl : j = 0 := by omega
    obtain rfl : t = K := by omega
    have q1 : 1 * 10 ^ t = Q + 1 := by
      have : yTl Q t = Q := Nat.mod_eq_of_lt hq.1
      rw [this] at hT
      omega
    by_cases y : x2 ≤ 0
    · rw [if_pos y]
      have y := q_leI y
      refine ⟨1, 1, t, y_st1, by decide, q1, ?_, by omega⟩
      show (t0_1 + (1 - x2)).toInt = _
      have s := q_subI e1 (rfl : x2.toInt = x2.toInt) (by omega) (by omega)
      rw [q_addI (rfl : t0_1.toInt = t0_1.toInt) s (by omega) (by omega)]
      omega
    · rw [if_neg y]
      have y := q_nleI y
      refine ⟨1, 1, t, y_st1, by decide, q1, ?_, by omega⟩
      show (t0_1 + 1).toInt = _
      rw [q_addI (rfl : t0_1.toInt = t0_1.toInt) e1 (by omega) (by omega)]
      omega
  · rw [if_neg g]
    have g := q_nltI g
    obtain ⟨k, rfl⟩ : ∃ k, j = k + 1 := ⟨j - 1, by omega⟩
    have w := y_stN (lx := lx13) (j := k) (t := t) hq hK hr (by omega) ht (h9 (by omega))
    refine ⟨Q / 10 ^ t + 1, k + 1, t, w, Nat.succ_ne_zero _, y_stR hT, ?_, by omega⟩
    show t0_1.toInt = _
    omega
theorem V_stL_2 {x2 : Int32} {t0_0 : Int32} {t0_1 : Int32} {t1_0 : (Nat → Int32)} {Q K : Nat} (hq : yDt Q K) (hK : K ≤ 1026) (hr : ∀ i, i < K → (t1_0 i).toInt = ((yFg Q K i : Nat) : Int)) (hx : (0 < x2.toInt ∧ x2.toInt = (K : Int)) ∨ (0 = 0 ∧ x2.toInt ≤ 0 ∧ K = 0)) (hp : -100000 ≤ t0_1.toInt ∧ t0_1.toInt ≤ 100000) (hx2 : -100000 ≤ x2.toInt) : ∀ (n : Nat) (lx13 : Int32), ∀ (j t : Nat), lx13.toInt + 1 = (j : Int) → j + t = K → j < n → yTl Q t + 1 = 10 ^ t → QV_st x2 t0_1 Q (F_Dig_stepOutwards_2_L7 x2 t0_0 t0_1 t1_0 n lx13) := by
  have e0 : (0 : Int32).toInt = 0 := rfl
  intro n
  induction n with
  | zero =>
    intro lx13 j t g1 g2 g3
    omega
  | succ n ih =>
    intro lx13 j t g1 g2 g3 g4
    rw [F_Dig_stepOutwards_2_L7.eq_2]
    by_cases g : lx13 < 0
    · rw [if_pos g]
      have g := q_ltI g
      exact V_stJ_2 hq hK hr hx hp hx2 g1 g2 g4 (fun q => by omega)
    · rw [if_neg g]
      have g := q_nltI g
      by_cases d : t1_0 lx13.toNatClampNeg = 9
      · rw [if_pos d]
        obtain ⟨k, rfl⟩ : ∃ k, j = k + 1 := ⟨j - 1, by omega⟩
        have hk : lx13.toInt = (k : Int) := by omega
        have ix : lx13.toNatClampNeg = k := by
          show lx13.toInt.toNat = k
          omega
        have dg := hr k (by omega)
        rw [ix] at d
        rw [d] at dg
        have e9 : (9 : Int32).toInt = 9 := rfl
        have fe : yFg Q K k = yLo Q t := by
          unfold yFg
          rw [show K - 1 - k = t from by omega]
        rw [fe, e9] at dg
        exact ih (lx13 + -1) k (t + 1) (y_dn1 hk) (by omega) (by omega) (y_stP g4 (by omega))
      · rw [if_neg d]
        exact V_stJ_2 hq hK hr hx hp hx2 g1 g2 g4 (fun _ => d)
theorem V_stO_2 {x2 : Int32} {t0_0 : Int32} {t0_1 : Int32} {t1_0 : (Nat → Int32)} {Q K : Nat} (h0 : t0_0.toInt = (K : Int)) (hq : yDt Q K) (hK : K ≤ 1026) (hr : ∀ i, i < K → (t1_0 i).toInt = ((yFg Q K i : Nat) : Int)) (hx : (0 < x2.toInt ∧ x2.toInt = (K : Int)) ∨ (0 = 0 ∧ x2.toInt ≤ 0 ∧ K = 0)) (hp : -100000 ≤ t0_1.toInt ∧ t0_1.toInt ≤ 100000) (hx2 : -100000 ≤ x2.toInt) : QV_st x2 t0_1 Q (F_Dig_stepOutwards_2 x2 t0_0 t0_1 t1_0) := by
  have e1 : (1 : Int32).toInt = 1 := rfl
  have s := q_subI h0 e1 (by omega) (by omega)
  unfold F_Dig_stepOutwards_2
  exact V_stL_2 hq hK hr hx hp hx2 _ (t0_0 - 1) K 0 (by rw [s]; omega) (by omega) (by rw [s]; omega) (by rw [yTl_0, Nat.pow_zero])
theorem V_rou_2 {x2 : Int32} {x3 : Int32} {t0_0 : Int32} {t0_1 : Int32} {t1_0 : (Nat → Int32)} {S c m : Nat} (h : yDgc t0_0 t1_0 S c) (hS : S ≠ 0) (hm : x2.toInt + ((m + 1 : Nat) : Int) = (c : Int)) (hx : -100000 ≤ x2.toInt) (hX : 0 = 0 ∨ 0 < x2.toInt) (hmd : 0 ≤ x3.toInt ∧ x3.toInt ≤ 3) (hp : -100000 ≤ t0_1.toInt ∧ t0_1.toInt ≤ 100000) : ∃ S' c' z : Nat, yDgc (F_Dig_round_2 x2 x3 t0_0 t0_1 t1_0).1 (F_Dig_round_2 x2 x3 t0_0 t0_1 t1_0).2.2 S' c' ∧ S' * 10 ^ z = S / 10 ^ (m + 1) + yOut x3 S (m + 1) ∧ (c' ≠ 0 → (F_Dig_round_2 x2 x3 t0_0 t0_1 t1_0).2.1.toInt = (c' : Int) + z + t0_1.toInt - x2.toInt) ∧ (c' = 0 → (F_Dig_round_2 x2 x3 t0_0 t0_1 t1_0).2.1.toInt = 0) ∧ c' + z ≤ 1027 := by
  have e0 : (0 : Int32).toInt = 0 := rfl
  obtain ⟨d1, d2, d3, d4⟩ := h
  have hh : yDgc t0_0 t1_0 S c := ⟨d1, d2, d3, d4⟩
  have go := V_gwO (t0_1 := t0_1) hh hS hm hx hmd
  have o1 : yOut x3 S (m + 1) = 0 ∨ yOut x3 S (m + 1) = 1 := by
    rw [yOut_s]
    have : ∀ t : Nat, t % 2 = 0 ∨ t % 2 = 1 := fun t => by omega
    have := this (S / 10 ^ (m + 1))
    repeat' split
    all_goals first | exact Or.inl rfl | exact Or.inr rfl | assumption
  unfold F_Dig_round_2
  rw [if_pos (Int32.lt_iff_toInt_lt.mpr (by omega))]
  have kk : ∃ K : Nat, (if x2 < 0 then (0 : Int32) else x2).toInt = (K : Int) ∧ yDt (S / 10 ^ (m + 1)) K ∧ K ≤ 1026 ∧ (∀ i, i < K → (t1_0 i).toInt = ((yFg (S / 10 ^ (m + 1)) K i : Nat) : Int)) ∧ ((0 < x2.toInt ∧ x2.toInt = (K : Int)) ∨ (x2.toInt ≤ 0 ∧ K = 0)) := by
    by_cases g : x2.toInt ≤ 0
    · refine ⟨0, ?_, ?_, by omega, fun i hi => absurd hi (Nat.not_lt_zero _), Or.inr ⟨g, rfl⟩⟩
      · by_cases q : x2 < 0
        · rw [if_pos q]
          rfl
        · rw [if_neg q]
          have := q_nltI q
          omega
      · have : S / 10 ^ (m + 1) = 0 := Nat.div_eq_of_lt (Nat.lt_of_lt_of_le d3.1 (Nat.pow_le_pow_right (by decide) (by omega)))
        rw [this]
        exact ⟨(by show 0 < 10 ^ 0; decide), fun q => absurd rfl q⟩
    · obtain ⟨K, hK⟩ : ∃ K : Nat, x2.toInt = (K : Int) := ⟨x2.toInt.toNat, by omega⟩
      have cK : c = K + (m + 1) := by omega
      refine ⟨K, ?_, y_dvT (by rw [← cK]; exact d3), by omega, fun i hi => ?_, Or.inl ⟨by omega, hK⟩⟩
      · rw [if_neg (fun q => by have := q_ltI q; omega)]
        exact hK
      · rw [y_dvF hi, ← cK]
        exact d4 i (by omega)
  obtain ⟨K, k1, k2, k3, k4, k5⟩ := kk
  by_cases g : F_Dig_goesOutwards x2 x3 t0_0 t0_1 t1_0 = 0
  · rw [if_pos g]
    rw [g, e0] at go
    have o0 : yOut x3 S (m + 1) = 0 := by omega
    rw [o0, Nat.add_zero]
    by_cases y : (if x2 < 0 then (0 : Int32) else x2) = 0
    · rw [if_pos y]
      rw [y, e0] at k1
      obtain rfl : K = 0 := by omega
      refine ⟨S / 10 ^ (m + 1), 0, 0, ⟨by rw [y]; rfl, by omega, k2, fun i hi => absurd hi (Nat.not_lt_zero _)⟩, by rw [Nat.pow_zero, Nat.mul_one], fun q => absurd rfl q, fun _ => rfl, by omega⟩
    · rw [if_neg y]
      have K0 : K ≠ 0 := fun q => y (Int32.toInt_inj.mp (by rw [k1, q]; rfl))
      refine ⟨S / 10 ^ (m + 1), K, 0, ⟨k1, k3, k2, k4⟩, by rw [Nat.pow_zero, Nat.mul_one], fun q => ?_, fun q => absurd q K0, by omega⟩
      show t0_1.toInt = _
      omega
  · rw [if_neg g]
    have o0 : yOut x3 S (m + 1) = 1 := by
      rcases o1 with q | q
      · exact absurd (Int32.toInt_inj.mp (by rw [go, q]; rfl)) g
      · exact q
    rw [o0]
    have k6 : (0 < x2.toInt ∧ x2.toInt = (K : Int)) ∨ (0 = 0 ∧ x2.toInt ≤ 0 ∧ K = 0) := by
      rcases k5 with q | q
      · exact Or.inl q
      · rcases hX with w | w
        · exact Or.inr ⟨w, q⟩
        · omega
    have st := V_stO_2 (x2 := x2) (t0_1 := t0_1) k1 k2 k3 k4 k6 hp hx
    revert st
    generalize F_Dig_stepOutwards_2 x2 (if x2 < 0 then 0 else x2) t0_1 t1_0 = r
    intro st
    obtain ⟨S', c', z, s1, s2, s3, s4, s5⟩ := st
    unfold F_Dig_round_2_c31
    refine ⟨S', c', z, s1, s3, fun _ => s4, fun q => ?_, s5⟩
    exfalso
    have := s1.2.2.1.1
    rw [q] at this
    unfold yLt10 at this
    rw [Nat.pow_zero] at this
    omega
theorem V_stJ_1 {K_F_Dig_stepOutwards_1_L7 : Int32 → (Int32 × Int32 × (Nat → Int32))} {x2 : Int32} {t0_0 : Int32} {t0_1 : Int32} {t1_0 : (Nat → Int32)} {lx13 : Int32} {Q K j t : Nat} (hq : yDt Q K) (hK : K ≤ 1026) (hr : ∀ i, i < K → (t1_0 i).toInt = ((yFg Q K i : Nat) : Int)) (hx : (0 < x2.toInt ∧ x2.toInt = (K : Int)) ∨ (0 = 1 ∧ x2.toInt ≤ 0 ∧ K = 0)) (hp : -100000 ≤ t0_1.toInt ∧ t0_1.toInt ≤ 100000) (hx2 : -100000 ≤ x2.toInt) (hj : lx13.toInt + 1 = (j : Int)) (ht : j + t = K) (hT : yTl Q t + 1 = 10 ^ t) (h9 : 0 ≤ lx13.toInt → ¬ t1_0 lx13.toNatClampNeg = 9) : QV_st x2 t0_1 Q (F_Dig_stepOutwards_1_J28 K_F_Dig_stepOutwards_1_L7 x2 t0_0 t0_1 t1_0 lx13) := by
  have e1 : (1 : Int32).toInt = 1 := rfl
  have e0 : (0 : Int32).toInt = 0 := rfl
  unfold F_Dig_stepOutwards_1_J28
  by_cases g : lx13 < 0
  · rw [if_pos g]
    have g := q_ltI g
    obtain rfl : j = 0 := by omega
    obtain rfl : t = K := by omega
    have q1 : 1 * 10 ^ t = Q + 1 := by
      have : yTl Q t = Q := Nat.mod_eq_of_lt hq.1
      rw [this] at hT
      omega
    refine ⟨1, 1, t, y_st1, by decide, q1, ?_, by omega⟩
    show (t0_1 + 1).toInt = _
    rw [q_addI (rfl : t0_1.toInt = t0_1.toInt) e1 (by omega) (by omega)]
    omega
  · rw [if_neg g]
    have g := q_nltI g
    obtain ⟨k, rfl⟩ : ∃ k, j = k + 1 := ⟨j - 1, by omega⟩
    have w := y_stN (lx := lx13) (j := k) (t := t) hq hK hr (by omega) ht (h9 (by omega))
    refine ⟨Q / 10 ^ t + 1, k + 1, t, w, Nat.succ_ne_zero _, y_stR hT, ?_, by omega⟩
    show t0_1.toInt = _
    omega
theorem V_stL_1 {x2 : Int32} {t0_0 : Int32} {t0_1 : Int32} {t1_0 : (Nat → Int32)} {Q K : Nat} (hq : yDt Q K) (hK : K ≤ 1026) (hr : ∀ i, i < K → (t1_0 i).toInt = ((yFg Q K i : Nat) : Int)) (hx : (0 < x2.toInt ∧ x2.toInt = (K : Int)) ∨ (0 = 1 ∧ x2.toInt ≤ 0 ∧ K = 0)) (hp : -100000 ≤ t0_1.toInt ∧ t0_1.toInt ≤ 100000) (hx2 : -100000 ≤ x2.toInt) : ∀ (n : Nat) (lx13 : Int32), ∀ (j t : Nat), lx13.toInt + 1 = (j : Int) → j + t = K → j < n → yTl Q t + 1 = 10 ^ t → QV_st x2 t0_1 Q (F_Dig_stepOutwards_1_L7 x2 t0_0 t0_1 t1_0 n lx13) := by
  have e0 : (0 : Int32).toInt = 0 := rfl
  intro n
  induction n with
  | zero =>
    intro lx13 j t g1 g2 g3
    omega
  | succ n ih =>
    intro lx13 j t g1 g2 g3 g4
    rw [F_Dig_stepOutwards_1_L7.eq_2]
    by_cases g : lx13 < 0
    · rw [if_pos g]
      have g := q_ltI g
      exact V_stJ_1 hq hK hr hx hp hx2 g1 g2 g4 (fun q => by omega)
    · rw [if_neg g]
      have g := q_nltI g
      by_cases d : t1_0 lx13.toNatClampNeg = 9
      · rw [if_pos d]
        obtain ⟨k, rfl⟩ : ∃ k, j = k + 1 := ⟨j - 1, by omega⟩
        have hk : lx13.toInt = (k : Int) := by omega
        have ix : lx13.toNatClampNeg = k := by
          show lx13.toInt.toNat = k
          omega
        have dg := hr k (by omega)
        rw [ix] at d
        rw [d] at dg
        have e9 : (9 : Int32).toInt = 9 := rfl
        have fe : yFg Q K k = yLo Q t := by
          unfold yFg
          rw [show K - 1 - k = t from by omega]
        rw [fe, e9] at dg
        exact ih (lx13 + -1) k (t + 1) (y_dn1 hk) (by omega) (by omega) (y_stP g4 (by omega))
      · rw [if_neg d]
        exact V_stJ_1 hq hK hr hx hp hx2 g1 g2 g4 (fun _ => d)
theorem V_stO_1 {x2 : Int32} {t0_0 : Int32} {t0_1 : Int32} {t1_0 : (Nat → Int32)} {Q K : Nat} (h0 : t0_0.toInt = (K : Int)) (hq : yDt Q K) (hK : K ≤ 1026) (hr : ∀ i, i < K → (t1_0 i).toInt = ((yFg Q K i : Nat) : Int)) (hx : (0 < x2.toInt ∧ x2.toInt = (K : Int)) ∨ (0 = 1 ∧ x2.toInt ≤ 0 ∧ K = 0)) (hp : -100000 ≤ t0_1.toInt ∧ t0_1.toInt ≤ 100000) (hx2 : -100000 ≤ x2.toInt) : QV_st x2 t0_1 Q (F_Dig_stepOutwards_1 x2 t0_0 t0_1 t1_0) := by
  have e1 : (1 : Int32).toInt = 1 := rfl
  have s := q_subI h0 e1 (by omega) (by omega)
  unfold F_Dig_stepOutwards_1
  exact V_stL_1 hq hK hr hx hp hx2 _ (t0_0 - 1) K 0 (by rw [s]; omega) (by omega) (by rw [s]; omega) (by rw [yTl_0, Nat.pow_zero])
theorem V_rou_1 {x2 : Int32} {x3 : Int32} {t0_0 : Int32} {t0_1 : Int32} {t1_0 : (Nat → Int32)} {S c m : Nat} (h : yDgc t0_0 t1_0 S c) (hS : S ≠ 0) (hm : x2.toInt + ((m + 1 : Nat) : Int) = (c : Int)) (hx : -100000 ≤ x2.toInt) (hX : 0 = 1 ∨ 0 < x2.toInt) (hmd : 0 ≤ x3.toInt ∧ x3.toInt ≤ 3) (hp : -100000 ≤ t0_1.toInt ∧ t0_1.toInt ≤ 100000) : ∃ S' c' z : Nat, yDgc (F_Dig_round_1 x2 x3 t0_0 t0_1 t1_0).1 (F_Dig_round_1 x2 x3 t0_0 t0_1 t1_0).2.2 S' c' ∧ S' * 10 ^ z = S / 10 ^ (m + 1) + yOut x3 S (m + 1) ∧ (c' ≠ 0 → (F_Dig_round_1 x2 x3 t0_0 t0_1 t1_0).2.1.toInt = (c' : Int) + z + t0_1.toInt - x2.toInt) ∧ (c' = 0 → (F_Dig_round_1 x2 x3 t0_0 t0_1 t1_0).2.1.toInt = 0) ∧ c' + z ≤ 1027 := by
  have e0 : (0 : Int32).toInt = 0 := rfl
  obtain ⟨d1, d2, d3, d4⟩ := h
  have hh : yDgc t0_0 t1_0 S c := ⟨d1, d2, d3, d4⟩
  have go := V_gwO (t0_1 := t0_1) hh hS hm hx hmd
  have o1 : yOut x3 S (m + 1) = 0 ∨ yOut x3 S (m + 1) = 1 := by
    rw [yOut_s]
    have : ∀ t : Nat, t % 2 = 0 ∨ t % 2 = 1 := fun t => by omega
    have := this (S / 10 ^ (m + 1))
    repeat' split
    all_goals first | exact Or.inl rfl | exact Or.inr rfl | assumption
  unfold F_Dig_round_1
  rw [if_pos (Int32.lt_iff_toInt_lt.mpr (by omega))]
  have kk : ∃ K : Nat, (if x2 < 0 then (0 : Int32) else x2).toInt = (K : Int) ∧ yDt (S / 10 ^ (m + 1)) K ∧ K ≤ 1026 ∧ (∀ i, i < K → (t1_0 i).toInt = ((yFg (S / 10 ^ (m + 1)) K i : Nat) : Int)) ∧ ((0 < x2.toInt ∧ x2.toInt = (K : Int)) ∨ (x2.toInt ≤ 0 ∧ K = 0)) := by
    by_cases g : x2.toInt ≤ 0
    · refine ⟨0, ?_, ?_, by omega, fun i hi => absurd hi (Nat.not_lt_zero _), Or.inr ⟨g, rfl⟩⟩
      · by_cases q : x2 < 0
        · rw [if_pos q]
          rfl
        · rw [if_neg q]
          have := q_nltI q
          omega
      · have : S / 10 ^ (m + 1) = 0 := Nat.div_eq_of_lt (Nat.lt_of_lt_of_le d3.1 (Nat.pow_le_pow_right (by decide) (by omega)))
        rw [this]
        exact ⟨(by show 0 < 10 ^ 0; decide), fun q => absurd rfl q⟩
    · obtain ⟨K, hK⟩ : ∃ K : Nat, x2.toInt = (K : Int) := ⟨x2.toInt.toNat, by omega⟩
      have cK : c = K + (m + 1) := by omega
      refine ⟨K, ?_, y_dvT (by rw [← cK]; exact d3), by omega, fun i hi => ?_, Or.inl ⟨by omega, hK⟩⟩
      · rw [if_neg (fun q => by have := q_ltI q; omega)]
        exact hK
      · rw [y_dvF hi, ← cK]
        exact d4 i (by omega)
  obtain ⟨K, k1, k2, k3, k4, k5⟩ := kk
  by_cases g : F_Dig_goesOutwards x2 x3 t0_0 t0_1 t1_0 = 0
  · rw [if_pos g]
    rw [g, e0] at go
    have o0 : yOut x3 S (m + 1) = 0 := by omega
    rw [o0, Nat.add_zero]
    have K0 : K ≠ 0 := by
      rcases hX with w | w
      · exact absurd w (by decide)
      · omega
    refine ⟨S / 10 ^ (m + 1), K, 0, ⟨k1, k3, k2, k4⟩, by rw [Nat.pow_zero, Nat.mul_one], fun q => ?_, fun q => absurd q K0, by omega⟩
    show t0_1.toInt = _
    omega
  · rw [if_neg g]
    have o0 : yOut x3 S (m + 1) = 1 := by
      rcases o1 with q | q
      · exact absurd (Int32.toInt_inj.mp (by rw [go, q]; rfl)) g
      · exact q
    rw [o0]
    have k6 : (0 < x2.toInt ∧ x2.toInt = (K : Int)) ∨ (0 = 1 ∧ x2.toInt ≤ 0 ∧ K = 0) := by
      rcases k5 with q | q
      · exact Or.inl q
      · rcases hX with w | w
        · exact Or.inr ⟨w, q⟩
        · omega
    have st := V_stO_1 (x2 := x2) (t0_1 := t0_1) k1 k2 k3 k4 k6 hp hx
    revert st
    generalize F_Dig_stepOutwards_1 x2 (if x2 < 0 then 0 else x2) t0_1 t1_0 = r
    intro st
    obtain ⟨S', c', z, s1, s2, s3, s4, s5⟩ := st
    unfold F_Dig_round_1_c31
    refine ⟨S', c', z, s1, s3, fun _ => s4, fun q => ?_, s5⟩
    exfalso
    have := s1.2.2.1.1
    rw [q] at this
    unfold yLt10 at this
    rw [Nat.pow_zero] at this
    omega
