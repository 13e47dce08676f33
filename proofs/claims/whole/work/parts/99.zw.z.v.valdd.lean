/-! values, for whole: the shortest figures stand on the same side of 10 ^ 7 and 10 ^ -3 as the float itself -/
theorem y_nrm {k : Int32} {P T : Nat} {l : Int} (hk : yG k P T l) {u : Nat} (h : l < yPx l (yEx P T u)) : 2 ^ P ≤ yNx P T u := by
  unfold yPx at h
  unfold yNx
  rw [if_neg (by omega)]
  exact Nat.le_add_left _ _
theorem yNx_P {k : Int32} {P T : Nat} {l : Int} (hk : yG k P T l) {u : Nat} : yNx P T u < 2 * 2 ^ P := by
  have f := yFx_lt (P := P) (u := u)
  unfold yNx
  split <;> omega
/-- no float below 10 ^ 7 reaches it by half a step -/
theorem y_b7 {k : Int32} {P T : Nat} {l : Int} (hk : yG k P T l) {u Z : Nat} (hZ : yZ (yPx l (yEx P T u)) Z) (h1 : 4 * yNx P T u * Z < 10 ^ 1087) (h2 : 10 ^ 1087 ≤ 4 * yNx P T u * Z + 2 * Z) : False := by
  have nm := y_nrm hk (u := u)
  have e87 : (10 : Nat) ^ 1087 = 10000000 * 10 ^ 1080 := by rw [← Nat.pow_add 10 7 1080]
  rw [e87] at h1 h2
  unfold yZ at hZ
  have Xp : 0 < 10 ^ 1080 := Nat.pow_pos (by decide)
  generalize yNx P T u = n at nm h1 h2
  generalize yPx l (yEx P T u) = p at nm hZ
  generalize 10 ^ 1080 = X at hZ h1 h2 Xp
  rw [Nat.pow_add 2 2] at hZ
  by_cases c : p ≤ 0
  · rw [show p.toNat = 0 from by omega, Nat.pow_zero, Nat.one_mul] at hZ
    have wp : 0 < 2 ^ (-p).toNat := Nat.pow_pos (by decide)
    generalize 2 ^ (-p).toNat = w at hZ wp
    have hz : 4 * Z * w = X := by
      rw [← hZ]
      grind
    have a1 := Nat.mul_lt_mul_of_pos_right h1 wp
    have a2 := Nat.mul_le_mul_right w h2
    have b1 : 4 * n * Z * w = n * X := by rw [← hz]; grind
    have b2 : 2 * ((4 * n * Z + 2 * Z) * w) = (2 * n + 1) * X := by rw [← hz]; grind
    have b3 : 10000000 * X * w = (10000000 * w) * X := by grind
    rw [b1, b3] at a1
    have c1 := Nat.lt_of_mul_lt_mul_right a1
    have a3 : 2 * (10000000 * X * w) ≤ 2 * ((4 * n * Z + 2 * Z) * w) := Nat.mul_le_mul_left _ a2
    rw [b2, b3, ← Nat.mul_assoc] at a3
    have c2 := Nat.le_of_mul_le_mul_right a3 Xp
    omega
  · have np : 2 ^ P ≤ n := nm (by rcases hk with ⟨_, _, _, rfl⟩ | ⟨_, _, _, rfl⟩ <;> omega)
    have n23 : 8388608 ≤ n := by
      rcases hk with ⟨_, rfl, _⟩ | ⟨_, rfl, _⟩
      · exact Nat.le_trans (by decide) np
      · exact np
    rw [show (-p).toNat = 0 from by omega, Nat.pow_zero, Nat.mul_one] at hZ
    have p2 : 2 ≤ 2 ^ p.toNat := by
      have : 2 ^ 1 ≤ 2 ^ p.toNat := Nat.pow_le_pow_right (by decide) (by omega)
      exact this
    have hz : 4 * Z = 2 ^ p.toNat * X := by
      rw [← hZ]
      grind
    have b1 : 4 * n * Z = n * (4 * Z) := by grind
    rw [b1, hz] at h1
    have : n * (2 * X) ≤ n * (2 ^ p.toNat * X) := Nat.mul_le_mul_left _ (Nat.mul_le_mul_right _ p2)
    have q : 8388608 * (2 * X) ≤ n * (2 * X) := Nat.mul_le_mul_right _ n23
    omega
/-- no float below 10 ^ -3 reaches it by half a step -/
theorem y_bm3 {k : Int32} {P T : Nat} {l : Int} (hk : yG k P T l) {u Z : Nat} (hZ : yZ (yPx l (yEx P T u)) Z) (h0 : 0 < yNx P T u) (h1 : 4 * yNx P T u * Z < 10 ^ 1077) (h2 : 10 ^ 1077 ≤ 4 * yNx P T u * Z + 2 * Z) : False := by
  have nm := y_nrm hk (u := u)
  have nP := yNx_P hk (u := u)
  have e80 : (10 : Nat) ^ 1080 = 1000 * 10 ^ 1077 := by rw [← Nat.pow_add 10 3 1077]
  unfold yZ at hZ
  rw [e80] at hZ
  have Xp : 0 < 10 ^ 1077 := Nat.pow_pos (by decide)
  generalize yNx P T u = n at nm h1 h2 nP h0
  generalize yPx l (yEx P T u) = p at nm hZ
  generalize 10 ^ 1077 = X at hZ h1 h2 Xp
  rw [Nat.pow_add 2 2] at hZ
  by_cases c : p ≤ 0
  · rw [show p.toNat = 0 from by omega, Nat.pow_zero, Nat.one_mul] at hZ
    obtain ⟨m, hm⟩ : ∃ m : Nat, p = -(m : Int) := ⟨(-p).toNat, by omega⟩
    rw [show (-p).toNat = m from by omega] at hZ
    have wp : 0 < 2 ^ m := Nat.pow_pos (by decide)
    have key : 1000 * n < 2 ^ m ∧ 2 * 2 ^ m ≤ 1000 * (2 * n + 1) := by
      generalize 2 ^ m = w at hZ wp
      have hz : 4 * Z * w = 1000 * X := by
        rw [← hZ]
        grind
      have a1 := Nat.mul_lt_mul_of_pos_right h1 wp
      have a2 := Nat.mul_le_mul_right w h2
      have b1 : 4 * n * Z * w = (1000 * n) * X := by
        have : 4 * n * Z * w = n * (4 * Z * w) := by grind
        rw [this, hz]
        grind
      have b2 : 2 * ((4 * n * Z + 2 * Z) * w) = (1000 * (2 * n + 1)) * X := by
        have : 2 * ((4 * n * Z + 2 * Z) * w) = (2 * n + 1) * (4 * Z * w) := by grind
        rw [this, hz]
        grind
      have b3 : X * w = w * X := Nat.mul_comm _ _
      rw [b1, b3] at a1
      have c1 := Nat.lt_of_mul_lt_mul_right a1
      have a3 : 2 * (X * w) ≤ 2 * ((4 * n * Z + 2 * Z) * w) := Nat.mul_le_mul_left _ a2
      rw [b2, b3, ← Nat.mul_assoc] at a3
      exact ⟨c1, Nat.le_of_mul_le_mul_right a3 Xp⟩
    obtain ⟨k1, k2⟩ := key
    rcases hk with ⟨_, rfl, rfl, rfl⟩ | ⟨_, rfl, rfl, rfl⟩
    · rcases Nat.lt_trichotomy m 62 with q | q | q
      · have np : 2 ^ 52 ≤ n := nm (by omega)
        have : 2 ^ m ≤ 2 ^ 61 := Nat.pow_le_pow_right (by decide) (by omega)
        have e1 : (2 : Nat) ^ 61 = 2305843009213693952 := rfl
        have e2 : (2 : Nat) ^ 52 = 4503599627370496 := rfl
        rw [e1] at this
        rw [e2] at np
        generalize 2 ^ m = w at k1 this
        omega
      · rw [q] at k1 k2
        have e1 : (2 : Nat) ^ 62 = 4611686018427387904 := rfl
        rw [e1] at k1 k2
        omega
      · have : 2 ^ 63 ≤ 2 ^ m := Nat.pow_le_pow_right (by decide) q
        have e1 : (2 : Nat) ^ 63 = 9223372036854775808 := rfl
        have e2 : (2 : Nat) ^ 52 = 4503599627370496 := rfl
        rw [e1] at this
        rw [e2] at nP
        generalize 2 ^ m = w at k2 this
        omega
    · rcases Nat.lt_trichotomy m 33 with q | q | q
      · have np : 2 ^ 23 ≤ n := nm (by omega)
        have : 2 ^ m ≤ 2 ^ 32 := Nat.pow_le_pow_right (by decide) (by omega)
        have e1 : (2 : Nat) ^ 32 = 4294967296 := rfl
        have e2 : (2 : Nat) ^ 23 = 8388608 := rfl
        rw [e1] at this
        rw [e2] at np
        generalize 2 ^ m = w at k1 this
        omega
      · rw [q] at k1 k2
        have e1 : (2 : Nat) ^ 33 = 8589934592 := rfl
        rw [e1] at k1 k2
        omega
      · have : 2 ^ 34 ≤ 2 ^ m := Nat.pow_le_pow_right (by decide) q
        have e1 : (2 : Nat) ^ 34 = 17179869184 := rfl
        have e2 : (2 : Nat) ^ 23 = 8388608 := rfl
        rw [e1] at this
        rw [e2] at nP
        generalize 2 ^ m = w at k2 this
        omega
  · rw [show (-p).toNat = 0 from by omega, Nat.pow_zero, Nat.mul_one] at hZ
    have p1 : 1 ≤ 2 ^ p.toNat := Nat.one_le_pow _ _ (by decide)
    have hz : 4 * Z = 2 ^ p.toNat * (1000 * X) := by
      rw [← hZ]
      grind
    have b1 : 4 * n * Z = n * (4 * Z) := by grind
    rw [b1, hz] at h1
    have a1 : 1 * (1 * (1000 * X)) ≤ n * (2 ^ p.toNat * (1000 * X)) := Nat.mul_le_mul h0 (Nat.mul_le_mul_right _ p1)
    omega
/-- where the float and its shortest figures begin -/
theorem y_tps {k : Int32} {P T : Nat} {l : Int} (hk : yG k P T l) {u S q c j : Nat} (h0 : 0 < yNx P T u) (hs : yFsh P T l u S q) (hc : yDt S c) (hc0 : 1 ≤ c) {Z : Nat} (hZ : yZ (yPx l (yEx P T u)) Z) (j1 : 10 ^ j ≤ 4 * yNx P T u * Z) (j2 : 4 * yNx P T u * Z < 10 ^ (j + 1)) : (j < 1087 ↔ c - 1 + q < 1087) ∧ (j < 1077 ↔ c - 1 + q < 1077) := by
  obtain ⟨Y, L, y1, y2, kk, S0, z, y3, y4, y5, y6, y7⟩ := hs
  have := yZ_U hZ y1
  subst this
  obtain ⟨i, i1, i2, i3, i4, i5⟩ := y3
  have ij := y_topU i1 i2 j1 j2
  subst ij
  have b7 := y_b7 hk hZ
  have b3 := y_bm3 hk hZ h0
  generalize 4 * yNx P T u * Z = V at *
  have kp : 0 < 10 ^ kk := Nat.pow_pos (by decide)
  have eX : S * 10 ^ q = S0 * 10 ^ kk := by
    rw [y7, y5, Nat.pow_add, Nat.mul_assoc, Nat.mul_comm (10 ^ kk)]
  have x1 : 10 ^ (c - 1 + q) ≤ S * 10 ^ q := by
    rw [Nat.pow_add]
    exact Nat.mul_le_mul_right _ ((y_ge10 hc).mpr (by omega))
  have x2 : S * 10 ^ q < 10 ^ (c - 1 + q + 1) := by
    rw [show c - 1 + q + 1 = c + q from by omega, Nat.pow_add]
    exact Nat.mul_lt_mul_of_pos_right hc.1 (Nat.pow_pos (by decide))
  rw [eX] at x1 x2
  have lo : 10 ^ i ≤ V / 10 ^ kk * 10 ^ kk := by
    obtain ⟨d, rfl⟩ : ∃ d, i = d + kk := ⟨i - kk, by omega⟩
    rw [Nat.pow_add]
    refine Nat.mul_le_mul_right _ ?_
    rw [Nat.pow_add] at i1
    exact (Nat.le_div_iff_mul_le kp).mpr i1
  have hi : V / 10 ^ kk * 10 ^ kk ≤ V := Nat.div_mul_le_self _ _
  rcases y4 with ⟨mo, hS⟩ | ⟨_, hS⟩
  · have top : (V / 10 ^ kk + 1) * 10 ^ kk ≤ 10 ^ (i + 1) := by
      obtain ⟨d, hd⟩ : ∃ d, i + 1 = d + kk := ⟨i + 1 - kk, by omega⟩
      rw [hd, Nat.pow_add]
      refine Nat.mul_le_mul_right _ ?_
      have : V / 10 ^ kk < 10 ^ d := (Nat.div_lt_iff_lt_mul kp).mpr (by rw [← Nat.pow_add, ← hd]; exact i2)
      exact this
    have lo2 : 10 ^ i ≤ (V / 10 ^ kk + 1) * 10 ^ kk := Nat.le_trans lo (Nat.mul_le_mul_right _ (Nat.le_succ _))
    have up : (V / 10 ^ kk + 1) * 10 ^ kk ≤ V + 2 * Z := by
      rcases mo.1 with w | w
      · exact Nat.le_of_lt w
      · exact Nat.le_of_eq w.2
    rw [← hS] at top lo2 up
    rcases Nat.lt_or_ge (S0 * 10 ^ kk) (10 ^ (i + 1)) with w | w
    · have := y_topU lo2 w x1 x2
      omega
    · have e : S0 * 10 ^ kk = 10 ^ (i + 1) := Nat.le_antisymm top w
      rw [e] at x1 x2 up
      have t := y_topU (Nat.le_refl (10 ^ (i + 1))) (Nat.pow_lt_pow_right (by decide) (Nat.lt_succ_self _)) x1 x2
      have n7 : i + 1 ≠ 1087 := fun q => by
        rw [q] at i2 up
        exact b7 i2 up
      have n3 : i + 1 ≠ 1077 := fun q => by
        rw [q] at i2 up
        exact b3 i2 up
      omega
  · rw [hS] at x1 x2
    have := y_topU lo (Nat.lt_of_le_of_lt hi i2) x1 x2
    omega
