/-! values, for whole: the reference's value set, figure by figure -/
theorem y_Z4 {p : Int} {Z : Nat} (h : yZ p Z) : yZ (p + 2) (4 * Z) := by
  unfold yZ at h ⊢
  by_cases g : 0 ≤ p
  · rw [show 2 + (-p).toNat = 2 from by omega] at h
    rw [show 2 + (-(p + 2)).toNat = 2 from by omega, show (p + 2).toNat = p.toNat + 2 from by omega, Nat.pow_add]
    generalize 10 ^ 1080 = X at h ⊢
    generalize 2 ^ p.toNat = Y at h ⊢
    grind
  · by_cases g1 : p = -1
    · rw [show 2 + (-p).toNat = 3 from by omega, show p.toNat = 0 from by omega] at h
      rw [show 2 + (-(p + 2)).toNat = 2 from by omega, show (p + 2).toNat = 1 from by omega]
      generalize 10 ^ 1080 = X at h ⊢
      omega
    · obtain ⟨k, hk⟩ : ∃ k : Nat, p = -((k : Int) + 2) := ⟨(-p - 2).toNat, by omega⟩
      rw [show 2 + (-p).toNat = 2 + k + 2 from by omega, show p.toNat = 0 from by omega] at h
      rw [show 2 + (-(p + 2)).toNat = 2 + k from by omega, show (p + 2).toNat = 0 from by omega, ← h, Nat.pow_add 2 (2 + k) 2]
      generalize 2 ^ (2 + k) = Y
      grind
/-- what the exact decimal of n times 2 ^ p has to do with the figures that the reference sets -/
theorem y_ZE {n u s Z : Nat} {p : Int} (h : yEq n p u s) (hs : s ≤ 1080) (hZ : yZ p Z) : 4 * n * Z = u * 10 ^ (1080 - s) := by
  obtain ⟨e, _⟩ := h
  unfold yZ at hZ
  have p2 : 0 < 2 ^ (-p).toNat := Nat.pow_pos (by decide)
  refine Nat.eq_of_mul_eq_mul_right p2 ?_
  have t : (10 : Nat) ^ 1080 = 10 ^ s * 10 ^ (1080 - s) := by
    rw [← Nat.pow_add]
    congr 1
    omega
  rw [Nat.pow_add, t] at hZ
  generalize 10 ^ (1080 - s) = a at *
  generalize 10 ^ s = b at *
  generalize 2 ^ (-p).toNat = c at *
  generalize 2 ^ p.toNat = d at *
  clear t
  calc 4 * n * Z * c = n * (Z * (2 ^ 2 * c)) := by grind
    _ = n * (d * (b * a)) := by rw [hZ]
    _ = n * d * b * a := by grind
    _ = u * c * a := by rw [e]
    _ = u * a * c := by grind
theorem V_setV {t0_0 : Int32} {t0_1 : Int32} {t0_2 : Int32} {t0_3 : Int32} {t0_4 : Int64} {t0_5 : Int32} {t0_6 : Int32} {t0_7 : Int64} {t0_8 : Int32} {t0_9 : Int64} {t0_10 : Int32} {t1_0 : (Nat → Int32)} {t2_0 : (Nat → Int32)} {t3_0 : (Nat → Int32)} {n Z : Nat} {p : Int} (h7 : t0_7.toInt = (n : Int)) (hn : n < 9007199254740992) (h8 : t0_8.toInt = p) (hp : -1074 ≤ p ∧ p ≤ 971) (hZ : yZ p Z) (hZ0 : 0 < Z) : yRw (F_FR_setValue t0_0 t0_1 t0_2 t0_3 t0_4 t0_5 t0_6 t0_7 t0_8 t0_9 t0_10 t1_0 t2_0 t3_0).2.2 (4 * n * Z) := by
  have un := y_unit (T_FR_setUnit (x2 := t0_8) (t0_0 := t0_0) (t0_1 := t0_1) (t0_2 := t0_2) (t0_3 := t0_3) (t0_4 := t0_4) (t0_5 := t0_5) (t0_6 := t0_6) (t0_7 := t0_7) (t0_8 := t0_8) (t0_9 := t0_9) (t0_10 := t0_10) (t1_0 := t1_0) (by omega)) (p := p + 2) (by omega) (by omega) (y_Z4 hZ)
  have b := y_Zb hZ hp.2 (n := 4 * n) (by omega)
  have e4 : n * (4 * Z) = 4 * n * Z := by grind
  have B : (n : Int) * ((4 * Z : Nat) : Int) < 1000000000 ^ 156 := by
    have b2 : ((n * (4 * Z) : Nat) : Int) < ((10 ^ 1404 : Nat) : Int) := Int.ofNat_lt.mpr (by rw [e4]; exact Nat.lt_of_lt_of_le b (Nat.pow_le_pow_right (by decide) (by decide)))
    rw [Int.natCast_mul] at b2
    refine Int.lt_of_lt_of_le b2 ?_
    have : ((10 ^ 1404 : Nat) : Int) = (1000000000 : Int) ^ 156 := by
      rw [Int.natCast_pow, show (1000000000 : Int) = ((10 : Nat) : Int) ^ 9 from rfl, ← Int.pow_mul]
    rw [this]
    exact Int.le_refl _
  have r := (T_FR_set (N2 := 1404) (x3 := t0_7) (t0_0 := t0_0) (t0_1 := t0_1) (t0_2 := t0_2) (t0_3 := t0_3) (t0_4 := t0_4) (t0_5 := t0_5) (t0_6 := t0_6) (t0_7 := t0_7) (t0_8 := t0_8) (t0_9 := t0_9) (t0_10 := t0_10) (t1_0 := F_FR_setUnit t0_8 t0_0 t0_1 t0_2 t0_3 t0_4 t0_5 t0_6 t0_7 t0_8 t0_9 t0_10 t1_0) (t2_0 := t2_0) (t3_0 := t3_0) rfl un.1 (by rw [un.2]; omega) (by omega) (by rw [un.2, h7]; exact B)).2
  have r2 := y_setR (X := n * (4 * Z)) r (by rw [un.2, h7, Int.natCast_mul n (4 * Z)])
  rw [e4] at r2
  unfold F_FR_setValue F_FR_setValue_c17
  exact r2
theorem V_figA {x2 : Int32} {t0_0 : Int32} {t0_1 : Int32} {t0_2 : Int32} {t0_3 : Int32} {t0_4 : Int64} {t0_5 : Int32} {t0_6 : Int32} {t0_7 : Int64} {t0_8 : Int32} {t0_9 : Int64} {t0_10 : Int32} {t1_0 : (Nat → Int32)} {V : Nat} {e : Int} (hv : yRw t1_0 V) (hx : x2.toInt = e) (hb : -100000 ≤ e ∧ e ≤ 100000) : (F_FR_figureAt x2 t0_0 t0_1 t0_2 t0_3 t0_4 t0_5 t0_6 t0_7 t0_8 t0_9 t0_10 t1_0).toInt = ((yFz V (e + 1080) : Nat) : Int) := by
  have eB : (1080 : Int32).toInt = 1080 := rfl
  have e0 : (0 : Int32).toInt = 0 := rfl
  have eC : (1404 : Int32).toInt = 1404 := rfl
  have a := q_addI hx eB (by omega) (by omega)
  unfold F_FR_figureAt yFz
  by_cases g : x2 + 1080 < 0
  · rw [if_pos g]
    have g := q_ltI g
    rw [if_pos (by omega : e + 1080 < 0)]
    rfl
  · rw [if_neg g]
    have g := q_nltI g
    rw [if_neg (by omega : ¬ e + 1080 < 0)]
    by_cases k : x2 + 1080 < 1404
    · rw [if_pos k]
      have k := q_ltI k
      have ix : (x2 + 1080).toNatClampNeg = (e + 1080).toNat := by
        show (x2 + 1080).toInt.toNat = _
        rw [a]
      rw [ix]
      exact hv.d (by omega)
    · rw [if_neg k]
      have k := q_nltI k
      have z : yLo V (e + 1080).toNat = 0 := y_lo0 (Nat.lt_of_lt_of_le hv.lt (Nat.pow_le_pow_right (by decide) (by omega)))
      rw [z]
      rfl
