/-! values, for whole: the reference's DecimalRows: quotient, all of it -/
theorem u_hx {Q U L Q' P : Int} (h : Q * U + L = P) (h' : Q' * U + 0 = P * 10) (h1 : 0 < L) (h2 : L < U) : Q' % 10 ≠ 0 := fun z => by
  obtain ⟨q, rfl⟩ : ∃ q, Q' = 10 * q := ⟨Q' / 10, by omega⟩
  rw [Int.mul_assoc] at h'
  by_cases c : q ≤ Q
  · have := Int.mul_le_mul_of_nonneg_right c (show 0 ≤ U by omega)
    omega
  · have := Int.mul_le_mul_of_nonneg_right (show Q + 1 ≤ q by omega) (show 0 ≤ U by omega)
    rw [Int.add_mul, Int.one_mul] at this
    omega
theorem u_ib {A v U L : Int} {i P Z : Nat} (h : v * U + L = A * 10 ^ i) (h1 : 0 < L) (h2 : L < U) (v0 : 0 ≤ v) (v1 : v < 10 ^ P) (hU : U ≤ 10 ^ Z) (hA : 0 ≤ A) : i < P + Z := by
  by_cases c : i < P + Z
  · exact c
  · exfalso
    have p0 : 0 ≤ v * U := Int.mul_nonneg v0 (by omega)
    have A1 : 1 ≤ A := by
      by_cases d : 1 ≤ A
      · exact d
      · rw [show A = 0 by omega, Int.zero_mul] at h
        omega
    have p1 : (1 : Int) * 10 ^ i ≤ A * 10 ^ i := Int.mul_le_mul_of_nonneg_right A1 (Int.le_of_lt (u_pos i))
    have p2 : (v + 1) * U ≤ 10 ^ P * U := Int.mul_le_mul_of_nonneg_right (by omega) (by omega)
    have p3 : (10 : Int) ^ P * U ≤ 10 ^ P * 10 ^ Z := Int.mul_le_mul_of_nonneg_left hU (Int.le_of_lt (u_pos P))
    have p4 : (10 : Int) ^ (P + Z) ≤ 10 ^ i := u_pwle (by omega)
    rw [← Int.pow_add] at p3
    rw [Int.add_mul, Int.one_mul] at p2
    omega
theorem V_qt203 {K_F_DR_quotient_L127 : Int32 → Int32 → Int32 → Int32 → Int64 → Int32 → Int32 → Int32 → Int32 → Int32 → Int32 → Int32 → (Nat → Int32) → (Nat → Int32) → (Int32 × Int32 × Int32 × Int64 × Int32 × Int32 × Int32 × Int32 × Int32 × Int32 × Int32 × (Nat → Int32) × (Nat → Int32) × (Nat → Int32) × (Nat → Int32) × (Nat → Int32) × (Nat → Int32) × (Nat → Int32))} {K_F_DR_quotient_L165 : Int32 → Int32 → Int32 → Int64 → Int32 → Int32 → Int32 → Int32 → Int32 → Int32 → Int32 → (Nat → Int32) → (Nat → Int32) → (Int32 × Int32 × Int32 × Int64 × Int32 × Int32 × Int32 × Int32 × Int32 × Int32 × Int32 × (Nat → Int32) × (Nat → Int32) × (Nat → Int32) × (Nat → Int32) × (Nat → Int32) × (Nat → Int32) × (Nat → Int32))} {x2 : Int32} {x3 : Int32} {x4 : Int32} {x5 : Int32} {x6 : Int32} {t0_0 : Int32} {t0_1 : Int32} {t0_2 : Int32} {t0_3 : Int64} {t0_4 : Int32} {t0_5 : Int32} {t0_6 : Int32} {t0_7 : Int32} {t0_8 : Int32} {t0_9 : Int32} {t0_10 : Int32} {t1_0 : (Nat → Int32)} {t2_0 : (Nat → Int32)} {t3_0 : (Nat → Int32)} {t4_0 : (Nat → Int32)} {t5_0 : (Nat → Int32)} {t6_0 : (Nat → Int32)} {t7_0 : (Nat → Int32)} {lx45 : Int32} {j82 : Int64} {lx85 : Int32} {p151 : (Int32 × Int32 × Int32 × Int64 × Int32 × Int32 × Int32 × Int32 × Int32 × Int32 × Int32 × (Nat → Int32))} {f117 : (Nat → Int32)} {p212 : (Int32 × Int32 × Int32 × Int64 × Int32 × Int32 × Int32 × Int32 × Int32 × Int32 × Int32 × (Nat → Int32))} {lx234 : Int32} {lx235 : Int32} {lx236 : Int32} {lx237 : Int32} {lx238 : Int64} {lx239 : Int32} {lx240 : Int32} {lx241 : Int32} {lx242 : Int32} {lx243 : Int32} {lx244 : Int32} {lx245 : Int32} {lx246 : (Nat → Int32)} {lx247 : (Nat → Int32)} {lx298 : Int32} {lx299 : Int32} {lx300 : Int32} {lx301 : Int64} {lx302 : Int32} {lx303 : Int32} {lx304 : Int32} {lx305 : Int32} {lx306 : Int32} {lx307 : Int32} {lx308 : Int32} {lx309 : (Nat → Int32)} {lx310 : (Nat → Int32)} {D : Nat → Int × Int} {a b : Int × Int} {i P Z K : Nat} {M : Int32} (hD : dRv t1_0 t2_0 t3_0 t4_0 D) (hx2 : 0 ≤ x2.toInt ∧ x2.toInt ≤ 9) (hx3 : 0 ≤ x3.toInt ∧ x3.toInt ≤ 9) (hx4 : 0 ≤ x4.toInt ∧ x4.toInt ≤ 9) (h5 : 0 ≤ x5.toInt ∧ x5.toInt ≤ 1000) (hP : (x5.toInt = 0 ∧ P = 1000 ∧ M = 7) ∨ (x5.toInt = (P : Int) ∧ 1 ≤ P ∧ M = x6)) (ea : D x2.toNatClampNeg = a) (eb : D x3.toNatClampNeg = b) (hi : i ≤ 3000) (hj : j82.toInt = a.2 - b.2) (hs : lx301.toInt = a.2 - b.2 + (i : Int)) (b0 : b.1 ≠ 0) (hU : uV f117 Z = (b.1.natAbs : Int)) (hZ : Z ≤ 1000) (hS : uS (b.1.natAbs : Int) ((a.1.natAbs : Int) * 10 ^ i) Z K f117 lx300 lx305 lx309 lx310) (hK : K ≤ 4000) (hnp : uV lx310 (Z + 1) = 0 ∨ P < lx300.toNatClampNeg) (hx : uV lx310 (Z + 1) = 0 → i = 0 ∨ uV lx309 lx300.toNatClampNeg % 10 ≠ 0) (h308 : lx308 = 2) : ∃ o, sQ P M a b o ∧ dAn x4 D o lx298 2 (F_DR_quotient_J203 K_F_DR_quotient_L127 K_F_DR_quotient_L165 x2 x3 x4 x5 x6 t0_0 t0_1 t0_2 t0_3 t0_4 t0_5 t0_6 t0_7 t0_8 t0_9 t0_10 t1_0 t2_0 t3_0 t4_0 t5_0 t6_0 t7_0 lx45 j82 lx85 p151 f117 p212 lx234 lx235 lx236 lx237 lx238 lx239 lx240 lx241 lx242 lx243 lx244 lx245 lx246 lx247 lx298 lx299 lx300 lx301 lx302 lx303 lx304 lx305 lx306 lx307 lx308 lx309 lx310).1 (F_DR_quotient_J203 K_F_DR_quotient_L127 K_F_DR_quotient_L165 x2 x3 x4 x5 x6 t0_0 t0_1 t0_2 t0_3 t0_4 t0_5 t0_6 t0_7 t0_8 t0_9 t0_10 t1_0 t2_0 t3_0 t4_0 t5_0 t6_0 t7_0 lx45 j82 lx85 p151 f117 p212 lx234 lx235 lx236 lx237 lx238 lx239 lx240 lx241 lx242 lx243 lx244 lx245 lx246 lx247 lx298 lx299 lx300 lx301 lx302 lx303 lx304 lx305 lx306 lx307 lx308 lx309 lx310).2.2.2.2.2.2.2.2.2.2.2.1 (F_DR_quotient_J203 K_F_DR_quotient_L127 K_F_DR_quotient_L165 x2 x3 x4 x5 x6 t0_0 t0_1 t0_2 t0_3 t0_4 t0_5 t0_6 t0_7 t0_8 t0_9 t0_10 t1_0 t2_0 t3_0 t4_0 t5_0 t6_0 t7_0 lx45 j82 lx85 p151 f117 p212 lx234 lx235 lx236 lx237 lx238 lx239 lx240 lx241 lx242 lx243 lx244 lx245 lx246 lx247 lx298 lx299 lx300 lx301 lx302 lx303 lx304 lx305 lx306 lx307 lx308 lx309 lx310).2.2.2.2.2.2.2.2.2.2.2.2.1 (F_DR_quotient_J203 K_F_DR_quotient_L127 K_F_DR_quotient_L165 x2 x3 x4 x5 x6 t0_0 t0_1 t0_2 t0_3 t0_4 t0_5 t0_6 t0_7 t0_8 t0_9 t0_10 t1_0 t2_0 t3_0 t4_0 t5_0 t6_0 t7_0 lx45 j82 lx85 p151 f117 p212 lx234 lx235 lx236 lx237 lx238 lx239 lx240 lx241 lx242 lx243 lx244 lx245 lx246 lx247 lx298 lx299 lx300 lx301 lx302 lx303 lx304 lx305 lx306 lx307 lx308 lx309 lx310).2.2.2.2.2.2.2.2.2.2.2.2.2.1 (F_DR_quotient_J203 K_F_DR_quotient_L127 K_F_DR_quotient_L165 x2 x3 x4 x5 x6 t0_0 t0_1 t0_2 t0_3 t0_4 t0_5 t0_6 t0_7 t0_8 t0_9 t0_10 t1_0 t2_0 t3_0 t4_0 t5_0 t6_0 t7_0 lx45 j82 lx85 p151 f117 p212 lx234 lx235 lx236 lx237 lx238 lx239 lx240 lx241 lx242 lx243 lx244 lx245 lx246 lx247 lx298 lx299 lx300 lx301 lx302 lx303 lx304 lx305 lx306 lx307 lx308 lx309 lx310).2.2.2.2.2.2.2.2.2.2.2.2.2.2.1 := by
  have e0 : (0 : Int32).toInt = 0 := rfl
  have e1I : (1 : Int32).toInt = 1 := rfl
  have e00 : (0 : Int32).toNatClampNeg = 0 := rfl
  have e10 : (1 : Int32).toNatClampNeg = 1 := rfl
  have h2c := q_clI (i := x2) rfl hx2.1
  have h3c := q_clI (i := x3) rfl hx3.1
  obtain ⟨a1, a2, a3, a4, a5, a6⟩ := hD.2 x2.toNatClampNeg (by omega)
  obtain ⟨b1, b2, b3, b4, b5, b6⟩ := hD.2 x3.toNatClampNeg (by omega)
  have aL := (vG_le a3 (show 1 ≤ 1000 by decide)).mp (by have := q_clI (i := t2_0 x2.toNatClampNeg) rfl (by omega); omega)
  rw [ea] at a4 a6 aL
  rw [eb] at b4 b6
  have a4' : t3_0 x2.toNatClampNeg = sF a.1 := a4
  have b4' : t3_0 x3.toNatClampNeg = sF b.1 := b4
  obtain ⟨hw, h2, h3, h4, h5z, h6⟩ := hS
  have zc := q_clI h2 (by omega)
  have zn : lx305.toNatClampNeg = Z := by omega
  have sc := q_clI (i := lx300) rfl h3.1
  obtain ⟨w1, w2, w3, w4⟩ := hw
  rw [zn] at w2 w3 w4
  have w4' : uV lx310 (Z + 1) < (b.1.natAbs : Int) := by
    rw [← hU]
    exact w4
  have hr := u_nn w3
  obtain ⟨i1, i2⟩ := V_DR_isLeft (t0_0 := lx298) (t0_1 := lx299) (t0_2 := lx300) (t0_3 := lx301) (t0_4 := lx302) (t0_5 := lx303) (t0_6 := lx304) (t0_7 := lx305) (t0_8 := lx306) (t0_9 := lx307) (t0_10 := lx308) (t1_0 := lx310) h2 (by omega) w3
  unfold F_DR_quotient_J203
  generalize F_DR_isLeft lx298 lx299 lx300 lx301 lx302 lx303 lx304 lx305 lx306 lx307 lx308 lx310 = st at i1 i2 ⊢
  generalize uV lx310 (Z + 1) = L at *
  have key : ∀ (g : Int32) (y : Int32 × Int32 × Int32 × Int64 × Int32 × Int32 × Int32 × Int32 × Int32 × Int32 × Int32 × (Nat → Int32) × (Nat → Int32) × (Nat → Int32) × (Nat → Int32) × (Nat → Int32) × (Nat → Int32) × (Nat → Int32)), g = sXor (sF a.1) (sF b.1) → F_DR_quotient_J232 K_F_DR_quotient_L127 K_F_DR_quotient_L165 x2 x3 x4 x5 x6 t0_0 t0_1 t0_2 t0_3 t0_4 t0_5 t0_6 t0_7 t0_8 t0_9 t0_10 t1_0 t2_0 t3_0 t4_0 t5_0 t6_0 t7_0 lx45 j82 lx85 p151 f117 p212 lx234 lx235 lx236 lx237 lx238 lx239 lx240 lx241 lx242 lx243 lx244 lx245 lx246 lx247 lx298 lx299 lx300 lx301 lx302 lx303 lx304 lx305 lx306 lx307 lx308 lx309 lx310 st g = y → ∃ o, sQ P M a b o ∧ dAn x4 D o lx298 2 y.1 y.2.2.2.2.2.2.2.2.2.2.2.1 y.2.2.2.2.2.2.2.2.2.2.2.2.1 y.2.2.2.2.2.2.2.2.2.2.2.2.2.1 y.2.2.2.2.2.2.2.2.2.2.2.2.2.2.1 := fun g y hg hy => by
    rw [← hy]
    unfold F_DR_quotient_J232
    by_cases c : lx300 = 0
    · have c2 := congrArg Int32.toInt c
      have n0 : lx300.toNatClampNeg = 0 := by omega
      rw [n0] at h6 hnp hx
      rw [if_pos c]
      have gq : gO (upd lx309 (0 : Int32).toNatClampNeg 0) (1 : Int32).toNatClampNeg := g_one
      have v1 : uV (upd lx309 (0 : Int32).toNatClampNeg 0) (1 : Int32).toNatClampNeg = 0 := by
        rw [e10, e00]
        show 0 * 10 + (upd lx309 0 0 0).toInt = 0
        rw [v_eq]
        rfl
      have vg : vG 0 (1 : Int32).toNatClampNeg := by
        rw [← v1]
        exact u_vG gq (by decide) (Or.inr rfl)
      exact V_qt254 (v := 0) (L := L) (i := i) (n := 1) hD hx4 h5 hP ⟨⟨by decide, by decide⟩, gq, v1, vg⟩ rfl (by decide) (by omega) hj (by omega) hs b0 aL h6.symm ⟨hr, w4'⟩ ⟨i1, i2⟩ (hnp.imp id (fun h => absurd h (Nat.not_lt_zero _))) hx hg h308
    · have c2 : lx300.toInt ≠ 0 := fun e => c (Int32.toInt_inj.mp e)
      rw [if_neg c]
      exact V_qt254 (v := uV lx309 lx300.toNatClampNeg) (L := L) (i := i) (n := lx300.toNatClampNeg) hD hx4 h5 hP ⟨⟨by omega, by omega⟩, h4, rfl, u_vG h4 (by omega) (Or.inl (h5z.resolve_left c2))⟩ sc.symm (by omega) (by omega) hj (by omega) hs b0 aL h6.symm ⟨hr, w4'⟩ ⟨i1, i2⟩ (hnp.imp id (fun h => h)) hx hg h308
  by_cases s : t3_0 x2.toNatClampNeg = t3_0 x3.toNatClampNeg
  · rw [if_pos s]
    refine key 0 _ ?_ rfl
    rw [← a4', ← b4']
    unfold sXor
    rw [if_pos s]
  · rw [if_neg s]
    refine key 1 _ ?_ rfl
    rw [← a4', ← b4']
    unfold sXor
    rw [if_neg s]
theorem V_qtL1 {K_F_DR_quotient_L127 : Int32 → Int32 → Int32 → Int32 → Int64 → Int32 → Int32 → Int32 → Int32 → Int32 → Int32 → Int32 → (Nat → Int32) → (Nat → Int32) → (Int32 × Int32 × Int32 × Int64 × Int32 × Int32 × Int32 × Int32 × Int32 × Int32 × Int32 × (Nat → Int32) × (Nat → Int32) × (Nat → Int32) × (Nat → Int32) × (Nat → Int32) × (Nat → Int32) × (Nat → Int32))} {x2 : Int32} {x3 : Int32} {x4 : Int32} {x5 : Int32} {x6 : Int32} {t0_0 : Int32} {t0_1 : Int32} {t0_2 : Int32} {t0_3 : Int64} {t0_4 : Int32} {t0_5 : Int32} {t0_6 : Int32} {t0_7 : Int32} {t0_8 : Int32} {t0_9 : Int32} {t0_10 : Int32} {t1_0 : (Nat → Int32)} {t2_0 : (Nat → Int32)} {t3_0 : (Nat → Int32)} {t4_0 : (Nat → Int32)} {t5_0 : (Nat → Int32)} {t6_0 : (Nat → Int32)} {t7_0 : (Nat → Int32)} {lx45 : Int32} {j82 : Int64} {lx85 : Int32} {p151 : (Int32 × Int32 × Int32 × Int64 × Int32 × Int32 × Int32 × Int32 × Int32 × Int32 × Int32 × (Nat → Int32))} {f117 : (Nat → Int32)} {p212 : (Int32 × Int32 × Int32 × Int64 × Int32 × Int32 × Int32 × Int32 × Int32 × Int32 × Int32 × (Nat → Int32))} {lx234 : Int32} {lx235 : Int32} {lx236 : Int32} {lx237 : Int32} {lx238 : Int64} {lx239 : Int32} {lx240 : Int32} {lx241 : Int32} {lx242 : Int32} {lx243 : Int32} {lx244 : Int32} {lx245 : Int32} {lx246 : (Nat → Int32)} {lx247 : (Nat → Int32)} {D : Nat → Int × Int} {a b : Int × Int} {P Z ma : Nat} {M : Int32} (hD : dRv t1_0 t2_0 t3_0 t4_0 D) (hx2 : 0 ≤ x2.toInt ∧ x2.toInt ≤ 9) (hx3 : 0 ≤ x3.toInt ∧ x3.toInt ≤ 9) (hx4 : 0 ≤ x4.toInt ∧ x4.toInt ≤ 9) (h5 : 0 ≤ x5.toInt ∧ x5.toInt ≤ 1000) (hP : (x5.toInt = 0 ∧ P = 1000 ∧ M = 7) ∨ (x5.toInt = (P : Int) ∧ 1 ≤ P ∧ M = x6)) (h85 : lx85.toInt = (P : Int)) (hP2 : P ≤ 1000) (ea : D x2.toNatClampNeg = a) (eb : D x3.toNatClampNeg = b) (hj : j82.toInt = a.2 - b.2) (hj2 : -20000 ≤ a.2 - b.2 ∧ a.2 - b.2 ≤ 20000) (b0 : b.1 ≠ 0) (hU : uV f117 Z = (b.1.natAbs : Int)) (hZ : Z ≤ 1000) (hma : ma ≤ 1000) : ∀ (n : Nat) (lx298 : Int32) (lx299 : Int32) (lx300 : Int32) (lx301 : Int64) (lx302 : Int32) (lx303 : Int32) (lx304 : Int32) (lx305 : Int32) (lx306 : Int32) (lx307 : Int32) (lx308 : Int32) (lx309 : (Nat → Int32)) (lx310 : (Nat → Int32)), ∀ i : Nat, lx301.toInt = a.2 - b.2 + (i : Int) → i ≤ 2001 → 2001 - i < n → lx298 = lx45 → lx308 = 2 → (uV lx310 (Z + 1) = 0 → i = 0 ∨ uV lx309 lx300.toNatClampNeg % 10 ≠ 0) → uS (b.1.natAbs : Int) ((a.1.natAbs : Int) * 10 ^ i) Z (ma + i) f117 lx300 lx305 lx309 lx310 → ∃ o, sQ P M a b o ∧ dAn x4 D o lx45 2 (F_DR_quotient_L165 K_F_DR_quotient_L127 x2 x3 x4 x5 x6 t0_0 t0_1 t0_2 t0_3 t0_4 t0_5 t0_6 t0_7 t0_8 t0_9 t0_10 t1_0 t2_0 t3_0 t4_0 t5_0 t6_0 t7_0 lx45 j82 lx85 p151 f117 p212 lx234 lx235 lx236 lx237 lx238 lx239 lx240 lx241 lx242 lx243 lx244 lx245 lx246 lx247 n lx298 lx299 lx300 lx301 lx302 lx303 lx304 lx305 lx306 lx307 lx308 lx309 lx310).1 (F_DR_quotient_L165 K_F_DR_quotient_L127 x2 x3 x4 x5 x6 t0_0 t0_1 t0_2 t0_3 t0_4 t0_5 t0_6 t0_7 t0_8 t0_9 t0_10 t1_0 t2_0 t3_0 t4_0 t5_0 t6_0 t7_0 lx45 j82 lx85 p151 f117 p212 lx234 lx235 lx236 lx237 lx238 lx239 lx240 lx241 lx242 lx243 lx244 lx245 lx246 lx247 n lx298 lx299 lx300 lx301 lx302 lx303 lx304 lx305 lx306 lx307 lx308 lx309 lx310).2.2.2.2.2.2.2.2.2.2.2.1 (F_DR_quotient_L165 K_F_DR_quotient_L127 x2 x3 x4 x5 x6 t0_0 t0_1 t0_2 t0_3 t0_4 t0_5 t0_6 t0_7 t0_8 t0_9 t0_10 t1_0 t2_0 t3_0 t4_0 t5_0 t6_0 t7_0 lx45 j82 lx85 p151 f117 p212 lx234 lx235 lx236 lx237 lx238 lx239 lx240 lx241 lx242 lx243 lx244 lx245 lx246 lx247 n lx298 lx299 lx300 lx301 lx302 lx303 lx304 lx305 lx306 lx307 lx308 lx309 lx310).2.2.2.2.2.2.2.2.2.2.2.2.1 (F_DR_quotient_L165 K_F_DR_quotient_L127 x2 x3 x4 x5 x6 t0_0 t0_1 t0_2 t0_3 t0_4 t0_5 t0_6 t0_7 t0_8 t0_9 t0_10 t1_0 t2_0 t3_0 t4_0 t5_0 t6_0 t7_0 lx45 j82 lx85 p151 f117 p212 lx234 lx235 lx236 lx237 lx238 lx239 lx240 lx241 lx242 lx243 lx244 lx245 lx246 lx247 n lx298 lx299 lx300 lx301 lx302 lx303 lx304 lx305 lx306 lx307 lx308 lx309 lx310).2.2.2.2.2.2.2.2.2.2.2.2.2.1 (F_DR_quotient_L165 K_F_DR_quotient_L127 x2 x3 x4 x5 x6 t0_0 t0_1 t0_2 t0_3 t0_4 t0_5 t0_6 t0_7 t0_8 t0_9 t0_10 t1_0 t2_0 t3_0 t4_0 t5_0 t6_0 t7_0 lx45 j82 lx85 p151 f117 p212 lx234 lx235 lx236 lx237 lx238 lx239 lx240 lx241 lx242 lx243 lx244 lx245 lx246 lx247 n lx298 lx299 lx300 lx301 lx302 lx303 lx304 lx305 lx306 lx307 lx308 lx309 lx310).2.2.2.2.2.2.2.2.2.2.2.2.2.2.1 := by
  intro n
  induction n with
  | zero => intro _ _ _ _ _ _ _ _ _ _ _ _ _ i _ _ h; exact absurd h (Nat.not_lt_zero _)
  | succ n ih =>
    intro lx298 lx299 lx300 lx301 lx302 lx303 lx304 lx305 lx306 lx307 lx308 lx309 lx310 i hs hi hin h0 h10 hx hS
    have hS2 := hS
    obtain ⟨hw, h2, h3, h4, h5z, h6⟩ := hS2
    have zc := q_clI h2 (by omega)
    have zn : lx305.toNatClampNeg = Z := by omega
    have sc := q_clI (i := lx300) rfl h3.1
    obtain ⟨w1, w2, w3, w4⟩ := hw
    rw [zn] at w2 w3 w4
    have w4' : uV lx310 (Z + 1) < (b.1.natAbs : Int) := by
      rw [← hU]
      exact w4
    have hr := u_nn w3
    obtain ⟨i1, i2⟩ := V_DR_isLeft (t0_0 := lx298) (t0_1 := lx299) (t0_2 := lx300) (t0_3 := lx301) (t0_4 := lx302) (t0_5 := lx303) (t0_6 := lx304) (t0_7 := lx305) (t0_8 := lx306) (t0_9 := lx307) (t0_10 := lx308) (t1_0 := lx310) h2 (by omega) w3
    rw [F_DR_quotient_L165.eq_2, ← h0]
    by_cases c : F_DR_isLeft lx298 lx299 lx300 lx301 lx302 lx303 lx304 lx305 lx306 lx307 lx308 lx310 = 0
    · rw [if_pos c]
      exact V_qt203 hD hx2 hx3 hx4 h5 hP ea eb (by omega) hj hs b0 hU hZ hS (by omega) (Or.inl (i2.mp c)) hx h10
    · rw [if_neg c]
      by_cases d : lx85 < lx300
      · have d2 := q_ltI d
        rw [if_pos d]
        exact V_qt203 hD hx2 hx3 hx4 h5 hP ea eb (by omega) hj hs b0 hU hZ hS (by omega) (Or.inr (by omega)) hx h10
      · have d2 := q_nltI d
        rw [if_neg d]
        have L0 : 0 < uV lx310 (Z + 1) := by
          have : uV lx310 (Z + 1) ≠ 0 := fun h => c (i2.mpr h)
          omega
        have hUZ : (b.1.natAbs : Int) ≤ 10 ^ Z := by
          rw [← hU]
          exact Int.le_of_lt (u_lt w2)
        have hib := u_ib (P := P) h6 L0 w4' (u_nn h4) (Int.lt_of_lt_of_le (u_lt h4) (u_pwle (by omega))) hUZ (by omega)
        have st := u_step (d := 0) (a0 := lx298) (a1 := lx299) (a3 := lx301) (a4 := lx302) (a5 := lx303) (a6 := lx304) (a8 := lx306) (a9 := lx307) (a10 := lx308) rfl rfl hS hU (by omega) ⟨by decide, by decide⟩ (by omega)
        generalize F_DR_nextFigure 0 lx298 lx299 lx300 lx301 lx302 lx303 lx304 lx305 lx306 lx307 lx308 f117 lx310 = p at st ⊢
        unfold F_DR_quotient_c184
        generalize F_DR_append p.1 lx298 lx299 lx300 lx301 lx302 lx303 lx304 lx305 lx306 lx307 lx308 lx309 = r at st ⊢
        unfold F_DR_quotient_c187
        obtain ⟨s1, s2, s3, s4, s5, s6⟩ := st
        have eA : (a.1.natAbs : Int) * 10 ^ i * 10 + (0 : Int32).toInt = (a.1.natAbs : Int) * 10 ^ (i + 1) := by
          rw [show (0 : Int32).toInt = 0 from rfl, Int.add_zero, u_pw, Int.mul_assoc]
        rw [eA] at s1
        have e3 : (r.2.2.2.1 + 1 : Int64).toInt = a.2 - b.2 + ((i + 1 : Nat) : Int) := by
          rw [s3, q_addL (y := 1) hs rfl (by omega) (by omega)]
          omega
        rw [h0]
        refine ih _ _ _ _ _ _ _ _ _ _ _ _ _ (i + 1) e3 (by omega) (by omega) (s2.trans h0) (s6.trans h10) (fun hz => Or.inr ?_) s1
        obtain ⟨_, _, _, _, _, t6⟩ := s1
        rw [hz, u_pw, ← Int.mul_assoc] at t6
        exact u_hx h6 t6 L0 w4'
theorem V_qtL2 {x2 : Int32} {x3 : Int32} {x4 : Int32} {x5 : Int32} {x6 : Int32} {t0_0 : Int32} {t0_1 : Int32} {t0_2 : Int32} {t0_3 : Int64} {t0_4 : Int32} {t0_5 : Int32} {t0_6 : Int32} {t0_7 : Int32} {t0_8 : Int32} {t0_9 : Int32} {t0_10 : Int32} {t1_0 : (Nat → Int32)} {t2_0 : (Nat → Int32)} {t3_0 : (Nat → Int32)} {t4_0 : (Nat → Int32)} {t5_0 : (Nat → Int32)} {t6_0 : (Nat → Int32)} {t7_0 : (Nat → Int32)} {lx45 : Int32} {j82 : Int64} {lx85 : Int32} {p151 : (Int32 × Int32 × Int32 × Int64 × Int32 × Int32 × Int32 × Int32 × Int32 × Int32 × Int32 × (Nat → Int32))} {f117 : (Nat → Int32)} {p212 : (Int32 × Int32 × Int32 × Int64 × Int32 × Int32 × Int32 × Int32 × Int32 × Int32 × Int32 × (Nat → Int32))} {D : Nat → Int × Int} {a b : Int × Int} {P Z ma : Nat} {M : Int32} (hD : dRv t1_0 t2_0 t3_0 t4_0 D) (hx2 : 0 ≤ x2.toInt ∧ x2.toInt ≤ 9) (hx3 : 0 ≤ x3.toInt ∧ x3.toInt ≤ 9) (hx4 : 0 ≤ x4.toInt ∧ x4.toInt ≤ 9) (h5 : 0 ≤ x5.toInt ∧ x5.toInt ≤ 1000) (hP : (x5.toInt = 0 ∧ P = 1000 ∧ M = 7) ∨ (x5.toInt = (P : Int) ∧ 1 ≤ P ∧ M = x6)) (h85 : lx85.toInt = (P : Int)) (hP2 : P ≤ 1000) (ea : D x2.toNatClampNeg = a) (eb : D x3.toNatClampNeg = b) (hj : j82.toInt = a.2 - b.2) (hj2 : -20000 ≤ a.2 - b.2 ∧ a.2 - b.2 ≤ 20000) (b0 : b.1 ≠ 0) (hU : uV f117 Z = (b.1.natAbs : Int)) (hZ : Z ≤ 1000) (hma : (t2_0 x2.toNatClampNeg).toInt = (ma : Int)) (hma2 : ma ≤ 1000) : ∀ (n : Nat) (lx234 : Int32) (lx235 : Int32) (lx236 : Int32) (lx237 : Int32) (lx238 : Int64) (lx239 : Int32) (lx240 : Int32) (lx241 : Int32) (lx242 : Int32) (lx243 : Int32) (lx244 : Int32) (lx245 : Int32) (lx246 : (Nat → Int32)) (lx247 : (Nat → Int32)), ∀ k : Nat, lx234.toInt = (k : Int) → k ≤ ma → ma - k < n → lx235 = lx45 → lx245 = 2 → lx238 = j82 → uS (b.1.natAbs : Int) (uV (fun i => t1_0 (1000 * x2.toNatClampNeg + i)) k) Z k f117 lx237 lx242 lx246 lx247 → ∃ o, sQ P M a b o ∧ dAn x4 D o lx45 2 (F_DR_quotient_L127 x2 x3 x4 x5 x6 t0_0 t0_1 t0_2 t0_3 t0_4 t0_5 t0_6 t0_7 t0_8 t0_9 t0_10 t1_0 t2_0 t3_0 t4_0 t5_0 t6_0 t7_0 lx45 j82 lx85 p151 f117 p212 n lx234 lx235 lx236 lx237 lx238 lx239 lx240 lx241 lx242 lx243 lx244 lx245 lx246 lx247).1 (F_DR_quotient_L127 x2 x3 x4 x5 x6 t0_0 t0_1 t0_2 t0_3 t0_4 t0_5 t0_6 t0_7 t0_8 t0_9 t0_10 t1_0 t2_0 t3_0 t4_0 t5_0 t6_0 t7_0 lx45 j82 lx85 p151 f117 p212 n lx234 lx235 lx236 lx237 lx238 lx239 lx240 lx241 lx242 lx243 lx244 lx245 lx246 lx247).2.2.2.2.2.2.2.2.2.2.2.1 (F_DR_quotient_L127 x2 x3 x4 x5 x6 t0_0 t0_1 t0_2 t0_3 t0_4 t0_5 t0_6 t0_7 t0_8 t0_9 t0_10 t1_0 t2_0 t3_0 t4_0 t5_0 t6_0 t7_0 lx45 j82 lx85 p151 f117 p212 n lx234 lx235 lx236 lx237 lx238 lx239 lx240 lx241 lx242 lx243 lx244 lx245 lx246 lx247).2.2.2.2.2.2.2.2.2.2.2.2.1 (F_DR_quotient_L127 x2 x3 x4 x5 x6 t0_0 t0_1 t0_2 t0_3 t0_4 t0_5 t0_6 t0_7 t0_8 t0_9 t0_10 t1_0 t2_0 t3_0 t4_0 t5_0 t6_0 t7_0 lx45 j82 lx85 p151 f117 p212 n lx234 lx235 lx236 lx237 lx238 lx239 lx240 lx241 lx242 lx243 lx244 lx245 lx246 lx247).2.2.2.2.2.2.2.2.2.2.2.2.2.1 (F_DR_quotient_L127 x2 x3 x4 x5 x6 t0_0 t0_1 t0_2 t0_3 t0_4 t0_5 t0_6 t0_7 t0_8 t0_9 t0_10 t1_0 t2_0 t3_0 t4_0 t5_0 t6_0 t7_0 lx45 j82 lx85 p151 f117 p212 n lx234 lx235 lx236 lx237 lx238 lx239 lx240 lx241 lx242 lx243 lx244 lx245 lx246 lx247).2.2.2.2.2.2.2.2.2.2.2.2.2.2.1 := by
  have h2c := q_clI (i := x2) rfl hx2.1
  obtain ⟨a1, a2, _⟩ := hD.2 x2.toNatClampNeg (by omega)
  have mc := q_clI (i := t2_0 x2.toNatClampNeg) rfl (by omega)
  have mx : (t2_0 x2.toNatClampNeg).toNatClampNeg = ma := by omega
  rw [mx, ea] at a2
  intro n
  induction n with
  | zero => intro _ _ _ _ _ _ _ _ _ _ _ _ _ _ k _ _ h; exact absurd h (Nat.not_lt_zero _)
  | succ n ih =>
    intro lx234 lx235 lx236 lx237 lx238 lx239 lx240 lx241 lx242 lx243 lx244 lx245 lx246 lx247 k hk hkm hkn h1 h11 h4 hS
    have kc := q_clI hk (by omega)
    rw [F_DR_quotient_L127.eq_2]
    by_cases c : t2_0 x2.toNatClampNeg ≤ lx234
    · have c2 := q_leI c
      have ek : k = ma := by omega
      subst ek
      rw [if_pos c]
      rw [a2] at hS
      refine V_qtL1 (ma := k) hD hx2 hx3 hx4 h5 hP h85 hP2 ea eb hj hj2 b0 hU hZ hma2 _ _ _ _ _ _ _ _ _ _ _ _ _ _ 0 (by rw [h4, hj]; omega) (by omega) (by omega) h1 h11 (fun _ => Or.inl rfl) ?_
      rw [Int.pow_zero, Int.mul_one]
      exact hS
    · have c2 := q_nleI c
      have gx := (g_ix (k := lx234) hx2 ⟨by omega, by omega⟩).2
      have ex : lx234.toNatClampNeg = k := by omega
      have e1 : (lx234 + 1 : Int32).toInt = ((k + 1 : Nat) : Int) := by
        rw [q_addI (y := 1) hk rfl (by omega) (by omega)]
        omega
      rw [if_neg c, gx, ex]
      have st := u_step (d := t1_0 (1000 * x2.toNatClampNeg + k)) (a0 := lx235) (a1 := lx236) (a3 := lx238) (a4 := lx239) (a5 := lx240) (a6 := lx241) (a8 := lx243) (a9 := lx244) (a10 := lx245) rfl rfl hS hU (by omega) (hD.1 _ (by omega)) (by omega)
      generalize F_DR_nextFigure (t1_0 (1000 * x2.toNatClampNeg + k)) lx235 lx236 lx237 lx238 lx239 lx240 lx241 lx242 lx243 lx244 lx245 f117 lx247 = p at st ⊢
      unfold F_DR_quotient_c153
      generalize F_DR_append p.1 lx235 lx236 lx237 lx238 lx239 lx240 lx241 lx242 lx243 lx244 lx245 lx246 = r at st ⊢
      unfold F_DR_quotient_c156
      obtain ⟨s1, s2, s3, s4, s5, s6⟩ := st
      exact ih _ _ _ _ _ _ _ _ _ _ _ _ _ _ (k + 1) e1 (by omega) (by omega) (s2.trans h1) (s6.trans h11) (s3.trans h4) s1
theorem V_qt106 {x2 : Int32} {x3 : Int32} {x4 : Int32} {x5 : Int32} {x6 : Int32} {t0_0 : Int32} {t0_1 : Int32} {t0_2 : Int32} {t0_3 : Int64} {t0_4 : Int32} {t0_5 : Int32} {t0_6 : Int32} {t0_7 : Int32} {t0_8 : Int32} {t0_9 : Int32} {t0_10 : Int32} {t1_0 : (Nat → Int32)} {t2_0 : (Nat → Int32)} {t3_0 : (Nat → Int32)} {t4_0 : (Nat → Int32)} {t5_0 : (Nat → Int32)} {t6_0 : (Nat → Int32)} {t7_0 : (Nat → Int32)} {lx45 : Int32} {j82 : Int64} {lx85 : Int32} {D : Nat → Int × Int} {P : Nat} {M : Int32} (hD : dRv t1_0 t2_0 t3_0 t4_0 D) (hx2 : 0 ≤ x2.toInt ∧ x2.toInt ≤ 9) (hx3 : 0 ≤ x3.toInt ∧ x3.toInt ≤ 9) (hx4 : 0 ≤ x4.toInt ∧ x4.toInt ≤ 9) (h5 : 0 ≤ x5.toInt ∧ x5.toInt ≤ 1000) (hP : (x5.toInt = 0 ∧ P = 1000 ∧ M = 7) ∨ (x5.toInt = (P : Int) ∧ 1 ≤ P ∧ M = x6)) (h85 : lx85.toInt = (P : Int)) (hP2 : P ≤ 1000) (hj : j82.toInt = (D x2.toNatClampNeg).2 - (D x3.toNatClampNeg).2) (b0 : (D x3.toNatClampNeg).1 ≠ 0) : ∃ o, sQ P M (D x2.toNatClampNeg) (D x3.toNatClampNeg) o ∧ dAn x4 D o lx45 2 (F_DR_quotient_J106 x2 x3 x4 x5 x6 t0_0 t0_1 t0_2 t0_3 t0_4 t0_5 t0_6 t0_7 t0_8 t0_9 t0_10 t1_0 t2_0 t3_0 t4_0 t5_0 t6_0 t7_0 lx45 j82 lx85).1 (F_DR_quotient_J106 x2 x3 x4 x5 x6 t0_0 t0_1 t0_2 t0_3 t0_4 t0_5 t0_6 t0_7 t0_8 t0_9 t0_10 t1_0 t2_0 t3_0 t4_0 t5_0 t6_0 t7_0 lx45 j82 lx85).2.2.2.2.2.2.2.2.2.2.2.1 (F_DR_quotient_J106 x2 x3 x4 x5 x6 t0_0 t0_1 t0_2 t0_3 t0_4 t0_5 t0_6 t0_7 t0_8 t0_9 t0_10 t1_0 t2_0 t3_0 t4_0 t5_0 t6_0 t7_0 lx45 j82 lx85).2.2.2.2.2.2.2.2.2.2.2.2.1 (F_DR_quotient_J106 x2 x3 x4 x5 x6 t0_0 t0_1 t0_2 t0_3 t0_4 t0_5 t0_6 t0_7 t0_8 t0_9 t0_10 t1_0 t2_0 t3_0 t4_0 t5_0 t6_0 t7_0 lx45 j82 lx85).2.2.2.2.2.2.2.2.2.2.2.2.2.1 (F_DR_quotient_J106 x2 x3 x4 x5 x6 t0_0 t0_1 t0_2 t0_3 t0_4 t0_5 t0_6 t0_7 t0_8 t0_9 t0_10 t1_0 t2_0 t3_0 t4_0 t5_0 t6_0 t7_0 lx45 j82 lx85).2.2.2.2.2.2.2.2.2.2.2.2.2.2.1 := by
  have h2c := q_clI (i := x2) rfl hx2.1
  have h3c := q_clI (i := x3) rfl hx3.1
  obtain ⟨a1, a2, a3, a4, a5, a6⟩ := hD.2 x2.toNatClampNeg (by omega)
  obtain ⟨b1, b2, b3, b4, b5, b6⟩ := hD.2 x3.toNatClampNeg (by omega)
  have ma := q_clI (i := t2_0 x2.toNatClampNeg) rfl (by omega)
  have mb := q_clI (i := t2_0 x3.toNatClampNeg) rfl (by omega)
  have hlu := V_DR_loadUnder (x2 := x3) (x3 := 0) (t0_0 := lx45) (t0_1 := t0_1) (t0_2 := t0_2) (t0_3 := t0_3) (t0_4 := t0_4) (t0_5 := t0_5) (t0_6 := t0_6) (t0_7 := t0_7) (t0_8 := t0_8) (t0_9 := t0_9) (t0_10 := 2) (t3_0 := t6_0) (z := 0) hD hx3 rfl (by omega)
  unfold F_DR_quotient_J106
  generalize F_DR_loadUnder x3 0 lx45 t0_1 t0_2 t0_3 t0_4 t0_5 t0_6 t0_7 t0_8 t0_9 2 t1_0 t2_0 t6_0 = p at hlu ⊢
  unfold F_DR_quotient_c111
  obtain ⟨u7, u11, uU, u0, u1, u2, u3, u4, u5, u6, u8, u9, u10⟩ := hlu
  rw [Int.pow_zero, Int.mul_one] at uU
  generalize hZ : (t2_0 x3.toNatClampNeg).toNatClampNeg + 0 = Z at u7 u11 uU
  have hq := (T_DR_beginQuotient (t0_0 := p.1) (t0_1 := p.2.1) (t0_2 := p.2.2.1) (t0_3 := p.2.2.2.1) (t0_4 := p.2.2.2.2.1) (t0_5 := p.2.2.2.2.2.1) (t0_6 := p.2.2.2.2.2.2.1) (t0_7 := p.2.2.2.2.2.2.2.1) (t0_8 := p.2.2.2.2.2.2.2.2.1) (t0_9 := p.2.2.2.2.2.2.2.2.2.1) (t0_10 := p.2.2.2.2.2.2.2.2.2.2.1) (t1_0 := t7_0) ⟨by omega, by omega⟩).2
  generalize F_DR_beginQuotient p.1 p.2.1 p.2.2.1 p.2.2.2.1 p.2.2.2.2.1 p.2.2.2.2.2.1 p.2.2.2.2.2.2.1 p.2.2.2.2.2.2.2.1 p.2.2.2.2.2.2.2.2.1 p.2.2.2.2.2.2.2.2.2.1 p.2.2.2.2.2.2.2.2.2.2.1 t7_0 = r at hq ⊢
  unfold F_DR_quotient_c115
  obtain ⟨q11, q0, q1, q2, q3, q4, q5, q7, q10⟩ := hq
  have U0 : 0 < ((D x3.toNatClampNeg).1.natAbs : Int) := by omega
  have zc := q_clI (i := r.2.2.2.2.2.2.2.1) rfl (by rw [q7]; omega)
  have zx : r.2.2.2.2.2.2.2.1.toNatClampNeg = Z := by
    rw [q7] at zc ⊢
    omega
  refine V_qtL2 (Z := Z) (ma := (t2_0 x2.toNatClampNeg).toNatClampNeg) hD hx2 hx3 hx4 h5 hP h85 hP2 rfl rfl hj (by omega) b0 uU (by omega) ma.symm (by omega) _ _ _ _ _ _ _ _ _ _ _ _ _ _ _ 0 rfl (Nat.zero_le _) (by omega) (q0.trans u0) (q10.trans u10) rfl ?_
  have gl : gO r.2.2.2.2.2.2.2.2.2.2.2 (Z + 1) := fun i hi => by
    rw [q11 i (by omega)]
    exact ⟨by decide, by decide⟩
  have vl : uV r.2.2.2.2.2.2.2.2.2.2.2 (Z + 1) = 0 := u_zer (fun i hi => q11 i (by omega))
  refine ⟨⟨⟨by rw [q7]; omega, by rw [q7]; omega⟩, by rw [zx]; exact u11, by rw [zx]; exact gl, ?_⟩, by rw [q7]; exact u7, ?_, ?_, ?_, ?_⟩
  · rw [zx, vl]
    show (0 : Int) < _
    rw [uU]
    exact U0
  · rw [q2]
    exact ⟨by decide, by decide⟩
  · rw [q2]
    intro i hi
    exact absurd hi (Nat.not_lt_zero _)
  · rw [q2]
    exact Or.inl rfl
  · rw [vl, q2]
    show (0 : Int) * _ + 0 = 0
    rw [Int.zero_mul]
    rfl
/-- the precision 0 is exact -/
def qP (x : Int32) : Nat := if x.toInt = 0 then 1000 else x.toNatClampNeg
def qM (x m : Int32) : Int32 := if x.toInt = 0 then 7 else m
theorem V_DR_quotient {x2 : Int32} {x3 : Int32} {x4 : Int32} {x5 : Int32} {x6 : Int32} {t0_0 : Int32} {t0_1 : Int32} {t0_2 : Int32} {t0_3 : Int64} {t0_4 : Int32} {t0_5 : Int32} {t0_6 : Int32} {t0_7 : Int32} {t0_8 : Int32} {t0_9 : Int32} {t0_10 : Int32} {t1_0 : (Nat → Int32)} {t2_0 : (Nat → Int32)} {t3_0 : (Nat → Int32)} {t4_0 : (Nat → Int32)} {t5_0 : (Nat → Int32)} {t6_0 : (Nat → Int32)} {t7_0 : (Nat → Int32)} {D : Nat → Int × Int} (hD : dRv t1_0 t2_0 t3_0 t4_0 D) (hx2 : 0 ≤ x2.toInt ∧ x2.toInt ≤ 9) (hx3 : 0 ≤ x3.toInt ∧ x3.toInt ≤ 9) (hx4 : 0 ≤ x4.toInt ∧ x4.toInt ≤ 9) (h5 : 0 ≤ x5.toInt ∧ x5.toInt ≤ 1000) (h6 : F_DR_noMode x6 = 0) : ∃ o, sQ (qP x5) (qM x5 x6) (D x2.toNatClampNeg) (D x3.toNatClampNeg) o ∧ dAn x4 D o 0 2 (F_DR_quotient x2 x3 x4 x5 x6 t0_0 t0_1 t0_2 t0_3 t0_4 t0_5 t0_6 t0_7 t0_8 t0_9 t0_10 t1_0 t2_0 t3_0 t4_0 t5_0 t6_0 t7_0).1 (F_DR_quotient x2 x3 x4 x5 x6 t0_0 t0_1 t0_2 t0_3 t0_4 t0_5 t0_6 t0_7 t0_8 t0_9 t0_10 t1_0 t2_0 t3_0 t4_0 t5_0 t6_0 t7_0).2.2.2.2.2.2.2.2.2.2.2.1 (F_DR_quotient x2 x3 x4 x5 x6 t0_0 t0_1 t0_2 t0_3 t0_4 t0_5 t0_6 t0_7 t0_8 t0_9 t0_10 t1_0 t2_0 t3_0 t4_0 t5_0 t6_0 t7_0).2.2.2.2.2.2.2.2.2.2.2.2.1 (F_DR_quotient x2 x3 x4 x5 x6 t0_0 t0_1 t0_2 t0_3 t0_4 t0_5 t0_6 t0_7 t0_8 t0_9 t0_10 t1_0 t2_0 t3_0 t4_0 t5_0 t6_0 t7_0).2.2.2.2.2.2.2.2.2.2.2.2.2.1 (F_DR_quotient x2 x3 x4 x5 x6 t0_0 t0_1 t0_2 t0_3 t0_4 t0_5 t0_6 t0_7 t0_8 t0_9 t0_10 t1_0 t2_0 t3_0 t4_0 t5_0 t6_0 t7_0).2.2.2.2.2.2.2.2.2.2.2.2.2.2.1 := by
  have e0 : (0 : Int32).toInt = 0 := rfl
  have eK : (1000 : Int32).toInt = 1000 := rfl
  have h2c := q_clI (i := x2) rfl hx2.1
  have h3c := q_clI (i := x3) rfl hx3.1
  have h5c := q_clI (i := x5) rfl h5.1
  obtain ⟨a1, a2, a3, a4, a5, a6⟩ := hD.2 x2.toNatClampNeg (by omega)
  obtain ⟨b1, b2, b3, b4, b5, b6⟩ := hD.2 x3.toNatClampNeg (by omega)
  unfold F_DR_quotient
  rw [if_pos (g_no0 hx2), if_pos (g_no0 hx3), if_pos (g_no0 hx4), if_pos h6, if_neg (fun c => by have := q_ltI c; omega), if_pos (Int32.le_iff_toInt_le.mpr (by omega)), d_iz hD hx3]
  by_cases zb : (D x3.toNatClampNeg).1 = 0
  · rw [if_pos zb, if_neg (show ¬ (1 : Int32) = 0 by decide)]
    unfold F_DR_quotient_J60
    rw [if_neg (by decide)]
    exact ⟨none, Or.inl ⟨zb, rfl⟩, Or.inr ⟨Or.inl rfl, rfl, hD⟩⟩
  · rw [if_neg zb, if_pos rfl]
    have e1 : ((t4_0 x2.toNatClampNeg).toInt64 - (t4_0 x3.toNatClampNeg).toInt64 : Int64).toInt = (D x2.toNatClampNeg).2 - (D x3.toNatClampNeg).2 := q_subL ((Int32.toInt_toInt64 _).trans a5) ((Int32.toInt_toInt64 _).trans b5) (by omega) (by omega)
    unfold F_DR_quotient_J60
    rw [if_pos (by decide)]
    by_cases c : x5 = 0
    · have c2 := congrArg Int32.toInt c
      rw [if_pos c, show qP x5 = 1000 from if_pos c2, show qM x5 x6 = 7 from if_pos c2]
      exact V_qt106 hD hx2 hx3 hx4 h5 (Or.inl ⟨c2, rfl, rfl⟩) rfl (by decide) e1 zb
    · have c2 : x5.toInt ≠ 0 := fun e => c (Int32.toInt_inj.mp e)
      rw [if_neg c, show qP x5 = x5.toNatClampNeg from if_neg c2, show qM x5 x6 = x6 from if_neg c2]
      exact V_qt106 hD hx2 hx3 hx4 h5 (Or.inr ⟨h5c.symm, by omega, rfl⟩) h5c.symm (by omega) e1 zb
