/-! values, for whole: the reference's TextRows: a decimal's bits found -/
theorem yV_sp {w : Nat → Int32} {k : Nat} : ∀ m : Nat, trV w (k + m) = trV w k * 100000000 ^ m + trV (fun i => w (i + k)) m
  | 0 => by
    show trV w k = trV w k * 1 + 0
    omega
  | m + 1 => by
    show trV w (k + m) * 100000000 + (w (k + m)).toInt = trV w k * 100000000 ^ (m + 1) + (trV (fun i => w (i + k)) m * 100000000 + (w (m + k)).toInt)
    rw [yV_sp m, Int.pow_succ, Nat.add_comm k m]
    grind
theorem yV_b {w : Nat → Int32} : ∀ m : Nat, (∀ i, i < m → 0 ≤ (w i).toInt ∧ (w i).toInt < 100000000) → 0 ≤ trV w m ∧ trV w m < 100000000 ^ m
  | 0, _ => ⟨Int.le_refl 0, by show (0 : Int) < 1; decide⟩
  | m + 1, h => by
    obtain ⟨a, b⟩ := yV_b m (fun i hi => h i (by omega))
    have c := h m (by omega)
    show 0 ≤ trV w m * 100000000 + (w m).toInt ∧ trV w m * 100000000 + (w m).toInt < 100000000 ^ (m + 1)
    rw [Int.pow_succ]
    omega
theorem yV_p {w : Nat → Int32} {i : Nat} : ∀ m : Nat, (∀ i, i < m → 0 ≤ (w i).toInt ∧ (w i).toInt < 100000000) → i < m → w i ≠ 0 → 0 < trV w m
  | 0, _, h, _ => absurd h (Nat.not_lt_zero _)
  | m + 1, h, hi, hw => by
    have a := (yV_b m (fun i hi => h i (by omega))).1
    have c := h m (by omega)
    show 0 < trV w m * 100000000 + (w m).toInt
    by_cases d : i = m
    · have : (w m).toInt ≠ 0 := fun h => hw (by rw [d]; exact Int32.toInt_inj.mp (by rw [h]; rfl))
      omega
    · have := yV_p m (fun i hi => h i (by omega)) (show i < m by omega) hw
      omega
/-- V / 10 ^ 5960 is N / D in units of 2 ^ s -/
def yX (N D : Nat) (s : Int) (V : Nat) : Prop := V * (D * 2 ^ s.toNat) = N * 2 ^ (-s).toNat * 10 ^ 5960
theorem yX_t {N D V : Nat} {s : Int} (hD : 0 < D) (h : yX N D s V) : yfT (s - 1) N D = 2 * V / 10 ^ 5960 ∧ (yfR (s - 1) N D = 0 ↔ 2 * V % 10 ^ 5960 = 0) := by
  unfold yX at h
  unfold yfT yfR
  have hz : (-(s - 1)).toNat + s.toNat = (-s).toNat + (s - 1).toNat + 1 := by omega
  generalize (-(s - 1)).toNat = a1 at *
  generalize (s - 1).toNat = b1 at *
  generalize (-s).toNat = a at *
  generalize s.toNat = b at *
  have pB : 0 < 10 ^ 5960 := Nat.pow_pos (by decide)
  generalize 10 ^ 5960 = B at *
  refine yn_sc (x := B * 2 ^ b) (y := D * 2 ^ (b + b1)) (Nat.mul_pos pB (Nat.pow_pos (by decide))) (Nat.mul_pos hD (Nat.pow_pos (by decide))) ?_ ?_
  · have e1 : N * 2 ^ a1 * (B * 2 ^ b) = N * B * 2 ^ (a1 + b) := by
      rw [Nat.pow_add]
      ac_rfl
    have e2 : 2 * V * (D * 2 ^ (b + b1)) = V * (D * 2 ^ b) * 2 ^ (b1 + 1) := by
      rw [Nat.pow_add, Nat.pow_succ]
      ac_rfl
    rw [e1, e2, hz, h, Nat.add_assoc, Nat.pow_add]
    ac_rfl
  · rw [Nat.pow_add]
    ac_rfl
theorem yX_h {N D V W : Nat} {s : Int} (hs : 0 ≤ s) (h : yX N D s V) (hW : 2 * W = V) : yX N D (s + 1) W := by
  unfold yX at *
  rw [show (s + 1).toNat = s.toNat + 1 by omega, show (-(s + 1)).toNat = 0 by omega]
  rw [show (-s).toNat = 0 by omega] at h
  generalize 10 ^ 5960 = B at *
  rw [← h, ← hW, Nat.pow_succ]
  ac_rfl
theorem yX_d {N D V W : Nat} {s : Int} (h : yX N D s V) (hW : W = 2 * V) : yX N D (s - 1) W := by
  unfold yX at *
  generalize 10 ^ 5960 = B at *
  rcases Int.lt_or_le 0 s with c | c
  · rw [show (-(s - 1)).toNat = 0 by omega]
    rw [show s.toNat = (s - 1).toNat + 1 by omega, show (-s).toNat = 0 by omega, Nat.pow_succ] at h
    rw [← h, hW]
    ac_rfl
  · rw [show (s - 1).toNat = 0 by omega, show (-(s - 1)).toNat = (-s).toNat + 1 by omega]
    rw [show s.toNat = 0 by omega] at h
    rw [hW, Nat.pow_succ, show 2 * V * (D * 2 ^ 0) = 2 * (V * (D * 2 ^ 0)) by ac_rfl, h]
    ac_rfl
/-- what is behind the unit: none, less than a half, a half, more -/
def yRs (rest : Int32) (t R : Nat) : Prop := (rest = 0 ∧ t % 2 = 0 ∧ R = 0) ∨ (rest = 1 ∧ t % 2 = 0 ∧ R ≠ 0) ∨ (rest = 2 ∧ t % 2 = 1 ∧ R = 0) ∨ (rest = 3 ∧ t % 2 = 1 ∧ R ≠ 0)
/-- a value's bits found -/
def QV_fd (P T : Nat) (l : Int) (N D : Nat) (hu : Int32) (wh sc : Int64) (rest : Int32) : Prop := (hu = 1 ∧ yfRnd P T l N D (T * 2 ^ P)) ∨ (hu = 0 ∧ ∃ q, yfS P l N D q ∧ sc.toInt = q ∧ q ≤ 5000 ∧ wh.toInt = ((yfT (q - 1) N D / 2 : Nat) : Int) ∧ yRs rest (yfT (q - 1) N D) (yfR (q - 1) N D))
theorem V_wholePart {t0_0 : Int32} {t0_1 : Int32} {t0_2 : Int32} {t0_3 : Int32} {t0_4 : Int32} {t0_5 : Int32} {t0_6 : Int32} {t0_7 : Int64} {t0_8 : Int32} {t0_9 : Int32} {t0_10 : Int64} {t0_11 : Int64} {t0_12 : Int32} {t0_13 : Int32} {t1_0 : (Nat → Int32)} (hW : yW t0_8 t0_9 t1_0) : (trV t1_0 55 < 10000000000000000 ∧ (F_TR_wholePart t0_0 t0_1 t0_2 t0_3 t0_4 t0_5 t0_6 t0_7 t0_8 t0_9 t0_10 t0_11 t0_12 t0_13 t1_0).toInt = trV t1_0 55) ∨ (10000000000000000 ≤ trV t1_0 55 ∧ (F_TR_wholePart t0_0 t0_1 t0_2 t0_3 t0_4 t0_5 t0_6 t0_7 t0_8 t0_9 t0_10 t0_11 t0_12 t0_13 t1_0).toInt = 10000000000000000) := by
  obtain ⟨w1, w2, w3, w4, w5, w6, w7⟩ := hW
  have e53 : (53 : Int32).toInt = 53 := rfl
  have e54 : (54 : Int32).toInt = 54 := rfl
  have c8 := q_clI (i := t0_8) rfl w1.1
  have d53 := w3 53 (by decide)
  have d54 := w3 54 (by decide)
  have c53 : (53 : Int32).toNatClampNeg = 53 := rfl
  have c54 : (54 : Int32).toNatClampNeg = 54 := rfl
  have eL0 : (0 : Int64).toInt = 0 := rfl
  have s55 : trV t1_0 55 = (trV t1_0 53 * 100000000 + (t1_0 53).toInt) * 100000000 + (t1_0 54).toInt := rfl
  unfold F_TR_wholePart
  by_cases g1 : (53 : Int32) ≤ t0_8
  · rw [if_pos g1]
    have g2 := q_leI g1
    have z : trV t1_0 53 = 0 := trV_0 (fun i hi => w4 i (by omega))
    rw [z] at s55
    refine Or.inl ⟨by omega, ?_⟩
    unfold F_TR_wholePart_J16
    rw [if_pos (show lg_cmp 0 0 ≤ 0 by decide), c53, c54]
    by_cases g3 : (54 : Int32) ≤ t0_8
    · rw [if_pos g3]
      have g4 := q_leI g3
      have z2 : (t1_0 53).toInt = 0 := by
        rw [w4 53 (by omega)]
        rfl
      rw [q_addL eL0 (q_i2l rfl) (by omega) (by omega), s55, z2]
      omega
    · rw [if_neg g3]
      have m : ((100000000 : Int64) * (t1_0 53).toInt64).toInt = 100000000 * (t1_0 53).toInt := q_mulL (show (100000000 : Int64).toInt = 100000000 from rfl) (q_i2l rfl) (by omega) (by omega)
      rw [q_addL m (q_i2l rfl) (by omega) (by omega), s55]
      omega
  · rw [if_neg g1]
    have g2 := q_nleI g1
    have p := yV_p (w := t1_0) (i := t0_8.toNatClampNeg) 53 (fun i hi => w3 i (by omega)) (by omega) (w5.resolve_left (by omega))
    refine Or.inr ⟨by omega, ?_⟩
    unfold F_TR_wholePart_J16
    rw [if_neg (show ¬ lg_cmp 10000000000000000 0 ≤ 0 by decide)]
    rfl
theorem y_1sh {x : Int32} {P : Nat} (h : (x = 53 ∧ P = 52) ∨ (x = 24 ∧ P = 23)) : ((1 : Int64) <<< (x.toInt64 &&& 63)).toInt = ((2 ^ (P + 1) : Nat) : Int) ∧ ((1 : Int64) <<< ((x - 1 : Int32).toInt64 &&& 63)).toInt = ((2 ^ P : Nat) : Int) ∧ 2 ^ (P + 1) ≤ 9007199254740992 := by
  rcases h with ⟨rfl, rfl⟩ | ⟨rfl, rfl⟩ <;> decide
def QV_fdR (P T : Nat) (l : Int) (N D : Nat) (k2 k4 : Int32) (p : Int32 × Int32 × Int32 × Int32 × Int32 × Int32 × Int32 × Int64 × Int32 × Int32 × Int64 × Int64 × Int32 × Int32 × (Nat → Int32)) : Prop := p.2.2.1 = k2 ∧ p.2.2.2.2.1 = k4 ∧ QV_fd P T l N D p.2.2.2.2.2.2.2.2.2.2.2.2.2.1 p.2.2.2.2.2.2.2.2.2.2.1 p.2.2.2.2.2.2.2.2.2.2.2.1 p.2.2.2.2.2.2.2.2.2.2.2.2.1
theorem y_rsd {w : Nat → Int32} {W : Nat} {fr to : Int32} (hW : yW fr to w) (hV : (W : Int) = trV w 800) : (to.toInt = 54 → W % 10 ^ 5960 = 0) ∧ ∃ A t2 : Nat, (A : Int) = trV w 55 ∧ t2 < 100000000 ^ 744 ∧ 10 ^ 5960 = 100000000 * 100000000 ^ 744 ∧ (W : Int) = (A : Int) * (100000000 * 100000000 ^ 744) + ((w 55).toInt * 100000000 ^ 744 + (t2 : Int)) ∧ (0 ≤ (w 55).toInt ∧ (w 55).toInt < 100000000) ∧ (to.toInt = 54 → (w 55).toInt = 0 ∧ t2 = 0) ∧ (to.toInt = 55 → (w 55).toInt ≠ 0 ∧ t2 = 0) ∧ (55 < to.toInt → 0 < t2) := by
  obtain ⟨w1, w2, w3, w4, w5, w6, w7⟩ := hW
  have c9 := q_clI (i := to) rfl (by omega)
  have s1 := yV_sp (w := w) (k := 55) 745
  have s2 := yV_sp (w := fun i => w (i + 55)) (k := 1) 744
  have b0 := (yV_b (w := w) 55 (fun i hi => w3 i (by omega))).1
  obtain ⟨b1, b2⟩ := yV_b (w := fun i => w (i + 1 + 55)) 744 (fun i hi => w3 _ (by omega))
  have d55 := w3 55 (by decide)
  have e1 : trV (fun i => w (i + 55)) 1 = (w 55).toInt := by
    show 0 * 100000000 + (w (0 + 55)).toInt = _
    rw [Nat.zero_add]
    omega
  have e2 : trV (fun i => (fun i => w (i + 55)) (i + 1)) 744 = trV (fun i => w (i + 1 + 55)) 744 := rfl
  have hB : (10 : Nat) ^ 5960 = 100000000 * 100000000 ^ 744 := by
    rw [show (100000000 : Nat) = 10 ^ 8 from rfl, ← Nat.pow_mul, ← Nat.pow_add]
  have hB2 : (100000000 : Int) ^ 745 = 100000000 * 100000000 ^ 744 := by
    rw [show (745 : Nat) = 744 + 1 from rfl, Int.pow_succ, Int.mul_comm]
  rw [show 1 + 744 = 745 from rfl, e1, e2] at s2
  rw [show 55 + 745 = 800 from rfl, s2, hB2] at s1
  obtain ⟨A, hA⟩ : ∃ A : Nat, trV w 55 = (A : Int) := ⟨(trV w 55).toNat, by omega⟩
  obtain ⟨t2, ht⟩ : ∃ t2 : Nat, trV (fun i => w (i + 1 + 55)) 744 = (t2 : Int) := ⟨(trV (fun i => w (i + 1 + 55)) 744).toNat, by omega⟩
  have tz : to.toInt ≤ 55 → t2 = 0 := fun h => by
    have := trV_0 (f := fun i => w (i + 1 + 55)) (n := 744) (fun i hi => w6 _ (by omega) (by omega))
    omega
  have z54 : to.toInt = 54 → (w 55).toInt = 0 := fun h => by
    rw [w6 55 (by omega) (by omega)]
    rfl
  rw [ht] at b2 s1
  rw [hA] at s1
  have t2b : t2 < 100000000 ^ 744 := by
    have : ((t2 : Nat) : Int) < ((100000000 ^ 744 : Nat) : Int) := by
      rw [Int.natCast_pow]
      exact b2
    exact Int.ofNat_lt.mp this
  refine ⟨fun h => ?_, A, t2, hA.symm, t2b, hB, by rw [hV]; exact s1, d55, fun h => ⟨z54 h, tz (by omega)⟩, fun h => ⟨fun hz => ?_, tz (by omega)⟩, fun h => ?_⟩
  · rw [z54 h, tz (by omega), Int.zero_mul] at s1
    have e : W = A * (100000000 * 100000000 ^ 744) := by
      refine Int.ofNat.inj ?_
      show (W : Int) = ((A * (100000000 * 100000000 ^ 744) : Nat) : Int)
      rw [hV, s1, Int.natCast_mul, Int.natCast_mul, Int.natCast_pow]
      exact Int.add_zero _
    rw [hB, e]
    exact Nat.mul_mod_left _ _
  · have := w7.resolve_left (by omega)
    rw [show to.toNatClampNeg = 55 by omega] at this
    exact this (Int32.toInt_inj.mp (by rw [hz]; rfl))
  · have := yV_p (w := fun i => w (i + 1 + 55)) (i := to.toNatClampNeg - 56) 744 (fun i hi => w3 _ (by omega)) (by omega) (by
      show w (to.toNatClampNeg - 56 + 1 + 55) ≠ 0
      rw [show to.toNatClampNeg - 56 + 1 + 55 = to.toNatClampNeg by omega]
      exact w7.resolve_left (by omega))
    omega
theorem y_hlf {A d t2 b W : Nat} (hb : 0 < b) (ht : t2 < b) (hd : d < 100000000) (hW : W = A * (100000000 * b) + (d * b + t2)) : (d < 50000000 → 2 * W / (100000000 * b) = 2 * A ∧ (2 * W % (100000000 * b) = 0 ↔ (d = 0 ∧ t2 = 0))) ∧ (50000000 ≤ d → 2 * W / (100000000 * b) = 2 * A + 1 ∧ (2 * W % (100000000 * b) = 0 ↔ (d = 50000000 ∧ t2 = 0))) := by
  have p : 0 < 100000000 * b := by omega
  have w2 : 2 * W = 2 * (d * b + t2) + 100000000 * b * (2 * A) := by
    rw [hW]
    grind
  constructor
  · intro c
    have h1 : d * b ≤ 49999999 * b := Nat.mul_le_mul_right _ (by omega)
    obtain ⟨q1, q2⟩ := (Nat.div_mod_unique (a := 2 * W) (c := 2 * (d * b + t2)) (d := 2 * A) p).mpr ⟨w2.symm, by omega⟩
    refine ⟨q1, ?_⟩
    rw [q2]
    constructor
    · intro h
      have : d * b = 0 := by omega
      exact ⟨(Nat.mul_eq_zero.mp this).resolve_right (by omega), by omega⟩
    · intro h
      rw [h.1, h.2, Nat.zero_mul]
  · intro c
    obtain ⟨e, rfl⟩ : ∃ e, d = 50000000 + e := ⟨d - 50000000, by omega⟩
    have h1 : e * b ≤ 49999999 * b := Nat.mul_le_mul_right _ (by omega)
    have h2 : (50000000 + e) * b = 50000000 * b + e * b := Nat.add_mul _ _ _
    have w3 : 2 * W = 2 * (e * b + t2) + 100000000 * b * (2 * A + 1) := by
      rw [w2, h2]
      grind
    obtain ⟨q1, q2⟩ := (Nat.div_mod_unique (a := 2 * W) (c := 2 * (e * b + t2)) (d := 2 * A + 1) p).mpr ⟨w3.symm, by omega⟩
    refine ⟨q1, ?_⟩
    rw [q2]
    constructor
    · intro h
      have : e * b = 0 := by omega
      have := (Nat.mul_eq_zero.mp this).resolve_right (by omega)
      exact ⟨by omega, by omega⟩
    · intro h
      rw [show e = 0 by omega, h.2, Nat.zero_mul]
/-- the end of findDecimal: what is kept, and what is behind it -/
theorem y_fdE {N D V : Nat} {s : Int} {w : Nat → Int32} {fr to r : Int32} (hD : 0 < D) (hX : yX N D s V) (hW : yW fr to w) (hV : (V : Int) = trV w 800) (hr : (to.toInt = 54 ∧ r = 0) ∨ (54 < to.toInt ∧ (w 55).toInt < 50000000 ∧ r = 1) ∨ (54 < to.toInt ∧ (w 55).toInt = 50000000 ∧ to.toInt = 55 ∧ r = 2) ∨ (54 < to.toInt ∧ (50000000 < (w 55).toInt ∨ ((w 55).toInt = 50000000 ∧ 55 < to.toInt)) ∧ r = 3)) : ∃ A : Nat, (A : Int) = trV w 55 ∧ yfT (s - 1) N D / 2 = A ∧ yRs r (yfT (s - 1) N D) (yfR (s - 1) N D) := by
  obtain ⟨z1, z2⟩ := yX_t hD hX
  obtain ⟨-, A, t2, a1, a2, a3, a4, a5, a6, a7, a8⟩ := y_rsd hW hV
  obtain ⟨d, hd⟩ : ∃ d : Nat, (w 55).toInt = (d : Int) := ⟨(w 55).toInt.toNat, by omega⟩
  rw [hd] at hr a4 a5 a6 a7
  rw [a3] at z1 z2
  have bp : 0 < 100000000 ^ 744 := Nat.pow_pos (by decide)
  have vE : V = A * (100000000 * 100000000 ^ 744) + (d * 100000000 ^ 744 + t2) := by
    refine Int.ofNat.inj ?_
    show (V : Int) = ((A * (100000000 * 100000000 ^ 744) + (d * 100000000 ^ 744 + t2) : Nat) : Int)
    rw [a4, Int.natCast_add, Int.natCast_add, Int.natCast_mul, Int.natCast_mul, Int.natCast_mul, Int.natCast_pow]
    rfl
  clear a4 a3
  generalize 100000000 ^ 744 = b at *
  obtain ⟨f1, f2⟩ := y_hlf bp a2 (by omega) vE
  refine ⟨A, a1, ?_⟩
  rcases hr with ⟨h1, h2⟩ | ⟨h1, h2, h3⟩ | ⟨h1, h2, h3, h4⟩ | ⟨h1, h2, h3⟩
  · obtain ⟨g1, g2⟩ := a6 h1
    obtain ⟨k1, k2⟩ := f1 (by omega)
    rw [z1, k1]
    exact ⟨by omega, Or.inl ⟨h2, by omega, z2.mpr (k2.mpr ⟨by omega, g2⟩)⟩⟩
  · obtain ⟨k1, k2⟩ := f1 (by omega)
    rw [z1, k1]
    refine ⟨by omega, Or.inr (Or.inl ⟨h3, by omega, fun h => ?_⟩)⟩
    obtain ⟨m1, m2⟩ := k2.mp (z2.mp h)
    rcases Int.lt_or_le 55 to.toInt with c | c
    · have := a8 c
      omega
    · have := (a7 (by omega)).1
      omega
  · obtain ⟨k1, k2⟩ := f2 (by omega)
    rw [z1, k1]
    exact ⟨by omega, Or.inr (Or.inr (Or.inl ⟨h4, by omega, z2.mpr (k2.mpr ⟨by omega, (a7 h3).2⟩)⟩))⟩
  · obtain ⟨k1, k2⟩ := f2 (by omega)
    rw [z1, k1]
    refine ⟨by omega, Or.inr (Or.inr (Or.inr ⟨h3, by omega, fun h => ?_⟩))⟩
    obtain ⟨m1, m2⟩ := k2.mp (z2.mp h)
    rcases h2 with c | ⟨c1, c2⟩
    · omega
    · have := a8 c2
      omega
