/-! values, for whole: the class's shortest figures: the estimate -/
theorem y_fdL {x : Int64} (h : -1000000000000 ≤ x.toInt) (h2 : x.toInt ≤ 1000000000000) : (F_jMath_floorDiv_JJJ x 1000000000).toInt = x.toInt / 1000000000 := by
  have e3 : (1000000000 : Int64).toInt = 1000000000 := rfl
  have e1 : (1 : Int64).toInt = 1 := rfl
  have e0 : (0 : Int64).toInt = 0 := rfl
  have hs : (x ^^^ 1000000000 : Int64).toInt < 0 ↔ x.toInt < 0 := by
    have a : (x ^^^ 1000000000 : Int64).toBitVec.msb = decide ((x ^^^ 1000000000 : Int64).toBitVec.toInt < 0) := BitVec.msb_eq_toInt
    have b : x.toBitVec.msb = decide (x.toBitVec.toInt < 0) := BitVec.msb_eq_toInt
    have c : (x ^^^ 1000000000 : Int64).toBitVec.msb = x.toBitVec.msb := by
      rw [Int64.toBitVec_xor, BitVec.msb_xor, show (1000000000 : Int64).toBitVec.msb = false from by decide, Bool.xor_false]
    rw [a, b] at c
    constructor
    · intro k
      have : decide ((x ^^^ 1000000000 : Int64).toBitVec.toInt < 0) = true := decide_eq_true k
      rw [this] at c
      exact of_decide_eq_true c.symm
    · intro k
      have : decide (x.toBitVec.toInt < 0) = true := decide_eq_true k
      rw [this] at c
      exact of_decide_eq_true c
  unfold F_jMath_floorDiv_JJJ
  by_cases g : 0 ≤ lg_cmp (x ^^^ 1000000000) 0
  · rw [if_pos g]
    have g := g_lc5 g
    exact w_divL (by omega) e3 (by omega)
  · rw [if_neg g]
    have g := g_lc6 g
    rcases n_divL (a := x) e3 (by omega) with ⟨k, _⟩ | ⟨k, k1, k2⟩
    · omega
    · have m := q_mulL (a := x / 1000000000) (b := 1000000000) rfl e3 (by omega) (by omega)
      by_cases w : lg_cmp (x / 1000000000 * 1000000000) x = 0
      · rw [if_pos w]
        have w := g_lcz w
        omega
      · rw [if_neg w]
        have : (x / 1000000000 * 1000000000 : Int64).toInt ≠ x.toInt := fun e => w (y_lcE.mpr e)
        rw [q_subL rfl e1 (by omega) (by omega)]
        omega
/-- the guess is never too high, and too low by less than 2 -/
theorem y_gs {x : Int} (h : -1074 ≤ x) (h2 : x ≤ 1023) : 10 ^ (x * 301029995 / 1000000000).toNat * 2 ^ (-x).toNat ≤ 2 ^ x.toNat * 10 ^ (-(x * 301029995 / 1000000000)).toNat ∧ 2 * (2 ^ x.toNat * 10 ^ (-(x * 301029995 / 1000000000)).toNat) ≤ 100 * (10 ^ (x * 301029995 / 1000000000).toNat * 2 ^ (-x).toNat) := by
  have key : ∀ i : Nat, i < 2098 → 10 ^ (((i : Int) - 1074) * 301029995 / 1000000000).toNat * 2 ^ (-((i : Int) - 1074)).toNat ≤ 2 ^ ((i : Int) - 1074).toNat * 10 ^ (-(((i : Int) - 1074) * 301029995 / 1000000000)).toNat ∧ 2 * (2 ^ ((i : Int) - 1074).toNat * 10 ^ (-(((i : Int) - 1074) * 301029995 / 1000000000)).toNat) ≤ 100 * (10 ^ (((i : Int) - 1074) * 301029995 / 1000000000).toNat * 2 ^ (-((i : Int) - 1074)).toNat) := by decide +kernel
  have := key (x + 1074).toNat (by omega)
  rw [show (((x + 1074).toNat : Nat) : Int) - 1074 = x from by omega] at this
  exact this
/-- what stands behind 10 ^ 1080: a quarter of a float's step -/
def yZ (p : Int) (Z : Nat) : Prop := Z * 2 ^ (2 + (-p).toNat) = 2 ^ p.toNat * 10 ^ 1080
theorem yZ_U {p : Int} {Z Y : Nat} (h : yZ p Z) (g : yZ p Y) : Z = Y := by
  unfold yZ at h g
  rw [← g] at h
  exact Nat.eq_of_mul_eq_mul_right (Nat.pow_pos (by decide)) h
theorem yZ_e {p e : Int} {Z : Nat} (h : yZ p Z) (he : -1000 ≤ e) : Z * (2 ^ (2 + (-p).toNat) * 10 ^ e.toNat) = 2 ^ p.toNat * 10 ^ (-e).toNat * 10 ^ (1080 + e).toNat := by
  unfold yZ at h
  rw [← Nat.mul_assoc, h, Nat.mul_assoc, Nat.mul_assoc, ← Nat.pow_add, ← Nat.pow_add, show (-e).toNat + (1080 + e).toNat = 1080 + e.toNat from by omega]
/-- the first guess: unit not above left, left below 100 units -/
theorem y_gl {n b : Nat} {p x : Int} (hb1 : 2 ^ (b - 1) ≤ n) (hb2 : n < 2 ^ b) (hb : 1 ≤ b) (hx : x = (b : Int) - 1 + p) (h : -1074 ≤ x) (h2 : x ≤ 1023) : 2 ^ (2 + (-p).toNat) * 10 ^ (x * 301029995 / 1000000000).toNat ≤ n * 2 ^ (2 + p.toNat) * 10 ^ (-(x * 301029995 / 1000000000)).toNat ∧ n * 2 ^ (2 + p.toNat) * 10 ^ (-(x * 301029995 / 1000000000)).toNat < 100 * (2 ^ (2 + (-p).toNat) * 10 ^ (x * 301029995 / 1000000000).toNat) := by
  obtain ⟨g1, g2⟩ := y_gs h h2
  generalize 10 ^ (x * 301029995 / 1000000000).toNat = E at g1 g2 ⊢
  have pF : 0 < 10 ^ (-(x * 301029995 / 1000000000)).toNat := Nat.pow_pos (by decide)
  generalize 10 ^ (-(x * 301029995 / 1000000000)).toNat = F at g1 g2 pF ⊢
  have e1 : 2 ^ (b - 1) * 2 ^ p.toNat * 2 ^ (-x).toNat = 2 ^ x.toNat * 2 ^ (-p).toNat := by
    rw [← Nat.pow_add, ← Nat.pow_add, ← Nat.pow_add, show b - 1 + p.toNat + (-x).toNat = x.toNat + (-p).toNat from by omega]
  have e2 : 2 ^ b = 2 * 2 ^ (b - 1) := by
    rw [Nat.mul_comm, ← Nat.pow_succ, show (b - 1).succ = b from by omega]
  have px : 0 < 2 ^ (-x).toNat := Nat.pow_pos (by decide)
  have pm : 0 < 2 ^ (-p).toNat := Nat.pow_pos (by decide)
  have pq : 0 < 2 ^ p.toNat := Nat.pow_pos (by decide)
  rw [Nat.pow_add 2 2, Nat.pow_add 2 2]
  generalize 2 ^ (-x).toNat = X at g1 g2 e1 px
  generalize 2 ^ x.toNat = Y at g1 g2 e1
  generalize 2 ^ (-p).toNat = M at e1 pm ⊢
  generalize 2 ^ p.toNat = Q at e1 pq ⊢
  generalize 2 ^ (b - 1) = B at e1 e2 hb1
  rw [e2] at hb2
  constructor
  · refine Nat.le_of_mul_le_mul_right (c := X) ?_ px
    have s1 : 2 ^ 2 * M * E * X = 2 ^ 2 * (M * (E * X)) := by grind
    have s2 : B * (2 ^ 2 * Q) * F * X = 2 ^ 2 * (M * (Y * F)) := by grind
    have s3 : B * (2 ^ 2 * Q) * F * X ≤ n * (2 ^ 2 * Q) * F * X := Nat.mul_le_mul_right _ (Nat.mul_le_mul_right _ (Nat.mul_le_mul_right _ hb1))
    rw [s1]
    refine Nat.le_trans ?_ s3
    rw [s2]
    exact Nat.mul_le_mul_left _ (Nat.mul_le_mul_left _ g1)
  · refine Nat.lt_of_mul_lt_mul_right (a := X) ?_
    have s1 : 100 * (2 ^ 2 * M * E) * X = 2 ^ 2 * (M * (100 * (E * X))) := by grind
    have s2 : 2 * B * (2 ^ 2 * Q) * F * X = 2 ^ 2 * (M * (2 * (Y * F))) := by grind
    have s3 : n * (2 ^ 2 * Q) * F * X < 2 * B * (2 ^ 2 * Q) * F * X := Nat.mul_lt_mul_of_pos_right (Nat.mul_lt_mul_of_pos_right (Nat.mul_lt_mul_of_pos_right hb2 (by omega)) pF) px
    rw [s1]
    refine Nat.lt_of_lt_of_le s3 ?_
    rw [s2]
    exact Nat.mul_le_mul_left _ (Nat.mul_le_mul_left _ g2)
