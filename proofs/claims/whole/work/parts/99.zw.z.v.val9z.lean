/-! values, for whole: the reference's DecimalRows: the square root -/
def rtZ (a : Int × Int) (w : Int) : Int := 2 * (w + 1) - a.2
/-- t is ten times the root of a, of scale w, cut -/
def rtT (a : Int × Int) (w t : Int) : Prop := 0 ≤ t ∧ t * t * 10 ^ (-rtZ a w).toNat ≤ a.1 * 10 ^ (rtZ a w).toNat ∧ a.1 * 10 ^ (rtZ a w).toNat < (t + 1) * (t + 1) * 10 ^ (-rtZ a w).toNat
def rtX (a : Int × Int) (w t : Int) : Prop := t * t * 10 ^ (-rtZ a w).toNat = a.1 * 10 ^ (rtZ a w).toNat
/-- the root of a to p figures -/
def sRt (p : Nat) (m : Int32) (a : Int × Int) (o : Option (Int × Int)) : Prop := (a.1 < 0 ∧ o = none) ∨ (a.1 = 0 ∧ o = some (0, a.2 / 2)) ∨ (0 < a.1 ∧ ∃ (w t : Int) (st : Int32), rtT a w t ∧ (10 : Int) ^ p ≤ t ∧ t < 10 ^ (p + 1) ∧ (st = 0 ∨ st = 1) ∧ (st = 0 ↔ rtX a w t) ∧ o = (sSht m 0 st p t (a.2 / 2) w).map (fun q => (sgI 0 q.1, q.2)))
theorem rt_lt {s t : Int} (hs : 0 ≤ s) (ht : 0 ≤ t) (h : s * s < (t + 1) * (t + 1)) : s ≤ t := by
  rcases Int.lt_or_le t s with c | c
  · exfalso
    have : (t + 1) * (t + 1) ≤ s * s := Int.mul_le_mul (by omega) (by omega) (by omega) hs
    omega
  · exact c
theorem rt_pw2 {p : Nat} : (10 : Int) ^ p * 10 ^ p = 10 ^ (2 * p) := by
  rw [← Int.pow_add, show p + p = 2 * p by omega]
theorem rt_wle {a : Int × Int} {p : Nat} {w v t u : Int} (h : rtT a w t) (g : rtT a v u) (ht : (10 : Int) ^ p ≤ t) (hu : u < (10 : Int) ^ (p + 1)) (u0 : 0 ≤ u) : v ≤ w := by
  rcases Int.lt_or_le w v with c | c
  · exfalso
    obtain ⟨-, h1, -⟩ := h
    obtain ⟨-, -, g1⟩ := g
    have hz : (rtZ a v).toNat + (-rtZ a w).toNat = (rtZ a w).toNat + (-rtZ a v).toNat + (2 * (v - w)).toNat := by
      unfold rtZ
      omega
    obtain ⟨k, hk⟩ : ∃ k, (2 * (v - w)).toNat = 2 + k := ⟨(2 * (v - w)).toNat - 2, by omega⟩
    rw [hk] at hz
    generalize (rtZ a v).toNat = yp at *
    generalize (-rtZ a v).toNat = yn at *
    generalize (rtZ a w).toNat = zp at *
    generalize (-rtZ a w).toNat = zn at *
    have l1 : (10 : Int) ^ p * 10 ^ p ≤ t * t := Int.mul_le_mul ht ht (Int.le_of_lt (u_pos p)) (Int.le_trans (Int.le_of_lt (u_pos p)) ht)
    have l2 : (u + 1) * (u + 1) ≤ (10 : Int) ^ (p + 1) * 10 ^ (p + 1) := Int.mul_le_mul (by omega) (by omega) (by omega) (Int.le_of_lt (u_pos _))
    have P1 := u_pos zn
    have P2 := u_pos yn
    have P3 := u_pos k
    have m1 : (10 : Int) ^ p * 10 ^ p * 10 ^ zn ≤ a.1 * 10 ^ zp := Int.le_trans (Int.mul_le_mul_of_nonneg_right l1 (Int.le_of_lt P1)) h1
    have m2 : a.1 * 10 ^ yp < (10 : Int) ^ (p + 1) * 10 ^ (p + 1) * 10 ^ yn := Int.lt_of_lt_of_le g1 (Int.mul_le_mul_of_nonneg_right l2 (Int.le_of_lt P2))
    have m3 : a.1 * 10 ^ yp * 10 ^ zn = a.1 * 10 ^ zp * (10 ^ yn * 10 ^ 2 * 10 ^ k) := by
      rw [Int.mul_assoc, ← Int.pow_add, hz, Int.pow_add, Int.pow_add, Int.pow_add]
      ac_rfl
    have m4 : (10 : Int) ^ p * 10 ^ p * 10 ^ zn * (10 ^ yn * 10 ^ 2 * 10 ^ k) ≤ a.1 * 10 ^ zp * (10 ^ yn * 10 ^ 2 * 10 ^ k) := Int.mul_le_mul_of_nonneg_right m1 (Int.le_of_lt (Int.mul_pos (Int.mul_pos P2 (by decide)) P3))
    have m5 : a.1 * 10 ^ yp * 10 ^ zn < (10 : Int) ^ (p + 1) * 10 ^ (p + 1) * 10 ^ yn * 10 ^ zn := Int.mul_lt_mul_of_pos_right m2 P1
    have m6 : (10 : Int) ^ (p + 1) * 10 ^ (p + 1) * 10 ^ yn * 10 ^ zn ≤ 10 ^ p * 10 ^ p * 10 ^ zn * (10 ^ yn * 10 ^ 2 * 10 ^ k) := by
      have e : (10 : Int) ^ p * 10 ^ p * 10 ^ zn * (10 ^ yn * 10 ^ 2 * 10 ^ k) = (10 ^ (p + 1) * 10 ^ (p + 1) * 10 ^ yn * 10 ^ zn) * 10 ^ k := by
        rw [u_pw p]
        grind
      rw [e]
      have P4 : (0 : Int) ≤ 10 ^ (p + 1) * 10 ^ (p + 1) * 10 ^ yn * 10 ^ zn := Int.le_of_lt (Int.mul_pos (Int.mul_pos (Int.mul_pos (u_pos _) (u_pos _)) P2) P1)
      have := Int.mul_le_mul_of_nonneg_left (show (1 : Int) ≤ 10 ^ k by omega) P4
      omega
    rw [m3] at m5
    exact absurd (Int.lt_of_lt_of_le m5 (Int.le_trans m6 m4)) (Int.lt_irrefl _)
  · exact c
theorem rt_tle {a : Int × Int} {w t u : Int} (h : rtT a w t) (g : rtT a w u) : t ≤ u := by
  have P1 := u_pos (-rtZ a w).toNat
  have l := Int.lt_of_le_of_lt h.2.1 g.2.2
  exact rt_lt h.1 g.1 (Int.lt_of_mul_lt_mul_right l (Int.le_of_lt P1))
theorem sRt_U {p : Nat} {m : Int32} {a : Int × Int} {o o' : Option (Int × Int)} (h : sRt p m a o) (g : sRt p m a o') : o = o' := by
  rcases h with ⟨h1, h2⟩ | ⟨h1, h2⟩ | ⟨h1, w, t, st, h2, h3, h4, h5, h6, h7⟩
  · rcases g with ⟨g1, g2⟩ | ⟨g1, g2⟩ | ⟨g1, _⟩
    · rw [h2, g2]
    · omega
    · omega
  · rcases g with ⟨g1, g2⟩ | ⟨g1, g2⟩ | ⟨g1, _⟩
    · omega
    · rw [h2, g2]
    · omega
  · rcases g with ⟨g1, g2⟩ | ⟨g1, g2⟩ | ⟨g1, v, u, su, g2, g3, g4, g5, g6, g7⟩
    · omega
    · omega
    · have e1 : w = v := Int.le_antisymm (rt_wle g2 h2 g3 h4 h2.1) (rt_wle h2 g2 h3 g4 g2.1)
      subst e1
      have e2 : t = u := Int.le_antisymm (rt_tle h2 g2) (rt_tle g2 h2)
      subst e2
      have e3 : st = su := by
        rcases h5 with rfl | rfl
        · exact (g6.mpr (h6.mp rfl)).symm
        · rcases g5 with rfl | rfl
          · exact absurd (h6.mpr (g6.mp rfl)) (by decide)
          · rfl
      rw [h7, g7, e3]
theorem rt_cmp {t M N Y Z : Int} (hM : 0 < M) (hZ : 0 < Z) (k : Y * (M * M) = N * Z) : ((t * M) * (t * M) ≤ N → t * t * Z ≤ Y) ∧ (N < ((t + 1) * M) * ((t + 1) * M) → Y < (t + 1) * (t + 1) * Z) ∧ (t * t * Z = Y ↔ (t * M) * (t * M) = N) := by
  have P : 0 < M * M := Int.mul_pos hM hM
  refine ⟨fun h => ?_, fun h => ?_, fun h => ?_, fun h => ?_⟩
  · refine Int.le_of_mul_le_mul_right ?_ P
    rw [k, show t * t * Z * (M * M) = (t * M) * (t * M) * Z by grind]
    exact Int.mul_le_mul_of_nonneg_right h (Int.le_of_lt hZ)
  · refine Int.lt_of_mul_lt_mul_right ?_ (Int.le_of_lt P)
    rw [k, show (t + 1) * (t + 1) * Z * (M * M) = ((t + 1) * M) * ((t + 1) * M) * Z by grind]
    exact Int.mul_lt_mul_of_pos_right h hZ
  · refine Int.eq_of_mul_eq_mul_right (Int.ne_of_gt hZ) ?_
    rw [← k, ← h]
    grind
  · refine Int.eq_of_mul_eq_mul_right (Int.ne_of_gt P) ?_
    rw [k, ← h]
    grind
/-- the root cut behind e figures, against its square -/
theorem rt_cut {r L t M : Int} (hM : 0 < M) (r0 : 0 ≤ r) (hL : 0 ≤ L ∧ L ≤ 2 * r) (ht : t = r / M) : 0 ≤ t ∧ (t * M) * (t * M) ≤ r * r + L ∧ r * r + L < ((t + 1) * M) * ((t + 1) * M) ∧ ((t * M) * (t * M) = r * r + L ↔ (r % M = 0 ∧ L = 0)) := by
  have h1 := Int.emod_add_mul_ediv r M
  have h2 := Int.emod_nonneg r (Int.ne_of_gt hM)
  have h3 := Int.emod_lt_of_pos r hM
  have t0 : 0 ≤ t := by
    rw [ht]
    exact Int.ediv_nonneg r0 (Int.le_of_lt hM)
  rw [← ht] at h1
  generalize r % M = x at *
  have e : t * M = r - x := by
    rw [Int.mul_comm]
    omega
  have e2 : (t + 1) * M = r - x + M := by
    rw [Int.add_mul, e]
    omega
  have tM : 0 ≤ t * M := Int.mul_nonneg t0 (Int.le_of_lt hM)
  have q1 : (t * M) * (t * M) ≤ r * r := Int.mul_le_mul (by omega) (by omega) tM r0
  have q2 : (r + 1) * (r + 1) ≤ ((t + 1) * M) * ((t + 1) * M) := Int.mul_le_mul (by omega) (by omega) (by omega) (by omega)
  have q3 : (r + 1) * (r + 1) = r * r + 2 * r + 1 := by grind
  refine ⟨t0, by omega, by omega, fun h => ?_, fun h => ?_⟩
  · have L0 : L = 0 := by omega
    refine ⟨?_, L0⟩
    rcases Int.lt_or_le 0 x with c | c
    · exfalso
      have q4 : (t * M) * (t * M) ≤ (r - 1) * r := Int.mul_le_mul (by omega) (by omega) tM (by omega)
      have q5 : (r - 1) * r = r * r - r := by grind
      omega
    · omega
  · rw [h.2, Int.add_zero, show t * M = r by omega]
/-- a root r with L left, of n figures, is good for p figures -/
theorem rt_sht {a : Int × Int} {m : Int32} {p n i od : Nat} {r L S : Int} {st : Int32} (a0 : 0 < a.1) (hr : vG r n) (r0 : 0 < r) (hP : r * r + L = a.1 * 10 ^ od * 100 ^ i) (hL : 0 ≤ L ∧ L ≤ 2 * r) (hS : a.2 = 2 * S - od) (hst : (st = 0 ∧ L = 0) ∨ (st = 1 ∧ L ≠ 0)) (hn : L = 0 ∨ p + 1 ≤ n) : sRt p m a ((sSht m 0 (rSt r (n - p) st) p ((10 * r * 10 ^ (p - n)) / 10 ^ (n - p)) (a.2 / 2) (S + (i : Int) + (p : Int) - (n : Int))).map (fun q => (sgI 0 q.1, q.2))) := by
  obtain ⟨q1, q2⟩ := q_rng (p := p) hr r0
  have h100 : (100 : Int) ^ i = 10 ^ (2 * i) := by
    rw [show (100 : Int) = 10 ^ 2 from rfl, Int.pow_mul]
  rw [h100] at hP
  have s01 : rSt r (n - p) st = 0 ∨ rSt r (n - p) st = 1 := by
    unfold rSt
    split
    · exact Or.inl rfl
    · exact Or.inr rfl
  have st0 : st = 0 ↔ L = 0 := by
    rcases hst with ⟨h1, h2⟩ | ⟨h1, h2⟩
    · exact ⟨fun _ => h2, fun _ => h1⟩
    · exact ⟨fun h => absurd (h1.symm.trans h) (by decide), fun h => absurd h h2⟩
  have rs : rSt r (n - p) st = 0 ↔ ((10 * r) % 10 ^ (n - p) = 0 ∧ L = 0) := by
    unfold rSt
    rw [← st0]
    constructor
    · intro h
      by_cases c : (10 * r) % 10 ^ (n - p) = 0 ∧ st = 0
      · exact c
      · rw [if_neg c] at h
        exact absurd h (by decide)
    · intro h
      rw [if_pos h]
  have key : rtT a (S + (i : Int) + (p : Int) - (n : Int)) ((10 * r * 10 ^ (p - n)) / 10 ^ (n - p)) ∧ (((10 * r) % 10 ^ (n - p) = 0 ∧ L = 0) ↔ rtX a (S + (i : Int) + (p : Int) - (n : Int)) ((10 * r * 10 ^ (p - n)) / 10 ^ (n - p))) := by
    rcases Nat.lt_or_ge p n with c | c
    · obtain ⟨e, rfl⟩ : ∃ e, n = p + 1 + e := ⟨n - p - 1, by omega⟩
      have z1 : rtZ a (S + (i : Int) + (p : Int) - ((p + 1 + e : Nat) : Int)) = (od : Int) + 2 * i - 2 * e := by
        unfold rtZ
        omega
      unfold rtT rtX
      rw [z1, show p - (p + 1 + e) = 0 by omega, show p + 1 + e - p = e + 1 by omega, Int.pow_zero, Int.mul_one, (u_10d (v := r) (m := e)).1, (u_10d (v := r) (m := e)).2]
      have hz : ((od : Int) + 2 * i - 2 * e).toNat + (e + e) = od + 2 * i + (-((od : Int) + 2 * i - 2 * e)).toNat := by omega
      generalize ((od : Int) + 2 * i - 2 * e).toNat = zp at *
      generalize (-((od : Int) + 2 * i - 2 * e)).toNat = zn at *
      have k : a.1 * 10 ^ zp * (10 ^ e * 10 ^ e) = (r * r + L) * 10 ^ zn := by
        rw [hP, Int.mul_assoc, ← Int.pow_add, ← Int.pow_add, hz, Int.pow_add, Int.pow_add]
        ac_rfl
      obtain ⟨c0, c1, c2, c3⟩ := rt_cut (M := 10 ^ e) (u_pos e) (Int.le_of_lt r0) hL rfl
      obtain ⟨k1, k2, k3⟩ := rt_cmp (t := r / 10 ^ e) (u_pos e) (u_pos zn) k
      refine ⟨⟨c0, k1 c1, k2 c2⟩, ?_⟩
      rw [k3, c3]
      constructor
      · intro h
        exact ⟨by omega, h.2⟩
      · intro h
        rw [h.1]
        exact ⟨rfl, h.2⟩
    · have L0 : L = 0 := hn.resolve_right (by omega)
      obtain ⟨e, rfl⟩ : ∃ e, p = n + e := ⟨p - n, by omega⟩
      have z1 : rtZ a (S + (i : Int) + ((n + e : Nat) : Int) - (n : Int)) = ((od + 2 * i + (e + 1 + (e + 1)) : Nat) : Int) := by
        unfold rtZ
        omega
      unfold rtT rtX
      rw [z1, show n - (n + e) = 0 by omega, show n + e - n = e by omega, Int.pow_zero, Int.ediv_one, Int.emod_one, Int.toNat_natCast, show (-((od + 2 * i + (e + 1 + (e + 1)) : Nat) : Int)).toNat = 0 by omega, Int.pow_zero, Int.mul_one, Int.mul_one]
      have k : a.1 * 10 ^ (od + 2 * i + (e + 1 + (e + 1))) = (10 * r * 10 ^ e) * (10 * r * 10 ^ e) := by
        rw [Int.pow_add, ← Int.mul_assoc, Int.pow_add 10 od, ← Int.mul_assoc, ← hP, L0, Int.pow_add, u_pw]
        grind
      rw [k]
      have t0 : 0 ≤ 10 * r * 10 ^ e := Int.mul_nonneg (by omega) (Int.le_of_lt (u_pos e))
      generalize 10 * r * 10 ^ e = t at *
      refine ⟨⟨t0, Int.le_refl _, ?_⟩, ⟨fun _ => rfl, fun _ => ⟨rfl, L0⟩⟩⟩
      have : (t + 1) * (t + 1) = t * t + 2 * t + 1 := by grind
      omega
  exact Or.inr (Or.inr ⟨a0, _, _, _, key.1, q1, q2, s01, rs.trans key.2, rfl⟩)
