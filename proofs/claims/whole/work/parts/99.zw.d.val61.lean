/-! values, for whole: the lowest bit exactly, shifts (class) -/
theorem v_bc2 {l : Int32} (hl : 0 < l.toInt) : ∃ t m : Nat, F_jInt_bitCount ((l &&& (-l)) - 1) = Int32.ofNat t ∧ t < 31 ∧ l.toInt = ((2 ^ t * (2 * m + 1) : Nat) : Int) := by
  have h1 := v_natI (x := l) (by omega)
  have h2 := Int32.toInt_lt l
  obtain ⟨t, m, e⟩ := v_odd l.toBitVec.toNat (by omega)
  have hp : 0 < 2 ^ t := Nat.pow_pos (by decide)
  have hn : l.toBitVec.toNat < 2 ^ 31 := by omega
  have hle : 2 ^ t ≤ l.toBitVec.toNat := by
    rw [e]
    have : 2 ^ t * 1 ≤ 2 ^ t * (2 * m + 1) := Nat.mul_le_mul_left _ (by omega)
    omega
  have ht : t < 31 := by
    apply (Nat.pow_lt_pow_iff_right (a := 2) (by decide)).mp
    omega
  have hb := v_lowbit e hn
  have h3 : (l &&& (-l) : Int32).toBitVec.toNat = 2 ^ t := by
    rw [Int32.toBitVec_and, BitVec.toNat_and, Int32.toBitVec_neg, BitVec.toNat_neg, Nat.mod_eq_of_lt (by omega)]
    exact hb
  have h4 : (l &&& (-l) : Int32).toInt = ((2 ^ t : Nat) : Int) := by
    have h5 : (l &&& (-l) : Int32).toInt = ((l &&& (-l) : Int32).toBitVec).toInt := rfl
    rw [BitVec.toInt_eq_toNat_cond, h3] at h5
    have h6 : 2 ^ t < 2 ^ 31 := Nat.pow_lt_pow_right (by decide) ht
    rw [if_pos (by omega)] at h5
    exact h5
  have h6 : 2 ^ t < 2 ^ 31 := Nat.pow_lt_pow_right (by decide) ht
  have h7 : ((l &&& (-l)) - 1 : Int32) = Int32.ofNat (2 ^ t - 1) := by
    apply Int32.toInt_inj.mp
    rw [q_subI h4 v_e1 (by omega) (by omega), t_ofn ⟨t, by omega⟩]
    have : ((2 ^ t : Nat) : Int) = 2 ^ t := by rw [Int.natCast_pow]; rfl
    rw [this]
  refine ⟨t, m, ?_, ht, ?_⟩
  · rw [h7]
    exact t_cnt ⟨t, by omega⟩
  · rw [← h1, e]
theorem v_zerB {f : Nat → Int32} : ∀ {j : Nat}, (∀ i, i < j → f i = 0) → vB f j = 0
  | 0, _ => rfl
  | j + 1, h => by
    show vB f j + (f j).toInt * 2147483648 ^ j = 0
    rw [v_zerB (fun i hi => h i (by omega)), h j (by omega)]
    show 0 + 0 * 2147483648 ^ j = (0 : Int)
    omega
theorem v_oddId {P t k X : Nat} (ht : t ≤ 30) : P * (2 ^ t * (2 * k + 1) + 2147483648 * X) = (P * 2 ^ t) * (2 * (k + 2 ^ (30 - t) * X) + 1) := by
  have e : (2147483648 : Nat) = 2 ^ t * (2 * 2 ^ (30 - t)) := by
    rw [← Nat.pow_succ', ← Nat.pow_add, show t + (30 - t).succ = 31 by omega]
  rw [e, Nat.mul_assoc (2 ^ t), ← Nat.mul_add, ← Nat.mul_assoc P, Nat.mul_add 2 k, Nat.mul_assoc 2]
  congr 1
  omega
theorem v_l1E {R s n : Int32} {f : Nat → Int32} (h : bN s f) (hs : 0 < s.toInt) (hs2 : s.toInt ≤ 220) : ∀ (m : Nat) (j : Int32), 0 ≤ j.toInt → j.toInt < s.toInt → s.toInt - j.toInt < (m : Int) → (∀ i : Nat, (i : Int) < j.toInt → f i = 0) → ∃ t k : Nat, (F_Big_lowestOne_L2 R s n f m j).toInt = (t : Int) ∧ t ≤ 6820 ∧ bV s f = ((2 ^ t * (2 * k + 1) : Nat) : Int) := by
  intro m
  induction m with
  | zero => intros; omega
  | succ m ih =>
    intro j h1 h2 h3 hz
    rw [F_Big_lowestOne_L2.eq_2, if_neg (fun hh => by have := q_leI hh; omega)]
    have c1 := q_clI (i := j) rfl h1
    have c2 := q_clI (i := s) rfl h.1
    by_cases h4 : f j.toNatClampNeg = 0
    · rw [if_pos h4]
      have ej := v_sc h1 (by omega)
      by_cases h5 : j.toInt + 1 = s.toInt
      · exfalso
        apply h.2.2 hs
        rw [show s.toNatClampNeg - 1 = j.toNatClampNeg by omega]
        exact h4
      · refine ih _ (by omega) (by omega) (by omega) (fun i hi => ?_)
        by_cases h6 : (i : Int) < j.toInt
        · exact hz i h6
        · rw [show i = j.toNatClampNeg by omega]
          exact h4
    · rw [if_neg h4]
      have hp : 0 < (f j.toNatClampNeg).toInt := by
        have a1 := h.2.1 j.toNatClampNeg (by omega)
        have a2 : (f j.toNatClampNeg).toInt ≠ 0 := fun h9 => h4 (Int32.toInt_inj.mp h9)
        omega
      obtain ⟨t, k, t1, t2, t3⟩ := v_bc2 hp
      have e31 : (31 : Int32).toInt = 31 := rfl
      have et : (Int32.ofNat t).toInt = (t : Int) := by
        rw [Int32.toInt_ofNat_of_lt (by omega)]
      have q1 : (j * 31 : Int32).toInt = j.toInt * 31 := q_mulI rfl e31 (by omega) (by omega)
      rw [t1]
      obtain ⟨w, hw⟩ : ∃ w, s.toNatClampNeg = j.toNatClampNeg + (1 + w) := ⟨s.toNatClampNeg - j.toNatClampNeg - 1, by omega⟩
      have s1 := v_split (f := f) (p := j.toNatClampNeg) (n := 1 + w)
      have s2 := v_split (f := fun i => f (j.toNatClampNeg + i)) (p := 1) (n := w)
      have s3 : vB (fun i => f (j.toNatClampNeg + i)) 1 = (f j.toNatClampNeg).toInt := by
        show 0 + (f (j.toNatClampNeg + 0)).toInt * 2147483648 ^ 0 = _
        rw [Nat.add_zero]
        omega
      have s4 : vB f j.toNatClampNeg = 0 := v_zerB (fun i hi => hz i (by omega))
      have s5 : 0 ≤ vB (fun i => (fun i => f (j.toNatClampNeg + i)) (1 + i)) w := v_nn (fun i hi => h.2.1 _ (by omega))
      obtain ⟨X, hX⟩ : ∃ X : Nat, vB (fun i => (fun i => f (j.toNatClampNeg + i)) (1 + i)) w = (X : Int) := ⟨_, (Int.toNat_of_nonneg s5).symm⟩
      refine ⟨31 * j.toNatClampNeg + t, k + 2 ^ (30 - t) * X, ?_, by omega, ?_⟩
      · rw [q_addI q1 et (by omega) (by omega)]
        omega
      · show vB f s.toNatClampNeg = _
        rw [hw, s1, s4, s2, s3, t3, hX, Int.pow_one]
        have e : (2 : Nat) ^ (31 * j.toNatClampNeg + t) = 2147483648 ^ j.toNatClampNeg * 2 ^ t := by
          rw [Nat.pow_add, Nat.pow_mul]
        rw [e, ← v_oddId (by omega), Int.natCast_mul (2147483648 ^ j.toNatClampNeg), Int.natCast_add (2 ^ t * (2 * k + 1)), Int.natCast_mul 2147483648, Int.natCast_pow, Int.zero_add]
        rfl
theorem W_lowE {R s n : Int32} {f : Nat → Int32} {v : Int} (h : bO R s n f v) (hv : v ≠ 0) : ∃ t k : Nat, (F_Big_lowestOne R s n f).toInt = (t : Int) ∧ t ≤ 6820 ∧ v.natAbs = 2 ^ t * (2 * k + 1) := by
  have hs := h.pos.mpr hv
  have hf := h.fit
  unfold F_Big_lowestOne
  obtain ⟨t, k, b1, b2, b3⟩ := v_l1E (R := R) (n := n) h.1 hs h.fit ((220 - (0 : Int32).toInt).toNat + 1) 0 (by decide) hs (by rw [show (0 : Int32).toInt = 0 from rfl]; omega) (fun i hi => by have : (0 : Int32).toInt = 0 := rfl; omega)
  refine ⟨t, k, b1, b2, ?_⟩
  rw [h.abs] at b3
  exact Int.ofNat_inj.mp b3
theorem v_dvT {x t k : Nat} : (2 ^ t * (2 * k + 1)) % 2 ^ x = 0 ↔ x ≤ t := by
  constructor
  · intro h
    apply Classical.byContradiction
    intro h1
    obtain ⟨d, hd⟩ : ∃ d, x = t + (d + 1) := ⟨x - t - 1, by omega⟩
    rw [hd, Nat.pow_add, Nat.mul_mod_mul_left, Nat.pow_succ'] at h
    have hp : 0 < 2 ^ t := Nat.pow_pos (by decide)
    have h2 : (2 * k + 1) % (2 * 2 ^ d) = 0 := by
      rcases Nat.mul_eq_zero.mp h with h3 | h3
      · omega
      · exact h3
    have h4 := Nat.div_add_mod (2 * k + 1) (2 * 2 ^ d)
    rw [h2, Nat.mul_assoc] at h4
    omega
  · intro h
    obtain ⟨d, hd⟩ : ∃ d, t = x + d := ⟨t - x, by omega⟩
    rw [hd, Nat.pow_add, Nat.mul_assoc, Nat.mul_mod_right]
theorem v_shLf {R : Int32} {x2 : Int32} {t0_0 : Int32} {t0_1 : Int32} {t1_0 : (Nat → Int32)} {lx21 : Int32} {a40 : Int32} {a34 : Int32} {a31 : Int32} (ht : a40.toInt ≤ 220) : ∀ (n : Nat) (lx44 : Int32) (lx45 : (Nat → Int32)), 0 ≤ lx44.toInt → lx44.toInt ≤ 220 → 220 - lx44.toInt < (n : Int) → (F_Big_shiftRight_L53 R x2 t0_0 t0_1 t1_0 lx21 a40 a34 a31 n lx44 lx45).1 = lx21 := by
  intro n
  induction n with
  | zero => intros; omega
  | succ n ih =>
    intro lx44 lx45 h1 h2 h3
    rw [F_Big_shiftRight_L53.eq_2]
    by_cases h4 : a40 ≤ lx44
    · simp only [if_pos h4]
    · rw [if_neg h4]
      have h5 := q_nleI h4
      have ej : (lx44 + 1 : Int32).toInt = lx44.toInt + 1 := q_addI rfl v_e1 (by omega) (by omega)
      exact ih _ _ (by omega) (by omega) (by omega)
theorem W_shrL {R x s neg : Int32} {f : Nat → Int32} {v : Int} (h : bO R s neg f v) : (F_Big_shiftRight R x s neg f).1 = if v.natAbs % 2 ^ x.toNatClampNeg = 0 then 0 else 1 := by
  have e0 : (0 : Int32).toInt = 0 := rfl
  unfold F_Big_shiftRight
  by_cases hx : x ≤ 0
  · have := q_leI hx
    simp only [if_pos hx]
    rw [v_cn, show x.toInt.toNat = 0 by omega, Nat.pow_zero, Nat.mod_one, if_pos rfl]
  rw [if_neg hx]
  have hx2 := q_nleI hx
  by_cases hs : s = 0
  · simp only [if_pos hs]
    rw [h.nil.mp hs, Int.natAbs_zero, Nat.zero_mod, if_pos rfl]
  rw [if_neg hs]
  have hv : v ≠ 0 := fun e => hs (h.nil.mpr e)
  obtain ⟨t, k, t1, t2, t3⟩ := W_lowE h hv
  have J : ∀ l : Int32, (F_Big_shiftRight_J26 R x s neg f l).1 = l := fun l => by
    unfold F_Big_shiftRight_J26
    refine v_shLf ?_ _ _ _ (by decide) (by decide) (by decide)
    have hf := h.fit
    have d := q_divI (a := x) (b := 31) (y := 31) rfl rfl (by omega) (by decide)
    have h0 := h.s0
    have hX := Int32.toInt_lt x
    have sb := q_subI (a := s) (b := x / 31) rfl d (by omega) (by omega)
    split
    · rw [sb]
      omega
    · rw [e0]
      omega
  rw [t3]
  by_cases hl : x ≤ F_Big_lowestOne R s neg f
  · have := q_leI hl
    rw [if_pos hl, J, if_pos (v_dvT.mpr (by rw [v_cn]; omega))]
  · have := q_nleI hl
    rw [if_neg hl, J, if_neg (fun h9 => by have h8 := v_dvT.mp h9; rw [v_cn] at h8; omega)]
/-- to the right, with its sign -/
theorem W_shrV {R x s neg : Int32} {f : Nat → Int32} {v : Int} (h : bO R s neg f v) : bO R (F_Big_shiftRight R x s neg f).2.1 (F_Big_shiftRight R x s neg f).2.2.1 (F_Big_shiftRight R x s neg f).2.2.2 (v.tdiv (2 ^ x.toNatClampNeg)) := by
  have e0 : (0 : Int32).toInt = 0 := rfl
  by_cases hx : x.toInt ≤ 0
  · unfold F_Big_shiftRight
    rw [if_pos (Int32.le_iff_toInt_le.mpr (by rw [e0]; exact hx)), v_cn, show x.toInt.toNat = 0 by omega, Int.pow_zero, Int.tdiv_one]
    exact h
  · by_cases hs : s = 0
    · unfold F_Big_shiftRight
      rw [if_neg (fun hh => by have := q_leI hh; omega), if_pos hs, h.nil.mp hs, Int.zero_tdiv]
      have h9 := h
      rw [h.nil.mp hs] at h9
      exact h9
    · have hs2 : 0 < s.toInt := by
        have h1 : s.toInt ≠ (0 : Int32).toInt := fun h9 => hs (Int32.toInt_inj.mp h9)
        have h2 := h.s0
        omega
      have hx2 : 0 < x.toInt := by omega
      obtain ⟨lost, z, g, c1, c2, c3, c4⟩ := V_shrB (R := R) (x := x) (neg := neg) h.1 hx2 hs2 h.fit
      rw [c1]
      have hR := h.2.2.2.1
      refine bO.mkI c3 h.sg ?_ (by show z.toInt ≤ _; omega) h.2.2.2.2
      have e2 : ((2 : Int) ^ x.toNatClampNeg) = ((2 ^ x.toNatClampNeg : Nat) : Int) := by rw [Int.natCast_pow]; rfl
      rcases h.sgn with ⟨n0, v0⟩ | ⟨n1, v1⟩
      · rw [n0, bS_0, c4, h.abs, Int.natAbs_of_nonneg v0, Int.tdiv_eq_ediv_of_nonneg v0]
      · rw [n1, bS_1, c4, h.abs, e2, show v = -((v.natAbs : Nat) : Int) by omega, Int.neg_tdiv, Int.natAbs_neg, Int.natAbs_natCast]
        rfl
/-- by powers of 2, down to the next integer that is not greater -/
def sShf (v x : Int) : Int := if 0 ≤ x then v * 2 ^ x.toNat else v / 2 ^ (-x).toNat
theorem v_flr {v P : Int} (hP : 0 < P) : v / P = if v.tmod P = 0 ∨ 0 ≤ v then v.tdiv P else v.tdiv P - 1 := by
  have h := Int.tmod_add_mul_tdiv v P
  have h1 : (v.tmod P).natAbs < P.natAbs := v_tmU (by omega)
  by_cases hv : 0 ≤ v
  · rw [if_pos (Or.inr hv)]
    exact (Int.tdiv_eq_ediv_of_nonneg hv).symm
  · have h2 : v.tmod P ≤ 0 := by
      have h3 := Int.tmod_nonneg P (a := -v) (by omega)
      rw [Int.neg_tmod] at h3
      omega
    by_cases h0 : v.tmod P = 0
    · rw [if_pos (Or.inl h0)]
      exact ((Int.ediv_emod_unique (r := 0) hP).mpr ⟨by omega, by omega, by omega⟩).1
    · rw [if_neg (by omega)]
      exact ((Int.ediv_emod_unique (r := v.tmod P + P) hP).mpr ⟨by rw [Int.mul_sub, Int.mul_one]; omega, by omega, by omega⟩).1
theorem V_shiftedJ {R : Int32} {x3 : Int32} {t0_0 : Int32} {t0_1 : Int32} {t1_0 : (Nat → Int32)} {t2_0 : Int32} {t2_1 : Int32} {t3_0 : (Nat → Int32)} {t4_0 : Int32} {t4_1 : Int32} {t5_0 : (Nat → Int32)} {p40 : (Int32 × Int32 × (Nat → Int32))} {y29 : Int32} {y30 : Int32} {f31 : (Nat → Int32)} {lx52 : Int32} {v : Int} {M : Nat} (h : bO 220 y29 y30 f31 v) (hn : t4_1 = 0 ↔ 0 ≤ v) (hM : bB M v) (hM2 : M + 1 ≤ 219) : (F_Mil_shifted_J53 R x3 t0_0 t0_1 t1_0 t2_0 t2_1 t3_0 t4_0 t4_1 t5_0 p40 y29 y30 f31 lx52).1 = 1 ∧ bO 220 (F_Mil_shifted_J53 R x3 t0_0 t0_1 t1_0 t2_0 t2_1 t3_0 t4_0 t4_1 t5_0 p40 y29 y30 f31 lx52).2.1 (F_Mil_shifted_J53 R x3 t0_0 t0_1 t1_0 t2_0 t2_1 t3_0 t4_0 t4_1 t5_0 p40 y29 y30 f31 lx52).2.2.1 (F_Mil_shifted_J53 R x3 t0_0 t0_1 t1_0 t2_0 t2_1 t3_0 t4_0 t4_1 t5_0 p40 y29 y30 f31 lx52).2.2.2.1 (v / 2 ^ lx52.toNatClampNeg) := by
  have e := e220
  unfold F_Mil_shifted_J53
  have hL := W_shrL (x := lx52) h
  have hV := W_shrV (x := lx52) h
  have hp : (0 : Int) < 2 ^ lx52.toNatClampNeg := Int.pow_pos (by decide)
  have hf := v_flr (v := v) hp
  have hz : v.natAbs % 2 ^ lx52.toNatClampNeg = 0 ↔ v.tmod (2 ^ lx52.toNatClampNeg) = 0 := by
    rw [← Int.natAbs_eq_zero, Int.natAbs_tmod, Int.natAbs_pow]
    exact Iff.rfl
  have hB : bB M (v.tdiv (2 ^ lx52.toNatClampNeg)) := hM.tdiv
  generalize F_Big_shiftRight 220 lx52 y29 y30 f31 = p84 at hL hV ⊢
  unfold F_Mil_shifted_c59
  have s1 := hV.sB hB
  by_cases h1 : p84.1 = 0
  · rw [if_pos h1]
    rw [h1] at hL
    have h2 : v.natAbs % 2 ^ lx52.toNatClampNeg = 0 := Classical.byContradiction fun h9 => by
      rw [if_neg h9] at hL
      exact absurd hL (by decide)
    rw [hf, if_pos (Or.inl (hz.mp h2))]
    exact ⟨rfl, hV⟩
  · rw [if_neg h1]
    have h2 : ¬ v.natAbs % 2 ^ lx52.toNatClampNeg = 0 := fun h9 => by
      rw [if_pos h9] at hL
      exact h1 hL
    by_cases h3 : t4_1 = 0
    · rw [if_pos h3, hf, if_pos (Or.inr (hn.mp h3))]
      exact ⟨rfl, hV⟩
    · rw [if_neg h3, hf, if_neg (fun h9 => by rcases h9 with h9 | h9; exact h2 (hz.mpr h9); exact h3 (hn.mpr h9))]
      have h79 : P1 220 (-1) (F_Big_setLong (220 : Int32) (-1 : Int64) t2_0 t2_1 t3_0) := W_setLong (x := -1) (by decide) (by decide)
      generalize (F_Big_setLong (220 : Int32) (-1 : Int64) t2_0 t2_1 t3_0) = p115 at h79 ⊢
      unfold F_Mil_shifted_c79
      have s2 := h79.sB (M := 1) (by show 1 < 2147483648 ^ 1; decide)
      have h91 := W_add (x := 0) hV h79 (Or.inl rfl) (by omega) (by omega)
      exact ⟨rfl, h91⟩
theorem V_shifted {R : Int32} {x3 : Int32} {t0_0 : Int32} {t0_1 : Int32} {t1_0 : (Nat → Int32)} {t2_0 : Int32} {t2_1 : Int32} {t3_0 : (Nat → Int32)} {t4_0 : Int32} {t4_1 : Int32} {t5_0 : (Nat → Int32)} {v : Int} {M : Nat} (h : bO R t4_0 t4_1 t5_0 v) (hM : bB M v) (hM2 : M + 67 ≤ 219) : ((F_Mil_shifted R x3 t0_0 t0_1 t1_0 t2_0 t2_1 t3_0 t4_0 t4_1 t5_0).1 = 0 ∧ v ≠ 0 ∧ 2048 < x3.toInt) ∨ ((F_Mil_shifted R x3 t0_0 t0_1 t1_0 t2_0 t2_1 t3_0 t4_0 t4_1 t5_0).1 = 1 ∧ (v = 0 ∨ x3.toInt ≤ 2048) ∧ bO 220 (F_Mil_shifted R x3 t0_0 t0_1 t1_0 t2_0 t2_1 t3_0 t4_0 t4_1 t5_0).2.1 (F_Mil_shifted R x3 t0_0 t0_1 t1_0 t2_0 t2_1 t3_0 t4_0 t4_1 t5_0).2.2.1 (F_Mil_shifted R x3 t0_0 t0_1 t1_0 t2_0 t2_1 t3_0 t4_0 t4_1 t5_0).2.2.2.1 (sShf v (if x3.toInt < -2048 then -2048 else x3.toInt))) := by
  have e := e220
  have e2 := e2048
  have e0 : (0 : Int32).toInt = 0 := rfl
  unfold F_Mil_shifted
  have hss := W_copyS (R := 220) (s := t0_0) (neg := t0_1) (f := t1_0) h h.fit
  have h1 : P1 220 v (F_Big_copy (220 : Int32) R t0_0 t0_1 t1_0 t4_0 t4_1 t5_0) := W_copy h h.fit (by decide)
  generalize F_Big_copy (220 : Int32) R t0_0 t0_1 t1_0 t4_0 t4_1 t5_0 = p40 at h1 hss ⊢
  have s1 := h1.sB hM
  have hn : t4_1 = 0 ↔ 0 ≤ v := by
    rcases h.sgn with ⟨a, b⟩ | ⟨a, b⟩
    · exact ⟨fun _ => b, fun _ => a⟩
    · exact ⟨fun h9 => by rw [h9] at a; exact absurd a (by decide), fun h9 => by omega⟩
  have hx1 := Int32.le_toInt x3
  unfold F_Mil_shifted_c5
  by_cases hx : x3 < 0
  · rw [if_pos hx]
    have hx2 := q_ltI hx
    by_cases hy : -2048 ≤ x3
    · rw [if_pos hy]
      have hy2 : -2048 ≤ x3.toInt := q_leI hy
      have J := V_shiftedJ (R := R) (x3 := x3) (t0_0 := t0_0) (t0_1 := t0_1) (t1_0 := t1_0) (t2_0 := t2_0) (t2_1 := t2_1) (t3_0 := t3_0) (t4_0 := t4_0) (t5_0 := t5_0) (p40 := p40) (lx52 := -x3) h1 hn hM (by omega)
      have ex : (-x3 : Int32).toNatClampNeg = (-x3.toInt).toNat := by
        rw [v_cn, q_negI rfl (by omega)]
      refine Or.inr ⟨J.1, Or.inr (by omega), ?_⟩
      rw [if_neg (by omega), sShf, if_neg (by omega), ← ex]
      exact J.2
    · rw [if_neg hy]
      have hy2 : x3.toInt < -2048 := q_nleI hy
      have J := V_shiftedJ (R := R) (x3 := x3) (t0_0 := t0_0) (t0_1 := t0_1) (t1_0 := t1_0) (t2_0 := t2_0) (t2_1 := t2_1) (t3_0 := t3_0) (t4_0 := t4_0) (t5_0 := t5_0) (p40 := p40) (lx52 := 2048) h1 hn hM (by omega)
      refine Or.inr ⟨J.1, Or.inr (by omega), ?_⟩
      rw [if_pos hy2]
      exact J.2
  · rw [if_neg hx]
    have hx2 := q_nltI hx
    have ex : sShf v (if x3.toInt < -2048 then -2048 else x3.toInt) = v * 2 ^ x3.toNatClampNeg := by
      rw [if_neg (by omega), sShf, if_pos (by omega), v_cn]
    by_cases hy : t4_0 ≤ 0
    · rw [if_pos hy]
      have hy2 := q_leI hy
      refine Or.inr ⟨rfl, Or.inl (v_sz0 h hy), ?_⟩
      rw [ex]
      exact W_shl h1 (fun h5 => by rw [hss.1] at h5; omega)
    · rw [if_neg hy]
      have hv0 := h.pos.mp (v_nle0 hy)
      by_cases hz : x3 ≤ 2048
      · rw [if_pos hz]
        have hz2 := q_leI hz
        refine Or.inr ⟨rfl, Or.inr (by omega), ?_⟩
        rw [ex]
        exact W_shl h1 (fun h5 h6 => by omega)
      · rw [if_neg hz]
        have hz2 := q_nleI hz
        exact Or.inl ⟨rfl, hv0, by omega⟩
