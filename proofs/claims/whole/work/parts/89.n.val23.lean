/-! values: a Big of its room with its value -/
def bO (R s n : Int32) (f : Nat → Int32) (v : Int) : Prop := bN s f ∧ bG n s ∧ bS n s f = v ∧ s.toInt ≤ R.toInt ∧ R.toInt ≤ 220
theorem bO.abs {R s n : Int32} {f : Nat → Int32} {v : Int} (h : bO R s n f v) : bV s f = (v.natAbs : Int) := by
  obtain ⟨h1, h2, h3, _⟩ := h
  have h4 := h1.nn
  rcases h2 with rfl | ⟨rfl, _⟩
  · rw [bS_0] at h3
    omega
  · rw [bS_1] at h3
    omega
theorem bO.sgn {R s n : Int32} {f : Nat → Int32} {v : Int} (h : bO R s n f v) : (n = 0 ∧ 0 ≤ v) ∨ (n = 1 ∧ v < 0) := by
  obtain ⟨h1, h2, h3, _⟩ := h
  have h4 := h1.nn
  have h5 := h1.pos
  rcases h2 with rfl | ⟨rfl, h6⟩
  · rw [bS_0] at h3
    exact Or.inl ⟨rfl, by omega⟩
  · rw [bS_1] at h3
    exact Or.inr ⟨rfl, by omega⟩
theorem bO.pos {R s n : Int32} {f : Nat → Int32} {v : Int} (h : bO R s n f v) : 0 < s.toInt ↔ v ≠ 0 := by
  have h1 := h.abs
  have h2 := h.1.pos
  omega
theorem bO.s0 {R s n : Int32} {f : Nat → Int32} {v : Int} (h : bO R s n f v) : 0 ≤ s.toInt := h.1.1
theorem bO.nil {R s n : Int32} {f : Nat → Int32} {v : Int} (h : bO R s n f v) : s = 0 ↔ v = 0 := by
  have h1 := h.pos
  have h2 := h.1.1
  have e0 : (0 : Int32).toInt = 0 := rfl
  constructor
  · intro h3
    rw [h3] at h1
    omega
  · intro h3
    apply Int32.toInt_inj.mp
    omega
theorem bO.sz {R s n : Int32} {f : Nat → Int32} {v : Int} {M : Nat} (h : bO R s n f v) (hv : v.natAbs < 2147483648 ^ M) : s.toInt ≤ (M : Int) := by
  apply h.1.sz
  rw [h.abs]
  have := Int.ofNat_lt.mpr hv
  rw [Int.natCast_pow] at this
  exact this
theorem bO.lt {R s n : Int32} {f : Nat → Int32} {v : Int} {M : Nat} (h : bO R s n f v) (hs : s.toInt ≤ (M : Int)) : v.natAbs < 2147483648 ^ M := by
  have h1 := h.1.lt
  have h2 := h.1.1
  have es := q_clI (i := s) rfl h2
  rw [h.abs] at h1
  have h3 : v.natAbs < 2147483648 ^ s.toNatClampNeg := by
    apply Int.ofNat_lt.mp
    rw [Int.natCast_pow]
    exact h1
  exact Nat.lt_of_lt_of_le h3 (Nat.pow_le_pow_right (by decide) (by omega))
theorem bO.mk0 {R s : Int32} {f : Nat → Int32} (h : bN s f) (hs : s.toInt ≤ R.toInt) (hR : R.toInt ≤ 220) : bO R s 0 f (bV s f) := ⟨h, Or.inl rfl, bS_0, hs, hR⟩
theorem bO.mkI {R s n : Int32} {f : Nat → Int32} {v : Int} (h : bN s f) (hn : n = 0 ∨ n = 1) (hv : bS n s f = v) (hs : s.toInt ≤ R.toInt) (hR : R.toInt ≤ 220) : bO R s (if n = 0 then 0 else if s ≤ 0 then 0 else 1) f v := ⟨h, bG_if, by rw [bS_if h hn]; exact hv, hs, hR⟩
theorem bO.sg {R s n : Int32} {f : Nat → Int32} {v : Int} (h : bO R s n f v) : n = 0 ∨ n = 1 := h.2.1.imp id (fun h => h.1)
theorem bO.to {R R2 s n : Int32} {f : Nat → Int32} {v : Int} (h : bO R s n f v) (hs : s.toInt ≤ R2.toInt) (hR : R2.toInt ≤ 220) : bO R2 s n f v := ⟨h.1, h.2.1, h.2.2.1, hs, hR⟩
theorem bO.abs0 {R s n : Int32} {f : Nat → Int32} {v : Int} (h : bO R s n f v) : bO R s 0 f (v.natAbs : Int) := ⟨h.1, Or.inl rfl, by rw [bS_0, h.abs], h.2.2.2.1, h.2.2.2.2⟩
/-- bounds of values -/
def bB (M : Nat) (v : Int) : Prop := v.natAbs < 2147483648 ^ M
theorem bB.mono {M N : Nat} {v : Int} (h : bB M v) (hM : M ≤ N) : bB N v := Nat.lt_of_lt_of_le h (Nat.pow_le_pow_right (by decide) hM)
theorem bB.le {M : Nat} {u v : Int} (h : bB M v) (hu : u.natAbs ≤ v.natAbs) : bB M u := Nat.lt_of_le_of_lt hu h
theorem bB.add {M : Nat} {u v : Int} (h : bB M u) (h2 : bB M v) : bB (M + 1) (u + v) := by
  unfold bB at *
  rw [Nat.pow_succ]
  omega
theorem bB.sub {M : Nat} {u v : Int} (h : bB M u) (h2 : bB M v) : bB (M + 1) (u - v) := by
  unfold bB at *
  rw [Nat.pow_succ]
  omega
theorem bB.mul {M N : Nat} {u v : Int} (h : bB M u) (h2 : bB N v) : bB (M + N) (u * v) := by
  unfold bB at *
  rw [Int.natAbs_mul, Nat.pow_add]
  exact Nat.mul_lt_mul'' h h2
theorem bB.tmod {M : Nat} {u v : Int} (h : bB M v) (hv : v ≠ 0) : bB M (u.tmod v) := by
  unfold bB at *
  rw [Int.natAbs_tmod]
  have := Nat.mod_lt u.natAbs (y := v.natAbs) (by omega)
  omega
theorem bB.tmodU {M : Nat} {u v : Int} (h : bB M u) : bB M (u.tmod v) := by
  unfold bB at *
  rw [Int.natAbs_tmod]
  have := Nat.mod_le u.natAbs v.natAbs
  omega
theorem bB.ndiv {M : Nat} {u v : Int} (h : bB M u) : bB M ((u.natAbs / v.natAbs : Nat) : Int) := by
  unfold bB at *
  rw [Int.natAbs_natCast]
  exact Nat.lt_of_le_of_lt (Nat.div_le_self u.natAbs v.natAbs) h
theorem bB.tdiv {M : Nat} {u v : Int} (h : bB M u) : bB M (u.tdiv v) := by
  unfold bB at *
  rw [Int.natAbs_tdiv]
  exact Nat.lt_of_le_of_lt (Nat.div_le_self u.natAbs v.natAbs) h
theorem bB.neg {M : Nat} {u : Int} (h : bB M u) : bB M (-u) := by
  unfold bB at *
  rw [Int.natAbs_neg]
  exact h
theorem bO.sB {R s n : Int32} {f : Nat → Int32} {v : Int} {M : Nat} (h : bO R s n f v) (hv : bB M v) : s.toInt ≤ (M : Int) := h.sz hv
theorem bO.B {R s n : Int32} {f : Nat → Int32} {v : Int} {M : Nat} (h : bO R s n f v) (hs : s.toInt ≤ (M : Int)) : bB M v := h.lt hs
/-- the methods of Big over such numbers -/
theorem W_copy {R R2 s neg s2 neg2 : Int32} {f g : Nat → Int32} {v : Int} (h : bO R2 s2 neg2 g v) (hs : s2.toInt ≤ R.toInt) (hR : R.toInt ≤ 220) : bO R (F_Big_copy R R2 s neg f s2 neg2 g).1 (F_Big_copy R R2 s neg f s2 neg2 g).2.1 (F_Big_copy R R2 s neg f s2 neg2 g).2.2 v := by
  obtain ⟨k, c1, c2, c3, c4⟩ := V_copy (R := R) (R2 := R2) (s := s) (neg := neg) (neg2 := neg2) (f := f) h.1 hs
  rw [c1]
  refine ⟨c2, h.2.1, ?_, hs, hR⟩
  have := h.2.2.1
  unfold bS at this ⊢
  dsimp only
  rw [c3]
  exact this
theorem W_copyS {R R2 s neg s2 neg2 : Int32} {f g : Nat → Int32} {v : Int} (h : bO R2 s2 neg2 g v) (hs : s2.toInt ≤ R.toInt) : (F_Big_copy R R2 s neg f s2 neg2 g).1 = s2 ∧ (F_Big_copy R R2 s neg f s2 neg2 g).2.1 = neg2 := by
  obtain ⟨k, c1, c2, c3, c4⟩ := V_copy (R := R) (R2 := R2) (s := s) (neg := neg) (neg2 := neg2) (f := f) h.1 hs
  rw [c1]
  exact ⟨rfl, rfl⟩
theorem W_clear {R R2 s n : Int32} {f : Nat → Int32} (hR : 0 ≤ R.toInt) (hR2 : R.toInt ≤ 220) : bO R (F_Big_clear R2 s n).1 (F_Big_clear R2 s n).2 f 0 := by
  show bO R 0 0 f 0
  exact ⟨bN0.1, Or.inl rfl, by rw [bS_0]; exact bN0.2, hR, hR2⟩
theorem W_setLong {R s neg : Int32} {x : Int64} {f : Nat → Int32} (hR : 3 ≤ R.toInt) (hR2 : R.toInt ≤ 220) : bO R (F_Big_setLong R x s neg f).1 (F_Big_setLong R x s neg f).2.1 (F_Big_setLong R x s neg f).2.2 x.toInt := by
  obtain ⟨z, k, c1, c2, c3, c4⟩ := V_setLong (R := R) (s := s) (neg := neg) (x := x) (f := f) hR
  rw [c1]
  have e0 : (0 : Int64).toInt = 0 := rfl
  by_cases hx : x < 0
  · have hx2 := Int64.lt_iff_toInt_lt.mp hx
    rw [e0] at hx2
    have p := c3.pos
    refine ⟨c3, Or.inr ⟨if_pos hx, show 0 < z.toInt by omega⟩, ?_, show z.toInt ≤ _ by omega, hR2⟩
    show bS (if x < 0 then 1 else 0) z k = _
    rw [if_pos hx, bS_1]
    omega
  · have hx2 : ¬ x.toInt < 0 := fun h => hx (Int64.lt_iff_toInt_lt.mpr (by rw [e0]; exact h))
    refine ⟨c3, Or.inl (if_neg hx), ?_, show z.toInt ≤ _ by omega, hR2⟩
    show bS (if x < 0 then 1 else 0) z k = _
    rw [if_neg hx, bS_0]
    omega
theorem W_product {R R2 R3 s0 n0 sa na sb nb : Int32} {g0 ga gb : Nat → Int32} {va vb : Int} (ha : bO R2 sa na ga va) (hb : bO R3 sb nb gb vb) (hR : R.toInt ≤ 220) (hf : sa.toInt + sb.toInt ≤ R.toInt) :
    bO R (F_Big_product R R2 R3 s0 n0 g0 sa na ga sb nb gb).1 (F_Big_product R R2 R3 s0 n0 g0 sa na ga sb nb gb).2.1 (F_Big_product R R2 R3 s0 n0 g0 sa na ga sb nb gb).2.2 (va * vb) := by
  obtain ⟨z, k, c1, c2, c3, c4⟩ := V_prodN (R := R) (R2 := R2) (R3 := R3) (s0 := s0) (n0 := n0) (na := na) (nb := nb) (g0 := g0) ha.1 hb.1 hR hf
  rw [c1]
  have e0 : (0 : Int32).toInt = 0 := rfl
  have h1 := ha.abs
  have h2 := hb.abs
  have p := c3.pos
  rw [h1, h2] at c4
  have hz : z.toInt ≤ R.toInt := by omega
  have key : ∀ w : Int32, bG w z → bS w z k = va * vb → bO R z w k (va * vb) := fun w w1 w2 => ⟨c3, w1, w2, hz, hR⟩
  apply key
  · by_cases hh : na = nb
    · exact Or.inl (if_pos hh)
    · by_cases h9 : z ≤ 0
      · refine Or.inl ?_
        rw [if_neg hh, if_pos h9]
      · refine Or.inr ⟨?_, ?_⟩
        · rw [if_neg hh, if_neg h9]
        · apply Int.not_le.mp
          intro h10
          exact h9 (Int32.le_iff_toInt_le.mpr h10)
  · have n1 : bV z k = ((va * vb).natAbs : Int) := by
      rw [c4, Int.natAbs_mul, Int.natCast_mul]
    by_cases hh : na = nb
    · rw [if_pos hh, bS_0, n1]
      apply Int.natAbs_of_nonneg
      rcases ha.sgn with ⟨a1, a2⟩ | ⟨a1, a2⟩ <;> rcases hb.sgn with ⟨b1, b2⟩ | ⟨b1, b2⟩
      · exact Int.mul_nonneg a2 b2
      · rw [a1, b1] at hh
        exact absurd hh (by decide)
      · rw [a1, b1] at hh
        exact absurd hh (by decide)
      · exact Int.le_of_lt (Int.mul_pos_of_neg_of_neg a2 b2)
    · rw [if_neg hh]
      have n2 : va * vb ≤ 0 := by
        rcases ha.sgn with ⟨a1, a2⟩ | ⟨a1, a2⟩ <;> rcases hb.sgn with ⟨b1, b2⟩ | ⟨b1, b2⟩
        · exact absurd (a1.trans b1.symm) hh
        · exact Int.mul_nonpos_of_nonneg_of_nonpos a2 (by omega)
        · exact Int.mul_nonpos_of_nonpos_of_nonneg (by omega) b2
        · exact absurd (a1.trans b1.symm) hh
      by_cases h9 : z ≤ 0
      · have := q_leI h9
        have z0 := c3.1
        have nn := c3.nn
        rw [if_pos h9, bS_0]
        omega
      · rw [if_neg h9, bS_1]
        omega
theorem v_tm {a b : Int} (h : 0 ≤ a) : a.tmod b = a % ((b.natAbs : Nat) : Int) := by
  rw [Int.tmod_eq_emod_of_nonneg h]
  rcases Int.natAbs_eq b with e | e
  · rw [← e]
  · generalize b.natAbs = k at e
    subst e
    exact Int.emod_neg _ _
/-- division: it may be done, and what comes out -/
theorem v_sL {R R2 R3 t0_0 t0_1 t2_0 t2_1 t4_0 t4_1 a114 a66 y124 y125 y76 y77 y30 y31 : Int32} {t1_0 t3_0 t5_0 f78 : Nat → Int32} (ha : 0 ≤ a114.toInt) (hR : 0 ≤ R3.toInt) :
    ∀ (n : Nat) (j : Int32) (f g : Nat → Int32), -1 ≤ j.toInt → j.toInt + 1 < (n : Int) → S_Big_divideBy_L92 R R2 R3 t0_0 t0_1 t1_0 t2_0 t2_1 t3_0 t4_0 t4_1 t5_0 a114 a66 y124 y125 y76 y77 f78 y30 y31 n j f g := by
  have e0 : (0 : Int32).toInt = 0 := rfl
  intro n
  induction n with
  | zero => intro j f g h1 h2; omega
  | succ n ih =>
    intro j f g h1 h2
    show ite _ _ _
    by_cases hj : j < 0
    · rw [if_pos hj]
      refine ⟨?_, trivial⟩
      split
      · exact hR
      · exact ha
    · rw [if_neg hj]
      have hj2 : 0 ≤ j.toInt := by
        apply Int.not_lt.mp
        intro h
        exact hj (Int32.lt_iff_toInt_lt.mpr h)
      have jt := Int32.toInt_lt j
      have ej : (j + (-1) : Int32).toInt = j.toInt + (-1) := q_addI (y := -1) rfl (by decide) (by omega) (by omega)
      split
      · exact ih _ _ _ (by rw [ej]; omega) (by rw [ej]; omega)
      · exact ih _ _ _ (by rw [ej]; omega) (by rw [ej]; omega)
theorem V_divS {R R2 R3 sa na sb nb sq nq : Int32} {fa fb fq : Nat → Int32} (ha : bN sa fa) (hb : bN sb fb) (hna : na = 0 ∨ na = 1 ∧ 0 < sa.toInt) (hnb : nb = 0 ∨ nb = 1) (hR : R.toInt ≤ 220) (hR2 : R2.toInt ≤ 220) (hsbR : sb.toInt ≤ R2.toInt) (hsaR : sa.toInt + 2 ≤ R.toInt) (hR3 : sa.toInt + 1 ≤ R3.toInt) :
    S_Big_divideBy R R2 R3 sa na fa sb nb fb sq nq fq := by
  have e0 : (0 : Int32).toInt = 0 := rfl
  have ea := q_clI (i := sa) rfl ha.1
  have eb := q_clI (i := sb) rfl hb.1
  have anon := ha.nn
  have cm := V_cmp (R := R) (R2 := R2) (neg := na) (neg2 := nb) ha hb
  have hna' : na = 0 ∨ na = 1 := hna.imp id (fun h => h.1)
  unfold S_Big_divideBy
  by_cases h0 : sb = 0
  · rw [if_pos h0]
    trivial
  rw [if_neg h0]
  have hsb : 0 < sb.toInt := by
    have h1 : sb.toInt ≠ (0 : Int32).toInt := fun h9 => h0 (Int32.toInt_inj.mp h9)
    have h2 := hb.1
    omega
  have bp := hb.pos.mp hsb
  by_cases hc : (0 : Int32) ≤ F_Big_compareSize R R2 sa na fa sb nb fb
  · rw [if_pos hc]
    have hc2 := q_leI hc
    have hAB : bV sb fb ≤ bV sa fa := by omega
    have hszl := hb.szL ha hAB
    clear cm hc hc2
    by_cases h1 : sb = 1
    · rw [if_pos h1]
      trivial
    rw [if_neg h1]
    have h2 : 2 ≤ sb.toInt := by
      have : sb.toInt ≠ (1 : Int32).toInt := fun h9 => h1 (Int32.toInt_inj.mp h9)
      have e1 : (1 : Int32).toInt = 1 := rfl
      omega
    have k1 : (sb - 1 : Int32).toInt = sb.toInt - 1 := q_subI (y := 1) rfl rfl (by omega) (by omega)
    have k2 := q_clI (i := sb - 1) k1 (by omega)
    rw [show (sb - 1 : Int32).toNatClampNeg = sb.toNatClampNeg - 1 by omega]
    have tl : 0 < (fb (sb.toNatClampNeg - 1)).toInt := by
      have h9 := hb.2.1 (sb.toNatClampNeg - 1) (by omega)
      have h10 : (fb (sb.toNatClampNeg - 1)).toInt ≠ 0 := fun h => hb.2.2 hsb (Int32.toInt_inj.mp h)
      omega
    obtain ⟨b, b1, b2, b3, b4, b5⟩ := v_bits tl
    have k3 : (31 - F_Big_bitsOf (fb (sb.toNatClampNeg - 1)) : Int32).toInt = ((31 - b : Nat) : Int) := by
      have := q_subI (a := 31) (x := 31) (y := (b : Int)) rfl b3 (by omega) (by omega)
      rw [this]
      omega
    obtain ⟨sh, esh⟩ := q_nm (31 - F_Big_bitsOf (fb (sb.toNatClampNeg - 1)) : Int32)
    rw [esh] at k3 ⊢
    obtain ⟨gd, d1, d2, d3, d4⟩ := V_shlD (R := R2) (neg := nb) hb hsb hsbR hR2 b1 b2 k3 b4 b5 hnb
    have K0 := v_p2 (31 - b)
    have sa0 : 0 < sa.toInt := by omega
    have sh1 : ∃ (z1 : Int32) (g1 : Nat → Int32), F_Big_shiftLeft R sh sa na fa = (z1, na, g1) ∧ z1.toInt ≤ sa.toInt + 1 ∧ bN z1 g1 ∧ bV z1 g1 = bV sa fa * 2 ^ (31 - b) := by
      by_cases hb31 : b = 31
      · subst hb31
        refine ⟨sa, fa, ?_, by omega, ha, ?_⟩
        · unfold F_Big_shiftLeft
          rw [if_pos (Int32.le_iff_toInt_le.mpr (by omega))]
        · rw [show (31 - 31 : Nat) = 0 from rfl, show (2 : Int) ^ 0 = 1 from rfl, Int.mul_one]
      · obtain ⟨z1, g1, r1, r2, r3, r4⟩ := V_shlB (R := R) (x := sh) (neg := na) ha (by omega) sa0 hR (by omega)
        have ex := q_clI (i := sh) rfl (by omega)
        rw [show sh.toNatClampNeg = 31 - b by omega] at r4
        have zp : 0 < z1.toInt := by
          apply r3.pos.mpr
          rw [r4]
          exact Int.mul_pos (by omega) K0
        rw [v_negs hna' zp] at r1
        exact ⟨z1, g1, r1, by omega, r3, r4⟩
    obtain ⟨z1, g1, s1, s2, s3, s4⟩ := sh1
    have z1n := s3.1
    have pu : F_Big_push R 0 z1 na g1 = (z1 + 1, na, upd g1 z1.toNatClampNeg 0) := by
      unfold F_Big_push
      rw [if_neg (fun hh => by have := q_leI hh; omega)]
    rw [d1, s1]
    dsimp only
    rw [pu]
    dsimp only
    have hz1 : sb.toInt ≤ z1.toInt := by
      refine d2.szL s3 ?_
      rw [d3, s4]
      exact v_lmul hAB (Int.le_of_lt K0)
    have p1 : (z1 - sb : Int32).toInt = z1.toInt - sb.toInt := q_subI rfl rfl (by omega) (by omega)
    have p2 : (z1 - sb + 1 : Int32).toInt = z1.toInt - sb.toInt + 1 := q_addI (y := 1) p1 rfl (by omega) (by omega)
    obtain ⟨pl, epl⟩ := q_nm (z1 - sb + 1 : Int32)
    rw [epl] at p2 ⊢
    have p3 : (pl - 1 : Int32).toInt = pl.toInt - 1 := q_subI (y := 1) rfl rfl (by omega) (by omega)
    obtain ⟨pm, epm⟩ := q_nm (pl - 1 : Int32)
    rw [epm] at p3 ⊢
    exact v_sL (by omega) (by omega) _ _ _ _ (by omega) (by omega)
  · rw [if_neg hc]
    trivial
theorem W_divideBy {R R2 R3 sa na sb nb sq nq : Int32} {fa fb fq : Nat → Int32} {va vb : Int} (ha : bO R sa na fa va) (hb : bO R2 sb nb fb vb) (hv : vb ≠ 0) (hs : sa.toInt + 2 ≤ R.toInt) (hs3 : sa.toInt + 1 ≤ R3.toInt) (hR3 : R3.toInt ≤ 220) :
    S_Big_divideBy R R2 R3 sa na fa sb nb fb sq nq fq ∧ bO R (F_Big_divideBy R R2 R3 sa na fa sb nb fb sq nq fq).1 (F_Big_divideBy R R2 R3 sa na fa sb nb fb sq nq fq).2.1 (F_Big_divideBy R R2 R3 sa na fa sb nb fb sq nq fq).2.2.1 (va.tmod vb) ∧ bO R2 (F_Big_divideBy R R2 R3 sa na fa sb nb fb sq nq fq).2.2.2.1 (F_Big_divideBy R R2 R3 sa na fa sb nb fb sq nq fq).2.2.2.2.1 (F_Big_divideBy R R2 R3 sa na fa sb nb fb sq nq fq).2.2.2.2.2.1 vb ∧ bO R3 (F_Big_divideBy R R2 R3 sa na fa sb nb fb sq nq fq).2.2.2.2.2.2.1 (F_Big_divideBy R R2 R3 sa na fa sb nb fb sq nq fq).2.2.2.2.2.2.2.1 (F_Big_divideBy R R2 R3 sa na fa sb nb fb sq nq fq).2.2.2.2.2.2.2.2 ((va.natAbs / vb.natAbs : Nat) : Int) := by
  refine ⟨V_divS ha.1 hb.1 ha.2.1 hb.sg ha.2.2.2.2 hb.2.2.2.2 hb.2.2.2.1 hs hs3, ?_⟩
  have hsb := hb.pos.mpr hv
  obtain ⟨z, zn, sq', g, g2, q, c1, c2, c3, c4, c5, c6, c7, c8⟩ := V_divideBy (R := R) (R2 := R2) (R3 := R3) (sq := sq) (nq := nq) (fq := fq) ha.1 hb.1 ha.2.1 hb.sg hsb ha.2.2.2.2 hb.2.2.2.2 hb.2.2.2.1 hs hs3
  rw [c1]
  dsimp only
  have av := ha.abs
  have bv := hb.abs
  have bp : 0 < bV sb fb := by omega
  rw [av, bv] at c3 c8
  have hzs : z.toInt ≤ sa.toInt := by
    refine c2.szL ha.1 ?_
    rw [c3, av]
    rw [← Int.natCast_emod]
    exact Int.ofNat_le.mpr (Nat.mod_le _ _)
  have hqs : sq'.toInt ≤ sa.toInt := by
    refine c7.szL ha.1 ?_
    rw [c8, av, ← Int.natCast_ediv]
    exact Int.ofNat_le.mpr (Nat.div_le_self _ _)
  refine ⟨?_, ⟨c5, hb.2.1, ?_, hb.2.2.2.1, hb.2.2.2.2⟩, ⟨c7, Or.inl rfl, ?_, by omega, hR3⟩⟩
  · rw [c4]
    refine bO.mkI c2 ha.sg ?_ (by omega) ha.2.2.2.2
    rcases ha.sgn with ⟨n0, v0⟩ | ⟨n1, v1⟩
    · rw [n0, bS_0, c3, v_tm v0]
      congr 1
      omega
    · rw [n1, bS_1, c3]
      have h9 : va = -(va.natAbs : Int) := by omega
      generalize va.natAbs = k at h9 ⊢
      rw [h9, Int.neg_tmod, v_tm (by omega)]
  · have h9 := hb.2.2.1
    unfold bS at h9 ⊢
    rw [c6]
    exact h9
  · rw [bS_0, c8, Int.natCast_ediv]
