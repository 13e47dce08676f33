/-! values: Mill's quotientOrRest, modulo -/
abbrev P1 (R : Int32) (v : Int) (p : Int32 × Int32 × (Nat → Int32)) : Prop := bO R p.1 p.2.1 p.2.2 v
abbrev P2 (R R2 : Int32) (v v2 : Int) (p : Int32 × Int32 × (Nat → Int32) × Int32 × Int32 × (Nat → Int32)) : Prop := bO R p.1 p.2.1 p.2.2.1 v ∧ bO R2 p.2.2.2.1 p.2.2.2.2.1 p.2.2.2.2.2 v2
abbrev P3 (R R2 R3 : Int32) (v v2 v3 : Int) (p : Int32 × Int32 × (Nat → Int32) × Int32 × Int32 × (Nat → Int32) × Int32 × Int32 × (Nat → Int32)) : Prop := bO R p.1 p.2.1 p.2.2.1 v ∧ bO R2 p.2.2.2.1 p.2.2.2.2.1 p.2.2.2.2.2.1 v2 ∧ bO R3 p.2.2.2.2.2.2.1 p.2.2.2.2.2.2.2.1 p.2.2.2.2.2.2.2.2 v3
theorem e220 : (220 : Int32).toInt = 220 := rfl
theorem W_add {R R2 x s neg s2 neg2 : Int32} {f g : Nat → Int32} {v v2 : Int} (h : bO R s neg f v) (h2 : bO R2 s2 neg2 g v2) (hx : x = 0 ∨ x = 1) (hs : s.toInt < R.toInt) (hs2 : s2.toInt < R.toInt) : P1 R (if x = 0 then v + v2 else v - v2) (F_Big_addSigned R R2 x s neg f s2 neg2 g) := by
  obtain ⟨z, zn, k, c1, c2, c3, c4, c5⟩ := V_addS (R := R) (R2 := R2) (x := x) (neg := neg) (neg2 := neg2) h.1 h2.1 h.2.1 h2.sg hx hs hs2 h.2.2.2.2
  rw [h.2.2.1, h2.2.2.1] at c4
  rw [c1]
  exact ⟨c2, c3, c4, show z.toInt ≤ _ by omega, h.2.2.2.2⟩
theorem v_nle0 {y : Int32} (h : ¬ y ≤ 0) : 0 < y.toInt := by
  apply Int.not_le.mp
  intro h2
  exact h (Int32.le_iff_toInt_le.mpr h2)
theorem v_tds {a b : Int} (h : (0 ≤ a ∧ 0 ≤ b) ∨ (a < 0 ∧ b < 0)) : a.tdiv b = ((a.natAbs / b.natAbs : Nat) : Int) := by
  rcases h with ⟨h1, h2⟩ | ⟨h1, h2⟩
  · have e1 : a = (a.natAbs : Int) := by omega
    have e2 : b = (b.natAbs : Int) := by omega
    generalize a.natAbs = k at e1 ⊢
    generalize b.natAbs = j at e2 ⊢
    rw [e1, e2, Int.ofNat_tdiv]
  · have e1 : a = -(a.natAbs : Int) := by omega
    have e2 : b = -(b.natAbs : Int) := by omega
    generalize a.natAbs = k at e1 ⊢
    generalize b.natAbs = j at e2 ⊢
    rw [e1, e2, Int.neg_tdiv, Int.tdiv_neg, Int.neg_neg, Int.ofNat_tdiv]
theorem v_tdo {a b : Int} (h : (0 ≤ a ∧ b < 0) ∨ (a < 0 ∧ 0 ≤ b)) : a.tdiv b = -((a.natAbs / b.natAbs : Nat) : Int) := by
  rcases h with ⟨h1, h2⟩ | ⟨h1, h2⟩
  · have e1 : a = (a.natAbs : Int) := by omega
    have e2 : b = -(b.natAbs : Int) := by omega
    generalize a.natAbs = k at e1 ⊢
    generalize b.natAbs = j at e2 ⊢
    rw [e1, e2, Int.tdiv_neg, Int.ofNat_tdiv]
  · have e1 : a = -(a.natAbs : Int) := by omega
    have e2 : b = (b.natAbs : Int) := by omega
    generalize a.natAbs = k at e1 ⊢
    generalize b.natAbs = j at e2 ⊢
    rw [e1, e2, Int.neg_tdiv, Int.ofNat_tdiv]
theorem bO.szE {R R2 s n s2 n2 : Int32} {f g : Nat → Int32} {v : Int} (h : bO R s n f v) (h2 : bO R2 s2 n2 g v) : s.toInt = s2.toInt := by
  have h3 := (bN.inj h.1 h2.1 (h.abs.trans h2.abs.symm)).1
  rw [h3]
theorem T_quotientOrRest_c32 {x2 : Int32} {R : Int32} {R2 : Int32} {t0_0 : Int32} {t0_1 : Int32} {t1_0 : (Nat → Int32)} {t2_0 : Int32} {t2_1 : Int32} {t3_0 : (Nat → Int32)} {t4_0 : Int32} {t4_1 : Int32} {t5_0 : (Nat → Int32)} {t6_0 : Int32} {t6_1 : Int32} {t7_0 : (Nat → Int32)} {p48 : (Int32 × Int32 × (Nat → Int32))} {p95 : (Int32 × Int32 × (Nat → Int32) × Int32 × Int32 × (Nat → Int32) × Int32 × Int32 × (Nat → Int32))} {y74 : Int32} {y75 : Int32} {f76 : (Nat → Int32)} {y69 : Int32} {y70 : Int32} {f71 : (Nat → Int32)} {p128 : (Int32 × Int32 × (Nat → Int32))} {va vb : Int} (hy : bO 220 y74 y75 f76 ((va.natAbs / vb.natAbs : Nat) : Int)) (hb : bO R2 y69 y70 f71 vb) (hp : P1 220 ((va.natAbs / vb.natAbs : Nat) : Int) p128) (ha : bO R t4_0 t4_1 t5_0 va) : (S_Mil_quotientOrRest_c32 x2 R R2 t0_0 t0_1 t1_0 t2_0 t2_1 t3_0 t4_0 t4_1 t5_0 t6_0 t6_1 t7_0 p48 p95 y74 y75 f76 y69 y70 f71 p128) ∧ P3 220 220 R2 (va.tdiv vb) ((va.natAbs / vb.natAbs : Nat) : Int) vb (F_Mil_quotientOrRest_c32 x2 R R2 t0_0 t0_1 t1_0 t2_0 t2_1 t3_0 t4_0 t4_1 t5_0 t6_0 t6_1 t7_0 p48 p95 y74 y75 f76 y69 y70 f71 p128) := by
  unfold S_Mil_quotientOrRest_c32 F_Mil_quotientOrRest_c32
  by_cases h1 : y74 ≤ 0
  · rw [if_pos h1, if_pos h1]
    refine ⟨trivial, ?_, hy, hb⟩
    have h2 := hy.pos
    have h3 := q_leI h1
    have e0 : (0 : Int32).toInt = 0 := rfl
    have h4 : ((va.natAbs / vb.natAbs : Nat) : Int) = 0 := by omega
    have h5 : va.tdiv vb = 0 := by
      rcases hp.sgn with _ | ⟨_, _⟩
      · rcases ha.sgn with ⟨_, a2⟩ | ⟨_, a2⟩ <;> rcases hb.sgn with ⟨_, b2⟩ | ⟨_, b2⟩
        · rw [v_tds (Or.inl ⟨a2, b2⟩), h4]
        · rw [v_tdo (Or.inl ⟨a2, b2⟩), h4]; rfl
        · rw [v_tdo (Or.inr ⟨a2, b2⟩), h4]; rfl
        · rw [v_tds (Or.inr ⟨a2, b2⟩), h4]
      · omega
    rw [h5]
    have h6 := hp.abs0
    rw [h4] at h6
    exact h6
  · rw [if_neg h1, if_neg h1]
    have h2 := v_nle0 h1
    have h3 := hy.pos.mp h2
    have q0 := hp.sgn
    by_cases h4 : t4_1 = y70
    · rw [if_pos h4, if_pos h4]
      refine ⟨trivial, ?_, hy, hb⟩
      have h5 : va.tdiv vb = ((va.natAbs / vb.natAbs : Nat) : Int) := by
        apply v_tds
        rcases ha.sgn with ⟨a1, a2⟩ | ⟨a1, a2⟩ <;> rcases hb.sgn with ⟨b1, b2⟩ | ⟨b1, b2⟩
        · exact Or.inl ⟨a2, b2⟩
        · rw [a1, b1] at h4; exact absurd h4 (by decide)
        · rw [a1, b1] at h4; exact absurd h4 (by decide)
        · exact Or.inr ⟨a2, b2⟩
      rw [h5]
      exact hp.abs0
    · rw [if_neg h4, if_neg h4]
      refine ⟨trivial, ?_, hy, hb⟩
      have h5 : va.tdiv vb = -((va.natAbs / vb.natAbs : Nat) : Int) := by
        apply v_tdo
        rcases ha.sgn with ⟨a1, a2⟩ | ⟨a1, a2⟩ <;> rcases hb.sgn with ⟨b1, b2⟩ | ⟨b1, b2⟩
        · exact absurd (a1.trans b1.symm) h4
        · exact Or.inl ⟨a2, b2⟩
        · exact Or.inr ⟨a2, b2⟩
        · exact absurd (a1.trans b1.symm) h4
      rw [h5]
      have h6 := hp.abs
      rw [Int.natAbs_natCast] at h6
      exact ⟨hp.1, Or.inr ⟨rfl, hp.pos.mpr h3⟩, by rw [bS_1, h6], hp.2.2.2.1, hp.2.2.2.2⟩
theorem T_quotientOrRest_c17 {x2 : Int32} {R : Int32} {R2 : Int32} {t0_0 : Int32} {t0_1 : Int32} {t1_0 : (Nat → Int32)} {t2_0 : Int32} {t2_1 : Int32} {t3_0 : (Nat → Int32)} {t4_0 : Int32} {t4_1 : Int32} {t5_0 : (Nat → Int32)} {t6_0 : Int32} {t6_1 : Int32} {t7_0 : (Nat → Int32)} {p48 : (Int32 × Int32 × (Nat → Int32))} {p95 : (Int32 × Int32 × (Nat → Int32) × Int32 × Int32 × (Nat → Int32) × Int32 × Int32 × (Nat → Int32))} {va vb : Int} (h : P3 220 R2 220 (va.tmod vb) vb ((va.natAbs / vb.natAbs : Nat) : Int) p95) (ha : bO R t4_0 t4_1 t5_0 va) : (S_Mil_quotientOrRest_c17 x2 R R2 t0_0 t0_1 t1_0 t2_0 t2_1 t3_0 t4_0 t4_1 t5_0 t6_0 t6_1 t7_0 p48 p95) ∧ P3 220 220 R2 (if x2 = 0 then va.tmod vb else va.tdiv vb) ((va.natAbs / vb.natAbs : Nat) : Int) vb (F_Mil_quotientOrRest_c17 x2 R R2 t0_0 t0_1 t1_0 t2_0 t2_1 t3_0 t4_0 t4_1 t5_0 t6_0 t6_1 t7_0 p48 p95) := by
  unfold S_Mil_quotientOrRest_c17 F_Mil_quotientOrRest_c17
  by_cases h1 : x2 = 0
  · rw [if_pos h1, if_pos h1, if_pos h1]
    exact ⟨trivial, h.1, h.2.2, h.2.1⟩
  · rw [if_neg h1, if_neg h1, if_neg h1]
    exact T_quotientOrRest_c32 h.2.2 h.2.1 (W_copy h.2.2 h.2.2.2.2.2.1 (by decide)) ha
theorem T_quotientOrRest_c5 {x2 : Int32} {R : Int32} {R2 : Int32} {t0_0 : Int32} {t0_1 : Int32} {t1_0 : (Nat → Int32)} {t2_0 : Int32} {t2_1 : Int32} {t3_0 : (Nat → Int32)} {t4_0 : Int32} {t4_1 : Int32} {t5_0 : (Nat → Int32)} {t6_0 : Int32} {t6_1 : Int32} {t7_0 : (Nat → Int32)} {p48 : (Int32 × Int32 × (Nat → Int32))} {va vb : Int} (h : P1 220 va p48) (hb : bO R2 t6_0 t6_1 t7_0 vb) (hv : vb ≠ 0) (hM : bB 218 va) (ha : bO R t4_0 t4_1 t5_0 va) : (S_Mil_quotientOrRest_c5 x2 R R2 t0_0 t0_1 t1_0 t2_0 t2_1 t3_0 t4_0 t4_1 t5_0 t6_0 t6_1 t7_0 p48) ∧ P3 220 220 R2 (if x2 = 0 then va.tmod vb else va.tdiv vb) ((va.natAbs / vb.natAbs : Nat) : Int) vb (F_Mil_quotientOrRest_c5 x2 R R2 t0_0 t0_1 t1_0 t2_0 t2_1 t3_0 t4_0 t4_1 t5_0 t6_0 t6_1 t7_0 p48) := by
  unfold S_Mil_quotientOrRest_c5 F_Mil_quotientOrRest_c5
  have e := e220
  have hs := h.sB hM
  have d := W_divideBy (R3 := 220) (sq := t2_0) (nq := t2_1) (fq := t3_0) h hb hv (by omega) (by omega) (by decide)
  have d2 := T_quotientOrRest_c17 (x2 := x2) (t0_0 := t0_0) (t0_1 := t0_1) (t1_0 := t1_0) (t2_0 := t2_0) (t2_1 := t2_1) (t3_0 := t3_0) (t6_0 := t6_0) (t6_1 := t6_1) (t7_0 := t7_0) (p48 := p48) d.2 ha
  exact ⟨⟨⟨trivial, d.1⟩, d2.1⟩, d2.2⟩
theorem T_quotientOrRest {x2 : Int32} {R : Int32} {R2 : Int32} {t0_0 : Int32} {t0_1 : Int32} {t1_0 : (Nat → Int32)} {t2_0 : Int32} {t2_1 : Int32} {t3_0 : (Nat → Int32)} {t4_0 : Int32} {t4_1 : Int32} {t5_0 : (Nat → Int32)} {t6_0 : Int32} {t6_1 : Int32} {t7_0 : (Nat → Int32)} {va vb : Int} (ha : bO R t4_0 t4_1 t5_0 va) (hb : bO R2 t6_0 t6_1 t7_0 vb) (hv : vb ≠ 0) (hM : bB 218 va) : (S_Mil_quotientOrRest x2 R R2 t0_0 t0_1 t1_0 t2_0 t2_1 t3_0 t4_0 t4_1 t5_0 t6_0 t6_1 t7_0) ∧ P3 220 220 R2 (if x2 = 0 then va.tmod vb else va.tdiv vb) ((va.natAbs / vb.natAbs : Nat) : Int) vb (F_Mil_quotientOrRest x2 R R2 t0_0 t0_1 t1_0 t2_0 t2_1 t3_0 t4_0 t4_1 t5_0 t6_0 t6_1 t7_0) := by
  unfold S_Mil_quotientOrRest F_Mil_quotientOrRest
  exact T_quotientOrRest_c5 (W_copy ha (Int.le_trans ha.2.2.2.1 ha.2.2.2.2) (by decide)) hb hv hM ha
theorem v_owe {A B C : Prop} (h : A) (k : B ∧ C) : ((True ∧ A) ∧ B) ∧ C := ⟨⟨⟨trivial, h⟩, k.1⟩, k.2⟩
theorem bO.fit {R s n : Int32} {f : Nat → Int32} {v : Int} (h : bO R s n f v) : s.toInt ≤ 220 := Int.le_trans h.2.2.2.1 h.2.2.2.2
/-- a number at work: nothing is asked of it -/
abbrev bI (_R _s _n : Int32) (_f : Nat → Int32) : Prop := True
/-- a number -/
abbrev bJ (R s n : Int32) (f : Nat → Int32) : Prop := ∃ v : Int, bO R s n f v
theorem T_modulo {R : Int32} {R2 : Int32} {R3 : Int32} {t0_0 : Int32} {t0_1 : Int32} {t1_0 : (Nat → Int32)} {t2_0 : Int32} {t2_1 : Int32} {t3_0 : (Nat → Int32)} {t4_0 : Int32} {t4_1 : Int32} {t5_0 : (Nat → Int32)} {t6_0 : Int32} {t6_1 : Int32} {t7_0 : (Nat → Int32)} {va vb : Int} {M : Nat} (ha : bO R t2_0 t2_1 t3_0 va) (hb : bO R2 t4_0 t4_1 t5_0 vb) (hv : vb ≠ 0) (hM : bB M va) (hM2 : (M : Int) + 2 ≤ R3.toInt) (hN : t4_0.toInt < R3.toInt) (hR3 : R3.toInt ≤ 220) : (S_Mil_modulo R R2 R3 t0_0 t0_1 t1_0 t2_0 t2_1 t3_0 t4_0 t4_1 t5_0 t6_0 t6_1 t7_0) ∧ P3 220 R2 R3 ((va.natAbs / vb.natAbs : Nat) : Int) vb (if va.tmod vb < 0 then va.tmod vb + vb else va.tmod vb) (F_Mil_modulo R R2 R3 t0_0 t0_1 t1_0 t2_0 t2_1 t3_0 t4_0 t4_1 t5_0 t6_0 t6_1 t7_0) := by
  have e := e220
  have hs := ha.sB hM
  unfold S_Mil_modulo F_Mil_modulo
  have h2 : P1 R3 va (F_Big_copy R3 R t6_0 t6_1 t7_0 t2_0 t2_1 t3_0) := W_copy ha (by omega) (by omega)
  generalize (F_Big_copy R3 R t6_0 t6_1 t7_0 t2_0 t2_1 t3_0) = p51 at h2 ⊢
  unfold S_Mil_modulo_c2 F_Mil_modulo_c2
  have hs2 := h2.sB hM
  have h11 : S_Big_divideBy R3 R2 (220 : Int32) (p51.1 : Int32) (p51.2.1 : Int32) (p51.2.2 : (Nat → Int32)) t4_0 t4_1 t5_0 t0_0 t0_1 t1_0 ∧ P3 R3 R2 220 (va.tmod vb) vb ((va.natAbs / vb.natAbs : Nat) : Int) (F_Big_divideBy R3 R2 (220 : Int32) (p51.1 : Int32) (p51.2.1 : Int32) (p51.2.2 : (Nat → Int32)) t4_0 t4_1 t5_0 t0_0 t0_1 t1_0) := W_divideBy h2 hb hv (by omega) (by omega) (by decide)
  refine v_owe h11.1 ?_
  replace h11 := h11.2
  generalize (F_Big_divideBy R3 R2 (220 : Int32) (p51.1 : Int32) (p51.2.1 : Int32) (p51.2.2 : (Nat → Int32)) t4_0 t4_1 t5_0 t0_0 t0_1 t1_0) = p105 at h11 ⊢
  unfold S_Mil_modulo_c11 F_Mil_modulo_c11
  rcases h11.1.sgn with ⟨n1, n2⟩ | ⟨n1, n2⟩
  · rw [if_pos n1, if_pos n1, if_neg (by omega)]
    exact ⟨trivial, h11.2.2, h11.2.1, h11.1⟩
  · rw [if_pos n2, if_neg (by rw [n1]; decide), if_neg (by rw [n1]; decide)]
    have hs3 := h11.1.sB (hM.tmodU (v := vb))
    have hs4 := h11.2.1.szE hb
    have h24 : P1 R3 (va.tmod vb + vb) (F_Big_addSigned R3 R2 (0 : Int32) (p105.1 : Int32) (p105.2.1 : Int32) (p105.2.2.1 : (Nat → Int32)) (p105.2.2.2.1 : Int32) (p105.2.2.2.2.1 : Int32) (p105.2.2.2.2.2.1 : (Nat → Int32))) := W_add (x := 0) h11.1 h11.2.1 (Or.inl rfl) (by omega) (by omega)
    generalize (F_Big_addSigned R3 R2 (0 : Int32) (p105.1 : Int32) (p105.2.1 : Int32) (p105.2.2.1 : (Nat → Int32)) (p105.2.2.2.1 : Int32) (p105.2.2.2.2.1 : Int32) (p105.2.2.2.2.2.1 : (Nat → Int32))) = p141 at h24 ⊢
    unfold S_Mil_modulo_c24 F_Mil_modulo_c24
    exact ⟨trivial, h11.2.2, h11.2.1, h24⟩
