/-! values, for whole: the class's decimals: settle, keepDecimal, sum, multiply -/
/-- a decimal of the class: number, scale, figures -/
def dP (R s n : Int32) (f : Nat → Int32) (sc fc : Int32) (q : Int × Int) : Prop := bO R s n f q.1 ∧ (∃ c : Nat, fc.toInt = (c : Int) ∧ vG q.1 c ∧ c ≤ 1000) ∧ sc.toInt = q.2 ∧ -10000 ≤ q.2 ∧ q.2 ≤ 10000
theorem dP.O {R s n : Int32} {f : Nat → Int32} {sc fc : Int32} {q : Int × Int} (h : dP R s n f sc fc q) : dO R s n f sc fc q.1 := by
  obtain ⟨h1, ⟨c, c1, c2, c3⟩, h2, h3, h4⟩ := h
  exact ⟨h1, ⟨c, c1, c2.1, c3⟩, by omega, by omega⟩
theorem dP.fit {R s n : Int32} {f : Nat → Int32} {sc fc : Int32} {q : Int × Int} (h : dP R s n f sc fc q) : dFit q := by
  obtain ⟨h1, ⟨c, c1, c2, c3⟩, h2, h3, h4⟩ := h
  exact ⟨(vG_le c2 (by decide)).mp c3, h3, h4⟩
theorem V_countFigures {R : Int32} {t0_0 : Int32} {t0_1 : Int32} {t1_0 : (Nat → Int32)} {t2_0 : Int32} {t2_1 : Int32} {t3_0 : (Nat → Int32)} {v : Int} {M : Nat} (h : bO R t2_0 t2_1 t3_0 v) (hM : bB M v) (hM2 : M + 1 < 220) (hw : bI 220 t0_0 t0_1 t1_0) : (∃ d : Nat, (F_Mil_countFigures R t0_0 t0_1 t1_0 t2_0 t2_1 t3_0).1.toInt = (d : Int) ∧ vG v d) ∧ G1 (bI 220) (F_Mil_countFigures R t0_0 t0_1 t1_0 t2_0 t2_1 t3_0).2 := by
  obtain ⟨⟨d, d1, d2⟩, h2⟩ := T_countFigures h hM hM2 hw
  refine ⟨⟨d, d1, d2, fun z => ?_⟩, h2⟩
  have hs := h.nil.mpr z
  unfold F_Mil_countFigures at d1
  rw [if_pos hs] at d1
  have e1 : (1 : Int32).toInt = 1 := rfl
  have e2 : (1 : Int32).toInt = (d : Int) := d1
  omega
/-- what a call of the class leaves that would put o into a register which holds qt -/
def cDn (o : Option (Int × Int)) (qt : Int × Int) (c s n : Int32) (f : Nat → Int32) (sc fc : Int32) : Prop := (∃ q, o = some q ∧ dFit q ∧ c = 0 ∧ dP 108 s n f sc fc q) ∨ ((o = none ∨ ∃ q, o = some q ∧ ¬ dFit q) ∧ c = 2 ∧ dP 108 s n f sc fc qt)
theorem V_settle {R : Int32} {x3 : Int64} {R2 : Int32} {t0_0 : Int32} {t0_1 : Int32} {t1_0 : (Nat → Int32)} {t2_0 : Int32} {t2_1 : Int32} {t3_0 : (Nat → Int32)} {t4_0 : Int32} {t4_1 : Int32} {t5_0 : Int32} {t5_1 : Int32} {t6_0 : (Nat → Int32)} {v : Int} {M : Nat} {qt : Int × Int} (h : bO R t2_0 t2_1 t3_0 v) (hM : bB M v) (hM2 : M + 1 < 220) (hw : bI 220 t0_0 t0_1 t1_0) (hR2 : 108 ≤ R2.toInt) (hR3 : R2.toInt ≤ 220) (hd : dP R2 t5_0 t5_1 t6_0 t4_0 t4_1 qt) : ((F_DW_settle R x3 R2 t0_0 t0_1 t1_0 t2_0 t2_1 t3_0 t4_0 t4_1 t5_0 t5_1 t6_0).1 = 0 ∧ ¬ dFit (v, x3.toInt) ∧ dP R2 (F_DW_settle R x3 R2 t0_0 t0_1 t1_0 t2_0 t2_1 t3_0 t4_0 t4_1 t5_0 t5_1 t6_0).2.2.2.2.2.2.1 (F_DW_settle R x3 R2 t0_0 t0_1 t1_0 t2_0 t2_1 t3_0 t4_0 t4_1 t5_0 t5_1 t6_0).2.2.2.2.2.2.2.1 (F_DW_settle R x3 R2 t0_0 t0_1 t1_0 t2_0 t2_1 t3_0 t4_0 t4_1 t5_0 t5_1 t6_0).2.2.2.2.2.2.2.2 (F_DW_settle R x3 R2 t0_0 t0_1 t1_0 t2_0 t2_1 t3_0 t4_0 t4_1 t5_0 t5_1 t6_0).2.2.2.2.1 (F_DW_settle R x3 R2 t0_0 t0_1 t1_0 t2_0 t2_1 t3_0 t4_0 t4_1 t5_0 t5_1 t6_0).2.2.2.2.2.1 qt) ∨ ((F_DW_settle R x3 R2 t0_0 t0_1 t1_0 t2_0 t2_1 t3_0 t4_0 t4_1 t5_0 t5_1 t6_0).1 = 1 ∧ dFit (v, x3.toInt) ∧ dP R2 (F_DW_settle R x3 R2 t0_0 t0_1 t1_0 t2_0 t2_1 t3_0 t4_0 t4_1 t5_0 t5_1 t6_0).2.2.2.2.2.2.1 (F_DW_settle R x3 R2 t0_0 t0_1 t1_0 t2_0 t2_1 t3_0 t4_0 t4_1 t5_0 t5_1 t6_0).2.2.2.2.2.2.2.1 (F_DW_settle R x3 R2 t0_0 t0_1 t1_0 t2_0 t2_1 t3_0 t4_0 t4_1 t5_0 t5_1 t6_0).2.2.2.2.2.2.2.2 (F_DW_settle R x3 R2 t0_0 t0_1 t1_0 t2_0 t2_1 t3_0 t4_0 t4_1 t5_0 t5_1 t6_0).2.2.2.2.1 (F_DW_settle R x3 R2 t0_0 t0_1 t1_0 t2_0 t2_1 t3_0 t4_0 t4_1 t5_0 t5_1 t6_0).2.2.2.2.2.1 (v, x3.toInt)) := by
  have ek : (1000 : Int32).toInt = 1000 := rfl
  have m1 : (-10000 : Int64).toInt = -10000 := rfl
  have m2 : (10000 : Int64).toInt = 10000 := rfl
  unfold F_DW_settle
  have h5 := V_countFigures h hM hM2 hw
  generalize F_Mil_countFigures R t0_0 t0_1 t1_0 t2_0 t2_1 t3_0 = p49 at h5 ⊢
  obtain ⟨⟨c, c1, c2⟩, h6⟩ := h5
  unfold F_DW_settle_c5
  by_cases g1 : 1000 < p49.1
  · have g1' := q_ltI g1
    rw [if_pos g1]
    exact Or.inl ⟨rfl, d_no c2 (by omega) rfl, hd⟩
  rw [if_neg g1]
  have g1' := q_nltI g1
  by_cases g2 : lg_cmp x3 (-10000) < 0
  · have g2' := g_lc1 g2
    rw [if_pos g2]
    exact Or.inl ⟨rfl, fun hf => by have h9 : -10000 ≤ x3.toInt := hf.2.1; omega, hd⟩
  rw [if_neg g2]
  have g2' := g_lc2 g2
  by_cases g3 : lg_cmp x3 10000 ≤ 0
  · have g3' := g_lc3 g3
    rw [if_pos g3]
    have hB : bB 108 v := v_tBB c2.1.2.1 (by omega)
    have hs := h.sB hB
    have h42 : P1 R2 v (F_Big_copy R2 R t5_0 t5_1 t6_0 t2_0 t2_1 t3_0) := W_copy h (by omega) hR3
    generalize (F_Big_copy R2 R t5_0 t5_1 t6_0 t2_0 t2_1 t3_0) = p88 at h42 ⊢
    unfold F_DW_settle_c42
    have hl := s_l2i (x := x3) (by omega) (by omega)
    exact Or.inr ⟨rfl, ⟨(vG_le c2 (by decide)).mp (by omega), by show -10000 ≤ x3.toInt; omega, by show x3.toInt ≤ 10000; omega⟩, h42, ⟨c, c1, c2, by omega⟩, hl, by show -10000 ≤ x3.toInt; omega, by show x3.toInt ≤ 10000; omega⟩
  · have g3' := g_lc4 g3
    rw [if_neg g3]
    exact Or.inl ⟨rfl, fun hf => by have h9 : x3.toInt ≤ 10000 := hf.2.2; omega, hd⟩
theorem V_keepDecimal {x2 : Int32} {t0_0 : Int64} {t0_1 : Int32} {t1_0 : Int32} {t1_1 : Int32} {t2_0 : (Nat → Int32)} {t3_0 : Int32} {t3_1 : Int32} {t4_0 : (Nat → Int32)} {t5_0 : Int32} {t5_1 : Int32} {t6_0 : Int32} {t6_1 : Int32} {t7_0 : (Nat → Int32)} {v : Int} {M : Nat} {qt : Int × Int} (h : bO 220 t1_0 t1_1 t2_0 v) (hM : bB M v) (hM2 : M + 1 < 220) (hw : bI 220 t3_0 t3_1 t4_0) (hd : dP 108 t6_0 t6_1 t7_0 t5_0 t5_1 qt) : cDn (some (v, t0_0.toInt)) qt (F_NH_keepDecimal x2 t0_0 t0_1 t1_0 t1_1 t2_0 t3_0 t3_1 t4_0 t5_0 t5_1 t6_0 t6_1 t7_0).1 (F_NH_keepDecimal x2 t0_0 t0_1 t1_0 t1_1 t2_0 t3_0 t3_1 t4_0 t5_0 t5_1 t6_0 t6_1 t7_0).2.2.2.2.2.2.1 (F_NH_keepDecimal x2 t0_0 t0_1 t1_0 t1_1 t2_0 t3_0 t3_1 t4_0 t5_0 t5_1 t6_0 t6_1 t7_0).2.2.2.2.2.2.2.1 (F_NH_keepDecimal x2 t0_0 t0_1 t1_0 t1_1 t2_0 t3_0 t3_1 t4_0 t5_0 t5_1 t6_0 t6_1 t7_0).2.2.2.2.2.2.2.2 (F_NH_keepDecimal x2 t0_0 t0_1 t1_0 t1_1 t2_0 t3_0 t3_1 t4_0 t5_0 t5_1 t6_0 t6_1 t7_0).2.2.2.2.1 (F_NH_keepDecimal x2 t0_0 t0_1 t1_0 t1_1 t2_0 t3_0 t3_1 t4_0 t5_0 t5_1 t6_0 t6_1 t7_0).2.2.2.2.2.1 := by
  unfold F_NH_keepDecimal
  have hs := V_settle (R := 220) (x3 := t0_0) (R2 := 108) (t0_0 := t3_0) (t0_1 := t3_1) (t1_0 := t4_0) (t2_0 := t1_0) (t2_1 := t1_1) (t3_0 := t2_0) (t4_0 := t5_0) (t4_1 := t5_1) (t5_0 := t6_0) (t5_1 := t6_1) (t6_0 := t7_0) h hM hM2 hw (by decide) (by decide) hd
  generalize F_DW_settle 220 t0_0 108 t3_0 t3_1 t4_0 t1_0 t1_1 t2_0 t5_0 t5_1 t6_0 t6_1 t7_0 = p at hs ⊢
  unfold F_NH_keepDecimal_c24
  rcases hs with ⟨h1, h2, h3⟩ | ⟨h1, h2, h3⟩
  · rw [h1]
    exact Or.inr ⟨Or.inr ⟨_, rfl, h2⟩, rfl, h3⟩
  · rw [h1]
    exact Or.inl ⟨_, rfl, h2, rfl, h3⟩
theorem V_DW_multiply {R : Int32} {R2 : Int32} {t0_0 : Int64} {t0_1 : Int32} {t1_0 : Int32} {t1_1 : Int32} {t2_0 : (Nat → Int32)} {t3_0 : Int32} {t3_1 : Int32} {t4_0 : Int32} {t4_1 : Int32} {t5_0 : (Nat → Int32)} {t6_0 : Int32} {t6_1 : Int32} {t7_0 : Int32} {t7_1 : Int32} {t8_0 : (Nat → Int32)} {qa qb : Int × Int} (ha : dP R t4_0 t4_1 t5_0 t3_0 t3_1 qa) (hb : dP R2 t7_0 t7_1 t8_0 t6_0 t6_1 qb) : (F_DW_multiply R R2 t0_0 t0_1 t1_0 t1_1 t2_0 t3_0 t3_1 t4_0 t4_1 t5_0 t6_0 t6_1 t7_0 t7_1 t8_0).1.toInt = qa.2 + qb.2 ∧ bO 220 (F_DW_multiply R R2 t0_0 t0_1 t1_0 t1_1 t2_0 t3_0 t3_1 t4_0 t4_1 t5_0 t6_0 t6_1 t7_0 t7_1 t8_0).2.2.1 (F_DW_multiply R R2 t0_0 t0_1 t1_0 t1_1 t2_0 t3_0 t3_1 t4_0 t4_1 t5_0 t6_0 t6_1 t7_0 t7_1 t8_0).2.2.2.1 (F_DW_multiply R R2 t0_0 t0_1 t1_0 t1_1 t2_0 t3_0 t3_1 t4_0 t4_1 t5_0 t6_0 t6_1 t7_0 t7_1 t8_0).2.2.2.2 (qa.1 * qb.1) ∧ bB 216 (qa.1 * qb.1) := by
  have e := e220
  have sa := ha.O.1.sB ha.O.B
  have sb := hb.O.1.sB hb.O.B
  have ra := ha.2.2
  have rb := hb.2.2
  unfold F_DW_multiply
  have h1 : P1 220 (qa.1 * qb.1) (F_Big_product (220 : Int32) R R2 t1_0 t1_1 t2_0 t4_0 t4_1 t5_0 t7_0 t7_1 t8_0) := W_product ha.1 hb.1 (by decide) (by omega)
  generalize (F_Big_product (220 : Int32) R R2 t1_0 t1_1 t2_0 t4_0 t4_1 t5_0 t7_0 t7_1 t8_0) = p53 at h1 ⊢
  unfold F_DW_multiply_c15
  refine ⟨?_, h1, ha.O.B.mul hb.O.B⟩
  show (t3_0.toInt64 + t6_0.toInt64 : Int64).toInt = _
  exact q_addL ((Int32.toInt_toInt64 _).trans ra.1) ((Int32.toInt_toInt64 _).trans rb.1) (by omega) (by omega)
theorem V_sumJ {R : Int32} {R2 : Int32} {x4 : Int32} {t0_0 : Int64} {t0_1 : Int32} {t1_0 : Int32} {t1_1 : Int32} {t2_0 : (Nat → Int32)} {t3_0 : Int32} {t3_1 : Int32} {t4_0 : (Nat → Int32)} {t5_0 : Int32} {t5_1 : Int32} {t6_0 : Int32} {t6_1 : Int32} {t7_0 : (Nat → Int32)} {t8_0 : Int32} {t8_1 : Int32} {t9_0 : Int32} {t9_1 : Int32} {t10_0 : (Nat → Int32)} {j64 : Int64} {j58 : Int64} {j50 : Int64} {va vb : Int} {dX dY : Nat} (ha : bO R t6_0 t6_1 t7_0 va) (hb : bO R2 t9_0 t9_1 t10_0 vb) (hx : x4 = 0 ∨ x4 = 1) (h58 : j58.toInt32.toNatClampNeg = dX) (h64 : j64.toInt32.toNatClampNeg = dY) (m1 : va.natAbs * 10 ^ dX < 2147483648 ^ 108) (m2 : vb.natAbs * 10 ^ dY < 2147483648 ^ 108) : (F_DW_sum_J92 R R2 x4 t0_0 t0_1 t1_0 t1_1 t2_0 t3_0 t3_1 t4_0 t5_0 t5_1 t6_0 t6_1 t7_0 t8_0 t8_1 t9_0 t9_1 t10_0 j64 j58 j50).1 = 1 ∧ (F_DW_sum_J92 R R2 x4 t0_0 t0_1 t1_0 t1_1 t2_0 t3_0 t3_1 t4_0 t5_0 t5_1 t6_0 t6_1 t7_0 t8_0 t8_1 t9_0 t9_1 t10_0 j64 j58 j50).2.1 = j50 ∧ bO 220 (F_DW_sum_J92 R R2 x4 t0_0 t0_1 t1_0 t1_1 t2_0 t3_0 t3_1 t4_0 t5_0 t5_1 t6_0 t6_1 t7_0 t8_0 t8_1 t9_0 t9_1 t10_0 j64 j58 j50).2.2.2.1 (F_DW_sum_J92 R R2 x4 t0_0 t0_1 t1_0 t1_1 t2_0 t3_0 t3_1 t4_0 t5_0 t5_1 t6_0 t6_1 t7_0 t8_0 t8_1 t9_0 t9_1 t10_0 j64 j58 j50).2.2.2.2.1 (F_DW_sum_J92 R R2 x4 t0_0 t0_1 t1_0 t1_1 t2_0 t3_0 t3_1 t4_0 t5_0 t5_1 t6_0 t6_1 t7_0 t8_0 t8_1 t9_0 t9_1 t10_0 j64 j58 j50).2.2.2.2.2.1 (va * 10 ^ dX + sLe x4 vb * 10 ^ dY) ∧ bB 110 (va * 10 ^ dX + sLe x4 vb * 10 ^ dY) := by
  have e := e220
  unfold F_DW_sum_J92
  have h1 : P1 220 va (F_Big_copy (220 : Int32) R t1_0 t1_1 t2_0 t6_0 t6_1 t7_0) := W_copy ha ha.fit (by decide)
  generalize (F_Big_copy (220 : Int32) R t1_0 t1_1 t2_0 t6_0 t6_1 t7_0) = p116 at h1 ⊢
  unfold F_DW_sum_c103
  have h2 : P1 220 (va * 10 ^ j58.toInt32.toNatClampNeg) (F_Big_timesTen (220 : Int32) (j58.toInt32 : Int32) (p116.1 : Int32) (p116.2.1 : Int32) (p116.2.2 : (Nat → Int32))) := W_ten (M := 108) h1 (by decide) (by rw [h58]; exact m1)
  generalize (F_Big_timesTen (220 : Int32) (j58.toInt32 : Int32) (p116.1 : Int32) (p116.2.1 : Int32) (p116.2.2 : (Nat → Int32))) = p142 at h2 ⊢
  unfold F_DW_sum_c116
  have h3 : P1 220 vb (F_Big_copy (220 : Int32) R2 t3_0 t3_1 t4_0 t9_0 t9_1 t10_0) := W_copy hb hb.fit (by decide)
  generalize (F_Big_copy (220 : Int32) R2 t3_0 t3_1 t4_0 t9_0 t9_1 t10_0) = p166 at h3 ⊢
  unfold F_DW_sum_c130
  have h4 : P1 220 (vb * 10 ^ j64.toInt32.toNatClampNeg) (F_Big_timesTen (220 : Int32) (j64.toInt32 : Int32) (p166.1 : Int32) (p166.2.1 : Int32) (p166.2.2 : (Nat → Int32))) := W_ten (M := 108) h3 (by decide) (by rw [h64]; exact m2)
  generalize (F_Big_timesTen (220 : Int32) (j64.toInt32 : Int32) (p166.1 : Int32) (p166.2.1 : Int32) (p166.2.2 : (Nat → Int32))) = p192 at h4 ⊢
  unfold F_DW_sum_c143
  have b2 := v_abT m1
  have b4 := v_abT m2
  rw [h58] at h2
  rw [h64] at h4
  have s2 := h2.sB b2
  have s4 := h4.sB b4
  have h5 : P1 220 (if x4 = 0 then va * 10 ^ dX + vb * 10 ^ dY else va * 10 ^ dX - vb * 10 ^ dY) (F_Big_addSigned (220 : Int32) (220 : Int32) x4 (p142.1 : Int32) (p142.2.1 : Int32) (p142.2.2 : (Nat → Int32)) (p192.1 : Int32) (p192.2.1 : Int32) (p192.2.2 : (Nat → Int32))) := W_add h2 h4 hx (by omega) (by omega)
  generalize (F_Big_addSigned (220 : Int32) (220 : Int32) x4 (p142.1 : Int32) (p142.2.1 : Int32) (p142.2.2 : (Nat → Int32)) (p192.1 : Int32) (p192.2.1 : Int32) (p192.2.2 : (Nat → Int32))) = p215 at h5 ⊢
  unfold F_DW_sum_c161
  have e9 : (if x4 = 0 then va * 10 ^ dX + vb * 10 ^ dY else va * 10 ^ dX - vb * 10 ^ dY) = va * 10 ^ dX + sLe x4 vb * 10 ^ dY := by
    unfold sLe
    split
    · rfl
    · rw [Int.neg_mul, Int.sub_eq_add_neg]
  rw [e9] at h5
  refine ⟨rfl, rfl, h5, ?_⟩
  rw [← e9]
  split
  · exact (b2.add b4).mono (by decide)
  · exact (b2.sub b4).mono (by decide)
theorem v_m108 {v : Int} {c d : Nat} (hv : v = 0 ∨ (v.natAbs < 10 ^ c ∧ c + d ≤ 1001)) : v.natAbs * 10 ^ d < 2147483648 ^ 108 := by
  rcases hv with h | ⟨h1, h2⟩
  · rw [h, show (0 : Int).natAbs = 0 from rfl, Nat.zero_mul]
    exact Nat.pow_pos (by decide)
  · exact Nat.lt_of_lt_of_le (v_rt (k := 1001) h1 h2) (v_tB (by decide))
theorem V_DW_sum {R : Int32} {R2 : Int32} {x4 : Int32} {t0_0 : Int64} {t0_1 : Int32} {t1_0 : Int32} {t1_1 : Int32} {t2_0 : (Nat → Int32)} {t3_0 : Int32} {t3_1 : Int32} {t4_0 : (Nat → Int32)} {t5_0 : Int32} {t5_1 : Int32} {t6_0 : Int32} {t6_1 : Int32} {t7_0 : (Nat → Int32)} {t8_0 : Int32} {t8_1 : Int32} {t9_0 : Int32} {t9_1 : Int32} {t10_0 : (Nat → Int32)} {qa qb : Int × Int} (ha : dP R t6_0 t6_1 t7_0 t5_0 t5_1 qa) (hb : dP R2 t9_0 t9_1 t10_0 t8_0 t8_1 qb) (hx : x4 = 0 ∨ x4 = 1) : ((F_DW_sum R R2 x4 t0_0 t0_1 t1_0 t1_1 t2_0 t3_0 t3_1 t4_0 t5_0 t5_1 t6_0 t6_1 t7_0 t8_0 t8_1 t9_0 t9_1 t10_0).1 = 0 ∧ ¬ dFit (sAdd x4 qa qb)) ∨ ((F_DW_sum R R2 x4 t0_0 t0_1 t1_0 t1_1 t2_0 t3_0 t3_1 t4_0 t5_0 t5_1 t6_0 t6_1 t7_0 t8_0 t8_1 t9_0 t9_1 t10_0).1 = 1 ∧ (F_DW_sum R R2 x4 t0_0 t0_1 t1_0 t1_1 t2_0 t3_0 t3_1 t4_0 t5_0 t5_1 t6_0 t6_1 t7_0 t8_0 t8_1 t9_0 t9_1 t10_0).2.1.toInt = (sAdd x4 qa qb).2 ∧ bO 220 (F_DW_sum R R2 x4 t0_0 t0_1 t1_0 t1_1 t2_0 t3_0 t3_1 t4_0 t5_0 t5_1 t6_0 t6_1 t7_0 t8_0 t8_1 t9_0 t9_1 t10_0).2.2.2.1 (F_DW_sum R R2 x4 t0_0 t0_1 t1_0 t1_1 t2_0 t3_0 t3_1 t4_0 t5_0 t5_1 t6_0 t6_1 t7_0 t8_0 t8_1 t9_0 t9_1 t10_0).2.2.2.2.1 (F_DW_sum R R2 x4 t0_0 t0_1 t1_0 t1_1 t2_0 t3_0 t3_1 t4_0 t5_0 t5_1 t6_0 t6_1 t7_0 t8_0 t8_1 t9_0 t9_1 t10_0).2.2.2.2.2.1 (sAdd x4 qa qb).1 ∧ bB 110 (sAdd x4 qa qb).1) := by
  have hfa := ha.fit
  have hfb := hb.fit
  obtain ⟨ha1, ⟨ca, ca1, ca2, ca3⟩, ha2, ha3, ha4⟩ := ha
  obtain ⟨hb1, ⟨cb, cb1, cb2, cb3⟩, hb2, hb3, hb4⟩ := hb
  have eK : (1001 : Int64).toInt = 1001 := rfl
  have e0 : (0 : Int32).toInt = 0 := rfl
  obtain ⟨m, hm⟩ : ∃ m : Int, m = if qa.2 ≤ qb.2 then qb.2 else qa.2 := ⟨_, rfl⟩
  have mr : qa.2 ≤ m ∧ qb.2 ≤ m ∧ (m = qa.2 ∨ m = qb.2) := by
    rw [hm]
    split <;> omega
  have hml : (if t5_0 < t8_0 then t8_0 else t5_0 : Int32).toInt64.toInt = m := by
    rw [Int32.toInt_toInt64]
    by_cases c : t5_0 < t8_0
    · have := q_ltI c
      rw [if_pos c, hm, if_pos (by omega)]
      exact hb2
    · have := q_nltI c
      rw [if_neg c, hm]
      split
      · omega
      · exact ha2
  have kA : ((if t5_0 < t8_0 then t8_0 else t5_0 : Int32).toInt64 - t5_0.toInt64 : Int64).toInt = m - qa.2 := q_subL hml ((Int32.toInt_toInt64 _).trans ha2) (by omega) (by omega)
  have kB : ((if t5_0 < t8_0 then t8_0 else t5_0 : Int32).toInt64 - t8_0.toInt64 : Int64).toInt = m - qb.2 := q_subL hml ((Int32.toInt_toInt64 _).trans hb2) (by omega) (by omega)
  unfold F_DW_sum
  generalize ((if t5_0 < t8_0 then t8_0 else t5_0 : Int32).toInt64 - t5_0.toInt64 : Int64) = j58 at kA ⊢
  generalize ((if t5_0 < t8_0 then t8_0 else t5_0 : Int32).toInt64 - t8_0.toInt64 : Int64) = j64 at kB ⊢
  generalize (if t5_0 < t8_0 then t8_0 else t5_0 : Int32).toInt64 = j50 at hml ⊢
  have ex : j58.toInt32.toNatClampNeg = (m - qa.2).toNat := by
    rw [v_cn, s_l2i (by omega) (by omega), kA]
  have ey : j64.toInt32.toNatClampNeg = (m - qb.2).toNat := by
    rw [v_cn, s_l2i (by omega) (by omega), kB]
  have sE : sAdd x4 qa qb = (qa.1 * 10 ^ (m - qa.2).toNat + sLe x4 qb.1 * 10 ^ (m - qb.2).toNat, m) := by
    unfold sAdd
    rw [← hm]
  have kb : (t8_1.toInt64 + j64 : Int64).toInt = (cb : Int) + (m - qb.2) := q_addL ((Int32.toInt_toInt64 _).trans cb1) kB (by omega) (by omega)
  have ka : (t5_1.toInt64 + j58 : Int64).toInt = (ca : Int) + (m - qa.2) := q_addL ((Int32.toInt_toInt64 _).trans ca1) kA (by omega) (by omega)
  have sab : (sLe x4 qb.1).natAbs = qb.1.natAbs := by
    unfold sLe
    split
    · rfl
    · exact Int.natAbs_neg _
  rw [sE]
  have J : (qa.1 = 0 ∨ (qa.1.natAbs < 10 ^ ca ∧ ca + (m - qa.2).toNat ≤ 1001)) → ((F_DW_sum_J65 R R2 x4 t0_0 t0_1 t1_0 t1_1 t2_0 t3_0 t3_1 t4_0 t5_0 t5_1 t6_0 t6_1 t7_0 t8_0 t8_1 t9_0 t9_1 t10_0 j64 j58 j50).1 = 0 ∧ ¬ dFit (qa.1 * 10 ^ (m - qa.2).toNat + sLe x4 qb.1 * 10 ^ (m - qb.2).toNat, m)) ∨ ((F_DW_sum_J65 R R2 x4 t0_0 t0_1 t1_0 t1_1 t2_0 t3_0 t3_1 t4_0 t5_0 t5_1 t6_0 t6_1 t7_0 t8_0 t8_1 t9_0 t9_1 t10_0 j64 j58 j50).1 = 1 ∧ (F_DW_sum_J65 R R2 x4 t0_0 t0_1 t1_0 t1_1 t2_0 t3_0 t3_1 t4_0 t5_0 t5_1 t6_0 t6_1 t7_0 t8_0 t8_1 t9_0 t9_1 t10_0 j64 j58 j50).2.1.toInt = m ∧ bO 220 (F_DW_sum_J65 R R2 x4 t0_0 t0_1 t1_0 t1_1 t2_0 t3_0 t3_1 t4_0 t5_0 t5_1 t6_0 t6_1 t7_0 t8_0 t8_1 t9_0 t9_1 t10_0 j64 j58 j50).2.2.2.1 (F_DW_sum_J65 R R2 x4 t0_0 t0_1 t1_0 t1_1 t2_0 t3_0 t3_1 t4_0 t5_0 t5_1 t6_0 t6_1 t7_0 t8_0 t8_1 t9_0 t9_1 t10_0 j64 j58 j50).2.2.2.2.1 (F_DW_sum_J65 R R2 x4 t0_0 t0_1 t1_0 t1_1 t2_0 t3_0 t3_1 t4_0 t5_0 t5_1 t6_0 t6_1 t7_0 t8_0 t8_1 t9_0 t9_1 t10_0 j64 j58 j50).2.2.2.2.2.1 (qa.1 * 10 ^ (m - qa.2).toNat + sLe x4 qb.1 * 10 ^ (m - qb.2).toNat) ∧ bB 110 (qa.1 * 10 ^ (m - qa.2).toNat + sLe x4 qb.1 * 10 ^ (m - qb.2).toNat)) := fun hA => by
    have mA := v_m108 hA
    have fin : ∀ hB : (qb.1 = 0 ∨ (qb.1.natAbs < 10 ^ cb ∧ cb + (m - qb.2).toNat ≤ 1001)), ((F_DW_sum_J92 R R2 x4 t0_0 t0_1 t1_0 t1_1 t2_0 t3_0 t3_1 t4_0 t5_0 t5_1 t6_0 t6_1 t7_0 t8_0 t8_1 t9_0 t9_1 t10_0 j64 j58 j50).1 = 1 ∧ (F_DW_sum_J92 R R2 x4 t0_0 t0_1 t1_0 t1_1 t2_0 t3_0 t3_1 t4_0 t5_0 t5_1 t6_0 t6_1 t7_0 t8_0 t8_1 t9_0 t9_1 t10_0 j64 j58 j50).2.1.toInt = m ∧ bO 220 (F_DW_sum_J92 R R2 x4 t0_0 t0_1 t1_0 t1_1 t2_0 t3_0 t3_1 t4_0 t5_0 t5_1 t6_0 t6_1 t7_0 t8_0 t8_1 t9_0 t9_1 t10_0 j64 j58 j50).2.2.2.1 (F_DW_sum_J92 R R2 x4 t0_0 t0_1 t1_0 t1_1 t2_0 t3_0 t3_1 t4_0 t5_0 t5_1 t6_0 t6_1 t7_0 t8_0 t8_1 t9_0 t9_1 t10_0 j64 j58 j50).2.2.2.2.1 (F_DW_sum_J92 R R2 x4 t0_0 t0_1 t1_0 t1_1 t2_0 t3_0 t3_1 t4_0 t5_0 t5_1 t6_0 t6_1 t7_0 t8_0 t8_1 t9_0 t9_1 t10_0 j64 j58 j50).2.2.2.2.2.1 (qa.1 * 10 ^ (m - qa.2).toNat + sLe x4 qb.1 * 10 ^ (m - qb.2).toNat) ∧ bB 110 (qa.1 * 10 ^ (m - qa.2).toNat + sLe x4 qb.1 * 10 ^ (m - qb.2).toNat)) := fun hB => by
      obtain ⟨f1, f2, f3, f4⟩ := V_sumJ (t0_0 := t0_0) (t0_1 := t0_1) (t1_0 := t1_0) (t1_1 := t1_1) (t2_0 := t2_0) (t3_0 := t3_0) (t3_1 := t3_1) (t4_0 := t4_0) (t5_0 := t5_0) (t5_1 := t5_1) (t8_0 := t8_0) (t8_1 := t8_1) (j50 := j50) ha1 hb1 hx ex ey mA (v_m108 hB)
      exact ⟨f1, by rw [f2]; exact hml, f3, f4⟩
    unfold F_DW_sum_J65
    by_cases g : t9_0 ≤ 0
    · have g' := q_leI g
      have vb0 : qb.1 = 0 := by
        have := hb1.pos
        omega
      rw [if_pos g]
      exact Or.inr (fin (Or.inl vb0))
    · have g' := q_nleI g
      have vb0 : qb.1 ≠ 0 := hb1.pos.mp (by omega)
      rw [if_neg g]
      by_cases g2 : lg_cmp (t8_1.toInt64 + j64) 1001 ≤ 0
      · have g2' := g_lc3 g2
        rw [if_pos g2]
        exact Or.inr (fin (Or.inr ⟨cb2.1.2.1, by omega⟩))
      · have g2' := g_lc4 g2
        rw [if_neg g2]
        have dx : (m - qa.2).toNat = 0 := by omega
        refine Or.inl ⟨rfl, ?_⟩
        rw [dx, Int.pow_zero, Int.mul_one]
        exact (d_far (vG_abs cb2 sab) (fun e => vb0 (by rw [e] at sab; omega)) (by omega) hfa.1 _).2
  by_cases g : t6_0 ≤ 0
  · have g' := q_leI g
    have va0 : qa.1 = 0 := by
      have := ha1.pos
      omega
    rw [if_pos g]
    exact J (Or.inl va0)
  · have g' := q_nleI g
    have va0 : qa.1 ≠ 0 := ha1.pos.mp (by omega)
    rw [if_neg g]
    by_cases g2 : 0 < lg_cmp (t5_1.toInt64 + j58) 1001
    · have g2' := g_lc7 g2
      rw [if_pos g2]
      have dy : (m - qb.2).toNat = 0 := by omega
      refine Or.inl ⟨rfl, ?_⟩
      rw [dy, Int.pow_zero, Int.mul_one]
      exact (d_far ca2 va0 (by omega) (by rw [sab]; exact hfb.1) _).1
    · have g2' := g_lc8 g2
      rw [if_neg g2]
      exact J (Or.inr ⟨ca2.1.2.1, by omega⟩)
