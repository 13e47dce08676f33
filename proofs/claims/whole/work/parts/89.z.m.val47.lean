/-! what the calls keep: keepWhole, keepDecimal -/
theorem T_keepWhole {x2 : Int32} {t0_0 : Int32} {t0_1 : Int32} {t1_0 : (Nat → Int32)} {t2_0 : Int32} {t2_1 : Int32} {t3_0 : (Nat → Int32)} {v : Int} (h : bO 220 t0_0 t0_1 t1_0 v) (hw : rW t2_0 t2_1 t3_0) (h0 : 0 ≤ x2.toInt) (h9 : x2.toInt ≤ 9) : (S_NH_keepWhole x2 t0_0 t0_1 t1_0 t2_0 t2_1 t3_0) ∧ rW (F_NH_keepWhole x2 t0_0 t0_1 t1_0 t2_0 t2_1 t3_0).2.1 (F_NH_keepWhole x2 t0_0 t0_1 t1_0 t2_0 t2_1 t3_0).2.2.1 (F_NH_keepWhole x2 t0_0 t0_1 t1_0 t2_0 t2_1 t3_0).2.2.2 := by
  have e68 : (68 : Int32).toInt = 68 := rfl
  unfold S_NH_keepWhole F_NH_keepWhole
  rw [v_canH0, v_canH1]
  by_cases g : 2048 < F_Big_bitLength 220 t0_0 t0_1 t1_0
  · rw [if_pos g, if_pos g, if_neg (by decide), if_neg (by decide)]
    exact ⟨trivial, hw⟩
  · rw [if_neg g, if_neg g, if_pos rfl, if_pos rfl]
    have g2 := q_nltI g
    have hB := e2048b (W_bits (x := 2048) h g2)
    have s := h.sB hB
    exact ⟨⟨h0, h9, trivial⟩, ⟨v, W_copy (R := 68) (s := t2_0) (neg := t2_1) (f := t3_0) h (by omega) (by decide), hB⟩⟩
theorem T_keepDecimal {x2 : Int32} {t0_0 : Int64} {t0_1 : Int32} {t1_0 : Int32} {t1_1 : Int32} {t2_0 : (Nat → Int32)} {t3_0 : Int32} {t3_1 : Int32} {t4_0 : (Nat → Int32)} {t5_0 : Int32} {t5_1 : Int32} {t6_0 : Int32} {t6_1 : Int32} {t7_0 : (Nat → Int32)} (h : bK t1_0 t1_1 t2_0) (hd : rD t6_0 t6_1 t7_0 t5_0 t5_1) (h0 : 0 ≤ x2.toInt) (h9 : x2.toInt ≤ 9) : (S_NH_keepDecimal x2 t0_0 t0_1 t1_0 t1_1 t2_0 t3_0 t3_1 t4_0 t5_0 t5_1 t6_0 t6_1 t7_0) ∧ rD (F_NH_keepDecimal x2 t0_0 t0_1 t1_0 t1_1 t2_0 t3_0 t3_1 t4_0 t5_0 t5_1 t6_0 t6_1 t7_0).2.2.2.2.2.2.1 (F_NH_keepDecimal x2 t0_0 t0_1 t1_0 t1_1 t2_0 t3_0 t3_1 t4_0 t5_0 t5_1 t6_0 t6_1 t7_0).2.2.2.2.2.2.2.1 (F_NH_keepDecimal x2 t0_0 t0_1 t1_0 t1_1 t2_0 t3_0 t3_1 t4_0 t5_0 t5_1 t6_0 t6_1 t7_0).2.2.2.2.2.2.2.2 (F_NH_keepDecimal x2 t0_0 t0_1 t1_0 t1_1 t2_0 t3_0 t3_1 t4_0 t5_0 t5_1 t6_0 t6_1 t7_0).2.2.2.2.1 (F_NH_keepDecimal x2 t0_0 t0_1 t1_0 t1_1 t2_0 t3_0 t3_1 t4_0 t5_0 t5_1 t6_0 t6_1 t7_0).2.2.2.2.2.1 := by
  obtain ⟨v, hv, hB⟩ := h
  unfold S_NH_keepDecimal F_NH_keepDecimal
  have st := T_settle (x3 := t0_0) (R2 := 108) (t0_0 := t3_0) (t0_1 := t3_1) (t1_0 := t4_0) hv hB (by decide) trivial (by decide) (by decide) hd
  have st2 := st.2.2.2
  refine ⟨⟨h0, h9, ⟨trivial, st.1⟩, ?_⟩, ?_⟩
  · unfold S_NH_keepDecimal_c24
    split <;> trivial
  · generalize F_DW_settle 220 t0_0 108 t3_0 t3_1 t4_0 t1_0 t1_1 t2_0 t5_0 t5_1 t6_0 t6_1 t7_0 = p74 at st2 ⊢
    unfold F_NH_keepDecimal_c24
    split
    · exact st2
    · exact st2
