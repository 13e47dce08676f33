/-! values, for whole: the reference's decimals of others -/
theorem y_exx {P T : Nat} {l : Int} {k : Int32} (hk : yKnd k P T l) {x : Int64} (hf : yEx P T (yu x) ≠ T) : ∃ u s : Nat, yEq (yNx P T (yu x)) (yPx l (yEx P T (yu x))) u s ∧ s ≤ 1074 := by
  rcases hk with ⟨_, a, b, c⟩ | ⟨_, a, b, c⟩
  · subst a b c
    obtain ⟨u, s, h1, _, h2, _⟩ := V_exactly (x2 := x) (t0_0 := 0) (t0_1 := 0) (t1_0 := fun _ => 0) yF_w hf
    exact ⟨u, s, h1, h2⟩
  · subst a b c
    obtain ⟨u, s, h1, _, h2, _⟩ := V_exactly (x2 := x) (t0_0 := 0) (t0_1 := 0) (t1_0 := fun _ => 0) yF_n hf
    exact ⟨u, s, h1, h2⟩
theorem V_mex {x2 : Int32} {x3 : Int64} {x4 : Int32} {N5 : Int32} {t0_0 : Int32} {t0_1 : Int32} {t0_2 : Int32} {t1_0 : Int32} {t1_1 : Int32} {t1_2 : Int32} {t1_3 : Int32} {t1_4 : Int64} {t1_5 : Int32} {t1_6 : Int32} {t1_7 : Int64} {t1_8 : Int32} {t1_9 : Int64} {t1_10 : Int32} {t2_0 : (Nat → Int32)} {t3_0 : (Nat → Int32)} {t4_0 : (Nat → Int32)} {t5_0 : (Nat → Int32)} {t6_0 : (Nat → Int32)} {t7_0 : (Nat → Int32)} {P T pl u s c W e : Nat} {l0 : Int} {t : List Nat} (hk : yKnd x2 P T l0) (hb : yBit P T (yu x3)) (hf : yEx P T (yu x3) ≠ T) (h4 : x4.toInt = (pl : Int)) (hpl : pl ≤ 1100) (h5 : N5 = 4100) (hE : yEq (yNx P T (yu x3)) (yPx l0 (yEx P T (yu x3))) u s) (hs : s ≤ 1074) (hW : W = yRk 0 u c ((c : Int) - s + pl)) (he : yDt W e) (ht : t = yMin (ySx P T (yu x3) = 1) ++ yFix W pl e) : (F_NM_exact x2 x3 x4 N5 t0_0 t0_1 t0_2 t1_0 t1_1 t1_2 t1_3 t1_4 t1_5 t1_6 t1_7 t1_8 t1_9 t1_10 t2_0 t3_0 t4_0 t5_0 t6_0 t7_0).1.toInt = (t.length : Int) ∧ t.length ≤ 1600 ∧ yTr (F_NM_exact x2 x3 x4 N5 t0_0 t0_1 t0_2 t1_0 t1_1 t1_2 t1_3 t1_4 t1_5 t1_6 t1_7 t1_8 t1_9 t1_10 t2_0 t3_0 t4_0 t5_0 t6_0 t7_0).2.2.2.2.2.2.2.2.2.2.2.2.2.2.2.2.2 t.length (yBr t) := by
  subst h5
  unfold F_NM_exact
  rcases hk with ⟨k, a, b, d⟩ | ⟨k, a, b, d⟩
  · have hg : yG 0 P T l0 := Or.inl ⟨rfl, a, b, d⟩
    rw [if_neg (by rw [k]; decide)]
    have w := (V_FRfx (x2 := x3) (x3 := 0) (x4 := x4) (x5 := 0) (t0_0 := t1_0) (t0_1 := t1_1) (t0_2 := t1_2) (t0_3 := t1_3) (t0_4 := t1_4) (t0_5 := t1_5) (t0_6 := t1_6) (t0_7 := t1_7) (t0_8 := t1_8) (t0_9 := t1_9) (t0_10 := t1_10) (t1_0 := t2_0) (t2_0 := t3_0) (t3_0 := t4_0) (t4_0 := t5_0) (t5_0 := t6_0) hg hb hf h4 hpl (by decide) hE hs hW he).2
    have q := (T_FR_fixed (x2 := x3) (x3 := 0) (x4 := x4) (x5 := 0) (t0_0 := t1_0) (t0_1 := t1_1) (t0_2 := t1_2) (t0_3 := t1_3) (t0_4 := t1_4) (t0_5 := t1_5) (t0_6 := t1_6) (t0_7 := t1_7) (t0_8 := t1_8) (t0_9 := t1_9) (t0_10 := t1_10) (t1_0 := t2_0) (t2_0 := t3_0) (t3_0 := t4_0) (t4_0 := t5_0) (t5_0 := t6_0)).2
    revert w q
    generalize F_FR_fixed x3 0 x4 0 t1_0 t1_1 t1_2 t1_3 t1_4 t1_5 t1_6 t1_7 t1_8 t1_9 t1_10 t2_0 t3_0 t4_0 t5_0 t6_0 = p
    intro w q
    rw [← ht] at w
    unfold F_NM_exact_c18
    have hlen : t.length ≤ 1600 := by have a := w.1; have b := q.2; omega
    have ld := y_ldG (N1 := 1600) (r := t7_0) w.1 (by omega) (by show (t.length : Int) ≤ 1600; omega) (by decide) (yRt_tr w)
    generalize F_NM_load 1600 p.1 4100 p.2.2.2.2.2.2.2.2.2.2.2.2.2.2.2.2 t7_0 = r at ld ⊢
    unfold F_NM_exact_c34
    refine ⟨?_, hlen, ld.2⟩
    show r.1.toInt = _
    rw [ld.1]
    exact w.1
  · have hg : yG 1 P T l0 := Or.inr ⟨rfl, a, b, d⟩
    rw [if_pos k]
    have w := (V_FRfx (x2 := x3) (x3 := 1) (x4 := x4) (x5 := 0) (t0_0 := t1_0) (t0_1 := t1_1) (t0_2 := t1_2) (t0_3 := t1_3) (t0_4 := t1_4) (t0_5 := t1_5) (t0_6 := t1_6) (t0_7 := t1_7) (t0_8 := t1_8) (t0_9 := t1_9) (t0_10 := t1_10) (t1_0 := t2_0) (t2_0 := t3_0) (t3_0 := t4_0) (t4_0 := t5_0) (t5_0 := t6_0) hg hb hf h4 hpl (by decide) hE hs hW he).2
    have q := (T_FR_fixed (x2 := x3) (x3 := 1) (x4 := x4) (x5 := 0) (t0_0 := t1_0) (t0_1 := t1_1) (t0_2 := t1_2) (t0_3 := t1_3) (t0_4 := t1_4) (t0_5 := t1_5) (t0_6 := t1_6) (t0_7 := t1_7) (t0_8 := t1_8) (t0_9 := t1_9) (t0_10 := t1_10) (t1_0 := t2_0) (t2_0 := t3_0) (t3_0 := t4_0) (t4_0 := t5_0) (t5_0 := t6_0)).2
    revert w q
    generalize F_FR_fixed x3 1 x4 0 t1_0 t1_1 t1_2 t1_3 t1_4 t1_5 t1_6 t1_7 t1_8 t1_9 t1_10 t2_0 t3_0 t4_0 t5_0 t6_0 = p
    intro w q
    rw [← ht] at w
    unfold F_NM_exact_c18_3
    have hlen : t.length ≤ 1600 := by have a := w.1; have b := q.2; omega
    have ld := y_ldG (N1 := 1600) (r := t7_0) w.1 (by omega) (by show (t.length : Int) ≤ 1600; omega) (by decide) (yRt_tr w)
    generalize F_NM_load 1600 p.1 4100 p.2.2.2.2.2.2.2.2.2.2.2.2.2.2.2.2 t7_0 = r at ld ⊢
    unfold F_NM_exact_c34_4
    refine ⟨?_, hlen, ld.2⟩
    show r.1.toInt = _
    rw [ld.1]
    exact w.1
theorem y_le0 {x : Int32} (h : x = 3) : ¬ x ≤ 0 := by rw [h]; decide
theorem V_td0 {x2 : Int32} {x3 : Int32} {x4 : Int32} {t0_0 : Int32} {t0_1 : Int32} {t0_2 : Int32} {t1_0 : Int32} {t1_1 : Int32} {t1_2 : Int32} {t1_3 : Int32} {t1_4 : Int32} {t1_5 : Int32} {t1_6 : Int32} {t2_0 : (Nat → Int32)} {t3_0 : (Nat → Int32)} {t4_0 : (Nat → Int32)} {t5_0 : (Nat → Int32)} {t6_0 : Int32} {t6_1 : Int32} {t6_2 : Int32} {t6_3 : Int64} {t6_4 : Int32} {t6_5 : Int32} {t6_6 : Int32} {t6_7 : Int32} {t6_8 : Int32} {t6_9 : Int32} {t6_10 : Int32} {t7_0 : (Nat → Int32)} {t8_0 : (Nat → Int32)} {t9_0 : (Nat → Int32)} {t10_0 : (Nat → Int32)} {t11_0 : (Nat → Int32)} {t12_0 : (Nat → Int32)} {t13_0 : Int32} {t13_1 : Int32} {t13_2 : Int32} {t13_3 : Int32} {t13_4 : Int64} {t13_5 : Int32} {t13_6 : Int32} {t13_7 : Int64} {t13_8 : Int32} {t13_9 : Int64} {t13_10 : Int32} {t14_0 : (Nat → Int32)} {t15_0 : (Nat → Int32)} {t16_0 : (Nat → Int32)} {t17_0 : (Nat → Int32)} {t18_0 : (Nat → Int32)} {t19_0 : (Nat → Int64)} {W : Nat → Int} {D : Nat → Int × Int} (h2 : x2 = 0) (hW : wRv t2_0 t3_0 W) (hD : dRv t8_0 t9_0 t10_0 t11_0 D) (h3 : yReg x3) (h4 : yReg x4) : dAn x4 D (some (W x3.toNatClampNeg, 0)) 0 2 (F_NM_toDecimal x2 x3 x4 t0_0 t0_1 t0_2 t1_0 t1_1 t1_2 t1_3 t1_4 t1_5 t1_6 t2_0 t3_0 t4_0 t5_0 t6_0 t6_1 t6_2 t6_3 t6_4 t6_5 t6_6 t6_7 t6_8 t6_9 t6_10 t7_0 t8_0 t9_0 t10_0 t11_0 t12_0 t13_0 t13_1 t13_2 t13_3 t13_4 t13_5 t13_6 t13_7 t13_8 t13_9 t13_10 t14_0 t15_0 t16_0 t17_0 t18_0 t19_0).1 (F_NM_toDecimal x2 x3 x4 t0_0 t0_1 t0_2 t1_0 t1_1 t1_2 t1_3 t1_4 t1_5 t1_6 t2_0 t3_0 t4_0 t5_0 t6_0 t6_1 t6_2 t6_3 t6_4 t6_5 t6_6 t6_7 t6_8 t6_9 t6_10 t7_0 t8_0 t9_0 t10_0 t11_0 t12_0 t13_0 t13_1 t13_2 t13_3 t13_4 t13_5 t13_6 t13_7 t13_8 t13_9 t13_10 t14_0 t15_0 t16_0 t17_0 t18_0 t19_0).2.2.2.2.2.2.2.2.2.2.2.2.2.2.2.2.2.2.2.2.2.2.1 (F_NM_toDecimal x2 x3 x4 t0_0 t0_1 t0_2 t1_0 t1_1 t1_2 t1_3 t1_4 t1_5 t1_6 t2_0 t3_0 t4_0 t5_0 t6_0 t6_1 t6_2 t6_3 t6_4 t6_5 t6_6 t6_7 t6_8 t6_9 t6_10 t7_0 t8_0 t9_0 t10_0 t11_0 t12_0 t13_0 t13_1 t13_2 t13_3 t13_4 t13_5 t13_6 t13_7 t13_8 t13_9 t13_10 t14_0 t15_0 t16_0 t17_0 t18_0 t19_0).2.2.2.2.2.2.2.2.2.2.2.2.2.2.2.2.2.2.2.2.2.2.2.1 (F_NM_toDecimal x2 x3 x4 t0_0 t0_1 t0_2 t1_0 t1_1 t1_2 t1_3 t1_4 t1_5 t1_6 t2_0 t3_0 t4_0 t5_0 t6_0 t6_1 t6_2 t6_3 t6_4 t6_5 t6_6 t6_7 t6_8 t6_9 t6_10 t7_0 t8_0 t9_0 t10_0 t11_0 t12_0 t13_0 t13_1 t13_2 t13_3 t13_4 t13_5 t13_6 t13_7 t13_8 t13_9 t13_10 t14_0 t15_0 t16_0 t17_0 t18_0 t19_0).2.2.2.2.2.2.2.2.2.2.2.2.2.2.2.2.2.2.2.2.2.2.2.2.1 (F_NM_toDecimal x2 x3 x4 t0_0 t0_1 t0_2 t1_0 t1_1 t1_2 t1_3 t1_4 t1_5 t1_6 t2_0 t3_0 t4_0 t5_0 t6_0 t6_1 t6_2 t6_3 t6_4 t6_5 t6_6 t6_7 t6_8 t6_9 t6_10 t7_0 t8_0 t9_0 t10_0 t11_0 t12_0 t13_0 t13_1 t13_2 t13_3 t13_4 t13_5 t13_6 t13_7 t13_8 t13_9 t13_10 t14_0 t15_0 t16_0 t17_0 t18_0 t19_0).2.2.2.2.2.2.2.2.2.2.2.2.2.2.2.2.2.2.2.2.2.2.2.2.2.1 := by
  unfold F_NM_toDecimal
  rw [if_pos h2]
  obtain ⟨c, hc⟩ := yDB_ex (b := 10) (W x3.toNatClampNeg).natAbs (by decide)
  have w := (V_WRwr (b := 10) (x2 := x3) (x3 := 10) (t0_0 := t1_0) (t0_1 := t1_1) (t0_2 := t1_2) (t0_3 := t1_3) (t0_4 := t1_4) (t0_5 := t1_5) (t0_6 := t1_6) (t3_0 := t4_0) (t4_0 := t5_0) hW (by have := h3.1; have := h3.2; omega) rfl (by decide) hc).1
  have q := (T_WR_written (x2 := x3) (x3 := 10) (t0_0 := t1_0) (t0_1 := t1_1) (t0_2 := t1_2) (t0_3 := t1_3) (t0_4 := t1_4) (t0_5 := t1_5) (t0_6 := t1_6) (t3_0 := t4_0) (t4_0 := t5_0) hW.R).2
  revert w q
  generalize F_WR_written x3 10 t1_0 t1_1 t1_2 t1_3 t1_4 t1_5 t1_6 t2_0 t3_0 t4_0 t5_0 = p
  intro w q
  obtain ⟨d, e, d1, d2, d3⟩ := y_wtx hc
  generalize yWtx 10 (W x3.toNatClampNeg) c = t at w e
  unfold F_NM_toDecimal_c21
  have hlen : t.length ≤ 2100 := by have a := w.1; have b := q.2; omega
  have ld := y_ldG (N1 := 2100) (r := t7_0) w.1 (by omega) (by show (t.length : Int) ≤ 2100; omega) (by decide) (yRt_tr w)
  generalize F_NM_load 2100 p.1 4100 p.2.2.2.2.2.2.2.2.2 t7_0 = r at ld ⊢
  unfold F_NM_toDecimal_c31
  have rd := V_drd (x2 := x4) (t0_0 := t6_0) (t0_1 := r.1) (t0_2 := t6_2) (t0_3 := t6_3) (t0_4 := t6_4) (t0_5 := t6_5) (t0_6 := t6_6) (t0_7 := t6_7) (t0_8 := t6_8) (t0_9 := t6_9) (t0_10 := t6_10) (t6_0 := t12_0) d1 d2 yDi_nil (Or.inl ⟨rfl, rfl⟩) (by rw [List.append_nil]; exact e) (by omega) ld.2 (by rw [ld.1]; exact w.1) h4 hD
  have ev : yNv (W x3.toNatClampNeg < 0) (yLV (d ++ []) 0) = W x3.toNatClampNeg := by
    rw [List.append_nil, d3]
    unfold yNv
    split <;> omega
  rw [ev] at rd
  generalize F_DR_read x4 t6_0 r.1 t6_2 t6_3 t6_4 t6_5 t6_6 t6_7 t6_8 t6_9 t6_10 r.2 t8_0 t9_0 t10_0 t11_0 t12_0 = s at rd ⊢
  unfold F_NM_toDecimal_c127_7
  rcases rd with ⟨a, b, g⟩ | ⟨a, b, g⟩
  · rw [if_pos (by rw [b]; decide)]
    exact Or.inl ⟨_, rfl, a, rfl, g⟩
  · rw [if_neg (y_le0 b)]
    exact Or.inr ⟨Or.inr ⟨_, rfl, a⟩, rfl, g⟩
theorem V_tdJ {K_F_NM_toDecimal_L62 : Int32 → (Int32 × Int32 × Int32 × Int32 × Int32 × Int32 × Int32 × Int32 × (Nat → Int32) × (Nat → Int32) × Int32 × Int32 × Int32 × Int64 × Int32 × Int32 × Int32 × Int32 × Int32 × Int32 × Int32 × (Nat → Int32) × (Nat → Int32) × (Nat → Int32) × (Nat → Int32) × (Nat → Int32) × (Nat → Int32) × Int32 × Int32 × Int32 × Int32 × Int64 × Int32 × Int32 × Int64 × Int32 × Int64 × Int32 × (Nat → Int32) × (Nat → Int32) × (Nat → Int32) × (Nat → Int32) × (Nat → Int32))} {x2 : Int32} {x3 : Int32} {x4 : Int32} {t0_0 : Int32} {t0_1 : Int32} {t0_2 : Int32} {t1_0 : Int32} {t1_1 : Int32} {t1_2 : Int32} {t1_3 : Int32} {t1_4 : Int32} {t1_5 : Int32} {t1_6 : Int32} {t2_0 : (Nat → Int32)} {t3_0 : (Nat → Int32)} {t4_0 : (Nat → Int32)} {t5_0 : (Nat → Int32)} {t6_0 : Int32} {t6_1 : Int32} {t6_2 : Int32} {t6_3 : Int64} {t6_4 : Int32} {t6_5 : Int32} {t6_6 : Int32} {t6_7 : Int32} {t6_8 : Int32} {t6_9 : Int32} {t6_10 : Int32} {t7_0 : (Nat → Int32)} {t8_0 : (Nat → Int32)} {t9_0 : (Nat → Int32)} {t10_0 : (Nat → Int32)} {t11_0 : (Nat → Int32)} {t12_0 : (Nat → Int32)} {t13_0 : Int32} {t13_1 : Int32} {t13_2 : Int32} {t13_3 : Int32} {t13_4 : Int64} {t13_5 : Int32} {t13_6 : Int32} {t13_7 : Int64} {t13_8 : Int32} {t13_9 : Int64} {t13_10 : Int32} {t14_0 : (Nat → Int32)} {t15_0 : (Nat → Int32)} {t16_0 : (Nat → Int32)} {t17_0 : (Nat → Int32)} {t18_0 : (Nat → Int32)} {t19_0 : (Nat → Int64)} {p142 : (Int32 × Int32 × Int32 × Int32 × Int32 × Int64 × Int32 × Int32 × Int64 × Int32 × Int64 × Int32 × (Nat → Int32) × (Nat → Int32) × (Nat → Int32) × (Nat → Int32) × (Nat → Int32) × (Nat → Int32))} {f130 : (Nat → Int32)} {y109 : Int32} {y110 : Int32} {y111 : Int32} {y112 : Int32} {y113 : Int64} {y114 : Int32} {y115 : Int32} {y116 : Int64} {y117 : Int32} {y118 : Int64} {y119 : Int32} {f120 : (Nat → Int32)} {f122 : (Nat → Int32)} {f124 : (Nat → Int32)} {f126 : (Nat → Int32)} {f128 : (Nat → Int32)} {lx168 : Int32} {lx189 : Int32} {D : Nat → Int × Int} {neg : Prop} [Decidable neg] {d1 d2 tl t : List Nat} (h1 : yDi d1) (h0 : 0 < d1.length) (hd2 : yDi d2) (ht : (tl = [] ∧ d2 = []) ∨ tl = 46 :: d2) (e : t = yMin neg ++ (d1 ++ tl)) (hl : t.length ≤ 4100) (hT : yTr f130 t.length (yBr t)) (hs : lx189.toInt = (t.length : Int)) (h4 : yReg x4) (hD : dRv t8_0 t9_0 t10_0 t11_0 D) : dAn x4 D (some (yNv neg (yLV (d1 ++ d2) 0), (d2.length : Int))) 0 2 (F_NM_toDecimal_J111 K_F_NM_toDecimal_L62 x2 x3 x4 t0_0 t0_1 t0_2 t1_0 t1_1 t1_2 t1_3 t1_4 t1_5 t1_6 t2_0 t3_0 t4_0 t5_0 t6_0 t6_1 t6_2 t6_3 t6_4 t6_5 t6_6 t6_7 t6_8 t6_9 t6_10 t7_0 t8_0 t9_0 t10_0 t11_0 t12_0 t13_0 t13_1 t13_2 t13_3 t13_4 t13_5 t13_6 t13_7 t13_8 t13_9 t13_10 t14_0 t15_0 t16_0 t17_0 t18_0 t19_0 p142 f130 y109 y110 y111 y112 y113 y114 y115 y116 y117 y118 y119 f120 f122 f124 f126 f128 lx168 lx189).1 (F_NM_toDecimal_J111 K_F_NM_toDecimal_L62 x2 x3 x4 t0_0 t0_1 t0_2 t1_0 t1_1 t1_2 t1_3 t1_4 t1_5 t1_6 t2_0 t3_0 t4_0 t5_0 t6_0 t6_1 t6_2 t6_3 t6_4 t6_5 t6_6 t6_7 t6_8 t6_9 t6_10 t7_0 t8_0 t9_0 t10_0 t11_0 t12_0 t13_0 t13_1 t13_2 t13_3 t13_4 t13_5 t13_6 t13_7 t13_8 t13_9 t13_10 t14_0 t15_0 t16_0 t17_0 t18_0 t19_0 p142 f130 y109 y110 y111 y112 y113 y114 y115 y116 y117 y118 y119 f120 f122 f124 f126 f128 lx168 lx189).2.2.2.2.2.2.2.2.2.2.2.2.2.2.2.2.2.2.2.2.2.2.1 (F_NM_toDecimal_J111 K_F_NM_toDecimal_L62 x2 x3 x4 t0_0 t0_1 t0_2 t1_0 t1_1 t1_2 t1_3 t1_4 t1_5 t1_6 t2_0 t3_0 t4_0 t5_0 t6_0 t6_1 t6_2 t6_3 t6_4 t6_5 t6_6 t6_7 t6_8 t6_9 t6_10 t7_0 t8_0 t9_0 t10_0 t11_0 t12_0 t13_0 t13_1 t13_2 t13_3 t13_4 t13_5 t13_6 t13_7 t13_8 t13_9 t13_10 t14_0 t15_0 t16_0 t17_0 t18_0 t19_0 p142 f130 y109 y110 y111 y112 y113 y114 y115 y116 y117 y118 y119 f120 f122 f124 f126 f128 lx168 lx189).2.2.2.2.2.2.2.2.2.2.2.2.2.2.2.2.2.2.2.2.2.2.2.1 (F_NM_toDecimal_J111 K_F_NM_toDecimal_L62 x2 x3 x4 t0_0 t0_1 t0_2 t1_0 t1_1 t1_2 t1_3 t1_4 t1_5 t1_6 t2_0 t3_0 t4_0 t5_0 t6_0 t6_1 t6_2 t6_3 t6_4 t6_5 t6_6 t6_7 t6_8 t6_9 t6_10 t7_0 t8_0 t9_0 t10_0 t11_0 t12_0 t13_0 t13_1 t13_2 t13_3 t13_4 t13_5 t13_6 t13_7 t13_8 t13_9 t13_10 t14_0 t15_0 t16_0 t17_0 t18_0 t19_0 p142 f130 y109 y110 y111 y112 y113 y114 y115 y116 y117 y118 y119 f120 f122 f124 f126 f128 lx168 lx189).2.2.2.2.2.2.2.2.2.2.2.2.2.2.2.2.2.2.2.2.2.2.2.2.1 (F_NM_toDecimal_J111 K_F_NM_toDecimal_L62 x2 x3 x4 t0_0 t0_1 t0_2 t1_0 t1_1 t1_2 t1_3 t1_4 t1_5 t1_6 t2_0 t3_0 t4_0 t5_0 t6_0 t6_1 t6_2 t6_3 t6_4 t6_5 t6_6 t6_7 t6_8 t6_9 t6_10 t7_0 t8_0 t9_0 t10_0 t11_0 t12_0 t13_0 t13_1 t13_2 t13_3 t13_4 t13_5 t13_6 t13_7 t13_8 t13_9 t13_10 t14_0 t15_0 t16_0 t17_0 t18_0 t19_0 p142 f130 y109 y110 y111 y112 y113 y114 y115 y116 y117 y118 y119 f120 f122 f124 f126 f128 lx168 lx189).2.2.2.2.2.2.2.2.2.2.2.2.2.2.2.2.2.2.2.2.2.2.2.2.2.1 := by
  unfold F_NM_toDecimal_J111
  have rd := V_drd (x2 := x4) (t0_0 := t6_0) (t0_1 := lx189) (t0_2 := t6_2) (t0_3 := t6_3) (t0_4 := t6_4) (t0_5 := t6_5) (t0_6 := t6_6) (t0_7 := t6_7) (t0_8 := t6_8) (t0_9 := t6_9) (t0_10 := t6_10) (t6_0 := t12_0) h1 h0 hd2 ht e hl hT hs h4 hD
  generalize F_DR_read x4 t6_0 lx189 t6_2 t6_3 t6_4 t6_5 t6_6 t6_7 t6_8 t6_9 t6_10 f130 t8_0 t9_0 t10_0 t11_0 t12_0 = s at rd ⊢
  unfold F_NM_toDecimal_c127
  rcases rd with ⟨a, b, g⟩ | ⟨a, b, g⟩
  · rw [if_pos (by rw [b]; decide)]
    exact Or.inl ⟨_, rfl, a, rfl, g⟩
  · rw [if_neg (y_le0 b)]
    exact Or.inr ⟨Or.inr ⟨_, rfl, a⟩, rfl, g⟩
theorem y_sub1 {x : Int32} {k : Nat} (h : x.toInt = (k : Int)) (hk : 1 ≤ k) : (x - 1).toNatClampNeg = k - 1 ∧ (x - 1).toInt = ((k - 1 : Nat) : Int) := by
  have e : (x - 1) = (x + -1) := by
    rw [Int32.sub_eq_add_neg]
  have r := y_wm1 h hk
  rw [e]
  refine ⟨?_, r⟩
  show (x + -1).toInt.toNat = _
  rw [r]
  rfl
theorem yBr_rep {a b : List Nat} {n i : Nat} (h1 : a.length ≤ i) (h2 : i < a.length + n) (e : b = a ++ List.replicate n 48) : yBr b i = 48 := by
  have := yBr_b (l := a) (m := List.replicate n 48) (i := i - a.length)
  rw [show a.length + (i - a.length) = i by omega, ← e] at this
  rw [this]
  unfold yBr
  rw [List.getD_eq_getElem?_getD, List.getElem?_replicate, if_pos (by omega)]
  rfl
theorem V_tdL {x2 : Int32} {x3 : Int32} {x4 : Int32} {t0_0 : Int32} {t0_1 : Int32} {t0_2 : Int32} {t1_0 : Int32} {t1_1 : Int32} {t1_2 : Int32} {t1_3 : Int32} {t1_4 : Int32} {t1_5 : Int32} {t1_6 : Int32} {t2_0 : (Nat → Int32)} {t3_0 : (Nat → Int32)} {t4_0 : (Nat → Int32)} {t5_0 : (Nat → Int32)} {t6_0 : Int32} {t6_1 : Int32} {t6_2 : Int32} {t6_3 : Int64} {t6_4 : Int32} {t6_5 : Int32} {t6_6 : Int32} {t6_7 : Int32} {t6_8 : Int32} {t6_9 : Int32} {t6_10 : Int32} {t7_0 : (Nat → Int32)} {t8_0 : (Nat → Int32)} {t9_0 : (Nat → Int32)} {t10_0 : (Nat → Int32)} {t11_0 : (Nat → Int32)} {t12_0 : (Nat → Int32)} {t13_0 : Int32} {t13_1 : Int32} {t13_2 : Int32} {t13_3 : Int32} {t13_4 : Int64} {t13_5 : Int32} {t13_6 : Int32} {t13_7 : Int64} {t13_8 : Int32} {t13_9 : Int64} {t13_10 : Int32} {t14_0 : (Nat → Int32)} {t15_0 : (Nat → Int32)} {t16_0 : (Nat → Int32)} {t17_0 : (Nat → Int32)} {t18_0 : (Nat → Int32)} {t19_0 : (Nat → Int64)} {p142 : (Int32 × Int32 × Int32 × Int32 × Int32 × Int64 × Int32 × Int32 × Int64 × Int32 × Int64 × Int32 × (Nat → Int32) × (Nat → Int32) × (Nat → Int32) × (Nat → Int32) × (Nat → Int32) × (Nat → Int32))} {f130 : (Nat → Int32)} {y109 : Int32} {y110 : Int32} {y111 : Int32} {y112 : Int32} {y113 : Int64} {y114 : Int32} {y115 : Int32} {y116 : Int64} {y117 : Int32} {y118 : Int64} {y119 : Int32} {f120 : (Nat → Int32)} {f122 : (Nat → Int32)} {f124 : (Nat → Int32)} {f126 : (Nat → Int32)} {f128 : (Nat → Int32)} {D : Nat → Int × Int} {neg : Prop} [Decidable neg] {d1 d2 a t : List Nat} {u m : Nat} (h1 : yDi d1) (h0 : 0 < d1.length) (hd2 : yDi d2) (hu : 0 < d2.length → yBr d2 (d2.length - 1) ≠ 48) (ea : a = yMin neg ++ (d1 ++ (46 :: d2))) (e : t = a ++ List.replicate m 48) (hl : t.length ≤ 1600) (hT : yTr f130 t.length (yBr t)) (h4 : yReg x4) (hD : dRv t8_0 t9_0 t10_0 t11_0 D) : ∀ (n : Nat) (lx168 : Int32), ∀ j : Nat, lx168.toInt = ((a.length + j : Nat) : Int) → j ≤ m → j < n → dAn x4 D (some (yNv neg (yLV (d1 ++ d2) 0), (d2.length : Int))) 0 2 (F_NM_toDecimal_L62 x2 x3 x4 t0_0 t0_1 t0_2 t1_0 t1_1 t1_2 t1_3 t1_4 t1_5 t1_6 t2_0 t3_0 t4_0 t5_0 t6_0 t6_1 t6_2 t6_3 t6_4 t6_5 t6_6 t6_7 t6_8 t6_9 t6_10 t7_0 t8_0 t9_0 t10_0 t11_0 t12_0 t13_0 t13_1 t13_2 t13_3 t13_4 t13_5 t13_6 t13_7 t13_8 t13_9 t13_10 t14_0 t15_0 t16_0 t17_0 t18_0 t19_0 p142 f130 y109 y110 y111 y112 y113 y114 y115 y116 y117 y118 y119 f120 f122 f124 f126 f128 n lx168).1 (F_NM_toDecimal_L62 x2 x3 x4 t0_0 t0_1 t0_2 t1_0 t1_1 t1_2 t1_3 t1_4 t1_5 t1_6 t2_0 t3_0 t4_0 t5_0 t6_0 t6_1 t6_2 t6_3 t6_4 t6_5 t6_6 t6_7 t6_8 t6_9 t6_10 t7_0 t8_0 t9_0 t10_0 t11_0 t12_0 t13_0 t13_1 t13_2 t13_3 t13_4 t13_5 t13_6 t13_7 t13_8 t13_9 t13_10 t14_0 t15_0 t16_0 t17_0 t18_0 t19_0 p142 f130 y109 y110 y111 y112 y113 y114 y115 y116 y117 y118 y119 f120 f122 f124 f126 f128 n lx168).2.2.2.2.2.2.2.2.2.2.2.2.2.2.2.2.2.2.2.2.2.2.1 (F_NM_toDecimal_L62 x2 x3 x4 t0_0 t0_1 t0_2 t1_0 t1_1 t1_2 t1_3 t1_4 t1_5 t1_6 t2_0 t3_0 t4_0 t5_0 t6_0 t6_1 t6_2 t6_3 t6_4 t6_5 t6_6 t6_7 t6_8 t6_9 t6_10 t7_0 t8_0 t9_0 t10_0 t11_0 t12_0 t13_0 t13_1 t13_2 t13_3 t13_4 t13_5 t13_6 t13_7 t13_8 t13_9 t13_10 t14_0 t15_0 t16_0 t17_0 t18_0 t19_0 p142 f130 y109 y110 y111 y112 y113 y114 y115 y116 y117 y118 y119 f120 f122 f124 f126 f128 n lx168).2.2.2.2.2.2.2.2.2.2.2.2.2.2.2.2.2.2.2.2.2.2.2.1 (F_NM_toDecimal_L62 x2 x3 x4 t0_0 t0_1 t0_2 t1_0 t1_1 t1_2 t1_3 t1_4 t1_5 t1_6 t2_0 t3_0 t4_0 t5_0 t6_0 t6_1 t6_2 t6_3 t6_4 t6_5 t6_6 t6_7 t6_8 t6_9 t6_10 t7_0 t8_0 t9_0 t10_0 t11_0 t12_0 t13_0 t13_1 t13_2 t13_3 t13_4 t13_5 t13_6 t13_7 t13_8 t13_9 t13_10 t14_0 t15_0 t16_0 t17_0 t18_0 t19_0 p142 f130 y109 y110 y111 y112 y113 y114 y115 y116 y117 y118 y119 f120 f122 f124 f126 f128 n lx168).2.2.2.2.2.2.2.2.2.2.2.2.2.2.2.2.2.2.2.2.2.2.2.2.1 (F_NM_toDecimal_L62 x2 x3 x4 t0_0 t0_1 t0_2 t1_0 t1_1 t1_2 t1_3 t1_4 t1_5 t1_6 t2_0 t3_0 t4_0 t5_0 t6_0 t6_1 t6_2 t6_3 t6_4 t6_5 t6_6 t6_7 t6_8 t6_9 t6_10 t7_0 t8_0 t9_0 t10_0 t11_0 t12_0 t13_0 t13_1 t13_2 t13_3 t13_4 t13_5 t13_6 t13_7 t13_8 t13_9 t13_10 t14_0 t15_0 t16_0 t17_0 t18_0 t19_0 p142 f130 y109 y110 y111 y112 y113 y114 y115 y116 y117 y118 y119 f120 f122 f124 f126 f128 n lx168).2.2.2.2.2.2.2.2.2.2.2.2.2.2.2.2.2.2.2.2.2.2.2.2.2.1 := by
  have ht : t.length = a.length + m := by rw [e, List.length_append, List.length_replicate]
  have ha : a.length = (yMin neg).length + d1.length + 1 + d2.length := by
    rw [ea, List.length_append, List.length_append, List.length_cons]
    omega
  intro n
  induction n with
  | zero =>
    intro lx168 j _ _ q
    exact absurd q (Nat.not_lt_zero _)
  | succ n ih =>
    intro lx168 j hj hm hn
    unfold F_NM_toDecimal_L62
    obtain ⟨s1, s2⟩ := y_sub1 hj (by omega)
    rw [s1]
    have row : ∀ i, i < t.length → (f130 i).toInt = yBr t i := hT
    by_cases j0 : j = 0
    · subst j0
      have r := row (a.length + 0 - 1) (by omega)
      have r2 : yBr t (a.length + 0 - 1) = yBr a (a.length - 1) := by
        rw [e, yBr_a (by omega)]
        rfl
      by_cases s0 : d2.length = 0
      · have d20 : d2 = [] := List.length_eq_zero_iff.mp s0
        have r3 : yBr a (a.length - 1) = 46 := by
          have := y_brS (neg := neg) (a := d1) (b := 46 :: d2) (i := 0)
          rw [← ea, show (yMin neg).length + d1.length + 0 = a.length - 1 by omega] at this
          exact this
        have c1 : ¬ (f130 (a.length + 0 - 1)) = 48 := fun q => by
          rw [q, r2, r3] at r
          exact absurd r (by decide)
        have c2 : (f130 (a.length + 0 - 1)) = 46 := Int32.toInt_inj.mp (by rw [r, r2, r3]; rfl)
        rw [if_neg c1, if_pos c2]
        have tl : (yMin neg ++ (d1 ++ [])).length = a.length - 1 := by rw [List.append_nil, List.length_append]; omega
        refine V_tdJ (t := yMin neg ++ (d1 ++ [])) h1 h0 hd2 (Or.inl ⟨rfl, d20⟩) rfl (by omega) (fun i hi => ?_) ?_ h4 hD
        · rw [row i (by omega), e, yBr_a (by omega), ea, d20]
          have l1 : yBr (yMin neg ++ (d1 ++ [46])) i = yBr (yMin neg ++ d1) i := by
            rw [← List.append_assoc]
            exact yBr_a (by rw [List.length_append]; omega)
          rw [l1, List.append_nil]
        · rw [s2, tl]
          rfl
      · have r3 : yBr a (a.length - 1) = yBr d2 (d2.length - 1) := by
          have := y_brS (neg := neg) (a := d1) (b := 46 :: d2) (i := d2.length)
          rw [← ea, show (yMin neg).length + d1.length + d2.length = a.length - 1 by omega] at this
          rw [this]
          obtain ⟨k, hk⟩ : ∃ k, d2.length = k + 1 := ⟨d2.length - 1, by omega⟩
          rw [hk]
          rfl
        have g := yBr_d hd2 (i := d2.length - 1) (by omega)
        have g2 := hu (by omega)
        have c1 : ¬ (f130 (a.length + 0 - 1)) = 48 := fun q => by
          rw [q, r2, r3] at r
          exact g2 r.symm
        have c2 : ¬ (f130 (a.length + 0 - 1)) = 46 := fun q => by
          rw [q, r2, r3] at r
          have : (46 : Int32).toInt = 46 := rfl
          omega
        rw [if_neg c1, if_neg c2]
        refine V_tdJ (t := a) h1 h0 hd2 (Or.inr rfl) ea (by omega) (fun i hi => ?_) hj h4 hD
        rw [row i (by omega), e, yBr_a hi]
    · have r := row (a.length + j - 1) (by omega)
      rw [yBr_rep (a := a) (n := m) (i := a.length + j - 1) (by omega) (by omega) e] at r
      rw [if_pos (Int32.toInt_inj.mp (by rw [r]; rfl))]
      exact ih (lx168 + -1) (j - 1) (by rw [y_wm1 hj (by omega)]; congr 1; omega) (by omega) (by omega)
theorem V_tdF {x2 : Int32} {x3 : Int32} {x4 : Int32} {t0_0 : Int32} {t0_1 : Int32} {t0_2 : Int32} {t1_0 : Int32} {t1_1 : Int32} {t1_2 : Int32} {t1_3 : Int32} {t1_4 : Int32} {t1_5 : Int32} {t1_6 : Int32} {t2_0 : (Nat → Int32)} {t3_0 : (Nat → Int32)} {t4_0 : (Nat → Int32)} {t5_0 : (Nat → Int32)} {t6_0 : Int32} {t6_1 : Int32} {t6_2 : Int32} {t6_3 : Int64} {t6_4 : Int32} {t6_5 : Int32} {t6_6 : Int32} {t6_7 : Int32} {t6_8 : Int32} {t6_9 : Int32} {t6_10 : Int32} {t7_0 : (Nat → Int32)} {t8_0 : (Nat → Int32)} {t9_0 : (Nat → Int32)} {t10_0 : (Nat → Int32)} {t11_0 : (Nat → Int32)} {t12_0 : (Nat → Int32)} {t13_0 : Int32} {t13_1 : Int32} {t13_2 : Int32} {t13_3 : Int32} {t13_4 : Int64} {t13_5 : Int32} {t13_6 : Int32} {t13_7 : Int64} {t13_8 : Int32} {t13_9 : Int64} {t13_10 : Int32} {t14_0 : (Nat → Int32)} {t15_0 : (Nat → Int32)} {t16_0 : (Nat → Int32)} {t17_0 : (Nat → Int32)} {t18_0 : (Nat → Int32)} {t19_0 : (Nat → Int64)} {D : Nat → Int × Int} {P T : Nat} {l0 : Int} {o : Option (Int × Int)} {w : Nat} (h2 : ¬ x2 = 0) (hk : yKnd x2 P T l0) (hb : yu (F_NM_bitsOf x2 x3 t0_0 t0_1 t0_2 t19_0) = w ∧ yBit P T w) (hf : yEx P T w ≠ T) (ho : yFD P T l0 w o) (hD : dRv t8_0 t9_0 t10_0 t11_0 D) (h4 : yReg x4) : dAn x4 D o 0 2 (F_NM_toDecimal x2 x3 x4 t0_0 t0_1 t0_2 t1_0 t1_1 t1_2 t1_3 t1_4 t1_5 t1_6 t2_0 t3_0 t4_0 t5_0 t6_0 t6_1 t6_2 t6_3 t6_4 t6_5 t6_6 t6_7 t6_8 t6_9 t6_10 t7_0 t8_0 t9_0 t10_0 t11_0 t12_0 t13_0 t13_1 t13_2 t13_3 t13_4 t13_5 t13_6 t13_7 t13_8 t13_9 t13_10 t14_0 t15_0 t16_0 t17_0 t18_0 t19_0).1 (F_NM_toDecimal x2 x3 x4 t0_0 t0_1 t0_2 t1_0 t1_1 t1_2 t1_3 t1_4 t1_5 t1_6 t2_0 t3_0 t4_0 t5_0 t6_0 t6_1 t6_2 t6_3 t6_4 t6_5 t6_6 t6_7 t6_8 t6_9 t6_10 t7_0 t8_0 t9_0 t10_0 t11_0 t12_0 t13_0 t13_1 t13_2 t13_3 t13_4 t13_5 t13_6 t13_7 t13_8 t13_9 t13_10 t14_0 t15_0 t16_0 t17_0 t18_0 t19_0).2.2.2.2.2.2.2.2.2.2.2.2.2.2.2.2.2.2.2.2.2.2.1 (F_NM_toDecimal x2 x3 x4 t0_0 t0_1 t0_2 t1_0 t1_1 t1_2 t1_3 t1_4 t1_5 t1_6 t2_0 t3_0 t4_0 t5_0 t6_0 t6_1 t6_2 t6_3 t6_4 t6_5 t6_6 t6_7 t6_8 t6_9 t6_10 t7_0 t8_0 t9_0 t10_0 t11_0 t12_0 t13_0 t13_1 t13_2 t13_3 t13_4 t13_5 t13_6 t13_7 t13_8 t13_9 t13_10 t14_0 t15_0 t16_0 t17_0 t18_0 t19_0).2.2.2.2.2.2.2.2.2.2.2.2.2.2.2.2.2.2.2.2.2.2.2.1 (F_NM_toDecimal x2 x3 x4 t0_0 t0_1 t0_2 t1_0 t1_1 t1_2 t1_3 t1_4 t1_5 t1_6 t2_0 t3_0 t4_0 t5_0 t6_0 t6_1 t6_2 t6_3 t6_4 t6_5 t6_6 t6_7 t6_8 t6_9 t6_10 t7_0 t8_0 t9_0 t10_0 t11_0 t12_0 t13_0 t13_1 t13_2 t13_3 t13_4 t13_5 t13_6 t13_7 t13_8 t13_9 t13_10 t14_0 t15_0 t16_0 t17_0 t18_0 t19_0).2.2.2.2.2.2.2.2.2.2.2.2.2.2.2.2.2.2.2.2.2.2.2.2.1 (F_NM_toDecimal x2 x3 x4 t0_0 t0_1 t0_2 t1_0 t1_1 t1_2 t1_3 t1_4 t1_5 t1_6 t2_0 t3_0 t4_0 t5_0 t6_0 t6_1 t6_2 t6_3 t6_4 t6_5 t6_6 t6_7 t6_8 t6_9 t6_10 t7_0 t8_0 t9_0 t10_0 t11_0 t12_0 t13_0 t13_1 t13_2 t13_3 t13_4 t13_5 t13_6 t13_7 t13_8 t13_9 t13_10 t14_0 t15_0 t16_0 t17_0 t18_0 t19_0).2.2.2.2.2.2.2.2.2.2.2.2.2.2.2.2.2.2.2.2.2.2.2.2.2.1 := by
  unfold F_NM_toDecimal
  rw [if_neg h2]
  obtain ⟨hw, hb⟩ := hb
  subst hw
  obtain ⟨u, s, hE, hs⟩ := y_exx hk hf
  have o1 : o = some (ySv P T (yu (F_NM_bitsOf x2 x3 t0_0 t0_1 t0_2 t19_0)) u, (s : Int)) := yFD_U ho (Or.inr ⟨hf, u, s, hE, rfl⟩)
  obtain ⟨d, hd⟩ := yDt_ex (u * 10 ^ (1074 - s))
  have ex := V_mex (x2 := x2) (x3 := F_NM_bitsOf x2 x3 t0_0 t0_1 t0_2 t19_0) (x4 := 1074) (N5 := 4100) (t0_0 := t0_0) (t0_1 := t0_1) (t0_2 := t0_2) (t1_0 := t13_0) (t1_1 := t13_1) (t1_2 := t13_2) (t1_3 := t13_3) (t1_4 := t13_4) (t1_5 := t13_5) (t1_6 := t13_6) (t1_7 := t13_7) (t1_8 := t13_8) (t1_9 := t13_9) (t1_10 := t13_10) (t2_0 := t14_0) (t3_0 := t15_0) (t4_0 := t16_0) (t5_0 := t17_0) (t6_0 := t18_0) (t7_0 := t7_0) (pl := 1074) (c := 0) hk hb hf rfl (by decide) rfl hE hs (y_rk1 hs).symm hd rfl
  obtain ⟨d1, d2, f1, f2, f3, f4, f5, f6, f7, _⟩ := y_fxT hs hd
  rw [f1] at ex
  have hu : 0 < d2.length → yBr d2 (d2.length - 1) ≠ 48 := by
    intro q
    rw [f5] at q ⊢
    rw [f7 q]
    rcases hE.2 with z | z
    · omega
    · omega
  have et : yMin (ySx P T (yu (F_NM_bitsOf x2 x3 t0_0 t0_1 t0_2 t19_0)) = 1) ++ (d1 ++ 46 :: (d2 ++ List.replicate (1074 - s) 48)) = (yMin (ySx P T (yu (F_NM_bitsOf x2 x3 t0_0 t0_1 t0_2 t19_0)) = 1) ++ (d1 ++ (46 :: d2))) ++ List.replicate (1074 - s) 48 := by
    rw [List.append_assoc, List.append_assoc]
    rfl
  have ev : ySv P T (yu (F_NM_bitsOf x2 x3 t0_0 t0_1 t0_2 t19_0)) u = yNv (ySx P T (yu (F_NM_bitsOf x2 x3 t0_0 t0_1 t0_2 t19_0)) = 1) (yLV (d1 ++ d2) 0) := by
    rw [f6]
    rfl
  rw [o1, ev, ← f5]
  revert ex
  generalize hp : F_NM_exact x2 (F_NM_bitsOf x2 x3 t0_0 t0_1 t0_2 t19_0) 1074 4100 t0_0 t0_1 t0_2 t13_0 t13_1 t13_2 t13_3 t13_4 t13_5 t13_6 t13_7 t13_8 t13_9 t13_10 t14_0 t15_0 t16_0 t17_0 t18_0 t7_0 = p
  intro ex
  unfold F_NM_toDecimal_c57
  have hlen := (congrArg List.length et).trans List.length_append
  rw [List.length_replicate] at hlen
  exact V_tdL (u := u) f2 f3 f4 hu rfl et ex.2.1 ex.2.2 h4 hD 1000000 p.1 (1074 - s) (by rw [ex.1, hlen]) (Nat.le_refl _) (by omega)
