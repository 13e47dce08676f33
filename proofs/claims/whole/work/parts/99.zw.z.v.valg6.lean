/-! values, for whole: argument of the reference, the call -/
theorem y_shl0 {v : Int64} : ((v <<< ((64 - 64 : Int32).toInt64 &&& 63)) >>> ((64 - 64 : Int32).toInt64 &&& 63)) = v := by
  have e : ((64 - 64 : Int32).toInt64 &&& 63) = 0 := by decide
  rw [e]
  show (v <<< (0 : Int64)) >>> (0 : Int64) = v
  apply Int64.toBitVec_inj.mp
  rw [Int64.toBitVec_shiftRight, Int64.toBitVec_shiftLeft]
  simp
def QV_nm (x2 : Int32) (w : Int) (q : Int × Int) (A : List yA) (a : yA) (tx : Nat → Int32) (ans th n : Int32) (kd sz : Nat → Int32) (va : Nat → Int64) : Prop := (¬ yArF x2 w q ∧ th = 2 ∧ yRA n kd sz va tx A) ∨ (yArF x2 w q ∧ th = 0 ∧ ((9 ≤ A.length ∧ ans = -1 ∧ yRA n kd sz va tx A) ∨ (A.length < 9 ∧ ans.toInt = (A.length : Int) + 1 ∧ yRA n kd sz va tx (A ++ [a]))))
theorem V_numl {x2 : Int32} {x3 : Int32} {t0_0 : Int32} {t0_1 : Int32} {t0_2 : Int32} {t1_0 : Int32} {t1_1 : Int32} {t1_2 : Int32} {t1_3 : Int32} {t1_4 : Int32} {t1_5 : Int32} {t1_6 : Int32} {t2_0 : (Nat → Int32)} {t3_0 : (Nat → Int32)} {t4_0 : Int32} {t4_1 : Int32} {t4_2 : Int32} {t4_3 : Int64} {t4_4 : Int32} {t4_5 : Int32} {t4_6 : Int32} {t4_7 : Int32} {t4_8 : Int32} {t4_9 : Int32} {t4_10 : Int32} {t5_0 : (Nat → Int32)} {t6_0 : (Nat → Int32)} {t7_0 : (Nat → Int32)} {t8_0 : (Nat → Int32)} {t9_0 : Int32} {t9_1 : Int32} {t9_2 : Int32} {t9_3 : Int32} {t9_4 : Int32} {t9_5 : Int32} {t9_6 : Int32} {t9_7 : Int32} {t9_8 : Int32} {t9_9 : Int32} {t9_10 : Int32} {t9_11 : Int32} {t9_12 : Int32} {t9_13 : Int32} {t9_14 : Int32} {t9_15 : Int32} {t9_16 : Int32} {t9_17 : Int32} {t9_18 : Int32} {t9_19 : Int32} {t9_20 : Int32} {t9_21 : Int32} {t10_0 : (Nat → Int32)} {t11_0 : (Nat → Int32)} {t12_0 : (Nat → Int64)} {t13_0 : (Nat → Int64)} {A : List yA} {tx : Nat → Int32} {tp : List Nat} {W : Nat → Int} {D : Nat → Int × Int} (h : yRA t9_2 t10_0 t11_0 t12_0 tx A) (hw : wRv t2_0 t3_0 W) (hD : dRv t5_0 t6_0 t7_0 t8_0 D) (hx : yReg x3) (h2 : x2 = 0 ∨ x2 = 1) (h0 : t0_0 = 0) : QV_nm x2 (W x3.toNatClampNeg) (D x3.toNatClampNeg) A (yArA x2 x3 (W x3.toNatClampNeg) (D x3.toNatClampNeg) tp) tx (F_NM_numeral x2 x3 t0_0 t0_1 t0_2 t1_0 t1_1 t1_2 t1_3 t1_4 t1_5 t1_6 t2_0 t3_0 t4_0 t4_1 t4_2 t4_3 t4_4 t4_5 t4_6 t4_7 t4_8 t4_9 t4_10 t5_0 t6_0 t7_0 t8_0 t9_0 t9_1 t9_2 t9_3 t9_4 t9_5 t9_6 t9_7 t9_8 t9_9 t9_10 t9_11 t9_12 t9_13 t9_14 t9_15 t9_16 t9_17 t9_18 t9_19 t9_20 t9_21 t10_0 t11_0 t12_0 t13_0).1 (F_NM_numeral x2 x3 t0_0 t0_1 t0_2 t1_0 t1_1 t1_2 t1_3 t1_4 t1_5 t1_6 t2_0 t3_0 t4_0 t4_1 t4_2 t4_3 t4_4 t4_5 t4_6 t4_7 t4_8 t4_9 t4_10 t5_0 t6_0 t7_0 t8_0 t9_0 t9_1 t9_2 t9_3 t9_4 t9_5 t9_6 t9_7 t9_8 t9_9 t9_10 t9_11 t9_12 t9_13 t9_14 t9_15 t9_16 t9_17 t9_18 t9_19 t9_20 t9_21 t10_0 t11_0 t12_0 t13_0).2.1 (F_NM_numeral x2 x3 t0_0 t0_1 t0_2 t1_0 t1_1 t1_2 t1_3 t1_4 t1_5 t1_6 t2_0 t3_0 t4_0 t4_1 t4_2 t4_3 t4_4 t4_5 t4_6 t4_7 t4_8 t4_9 t4_10 t5_0 t6_0 t7_0 t8_0 t9_0 t9_1 t9_2 t9_3 t9_4 t9_5 t9_6 t9_7 t9_8 t9_9 t9_10 t9_11 t9_12 t9_13 t9_14 t9_15 t9_16 t9_17 t9_18 t9_19 t9_20 t9_21 t10_0 t11_0 t12_0 t13_0).2.2.2.2.2.2.2.2.2.2.1 (F_NM_numeral x2 x3 t0_0 t0_1 t0_2 t1_0 t1_1 t1_2 t1_3 t1_4 t1_5 t1_6 t2_0 t3_0 t4_0 t4_1 t4_2 t4_3 t4_4 t4_5 t4_6 t4_7 t4_8 t4_9 t4_10 t5_0 t6_0 t7_0 t8_0 t9_0 t9_1 t9_2 t9_3 t9_4 t9_5 t9_6 t9_7 t9_8 t9_9 t9_10 t9_11 t9_12 t9_13 t9_14 t9_15 t9_16 t9_17 t9_18 t9_19 t9_20 t9_21 t10_0 t11_0 t12_0 t13_0).2.2.2.2.2.2.2.2.2.2.2.1 (F_NM_numeral x2 x3 t0_0 t0_1 t0_2 t1_0 t1_1 t1_2 t1_3 t1_4 t1_5 t1_6 t2_0 t3_0 t4_0 t4_1 t4_2 t4_3 t4_4 t4_5 t4_6 t4_7 t4_8 t4_9 t4_10 t5_0 t6_0 t7_0 t8_0 t9_0 t9_1 t9_2 t9_3 t9_4 t9_5 t9_6 t9_7 t9_8 t9_9 t9_10 t9_11 t9_12 t9_13 t9_14 t9_15 t9_16 t9_17 t9_18 t9_19 t9_20 t9_21 t10_0 t11_0 t12_0 t13_0).2.2.2.2.2.2.2.2.2.2.2.2.1 (F_NM_numeral x2 x3 t0_0 t0_1 t0_2 t1_0 t1_1 t1_2 t1_3 t1_4 t1_5 t1_6 t2_0 t3_0 t4_0 t4_1 t4_2 t4_3 t4_4 t4_5 t4_6 t4_7 t4_8 t4_9 t4_10 t5_0 t6_0 t7_0 t8_0 t9_0 t9_1 t9_2 t9_3 t9_4 t9_5 t9_6 t9_7 t9_8 t9_9 t9_10 t9_11 t9_12 t9_13 t9_14 t9_15 t9_16 t9_17 t9_18 t9_19 t9_20 t9_21 t10_0 t11_0 t12_0 t13_0).2.2.2.2.2.2.2.2.2.2.2.2.2.1 := by
  have e63 : (63 : Int64).toInt = 63 := rfl
  have e0 : (0 : Int32).toInt = 0 := rfl
  have e40 : (40 : Int32).toInt = 40 := rfl
  have hx' : 0 ≤ x3.toInt ∧ x3.toInt ≤ 10 := ⟨hx.1, by have := hx.2; omega⟩
  unfold F_NM_numeral
  by_cases x0 : x2 = 0
  · rw [if_pos x0]
    have tl := V_WR_told (x2 := x3) (x3 := 2) (t0_0 := t1_0) (t0_1 := t1_1) (t0_2 := t1_2) (t0_3 := t1_3) (t0_4 := t1_4) (t0_5 := t1_5) (t0_6 := t1_6) hw hx' (by decide)
    revert tl
    generalize F_WR_told x3 2 t1_0 t1_1 t1_2 t1_3 t1_4 t1_5 t1_6 t2_0 t3_0 = p
    intro tl
    have tv : p.1.toInt = ((tLen (W x3.toNatClampNeg) (if W x3.toNatClampNeg < 0 then 1 else 0) 2048 : Nat) : Int) := by
      rw [tl.2]
      unfold sTell
      rw [if_neg (by decide), if_pos rfl]
    have t63 := y_tl63 (hw.lt hx')
    generalize tLen (W x3.toNatClampNeg) (if W x3.toNatClampNeg < 0 then 1 else 0) 2048 = z at tv t63
    unfold F_NM_numeral_c11
    by_cases g : lg_cmp p.1 63 ≤ 0
    · rw [if_pos g]
      have g' := q_k5 g
      have fit : yI64 (W x3.toNatClampNeg) := t63.mp (by omega)
      unfold F_NM_numeral_J26
      rw [if_pos (show (0 : Int32) ≤ 0 by decide)]
      have t0 := (V_WR_told0 (x2 := x3) (t0_0 := p.2.1) (t0_1 := p.2.2.1) (t0_2 := p.2.2.2.1) (t0_3 := p.2.2.2.2.1) (t0_4 := p.2.2.2.2.2.1) (t0_5 := p.2.2.2.2.2.2.1) (t0_6 := p.2.2.2.2.2.2.2) hw hx').2
      revert t0
      generalize F_WR_told x3 0 p.2.1 p.2.2.1 p.2.2.2.1 p.2.2.2.2.1 p.2.2.2.2.2.1 p.2.2.2.2.2.2.1 p.2.2.2.2.2.2.2 t2_0 t3_0 = r
      intro t0
      have tl2 := y_i64 (y_tLg t0 fit)
      have ea : yArA x2 x3 (W x3.toNatClampNeg) (D x3.toNatClampNeg) tp = (3, r.1, 0, []) := by unfold yArA; rw [if_pos x0, tl2]
      rw [ea]
      unfold F_NM_numeral_c52 F_VR_whole
      rw [if_neg (by decide), if_neg (by decide), if_neg (by decide), if_pos rfl]
      unfold F_VR_whole_J31
      rw [y_shl0]
      have en := V_ent (x2 := 3) (x3 := 64) (x4 := r.1) (a := (3, r.1, 0, [])) (tx := tx) (t0_0 := t9_0) (t0_1 := t9_1) (t0_2 := t9_2) (t0_3 := t9_3) (t0_4 := t9_4) (t0_5 := t9_5) (t0_6 := t9_6) (t0_7 := t9_7) (t0_8 := t9_8) (t0_9 := t9_9) (t0_10 := t9_10) (t0_11 := t9_11) (t0_12 := t9_12) (t0_13 := t9_13) (t0_14 := t9_14) (t0_15 := t9_15) (t0_16 := t9_16) (t0_17 := t9_17) (t0_18 := t9_18) (t0_19 := t9_19) (t0_20 := t9_20) (t0_21 := t9_21) (t1_0 := t10_0) (t2_0 := t11_0) (t3_0 := t12_0) h (y_aw0 (by decide) (by decide) (fun _ => rfl) (fun z => absurd z (by decide)) (fun z => absurd z (by decide)) (fun z => absurd z (by decide))) rfl rfl (fun _ => rfl) (fun z => absurd (show (3 : Nat) = 5 from z) (by decide)) (show (3 : Nat) ≠ 4 by decide)
      revert en
      generalize F_VR_enter 3 64 r.1 t9_0 t9_1 t9_2 t9_3 t9_4 t9_5 t9_6 t9_7 t9_8 t9_9 t9_10 t9_11 t9_12 t9_13 t9_14 t9_15 t9_16 t9_17 t9_18 t9_19 t9_20 t9_21 t10_0 t11_0 t12_0 = s
      intro en
      unfold F_VR_whole_c45 F_NM_numeral_c55
      exact Or.inr ⟨⟨fun _ => fit, fun z => absurd (x0.symm.trans z) (by decide)⟩, rfl, en⟩
    · rw [if_neg g]
      have g' := q_k6 g
      unfold F_NM_numeral_J26
      rw [if_neg (show ¬ (2 : Int32) ≤ 0 by decide)]
      exact Or.inl ⟨fun z => by have := t63.mpr (z.1 x0); omega, rfl, h⟩
  · rw [if_neg x0]
    have x1 : x2 = 1 := h2.resolve_left x0
    have il := V_isLong (x2 := x3) (t0_0 := t0_0) (t0_1 := t0_1) (t0_2 := t0_2) (t1_0 := t4_0) (t1_1 := t4_1) (t1_2 := t4_2) (t1_3 := t4_3) (t1_4 := t4_4) (t1_5 := t4_5) (t1_6 := t4_6) (t1_7 := t4_7) (t1_8 := t4_8) (t1_9 := t4_9) (t1_10 := t4_10) (t5_0 := t13_0) hx ⟨_, hD⟩
    revert il
    generalize F_NM_isLong x3 t0_0 t0_1 t0_2 t4_0 t4_1 t4_2 t4_3 t4_4 t4_5 t4_6 t4_7 t4_8 t4_9 t4_10 t5_0 t6_0 t7_0 t13_0 = p
    intro il
    have sc : (t8_0 x3.toNatClampNeg).toInt = (D x3.toNatClampNeg).2 := (hD.2 _ (y_rgN hx)).2.2.2.2.1
    unfold F_NM_numeral_c76
    have bad : ¬ yArF x2 (W x3.toNatClampNeg) (D x3.toNatClampNeg) → QV_nm x2 (W x3.toNatClampNeg) (D x3.toNatClampNeg) A (yArA x2 x3 (W x3.toNatClampNeg) (D x3.toNatClampNeg) tp) tx 0 2 t9_2 t10_0 t11_0 t12_0 := fun z => Or.inl ⟨z, rfl, h⟩
    rcases il with ⟨a, b, c⟩ | ⟨a, b⟩
    · rw [if_neg (by rw [a]; decide)]
      by_cases g : t8_0 x3.toNatClampNeg < 0
      · rw [if_pos g]
        have g' := q_ltI g
        unfold F_NM_numeral_J92 F_NM_numeral_J97
        rw [if_neg (show ¬ (2 : Int32) ≤ 0 by decide)]
        exact bad (fun z => by have := (z.2 x1).2.1; omega)
      · rw [if_neg g]
        have g' := q_nltI g
        by_cases g2 : t8_0 x3.toNatClampNeg ≤ 40
        · rw [if_pos g2]
          have g3 := q_leI g2
          unfold F_NM_numeral_J97
          rw [if_pos (show (0 : Int32) ≤ 0 by decide)]
          have p0 : p.2 (0 : Int32).toNatClampNeg = Int64.ofInt (D x3.toNatClampNeg).1 := y_i64 c
          have ea : yArA x2 x3 (W x3.toNatClampNeg) (D x3.toNatClampNeg) tp = (5, p.2 (0 : Int32).toNatClampNeg, (D x3.toNatClampNeg).2.toNat, []) := by unfold yArA; rw [if_neg x0, if_pos x1, p0]
          rw [ea]
          unfold F_VR_decimal_JII
          rw [if_neg g, if_pos g2]
          have en := V_ent (x2 := 5) (x3 := t8_0 x3.toNatClampNeg) (x4 := p.2 (0 : Int32).toNatClampNeg) (a := (5, p.2 (0 : Int32).toNatClampNeg, (D x3.toNatClampNeg).2.toNat, [])) (tx := tx) (t0_0 := t9_0) (t0_1 := t9_1) (t0_2 := t9_2) (t0_3 := t9_3) (t0_4 := t9_4) (t0_5 := t9_5) (t0_6 := t9_6) (t0_7 := t9_7) (t0_8 := t9_8) (t0_9 := t9_9) (t0_10 := t9_10) (t0_11 := t9_11) (t0_12 := t9_12) (t0_13 := t9_13) (t0_14 := t9_14) (t0_15 := t9_15) (t0_16 := t9_16) (t0_17 := t9_17) (t0_18 := t9_18) (t0_19 := t9_19) (t0_20 := t9_20) (t0_21 := t9_21) (t1_0 := t10_0) (t2_0 := t11_0) (t3_0 := t12_0) h (y_aw0 (by decide) (by omega) (fun z => absurd rfl z) (fun z => absurd z (by decide)) (fun z => absurd z (by decide)) (fun z => absurd z (by decide))) rfl rfl (fun z => absurd (show (5 : Nat) = 3 from z) (by decide)) (fun _ => by rw [sc]; show _ = (((D x3.toNatClampNeg).2.toNat : Nat) : Int); omega) (show (5 : Nat) ≠ 4 by decide)
          revert en
          generalize F_VR_enter 5 (t8_0 x3.toNatClampNeg) (p.2 (0 : Int32).toNatClampNeg) t9_0 t9_1 t9_2 t9_3 t9_4 t9_5 t9_6 t9_7 t9_8 t9_9 t9_10 t9_11 t9_12 t9_13 t9_14 t9_15 t9_16 t9_17 t9_18 t9_19 t9_20 t9_21 t10_0 t11_0 t12_0 = s
          intro en
          unfold F_VR_decimal_JII_c21 F_NM_numeral_c122
          exact Or.inr ⟨⟨fun z => absurd z x0, fun _ => ⟨b, by omega, by omega⟩⟩, rfl, en⟩
        · rw [if_neg g2]
          have g3 := q_nleI g2
          unfold F_NM_numeral_J92 F_NM_numeral_J97
          rw [if_neg (show ¬ (2 : Int32) ≤ 0 by decide)]
          exact bad (fun z => by have := (z.2 x1).2.2; omega)
    · rw [if_pos a]
      unfold F_NM_numeral_J92 F_NM_numeral_J97
      rw [if_neg (show ¬ (2 : Int32) ≤ 0 by decide)]
      exact bad (fun z => b (z.2 x1).1)
theorem y_noI1 {x : Int32} : (F_NM_no_IZ x = 0 ∧ yReg x) ∨ (F_NM_no_IZ x = 1 ∧ ¬ yReg x) := by
  have e0 : (0 : Int32).toInt = 0 := rfl
  have e9 : (9 : Int32).toInt = 9 := rfl
  by_cases g : F_NM_no_IZ x = 0
  · exact Or.inl ⟨g, nm_no1 g⟩
  · refine Or.inr ⟨?_, fun z => g (m_no0 ⟨z.1, z.2⟩)⟩
    revert g
    unfold F_NM_no_IZ
    split
    · intro _; rfl
    · split
      · intro q; exact absurd rfl q
      · intro _; rfl
theorem y_arE {x2 x3 : Int32} {w : Int} {q : Int × Int} {tp : List Nat} {A : List yA} {a n : Int32} {kd sz : Nat → Int32} {va : Nat → Int64} {tx : Nat → Int32} {len : Int32} {row : Nat → Int32} (ok : yArOk x2 x3) (h8 : x2 ≠ 8) (h7 : x2 ≠ 7) (hf : yArF x2 w q) (ht : yRt len row tp) (en : (9 ≤ A.length ∧ a = -1 ∧ yRA n kd sz va tx A) ∨ (A.length < 9 ∧ a.toInt = (A.length : Int) + 1 ∧ yRA n kd sz va tx (A ++ [yArA x2 x3 w q tp]))) : ∃ tp2 A2, yArR x2 x3 w q tp A 0 a tp2 A2 ∧ yRt len row tp2 ∧ yRA n kd sz va tx A2 := by
  rcases en with ⟨e1, e2, e3⟩ | ⟨e1, e2, e3⟩
  · exact ⟨tp, A, Or.inr (Or.inr (Or.inr (Or.inr (Or.inl ⟨ok, h8, hf, fun z => absurd z h7, e1, rfl, e2, rfl, rfl⟩)))), ht, e3⟩
  · exact ⟨tp, _, Or.inr (Or.inr (Or.inr (Or.inr (Or.inr ⟨ok, h8, hf, fun z => absurd z h7, e1, rfl, e2, by rw [if_neg h7], rfl⟩)))), ht, e3⟩
theorem V_mar84 {x2 : Int32} {x3 : Int32} {t0_0 : Int32} {t0_1 : Int32} {t0_2 : Int32} {t1_0 : Int32} {t1_1 : Int32} {t1_2 : Int32} {t1_3 : Int32} {t1_4 : Int32} {t1_5 : Int32} {t1_6 : Int32} {t2_0 : (Nat → Int32)} {t3_0 : (Nat → Int32)} {t4_0 : Int32} {t4_1 : Int32} {t4_2 : Int32} {t4_3 : Int64} {t4_4 : Int32} {t4_5 : Int32} {t4_6 : Int32} {t4_7 : Int32} {t4_8 : Int32} {t4_9 : Int32} {t4_10 : Int32} {t5_0 : (Nat → Int32)} {t6_0 : (Nat → Int32)} {t7_0 : (Nat → Int32)} {t8_0 : (Nat → Int32)} {t9_0 : Int32} {t9_1 : Int32} {t9_2 : Int32} {t9_3 : Int32} {t9_4 : Int32} {t9_5 : Int32} {t9_6 : Int32} {t9_7 : Int32} {t9_8 : Int32} {t9_9 : Int32} {t9_10 : Int32} {t9_11 : Int32} {t9_12 : Int32} {t9_13 : Int32} {t9_14 : Int32} {t9_15 : Int32} {t9_16 : Int32} {t9_17 : Int32} {t9_18 : Int32} {t9_19 : Int32} {t9_20 : Int32} {t9_21 : Int32} {t10_0 : (Nat → Int32)} {t11_0 : (Nat → Int32)} {t12_0 : (Nat → Int32)} {t13_0 : (Nat → Int64)} {t14_0 : (Nat → Int32)} {t15_0 : (Nat → Int32)} {t16_0 : (Nat → Int64)} {lx101 : Int32} {lx127 : Int32} {A : List yA} {tp : List Nat} {W : Nat → Int} {D : Nat → Int × Int} (h : yRA t9_2 t11_0 t12_0 t13_0 t14_0 A) (ht : yRt t0_1 t15_0 tp) (hb : ∀ x, x ∈ tp → x < 256) (hw : wRv t2_0 t3_0 W) (hD : dRv t5_0 t6_0 t7_0 t8_0 D) (ok : yArOk x2 x3) (hl : (lx127 = 0 ∧ (x2 = 7 → tp.length ≤ 64)) ∨ (lx127 = 3 ∧ x2 = 7 ∧ 64 < tp.length)) : ∃ tp2 A2, yArR x2 x3 (W x3.toNatClampNeg) (D x3.toNatClampNeg) tp A (F_NM_argument_J84 x2 x3 t0_0 t0_1 t0_2 t1_0 t1_1 t1_2 t1_3 t1_4 t1_5 t1_6 t2_0 t3_0 t4_0 t4_1 t4_2 t4_3 t4_4 t4_5 t4_6 t4_7 t4_8 t4_9 t4_10 t5_0 t6_0 t7_0 t8_0 t9_0 t9_1 t9_2 t9_3 t9_4 t9_5 t9_6 t9_7 t9_8 t9_9 t9_10 t9_11 t9_12 t9_13 t9_14 t9_15 t9_16 t9_17 t9_18 t9_19 t9_20 t9_21 t10_0 t11_0 t12_0 t13_0 t14_0 t15_0 t16_0 lx101 lx127).2.1 (F_NM_argument_J84 x2 x3 t0_0 t0_1 t0_2 t1_0 t1_1 t1_2 t1_3 t1_4 t1_5 t1_6 t2_0 t3_0 t4_0 t4_1 t4_2 t4_3 t4_4 t4_5 t4_6 t4_7 t4_8 t4_9 t4_10 t5_0 t6_0 t7_0 t8_0 t9_0 t9_1 t9_2 t9_3 t9_4 t9_5 t9_6 t9_7 t9_8 t9_9 t9_10 t9_11 t9_12 t9_13 t9_14 t9_15 t9_16 t9_17 t9_18 t9_19 t9_20 t9_21 t10_0 t11_0 t12_0 t13_0 t14_0 t15_0 t16_0 lx101 lx127).1 tp2 A2 ∧ yRt (F_NM_argument_J84 x2 x3 t0_0 t0_1 t0_2 t1_0 t1_1 t1_2 t1_3 t1_4 t1_5 t1_6 t2_0 t3_0 t4_0 t4_1 t4_2 t4_3 t4_4 t4_5 t4_6 t4_7 t4_8 t4_9 t4_10 t5_0 t6_0 t7_0 t8_0 t9_0 t9_1 t9_2 t9_3 t9_4 t9_5 t9_6 t9_7 t9_8 t9_9 t9_10 t9_11 t9_12 t9_13 t9_14 t9_15 t9_16 t9_17 t9_18 t9_19 t9_20 t9_21 t10_0 t11_0 t12_0 t13_0 t14_0 t15_0 t16_0 lx101 lx127).2.2.1 t15_0 tp2 ∧ yRA (F_NM_argument_J84 x2 x3 t0_0 t0_1 t0_2 t1_0 t1_1 t1_2 t1_3 t1_4 t1_5 t1_6 t2_0 t3_0 t4_0 t4_1 t4_2 t4_3 t4_4 t4_5 t4_6 t4_7 t4_8 t4_9 t4_10 t5_0 t6_0 t7_0 t8_0 t9_0 t9_1 t9_2 t9_3 t9_4 t9_5 t9_6 t9_7 t9_8 t9_9 t9_10 t9_11 t9_12 t9_13 t9_14 t9_15 t9_16 t9_17 t9_18 t9_19 t9_20 t9_21 t10_0 t11_0 t12_0 t13_0 t14_0 t15_0 t16_0 lx101 lx127).2.2.2.2.2.2.2.2.2.2.2.2.1 (F_NM_argument_J84 x2 x3 t0_0 t0_1 t0_2 t1_0 t1_1 t1_2 t1_3 t1_4 t1_5 t1_6 t2_0 t3_0 t4_0 t4_1 t4_2 t4_3 t4_4 t4_5 t4_6 t4_7 t4_8 t4_9 t4_10 t5_0 t6_0 t7_0 t8_0 t9_0 t9_1 t9_2 t9_3 t9_4 t9_5 t9_6 t9_7 t9_8 t9_9 t9_10 t9_11 t9_12 t9_13 t9_14 t9_15 t9_16 t9_17 t9_18 t9_19 t9_20 t9_21 t10_0 t11_0 t12_0 t13_0 t14_0 t15_0 t16_0 lx101 lx127).2.2.2.2.2.2.2.2.2.2.2.2.2.2.1 (F_NM_argument_J84 x2 x3 t0_0 t0_1 t0_2 t1_0 t1_1 t1_2 t1_3 t1_4 t1_5 t1_6 t2_0 t3_0 t4_0 t4_1 t4_2 t4_3 t4_4 t4_5 t4_6 t4_7 t4_8 t4_9 t4_10 t5_0 t6_0 t7_0 t8_0 t9_0 t9_1 t9_2 t9_3 t9_4 t9_5 t9_6 t9_7 t9_8 t9_9 t9_10 t9_11 t9_12 t9_13 t9_14 t9_15 t9_16 t9_17 t9_18 t9_19 t9_20 t9_21 t10_0 t11_0 t12_0 t13_0 t14_0 t15_0 t16_0 lx101 lx127).2.2.2.2.2.2.2.2.2.2.2.2.2.2.2.1 (F_NM_argument_J84 x2 x3 t0_0 t0_1 t0_2 t1_0 t1_1 t1_2 t1_3 t1_4 t1_5 t1_6 t2_0 t3_0 t4_0 t4_1 t4_2 t4_3 t4_4 t4_5 t4_6 t4_7 t4_8 t4_9 t4_10 t5_0 t6_0 t7_0 t8_0 t9_0 t9_1 t9_2 t9_3 t9_4 t9_5 t9_6 t9_7 t9_8 t9_9 t9_10 t9_11 t9_12 t9_13 t9_14 t9_15 t9_16 t9_17 t9_18 t9_19 t9_20 t9_21 t10_0 t11_0 t12_0 t13_0 t14_0 t15_0 t16_0 lx101 lx127).2.2.2.2.2.2.2.2.2.2.2.2.2.2.2.2.1 (F_NM_argument_J84 x2 x3 t0_0 t0_1 t0_2 t1_0 t1_1 t1_2 t1_3 t1_4 t1_5 t1_6 t2_0 t3_0 t4_0 t4_1 t4_2 t4_3 t4_4 t4_5 t4_6 t4_7 t4_8 t4_9 t4_10 t5_0 t6_0 t7_0 t8_0 t9_0 t9_1 t9_2 t9_3 t9_4 t9_5 t9_6 t9_7 t9_8 t9_9 t9_10 t9_11 t9_12 t9_13 t9_14 t9_15 t9_16 t9_17 t9_18 t9_19 t9_20 t9_21 t10_0 t11_0 t12_0 t13_0 t14_0 t15_0 t16_0 lx101 lx127).2.2.2.2.2.2.2.2.2.2.2.2.2.2.2.2.2.1 A2 := by
  unfold F_NM_argument_J84
  rcases hl with ⟨a, h7⟩ | ⟨a, x7, h7⟩
  · subst a
    rw [if_pos (show (0 : Int32) ≤ 0 by decide)]
    have nf : x2 ≠ 0 → x2 ≠ 1 → yArF x2 (W x3.toNatClampNeg) (D x3.toNatClampNeg) := fun a b => ⟨fun z => absurd z a, fun z => absurd z b⟩
    have num : x2 = 0 ∨ x2 = 1 → yReg x3 := by
      intro z
      rcases ok with o | o | o | o | o | o
      · exact o.2
      · rcases z with z | z <;> rw [z] at o <;> exact absurd o (by decide)
      · rcases z with z | z <;> rw [z] at o <;> exact absurd o (by decide)
      · rcases z with z | z <;> rw [z] at o <;> exact absurd o.1 (by decide)
      · rcases z with z | z <;> rw [z] at o <;> exact absurd o (by decide)
      · rcases z with z | z <;> rw [z] at o <;> exact absurd o (by decide)
    by_cases x0 : x2 = 0
    · rw [if_pos x0]
      have r := V_numl (x2 := x2) (x3 := x3) (t0_0 := 0) (t0_1 := t0_1) (t0_2 := t0_2) (t1_0 := t1_0) (t1_1 := t1_1) (t1_2 := t1_2) (t1_3 := t1_3) (t1_4 := t1_4) (t1_5 := t1_5) (t1_6 := t1_6) (t4_0 := t4_0) (t4_1 := t4_1) (t4_2 := t4_2) (t4_3 := t4_3) (t4_4 := t4_4) (t4_5 := t4_5) (t4_6 := t4_6) (t4_7 := t4_7) (t4_8 := t4_8) (t4_9 := t4_9) (t4_10 := t4_10) (t9_0 := t9_0) (t9_1 := t9_1) (t9_2 := t9_2) (t9_3 := t9_3) (t9_4 := t9_4) (t9_5 := t9_5) (t9_6 := t9_6) (t9_7 := t9_7) (t9_8 := t9_8) (t9_9 := t9_9) (t9_10 := t9_10) (t9_11 := t9_11) (t9_12 := t9_12) (t9_13 := t9_13) (t9_14 := t9_14) (t9_15 := t9_15) (t9_16 := t9_16) (t9_17 := t9_17) (t9_18 := t9_18) (t9_19 := t9_19) (t9_20 := t9_20) (t9_21 := t9_21) (t13_0 := t16_0) (tx := t14_0) (tp := tp) h hw hD (num (Or.inl x0)) (Or.inl x0) rfl
      revert r
      generalize F_NM_numeral x2 x3 0 t0_1 t0_2 t1_0 t1_1 t1_2 t1_3 t1_4 t1_5 t1_6 t2_0 t3_0 t4_0 t4_1 t4_2 t4_3 t4_4 t4_5 t4_6 t4_7 t4_8 t4_9 t4_10 t5_0 t6_0 t7_0 t8_0 t9_0 t9_1 t9_2 t9_3 t9_4 t9_5 t9_6 t9_7 t9_8 t9_9 t9_10 t9_11 t9_12 t9_13 t9_14 t9_15 t9_16 t9_17 t9_18 t9_19 t9_20 t9_21 t11_0 t12_0 t13_0 t16_0 = p
      intro r
      unfold F_NM_argument_c147
      have h8 : x2 ≠ 8 := by rw [x0]; decide
      have h7' : x2 ≠ 7 := by rw [x0]; decide
      rcases r with ⟨r1, r2, r3⟩ | ⟨r1, r2, r3⟩
      · exact ⟨tp, A, Or.inr (Or.inr (Or.inl ⟨ok, h8, r1, r2, rfl, rfl⟩)), ht, r3⟩
      · have := y_arE ok h8 h7' r1 ht r3
        rw [← r2] at this
        exact this
    · rw [if_neg x0]
      by_cases x1 : x2 = 1
      · rw [if_pos x1]
        have r := V_numl (x2 := x2) (x3 := x3) (t0_0 := 0) (t0_1 := t0_1) (t0_2 := t0_2) (t1_0 := t1_0) (t1_1 := t1_1) (t1_2 := t1_2) (t1_3 := t1_3) (t1_4 := t1_4) (t1_5 := t1_5) (t1_6 := t1_6) (t4_0 := t4_0) (t4_1 := t4_1) (t4_2 := t4_2) (t4_3 := t4_3) (t4_4 := t4_4) (t4_5 := t4_5) (t4_6 := t4_6) (t4_7 := t4_7) (t4_8 := t4_8) (t4_9 := t4_9) (t4_10 := t4_10) (t9_0 := t9_0) (t9_1 := t9_1) (t9_2 := t9_2) (t9_3 := t9_3) (t9_4 := t9_4) (t9_5 := t9_5) (t9_6 := t9_6) (t9_7 := t9_7) (t9_8 := t9_8) (t9_9 := t9_9) (t9_10 := t9_10) (t9_11 := t9_11) (t9_12 := t9_12) (t9_13 := t9_13) (t9_14 := t9_14) (t9_15 := t9_15) (t9_16 := t9_16) (t9_17 := t9_17) (t9_18 := t9_18) (t9_19 := t9_19) (t9_20 := t9_20) (t9_21 := t9_21) (t13_0 := t16_0) (tx := t14_0) (tp := tp) h hw hD (num (Or.inr x1)) (Or.inr x1) rfl
        revert r
        generalize F_NM_numeral x2 x3 0 t0_1 t0_2 t1_0 t1_1 t1_2 t1_3 t1_4 t1_5 t1_6 t2_0 t3_0 t4_0 t4_1 t4_2 t4_3 t4_4 t4_5 t4_6 t4_7 t4_8 t4_9 t4_10 t5_0 t6_0 t7_0 t8_0 t9_0 t9_1 t9_2 t9_3 t9_4 t9_5 t9_6 t9_7 t9_8 t9_9 t9_10 t9_11 t9_12 t9_13 t9_14 t9_15 t9_16 t9_17 t9_18 t9_19 t9_20 t9_21 t11_0 t12_0 t13_0 t16_0 = p
        intro r
        unfold F_NM_argument_c147_4
        have h8 : x2 ≠ 8 := by rw [x1]; decide
        have h7' : x2 ≠ 7 := by rw [x1]; decide
        rcases r with ⟨r1, r2, r3⟩ | ⟨r1, r2, r3⟩
        · exact ⟨tp, A, Or.inr (Or.inr (Or.inl ⟨ok, h8, r1, r2, rfl, rfl⟩)), ht, r3⟩
        · have := y_arE ok h8 h7' r1 ht r3
          rw [← r2] at this
          exact this
      · rw [if_neg x1]
        have k23 : x2 ≠ 2 ∧ x2 ≠ 3 := by
          refine ⟨fun z => ?_, fun z => ?_⟩
          · rcases ok with o | o | o | o | o | o
            · exact o.1.elim x0 x1
            · rw [z] at o; exact absurd o (by decide)
            · rw [z] at o; exact absurd o (by decide)
            · rw [z] at o; exact absurd o.1 (by decide)
            · rw [z] at o; exact absurd o (by decide)
            · rw [z] at o; exact absurd o (by decide)
          · rcases ok with o | o | o | o | o | o
            · exact o.1.elim x0 x1
            · rw [z] at o; exact absurd o (by decide)
            · rw [z] at o; exact absurd o (by decide)
            · rw [z] at o; exact absurd o.1 (by decide)
            · rw [z] at o; exact absurd o (by decide)
            · rw [z] at o; exact absurd o (by decide)
        rw [if_neg k23.1, if_neg k23.2]
        by_cases x4 : x2 = 4
        · rw [if_pos x4]
          have ea : yArA x2 x3 (W x3.toNatClampNeg) (D x3.toNatClampNeg) tp = (0, 0, 0, []) := by unfold yArA; rw [if_neg x0, if_neg x1, if_pos x4]
          unfold F_VR_nothing
          have en := V_ent (x2 := 0) (x3 := 0) (x4 := 0) (a := (0, 0, 0, [])) (tx := t14_0) (t0_0 := t9_0) (t0_1 := t9_1) (t0_2 := t9_2) (t0_3 := t9_3) (t0_4 := t9_4) (t0_5 := t9_5) (t0_6 := t9_6) (t0_7 := t9_7) (t0_8 := t9_8) (t0_9 := t9_9) (t0_10 := t9_10) (t0_11 := t9_11) (t0_12 := t9_12) (t0_13 := t9_13) (t0_14 := t9_14) (t0_15 := t9_15) (t0_16 := t9_16) (t0_17 := t9_17) (t0_18 := t9_18) (t0_19 := t9_19) (t0_20 := t9_20) (t0_21 := t9_21) (t1_0 := t11_0) (t2_0 := t12_0) (t3_0 := t13_0) h (y_aw0 (by decide) (by decide) (fun _ => rfl) (fun z => absurd z (by decide)) (fun z => absurd z (by decide)) (fun _ => rfl)) rfl rfl (fun z => absurd (show (0 : Nat) = 3 from z) (by decide)) (fun z => absurd (show (0 : Nat) = 5 from z) (by decide)) (show (0 : Nat) ≠ 4 by decide)
          revert en
          generalize F_VR_enter 0 0 0 t9_0 t9_1 t9_2 t9_3 t9_4 t9_5 t9_6 t9_7 t9_8 t9_9 t9_10 t9_11 t9_12 t9_13 t9_14 t9_15 t9_16 t9_17 t9_18 t9_19 t9_20 t9_21 t11_0 t12_0 t13_0 = s
          intro en
          unfold F_VR_nothing_c4 F_NM_argument_c155
          rw [← ea] at en
          exact y_arE ok (by rw [x4]; decide) (by rw [x4]; decide) (nf x0 x1) ht en
        · rw [if_neg x4]
          by_cases x5 : x2 = 5
          · rw [if_pos x5]
            by_cases x30 : x3 = 0
            · rw [if_pos x30]
              have ea : yArA x2 x3 (W x3.toNatClampNeg) (D x3.toNatClampNeg) tp = (1, 0, 0, []) := by unfold yArA; rw [if_neg x0, if_neg x1, if_neg x4, if_pos x5, if_pos x30]
              unfold F_VR_truth
              rw [if_pos (show (0 : Int32) = 0 from rfl)]
              have en := V_ent (x2 := 1) (x3 := 0) (x4 := 0) (a := (1, 0, 0, [])) (tx := t14_0) (t0_0 := t9_0) (t0_1 := t9_1) (t0_2 := t9_2) (t0_3 := t9_3) (t0_4 := t9_4) (t0_5 := t9_5) (t0_6 := t9_6) (t0_7 := t9_7) (t0_8 := t9_8) (t0_9 := t9_9) (t0_10 := t9_10) (t0_11 := t9_11) (t0_12 := t9_12) (t0_13 := t9_13) (t0_14 := t9_14) (t0_15 := t9_15) (t0_16 := t9_16) (t0_17 := t9_17) (t0_18 := t9_18) (t0_19 := t9_19) (t0_20 := t9_20) (t0_21 := t9_21) (t1_0 := t11_0) (t2_0 := t12_0) (t3_0 := t13_0) h (y_aw0 (by decide) (by decide) (fun _ => rfl) (fun _ => Or.inl rfl) (fun z => absurd z (by decide)) (fun z => absurd z (by decide))) rfl rfl (fun z => absurd (show (1 : Nat) = 3 from z) (by decide)) (fun z => absurd (show (1 : Nat) = 5 from z) (by decide)) (show (1 : Nat) ≠ 4 by decide)
              revert en
              generalize F_VR_enter 1 0 0 t9_0 t9_1 t9_2 t9_3 t9_4 t9_5 t9_6 t9_7 t9_8 t9_9 t9_10 t9_11 t9_12 t9_13 t9_14 t9_15 t9_16 t9_17 t9_18 t9_19 t9_20 t9_21 t11_0 t12_0 t13_0 = s
              intro en
              unfold F_VR_truth_c12 F_NM_argument_c172
              rw [← ea] at en
              exact y_arE ok (by rw [x5]; decide) (by rw [x5]; decide) (nf x0 x1) ht en
            · rw [if_neg x30]
              have ea : yArA x2 x3 (W x3.toNatClampNeg) (D x3.toNatClampNeg) tp = (1, 1, 0, []) := by unfold yArA; rw [if_neg x0, if_neg x1, if_neg x4, if_pos x5, if_neg x30]
              unfold F_VR_truth
              rw [if_neg (show ¬ (1 : Int32) = 0 by decide)]
              have en := V_ent (x2 := 1) (x3 := 0) (x4 := 1) (a := (1, 1, 0, [])) (tx := t14_0) (t0_0 := t9_0) (t0_1 := t9_1) (t0_2 := t9_2) (t0_3 := t9_3) (t0_4 := t9_4) (t0_5 := t9_5) (t0_6 := t9_6) (t0_7 := t9_7) (t0_8 := t9_8) (t0_9 := t9_9) (t0_10 := t9_10) (t0_11 := t9_11) (t0_12 := t9_12) (t0_13 := t9_13) (t0_14 := t9_14) (t0_15 := t9_15) (t0_16 := t9_16) (t0_17 := t9_17) (t0_18 := t9_18) (t0_19 := t9_19) (t0_20 := t9_20) (t0_21 := t9_21) (t1_0 := t11_0) (t2_0 := t12_0) (t3_0 := t13_0) h (y_aw0 (by decide) (by decide) (fun _ => rfl) (fun _ => Or.inr rfl) (fun z => absurd z (by decide)) (fun z => absurd z (by decide))) rfl rfl (fun z => absurd (show (1 : Nat) = 3 from z) (by decide)) (fun z => absurd (show (1 : Nat) = 5 from z) (by decide)) (show (1 : Nat) ≠ 4 by decide)
              revert en
              generalize F_VR_enter 1 0 1 t9_0 t9_1 t9_2 t9_3 t9_4 t9_5 t9_6 t9_7 t9_8 t9_9 t9_10 t9_11 t9_12 t9_13 t9_14 t9_15 t9_16 t9_17 t9_18 t9_19 t9_20 t9_21 t11_0 t12_0 t13_0 = s
              intro en
              unfold F_VR_truth_c12_2 F_NM_argument_c172_7
              rw [← ea] at en
              exact y_arE ok (by rw [x5]; decide) (by rw [x5]; decide) (nf x0 x1) ht en
          · rw [if_neg x5]
            by_cases x6 : x2 = 6
            · rw [if_pos x6]
              have r3 : 0 ≤ x3.toInt ∧ x3.toInt ≤ 255 := by
                rcases ok with z | z | z | z | z | z
                · rcases z.1 with z | z
                  · exact absurd z x0
                  · exact absurd z x1
                · exact absurd z x4
                · exact absurd z x5
                · exact z.2
                · rw [x6] at z; exact absurd z (by decide)
                · rw [x6] at z; exact absurd z (by decide)
              have ea : yArA x2 x3 (W x3.toNatClampNeg) (D x3.toNatClampNeg) tp = (2, x3.toInt64, 0, []) := by unfold yArA; rw [if_neg x0, if_neg x1, if_neg x4, if_neg x5, if_pos x6]
              have e0 : (0 : Int32).toInt = 0 := rfl
              have e255 : (255 : Int32).toInt = 255 := rfl
              unfold F_VR_symbol
              rw [if_neg (fun z => by have := q_ltI z; omega), if_pos (Int32.le_iff_toInt_le.mpr (by omega))]
              have en := V_ent (x2 := 2) (x3 := 0) (x4 := x3.toInt64) (a := (2, x3.toInt64, 0, [])) (tx := t14_0) (t0_0 := t9_0) (t0_1 := t9_1) (t0_2 := t9_2) (t0_3 := t9_3) (t0_4 := t9_4) (t0_5 := t9_5) (t0_6 := t9_6) (t0_7 := t9_7) (t0_8 := t9_8) (t0_9 := t9_9) (t0_10 := t9_10) (t0_11 := t9_11) (t0_12 := t9_12) (t0_13 := t9_13) (t0_14 := t9_14) (t0_15 := t9_15) (t0_16 := t9_16) (t0_17 := t9_17) (t0_18 := t9_18) (t0_19 := t9_19) (t0_20 := t9_20) (t0_21 := t9_21) (t1_0 := t11_0) (t2_0 := t12_0) (t3_0 := t13_0) h (y_aw0 (by decide) (by decide) (fun _ => rfl) (fun z => absurd z (by decide)) (fun _ => by rw [Int32.toInt_toInt64]; exact r3) (fun z => absurd z (by decide))) rfl rfl (fun z => absurd (show (2 : Nat) = 3 from z) (by decide)) (fun z => absurd (show (2 : Nat) = 5 from z) (by decide)) (show (2 : Nat) ≠ 4 by decide)
              revert en
              generalize F_VR_enter 2 0 x3.toInt64 t9_0 t9_1 t9_2 t9_3 t9_4 t9_5 t9_6 t9_7 t9_8 t9_9 t9_10 t9_11 t9_12 t9_13 t9_14 t9_15 t9_16 t9_17 t9_18 t9_19 t9_20 t9_21 t11_0 t12_0 t13_0 = s
              intro en
              unfold F_VR_symbol_c23 F_NM_argument_c181
              rw [← ea] at en
              exact y_arE ok (by rw [x6]; decide) (by rw [x6]; decide) (nf x0 x1) ht en
            · rw [if_neg x6]
              by_cases x7 : x2 = 7
              · rw [if_pos x7]
                have ea : yArA x2 x3 (W x3.toNatClampNeg) (D x3.toNatClampNeg) tp = (4, 0, 0, tp) := by unfold yArA; rw [if_neg x0, if_neg x1, if_neg x4, if_neg x5, if_neg x6]
                have t64 := h7 x7
                have t1 := ht.1
                have e41 : (4100 : Int32).toInt = 4100 := rfl
                have e256 : (256 : Int32).toInt = 256 := rfl
                have q := (T_NM_load (N1 := 4100) (N3 := 256) (x2 := t0_1) (t0_0 := t15_0) (t1_0 := t10_0) (by omega) (by omega) (by decide)).2
                revert q
                generalize F_NM_load 4100 t0_1 256 t15_0 t10_0 = p
                intro q
                unfold F_NM_argument_c204
                have en := V_VRtext (t0_0 := t9_0) (t0_1 := p.1) (t0_2 := t9_2) (t0_3 := t9_3) (t0_4 := t9_4) (t0_5 := t9_5) (t0_6 := t9_6) (t0_7 := t9_7) (t0_8 := t9_8) (t0_9 := t9_9) (t0_10 := t9_10) (t0_11 := t9_11) (t0_12 := t9_12) (t0_13 := t9_13) (t0_14 := t9_14) (t0_15 := t9_15) (t0_16 := t9_16) (t0_17 := t9_17) (t0_18 := t9_18) (t0_19 := t9_19) (t0_20 := t9_20) (t0_21 := t9_21) (t1_0 := p.2) (t2_0 := t11_0) (t3_0 := t12_0) (t4_0 := t13_0) (t5_0 := t14_0) h (by rw [q.1]; exact t1) t64 (fun i hi => by rw [q.2 i (by omega)]; exact yRt_tr ht i hi) hb
                revert en
                generalize F_VR_text t9_0 p.1 t9_2 t9_3 t9_4 t9_5 t9_6 t9_7 t9_8 t9_9 t9_10 t9_11 t9_12 t9_13 t9_14 t9_15 t9_16 t9_17 t9_18 t9_19 t9_20 t9_21 p.2 t11_0 t12_0 t13_0 t14_0 = s
                intro en
                have h8 : x2 ≠ 8 := by rw [x7]; decide
                unfold F_NM_argument_c214
                have e0 : (0 : Int32).toInt = 0 := rfl
                rcases en with ⟨e1, e2, e3⟩ | ⟨e1, e2, e3⟩
                · rw [if_pos (by rw [e2]; decide)]
                  exact ⟨tp, A, Or.inr (Or.inr (Or.inr (Or.inr (Or.inl ⟨ok, h8, nf x0 x1, h7, e1, rfl, e2, rfl, rfl⟩)))), ht, e3⟩
                · rw [if_neg (fun z => by have := q_leI z; omega)]
                  refine ⟨[], _, Or.inr (Or.inr (Or.inr (Or.inr (Or.inr ⟨ok, h8, nf x0 x1, h7, e1, rfl, e2, by rw [if_pos x7], rfl⟩)))), ⟨rfl, fun i hi => absurd hi (Nat.not_lt_zero _)⟩, ?_⟩
                  rw [ea]
                  exact e3
              · rw [if_neg x7]
                have x8 : x2 = 8 := by
                  rcases ok with z | z | z | z | z | z
                  · rcases z.1 with z | z
                    · exact absurd z x0
                    · exact absurd z x1
                  · exact absurd z x4
                  · exact absurd z x5
                  · exact absurd z.1 x6
                  · exact absurd z x7
                  · exact z
                exact ⟨tp, [], Or.inr (Or.inl ⟨ok, x8, rfl, rfl, rfl, rfl⟩), ht, rfl, by decide, fun i hi => absurd hi (Nat.not_lt_zero _)⟩
  · subst a
    rw [if_neg (show ¬ (3 : Int32) ≤ 0 by decide)]
    have h8 : x2 ≠ 8 := by rw [x7]; decide
    exact ⟨tp, A, Or.inr (Or.inr (Or.inr (Or.inl ⟨ok, h8, ⟨fun z => by rw [x7] at z; exact absurd z (by decide), fun z => by rw [x7] at z; exact absurd z (by decide)⟩, x7, h7, rfl, rfl, rfl⟩))), ht, h⟩
theorem V_mar54 {x2 : Int32} {x3 : Int32} {t0_0 : Int32} {t0_1 : Int32} {t0_2 : Int32} {t1_0 : Int32} {t1_1 : Int32} {t1_2 : Int32} {t1_3 : Int32} {t1_4 : Int32} {t1_5 : Int32} {t1_6 : Int32} {t2_0 : (Nat → Int32)} {t3_0 : (Nat → Int32)} {t4_0 : Int32} {t4_1 : Int32} {t4_2 : Int32} {t4_3 : Int64} {t4_4 : Int32} {t4_5 : Int32} {t4_6 : Int32} {t4_7 : Int32} {t4_8 : Int32} {t4_9 : Int32} {t4_10 : Int32} {t5_0 : (Nat → Int32)} {t6_0 : (Nat → Int32)} {t7_0 : (Nat → Int32)} {t8_0 : (Nat → Int32)} {t9_0 : Int32} {t9_1 : Int32} {t9_2 : Int32} {t9_3 : Int32} {t9_4 : Int32} {t9_5 : Int32} {t9_6 : Int32} {t9_7 : Int32} {t9_8 : Int32} {t9_9 : Int32} {t9_10 : Int32} {t9_11 : Int32} {t9_12 : Int32} {t9_13 : Int32} {t9_14 : Int32} {t9_15 : Int32} {t9_16 : Int32} {t9_17 : Int32} {t9_18 : Int32} {t9_19 : Int32} {t9_20 : Int32} {t9_21 : Int32} {t10_0 : (Nat → Int32)} {t11_0 : (Nat → Int32)} {t12_0 : (Nat → Int32)} {t13_0 : (Nat → Int64)} {t14_0 : (Nat → Int32)} {t15_0 : (Nat → Int32)} {t16_0 : (Nat → Int64)} {lx101 : Int32} {A : List yA} {tp : List Nat} {W : Nat → Int} {D : Nat → Int × Int} (h : yRA t9_2 t11_0 t12_0 t13_0 t14_0 A) (ht : yRt t0_1 t15_0 tp) (hb : ∀ x, x ∈ tp → x < 256) (hw : wRv t2_0 t3_0 W) (hD : dRv t5_0 t6_0 t7_0 t8_0 D) (hl : (lx101 = 0 ∧ yArOk x2 x3) ∨ (lx101 = 1 ∧ ¬ yArOk x2 x3)) : ∃ tp2 A2, yArR x2 x3 (W x3.toNatClampNeg) (D x3.toNatClampNeg) tp A (F_NM_argument_J54 x2 x3 t0_0 t0_1 t0_2 t1_0 t1_1 t1_2 t1_3 t1_4 t1_5 t1_6 t2_0 t3_0 t4_0 t4_1 t4_2 t4_3 t4_4 t4_5 t4_6 t4_7 t4_8 t4_9 t4_10 t5_0 t6_0 t7_0 t8_0 t9_0 t9_1 t9_2 t9_3 t9_4 t9_5 t9_6 t9_7 t9_8 t9_9 t9_10 t9_11 t9_12 t9_13 t9_14 t9_15 t9_16 t9_17 t9_18 t9_19 t9_20 t9_21 t10_0 t11_0 t12_0 t13_0 t14_0 t15_0 t16_0 lx101).2.1 (F_NM_argument_J54 x2 x3 t0_0 t0_1 t0_2 t1_0 t1_1 t1_2 t1_3 t1_4 t1_5 t1_6 t2_0 t3_0 t4_0 t4_1 t4_2 t4_3 t4_4 t4_5 t4_6 t4_7 t4_8 t4_9 t4_10 t5_0 t6_0 t7_0 t8_0 t9_0 t9_1 t9_2 t9_3 t9_4 t9_5 t9_6 t9_7 t9_8 t9_9 t9_10 t9_11 t9_12 t9_13 t9_14 t9_15 t9_16 t9_17 t9_18 t9_19 t9_20 t9_21 t10_0 t11_0 t12_0 t13_0 t14_0 t15_0 t16_0 lx101).1 tp2 A2 ∧ yRt (F_NM_argument_J54 x2 x3 t0_0 t0_1 t0_2 t1_0 t1_1 t1_2 t1_3 t1_4 t1_5 t1_6 t2_0 t3_0 t4_0 t4_1 t4_2 t4_3 t4_4 t4_5 t4_6 t4_7 t4_8 t4_9 t4_10 t5_0 t6_0 t7_0 t8_0 t9_0 t9_1 t9_2 t9_3 t9_4 t9_5 t9_6 t9_7 t9_8 t9_9 t9_10 t9_11 t9_12 t9_13 t9_14 t9_15 t9_16 t9_17 t9_18 t9_19 t9_20 t9_21 t10_0 t11_0 t12_0 t13_0 t14_0 t15_0 t16_0 lx101).2.2.1 t15_0 tp2 ∧ yRA (F_NM_argument_J54 x2 x3 t0_0 t0_1 t0_2 t1_0 t1_1 t1_2 t1_3 t1_4 t1_5 t1_6 t2_0 t3_0 t4_0 t4_1 t4_2 t4_3 t4_4 t4_5 t4_6 t4_7 t4_8 t4_9 t4_10 t5_0 t6_0 t7_0 t8_0 t9_0 t9_1 t9_2 t9_3 t9_4 t9_5 t9_6 t9_7 t9_8 t9_9 t9_10 t9_11 t9_12 t9_13 t9_14 t9_15 t9_16 t9_17 t9_18 t9_19 t9_20 t9_21 t10_0 t11_0 t12_0 t13_0 t14_0 t15_0 t16_0 lx101).2.2.2.2.2.2.2.2.2.2.2.2.1 (F_NM_argument_J54 x2 x3 t0_0 t0_1 t0_2 t1_0 t1_1 t1_2 t1_3 t1_4 t1_5 t1_6 t2_0 t3_0 t4_0 t4_1 t4_2 t4_3 t4_4 t4_5 t4_6 t4_7 t4_8 t4_9 t4_10 t5_0 t6_0 t7_0 t8_0 t9_0 t9_1 t9_2 t9_3 t9_4 t9_5 t9_6 t9_7 t9_8 t9_9 t9_10 t9_11 t9_12 t9_13 t9_14 t9_15 t9_16 t9_17 t9_18 t9_19 t9_20 t9_21 t10_0 t11_0 t12_0 t13_0 t14_0 t15_0 t16_0 lx101).2.2.2.2.2.2.2.2.2.2.2.2.2.2.1 (F_NM_argument_J54 x2 x3 t0_0 t0_1 t0_2 t1_0 t1_1 t1_2 t1_3 t1_4 t1_5 t1_6 t2_0 t3_0 t4_0 t4_1 t4_2 t4_3 t4_4 t4_5 t4_6 t4_7 t4_8 t4_9 t4_10 t5_0 t6_0 t7_0 t8_0 t9_0 t9_1 t9_2 t9_3 t9_4 t9_5 t9_6 t9_7 t9_8 t9_9 t9_10 t9_11 t9_12 t9_13 t9_14 t9_15 t9_16 t9_17 t9_18 t9_19 t9_20 t9_21 t10_0 t11_0 t12_0 t13_0 t14_0 t15_0 t16_0 lx101).2.2.2.2.2.2.2.2.2.2.2.2.2.2.2.1 (F_NM_argument_J54 x2 x3 t0_0 t0_1 t0_2 t1_0 t1_1 t1_2 t1_3 t1_4 t1_5 t1_6 t2_0 t3_0 t4_0 t4_1 t4_2 t4_3 t4_4 t4_5 t4_6 t4_7 t4_8 t4_9 t4_10 t5_0 t6_0 t7_0 t8_0 t9_0 t9_1 t9_2 t9_3 t9_4 t9_5 t9_6 t9_7 t9_8 t9_9 t9_10 t9_11 t9_12 t9_13 t9_14 t9_15 t9_16 t9_17 t9_18 t9_19 t9_20 t9_21 t10_0 t11_0 t12_0 t13_0 t14_0 t15_0 t16_0 lx101).2.2.2.2.2.2.2.2.2.2.2.2.2.2.2.2.1 (F_NM_argument_J54 x2 x3 t0_0 t0_1 t0_2 t1_0 t1_1 t1_2 t1_3 t1_4 t1_5 t1_6 t2_0 t3_0 t4_0 t4_1 t4_2 t4_3 t4_4 t4_5 t4_6 t4_7 t4_8 t4_9 t4_10 t5_0 t6_0 t7_0 t8_0 t9_0 t9_1 t9_2 t9_3 t9_4 t9_5 t9_6 t9_7 t9_8 t9_9 t9_10 t9_11 t9_12 t9_13 t9_14 t9_15 t9_16 t9_17 t9_18 t9_19 t9_20 t9_21 t10_0 t11_0 t12_0 t13_0 t14_0 t15_0 t16_0 lx101).2.2.2.2.2.2.2.2.2.2.2.2.2.2.2.2.2.1 A2 := by
  have e64 : (64 : Int32).toInt = 64 := rfl
  have t1 := ht.1
  unfold F_NM_argument_J54
  rcases hl with ⟨a, ok⟩ | ⟨a, ok⟩
  · subst a
    rw [if_pos rfl]
    by_cases x7 : x2 = 7
    · rw [if_pos x7]
      by_cases g : t0_1 ≤ 64
      · rw [if_pos g]
        have g' := q_leI g
        unfold F_NM_argument_J83
        exact V_mar84 h ht hb hw hD ok (Or.inl ⟨rfl, fun _ => by omega⟩)
      · rw [if_neg g]
        have g' := q_nleI g
        exact V_mar84 h ht hb hw hD ok (Or.inr ⟨rfl, x7, by omega⟩)
    · rw [if_neg x7]
      unfold F_NM_argument_J83
      exact V_mar84 h ht hb hw hD ok (Or.inl ⟨rfl, fun z => absurd z x7⟩)
  · subst a
    rw [if_neg (show ¬ (1 : Int32) = 0 by decide)]
    unfold F_NM_argument_J84
    rw [if_neg (show ¬ (1 : Int32) ≤ 0 by decide)]
    exact ⟨tp, A, Or.inl ⟨ok, rfl, rfl, rfl⟩, ht, h⟩
theorem V_mar32 {x2 : Int32} {x3 : Int32} {t0_0 : Int32} {t0_1 : Int32} {t0_2 : Int32} {t1_0 : Int32} {t1_1 : Int32} {t1_2 : Int32} {t1_3 : Int32} {t1_4 : Int32} {t1_5 : Int32} {t1_6 : Int32} {t2_0 : (Nat → Int32)} {t3_0 : (Nat → Int32)} {t4_0 : Int32} {t4_1 : Int32} {t4_2 : Int32} {t4_3 : Int64} {t4_4 : Int32} {t4_5 : Int32} {t4_6 : Int32} {t4_7 : Int32} {t4_8 : Int32} {t4_9 : Int32} {t4_10 : Int32} {t5_0 : (Nat → Int32)} {t6_0 : (Nat → Int32)} {t7_0 : (Nat → Int32)} {t8_0 : (Nat → Int32)} {t9_0 : Int32} {t9_1 : Int32} {t9_2 : Int32} {t9_3 : Int32} {t9_4 : Int32} {t9_5 : Int32} {t9_6 : Int32} {t9_7 : Int32} {t9_8 : Int32} {t9_9 : Int32} {t9_10 : Int32} {t9_11 : Int32} {t9_12 : Int32} {t9_13 : Int32} {t9_14 : Int32} {t9_15 : Int32} {t9_16 : Int32} {t9_17 : Int32} {t9_18 : Int32} {t9_19 : Int32} {t9_20 : Int32} {t9_21 : Int32} {t10_0 : (Nat → Int32)} {t11_0 : (Nat → Int32)} {t12_0 : (Nat → Int32)} {t13_0 : (Nat → Int64)} {t14_0 : (Nat → Int32)} {t15_0 : (Nat → Int32)} {t16_0 : (Nat → Int64)} {A : List yA} {tp : List Nat} {W : Nat → Int} {D : Nat → Int × Int} (h : yRA t9_2 t11_0 t12_0 t13_0 t14_0 A) (ht : yRt t0_1 t15_0 tp) (hb : ∀ x, x ∈ tp → x < 256) (hw : wRv t2_0 t3_0 W) (hD : dRv t5_0 t6_0 t7_0 t8_0 D) (ho : ((x2 = 0 ∨ x2 = 1) ∧ yReg x3) ∨ (4 ≤ x2.toInt ∧ x2.toInt ≤ 8)) : ∃ tp2 A2, yArR x2 x3 (W x3.toNatClampNeg) (D x3.toNatClampNeg) tp A (F_NM_argument_J32 x2 x3 t0_0 t0_1 t0_2 t1_0 t1_1 t1_2 t1_3 t1_4 t1_5 t1_6 t2_0 t3_0 t4_0 t4_1 t4_2 t4_3 t4_4 t4_5 t4_6 t4_7 t4_8 t4_9 t4_10 t5_0 t6_0 t7_0 t8_0 t9_0 t9_1 t9_2 t9_3 t9_4 t9_5 t9_6 t9_7 t9_8 t9_9 t9_10 t9_11 t9_12 t9_13 t9_14 t9_15 t9_16 t9_17 t9_18 t9_19 t9_20 t9_21 t10_0 t11_0 t12_0 t13_0 t14_0 t15_0 t16_0).2.1 (F_NM_argument_J32 x2 x3 t0_0 t0_1 t0_2 t1_0 t1_1 t1_2 t1_3 t1_4 t1_5 t1_6 t2_0 t3_0 t4_0 t4_1 t4_2 t4_3 t4_4 t4_5 t4_6 t4_7 t4_8 t4_9 t4_10 t5_0 t6_0 t7_0 t8_0 t9_0 t9_1 t9_2 t9_3 t9_4 t9_5 t9_6 t9_7 t9_8 t9_9 t9_10 t9_11 t9_12 t9_13 t9_14 t9_15 t9_16 t9_17 t9_18 t9_19 t9_20 t9_21 t10_0 t11_0 t12_0 t13_0 t14_0 t15_0 t16_0).1 tp2 A2 ∧ yRt (F_NM_argument_J32 x2 x3 t0_0 t0_1 t0_2 t1_0 t1_1 t1_2 t1_3 t1_4 t1_5 t1_6 t2_0 t3_0 t4_0 t4_1 t4_2 t4_3 t4_4 t4_5 t4_6 t4_7 t4_8 t4_9 t4_10 t5_0 t6_0 t7_0 t8_0 t9_0 t9_1 t9_2 t9_3 t9_4 t9_5 t9_6 t9_7 t9_8 t9_9 t9_10 t9_11 t9_12 t9_13 t9_14 t9_15 t9_16 t9_17 t9_18 t9_19 t9_20 t9_21 t10_0 t11_0 t12_0 t13_0 t14_0 t15_0 t16_0).2.2.1 t15_0 tp2 ∧ yRA (F_NM_argument_J32 x2 x3 t0_0 t0_1 t0_2 t1_0 t1_1 t1_2 t1_3 t1_4 t1_5 t1_6 t2_0 t3_0 t4_0 t4_1 t4_2 t4_3 t4_4 t4_5 t4_6 t4_7 t4_8 t4_9 t4_10 t5_0 t6_0 t7_0 t8_0 t9_0 t9_1 t9_2 t9_3 t9_4 t9_5 t9_6 t9_7 t9_8 t9_9 t9_10 t9_11 t9_12 t9_13 t9_14 t9_15 t9_16 t9_17 t9_18 t9_19 t9_20 t9_21 t10_0 t11_0 t12_0 t13_0 t14_0 t15_0 t16_0).2.2.2.2.2.2.2.2.2.2.2.2.1 (F_NM_argument_J32 x2 x3 t0_0 t0_1 t0_2 t1_0 t1_1 t1_2 t1_3 t1_4 t1_5 t1_6 t2_0 t3_0 t4_0 t4_1 t4_2 t4_3 t4_4 t4_5 t4_6 t4_7 t4_8 t4_9 t4_10 t5_0 t6_0 t7_0 t8_0 t9_0 t9_1 t9_2 t9_3 t9_4 t9_5 t9_6 t9_7 t9_8 t9_9 t9_10 t9_11 t9_12 t9_13 t9_14 t9_15 t9_16 t9_17 t9_18 t9_19 t9_20 t9_21 t10_0 t11_0 t12_0 t13_0 t14_0 t15_0 t16_0).2.2.2.2.2.2.2.2.2.2.2.2.2.2.1 (F_NM_argument_J32 x2 x3 t0_0 t0_1 t0_2 t1_0 t1_1 t1_2 t1_3 t1_4 t1_5 t1_6 t2_0 t3_0 t4_0 t4_1 t4_2 t4_3 t4_4 t4_5 t4_6 t4_7 t4_8 t4_9 t4_10 t5_0 t6_0 t7_0 t8_0 t9_0 t9_1 t9_2 t9_3 t9_4 t9_5 t9_6 t9_7 t9_8 t9_9 t9_10 t9_11 t9_12 t9_13 t9_14 t9_15 t9_16 t9_17 t9_18 t9_19 t9_20 t9_21 t10_0 t11_0 t12_0 t13_0 t14_0 t15_0 t16_0).2.2.2.2.2.2.2.2.2.2.2.2.2.2.2.1 (F_NM_argument_J32 x2 x3 t0_0 t0_1 t0_2 t1_0 t1_1 t1_2 t1_3 t1_4 t1_5 t1_6 t2_0 t3_0 t4_0 t4_1 t4_2 t4_3 t4_4 t4_5 t4_6 t4_7 t4_8 t4_9 t4_10 t5_0 t6_0 t7_0 t8_0 t9_0 t9_1 t9_2 t9_3 t9_4 t9_5 t9_6 t9_7 t9_8 t9_9 t9_10 t9_11 t9_12 t9_13 t9_14 t9_15 t9_16 t9_17 t9_18 t9_19 t9_20 t9_21 t10_0 t11_0 t12_0 t13_0 t14_0 t15_0 t16_0).2.2.2.2.2.2.2.2.2.2.2.2.2.2.2.2.1 (F_NM_argument_J32 x2 x3 t0_0 t0_1 t0_2 t1_0 t1_1 t1_2 t1_3 t1_4 t1_5 t1_6 t2_0 t3_0 t4_0 t4_1 t4_2 t4_3 t4_4 t4_5 t4_6 t4_7 t4_8 t4_9 t4_10 t5_0 t6_0 t7_0 t8_0 t9_0 t9_1 t9_2 t9_3 t9_4 t9_5 t9_6 t9_7 t9_8 t9_9 t9_10 t9_11 t9_12 t9_13 t9_14 t9_15 t9_16 t9_17 t9_18 t9_19 t9_20 t9_21 t10_0 t11_0 t12_0 t13_0 t14_0 t15_0 t16_0).2.2.2.2.2.2.2.2.2.2.2.2.2.2.2.2.2.1 A2 := by
  have e4 : (4 : Int32).toInt = 4 := rfl
  have e5 : (5 : Int32).toInt = 5 := rfl
  have e6 : (6 : Int32).toInt = 6 := rfl
  have e7 : (7 : Int32).toInt = 7 := rfl
  have e8 : (8 : Int32).toInt = 8 := rfl
  have e0 : (0 : Int32).toInt = 0 := rfl
  have e255 : (255 : Int32).toInt = 255 := rfl
  unfold F_NM_argument_J32
  by_cases x6 : x2 = 6
  · rw [if_pos x6]
    have no : ¬ (0 ≤ x3.toInt ∧ x3.toInt ≤ 255) → ¬ yArOk x2 x3 := by
      intro n z
      rw [x6] at z
      rcases z with z | z | z | z | z | z
      · rcases z.1 with z | z <;> exact absurd z (by decide)
      · exact absurd z (by decide)
      · exact absurd z (by decide)
      · exact n z.2
      · exact absurd z (by decide)
      · exact absurd z (by decide)
    by_cases g : x3 < 0
    · rw [if_pos g]
      have g' := q_ltI g
      unfold F_NM_argument_J49
      exact V_mar54 h ht hb hw hD (Or.inr ⟨rfl, no (by omega)⟩)
    · rw [if_neg g]
      have g' := q_nltI g
      by_cases g2 : x3 ≤ 255
      · rw [if_pos g2]
        have g3 := q_leI g2
        unfold F_NM_argument_J53
        exact V_mar54 h ht hb hw hD (Or.inl ⟨rfl, Or.inr (Or.inr (Or.inr (Or.inl ⟨x6, by omega, by omega⟩)))⟩)
      · rw [if_neg g2]
        have g3 := q_nleI g2
        unfold F_NM_argument_J49
        exact V_mar54 h ht hb hw hD (Or.inr ⟨rfl, no (by omega)⟩)
  · rw [if_neg x6]
    unfold F_NM_argument_J53
    have n6 := q_neI x6
    refine V_mar54 h ht hb hw hD (Or.inl ⟨rfl, ?_⟩)
    rcases ho with o | o
    · exact Or.inl o
    · rcases (show x2.toInt = 4 ∨ x2.toInt = 5 ∨ x2.toInt = 7 ∨ x2.toInt = 8 by omega) with z | z | z | z
      · exact Or.inr (Or.inl (Int32.toInt_inj.mp z))
      · exact Or.inr (Or.inr (Or.inl (Int32.toInt_inj.mp z)))
      · exact Or.inr (Or.inr (Or.inr (Or.inr (Or.inl (Int32.toInt_inj.mp z)))))
      · exact Or.inr (Or.inr (Or.inr (Or.inr (Or.inr (Int32.toInt_inj.mp z)))))
theorem V_NM_argument {x2 : Int32} {x3 : Int32} {t0_0 : Int32} {t0_1 : Int32} {t0_2 : Int32} {t1_0 : Int32} {t1_1 : Int32} {t1_2 : Int32} {t1_3 : Int32} {t1_4 : Int32} {t1_5 : Int32} {t1_6 : Int32} {t2_0 : (Nat → Int32)} {t3_0 : (Nat → Int32)} {t4_0 : Int32} {t4_1 : Int32} {t4_2 : Int32} {t4_3 : Int64} {t4_4 : Int32} {t4_5 : Int32} {t4_6 : Int32} {t4_7 : Int32} {t4_8 : Int32} {t4_9 : Int32} {t4_10 : Int32} {t5_0 : (Nat → Int32)} {t6_0 : (Nat → Int32)} {t7_0 : (Nat → Int32)} {t8_0 : (Nat → Int32)} {t9_0 : Int32} {t9_1 : Int32} {t9_2 : Int32} {t9_3 : Int32} {t9_4 : Int32} {t9_5 : Int32} {t9_6 : Int32} {t9_7 : Int32} {t9_8 : Int32} {t9_9 : Int32} {t9_10 : Int32} {t9_11 : Int32} {t9_12 : Int32} {t9_13 : Int32} {t9_14 : Int32} {t9_15 : Int32} {t9_16 : Int32} {t9_17 : Int32} {t9_18 : Int32} {t9_19 : Int32} {t9_20 : Int32} {t9_21 : Int32} {t10_0 : (Nat → Int32)} {t11_0 : (Nat → Int32)} {t12_0 : (Nat → Int32)} {t13_0 : (Nat → Int64)} {t14_0 : (Nat → Int32)} {t15_0 : (Nat → Int32)} {t16_0 : (Nat → Int64)} {A : List yA} {tp : List Nat} {W : Nat → Int} {D : Nat → Int × Int} (h : yRA t9_2 t11_0 t12_0 t13_0 t14_0 A) (ht : yRt t0_1 t15_0 tp) (hb : ∀ x, x ∈ tp → x < 256) (hw : wRv t2_0 t3_0 W) (hD : dRv t5_0 t6_0 t7_0 t8_0 D) : ∃ tp2 A2, yArR x2 x3 (W x3.toNatClampNeg) (D x3.toNatClampNeg) tp A (F_NM_argument x2 x3 t0_0 t0_1 t0_2 t1_0 t1_1 t1_2 t1_3 t1_4 t1_5 t1_6 t2_0 t3_0 t4_0 t4_1 t4_2 t4_3 t4_4 t4_5 t4_6 t4_7 t4_8 t4_9 t4_10 t5_0 t6_0 t7_0 t8_0 t9_0 t9_1 t9_2 t9_3 t9_4 t9_5 t9_6 t9_7 t9_8 t9_9 t9_10 t9_11 t9_12 t9_13 t9_14 t9_15 t9_16 t9_17 t9_18 t9_19 t9_20 t9_21 t10_0 t11_0 t12_0 t13_0 t14_0 t15_0 t16_0).2.1 (F_NM_argument x2 x3 t0_0 t0_1 t0_2 t1_0 t1_1 t1_2 t1_3 t1_4 t1_5 t1_6 t2_0 t3_0 t4_0 t4_1 t4_2 t4_3 t4_4 t4_5 t4_6 t4_7 t4_8 t4_9 t4_10 t5_0 t6_0 t7_0 t8_0 t9_0 t9_1 t9_2 t9_3 t9_4 t9_5 t9_6 t9_7 t9_8 t9_9 t9_10 t9_11 t9_12 t9_13 t9_14 t9_15 t9_16 t9_17 t9_18 t9_19 t9_20 t9_21 t10_0 t11_0 t12_0 t13_0 t14_0 t15_0 t16_0).1 tp2 A2 ∧ yRt (F_NM_argument x2 x3 t0_0 t0_1 t0_2 t1_0 t1_1 t1_2 t1_3 t1_4 t1_5 t1_6 t2_0 t3_0 t4_0 t4_1 t4_2 t4_3 t4_4 t4_5 t4_6 t4_7 t4_8 t4_9 t4_10 t5_0 t6_0 t7_0 t8_0 t9_0 t9_1 t9_2 t9_3 t9_4 t9_5 t9_6 t9_7 t9_8 t9_9 t9_10 t9_11 t9_12 t9_13 t9_14 t9_15 t9_16 t9_17 t9_18 t9_19 t9_20 t9_21 t10_0 t11_0 t12_0 t13_0 t14_0 t15_0 t16_0).2.2.1 t15_0 tp2 ∧ yRA (F_NM_argument x2 x3 t0_0 t0_1 t0_2 t1_0 t1_1 t1_2 t1_3 t1_4 t1_5 t1_6 t2_0 t3_0 t4_0 t4_1 t4_2 t4_3 t4_4 t4_5 t4_6 t4_7 t4_8 t4_9 t4_10 t5_0 t6_0 t7_0 t8_0 t9_0 t9_1 t9_2 t9_3 t9_4 t9_5 t9_6 t9_7 t9_8 t9_9 t9_10 t9_11 t9_12 t9_13 t9_14 t9_15 t9_16 t9_17 t9_18 t9_19 t9_20 t9_21 t10_0 t11_0 t12_0 t13_0 t14_0 t15_0 t16_0).2.2.2.2.2.2.2.2.2.2.2.2.1 (F_NM_argument x2 x3 t0_0 t0_1 t0_2 t1_0 t1_1 t1_2 t1_3 t1_4 t1_5 t1_6 t2_0 t3_0 t4_0 t4_1 t4_2 t4_3 t4_4 t4_5 t4_6 t4_7 t4_8 t4_9 t4_10 t5_0 t6_0 t7_0 t8_0 t9_0 t9_1 t9_2 t9_3 t9_4 t9_5 t9_6 t9_7 t9_8 t9_9 t9_10 t9_11 t9_12 t9_13 t9_14 t9_15 t9_16 t9_17 t9_18 t9_19 t9_20 t9_21 t10_0 t11_0 t12_0 t13_0 t14_0 t15_0 t16_0).2.2.2.2.2.2.2.2.2.2.2.2.2.2.1 (F_NM_argument x2 x3 t0_0 t0_1 t0_2 t1_0 t1_1 t1_2 t1_3 t1_4 t1_5 t1_6 t2_0 t3_0 t4_0 t4_1 t4_2 t4_3 t4_4 t4_5 t4_6 t4_7 t4_8 t4_9 t4_10 t5_0 t6_0 t7_0 t8_0 t9_0 t9_1 t9_2 t9_3 t9_4 t9_5 t9_6 t9_7 t9_8 t9_9 t9_10 t9_11 t9_12 t9_13 t9_14 t9_15 t9_16 t9_17 t9_18 t9_19 t9_20 t9_21 t10_0 t11_0 t12_0 t13_0 t14_0 t15_0 t16_0).2.2.2.2.2.2.2.2.2.2.2.2.2.2.2.1 (F_NM_argument x2 x3 t0_0 t0_1 t0_2 t1_0 t1_1 t1_2 t1_3 t1_4 t1_5 t1_6 t2_0 t3_0 t4_0 t4_1 t4_2 t4_3 t4_4 t4_5 t4_6 t4_7 t4_8 t4_9 t4_10 t5_0 t6_0 t7_0 t8_0 t9_0 t9_1 t9_2 t9_3 t9_4 t9_5 t9_6 t9_7 t9_8 t9_9 t9_10 t9_11 t9_12 t9_13 t9_14 t9_15 t9_16 t9_17 t9_18 t9_19 t9_20 t9_21 t10_0 t11_0 t12_0 t13_0 t14_0 t15_0 t16_0).2.2.2.2.2.2.2.2.2.2.2.2.2.2.2.2.1 (F_NM_argument x2 x3 t0_0 t0_1 t0_2 t1_0 t1_1 t1_2 t1_3 t1_4 t1_5 t1_6 t2_0 t3_0 t4_0 t4_1 t4_2 t4_3 t4_4 t4_5 t4_6 t4_7 t4_8 t4_9 t4_10 t5_0 t6_0 t7_0 t8_0 t9_0 t9_1 t9_2 t9_3 t9_4 t9_5 t9_6 t9_7 t9_8 t9_9 t9_10 t9_11 t9_12 t9_13 t9_14 t9_15 t9_16 t9_17 t9_18 t9_19 t9_20 t9_21 t10_0 t11_0 t12_0 t13_0 t14_0 t15_0 t16_0).2.2.2.2.2.2.2.2.2.2.2.2.2.2.2.2.2.1 A2 := by
  have e0 : (0 : Int32).toInt = 0 := rfl
  have e1 : (1 : Int32).toInt = 1 := rfl
  have e2 : (2 : Int32).toInt = 2 := rfl
  have e3 : (3 : Int32).toInt = 3 := rfl
  have e4 : (4 : Int32).toInt = 4 := rfl
  have e5 : (5 : Int32).toInt = 5 := rfl
  have e6 : (6 : Int32).toInt = 6 := rfl
  have e7 : (7 : Int32).toInt = 7 := rfl
  have e8 : (8 : Int32).toInt = 8 := rfl
  have no : ¬ ((x2.toInt = 0 ∨ x2.toInt = 1) ∧ yReg x3) → ¬ (4 ≤ x2.toInt ∧ x2.toInt ≤ 8) → ¬ yArOk x2 x3 := by
    intro a c z
    rcases z with z | z | z | z | z | z
    · refine a ⟨?_, z.2⟩
      rcases z.1 with z | z
      · exact Or.inl (q_eqI z)
      · exact Or.inr (q_eqI z)
    · have := q_eqI z; omega
    · have := q_eqI z; omega
    · have := q_eqI z.1; omega
    · have := q_eqI z; omega
    · have := q_eqI z; omega
  unfold F_NM_argument F_NM_argument_J49
  by_cases a : x2 < 0
  · rw [if_pos a]
    have a' := q_ltI a
    exact V_mar54 h ht hb hw hD (Or.inr ⟨rfl, no (fun z => by have := z.1; omega) (by omega)⟩)
  · rw [if_neg a]
    have a' := q_nltI a
    by_cases b : 8 < x2
    · rw [if_pos b]
      have b' := q_ltI b
      exact V_mar54 h ht hb hw hD (Or.inr ⟨rfl, no (fun z => by have := z.1; omega) (by omega)⟩)
    · rw [if_neg b]
      have b' := q_nltI b
      by_cases c : x2 = 2
      · rw [if_pos c]
        have c' := q_eqI c
        exact V_mar54 h ht hb hw hD (Or.inr ⟨rfl, no (fun z => by have := z.1; omega) (by omega)⟩)
      · rw [if_neg c]
        have c' := q_neI c
        by_cases d : x2 = 3
        · rw [if_pos d]
          have d' := q_eqI d
          exact V_mar54 h ht hb hw hD (Or.inr ⟨rfl, no (fun z => by have := z.1; omega) (by omega)⟩)
        · rw [if_neg d]
          have d' := q_neI d
          by_cases e : 2 ≤ x2
          · rw [if_pos e]
            have e' := q_leI e
            exact V_mar32 h ht hb hw hD (Or.inr ⟨by omega, by omega⟩)
          · rw [if_neg e]
            have e' := q_nleI e
            have x01 : x2 = 0 ∨ x2 = 1 := by
              rcases (show x2.toInt = 0 ∨ x2.toInt = 1 by omega) with z | z
              · exact Or.inl (Int32.toInt_inj.mp z)
              · exact Or.inr (Int32.toInt_inj.mp z)
            rcases y_noI1 (x := x3) with ⟨r, r2⟩ | ⟨r, r2⟩
            · rw [if_pos r]
              exact V_mar32 h ht hb hw hD (Or.inl ⟨x01, r2⟩)
            · rw [if_neg (by rw [r]; decide)]
              exact V_mar54 h ht hb hw hD (Or.inr ⟨rfl, no (fun z => r2 z.2) (by omega)⟩)
