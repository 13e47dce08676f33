/-! whole's law: decimal -/
/-- a call that would put the decimal o into register x -/
def rPd (x : Int32) (o : Option (Int × Int)) (σ : zSt) (c : Int32) (σ2 : zSt) : Prop := (∃ v : Int × Int, o = some v ∧ dFit v ∧ c = 0 ∧ σ2 = (zsW σ, updD (zsD σ) x.toNatClampNeg v, zsV σ, zsN σ, zsL σ, zsB σ, zsP σ, zsA σ)) ∨ ((o = none ∨ ∃ v : Int × Int, o = some v ∧ ¬ dFit v) ∧ c = 2 ∧ σ2 = σ)
theorem rPd_U {x : Int32} {o : Option (Int × Int)} {σ s t : zSt} {c c2 : Int32} (h : rPd x o σ c s) (g : rPd x o σ c2 t) : c = c2 ∧ s = t := by
  rcases h with ⟨v, h1, h2, h3, h4⟩ | ⟨h1, h2, h3⟩ <;> rcases g with ⟨w, g1, g2, g3, g4⟩ | ⟨g1, g2, g3⟩
  · have : v = w := Option.some.inj (h1.symm.trans g1)
    subst this
    exact ⟨h3.trans g3.symm, h4.trans g4.symm⟩
  · rcases g1 with g1 | ⟨w, g1, g4⟩
    · rw [h1] at g1; cases g1
    · have : v = w := Option.some.inj (h1.symm.trans g1)
      subst this
      exact absurd h2 g4
  · rcases h1 with h1 | ⟨v, h1, h4⟩
    · rw [g1] at h1; cases h1
    · have : v = w := Option.some.inj (h1.symm.trans g1)
      subst this
      exact absurd g2 h4
  · exact ⟨h2.trans g2.symm, h3.trans g3.symm⟩
def rDc (x2 x3 x4 x5 : Int32) (σ : zSt) (c : Int32) (σ2 : zSt) : Prop := (¬ ((0 ≤ x2.toInt ∧ x2.toInt ≤ 3) ∧ yReg x3 ∧ yReg x4 ∧ yReg x5) ∧ c = 1 ∧ σ2 = σ) ∨ (((0 ≤ x2.toInt ∧ x2.toInt ≤ 3) ∧ yReg x3 ∧ yReg x4 ∧ yReg x5) ∧ ∃ o : Option (Int × Int), o = sDc x2 (zsD σ x3.toNatClampNeg) (zsD σ x4.toNatClampNeg) ∧ rPd x5 o σ c σ2)
theorem rDc_U {x2 x3 x4 x5 : Int32} {σ s t : zSt} {c c2 : Int32} (h : rDc x2 x3 x4 x5 σ c s) (g : rDc x2 x3 x4 x5 σ c2 t) : c = c2 ∧ s = t := by
  rcases h with ⟨h1, h2, h3⟩ | ⟨h1, o, h2, h3⟩ <;> rcases g with ⟨g1, g2, g3⟩ | ⟨g1, o', g2, g3⟩
  · exact ⟨h2.trans g2.symm, h3.trans g3.symm⟩
  · exact absurd g1 h1
  · exact absurd h1 g1
  · have e : o = o' := h2.trans g2.symm
    subst e
    exact rPd_U h3 g3
set_option maxRecDepth 100000 in
set_option maxHeartbeats 4000000 in
theorem CW_decimal (l : Launch) (D : va_G) (g : Nat → ClassId) (q : Nat → Nat) (ws : va_W) (x2 : Int32) (x3 : Int32) (x4 : Int32) (x5 : Int32) (i3 : Nat) (hi3 : i3 < 10) (i4 : Nat) (hi4 : i4 < 10) (i5 : Nat) (hi5 : i5 < 10) (e3 : x3.toNatClampNeg < 10 → i3 = x3.toNatClampNeg) (e4 : x4.toNatClampNeg < 10 → i4 = x4.toNatClampNeg) (e5 : x5.toNatClampNeg < 10 → i5 = x5.toNatClampNeg) (nei3i4 : i3 ≠ i4) (nei4i5 : i4 ≠ i5) (hlt : l.stackTraces = false) (hI : q_I (nsh g q) q ws) (hC : iC g q ws) {σ : zSt} (hS : sC g q ws σ) (hk0 : zOk σ) : ∀ sz, q_Mx l y_NH_decimal prog_1_method_11_code 7 none 9 3 18 D g [.ref (q 0), .int x2, .int x3, .int x4, .int x5] ws sz (va_Qv (fun u => iP g q ws u ∧ ∃ σ2, rDc x2 x3 x4 x5 σ 0 σ2 ∧ sC g q u σ2) (q_B D g (va_A ws sz)) (va_A ws sz)) (fun E u => ∃ c : Int32, E = qE c ∧ (c = 1 ∨ c = 2) ∧ iP g q ws u ∧ rDc x2 x3 x4 x5 σ c σ ∧ sC g q u σ) := by
  intro sz
  obtain ⟨t0_0, t0_1, hT0, -⟩ := n_o30 hI
  obtain ⟨t1_0, t1_1, hT1, -⟩ := q_bigO hI (n_b10 g q)
  obtain ⟨t2_0, hT2, -⟩ := n_ai hI (n_s11 g q)
  obtain ⟨t3_0, t3_1, hT3, -⟩ := q_bigO hI (n_b12 g q)
  obtain ⟨t4_0, hT4, -⟩ := n_ai hI (n_s13 g q)
  obtain ⟨t5_0, t5_1, hT5, -⟩ := q_bigO hI (n_b22 g q)
  obtain ⟨t6_0, hT6, -⟩ := n_ai hI (n_s23 g q)
  obtain ⟨t7_0, t7_1, hT7, -⟩ := q_bigO hI (n_b24 g q)
  obtain ⟨t8_0, hT8, -⟩ := n_ai hI (n_s25 g q)
  obtain ⟨t9_0, t9_1, hT9, -⟩ := q_bigO hI (n_b20 g q)
  obtain ⟨t10_0, hT10, -⟩ := n_ai hI (n_s21 g q)
  obtain ⟨t11_0, t11_1, t12_0, t12_1, t13_0, hT11, hT12, hT13, vd3, hbd3⟩ := hC.2.1 i3 hi3
  obtain ⟨t14_0, t14_1, t15_0, t15_1, t16_0, hT14, hT15, hT16, vd4, hbd4⟩ := hC.2.1 i4 hi4
  obtain ⟨t17_0, t17_1, t18_0, t18_1, t19_0, hT17, hT18, hT19, vd5, hbd5⟩ := hC.2.1 i5 hi5
  obtain ⟨hS1, hS2, hS3, hS4, hS5, hS6, hS7⟩ := hS
  obtain ⟨pd3, qd3, sd3, nd3, fd3, ad3, bd3, cd3, gd3⟩ := hS2 i3 hi3
  obtain ⟨rfl, rfl⟩ := x_b2 hT11 ad3
  obtain ⟨rfl, rfl⟩ := x_b2 hT12 bd3
  obtain rfl := x_ri hT13 cd3
  obtain ⟨pd4, qd4, sd4, nd4, fd4, ad4, bd4, cd4, gd4⟩ := hS2 i4 hi4
  obtain ⟨rfl, rfl⟩ := x_b2 hT14 ad4
  obtain ⟨rfl, rfl⟩ := x_b2 hT15 bd4
  obtain rfl := x_ri hT16 cd4
  obtain ⟨pd5, qd5, sd5, nd5, fd5, ad5, bd5, cd5, gd5⟩ := hS2 i5 hi5
  obtain ⟨rfl, rfl⟩ := x_b2 hT17 ad5
  obtain ⟨rfl, rfl⟩ := x_b2 hT18 bd5
  obtain rfl := x_ri hT19 cd5
  have hq := T_decimal (x2 := x2) (x3 := x3) (x4 := x4) (x5 := x5) (t0_0 := t0_0) (t0_1 := t0_1) (t1_0 := t1_0) (t1_1 := t1_1) (t2_0 := t2_0) (t3_0 := t3_0) (t3_1 := t3_1) (t4_0 := t4_0) (t5_0 := t5_0) (t5_1 := t5_1) (t6_0 := t6_0) (t7_0 := t7_0) (t7_1 := t7_1) (t8_0 := t8_0) (t9_0 := t9_0) (t9_1 := t9_1) (t10_0 := t10_0) (t11_0 := t11_0) (t11_1 := t11_1) (t12_0 := t12_0) (t12_1 := t12_1) (t13_0 := t13_0) (t14_0 := t14_0) (t14_1 := t14_1) (t15_0 := t15_0) (t15_1 := t15_1) (t16_0 := t16_0) (t17_0 := t17_0) (t17_1 := t17_1) (t18_0 := t18_0) (t18_1 := t18_1) (t19_0 := t19_0) hbd3 hbd4 ⟨_, hbd5⟩
  refine q_MxV (X_NH_decimal l D g q ws x2 x3 x4 x5 (68 + 5 * i3) (n_d g q hi3) (by omega) (fun h => by have z := e3 h; omega) (68 + 5 * i4) (n_d g q hi4) (by omega) (fun h => by have z := e4 h; omega) (68 + 5 * i5) (n_d g q hi5) (by omega) (fun h => by have z := e5 h; omega) (by omega) (by omega) (by omega) (by omega) (by omega) (by omega) (by omega) (by omega) (by omega) (by omega) hlt hI t0_0 t0_1 hT0 t1_0 t1_1 hT1 t2_0 hT2 t3_0 t3_1 hT3 t4_0 hT4 t5_0 t5_1 hT5 t6_0 hT6 t7_0 t7_1 hT7 t8_0 hT8 t9_0 t9_1 hT9 t10_0 hT10 t11_0 t11_1 hT11 t12_0 t12_1 hT12 t13_0 hT13 t14_0 t14_1 hT14 t15_0 t15_1 hT15 t16_0 hT16 t17_0 t17_1 hT17 t18_0 t18_1 hT18 t19_0 hT19 ⟨trivial, hq.1⟩ sz) ?_ ?_
  · rintro u ⟨hI2, hun, u0_0, u0_1, u1_0, u1_1, u2_0, u3_0, u3_1, u4_0, u5_0, u5_1, u6_0, u7_0, u7_1, u8_0, u9_0, u9_1, u10_0, u15_0, u15_1, u16_0, u17_0, u17_1, u18_0, u18_1, u19_0, hU0, hU1, hU2, hU3, hU4, hU5, hU6, hU7, hU8, hU9, hU10, hU11, hU12, hU13, hU14, hU15, hR⟩
    have hG := hR.2.2.2.2.2.2.2.2.2.2.2.2.2.2.2.2.2.2.2.2.2.2.2.2.2.2.2.2.2.2.2.2.2.2.2.2.2.2.2.2.2.2.2.2.2.2.2.2.2.2.2.2.2.2.2.2.2.2.2.2.2.2.2.2.2.2.2.2.2.2.2.2.2.2.2.2.2.2.2.2.2.2.2.2.2.2.2.2.2.2.2.2.2.2.2.2.2.2.2.2.2.2.2.2.2.2.2.2.2.2.2.2.2.2.2.2.2.2.2.2.2.2.2.2.2
    clear hR
    have hF := hG
    have hp := hq.2
    rw [← hF] at hp
    refine ⟨⟨hI2, ⟨fun i hi => ?_, fun i hi => ?_, ?_⟩, fun i hi => hun i (by simp only [List.mem_cons, List.not_mem_nil, or_false, not_or]; omega)⟩, ?_⟩
    · exact iW_fr (hC.1 i hi) (hun _ (by simp only [List.mem_cons, List.not_mem_nil, or_false, not_or]; omega)) (hun _ (by simp only [List.mem_cons, List.not_mem_nil, or_false, not_or]; omega))
    · by_cases hd4 : i = i4
      · rw [hd4]; refine ⟨_, _, _, _, _, ((hun _ (by simp only [List.mem_cons, List.not_mem_nil, or_false, not_or]; omega)).trans hT14), hU11, hU12, ?_⟩; first | exact ⟨_, hp.2⟩
      · by_cases hd5 : i = i5
        · rw [hd5]; refine ⟨_, _, _, _, _, hU13, hU14, hU15, ?_⟩; first | exact hp.1
        · exact iD_fr (hC.2.1 i hi) (hun _ (by simp only [List.mem_cons, List.not_mem_nil, or_false, not_or]; omega)) (hun _ (by simp only [List.mem_cons, List.not_mem_nil, or_false, not_or]; omega)) (hun _ (by simp only [List.mem_cons, List.not_mem_nil, or_false, not_or]; omega))
    · exact iO_fr hC.2.2 (hun _ (by simp only [List.mem_cons, List.not_mem_nil, or_false, not_or]; omega)) (hun _ (by simp only [List.mem_cons, List.not_mem_nil, or_false, not_or]; omega)) (hun _ (by simp only [List.mem_cons, List.not_mem_nil, or_false, not_or]; omega))
    · have fW : ∀ i, i < 10 → cWr g q u (66 + 5 * i) (zsW σ i) := fun i hi => cWr_fr (hS1 i hi) (hun _ (by simp only [List.mem_cons, List.not_mem_nil, or_false, not_or]; omega)) (hun _ (by simp only [List.mem_cons, List.not_mem_nil, or_false, not_or]; omega))
      have fD : ∀ i, i < 10 → ¬ i = i4 → ¬ i = i5 → cDr g q u (68 + 5 * i) (zsD σ i) := fun i hi hk4 hk5 => cDr_fr (hS2 i hi) (hun _ (by simp only [List.mem_cons, List.not_mem_nil, or_false, not_or]; omega)) (hun _ (by simp only [List.mem_cons, List.not_mem_nil, or_false, not_or]; omega)) (hun _ (by simp only [List.mem_cons, List.not_mem_nil, or_false, not_or]; omega))
      have fV : cFr g q u 7 (zsV σ) := (cFr_fr hS3 (hun _ (by simp only [List.mem_cons, List.not_mem_nil, or_false, not_or]; omega)))
      have fN : cFr g q u 8 (zsN σ) := (cFr_fr hS4 (hun _ (by simp only [List.mem_cons, List.not_mem_nil, or_false, not_or]; omega)))
      have fT : cTp g q u (zsL σ) (zsB σ) := (cTp_fr hS5 (hun _ (by simp only [List.mem_cons, List.not_mem_nil, or_false, not_or]; omega)) (hun _ (by simp only [List.mem_cons, List.not_mem_nil, or_false, not_or]; omega)))
      have fP : cPp g q u (zsP σ) := (cPp_fr hS6 (hun _ (by simp only [List.mem_cons, List.not_mem_nil, or_false, not_or]; omega)) (hun _ (by simp only [List.mem_cons, List.not_mem_nil, or_false, not_or]; omega)))
      have fA : cAr g q u (zsA σ) := (cAr_fr hS7 (fun i _ _ => (hun _ (by simp only [List.mem_cons, List.not_mem_nil, or_false, not_or]; omega))) (fun i _ _ => (hun _ (by simp only [List.mem_cons, List.not_mem_nil, or_false, not_or]; omega))))
      rcases y_top_decimal (x2 := x2) (x3 := x3) (x4 := x4) (x5 := x5) (t0_0 := t0_0) (t0_1 := t0_1) (t1_0 := t1_0) (t1_1 := t1_1) (t2_0 := t2_0) (t3_0 := t3_0) (t3_1 := t3_1) (t4_0 := t4_0) (t5_0 := t5_0) (t5_1 := t5_1) (t6_0 := t6_0) (t7_0 := t7_0) (t7_1 := t7_1) (t8_0 := t8_0) (t9_0 := t9_0) (t9_1 := t9_1) (t10_0 := t10_0) (t11_0 := t11_0) (t11_1 := t11_1) (t12_0 := t12_0) (t12_1 := t12_1) (t13_0 := t13_0) (t14_0 := t14_0) (t14_1 := t14_1) (t15_0 := t15_0) (t15_1 := t15_1) (t16_0 := t16_0) (t17_0 := t17_0) (t17_1 := t17_1) (t18_0 := t18_0) (t18_1 := t18_1) (t19_0 := t19_0)  with ⟨l1, q1⟩ | ⟨l1, q1⟩
      · have e33 := e3 (x_reg l1.2.1)
        have e44 := e4 (x_reg l1.2.2.1)
        have e55 := e5 (x_reg l1.2.2.2)
        have hv := V_NH_decimalK (x2 := x2) (x3 := x3) (x4 := x4) (x5 := x5) (t0_0 := t0_0) (t0_1 := t0_1) (t1_0 := t1_0) (t1_1 := t1_1) (t2_0 := t2_0) (t3_0 := t3_0) (t3_1 := t3_1) (t4_0 := t4_0) (t5_0 := t5_0) (t5_1 := t5_1) (t6_0 := t6_0) (t7_0 := t7_0) (t7_1 := t7_1) (t8_0 := t8_0) (t9_0 := t9_0) (t9_1 := t9_1) (t10_0 := t10_0) (t11_0 := t11_0) (t11_1 := t11_1) (t12_0 := t12_0) (t12_1 := t12_1) (t13_0 := t13_0) (t14_0 := t14_0) (t14_1 := t14_1) (t15_0 := t15_0) (t15_1 := t15_1) (t16_0 := t16_0) (t17_0 := t17_0) (t17_1 := t17_1) (t18_0 := t18_0) (t18_1 := t18_1) (t19_0 := t19_0) (lx84 := 1) gd3 gd4 gd5 trivial l1.1 rfl
        rw [← q1, ← hG] at hv
        obtain ⟨hv, hb⟩ := hv
        rcases hv with ⟨v, o1, o2, z, o3⟩ | ⟨o1, z, o3⟩
        · refine ⟨(zsW σ, updD (zsD σ) x5.toNatClampNeg v, zsV σ, zsN σ, zsL σ, zsB σ, zsP σ, zsA σ), Or.inr ⟨l1, _, by rw [← e33, ← e44], Or.inl ⟨v, o1, o2, rfl, rfl⟩⟩, ?_⟩
          refine ⟨fW, (fun i hi => ?_), fV, fN, fT, fP, fA⟩
          · show cDr g q u (68 + 5 * i) (updD (zsD σ) x5.toNatClampNeg v i)
            unfold updD
            by_cases hk4 : i = i4
            · rw [if_neg (by omega), hk4]; exact ⟨_, _, _, _, _, ((hun _ (by simp only [List.mem_cons, List.not_mem_nil, or_false, not_or]; omega)).trans hT14), hU11, hU12, ⟨hb, gd4.2⟩⟩
            · by_cases hk5 : i = i5
              · rw [if_pos (by omega), hk5]; exact ⟨_, _, _, _, _, hU13, hU14, hU15, o3⟩
              · rw [if_neg (by omega)]; exact fD i hi hk4 hk5
        · exact absurd (show (0 : Int32) = 2 from z) (by decide)
      · have hv := y_no_decimal_J36 (x2 := x2) (x3 := x3) (x4 := x4) (x5 := x5) (t0_0 := t0_0) (t0_1 := t0_1) (t1_0 := t1_0) (t1_1 := t1_1) (t2_0 := t2_0) (t3_0 := t3_0) (t3_1 := t3_1) (t4_0 := t4_0) (t5_0 := t5_0) (t5_1 := t5_1) (t6_0 := t6_0) (t7_0 := t7_0) (t7_1 := t7_1) (t8_0 := t8_0) (t9_0 := t9_0) (t9_1 := t9_1) (t10_0 := t10_0) (t11_0 := t11_0) (t11_1 := t11_1) (t12_0 := t12_0) (t12_1 := t12_1) (t13_0 := t13_0) (t14_0 := t14_0) (t14_1 := t14_1) (t15_0 := t15_0) (t15_1 := t15_1) (t16_0 := t16_0) (t17_0 := t17_0) (t17_1 := t17_1) (t18_0 := t18_0) (t18_1 := t18_1) (t19_0 := t19_0) (lx84 := 0) rfl
        rw [← q1, ← hG] at hv
        obtain ⟨z, -⟩ := hv
        exact absurd (show (0 : Int32) = 1 from z) (by decide)
  · rintro E u ⟨c, hE, hc, hI2, hun, u0_0, u0_1, u1_0, u1_1, u2_0, u3_0, u3_1, u4_0, u5_0, u5_1, u6_0, u7_0, u7_1, u8_0, u9_0, u9_1, u10_0, u15_0, u15_1, u16_0, u17_0, u17_1, u18_0, u18_1, u19_0, hU0, hU1, hU2, hU3, hU4, hU5, hU6, hU7, hU8, hU9, hU10, hU11, hU12, hU13, hU14, hU15, hF⟩
    have hp := hq.2
    rw [← hF] at hp
    have hk := K_NH_decimal (x2 := x2) (x3 := x3) (x4 := x4) (x5 := x5) (t0_0 := t0_0) (t0_1 := t0_1) (t1_0 := t1_0) (t1_1 := t1_1) (t2_0 := t2_0) (t3_0 := t3_0) (t3_1 := t3_1) (t4_0 := t4_0) (t5_0 := t5_0) (t5_1 := t5_1) (t6_0 := t6_0) (t7_0 := t7_0) (t7_1 := t7_1) (t8_0 := t8_0) (t9_0 := t9_0) (t9_1 := t9_1) (t10_0 := t10_0) (t11_0 := t11_0) (t11_1 := t11_1) (t12_0 := t12_0) (t12_1 := t12_1) (t13_0 := t13_0) (t14_0 := t14_0) (t14_1 := t14_1) (t15_0 := t15_0) (t15_1 := t15_1) (t16_0 := t16_0) (t17_0 := t17_0) (t17_1 := t17_1) (t18_0 := t18_0) (t18_1 := t18_1) (t19_0 := t19_0)
    rw [← hF] at hk
    replace hk : kC12 c := hk
    refine ⟨c, hE, hk.resolve_left hc, ⟨hI2, ⟨fun i hi => ?_, fun i hi => ?_, ?_⟩, fun i hi => hun i (by simp only [List.mem_cons, List.not_mem_nil, or_false, not_or]; omega)⟩, ?_⟩
    · exact iW_fr (hC.1 i hi) (hun _ (by simp only [List.mem_cons, List.not_mem_nil, or_false, not_or]; omega)) (hun _ (by simp only [List.mem_cons, List.not_mem_nil, or_false, not_or]; omega))
    · by_cases hd4 : i = i4
      · rw [hd4]; refine ⟨_, _, _, _, _, ((hun _ (by simp only [List.mem_cons, List.not_mem_nil, or_false, not_or]; omega)).trans hT14), hU11, hU12, ?_⟩; first | exact ⟨_, hp.2⟩
      · by_cases hd5 : i = i5
        · rw [hd5]; refine ⟨_, _, _, _, _, hU13, hU14, hU15, ?_⟩; first | exact hp.1
        · exact iD_fr (hC.2.1 i hi) (hun _ (by simp only [List.mem_cons, List.not_mem_nil, or_false, not_or]; omega)) (hun _ (by simp only [List.mem_cons, List.not_mem_nil, or_false, not_or]; omega)) (hun _ (by simp only [List.mem_cons, List.not_mem_nil, or_false, not_or]; omega))
    · exact iO_fr hC.2.2 (hun _ (by simp only [List.mem_cons, List.not_mem_nil, or_false, not_or]; omega)) (hun _ (by simp only [List.mem_cons, List.not_mem_nil, or_false, not_or]; omega)) (hun _ (by simp only [List.mem_cons, List.not_mem_nil, or_false, not_or]; omega))
    · have hG := hF
      have fW : ∀ i, i < 10 → cWr g q u (66 + 5 * i) (zsW σ i) := fun i hi => cWr_fr (hS1 i hi) (hun _ (by simp only [List.mem_cons, List.not_mem_nil, or_false, not_or]; omega)) (hun _ (by simp only [List.mem_cons, List.not_mem_nil, or_false, not_or]; omega))
      have fD : ∀ i, i < 10 → ¬ i = i4 → ¬ i = i5 → cDr g q u (68 + 5 * i) (zsD σ i) := fun i hi hk4 hk5 => cDr_fr (hS2 i hi) (hun _ (by simp only [List.mem_cons, List.not_mem_nil, or_false, not_or]; omega)) (hun _ (by simp only [List.mem_cons, List.not_mem_nil, or_false, not_or]; omega)) (hun _ (by simp only [List.mem_cons, List.not_mem_nil, or_false, not_or]; omega))
      have fV : cFr g q u 7 (zsV σ) := (cFr_fr hS3 (hun _ (by simp only [List.mem_cons, List.not_mem_nil, or_false, not_or]; omega)))
      have fN : cFr g q u 8 (zsN σ) := (cFr_fr hS4 (hun _ (by simp only [List.mem_cons, List.not_mem_nil, or_false, not_or]; omega)))
      have fT : cTp g q u (zsL σ) (zsB σ) := (cTp_fr hS5 (hun _ (by simp only [List.mem_cons, List.not_mem_nil, or_false, not_or]; omega)) (hun _ (by simp only [List.mem_cons, List.not_mem_nil, or_false, not_or]; omega)))
      have fP : cPp g q u (zsP σ) := (cPp_fr hS6 (hun _ (by simp only [List.mem_cons, List.not_mem_nil, or_false, not_or]; omega)) (hun _ (by simp only [List.mem_cons, List.not_mem_nil, or_false, not_or]; omega)))
      have fA : cAr g q u (zsA σ) := (cAr_fr hS7 (fun i _ _ => (hun _ (by simp only [List.mem_cons, List.not_mem_nil, or_false, not_or]; omega))) (fun i _ _ => (hun _ (by simp only [List.mem_cons, List.not_mem_nil, or_false, not_or]; omega))))
      rcases y_top_decimal (x2 := x2) (x3 := x3) (x4 := x4) (x5 := x5) (t0_0 := t0_0) (t0_1 := t0_1) (t1_0 := t1_0) (t1_1 := t1_1) (t2_0 := t2_0) (t3_0 := t3_0) (t3_1 := t3_1) (t4_0 := t4_0) (t5_0 := t5_0) (t5_1 := t5_1) (t6_0 := t6_0) (t7_0 := t7_0) (t7_1 := t7_1) (t8_0 := t8_0) (t9_0 := t9_0) (t9_1 := t9_1) (t10_0 := t10_0) (t11_0 := t11_0) (t11_1 := t11_1) (t12_0 := t12_0) (t12_1 := t12_1) (t13_0 := t13_0) (t14_0 := t14_0) (t14_1 := t14_1) (t15_0 := t15_0) (t15_1 := t15_1) (t16_0 := t16_0) (t17_0 := t17_0) (t17_1 := t17_1) (t18_0 := t18_0) (t18_1 := t18_1) (t19_0 := t19_0)  with ⟨l1, q1⟩ | ⟨l1, q1⟩
      · have e33 := e3 (x_reg l1.2.1)
        have e44 := e4 (x_reg l1.2.2.1)
        have e55 := e5 (x_reg l1.2.2.2)
        have hv := V_NH_decimalK (x2 := x2) (x3 := x3) (x4 := x4) (x5 := x5) (t0_0 := t0_0) (t0_1 := t0_1) (t1_0 := t1_0) (t1_1 := t1_1) (t2_0 := t2_0) (t3_0 := t3_0) (t3_1 := t3_1) (t4_0 := t4_0) (t5_0 := t5_0) (t5_1 := t5_1) (t6_0 := t6_0) (t7_0 := t7_0) (t7_1 := t7_1) (t8_0 := t8_0) (t9_0 := t9_0) (t9_1 := t9_1) (t10_0 := t10_0) (t11_0 := t11_0) (t11_1 := t11_1) (t12_0 := t12_0) (t12_1 := t12_1) (t13_0 := t13_0) (t14_0 := t14_0) (t14_1 := t14_1) (t15_0 := t15_0) (t15_1 := t15_1) (t16_0 := t16_0) (t17_0 := t17_0) (t17_1 := t17_1) (t18_0 := t18_0) (t18_1 := t18_1) (t19_0 := t19_0) (lx84 := 1) gd3 gd4 gd5 trivial l1.1 rfl
        rw [← q1, ← hG] at hv
        obtain ⟨hv, hb⟩ := hv
        rcases hv with ⟨v, o1, o2, z, o3⟩ | ⟨o1, z, o3⟩
        · exact absurd z hc
        · refine ⟨Or.inr ⟨l1, _, by rw [← e33, ← e44], Or.inr ⟨o1, z, rfl⟩⟩, ?_⟩
          refine ⟨fW, (fun i hi => ?_), fV, fN, fT, fP, fA⟩
          · by_cases hk4 : i = i4
            · rw [hk4]; exact ⟨_, _, _, _, _, ((hun _ (by simp only [List.mem_cons, List.not_mem_nil, or_false, not_or]; omega)).trans hT14), hU11, hU12, ⟨hb, gd4.2⟩⟩
            · by_cases hk5 : i = i5
              · rw [hk5]; exact ⟨_, _, _, _, _, hU13, hU14, hU15, o3⟩
              · exact fD i hi hk4 hk5
      · have hv := y_no_decimal_J36 (x2 := x2) (x3 := x3) (x4 := x4) (x5 := x5) (t0_0 := t0_0) (t0_1 := t0_1) (t1_0 := t1_0) (t1_1 := t1_1) (t2_0 := t2_0) (t3_0 := t3_0) (t3_1 := t3_1) (t4_0 := t4_0) (t5_0 := t5_0) (t5_1 := t5_1) (t6_0 := t6_0) (t7_0 := t7_0) (t7_1 := t7_1) (t8_0 := t8_0) (t9_0 := t9_0) (t9_1 := t9_1) (t10_0 := t10_0) (t11_0 := t11_0) (t11_1 := t11_1) (t12_0 := t12_0) (t12_1 := t12_1) (t13_0 := t13_0) (t14_0 := t14_0) (t14_1 := t14_1) (t15_0 := t15_0) (t15_1 := t15_1) (t16_0 := t16_0) (t17_0 := t17_0) (t17_1 := t17_1) (t18_0 := t18_0) (t18_1 := t18_1) (t19_0 := t19_0) (lx84 := 0) rfl
        rw [← q1, ← hG] at hv
        obtain ⟨z, eB0, eB1, eB2, eT0, eT1, eT2, eT3, eT4⟩ := hv
        replace eB0 : u15_0 = t15_0 := eB0
        replace eB1 : u15_1 = t15_1 := eB1
        replace eB2 : u16_0 = t16_0 := eB2
        replace eT0 : u17_0 = t17_0 := eT0
        replace eT1 : u17_1 = t17_1 := eT1
        replace eT2 : u18_0 = t18_0 := eT2
        replace eT3 : u18_1 = t18_1 := eT3
        replace eT4 : u19_0 = t19_0 := eT4
        refine ⟨Or.inl ⟨l1, z, rfl⟩, ?_⟩
        refine ⟨fW, (fun i hi => ?_), fV, fN, fT, fP, fA⟩
        · by_cases hk4 : i = i4
          · rw [hk4]; exact ⟨_, _, _, _, _, ((hun _ (by simp only [List.mem_cons, List.not_mem_nil, or_false, not_or]; omega)).trans hT14), hU11, hU12, (by rw [eB0, eB1, eB2]; exact gd4)⟩
          · by_cases hk5 : i = i5
            · rw [hk5]; exact ⟨_, _, _, _, _, hU13, hU14, hU15, (by rw [eT0, eT1, eT2, eT3, eT4]; exact gd5)⟩
            · exact fD i hi hk4 hk5
set_option maxRecDepth 100000 in
set_option maxHeartbeats 4000000 in
theorem CW_decimal_ab (l : Launch) (D : va_G) (g : Nat → ClassId) (q : Nat → Nat) (ws : va_W) (x2 : Int32) (x3 : Int32) (x4 : Int32) (x5 : Int32) (i3 : Nat) (hi3 : i3 < 10) (i5 : Nat) (hi5 : i5 < 10) (e3 : x3.toNatClampNeg < 10 → i3 = x3.toNatClampNeg) (e4 : x4.toNatClampNeg < 10 → i3 = x4.toNatClampNeg) (e5 : x5.toNatClampNeg < 10 → i5 = x5.toNatClampNeg) (nei3i5 : i3 ≠ i5) (hlt : l.stackTraces = false) (hI : q_I (nsh g q) q ws) (hC : iC g q ws) {σ : zSt} (hS : sC g q ws σ) (hk0 : zOk σ) : ∀ sz, q_Mx l y_NH_decimal prog_1_method_11_code 7 none 9 3 18 D g [.ref (q 0), .int x2, .int x3, .int x4, .int x5] ws sz (va_Qv (fun u => iP g q ws u ∧ ∃ σ2, rDc x2 x3 x4 x5 σ 0 σ2 ∧ sC g q u σ2) (q_B D g (va_A ws sz)) (va_A ws sz)) (fun E u => ∃ c : Int32, E = qE c ∧ (c = 1 ∨ c = 2) ∧ iP g q ws u ∧ rDc x2 x3 x4 x5 σ c σ ∧ sC g q u σ) := by
  intro sz
  obtain ⟨t0_0, t0_1, hT0, -⟩ := n_o30 hI
  obtain ⟨t1_0, t1_1, hT1, -⟩ := q_bigO hI (n_b10 g q)
  obtain ⟨t2_0, hT2, -⟩ := n_ai hI (n_s11 g q)
  obtain ⟨t3_0, t3_1, hT3, -⟩ := q_bigO hI (n_b12 g q)
  obtain ⟨t4_0, hT4, -⟩ := n_ai hI (n_s13 g q)
  obtain ⟨t5_0, t5_1, hT5, -⟩ := q_bigO hI (n_b22 g q)
  obtain ⟨t6_0, hT6, -⟩ := n_ai hI (n_s23 g q)
  obtain ⟨t7_0, t7_1, hT7, -⟩ := q_bigO hI (n_b24 g q)
  obtain ⟨t8_0, hT8, -⟩ := n_ai hI (n_s25 g q)
  obtain ⟨t9_0, t9_1, hT9, -⟩ := q_bigO hI (n_b20 g q)
  obtain ⟨t10_0, hT10, -⟩ := n_ai hI (n_s21 g q)
  obtain ⟨t11_0, t11_1, t12_0, t12_1, t13_0, hT11, hT12, hT13, vd3, hbd3⟩ := hC.2.1 i3 hi3
  obtain ⟨t14_0, t14_1, t15_0, t15_1, t16_0, hT14, hT15, hT16, vd5, hbd5⟩ := hC.2.1 i5 hi5
  obtain ⟨hS1, hS2, hS3, hS4, hS5, hS6, hS7⟩ := hS
  obtain ⟨pd3, qd3, sd3, nd3, fd3, ad3, bd3, cd3, gd3⟩ := hS2 i3 hi3
  obtain ⟨rfl, rfl⟩ := x_b2 hT11 ad3
  obtain ⟨rfl, rfl⟩ := x_b2 hT12 bd3
  obtain rfl := x_ri hT13 cd3
  obtain ⟨pd5, qd5, sd5, nd5, fd5, ad5, bd5, cd5, gd5⟩ := hS2 i5 hi5
  obtain ⟨rfl, rfl⟩ := x_b2 hT14 ad5
  obtain ⟨rfl, rfl⟩ := x_b2 hT15 bd5
  obtain rfl := x_ri hT16 cd5
  have hq := T_decimal_ab (x2 := x2) (x3 := x3) (x4 := x4) (x5 := x5) (t0_0 := t0_0) (t0_1 := t0_1) (t1_0 := t1_0) (t1_1 := t1_1) (t2_0 := t2_0) (t3_0 := t3_0) (t3_1 := t3_1) (t4_0 := t4_0) (t5_0 := t5_0) (t5_1 := t5_1) (t6_0 := t6_0) (t7_0 := t7_0) (t7_1 := t7_1) (t8_0 := t8_0) (t9_0 := t9_0) (t9_1 := t9_1) (t10_0 := t10_0) (t11_0 := t11_0) (t11_1 := t11_1) (t12_0 := t12_0) (t12_1 := t12_1) (t13_0 := t13_0) (t14_0 := t14_0) (t14_1 := t14_1) (t15_0 := t15_0) (t15_1 := t15_1) (t16_0 := t16_0) hbd3 ⟨_, hbd5⟩
  refine q_MxV (X_NH_decimal_ab l D g q ws x2 x3 x4 x5 (68 + 5 * i3) (n_d g q hi3) (by omega) (fun h => by have z := e3 h; omega) (fun h => by have z := e4 h; omega) (68 + 5 * i5) (n_d g q hi5) (by omega) (fun h => by have z := e5 h; omega) (by omega) (by omega) (by omega) (by omega) (by omega) hlt hI t0_0 t0_1 hT0 t1_0 t1_1 hT1 t2_0 hT2 t3_0 t3_1 hT3 t4_0 hT4 t5_0 t5_1 hT5 t6_0 hT6 t7_0 t7_1 hT7 t8_0 hT8 t9_0 t9_1 hT9 t10_0 hT10 t11_0 t11_1 hT11 t12_0 t12_1 hT12 t13_0 hT13 t14_0 t14_1 hT14 t15_0 t15_1 hT15 t16_0 hT16 ⟨trivial, hq.1⟩ sz) ?_ ?_
  · rintro u ⟨hI2, hun, u0_0, u0_1, u1_0, u1_1, u2_0, u3_0, u3_1, u4_0, u5_0, u5_1, u6_0, u9_0, u9_1, u10_0, u14_0, u14_1, u15_0, u15_1, u16_0, hU0, hU1, hU2, hU3, hU4, hU5, hU6, hU7, hU8, hU9, hU10, hU11, hR⟩
    have hG := hR.2.2.2.2.2.2.2.2.2.2.2.2.2.2.2.2.2.2.2.2.2.2.2.2.2.2.2.2.2.2.2.2.2.2.2.2.2.2.2.2.2.2.2.2.2.2.2.2.2.2.2.2.2.2.2.2.2.2.2.2.2.2.2.2.2.2.2.2.2.2.2.2.2.2.2.2.2.2.2.2.2.2.2.2.2.2.2.2.2.2.2.2.2.2.2.2.2.2.2.2.2.2
    clear hR
    have hF := hG
    have hp := hq.2
    rw [← hF] at hp
    refine ⟨⟨hI2, ⟨fun i hi => ?_, fun i hi => ?_, ?_⟩, fun i hi => hun i (by simp only [List.mem_cons, List.not_mem_nil, or_false, not_or]; omega)⟩, ?_⟩
    · exact iW_fr (hC.1 i hi) (hun _ (by simp only [List.mem_cons, List.not_mem_nil, or_false, not_or]; omega)) (hun _ (by simp only [List.mem_cons, List.not_mem_nil, or_false, not_or]; omega))
    · by_cases hd5 : i = i5
      · rw [hd5]; refine ⟨_, _, _, _, _, hU9, hU10, hU11, ?_⟩; first | exact hp
      · exact iD_fr (hC.2.1 i hi) (hun _ (by simp only [List.mem_cons, List.not_mem_nil, or_false, not_or]; omega)) (hun _ (by simp only [List.mem_cons, List.not_mem_nil, or_false, not_or]; omega)) (hun _ (by simp only [List.mem_cons, List.not_mem_nil, or_false, not_or]; omega))
    · exact iO_fr hC.2.2 (hun _ (by simp only [List.mem_cons, List.not_mem_nil, or_false, not_or]; omega)) (hun _ (by simp only [List.mem_cons, List.not_mem_nil, or_false, not_or]; omega)) (hun _ (by simp only [List.mem_cons, List.not_mem_nil, or_false, not_or]; omega))
    · have fW : ∀ i, i < 10 → cWr g q u (66 + 5 * i) (zsW σ i) := fun i hi => cWr_fr (hS1 i hi) (hun _ (by simp only [List.mem_cons, List.not_mem_nil, or_false, not_or]; omega)) (hun _ (by simp only [List.mem_cons, List.not_mem_nil, or_false, not_or]; omega))
      have fD : ∀ i, i < 10 → ¬ i = i5 → cDr g q u (68 + 5 * i) (zsD σ i) := fun i hi hk5 => cDr_fr (hS2 i hi) (hun _ (by simp only [List.mem_cons, List.not_mem_nil, or_false, not_or]; omega)) (hun _ (by simp only [List.mem_cons, List.not_mem_nil, or_false, not_or]; omega)) (hun _ (by simp only [List.mem_cons, List.not_mem_nil, or_false, not_or]; omega))
      have fV : cFr g q u 7 (zsV σ) := (cFr_fr hS3 (hun _ (by simp only [List.mem_cons, List.not_mem_nil, or_false, not_or]; omega)))
      have fN : cFr g q u 8 (zsN σ) := (cFr_fr hS4 (hun _ (by simp only [List.mem_cons, List.not_mem_nil, or_false, not_or]; omega)))
      have fT : cTp g q u (zsL σ) (zsB σ) := (cTp_fr hS5 (hun _ (by simp only [List.mem_cons, List.not_mem_nil, or_false, not_or]; omega)) (hun _ (by simp only [List.mem_cons, List.not_mem_nil, or_false, not_or]; omega)))
      have fP : cPp g q u (zsP σ) := (cPp_fr hS6 (hun _ (by simp only [List.mem_cons, List.not_mem_nil, or_false, not_or]; omega)) (hun _ (by simp only [List.mem_cons, List.not_mem_nil, or_false, not_or]; omega)))
      have fA : cAr g q u (zsA σ) := (cAr_fr hS7 (fun i _ _ => (hun _ (by simp only [List.mem_cons, List.not_mem_nil, or_false, not_or]; omega))) (fun i _ _ => (hun _ (by simp only [List.mem_cons, List.not_mem_nil, or_false, not_or]; omega))))
      rcases y_top_decimal_ab (x2 := x2) (x3 := x3) (x4 := x4) (x5 := x5) (t0_0 := t0_0) (t0_1 := t0_1) (t1_0 := t1_0) (t1_1 := t1_1) (t2_0 := t2_0) (t3_0 := t3_0) (t3_1 := t3_1) (t4_0 := t4_0) (t5_0 := t5_0) (t5_1 := t5_1) (t6_0 := t6_0) (t7_0 := t7_0) (t7_1 := t7_1) (t8_0 := t8_0) (t9_0 := t9_0) (t9_1 := t9_1) (t10_0 := t10_0) (t11_0 := t11_0) (t11_1 := t11_1) (t12_0 := t12_0) (t12_1 := t12_1) (t13_0 := t13_0) (t14_0 := t14_0) (t14_1 := t14_1) (t15_0 := t15_0) (t15_1 := t15_1) (t16_0 := t16_0)  with ⟨l1, q1⟩ | ⟨l1, q1⟩
      · have e33 := e3 (x_reg l1.2.1)
        have e44 := e4 (x_reg l1.2.2.1)
        have e55 := e5 (x_reg l1.2.2.2)
        have hv := V_NH_decimalK_ab (x2 := x2) (x3 := x3) (x4 := x4) (x5 := x5) (t0_0 := t0_0) (t0_1 := t0_1) (t1_0 := t1_0) (t1_1 := t1_1) (t2_0 := t2_0) (t3_0 := t3_0) (t3_1 := t3_1) (t4_0 := t4_0) (t5_0 := t5_0) (t5_1 := t5_1) (t6_0 := t6_0) (t7_0 := t7_0) (t7_1 := t7_1) (t8_0 := t8_0) (t9_0 := t9_0) (t9_1 := t9_1) (t10_0 := t10_0) (t11_0 := t11_0) (t11_1 := t11_1) (t12_0 := t12_0) (t12_1 := t12_1) (t13_0 := t13_0) (t14_0 := t14_0) (t14_1 := t14_1) (t15_0 := t15_0) (t15_1 := t15_1) (t16_0 := t16_0) (lx71 := 1) gd3 gd5 trivial l1.1 rfl
        rw [← q1, ← hG] at hv
        rcases hv with ⟨v, o1, o2, z, o3⟩ | ⟨o1, z, o3⟩
        · refine ⟨(zsW σ, updD (zsD σ) x5.toNatClampNeg v, zsV σ, zsN σ, zsL σ, zsB σ, zsP σ, zsA σ), Or.inr ⟨l1, _, by rw [← e33, ← e44], Or.inl ⟨v, o1, o2, rfl, rfl⟩⟩, ?_⟩
          refine ⟨fW, (fun i hi => ?_), fV, fN, fT, fP, fA⟩
          · show cDr g q u (68 + 5 * i) (updD (zsD σ) x5.toNatClampNeg v i)
            unfold updD
            by_cases hk5 : i = i5
            · rw [if_pos (by omega), hk5]; exact ⟨_, _, _, _, _, hU9, hU10, hU11, o3⟩
            · rw [if_neg (by omega)]; exact fD i hi hk5
        · exact absurd (show (0 : Int32) = 2 from z) (by decide)
      · have hv := y_no_decimal_ab_J36 (x2 := x2) (x3 := x3) (x4 := x4) (x5 := x5) (t0_0 := t0_0) (t0_1 := t0_1) (t1_0 := t1_0) (t1_1 := t1_1) (t2_0 := t2_0) (t3_0 := t3_0) (t3_1 := t3_1) (t4_0 := t4_0) (t5_0 := t5_0) (t5_1 := t5_1) (t6_0 := t6_0) (t7_0 := t7_0) (t7_1 := t7_1) (t8_0 := t8_0) (t9_0 := t9_0) (t9_1 := t9_1) (t10_0 := t10_0) (t11_0 := t11_0) (t11_1 := t11_1) (t12_0 := t12_0) (t12_1 := t12_1) (t13_0 := t13_0) (t14_0 := t14_0) (t14_1 := t14_1) (t15_0 := t15_0) (t15_1 := t15_1) (t16_0 := t16_0) (lx71 := 0) rfl
        rw [← q1, ← hG] at hv
        obtain ⟨z, -⟩ := hv
        exact absurd (show (0 : Int32) = 1 from z) (by decide)
  · rintro E u ⟨c, hE, hc, hI2, hun, u0_0, u0_1, u1_0, u1_1, u2_0, u3_0, u3_1, u4_0, u5_0, u5_1, u6_0, u9_0, u9_1, u10_0, u14_0, u14_1, u15_0, u15_1, u16_0, hU0, hU1, hU2, hU3, hU4, hU5, hU6, hU7, hU8, hU9, hU10, hU11, hF⟩
    have hp := hq.2
    rw [← hF] at hp
    have hk := K_NH_decimal_ab (x2 := x2) (x3 := x3) (x4 := x4) (x5 := x5) (t0_0 := t0_0) (t0_1 := t0_1) (t1_0 := t1_0) (t1_1 := t1_1) (t2_0 := t2_0) (t3_0 := t3_0) (t3_1 := t3_1) (t4_0 := t4_0) (t5_0 := t5_0) (t5_1 := t5_1) (t6_0 := t6_0) (t7_0 := t7_0) (t7_1 := t7_1) (t8_0 := t8_0) (t9_0 := t9_0) (t9_1 := t9_1) (t10_0 := t10_0) (t11_0 := t11_0) (t11_1 := t11_1) (t12_0 := t12_0) (t12_1 := t12_1) (t13_0 := t13_0) (t14_0 := t14_0) (t14_1 := t14_1) (t15_0 := t15_0) (t15_1 := t15_1) (t16_0 := t16_0)
    rw [← hF] at hk
    replace hk : kC12 c := hk
    refine ⟨c, hE, hk.resolve_left hc, ⟨hI2, ⟨fun i hi => ?_, fun i hi => ?_, ?_⟩, fun i hi => hun i (by simp only [List.mem_cons, List.not_mem_nil, or_false, not_or]; omega)⟩, ?_⟩
    · exact iW_fr (hC.1 i hi) (hun _ (by simp only [List.mem_cons, List.not_mem_nil, or_false, not_or]; omega)) (hun _ (by simp only [List.mem_cons, List.not_mem_nil, or_false, not_or]; omega))
    · by_cases hd5 : i = i5
      · rw [hd5]; refine ⟨_, _, _, _, _, hU9, hU10, hU11, ?_⟩; first | exact hp
      · exact iD_fr (hC.2.1 i hi) (hun _ (by simp only [List.mem_cons, List.not_mem_nil, or_false, not_or]; omega)) (hun _ (by simp only [List.mem_cons, List.not_mem_nil, or_false, not_or]; omega)) (hun _ (by simp only [List.mem_cons, List.not_mem_nil, or_false, not_or]; omega))
    · exact iO_fr hC.2.2 (hun _ (by simp only [List.mem_cons, List.not_mem_nil, or_false, not_or]; omega)) (hun _ (by simp only [List.mem_cons, List.not_mem_nil, or_false, not_or]; omega)) (hun _ (by simp only [List.mem_cons, List.not_mem_nil, or_false, not_or]; omega))
    · have hG := hF
      have fW : ∀ i, i < 10 → cWr g q u (66 + 5 * i) (zsW σ i) := fun i hi => cWr_fr (hS1 i hi) (hun _ (by simp only [List.mem_cons, List.not_mem_nil, or_false, not_or]; omega)) (hun _ (by simp only [List.mem_cons, List.not_mem_nil, or_false, not_or]; omega))
      have fD : ∀ i, i < 10 → ¬ i = i5 → cDr g q u (68 + 5 * i) (zsD σ i) := fun i hi hk5 => cDr_fr (hS2 i hi) (hun _ (by simp only [List.mem_cons, List.not_mem_nil, or_false, not_or]; omega)) (hun _ (by simp only [List.mem_cons, List.not_mem_nil, or_false, not_or]; omega)) (hun _ (by simp only [List.mem_cons, List.not_mem_nil, or_false, not_or]; omega))
      have fV : cFr g q u 7 (zsV σ) := (cFr_fr hS3 (hun _ (by simp only [List.mem_cons, List.not_mem_nil, or_false, not_or]; omega)))
      have fN : cFr g q u 8 (zsN σ) := (cFr_fr hS4 (hun _ (by simp only [List.mem_cons, List.not_mem_nil, or_false, not_or]; omega)))
      have fT : cTp g q u (zsL σ) (zsB σ) := (cTp_fr hS5 (hun _ (by simp only [List.mem_cons, List.not_mem_nil, or_false, not_or]; omega)) (hun _ (by simp only [List.mem_cons, List.not_mem_nil, or_false, not_or]; omega)))
      have fP : cPp g q u (zsP σ) := (cPp_fr hS6 (hun _ (by simp only [List.mem_cons, List.not_mem_nil, or_false, not_or]; omega)) (hun _ (by simp only [List.mem_cons, List.not_mem_nil, or_false, not_or]; omega)))
      have fA : cAr g q u (zsA σ) := (cAr_fr hS7 (fun i _ _ => (hun _ (by simp only [List.mem_cons, List.not_mem_nil, or_false, not_or]; omega))) (fun i _ _ => (hun _ (by simp only [List.mem_cons, List.not_mem_nil, or_false, not_or]; omega))))
      rcases y_top_decimal_ab (x2 := x2) (x3 := x3) (x4 := x4) (x5 := x5) (t0_0 := t0_0) (t0_1 := t0_1) (t1_0 := t1_0) (t1_1 := t1_1) (t2_0 := t2_0) (t3_0 := t3_0) (t3_1 := t3_1) (t4_0 := t4_0) (t5_0 := t5_0) (t5_1 := t5_1) (t6_0 := t6_0) (t7_0 := t7_0) (t7_1 := t7_1) (t8_0 := t8_0) (t9_0 := t9_0) (t9_1 := t9_1) (t10_0 := t10_0) (t11_0 := t11_0) (t11_1 := t11_1) (t12_0 := t12_0) (t12_1 := t12_1) (t13_0 := t13_0) (t14_0 := t14_0) (t14_1 := t14_1) (t15_0 := t15_0) (t15_1 := t15_1) (t16_0 := t16_0)  with ⟨l1, q1⟩ | ⟨l1, q1⟩
      · have e33 := e3 (x_reg l1.2.1)
        have e44 := e4 (x_reg l1.2.2.1)
        have e55 := e5 (x_reg l1.2.2.2)
        have hv := V_NH_decimalK_ab (x2 := x2) (x3 := x3) (x4 := x4) (x5 := x5) (t0_0 := t0_0) (t0_1 := t0_1) (t1_0 := t1_0) (t1_1 := t1_1) (t2_0 := t2_0) (t3_0 := t3_0) (t3_1 := t3_1) (t4_0 := t4_0) (t5_0 := t5_0) (t5_1 := t5_1) (t6_0 := t6_0) (t7_0 := t7_0) (t7_1 := t7_1) (t8_0 := t8_0) (t9_0 := t9_0) (t9_1 := t9_1) (t10_0 := t10_0) (t11_0 := t11_0) (t11_1 := t11_1) (t12_0 := t12_0) (t12_1 := t12_1) (t13_0 := t13_0) (t14_0 := t14_0) (t14_1 := t14_1) (t15_0 := t15_0) (t15_1 := t15_1) (t16_0 := t16_0) (lx71 := 1) gd3 gd5 trivial l1.1 rfl
        rw [← q1, ← hG] at hv
        rcases hv with ⟨v, o1, o2, z, o3⟩ | ⟨o1, z, o3⟩
        · exact absurd z hc
        · refine ⟨Or.inr ⟨l1, _, by rw [← e33, ← e44], Or.inr ⟨o1, z, rfl⟩⟩, ?_⟩
          refine ⟨fW, (fun i hi => ?_), fV, fN, fT, fP, fA⟩
          · by_cases hk5 : i = i5
            · rw [hk5]; exact ⟨_, _, _, _, _, hU9, hU10, hU11, o3⟩
            · exact fD i hi hk5
      · have hv := y_no_decimal_ab_J36 (x2 := x2) (x3 := x3) (x4 := x4) (x5 := x5) (t0_0 := t0_0) (t0_1 := t0_1) (t1_0 := t1_0) (t1_1 := t1_1) (t2_0 := t2_0) (t3_0 := t3_0) (t3_1 := t3_1) (t4_0 := t4_0) (t5_0 := t5_0) (t5_1 := t5_1) (t6_0 := t6_0) (t7_0 := t7_0) (t7_1 := t7_1) (t8_0 := t8_0) (t9_0 := t9_0) (t9_1 := t9_1) (t10_0 := t10_0) (t11_0 := t11_0) (t11_1 := t11_1) (t12_0 := t12_0) (t12_1 := t12_1) (t13_0 := t13_0) (t14_0 := t14_0) (t14_1 := t14_1) (t15_0 := t15_0) (t15_1 := t15_1) (t16_0 := t16_0) (lx71 := 0) rfl
        rw [← q1, ← hG] at hv
        obtain ⟨z, eT0, eT1, eT2, eT3, eT4⟩ := hv
        replace eT0 : u14_0 = t14_0 := eT0
        replace eT1 : u14_1 = t14_1 := eT1
        replace eT2 : u15_0 = t15_0 := eT2
        replace eT3 : u15_1 = t15_1 := eT3
        replace eT4 : u16_0 = t16_0 := eT4
        refine ⟨Or.inl ⟨l1, z, rfl⟩, ?_⟩
        refine ⟨fW, (fun i hi => ?_), fV, fN, fT, fP, fA⟩
        · by_cases hk5 : i = i5
          · rw [hk5]; exact ⟨_, _, _, _, _, hU9, hU10, hU11, (by rw [eT0, eT1, eT2, eT3, eT4]; exact gd5)⟩
          · exact fD i hi hk5
set_option maxRecDepth 100000 in
set_option maxHeartbeats 4000000 in
theorem CW_decimal_bt (l : Launch) (D : va_G) (g : Nat → ClassId) (q : Nat → Nat) (ws : va_W) (x2 : Int32) (x3 : Int32) (x4 : Int32) (x5 : Int32) (i3 : Nat) (hi3 : i3 < 10) (i4 : Nat) (hi4 : i4 < 10) (e3 : x3.toNatClampNeg < 10 → i3 = x3.toNatClampNeg) (e4 : x4.toNatClampNeg < 10 → i4 = x4.toNatClampNeg) (e5 : x5.toNatClampNeg < 10 → i4 = x5.toNatClampNeg) (nei3i4 : i3 ≠ i4) (hlt : l.stackTraces = false) (hI : q_I (nsh g q) q ws) (hC : iC g q ws) {σ : zSt} (hS : sC g q ws σ) (hk0 : zOk σ) : ∀ sz, q_Mx l y_NH_decimal prog_1_method_11_code 7 none 9 3 18 D g [.ref (q 0), .int x2, .int x3, .int x4, .int x5] ws sz (va_Qv (fun u => iP g q ws u ∧ ∃ σ2, rDc x2 x3 x4 x5 σ 0 σ2 ∧ sC g q u σ2) (q_B D g (va_A ws sz)) (va_A ws sz)) (fun E u => ∃ c : Int32, E = qE c ∧ (c = 1 ∨ c = 2) ∧ iP g q ws u ∧ rDc x2 x3 x4 x5 σ c σ ∧ sC g q u σ) := by
  intro sz
  obtain ⟨t0_0, t0_1, hT0, -⟩ := n_o30 hI
  obtain ⟨t1_0, t1_1, hT1, -⟩ := q_bigO hI (n_b10 g q)
  obtain ⟨t2_0, hT2, -⟩ := n_ai hI (n_s11 g q)
  obtain ⟨t3_0, t3_1, hT3, -⟩ := q_bigO hI (n_b12 g q)
  obtain ⟨t4_0, hT4, -⟩ := n_ai hI (n_s13 g q)
  obtain ⟨t5_0, t5_1, hT5, -⟩ := q_bigO hI (n_b22 g q)
  obtain ⟨t6_0, hT6, -⟩ := n_ai hI (n_s23 g q)
  obtain ⟨t7_0, t7_1, hT7, -⟩ := q_bigO hI (n_b24 g q)
  obtain ⟨t8_0, hT8, -⟩ := n_ai hI (n_s25 g q)
  obtain ⟨t9_0, t9_1, hT9, -⟩ := q_bigO hI (n_b20 g q)
  obtain ⟨t10_0, hT10, -⟩ := n_ai hI (n_s21 g q)
  obtain ⟨t11_0, t11_1, t12_0, t12_1, t13_0, hT11, hT12, hT13, vd3, hbd3⟩ := hC.2.1 i3 hi3
  obtain ⟨t14_0, t14_1, t15_0, t15_1, t16_0, hT14, hT15, hT16, vd4, hbd4⟩ := hC.2.1 i4 hi4
  obtain ⟨hS1, hS2, hS3, hS4, hS5, hS6, hS7⟩ := hS
  obtain ⟨pd3, qd3, sd3, nd3, fd3, ad3, bd3, cd3, gd3⟩ := hS2 i3 hi3
  obtain ⟨rfl, rfl⟩ := x_b2 hT11 ad3
  obtain ⟨rfl, rfl⟩ := x_b2 hT12 bd3
  obtain rfl := x_ri hT13 cd3
  obtain ⟨pd4, qd4, sd4, nd4, fd4, ad4, bd4, cd4, gd4⟩ := hS2 i4 hi4
  obtain ⟨rfl, rfl⟩ := x_b2 hT14 ad4
  obtain ⟨rfl, rfl⟩ := x_b2 hT15 bd4
  obtain rfl := x_ri hT16 cd4
  have hq := T_decimal_bt (x2 := x2) (x3 := x3) (x4 := x4) (x5 := x5) (t0_0 := t0_0) (t0_1 := t0_1) (t1_0 := t1_0) (t1_1 := t1_1) (t2_0 := t2_0) (t3_0 := t3_0) (t3_1 := t3_1) (t4_0 := t4_0) (t5_0 := t5_0) (t5_1 := t5_1) (t6_0 := t6_0) (t7_0 := t7_0) (t7_1 := t7_1) (t8_0 := t8_0) (t9_0 := t9_0) (t9_1 := t9_1) (t10_0 := t10_0) (t11_0 := t11_0) (t11_1 := t11_1) (t12_0 := t12_0) (t12_1 := t12_1) (t13_0 := t13_0) (t14_0 := t14_0) (t14_1 := t14_1) (t15_0 := t15_0) (t15_1 := t15_1) (t16_0 := t16_0) hbd3 hbd4
  refine q_MxV (X_NH_decimal_bt l D g q ws x2 x3 x4 x5 (68 + 5 * i3) (n_d g q hi3) (by omega) (fun h => by have z := e3 h; omega) (68 + 5 * i4) (n_d g q hi4) (by omega) (fun h => by have z := e4 h; omega) (fun h => by have z := e5 h; omega) (by omega) (by omega) (by omega) (by omega) (by omega) hlt hI t0_0 t0_1 hT0 t1_0 t1_1 hT1 t2_0 hT2 t3_0 t3_1 hT3 t4_0 hT4 t5_0 t5_1 hT5 t6_0 hT6 t7_0 t7_1 hT7 t8_0 hT8 t9_0 t9_1 hT9 t10_0 hT10 t11_0 t11_1 hT11 t12_0 t12_1 hT12 t13_0 hT13 t14_0 t14_1 hT14 t15_0 t15_1 hT15 t16_0 hT16 ⟨trivial, hq.1⟩ sz) ?_ ?_
  · rintro u ⟨hI2, hun, u0_0, u0_1, u1_0, u1_1, u2_0, u3_0, u3_1, u4_0, u5_0, u5_1, u6_0, u7_0, u7_1, u8_0, u9_0, u9_1, u10_0, u14_0, u14_1, u15_0, u15_1, u16_0, hU0, hU1, hU2, hU3, hU4, hU5, hU6, hU7, hU8, hU9, hU10, hU11, hU12, hU13, hR⟩
    have hG := hR.2.2.2.2.2.2.2.2.2.2.2.2.2.2.2.2.2.2.2.2.2.2.2.2.2.2.2.2.2.2.2.2.2.2.2.2.2.2.2.2.2.2.2.2.2.2.2.2.2.2.2.2.2.2.2.2.2.2.2.2.2.2.2.2.2.2.2.2.2.2.2.2.2.2.2.2.2.2.2.2.2.2.2.2.2.2.2.2.2.2.2.2.2.2.2.2.2.2.2.2.2.2.2.2.2.2.2.2.2.2.2.2
    clear hR
    have hF := hG
    have hp := hq.2
    rw [← hF] at hp
    refine ⟨⟨hI2, ⟨fun i hi => ?_, fun i hi => ?_, ?_⟩, fun i hi => hun i (by simp only [List.mem_cons, List.not_mem_nil, or_false, not_or]; omega)⟩, ?_⟩
    · exact iW_fr (hC.1 i hi) (hun _ (by simp only [List.mem_cons, List.not_mem_nil, or_false, not_or]; omega)) (hun _ (by simp only [List.mem_cons, List.not_mem_nil, or_false, not_or]; omega))
    · by_cases hd4 : i = i4
      · rw [hd4]; refine ⟨_, _, _, _, _, hU11, hU12, hU13, ?_⟩; first | exact hp
      · exact iD_fr (hC.2.1 i hi) (hun _ (by simp only [List.mem_cons, List.not_mem_nil, or_false, not_or]; omega)) (hun _ (by simp only [List.mem_cons, List.not_mem_nil, or_false, not_or]; omega)) (hun _ (by simp only [List.mem_cons, List.not_mem_nil, or_false, not_or]; omega))
    · exact iO_fr hC.2.2 (hun _ (by simp only [List.mem_cons, List.not_mem_nil, or_false, not_or]; omega)) (hun _ (by simp only [List.mem_cons, List.not_mem_nil, or_false, not_or]; omega)) (hun _ (by simp only [List.mem_cons, List.not_mem_nil, or_false, not_or]; omega))
    · have fW : ∀ i, i < 10 → cWr g q u (66 + 5 * i) (zsW σ i) := fun i hi => cWr_fr (hS1 i hi) (hun _ (by simp only [List.mem_cons, List.not_mem_nil, or_false, not_or]; omega)) (hun _ (by simp only [List.mem_cons, List.not_mem_nil, or_false, not_or]; omega))
      have fD : ∀ i, i < 10 → ¬ i = i4 → cDr g q u (68 + 5 * i) (zsD σ i) := fun i hi hk4 => cDr_fr (hS2 i hi) (hun _ (by simp only [List.mem_cons, List.not_mem_nil, or_false, not_or]; omega)) (hun _ (by simp only [List.mem_cons, List.not_mem_nil, or_false, not_or]; omega)) (hun _ (by simp only [List.mem_cons, List.not_mem_nil, or_false, not_or]; omega))
      have fV : cFr g q u 7 (zsV σ) := (cFr_fr hS3 (hun _ (by simp only [List.mem_cons, List.not_mem_nil, or_false, not_or]; omega)))
      have fN : cFr g q u 8 (zsN σ) := (cFr_fr hS4 (hun _ (by simp only [List.mem_cons, List.not_mem_nil, or_false, not_or]; omega)))
      have fT : cTp g q u (zsL σ) (zsB σ) := (cTp_fr hS5 (hun _ (by simp only [List.mem_cons, List.not_mem_nil, or_false, not_or]; omega)) (hun _ (by simp only [List.mem_cons, List.not_mem_nil, or_false, not_or]; omega)))
      have fP : cPp g q u (zsP σ) := (cPp_fr hS6 (hun _ (by simp only [List.mem_cons, List.not_mem_nil, or_false, not_or]; omega)) (hun _ (by simp only [List.mem_cons, List.not_mem_nil, or_false, not_or]; omega)))
      have fA : cAr g q u (zsA σ) := (cAr_fr hS7 (fun i _ _ => (hun _ (by simp only [List.mem_cons, List.not_mem_nil, or_false, not_or]; omega))) (fun i _ _ => (hun _ (by simp only [List.mem_cons, List.not_mem_nil, or_false, not_or]; omega))))
      rcases y_top_decimal_bt (x2 := x2) (x3 := x3) (x4 := x4) (x5 := x5) (t0_0 := t0_0) (t0_1 := t0_1) (t1_0 := t1_0) (t1_1 := t1_1) (t2_0 := t2_0) (t3_0 := t3_0) (t3_1 := t3_1) (t4_0 := t4_0) (t5_0 := t5_0) (t5_1 := t5_1) (t6_0 := t6_0) (t7_0 := t7_0) (t7_1 := t7_1) (t8_0 := t8_0) (t9_0 := t9_0) (t9_1 := t9_1) (t10_0 := t10_0) (t11_0 := t11_0) (t11_1 := t11_1) (t12_0 := t12_0) (t12_1 := t12_1) (t13_0 := t13_0) (t14_0 := t14_0) (t14_1 := t14_1) (t15_0 := t15_0) (t15_1 := t15_1) (t16_0 := t16_0)  with ⟨l1, q1⟩ | ⟨l1, q1⟩
      · have e33 := e3 (x_reg l1.2.1)
        have e44 := e4 (x_reg l1.2.2.1)
        have e55 := e5 (x_reg l1.2.2.2)
        have hv := V_NH_decimalK_bt (x2 := x2) (x3 := x3) (x4 := x4) (x5 := x5) (t0_0 := t0_0) (t0_1 := t0_1) (t1_0 := t1_0) (t1_1 := t1_1) (t2_0 := t2_0) (t3_0 := t3_0) (t3_1 := t3_1) (t4_0 := t4_0) (t5_0 := t5_0) (t5_1 := t5_1) (t6_0 := t6_0) (t7_0 := t7_0) (t7_1 := t7_1) (t8_0 := t8_0) (t9_0 := t9_0) (t9_1 := t9_1) (t10_0 := t10_0) (t11_0 := t11_0) (t11_1 := t11_1) (t12_0 := t12_0) (t12_1 := t12_1) (t13_0 := t13_0) (t14_0 := t14_0) (t14_1 := t14_1) (t15_0 := t15_0) (t15_1 := t15_1) (t16_0 := t16_0) (lx71 := 1) gd3 gd4 trivial l1.1 rfl
        rw [← q1, ← hG] at hv
        rcases hv with ⟨v, o1, o2, z, o3⟩ | ⟨o1, z, o3⟩
        · refine ⟨(zsW σ, updD (zsD σ) x5.toNatClampNeg v, zsV σ, zsN σ, zsL σ, zsB σ, zsP σ, zsA σ), Or.inr ⟨l1, _, by rw [← e33, ← e44], Or.inl ⟨v, o1, o2, rfl, rfl⟩⟩, ?_⟩
          refine ⟨fW, (fun i hi => ?_), fV, fN, fT, fP, fA⟩
          · show cDr g q u (68 + 5 * i) (updD (zsD σ) x5.toNatClampNeg v i)
            unfold updD
            by_cases hk4 : i = i4
            · rw [if_pos (by omega), hk4]; exact ⟨_, _, _, _, _, hU11, hU12, hU13, o3⟩
            · rw [if_neg (by omega)]; exact fD i hi hk4
        · exact absurd (show (0 : Int32) = 2 from z) (by decide)
      · have hv := y_no_decimal_bt_J36 (x2 := x2) (x3 := x3) (x4 := x4) (x5 := x5) (t0_0 := t0_0) (t0_1 := t0_1) (t1_0 := t1_0) (t1_1 := t1_1) (t2_0 := t2_0) (t3_0 := t3_0) (t3_1 := t3_1) (t4_0 := t4_0) (t5_0 := t5_0) (t5_1 := t5_1) (t6_0 := t6_0) (t7_0 := t7_0) (t7_1 := t7_1) (t8_0 := t8_0) (t9_0 := t9_0) (t9_1 := t9_1) (t10_0 := t10_0) (t11_0 := t11_0) (t11_1 := t11_1) (t12_0 := t12_0) (t12_1 := t12_1) (t13_0 := t13_0) (t14_0 := t14_0) (t14_1 := t14_1) (t15_0 := t15_0) (t15_1 := t15_1) (t16_0 := t16_0) (lx71 := 0) rfl
        rw [← q1, ← hG] at hv
        obtain ⟨z, -⟩ := hv
        exact absurd (show (0 : Int32) = 1 from z) (by decide)
  · rintro E u ⟨c, hE, hc, hI2, hun, u0_0, u0_1, u1_0, u1_1, u2_0, u3_0, u3_1, u4_0, u5_0, u5_1, u6_0, u7_0, u7_1, u8_0, u9_0, u9_1, u10_0, u14_0, u14_1, u15_0, u15_1, u16_0, hU0, hU1, hU2, hU3, hU4, hU5, hU6, hU7, hU8, hU9, hU10, hU11, hU12, hU13, hF⟩
    have hp := hq.2
    rw [← hF] at hp
    have hk := K_NH_decimal_bt (x2 := x2) (x3 := x3) (x4 := x4) (x5 := x5) (t0_0 := t0_0) (t0_1 := t0_1) (t1_0 := t1_0) (t1_1 := t1_1) (t2_0 := t2_0) (t3_0 := t3_0) (t3_1 := t3_1) (t4_0 := t4_0) (t5_0 := t5_0) (t5_1 := t5_1) (t6_0 := t6_0) (t7_0 := t7_0) (t7_1 := t7_1) (t8_0 := t8_0) (t9_0 := t9_0) (t9_1 := t9_1) (t10_0 := t10_0) (t11_0 := t11_0) (t11_1 := t11_1) (t12_0 := t12_0) (t12_1 := t12_1) (t13_0 := t13_0) (t14_0 := t14_0) (t14_1 := t14_1) (t15_0 := t15_0) (t15_1 := t15_1) (t16_0 := t16_0)
    rw [← hF] at hk
    replace hk : kC12 c := hk
    refine ⟨c, hE, hk.resolve_left hc, ⟨hI2, ⟨fun i hi => ?_, fun i hi => ?_, ?_⟩, fun i hi => hun i (by simp only [List.mem_cons, List.not_mem_nil, or_false, not_or]; omega)⟩, ?_⟩
    · exact iW_fr (hC.1 i hi) (hun _ (by simp only [List.mem_cons, List.not_mem_nil, or_false, not_or]; omega)) (hun _ (by simp only [List.mem_cons, List.not_mem_nil, or_false, not_or]; omega))
    · by_cases hd4 : i = i4
      · rw [hd4]; refine ⟨_, _, _, _, _, hU11, hU12, hU13, ?_⟩; first | exact hp
      · exact iD_fr (hC.2.1 i hi) (hun _ (by simp only [List.mem_cons, List.not_mem_nil, or_false, not_or]; omega)) (hun _ (by simp only [List.mem_cons, List.not_mem_nil, or_false, not_or]; omega)) (hun _ (by simp only [List.mem_cons, List.not_mem_nil, or_false, not_or]; omega))
    · exact iO_fr hC.2.2 (hun _ (by simp only [List.mem_cons, List.not_mem_nil, or_false, not_or]; omega)) (hun _ (by simp only [List.mem_cons, List.not_mem_nil, or_false, not_or]; omega)) (hun _ (by simp only [List.mem_cons, List.not_mem_nil, or_false, not_or]; omega))
    · have hG := hF
      have fW : ∀ i, i < 10 → cWr g q u (66 + 5 * i) (zsW σ i) := fun i hi => cWr_fr (hS1 i hi) (hun _ (by simp only [List.mem_cons, List.not_mem_nil, or_false, not_or]; omega)) (hun _ (by simp only [List.mem_cons, List.not_mem_nil, or_false, not_or]; omega))
      have fD : ∀ i, i < 10 → ¬ i = i4 → cDr g q u (68 + 5 * i) (zsD σ i) := fun i hi hk4 => cDr_fr (hS2 i hi) (hun _ (by simp only [List.mem_cons, List.not_mem_nil, or_false, not_or]; omega)) (hun _ (by simp only [List.mem_cons, List.not_mem_nil, or_false, not_or]; omega)) (hun _ (by simp only [List.mem_cons, List.not_mem_nil, or_false, not_or]; omega))
      have fV : cFr g q u 7 (zsV σ) := (cFr_fr hS3 (hun _ (by simp only [List.mem_cons, List.not_mem_nil, or_false, not_or]; omega)))
      have fN : cFr g q u 8 (zsN σ) := (cFr_fr hS4 (hun _ (by simp only [List.mem_cons, List.not_mem_nil, or_false, not_or]; omega)))
      have fT : cTp g q u (zsL σ) (zsB σ) := (cTp_fr hS5 (hun _ (by simp only [List.mem_cons, List.not_mem_nil, or_false, not_or]; omega)) (hun _ (by simp only [List.mem_cons, List.not_mem_nil, or_false, not_or]; omega)))
      have fP : cPp g q u (zsP σ) := (cPp_fr hS6 (hun _ (by simp only [List.mem_cons, List.not_mem_nil, or_false, not_or]; omega)) (hun _ (by simp only [List.mem_cons, List.not_mem_nil, or_false, not_or]; omega)))
      have fA : cAr g q u (zsA σ) := (cAr_fr hS7 (fun i _ _ => (hun _ (by simp only [List.mem_cons, List.not_mem_nil, or_false, not_or]; omega))) (fun i _ _ => (hun _ (by simp only [List.mem_cons, List.not_mem_nil, or_false, not_or]; omega))))
      rcases y_top_decimal_bt (x2 := x2) (x3 := x3) (x4 := x4) (x5 := x5) (t0_0 := t0_0) (t0_1 := t0_1) (t1_0 := t1_0) (t1_1 := t1_1) (t2_0 := t2_0) (t3_0 := t3_0) (t3_1 := t3_1) (t4_0 := t4_0) (t5_0 := t5_0) (t5_1 := t5_1) (t6_0 := t6_0) (t7_0 := t7_0) (t7_1 := t7_1) (t8_0 := t8_0) (t9_0 := t9_0) (t9_1 := t9_1) (t10_0 := t10_0) (t11_0 := t11_0) (t11_1 := t11_1) (t12_0 := t12_0) (t12_1 := t12_1) (t13_0 := t13_0) (t14_0 := t14_0) (t14_1 := t14_1) (t15_0 := t15_0) (t15_1 := t15_1) (t16_0 := t16_0)  with ⟨l1, q1⟩ | ⟨l1, q1⟩
      · have e33 := e3 (x_reg l1.2.1)
        have e44 := e4 (x_reg l1.2.2.1)
        have e55 := e5 (x_reg l1.2.2.2)
        have hv := V_NH_decimalK_bt (x2 := x2) (x3 := x3) (x4 := x4) (x5 := x5) (t0_0 := t0_0) (t0_1 := t0_1) (t1_0 := t1_0) (t1_1 := t1_1) (t2_0 := t2_0) (t3_0 := t3_0) (t3_1 := t3_1) (t4_0 := t4_0) (t5_0 := t5_0) (t5_1 := t5_1) (t6_0 := t6_0) (t7_0 := t7_0) (t7_1 := t7_1) (t8_0 := t8_0) (t9_0 := t9_0) (t9_1 := t9_1) (t10_0 := t10_0) (t11_0 := t11_0) (t11_1 := t11_1) (t12_0 := t12_0) (t12_1 := t12_1) (t13_0 := t13_0) (t14_0 := t14_0) (t14_1 := t14_1) (t15_0 := t15_0) (t15_1 := t15_1) (t16_0 := t16_0) (lx71 := 1) gd3 gd4 trivial l1.1 rfl
        rw [← q1, ← hG] at hv
        rcases hv with ⟨v, o1, o2, z, o3⟩ | ⟨o1, z, o3⟩
        · exact absurd z hc
        · refine ⟨Or.inr ⟨l1, _, by rw [← e33, ← e44], Or.inr ⟨o1, z, rfl⟩⟩, ?_⟩
          refine ⟨fW, (fun i hi => ?_), fV, fN, fT, fP, fA⟩
          · by_cases hk4 : i = i4
            · rw [hk4]; exact ⟨_, _, _, _, _, hU11, hU12, hU13, o3⟩
            · exact fD i hi hk4
      · have hv := y_no_decimal_bt_J36 (x2 := x2) (x3 := x3) (x4 := x4) (x5 := x5) (t0_0 := t0_0) (t0_1 := t0_1) (t1_0 := t1_0) (t1_1 := t1_1) (t2_0 := t2_0) (t3_0 := t3_0) (t3_1 := t3_1) (t4_0 := t4_0) (t5_0 := t5_0) (t5_1 := t5_1) (t6_0 := t6_0) (t7_0 := t7_0) (t7_1 := t7_1) (t8_0 := t8_0) (t9_0 := t9_0) (t9_1 := t9_1) (t10_0 := t10_0) (t11_0 := t11_0) (t11_1 := t11_1) (t12_0 := t12_0) (t12_1 := t12_1) (t13_0 := t13_0) (t14_0 := t14_0) (t14_1 := t14_1) (t15_0 := t15_0) (t15_1 := t15_1) (t16_0 := t16_0) (lx71 := 0) rfl
        rw [← q1, ← hG] at hv
        obtain ⟨z, eT0, eT1, eT2, eT3, eT4⟩ := hv
        replace eT0 : u14_0 = t14_0 := eT0
        replace eT1 : u14_1 = t14_1 := eT1
        replace eT2 : u15_0 = t15_0 := eT2
        replace eT3 : u15_1 = t15_1 := eT3
        replace eT4 : u16_0 = t16_0 := eT4
        refine ⟨Or.inl ⟨l1, z, rfl⟩, ?_⟩
        refine ⟨fW, (fun i hi => ?_), fV, fN, fT, fP, fA⟩
        · by_cases hk4 : i = i4
          · rw [hk4]; exact ⟨_, _, _, _, _, hU11, hU12, hU13, (by rw [eT0, eT1, eT2, eT3, eT4]; exact gd4)⟩
          · exact fD i hi hk4
set_option maxRecDepth 100000 in
set_option maxHeartbeats 4000000 in
theorem CW_decimal_abt (l : Launch) (D : va_G) (g : Nat → ClassId) (q : Nat → Nat) (ws : va_W) (x2 : Int32) (x3 : Int32) (x4 : Int32) (x5 : Int32) (i3 : Nat) (hi3 : i3 < 10) (e3 : x3.toNatClampNeg < 10 → i3 = x3.toNatClampNeg) (e4 : x4.toNatClampNeg < 10 → i3 = x4.toNatClampNeg) (e5 : x5.toNatClampNeg < 10 → i3 = x5.toNatClampNeg) (hlt : l.stackTraces = false) (hI : q_I (nsh g q) q ws) (hC : iC g q ws) {σ : zSt} (hS : sC g q ws σ) (hk0 : zOk σ) : ∀ sz, q_Mx l y_NH_decimal prog_1_method_11_code 7 none 9 3 18 D g [.ref (q 0), .int x2, .int x3, .int x4, .int x5] ws sz (va_Qv (fun u => iP g q ws u ∧ ∃ σ2, rDc x2 x3 x4 x5 σ 0 σ2 ∧ sC g q u σ2) (q_B D g (va_A ws sz)) (va_A ws sz)) (fun E u => ∃ c : Int32, E = qE c ∧ (c = 1 ∨ c = 2) ∧ iP g q ws u ∧ rDc x2 x3 x4 x5 σ c σ ∧ sC g q u σ) := by
  intro sz
  obtain ⟨t0_0, t0_1, hT0, -⟩ := n_o30 hI
  obtain ⟨t1_0, t1_1, hT1, -⟩ := q_bigO hI (n_b10 g q)
  obtain ⟨t2_0, hT2, -⟩ := n_ai hI (n_s11 g q)
  obtain ⟨t3_0, t3_1, hT3, -⟩ := q_bigO hI (n_b12 g q)
  obtain ⟨t4_0, hT4, -⟩ := n_ai hI (n_s13 g q)
  obtain ⟨t5_0, t5_1, hT5, -⟩ := q_bigO hI (n_b22 g q)
  obtain ⟨t6_0, hT6, -⟩ := n_ai hI (n_s23 g q)
  obtain ⟨t7_0, t7_1, hT7, -⟩ := q_bigO hI (n_b24 g q)
  obtain ⟨t8_0, hT8, -⟩ := n_ai hI (n_s25 g q)
  obtain ⟨t9_0, t9_1, hT9, -⟩ := q_bigO hI (n_b20 g q)
  obtain ⟨t10_0, hT10, -⟩ := n_ai hI (n_s21 g q)
  obtain ⟨t11_0, t11_1, t12_0, t12_1, t13_0, hT11, hT12, hT13, vd3, hbd3⟩ := hC.2.1 i3 hi3
  obtain ⟨hS1, hS2, hS3, hS4, hS5, hS6, hS7⟩ := hS
  obtain ⟨pd3, qd3, sd3, nd3, fd3, ad3, bd3, cd3, gd3⟩ := hS2 i3 hi3
  obtain ⟨rfl, rfl⟩ := x_b2 hT11 ad3
  obtain ⟨rfl, rfl⟩ := x_b2 hT12 bd3
  obtain rfl := x_ri hT13 cd3
  have hq := T_decimal_abt (x2 := x2) (x3 := x3) (x4 := x4) (x5 := x5) (t0_0 := t0_0) (t0_1 := t0_1) (t1_0 := t1_0) (t1_1 := t1_1) (t2_0 := t2_0) (t3_0 := t3_0) (t3_1 := t3_1) (t4_0 := t4_0) (t5_0 := t5_0) (t5_1 := t5_1) (t6_0 := t6_0) (t7_0 := t7_0) (t7_1 := t7_1) (t8_0 := t8_0) (t9_0 := t9_0) (t9_1 := t9_1) (t10_0 := t10_0) (t11_0 := t11_0) (t11_1 := t11_1) (t12_0 := t12_0) (t12_1 := t12_1) (t13_0 := t13_0) hbd3
  refine q_MxV (X_NH_decimal_abt l D g q ws x2 x3 x4 x5 (68 + 5 * i3) (n_d g q hi3) (by omega) (fun h => by have z := e3 h; omega) (fun h => by have z := e4 h; omega) (fun h => by have z := e5 h; omega) hlt hI t0_0 t0_1 hT0 t1_0 t1_1 hT1 t2_0 hT2 t3_0 t3_1 hT3 t4_0 hT4 t5_0 t5_1 hT5 t6_0 hT6 t7_0 t7_1 hT7 t8_0 hT8 t9_0 t9_1 hT9 t10_0 hT10 t11_0 t11_1 hT11 t12_0 t12_1 hT12 t13_0 hT13 ⟨trivial, hq.1⟩ sz) ?_ ?_
  · rintro u ⟨hI2, hun, u0_0, u0_1, u1_0, u1_1, u2_0, u3_0, u3_1, u4_0, u5_0, u5_1, u6_0, u9_0, u9_1, u10_0, u11_0, u11_1, u12_0, u12_1, u13_0, hU0, hU1, hU2, hU3, hU4, hU5, hU6, hU7, hU8, hU9, hU10, hU11, hR⟩
    have hG := hR.2.2.2.2.2.2.2.2.2.2.2.2.2.2.2.2.2.2.2.2.2.2.2.2.2.2.2.2.2.2.2.2.2.2.2.2.2.2.2.2.2.2.2.2.2.2.2.2.2.2.2.2.2.2.2.2.2.2.2.2.2.2.2.2.2.2.2.2.2.2.2.2.2.2.2.2.2.2.2.2.2.2.2.2.2.2.2.2.2.2.2.2.2.2.2.2.2.2.2.2.2.2
    clear hR
    have hF := hG
    have hp := hq.2
    rw [← hF] at hp
    refine ⟨⟨hI2, ⟨fun i hi => ?_, fun i hi => ?_, ?_⟩, fun i hi => hun i (by simp only [List.mem_cons, List.not_mem_nil, or_false, not_or]; omega)⟩, ?_⟩
    · exact iW_fr (hC.1 i hi) (hun _ (by simp only [List.mem_cons, List.not_mem_nil, or_false, not_or]; omega)) (hun _ (by simp only [List.mem_cons, List.not_mem_nil, or_false, not_or]; omega))
    · by_cases hd3 : i = i3
      · rw [hd3]; refine ⟨_, _, _, _, _, hU9, hU10, hU11, ?_⟩; first | exact hp
      · exact iD_fr (hC.2.1 i hi) (hun _ (by simp only [List.mem_cons, List.not_mem_nil, or_false, not_or]; omega)) (hun _ (by simp only [List.mem_cons, List.not_mem_nil, or_false, not_or]; omega)) (hun _ (by simp only [List.mem_cons, List.not_mem_nil, or_false, not_or]; omega))
    · exact iO_fr hC.2.2 (hun _ (by simp only [List.mem_cons, List.not_mem_nil, or_false, not_or]; omega)) (hun _ (by simp only [List.mem_cons, List.not_mem_nil, or_false, not_or]; omega)) (hun _ (by simp only [List.mem_cons, List.not_mem_nil, or_false, not_or]; omega))
    · have fW : ∀ i, i < 10 → cWr g q u (66 + 5 * i) (zsW σ i) := fun i hi => cWr_fr (hS1 i hi) (hun _ (by simp only [List.mem_cons, List.not_mem_nil, or_false, not_or]; omega)) (hun _ (by simp only [List.mem_cons, List.not_mem_nil, or_false, not_or]; omega))
      have fD : ∀ i, i < 10 → ¬ i = i3 → cDr g q u (68 + 5 * i) (zsD σ i) := fun i hi hk3 => cDr_fr (hS2 i hi) (hun _ (by simp only [List.mem_cons, List.not_mem_nil, or_false, not_or]; omega)) (hun _ (by simp only [List.mem_cons, List.not_mem_nil, or_false, not_or]; omega)) (hun _ (by simp only [List.mem_cons, List.not_mem_nil, or_false, not_or]; omega))
      have fV : cFr g q u 7 (zsV σ) := (cFr_fr hS3 (hun _ (by simp only [List.mem_cons, List.not_mem_nil, or_false, not_or]; omega)))
      have fN : cFr g q u 8 (zsN σ) := (cFr_fr hS4 (hun _ (by simp only [List.mem_cons, List.not_mem_nil, or_false, not_or]; omega)))
      have fT : cTp g q u (zsL σ) (zsB σ) := (cTp_fr hS5 (hun _ (by simp only [List.mem_cons, List.not_mem_nil, or_false, not_or]; omega)) (hun _ (by simp only [List.mem_cons, List.not_mem_nil, or_false, not_or]; omega)))
      have fP : cPp g q u (zsP σ) := (cPp_fr hS6 (hun _ (by simp only [List.mem_cons, List.not_mem_nil, or_false, not_or]; omega)) (hun _ (by simp only [List.mem_cons, List.not_mem_nil, or_false, not_or]; omega)))
      have fA : cAr g q u (zsA σ) := (cAr_fr hS7 (fun i _ _ => (hun _ (by simp only [List.mem_cons, List.not_mem_nil, or_false, not_or]; omega))) (fun i _ _ => (hun _ (by simp only [List.mem_cons, List.not_mem_nil, or_false, not_or]; omega))))
      rcases y_top_decimal_abt (x2 := x2) (x3 := x3) (x4 := x4) (x5 := x5) (t0_0 := t0_0) (t0_1 := t0_1) (t1_0 := t1_0) (t1_1 := t1_1) (t2_0 := t2_0) (t3_0 := t3_0) (t3_1 := t3_1) (t4_0 := t4_0) (t5_0 := t5_0) (t5_1 := t5_1) (t6_0 := t6_0) (t7_0 := t7_0) (t7_1 := t7_1) (t8_0 := t8_0) (t9_0 := t9_0) (t9_1 := t9_1) (t10_0 := t10_0) (t11_0 := t11_0) (t11_1 := t11_1) (t12_0 := t12_0) (t12_1 := t12_1) (t13_0 := t13_0)  with ⟨l1, q1⟩ | ⟨l1, q1⟩
      · have e33 := e3 (x_reg l1.2.1)
        have e44 := e4 (x_reg l1.2.2.1)
        have e55 := e5 (x_reg l1.2.2.2)
        have hv := V_NH_decimalK_abt (x2 := x2) (x3 := x3) (x4 := x4) (x5 := x5) (t0_0 := t0_0) (t0_1 := t0_1) (t1_0 := t1_0) (t1_1 := t1_1) (t2_0 := t2_0) (t3_0 := t3_0) (t3_1 := t3_1) (t4_0 := t4_0) (t5_0 := t5_0) (t5_1 := t5_1) (t6_0 := t6_0) (t7_0 := t7_0) (t7_1 := t7_1) (t8_0 := t8_0) (t9_0 := t9_0) (t9_1 := t9_1) (t10_0 := t10_0) (t11_0 := t11_0) (t11_1 := t11_1) (t12_0 := t12_0) (t12_1 := t12_1) (t13_0 := t13_0) (lx58 := 1) gd3 trivial l1.1 rfl
        rw [← q1, ← hG] at hv
        rcases hv with ⟨v, o1, o2, z, o3⟩ | ⟨o1, z, o3⟩
        · refine ⟨(zsW σ, updD (zsD σ) x5.toNatClampNeg v, zsV σ, zsN σ, zsL σ, zsB σ, zsP σ, zsA σ), Or.inr ⟨l1, _, by rw [← e33, ← e44], Or.inl ⟨v, o1, o2, rfl, rfl⟩⟩, ?_⟩
          refine ⟨fW, (fun i hi => ?_), fV, fN, fT, fP, fA⟩
          · show cDr g q u (68 + 5 * i) (updD (zsD σ) x5.toNatClampNeg v i)
            unfold updD
            by_cases hk3 : i = i3
            · rw [if_pos (by omega), hk3]; exact ⟨_, _, _, _, _, hU9, hU10, hU11, o3⟩
            · rw [if_neg (by omega)]; exact fD i hi hk3
        · exact absurd (show (0 : Int32) = 2 from z) (by decide)
      · have hv := y_no_decimal_abt_J36 (x2 := x2) (x3 := x3) (x4 := x4) (x5 := x5) (t0_0 := t0_0) (t0_1 := t0_1) (t1_0 := t1_0) (t1_1 := t1_1) (t2_0 := t2_0) (t3_0 := t3_0) (t3_1 := t3_1) (t4_0 := t4_0) (t5_0 := t5_0) (t5_1 := t5_1) (t6_0 := t6_0) (t7_0 := t7_0) (t7_1 := t7_1) (t8_0 := t8_0) (t9_0 := t9_0) (t9_1 := t9_1) (t10_0 := t10_0) (t11_0 := t11_0) (t11_1 := t11_1) (t12_0 := t12_0) (t12_1 := t12_1) (t13_0 := t13_0) (lx58 := 0) rfl
        rw [← q1, ← hG] at hv
        obtain ⟨z, -⟩ := hv
        exact absurd (show (0 : Int32) = 1 from z) (by decide)
  · rintro E u ⟨c, hE, hc, hI2, hun, u0_0, u0_1, u1_0, u1_1, u2_0, u3_0, u3_1, u4_0, u5_0, u5_1, u6_0, u9_0, u9_1, u10_0, u11_0, u11_1, u12_0, u12_1, u13_0, hU0, hU1, hU2, hU3, hU4, hU5, hU6, hU7, hU8, hU9, hU10, hU11, hF⟩
    have hp := hq.2
    rw [← hF] at hp
    have hk := K_NH_decimal_abt (x2 := x2) (x3 := x3) (x4 := x4) (x5 := x5) (t0_0 := t0_0) (t0_1 := t0_1) (t1_0 := t1_0) (t1_1 := t1_1) (t2_0 := t2_0) (t3_0 := t3_0) (t3_1 := t3_1) (t4_0 := t4_0) (t5_0 := t5_0) (t5_1 := t5_1) (t6_0 := t6_0) (t7_0 := t7_0) (t7_1 := t7_1) (t8_0 := t8_0) (t9_0 := t9_0) (t9_1 := t9_1) (t10_0 := t10_0) (t11_0 := t11_0) (t11_1 := t11_1) (t12_0 := t12_0) (t12_1 := t12_1) (t13_0 := t13_0)
    rw [← hF] at hk
    replace hk : kC12 c := hk
    refine ⟨c, hE, hk.resolve_left hc, ⟨hI2, ⟨fun i hi => ?_, fun i hi => ?_, ?_⟩, fun i hi => hun i (by simp only [List.mem_cons, List.not_mem_nil, or_false, not_or]; omega)⟩, ?_⟩
    · exact iW_fr (hC.1 i hi) (hun _ (by simp only [List.mem_cons, List.not_mem_nil, or_false, not_or]; omega)) (hun _ (by simp only [List.mem_cons, List.not_mem_nil, or_false, not_or]; omega))
    · by_cases hd3 : i = i3
      · rw [hd3]; refine ⟨_, _, _, _, _, hU9, hU10, hU11, ?_⟩; first | exact hp
      · exact iD_fr (hC.2.1 i hi) (hun _ (by simp only [List.mem_cons, List.not_mem_nil, or_false, not_or]; omega)) (hun _ (by simp only [List.mem_cons, List.not_mem_nil, or_false, not_or]; omega)) (hun _ (by simp only [List.mem_cons, List.not_mem_nil, or_false, not_or]; omega))
    · exact iO_fr hC.2.2 (hun _ (by simp only [List.mem_cons, List.not_mem_nil, or_false, not_or]; omega)) (hun _ (by simp only [List.mem_cons, List.not_mem_nil, or_false, not_or]; omega)) (hun _ (by simp only [List.mem_cons, List.not_mem_nil, or_false, not_or]; omega))
    · have hG := hF
      have fW : ∀ i, i < 10 → cWr g q u (66 + 5 * i) (zsW σ i) := fun i hi => cWr_fr (hS1 i hi) (hun _ (by simp only [List.mem_cons, List.not_mem_nil, or_false, not_or]; omega)) (hun _ (by simp only [List.mem_cons, List.not_mem_nil, or_false, not_or]; omega))
      have fD : ∀ i, i < 10 → ¬ i = i3 → cDr g q u (68 + 5 * i) (zsD σ i) := fun i hi hk3 => cDr_fr (hS2 i hi) (hun _ (by simp only [List.mem_cons, List.not_mem_nil, or_false, not_or]; omega)) (hun _ (by simp only [List.mem_cons, List.not_mem_nil, or_false, not_or]; omega)) (hun _ (by simp only [List.mem_cons, List.not_mem_nil, or_false, not_or]; omega))
      have fV : cFr g q u 7 (zsV σ) := (cFr_fr hS3 (hun _ (by simp only [List.mem_cons, List.not_mem_nil, or_false, not_or]; omega)))
      have fN : cFr g q u 8 (zsN σ) := (cFr_fr hS4 (hun _ (by simp only [List.mem_cons, List.not_mem_nil, or_false, not_or]; omega)))
      have fT : cTp g q u (zsL σ) (zsB σ) := (cTp_fr hS5 (hun _ (by simp only [List.mem_cons, List.not_mem_nil, or_false, not_or]; omega)) (hun _ (by simp only [List.mem_cons, List.not_mem_nil, or_false, not_or]; omega)))
      have fP : cPp g q u (zsP σ) := (cPp_fr hS6 (hun _ (by simp only [List.mem_cons, List.not_mem_nil, or_false, not_or]; omega)) (hun _ (by simp only [List.mem_cons, List.not_mem_nil, or_false, not_or]; omega)))
      have fA : cAr g q u (zsA σ) := (cAr_fr hS7 (fun i _ _ => (hun _ (by simp only [List.mem_cons, List.not_mem_nil, or_false, not_or]; omega))) (fun i _ _ => (hun _ (by simp only [List.mem_cons, List.not_mem_nil, or_false, not_or]; omega))))
      rcases y_top_decimal_abt (x2 := x2) (x3 := x3) (x4 := x4) (x5 := x5) (t0_0 := t0_0) (t0_1 := t0_1) (t1_0 := t1_0) (t1_1 := t1_1) (t2_0 := t2_0) (t3_0 := t3_0) (t3_1 := t3_1) (t4_0 := t4_0) (t5_0 := t5_0) (t5_1 := t5_1) (t6_0 := t6_0) (t7_0 := t7_0) (t7_1 := t7_1) (t8_0 := t8_0) (t9_0 := t9_0) (t9_1 := t9_1) (t10_0 := t10_0) (t11_0 := t11_0) (t11_1 := t11_1) (t12_0 := t12_0) (t12_1 := t12_1) (t13_0 := t13_0)  with ⟨l1, q1⟩ | ⟨l1, q1⟩
      · have e33 := e3 (x_reg l1.2.1)
        have e44 := e4 (x_reg l1.2.2.1)
        have e55 := e5 (x_reg l1.2.2.2)
        have hv := V_NH_decimalK_abt (x2 := x2) (x3 := x3) (x4 := x4) (x5 := x5) (t0_0 := t0_0) (t0_1 := t0_1) (t1_0 := t1_0) (t1_1 := t1_1) (t2_0 := t2_0) (t3_0 := t3_0) (t3_1 := t3_1) (t4_0 := t4_0) (t5_0 := t5_0) (t5_1 := t5_1) (t6_0 := t6_0) (t7_0 := t7_0) (t7_1 := t7_1) (t8_0 := t8_0) (t9_0 := t9_0) (t9_1 := t9_1) (t10_0 := t10_0) (t11_0 := t11_0) (t11_1 := t11_1) (t12_0 := t12_0) (t12_1 := t12_1) (t13_0 := t13_0) (lx58 := 1) gd3 trivial l1.1 rfl
        rw [← q1, ← hG] at hv
        rcases hv with ⟨v, o1, o2, z, o3⟩ | ⟨o1, z, o3⟩
        · exact absurd z hc
        · refine ⟨Or.inr ⟨l1, _, by rw [← e33, ← e44], Or.inr ⟨o1, z, rfl⟩⟩, ?_⟩
          refine ⟨fW, (fun i hi => ?_), fV, fN, fT, fP, fA⟩
          · by_cases hk3 : i = i3
            · rw [hk3]; exact ⟨_, _, _, _, _, hU9, hU10, hU11, o3⟩
            · exact fD i hi hk3
      · have hv := y_no_decimal_abt_J36 (x2 := x2) (x3 := x3) (x4 := x4) (x5 := x5) (t0_0 := t0_0) (t0_1 := t0_1) (t1_0 := t1_0) (t1_1 := t1_1) (t2_0 := t2_0) (t3_0 := t3_0) (t3_1 := t3_1) (t4_0 := t4_0) (t5_0 := t5_0) (t5_1 := t5_1) (t6_0 := t6_0) (t7_0 := t7_0) (t7_1 := t7_1) (t8_0 := t8_0) (t9_0 := t9_0) (t9_1 := t9_1) (t10_0 := t10_0) (t11_0 := t11_0) (t11_1 := t11_1) (t12_0 := t12_0) (t12_1 := t12_1) (t13_0 := t13_0) (lx58 := 0) rfl
        rw [← q1, ← hG] at hv
        obtain ⟨z, eT0, eT1, eT2, eT3, eT4⟩ := hv
        replace eT0 : u11_0 = t11_0 := eT0
        replace eT1 : u11_1 = t11_1 := eT1
        replace eT2 : u12_0 = t12_0 := eT2
        replace eT3 : u12_1 = t12_1 := eT3
        replace eT4 : u13_0 = t13_0 := eT4
        refine ⟨Or.inl ⟨l1, z, rfl⟩, ?_⟩
        refine ⟨fW, (fun i hi => ?_), fV, fN, fT, fP, fA⟩
        · by_cases hk3 : i = i3
          · rw [hk3]; exact ⟨_, _, _, _, _, hU9, hU10, hU11, (by rw [eT0, eT1, eT2, eT3, eT4]; exact gd3)⟩
          · exact fD i hi hk3
theorem DW_decimal (l : Launch) (D : va_G) (g : Nat → ClassId) (q : Nat → Nat) (ws : va_W) (x2 : Int32) (x3 : Int32) (x4 : Int32) (x5 : Int32) (hlt : l.stackTraces = false) (hI : q_I (nsh g q) q ws) (hC : iC g q ws) {σ : zSt} (hS : sC g q ws σ) (hk0 : zOk σ) : ∀ sz, q_Mx l y_NH_decimal prog_1_method_11_code 7 none 9 3 18 D g [.ref (q 0), .int x2, .int x3, .int x4, .int x5] ws sz (va_Qv (fun u => iP g q ws u ∧ ∃ σ2, rDc x2 x3 x4 x5 σ 0 σ2 ∧ sC g q u σ2) (q_B D g (va_A ws sz)) (va_A ws sz)) (fun E u => ∃ c : Int32, E = qE c ∧ (c = 1 ∨ c = 2) ∧ iP g q ws u ∧ rDc x2 x3 x4 x5 σ c σ ∧ sC g q u σ) := by
  obtain ⟨i3, hi3, e3⟩ := iX x3
  obtain ⟨i4, hi4, e4⟩ := iX x4
  obtain ⟨i5, hi5, e5⟩ := iX x5
  by_cases c34 : i3 = i4
  · by_cases c45 : i4 = i5
    · exact CW_decimal_abt l D g q ws x2 x3 x4 x5 i3 hi3 e3 (fun h => by have z := e4 h; omega) (fun h => by have z := e5 h; omega) hlt hI hC hS hk0
    · exact CW_decimal_ab l D g q ws x2 x3 x4 x5 i3 hi3 i5 hi5 e3 (fun h => by have z := e4 h; omega) e5 (by omega) hlt hI hC hS hk0
  · by_cases c45 : i4 = i5
    · exact CW_decimal_bt l D g q ws x2 x3 x4 x5 i3 hi3 i4 hi4 e3 e4 (fun h => by have z := e5 h; omega) (by omega) hlt hI hC hS hk0
    · exact CW_decimal l D g q ws x2 x3 x4 x5 i3 hi3 i4 hi4 i5 hi5 e3 e4 e5 (by omega) (by omega) hlt hI hC hS hk0
set_option maxRecDepth 100000 in
set_option maxHeartbeats 4000000 in
theorem DM_decimal (l : Launch) (D : va_G) (g : Nat → ClassId) (q : Nat → Nat) (ws : va_W) (x2 : Int32) (x3 : Int32) (x4 : Int32) (x5 : Int32) (hI : q_I (msh g q) q ws) (hM : iM g q ws) {th : Int32} {σ : zSt} (hS : sM g q ws th σ) (hk0 : zOk σ) : q_mV l y_NM_decimal prog_14_method_23_code 5 6 0 0 D g [.ref (q 116), .int x2, .int x3, .int x4, .int x5] ws (fun u => jP g q ws u ∧ ∃ c σ2, rDc x2 x3 x4 x5 σ c σ2 ∧ sM g q u c σ2) := by
  have hM0 := hM
  obtain ⟨t2_0, t3_0, t4_0, t5_0, hT2, hT3, hT4, hT5, hD⟩ := hM.2.1
  obtain ⟨t0_0, t0_1, t0_2, hT0, bT0⟩ := n_o116 hI
  obtain ⟨t1_0, t1_1, t1_2, t1_3, t1_4, t1_5, t1_6, t1_7, t1_8, t1_9, t1_10, hT1, bT1⟩ := n_o134 hI
  obtain ⟨t6_0, hT6, -⟩ := n_ai hI (n_s140 g q)
  obtain ⟨t7_0, hT7, -⟩ := n_ai hI (n_s141 g q)
  obtain ⟨t8_0, hT8, -⟩ := n_ai hI (n_s142 g q)
  obtain ⟨t9_0, hT9, -⟩ := n_ai hI (n_s143 g q)
  obtain ⟨hS1, hS2, hS3, hS4, hS5⟩ := hS
  obtain ⟨s9, p9, r9, r8, y0, y1, y2, jL9, jT9, jP9⟩ := hS4
  obtain ⟨-, rfl, rfl⟩ := x_116 hT0 y0
  obtain ⟨g0, g1, g2, g3, yc, yd, ye, yg, hd9⟩ := hS2
  obtain rfl := x_ri hT2 yc
  obtain rfl := x_ri hT3 yd
  obtain rfl := x_ri hT4 ye
  obtain rfl := x_ri hT5 yg
  have hS2 : mDr g q ws (zsD σ) := ⟨_, _, _, _, yc, yd, ye, yg, hd9⟩
  have hq := T_NM_decimal (x2 := x2) (x3 := x3) (x4 := x4) (x5 := x5) (t0_0 := t0_0) (t0_1 := t0_1) (t0_2 := t0_2) (t1_0 := t1_0) (t1_1 := t1_1) (t1_2 := t1_2) (t1_3 := t1_3) (t1_4 := t1_4) (t1_5 := t1_5) (t1_6 := t1_6) (t1_7 := t1_7) (t1_8 := t1_8) (t1_9 := t1_9) (t1_10 := t1_10) (t2_0 := t2_0) (t3_0 := t3_0) (t4_0 := t4_0) (t5_0 := t5_0) (t6_0 := t6_0) (t7_0 := t7_0) (t8_0 := t8_0) (t9_0 := t9_0) hD
  refine q_mVw (X_NM_decimal l D g q ws x2 x3 x4 x5 hI t0_0 t0_1 t0_2 hT0 t1_0 t1_1 t1_2 t1_3 t1_4 t1_5 t1_6 t1_7 t1_8 t1_9 t1_10 hT1 t2_0 hT2 t3_0 hT3 t4_0 hT4 t5_0 hT5 t6_0 hT6 t7_0 hT7 t8_0 hT8 t9_0 hT9 ⟨trivial, hq.1⟩) ?_
  rintro u ⟨hI2, hun, u0_0, u1_0, u1_1, u1_2, u1_3, u1_4, u1_5, u1_6, u1_7, u1_8, u1_9, u1_10, u2_0, u3_0, u4_0, u5_0, u6_0, u7_0, u8_0, u9_0, hU0, hU1, hU2, hU3, hU4, hU5, hU6, hU7, hU8, hU9, hR⟩
  have hp := hq.2
  rw [← hR.2.2.2.2.2.2.2.2.2.2.2.2] at hp
  refine ⟨⟨hI2, ⟨jW_fr hM0.1 (hun 121 (by decide)) (hun 122 (by decide)), ⟨_, _, _, _, hU2, hU3, hU4, hU5, hp⟩, jZ_fr hM0.2.2.1 (hun 160 (by decide)), jB_fr hM0.2.2.2 (hun 167 (by decide))⟩, jF_un hun (by decide)⟩, ?_⟩
  have hG := hR.2.2.2.2.2.2.2.2.2.2.2.2
  rcases y_mtop_decimal (x2 := x2) (x3 := x3) (x4 := x4) (x5 := x5) (t0_0 := t0_0) (t0_1 := t0_1) (t0_2 := t0_2) (t1_0 := t1_0) (t1_1 := t1_1) (t1_2 := t1_2) (t1_3 := t1_3) (t1_4 := t1_4) (t1_5 := t1_5) (t1_6 := t1_6) (t1_7 := t1_7) (t1_8 := t1_8) (t1_9 := t1_9) (t1_10 := t1_10) (t2_0 := t2_0) (t3_0 := t3_0) (t4_0 := t4_0) (t5_0 := t5_0) (t6_0 := t6_0) (t7_0 := t7_0) (t8_0 := t8_0) (t9_0 := t9_0)  with ⟨ok, q1⟩ | ⟨ok, q1⟩
  · have hv := V_NM_decimalK (x2 := x2) (x3 := x3) (x4 := x4) (x5 := x5) (t0_0 := t0_0) (t0_1 := t0_1) (t0_2 := t0_2) (t1_0 := t1_0) (t1_1 := t1_1) (t1_2 := t1_2) (t1_3 := t1_3) (t1_4 := t1_4) (t1_5 := t1_5) (t1_6 := t1_6) (t1_7 := t1_7) (t1_8 := t1_8) (t1_9 := t1_9) (t1_10 := t1_10) (t2_0 := t2_0) (t3_0 := t3_0) (t4_0 := t4_0) (t5_0 := t5_0) (t6_0 := t6_0) (t7_0 := t7_0) (t8_0 := t8_0) (t9_0 := t9_0) (lx47 := 0) hd9 ok.1 ok.2.1 ok.2.2.1 ok.2.2.2 rfl
    rw [← q1, ← hG] at hv
    rcases hv with ⟨v, o1, o2, z, o3⟩ | ⟨o1, z, o3⟩
    · replace z : u0_0 = 0 := z
      exact ⟨0, (zsW σ, updD (zsD σ) x5.toNatClampNeg v, zsV σ, zsN σ, zsL σ, zsB σ, zsP σ, zsA σ), Or.inr ⟨ok, _, rfl, Or.inl ⟨v, o1, o2, rfl, rfl⟩⟩, ⟨(mWr_fr hS1 (hun 121 (by decide)) (hun 122 (by decide))), ⟨_, _, _, _, hU2, hU3, hU4, hU5, o3⟩, (mFr_fr hS3 (hun 167 (by decide))), ⟨_, _, _, _, by rw [← z]; exact hU0, (hun 117 (by decide)).trans y1, (hun 118 (by decide)).trans y2, jL9, jT9, jP9⟩, (mAr_fr hS5 (hun 157 (by decide)) (hun 159 (by decide)) (hun 160 (by decide)) (hun 161 (by decide)) (hun 162 (by decide)))⟩⟩
    · replace z : u0_0 = 2 := z
      exact ⟨2, σ, Or.inr ⟨ok, _, rfl, Or.inr ⟨o1, rfl, rfl⟩⟩, ⟨(mWr_fr hS1 (hun 121 (by decide)) (hun 122 (by decide))), ⟨_, _, _, _, hU2, hU3, hU4, hU5, o3⟩, (mFr_fr hS3 (hun 167 (by decide))), ⟨_, _, _, _, by rw [← z]; exact hU0, (hun 117 (by decide)).trans y1, (hun 118 (by decide)).trans y2, jL9, jT9, jP9⟩, (mAr_fr hS5 (hun 157 (by decide)) (hun 159 (by decide)) (hun 160 (by decide)) (hun 161 (by decide)) (hun 162 (by decide)))⟩⟩
  · have hv := y_mno_decimal (x2 := x2) (x3 := x3) (x4 := x4) (x5 := x5) (t0_0 := t0_0) (t0_1 := t0_1) (t0_2 := t0_2) (t1_0 := t1_0) (t1_1 := t1_1) (t1_2 := t1_2) (t1_3 := t1_3) (t1_4 := t1_4) (t1_5 := t1_5) (t1_6 := t1_6) (t1_7 := t1_7) (t1_8 := t1_8) (t1_9 := t1_9) (t1_10 := t1_10) (t2_0 := t2_0) (t3_0 := t3_0) (t4_0 := t4_0) (t5_0 := t5_0) (t6_0 := t6_0) (t7_0 := t7_0) (t8_0 := t8_0) (t9_0 := t9_0) (lx47 := 1) rfl
    rw [← q1, ← hG] at hv
    obtain ⟨z, eD0, eD1, eD2, eD3⟩ := hv
    replace z : u0_0 = 1 := z
    replace eD0 : u2_0 = t2_0 := eD0
    replace eD1 : u3_0 = t3_0 := eD1
    replace eD2 : u4_0 = t4_0 := eD2
    replace eD3 : u5_0 = t5_0 := eD3
    exact ⟨1, σ, Or.inl ⟨ok, rfl, rfl⟩, ⟨(mWr_fr hS1 (hun 121 (by decide)) (hun 122 (by decide))), ⟨_, _, _, _, hU2, hU3, hU4, hU5, (by rw [eD0, eD1, eD2, eD3]; exact hd9)⟩, (mFr_fr hS3 (hun 167 (by decide))), ⟨_, _, _, _, by rw [← z]; exact hU0, (hun 117 (by decide)).trans y1, (hun 118 (by decide)).trans y2, jL9, jT9, jP9⟩, (mAr_fr hS5 (hun 157 (by decide)) (hun 159 (by decide)) (hun 160 (by decide)) (hun 161 (by decide)) (hun 162 (by decide)))⟩⟩
