/-! whole's law: shape -/
theorem x_one {s n : Int32} {f : Nat → Int32} {sc fc : Int32} (h : dO 3 s n f sc fc 1 ∧ sc = 0) : dP 3 s n f sc fc (1, 0) := by
  obtain ⟨⟨h1, ⟨c, h2, h3, h4⟩, _⟩, e⟩ := h
  exact ⟨h1, ⟨c, h2, ⟨h3, fun w => absurd w (by decide)⟩, h4⟩, by rw [e]; rfl, by decide, by decide⟩
def rSh (x2 x3 x4 x5 x6 : Int32) (σ : zSt) (c : Int32) (σ2 : zSt) : Prop := (¬ ((0 ≤ x2.toInt ∧ x2.toInt ≤ 2) ∧ yReg x3 ∧ yReg x4 ∧ yMod x6 ∧ ((x2 = 0 → yScl x5) ∧ (x2 ≠ 0 → 1 ≤ x5.toInt ∧ x5.toInt ≤ 1000))) ∧ c = 1 ∧ σ2 = σ) ∨ (((0 ≤ x2.toInt ∧ x2.toInt ≤ 2) ∧ yReg x3 ∧ yReg x4 ∧ yMod x6 ∧ ((x2 = 0 → yScl x5) ∧ (x2 ≠ 0 → 1 ≤ x5.toInt ∧ x5.toInt ≤ 1000))) ∧ ∃ o : Option (Int × Int), sSh x2 (zsD σ x3.toNatClampNeg) x5 x6 o ∧ rPd x4 o σ c σ2)
theorem rSh_U {x2 x3 x4 x5 x6 : Int32} {σ s t : zSt} {c c2 : Int32} (h : rSh x2 x3 x4 x5 x6 σ c s) (g : rSh x2 x3 x4 x5 x6 σ c2 t) : c = c2 ∧ s = t := by
  rcases h with ⟨h1, h2, h3⟩ | ⟨h1, o, h2, h3⟩ <;> rcases g with ⟨g1, g2, g3⟩ | ⟨g1, o', g2, g3⟩
  · exact ⟨h2.trans g2.symm, h3.trans g3.symm⟩
  · exact absurd g1 h1
  · exact absurd h1 g1
  · have e : o = o' := sSh_U h2 g2
    subst e
    exact rPd_U h3 g3
set_option maxRecDepth 100000 in
set_option maxHeartbeats 4000000 in
theorem CW_shape (l : Launch) (D : va_G) (g : Nat → ClassId) (q : Nat → Nat) (ws : va_W) (x2 : Int32) (x3 : Int32) (x4 : Int32) (x5 : Int32) (x6 : Int32) (i3 : Nat) (hi3 : i3 < 10) (i4 : Nat) (hi4 : i4 < 10) (e3 : x3.toNatClampNeg < 10 → i3 = x3.toNatClampNeg) (e4 : x4.toNatClampNeg < 10 → i4 = x4.toNatClampNeg) (hlt : l.stackTraces = false) (hI : q_I (nsh g q) q ws) (hC : iC g q ws) {σ : zSt} (hS : sC g q ws σ) (hk0 : zOk σ) : ∀ sz, q_Mx l y_NH_shape prog_1_method_15_code 7 none 9 5 30 D g [.ref (q 0), .int x2, .int x3, .int x4, .int x5, .int x6] ws sz (va_Qv (fun u => iP g q ws u ∧ ∃ σ2, rSh x2 x3 x4 x5 x6 σ 0 σ2 ∧ sC g q u σ2) (q_B D g (va_A ws sz)) (va_A ws sz)) (fun E u => ∃ c : Int32, E = qE c ∧ (c = 1 ∨ c = 2) ∧ iP g q ws u ∧ rSh x2 x3 x4 x5 x6 σ c σ ∧ sC g q u σ) := by
  intro sz
  obtain ⟨t0_0, t0_1, hT0, bT0⟩ := n_o30 hI
  obtain ⟨t1_0, t1_1, t2_0, t2_1, t3_0, hT1, hT2, hT3, h1z⟩ := hC.2.2
  obtain ⟨t4_0, t4_1, hT4, bT4⟩ := q_bigO hI (n_b10 g q)
  obtain ⟨t5_0, hT5, bT5⟩ := n_ai hI (n_s11 g q)
  obtain ⟨t6_0, t6_1, hT6, bT6⟩ := q_bigO hI (n_b12 g q)
  obtain ⟨t7_0, hT7, bT7⟩ := n_ai hI (n_s13 g q)
  obtain ⟨t8_0, t8_1, hT8, bT8⟩ := q_bigO hI (n_b14 g q)
  obtain ⟨t9_0, hT9, bT9⟩ := n_ai hI (n_s15 g q)
  obtain ⟨t10_0, t10_1, hT10, bT10⟩ := q_bigO hI (n_b16 g q)
  obtain ⟨t11_0, hT11, bT11⟩ := n_ai hI (n_s17 g q)
  obtain ⟨t12_0, t12_1, hT12, bT12⟩ := q_bigO hI (n_b18 g q)
  obtain ⟨t13_0, hT13, bT13⟩ := n_ai hI (n_s19 g q)
  obtain ⟨t14_0, t14_1, hT14, bT14⟩ := q_bigO hI (n_b22 g q)
  obtain ⟨t15_0, hT15, bT15⟩ := n_ai hI (n_s23 g q)
  obtain ⟨t16_0, t16_1, hT16, bT16⟩ := q_bigO hI (n_b24 g q)
  obtain ⟨t17_0, hT17, bT17⟩ := n_ai hI (n_s25 g q)
  obtain ⟨t18_0, t18_1, hT18, bT18⟩ := q_bigO hI (n_b20 g q)
  obtain ⟨t19_0, hT19, bT19⟩ := n_ai hI (n_s21 g q)
  obtain ⟨t20_0, t20_1, t21_0, t21_1, t22_0, hT20, hT21, hT22, vd3, hbd3⟩ := hC.2.1 i3 hi3
  obtain ⟨t23_0, t23_1, t24_0, t24_1, t25_0, hT23, hT24, hT25, vd4, hbd4⟩ := hC.2.1 i4 hi4
  obtain ⟨hS1, hS2, hS3, hS4, hS5, hS6, hS7⟩ := hS
  obtain ⟨pd3, qd3, sd3, nd3, fd3, ad3, bd3, cd3, gd3⟩ := hS2 i3 hi3
  obtain ⟨rfl, rfl⟩ := x_b2 hT20 ad3
  obtain ⟨rfl, rfl⟩ := x_b2 hT21 bd3
  obtain rfl := x_ri hT22 cd3
  obtain ⟨pd4, qd4, sd4, nd4, fd4, ad4, bd4, cd4, gd4⟩ := hS2 i4 hi4
  obtain ⟨rfl, rfl⟩ := x_b2 hT23 ad4
  obtain ⟨rfl, rfl⟩ := x_b2 hT24 bd4
  obtain rfl := x_ri hT25 cd4
  have hq := T_shape (x2 := x2) (x3 := x3) (x4 := x4) (x5 := x5) (x6 := x6) (t0_0 := t0_0) (t0_1 := t0_1) (t1_0 := t1_0) (t1_1 := t1_1) (t2_0 := t2_0) (t2_1 := t2_1) (t3_0 := t3_0) (t4_0 := t4_0) (t4_1 := t4_1) (t5_0 := t5_0) (t6_0 := t6_0) (t6_1 := t6_1) (t7_0 := t7_0) (t8_0 := t8_0) (t8_1 := t8_1) (t9_0 := t9_0) (t10_0 := t10_0) (t10_1 := t10_1) (t11_0 := t11_0) (t12_0 := t12_0) (t12_1 := t12_1) (t13_0 := t13_0) (t14_0 := t14_0) (t14_1 := t14_1) (t15_0 := t15_0) (t16_0 := t16_0) (t16_1 := t16_1) (t17_0 := t17_0) (t18_0 := t18_0) (t18_1 := t18_1) (t19_0 := t19_0) (t20_0 := t20_0) (t20_1 := t20_1) (t21_0 := t21_0) (t21_1 := t21_1) (t22_0 := t22_0) (t23_0 := t23_0) (t23_1 := t23_1) (t24_0 := t24_0) (t24_1 := t24_1) (t25_0 := t25_0) hbd3 h1z.1 ⟨_, hbd4⟩
  refine q_MxV (X_NH_shape l D g q ws x2 x3 x4 x5 x6 (68 + 5 * i3) (n_d g q hi3) (by omega) (fun h => by have z := e3 h; omega) (68 + 5 * i4) (n_d g q hi4) (by omega) (fun h => by have z := e4 h; omega) hlt hI t0_0 t0_1 hT0 t1_0 t1_1 hT1 t2_0 t2_1 hT2 t3_0 hT3 t4_0 t4_1 hT4 t5_0 hT5 t6_0 t6_1 hT6 t7_0 hT7 t8_0 t8_1 hT8 t9_0 hT9 t10_0 t10_1 hT10 t11_0 hT11 t12_0 t12_1 hT12 t13_0 hT13 t14_0 t14_1 hT14 t15_0 hT15 t16_0 t16_1 hT16 t17_0 hT17 t18_0 t18_1 hT18 t19_0 hT19 t20_0 t20_1 hT20 t21_0 t21_1 hT21 t22_0 hT22 t23_0 t23_1 hT23 t24_0 t24_1 hT24 t25_0 hT25 ⟨trivial, hq.1⟩ sz) ?_ ?_
  · rintro u ⟨hI2, hun, u0_0, u0_1, u2_0, u2_1, u3_0, u4_0, u4_1, u5_0, u6_0, u6_1, u7_0, u8_0, u8_1, u9_0, u10_0, u10_1, u11_0, u12_0, u12_1, u13_0, u14_0, u14_1, u15_0, u16_0, u16_1, u17_0, u18_0, u18_1, u19_0, u23_0, u23_1, u24_0, u24_1, u25_0, hU0, hU1, hU2, hU3, hU4, hU5, hU6, hU7, hU8, hU9, hU10, hU11, hU12, hU13, hU14, hU15, hU16, hU17, hU18, hU19, hU20, hU21, hR⟩
    have hF := hR.2.2.2.2.2.2.2.2.2.2.2.2.2.2.2.2.2.2.2.2.2.2.2.2.2.2.2.2.2.2.2.2.2.2.2.2.2.2.2.2.2.2.2.2.2.2.2.2.2.2.2.2.2.2.2.2.2.2.2.2.2.2.2.2.2.2.2.2.2.2.2.2.2.2.2.2.2.2.2.2.2.2.2.2.2.2.2.2.2.2.2.2.2.2.2.2.2.2.2.2.2.2.2.2.2.2.2.2.2
    have hp := hq.2
    rw [← hF] at hp
    refine ⟨⟨hI2, ⟨fun i hi => ?_, fun i hi => ?_, ?_⟩, fun i hi => hun i (by simp only [List.mem_cons, List.not_mem_nil, or_false, not_or]; omega)⟩, ?_⟩
    · exact iW_fr (hC.1 i hi) (hun _ (by simp only [List.mem_cons, List.not_mem_nil, or_false, not_or]; omega)) (hun _ (by simp only [List.mem_cons, List.not_mem_nil, or_false, not_or]; omega))
    · by_cases hd4 : i = i4
      · rw [hd4]; refine ⟨_, _, _, _, _, hU19, hU20, hU21, ?_⟩; first | exact hp.1
      · exact iD_fr (hC.2.1 i hi) (hun _ (by simp only [List.mem_cons, List.not_mem_nil, or_false, not_or]; omega)) (hun _ (by simp only [List.mem_cons, List.not_mem_nil, or_false, not_or]; omega)) (hun _ (by simp only [List.mem_cons, List.not_mem_nil, or_false, not_or]; omega))
    · refine ⟨_, _, _, _, _, ((hun _ (by simp only [List.mem_cons, List.not_mem_nil, or_false, not_or]; omega)).trans hT1), hU1, hU2, ?_⟩; first | exact ⟨hp.2, h1z.2⟩ | exact ⟨hp.1, h1z.2⟩
    · have hG := hR.2.2.2.2.2.2.2.2.2.2.2.2.2.2.2.2.2.2.2.2.2.2.2.2.2.2.2.2.2.2.2.2.2.2.2.2.2.2.2.2.2.2.2.2.2.2.2.2.2.2.2.2.2.2.2.2.2.2.2.2.2.2.2.2.2.2.2.2.2.2.2.2.2.2.2.2.2.2.2.2.2.2.2.2.2.2.2.2.2.2.2.2.2.2.2.2.2.2.2.2.2.2.2.2.2.2.2.2.2
      have fW : ∀ i, i < 10 → cWr g q u (66 + 5 * i) (zsW σ i) := fun i hi => cWr_fr (hS1 i hi) (hun _ (by simp only [List.mem_cons, List.not_mem_nil, or_false, not_or]; omega)) (hun _ (by simp only [List.mem_cons, List.not_mem_nil, or_false, not_or]; omega))
      have fD : ∀ i, i < 10 → ¬ i = i4 → cDr g q u (68 + 5 * i) (zsD σ i) := fun i hi hk4 => cDr_fr (hS2 i hi) (hun _ (by simp only [List.mem_cons, List.not_mem_nil, or_false, not_or]; omega)) (hun _ (by simp only [List.mem_cons, List.not_mem_nil, or_false, not_or]; omega)) (hun _ (by simp only [List.mem_cons, List.not_mem_nil, or_false, not_or]; omega))
      have fV : cFr g q u 7 (zsV σ) := (cFr_fr hS3 (hun _ (by simp only [List.mem_cons, List.not_mem_nil, or_false, not_or]; omega)))
      have fN : cFr g q u 8 (zsN σ) := (cFr_fr hS4 (hun _ (by simp only [List.mem_cons, List.not_mem_nil, or_false, not_or]; omega)))
      have fT : cTp g q u (zsL σ) (zsB σ) := (cTp_fr hS5 (hun _ (by simp only [List.mem_cons, List.not_mem_nil, or_false, not_or]; omega)) (hun _ (by simp only [List.mem_cons, List.not_mem_nil, or_false, not_or]; omega)))
      have fP : cPp g q u (zsP σ) := (cPp_fr hS6 (hun _ (by simp only [List.mem_cons, List.not_mem_nil, or_false, not_or]; omega)) (hun _ (by simp only [List.mem_cons, List.not_mem_nil, or_false, not_or]; omega)))
      have fA : cAr g q u (zsA σ) := (cAr_fr hS7 (fun i _ _ => (hun _ (by simp only [List.mem_cons, List.not_mem_nil, or_false, not_or]; omega))) (fun i _ _ => (hun _ (by simp only [List.mem_cons, List.not_mem_nil, or_false, not_or]; omega))))
      rcases y_top_shape (x2 := x2) (x3 := x3) (x4 := x4) (x5 := x5) (x6 := x6) (t0_0 := t0_0) (t0_1 := t0_1) (t1_0 := t1_0) (t1_1 := t1_1) (t2_0 := t2_0) (t2_1 := t2_1) (t3_0 := t3_0) (t4_0 := t4_0) (t4_1 := t4_1) (t5_0 := t5_0) (t6_0 := t6_0) (t6_1 := t6_1) (t7_0 := t7_0) (t8_0 := t8_0) (t8_1 := t8_1) (t9_0 := t9_0) (t10_0 := t10_0) (t10_1 := t10_1) (t11_0 := t11_0) (t12_0 := t12_0) (t12_1 := t12_1) (t13_0 := t13_0) (t14_0 := t14_0) (t14_1 := t14_1) (t15_0 := t15_0) (t16_0 := t16_0) (t16_1 := t16_1) (t17_0 := t17_0) (t18_0 := t18_0) (t18_1 := t18_1) (t19_0 := t19_0) (t20_0 := t20_0) (t20_1 := t20_1) (t21_0 := t21_0) (t21_1 := t21_1) (t22_0 := t22_0) (t23_0 := t23_0) (t23_1 := t23_1) (t24_0 := t24_0) (t24_1 := t24_1) (t25_0 := t25_0)  with ⟨l1, q1⟩ | ⟨l1, q1⟩
      · rcases y_sec_shape (x2 := x2) (x3 := x3) (x4 := x4) (x5 := x5) (x6 := x6) (t0_0 := t0_0) (t0_1 := t0_1) (t1_0 := t1_0) (t1_1 := t1_1) (t2_0 := t2_0) (t2_1 := t2_1) (t3_0 := t3_0) (t4_0 := t4_0) (t4_1 := t4_1) (t5_0 := t5_0) (t6_0 := t6_0) (t6_1 := t6_1) (t7_0 := t7_0) (t8_0 := t8_0) (t8_1 := t8_1) (t9_0 := t9_0) (t10_0 := t10_0) (t10_1 := t10_1) (t11_0 := t11_0) (t12_0 := t12_0) (t12_1 := t12_1) (t13_0 := t13_0) (t14_0 := t14_0) (t14_1 := t14_1) (t15_0 := t15_0) (t16_0 := t16_0) (t16_1 := t16_1) (t17_0 := t17_0) (t18_0 := t18_0) (t18_1 := t18_1) (t19_0 := t19_0) (t20_0 := t20_0) (t20_1 := t20_1) (t21_0 := t21_0) (t21_1 := t21_1) (t22_0 := t22_0) (t23_0 := t23_0) (t23_1 := t23_1) (t24_0 := t24_0) (t24_1 := t24_1) (t25_0 := t25_0) (lx108 := 1) rfl with ⟨l2, q2⟩ | ⟨l2, q2⟩
        · have e33 := e3 (x_reg l1.2.1)
          have e44 := e4 (x_reg l1.2.2.1)
          have hv := V_NH_shapeK (x2 := x2) (x3 := x3) (x4 := x4) (x5 := x5) (x6 := x6) (t0_0 := t0_0) (t0_1 := t0_1) (t1_0 := t1_0) (t1_1 := t1_1) (t2_0 := t2_0) (t2_1 := t2_1) (t3_0 := t3_0) (t4_0 := t4_0) (t4_1 := t4_1) (t5_0 := t5_0) (t6_0 := t6_0) (t6_1 := t6_1) (t7_0 := t7_0) (t8_0 := t8_0) (t8_1 := t8_1) (t9_0 := t9_0) (t10_0 := t10_0) (t10_1 := t10_1) (t11_0 := t11_0) (t12_0 := t12_0) (t12_1 := t12_1) (t13_0 := t13_0) (t14_0 := t14_0) (t14_1 := t14_1) (t15_0 := t15_0) (t16_0 := t16_0) (t16_1 := t16_1) (t17_0 := t17_0) (t18_0 := t18_0) (t18_1 := t18_1) (t19_0 := t19_0) (t20_0 := t20_0) (t20_1 := t20_1) (t21_0 := t21_0) (t21_1 := t21_1) (t22_0 := t22_0) (t23_0 := t23_0) (t23_1 := t23_1) (t24_0 := t24_0) (t24_1 := t24_1) (t25_0 := t25_0) (lx108 := 1) (lx152 := 1) gd3 (x_one h1z) gd4 (x_k3 l1.1) l1.2.2.2 l2 rfl
          rw [← q2, ← q1, ← hG] at hv
          obtain ⟨o, h1, hv⟩ := hv
          obtain ⟨hv, -⟩ := hv
          rcases hv with ⟨v, o1, o2, z, o3⟩ | ⟨o1, z, o3⟩
          · refine ⟨(zsW σ, updD (zsD σ) x4.toNatClampNeg v, zsV σ, zsN σ, zsL σ, zsB σ, zsP σ, zsA σ), Or.inr ⟨⟨l1.1, l1.2.1, l1.2.2.1, l1.2.2.2, l2⟩, _, by rw [← e33]; exact h1, Or.inl ⟨v, o1, o2, rfl, rfl⟩⟩, ?_⟩
            refine ⟨fW, (fun i hi => ?_), fV, fN, fT, fP, fA⟩
            · show cDr g q u (68 + 5 * i) (updD (zsD σ) x4.toNatClampNeg v i)
              unfold updD
              by_cases hk4 : i = i4
              · rw [if_pos (by omega), hk4]; exact ⟨_, _, _, _, _, hU19, hU20, hU21, o3⟩
              · rw [if_neg (by omega)]; exact fD i hi hk4
          · exact absurd (show (0 : Int32) = 2 from z) (by decide)
        · have hv := y_no_shape_J70 (x2 := x2) (x3 := x3) (x4 := x4) (x5 := x5) (x6 := x6) (t0_0 := t0_0) (t0_1 := t0_1) (t1_0 := t1_0) (t1_1 := t1_1) (t2_0 := t2_0) (t2_1 := t2_1) (t3_0 := t3_0) (t4_0 := t4_0) (t4_1 := t4_1) (t5_0 := t5_0) (t6_0 := t6_0) (t6_1 := t6_1) (t7_0 := t7_0) (t8_0 := t8_0) (t8_1 := t8_1) (t9_0 := t9_0) (t10_0 := t10_0) (t10_1 := t10_1) (t11_0 := t11_0) (t12_0 := t12_0) (t12_1 := t12_1) (t13_0 := t13_0) (t14_0 := t14_0) (t14_1 := t14_1) (t15_0 := t15_0) (t16_0 := t16_0) (t16_1 := t16_1) (t17_0 := t17_0) (t18_0 := t18_0) (t18_1 := t18_1) (t19_0 := t19_0) (t20_0 := t20_0) (t20_1 := t20_1) (t21_0 := t21_0) (t21_1 := t21_1) (t22_0 := t22_0) (t23_0 := t23_0) (t23_1 := t23_1) (t24_0 := t24_0) (t24_1 := t24_1) (t25_0 := t25_0) (lx108 := 1) (lx152 := 0) rfl
          rw [← q2, ← q1, ← hG] at hv
          obtain ⟨z, -⟩ := hv
          exact absurd (show (0 : Int32) = 1 from z) (by decide)
      · have hv := y_no_shape_J36 (x2 := x2) (x3 := x3) (x4 := x4) (x5 := x5) (x6 := x6) (t0_0 := t0_0) (t0_1 := t0_1) (t1_0 := t1_0) (t1_1 := t1_1) (t2_0 := t2_0) (t2_1 := t2_1) (t3_0 := t3_0) (t4_0 := t4_0) (t4_1 := t4_1) (t5_0 := t5_0) (t6_0 := t6_0) (t6_1 := t6_1) (t7_0 := t7_0) (t8_0 := t8_0) (t8_1 := t8_1) (t9_0 := t9_0) (t10_0 := t10_0) (t10_1 := t10_1) (t11_0 := t11_0) (t12_0 := t12_0) (t12_1 := t12_1) (t13_0 := t13_0) (t14_0 := t14_0) (t14_1 := t14_1) (t15_0 := t15_0) (t16_0 := t16_0) (t16_1 := t16_1) (t17_0 := t17_0) (t18_0 := t18_0) (t18_1 := t18_1) (t19_0 := t19_0) (t20_0 := t20_0) (t20_1 := t20_1) (t21_0 := t21_0) (t21_1 := t21_1) (t22_0 := t22_0) (t23_0 := t23_0) (t23_1 := t23_1) (t24_0 := t24_0) (t24_1 := t24_1) (t25_0 := t25_0) (lx108 := 0) rfl
        rw [← q1, ← hG] at hv
        obtain ⟨z, -⟩ := hv
        exact absurd (show (0 : Int32) = 1 from z) (by decide)
  · rintro E u ⟨c, hE, hc, hI2, hun, u0_0, u0_1, u2_0, u2_1, u3_0, u4_0, u4_1, u5_0, u6_0, u6_1, u7_0, u8_0, u8_1, u9_0, u10_0, u10_1, u11_0, u12_0, u12_1, u13_0, u14_0, u14_1, u15_0, u16_0, u16_1, u17_0, u18_0, u18_1, u19_0, u23_0, u23_1, u24_0, u24_1, u25_0, hU0, hU1, hU2, hU3, hU4, hU5, hU6, hU7, hU8, hU9, hU10, hU11, hU12, hU13, hU14, hU15, hU16, hU17, hU18, hU19, hU20, hU21, hF⟩
    have hp := hq.2
    rw [← hF] at hp
    have hk := K_NH_shape (x2 := x2) (x3 := x3) (x4 := x4) (x5 := x5) (x6 := x6) (t0_0 := t0_0) (t0_1 := t0_1) (t1_0 := t1_0) (t1_1 := t1_1) (t2_0 := t2_0) (t2_1 := t2_1) (t3_0 := t3_0) (t4_0 := t4_0) (t4_1 := t4_1) (t5_0 := t5_0) (t6_0 := t6_0) (t6_1 := t6_1) (t7_0 := t7_0) (t8_0 := t8_0) (t8_1 := t8_1) (t9_0 := t9_0) (t10_0 := t10_0) (t10_1 := t10_1) (t11_0 := t11_0) (t12_0 := t12_0) (t12_1 := t12_1) (t13_0 := t13_0) (t14_0 := t14_0) (t14_1 := t14_1) (t15_0 := t15_0) (t16_0 := t16_0) (t16_1 := t16_1) (t17_0 := t17_0) (t18_0 := t18_0) (t18_1 := t18_1) (t19_0 := t19_0) (t20_0 := t20_0) (t20_1 := t20_1) (t21_0 := t21_0) (t21_1 := t21_1) (t22_0 := t22_0) (t23_0 := t23_0) (t23_1 := t23_1) (t24_0 := t24_0) (t24_1 := t24_1) (t25_0 := t25_0)
    rw [← hF] at hk
    replace hk : kC12 c := hk
    refine ⟨c, hE, hk.resolve_left hc, ⟨hI2, ⟨fun i hi => ?_, fun i hi => ?_, ?_⟩, fun i hi => hun i (by simp only [List.mem_cons, List.not_mem_nil, or_false, not_or]; omega)⟩, ?_⟩
    · exact iW_fr (hC.1 i hi) (hun _ (by simp only [List.mem_cons, List.not_mem_nil, or_false, not_or]; omega)) (hun _ (by simp only [List.mem_cons, List.not_mem_nil, or_false, not_or]; omega))
    · by_cases hd4 : i = i4
      · rw [hd4]; refine ⟨_, _, _, _, _, hU19, hU20, hU21, ?_⟩; first | exact hp.1
      · exact iD_fr (hC.2.1 i hi) (hun _ (by simp only [List.mem_cons, List.not_mem_nil, or_false, not_or]; omega)) (hun _ (by simp only [List.mem_cons, List.not_mem_nil, or_false, not_or]; omega)) (hun _ (by simp only [List.mem_cons, List.not_mem_nil, or_false, not_or]; omega))
    · refine ⟨_, _, _, _, _, ((hun _ (by simp only [List.mem_cons, List.not_mem_nil, or_false, not_or]; omega)).trans hT1), hU1, hU2, ?_⟩; first | exact ⟨hp.2, h1z.2⟩ | exact ⟨hp.1, h1z.2⟩
    · have hG := hF
      have fW : ∀ i, i < 10 → cWr g q u (66 + 5 * i) (zsW σ i) := fun i hi => cWr_fr (hS1 i hi) (hun _ (by simp only [List.mem_cons, List.not_mem_nil, or_false, not_or]; omega)) (hun _ (by simp only [List.mem_cons, List.not_mem_nil, or_false, not_or]; omega))
      have fD : ∀ i, i < 10 → ¬ i = i4 → cDr g q u (68 + 5 * i) (zsD σ i) := fun i hi hk4 => cDr_fr (hS2 i hi) (hun _ (by simp only [List.mem_cons, List.not_mem_nil, or_false, not_or]; omega)) (hun _ (by simp only [List.mem_cons, List.not_mem_nil, or_false, not_or]; omega)) (hun _ (by simp only [List.mem_cons, List.not_mem_nil, or_false, not_or]; omega))
      have fV : cFr g q u 7 (zsV σ) := (cFr_fr hS3 (hun _ (by simp only [List.mem_cons, List.not_mem_nil, or_false, not_or]; omega)))
      have fN : cFr g q u 8 (zsN σ) := (cFr_fr hS4 (hun _ (by simp only [List.mem_cons, List.not_mem_nil, or_false, not_or]; omega)))
      have fT : cTp g q u (zsL σ) (zsB σ) := (cTp_fr hS5 (hun _ (by simp only [List.mem_cons, List.not_mem_nil, or_false, not_or]; omega)) (hun _ (by simp only [List.mem_cons, List.not_mem_nil, or_false, not_or]; omega)))
      have fP : cPp g q u (zsP σ) := (cPp_fr hS6 (hun _ (by simp only [List.mem_cons, List.not_mem_nil, or_false, not_or]; omega)) (hun _ (by simp only [List.mem_cons, List.not_mem_nil, or_false, not_or]; omega)))
      have fA : cAr g q u (zsA σ) := (cAr_fr hS7 (fun i _ _ => (hun _ (by simp only [List.mem_cons, List.not_mem_nil, or_false, not_or]; omega))) (fun i _ _ => (hun _ (by simp only [List.mem_cons, List.not_mem_nil, or_false, not_or]; omega))))
      rcases y_top_shape (x2 := x2) (x3 := x3) (x4 := x4) (x5 := x5) (x6 := x6) (t0_0 := t0_0) (t0_1 := t0_1) (t1_0 := t1_0) (t1_1 := t1_1) (t2_0 := t2_0) (t2_1 := t2_1) (t3_0 := t3_0) (t4_0 := t4_0) (t4_1 := t4_1) (t5_0 := t5_0) (t6_0 := t6_0) (t6_1 := t6_1) (t7_0 := t7_0) (t8_0 := t8_0) (t8_1 := t8_1) (t9_0 := t9_0) (t10_0 := t10_0) (t10_1 := t10_1) (t11_0 := t11_0) (t12_0 := t12_0) (t12_1 := t12_1) (t13_0 := t13_0) (t14_0 := t14_0) (t14_1 := t14_1) (t15_0 := t15_0) (t16_0 := t16_0) (t16_1 := t16_1) (t17_0 := t17_0) (t18_0 := t18_0) (t18_1 := t18_1) (t19_0 := t19_0) (t20_0 := t20_0) (t20_1 := t20_1) (t21_0 := t21_0) (t21_1 := t21_1) (t22_0 := t22_0) (t23_0 := t23_0) (t23_1 := t23_1) (t24_0 := t24_0) (t24_1 := t24_1) (t25_0 := t25_0)  with ⟨l1, q1⟩ | ⟨l1, q1⟩
      · rcases y_sec_shape (x2 := x2) (x3 := x3) (x4 := x4) (x5 := x5) (x6 := x6) (t0_0 := t0_0) (t0_1 := t0_1) (t1_0 := t1_0) (t1_1 := t1_1) (t2_0 := t2_0) (t2_1 := t2_1) (t3_0 := t3_0) (t4_0 := t4_0) (t4_1 := t4_1) (t5_0 := t5_0) (t6_0 := t6_0) (t6_1 := t6_1) (t7_0 := t7_0) (t8_0 := t8_0) (t8_1 := t8_1) (t9_0 := t9_0) (t10_0 := t10_0) (t10_1 := t10_1) (t11_0 := t11_0) (t12_0 := t12_0) (t12_1 := t12_1) (t13_0 := t13_0) (t14_0 := t14_0) (t14_1 := t14_1) (t15_0 := t15_0) (t16_0 := t16_0) (t16_1 := t16_1) (t17_0 := t17_0) (t18_0 := t18_0) (t18_1 := t18_1) (t19_0 := t19_0) (t20_0 := t20_0) (t20_1 := t20_1) (t21_0 := t21_0) (t21_1 := t21_1) (t22_0 := t22_0) (t23_0 := t23_0) (t23_1 := t23_1) (t24_0 := t24_0) (t24_1 := t24_1) (t25_0 := t25_0) (lx108 := 1) rfl with ⟨l2, q2⟩ | ⟨l2, q2⟩
        · have e33 := e3 (x_reg l1.2.1)
          have e44 := e4 (x_reg l1.2.2.1)
          have hv := V_NH_shapeK (x2 := x2) (x3 := x3) (x4 := x4) (x5 := x5) (x6 := x6) (t0_0 := t0_0) (t0_1 := t0_1) (t1_0 := t1_0) (t1_1 := t1_1) (t2_0 := t2_0) (t2_1 := t2_1) (t3_0 := t3_0) (t4_0 := t4_0) (t4_1 := t4_1) (t5_0 := t5_0) (t6_0 := t6_0) (t6_1 := t6_1) (t7_0 := t7_0) (t8_0 := t8_0) (t8_1 := t8_1) (t9_0 := t9_0) (t10_0 := t10_0) (t10_1 := t10_1) (t11_0 := t11_0) (t12_0 := t12_0) (t12_1 := t12_1) (t13_0 := t13_0) (t14_0 := t14_0) (t14_1 := t14_1) (t15_0 := t15_0) (t16_0 := t16_0) (t16_1 := t16_1) (t17_0 := t17_0) (t18_0 := t18_0) (t18_1 := t18_1) (t19_0 := t19_0) (t20_0 := t20_0) (t20_1 := t20_1) (t21_0 := t21_0) (t21_1 := t21_1) (t22_0 := t22_0) (t23_0 := t23_0) (t23_1 := t23_1) (t24_0 := t24_0) (t24_1 := t24_1) (t25_0 := t25_0) (lx108 := 1) (lx152 := 1) gd3 (x_one h1z) gd4 (x_k3 l1.1) l1.2.2.2 l2 rfl
          rw [← q2, ← q1, ← hG] at hv
          obtain ⟨o, h1, hv⟩ := hv
          obtain ⟨hv, -⟩ := hv
          rcases hv with ⟨v, o1, o2, z, o3⟩ | ⟨o1, z, o3⟩
          · exact absurd z hc
          · refine ⟨Or.inr ⟨⟨l1.1, l1.2.1, l1.2.2.1, l1.2.2.2, l2⟩, _, by rw [← e33]; exact h1, Or.inr ⟨o1, z, rfl⟩⟩, ?_⟩
            refine ⟨fW, (fun i hi => ?_), fV, fN, fT, fP, fA⟩
            · by_cases hk4 : i = i4
              · rw [hk4]; exact ⟨_, _, _, _, _, hU19, hU20, hU21, o3⟩
              · exact fD i hi hk4
        · have hv := y_no_shape_J70 (x2 := x2) (x3 := x3) (x4 := x4) (x5 := x5) (x6 := x6) (t0_0 := t0_0) (t0_1 := t0_1) (t1_0 := t1_0) (t1_1 := t1_1) (t2_0 := t2_0) (t2_1 := t2_1) (t3_0 := t3_0) (t4_0 := t4_0) (t4_1 := t4_1) (t5_0 := t5_0) (t6_0 := t6_0) (t6_1 := t6_1) (t7_0 := t7_0) (t8_0 := t8_0) (t8_1 := t8_1) (t9_0 := t9_0) (t10_0 := t10_0) (t10_1 := t10_1) (t11_0 := t11_0) (t12_0 := t12_0) (t12_1 := t12_1) (t13_0 := t13_0) (t14_0 := t14_0) (t14_1 := t14_1) (t15_0 := t15_0) (t16_0 := t16_0) (t16_1 := t16_1) (t17_0 := t17_0) (t18_0 := t18_0) (t18_1 := t18_1) (t19_0 := t19_0) (t20_0 := t20_0) (t20_1 := t20_1) (t21_0 := t21_0) (t21_1 := t21_1) (t22_0 := t22_0) (t23_0 := t23_0) (t23_1 := t23_1) (t24_0 := t24_0) (t24_1 := t24_1) (t25_0 := t25_0) (lx108 := 1) (lx152 := 0) rfl
          rw [← q2, ← q1, ← hG] at hv
          obtain ⟨z, _, _, _, eT0, eT1, eT2, eT3, eT4⟩ := hv
          replace eT0 : u23_0 = t23_0 := eT0
          replace eT1 : u23_1 = t23_1 := eT1
          replace eT2 : u24_0 = t24_0 := eT2
          replace eT3 : u24_1 = t24_1 := eT3
          replace eT4 : u25_0 = t25_0 := eT4
          refine ⟨Or.inl ⟨fun w => l2 w.2.2.2.2, z, rfl⟩, ?_⟩
          refine ⟨fW, (fun i hi => ?_), fV, fN, fT, fP, fA⟩
          · by_cases hk4 : i = i4
            · rw [hk4]; exact ⟨_, _, _, _, _, hU19, hU20, hU21, (by rw [eT0, eT1, eT2, eT3, eT4]; exact gd4)⟩
            · exact fD i hi hk4
      · have hv := y_no_shape_J36 (x2 := x2) (x3 := x3) (x4 := x4) (x5 := x5) (x6 := x6) (t0_0 := t0_0) (t0_1 := t0_1) (t1_0 := t1_0) (t1_1 := t1_1) (t2_0 := t2_0) (t2_1 := t2_1) (t3_0 := t3_0) (t4_0 := t4_0) (t4_1 := t4_1) (t5_0 := t5_0) (t6_0 := t6_0) (t6_1 := t6_1) (t7_0 := t7_0) (t8_0 := t8_0) (t8_1 := t8_1) (t9_0 := t9_0) (t10_0 := t10_0) (t10_1 := t10_1) (t11_0 := t11_0) (t12_0 := t12_0) (t12_1 := t12_1) (t13_0 := t13_0) (t14_0 := t14_0) (t14_1 := t14_1) (t15_0 := t15_0) (t16_0 := t16_0) (t16_1 := t16_1) (t17_0 := t17_0) (t18_0 := t18_0) (t18_1 := t18_1) (t19_0 := t19_0) (t20_0 := t20_0) (t20_1 := t20_1) (t21_0 := t21_0) (t21_1 := t21_1) (t22_0 := t22_0) (t23_0 := t23_0) (t23_1 := t23_1) (t24_0 := t24_0) (t24_1 := t24_1) (t25_0 := t25_0) (lx108 := 0) rfl
        rw [← q1, ← hG] at hv
        obtain ⟨z, _, _, _, eT0, eT1, eT2, eT3, eT4⟩ := hv
        replace eT0 : u23_0 = t23_0 := eT0
        replace eT1 : u23_1 = t23_1 := eT1
        replace eT2 : u24_0 = t24_0 := eT2
        replace eT3 : u24_1 = t24_1 := eT3
        replace eT4 : u25_0 = t25_0 := eT4
        refine ⟨Or.inl ⟨fun w => l1 ⟨w.1, w.2.1, w.2.2.1, w.2.2.2.1⟩, z, rfl⟩, ?_⟩
        refine ⟨fW, (fun i hi => ?_), fV, fN, fT, fP, fA⟩
        · by_cases hk4 : i = i4
          · rw [hk4]; exact ⟨_, _, _, _, _, hU19, hU20, hU21, (by rw [eT0, eT1, eT2, eT3, eT4]; exact gd4)⟩
          · exact fD i hi hk4
theorem DW_shape (l : Launch) (D : va_G) (g : Nat → ClassId) (q : Nat → Nat) (ws : va_W) (x2 : Int32) (x3 : Int32) (x4 : Int32) (x5 : Int32) (x6 : Int32) (hlt : l.stackTraces = false) (hI : q_I (nsh g q) q ws) (hC : iC g q ws) {σ : zSt} (hS : sC g q ws σ) (hk0 : zOk σ) : ∀ sz, q_Mx l y_NH_shape prog_1_method_15_code 7 none 9 5 30 D g [.ref (q 0), .int x2, .int x3, .int x4, .int x5, .int x6] ws sz (va_Qv (fun u => iP g q ws u ∧ ∃ σ2, rSh x2 x3 x4 x5 x6 σ 0 σ2 ∧ sC g q u σ2) (q_B D g (va_A ws sz)) (va_A ws sz)) (fun E u => ∃ c : Int32, E = qE c ∧ (c = 1 ∨ c = 2) ∧ iP g q ws u ∧ rSh x2 x3 x4 x5 x6 σ c σ ∧ sC g q u σ) := by
  obtain ⟨i3, hi3, e3⟩ := iX x3
  obtain ⟨i4, hi4, e4⟩ := iX x4
  exact CW_shape l D g q ws x2 x3 x4 x5 x6 i3 hi3 i4 hi4 e3 e4 hlt hI hC hS hk0
set_option maxRecDepth 100000 in
set_option maxHeartbeats 4000000 in
theorem DM_shape (l : Launch) (D : va_G) (g : Nat → ClassId) (q : Nat → Nat) (ws : va_W) (x2 : Int32) (x3 : Int32) (x4 : Int32) (x5 : Int32) (x6 : Int32) (hI : q_I (msh g q) q ws) (hM : iM g q ws) {th : Int32} {σ : zSt} (hS : sM g q ws th σ) (hk0 : zOk σ) : q_mV l y_NM_shape prog_14_method_27_code 6 6 0 0 D g [.ref (q 116), .int x2, .int x3, .int x4, .int x5, .int x6] ws (fun u => jP g q ws u ∧ ∃ c σ2, rSh x2 x3 x4 x5 x6 σ c σ2 ∧ sM g q u c σ2) := by
  have hM0 := hM
  obtain ⟨t2_0, t3_0, t4_0, t5_0, hT2, hT3, hT4, hT5, hD⟩ := hM.2.1
  obtain ⟨t0_0, t0_1, t0_2, hT0, bT0⟩ := n_o116 hI
  obtain ⟨t1_0, t1_1, t1_2, t1_3, t1_4, t1_5, t1_6, t1_7, t1_8, t1_9, t1_10, hT1, bT1⟩ := n_o134 hI
  obtain ⟨t6_0, hT6, -⟩ := n_ai hI (n_s140 g q)
  obtain ⟨t7_0, hT7, -⟩ := n_ai hI (n_s141 g q)
  obtain ⟨t8_0, hT8, -⟩ := n_ai hI (n_s142 g q)
  obtain ⟨t9_0, hT9, -⟩ := n_ai hI (n_s143 g q)
  obtain ⟨hS1, hS2, hS3, hS4, hS5⟩ := hS
  obtain ⟨s9, p9, r9, r8, y0, y1, y2, jL9, jT9, jP9⟩ := hS4
  obtain ⟨-, rfl, rfl⟩ := x_116 hT0 y0
  obtain ⟨g0, g1, g2, g3, yc, yd, ye, yg, hd9⟩ := hS2
  obtain rfl := x_ri hT2 yc
  obtain rfl := x_ri hT3 yd
  obtain rfl := x_ri hT4 ye
  obtain rfl := x_ri hT5 yg
  have hS2 : mDr g q ws (zsD σ) := ⟨_, _, _, _, yc, yd, ye, yg, hd9⟩
  have hq := T_NM_shape (x2 := x2) (x3 := x3) (x4 := x4) (x5 := x5) (x6 := x6) (t0_0 := t0_0) (t0_1 := t0_1) (t0_2 := t0_2) (t1_0 := t1_0) (t1_1 := t1_1) (t1_2 := t1_2) (t1_3 := t1_3) (t1_4 := t1_4) (t1_5 := t1_5) (t1_6 := t1_6) (t1_7 := t1_7) (t1_8 := t1_8) (t1_9 := t1_9) (t1_10 := t1_10) (t2_0 := t2_0) (t3_0 := t3_0) (t4_0 := t4_0) (t5_0 := t5_0) (t6_0 := t6_0) (t7_0 := t7_0) (t8_0 := t8_0) (t9_0 := t9_0) hD (by first | exact bT1 | exact bT1.1 | exact bT1.2 | exact bT1.2.1 | exact bT1.2.2 | exact bT1.2.2.1 | exact bT1.2.2.2)
  refine q_mVw (X_NM_shape l D g q ws x2 x3 x4 x5 x6 hI t0_0 t0_1 t0_2 hT0 t1_0 t1_1 t1_2 t1_3 t1_4 t1_5 t1_6 t1_7 t1_8 t1_9 t1_10 hT1 t2_0 hT2 t3_0 hT3 t4_0 hT4 t5_0 hT5 t6_0 hT6 t7_0 hT7 t8_0 hT8 t9_0 hT9 ⟨trivial, hq.1⟩) ?_
  rintro u ⟨hI2, hun, u0_0, u1_0, u1_1, u1_2, u1_3, u1_4, u1_5, u1_6, u1_7, u1_8, u1_9, u1_10, u2_0, u3_0, u4_0, u5_0, u6_0, u7_0, u8_0, u9_0, hU0, hU1, hU2, hU3, hU4, hU5, hU6, hU7, hU8, hU9, hR⟩
  have hp := hq.2
  rw [← hR.2.2.2.2.2.2.2.2] at hp
  refine ⟨⟨hI2, ⟨jW_fr hM0.1 (hun 121 (by decide)) (hun 122 (by decide)), ⟨_, _, _, _, hU2, hU3, hU4, hU5, hp⟩, jZ_fr hM0.2.2.1 (hun 160 (by decide)), jB_fr hM0.2.2.2 (hun 167 (by decide))⟩, jF_un hun (by decide)⟩, ?_⟩
  have hG := hR.2.2.2.2.2.2.2.2
  rcases y_mtop_shape (x2 := x2) (x3 := x3) (x4 := x4) (x5 := x5) (x6 := x6) (t0_0 := t0_0) (t0_1 := t0_1) (t0_2 := t0_2) (t1_0 := t1_0) (t1_1 := t1_1) (t1_2 := t1_2) (t1_3 := t1_3) (t1_4 := t1_4) (t1_5 := t1_5) (t1_6 := t1_6) (t1_7 := t1_7) (t1_8 := t1_8) (t1_9 := t1_9) (t1_10 := t1_10) (t2_0 := t2_0) (t3_0 := t3_0) (t4_0 := t4_0) (t5_0 := t5_0) (t6_0 := t6_0) (t7_0 := t7_0) (t8_0 := t8_0) (t9_0 := t9_0)  with ⟨k1, q1⟩ | ⟨k1, hv⟩
  · by_cases ok : ((0 ≤ x2.toInt ∧ x2.toInt ≤ 2) ∧ yReg x3 ∧ yReg x4 ∧ yMod x6 ∧ ((x2 = 0 → yScl x5) ∧ (x2 ≠ 0 → 1 ≤ x5.toInt ∧ x5.toInt ≤ 1000)))
    · have hv := V_NM_shapeK (x2 := x2) (x3 := x3) (x4 := x4) (x5 := x5) (x6 := x6) (t0_0 := t0_0) (t0_1 := t0_1) (t0_2 := t0_2) (t1_0 := t1_0) (t1_1 := t1_1) (t1_2 := t1_2) (t1_3 := t1_3) (t1_4 := t1_4) (t1_5 := t1_5) (t1_6 := t1_6) (t1_7 := t1_7) (t1_8 := t1_8) (t1_9 := t1_9) (t1_10 := t1_10) (t2_0 := t2_0) (t3_0 := t3_0) (t4_0 := t4_0) (t5_0 := t5_0) (t6_0 := t6_0) (t7_0 := t7_0) (t8_0 := t8_0) (t9_0 := t9_0) (lx47 := 0) hd9 k1 ok.2.1 ok.2.2.1 ok.2.2.2.1 ok.2.2.2.2 rfl
      rw [← q1, ← hG] at hv
      obtain ⟨o, h1, hv⟩ := hv
      rcases hv with ⟨v, o1, o2, z, o3⟩ | ⟨o1, z, o3⟩
      · replace z : u0_0 = 0 := z
        exact ⟨0, (zsW σ, updD (zsD σ) x4.toNatClampNeg v, zsV σ, zsN σ, zsL σ, zsB σ, zsP σ, zsA σ), Or.inr ⟨ok, _, h1, Or.inl ⟨v, o1, o2, rfl, rfl⟩⟩, ⟨(mWr_fr hS1 (hun 121 (by decide)) (hun 122 (by decide))), ⟨_, _, _, _, hU2, hU3, hU4, hU5, o3⟩, (mFr_fr hS3 (hun 167 (by decide))), ⟨_, _, _, _, by rw [← z]; exact hU0, (hun 117 (by decide)).trans y1, (hun 118 (by decide)).trans y2, jL9, jT9, jP9⟩, (mAr_fr hS5 (hun 157 (by decide)) (hun 159 (by decide)) (hun 160 (by decide)) (hun 161 (by decide)) (hun 162 (by decide)))⟩⟩
      · replace z : u0_0 = 2 := z
        exact ⟨2, σ, Or.inr ⟨ok, _, h1, Or.inr ⟨o1, rfl, rfl⟩⟩, ⟨(mWr_fr hS1 (hun 121 (by decide)) (hun 122 (by decide))), ⟨_, _, _, _, hU2, hU3, hU4, hU5, o3⟩, (mFr_fr hS3 (hun 167 (by decide))), ⟨_, _, _, _, by rw [← z]; exact hU0, (hun 117 (by decide)).trans y1, (hun 118 (by decide)).trans y2, jL9, jT9, jP9⟩, (mAr_fr hS5 (hun 157 (by decide)) (hun 159 (by decide)) (hun 160 (by decide)) (hun 161 (by decide)) (hun 162 (by decide)))⟩⟩
    · rcases k1 with k | k | k
      · have hv := y_mdno_toScale (x2 := x2) (x3 := x3) (x4 := x4) (x5 := x5) (x6 := x6) (t0_0 := t0_0) (t0_1 := t0_1) (t0_2 := t0_2) (t1_0 := t1_0) (t1_1 := t1_1) (t1_2 := t1_2) (t1_3 := t1_3) (t1_4 := t1_4) (t1_5 := t1_5) (t1_6 := t1_6) (t1_7 := t1_7) (t1_8 := t1_8) (t1_9 := t1_9) (t1_10 := t1_10) (t2_0 := t2_0) (t3_0 := t3_0) (t4_0 := t4_0) (t5_0 := t5_0) (t6_0 := t6_0) (t7_0 := t7_0) (t8_0 := t8_0) (t9_0 := t9_0) (lx47 := 0) k rfl (fun w => ok ⟨by rw [k]; decide, w.1, w.2.1, w.2.2.1, fun _ => w.2.2.2, fun y => absurd k y⟩)
        rw [← q1, ← hG] at hv
        obtain ⟨z, eD0, eD1, eD2, eD3⟩ := hv
        replace z : u0_0 = 1 := z
        replace eD0 : u2_0 = t2_0 := eD0
        replace eD1 : u3_0 = t3_0 := eD1
        replace eD2 : u4_0 = t4_0 := eD2
        replace eD3 : u5_0 = t5_0 := eD3
        exact ⟨1, σ, Or.inl ⟨ok, rfl, rfl⟩, ⟨(mWr_fr hS1 (hun 121 (by decide)) (hun 122 (by decide))), ⟨_, _, _, _, hU2, hU3, hU4, hU5, (by rw [eD0, eD1, eD2, eD3]; exact hd9)⟩, (mFr_fr hS3 (hun 167 (by decide))), ⟨_, _, _, _, by rw [← z]; exact hU0, (hun 117 (by decide)).trans y1, (hun 118 (by decide)).trans y2, jL9, jT9, jP9⟩, (mAr_fr hS5 (hun 157 (by decide)) (hun 159 (by decide)) (hun 160 (by decide)) (hun 161 (by decide)) (hun 162 (by decide)))⟩⟩
      · have hv := y_mdno_round (x2 := x2) (x3 := x3) (x4 := x4) (x5 := x5) (x6 := x6) (t0_0 := t0_0) (t0_1 := t0_1) (t0_2 := t0_2) (t1_0 := t1_0) (t1_1 := t1_1) (t1_2 := t1_2) (t1_3 := t1_3) (t1_4 := t1_4) (t1_5 := t1_5) (t1_6 := t1_6) (t1_7 := t1_7) (t1_8 := t1_8) (t1_9 := t1_9) (t1_10 := t1_10) (t2_0 := t2_0) (t3_0 := t3_0) (t4_0 := t4_0) (t5_0 := t5_0) (t6_0 := t6_0) (t7_0 := t7_0) (t8_0 := t8_0) (t9_0 := t9_0) (lx47 := 0) k rfl (fun w => ok ⟨by rw [k]; decide, w.1, w.2.1, w.2.2.1, fun y => absurd (y.symm.trans k) (by decide), fun _ => w.2.2.2⟩)
        rw [← q1, ← hG] at hv
        obtain ⟨z, eD0, eD1, eD2, eD3⟩ := hv
        replace z : u0_0 = 1 := z
        replace eD0 : u2_0 = t2_0 := eD0
        replace eD1 : u3_0 = t3_0 := eD1
        replace eD2 : u4_0 = t4_0 := eD2
        replace eD3 : u5_0 = t5_0 := eD3
        exact ⟨1, σ, Or.inl ⟨ok, rfl, rfl⟩, ⟨(mWr_fr hS1 (hun 121 (by decide)) (hun 122 (by decide))), ⟨_, _, _, _, hU2, hU3, hU4, hU5, (by rw [eD0, eD1, eD2, eD3]; exact hd9)⟩, (mFr_fr hS3 (hun 167 (by decide))), ⟨_, _, _, _, by rw [← z]; exact hU0, (hun 117 (by decide)).trans y1, (hun 118 (by decide)).trans y2, jL9, jT9, jP9⟩, (mAr_fr hS5 (hun 157 (by decide)) (hun 159 (by decide)) (hun 160 (by decide)) (hun 161 (by decide)) (hun 162 (by decide)))⟩⟩
      · have hv := y_mdno_root (x2 := x2) (x3 := x3) (x4 := x4) (x5 := x5) (x6 := x6) (t0_0 := t0_0) (t0_1 := t0_1) (t0_2 := t0_2) (t1_0 := t1_0) (t1_1 := t1_1) (t1_2 := t1_2) (t1_3 := t1_3) (t1_4 := t1_4) (t1_5 := t1_5) (t1_6 := t1_6) (t1_7 := t1_7) (t1_8 := t1_8) (t1_9 := t1_9) (t1_10 := t1_10) (t2_0 := t2_0) (t3_0 := t3_0) (t4_0 := t4_0) (t5_0 := t5_0) (t6_0 := t6_0) (t7_0 := t7_0) (t8_0 := t8_0) (t9_0 := t9_0) (lx47 := 0) k rfl (fun w => ok ⟨by rw [k]; decide, w.1, w.2.1, w.2.2.1, fun y => absurd (y.symm.trans k) (by decide), fun _ => w.2.2.2⟩)
        rw [← q1, ← hG] at hv
        obtain ⟨z, eD0, eD1, eD2, eD3⟩ := hv
        replace z : u0_0 = 1 := z
        replace eD0 : u2_0 = t2_0 := eD0
        replace eD1 : u3_0 = t3_0 := eD1
        replace eD2 : u4_0 = t4_0 := eD2
        replace eD3 : u5_0 = t5_0 := eD3
        exact ⟨1, σ, Or.inl ⟨ok, rfl, rfl⟩, ⟨(mWr_fr hS1 (hun 121 (by decide)) (hun 122 (by decide))), ⟨_, _, _, _, hU2, hU3, hU4, hU5, (by rw [eD0, eD1, eD2, eD3]; exact hd9)⟩, (mFr_fr hS3 (hun 167 (by decide))), ⟨_, _, _, _, by rw [← z]; exact hU0, (hun 117 (by decide)).trans y1, (hun 118 (by decide)).trans y2, jL9, jT9, jP9⟩, (mAr_fr hS5 (hun 157 (by decide)) (hun 159 (by decide)) (hun 160 (by decide)) (hun 161 (by decide)) (hun 162 (by decide)))⟩⟩
  · have ok : ¬ ((0 ≤ x2.toInt ∧ x2.toInt ≤ 2) ∧ yReg x3 ∧ yReg x4 ∧ yMod x6 ∧ ((x2 = 0 → yScl x5) ∧ (x2 ≠ 0 → 1 ≤ x5.toInt ∧ x5.toInt ≤ 1000))) := fun w => k1 (x_k3 w.1)
    rw [← hG] at hv
    obtain ⟨z, eD0, eD1, eD2, eD3⟩ := hv
    replace z : u0_0 = 1 := z
    replace eD0 : u2_0 = t2_0 := eD0
    replace eD1 : u3_0 = t3_0 := eD1
    replace eD2 : u4_0 = t4_0 := eD2
    replace eD3 : u5_0 = t5_0 := eD3
    exact ⟨1, σ, Or.inl ⟨ok, rfl, rfl⟩, ⟨(mWr_fr hS1 (hun 121 (by decide)) (hun 122 (by decide))), ⟨_, _, _, _, hU2, hU3, hU4, hU5, (by rw [eD0, eD1, eD2, eD3]; exact hd9)⟩, (mFr_fr hS3 (hun 167 (by decide))), ⟨_, _, _, _, by rw [← z]; exact hU0, (hun 117 (by decide)).trans y1, (hun 118 (by decide)).trans y2, jL9, jT9, jP9⟩, (mAr_fr hS5 (hun 157 (by decide)) (hun 159 (by decide)) (hun 160 (by decide)) (hun 161 (by decide)) (hun 162 (by decide)))⟩⟩
