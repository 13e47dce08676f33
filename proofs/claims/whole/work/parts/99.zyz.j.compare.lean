/-! whole's law: compare -/
def rCm (x2 x3 x4 : Int32) (σ : zSt) (c a : Int32) : Prop := (¬ yCmOk x2 x3 x4 ∧ c = 1) ∨ (yCmOk x2 x3 x4 ∧ yCmp x2 (zsW σ x3.toNatClampNeg) (zsW σ x4.toNatClampNeg) (zsD σ x3.toNatClampNeg) (zsD σ x4.toNatClampNeg) (zsV σ x3.toNatClampNeg) (zsV σ x4.toNatClampNeg) (zsN σ x3.toNatClampNeg) (zsN σ x4.toNatClampNeg) c a)
set_option maxRecDepth 100000 in
set_option maxHeartbeats 4000000 in
theorem CW_compare (l : Launch) (D : va_G) (g : Nat → ClassId) (q : Nat → Nat) (ws : va_W) (x2 : Int32) (x3 : Int32) (x4 : Int32) (i3 : Nat) (hi3 : i3 < 10) (i4 : Nat) (hi4 : i4 < 10) (e3 : x3.toNatClampNeg < 10 → i3 = x3.toNatClampNeg) (e4 : x4.toNatClampNeg < 10 → i4 = x4.toNatClampNeg) (hlt : l.stackTraces = false) (hI : q_I (nsh g q) q ws) (hC : iC g q ws) {σ : zSt} (hS : sC g q ws σ) (hk0 : zOk σ) : ∀ sz, q_Mx l y_NH_compare prog_1_method_7_code 9 (some .int) 9 3 18 D g [.ref (q 0), .int x2, .int x3, .int x4] ws sz (va_Qi (fun r u => iP g q ws u ∧ rCm x2 x3 x4 σ 0 r ∧ sC g q u σ) (q_B D g (va_A ws sz)) (va_A ws sz)) (fun E u => ∃ c : Int32, E = qE c ∧ (c = 1 ∨ c = 2) ∧ iP g q ws u ∧ rCm x2 x3 x4 σ c 0 ∧ sC g q u σ) := by
  intro sz
  obtain ⟨t0_0, t0_1, hT0, bT0⟩ := q_bigO hI (n_b22 g q)
  obtain ⟨t1_0, hT1, bT1⟩ := n_ai hI (n_s23 g q)
  obtain ⟨t2_0, t2_1, hT2, bT2⟩ := q_bigO hI (n_b24 g q)
  obtain ⟨t3_0, hT3, bT3⟩ := n_ai hI (n_s25 g q)
  obtain ⟨t4_0, hT4⟩ := n_al hI (n_s7 g q)
  obtain ⟨t5_0, hT5⟩ := n_al hI (n_s8 g q)
  obtain ⟨t6_0, t6_1, t7_0, hT6, hT7, vk3, hbk3, hBk3⟩ := hC.1 i3 hi3
  obtain ⟨t8_0, t8_1, t9_0, t9_1, t10_0, hT8, hT9, hT10, vd3, hbd3⟩ := hC.2.1 i3 hi3
  obtain ⟨t11_0, t11_1, t12_0, hT11, hT12, vk4, hbk4, hBk4⟩ := hC.1 i4 hi4
  obtain ⟨t13_0, t13_1, t14_0, t14_1, t15_0, hT13, hT14, hT15, vd4, hbd4⟩ := hC.2.1 i4 hi4
  obtain ⟨hS1, hS2, hS3, hS4, hS5, hS6, hS7⟩ := hS
  obtain ⟨fV, yV, hV9⟩ := hS3
  obtain ⟨fN, yN, hN9⟩ := hS4
  obtain rfl := x_rl hT4 yV
  obtain rfl := x_rl hT5 yN
  obtain ⟨s3, n3, f3, a3, b3, hw3⟩ := hS1 i3 hi3
  obtain ⟨rfl, rfl⟩ := x_b2 hT6 a3
  obtain rfl := x_ri hT7 b3
  obtain ⟨s4, n4, f4, a4, b4, hw4⟩ := hS1 i4 hi4
  obtain ⟨rfl, rfl⟩ := x_b2 hT11 a4
  obtain rfl := x_ri hT12 b4
  obtain ⟨p3, q3, s5, n5, f5, a5, b5, c5, hd3⟩ := hS2 i3 hi3
  obtain ⟨rfl, rfl⟩ := x_b2 hT8 a5
  obtain ⟨rfl, rfl⟩ := x_b2 hT9 b5
  obtain rfl := x_ri hT10 c5
  obtain ⟨p4, q4, s6, n6, f6, a6, b6, c6, hd4⟩ := hS2 i4 hi4
  obtain ⟨rfl, rfl⟩ := x_b2 hT13 a6
  obtain ⟨rfl, rfl⟩ := x_b2 hT14 b6
  obtain rfl := x_ri hT15 c6
  have hS3 : cFr g q ws 7 (zsV σ) := ⟨_, yV, hV9⟩
  have hS4 : cFr g q ws 8 (zsN σ) := ⟨_, yN, hN9⟩
  have hq := T_compare (x2 := x2) (x3 := x3) (x4 := x4) (t0_0 := t0_0) (t0_1 := t0_1) (t1_0 := t1_0) (t2_0 := t2_0) (t2_1 := t2_1) (t3_0 := t3_0) (t4_0 := t4_0) (t5_0 := t5_0) (t6_0 := t6_0) (t6_1 := t6_1) (t7_0 := t7_0) (t8_0 := t8_0) (t8_1 := t8_1) (t9_0 := t9_0) (t9_1 := t9_1) (t10_0 := t10_0) (t11_0 := t11_0) (t11_1 := t11_1) (t12_0 := t12_0) (t13_0 := t13_0) (t13_1 := t13_1) (t14_0 := t14_0) (t14_1 := t14_1) (t15_0 := t15_0) 
  refine q_MxI (X_NH_compare l D g q ws x2 x3 x4 (66 + 5 * i3) (n_w g q hi3) (by omega) (fun h => by have z := e3 h; omega) (68 + 5 * i3) (n_d g q hi3) (by omega) (fun h => by have z := e3 h; omega) (66 + 5 * i4) (n_w g q hi4) (by omega) (fun h => by have z := e4 h; omega) (68 + 5 * i4) (n_d g q hi4) (by omega) (fun h => by have z := e4 h; omega) hlt hI t0_0 t0_1 hT0 t1_0 hT1 t2_0 t2_1 hT2 t3_0 hT3 t4_0 hT4 t5_0 hT5 t6_0 t6_1 hT6 t7_0 hT7 t8_0 t8_1 hT8 t9_0 t9_1 hT9 t10_0 hT10 t11_0 t11_1 hT11 t12_0 hT12 t13_0 t13_1 hT13 t14_0 t14_1 hT14 t15_0 hT15 ⟨trivial, hq⟩ sz) ?_ ?_
  · rintro r u ⟨hI2, hun, u0_0, u0_1, u1_0, u2_0, u2_1, u3_0, hU0, hU1, hU2, hU3, hR⟩
    refine ⟨⟨hI2, ⟨fun i hi => ?_, fun i hi => ?_, ?_⟩, fun i hi => hun i (by simp only [List.mem_cons, List.not_mem_nil, or_false, not_or]; omega)⟩, ?_⟩
    · exact iW_fr (hC.1 i hi) (hun _ (by simp only [List.mem_cons, List.not_mem_nil, or_false, not_or]; omega)) (hun _ (by simp only [List.mem_cons, List.not_mem_nil, or_false, not_or]; omega))
    · exact iD_fr (hC.2.1 i hi) (hun _ (by simp only [List.mem_cons, List.not_mem_nil, or_false, not_or]; omega)) (hun _ (by simp only [List.mem_cons, List.not_mem_nil, or_false, not_or]; omega)) (hun _ (by simp only [List.mem_cons, List.not_mem_nil, or_false, not_or]; omega))
    · exact iO_fr hC.2.2 (hun _ (by simp only [List.mem_cons, List.not_mem_nil, or_false, not_or]; omega)) (hun _ (by simp only [List.mem_cons, List.not_mem_nil, or_false, not_or]; omega)) (hun _ (by simp only [List.mem_cons, List.not_mem_nil, or_false, not_or]; omega))
    · have hv := V_NH_compare (x2 := x2) (x3 := x3) (x4 := x4) (t0_0 := t0_0) (t0_1 := t0_1) (t1_0 := t1_0) (t2_0 := t2_0) (t2_1 := t2_1) (t3_0 := t3_0) (t4_0 := t4_0) (t5_0 := t5_0) (t6_0 := t6_0) (t6_1 := t6_1) (t7_0 := t7_0) (t8_0 := t8_0) (t8_1 := t8_1) (t9_0 := t9_0) (t9_1 := t9_1) (t10_0 := t10_0) (t11_0 := t11_0) (t11_1 := t11_1) (t12_0 := t12_0) (t13_0 := t13_0) (t13_1 := t13_1) (t14_0 := t14_0) (t14_1 := t14_1) (t15_0 := t15_0) hw3 hw4 hd3 hd4
      rw [← hR.2.2.2.2.2.2.2.2.2.2.2.2.2.2.2.2.2.2.2.2.2.2.2.2.2.2.2.2.2.2] at hv
      rcases hv with ⟨_, z⟩ | ⟨l1, w⟩
      · exact absurd (show (0 : Int32) = 1 from z) (by decide)
      · have e33 := e3 (x_reg l1.2.1)
        have e44 := e4 (x_reg l1.2.2)
        rw [hV9 _ (x_reg l1.2.1), hV9 _ (x_reg l1.2.2), hN9 _ (x_reg l1.2.1), hN9 _ (x_reg l1.2.2), e33, e44] at w
        exact ⟨Or.inr ⟨l1, w⟩, ⟨(fun i hi => cWr_fr (hS1 i hi) (hun _ (by simp only [List.mem_cons, List.not_mem_nil, or_false, not_or]; omega)) (hun _ (by simp only [List.mem_cons, List.not_mem_nil, or_false, not_or]; omega))), (fun i hi => cDr_fr (hS2 i hi) (hun _ (by simp only [List.mem_cons, List.not_mem_nil, or_false, not_or]; omega)) (hun _ (by simp only [List.mem_cons, List.not_mem_nil, or_false, not_or]; omega)) (hun _ (by simp only [List.mem_cons, List.not_mem_nil, or_false, not_or]; omega))), (cFr_fr hS3 (hun _ (by simp only [List.mem_cons, List.not_mem_nil, or_false, not_or]; omega))), (cFr_fr hS4 (hun _ (by simp only [List.mem_cons, List.not_mem_nil, or_false, not_or]; omega))), (cTp_fr hS5 (hun _ (by simp only [List.mem_cons, List.not_mem_nil, or_false, not_or]; omega)) (hun _ (by simp only [List.mem_cons, List.not_mem_nil, or_false, not_or]; omega))), (cPp_fr hS6 (hun _ (by simp only [List.mem_cons, List.not_mem_nil, or_false, not_or]; omega)) (hun _ (by simp only [List.mem_cons, List.not_mem_nil, or_false, not_or]; omega))), (cAr_fr hS7 (fun i _ _ => (hun _ (by simp only [List.mem_cons, List.not_mem_nil, or_false, not_or]; omega))) (fun i _ _ => (hun _ (by simp only [List.mem_cons, List.not_mem_nil, or_false, not_or]; omega))))⟩⟩
  · rintro E u ⟨c, hE, hc, hI2, hun, u0_0, u0_1, u1_0, u2_0, u2_1, u3_0, hU0, hU1, hU2, hU3, hF⟩
    have hk := K_NH_compare (x2 := x2) (x3 := x3) (x4 := x4) (t0_0 := t0_0) (t0_1 := t0_1) (t1_0 := t1_0) (t2_0 := t2_0) (t2_1 := t2_1) (t3_0 := t3_0) (t4_0 := t4_0) (t5_0 := t5_0) (t6_0 := t6_0) (t6_1 := t6_1) (t7_0 := t7_0) (t8_0 := t8_0) (t8_1 := t8_1) (t9_0 := t9_0) (t9_1 := t9_1) (t10_0 := t10_0) (t11_0 := t11_0) (t11_1 := t11_1) (t12_0 := t12_0) (t13_0 := t13_0) (t13_1 := t13_1) (t14_0 := t14_0) (t14_1 := t14_1) (t15_0 := t15_0)
    rw [← hF] at hk
    replace hk : kC12 c := hk
    refine ⟨c, hE, hk.resolve_left hc, ⟨hI2, ⟨fun i hi => ?_, fun i hi => ?_, ?_⟩, fun i hi => hun i (by simp only [List.mem_cons, List.not_mem_nil, or_false, not_or]; omega)⟩, ?_⟩
    · exact iW_fr (hC.1 i hi) (hun _ (by simp only [List.mem_cons, List.not_mem_nil, or_false, not_or]; omega)) (hun _ (by simp only [List.mem_cons, List.not_mem_nil, or_false, not_or]; omega))
    · exact iD_fr (hC.2.1 i hi) (hun _ (by simp only [List.mem_cons, List.not_mem_nil, or_false, not_or]; omega)) (hun _ (by simp only [List.mem_cons, List.not_mem_nil, or_false, not_or]; omega)) (hun _ (by simp only [List.mem_cons, List.not_mem_nil, or_false, not_or]; omega))
    · exact iO_fr hC.2.2 (hun _ (by simp only [List.mem_cons, List.not_mem_nil, or_false, not_or]; omega)) (hun _ (by simp only [List.mem_cons, List.not_mem_nil, or_false, not_or]; omega)) (hun _ (by simp only [List.mem_cons, List.not_mem_nil, or_false, not_or]; omega))
    · have hv := V_NH_compare (x2 := x2) (x3 := x3) (x4 := x4) (t0_0 := t0_0) (t0_1 := t0_1) (t1_0 := t1_0) (t2_0 := t2_0) (t2_1 := t2_1) (t3_0 := t3_0) (t4_0 := t4_0) (t5_0 := t5_0) (t6_0 := t6_0) (t6_1 := t6_1) (t7_0 := t7_0) (t8_0 := t8_0) (t8_1 := t8_1) (t9_0 := t9_0) (t9_1 := t9_1) (t10_0 := t10_0) (t11_0 := t11_0) (t11_1 := t11_1) (t12_0 := t12_0) (t13_0 := t13_0) (t13_1 := t13_1) (t14_0 := t14_0) (t14_1 := t14_1) (t15_0 := t15_0) hw3 hw4 hd3 hd4
      rw [← hF] at hv
      rcases hv with ⟨l1, z⟩ | ⟨l1, w⟩
      · exact ⟨Or.inl ⟨l1, z⟩, ⟨(fun i hi => cWr_fr (hS1 i hi) (hun _ (by simp only [List.mem_cons, List.not_mem_nil, or_false, not_or]; omega)) (hun _ (by simp only [List.mem_cons, List.not_mem_nil, or_false, not_or]; omega))), (fun i hi => cDr_fr (hS2 i hi) (hun _ (by simp only [List.mem_cons, List.not_mem_nil, or_false, not_or]; omega)) (hun _ (by simp only [List.mem_cons, List.not_mem_nil, or_false, not_or]; omega)) (hun _ (by simp only [List.mem_cons, List.not_mem_nil, or_false, not_or]; omega))), (cFr_fr hS3 (hun _ (by simp only [List.mem_cons, List.not_mem_nil, or_false, not_or]; omega))), (cFr_fr hS4 (hun _ (by simp only [List.mem_cons, List.not_mem_nil, or_false, not_or]; omega))), (cTp_fr hS5 (hun _ (by simp only [List.mem_cons, List.not_mem_nil, or_false, not_or]; omega)) (hun _ (by simp only [List.mem_cons, List.not_mem_nil, or_false, not_or]; omega))), (cPp_fr hS6 (hun _ (by simp only [List.mem_cons, List.not_mem_nil, or_false, not_or]; omega)) (hun _ (by simp only [List.mem_cons, List.not_mem_nil, or_false, not_or]; omega))), (cAr_fr hS7 (fun i _ _ => (hun _ (by simp only [List.mem_cons, List.not_mem_nil, or_false, not_or]; omega))) (fun i _ _ => (hun _ (by simp only [List.mem_cons, List.not_mem_nil, or_false, not_or]; omega))))⟩⟩
      · have e33 := e3 (x_reg l1.2.1)
        have e44 := e4 (x_reg l1.2.2)
        rw [hV9 _ (x_reg l1.2.1), hV9 _ (x_reg l1.2.2), hN9 _ (x_reg l1.2.1), hN9 _ (x_reg l1.2.2), e33, e44] at w
        exact ⟨Or.inr ⟨l1, w⟩, ⟨(fun i hi => cWr_fr (hS1 i hi) (hun _ (by simp only [List.mem_cons, List.not_mem_nil, or_false, not_or]; omega)) (hun _ (by simp only [List.mem_cons, List.not_mem_nil, or_false, not_or]; omega))), (fun i hi => cDr_fr (hS2 i hi) (hun _ (by simp only [List.mem_cons, List.not_mem_nil, or_false, not_or]; omega)) (hun _ (by simp only [List.mem_cons, List.not_mem_nil, or_false, not_or]; omega)) (hun _ (by simp only [List.mem_cons, List.not_mem_nil, or_false, not_or]; omega))), (cFr_fr hS3 (hun _ (by simp only [List.mem_cons, List.not_mem_nil, or_false, not_or]; omega))), (cFr_fr hS4 (hun _ (by simp only [List.mem_cons, List.not_mem_nil, or_false, not_or]; omega))), (cTp_fr hS5 (hun _ (by simp only [List.mem_cons, List.not_mem_nil, or_false, not_or]; omega)) (hun _ (by simp only [List.mem_cons, List.not_mem_nil, or_false, not_or]; omega))), (cPp_fr hS6 (hun _ (by simp only [List.mem_cons, List.not_mem_nil, or_false, not_or]; omega)) (hun _ (by simp only [List.mem_cons, List.not_mem_nil, or_false, not_or]; omega))), (cAr_fr hS7 (fun i _ _ => (hun _ (by simp only [List.mem_cons, List.not_mem_nil, or_false, not_or]; omega))) (fun i _ _ => (hun _ (by simp only [List.mem_cons, List.not_mem_nil, or_false, not_or]; omega))))⟩⟩
