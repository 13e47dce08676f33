/-! whole's law: powerModulo of the program -/
set_option maxRecDepth 100000 in
set_option maxHeartbeats 4000000 in
theorem CW_powerModulo (l : Launch) (D : va_G) (g : Nat → ClassId) (q : Nat → Nat) (ws : va_W) (x2 : Int32) (x3 : Int32) (x4 : Int32) (x5 : Int32) (i2 : Nat) (hi2 : i2 < 10) (i3 : Nat) (hi3 : i3 < 10) (i4 : Nat) (hi4 : i4 < 10) (i5 : Nat) (hi5 : i5 < 10) (e2 : x2.toNatClampNeg < 10 → i2 = x2.toNatClampNeg) (e3 : x3.toNatClampNeg < 10 → i3 = x3.toNatClampNeg) (e4 : x4.toNatClampNeg < 10 → i4 = x4.toNatClampNeg) (e5 : x5.toNatClampNeg < 10 → i5 = x5.toNatClampNeg) (nei2i4 : i2 ≠ i4) (nei3i4 : i3 ≠ i4) (nei5i4 : i5 ≠ i4) (hlt : l.stackTraces = false) (hI : q_I (nsh g q) q ws) (hC : iC g q ws) {σ : zSt} (hS : sC g q ws σ) (hk0 : zOk σ) : ∀ sz, q_Mx l y_NH_powerModulo prog_1_method_10_code 5 none 9 4 24 D g [.ref (q 0), .int x2, .int x3, .int x4, .int x5] ws sz (va_Qv (fun u => iP g q ws u ∧ ∃ σ2, rPm x2 x3 x4 x5 σ 0 σ2 ∧ sC g q u σ2) (q_B D g (va_A ws sz)) (va_A ws sz)) (fun E u => ∃ c : Int32, E = qE c ∧ (c = 1 ∨ c = 2) ∧ iP g q ws u ∧ rPm x2 x3 x4 x5 σ c σ ∧ sC g q u σ) := by
  intro sz
  obtain ⟨t0_0, t0_1, hT0, -⟩ := q_bigO hI (n_b10 g q)
  obtain ⟨t1_0, hT1, -⟩ := n_ai hI (n_s11 g q)
  obtain ⟨t2_0, t2_1, hT2, -⟩ := q_bigO hI (n_b12 g q)
  obtain ⟨t3_0, hT3, -⟩ := n_ai hI (n_s13 g q)
  obtain ⟨t4_0, t4_1, hT4, -⟩ := q_bigO hI (n_b14 g q)
  obtain ⟨t5_0, hT5, -⟩ := n_ai hI (n_s15 g q)
  obtain ⟨t6_0, t6_1, hT6, -⟩ := q_bigO hI (n_b18 g q)
  obtain ⟨t7_0, hT7, -⟩ := n_ai hI (n_s19 g q)
  obtain ⟨t8_0, t8_1, hT8, -⟩ := q_bigO hI (n_b22 g q)
  obtain ⟨t9_0, hT9, -⟩ := n_ai hI (n_s23 g q)
  obtain ⟨t10_0, t10_1, hT10, -⟩ := q_bigO hI (n_b24 g q)
  obtain ⟨t11_0, hT11, -⟩ := n_ai hI (n_s25 g q)
  obtain ⟨t12_0, t12_1, hT12, -⟩ := q_bigO hI (n_b26 g q)
  obtain ⟨t13_0, hT13, -⟩ := n_ai hI (n_s27 g q)
  obtain ⟨t14_0, t14_1, hT14, -⟩ := q_bigO hI (n_b28 g q)
  obtain ⟨t15_0, hT15, -⟩ := n_ai hI (n_s29 g q)
  obtain ⟨t16_0, t16_1, t17_0, hT16, hT17, vk2, hbk2, hBk2⟩ := hC.1 i2 hi2
  obtain ⟨t18_0, t18_1, t19_0, hT18, hT19, vk3, hbk3, hBk3⟩ := hC.1 i3 hi3
  obtain ⟨t20_0, t20_1, t21_0, hT20, hT21, vk4, hbk4, hBk4⟩ := hC.1 i4 hi4
  obtain ⟨t22_0, t22_1, t23_0, hT22, hT23, vk5, hbk5, hBk5⟩ := hC.1 i5 hi5
  obtain ⟨hS1, hS2, hS3, hS4, hS5, hS6, hS7⟩ := hS
  obtain ⟨sw2, nw2, fw2, aw2, bw2, gw2⟩ := hS1 i2 hi2
  obtain ⟨rfl, rfl⟩ := x_b2 hT16 aw2
  obtain rfl := x_ri hT17 bw2
  obtain ⟨sw3, nw3, fw3, aw3, bw3, gw3⟩ := hS1 i3 hi3
  obtain ⟨rfl, rfl⟩ := x_b2 hT18 aw3
  obtain rfl := x_ri hT19 bw3
  obtain ⟨sw4, nw4, fw4, aw4, bw4, gw4⟩ := hS1 i4 hi4
  obtain ⟨rfl, rfl⟩ := x_b2 hT20 aw4
  obtain rfl := x_ri hT21 bw4
  obtain ⟨sw5, nw5, fw5, aw5, bw5, gw5⟩ := hS1 i5 hi5
  obtain ⟨rfl, rfl⟩ := x_b2 hT22 aw5
  obtain rfl := x_ri hT23 bw5
  have ev2 : vk2 = zsW σ i2 := hbk2.2.2.1.symm.trans gw2.2.2.1
  have hB2 := hBk2
  rw [ev2] at hB2
  have ev3 : vk3 = zsW σ i3 := hbk3.2.2.1.symm.trans gw3.2.2.1
  have hB3 := hBk3
  rw [ev3] at hB3
  have ev4 : vk4 = zsW σ i4 := hbk4.2.2.1.symm.trans gw4.2.2.1
  have hB4 := hBk4
  rw [ev4] at hB4
  have ev5 : vk5 = zsW σ i5 := hbk5.2.2.1.symm.trans gw5.2.2.1
  have hB5 := hBk5
  rw [ev5] at hB5
  have hq := T_powerModulo (x2 := x2) (x3 := x3) (x4 := x4) (x5 := x5) (t0_0 := t0_0) (t0_1 := t0_1) (t1_0 := t1_0) (t2_0 := t2_0) (t2_1 := t2_1) (t3_0 := t3_0) (t4_0 := t4_0) (t4_1 := t4_1) (t5_0 := t5_0) (t6_0 := t6_0) (t6_1 := t6_1) (t7_0 := t7_0) (t8_0 := t8_0) (t8_1 := t8_1) (t9_0 := t9_0) (t10_0 := t10_0) (t10_1 := t10_1) (t11_0 := t11_0) (t12_0 := t12_0) (t12_1 := t12_1) (t13_0 := t13_0) (t14_0 := t14_0) (t14_1 := t14_1) (t15_0 := t15_0) (t16_0 := t16_0) (t16_1 := t16_1) (t17_0 := t17_0) (t18_0 := t18_0) (t18_1 := t18_1) (t19_0 := t19_0) (t20_0 := t20_0) (t20_1 := t20_1) (t21_0 := t21_0) (t22_0 := t22_0) (t22_1 := t22_1) (t23_0 := t23_0) hbk2 hBk2 hbk3 hbk4 hBk4 ⟨_, hbk5, hBk5⟩
  refine q_MxV (X_NH_powerModulo l D g q ws x2 x3 x4 x5 (66 + 5 * i2) (n_w g q hi2) (by omega) (fun h => by have z := e2 h; omega) (66 + 5 * i3) (n_w g q hi3) (by omega) (fun h => by have z := e3 h; omega) (66 + 5 * i4) (n_w g q hi4) (by omega) (fun h => by have z := e4 h; omega) (66 + 5 * i5) (n_w g q hi5) (by omega) (fun h => by have z := e5 h; omega) (by omega) (by omega) (by omega) (by omega) (by omega) (by omega) (by omega) (by omega) (by omega) hlt hI t0_0 t0_1 hT0 t1_0 hT1 t2_0 t2_1 hT2 t3_0 hT3 t4_0 t4_1 hT4 t5_0 hT5 t6_0 t6_1 hT6 t7_0 hT7 t8_0 t8_1 hT8 t9_0 hT9 t10_0 t10_1 hT10 t11_0 hT11 t12_0 t12_1 hT12 t13_0 hT13 t14_0 t14_1 hT14 t15_0 hT15 t16_0 t16_1 hT16 t17_0 hT17 t18_0 t18_1 hT18 t19_0 hT19 t20_0 t20_1 hT20 t21_0 hT21 t22_0 t22_1 hT22 t23_0 hT23 ⟨trivial, hq.1⟩ sz) ?_ ?_
  · rintro u ⟨hI2, hun, u0_0, u0_1, u1_0, u2_0, u2_1, u3_0, u4_0, u4_1, u5_0, u6_0, u6_1, u7_0, u8_0, u8_1, u9_0, u10_0, u10_1, u11_0, u12_0, u12_1, u13_0, u14_0, u14_1, u15_0, u20_0, u20_1, u21_0, u22_0, u22_1, u23_0, hU0, hU1, hU2, hU3, hU4, hU5, hU6, hU7, hU8, hU9, hU10, hU11, hU12, hU13, hU14, hU15, hU16, hU17, hU18, hU19, hR⟩
    have hG := hR.2.2.2.2.2.2.2.2.2.2.2.2.2.2.2.2.2.2.2.2.2.2.2.2.2.2.2.2.2.2.2.2.2.2.2.2.2.2.2.2.2.2.2.2.2.2.2.2.2.2.2.2.2.2.2.2.2.2
    clear hR
    have hF := hG
    have hp := hq.2
    rw [← hF] at hp
    refine ⟨⟨hI2, ⟨fun i hi => ?_, fun i hi => ?_, ?_⟩, fun i hi => hun i (by simp only [List.mem_cons, List.not_mem_nil, or_false, not_or]; omega)⟩, ?_⟩
    · by_cases hk4 : i = i4
      · rw [hk4]; refine ⟨_, _, _, hU16, hU17, ?_⟩; first | exact ⟨_, hp.2, hBk4⟩
      · by_cases hk5 : i = i5
        · rw [hk5]; refine ⟨_, _, _, hU18, hU19, ?_⟩; first | exact hp.1
        · exact iW_fr (hC.1 i hi) (hun _ (by simp only [List.mem_cons, List.not_mem_nil, or_false, not_or]; omega)) (hun _ (by simp only [List.mem_cons, List.not_mem_nil, or_false, not_or]; omega))
    · exact iD_fr (hC.2.1 i hi) (hun _ (by simp only [List.mem_cons, List.not_mem_nil, or_false, not_or]; omega)) (hun _ (by simp only [List.mem_cons, List.not_mem_nil, or_false, not_or]; omega)) (hun _ (by simp only [List.mem_cons, List.not_mem_nil, or_false, not_or]; omega))
    · exact iO_fr hC.2.2 (hun _ (by simp only [List.mem_cons, List.not_mem_nil, or_false, not_or]; omega)) (hun _ (by simp only [List.mem_cons, List.not_mem_nil, or_false, not_or]; omega)) (hun _ (by simp only [List.mem_cons, List.not_mem_nil, or_false, not_or]; omega))
    · have fW : ∀ i, i < 10 → ¬ i = i4 → ¬ i = i5 → cWr g q u (66 + 5 * i) (zsW σ i) := fun i hi hk4 hk5 => cWr_fr (hS1 i hi) (hun _ (by simp only [List.mem_cons, List.not_mem_nil, or_false, not_or]; omega)) (hun _ (by simp only [List.mem_cons, List.not_mem_nil, or_false, not_or]; omega))
      have fD : ∀ i, i < 10 → cDr g q u (68 + 5 * i) (zsD σ i) := fun i hi => cDr_fr (hS2 i hi) (hun _ (by simp only [List.mem_cons, List.not_mem_nil, or_false, not_or]; omega)) (hun _ (by simp only [List.mem_cons, List.not_mem_nil, or_false, not_or]; omega)) (hun _ (by simp only [List.mem_cons, List.not_mem_nil, or_false, not_or]; omega))
      have fV : cFr g q u 7 (zsV σ) := (cFr_fr hS3 (hun _ (by simp only [List.mem_cons, List.not_mem_nil, or_false, not_or]; omega)))
      have fN : cFr g q u 8 (zsN σ) := (cFr_fr hS4 (hun _ (by simp only [List.mem_cons, List.not_mem_nil, or_false, not_or]; omega)))
      have fT : cTp g q u (zsL σ) (zsB σ) := (cTp_fr hS5 (hun _ (by simp only [List.mem_cons, List.not_mem_nil, or_false, not_or]; omega)) (hun _ (by simp only [List.mem_cons, List.not_mem_nil, or_false, not_or]; omega)))
      have fP : cPp g q u (zsP σ) := (cPp_fr hS6 (hun _ (by simp only [List.mem_cons, List.not_mem_nil, or_false, not_or]; omega)) (hun _ (by simp only [List.mem_cons, List.not_mem_nil, or_false, not_or]; omega)))
      have fA : cAr g q u (zsA σ) := (cAr_fr hS7 (fun i _ _ => (hun _ (by simp only [List.mem_cons, List.not_mem_nil, or_false, not_or]; omega))) (fun i _ _ => (hun _ (by simp only [List.mem_cons, List.not_mem_nil, or_false, not_or]; omega))))
      by_cases ok : (yReg x2 ∧ yReg x3 ∧ yReg x4 ∧ yReg x5)
      · have e22 := e2 (x_reg ok.1)
        have e33 := e3 (x_reg ok.2.1)
        have e44 := e4 (x_reg ok.2.2.1)
        have e55 := e5 (x_reg ok.2.2.2)
        have hv := V_powerModulo (x2 := x2) (x3 := x3) (x4 := x4) (x5 := x5) (t0_0 := t0_0) (t0_1 := t0_1) (t1_0 := t1_0) (t2_0 := t2_0) (t2_1 := t2_1) (t3_0 := t3_0) (t4_0 := t4_0) (t4_1 := t4_1) (t5_0 := t5_0) (t6_0 := t6_0) (t6_1 := t6_1) (t7_0 := t7_0) (t8_0 := t8_0) (t8_1 := t8_1) (t9_0 := t9_0) (t10_0 := t10_0) (t10_1 := t10_1) (t11_0 := t11_0) (t12_0 := t12_0) (t12_1 := t12_1) (t13_0 := t13_0) (t14_0 := t14_0) (t14_1 := t14_1) (t15_0 := t15_0) (t16_0 := t16_0) (t16_1 := t16_1) (t17_0 := t17_0) (t18_0 := t18_0) (t18_1 := t18_1) (t19_0 := t19_0) (t20_0 := t20_0) (t20_1 := t20_1) (t21_0 := t21_0) (t22_0 := t22_0) (t22_1 := t22_1) (t23_0 := t23_0) gw2 hB2 gw3 gw4 hB4 gw5 (y_isRn ok.1) (y_isRn ok.2.1) (y_isRn ok.2.2.1) (y_isRn ok.2.2.2)
        rw [← hG] at hv
        obtain ⟨hv, hb⟩ := hv
        rcases hv with ⟨v, o1, o2, z, o3⟩ | ⟨o1, z, o3⟩
        · refine ⟨(updW (zsW σ) x5.toNatClampNeg v, zsD σ, zsV σ, zsN σ, zsL σ, zsB σ, zsP σ, zsA σ), Or.inr ⟨ok, Or.inl ⟨v, by rw [← e22, ← e33, ← e44]; exact o1, o2, rfl, rfl⟩⟩, ?_⟩
          refine ⟨(fun i hi => ?_), fD, fV, fN, fT, fP, fA⟩
          · show cWr g q u (66 + 5 * i) (updW (zsW σ) x5.toNatClampNeg v i)
            unfold updW
            by_cases hk4 : i = i4
            · rw [if_neg (by omega), hk4]; exact ⟨_, _, _, hU16, hU17, hb⟩
            · by_cases hk5 : i = i5
              · rw [if_pos (by omega), hk5]; exact ⟨_, _, _, hU18, hU19, o3⟩
              · rw [if_neg (by omega)]; exact fW i hi hk4 hk5
        · exact absurd (show (0 : Int32) = 2 from z) (by decide)
      · have hv := y_no_powerModulo (x2 := x2) (x3 := x3) (x4 := x4) (x5 := x5) (t0_0 := t0_0) (t0_1 := t0_1) (t1_0 := t1_0) (t2_0 := t2_0) (t2_1 := t2_1) (t3_0 := t3_0) (t4_0 := t4_0) (t4_1 := t4_1) (t5_0 := t5_0) (t6_0 := t6_0) (t6_1 := t6_1) (t7_0 := t7_0) (t8_0 := t8_0) (t8_1 := t8_1) (t9_0 := t9_0) (t10_0 := t10_0) (t10_1 := t10_1) (t11_0 := t11_0) (t12_0 := t12_0) (t12_1 := t12_1) (t13_0 := t13_0) (t14_0 := t14_0) (t14_1 := t14_1) (t15_0 := t15_0) (t16_0 := t16_0) (t16_1 := t16_1) (t17_0 := t17_0) (t18_0 := t18_0) (t18_1 := t18_1) (t19_0 := t19_0) (t20_0 := t20_0) (t20_1 := t20_1) (t21_0 := t21_0) (t22_0 := t22_0) (t22_1 := t22_1) (t23_0 := t23_0) ok
        rw [← hG] at hv
        obtain ⟨z, eT0, eT1, eT2, eB0, eB1, eB2⟩ := hv
        exact absurd (show (0 : Int32) = 1 from z) (by decide)
  · rintro E u ⟨c, hE, hc, hI2, hun, u0_0, u0_1, u1_0, u2_0, u2_1, u3_0, u4_0, u4_1, u5_0, u6_0, u6_1, u7_0, u8_0, u8_1, u9_0, u10_0, u10_1, u11_0, u12_0, u12_1, u13_0, u14_0, u14_1, u15_0, u20_0, u20_1, u21_0, u22_0, u22_1, u23_0, hU0, hU1, hU2, hU3, hU4, hU5, hU6, hU7, hU8, hU9, hU10, hU11, hU12, hU13, hU14, hU15, hU16, hU17, hU18, hU19, hF⟩
    have hp := hq.2
    rw [← hF] at hp
    have hk := K_NH_powerModulo (x2 := x2) (x3 := x3) (x4 := x4) (x5 := x5) (t0_0 := t0_0) (t0_1 := t0_1) (t1_0 := t1_0) (t2_0 := t2_0) (t2_1 := t2_1) (t3_0 := t3_0) (t4_0 := t4_0) (t4_1 := t4_1) (t5_0 := t5_0) (t6_0 := t6_0) (t6_1 := t6_1) (t7_0 := t7_0) (t8_0 := t8_0) (t8_1 := t8_1) (t9_0 := t9_0) (t10_0 := t10_0) (t10_1 := t10_1) (t11_0 := t11_0) (t12_0 := t12_0) (t12_1 := t12_1) (t13_0 := t13_0) (t14_0 := t14_0) (t14_1 := t14_1) (t15_0 := t15_0) (t16_0 := t16_0) (t16_1 := t16_1) (t17_0 := t17_0) (t18_0 := t18_0) (t18_1 := t18_1) (t19_0 := t19_0) (t20_0 := t20_0) (t20_1 := t20_1) (t21_0 := t21_0) (t22_0 := t22_0) (t22_1 := t22_1) (t23_0 := t23_0)
    rw [← hF] at hk
    replace hk : kC12 c := hk
    refine ⟨c, hE, hk.resolve_left hc, ⟨hI2, ⟨fun i hi => ?_, fun i hi => ?_, ?_⟩, fun i hi => hun i (by simp only [List.mem_cons, List.not_mem_nil, or_false, not_or]; omega)⟩, ?_⟩
    · by_cases hk4 : i = i4
      · rw [hk4]; refine ⟨_, _, _, hU16, hU17, ?_⟩; first | exact ⟨_, hp.2, hBk4⟩
      · by_cases hk5 : i = i5
        · rw [hk5]; refine ⟨_, _, _, hU18, hU19, ?_⟩; first | exact hp.1
        · exact iW_fr (hC.1 i hi) (hun _ (by simp only [List.mem_cons, List.not_mem_nil, or_false, not_or]; omega)) (hun _ (by simp only [List.mem_cons, List.not_mem_nil, or_false, not_or]; omega))
    · exact iD_fr (hC.2.1 i hi) (hun _ (by simp only [List.mem_cons, List.not_mem_nil, or_false, not_or]; omega)) (hun _ (by simp only [List.mem_cons, List.not_mem_nil, or_false, not_or]; omega)) (hun _ (by simp only [List.mem_cons, List.not_mem_nil, or_false, not_or]; omega))
    · exact iO_fr hC.2.2 (hun _ (by simp only [List.mem_cons, List.not_mem_nil, or_false, not_or]; omega)) (hun _ (by simp only [List.mem_cons, List.not_mem_nil, or_false, not_or]; omega)) (hun _ (by simp only [List.mem_cons, List.not_mem_nil, or_false, not_or]; omega))
    · have hG := hF
      have fW : ∀ i, i < 10 → ¬ i = i4 → ¬ i = i5 → cWr g q u (66 + 5 * i) (zsW σ i) := fun i hi hk4 hk5 => cWr_fr (hS1 i hi) (hun _ (by simp only [List.mem_cons, List.not_mem_nil, or_false, not_or]; omega)) (hun _ (by simp only [List.mem_cons, List.not_mem_nil, or_false, not_or]; omega))
      have fD : ∀ i, i < 10 → cDr g q u (68 + 5 * i) (zsD σ i) := fun i hi => cDr_fr (hS2 i hi) (hun _ (by simp only [List.mem_cons, List.not_mem_nil, or_false, not_or]; omega)) (hun _ (by simp only [List.mem_cons, List.not_mem_nil, or_false, not_or]; omega)) (hun _ (by simp only [List.mem_cons, List.not_mem_nil, or_false, not_or]; omega))
      have fV : cFr g q u 7 (zsV σ) := (cFr_fr hS3 (hun _ (by simp only [List.mem_cons, List.not_mem_nil, or_false, not_or]; omega)))
      have fN : cFr g q u 8 (zsN σ) := (cFr_fr hS4 (hun _ (by simp only [List.mem_cons, List.not_mem_nil, or_false, not_or]; omega)))
      have fT : cTp g q u (zsL σ) (zsB σ) := (cTp_fr hS5 (hun _ (by simp only [List.mem_cons, List.not_mem_nil, or_false, not_or]; omega)) (hun _ (by simp only [List.mem_cons, List.not_mem_nil, or_false, not_or]; omega)))
      have fP : cPp g q u (zsP σ) := (cPp_fr hS6 (hun _ (by simp only [List.mem_cons, List.not_mem_nil, or_false, not_or]; omega)) (hun _ (by simp only [List.mem_cons, List.not_mem_nil, or_false, not_or]; omega)))
      have fA : cAr g q u (zsA σ) := (cAr_fr hS7 (fun i _ _ => (hun _ (by simp only [List.mem_cons, List.not_mem_nil, or_false, not_or]; omega))) (fun i _ _ => (hun _ (by simp only [List.mem_cons, List.not_mem_nil, or_false, not_or]; omega))))
      by_cases ok : (yReg x2 ∧ yReg x3 ∧ yReg x4 ∧ yReg x5)
      · have e22 := e2 (x_reg ok.1)
        have e33 := e3 (x_reg ok.2.1)
        have e44 := e4 (x_reg ok.2.2.1)
        have e55 := e5 (x_reg ok.2.2.2)
        have hv := V_powerModulo (x2 := x2) (x3 := x3) (x4 := x4) (x5 := x5) (t0_0 := t0_0) (t0_1 := t0_1) (t1_0 := t1_0) (t2_0 := t2_0) (t2_1 := t2_1) (t3_0 := t3_0) (t4_0 := t4_0) (t4_1 := t4_1) (t5_0 := t5_0) (t6_0 := t6_0) (t6_1 := t6_1) (t7_0 := t7_0) (t8_0 := t8_0) (t8_1 := t8_1) (t9_0 := t9_0) (t10_0 := t10_0) (t10_1 := t10_1) (t11_0 := t11_0) (t12_0 := t12_0) (t12_1 := t12_1) (t13_0 := t13_0) (t14_0 := t14_0) (t14_1 := t14_1) (t15_0 := t15_0) (t16_0 := t16_0) (t16_1 := t16_1) (t17_0 := t17_0) (t18_0 := t18_0) (t18_1 := t18_1) (t19_0 := t19_0) (t20_0 := t20_0) (t20_1 := t20_1) (t21_0 := t21_0) (t22_0 := t22_0) (t22_1 := t22_1) (t23_0 := t23_0) gw2 hB2 gw3 gw4 hB4 gw5 (y_isRn ok.1) (y_isRn ok.2.1) (y_isRn ok.2.2.1) (y_isRn ok.2.2.2)
        rw [← hG] at hv
        obtain ⟨hv, hb⟩ := hv
        rcases hv with ⟨v, o1, o2, z, o3⟩ | ⟨o1, z, o3⟩
        · exact absurd z hc
        · refine ⟨Or.inr ⟨ok, Or.inr ⟨by rw [← e22, ← e33, ← e44]; exact o1, z, rfl⟩⟩, ?_⟩
          refine ⟨(fun i hi => ?_), fD, fV, fN, fT, fP, fA⟩
          · by_cases hk4 : i = i4
            · rw [hk4]; exact ⟨_, _, _, hU16, hU17, hb⟩
            · by_cases hk5 : i = i5
              · rw [hk5]; exact ⟨_, _, _, hU18, hU19, o3⟩
              · exact fW i hi hk4 hk5
      · have hv := y_no_powerModulo (x2 := x2) (x3 := x3) (x4 := x4) (x5 := x5) (t0_0 := t0_0) (t0_1 := t0_1) (t1_0 := t1_0) (t2_0 := t2_0) (t2_1 := t2_1) (t3_0 := t3_0) (t4_0 := t4_0) (t4_1 := t4_1) (t5_0 := t5_0) (t6_0 := t6_0) (t6_1 := t6_1) (t7_0 := t7_0) (t8_0 := t8_0) (t8_1 := t8_1) (t9_0 := t9_0) (t10_0 := t10_0) (t10_1 := t10_1) (t11_0 := t11_0) (t12_0 := t12_0) (t12_1 := t12_1) (t13_0 := t13_0) (t14_0 := t14_0) (t14_1 := t14_1) (t15_0 := t15_0) (t16_0 := t16_0) (t16_1 := t16_1) (t17_0 := t17_0) (t18_0 := t18_0) (t18_1 := t18_1) (t19_0 := t19_0) (t20_0 := t20_0) (t20_1 := t20_1) (t21_0 := t21_0) (t22_0 := t22_0) (t22_1 := t22_1) (t23_0 := t23_0) ok
        rw [← hG] at hv
        obtain ⟨z, eT0, eT1, eT2, eB0, eB1, eB2⟩ := hv
        replace eT0 : u22_0 = t22_0 := eT0
        replace eT1 : u22_1 = t22_1 := eT1
        replace eT2 : u23_0 = t23_0 := eT2
        replace eB0 : u20_0 = t20_0 := eB0
        replace eB1 : u20_1 = t20_1 := eB1
        replace eB2 : u21_0 = t21_0 := eB2
        refine ⟨Or.inl ⟨ok, z, rfl⟩, ?_⟩
        refine ⟨(fun i hi => ?_), fD, fV, fN, fT, fP, fA⟩
        · by_cases hk4 : i = i4
          · rw [hk4]; exact ⟨_, _, _, hU16, hU17, (by rw [eB0, eB1, eB2]; exact gw4)⟩
          · by_cases hk5 : i = i5
            · rw [hk5]; exact ⟨_, _, _, hU18, hU19, (by rw [eT0, eT1, eT2]; exact gw5)⟩
            · exact fW i hi hk4 hk5
set_option maxRecDepth 100000 in
set_option maxHeartbeats 4000000 in
theorem CW_powerModulo_a (l : Launch) (D : va_G) (g : Nat → ClassId) (q : Nat → Nat) (ws : va_W) (x2 : Int32) (x3 : Int32) (x4 : Int32) (x5 : Int32) (i2 : Nat) (hi2 : i2 < 10) (i3 : Nat) (hi3 : i3 < 10) (i5 : Nat) (hi5 : i5 < 10) (e2 : x2.toNatClampNeg < 10 → i2 = x2.toNatClampNeg) (e3 : x3.toNatClampNeg < 10 → i3 = x3.toNatClampNeg) (e4 : x4.toNatClampNeg < 10 → i2 = x4.toNatClampNeg) (e5 : x5.toNatClampNeg < 10 → i5 = x5.toNatClampNeg) (nei3i2 : i3 ≠ i2) (nei5i2 : i5 ≠ i2) (hlt : l.stackTraces = false) (hI : q_I (nsh g q) q ws) (hC : iC g q ws) {σ : zSt} (hS : sC g q ws σ) (hk0 : zOk σ) : ∀ sz, q_Mx l y_NH_powerModulo prog_1_method_10_code 5 none 9 4 24 D g [.ref (q 0), .int x2, .int x3, .int x4, .int x5] ws sz (va_Qv (fun u => iP g q ws u ∧ ∃ σ2, rPm x2 x3 x4 x5 σ 0 σ2 ∧ sC g q u σ2) (q_B D g (va_A ws sz)) (va_A ws sz)) (fun E u => ∃ c : Int32, E = qE c ∧ (c = 1 ∨ c = 2) ∧ iP g q ws u ∧ rPm x2 x3 x4 x5 σ c σ ∧ sC g q u σ) := by
  intro sz
  obtain ⟨t0_0, t0_1, hT0, -⟩ := q_bigO hI (n_b10 g q)
  obtain ⟨t1_0, hT1, -⟩ := n_ai hI (n_s11 g q)
  obtain ⟨t2_0, t2_1, hT2, -⟩ := q_bigO hI (n_b12 g q)
  obtain ⟨t3_0, hT3, -⟩ := n_ai hI (n_s13 g q)
  obtain ⟨t4_0, t4_1, hT4, -⟩ := q_bigO hI (n_b14 g q)
  obtain ⟨t5_0, hT5, -⟩ := n_ai hI (n_s15 g q)
  obtain ⟨t6_0, t6_1, hT6, -⟩ := q_bigO hI (n_b18 g q)
  obtain ⟨t7_0, hT7, -⟩ := n_ai hI (n_s19 g q)
  obtain ⟨t8_0, t8_1, hT8, -⟩ := q_bigO hI (n_b22 g q)
  obtain ⟨t9_0, hT9, -⟩ := n_ai hI (n_s23 g q)
  obtain ⟨t10_0, t10_1, hT10, -⟩ := q_bigO hI (n_b24 g q)
  obtain ⟨t11_0, hT11, -⟩ := n_ai hI (n_s25 g q)
  obtain ⟨t12_0, t12_1, hT12, -⟩ := q_bigO hI (n_b26 g q)
  obtain ⟨t13_0, hT13, -⟩ := n_ai hI (n_s27 g q)
  obtain ⟨t14_0, t14_1, hT14, -⟩ := q_bigO hI (n_b28 g q)
  obtain ⟨t15_0, hT15, -⟩ := n_ai hI (n_s29 g q)
  obtain ⟨t16_0, t16_1, t17_0, hT16, hT17, vk4, hbk4, hBk4⟩ := hC.1 i2 hi2
  obtain ⟨t18_0, t18_1, t19_0, hT18, hT19, vk3, hbk3, hBk3⟩ := hC.1 i3 hi3
  obtain ⟨t20_0, t20_1, t21_0, hT20, hT21, vk5, hbk5, hBk5⟩ := hC.1 i5 hi5
  obtain ⟨hS1, hS2, hS3, hS4, hS5, hS6, hS7⟩ := hS
  obtain ⟨sw2, nw2, fw2, aw2, bw2, gw2⟩ := hS1 i2 hi2
  obtain ⟨rfl, rfl⟩ := x_b2 hT16 aw2
  obtain rfl := x_ri hT17 bw2
  obtain ⟨sw3, nw3, fw3, aw3, bw3, gw3⟩ := hS1 i3 hi3
  obtain ⟨rfl, rfl⟩ := x_b2 hT18 aw3
  obtain rfl := x_ri hT19 bw3
  obtain ⟨sw5, nw5, fw5, aw5, bw5, gw5⟩ := hS1 i5 hi5
  obtain ⟨rfl, rfl⟩ := x_b2 hT20 aw5
  obtain rfl := x_ri hT21 bw5
  have ev2 : vk4 = zsW σ i2 := hbk4.2.2.1.symm.trans gw2.2.2.1
  have hB2 := hBk4
  rw [ev2] at hB2
  have ev3 : vk3 = zsW σ i3 := hbk3.2.2.1.symm.trans gw3.2.2.1
  have hB3 := hBk3
  rw [ev3] at hB3
  have ev5 : vk5 = zsW σ i5 := hbk5.2.2.1.symm.trans gw5.2.2.1
  have hB5 := hBk5
  rw [ev5] at hB5
  have hq := T_powerModulo_a (x2 := x2) (x3 := x3) (x4 := x4) (x5 := x5) (t0_0 := t0_0) (t0_1 := t0_1) (t1_0 := t1_0) (t2_0 := t2_0) (t2_1 := t2_1) (t3_0 := t3_0) (t4_0 := t4_0) (t4_1 := t4_1) (t5_0 := t5_0) (t6_0 := t6_0) (t6_1 := t6_1) (t7_0 := t7_0) (t8_0 := t8_0) (t8_1 := t8_1) (t9_0 := t9_0) (t10_0 := t10_0) (t10_1 := t10_1) (t11_0 := t11_0) (t12_0 := t12_0) (t12_1 := t12_1) (t13_0 := t13_0) (t14_0 := t14_0) (t14_1 := t14_1) (t15_0 := t15_0) (t16_0 := t16_0) (t16_1 := t16_1) (t17_0 := t17_0) (t18_0 := t18_0) (t18_1 := t18_1) (t19_0 := t19_0) (t20_0 := t20_0) (t20_1 := t20_1) (t21_0 := t21_0) hbk3 hbk4 hBk4 ⟨_, hbk5, hBk5⟩
  refine q_MxV (X_NH_powerModulo_a l D g q ws x2 x3 x4 x5 (66 + 5 * i2) (n_w g q hi2) (by omega) (fun h => by have z := e2 h; omega) (66 + 5 * i3) (n_w g q hi3) (by omega) (fun h => by have z := e3 h; omega) (fun h => by have z := e4 h; omega) (66 + 5 * i5) (n_w g q hi5) (by omega) (fun h => by have z := e5 h; omega) (by omega) (by omega) (by omega) (by omega) (by omega) (by omega) hlt hI t0_0 t0_1 hT0 t1_0 hT1 t2_0 t2_1 hT2 t3_0 hT3 t4_0 t4_1 hT4 t5_0 hT5 t6_0 t6_1 hT6 t7_0 hT7 t8_0 t8_1 hT8 t9_0 hT9 t10_0 t10_1 hT10 t11_0 hT11 t12_0 t12_1 hT12 t13_0 hT13 t14_0 t14_1 hT14 t15_0 hT15 t16_0 t16_1 hT16 t17_0 hT17 t18_0 t18_1 hT18 t19_0 hT19 t20_0 t20_1 hT20 t21_0 hT21 ⟨trivial, hq.1⟩ sz) ?_ ?_
  · rintro u ⟨hI2, hun, u0_0, u0_1, u1_0, u2_0, u2_1, u3_0, u4_0, u4_1, u5_0, u6_0, u6_1, u7_0, u8_0, u8_1, u9_0, u10_0, u10_1, u11_0, u12_0, u12_1, u13_0, u14_0, u14_1, u15_0, u16_0, u16_1, u17_0, u20_0, u20_1, u21_0, hU0, hU1, hU2, hU3, hU4, hU5, hU6, hU7, hU8, hU9, hU10, hU11, hU12, hU13, hU14, hU15, hU16, hU17, hU18, hU19, hR⟩
    have hG := hR.2.2.2.2.2.2.2.2.2.2.2.2.2.2.2.2.2.2.2.2.2.2.2.2.2.2.2.2.2.2.2.2.2.2.2.2.2.2.2.2.2.2.2.2.2.2.2.2.2.2.2.2.2.2.2
    clear hR
    have hF := hG
    have hp := hq.2
    rw [← hF] at hp
    refine ⟨⟨hI2, ⟨fun i hi => ?_, fun i hi => ?_, ?_⟩, fun i hi => hun i (by simp only [List.mem_cons, List.not_mem_nil, or_false, not_or]; omega)⟩, ?_⟩
    · by_cases hk4 : i = i2
      · rw [hk4]; refine ⟨_, _, _, hU16, hU17, ?_⟩; first | exact ⟨_, hp.2, hBk4⟩
      · by_cases hk5 : i = i5
        · rw [hk5]; refine ⟨_, _, _, hU18, hU19, ?_⟩; first | exact hp.1
        · exact iW_fr (hC.1 i hi) (hun _ (by simp only [List.mem_cons, List.not_mem_nil, or_false, not_or]; omega)) (hun _ (by simp only [List.mem_cons, List.not_mem_nil, or_false, not_or]; omega))
    · exact iD_fr (hC.2.1 i hi) (hun _ (by simp only [List.mem_cons, List.not_mem_nil, or_false, not_or]; omega)) (hun _ (by simp only [List.mem_cons, List.not_mem_nil, or_false, not_or]; omega)) (hun _ (by simp only [List.mem_cons, List.not_mem_nil, or_false, not_or]; omega))
    · exact iO_fr hC.2.2 (hun _ (by simp only [List.mem_cons, List.not_mem_nil, or_false, not_or]; omega)) (hun _ (by simp only [List.mem_cons, List.not_mem_nil, or_false, not_or]; omega)) (hun _ (by simp only [List.mem_cons, List.not_mem_nil, or_false, not_or]; omega))
    · have fW : ∀ i, i < 10 → ¬ i = i2 → ¬ i = i5 → cWr g q u (66 + 5 * i) (zsW σ i) := fun i hi hk2 hk5 => cWr_fr (hS1 i hi) (hun _ (by simp only [List.mem_cons, List.not_mem_nil, or_false, not_or]; omega)) (hun _ (by simp only [List.mem_cons, List.not_mem_nil, or_false, not_or]; omega))
      have fD : ∀ i, i < 10 → cDr g q u (68 + 5 * i) (zsD σ i) := fun i hi => cDr_fr (hS2 i hi) (hun _ (by simp only [List.mem_cons, List.not_mem_nil, or_false, not_or]; omega)) (hun _ (by simp only [List.mem_cons, List.not_mem_nil, or_false, not_or]; omega)) (hun _ (by simp only [List.mem_cons, List.not_mem_nil, or_false, not_or]; omega))
      have fV : cFr g q u 7 (zsV σ) := (cFr_fr hS3 (hun _ (by simp only [List.mem_cons, List.not_mem_nil, or_false, not_or]; omega)))
      have fN : cFr g q u 8 (zsN σ) := (cFr_fr hS4 (hun _ (by simp only [List.mem_cons, List.not_mem_nil, or_false, not_or]; omega)))
      have fT : cTp g q u (zsL σ) (zsB σ) := (cTp_fr hS5 (hun _ (by simp only [List.mem_cons, List.not_mem_nil, or_false, not_or]; omega)) (hun _ (by simp only [List.mem_cons, List.not_mem_nil, or_false, not_or]; omega)))
      have fP : cPp g q u (zsP σ) := (cPp_fr hS6 (hun _ (by simp only [List.mem_cons, List.not_mem_nil, or_false, not_or]; omega)) (hun _ (by simp only [List.mem_cons, List.not_mem_nil, or_false, not_or]; omega)))
      have fA : cAr g q u (zsA σ) := (cAr_fr hS7 (fun i _ _ => (hun _ (by simp only [List.mem_cons, List.not_mem_nil, or_false, not_or]; omega))) (fun i _ _ => (hun _ (by simp only [List.mem_cons, List.not_mem_nil, or_false, not_or]; omega))))
      by_cases ok : (yReg x2 ∧ yReg x3 ∧ yReg x4 ∧ yReg x5)
      · have e22 := e2 (x_reg ok.1)
        have e33 := e3 (x_reg ok.2.1)
        have e44 := e4 (x_reg ok.2.2.1)
        have e55 := e5 (x_reg ok.2.2.2)
        have hv := V_powerModulo_a (x2 := x2) (x3 := x3) (x4 := x4) (x5 := x5) (t0_0 := t0_0) (t0_1 := t0_1) (t1_0 := t1_0) (t2_0 := t2_0) (t2_1 := t2_1) (t3_0 := t3_0) (t4_0 := t4_0) (t4_1 := t4_1) (t5_0 := t5_0) (t6_0 := t6_0) (t6_1 := t6_1) (t7_0 := t7_0) (t8_0 := t8_0) (t8_1 := t8_1) (t9_0 := t9_0) (t10_0 := t10_0) (t10_1 := t10_1) (t11_0 := t11_0) (t12_0 := t12_0) (t12_1 := t12_1) (t13_0 := t13_0) (t14_0 := t14_0) (t14_1 := t14_1) (t15_0 := t15_0) (t16_0 := t16_0) (t16_1 := t16_1) (t17_0 := t17_0) (t18_0 := t18_0) (t18_1 := t18_1) (t19_0 := t19_0) (t20_0 := t20_0) (t20_1 := t20_1) (t21_0 := t21_0) gw3 gw2 hB2 gw5 (y_isRn ok.1) (y_isRn ok.2.1) (y_isRn ok.2.2.1) (y_isRn ok.2.2.2)
        rw [← hG] at hv
        obtain ⟨hv, hb⟩ := hv
        rcases hv with ⟨v, o1, o2, z, o3⟩ | ⟨o1, z, o3⟩
        · refine ⟨(updW (zsW σ) x5.toNatClampNeg v, zsD σ, zsV σ, zsN σ, zsL σ, zsB σ, zsP σ, zsA σ), Or.inr ⟨ok, Or.inl ⟨v, by rw [← e22, ← e33, ← e44]; exact o1, o2, rfl, rfl⟩⟩, ?_⟩
          refine ⟨(fun i hi => ?_), fD, fV, fN, fT, fP, fA⟩
          · show cWr g q u (66 + 5 * i) (updW (zsW σ) x5.toNatClampNeg v i)
            unfold updW
            by_cases hk2 : i = i2
            · rw [if_neg (by omega), hk2]; exact ⟨_, _, _, hU16, hU17, hb⟩
            · by_cases hk5 : i = i5
              · rw [if_pos (by omega), hk5]; exact ⟨_, _, _, hU18, hU19, o3⟩
              · rw [if_neg (by omega)]; exact fW i hi hk2 hk5
        · exact absurd (show (0 : Int32) = 2 from z) (by decide)
      · have hv := y_no_powerModulo_a (x2 := x2) (x3 := x3) (x4 := x4) (x5 := x5) (t0_0 := t0_0) (t0_1 := t0_1) (t1_0 := t1_0) (t2_0 := t2_0) (t2_1 := t2_1) (t3_0 := t3_0) (t4_0 := t4_0) (t4_1 := t4_1) (t5_0 := t5_0) (t6_0 := t6_0) (t6_1 := t6_1) (t7_0 := t7_0) (t8_0 := t8_0) (t8_1 := t8_1) (t9_0 := t9_0) (t10_0 := t10_0) (t10_1 := t10_1) (t11_0 := t11_0) (t12_0 := t12_0) (t12_1 := t12_1) (t13_0 := t13_0) (t14_0 := t14_0) (t14_1 := t14_1) (t15_0 := t15_0) (t16_0 := t16_0) (t16_1 := t16_1) (t17_0 := t17_0) (t18_0 := t18_0) (t18_1 := t18_1) (t19_0 := t19_0) (t20_0 := t20_0) (t20_1 := t20_1) (t21_0 := t21_0) ok
        rw [← hG] at hv
        obtain ⟨z, eT0, eT1, eT2, eB0, eB1, eB2⟩ := hv
        exact absurd (show (0 : Int32) = 1 from z) (by decide)
  · rintro E u ⟨c, hE, hc, hI2, hun, u0_0, u0_1, u1_0, u2_0, u2_1, u3_0, u4_0, u4_1, u5_0, u6_0, u6_1, u7_0, u8_0, u8_1, u9_0, u10_0, u10_1, u11_0, u12_0, u12_1, u13_0, u14_0, u14_1, u15_0, u16_0, u16_1, u17_0, u20_0, u20_1, u21_0, hU0, hU1, hU2, hU3, hU4, hU5, hU6, hU7, hU8, hU9, hU10, hU11, hU12, hU13, hU14, hU15, hU16, hU17, hU18, hU19, hF⟩
    have hp := hq.2
    rw [← hF] at hp
    have hk := K_NH_powerModulo_a (x2 := x2) (x3 := x3) (x4 := x4) (x5 := x5) (t0_0 := t0_0) (t0_1 := t0_1) (t1_0 := t1_0) (t2_0 := t2_0) (t2_1 := t2_1) (t3_0 := t3_0) (t4_0 := t4_0) (t4_1 := t4_1) (t5_0 := t5_0) (t6_0 := t6_0) (t6_1 := t6_1) (t7_0 := t7_0) (t8_0 := t8_0) (t8_1 := t8_1) (t9_0 := t9_0) (t10_0 := t10_0) (t10_1 := t10_1) (t11_0 := t11_0) (t12_0 := t12_0) (t12_1 := t12_1) (t13_0 := t13_0) (t14_0 := t14_0) (t14_1 := t14_1) (t15_0 := t15_0) (t16_0 := t16_0) (t16_1 := t16_1) (t17_0 := t17_0) (t18_0 := t18_0) (t18_1 := t18_1) (t19_0 := t19_0) (t20_0 := t20_0) (t20_1 := t20_1) (t21_0 := t21_0)
    rw [← hF] at hk
    replace hk : kC12 c := hk
    refine ⟨c, hE, hk.resolve_left hc, ⟨hI2, ⟨fun i hi => ?_, fun i hi => ?_, ?_⟩, fun i hi => hun i (by simp only [List.mem_cons, List.not_mem_nil, or_false, not_or]; omega)⟩, ?_⟩
    · by_cases hk4 : i = i2
      · rw [hk4]; refine ⟨_, _, _, hU16, hU17, ?_⟩; first | exact ⟨_, hp.2, hBk4⟩
      · by_cases hk5 : i = i5
        · rw [hk5]; refine ⟨_, _, _, hU18, hU19, ?_⟩; first | exact hp.1
        · exact iW_fr (hC.1 i hi) (hun _ (by simp only [List.mem_cons, List.not_mem_nil, or_false, not_or]; omega)) (hun _ (by simp only [List.mem_cons, List.not_mem_nil, or_false, not_or]; omega))
    · exact iD_fr (hC.2.1 i hi) (hun _ (by simp only [List.mem_cons, List.not_mem_nil, or_false, not_or]; omega)) (hun _ (by simp only [List.mem_cons, List.not_mem_nil, or_false, not_or]; omega)) (hun _ (by simp only [List.mem_cons, List.not_mem_nil, or_false, not_or]; omega))
    · exact iO_fr hC.2.2 (hun _ (by simp only [List.mem_cons, List.not_mem_nil, or_false, not_or]; omega)) (hun _ (by simp only [List.mem_cons, List.not_mem_nil, or_false, not_or]; omega)) (hun _ (by simp only [List.mem_cons, List.not_mem_nil, or_false, not_or]; omega))
    · have hG := hF
      have fW : ∀ i, i < 10 → ¬ i = i2 → ¬ i = i5 → cWr g q u (66 + 5 * i) (zsW σ i) := fun i hi hk2 hk5 => cWr_fr (hS1 i hi) (hun _ (by simp only [List.mem_cons, List.not_mem_nil, or_false, not_or]; omega)) (hun _ (by simp only [List.mem_cons, List.not_mem_nil, or_false, not_or]; omega))
      have fD : ∀ i, i < 10 → cDr g q u (68 + 5 * i) (zsD σ i) := fun i hi => cDr_fr (hS2 i hi) (hun _ (by simp only [List.mem_cons, List.not_mem_nil, or_false, not_or]; omega)) (hun _ (by simp only [List.mem_cons, List.not_mem_nil, or_false, not_or]; omega)) (hun _ (by simp only [List.mem_cons, List.not_mem_nil, or_false, not_or]; omega))
      have fV : cFr g q u 7 (zsV σ) := (cFr_fr hS3 (hun _ (by simp only [List.mem_cons, List.not_mem_nil, or_false, not_or]; omega)))
      have fN : cFr g q u 8 (zsN σ) := (cFr_fr hS4 (hun _ (by simp only [List.mem_cons, List.not_mem_nil, or_false, not_or]; omega)))
      have fT : cTp g q u (zsL σ) (zsB σ) := (cTp_fr hS5 (hun _ (by simp only [List.mem_cons, List.not_mem_nil, or_false, not_or]; omega)) (hun _ (by simp only [List.mem_cons, List.not_mem_nil, or_false, not_or]; omega)))
      have fP : cPp g q u (zsP σ) := (cPp_fr hS6 (hun _ (by simp only [List.mem_cons, List.not_mem_nil, or_false, not_or]; omega)) (hun _ (by simp only [List.mem_cons, List.not_mem_nil, or_false, not_or]; omega)))
      have fA : cAr g q u (zsA σ) := (cAr_fr hS7 (fun i _ _ => (hun _ (by simp only [List.mem_cons, List.not_mem_nil, or_false, not_or]; omega))) (fun i _ _ => (hun _ (by simp only [List.mem_cons, List.not_mem_nil, or_false, not_or]; omega))))
      by_cases ok : (yReg x2 ∧ yReg x3 ∧ yReg x4 ∧ yReg x5)
      · have e22 := e2 (x_reg ok.1)
        have e33 := e3 (x_reg ok.2.1)
        have e44 := e4 (x_reg ok.2.2.1)
        have e55 := e5 (x_reg ok.2.2.2)
        have hv := V_powerModulo_a (x2 := x2) (x3 := x3) (x4 := x4) (x5 := x5) (t0_0 := t0_0) (t0_1 := t0_1) (t1_0 := t1_0) (t2_0 := t2_0) (t2_1 := t2_1) (t3_0 := t3_0) (t4_0 := t4_0) (t4_1 := t4_1) (t5_0 := t5_0) (t6_0 := t6_0) (t6_1 := t6_1) (t7_0 := t7_0) (t8_0 := t8_0) (t8_1 := t8_1) (t9_0 := t9_0) (t10_0 := t10_0) (t10_1 := t10_1) (t11_0 := t11_0) (t12_0 := t12_0) (t12_1 := t12_1) (t13_0 := t13_0) (t14_0 := t14_0) (t14_1 := t14_1) (t15_0 := t15_0) (t16_0 := t16_0) (t16_1 := t16_1) (t17_0 := t17_0) (t18_0 := t18_0) (t18_1 := t18_1) (t19_0 := t19_0) (t20_0 := t20_0) (t20_1 := t20_1) (t21_0 := t21_0) gw3 gw2 hB2 gw5 (y_isRn ok.1) (y_isRn ok.2.1) (y_isRn ok.2.2.1) (y_isRn ok.2.2.2)
        rw [← hG] at hv
        obtain ⟨hv, hb⟩ := hv
        rcases hv with ⟨v, o1, o2, z, o3⟩ | ⟨o1, z, o3⟩
        · exact absurd z hc
        · refine ⟨Or.inr ⟨ok, Or.inr ⟨by rw [← e22, ← e33, ← e44]; exact o1, z, rfl⟩⟩, ?_⟩
          refine ⟨(fun i hi => ?_), fD, fV, fN, fT, fP, fA⟩
          · by_cases hk2 : i = i2
            · rw [hk2]; exact ⟨_, _, _, hU16, hU17, hb⟩
            · by_cases hk5 : i = i5
              · rw [hk5]; exact ⟨_, _, _, hU18, hU19, o3⟩
              · exact fW i hi hk2 hk5
      · have hv := y_no_powerModulo_a (x2 := x2) (x3 := x3) (x4 := x4) (x5 := x5) (t0_0 := t0_0) (t0_1 := t0_1) (t1_0 := t1_0) (t2_0 := t2_0) (t2_1 := t2_1) (t3_0 := t3_0) (t4_0 := t4_0) (t4_1 := t4_1) (t5_0 := t5_0) (t6_0 := t6_0) (t6_1 := t6_1) (t7_0 := t7_0) (t8_0 := t8_0) (t8_1 := t8_1) (t9_0 := t9_0) (t10_0 := t10_0) (t10_1 := t10_1) (t11_0 := t11_0) (t12_0 := t12_0) (t12_1 := t12_1) (t13_0 := t13_0) (t14_0 := t14_0) (t14_1 := t14_1) (t15_0 := t15_0) (t16_0 := t16_0) (t16_1 := t16_1) (t17_0 := t17_0) (t18_0 := t18_0) (t18_1 := t18_1) (t19_0 := t19_0) (t20_0 := t20_0) (t20_1 := t20_1) (t21_0 := t21_0) ok
        rw [← hG] at hv
        obtain ⟨z, eT0, eT1, eT2, eB0, eB1, eB2⟩ := hv
        replace eT0 : u20_0 = t20_0 := eT0
        replace eT1 : u20_1 = t20_1 := eT1
        replace eT2 : u21_0 = t21_0 := eT2
        replace eB0 : u16_0 = t16_0 := eB0
        replace eB1 : u16_1 = t16_1 := eB1
        replace eB2 : u17_0 = t17_0 := eB2
        refine ⟨Or.inl ⟨ok, z, rfl⟩, ?_⟩
        refine ⟨(fun i hi => ?_), fD, fV, fN, fT, fP, fA⟩
        · by_cases hk2 : i = i2
          · rw [hk2]; exact ⟨_, _, _, hU16, hU17, (by rw [eB0, eB1, eB2]; exact gw2)⟩
          · by_cases hk5 : i = i5
            · rw [hk5]; exact ⟨_, _, _, hU18, hU19, (by rw [eT0, eT1, eT2]; exact gw5)⟩
            · exact fW i hi hk2 hk5
set_option maxRecDepth 100000 in
set_option maxHeartbeats 4000000 in
theorem CW_powerModulo_e (l : Launch) (D : va_G) (g : Nat → ClassId) (q : Nat → Nat) (ws : va_W) (x2 : Int32) (x3 : Int32) (x4 : Int32) (x5 : Int32) (i2 : Nat) (hi2 : i2 < 10) (i3 : Nat) (hi3 : i3 < 10) (i5 : Nat) (hi5 : i5 < 10) (e2 : x2.toNatClampNeg < 10 → i2 = x2.toNatClampNeg) (e3 : x3.toNatClampNeg < 10 → i3 = x3.toNatClampNeg) (e4 : x4.toNatClampNeg < 10 → i3 = x4.toNatClampNeg) (e5 : x5.toNatClampNeg < 10 → i5 = x5.toNatClampNeg) (nei2i3 : i2 ≠ i3) (nei5i3 : i5 ≠ i3) (hlt : l.stackTraces = false) (hI : q_I (nsh g q) q ws) (hC : iC g q ws) {σ : zSt} (hS : sC g q ws σ) (hk0 : zOk σ) : ∀ sz, q_Mx l y_NH_powerModulo prog_1_method_10_code 5 none 9 4 24 D g [.ref (q 0), .int x2, .int x3, .int x4, .int x5] ws sz (va_Qv (fun u => iP g q ws u ∧ ∃ σ2, rPm x2 x3 x4 x5 σ 0 σ2 ∧ sC g q u σ2) (q_B D g (va_A ws sz)) (va_A ws sz)) (fun E u => ∃ c : Int32, E = qE c ∧ (c = 1 ∨ c = 2) ∧ iP g q ws u ∧ rPm x2 x3 x4 x5 σ c σ ∧ sC g q u σ) := by
  intro sz
  obtain ⟨t0_0, t0_1, hT0, -⟩ := q_bigO hI (n_b10 g q)
  obtain ⟨t1_0, hT1, -⟩ := n_ai hI (n_s11 g q)
  obtain ⟨t2_0, t2_1, hT2, -⟩ := q_bigO hI (n_b12 g q)
  obtain ⟨t3_0, hT3, -⟩ := n_ai hI (n_s13 g q)
  obtain ⟨t4_0, t4_1, hT4, -⟩ := q_bigO hI (n_b14 g q)
  obtain ⟨t5_0, hT5, -⟩ := n_ai hI (n_s15 g q)
  obtain ⟨t6_0, t6_1, hT6, -⟩ := q_bigO hI (n_b18 g q)
  obtain ⟨t7_0, hT7, -⟩ := n_ai hI (n_s19 g q)
  obtain ⟨t8_0, t8_1, hT8, -⟩ := q_bigO hI (n_b22 g q)
  obtain ⟨t9_0, hT9, -⟩ := n_ai hI (n_s23 g q)
  obtain ⟨t10_0, t10_1, hT10, -⟩ := q_bigO hI (n_b24 g q)
  obtain ⟨t11_0, hT11, -⟩ := n_ai hI (n_s25 g q)
  obtain ⟨t12_0, t12_1, hT12, -⟩ := q_bigO hI (n_b26 g q)
  obtain ⟨t13_0, hT13, -⟩ := n_ai hI (n_s27 g q)
  obtain ⟨t14_0, t14_1, hT14, -⟩ := q_bigO hI (n_b28 g q)
  obtain ⟨t15_0, hT15, -⟩ := n_ai hI (n_s29 g q)
  obtain ⟨t16_0, t16_1, t17_0, hT16, hT17, vk2, hbk2, hBk2⟩ := hC.1 i2 hi2
  obtain ⟨t18_0, t18_1, t19_0, hT18, hT19, vk4, hbk4, hBk4⟩ := hC.1 i3 hi3
  obtain ⟨t20_0, t20_1, t21_0, hT20, hT21, vk5, hbk5, hBk5⟩ := hC.1 i5 hi5
  obtain ⟨hS1, hS2, hS3, hS4, hS5, hS6, hS7⟩ := hS
  obtain ⟨sw2, nw2, fw2, aw2, bw2, gw2⟩ := hS1 i2 hi2
  obtain ⟨rfl, rfl⟩ := x_b2 hT16 aw2
  obtain rfl := x_ri hT17 bw2
  obtain ⟨sw3, nw3, fw3, aw3, bw3, gw3⟩ := hS1 i3 hi3
  obtain ⟨rfl, rfl⟩ := x_b2 hT18 aw3
  obtain rfl := x_ri hT19 bw3
  obtain ⟨sw5, nw5, fw5, aw5, bw5, gw5⟩ := hS1 i5 hi5
  obtain ⟨rfl, rfl⟩ := x_b2 hT20 aw5
  obtain rfl := x_ri hT21 bw5
  have ev2 : vk2 = zsW σ i2 := hbk2.2.2.1.symm.trans gw2.2.2.1
  have hB2 := hBk2
  rw [ev2] at hB2
  have ev3 : vk4 = zsW σ i3 := hbk4.2.2.1.symm.trans gw3.2.2.1
  have hB3 := hBk4
  rw [ev3] at hB3
  have ev5 : vk5 = zsW σ i5 := hbk5.2.2.1.symm.trans gw5.2.2.1
  have hB5 := hBk5
  rw [ev5] at hB5
  have hq := T_powerModulo_e (x2 := x2) (x3 := x3) (x4 := x4) (x5 := x5) (t0_0 := t0_0) (t0_1 := t0_1) (t1_0 := t1_0) (t2_0 := t2_0) (t2_1 := t2_1) (t3_0 := t3_0) (t4_0 := t4_0) (t4_1 := t4_1) (t5_0 := t5_0) (t6_0 := t6_0) (t6_1 := t6_1) (t7_0 := t7_0) (t8_0 := t8_0) (t8_1 := t8_1) (t9_0 := t9_0) (t10_0 := t10_0) (t10_1 := t10_1) (t11_0 := t11_0) (t12_0 := t12_0) (t12_1 := t12_1) (t13_0 := t13_0) (t14_0 := t14_0) (t14_1 := t14_1) (t15_0 := t15_0) (t16_0 := t16_0) (t16_1 := t16_1) (t17_0 := t17_0) (t18_0 := t18_0) (t18_1 := t18_1) (t19_0 := t19_0) (t20_0 := t20_0) (t20_1 := t20_1) (t21_0 := t21_0) hbk2 hBk2 hbk4 hBk4 ⟨_, hbk5, hBk5⟩
  refine q_MxV (X_NH_powerModulo_e l D g q ws x2 x3 x4 x5 (66 + 5 * i2) (n_w g q hi2) (by omega) (fun h => by have z := e2 h; omega) (66 + 5 * i3) (n_w g q hi3) (by omega) (fun h => by have z := e3 h; omega) (fun h => by have z := e4 h; omega) (66 + 5 * i5) (n_w g q hi5) (by omega) (fun h => by have z := e5 h; omega) (by omega) (by omega) (by omega) (by omega) (by omega) (by omega) hlt hI t0_0 t0_1 hT0 t1_0 hT1 t2_0 t2_1 hT2 t3_0 hT3 t4_0 t4_1 hT4 t5_0 hT5 t6_0 t6_1 hT6 t7_0 hT7 t8_0 t8_1 hT8 t9_0 hT9 t10_0 t10_1 hT10 t11_0 hT11 t12_0 t12_1 hT12 t13_0 hT13 t14_0 t14_1 hT14 t15_0 hT15 t16_0 t16_1 hT16 t17_0 hT17 t18_0 t18_1 hT18 t19_0 hT19 t20_0 t20_1 hT20 t21_0 hT21 ⟨trivial, hq.1⟩ sz) ?_ ?_
  · rintro u ⟨hI2, hun, u0_0, u0_1, u1_0, u2_0, u2_1, u3_0, u4_0, u4_1, u5_0, u6_0, u6_1, u7_0, u8_0, u8_1, u9_0, u10_0, u10_1, u11_0, u12_0, u12_1, u13_0, u14_0, u14_1, u15_0, u18_0, u18_1, u19_0, u20_0, u20_1, u21_0, hU0, hU1, hU2, hU3, hU4, hU5, hU6, hU7, hU8, hU9, hU10, hU11, hU12, hU13, hU14, hU15, hU16, hU17, hU18, hU19, hR⟩
    have hG := hR.2.2.2.2.2.2.2.2.2.2.2.2.2.2.2.2.2.2.2.2.2.2.2.2.2.2.2.2.2.2.2.2.2.2.2.2.2.2.2.2.2.2.2.2.2.2.2.2.2.2.2.2.2.2.2.2.2
    clear hR
    have hF := hG
    have hp := hq.2
    rw [← hF] at hp
    refine ⟨⟨hI2, ⟨fun i hi => ?_, fun i hi => ?_, ?_⟩, fun i hi => hun i (by simp only [List.mem_cons, List.not_mem_nil, or_false, not_or]; omega)⟩, ?_⟩
    · by_cases hk4 : i = i3
      · rw [hk4]; refine ⟨_, _, _, hU16, hU17, ?_⟩; first | exact ⟨_, hp.2, hBk4⟩
      · by_cases hk5 : i = i5
        · rw [hk5]; refine ⟨_, _, _, hU18, hU19, ?_⟩; first | exact hp.1
        · exact iW_fr (hC.1 i hi) (hun _ (by simp only [List.mem_cons, List.not_mem_nil, or_false, not_or]; omega)) (hun _ (by simp only [List.mem_cons, List.not_mem_nil, or_false, not_or]; omega))
    · exact iD_fr (hC.2.1 i hi) (hun _ (by simp only [List.mem_cons, List.not_mem_nil, or_false, not_or]; omega)) (hun _ (by simp only [List.mem_cons, List.not_mem_nil, or_false, not_or]; omega)) (hun _ (by simp only [List.mem_cons, List.not_mem_nil, or_false, not_or]; omega))
    · exact iO_fr hC.2.2 (hun _ (by simp only [List.mem_cons, List.not_mem_nil, or_false, not_or]; omega)) (hun _ (by simp only [List.mem_cons, List.not_mem_nil, or_false, not_or]; omega)) (hun _ (by simp only [List.mem_cons, List.not_mem_nil, or_false, not_or]; omega))
    · have fW : ∀ i, i < 10 → ¬ i = i3 → ¬ i = i5 → cWr g q u (66 + 5 * i) (zsW σ i) := fun i hi hk3 hk5 => cWr_fr (hS1 i hi) (hun _ (by simp only [List.mem_cons, List.not_mem_nil, or_false, not_or]; omega)) (hun _ (by simp only [List.mem_cons, List.not_mem_nil, or_false, not_or]; omega))
      have fD : ∀ i, i < 10 → cDr g q u (68 + 5 * i) (zsD σ i) := fun i hi => cDr_fr (hS2 i hi) (hun _ (by simp only [List.mem_cons, List.not_mem_nil, or_false, not_or]; omega)) (hun _ (by simp only [List.mem_cons, List.not_mem_nil, or_false, not_or]; omega)) (hun _ (by simp only [List.mem_cons, List.not_mem_nil, or_false, not_or]; omega))
      have fV : cFr g q u 7 (zsV σ) := (cFr_fr hS3 (hun _ (by simp only [List.mem_cons, List.not_mem_nil, or_false, not_or]; omega)))
      have fN : cFr g q u 8 (zsN σ) := (cFr_fr hS4 (hun _ (by simp only [List.mem_cons, List.not_mem_nil, or_false, not_or]; omega)))
      have fT : cTp g q u (zsL σ) (zsB σ) := (cTp_fr hS5 (hun _ (by simp only [List.mem_cons, List.not_mem_nil, or_false, not_or]; omega)) (hun _ (by simp only [List.mem_cons, List.not_mem_nil, or_false, not_or]; omega)))
      have fP : cPp g q u (zsP σ) := (cPp_fr hS6 (hun _ (by simp only [List.mem_cons, List.not_mem_nil, or_false, not_or]; omega)) (hun _ (by simp only [List.mem_cons, List.not_mem_nil, or_false, not_or]; omega)))
      have fA : cAr g q u (zsA σ) := (cAr_fr hS7 (fun i _ _ => (hun _ (by simp only [List.mem_cons, List.not_mem_nil, or_false, not_or]; omega))) (fun i _ _ => (hun _ (by simp only [List.mem_cons, List.not_mem_nil, or_false, not_or]; omega))))
      by_cases ok : (yReg x2 ∧ yReg x3 ∧ yReg x4 ∧ yReg x5)
      · have e22 := e2 (x_reg ok.1)
        have e33 := e3 (x_reg ok.2.1)
        have e44 := e4 (x_reg ok.2.2.1)
        have e55 := e5 (x_reg ok.2.2.2)
        have hv := V_powerModulo_e (x2 := x2) (x3 := x3) (x4 := x4) (x5 := x5) (t0_0 := t0_0) (t0_1 := t0_1) (t1_0 := t1_0) (t2_0 := t2_0) (t2_1 := t2_1) (t3_0 := t3_0) (t4_0 := t4_0) (t4_1 := t4_1) (t5_0 := t5_0) (t6_0 := t6_0) (t6_1 := t6_1) (t7_0 := t7_0) (t8_0 := t8_0) (t8_1 := t8_1) (t9_0 := t9_0) (t10_0 := t10_0) (t10_1 := t10_1) (t11_0 := t11_0) (t12_0 := t12_0) (t12_1 := t12_1) (t13_0 := t13_0) (t14_0 := t14_0) (t14_1 := t14_1) (t15_0 := t15_0) (t16_0 := t16_0) (t16_1 := t16_1) (t17_0 := t17_0) (t18_0 := t18_0) (t18_1 := t18_1) (t19_0 := t19_0) (t20_0 := t20_0) (t20_1 := t20_1) (t21_0 := t21_0) gw2 hB2 gw3 hB3 gw5 (y_isRn ok.1) (y_isRn ok.2.1) (y_isRn ok.2.2.1) (y_isRn ok.2.2.2)
        rw [← hG] at hv
        obtain ⟨hv, hb⟩ := hv
        rcases hv with ⟨v, o1, o2, z, o3⟩ | ⟨o1, z, o3⟩
        · refine ⟨(updW (zsW σ) x5.toNatClampNeg v, zsD σ, zsV σ, zsN σ, zsL σ, zsB σ, zsP σ, zsA σ), Or.inr ⟨ok, Or.inl ⟨v, by rw [← e22, ← e33, ← e44]; exact o1, o2, rfl, rfl⟩⟩, ?_⟩
          refine ⟨(fun i hi => ?_), fD, fV, fN, fT, fP, fA⟩
          · show cWr g q u (66 + 5 * i) (updW (zsW σ) x5.toNatClampNeg v i)
            unfold updW
            by_cases hk3 : i = i3
            · rw [if_neg (by omega), hk3]; exact ⟨_, _, _, hU16, hU17, hb⟩
            · by_cases hk5 : i = i5
              · rw [if_pos (by omega), hk5]; exact ⟨_, _, _, hU18, hU19, o3⟩
              · rw [if_neg (by omega)]; exact fW i hi hk3 hk5
        · exact absurd (show (0 : Int32) = 2 from z) (by decide)
      · have hv := y_no_powerModulo_e (x2 := x2) (x3 := x3) (x4 := x4) (x5 := x5) (t0_0 := t0_0) (t0_1 := t0_1) (t1_0 := t1_0) (t2_0 := t2_0) (t2_1 := t2_1) (t3_0 := t3_0) (t4_0 := t4_0) (t4_1 := t4_1) (t5_0 := t5_0) (t6_0 := t6_0) (t6_1 := t6_1) (t7_0 := t7_0) (t8_0 := t8_0) (t8_1 := t8_1) (t9_0 := t9_0) (t10_0 := t10_0) (t10_1 := t10_1) (t11_0 := t11_0) (t12_0 := t12_0) (t12_1 := t12_1) (t13_0 := t13_0) (t14_0 := t14_0) (t14_1 := t14_1) (t15_0 := t15_0) (t16_0 := t16_0) (t16_1 := t16_1) (t17_0 := t17_0) (t18_0 := t18_0) (t18_1 := t18_1) (t19_0 := t19_0) (t20_0 := t20_0) (t20_1 := t20_1) (t21_0 := t21_0) ok
        rw [← hG] at hv
        obtain ⟨z, eT0, eT1, eT2, eB0, eB1, eB2⟩ := hv
        exact absurd (show (0 : Int32) = 1 from z) (by decide)
  · rintro E u ⟨c, hE, hc, hI2, hun, u0_0, u0_1, u1_0, u2_0, u2_1, u3_0, u4_0, u4_1, u5_0, u6_0, u6_1, u7_0, u8_0, u8_1, u9_0, u10_0, u10_1, u11_0, u12_0, u12_1, u13_0, u14_0, u14_1, u15_0, u18_0, u18_1, u19_0, u20_0, u20_1, u21_0, hU0, hU1, hU2, hU3, hU4, hU5, hU6, hU7, hU8, hU9, hU10, hU11, hU12, hU13, hU14, hU15, hU16, hU17, hU18, hU19, hF⟩
    have hp := hq.2
    rw [← hF] at hp
    have hk := K_NH_powerModulo_e (x2 := x2) (x3 := x3) (x4 := x4) (x5 := x5) (t0_0 := t0_0) (t0_1 := t0_1) (t1_0 := t1_0) (t2_0 := t2_0) (t2_1 := t2_1) (t3_0 := t3_0) (t4_0 := t4_0) (t4_1 := t4_1) (t5_0 := t5_0) (t6_0 := t6_0) (t6_1 := t6_1) (t7_0 := t7_0) (t8_0 := t8_0) (t8_1 := t8_1) (t9_0 := t9_0) (t10_0 := t10_0) (t10_1 := t10_1) (t11_0 := t11_0) (t12_0 := t12_0) (t12_1 := t12_1) (t13_0 := t13_0) (t14_0 := t14_0) (t14_1 := t14_1) (t15_0 := t15_0) (t16_0 := t16_0) (t16_1 := t16_1) (t17_0 := t17_0) (t18_0 := t18_0) (t18_1 := t18_1) (t19_0 := t19_0) (t20_0 := t20_0) (t20_1 := t20_1) (t21_0 := t21_0)
    rw [← hF] at hk
    replace hk : kC12 c := hk
    refine ⟨c, hE, hk.resolve_left hc, ⟨hI2, ⟨fun i hi => ?_, fun i hi => ?_, ?_⟩, fun i hi => hun i (by simp only [List.mem_cons, List.not_mem_nil, or_false, not_or]; omega)⟩, ?_⟩
    · by_cases hk4 : i = i3
      · rw [hk4]; refine ⟨_, _, _, hU16, hU17, ?_⟩; first | exact ⟨_, hp.2, hBk4⟩
      · by_cases hk5 : i = i5
        · rw [hk5]; refine ⟨_, _, _, hU18, hU19, ?_⟩; first | exact hp.1
        · exact iW_fr (hC.1 i hi) (hun _ (by simp only [List.mem_cons, List.not_mem_nil, or_false, not_or]; omega)) (hun _ (by simp only [List.mem_cons, List.not_mem_nil, or_false, not_or]; omega))
    · exact iD_fr (hC.2.1 i hi) (hun _ (by simp only [List.mem_cons, List.not_mem_nil, or_false, not_or]; omega)) (hun _ (by simp only [List.mem_cons, List.not_mem_nil, or_false, not_or]; omega)) (hun _ (by simp only [List.mem_cons, List.not_mem_nil, or_false, not_or]; omega))
    · exact iO_fr hC.2.2 (hun _ (by simp only [List.mem_cons, List.not_mem_nil, or_false, not_or]; omega)) (hun _ (by simp only [List.mem_cons, List.not_mem_nil, or_false, not_or]; omega)) (hun _ (by simp only [List.mem_cons, List.not_mem_nil, or_false, not_or]; omega))
    · have hG := hF
      have fW : ∀ i, i < 10 → ¬ i = i3 → ¬ i = i5 → cWr g q u (66 + 5 * i) (zsW σ i) := fun i hi hk3 hk5 => cWr_fr (hS1 i hi) (hun _ (by simp only [List.mem_cons, List.not_mem_nil, or_false, not_or]; omega)) (hun _ (by simp only [List.mem_cons, List.not_mem_nil, or_false, not_or]; omega))
      have fD : ∀ i, i < 10 → cDr g q u (68 + 5 * i) (zsD σ i) := fun i hi => cDr_fr (hS2 i hi) (hun _ (by simp only [List.mem_cons, List.not_mem_nil, or_false, not_or]; omega)) (hun _ (by simp only [List.mem_cons, List.not_mem_nil, or_false, not_or]; omega)) (hun _ (by simp only [List.mem_cons, List.not_mem_nil, or_false, not_or]; omega))
      have fV : cFr g q u 7 (zsV σ) := (cFr_fr hS3 (hun _ (by simp only [List.mem_cons, List.not_mem_nil, or_false, not_or]; omega)))
      have fN : cFr g q u 8 (zsN σ) := (cFr_fr hS4 (hun _ (by simp only [List.mem_cons, List.not_mem_nil, or_false, not_or]; omega)))
      have fT : cTp g q u (zsL σ) (zsB σ) := (cTp_fr hS5 (hun _ (by simp only [List.mem_cons, List.not_mem_nil, or_false, not_or]; omega)) (hun _ (by simp only [List.mem_cons, List.not_mem_nil, or_false, not_or]; omega)))
      have fP : cPp g q u (zsP σ) := (cPp_fr hS6 (hun _ (by simp only [List.mem_cons, List.not_mem_nil, or_false, not_or]; omega)) (hun _ (by simp only [List.mem_cons, List.not_mem_nil, or_false, not_or]; omega)))
      have fA : cAr g q u (zsA σ) := (cAr_fr hS7 (fun i _ _ => (hun _ (by simp only [List.mem_cons, List.not_mem_nil, or_false, not_or]; omega))) (fun i _ _ => (hun _ (by simp only [List.mem_cons, List.not_mem_nil, or_false, not_or]; omega))))
      by_cases ok : (yReg x2 ∧ yReg x3 ∧ yReg x4 ∧ yReg x5)
      · have e22 := e2 (x_reg ok.1)
        have e33 := e3 (x_reg ok.2.1)
        have e44 := e4 (x_reg ok.2.2.1)
        have e55 := e5 (x_reg ok.2.2.2)
        have hv := V_powerModulo_e (x2 := x2) (x3 := x3) (x4 := x4) (x5 := x5) (t0_0 := t0_0) (t0_1 := t0_1) (t1_0 := t1_0) (t2_0 := t2_0) (t2_1 := t2_1) (t3_0 := t3_0) (t4_0 := t4_0) (t4_1 := t4_1) (t5_0 := t5_0) (t6_0 := t6_0) (t6_1 := t6_1) (t7_0 := t7_0) (t8_0 := t8_0) (t8_1 := t8_1) (t9_0 := t9_0) (t10_0 := t10_0) (t10_1 := t10_1) (t11_0 := t11_0) (t12_0 := t12_0) (t12_1 := t12_1) (t13_0 := t13_0) (t14_0 := t14_0) (t14_1 := t14_1) (t15_0 := t15_0) (t16_0 := t16_0) (t16_1 := t16_1) (t17_0 := t17_0) (t18_0 := t18_0) (t18_1 := t18_1) (t19_0 := t19_0) (t20_0 := t20_0) (t20_1 := t20_1) (t21_0 := t21_0) gw2 hB2 gw3 hB3 gw5 (y_isRn ok.1) (y_isRn ok.2.1) (y_isRn ok.2.2.1) (y_isRn ok.2.2.2)
        rw [← hG] at hv
        obtain ⟨hv, hb⟩ := hv
        rcases hv with ⟨v, o1, o2, z, o3⟩ | ⟨o1, z, o3⟩
        · exact absurd z hc
        · refine ⟨Or.inr ⟨ok, Or.inr ⟨by rw [← e22, ← e33, ← e44]; exact o1, z, rfl⟩⟩, ?_⟩
          refine ⟨(fun i hi => ?_), fD, fV, fN, fT, fP, fA⟩
          · by_cases hk3 : i = i3
            · rw [hk3]; exact ⟨_, _, _, hU16, hU17, hb⟩
            · by_cases hk5 : i = i5
              · rw [hk5]; exact ⟨_, _, _, hU18, hU19, o3⟩
              · exact fW i hi hk3 hk5
      · have hv := y_no_powerModulo_e (x2 := x2) (x3 := x3) (x4 := x4) (x5 := x5) (t0_0 := t0_0) (t0_1 := t0_1) (t1_0 := t1_0) (t2_0 := t2_0) (t2_1 := t2_1) (t3_0 := t3_0) (t4_0 := t4_0) (t4_1 := t4_1) (t5_0 := t5_0) (t6_0 := t6_0) (t6_1 := t6_1) (t7_0 := t7_0) (t8_0 := t8_0) (t8_1 := t8_1) (t9_0 := t9_0) (t10_0 := t10_0) (t10_1 := t10_1) (t11_0 := t11_0) (t12_0 := t12_0) (t12_1 := t12_1) (t13_0 := t13_0) (t14_0 := t14_0) (t14_1 := t14_1) (t15_0 := t15_0) (t16_0 := t16_0) (t16_1 := t16_1) (t17_0 := t17_0) (t18_0 := t18_0) (t18_1 := t18_1) (t19_0 := t19_0) (t20_0 := t20_0) (t20_1 := t20_1) (t21_0 := t21_0) ok
        rw [← hG] at hv
        obtain ⟨z, eT0, eT1, eT2, eB0, eB1, eB2⟩ := hv
        replace eT0 : u20_0 = t20_0 := eT0
        replace eT1 : u20_1 = t20_1 := eT1
        replace eT2 : u21_0 = t21_0 := eT2
        replace eB0 : u18_0 = t18_0 := eB0
        replace eB1 : u18_1 = t18_1 := eB1
        replace eB2 : u19_0 = t19_0 := eB2
        refine ⟨Or.inl ⟨ok, z, rfl⟩, ?_⟩
        refine ⟨(fun i hi => ?_), fD, fV, fN, fT, fP, fA⟩
        · by_cases hk3 : i = i3
          · rw [hk3]; exact ⟨_, _, _, hU16, hU17, (by rw [eB0, eB1, eB2]; exact gw3)⟩
          · by_cases hk5 : i = i5
            · rw [hk5]; exact ⟨_, _, _, hU18, hU19, (by rw [eT0, eT1, eT2]; exact gw5)⟩
            · exact fW i hi hk3 hk5
set_option maxRecDepth 100000 in
set_option maxHeartbeats 4000000 in
theorem CW_powerModulo_ae (l : Launch) (D : va_G) (g : Nat → ClassId) (q : Nat → Nat) (ws : va_W) (x2 : Int32) (x3 : Int32) (x4 : Int32) (x5 : Int32) (i2 : Nat) (hi2 : i2 < 10) (i5 : Nat) (hi5 : i5 < 10) (e2 : x2.toNatClampNeg < 10 → i2 = x2.toNatClampNeg) (e3 : x3.toNatClampNeg < 10 → i2 = x3.toNatClampNeg) (e4 : x4.toNatClampNeg < 10 → i2 = x4.toNatClampNeg) (e5 : x5.toNatClampNeg < 10 → i5 = x5.toNatClampNeg) (nei5i2 : i5 ≠ i2) (hlt : l.stackTraces = false) (hI : q_I (nsh g q) q ws) (hC : iC g q ws) {σ : zSt} (hS : sC g q ws σ) (hk0 : zOk σ) : ∀ sz, q_Mx l y_NH_powerModulo prog_1_method_10_code 5 none 9 4 24 D g [.ref (q 0), .int x2, .int x3, .int x4, .int x5] ws sz (va_Qv (fun u => iP g q ws u ∧ ∃ σ2, rPm x2 x3 x4 x5 σ 0 σ2 ∧ sC g q u σ2) (q_B D g (va_A ws sz)) (va_A ws sz)) (fun E u => ∃ c : Int32, E = qE c ∧ (c = 1 ∨ c = 2) ∧ iP g q ws u ∧ rPm x2 x3 x4 x5 σ c σ ∧ sC g q u σ) := by
  intro sz
  obtain ⟨t0_0, t0_1, hT0, -⟩ := q_bigO hI (n_b10 g q)
  obtain ⟨t1_0, hT1, -⟩ := n_ai hI (n_s11 g q)
  obtain ⟨t2_0, t2_1, hT2, -⟩ := q_bigO hI (n_b12 g q)
  obtain ⟨t3_0, hT3, -⟩ := n_ai hI (n_s13 g q)
  obtain ⟨t4_0, t4_1, hT4, -⟩ := q_bigO hI (n_b14 g q)
  obtain ⟨t5_0, hT5, -⟩ := n_ai hI (n_s15 g q)
  obtain ⟨t6_0, t6_1, hT6, -⟩ := q_bigO hI (n_b18 g q)
  obtain ⟨t7_0, hT7, -⟩ := n_ai hI (n_s19 g q)
  obtain ⟨t8_0, t8_1, hT8, -⟩ := q_bigO hI (n_b22 g q)
  obtain ⟨t9_0, hT9, -⟩ := n_ai hI (n_s23 g q)
  obtain ⟨t10_0, t10_1, hT10, -⟩ := q_bigO hI (n_b24 g q)
  obtain ⟨t11_0, hT11, -⟩ := n_ai hI (n_s25 g q)
  obtain ⟨t12_0, t12_1, hT12, -⟩ := q_bigO hI (n_b26 g q)
  obtain ⟨t13_0, hT13, -⟩ := n_ai hI (n_s27 g q)
  obtain ⟨t14_0, t14_1, hT14, -⟩ := q_bigO hI (n_b28 g q)
  obtain ⟨t15_0, hT15, -⟩ := n_ai hI (n_s29 g q)
  obtain ⟨t16_0, t16_1, t17_0, hT16, hT17, vk4, hbk4, hBk4⟩ := hC.1 i2 hi2
  obtain ⟨t18_0, t18_1, t19_0, hT18, hT19, vk5, hbk5, hBk5⟩ := hC.1 i5 hi5
  obtain ⟨hS1, hS2, hS3, hS4, hS5, hS6, hS7⟩ := hS
  obtain ⟨sw2, nw2, fw2, aw2, bw2, gw2⟩ := hS1 i2 hi2
  obtain ⟨rfl, rfl⟩ := x_b2 hT16 aw2
  obtain rfl := x_ri hT17 bw2
  obtain ⟨sw5, nw5, fw5, aw5, bw5, gw5⟩ := hS1 i5 hi5
  obtain ⟨rfl, rfl⟩ := x_b2 hT18 aw5
  obtain rfl := x_ri hT19 bw5
  have ev2 : vk4 = zsW σ i2 := hbk4.2.2.1.symm.trans gw2.2.2.1
  have hB2 := hBk4
  rw [ev2] at hB2
  have ev5 : vk5 = zsW σ i5 := hbk5.2.2.1.symm.trans gw5.2.2.1
  have hB5 := hBk5
  rw [ev5] at hB5
  have hq := T_powerModulo_ae (x2 := x2) (x3 := x3) (x4 := x4) (x5 := x5) (t0_0 := t0_0) (t0_1 := t0_1) (t1_0 := t1_0) (t2_0 := t2_0) (t2_1 := t2_1) (t3_0 := t3_0) (t4_0 := t4_0) (t4_1 := t4_1) (t5_0 := t5_0) (t6_0 := t6_0) (t6_1 := t6_1) (t7_0 := t7_0) (t8_0 := t8_0) (t8_1 := t8_1) (t9_0 := t9_0) (t10_0 := t10_0) (t10_1 := t10_1) (t11_0 := t11_0) (t12_0 := t12_0) (t12_1 := t12_1) (t13_0 := t13_0) (t14_0 := t14_0) (t14_1 := t14_1) (t15_0 := t15_0) (t16_0 := t16_0) (t16_1 := t16_1) (t17_0 := t17_0) (t18_0 := t18_0) (t18_1 := t18_1) (t19_0 := t19_0) hbk4 hBk4 ⟨_, hbk5, hBk5⟩
  refine q_MxV (X_NH_powerModulo_ae l D g q ws x2 x3 x4 x5 (66 + 5 * i2) (n_w g q hi2) (by omega) (fun h => by have z := e2 h; omega) (fun h => by have z := e3 h; omega) (fun h => by have z := e4 h; omega) (66 + 5 * i5) (n_w g q hi5) (by omega) (fun h => by have z := e5 h; omega) (by omega) (by omega) (by omega) hlt hI t0_0 t0_1 hT0 t1_0 hT1 t2_0 t2_1 hT2 t3_0 hT3 t4_0 t4_1 hT4 t5_0 hT5 t6_0 t6_1 hT6 t7_0 hT7 t8_0 t8_1 hT8 t9_0 hT9 t10_0 t10_1 hT10 t11_0 hT11 t12_0 t12_1 hT12 t13_0 hT13 t14_0 t14_1 hT14 t15_0 hT15 t16_0 t16_1 hT16 t17_0 hT17 t18_0 t18_1 hT18 t19_0 hT19 ⟨trivial, hq.1⟩ sz) ?_ ?_
  · rintro u ⟨hI2, hun, u0_0, u0_1, u1_0, u2_0, u2_1, u3_0, u4_0, u4_1, u5_0, u6_0, u6_1, u7_0, u8_0, u8_1, u9_0, u10_0, u10_1, u11_0, u12_0, u12_1, u13_0, u14_0, u14_1, u15_0, u16_0, u16_1, u17_0, u18_0, u18_1, u19_0, hU0, hU1, hU2, hU3, hU4, hU5, hU6, hU7, hU8, hU9, hU10, hU11, hU12, hU13, hU14, hU15, hU16, hU17, hU18, hU19, hR⟩
    have hG := hR.2.2.2.2.2.2.2.2.2.2.2.2.2.2.2.2.2.2.2.2.2.2.2.2.2.2.2.2.2.2.2.2.2.2.2.2.2.2.2.2.2.2.2.2.2.2.2.2.2.2.2.2.2.2.2
    clear hR
    have hF := hG
    have hp := hq.2
    rw [← hF] at hp
    refine ⟨⟨hI2, ⟨fun i hi => ?_, fun i hi => ?_, ?_⟩, fun i hi => hun i (by simp only [List.mem_cons, List.not_mem_nil, or_false, not_or]; omega)⟩, ?_⟩
    · by_cases hk4 : i = i2
      · rw [hk4]; refine ⟨_, _, _, hU16, hU17, ?_⟩; first | exact ⟨_, hp.2, hBk4⟩
      · by_cases hk5 : i = i5
        · rw [hk5]; refine ⟨_, _, _, hU18, hU19, ?_⟩; first | exact hp.1
        · exact iW_fr (hC.1 i hi) (hun _ (by simp only [List.mem_cons, List.not_mem_nil, or_false, not_or]; omega)) (hun _ (by simp only [List.mem_cons, List.not_mem_nil, or_false, not_or]; omega))
    · exact iD_fr (hC.2.1 i hi) (hun _ (by simp only [List.mem_cons, List.not_mem_nil, or_false, not_or]; omega)) (hun _ (by simp only [List.mem_cons, List.not_mem_nil, or_false, not_or]; omega)) (hun _ (by simp only [List.mem_cons, List.not_mem_nil, or_false, not_or]; omega))
    · exact iO_fr hC.2.2 (hun _ (by simp only [List.mem_cons, List.not_mem_nil, or_false, not_or]; omega)) (hun _ (by simp only [List.mem_cons, List.not_mem_nil, or_false, not_or]; omega)) (hun _ (by simp only [List.mem_cons, List.not_mem_nil, or_false, not_or]; omega))
    · have fW : ∀ i, i < 10 → ¬ i = i2 → ¬ i = i5 → cWr g q u (66 + 5 * i) (zsW σ i) := fun i hi hk2 hk5 => cWr_fr (hS1 i hi) (hun _ (by simp only [List.mem_cons, List.not_mem_nil, or_false, not_or]; omega)) (hun _ (by simp only [List.mem_cons, List.not_mem_nil, or_false, not_or]; omega))
      have fD : ∀ i, i < 10 → cDr g q u (68 + 5 * i) (zsD σ i) := fun i hi => cDr_fr (hS2 i hi) (hun _ (by simp only [List.mem_cons, List.not_mem_nil, or_false, not_or]; omega)) (hun _ (by simp only [List.mem_cons, List.not_mem_nil, or_false, not_or]; omega)) (hun _ (by simp only [List.mem_cons, List.not_mem_nil, or_false, not_or]; omega))
      have fV : cFr g q u 7 (zsV σ) := (cFr_fr hS3 (hun _ (by simp only [List.mem_cons, List.not_mem_nil, or_false, not_or]; omega)))
      have fN : cFr g q u 8 (zsN σ) := (cFr_fr hS4 (hun _ (by simp only [List.mem_cons, List.not_mem_nil, or_false, not_or]; omega)))
      have fT : cTp g q u (zsL σ) (zsB σ) := (cTp_fr hS5 (hun _ (by simp only [List.mem_cons, List.not_mem_nil, or_false, not_or]; omega)) (hun _ (by simp only [List.mem_cons, List.not_mem_nil, or_false, not_or]; omega)))
      have fP : cPp g q u (zsP σ) := (cPp_fr hS6 (hun _ (by simp only [List.mem_cons, List.not_mem_nil, or_false, not_or]; omega)) (hun _ (by simp only [List.mem_cons, List.not_mem_nil, or_false, not_or]; omega)))
      have fA : cAr g q u (zsA σ) := (cAr_fr hS7 (fun i _ _ => (hun _ (by simp only [List.mem_cons, List.not_mem_nil, or_false, not_or]; omega))) (fun i _ _ => (hun _ (by simp only [List.mem_cons, List.not_mem_nil, or_false, not_or]; omega))))
      by_cases ok : (yReg x2 ∧ yReg x3 ∧ yReg x4 ∧ yReg x5)
      · have e22 := e2 (x_reg ok.1)
        have e33 := e3 (x_reg ok.2.1)
        have e44 := e4 (x_reg ok.2.2.1)
        have e55 := e5 (x_reg ok.2.2.2)
        have hv := V_powerModulo_ae (x2 := x2) (x3 := x3) (x4 := x4) (x5 := x5) (t0_0 := t0_0) (t0_1 := t0_1) (t1_0 := t1_0) (t2_0 := t2_0) (t2_1 := t2_1) (t3_0 := t3_0) (t4_0 := t4_0) (t4_1 := t4_1) (t5_0 := t5_0) (t6_0 := t6_0) (t6_1 := t6_1) (t7_0 := t7_0) (t8_0 := t8_0) (t8_1 := t8_1) (t9_0 := t9_0) (t10_0 := t10_0) (t10_1 := t10_1) (t11_0 := t11_0) (t12_0 := t12_0) (t12_1 := t12_1) (t13_0 := t13_0) (t14_0 := t14_0) (t14_1 := t14_1) (t15_0 := t15_0) (t16_0 := t16_0) (t16_1 := t16_1) (t17_0 := t17_0) (t18_0 := t18_0) (t18_1 := t18_1) (t19_0 := t19_0) gw2 hB2 gw5 (y_isRn ok.1) (y_isRn ok.2.1) (y_isRn ok.2.2.1) (y_isRn ok.2.2.2)
        rw [← hG] at hv
        obtain ⟨hv, hb⟩ := hv
        rcases hv with ⟨v, o1, o2, z, o3⟩ | ⟨o1, z, o3⟩
        · refine ⟨(updW (zsW σ) x5.toNatClampNeg v, zsD σ, zsV σ, zsN σ, zsL σ, zsB σ, zsP σ, zsA σ), Or.inr ⟨ok, Or.inl ⟨v, by rw [← e22, ← e33, ← e44]; exact o1, o2, rfl, rfl⟩⟩, ?_⟩
          refine ⟨(fun i hi => ?_), fD, fV, fN, fT, fP, fA⟩
          · show cWr g q u (66 + 5 * i) (updW (zsW σ) x5.toNatClampNeg v i)
            unfold updW
            by_cases hk2 : i = i2
            · rw [if_neg (by omega), hk2]; exact ⟨_, _, _, hU16, hU17, hb⟩
            · by_cases hk5 : i = i5
              · rw [if_pos (by omega), hk5]; exact ⟨_, _, _, hU18, hU19, o3⟩
              · rw [if_neg (by omega)]; exact fW i hi hk2 hk5
        · exact absurd (show (0 : Int32) = 2 from z) (by decide)
      · have hv := y_no_powerModulo_ae (x2 := x2) (x3 := x3) (x4 := x4) (x5 := x5) (t0_0 := t0_0) (t0_1 := t0_1) (t1_0 := t1_0) (t2_0 := t2_0) (t2_1 := t2_1) (t3_0 := t3_0) (t4_0 := t4_0) (t4_1 := t4_1) (t5_0 := t5_0) (t6_0 := t6_0) (t6_1 := t6_1) (t7_0 := t7_0) (t8_0 := t8_0) (t8_1 := t8_1) (t9_0 := t9_0) (t10_0 := t10_0) (t10_1 := t10_1) (t11_0 := t11_0) (t12_0 := t12_0) (t12_1 := t12_1) (t13_0 := t13_0) (t14_0 := t14_0) (t14_1 := t14_1) (t15_0 := t15_0) (t16_0 := t16_0) (t16_1 := t16_1) (t17_0 := t17_0) (t18_0 := t18_0) (t18_1 := t18_1) (t19_0 := t19_0) ok
        rw [← hG] at hv
        obtain ⟨z, eT0, eT1, eT2, eB0, eB1, eB2⟩ := hv
        exact absurd (show (0 : Int32) = 1 from z) (by decide)
  · rintro E u ⟨c, hE, hc, hI2, hun, u0_0, u0_1, u1_0, u2_0, u2_1, u3_0, u4_0, u4_1, u5_0, u6_0, u6_1, u7_0, u8_0, u8_1, u9_0, u10_0, u10_1, u11_0, u12_0, u12_1, u13_0, u14_0, u14_1, u15_0, u16_0, u16_1, u17_0, u18_0, u18_1, u19_0, hU0, hU1, hU2, hU3, hU4, hU5, hU6, hU7, hU8, hU9, hU10, hU11, hU12, hU13, hU14, hU15, hU16, hU17, hU18, hU19, hF⟩
    have hp := hq.2
    rw [← hF] at hp
    have hk := K_NH_powerModulo_ae (x2 := x2) (x3 := x3) (x4 := x4) (x5 := x5) (t0_0 := t0_0) (t0_1 := t0_1) (t1_0 := t1_0) (t2_0 := t2_0) (t2_1 := t2_1) (t3_0 := t3_0) (t4_0 := t4_0) (t4_1 := t4_1) (t5_0 := t5_0) (t6_0 := t6_0) (t6_1 := t6_1) (t7_0 := t7_0) (t8_0 := t8_0) (t8_1 := t8_1) (t9_0 := t9_0) (t10_0 := t10_0) (t10_1 := t10_1) (t11_0 := t11_0) (t12_0 := t12_0) (t12_1 := t12_1) (t13_0 := t13_0) (t14_0 := t14_0) (t14_1 := t14_1) (t15_0 := t15_0) (t16_0 := t16_0) (t16_1 := t16_1) (t17_0 := t17_0) (t18_0 := t18_0) (t18_1 := t18_1) (t19_0 := t19_0)
    rw [← hF] at hk
    replace hk : kC12 c := hk
    refine ⟨c, hE, hk.resolve_left hc, ⟨hI2, ⟨fun i hi => ?_, fun i hi => ?_, ?_⟩, fun i hi => hun i (by simp only [List.mem_cons, List.not_mem_nil, or_false, not_or]; omega)⟩, ?_⟩
    · by_cases hk4 : i = i2
      · rw [hk4]; refine ⟨_, _, _, hU16, hU17, ?_⟩; first | exact ⟨_, hp.2, hBk4⟩
      · by_cases hk5 : i = i5
        · rw [hk5]; refine ⟨_, _, _, hU18, hU19, ?_⟩; first | exact hp.1
        · exact iW_fr (hC.1 i hi) (hun _ (by simp only [List.mem_cons, List.not_mem_nil, or_false, not_or]; omega)) (hun _ (by simp only [List.mem_cons, List.not_mem_nil, or_false, not_or]; omega))
    · exact iD_fr (hC.2.1 i hi) (hun _ (by simp only [List.mem_cons, List.not_mem_nil, or_false, not_or]; omega)) (hun _ (by simp only [List.mem_cons, List.not_mem_nil, or_false, not_or]; omega)) (hun _ (by simp only [List.mem_cons, List.not_mem_nil, or_false, not_or]; omega))
    · exact iO_fr hC.2.2 (hun _ (by simp only [List.mem_cons, List.not_mem_nil, or_false, not_or]; omega)) (hun _ (by simp only [List.mem_cons, List.not_mem_nil, or_false, not_or]; omega)) (hun _ (by simp only [List.mem_cons, List.not_mem_nil, or_false, not_or]; omega))
    · have hG := hF
      have fW : ∀ i, i < 10 → ¬ i = i2 → ¬ i = i5 → cWr g q u (66 + 5 * i) (zsW σ i) := fun i hi hk2 hk5 => cWr_fr (hS1 i hi) (hun _ (by simp only [List.mem_cons, List.not_mem_nil, or_false, not_or]; omega)) (hun _ (by simp only [List.mem_cons, List.not_mem_nil, or_false, not_or]; omega))
      have fD : ∀ i, i < 10 → cDr g q u (68 + 5 * i) (zsD σ i) := fun i hi => cDr_fr (hS2 i hi) (hun _ (by simp only [List.mem_cons, List.not_mem_nil, or_false, not_or]; omega)) (hun _ (by simp only [List.mem_cons, List.not_mem_nil, or_false, not_or]; omega)) (hun _ (by simp only [List.mem_cons, List.not_mem_nil, or_false, not_or]; omega))
      have fV : cFr g q u 7 (zsV σ) := (cFr_fr hS3 (hun _ (by simp only [List.mem_cons, List.not_mem_nil, or_false, not_or]; omega)))
      have fN : cFr g q u 8 (zsN σ) := (cFr_fr hS4 (hun _ (by simp only [List.mem_cons, List.not_mem_nil, or_false, not_or]; omega)))
      have fT : cTp g q u (zsL σ) (zsB σ) := (cTp_fr hS5 (hun _ (by simp only [List.mem_cons, List.not_mem_nil, or_false, not_or]; omega)) (hun _ (by simp only [List.mem_cons, List.not_mem_nil, or_false, not_or]; omega)))
      have fP : cPp g q u (zsP σ) := (cPp_fr hS6 (hun _ (by simp only [List.mem_cons, List.not_mem_nil, or_false, not_or]; omega)) (hun _ (by simp only [List.mem_cons, List.not_mem_nil, or_false, not_or]; omega)))
      have fA : cAr g q u (zsA σ) := (cAr_fr hS7 (fun i _ _ => (hun _ (by simp only [List.mem_cons, List.not_mem_nil, or_false, not_or]; omega))) (fun i _ _ => (hun _ (by simp only [List.mem_cons, List.not_mem_nil, or_false, not_or]; omega))))
      by_cases ok : (yReg x2 ∧ yReg x3 ∧ yReg x4 ∧ yReg x5)
      · have e22 := e2 (x_reg ok.1)
        have e33 := e3 (x_reg ok.2.1)
        have e44 := e4 (x_reg ok.2.2.1)
        have e55 := e5 (x_reg ok.2.2.2)
        have hv := V_powerModulo_ae (x2 := x2) (x3 := x3) (x4 := x4) (x5 := x5) (t0_0 := t0_0) (t0_1 := t0_1) (t1_0 := t1_0) (t2_0 := t2_0) (t2_1 := t2_1) (t3_0 := t3_0) (t4_0 := t4_0) (t4_1 := t4_1) (t5_0 := t5_0) (t6_0 := t6_0) (t6_1 := t6_1) (t7_0 := t7_0) (t8_0 := t8_0) (t8_1 := t8_1) (t9_0 := t9_0) (t10_0 := t10_0) (t10_1 := t10_1) (t11_0 := t11_0) (t12_0 := t12_0) (t12_1 := t12_1) (t13_0 := t13_0) (t14_0 := t14_0) (t14_1 := t14_1) (t15_0 := t15_0) (t16_0 := t16_0) (t16_1 := t16_1) (t17_0 := t17_0) (t18_0 := t18_0) (t18_1 := t18_1) (t19_0 := t19_0) gw2 hB2 gw5 (y_isRn ok.1) (y_isRn ok.2.1) (y_isRn ok.2.2.1) (y_isRn ok.2.2.2)
        rw [← hG] at hv
        obtain ⟨hv, hb⟩ := hv
        rcases hv with ⟨v, o1, o2, z, o3⟩ | ⟨o1, z, o3⟩
        · exact absurd z hc
        · refine ⟨Or.inr ⟨ok, Or.inr ⟨by rw [← e22, ← e33, ← e44]; exact o1, z, rfl⟩⟩, ?_⟩
          refine ⟨(fun i hi => ?_), fD, fV, fN, fT, fP, fA⟩
          · by_cases hk2 : i = i2
            · rw [hk2]; exact ⟨_, _, _, hU16, hU17, hb⟩
            · by_cases hk5 : i = i5
              · rw [hk5]; exact ⟨_, _, _, hU18, hU19, o3⟩
              · exact fW i hi hk2 hk5
      · have hv := y_no_powerModulo_ae (x2 := x2) (x3 := x3) (x4 := x4) (x5 := x5) (t0_0 := t0_0) (t0_1 := t0_1) (t1_0 := t1_0) (t2_0 := t2_0) (t2_1 := t2_1) (t3_0 := t3_0) (t4_0 := t4_0) (t4_1 := t4_1) (t5_0 := t5_0) (t6_0 := t6_0) (t6_1 := t6_1) (t7_0 := t7_0) (t8_0 := t8_0) (t8_1 := t8_1) (t9_0 := t9_0) (t10_0 := t10_0) (t10_1 := t10_1) (t11_0 := t11_0) (t12_0 := t12_0) (t12_1 := t12_1) (t13_0 := t13_0) (t14_0 := t14_0) (t14_1 := t14_1) (t15_0 := t15_0) (t16_0 := t16_0) (t16_1 := t16_1) (t17_0 := t17_0) (t18_0 := t18_0) (t18_1 := t18_1) (t19_0 := t19_0) ok
        rw [← hG] at hv
        obtain ⟨z, eT0, eT1, eT2, eB0, eB1, eB2⟩ := hv
        replace eT0 : u18_0 = t18_0 := eT0
        replace eT1 : u18_1 = t18_1 := eT1
        replace eT2 : u19_0 = t19_0 := eT2
        replace eB0 : u16_0 = t16_0 := eB0
        replace eB1 : u16_1 = t16_1 := eB1
        replace eB2 : u17_0 = t17_0 := eB2
        refine ⟨Or.inl ⟨ok, z, rfl⟩, ?_⟩
        refine ⟨(fun i hi => ?_), fD, fV, fN, fT, fP, fA⟩
        · by_cases hk2 : i = i2
          · rw [hk2]; exact ⟨_, _, _, hU16, hU17, (by rw [eB0, eB1, eB2]; exact gw2)⟩
          · by_cases hk5 : i = i5
            · rw [hk5]; exact ⟨_, _, _, hU18, hU19, (by rw [eT0, eT1, eT2]; exact gw5)⟩
            · exact fW i hi hk2 hk5
set_option maxRecDepth 100000 in
set_option maxHeartbeats 4000000 in
theorem CW_powerModulo_t (l : Launch) (D : va_G) (g : Nat → ClassId) (q : Nat → Nat) (ws : va_W) (x2 : Int32) (x3 : Int32) (x4 : Int32) (x5 : Int32) (i2 : Nat) (hi2 : i2 < 10) (i3 : Nat) (hi3 : i3 < 10) (i4 : Nat) (hi4 : i4 < 10) (e2 : x2.toNatClampNeg < 10 → i2 = x2.toNatClampNeg) (e3 : x3.toNatClampNeg < 10 → i3 = x3.toNatClampNeg) (e4 : x4.toNatClampNeg < 10 → i4 = x4.toNatClampNeg) (e5 : x5.toNatClampNeg < 10 → i4 = x5.toNatClampNeg) (nei2i4 : i2 ≠ i4) (nei3i4 : i3 ≠ i4) (hlt : l.stackTraces = false) (hI : q_I (nsh g q) q ws) (hC : iC g q ws) {σ : zSt} (hS : sC g q ws σ) (hk0 : zOk σ) : ∀ sz, q_Mx l y_NH_powerModulo prog_1_method_10_code 5 none 9 4 24 D g [.ref (q 0), .int x2, .int x3, .int x4, .int x5] ws sz (va_Qv (fun u => iP g q ws u ∧ ∃ σ2, rPm x2 x3 x4 x5 σ 0 σ2 ∧ sC g q u σ2) (q_B D g (va_A ws sz)) (va_A ws sz)) (fun E u => ∃ c : Int32, E = qE c ∧ (c = 1 ∨ c = 2) ∧ iP g q ws u ∧ rPm x2 x3 x4 x5 σ c σ ∧ sC g q u σ) := by
  intro sz
  obtain ⟨t0_0, t0_1, hT0, -⟩ := q_bigO hI (n_b10 g q)
  obtain ⟨t1_0, hT1, -⟩ := n_ai hI (n_s11 g q)
  obtain ⟨t2_0, t2_1, hT2, -⟩ := q_bigO hI (n_b12 g q)
  obtain ⟨t3_0, hT3, -⟩ := n_ai hI (n_s13 g q)
  obtain ⟨t4_0, t4_1, hT4, -⟩ := q_bigO hI (n_b14 g q)
  obtain ⟨t5_0, hT5, -⟩ := n_ai hI (n_s15 g q)
  obtain ⟨t6_0, t6_1, hT6, -⟩ := q_bigO hI (n_b18 g q)
  obtain ⟨t7_0, hT7, -⟩ := n_ai hI (n_s19 g q)
  obtain ⟨t8_0, t8_1, hT8, -⟩ := q_bigO hI (n_b22 g q)
  obtain ⟨t9_0, hT9, -⟩ := n_ai hI (n_s23 g q)
  obtain ⟨t10_0, t10_1, hT10, -⟩ := q_bigO hI (n_b24 g q)
  obtain ⟨t11_0, hT11, -⟩ := n_ai hI (n_s25 g q)
  obtain ⟨t12_0, t12_1, hT12, -⟩ := q_bigO hI (n_b26 g q)
  obtain ⟨t13_0, hT13, -⟩ := n_ai hI (n_s27 g q)
  obtain ⟨t14_0, t14_1, hT14, -⟩ := q_bigO hI (n_b28 g q)
  obtain ⟨t15_0, hT15, -⟩ := n_ai hI (n_s29 g q)
  obtain ⟨t16_0, t16_1, t17_0, hT16, hT17, vk2, hbk2, hBk2⟩ := hC.1 i2 hi2
  obtain ⟨t18_0, t18_1, t19_0, hT18, hT19, vk3, hbk3, hBk3⟩ := hC.1 i3 hi3
  obtain ⟨t20_0, t20_1, t21_0, hT20, hT21, vk4, hbk4, hBk4⟩ := hC.1 i4 hi4
  obtain ⟨hS1, hS2, hS3, hS4, hS5, hS6, hS7⟩ := hS
  obtain ⟨sw2, nw2, fw2, aw2, bw2, gw2⟩ := hS1 i2 hi2
  obtain ⟨rfl, rfl⟩ := x_b2 hT16 aw2
  obtain rfl := x_ri hT17 bw2
  obtain ⟨sw3, nw3, fw3, aw3, bw3, gw3⟩ := hS1 i3 hi3
  obtain ⟨rfl, rfl⟩ := x_b2 hT18 aw3
  obtain rfl := x_ri hT19 bw3
  obtain ⟨sw4, nw4, fw4, aw4, bw4, gw4⟩ := hS1 i4 hi4
  obtain ⟨rfl, rfl⟩ := x_b2 hT20 aw4
  obtain rfl := x_ri hT21 bw4
  have ev2 : vk2 = zsW σ i2 := hbk2.2.2.1.symm.trans gw2.2.2.1
  have hB2 := hBk2
  rw [ev2] at hB2
  have ev3 : vk3 = zsW σ i3 := hbk3.2.2.1.symm.trans gw3.2.2.1
  have hB3 := hBk3
  rw [ev3] at hB3
  have ev4 : vk4 = zsW σ i4 := hbk4.2.2.1.symm.trans gw4.2.2.1
  have hB4 := hBk4
  rw [ev4] at hB4
  have hq := T_powerModulo_t (x2 := x2) (x3 := x3) (x4 := x4) (x5 := x5) (t0_0 := t0_0) (t0_1 := t0_1) (t1_0 := t1_0) (t2_0 := t2_0) (t2_1 := t2_1) (t3_0 := t3_0) (t4_0 := t4_0) (t4_1 := t4_1) (t5_0 := t5_0) (t6_0 := t6_0) (t6_1 := t6_1) (t7_0 := t7_0) (t8_0 := t8_0) (t8_1 := t8_1) (t9_0 := t9_0) (t10_0 := t10_0) (t10_1 := t10_1) (t11_0 := t11_0) (t12_0 := t12_0) (t12_1 := t12_1) (t13_0 := t13_0) (t14_0 := t14_0) (t14_1 := t14_1) (t15_0 := t15_0) (t16_0 := t16_0) (t16_1 := t16_1) (t17_0 := t17_0) (t18_0 := t18_0) (t18_1 := t18_1) (t19_0 := t19_0) (t20_0 := t20_0) (t20_1 := t20_1) (t21_0 := t21_0) hbk2 hBk2 hbk3 hbk4 hBk4
  refine q_MxV (X_NH_powerModulo_t l D g q ws x2 x3 x4 x5 (66 + 5 * i2) (n_w g q hi2) (by omega) (fun h => by have z := e2 h; omega) (66 + 5 * i3) (n_w g q hi3) (by omega) (fun h => by have z := e3 h; omega) (66 + 5 * i4) (n_w g q hi4) (by omega) (fun h => by have z := e4 h; omega) (fun h => by have z := e5 h; omega) (by omega) (by omega) (by omega) (by omega) (by omega) (by omega) hlt hI t0_0 t0_1 hT0 t1_0 hT1 t2_0 t2_1 hT2 t3_0 hT3 t4_0 t4_1 hT4 t5_0 hT5 t6_0 t6_1 hT6 t7_0 hT7 t8_0 t8_1 hT8 t9_0 hT9 t10_0 t10_1 hT10 t11_0 hT11 t12_0 t12_1 hT12 t13_0 hT13 t14_0 t14_1 hT14 t15_0 hT15 t16_0 t16_1 hT16 t17_0 hT17 t18_0 t18_1 hT18 t19_0 hT19 t20_0 t20_1 hT20 t21_0 hT21 ⟨trivial, hq.1⟩ sz) ?_ ?_
  · rintro u ⟨hI2, hun, u0_0, u0_1, u1_0, u2_0, u2_1, u3_0, u4_0, u4_1, u5_0, u6_0, u6_1, u7_0, u8_0, u8_1, u9_0, u10_0, u10_1, u11_0, u12_0, u12_1, u13_0, u14_0, u14_1, u15_0, u20_0, u20_1, u21_0, hU0, hU1, hU2, hU3, hU4, hU5, hU6, hU7, hU8, hU9, hU10, hU11, hU12, hU13, hU14, hU15, hU16, hU17, hR⟩
    have hG := hR.2.2.2.2.2.2.2.2.2.2.2.2.2.2.2.2.2.2.2.2.2.2.2.2.2.2.2.2.2.2.2.2.2.2.2.2.2.2.2.2.2.2.2.2.2.2.2.2.2.2.2.2.2
    clear hR
    have hF := hG
    have hp := hq.2
    rw [← hF] at hp
    refine ⟨⟨hI2, ⟨fun i hi => ?_, fun i hi => ?_, ?_⟩, fun i hi => hun i (by simp only [List.mem_cons, List.not_mem_nil, or_false, not_or]; omega)⟩, ?_⟩
    · by_cases hk4 : i = i4
      · rw [hk4]; refine ⟨_, _, _, hU16, hU17, ?_⟩; first | exact hp
      · exact iW_fr (hC.1 i hi) (hun _ (by simp only [List.mem_cons, List.not_mem_nil, or_false, not_or]; omega)) (hun _ (by simp only [List.mem_cons, List.not_mem_nil, or_false, not_or]; omega))
    · exact iD_fr (hC.2.1 i hi) (hun _ (by simp only [List.mem_cons, List.not_mem_nil, or_false, not_or]; omega)) (hun _ (by simp only [List.mem_cons, List.not_mem_nil, or_false, not_or]; omega)) (hun _ (by simp only [List.mem_cons, List.not_mem_nil, or_false, not_or]; omega))
    · exact iO_fr hC.2.2 (hun _ (by simp only [List.mem_cons, List.not_mem_nil, or_false, not_or]; omega)) (hun _ (by simp only [List.mem_cons, List.not_mem_nil, or_false, not_or]; omega)) (hun _ (by simp only [List.mem_cons, List.not_mem_nil, or_false, not_or]; omega))
    · have fW : ∀ i, i < 10 → ¬ i = i4 → cWr g q u (66 + 5 * i) (zsW σ i) := fun i hi hk4 => cWr_fr (hS1 i hi) (hun _ (by simp only [List.mem_cons, List.not_mem_nil, or_false, not_or]; omega)) (hun _ (by simp only [List.mem_cons, List.not_mem_nil, or_false, not_or]; omega))
      have fD : ∀ i, i < 10 → cDr g q u (68 + 5 * i) (zsD σ i) := fun i hi => cDr_fr (hS2 i hi) (hun _ (by simp only [List.mem_cons, List.not_mem_nil, or_false, not_or]; omega)) (hun _ (by simp only [List.mem_cons, List.not_mem_nil, or_false, not_or]; omega)) (hun _ (by simp only [List.mem_cons, List.not_mem_nil, or_false, not_or]; omega))
      have fV : cFr g q u 7 (zsV σ) := (cFr_fr hS3 (hun _ (by simp only [List.mem_cons, List.not_mem_nil, or_false, not_or]; omega)))
      have fN : cFr g q u 8 (zsN σ) := (cFr_fr hS4 (hun _ (by simp only [List.mem_cons, List.not_mem_nil, or_false, not_or]; omega)))
      have fT : cTp g q u (zsL σ) (zsB σ) := (cTp_fr hS5 (hun _ (by simp only [List.mem_cons, List.not_mem_nil, or_false, not_or]; omega)) (hun _ (by simp only [List.mem_cons, List.not_mem_nil, or_false, not_or]; omega)))
      have fP : cPp g q u (zsP σ) := (cPp_fr hS6 (hun _ (by simp only [List.mem_cons, List.not_mem_nil, or_false, not_or]; omega)) (hun _ (by simp only [List.mem_cons, List.not_mem_nil, or_false, not_or]; omega)))
      have fA : cAr g q u (zsA σ) := (cAr_fr hS7 (fun i _ _ => (hun _ (by simp only [List.mem_cons, List.not_mem_nil, or_false, not_or]; omega))) (fun i _ _ => (hun _ (by simp only [List.mem_cons, List.not_mem_nil, or_false, not_or]; omega))))
      by_cases ok : (yReg x2 ∧ yReg x3 ∧ yReg x4 ∧ yReg x5)
      · have e22 := e2 (x_reg ok.1)
        have e33 := e3 (x_reg ok.2.1)
        have e44 := e4 (x_reg ok.2.2.1)
        have e55 := e5 (x_reg ok.2.2.2)
        have hv := V_powerModulo_t (x2 := x2) (x3 := x3) (x4 := x4) (x5 := x5) (t0_0 := t0_0) (t0_1 := t0_1) (t1_0 := t1_0) (t2_0 := t2_0) (t2_1 := t2_1) (t3_0 := t3_0) (t4_0 := t4_0) (t4_1 := t4_1) (t5_0 := t5_0) (t6_0 := t6_0) (t6_1 := t6_1) (t7_0 := t7_0) (t8_0 := t8_0) (t8_1 := t8_1) (t9_0 := t9_0) (t10_0 := t10_0) (t10_1 := t10_1) (t11_0 := t11_0) (t12_0 := t12_0) (t12_1 := t12_1) (t13_0 := t13_0) (t14_0 := t14_0) (t14_1 := t14_1) (t15_0 := t15_0) (t16_0 := t16_0) (t16_1 := t16_1) (t17_0 := t17_0) (t18_0 := t18_0) (t18_1 := t18_1) (t19_0 := t19_0) (t20_0 := t20_0) (t20_1 := t20_1) (t21_0 := t21_0) gw2 hB2 gw3 gw4 hB4 (y_isRn ok.1) (y_isRn ok.2.1) (y_isRn ok.2.2.1) (y_isRn ok.2.2.2)
        rw [← hG] at hv
        rcases hv with ⟨v, o1, o2, z, o3⟩ | ⟨o1, z, o3⟩
        · refine ⟨(updW (zsW σ) x5.toNatClampNeg v, zsD σ, zsV σ, zsN σ, zsL σ, zsB σ, zsP σ, zsA σ), Or.inr ⟨ok, Or.inl ⟨v, by rw [← e22, ← e33, ← e44]; exact o1, o2, rfl, rfl⟩⟩, ?_⟩
          refine ⟨(fun i hi => ?_), fD, fV, fN, fT, fP, fA⟩
          · show cWr g q u (66 + 5 * i) (updW (zsW σ) x5.toNatClampNeg v i)
            unfold updW
            by_cases hk4 : i = i4
            · rw [if_pos (by omega), hk4]; exact ⟨_, _, _, hU16, hU17, o3⟩
            · rw [if_neg (by omega)]; exact fW i hi hk4
        · exact absurd (show (0 : Int32) = 2 from z) (by decide)
      · have hv := y_no_powerModulo_t (x2 := x2) (x3 := x3) (x4 := x4) (x5 := x5) (t0_0 := t0_0) (t0_1 := t0_1) (t1_0 := t1_0) (t2_0 := t2_0) (t2_1 := t2_1) (t3_0 := t3_0) (t4_0 := t4_0) (t4_1 := t4_1) (t5_0 := t5_0) (t6_0 := t6_0) (t6_1 := t6_1) (t7_0 := t7_0) (t8_0 := t8_0) (t8_1 := t8_1) (t9_0 := t9_0) (t10_0 := t10_0) (t10_1 := t10_1) (t11_0 := t11_0) (t12_0 := t12_0) (t12_1 := t12_1) (t13_0 := t13_0) (t14_0 := t14_0) (t14_1 := t14_1) (t15_0 := t15_0) (t16_0 := t16_0) (t16_1 := t16_1) (t17_0 := t17_0) (t18_0 := t18_0) (t18_1 := t18_1) (t19_0 := t19_0) (t20_0 := t20_0) (t20_1 := t20_1) (t21_0 := t21_0) ok
        rw [← hG] at hv
        obtain ⟨z, eT0, eT1, eT2⟩ := hv
        exact absurd (show (0 : Int32) = 1 from z) (by decide)
  · rintro E u ⟨c, hE, hc, hI2, hun, u0_0, u0_1, u1_0, u2_0, u2_1, u3_0, u4_0, u4_1, u5_0, u6_0, u6_1, u7_0, u8_0, u8_1, u9_0, u10_0, u10_1, u11_0, u12_0, u12_1, u13_0, u14_0, u14_1, u15_0, u20_0, u20_1, u21_0, hU0, hU1, hU2, hU3, hU4, hU5, hU6, hU7, hU8, hU9, hU10, hU11, hU12, hU13, hU14, hU15, hU16, hU17, hF⟩
    have hp := hq.2
    rw [← hF] at hp
    have hk := K_NH_powerModulo_t (x2 := x2) (x3 := x3) (x4 := x4) (x5 := x5) (t0_0 := t0_0) (t0_1 := t0_1) (t1_0 := t1_0) (t2_0 := t2_0) (t2_1 := t2_1) (t3_0 := t3_0) (t4_0 := t4_0) (t4_1 := t4_1) (t5_0 := t5_0) (t6_0 := t6_0) (t6_1 := t6_1) (t7_0 := t7_0) (t8_0 := t8_0) (t8_1 := t8_1) (t9_0 := t9_0) (t10_0 := t10_0) (t10_1 := t10_1) (t11_0 := t11_0) (t12_0 := t12_0) (t12_1 := t12_1) (t13_0 := t13_0) (t14_0 := t14_0) (t14_1 := t14_1) (t15_0 := t15_0) (t16_0 := t16_0) (t16_1 := t16_1) (t17_0 := t17_0) (t18_0 := t18_0) (t18_1 := t18_1) (t19_0 := t19_0) (t20_0 := t20_0) (t20_1 := t20_1) (t21_0 := t21_0)
    rw [← hF] at hk
    replace hk : kC12 c := hk
    refine ⟨c, hE, hk.resolve_left hc, ⟨hI2, ⟨fun i hi => ?_, fun i hi => ?_, ?_⟩, fun i hi => hun i (by simp only [List.mem_cons, List.not_mem_nil, or_false, not_or]; omega)⟩, ?_⟩
    · by_cases hk4 : i = i4
      · rw [hk4]; refine ⟨_, _, _, hU16, hU17, ?_⟩; first | exact hp
      · exact iW_fr (hC.1 i hi) (hun _ (by simp only [List.mem_cons, List.not_mem_nil, or_false, not_or]; omega)) (hun _ (by simp only [List.mem_cons, List.not_mem_nil, or_false, not_or]; omega))
    · exact iD_fr (hC.2.1 i hi) (hun _ (by simp only [List.mem_cons, List.not_mem_nil, or_false, not_or]; omega)) (hun _ (by simp only [List.mem_cons, List.not_mem_nil, or_false, not_or]; omega)) (hun _ (by simp only [List.mem_cons, List.not_mem_nil, or_false, not_or]; omega))
    · exact iO_fr hC.2.2 (hun _ (by simp only [List.mem_cons, List.not_mem_nil, or_false, not_or]; omega)) (hun _ (by simp only [List.mem_cons, List.not_mem_nil, or_false, not_or]; omega)) (hun _ (by simp only [List.mem_cons, List.not_mem_nil, or_false, not_or]; omega))
    · have hG := hF
      have fW : ∀ i, i < 10 → ¬ i = i4 → cWr g q u (66 + 5 * i) (zsW σ i) := fun i hi hk4 => cWr_fr (hS1 i hi) (hun _ (by simp only [List.mem_cons, List.not_mem_nil, or_false, not_or]; omega)) (hun _ (by simp only [List.mem_cons, List.not_mem_nil, or_false, not_or]; omega))
      have fD : ∀ i, i < 10 → cDr g q u (68 + 5 * i) (zsD σ i) := fun i hi => cDr_fr (hS2 i hi) (hun _ (by simp only [List.mem_cons, List.not_mem_nil, or_false, not_or]; omega)) (hun _ (by simp only [List.mem_cons, List.not_mem_nil, or_false, not_or]; omega)) (hun _ (by simp only [List.mem_cons, List.not_mem_nil, or_false, not_or]; omega))
      have fV : cFr g q u 7 (zsV σ) := (cFr_fr hS3 (hun _ (by simp only [List.mem_cons, List.not_mem_nil, or_false, not_or]; omega)))
      have fN : cFr g q u 8 (zsN σ) := (cFr_fr hS4 (hun _ (by simp only [List.mem_cons, List.not_mem_nil, or_false, not_or]; omega)))
      have fT : cTp g q u (zsL σ) (zsB σ) := (cTp_fr hS5 (hun _ (by simp only [List.mem_cons, List.not_mem_nil, or_false, not_or]; omega)) (hun _ (by simp only [List.mem_cons, List.not_mem_nil, or_false, not_or]; omega)))
      have fP : cPp g q u (zsP σ) := (cPp_fr hS6 (hun _ (by simp only [List.mem_cons, List.not_mem_nil, or_false, not_or]; omega)) (hun _ (by simp only [List.mem_cons, List.not_mem_nil, or_false, not_or]; omega)))
      have fA : cAr g q u (zsA σ) := (cAr_fr hS7 (fun i _ _ => (hun _ (by simp only [List.mem_cons, List.not_mem_nil, or_false, not_or]; omega))) (fun i _ _ => (hun _ (by simp only [List.mem_cons, List.not_mem_nil, or_false, not_or]; omega))))
      by_cases ok : (yReg x2 ∧ yReg x3 ∧ yReg x4 ∧ yReg x5)
      · have e22 := e2 (x_reg ok.1)
        have e33 := e3 (x_reg ok.2.1)
        have e44 := e4 (x_reg ok.2.2.1)
        have e55 := e5 (x_reg ok.2.2.2)
        have hv := V_powerModulo_t (x2 := x2) (x3 := x3) (x4 := x4) (x5 := x5) (t0_0 := t0_0) (t0_1 := t0_1) (t1_0 := t1_0) (t2_0 := t2_0) (t2_1 := t2_1) (t3_0 := t3_0) (t4_0 := t4_0) (t4_1 := t4_1) (t5_0 := t5_0) (t6_0 := t6_0) (t6_1 := t6_1) (t7_0 := t7_0) (t8_0 := t8_0) (t8_1 := t8_1) (t9_0 := t9_0) (t10_0 := t10_0) (t10_1 := t10_1) (t11_0 := t11_0) (t12_0 := t12_0) (t12_1 := t12_1) (t13_0 := t13_0) (t14_0 := t14_0) (t14_1 := t14_1) (t15_0 := t15_0) (t16_0 := t16_0) (t16_1 := t16_1) (t17_0 := t17_0) (t18_0 := t18_0) (t18_1 := t18_1) (t19_0 := t19_0) (t20_0 := t20_0) (t20_1 := t20_1) (t21_0 := t21_0) gw2 hB2 gw3 gw4 hB4 (y_isRn ok.1) (y_isRn ok.2.1) (y_isRn ok.2.2.1) (y_isRn ok.2.2.2)
        rw [← hG] at hv
        rcases hv with ⟨v, o1, o2, z, o3⟩ | ⟨o1, z, o3⟩
        · exact absurd z hc
        · refine ⟨Or.inr ⟨ok, Or.inr ⟨by rw [← e22, ← e33, ← e44]; exact o1, z, rfl⟩⟩, ?_⟩
          refine ⟨(fun i hi => ?_), fD, fV, fN, fT, fP, fA⟩
          · by_cases hk4 : i = i4
            · rw [hk4]; exact ⟨_, _, _, hU16, hU17, o3⟩
            · exact fW i hi hk4
      · have hv := y_no_powerModulo_t (x2 := x2) (x3 := x3) (x4 := x4) (x5 := x5) (t0_0 := t0_0) (t0_1 := t0_1) (t1_0 := t1_0) (t2_0 := t2_0) (t2_1 := t2_1) (t3_0 := t3_0) (t4_0 := t4_0) (t4_1 := t4_1) (t5_0 := t5_0) (t6_0 := t6_0) (t6_1 := t6_1) (t7_0 := t7_0) (t8_0 := t8_0) (t8_1 := t8_1) (t9_0 := t9_0) (t10_0 := t10_0) (t10_1 := t10_1) (t11_0 := t11_0) (t12_0 := t12_0) (t12_1 := t12_1) (t13_0 := t13_0) (t14_0 := t14_0) (t14_1 := t14_1) (t15_0 := t15_0) (t16_0 := t16_0) (t16_1 := t16_1) (t17_0 := t17_0) (t18_0 := t18_0) (t18_1 := t18_1) (t19_0 := t19_0) (t20_0 := t20_0) (t20_1 := t20_1) (t21_0 := t21_0) ok
        rw [← hG] at hv
        obtain ⟨z, eT0, eT1, eT2⟩ := hv
        replace eT0 : u20_0 = t20_0 := eT0
        replace eT1 : u20_1 = t20_1 := eT1
        replace eT2 : u21_0 = t21_0 := eT2
        refine ⟨Or.inl ⟨ok, z, rfl⟩, ?_⟩
        refine ⟨(fun i hi => ?_), fD, fV, fN, fT, fP, fA⟩
        · by_cases hk4 : i = i4
          · rw [hk4]; exact ⟨_, _, _, hU16, hU17, (by rw [eT0, eT1, eT2]; exact gw4)⟩
          · exact fW i hi hk4
set_option maxRecDepth 100000 in
set_option maxHeartbeats 4000000 in
theorem CW_powerModulo_at (l : Launch) (D : va_G) (g : Nat → ClassId) (q : Nat → Nat) (ws : va_W) (x2 : Int32) (x3 : Int32) (x4 : Int32) (x5 : Int32) (i2 : Nat) (hi2 : i2 < 10) (i3 : Nat) (hi3 : i3 < 10) (e2 : x2.toNatClampNeg < 10 → i2 = x2.toNatClampNeg) (e3 : x3.toNatClampNeg < 10 → i3 = x3.toNatClampNeg) (e4 : x4.toNatClampNeg < 10 → i2 = x4.toNatClampNeg) (e5 : x5.toNatClampNeg < 10 → i2 = x5.toNatClampNeg) (nei3i2 : i3 ≠ i2) (hlt : l.stackTraces = false) (hI : q_I (nsh g q) q ws) (hC : iC g q ws) {σ : zSt} (hS : sC g q ws σ) (hk0 : zOk σ) : ∀ sz, q_Mx l y_NH_powerModulo prog_1_method_10_code 5 none 9 4 24 D g [.ref (q 0), .int x2, .int x3, .int x4, .int x5] ws sz (va_Qv (fun u => iP g q ws u ∧ ∃ σ2, rPm x2 x3 x4 x5 σ 0 σ2 ∧ sC g q u σ2) (q_B D g (va_A ws sz)) (va_A ws sz)) (fun E u => ∃ c : Int32, E = qE c ∧ (c = 1 ∨ c = 2) ∧ iP g q ws u ∧ rPm x2 x3 x4 x5 σ c σ ∧ sC g q u σ) := by
  intro sz
  obtain ⟨t0_0, t0_1, hT0, -⟩ := q_bigO hI (n_b10 g q)
  obtain ⟨t1_0, hT1, -⟩ := n_ai hI (n_s11 g q)
  obtain ⟨t2_0, t2_1, hT2, -⟩ := q_bigO hI (n_b12 g q)
  obtain ⟨t3_0, hT3, -⟩ := n_ai hI (n_s13 g q)
  obtain ⟨t4_0, t4_1, hT4, -⟩ := q_bigO hI (n_b14 g q)
  obtain ⟨t5_0, hT5, -⟩ := n_ai hI (n_s15 g q)
  obtain ⟨t6_0, t6_1, hT6, -⟩ := q_bigO hI (n_b18 g q)
  obtain ⟨t7_0, hT7, -⟩ := n_ai hI (n_s19 g q)
  obtain ⟨t8_0, t8_1, hT8, -⟩ := q_bigO hI (n_b22 g q)
  obtain ⟨t9_0, hT9, -⟩ := n_ai hI (n_s23 g q)
  obtain ⟨t10_0, t10_1, hT10, -⟩ := q_bigO hI (n_b24 g q)
  obtain ⟨t11_0, hT11, -⟩ := n_ai hI (n_s25 g q)
  obtain ⟨t12_0, t12_1, hT12, -⟩ := q_bigO hI (n_b26 g q)
  obtain ⟨t13_0, hT13, -⟩ := n_ai hI (n_s27 g q)
  obtain ⟨t14_0, t14_1, hT14, -⟩ := q_bigO hI (n_b28 g q)
  obtain ⟨t15_0, hT15, -⟩ := n_ai hI (n_s29 g q)
  obtain ⟨t16_0, t16_1, t17_0, hT16, hT17, vk4, hbk4, hBk4⟩ := hC.1 i2 hi2
  obtain ⟨t18_0, t18_1, t19_0, hT18, hT19, vk3, hbk3, hBk3⟩ := hC.1 i3 hi3
  obtain ⟨hS1, hS2, hS3, hS4, hS5, hS6, hS7⟩ := hS
  obtain ⟨sw2, nw2, fw2, aw2, bw2, gw2⟩ := hS1 i2 hi2
  obtain ⟨rfl, rfl⟩ := x_b2 hT16 aw2
  obtain rfl := x_ri hT17 bw2
  obtain ⟨sw3, nw3, fw3, aw3, bw3, gw3⟩ := hS1 i3 hi3
  obtain ⟨rfl, rfl⟩ := x_b2 hT18 aw3
  obtain rfl := x_ri hT19 bw3
  have ev2 : vk4 = zsW σ i2 := hbk4.2.2.1.symm.trans gw2.2.2.1
  have hB2 := hBk4
  rw [ev2] at hB2
  have ev3 : vk3 = zsW σ i3 := hbk3.2.2.1.symm.trans gw3.2.2.1
  have hB3 := hBk3
  rw [ev3] at hB3
  have hq := T_powerModulo_at (x2 := x2) (x3 := x3) (x4 := x4) (x5 := x5) (t0_0 := t0_0) (t0_1 := t0_1) (t1_0 := t1_0) (t2_0 := t2_0) (t2_1 := t2_1) (t3_0 := t3_0) (t4_0 := t4_0) (t4_1 := t4_1) (t5_0 := t5_0) (t6_0 := t6_0) (t6_1 := t6_1) (t7_0 := t7_0) (t8_0 := t8_0) (t8_1 := t8_1) (t9_0 := t9_0) (t10_0 := t10_0) (t10_1 := t10_1) (t11_0 := t11_0) (t12_0 := t12_0) (t12_1 := t12_1) (t13_0 := t13_0) (t14_0 := t14_0) (t14_1 := t14_1) (t15_0 := t15_0) (t16_0 := t16_0) (t16_1 := t16_1) (t17_0 := t17_0) (t18_0 := t18_0) (t18_1 := t18_1) (t19_0 := t19_0) hbk3 hbk4 hBk4
  refine q_MxV (X_NH_powerModulo_at l D g q ws x2 x3 x4 x5 (66 + 5 * i2) (n_w g q hi2) (by omega) (fun h => by have z := e2 h; omega) (66 + 5 * i3) (n_w g q hi3) (by omega) (fun h => by have z := e3 h; omega) (fun h => by have z := e4 h; omega) (fun h => by have z := e5 h; omega) (by omega) (by omega) (by omega) hlt hI t0_0 t0_1 hT0 t1_0 hT1 t2_0 t2_1 hT2 t3_0 hT3 t4_0 t4_1 hT4 t5_0 hT5 t6_0 t6_1 hT6 t7_0 hT7 t8_0 t8_1 hT8 t9_0 hT9 t10_0 t10_1 hT10 t11_0 hT11 t12_0 t12_1 hT12 t13_0 hT13 t14_0 t14_1 hT14 t15_0 hT15 t16_0 t16_1 hT16 t17_0 hT17 t18_0 t18_1 hT18 t19_0 hT19 ⟨trivial, hq.1⟩ sz) ?_ ?_
  · rintro u ⟨hI2, hun, u0_0, u0_1, u1_0, u2_0, u2_1, u3_0, u4_0, u4_1, u5_0, u6_0, u6_1, u7_0, u8_0, u8_1, u9_0, u10_0, u10_1, u11_0, u12_0, u12_1, u13_0, u14_0, u14_1, u15_0, u16_0, u16_1, u17_0, hU0, hU1, hU2, hU3, hU4, hU5, hU6, hU7, hU8, hU9, hU10, hU11, hU12, hU13, hU14, hU15, hU16, hU17, hR⟩
    have hG := hR.2.2.2.2.2.2.2.2.2.2.2.2.2.2.2.2.2.2.2.2.2.2.2.2.2.2.2.2.2.2.2.2.2.2.2.2.2.2.2.2.2.2.2.2.2.2.2.2.2.2
    clear hR
    have hF := hG
    have hp := hq.2
    rw [← hF] at hp
    refine ⟨⟨hI2, ⟨fun i hi => ?_, fun i hi => ?_, ?_⟩, fun i hi => hun i (by simp only [List.mem_cons, List.not_mem_nil, or_false, not_or]; omega)⟩, ?_⟩
    · by_cases hk4 : i = i2
      · rw [hk4]; refine ⟨_, _, _, hU16, hU17, ?_⟩; first | exact hp
      · exact iW_fr (hC.1 i hi) (hun _ (by simp only [List.mem_cons, List.not_mem_nil, or_false, not_or]; omega)) (hun _ (by simp only [List.mem_cons, List.not_mem_nil, or_false, not_or]; omega))
    · exact iD_fr (hC.2.1 i hi) (hun _ (by simp only [List.mem_cons, List.not_mem_nil, or_false, not_or]; omega)) (hun _ (by simp only [List.mem_cons, List.not_mem_nil, or_false, not_or]; omega)) (hun _ (by simp only [List.mem_cons, List.not_mem_nil, or_false, not_or]; omega))
    · exact iO_fr hC.2.2 (hun _ (by simp only [List.mem_cons, List.not_mem_nil, or_false, not_or]; omega)) (hun _ (by simp only [List.mem_cons, List.not_mem_nil, or_false, not_or]; omega)) (hun _ (by simp only [List.mem_cons, List.not_mem_nil, or_false, not_or]; omega))
    · have fW : ∀ i, i < 10 → ¬ i = i2 → cWr g q u (66 + 5 * i) (zsW σ i) := fun i hi hk2 => cWr_fr (hS1 i hi) (hun _ (by simp only [List.mem_cons, List.not_mem_nil, or_false, not_or]; omega)) (hun _ (by simp only [List.mem_cons, List.not_mem_nil, or_false, not_or]; omega))
      have fD : ∀ i, i < 10 → cDr g q u (68 + 5 * i) (zsD σ i) := fun i hi => cDr_fr (hS2 i hi) (hun _ (by simp only [List.mem_cons, List.not_mem_nil, or_false, not_or]; omega)) (hun _ (by simp only [List.mem_cons, List.not_mem_nil, or_false, not_or]; omega)) (hun _ (by simp only [List.mem_cons, List.not_mem_nil, or_false, not_or]; omega))
      have fV : cFr g q u 7 (zsV σ) := (cFr_fr hS3 (hun _ (by simp only [List.mem_cons, List.not_mem_nil, or_false, not_or]; omega)))
      have fN : cFr g q u 8 (zsN σ) := (cFr_fr hS4 (hun _ (by simp only [List.mem_cons, List.not_mem_nil, or_false, not_or]; omega)))
      have fT : cTp g q u (zsL σ) (zsB σ) := (cTp_fr hS5 (hun _ (by simp only [List.mem_cons, List.not_mem_nil, or_false, not_or]; omega)) (hun _ (by simp only [List.mem_cons, List.not_mem_nil, or_false, not_or]; omega)))
      have fP : cPp g q u (zsP σ) := (cPp_fr hS6 (hun _ (by simp only [List.mem_cons, List.not_mem_nil, or_false, not_or]; omega)) (hun _ (by simp only [List.mem_cons, List.not_mem_nil, or_false, not_or]; omega)))
      have fA : cAr g q u (zsA σ) := (cAr_fr hS7 (fun i _ _ => (hun _ (by simp only [List.mem_cons, List.not_mem_nil, or_false, not_or]; omega))) (fun i _ _ => (hun _ (by simp only [List.mem_cons, List.not_mem_nil, or_false, not_or]; omega))))
      by_cases ok : (yReg x2 ∧ yReg x3 ∧ yReg x4 ∧ yReg x5)
      · have e22 := e2 (x_reg ok.1)
        have e33 := e3 (x_reg ok.2.1)
        have e44 := e4 (x_reg ok.2.2.1)
        have e55 := e5 (x_reg ok.2.2.2)
        have hv := V_powerModulo_at (x2 := x2) (x3 := x3) (x4 := x4) (x5 := x5) (t0_0 := t0_0) (t0_1 := t0_1) (t1_0 := t1_0) (t2_0 := t2_0) (t2_1 := t2_1) (t3_0 := t3_0) (t4_0 := t4_0) (t4_1 := t4_1) (t5_0 := t5_0) (t6_0 := t6_0) (t6_1 := t6_1) (t7_0 := t7_0) (t8_0 := t8_0) (t8_1 := t8_1) (t9_0 := t9_0) (t10_0 := t10_0) (t10_1 := t10_1) (t11_0 := t11_0) (t12_0 := t12_0) (t12_1 := t12_1) (t13_0 := t13_0) (t14_0 := t14_0) (t14_1 := t14_1) (t15_0 := t15_0) (t16_0 := t16_0) (t16_1 := t16_1) (t17_0 := t17_0) (t18_0 := t18_0) (t18_1 := t18_1) (t19_0 := t19_0) gw3 gw2 hB2 (y_isRn ok.1) (y_isRn ok.2.1) (y_isRn ok.2.2.1) (y_isRn ok.2.2.2)
        rw [← hG] at hv
        rcases hv with ⟨v, o1, o2, z, o3⟩ | ⟨o1, z, o3⟩
        · refine ⟨(updW (zsW σ) x5.toNatClampNeg v, zsD σ, zsV σ, zsN σ, zsL σ, zsB σ, zsP σ, zsA σ), Or.inr ⟨ok, Or.inl ⟨v, by rw [← e22, ← e33, ← e44]; exact o1, o2, rfl, rfl⟩⟩, ?_⟩
          refine ⟨(fun i hi => ?_), fD, fV, fN, fT, fP, fA⟩
          · show cWr g q u (66 + 5 * i) (updW (zsW σ) x5.toNatClampNeg v i)
            unfold updW
            by_cases hk2 : i = i2
            · rw [if_pos (by omega), hk2]; exact ⟨_, _, _, hU16, hU17, o3⟩
            · rw [if_neg (by omega)]; exact fW i hi hk2
        · exact absurd (show (0 : Int32) = 2 from z) (by decide)
      · have hv := y_no_powerModulo_at (x2 := x2) (x3 := x3) (x4 := x4) (x5 := x5) (t0_0 := t0_0) (t0_1 := t0_1) (t1_0 := t1_0) (t2_0 := t2_0) (t2_1 := t2_1) (t3_0 := t3_0) (t4_0 := t4_0) (t4_1 := t4_1) (t5_0 := t5_0) (t6_0 := t6_0) (t6_1 := t6_1) (t7_0 := t7_0) (t8_0 := t8_0) (t8_1 := t8_1) (t9_0 := t9_0) (t10_0 := t10_0) (t10_1 := t10_1) (t11_0 := t11_0) (t12_0 := t12_0) (t12_1 := t12_1) (t13_0 := t13_0) (t14_0 := t14_0) (t14_1 := t14_1) (t15_0 := t15_0) (t16_0 := t16_0) (t16_1 := t16_1) (t17_0 := t17_0) (t18_0 := t18_0) (t18_1 := t18_1) (t19_0 := t19_0) ok
        rw [← hG] at hv
        obtain ⟨z, eT0, eT1, eT2⟩ := hv
        exact absurd (show (0 : Int32) = 1 from z) (by decide)
  · rintro E u ⟨c, hE, hc, hI2, hun, u0_0, u0_1, u1_0, u2_0, u2_1, u3_0, u4_0, u4_1, u5_0, u6_0, u6_1, u7_0, u8_0, u8_1, u9_0, u10_0, u10_1, u11_0, u12_0, u12_1, u13_0, u14_0, u14_1, u15_0, u16_0, u16_1, u17_0, hU0, hU1, hU2, hU3, hU4, hU5, hU6, hU7, hU8, hU9, hU10, hU11, hU12, hU13, hU14, hU15, hU16, hU17, hF⟩
    have hp := hq.2
    rw [← hF] at hp
    have hk := K_NH_powerModulo_at (x2 := x2) (x3 := x3) (x4 := x4) (x5 := x5) (t0_0 := t0_0) (t0_1 := t0_1) (t1_0 := t1_0) (t2_0 := t2_0) (t2_1 := t2_1) (t3_0 := t3_0) (t4_0 := t4_0) (t4_1 := t4_1) (t5_0 := t5_0) (t6_0 := t6_0) (t6_1 := t6_1) (t7_0 := t7_0) (t8_0 := t8_0) (t8_1 := t8_1) (t9_0 := t9_0) (t10_0 := t10_0) (t10_1 := t10_1) (t11_0 := t11_0) (t12_0 := t12_0) (t12_1 := t12_1) (t13_0 := t13_0) (t14_0 := t14_0) (t14_1 := t14_1) (t15_0 := t15_0) (t16_0 := t16_0) (t16_1 := t16_1) (t17_0 := t17_0) (t18_0 := t18_0) (t18_1 := t18_1) (t19_0 := t19_0)
    rw [← hF] at hk
    replace hk : kC12 c := hk
    refine ⟨c, hE, hk.resolve_left hc, ⟨hI2, ⟨fun i hi => ?_, fun i hi => ?_, ?_⟩, fun i hi => hun i (by simp only [List.mem_cons, List.not_mem_nil, or_false, not_or]; omega)⟩, ?_⟩
    · by_cases hk4 : i = i2
      · rw [hk4]; refine ⟨_, _, _, hU16, hU17, ?_⟩; first | exact hp
      · exact iW_fr (hC.1 i hi) (hun _ (by simp only [List.mem_cons, List.not_mem_nil, or_false, not_or]; omega)) (hun _ (by simp only [List.mem_cons, List.not_mem_nil, or_false, not_or]; omega))
    · exact iD_fr (hC.2.1 i hi) (hun _ (by simp only [List.mem_cons, List.not_mem_nil, or_false, not_or]; omega)) (hun _ (by simp only [List.mem_cons, List.not_mem_nil, or_false, not_or]; omega)) (hun _ (by simp only [List.mem_cons, List.not_mem_nil, or_false, not_or]; omega))
    · exact iO_fr hC.2.2 (hun _ (by simp only [List.mem_cons, List.not_mem_nil, or_false, not_or]; omega)) (hun _ (by simp only [List.mem_cons, List.not_mem_nil, or_false, not_or]; omega)) (hun _ (by simp only [List.mem_cons, List.not_mem_nil, or_false, not_or]; omega))
    · have hG := hF
      have fW : ∀ i, i < 10 → ¬ i = i2 → cWr g q u (66 + 5 * i) (zsW σ i) := fun i hi hk2 => cWr_fr (hS1 i hi) (hun _ (by simp only [List.mem_cons, List.not_mem_nil, or_false, not_or]; omega)) (hun _ (by simp only [List.mem_cons, List.not_mem_nil, or_false, not_or]; omega))
      have fD : ∀ i, i < 10 → cDr g q u (68 + 5 * i) (zsD σ i) := fun i hi => cDr_fr (hS2 i hi) (hun _ (by simp only [List.mem_cons, List.not_mem_nil, or_false, not_or]; omega)) (hun _ (by simp only [List.mem_cons, List.not_mem_nil, or_false, not_or]; omega)) (hun _ (by simp only [List.mem_cons, List.not_mem_nil, or_false, not_or]; omega))
      have fV : cFr g q u 7 (zsV σ) := (cFr_fr hS3 (hun _ (by simp only [List.mem_cons, List.not_mem_nil, or_false, not_or]; omega)))
      have fN : cFr g q u 8 (zsN σ) := (cFr_fr hS4 (hun _ (by simp only [List.mem_cons, List.not_mem_nil, or_false, not_or]; omega)))
      have fT : cTp g q u (zsL σ) (zsB σ) := (cTp_fr hS5 (hun _ (by simp only [List.mem_cons, List.not_mem_nil, or_false, not_or]; omega)) (hun _ (by simp only [List.mem_cons, List.not_mem_nil, or_false, not_or]; omega)))
      have fP : cPp g q u (zsP σ) := (cPp_fr hS6 (hun _ (by simp only [List.mem_cons, List.not_mem_nil, or_false, not_or]; omega)) (hun _ (by simp only [List.mem_cons, List.not_mem_nil, or_false, not_or]; omega)))
      have fA : cAr g q u (zsA σ) := (cAr_fr hS7 (fun i _ _ => (hun _ (by simp only [List.mem_cons, List.not_mem_nil, or_false, not_or]; omega))) (fun i _ _ => (hun _ (by simp only [List.mem_cons, List.not_mem_nil, or_false, not_or]; omega))))
      by_cases ok : (yReg x2 ∧ yReg x3 ∧ yReg x4 ∧ yReg x5)
      · have e22 := e2 (x_reg ok.1)
        have e33 := e3 (x_reg ok.2.1)
        have e44 := e4 (x_reg ok.2.2.1)
        have e55 := e5 (x_reg ok.2.2.2)
        have hv := V_powerModulo_at (x2 := x2) (x3 := x3) (x4 := x4) (x5 := x5) (t0_0 := t0_0) (t0_1 := t0_1) (t1_0 := t1_0) (t2_0 := t2_0) (t2_1 := t2_1) (t3_0 := t3_0) (t4_0 := t4_0) (t4_1 := t4_1) (t5_0 := t5_0) (t6_0 := t6_0) (t6_1 := t6_1) (t7_0 := t7_0) (t8_0 := t8_0) (t8_1 := t8_1) (t9_0 := t9_0) (t10_0 := t10_0) (t10_1 := t10_1) (t11_0 := t11_0) (t12_0 := t12_0) (t12_1 := t12_1) (t13_0 := t13_0) (t14_0 := t14_0) (t14_1 := t14_1) (t15_0 := t15_0) (t16_0 := t16_0) (t16_1 := t16_1) (t17_0 := t17_0) (t18_0 := t18_0) (t18_1 := t18_1) (t19_0 := t19_0) gw3 gw2 hB2 (y_isRn ok.1) (y_isRn ok.2.1) (y_isRn ok.2.2.1) (y_isRn ok.2.2.2)
        rw [← hG] at hv
        rcases hv with ⟨v, o1, o2, z, o3⟩ | ⟨o1, z, o3⟩
        · exact absurd z hc
        · refine ⟨Or.inr ⟨ok, Or.inr ⟨by rw [← e22, ← e33, ← e44]; exact o1, z, rfl⟩⟩, ?_⟩
          refine ⟨(fun i hi => ?_), fD, fV, fN, fT, fP, fA⟩
          · by_cases hk2 : i = i2
            · rw [hk2]; exact ⟨_, _, _, hU16, hU17, o3⟩
            · exact fW i hi hk2
      · have hv := y_no_powerModulo_at (x2 := x2) (x3 := x3) (x4 := x4) (x5 := x5) (t0_0 := t0_0) (t0_1 := t0_1) (t1_0 := t1_0) (t2_0 := t2_0) (t2_1 := t2_1) (t3_0 := t3_0) (t4_0 := t4_0) (t4_1 := t4_1) (t5_0 := t5_0) (t6_0 := t6_0) (t6_1 := t6_1) (t7_0 := t7_0) (t8_0 := t8_0) (t8_1 := t8_1) (t9_0 := t9_0) (t10_0 := t10_0) (t10_1 := t10_1) (t11_0 := t11_0) (t12_0 := t12_0) (t12_1 := t12_1) (t13_0 := t13_0) (t14_0 := t14_0) (t14_1 := t14_1) (t15_0 := t15_0) (t16_0 := t16_0) (t16_1 := t16_1) (t17_0 := t17_0) (t18_0 := t18_0) (t18_1 := t18_1) (t19_0 := t19_0) ok
        rw [← hG] at hv
        obtain ⟨z, eT0, eT1, eT2⟩ := hv
        replace eT0 : u16_0 = t16_0 := eT0
        replace eT1 : u16_1 = t16_1 := eT1
        replace eT2 : u17_0 = t17_0 := eT2
        refine ⟨Or.inl ⟨ok, z, rfl⟩, ?_⟩
        refine ⟨(fun i hi => ?_), fD, fV, fN, fT, fP, fA⟩
        · by_cases hk2 : i = i2
          · rw [hk2]; exact ⟨_, _, _, hU16, hU17, (by rw [eT0, eT1, eT2]; exact gw2)⟩
          · exact fW i hi hk2
set_option maxRecDepth 100000 in
set_option maxHeartbeats 4000000 in
theorem CW_powerModulo_et (l : Launch) (D : va_G) (g : Nat → ClassId) (q : Nat → Nat) (ws : va_W) (x2 : Int32) (x3 : Int32) (x4 : Int32) (x5 : Int32) (i2 : Nat) (hi2 : i2 < 10) (i3 : Nat) (hi3 : i3 < 10) (e2 : x2.toNatClampNeg < 10 → i2 = x2.toNatClampNeg) (e3 : x3.toNatClampNeg < 10 → i3 = x3.toNatClampNeg) (e4 : x4.toNatClampNeg < 10 → i3 = x4.toNatClampNeg) (e5 : x5.toNatClampNeg < 10 → i3 = x5.toNatClampNeg) (nei2i3 : i2 ≠ i3) (hlt : l.stackTraces = false) (hI : q_I (nsh g q) q ws) (hC : iC g q ws) {σ : zSt} (hS : sC g q ws σ) (hk0 : zOk σ) : ∀ sz, q_Mx l y_NH_powerModulo prog_1_method_10_code 5 none 9 4 24 D g [.ref (q 0), .int x2, .int x3, .int x4, .int x5] ws sz (va_Qv (fun u => iP g q ws u ∧ ∃ σ2, rPm x2 x3 x4 x5 σ 0 σ2 ∧ sC g q u σ2) (q_B D g (va_A ws sz)) (va_A ws sz)) (fun E u => ∃ c : Int32, E = qE c ∧ (c = 1 ∨ c = 2) ∧ iP g q ws u ∧ rPm x2 x3 x4 x5 σ c σ ∧ sC g q u σ) := by
  intro sz
  obtain ⟨t0_0, t0_1, hT0, -⟩ := q_bigO hI (n_b10 g q)
  obtain ⟨t1_0, hT1, -⟩ := n_ai hI (n_s11 g q)
  obtain ⟨t2_0, t2_1, hT2, -⟩ := q_bigO hI (n_b12 g q)
  obtain ⟨t3_0, hT3, -⟩ := n_ai hI (n_s13 g q)
  obtain ⟨t4_0, t4_1, hT4, -⟩ := q_bigO hI (n_b14 g q)
  obtain ⟨t5_0, hT5, -⟩ := n_ai hI (n_s15 g q)
  obtain ⟨t6_0, t6_1, hT6, -⟩ := q_bigO hI (n_b18 g q)
  obtain ⟨t7_0, hT7, -⟩ := n_ai hI (n_s19 g q)
  obtain ⟨t8_0, t8_1, hT8, -⟩ := q_bigO hI (n_b22 g q)
  obtain ⟨t9_0, hT9, -⟩ := n_ai hI (n_s23 g q)
  obtain ⟨t10_0, t10_1, hT10, -⟩ := q_bigO hI (n_b24 g q)
  obtain ⟨t11_0, hT11, -⟩ := n_ai hI (n_s25 g q)
  obtain ⟨t12_0, t12_1, hT12, -⟩ := q_bigO hI (n_b26 g q)
  obtain ⟨t13_0, hT13, -⟩ := n_ai hI (n_s27 g q)
  obtain ⟨t14_0, t14_1, hT14, -⟩ := q_bigO hI (n_b28 g q)
  obtain ⟨t15_0, hT15, -⟩ := n_ai hI (n_s29 g q)
  obtain ⟨t16_0, t16_1, t17_0, hT16, hT17, vk2, hbk2, hBk2⟩ := hC.1 i2 hi2
  obtain ⟨t18_0, t18_1, t19_0, hT18, hT19, vk4, hbk4, hBk4⟩ := hC.1 i3 hi3
  obtain ⟨hS1, hS2, hS3, hS4, hS5, hS6, hS7⟩ := hS
  obtain ⟨sw2, nw2, fw2, aw2, bw2, gw2⟩ := hS1 i2 hi2
  obtain ⟨rfl, rfl⟩ := x_b2 hT16 aw2
  obtain rfl := x_ri hT17 bw2
  obtain ⟨sw3, nw3, fw3, aw3, bw3, gw3⟩ := hS1 i3 hi3
  obtain ⟨rfl, rfl⟩ := x_b2 hT18 aw3
  obtain rfl := x_ri hT19 bw3
  have ev2 : vk2 = zsW σ i2 := hbk2.2.2.1.symm.trans gw2.2.2.1
  have hB2 := hBk2
  rw [ev2] at hB2
  have ev3 : vk4 = zsW σ i3 := hbk4.2.2.1.symm.trans gw3.2.2.1
  have hB3 := hBk4
  rw [ev3] at hB3
  have hq := T_powerModulo_et (x2 := x2) (x3 := x3) (x4 := x4) (x5 := x5) (t0_0 := t0_0) (t0_1 := t0_1) (t1_0 := t1_0) (t2_0 := t2_0) (t2_1 := t2_1) (t3_0 := t3_0) (t4_0 := t4_0) (t4_1 := t4_1) (t5_0 := t5_0) (t6_0 := t6_0) (t6_1 := t6_1) (t7_0 := t7_0) (t8_0 := t8_0) (t8_1 := t8_1) (t9_0 := t9_0) (t10_0 := t10_0) (t10_1 := t10_1) (t11_0 := t11_0) (t12_0 := t12_0) (t12_1 := t12_1) (t13_0 := t13_0) (t14_0 := t14_0) (t14_1 := t14_1) (t15_0 := t15_0) (t16_0 := t16_0) (t16_1 := t16_1) (t17_0 := t17_0) (t18_0 := t18_0) (t18_1 := t18_1) (t19_0 := t19_0) hbk2 hBk2 hbk4 hBk4
  refine q_MxV (X_NH_powerModulo_et l D g q ws x2 x3 x4 x5 (66 + 5 * i2) (n_w g q hi2) (by omega) (fun h => by have z := e2 h; omega) (66 + 5 * i3) (n_w g q hi3) (by omega) (fun h => by have z := e3 h; omega) (fun h => by have z := e4 h; omega) (fun h => by have z := e5 h; omega) (by omega) (by omega) (by omega) hlt hI t0_0 t0_1 hT0 t1_0 hT1 t2_0 t2_1 hT2 t3_0 hT3 t4_0 t4_1 hT4 t5_0 hT5 t6_0 t6_1 hT6 t7_0 hT7 t8_0 t8_1 hT8 t9_0 hT9 t10_0 t10_1 hT10 t11_0 hT11 t12_0 t12_1 hT12 t13_0 hT13 t14_0 t14_1 hT14 t15_0 hT15 t16_0 t16_1 hT16 t17_0 hT17 t18_0 t18_1 hT18 t19_0 hT19 ⟨trivial, hq.1⟩ sz) ?_ ?_
  · rintro u ⟨hI2, hun, u0_0, u0_1, u1_0, u2_0, u2_1, u3_0, u4_0, u4_1, u5_0, u6_0, u6_1, u7_0, u8_0, u8_1, u9_0, u10_0, u10_1, u11_0, u12_0, u12_1, u13_0, u14_0, u14_1, u15_0, u18_0, u18_1, u19_0, hU0, hU1, hU2, hU3, hU4, hU5, hU6, hU7, hU8, hU9, hU10, hU11, hU12, hU13, hU14, hU15, hU16, hU17, hR⟩
    have hG := hR.2.2.2.2.2.2.2.2.2.2.2.2.2.2.2.2.2.2.2.2.2.2.2.2.2.2.2.2.2.2.2.2.2.2.2.2.2.2.2.2.2.2.2.2.2.2.2.2.2.2.2.2
    clear hR
    have hF := hG
    have hp := hq.2
    rw [← hF] at hp
    refine ⟨⟨hI2, ⟨fun i hi => ?_, fun i hi => ?_, ?_⟩, fun i hi => hun i (by simp only [List.mem_cons, List.not_mem_nil, or_false, not_or]; omega)⟩, ?_⟩
    · by_cases hk4 : i = i3
      · rw [hk4]; refine ⟨_, _, _, hU16, hU17, ?_⟩; first | exact hp
      · exact iW_fr (hC.1 i hi) (hun _ (by simp only [List.mem_cons, List.not_mem_nil, or_false, not_or]; omega)) (hun _ (by simp only [List.mem_cons, List.not_mem_nil, or_false, not_or]; omega))
    · exact iD_fr (hC.2.1 i hi) (hun _ (by simp only [List.mem_cons, List.not_mem_nil, or_false, not_or]; omega)) (hun _ (by simp only [List.mem_cons, List.not_mem_nil, or_false, not_or]; omega)) (hun _ (by simp only [List.mem_cons, List.not_mem_nil, or_false, not_or]; omega))
    · exact iO_fr hC.2.2 (hun _ (by simp only [List.mem_cons, List.not_mem_nil, or_false, not_or]; omega)) (hun _ (by simp only [List.mem_cons, List.not_mem_nil, or_false, not_or]; omega)) (hun _ (by simp only [List.mem_cons, List.not_mem_nil, or_false, not_or]; omega))
    · have fW : ∀ i, i < 10 → ¬ i = i3 → cWr g q u (66 + 5 * i) (zsW σ i) := fun i hi hk3 => cWr_fr (hS1 i hi) (hun _ (by simp only [List.mem_cons, List.not_mem_nil, or_false, not_or]; omega)) (hun _ (by simp only [List.mem_cons, List.not_mem_nil, or_false, not_or]; omega))
      have fD : ∀ i, i < 10 → cDr g q u (68 + 5 * i) (zsD σ i) := fun i hi => cDr_fr (hS2 i hi) (hun _ (by simp only [List.mem_cons, List.not_mem_nil, or_false, not_or]; omega)) (hun _ (by simp only [List.mem_cons, List.not_mem_nil, or_false, not_or]; omega)) (hun _ (by simp only [List.mem_cons, List.not_mem_nil, or_false, not_or]; omega))
      have fV : cFr g q u 7 (zsV σ) := (cFr_fr hS3 (hun _ (by simp only [List.mem_cons, List.not_mem_nil, or_false, not_or]; omega)))
      have fN : cFr g q u 8 (zsN σ) := (cFr_fr hS4 (hun _ (by simp only [List.mem_cons, List.not_mem_nil, or_false, not_or]; omega)))
      have fT : cTp g q u (zsL σ) (zsB σ) := (cTp_fr hS5 (hun _ (by simp only [List.mem_cons, List.not_mem_nil, or_false, not_or]; omega)) (hun _ (by simp only [List.mem_cons, List.not_mem_nil, or_false, not_or]; omega)))
      have fP : cPp g q u (zsP σ) := (cPp_fr hS6 (hun _ (by simp only [List.mem_cons, List.not_mem_nil, or_false, not_or]; omega)) (hun _ (by simp only [List.mem_cons, List.not_mem_nil, or_false, not_or]; omega)))
      have fA : cAr g q u (zsA σ) := (cAr_fr hS7 (fun i _ _ => (hun _ (by simp only [List.mem_cons, List.not_mem_nil, or_false, not_or]; omega))) (fun i _ _ => (hun _ (by simp only [List.mem_cons, List.not_mem_nil, or_false, not_or]; omega))))
      by_cases ok : (yReg x2 ∧ yReg x3 ∧ yReg x4 ∧ yReg x5)
      · have e22 := e2 (x_reg ok.1)
        have e33 := e3 (x_reg ok.2.1)
        have e44 := e4 (x_reg ok.2.2.1)
        have e55 := e5 (x_reg ok.2.2.2)
        have hv := V_powerModulo_et (x2 := x2) (x3 := x3) (x4 := x4) (x5 := x5) (t0_0 := t0_0) (t0_1 := t0_1) (t1_0 := t1_0) (t2_0 := t2_0) (t2_1 := t2_1) (t3_0 := t3_0) (t4_0 := t4_0) (t4_1 := t4_1) (t5_0 := t5_0) (t6_0 := t6_0) (t6_1 := t6_1) (t7_0 := t7_0) (t8_0 := t8_0) (t8_1 := t8_1) (t9_0 := t9_0) (t10_0 := t10_0) (t10_1 := t10_1) (t11_0 := t11_0) (t12_0 := t12_0) (t12_1 := t12_1) (t13_0 := t13_0) (t14_0 := t14_0) (t14_1 := t14_1) (t15_0 := t15_0) (t16_0 := t16_0) (t16_1 := t16_1) (t17_0 := t17_0) (t18_0 := t18_0) (t18_1 := t18_1) (t19_0 := t19_0) gw2 hB2 gw3 hB3 (y_isRn ok.1) (y_isRn ok.2.1) (y_isRn ok.2.2.1) (y_isRn ok.2.2.2)
        rw [← hG] at hv
        rcases hv with ⟨v, o1, o2, z, o3⟩ | ⟨o1, z, o3⟩
        · refine ⟨(updW (zsW σ) x5.toNatClampNeg v, zsD σ, zsV σ, zsN σ, zsL σ, zsB σ, zsP σ, zsA σ), Or.inr ⟨ok, Or.inl ⟨v, by rw [← e22, ← e33, ← e44]; exact o1, o2, rfl, rfl⟩⟩, ?_⟩
          refine ⟨(fun i hi => ?_), fD, fV, fN, fT, fP, fA⟩
          · show cWr g q u (66 + 5 * i) (updW (zsW σ) x5.toNatClampNeg v i)
            unfold updW
            by_cases hk3 : i = i3
            · rw [if_pos (by omega), hk3]; exact ⟨_, _, _, hU16, hU17, o3⟩
            · rw [if_neg (by omega)]; exact fW i hi hk3
        · exact absurd (show (0 : Int32) = 2 from z) (by decide)
      · have hv := y_no_powerModulo_et (x2 := x2) (x3 := x3) (x4 := x4) (x5 := x5) (t0_0 := t0_0) (t0_1 := t0_1) (t1_0 := t1_0) (t2_0 := t2_0) (t2_1 := t2_1) (t3_0 := t3_0) (t4_0 := t4_0) (t4_1 := t4_1) (t5_0 := t5_0) (t6_0 := t6_0) (t6_1 := t6_1) (t7_0 := t7_0) (t8_0 := t8_0) (t8_1 := t8_1) (t9_0 := t9_0) (t10_0 := t10_0) (t10_1 := t10_1) (t11_0 := t11_0) (t12_0 := t12_0) (t12_1 := t12_1) (t13_0 := t13_0) (t14_0 := t14_0) (t14_1 := t14_1) (t15_0 := t15_0) (t16_0 := t16_0) (t16_1 := t16_1) (t17_0 := t17_0) (t18_0 := t18_0) (t18_1 := t18_1) (t19_0 := t19_0) ok
        rw [← hG] at hv
        obtain ⟨z, eT0, eT1, eT2⟩ := hv
        exact absurd (show (0 : Int32) = 1 from z) (by decide)
  · rintro E u ⟨c, hE, hc, hI2, hun, u0_0, u0_1, u1_0, u2_0, u2_1, u3_0, u4_0, u4_1, u5_0, u6_0, u6_1, u7_0, u8_0, u8_1, u9_0, u10_0, u10_1, u11_0, u12_0, u12_1, u13_0, u14_0, u14_1, u15_0, u18_0, u18_1, u19_0, hU0, hU1, hU2, hU3, hU4, hU5, hU6, hU7, hU8, hU9, hU10, hU11, hU12, hU13, hU14, hU15, hU16, hU17, hF⟩
    have hp := hq.2
    rw [← hF] at hp
    have hk := K_NH_powerModulo_et (x2 := x2) (x3 := x3) (x4 := x4) (x5 := x5) (t0_0 := t0_0) (t0_1 := t0_1) (t1_0 := t1_0) (t2_0 := t2_0) (t2_1 := t2_1) (t3_0 := t3_0) (t4_0 := t4_0) (t4_1 := t4_1) (t5_0 := t5_0) (t6_0 := t6_0) (t6_1 := t6_1) (t7_0 := t7_0) (t8_0 := t8_0) (t8_1 := t8_1) (t9_0 := t9_0) (t10_0 := t10_0) (t10_1 := t10_1) (t11_0 := t11_0) (t12_0 := t12_0) (t12_1 := t12_1) (t13_0 := t13_0) (t14_0 := t14_0) (t14_1 := t14_1) (t15_0 := t15_0) (t16_0 := t16_0) (t16_1 := t16_1) (t17_0 := t17_0) (t18_0 := t18_0) (t18_1 := t18_1) (t19_0 := t19_0)
    rw [← hF] at hk
    replace hk : kC12 c := hk
    refine ⟨c, hE, hk.resolve_left hc, ⟨hI2, ⟨fun i hi => ?_, fun i hi => ?_, ?_⟩, fun i hi => hun i (by simp only [List.mem_cons, List.not_mem_nil, or_false, not_or]; omega)⟩, ?_⟩
    · by_cases hk4 : i = i3
      · rw [hk4]; refine ⟨_, _, _, hU16, hU17, ?_⟩; first | exact hp
      · exact iW_fr (hC.1 i hi) (hun _ (by simp only [List.mem_cons, List.not_mem_nil, or_false, not_or]; omega)) (hun _ (by simp only [List.mem_cons, List.not_mem_nil, or_false, not_or]; omega))
    · exact iD_fr (hC.2.1 i hi) (hun _ (by simp only [List.mem_cons, List.not_mem_nil, or_false, not_or]; omega)) (hun _ (by simp only [List.mem_cons, List.not_mem_nil, or_false, not_or]; omega)) (hun _ (by simp only [List.mem_cons, List.not_mem_nil, or_false, not_or]; omega))
    · exact iO_fr hC.2.2 (hun _ (by simp only [List.mem_cons, List.not_mem_nil, or_false, not_or]; omega)) (hun _ (by simp only [List.mem_cons, List.not_mem_nil, or_false, not_or]; omega)) (hun _ (by simp only [List.mem_cons, List.not_mem_nil, or_false, not_or]; omega))
    · have hG := hF
      have fW : ∀ i, i < 10 → ¬ i = i3 → cWr g q u (66 + 5 * i) (zsW σ i) := fun i hi hk3 => cWr_fr (hS1 i hi) (hun _ (by simp only [List.mem_cons, List.not_mem_nil, or_false, not_or]; omega)) (hun _ (by simp only [List.mem_cons, List.not_mem_nil, or_false, not_or]; omega))
      have fD : ∀ i, i < 10 → cDr g q u (68 + 5 * i) (zsD σ i) := fun i hi => cDr_fr (hS2 i hi) (hun _ (by simp only [List.mem_cons, List.not_mem_nil, or_false, not_or]; omega)) (hun _ (by simp only [List.mem_cons, List.not_mem_nil, or_false, not_or]; omega)) (hun _ (by simp only [List.mem_cons, List.not_mem_nil, or_false, not_or]; omega))
      have fV : cFr g q u 7 (zsV σ) := (cFr_fr hS3 (hun _ (by simp only [List.mem_cons, List.not_mem_nil, or_false, not_or]; omega)))
      have fN : cFr g q u 8 (zsN σ) := (cFr_fr hS4 (hun _ (by simp only [List.mem_cons, List.not_mem_nil, or_false, not_or]; omega)))
      have fT : cTp g q u (zsL σ) (zsB σ) := (cTp_fr hS5 (hun _ (by simp only [List.mem_cons, List.not_mem_nil, or_false, not_or]; omega)) (hun _ (by simp only [List.mem_cons, List.not_mem_nil, or_false, not_or]; omega)))
      have fP : cPp g q u (zsP σ) := (cPp_fr hS6 (hun _ (by simp only [List.mem_cons, List.not_mem_nil, or_false, not_or]; omega)) (hun _ (by simp only [List.mem_cons, List.not_mem_nil, or_false, not_or]; omega)))
      have fA : cAr g q u (zsA σ) := (cAr_fr hS7 (fun i _ _ => (hun _ (by simp only [List.mem_cons, List.not_mem_nil, or_false, not_or]; omega))) (fun i _ _ => (hun _ (by simp only [List.mem_cons, List.not_mem_nil, or_false, not_or]; omega))))
      by_cases ok : (yReg x2 ∧ yReg x3 ∧ yReg x4 ∧ yReg x5)
      · have e22 := e2 (x_reg ok.1)
        have e33 := e3 (x_reg ok.2.1)
        have e44 := e4 (x_reg ok.2.2.1)
        have e55 := e5 (x_reg ok.2.2.2)
        have hv := V_powerModulo_et (x2 := x2) (x3 := x3) (x4 := x4) (x5 := x5) (t0_0 := t0_0) (t0_1 := t0_1) (t1_0 := t1_0) (t2_0 := t2_0) (t2_1 := t2_1) (t3_0 := t3_0) (t4_0 := t4_0) (t4_1 := t4_1) (t5_0 := t5_0) (t6_0 := t6_0) (t6_1 := t6_1) (t7_0 := t7_0) (t8_0 := t8_0) (t8_1 := t8_1) (t9_0 := t9_0) (t10_0 := t10_0) (t10_1 := t10_1) (t11_0 := t11_0) (t12_0 := t12_0) (t12_1 := t12_1) (t13_0 := t13_0) (t14_0 := t14_0) (t14_1 := t14_1) (t15_0 := t15_0) (t16_0 := t16_0) (t16_1 := t16_1) (t17_0 := t17_0) (t18_0 := t18_0) (t18_1 := t18_1) (t19_0 := t19_0) gw2 hB2 gw3 hB3 (y_isRn ok.1) (y_isRn ok.2.1) (y_isRn ok.2.2.1) (y_isRn ok.2.2.2)
        rw [← hG] at hv
        rcases hv with ⟨v, o1, o2, z, o3⟩ | ⟨o1, z, o3⟩
        · exact absurd z hc
        · refine ⟨Or.inr ⟨ok, Or.inr ⟨by rw [← e22, ← e33, ← e44]; exact o1, z, rfl⟩⟩, ?_⟩
          refine ⟨(fun i hi => ?_), fD, fV, fN, fT, fP, fA⟩
          · by_cases hk3 : i = i3
            · rw [hk3]; exact ⟨_, _, _, hU16, hU17, o3⟩
            · exact fW i hi hk3
      · have hv := y_no_powerModulo_et (x2 := x2) (x3 := x3) (x4 := x4) (x5 := x5) (t0_0 := t0_0) (t0_1 := t0_1) (t1_0 := t1_0) (t2_0 := t2_0) (t2_1 := t2_1) (t3_0 := t3_0) (t4_0 := t4_0) (t4_1 := t4_1) (t5_0 := t5_0) (t6_0 := t6_0) (t6_1 := t6_1) (t7_0 := t7_0) (t8_0 := t8_0) (t8_1 := t8_1) (t9_0 := t9_0) (t10_0 := t10_0) (t10_1 := t10_1) (t11_0 := t11_0) (t12_0 := t12_0) (t12_1 := t12_1) (t13_0 := t13_0) (t14_0 := t14_0) (t14_1 := t14_1) (t15_0 := t15_0) (t16_0 := t16_0) (t16_1 := t16_1) (t17_0 := t17_0) (t18_0 := t18_0) (t18_1 := t18_1) (t19_0 := t19_0) ok
        rw [← hG] at hv
        obtain ⟨z, eT0, eT1, eT2⟩ := hv
        replace eT0 : u18_0 = t18_0 := eT0
        replace eT1 : u18_1 = t18_1 := eT1
        replace eT2 : u19_0 = t19_0 := eT2
        refine ⟨Or.inl ⟨ok, z, rfl⟩, ?_⟩
        refine ⟨(fun i hi => ?_), fD, fV, fN, fT, fP, fA⟩
        · by_cases hk3 : i = i3
          · rw [hk3]; exact ⟨_, _, _, hU16, hU17, (by rw [eT0, eT1, eT2]; exact gw3)⟩
          · exact fW i hi hk3
set_option maxRecDepth 100000 in
set_option maxHeartbeats 4000000 in
theorem CW_powerModulo_aet (l : Launch) (D : va_G) (g : Nat → ClassId) (q : Nat → Nat) (ws : va_W) (x2 : Int32) (x3 : Int32) (x4 : Int32) (x5 : Int32) (i2 : Nat) (hi2 : i2 < 10) (e2 : x2.toNatClampNeg < 10 → i2 = x2.toNatClampNeg) (e3 : x3.toNatClampNeg < 10 → i2 = x3.toNatClampNeg) (e4 : x4.toNatClampNeg < 10 → i2 = x4.toNatClampNeg) (e5 : x5.toNatClampNeg < 10 → i2 = x5.toNatClampNeg) (hlt : l.stackTraces = false) (hI : q_I (nsh g q) q ws) (hC : iC g q ws) {σ : zSt} (hS : sC g q ws σ) (hk0 : zOk σ) : ∀ sz, q_Mx l y_NH_powerModulo prog_1_method_10_code 5 none 9 4 24 D g [.ref (q 0), .int x2, .int x3, .int x4, .int x5] ws sz (va_Qv (fun u => iP g q ws u ∧ ∃ σ2, rPm x2 x3 x4 x5 σ 0 σ2 ∧ sC g q u σ2) (q_B D g (va_A ws sz)) (va_A ws sz)) (fun E u => ∃ c : Int32, E = qE c ∧ (c = 1 ∨ c = 2) ∧ iP g q ws u ∧ rPm x2 x3 x4 x5 σ c σ ∧ sC g q u σ) := by
  intro sz
  obtain ⟨t0_0, t0_1, hT0, -⟩ := q_bigO hI (n_b10 g q)
  obtain ⟨t1_0, hT1, -⟩ := n_ai hI (n_s11 g q)
  obtain ⟨t2_0, t2_1, hT2, -⟩ := q_bigO hI (n_b12 g q)
  obtain ⟨t3_0, hT3, -⟩ := n_ai hI (n_s13 g q)
  obtain ⟨t4_0, t4_1, hT4, -⟩ := q_bigO hI (n_b14 g q)
  obtain ⟨t5_0, hT5, -⟩ := n_ai hI (n_s15 g q)
  obtain ⟨t6_0, t6_1, hT6, -⟩ := q_bigO hI (n_b18 g q)
  obtain ⟨t7_0, hT7, -⟩ := n_ai hI (n_s19 g q)
  obtain ⟨t8_0, t8_1, hT8, -⟩ := q_bigO hI (n_b22 g q)
  obtain ⟨t9_0, hT9, -⟩ := n_ai hI (n_s23 g q)
  obtain ⟨t10_0, t10_1, hT10, -⟩ := q_bigO hI (n_b24 g q)
  obtain ⟨t11_0, hT11, -⟩ := n_ai hI (n_s25 g q)
  obtain ⟨t12_0, t12_1, hT12, -⟩ := q_bigO hI (n_b26 g q)
  obtain ⟨t13_0, hT13, -⟩ := n_ai hI (n_s27 g q)
  obtain ⟨t14_0, t14_1, hT14, -⟩ := q_bigO hI (n_b28 g q)
  obtain ⟨t15_0, hT15, -⟩ := n_ai hI (n_s29 g q)
  obtain ⟨t16_0, t16_1, t17_0, hT16, hT17, vk4, hbk4, hBk4⟩ := hC.1 i2 hi2
  obtain ⟨hS1, hS2, hS3, hS4, hS5, hS6, hS7⟩ := hS
  obtain ⟨sw2, nw2, fw2, aw2, bw2, gw2⟩ := hS1 i2 hi2
  obtain ⟨rfl, rfl⟩ := x_b2 hT16 aw2
  obtain rfl := x_ri hT17 bw2
  have ev2 : vk4 = zsW σ i2 := hbk4.2.2.1.symm.trans gw2.2.2.1
  have hB2 := hBk4
  rw [ev2] at hB2
  have hq := T_powerModulo_aet (x2 := x2) (x3 := x3) (x4 := x4) (x5 := x5) (t0_0 := t0_0) (t0_1 := t0_1) (t1_0 := t1_0) (t2_0 := t2_0) (t2_1 := t2_1) (t3_0 := t3_0) (t4_0 := t4_0) (t4_1 := t4_1) (t5_0 := t5_0) (t6_0 := t6_0) (t6_1 := t6_1) (t7_0 := t7_0) (t8_0 := t8_0) (t8_1 := t8_1) (t9_0 := t9_0) (t10_0 := t10_0) (t10_1 := t10_1) (t11_0 := t11_0) (t12_0 := t12_0) (t12_1 := t12_1) (t13_0 := t13_0) (t14_0 := t14_0) (t14_1 := t14_1) (t15_0 := t15_0) (t16_0 := t16_0) (t16_1 := t16_1) (t17_0 := t17_0) hbk4 hBk4
  refine q_MxV (X_NH_powerModulo_aet l D g q ws x2 x3 x4 x5 (66 + 5 * i2) (n_w g q hi2) (by omega) (fun h => by have z := e2 h; omega) (fun h => by have z := e3 h; omega) (fun h => by have z := e4 h; omega) (fun h => by have z := e5 h; omega) hlt hI t0_0 t0_1 hT0 t1_0 hT1 t2_0 t2_1 hT2 t3_0 hT3 t4_0 t4_1 hT4 t5_0 hT5 t6_0 t6_1 hT6 t7_0 hT7 t8_0 t8_1 hT8 t9_0 hT9 t10_0 t10_1 hT10 t11_0 hT11 t12_0 t12_1 hT12 t13_0 hT13 t14_0 t14_1 hT14 t15_0 hT15 t16_0 t16_1 hT16 t17_0 hT17 ⟨trivial, hq.1⟩ sz) ?_ ?_
  · rintro u ⟨hI2, hun, u0_0, u0_1, u1_0, u2_0, u2_1, u3_0, u4_0, u4_1, u5_0, u6_0, u6_1, u7_0, u8_0, u8_1, u9_0, u10_0, u10_1, u11_0, u12_0, u12_1, u13_0, u14_0, u14_1, u15_0, u16_0, u16_1, u17_0, hU0, hU1, hU2, hU3, hU4, hU5, hU6, hU7, hU8, hU9, hU10, hU11, hU12, hU13, hU14, hU15, hU16, hU17, hR⟩
    have hG := hR.2.2.2.2.2.2.2.2.2.2.2.2.2.2.2.2.2.2.2.2.2.2.2.2.2.2.2.2.2.2.2.2.2.2.2.2.2.2.2.2.2.2.2.2.2.2.2.2.2.2
    clear hR
    have hF := hG
    have hp := hq.2
    rw [← hF] at hp
    refine ⟨⟨hI2, ⟨fun i hi => ?_, fun i hi => ?_, ?_⟩, fun i hi => hun i (by simp only [List.mem_cons, List.not_mem_nil, or_false, not_or]; omega)⟩, ?_⟩
    · by_cases hk4 : i = i2
      · rw [hk4]; refine ⟨_, _, _, hU16, hU17, ?_⟩; first | exact hp
      · exact iW_fr (hC.1 i hi) (hun _ (by simp only [List.mem_cons, List.not_mem_nil, or_false, not_or]; omega)) (hun _ (by simp only [List.mem_cons, List.not_mem_nil, or_false, not_or]; omega))
    · exact iD_fr (hC.2.1 i hi) (hun _ (by simp only [List.mem_cons, List.not_mem_nil, or_false, not_or]; omega)) (hun _ (by simp only [List.mem_cons, List.not_mem_nil, or_false, not_or]; omega)) (hun _ (by simp only [List.mem_cons, List.not_mem_nil, or_false, not_or]; omega))
    · exact iO_fr hC.2.2 (hun _ (by simp only [List.mem_cons, List.not_mem_nil, or_false, not_or]; omega)) (hun _ (by simp only [List.mem_cons, List.not_mem_nil, or_false, not_or]; omega)) (hun _ (by simp only [List.mem_cons, List.not_mem_nil, or_false, not_or]; omega))
    · have fW : ∀ i, i < 10 → ¬ i = i2 → cWr g q u (66 + 5 * i) (zsW σ i) := fun i hi hk2 => cWr_fr (hS1 i hi) (hun _ (by simp only [List.mem_cons, List.not_mem_nil, or_false, not_or]; omega)) (hun _ (by simp only [List.mem_cons, List.not_mem_nil, or_false, not_or]; omega))
      have fD : ∀ i, i < 10 → cDr g q u (68 + 5 * i) (zsD σ i) := fun i hi => cDr_fr (hS2 i hi) (hun _ (by simp only [List.mem_cons, List.not_mem_nil, or_false, not_or]; omega)) (hun _ (by simp only [List.mem_cons, List.not_mem_nil, or_false, not_or]; omega)) (hun _ (by simp only [List.mem_cons, List.not_mem_nil, or_false, not_or]; omega))
      have fV : cFr g q u 7 (zsV σ) := (cFr_fr hS3 (hun _ (by simp only [List.mem_cons, List.not_mem_nil, or_false, not_or]; omega)))
      have fN : cFr g q u 8 (zsN σ) := (cFr_fr hS4 (hun _ (by simp only [List.mem_cons, List.not_mem_nil, or_false, not_or]; omega)))
      have fT : cTp g q u (zsL σ) (zsB σ) := (cTp_fr hS5 (hun _ (by simp only [List.mem_cons, List.not_mem_nil, or_false, not_or]; omega)) (hun _ (by simp only [List.mem_cons, List.not_mem_nil, or_false, not_or]; omega)))
      have fP : cPp g q u (zsP σ) := (cPp_fr hS6 (hun _ (by simp only [List.mem_cons, List.not_mem_nil, or_false, not_or]; omega)) (hun _ (by simp only [List.mem_cons, List.not_mem_nil, or_false, not_or]; omega)))
      have fA : cAr g q u (zsA σ) := (cAr_fr hS7 (fun i _ _ => (hun _ (by simp only [List.mem_cons, List.not_mem_nil, or_false, not_or]; omega))) (fun i _ _ => (hun _ (by simp only [List.mem_cons, List.not_mem_nil, or_false, not_or]; omega))))
      by_cases ok : (yReg x2 ∧ yReg x3 ∧ yReg x4 ∧ yReg x5)
      · have e22 := e2 (x_reg ok.1)
        have e33 := e3 (x_reg ok.2.1)
        have e44 := e4 (x_reg ok.2.2.1)
        have e55 := e5 (x_reg ok.2.2.2)
        have hv := V_powerModulo_aet (x2 := x2) (x3 := x3) (x4 := x4) (x5 := x5) (t0_0 := t0_0) (t0_1 := t0_1) (t1_0 := t1_0) (t2_0 := t2_0) (t2_1 := t2_1) (t3_0 := t3_0) (t4_0 := t4_0) (t4_1 := t4_1) (t5_0 := t5_0) (t6_0 := t6_0) (t6_1 := t6_1) (t7_0 := t7_0) (t8_0 := t8_0) (t8_1 := t8_1) (t9_0 := t9_0) (t10_0 := t10_0) (t10_1 := t10_1) (t11_0 := t11_0) (t12_0 := t12_0) (t12_1 := t12_1) (t13_0 := t13_0) (t14_0 := t14_0) (t14_1 := t14_1) (t15_0 := t15_0) (t16_0 := t16_0) (t16_1 := t16_1) (t17_0 := t17_0) gw2 hB2 (y_isRn ok.1) (y_isRn ok.2.1) (y_isRn ok.2.2.1) (y_isRn ok.2.2.2)
        rw [← hG] at hv
        rcases hv with ⟨v, o1, o2, z, o3⟩ | ⟨o1, z, o3⟩
        · refine ⟨(updW (zsW σ) x5.toNatClampNeg v, zsD σ, zsV σ, zsN σ, zsL σ, zsB σ, zsP σ, zsA σ), Or.inr ⟨ok, Or.inl ⟨v, by rw [← e22, ← e33, ← e44]; exact o1, o2, rfl, rfl⟩⟩, ?_⟩
          refine ⟨(fun i hi => ?_), fD, fV, fN, fT, fP, fA⟩
          · show cWr g q u (66 + 5 * i) (updW (zsW σ) x5.toNatClampNeg v i)
            unfold updW
            by_cases hk2 : i = i2
            · rw [if_pos (by omega), hk2]; exact ⟨_, _, _, hU16, hU17, o3⟩
            · rw [if_neg (by omega)]; exact fW i hi hk2
        · exact absurd (show (0 : Int32) = 2 from z) (by decide)
      · have hv := y_no_powerModulo_aet (x2 := x2) (x3 := x3) (x4 := x4) (x5 := x5) (t0_0 := t0_0) (t0_1 := t0_1) (t1_0 := t1_0) (t2_0 := t2_0) (t2_1 := t2_1) (t3_0 := t3_0) (t4_0 := t4_0) (t4_1 := t4_1) (t5_0 := t5_0) (t6_0 := t6_0) (t6_1 := t6_1) (t7_0 := t7_0) (t8_0 := t8_0) (t8_1 := t8_1) (t9_0 := t9_0) (t10_0 := t10_0) (t10_1 := t10_1) (t11_0 := t11_0) (t12_0 := t12_0) (t12_1 := t12_1) (t13_0 := t13_0) (t14_0 := t14_0) (t14_1 := t14_1) (t15_0 := t15_0) (t16_0 := t16_0) (t16_1 := t16_1) (t17_0 := t17_0) ok
        rw [← hG] at hv
        obtain ⟨z, eT0, eT1, eT2⟩ := hv
        exact absurd (show (0 : Int32) = 1 from z) (by decide)
  · rintro E u ⟨c, hE, hc, hI2, hun, u0_0, u0_1, u1_0, u2_0, u2_1, u3_0, u4_0, u4_1, u5_0, u6_0, u6_1, u7_0, u8_0, u8_1, u9_0, u10_0, u10_1, u11_0, u12_0, u12_1, u13_0, u14_0, u14_1, u15_0, u16_0, u16_1, u17_0, hU0, hU1, hU2, hU3, hU4, hU5, hU6, hU7, hU8, hU9, hU10, hU11, hU12, hU13, hU14, hU15, hU16, hU17, hF⟩
    have hp := hq.2
    rw [← hF] at hp
    have hk := K_NH_powerModulo_aet (x2 := x2) (x3 := x3) (x4 := x4) (x5 := x5) (t0_0 := t0_0) (t0_1 := t0_1) (t1_0 := t1_0) (t2_0 := t2_0) (t2_1 := t2_1) (t3_0 := t3_0) (t4_0 := t4_0) (t4_1 := t4_1) (t5_0 := t5_0) (t6_0 := t6_0) (t6_1 := t6_1) (t7_0 := t7_0) (t8_0 := t8_0) (t8_1 := t8_1) (t9_0 := t9_0) (t10_0 := t10_0) (t10_1 := t10_1) (t11_0 := t11_0) (t12_0 := t12_0) (t12_1 := t12_1) (t13_0 := t13_0) (t14_0 := t14_0) (t14_1 := t14_1) (t15_0 := t15_0) (t16_0 := t16_0) (t16_1 := t16_1) (t17_0 := t17_0)
    rw [← hF] at hk
    replace hk : kC12 c := hk
    refine ⟨c, hE, hk.resolve_left hc, ⟨hI2, ⟨fun i hi => ?_, fun i hi => ?_, ?_⟩, fun i hi => hun i (by simp only [List.mem_cons, List.not_mem_nil, or_false, not_or]; omega)⟩, ?_⟩
    · by_cases hk4 : i = i2
      · rw [hk4]; refine ⟨_, _, _, hU16, hU17, ?_⟩; first | exact hp
      · exact iW_fr (hC.1 i hi) (hun _ (by simp only [List.mem_cons, List.not_mem_nil, or_false, not_or]; omega)) (hun _ (by simp only [List.mem_cons, List.not_mem_nil, or_false, not_or]; omega))
    · exact iD_fr (hC.2.1 i hi) (hun _ (by simp only [List.mem_cons, List.not_mem_nil, or_false, not_or]; omega)) (hun _ (by simp only [List.mem_cons, List.not_mem_nil, or_false, not_or]; omega)) (hun _ (by simp only [List.mem_cons, List.not_mem_nil, or_false, not_or]; omega))
    · exact iO_fr hC.2.2 (hun _ (by simp only [List.mem_cons, List.not_mem_nil, or_false, not_or]; omega)) (hun _ (by simp only [List.mem_cons, List.not_mem_nil, or_false, not_or]; omega)) (hun _ (by simp only [List.mem_cons, List.not_mem_nil, or_false, not_or]; omega))
    · have hG := hF
      have fW : ∀ i, i < 10 → ¬ i = i2 → cWr g q u (66 + 5 * i) (zsW σ i) := fun i hi hk2 => cWr_fr (hS1 i hi) (hun _ (by simp only [List.mem_cons, List.not_mem_nil, or_false, not_or]; omega)) (hun _ (by simp only [List.mem_cons, List.not_mem_nil, or_false, not_or]; omega))
      have fD : ∀ i, i < 10 → cDr g q u (68 + 5 * i) (zsD σ i) := fun i hi => cDr_fr (hS2 i hi) (hun _ (by simp only [List.mem_cons, List.not_mem_nil, or_false, not_or]; omega)) (hun _ (by simp only [List.mem_cons, List.not_mem_nil, or_false, not_or]; omega)) (hun _ (by simp only [List.mem_cons, List.not_mem_nil, or_false, not_or]; omega))
      have fV : cFr g q u 7 (zsV σ) := (cFr_fr hS3 (hun _ (by simp only [List.mem_cons, List.not_mem_nil, or_false, not_or]; omega)))
      have fN : cFr g q u 8 (zsN σ) := (cFr_fr hS4 (hun _ (by simp only [List.mem_cons, List.not_mem_nil, or_false, not_or]; omega)))
      have fT : cTp g q u (zsL σ) (zsB σ) := (cTp_fr hS5 (hun _ (by simp only [List.mem_cons, List.not_mem_nil, or_false, not_or]; omega)) (hun _ (by simp only [List.mem_cons, List.not_mem_nil, or_false, not_or]; omega)))
      have fP : cPp g q u (zsP σ) := (cPp_fr hS6 (hun _ (by simp only [List.mem_cons, List.not_mem_nil, or_false, not_or]; omega)) (hun _ (by simp only [List.mem_cons, List.not_mem_nil, or_false, not_or]; omega)))
      have fA : cAr g q u (zsA σ) := (cAr_fr hS7 (fun i _ _ => (hun _ (by simp only [List.mem_cons, List.not_mem_nil, or_false, not_or]; omega))) (fun i _ _ => (hun _ (by simp only [List.mem_cons, List.not_mem_nil, or_false, not_or]; omega))))
      by_cases ok : (yReg x2 ∧ yReg x3 ∧ yReg x4 ∧ yReg x5)
      · have e22 := e2 (x_reg ok.1)
        have e33 := e3 (x_reg ok.2.1)
        have e44 := e4 (x_reg ok.2.2.1)
        have e55 := e5 (x_reg ok.2.2.2)
        have hv := V_powerModulo_aet (x2 := x2) (x3 := x3) (x4 := x4) (x5 := x5) (t0_0 := t0_0) (t0_1 := t0_1) (t1_0 := t1_0) (t2_0 := t2_0) (t2_1 := t2_1) (t3_0 := t3_0) (t4_0 := t4_0) (t4_1 := t4_1) (t5_0 := t5_0) (t6_0 := t6_0) (t6_1 := t6_1) (t7_0 := t7_0) (t8_0 := t8_0) (t8_1 := t8_1) (t9_0 := t9_0) (t10_0 := t10_0) (t10_1 := t10_1) (t11_0 := t11_0) (t12_0 := t12_0) (t12_1 := t12_1) (t13_0 := t13_0) (t14_0 := t14_0) (t14_1 := t14_1) (t15_0 := t15_0) (t16_0 := t16_0) (t16_1 := t16_1) (t17_0 := t17_0) gw2 hB2 (y_isRn ok.1) (y_isRn ok.2.1) (y_isRn ok.2.2.1) (y_isRn ok.2.2.2)
        rw [← hG] at hv
        rcases hv with ⟨v, o1, o2, z, o3⟩ | ⟨o1, z, o3⟩
        · exact absurd z hc
        · refine ⟨Or.inr ⟨ok, Or.inr ⟨by rw [← e22, ← e33, ← e44]; exact o1, z, rfl⟩⟩, ?_⟩
          refine ⟨(fun i hi => ?_), fD, fV, fN, fT, fP, fA⟩
          · by_cases hk2 : i = i2
            · rw [hk2]; exact ⟨_, _, _, hU16, hU17, o3⟩
            · exact fW i hi hk2
      · have hv := y_no_powerModulo_aet (x2 := x2) (x3 := x3) (x4 := x4) (x5 := x5) (t0_0 := t0_0) (t0_1 := t0_1) (t1_0 := t1_0) (t2_0 := t2_0) (t2_1 := t2_1) (t3_0 := t3_0) (t4_0 := t4_0) (t4_1 := t4_1) (t5_0 := t5_0) (t6_0 := t6_0) (t6_1 := t6_1) (t7_0 := t7_0) (t8_0 := t8_0) (t8_1 := t8_1) (t9_0 := t9_0) (t10_0 := t10_0) (t10_1 := t10_1) (t11_0 := t11_0) (t12_0 := t12_0) (t12_1 := t12_1) (t13_0 := t13_0) (t14_0 := t14_0) (t14_1 := t14_1) (t15_0 := t15_0) (t16_0 := t16_0) (t16_1 := t16_1) (t17_0 := t17_0) ok
        rw [← hG] at hv
        obtain ⟨z, eT0, eT1, eT2⟩ := hv
        replace eT0 : u16_0 = t16_0 := eT0
        replace eT1 : u16_1 = t16_1 := eT1
        replace eT2 : u17_0 = t17_0 := eT2
        refine ⟨Or.inl ⟨ok, z, rfl⟩, ?_⟩
        refine ⟨(fun i hi => ?_), fD, fV, fN, fT, fP, fA⟩
        · by_cases hk2 : i = i2
          · rw [hk2]; exact ⟨_, _, _, hU16, hU17, (by rw [eT0, eT1, eT2]; exact gw2)⟩
          · exact fW i hi hk2
theorem DW_powerModulo (l : Launch) (D : va_G) (g : Nat → ClassId) (q : Nat → Nat) (ws : va_W) (x2 : Int32) (x3 : Int32) (x4 : Int32) (x5 : Int32) (hlt : l.stackTraces = false) (hI : q_I (nsh g q) q ws) (hC : iC g q ws) {σ : zSt} (hS : sC g q ws σ) (hk0 : zOk σ) : ∀ sz, q_Mx l y_NH_powerModulo prog_1_method_10_code 5 none 9 4 24 D g [.ref (q 0), .int x2, .int x3, .int x4, .int x5] ws sz (va_Qv (fun u => iP g q ws u ∧ ∃ σ2, rPm x2 x3 x4 x5 σ 0 σ2 ∧ sC g q u σ2) (q_B D g (va_A ws sz)) (va_A ws sz)) (fun E u => ∃ c : Int32, E = qE c ∧ (c = 1 ∨ c = 2) ∧ iP g q ws u ∧ rPm x2 x3 x4 x5 σ c σ ∧ sC g q u σ) := by
  obtain ⟨i2, hi2, e2⟩ := iX x2
  obtain ⟨i3, hi3, e3⟩ := iX x3
  obtain ⟨i4, hi4, e4⟩ := iX x4
  obtain ⟨i5, hi5, e5⟩ := iX x5
  by_cases c24 : i2 = i4
  · by_cases c34 : i3 = i4
    · by_cases c54 : i5 = i4
      · exact CW_powerModulo_aet l D g q ws x2 x3 x4 x5 i2 hi2 e2 (fun h => by have z := e3 h; omega) (fun h => by have z := e4 h; omega) (fun h => by have z := e5 h; omega) hlt hI hC hS hk0
      · exact CW_powerModulo_ae l D g q ws x2 x3 x4 x5 i2 hi2 i5 hi5 e2 (fun h => by have z := e3 h; omega) (fun h => by have z := e4 h; omega) e5 (by omega) hlt hI hC hS hk0
    · by_cases c54 : i5 = i4
      · exact CW_powerModulo_at l D g q ws x2 x3 x4 x5 i2 hi2 i3 hi3 e2 e3 (fun h => by have z := e4 h; omega) (fun h => by have z := e5 h; omega) (by omega) hlt hI hC hS hk0
      · exact CW_powerModulo_a l D g q ws x2 x3 x4 x5 i2 hi2 i3 hi3 i5 hi5 e2 e3 (fun h => by have z := e4 h; omega) e5 (by omega) (by omega) hlt hI hC hS hk0
  · by_cases c34 : i3 = i4
    · by_cases c54 : i5 = i4
      · exact CW_powerModulo_et l D g q ws x2 x3 x4 x5 i2 hi2 i3 hi3 e2 e3 (fun h => by have z := e4 h; omega) (fun h => by have z := e5 h; omega) (by omega) hlt hI hC hS hk0
      · exact CW_powerModulo_e l D g q ws x2 x3 x4 x5 i2 hi2 i3 hi3 i5 hi5 e2 e3 (fun h => by have z := e4 h; omega) e5 (by omega) (by omega) hlt hI hC hS hk0
    · by_cases c54 : i5 = i4
      · exact CW_powerModulo_t l D g q ws x2 x3 x4 x5 i2 hi2 i3 hi3 i4 hi4 e2 e3 e4 (fun h => by have z := e5 h; omega) (by omega) (by omega) hlt hI hC hS hk0
      · exact CW_powerModulo l D g q ws x2 x3 x4 x5 i2 hi2 i3 hi3 i4 hi4 i5 hi5 e2 e3 e4 e5 (by omega) (by omega) (by omega) hlt hI hC hS hk0
