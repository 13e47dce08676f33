set_option maxRecDepth 100000 in
theorem CV_powerModulo (l : Launch) (D : va_G) (g : Nat → ClassId) (q : Nat → Nat) (ws : va_W) (x2 : Int32) (x3 : Int32) (x4 : Int32) (x5 : Int32) (i2 : Nat) (hi2 : i2 < 10) (i3 : Nat) (hi3 : i3 < 10) (i4 : Nat) (hi4 : i4 < 10) (i5 : Nat) (hi5 : i5 < 10) (e2 : x2.toNatClampNeg < 10 → i2 = x2.toNatClampNeg) (e3 : x3.toNatClampNeg < 10 → i3 = x3.toNatClampNeg) (e4 : x4.toNatClampNeg < 10 → i4 = x4.toNatClampNeg) (e5 : x5.toNatClampNeg < 10 → i5 = x5.toNatClampNeg) (nei2i4 : i2 ≠ i4) (nei3i4 : i3 ≠ i4) (nei5i4 : i5 ≠ i4) (hlt : l.stackTraces = false) (hI : q_I (nsh g q) q ws) (hC : iC g q ws) : ∀ sz, q_Mx l y_NH_powerModulo prog_1_method_10_code 5 none 9 4 24 D g [.ref (q 0), .int x2, .int x3, .int x4, .int x5] ws sz (va_Qv (fun u => iP g q ws u) (q_B D g (va_A ws sz)) (va_A ws sz)) (fun E u => (∃ c : Int32, E = qE c ∧ (c = 1 ∨ c = 2)) ∧ iP g q ws u) := by
  intro sz
  obtain ⟨t0_0, t0_1, hT0, bT0⟩ := q_bigO hI (n_b10 g q)
  obtain ⟨t1_0, hT1, bT1⟩ := n_ai hI (n_s11 g q)
  obtain ⟨t2_0, t2_1, hT2, bT2⟩ := q_bigO hI (n_b12 g q)
  obtain ⟨t3_0, hT3, bT3⟩ := n_ai hI (n_s13 g q)
  obtain ⟨t4_0, t4_1, hT4, bT4⟩ := q_bigO hI (n_b14 g q)
  obtain ⟨t5_0, hT5, bT5⟩ := n_ai hI (n_s15 g q)
  obtain ⟨t6_0, t6_1, hT6, bT6⟩ := q_bigO hI (n_b18 g q)
  obtain ⟨t7_0, hT7, bT7⟩ := n_ai hI (n_s19 g q)
  obtain ⟨t8_0, t8_1, hT8, bT8⟩ := q_bigO hI (n_b22 g q)
  obtain ⟨t9_0, hT9, bT9⟩ := n_ai hI (n_s23 g q)
  obtain ⟨t10_0, t10_1, hT10, bT10⟩ := q_bigO hI (n_b24 g q)
  obtain ⟨t11_0, hT11, bT11⟩ := n_ai hI (n_s25 g q)
  obtain ⟨t12_0, t12_1, hT12, bT12⟩ := q_bigO hI (n_b26 g q)
  obtain ⟨t13_0, hT13, bT13⟩ := n_ai hI (n_s27 g q)
  obtain ⟨t14_0, t14_1, hT14, bT14⟩ := q_bigO hI (n_b28 g q)
  obtain ⟨t15_0, hT15, bT15⟩ := n_ai hI (n_s29 g q)
  obtain ⟨t16_0, hZ9⟩ := hC.1 i2 hi2
  obtain ⟨t16_1, hZ9⟩ := hZ9
  obtain ⟨t17_0, hZ9⟩ := hZ9
  obtain ⟨hT16, hZ9⟩ := hZ9
  obtain ⟨hT17, hZ9⟩ := hZ9
  obtain ⟨vk2, hZ9⟩ := hZ9
  obtain ⟨hbk2, hBk2⟩ := hZ9
  obtain ⟨t18_0, hZ9⟩ := hC.1 i3 hi3
  obtain ⟨t18_1, hZ9⟩ := hZ9
  obtain ⟨t19_0, hZ9⟩ := hZ9
  obtain ⟨hT18, hZ9⟩ := hZ9
  obtain ⟨hT19, hZ9⟩ := hZ9
  obtain ⟨vk3, hZ9⟩ := hZ9
  obtain ⟨hbk3, hBk3⟩ := hZ9
  obtain ⟨t20_0, hZ9⟩ := hC.1 i4 hi4
  obtain ⟨t20_1, hZ9⟩ := hZ9
  obtain ⟨t21_0, hZ9⟩ := hZ9
  obtain ⟨hT20, hZ9⟩ := hZ9
  obtain ⟨hT21, hZ9⟩ := hZ9
  obtain ⟨vk4, hZ9⟩ := hZ9
  obtain ⟨hbk4, hBk4⟩ := hZ9
  obtain ⟨t22_0, hZ9⟩ := hC.1 i5 hi5
  obtain ⟨t22_1, hZ9⟩ := hZ9
  obtain ⟨t23_0, hZ9⟩ := hZ9
  obtain ⟨hT22, hZ9⟩ := hZ9
  obtain ⟨hT23, hZ9⟩ := hZ9
  obtain ⟨vk5, hZ9⟩ := hZ9
  obtain ⟨hbk5, hBk5⟩ := hZ9
  have hq := T_powerModulo (x2 := x2) (x3 := x3) (x4 := x4) (x5 := x5) (t0_0 := t0_0) (t0_1 := t0_1) (t1_0 := t1_0) (t2_0 := t2_0) (t2_1 := t2_1) (t3_0 := t3_0) (t4_0 := t4_0) (t4_1 := t4_1) (t5_0 := t5_0) (t6_0 := t6_0) (t6_1 := t6_1) (t7_0 := t7_0) (t8_0 := t8_0) (t8_1 := t8_1) (t9_0 := t9_0) (t10_0 := t10_0) (t10_1 := t10_1) (t11_0 := t11_0) (t12_0 := t12_0) (t12_1 := t12_1) (t13_0 := t13_0) (t14_0 := t14_0) (t14_1 := t14_1) (t15_0 := t15_0) (t16_0 := t16_0) (t16_1 := t16_1) (t17_0 := t17_0) (t18_0 := t18_0) (t18_1 := t18_1) (t19_0 := t19_0) (t20_0 := t20_0) (t20_1 := t20_1) (t21_0 := t21_0) (t22_0 := t22_0) (t22_1 := t22_1) (t23_0 := t23_0) hbk2 hBk2 hbk3 hbk4 hBk4 ⟨_, hbk5, hBk5⟩
  refine q_MxV (X_NH_powerModulo l D g q ws x2 x3 x4 x5 (66 + 5 * i2) (n_w g q hi2) (by omega) (fun h => by have z := e2 h; omega) (66 + 5 * i3) (n_w g q hi3) (by omega) (fun h => by have z := e3 h; omega) (66 + 5 * i4) (n_w g q hi4) (by omega) (fun h => by have z := e4 h; omega) (66 + 5 * i5) (n_w g q hi5) (by omega) (fun h => by have z := e5 h; omega) (by omega) (by omega) (by omega) (by omega) (by omega) (by omega) (by omega) (by omega) (by omega) hlt hI t0_0 t0_1 hT0 t1_0 hT1 t2_0 t2_1 hT2 t3_0 hT3 t4_0 t4_1 hT4 t5_0 hT5 t6_0 t6_1 hT6 t7_0 hT7 t8_0 t8_1 hT8 t9_0 hT9 t10_0 t10_1 hT10 t11_0 hT11 t12_0 t12_1 hT12 t13_0 hT13 t14_0 t14_1 hT14 t15_0 hT15 t16_0 t16_1 hT16 t17_0 hT17 t18_0 t18_1 hT18 t19_0 hT19 t20_0 t20_1 hT20 t21_0 hT21 t22_0 t22_1 hT22 t23_0 hT23 ⟨trivial, hq.1⟩ sz) ?_ ?_
  · rintro u hZ9
    obtain ⟨hI2, hZ9⟩ := hZ9
    obtain ⟨hun, hZ9⟩ := hZ9
    obtain ⟨u0_0, hZ9⟩ := hZ9
    obtain ⟨u0_1, hZ9⟩ := hZ9
    obtain ⟨u1_0, hZ9⟩ := hZ9
    obtain ⟨u2_0, hZ9⟩ := hZ9
    obtain ⟨u2_1, hZ9⟩ := hZ9
    obtain ⟨u3_0, hZ9⟩ := hZ9
    obtain ⟨u4_0, hZ9⟩ := hZ9
    obtain ⟨u4_1, hZ9⟩ := hZ9
    obtain ⟨u5_0, hZ9⟩ := hZ9
    obtain ⟨u6_0, hZ9⟩ := hZ9
    obtain ⟨u6_1, hZ9⟩ := hZ9
    obtain ⟨u7_0, hZ9⟩ := hZ9
    obtain ⟨u8_0, hZ9⟩ := hZ9
    obtain ⟨u8_1, hZ9⟩ := hZ9
    obtain ⟨u9_0, hZ9⟩ := hZ9
    obtain ⟨u10_0, hZ9⟩ := hZ9
    obtain ⟨u10_1, hZ9⟩ := hZ9
    obtain ⟨u11_0, hZ9⟩ := hZ9
    obtain ⟨u12_0, hZ9⟩ := hZ9
    obtain ⟨u12_1, hZ9⟩ := hZ9
    obtain ⟨u13_0, hZ9⟩ := hZ9
    obtain ⟨u14_0, hZ9⟩ := hZ9
    obtain ⟨u14_1, hZ9⟩ := hZ9
    obtain ⟨u15_0, hZ9⟩ := hZ9
    obtain ⟨u20_0, hZ9⟩ := hZ9
    obtain ⟨u20_1, hZ9⟩ := hZ9
    obtain ⟨u21_0, hZ9⟩ := hZ9
    obtain ⟨u22_0, hZ9⟩ := hZ9
    obtain ⟨u22_1, hZ9⟩ := hZ9
    obtain ⟨u23_0, hZ9⟩ := hZ9
    obtain ⟨hU0, hZ9⟩ := hZ9
    obtain ⟨hU1, hZ9⟩ := hZ9
    obtain ⟨hU2, hZ9⟩ := hZ9
    obtain ⟨hU3, hZ9⟩ := hZ9
    obtain ⟨hU4, hZ9⟩ := hZ9
    obtain ⟨hU5, hZ9⟩ := hZ9
    obtain ⟨hU6, hZ9⟩ := hZ9
    obtain ⟨hU7, hZ9⟩ := hZ9
    obtain ⟨hU8, hZ9⟩ := hZ9
    obtain ⟨hU9, hZ9⟩ := hZ9
    obtain ⟨hU10, hZ9⟩ := hZ9
    obtain ⟨hU11, hZ9⟩ := hZ9
    obtain ⟨hU12, hZ9⟩ := hZ9
    obtain ⟨hU13, hZ9⟩ := hZ9
    obtain ⟨hU14, hZ9⟩ := hZ9
    obtain ⟨hU15, hZ9⟩ := hZ9
    obtain ⟨hU16, hZ9⟩ := hZ9
    obtain ⟨hU17, hZ9⟩ := hZ9
    obtain ⟨hU18, hZ9⟩ := hZ9
    obtain ⟨hU19, hR⟩ := hZ9
    have hF := hR.2.2.2.2.2.2.2.2.2.2.2.2.2.2.2.2.2.2.2.2.2.2.2.2.2.2.2.2.2.2.2.2.2.2.2.2.2.2.2.2.2.2.2.2.2.2.2.2.2.2.2.2.2.2.2.2.2.2
    have hp := hq.2
    rw [← hF] at hp
    refine ⟨hI2, ⟨fun i hi => ?_, fun i hi => ?_, ?_⟩, fun i hi => hun i (by simp only [List.mem_cons, List.not_mem_nil, or_false, not_or]; omega)⟩
    · by_cases hk4 : i = i4
      · rw [hk4]; refine ⟨_, _, _, hU16, hU17, ?_⟩; first | exact ⟨_, hp.2, hBk4⟩
      · by_cases hk5 : i = i5
        · rw [hk5]; refine ⟨_, _, _, hU18, hU19, ?_⟩; first | exact hp.1
        · exact iW_fr (hC.1 i hi) (hun _ (by simp only [List.mem_cons, List.not_mem_nil, or_false, not_or]; omega)) (hun _ (by simp only [List.mem_cons, List.not_mem_nil, or_false, not_or]; omega))
    · exact iD_fr (hC.2.1 i hi) (hun _ (by simp only [List.mem_cons, List.not_mem_nil, or_false, not_or]; omega)) (hun _ (by simp only [List.mem_cons, List.not_mem_nil, or_false, not_or]; omega)) (hun _ (by simp only [List.mem_cons, List.not_mem_nil, or_false, not_or]; omega))
    · exact iO_fr hC.2.2 (hun _ (by simp only [List.mem_cons, List.not_mem_nil, or_false, not_or]; omega)) (hun _ (by simp only [List.mem_cons, List.not_mem_nil, or_false, not_or]; omega)) (hun _ (by simp only [List.mem_cons, List.not_mem_nil, or_false, not_or]; omega))
  · rintro E u hZ9
    obtain ⟨c, hZ9⟩ := hZ9
    obtain ⟨hE, hZ9⟩ := hZ9
    obtain ⟨hc, hZ9⟩ := hZ9
    obtain ⟨hI2, hZ9⟩ := hZ9
    obtain ⟨hun, hZ9⟩ := hZ9
    obtain ⟨u0_0, hZ9⟩ := hZ9
    obtain ⟨u0_1, hZ9⟩ := hZ9
    obtain ⟨u1_0, hZ9⟩ := hZ9
    obtain ⟨u2_0, hZ9⟩ := hZ9
    obtain ⟨u2_1, hZ9⟩ := hZ9
    obtain ⟨u3_0, hZ9⟩ := hZ9
    obtain ⟨u4_0, hZ9⟩ := hZ9
    obtain ⟨u4_1, hZ9⟩ := hZ9
    obtain ⟨u5_0, hZ9⟩ := hZ9
    obtain ⟨u6_0, hZ9⟩ := hZ9
    obtain ⟨u6_1, hZ9⟩ := hZ9
    obtain ⟨u7_0, hZ9⟩ := hZ9
    obtain ⟨u8_0, hZ9⟩ := hZ9
    obtain ⟨u8_1, hZ9⟩ := hZ9
    obtain ⟨u9_0, hZ9⟩ := hZ9
    obtain ⟨u10_0, hZ9⟩ := hZ9
    obtain ⟨u10_1, hZ9⟩ := hZ9
    obtain ⟨u11_0, hZ9⟩ := hZ9
    obtain ⟨u12_0, hZ9⟩ := hZ9
    obtain ⟨u12_1, hZ9⟩ := hZ9
    obtain ⟨u13_0, hZ9⟩ := hZ9
    obtain ⟨u14_0, hZ9⟩ := hZ9
    obtain ⟨u14_1, hZ9⟩ := hZ9
    obtain ⟨u15_0, hZ9⟩ := hZ9
    obtain ⟨u20_0, hZ9⟩ := hZ9
    obtain ⟨u20_1, hZ9⟩ := hZ9
    obtain ⟨u21_0, hZ9⟩ := hZ9
    obtain ⟨u22_0, hZ9⟩ := hZ9
    obtain ⟨u22_1, hZ9⟩ := hZ9
    obtain ⟨u23_0, hZ9⟩ := hZ9
    obtain ⟨hU0, hZ9⟩ := hZ9
    obtain ⟨hU1, hZ9⟩ := hZ9
    obtain ⟨hU2, hZ9⟩ := hZ9
    obtain ⟨hU3, hZ9⟩ := hZ9
    obtain ⟨hU4, hZ9⟩ := hZ9
    obtain ⟨hU5, hZ9⟩ := hZ9
    obtain ⟨hU6, hZ9⟩ := hZ9
    obtain ⟨hU7, hZ9⟩ := hZ9
    obtain ⟨hU8, hZ9⟩ := hZ9
    obtain ⟨hU9, hZ9⟩ := hZ9
    obtain ⟨hU10, hZ9⟩ := hZ9
    obtain ⟨hU11, hZ9⟩ := hZ9
    obtain ⟨hU12, hZ9⟩ := hZ9
    obtain ⟨hU13, hZ9⟩ := hZ9
    obtain ⟨hU14, hZ9⟩ := hZ9
    obtain ⟨hU15, hZ9⟩ := hZ9
    obtain ⟨hU16, hZ9⟩ := hZ9
    obtain ⟨hU17, hZ9⟩ := hZ9
    obtain ⟨hU18, hZ9⟩ := hZ9
    obtain ⟨hU19, hF⟩ := hZ9
    have hp := hq.2
    rw [← hF] at hp
    have hk := K_NH_powerModulo (x2 := x2) (x3 := x3) (x4 := x4) (x5 := x5) (t0_0 := t0_0) (t0_1 := t0_1) (t1_0 := t1_0) (t2_0 := t2_0) (t2_1 := t2_1) (t3_0 := t3_0) (t4_0 := t4_0) (t4_1 := t4_1) (t5_0 := t5_0) (t6_0 := t6_0) (t6_1 := t6_1) (t7_0 := t7_0) (t8_0 := t8_0) (t8_1 := t8_1) (t9_0 := t9_0) (t10_0 := t10_0) (t10_1 := t10_1) (t11_0 := t11_0) (t12_0 := t12_0) (t12_1 := t12_1) (t13_0 := t13_0) (t14_0 := t14_0) (t14_1 := t14_1) (t15_0 := t15_0) (t16_0 := t16_0) (t16_1 := t16_1) (t17_0 := t17_0) (t18_0 := t18_0) (t18_1 := t18_1) (t19_0 := t19_0) (t20_0 := t20_0) (t20_1 := t20_1) (t21_0 := t21_0) (t22_0 := t22_0) (t22_1 := t22_1) (t23_0 := t23_0)
    rw [← hF] at hk
    replace hk : kC12 c := hk
    refine ⟨⟨c, hE, hk.resolve_left hc⟩, hI2, ⟨fun i hi => ?_, fun i hi => ?_, ?_⟩, fun i hi => hun i (by simp only [List.mem_cons, List.not_mem_nil, or_false, not_or]; omega)⟩
    · by_cases hk4 : i = i4
      · rw [hk4]; refine ⟨_, _, _, hU16, hU17, ?_⟩; first | exact ⟨_, hp.2, hBk4⟩
      · by_cases hk5 : i = i5
        · rw [hk5]; refine ⟨_, _, _, hU18, hU19, ?_⟩; first | exact hp.1
        · exact iW_fr (hC.1 i hi) (hun _ (by simp only [List.mem_cons, List.not_mem_nil, or_false, not_or]; omega)) (hun _ (by simp only [List.mem_cons, List.not_mem_nil, or_false, not_or]; omega))
    · exact iD_fr (hC.2.1 i hi) (hun _ (by simp only [List.mem_cons, List.not_mem_nil, or_false, not_or]; omega)) (hun _ (by simp only [List.mem_cons, List.not_mem_nil, or_false, not_or]; omega)) (hun _ (by simp only [List.mem_cons, List.not_mem_nil, or_false, not_or]; omega))
    · exact iO_fr hC.2.2 (hun _ (by simp only [List.mem_cons, List.not_mem_nil, or_false, not_or]; omega)) (hun _ (by simp only [List.mem_cons, List.not_mem_nil, or_false, not_or]; omega)) (hun _ (by simp only [List.mem_cons, List.not_mem_nil, or_false, not_or]; omega))
set_option maxRecDepth 100000 in
theorem CV_powerModulo_a (l : Launch) (D : va_G) (g : Nat → ClassId) (q : Nat → Nat) (ws : va_W) (x2 : Int32) (x3 : Int32) (x4 : Int32) (x5 : Int32) (i2 : Nat) (hi2 : i2 < 10) (i3 : Nat) (hi3 : i3 < 10) (i5 : Nat) (hi5 : i5 < 10) (e2 : x2.toNatClampNeg < 10 → i2 = x2.toNatClampNeg) (e3 : x3.toNatClampNeg < 10 → i3 = x3.toNatClampNeg) (e4 : x4.toNatClampNeg < 10 → i2 = x4.toNatClampNeg) (e5 : x5.toNatClampNeg < 10 → i5 = x5.toNatClampNeg) (nei3i2 : i3 ≠ i2) (nei5i2 : i5 ≠ i2) (hlt : l.stackTraces = false) (hI : q_I (nsh g q) q ws) (hC : iC g q ws) : ∀ sz, q_Mx l y_NH_powerModulo prog_1_method_10_code 5 none 9 4 24 D g [.ref (q 0), .int x2, .int x3, .int x4, .int x5] ws sz (va_Qv (fun u => iP g q ws u) (q_B D g (va_A ws sz)) (va_A ws sz)) (fun E u => (∃ c : Int32, E = qE c ∧ (c = 1 ∨ c = 2)) ∧ iP g q ws u) := by
  intro sz
  obtain ⟨t0_0, t0_1, hT0, bT0⟩ := q_bigO hI (n_b10 g q)
  obtain ⟨t1_0, hT1, bT1⟩ := n_ai hI (n_s11 g q)
  obtain ⟨t2_0, t2_1, hT2, bT2⟩ := q_bigO hI (n_b12 g q)
  obtain ⟨t3_0, hT3, bT3⟩ := n_ai hI (n_s13 g q)
  obtain ⟨t4_0, t4_1, hT4, bT4⟩ := q_bigO hI (n_b14 g q)
  obtain ⟨t5_0, hT5, bT5⟩ := n_ai hI (n_s15 g q)
  obtain ⟨t6_0, t6_1, hT6, bT6⟩ := q_bigO hI (n_b18 g q)
  obtain ⟨t7_0, hT7, bT7⟩ := n_ai hI (n_s19 g q)
  obtain ⟨t8_0, t8_1, hT8, bT8⟩ := q_bigO hI (n_b22 g q)
  obtain ⟨t9_0, hT9, bT9⟩ := n_ai hI (n_s23 g q)
  obtain ⟨t10_0, t10_1, hT10, bT10⟩ := q_bigO hI (n_b24 g q)
  obtain ⟨t11_0, hT11, bT11⟩ := n_ai hI (n_s25 g q)
  obtain ⟨t12_0, t12_1, hT12, bT12⟩ := q_bigO hI (n_b26 g q)
  obtain ⟨t13_0, hT13, bT13⟩ := n_ai hI (n_s27 g q)
  obtain ⟨t14_0, t14_1, hT14, bT14⟩ := q_bigO hI (n_b28 g q)
  obtain ⟨t15_0, hT15, bT15⟩ := n_ai hI (n_s29 g q)
  obtain ⟨t16_0, hZ9⟩ := hC.1 i2 hi2
  obtain ⟨t16_1, hZ9⟩ := hZ9
  obtain ⟨t17_0, hZ9⟩ := hZ9
  obtain ⟨hT16, hZ9⟩ := hZ9
  obtain ⟨hT17, hZ9⟩ := hZ9
  obtain ⟨vk4, hZ9⟩ := hZ9
  obtain ⟨hbk4, hBk4⟩ := hZ9
  obtain ⟨t18_0, hZ9⟩ := hC.1 i3 hi3
  obtain ⟨t18_1, hZ9⟩ := hZ9
  obtain ⟨t19_0, hZ9⟩ := hZ9
  obtain ⟨hT18, hZ9⟩ := hZ9
  obtain ⟨hT19, hZ9⟩ := hZ9
  obtain ⟨vk3, hZ9⟩ := hZ9
  obtain ⟨hbk3, hBk3⟩ := hZ9
  obtain ⟨t20_0, hZ9⟩ := hC.1 i5 hi5
  obtain ⟨t20_1, hZ9⟩ := hZ9
  obtain ⟨t21_0, hZ9⟩ := hZ9
  obtain ⟨hT20, hZ9⟩ := hZ9
  obtain ⟨hT21, hZ9⟩ := hZ9
  obtain ⟨vk5, hZ9⟩ := hZ9
  obtain ⟨hbk5, hBk5⟩ := hZ9
  have hq := T_powerModulo_a (x2 := x2) (x3 := x3) (x4 := x4) (x5 := x5) (t0_0 := t0_0) (t0_1 := t0_1) (t1_0 := t1_0) (t2_0 := t2_0) (t2_1 := t2_1) (t3_0 := t3_0) (t4_0 := t4_0) (t4_1 := t4_1) (t5_0 := t5_0) (t6_0 := t6_0) (t6_1 := t6_1) (t7_0 := t7_0) (t8_0 := t8_0) (t8_1 := t8_1) (t9_0 := t9_0) (t10_0 := t10_0) (t10_1 := t10_1) (t11_0 := t11_0) (t12_0 := t12_0) (t12_1 := t12_1) (t13_0 := t13_0) (t14_0 := t14_0) (t14_1 := t14_1) (t15_0 := t15_0) (t16_0 := t16_0) (t16_1 := t16_1) (t17_0 := t17_0) (t18_0 := t18_0) (t18_1 := t18_1) (t19_0 := t19_0) (t20_0 := t20_0) (t20_1 := t20_1) (t21_0 := t21_0) hbk3 hbk4 hBk4 ⟨_, hbk5, hBk5⟩
  refine q_MxV (X_NH_powerModulo_a l D g q ws x2 x3 x4 x5 (66 + 5 * i2) (n_w g q hi2) (by omega) (fun h => by have z := e2 h; omega) (66 + 5 * i3) (n_w g q hi3) (by omega) (fun h => by have z := e3 h; omega) (fun h => by have z := e4 h; omega) (66 + 5 * i5) (n_w g q hi5) (by omega) (fun h => by have z := e5 h; omega) (by omega) (by omega) (by omega) (by omega) (by omega) (by omega) hlt hI t0_0 t0_1 hT0 t1_0 hT1 t2_0 t2_1 hT2 t3_0 hT3 t4_0 t4_1 hT4 t5_0 hT5 t6_0 t6_1 hT6 t7_0 hT7 t8_0 t8_1 hT8 t9_0 hT9 t10_0 t10_1 hT10 t11_0 hT11 t12_0 t12_1 hT12 t13_0 hT13 t14_0 t14_1 hT14 t15_0 hT15 t16_0 t16_1 hT16 t17_0 hT17 t18_0 t18_1 hT18 t19_0 hT19 t20_0 t20_1 hT20 t21_0 hT21 ⟨trivial, hq.1⟩ sz) ?_ ?_
  · rintro u hZ9
    obtain ⟨hI2, hZ9⟩ := hZ9
    obtain ⟨hun, hZ9⟩ := hZ9
    obtain ⟨u0_0, hZ9⟩ := hZ9
    obtain ⟨u0_1, hZ9⟩ := hZ9
    obtain ⟨u1_0, hZ9⟩ := hZ9
    obtain ⟨u2_0, hZ9⟩ := hZ9
    obtain ⟨u2_1, hZ9⟩ := hZ9
    obtain ⟨u3_0, hZ9⟩ := hZ9
    obtain ⟨u4_0, hZ9⟩ := hZ9
    obtain ⟨u4_1, hZ9⟩ := hZ9
    obtain ⟨u5_0, hZ9⟩ := hZ9
    obtain ⟨u6_0, hZ9⟩ := hZ9
    obtain ⟨u6_1, hZ9⟩ := hZ9
    obtain ⟨u7_0, hZ9⟩ := hZ9
    obtain ⟨u8_0, hZ9⟩ := hZ9
    obtain ⟨u8_1, hZ9⟩ := hZ9
    obtain ⟨u9_0, hZ9⟩ := hZ9
    obtain ⟨u10_0, hZ9⟩ := hZ9
    obtain ⟨u10_1, hZ9⟩ := hZ9
    obtain ⟨u11_0, hZ9⟩ := hZ9
    obtain ⟨u12_0, hZ9⟩ := hZ9
    obtain ⟨u12_1, hZ9⟩ := hZ9
    obtain ⟨u13_0, hZ9⟩ := hZ9
    obtain ⟨u14_0, hZ9⟩ := hZ9
    obtain ⟨u14_1, hZ9⟩ := hZ9
    obtain ⟨u15_0, hZ9⟩ := hZ9
    obtain ⟨u16_0, hZ9⟩ := hZ9
    obtain ⟨u16_1, hZ9⟩ := hZ9
    obtain ⟨u17_0, hZ9⟩ := hZ9
    obtain ⟨u20_0, hZ9⟩ := hZ9
    obtain ⟨u20_1, hZ9⟩ := hZ9
    obtain ⟨u21_0, hZ9⟩ := hZ9
    obtain ⟨hU0, hZ9⟩ := hZ9
    obtain ⟨hU1, hZ9⟩ := hZ9
    obtain ⟨hU2, hZ9⟩ := hZ9
    obtain ⟨hU3, hZ9⟩ := hZ9
    obtain ⟨hU4, hZ9⟩ := hZ9
    obtain ⟨hU5, hZ9⟩ := hZ9
    obtain ⟨hU6, hZ9⟩ := hZ9
    obtain ⟨hU7, hZ9⟩ := hZ9
    obtain ⟨hU8, hZ9⟩ := hZ9
    obtain ⟨hU9, hZ9⟩ := hZ9
    obtain ⟨hU10, hZ9⟩ := hZ9
    obtain ⟨hU11, hZ9⟩ := hZ9
    obtain ⟨hU12, hZ9⟩ := hZ9
    obtain ⟨hU13, hZ9⟩ := hZ9
    obtain ⟨hU14, hZ9⟩ := hZ9
    obtain ⟨hU15, hZ9⟩ := hZ9
    obtain ⟨hU16, hZ9⟩ := hZ9
    obtain ⟨hU17, hZ9⟩ := hZ9
    obtain ⟨hU18, hZ9⟩ := hZ9
    obtain ⟨hU19, hR⟩ := hZ9
    have hF := hR.2.2.2.2.2.2.2.2.2.2.2.2.2.2.2.2.2.2.2.2.2.2.2.2.2.2.2.2.2.2.2.2.2.2.2.2.2.2.2.2.2.2.2.2.2.2.2.2.2.2.2.2.2.2.2
    have hp := hq.2
    rw [← hF] at hp
    refine ⟨hI2, ⟨fun i hi => ?_, fun i hi => ?_, ?_⟩, fun i hi => hun i (by simp only [List.mem_cons, List.not_mem_nil, or_false, not_or]; omega)⟩
    · by_cases hk4 : i = i2
      · rw [hk4]; refine ⟨_, _, _, hU16, hU17, ?_⟩; first | exact ⟨_, hp.2, hBk4⟩
      · by_cases hk5 : i = i5
        · rw [hk5]; refine ⟨_, _, _, hU18, hU19, ?_⟩; first | exact hp.1
        · exact iW_fr (hC.1 i hi) (hun _ (by simp only [List.mem_cons, List.not_mem_nil, or_false, not_or]; omega)) (hun _ (by simp only [List.mem_cons, List.not_mem_nil, or_false, not_or]; omega))
    · exact iD_fr (hC.2.1 i hi) (hun _ (by simp only [List.mem_cons, List.not_mem_nil, or_false, not_or]; omega)) (hun _ (by simp only [List.mem_cons, List.not_mem_nil, or_false, not_or]; omega)) (hun _ (by simp only [List.mem_cons, List.not_mem_nil, or_false, not_or]; omega))
    · exact iO_fr hC.2.2 (hun _ (by simp only [List.mem_cons, List.not_mem_nil, or_false, not_or]; omega)) (hun _ (by simp only [List.mem_cons, List.not_mem_nil, or_false, not_or]; omega)) (hun _ (by simp only [List.mem_cons, List.not_mem_nil, or_false, not_or]; omega))
  · rintro E u hZ9
    obtain ⟨c, hZ9⟩ := hZ9
    obtain ⟨hE, hZ9⟩ := hZ9
    obtain ⟨hc, hZ9⟩ := hZ9
    obtain ⟨hI2, hZ9⟩ := hZ9
    obtain ⟨hun, hZ9⟩ := hZ9
    obtain ⟨u0_0, hZ9⟩ := hZ9
    obtain ⟨u0_1, hZ9⟩ := hZ9
    obtain ⟨u1_0, hZ9⟩ := hZ9
    obtain ⟨u2_0, hZ9⟩ := hZ9
    obtain ⟨u2_1, hZ9⟩ := hZ9
    obtain ⟨u3_0, hZ9⟩ := hZ9
    obtain ⟨u4_0, hZ9⟩ := hZ9
    obtain ⟨u4_1, hZ9⟩ := hZ9
    obtain ⟨u5_0, hZ9⟩ := hZ9
    obtain ⟨u6_0, hZ9⟩ := hZ9
    obtain ⟨u6_1, hZ9⟩ := hZ9
    obtain ⟨u7_0, hZ9⟩ := hZ9
    obtain ⟨u8_0, hZ9⟩ := hZ9
    obtain ⟨u8_1, hZ9⟩ := hZ9
    obtain ⟨u9_0, hZ9⟩ := hZ9
    obtain ⟨u10_0, hZ9⟩ := hZ9
    obtain ⟨u10_1, hZ9⟩ := hZ9
    obtain ⟨u11_0, hZ9⟩ := hZ9
    obtain ⟨u12_0, hZ9⟩ := hZ9
    obtain ⟨u12_1, hZ9⟩ := hZ9
    obtain ⟨u13_0, hZ9⟩ := hZ9
    obtain ⟨u14_0, hZ9⟩ := hZ9
    obtain ⟨u14_1, hZ9⟩ := hZ9
    obtain ⟨u15_0, hZ9⟩ := hZ9
    obtain ⟨u16_0, hZ9⟩ := hZ9
    obtain ⟨u16_1, hZ9⟩ := hZ9
    obtain ⟨u17_0, hZ9⟩ := hZ9
    obtain ⟨u20_0, hZ9⟩ := hZ9
    obtain ⟨u20_1, hZ9⟩ := hZ9
    obtain ⟨u21_0, hZ9⟩ := hZ9
    obtain ⟨hU0, hZ9⟩ := hZ9
    obtain ⟨hU1, hZ9⟩ := hZ9
    obtain ⟨hU2, hZ9⟩ := hZ9
    obtain ⟨hU3, hZ9⟩ := hZ9
    obtain ⟨hU4, hZ9⟩ := hZ9
    obtain ⟨hU5, hZ9⟩ := hZ9
    obtain ⟨hU6, hZ9⟩ := hZ9
    obtain ⟨hU7, hZ9⟩ := hZ9
    obtain ⟨hU8, hZ9⟩ := hZ9
    obtain ⟨hU9, hZ9⟩ := hZ9
    obtain ⟨hU10, hZ9⟩ := hZ9
    obtain ⟨hU11, hZ9⟩ := hZ9
    obtain ⟨hU12, hZ9⟩ := hZ9
    obtain ⟨hU13, hZ9⟩ := hZ9
    obtain ⟨hU14, hZ9⟩ := hZ9
    obtain ⟨hU15, hZ9⟩ := hZ9
    obtain ⟨hU16, hZ9⟩ := hZ9
    obtain ⟨hU17, hZ9⟩ := hZ9
    obtain ⟨hU18, hZ9⟩ := hZ9
    obtain ⟨hU19, hF⟩ := hZ9
    have hp := hq.2
    rw [← hF] at hp
    have hk := K_NH_powerModulo_a (x2 := x2) (x3 := x3) (x4 := x4) (x5 := x5) (t0_0 := t0_0) (t0_1 := t0_1) (t1_0 := t1_0) (t2_0 := t2_0) (t2_1 := t2_1) (t3_0 := t3_0) (t4_0 := t4_0) (t4_1 := t4_1) (t5_0 := t5_0) (t6_0 := t6_0) (t6_1 := t6_1) (t7_0 := t7_0) (t8_0 := t8_0) (t8_1 := t8_1) (t9_0 := t9_0) (t10_0 := t10_0) (t10_1 := t10_1) (t11_0 := t11_0) (t12_0 := t12_0) (t12_1 := t12_1) (t13_0 := t13_0) (t14_0 := t14_0) (t14_1 := t14_1) (t15_0 := t15_0) (t16_0 := t16_0) (t16_1 := t16_1) (t17_0 := t17_0) (t18_0 := t18_0) (t18_1 := t18_1) (t19_0 := t19_0) (t20_0 := t20_0) (t20_1 := t20_1) (t21_0 := t21_0)
    rw [← hF] at hk
    replace hk : kC12 c := hk
    refine ⟨⟨c, hE, hk.resolve_left hc⟩, hI2, ⟨fun i hi => ?_, fun i hi => ?_, ?_⟩, fun i hi => hun i (by simp only [List.mem_cons, List.not_mem_nil, or_false, not_or]; omega)⟩
    · by_cases hk4 : i = i2
      · rw [hk4]; refine ⟨_, _, _, hU16, hU17, ?_⟩; first | exact ⟨_, hp.2, hBk4⟩
      · by_cases hk5 : i = i5
        · rw [hk5]; refine ⟨_, _, _, hU18, hU19, ?_⟩; first | exact hp.1
        · exact iW_fr (hC.1 i hi) (hun _ (by simp only [List.mem_cons, List.not_mem_nil, or_false, not_or]; omega)) (hun _ (by simp only [List.mem_cons, List.not_mem_nil, or_false, not_or]; omega))
    · exact iD_fr (hC.2.1 i hi) (hun _ (by simp only [List.mem_cons, List.not_mem_nil, or_false, not_or]; omega)) (hun _ (by simp only [List.mem_cons, List.not_mem_nil, or_false, not_or]; omega)) (hun _ (by simp only [List.mem_cons, List.not_mem_nil, or_false, not_or]; omega))
    · exact iO_fr hC.2.2 (hun _ (by simp only [List.mem_cons, List.not_mem_nil, or_false, not_or]; omega)) (hun _ (by simp only [List.mem_cons, List.not_mem_nil, or_false, not_or]; omega)) (hun _ (by simp only [List.mem_cons, List.not_mem_nil, or_false, not_or]; omega))
set_option maxRecDepth 100000 in
theorem CV_powerModulo_e (l : Launch) (D : va_G) (g : Nat → ClassId) (q : Nat → Nat) (ws : va_W) (x2 : Int32) (x3 : Int32) (x4 : Int32) (x5 : Int32) (i2 : Nat) (hi2 : i2 < 10) (i3 : Nat) (hi3 : i3 < 10) (i5 : Nat) (hi5 : i5 < 10) (e2 : x2.toNatClampNeg < 10 → i2 = x2.toNatClampNeg) (e3 : x3.toNatClampNeg < 10 → i3 = x3.toNatClampNeg) (e4 : x4.toNatClampNeg < 10 → i3 = x4.toNatClampNeg) (e5 : x5.toNatClampNeg < 10 → i5 = x5.toNatClampNeg) (nei2i3 : i2 ≠ i3) (nei5i3 : i5 ≠ i3) (hlt : l.stackTraces = false) (hI : q_I (nsh g q) q ws) (hC : iC g q ws) : ∀ sz, q_Mx l y_NH_powerModulo prog_1_method_10_code 5 none 9 4 24 D g [.ref (q 0), .int x2, .int x3, .int x4, .int x5] ws sz (va_Qv (fun u => iP g q ws u) (q_B D g (va_A ws sz)) (va_A ws sz)) (fun E u => (∃ c : Int32, E = qE c ∧ (c = 1 ∨ c = 2)) ∧ iP g q ws u) := by
  intro sz
  obtain ⟨t0_0, t0_1, hT0, bT0⟩ := q_bigO hI (n_b10 g q)
  obtain ⟨t1_0, hT1, bT1⟩ := n_ai hI (n_s11 g q)
  obtain ⟨t2_0, t2_1, hT2, bT2⟩ := q_bigO hI (n_b12 g q)
  obtain ⟨t3_0, hT3, bT3⟩ := n_ai hI (n_s13 g q)
  obtain ⟨t4_0, t4_1, hT4, bT4⟩ := q_bigO hI (n_b14 g q)
  obtain ⟨t5_0, hT5, bT5⟩ := n_ai hI (n_s15 g q)
  obtain ⟨t6_0, t6_1, hT6, bT6⟩ := q_bigO hI (n_b18 g q)
  obtain ⟨t7_0, hT7, bT7⟩ := n_ai hI (n_s19 g q)
  obtain ⟨t8_0, t8_1, hT8, bT8⟩ := q_bigO hI (n_b22 g q)
  obtain ⟨t9_0, hT9, bT9⟩ := n_ai hI (n_s23 g q)
  obtain ⟨t10_0, t10_1, hT10, bT10⟩ := q_bigO hI (n_b24 g q)
  obtain ⟨t11_0, hT11, bT11⟩ := n_ai hI (n_s25 g q)
  obtain ⟨t12_0, t12_1, hT12, bT12⟩ := q_bigO hI (n_b26 g q)
  obtain ⟨t13_0, hT13, bT13⟩ := n_ai hI (n_s27 g q)
  obtain ⟨t14_0, t14_1, hT14, bT14⟩ := q_bigO hI (n_b28 g q)
  obtain ⟨t15_0, hT15, bT15⟩ := n_ai hI (n_s29 g q)
  obtain ⟨t16_0, hZ9⟩ := hC.1 i2 hi2
  obtain ⟨t16_1, hZ9⟩ := hZ9
  obtain ⟨t17_0, hZ9⟩ := hZ9
  obtain ⟨hT16, hZ9⟩ := hZ9
  obtain ⟨hT17, hZ9⟩ := hZ9
  obtain ⟨vk2, hZ9⟩ := hZ9
  obtain ⟨hbk2, hBk2⟩ := hZ9
  obtain ⟨t18_0, hZ9⟩ := hC.1 i3 hi3
  obtain ⟨t18_1, hZ9⟩ := hZ9
  obtain ⟨t19_0, hZ9⟩ := hZ9
  obtain ⟨hT18, hZ9⟩ := hZ9
  obtain ⟨hT19, hZ9⟩ := hZ9
  obtain ⟨vk4, hZ9⟩ := hZ9
  obtain ⟨hbk4, hBk4⟩ := hZ9
  obtain ⟨t20_0, hZ9⟩ := hC.1 i5 hi5
  obtain ⟨t20_1, hZ9⟩ := hZ9
  obtain ⟨t21_0, hZ9⟩ := hZ9
  obtain ⟨hT20, hZ9⟩ := hZ9
  obtain ⟨hT21, hZ9⟩ := hZ9
  obtain ⟨vk5, hZ9⟩ := hZ9
  obtain ⟨hbk5, hBk5⟩ := hZ9
  have hq := T_powerModulo_e (x2 := x2) (x3 := x3) (x4 := x4) (x5 := x5) (t0_0 := t0_0) (t0_1 := t0_1) (t1_0 := t1_0) (t2_0 := t2_0) (t2_1 := t2_1) (t3_0 := t3_0) (t4_0 := t4_0) (t4_1 := t4_1) (t5_0 := t5_0) (t6_0 := t6_0) (t6_1 := t6_1) (t7_0 := t7_0) (t8_0 := t8_0) (t8_1 := t8_1) (t9_0 := t9_0) (t10_0 := t10_0) (t10_1 := t10_1) (t11_0 := t11_0) (t12_0 := t12_0) (t12_1 := t12_1) (t13_0 := t13_0) (t14_0 := t14_0) (t14_1 := t14_1) (t15_0 := t15_0) (t16_0 := t16_0) (t16_1 := t16_1) (t17_0 := t17_0) (t18_0 := t18_0) (t18_1 := t18_1) (t19_0 := t19_0) (t20_0 := t20_0) (t20_1 := t20_1) (t21_0 := t21_0) hbk2 hBk2 hbk4 hBk4 ⟨_, hbk5, hBk5⟩
  refine q_MxV (X_NH_powerModulo_e l D g q ws x2 x3 x4 x5 (66 + 5 * i2) (n_w g q hi2) (by omega) (fun h => by have z := e2 h; omega) (66 + 5 * i3) (n_w g q hi3) (by omega) (fun h => by have z := e3 h; omega) (fun h => by have z := e4 h; omega) (66 + 5 * i5) (n_w g q hi5) (by omega) (fun h => by have z := e5 h; omega) (by omega) (by omega) (by omega) (by omega) (by omega) (by omega) hlt hI t0_0 t0_1 hT0 t1_0 hT1 t2_0 t2_1 hT2 t3_0 hT3 t4_0 t4_1 hT4 t5_0 hT5 t6_0 t6_1 hT6 t7_0 hT7 t8_0 t8_1 hT8 t9_0 hT9 t10_0 t10_1 hT10 t11_0 hT11 t12_0 t12_1 hT12 t13_0 hT13 t14_0 t14_1 hT14 t15_0 hT15 t16_0 t16_1 hT16 t17_0 hT17 t18_0 t18_1 hT18 t19_0 hT19 t20_0 t20_1 hT20 t21_0 hT21 ⟨trivial, hq.1⟩ sz) ?_ ?_
  · rintro u hZ9
    obtain ⟨hI2, hZ9⟩ := hZ9
    obtain ⟨hun, hZ9⟩ := hZ9
    obtain ⟨u0_0, hZ9⟩ := hZ9
    obtain ⟨u0_1, hZ9⟩ := hZ9
    obtain ⟨u1_0, hZ9⟩ := hZ9
    obtain ⟨u2_0, hZ9⟩ := hZ9
    obtain ⟨u2_1, hZ9⟩ := hZ9
    obtain ⟨u3_0, hZ9⟩ := hZ9
    obtain ⟨u4_0, hZ9⟩ := hZ9
    obtain ⟨u4_1, hZ9⟩ := hZ9
    obtain ⟨u5_0, hZ9⟩ := hZ9
    obtain ⟨u6_0, hZ9⟩ := hZ9
    obtain ⟨u6_1, hZ9⟩ := hZ9
    obtain ⟨u7_0, hZ9⟩ := hZ9
    obtain ⟨u8_0, hZ9⟩ := hZ9
    obtain ⟨u8_1, hZ9⟩ := hZ9
    obtain ⟨u9_0, hZ9⟩ := hZ9
    obtain ⟨u10_0, hZ9⟩ := hZ9
    obtain ⟨u10_1, hZ9⟩ := hZ9
    obtain ⟨u11_0, hZ9⟩ := hZ9
    obtain ⟨u12_0, hZ9⟩ := hZ9
    obtain ⟨u12_1, hZ9⟩ := hZ9
    obtain ⟨u13_0, hZ9⟩ := hZ9
    obtain ⟨u14_0, hZ9⟩ := hZ9
    obtain ⟨u14_1, hZ9⟩ := hZ9
    obtain ⟨u15_0, hZ9⟩ := hZ9
    obtain ⟨u18_0, hZ9⟩ := hZ9
    obtain ⟨u18_1, hZ9⟩ := hZ9
    obtain ⟨u19_0, hZ9⟩ := hZ9
    obtain ⟨u20_0, hZ9⟩ := hZ9
    obtain ⟨u20_1, hZ9⟩ := hZ9
    obtain ⟨u21_0, hZ9⟩ := hZ9
    obtain ⟨hU0, hZ9⟩ := hZ9
    obtain ⟨hU1, hZ9⟩ := hZ9
    obtain ⟨hU2, hZ9⟩ := hZ9
    obtain ⟨hU3, hZ9⟩ := hZ9
    obtain ⟨hU4, hZ9⟩ := hZ9
    obtain ⟨hU5, hZ9⟩ := hZ9
    obtain ⟨hU6, hZ9⟩ := hZ9
    obtain ⟨hU7, hZ9⟩ := hZ9
    obtain ⟨hU8, hZ9⟩ := hZ9
    obtain ⟨hU9, hZ9⟩ := hZ9
    obtain ⟨hU10, hZ9⟩ := hZ9
    obtain ⟨hU11, hZ9⟩ := hZ9
    obtain ⟨hU12, hZ9⟩ := hZ9
    obtain ⟨hU13, hZ9⟩ := hZ9
    obtain ⟨hU14, hZ9⟩ := hZ9
    obtain ⟨hU15, hZ9⟩ := hZ9
    obtain ⟨hU16, hZ9⟩ := hZ9
    obtain ⟨hU17, hZ9⟩ := hZ9
    obtain ⟨hU18, hZ9⟩ := hZ9
    obtain ⟨hU19, hR⟩ := hZ9
    have hF := hR.2.2.2.2.2.2.2.2.2.2.2.2.2.2.2.2.2.2.2.2.2.2.2.2.2.2.2.2.2.2.2.2.2.2.2.2.2.2.2.2.2.2.2.2.2.2.2.2.2.2.2.2.2.2.2.2.2
    have hp := hq.2
    rw [← hF] at hp
    refine ⟨hI2, ⟨fun i hi => ?_, fun i hi => ?_, ?_⟩, fun i hi => hun i (by simp only [List.mem_cons, List.not_mem_nil, or_false, not_or]; omega)⟩
    · by_cases hk4 : i = i3
      · rw [hk4]; refine ⟨_, _, _, hU16, hU17, ?_⟩; first | exact ⟨_, hp.2, hBk4⟩
      · by_cases hk5 : i = i5
        · rw [hk5]; refine ⟨_, _, _, hU18, hU19, ?_⟩; first | exact hp.1
        · exact iW_fr (hC.1 i hi) (hun _ (by simp only [List.mem_cons, List.not_mem_nil, or_false, not_or]; omega)) (hun _ (by simp only [List.mem_cons, List.not_mem_nil, or_false, not_or]; omega))
    · exact iD_fr (hC.2.1 i hi) (hun _ (by simp only [List.mem_cons, List.not_mem_nil, or_false, not_or]; omega)) (hun _ (by simp only [List.mem_cons, List.not_mem_nil, or_false, not_or]; omega)) (hun _ (by simp only [List.mem_cons, List.not_mem_nil, or_false, not_or]; omega))
    · exact iO_fr hC.2.2 (hun _ (by simp only [List.mem_cons, List.not_mem_nil, or_false, not_or]; omega)) (hun _ (by simp only [List.mem_cons, List.not_mem_nil, or_false, not_or]; omega)) (hun _ (by simp only [List.mem_cons, List.not_mem_nil, or_false, not_or]; omega))
  · rintro E u hZ9
    obtain ⟨c, hZ9⟩ := hZ9
    obtain ⟨hE, hZ9⟩ := hZ9
    obtain ⟨hc, hZ9⟩ := hZ9
    obtain ⟨hI2, hZ9⟩ := hZ9
    obtain ⟨hun, hZ9⟩ := hZ9
    obtain ⟨u0_0, hZ9⟩ := hZ9
    obtain ⟨u0_1, hZ9⟩ := hZ9
    obtain ⟨u1_0, hZ9⟩ := hZ9
    obtain ⟨u2_0, hZ9⟩ := hZ9
    obtain ⟨u2_1, hZ9⟩ := hZ9
    obtain ⟨u3_0, hZ9⟩ := hZ9
    obtain ⟨u4_0, hZ9⟩ := hZ9
    obtain ⟨u4_1, hZ9⟩ := hZ9
    obtain ⟨u5_0, hZ9⟩ := hZ9
    obtain ⟨u6_0, hZ9⟩ := hZ9
    obtain ⟨u6_1, hZ9⟩ := hZ9
    obtain ⟨u7_0, hZ9⟩ := hZ9
    obtain ⟨u8_0, hZ9⟩ := hZ9
    obtain ⟨u8_1, hZ9⟩ := hZ9
    obtain ⟨u9_0, hZ9⟩ := hZ9
    obtain ⟨u10_0, hZ9⟩ := hZ9
    obtain ⟨u10_1, hZ9⟩ := hZ9
    obtain ⟨u11_0, hZ9⟩ := hZ9
    obtain ⟨u12_0, hZ9⟩ := hZ9
    obtain ⟨u12_1, hZ9⟩ := hZ9
    obtain ⟨u13_0, hZ9⟩ := hZ9
    obtain ⟨u14_0, hZ9⟩ := hZ9
    obtain ⟨u14_1, hZ9⟩ := hZ9
    obtain ⟨u15_0, hZ9⟩ := hZ9
    obtain ⟨u18_0, hZ9⟩ := hZ9
    obtain ⟨u18_1, hZ9⟩ := hZ9
    obtain ⟨u19_0, hZ9⟩ := hZ9
    obtain ⟨u20_0, hZ9⟩ := hZ9
    obtain ⟨u20_1, hZ9⟩ := hZ9
    obtain ⟨u21_0, hZ9⟩ := hZ9
    obtain ⟨hU0, hZ9⟩ := hZ9
    obtain ⟨hU1, hZ9⟩ := hZ9
    obtain ⟨hU2, hZ9⟩ := hZ9
    obtain ⟨hU3, hZ9⟩ := hZ9
    obtain ⟨hU4, hZ9⟩ := hZ9
    obtain ⟨hU5, hZ9⟩ := hZ9
    obtain ⟨hU6, hZ9⟩ := hZ9
    obtain ⟨hU7, hZ9⟩ := hZ9
    obtain ⟨hU8, hZ9⟩ := hZ9
    obtain ⟨hU9, hZ9⟩ := hZ9
    obtain ⟨hU10, hZ9⟩ := hZ9
    obtain ⟨hU11, hZ9⟩ := hZ9
    obtain ⟨hU12, hZ9⟩ := hZ9
    obtain ⟨hU13, hZ9⟩ := hZ9
    obtain ⟨hU14, hZ9⟩ := hZ9
    obtain ⟨hU15, hZ9⟩ := hZ9
    obtain ⟨hU16, hZ9⟩ := hZ9
    obtain ⟨hU17, hZ9⟩ := hZ9
    obtain ⟨hU18, hZ9⟩ := hZ9
    obtain ⟨hU19, hF⟩ := hZ9
    have hp := hq.2
    rw [← hF] at hp
    have hk := K_NH_powerModulo_e (x2 := x2) (x3 := x3) (x4 := x4) (x5 := x5) (t0_0 := t0_0) (t0_1 := t0_1) (t1_0 := t1_0) (t2_0 := t2_0) (t2_1 := t2_1) (t3_0 := t3_0) (t4_0 := t4_0) (t4_1 := t4_1) (t5_0 := t5_0) (t6_0 := t6_0) (t6_1 := t6_1) (t7_0 := t7_0) (t8_0 := t8_0) (t8_1 := t8_1) (t9_0 := t9_0) (t10_0 := t10_0) (t10_1 := t10_1) (t11_0 := t11_0) (t12_0 := t12_0) (t12_1 := t12_1) (t13_0 := t13_0) (t14_0 := t14_0) (t14_1 := t14_1) (t15_0 := t15_0) (t16_0 := t16_0) (t16_1 := t16_1) (t17_0 := t17_0) (t18_0 := t18_0) (t18_1 := t18_1) (t19_0 := t19_0) (t20_0 := t20_0) (t20_1 := t20_1) (t21_0 := t21_0)
    rw [← hF] at hk
    replace hk : kC12 c := hk
    refine ⟨⟨c, hE, hk.resolve_left hc⟩, hI2, ⟨fun i hi => ?_, fun i hi => ?_, ?_⟩, fun i hi => hun i (by simp only [List.mem_cons, List.not_mem_nil, or_false, not_or]; omega)⟩
    · by_cases hk4 : i = i3
      · rw [hk4]; refine ⟨_, _, _, hU16, hU17, ?_⟩; first | exact ⟨_, hp.2, hBk4⟩
      · by_cases hk5 : i = i5
        · rw [hk5]; refine ⟨_, _, _, hU18, hU19, ?_⟩; first | exact hp.1
        · exact iW_fr (hC.1 i hi) (hun _ (by simp only [List.mem_cons, List.not_mem_nil, or_false, not_or]; omega)) (hun _ (by simp only [List.mem_cons, List.not_mem_nil, or_false, not_or]; omega))
    · exact iD_fr (hC.2.1 i hi) (hun _ (by simp only [List.mem_cons, List.not_mem_nil, or_false, not_or]; omega)) (hun _ (by simp only [List.mem_cons, List.not_mem_nil, or_false, not_or]; omega)) (hun _ (by simp only [List.mem_cons, List.not_mem_nil, or_false, not_or]; omega))
    · exact iO_fr hC.2.2 (hun _ (by simp only [List.mem_cons, List.not_mem_nil, or_false, not_or]; omega)) (hun _ (by simp only [List.mem_cons, List.not_mem_nil, or_false, not_or]; omega)) (hun _ (by simp only [List.mem_cons, List.not_mem_nil, or_false, not_or]; omega))
set_option maxRecDepth 100000 in
theorem CV_powerModulo_ae (l : Launch) (D : va_G) (g : Nat → ClassId) (q : Nat → Nat) (ws : va_W) (x2 : Int32) (x3 : Int32) (x4 : Int32) (x5 : Int32) (i2 : Nat) (hi2 : i2 < 10) (i5 : Nat) (hi5 : i5 < 10) (e2 : x2.toNatClampNeg < 10 → i2 = x2.toNatClampNeg) (e3 : x3.toNatClampNeg < 10 → i2 = x3.toNatClampNeg) (e4 : x4.toNatClampNeg < 10 → i2 = x4.toNatClampNeg) (e5 : x5.toNatClampNeg < 10 → i5 = x5.toNatClampNeg) (nei5i2 : i5 ≠ i2) (hlt : l.stackTraces = false) (hI : q_I (nsh g q) q ws) (hC : iC g q ws) : ∀ sz, q_Mx l y_NH_powerModulo prog_1_method_10_code 5 none 9 4 24 D g [.ref (q 0), .int x2, .int x3, .int x4, .int x5] ws sz (va_Qv (fun u => iP g q ws u) (q_B D g (va_A ws sz)) (va_A ws sz)) (fun E u => (∃ c : Int32, E = qE c ∧ (c = 1 ∨ c = 2)) ∧ iP g q ws u) := by
  intro sz
  obtain ⟨t0_0, t0_1, hT0, bT0⟩ := q_bigO hI (n_b10 g q)
  obtain ⟨t1_0, hT1, bT1⟩ := n_ai hI (n_s11 g q)
  obtain ⟨t2_0, t2_1, hT2, bT2⟩ := q_bigO hI (n_b12 g q)
  obtain ⟨t3_0, hT3, bT3⟩ := n_ai hI (n_s13 g q)
  obtain ⟨t4_0, t4_1, hT4, bT4⟩ := q_bigO hI (n_b14 g q)
  obtain ⟨t5_0, hT5, bT5⟩ := n_ai hI (n_s15 g q)
  obtain ⟨t6_0, t6_1, hT6, bT6⟩ := q_bigO hI (n_b18 g q)
  obtain ⟨t7_0, hT7, bT7⟩ := n_ai hI (n_s19 g q)
  obtain ⟨t8_0, t8_1, hT8, bT8⟩ := q_bigO hI (n_b22 g q)
  obtain ⟨t9_0, hT9, bT9⟩ := n_ai hI (n_s23 g q)
  obtain ⟨t10_0, t10_1, hT10, bT10⟩ := q_bigO hI (n_b24 g q)
  obtain ⟨t11_0, hT11, bT11⟩ := n_ai hI (n_s25 g q)
  obtain ⟨t12_0, t12_1, hT12, bT12⟩ := q_bigO hI (n_b26 g q)
  obtain ⟨t13_0, hT13, bT13⟩ := n_ai hI (n_s27 g q)
  obtain ⟨t14_0, t14_1, hT14, bT14⟩ := q_bigO hI (n_b28 g q)
  obtain ⟨t15_0, hT15, bT15⟩ := n_ai hI (n_s29 g q)
  obtain ⟨t16_0, hZ9⟩ := hC.1 i2 hi2
  obtain ⟨t16_1, hZ9⟩ := hZ9
  obtain ⟨t17_0, hZ9⟩ := hZ9
  obtain ⟨hT16, hZ9⟩ := hZ9
  obtain ⟨hT17, hZ9⟩ := hZ9
  obtain ⟨vk4, hZ9⟩ := hZ9
  obtain ⟨hbk4, hBk4⟩ := hZ9
  obtain ⟨t18_0, hZ9⟩ := hC.1 i5 hi5
  obtain ⟨t18_1, hZ9⟩ := hZ9
  obtain ⟨t19_0, hZ9⟩ := hZ9
  obtain ⟨hT18, hZ9⟩ := hZ9
  obtain ⟨hT19, hZ9⟩ := hZ9
  obtain ⟨vk5, hZ9⟩ := hZ9
  obtain ⟨hbk5, hBk5⟩ := hZ9
  have hq := T_powerModulo_ae (x2 := x2) (x3 := x3) (x4 := x4) (x5 := x5) (t0_0 := t0_0) (t0_1 := t0_1) (t1_0 := t1_0) (t2_0 := t2_0) (t2_1 := t2_1) (t3_0 := t3_0) (t4_0 := t4_0) (t4_1 := t4_1) (t5_0 := t5_0) (t6_0 := t6_0) (t6_1 := t6_1) (t7_0 := t7_0) (t8_0 := t8_0) (t8_1 := t8_1) (t9_0 := t9_0) (t10_0 := t10_0) (t10_1 := t10_1) (t11_0 := t11_0) (t12_0 := t12_0) (t12_1 := t12_1) (t13_0 := t13_0) (t14_0 := t14_0) (t14_1 := t14_1) (t15_0 := t15_0) (t16_0 := t16_0) (t16_1 := t16_1) (t17_0 := t17_0) (t18_0 := t18_0) (t18_1 := t18_1) (t19_0 := t19_0) hbk4 hBk4 ⟨_, hbk5, hBk5⟩
  refine q_MxV (X_NH_powerModulo_ae l D g q ws x2 x3 x4 x5 (66 + 5 * i2) (n_w g q hi2) (by omega) (fun h => by have z := e2 h; omega) (fun h => by have z := e3 h; omega) (fun h => by have z := e4 h; omega) (66 + 5 * i5) (n_w g q hi5) (by omega) (fun h => by have z := e5 h; omega) (by omega) (by omega) (by omega) hlt hI t0_0 t0_1 hT0 t1_0 hT1 t2_0 t2_1 hT2 t3_0 hT3 t4_0 t4_1 hT4 t5_0 hT5 t6_0 t6_1 hT6 t7_0 hT7 t8_0 t8_1 hT8 t9_0 hT9 t10_0 t10_1 hT10 t11_0 hT11 t12_0 t12_1 hT12 t13_0 hT13 t14_0 t14_1 hT14 t15_0 hT15 t16_0 t16_1 hT16 t17_0 hT17 t18_0 t18_1 hT18 t19_0 hT19 ⟨trivial, hq.1⟩ sz) ?_ ?_
  · rintro u hZ9
    obtain ⟨hI2, hZ9⟩ := hZ9
    obtain ⟨hun, hZ9⟩ := hZ9
    obtain ⟨u0_0, hZ9⟩ := hZ9
    obtain ⟨u0_1, hZ9⟩ := hZ9
    obtain ⟨u1_0, hZ9⟩ := hZ9
    obtain ⟨u2_0, hZ9⟩ := hZ9
    obtain ⟨u2_1, hZ9⟩ := hZ9
    obtain ⟨u3_0, hZ9⟩ := hZ9
    obtain ⟨u4_0, hZ9⟩ := hZ9
    obtain ⟨u4_1, hZ9⟩ := hZ9
    obtain ⟨u5_0, hZ9⟩ := hZ9
    obtain ⟨u6_0, hZ9⟩ := hZ9
    obtain ⟨u6_1, hZ9⟩ := hZ9
    obtain ⟨u7_0, hZ9⟩ := hZ9
    obtain ⟨u8_0, hZ9⟩ := hZ9
    obtain ⟨u8_1, hZ9⟩ := hZ9
    obtain ⟨u9_0, hZ9⟩ := hZ9
    obtain ⟨u10_0, hZ9⟩ := hZ9
    obtain ⟨u10_1, hZ9⟩ := hZ9
    obtain ⟨u11_0, hZ9⟩ := hZ9
    obtain ⟨u12_0, hZ9⟩ := hZ9
    obtain ⟨u12_1, hZ9⟩ := hZ9
    obtain ⟨u13_0, hZ9⟩ := hZ9
    obtain ⟨u14_0, hZ9⟩ := hZ9
    obtain ⟨u14_1, hZ9⟩ := hZ9
    obtain ⟨u15_0, hZ9⟩ := hZ9
    obtain ⟨u16_0, hZ9⟩ := hZ9
    obtain ⟨u16_1, hZ9⟩ := hZ9
    obtain ⟨u17_0, hZ9⟩ := hZ9
    obtain ⟨u18_0, hZ9⟩ := hZ9
    obtain ⟨u18_1, hZ9⟩ := hZ9
    obtain ⟨u19_0, hZ9⟩ := hZ9
    obtain ⟨hU0, hZ9⟩ := hZ9
    obtain ⟨hU1, hZ9⟩ := hZ9
    obtain ⟨hU2, hZ9⟩ := hZ9
    obtain ⟨hU3, hZ9⟩ := hZ9
    obtain ⟨hU4, hZ9⟩ := hZ9
    obtain ⟨hU5, hZ9⟩ := hZ9
    obtain ⟨hU6, hZ9⟩ := hZ9
    obtain ⟨hU7, hZ9⟩ := hZ9
    obtain ⟨hU8, hZ9⟩ := hZ9
    obtain ⟨hU9, hZ9⟩ := hZ9
    obtain ⟨hU10, hZ9⟩ := hZ9
    obtain ⟨hU11, hZ9⟩ := hZ9
    obtain ⟨hU12, hZ9⟩ := hZ9
    obtain ⟨hU13, hZ9⟩ := hZ9
    obtain ⟨hU14, hZ9⟩ := hZ9
    obtain ⟨hU15, hZ9⟩ := hZ9
    obtain ⟨hU16, hZ9⟩ := hZ9
    obtain ⟨hU17, hZ9⟩ := hZ9
    obtain ⟨hU18, hZ9⟩ := hZ9
    obtain ⟨hU19, hR⟩ := hZ9
    have hF := hR.2.2.2.2.2.2.2.2.2.2.2.2.2.2.2.2.2.2.2.2.2.2.2.2.2.2.2.2.2.2.2.2.2.2.2.2.2.2.2.2.2.2.2.2.2.2.2.2.2.2.2.2.2.2.2
    have hp := hq.2
    rw [← hF] at hp
    refine ⟨hI2, ⟨fun i hi => ?_, fun i hi => ?_, ?_⟩, fun i hi => hun i (by simp only [List.mem_cons, List.not_mem_nil, or_false, not_or]; omega)⟩
    · by_cases hk4 : i = i2
      · rw [hk4]; refine ⟨_, _, _, hU16, hU17, ?_⟩; first | exact ⟨_, hp.2, hBk4⟩
      · by_cases hk5 : i = i5
        · rw [hk5]; refine ⟨_, _, _, hU18, hU19, ?_⟩; first | exact hp.1
        · exact iW_fr (hC.1 i hi) (hun _ (by simp only [List.mem_cons, List.not_mem_nil, or_false, not_or]; omega)) (hun _ (by simp only [List.mem_cons, List.not_mem_nil, or_false, not_or]; omega))
    · exact iD_fr (hC.2.1 i hi) (hun _ (by simp only [List.mem_cons, List.not_mem_nil, or_false, not_or]; omega)) (hun _ (by simp only [List.mem_cons, List.not_mem_nil, or_false, not_or]; omega)) (hun _ (by simp only [List.mem_cons, List.not_mem_nil, or_false, not_or]; omega))
    · exact iO_fr hC.2.2 (hun _ (by simp only [List.mem_cons, List.not_mem_nil, or_false, not_or]; omega)) (hun _ (by simp only [List.mem_cons, List.not_mem_nil, or_false, not_or]; omega)) (hun _ (by simp only [List.mem_cons, List.not_mem_nil, or_false, not_or]; omega))
  · rintro E u hZ9
    obtain ⟨c, hZ9⟩ := hZ9
    obtain ⟨hE, hZ9⟩ := hZ9
    obtain ⟨hc, hZ9⟩ := hZ9
    obtain ⟨hI2, hZ9⟩ := hZ9
    obtain ⟨hun, hZ9⟩ := hZ9
    obtain ⟨u0_0, hZ9⟩ := hZ9
    obtain ⟨u0_1, hZ9⟩ := hZ9
    obtain ⟨u1_0, hZ9⟩ := hZ9
    obtain ⟨u2_0, hZ9⟩ := hZ9
    obtain ⟨u2_1, hZ9⟩ := hZ9
    obtain ⟨u3_0, hZ9⟩ := hZ9
    obtain ⟨u4_0, hZ9⟩ := hZ9
    obtain ⟨u4_1, hZ9⟩ := hZ9
    obtain ⟨u5_0, hZ9⟩ := hZ9
    obtain ⟨u6_0, hZ9⟩ := hZ9
    obtain ⟨u6_1, hZ9⟩ := hZ9
    obtain ⟨u7_0, hZ9⟩ := hZ9
    obtain ⟨u8_0, hZ9⟩ := hZ9
    obtain ⟨u8_1, hZ9⟩ := hZ9
    obtain ⟨u9_0, hZ9⟩ := hZ9
    obtain ⟨u10_0, hZ9⟩ := hZ9
    obtain ⟨u10_1, hZ9⟩ := hZ9
    obtain ⟨u11_0, hZ9⟩ := hZ9
    obtain ⟨u12_0, hZ9⟩ := hZ9
    obtain ⟨u12_1, hZ9⟩ := hZ9
    obtain ⟨u13_0, hZ9⟩ := hZ9
    obtain ⟨u14_0, hZ9⟩ := hZ9
    obtain ⟨u14_1, hZ9⟩ := hZ9
    obtain ⟨u15_0, hZ9⟩ := hZ9
    obtain ⟨u16_0, hZ9⟩ := hZ9
    obtain ⟨u16_1, hZ9⟩ := hZ9
    obtain ⟨u17_0, hZ9⟩ := hZ9
    obtain ⟨u18_0, hZ9⟩ := hZ9
    obtain ⟨u18_1, hZ9⟩ := hZ9
    obtain ⟨u19_0, hZ9⟩ := hZ9
    obtain ⟨hU0, hZ9⟩ := hZ9
    obtain ⟨hU1, hZ9⟩ := hZ9
    obtain ⟨hU2, hZ9⟩ := hZ9
    obtain ⟨hU3, hZ9⟩ := hZ9
    obtain ⟨hU4, hZ9⟩ := hZ9
    obtain ⟨hU5, hZ9⟩ := hZ9
    obtain ⟨hU6, hZ9⟩ := hZ9
    obtain ⟨hU7, hZ9⟩ := hZ9
    obtain ⟨hU8, hZ9⟩ := hZ9
    obtain ⟨hU9, hZ9⟩ := hZ9
    obtain ⟨hU10, hZ9⟩ := hZ9
    obtain ⟨hU11, hZ9⟩ := hZ9
    obtain ⟨hU12, hZ9⟩ := hZ9
    obtain ⟨hU13, hZ9⟩ := hZ9
    obtain ⟨hU14, hZ9⟩ := hZ9
    obtain ⟨hU15, hZ9⟩ := hZ9
    obtain ⟨hU16, hZ9⟩ := hZ9
    obtain ⟨hU17, hZ9⟩ := hZ9
    obtain ⟨hU18, hZ9⟩ := hZ9
    obtain ⟨hU19, hF⟩ := hZ9
    have hp := hq.2
    rw [← hF] at hp
    have hk := K_NH_powerModulo_ae (x2 := x2) (x3 := x3) (x4 := x4) (x5 := x5) (t0_0 := t0_0) (t0_1 := t0_1) (t1_0 := t1_0) (t2_0 := t2_0) (t2_1 := t2_1) (t3_0 := t3_0) (t4_0 := t4_0) (t4_1 := t4_1) (t5_0 := t5_0) (t6_0 := t6_0) (t6_1 := t6_1) (t7_0 := t7_0) (t8_0 := t8_0) (t8_1 := t8_1) (t9_0 := t9_0) (t10_0 := t10_0) (t10_1 := t10_1) (t11_0 := t11_0) (t12_0 := t12_0) (t12_1 := t12_1) (t13_0 := t13_0) (t14_0 := t14_0) (t14_1 := t14_1) (t15_0 := t15_0) (t16_0 := t16_0) (t16_1 := t16_1) (t17_0 := t17_0) (t18_0 := t18_0) (t18_1 := t18_1) (t19_0 := t19_0)
    rw [← hF] at hk
    replace hk : kC12 c := hk
    refine ⟨⟨c, hE, hk.resolve_left hc⟩, hI2, ⟨fun i hi => ?_, fun i hi => ?_, ?_⟩, fun i hi => hun i (by simp only [List.mem_cons, List.not_mem_nil, or_false, not_or]; omega)⟩
    · by_cases hk4 : i = i2
      · rw [hk4]; refine ⟨_, _, _, hU16, hU17, ?_⟩; first | exact ⟨_, hp.2, hBk4⟩
      · by_cases hk5 : i = i5
        · rw [hk5]; refine ⟨_, _, _, hU18, hU19, ?_⟩; first | exact hp.1
        · exact iW_fr (hC.1 i hi) (hun _ (by simp only [List.mem_cons, List.not_mem_nil, or_false, not_or]; omega)) (hun _ (by simp only [List.mem_cons, List.not_mem_nil, or_false, not_or]; omega))
    · exact iD_fr (hC.2.1 i hi) (hun _ (by simp only [List.mem_cons, List.not_mem_nil, or_false, not_or]; omega)) (hun _ (by simp only [List.mem_cons, List.not_mem_nil, or_false, not_or]; omega)) (hun _ (by simp only [List.mem_cons, List.not_mem_nil, or_false, not_or]; omega))
    · exact iO_fr hC.2.2 (hun _ (by simp only [List.mem_cons, List.not_mem_nil, or_false, not_or]; omega)) (hun _ (by simp only [List.mem_cons, List.not_mem_nil, or_false, not_or]; omega)) (hun _ (by simp only [List.mem_cons, List.not_mem_nil, or_false, not_or]; omega))
set_option maxRecDepth 100000 in
theorem CV_powerModulo_t (l : Launch) (D : va_G) (g : Nat → ClassId) (q : Nat → Nat) (ws : va_W) (x2 : Int32) (x3 : Int32) (x4 : Int32) (x5 : Int32) (i2 : Nat) (hi2 : i2 < 10) (i3 : Nat) (hi3 : i3 < 10) (i4 : Nat) (hi4 : i4 < 10) (e2 : x2.toNatClampNeg < 10 → i2 = x2.toNatClampNeg) (e3 : x3.toNatClampNeg < 10 → i3 = x3.toNatClampNeg) (e4 : x4.toNatClampNeg < 10 → i4 = x4.toNatClampNeg) (e5 : x5.toNatClampNeg < 10 → i4 = x5.toNatClampNeg) (nei2i4 : i2 ≠ i4) (nei3i4 : i3 ≠ i4) (hlt : l.stackTraces = false) (hI : q_I (nsh g q) q ws) (hC : iC g q ws) : ∀ sz, q_Mx l y_NH_powerModulo prog_1_method_10_code 5 none 9 4 24 D g [.ref (q 0), .int x2, .int x3, .int x4, .int x5] ws sz (va_Qv (fun u => iP g q ws u) (q_B D g (va_A ws sz)) (va_A ws sz)) (fun E u => (∃ c : Int32, E = qE c ∧ (c = 1 ∨ c = 2)) ∧ iP g q ws u) := by
  intro sz
  obtain ⟨t0_0, t0_1, hT0, bT0⟩ := q_bigO hI (n_b10 g q)
  obtain ⟨t1_0, hT1, bT1⟩ := n_ai hI (n_s11 g q)
  obtain ⟨t2_0, t2_1, hT2, bT2⟩ := q_bigO hI (n_b12 g q)
  obtain ⟨t3_0, hT3, bT3⟩ := n_ai hI (n_s13 g q)
  obtain ⟨t4_0, t4_1, hT4, bT4⟩ := q_bigO hI (n_b14 g q)
  obtain ⟨t5_0, hT5, bT5⟩ := n_ai hI (n_s15 g q)
  obtain ⟨t6_0, t6_1, hT6, bT6⟩ := q_bigO hI (n_b18 g q)
  obtain ⟨t7_0, hT7, bT7⟩ := n_ai hI (n_s19 g q)
  obtain ⟨t8_0, t8_1, hT8, bT8⟩ := q_bigO hI (n_b22 g q)
  obtain ⟨t9_0, hT9, bT9⟩ := n_ai hI (n_s23 g q)
  obtain ⟨t10_0, t10_1, hT10, bT10⟩ := q_bigO hI (n_b24 g q)
  obtain ⟨t11_0, hT11, bT11⟩ := n_ai hI (n_s25 g q)
  obtain ⟨t12_0, t12_1, hT12, bT12⟩ := q_bigO hI (n_b26 g q)
  obtain ⟨t13_0, hT13, bT13⟩ := n_ai hI (n_s27 g q)
  obtain ⟨t14_0, t14_1, hT14, bT14⟩ := q_bigO hI (n_b28 g q)
  obtain ⟨t15_0, hT15, bT15⟩ := n_ai hI (n_s29 g q)
  obtain ⟨t16_0, hZ9⟩ := hC.1 i2 hi2
  obtain ⟨t16_1, hZ9⟩ := hZ9
  obtain ⟨t17_0, hZ9⟩ := hZ9
  obtain ⟨hT16, hZ9⟩ := hZ9
  obtain ⟨hT17, hZ9⟩ := hZ9
  obtain ⟨vk2, hZ9⟩ := hZ9
  obtain ⟨hbk2, hBk2⟩ := hZ9
  obtain ⟨t18_0, hZ9⟩ := hC.1 i3 hi3
  obtain ⟨t18_1, hZ9⟩ := hZ9
  obtain ⟨t19_0, hZ9⟩ := hZ9
  obtain ⟨hT18, hZ9⟩ := hZ9
  obtain ⟨hT19, hZ9⟩ := hZ9
  obtain ⟨vk3, hZ9⟩ := hZ9
  obtain ⟨hbk3, hBk3⟩ := hZ9
  obtain ⟨t20_0, hZ9⟩ := hC.1 i4 hi4
  obtain ⟨t20_1, hZ9⟩ := hZ9
  obtain ⟨t21_0, hZ9⟩ := hZ9
  obtain ⟨hT20, hZ9⟩ := hZ9
  obtain ⟨hT21, hZ9⟩ := hZ9
  obtain ⟨vk4, hZ9⟩ := hZ9
  obtain ⟨hbk4, hBk4⟩ := hZ9
  have hq := T_powerModulo_t (x2 := x2) (x3 := x3) (x4 := x4) (x5 := x5) (t0_0 := t0_0) (t0_1 := t0_1) (t1_0 := t1_0) (t2_0 := t2_0) (t2_1 := t2_1) (t3_0 := t3_0) (t4_0 := t4_0) (t4_1 := t4_1) (t5_0 := t5_0) (t6_0 := t6_0) (t6_1 := t6_1) (t7_0 := t7_0) (t8_0 := t8_0) (t8_1 := t8_1) (t9_0 := t9_0) (t10_0 := t10_0) (t10_1 := t10_1) (t11_0 := t11_0) (t12_0 := t12_0) (t12_1 := t12_1) (t13_0 := t13_0) (t14_0 := t14_0) (t14_1 := t14_1) (t15_0 := t15_0) (t16_0 := t16_0) (t16_1 := t16_1) (t17_0 := t17_0) (t18_0 := t18_0) (t18_1 := t18_1) (t19_0 := t19_0) (t20_0 := t20_0) (t20_1 := t20_1) (t21_0 := t21_0) hbk2 hBk2 hbk3 hbk4 hBk4
  refine q_MxV (X_NH_powerModulo_t l D g q ws x2 x3 x4 x5 (66 + 5 * i2) (n_w g q hi2) (by omega) (fun h => by have z := e2 h; omega) (66 + 5 * i3) (n_w g q hi3) (by omega) (fun h => by have z := e3 h; omega) (66 + 5 * i4) (n_w g q hi4) (by omega) (fun h => by have z := e4 h; omega) (fun h => by have z := e5 h; omega) (by omega) (by omega) (by omega) (by omega) (by omega) (by omega) hlt hI t0_0 t0_1 hT0 t1_0 hT1 t2_0 t2_1 hT2 t3_0 hT3 t4_0 t4_1 hT4 t5_0 hT5 t6_0 t6_1 hT6 t7_0 hT7 t8_0 t8_1 hT8 t9_0 hT9 t10_0 t10_1 hT10 t11_0 hT11 t12_0 t12_1 hT12 t13_0 hT13 t14_0 t14_1 hT14 t15_0 hT15 t16_0 t16_1 hT16 t17_0 hT17 t18_0 t18_1 hT18 t19_0 hT19 t20_0 t20_1 hT20 t21_0 hT21 ⟨trivial, hq.1⟩ sz) ?_ ?_
  · rintro u hZ9
    obtain ⟨hI2, hZ9⟩ := hZ9
    obtain ⟨hun, hZ9⟩ := hZ9
    obtain ⟨u0_0, hZ9⟩ := hZ9
    obtain ⟨u0_1, hZ9⟩ := hZ9
    obtain ⟨u1_0, hZ9⟩ := hZ9
    obtain ⟨u2_0, hZ9⟩ := hZ9
    obtain ⟨u2_1, hZ9⟩ := hZ9
    obtain ⟨u3_0, hZ9⟩ := hZ9
    obtain ⟨u4_0, hZ9⟩ := hZ9
    obtain ⟨u4_1, hZ9⟩ := hZ9
    obtain ⟨u5_0, hZ9⟩ := hZ9
    obtain ⟨u6_0, hZ9⟩ := hZ9
    obtain ⟨u6_1, hZ9⟩ := hZ9
    obtain ⟨u7_0, hZ9⟩ := hZ9
    obtain ⟨u8_0, hZ9⟩ := hZ9
    obtain ⟨u8_1, hZ9⟩ := hZ9
    obtain ⟨u9_0, hZ9⟩ := hZ9
    obtain ⟨u10_0, hZ9⟩ := hZ9
    obtain ⟨u10_1, hZ9⟩ := hZ9
    obtain ⟨u11_0, hZ9⟩ := hZ9
    obtain ⟨u12_0, hZ9⟩ := hZ9
    obtain ⟨u12_1, hZ9⟩ := hZ9
    obtain ⟨u13_0, hZ9⟩ := hZ9
    obtain ⟨u14_0, hZ9⟩ := hZ9
    obtain ⟨u14_1, hZ9⟩ := hZ9
    obtain ⟨u15_0, hZ9⟩ := hZ9
    obtain ⟨u20_0, hZ9⟩ := hZ9
    obtain ⟨u20_1, hZ9⟩ := hZ9
    obtain ⟨u21_0, hZ9⟩ := hZ9
    obtain ⟨hU0, hZ9⟩ := hZ9
    obtain ⟨hU1, hZ9⟩ := hZ9
    obtain ⟨hU2, hZ9⟩ := hZ9
    obtain ⟨hU3, hZ9⟩ := hZ9
    obtain ⟨hU4, hZ9⟩ := hZ9
    obtain ⟨hU5, hZ9⟩ := hZ9
    obtain ⟨hU6, hZ9⟩ := hZ9
    obtain ⟨hU7, hZ9⟩ := hZ9
    obtain ⟨hU8, hZ9⟩ := hZ9
    obtain ⟨hU9, hZ9⟩ := hZ9
    obtain ⟨hU10, hZ9⟩ := hZ9
    obtain ⟨hU11, hZ9⟩ := hZ9
    obtain ⟨hU12, hZ9⟩ := hZ9
    obtain ⟨hU13, hZ9⟩ := hZ9
    obtain ⟨hU14, hZ9⟩ := hZ9
    obtain ⟨hU15, hZ9⟩ := hZ9
    obtain ⟨hU16, hZ9⟩ := hZ9
    obtain ⟨hU17, hR⟩ := hZ9
    have hF := hR.2.2.2.2.2.2.2.2.2.2.2.2.2.2.2.2.2.2.2.2.2.2.2.2.2.2.2.2.2.2.2.2.2.2.2.2.2.2.2.2.2.2.2.2.2.2.2.2.2.2.2.2.2
    have hp := hq.2
    rw [← hF] at hp
    refine ⟨hI2, ⟨fun i hi => ?_, fun i hi => ?_, ?_⟩, fun i hi => hun i (by simp only [List.mem_cons, List.not_mem_nil, or_false, not_or]; omega)⟩
    · by_cases hk4 : i = i4
      · rw [hk4]; refine ⟨_, _, _, hU16, hU17, ?_⟩; first | exact hp
      · exact iW_fr (hC.1 i hi) (hun _ (by simp only [List.mem_cons, List.not_mem_nil, or_false, not_or]; omega)) (hun _ (by simp only [List.mem_cons, List.not_mem_nil, or_false, not_or]; omega))
    · exact iD_fr (hC.2.1 i hi) (hun _ (by simp only [List.mem_cons, List.not_mem_nil, or_false, not_or]; omega)) (hun _ (by simp only [List.mem_cons, List.not_mem_nil, or_false, not_or]; omega)) (hun _ (by simp only [List.mem_cons, List.not_mem_nil, or_false, not_or]; omega))
    · exact iO_fr hC.2.2 (hun _ (by simp only [List.mem_cons, List.not_mem_nil, or_false, not_or]; omega)) (hun _ (by simp only [List.mem_cons, List.not_mem_nil, or_false, not_or]; omega)) (hun _ (by simp only [List.mem_cons, List.not_mem_nil, or_false, not_or]; omega))
  · rintro E u hZ9
    obtain ⟨c, hZ9⟩ := hZ9
    obtain ⟨hE, hZ9⟩ := hZ9
    obtain ⟨hc, hZ9⟩ := hZ9
    obtain ⟨hI2, hZ9⟩ := hZ9
    obtain ⟨hun, hZ9⟩ := hZ9
    obtain ⟨u0_0, hZ9⟩ := hZ9
    obtain ⟨u0_1, hZ9⟩ := hZ9
    obtain ⟨u1_0, hZ9⟩ := hZ9
    obtain ⟨u2_0, hZ9⟩ := hZ9
    obtain ⟨u2_1, hZ9⟩ := hZ9
    obtain ⟨u3_0, hZ9⟩ := hZ9
    obtain ⟨u4_0, hZ9⟩ := hZ9
    obtain ⟨u4_1, hZ9⟩ := hZ9
    obtain ⟨u5_0, hZ9⟩ := hZ9
    obtain ⟨u6_0, hZ9⟩ := hZ9
    obtain ⟨u6_1, hZ9⟩ := hZ9
    obtain ⟨u7_0, hZ9⟩ := hZ9
    obtain ⟨u8_0, hZ9⟩ := hZ9
    obtain ⟨u8_1, hZ9⟩ := hZ9
    obtain ⟨u9_0, hZ9⟩ := hZ9
    obtain ⟨u10_0, hZ9⟩ := hZ9
    obtain ⟨u10_1, hZ9⟩ := hZ9
    obtain ⟨u11_0, hZ9⟩ := hZ9
    obtain ⟨u12_0, hZ9⟩ := hZ9
    obtain ⟨u12_1, hZ9⟩ := hZ9
    obtain ⟨u13_0, hZ9⟩ := hZ9
    obtain ⟨u14_0, hZ9⟩ := hZ9
    obtain ⟨u14_1, hZ9⟩ := hZ9
    obtain ⟨u15_0, hZ9⟩ := hZ9
    obtain ⟨u20_0, hZ9⟩ := hZ9
    obtain ⟨u20_1, hZ9⟩ := hZ9
    obtain ⟨u21_0, hZ9⟩ := hZ9
    obtain ⟨hU0, hZ9⟩ := hZ9
    obtain ⟨hU1, hZ9⟩ := hZ9
    obtain ⟨hU2, hZ9⟩ := hZ9
    obtain ⟨hU3, hZ9⟩ := hZ9
    obtain ⟨hU4, hZ9⟩ := hZ9
    obtain ⟨hU5, hZ9⟩ := hZ9
    obtain ⟨hU6, hZ9⟩ := hZ9
    obtain ⟨hU7, hZ9⟩ := hZ9
    obtain ⟨hU8, hZ9⟩ := hZ9
    obtain ⟨hU9, hZ9⟩ := hZ9
    obtain ⟨hU10, hZ9⟩ := hZ9
    obtain ⟨hU11, hZ9⟩ := hZ9
    obtain ⟨hU12, hZ9⟩ := hZ9
    obtain ⟨hU13, hZ9⟩ := hZ9
    obtain ⟨hU14, hZ9⟩ := hZ9
    obtain ⟨hU15, hZ9⟩ := hZ9
    obtain ⟨hU16, hZ9⟩ := hZ9
    obtain ⟨hU17, hF⟩ := hZ9
    have hp := hq.2
    rw [← hF] at hp
    have hk := K_NH_powerModulo_t (x2 := x2) (x3 := x3) (x4 := x4) (x5 := x5) (t0_0 := t0_0) (t0_1 := t0_1) (t1_0 := t1_0) (t2_0 := t2_0) (t2_1 := t2_1) (t3_0 := t3_0) (t4_0 := t4_0) (t4_1 := t4_1) (t5_0 := t5_0) (t6_0 := t6_0) (t6_1 := t6_1) (t7_0 := t7_0) (t8_0 := t8_0) (t8_1 := t8_1) (t9_0 := t9_0) (t10_0 := t10_0) (t10_1 := t10_1) (t11_0 := t11_0) (t12_0 := t12_0) (t12_1 := t12_1) (t13_0 := t13_0) (t14_0 := t14_0) (t14_1 := t14_1) (t15_0 := t15_0) (t16_0 := t16_0) (t16_1 := t16_1) (t17_0 := t17_0) (t18_0 := t18_0) (t18_1 := t18_1) (t19_0 := t19_0) (t20_0 := t20_0) (t20_1 := t20_1) (t21_0 := t21_0)
    rw [← hF] at hk
    replace hk : kC12 c := hk
    refine ⟨⟨c, hE, hk.resolve_left hc⟩, hI2, ⟨fun i hi => ?_, fun i hi => ?_, ?_⟩, fun i hi => hun i (by simp only [List.mem_cons, List.not_mem_nil, or_false, not_or]; omega)⟩
    · by_cases hk4 : i = i4
      · rw [hk4]; refine ⟨_, _, _, hU16, hU17, ?_⟩; first | exact hp
      · exact iW_fr (hC.1 i hi) (hun _ (by simp only [List.mem_cons, List.not_mem_nil, or_false, not_or]; omega)) (hun _ (by simp only [List.mem_cons, List.not_mem_nil, or_false, not_or]; omega))
    · exact iD_fr (hC.2.1 i hi) (hun _ (by simp only [List.mem_cons, List.not_mem_nil, or_false, not_or]; omega)) (hun _ (by simp only [List.mem_cons, List.not_mem_nil, or_false, not_or]; omega)) (hun _ (by simp only [List.mem_cons, List.not_mem_nil, or_false, not_or]; omega))
    · exact iO_fr hC.2.2 (hun _ (by simp only [List.mem_cons, List.not_mem_nil, or_false, not_or]; omega)) (hun _ (by simp only [List.mem_cons, List.not_mem_nil, or_false, not_or]; omega)) (hun _ (by simp only [List.mem_cons, List.not_mem_nil, or_false, not_or]; omega))
set_option maxRecDepth 100000 in
theorem CV_powerModulo_at (l : Launch) (D : va_G) (g : Nat → ClassId) (q : Nat → Nat) (ws : va_W) (x2 : Int32) (x3 : Int32) (x4 : Int32) (x5 : Int32) (i2 : Nat) (hi2 : i2 < 10) (i3 : Nat) (hi3 : i3 < 10) (e2 : x2.toNatClampNeg < 10 → i2 = x2.toNatClampNeg) (e3 : x3.toNatClampNeg < 10 → i3 = x3.toNatClampNeg) (e4 : x4.toNatClampNeg < 10 → i2 = x4.toNatClampNeg) (e5 : x5.toNatClampNeg < 10 → i2 = x5.toNatClampNeg) (nei3i2 : i3 ≠ i2) (hlt : l.stackTraces = false) (hI : q_I (nsh g q) q ws) (hC : iC g q ws) : ∀ sz, q_Mx l y_NH_powerModulo prog_1_method_10_code 5 none 9 4 24 D g [.ref (q 0), .int x2, .int x3, .int x4, .int x5] ws sz (va_Qv (fun u => iP g q ws u) (q_B D g (va_A ws sz)) (va_A ws sz)) (fun E u => (∃ c : Int32, E = qE c ∧ (c = 1 ∨ c = 2)) ∧ iP g q ws u) := by
  intro sz
  obtain ⟨t0_0, t0_1, hT0, bT0⟩ := q_bigO hI (n_b10 g q)
  obtain ⟨t1_0, hT1, bT1⟩ := n_ai hI (n_s11 g q)
  obtain ⟨t2_0, t2_1, hT2, bT2⟩ := q_bigO hI (n_b12 g q)
  obtain ⟨t3_0, hT3, bT3⟩ := n_ai hI (n_s13 g q)
  obtain ⟨t4_0, t4_1, hT4, bT4⟩ := q_bigO hI (n_b14 g q)
  obtain ⟨t5_0, hT5, bT5⟩ := n_ai hI (n_s15 g q)
  obtain ⟨t6_0, t6_1, hT6, bT6⟩ := q_bigO hI (n_b18 g q)
  obtain ⟨t7_0, hT7, bT7⟩ := n_ai hI (n_s19 g q)
  obtain ⟨t8_0, t8_1, hT8, bT8⟩ := q_bigO hI (n_b22 g q)
  obtain ⟨t9_0, hT9, bT9⟩ := n_ai hI (n_s23 g q)
  obtain ⟨t10_0, t10_1, hT10, bT10⟩ := q_bigO hI (n_b24 g q)
  obtain ⟨t11_0, hT11, bT11⟩ := n_ai hI (n_s25 g q)
  obtain ⟨t12_0, t12_1, hT12, bT12⟩ := q_bigO hI (n_b26 g q)
  obtain ⟨t13_0, hT13, bT13⟩ := n_ai hI (n_s27 g q)
  obtain ⟨t14_0, t14_1, hT14, bT14⟩ := q_bigO hI (n_b28 g q)
  obtain ⟨t15_0, hT15, bT15⟩ := n_ai hI (n_s29 g q)
  obtain ⟨t16_0, hZ9⟩ := hC.1 i2 hi2
  obtain ⟨t16_1, hZ9⟩ := hZ9
  obtain ⟨t17_0, hZ9⟩ := hZ9
  obtain ⟨hT16, hZ9⟩ := hZ9
  obtain ⟨hT17, hZ9⟩ := hZ9
  obtain ⟨vk4, hZ9⟩ := hZ9
  obtain ⟨hbk4, hBk4⟩ := hZ9
  obtain ⟨t18_0, hZ9⟩ := hC.1 i3 hi3
  obtain ⟨t18_1, hZ9⟩ := hZ9
  obtain ⟨t19_0, hZ9⟩ := hZ9
  obtain ⟨hT18, hZ9⟩ := hZ9
  obtain ⟨hT19, hZ9⟩ := hZ9
  obtain ⟨vk3, hZ9⟩ := hZ9
  obtain ⟨hbk3, hBk3⟩ := hZ9
  have hq := T_powerModulo_at (x2 := x2) (x3 := x3) (x4 := x4) (x5 := x5) (t0_0 := t0_0) (t0_1 := t0_1) (t1_0 := t1_0) (t2_0 := t2_0) (t2_1 := t2_1) (t3_0 := t3_0) (t4_0 := t4_0) (t4_1 := t4_1) (t5_0 := t5_0) (t6_0 := t6_0) (t6_1 := t6_1) (t7_0 := t7_0) (t8_0 := t8_0) (t8_1 := t8_1) (t9_0 := t9_0) (t10_0 := t10_0) (t10_1 := t10_1) (t11_0 := t11_0) (t12_0 := t12_0) (t12_1 := t12_1) (t13_0 := t13_0) (t14_0 := t14_0) (t14_1 := t14_1) (t15_0 := t15_0) (t16_0 := t16_0) (t16_1 := t16_1) (t17_0 := t17_0) (t18_0 := t18_0) (t18_1 := t18_1) (t19_0 := t19_0) hbk3 hbk4 hBk4
  refine q_MxV (X_NH_powerModulo_at l D g q ws x2 x3 x4 x5 (66 + 5 * i2) (n_w g q hi2) (by omega) (fun h => by have z := e2 h; omega) (66 + 5 * i3) (n_w g q hi3) (by omega) (fun h => by have z := e3 h; omega) (fun h => by have z := e4 h; omega) (fun h => by have z := e5 h; omega) (by omega) (by omega) (by omega) hlt hI t0_0 t0_1 hT0 t1_0 hT1 t2_0 t2_1 hT2 t3_0 hT3 t4_0 t4_1 hT4 t5_0 hT5 t6_0 t6_1 hT6 t7_0 hT7 t8_0 t8_1 hT8 t9_0 hT9 t10_0 t10_1 hT10 t11_0 hT11 t12_0 t12_1 hT12 t13_0 hT13 t14_0 t14_1 hT14 t15_0 hT15 t16_0 t16_1 hT16 t17_0 hT17 t18_0 t18_1 hT18 t19_0 hT19 ⟨trivial, hq.1⟩ sz) ?_ ?_
  · rintro u hZ9
    obtain ⟨hI2, hZ9⟩ := hZ9
    obtain ⟨hun, hZ9⟩ := hZ9
    obtain ⟨u0_0, hZ9⟩ := hZ9
    obtain ⟨u0_1, hZ9⟩ := hZ9
    obtain ⟨u1_0, hZ9⟩ := hZ9
    obtain ⟨u2_0, hZ9⟩ := hZ9
    obtain ⟨u2_1, hZ9⟩ := hZ9
    obtain ⟨u3_0, hZ9⟩ := hZ9
    obtain ⟨u4_0, hZ9⟩ := hZ9
    obtain ⟨u4_1, hZ9⟩ := hZ9
    obtain ⟨u5_0, hZ9⟩ := hZ9
    obtain ⟨u6_0, hZ9⟩ := hZ9
    obtain ⟨u6_1, hZ9⟩ := hZ9
    obtain ⟨u7_0, hZ9⟩ := hZ9
    obtain ⟨u8_0, hZ9⟩ := hZ9
    obtain ⟨u8_1, hZ9⟩ := hZ9
    obtain ⟨u9_0, hZ9⟩ := hZ9
    obtain ⟨u10_0, hZ9⟩ := hZ9
    obtain ⟨u10_1, hZ9⟩ := hZ9
    obtain ⟨u11_0, hZ9⟩ := hZ9
    obtain ⟨u12_0, hZ9⟩ := hZ9
    obtain ⟨u12_1, hZ9⟩ := hZ9
    obtain ⟨u13_0, hZ9⟩ := hZ9
    obtain ⟨u14_0, hZ9⟩ := hZ9
    obtain ⟨u14_1, hZ9⟩ := hZ9
    obtain ⟨u15_0, hZ9⟩ := hZ9
    obtain ⟨u16_0, hZ9⟩ := hZ9
    obtain ⟨u16_1, hZ9⟩ := hZ9
    obtain ⟨u17_0, hZ9⟩ := hZ9
    obtain ⟨hU0, hZ9⟩ := hZ9
    obtain ⟨hU1, hZ9⟩ := hZ9
    obtain ⟨hU2, hZ9⟩ := hZ9
    obtain ⟨hU3, hZ9⟩ := hZ9
    obtain ⟨hU4, hZ9⟩ := hZ9
    obtain ⟨hU5, hZ9⟩ := hZ9
    obtain ⟨hU6, hZ9⟩ := hZ9
    obtain ⟨hU7, hZ9⟩ := hZ9
    obtain ⟨hU8, hZ9⟩ := hZ9
    obtain ⟨hU9, hZ9⟩ := hZ9
    obtain ⟨hU10, hZ9⟩ := hZ9
    obtain ⟨hU11, hZ9⟩ := hZ9
    obtain ⟨hU12, hZ9⟩ := hZ9
    obtain ⟨hU13, hZ9⟩ := hZ9
    obtain ⟨hU14, hZ9⟩ := hZ9
    obtain ⟨hU15, hZ9⟩ := hZ9
    obtain ⟨hU16, hZ9⟩ := hZ9
    obtain ⟨hU17, hR⟩ := hZ9
    have hF := hR.2.2.2.2.2.2.2.2.2.2.2.2.2.2.2.2.2.2.2.2.2.2.2.2.2.2.2.2.2.2.2.2.2.2.2.2.2.2.2.2.2.2.2.2.2.2.2.2.2.2
    have hp := hq.2
    rw [← hF] at hp
    refine ⟨hI2, ⟨fun i hi => ?_, fun i hi => ?_, ?_⟩, fun i hi => hun i (by simp only [List.mem_cons, List.not_mem_nil, or_false, not_or]; omega)⟩
    · by_cases hk4 : i = i2
      · rw [hk4]; refine ⟨_, _, _, hU16, hU17, ?_⟩; first | exact hp
      · exact iW_fr (hC.1 i hi) (hun _ (by simp only [List.mem_cons, List.not_mem_nil, or_false, not_or]; omega)) (hun _ (by simp only [List.mem_cons, List.not_mem_nil, or_false, not_or]; omega))
    · exact iD_fr (hC.2.1 i hi) (hun _ (by simp only [List.mem_cons, List.not_mem_nil, or_false, not_or]; omega)) (hun _ (by simp only [List.mem_cons, List.not_mem_nil, or_false, not_or]; omega)) (hun _ (by simp only [List.mem_cons, List.not_mem_nil, or_false, not_or]; omega))
    · exact iO_fr hC.2.2 (hun _ (by simp only [List.mem_cons, List.not_mem_nil, or_false, not_or]; omega)) (hun _ (by simp only [List.mem_cons, List.not_mem_nil, or_false, not_or]; omega)) (hun _ (by simp only [List.mem_cons, List.not_mem_nil, or_false, not_or]; omega))
  · rintro E u hZ9
    obtain ⟨c, hZ9⟩ := hZ9
    obtain ⟨hE, hZ9⟩ := hZ9
    obtain ⟨hc, hZ9⟩ := hZ9
    obtain ⟨hI2, hZ9⟩ := hZ9
    obtain ⟨hun, hZ9⟩ := hZ9
    obtain ⟨u0_0, hZ9⟩ := hZ9
    obtain ⟨u0_1, hZ9⟩ := hZ9
    obtain ⟨u1_0, hZ9⟩ := hZ9
    obtain ⟨u2_0, hZ9⟩ := hZ9
    obtain ⟨u2_1, hZ9⟩ := hZ9
    obtain ⟨u3_0, hZ9⟩ := hZ9
    obtain ⟨u4_0, hZ9⟩ := hZ9
    obtain ⟨u4_1, hZ9⟩ := hZ9
    obtain ⟨u5_0, hZ9⟩ := hZ9
    obtain ⟨u6_0, hZ9⟩ := hZ9
    obtain ⟨u6_1, hZ9⟩ := hZ9
    obtain ⟨u7_0, hZ9⟩ := hZ9
    obtain ⟨u8_0, hZ9⟩ := hZ9
    obtain ⟨u8_1, hZ9⟩ := hZ9
    obtain ⟨u9_0, hZ9⟩ := hZ9
    obtain ⟨u10_0, hZ9⟩ := hZ9
    obtain ⟨u10_1, hZ9⟩ := hZ9
    obtain ⟨u11_0, hZ9⟩ := hZ9
    obtain ⟨u12_0, hZ9⟩ := hZ9
    obtain ⟨u12_1, hZ9⟩ := hZ9
    obtain ⟨u13_0, hZ9⟩ := hZ9
    obtain ⟨u14_0, hZ9⟩ := hZ9
    obtain ⟨u14_1, hZ9⟩ := hZ9
    obtain ⟨u15_0, hZ9⟩ := hZ9
    obtain ⟨u16_0, hZ9⟩ := hZ9
    obtain ⟨u16_1, hZ9⟩ := hZ9
    obtain ⟨u17_0, hZ9⟩ := hZ9
    obtain ⟨hU0, hZ9⟩ := hZ9
    obtain ⟨hU1, hZ9⟩ := hZ9
    obtain ⟨hU2, hZ9⟩ := hZ9
    obtain ⟨hU3, hZ9⟩ := hZ9
    obtain ⟨hU4, hZ9⟩ := hZ9
    obtain ⟨hU5, hZ9⟩ := hZ9
    obtain ⟨hU6, hZ9⟩ := hZ9
    obtain ⟨hU7, hZ9⟩ := hZ9
    obtain ⟨hU8, hZ9⟩ := hZ9
    obtain ⟨hU9, hZ9⟩ := hZ9
    obtain ⟨hU10, hZ9⟩ := hZ9
    obtain ⟨hU11, hZ9⟩ := hZ9
    obtain ⟨hU12, hZ9⟩ := hZ9
    obtain ⟨hU13, hZ9⟩ := hZ9
    obtain ⟨hU14, hZ9⟩ := hZ9
    obtain ⟨hU15, hZ9⟩ := hZ9
    obtain ⟨hU16, hZ9⟩ := hZ9
    obtain ⟨hU17, hF⟩ := hZ9
    have hp := hq.2
    rw [← hF] at hp
    have hk := K_NH_powerModulo_at (x2 := x2) (x3 := x3) (x4 := x4) (x5 := x5) (t0_0 := t0_0) (t0_1 := t0_1) (t1_0 := t1_0) (t2_0 := t2_0) (t2_1 := t2_1) (t3_0 := t3_0) (t4_0 := t4_0) (t4_1 := t4_1) (t5_0 := t5_0) (t6_0 := t6_0) (t6_1 := t6_1) (t7_0 := t7_0) (t8_0 := t8_0) (t8_1 := t8_1) (t9_0 := t9_0) (t10_0 := t10_0) (t10_1 := t10_1) (t11_0 := t11_0) (t12_0 := t12_0) (t12_1 := t12_1) (t13_0 := t13_0) (t14_0 := t14_0) (t14_1 := t14_1) (t15_0 := t15_0) (t16_0 := t16_0) (t16_1 := t16_1) (t17_0 := t17_0) (t18_0 := t18_0) (t18_1 := t18_1) (t19_0 := t19_0)
    rw [← hF] at hk
    replace hk : kC12 c := hk
    refine ⟨⟨c, hE, hk.resolve_left hc⟩, hI2, ⟨fun i hi => ?_, fun i hi => ?_, ?_⟩, fun i hi => hun i (by simp only [List.mem_cons, List.not_mem_nil, or_false, not_or]; omega)⟩
    · by_cases hk4 : i = i2
      · rw [hk4]; refine ⟨_, _, _, hU16, hU17, ?_⟩; first | exact hp
      · exact iW_fr (hC.1 i hi) (hun _ (by simp only [List.mem_cons, List.not_mem_nil, or_false, not_or]; omega)) (hun _ (by simp only [List.mem_cons, List.not_mem_nil, or_false, not_or]; omega))
    · exact iD_fr (hC.2.1 i hi) (hun _ (by simp only [List.mem_cons, List.not_mem_nil, or_false, not_or]; omega)) (hun _ (by simp only [List.mem_cons, List.not_mem_nil, or_false, not_or]; omega)) (hun _ (by simp only [List.mem_cons, List.not_mem_nil, or_false, not_or]; omega))
    · exact iO_fr hC.2.2 (hun _ (by simp only [List.mem_cons, List.not_mem_nil, or_false, not_or]; omega)) (hun _ (by simp only [List.mem_cons, List.not_mem_nil, or_false, not_or]; omega)) (hun _ (by simp only [List.mem_cons, List.not_mem_nil, or_false, not_or]; omega))
set_option maxRecDepth 100000 in
theorem CV_powerModulo_et (l : Launch) (D : va_G) (g : Nat → ClassId) (q : Nat → Nat) (ws : va_W) (x2 : Int32) (x3 : Int32) (x4 : Int32) (x5 : Int32) (i2 : Nat) (hi2 : i2 < 10) (i3 : Nat) (hi3 : i3 < 10) (e2 : x2.toNatClampNeg < 10 → i2 = x2.toNatClampNeg) (e3 : x3.toNatClampNeg < 10 → i3 = x3.toNatClampNeg) (e4 : x4.toNatClampNeg < 10 → i3 = x4.toNatClampNeg) (e5 : x5.toNatClampNeg < 10 → i3 = x5.toNatClampNeg) (nei2i3 : i2 ≠ i3) (hlt : l.stackTraces = false) (hI : q_I (nsh g q) q ws) (hC : iC g q ws) : ∀ sz, q_Mx l y_NH_powerModulo prog_1_method_10_code 5 none 9 4 24 D g [.ref (q 0), .int x2, .int x3, .int x4, .int x5] ws sz (va_Qv (fun u => iP g q ws u) (q_B D g (va_A ws sz)) (va_A ws sz)) (fun E u => (∃ c : Int32, E = qE c ∧ (c = 1 ∨ c = 2)) ∧ iP g q ws u) := by
  intro sz
  obtain ⟨t0_0, t0_1, hT0, bT0⟩ := q_bigO hI (n_b10 g q)
  obtain ⟨t1_0, hT1, bT1⟩ := n_ai hI (n_s11 g q)
  obtain ⟨t2_0, t2_1, hT2, bT2⟩ := q_bigO hI (n_b12 g q)
  obtain ⟨t3_0, hT3, bT3⟩ := n_ai hI (n_s13 g q)
  obtain ⟨t4_0, t4_1, hT4, bT4⟩ := q_bigO hI (n_b14 g q)
  obtain ⟨t5_0, hT5, bT5⟩ := n_ai hI (n_s15 g q)
  obtain ⟨t6_0, t6_1, hT6, bT6⟩ := q_bigO hI (n_b18 g q)
  obtain ⟨t7_0, hT7, bT7⟩ := n_ai hI (n_s19 g q)
  obtain ⟨t8_0, t8_1, hT8, bT8⟩ := q_bigO hI (n_b22 g q)
  obtain ⟨t9_0, hT9, bT9⟩ := n_ai hI (n_s23 g q)
  obtain ⟨t10_0, t10_1, hT10, bT10⟩ := q_bigO hI (n_b24 g q)
  obtain ⟨t11_0, hT11, bT11⟩ := n_ai hI (n_s25 g q)
  obtain ⟨t12_0, t12_1, hT12, bT12⟩ := q_bigO hI (n_b26 g q)
  obtain ⟨t13_0, hT13, bT13⟩ := n_ai hI (n_s27 g q)
  obtain ⟨t14_0, t14_1, hT14, bT14⟩ := q_bigO hI (n_b28 g q)
  obtain ⟨t15_0, hT15, bT15⟩ := n_ai hI (n_s29 g q)
  obtain ⟨t16_0, hZ9⟩ := hC.1 i2 hi2
  obtain ⟨t16_1, hZ9⟩ := hZ9
  obtain ⟨t17_0, hZ9⟩ := hZ9
  obtain ⟨hT16, hZ9⟩ := hZ9
  obtain ⟨hT17, hZ9⟩ := hZ9
  obtain ⟨vk2, hZ9⟩ := hZ9
  obtain ⟨hbk2, hBk2⟩ := hZ9
  obtain ⟨t18_0, hZ9⟩ := hC.1 i3 hi3
  obtain ⟨t18_1, hZ9⟩ := hZ9
  obtain ⟨t19_0, hZ9⟩ := hZ9
  obtain ⟨hT18, hZ9⟩ := hZ9
  obtain ⟨hT19, hZ9⟩ := hZ9
  obtain ⟨vk4, hZ9⟩ := hZ9
  obtain ⟨hbk4, hBk4⟩ := hZ9
  have hq := T_powerModulo_et (x2 := x2) (x3 := x3) (x4 := x4) (x5 := x5) (t0_0 := t0_0) (t0_1 := t0_1) (t1_0 := t1_0) (t2_0 := t2_0) (t2_1 := t2_1) (t3_0 := t3_0) (t4_0 := t4_0) (t4_1 := t4_1) (t5_0 := t5_0) (t6_0 := t6_0) (t6_1 := t6_1) (t7_0 := t7_0) (t8_0 := t8_0) (t8_1 := t8_1) (t9_0 := t9_0) (t10_0 := t10_0) (t10_1 := t10_1) (t11_0 := t11_0) (t12_0 := t12_0) (t12_1 := t12_1) (t13_0 := t13_0) (t14_0 := t14_0) (t14_1 := t14_1) (t15_0 := t15_0) (t16_0 := t16_0) (t16_1 := t16_1) (t17_0 := t17_0) (t18_0 := t18_0) (t18_1 := t18_1) (t19_0 := t19_0) hbk2 hBk2 hbk4 hBk4
  refine q_MxV (X_NH_powerModulo_et l D g q ws x2 x3 x4 x5 (66 + 5 * i2) (n_w g q hi2) (by omega) (fun h => by have z := e2 h; omega) (66 + 5 * i3) (n_w g q hi3) (by omega) (fun h => by have z := e3 h; omega) (fun h => by have z := e4 h; omega) (fun h => by have z := e5 h; omega) (by omega) (by omega) (by omega) hlt hI t0_0 t0_1 hT0 t1_0 hT1 t2_0 t2_1 hT2 t3_0 hT3 t4_0 t4_1 hT4 t5_0 hT5 t6_0 t6_1 hT6 t7_0 hT7 t8_0 t8_1 hT8 t9_0 hT9 t10_0 t10_1 hT10 t11_0 hT11 t12_0 t12_1 hT12 t13_0 hT13 t14_0 t14_1 hT14 t15_0 hT15 t16_0 t16_1 hT16 t17_0 hT17 t18_0 t18_1 hT18 t19_0 hT19 ⟨trivial, hq.1⟩ sz) ?_ ?_
  · rintro u hZ9
    obtain ⟨hI2, hZ9⟩ := hZ9
    obtain ⟨hun, hZ9⟩ := hZ9
    obtain ⟨u0_0, hZ9⟩ := hZ9
    obtain ⟨u0_1, hZ9⟩ := hZ9
    obtain ⟨u1_0, hZ9⟩ := hZ9
    obtain ⟨u2_0, hZ9⟩ := hZ9
    obtain ⟨u2_1, hZ9⟩ := hZ9
    obtain ⟨u3_0, hZ9⟩ := hZ9
    obtain ⟨u4_0, hZ9⟩ := hZ9
    obtain ⟨u4_1, hZ9⟩ := hZ9
    obtain ⟨u5_0, hZ9⟩ := hZ9
    obtain ⟨u6_0, hZ9⟩ := hZ9
    obtain ⟨u6_1, hZ9⟩ := hZ9
    obtain ⟨u7_0, hZ9⟩ := hZ9
    obtain ⟨u8_0, hZ9⟩ := hZ9
    obtain ⟨u8_1, hZ9⟩ := hZ9
    obtain ⟨u9_0, hZ9⟩ := hZ9
    obtain ⟨u10_0, hZ9⟩ := hZ9
    obtain ⟨u10_1, hZ9⟩ := hZ9
    obtain ⟨u11_0, hZ9⟩ := hZ9
    obtain ⟨u12_0, hZ9⟩ := hZ9
    obtain ⟨u12_1, hZ9⟩ := hZ9
    obtain ⟨u13_0, hZ9⟩ := hZ9
    obtain ⟨u14_0, hZ9⟩ := hZ9
    obtain ⟨u14_1, hZ9⟩ := hZ9
    obtain ⟨u15_0, hZ9⟩ := hZ9
    obtain ⟨u18_0, hZ9⟩ := hZ9
    obtain ⟨u18_1, hZ9⟩ := hZ9
    obtain ⟨u19_0, hZ9⟩ := hZ9
    obtain ⟨hU0, hZ9⟩ := hZ9
    obtain ⟨hU1, hZ9⟩ := hZ9
    obtain ⟨hU2, hZ9⟩ := hZ9
    obtain ⟨hU3, hZ9⟩ := hZ9
    obtain ⟨hU4, hZ9⟩ := hZ9
    obtain ⟨hU5, hZ9⟩ := hZ9
    obtain ⟨hU6, hZ9⟩ := hZ9
    obtain ⟨hU7, hZ9⟩ := hZ9
    obtain ⟨hU8, hZ9⟩ := hZ9
    obtain ⟨hU9, hZ9⟩ := hZ9
    obtain ⟨hU10, hZ9⟩ := hZ9
    obtain ⟨hU11, hZ9⟩ := hZ9
    obtain ⟨hU12, hZ9⟩ := hZ9
    obtain ⟨hU13, hZ9⟩ := hZ9
    obtain ⟨hU14, hZ9⟩ := hZ9
    obtain ⟨hU15, hZ9⟩ := hZ9
    obtain ⟨hU16, hZ9⟩ := hZ9
    obtain ⟨hU17, hR⟩ := hZ9
    have hF := hR.2.2.2.2.2.2.2.2.2.2.2.2.2.2.2.2.2.2.2.2.2.2.2.2.2.2.2.2.2.2.2.2.2.2.2.2.2.2.2.2.2.2.2.2.2.2.2.2.2.2.2.2
    have hp := hq.2
    rw [← hF] at hp
    refine ⟨hI2, ⟨fun i hi => ?_, fun i hi => ?_, ?_⟩, fun i hi => hun i (by simp only [List.mem_cons, List.not_mem_nil, or_false, not_or]; omega)⟩
    · by_cases hk4 : i = i3
      · rw [hk4]; refine ⟨_, _, _, hU16, hU17, ?_⟩; first | exact hp
      · exact iW_fr (hC.1 i hi) (hun _ (by simp only [List.mem_cons, List.not_mem_nil, or_false, not_or]; omega)) (hun _ (by simp only [List.mem_cons, List.not_mem_nil, or_false, not_or]; omega))
    · exact iD_fr (hC.2.1 i hi) (hun _ (by simp only [List.mem_cons, List.not_mem_nil, or_false, not_or]; omega)) (hun _ (by simp only [List.mem_cons, List.not_mem_nil, or_false, not_or]; omega)) (hun _ (by simp only [List.mem_cons, List.not_mem_nil, or_false, not_or]; omega))
    · exact iO_fr hC.2.2 (hun _ (by simp only [List.mem_cons, List.not_mem_nil, or_false, not_or]; omega)) (hun _ (by simp only [List.mem_cons, List.not_mem_nil, or_false, not_or]; omega)) (hun _ (by simp only [List.mem_cons, List.not_mem_nil, or_false, not_or]; omega))
  · rintro E u hZ9
    obtain ⟨c, hZ9⟩ := hZ9
    obtain ⟨hE, hZ9⟩ := hZ9
    obtain ⟨hc, hZ9⟩ := hZ9
    obtain ⟨hI2, hZ9⟩ := hZ9
    obtain ⟨hun, hZ9⟩ := hZ9
    obtain ⟨u0_0, hZ9⟩ := hZ9
    obtain ⟨u0_1, hZ9⟩ := hZ9
    obtain ⟨u1_0, hZ9⟩ := hZ9
    obtain ⟨u2_0, hZ9⟩ := hZ9
    obtain ⟨u2_1, hZ9⟩ := hZ9
    obtain ⟨u3_0, hZ9⟩ := hZ9
    obtain ⟨u4_0, hZ9⟩ := hZ9
    obtain ⟨u4_1, hZ9⟩ := hZ9
    obtain ⟨u5_0, hZ9⟩ := hZ9
    obtain ⟨u6_0, hZ9⟩ := hZ9
    obtain ⟨u6_1, hZ9⟩ := hZ9
    obtain ⟨u7_0, hZ9⟩ := hZ9
    obtain ⟨u8_0, hZ9⟩ := hZ9
    obtain ⟨u8_1, hZ9⟩ := hZ9
    obtain ⟨u9_0, hZ9⟩ := hZ9
    obtain ⟨u10_0, hZ9⟩ := hZ9
    obtain ⟨u10_1, hZ9⟩ := hZ9
    obtain ⟨u11_0, hZ9⟩ := hZ9
    obtain ⟨u12_0, hZ9⟩ := hZ9
    obtain ⟨u12_1, hZ9⟩ := hZ9
    obtain ⟨u13_0, hZ9⟩ := hZ9
    obtain ⟨u14_0, hZ9⟩ := hZ9
    obtain ⟨u14_1, hZ9⟩ := hZ9
    obtain ⟨u15_0, hZ9⟩ := hZ9
    obtain ⟨u18_0, hZ9⟩ := hZ9
    obtain ⟨u18_1, hZ9⟩ := hZ9
    obtain ⟨u19_0, hZ9⟩ := hZ9
    obtain ⟨hU0, hZ9⟩ := hZ9
    obtain ⟨hU1, hZ9⟩ := hZ9
    obtain ⟨hU2, hZ9⟩ := hZ9
    obtain ⟨hU3, hZ9⟩ := hZ9
    obtain ⟨hU4, hZ9⟩ := hZ9
    obtain ⟨hU5, hZ9⟩ := hZ9
    obtain ⟨hU6, hZ9⟩ := hZ9
    obtain ⟨hU7, hZ9⟩ := hZ9
    obtain ⟨hU8, hZ9⟩ := hZ9
    obtain ⟨hU9, hZ9⟩ := hZ9
    obtain ⟨hU10, hZ9⟩ := hZ9
    obtain ⟨hU11, hZ9⟩ := hZ9
    obtain ⟨hU12, hZ9⟩ := hZ9
    obtain ⟨hU13, hZ9⟩ := hZ9
    obtain ⟨hU14, hZ9⟩ := hZ9
    obtain ⟨hU15, hZ9⟩ := hZ9
    obtain ⟨hU16, hZ9⟩ := hZ9
    obtain ⟨hU17, hF⟩ := hZ9
    have hp := hq.2
    rw [← hF] at hp
    have hk := K_NH_powerModulo_et (x2 := x2) (x3 := x3) (x4 := x4) (x5 := x5) (t0_0 := t0_0) (t0_1 := t0_1) (t1_0 := t1_0) (t2_0 := t2_0) (t2_1 := t2_1) (t3_0 := t3_0) (t4_0 := t4_0) (t4_1 := t4_1) (t5_0 := t5_0) (t6_0 := t6_0) (t6_1 := t6_1) (t7_0 := t7_0) (t8_0 := t8_0) (t8_1 := t8_1) (t9_0 := t9_0) (t10_0 := t10_0) (t10_1 := t10_1) (t11_0 := t11_0) (t12_0 := t12_0) (t12_1 := t12_1) (t13_0 := t13_0) (t14_0 := t14_0) (t14_1 := t14_1) (t15_0 := t15_0) (t16_0 := t16_0) (t16_1 := t16_1) (t17_0 := t17_0) (t18_0 := t18_0) (t18_1 := t18_1) (t19_0 := t19_0)
    rw [← hF] at hk
    replace hk : kC12 c := hk
    refine ⟨⟨c, hE, hk.resolve_left hc⟩, hI2, ⟨fun i hi => ?_, fun i hi => ?_, ?_⟩, fun i hi => hun i (by simp only [List.mem_cons, List.not_mem_nil, or_false, not_or]; omega)⟩
    · by_cases hk4 : i = i3
      · rw [hk4]; refine ⟨_, _, _, hU16, hU17, ?_⟩; first | exact hp
      · exact iW_fr (hC.1 i hi) (hun _ (by simp only [List.mem_cons, List.not_mem_nil, or_false, not_or]; omega)) (hun _ (by simp only [List.mem_cons, List.not_mem_nil, or_false, not_or]; omega))
    · exact iD_fr (hC.2.1 i hi) (hun _ (by simp only [List.mem_cons, List.not_mem_nil, or_false, not_or]; omega)) (hun _ (by simp only [List.mem_cons, List.not_mem_nil, or_false, not_or]; omega)) (hun _ (by simp only [List.mem_cons, List.not_mem_nil, or_false, not_or]; omega))
    · exact iO_fr hC.2.2 (hun _ (by simp only [List.mem_cons, List.not_mem_nil, or_false, not_or]; omega)) (hun _ (by simp only [List.mem_cons, List.not_mem_nil, or_false, not_or]; omega)) (hun _ (by simp only [List.mem_cons, List.not_mem_nil, or_false, not_or]; omega))
set_option maxRecDepth 100000 in
theorem CV_powerModulo_aet (l : Launch) (D : va_G) (g : Nat → ClassId) (q : Nat → Nat) (ws : va_W) (x2 : Int32) (x3 : Int32) (x4 : Int32) (x5 : Int32) (i2 : Nat) (hi2 : i2 < 10) (e2 : x2.toNatClampNeg < 10 → i2 = x2.toNatClampNeg) (e3 : x3.toNatClampNeg < 10 → i2 = x3.toNatClampNeg) (e4 : x4.toNatClampNeg < 10 → i2 = x4.toNatClampNeg) (e5 : x5.toNatClampNeg < 10 → i2 = x5.toNatClampNeg) (hlt : l.stackTraces = false) (hI : q_I (nsh g q) q ws) (hC : iC g q ws) : ∀ sz, q_Mx l y_NH_powerModulo prog_1_method_10_code 5 none 9 4 24 D g [.ref (q 0), .int x2, .int x3, .int x4, .int x5] ws sz (va_Qv (fun u => iP g q ws u) (q_B D g (va_A ws sz)) (va_A ws sz)) (fun E u => (∃ c : Int32, E = qE c ∧ (c = 1 ∨ c = 2)) ∧ iP g q ws u) := by
  intro sz
  obtain ⟨t0_0, t0_1, hT0, bT0⟩ := q_bigO hI (n_b10 g q)
  obtain ⟨t1_0, hT1, bT1⟩ := n_ai hI (n_s11 g q)
  obtain ⟨t2_0, t2_1, hT2, bT2⟩ := q_bigO hI (n_b12 g q)
  obtain ⟨t3_0, hT3, bT3⟩ := n_ai hI (n_s13 g q)
  obtain ⟨t4_0, t4_1, hT4, bT4⟩ := q_bigO hI (n_b14 g q)
  obtain ⟨t5_0, hT5, bT5⟩ := n_ai hI (n_s15 g q)
  obtain ⟨t6_0, t6_1, hT6, bT6⟩ := q_bigO hI (n_b18 g q)
  obtain ⟨t7_0, hT7, bT7⟩ := n_ai hI (n_s19 g q)
  obtain ⟨t8_0, t8_1, hT8, bT8⟩ := q_bigO hI (n_b22 g q)
  obtain ⟨t9_0, hT9, bT9⟩ := n_ai hI (n_s23 g q)
  obtain ⟨t10_0, t10_1, hT10, bT10⟩ := q_bigO hI (n_b24 g q)
  obtain ⟨t11_0, hT11, bT11⟩ := n_ai hI (n_s25 g q)
  obtain ⟨t12_0, t12_1, hT12, bT12⟩ := q_bigO hI (n_b26 g q)
  obtain ⟨t13_0, hT13, bT13⟩ := n_ai hI (n_s27 g q)
  obtain ⟨t14_0, t14_1, hT14, bT14⟩ := q_bigO hI (n_b28 g q)
  obtain ⟨t15_0, hT15, bT15⟩ := n_ai hI (n_s29 g q)
  obtain ⟨t16_0, hZ9⟩ := hC.1 i2 hi2
  obtain ⟨t16_1, hZ9⟩ := hZ9
  obtain ⟨t17_0, hZ9⟩ := hZ9
  obtain ⟨hT16, hZ9⟩ := hZ9
  obtain ⟨hT17, hZ9⟩ := hZ9
  obtain ⟨vk4, hZ9⟩ := hZ9
  obtain ⟨hbk4, hBk4⟩ := hZ9
  have hq := T_powerModulo_aet (x2 := x2) (x3 := x3) (x4 := x4) (x5 := x5) (t0_0 := t0_0) (t0_1 := t0_1) (t1_0 := t1_0) (t2_0 := t2_0) (t2_1 := t2_1) (t3_0 := t3_0) (t4_0 := t4_0) (t4_1 := t4_1) (t5_0 := t5_0) (t6_0 := t6_0) (t6_1 := t6_1) (t7_0 := t7_0) (t8_0 := t8_0) (t8_1 := t8_1) (t9_0 := t9_0) (t10_0 := t10_0) (t10_1 := t10_1) (t11_0 := t11_0) (t12_0 := t12_0) (t12_1 := t12_1) (t13_0 := t13_0) (t14_0 := t14_0) (t14_1 := t14_1) (t15_0 := t15_0) (t16_0 := t16_0) (t16_1 := t16_1) (t17_0 := t17_0) hbk4 hBk4
  refine q_MxV (X_NH_powerModulo_aet l D g q ws x2 x3 x4 x5 (66 + 5 * i2) (n_w g q hi2) (by omega) (fun h => by have z := e2 h; omega) (fun h => by have z := e3 h; omega) (fun h => by have z := e4 h; omega) (fun h => by have z := e5 h; omega) hlt hI t0_0 t0_1 hT0 t1_0 hT1 t2_0 t2_1 hT2 t3_0 hT3 t4_0 t4_1 hT4 t5_0 hT5 t6_0 t6_1 hT6 t7_0 hT7 t8_0 t8_1 hT8 t9_0 hT9 t10_0 t10_1 hT10 t11_0 hT11 t12_0 t12_1 hT12 t13_0 hT13 t14_0 t14_1 hT14 t15_0 hT15 t16_0 t16_1 hT16 t17_0 hT17 ⟨trivial, hq.1⟩ sz) ?_ ?_
  · rintro u hZ9
    obtain ⟨hI2, hZ9⟩ := hZ9
    obtain ⟨hun, hZ9⟩ := hZ9
    obtain ⟨u0_0, hZ9⟩ := hZ9
    obtain ⟨u0_1, hZ9⟩ := hZ9
    obtain ⟨u1_0, hZ9⟩ := hZ9
    obtain ⟨u2_0, hZ9⟩ := hZ9
    obtain ⟨u2_1, hZ9⟩ := hZ9
    obtain ⟨u3_0, hZ9⟩ := hZ9
    obtain ⟨u4_0, hZ9⟩ := hZ9
    obtain ⟨u4_1, hZ9⟩ := hZ9
    obtain ⟨u5_0, hZ9⟩ := hZ9
    obtain ⟨u6_0, hZ9⟩ := hZ9
    obtain ⟨u6_1, hZ9⟩ := hZ9
    obtain ⟨u7_0, hZ9⟩ := hZ9
    obtain ⟨u8_0, hZ9⟩ := hZ9
    obtain ⟨u8_1, hZ9⟩ := hZ9
    obtain ⟨u9_0, hZ9⟩ := hZ9
    obtain ⟨u10_0, hZ9⟩ := hZ9
    obtain ⟨u10_1, hZ9⟩ := hZ9
    obtain ⟨u11_0, hZ9⟩ := hZ9
    obtain ⟨u12_0, hZ9⟩ := hZ9
    obtain ⟨u12_1, hZ9⟩ := hZ9
    obtain ⟨u13_0, hZ9⟩ := hZ9
    obtain ⟨u14_0, hZ9⟩ := hZ9
    obtain ⟨u14_1, hZ9⟩ := hZ9
    obtain ⟨u15_0, hZ9⟩ := hZ9
    obtain ⟨u16_0, hZ9⟩ := hZ9
    obtain ⟨u16_1, hZ9⟩ := hZ9
    obtain ⟨u17_0, hZ9⟩ := hZ9
    obtain ⟨hU0, hZ9⟩ := hZ9
    obtain ⟨hU1, hZ9⟩ := hZ9
    obtain ⟨hU2, hZ9⟩ := hZ9
    obtain ⟨hU3, hZ9⟩ := hZ9
    obtain ⟨hU4, hZ9⟩ := hZ9
    obtain ⟨hU5, hZ9⟩ := hZ9
    obtain ⟨hU6, hZ9⟩ := hZ9
    obtain ⟨hU7, hZ9⟩ := hZ9
    obtain ⟨hU8, hZ9⟩ := hZ9
    obtain ⟨hU9, hZ9⟩ := hZ9
    obtain ⟨hU10, hZ9⟩ := hZ9
    obtain ⟨hU11, hZ9⟩ := hZ9
    obtain ⟨hU12, hZ9⟩ := hZ9
    obtain ⟨hU13, hZ9⟩ := hZ9
    obtain ⟨hU14, hZ9⟩ := hZ9
    obtain ⟨hU15, hZ9⟩ := hZ9
    obtain ⟨hU16, hZ9⟩ := hZ9
    obtain ⟨hU17, hR⟩ := hZ9
    have hF := hR.2.2.2.2.2.2.2.2.2.2.2.2.2.2.2.2.2.2.2.2.2.2.2.2.2.2.2.2.2.2.2.2.2.2.2.2.2.2.2.2.2.2.2.2.2.2.2.2.2.2
    have hp := hq.2
    rw [← hF] at hp
    refine ⟨hI2, ⟨fun i hi => ?_, fun i hi => ?_, ?_⟩, fun i hi => hun i (by simp only [List.mem_cons, List.not_mem_nil, or_false, not_or]; omega)⟩
    · by_cases hk4 : i = i2
      · rw [hk4]; refine ⟨_, _, _, hU16, hU17, ?_⟩; first | exact hp
      · exact iW_fr (hC.1 i hi) (hun _ (by simp only [List.mem_cons, List.not_mem_nil, or_false, not_or]; omega)) (hun _ (by simp only [List.mem_cons, List.not_mem_nil, or_false, not_or]; omega))
    · exact iD_fr (hC.2.1 i hi) (hun _ (by simp only [List.mem_cons, List.not_mem_nil, or_false, not_or]; omega)) (hun _ (by simp only [List.mem_cons, List.not_mem_nil, or_false, not_or]; omega)) (hun _ (by simp only [List.mem_cons, List.not_mem_nil, or_false, not_or]; omega))
    · exact iO_fr hC.2.2 (hun _ (by simp only [List.mem_cons, List.not_mem_nil, or_false, not_or]; omega)) (hun _ (by simp only [List.mem_cons, List.not_mem_nil, or_false, not_or]; omega)) (hun _ (by simp only [List.mem_cons, List.not_mem_nil, or_false, not_or]; omega))
  · rintro E u hZ9
    obtain ⟨c, hZ9⟩ := hZ9
    obtain ⟨hE, hZ9⟩ := hZ9
    obtain ⟨hc, hZ9⟩ := hZ9
    obtain ⟨hI2, hZ9⟩ := hZ9
    obtain ⟨hun, hZ9⟩ := hZ9
    obtain ⟨u0_0, hZ9⟩ := hZ9
    obtain ⟨u0_1, hZ9⟩ := hZ9
    obtain ⟨u1_0, hZ9⟩ := hZ9
    obtain ⟨u2_0, hZ9⟩ := hZ9
    obtain ⟨u2_1, hZ9⟩ := hZ9
    obtain ⟨u3_0, hZ9⟩ := hZ9
    obtain ⟨u4_0, hZ9⟩ := hZ9
    obtain ⟨u4_1, hZ9⟩ := hZ9
    obtain ⟨u5_0, hZ9⟩ := hZ9
    obtain ⟨u6_0, hZ9⟩ := hZ9
    obtain ⟨u6_1, hZ9⟩ := hZ9
    obtain ⟨u7_0, hZ9⟩ := hZ9
    obtain ⟨u8_0, hZ9⟩ := hZ9
    obtain ⟨u8_1, hZ9⟩ := hZ9
    obtain ⟨u9_0, hZ9⟩ := hZ9
    obtain ⟨u10_0, hZ9⟩ := hZ9
    obtain ⟨u10_1, hZ9⟩ := hZ9
    obtain ⟨u11_0, hZ9⟩ := hZ9
    obtain ⟨u12_0, hZ9⟩ := hZ9
    obtain ⟨u12_1, hZ9⟩ := hZ9
    obtain ⟨u13_0, hZ9⟩ := hZ9
    obtain ⟨u14_0, hZ9⟩ := hZ9
    obtain ⟨u14_1, hZ9⟩ := hZ9
    obtain ⟨u15_0, hZ9⟩ := hZ9
    obtain ⟨u16_0, hZ9⟩ := hZ9
    obtain ⟨u16_1, hZ9⟩ := hZ9
    obtain ⟨u17_0, hZ9⟩ := hZ9
    obtain ⟨hU0, hZ9⟩ := hZ9
    obtain ⟨hU1, hZ9⟩ := hZ9
    obtain ⟨hU2, hZ9⟩ := hZ9
    obtain ⟨hU3, hZ9⟩ := hZ9
    obtain ⟨hU4, hZ9⟩ := hZ9
    obtain ⟨hU5, hZ9⟩ := hZ9
    obtain ⟨hU6, hZ9⟩ := hZ9
    obtain ⟨hU7, hZ9⟩ := hZ9
    obtain ⟨hU8, hZ9⟩ := hZ9
    obtain ⟨hU9, hZ9⟩ := hZ9
    obtain ⟨hU10, hZ9⟩ := hZ9
    obtain ⟨hU11, hZ9⟩ := hZ9
    obtain ⟨hU12, hZ9⟩ := hZ9
    obtain ⟨hU13, hZ9⟩ := hZ9
    obtain ⟨hU14, hZ9⟩ := hZ9
    obtain ⟨hU15, hZ9⟩ := hZ9
    obtain ⟨hU16, hZ9⟩ := hZ9
    obtain ⟨hU17, hF⟩ := hZ9
    have hp := hq.2
    rw [← hF] at hp
    have hk := K_NH_powerModulo_aet (x2 := x2) (x3 := x3) (x4 := x4) (x5 := x5) (t0_0 := t0_0) (t0_1 := t0_1) (t1_0 := t1_0) (t2_0 := t2_0) (t2_1 := t2_1) (t3_0 := t3_0) (t4_0 := t4_0) (t4_1 := t4_1) (t5_0 := t5_0) (t6_0 := t6_0) (t6_1 := t6_1) (t7_0 := t7_0) (t8_0 := t8_0) (t8_1 := t8_1) (t9_0 := t9_0) (t10_0 := t10_0) (t10_1 := t10_1) (t11_0 := t11_0) (t12_0 := t12_0) (t12_1 := t12_1) (t13_0 := t13_0) (t14_0 := t14_0) (t14_1 := t14_1) (t15_0 := t15_0) (t16_0 := t16_0) (t16_1 := t16_1) (t17_0 := t17_0)
    rw [← hF] at hk
    replace hk : kC12 c := hk
    refine ⟨⟨c, hE, hk.resolve_left hc⟩, hI2, ⟨fun i hi => ?_, fun i hi => ?_, ?_⟩, fun i hi => hun i (by simp only [List.mem_cons, List.not_mem_nil, or_false, not_or]; omega)⟩
    · by_cases hk4 : i = i2
      · rw [hk4]; refine ⟨_, _, _, hU16, hU17, ?_⟩; first | exact hp
      · exact iW_fr (hC.1 i hi) (hun _ (by simp only [List.mem_cons, List.not_mem_nil, or_false, not_or]; omega)) (hun _ (by simp only [List.mem_cons, List.not_mem_nil, or_false, not_or]; omega))
    · exact iD_fr (hC.2.1 i hi) (hun _ (by simp only [List.mem_cons, List.not_mem_nil, or_false, not_or]; omega)) (hun _ (by simp only [List.mem_cons, List.not_mem_nil, or_false, not_or]; omega)) (hun _ (by simp only [List.mem_cons, List.not_mem_nil, or_false, not_or]; omega))
    · exact iO_fr hC.2.2 (hun _ (by simp only [List.mem_cons, List.not_mem_nil, or_false, not_or]; omega)) (hun _ (by simp only [List.mem_cons, List.not_mem_nil, or_false, not_or]; omega)) (hun _ (by simp only [List.mem_cons, List.not_mem_nil, or_false, not_or]; omega))

theorem q_mIw {l : Launch} {y : MethodName} {b : ByteArray} {n : Nat} {r : FieldType} {d mc ms : Nat} {D : va_G} {g : Nat → ClassId} {av : List Value} {ws : va_W} {P P' : Int32 → va_W → Prop} (h : q_mI l y b n r d mc ms D g av ws P) (hQ : ∀ x u, P x u → P' x u) : q_mI l y b n r d mc ms D g av ws P' := by
  intro sz
  refine MetFree.mono (h sz) (fun _ _ h => h) (fun _ _ _ _ _ h => h) ?_
  rintro a s o t _ ⟨⟨⟨x, u, e1, e2, e3⟩, e4⟩, e5⟩
  exact ⟨⟨⟨x, u, e1, hQ x u e2, e3⟩, e4⟩, e5⟩
theorem q_mLw {l : Launch} {y : MethodName} {b : ByteArray} {n : Nat} {d mc ms : Nat} {D : va_G} {g : Nat → ClassId} {av : List Value} {ws : va_W} {P P' : Int64 → va_W → Prop} (h : q_mL l y b n d mc ms D g av ws P) (hQ : ∀ x u, P x u → P' x u) : q_mL l y b n d mc ms D g av ws P' := by
  intro sz
  refine MetFree.mono (h sz) (fun _ _ h => h) (fun _ _ _ _ _ h => h) ?_
  rintro a s o t _ ⟨⟨⟨x, u, e1, e2, e3⟩, e4⟩, e5⟩
  exact ⟨⟨⟨x, u, e1, hQ x u e2, e3⟩, e4⟩, e5⟩
theorem C_wipe (l : Launch) (D : va_G) (g : Nat → ClassId) (q : Nat → Nat) (ws : va_W) (hI : q_I (nsh g q) q ws) (hC : iC g q ws) : q_mI l y_NH_wipe prog_1_method_3_code 2 (.int) 2 0 0 D g [.ref (q 0)] ws (fun _ u => iP g q ws u) := by
  obtain ⟨t0_0, hT0, bT0⟩ := n_shO hI (n_h1 g q)
  obtain ⟨t1_0, hT1⟩ := n_al hI (n_s2 g q)
  refine q_mIw (X_NH_wipe l D g q ws hI t0_0 hT0 t1_0 hT1) ?_
  rintro r u ⟨hI2, hun, u0, hU, hR⟩
  refine ⟨hI2, ⟨fun i hi => ?_, fun i hi => ?_, ?_⟩, fun i hi => hun i (by simp only [List.mem_cons, List.not_mem_nil, or_false]; omega)⟩
  · exact iW_fr (hC.1 i hi) (hun _ (by simp only [List.mem_cons, List.not_mem_nil, or_false]; omega)) (hun _ (by simp only [List.mem_cons, List.not_mem_nil, or_false]; omega))
  · exact iD_fr (hC.2.1 i hi) (hun _ (by simp only [List.mem_cons, List.not_mem_nil, or_false]; omega)) (hun _ (by simp only [List.mem_cons, List.not_mem_nil, or_false]; omega)) (hun _ (by simp only [List.mem_cons, List.not_mem_nil, or_false]; omega))
  · exact iO_fr hC.2.2 (hun _ (by simp only [List.mem_cons, List.not_mem_nil, or_false]; omega)) (hun _ (by simp only [List.mem_cons, List.not_mem_nil, or_false]; omega)) (hun _ (by simp only [List.mem_cons, List.not_mem_nil, or_false]; omega))
theorem C_paperAt (l : Launch) (D : va_G) (g : Nat → ClassId) (q : Nat → Nat) (ws : va_W) (x2 : Int32) (hI : q_I (nsh g q) q ws) (hC : iC g q ws) : q_mL l y_NH_paperAt prog_1_method_21_code 5 2 0 0 D g [.ref (q 0), .int x2] ws (fun _ u => iP g q ws u) := by
  obtain ⟨t0_0, hT0, bT0⟩ := n_shO hI (n_h3 g q)
  obtain ⟨t1_0, hT1⟩ := n_al hI (n_s4 g q)
  refine q_mLw (X_NH_paperAt l D g q ws x2 hI t0_0 hT0 t1_0 hT1) ?_
  rintro r u ⟨e1, e2⟩
  subst e1
  exact ⟨hI, hC, fun _ _ => rfl⟩
theorem C_feed (l : Launch) (D : va_G) (g : Nat → ClassId) (q : Nat → Nat) (ws : va_W) (x2 : Int32) (x3 : Int64) (hlt : l.stackTraces = false) (hI : q_I (nsh g q) q ws) (hC : iC g q ws) : ∀ sz, q_Mx l y_NH_feed prog_1_method_2_code 5 (some .int) 8 1 6 D g [.ref (q 0), .int x2, .long x3] ws sz (va_Qi (fun _ u => iP g q ws u) (q_B D g (va_A ws sz)) (va_A ws sz)) (fun E u => (∃ c : Int32, E = qE c ∧ (c = 1)) ∧ iP g q ws u) := by
  exact CV_feed l D g q ws x2 x3 hlt hI hC
theorem C_read (l : Launch) (D : va_G) (g : Nat → ClassId) (q : Nat → Nat) (ws : va_W) (x2 : Int32) (x3 : Int32) (x4 : Int32) (hlt : l.stackTraces = false) (hI : q_I (nsh g q) q ws) (hC : iC g q ws) : ∀ sz, q_Mx l y_NH_read prog_1_method_4_code 5 (some .boolean) 9 4 24 D g [.ref (q 0), .int x2, .int x3, .int x4] ws sz (va_Qi (fun _ u => iP g q ws u) (q_B D g (va_A ws sz)) (va_A ws sz)) (fun E u => (∃ c : Int32, E = qE c ∧ (c = 1 ∨ c = 2)) ∧ iP g q ws u) := by
  obtain ⟨i3, hi3, e3⟩ := iX x3
  exact CV_read l D g q ws x2 x3 x4 i3 hi3 e3 hlt hI hC
theorem C_put (l : Launch) (D : va_G) (g : Nat → ClassId) (q : Nat → Nat) (ws : va_W) (x2 : Int32) (x3 : Int32) (x4 : Int64) (hlt : l.stackTraces = false) (hI : q_I (nsh g q) q ws) (hC : iC g q ws) : ∀ sz, q_Mx l y_NH_put prog_1_method_5_code 5 none 9 2 12 D g [.ref (q 0), .int x2, .int x3, .long x4] ws sz (va_Qv (fun u => iP g q ws u ∧ kPut x2 x3 x4 = 0) (q_B D g (va_A ws sz)) (va_A ws sz)) (fun E u => (∃ c : Int32, E = qE c ∧ (c = 1)) ∧ iP g q ws u ∧ kPut x2 x3 x4 = 1) := by
  obtain ⟨i3, hi3, e3⟩ := iX x3
  exact CV_put l D g q ws x2 x3 x4 i3 hi3 e3 hlt hI hC
theorem C_told (l : Launch) (D : va_G) (g : Nat → ClassId) (q : Nat → Nat) (ws : va_W) (x2 : Int32) (x3 : Int32) (x4 : Int32) (hlt : l.stackTraces = false) (hI : q_I (nsh g q) q ws) (hC : iC g q ws) : ∀ sz, q_Mx l y_NH_told prog_1_method_6_code 7 (some .long) 9 4 24 D g [.ref (q 0), .int x2, .int x3, .int x4] ws sz (va_Ql (fun _ u => iP g q ws u) (q_B D g (va_A ws sz)) (va_A ws sz)) (fun E u => (∃ c : Int32, E = qE c ∧ (c = 1 ∨ c = 2)) ∧ iP g q ws u) := by
  obtain ⟨i3, hi3, e3⟩ := iX x3
  exact CV_told l D g q ws x2 x3 x4 i3 hi3 e3 hlt hI hC
theorem C_compare (l : Launch) (D : va_G) (g : Nat → ClassId) (q : Nat → Nat) (ws : va_W) (x2 : Int32) (x3 : Int32) (x4 : Int32) (hlt : l.stackTraces = false) (hI : q_I (nsh g q) q ws) (hC : iC g q ws) : ∀ sz, q_Mx l y_NH_compare prog_1_method_7_code 9 (some .int) 9 3 18 D g [.ref (q 0), .int x2, .int x3, .int x4] ws sz (va_Qi (fun _ u => iP g q ws u) (q_B D g (va_A ws sz)) (va_A ws sz)) (fun E u => (∃ c : Int32, E = qE c ∧ (c = 1 ∨ c = 2)) ∧ iP g q ws u) := by
  obtain ⟨i3, hi3, e3⟩ := iX x3
  obtain ⟨i4, hi4, e4⟩ := iX x4
  exact CV_compare l D g q ws x2 x3 x4 i3 hi3 i4 hi4 e3 e4 hlt hI hC
theorem C_whole (l : Launch) (D : va_G) (g : Nat → ClassId) (q : Nat → Nat) (ws : va_W) (x2 : Int32) (x3 : Int32) (x4 : Int32) (x5 : Int32) (hlt : l.stackTraces = false) (hI : q_I (nsh g q) q ws) (hC : iC g q ws) : ∀ sz, q_Mx l y_NH_whole prog_1_method_8_code 7 none 9 4 24 D g [.ref (q 0), .int x2, .int x3, .int x4, .int x5] ws sz (va_Qv (fun u => iP g q ws u) (q_B D g (va_A ws sz)) (va_A ws sz)) (fun E u => (∃ c : Int32, E = qE c ∧ (c = 1 ∨ c = 2)) ∧ iP g q ws u) := by
  obtain ⟨i3, hi3, e3⟩ := iX x3
  obtain ⟨i4, hi4, e4⟩ := iX x4
  obtain ⟨i5, hi5, e5⟩ := iX x5
  by_cases c34 : i3 = i4
  · by_cases c45 : i4 = i5
    · exact CV_whole_abt l D g q ws x2 x3 x4 x5 i3 hi3 e3 (fun h => by have z := e4 h; omega) (fun h => by have z := e5 h; omega) hlt hI hC
    · exact CV_whole_ab l D g q ws x2 x3 x4 x5 i3 hi3 i5 hi5 e3 (fun h => by have z := e4 h; omega) e5 (by omega) hlt hI hC
  · by_cases c45 : i4 = i5
    · exact CV_whole_bt l D g q ws x2 x3 x4 x5 i3 hi3 i4 hi4 e3 e4 (fun h => by have z := e5 h; omega) (by omega) hlt hI hC
    · exact CV_whole l D g q ws x2 x3 x4 x5 i3 hi3 i4 hi4 i5 hi5 e3 e4 e5 (by omega) (by omega) hlt hI hC
theorem C_wholeBy (l : Launch) (D : va_G) (g : Nat → ClassId) (q : Nat → Nat) (ws : va_W) (x2 : Int32) (x3 : Int32) (x4 : Int32) (x5 : Int32) (hlt : l.stackTraces = false) (hI : q_I (nsh g q) q ws) (hC : iC g q ws) : ∀ sz, q_Mx l y_NH_wholeBy prog_1_method_9_code 6 none 9 5 30 D g [.ref (q 0), .int x2, .int x3, .int x4, .int x5] ws sz (va_Qv (fun u => iP g q ws u) (q_B D g (va_A ws sz)) (va_A ws sz)) (fun E u => (∃ c : Int32, E = qE c ∧ (c = 1 ∨ c = 2)) ∧ iP g q ws u) := by
  obtain ⟨i3, hi3, e3⟩ := iX x3
  obtain ⟨i5, hi5, e5⟩ := iX x5
  exact CV_wholeBy l D g q ws x2 x3 x4 x5 i3 hi3 i5 hi5 e3 e5 hlt hI hC
theorem C_powerModulo (l : Launch) (D : va_G) (g : Nat → ClassId) (q : Nat → Nat) (ws : va_W) (x2 : Int32) (x3 : Int32) (x4 : Int32) (x5 : Int32) (hlt : l.stackTraces = false) (hI : q_I (nsh g q) q ws) (hC : iC g q ws) : ∀ sz, q_Mx l y_NH_powerModulo prog_1_method_10_code 5 none 9 4 24 D g [.ref (q 0), .int x2, .int x3, .int x4, .int x5] ws sz (va_Qv (fun u => iP g q ws u) (q_B D g (va_A ws sz)) (va_A ws sz)) (fun E u => (∃ c : Int32, E = qE c ∧ (c = 1 ∨ c = 2)) ∧ iP g q ws u) := by
  obtain ⟨i2, hi2, e2⟩ := iX x2
  obtain ⟨i3, hi3, e3⟩ := iX x3
  obtain ⟨i4, hi4, e4⟩ := iX x4
  obtain ⟨i5, hi5, e5⟩ := iX x5
  by_cases c24 : i2 = i4
  · by_cases c34 : i3 = i4
    · by_cases c54 : i5 = i4
      · exact CV_powerModulo_aet l D g q ws x2 x3 x4 x5 i2 hi2 e2 (fun h => by have z := e3 h; omega) (fun h => by have z := e4 h; omega) (fun h => by have z := e5 h; omega) hlt hI hC
      · exact CV_powerModulo_ae l D g q ws x2 x3 x4 x5 i2 hi2 i5 hi5 e2 (fun h => by have z := e3 h; omega) (fun h => by have z := e4 h; omega) e5 (by omega) hlt hI hC
    · by_cases c54 : i5 = i4
      · exact CV_powerModulo_at l D g q ws x2 x3 x4 x5 i2 hi2 i3 hi3 e2 e3 (fun h => by have z := e4 h; omega) (fun h => by have z := e5 h; omega) (by omega) hlt hI hC
      · exact CV_powerModulo_a l D g q ws x2 x3 x4 x5 i2 hi2 i3 hi3 i5 hi5 e2 e3 (fun h => by have z := e4 h; omega) e5 (by omega) (by omega) hlt hI hC
  · by_cases c34 : i3 = i4
    · by_cases c54 : i5 = i4
      · exact CV_powerModulo_et l D g q ws x2 x3 x4 x5 i2 hi2 i3 hi3 e2 e3 (fun h => by have z := e4 h; omega) (fun h => by have z := e5 h; omega) (by omega) hlt hI hC
      · exact CV_powerModulo_e l D g q ws x2 x3 x4 x5 i2 hi2 i3 hi3 i5 hi5 e2 e3 (fun h => by have z := e4 h; omega) e5 (by omega) (by omega) hlt hI hC
    · by_cases c54 : i5 = i4
      · exact CV_powerModulo_t l D g q ws x2 x3 x4 x5 i2 hi2 i3 hi3 i4 hi4 e2 e3 e4 (fun h => by have z := e5 h; omega) (by omega) (by omega) hlt hI hC
      · exact CV_powerModulo l D g q ws x2 x3 x4 x5 i2 hi2 i3 hi3 i4 hi4 i5 hi5 e2 e3 e4 e5 (by omega) (by omega) (by omega) hlt hI hC
theorem C_decimal (l : Launch) (D : va_G) (g : Nat → ClassId) (q : Nat → Nat) (ws : va_W) (x2 : Int32) (x3 : Int32) (x4 : Int32) (x5 : Int32) (hlt : l.stackTraces = false) (hI : q_I (nsh g q) q ws) (hC : iC g q ws) : ∀ sz, q_Mx l y_NH_decimal prog_1_method_11_code 7 none 9 3 18 D g [.ref (q 0), .int x2, .int x3, .int x4, .int x5] ws sz (va_Qv (fun u => iP g q ws u) (q_B D g (va_A ws sz)) (va_A ws sz)) (fun E u => (∃ c : Int32, E = qE c ∧ (c = 1 ∨ c = 2)) ∧ iP g q ws u) := by
  obtain ⟨i3, hi3, e3⟩ := iX x3
  obtain ⟨i4, hi4, e4⟩ := iX x4
  obtain ⟨i5, hi5, e5⟩ := iX x5
  by_cases c34 : i3 = i4
  · by_cases c45 : i4 = i5
    · exact CV_decimal_abt l D g q ws x2 x3 x4 x5 i3 hi3 e3 (fun h => by have z := e4 h; omega) (fun h => by have z := e5 h; omega) hlt hI hC
    · exact CV_decimal_ab l D g q ws x2 x3 x4 x5 i3 hi3 i5 hi5 e3 (fun h => by have z := e4 h; omega) e5 (by omega) hlt hI hC
  · by_cases c45 : i4 = i5
    · exact CV_decimal_bt l D g q ws x2 x3 x4 x5 i3 hi3 i4 hi4 e3 e4 (fun h => by have z := e5 h; omega) (by omega) hlt hI hC
    · exact CV_decimal l D g q ws x2 x3 x4 x5 i3 hi3 i4 hi4 i5 hi5 e3 e4 e5 (by omega) (by omega) hlt hI hC
theorem C_decimalBy (l : Launch) (D : va_G) (g : Nat → ClassId) (q : Nat → Nat) (ws : va_W) (x2 : Int32) (x3 : Int32) (x4 : Int32) (x5 : Int32) (hlt : l.stackTraces = false) (hI : q_I (nsh g q) q ws) (hC : iC g q ws) : ∀ sz, q_Mx l y_NH_decimalBy prog_1_method_12_code 5 none 9 4 24 D g [.ref (q 0), .int x2, .int x3, .int x4, .int x5] ws sz (va_Qv (fun u => iP g q ws u) (q_B D g (va_A ws sz)) (va_A ws sz)) (fun E u => (∃ c : Int32, E = qE c ∧ (c = 1 ∨ c = 2)) ∧ iP g q ws u) := by
  obtain ⟨i3, hi3, e3⟩ := iX x3
  obtain ⟨i5, hi5, e5⟩ := iX x5
  exact CV_decimalBy l D g q ws x2 x3 x4 x5 i3 hi3 i5 hi5 e3 e5 hlt hI hC
theorem C_divide (l : Launch) (D : va_G) (g : Nat → ClassId) (q : Nat → Nat) (ws : va_W) (x2 : Int32) (x3 : Int32) (x4 : Int32) (x5 : Int32) (x6 : Int32) (hlt : l.stackTraces = false) (hI : q_I (nsh g q) q ws) (hC : iC g q ws) : ∀ sz, q_Mx l y_NH_divide prog_1_method_13_code 6 none 9 4 24 D g [.ref (q 0), .int x2, .int x3, .int x4, .int x5, .int x6] ws sz (va_Qv (fun u => iP g q ws u) (q_B D g (va_A ws sz)) (va_A ws sz)) (fun E u => (∃ c : Int32, E = qE c ∧ (c = 1 ∨ c = 2)) ∧ iP g q ws u) := by
  obtain ⟨i2, hi2, e2⟩ := iX x2
  obtain ⟨i3, hi3, e3⟩ := iX x3
  obtain ⟨i4, hi4, e4⟩ := iX x4
  by_cases c23 : i2 = i3
  · by_cases c34 : i3 = i4
    · exact CV_divide_abt l D g q ws x2 x3 x4 x5 x6 i2 hi2 e2 (fun h => by have z := e3 h; omega) (fun h => by have z := e4 h; omega) hlt hI hC
    · exact CV_divide_ab l D g q ws x2 x3 x4 x5 x6 i2 hi2 i4 hi4 e2 (fun h => by have z := e3 h; omega) e4 (by omega) hlt hI hC
  · by_cases c34 : i3 = i4
    · exact CV_divide_bt l D g q ws x2 x3 x4 x5 x6 i2 hi2 i3 hi3 e2 e3 (fun h => by have z := e4 h; omega) (by omega) hlt hI hC
    · exact CV_divide l D g q ws x2 x3 x4 x5 x6 i2 hi2 i3 hi3 i4 hi4 e2 e3 e4 (by omega) (by omega) hlt hI hC
theorem C_quotient (l : Launch) (D : va_G) (g : Nat → ClassId) (q : Nat → Nat) (ws : va_W) (x2 : Int32) (x3 : Int32) (x4 : Int32) (x5 : Int32) (x6 : Int32) (hlt : l.stackTraces = false) (hI : q_I (nsh g q) q ws) (hC : iC g q ws) : ∀ sz, q_Mx l y_NH_quotient prog_1_method_14_code 6 none 9 5 30 D g [.ref (q 0), .int x2, .int x3, .int x4, .int x5, .int x6] ws sz (va_Qv (fun u => iP g q ws u) (q_B D g (va_A ws sz)) (va_A ws sz)) (fun E u => (∃ c : Int32, E = qE c ∧ (c = 1 ∨ c = 2)) ∧ iP g q ws u) := by
  obtain ⟨i2, hi2, e2⟩ := iX x2
  obtain ⟨i3, hi3, e3⟩ := iX x3
  obtain ⟨i4, hi4, e4⟩ := iX x4
  by_cases c23 : i2 = i3
  · by_cases c34 : i3 = i4
    · exact CV_quotient_abt l D g q ws x2 x3 x4 x5 x6 i2 hi2 e2 (fun h => by have z := e3 h; omega) (fun h => by have z := e4 h; omega) hlt hI hC
    · exact CV_quotient_ab l D g q ws x2 x3 x4 x5 x6 i2 hi2 i4 hi4 e2 (fun h => by have z := e3 h; omega) e4 (by omega) hlt hI hC
  · by_cases c34 : i3 = i4
    · exact CV_quotient_bt l D g q ws x2 x3 x4 x5 x6 i2 hi2 i3 hi3 e2 e3 (fun h => by have z := e4 h; omega) (by omega) hlt hI hC
    · exact CV_quotient l D g q ws x2 x3 x4 x5 x6 i2 hi2 i3 hi3 i4 hi4 e2 e3 e4 (by omega) (by omega) hlt hI hC
theorem C_shape (l : Launch) (D : va_G) (g : Nat → ClassId) (q : Nat → Nat) (ws : va_W) (x2 : Int32) (x3 : Int32) (x4 : Int32) (x5 : Int32) (x6 : Int32) (hlt : l.stackTraces = false) (hI : q_I (nsh g q) q ws) (hC : iC g q ws) : ∀ sz, q_Mx l y_NH_shape prog_1_method_15_code 7 none 9 5 30 D g [.ref (q 0), .int x2, .int x3, .int x4, .int x5, .int x6] ws sz (va_Qv (fun u => iP g q ws u) (q_B D g (va_A ws sz)) (va_A ws sz)) (fun E u => (∃ c : Int32, E = qE c ∧ (c = 1 ∨ c = 2)) ∧ iP g q ws u) := by
  obtain ⟨i3, hi3, e3⟩ := iX x3
  obtain ⟨i4, hi4, e4⟩ := iX x4
  exact CV_shape l D g q ws x2 x3 x4 x5 x6 i3 hi3 i4 hi4 e3 e4 hlt hI hC
theorem C_convert (l : Launch) (D : va_G) (g : Nat → ClassId) (q : Nat → Nat) (ws : va_W) (x2 : Int32) (x3 : Int32) (x4 : Int32) (x5 : Int32) (hlt : l.stackTraces = false) (hI : q_I (nsh g q) q ws) (hC : iC g q ws) : ∀ sz, q_Mx l y_NH_convert prog_1_method_16_code 5 none 9 4 24 D g [.ref (q 0), .int x2, .int x3, .int x4, .int x5] ws sz (va_Qv (fun u => iP g q ws u) (q_B D g (va_A ws sz)) (va_A ws sz)) (fun E u => (∃ c : Int32, E = qE c ∧ (c = 1 ∨ c = 2)) ∧ iP g q ws u) := by
  obtain ⟨i3, hi3, e3⟩ := iX x3
  obtain ⟨i5, hi5, e5⟩ := iX x5
  exact CV_convert l D g q ws x2 x3 x4 x5 i3 hi3 i5 hi5 e3 e5 hlt hI hC
theorem C_print (l : Launch) (D : va_G) (g : Nat → ClassId) (q : Nat → Nat) (ws : va_W) (x2 : Int32) (x3 : Int32) (x4 : Int32) (hlt : l.stackTraces = false) (hI : q_I (nsh g q) q ws) (hC : iC g q ws) : ∀ sz, q_Mx l y_NH_print prog_1_method_17_code 4 (some .int) 9 2 12 D g [.ref (q 0), .int x2, .int x3, .int x4] ws sz (va_Qi (fun _ u => iP g q ws u) (q_B D g (va_A ws sz)) (va_A ws sz)) (fun E u => (∃ c : Int32, E = qE c ∧ (c = 1)) ∧ iP g q ws u) := by
  obtain ⟨i3, hi3, e3⟩ := iX x3
  exact CV_print l D g q ws x2 x3 x4 i3 hi3 e3 hlt hI hC
theorem C_figures (l : Launch) (D : va_G) (g : Nat → ClassId) (q : Nat → Nat) (ws : va_W) (x2 : Int32) (x3 : Int32) (x4 : Int32) (x5 : Int32) (x6 : Int32) (hzx4 : 0 ≤ x4.toInt ∧ x4.toInt ≤ 1) (hlt : l.stackTraces = false) (hI : q_I (nsh g q) q ws) (hC : iC g q ws) : ∀ sz, q_Mx l y_NH_figures prog_1_method_18_code 9 (some .int) 8 3 18 D g [.ref (q 0), .int x2, .int x3, .int x4, .int x5, .int x6] ws sz (va_Qi (fun _ u => iP g q ws u) (q_B D g (va_A ws sz)) (va_A ws sz)) (fun E u => (∃ c : Int32, E = qE c ∧ (c = 1 ∨ c = 2)) ∧ iP g q ws u) := by
  exact CV_figures l D g q ws x2 x3 x4 x5 x6 hzx4 hlt hI hC
theorem C_format (l : Launch) (D : va_G) (g : Nat → ClassId) (q : Nat → Nat) (ws : va_W)  (hlt : l.stackTraces = false) (hI : q_I (nsh g q) q ws) (hC : iC g q ws) : ∀ sz, q_Mx l y_NH_format prog_1_method_20_code 2 (some .int) 10 1 6 D g [.ref (q 0)] ws sz (va_Qi (fun _ u => iP g q ws u) (q_B D g (va_A ws sz)) (va_A ws sz)) (fun E u => (∃ c : Int32, E = qE c ∧ (c = 3)) ∧ iP g q ws u) := by
  exact CV_format l D g q ws  hlt hI hC

theorem n_fw0 (q : Nat → Nat) : (va_up (va_up (va_up (va_up (va_up (va_up (va_up (va_up (va_up (va_up (fun _ => none) 0 (some (q 66))) 1 (some (q 71))) 2 (some (q 76))) 3 (some (q 81))) 4 (some (q 86))) 5 (some (q 91))) 6 (some (q 96))) 7 (some (q 101))) 8 (some (q 106))) 9 (some (q 111))) = n_fw q := funext fun j => match j with
  | 0 => rfl
  | 1 => rfl
  | 2 => rfl
  | 3 => rfl
  | 4 => rfl
  | 5 => rfl
  | 6 => rfl
  | 7 => rfl
  | 8 => rfl
  | 9 => rfl
  | j + 10 => by simp [n_fw, va_up]
theorem n_fd0 (q : Nat → Nat) : (va_up (va_up (va_up (va_up (va_up (va_up (va_up (va_up (va_up (va_up (fun _ => none) 0 (some (q 68))) 1 (some (q 73))) 2 (some (q 78))) 3 (some (q 83))) 4 (some (q 88))) 5 (some (q 93))) 6 (some (q 98))) 7 (some (q 103))) 8 (some (q 108))) 9 (some (q 113))) = n_fd q := funext fun j => match j with
  | 0 => rfl
  | 1 => rfl
  | 2 => rfl
  | 3 => rfl
  | 4 => rfl
  | 5 => rfl
  | 6 => rfl
  | 7 => rfl
  | 8 => rfl
  | 9 => rfl
  | j + 10 => by simp [n_fd, va_up]
theorem n_ft0 (q : Nat → Nat) : (va_up (va_up (va_up (va_up (va_up (va_up (va_up (va_up (va_up (fun _ => none) 0 (some (q 48))) 1 (some (q 50))) 2 (some (q 52))) 3 (some (q 54))) 4 (some (q 56))) 5 (some (q 58))) 6 (some (q 60))) 7 (some (q 62))) 8 (some (q 64))) = n_ft q := funext fun j => match j with
  | 0 => rfl
  | 1 => rfl
  | 2 => rfl
  | 3 => rfl
  | 4 => rfl
  | 5 => rfl
  | 6 => rfl
  | 7 => rfl
  | 8 => rfl
  | j + 9 => by simp [n_ft, va_up]
def iL (q : Nat → Nat) : Nat → List q_Ok → va_W → Prop
  | _, [], _ => True
  | _, _ :: _, [] => False
  | k, P :: sh, x :: L => (x.1 = q k ∧ P x.2) ∧ iL q (k + 1) sh L
theorem iL_I {q : Nat → Nat} {u : va_W} : ∀ (sh : List q_Ok) (L : va_W) (k0 : Nat), iL q k0 sh L → q_fl u k0 L → ∀ (k : Nat) (P : q_Ok), sh[k]? = some P → ∃ E, u[k0 + k]? = some (q (k0 + k), E) ∧ P E
  | [], _, _, _, _ => fun k P h => by simp at h
  | _ :: _, [], _, h, _ => h.elim
  | P0 :: sh, x :: L, k0, h, hf => fun k P hk => by
    cases k with
    | zero =>
      have e : P0 = P := by simpa using hk
      subst e
      have hx := hf 0 x rfl
      refine ⟨x.2, ?_, h.1.2⟩
      rw [hx, Nat.add_zero, ← h.1.1]
    | succ k =>
      have hf' : q_fl u (k0 + 1) L := fun i y hi => by
        have z := hf (i + 1) y (by simpa using hi)
        rw [show k0 + 1 + i = k0 + (i + 1) by omega]; exact z
      have z := iL_I sh L (k0 + 1) h.2 hf' k P (by simpa using hk)
      rw [show k0 + (k + 1) = k0 + 1 + k by omega]; exact z
theorem iS0 (g : Nat → ClassId) (q : Nat → Nat) : (k_0 q) (((q 0, .inr (0, [.ref (q 1), .ref (q 3), .ref (q 5), .ref (q 6), .ref (q 7), .ref (q 8), .ref (q 9), .ref (q 30), .ref (q 34), .ref (q 35), .ref (q 36), .ref (q 38), .ref (q 39), .ref (q 40)])) : Nat × va_E)).2 := rfl
theorem iS1 (g : Nat → ClassId) (q : Nat → Nat) : (k_Sht q 1 4100 4100) (((q 1, .inr (1, [.ref (q 2), .int 4100, .int 0])) : Nat × va_E)).2 := ⟨0, rfl, by decide⟩
theorem iS2 (g : Nat → ClassId) (q : Nat → Nat) : (k_al (g 1) (513 : Int32).toNatClampNeg) (((q 2, .inl (g 1, 513, .inr (.inl (fun _ => 0)))) : Nat × va_E)).2 := ⟨fun _ => 0, rfl⟩
theorem iS3 (g : Nat → ClassId) (q : Nat → Nat) : (k_Sht q 3 11008 1000000) (((q 3, .inr (1, [.ref (q 4), .int 11008, .int 0])) : Nat × va_E)).2 := ⟨0, rfl, by decide⟩
theorem iS4 (g : Nat → ClassId) (q : Nat → Nat) : (k_al (g 1) (1376 : Int32).toNatClampNeg) (((q 4, .inl (g 1, 1376, .inr (.inl (fun _ => 0)))) : Nat × va_E)).2 := ⟨fun _ => 0, rfl⟩
theorem iS5 (g : Nat → ClassId) (q : Nat → Nat) : (k_fix (.inl (g 4, 10, .inr (.inr (.inr (.inr (n_fw q))))))) (((q 5, .inl (g 4, 10, .inr (.inr (.inr (.inr (va_up (va_up (va_up (va_up (va_up (va_up (va_up (va_up (va_up (va_up (fun _ => none) 0 (some (q 66))) 1 (some (q 71))) 2 (some (q 76))) 3 (some (q 81))) 4 (some (q 86))) 5 (some (q 91))) 6 (some (q 96))) 7 (some (q 101))) 8 (some (q 106))) 9 (some (q 111)))))))) : Nat × va_E)).2 := congrArg (fun f => (Sum.inl (g 4, 10, .inr (.inr (.inr (.inr f)))) : va_E)) (n_fw0 q)
theorem iS6 (g : Nat → ClassId) (q : Nat → Nat) : (k_fix (.inl (g 5, 10, .inr (.inr (.inr (.inr (n_fd q))))))) (((q 6, .inl (g 5, 10, .inr (.inr (.inr (.inr (va_up (va_up (va_up (va_up (va_up (va_up (va_up (va_up (va_up (va_up (fun _ => none) 0 (some (q 68))) 1 (some (q 73))) 2 (some (q 78))) 3 (some (q 83))) 4 (some (q 88))) 5 (some (q 93))) 6 (some (q 98))) 7 (some (q 103))) 8 (some (q 108))) 9 (some (q 113)))))))) : Nat × va_E)).2 := congrArg (fun f => (Sum.inl (g 5, 10, .inr (.inr (.inr (.inr f)))) : va_E)) (n_fd0 q)
theorem iS7 (g : Nat → ClassId) (q : Nat → Nat) : (k_al (g 1) 10) (((q 7, .inl (g 1, 10, .inr (.inl (fun _ => 0)))) : Nat × va_E)).2 := ⟨fun _ => 0, rfl⟩
theorem iS8 (g : Nat → ClassId) (q : Nat → Nat) : (k_al (g 1) 10) (((q 8, .inl (g 1, 10, .inr (.inl (fun _ => 0)))) : Nat × va_E)).2 := ⟨fun _ => 0, rfl⟩
theorem iS9 (g : Nat → ClassId) (q : Nat → Nat) : (k_9 q) (((q 9, .inr (4, [.ref (q 10), .ref (q 12), .ref (q 14), .ref (q 16), .ref (q 18), .ref (q 20), .ref (q 22), .ref (q 24), .ref (q 26), .ref (q 28)])) : Nat × va_E)).2 := rfl
theorem iS10 (g : Nat → ClassId) (q : Nat → Nat) : (k_Big q 10 220) (((q 10, .inr (2, [.ref (q 11), .int 0, .int 0])) : Nat × va_E)).2 := ⟨0, 0, rfl, by decide, by decide⟩
theorem iS11 (g : Nat → ClassId) (q : Nat → Nat) : (k_ai (g 0) (220 : Int32).toNatClampNeg (-2147483648) 2147483647) (((q 11, .inl (g 0, 220, .inl (fun _ => 0))) : Nat × va_E)).2 := ⟨fun _ => 0, rfl, fun _ => (by decide : (-2147483648 : Int) ≤ (0 : Int32).toInt ∧ (0 : Int32).toInt ≤ 2147483647)⟩
theorem iS12 (g : Nat → ClassId) (q : Nat → Nat) : (k_Big q 12 220) (((q 12, .inr (2, [.ref (q 13), .int 0, .int 0])) : Nat × va_E)).2 := ⟨0, 0, rfl, by decide, by decide⟩
theorem iS13 (g : Nat → ClassId) (q : Nat → Nat) : (k_ai (g 0) (220 : Int32).toNatClampNeg (-2147483648) 2147483647) (((q 13, .inl (g 0, 220, .inl (fun _ => 0))) : Nat × va_E)).2 := ⟨fun _ => 0, rfl, fun _ => (by decide : (-2147483648 : Int) ≤ (0 : Int32).toInt ∧ (0 : Int32).toInt ≤ 2147483647)⟩
theorem iS14 (g : Nat → ClassId) (q : Nat → Nat) : (k_Big q 14 220) (((q 14, .inr (2, [.ref (q 15), .int 0, .int 0])) : Nat × va_E)).2 := ⟨0, 0, rfl, by decide, by decide⟩
theorem iS15 (g : Nat → ClassId) (q : Nat → Nat) : (k_ai (g 0) (220 : Int32).toNatClampNeg (-2147483648) 2147483647) (((q 15, .inl (g 0, 220, .inl (fun _ => 0))) : Nat × va_E)).2 := ⟨fun _ => 0, rfl, fun _ => (by decide : (-2147483648 : Int) ≤ (0 : Int32).toInt ∧ (0 : Int32).toInt ≤ 2147483647)⟩
theorem iS16 (g : Nat → ClassId) (q : Nat → Nat) : (k_Big q 16 220) (((q 16, .inr (2, [.ref (q 17), .int 0, .int 0])) : Nat × va_E)).2 := ⟨0, 0, rfl, by decide, by decide⟩
theorem iS17 (g : Nat → ClassId) (q : Nat → Nat) : (k_ai (g 0) (220 : Int32).toNatClampNeg (-2147483648) 2147483647) (((q 17, .inl (g 0, 220, .inl (fun _ => 0))) : Nat × va_E)).2 := ⟨fun _ => 0, rfl, fun _ => (by decide : (-2147483648 : Int) ≤ (0 : Int32).toInt ∧ (0 : Int32).toInt ≤ 2147483647)⟩
theorem iS18 (g : Nat → ClassId) (q : Nat → Nat) : (k_Big q 18 220) (((q 18, .inr (2, [.ref (q 19), .int 0, .int 0])) : Nat × va_E)).2 := ⟨0, 0, rfl, by decide, by decide⟩
theorem iS19 (g : Nat → ClassId) (q : Nat → Nat) : (k_ai (g 0) (220 : Int32).toNatClampNeg (-2147483648) 2147483647) (((q 19, .inl (g 0, 220, .inl (fun _ => 0))) : Nat × va_E)).2 := ⟨fun _ => 0, rfl, fun _ => (by decide : (-2147483648 : Int) ≤ (0 : Int32).toInt ∧ (0 : Int32).toInt ≤ 2147483647)⟩
theorem iS20 (g : Nat → ClassId) (q : Nat → Nat) : (k_Big q 20 220) (((q 20, .inr (2, [.ref (q 21), .int 0, .int 0])) : Nat × va_E)).2 := ⟨0, 0, rfl, by decide, by decide⟩
theorem iS21 (g : Nat → ClassId) (q : Nat → Nat) : (k_ai (g 0) (220 : Int32).toNatClampNeg (-2147483648) 2147483647) (((q 21, .inl (g 0, 220, .inl (fun _ => 0))) : Nat × va_E)).2 := ⟨fun _ => 0, rfl, fun _ => (by decide : (-2147483648 : Int) ≤ (0 : Int32).toInt ∧ (0 : Int32).toInt ≤ 2147483647)⟩
theorem iS22 (g : Nat → ClassId) (q : Nat → Nat) : (k_Big q 22 220) (((q 22, .inr (2, [.ref (q 23), .int 0, .int 0])) : Nat × va_E)).2 := ⟨0, 0, rfl, by decide, by decide⟩
theorem iS23 (g : Nat → ClassId) (q : Nat → Nat) : (k_ai (g 0) (220 : Int32).toNatClampNeg (-2147483648) 2147483647) (((q 23, .inl (g 0, 220, .inl (fun _ => 0))) : Nat × va_E)).2 := ⟨fun _ => 0, rfl, fun _ => (by decide : (-2147483648 : Int) ≤ (0 : Int32).toInt ∧ (0 : Int32).toInt ≤ 2147483647)⟩
theorem iS24 (g : Nat → ClassId) (q : Nat → Nat) : (k_Big q 24 220) (((q 24, .inr (2, [.ref (q 25), .int 0, .int 0])) : Nat × va_E)).2 := ⟨0, 0, rfl, by decide, by decide⟩
theorem iS25 (g : Nat → ClassId) (q : Nat → Nat) : (k_ai (g 0) (220 : Int32).toNatClampNeg (-2147483648) 2147483647) (((q 25, .inl (g 0, 220, .inl (fun _ => 0))) : Nat × va_E)).2 := ⟨fun _ => 0, rfl, fun _ => (by decide : (-2147483648 : Int) ≤ (0 : Int32).toInt ∧ (0 : Int32).toInt ≤ 2147483647)⟩
theorem iS26 (g : Nat → ClassId) (q : Nat → Nat) : (k_Big q 26 220) (((q 26, .inr (2, [.ref (q 27), .int 0, .int 0])) : Nat × va_E)).2 := ⟨0, 0, rfl, by decide, by decide⟩
theorem iS27 (g : Nat → ClassId) (q : Nat → Nat) : (k_ai (g 0) (220 : Int32).toNatClampNeg (-2147483648) 2147483647) (((q 27, .inl (g 0, 220, .inl (fun _ => 0))) : Nat × va_E)).2 := ⟨fun _ => 0, rfl, fun _ => (by decide : (-2147483648 : Int) ≤ (0 : Int32).toInt ∧ (0 : Int32).toInt ≤ 2147483647)⟩
theorem iS28 (g : Nat → ClassId) (q : Nat → Nat) : (k_Big q 28 220) (((q 28, .inr (2, [.ref (q 29), .int 0, .int 0])) : Nat × va_E)).2 := ⟨0, 0, rfl, by decide, by decide⟩
theorem iS29 (g : Nat → ClassId) (q : Nat → Nat) : (k_ai (g 0) (220 : Int32).toNatClampNeg (-2147483648) 2147483647) (((q 29, .inl (g 0, 220, .inl (fun _ => 0))) : Nat × va_E)).2 := ⟨fun _ => 0, rfl, fun _ => (by decide : (-2147483648 : Int) ≤ (0 : Int32).toInt ∧ (0 : Int32).toInt ≤ 2147483647)⟩
theorem iS30 (g : Nat → ClassId) (q : Nat → Nat) : (k_30 q) (((q 30, .inr (5, [.ref (q 31), .long 0, .ref (q 9), .int 0])) : Nat × va_E)).2 := ⟨0, 0, rfl, by decide⟩
theorem iS31 (g : Nat → ClassId) (q : Nat → Nat) : (k_Dec q 31) (((q 31, .inr (3, [.ref (q 32), .int 0, .int 1])) : Nat × va_E)).2 := ⟨0, 1, rfl, by decide, by decide⟩
theorem iS32 (g : Nat → ClassId) (q : Nat → Nat) : (k_Big q 32 3) (((q 32, .inr (2, [.ref (q 33), .int 1, .int 0])) : Nat × va_E)).2 := ⟨1, 0, rfl, by decide, by decide⟩
theorem iS33 (g : Nat → ClassId) (q : Nat → Nat) : (k_ai (g 0) (3 : Int32).toNatClampNeg (-2147483648) 2147483647) (((q 33, .inl (g 0, 3, .inl (upd (fun _ => 0) 0 1))) : Nat × va_E)).2 := ⟨upd (fun _ => 0) 0 1, rfl, fun i => q_updB (fun _ => (by decide : (-2147483648 : Int) ≤ (0 : Int32).toInt ∧ (0 : Int32).toInt ≤ 2147483647)) (by decide : (-2147483648 : Int) ≤ (1 : Int32).toInt ∧ (1 : Int32).toInt ≤ 2147483647) i⟩
theorem iS34 (g : Nat → ClassId) (q : Nat → Nat) : (k_Flo q 52 1075 2047) (((q 34, .inr (6, [.int 52, .int 1075, .int 2047, .long 0, .int 0, .ref (q 9), .int 0])) : Nat × va_E)).2 := ⟨0, 0, 0, rfl⟩
theorem iS35 (g : Nat → ClassId) (q : Nat → Nat) : (k_Flo q 23 150 255) (((q 35, .inr (6, [.int 23, .int 150, .int 255, .long 0, .int 0, .ref (q 9), .int 0])) : Nat × va_E)).2 := ⟨0, 0, 0, rfl⟩
theorem iS36 (g : Nat → ClassId) (q : Nat → Nat) : (k_36 q) (((q 36, .inr (7, [.int 0, .int 0, .ref (q 37)])) : Nat × va_E)).2 := ⟨0, 0, rfl, by decide, by decide⟩
theorem iS37 (g : Nat → ClassId) (q : Nat → Nat) : (k_ai (g 2) 1026 (-2147483648) 2147483647) (((q 37, .inl (g 2, 1026, .inl (fun _ => 0))) : Nat × va_E)).2 := ⟨fun _ => 0, rfl, fun _ => (by decide : (-2147483648 : Int) ≤ (0 : Int32).toInt ∧ (0 : Int32).toInt ≤ 2147483647)⟩
theorem iS38 (g : Nat → ClassId) (q : Nat → Nat) : (k_38 q) (((q 38, .inr (8, [.long 0, .long 0, .ref (q 1), .ref (q 9), .int 0, .int 0, .int 0, .int 0, .int 0, .int 0, .int 0, .long 0])) : Nat × va_E)).2 := ⟨0, 0, 0, 0, 0, 0, 0, 0, 0, 0, rfl, by decide, by decide⟩
theorem iS39 (g : Nat → ClassId) (q : Nat → Nat) : (k_39 q) (((q 39, .inr (9, [.ref (q 3), .ref (q 9), .ref (q 36)])) : Nat × va_E)).2 := rfl
theorem iS40 (g : Nat → ClassId) (q : Nat → Nat) : (k_40 q) (((q 40, .inr (11, [.int 0, .ref (q 41), .ref (q 42), .ref (q 43), .ref (q 44), .ref (q 1), .ref (q 47), .ref (q 36), .ref (q 45), .int 0, .int 0, .int 0])) : Nat × va_E)).2 := ⟨0, 0, 0, 0, rfl, by decide, by decide, by decide⟩
theorem iS41 (g : Nat → ClassId) (q : Nat → Nat) : (k_ai (g 0) 9 (-2147483648) 2147483647) (((q 41, .inl (g 0, 9, .inl (fun _ => 0))) : Nat × va_E)).2 := ⟨fun _ => 0, rfl, fun _ => (by decide : (-2147483648 : Int) ≤ (0 : Int32).toInt ∧ (0 : Int32).toInt ≤ 2147483647)⟩
theorem iS42 (g : Nat → ClassId) (q : Nat → Nat) : (k_al (g 1) 9) (((q 42, .inl (g 1, 9, .inr (.inl (fun _ => 0)))) : Nat × va_E)).2 := ⟨fun _ => 0, rfl⟩
theorem iS43 (g : Nat → ClassId) (q : Nat → Nat) : (k_ai (g 0) 9 (-10000) 10000) (((q 43, .inl (g 0, 9, .inl (fun _ => 0))) : Nat × va_E)).2 := ⟨fun _ => 0, rfl, fun _ => (by decide : (-10000 : Int) ≤ (0 : Int32).toInt ∧ (0 : Int32).toInt ≤ 10000)⟩
theorem iS44 (g : Nat → ClassId) (q : Nat → Nat) : (k_fix (.inl (g 6, 9, .inr (.inr (.inr (.inr (n_ft q))))))) (((q 44, .inl (g 6, 9, .inr (.inr (.inr (.inr (va_up (va_up (va_up (va_up (va_up (va_up (va_up (va_up (va_up (fun _ => none) 0 (some (q 48))) 1 (some (q 50))) 2 (some (q 52))) 3 (some (q 54))) 4 (some (q 56))) 5 (some (q 58))) 6 (some (q 60))) 7 (some (q 62))) 8 (some (q 64)))))))) : Nat × va_E)).2 := congrArg (fun f => (Sum.inl (g 6, 9, .inr (.inr (.inr (.inr f)))) : va_E)) (n_ft0 q)
theorem iS45 (g : Nat → ClassId) (q : Nat → Nat) : (k_Sht q 45 4104 1000000) (((q 45, .inr (1, [.ref (q 46), .int 4104, .int 0])) : Nat × va_E)).2 := ⟨0, rfl, by decide⟩
theorem iS46 (g : Nat → ClassId) (q : Nat → Nat) : (k_al (g 1) (513 : Int32).toNatClampNeg) (((q 46, .inl (g 1, 513, .inr (.inl (fun _ => 0)))) : Nat × va_E)).2 := ⟨fun _ => 0, rfl⟩
theorem iS47 (g : Nat → ClassId) (q : Nat → Nat) : (k_47 q) (((q 47, .inr (10, [.int 0, .int 0, .int 0, .int 0, .int 0, .int 0, .ref (q 1), .int 0])) : Nat × va_E)).2 := ⟨0, 0, 0, 0, 0, 0, 0, rfl, by decide, by decide, by decide⟩
theorem iS48 (g : Nat → ClassId) (q : Nat → Nat) : (k_Sht q 48 64 64) (((q 48, .inr (1, [.ref (q 49), .int 64, .int 0])) : Nat × va_E)).2 := ⟨0, rfl, by decide⟩
theorem iS49 (g : Nat → ClassId) (q : Nat → Nat) : (k_al (g 1) (8 : Int32).toNatClampNeg) (((q 49, .inl (g 1, 8, .inr (.inl (fun _ => 0)))) : Nat × va_E)).2 := ⟨fun _ => 0, rfl⟩
theorem iS50 (g : Nat → ClassId) (q : Nat → Nat) : (k_Sht q 50 64 64) (((q 50, .inr (1, [.ref (q 51), .int 64, .int 0])) : Nat × va_E)).2 := ⟨0, rfl, by decide⟩
theorem iS51 (g : Nat → ClassId) (q : Nat → Nat) : (k_al (g 1) (8 : Int32).toNatClampNeg) (((q 51, .inl (g 1, 8, .inr (.inl (fun _ => 0)))) : Nat × va_E)).2 := ⟨fun _ => 0, rfl⟩
theorem iS52 (g : Nat → ClassId) (q : Nat → Nat) : (k_Sht q 52 64 64) (((q 52, .inr (1, [.ref (q 53), .int 64, .int 0])) : Nat × va_E)).2 := ⟨0, rfl, by decide⟩
theorem iS53 (g : Nat → ClassId) (q : Nat → Nat) : (k_al (g 1) (8 : Int32).toNatClampNeg) (((q 53, .inl (g 1, 8, .inr (.inl (fun _ => 0)))) : Nat × va_E)).2 := ⟨fun _ => 0, rfl⟩
theorem iS54 (g : Nat → ClassId) (q : Nat → Nat) : (k_Sht q 54 64 64) (((q 54, .inr (1, [.ref (q 55), .int 64, .int 0])) : Nat × va_E)).2 := ⟨0, rfl, by decide⟩
theorem iS55 (g : Nat → ClassId) (q : Nat → Nat) : (k_al (g 1) (8 : Int32).toNatClampNeg) (((q 55, .inl (g 1, 8, .inr (.inl (fun _ => 0)))) : Nat × va_E)).2 := ⟨fun _ => 0, rfl⟩
theorem iS56 (g : Nat → ClassId) (q : Nat → Nat) : (k_Sht q 56 64 64) (((q 56, .inr (1, [.ref (q 57), .int 64, .int 0])) : Nat × va_E)).2 := ⟨0, rfl, by decide⟩
theorem iS57 (g : Nat → ClassId) (q : Nat → Nat) : (k_al (g 1) (8 : Int32).toNatClampNeg) (((q 57, .inl (g 1, 8, .inr (.inl (fun _ => 0)))) : Nat × va_E)).2 := ⟨fun _ => 0, rfl⟩
theorem iS58 (g : Nat → ClassId) (q : Nat → Nat) : (k_Sht q 58 64 64) (((q 58, .inr (1, [.ref (q 59), .int 64, .int 0])) : Nat × va_E)).2 := ⟨0, rfl, by decide⟩
theorem iS59 (g : Nat → ClassId) (q : Nat → Nat) : (k_al (g 1) (8 : Int32).toNatClampNeg) (((q 59, .inl (g 1, 8, .inr (.inl (fun _ => 0)))) : Nat × va_E)).2 := ⟨fun _ => 0, rfl⟩
theorem iS60 (g : Nat → ClassId) (q : Nat → Nat) : (k_Sht q 60 64 64) (((q 60, .inr (1, [.ref (q 61), .int 64, .int 0])) : Nat × va_E)).2 := ⟨0, rfl, by decide⟩
theorem iS61 (g : Nat → ClassId) (q : Nat → Nat) : (k_al (g 1) (8 : Int32).toNatClampNeg) (((q 61, .inl (g 1, 8, .inr (.inl (fun _ => 0)))) : Nat × va_E)).2 := ⟨fun _ => 0, rfl⟩
theorem iS62 (g : Nat → ClassId) (q : Nat → Nat) : (k_Sht q 62 64 64) (((q 62, .inr (1, [.ref (q 63), .int 64, .int 0])) : Nat × va_E)).2 := ⟨0, rfl, by decide⟩
theorem iS63 (g : Nat → ClassId) (q : Nat → Nat) : (k_al (g 1) (8 : Int32).toNatClampNeg) (((q 63, .inl (g 1, 8, .inr (.inl (fun _ => 0)))) : Nat × va_E)).2 := ⟨fun _ => 0, rfl⟩
theorem iS64 (g : Nat → ClassId) (q : Nat → Nat) : (k_Sht q 64 64 64) (((q 64, .inr (1, [.ref (q 65), .int 64, .int 0])) : Nat × va_E)).2 := ⟨0, rfl, by decide⟩
theorem iS65 (g : Nat → ClassId) (q : Nat → Nat) : (k_al (g 1) (8 : Int32).toNatClampNeg) (((q 65, .inl (g 1, 8, .inr (.inl (fun _ => 0)))) : Nat × va_E)).2 := ⟨fun _ => 0, rfl⟩
theorem iS66 (g : Nat → ClassId) (q : Nat → Nat) : (k_Big q 66 68) (((q 66, .inr (2, [.ref (q 67), .int 0, .int 0])) : Nat × va_E)).2 := ⟨0, 0, rfl, by decide, by decide⟩
theorem iS67 (g : Nat → ClassId) (q : Nat → Nat) : (k_ai (g 0) (68 : Int32).toNatClampNeg (-2147483648) 2147483647) (((q 67, .inl (g 0, 68, .inl (fun _ => 0))) : Nat × va_E)).2 := ⟨fun _ => 0, rfl, fun _ => (by decide : (-2147483648 : Int) ≤ (0 : Int32).toInt ∧ (0 : Int32).toInt ≤ 2147483647)⟩
theorem iS68 (g : Nat → ClassId) (q : Nat → Nat) : (k_Dec q 68) (((q 68, .inr (3, [.ref (q 69), .int 0, .int 1])) : Nat × va_E)).2 := ⟨0, 1, rfl, by decide, by decide⟩
theorem iS69 (g : Nat → ClassId) (q : Nat → Nat) : (k_Big q 69 108) (((q 69, .inr (2, [.ref (q 70), .int 0, .int 0])) : Nat × va_E)).2 := ⟨0, 0, rfl, by decide, by decide⟩
theorem iS70 (g : Nat → ClassId) (q : Nat → Nat) : (k_ai (g 0) (108 : Int32).toNatClampNeg (-2147483648) 2147483647) (((q 70, .inl (g 0, 108, .inl (fun _ => 0))) : Nat × va_E)).2 := ⟨fun _ => 0, rfl, fun _ => (by decide : (-2147483648 : Int) ≤ (0 : Int32).toInt ∧ (0 : Int32).toInt ≤ 2147483647)⟩
theorem iS71 (g : Nat → ClassId) (q : Nat → Nat) : (k_Big q 71 68) (((q 71, .inr (2, [.ref (q 72), .int 0, .int 0])) : Nat × va_E)).2 := ⟨0, 0, rfl, by decide, by decide⟩
theorem iS72 (g : Nat → ClassId) (q : Nat → Nat) : (k_ai (g 0) (68 : Int32).toNatClampNeg (-2147483648) 2147483647) (((q 72, .inl (g 0, 68, .inl (fun _ => 0))) : Nat × va_E)).2 := ⟨fun _ => 0, rfl, fun _ => (by decide : (-2147483648 : Int) ≤ (0 : Int32).toInt ∧ (0 : Int32).toInt ≤ 2147483647)⟩
theorem iS73 (g : Nat → ClassId) (q : Nat → Nat) : (k_Dec q 73) (((q 73, .inr (3, [.ref (q 74), .int 0, .int 1])) : Nat × va_E)).2 := ⟨0, 1, rfl, by decide, by decide⟩
theorem iS74 (g : Nat → ClassId) (q : Nat → Nat) : (k_Big q 74 108) (((q 74, .inr (2, [.ref (q 75), .int 0, .int 0])) : Nat × va_E)).2 := ⟨0, 0, rfl, by decide, by decide⟩
theorem iS75 (g : Nat → ClassId) (q : Nat → Nat) : (k_ai (g 0) (108 : Int32).toNatClampNeg (-2147483648) 2147483647) (((q 75, .inl (g 0, 108, .inl (fun _ => 0))) : Nat × va_E)).2 := ⟨fun _ => 0, rfl, fun _ => (by decide : (-2147483648 : Int) ≤ (0 : Int32).toInt ∧ (0 : Int32).toInt ≤ 2147483647)⟩
theorem iS76 (g : Nat → ClassId) (q : Nat → Nat) : (k_Big q 76 68) (((q 76, .inr (2, [.ref (q 77), .int 0, .int 0])) : Nat × va_E)).2 := ⟨0, 0, rfl, by decide, by decide⟩
theorem iS77 (g : Nat → ClassId) (q : Nat → Nat) : (k_ai (g 0) (68 : Int32).toNatClampNeg (-2147483648) 2147483647) (((q 77, .inl (g 0, 68, .inl (fun _ => 0))) : Nat × va_E)).2 := ⟨fun _ => 0, rfl, fun _ => (by decide : (-2147483648 : Int) ≤ (0 : Int32).toInt ∧ (0 : Int32).toInt ≤ 2147483647)⟩
theorem iS78 (g : Nat → ClassId) (q : Nat → Nat) : (k_Dec q 78) (((q 78, .inr (3, [.ref (q 79), .int 0, .int 1])) : Nat × va_E)).2 := ⟨0, 1, rfl, by decide, by decide⟩
theorem iS79 (g : Nat → ClassId) (q : Nat → Nat) : (k_Big q 79 108) (((q 79, .inr (2, [.ref (q 80), .int 0, .int 0])) : Nat × va_E)).2 := ⟨0, 0, rfl, by decide, by decide⟩
theorem iS80 (g : Nat → ClassId) (q : Nat → Nat) : (k_ai (g 0) (108 : Int32).toNatClampNeg (-2147483648) 2147483647) (((q 80, .inl (g 0, 108, .inl (fun _ => 0))) : Nat × va_E)).2 := ⟨fun _ => 0, rfl, fun _ => (by decide : (-2147483648 : Int) ≤ (0 : Int32).toInt ∧ (0 : Int32).toInt ≤ 2147483647)⟩
theorem iS81 (g : Nat → ClassId) (q : Nat → Nat) : (k_Big q 81 68) (((q 81, .inr (2, [.ref (q 82), .int 0, .int 0])) : Nat × va_E)).2 := ⟨0, 0, rfl, by decide, by decide⟩
theorem iS82 (g : Nat → ClassId) (q : Nat → Nat) : (k_ai (g 0) (68 : Int32).toNatClampNeg (-2147483648) 2147483647) (((q 82, .inl (g 0, 68, .inl (fun _ => 0))) : Nat × va_E)).2 := ⟨fun _ => 0, rfl, fun _ => (by decide : (-2147483648 : Int) ≤ (0 : Int32).toInt ∧ (0 : Int32).toInt ≤ 2147483647)⟩
theorem iS83 (g : Nat → ClassId) (q : Nat → Nat) : (k_Dec q 83) (((q 83, .inr (3, [.ref (q 84), .int 0, .int 1])) : Nat × va_E)).2 := ⟨0, 1, rfl, by decide, by decide⟩
theorem iS84 (g : Nat → ClassId) (q : Nat → Nat) : (k_Big q 84 108) (((q 84, .inr (2, [.ref (q 85), .int 0, .int 0])) : Nat × va_E)).2 := ⟨0, 0, rfl, by decide, by decide⟩
theorem iS85 (g : Nat → ClassId) (q : Nat → Nat) : (k_ai (g 0) (108 : Int32).toNatClampNeg (-2147483648) 2147483647) (((q 85, .inl (g 0, 108, .inl (fun _ => 0))) : Nat × va_E)).2 := ⟨fun _ => 0, rfl, fun _ => (by decide : (-2147483648 : Int) ≤ (0 : Int32).toInt ∧ (0 : Int32).toInt ≤ 2147483647)⟩
theorem iS86 (g : Nat → ClassId) (q : Nat → Nat) : (k_Big q 86 68) (((q 86, .inr (2, [.ref (q 87), .int 0, .int 0])) : Nat × va_E)).2 := ⟨0, 0, rfl, by decide, by decide⟩
theorem iS87 (g : Nat → ClassId) (q : Nat → Nat) : (k_ai (g 0) (68 : Int32).toNatClampNeg (-2147483648) 2147483647) (((q 87, .inl (g 0, 68, .inl (fun _ => 0))) : Nat × va_E)).2 := ⟨fun _ => 0, rfl, fun _ => (by decide : (-2147483648 : Int) ≤ (0 : Int32).toInt ∧ (0 : Int32).toInt ≤ 2147483647)⟩
theorem iS88 (g : Nat → ClassId) (q : Nat → Nat) : (k_Dec q 88) (((q 88, .inr (3, [.ref (q 89), .int 0, .int 1])) : Nat × va_E)).2 := ⟨0, 1, rfl, by decide, by decide⟩
theorem iS89 (g : Nat → ClassId) (q : Nat → Nat) : (k_Big q 89 108) (((q 89, .inr (2, [.ref (q 90), .int 0, .int 0])) : Nat × va_E)).2 := ⟨0, 0, rfl, by decide, by decide⟩
theorem iS90 (g : Nat → ClassId) (q : Nat → Nat) : (k_ai (g 0) (108 : Int32).toNatClampNeg (-2147483648) 2147483647) (((q 90, .inl (g 0, 108, .inl (fun _ => 0))) : Nat × va_E)).2 := ⟨fun _ => 0, rfl, fun _ => (by decide : (-2147483648 : Int) ≤ (0 : Int32).toInt ∧ (0 : Int32).toInt ≤ 2147483647)⟩
theorem iS91 (g : Nat → ClassId) (q : Nat → Nat) : (k_Big q 91 68) (((q 91, .inr (2, [.ref (q 92), .int 0, .int 0])) : Nat × va_E)).2 := ⟨0, 0, rfl, by decide, by decide⟩
theorem iS92 (g : Nat → ClassId) (q : Nat → Nat) : (k_ai (g 0) (68 : Int32).toNatClampNeg (-2147483648) 2147483647) (((q 92, .inl (g 0, 68, .inl (fun _ => 0))) : Nat × va_E)).2 := ⟨fun _ => 0, rfl, fun _ => (by decide : (-2147483648 : Int) ≤ (0 : Int32).toInt ∧ (0 : Int32).toInt ≤ 2147483647)⟩
theorem iS93 (g : Nat → ClassId) (q : Nat → Nat) : (k_Dec q 93) (((q 93, .inr (3, [.ref (q 94), .int 0, .int 1])) : Nat × va_E)).2 := ⟨0, 1, rfl, by decide, by decide⟩
theorem iS94 (g : Nat → ClassId) (q : Nat → Nat) : (k_Big q 94 108) (((q 94, .inr (2, [.ref (q 95), .int 0, .int 0])) : Nat × va_E)).2 := ⟨0, 0, rfl, by decide, by decide⟩
theorem iS95 (g : Nat → ClassId) (q : Nat → Nat) : (k_ai (g 0) (108 : Int32).toNatClampNeg (-2147483648) 2147483647) (((q 95, .inl (g 0, 108, .inl (fun _ => 0))) : Nat × va_E)).2 := ⟨fun _ => 0, rfl, fun _ => (by decide : (-2147483648 : Int) ≤ (0 : Int32).toInt ∧ (0 : Int32).toInt ≤ 2147483647)⟩
theorem iS96 (g : Nat → ClassId) (q : Nat → Nat) : (k_Big q 96 68) (((q 96, .inr (2, [.ref (q 97), .int 0, .int 0])) : Nat × va_E)).2 := ⟨0, 0, rfl, by decide, by decide⟩
theorem iS97 (g : Nat → ClassId) (q : Nat → Nat) : (k_ai (g 0) (68 : Int32).toNatClampNeg (-2147483648) 2147483647) (((q 97, .inl (g 0, 68, .inl (fun _ => 0))) : Nat × va_E)).2 := ⟨fun _ => 0, rfl, fun _ => (by decide : (-2147483648 : Int) ≤ (0 : Int32).toInt ∧ (0 : Int32).toInt ≤ 2147483647)⟩
theorem iS98 (g : Nat → ClassId) (q : Nat → Nat) : (k_Dec q 98) (((q 98, .inr (3, [.ref (q 99), .int 0, .int 1])) : Nat × va_E)).2 := ⟨0, 1, rfl, by decide, by decide⟩
theorem iS99 (g : Nat → ClassId) (q : Nat → Nat) : (k_Big q 99 108) (((q 99, .inr (2, [.ref (q 100), .int 0, .int 0])) : Nat × va_E)).2 := ⟨0, 0, rfl, by decide, by decide⟩
theorem iS100 (g : Nat → ClassId) (q : Nat → Nat) : (k_ai (g 0) (108 : Int32).toNatClampNeg (-2147483648) 2147483647) (((q 100, .inl (g 0, 108, .inl (fun _ => 0))) : Nat × va_E)).2 := ⟨fun _ => 0, rfl, fun _ => (by decide : (-2147483648 : Int) ≤ (0 : Int32).toInt ∧ (0 : Int32).toInt ≤ 2147483647)⟩
theorem iS101 (g : Nat → ClassId) (q : Nat → Nat) : (k_Big q 101 68) (((q 101, .inr (2, [.ref (q 102), .int 0, .int 0])) : Nat × va_E)).2 := ⟨0, 0, rfl, by decide, by decide⟩
theorem iS102 (g : Nat → ClassId) (q : Nat → Nat) : (k_ai (g 0) (68 : Int32).toNatClampNeg (-2147483648) 2147483647) (((q 102, .inl (g 0, 68, .inl (fun _ => 0))) : Nat × va_E)).2 := ⟨fun _ => 0, rfl, fun _ => (by decide : (-2147483648 : Int) ≤ (0 : Int32).toInt ∧ (0 : Int32).toInt ≤ 2147483647)⟩
theorem iS103 (g : Nat → ClassId) (q : Nat → Nat) : (k_Dec q 103) (((q 103, .inr (3, [.ref (q 104), .int 0, .int 1])) : Nat × va_E)).2 := ⟨0, 1, rfl, by decide, by decide⟩
theorem iS104 (g : Nat → ClassId) (q : Nat → Nat) : (k_Big q 104 108) (((q 104, .inr (2, [.ref (q 105), .int 0, .int 0])) : Nat × va_E)).2 := ⟨0, 0, rfl, by decide, by decide⟩
theorem iS105 (g : Nat → ClassId) (q : Nat → Nat) : (k_ai (g 0) (108 : Int32).toNatClampNeg (-2147483648) 2147483647) (((q 105, .inl (g 0, 108, .inl (fun _ => 0))) : Nat × va_E)).2 := ⟨fun _ => 0, rfl, fun _ => (by decide : (-2147483648 : Int) ≤ (0 : Int32).toInt ∧ (0 : Int32).toInt ≤ 2147483647)⟩
theorem iS106 (g : Nat → ClassId) (q : Nat → Nat) : (k_Big q 106 68) (((q 106, .inr (2, [.ref (q 107), .int 0, .int 0])) : Nat × va_E)).2 := ⟨0, 0, rfl, by decide, by decide⟩
theorem iS107 (g : Nat → ClassId) (q : Nat → Nat) : (k_ai (g 0) (68 : Int32).toNatClampNeg (-2147483648) 2147483647) (((q 107, .inl (g 0, 68, .inl (fun _ => 0))) : Nat × va_E)).2 := ⟨fun _ => 0, rfl, fun _ => (by decide : (-2147483648 : Int) ≤ (0 : Int32).toInt ∧ (0 : Int32).toInt ≤ 2147483647)⟩
theorem iS108 (g : Nat → ClassId) (q : Nat → Nat) : (k_Dec q 108) (((q 108, .inr (3, [.ref (q 109), .int 0, .int 1])) : Nat × va_E)).2 := ⟨0, 1, rfl, by decide, by decide⟩
theorem iS109 (g : Nat → ClassId) (q : Nat → Nat) : (k_Big q 109 108) (((q 109, .inr (2, [.ref (q 110), .int 0, .int 0])) : Nat × va_E)).2 := ⟨0, 0, rfl, by decide, by decide⟩
theorem iS110 (g : Nat → ClassId) (q : Nat → Nat) : (k_ai (g 0) (108 : Int32).toNatClampNeg (-2147483648) 2147483647) (((q 110, .inl (g 0, 108, .inl (fun _ => 0))) : Nat × va_E)).2 := ⟨fun _ => 0, rfl, fun _ => (by decide : (-2147483648 : Int) ≤ (0 : Int32).toInt ∧ (0 : Int32).toInt ≤ 2147483647)⟩
theorem iS111 (g : Nat → ClassId) (q : Nat → Nat) : (k_Big q 111 68) (((q 111, .inr (2, [.ref (q 112), .int 0, .int 0])) : Nat × va_E)).2 := ⟨0, 0, rfl, by decide, by decide⟩
theorem iS112 (g : Nat → ClassId) (q : Nat → Nat) : (k_ai (g 0) (68 : Int32).toNatClampNeg (-2147483648) 2147483647) (((q 112, .inl (g 0, 68, .inl (fun _ => 0))) : Nat × va_E)).2 := ⟨fun _ => 0, rfl, fun _ => (by decide : (-2147483648 : Int) ≤ (0 : Int32).toInt ∧ (0 : Int32).toInt ≤ 2147483647)⟩
theorem iS113 (g : Nat → ClassId) (q : Nat → Nat) : (k_Dec q 113) (((q 113, .inr (3, [.ref (q 114), .int 0, .int 1])) : Nat × va_E)).2 := ⟨0, 1, rfl, by decide, by decide⟩
theorem iS114 (g : Nat → ClassId) (q : Nat → Nat) : (k_Big q 114 108) (((q 114, .inr (2, [.ref (q 115), .int 0, .int 0])) : Nat × va_E)).2 := ⟨0, 0, rfl, by decide, by decide⟩
theorem iS115 (g : Nat → ClassId) (q : Nat → Nat) : (k_ai (g 0) (108 : Int32).toNatClampNeg (-2147483648) 2147483647) (((q 115, .inl (g 0, 108, .inl (fun _ => 0))) : Nat × va_E)).2 := ⟨fun _ => 0, rfl, fun _ => (by decide : (-2147483648 : Int) ≤ (0 : Int32).toInt ∧ (0 : Int32).toInt ≤ 2147483647)⟩
set_option maxRecDepth 100000 in
theorem iS (g : Nat → ClassId) (q : Nat → Nat) : iL q 0 (nsh g q) (nh_w g q) := ⟨⟨rfl, iS0 g q⟩, ⟨⟨rfl, iS1 g q⟩, ⟨⟨rfl, iS2 g q⟩, ⟨⟨rfl, iS3 g q⟩, ⟨⟨rfl, iS4 g q⟩, ⟨⟨rfl, iS5 g q⟩, ⟨⟨rfl, iS6 g q⟩, ⟨⟨rfl, iS7 g q⟩, ⟨⟨rfl, iS8 g q⟩, ⟨⟨rfl, iS9 g q⟩, ⟨⟨rfl, iS10 g q⟩, ⟨⟨rfl, iS11 g q⟩, ⟨⟨rfl, iS12 g q⟩, ⟨⟨rfl, iS13 g q⟩, ⟨⟨rfl, iS14 g q⟩, ⟨⟨rfl, iS15 g q⟩, ⟨⟨rfl, iS16 g q⟩, ⟨⟨rfl, iS17 g q⟩, ⟨⟨rfl, iS18 g q⟩, ⟨⟨rfl, iS19 g q⟩, ⟨⟨rfl, iS20 g q⟩, ⟨⟨rfl, iS21 g q⟩, ⟨⟨rfl, iS22 g q⟩, ⟨⟨rfl, iS23 g q⟩, ⟨⟨rfl, iS24 g q⟩, ⟨⟨rfl, iS25 g q⟩, ⟨⟨rfl, iS26 g q⟩, ⟨⟨rfl, iS27 g q⟩, ⟨⟨rfl, iS28 g q⟩, ⟨⟨rfl, iS29 g q⟩, ⟨⟨rfl, iS30 g q⟩, ⟨⟨rfl, iS31 g q⟩, ⟨⟨rfl, iS32 g q⟩, ⟨⟨rfl, iS33 g q⟩, ⟨⟨rfl, iS34 g q⟩, ⟨⟨rfl, iS35 g q⟩, ⟨⟨rfl, iS36 g q⟩, ⟨⟨rfl, iS37 g q⟩, ⟨⟨rfl, iS38 g q⟩, ⟨⟨rfl, iS39 g q⟩, ⟨⟨rfl, iS40 g q⟩, ⟨⟨rfl, iS41 g q⟩, ⟨⟨rfl, iS42 g q⟩, ⟨⟨rfl, iS43 g q⟩, ⟨⟨rfl, iS44 g q⟩, ⟨⟨rfl, iS45 g q⟩, ⟨⟨rfl, iS46 g q⟩, ⟨⟨rfl, iS47 g q⟩, ⟨⟨rfl, iS48 g q⟩, ⟨⟨rfl, iS49 g q⟩, ⟨⟨rfl, iS50 g q⟩, ⟨⟨rfl, iS51 g q⟩, ⟨⟨rfl, iS52 g q⟩, ⟨⟨rfl, iS53 g q⟩, ⟨⟨rfl, iS54 g q⟩, ⟨⟨rfl, iS55 g q⟩, ⟨⟨rfl, iS56 g q⟩, ⟨⟨rfl, iS57 g q⟩, ⟨⟨rfl, iS58 g q⟩, ⟨⟨rfl, iS59 g q⟩, ⟨⟨rfl, iS60 g q⟩, ⟨⟨rfl, iS61 g q⟩, ⟨⟨rfl, iS62 g q⟩, ⟨⟨rfl, iS63 g q⟩, ⟨⟨rfl, iS64 g q⟩, ⟨⟨rfl, iS65 g q⟩, ⟨⟨rfl, iS66 g q⟩, ⟨⟨rfl, iS67 g q⟩, ⟨⟨rfl, iS68 g q⟩, ⟨⟨rfl, iS69 g q⟩, ⟨⟨rfl, iS70 g q⟩, ⟨⟨rfl, iS71 g q⟩, ⟨⟨rfl, iS72 g q⟩, ⟨⟨rfl, iS73 g q⟩, ⟨⟨rfl, iS74 g q⟩, ⟨⟨rfl, iS75 g q⟩, ⟨⟨rfl, iS76 g q⟩, ⟨⟨rfl, iS77 g q⟩, ⟨⟨rfl, iS78 g q⟩, ⟨⟨rfl, iS79 g q⟩, ⟨⟨rfl, iS80 g q⟩, ⟨⟨rfl, iS81 g q⟩, ⟨⟨rfl, iS82 g q⟩, ⟨⟨rfl, iS83 g q⟩, ⟨⟨rfl, iS84 g q⟩, ⟨⟨rfl, iS85 g q⟩, ⟨⟨rfl, iS86 g q⟩, ⟨⟨rfl, iS87 g q⟩, ⟨⟨rfl, iS88 g q⟩, ⟨⟨rfl, iS89 g q⟩, ⟨⟨rfl, iS90 g q⟩, ⟨⟨rfl, iS91 g q⟩, ⟨⟨rfl, iS92 g q⟩, ⟨⟨rfl, iS93 g q⟩, ⟨⟨rfl, iS94 g q⟩, ⟨⟨rfl, iS95 g q⟩, ⟨⟨rfl, iS96 g q⟩, ⟨⟨rfl, iS97 g q⟩, ⟨⟨rfl, iS98 g q⟩, ⟨⟨rfl, iS99 g q⟩, ⟨⟨rfl, iS100 g q⟩, ⟨⟨rfl, iS101 g q⟩, ⟨⟨rfl, iS102 g q⟩, ⟨⟨rfl, iS103 g q⟩, ⟨⟨rfl, iS104 g q⟩, ⟨⟨rfl, iS105 g q⟩, ⟨⟨rfl, iS106 g q⟩, ⟨⟨rfl, iS107 g q⟩, ⟨⟨rfl, iS108 g q⟩, ⟨⟨rfl, iS109 g q⟩, ⟨⟨rfl, iS110 g q⟩, ⟨⟨rfl, iS111 g q⟩, ⟨⟨rfl, iS112 g q⟩, ⟨⟨rfl, iS113 g q⟩, ⟨⟨rfl, iS114 g q⟩, ⟨⟨rfl, iS115 g q⟩, trivial⟩⟩⟩⟩⟩⟩⟩⟩⟩⟩⟩⟩⟩⟩⟩⟩⟩⟩⟩⟩⟩⟩⟩⟩⟩⟩⟩⟩⟩⟩⟩⟩⟩⟩⟩⟩⟩⟩⟩⟩⟩⟩⟩⟩⟩⟩⟩⟩⟩⟩⟩⟩⟩⟩⟩⟩⟩⟩⟩⟩⟩⟩⟩⟩⟩⟩⟩⟩⟩⟩⟩⟩⟩⟩⟩⟩⟩⟩⟩⟩⟩⟩⟩⟩⟩⟩⟩⟩⟩⟩⟩⟩⟩⟩⟩⟩⟩⟩⟩⟩⟩⟩⟩⟩⟩⟩⟩⟩⟩⟩⟩⟩⟩⟩⟩⟩
theorem iI0 {g : Nat → ClassId} {q : Nat → Nat} {u : va_W} (h : q_fl u 0 (nh_w g q)) : q_I (nsh g q) q u := fun k P hk => by
  have z := iL_I (nsh g q) (nh_w g q) 0 (iS g q) h k P hk
  rw [Nat.zero_add] at z
  exact z

theorem iB0 : bO 68 0 0 (fun _ => 0) 0 := ⟨⟨by decide, fun i hi => absurd hi (Nat.not_lt_zero i), fun h => absurd h (by decide)⟩, Or.inl rfl, rfl, by decide, by decide⟩
theorem iB1 : bO 108 0 0 (fun _ => 0) 0 := ⟨⟨by decide, fun i hi => absurd hi (Nat.not_lt_zero i), fun h => absurd h (by decide)⟩, Or.inl rfl, rfl, by decide, by decide⟩
theorem iB2 : bO 3 1 0 (upd (fun _ => 0) 0 1) 1 := ⟨⟨by decide, fun i hi => by
    have e : i = 0 := Nat.lt_one_iff.mp hi
    subst e
    exact (by decide : (0 : Int) ≤ (1 : Int32).toInt), fun _ => (by decide : (1 : Int32) ≠ 0)⟩, Or.inl rfl, rfl, by decide, by decide⟩
theorem iR0 : rW 0 0 (fun _ => 0) := ⟨0, iB0, Nat.pow_pos (by decide)⟩
theorem iR1 : rD 0 0 (fun _ => 0) 0 1 := ⟨0, iB1, ⟨1, rfl, ⟨by decide, by decide, fun h => absurd rfl h⟩, by decide⟩, by decide, by decide⟩
theorem iR2 : dO 3 1 0 (upd (fun _ => 0) 0 1) 0 1 1 := ⟨iB2, ⟨1, rfl, ⟨by decide, by decide, fun _ => by decide⟩, by decide⟩, by decide, by decide⟩
theorem iC0 {g : Nat → ClassId} {q : Nat → Nat} {u : va_W} (h : q_fl u 0 (nh_w g q)) : iC g q u := by
  have h' : ∀ (i : Nat) (x : Nat × va_E), (nh_w g q)[i]? = some x → u[i]? = some x := fun i x e => by have z := h i x e; rw [Nat.zero_add] at z; exact z
  refine ⟨fun i hi => ?_, fun i hi => ?_, ?_⟩
  · match i, hi with
    | 0, _ => exact ⟨0, 0, fun _ => 0, h' 66 _ rfl, h' 67 _ rfl, iR0⟩
    | 1, _ => exact ⟨0, 0, fun _ => 0, h' 71 _ rfl, h' 72 _ rfl, iR0⟩
    | 2, _ => exact ⟨0, 0, fun _ => 0, h' 76 _ rfl, h' 77 _ rfl, iR0⟩
    | 3, _ => exact ⟨0, 0, fun _ => 0, h' 81 _ rfl, h' 82 _ rfl, iR0⟩
    | 4, _ => exact ⟨0, 0, fun _ => 0, h' 86 _ rfl, h' 87 _ rfl, iR0⟩
    | 5, _ => exact ⟨0, 0, fun _ => 0, h' 91 _ rfl, h' 92 _ rfl, iR0⟩
    | 6, _ => exact ⟨0, 0, fun _ => 0, h' 96 _ rfl, h' 97 _ rfl, iR0⟩
    | 7, _ => exact ⟨0, 0, fun _ => 0, h' 101 _ rfl, h' 102 _ rfl, iR0⟩
    | 8, _ => exact ⟨0, 0, fun _ => 0, h' 106 _ rfl, h' 107 _ rfl, iR0⟩
    | 9, _ => exact ⟨0, 0, fun _ => 0, h' 111 _ rfl, h' 112 _ rfl, iR0⟩
  · match i, hi with
    | 0, _ => exact ⟨0, 1, 0, 0, fun _ => 0, h' 68 _ rfl, h' 69 _ rfl, h' 70 _ rfl, iR1⟩
    | 1, _ => exact ⟨0, 1, 0, 0, fun _ => 0, h' 73 _ rfl, h' 74 _ rfl, h' 75 _ rfl, iR1⟩
    | 2, _ => exact ⟨0, 1, 0, 0, fun _ => 0, h' 78 _ rfl, h' 79 _ rfl, h' 80 _ rfl, iR1⟩
    | 3, _ => exact ⟨0, 1, 0, 0, fun _ => 0, h' 83 _ rfl, h' 84 _ rfl, h' 85 _ rfl, iR1⟩
    | 4, _ => exact ⟨0, 1, 0, 0, fun _ => 0, h' 88 _ rfl, h' 89 _ rfl, h' 90 _ rfl, iR1⟩
    | 5, _ => exact ⟨0, 1, 0, 0, fun _ => 0, h' 93 _ rfl, h' 94 _ rfl, h' 95 _ rfl, iR1⟩
    | 6, _ => exact ⟨0, 1, 0, 0, fun _ => 0, h' 98 _ rfl, h' 99 _ rfl, h' 100 _ rfl, iR1⟩
    | 7, _ => exact ⟨0, 1, 0, 0, fun _ => 0, h' 103 _ rfl, h' 104 _ rfl, h' 105 _ rfl, iR1⟩
    | 8, _ => exact ⟨0, 1, 0, 0, fun _ => 0, h' 108 _ rfl, h' 109 _ rfl, h' 110 _ rfl, iR1⟩
    | 9, _ => exact ⟨0, 1, 0, 0, fun _ => 0, h' 113 _ rfl, h' 114 _ rfl, h' 115 _ rfl, iR1⟩
  · exact ⟨0, 1, 1, 0, upd (fun _ => 0) 0 1, h' 31 _ rfl, h' 32 _ rfl, h' 33 _ rfl, iR2⟩

set_option maxRecDepth 100000 in
theorem CV_argument (l : Launch) (D : va_G) (g : Nat → ClassId) (q : Nat → Nat) (ws : va_W) (x2 : Int32) (x3 : Int32) (i3 : Nat) (hi3 : i3 < 10) (e3 : x3.toNatClampNeg < 10 → i3 = x3.toNatClampNeg) (hlt : l.stackTraces = false) (hI : q_I (nsh g q) q ws) (hC : iC g q ws) : ∀ sz, q_Mx l y_NH_argument prog_1_method_19_code 3 (some .int) 8 6 36 D g [.ref (q 0), .int x2, .int x3] ws sz (va_Qi (fun _ u => iP g q ws u) (q_B D g (va_A ws sz)) (va_A ws sz)) (fun E u => (∃ c : Int32, E = qE c ∧ (c = 1 ∨ c = 2 ∨ c = 3)) ∧ iP g q ws u) := by
  intro sz
  obtain ⟨t0_0, hZ9⟩ := n_o40 hI
  obtain ⟨t0_1, hZ9⟩ := hZ9
  obtain ⟨t0_2, hZ9⟩ := hZ9
  obtain ⟨t0_3, hZ9⟩ := hZ9
  obtain ⟨hT0, bT0⟩ := hZ9
  obtain ⟨t1_0, hT1, bT1⟩ := n_ai hI (n_s41 g q)
  obtain ⟨t2_0, hT2⟩ := n_al hI (n_s42 g q)
  obtain ⟨t3_0, hT3, bT3⟩ := n_ai hI (n_s43 g q)
  obtain ⟨t4_0, hT4, bT4⟩ := n_shO hI (n_h1 g q)
  obtain ⟨t5_0, hT5⟩ := n_al hI (n_s2 g q)
  obtain ⟨t6_0, hT6, bT6⟩ := n_shO hI (n_t g q (j := 0) (by decide))
  obtain ⟨t7_0, hT7⟩ := n_al hI (n_s49 g q)
  obtain ⟨t8_0, hT8, bT8⟩ := n_shO hI (n_t g q (j := 1) (by decide))
  obtain ⟨t9_0, hT9⟩ := n_al hI (n_s51 g q)
  obtain ⟨t10_0, hT10, bT10⟩ := n_shO hI (n_t g q (j := 2) (by decide))
  obtain ⟨t11_0, hT11⟩ := n_al hI (n_s53 g q)
  obtain ⟨t12_0, hT12, bT12⟩ := n_shO hI (n_t g q (j := 3) (by decide))
  obtain ⟨t13_0, hT13⟩ := n_al hI (n_s55 g q)
  obtain ⟨t14_0, hT14, bT14⟩ := n_shO hI (n_t g q (j := 4) (by decide))
  obtain ⟨t15_0, hT15⟩ := n_al hI (n_s57 g q)
  obtain ⟨t16_0, hT16, bT16⟩ := n_shO hI (n_t g q (j := 5) (by decide))
  obtain ⟨t17_0, hT17⟩ := n_al hI (n_s59 g q)
  obtain ⟨t18_0, hT18, bT18⟩ := n_shO hI (n_t g q (j := 6) (by decide))
  obtain ⟨t19_0, hT19⟩ := n_al hI (n_s61 g q)
  obtain ⟨t20_0, hT20, bT20⟩ := n_shO hI (n_t g q (j := 7) (by decide))
  obtain ⟨t21_0, hT21⟩ := n_al hI (n_s63 g q)
  obtain ⟨t22_0, hT22, bT22⟩ := n_shO hI (n_t g q (j := 8) (by decide))
  obtain ⟨t23_0, hT23⟩ := n_al hI (n_s65 g q)
  obtain ⟨t24_0, hZ9⟩ := hC.1 i3 hi3
  obtain ⟨t24_1, hZ9⟩ := hZ9
  obtain ⟨t25_0, hZ9⟩ := hZ9
  obtain ⟨hT24, hZ9⟩ := hZ9
  obtain ⟨hT25, hZ9⟩ := hZ9
  obtain ⟨vk3, hZ9⟩ := hZ9
  obtain ⟨hbk3, hBk3⟩ := hZ9
  obtain ⟨t26_0, hZ9⟩ := hC.2.1 i3 hi3
  obtain ⟨t26_1, hZ9⟩ := hZ9
  obtain ⟨t27_0, hZ9⟩ := hZ9
  obtain ⟨t27_1, hZ9⟩ := hZ9
  obtain ⟨t28_0, hZ9⟩ := hZ9
  obtain ⟨hT26, hZ9⟩ := hZ9
  obtain ⟨hT27, hZ9⟩ := hZ9
  obtain ⟨hT28, hZ9⟩ := hZ9
  obtain ⟨vd3, hbd3⟩ := hZ9
  have hq := T_argument (x2 := x2) (x3 := x3) (t0_0 := t0_0) (t0_1 := t0_1) (t0_2 := t0_2) (t0_3 := t0_3) (t1_0 := t1_0) (t2_0 := t2_0) (t3_0 := t3_0) (t4_0 := t4_0) (t5_0 := t5_0) (t6_0 := t6_0) (t7_0 := t7_0) (t8_0 := t8_0) (t9_0 := t9_0) (t10_0 := t10_0) (t11_0 := t11_0) (t12_0 := t12_0) (t13_0 := t13_0) (t14_0 := t14_0) (t15_0 := t15_0) (t16_0 := t16_0) (t17_0 := t17_0) (t18_0 := t18_0) (t19_0 := t19_0) (t20_0 := t20_0) (t21_0 := t21_0) (t22_0 := t22_0) (t23_0 := t23_0) (t24_0 := t24_0) (t24_1 := t24_1) (t25_0 := t25_0) (t26_0 := t26_0) (t26_1 := t26_1) (t27_0 := t27_0) (t27_1 := t27_1) (t28_0 := t28_0) 
  refine q_MxI (X_NH_argument l D g q ws x2 x3 (66 + 5 * i3) (n_w g q hi3) (by omega) (fun h => by have z := e3 h; omega) (68 + 5 * i3) (n_d g q hi3) (by omega) (fun h => by have z := e3 h; omega) (by omega) (by omega) (by omega) (by omega) hlt hI t0_0 t0_1 t0_2 t0_3 hT0 t1_0 hT1 t2_0 hT2 t3_0 hT3 t4_0 hT4 t5_0 hT5 t6_0 hT6 t7_0 hT7 t8_0 hT8 t9_0 hT9 t10_0 hT10 t11_0 hT11 t12_0 hT12 t13_0 hT13 t14_0 hT14 t15_0 hT15 t16_0 hT16 t17_0 hT17 t18_0 hT18 t19_0 hT19 t20_0 hT20 t21_0 hT21 t22_0 hT22 t23_0 hT23 t24_0 t24_1 hT24 t25_0 hT25 t26_0 t26_1 hT26 t27_0 t27_1 hT27 t28_0 hT28 ⟨trivial, hq⟩ sz) ?_ ?_
  · rintro r u hZ9
    obtain ⟨hI2, hZ9⟩ := hZ9
    obtain ⟨hun, hZ9⟩ := hZ9
    obtain ⟨u0_0, hZ9⟩ := hZ9
    obtain ⟨u0_1, hZ9⟩ := hZ9
    obtain ⟨u0_2, hZ9⟩ := hZ9
    obtain ⟨u0_3, hZ9⟩ := hZ9
    obtain ⟨u1_0, hZ9⟩ := hZ9
    obtain ⟨u2_0, hZ9⟩ := hZ9
    obtain ⟨u3_0, hZ9⟩ := hZ9
    obtain ⟨u4_0, hZ9⟩ := hZ9
    obtain ⟨u6_0, hZ9⟩ := hZ9
    obtain ⟨u7_0, hZ9⟩ := hZ9
    obtain ⟨u8_0, hZ9⟩ := hZ9
    obtain ⟨u9_0, hZ9⟩ := hZ9
    obtain ⟨u10_0, hZ9⟩ := hZ9
    obtain ⟨u11_0, hZ9⟩ := hZ9
    obtain ⟨u12_0, hZ9⟩ := hZ9
    obtain ⟨u13_0, hZ9⟩ := hZ9
    obtain ⟨u14_0, hZ9⟩ := hZ9
    obtain ⟨u15_0, hZ9⟩ := hZ9
    obtain ⟨u16_0, hZ9⟩ := hZ9
    obtain ⟨u17_0, hZ9⟩ := hZ9
    obtain ⟨u18_0, hZ9⟩ := hZ9
    obtain ⟨u19_0, hZ9⟩ := hZ9
    obtain ⟨u20_0, hZ9⟩ := hZ9
    obtain ⟨u21_0, hZ9⟩ := hZ9
    obtain ⟨u22_0, hZ9⟩ := hZ9
    obtain ⟨u23_0, hZ9⟩ := hZ9
    obtain ⟨hU0, hZ9⟩ := hZ9
    obtain ⟨hU1, hZ9⟩ := hZ9
    obtain ⟨hU2, hZ9⟩ := hZ9
    obtain ⟨hU3, hZ9⟩ := hZ9
    obtain ⟨hU4, hZ9⟩ := hZ9
    obtain ⟨hU5, hZ9⟩ := hZ9
    obtain ⟨hU6, hZ9⟩ := hZ9
    obtain ⟨hU7, hZ9⟩ := hZ9
    obtain ⟨hU8, hZ9⟩ := hZ9
    obtain ⟨hU9, hZ9⟩ := hZ9
    obtain ⟨hU10, hZ9⟩ := hZ9
    obtain ⟨hU11, hZ9⟩ := hZ9
    obtain ⟨hU12, hZ9⟩ := hZ9
    obtain ⟨hU13, hZ9⟩ := hZ9
    obtain ⟨hU14, hZ9⟩ := hZ9
    obtain ⟨hU15, hZ9⟩ := hZ9
    obtain ⟨hU16, hZ9⟩ := hZ9
    obtain ⟨hU17, hZ9⟩ := hZ9
    obtain ⟨hU18, hZ9⟩ := hZ9
    obtain ⟨hU19, hZ9⟩ := hZ9
    obtain ⟨hU20, hZ9⟩ := hZ9
    obtain ⟨hU21, hZ9⟩ := hZ9
    obtain ⟨hU22, hR⟩ := hZ9
    refine ⟨hI2, ⟨fun i hi => ?_, fun i hi => ?_, ?_⟩, fun i hi => hun i (by simp only [List.mem_cons, List.not_mem_nil, or_false, not_or]; omega)⟩
    · exact iW_fr (hC.1 i hi) (hun _ (by simp only [List.mem_cons, List.not_mem_nil, or_false, not_or]; omega)) (hun _ (by simp only [List.mem_cons, List.not_mem_nil, or_false, not_or]; omega))
    · exact iD_fr (hC.2.1 i hi) (hun _ (by simp only [List.mem_cons, List.not_mem_nil, or_false, not_or]; omega)) (hun _ (by simp only [List.mem_cons, List.not_mem_nil, or_false, not_or]; omega)) (hun _ (by simp only [List.mem_cons, List.not_mem_nil, or_false, not_or]; omega))
    · exact iO_fr hC.2.2 (hun _ (by simp only [List.mem_cons, List.not_mem_nil, or_false, not_or]; omega)) (hun _ (by simp only [List.mem_cons, List.not_mem_nil, or_false, not_or]; omega)) (hun _ (by simp only [List.mem_cons, List.not_mem_nil, or_false, not_or]; omega))
  · rintro E u hZ9
    obtain ⟨c, hZ9⟩ := hZ9
    obtain ⟨hE, hZ9⟩ := hZ9
    obtain ⟨hc, hZ9⟩ := hZ9
    obtain ⟨hI2, hZ9⟩ := hZ9
    obtain ⟨hun, hZ9⟩ := hZ9
    obtain ⟨u0_0, hZ9⟩ := hZ9
    obtain ⟨u0_1, hZ9⟩ := hZ9
    obtain ⟨u0_2, hZ9⟩ := hZ9
    obtain ⟨u0_3, hZ9⟩ := hZ9
    obtain ⟨u1_0, hZ9⟩ := hZ9
    obtain ⟨u2_0, hZ9⟩ := hZ9
    obtain ⟨u3_0, hZ9⟩ := hZ9
    obtain ⟨u4_0, hZ9⟩ := hZ9
    obtain ⟨u6_0, hZ9⟩ := hZ9
    obtain ⟨u7_0, hZ9⟩ := hZ9
    obtain ⟨u8_0, hZ9⟩ := hZ9
    obtain ⟨u9_0, hZ9⟩ := hZ9
    obtain ⟨u10_0, hZ9⟩ := hZ9
    obtain ⟨u11_0, hZ9⟩ := hZ9
    obtain ⟨u12_0, hZ9⟩ := hZ9
    obtain ⟨u13_0, hZ9⟩ := hZ9
    obtain ⟨u14_0, hZ9⟩ := hZ9
    obtain ⟨u15_0, hZ9⟩ := hZ9
    obtain ⟨u16_0, hZ9⟩ := hZ9
    obtain ⟨u17_0, hZ9⟩ := hZ9
    obtain ⟨u18_0, hZ9⟩ := hZ9
    obtain ⟨u19_0, hZ9⟩ := hZ9
    obtain ⟨u20_0, hZ9⟩ := hZ9
    obtain ⟨u21_0, hZ9⟩ := hZ9
    obtain ⟨u22_0, hZ9⟩ := hZ9
    obtain ⟨u23_0, hZ9⟩ := hZ9
    obtain ⟨hU0, hZ9⟩ := hZ9
    obtain ⟨hU1, hZ9⟩ := hZ9
    obtain ⟨hU2, hZ9⟩ := hZ9
    obtain ⟨hU3, hZ9⟩ := hZ9
    obtain ⟨hU4, hZ9⟩ := hZ9
    obtain ⟨hU5, hZ9⟩ := hZ9
    obtain ⟨hU6, hZ9⟩ := hZ9
    obtain ⟨hU7, hZ9⟩ := hZ9
    obtain ⟨hU8, hZ9⟩ := hZ9
    obtain ⟨hU9, hZ9⟩ := hZ9
    obtain ⟨hU10, hZ9⟩ := hZ9
    obtain ⟨hU11, hZ9⟩ := hZ9
    obtain ⟨hU12, hZ9⟩ := hZ9
    obtain ⟨hU13, hZ9⟩ := hZ9
    obtain ⟨hU14, hZ9⟩ := hZ9
    obtain ⟨hU15, hZ9⟩ := hZ9
    obtain ⟨hU16, hZ9⟩ := hZ9
    obtain ⟨hU17, hZ9⟩ := hZ9
    obtain ⟨hU18, hZ9⟩ := hZ9
    obtain ⟨hU19, hZ9⟩ := hZ9
    obtain ⟨hU20, hZ9⟩ := hZ9
    obtain ⟨hU21, hZ9⟩ := hZ9
    obtain ⟨hU22, hF⟩ := hZ9
    have hk := K_NH_argument (x2 := x2) (x3 := x3) (t0_0 := t0_0) (t0_1 := t0_1) (t0_2 := t0_2) (t0_3 := t0_3) (t1_0 := t1_0) (t2_0 := t2_0) (t3_0 := t3_0) (t4_0 := t4_0) (t5_0 := t5_0) (t6_0 := t6_0) (t7_0 := t7_0) (t8_0 := t8_0) (t9_0 := t9_0) (t10_0 := t10_0) (t11_0 := t11_0) (t12_0 := t12_0) (t13_0 := t13_0) (t14_0 := t14_0) (t15_0 := t15_0) (t16_0 := t16_0) (t17_0 := t17_0) (t18_0 := t18_0) (t19_0 := t19_0) (t20_0 := t20_0) (t21_0 := t21_0) (t22_0 := t22_0) (t23_0 := t23_0) (t24_0 := t24_0) (t24_1 := t24_1) (t25_0 := t25_0) (t26_0 := t26_0) (t26_1 := t26_1) (t27_0 := t27_0) (t27_1 := t27_1) (t28_0 := t28_0)
    rw [← hF] at hk
    replace hk : kC123 c := hk
    refine ⟨⟨c, hE, hk.resolve_left hc⟩, hI2, ⟨fun i hi => ?_, fun i hi => ?_, ?_⟩, fun i hi => hun i (by simp only [List.mem_cons, List.not_mem_nil, or_false, not_or]; omega)⟩
    · exact iW_fr (hC.1 i hi) (hun _ (by simp only [List.mem_cons, List.not_mem_nil, or_false, not_or]; omega)) (hun _ (by simp only [List.mem_cons, List.not_mem_nil, or_false, not_or]; omega))
    · exact iD_fr (hC.2.1 i hi) (hun _ (by simp only [List.mem_cons, List.not_mem_nil, or_false, not_or]; omega)) (hun _ (by simp only [List.mem_cons, List.not_mem_nil, or_false, not_or]; omega)) (hun _ (by simp only [List.mem_cons, List.not_mem_nil, or_false, not_or]; omega))
    · exact iO_fr hC.2.2 (hun _ (by simp only [List.mem_cons, List.not_mem_nil, or_false, not_or]; omega)) (hun _ (by simp only [List.mem_cons, List.not_mem_nil, or_false, not_or]; omega)) (hun _ (by simp only [List.mem_cons, List.not_mem_nil, or_false, not_or]; omega))
theorem C_argument (l : Launch) (D : va_G) (g : Nat → ClassId) (q : Nat → Nat) (ws : va_W) (x2 : Int32) (x3 : Int32) (hlt : l.stackTraces = false) (hI : q_I (nsh g q) q ws) (hC : iC g q ws) : ∀ sz, q_Mx l y_NH_argument prog_1_method_19_code 3 (some .int) 8 6 36 D g [.ref (q 0), .int x2, .int x3] ws sz (va_Qi (fun _ u => iP g q ws u) (q_B D g (va_A ws sz)) (va_A ws sz)) (fun E u => (∃ c : Int32, E = qE c ∧ (c = 1 ∨ c = 2 ∨ c = 3)) ∧ iP g q ws u) := by
  obtain ⟨i3, hi3, e3⟩ := iX x3
  exact CV_argument l D g q ws x2 x3 i3 hi3 e3 hlt hI hC

/-! the world of the reference -/
def k_any : q_Ok := fun _ => True
def q_isRow (sh : List q_Ok) (g : Nat → ClassId) (k : Nat) (N : Int32) : Prop := sh[k]? = some (k_ai (g 0) N.toNatClampNeg (-2147483648) 2147483647) ∧ 0 ≤ N.toInt ∧ N.toInt ≤ 20200
def k_116 (q : Nat → Nat) : q_Ok := fun E => ∃ (y0 : Int32) (y1 : Int32) (y2 : Int32), E = .inr (12, [.int y0, .ref (q 117), .int y1, .ref (q 118), .int y2, .ref (q 119), .ref (q 134), .ref (q 145), .ref (q 153), .ref (q 157), .ref (q 167), .ref (q 168)]) ∧ (0 ≤ y1.toInt ∧ y1.toInt ≤ 4100) ∧ (0 ≤ y2.toInt ∧ y2.toInt ≤ 12200)
def k_119 (q : Nat → Nat) : q_Ok := fun E => ∃ (y0 : Int32) (y1 : Int32) (y2 : Int32) (y3 : Int32) (y4 : Int32) (y5 : Int32) (y6 : Int32), E = .inr (13, [.int y0, .int y1, .ref (q 120), .int y2, .ref (q 121), .ref (q 122), .ref (q 123), .int y3, .ref (q 124), .ref (q 125), .ref (q 126), .ref (q 127), .ref (q 128), .ref (q 129), .ref (q 130), .ref (q 131), .int y4, .int y5, .ref (q 132), .ref (q 133), .int y6]) ∧ (0 ≤ y2.toInt ∧ y2.toInt ≤ 4100) ∧ (0 ≤ y3.toInt ∧ y3.toInt ≤ 1) ∧ (0 ≤ y4.toInt ∧ y4.toInt ≤ 1) ∧ (0 ≤ y5.toInt ∧ y5.toInt ≤ 1) ∧ (0 ≤ y6.toInt ∧ y6.toInt ≤ 2100)
def k_134 (q : Nat → Nat) : q_Ok := fun E => ∃ (y0 : Int32) (y1 : Int32) (y2 : Int32) (y3 : Int64) (y4 : Int32) (y5 : Int32) (y6 : Int32) (y7 : Int32) (y8 : Int32) (y9 : Int32) (y10 : Int32), E = .inr (14, [.int y0, .ref (q 135), .int y1, .ref (q 136), .ref (q 137), .ref (q 138), .ref (q 139), .ref (q 140), .int y2, .long y3, .int y4, .int y5, .ref (q 141), .int y6, .ref (q 142), .int y7, .ref (q 143), .int y8, .ref (q 144), .int y9, .int y10]) ∧ (0 ≤ y1.toInt ∧ y1.toInt ≤ 4100) ∧ (0 ≤ y4.toInt ∧ y4.toInt ≤ 1) ∧ (0 ≤ y5.toInt ∧ y5.toInt ≤ 1) ∧ (0 ≤ y9.toInt ∧ y9.toInt ≤ 12200)
def k_145 (q : Nat → Nat) : q_Ok := fun E => ∃ (y0 : Int32) (y1 : Int32) (y2 : Int32) (y3 : Int32) (y4 : Int64) (y5 : Int32) (y6 : Int32) (y7 : Int64) (y8 : Int32) (y9 : Int64) (y10 : Int32), E = .inr (15, [.int y0, .ref (q 146), .ref (q 147), .ref (q 148), .ref (q 149), .ref (q 150), .ref (q 151), .ref (q 152), .int y1, .int y2, .int y3, .long y4, .int y5, .int y6, .long y7, .int y8, .long y9, .int y10]) ∧ (0 ≤ y2.toInt ∧ y2.toInt ≤ 1)
def k_153 (q : Nat → Nat) : q_Ok := fun E => ∃ (y0 : Int32) (y1 : Int32) (y2 : Int32) (y3 : Int32) (y4 : Int32) (y5 : Int32) (y6 : Int32) (y7 : Int64) (y8 : Int32) (y9 : Int32) (y10 : Int64) (y11 : Int64) (y12 : Int32) (y13 : Int32), E = .inr (16, [.int y0, .ref (q 154), .int y1, .int y2, .int y3, .int y4, .ref (q 155), .int y5, .int y6, .long y7, .ref (q 156), .int y8, .int y9, .long y10, .long y11, .int y12, .int y13]) ∧ (0 ≤ y1.toInt ∧ y1.toInt ≤ 4100) ∧ (0 ≤ y4.toInt ∧ y4.toInt ≤ 1) ∧ (0 ≤ y13.toInt ∧ y13.toInt ≤ 1)
def k_157 (q : Nat → Nat) : q_Ok := fun E => ∃ (y0 : Int32) (y1 : Int32) (y2 : Int32) (y3 : Int32) (y4 : Int32) (y5 : Int32) (y6 : Int32) (y7 : Int32) (y8 : Int32) (y9 : Int32) (y10 : Int32) (y11 : Int32) (y12 : Int32) (y13 : Int32) (y14 : Int32) (y15 : Int32) (y16 : Int32) (y17 : Int32) (y18 : Int32) (y19 : Int32) (y20 : Int32) (y21 : Int32), E = .inr (17, [.int y0, .ref (q 158), .int y1, .int y2, .ref (q 159), .ref (q 160), .ref (q 161), .ref (q 162), .ref (q 163), .int y3, .ref (q 164), .int y4, .int y5, .int y6, .int y7, .int y8, .int y9, .int y10, .int y11, .int y12, .int y13, .int y14, .int y15, .int y16, .ref (q 165), .int y17, .int y18, .int y19, .ref (q 166), .int y20, .int y21]) ∧ (0 ≤ y1.toInt ∧ y1.toInt ≤ 256) ∧ (0 ≤ y2.toInt ∧ y2.toInt ≤ 9) ∧ (0 ≤ y3.toInt ∧ y3.toInt ≤ 4096) ∧ (0 ≤ y10.toInt ∧ y10.toInt ≤ 1) ∧ (0 ≤ y19.toInt ∧ y19.toInt ≤ 1)
def msh (g : Nat → ClassId) (q : Nat → Nat) : List q_Ok := [k_any, k_any, k_any, k_any, k_any, k_any, k_any, k_any, k_any, k_any, k_any, k_any, k_any, k_any, k_any, k_any, k_any, k_any, k_any, k_any, k_any, k_any, k_any, k_any, k_any, k_any, k_any, k_any, k_any, k_any, k_any, k_any, k_any, k_any, k_any, k_any, k_any, k_any, k_any, k_any, k_any, k_any, k_any, k_any, k_any, k_any, k_any, k_any, k_any, k_any, k_any, k_any, k_any, k_any, k_any, k_any, k_any, k_any, k_any, k_any, k_any, k_any, k_any, k_any, k_any, k_any, k_any, k_any, k_any, k_any, k_any, k_any, k_any, k_any, k_any, k_any, k_any, k_any, k_any, k_any, k_any, k_any, k_any, k_any, k_any, k_any, k_any, k_any, k_any, k_any, k_any, k_any, k_any, k_any, k_any, k_any, k_any, k_any, k_any, k_any, k_any, k_any, k_any, k_any, k_any, k_any, k_any, k_any, k_any, k_any, k_any, k_any, k_any, k_any, k_any, k_any, k_116 q, k_ai (g 0) (4100 : Int32).toNatClampNeg (-2147483648) 2147483647, k_ai (g 0) (12200 : Int32).toNatClampNeg (-2147483648) 2147483647, k_119 q, k_ai (g 0) (4100 : Int32).toNatClampNeg (-2147483648) 2147483647, k_ai (g 0) (1408 : Int32).toNatClampNeg (-2147483648) 2147483647, k_ai (g 3) 11 (-2147483648) 2147483647, k_ai (g 0) (264 : Int32).toNatClampNeg (-2147483648) 2147483647, k_ai (g 0) (264 : Int32).toNatClampNeg (-2147483648) 2147483647, k_ai (g 0) (528 : Int32).toNatClampNeg (-2147483648) 2147483647, k_ai (g 0) (264 : Int32).toNatClampNeg (-2147483648) 2147483647, k_ai (g 0) (264 : Int32).toNatClampNeg (-2147483648) 2147483647, k_ai (g 0) (264 : Int32).toNatClampNeg (-2147483648) 2147483647, k_ai (g 0) (264 : Int32).toNatClampNeg (-2147483648) 2147483647, k_ai (g 0) (264 : Int32).toNatClampNeg (-2147483648) 2147483647, k_ai (g 0) (264 : Int32).toNatClampNeg (-2147483648) 2147483647, k_ai (g 0) (264 : Int32).toNatClampNeg (-2147483648) 2147483647, k_ai (g 0) (2100 : Int32).toNatClampNeg (-2147483648) 2147483647, k_134 q, k_ai (g 0) (4100 : Int32).toNatClampNeg (-2147483648) 2147483647, k_ai (g 0) (10000 : Int32).toNatClampNeg (-2147483648) 2147483647, k_ai (g 0) (10 : Int32).toNatClampNeg (-2147483648) 2147483647, k_ai (g 3) 10 (-2147483648) 2147483647, k_ai (g 0) (10 : Int32).toNatClampNeg (-2147483648) 2147483647, k_ai (g 0) (4400 : Int32).toNatClampNeg (-2147483648) 2147483647, k_ai (g 0) (4400 : Int32).toNatClampNeg (-2147483648) 2147483647, k_ai (g 0) (2200 : Int32).toNatClampNeg (-2147483648) 2147483647, k_ai (g 0) (2202 : Int32).toNatClampNeg (-2147483648) 2147483647, k_ai (g 0) (12200 : Int32).toNatClampNeg (-2147483648) 2147483647, k_145 q, k_ai (g 0) (156 : Int32).toNatClampNeg (-2147483648) 2147483647, k_ai (g 0) (156 : Int32).toNatClampNeg (-2147483648) 2147483647, k_ai (g 0) (1404 : Int32).toNatClampNeg (-2147483648) 2147483647, k_ai (g 0) (1404 : Int32).toNatClampNeg (-2147483648) 2147483647, k_ai (g 0) (1404 : Int32).toNatClampNeg (-2147483648) 2147483647, k_ai (g 0) (1404 : Int32).toNatClampNeg (-2147483648) 2147483647, k_ai (g 0) (1600 : Int32).toNatClampNeg (-2147483648) 2147483647, k_153 q, k_ai (g 0) (4100 : Int32).toNatClampNeg (-2147483648) 2147483647, k_ai (g 0) (4100 : Int32).toNatClampNeg (-2147483648) 2147483647, k_ai (g 0) (800 : Int32).toNatClampNeg (-2147483648) 2147483647, k_157 q, k_ai (g 0) (256 : Int32).toNatClampNeg (-2147483648) 2147483647, k_ai (g 0) (9 : Int32).toNatClampNeg (-2147483648) 2147483647, k_ai (g 0) (9 : Int32).toNatClampNeg (-2147483648) 2147483647, k_al (g 1) 9, k_ai (g 0) (576 : Int32).toNatClampNeg (-2147483648) 2147483647, k_ai (g 0) (4096 : Int32).toNatClampNeg (-2147483648) 2147483647, k_ai (g 0) (4096 : Int32).toNatClampNeg (-2147483648) 2147483647, k_ai (g 0) (20200 : Int32).toNatClampNeg (-2147483648) 2147483647, k_ai (g 0) (64 : Int32).toNatClampNeg (-2147483648) 2147483647, k_al (g 1) 20, k_al (g 1) 1]
theorem n_s116 (g : Nat → ClassId) (q : Nat → Nat) : (msh g q)[116]? = some (k_116 q) := rfl
theorem n_s117 (g : Nat → ClassId) (q : Nat → Nat) : (msh g q)[117]? = some (k_ai (g 0) (4100 : Int32).toNatClampNeg (-2147483648) 2147483647) := rfl
theorem n_s118 (g : Nat → ClassId) (q : Nat → Nat) : (msh g q)[118]? = some (k_ai (g 0) (12200 : Int32).toNatClampNeg (-2147483648) 2147483647) := rfl
theorem n_s119 (g : Nat → ClassId) (q : Nat → Nat) : (msh g q)[119]? = some (k_119 q) := rfl
theorem n_s120 (g : Nat → ClassId) (q : Nat → Nat) : (msh g q)[120]? = some (k_ai (g 0) (4100 : Int32).toNatClampNeg (-2147483648) 2147483647) := rfl
theorem n_s121 (g : Nat → ClassId) (q : Nat → Nat) : (msh g q)[121]? = some (k_ai (g 0) (1408 : Int32).toNatClampNeg (-2147483648) 2147483647) := rfl
theorem n_s122 (g : Nat → ClassId) (q : Nat → Nat) : (msh g q)[122]? = some (k_ai (g 3) 11 (-2147483648) 2147483647) := rfl
theorem n_s123 (g : Nat → ClassId) (q : Nat → Nat) : (msh g q)[123]? = some (k_ai (g 0) (264 : Int32).toNatClampNeg (-2147483648) 2147483647) := rfl
theorem n_s124 (g : Nat → ClassId) (q : Nat → Nat) : (msh g q)[124]? = some (k_ai (g 0) (264 : Int32).toNatClampNeg (-2147483648) 2147483647) := rfl
theorem n_s125 (g : Nat → ClassId) (q : Nat → Nat) : (msh g q)[125]? = some (k_ai (g 0) (528 : Int32).toNatClampNeg (-2147483648) 2147483647) := rfl
theorem n_s126 (g : Nat → ClassId) (q : Nat → Nat) : (msh g q)[126]? = some (k_ai (g 0) (264 : Int32).toNatClampNeg (-2147483648) 2147483647) := rfl
theorem n_s127 (g : Nat → ClassId) (q : Nat → Nat) : (msh g q)[127]? = some (k_ai (g 0) (264 : Int32).toNatClampNeg (-2147483648) 2147483647) := rfl
theorem n_s128 (g : Nat → ClassId) (q : Nat → Nat) : (msh g q)[128]? = some (k_ai (g 0) (264 : Int32).toNatClampNeg (-2147483648) 2147483647) := rfl
theorem n_s129 (g : Nat → ClassId) (q : Nat → Nat) : (msh g q)[129]? = some (k_ai (g 0) (264 : Int32).toNatClampNeg (-2147483648) 2147483647) := rfl
theorem n_s130 (g : Nat → ClassId) (q : Nat → Nat) : (msh g q)[130]? = some (k_ai (g 0) (264 : Int32).toNatClampNeg (-2147483648) 2147483647) := rfl
theorem n_s131 (g : Nat → ClassId) (q : Nat → Nat) : (msh g q)[131]? = some (k_ai (g 0) (264 : Int32).toNatClampNeg (-2147483648) 2147483647) := rfl
theorem n_s132 (g : Nat → ClassId) (q : Nat → Nat) : (msh g q)[132]? = some (k_ai (g 0) (264 : Int32).toNatClampNeg (-2147483648) 2147483647) := rfl
theorem n_s133 (g : Nat → ClassId) (q : Nat → Nat) : (msh g q)[133]? = some (k_ai (g 0) (2100 : Int32).toNatClampNeg (-2147483648) 2147483647) := rfl
theorem n_s134 (g : Nat → ClassId) (q : Nat → Nat) : (msh g q)[134]? = some (k_134 q) := rfl
theorem n_s135 (g : Nat → ClassId) (q : Nat → Nat) : (msh g q)[135]? = some (k_ai (g 0) (4100 : Int32).toNatClampNeg (-2147483648) 2147483647) := rfl
theorem n_s136 (g : Nat → ClassId) (q : Nat → Nat) : (msh g q)[136]? = some (k_ai (g 0) (10000 : Int32).toNatClampNeg (-2147483648) 2147483647) := rfl
theorem n_s137 (g : Nat → ClassId) (q : Nat → Nat) : (msh g q)[137]? = some (k_ai (g 0) (10 : Int32).toNatClampNeg (-2147483648) 2147483647) := rfl
theorem n_s138 (g : Nat → ClassId) (q : Nat → Nat) : (msh g q)[138]? = some (k_ai (g 3) 10 (-2147483648) 2147483647) := rfl
theorem n_s139 (g : Nat → ClassId) (q : Nat → Nat) : (msh g q)[139]? = some (k_ai (g 0) (10 : Int32).toNatClampNeg (-2147483648) 2147483647) := rfl
theorem n_s140 (g : Nat → ClassId) (q : Nat → Nat) : (msh g q)[140]? = some (k_ai (g 0) (4400 : Int32).toNatClampNeg (-2147483648) 2147483647) := rfl
theorem n_s141 (g : Nat → ClassId) (q : Nat → Nat) : (msh g q)[141]? = some (k_ai (g 0) (4400 : Int32).toNatClampNeg (-2147483648) 2147483647) := rfl
theorem n_s142 (g : Nat → ClassId) (q : Nat → Nat) : (msh g q)[142]? = some (k_ai (g 0) (2200 : Int32).toNatClampNeg (-2147483648) 2147483647) := rfl
theorem n_s143 (g : Nat → ClassId) (q : Nat → Nat) : (msh g q)[143]? = some (k_ai (g 0) (2202 : Int32).toNatClampNeg (-2147483648) 2147483647) := rfl
theorem n_s144 (g : Nat → ClassId) (q : Nat → Nat) : (msh g q)[144]? = some (k_ai (g 0) (12200 : Int32).toNatClampNeg (-2147483648) 2147483647) := rfl
theorem n_s145 (g : Nat → ClassId) (q : Nat → Nat) : (msh g q)[145]? = some (k_145 q) := rfl
theorem n_s146 (g : Nat → ClassId) (q : Nat → Nat) : (msh g q)[146]? = some (k_ai (g 0) (156 : Int32).toNatClampNeg (-2147483648) 2147483647) := rfl
theorem n_s147 (g : Nat → ClassId) (q : Nat → Nat) : (msh g q)[147]? = some (k_ai (g 0) (156 : Int32).toNatClampNeg (-2147483648) 2147483647) := rfl
theorem n_s148 (g : Nat → ClassId) (q : Nat → Nat) : (msh g q)[148]? = some (k_ai (g 0) (1404 : Int32).toNatClampNeg (-2147483648) 2147483647) := rfl
theorem n_s149 (g : Nat → ClassId) (q : Nat → Nat) : (msh g q)[149]? = some (k_ai (g 0) (1404 : Int32).toNatClampNeg (-2147483648) 2147483647) := rfl
theorem n_s150 (g : Nat → ClassId) (q : Nat → Nat) : (msh g q)[150]? = some (k_ai (g 0) (1404 : Int32).toNatClampNeg (-2147483648) 2147483647) := rfl
theorem n_s151 (g : Nat → ClassId) (q : Nat → Nat) : (msh g q)[151]? = some (k_ai (g 0) (1404 : Int32).toNatClampNeg (-2147483648) 2147483647) := rfl
theorem n_s152 (g : Nat → ClassId) (q : Nat → Nat) : (msh g q)[152]? = some (k_ai (g 0) (1600 : Int32).toNatClampNeg (-2147483648) 2147483647) := rfl
theorem n_s153 (g : Nat → ClassId) (q : Nat → Nat) : (msh g q)[153]? = some (k_153 q) := rfl
theorem n_s154 (g : Nat → ClassId) (q : Nat → Nat) : (msh g q)[154]? = some (k_ai (g 0) (4100 : Int32).toNatClampNeg (-2147483648) 2147483647) := rfl
theorem n_s155 (g : Nat → ClassId) (q : Nat → Nat) : (msh g q)[155]? = some (k_ai (g 0) (4100 : Int32).toNatClampNeg (-2147483648) 2147483647) := rfl
theorem n_s156 (g : Nat → ClassId) (q : Nat → Nat) : (msh g q)[156]? = some (k_ai (g 0) (800 : Int32).toNatClampNeg (-2147483648) 2147483647) := rfl
theorem n_s157 (g : Nat → ClassId) (q : Nat → Nat) : (msh g q)[157]? = some (k_157 q) := rfl
theorem n_s158 (g : Nat → ClassId) (q : Nat → Nat) : (msh g q)[158]? = some (k_ai (g 0) (256 : Int32).toNatClampNeg (-2147483648) 2147483647) := rfl
theorem n_s159 (g : Nat → ClassId) (q : Nat → Nat) : (msh g q)[159]? = some (k_ai (g 0) (9 : Int32).toNatClampNeg (-2147483648) 2147483647) := rfl
theorem n_s160 (g : Nat → ClassId) (q : Nat → Nat) : (msh g q)[160]? = some (k_ai (g 0) (9 : Int32).toNatClampNeg (-2147483648) 2147483647) := rfl
theorem n_s161 (g : Nat → ClassId) (q : Nat → Nat) : (msh g q)[161]? = some (k_al (g 1) 9) := rfl
theorem n_s162 (g : Nat → ClassId) (q : Nat → Nat) : (msh g q)[162]? = some (k_ai (g 0) (576 : Int32).toNatClampNeg (-2147483648) 2147483647) := rfl
theorem n_s163 (g : Nat → ClassId) (q : Nat → Nat) : (msh g q)[163]? = some (k_ai (g 0) (4096 : Int32).toNatClampNeg (-2147483648) 2147483647) := rfl
theorem n_s164 (g : Nat → ClassId) (q : Nat → Nat) : (msh g q)[164]? = some (k_ai (g 0) (4096 : Int32).toNatClampNeg (-2147483648) 2147483647) := rfl
theorem n_s165 (g : Nat → ClassId) (q : Nat → Nat) : (msh g q)[165]? = some (k_ai (g 0) (20200 : Int32).toNatClampNeg (-2147483648) 2147483647) := rfl
theorem n_s166 (g : Nat → ClassId) (q : Nat → Nat) : (msh g q)[166]? = some (k_ai (g 0) (64 : Int32).toNatClampNeg (-2147483648) 2147483647) := rfl
theorem n_s167 (g : Nat → ClassId) (q : Nat → Nat) : (msh g q)[167]? = some (k_al (g 1) 20) := rfl
theorem n_s168 (g : Nat → ClassId) (q : Nat → Nat) : (msh g q)[168]? = some (k_al (g 1) 1) := rfl
theorem n_o116 {g : Nat → ClassId} {q : Nat → Nat} {ws : va_W} (h : q_I (msh g q) q ws) : ∃ (y0 : Int32) (y1 : Int32) (y2 : Int32), ws[116]? = (some (q 116, .inr (12, [.int y0, .ref (q 117), .int y1, .ref (q 118), .int y2, .ref (q 119), .ref (q 134), .ref (q 145), .ref (q 153), .ref (q 157), .ref (q 167), .ref (q 168)])) : Option (Nat × va_E)) ∧ (0 ≤ y1.toInt ∧ y1.toInt ≤ 4100) ∧ (0 ≤ y2.toInt ∧ y2.toInt ≤ 12200) := by
  obtain ⟨E, h1, y0, y1, y2, rfl, b0, b1⟩ := h 116 _ (n_s116 g q)
  exact ⟨y0, y1, y2, h1, b0, b1⟩
theorem n_w116 {g : Nat → ClassId} {q : Nat → Nat} {ws : va_W} (h : q_I (msh g q) q ws) {y0 : Int32} {y1 : Int32} {y2 : Int32} (hx9 : ws[116]? = (some (q 116, .inr (12, [.int y0, .ref (q 117), .int y1, .ref (q 118), .int y2, .ref (q 119), .ref (q 134), .ref (q 145), .ref (q 153), .ref (q 157), .ref (q 167), .ref (q 168)])) : Option (Nat × va_E))) : (0 ≤ y1.toInt ∧ y1.toInt ≤ 4100) ∧ (0 ≤ y2.toInt ∧ y2.toInt ≤ 12200) := by
  obtain ⟨z0, z1, z2, hh9, bb9⟩ := n_o116 h
  obtain ⟨rfl, rfl, rfl⟩ : y0 = z0 ∧ y1 = z1 ∧ y2 = z2 := by have z := Option.some.inj (hx9.symm.trans hh9); simpa using z
  exact bb9
theorem n_p116 {g : Nat → ClassId} {q : Nat → Nat} {ws u : va_W} {y0 : Int32} {y1 : Int32} {y2 : Int32} (h : q_I (msh g q) q ws) (hu : ∀ i, i ≠ 116 → u[i]? = ws[i]?) (hx : u[116]? = (some (q 116, .inr (12, [.int y0, .ref (q 117), .int y1, .ref (q 118), .int y2, .ref (q 119), .ref (q 134), .ref (q 145), .ref (q 153), .ref (q 157), .ref (q 167), .ref (q 168)])) : Option (Nat × va_E))) (b0 : 0 ≤ y1.toInt ∧ y1.toInt ≤ 4100) (b1 : 0 ≤ y2.toInt ∧ y2.toInt ≤ 12200) : q_I (msh g q) q u := q_Iset h hu (n_s116 g q) hx ⟨y0, y1, y2, rfl, b0, b1⟩
theorem n_r117 (g : Nat → ClassId) (q : Nat → Nat) : q_isRow (msh g q) g 117 4100 := ⟨n_s117 g q, by decide, by decide⟩
theorem n_r118 (g : Nat → ClassId) (q : Nat → Nat) : q_isRow (msh g q) g 118 12200 := ⟨n_s118 g q, by decide, by decide⟩
theorem n_o119 {g : Nat → ClassId} {q : Nat → Nat} {ws : va_W} (h : q_I (msh g q) q ws) : ∃ (y0 : Int32) (y1 : Int32) (y2 : Int32) (y3 : Int32) (y4 : Int32) (y5 : Int32) (y6 : Int32), ws[119]? = (some (q 119, .inr (13, [.int y0, .int y1, .ref (q 120), .int y2, .ref (q 121), .ref (q 122), .ref (q 123), .int y3, .ref (q 124), .ref (q 125), .ref (q 126), .ref (q 127), .ref (q 128), .ref (q 129), .ref (q 130), .ref (q 131), .int y4, .int y5, .ref (q 132), .ref (q 133), .int y6])) : Option (Nat × va_E)) ∧ (0 ≤ y2.toInt ∧ y2.toInt ≤ 4100) ∧ (0 ≤ y3.toInt ∧ y3.toInt ≤ 1) ∧ (0 ≤ y4.toInt ∧ y4.toInt ≤ 1) ∧ (0 ≤ y5.toInt ∧ y5.toInt ≤ 1) ∧ (0 ≤ y6.toInt ∧ y6.toInt ≤ 2100) := by
  obtain ⟨E, h1, y0, y1, y2, y3, y4, y5, y6, rfl, b0, b1, b2, b3, b4⟩ := h 119 _ (n_s119 g q)
  exact ⟨y0, y1, y2, y3, y4, y5, y6, h1, b0, b1, b2, b3, b4⟩
theorem n_w119 {g : Nat → ClassId} {q : Nat → Nat} {ws : va_W} (h : q_I (msh g q) q ws) {y0 : Int32} {y1 : Int32} {y2 : Int32} {y3 : Int32} {y4 : Int32} {y5 : Int32} {y6 : Int32} (hx9 : ws[119]? = (some (q 119, .inr (13, [.int y0, .int y1, .ref (q 120), .int y2, .ref (q 121), .ref (q 122), .ref (q 123), .int y3, .ref (q 124), .ref (q 125), .ref (q 126), .ref (q 127), .ref (q 128), .ref (q 129), .ref (q 130), .ref (q 131), .int y4, .int y5, .ref (q 132), .ref (q 133), .int y6])) : Option (Nat × va_E))) : (0 ≤ y2.toInt ∧ y2.toInt ≤ 4100) ∧ (0 ≤ y3.toInt ∧ y3.toInt ≤ 1) ∧ (0 ≤ y4.toInt ∧ y4.toInt ≤ 1) ∧ (0 ≤ y5.toInt ∧ y5.toInt ≤ 1) ∧ (0 ≤ y6.toInt ∧ y6.toInt ≤ 2100) := by
  obtain ⟨z0, z1, z2, z3, z4, z5, z6, hh9, bb9⟩ := n_o119 h
  obtain ⟨rfl, rfl, rfl, rfl, rfl, rfl, rfl⟩ : y0 = z0 ∧ y1 = z1 ∧ y2 = z2 ∧ y3 = z3 ∧ y4 = z4 ∧ y5 = z5 ∧ y6 = z6 := by have z := Option.some.inj (hx9.symm.trans hh9); simpa using z
  exact bb9
theorem n_p119 {g : Nat → ClassId} {q : Nat → Nat} {ws u : va_W} {y0 : Int32} {y1 : Int32} {y2 : Int32} {y3 : Int32} {y4 : Int32} {y5 : Int32} {y6 : Int32} (h : q_I (msh g q) q ws) (hu : ∀ i, i ≠ 119 → u[i]? = ws[i]?) (hx : u[119]? = (some (q 119, .inr (13, [.int y0, .int y1, .ref (q 120), .int y2, .ref (q 121), .ref (q 122), .ref (q 123), .int y3, .ref (q 124), .ref (q 125), .ref (q 126), .ref (q 127), .ref (q 128), .ref (q 129), .ref (q 130), .ref (q 131), .int y4, .int y5, .ref (q 132), .ref (q 133), .int y6])) : Option (Nat × va_E))) (b0 : 0 ≤ y2.toInt ∧ y2.toInt ≤ 4100) (b1 : 0 ≤ y3.toInt ∧ y3.toInt ≤ 1) (b2 : 0 ≤ y4.toInt ∧ y4.toInt ≤ 1) (b3 : 0 ≤ y5.toInt ∧ y5.toInt ≤ 1) (b4 : 0 ≤ y6.toInt ∧ y6.toInt ≤ 2100) : q_I (msh g q) q u := q_Iset h hu (n_s119 g q) hx ⟨y0, y1, y2, y3, y4, y5, y6, rfl, b0, b1, b2, b3, b4⟩
theorem n_r120 (g : Nat → ClassId) (q : Nat → Nat) : q_isRow (msh g q) g 120 4100 := ⟨n_s120 g q, by decide, by decide⟩
theorem n_r121 (g : Nat → ClassId) (q : Nat → Nat) : q_isRow (msh g q) g 121 1408 := ⟨n_s121 g q, by decide, by decide⟩
theorem n_r123 (g : Nat → ClassId) (q : Nat → Nat) : q_isRow (msh g q) g 123 264 := ⟨n_s123 g q, by decide, by decide⟩
theorem n_r124 (g : Nat → ClassId) (q : Nat → Nat) : q_isRow (msh g q) g 124 264 := ⟨n_s124 g q, by decide, by decide⟩
theorem n_r125 (g : Nat → ClassId) (q : Nat → Nat) : q_isRow (msh g q) g 125 528 := ⟨n_s125 g q, by decide, by decide⟩
theorem n_r126 (g : Nat → ClassId) (q : Nat → Nat) : q_isRow (msh g q) g 126 264 := ⟨n_s126 g q, by decide, by decide⟩
theorem n_r127 (g : Nat → ClassId) (q : Nat → Nat) : q_isRow (msh g q) g 127 264 := ⟨n_s127 g q, by decide, by decide⟩
theorem n_r128 (g : Nat → ClassId) (q : Nat → Nat) : q_isRow (msh g q) g 128 264 := ⟨n_s128 g q, by decide, by decide⟩
theorem n_r129 (g : Nat → ClassId) (q : Nat → Nat) : q_isRow (msh g q) g 129 264 := ⟨n_s129 g q, by decide, by decide⟩
theorem n_r130 (g : Nat → ClassId) (q : Nat → Nat) : q_isRow (msh g q) g 130 264 := ⟨n_s130 g q, by decide, by decide⟩
theorem n_r131 (g : Nat → ClassId) (q : Nat → Nat) : q_isRow (msh g q) g 131 264 := ⟨n_s131 g q, by decide, by decide⟩
theorem n_r132 (g : Nat → ClassId) (q : Nat → Nat) : q_isRow (msh g q) g 132 264 := ⟨n_s132 g q, by decide, by decide⟩
theorem n_r133 (g : Nat → ClassId) (q : Nat → Nat) : q_isRow (msh g q) g 133 2100 := ⟨n_s133 g q, by decide, by decide⟩
theorem n_o134 {g : Nat → ClassId} {q : Nat → Nat} {ws : va_W} (h : q_I (msh g q) q ws) : ∃ (y0 : Int32) (y1 : Int32) (y2 : Int32) (y3 : Int64) (y4 : Int32) (y5 : Int32) (y6 : Int32) (y7 : Int32) (y8 : Int32) (y9 : Int32) (y10 : Int32), ws[134]? = (some (q 134, .inr (14, [.int y0, .ref (q 135), .int y1, .ref (q 136), .ref (q 137), .ref (q 138), .ref (q 139), .ref (q 140), .int y2, .long y3, .int y4, .int y5, .ref (q 141), .int y6, .ref (q 142), .int y7, .ref (q 143), .int y8, .ref (q 144), .int y9, .int y10])) : Option (Nat × va_E)) ∧ (0 ≤ y1.toInt ∧ y1.toInt ≤ 4100) ∧ (0 ≤ y4.toInt ∧ y4.toInt ≤ 1) ∧ (0 ≤ y5.toInt ∧ y5.toInt ≤ 1) ∧ (0 ≤ y9.toInt ∧ y9.toInt ≤ 12200) := by
  obtain ⟨E, h1, y0, y1, y2, y3, y4, y5, y6, y7, y8, y9, y10, rfl, b0, b1, b2, b3⟩ := h 134 _ (n_s134 g q)
  exact ⟨y0, y1, y2, y3, y4, y5, y6, y7, y8, y9, y10, h1, b0, b1, b2, b3⟩
theorem n_w134 {g : Nat → ClassId} {q : Nat → Nat} {ws : va_W} (h : q_I (msh g q) q ws) {y0 : Int32} {y1 : Int32} {y2 : Int32} {y3 : Int64} {y4 : Int32} {y5 : Int32} {y6 : Int32} {y7 : Int32} {y8 : Int32} {y9 : Int32} {y10 : Int32} (hx9 : ws[134]? = (some (q 134, .inr (14, [.int y0, .ref (q 135), .int y1, .ref (q 136), .ref (q 137), .ref (q 138), .ref (q 139), .ref (q 140), .int y2, .long y3, .int y4, .int y5, .ref (q 141), .int y6, .ref (q 142), .int y7, .ref (q 143), .int y8, .ref (q 144), .int y9, .int y10])) : Option (Nat × va_E))) : (0 ≤ y1.toInt ∧ y1.toInt ≤ 4100) ∧ (0 ≤ y4.toInt ∧ y4.toInt ≤ 1) ∧ (0 ≤ y5.toInt ∧ y5.toInt ≤ 1) ∧ (0 ≤ y9.toInt ∧ y9.toInt ≤ 12200) := by
  obtain ⟨z0, z1, z2, z3, z4, z5, z6, z7, z8, z9, z10, hh9, bb9⟩ := n_o134 h
  obtain ⟨rfl, rfl, rfl, rfl, rfl, rfl, rfl, rfl, rfl, rfl, rfl⟩ : y0 = z0 ∧ y1 = z1 ∧ y2 = z2 ∧ y3 = z3 ∧ y4 = z4 ∧ y5 = z5 ∧ y6 = z6 ∧ y7 = z7 ∧ y8 = z8 ∧ y9 = z9 ∧ y10 = z10 := by have z := Option.some.inj (hx9.symm.trans hh9); simpa using z
  exact bb9
theorem n_p134 {g : Nat → ClassId} {q : Nat → Nat} {ws u : va_W} {y0 : Int32} {y1 : Int32} {y2 : Int32} {y3 : Int64} {y4 : Int32} {y5 : Int32} {y6 : Int32} {y7 : Int32} {y8 : Int32} {y9 : Int32} {y10 : Int32} (h : q_I (msh g q) q ws) (hu : ∀ i, i ≠ 134 → u[i]? = ws[i]?) (hx : u[134]? = (some (q 134, .inr (14, [.int y0, .ref (q 135), .int y1, .ref (q 136), .ref (q 137), .ref (q 138), .ref (q 139), .ref (q 140), .int y2, .long y3, .int y4, .int y5, .ref (q 141), .int y6, .ref (q 142), .int y7, .ref (q 143), .int y8, .ref (q 144), .int y9, .int y10])) : Option (Nat × va_E))) (b0 : 0 ≤ y1.toInt ∧ y1.toInt ≤ 4100) (b1 : 0 ≤ y4.toInt ∧ y4.toInt ≤ 1) (b2 : 0 ≤ y5.toInt ∧ y5.toInt ≤ 1) (b3 : 0 ≤ y9.toInt ∧ y9.toInt ≤ 12200) : q_I (msh g q) q u := q_Iset h hu (n_s134 g q) hx ⟨y0, y1, y2, y3, y4, y5, y6, y7, y8, y9, y10, rfl, b0, b1, b2, b3⟩
theorem n_r135 (g : Nat → ClassId) (q : Nat → Nat) : q_isRow (msh g q) g 135 4100 := ⟨n_s135 g q, by decide, by decide⟩
theorem n_r136 (g : Nat → ClassId) (q : Nat → Nat) : q_isRow (msh g q) g 136 10000 := ⟨n_s136 g q, by decide, by decide⟩
theorem n_r137 (g : Nat → ClassId) (q : Nat → Nat) : q_isRow (msh g q) g 137 10 := ⟨n_s137 g q, by decide, by decide⟩
theorem n_r139 (g : Nat → ClassId) (q : Nat → Nat) : q_isRow (msh g q) g 139 10 := ⟨n_s139 g q, by decide, by decide⟩
theorem n_r140 (g : Nat → ClassId) (q : Nat → Nat) : q_isRow (msh g q) g 140 4400 := ⟨n_s140 g q, by decide, by decide⟩
theorem n_r141 (g : Nat → ClassId) (q : Nat → Nat) : q_isRow (msh g q) g 141 4400 := ⟨n_s141 g q, by decide, by decide⟩
theorem n_r142 (g : Nat → ClassId) (q : Nat → Nat) : q_isRow (msh g q) g 142 2200 := ⟨n_s142 g q, by decide, by decide⟩
theorem n_r143 (g : Nat → ClassId) (q : Nat → Nat) : q_isRow (msh g q) g 143 2202 := ⟨n_s143 g q, by decide, by decide⟩
theorem n_r144 (g : Nat → ClassId) (q : Nat → Nat) : q_isRow (msh g q) g 144 12200 := ⟨n_s144 g q, by decide, by decide⟩
theorem n_o145 {g : Nat → ClassId} {q : Nat → Nat} {ws : va_W} (h : q_I (msh g q) q ws) : ∃ (y0 : Int32) (y1 : Int32) (y2 : Int32) (y3 : Int32) (y4 : Int64) (y5 : Int32) (y6 : Int32) (y7 : Int64) (y8 : Int32) (y9 : Int64) (y10 : Int32), ws[145]? = (some (q 145, .inr (15, [.int y0, .ref (q 146), .ref (q 147), .ref (q 148), .ref (q 149), .ref (q 150), .ref (q 151), .ref (q 152), .int y1, .int y2, .int y3, .long y4, .int y5, .int y6, .long y7, .int y8, .long y9, .int y10])) : Option (Nat × va_E)) ∧ (0 ≤ y2.toInt ∧ y2.toInt ≤ 1) := by
  obtain ⟨E, h1, y0, y1, y2, y3, y4, y5, y6, y7, y8, y9, y10, rfl, b0⟩ := h 145 _ (n_s145 g q)
  exact ⟨y0, y1, y2, y3, y4, y5, y6, y7, y8, y9, y10, h1, b0⟩
theorem n_w145 {g : Nat → ClassId} {q : Nat → Nat} {ws : va_W} (h : q_I (msh g q) q ws) {y0 : Int32} {y1 : Int32} {y2 : Int32} {y3 : Int32} {y4 : Int64} {y5 : Int32} {y6 : Int32} {y7 : Int64} {y8 : Int32} {y9 : Int64} {y10 : Int32} (hx9 : ws[145]? = (some (q 145, .inr (15, [.int y0, .ref (q 146), .ref (q 147), .ref (q 148), .ref (q 149), .ref (q 150), .ref (q 151), .ref (q 152), .int y1, .int y2, .int y3, .long y4, .int y5, .int y6, .long y7, .int y8, .long y9, .int y10])) : Option (Nat × va_E))) : (0 ≤ y2.toInt ∧ y2.toInt ≤ 1) := by
  obtain ⟨z0, z1, z2, z3, z4, z5, z6, z7, z8, z9, z10, hh9, bb9⟩ := n_o145 h
  obtain ⟨rfl, rfl, rfl, rfl, rfl, rfl, rfl, rfl, rfl, rfl, rfl⟩ : y0 = z0 ∧ y1 = z1 ∧ y2 = z2 ∧ y3 = z3 ∧ y4 = z4 ∧ y5 = z5 ∧ y6 = z6 ∧ y7 = z7 ∧ y8 = z8 ∧ y9 = z9 ∧ y10 = z10 := by have z := Option.some.inj (hx9.symm.trans hh9); simpa using z
  exact bb9
theorem n_p145 {g : Nat → ClassId} {q : Nat → Nat} {ws u : va_W} {y0 : Int32} {y1 : Int32} {y2 : Int32} {y3 : Int32} {y4 : Int64} {y5 : Int32} {y6 : Int32} {y7 : Int64} {y8 : Int32} {y9 : Int64} {y10 : Int32} (h : q_I (msh g q) q ws) (hu : ∀ i, i ≠ 145 → u[i]? = ws[i]?) (hx : u[145]? = (some (q 145, .inr (15, [.int y0, .ref (q 146), .ref (q 147), .ref (q 148), .ref (q 149), .ref (q 150), .ref (q 151), .ref (q 152), .int y1, .int y2, .int y3, .long y4, .int y5, .int y6, .long y7, .int y8, .long y9, .int y10])) : Option (Nat × va_E))) (b0 : 0 ≤ y2.toInt ∧ y2.toInt ≤ 1) : q_I (msh g q) q u := q_Iset h hu (n_s145 g q) hx ⟨y0, y1, y2, y3, y4, y5, y6, y7, y8, y9, y10, rfl, b0⟩
theorem n_r146 (g : Nat → ClassId) (q : Nat → Nat) : q_isRow (msh g q) g 146 156 := ⟨n_s146 g q, by decide, by decide⟩
theorem n_r147 (g : Nat → ClassId) (q : Nat → Nat) : q_isRow (msh g q) g 147 156 := ⟨n_s147 g q, by decide, by decide⟩
theorem n_r148 (g : Nat → ClassId) (q : Nat → Nat) : q_isRow (msh g q) g 148 1404 := ⟨n_s148 g q, by decide, by decide⟩
theorem n_r149 (g : Nat → ClassId) (q : Nat → Nat) : q_isRow (msh g q) g 149 1404 := ⟨n_s149 g q, by decide, by decide⟩
theorem n_r150 (g : Nat → ClassId) (q : Nat → Nat) : q_isRow (msh g q) g 150 1404 := ⟨n_s150 g q, by decide, by decide⟩
theorem n_r151 (g : Nat → ClassId) (q : Nat → Nat) : q_isRow (msh g q) g 151 1404 := ⟨n_s151 g q, by decide, by decide⟩
theorem n_r152 (g : Nat → ClassId) (q : Nat → Nat) : q_isRow (msh g q) g 152 1600 := ⟨n_s152 g q, by decide, by decide⟩
theorem n_o153 {g : Nat → ClassId} {q : Nat → Nat} {ws : va_W} (h : q_I (msh g q) q ws) : ∃ (y0 : Int32) (y1 : Int32) (y2 : Int32) (y3 : Int32) (y4 : Int32) (y5 : Int32) (y6 : Int32) (y7 : Int64) (y8 : Int32) (y9 : Int32) (y10 : Int64) (y11 : Int64) (y12 : Int32) (y13 : Int32), ws[153]? = (some (q 153, .inr (16, [.int y0, .ref (q 154), .int y1, .int y2, .int y3, .int y4, .ref (q 155), .int y5, .int y6, .long y7, .ref (q 156), .int y8, .int y9, .long y10, .long y11, .int y12, .int y13])) : Option (Nat × va_E)) ∧ (0 ≤ y1.toInt ∧ y1.toInt ≤ 4100) ∧ (0 ≤ y4.toInt ∧ y4.toInt ≤ 1) ∧ (0 ≤ y13.toInt ∧ y13.toInt ≤ 1) := by
  obtain ⟨E, h1, y0, y1, y2, y3, y4, y5, y6, y7, y8, y9, y10, y11, y12, y13, rfl, b0, b1, b2⟩ := h 153 _ (n_s153 g q)
  exact ⟨y0, y1, y2, y3, y4, y5, y6, y7, y8, y9, y10, y11, y12, y13, h1, b0, b1, b2⟩
theorem n_w153 {g : Nat → ClassId} {q : Nat → Nat} {ws : va_W} (h : q_I (msh g q) q ws) {y0 : Int32} {y1 : Int32} {y2 : Int32} {y3 : Int32} {y4 : Int32} {y5 : Int32} {y6 : Int32} {y7 : Int64} {y8 : Int32} {y9 : Int32} {y10 : Int64} {y11 : Int64} {y12 : Int32} {y13 : Int32} (hx9 : ws[153]? = (some (q 153, .inr (16, [.int y0, .ref (q 154), .int y1, .int y2, .int y3, .int y4, .ref (q 155), .int y5, .int y6, .long y7, .ref (q 156), .int y8, .int y9, .long y10, .long y11, .int y12, .int y13])) : Option (Nat × va_E))) : (0 ≤ y1.toInt ∧ y1.toInt ≤ 4100) ∧ (0 ≤ y4.toInt ∧ y4.toInt ≤ 1) ∧ (0 ≤ y13.toInt ∧ y13.toInt ≤ 1) := by
  obtain ⟨z0, z1, z2, z3, z4, z5, z6, z7, z8, z9, z10, z11, z12, z13, hh9, bb9⟩ := n_o153 h
  obtain ⟨rfl, rfl, rfl, rfl, rfl, rfl, rfl, rfl, rfl, rfl, rfl, rfl, rfl, rfl⟩ : y0 = z0 ∧ y1 = z1 ∧ y2 = z2 ∧ y3 = z3 ∧ y4 = z4 ∧ y5 = z5 ∧ y6 = z6 ∧ y7 = z7 ∧ y8 = z8 ∧ y9 = z9 ∧ y10 = z10 ∧ y11 = z11 ∧ y12 = z12 ∧ y13 = z13 := by have z := Option.some.inj (hx9.symm.trans hh9); simpa using z
  exact bb9
theorem n_p153 {g : Nat → ClassId} {q : Nat → Nat} {ws u : va_W} {y0 : Int32} {y1 : Int32} {y2 : Int32} {y3 : Int32} {y4 : Int32} {y5 : Int32} {y6 : Int32} {y7 : Int64} {y8 : Int32} {y9 : Int32} {y10 : Int64} {y11 : Int64} {y12 : Int32} {y13 : Int32} (h : q_I (msh g q) q ws) (hu : ∀ i, i ≠ 153 → u[i]? = ws[i]?) (hx : u[153]? = (some (q 153, .inr (16, [.int y0, .ref (q 154), .int y1, .int y2, .int y3, .int y4, .ref (q 155), .int y5, .int y6, .long y7, .ref (q 156), .int y8, .int y9, .long y10, .long y11, .int y12, .int y13])) : Option (Nat × va_E))) (b0 : 0 ≤ y1.toInt ∧ y1.toInt ≤ 4100) (b1 : 0 ≤ y4.toInt ∧ y4.toInt ≤ 1) (b2 : 0 ≤ y13.toInt ∧ y13.toInt ≤ 1) : q_I (msh g q) q u := q_Iset h hu (n_s153 g q) hx ⟨y0, y1, y2, y3, y4, y5, y6, y7, y8, y9, y10, y11, y12, y13, rfl, b0, b1, b2⟩
theorem n_r154 (g : Nat → ClassId) (q : Nat → Nat) : q_isRow (msh g q) g 154 4100 := ⟨n_s154 g q, by decide, by decide⟩
theorem n_r155 (g : Nat → ClassId) (q : Nat → Nat) : q_isRow (msh g q) g 155 4100 := ⟨n_s155 g q, by decide, by decide⟩
theorem n_r156 (g : Nat → ClassId) (q : Nat → Nat) : q_isRow (msh g q) g 156 800 := ⟨n_s156 g q, by decide, by decide⟩
theorem n_o157 {g : Nat → ClassId} {q : Nat → Nat} {ws : va_W} (h : q_I (msh g q) q ws) : ∃ (y0 : Int32) (y1 : Int32) (y2 : Int32) (y3 : Int32) (y4 : Int32) (y5 : Int32) (y6 : Int32) (y7 : Int32) (y8 : Int32) (y9 : Int32) (y10 : Int32) (y11 : Int32) (y12 : Int32) (y13 : Int32) (y14 : Int32) (y15 : Int32) (y16 : Int32) (y17 : Int32) (y18 : Int32) (y19 : Int32) (y20 : Int32) (y21 : Int32), ws[157]? = (some (q 157, .inr (17, [.int y0, .ref (q 158), .int y1, .int y2, .ref (q 159), .ref (q 160), .ref (q 161), .ref (q 162), .ref (q 163), .int y3, .ref (q 164), .int y4, .int y5, .int y6, .int y7, .int y8, .int y9, .int y10, .int y11, .int y12, .int y13, .int y14, .int y15, .int y16, .ref (q 165), .int y17, .int y18, .int y19, .ref (q 166), .int y20, .int y21])) : Option (Nat × va_E)) ∧ (0 ≤ y1.toInt ∧ y1.toInt ≤ 256) ∧ (0 ≤ y2.toInt ∧ y2.toInt ≤ 9) ∧ (0 ≤ y3.toInt ∧ y3.toInt ≤ 4096) ∧ (0 ≤ y10.toInt ∧ y10.toInt ≤ 1) ∧ (0 ≤ y19.toInt ∧ y19.toInt ≤ 1) := by
  obtain ⟨E, h1, y0, y1, y2, y3, y4, y5, y6, y7, y8, y9, y10, y11, y12, y13, y14, y15, y16, y17, y18, y19, y20, y21, rfl, b0, b1, b2, b3, b4⟩ := h 157 _ (n_s157 g q)
  exact ⟨y0, y1, y2, y3, y4, y5, y6, y7, y8, y9, y10, y11, y12, y13, y14, y15, y16, y17, y18, y19, y20, y21, h1, b0, b1, b2, b3, b4⟩
theorem n_w157 {g : Nat → ClassId} {q : Nat → Nat} {ws : va_W} (h : q_I (msh g q) q ws) {y0 : Int32} {y1 : Int32} {y2 : Int32} {y3 : Int32} {y4 : Int32} {y5 : Int32} {y6 : Int32} {y7 : Int32} {y8 : Int32} {y9 : Int32} {y10 : Int32} {y11 : Int32} {y12 : Int32} {y13 : Int32} {y14 : Int32} {y15 : Int32} {y16 : Int32} {y17 : Int32} {y18 : Int32} {y19 : Int32} {y20 : Int32} {y21 : Int32} (hx9 : ws[157]? = (some (q 157, .inr (17, [.int y0, .ref (q 158), .int y1, .int y2, .ref (q 159), .ref (q 160), .ref (q 161), .ref (q 162), .ref (q 163), .int y3, .ref (q 164), .int y4, .int y5, .int y6, .int y7, .int y8, .int y9, .int y10, .int y11, .int y12, .int y13, .int y14, .int y15, .int y16, .ref (q 165), .int y17, .int y18, .int y19, .ref (q 166), .int y20, .int y21])) : Option (Nat × va_E))) : (0 ≤ y1.toInt ∧ y1.toInt ≤ 256) ∧ (0 ≤ y2.toInt ∧ y2.toInt ≤ 9) ∧ (0 ≤ y3.toInt ∧ y3.toInt ≤ 4096) ∧ (0 ≤ y10.toInt ∧ y10.toInt ≤ 1) ∧ (0 ≤ y19.toInt ∧ y19.toInt ≤ 1) := by
  obtain ⟨z0, z1, z2, z3, z4, z5, z6, z7, z8, z9, z10, z11, z12, z13, z14, z15, z16, z17, z18, z19, z20, z21, hh9, bb9⟩ := n_o157 h
  obtain ⟨rfl, rfl, rfl, rfl, rfl, rfl, rfl, rfl, rfl, rfl, rfl, rfl, rfl, rfl, rfl, rfl, rfl, rfl, rfl, rfl, rfl, rfl⟩ : y0 = z0 ∧ y1 = z1 ∧ y2 = z2 ∧ y3 = z3 ∧ y4 = z4 ∧ y5 = z5 ∧ y6 = z6 ∧ y7 = z7 ∧ y8 = z8 ∧ y9 = z9 ∧ y10 = z10 ∧ y11 = z11 ∧ y12 = z12 ∧ y13 = z13 ∧ y14 = z14 ∧ y15 = z15 ∧ y16 = z16 ∧ y17 = z17 ∧ y18 = z18 ∧ y19 = z19 ∧ y20 = z20 ∧ y21 = z21 := by have z := Option.some.inj (hx9.symm.trans hh9); simpa using z
  exact bb9
theorem n_p157 {g : Nat → ClassId} {q : Nat → Nat} {ws u : va_W} {y0 : Int32} {y1 : Int32} {y2 : Int32} {y3 : Int32} {y4 : Int32} {y5 : Int32} {y6 : Int32} {y7 : Int32} {y8 : Int32} {y9 : Int32} {y10 : Int32} {y11 : Int32} {y12 : Int32} {y13 : Int32} {y14 : Int32} {y15 : Int32} {y16 : Int32} {y17 : Int32} {y18 : Int32} {y19 : Int32} {y20 : Int32} {y21 : Int32} (h : q_I (msh g q) q ws) (hu : ∀ i, i ≠ 157 → u[i]? = ws[i]?) (hx : u[157]? = (some (q 157, .inr (17, [.int y0, .ref (q 158), .int y1, .int y2, .ref (q 159), .ref (q 160), .ref (q 161), .ref (q 162), .ref (q 163), .int y3, .ref (q 164), .int y4, .int y5, .int y6, .int y7, .int y8, .int y9, .int y10, .int y11, .int y12, .int y13, .int y14, .int y15, .int y16, .ref (q 165), .int y17, .int y18, .int y19, .ref (q 166), .int y20, .int y21])) : Option (Nat × va_E))) (b0 : 0 ≤ y1.toInt ∧ y1.toInt ≤ 256) (b1 : 0 ≤ y2.toInt ∧ y2.toInt ≤ 9) (b2 : 0 ≤ y3.toInt ∧ y3.toInt ≤ 4096) (b3 : 0 ≤ y10.toInt ∧ y10.toInt ≤ 1) (b4 : 0 ≤ y19.toInt ∧ y19.toInt ≤ 1) : q_I (msh g q) q u := q_Iset h hu (n_s157 g q) hx ⟨y0, y1, y2, y3, y4, y5, y6, y7, y8, y9, y10, y11, y12, y13, y14, y15, y16, y17, y18, y19, y20, y21, rfl, b0, b1, b2, b3, b4⟩
theorem n_r158 (g : Nat → ClassId) (q : Nat → Nat) : q_isRow (msh g q) g 158 256 := ⟨n_s158 g q, by decide, by decide⟩
theorem n_r159 (g : Nat → ClassId) (q : Nat → Nat) : q_isRow (msh g q) g 159 9 := ⟨n_s159 g q, by decide, by decide⟩
theorem n_r160 (g : Nat → ClassId) (q : Nat → Nat) : q_isRow (msh g q) g 160 9 := ⟨n_s160 g q, by decide, by decide⟩
theorem n_r162 (g : Nat → ClassId) (q : Nat → Nat) : q_isRow (msh g q) g 162 576 := ⟨n_s162 g q, by decide, by decide⟩
theorem n_r163 (g : Nat → ClassId) (q : Nat → Nat) : q_isRow (msh g q) g 163 4096 := ⟨n_s163 g q, by decide, by decide⟩
theorem n_r164 (g : Nat → ClassId) (q : Nat → Nat) : q_isRow (msh g q) g 164 4096 := ⟨n_s164 g q, by decide, by decide⟩
theorem n_r165 (g : Nat → ClassId) (q : Nat → Nat) : q_isRow (msh g q) g 165 20200 := ⟨n_s165 g q, by decide, by decide⟩
theorem n_r166 (g : Nat → ClassId) (q : Nat → Nat) : q_isRow (msh g q) g 166 64 := ⟨n_s166 g q, by decide, by decide⟩

