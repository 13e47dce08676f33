set_option maxRecDepth 100000 in
theorem CV_divide (l : Launch) (D : va_G) (g : Nat → ClassId) (q : Nat → Nat) (ws : va_W) (x2 : Int32) (x3 : Int32) (x4 : Int32) (x5 : Int32) (x6 : Int32) (i2 : Nat) (hi2 : i2 < 10) (i3 : Nat) (hi3 : i3 < 10) (i4 : Nat) (hi4 : i4 < 10) (e2 : x2.toNatClampNeg < 10 → i2 = x2.toNatClampNeg) (e3 : x3.toNatClampNeg < 10 → i3 = x3.toNatClampNeg) (e4 : x4.toNatClampNeg < 10 → i4 = x4.toNatClampNeg) (nei2i3 : i2 ≠ i3) (nei3i4 : i3 ≠ i4) (hlt : l.stackTraces = false) (hI : q_I (nsh g q) q ws) (hC : iC g q ws) : ∀ sz, q_Mx l y_NH_divide prog_1_method_13_code 6 none 9 4 24 D g [.ref (q 0), .int x2, .int x3, .int x4, .int x5, .int x6] ws sz (va_Qv (fun u => iP g q ws u) (q_B D g (va_A ws sz)) (va_A ws sz)) (fun E u => (∃ c : Int32, E = qE c ∧ (c = 1 ∨ c = 2)) ∧ iP g q ws u) := by
  intro sz
  obtain ⟨t0_0, t0_1, hT0, bT0⟩ := n_o30 hI
  obtain ⟨t1_0, t1_1, hT1, bT1⟩ := q_bigO hI (n_b10 g q)
  obtain ⟨t2_0, hT2, bT2⟩ := n_ai hI (n_s11 g q)
  obtain ⟨t3_0, t3_1, hT3, bT3⟩ := q_bigO hI (n_b12 g q)
  obtain ⟨t4_0, hT4, bT4⟩ := n_ai hI (n_s13 g q)
  obtain ⟨t5_0, t5_1, hT5, bT5⟩ := q_bigO hI (n_b22 g q)
  obtain ⟨t6_0, hT6, bT6⟩ := n_ai hI (n_s23 g q)
  obtain ⟨t7_0, t7_1, hT7, bT7⟩ := q_bigO hI (n_b20 g q)
  obtain ⟨t8_0, hT8, bT8⟩ := n_ai hI (n_s21 g q)
  obtain ⟨t9_0, t9_1, t10_0, t10_1, t11_0, hT9, hT10, hT11, vd2, hbd2⟩ := hC.2.1 i2 hi2
  obtain ⟨t12_0, t12_1, t13_0, t13_1, t14_0, hT12, hT13, hT14, vd3, hbd3⟩ := hC.2.1 i3 hi3
  obtain ⟨t15_0, t15_1, t16_0, t16_1, t17_0, hT15, hT16, hT17, vd4, hbd4⟩ := hC.2.1 i4 hi4
  have hq := T_divide (x2 := x2) (x3 := x3) (x4 := x4) (x5 := x5) (x6 := x6) (t0_0 := t0_0) (t0_1 := t0_1) (t1_0 := t1_0) (t1_1 := t1_1) (t2_0 := t2_0) (t3_0 := t3_0) (t3_1 := t3_1) (t4_0 := t4_0) (t5_0 := t5_0) (t5_1 := t5_1) (t6_0 := t6_0) (t7_0 := t7_0) (t7_1 := t7_1) (t8_0 := t8_0) (t9_0 := t9_0) (t9_1 := t9_1) (t10_0 := t10_0) (t10_1 := t10_1) (t11_0 := t11_0) (t12_0 := t12_0) (t12_1 := t12_1) (t13_0 := t13_0) (t13_1 := t13_1) (t14_0 := t14_0) (t15_0 := t15_0) (t15_1 := t15_1) (t16_0 := t16_0) (t16_1 := t16_1) (t17_0 := t17_0) hbd2 hbd3 ⟨_, hbd4⟩
  refine q_MxV (X_NH_divide l D g q ws x2 x3 x4 x5 x6 (68 + 5 * i2) (n_d g q hi2) (by omega) (fun h => by have z := e2 h; omega) (68 + 5 * i3) (n_d g q hi3) (by omega) (fun h => by have z := e3 h; omega) (68 + 5 * i4) (n_d g q hi4) (by omega) (fun h => by have z := e4 h; omega) (by omega) (by omega) (by omega) (by omega) (by omega) (by omega) (by omega) (by omega) (by omega) (by omega) hlt hI t0_0 t0_1 hT0 t1_0 t1_1 hT1 t2_0 hT2 t3_0 t3_1 hT3 t4_0 hT4 t5_0 t5_1 hT5 t6_0 hT6 t7_0 t7_1 hT7 t8_0 hT8 t9_0 t9_1 hT9 t10_0 t10_1 hT10 t11_0 hT11 t12_0 t12_1 hT12 t13_0 t13_1 hT13 t14_0 hT14 t15_0 t15_1 hT15 t16_0 t16_1 hT16 t17_0 hT17 ⟨trivial, hq.1⟩ sz) ?_ ?_
  · rintro u ⟨hI2, hun, u0_0, u0_1, u1_0, u1_1, u2_0, u3_0, u3_1, u4_0, u5_0, u5_1, u6_0, u7_0, u7_1, u8_0, u13_0, u13_1, u14_0, u15_0, u15_1, u16_0, u16_1, u17_0, hU0, hU1, hU2, hU3, hU4, hU5, hU6, hU7, hU8, hU9, hU10, hU11, hU12, hU13, hR⟩
    have hF := hR.2.2.2.2.2.2.2.2.2.2.2.2.2.2.2.2.2.2.2.2.2.2.2.2.2.2.2.2.2.2.2.2.2.2.2.2.2.2.2.2.2.2.2.2.2.2.2.2.2.2.2.2.2.2.2.2.2.2.2.2.2.2.2.2.2.2.2.2.2.2.2.2.2.2.2.2.2.2.2.2.2.2.2.2.2.2.2.2.2.2.2.2.2.2.2.2.2.2.2.2.2.2.2.2.2.2.2.2
    have hp := hq.2
    rw [← hF] at hp
    refine ⟨hI2, ⟨fun i hi => ?_, fun i hi => ?_, ?_⟩, fun i hi => hun i (by simp only [List.mem_cons, List.not_mem_nil, or_false, not_or]; omega)⟩
    · exact iW_fr (hC.1 i hi) (hun _ (by simp only [List.mem_cons, List.not_mem_nil, or_false, not_or]; omega)) (hun _ (by simp only [List.mem_cons, List.not_mem_nil, or_false, not_or]; omega))
    · by_cases hd3 : i = i3
      · rw [hd3]; refine ⟨_, _, _, _, _, ((hun _ (by simp only [List.mem_cons, List.not_mem_nil, or_false, not_or]; omega)).trans hT12), hU9, hU10, ?_⟩; first | exact ⟨_, hp.2⟩
      · by_cases hd4 : i = i4
        · rw [hd4]; refine ⟨_, _, _, _, _, hU11, hU12, hU13, ?_⟩; first | exact hp.1
        · exact iD_fr (hC.2.1 i hi) (hun _ (by simp only [List.mem_cons, List.not_mem_nil, or_false, not_or]; omega)) (hun _ (by simp only [List.mem_cons, List.not_mem_nil, or_false, not_or]; omega)) (hun _ (by simp only [List.mem_cons, List.not_mem_nil, or_false, not_or]; omega))
    · exact iO_fr hC.2.2 (hun _ (by simp only [List.mem_cons, List.not_mem_nil, or_false, not_or]; omega)) (hun _ (by simp only [List.mem_cons, List.not_mem_nil, or_false, not_or]; omega)) (hun _ (by simp only [List.mem_cons, List.not_mem_nil, or_false, not_or]; omega))
  · rintro E u ⟨c, hE, hc, hI2, hun, u0_0, u0_1, u1_0, u1_1, u2_0, u3_0, u3_1, u4_0, u5_0, u5_1, u6_0, u7_0, u7_1, u8_0, u13_0, u13_1, u14_0, u15_0, u15_1, u16_0, u16_1, u17_0, hU0, hU1, hU2, hU3, hU4, hU5, hU6, hU7, hU8, hU9, hU10, hU11, hU12, hU13, hF⟩
    have hp := hq.2
    rw [← hF] at hp
    have hk := K_NH_divide (x2 := x2) (x3 := x3) (x4 := x4) (x5 := x5) (x6 := x6) (t0_0 := t0_0) (t0_1 := t0_1) (t1_0 := t1_0) (t1_1 := t1_1) (t2_0 := t2_0) (t3_0 := t3_0) (t3_1 := t3_1) (t4_0 := t4_0) (t5_0 := t5_0) (t5_1 := t5_1) (t6_0 := t6_0) (t7_0 := t7_0) (t7_1 := t7_1) (t8_0 := t8_0) (t9_0 := t9_0) (t9_1 := t9_1) (t10_0 := t10_0) (t10_1 := t10_1) (t11_0 := t11_0) (t12_0 := t12_0) (t12_1 := t12_1) (t13_0 := t13_0) (t13_1 := t13_1) (t14_0 := t14_0) (t15_0 := t15_0) (t15_1 := t15_1) (t16_0 := t16_0) (t16_1 := t16_1) (t17_0 := t17_0)
    rw [← hF] at hk
    replace hk : kC12 c := hk
    refine ⟨⟨c, hE, hk.resolve_left hc⟩, hI2, ⟨fun i hi => ?_, fun i hi => ?_, ?_⟩, fun i hi => hun i (by simp only [List.mem_cons, List.not_mem_nil, or_false, not_or]; omega)⟩
    · exact iW_fr (hC.1 i hi) (hun _ (by simp only [List.mem_cons, List.not_mem_nil, or_false, not_or]; omega)) (hun _ (by simp only [List.mem_cons, List.not_mem_nil, or_false, not_or]; omega))
    · by_cases hd3 : i = i3
      · rw [hd3]; refine ⟨_, _, _, _, _, ((hun _ (by simp only [List.mem_cons, List.not_mem_nil, or_false, not_or]; omega)).trans hT12), hU9, hU10, ?_⟩; first | exact ⟨_, hp.2⟩
      · by_cases hd4 : i = i4
        · rw [hd4]; refine ⟨_, _, _, _, _, hU11, hU12, hU13, ?_⟩; first | exact hp.1
        · exact iD_fr (hC.2.1 i hi) (hun _ (by simp only [List.mem_cons, List.not_mem_nil, or_false, not_or]; omega)) (hun _ (by simp only [List.mem_cons, List.not_mem_nil, or_false, not_or]; omega)) (hun _ (by simp only [List.mem_cons, List.not_mem_nil, or_false, not_or]; omega))
    · exact iO_fr hC.2.2 (hun _ (by simp only [List.mem_cons, List.not_mem_nil, or_false, not_or]; omega)) (hun _ (by simp only [List.mem_cons, List.not_mem_nil, or_false, not_or]; omega)) (hun _ (by simp only [List.mem_cons, List.not_mem_nil, or_false, not_or]; omega))
set_option maxRecDepth 100000 in
theorem CV_divide_ab (l : Launch) (D : va_G) (g : Nat → ClassId) (q : Nat → Nat) (ws : va_W) (x2 : Int32) (x3 : Int32) (x4 : Int32) (x5 : Int32) (x6 : Int32) (i2 : Nat) (hi2 : i2 < 10) (i4 : Nat) (hi4 : i4 < 10) (e2 : x2.toNatClampNeg < 10 → i2 = x2.toNatClampNeg) (e3 : x3.toNatClampNeg < 10 → i2 = x3.toNatClampNeg) (e4 : x4.toNatClampNeg < 10 → i4 = x4.toNatClampNeg) (nei2i4 : i2 ≠ i4) (hlt : l.stackTraces = false) (hI : q_I (nsh g q) q ws) (hC : iC g q ws) : ∀ sz, q_Mx l y_NH_divide prog_1_method_13_code 6 none 9 4 24 D g [.ref (q 0), .int x2, .int x3, .int x4, .int x5, .int x6] ws sz (va_Qv (fun u => iP g q ws u) (q_B D g (va_A ws sz)) (va_A ws sz)) (fun E u => (∃ c : Int32, E = qE c ∧ (c = 1 ∨ c = 2)) ∧ iP g q ws u) := by
  intro sz
  obtain ⟨t0_0, t0_1, hT0, bT0⟩ := n_o30 hI
  obtain ⟨t1_0, t1_1, hT1, bT1⟩ := q_bigO hI (n_b10 g q)
  obtain ⟨t2_0, hT2, bT2⟩ := n_ai hI (n_s11 g q)
  obtain ⟨t3_0, t3_1, hT3, bT3⟩ := q_bigO hI (n_b12 g q)
  obtain ⟨t4_0, hT4, bT4⟩ := n_ai hI (n_s13 g q)
  obtain ⟨t5_0, t5_1, hT5, bT5⟩ := q_bigO hI (n_b22 g q)
  obtain ⟨t6_0, hT6, bT6⟩ := n_ai hI (n_s23 g q)
  obtain ⟨t7_0, t7_1, hT7, bT7⟩ := q_bigO hI (n_b20 g q)
  obtain ⟨t8_0, hT8, bT8⟩ := n_ai hI (n_s21 g q)
  obtain ⟨t9_0, t9_1, t10_0, t10_1, t11_0, hT9, hT10, hT11, vd2, hbd2⟩ := hC.2.1 i2 hi2
  obtain ⟨t12_0, t12_1, t13_0, t13_1, t14_0, hT12, hT13, hT14, vd4, hbd4⟩ := hC.2.1 i4 hi4
  have hq := T_divide_ab (x2 := x2) (x3 := x3) (x4 := x4) (x5 := x5) (x6 := x6) (t0_0 := t0_0) (t0_1 := t0_1) (t1_0 := t1_0) (t1_1 := t1_1) (t2_0 := t2_0) (t3_0 := t3_0) (t3_1 := t3_1) (t4_0 := t4_0) (t5_0 := t5_0) (t5_1 := t5_1) (t6_0 := t6_0) (t7_0 := t7_0) (t7_1 := t7_1) (t8_0 := t8_0) (t9_0 := t9_0) (t9_1 := t9_1) (t10_0 := t10_0) (t10_1 := t10_1) (t11_0 := t11_0) (t12_0 := t12_0) (t12_1 := t12_1) (t13_0 := t13_0) (t13_1 := t13_1) (t14_0 := t14_0) hbd2 ⟨_, hbd4⟩
  refine q_MxV (X_NH_divide_ab l D g q ws x2 x3 x4 x5 x6 (68 + 5 * i2) (n_d g q hi2) (by omega) (fun h => by have z := e2 h; omega) (fun h => by have z := e3 h; omega) (68 + 5 * i4) (n_d g q hi4) (by omega) (fun h => by have z := e4 h; omega) (by omega) (by omega) (by omega) (by omega) (by omega) hlt hI t0_0 t0_1 hT0 t1_0 t1_1 hT1 t2_0 hT2 t3_0 t3_1 hT3 t4_0 hT4 t5_0 t5_1 hT5 t6_0 hT6 t7_0 t7_1 hT7 t8_0 hT8 t9_0 t9_1 hT9 t10_0 t10_1 hT10 t11_0 hT11 t12_0 t12_1 hT12 t13_0 t13_1 hT13 t14_0 hT14 ⟨trivial, hq.1⟩ sz) ?_ ?_
  · rintro u ⟨hI2, hun, u0_0, u0_1, u1_0, u1_1, u2_0, u3_0, u3_1, u4_0, u5_0, u5_1, u6_0, u7_0, u7_1, u8_0, u10_0, u10_1, u11_0, u12_0, u12_1, u13_0, u13_1, u14_0, hU0, hU1, hU2, hU3, hU4, hU5, hU6, hU7, hU8, hU9, hU10, hU11, hU12, hU13, hR⟩
    have hF := hR.2.2.2.2.2.2.2.2.2.2.2.2.2.2.2.2.2.2.2.2.2.2.2.2.2.2.2.2.2.2.2.2.2.2.2.2.2.2.2.2.2.2.2.2.2.2.2.2.2.2.2.2.2.2.2.2.2.2.2.2.2.2.2.2.2.2.2.2.2.2.2.2.2.2.2.2.2.2.2.2.2.2.2.2.2.2.2.2.2.2.2.2.2.2.2.2.2.2.2.2.2.2.2.2.2.2.2.2
    have hp := hq.2
    rw [← hF] at hp
    refine ⟨hI2, ⟨fun i hi => ?_, fun i hi => ?_, ?_⟩, fun i hi => hun i (by simp only [List.mem_cons, List.not_mem_nil, or_false, not_or]; omega)⟩
    · exact iW_fr (hC.1 i hi) (hun _ (by simp only [List.mem_cons, List.not_mem_nil, or_false, not_or]; omega)) (hun _ (by simp only [List.mem_cons, List.not_mem_nil, or_false, not_or]; omega))
    · by_cases hd2 : i = i2
      · rw [hd2]; refine ⟨_, _, _, _, _, ((hun _ (by simp only [List.mem_cons, List.not_mem_nil, or_false, not_or]; omega)).trans hT9), hU9, hU10, ?_⟩; first | exact ⟨_, hp.2⟩
      · by_cases hd4 : i = i4
        · rw [hd4]; refine ⟨_, _, _, _, _, hU11, hU12, hU13, ?_⟩; first | exact hp.1
        · exact iD_fr (hC.2.1 i hi) (hun _ (by simp only [List.mem_cons, List.not_mem_nil, or_false, not_or]; omega)) (hun _ (by simp only [List.mem_cons, List.not_mem_nil, or_false, not_or]; omega)) (hun _ (by simp only [List.mem_cons, List.not_mem_nil, or_false, not_or]; omega))
    · exact iO_fr hC.2.2 (hun _ (by simp only [List.mem_cons, List.not_mem_nil, or_false, not_or]; omega)) (hun _ (by simp only [List.mem_cons, List.not_mem_nil, or_false, not_or]; omega)) (hun _ (by simp only [List.mem_cons, List.not_mem_nil, or_false, not_or]; omega))
  · rintro E u ⟨c, hE, hc, hI2, hun, u0_0, u0_1, u1_0, u1_1, u2_0, u3_0, u3_1, u4_0, u5_0, u5_1, u6_0, u7_0, u7_1, u8_0, u10_0, u10_1, u11_0, u12_0, u12_1, u13_0, u13_1, u14_0, hU0, hU1, hU2, hU3, hU4, hU5, hU6, hU7, hU8, hU9, hU10, hU11, hU12, hU13, hF⟩
    have hp := hq.2
    rw [← hF] at hp
    have hk := K_NH_divide_ab (x2 := x2) (x3 := x3) (x4 := x4) (x5 := x5) (x6 := x6) (t0_0 := t0_0) (t0_1 := t0_1) (t1_0 := t1_0) (t1_1 := t1_1) (t2_0 := t2_0) (t3_0 := t3_0) (t3_1 := t3_1) (t4_0 := t4_0) (t5_0 := t5_0) (t5_1 := t5_1) (t6_0 := t6_0) (t7_0 := t7_0) (t7_1 := t7_1) (t8_0 := t8_0) (t9_0 := t9_0) (t9_1 := t9_1) (t10_0 := t10_0) (t10_1 := t10_1) (t11_0 := t11_0) (t12_0 := t12_0) (t12_1 := t12_1) (t13_0 := t13_0) (t13_1 := t13_1) (t14_0 := t14_0)
    rw [← hF] at hk
    replace hk : kC12 c := hk
    refine ⟨⟨c, hE, hk.resolve_left hc⟩, hI2, ⟨fun i hi => ?_, fun i hi => ?_, ?_⟩, fun i hi => hun i (by simp only [List.mem_cons, List.not_mem_nil, or_false, not_or]; omega)⟩
    · exact iW_fr (hC.1 i hi) (hun _ (by simp only [List.mem_cons, List.not_mem_nil, or_false, not_or]; omega)) (hun _ (by simp only [List.mem_cons, List.not_mem_nil, or_false, not_or]; omega))
    · by_cases hd2 : i = i2
      · rw [hd2]; refine ⟨_, _, _, _, _, ((hun _ (by simp only [List.mem_cons, List.not_mem_nil, or_false, not_or]; omega)).trans hT9), hU9, hU10, ?_⟩; first | exact ⟨_, hp.2⟩
      · by_cases hd4 : i = i4
        · rw [hd4]; refine ⟨_, _, _, _, _, hU11, hU12, hU13, ?_⟩; first | exact hp.1
        · exact iD_fr (hC.2.1 i hi) (hun _ (by simp only [List.mem_cons, List.not_mem_nil, or_false, not_or]; omega)) (hun _ (by simp only [List.mem_cons, List.not_mem_nil, or_false, not_or]; omega)) (hun _ (by simp only [List.mem_cons, List.not_mem_nil, or_false, not_or]; omega))
    · exact iO_fr hC.2.2 (hun _ (by simp only [List.mem_cons, List.not_mem_nil, or_false, not_or]; omega)) (hun _ (by simp only [List.mem_cons, List.not_mem_nil, or_false, not_or]; omega)) (hun _ (by simp only [List.mem_cons, List.not_mem_nil, or_false, not_or]; omega))
set_option maxRecDepth 100000 in
theorem CV_divide_bt (l : Launch) (D : va_G) (g : Nat → ClassId) (q : Nat → Nat) (ws : va_W) (x2 : Int32) (x3 : Int32) (x4 : Int32) (x5 : Int32) (x6 : Int32) (i2 : Nat) (hi2 : i2 < 10) (i3 : Nat) (hi3 : i3 < 10) (e2 : x2.toNatClampNeg < 10 → i2 = x2.toNatClampNeg) (e3 : x3.toNatClampNeg < 10 → i3 = x3.toNatClampNeg) (e4 : x4.toNatClampNeg < 10 → i3 = x4.toNatClampNeg) (nei2i3 : i2 ≠ i3) (hlt : l.stackTraces = false) (hI : q_I (nsh g q) q ws) (hC : iC g q ws) : ∀ sz, q_Mx l y_NH_divide prog_1_method_13_code 6 none 9 4 24 D g [.ref (q 0), .int x2, .int x3, .int x4, .int x5, .int x6] ws sz (va_Qv (fun u => iP g q ws u) (q_B D g (va_A ws sz)) (va_A ws sz)) (fun E u => (∃ c : Int32, E = qE c ∧ (c = 1 ∨ c = 2)) ∧ iP g q ws u) := by
  intro sz
  obtain ⟨t0_0, t0_1, hT0, bT0⟩ := n_o30 hI
  obtain ⟨t1_0, t1_1, hT1, bT1⟩ := q_bigO hI (n_b10 g q)
  obtain ⟨t2_0, hT2, bT2⟩ := n_ai hI (n_s11 g q)
  obtain ⟨t3_0, t3_1, hT3, bT3⟩ := q_bigO hI (n_b12 g q)
  obtain ⟨t4_0, hT4, bT4⟩ := n_ai hI (n_s13 g q)
  obtain ⟨t5_0, t5_1, hT5, bT5⟩ := q_bigO hI (n_b22 g q)
  obtain ⟨t6_0, hT6, bT6⟩ := n_ai hI (n_s23 g q)
  obtain ⟨t7_0, t7_1, hT7, bT7⟩ := q_bigO hI (n_b20 g q)
  obtain ⟨t8_0, hT8, bT8⟩ := n_ai hI (n_s21 g q)
  obtain ⟨t9_0, t9_1, t10_0, t10_1, t11_0, hT9, hT10, hT11, vd2, hbd2⟩ := hC.2.1 i2 hi2
  obtain ⟨t12_0, t12_1, t13_0, t13_1, t14_0, hT12, hT13, hT14, vd3, hbd3⟩ := hC.2.1 i3 hi3
  have hq := T_divide_bt (x2 := x2) (x3 := x3) (x4 := x4) (x5 := x5) (x6 := x6) (t0_0 := t0_0) (t0_1 := t0_1) (t1_0 := t1_0) (t1_1 := t1_1) (t2_0 := t2_0) (t3_0 := t3_0) (t3_1 := t3_1) (t4_0 := t4_0) (t5_0 := t5_0) (t5_1 := t5_1) (t6_0 := t6_0) (t7_0 := t7_0) (t7_1 := t7_1) (t8_0 := t8_0) (t9_0 := t9_0) (t9_1 := t9_1) (t10_0 := t10_0) (t10_1 := t10_1) (t11_0 := t11_0) (t12_0 := t12_0) (t12_1 := t12_1) (t13_0 := t13_0) (t13_1 := t13_1) (t14_0 := t14_0) hbd2 hbd3
  refine q_MxV (X_NH_divide_bt l D g q ws x2 x3 x4 x5 x6 (68 + 5 * i2) (n_d g q hi2) (by omega) (fun h => by have z := e2 h; omega) (68 + 5 * i3) (n_d g q hi3) (by omega) (fun h => by have z := e3 h; omega) (fun h => by have z := e4 h; omega) (by omega) (by omega) (by omega) (by omega) (by omega) hlt hI t0_0 t0_1 hT0 t1_0 t1_1 hT1 t2_0 hT2 t3_0 t3_1 hT3 t4_0 hT4 t5_0 t5_1 hT5 t6_0 hT6 t7_0 t7_1 hT7 t8_0 hT8 t9_0 t9_1 hT9 t10_0 t10_1 hT10 t11_0 hT11 t12_0 t12_1 hT12 t13_0 t13_1 hT13 t14_0 hT14 ⟨trivial, hq.1⟩ sz) ?_ ?_
  · rintro u ⟨hI2, hun, u0_0, u0_1, u1_0, u1_1, u2_0, u3_0, u3_1, u4_0, u5_0, u5_1, u6_0, u7_0, u7_1, u8_0, u12_0, u12_1, u13_0, u13_1, u14_0, hU0, hU1, hU2, hU3, hU4, hU5, hU6, hU7, hU8, hU9, hU10, hU11, hR⟩
    have hF := hR.2.2.2.2.2.2.2.2.2.2.2.2.2.2.2.2.2.2.2.2.2.2.2.2.2.2.2.2.2.2.2.2.2.2.2.2.2.2.2.2.2.2.2.2.2.2.2.2.2.2.2.2.2.2.2.2.2.2.2.2.2.2.2.2.2.2.2.2.2.2.2.2.2.2.2.2.2.2.2.2.2.2.2.2.2.2.2.2.2.2.2.2.2.2.2
    have hp := hq.2
    rw [← hF] at hp
    refine ⟨hI2, ⟨fun i hi => ?_, fun i hi => ?_, ?_⟩, fun i hi => hun i (by simp only [List.mem_cons, List.not_mem_nil, or_false, not_or]; omega)⟩
    · exact iW_fr (hC.1 i hi) (hun _ (by simp only [List.mem_cons, List.not_mem_nil, or_false, not_or]; omega)) (hun _ (by simp only [List.mem_cons, List.not_mem_nil, or_false, not_or]; omega))
    · by_cases hd3 : i = i3
      · rw [hd3]; refine ⟨_, _, _, _, _, hU9, hU10, hU11, ?_⟩; first | exact hp
      · exact iD_fr (hC.2.1 i hi) (hun _ (by simp only [List.mem_cons, List.not_mem_nil, or_false, not_or]; omega)) (hun _ (by simp only [List.mem_cons, List.not_mem_nil, or_false, not_or]; omega)) (hun _ (by simp only [List.mem_cons, List.not_mem_nil, or_false, not_or]; omega))
    · exact iO_fr hC.2.2 (hun _ (by simp only [List.mem_cons, List.not_mem_nil, or_false, not_or]; omega)) (hun _ (by simp only [List.mem_cons, List.not_mem_nil, or_false, not_or]; omega)) (hun _ (by simp only [List.mem_cons, List.not_mem_nil, or_false, not_or]; omega))
  · rintro E u ⟨c, hE, hc, hI2, hun, u0_0, u0_1, u1_0, u1_1, u2_0, u3_0, u3_1, u4_0, u5_0, u5_1, u6_0, u7_0, u7_1, u8_0, u12_0, u12_1, u13_0, u13_1, u14_0, hU0, hU1, hU2, hU3, hU4, hU5, hU6, hU7, hU8, hU9, hU10, hU11, hF⟩
    have hp := hq.2
    rw [← hF] at hp
    have hk := K_NH_divide_bt (x2 := x2) (x3 := x3) (x4 := x4) (x5 := x5) (x6 := x6) (t0_0 := t0_0) (t0_1 := t0_1) (t1_0 := t1_0) (t1_1 := t1_1) (t2_0 := t2_0) (t3_0 := t3_0) (t3_1 := t3_1) (t4_0 := t4_0) (t5_0 := t5_0) (t5_1 := t5_1) (t6_0 := t6_0) (t7_0 := t7_0) (t7_1 := t7_1) (t8_0 := t8_0) (t9_0 := t9_0) (t9_1 := t9_1) (t10_0 := t10_0) (t10_1 := t10_1) (t11_0 := t11_0) (t12_0 := t12_0) (t12_1 := t12_1) (t13_0 := t13_0) (t13_1 := t13_1) (t14_0 := t14_0)
    rw [← hF] at hk
    replace hk : kC12 c := hk
    refine ⟨⟨c, hE, hk.resolve_left hc⟩, hI2, ⟨fun i hi => ?_, fun i hi => ?_, ?_⟩, fun i hi => hun i (by simp only [List.mem_cons, List.not_mem_nil, or_false, not_or]; omega)⟩
    · exact iW_fr (hC.1 i hi) (hun _ (by simp only [List.mem_cons, List.not_mem_nil, or_false, not_or]; omega)) (hun _ (by simp only [List.mem_cons, List.not_mem_nil, or_false, not_or]; omega))
    · by_cases hd3 : i = i3
      · rw [hd3]; refine ⟨_, _, _, _, _, hU9, hU10, hU11, ?_⟩; first | exact hp
      · exact iD_fr (hC.2.1 i hi) (hun _ (by simp only [List.mem_cons, List.not_mem_nil, or_false, not_or]; omega)) (hun _ (by simp only [List.mem_cons, List.not_mem_nil, or_false, not_or]; omega)) (hun _ (by simp only [List.mem_cons, List.not_mem_nil, or_false, not_or]; omega))
    · exact iO_fr hC.2.2 (hun _ (by simp only [List.mem_cons, List.not_mem_nil, or_false, not_or]; omega)) (hun _ (by simp only [List.mem_cons, List.not_mem_nil, or_false, not_or]; omega)) (hun _ (by simp only [List.mem_cons, List.not_mem_nil, or_false, not_or]; omega))
set_option maxRecDepth 100000 in
theorem CV_divide_abt (l : Launch) (D : va_G) (g : Nat → ClassId) (q : Nat → Nat) (ws : va_W) (x2 : Int32) (x3 : Int32) (x4 : Int32) (x5 : Int32) (x6 : Int32) (i2 : Nat) (hi2 : i2 < 10) (e2 : x2.toNatClampNeg < 10 → i2 = x2.toNatClampNeg) (e3 : x3.toNatClampNeg < 10 → i2 = x3.toNatClampNeg) (e4 : x4.toNatClampNeg < 10 → i2 = x4.toNatClampNeg) (hlt : l.stackTraces = false) (hI : q_I (nsh g q) q ws) (hC : iC g q ws) : ∀ sz, q_Mx l y_NH_divide prog_1_method_13_code 6 none 9 4 24 D g [.ref (q 0), .int x2, .int x3, .int x4, .int x5, .int x6] ws sz (va_Qv (fun u => iP g q ws u) (q_B D g (va_A ws sz)) (va_A ws sz)) (fun E u => (∃ c : Int32, E = qE c ∧ (c = 1 ∨ c = 2)) ∧ iP g q ws u) := by
  intro sz
  obtain ⟨t0_0, t0_1, hT0, bT0⟩ := n_o30 hI
  obtain ⟨t1_0, t1_1, hT1, bT1⟩ := q_bigO hI (n_b10 g q)
  obtain ⟨t2_0, hT2, bT2⟩ := n_ai hI (n_s11 g q)
  obtain ⟨t3_0, t3_1, hT3, bT3⟩ := q_bigO hI (n_b12 g q)
  obtain ⟨t4_0, hT4, bT4⟩ := n_ai hI (n_s13 g q)
  obtain ⟨t5_0, t5_1, hT5, bT5⟩ := q_bigO hI (n_b22 g q)
  obtain ⟨t6_0, hT6, bT6⟩ := n_ai hI (n_s23 g q)
  obtain ⟨t7_0, t7_1, hT7, bT7⟩ := q_bigO hI (n_b20 g q)
  obtain ⟨t8_0, hT8, bT8⟩ := n_ai hI (n_s21 g q)
  obtain ⟨t9_0, t9_1, t10_0, t10_1, t11_0, hT9, hT10, hT11, vd2, hbd2⟩ := hC.2.1 i2 hi2
  have hq := T_divide_abt (x2 := x2) (x3 := x3) (x4 := x4) (x5 := x5) (x6 := x6) (t0_0 := t0_0) (t0_1 := t0_1) (t1_0 := t1_0) (t1_1 := t1_1) (t2_0 := t2_0) (t3_0 := t3_0) (t3_1 := t3_1) (t4_0 := t4_0) (t5_0 := t5_0) (t5_1 := t5_1) (t6_0 := t6_0) (t7_0 := t7_0) (t7_1 := t7_1) (t8_0 := t8_0) (t9_0 := t9_0) (t9_1 := t9_1) (t10_0 := t10_0) (t10_1 := t10_1) (t11_0 := t11_0) hbd2
  refine q_MxV (X_NH_divide_abt l D g q ws x2 x3 x4 x5 x6 (68 + 5 * i2) (n_d g q hi2) (by omega) (fun h => by have z := e2 h; omega) (fun h => by have z := e3 h; omega) (fun h => by have z := e4 h; omega) hlt hI t0_0 t0_1 hT0 t1_0 t1_1 hT1 t2_0 hT2 t3_0 t3_1 hT3 t4_0 hT4 t5_0 t5_1 hT5 t6_0 hT6 t7_0 t7_1 hT7 t8_0 hT8 t9_0 t9_1 hT9 t10_0 t10_1 hT10 t11_0 hT11 ⟨trivial, hq.1⟩ sz) ?_ ?_
  · rintro u ⟨hI2, hun, u0_0, u0_1, u1_0, u1_1, u2_0, u3_0, u3_1, u4_0, u5_0, u5_1, u6_0, u7_0, u7_1, u8_0, u9_0, u9_1, u10_0, u10_1, u11_0, hU0, hU1, hU2, hU3, hU4, hU5, hU6, hU7, hU8, hU9, hU10, hU11, hR⟩
    have hF := hR.2.2.2.2.2.2.2.2.2.2.2.2.2.2.2.2.2.2.2.2.2.2.2.2.2.2.2.2.2.2.2.2.2.2.2.2.2.2.2.2.2.2.2.2.2.2.2.2.2.2.2.2.2.2.2.2.2.2.2.2.2.2.2.2.2.2.2.2.2.2.2.2.2.2.2.2.2.2.2.2.2.2.2.2.2.2.2.2.2.2.2.2.2.2.2
    have hp := hq.2
    rw [← hF] at hp
    refine ⟨hI2, ⟨fun i hi => ?_, fun i hi => ?_, ?_⟩, fun i hi => hun i (by simp only [List.mem_cons, List.not_mem_nil, or_false, not_or]; omega)⟩
    · exact iW_fr (hC.1 i hi) (hun _ (by simp only [List.mem_cons, List.not_mem_nil, or_false, not_or]; omega)) (hun _ (by simp only [List.mem_cons, List.not_mem_nil, or_false, not_or]; omega))
    · by_cases hd2 : i = i2
      · rw [hd2]; refine ⟨_, _, _, _, _, hU9, hU10, hU11, ?_⟩; first | exact hp
      · exact iD_fr (hC.2.1 i hi) (hun _ (by simp only [List.mem_cons, List.not_mem_nil, or_false, not_or]; omega)) (hun _ (by simp only [List.mem_cons, List.not_mem_nil, or_false, not_or]; omega)) (hun _ (by simp only [List.mem_cons, List.not_mem_nil, or_false, not_or]; omega))
    · exact iO_fr hC.2.2 (hun _ (by simp only [List.mem_cons, List.not_mem_nil, or_false, not_or]; omega)) (hun _ (by simp only [List.mem_cons, List.not_mem_nil, or_false, not_or]; omega)) (hun _ (by simp only [List.mem_cons, List.not_mem_nil, or_false, not_or]; omega))
  · rintro E u ⟨c, hE, hc, hI2, hun, u0_0, u0_1, u1_0, u1_1, u2_0, u3_0, u3_1, u4_0, u5_0, u5_1, u6_0, u7_0, u7_1, u8_0, u9_0, u9_1, u10_0, u10_1, u11_0, hU0, hU1, hU2, hU3, hU4, hU5, hU6, hU7, hU8, hU9, hU10, hU11, hF⟩
    have hp := hq.2
    rw [← hF] at hp
    have hk := K_NH_divide_abt (x2 := x2) (x3 := x3) (x4 := x4) (x5 := x5) (x6 := x6) (t0_0 := t0_0) (t0_1 := t0_1) (t1_0 := t1_0) (t1_1 := t1_1) (t2_0 := t2_0) (t3_0 := t3_0) (t3_1 := t3_1) (t4_0 := t4_0) (t5_0 := t5_0) (t5_1 := t5_1) (t6_0 := t6_0) (t7_0 := t7_0) (t7_1 := t7_1) (t8_0 := t8_0) (t9_0 := t9_0) (t9_1 := t9_1) (t10_0 := t10_0) (t10_1 := t10_1) (t11_0 := t11_0)
    rw [← hF] at hk
    replace hk : kC12 c := hk
    refine ⟨⟨c, hE, hk.resolve_left hc⟩, hI2, ⟨fun i hi => ?_, fun i hi => ?_, ?_⟩, fun i hi => hun i (by simp only [List.mem_cons, List.not_mem_nil, or_false, not_or]; omega)⟩
    · exact iW_fr (hC.1 i hi) (hun _ (by simp only [List.mem_cons, List.not_mem_nil, or_false, not_or]; omega)) (hun _ (by simp only [List.mem_cons, List.not_mem_nil, or_false, not_or]; omega))
    · by_cases hd2 : i = i2
      · rw [hd2]; refine ⟨_, _, _, _, _, hU9, hU10, hU11, ?_⟩; first | exact hp
      · exact iD_fr (hC.2.1 i hi) (hun _ (by simp only [List.mem_cons, List.not_mem_nil, or_false, not_or]; omega)) (hun _ (by simp only [List.mem_cons, List.not_mem_nil, or_false, not_or]; omega)) (hun _ (by simp only [List.mem_cons, List.not_mem_nil, or_false, not_or]; omega))
    · exact iO_fr hC.2.2 (hun _ (by simp only [List.mem_cons, List.not_mem_nil, or_false, not_or]; omega)) (hun _ (by simp only [List.mem_cons, List.not_mem_nil, or_false, not_or]; omega)) (hun _ (by simp only [List.mem_cons, List.not_mem_nil, or_false, not_or]; omega))
set_option maxRecDepth 100000 in
theorem CV_quotient (l : Launch) (D : va_G) (g : Nat → ClassId) (q : Nat → Nat) (ws : va_W) (x2 : Int32) (x3 : Int32) (x4 : Int32) (x5 : Int32) (x6 : Int32) (i2 : Nat) (hi2 : i2 < 10) (i3 : Nat) (hi3 : i3 < 10) (i4 : Nat) (hi4 : i4 < 10) (e2 : x2.toNatClampNeg < 10 → i2 = x2.toNatClampNeg) (e3 : x3.toNatClampNeg < 10 → i3 = x3.toNatClampNeg) (e4 : x4.toNatClampNeg < 10 → i4 = x4.toNatClampNeg) (nei2i3 : i2 ≠ i3) (nei3i4 : i3 ≠ i4) (hlt : l.stackTraces = false) (hI : q_I (nsh g q) q ws) (hC : iC g q ws) : ∀ sz, q_Mx l y_NH_quotient prog_1_method_14_code 6 none 9 5 30 D g [.ref (q 0), .int x2, .int x3, .int x4, .int x5, .int x6] ws sz (va_Qv (fun u => iP g q ws u) (q_B D g (va_A ws sz)) (va_A ws sz)) (fun E u => (∃ c : Int32, E = qE c ∧ (c = 1 ∨ c = 2)) ∧ iP g q ws u) := by
  intro sz
  obtain ⟨t0_0, t0_1, hT0, bT0⟩ := n_o30 hI
  obtain ⟨t1_0, t1_1, hT1, bT1⟩ := q_bigO hI (n_b10 g q)
  obtain ⟨t2_0, hT2, bT2⟩ := n_ai hI (n_s11 g q)
  obtain ⟨t3_0, t3_1, hT3, bT3⟩ := q_bigO hI (n_b12 g q)
  obtain ⟨t4_0, hT4, bT4⟩ := n_ai hI (n_s13 g q)
  obtain ⟨t5_0, t5_1, hT5, bT5⟩ := q_bigO hI (n_b22 g q)
  obtain ⟨t6_0, hT6, bT6⟩ := n_ai hI (n_s23 g q)
  obtain ⟨t7_0, t7_1, hT7, bT7⟩ := q_bigO hI (n_b20 g q)
  obtain ⟨t8_0, hT8, bT8⟩ := n_ai hI (n_s21 g q)
  obtain ⟨t9_0, t9_1, t10_0, t10_1, t11_0, hT9, hT10, hT11, vd2, hbd2⟩ := hC.2.1 i2 hi2
  obtain ⟨t12_0, t12_1, t13_0, t13_1, t14_0, hT12, hT13, hT14, vd3, hbd3⟩ := hC.2.1 i3 hi3
  obtain ⟨t15_0, t15_1, t16_0, t16_1, t17_0, hT15, hT16, hT17, vd4, hbd4⟩ := hC.2.1 i4 hi4
  have hq := T_quotient (x2 := x2) (x3 := x3) (x4 := x4) (x5 := x5) (x6 := x6) (t0_0 := t0_0) (t0_1 := t0_1) (t1_0 := t1_0) (t1_1 := t1_1) (t2_0 := t2_0) (t3_0 := t3_0) (t3_1 := t3_1) (t4_0 := t4_0) (t5_0 := t5_0) (t5_1 := t5_1) (t6_0 := t6_0) (t7_0 := t7_0) (t7_1 := t7_1) (t8_0 := t8_0) (t9_0 := t9_0) (t9_1 := t9_1) (t10_0 := t10_0) (t10_1 := t10_1) (t11_0 := t11_0) (t12_0 := t12_0) (t12_1 := t12_1) (t13_0 := t13_0) (t13_1 := t13_1) (t14_0 := t14_0) (t15_0 := t15_0) (t15_1 := t15_1) (t16_0 := t16_0) (t16_1 := t16_1) (t17_0 := t17_0) hbd2 hbd3 ⟨_, hbd4⟩
  refine q_MxV (X_NH_quotient l D g q ws x2 x3 x4 x5 x6 (68 + 5 * i2) (n_d g q hi2) (by omega) (fun h => by have z := e2 h; omega) (68 + 5 * i3) (n_d g q hi3) (by omega) (fun h => by have z := e3 h; omega) (68 + 5 * i4) (n_d g q hi4) (by omega) (fun h => by have z := e4 h; omega) (by omega) (by omega) (by omega) (by omega) (by omega) (by omega) (by omega) (by omega) (by omega) (by omega) hlt hI t0_0 t0_1 hT0 t1_0 t1_1 hT1 t2_0 hT2 t3_0 t3_1 hT3 t4_0 hT4 t5_0 t5_1 hT5 t6_0 hT6 t7_0 t7_1 hT7 t8_0 hT8 t9_0 t9_1 hT9 t10_0 t10_1 hT10 t11_0 hT11 t12_0 t12_1 hT12 t13_0 t13_1 hT13 t14_0 hT14 t15_0 t15_1 hT15 t16_0 t16_1 hT16 t17_0 hT17 ⟨trivial, hq.1⟩ sz) ?_ ?_
  · rintro u ⟨hI2, hun, u0_0, u0_1, u1_0, u1_1, u2_0, u3_0, u3_1, u4_0, u5_0, u5_1, u6_0, u7_0, u7_1, u8_0, u13_0, u13_1, u14_0, u15_0, u15_1, u16_0, u16_1, u17_0, hU0, hU1, hU2, hU3, hU4, hU5, hU6, hU7, hU8, hU9, hU10, hU11, hU12, hU13, hR⟩
    have hF := hR.2.2.2.2.2.2.2.2.2.2.2.2.2.2.2.2.2.2.2.2.2.2.2.2.2.2.2.2.2.2.2.2.2.2.2.2.2.2.2.2.2.2.2.2.2.2.2.2.2.2.2.2.2.2.2.2.2.2.2.2.2.2.2.2.2.2.2.2.2.2.2.2.2.2.2.2.2.2.2.2.2.2.2.2.2.2.2.2.2.2.2.2.2.2.2.2.2.2.2.2.2.2.2.2.2.2
    have hp := hq.2
    rw [← hF] at hp
    refine ⟨hI2, ⟨fun i hi => ?_, fun i hi => ?_, ?_⟩, fun i hi => hun i (by simp only [List.mem_cons, List.not_mem_nil, or_false, not_or]; omega)⟩
    · exact iW_fr (hC.1 i hi) (hun _ (by simp only [List.mem_cons, List.not_mem_nil, or_false, not_or]; omega)) (hun _ (by simp only [List.mem_cons, List.not_mem_nil, or_false, not_or]; omega))
    · by_cases hd3 : i = i3
      · rw [hd3]; refine ⟨_, _, _, _, _, ((hun _ (by simp only [List.mem_cons, List.not_mem_nil, or_false, not_or]; omega)).trans hT12), hU9, hU10, ?_⟩; first | exact ⟨_, hp.2⟩
      · by_cases hd4 : i = i4
        · rw [hd4]; refine ⟨_, _, _, _, _, hU11, hU12, hU13, ?_⟩; first | exact hp.1
        · exact iD_fr (hC.2.1 i hi) (hun _ (by simp only [List.mem_cons, List.not_mem_nil, or_false, not_or]; omega)) (hun _ (by simp only [List.mem_cons, List.not_mem_nil, or_false, not_or]; omega)) (hun _ (by simp only [List.mem_cons, List.not_mem_nil, or_false, not_or]; omega))
    · exact iO_fr hC.2.2 (hun _ (by simp only [List.mem_cons, List.not_mem_nil, or_false, not_or]; omega)) (hun _ (by simp only [List.mem_cons, List.not_mem_nil, or_false, not_or]; omega)) (hun _ (by simp only [List.mem_cons, List.not_mem_nil, or_false, not_or]; omega))
  · rintro E u ⟨c, hE, hc, hI2, hun, u0_0, u0_1, u1_0, u1_1, u2_0, u3_0, u3_1, u4_0, u5_0, u5_1, u6_0, u7_0, u7_1, u8_0, u13_0, u13_1, u14_0, u15_0, u15_1, u16_0, u16_1, u17_0, hU0, hU1, hU2, hU3, hU4, hU5, hU6, hU7, hU8, hU9, hU10, hU11, hU12, hU13, hF⟩
    have hp := hq.2
    rw [← hF] at hp
    have hk := K_NH_quotient (x2 := x2) (x3 := x3) (x4 := x4) (x5 := x5) (x6 := x6) (t0_0 := t0_0) (t0_1 := t0_1) (t1_0 := t1_0) (t1_1 := t1_1) (t2_0 := t2_0) (t3_0 := t3_0) (t3_1 := t3_1) (t4_0 := t4_0) (t5_0 := t5_0) (t5_1 := t5_1) (t6_0 := t6_0) (t7_0 := t7_0) (t7_1 := t7_1) (t8_0 := t8_0) (t9_0 := t9_0) (t9_1 := t9_1) (t10_0 := t10_0) (t10_1 := t10_1) (t11_0 := t11_0) (t12_0 := t12_0) (t12_1 := t12_1) (t13_0 := t13_0) (t13_1 := t13_1) (t14_0 := t14_0) (t15_0 := t15_0) (t15_1 := t15_1) (t16_0 := t16_0) (t16_1 := t16_1) (t17_0 := t17_0)
    rw [← hF] at hk
    replace hk : kC12 c := hk
    refine ⟨⟨c, hE, hk.resolve_left hc⟩, hI2, ⟨fun i hi => ?_, fun i hi => ?_, ?_⟩, fun i hi => hun i (by simp only [List.mem_cons, List.not_mem_nil, or_false, not_or]; omega)⟩
    · exact iW_fr (hC.1 i hi) (hun _ (by simp only [List.mem_cons, List.not_mem_nil, or_false, not_or]; omega)) (hun _ (by simp only [List.mem_cons, List.not_mem_nil, or_false, not_or]; omega))
    · by_cases hd3 : i = i3
      · rw [hd3]; refine ⟨_, _, _, _, _, ((hun _ (by simp only [List.mem_cons, List.not_mem_nil, or_false, not_or]; omega)).trans hT12), hU9, hU10, ?_⟩; first | exact ⟨_, hp.2⟩
      · by_cases hd4 : i = i4
        · rw [hd4]; refine ⟨_, _, _, _, _, hU11, hU12, hU13, ?_⟩; first | exact hp.1
        · exact iD_fr (hC.2.1 i hi) (hun _ (by simp only [List.mem_cons, List.not_mem_nil, or_false, not_or]; omega)) (hun _ (by simp only [List.mem_cons, List.not_mem_nil, or_false, not_or]; omega)) (hun _ (by simp only [List.mem_cons, List.not_mem_nil, or_false, not_or]; omega))
    · exact iO_fr hC.2.2 (hun _ (by simp only [List.mem_cons, List.not_mem_nil, or_false, not_or]; omega)) (hun _ (by simp only [List.mem_cons, List.not_mem_nil, or_false, not_or]; omega)) (hun _ (by simp only [List.mem_cons, List.not_mem_nil, or_false, not_or]; omega))
set_option maxRecDepth 100000 in
theorem CV_quotient_ab (l : Launch) (D : va_G) (g : Nat → ClassId) (q : Nat → Nat) (ws : va_W) (x2 : Int32) (x3 : Int32) (x4 : Int32) (x5 : Int32) (x6 : Int32) (i2 : Nat) (hi2 : i2 < 10) (i4 : Nat) (hi4 : i4 < 10) (e2 : x2.toNatClampNeg < 10 → i2 = x2.toNatClampNeg) (e3 : x3.toNatClampNeg < 10 → i2 = x3.toNatClampNeg) (e4 : x4.toNatClampNeg < 10 → i4 = x4.toNatClampNeg) (nei2i4 : i2 ≠ i4) (hlt : l.stackTraces = false) (hI : q_I (nsh g q) q ws) (hC : iC g q ws) : ∀ sz, q_Mx l y_NH_quotient prog_1_method_14_code 6 none 9 5 30 D g [.ref (q 0), .int x2, .int x3, .int x4, .int x5, .int x6] ws sz (va_Qv (fun u => iP g q ws u) (q_B D g (va_A ws sz)) (va_A ws sz)) (fun E u => (∃ c : Int32, E = qE c ∧ (c = 1 ∨ c = 2)) ∧ iP g q ws u) := by
  intro sz
  obtain ⟨t0_0, t0_1, hT0, bT0⟩ := n_o30 hI
  obtain ⟨t1_0, t1_1, hT1, bT1⟩ := q_bigO hI (n_b10 g q)
  obtain ⟨t2_0, hT2, bT2⟩ := n_ai hI (n_s11 g q)
  obtain ⟨t3_0, t3_1, hT3, bT3⟩ := q_bigO hI (n_b12 g q)
  obtain ⟨t4_0, hT4, bT4⟩ := n_ai hI (n_s13 g q)
  obtain ⟨t5_0, t5_1, hT5, bT5⟩ := q_bigO hI (n_b22 g q)
  obtain ⟨t6_0, hT6, bT6⟩ := n_ai hI (n_s23 g q)
  obtain ⟨t7_0, t7_1, hT7, bT7⟩ := q_bigO hI (n_b20 g q)
  obtain ⟨t8_0, hT8, bT8⟩ := n_ai hI (n_s21 g q)
  obtain ⟨t9_0, t9_1, t10_0, t10_1, t11_0, hT9, hT10, hT11, vd2, hbd2⟩ := hC.2.1 i2 hi2
  obtain ⟨t12_0, t12_1, t13_0, t13_1, t14_0, hT12, hT13, hT14, vd4, hbd4⟩ := hC.2.1 i4 hi4
  have hq := T_quotient_ab (x2 := x2) (x3 := x3) (x4 := x4) (x5 := x5) (x6 := x6) (t0_0 := t0_0) (t0_1 := t0_1) (t1_0 := t1_0) (t1_1 := t1_1) (t2_0 := t2_0) (t3_0 := t3_0) (t3_1 := t3_1) (t4_0 := t4_0) (t5_0 := t5_0) (t5_1 := t5_1) (t6_0 := t6_0) (t7_0 := t7_0) (t7_1 := t7_1) (t8_0 := t8_0) (t9_0 := t9_0) (t9_1 := t9_1) (t10_0 := t10_0) (t10_1 := t10_1) (t11_0 := t11_0) (t12_0 := t12_0) (t12_1 := t12_1) (t13_0 := t13_0) (t13_1 := t13_1) (t14_0 := t14_0) hbd2 ⟨_, hbd4⟩
  refine q_MxV (X_NH_quotient_ab l D g q ws x2 x3 x4 x5 x6 (68 + 5 * i2) (n_d g q hi2) (by omega) (fun h => by have z := e2 h; omega) (fun h => by have z := e3 h; omega) (68 + 5 * i4) (n_d g q hi4) (by omega) (fun h => by have z := e4 h; omega) (by omega) (by omega) (by omega) (by omega) (by omega) hlt hI t0_0 t0_1 hT0 t1_0 t1_1 hT1 t2_0 hT2 t3_0 t3_1 hT3 t4_0 hT4 t5_0 t5_1 hT5 t6_0 hT6 t7_0 t7_1 hT7 t8_0 hT8 t9_0 t9_1 hT9 t10_0 t10_1 hT10 t11_0 hT11 t12_0 t12_1 hT12 t13_0 t13_1 hT13 t14_0 hT14 ⟨trivial, hq.1⟩ sz) ?_ ?_
  · rintro u ⟨hI2, hun, u0_0, u0_1, u1_0, u1_1, u2_0, u3_0, u3_1, u4_0, u5_0, u5_1, u6_0, u7_0, u7_1, u8_0, u10_0, u10_1, u11_0, u12_0, u12_1, u13_0, u13_1, u14_0, hU0, hU1, hU2, hU3, hU4, hU5, hU6, hU7, hU8, hU9, hU10, hU11, hU12, hU13, hR⟩
    have hF := hR.2.2.2.2.2.2.2.2.2.2.2.2.2.2.2.2.2.2.2.2.2.2.2.2.2.2.2.2.2.2.2.2.2.2.2.2.2.2.2.2.2.2.2.2.2.2.2.2.2.2.2.2.2.2.2.2.2.2.2.2.2.2.2.2.2.2.2.2.2.2.2.2.2.2.2.2.2.2.2.2.2.2.2.2.2.2.2.2.2.2.2.2.2.2.2.2.2.2.2.2.2.2.2.2.2.2
    have hp := hq.2
    rw [← hF] at hp
    refine ⟨hI2, ⟨fun i hi => ?_, fun i hi => ?_, ?_⟩, fun i hi => hun i (by simp only [List.mem_cons, List.not_mem_nil, or_false, not_or]; omega)⟩
    · exact iW_fr (hC.1 i hi) (hun _ (by simp only [List.mem_cons, List.not_mem_nil, or_false, not_or]; omega)) (hun _ (by simp only [List.mem_cons, List.not_mem_nil, or_false, not_or]; omega))
    · by_cases hd2 : i = i2
      · rw [hd2]; refine ⟨_, _, _, _, _, ((hun _ (by simp only [List.mem_cons, List.not_mem_nil, or_false, not_or]; omega)).trans hT9), hU9, hU10, ?_⟩; first | exact ⟨_, hp.2⟩
      · by_cases hd4 : i = i4
        · rw [hd4]; refine ⟨_, _, _, _, _, hU11, hU12, hU13, ?_⟩; first | exact hp.1
        · exact iD_fr (hC.2.1 i hi) (hun _ (by simp only [List.mem_cons, List.not_mem_nil, or_false, not_or]; omega)) (hun _ (by simp only [List.mem_cons, List.not_mem_nil, or_false, not_or]; omega)) (hun _ (by simp only [List.mem_cons, List.not_mem_nil, or_false, not_or]; omega))
    · exact iO_fr hC.2.2 (hun _ (by simp only [List.mem_cons, List.not_mem_nil, or_false, not_or]; omega)) (hun _ (by simp only [List.mem_cons, List.not_mem_nil, or_false, not_or]; omega)) (hun _ (by simp only [List.mem_cons, List.not_mem_nil, or_false, not_or]; omega))
  · rintro E u ⟨c, hE, hc, hI2, hun, u0_0, u0_1, u1_0, u1_1, u2_0, u3_0, u3_1, u4_0, u5_0, u5_1, u6_0, u7_0, u7_1, u8_0, u10_0, u10_1, u11_0, u12_0, u12_1, u13_0, u13_1, u14_0, hU0, hU1, hU2, hU3, hU4, hU5, hU6, hU7, hU8, hU9, hU10, hU11, hU12, hU13, hF⟩
    have hp := hq.2
    rw [← hF] at hp
    have hk := K_NH_quotient_ab (x2 := x2) (x3 := x3) (x4 := x4) (x5 := x5) (x6 := x6) (t0_0 := t0_0) (t0_1 := t0_1) (t1_0 := t1_0) (t1_1 := t1_1) (t2_0 := t2_0) (t3_0 := t3_0) (t3_1 := t3_1) (t4_0 := t4_0) (t5_0 := t5_0) (t5_1 := t5_1) (t6_0 := t6_0) (t7_0 := t7_0) (t7_1 := t7_1) (t8_0 := t8_0) (t9_0 := t9_0) (t9_1 := t9_1) (t10_0 := t10_0) (t10_1 := t10_1) (t11_0 := t11_0) (t12_0 := t12_0) (t12_1 := t12_1) (t13_0 := t13_0) (t13_1 := t13_1) (t14_0 := t14_0)
    rw [← hF] at hk
    replace hk : kC12 c := hk
    refine ⟨⟨c, hE, hk.resolve_left hc⟩, hI2, ⟨fun i hi => ?_, fun i hi => ?_, ?_⟩, fun i hi => hun i (by simp only [List.mem_cons, List.not_mem_nil, or_false, not_or]; omega)⟩
    · exact iW_fr (hC.1 i hi) (hun _ (by simp only [List.mem_cons, List.not_mem_nil, or_false, not_or]; omega)) (hun _ (by simp only [List.mem_cons, List.not_mem_nil, or_false, not_or]; omega))
    · by_cases hd2 : i = i2
      · rw [hd2]; refine ⟨_, _, _, _, _, ((hun _ (by simp only [List.mem_cons, List.not_mem_nil, or_false, not_or]; omega)).trans hT9), hU9, hU10, ?_⟩; first | exact ⟨_, hp.2⟩
      · by_cases hd4 : i = i4
        · rw [hd4]; refine ⟨_, _, _, _, _, hU11, hU12, hU13, ?_⟩; first | exact hp.1
        · exact iD_fr (hC.2.1 i hi) (hun _ (by simp only [List.mem_cons, List.not_mem_nil, or_false, not_or]; omega)) (hun _ (by simp only [List.mem_cons, List.not_mem_nil, or_false, not_or]; omega)) (hun _ (by simp only [List.mem_cons, List.not_mem_nil, or_false, not_or]; omega))
    · exact iO_fr hC.2.2 (hun _ (by simp only [List.mem_cons, List.not_mem_nil, or_false, not_or]; omega)) (hun _ (by simp only [List.mem_cons, List.not_mem_nil, or_false, not_or]; omega)) (hun _ (by simp only [List.mem_cons, List.not_mem_nil, or_false, not_or]; omega))
set_option maxRecDepth 100000 in
theorem CV_quotient_bt (l : Launch) (D : va_G) (g : Nat → ClassId) (q : Nat → Nat) (ws : va_W) (x2 : Int32) (x3 : Int32) (x4 : Int32) (x5 : Int32) (x6 : Int32) (i2 : Nat) (hi2 : i2 < 10) (i3 : Nat) (hi3 : i3 < 10) (e2 : x2.toNatClampNeg < 10 → i2 = x2.toNatClampNeg) (e3 : x3.toNatClampNeg < 10 → i3 = x3.toNatClampNeg) (e4 : x4.toNatClampNeg < 10 → i3 = x4.toNatClampNeg) (nei2i3 : i2 ≠ i3) (hlt : l.stackTraces = false) (hI : q_I (nsh g q) q ws) (hC : iC g q ws) : ∀ sz, q_Mx l y_NH_quotient prog_1_method_14_code 6 none 9 5 30 D g [.ref (q 0), .int x2, .int x3, .int x4, .int x5, .int x6] ws sz (va_Qv (fun u => iP g q ws u) (q_B D g (va_A ws sz)) (va_A ws sz)) (fun E u => (∃ c : Int32, E = qE c ∧ (c = 1 ∨ c = 2)) ∧ iP g q ws u) := by
  intro sz
  obtain ⟨t0_0, t0_1, hT0, bT0⟩ := n_o30 hI
  obtain ⟨t1_0, t1_1, hT1, bT1⟩ := q_bigO hI (n_b10 g q)
  obtain ⟨t2_0, hT2, bT2⟩ := n_ai hI (n_s11 g q)
  obtain ⟨t3_0, t3_1, hT3, bT3⟩ := q_bigO hI (n_b12 g q)
  obtain ⟨t4_0, hT4, bT4⟩ := n_ai hI (n_s13 g q)
  obtain ⟨t5_0, t5_1, hT5, bT5⟩ := q_bigO hI (n_b22 g q)
  obtain ⟨t6_0, hT6, bT6⟩ := n_ai hI (n_s23 g q)
  obtain ⟨t7_0, t7_1, hT7, bT7⟩ := q_bigO hI (n_b20 g q)
  obtain ⟨t8_0, hT8, bT8⟩ := n_ai hI (n_s21 g q)
  obtain ⟨t9_0, t9_1, t10_0, t10_1, t11_0, hT9, hT10, hT11, vd2, hbd2⟩ := hC.2.1 i2 hi2
  obtain ⟨t12_0, t12_1, t13_0, t13_1, t14_0, hT12, hT13, hT14, vd3, hbd3⟩ := hC.2.1 i3 hi3
  have hq := T_quotient_bt (x2 := x2) (x3 := x3) (x4 := x4) (x5 := x5) (x6 := x6) (t0_0 := t0_0) (t0_1 := t0_1) (t1_0 := t1_0) (t1_1 := t1_1) (t2_0 := t2_0) (t3_0 := t3_0) (t3_1 := t3_1) (t4_0 := t4_0) (t5_0 := t5_0) (t5_1 := t5_1) (t6_0 := t6_0) (t7_0 := t7_0) (t7_1 := t7_1) (t8_0 := t8_0) (t9_0 := t9_0) (t9_1 := t9_1) (t10_0 := t10_0) (t10_1 := t10_1) (t11_0 := t11_0) (t12_0 := t12_0) (t12_1 := t12_1) (t13_0 := t13_0) (t13_1 := t13_1) (t14_0 := t14_0) hbd2 hbd3
  refine q_MxV (X_NH_quotient_bt l D g q ws x2 x3 x4 x5 x6 (68 + 5 * i2) (n_d g q hi2) (by omega) (fun h => by have z := e2 h; omega) (68 + 5 * i3) (n_d g q hi3) (by omega) (fun h => by have z := e3 h; omega) (fun h => by have z := e4 h; omega) (by omega) (by omega) (by omega) (by omega) (by omega) hlt hI t0_0 t0_1 hT0 t1_0 t1_1 hT1 t2_0 hT2 t3_0 t3_1 hT3 t4_0 hT4 t5_0 t5_1 hT5 t6_0 hT6 t7_0 t7_1 hT7 t8_0 hT8 t9_0 t9_1 hT9 t10_0 t10_1 hT10 t11_0 hT11 t12_0 t12_1 hT12 t13_0 t13_1 hT13 t14_0 hT14 ⟨trivial, hq.1⟩ sz) ?_ ?_
  · rintro u ⟨hI2, hun, u0_0, u0_1, u1_0, u1_1, u2_0, u3_0, u3_1, u4_0, u5_0, u5_1, u6_0, u7_0, u7_1, u8_0, u12_0, u12_1, u13_0, u13_1, u14_0, hU0, hU1, hU2, hU3, hU4, hU5, hU6, hU7, hU8, hU9, hU10, hU11, hR⟩
    have hF := hR.2.2.2.2.2.2.2.2.2.2.2.2.2.2.2.2.2.2.2.2.2.2.2.2.2.2.2.2.2.2.2.2.2.2.2.2.2.2.2.2.2.2.2.2.2.2.2.2.2.2.2.2.2.2.2.2.2.2.2.2.2.2.2.2.2.2.2.2.2.2.2.2.2.2.2.2.2.2.2.2.2.2.2.2.2.2.2.2.2.2.2.2.2
    have hp := hq.2
    rw [← hF] at hp
    refine ⟨hI2, ⟨fun i hi => ?_, fun i hi => ?_, ?_⟩, fun i hi => hun i (by simp only [List.mem_cons, List.not_mem_nil, or_false, not_or]; omega)⟩
    · exact iW_fr (hC.1 i hi) (hun _ (by simp only [List.mem_cons, List.not_mem_nil, or_false, not_or]; omega)) (hun _ (by simp only [List.mem_cons, List.not_mem_nil, or_false, not_or]; omega))
    · by_cases hd3 : i = i3
      · rw [hd3]; refine ⟨_, _, _, _, _, hU9, hU10, hU11, ?_⟩; first | exact hp
      · exact iD_fr (hC.2.1 i hi) (hun _ (by simp only [List.mem_cons, List.not_mem_nil, or_false, not_or]; omega)) (hun _ (by simp only [List.mem_cons, List.not_mem_nil, or_false, not_or]; omega)) (hun _ (by simp only [List.mem_cons, List.not_mem_nil, or_false, not_or]; omega))
    · exact iO_fr hC.2.2 (hun _ (by simp only [List.mem_cons, List.not_mem_nil, or_false, not_or]; omega)) (hun _ (by simp only [List.mem_cons, List.not_mem_nil, or_false, not_or]; omega)) (hun _ (by simp only [List.mem_cons, List.not_mem_nil, or_false, not_or]; omega))
  · rintro E u ⟨c, hE, hc, hI2, hun, u0_0, u0_1, u1_0, u1_1, u2_0, u3_0, u3_1, u4_0, u5_0, u5_1, u6_0, u7_0, u7_1, u8_0, u12_0, u12_1, u13_0, u13_1, u14_0, hU0, hU1, hU2, hU3, hU4, hU5, hU6, hU7, hU8, hU9, hU10, hU11, hF⟩
    have hp := hq.2
    rw [← hF] at hp
    have hk := K_NH_quotient_bt (x2 := x2) (x3 := x3) (x4 := x4) (x5 := x5) (x6 := x6) (t0_0 := t0_0) (t0_1 := t0_1) (t1_0 := t1_0) (t1_1 := t1_1) (t2_0 := t2_0) (t3_0 := t3_0) (t3_1 := t3_1) (t4_0 := t4_0) (t5_0 := t5_0) (t5_1 := t5_1) (t6_0 := t6_0) (t7_0 := t7_0) (t7_1 := t7_1) (t8_0 := t8_0) (t9_0 := t9_0) (t9_1 := t9_1) (t10_0 := t10_0) (t10_1 := t10_1) (t11_0 := t11_0) (t12_0 := t12_0) (t12_1 := t12_1) (t13_0 := t13_0) (t13_1 := t13_1) (t14_0 := t14_0)
    rw [← hF] at hk
    replace hk : kC12 c := hk
    refine ⟨⟨c, hE, hk.resolve_left hc⟩, hI2, ⟨fun i hi => ?_, fun i hi => ?_, ?_⟩, fun i hi => hun i (by simp only [List.mem_cons, List.not_mem_nil, or_false, not_or]; omega)⟩
    · exact iW_fr (hC.1 i hi) (hun _ (by simp only [List.mem_cons, List.not_mem_nil, or_false, not_or]; omega)) (hun _ (by simp only [List.mem_cons, List.not_mem_nil, or_false, not_or]; omega))
    · by_cases hd3 : i = i3
      · rw [hd3]; refine ⟨_, _, _, _, _, hU9, hU10, hU11, ?_⟩; first | exact hp
      · exact iD_fr (hC.2.1 i hi) (hun _ (by simp only [List.mem_cons, List.not_mem_nil, or_false, not_or]; omega)) (hun _ (by simp only [List.mem_cons, List.not_mem_nil, or_false, not_or]; omega)) (hun _ (by simp only [List.mem_cons, List.not_mem_nil, or_false, not_or]; omega))
    · exact iO_fr hC.2.2 (hun _ (by simp only [List.mem_cons, List.not_mem_nil, or_false, not_or]; omega)) (hun _ (by simp only [List.mem_cons, List.not_mem_nil, or_false, not_or]; omega)) (hun _ (by simp only [List.mem_cons, List.not_mem_nil, or_false, not_or]; omega))
set_option maxRecDepth 100000 in
theorem CV_quotient_abt (l : Launch) (D : va_G) (g : Nat → ClassId) (q : Nat → Nat) (ws : va_W) (x2 : Int32) (x3 : Int32) (x4 : Int32) (x5 : Int32) (x6 : Int32) (i2 : Nat) (hi2 : i2 < 10) (e2 : x2.toNatClampNeg < 10 → i2 = x2.toNatClampNeg) (e3 : x3.toNatClampNeg < 10 → i2 = x3.toNatClampNeg) (e4 : x4.toNatClampNeg < 10 → i2 = x4.toNatClampNeg) (hlt : l.stackTraces = false) (hI : q_I (nsh g q) q ws) (hC : iC g q ws) : ∀ sz, q_Mx l y_NH_quotient prog_1_method_14_code 6 none 9 5 30 D g [.ref (q 0), .int x2, .int x3, .int x4, .int x5, .int x6] ws sz (va_Qv (fun u => iP g q ws u) (q_B D g (va_A ws sz)) (va_A ws sz)) (fun E u => (∃ c : Int32, E = qE c ∧ (c = 1 ∨ c = 2)) ∧ iP g q ws u) := by
  intro sz
  obtain ⟨t0_0, t0_1, hT0, bT0⟩ := n_o30 hI
  obtain ⟨t1_0, t1_1, hT1, bT1⟩ := q_bigO hI (n_b10 g q)
  obtain ⟨t2_0, hT2, bT2⟩ := n_ai hI (n_s11 g q)
  obtain ⟨t3_0, t3_1, hT3, bT3⟩ := q_bigO hI (n_b12 g q)
  obtain ⟨t4_0, hT4, bT4⟩ := n_ai hI (n_s13 g q)
  obtain ⟨t5_0, t5_1, hT5, bT5⟩ := q_bigO hI (n_b22 g q)
  obtain ⟨t6_0, hT6, bT6⟩ := n_ai hI (n_s23 g q)
  obtain ⟨t7_0, t7_1, hT7, bT7⟩ := q_bigO hI (n_b20 g q)
  obtain ⟨t8_0, hT8, bT8⟩ := n_ai hI (n_s21 g q)
  obtain ⟨t9_0, t9_1, t10_0, t10_1, t11_0, hT9, hT10, hT11, vd2, hbd2⟩ := hC.2.1 i2 hi2
  have hq := T_quotient_abt (x2 := x2) (x3 := x3) (x4 := x4) (x5 := x5) (x6 := x6) (t0_0 := t0_0) (t0_1 := t0_1) (t1_0 := t1_0) (t1_1 := t1_1) (t2_0 := t2_0) (t3_0 := t3_0) (t3_1 := t3_1) (t4_0 := t4_0) (t5_0 := t5_0) (t5_1 := t5_1) (t6_0 := t6_0) (t7_0 := t7_0) (t7_1 := t7_1) (t8_0 := t8_0) (t9_0 := t9_0) (t9_1 := t9_1) (t10_0 := t10_0) (t10_1 := t10_1) (t11_0 := t11_0) hbd2
  refine q_MxV (X_NH_quotient_abt l D g q ws x2 x3 x4 x5 x6 (68 + 5 * i2) (n_d g q hi2) (by omega) (fun h => by have z := e2 h; omega) (fun h => by have z := e3 h; omega) (fun h => by have z := e4 h; omega) hlt hI t0_0 t0_1 hT0 t1_0 t1_1 hT1 t2_0 hT2 t3_0 t3_1 hT3 t4_0 hT4 t5_0 t5_1 hT5 t6_0 hT6 t7_0 t7_1 hT7 t8_0 hT8 t9_0 t9_1 hT9 t10_0 t10_1 hT10 t11_0 hT11 ⟨trivial, hq.1⟩ sz) ?_ ?_
  · rintro u ⟨hI2, hun, u0_0, u0_1, u1_0, u1_1, u2_0, u3_0, u3_1, u4_0, u5_0, u5_1, u6_0, u7_0, u7_1, u8_0, u9_0, u9_1, u10_0, u10_1, u11_0, hU0, hU1, hU2, hU3, hU4, hU5, hU6, hU7, hU8, hU9, hU10, hU11, hR⟩
    have hF := hR.2.2.2.2.2.2.2.2.2.2.2.2.2.2.2.2.2.2.2.2.2.2.2.2.2.2.2.2.2.2.2.2.2.2.2.2.2.2.2.2.2.2.2.2.2.2.2.2.2.2.2.2.2.2.2.2.2.2.2.2.2.2.2.2.2.2.2.2.2.2.2.2.2.2.2.2.2.2.2.2.2.2.2.2.2.2.2.2.2.2.2.2.2
    have hp := hq.2
    rw [← hF] at hp
    refine ⟨hI2, ⟨fun i hi => ?_, fun i hi => ?_, ?_⟩, fun i hi => hun i (by simp only [List.mem_cons, List.not_mem_nil, or_false, not_or]; omega)⟩
    · exact iW_fr (hC.1 i hi) (hun _ (by simp only [List.mem_cons, List.not_mem_nil, or_false, not_or]; omega)) (hun _ (by simp only [List.mem_cons, List.not_mem_nil, or_false, not_or]; omega))
    · by_cases hd2 : i = i2
      · rw [hd2]; refine ⟨_, _, _, _, _, hU9, hU10, hU11, ?_⟩; first | exact hp
      · exact iD_fr (hC.2.1 i hi) (hun _ (by simp only [List.mem_cons, List.not_mem_nil, or_false, not_or]; omega)) (hun _ (by simp only [List.mem_cons, List.not_mem_nil, or_false, not_or]; omega)) (hun _ (by simp only [List.mem_cons, List.not_mem_nil, or_false, not_or]; omega))
    · exact iO_fr hC.2.2 (hun _ (by simp only [List.mem_cons, List.not_mem_nil, or_false, not_or]; omega)) (hun _ (by simp only [List.mem_cons, List.not_mem_nil, or_false, not_or]; omega)) (hun _ (by simp only [List.mem_cons, List.not_mem_nil, or_false, not_or]; omega))
  · rintro E u ⟨c, hE, hc, hI2, hun, u0_0, u0_1, u1_0, u1_1, u2_0, u3_0, u3_1, u4_0, u5_0, u5_1, u6_0, u7_0, u7_1, u8_0, u9_0, u9_1, u10_0, u10_1, u11_0, hU0, hU1, hU2, hU3, hU4, hU5, hU6, hU7, hU8, hU9, hU10, hU11, hF⟩
    have hp := hq.2
    rw [← hF] at hp
    have hk := K_NH_quotient_abt (x2 := x2) (x3 := x3) (x4 := x4) (x5 := x5) (x6 := x6) (t0_0 := t0_0) (t0_1 := t0_1) (t1_0 := t1_0) (t1_1 := t1_1) (t2_0 := t2_0) (t3_0 := t3_0) (t3_1 := t3_1) (t4_0 := t4_0) (t5_0 := t5_0) (t5_1 := t5_1) (t6_0 := t6_0) (t7_0 := t7_0) (t7_1 := t7_1) (t8_0 := t8_0) (t9_0 := t9_0) (t9_1 := t9_1) (t10_0 := t10_0) (t10_1 := t10_1) (t11_0 := t11_0)
    rw [← hF] at hk
    replace hk : kC12 c := hk
    refine ⟨⟨c, hE, hk.resolve_left hc⟩, hI2, ⟨fun i hi => ?_, fun i hi => ?_, ?_⟩, fun i hi => hun i (by simp only [List.mem_cons, List.not_mem_nil, or_false, not_or]; omega)⟩
    · exact iW_fr (hC.1 i hi) (hun _ (by simp only [List.mem_cons, List.not_mem_nil, or_false, not_or]; omega)) (hun _ (by simp only [List.mem_cons, List.not_mem_nil, or_false, not_or]; omega))
    · by_cases hd2 : i = i2
      · rw [hd2]; refine ⟨_, _, _, _, _, hU9, hU10, hU11, ?_⟩; first | exact hp
      · exact iD_fr (hC.2.1 i hi) (hun _ (by simp only [List.mem_cons, List.not_mem_nil, or_false, not_or]; omega)) (hun _ (by simp only [List.mem_cons, List.not_mem_nil, or_false, not_or]; omega)) (hun _ (by simp only [List.mem_cons, List.not_mem_nil, or_false, not_or]; omega))
    · exact iO_fr hC.2.2 (hun _ (by simp only [List.mem_cons, List.not_mem_nil, or_false, not_or]; omega)) (hun _ (by simp only [List.mem_cons, List.not_mem_nil, or_false, not_or]; omega)) (hun _ (by simp only [List.mem_cons, List.not_mem_nil, or_false, not_or]; omega))
