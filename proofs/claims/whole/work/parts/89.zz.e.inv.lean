set_option maxRecDepth 100000 in
theorem CV_read (l : Launch) (D : va_G) (g : Nat → ClassId) (q : Nat → Nat) (ws : va_W) (x2 : Int32) (x3 : Int32) (x4 : Int32) (i3 : Nat) (hi3 : i3 < 10) (e3 : x3.toNatClampNeg < 10 → i3 = x3.toNatClampNeg) (hlt : l.stackTraces = false) (hI : q_I (nsh g q) q ws) (hC : iC g q ws) : ∀ sz, q_Mx l y_NH_read prog_1_method_4_code 5 (some .boolean) 9 4 24 D g [.ref (q 0), .int x2, .int x3, .int x4] ws sz (va_Qi (fun _ u => iP g q ws u) (q_B D g (va_A ws sz)) (va_A ws sz)) (fun E u => (∃ c : Int32, E = qE c ∧ (c = 1 ∨ c = 2)) ∧ iP g q ws u) := by
  intro sz
  obtain ⟨t0_0, t0_1, hT0, bT0⟩ := n_o30 hI
  obtain ⟨t1_0, t1_1, t1_2, t1_3, t1_4, t1_5, t1_6, t1_7, t1_8, t1_9, hT1, bT1⟩ := n_o38 hI
  obtain ⟨t2_0, hT2, bT2⟩ := n_shO hI (n_h1 g q)
  obtain ⟨t3_0, hT3⟩ := n_al hI (n_s2 g q)
  obtain ⟨t4_0, t4_1, hT4, bT4⟩ := q_bigO hI (n_b10 g q)
  obtain ⟨t5_0, hT5, bT5⟩ := n_ai hI (n_s11 g q)
  obtain ⟨t6_0, t6_1, hT6, bT6⟩ := q_bigO hI (n_b22 g q)
  obtain ⟨t7_0, hT7, bT7⟩ := n_ai hI (n_s23 g q)
  obtain ⟨t8_0, t8_1, hT8, bT8⟩ := q_bigO hI (n_b24 g q)
  obtain ⟨t9_0, hT9, bT9⟩ := n_ai hI (n_s25 g q)
  obtain ⟨t10_0, t10_1, hT10, bT10⟩ := q_bigO hI (n_b12 g q)
  obtain ⟨t11_0, hT11, bT11⟩ := n_ai hI (n_s13 g q)
  obtain ⟨t12_0, t12_1, hT12, bT12⟩ := q_bigO hI (n_b20 g q)
  obtain ⟨t13_0, hT13, bT13⟩ := n_ai hI (n_s21 g q)
  obtain ⟨t14_0, hT14⟩ := n_al hI (n_s7 g q)
  obtain ⟨t15_0, hT15⟩ := n_al hI (n_s8 g q)
  obtain ⟨t16_0, t16_1, t17_0, hT16, hT17, vk3, hbk3, hBk3⟩ := hC.1 i3 hi3
  obtain ⟨t18_0, t18_1, t19_0, t19_1, t20_0, hT18, hT19, hT20, vd3, hbd3⟩ := hC.2.1 i3 hi3
  have hq := T_read (x2 := x2) (x3 := x3) (x4 := x4) (t0_0 := t0_0) (t0_1 := t0_1) (t1_0 := t1_0) (t1_1 := t1_1) (t1_2 := t1_2) (t1_3 := t1_3) (t1_4 := t1_4) (t1_5 := t1_5) (t1_6 := t1_6) (t1_7 := t1_7) (t1_8 := t1_8) (t1_9 := t1_9) (t2_0 := t2_0) (t3_0 := t3_0) (t4_0 := t4_0) (t4_1 := t4_1) (t5_0 := t5_0) (t6_0 := t6_0) (t6_1 := t6_1) (t7_0 := t7_0) (t8_0 := t8_0) (t8_1 := t8_1) (t9_0 := t9_0) (t10_0 := t10_0) (t10_1 := t10_1) (t11_0 := t11_0) (t12_0 := t12_0) (t12_1 := t12_1) (t13_0 := t13_0) (t14_0 := t14_0) (t15_0 := t15_0) (t16_0 := t16_0) (t16_1 := t16_1) (t17_0 := t17_0) (t18_0 := t18_0) (t18_1 := t18_1) (t19_0 := t19_0) (t19_1 := t19_1) (t20_0 := t20_0) ⟨_, hbk3, hBk3⟩ ⟨_, hbd3⟩ (by first | exact bT2 | exact bT2.1 | exact bT2.2 | exact bT2.2.1 | exact bT2.2.2 | exact bT2.1.1) (by first | exact bT2 | exact bT2.1 | exact bT2.2 | exact bT2.2.1 | exact bT2.2.2 | exact bT2.1.1) (by first | exact bT1 | exact bT1.1 | exact bT1.2 | exact bT1.2.1 | exact bT1.2.2 | exact bT1.1.1)
  refine q_MxI (X_NH_read l D g q ws x2 x3 x4 (66 + 5 * i3) (n_w g q hi3) (by omega) (fun h => by have z := e3 h; omega) (68 + 5 * i3) (n_d g q hi3) (by omega) (fun h => by have z := e3 h; omega) (by omega) (by omega) (by omega) (by omega) hlt hI t0_0 t0_1 hT0 t1_0 t1_1 t1_2 t1_3 t1_4 t1_5 t1_6 t1_7 t1_8 t1_9 hT1 t2_0 hT2 t3_0 hT3 t4_0 t4_1 hT4 t5_0 hT5 t6_0 t6_1 hT6 t7_0 hT7 t8_0 t8_1 hT8 t9_0 hT9 t10_0 t10_1 hT10 t11_0 hT11 t12_0 t12_1 hT12 t13_0 hT13 t14_0 hT14 t15_0 hT15 t16_0 t16_1 hT16 t17_0 hT17 t18_0 t18_1 hT18 t19_0 t19_1 hT19 t20_0 hT20 ⟨trivial, hq.1⟩ sz) ?_ ?_
  · rintro r u ⟨hI2, hun, u1_0, u1_1, u1_2, u1_3, u1_4, u1_5, u1_6, u1_7, u1_8, u1_9, u2_0, u4_0, u4_1, u5_0, u6_0, u6_1, u7_0, u8_0, u8_1, u9_0, u10_0, u10_1, u11_0, u12_0, u12_1, u13_0, u14_0, u15_0, u16_0, u16_1, u17_0, u18_0, u18_1, u19_0, u19_1, u20_0, hU0, hU1, hU2, hU3, hU4, hU5, hU6, hU7, hU8, hU9, hU10, hU11, hU12, hU13, hU14, hU15, hU16, hU17, hU18, hR⟩
    have hF := hR.2.2.2.2.2.2.2.2.2.2.2.2.2.2.2.2.2.2.2.2.2.2.2.2.2.2.2.2.2.2.2.2.2.2.2.2.2.2.2.2.2.2.2
    have hp := hq.2
    rw [← hF] at hp
    refine ⟨hI2, ⟨fun i hi => ?_, fun i hi => ?_, ?_⟩, fun i hi => hun i (by simp only [List.mem_cons, List.not_mem_nil, or_false, not_or]; omega)⟩
    · by_cases hk3 : i = i3
      · rw [hk3]; refine ⟨_, _, _, hU14, hU15, ?_⟩; first | exact hp.1
      · exact iW_fr (hC.1 i hi) (hun _ (by simp only [List.mem_cons, List.not_mem_nil, or_false, not_or]; omega)) (hun _ (by simp only [List.mem_cons, List.not_mem_nil, or_false, not_or]; omega))
    · by_cases hd3 : i = i3
      · rw [hd3]; refine ⟨_, _, _, _, _, hU16, hU17, hU18, ?_⟩; first | exact hp.2
      · exact iD_fr (hC.2.1 i hi) (hun _ (by simp only [List.mem_cons, List.not_mem_nil, or_false, not_or]; omega)) (hun _ (by simp only [List.mem_cons, List.not_mem_nil, or_false, not_or]; omega)) (hun _ (by simp only [List.mem_cons, List.not_mem_nil, or_false, not_or]; omega))
    · exact iO_fr hC.2.2 (hun _ (by simp only [List.mem_cons, List.not_mem_nil, or_false, not_or]; omega)) (hun _ (by simp only [List.mem_cons, List.not_mem_nil, or_false, not_or]; omega)) (hun _ (by simp only [List.mem_cons, List.not_mem_nil, or_false, not_or]; omega))
  · rintro E u ⟨c, hE, hc, hI2, hun, u1_0, u1_1, u1_2, u1_3, u1_4, u1_5, u1_6, u1_7, u1_8, u1_9, u2_0, u4_0, u4_1, u5_0, u6_0, u6_1, u7_0, u8_0, u8_1, u9_0, u10_0, u10_1, u11_0, u12_0, u12_1, u13_0, u14_0, u15_0, u16_0, u16_1, u17_0, u18_0, u18_1, u19_0, u19_1, u20_0, hU0, hU1, hU2, hU3, hU4, hU5, hU6, hU7, hU8, hU9, hU10, hU11, hU12, hU13, hU14, hU15, hU16, hU17, hU18, hF⟩
    have hp := hq.2
    rw [← hF] at hp
    have hk := K_NH_read (x2 := x2) (x3 := x3) (x4 := x4) (t0_0 := t0_0) (t0_1 := t0_1) (t1_0 := t1_0) (t1_1 := t1_1) (t1_2 := t1_2) (t1_3 := t1_3) (t1_4 := t1_4) (t1_5 := t1_5) (t1_6 := t1_6) (t1_7 := t1_7) (t1_8 := t1_8) (t1_9 := t1_9) (t2_0 := t2_0) (t3_0 := t3_0) (t4_0 := t4_0) (t4_1 := t4_1) (t5_0 := t5_0) (t6_0 := t6_0) (t6_1 := t6_1) (t7_0 := t7_0) (t8_0 := t8_0) (t8_1 := t8_1) (t9_0 := t9_0) (t10_0 := t10_0) (t10_1 := t10_1) (t11_0 := t11_0) (t12_0 := t12_0) (t12_1 := t12_1) (t13_0 := t13_0) (t14_0 := t14_0) (t15_0 := t15_0) (t16_0 := t16_0) (t16_1 := t16_1) (t17_0 := t17_0) (t18_0 := t18_0) (t18_1 := t18_1) (t19_0 := t19_0) (t19_1 := t19_1) (t20_0 := t20_0)
    rw [← hF] at hk
    replace hk : kC12 c := hk
    refine ⟨⟨c, hE, hk.resolve_left hc⟩, hI2, ⟨fun i hi => ?_, fun i hi => ?_, ?_⟩, fun i hi => hun i (by simp only [List.mem_cons, List.not_mem_nil, or_false, not_or]; omega)⟩
    · by_cases hk3 : i = i3
      · rw [hk3]; refine ⟨_, _, _, hU14, hU15, ?_⟩; first | exact hp.1
      · exact iW_fr (hC.1 i hi) (hun _ (by simp only [List.mem_cons, List.not_mem_nil, or_false, not_or]; omega)) (hun _ (by simp only [List.mem_cons, List.not_mem_nil, or_false, not_or]; omega))
    · by_cases hd3 : i = i3
      · rw [hd3]; refine ⟨_, _, _, _, _, hU16, hU17, hU18, ?_⟩; first | exact hp.2
      · exact iD_fr (hC.2.1 i hi) (hun _ (by simp only [List.mem_cons, List.not_mem_nil, or_false, not_or]; omega)) (hun _ (by simp only [List.mem_cons, List.not_mem_nil, or_false, not_or]; omega)) (hun _ (by simp only [List.mem_cons, List.not_mem_nil, or_false, not_or]; omega))
    · exact iO_fr hC.2.2 (hun _ (by simp only [List.mem_cons, List.not_mem_nil, or_false, not_or]; omega)) (hun _ (by simp only [List.mem_cons, List.not_mem_nil, or_false, not_or]; omega)) (hun _ (by simp only [List.mem_cons, List.not_mem_nil, or_false, not_or]; omega))
set_option maxRecDepth 100000 in
theorem CV_shape (l : Launch) (D : va_G) (g : Nat → ClassId) (q : Nat → Nat) (ws : va_W) (x2 : Int32) (x3 : Int32) (x4 : Int32) (x5 : Int32) (x6 : Int32) (i3 : Nat) (hi3 : i3 < 10) (i4 : Nat) (hi4 : i4 < 10) (e3 : x3.toNatClampNeg < 10 → i3 = x3.toNatClampNeg) (e4 : x4.toNatClampNeg < 10 → i4 = x4.toNatClampNeg) (hlt : l.stackTraces = false) (hI : q_I (nsh g q) q ws) (hC : iC g q ws) : ∀ sz, q_Mx l y_NH_shape prog_1_method_15_code 7 none 9 5 30 D g [.ref (q 0), .int x2, .int x3, .int x4, .int x5, .int x6] ws sz (va_Qv (fun u => iP g q ws u) (q_B D g (va_A ws sz)) (va_A ws sz)) (fun E u => (∃ c : Int32, E = qE c ∧ (c = 1 ∨ c = 2)) ∧ iP g q ws u) := by
  intro sz
  obtain ⟨t0_0, t0_1, hT0, bT0⟩ := n_o30 hI
  obtain ⟨t1_0, t1_1, t2_0, t2_1, t3_0, hT1, hT2, hT3, h1⟩ := hC.2.2
  obtain ⟨t4_0, t4_1, hT4, bT4⟩ := q_bigO hI (n_b10 g q)
  obtain ⟨t5_0, hT5, bT5⟩ := n_ai hI (n_s11 g q)
  obtain ⟨t6_0, t6_1, hT6, bT6⟩ := q_bigO hI (n_b12 g q)
  obtain ⟨t7_0, hT7, bT7⟩ := n_ai hI (n_s13 g q)
  obtain ⟨t8_0, t8_1, hT8, bT8⟩ := q_bigO hI (n_b14 g q)
  obtain ⟨t9_0, hT9, bT9⟩ := n_ai hI (n_s15 g q)
  obtain ⟨t10_0, t10_1, hT10, bT10⟩ := q_bigO hI (n_b16 g q)
  obtain ⟨t11_0, hT11, bT11⟩ := n_ai hI (n_s17 g q)
  obtain ⟨t12_0, t12_1, hT12, bT12⟩ := q_bigO hI (n_b18 g q)
  obtain ⟨t13_0, hT13, bT13⟩ := n_ai hI (n_s19 g q)
  obtain ⟨t14_0, t14_1, hT14, bT14⟩ := q_bigO hI (n_b22 g q)
  obtain ⟨t15_0, hT15, bT15⟩ := n_ai hI (n_s23 g q)
  obtain ⟨t16_0, t16_1, hT16, bT16⟩ := q_bigO hI (n_b24 g q)
  obtain ⟨t17_0, hT17, bT17⟩ := n_ai hI (n_s25 g q)
  obtain ⟨t18_0, t18_1, hT18, bT18⟩ := q_bigO hI (n_b20 g q)
  obtain ⟨t19_0, hT19, bT19⟩ := n_ai hI (n_s21 g q)
  obtain ⟨t20_0, t20_1, t21_0, t21_1, t22_0, hT20, hT21, hT22, vd3, hbd3⟩ := hC.2.1 i3 hi3
  obtain ⟨t23_0, t23_1, t24_0, t24_1, t25_0, hT23, hT24, hT25, vd4, hbd4⟩ := hC.2.1 i4 hi4
  have hq := T_shape (x2 := x2) (x3 := x3) (x4 := x4) (x5 := x5) (x6 := x6) (t0_0 := t0_0) (t0_1 := t0_1) (t1_0 := t1_0) (t1_1 := t1_1) (t2_0 := t2_0) (t2_1 := t2_1) (t3_0 := t3_0) (t4_0 := t4_0) (t4_1 := t4_1) (t5_0 := t5_0) (t6_0 := t6_0) (t6_1 := t6_1) (t7_0 := t7_0) (t8_0 := t8_0) (t8_1 := t8_1) (t9_0 := t9_0) (t10_0 := t10_0) (t10_1 := t10_1) (t11_0 := t11_0) (t12_0 := t12_0) (t12_1 := t12_1) (t13_0 := t13_0) (t14_0 := t14_0) (t14_1 := t14_1) (t15_0 := t15_0) (t16_0 := t16_0) (t16_1 := t16_1) (t17_0 := t17_0) (t18_0 := t18_0) (t18_1 := t18_1) (t19_0 := t19_0) (t20_0 := t20_0) (t20_1 := t20_1) (t21_0 := t21_0) (t21_1 := t21_1) (t22_0 := t22_0) (t23_0 := t23_0) (t23_1 := t23_1) (t24_0 := t24_0) (t24_1 := t24_1) (t25_0 := t25_0) hbd3 h1.1 ⟨_, hbd4⟩
  refine q_MxV (X_NH_shape l D g q ws x2 x3 x4 x5 x6 (68 + 5 * i3) (n_d g q hi3) (by omega) (fun h => by have z := e3 h; omega) (68 + 5 * i4) (n_d g q hi4) (by omega) (fun h => by have z := e4 h; omega) hlt hI t0_0 t0_1 hT0 t1_0 t1_1 hT1 t2_0 t2_1 hT2 t3_0 hT3 t4_0 t4_1 hT4 t5_0 hT5 t6_0 t6_1 hT6 t7_0 hT7 t8_0 t8_1 hT8 t9_0 hT9 t10_0 t10_1 hT10 t11_0 hT11 t12_0 t12_1 hT12 t13_0 hT13 t14_0 t14_1 hT14 t15_0 hT15 t16_0 t16_1 hT16 t17_0 hT17 t18_0 t18_1 hT18 t19_0 hT19 t20_0 t20_1 hT20 t21_0 t21_1 hT21 t22_0 hT22 t23_0 t23_1 hT23 t24_0 t24_1 hT24 t25_0 hT25 ⟨trivial, hq.1⟩ sz) ?_ ?_
  · rintro u ⟨hI2, hun, u0_0, u0_1, u2_0, u2_1, u3_0, u4_0, u4_1, u5_0, u6_0, u6_1, u7_0, u8_0, u8_1, u9_0, u10_0, u10_1, u11_0, u12_0, u12_1, u13_0, u14_0, u14_1, u15_0, u16_0, u16_1, u17_0, u18_0, u18_1, u19_0, u23_0, u23_1, u24_0, u24_1, u25_0, hU0, hU1, hU2, hU3, hU4, hU5, hU6, hU7, hU8, hU9, hU10, hU11, hU12, hU13, hU14, hU15, hU16, hU17, hU18, hU19, hU20, hU21, hR⟩
    have hF := hR.2.2.2.2.2.2.2.2.2.2.2.2.2.2.2.2.2.2.2.2.2.2.2.2.2.2.2.2.2.2.2.2.2.2.2.2.2.2.2.2.2.2.2.2.2.2.2.2.2.2.2.2.2.2.2.2.2.2.2.2.2.2.2.2.2.2.2.2.2.2.2.2.2.2.2.2.2.2.2.2.2.2.2.2.2.2.2.2.2.2.2.2.2.2.2.2.2.2.2.2.2.2.2.2.2.2.2.2.2
    have hp := hq.2
    rw [← hF] at hp
    refine ⟨hI2, ⟨fun i hi => ?_, fun i hi => ?_, ?_⟩, fun i hi => hun i (by simp only [List.mem_cons, List.not_mem_nil, or_false, not_or]; omega)⟩
    · exact iW_fr (hC.1 i hi) (hun _ (by simp only [List.mem_cons, List.not_mem_nil, or_false, not_or]; omega)) (hun _ (by simp only [List.mem_cons, List.not_mem_nil, or_false, not_or]; omega))
    · by_cases hd4 : i = i4
      · rw [hd4]; refine ⟨_, _, _, _, _, hU19, hU20, hU21, ?_⟩; first | exact hp.1
      · exact iD_fr (hC.2.1 i hi) (hun _ (by simp only [List.mem_cons, List.not_mem_nil, or_false, not_or]; omega)) (hun _ (by simp only [List.mem_cons, List.not_mem_nil, or_false, not_or]; omega)) (hun _ (by simp only [List.mem_cons, List.not_mem_nil, or_false, not_or]; omega))
    · refine ⟨_, _, _, _, _, ((hun _ (by simp only [List.mem_cons, List.not_mem_nil, or_false, not_or]; omega)).trans hT1), hU1, hU2, ?_⟩; first | exact ⟨hp.2, h1.2⟩ | exact ⟨hp.1, h1.2⟩
  · rintro E u ⟨c, hE, hc, hI2, hun, u0_0, u0_1, u2_0, u2_1, u3_0, u4_0, u4_1, u5_0, u6_0, u6_1, u7_0, u8_0, u8_1, u9_0, u10_0, u10_1, u11_0, u12_0, u12_1, u13_0, u14_0, u14_1, u15_0, u16_0, u16_1, u17_0, u18_0, u18_1, u19_0, u23_0, u23_1, u24_0, u24_1, u25_0, hU0, hU1, hU2, hU3, hU4, hU5, hU6, hU7, hU8, hU9, hU10, hU11, hU12, hU13, hU14, hU15, hU16, hU17, hU18, hU19, hU20, hU21, hF⟩
    have hp := hq.2
    rw [← hF] at hp
    have hk := K_NH_shape (x2 := x2) (x3 := x3) (x4 := x4) (x5 := x5) (x6 := x6) (t0_0 := t0_0) (t0_1 := t0_1) (t1_0 := t1_0) (t1_1 := t1_1) (t2_0 := t2_0) (t2_1 := t2_1) (t3_0 := t3_0) (t4_0 := t4_0) (t4_1 := t4_1) (t5_0 := t5_0) (t6_0 := t6_0) (t6_1 := t6_1) (t7_0 := t7_0) (t8_0 := t8_0) (t8_1 := t8_1) (t9_0 := t9_0) (t10_0 := t10_0) (t10_1 := t10_1) (t11_0 := t11_0) (t12_0 := t12_0) (t12_1 := t12_1) (t13_0 := t13_0) (t14_0 := t14_0) (t14_1 := t14_1) (t15_0 := t15_0) (t16_0 := t16_0) (t16_1 := t16_1) (t17_0 := t17_0) (t18_0 := t18_0) (t18_1 := t18_1) (t19_0 := t19_0) (t20_0 := t20_0) (t20_1 := t20_1) (t21_0 := t21_0) (t21_1 := t21_1) (t22_0 := t22_0) (t23_0 := t23_0) (t23_1 := t23_1) (t24_0 := t24_0) (t24_1 := t24_1) (t25_0 := t25_0)
    rw [← hF] at hk
    replace hk : kC12 c := hk
    refine ⟨⟨c, hE, hk.resolve_left hc⟩, hI2, ⟨fun i hi => ?_, fun i hi => ?_, ?_⟩, fun i hi => hun i (by simp only [List.mem_cons, List.not_mem_nil, or_false, not_or]; omega)⟩
    · exact iW_fr (hC.1 i hi) (hun _ (by simp only [List.mem_cons, List.not_mem_nil, or_false, not_or]; omega)) (hun _ (by simp only [List.mem_cons, List.not_mem_nil, or_false, not_or]; omega))
    · by_cases hd4 : i = i4
      · rw [hd4]; refine ⟨_, _, _, _, _, hU19, hU20, hU21, ?_⟩; first | exact hp.1
      · exact iD_fr (hC.2.1 i hi) (hun _ (by simp only [List.mem_cons, List.not_mem_nil, or_false, not_or]; omega)) (hun _ (by simp only [List.mem_cons, List.not_mem_nil, or_false, not_or]; omega)) (hun _ (by simp only [List.mem_cons, List.not_mem_nil, or_false, not_or]; omega))
    · refine ⟨_, _, _, _, _, ((hun _ (by simp only [List.mem_cons, List.not_mem_nil, or_false, not_or]; omega)).trans hT1), hU1, hU2, ?_⟩; first | exact ⟨hp.2, h1.2⟩ | exact ⟨hp.1, h1.2⟩
set_option maxRecDepth 100000 in
theorem CV_convert (l : Launch) (D : va_G) (g : Nat → ClassId) (q : Nat → Nat) (ws : va_W) (x2 : Int32) (x3 : Int32) (x4 : Int32) (x5 : Int32) (i3 : Nat) (hi3 : i3 < 10) (i5 : Nat) (hi5 : i5 < 10) (e3 : x3.toNatClampNeg < 10 → i3 = x3.toNatClampNeg) (e5 : x5.toNatClampNeg < 10 → i5 = x5.toNatClampNeg) (hlt : l.stackTraces = false) (hI : q_I (nsh g q) q ws) (hC : iC g q ws) : ∀ sz, q_Mx l y_NH_convert prog_1_method_16_code 5 none 9 4 24 D g [.ref (q 0), .int x2, .int x3, .int x4, .int x5] ws sz (va_Qv (fun u => iP g q ws u) (q_B D g (va_A ws sz)) (va_A ws sz)) (fun E u => (∃ c : Int32, E = qE c ∧ (c = 1 ∨ c = 2)) ∧ iP g q ws u) := by
  intro sz
  obtain ⟨t0_0, t0_1, hT0, bT0⟩ := n_o30 hI
  obtain ⟨t1_0, t1_1, hT1, bT1⟩ := q_bigO hI (n_b10 g q)
  obtain ⟨t2_0, hT2, bT2⟩ := n_ai hI (n_s11 g q)
  obtain ⟨t3_0, t3_1, hT3, bT3⟩ := q_bigO hI (n_b12 g q)
  obtain ⟨t4_0, hT4, bT4⟩ := n_ai hI (n_s13 g q)
  obtain ⟨t5_0, t5_1, hT5, bT5⟩ := q_bigO hI (n_b20 g q)
  obtain ⟨t6_0, hT6, bT6⟩ := n_ai hI (n_s21 g q)
  obtain ⟨t7_0, t7_1, hT7, bT7⟩ := q_bigO hI (n_b22 g q)
  obtain ⟨t8_0, hT8, bT8⟩ := n_ai hI (n_s23 g q)
  obtain ⟨t9_0, t9_1, hT9, bT9⟩ := q_bigO hI (n_b24 g q)
  obtain ⟨t10_0, hT10, bT10⟩ := n_ai hI (n_s25 g q)
  obtain ⟨t11_0, hT11⟩ := n_al hI (n_s7 g q)
  obtain ⟨t12_0, hT12⟩ := n_al hI (n_s8 g q)
  obtain ⟨t13_0, t13_1, t14_0, hT13, hT14, vk3, hbk3, hBk3⟩ := hC.1 i3 hi3
  obtain ⟨t15_0, t15_1, t16_0, t16_1, t17_0, hT15, hT16, hT17, vd3, hbd3⟩ := hC.2.1 i3 hi3
  obtain ⟨t18_0, t18_1, t19_0, hT18, hT19, vk5, hbk5, hBk5⟩ := hC.1 i5 hi5
  obtain ⟨t20_0, t20_1, t21_0, t21_1, t22_0, hT20, hT21, hT22, vd5, hbd5⟩ := hC.2.1 i5 hi5
  have hq := T_convert (x2 := x2) (x3 := x3) (x4 := x4) (x5 := x5) (t0_0 := t0_0) (t0_1 := t0_1) (t1_0 := t1_0) (t1_1 := t1_1) (t2_0 := t2_0) (t3_0 := t3_0) (t3_1 := t3_1) (t4_0 := t4_0) (t5_0 := t5_0) (t5_1 := t5_1) (t6_0 := t6_0) (t7_0 := t7_0) (t7_1 := t7_1) (t8_0 := t8_0) (t9_0 := t9_0) (t9_1 := t9_1) (t10_0 := t10_0) (t11_0 := t11_0) (t12_0 := t12_0) (t13_0 := t13_0) (t13_1 := t13_1) (t14_0 := t14_0) (t15_0 := t15_0) (t15_1 := t15_1) (t16_0 := t16_0) (t16_1 := t16_1) (t17_0 := t17_0) (t18_0 := t18_0) (t18_1 := t18_1) (t19_0 := t19_0) (t20_0 := t20_0) (t20_1 := t20_1) (t21_0 := t21_0) (t21_1 := t21_1) (t22_0 := t22_0) hbk3 hBk3 hbd3 ⟨_, hbk5, hBk5⟩ ⟨_, hbd5⟩
  refine q_MxV (X_NH_convert l D g q ws x2 x3 x4 x5 (66 + 5 * i3) (n_w g q hi3) (by omega) (fun h => by have z := e3 h; omega) (68 + 5 * i3) (n_d g q hi3) (by omega) (fun h => by have z := e3 h; omega) (66 + 5 * i5) (n_w g q hi5) (by omega) (fun h => by have z := e5 h; omega) (68 + 5 * i5) (n_d g q hi5) (by omega) (fun h => by have z := e5 h; omega) (by omega) (by omega) (by omega) (by omega) (by omega) (by omega) (by omega) (by omega) hlt hI t0_0 t0_1 hT0 t1_0 t1_1 hT1 t2_0 hT2 t3_0 t3_1 hT3 t4_0 hT4 t5_0 t5_1 hT5 t6_0 hT6 t7_0 t7_1 hT7 t8_0 hT8 t9_0 t9_1 hT9 t10_0 hT10 t11_0 hT11 t12_0 hT12 t13_0 t13_1 hT13 t14_0 hT14 t15_0 t15_1 hT15 t16_0 t16_1 hT16 t17_0 hT17 t18_0 t18_1 hT18 t19_0 hT19 t20_0 t20_1 hT20 t21_0 t21_1 hT21 t22_0 hT22 ⟨trivial, hq.1⟩ sz) ?_ ?_
  · rintro u ⟨hI2, hun, u0_0, u0_1, u1_0, u1_1, u2_0, u3_0, u3_1, u4_0, u5_0, u5_1, u6_0, u7_0, u7_1, u8_0, u9_0, u9_1, u10_0, u11_0, u12_0, u18_0, u18_1, u19_0, u20_0, u20_1, u21_0, u21_1, u22_0, hU0, hU1, hU2, hU3, hU4, hU5, hU6, hU7, hU8, hU9, hU10, hU11, hU12, hU13, hU14, hU15, hU16, hU17, hR⟩
    have hF := hR.2.2.2.2.2.2.2.2.2.2.2.2.2.2.2.2.2.2.2.2.2.2.2.2.2.2.2.2.2.2.2.2.2.2.2.2.2.2.2.2.2.2.2.2.2.2.2.2.2.2.2.2.2.2.2.2.2.2.2.2.2.2.2.2.2.2.2.2.2.2.2.2.2.2.2.2.2
    have hp := hq.2
    rw [← hF] at hp
    refine ⟨hI2, ⟨fun i hi => ?_, fun i hi => ?_, ?_⟩, fun i hi => hun i (by simp only [List.mem_cons, List.not_mem_nil, or_false, not_or]; omega)⟩
    · by_cases hk5 : i = i5
      · rw [hk5]; refine ⟨_, _, _, hU13, hU14, ?_⟩; first | exact hp.1
      · exact iW_fr (hC.1 i hi) (hun _ (by simp only [List.mem_cons, List.not_mem_nil, or_false, not_or]; omega)) (hun _ (by simp only [List.mem_cons, List.not_mem_nil, or_false, not_or]; omega))
    · by_cases hd5 : i = i5
      · rw [hd5]; refine ⟨_, _, _, _, _, hU15, hU16, hU17, ?_⟩; first | exact hp.2
      · exact iD_fr (hC.2.1 i hi) (hun _ (by simp only [List.mem_cons, List.not_mem_nil, or_false, not_or]; omega)) (hun _ (by simp only [List.mem_cons, List.not_mem_nil, or_false, not_or]; omega)) (hun _ (by simp only [List.mem_cons, List.not_mem_nil, or_false, not_or]; omega))
    · exact iO_fr hC.2.2 (hun _ (by simp only [List.mem_cons, List.not_mem_nil, or_false, not_or]; omega)) (hun _ (by simp only [List.mem_cons, List.not_mem_nil, or_false, not_or]; omega)) (hun _ (by simp only [List.mem_cons, List.not_mem_nil, or_false, not_or]; omega))
  · rintro E u ⟨c, hE, hc, hI2, hun, u0_0, u0_1, u1_0, u1_1, u2_0, u3_0, u3_1, u4_0, u5_0, u5_1, u6_0, u7_0, u7_1, u8_0, u9_0, u9_1, u10_0, u11_0, u12_0, u18_0, u18_1, u19_0, u20_0, u20_1, u21_0, u21_1, u22_0, hU0, hU1, hU2, hU3, hU4, hU5, hU6, hU7, hU8, hU9, hU10, hU11, hU12, hU13, hU14, hU15, hU16, hU17, hF⟩
    have hp := hq.2
    rw [← hF] at hp
    have hk := K_NH_convert (x2 := x2) (x3 := x3) (x4 := x4) (x5 := x5) (t0_0 := t0_0) (t0_1 := t0_1) (t1_0 := t1_0) (t1_1 := t1_1) (t2_0 := t2_0) (t3_0 := t3_0) (t3_1 := t3_1) (t4_0 := t4_0) (t5_0 := t5_0) (t5_1 := t5_1) (t6_0 := t6_0) (t7_0 := t7_0) (t7_1 := t7_1) (t8_0 := t8_0) (t9_0 := t9_0) (t9_1 := t9_1) (t10_0 := t10_0) (t11_0 := t11_0) (t12_0 := t12_0) (t13_0 := t13_0) (t13_1 := t13_1) (t14_0 := t14_0) (t15_0 := t15_0) (t15_1 := t15_1) (t16_0 := t16_0) (t16_1 := t16_1) (t17_0 := t17_0) (t18_0 := t18_0) (t18_1 := t18_1) (t19_0 := t19_0) (t20_0 := t20_0) (t20_1 := t20_1) (t21_0 := t21_0) (t21_1 := t21_1) (t22_0 := t22_0)
    rw [← hF] at hk
    replace hk : kC12 c := hk
    refine ⟨⟨c, hE, hk.resolve_left hc⟩, hI2, ⟨fun i hi => ?_, fun i hi => ?_, ?_⟩, fun i hi => hun i (by simp only [List.mem_cons, List.not_mem_nil, or_false, not_or]; omega)⟩
    · by_cases hk5 : i = i5
      · rw [hk5]; refine ⟨_, _, _, hU13, hU14, ?_⟩; first | exact hp.1
      · exact iW_fr (hC.1 i hi) (hun _ (by simp only [List.mem_cons, List.not_mem_nil, or_false, not_or]; omega)) (hun _ (by simp only [List.mem_cons, List.not_mem_nil, or_false, not_or]; omega))
    · by_cases hd5 : i = i5
      · rw [hd5]; refine ⟨_, _, _, _, _, hU15, hU16, hU17, ?_⟩; first | exact hp.2
      · exact iD_fr (hC.2.1 i hi) (hun _ (by simp only [List.mem_cons, List.not_mem_nil, or_false, not_or]; omega)) (hun _ (by simp only [List.mem_cons, List.not_mem_nil, or_false, not_or]; omega)) (hun _ (by simp only [List.mem_cons, List.not_mem_nil, or_false, not_or]; omega))
    · exact iO_fr hC.2.2 (hun _ (by simp only [List.mem_cons, List.not_mem_nil, or_false, not_or]; omega)) (hun _ (by simp only [List.mem_cons, List.not_mem_nil, or_false, not_or]; omega)) (hun _ (by simp only [List.mem_cons, List.not_mem_nil, or_false, not_or]; omega))
set_option maxRecDepth 100000 in
theorem CV_print (l : Launch) (D : va_G) (g : Nat → ClassId) (q : Nat → Nat) (ws : va_W) (x2 : Int32) (x3 : Int32) (x4 : Int32) (i3 : Nat) (hi3 : i3 < 10) (e3 : x3.toNatClampNeg < 10 → i3 = x3.toNatClampNeg) (hlt : l.stackTraces = false) (hI : q_I (nsh g q) q ws) (hC : iC g q ws) : ∀ sz, q_Mx l y_NH_print prog_1_method_17_code 4 (some .int) 9 2 12 D g [.ref (q 0), .int x2, .int x3, .int x4] ws sz (va_Qi (fun _ u => iP g q ws u) (q_B D g (va_A ws sz)) (va_A ws sz)) (fun E u => (∃ c : Int32, E = qE c ∧ (c = 1)) ∧ iP g q ws u) := by
  intro sz
  obtain ⟨t0_0, hT0, bT0⟩ := n_shO hI (n_h3 g q)
  obtain ⟨t1_0, hT1⟩ := n_al hI (n_s4 g q)
  obtain ⟨t2_0, t2_1, hT2, bT2⟩ := q_bigO hI (n_b10 g q)
  obtain ⟨t3_0, hT3, bT3⟩ := n_ai hI (n_s11 g q)
  obtain ⟨t4_0, t4_1, hT4, bT4⟩ := n_o36 hI
  obtain ⟨t5_0, hT5, bT5⟩ := n_ai hI (n_s37 g q)
  obtain ⟨t6_0, hT6⟩ := n_al hI (n_s7 g q)
  obtain ⟨t7_0, hT7⟩ := n_al hI (n_s8 g q)
  obtain ⟨t8_0, t8_1, hT8, bT8⟩ := q_bigO hI (n_b22 g q)
  obtain ⟨t9_0, hT9, bT9⟩ := n_ai hI (n_s23 g q)
  obtain ⟨t10_0, t10_1, hT10, bT10⟩ := q_bigO hI (n_b24 g q)
  obtain ⟨t11_0, hT11, bT11⟩ := n_ai hI (n_s25 g q)
  obtain ⟨t12_0, t12_1, hT12, bT12⟩ := q_bigO hI (n_b26 g q)
  obtain ⟨t13_0, hT13, bT13⟩ := n_ai hI (n_s27 g q)
  obtain ⟨t14_0, t14_1, hT14, bT14⟩ := q_bigO hI (n_b28 g q)
  obtain ⟨t15_0, hT15, bT15⟩ := n_ai hI (n_s29 g q)
  obtain ⟨t16_0, t16_1, t16_2, hT16⟩ := n_flO hI (n_f34 g q)
  obtain ⟨t17_0, t17_1, t17_2, hT17⟩ := n_flO hI (n_f35 g q)
  obtain ⟨t18_0, t18_1, t19_0, hT18, hT19, vk3, hbk3, hBk3⟩ := hC.1 i3 hi3
  obtain ⟨t20_0, t20_1, t21_0, t21_1, t22_0, hT20, hT21, hT22, vd3, hbd3⟩ := hC.2.1 i3 hi3
  have hq := T_print (x2 := x2) (x3 := x3) (x4 := x4) (t0_0 := t0_0) (t1_0 := t1_0) (t2_0 := t2_0) (t2_1 := t2_1) (t3_0 := t3_0) (t4_0 := t4_0) (t4_1 := t4_1) (t5_0 := t5_0) (t6_0 := t6_0) (t7_0 := t7_0) (t8_0 := t8_0) (t8_1 := t8_1) (t9_0 := t9_0) (t10_0 := t10_0) (t10_1 := t10_1) (t11_0 := t11_0) (t12_0 := t12_0) (t12_1 := t12_1) (t13_0 := t13_0) (t14_0 := t14_0) (t14_1 := t14_1) (t15_0 := t15_0) (t16_0 := t16_0) (t16_1 := t16_1) (t16_2 := t16_2) (t17_0 := t17_0) (t17_1 := t17_1) (t17_2 := t17_2) (t18_0 := t18_0) (t18_1 := t18_1) (t19_0 := t19_0) (t20_0 := t20_0) (t20_1 := t20_1) (t21_0 := t21_0) (t21_1 := t21_1) (t22_0 := t22_0) hbk3 hbd3
  refine q_MxI (X_NH_print l D g q ws x2 x3 x4 (66 + 5 * i3) (n_w g q hi3) (by omega) (fun h => by have z := e3 h; omega) (68 + 5 * i3) (n_d g q hi3) (by omega) (fun h => by have z := e3 h; omega) (by omega) (by omega) (by omega) (by omega) hlt hI t0_0 hT0 t1_0 hT1 t2_0 t2_1 hT2 t3_0 hT3 t4_0 t4_1 hT4 t5_0 hT5 t6_0 hT6 t7_0 hT7 t8_0 t8_1 hT8 t9_0 hT9 t10_0 t10_1 hT10 t11_0 hT11 t12_0 t12_1 hT12 t13_0 hT13 t14_0 t14_1 hT14 t15_0 hT15 t16_0 t16_1 t16_2 hT16 t17_0 t17_1 t17_2 hT17 t18_0 t18_1 hT18 t19_0 hT19 t20_0 t20_1 hT20 t21_0 t21_1 hT21 t22_0 hT22 ⟨trivial, hq⟩ sz) ?_ ?_
  · rintro r u ⟨hI2, hun, u0_0, u1_0, u2_0, u2_1, u3_0, u4_0, u4_1, u5_0, u8_0, u8_1, u9_0, u10_0, u10_1, u11_0, u12_0, u12_1, u13_0, u14_0, u14_1, u15_0, u16_0, u16_1, u16_2, u17_0, u17_1, u17_2, hU0, hU1, hU2, hU3, hU4, hU5, hU6, hU7, hU8, hU9, hU10, hU11, hU12, hU13, hU14, hU15, hR⟩
    refine ⟨hI2, ⟨fun i hi => ?_, fun i hi => ?_, ?_⟩, fun i hi => hun i (by simp only [List.mem_cons, List.not_mem_nil, or_false, not_or]; omega)⟩
    · exact iW_fr (hC.1 i hi) (hun _ (by simp only [List.mem_cons, List.not_mem_nil, or_false, not_or]; omega)) (hun _ (by simp only [List.mem_cons, List.not_mem_nil, or_false, not_or]; omega))
    · exact iD_fr (hC.2.1 i hi) (hun _ (by simp only [List.mem_cons, List.not_mem_nil, or_false, not_or]; omega)) (hun _ (by simp only [List.mem_cons, List.not_mem_nil, or_false, not_or]; omega)) (hun _ (by simp only [List.mem_cons, List.not_mem_nil, or_false, not_or]; omega))
    · exact iO_fr hC.2.2 (hun _ (by simp only [List.mem_cons, List.not_mem_nil, or_false, not_or]; omega)) (hun _ (by simp only [List.mem_cons, List.not_mem_nil, or_false, not_or]; omega)) (hun _ (by simp only [List.mem_cons, List.not_mem_nil, or_false, not_or]; omega))
  · rintro E u ⟨c, hE, hc, hI2, hun, u0_0, u1_0, u2_0, u2_1, u3_0, u4_0, u4_1, u5_0, u8_0, u8_1, u9_0, u10_0, u10_1, u11_0, u12_0, u12_1, u13_0, u14_0, u14_1, u15_0, u16_0, u16_1, u16_2, u17_0, u17_1, u17_2, hU0, hU1, hU2, hU3, hU4, hU5, hU6, hU7, hU8, hU9, hU10, hU11, hU12, hU13, hU14, hU15, hF⟩
    have hk := K_NH_print (x2 := x2) (x3 := x3) (x4 := x4) (t0_0 := t0_0) (t1_0 := t1_0) (t2_0 := t2_0) (t2_1 := t2_1) (t3_0 := t3_0) (t4_0 := t4_0) (t4_1 := t4_1) (t5_0 := t5_0) (t6_0 := t6_0) (t7_0 := t7_0) (t8_0 := t8_0) (t8_1 := t8_1) (t9_0 := t9_0) (t10_0 := t10_0) (t10_1 := t10_1) (t11_0 := t11_0) (t12_0 := t12_0) (t12_1 := t12_1) (t13_0 := t13_0) (t14_0 := t14_0) (t14_1 := t14_1) (t15_0 := t15_0) (t16_0 := t16_0) (t16_1 := t16_1) (t16_2 := t16_2) (t17_0 := t17_0) (t17_1 := t17_1) (t17_2 := t17_2) (t18_0 := t18_0) (t18_1 := t18_1) (t19_0 := t19_0) (t20_0 := t20_0) (t20_1 := t20_1) (t21_0 := t21_0) (t21_1 := t21_1) (t22_0 := t22_0)
    rw [← hF] at hk
    replace hk : kC1 c := hk
    refine ⟨⟨c, hE, hk.resolve_left hc⟩, hI2, ⟨fun i hi => ?_, fun i hi => ?_, ?_⟩, fun i hi => hun i (by simp only [List.mem_cons, List.not_mem_nil, or_false, not_or]; omega)⟩
    · exact iW_fr (hC.1 i hi) (hun _ (by simp only [List.mem_cons, List.not_mem_nil, or_false, not_or]; omega)) (hun _ (by simp only [List.mem_cons, List.not_mem_nil, or_false, not_or]; omega))
    · exact iD_fr (hC.2.1 i hi) (hun _ (by simp only [List.mem_cons, List.not_mem_nil, or_false, not_or]; omega)) (hun _ (by simp only [List.mem_cons, List.not_mem_nil, or_false, not_or]; omega)) (hun _ (by simp only [List.mem_cons, List.not_mem_nil, or_false, not_or]; omega))
    · exact iO_fr hC.2.2 (hun _ (by simp only [List.mem_cons, List.not_mem_nil, or_false, not_or]; omega)) (hun _ (by simp only [List.mem_cons, List.not_mem_nil, or_false, not_or]; omega)) (hun _ (by simp only [List.mem_cons, List.not_mem_nil, or_false, not_or]; omega))
