set_option maxRecDepth 100000 in
theorem CV_feed (l : Launch) (D : va_G) (g : Nat → ClassId) (q : Nat → Nat) (ws : va_W) (x2 : Int32) (x3 : Int64) (hlt : l.stackTraces = false) (hI : q_I (nsh g q) q ws) (hC : iC g q ws) : ∀ sz, q_Mx l y_NH_feed prog_1_method_2_code 5 (some .int) 8 1 6 D g [.ref (q 0), .int x2, .long x3] ws sz (va_Qi (fun _ u => iP g q ws u) (q_B D g (va_A ws sz)) (va_A ws sz)) (fun E u => (∃ c : Int32, E = qE c ∧ (c = 1)) ∧ iP g q ws u) := by
  intro sz
  obtain ⟨t0_0, hT0, bT0⟩ := n_shO hI (n_h1 g q)
  obtain ⟨t1_0, hT1⟩ := n_al hI (n_s2 g q)
  have hq := T_feed (x2 := x2) (x3 := x3) (t0_0 := t0_0) (t1_0 := t1_0) (by first | exact bT0 | exact bT0.1 | exact bT0.2 | exact bT0.2.1 | exact bT0.2.2 | exact bT0.1.1)
  refine q_MxI (X_NH_feed l D g q ws x2 x3 hlt hI t0_0 hT0 t1_0 hT1 ⟨trivial, hq⟩ sz) ?_ ?_
  · rintro r u ⟨hI2, hun, u0_0, u1_0, hU0, hU1, hR⟩
    refine ⟨hI2, ⟨fun i hi => ?_, fun i hi => ?_, ?_⟩, fun i hi => hun i (by simp only [List.mem_cons, List.not_mem_nil, or_false, not_or]; omega)⟩
    · exact iW_fr (hC.1 i hi) (hun _ (by simp only [List.mem_cons, List.not_mem_nil, or_false, not_or]; omega)) (hun _ (by simp only [List.mem_cons, List.not_mem_nil, or_false, not_or]; omega))
    · exact iD_fr (hC.2.1 i hi) (hun _ (by simp only [List.mem_cons, List.not_mem_nil, or_false, not_or]; omega)) (hun _ (by simp only [List.mem_cons, List.not_mem_nil, or_false, not_or]; omega)) (hun _ (by simp only [List.mem_cons, List.not_mem_nil, or_false, not_or]; omega))
    · exact iO_fr hC.2.2 (hun _ (by simp only [List.mem_cons, List.not_mem_nil, or_false, not_or]; omega)) (hun _ (by simp only [List.mem_cons, List.not_mem_nil, or_false, not_or]; omega)) (hun _ (by simp only [List.mem_cons, List.not_mem_nil, or_false, not_or]; omega))
  · rintro E u ⟨c, hE, hc, hI2, hun, u0_0, u1_0, hU0, hU1, hF⟩
    have hk := K_NH_feed (x2 := x2) (x3 := x3) (t0_0 := t0_0) (t1_0 := t1_0)
    rw [← hF] at hk
    replace hk : kC1 c := hk
    refine ⟨⟨c, hE, hk.resolve_left hc⟩, hI2, ⟨fun i hi => ?_, fun i hi => ?_, ?_⟩, fun i hi => hun i (by simp only [List.mem_cons, List.not_mem_nil, or_false, not_or]; omega)⟩
    · exact iW_fr (hC.1 i hi) (hun _ (by simp only [List.mem_cons, List.not_mem_nil, or_false, not_or]; omega)) (hun _ (by simp only [List.mem_cons, List.not_mem_nil, or_false, not_or]; omega))
    · exact iD_fr (hC.2.1 i hi) (hun _ (by simp only [List.mem_cons, List.not_mem_nil, or_false, not_or]; omega)) (hun _ (by simp only [List.mem_cons, List.not_mem_nil, or_false, not_or]; omega)) (hun _ (by simp only [List.mem_cons, List.not_mem_nil, or_false, not_or]; omega))
    · exact iO_fr hC.2.2 (hun _ (by simp only [List.mem_cons, List.not_mem_nil, or_false, not_or]; omega)) (hun _ (by simp only [List.mem_cons, List.not_mem_nil, or_false, not_or]; omega)) (hun _ (by simp only [List.mem_cons, List.not_mem_nil, or_false, not_or]; omega))
set_option maxRecDepth 100000 in
theorem CV_told (l : Launch) (D : va_G) (g : Nat → ClassId) (q : Nat → Nat) (ws : va_W) (x2 : Int32) (x3 : Int32) (x4 : Int32) (i3 : Nat) (hi3 : i3 < 10) (e3 : x3.toNatClampNeg < 10 → i3 = x3.toNatClampNeg) (hlt : l.stackTraces = false) (hI : q_I (nsh g q) q ws) (hC : iC g q ws) : ∀ sz, q_Mx l y_NH_told prog_1_method_6_code 7 (some .long) 9 4 24 D g [.ref (q 0), .int x2, .int x3, .int x4] ws sz (va_Ql (fun _ u => iP g q ws u) (q_B D g (va_A ws sz)) (va_A ws sz)) (fun E u => (∃ c : Int32, E = qE c ∧ (c = 1 ∨ c = 2)) ∧ iP g q ws u) := by
  intro sz
  obtain ⟨t0_0, t0_1, hT0, bT0⟩ := q_bigO hI (n_b10 g q)
  obtain ⟨t1_0, hT1, bT1⟩ := n_ai hI (n_s11 g q)
  obtain ⟨t2_0, t2_1, hT2, bT2⟩ := n_o36 hI
  obtain ⟨t3_0, hT3, bT3⟩ := n_ai hI (n_s37 g q)
  obtain ⟨t4_0, hT4⟩ := n_al hI (n_s7 g q)
  obtain ⟨t5_0, hT5⟩ := n_al hI (n_s8 g q)
  obtain ⟨t6_0, t6_1, hT6, bT6⟩ := q_bigO hI (n_b22 g q)
  obtain ⟨t7_0, hT7, bT7⟩ := n_ai hI (n_s23 g q)
  obtain ⟨t8_0, t8_1, hT8, bT8⟩ := q_bigO hI (n_b24 g q)
  obtain ⟨t9_0, hT9, bT9⟩ := n_ai hI (n_s25 g q)
  obtain ⟨t10_0, t10_1, hT10, bT10⟩ := q_bigO hI (n_b26 g q)
  obtain ⟨t11_0, hT11, bT11⟩ := n_ai hI (n_s27 g q)
  obtain ⟨t12_0, t12_1, hT12, bT12⟩ := q_bigO hI (n_b28 g q)
  obtain ⟨t13_0, hT13, bT13⟩ := n_ai hI (n_s29 g q)
  obtain ⟨t14_0, t14_1, t14_2, hT14⟩ := n_flO hI (n_f34 g q)
  obtain ⟨t15_0, t15_1, t15_2, hT15⟩ := n_flO hI (n_f35 g q)
  obtain ⟨t16_0, t16_1, t17_0, hT16, hT17, vk3, hbk3, hBk3⟩ := hC.1 i3 hi3
  obtain ⟨t18_0, t18_1, t19_0, t19_1, t20_0, hT18, hT19, hT20, vd3, hbd3⟩ := hC.2.1 i3 hi3
  have hq := T_told (x2 := x2) (x3 := x3) (x4 := x4) (t0_0 := t0_0) (t0_1 := t0_1) (t1_0 := t1_0) (t2_0 := t2_0) (t2_1 := t2_1) (t3_0 := t3_0) (t4_0 := t4_0) (t5_0 := t5_0) (t6_0 := t6_0) (t6_1 := t6_1) (t7_0 := t7_0) (t8_0 := t8_0) (t8_1 := t8_1) (t9_0 := t9_0) (t10_0 := t10_0) (t10_1 := t10_1) (t11_0 := t11_0) (t12_0 := t12_0) (t12_1 := t12_1) (t13_0 := t13_0) (t14_0 := t14_0) (t14_1 := t14_1) (t14_2 := t14_2) (t15_0 := t15_0) (t15_1 := t15_1) (t15_2 := t15_2) (t16_0 := t16_0) (t16_1 := t16_1) (t17_0 := t17_0) (t18_0 := t18_0) (t18_1 := t18_1) (t19_0 := t19_0) (t19_1 := t19_1) (t20_0 := t20_0) 
  refine q_MxL (X_NH_told l D g q ws x2 x3 x4 (66 + 5 * i3) (n_w g q hi3) (by omega) (fun h => by have z := e3 h; omega) (68 + 5 * i3) (n_d g q hi3) (by omega) (fun h => by have z := e3 h; omega) (by omega) (by omega) (by omega) (by omega) hlt hI t0_0 t0_1 hT0 t1_0 hT1 t2_0 t2_1 hT2 t3_0 hT3 t4_0 hT4 t5_0 hT5 t6_0 t6_1 hT6 t7_0 hT7 t8_0 t8_1 hT8 t9_0 hT9 t10_0 t10_1 hT10 t11_0 hT11 t12_0 t12_1 hT12 t13_0 hT13 t14_0 t14_1 t14_2 hT14 t15_0 t15_1 t15_2 hT15 t16_0 t16_1 hT16 t17_0 hT17 t18_0 t18_1 hT18 t19_0 t19_1 hT19 t20_0 hT20 ⟨trivial, hq⟩ sz) ?_ ?_
  · rintro r u ⟨hI2, hun, u0_0, u0_1, u1_0, u2_0, u2_1, u3_0, u6_0, u6_1, u7_0, u8_0, u8_1, u9_0, u10_0, u10_1, u11_0, u12_0, u12_1, u13_0, u14_0, u14_1, u14_2, u15_0, u15_1, u15_2, hU0, hU1, hU2, hU3, hU4, hU5, hU6, hU7, hU8, hU9, hU10, hU11, hU12, hU13, hR⟩
    refine ⟨hI2, ⟨fun i hi => ?_, fun i hi => ?_, ?_⟩, fun i hi => hun i (by simp only [List.mem_cons, List.not_mem_nil, or_false, not_or]; omega)⟩
    · exact iW_fr (hC.1 i hi) (hun _ (by simp only [List.mem_cons, List.not_mem_nil, or_false, not_or]; omega)) (hun _ (by simp only [List.mem_cons, List.not_mem_nil, or_false, not_or]; omega))
    · exact iD_fr (hC.2.1 i hi) (hun _ (by simp only [List.mem_cons, List.not_mem_nil, or_false, not_or]; omega)) (hun _ (by simp only [List.mem_cons, List.not_mem_nil, or_false, not_or]; omega)) (hun _ (by simp only [List.mem_cons, List.not_mem_nil, or_false, not_or]; omega))
    · exact iO_fr hC.2.2 (hun _ (by simp only [List.mem_cons, List.not_mem_nil, or_false, not_or]; omega)) (hun _ (by simp only [List.mem_cons, List.not_mem_nil, or_false, not_or]; omega)) (hun _ (by simp only [List.mem_cons, List.not_mem_nil, or_false, not_or]; omega))
  · rintro E u ⟨c, hE, hc, hI2, hun, u0_0, u0_1, u1_0, u2_0, u2_1, u3_0, u6_0, u6_1, u7_0, u8_0, u8_1, u9_0, u10_0, u10_1, u11_0, u12_0, u12_1, u13_0, u14_0, u14_1, u14_2, u15_0, u15_1, u15_2, hU0, hU1, hU2, hU3, hU4, hU5, hU6, hU7, hU8, hU9, hU10, hU11, hU12, hU13, hF⟩
    have hk := K_NH_told (x2 := x2) (x3 := x3) (x4 := x4) (t0_0 := t0_0) (t0_1 := t0_1) (t1_0 := t1_0) (t2_0 := t2_0) (t2_1 := t2_1) (t3_0 := t3_0) (t4_0 := t4_0) (t5_0 := t5_0) (t6_0 := t6_0) (t6_1 := t6_1) (t7_0 := t7_0) (t8_0 := t8_0) (t8_1 := t8_1) (t9_0 := t9_0) (t10_0 := t10_0) (t10_1 := t10_1) (t11_0 := t11_0) (t12_0 := t12_0) (t12_1 := t12_1) (t13_0 := t13_0) (t14_0 := t14_0) (t14_1 := t14_1) (t14_2 := t14_2) (t15_0 := t15_0) (t15_1 := t15_1) (t15_2 := t15_2) (t16_0 := t16_0) (t16_1 := t16_1) (t17_0 := t17_0) (t18_0 := t18_0) (t18_1 := t18_1) (t19_0 := t19_0) (t19_1 := t19_1) (t20_0 := t20_0)
    rw [← hF] at hk
    replace hk : kC12 c := hk
    refine ⟨⟨c, hE, hk.resolve_left hc⟩, hI2, ⟨fun i hi => ?_, fun i hi => ?_, ?_⟩, fun i hi => hun i (by simp only [List.mem_cons, List.not_mem_nil, or_false, not_or]; omega)⟩
    · exact iW_fr (hC.1 i hi) (hun _ (by simp only [List.mem_cons, List.not_mem_nil, or_false, not_or]; omega)) (hun _ (by simp only [List.mem_cons, List.not_mem_nil, or_false, not_or]; omega))
    · exact iD_fr (hC.2.1 i hi) (hun _ (by simp only [List.mem_cons, List.not_mem_nil, or_false, not_or]; omega)) (hun _ (by simp only [List.mem_cons, List.not_mem_nil, or_false, not_or]; omega)) (hun _ (by simp only [List.mem_cons, List.not_mem_nil, or_false, not_or]; omega))
    · exact iO_fr hC.2.2 (hun _ (by simp only [List.mem_cons, List.not_mem_nil, or_false, not_or]; omega)) (hun _ (by simp only [List.mem_cons, List.not_mem_nil, or_false, not_or]; omega)) (hun _ (by simp only [List.mem_cons, List.not_mem_nil, or_false, not_or]; omega))
set_option maxRecDepth 100000 in
theorem CV_figures (l : Launch) (D : va_G) (g : Nat → ClassId) (q : Nat → Nat) (ws : va_W) (x2 : Int32) (x3 : Int32) (x4 : Int32) (x5 : Int32) (x6 : Int32) (hzx4 : 0 ≤ x4.toInt ∧ x4.toInt ≤ 1) (hlt : l.stackTraces = false) (hI : q_I (nsh g q) q ws) (hC : iC g q ws) : ∀ sz, q_Mx l y_NH_figures prog_1_method_18_code 9 (some .int) 8 3 18 D g [.ref (q 0), .int x2, .int x3, .int x4, .int x5, .int x6] ws sz (va_Qi (fun _ u => iP g q ws u) (q_B D g (va_A ws sz)) (va_A ws sz)) (fun E u => (∃ c : Int32, E = qE c ∧ (c = 1 ∨ c = 2)) ∧ iP g q ws u) := by
  intro sz
  obtain ⟨t0_0, hT0, bT0⟩ := n_shO hI (n_h3 g q)
  obtain ⟨t1_0, hT1⟩ := n_al hI (n_s4 g q)
  obtain ⟨t2_0, t2_1, hT2, bT2⟩ := q_bigO hI (n_b10 g q)
  obtain ⟨t3_0, hT3, bT3⟩ := n_ai hI (n_s11 g q)
  obtain ⟨t4_0, t4_1, hT4, bT4⟩ := n_o36 hI
  obtain ⟨t5_0, hT5, bT5⟩ := n_ai hI (n_s37 g q)
  obtain ⟨t6_0, hT6⟩ := n_al hI (n_s7 g q)
  obtain ⟨t7_0, hT7⟩ := n_al hI (n_s8 g q)
  obtain ⟨t8_0, t8_1, t8_2, hT8⟩ := n_flO hI (n_f34 g q)
  obtain ⟨t9_0, t9_1, t9_2, hT9⟩ := n_flO hI (n_f35 g q)
  have hq := T_figures (x2 := x2) (x3 := x3) (x4 := x4) (x5 := x5) (x6 := x6) (t0_0 := t0_0) (t1_0 := t1_0) (t2_0 := t2_0) (t2_1 := t2_1) (t3_0 := t3_0) (t4_0 := t4_0) (t4_1 := t4_1) (t5_0 := t5_0) (t6_0 := t6_0) (t7_0 := t7_0) (t8_0 := t8_0) (t8_1 := t8_1) (t8_2 := t8_2) (t9_0 := t9_0) (t9_1 := t9_1) (t9_2 := t9_2) 
  refine q_MxI (X_NH_figures l D g q ws x2 x3 x4 x5 x6 hlt hI t0_0 hT0 t1_0 hT1 t2_0 t2_1 hT2 t3_0 hT3 t4_0 t4_1 hT4 t5_0 hT5 t6_0 hT6 t7_0 hT7 t8_0 t8_1 t8_2 hT8 t9_0 t9_1 t9_2 hT9 hzx4 ⟨trivial, hq⟩ sz) ?_ ?_
  · rintro r u ⟨hI2, hun, u0_0, u1_0, u2_0, u2_1, u3_0, u4_0, u4_1, u5_0, hU0, hU1, hU2, hU3, hU4, hU5, hR⟩
    refine ⟨hI2, ⟨fun i hi => ?_, fun i hi => ?_, ?_⟩, fun i hi => hun i (by simp only [List.mem_cons, List.not_mem_nil, or_false, not_or]; omega)⟩
    · exact iW_fr (hC.1 i hi) (hun _ (by simp only [List.mem_cons, List.not_mem_nil, or_false, not_or]; omega)) (hun _ (by simp only [List.mem_cons, List.not_mem_nil, or_false, not_or]; omega))
    · exact iD_fr (hC.2.1 i hi) (hun _ (by simp only [List.mem_cons, List.not_mem_nil, or_false, not_or]; omega)) (hun _ (by simp only [List.mem_cons, List.not_mem_nil, or_false, not_or]; omega)) (hun _ (by simp only [List.mem_cons, List.not_mem_nil, or_false, not_or]; omega))
    · exact iO_fr hC.2.2 (hun _ (by simp only [List.mem_cons, List.not_mem_nil, or_false, not_or]; omega)) (hun _ (by simp only [List.mem_cons, List.not_mem_nil, or_false, not_or]; omega)) (hun _ (by simp only [List.mem_cons, List.not_mem_nil, or_false, not_or]; omega))
  · rintro E u ⟨c, hE, hc, hI2, hun, u0_0, u1_0, u2_0, u2_1, u3_0, u4_0, u4_1, u5_0, hU0, hU1, hU2, hU3, hU4, hU5, hF⟩
    have hk := K_NH_figures (x2 := x2) (x3 := x3) (x4 := x4) (x5 := x5) (x6 := x6) (t0_0 := t0_0) (t1_0 := t1_0) (t2_0 := t2_0) (t2_1 := t2_1) (t3_0 := t3_0) (t4_0 := t4_0) (t4_1 := t4_1) (t5_0 := t5_0) (t6_0 := t6_0) (t7_0 := t7_0) (t8_0 := t8_0) (t8_1 := t8_1) (t8_2 := t8_2) (t9_0 := t9_0) (t9_1 := t9_1) (t9_2 := t9_2)
    rw [← hF] at hk
    replace hk : kC12 c := hk
    refine ⟨⟨c, hE, hk.resolve_left hc⟩, hI2, ⟨fun i hi => ?_, fun i hi => ?_, ?_⟩, fun i hi => hun i (by simp only [List.mem_cons, List.not_mem_nil, or_false, not_or]; omega)⟩
    · exact iW_fr (hC.1 i hi) (hun _ (by simp only [List.mem_cons, List.not_mem_nil, or_false, not_or]; omega)) (hun _ (by simp only [List.mem_cons, List.not_mem_nil, or_false, not_or]; omega))
    · exact iD_fr (hC.2.1 i hi) (hun _ (by simp only [List.mem_cons, List.not_mem_nil, or_false, not_or]; omega)) (hun _ (by simp only [List.mem_cons, List.not_mem_nil, or_false, not_or]; omega)) (hun _ (by simp only [List.mem_cons, List.not_mem_nil, or_false, not_or]; omega))
    · exact iO_fr hC.2.2 (hun _ (by simp only [List.mem_cons, List.not_mem_nil, or_false, not_or]; omega)) (hun _ (by simp only [List.mem_cons, List.not_mem_nil, or_false, not_or]; omega)) (hun _ (by simp only [List.mem_cons, List.not_mem_nil, or_false, not_or]; omega))
set_option maxRecDepth 100000 in
theorem CV_format (l : Launch) (D : va_G) (g : Nat → ClassId) (q : Nat → Nat) (ws : va_W)  (hlt : l.stackTraces = false) (hI : q_I (nsh g q) q ws) (hC : iC g q ws) : ∀ sz, q_Mx l y_NH_format prog_1_method_20_code 2 (some .int) 10 1 6 D g [.ref (q 0)] ws sz (va_Qi (fun _ u => iP g q ws u) (q_B D g (va_A ws sz)) (va_A ws sz)) (fun E u => (∃ c : Int32, E = qE c ∧ (c = 3)) ∧ iP g q ws u) := by
  intro sz
  obtain ⟨t0_0, hT0, bT0⟩ := n_shO hI (n_h1 g q)
  obtain ⟨t1_0, hT1⟩ := n_al hI (n_s2 g q)
  obtain ⟨t2_0, hT2, bT2⟩ := n_shO hI (n_h3 g q)
  obtain ⟨t3_0, hT3⟩ := n_al hI (n_s4 g q)
  obtain ⟨t4_0, t4_1, t4_2, t4_3, hT4, bT4⟩ := n_o40 hI
  obtain ⟨t5_0, hT5, bT5⟩ := n_ai hI (n_s41 g q)
  obtain ⟨t6_0, hT6⟩ := n_al hI (n_s42 g q)
  obtain ⟨t7_0, hT7, bT7⟩ := n_ai hI (n_s43 g q)
  obtain ⟨t8_0, t8_1, hT8, bT8⟩ := n_o36 hI
  obtain ⟨t9_0, hT9, bT9⟩ := n_ai hI (n_s37 g q)
  obtain ⟨t10_0, hT10, bT10⟩ := n_shO hI (n_h45 g q)
  obtain ⟨t11_0, hT11⟩ := n_al hI (n_s46 g q)
  obtain ⟨t12_0, t12_1, t12_2, t12_3, t12_4, t12_5, t12_6, hT12, bT12⟩ := n_o47 hI
  obtain ⟨t13_0, hT13, bT13⟩ := n_shO hI (n_t g q (j := 0) (by decide))
  obtain ⟨t14_0, hT14⟩ := n_al hI (n_s49 g q)
  obtain ⟨t15_0, hT15, bT15⟩ := n_shO hI (n_t g q (j := 1) (by decide))
  obtain ⟨t16_0, hT16⟩ := n_al hI (n_s51 g q)
  obtain ⟨t17_0, hT17, bT17⟩ := n_shO hI (n_t g q (j := 2) (by decide))
  obtain ⟨t18_0, hT18⟩ := n_al hI (n_s53 g q)
  obtain ⟨t19_0, hT19, bT19⟩ := n_shO hI (n_t g q (j := 3) (by decide))
  obtain ⟨t20_0, hT20⟩ := n_al hI (n_s55 g q)
  obtain ⟨t21_0, hT21, bT21⟩ := n_shO hI (n_t g q (j := 4) (by decide))
  obtain ⟨t22_0, hT22⟩ := n_al hI (n_s57 g q)
  obtain ⟨t23_0, hT23, bT23⟩ := n_shO hI (n_t g q (j := 5) (by decide))
  obtain ⟨t24_0, hT24⟩ := n_al hI (n_s59 g q)
  obtain ⟨t25_0, hT25, bT25⟩ := n_shO hI (n_t g q (j := 6) (by decide))
  obtain ⟨t26_0, hT26⟩ := n_al hI (n_s61 g q)
  obtain ⟨t27_0, hT27, bT27⟩ := n_shO hI (n_t g q (j := 7) (by decide))
  obtain ⟨t28_0, hT28⟩ := n_al hI (n_s63 g q)
  obtain ⟨t29_0, hT29, bT29⟩ := n_shO hI (n_t g q (j := 8) (by decide))
  obtain ⟨t30_0, hT30⟩ := n_al hI (n_s65 g q)
  have hq := T_format (t0_0 := t0_0) (t1_0 := t1_0) (t2_0 := t2_0) (t3_0 := t3_0) (t4_0 := t4_0) (t4_1 := t4_1) (t4_2 := t4_2) (t4_3 := t4_3) (t5_0 := t5_0) (t6_0 := t6_0) (t7_0 := t7_0) (t8_0 := t8_0) (t8_1 := t8_1) (t9_0 := t9_0) (t10_0 := t10_0) (t11_0 := t11_0) (t12_0 := t12_0) (t12_1 := t12_1) (t12_2 := t12_2) (t12_3 := t12_3) (t12_4 := t12_4) (t12_5 := t12_5) (t12_6 := t12_6) (t13_0 := t13_0) (t14_0 := t14_0) (t15_0 := t15_0) (t16_0 := t16_0) (t17_0 := t17_0) (t18_0 := t18_0) (t19_0 := t19_0) (t20_0 := t20_0) (t21_0 := t21_0) (t22_0 := t22_0) (t23_0 := t23_0) (t24_0 := t24_0) (t25_0 := t25_0) (t26_0 := t26_0) (t27_0 := t27_0) (t28_0 := t28_0) (t29_0 := t29_0) (t30_0 := t30_0) (by first | exact bT4 | exact bT4.1 | exact bT4.2 | exact bT4.2.1 | exact bT4.2.2 | exact bT4.1.1)
  refine q_MxI (X_NH_format l D g q ws hlt hI t0_0 hT0 t1_0 hT1 t2_0 hT2 t3_0 hT3 t4_0 t4_1 t4_2 t4_3 hT4 t5_0 hT5 t6_0 hT6 t7_0 hT7 t8_0 t8_1 hT8 t9_0 hT9 t10_0 hT10 t11_0 hT11 t12_0 t12_1 t12_2 t12_3 t12_4 t12_5 t12_6 hT12 t13_0 hT13 t14_0 hT14 t15_0 hT15 t16_0 hT16 t17_0 hT17 t18_0 hT18 t19_0 hT19 t20_0 hT20 t21_0 hT21 t22_0 hT22 t23_0 hT23 t24_0 hT24 t25_0 hT25 t26_0 hT26 t27_0 hT27 t28_0 hT28 t29_0 hT29 t30_0 hT30 ⟨trivial, hq⟩ sz) ?_ ?_
  · rintro r u ⟨hI2, hun, u0_0, u2_0, u3_0, u4_0, u4_1, u4_2, u4_3, u8_0, u8_1, u9_0, u10_0, u11_0, u12_0, u12_1, u12_2, u12_3, u12_4, u12_5, u12_6, hU0, hU1, hU2, hU3, hU4, hU5, hU6, hU7, hU8, hR⟩
    refine ⟨hI2, ⟨fun i hi => ?_, fun i hi => ?_, ?_⟩, fun i hi => hun i (by simp only [List.mem_cons, List.not_mem_nil, or_false, not_or]; omega)⟩
    · exact iW_fr (hC.1 i hi) (hun _ (by simp only [List.mem_cons, List.not_mem_nil, or_false, not_or]; omega)) (hun _ (by simp only [List.mem_cons, List.not_mem_nil, or_false, not_or]; omega))
    · exact iD_fr (hC.2.1 i hi) (hun _ (by simp only [List.mem_cons, List.not_mem_nil, or_false, not_or]; omega)) (hun _ (by simp only [List.mem_cons, List.not_mem_nil, or_false, not_or]; omega)) (hun _ (by simp only [List.mem_cons, List.not_mem_nil, or_false, not_or]; omega))
    · exact iO_fr hC.2.2 (hun _ (by simp only [List.mem_cons, List.not_mem_nil, or_false, not_or]; omega)) (hun _ (by simp only [List.mem_cons, List.not_mem_nil, or_false, not_or]; omega)) (hun _ (by simp only [List.mem_cons, List.not_mem_nil, or_false, not_or]; omega))
  · rintro E u ⟨c, hE, hc, hI2, hun, u0_0, u2_0, u3_0, u4_0, u4_1, u4_2, u4_3, u8_0, u8_1, u9_0, u10_0, u11_0, u12_0, u12_1, u12_2, u12_3, u12_4, u12_5, u12_6, hU0, hU1, hU2, hU3, hU4, hU5, hU6, hU7, hU8, hF⟩
    have hk := K_NH_format (t0_0 := t0_0) (t1_0 := t1_0) (t2_0 := t2_0) (t3_0 := t3_0) (t4_0 := t4_0) (t4_1 := t4_1) (t4_2 := t4_2) (t4_3 := t4_3) (t5_0 := t5_0) (t6_0 := t6_0) (t7_0 := t7_0) (t8_0 := t8_0) (t8_1 := t8_1) (t9_0 := t9_0) (t10_0 := t10_0) (t11_0 := t11_0) (t12_0 := t12_0) (t12_1 := t12_1) (t12_2 := t12_2) (t12_3 := t12_3) (t12_4 := t12_4) (t12_5 := t12_5) (t12_6 := t12_6) (t13_0 := t13_0) (t14_0 := t14_0) (t15_0 := t15_0) (t16_0 := t16_0) (t17_0 := t17_0) (t18_0 := t18_0) (t19_0 := t19_0) (t20_0 := t20_0) (t21_0 := t21_0) (t22_0 := t22_0) (t23_0 := t23_0) (t24_0 := t24_0) (t25_0 := t25_0) (t26_0 := t26_0) (t27_0 := t27_0) (t28_0 := t28_0) (t29_0 := t29_0) (t30_0 := t30_0)
    rw [← hF] at hk
    replace hk : kC3 c := hk
    refine ⟨⟨c, hE, hk.resolve_left hc⟩, hI2, ⟨fun i hi => ?_, fun i hi => ?_, ?_⟩, fun i hi => hun i (by simp only [List.mem_cons, List.not_mem_nil, or_false, not_or]; omega)⟩
    · exact iW_fr (hC.1 i hi) (hun _ (by simp only [List.mem_cons, List.not_mem_nil, or_false, not_or]; omega)) (hun _ (by simp only [List.mem_cons, List.not_mem_nil, or_false, not_or]; omega))
    · exact iD_fr (hC.2.1 i hi) (hun _ (by simp only [List.mem_cons, List.not_mem_nil, or_false, not_or]; omega)) (hun _ (by simp only [List.mem_cons, List.not_mem_nil, or_false, not_or]; omega)) (hun _ (by simp only [List.mem_cons, List.not_mem_nil, or_false, not_or]; omega))
    · exact iO_fr hC.2.2 (hun _ (by simp only [List.mem_cons, List.not_mem_nil, or_false, not_or]; omega)) (hun _ (by simp only [List.mem_cons, List.not_mem_nil, or_false, not_or]; omega)) (hun _ (by simp only [List.mem_cons, List.not_mem_nil, or_false, not_or]; omega))
