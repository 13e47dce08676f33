set_option maxRecDepth 100000 in
theorem CV_argument (l : Launch) (D : va_G) (g : Nat → ClassId) (q : Nat → Nat) (ws : va_W) (x2 : Int32) (x3 : Int32) (i3 : Nat) (hi3 : i3 < 10) (e3 : x3.toNatClampNeg < 10 → i3 = x3.toNatClampNeg) (hlt : l.stackTraces = false) (hI : q_I (nsh g q) q ws) (hC : iC g q ws) : ∀ sz, q_Mx l y_NH_argument prog_1_method_19_code 3 (some .int) 8 6 36 D g [.ref (q 0), .int x2, .int x3] ws sz (va_Qi (fun _ u => iP g q ws u) (q_B D g (va_A ws sz)) (va_A ws sz)) (fun E u => (∃ c : Int32, E = qE c ∧ (c = 1 ∨ c = 2 ∨ c = 3)) ∧ iP g q ws u) := by
  intro sz
  obtain ⟨t0_0, t0_1, t0_2, t0_3, hT0, bT0⟩ := n_o40 hI
  obtain ⟨t1_0, hT1, bT1⟩ := n_ai hI (n_s41 g q)
  obtain ⟨t2_0, hT2⟩ := n_al hI (n_s42 g q)
  obtain ⟨t3_0, hT3, bT3⟩ := n_ai hI (n_s43 g q)
  obtain ⟨t4_0, hT4, bT4⟩ := n_shO hI (n_h1 g q)
  obtain ⟨t5_0, hT5⟩ := n_al hI (n_s2 g q)
  obtain ⟨t6_0, hT6, bT6⟩ := n_shO hI (n_t g q (j := 0) (by decide))
  obtain ⟨t7_0, hT7⟩ := n_al hI (n_s49 g q)
  obtain ⟨t8_0, hT8, bT8⟩ := n_shO hI (n_t g q (j := 1) (by decide))
  obtain ⟨t9_0, hT9⟩ := n_al hI (n_s51 g q)
  obtain ⟨t10_0, hT10, bT10⟩ := n_shO hI (n_t g q (j := 2) (by decide))
  obtain ⟨t11_0, hT11⟩ := n_al hI (n_s53 g q)
  obtain ⟨t12_0, hT12, bT12⟩ := n_shO hI (n_t g q (j := 3) (by decide))
  obtain ⟨t13_0, hT13⟩ := n_al hI (n_s55 g q)
  obtain ⟨t14_0, hT14, bT14⟩ := n_shO hI (n_t g q (j := 4) (by decide))
  obtain ⟨t15_0, hT15⟩ := n_al hI (n_s57 g q)
  obtain ⟨t16_0, hT16, bT16⟩ := n_shO hI (n_t g q (j := 5) (by decide))
  obtain ⟨t17_0, hT17⟩ := n_al hI (n_s59 g q)
  obtain ⟨t18_0, hT18, bT18⟩ := n_shO hI (n_t g q (j := 6) (by decide))
  obtain ⟨t19_0, hT19⟩ := n_al hI (n_s61 g q)
  obtain ⟨t20_0, hT20, bT20⟩ := n_shO hI (n_t g q (j := 7) (by decide))
  obtain ⟨t21_0, hT21⟩ := n_al hI (n_s63 g q)
  obtain ⟨t22_0, hT22, bT22⟩ := n_shO hI (n_t g q (j := 8) (by decide))
  obtain ⟨t23_0, hT23⟩ := n_al hI (n_s65 g q)
  obtain ⟨t24_0, t24_1, t25_0, hT24, hT25, vk3, hbk3, hBk3⟩ := hC.1 i3 hi3
  obtain ⟨t26_0, t26_1, t27_0, t27_1, t28_0, hT26, hT27, hT28, vd3, hbd3⟩ := hC.2.1 i3 hi3
  have hq := T_argument (x2 := x2) (x3 := x3) (t0_0 := t0_0) (t0_1 := t0_1) (t0_2 := t0_2) (t0_3 := t0_3) (t1_0 := t1_0) (t2_0 := t2_0) (t3_0 := t3_0) (t4_0 := t4_0) (t5_0 := t5_0) (t6_0 := t6_0) (t7_0 := t7_0) (t8_0 := t8_0) (t9_0 := t9_0) (t10_0 := t10_0) (t11_0 := t11_0) (t12_0 := t12_0) (t13_0 := t13_0) (t14_0 := t14_0) (t15_0 := t15_0) (t16_0 := t16_0) (t17_0 := t17_0) (t18_0 := t18_0) (t19_0 := t19_0) (t20_0 := t20_0) (t21_0 := t21_0) (t22_0 := t22_0) (t23_0 := t23_0) (t24_0 := t24_0) (t24_1 := t24_1) (t25_0 := t25_0) (t26_0 := t26_0) (t26_1 := t26_1) (t27_0 := t27_0) (t27_1 := t27_1) (t28_0 := t28_0) 
  refine q_MxI (X_NH_argument l D g q ws x2 x3 (66 + 5 * i3) (n_w g q hi3) (by omega) (fun h => by have z := e3 h; omega) (68 + 5 * i3) (n_d g q hi3) (by omega) (fun h => by have z := e3 h; omega) (by omega) (by omega) (by omega) (by omega) hlt hI t0_0 t0_1 t0_2 t0_3 hT0 t1_0 hT1 t2_0 hT2 t3_0 hT3 t4_0 hT4 t5_0 hT5 t6_0 hT6 t7_0 hT7 t8_0 hT8 t9_0 hT9 t10_0 hT10 t11_0 hT11 t12_0 hT12 t13_0 hT13 t14_0 hT14 t15_0 hT15 t16_0 hT16 t17_0 hT17 t18_0 hT18 t19_0 hT19 t20_0 hT20 t21_0 hT21 t22_0 hT22 t23_0 hT23 t24_0 t24_1 hT24 t25_0 hT25 t26_0 t26_1 hT26 t27_0 t27_1 hT27 t28_0 hT28 ⟨trivial, hq⟩ sz) ?_ ?_
  · rintro r u ⟨hI2, hun, u0_0, u0_1, u0_2, u0_3, u1_0, u2_0, u3_0, u4_0, u6_0, u7_0, u8_0, u9_0, u10_0, u11_0, u12_0, u13_0, u14_0, u15_0, u16_0, u17_0, u18_0, u19_0, u20_0, u21_0, u22_0, u23_0, hU0, hU1, hU2, hU3, hU4, hU5, hU6, hU7, hU8, hU9, hU10, hU11, hU12, hU13, hU14, hU15, hU16, hU17, hU18, hU19, hU20, hU21, hU22, hR⟩
    refine ⟨hI2, ⟨fun i hi => ?_, fun i hi => ?_, ?_⟩, fun i hi => hun i (by simp only [List.mem_cons, List.not_mem_nil, or_false, not_or]; omega)⟩
    · exact iW_fr (hC.1 i hi) (hun _ (by simp only [List.mem_cons, List.not_mem_nil, or_false, not_or]; omega)) (hun _ (by simp only [List.mem_cons, List.not_mem_nil, or_false, not_or]; omega))
    · exact iD_fr (hC.2.1 i hi) (hun _ (by simp only [List.mem_cons, List.not_mem_nil, or_false, not_or]; omega)) (hun _ (by simp only [List.mem_cons, List.not_mem_nil, or_false, not_or]; omega)) (hun _ (by simp only [List.mem_cons, List.not_mem_nil, or_false, not_or]; omega))
    · exact iO_fr hC.2.2 (hun _ (by simp only [List.mem_cons, List.not_mem_nil, or_false, not_or]; omega)) (hun _ (by simp only [List.mem_cons, List.not_mem_nil, or_false, not_or]; omega)) (hun _ (by simp only [List.mem_cons, List.not_mem_nil, or_false, not_or]; omega))
  · rintro E u ⟨c, hE, hc, hI2, hun, u0_0, u0_1, u0_2, u0_3, u1_0, u2_0, u3_0, u4_0, u6_0, u7_0, u8_0, u9_0, u10_0, u11_0, u12_0, u13_0, u14_0, u15_0, u16_0, u17_0, u18_0, u19_0, u20_0, u21_0, u22_0, u23_0, hU0, hU1, hU2, hU3, hU4, hU5, hU6, hU7, hU8, hU9, hU10, hU11, hU12, hU13, hU14, hU15, hU16, hU17, hU18, hU19, hU20, hU21, hU22, hF⟩
    have hk := K_NH_argument (x2 := x2) (x3 := x3) (t0_0 := t0_0) (t0_1 := t0_1) (t0_2 := t0_2) (t0_3 := t0_3) (t1_0 := t1_0) (t2_0 := t2_0) (t3_0 := t3_0) (t4_0 := t4_0) (t5_0 := t5_0) (t6_0 := t6_0) (t7_0 := t7_0) (t8_0 := t8_0) (t9_0 := t9_0) (t10_0 := t10_0) (t11_0 := t11_0) (t12_0 := t12_0) (t13_0 := t13_0) (t14_0 := t14_0) (t15_0 := t15_0) (t16_0 := t16_0) (t17_0 := t17_0) (t18_0 := t18_0) (t19_0 := t19_0) (t20_0 := t20_0) (t21_0 := t21_0) (t22_0 := t22_0) (t23_0 := t23_0) (t24_0 := t24_0) (t24_1 := t24_1) (t25_0 := t25_0) (t26_0 := t26_0) (t26_1 := t26_1) (t27_0 := t27_0) (t27_1 := t27_1) (t28_0 := t28_0)
    rw [← hF] at hk
    replace hk : kC123 c := hk
    refine ⟨⟨c, hE, hk.resolve_left hc⟩, hI2, ⟨fun i hi => ?_, fun i hi => ?_, ?_⟩, fun i hi => hun i (by simp only [List.mem_cons, List.not_mem_nil, or_false, not_or]; omega)⟩
    · exact iW_fr (hC.1 i hi) (hun _ (by simp only [List.mem_cons, List.not_mem_nil, or_false, not_or]; omega)) (hun _ (by simp only [List.mem_cons, List.not_mem_nil, or_false, not_or]; omega))
    · exact iD_fr (hC.2.1 i hi) (hun _ (by simp only [List.mem_cons, List.not_mem_nil, or_false, not_or]; omega)) (hun _ (by simp only [List.mem_cons, List.not_mem_nil, or_false, not_or]; omega)) (hun _ (by simp only [List.mem_cons, List.not_mem_nil, or_false, not_or]; omega))
    · exact iO_fr hC.2.2 (hun _ (by simp only [List.mem_cons, List.not_mem_nil, or_false, not_or]; omega)) (hun _ (by simp only [List.mem_cons, List.not_mem_nil, or_false, not_or]; omega)) (hun _ (by simp only [List.mem_cons, List.not_mem_nil, or_false, not_or]; omega))
theorem C_argument (l : Launch) (D : va_G) (g : Nat → ClassId) (q : Nat → Nat) (ws : va_W) (x2 : Int32) (x3 : Int32) (hlt : l.stackTraces = false) (hI : q_I (nsh g q) q ws) (hC : iC g q ws) : ∀ sz, q_Mx l y_NH_argument prog_1_method_19_code 3 (some .int) 8 6 36 D g [.ref (q 0), .int x2, .int x3] ws sz (va_Qi (fun _ u => iP g q ws u) (q_B D g (va_A ws sz)) (va_A ws sz)) (fun E u => (∃ c : Int32, E = qE c ∧ (c = 1 ∨ c = 2 ∨ c = 3)) ∧ iP g q ws u) := by
  obtain ⟨i3, hi3, e3⟩ := iX x3
  exact CV_argument l D g q ws x2 x3 i3 hi3 e3 hlt hI hC
