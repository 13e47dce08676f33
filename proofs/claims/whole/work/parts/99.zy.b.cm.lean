set_option maxRecDepth 100000 in
theorem CM_read (l : Launch) (D : va_G) (g : Nat → ClassId) (q : Nat → Nat) (ws : va_W) (x2 : Int32) (x3 : Int32) (x4 : Int32) (hI : q_I (msh g q) q ws) (hM : iM g q ws) : q_mI l y_NM_read prog_14_method_15_code 8 (.boolean) 7 0 0 D g [.ref (q 116), .int x2, .int x3, .int x4] ws (fun _ u => jP g q ws u) := by
  have hM0 := hM
  obtain ⟨t3_0, t4_0, hT3, hT4, hW⟩ := hM.1
  obtain ⟨t8_0, t9_0, t10_0, t11_0, hT8, hT9, hT10, hT11, hD⟩ := hM.2.1
  obtain ⟨t18_0, hT18, hB⟩ := hM.2.2.2
  obtain ⟨t0_0, t0_1, t0_2, hT0, bT0⟩ := n_o116 hI
  obtain ⟨t1_0, t1_1, t1_2, t1_3, t1_4, t1_5, t1_6, hT1, bT1⟩ := n_o119 hI
  obtain ⟨t2_0, hT2, -⟩ := n_ai hI (n_s120 g q)
  obtain ⟨t5_0, hT5, -⟩ := n_ai hI (n_s123 g q)
  obtain ⟨t6_0, t6_1, t6_2, t6_3, t6_4, t6_5, t6_6, t6_7, t6_8, t6_9, t6_10, hT6, bT6⟩ := n_o134 hI
  obtain ⟨t7_0, hT7, -⟩ := n_ai hI (n_s135 g q)
  obtain ⟨t12_0, hT12, -⟩ := n_ai hI (n_s140 g q)
  obtain ⟨t13_0, t13_1, t13_2, t13_3, t13_4, t13_5, t13_6, t13_7, t13_8, t13_9, t13_10, t13_11, t13_12, t13_13, hT13, bT13⟩ := n_o153 hI
  obtain ⟨t14_0, hT14, -⟩ := n_ai hI (n_s154 g q)
  obtain ⟨t15_0, hT15, -⟩ := n_ai hI (n_s155 g q)
  obtain ⟨t16_0, hT16, -⟩ := n_ai hI (n_s156 g q)
  obtain ⟨t17_0, hT17, -⟩ := n_ai hI (n_s117 g q)
  have hq := T_NM_read (x2 := x2) (x3 := x3) (x4 := x4) (t0_0 := t0_0) (t0_1 := t0_1) (t0_2 := t0_2) (t1_0 := t1_0) (t1_1 := t1_1) (t1_2 := t1_2) (t1_3 := t1_3) (t1_4 := t1_4) (t1_5 := t1_5) (t1_6 := t1_6) (t2_0 := t2_0) (t3_0 := t3_0) (t4_0 := t4_0) (t5_0 := t5_0) (t6_0 := t6_0) (t6_1 := t6_1) (t6_2 := t6_2) (t6_3 := t6_3) (t6_4 := t6_4) (t6_5 := t6_5) (t6_6 := t6_6) (t6_7 := t6_7) (t6_8 := t6_8) (t6_9 := t6_9) (t6_10 := t6_10) (t7_0 := t7_0) (t8_0 := t8_0) (t9_0 := t9_0) (t10_0 := t10_0) (t11_0 := t11_0) (t12_0 := t12_0) (t13_0 := t13_0) (t13_1 := t13_1) (t13_2 := t13_2) (t13_3 := t13_3) (t13_4 := t13_4) (t13_5 := t13_5) (t13_6 := t13_6) (t13_7 := t13_7) (t13_8 := t13_8) (t13_9 := t13_9) (t13_10 := t13_10) (t13_11 := t13_11) (t13_12 := t13_12) (t13_13 := t13_13) (t14_0 := t14_0) (t15_0 := t15_0) (t16_0 := t16_0) (t17_0 := t17_0) (t18_0 := t18_0) (by first | exact bT0 | exact bT0.1 | exact bT0.2 | exact bT0.2.1 | exact bT0.2.2 | exact bT0.2.2.1 | exact bT0.2.2.2) hW hD hB
  refine q_mIw (X_NM_read l D g q ws x2 x3 x4 hI t0_0 t0_1 t0_2 hT0 t1_0 t1_1 t1_2 t1_3 t1_4 t1_5 t1_6 hT1 t2_0 hT2 t3_0 hT3 t4_0 hT4 t5_0 hT5 t6_0 t6_1 t6_2 t6_3 t6_4 t6_5 t6_6 t6_7 t6_8 t6_9 t6_10 hT6 t7_0 hT7 t8_0 hT8 t9_0 hT9 t10_0 hT10 t11_0 hT11 t12_0 hT12 t13_0 t13_1 t13_2 t13_3 t13_4 t13_5 t13_6 t13_7 t13_8 t13_9 t13_10 t13_11 t13_12 t13_13 hT13 t14_0 hT14 t15_0 hT15 t16_0 hT16 t17_0 hT17 t18_0 hT18 ⟨trivial, hq.1⟩) ?_
  rintro r u ⟨hI2, hun, u0_0, u0_1, u1_0, u1_1, u1_2, u1_3, u1_4, u1_5, u1_6, u2_0, u3_0, u4_0, u5_0, u6_0, u6_1, u6_2, u6_3, u6_4, u6_5, u6_6, u6_7, u6_8, u6_9, u6_10, u7_0, u8_0, u9_0, u10_0, u11_0, u12_0, u13_0, u13_1, u13_2, u13_3, u13_4, u13_5, u13_6, u13_7, u13_8, u13_9, u13_10, u13_11, u13_12, u13_13, u14_0, u15_0, u16_0, u18_0, hU0, hU1, hU2, hU3, hU4, hU5, hU6, hU7, hU8, hU9, hU10, hU11, hU12, hU13, hU14, hU15, hU16, hU17, hR⟩
  have hp := hq.2
  rw [← hR.2.2.2.2.2.2.2.2.2.2.2.2.2.2.2.2.2.2.2.2.2.2.2.2.2.2.2.2.2.2.2.2.2.2.2.2.2.2.2.2.2.2.2.2.2.2.2.2] at hp
  exact ⟨hI2, ⟨⟨_, _, hU3, hU4, hp.1⟩, ⟨_, _, _, _, hU8, hU9, hU10, hU11, hp.2.1⟩, jZ_fr hM0.2.2.1 (hun 160 (by decide)), ⟨_, hU17, hp.2.2⟩⟩, jF_un hun (by decide)⟩
set_option maxRecDepth 100000 in
theorem CM_put (l : Launch) (D : va_G) (g : Nat → ClassId) (q : Nat → Nat) (ws : va_W) (x2 : Int32) (x3 : Int32) (x4 : Int64) (hI : q_I (msh g q) q ws) (hM : iM g q ws) : q_mV l y_NM_put prog_14_method_16_code 5 4 0 0 D g [.ref (q 116), .int x2, .int x3, .long x4] ws (fun u => jP g q ws u ∧ ∃ (tA tB tC : Int32), u[116]? = (some (q 116, .inr (12, [.int tA, .ref (q 117), .int tB, .ref (q 118), .int tC, .ref (q 119), .ref (q 134), .ref (q 145), .ref (q 153), .ref (q 157), .ref (q 167), .ref (q 168)])) : Option (Nat × va_E)) ∧ tA = kPut x2 x3 x4) := by
  have hM0 := hM
  obtain ⟨t2_0, t3_0, hT2, hT3, hW⟩ := hM.1
  obtain ⟨t6_0, t7_0, t8_0, t9_0, hT6, hT7, hT8, hT9, hD⟩ := hM.2.1
  obtain ⟨t11_0, hT11, hB⟩ := hM.2.2.2
  obtain ⟨t0_0, t0_1, t0_2, hT0, bT0⟩ := n_o116 hI
  obtain ⟨t1_0, t1_1, t1_2, t1_3, t1_4, t1_5, t1_6, hT1, bT1⟩ := n_o119 hI
  obtain ⟨t4_0, hT4, -⟩ := n_ai hI (n_s123 g q)
  obtain ⟨t5_0, t5_1, t5_2, t5_3, t5_4, t5_5, t5_6, t5_7, t5_8, t5_9, t5_10, hT5, bT5⟩ := n_o134 hI
  obtain ⟨t10_0, hT10, -⟩ := n_ai hI (n_s140 g q)
  have hq := T_NM_put (x2 := x2) (x3 := x3) (x4 := x4) (t0_0 := t0_0) (t0_1 := t0_1) (t0_2 := t0_2) (t1_0 := t1_0) (t1_1 := t1_1) (t1_2 := t1_2) (t1_3 := t1_3) (t1_4 := t1_4) (t1_5 := t1_5) (t1_6 := t1_6) (t2_0 := t2_0) (t3_0 := t3_0) (t4_0 := t4_0) (t5_0 := t5_0) (t5_1 := t5_1) (t5_2 := t5_2) (t5_3 := t5_3) (t5_4 := t5_4) (t5_5 := t5_5) (t5_6 := t5_6) (t5_7 := t5_7) (t5_8 := t5_8) (t5_9 := t5_9) (t5_10 := t5_10) (t6_0 := t6_0) (t7_0 := t7_0) (t8_0 := t8_0) (t9_0 := t9_0) (t10_0 := t10_0) (t11_0 := t11_0) hW hD hB
  refine q_mVw (X_NM_put l D g q ws x2 x3 x4 hI t0_0 t0_1 t0_2 hT0 t1_0 t1_1 t1_2 t1_3 t1_4 t1_5 t1_6 hT1 t2_0 hT2 t3_0 hT3 t4_0 hT4 t5_0 t5_1 t5_2 t5_3 t5_4 t5_5 t5_6 t5_7 t5_8 t5_9 t5_10 hT5 t6_0 hT6 t7_0 hT7 t8_0 hT8 t9_0 hT9 t10_0 hT10 t11_0 hT11 ⟨trivial, hq.1⟩) ?_
  rintro u ⟨hI2, hun, u0_0, u1_0, u1_1, u1_2, u1_3, u1_4, u1_5, u1_6, u2_0, u3_0, u4_0, u5_0, u5_1, u5_2, u5_3, u5_4, u5_5, u5_6, u5_7, u5_8, u5_9, u5_10, u6_0, u7_0, u8_0, u9_0, u10_0, u11_0, hU0, hU1, hU2, hU3, hU4, hU5, hU6, hU7, hU8, hU9, hU10, hU11, hR⟩
  have hp := hq.2
  rw [← hR.2.2.2.2.2.2.2.2.2.2.2.2.2.2.2.2.2.2.2.2.2.2.2.2.2.2.2.2] at hp
  have hz := M_put (x2 := x2) (x3 := x3) (x4 := x4) (t0_0 := t0_0) (t0_1 := t0_1) (t0_2 := t0_2) (t1_0 := t1_0) (t1_1 := t1_1) (t1_2 := t1_2) (t1_3 := t1_3) (t1_4 := t1_4) (t1_5 := t1_5) (t1_6 := t1_6) (t2_0 := t2_0) (t3_0 := t3_0) (t4_0 := t4_0) (t5_0 := t5_0) (t5_1 := t5_1) (t5_2 := t5_2) (t5_3 := t5_3) (t5_4 := t5_4) (t5_5 := t5_5) (t5_6 := t5_6) (t5_7 := t5_7) (t5_8 := t5_8) (t5_9 := t5_9) (t5_10 := t5_10) (t6_0 := t6_0) (t7_0 := t7_0) (t8_0 := t8_0) (t9_0 := t9_0) (t10_0 := t10_0) (t11_0 := t11_0)
  rw [← hR.2.2.2.2.2.2.2.2.2.2.2.2.2.2.2.2.2.2.2.2.2.2.2.2.2.2.2.2] at hz
  replace hz : u0_0 = kPut x2 x3 x4 := hz
  exact ⟨⟨hI2, ⟨⟨_, _, hU2, hU3, hp.1⟩, ⟨_, _, _, _, hU6, hU7, hU8, hU9, hp.2.1⟩, jZ_fr hM0.2.2.1 (hun 160 (by decide)), ⟨_, hU11, hp.2.2⟩⟩, jF_un hun (by decide)⟩, ⟨_, _, _, hU0, hz⟩⟩
set_option maxRecDepth 100000 in
theorem CM_whole (l : Launch) (D : va_G) (g : Nat → ClassId) (q : Nat → Nat) (ws : va_W) (x2 : Int32) (x3 : Int32) (x4 : Int32) (x5 : Int32) (hI : q_I (msh g q) q ws) (hM : iM g q ws) : q_mV l y_NM_whole prog_14_method_20_code 5 5 0 0 D g [.ref (q 116), .int x2, .int x3, .int x4, .int x5] ws (fun u => jP g q ws u) := by
  have hM0 := hM
  obtain ⟨t2_0, t3_0, hT2, hT3, hW⟩ := hM.1
  obtain ⟨t0_0, t0_1, t0_2, hT0, bT0⟩ := n_o116 hI
  obtain ⟨t1_0, t1_1, t1_2, t1_3, t1_4, t1_5, t1_6, hT1, bT1⟩ := n_o119 hI
  obtain ⟨t4_0, hT4, -⟩ := n_ai hI (n_s123 g q)
  obtain ⟨t5_0, hT5, -⟩ := n_ai hI (n_s124 g q)
  obtain ⟨t6_0, hT6, -⟩ := n_ai hI (n_s125 g q)
  obtain ⟨t7_0, hT7, -⟩ := n_ai hI (n_s126 g q)
  obtain ⟨t8_0, hT8, -⟩ := n_ai hI (n_s127 g q)
  obtain ⟨t9_0, hT9, -⟩ := n_ai hI (n_s128 g q)
  obtain ⟨t10_0, hT10, -⟩ := n_ai hI (n_s129 g q)
  obtain ⟨t11_0, hT11, -⟩ := n_ai hI (n_s130 g q)
  obtain ⟨t12_0, hT12, -⟩ := n_ai hI (n_s131 g q)
  obtain ⟨t13_0, hT13, -⟩ := n_ai hI (n_s132 g q)
  have hq := T_NM_whole (x2 := x2) (x3 := x3) (x4 := x4) (x5 := x5) (t0_0 := t0_0) (t0_1 := t0_1) (t0_2 := t0_2) (t1_0 := t1_0) (t1_1 := t1_1) (t1_2 := t1_2) (t1_3 := t1_3) (t1_4 := t1_4) (t1_5 := t1_5) (t1_6 := t1_6) (t2_0 := t2_0) (t3_0 := t3_0) (t4_0 := t4_0) (t5_0 := t5_0) (t6_0 := t6_0) (t7_0 := t7_0) (t8_0 := t8_0) (t9_0 := t9_0) (t10_0 := t10_0) (t11_0 := t11_0) (t12_0 := t12_0) (t13_0 := t13_0) hW
  refine q_mVw (X_NM_whole l D g q ws x2 x3 x4 x5 hI t0_0 t0_1 t0_2 hT0 t1_0 t1_1 t1_2 t1_3 t1_4 t1_5 t1_6 hT1 t2_0 hT2 t3_0 hT3 t4_0 hT4 t5_0 hT5 t6_0 hT6 t7_0 hT7 t8_0 hT8 t9_0 hT9 t10_0 hT10 t11_0 hT11 t12_0 hT12 t13_0 hT13 ⟨trivial, hq.1⟩) ?_
  rintro u ⟨hI2, hun, u0_0, u1_0, u1_1, u1_2, u1_3, u1_4, u1_5, u1_6, u2_0, u3_0, u4_0, u5_0, u6_0, u7_0, u8_0, u9_0, u10_0, u11_0, u12_0, u13_0, hU0, hU1, hU2, hU3, hU4, hU5, hU6, hU7, hU8, hU9, hU10, hU11, hU12, hU13, hR⟩
  have hp := hq.2
  rw [← hR.2.2.2.2.2.2.2.2.2.2] at hp
  exact ⟨hI2, ⟨⟨_, _, hU2, hU3, hp⟩, jD_fr hM0.2.1 (hun 136 (by decide)) (hun 137 (by decide)) (hun 138 (by decide)) (hun 139 (by decide)), jZ_fr hM0.2.2.1 (hun 160 (by decide)), jB_fr hM0.2.2.2 (hun 167 (by decide))⟩, jF_un hun (by decide)⟩
set_option maxRecDepth 100000 in
theorem CM_wholeBy (l : Launch) (D : va_G) (g : Nat → ClassId) (q : Nat → Nat) (ws : va_W) (x2 : Int32) (x3 : Int32) (x4 : Int32) (x5 : Int32) (hI : q_I (msh g q) q ws) (hM : iM g q ws) : q_mV l y_NM_wholeBy prog_14_method_21_code 5 5 0 0 D g [.ref (q 116), .int x2, .int x3, .int x4, .int x5] ws (fun u => jP g q ws u) := by
  have hM0 := hM
  obtain ⟨t2_0, t3_0, hT2, hT3, hW⟩ := hM.1
  obtain ⟨t0_0, t0_1, t0_2, hT0, bT0⟩ := n_o116 hI
  obtain ⟨t1_0, t1_1, t1_2, t1_3, t1_4, t1_5, t1_6, hT1, bT1⟩ := n_o119 hI
  obtain ⟨t4_0, hT4, -⟩ := n_ai hI (n_s123 g q)
  obtain ⟨t5_0, hT5, -⟩ := n_ai hI (n_s124 g q)
  obtain ⟨t6_0, hT6, -⟩ := n_ai hI (n_s125 g q)
  obtain ⟨t7_0, hT7, -⟩ := n_ai hI (n_s128 g q)
  have hq := T_NM_wholeBy (x2 := x2) (x3 := x3) (x4 := x4) (x5 := x5) (t0_0 := t0_0) (t0_1 := t0_1) (t0_2 := t0_2) (t1_0 := t1_0) (t1_1 := t1_1) (t1_2 := t1_2) (t1_3 := t1_3) (t1_4 := t1_4) (t1_5 := t1_5) (t1_6 := t1_6) (t2_0 := t2_0) (t3_0 := t3_0) (t4_0 := t4_0) (t5_0 := t5_0) (t6_0 := t6_0) (t7_0 := t7_0) hW
  refine q_mVw (X_NM_wholeBy l D g q ws x2 x3 x4 x5 hI t0_0 t0_1 t0_2 hT0 t1_0 t1_1 t1_2 t1_3 t1_4 t1_5 t1_6 hT1 t2_0 hT2 t3_0 hT3 t4_0 hT4 t5_0 hT5 t6_0 hT6 t7_0 hT7 ⟨trivial, hq.1⟩) ?_
  rintro u ⟨hI2, hun, u0_0, u1_0, u1_1, u1_2, u1_3, u1_4, u1_5, u1_6, u2_0, u3_0, u4_0, u5_0, u6_0, u7_0, hU0, hU1, hU2, hU3, hU4, hU5, hU6, hU7, hR⟩
  have hp := hq.2
  rw [← hR.2.2.2.2.2.2.2.2.2.2] at hp
  exact ⟨hI2, ⟨⟨_, _, hU2, hU3, hp⟩, jD_fr hM0.2.1 (hun 136 (by decide)) (hun 137 (by decide)) (hun 138 (by decide)) (hun 139 (by decide)), jZ_fr hM0.2.2.1 (hun 160 (by decide)), jB_fr hM0.2.2.2 (hun 167 (by decide))⟩, jF_un hun (by decide)⟩
set_option maxRecDepth 100000 in
theorem CM_powerModulo (l : Launch) (D : va_G) (g : Nat → ClassId) (q : Nat → Nat) (ws : va_W) (x2 : Int32) (x3 : Int32) (x4 : Int32) (x5 : Int32) (hI : q_I (msh g q) q ws) (hM : iM g q ws) : q_mV l y_NM_powerModulo prog_14_method_22_code 5 5 0 0 D g [.ref (q 116), .int x2, .int x3, .int x4, .int x5] ws (fun u => jP g q ws u) := by
  have hM0 := hM
  obtain ⟨t2_0, t3_0, hT2, hT3, hW⟩ := hM.1
  obtain ⟨t0_0, t0_1, t0_2, hT0, bT0⟩ := n_o116 hI
  obtain ⟨t1_0, t1_1, t1_2, t1_3, t1_4, t1_5, t1_6, hT1, bT1⟩ := n_o119 hI
  obtain ⟨t4_0, hT4, -⟩ := n_ai hI (n_s123 g q)
  obtain ⟨t5_0, hT5, -⟩ := n_ai hI (n_s124 g q)
  obtain ⟨t6_0, hT6, -⟩ := n_ai hI (n_s125 g q)
  obtain ⟨t7_0, hT7, -⟩ := n_ai hI (n_s126 g q)
  obtain ⟨t8_0, hT8, -⟩ := n_ai hI (n_s127 g q)
  obtain ⟨t9_0, hT9, -⟩ := n_ai hI (n_s128 g q)
  obtain ⟨t10_0, hT10, -⟩ := n_ai hI (n_s129 g q)
  obtain ⟨t11_0, hT11, -⟩ := n_ai hI (n_s130 g q)
  obtain ⟨t12_0, hT12, -⟩ := n_ai hI (n_s131 g q)
  obtain ⟨t13_0, hT13, -⟩ := n_ai hI (n_s132 g q)
  have hq := T_NM_powerModulo (x2 := x2) (x3 := x3) (x4 := x4) (x5 := x5) (t0_0 := t0_0) (t0_1 := t0_1) (t0_2 := t0_2) (t1_0 := t1_0) (t1_1 := t1_1) (t1_2 := t1_2) (t1_3 := t1_3) (t1_4 := t1_4) (t1_5 := t1_5) (t1_6 := t1_6) (t2_0 := t2_0) (t3_0 := t3_0) (t4_0 := t4_0) (t5_0 := t5_0) (t6_0 := t6_0) (t7_0 := t7_0) (t8_0 := t8_0) (t9_0 := t9_0) (t10_0 := t10_0) (t11_0 := t11_0) (t12_0 := t12_0) (t13_0 := t13_0) hW
  refine q_mVw (X_NM_powerModulo l D g q ws x2 x3 x4 x5 hI t0_0 t0_1 t0_2 hT0 t1_0 t1_1 t1_2 t1_3 t1_4 t1_5 t1_6 hT1 t2_0 hT2 t3_0 hT3 t4_0 hT4 t5_0 hT5 t6_0 hT6 t7_0 hT7 t8_0 hT8 t9_0 hT9 t10_0 hT10 t11_0 hT11 t12_0 hT12 t13_0 hT13 ⟨trivial, hq.1⟩) ?_
  rintro u ⟨hI2, hun, u0_0, u1_0, u1_1, u1_2, u1_3, u1_4, u1_5, u1_6, u2_0, u3_0, u4_0, u5_0, u6_0, u7_0, u8_0, u9_0, u10_0, u11_0, u12_0, u13_0, hU0, hU1, hU2, hU3, hU4, hU5, hU6, hU7, hU8, hU9, hU10, hU11, hU12, hU13, hR⟩
  have hp := hq.2
  rw [← hR.2.2.2.2.2.2.2.2.2.2.2.2] at hp
  exact ⟨hI2, ⟨⟨_, _, hU2, hU3, hp⟩, jD_fr hM0.2.1 (hun 136 (by decide)) (hun 137 (by decide)) (hun 138 (by decide)) (hun 139 (by decide)), jZ_fr hM0.2.2.1 (hun 160 (by decide)), jB_fr hM0.2.2.2 (hun 167 (by decide))⟩, jF_un hun (by decide)⟩
