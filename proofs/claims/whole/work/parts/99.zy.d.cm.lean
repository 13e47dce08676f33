set_option maxRecDepth 100000 in
theorem CM_print (l : Launch) (D : va_G) (g : Nat → ClassId) (q : Nat → Nat) (ws : va_W) (x2 : Int32) (x3 : Int32) (x4 : Int32) (hI : q_I (msh g q) q ws) (hM : iM g q ws) : q_mI l y_NM_print prog_14_method_33_code 7 (.int) 6 0 0 D g [.ref (q 116), .int x2, .int x3, .int x4] ws (fun _ u => jP g q ws u) := by
  have hM0 := hM
  obtain ⟨t2_0, t3_0, hT2, hT3, hW⟩ := hM.1
  obtain ⟨t7_0, t8_0, t9_0, t10_0, hT7, hT8, hT9, hT10, hD⟩ := hM.2.1
  obtain ⟨t21_0, hT21, hB⟩ := hM.2.2.2
  obtain ⟨t0_0, t0_1, t0_2, hT0, bT0⟩ := n_o116 hI
  obtain ⟨t1_0, t1_1, t1_2, t1_3, t1_4, t1_5, t1_6, hT1, bT1⟩ := n_o119 hI
  obtain ⟨t4_0, hT4, -⟩ := n_ai hI (n_s128 g q)
  obtain ⟨t5_0, hT5, -⟩ := n_ai hI (n_s133 g q)
  obtain ⟨t6_0, t6_1, t6_2, t6_3, t6_4, t6_5, t6_6, t6_7, t6_8, t6_9, t6_10, hT6, bT6⟩ := n_o134 hI
  obtain ⟨t11_0, hT11, -⟩ := n_ai hI (n_s144 g q)
  obtain ⟨t12_0, t12_1, t12_2, t12_3, t12_4, t12_5, t12_6, t12_7, t12_8, t12_9, t12_10, hT12, bT12⟩ := n_o145 hI
  obtain ⟨t13_0, hT13, -⟩ := n_ai hI (n_s146 g q)
  obtain ⟨t14_0, hT14, -⟩ := n_ai hI (n_s147 g q)
  obtain ⟨t15_0, hT15, -⟩ := n_ai hI (n_s148 g q)
  obtain ⟨t16_0, hT16, -⟩ := n_ai hI (n_s149 g q)
  obtain ⟨t17_0, hT17, -⟩ := n_ai hI (n_s150 g q)
  obtain ⟨t18_0, hT18, -⟩ := n_ai hI (n_s151 g q)
  obtain ⟨t19_0, hT19, -⟩ := n_ai hI (n_s152 g q)
  obtain ⟨t20_0, hT20, -⟩ := n_ai hI (n_s118 g q)
  have hq := T_NM_print (x2 := x2) (x3 := x3) (x4 := x4) (t0_0 := t0_0) (t0_1 := t0_1) (t0_2 := t0_2) (t1_0 := t1_0) (t1_1 := t1_1) (t1_2 := t1_2) (t1_3 := t1_3) (t1_4 := t1_4) (t1_5 := t1_5) (t1_6 := t1_6) (t2_0 := t2_0) (t3_0 := t3_0) (t4_0 := t4_0) (t5_0 := t5_0) (t6_0 := t6_0) (t6_1 := t6_1) (t6_2 := t6_2) (t6_3 := t6_3) (t6_4 := t6_4) (t6_5 := t6_5) (t6_6 := t6_6) (t6_7 := t6_7) (t6_8 := t6_8) (t6_9 := t6_9) (t6_10 := t6_10) (t7_0 := t7_0) (t8_0 := t8_0) (t9_0 := t9_0) (t10_0 := t10_0) (t11_0 := t11_0) (t12_0 := t12_0) (t12_1 := t12_1) (t12_2 := t12_2) (t12_3 := t12_3) (t12_4 := t12_4) (t12_5 := t12_5) (t12_6 := t12_6) (t12_7 := t12_7) (t12_8 := t12_8) (t12_9 := t12_9) (t12_10 := t12_10) (t13_0 := t13_0) (t14_0 := t14_0) (t15_0 := t15_0) (t16_0 := t16_0) (t17_0 := t17_0) (t18_0 := t18_0) (t19_0 := t19_0) (t20_0 := t20_0) (t21_0 := t21_0) hW hD hB
  refine q_mIw (X_NM_print l D g q ws x2 x3 x4 hI t0_0 t0_1 t0_2 hT0 t1_0 t1_1 t1_2 t1_3 t1_4 t1_5 t1_6 hT1 t2_0 hT2 t3_0 hT3 t4_0 hT4 t5_0 hT5 t6_0 t6_1 t6_2 t6_3 t6_4 t6_5 t6_6 t6_7 t6_8 t6_9 t6_10 hT6 t7_0 hT7 t8_0 hT8 t9_0 hT9 t10_0 hT10 t11_0 hT11 t12_0 t12_1 t12_2 t12_3 t12_4 t12_5 t12_6 t12_7 t12_8 t12_9 t12_10 hT12 t13_0 hT13 t14_0 hT14 t15_0 hT15 t16_0 hT16 t17_0 hT17 t18_0 hT18 t19_0 hT19 t20_0 hT20 t21_0 hT21 ⟨trivial, hq⟩) ?_
  rintro r u ⟨hI2, hun, u0_0, u0_2, u1_0, u1_1, u1_2, u1_3, u1_4, u1_5, u1_6, u4_0, u5_0, u6_0, u6_1, u6_2, u6_3, u6_4, u6_5, u6_6, u6_7, u6_8, u6_9, u6_10, u11_0, u12_0, u12_1, u12_2, u12_3, u12_4, u12_5, u12_6, u12_7, u12_8, u12_9, u12_10, u13_0, u14_0, u15_0, u16_0, u17_0, u18_0, u19_0, u20_0, hU0, hU1, hU2, hU3, hU4, hU5, hU6, hU7, hU8, hU9, hU10, hU11, hU12, hU13, hU14, hR⟩
  exact ⟨hI2, ⟨jW_fr hM0.1 (hun 121 (by decide)) (hun 122 (by decide)), jD_fr hM0.2.1 (hun 136 (by decide)) (hun 137 (by decide)) (hun 138 (by decide)) (hun 139 (by decide)), jZ_fr hM0.2.2.1 (hun 160 (by decide)), jB_fr hM0.2.2.2 (hun 167 (by decide))⟩, jF_un hun (by decide)⟩
set_option maxRecDepth 100000 in
theorem CM_figures (l : Launch) (D : va_G) (g : Nat → ClassId) (q : Nat → Nat) (ws : va_W) (x2 : Int32) (x3 : Int32) (x4 : Int32) (x5 : Int32) (x6 : Int32) (hzx4 : 0 ≤ x4.toInt ∧ x4.toInt ≤ 1) (hI : q_I (msh g q) q ws) (hM : iM g q ws) : q_mI l y_NM_figures prog_14_method_34_code 9 (.int) 4 0 0 D g [.ref (q 116), .int x2, .int x3, .int x4, .int x5, .int x6] ws (fun _ u => jP g q ws u) := by
  have hM0 := hM
  obtain ⟨t8_0, hT8, hB⟩ := hM.2.2.2
  obtain ⟨t0_0, t0_1, t0_2, hT0, bT0⟩ := n_o116 hI
  obtain ⟨t1_0, t1_1, t1_2, t1_3, t1_4, t1_5, t1_6, t1_7, t1_8, t1_9, t1_10, hT1, bT1⟩ := n_o145 hI
  obtain ⟨t2_0, hT2, -⟩ := n_ai hI (n_s146 g q)
  obtain ⟨t3_0, hT3, -⟩ := n_ai hI (n_s147 g q)
  obtain ⟨t4_0, hT4, -⟩ := n_ai hI (n_s148 g q)
  obtain ⟨t5_0, hT5, -⟩ := n_ai hI (n_s151 g q)
  obtain ⟨t6_0, hT6, -⟩ := n_ai hI (n_s152 g q)
  obtain ⟨t7_0, hT7, -⟩ := n_ai hI (n_s118 g q)
  have hq := T_NM_figures (x2 := x2) (x3 := x3) (x4 := x4) (x5 := x5) (x6 := x6) (t0_0 := t0_0) (t0_1 := t0_1) (t0_2 := t0_2) (t1_0 := t1_0) (t1_1 := t1_1) (t1_2 := t1_2) (t1_3 := t1_3) (t1_4 := t1_4) (t1_5 := t1_5) (t1_6 := t1_6) (t1_7 := t1_7) (t1_8 := t1_8) (t1_9 := t1_9) (t1_10 := t1_10) (t2_0 := t2_0) (t3_0 := t3_0) (t4_0 := t4_0) (t5_0 := t5_0) (t6_0 := t6_0) (t7_0 := t7_0) (t8_0 := t8_0) hB
  refine q_mIw (X_NM_figures l D g q ws x2 x3 x4 x5 x6 hI t0_0 t0_1 t0_2 hT0 t1_0 t1_1 t1_2 t1_3 t1_4 t1_5 t1_6 t1_7 t1_8 t1_9 t1_10 hT1 t2_0 hT2 t3_0 hT3 t4_0 hT4 t5_0 hT5 t6_0 hT6 t7_0 hT7 t8_0 hT8 hzx4 ⟨trivial, hq⟩) ?_
  rintro r u ⟨hI2, hun, u0_0, u0_2, u1_0, u1_1, u1_2, u1_3, u1_4, u1_5, u1_6, u1_7, u1_8, u1_9, u1_10, u2_0, u3_0, u4_0, u5_0, u6_0, u7_0, hU0, hU1, hU2, hU3, hU4, hU5, hU6, hU7, hR⟩
  exact ⟨hI2, ⟨jW_fr hM0.1 (hun 121 (by decide)) (hun 122 (by decide)), jD_fr hM0.2.1 (hun 136 (by decide)) (hun 137 (by decide)) (hun 138 (by decide)) (hun 139 (by decide)), jZ_fr hM0.2.2.1 (hun 160 (by decide)), jB_fr hM0.2.2.2 (hun 167 (by decide))⟩, jF_un hun (by decide)⟩
set_option maxRecDepth 100000 in
theorem CM_argument (l : Launch) (D : va_G) (g : Nat → ClassId) (q : Nat → Nat) (ws : va_W) (x2 : Int32) (x3 : Int32) (hI : q_I (msh g q) q ws) (hM : iM g q ws) : q_mI l y_NM_argument prog_14_method_37_code 5 (.int) 4 0 0 D g [.ref (q 116), .int x2, .int x3] ws (fun _ u => jP g q ws u) := by
  have hM0 := hM
  obtain ⟨t2_0, t3_0, hT2, hT3, hW⟩ := hM.1
  obtain ⟨t5_0, t6_0, t7_0, t8_0, hT5, hT6, hT7, hT8, hD⟩ := hM.2.1
  obtain ⟨t12_0, hT12, hZ⟩ := hM.2.2.1
  obtain ⟨t0_0, t0_1, t0_2, hT0, bT0⟩ := n_o116 hI
  obtain ⟨t1_0, t1_1, t1_2, t1_3, t1_4, t1_5, t1_6, hT1, bT1⟩ := n_o119 hI
  obtain ⟨t4_0, t4_1, t4_2, t4_3, t4_4, t4_5, t4_6, t4_7, t4_8, t4_9, t4_10, hT4, bT4⟩ := n_o134 hI
  obtain ⟨t9_0, t9_1, t9_2, t9_3, t9_4, t9_5, t9_6, t9_7, t9_8, t9_9, t9_10, t9_11, t9_12, t9_13, t9_14, t9_15, t9_16, t9_17, t9_18, t9_19, t9_20, t9_21, hT9, bT9⟩ := n_o157 hI
  obtain ⟨t10_0, hT10, -⟩ := n_ai hI (n_s158 g q)
  obtain ⟨t11_0, hT11, -⟩ := n_ai hI (n_s159 g q)
  obtain ⟨t13_0, hT13⟩ := n_al hI (n_s161 g q)
  obtain ⟨t14_0, hT14, -⟩ := n_ai hI (n_s162 g q)
  obtain ⟨t15_0, hT15, -⟩ := n_ai hI (n_s117 g q)
  obtain ⟨t16_0, hT16⟩ := n_al hI (n_s168 g q)
  have hq := T_NM_argument (x2 := x2) (x3 := x3) (t0_0 := t0_0) (t0_1 := t0_1) (t0_2 := t0_2) (t1_0 := t1_0) (t1_1 := t1_1) (t1_2 := t1_2) (t1_3 := t1_3) (t1_4 := t1_4) (t1_5 := t1_5) (t1_6 := t1_6) (t2_0 := t2_0) (t3_0 := t3_0) (t4_0 := t4_0) (t4_1 := t4_1) (t4_2 := t4_2) (t4_3 := t4_3) (t4_4 := t4_4) (t4_5 := t4_5) (t4_6 := t4_6) (t4_7 := t4_7) (t4_8 := t4_8) (t4_9 := t4_9) (t4_10 := t4_10) (t5_0 := t5_0) (t6_0 := t6_0) (t7_0 := t7_0) (t8_0 := t8_0) (t9_0 := t9_0) (t9_1 := t9_1) (t9_2 := t9_2) (t9_3 := t9_3) (t9_4 := t9_4) (t9_5 := t9_5) (t9_6 := t9_6) (t9_7 := t9_7) (t9_8 := t9_8) (t9_9 := t9_9) (t9_10 := t9_10) (t9_11 := t9_11) (t9_12 := t9_12) (t9_13 := t9_13) (t9_14 := t9_14) (t9_15 := t9_15) (t9_16 := t9_16) (t9_17 := t9_17) (t9_18 := t9_18) (t9_19 := t9_19) (t9_20 := t9_20) (t9_21 := t9_21) (t10_0 := t10_0) (t11_0 := t11_0) (t12_0 := t12_0) (t13_0 := t13_0) (t14_0 := t14_0) (t15_0 := t15_0) (t16_0 := t16_0) hW hD hZ (by first | exact bT0 | exact bT0.1 | exact bT0.2 | exact bT0.2.1 | exact bT0.2.2 | exact bT0.2.2.1 | exact bT0.2.2.2) (by first | exact bT9 | exact bT9.1 | exact bT9.2 | exact bT9.2.1 | exact bT9.2.2 | exact bT9.2.2.1 | exact bT9.2.2.2)
  refine q_mIw (X_NM_argument l D g q ws x2 x3 hI t0_0 t0_1 t0_2 hT0 t1_0 t1_1 t1_2 t1_3 t1_4 t1_5 t1_6 hT1 t2_0 hT2 t3_0 hT3 t4_0 t4_1 t4_2 t4_3 t4_4 t4_5 t4_6 t4_7 t4_8 t4_9 t4_10 hT4 t5_0 hT5 t6_0 hT6 t7_0 hT7 t8_0 hT8 t9_0 t9_1 t9_2 t9_3 t9_4 t9_5 t9_6 t9_7 t9_8 t9_9 t9_10 t9_11 t9_12 t9_13 t9_14 t9_15 t9_16 t9_17 t9_18 t9_19 t9_20 t9_21 hT9 t10_0 hT10 t11_0 hT11 t12_0 hT12 t13_0 hT13 t14_0 hT14 t15_0 hT15 t16_0 hT16 ⟨trivial, hq.1⟩) ?_
  rintro r u ⟨hI2, hun, u0_0, u0_1, u1_0, u1_1, u1_2, u1_3, u1_4, u1_5, u1_6, u9_0, u9_1, u9_2, u10_0, u11_0, u12_0, u13_0, u14_0, u16_0, hU0, hU1, hU2, hU3, hU4, hU5, hU6, hU7, hU8, hR⟩
  have hp := hq.2
  rw [← hR.2.2.2.2.2.2.2.2.2.2.2.2.2.2.2.2.2.2.2.2.2.2.2.2.2.2.2.2.2.2.2.2.2.2.2.2.2.2.2] at hp
  exact ⟨hI2, ⟨jW_fr hM0.1 (hun 121 (by decide)) (hun 122 (by decide)), jD_fr hM0.2.1 (hun 136 (by decide)) (hun 137 (by decide)) (hun 138 (by decide)) (hun 139 (by decide)), ⟨_, hU5, hp⟩, jB_fr hM0.2.2.2 (hun 167 (by decide))⟩, jF_un hun (by decide)⟩
set_option maxRecDepth 100000 in
theorem CM_format (l : Launch) (D : va_G) (g : Nat → ClassId) (q : Nat → Nat) (ws : va_W) (hI : q_I (msh g q) q ws) (hM : iM g q ws) : q_mI l y_NM_format prog_14_method_38_code 2 (.int) 10 0 0 D g [.ref (q 116)] ws (fun _ u => jP g q ws u) := by
  have hM0 := hM
  obtain ⟨t4_0, hT4, hZ⟩ := hM.2.2.1
  obtain ⟨t0_0, t0_1, t0_2, hT0, bT0⟩ := n_o116 hI
  obtain ⟨t1_0, t1_1, t1_2, t1_3, t1_4, t1_5, t1_6, t1_7, t1_8, t1_9, t1_10, t1_11, t1_12, t1_13, t1_14, t1_15, t1_16, t1_17, t1_18, t1_19, t1_20, t1_21, hT1, bT1⟩ := n_o157 hI
  obtain ⟨t2_0, hT2, -⟩ := n_ai hI (n_s158 g q)
  obtain ⟨t3_0, hT3, -⟩ := n_ai hI (n_s159 g q)
  obtain ⟨t5_0, hT5⟩ := n_al hI (n_s161 g q)
  obtain ⟨t6_0, hT6, -⟩ := n_ai hI (n_s162 g q)
  obtain ⟨t7_0, hT7, -⟩ := n_ai hI (n_s163 g q)
  obtain ⟨t8_0, hT8, -⟩ := n_ai hI (n_s164 g q)
  obtain ⟨t9_0, hT9, -⟩ := n_ai hI (n_s165 g q)
  obtain ⟨t10_0, hT10, -⟩ := n_ai hI (n_s166 g q)
  obtain ⟨t11_0, hT11, -⟩ := n_ai hI (n_s117 g q)
  obtain ⟨t12_0, hT12, -⟩ := n_ai hI (n_s118 g q)
  have hq := T_NM_format (t0_0 := t0_0) (t0_1 := t0_1) (t0_2 := t0_2) (t1_0 := t1_0) (t1_1 := t1_1) (t1_2 := t1_2) (t1_3 := t1_3) (t1_4 := t1_4) (t1_5 := t1_5) (t1_6 := t1_6) (t1_7 := t1_7) (t1_8 := t1_8) (t1_9 := t1_9) (t1_10 := t1_10) (t1_11 := t1_11) (t1_12 := t1_12) (t1_13 := t1_13) (t1_14 := t1_14) (t1_15 := t1_15) (t1_16 := t1_16) (t1_17 := t1_17) (t1_18 := t1_18) (t1_19 := t1_19) (t1_20 := t1_20) (t1_21 := t1_21) (t2_0 := t2_0) (t3_0 := t3_0) (t4_0 := t4_0) (t5_0 := t5_0) (t6_0 := t6_0) (t7_0 := t7_0) (t8_0 := t8_0) (t9_0 := t9_0) (t10_0 := t10_0) (t11_0 := t11_0) (t12_0 := t12_0) hZ (by first | exact bT0 | exact bT0.1 | exact bT0.2 | exact bT0.2.1 | exact bT0.2.2 | exact bT0.2.2.1 | exact bT0.2.2.2) (by first | exact bT1 | exact bT1.1 | exact bT1.2 | exact bT1.2.1 | exact bT1.2.2 | exact bT1.2.2.1 | exact bT1.2.2.2)
  refine q_mIw (X_NM_format l D g q ws hI t0_0 t0_1 t0_2 hT0 t1_0 t1_1 t1_2 t1_3 t1_4 t1_5 t1_6 t1_7 t1_8 t1_9 t1_10 t1_11 t1_12 t1_13 t1_14 t1_15 t1_16 t1_17 t1_18 t1_19 t1_20 t1_21 hT1 t2_0 hT2 t3_0 hT3 t4_0 hT4 t5_0 hT5 t6_0 hT6 t7_0 hT7 t8_0 hT8 t9_0 hT9 t10_0 hT10 t11_0 hT11 t12_0 hT12 ⟨trivial, hq⟩) ?_
  rintro r u ⟨hI2, hun, u0_0, u0_1, u0_2, u1_0, u1_1, u1_3, u1_4, u1_5, u1_6, u1_7, u1_8, u1_9, u1_10, u1_11, u1_12, u1_13, u1_14, u1_15, u1_16, u1_17, u1_18, u1_19, u1_20, u1_21, u2_0, u7_0, u8_0, u9_0, u10_0, u12_0, hU0, hU1, hU2, hU3, hU4, hU5, hU6, hU7, hR⟩
  exact ⟨hI2, ⟨jW_fr hM0.1 (hun 121 (by decide)) (hun 122 (by decide)), jD_fr hM0.2.1 (hun 136 (by decide)) (hun 137 (by decide)) (hun 138 (by decide)) (hun 139 (by decide)), jZ_fr hM0.2.2.1 (hun 160 (by decide)), jB_fr hM0.2.2.2 (hun 167 (by decide))⟩, jF_un hun (by decide)⟩
