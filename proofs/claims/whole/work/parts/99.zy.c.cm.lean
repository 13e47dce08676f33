set_option maxRecDepth 100000 in
theorem CM_decimal (l : Launch) (D : va_G) (g : Nat → ClassId) (q : Nat → Nat) (ws : va_W) (x2 : Int32) (x3 : Int32) (x4 : Int32) (x5 : Int32) (hI : q_I (msh g q) q ws) (hM : iM g q ws) : q_mV l y_NM_decimal prog_14_method_23_code 5 6 0 0 D g [.ref (q 116), .int x2, .int x3, .int x4, .int x5] ws (fun u => jP g q ws u) := by
  have hM0 := hM
  obtain ⟨t2_0, t3_0, t4_0, t5_0, hT2, hT3, hT4, hT5, hD⟩ := hM.2.1
  obtain ⟨t0_0, t0_1, t0_2, hT0, bT0⟩ := n_o116 hI
  obtain ⟨t1_0, t1_1, t1_2, t1_3, t1_4, t1_5, t1_6, t1_7, t1_8, t1_9, t1_10, hT1, bT1⟩ := n_o134 hI
  obtain ⟨t6_0, hT6, -⟩ := n_ai hI (n_s140 g q)
  obtain ⟨t7_0, hT7, -⟩ := n_ai hI (n_s141 g q)
  obtain ⟨t8_0, hT8, -⟩ := n_ai hI (n_s142 g q)
  obtain ⟨t9_0, hT9, -⟩ := n_ai hI (n_s143 g q)
  have hq := T_NM_decimal (x2 := x2) (x3 := x3) (x4 := x4) (x5 := x5) (t0_0 := t0_0) (t0_1 := t0_1) (t0_2 := t0_2) (t1_0 := t1_0) (t1_1 := t1_1) (t1_2 := t1_2) (t1_3 := t1_3) (t1_4 := t1_4) (t1_5 := t1_5) (t1_6 := t1_6) (t1_7 := t1_7) (t1_8 := t1_8) (t1_9 := t1_9) (t1_10 := t1_10) (t2_0 := t2_0) (t3_0 := t3_0) (t4_0 := t4_0) (t5_0 := t5_0) (t6_0 := t6_0) (t7_0 := t7_0) (t8_0 := t8_0) (t9_0 := t9_0) hD
  refine q_mVw (X_NM_decimal l D g q ws x2 x3 x4 x5 hI t0_0 t0_1 t0_2 hT0 t1_0 t1_1 t1_2 t1_3 t1_4 t1_5 t1_6 t1_7 t1_8 t1_9 t1_10 hT1 t2_0 hT2 t3_0 hT3 t4_0 hT4 t5_0 hT5 t6_0 hT6 t7_0 hT7 t8_0 hT8 t9_0 hT9 ⟨trivial, hq.1⟩) ?_
  rintro u ⟨hI2, hun, u0_0, u1_0, u1_1, u1_2, u1_3, u1_4, u1_5, u1_6, u1_7, u1_8, u1_9, u1_10, u2_0, u3_0, u4_0, u5_0, u6_0, u7_0, u8_0, u9_0, hU0, hU1, hU2, hU3, hU4, hU5, hU6, hU7, hU8, hU9, hR⟩
  have hp := hq.2
  rw [← hR.2.2.2.2.2.2.2.2.2.2.2.2] at hp
  exact ⟨hI2, ⟨jW_fr hM0.1 (hun 121 (by decide)) (hun 122 (by decide)), ⟨_, _, _, _, hU2, hU3, hU4, hU5, hp⟩, jZ_fr hM0.2.2.1 (hun 160 (by decide)), jB_fr hM0.2.2.2 (hun 167 (by decide))⟩, jF_un hun (by decide)⟩
set_option maxRecDepth 100000 in
theorem CM_decimalBy (l : Launch) (D : va_G) (g : Nat → ClassId) (q : Nat → Nat) (ws : va_W) (x2 : Int32) (x3 : Int32) (x4 : Int32) (x5 : Int32) (hI : q_I (msh g q) q ws) (hM : iM g q ws) : q_mV l y_NM_decimalBy prog_14_method_24_code 5 4 0 0 D g [.ref (q 116), .int x2, .int x3, .int x4, .int x5] ws (fun u => jP g q ws u) := by
  have hM0 := hM
  obtain ⟨t2_0, t3_0, t4_0, t5_0, hT2, hT3, hT4, hT5, hD⟩ := hM.2.1
  obtain ⟨t0_0, t0_1, t0_2, hT0, bT0⟩ := n_o116 hI
  obtain ⟨t1_0, t1_1, t1_2, t1_3, t1_4, t1_5, t1_6, t1_7, t1_8, t1_9, t1_10, hT1, bT1⟩ := n_o134 hI
  obtain ⟨t6_0, hT6, -⟩ := n_ai hI (n_s140 g q)
  obtain ⟨t7_0, hT7, -⟩ := n_ai hI (n_s141 g q)
  have hq := T_NM_decimalBy (x2 := x2) (x3 := x3) (x4 := x4) (x5 := x5) (t0_0 := t0_0) (t0_1 := t0_1) (t0_2 := t0_2) (t1_0 := t1_0) (t1_1 := t1_1) (t1_2 := t1_2) (t1_3 := t1_3) (t1_4 := t1_4) (t1_5 := t1_5) (t1_6 := t1_6) (t1_7 := t1_7) (t1_8 := t1_8) (t1_9 := t1_9) (t1_10 := t1_10) (t2_0 := t2_0) (t3_0 := t3_0) (t4_0 := t4_0) (t5_0 := t5_0) (t6_0 := t6_0) (t7_0 := t7_0) hD
  refine q_mVw (X_NM_decimalBy l D g q ws x2 x3 x4 x5 hI t0_0 t0_1 t0_2 hT0 t1_0 t1_1 t1_2 t1_3 t1_4 t1_5 t1_6 t1_7 t1_8 t1_9 t1_10 hT1 t2_0 hT2 t3_0 hT3 t4_0 hT4 t5_0 hT5 t6_0 hT6 t7_0 hT7 ⟨trivial, hq.1⟩) ?_
  rintro u ⟨hI2, hun, u0_0, u1_0, u1_1, u1_2, u1_3, u1_4, u1_5, u1_6, u1_7, u1_8, u1_9, u1_10, u2_0, u3_0, u4_0, u5_0, u6_0, u7_0, hU0, hU1, hU2, hU3, hU4, hU5, hU6, hU7, hR⟩
  have hp := hq.2
  rw [← hR.2.2.2.2.2.2.2.2.2.2.2.2.2.2] at hp
  exact ⟨hI2, ⟨jW_fr hM0.1 (hun 121 (by decide)) (hun 122 (by decide)), ⟨_, _, _, _, hU2, hU3, hU4, hU5, hp⟩, jZ_fr hM0.2.2.1 (hun 160 (by decide)), jB_fr hM0.2.2.2 (hun 167 (by decide))⟩, jF_un hun (by decide)⟩
set_option maxRecDepth 100000 in
theorem CM_divide (l : Launch) (D : va_G) (g : Nat → ClassId) (q : Nat → Nat) (ws : va_W) (x2 : Int32) (x3 : Int32) (x4 : Int32) (x5 : Int32) (x6 : Int32) (hI : q_I (msh g q) q ws) (hM : iM g q ws) : q_mV l y_NM_divide prog_14_method_25_code 6 5 0 0 D g [.ref (q 116), .int x2, .int x3, .int x4, .int x5, .int x6] ws (fun u => jP g q ws u) := by
  have hM0 := hM
  obtain ⟨t2_0, t3_0, t4_0, t5_0, hT2, hT3, hT4, hT5, hD⟩ := hM.2.1
  obtain ⟨t0_0, t0_1, t0_2, hT0, bT0⟩ := n_o116 hI
  obtain ⟨t1_0, t1_1, t1_2, t1_3, t1_4, t1_5, t1_6, t1_7, t1_8, t1_9, t1_10, hT1, bT1⟩ := n_o134 hI
  obtain ⟨t6_0, hT6, -⟩ := n_ai hI (n_s140 g q)
  obtain ⟨t7_0, hT7, -⟩ := n_ai hI (n_s142 g q)
  obtain ⟨t8_0, hT8, -⟩ := n_ai hI (n_s143 g q)
  have hq := T_NM_divide (x2 := x2) (x3 := x3) (x4 := x4) (x5 := x5) (x6 := x6) (t0_0 := t0_0) (t0_1 := t0_1) (t0_2 := t0_2) (t1_0 := t1_0) (t1_1 := t1_1) (t1_2 := t1_2) (t1_3 := t1_3) (t1_4 := t1_4) (t1_5 := t1_5) (t1_6 := t1_6) (t1_7 := t1_7) (t1_8 := t1_8) (t1_9 := t1_9) (t1_10 := t1_10) (t2_0 := t2_0) (t3_0 := t3_0) (t4_0 := t4_0) (t5_0 := t5_0) (t6_0 := t6_0) (t7_0 := t7_0) (t8_0 := t8_0) hD
  refine q_mVw (X_NM_divide l D g q ws x2 x3 x4 x5 x6 hI t0_0 t0_1 t0_2 hT0 t1_0 t1_1 t1_2 t1_3 t1_4 t1_5 t1_6 t1_7 t1_8 t1_9 t1_10 hT1 t2_0 hT2 t3_0 hT3 t4_0 hT4 t5_0 hT5 t6_0 hT6 t7_0 hT7 t8_0 hT8 ⟨trivial, hq.1⟩) ?_
  rintro u ⟨hI2, hun, u0_0, u1_0, u1_1, u1_2, u1_3, u1_4, u1_5, u1_6, u1_7, u1_8, u1_9, u1_10, u2_0, u3_0, u4_0, u5_0, u6_0, u7_0, u8_0, hU0, hU1, hU2, hU3, hU4, hU5, hU6, hU7, hU8, hR⟩
  have hp := hq.2
  rw [← hR.2.2.2.2.2.2.2.2.2.2.2.2] at hp
  exact ⟨hI2, ⟨jW_fr hM0.1 (hun 121 (by decide)) (hun 122 (by decide)), ⟨_, _, _, _, hU2, hU3, hU4, hU5, hp⟩, jZ_fr hM0.2.2.1 (hun 160 (by decide)), jB_fr hM0.2.2.2 (hun 167 (by decide))⟩, jF_un hun (by decide)⟩
set_option maxRecDepth 100000 in
theorem CM_quotient (l : Launch) (D : va_G) (g : Nat → ClassId) (q : Nat → Nat) (ws : va_W) (x2 : Int32) (x3 : Int32) (x4 : Int32) (x5 : Int32) (x6 : Int32) (hI : q_I (msh g q) q ws) (hM : iM g q ws) : q_mV l y_NM_quotient prog_14_method_26_code 6 6 0 0 D g [.ref (q 116), .int x2, .int x3, .int x4, .int x5, .int x6] ws (fun u => jP g q ws u) := by
  have hM0 := hM
  obtain ⟨t2_0, t3_0, t4_0, t5_0, hT2, hT3, hT4, hT5, hD⟩ := hM.2.1
  obtain ⟨t0_0, t0_1, t0_2, hT0, bT0⟩ := n_o116 hI
  obtain ⟨t1_0, t1_1, t1_2, t1_3, t1_4, t1_5, t1_6, t1_7, t1_8, t1_9, t1_10, hT1, bT1⟩ := n_o134 hI
  obtain ⟨t6_0, hT6, -⟩ := n_ai hI (n_s140 g q)
  obtain ⟨t7_0, hT7, -⟩ := n_ai hI (n_s142 g q)
  obtain ⟨t8_0, hT8, -⟩ := n_ai hI (n_s143 g q)
  have hq := T_NM_quotient (x2 := x2) (x3 := x3) (x4 := x4) (x5 := x5) (x6 := x6) (t0_0 := t0_0) (t0_1 := t0_1) (t0_2 := t0_2) (t1_0 := t1_0) (t1_1 := t1_1) (t1_2 := t1_2) (t1_3 := t1_3) (t1_4 := t1_4) (t1_5 := t1_5) (t1_6 := t1_6) (t1_7 := t1_7) (t1_8 := t1_8) (t1_9 := t1_9) (t1_10 := t1_10) (t2_0 := t2_0) (t3_0 := t3_0) (t4_0 := t4_0) (t5_0 := t5_0) (t6_0 := t6_0) (t7_0 := t7_0) (t8_0 := t8_0) hD
  refine q_mVw (X_NM_quotient l D g q ws x2 x3 x4 x5 x6 hI t0_0 t0_1 t0_2 hT0 t1_0 t1_1 t1_2 t1_3 t1_4 t1_5 t1_6 t1_7 t1_8 t1_9 t1_10 hT1 t2_0 hT2 t3_0 hT3 t4_0 hT4 t5_0 hT5 t6_0 hT6 t7_0 hT7 t8_0 hT8 ⟨trivial, hq.1⟩) ?_
  rintro u ⟨hI2, hun, u0_0, u1_0, u1_1, u1_2, u1_3, u1_4, u1_5, u1_6, u1_7, u1_8, u1_9, u1_10, u2_0, u3_0, u4_0, u5_0, u6_0, u7_0, u8_0, hU0, hU1, hU2, hU3, hU4, hU5, hU6, hU7, hU8, hR⟩
  have hp := hq.2
  rw [← hR.2.2.2.2.2.2.2.2.2.2.2.2.2] at hp
  exact ⟨hI2, ⟨jW_fr hM0.1 (hun 121 (by decide)) (hun 122 (by decide)), ⟨_, _, _, _, hU2, hU3, hU4, hU5, hp⟩, jZ_fr hM0.2.2.1 (hun 160 (by decide)), jB_fr hM0.2.2.2 (hun 167 (by decide))⟩, jF_un hun (by decide)⟩
set_option maxRecDepth 100000 in
theorem CM_shape (l : Launch) (D : va_G) (g : Nat → ClassId) (q : Nat → Nat) (ws : va_W) (x2 : Int32) (x3 : Int32) (x4 : Int32) (x5 : Int32) (x6 : Int32) (hI : q_I (msh g q) q ws) (hM : iM g q ws) : q_mV l y_NM_shape prog_14_method_27_code 6 6 0 0 D g [.ref (q 116), .int x2, .int x3, .int x4, .int x5, .int x6] ws (fun u => jP g q ws u) := by
  have hM0 := hM
  obtain ⟨t2_0, t3_0, t4_0, t5_0, hT2, hT3, hT4, hT5, hD⟩ := hM.2.1
  obtain ⟨t0_0, t0_1, t0_2, hT0, bT0⟩ := n_o116 hI
  obtain ⟨t1_0, t1_1, t1_2, t1_3, t1_4, t1_5, t1_6, t1_7, t1_8, t1_9, t1_10, hT1, bT1⟩ := n_o134 hI
  obtain ⟨t6_0, hT6, -⟩ := n_ai hI (n_s140 g q)
  obtain ⟨t7_0, hT7, -⟩ := n_ai hI (n_s141 g q)
  obtain ⟨t8_0, hT8, -⟩ := n_ai hI (n_s142 g q)
  obtain ⟨t9_0, hT9, -⟩ := n_ai hI (n_s143 g q)
  have hq := T_NM_shape (x2 := x2) (x3 := x3) (x4 := x4) (x5 := x5) (x6 := x6) (t0_0 := t0_0) (t0_1 := t0_1) (t0_2 := t0_2) (t1_0 := t1_0) (t1_1 := t1_1) (t1_2 := t1_2) (t1_3 := t1_3) (t1_4 := t1_4) (t1_5 := t1_5) (t1_6 := t1_6) (t1_7 := t1_7) (t1_8 := t1_8) (t1_9 := t1_9) (t1_10 := t1_10) (t2_0 := t2_0) (t3_0 := t3_0) (t4_0 := t4_0) (t5_0 := t5_0) (t6_0 := t6_0) (t7_0 := t7_0) (t8_0 := t8_0) (t9_0 := t9_0) hD (by first | exact bT1 | exact bT1.1 | exact bT1.2 | exact bT1.2.1 | exact bT1.2.2 | exact bT1.2.2.1 | exact bT1.2.2.2)
  refine q_mVw (X_NM_shape l D g q ws x2 x3 x4 x5 x6 hI t0_0 t0_1 t0_2 hT0 t1_0 t1_1 t1_2 t1_3 t1_4 t1_5 t1_6 t1_7 t1_8 t1_9 t1_10 hT1 t2_0 hT2 t3_0 hT3 t4_0 hT4 t5_0 hT5 t6_0 hT6 t7_0 hT7 t8_0 hT8 t9_0 hT9 ⟨trivial, hq.1⟩) ?_
  rintro u ⟨hI2, hun, u0_0, u1_0, u1_1, u1_2, u1_3, u1_4, u1_5, u1_6, u1_7, u1_8, u1_9, u1_10, u2_0, u3_0, u4_0, u5_0, u6_0, u7_0, u8_0, u9_0, hU0, hU1, hU2, hU3, hU4, hU5, hU6, hU7, hU8, hU9, hR⟩
  have hp := hq.2
  rw [← hR.2.2.2.2.2.2.2.2] at hp
  exact ⟨hI2, ⟨jW_fr hM0.1 (hun 121 (by decide)) (hun 122 (by decide)), ⟨_, _, _, _, hU2, hU3, hU4, hU5, hp⟩, jZ_fr hM0.2.2.1 (hun 160 (by decide)), jB_fr hM0.2.2.2 (hun 167 (by decide))⟩, jF_un hun (by decide)⟩
