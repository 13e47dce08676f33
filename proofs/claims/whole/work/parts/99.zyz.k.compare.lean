/-! whole's law: compare of the reference -/
set_option maxRecDepth 100000 in
set_option maxHeartbeats 4000000 in
theorem DM_compare (l : Launch) (D : va_G) (g : Nat → ClassId) (q : Nat → Nat) (ws : va_W) (x2 : Int32) (x3 : Int32) (x4 : Int32) (hI : q_I (msh g q) q ws) (hM : iM g q ws) {th : Int32} {σ : zSt} (hS : sM g q ws th σ) (hk : zOk σ) : q_mI l y_NM_compare prog_14_method_19_code 12 (.int) 3 0 0 D g [.ref (q 116), .int x2, .int x3, .int x4] ws (fun r u => jP g q ws u ∧ ∃ c, rCm x2 x3 x4 σ c r ∧ sM g q u c σ) := by
  have hM0 := hM
  obtain ⟨t2_0, t3_0, hT2, hT3, hW⟩ := hM.1
  obtain ⟨t7_0, t8_0, t9_0, t10_0, hT7, hT8, hT9, hT10, hD⟩ := hM.2.1
  obtain ⟨t11_0, hT11, hB⟩ := hM.2.2.2
  obtain ⟨t0_0, t0_1, t0_2, hT0, bT0⟩ := n_o116 hI
  obtain ⟨t1_0, t1_1, t1_2, t1_3, t1_4, t1_5, t1_6, hT1, bT1⟩ := n_o119 hI
  obtain ⟨t4_0, hT4, -⟩ := n_ai hI (n_s128 g q)
  obtain ⟨t5_0, hT5, -⟩ := n_ai hI (n_s129 g q)
  obtain ⟨t6_0, t6_1, t6_2, t6_3, t6_4, t6_5, t6_6, t6_7, t6_8, t6_9, t6_10, hT6, bT6⟩ := n_o134 hI
  obtain ⟨hS1, hS2, hS3, hS4, hS5⟩ := hS
  obtain ⟨s9, p9, r9, r8, y0, y1, y2, hL, hT, hP⟩ := hS4
  obtain ⟨-, rfl, rfl⟩ := x_116 hT0 y0
  obtain ⟨f9, yf, hV9, hN9⟩ := hS3
  obtain rfl := x_rl hT11 yf
  have hS3 : mFr g q ws (zsV σ) (zsN σ) := ⟨_, yf, hV9, hN9⟩
  obtain ⟨f0, f1, ya, yb, hw9⟩ := hS1
  obtain rfl := x_ri hT2 ya
  obtain rfl := x_ri hT3 yb
  have hS1 : mWr g q ws (zsW σ) := ⟨_, _, ya, yb, hw9⟩
  obtain ⟨g0, g1, g2, g3, yc, yd, ye, yg, hd9⟩ := hS2
  obtain rfl := x_ri hT7 yc
  obtain rfl := x_ri hT8 yd
  obtain rfl := x_ri hT9 ye
  obtain rfl := x_ri hT10 yg
  have hS2 : mDr g q ws (zsD σ) := ⟨_, _, _, _, yc, yd, ye, yg, hd9⟩
  have hq := T_NM_compare (x2 := x2) (x3 := x3) (x4 := x4) (t0_0 := t0_0) (t0_1 := t0_1) (t0_2 := t0_2) (t1_0 := t1_0) (t1_1 := t1_1) (t1_2 := t1_2) (t1_3 := t1_3) (t1_4 := t1_4) (t1_5 := t1_5) (t1_6 := t1_6) (t2_0 := t2_0) (t3_0 := t3_0) (t4_0 := t4_0) (t5_0 := t5_0) (t6_0 := t6_0) (t6_1 := t6_1) (t6_2 := t6_2) (t6_3 := t6_3) (t6_4 := t6_4) (t6_5 := t6_5) (t6_6 := t6_6) (t6_7 := t6_7) (t6_8 := t6_8) (t6_9 := t6_9) (t6_10 := t6_10) (t7_0 := t7_0) (t8_0 := t8_0) (t9_0 := t9_0) (t10_0 := t10_0) (t11_0 := t11_0) hW hD hB
  refine q_mIw (X_NM_compare l D g q ws x2 x3 x4 hI t0_0 t0_1 t0_2 hT0 t1_0 t1_1 t1_2 t1_3 t1_4 t1_5 t1_6 hT1 t2_0 hT2 t3_0 hT3 t4_0 hT4 t5_0 hT5 t6_0 t6_1 t6_2 t6_3 t6_4 t6_5 t6_6 t6_7 t6_8 t6_9 t6_10 hT6 t7_0 hT7 t8_0 hT8 t9_0 hT9 t10_0 hT10 t11_0 hT11 ⟨trivial, hq⟩) ?_
  rintro r u ⟨hI2, hun, u0_0, u1_0, u1_1, u1_2, u1_3, u1_4, u1_5, u1_6, u4_0, u5_0, u6_0, u6_1, u6_2, u6_3, u6_4, u6_5, u6_6, u6_7, u6_8, u6_9, u6_10, hU0, hU1, hU2, hU3, hU4, hR⟩
  refine ⟨⟨hI2, ⟨jW_fr hM0.1 (hun 121 (by decide)) (hun 122 (by decide)), jD_fr hM0.2.1 (hun 136 (by decide)) (hun 137 (by decide)) (hun 138 (by decide)) (hun 139 (by decide)), jZ_fr hM0.2.2.1 (hun 160 (by decide)), jB_fr hM0.2.2.2 (hun 167 (by decide))⟩, jF_un hun (by decide)⟩, ?_⟩
  have hv := V_NM_compare (x2 := x2) (x3 := x3) (x4 := x4) (t0_0 := t0_0) (t0_1 := t0_1) (t0_2 := t0_2) (t1_0 := t1_0) (t1_1 := t1_1) (t1_2 := t1_2) (t1_3 := t1_3) (t1_4 := t1_4) (t1_5 := t1_5) (t1_6 := t1_6) (t2_0 := t2_0) (t3_0 := t3_0) (t4_0 := t4_0) (t5_0 := t5_0) (t6_0 := t6_0) (t6_1 := t6_1) (t6_2 := t6_2) (t6_3 := t6_3) (t6_4 := t6_4) (t6_5 := t6_5) (t6_6 := t6_6) (t6_7 := t6_7) (t6_8 := t6_8) (t6_9 := t6_9) (t6_10 := t6_10) (t7_0 := t7_0) (t8_0 := t8_0) (t9_0 := t9_0) (t10_0 := t10_0) (t11_0 := t11_0) hw9 hd9 (fun i hi => by rw [hV9 i hi]; exact hk.2.2.1 i hi) (fun i hi => by rw [hN9 i hi]; exact hk.2.2.2.1 i hi)
  have hR := hR.2.2.2.2.2.2.2.2.2.2.2.2.2.2.2.2.2.2.2.2.2.2.2.2.2.2.2.2.2.2.2.2.2.2
  rw [← hR] at hv
  rcases hv with ⟨l1, z⟩ | ⟨l1, w⟩
  · replace z : u0_0 = 1 := z
    exact ⟨1, Or.inl ⟨l1, rfl⟩, ⟨(mWr_fr hS1 (hun 121 (by decide)) (hun 122 (by decide))), (mDr_fr hS2 (hun 136 (by decide)) (hun 137 (by decide)) (hun 138 (by decide)) (hun 139 (by decide))), (mFr_fr hS3 (hun 167 (by decide))), ⟨_, _, _, _, by rw [← z]; exact hU0, (hun 117 (by decide)).trans y1, (hun 118 (by decide)).trans y2, hL, hT, hP⟩, (mAr_fr hS5 (hun 157 (by decide)) (hun 159 (by decide)) (hun 160 (by decide)) (hun 161 (by decide)) (hun 162 (by decide)))⟩⟩
  · rw [hV9 _ (x_reg l1.2.1), hV9 _ (x_reg l1.2.2), hN9 _ (x_reg l1.2.1), hN9 _ (x_reg l1.2.2)] at w
    exact ⟨u0_0, Or.inr ⟨l1, w⟩, ⟨(mWr_fr hS1 (hun 121 (by decide)) (hun 122 (by decide))), (mDr_fr hS2 (hun 136 (by decide)) (hun 137 (by decide)) (hun 138 (by decide)) (hun 139 (by decide))), (mFr_fr hS3 (hun 167 (by decide))), ⟨_, _, _, _, hU0, (hun 117 (by decide)).trans y1, (hun 118 (by decide)).trans y2, hL, hT, hP⟩, (mAr_fr hS5 (hun 157 (by decide)) (hun 159 (by decide)) (hun 160 (by decide)) (hun 161 (by decide)) (hun 162 (by decide)))⟩⟩
