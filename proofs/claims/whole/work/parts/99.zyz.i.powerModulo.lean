/-! whole's law: powerModulo of the reference -/
def rPm (x2 x3 x4 x5 : Int32) (σ : zSt) (c : Int32) (σ2 : zSt) : Prop := (¬ (yReg x2 ∧ yReg x3 ∧ yReg x4 ∧ yReg x5) ∧ c = 1 ∧ σ2 = σ) ∨ ((yReg x2 ∧ yReg x3 ∧ yReg x4 ∧ yReg x5) ∧ rPw x5 (sPM (zsW σ x2.toNatClampNeg) (zsW σ x3.toNatClampNeg) (zsW σ x4.toNatClampNeg)) σ c σ2)
theorem rPm_U {x2 x3 x4 x5 : Int32} {σ s t : zSt} {c c2 : Int32} (h : rPm x2 x3 x4 x5 σ c s) (g : rPm x2 x3 x4 x5 σ c2 t) : c = c2 ∧ s = t := by
  rcases h with ⟨h1, h2, h3⟩ | ⟨h1, h2⟩ <;> rcases g with ⟨g1, g2, g3⟩ | ⟨g1, g2⟩
  · exact ⟨h2.trans g2.symm, h3.trans g3.symm⟩
  · exact absurd g1 h1
  · exact absurd h1 g1
  · exact rPw_U h2 g2
theorem rPm_k {x2 x3 x4 x5 : Int32} {σ s : zSt} {c : Int32} (h : rPm x2 x3 x4 x5 σ c s) (hk : zOk σ) : zOk s := by
  rcases h with ⟨_, _, h3⟩ | ⟨_, h2⟩
  · rw [h3]; exact hk
  · exact rPw_k h2 hk
set_option maxRecDepth 100000 in
set_option maxHeartbeats 4000000 in
theorem DM_powerModulo (l : Launch) (D : va_G) (g : Nat → ClassId) (q : Nat → Nat) (ws : va_W) (x2 : Int32) (x3 : Int32) (x4 : Int32) (x5 : Int32) (hI : q_I (msh g q) q ws) (hM : iM g q ws) {th : Int32} {σ : zSt} (hS : sM g q ws th σ) (hk0 : zOk σ) : q_mV l y_NM_powerModulo prog_14_method_22_code 5 5 0 0 D g [.ref (q 116), .int x2, .int x3, .int x4, .int x5] ws (fun u => jP g q ws u ∧ ∃ c σ2, rPm x2 x3 x4 x5 σ c σ2 ∧ sM g q u c σ2) := by
  have hM0 := hM
  obtain ⟨t2_0, t3_0, hT2, hT3, hW⟩ := hM.1
  obtain ⟨t0_0, t0_1, t0_2, hT0, bT0⟩ := n_o116 hI
  obtain ⟨t1_0, t1_1, t1_2, t1_3, t1_4, t1_5, t1_6, hT1, bT1⟩ := n_o119 hI
  obtain ⟨t4_0, hT4, -⟩ := n_ai hI (n_s123 g q)
  obtain ⟨t5_0, hT5, -⟩ := n_ai hI (n_s124 g q)
  obtain ⟨t6_0, hT6, -⟩ := n_ai hI (n_s125 g q)
  obtain ⟨t7_0, hT7, -⟩ := n_ai hI (n_s126 g q)
  obtain ⟨t8_0, hT8, -⟩ := n_ai hI (n_s127 g q)
  obtain ⟨t9_0, hT9, -⟩ := n_ai hI (n_s128 g q)
  obtain ⟨t10_0, hT10, -⟩ := n_ai hI (n_s129 g q)
  obtain ⟨t11_0, hT11, -⟩ := n_ai hI (n_s130 g q)
  obtain ⟨t12_0, hT12, -⟩ := n_ai hI (n_s131 g q)
  obtain ⟨t13_0, hT13, -⟩ := n_ai hI (n_s132 g q)
  obtain ⟨hS1, hS2, hS3, hS4, hS5⟩ := hS
  obtain ⟨s9, p9, r9, r8, y0, y1, y2, hL, hT, hP⟩ := hS4
  obtain ⟨-, rfl, rfl⟩ := x_116 hT0 y0
  obtain ⟨f0, f1, ya, yb, hw9⟩ := hS1
  obtain rfl := x_ri hT2 ya
  obtain rfl := x_ri hT3 yb
  have hq := T_NM_powerModulo (x2 := x2) (x3 := x3) (x4 := x4) (x5 := x5) (t0_0 := t0_0) (t0_1 := t0_1) (t0_2 := t0_2) (t1_0 := t1_0) (t1_1 := t1_1) (t1_2 := t1_2) (t1_3 := t1_3) (t1_4 := t1_4) (t1_5 := t1_5) (t1_6 := t1_6) (t2_0 := t2_0) (t3_0 := t3_0) (t4_0 := t4_0) (t5_0 := t5_0) (t6_0 := t6_0) (t7_0 := t7_0) (t8_0 := t8_0) (t9_0 := t9_0) (t10_0 := t10_0) (t11_0 := t11_0) (t12_0 := t12_0) (t13_0 := t13_0) hW
  refine q_mVw (X_NM_powerModulo l D g q ws x2 x3 x4 x5 hI t0_0 t0_1 t0_2 hT0 t1_0 t1_1 t1_2 t1_3 t1_4 t1_5 t1_6 hT1 t2_0 hT2 t3_0 hT3 t4_0 hT4 t5_0 hT5 t6_0 hT6 t7_0 hT7 t8_0 hT8 t9_0 hT9 t10_0 hT10 t11_0 hT11 t12_0 hT12 t13_0 hT13 ⟨trivial, hq.1⟩) ?_
  rintro u ⟨hI2, hun, u0_0, u1_0, u1_1, u1_2, u1_3, u1_4, u1_5, u1_6, u2_0, u3_0, u4_0, u5_0, u6_0, u7_0, u8_0, u9_0, u10_0, u11_0, u12_0, u13_0, hU0, hU1, hU2, hU3, hU4, hU5, hU6, hU7, hU8, hU9, hU10, hU11, hU12, hU13, hR⟩
  have hp := hq.2
  rw [← hR.2.2.2.2.2.2.2.2.2.2.2.2] at hp
  refine ⟨⟨hI2, ⟨⟨_, _, hU2, hU3, hp⟩, jD_fr hM0.2.1 (hun 136 (by decide)) (hun 137 (by decide)) (hun 138 (by decide)) (hun 139 (by decide)), jZ_fr hM0.2.2.1 (hun 160 (by decide)), jB_fr hM0.2.2.2 (hun 167 (by decide))⟩, jF_un hun (by decide)⟩, ?_⟩
  have hv := V_NM_powerModulo (x2 := x2) (x3 := x3) (x4 := x4) (x5 := x5) (t0_0 := t0_0) (t0_1 := t0_1) (t0_2 := t0_2) (t1_0 := t1_0) (t1_1 := t1_1) (t1_2 := t1_2) (t1_3 := t1_3) (t1_4 := t1_4) (t1_5 := t1_5) (t1_6 := t1_6) (t2_0 := t2_0) (t3_0 := t3_0) (t4_0 := t4_0) (t5_0 := t5_0) (t6_0 := t6_0) (t7_0 := t7_0) (t8_0 := t8_0) (t9_0 := t9_0) (t10_0 := t10_0) (t11_0 := t11_0) (t12_0 := t12_0) (t13_0 := t13_0) hw9
  rw [← hR.2.2.2.2.2.2.2.2.2.2.2.2] at hv
  rcases hv with ⟨l1, ⟨v, o1, o2, o4, o3⟩ | ⟨o1, o4, o3⟩⟩ | ⟨l1, o4, o3⟩
  · replace o4 : u0_0 = 0 := o4
    exact ⟨0, (updW (zsW σ) x5.toNatClampNeg v, zsD σ, zsV σ, zsN σ, zsL σ, zsB σ, zsP σ, zsA σ), Or.inr ⟨l1, Or.inl ⟨v, o1, o2, rfl, rfl⟩⟩, ⟨⟨_, _, hU2, hU3, o3⟩, (mDr_fr hS2 (hun 136 (by decide)) (hun 137 (by decide)) (hun 138 (by decide)) (hun 139 (by decide))), (mFr_fr hS3 (hun 167 (by decide))), ⟨_, _, _, _, by rw [← o4]; exact hU0, (hun 117 (by decide)).trans y1, (hun 118 (by decide)).trans y2, hL, hT, hP⟩, (mAr_fr hS5 (hun 157 (by decide)) (hun 159 (by decide)) (hun 160 (by decide)) (hun 161 (by decide)) (hun 162 (by decide)))⟩⟩
  · replace o4 : u0_0 = 2 := o4
    exact ⟨2, σ, Or.inr ⟨l1, Or.inr ⟨o1, rfl, rfl⟩⟩, ⟨⟨_, _, hU2, hU3, o3⟩, (mDr_fr hS2 (hun 136 (by decide)) (hun 137 (by decide)) (hun 138 (by decide)) (hun 139 (by decide))), (mFr_fr hS3 (hun 167 (by decide))), ⟨_, _, _, _, by rw [← o4]; exact hU0, (hun 117 (by decide)).trans y1, (hun 118 (by decide)).trans y2, hL, hT, hP⟩, (mAr_fr hS5 (hun 157 (by decide)) (hun 159 (by decide)) (hun 160 (by decide)) (hun 161 (by decide)) (hun 162 (by decide)))⟩⟩
  · replace o4 : u0_0 = 1 := o4
    exact ⟨1, σ, Or.inl ⟨l1, rfl, rfl⟩, ⟨⟨_, _, hU2, hU3, o3⟩, (mDr_fr hS2 (hun 136 (by decide)) (hun 137 (by decide)) (hun 138 (by decide)) (hun 139 (by decide))), (mFr_fr hS3 (hun 167 (by decide))), ⟨_, _, _, _, by rw [← o4]; exact hU0, (hun 117 (by decide)).trans y1, (hun 118 (by decide)).trans y2, hL, hT, hP⟩, (mAr_fr hS5 (hun 157 (by decide)) (hun 159 (by decide)) (hun 160 (by decide)) (hun 161 (by decide)) (hun 162 (by decide)))⟩⟩
