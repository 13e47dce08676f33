/-! whole's law: format of the reference, over the state -/
theorem x_116 {u : va_W} {k x x2 : Nat} {c c2 : Nat} {a b d a2 b2 d2 : Int32} {r1 r2 r3 r4 : Value} {l l2 : List Value} (h : u[k]? = (some (x, .inr (c, .int a :: r1 :: .int b :: r2 :: .int d :: l)) : Option (Nat × va_E))) (h2 : u[k]? = (some (x2, .inr (c2, .int a2 :: r3 :: .int b2 :: r4 :: .int d2 :: l2)) : Option (Nat × va_E))) : a = a2 ∧ b = b2 ∧ d = d2 := by
  cases h.symm.trans h2
  exact ⟨rfl, rfl, rfl⟩
theorem x_157 {u : va_W} {k x x2 : Nat} {c c2 : Nat} {a b d a2 b2 d2 : Int32} {r1 r3 : Value} {l l2 : List Value} (h : u[k]? = (some (x, .inr (c, .int a :: r1 :: .int b :: .int d :: l)) : Option (Nat × va_E))) (h2 : u[k]? = (some (x2, .inr (c2, .int a2 :: r3 :: .int b2 :: .int d2 :: l2)) : Option (Nat × va_E))) : d = d2 := by
  cases h.symm.trans h2
  rfl
set_option maxRecDepth 100000 in
set_option maxHeartbeats 4000000 in
theorem DM_format (l : Launch) (D : va_G) (g : Nat → ClassId) (q : Nat → Nat) (ws : va_W) (hI : q_I (msh g q) q ws) (hM : iM g q ws) {th : Int32} {σ : zSt} (hS : sM g q ws th σ) (hk : zOk σ) : q_mI l y_NM_format prog_14_method_38_code 2 (.int) 10 0 0 D g [.ref (q 116)] ws (fun r u => jP g q ws u ∧ ∃ c σ2, rFm σ c r σ2 ∧ sM g q u (if c = 0 then 0 else 1) σ2) := by
  have hM0 := hM
  obtain ⟨t4_0, hT4, hZ⟩ := hM.2.2.1
  obtain ⟨t0_0, t0_1, t0_2, hT0, bT0⟩ := n_o116 hI
  obtain ⟨t1_0, t1_1, t1_2, t1_3, t1_4, t1_5, t1_6, t1_7, t1_8, t1_9, t1_10, t1_11, t1_12, t1_13, t1_14, t1_15, t1_16, t1_17, t1_18, t1_19, t1_20, t1_21, hT1, bT1⟩ := n_o157 hI
  obtain ⟨t2_0, hT2, -⟩ := n_ai hI (n_s158 g q)
  obtain ⟨t3_0, hT3, -⟩ := n_ai hI (n_s159 g q)
  obtain ⟨t5_0, hT5⟩ := n_al hI (n_s161 g q)
  obtain ⟨t6_0, hT6, -⟩ := n_ai hI (n_s162 g q)
  obtain ⟨t7_0, hT7, -⟩ := n_ai hI (n_s163 g q)
  obtain ⟨t8_0, hT8, -⟩ := n_ai hI (n_s164 g q)
  obtain ⟨t9_0, hT9, -⟩ := n_ai hI (n_s165 g q)
  obtain ⟨t10_0, hT10, -⟩ := n_ai hI (n_s166 g q)
  obtain ⟨t11_0, hT11, -⟩ := n_ai hI (n_s117 g q)
  obtain ⟨t12_0, hT12, -⟩ := n_ai hI (n_s118 g q)
  obtain ⟨hS1, hS2, hS3, ⟨s9, p9, r9, r8, y0, y1, y2, hL, hT, hP⟩, ⟨x0, x1, x2, x3, x4, x5, x6, x7, x8, x9, x10, x11, x12, x13, x14, x15, x16, x17, x18, x19, x20, x21, kd9, sz9, va9, tx9, z0, z1, z2, z3, z4, hA⟩⟩ := hS
  obtain ⟨-, rfl, rfl⟩ := x_116 hT0 y0
  obtain rfl := x_ri hT11 y1
  obtain rfl := x_ri hT12 y2
  obtain rfl := x_157 hT1 z0
  obtain rfl := x_ri hT3 z1
  obtain rfl := x_ri hT4 z2
  obtain rfl := x_rl hT5 z3
  obtain rfl := x_ri hT6 z4
  have hq := T_NM_format (t0_0 := t0_0) (t0_1 := t0_1) (t0_2 := t0_2) (t1_0 := t1_0) (t1_1 := t1_1) (t1_2 := t1_2) (t1_3 := t1_3) (t1_4 := t1_4) (t1_5 := t1_5) (t1_6 := t1_6) (t1_7 := t1_7) (t1_8 := t1_8) (t1_9 := t1_9) (t1_10 := t1_10) (t1_11 := t1_11) (t1_12 := t1_12) (t1_13 := t1_13) (t1_14 := t1_14) (t1_15 := t1_15) (t1_16 := t1_16) (t1_17 := t1_17) (t1_18 := t1_18) (t1_19 := t1_19) (t1_20 := t1_20) (t1_21 := t1_21) (t2_0 := t2_0) (t3_0 := t3_0) (t4_0 := t4_0) (t5_0 := t5_0) (t6_0 := t6_0) (t7_0 := t7_0) (t8_0 := t8_0) (t9_0 := t9_0) (t10_0 := t10_0) (t11_0 := t11_0) (t12_0 := t12_0) hZ (by first | exact bT0 | exact bT0.1 | exact bT0.2 | exact bT0.2.1 | exact bT0.2.2 | exact bT0.2.2.1 | exact bT0.2.2.2) (by first | exact bT1 | exact bT1.1 | exact bT1.2 | exact bT1.2.1 | exact bT1.2.2 | exact bT1.2.2.1 | exact bT1.2.2.2)
  refine q_mIw (X_NM_format l D g q ws hI t0_0 t0_1 t0_2 hT0 t1_0 t1_1 t1_2 t1_3 t1_4 t1_5 t1_6 t1_7 t1_8 t1_9 t1_10 t1_11 t1_12 t1_13 t1_14 t1_15 t1_16 t1_17 t1_18 t1_19 t1_20 t1_21 hT1 t2_0 hT2 t3_0 hT3 t4_0 hT4 t5_0 hT5 t6_0 hT6 t7_0 hT7 t8_0 hT8 t9_0 hT9 t10_0 hT10 t11_0 hT11 t12_0 hT12 ⟨trivial, hq⟩) ?_
  rintro r u ⟨hI2, hun, u0_0, u0_1, u0_2, u1_0, u1_1, u1_3, u1_4, u1_5, u1_6, u1_7, u1_8, u1_9, u1_10, u1_11, u1_12, u1_13, u1_14, u1_15, u1_16, u1_17, u1_18, u1_19, u1_20, u1_21, u2_0, u7_0, u8_0, u9_0, u10_0, u12_0, hU0, hU1, hU2, hU3, hU4, hU5, hU6, hU7, hR⟩
  refine ⟨⟨hI2, ⟨jW_fr hM0.1 (hun 121 (by decide)) (hun 122 (by decide)), jD_fr hM0.2.1 (hun 136 (by decide)) (hun 137 (by decide)) (hun 138 (by decide)) (hun 139 (by decide)), jZ_fr hM0.2.2.1 (hun 160 (by decide)), jB_fr hM0.2.2.2 (hun 167 (by decide))⟩, jF_un hun (by decide)⟩, ?_⟩
  have hv := Z_NM_format (t0_0 := t0_0) (t0_1 := t0_1) (t0_2 := t0_2) (t1_0 := t1_0) (t1_1 := t1_1) (t1_2 := t1_2) (t1_3 := t1_3) (t1_4 := t1_4) (t1_5 := t1_5) (t1_6 := t1_6) (t1_7 := t1_7) (t1_8 := t1_8) (t1_9 := t1_9) (t1_10 := t1_10) (t1_11 := t1_11) (t1_12 := t1_12) (t1_13 := t1_13) (t1_14 := t1_14) (t1_15 := t1_15) (t1_16 := t1_16) (t1_17 := t1_17) (t1_18 := t1_18) (t1_19 := t1_19) (t1_20 := t1_20) (t1_21 := t1_21) (t2_0 := t2_0) (t3_0 := t3_0) (t4_0 := t4_0) (t5_0 := t5_0) (t6_0 := t6_0) (t7_0 := t7_0) (t8_0 := t8_0) (t9_0 := t9_0) (t10_0 := t10_0) (t11_0 := t11_0) (t12_0 := t12_0) hL hk.2.2.2.2.1 hT (fun i _ => hk.2.2.2.2.2.1 i) hA hZ
  have hR := hR.2.2.2.2.2.2.2.2.2.2.2.2.2.2.2.2.2.2
  rw [← hR] at hv
  rcases hv with ⟨l1, _, q1, q2, q3, q4⟩ | ⟨l1, q1, F, pl, o, w1, w2⟩
  · replace q1 : u0_0 = 1 := q1
    replace q2 : u0_1 = t0_1 := q2
    replace q3 : u0_2 = t0_2 := q3
    replace q4 : u12_0 = t12_0 := q4
    refine ⟨3, σ, Or.inl ⟨l1, rfl, rfl⟩, mWr_fr hS1 (hun 121 (by decide)) (hun 122 (by decide)), mDr_fr hS2 (hun 136 (by decide)) (hun 137 (by decide)) (hun 138 (by decide)) (hun 139 (by decide)), mFr_fr hS3 (hun 167 (by decide)), ⟨u0_1, u0_2, _, u12_0, by rw [if_neg (show ¬ (3 : Int32) = 0 by decide), ← q1]; exact hU0, (hun 117 (by decide)).trans hT11, hU7, by rw [q2]; exact hL, hT, by rw [q3, q4]; exact hP⟩, ⟨u1_0, u1_1, t1_2, u1_3, u1_4, u1_5, u1_6, u1_7, u1_8, u1_9, u1_10, u1_11, u1_12, u1_13, u1_14, u1_15, u1_16, u1_17, u1_18, u1_19, u1_20, u1_21, _, _, _, _, hU1, (hun 159 (by decide)).trans hT3, (hun 160 (by decide)).trans hT4, (hun 161 (by decide)).trans hT5, (hun 162 (by decide)).trans hT6, hA⟩⟩
  · replace q1 : u0_0 = 0 := q1
    rcases w2 with ⟨f0, p1, p2, p3, p4⟩ | ⟨f0, p1, p2, p3, p5⟩
    · replace p2 : u0_1 = 0 := p2
      refine ⟨0, (zsW σ, zsD σ, zsV σ, zsN σ, 0, zsB σ, o, zsA σ), Or.inr ⟨l1, rfl, F, pl, o, w1, Or.inl ⟨f0, p1, p4, rfl⟩⟩, mWr_fr hS1 (hun 121 (by decide)) (hun 122 (by decide)), mDr_fr hS2 (hun 136 (by decide)) (hun 137 (by decide)) (hun 138 (by decide)) (hun 139 (by decide)), mFr_fr hS3 (hun 167 (by decide)), ⟨u0_1, u0_2, _, u12_0, by rw [if_pos (rfl : (0 : Int32) = 0), ← q1]; exact hU0, (hun 117 (by decide)).trans hT11, hU7, by rw [p2]; rfl, fun i hi => absurd hi (Nat.not_lt_zero _), p3⟩, ⟨u1_0, u1_1, t1_2, u1_3, u1_4, u1_5, u1_6, u1_7, u1_8, u1_9, u1_10, u1_11, u1_12, u1_13, u1_14, u1_15, u1_16, u1_17, u1_18, u1_19, u1_20, u1_21, _, _, _, _, hU1, (hun 159 (by decide)).trans hT3, (hun 160 (by decide)).trans hT4, (hun 161 (by decide)).trans hT5, (hun 162 (by decide)).trans hT6, hA⟩⟩
    · replace p2 : u0_1 = t0_1 := p2
      replace p3 : u0_2 = 0 := p3
      refine ⟨0, (zsW σ, zsD σ, zsV σ, zsN σ, zsL σ, zsB σ, [], zsA σ), Or.inr ⟨l1, rfl, F, pl, o, w1, Or.inr ⟨f0, p1, rfl⟩⟩, mWr_fr hS1 (hun 121 (by decide)) (hun 122 (by decide)), mDr_fr hS2 (hun 136 (by decide)) (hun 137 (by decide)) (hun 138 (by decide)) (hun 139 (by decide)), mFr_fr hS3 (hun 167 (by decide)), ⟨u0_1, u0_2, _, u12_0, by rw [if_pos (rfl : (0 : Int32) = 0), ← q1]; exact hU0, (hun 117 (by decide)).trans hT11, hU7, by rw [p2]; exact hL, hT, by rw [p3]; exact yRt_0⟩, ⟨u1_0, u1_1, t1_2, u1_3, u1_4, u1_5, u1_6, u1_7, u1_8, u1_9, u1_10, u1_11, u1_12, u1_13, u1_14, u1_15, u1_16, u1_17, u1_18, u1_19, u1_20, u1_21, _, _, _, _, hU1, (hun 159 (by decide)).trans hT3, (hun 160 (by decide)).trans hT4, (hun 161 (by decide)).trans hT5, (hun 162 (by decide)).trans hT6, hA⟩⟩
