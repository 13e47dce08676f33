/-! the reference's invariant: the form of its registers -/
def jW (g : Nat → ClassId) (q : Nat → Nat) (u : va_W) : Prop := ∃ f0 f1 : Nat → Int32, u[121]? = (some (q 121, .inl (g 0, (1408 : Int32).toNatClampNeg, .inl f0)) : Option (Nat × va_E)) ∧ u[122]? = (some (q 122, .inl (g 3, 11, .inl f1)) : Option (Nat × va_E)) ∧ wR f0 f1
theorem jW_fr {g : Nat → ClassId} {q : Nat → Nat} {ws u : va_W} (h : jW g q ws) (h0 : u[121]? = ws[121]?) (h1 : u[122]? = ws[122]?) : jW g q u := by
  obtain ⟨f0, f1, a0, a1, c⟩ := h
  exact ⟨f0, f1, h0.trans a0, h1.trans a1, c⟩
def jD (g : Nat → ClassId) (q : Nat → Nat) (u : va_W) : Prop := ∃ f0 f1 f2 f3 : Nat → Int32, u[136]? = (some (q 136, .inl (g 0, (10000 : Int32).toNatClampNeg, .inl f0)) : Option (Nat × va_E)) ∧ u[137]? = (some (q 137, .inl (g 0, (10 : Int32).toNatClampNeg, .inl f1)) : Option (Nat × va_E)) ∧ u[138]? = (some (q 138, .inl (g 3, 10, .inl f2)) : Option (Nat × va_E)) ∧ u[139]? = (some (q 139, .inl (g 0, (10 : Int32).toNatClampNeg, .inl f3)) : Option (Nat × va_E)) ∧ gR f0 f1 f2 f3
theorem jD_fr {g : Nat → ClassId} {q : Nat → Nat} {ws u : va_W} (h : jD g q ws) (h0 : u[136]? = ws[136]?) (h1 : u[137]? = ws[137]?) (h2 : u[138]? = ws[138]?) (h3 : u[139]? = ws[139]?) : jD g q u := by
  obtain ⟨f0, f1, f2, f3, a0, a1, a2, a3, c⟩ := h
  exact ⟨f0, f1, f2, f3, h0.trans a0, h1.trans a1, h2.trans a2, h3.trans a3, c⟩
def jZ (g : Nat → ClassId) (q : Nat → Nat) (u : va_W) : Prop := ∃ f0 : Nat → Int32, u[160]? = (some (q 160, .inl (g 0, (9 : Int32).toNatClampNeg, .inl f0)) : Option (Nat × va_E)) ∧ vrZ f0
theorem jZ_fr {g : Nat → ClassId} {q : Nat → Nat} {ws u : va_W} (h : jZ g q ws) (h0 : u[160]? = ws[160]?) : jZ g q u := by
  obtain ⟨f0, a0, c⟩ := h
  exact ⟨f0, h0.trans a0, c⟩
def jB (g : Nat → ClassId) (q : Nat → Nat) (u : va_W) : Prop := ∃ f0 : Nat → Int64, u[167]? = (some (q 167, .inl (g 1, 20, .inr (.inl f0))) : Option (Nat × va_E)) ∧ nmB f0
theorem jB_fr {g : Nat → ClassId} {q : Nat → Nat} {ws u : va_W} (h : jB g q ws) (h0 : u[167]? = ws[167]?) : jB g q u := by
  obtain ⟨f0, a0, c⟩ := h
  exact ⟨f0, h0.trans a0, c⟩
def iM (g : Nat → ClassId) (q : Nat → Nat) (u : va_W) : Prop := jW g q u ∧ jD g q u ∧ jZ g q u ∧ jB g q u
def jF (ws u : va_W) : Prop := ∀ i, ¬ (116 ≤ i ∧ i < 169) → u[i]? = ws[i]?
def jP (g : Nat → ClassId) (q : Nat → Nat) (ws u : va_W) : Prop := q_I (msh g q) q u ∧ iM g q u ∧ jF ws u
theorem jF_un {ws u : va_W} {ks : List Nat} (h : q_un ws u ks) (hk : ∀ i ∈ ks, 116 ≤ i ∧ i < 169) : jF ws u := fun i hi => h i (fun z => hi (hk i z))
theorem q_mVw {l : Launch} {y : MethodName} {b : ByteArray} {n d mc ms : Nat} {D : va_G} {g : Nat → ClassId} {av : List Value} {ws : va_W} {P P' : va_W → Prop} (h : q_mV l y b n d mc ms D g av ws P) (hQ : ∀ u, P u → P' u) : q_mV l y b n d mc ms D g av ws P' := fun sz => by
  refine MetFree.mono (h sz) (fun _ _ h => h) (fun _ _ _ _ _ h => h) ?_
  rintro a s o t _ ⟨⟨⟨u, e1, e2, e3⟩, e4⟩, e5⟩
  exact ⟨⟨⟨u, e1, hQ u e2, e3⟩, e4⟩, e5⟩
set_option maxRecDepth 100000 in
theorem CM_feed (l : Launch) (D : va_G) (g : Nat → ClassId) (q : Nat → Nat) (ws : va_W) (x2 : Int32) (x3 : Int64) (hI : q_I (msh g q) q ws) (hM : iM g q ws) : q_mI l y_NM_feed prog_14_method_3_code 5 (.int) 1 0 0 D g [.ref (q 116), .int x2, .long x3] ws (fun _ u => jP g q ws u) := by
  have hM0 := hM
  obtain ⟨t0_0, t0_1, t0_2, hT0, bT0⟩ := n_o116 hI
  obtain ⟨t1_0, hT1, -⟩ := n_ai hI (n_s117 g q)
  have hq := T_NM_feed (x2 := x2) (x3 := x3) (t0_0 := t0_0) (t0_1 := t0_1) (t0_2 := t0_2) (t1_0 := t1_0) (by first | exact bT0 | exact bT0.1 | exact bT0.2 | exact bT0.2.1 | exact bT0.2.2 | exact bT0.2.2.1 | exact bT0.2.2.2)
  refine q_mIw (X_NM_feed l D g q ws x2 x3 hI t0_0 t0_1 t0_2 hT0 t1_0 hT1 ⟨trivial, hq⟩) ?_
  rintro r u ⟨hI2, hun, u0_0, u0_1, u1_0, hU0, hU1, hR⟩
  exact ⟨hI2, ⟨jW_fr hM0.1 (hun 121 (by decide)) (hun 122 (by decide)), jD_fr hM0.2.1 (hun 136 (by decide)) (hun 137 (by decide)) (hun 138 (by decide)) (hun 139 (by decide)), jZ_fr hM0.2.2.1 (hun 160 (by decide)), jB_fr hM0.2.2.2 (hun 167 (by decide))⟩, jF_un hun (by decide)⟩
set_option maxRecDepth 100000 in
theorem CM_wipe (l : Launch) (D : va_G) (g : Nat → ClassId) (q : Nat → Nat) (ws : va_W) (hI : q_I (msh g q) q ws) (hM : iM g q ws) : q_mI l y_NM_wipe prog_14_method_4_code 2 (.int) 1 0 0 D g [.ref (q 116)] ws (fun _ u => jP g q ws u) := by
  have hM0 := hM
  obtain ⟨t0_0, t0_1, t0_2, hT0, bT0⟩ := n_o116 hI
  refine q_mIw (X_NM_wipe l D g q ws hI t0_0 t0_1 t0_2 hT0) ?_
  rintro r u ⟨hI2, hun, u0_0, u0_1, hU0, hR⟩
  exact ⟨hI2, ⟨jW_fr hM0.1 (hun 121 (by decide)) (hun 122 (by decide)), jD_fr hM0.2.1 (hun 136 (by decide)) (hun 137 (by decide)) (hun 138 (by decide)) (hun 139 (by decide)), jZ_fr hM0.2.2.1 (hun 160 (by decide)), jB_fr hM0.2.2.2 (hun 167 (by decide))⟩, jF_un hun (by decide)⟩
set_option maxRecDepth 100000 in
theorem CM_paperAt (l : Launch) (D : va_G) (g : Nat → ClassId) (q : Nat → Nat) (ws : va_W) (x2 : Int32) (hI : q_I (msh g q) q ws) (hM : iM g q ws) : q_mL l y_NM_paperAt prog_14_method_6_code 7 1 0 0 D g [.ref (q 116), .int x2] ws (fun _ u => jP g q ws u) := by
  have hM0 := hM
  obtain ⟨t0_0, t0_1, t0_2, hT0, bT0⟩ := n_o116 hI
  obtain ⟨t1_0, hT1, -⟩ := n_ai hI (n_s118 g q)
  have hq := T_NM_paperAt (x2 := x2) (t0_0 := t0_0) (t0_1 := t0_1) (t0_2 := t0_2) (t1_0 := t1_0) (by first | exact bT0 | exact bT0.1 | exact bT0.2 | exact bT0.2.1 | exact bT0.2.2 | exact bT0.2.2.1 | exact bT0.2.2.2)
  refine q_mLw (X_NM_paperAt l D g q ws x2 hI t0_0 t0_1 t0_2 hT0 t1_0 hT1 ⟨trivial, hq⟩) ?_
  rintro r u ⟨hI2, hun, u0_0, hU0, hR⟩
  exact ⟨hI2, ⟨jW_fr hM0.1 (hun 121 (by decide)) (hun 122 (by decide)), jD_fr hM0.2.1 (hun 136 (by decide)) (hun 137 (by decide)) (hun 138 (by decide)) (hun 139 (by decide)), jZ_fr hM0.2.2.1 (hun 160 (by decide)), jB_fr hM0.2.2.2 (hun 167 (by decide))⟩, jF_un hun (by decide)⟩
set_option maxRecDepth 100000 in
theorem CM_compare (l : Launch) (D : va_G) (g : Nat → ClassId) (q : Nat → Nat) (ws : va_W) (x2 : Int32) (x3 : Int32) (x4 : Int32) (hI : q_I (msh g q) q ws) (hM : iM g q ws) : q_mI l y_NM_compare prog_14_method_19_code 12 (.int) 3 0 0 D g [.ref (q 116), .int x2, .int x3, .int x4] ws (fun _ u => jP g q ws u) := by
  have hM0 := hM
  obtain ⟨t2_0, t3_0, hT2, hT3, hW⟩ := hM.1
  obtain ⟨t7_0, t8_0, t9_0, t10_0, hT7, hT8, hT9, hT10, hD⟩ := hM.2.1
  obtain ⟨t11_0, hT11, hB⟩ := hM.2.2.2
  obtain ⟨t0_0, t0_1, t0_2, hT0, bT0⟩ := n_o116 hI
  obtain ⟨t1_0, t1_1, t1_2, t1_3, t1_4, t1_5, t1_6, hT1, bT1⟩ := n_o119 hI
  obtain ⟨t4_0, hT4, -⟩ := n_ai hI (n_s128 g q)
  obtain ⟨t5_0, hT5, -⟩ := n_ai hI (n_s129 g q)
  obtain ⟨t6_0, t6_1, t6_2, t6_3, t6_4, t6_5, t6_6, t6_7, t6_8, t6_9, t6_10, hT6, bT6⟩ := n_o134 hI
  have hq := T_NM_compare (x2 := x2) (x3 := x3) (x4 := x4) (t0_0 := t0_0) (t0_1 := t0_1) (t0_2 := t0_2) (t1_0 := t1_0) (t1_1 := t1_1) (t1_2 := t1_2) (t1_3 := t1_3) (t1_4 := t1_4) (t1_5 := t1_5) (t1_6 := t1_6) (t2_0 := t2_0) (t3_0 := t3_0) (t4_0 := t4_0) (t5_0 := t5_0) (t6_0 := t6_0) (t6_1 := t6_1) (t6_2 := t6_2) (t6_3 := t6_3) (t6_4 := t6_4) (t6_5 := t6_5) (t6_6 := t6_6) (t6_7 := t6_7) (t6_8 := t6_8) (t6_9 := t6_9) (t6_10 := t6_10) (t7_0 := t7_0) (t8_0 := t8_0) (t9_0 := t9_0) (t10_0 := t10_0) (t11_0 := t11_0) hW hD hB
  refine q_mIw (X_NM_compare l D g q ws x2 x3 x4 hI t0_0 t0_1 t0_2 hT0 t1_0 t1_1 t1_2 t1_3 t1_4 t1_5 t1_6 hT1 t2_0 hT2 t3_0 hT3 t4_0 hT4 t5_0 hT5 t6_0 t6_1 t6_2 t6_3 t6_4 t6_5 t6_6 t6_7 t6_8 t6_9 t6_10 hT6 t7_0 hT7 t8_0 hT8 t9_0 hT9 t10_0 hT10 t11_0 hT11 ⟨trivial, hq⟩) ?_
  rintro r u ⟨hI2, hun, u0_0, u1_0, u1_1, u1_2, u1_3, u1_4, u1_5, u1_6, u4_0, u5_0, u6_0, u6_1, u6_2, u6_3, u6_4, u6_5, u6_6, u6_7, u6_8, u6_9, u6_10, hU0, hU1, hU2, hU3, hU4, hR⟩
  exact ⟨hI2, ⟨jW_fr hM0.1 (hun 121 (by decide)) (hun 122 (by decide)), jD_fr hM0.2.1 (hun 136 (by decide)) (hun 137 (by decide)) (hun 138 (by decide)) (hun 139 (by decide)), jZ_fr hM0.2.2.1 (hun 160 (by decide)), jB_fr hM0.2.2.2 (hun 167 (by decide))⟩, jF_un hun (by decide)⟩
set_option maxRecDepth 100000 in
theorem CM_told (l : Launch) (D : va_G) (g : Nat → ClassId) (q : Nat → Nat) (ws : va_W) (x2 : Int32) (x3 : Int32) (x4 : Int32) (hI : q_I (msh g q) q ws) (hM : iM g q ws) : q_mL l y_NM_told prog_14_method_17_code 6 6 0 0 D g [.ref (q 116), .int x2, .int x3, .int x4] ws (fun _ u => jP g q ws u) := by
  have hM0 := hM
  obtain ⟨t2_0, t3_0, hT2, hT3, hW⟩ := hM.1
  obtain ⟨t5_0, t6_0, t7_0, t8_0, hT5, hT6, hT7, hT8, hD⟩ := hM.2.1
  obtain ⟨t16_0, hT16, hB⟩ := hM.2.2.2
  obtain ⟨t0_0, t0_1, t0_2, hT0, bT0⟩ := n_o116 hI
  obtain ⟨t1_0, t1_1, t1_2, t1_3, t1_4, t1_5, t1_6, hT1, bT1⟩ := n_o119 hI
  obtain ⟨t4_0, t4_1, t4_2, t4_3, t4_4, t4_5, t4_6, t4_7, t4_8, t4_9, t4_10, hT4, bT4⟩ := n_o134 hI
  obtain ⟨t9_0, t9_1, t9_2, t9_3, t9_4, t9_5, t9_6, t9_7, t9_8, t9_9, t9_10, hT9, bT9⟩ := n_o145 hI
  obtain ⟨t10_0, hT10, -⟩ := n_ai hI (n_s146 g q)
  obtain ⟨t11_0, hT11, -⟩ := n_ai hI (n_s147 g q)
  obtain ⟨t12_0, hT12, -⟩ := n_ai hI (n_s148 g q)
  obtain ⟨t13_0, hT13, -⟩ := n_ai hI (n_s149 g q)
  obtain ⟨t14_0, hT14, -⟩ := n_ai hI (n_s150 g q)
  obtain ⟨t15_0, hT15, -⟩ := n_ai hI (n_s151 g q)
  have hq := T_NM_told (x2 := x2) (x3 := x3) (x4 := x4) (t0_0 := t0_0) (t0_1 := t0_1) (t0_2 := t0_2) (t1_0 := t1_0) (t1_1 := t1_1) (t1_2 := t1_2) (t1_3 := t1_3) (t1_4 := t1_4) (t1_5 := t1_5) (t1_6 := t1_6) (t2_0 := t2_0) (t3_0 := t3_0) (t4_0 := t4_0) (t4_1 := t4_1) (t4_2 := t4_2) (t4_3 := t4_3) (t4_4 := t4_4) (t4_5 := t4_5) (t4_6 := t4_6) (t4_7 := t4_7) (t4_8 := t4_8) (t4_9 := t4_9) (t4_10 := t4_10) (t5_0 := t5_0) (t6_0 := t6_0) (t7_0 := t7_0) (t8_0 := t8_0) (t9_0 := t9_0) (t9_1 := t9_1) (t9_2 := t9_2) (t9_3 := t9_3) (t9_4 := t9_4) (t9_5 := t9_5) (t9_6 := t9_6) (t9_7 := t9_7) (t9_8 := t9_8) (t9_9 := t9_9) (t9_10 := t9_10) (t10_0 := t10_0) (t11_0 := t11_0) (t12_0 := t12_0) (t13_0 := t13_0) (t14_0 := t14_0) (t15_0 := t15_0) (t16_0 := t16_0) hW hD hB
  refine q_mLw (X_NM_told l D g q ws x2 x3 x4 hI t0_0 t0_1 t0_2 hT0 t1_0 t1_1 t1_2 t1_3 t1_4 t1_5 t1_6 hT1 t2_0 hT2 t3_0 hT3 t4_0 t4_1 t4_2 t4_3 t4_4 t4_5 t4_6 t4_7 t4_8 t4_9 t4_10 hT4 t5_0 hT5 t6_0 hT6 t7_0 hT7 t8_0 hT8 t9_0 t9_1 t9_2 t9_3 t9_4 t9_5 t9_6 t9_7 t9_8 t9_9 t9_10 hT9 t10_0 hT10 t11_0 hT11 t12_0 hT12 t13_0 hT13 t14_0 hT14 t15_0 hT15 t16_0 hT16 ⟨trivial, hq⟩) ?_
  rintro r u ⟨hI2, hun, u0_0, u1_0, u1_1, u1_2, u1_3, u1_4, u1_5, u1_6, u4_0, u4_1, u4_2, u4_3, u4_4, u4_5, u4_6, u4_7, u4_8, u4_9, u4_10, u9_0, u9_1, u9_2, u9_3, u9_4, u9_5, u9_6, u9_7, u9_8, u9_9, u9_10, u10_0, u11_0, u12_0, u13_0, u14_0, u15_0, hU0, hU1, hU2, hU3, hU4, hU5, hU6, hU7, hU8, hU9, hR⟩
  exact ⟨hI2, ⟨jW_fr hM0.1 (hun 121 (by decide)) (hun 122 (by decide)), jD_fr hM0.2.1 (hun 136 (by decide)) (hun 137 (by decide)) (hun 138 (by decide)) (hun 139 (by decide)), jZ_fr hM0.2.2.1 (hun 160 (by decide)), jB_fr hM0.2.2.2 (hun 167 (by decide))⟩, jF_un hun (by decide)⟩
