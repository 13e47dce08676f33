/-! whole's law: figures -/
def zFn (x2 x3 : Int32) (σ : zSt) : Prop := (x2.toInt = 2 → yEx 52 2047 (yu (zsV σ x3.toNatClampNeg)) ≠ 2047) ∧ (x2.toInt = 3 → yEx 23 255 (yu (zsN σ x3.toNatClampNeg)) ≠ 255)
def zFi (x2 x3 : Int32) (σ : zSt) : Prop := (x2.toInt = 2 → yEx 52 2047 (yu (zsV σ x3.toNatClampNeg)) = 2047) ∧ (x2.toInt = 3 → yEx 23 255 (yu (zsN σ x3.toNatClampNeg)) = 255)
def zFt (x2 x3 x4 x5 x6 : Int32) (σ : zSt) (t : List Nat) : Prop := (x2.toInt = 2 → yFiT 52 2047 (-1074) (yu (zsV σ x3.toNatClampNeg)) x4 x5 x6 t) ∧ (x2.toInt = 3 → yFiT 23 255 (-149) (yu (zsN σ x3.toNatClampNeg)) x4 x5 x6 t)
theorem zFn_i {x2 x3 : Int32} {σ : zSt} (h : x2.toInt = 2 ∨ x2.toInt = 3) (a : zFn x2 x3 σ) (b : zFi x2 x3 σ) : False := h.elim (fun e => a.1 e (b.1 e)) (fun e => a.2 e (b.2 e))
set_option maxRecDepth 100000 in
set_option maxHeartbeats 4000000 in
theorem CW_figures (l : Launch) (D : va_G) (g : Nat → ClassId) (q : Nat → Nat) (ws : va_W) (x2 : Int32) (x3 : Int32) (x4 : Int32) (x5 : Int32) (x6 : Int32) (hzx4 : 0 ≤ x4.toInt ∧ x4.toInt ≤ 1) (hlt : l.stackTraces = false) (hI : q_I (nsh g q) q ws) (hC : iC g q ws) {σ : zSt} (hS : sC g q ws σ) (hk0 : zOk σ) : ∀ sz, q_Mx l y_NH_figures prog_1_method_18_code 9 (some .int) 8 3 18 D g [.ref (q 0), .int x2, .int x3, .int x4, .int x5, .int x6] ws sz (va_Qi (fun r u => iP g q ws u ∧ yFiOk x2 x3 x4 x5 x6 ∧ zFn x2 x3 σ ∧ ∃ t, zFt x2 x3 x4 x5 x6 σ t ∧ r.toInt = (t.length : Int) ∧ sC g q u (zsW σ, zsD σ, zsV σ, zsN σ, zsL σ, zsB σ, t, zsA σ)) (q_B D g (va_A ws sz)) (va_A ws sz)) (fun E u => ∃ c : Int32, E = qE c ∧ (c = 1 ∨ c = 2) ∧ iP g q ws u ∧ ((¬ yFiOk x2 x3 x4 x5 x6 ∧ c = 1) ∨ (yFiOk x2 x3 x4 x5 x6 ∧ c = 2 ∧ zFi x2 x3 σ)) ∧ sC g q u σ) := by
  intro sz
  obtain ⟨t0_0, hT0, bT0⟩ := n_shO hI (n_h3 g q)
  obtain ⟨t1_0, hT1⟩ := n_al hI (n_s4 g q)
  obtain ⟨t2_0, t2_1, hT2, bT2⟩ := q_bigO hI (n_b10 g q)
  obtain ⟨t3_0, hT3, bT3⟩ := n_ai hI (n_s11 g q)
  obtain ⟨t4_0, t4_1, hT4, bT4⟩ := n_o36 hI
  obtain ⟨t5_0, hT5, bT5⟩ := n_ai hI (n_s37 g q)
  obtain ⟨t6_0, hT6⟩ := n_al hI (n_s7 g q)
  obtain ⟨t7_0, hT7⟩ := n_al hI (n_s8 g q)
  obtain ⟨t8_0, t8_1, t8_2, hT8⟩ := n_flO hI (n_f34 g q)
  obtain ⟨t9_0, t9_1, t9_2, hT9⟩ := n_flO hI (n_f35 g q)
  obtain ⟨hS1, hS2, hS3, hS4, hS5, hS6, hS7⟩ := hS
  obtain ⟨fV, yV, hV9⟩ := hS3
  obtain rfl := x_rl hT6 yV
  have hS3 : cFr g q ws 7 (zsV σ) := ⟨_, yV, hV9⟩
  obtain ⟨fN, yN, hN9⟩ := hS4
  obtain rfl := x_rl hT7 yN
  have hS4 : cFr g q ws 8 (zsN σ) := ⟨_, yN, hN9⟩
  obtain ⟨s8, c8, yp1, yp2, hP9⟩ := hS6
  obtain rfl := x_sh hT0 yp1
  obtain rfl := x_rl hT1 yp2
  have hS6 : cPp g q ws (zsP σ) := ⟨_, _, yp1, yp2, hP9⟩
  have hq := T_figures (x2 := x2) (x3 := x3) (x4 := x4) (x5 := x5) (x6 := x6) (t0_0 := t0_0) (t1_0 := t1_0) (t2_0 := t2_0) (t2_1 := t2_1) (t3_0 := t3_0) (t4_0 := t4_0) (t4_1 := t4_1) (t5_0 := t5_0) (t6_0 := t6_0) (t7_0 := t7_0) (t8_0 := t8_0) (t8_1 := t8_1) (t8_2 := t8_2) (t9_0 := t9_0) (t9_1 := t9_1) (t9_2 := t9_2) 
  refine q_MxI (X_NH_figures l D g q ws x2 x3 x4 x5 x6 hlt hI t0_0 hT0 t1_0 hT1 t2_0 t2_1 hT2 t3_0 hT3 t4_0 t4_1 hT4 t5_0 hT5 t6_0 hT6 t7_0 hT7 t8_0 t8_1 t8_2 hT8 t9_0 t9_1 t9_2 hT9 hzx4 ⟨trivial, hq⟩ sz) ?_ ?_
  · rintro r u ⟨hI2, hun, u0_0, u1_0, u2_0, u2_1, u3_0, u4_0, u4_1, u5_0, hU0, hU1, hU2, hU3, hU4, hU5, hR⟩
    refine ⟨⟨hI2, ⟨fun i hi => ?_, fun i hi => ?_, ?_⟩, fun i hi => hun i (by simp only [List.mem_cons, List.not_mem_nil, or_false, not_or]; omega)⟩, ?_⟩
    · exact iW_fr (hC.1 i hi) (hun _ (by simp only [List.mem_cons, List.not_mem_nil, or_false, not_or]; omega)) (hun _ (by simp only [List.mem_cons, List.not_mem_nil, or_false, not_or]; omega))
    · exact iD_fr (hC.2.1 i hi) (hun _ (by simp only [List.mem_cons, List.not_mem_nil, or_false, not_or]; omega)) (hun _ (by simp only [List.mem_cons, List.not_mem_nil, or_false, not_or]; omega)) (hun _ (by simp only [List.mem_cons, List.not_mem_nil, or_false, not_or]; omega))
    · exact iO_fr hC.2.2 (hun _ (by simp only [List.mem_cons, List.not_mem_nil, or_false, not_or]; omega)) (hun _ (by simp only [List.mem_cons, List.not_mem_nil, or_false, not_or]; omega)) (hun _ (by simp only [List.mem_cons, List.not_mem_nil, or_false, not_or]; omega))
    · have hG := hR.2.2.2.2.2.2.2.2.2.2.2.2.2.2.2.2.2.2.2.2.2.2.2.2.2.2.2.2.2.2.2.2.2.2
      have fW : ∀ i, i < 10 → cWr g q u (66 + 5 * i) (zsW σ i) := fun i hi => cWr_fr (hS1 i hi) (hun _ (by simp only [List.mem_cons, List.not_mem_nil, or_false, not_or]; omega)) (hun _ (by simp only [List.mem_cons, List.not_mem_nil, or_false, not_or]; omega))
      have fD : ∀ i, i < 10 → cDr g q u (68 + 5 * i) (zsD σ i) := fun i hi => cDr_fr (hS2 i hi) (hun _ (by simp only [List.mem_cons, List.not_mem_nil, or_false, not_or]; omega)) (hun _ (by simp only [List.mem_cons, List.not_mem_nil, or_false, not_or]; omega)) (hun _ (by simp only [List.mem_cons, List.not_mem_nil, or_false, not_or]; omega))
      have fV : cFr g q u 7 (zsV σ) := (cFr_fr hS3 (hun _ (by simp only [List.mem_cons, List.not_mem_nil, or_false, not_or]; omega)))
      have fN : cFr g q u 8 (zsN σ) := (cFr_fr hS4 (hun _ (by simp only [List.mem_cons, List.not_mem_nil, or_false, not_or]; omega)))
      have fT : cTp g q u (zsL σ) (zsB σ) := (cTp_fr hS5 (hun _ (by simp only [List.mem_cons, List.not_mem_nil, or_false, not_or]; omega)) (hun _ (by simp only [List.mem_cons, List.not_mem_nil, or_false, not_or]; omega)))
      have fA : cAr g q u (zsA σ) := (cAr_fr hS7 (fun i _ _ => (hun _ (by simp only [List.mem_cons, List.not_mem_nil, or_false, not_or]; omega))) (fun i _ _ => (hun _ (by simp only [List.mem_cons, List.not_mem_nil, or_false, not_or]; omega))))
      have hv := V_NH_figures (x2 := x2) (x3 := x3) (x4 := x4) (x5 := x5) (x6 := x6) (t0_0 := t0_0) (t1_0 := t1_0) (t2_0 := t2_0) (t2_1 := t2_1) (t3_0 := t3_0) (t4_0 := t4_0) (t4_1 := t4_1) (t5_0 := t5_0) (t6_0 := t6_0) (t7_0 := t7_0) (t8_0 := t8_0) (t8_1 := t8_1) (t8_2 := t8_2) (t9_0 := t9_0) (t9_1 := t9_1) (t9_2 := t9_2) 
      rw [← hG] at hv
      rcases hv with ⟨ok, z, ea, n2, n3, t, w2, w3, w⟩ | ⟨ok, z, e1, e2⟩ | ⟨ok, z, n2, n3, e1, e2⟩
      · rw [hV9 _ (x_reg ok.2.1)] at n2
        rw [hN9 _ (x_reg ok.2.1)] at n3
        rw [hV9 _ (x_reg ok.2.1)] at w2
        rw [hN9 _ (x_reg ok.2.1)] at w3
        replace ea : r = u0_0 := ea
        refine ⟨ok, ⟨n2, n3⟩, t, ⟨w2, w3⟩, by rw [ea]; exact w.1, ?_⟩
        refine ⟨fW, fD, fV, fN, fT, ⟨_, _, hU0, hU1, w⟩, fA⟩
      · exact absurd (show (0 : Int32) = 1 from z) (by decide)
      · exact absurd (show (0 : Int32) = 2 from z) (by decide)
  · rintro E u ⟨c, hE, hc, hI2, hun, u0_0, u1_0, u2_0, u2_1, u3_0, u4_0, u4_1, u5_0, hU0, hU1, hU2, hU3, hU4, hU5, hF⟩
    have hk := K_NH_figures (x2 := x2) (x3 := x3) (x4 := x4) (x5 := x5) (x6 := x6) (t0_0 := t0_0) (t1_0 := t1_0) (t2_0 := t2_0) (t2_1 := t2_1) (t3_0 := t3_0) (t4_0 := t4_0) (t4_1 := t4_1) (t5_0 := t5_0) (t6_0 := t6_0) (t7_0 := t7_0) (t8_0 := t8_0) (t8_1 := t8_1) (t8_2 := t8_2) (t9_0 := t9_0) (t9_1 := t9_1) (t9_2 := t9_2)
    rw [← hF] at hk
    replace hk : kC12 c := hk
    refine ⟨c, hE, hk.resolve_left hc, ⟨hI2, ⟨fun i hi => ?_, fun i hi => ?_, ?_⟩, fun i hi => hun i (by simp only [List.mem_cons, List.not_mem_nil, or_false, not_or]; omega)⟩, ?_⟩
    · exact iW_fr (hC.1 i hi) (hun _ (by simp only [List.mem_cons, List.not_mem_nil, or_false, not_or]; omega)) (hun _ (by simp only [List.mem_cons, List.not_mem_nil, or_false, not_or]; omega))
    · exact iD_fr (hC.2.1 i hi) (hun _ (by simp only [List.mem_cons, List.not_mem_nil, or_false, not_or]; omega)) (hun _ (by simp only [List.mem_cons, List.not_mem_nil, or_false, not_or]; omega)) (hun _ (by simp only [List.mem_cons, List.not_mem_nil, or_false, not_or]; omega))
    · exact iO_fr hC.2.2 (hun _ (by simp only [List.mem_cons, List.not_mem_nil, or_false, not_or]; omega)) (hun _ (by simp only [List.mem_cons, List.not_mem_nil, or_false, not_or]; omega)) (hun _ (by simp only [List.mem_cons, List.not_mem_nil, or_false, not_or]; omega))
    · have hG := hF
      have fW : ∀ i, i < 10 → cWr g q u (66 + 5 * i) (zsW σ i) := fun i hi => cWr_fr (hS1 i hi) (hun _ (by simp only [List.mem_cons, List.not_mem_nil, or_false, not_or]; omega)) (hun _ (by simp only [List.mem_cons, List.not_mem_nil, or_false, not_or]; omega))
      have fD : ∀ i, i < 10 → cDr g q u (68 + 5 * i) (zsD σ i) := fun i hi => cDr_fr (hS2 i hi) (hun _ (by simp only [List.mem_cons, List.not_mem_nil, or_false, not_or]; omega)) (hun _ (by simp only [List.mem_cons, List.not_mem_nil, or_false, not_or]; omega)) (hun _ (by simp only [List.mem_cons, List.not_mem_nil, or_false, not_or]; omega))
      have fV : cFr g q u 7 (zsV σ) := (cFr_fr hS3 (hun _ (by simp only [List.mem_cons, List.not_mem_nil, or_false, not_or]; omega)))
      have fN : cFr g q u 8 (zsN σ) := (cFr_fr hS4 (hun _ (by simp only [List.mem_cons, List.not_mem_nil, or_false, not_or]; omega)))
      have fT : cTp g q u (zsL σ) (zsB σ) := (cTp_fr hS5 (hun _ (by simp only [List.mem_cons, List.not_mem_nil, or_false, not_or]; omega)) (hun _ (by simp only [List.mem_cons, List.not_mem_nil, or_false, not_or]; omega)))
      have fA : cAr g q u (zsA σ) := (cAr_fr hS7 (fun i _ _ => (hun _ (by simp only [List.mem_cons, List.not_mem_nil, or_false, not_or]; omega))) (fun i _ _ => (hun _ (by simp only [List.mem_cons, List.not_mem_nil, or_false, not_or]; omega))))
      have hv := V_NH_figures (x2 := x2) (x3 := x3) (x4 := x4) (x5 := x5) (x6 := x6) (t0_0 := t0_0) (t1_0 := t1_0) (t2_0 := t2_0) (t2_1 := t2_1) (t3_0 := t3_0) (t4_0 := t4_0) (t4_1 := t4_1) (t5_0 := t5_0) (t6_0 := t6_0) (t7_0 := t7_0) (t8_0 := t8_0) (t8_1 := t8_1) (t8_2 := t8_2) (t9_0 := t9_0) (t9_1 := t9_1) (t9_2 := t9_2) 
      rw [← hG] at hv
      rcases hv with ⟨ok, z, ea, n2, n3, t, w2, w3, w⟩ | ⟨ok, z, e1, e2⟩ | ⟨ok, z, n2, n3, e1, e2⟩
      · exact absurd z hc
      · replace e1 : u0_0 = t0_0 := e1
        replace e2 : u1_0 = t1_0 := e2
        refine ⟨Or.inl ⟨ok, z⟩, ?_⟩
        refine ⟨fW, fD, fV, fN, fT, ⟨_, _, hU0, hU1, (by rw [e1, e2]; exact hP9)⟩, fA⟩
      · rw [hV9 _ (x_reg ok.2.1)] at n2
        rw [hN9 _ (x_reg ok.2.1)] at n3
        replace e1 : u0_0 = t0_0 := e1
        replace e2 : u1_0 = t1_0 := e2
        refine ⟨Or.inr ⟨ok, z, n2, n3⟩, ?_⟩
        refine ⟨fW, fD, fV, fN, fT, ⟨_, _, hU0, hU1, (by rw [e1, e2]; exact hP9)⟩, fA⟩
theorem DW_figures (l : Launch) (D : va_G) (g : Nat → ClassId) (q : Nat → Nat) (ws : va_W) (x2 : Int32) (x3 : Int32) (x4 : Int32) (x5 : Int32) (x6 : Int32) (hzx4 : 0 ≤ x4.toInt ∧ x4.toInt ≤ 1) (hlt : l.stackTraces = false) (hI : q_I (nsh g q) q ws) (hC : iC g q ws) {σ : zSt} (hS : sC g q ws σ) (hk0 : zOk σ) : ∀ sz, q_Mx l y_NH_figures prog_1_method_18_code 9 (some .int) 8 3 18 D g [.ref (q 0), .int x2, .int x3, .int x4, .int x5, .int x6] ws sz (va_Qi (fun r u => iP g q ws u ∧ yFiOk x2 x3 x4 x5 x6 ∧ zFn x2 x3 σ ∧ ∃ t, zFt x2 x3 x4 x5 x6 σ t ∧ r.toInt = (t.length : Int) ∧ sC g q u (zsW σ, zsD σ, zsV σ, zsN σ, zsL σ, zsB σ, t, zsA σ)) (q_B D g (va_A ws sz)) (va_A ws sz)) (fun E u => ∃ c : Int32, E = qE c ∧ (c = 1 ∨ c = 2) ∧ iP g q ws u ∧ ((¬ yFiOk x2 x3 x4 x5 x6 ∧ c = 1) ∨ (yFiOk x2 x3 x4 x5 x6 ∧ c = 2 ∧ zFi x2 x3 σ)) ∧ sC g q u σ) := by
  exact CW_figures l D g q ws x2 x3 x4 x5 x6 hzx4 hlt hI hC hS hk0
set_option maxRecDepth 100000 in
set_option maxHeartbeats 4000000 in
theorem DM_figures (l : Launch) (D : va_G) (g : Nat → ClassId) (q : Nat → Nat) (ws : va_W) (x2 : Int32) (x3 : Int32) (x4 : Int32) (x5 : Int32) (x6 : Int32) (hzx4 : 0 ≤ x4.toInt ∧ x4.toInt ≤ 1) (hI : q_I (msh g q) q ws) (hM : iM g q ws) {th : Int32} {σ : zSt} (hS : sM g q ws th σ) (hk0 : zOk σ) : q_mI l y_NM_figures prog_14_method_34_code 9 (.int) 4 0 0 D g [.ref (q 116), .int x2, .int x3, .int x4, .int x5, .int x6] ws (fun r u => jP g q ws u ∧ ((yFiOk x2 x3 x4 x5 x6 ∧ zFn x2 x3 σ ∧ ∀ t, zFt x2 x3 x4 x5 x6 σ t → t.length ≤ 1600 ∧ r.toInt = (t.length : Int) ∧ sM g q u 0 (zsW σ, zsD σ, zsV σ, zsN σ, zsL σ, zsB σ, t, zsA σ)) ∨ (¬ yFiOk x2 x3 x4 x5 x6 ∧ sM g q u 1 σ) ∨ (yFiOk x2 x3 x4 x5 x6 ∧ zFi x2 x3 σ ∧ sM g q u 2 σ))) := by
  have hM0 := hM
  obtain ⟨t8_0, hT8, hB⟩ := hM.2.2.2
  obtain ⟨t0_0, t0_1, t0_2, hT0, bT0⟩ := n_o116 hI
  obtain ⟨t1_0, t1_1, t1_2, t1_3, t1_4, t1_5, t1_6, t1_7, t1_8, t1_9, t1_10, hT1, bT1⟩ := n_o145 hI
  obtain ⟨t2_0, hT2, -⟩ := n_ai hI (n_s146 g q)
  obtain ⟨t3_0, hT3, -⟩ := n_ai hI (n_s147 g q)
  obtain ⟨t4_0, hT4, -⟩ := n_ai hI (n_s148 g q)
  obtain ⟨t5_0, hT5, -⟩ := n_ai hI (n_s151 g q)
  obtain ⟨t6_0, hT6, -⟩ := n_ai hI (n_s152 g q)
  obtain ⟨t7_0, hT7, -⟩ := n_ai hI (n_s118 g q)
  obtain ⟨hS1, hS2, hS3, hS4, hS5⟩ := hS
  obtain ⟨s9, p9, r9, r8, y0, y1, y2, jL9, jT9, jP9⟩ := hS4
  obtain ⟨-, rfl, rfl⟩ := x_116 hT0 y0
  obtain rfl := x_ri hT7 y2
  obtain ⟨f9, yf, hV9, hN9⟩ := hS3
  obtain rfl := x_rl hT8 yf
  have hS3 : mFr g q ws (zsV σ) (zsN σ) := ⟨_, yf, hV9, hN9⟩
  have hq := T_NM_figures (x2 := x2) (x3 := x3) (x4 := x4) (x5 := x5) (x6 := x6) (t0_0 := t0_0) (t0_1 := t0_1) (t0_2 := t0_2) (t1_0 := t1_0) (t1_1 := t1_1) (t1_2 := t1_2) (t1_3 := t1_3) (t1_4 := t1_4) (t1_5 := t1_5) (t1_6 := t1_6) (t1_7 := t1_7) (t1_8 := t1_8) (t1_9 := t1_9) (t1_10 := t1_10) (t2_0 := t2_0) (t3_0 := t3_0) (t4_0 := t4_0) (t5_0 := t5_0) (t6_0 := t6_0) (t7_0 := t7_0) (t8_0 := t8_0) hB
  refine q_mIw (X_NM_figures l D g q ws x2 x3 x4 x5 x6 hI t0_0 t0_1 t0_2 hT0 t1_0 t1_1 t1_2 t1_3 t1_4 t1_5 t1_6 t1_7 t1_8 t1_9 t1_10 hT1 t2_0 hT2 t3_0 hT3 t4_0 hT4 t5_0 hT5 t6_0 hT6 t7_0 hT7 t8_0 hT8 hzx4 ⟨trivial, hq⟩) ?_
  rintro r u ⟨hI2, hun, u0_0, u0_2, u1_0, u1_1, u1_2, u1_3, u1_4, u1_5, u1_6, u1_7, u1_8, u1_9, u1_10, u2_0, u3_0, u4_0, u5_0, u6_0, u7_0, hU0, hU1, hU2, hU3, hU4, hU5, hU6, hU7, hR⟩
  refine ⟨⟨hI2, ⟨jW_fr hM0.1 (hun 121 (by decide)) (hun 122 (by decide)), jD_fr hM0.2.1 (hun 136 (by decide)) (hun 137 (by decide)) (hun 138 (by decide)) (hun 139 (by decide)), jZ_fr hM0.2.2.1 (hun 160 (by decide)), jB_fr hM0.2.2.2 (hun 167 (by decide))⟩, jF_un hun (by decide)⟩, ?_⟩
  have hG := hR.2.2.2.2.2
  have hv := V_NM_figures (x2 := x2) (x3 := x3) (x4 := x4) (x5 := x5) (x6 := x6) (t0_0 := t0_0) (t0_1 := t0_1) (t0_2 := t0_2) (t1_0 := t1_0) (t1_1 := t1_1) (t1_2 := t1_2) (t1_3 := t1_3) (t1_4 := t1_4) (t1_5 := t1_5) (t1_6 := t1_6) (t1_7 := t1_7) (t1_8 := t1_8) (t1_9 := t1_9) (t1_10 := t1_10) (t2_0 := t2_0) (t3_0 := t3_0) (t4_0 := t4_0) (t5_0 := t5_0) (t6_0 := t6_0) (t7_0 := t7_0) (t8_0 := t8_0) (wd := yu (zsV σ x3.toNatClampNeg)) (nr := yu (zsN σ x3.toNatClampNeg)) (fun r9 e9 => x_bw hV9 hk0.2.2.1 r9 e9) (fun r9 e9 => x_bn hN9 hk0.2.2.2.1 r9 e9)
  rw [← hG] at hv
  rcases hv with ⟨ok, z, ea, n2, n3, w⟩ | ⟨ok, z, e1, e2⟩ | ⟨ok, z, n2, n3, e1, e2⟩
  · replace z : u0_0 = 0 := z
    replace ea : r = u0_2 := ea
    refine Or.inl ⟨ok, ⟨n2, n3⟩, fun t ht => ?_⟩
    obtain ⟨w, hl9⟩ := w t ht.1 ht.2
    exact ⟨hl9, by rw [ea]; exact w.1, ⟨(mWr_fr hS1 (hun 121 (by decide)) (hun 122 (by decide))), (mDr_fr hS2 (hun 136 (by decide)) (hun 137 (by decide)) (hun 138 (by decide)) (hun 139 (by decide))), (mFr_fr hS3 (hun 167 (by decide))), ⟨_, _, _, _, by rw [← z]; exact hU0, (hun 117 (by decide)).trans y1, hU7, jL9, jT9, w⟩, (mAr_fr hS5 (hun 157 (by decide)) (hun 159 (by decide)) (hun 160 (by decide)) (hun 161 (by decide)) (hun 162 (by decide)))⟩⟩
  · replace z : u0_0 = 1 := z
    replace e1 : u0_2 = t0_2 := e1
    replace e2 : u7_0 = t7_0 := e2
    exact Or.inr (Or.inl ⟨ok, ⟨(mWr_fr hS1 (hun 121 (by decide)) (hun 122 (by decide))), (mDr_fr hS2 (hun 136 (by decide)) (hun 137 (by decide)) (hun 138 (by decide)) (hun 139 (by decide))), (mFr_fr hS3 (hun 167 (by decide))), ⟨_, _, _, _, by rw [← z]; exact hU0, (hun 117 (by decide)).trans y1, hU7, jL9, jT9, (by rw [e1, e2]; exact jP9)⟩, (mAr_fr hS5 (hun 157 (by decide)) (hun 159 (by decide)) (hun 160 (by decide)) (hun 161 (by decide)) (hun 162 (by decide)))⟩⟩)
  · replace z : u0_0 = 2 := z
    replace e1 : u0_2 = t0_2 := e1
    replace e2 : u7_0 = t7_0 := e2
    exact Or.inr (Or.inr ⟨ok, ⟨n2, n3⟩, ⟨(mWr_fr hS1 (hun 121 (by decide)) (hun 122 (by decide))), (mDr_fr hS2 (hun 136 (by decide)) (hun 137 (by decide)) (hun 138 (by decide)) (hun 139 (by decide))), (mFr_fr hS3 (hun 167 (by decide))), ⟨_, _, _, _, by rw [← z]; exact hU0, (hun 117 (by decide)).trans y1, hU7, jL9, jT9, (by rw [e1, e2]; exact jP9)⟩, (mAr_fr hS5 (hun 157 (by decide)) (hun 159 (by decide)) (hun 160 (by decide)) (hun 161 (by decide)) (hun 162 (by decide)))⟩⟩)
