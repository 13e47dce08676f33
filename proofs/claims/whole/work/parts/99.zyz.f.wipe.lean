/-! whole's law: wipe, paperAt -/
def zsE (σ : zSt) : zSt := (zsW σ, zsD σ, zsV σ, zsN σ, 0, zsB σ, zsP σ, zsA σ)
theorem zsE_k {σ : zSt} (h : zOk σ) : zOk (zsE σ) := ⟨h.1, h.2.1, h.2.2.1, h.2.2.2.1, Nat.zero_le _, h.2.2.2.2.2⟩
set_option maxRecDepth 100000 in
set_option maxHeartbeats 4000000 in
theorem CW_wipe (l : Launch) (D : va_G) (g : Nat → ClassId) (q : Nat → Nat) (ws : va_W) (hI : q_I (nsh g q) q ws) (hC : iC g q ws) {σ : zSt} (hS : sC g q ws σ) : q_mI l y_NH_wipe prog_1_method_3_code 2 (.int) 2 0 0 D g [.ref (q 0)] ws (fun r u => iP g q ws u ∧ r.toInt = (zsL σ : Int) ∧ sC g q u (zsE σ)) := by
  obtain ⟨t0_0, hT0, bT0⟩ := n_shO hI (n_h1 g q)
  obtain ⟨t1_0, hT1⟩ := n_al hI (n_s2 g q)
  obtain ⟨hS1, hS2, hS3, hS4, hS5, hS6, hS7⟩ := hS
  obtain ⟨s9, c9, y1, y2, hL, hB⟩ := hS5
  obtain rfl := x_sh hT0 y1
  obtain rfl := x_rl hT1 y2
  refine q_mIw (X_NH_wipe l D g q ws hI t0_0 hT0 t1_0 hT1) ?_
  rintro r u ⟨hI2, hun, u0, hU, hR⟩
  refine ⟨⟨hI2, ⟨fun i hi => ?_, fun i hi => ?_, ?_⟩, fun i hi => hun i (by simp only [List.mem_cons, List.not_mem_nil, or_false]; omega)⟩, ?_⟩
  · exact iW_fr (hC.1 i hi) (hun _ (by simp only [List.mem_cons, List.not_mem_nil, or_false]; omega)) (hun _ (by simp only [List.mem_cons, List.not_mem_nil, or_false]; omega))
  · exact iD_fr (hC.2.1 i hi) (hun _ (by simp only [List.mem_cons, List.not_mem_nil, or_false]; omega)) (hun _ (by simp only [List.mem_cons, List.not_mem_nil, or_false]; omega)) (hun _ (by simp only [List.mem_cons, List.not_mem_nil, or_false]; omega))
  · exact iO_fr hC.2.2 (hun _ (by simp only [List.mem_cons, List.not_mem_nil, or_false]; omega)) (hun _ (by simp only [List.mem_cons, List.not_mem_nil, or_false]; omega)) (hun _ (by simp only [List.mem_cons, List.not_mem_nil, or_false]; omega))
  · have hR := hR.2.2.2.2
    have e1 : r = t0_0 := congrArg (fun z => z.1) hR
    have e2 : u0 = 0 := congrArg (fun z => z.2) hR
    exact ⟨by rw [e1]; exact hL, (fun i hi => cWr_fr (hS1 i hi) (hun _ (by simp only [List.mem_cons, List.not_mem_nil, or_false]; omega)) (hun _ (by simp only [List.mem_cons, List.not_mem_nil, or_false]; omega))), (fun i hi => cDr_fr (hS2 i hi) (hun _ (by simp only [List.mem_cons, List.not_mem_nil, or_false]; omega)) (hun _ (by simp only [List.mem_cons, List.not_mem_nil, or_false]; omega)) (hun _ (by simp only [List.mem_cons, List.not_mem_nil, or_false]; omega))), (cFr_fr hS3 (hun _ (by simp only [List.mem_cons, List.not_mem_nil, or_false]; omega))), (cFr_fr hS4 (hun _ (by simp only [List.mem_cons, List.not_mem_nil, or_false]; omega))), ⟨u0, _, hU, (hun _ (by simp only [List.mem_cons, List.not_mem_nil, or_false]; omega)).trans hT1, by rw [e2]; rfl, hB⟩, (cPp_fr hS6 (hun _ (by simp only [List.mem_cons, List.not_mem_nil, or_false]; omega)) (hun _ (by simp only [List.mem_cons, List.not_mem_nil, or_false]; omega))), (cAr_fr hS7 (fun i _ _ => (hun _ (by simp only [List.mem_cons, List.not_mem_nil, or_false]; omega))) (fun i _ _ => (hun _ (by simp only [List.mem_cons, List.not_mem_nil, or_false]; omega))))⟩
set_option maxRecDepth 100000 in
set_option maxHeartbeats 4000000 in
theorem DM_wipe (l : Launch) (D : va_G) (g : Nat → ClassId) (q : Nat → Nat) (ws : va_W) (hI : q_I (msh g q) q ws) (hM : iM g q ws) {th : Int32} {σ : zSt} (hS : sM g q ws th σ) : q_mI l y_NM_wipe prog_14_method_4_code 2 (.int) 1 0 0 D g [.ref (q 116)] ws (fun r u => jP g q ws u ∧ r.toInt = (zsL σ : Int) ∧ sM g q u 0 (zsE σ)) := by
  have hM0 := hM
  obtain ⟨t0_0, t0_1, t0_2, hT0, bT0⟩ := n_o116 hI
  obtain ⟨hS1, hS2, hS3, hS4, hS5⟩ := hS
  obtain ⟨s9, p9, r9, r8, y0, y1, y2, hL, hT, hP⟩ := hS4
  obtain ⟨-, rfl, rfl⟩ := x_116 hT0 y0
  refine q_mIw (X_NM_wipe l D g q ws hI t0_0 t0_1 t0_2 hT0) ?_
  rintro r u ⟨hI2, hun, u0_0, u0_1, hU0, hR⟩
  refine ⟨⟨hI2, ⟨jW_fr hM0.1 (hun 121 (by decide)) (hun 122 (by decide)), jD_fr hM0.2.1 (hun 136 (by decide)) (hun 137 (by decide)) (hun 138 (by decide)) (hun 139 (by decide)), jZ_fr hM0.2.2.1 (hun 160 (by decide)), jB_fr hM0.2.2.2 (hun 167 (by decide))⟩, jF_un hun (by decide)⟩, ?_⟩
  have hR := hR.2.2.2.2.2.2
  have e1 : r = t0_1 := congrArg (fun z => z.1) hR
  have e2 : u0_0 = 0 := congrArg (fun z => z.2.1) hR
  have e3 : u0_1 = 0 := congrArg (fun z => z.2.2) hR
  exact ⟨by rw [e1]; exact hL, (mWr_fr hS1 (hun 121 (by decide)) (hun 122 (by decide))), (mDr_fr hS2 (hun 136 (by decide)) (hun 137 (by decide)) (hun 138 (by decide)) (hun 139 (by decide))), (mFr_fr hS3 (hun 167 (by decide))), ⟨u0_1, _, _, _, by rw [← e2]; exact hU0, (hun 117 (by decide)).trans y1, (hun 118 (by decide)).trans y2, by rw [e3]; rfl, fun i hi => absurd hi (Nat.not_lt_zero _), hP⟩, (mAr_fr hS5 (hun 157 (by decide)) (hun 159 (by decide)) (hun 160 (by decide)) (hun 161 (by decide)) (hun 162 (by decide)))⟩
set_option maxRecDepth 100000 in
set_option maxHeartbeats 4000000 in
theorem CW_paperAt (l : Launch) (D : va_G) (g : Nat → ClassId) (q : Nat → Nat) (ws : va_W) (x2 : Int32) (hI : q_I (nsh g q) q ws) (hC : iC g q ws) {σ : zSt} (hS : sC g q ws σ) (hk0 : zOk σ) : q_mL l y_NH_paperAt prog_1_method_21_code 5 2 0 0 D g [.ref (q 0), .int x2] ws (fun r u => iP g q ws u ∧ r = yPo (zsP σ) x2.toInt 8 0 0 ∧ sC g q u σ) := by
  obtain ⟨t0_0, hT0, bT0⟩ := n_shO hI (n_h3 g q)
  obtain ⟨t1_0, hT1⟩ := n_al hI (n_s4 g q)
  have hSS := hS
  obtain ⟨hS1, hS2, hS3, hS4, hS5, hS6, hS7⟩ := hS
  obtain ⟨s9, c9, y1, y2, hP⟩ := hS6
  obtain rfl := x_sh hT0 y1
  obtain rfl := x_rl hT1 y2
  refine q_mLw (X_NH_paperAt l D g q ws x2 hI t0_0 hT0 t1_0 hT1) ?_
  rintro r u ⟨e1, e2⟩
  subst e1
  exact ⟨⟨hI, hC, fun _ _ => rfl⟩, e2.trans (V_paper hP hk0.2.2.2.2.2.2.1), hSS⟩
set_option maxRecDepth 100000 in
set_option maxHeartbeats 4000000 in
theorem DM_paperAt (l : Launch) (D : va_G) (g : Nat → ClassId) (q : Nat → Nat) (ws : va_W) (x2 : Int32) (hI : q_I (msh g q) q ws) (hM : iM g q ws) {th : Int32} {σ : zSt} (hS : sM g q ws th σ) (hk0 : zOk σ) : q_mL l y_NM_paperAt prog_14_method_6_code 7 1 0 0 D g [.ref (q 116), .int x2] ws (fun r u => jP g q ws u ∧ r = yPo (zsP σ) x2.toInt 8 0 0 ∧ sM g q u 0 σ) := by
  have hM0 := hM
  obtain ⟨t0_0, t0_1, t0_2, hT0, bT0⟩ := n_o116 hI
  obtain ⟨t1_0, hT1, -⟩ := n_ai hI (n_s118 g q)
  obtain ⟨hS1, hS2, hS3, hS4, hS5⟩ := hS
  obtain ⟨s9, p9, r9, r8, y0, y1, y2, hL, hT, hP⟩ := hS4
  obtain ⟨-, rfl, rfl⟩ := x_116 hT0 y0
  obtain rfl := x_ri hT1 y2
  have hq := T_NM_paperAt (x2 := x2) (t0_0 := t0_0) (t0_1 := t0_1) (t0_2 := t0_2) (t1_0 := t1_0) (by first | exact bT0 | exact bT0.1 | exact bT0.2 | exact bT0.2.1 | exact bT0.2.2 | exact bT0.2.2.1 | exact bT0.2.2.2)
  refine q_mLw (X_NM_paperAt l D g q ws x2 hI t0_0 t0_1 t0_2 hT0 t1_0 hT1 ⟨trivial, hq⟩) ?_
  rintro r u ⟨hI2, hun, u0_0, hU0, hR⟩
  refine ⟨⟨hI2, ⟨jW_fr hM0.1 (hun 121 (by decide)) (hun 122 (by decide)), jD_fr hM0.2.1 (hun 136 (by decide)) (hun 137 (by decide)) (hun 138 (by decide)) (hun 139 (by decide)), jZ_fr hM0.2.2.1 (hun 160 (by decide)), jB_fr hM0.2.2.2 (hun 167 (by decide))⟩, jF_un hun (by decide)⟩, ?_⟩
  have hR := hR.2.2
  have hv := V_mpaper (x2 := x2) (t0_0 := t0_0) (t0_1 := t0_1) (t0_2 := t0_2) (t1_0 := t1_0) hP (Nat.le_trans hk0.2.2.2.2.2.2.1 (by decide)) hk0.2.2.2.2.2.2.2
  rw [← hR] at hv
  have e2 : u0_0 = 0 := hv.2
  exact ⟨hv.1, (mWr_fr hS1 (hun 121 (by decide)) (hun 122 (by decide))), (mDr_fr hS2 (hun 136 (by decide)) (hun 137 (by decide)) (hun 138 (by decide)) (hun 139 (by decide))), (mFr_fr hS3 (hun 167 (by decide))), ⟨_, _, _, _, by rw [← e2]; exact hU0, (hun 117 (by decide)).trans y1, (hun 118 (by decide)).trans y2, hL, hT, hP⟩, (mAr_fr hS5 (hun 157 (by decide)) (hun 159 (by decide)) (hun 160 (by decide)) (hun 161 (by decide)) (hun 162 (by decide)))⟩
