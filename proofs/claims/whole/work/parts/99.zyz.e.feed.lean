/-! whole's law: feed -/
def rFd (x2 : Int32) (x3 : Int64) (σ : zSt) (c a : Int32) (σ2 : zSt) : Prop := (¬ yFdOk x2 ∧ c = 1 ∧ σ2 = σ) ∨ (yFdOk x2 ∧ c = 0 ∧ ((4100 < (zsL σ : Int) + x2.toInt ∧ a = -1 ∧ σ2 = σ) ∨ ∃ k : Nat, x2.toInt = (k : Int) ∧ zsL σ + k ≤ 4100 ∧ a.toInt = ((zsL σ + k : Nat) : Int) ∧ σ2 = (zsW σ, zsD σ, zsV σ, zsN σ, zsL σ + k, (fun i => if zsL σ ≤ i ∧ i < zsL σ + k then ((yBy8 x3 (i - zsL σ) : Nat) : Int) else zsB σ i), zsP σ, zsA σ)))
theorem rFd_U {x2 : Int32} {x3 : Int64} {σ s t : zSt} {c a c2 a2 : Int32} (h : rFd x2 x3 σ c a s) (g : rFd x2 x3 σ c2 a2 t) : c = c2 ∧ (c = 0 → a = a2) ∧ s = t := by
  rcases h with ⟨h1, h2, h3⟩ | ⟨h1, h2, h3⟩ <;> rcases g with ⟨g1, g2, g3⟩ | ⟨g1, g2, g3⟩
  · exact ⟨h2.trans g2.symm, fun w => absurd (h2.symm.trans w) (by decide), h3.trans g3.symm⟩
  · exact absurd g1 h1
  · exact absurd h1 g1
  · refine ⟨h2.trans g2.symm, ?_⟩
    rcases h3 with ⟨p1, p2, p3⟩ | ⟨k, p1, p2, p3, p4⟩ <;> rcases g3 with ⟨r1, r2, r3⟩ | ⟨k2, r1, r2, r3, r4⟩
    · exact ⟨fun _ => p2.trans r2.symm, p3.trans r3.symm⟩
    · omega
    · omega
    · have kk : k = k2 := by omega
      subst kk
      exact ⟨fun _ => Int32.toInt_inj.mp (p3.trans r3.symm), p4.trans r4.symm⟩
theorem rFd_k {x2 : Int32} {x3 : Int64} {σ s : zSt} {c a : Int32} (h : rFd x2 x3 σ c a s) (hk : zOk σ) : zOk s := by
  rcases h with ⟨h1, h2, h3⟩ | ⟨h1, h2, ⟨p1, p2, p3⟩ | ⟨k, p1, p2, p3, p4⟩⟩
  · rw [h3]; exact hk
  · rw [p3]; exact hk
  · rw [p4]
    obtain ⟨k1, k2, k3, k4, k5, k6, k7, k8⟩ := hk
    refine ⟨k1, k2, k3, k4, p2, fun i => ?_, k7, k8⟩
    show 0 ≤ (if zsL σ ≤ i ∧ i < zsL σ + k then ((yBy8 x3 (i - zsL σ) : Nat) : Int) else zsB σ i) ∧ (if zsL σ ≤ i ∧ i < zsL σ + k then ((yBy8 x3 (i - zsL σ) : Nat) : Int) else zsB σ i) ≤ 255
    have b8 : yBy8 x3 (i - zsL σ) < 256 := Nat.mod_lt _ (by decide)
    by_cases w : zsL σ ≤ i ∧ i < zsL σ + k
    · rw [if_pos w]
      omega
    · rw [if_neg w]
      exact k6 i
set_option maxRecDepth 100000 in
set_option maxHeartbeats 4000000 in
theorem CW_feed (l : Launch) (D : va_G) (g : Nat → ClassId) (q : Nat → Nat) (ws : va_W) (x2 : Int32) (x3 : Int64) (hlt : l.stackTraces = false) (hI : q_I (nsh g q) q ws) (hC : iC g q ws) {σ : zSt} (hS : sC g q ws σ) (hk0 : zOk σ) : ∀ sz, q_Mx l y_NH_feed prog_1_method_2_code 5 (some .int) 8 1 6 D g [.ref (q 0), .int x2, .long x3] ws sz (va_Qi (fun r u => iP g q ws u ∧ ∃ σ2, rFd x2 x3 σ 0 r σ2 ∧ sC g q u σ2) (q_B D g (va_A ws sz)) (va_A ws sz)) (fun E u => (∃ c : Int32, E = qE c ∧ (c = 1)) ∧ iP g q ws u ∧ rFd x2 x3 σ 1 0 σ ∧ sC g q u σ) := by
  intro sz
  obtain ⟨t0_0, hT0, bT0⟩ := n_shO hI (n_h1 g q)
  obtain ⟨t1_0, hT1⟩ := n_al hI (n_s2 g q)
  have hSS := hS
  obtain ⟨hS1, hS2, hS3, hS4, hS5, hS6, hS7⟩ := hS
  obtain ⟨s9, c9, y1, y2, hL, hB⟩ := hS5
  obtain rfl := x_sh hT0 y1
  obtain rfl := x_rl hT1 y2
  have hq := T_feed (x2 := x2) (x3 := x3) (t0_0 := t0_0) (t1_0 := t1_0) (by first | exact bT0 | exact bT0.1 | exact bT0.2 | exact bT0.2.1 | exact bT0.2.2 | exact bT0.1.1)
  refine q_MxI (X_NH_feed l D g q ws x2 x3 hlt hI t0_0 hT0 t1_0 hT1 ⟨trivial, hq⟩ sz) ?_ ?_
  · rintro r u ⟨hI2, hun, u0_0, u1_0, hU0, hU1, hR⟩
    refine ⟨⟨hI2, ⟨fun i hi => ?_, fun i hi => ?_, ?_⟩, fun i hi => hun i (by simp only [List.mem_cons, List.not_mem_nil, or_false, not_or]; omega)⟩, ?_⟩
    · exact iW_fr (hC.1 i hi) (hun _ (by simp only [List.mem_cons, List.not_mem_nil, or_false, not_or]; omega)) (hun _ (by simp only [List.mem_cons, List.not_mem_nil, or_false, not_or]; omega))
    · exact iD_fr (hC.2.1 i hi) (hun _ (by simp only [List.mem_cons, List.not_mem_nil, or_false, not_or]; omega)) (hun _ (by simp only [List.mem_cons, List.not_mem_nil, or_false, not_or]; omega)) (hun _ (by simp only [List.mem_cons, List.not_mem_nil, or_false, not_or]; omega))
    · exact iO_fr hC.2.2 (hun _ (by simp only [List.mem_cons, List.not_mem_nil, or_false, not_or]; omega)) (hun _ (by simp only [List.mem_cons, List.not_mem_nil, or_false, not_or]; omega)) (hun _ (by simp only [List.mem_cons, List.not_mem_nil, or_false, not_or]; omega))
    · have hv := V_NH_feed (x2 := x2) (x3 := x3) (t0_0 := t0_0) (t1_0 := t1_0) hL hk0.2.2.2.2.1
      have hR := hR.2.2.2.2
      rw [← hR] at hv
      rcases hv with ⟨_, z, _⟩ | ⟨l1, _, ⟨l2, p0, p1, p2⟩ | ⟨k, l2, l3, p2, p3, p4⟩⟩
      · exact absurd (show (0 : Int32) = 1 from z) (by decide)
      · replace p0 : r = -1 := p0
        replace p1 : u0_0 = t0_0 := p1
        replace p2 : u1_0 = t1_0 := p2
        exact ⟨σ, Or.inr ⟨l1, rfl, Or.inl ⟨l2, p0, rfl⟩⟩, ⟨(fun i hi => cWr_fr (hS1 i hi) (hun _ (by simp only [List.mem_cons, List.not_mem_nil, or_false, not_or]; omega)) (hun _ (by simp only [List.mem_cons, List.not_mem_nil, or_false, not_or]; omega))), (fun i hi => cDr_fr (hS2 i hi) (hun _ (by simp only [List.mem_cons, List.not_mem_nil, or_false, not_or]; omega)) (hun _ (by simp only [List.mem_cons, List.not_mem_nil, or_false, not_or]; omega)) (hun _ (by simp only [List.mem_cons, List.not_mem_nil, or_false, not_or]; omega))), (cFr_fr hS3 (hun _ (by simp only [List.mem_cons, List.not_mem_nil, or_false, not_or]; omega))), (cFr_fr hS4 (hun _ (by simp only [List.mem_cons, List.not_mem_nil, or_false, not_or]; omega))), ⟨u0_0, u1_0, hU0, hU1, by rw [p1]; exact hL, by rw [p2]; exact hB⟩, (cPp_fr hS6 (hun _ (by simp only [List.mem_cons, List.not_mem_nil, or_false, not_or]; omega)) (hun _ (by simp only [List.mem_cons, List.not_mem_nil, or_false, not_or]; omega))), (cAr_fr hS7 (fun i _ _ => (hun _ (by simp only [List.mem_cons, List.not_mem_nil, or_false, not_or]; omega))) (fun i _ _ => (hun _ (by simp only [List.mem_cons, List.not_mem_nil, or_false, not_or]; omega))))⟩⟩
      · replace p2 : r.toInt = ((zsL σ + k : Nat) : Int) := p2
        replace p3 : u0_0 = r := p3
        replace p4 : ∀ i, ySh u1_0 i = if zsL σ ≤ i ∧ i < zsL σ + k then yBy8 x3 (i - zsL σ) else ySh t1_0 i := p4
        refine ⟨(zsW σ, zsD σ, zsV σ, zsN σ, zsL σ + k, (fun i => if zsL σ ≤ i ∧ i < zsL σ + k then ((yBy8 x3 (i - zsL σ) : Nat) : Int) else zsB σ i), zsP σ, zsA σ), Or.inr ⟨l1, rfl, Or.inr ⟨k, l2, l3, p2, rfl⟩⟩, ⟨(fun i hi => cWr_fr (hS1 i hi) (hun _ (by simp only [List.mem_cons, List.not_mem_nil, or_false, not_or]; omega)) (hun _ (by simp only [List.mem_cons, List.not_mem_nil, or_false, not_or]; omega))), (fun i hi => cDr_fr (hS2 i hi) (hun _ (by simp only [List.mem_cons, List.not_mem_nil, or_false, not_or]; omega)) (hun _ (by simp only [List.mem_cons, List.not_mem_nil, or_false, not_or]; omega)) (hun _ (by simp only [List.mem_cons, List.not_mem_nil, or_false, not_or]; omega))), (cFr_fr hS3 (hun _ (by simp only [List.mem_cons, List.not_mem_nil, or_false, not_or]; omega))), (cFr_fr hS4 (hun _ (by simp only [List.mem_cons, List.not_mem_nil, or_false, not_or]; omega))), ⟨u0_0, u1_0, hU0, hU1, by rw [p3]; exact p2, funext fun i => ?_⟩, (cPp_fr hS6 (hun _ (by simp only [List.mem_cons, List.not_mem_nil, or_false, not_or]; omega)) (hun _ (by simp only [List.mem_cons, List.not_mem_nil, or_false, not_or]; omega))), (cAr_fr hS7 (fun i _ _ => (hun _ (by simp only [List.mem_cons, List.not_mem_nil, or_false, not_or]; omega))) (fun i _ _ => (hun _ (by simp only [List.mem_cons, List.not_mem_nil, or_false, not_or]; omega))))⟩⟩
        show (if zsL σ ≤ i ∧ i < zsL σ + k then ((yBy8 x3 (i - zsL σ) : Nat) : Int) else zsB σ i) = ySB u1_0 i
        unfold ySB
        rw [p4 i, hB]
        unfold ySB
        split <;> rfl
  · rintro E u ⟨c, hE, hc, hI2, hun, u0_0, u1_0, hU0, hU1, hF⟩
    have hk := K_NH_feed (x2 := x2) (x3 := x3) (t0_0 := t0_0) (t1_0 := t1_0)
    rw [← hF] at hk
    replace hk : kC1 c := hk
    refine ⟨⟨c, hE, hk.resolve_left hc⟩, ⟨hI2, ⟨fun i hi => ?_, fun i hi => ?_, ?_⟩, fun i hi => hun i (by simp only [List.mem_cons, List.not_mem_nil, or_false, not_or]; omega)⟩, ?_⟩
    · exact iW_fr (hC.1 i hi) (hun _ (by simp only [List.mem_cons, List.not_mem_nil, or_false, not_or]; omega)) (hun _ (by simp only [List.mem_cons, List.not_mem_nil, or_false, not_or]; omega))
    · exact iD_fr (hC.2.1 i hi) (hun _ (by simp only [List.mem_cons, List.not_mem_nil, or_false, not_or]; omega)) (hun _ (by simp only [List.mem_cons, List.not_mem_nil, or_false, not_or]; omega)) (hun _ (by simp only [List.mem_cons, List.not_mem_nil, or_false, not_or]; omega))
    · exact iO_fr hC.2.2 (hun _ (by simp only [List.mem_cons, List.not_mem_nil, or_false, not_or]; omega)) (hun _ (by simp only [List.mem_cons, List.not_mem_nil, or_false, not_or]; omega)) (hun _ (by simp only [List.mem_cons, List.not_mem_nil, or_false, not_or]; omega))
    · have hv := V_NH_feed (x2 := x2) (x3 := x3) (t0_0 := t0_0) (t1_0 := t1_0) hL hk0.2.2.2.2.1
      rw [← hF] at hv
      rcases hv with ⟨l1, _, p1, p2⟩ | ⟨_, z, _⟩
      · replace p1 : u0_0 = t0_0 := p1
        replace p2 : u1_0 = t1_0 := p2
        exact ⟨Or.inl ⟨l1, rfl, rfl⟩, ⟨(fun i hi => cWr_fr (hS1 i hi) (hun _ (by simp only [List.mem_cons, List.not_mem_nil, or_false, not_or]; omega)) (hun _ (by simp only [List.mem_cons, List.not_mem_nil, or_false, not_or]; omega))), (fun i hi => cDr_fr (hS2 i hi) (hun _ (by simp only [List.mem_cons, List.not_mem_nil, or_false, not_or]; omega)) (hun _ (by simp only [List.mem_cons, List.not_mem_nil, or_false, not_or]; omega)) (hun _ (by simp only [List.mem_cons, List.not_mem_nil, or_false, not_or]; omega))), (cFr_fr hS3 (hun _ (by simp only [List.mem_cons, List.not_mem_nil, or_false, not_or]; omega))), (cFr_fr hS4 (hun _ (by simp only [List.mem_cons, List.not_mem_nil, or_false, not_or]; omega))), ⟨u0_0, u1_0, hU0, hU1, by rw [p1]; exact hL, by rw [p2]; exact hB⟩, (cPp_fr hS6 (hun _ (by simp only [List.mem_cons, List.not_mem_nil, or_false, not_or]; omega)) (hun _ (by simp only [List.mem_cons, List.not_mem_nil, or_false, not_or]; omega))), (cAr_fr hS7 (fun i _ _ => (hun _ (by simp only [List.mem_cons, List.not_mem_nil, or_false, not_or]; omega))) (fun i _ _ => (hun _ (by simp only [List.mem_cons, List.not_mem_nil, or_false, not_or]; omega))))⟩⟩
      · exact absurd z hc
set_option maxRecDepth 100000 in
set_option maxHeartbeats 4000000 in
theorem DM_feed (l : Launch) (D : va_G) (g : Nat → ClassId) (q : Nat → Nat) (ws : va_W) (x2 : Int32) (x3 : Int64) (hI : q_I (msh g q) q ws) (hM : iM g q ws) {th : Int32} {σ : zSt} (hS : sM g q ws th σ) (hk : zOk σ) : q_mI l y_NM_feed prog_14_method_3_code 5 (.int) 1 0 0 D g [.ref (q 116), .int x2, .long x3] ws (fun r u => jP g q ws u ∧ ∃ c σ2, rFd x2 x3 σ c r σ2 ∧ sM g q u c σ2) := by
  have hM0 := hM
  obtain ⟨t0_0, t0_1, t0_2, hT0, bT0⟩ := n_o116 hI
  obtain ⟨t1_0, hT1, -⟩ := n_ai hI (n_s117 g q)
  obtain ⟨hS1, hS2, hS3, hS4, hS5⟩ := hS
  obtain ⟨s9, p9, r9, r8, y0, y1, y2, hL, hT, hP⟩ := hS4
  obtain ⟨-, rfl, rfl⟩ := x_116 hT0 y0
  obtain rfl := x_ri hT1 y1
  have hq := T_NM_feed (x2 := x2) (x3 := x3) (t0_0 := t0_0) (t0_1 := t0_1) (t0_2 := t0_2) (t1_0 := t1_0) (by first | exact bT0 | exact bT0.1 | exact bT0.2 | exact bT0.2.1 | exact bT0.2.2 | exact bT0.2.2.1 | exact bT0.2.2.2)
  refine q_mIw (X_NM_feed l D g q ws x2 x3 hI t0_0 t0_1 t0_2 hT0 t1_0 hT1 ⟨trivial, hq⟩) ?_
  rintro r u ⟨hI2, hun, u0_0, u0_1, u1_0, hU0, hU1, hR⟩
  refine ⟨⟨hI2, ⟨jW_fr hM0.1 (hun 121 (by decide)) (hun 122 (by decide)), jD_fr hM0.2.1 (hun 136 (by decide)) (hun 137 (by decide)) (hun 138 (by decide)) (hun 139 (by decide)), jZ_fr hM0.2.2.1 (hun 160 (by decide)), jB_fr hM0.2.2.2 (hun 167 (by decide))⟩, jF_un hun (by decide)⟩, ?_⟩
  have hv := V_NM_feed (x2 := x2) (x3 := x3) (t0_0 := t0_0) (t0_1 := t0_1) (t0_2 := t0_2) (t1_0 := t1_0) hL hk.2.2.2.2.1
  have hR := hR.2.2.2.2.2.2
  rw [← hR] at hv
  rcases hv with ⟨l1, q1, p1, p2⟩ | ⟨l1, q1, ⟨l2, p0, p1, p2⟩ | ⟨k, l2, l3, p2, p3, p4⟩⟩
  · replace q1 : u0_0 = 1 := q1
    replace p1 : u0_1 = t0_1 := p1
    replace p2 : u1_0 = t1_0 := p2
    exact ⟨1, σ, Or.inl ⟨l1, rfl, rfl⟩, ⟨(mWr_fr hS1 (hun 121 (by decide)) (hun 122 (by decide))), (mDr_fr hS2 (hun 136 (by decide)) (hun 137 (by decide)) (hun 138 (by decide)) (hun 139 (by decide))), (mFr_fr hS3 (hun 167 (by decide))), ⟨u0_1, _, u1_0, _, by rw [← q1]; exact hU0, hU1, (hun 118 (by decide)).trans y2, by rw [p1]; exact hL, by rw [p2]; exact hT, hP⟩, (mAr_fr hS5 (hun 157 (by decide)) (hun 159 (by decide)) (hun 160 (by decide)) (hun 161 (by decide)) (hun 162 (by decide)))⟩⟩
  · replace q1 : u0_0 = 0 := q1
    replace p1 : u0_1 = t0_1 := p1
    replace p2 : u1_0 = t1_0 := p2
    exact ⟨0, σ, Or.inr ⟨l1, rfl, Or.inl ⟨l2, p0, rfl⟩⟩, ⟨(mWr_fr hS1 (hun 121 (by decide)) (hun 122 (by decide))), (mDr_fr hS2 (hun 136 (by decide)) (hun 137 (by decide)) (hun 138 (by decide)) (hun 139 (by decide))), (mFr_fr hS3 (hun 167 (by decide))), ⟨u0_1, _, u1_0, _, by rw [← q1]; exact hU0, hU1, (hun 118 (by decide)).trans y2, by rw [p1]; exact hL, by rw [p2]; exact hT, hP⟩, (mAr_fr hS5 (hun 157 (by decide)) (hun 159 (by decide)) (hun 160 (by decide)) (hun 161 (by decide)) (hun 162 (by decide)))⟩⟩
  · replace q1 : u0_0 = 0 := q1
    replace p3 : u0_1 = r := p3
    replace p2 : r.toInt = ((zsL σ + k : Nat) : Int) := p2
    replace p4 : ∀ i, (u1_0 i).toInt = if zsL σ ≤ i ∧ i < zsL σ + k then ((yBy8 x3 (i - zsL σ) : Nat) : Int) else (t1_0 i).toInt := p4
    refine ⟨0, (zsW σ, zsD σ, zsV σ, zsN σ, zsL σ + k, (fun i => if zsL σ ≤ i ∧ i < zsL σ + k then ((yBy8 x3 (i - zsL σ) : Nat) : Int) else zsB σ i), zsP σ, zsA σ), Or.inr ⟨l1, rfl, Or.inr ⟨k, l2, l3, p2, rfl⟩⟩, ⟨(mWr_fr hS1 (hun 121 (by decide)) (hun 122 (by decide))), (mDr_fr hS2 (hun 136 (by decide)) (hun 137 (by decide)) (hun 138 (by decide)) (hun 139 (by decide))), (mFr_fr hS3 (hun 167 (by decide))), ⟨u0_1, _, u1_0, _, by rw [← q1]; exact hU0, hU1, (hun 118 (by decide)).trans y2, by rw [p3]; exact p2, fun i hi => ?_, hP⟩, (mAr_fr hS5 (hun 157 (by decide)) (hun 159 (by decide)) (hun 160 (by decide)) (hun 161 (by decide)) (hun 162 (by decide)))⟩⟩
    show (u1_0 i).toInt = if zsL σ ≤ i ∧ i < zsL σ + k then ((yBy8 x3 (i - zsL σ) : Nat) : Int) else zsB σ i
    rw [p4 i]
    by_cases w : zsL σ ≤ i ∧ i < zsL σ + k
    · rw [if_pos w, if_pos w]
    · rw [if_neg w, if_neg w]
      have hi2 : i < zsL σ + k := hi
      exact hT i (by omega)
