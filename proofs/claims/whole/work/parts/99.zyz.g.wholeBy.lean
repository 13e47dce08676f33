/-! whole's law: wholeBy -/
/-- a call that would put the whole o into register x -/
def rPw (x : Int32) (o : Option Int) (σ : zSt) (c : Int32) (σ2 : zSt) : Prop := (∃ v : Int, o = some v ∧ v.natAbs < 2 ^ 2048 ∧ c = 0 ∧ σ2 = (updW (zsW σ) x.toNatClampNeg v, zsD σ, zsV σ, zsN σ, zsL σ, zsB σ, zsP σ, zsA σ)) ∨ ((o = none ∨ ∃ v : Int, o = some v ∧ 2 ^ 2048 ≤ v.natAbs) ∧ c = 2 ∧ σ2 = σ)
theorem rPw_U {x : Int32} {o : Option Int} {σ s t : zSt} {c c2 : Int32} (h : rPw x o σ c s) (g : rPw x o σ c2 t) : c = c2 ∧ s = t := by
  rcases h with ⟨v, h1, h2, h3, h4⟩ | ⟨h1, h2, h3⟩ <;> rcases g with ⟨w, g1, g2, g3, g4⟩ | ⟨g1, g2, g3⟩
  · have : v = w := Option.some.inj (h1.symm.trans g1)
    subst this
    exact ⟨h3.trans g3.symm, h4.trans g4.symm⟩
  · rcases g1 with g1 | ⟨w, g1, g4⟩
    · rw [h1] at g1; cases g1
    · have : v = w := Option.some.inj (h1.symm.trans g1)
      subst this
      exact absurd h2 (Nat.not_lt.mpr g4)
  · rcases h1 with h1 | ⟨v, h1, h4⟩
    · rw [g1] at h1; cases h1
    · have : v = w := Option.some.inj (h1.symm.trans g1)
      subst this
      exact absurd g2 (Nat.not_lt.mpr h4)
  · exact ⟨h2.trans g2.symm, h3.trans g3.symm⟩
theorem rPw_k {x : Int32} {o : Option Int} {σ s : zSt} {c : Int32} (h : rPw x o σ c s) (hk : zOk σ) : zOk s := by
  rcases h with ⟨v, h1, h2, h3, h4⟩ | ⟨h1, h2, h3⟩
  · rw [h4]
    refine ⟨fun i hi => ?_, hk.2⟩
    show (updW (zsW σ) x.toNatClampNeg v i).natAbs < 2 ^ 2048
    unfold updW
    by_cases e : i = x.toNatClampNeg
    · rw [if_pos e]; exact h2
    · rw [if_neg e]; exact hk.1 i hi
  · rw [h3]; exact hk
def rWb (x2 x3 x4 x5 : Int32) (σ : zSt) (c : Int32) (σ2 : zSt) : Prop := (¬ ((x2 = 0 ∨ x2 = 1 ∨ x2 = 2) ∧ yReg x3 ∧ yReg x5 ∧ yWbOk x2 x4) ∧ c = 1 ∧ σ2 = σ) ∨ (((x2 = 0 ∨ x2 = 1 ∨ x2 = 2) ∧ yReg x3 ∧ yReg x5 ∧ yWbOk x2 x4) ∧ rPw x5 (sWB x2 (zsW σ x3.toNatClampNeg) x4.toInt) σ c σ2)
theorem rWb_U {x2 x3 x4 x5 : Int32} {σ s t : zSt} {c c2 : Int32} (h : rWb x2 x3 x4 x5 σ c s) (g : rWb x2 x3 x4 x5 σ c2 t) : c = c2 ∧ s = t := by
  rcases h with ⟨h1, h2, h3⟩ | ⟨h1, h2⟩ <;> rcases g with ⟨g1, g2, g3⟩ | ⟨g1, g2⟩
  · exact ⟨h2.trans g2.symm, h3.trans g3.symm⟩
  · exact absurd g1 h1
  · exact absurd h1 g1
  · exact rPw_U h2 g2
theorem rWb_k {x2 x3 x4 x5 : Int32} {σ s : zSt} {c : Int32} (h : rWb x2 x3 x4 x5 σ c s) (hk : zOk σ) : zOk s := by
  rcases h with ⟨_, _, h3⟩ | ⟨_, h2⟩
  · rw [h3]; exact hk
  · exact rPw_k h2 hk
theorem x_b2 {u : va_W} {k x x2 : Nat} {c c2 : Nat} {r r2 : Value} {s t n m : Int32} (h : u[k]? = (some (x, .inr (c, [r, .int s, .int n])) : Option (Nat × va_E))) (h2 : u[k]? = (some (x2, .inr (c2, [r2, .int t, .int m])) : Option (Nat × va_E))) : s = t ∧ n = m := by
  cases h.symm.trans h2
  exact ⟨rfl, rfl⟩
theorem x_reg {x : Int32} (h : yReg x) : x.toNatClampNeg < 10 := by
  show x.toInt.toNat < 10
  have := h.2
  omega
set_option maxRecDepth 100000 in
set_option maxHeartbeats 4000000 in
theorem CW_wholeBy (l : Launch) (D : va_G) (g : Nat → ClassId) (q : Nat → Nat) (ws : va_W) (x2 : Int32) (x3 : Int32) (x4 : Int32) (x5 : Int32) (i3 : Nat) (hi3 : i3 < 10) (i5 : Nat) (hi5 : i5 < 10) (e3 : x3.toNatClampNeg < 10 → i3 = x3.toNatClampNeg) (e5 : x5.toNatClampNeg < 10 → i5 = x5.toNatClampNeg) (hlt : l.stackTraces = false) (hI : q_I (nsh g q) q ws) (hC : iC g q ws) {σ : zSt} (hS : sC g q ws σ) : ∀ sz, q_Mx l y_NH_wholeBy prog_1_method_9_code 6 none 9 5 30 D g [.ref (q 0), .int x2, .int x3, .int x4, .int x5] ws sz (va_Qv (fun u => iP g q ws u ∧ ∃ σ2, rWb x2 x3 x4 x5 σ 0 σ2 ∧ sC g q u σ2) (q_B D g (va_A ws sz)) (va_A ws sz)) (fun E u => ∃ c : Int32, E = qE c ∧ (c = 1 ∨ c = 2) ∧ iP g q ws u ∧ rWb x2 x3 x4 x5 σ c σ ∧ sC g q u σ) := by
  intro sz
  obtain ⟨t0_0, t0_1, hT0, bT0⟩ := q_bigO hI (n_b10 g q)
  obtain ⟨t1_0, hT1, bT1⟩ := n_ai hI (n_s11 g q)
  obtain ⟨t2_0, t2_1, hT2, bT2⟩ := q_bigO hI (n_b12 g q)
  obtain ⟨t3_0, hT3, bT3⟩ := n_ai hI (n_s13 g q)
  obtain ⟨t4_0, t4_1, hT4, bT4⟩ := q_bigO hI (n_b14 g q)
  obtain ⟨t5_0, hT5, bT5⟩ := n_ai hI (n_s15 g q)
  obtain ⟨t6_0, t6_1, hT6, bT6⟩ := q_bigO hI (n_b16 g q)
  obtain ⟨t7_0, hT7, bT7⟩ := n_ai hI (n_s17 g q)
  obtain ⟨t8_0, t8_1, hT8, bT8⟩ := q_bigO hI (n_b18 g q)
  obtain ⟨t9_0, hT9, bT9⟩ := n_ai hI (n_s19 g q)
  obtain ⟨t10_0, t10_1, hT10, bT10⟩ := q_bigO hI (n_b22 g q)
  obtain ⟨t11_0, hT11, bT11⟩ := n_ai hI (n_s23 g q)
  obtain ⟨t12_0, t12_1, hT12, bT12⟩ := q_bigO hI (n_b24 g q)
  obtain ⟨t13_0, hT13, bT13⟩ := n_ai hI (n_s25 g q)
  obtain ⟨t14_0, t14_1, t15_0, hT14, hT15, vk3, hbk3, hBk3⟩ := hC.1 i3 hi3
  obtain ⟨t16_0, t16_1, t17_0, hT16, hT17, vk5, hbk5, hBk5⟩ := hC.1 i5 hi5
  obtain ⟨hS1, hS2, hS3, hS4, hS5, hS6, hS7⟩ := hS
  obtain ⟨s3, n3, f3, a3, b3, hw3⟩ := hS1 i3 hi3
  obtain ⟨rfl, rfl⟩ := x_b2 hT14 a3
  obtain rfl := x_ri hT15 b3
  obtain ⟨s5, n5, f5, a5, b5, hw5⟩ := hS1 i5 hi5
  obtain ⟨rfl, rfl⟩ := x_b2 hT16 a5
  obtain rfl := x_ri hT17 b5
  have ev3 : vk3 = zsW σ i3 := hbk3.2.2.1.symm.trans hw3.2.2.1
  have hB3 := hBk3
  rw [ev3] at hB3
  have hv := V_NH_wholeBy (x2 := x2) (x3 := x3) (x4 := x4) (x5 := x5) (t0_0 := t0_0) (t0_1 := t0_1) (t1_0 := t1_0) (t2_0 := t2_0) (t2_1 := t2_1) (t3_0 := t3_0) (t4_0 := t4_0) (t4_1 := t4_1) (t5_0 := t5_0) (t6_0 := t6_0) (t6_1 := t6_1) (t7_0 := t7_0) (t8_0 := t8_0) (t8_1 := t8_1) (t9_0 := t9_0) (t10_0 := t10_0) (t10_1 := t10_1) (t11_0 := t11_0) (t12_0 := t12_0) (t12_1 := t12_1) (t13_0 := t13_0) (t14_0 := t14_0) (t14_1 := t14_1) (t15_0 := t15_0) (t16_0 := t16_0) (t16_1 := t16_1) (t17_0 := t17_0) hw3 hB3 hw5
  have hq := T_wholeBy (x2 := x2) (x3 := x3) (x4 := x4) (x5 := x5) (t0_0 := t0_0) (t0_1 := t0_1) (t1_0 := t1_0) (t2_0 := t2_0) (t2_1 := t2_1) (t3_0 := t3_0) (t4_0 := t4_0) (t4_1 := t4_1) (t5_0 := t5_0) (t6_0 := t6_0) (t6_1 := t6_1) (t7_0 := t7_0) (t8_0 := t8_0) (t8_1 := t8_1) (t9_0 := t9_0) (t10_0 := t10_0) (t10_1 := t10_1) (t11_0 := t11_0) (t12_0 := t12_0) (t12_1 := t12_1) (t13_0 := t13_0) (t14_0 := t14_0) (t14_1 := t14_1) (t15_0 := t15_0) (t16_0 := t16_0) (t16_1 := t16_1) (t17_0 := t17_0) hbk3 hBk3 ⟨_, hbk5, hBk5⟩
  refine q_MxV (X_NH_wholeBy l D g q ws x2 x3 x4 x5 (66 + 5 * i3) (n_w g q hi3) (by omega) (fun h => by have z := e3 h; omega) (66 + 5 * i5) (n_w g q hi5) (by omega) (fun h => by have z := e5 h; omega) hlt hI t0_0 t0_1 hT0 t1_0 hT1 t2_0 t2_1 hT2 t3_0 hT3 t4_0 t4_1 hT4 t5_0 hT5 t6_0 t6_1 hT6 t7_0 hT7 t8_0 t8_1 hT8 t9_0 hT9 t10_0 t10_1 hT10 t11_0 hT11 t12_0 t12_1 hT12 t13_0 hT13 t14_0 t14_1 hT14 t15_0 hT15 t16_0 t16_1 hT16 t17_0 hT17 ⟨trivial, hq.1⟩ sz) ?_ ?_
  · rintro u ⟨hI2, hun, u0_0, u0_1, u1_0, u2_0, u2_1, u3_0, u4_0, u4_1, u5_0, u6_0, u6_1, u7_0, u8_0, u8_1, u9_0, u10_0, u10_1, u11_0, u12_0, u12_1, u13_0, u16_0, u16_1, u17_0, hU0, hU1, hU2, hU3, hU4, hU5, hU6, hU7, hU8, hU9, hU10, hU11, hU12, hU13, hU14, hU15, hR⟩
    have hF := hR.2.2.2.2.2.2.2.2.2.2.2.2.2.2.2.2.2.2.2.2.2.2.2.2.2.2.2.2.2.2.2.2.2.2.2.2.2.2.2.2.2.2.2.2.2.2.2.2.2.2.2.2.2.2.2.2.2.2.2.2.2.2.2.2.2.2.2.2.2.2
    have hp := hq.2
    rw [← hF] at hp
    refine ⟨⟨hI2, ⟨fun i hi => ?_, fun i hi => ?_, ?_⟩, fun i hi => hun i (by simp only [List.mem_cons, List.not_mem_nil, or_false, not_or]; omega)⟩, ?_⟩
    · by_cases hk5 : i = i5
      · rw [hk5]; refine ⟨_, _, _, hU14, hU15, ?_⟩; first | exact hp
      · exact iW_fr (hC.1 i hi) (hun _ (by simp only [List.mem_cons, List.not_mem_nil, or_false, not_or]; omega)) (hun _ (by simp only [List.mem_cons, List.not_mem_nil, or_false, not_or]; omega))
    · exact iD_fr (hC.2.1 i hi) (hun _ (by simp only [List.mem_cons, List.not_mem_nil, or_false, not_or]; omega)) (hun _ (by simp only [List.mem_cons, List.not_mem_nil, or_false, not_or]; omega)) (hun _ (by simp only [List.mem_cons, List.not_mem_nil, or_false, not_or]; omega))
    · exact iO_fr hC.2.2 (hun _ (by simp only [List.mem_cons, List.not_mem_nil, or_false, not_or]; omega)) (hun _ (by simp only [List.mem_cons, List.not_mem_nil, or_false, not_or]; omega)) (hun _ (by simp only [List.mem_cons, List.not_mem_nil, or_false, not_or]; omega))
    · rw [← hF] at hv
      rcases hv with ⟨l1, ⟨v, o1, o2, _, o3⟩ | ⟨_, z, _⟩⟩ | ⟨_, z, _⟩
      · have e55 := e5 (x_reg l1.2.2.1)
        have e33 := e3 (x_reg l1.2.1)
        refine ⟨(updW (zsW σ) x5.toNatClampNeg v, zsD σ, zsV σ, zsN σ, zsL σ, zsB σ, zsP σ, zsA σ), Or.inr ⟨l1, Or.inl ⟨v, by rw [← e33]; exact o1, o2, rfl, rfl⟩⟩, ⟨(fun i hi => ?_), (fun i hi => cDr_fr (hS2 i hi) (hun _ (by simp only [List.mem_cons, List.not_mem_nil, or_false, not_or]; omega)) (hun _ (by simp only [List.mem_cons, List.not_mem_nil, or_false, not_or]; omega)) (hun _ (by simp only [List.mem_cons, List.not_mem_nil, or_false, not_or]; omega))), (cFr_fr hS3 (hun _ (by simp only [List.mem_cons, List.not_mem_nil, or_false, not_or]; omega))), (cFr_fr hS4 (hun _ (by simp only [List.mem_cons, List.not_mem_nil, or_false, not_or]; omega))), (cTp_fr hS5 (hun _ (by simp only [List.mem_cons, List.not_mem_nil, or_false, not_or]; omega)) (hun _ (by simp only [List.mem_cons, List.not_mem_nil, or_false, not_or]; omega))), (cPp_fr hS6 (hun _ (by simp only [List.mem_cons, List.not_mem_nil, or_false, not_or]; omega)) (hun _ (by simp only [List.mem_cons, List.not_mem_nil, or_false, not_or]; omega))), (cAr_fr hS7 (fun i _ _ => (hun _ (by simp only [List.mem_cons, List.not_mem_nil, or_false, not_or]; omega))) (fun i _ _ => (hun _ (by simp only [List.mem_cons, List.not_mem_nil, or_false, not_or]; omega))))⟩⟩
        show cWr g q u (66 + 5 * i) (updW (zsW σ) x5.toNatClampNeg v i)
        unfold updW
        by_cases hk5 : i = i5
        · rw [if_pos (by omega), hk5]; exact ⟨_, _, _, hU14, hU15, o3⟩
        · rw [if_neg (by omega)]; exact cWr_fr (hS1 i hi) (hun _ (by simp only [List.mem_cons, List.not_mem_nil, or_false, not_or]; omega)) (hun _ (by simp only [List.mem_cons, List.not_mem_nil, or_false, not_or]; omega))
      · exact absurd (show (0 : Int32) = 2 from z) (by decide)
      · exact absurd (show (0 : Int32) = 1 from z) (by decide)
  · rintro E u ⟨c, hE, hc, hI2, hun, u0_0, u0_1, u1_0, u2_0, u2_1, u3_0, u4_0, u4_1, u5_0, u6_0, u6_1, u7_0, u8_0, u8_1, u9_0, u10_0, u10_1, u11_0, u12_0, u12_1, u13_0, u16_0, u16_1, u17_0, hU0, hU1, hU2, hU3, hU4, hU5, hU6, hU7, hU8, hU9, hU10, hU11, hU12, hU13, hU14, hU15, hF⟩
    have hp := hq.2
    rw [← hF] at hp
    have hk := K_NH_wholeBy (x2 := x2) (x3 := x3) (x4 := x4) (x5 := x5) (t0_0 := t0_0) (t0_1 := t0_1) (t1_0 := t1_0) (t2_0 := t2_0) (t2_1 := t2_1) (t3_0 := t3_0) (t4_0 := t4_0) (t4_1 := t4_1) (t5_0 := t5_0) (t6_0 := t6_0) (t6_1 := t6_1) (t7_0 := t7_0) (t8_0 := t8_0) (t8_1 := t8_1) (t9_0 := t9_0) (t10_0 := t10_0) (t10_1 := t10_1) (t11_0 := t11_0) (t12_0 := t12_0) (t12_1 := t12_1) (t13_0 := t13_0) (t14_0 := t14_0) (t14_1 := t14_1) (t15_0 := t15_0) (t16_0 := t16_0) (t16_1 := t16_1) (t17_0 := t17_0)
    rw [← hF] at hk
    replace hk : kC12 c := hk
    refine ⟨c, hE, hk.resolve_left hc, ⟨hI2, ⟨fun i hi => ?_, fun i hi => ?_, ?_⟩, fun i hi => hun i (by simp only [List.mem_cons, List.not_mem_nil, or_false, not_or]; omega)⟩, ?_⟩
    · by_cases hk5 : i = i5
      · rw [hk5]; refine ⟨_, _, _, hU14, hU15, ?_⟩; first | exact hp
      · exact iW_fr (hC.1 i hi) (hun _ (by simp only [List.mem_cons, List.not_mem_nil, or_false, not_or]; omega)) (hun _ (by simp only [List.mem_cons, List.not_mem_nil, or_false, not_or]; omega))
    · exact iD_fr (hC.2.1 i hi) (hun _ (by simp only [List.mem_cons, List.not_mem_nil, or_false, not_or]; omega)) (hun _ (by simp only [List.mem_cons, List.not_mem_nil, or_false, not_or]; omega)) (hun _ (by simp only [List.mem_cons, List.not_mem_nil, or_false, not_or]; omega))
    · exact iO_fr hC.2.2 (hun _ (by simp only [List.mem_cons, List.not_mem_nil, or_false, not_or]; omega)) (hun _ (by simp only [List.mem_cons, List.not_mem_nil, or_false, not_or]; omega)) (hun _ (by simp only [List.mem_cons, List.not_mem_nil, or_false, not_or]; omega))
    · rw [← hF] at hv
      rcases hv with ⟨l1, ⟨v, _, _, z, _⟩ | ⟨o1, o2, o3⟩⟩ | ⟨l1, o2, p1, p2, p3⟩
      · exact absurd z hc
      · have e33 := e3 (x_reg l1.2.1)
        refine ⟨Or.inr ⟨l1, Or.inr ⟨by rw [← e33]; exact o1, o2, rfl⟩⟩, ?_⟩
        refine ⟨(fun i hi => ?_), (fun i hi => cDr_fr (hS2 i hi) (hun _ (by simp only [List.mem_cons, List.not_mem_nil, or_false, not_or]; omega)) (hun _ (by simp only [List.mem_cons, List.not_mem_nil, or_false, not_or]; omega)) (hun _ (by simp only [List.mem_cons, List.not_mem_nil, or_false, not_or]; omega))), (cFr_fr hS3 (hun _ (by simp only [List.mem_cons, List.not_mem_nil, or_false, not_or]; omega))), (cFr_fr hS4 (hun _ (by simp only [List.mem_cons, List.not_mem_nil, or_false, not_or]; omega))), (cTp_fr hS5 (hun _ (by simp only [List.mem_cons, List.not_mem_nil, or_false, not_or]; omega)) (hun _ (by simp only [List.mem_cons, List.not_mem_nil, or_false, not_or]; omega))), (cPp_fr hS6 (hun _ (by simp only [List.mem_cons, List.not_mem_nil, or_false, not_or]; omega)) (hun _ (by simp only [List.mem_cons, List.not_mem_nil, or_false, not_or]; omega))), (cAr_fr hS7 (fun i _ _ => (hun _ (by simp only [List.mem_cons, List.not_mem_nil, or_false, not_or]; omega))) (fun i _ _ => (hun _ (by simp only [List.mem_cons, List.not_mem_nil, or_false, not_or]; omega))))⟩
        by_cases hk5 : i = i5
        · rw [hk5]; exact ⟨_, _, _, hU14, hU15, o3⟩
        · exact cWr_fr (hS1 i hi) (hun _ (by simp only [List.mem_cons, List.not_mem_nil, or_false, not_or]; omega)) (hun _ (by simp only [List.mem_cons, List.not_mem_nil, or_false, not_or]; omega))
      · replace p1 : u16_0 = t16_0 := p1
        replace p2 : u16_1 = t16_1 := p2
        replace p3 : u17_0 = t17_0 := p3
        refine ⟨Or.inl ⟨l1, o2, rfl⟩, ?_⟩
        refine ⟨(fun i hi => ?_), (fun i hi => cDr_fr (hS2 i hi) (hun _ (by simp only [List.mem_cons, List.not_mem_nil, or_false, not_or]; omega)) (hun _ (by simp only [List.mem_cons, List.not_mem_nil, or_false, not_or]; omega)) (hun _ (by simp only [List.mem_cons, List.not_mem_nil, or_false, not_or]; omega))), (cFr_fr hS3 (hun _ (by simp only [List.mem_cons, List.not_mem_nil, or_false, not_or]; omega))), (cFr_fr hS4 (hun _ (by simp only [List.mem_cons, List.not_mem_nil, or_false, not_or]; omega))), (cTp_fr hS5 (hun _ (by simp only [List.mem_cons, List.not_mem_nil, or_false, not_or]; omega)) (hun _ (by simp only [List.mem_cons, List.not_mem_nil, or_false, not_or]; omega))), (cPp_fr hS6 (hun _ (by simp only [List.mem_cons, List.not_mem_nil, or_false, not_or]; omega)) (hun _ (by simp only [List.mem_cons, List.not_mem_nil, or_false, not_or]; omega))), (cAr_fr hS7 (fun i _ _ => (hun _ (by simp only [List.mem_cons, List.not_mem_nil, or_false, not_or]; omega))) (fun i _ _ => (hun _ (by simp only [List.mem_cons, List.not_mem_nil, or_false, not_or]; omega))))⟩
        by_cases hk5 : i = i5
        · rw [hk5]; exact ⟨_, _, _, hU14, hU15, (by rw [p1, p2, p3]; exact hw5)⟩
        · exact cWr_fr (hS1 i hi) (hun _ (by simp only [List.mem_cons, List.not_mem_nil, or_false, not_or]; omega)) (hun _ (by simp only [List.mem_cons, List.not_mem_nil, or_false, not_or]; omega))
