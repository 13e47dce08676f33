/-! whole's law: format of the program, over the state -/
theorem x_sh {u : va_W} {k x x2 : Nat} {c c2 : Nat} {r r2 m m2 : Value} {s t : Int32} (h : u[k]? = (some (x, .inr (c, [r, m, .int s])) : Option (Nat × va_E))) (h2 : u[k]? = (some (x2, .inr (c2, [r2, m2, .int t])) : Option (Nat × va_E))) : s = t := by
  cases h.symm.trans h2
  rfl
theorem x_rl {u : va_W} {k x x2 : Nat} {a a2 : ClassId} {n n2 : Nat} {s t : Nat → Int64} (h : u[k]? = (some (x, .inl (a, n, .inr (.inl s))) : Option (Nat × va_E))) (h2 : u[k]? = (some (x2, .inl (a2, n2, .inr (.inl t))) : Option (Nat × va_E))) : s = t := by
  cases h.symm.trans h2
  rfl
theorem x_ri {u : va_W} {k x x2 : Nat} {a a2 : ClassId} {n n2 : Nat} {s t : Nat → Int32} (h : u[k]? = (some (x, .inl (a, n, .inl s)) : Option (Nat × va_E))) (h2 : u[k]? = (some (x2, .inl (a2, n2, .inl t)) : Option (Nat × va_E))) : s = t := by
  cases h.symm.trans h2
  rfl
theorem x_pr {u : va_W} {k x x2 : Nat} {c c2 : Nat} {s t : Int32} {l l2 : List Value} (h : u[k]? = (some (x, .inr (c, .int s :: l)) : Option (Nat × va_E))) (h2 : u[k]? = (some (x2, .inr (c2, .int t :: l2)) : Option (Nat × va_E))) : s = t := by
  cases h.symm.trans h2
  rfl
set_option maxRecDepth 100000 in
set_option maxHeartbeats 4000000 in
theorem CW_format (l : Launch) (D : va_G) (g : Nat → ClassId) (q : Nat → Nat) (ws : va_W)  (hlt : l.stackTraces = false) (hI : q_I (nsh g q) q ws) (hC : iC g q ws) {σ : zSt} (hS : sC g q ws σ) : ∀ sz, q_Mx l y_NH_format prog_1_method_20_code 2 (some .int) 10 1 6 D g [.ref (q 0)] ws sz (va_Qi (fun r u => iP g q ws u ∧ ∃ σ2, rFm σ 0 r σ2 ∧ sC g q u σ2) (q_B D g (va_A ws sz)) (va_A ws sz)) (fun E u => (∃ c : Int32, E = qE c ∧ (c = 3)) ∧ iP g q ws u ∧ rFm σ 3 0 σ ∧ sC g q u σ) := by
  intro sz
  obtain ⟨t0_0, hT0, bT0⟩ := n_shO hI (n_h1 g q)
  obtain ⟨t1_0, hT1⟩ := n_al hI (n_s2 g q)
  obtain ⟨t2_0, hT2, bT2⟩ := n_shO hI (n_h3 g q)
  obtain ⟨t3_0, hT3⟩ := n_al hI (n_s4 g q)
  obtain ⟨t4_0, t4_1, t4_2, t4_3, hT4, bT4⟩ := n_o40 hI
  obtain ⟨t5_0, hT5, bT5⟩ := n_ai hI (n_s41 g q)
  obtain ⟨t6_0, hT6⟩ := n_al hI (n_s42 g q)
  obtain ⟨t7_0, hT7, bT7⟩ := n_ai hI (n_s43 g q)
  obtain ⟨t8_0, t8_1, hT8, bT8⟩ := n_o36 hI
  obtain ⟨t9_0, hT9, bT9⟩ := n_ai hI (n_s37 g q)
  obtain ⟨t10_0, hT10, bT10⟩ := n_shO hI (n_h45 g q)
  obtain ⟨t11_0, hT11⟩ := n_al hI (n_s46 g q)
  obtain ⟨t12_0, t12_1, t12_2, t12_3, t12_4, t12_5, t12_6, hT12, bT12⟩ := n_o47 hI
  obtain ⟨t13_0, hT13, bT13⟩ := n_shO hI (n_t g q (j := 0) (by decide))
  obtain ⟨t14_0, hT14⟩ := n_al hI (n_s49 g q)
  obtain ⟨t15_0, hT15, bT15⟩ := n_shO hI (n_t g q (j := 1) (by decide))
  obtain ⟨t16_0, hT16⟩ := n_al hI (n_s51 g q)
  obtain ⟨t17_0, hT17, bT17⟩ := n_shO hI (n_t g q (j := 2) (by decide))
  obtain ⟨t18_0, hT18⟩ := n_al hI (n_s53 g q)
  obtain ⟨t19_0, hT19, bT19⟩ := n_shO hI (n_t g q (j := 3) (by decide))
  obtain ⟨t20_0, hT20⟩ := n_al hI (n_s55 g q)
  obtain ⟨t21_0, hT21, bT21⟩ := n_shO hI (n_t g q (j := 4) (by decide))
  obtain ⟨t22_0, hT22⟩ := n_al hI (n_s57 g q)
  obtain ⟨t23_0, hT23, bT23⟩ := n_shO hI (n_t g q (j := 5) (by decide))
  obtain ⟨t24_0, hT24⟩ := n_al hI (n_s59 g q)
  obtain ⟨t25_0, hT25, bT25⟩ := n_shO hI (n_t g q (j := 6) (by decide))
  obtain ⟨t26_0, hT26⟩ := n_al hI (n_s61 g q)
  obtain ⟨t27_0, hT27, bT27⟩ := n_shO hI (n_t g q (j := 7) (by decide))
  obtain ⟨t28_0, hT28⟩ := n_al hI (n_s63 g q)
  obtain ⟨t29_0, hT29, bT29⟩ := n_shO hI (n_t g q (j := 8) (by decide))
  obtain ⟨t30_0, hT30⟩ := n_al hI (n_s65 g q)
  have hS0 := hS
  obtain ⟨hS1, hS2, hS3, hS4, ⟨s9, c8, y1, y2, hL, hB⟩, ⟨s8, c7, y3, y4, hP⟩, ⟨n9, a9, b9, c9, kd9, nu9, sc9, s0, f0, s1, f1, s2, f2, s3, f3, s4, f4, s5, f5, s6, f6, s7, f7, s8, f8, z40, z41, z42, z43, z48, z49, z50, z51, z52, z53, z54, z55, z56, z57, z58, z59, z60, z61, z62, z63, z64, z65, hA⟩⟩ := hS
  obtain rfl := x_sh hT0 y1
  obtain rfl := x_rl hT1 y2
  obtain rfl := x_sh hT2 y3
  obtain rfl := x_rl hT3 y4
  obtain rfl := x_pr hT4 z40
  obtain rfl := x_ri hT5 z41
  obtain rfl := x_rl hT6 z42
  obtain rfl := x_ri hT7 z43
  obtain rfl := x_sh hT13 z48
  obtain rfl := x_rl hT14 z49
  obtain rfl := x_sh hT15 z50
  obtain rfl := x_rl hT16 z51
  obtain rfl := x_sh hT17 z52
  obtain rfl := x_rl hT18 z53
  obtain rfl := x_sh hT19 z54
  obtain rfl := x_rl hT20 z55
  obtain rfl := x_sh hT21 z56
  obtain rfl := x_rl hT22 z57
  obtain rfl := x_sh hT23 z58
  obtain rfl := x_rl hT24 z59
  obtain rfl := x_sh hT25 z60
  obtain rfl := x_rl hT26 z61
  obtain rfl := x_sh hT27 z62
  obtain rfl := x_rl hT28 z63
  obtain rfl := x_sh hT29 z64
  obtain rfl := x_rl hT30 z65
  have hq := T_format (t0_0 := t0_0) (t1_0 := t1_0) (t2_0 := t2_0) (t3_0 := t3_0) (t4_0 := t4_0) (t4_1 := t4_1) (t4_2 := t4_2) (t4_3 := t4_3) (t5_0 := t5_0) (t6_0 := t6_0) (t7_0 := t7_0) (t8_0 := t8_0) (t8_1 := t8_1) (t9_0 := t9_0) (t10_0 := t10_0) (t11_0 := t11_0) (t12_0 := t12_0) (t12_1 := t12_1) (t12_2 := t12_2) (t12_3 := t12_3) (t12_4 := t12_4) (t12_5 := t12_5) (t12_6 := t12_6) (t13_0 := t13_0) (t14_0 := t14_0) (t15_0 := t15_0) (t16_0 := t16_0) (t17_0 := t17_0) (t18_0 := t18_0) (t19_0 := t19_0) (t20_0 := t20_0) (t21_0 := t21_0) (t22_0 := t22_0) (t23_0 := t23_0) (t24_0 := t24_0) (t25_0 := t25_0) (t26_0 := t26_0) (t27_0 := t27_0) (t28_0 := t28_0) (t29_0 := t29_0) (t30_0 := t30_0) (by first | exact bT4 | exact bT4.1 | exact bT4.2 | exact bT4.2.1 | exact bT4.2.2 | exact bT4.1.1)
  refine q_MxI (X_NH_format l D g q ws hlt hI t0_0 hT0 t1_0 hT1 t2_0 hT2 t3_0 hT3 t4_0 t4_1 t4_2 t4_3 hT4 t5_0 hT5 t6_0 hT6 t7_0 hT7 t8_0 t8_1 hT8 t9_0 hT9 t10_0 hT10 t11_0 hT11 t12_0 t12_1 t12_2 t12_3 t12_4 t12_5 t12_6 hT12 t13_0 hT13 t14_0 hT14 t15_0 hT15 t16_0 hT16 t17_0 hT17 t18_0 hT18 t19_0 hT19 t20_0 hT20 t21_0 hT21 t22_0 hT22 t23_0 hT23 t24_0 hT24 t25_0 hT25 t26_0 hT26 t27_0 hT27 t28_0 hT28 t29_0 hT29 t30_0 hT30 ⟨trivial, hq⟩ sz) ?_ ?_
  · rintro r u ⟨hI2, hun, u0_0, u2_0, u3_0, u4_0, u4_1, u4_2, u4_3, u8_0, u8_1, u9_0, u10_0, u11_0, u12_0, u12_1, u12_2, u12_3, u12_4, u12_5, u12_6, hU0, hU1, hU2, hU3, hU4, hU5, hU6, hU7, hU8, hR⟩
    refine ⟨⟨hI2, ⟨fun i hi => ?_, fun i hi => ?_, ?_⟩, fun i hi => hun i (by simp only [List.mem_cons, List.not_mem_nil, or_false, not_or]; omega)⟩, ?_⟩
    · exact iW_fr (hC.1 i hi) (hun _ (by simp only [List.mem_cons, List.not_mem_nil, or_false, not_or]; omega)) (hun _ (by simp only [List.mem_cons, List.not_mem_nil, or_false, not_or]; omega))
    · exact iD_fr (hC.2.1 i hi) (hun _ (by simp only [List.mem_cons, List.not_mem_nil, or_false, not_or]; omega)) (hun _ (by simp only [List.mem_cons, List.not_mem_nil, or_false, not_or]; omega)) (hun _ (by simp only [List.mem_cons, List.not_mem_nil, or_false, not_or]; omega))
    · exact iO_fr hC.2.2 (hun _ (by simp only [List.mem_cons, List.not_mem_nil, or_false, not_or]; omega)) (hun _ (by simp only [List.mem_cons, List.not_mem_nil, or_false, not_or]; omega)) (hun _ (by simp only [List.mem_cons, List.not_mem_nil, or_false, not_or]; omega))
    · have hv := V_NH_format (t0_0 := t0_0) (t1_0 := t1_0) (t2_0 := t2_0) (t3_0 := t3_0) (t4_0 := t4_0) (t4_1 := t4_1) (t4_2 := t4_2) (t4_3 := t4_3) (t5_0 := t5_0) (t6_0 := t6_0) (t7_0 := t7_0) (t8_0 := t8_0) (t8_1 := t8_1) (t9_0 := t9_0) (t10_0 := t10_0) (t11_0 := t11_0) (t12_0 := t12_0) (t12_1 := t12_1) (t12_2 := t12_2) (t12_3 := t12_3) (t12_4 := t12_4) (t12_5 := t12_5) (t12_6 := t12_6) (t13_0 := t13_0) (t14_0 := t14_0) (t15_0 := t15_0) (t16_0 := t16_0) (t17_0 := t17_0) (t18_0 := t18_0) (t19_0 := t19_0) (t20_0 := t20_0) (t21_0 := t21_0) (t22_0 := t22_0) (t23_0 := t23_0) (t24_0 := t24_0) (t25_0 := t25_0) (t26_0 := t26_0) (t27_0 := t27_0) (t28_0 := t28_0) (t29_0 := t29_0) (t30_0 := t30_0) hL hA
      have hR := hR.2.2.2.2.2.2.2.2.2.2.2.2.2.2.2.2.2.2.2.2.2.2.2.2.2.2
      rw [← hR] at hv
      rcases hv with ⟨_, z, _⟩ | ⟨l1, _, n1, F, pl, o, w1, w2⟩
      · exact absurd (show (0 : Int32) = 3 from z) (by decide)
      · replace n1 : u4_0 = t4_0 := n1
        have hA2 := hA
        rw [← n1] at hA2
        rcases w2 with ⟨f0, p1, p2, p3, p4⟩ | ⟨f0, p1, p2, p3⟩
        · replace p2 : u0_0 = 0 := p2
          refine ⟨(zsW σ, zsD σ, zsV σ, zsN σ, 0, zsB σ, o, zsA σ), Or.inr ⟨l1, rfl, F, pl, o, by rw [hB]; exact w1, Or.inl ⟨f0, p1, p4, rfl⟩⟩, (fun i hi => cWr_fr (hS1 i hi) (hun _ (by simp only [List.mem_cons, List.not_mem_nil, or_false, not_or]; omega)) (hun _ (by simp only [List.mem_cons, List.not_mem_nil, or_false, not_or]; omega))), (fun i hi => cDr_fr (hS2 i hi) (hun _ (by simp only [List.mem_cons, List.not_mem_nil, or_false, not_or]; omega)) (hun _ (by simp only [List.mem_cons, List.not_mem_nil, or_false, not_or]; omega)) (hun _ (by simp only [List.mem_cons, List.not_mem_nil, or_false, not_or]; omega))), cFr_fr hS3 (hun _ (by simp only [List.mem_cons, List.not_mem_nil, or_false, not_or]; omega)), cFr_fr hS4 (hun _ (by simp only [List.mem_cons, List.not_mem_nil, or_false, not_or]; omega)), ⟨u0_0, _, hU0, (hun _ (by simp only [List.mem_cons, List.not_mem_nil, or_false, not_or]; omega)).trans hT1, by rw [p2]; rfl, hB⟩, ⟨u2_0, u3_0, hU1, hU2, p3⟩, ⟨u4_0, u4_1, u4_2, u4_3, _, _, _, _, _, _, _, _, _, _, _, _, _, _, _, _, _, _, _, _, _, hU3, (hun _ (by simp only [List.mem_cons, List.not_mem_nil, or_false, not_or]; omega)).trans hT5, (hun _ (by simp only [List.mem_cons, List.not_mem_nil, or_false, not_or]; omega)).trans hT6, (hun _ (by simp only [List.mem_cons, List.not_mem_nil, or_false, not_or]; omega)).trans hT7, (hun _ (by simp only [List.mem_cons, List.not_mem_nil, or_false, not_or]; omega)).trans hT13, (hun _ (by simp only [List.mem_cons, List.not_mem_nil, or_false, not_or]; omega)).trans hT14, (hun _ (by simp only [List.mem_cons, List.not_mem_nil, or_false, not_or]; omega)).trans hT15, (hun _ (by simp only [List.mem_cons, List.not_mem_nil, or_false, not_or]; omega)).trans hT16, (hun _ (by simp only [List.mem_cons, List.not_mem_nil, or_false, not_or]; omega)).trans hT17, (hun _ (by simp only [List.mem_cons, List.not_mem_nil, or_false, not_or]; omega)).trans hT18, (hun _ (by simp only [List.mem_cons, List.not_mem_nil, or_false, not_or]; omega)).trans hT19, (hun _ (by simp only [List.mem_cons, List.not_mem_nil, or_false, not_or]; omega)).trans hT20, (hun _ (by simp only [List.mem_cons, List.not_mem_nil, or_false, not_or]; omega)).trans hT21, (hun _ (by simp only [List.mem_cons, List.not_mem_nil, or_false, not_or]; omega)).trans hT22, (hun _ (by simp only [List.mem_cons, List.not_mem_nil, or_false, not_or]; omega)).trans hT23, (hun _ (by simp only [List.mem_cons, List.not_mem_nil, or_false, not_or]; omega)).trans hT24, (hun _ (by simp only [List.mem_cons, List.not_mem_nil, or_false, not_or]; omega)).trans hT25, (hun _ (by simp only [List.mem_cons, List.not_mem_nil, or_false, not_or]; omega)).trans hT26, (hun _ (by simp only [List.mem_cons, List.not_mem_nil, or_false, not_or]; omega)).trans hT27, (hun _ (by simp only [List.mem_cons, List.not_mem_nil, or_false, not_or]; omega)).trans hT28, (hun _ (by simp only [List.mem_cons, List.not_mem_nil, or_false, not_or]; omega)).trans hT29, (hun _ (by simp only [List.mem_cons, List.not_mem_nil, or_false, not_or]; omega)).trans hT30, hA2⟩⟩
        · replace p2 : u0_0 = t0_0 := p2
          replace p3 : u2_0 = 0 := p3
          refine ⟨(zsW σ, zsD σ, zsV σ, zsN σ, zsL σ, zsB σ, [], zsA σ), Or.inr ⟨l1, rfl, F, pl, o, by rw [hB]; exact w1, Or.inr ⟨f0, p1, rfl⟩⟩, (fun i hi => cWr_fr (hS1 i hi) (hun _ (by simp only [List.mem_cons, List.not_mem_nil, or_false, not_or]; omega)) (hun _ (by simp only [List.mem_cons, List.not_mem_nil, or_false, not_or]; omega))), (fun i hi => cDr_fr (hS2 i hi) (hun _ (by simp only [List.mem_cons, List.not_mem_nil, or_false, not_or]; omega)) (hun _ (by simp only [List.mem_cons, List.not_mem_nil, or_false, not_or]; omega)) (hun _ (by simp only [List.mem_cons, List.not_mem_nil, or_false, not_or]; omega))), cFr_fr hS3 (hun _ (by simp only [List.mem_cons, List.not_mem_nil, or_false, not_or]; omega)), cFr_fr hS4 (hun _ (by simp only [List.mem_cons, List.not_mem_nil, or_false, not_or]; omega)), ⟨u0_0, _, hU0, (hun _ (by simp only [List.mem_cons, List.not_mem_nil, or_false, not_or]; omega)).trans hT1, by rw [p2]; exact hL, hB⟩, ⟨u2_0, u3_0, hU1, hU2, by rw [p3]; exact yPa_0⟩, ⟨u4_0, u4_1, u4_2, u4_3, _, _, _, _, _, _, _, _, _, _, _, _, _, _, _, _, _, _, _, _, _, hU3, (hun _ (by simp only [List.mem_cons, List.not_mem_nil, or_false, not_or]; omega)).trans hT5, (hun _ (by simp only [List.mem_cons, List.not_mem_nil, or_false, not_or]; omega)).trans hT6, (hun _ (by simp only [List.mem_cons, List.not_mem_nil, or_false, not_or]; omega)).trans hT7, (hun _ (by simp only [List.mem_cons, List.not_mem_nil, or_false, not_or]; omega)).trans hT13, (hun _ (by simp only [List.mem_cons, List.not_mem_nil, or_false, not_or]; omega)).trans hT14, (hun _ (by simp only [List.mem_cons, List.not_mem_nil, or_false, not_or]; omega)).trans hT15, (hun _ (by simp only [List.mem_cons, List.not_mem_nil, or_false, not_or]; omega)).trans hT16, (hun _ (by simp only [List.mem_cons, List.not_mem_nil, or_false, not_or]; omega)).trans hT17, (hun _ (by simp only [List.mem_cons, List.not_mem_nil, or_false, not_or]; omega)).trans hT18, (hun _ (by simp only [List.mem_cons, List.not_mem_nil, or_false, not_or]; omega)).trans hT19, (hun _ (by simp only [List.mem_cons, List.not_mem_nil, or_false, not_or]; omega)).trans hT20, (hun _ (by simp only [List.mem_cons, List.not_mem_nil, or_false, not_or]; omega)).trans hT21, (hun _ (by simp only [List.mem_cons, List.not_mem_nil, or_false, not_or]; omega)).trans hT22, (hun _ (by simp only [List.mem_cons, List.not_mem_nil, or_false, not_or]; omega)).trans hT23, (hun _ (by simp only [List.mem_cons, List.not_mem_nil, or_false, not_or]; omega)).trans hT24, (hun _ (by simp only [List.mem_cons, List.not_mem_nil, or_false, not_or]; omega)).trans hT25, (hun _ (by simp only [List.mem_cons, List.not_mem_nil, or_false, not_or]; omega)).trans hT26, (hun _ (by simp only [List.mem_cons, List.not_mem_nil, or_false, not_or]; omega)).trans hT27, (hun _ (by simp only [List.mem_cons, List.not_mem_nil, or_false, not_or]; omega)).trans hT28, (hun _ (by simp only [List.mem_cons, List.not_mem_nil, or_false, not_or]; omega)).trans hT29, (hun _ (by simp only [List.mem_cons, List.not_mem_nil, or_false, not_or]; omega)).trans hT30, hA2⟩⟩
  · rintro E u ⟨c, hE, hc, hI2, hun, u0_0, u2_0, u3_0, u4_0, u4_1, u4_2, u4_3, u8_0, u8_1, u9_0, u10_0, u11_0, u12_0, u12_1, u12_2, u12_3, u12_4, u12_5, u12_6, hU0, hU1, hU2, hU3, hU4, hU5, hU6, hU7, hU8, hF⟩
    have hk := K_NH_format (t0_0 := t0_0) (t1_0 := t1_0) (t2_0 := t2_0) (t3_0 := t3_0) (t4_0 := t4_0) (t4_1 := t4_1) (t4_2 := t4_2) (t4_3 := t4_3) (t5_0 := t5_0) (t6_0 := t6_0) (t7_0 := t7_0) (t8_0 := t8_0) (t8_1 := t8_1) (t9_0 := t9_0) (t10_0 := t10_0) (t11_0 := t11_0) (t12_0 := t12_0) (t12_1 := t12_1) (t12_2 := t12_2) (t12_3 := t12_3) (t12_4 := t12_4) (t12_5 := t12_5) (t12_6 := t12_6) (t13_0 := t13_0) (t14_0 := t14_0) (t15_0 := t15_0) (t16_0 := t16_0) (t17_0 := t17_0) (t18_0 := t18_0) (t19_0 := t19_0) (t20_0 := t20_0) (t21_0 := t21_0) (t22_0 := t22_0) (t23_0 := t23_0) (t24_0 := t24_0) (t25_0 := t25_0) (t26_0 := t26_0) (t27_0 := t27_0) (t28_0 := t28_0) (t29_0 := t29_0) (t30_0 := t30_0)
    rw [← hF] at hk
    replace hk : kC3 c := hk
    refine ⟨⟨c, hE, hk.resolve_left hc⟩, ⟨hI2, ⟨fun i hi => ?_, fun i hi => ?_, ?_⟩, fun i hi => hun i (by simp only [List.mem_cons, List.not_mem_nil, or_false, not_or]; omega)⟩, ?_⟩
    · exact iW_fr (hC.1 i hi) (hun _ (by simp only [List.mem_cons, List.not_mem_nil, or_false, not_or]; omega)) (hun _ (by simp only [List.mem_cons, List.not_mem_nil, or_false, not_or]; omega))
    · exact iD_fr (hC.2.1 i hi) (hun _ (by simp only [List.mem_cons, List.not_mem_nil, or_false, not_or]; omega)) (hun _ (by simp only [List.mem_cons, List.not_mem_nil, or_false, not_or]; omega)) (hun _ (by simp only [List.mem_cons, List.not_mem_nil, or_false, not_or]; omega))
    · exact iO_fr hC.2.2 (hun _ (by simp only [List.mem_cons, List.not_mem_nil, or_false, not_or]; omega)) (hun _ (by simp only [List.mem_cons, List.not_mem_nil, or_false, not_or]; omega)) (hun _ (by simp only [List.mem_cons, List.not_mem_nil, or_false, not_or]; omega))
    · have hv := V_NH_format (t0_0 := t0_0) (t1_0 := t1_0) (t2_0 := t2_0) (t3_0 := t3_0) (t4_0 := t4_0) (t4_1 := t4_1) (t4_2 := t4_2) (t4_3 := t4_3) (t5_0 := t5_0) (t6_0 := t6_0) (t7_0 := t7_0) (t8_0 := t8_0) (t8_1 := t8_1) (t9_0 := t9_0) (t10_0 := t10_0) (t11_0 := t11_0) (t12_0 := t12_0) (t12_1 := t12_1) (t12_2 := t12_2) (t12_3 := t12_3) (t12_4 := t12_4) (t12_5 := t12_5) (t12_6 := t12_6) (t13_0 := t13_0) (t14_0 := t14_0) (t15_0 := t15_0) (t16_0 := t16_0) (t17_0 := t17_0) (t18_0 := t18_0) (t19_0 := t19_0) (t20_0 := t20_0) (t21_0 := t21_0) (t22_0 := t22_0) (t23_0 := t23_0) (t24_0 := t24_0) (t25_0 := t25_0) (t26_0 := t26_0) (t27_0 := t27_0) (t28_0 := t28_0) (t29_0 := t29_0) (t30_0 := t30_0) hL hA
      rw [← hF] at hv
      rcases hv with ⟨l0, _, p1, p2, p3, p4⟩ | ⟨_, z, _⟩
      · replace p1 : u0_0 = t0_0 := p1
        replace p2 : u2_0 = t2_0 := p2
        replace p3 : u3_0 = t3_0 := p3
        replace p4 : u4_0 = t4_0 := p4
        have hA2 := hA
        rw [← p4] at hA2
        refine ⟨Or.inl ⟨l0, rfl, rfl⟩, (fun i hi => cWr_fr (hS1 i hi) (hun _ (by simp only [List.mem_cons, List.not_mem_nil, or_false, not_or]; omega)) (hun _ (by simp only [List.mem_cons, List.not_mem_nil, or_false, not_or]; omega))), (fun i hi => cDr_fr (hS2 i hi) (hun _ (by simp only [List.mem_cons, List.not_mem_nil, or_false, not_or]; omega)) (hun _ (by simp only [List.mem_cons, List.not_mem_nil, or_false, not_or]; omega)) (hun _ (by simp only [List.mem_cons, List.not_mem_nil, or_false, not_or]; omega))), cFr_fr hS3 (hun _ (by simp only [List.mem_cons, List.not_mem_nil, or_false, not_or]; omega)), cFr_fr hS4 (hun _ (by simp only [List.mem_cons, List.not_mem_nil, or_false, not_or]; omega)), ⟨u0_0, _, hU0, (hun _ (by simp only [List.mem_cons, List.not_mem_nil, or_false, not_or]; omega)).trans hT1, by rw [p1]; exact hL, hB⟩, ⟨u2_0, u3_0, hU1, hU2, by rw [p2, p3]; exact hP⟩, ⟨u4_0, u4_1, u4_2, u4_3, _, _, _, _, _, _, _, _, _, _, _, _, _, _, _, _, _, _, _, _, _, hU3, (hun _ (by simp only [List.mem_cons, List.not_mem_nil, or_false, not_or]; omega)).trans hT5, (hun _ (by simp only [List.mem_cons, List.not_mem_nil, or_false, not_or]; omega)).trans hT6, (hun _ (by simp only [List.mem_cons, List.not_mem_nil, or_false, not_or]; omega)).trans hT7, (hun _ (by simp only [List.mem_cons, List.not_mem_nil, or_false, not_or]; omega)).trans hT13, (hun _ (by simp only [List.mem_cons, List.not_mem_nil, or_false, not_or]; omega)).trans hT14, (hun _ (by simp only [List.mem_cons, List.not_mem_nil, or_false, not_or]; omega)).trans hT15, (hun _ (by simp only [List.mem_cons, List.not_mem_nil, or_false, not_or]; omega)).trans hT16, (hun _ (by simp only [List.mem_cons, List.not_mem_nil, or_false, not_or]; omega)).trans hT17, (hun _ (by simp only [List.mem_cons, List.not_mem_nil, or_false, not_or]; omega)).trans hT18, (hun _ (by simp only [List.mem_cons, List.not_mem_nil, or_false, not_or]; omega)).trans hT19, (hun _ (by simp only [List.mem_cons, List.not_mem_nil, or_false, not_or]; omega)).trans hT20, (hun _ (by simp only [List.mem_cons, List.not_mem_nil, or_false, not_or]; omega)).trans hT21, (hun _ (by simp only [List.mem_cons, List.not_mem_nil, or_false, not_or]; omega)).trans hT22, (hun _ (by simp only [List.mem_cons, List.not_mem_nil, or_false, not_or]; omega)).trans hT23, (hun _ (by simp only [List.mem_cons, List.not_mem_nil, or_false, not_or]; omega)).trans hT24, (hun _ (by simp only [List.mem_cons, List.not_mem_nil, or_false, not_or]; omega)).trans hT25, (hun _ (by simp only [List.mem_cons, List.not_mem_nil, or_false, not_or]; omega)).trans hT26, (hun _ (by simp only [List.mem_cons, List.not_mem_nil, or_false, not_or]; omega)).trans hT27, (hun _ (by simp only [List.mem_cons, List.not_mem_nil, or_false, not_or]; omega)).trans hT28, (hun _ (by simp only [List.mem_cons, List.not_mem_nil, or_false, not_or]; omega)).trans hT29, (hun _ (by simp only [List.mem_cons, List.not_mem_nil, or_false, not_or]; omega)).trans hT30, hA2⟩⟩
      · exact absurd z hc
